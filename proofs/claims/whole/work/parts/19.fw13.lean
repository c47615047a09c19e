/-! OWN LAYER 13: calls of methods that catch, null, the two answers beside the memory, the first save -/
section FW13
section Rows13
variable {p : Program} {l : Launch} {e : Env} {R : Room} {s : State} {m : MethodId} {args : Array Value} {below : List Frame} {meth : Method} {c : Code} {cl : List vw_C} {D : va_G} {K : Nat → ClassId} {NL : List Nat} {ad : Nat → Nat} {A : Nat → Prop} {H0 : Heap} {nL cells slots : Nat} {Q : State → Prop}
variable {cc : ByteArray} {Ts : List Cond} {own : String} {G G1 : fM} {x x1 : fX} {pc : Nat} {L : List (Option Value)} {rest st0 : List Value} {rv : Option Value} {rm : Room}
theorem fk_callSh {index maxL nA : Nat} {y : MethodName} {bytes : ByteArray} {ret : Option FieldType} {hh : List (Nat × Nat × Nat × Nat)} {wsc : List Cond} {As : List Value} (hC : Cx p s m args c cc nL Ts own cl D K NL ad A s.heap) (hX : CxX p l s c A) (h : Kh l y wsc rm cl D K NL ad As G x rv G1 x1)
    (cw : vx_CSW R s args own index y bytes maxL ret hh wsc rm rm.cells rm.slots nA) (hAs : As.length = nA) (hst : st0 = f_stk As rest) (hW : (rest.map fun v => v.category).sum ≤ 8) (hdg : decode cc pc = .ok (.invokestatic index, 3)) (hf : cells + rm.cells ≤ R.cells ∧ slots + rm.slots ≤ R.slots)
    (kk : Wk p l e R s m args below meth c cl D K NL ad A s.heap nL (cells + rm.cells) (slots + rm.slots) Q G1 x1 (pc + 3) L (f_psh rv rest)) : Wk p l e R s m args below meth c cl D K NL ad A s.heap nL cells slots Q G x pc L st0 := fun H locs ls h1 h2 h3 =>
  f_back hC (vx_runSW (As := As) (rest := rest) hC.1 (h H.size) cw ⟨f_blindX, f_preX_of hC hX h1 h2⟩ rfl hAs h3.1 (hst.trans (f_stk_eq _ _)) (lv_room hW) hdg hf) h2 h3 kk
theorem fk_ifnonnull (hC : Cx p s m args c cc nL Ts own cl D K NL ad A H0) {u : Nat} {off : Int} {tgt : Nat} (hdg : decode cc pc = .ok (.ifnonnull off, 3)) (ht : (pc : Int) + off = (tgt : Int)) (kk : Wk p l e R s m args below meth c cl D K NL ad A H0 nL cells slots Q G x tgt L rest) : Wk p l e R s m args below meth c cl D K NL ad A H0 nL cells slots Q G x pc L (.ref u :: rest) := fun H locs ls h1 h2 h3 => lv_ifnonnull hC.hx hC.hb hdg ht (kk H locs ls h1 h2 h3)
theorem fk_ifnonnullN (hC : Cx p s m args c cc nL Ts own cl D K NL ad A H0) {off : Int} (hdg : decode cc pc = .ok (.ifnonnull off, 3)) (kk : Wk p l e R s m args below meth c cl D K NL ad A H0 nL cells slots Q G x (pc + 3) L rest) : Wk p l e R s m args below meth c cl D K NL ad A H0 nL cells slots Q G x pc L (.null :: rest) := fun H locs ls h1 h2 h3 => lv_ifnonnullN hC.hx hC.hb hdg (kk H locs ls h1 h2 h3)
theorem fk_astore_nN (hC : Cx p s m args c cc nL Ts own cl D K NL ad A H0) {k : Fin 4} {i : Nat} (hdg : decode cc pc = .ok (.astore_n k, 1)) (hi : (k : Nat) = i) (hn : i < nL) (hc : f_c1 L i = true) (kk : Wk p l e R s m args below meth c cl D K NL ad A H0 nL cells slots Q G x (pc + 1) (f_set L i (some .null)) rest) : Wk p l e R s m args below meth c cl D K NL ad A H0 nL cells slots Q G x pc L (.null :: rest) := fun H locs ls h1 h2 h3 => lv_astore_nN hC.hx hC.hb hdg hi h3 hn rfl (fun ls1 h4 => kk H locs ls1 h1 h2 (f_L.set1 hc h4))
theorem fk_aload_nN (hC : Cx p s m args c cc nL Ts own cl D K NL ad A H0) {k : Fin 4} {i : Nat} (hdg : decode cc pc = .ok (.aload_n k, 1)) (hi : (k : Nat) = i) (hl : f_nth L i = some .null) (kk : Wk p l e R s m args below meth c cl D K NL ad A H0 nL cells slots Q G x (pc + 1) L (.null :: rest)) : Wk p l e R s m args below meth c cl D K NL ad A H0 nL cells slots Q G x pc L rest := fun H locs ls h1 h2 h3 => lv_aload_nN hC.hx hC.hb hdg hi (h3.at hl) (kk H locs ls h1 h2 h3)
theorem fk_dcmp (hC : Cx p s m args c cc nL Ts own cl D K NL ad A H0) {a b : UInt64} {op : CmpOp} (hdg : decode cc pc = .ok (.dcmp op, 1)) (kk : Wk p l e R s m args below meth c cl D K NL ad A H0 nL cells slots Q G x (pc + 1) L (.int (Op.cmpValue (FP.dcmp a b) op) :: rest)) : Wk p l e R s m args below meth c cl D K NL ad A H0 nL cells slots Q G x pc L (.double b :: .double a :: rest) := fun H locs ls h1 h2 h3 => lv_dcmp hC.hx hC.hb hdg (kk H locs ls h1 h2 h3)
/-- the names that are used -/
def f_OK (NL : List Nat) : Prop := ∀ n, n ∈ NL → n < 300 ∨ n = 300 ∨ n = 301 ∨ n = 310 ∨ n = 311 ∨ n = 312 ∨ n = 313 ∨ n = 314 ∨ n = 320 ∨ n = 321
theorem f_E_x1 {n : Nat} {v : Int64} (h : n ≠ 320) : f_E K NL ad G (v, x.2) n = f_E K NL ad G x n := by
  delta f_E
  dsimp only
  repeat (first | rfl | (split; rfl))
  all_goals first | rfl | (rw [if_neg h, if_neg h])
theorem f_E_x2 {n : Nat} {v : UInt64} (h : n ≠ 321) (hok : n < 300 ∨ n = 300 ∨ n = 301 ∨ n = 310 ∨ n = 311 ∨ n = 312 ∨ n = 313 ∨ n = 314 ∨ n = 320 ∨ n = 321) : f_E K NL ad G (x.1, v) n = f_E K NL ad G x n := by
  rcases hok with h1 | rfl | rfl | rfl | rfl | rfl | rfl | rfl | rfl | h1
  · rw [f_Est _ _ _ _ _ _ h1, f_Est _ _ _ _ _ _ h1]
  all_goals first | rfl | exact absurd h1 h
theorem f_P_x' {q n : Nat} {e9 : va_E} {H : Heap} (hD : f_D A NL ad) (hq : NL[q]? = some n) (hn : ∀ n', n' ∈ NL → n' ≠ n → f_E K NL ad G x1 n' = f_E K NL ad G x n') (he : va_at D cl (ad n, e9) H → va_at D cl (ad n, f_E K NL ad G x1 n) H) (h : va_P D cl ((f_W K NL ad G x).set q (ad n, e9)) H) : va_P D cl (f_W K NL ad G x1) H := by
  have hl : q < (f_W K NL ad G x).length := by
    rw [List.length_map]; exact (List.getElem?_eq_some_iff.mp hq).1
  intro k z hz
  obtain ⟨n', h1, h2⟩ := f_W_of hz
  subst h2
  by_cases hk : k = q
  · subst hk
    cases Option.some.inj (h1.symm.trans hq)
    exact he (h k (ad n, e9) (by rw [List.getElem?_set_self hl]))
  · have := h k (ad n', f_E K NL ad G x n') (by rw [List.getElem?_set_ne (Ne.symm hk)]; exact f_W_at h1)
    rw [hn n' (List.mem_of_getElem? h1) (fun e9 => hk ?_)]
    · exact this
    · rw [e9] at h1
      exact hD.1 k q (ad n, Sum.inr (0, [])) (ad n, Sum.inr (0, [])) (by rw [List.getElem?_map, h1]; rfl) (by rw [List.getElem?_map, hq]; rfl) rfl
theorem f_1l {cA : ClassId} {f g : Nat → Int64} (h : f 0 = g 0) : vp_cell cA (1, .inr (.inl f)) = vp_cell cA (1, .inr (.inl g)) := by
  rw [vp_cell_l, vp_cell_l]
  unfold arrV
  congr 1
  apply Array.ext
  · simp
  · intro i h1 h2
    simp only [Array.getElem_ofFn]
    have : i = 0 := by simp at h1; omega
    subst this
    rw [h]
theorem f_1d {cA : ClassId} {f g : Nat → UInt64} (h : f 0 = g 0) : vp_cell cA (1, .inr (.inr (.inr (.inl f)))) = vp_cell cA (1, .inr (.inr (.inr (.inl g)))) := by
  rw [vp_cell_d, vp_cell_d]
  unfold arrV
  congr 1
  apply Array.ext
  · simp
  · intro i h1 h2
    simp only [Array.getElem_ofFn]
    have : i = 0 := by simp at h1; omega
    subst this
    rw [h]
theorem f_in01 : vp_in 0 1 := by
  unfold vp_in
  decide
theorem fk_last (hC : Cx p s m args c cc nL Ts own cl D K NL ad A H0) {v : Int64} (hn : 320 ∈ NL) (hdg : decode cc pc = .ok (.lastore, 1)) (kk : Wk p l e R s m args below meth c cl D K NL ad A H0 nL cells slots Q G (v, x.2) (pc + 1) L rest) : Wk p l e R s m args below meth c cl D K NL ad A H0 nL cells slots Q G x pc L (.long v :: .int 0 :: .ref (ad 320) :: rest) := fun H locs ls h1 h2 h3 => by
  obtain ⟨q, hq⟩ := List.getElem?_of_mem hn
  refine va_last hC.hx hC.hb hC.hK h1 hC.hD.to h2 q 4 ((f_W_at hq).trans (by rw [f_E320])) rfl f_in01 hdg (fun H1 locs1 hP _ hS => kk H1 locs1 ls (f_P_x' hC.hD hq (fun n' _ h => f_E_x1 h) (fun h => ?_) hP) hS h3)
  rw [f_E320]
  show H1[ad 320]? = some (vp_cell _ _)
  rw [f_1l (f := fun _ => (v, x.2).1) (g := vp_updL (fun _ => x.1) (0 : Int32).toNatClampNeg v) rfl]
  exact h
theorem fk_dast (hC : Cx p s m args c cc nL Ts own cl D K NL ad A H0) (hok : f_OK NL) {v : UInt64} (hn : 321 ∈ NL) (hdg : decode cc pc = .ok (.dastore, 1)) (kk : Wk p l e R s m args below meth c cl D K NL ad A H0 nL cells slots Q G (x.1, v) (pc + 1) L rest) : Wk p l e R s m args below meth c cl D K NL ad A H0 nL cells slots Q G x pc L (.double v :: .int 0 :: .ref (ad 321) :: rest) := fun H locs ls h1 h2 h3 => by
  obtain ⟨q, hq⟩ := List.getElem?_of_mem hn
  refine va_dast hC.hx hC.hb hC.hK h1 hC.hD.to h2 q 5 ((f_W_at hq).trans (by rw [f_E321])) rfl f_in01 hdg (fun H1 locs1 hP _ hS => kk H1 locs1 ls (f_P_x' hC.hD hq (fun n' hn' h => f_E_x2 h (hok n' hn')) (fun h => ?_) hP) hS h3)
  rw [f_E321]
  show H1[ad 321]? = some (vp_cell _ _)
  rw [f_1d (f := fun _ => (x.1, v).2) (g := vf_upd (fun _ => x.2) (0 : Int32).toNatClampNeg v) rfl]
  exact h
theorem fk_lald (hC : Cx p s m args c cc nL Ts own cl D K NL ad A H0) (hn : 320 ∈ NL) (hdg : decode cc pc = .ok (.laload, 1)) (kk : Wk p l e R s m args below meth c cl D K NL ad A H0 nL cells slots Q G x (pc + 1) L (.long x.1 :: rest)) : Wk p l e R s m args below meth c cl D K NL ad A H0 nL cells slots Q G x pc L (.int 0 :: .ref (ad 320) :: rest) := fun H locs ls h1 h2 h3 => by
  obtain ⟨q, hq⟩ := List.getElem?_of_mem hn
  exact va_lald hC.hx hC.hb hC.hK h1 q 4 ((f_W_at hq).trans (by rw [f_E320])) rfl f_in01 hdg (kk H locs ls h1 h2 h3)
theorem fk_dald (hC : Cx p s m args c cc nL Ts own cl D K NL ad A H0) (hn : 321 ∈ NL) (hdg : decode cc pc = .ok (.daload, 1)) (kk : Wk p l e R s m args below meth c cl D K NL ad A H0 nL cells slots Q G x (pc + 1) L (.double x.2 :: rest)) : Wk p l e R s m args below meth c cl D K NL ad A H0 nL cells slots Q G x pc L (.int 0 :: .ref (ad 321) :: rest) := fun H locs ls h1 h2 h3 => by
  obtain ⟨q, hq⟩ := List.getElem?_of_mem hn
  exact va_dald hC.hx hC.hb hC.hK h1 q 5 ((f_W_at hq).trans (by rw [f_E321])) rfl f_in01 hdg (kk H locs ls h1 h2 h3)
end Rows13
end FW13
