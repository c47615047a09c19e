/-! the law: what holds all through it, its calls, the loads of its script -/
section LAWFW
abbrev lA (s : State) : Nat → Prop := fun q => s.heap.size ≤ q
abbrev lL (b : Nat) (ad : Nat → Nat) (i : Nat) : List (Option Value) := [some (.ref b), some (.ref (ad 300)), some (.ref (ad 310)), some (.ref (ad 320)), some (.ref (ad 321)), some (.int (nI i)), none, none, none]
def bz (v : Int32) : Int32 := if v = 0 then 0 else 1
theorem bz_01 (v : Int32) : bz v = 0 ∨ bz v = 1 := by
  unfold bz
  split
  · exact Or.inl rfl
  · exact Or.inr rfl
/-- what holds all through the law -/
def Lx (p : Program) (l : Launch) (s : State) (m : MethodId) (c : Code) (D : va_G) (K : Nat → ClassId) (NL : List Nat) (ad : Nat → Nat) (b N : Nat) (xs : Nat → Int32) : Prop :=
  Cx p s m #[Value.ref b] c cL_law 9 wsL_law RL vwCl D K NL ad (lA s) s.heap ∧ CxX p l s c (lA s) ∧ f_NI s ∧ va_X b N xs s s.heap ∧ b < s.heap.size ∧ N ≤ 1536
abbrev WL (p : Program) (l : Launch) (e : Env) (s : State) (m : MethodId) (below : List Frame) (meth : Method) (c : Code) (D : va_G) (K : Nat → ClassId) (NL : List Nat) (ad : Nat → Nat) (b cells slots : Nat) (Q : State → Prop) (G : fM) (x : fX) (pc : Nat) (L : List (Option Value)) (st : List Value) : Prop :=
  Wk p l e room_1 s m #[Value.ref b] below meth c vwCl D K NL ad (lA s) s.heap 9 cells slots Q G x pc L st
section RowsL
variable {p : Program} {l : Launch} {e : Env} {s : State} {m : MethodId} {below : List Frame} {meth : Method} {c : Code} {D : va_G} {K : Nat → ClassId} {NL : List Nat} {ad : Nat → Nat} {b N cells slots : Nat} {xs : Nat → Int32} {Q : State → Prop}
variable {G G1 : fM} {x x1 : fX} {pc : Nat} {L : List (Option Value)} {rest st0 : List Value} {rv : Option Value}
theorem fl_sld (hX : Lx p l s m c D K NL ad b N xs) {v : Int32} {j : Nat} (hv : v = nI j) (hj : j < N) (hdg : decode cL_law pc = .ok (.iaload, 1)) (kk : WL p l e s m below meth c D K NL ad b cells slots Q G x (pc + 1) L (.int (xs j) :: rest)) : WL p l e s m below meth c D K NL ad b cells slots Q G x pc L (.int v :: .ref b :: rest) := fun H locs ls h1 h2 h3 => by
  subst hv
  have hN := hX.2.2.2.2.2
  have hbl := hX.2.2.2.2.1
  refine va_sld hX.1.hx hX.1.hb hX.2.2.2.1 hbl (Nat.not_le.mpr hbl) h2 (vp_in_nI hj (by omega)) hdg ?_
  rw [nI_clamp (by omega)]
  exact kk H locs ls h1 h2 h3
theorem fl_slen (hX : Lx p l s m c D K NL ad b N xs) (hdg : decode cL_law pc = .ok (.arraylength, 1)) (kk : WL p l e s m below meth c D K NL ad b cells slots Q G x (pc + 1) L (.int (nI N) :: rest)) : WL p l e s m below meth c D K NL ad b cells slots Q G x pc L (.ref b :: rest) := fun H locs ls h1 h2 h3 =>
  va_slen hX.1.hx hX.1.hb hX.2.2.2.1 hX.2.2.2.2.1 (Nat.not_le.mpr hX.2.2.2.2.1) h2 hdg (kk H locs ls h1 h2 h3)
/-- script[i + k] -/
theorem fl_arg (hX : Lx p l s m c D K NL ad b N xs) {i k : Nat} {kI : Int} (h0 : f_nth L 0 = some (.ref b)) (h5 : f_nth L 5 = some (.int (nI i))) (hk : Int32.ofInt kI = nI k) (hlt : i + k < N) (d0 : decode cL_law pc = .ok (.aload_n 0, 1)) (d1 : decode cL_law (pc + 1) = .ok (.iload 5, 2)) (d2 : decode cL_law (pc + 3) = .ok (.iconst kI, 1)) (d3 : decode cL_law (pc + 4) = .ok (.iadd, 1)) (d4 : decode cL_law (pc + 5) = .ok (.iaload, 1))
    (kk : WL p l e s m below meth c D K NL ad b cells slots Q G x (pc + 6) L (.int (xs (i + k)) :: rest)) : WL p l e s m below meth c D K NL ad b cells slots Q G x pc L rest := by
  refine fk_aload_n hX.1 d0 rfl h0 ?_
  refine fk_iload hX.1 d1 h5 ?_
  refine fk_iconst (v := nI k) hX.1 d2 hk ?_
  refine fk_iadd hX.1 d3 ?_
  exact fl_sld hX (nI_add i k) hlt d4 kk
/-- a truth value out of an int -/
theorem fl_bool (hX : Lx p l s m c D K NL ad b N xs) {v : Int32} (d0 : decode cL_law pc = .ok (.ifCond .eq 7, 3)) (d3 : decode cL_law (pc + 3) = .ok (.iconst 1, 1)) (d4 : decode cL_law (pc + 4) = .ok (.goto 4, 3)) (d7 : decode cL_law (pc + 7) = .ok (.iconst 0, 1))
    (kk : WL p l e s m below meth c D K NL ad b cells slots Q G x (pc + 8) L (.int (bz v) :: rest)) : WL p l e s m below meth c D K NL ad b cells slots Q G x pc L (.int v :: rest) := by
  refine fk_if_eq (tgt := pc + 7) hX.1 d0 (by omega) (fun h => ?_) (fun h => ?_)
  · refine fk_iconst (v := 0) hX.1 d7 (by decide) ?_
    have e9 : bz v = 0 := by unfold bz; rw [if_pos h]
    rw [e9] at kk
    exact kk
  · refine fk_iconst (v := 1) hX.1 d3 (by decide) ?_
    refine fk_goto (tgt := pc + 8) hX.1 d4 (by omega) ?_
    have e9 : bz v = 1 := by unfold bz; rw [if_neg h]
    rw [e9] at kk
    exact kk
theorem fl_lbool (hX : Lx p l s m c D K NL ad b N xs) {v : Int32} {w : Int64} (hw : w = if v = 0 then 0 else 1) (d0 : decode cL_law pc = .ok (.ifCond .eq 7, 3)) (d3 : decode cL_law (pc + 3) = .ok (.lconst 1, 1)) (d4 : decode cL_law (pc + 4) = .ok (.goto 4, 3)) (d7 : decode cL_law (pc + 7) = .ok (.lconst 0, 1))
    (kk : WL p l e s m below meth c D K NL ad b cells slots Q G x (pc + 8) L (.long w :: rest)) : WL p l e s m below meth c D K NL ad b cells slots Q G x pc L (.int v :: rest) := by
  refine fk_if_eq (tgt := pc + 7) hX.1 d0 (by omega) (fun h => ?_) (fun h => ?_)
  · refine fk_lconst (v := 0) hX.1 d7 (by decide) ?_
    rw [if_pos h] at hw
    subst hw
    exact kk
  · refine fk_lconst (v := 1) hX.1 d3 (by decide) ?_
    refine fk_goto (tgt := pc + 8) hX.1 d4 (by omega) ?_
    rw [if_neg h] at hw
    subst hw
    exact kk
theorem fl_callH {index maxL nA : Nat} {y : MethodName} {bytes : ByteArray} {ret : Option FieldType} {hh : List (Nat × Nat × Nat × Nat)} {ws ws' : List Cond} {As : List Value} (hX : Lx p l s m c D K NL ad b N xs) (h : KhE l y ws D K NL ad As G x rv G1 x1)
    (hT : GoodIn wsL_law (va_wsS RL index y ws)) (hw : ws = Cond.codeWith y bytes maxL ret hh :: ws') (hd : y.cls ≠ "java/lang/invoke/MethodHandle" ∧ y.cls ≠ "java/lang/invoke/VarHandle" ∧ (parseMethodDescriptor y.desc).map (fun d => d.parameters.length) = some nA) (hm : maxL ≤ 100) (hAs : As.length = nA) (hst : st0 = f_stk As rest) (hW : (rest.map fun v => v.category).sum ≤ 8) (hdg : decode cL_law pc = .ok (.invokestatic index, 3)) (hc : cells + 1 ≤ 601024) (hs : slots + 6 ≤ 7293034)
    (kk : WL p l e s m below meth c D K NL ad b (cells + 1) (slots + 6) Q G1 x1 (pc + 3) L (f_psh rv rest)) : WL p l e s m below meth c D K NL ad b cells slots Q G x pc L st0 := by
  obtain ⟨rm, ⟨r1, r2, r3, r4⟩, hK⟩ := h
  exact fk_callSh hX.1 hX.2.1 hK (vx_cwSW nA hX.1.1.2.2.2.2 hT hw rfl rfl hd ⟨by show rm.frames + 1 ≤ 15; omega, by show 8 + (maxL + 11) + rm.locals ≤ 554; omega⟩) hAs hst hW hdg ⟨by show cells + rm.cells ≤ 601024; omega, by show slots + rm.slots ≤ 7293034; omega⟩ (fk_widen (by omega) (by omega) kk)
theorem fl_callV {n ci index maxL nA : Nat} {y : MethodName} {bytes : ByteArray} {ret : Option FieldType} {ws ws' : List Cond} {q0 : vw_C} {fs As : List Value} (hX : Lx p l s m c D K NL ad b N xs) (h : KdE l y ws D K NL ad (.ref (ad n) :: As) G x rv G1) (hn : n ∈ NL) (he : f_E K NL ad G x n = .inr (ci, fs)) (hcl : vwCl[ci]? = some q0)
    (hT : GoodIn wsL_law (wsV RL index q0.1 y ws)) (hw : ws = Cond.code y bytes maxL ret :: ws') (hd : y.cls = q0.1 ∧ y.cls ≠ "java/lang/invoke/MethodHandle" ∧ y.cls ≠ "java/lang/invoke/VarHandle" ∧ (parseMethodDescriptor y.desc).map (fun d => d.parameters.length) = some nA) (hm : maxL ≤ 100) (hAs : As.length = nA) (hst : st0 = f_stk As (.ref (ad n) :: rest)) (hW : (rest.map fun v => v.category).sum ≤ 8) (hdg : decode cL_law pc = .ok (.invokevirtual index, 3)) (hc : cells + 1 ≤ 601024) (hs : slots + 6 ≤ 7293034)
    (kk : WL p l e s m below meth c D K NL ad b (cells + 1) (slots + 6) Q G1 x (pc + 3) L (f_psh rv rest)) : WL p l e s m below meth c D K NL ad b cells slots Q G x pc L st0 := by
  obtain ⟨rm, ⟨r1, r2, r3, r4⟩, hK⟩ := h
  exact fk_callV hX.1 hX.2.1.2.1 hK hn he hcl (cwV nA hX.1.1.2.2.2.2 hT hw rfl rfl hd ⟨by show rm.frames + 1 ≤ 15; omega, by show 8 + (maxL + 11) + rm.locals ≤ 554; omega⟩) hAs hst hW hdg ⟨by show cells + rm.cells ≤ 601024; omega, by show slots + rm.slots ≤ 7293034; omega⟩ (fk_widen (by omega) (by omega) kk)
/-- m.thrown() is what the helper said -/
theorem fl_tT (hX : Lx p l s m c D K NL ad b N xs) (hm : f_EM NL) {k : Int32} (h2 : f_nth L 2 = some (.ref (ad 310))) (h6 : f_nth L 6 = some (.int k)) (hk : G (iT 0) = k) (hc : cells + 1 ≤ 601024) (hs : slots + 6 ≤ 7293034) (d0 : decode cL_law pc = .ok (.aload_n 2, 1)) (d1 : decode cL_law (pc + 1) = .ok (.invokevirtual 99, 3)) (d4 : decode cL_law (pc + 4) = .ok (.iload 6, 2)) (d6 : decode cL_law (pc + 6) = .ok (.if_icmp .eq 5, 3))
    (kk : WL p l e s m below meth c D K NL ad b (cells + 1) (slots + 6) Q G x (pc + 11) L []) : WL p l e s m below meth c D K NL ad b cells slots Q G x pc L [] := by
  refine fk_aload_n hX.1 d0 rfl h2 ?_
  refine fl_callV (nA := 0) (As := []) hX (KdE.mk (kX6_thrown l D K NL ad G x hm) ⟨by decide, by decide, by decide, by decide⟩) hm.1 (f_E310 _ _ _ _ _) rfl gL_law_X6_thrown rfl (by decide +kernel) (Nat.le_of_ble_eq_true rfl) rfl rfl (Nat.le_of_ble_eq_true rfl) d1 hc hs ?_
  refine fk_iload hX.1 d4 h6 ?_
  refine fk_icmp_eq (tgt := pc + 11) hX.1 d6 (by omega) (fun _ => kk) (fun h => absurd hk h)
/-- an int's answer -/
theorem fl_tI (hX : Lx p l s m c D K NL ad b N xs) (hm : 320 ∈ NL) {k v : Int32} {off : Int} (h3 : f_nth L 3 = some (.ref (ad 320))) (h6 : f_nth L 6 = some (.int k)) (h7 : f_nth L 7 = some (.int v)) (hv : k = 0 → x.1 = v.toInt64) (d0 : decode cL_law pc = .ok (.iload 6, 2)) (d2 : decode cL_law (pc + 2) = .ok (.ifCond .ne 15, 3)) (d5 : decode cL_law (pc + 5) = .ok (.aload_n 3, 1)) (d6 : decode cL_law (pc + 6) = .ok (.iconst 0, 1)) (d7 : decode cL_law (pc + 7) = .ok (.laload, 1)) (d8 : decode cL_law (pc + 8) = .ok (.iload 7, 2)) (d10 : decode cL_law (pc + 10) = .ok (.i2l, 1)) (d11 : decode cL_law (pc + 11) = .ok (.lcmp, 1)) (d12 : decode cL_law (pc + 12) = .ok (.ifCond .eq 5, 3)) (d17 : decode cL_law (pc + 17) = .ok (.goto off, 3)) (ht : ((pc + 17 : Nat) : Int) + off = ((1557 : Nat) : Int))
    (kk : WL p l e s m below meth c D K NL ad b cells slots Q G x 1557 L []) : WL p l e s m below meth c D K NL ad b cells slots Q G x pc L [] := by
  have kg : WL p l e s m below meth c D K NL ad b cells slots Q G x (pc + 17) L [] := fk_goto (tgt := 1557) hX.1 d17 ht kk
  refine fk_iload hX.1 d0 h6 ?_
  refine fk_if_ne (tgt := pc + 17) hX.1 d2 (by omega) (fun _ => kg) (fun h => ?_)
  refine fk_aload_n hX.1 d5 rfl h3 ?_
  refine fk_iconst (v := 0) hX.1 d6 (by decide) ?_
  refine fk_lald hX.1 hm d7 ?_
  refine fk_iload hX.1 d8 h7 ?_
  refine fk_i2l hX.1 d10 rfl ?_
  refine fk_lcmp hX.1 d11 ?_
  exact fk_if_eq (tgt := pc + 17) hX.1 d12 (by omega) (fun _ => kg) (fun h9 => absurd ((lg_cmp_eq _ _).mpr (hv h)) h9)
/-- a truth value's answer -/
theorem fl_tZ (hX : Lx p l s m c D K NL ad b N xs) (hm : 320 ∈ NL) {k v : Int32} {off : Int} (h3 : f_nth L 3 = some (.ref (ad 320))) (h6 : f_nth L 6 = some (.int k)) (h7 : f_nth L 7 = some (.int v)) (hv : k = 0 → x.1 = if v = 0 then 0 else 1) (d0 : decode cL_law pc = .ok (.iload 6, 2)) (d2 : decode cL_law (pc + 2) = .ok (.ifCond .ne 22, 3)) (d5 : decode cL_law (pc + 5) = .ok (.aload_n 3, 1)) (d6 : decode cL_law (pc + 6) = .ok (.iconst 0, 1)) (d7 : decode cL_law (pc + 7) = .ok (.laload, 1)) (d8 : decode cL_law (pc + 8) = .ok (.iload 7, 2)) (d10 : decode cL_law (pc + 10) = .ok (.ifCond .eq 7, 3)) (d13 : decode cL_law (pc + 13) = .ok (.lconst 1, 1)) (d14 : decode cL_law (pc + 14) = .ok (.goto 4, 3)) (d17 : decode cL_law (pc + 17) = .ok (.lconst 0, 1)) (d18 : decode cL_law (pc + 18) = .ok (.lcmp, 1)) (d19 : decode cL_law (pc + 19) = .ok (.ifCond .eq 5, 3)) (d24 : decode cL_law (pc + 24) = .ok (.goto off, 3)) (ht : ((pc + 24 : Nat) : Int) + off = ((1557 : Nat) : Int))
    (kk : WL p l e s m below meth c D K NL ad b cells slots Q G x 1557 L []) : WL p l e s m below meth c D K NL ad b cells slots Q G x pc L [] := by
  have kg : WL p l e s m below meth c D K NL ad b cells slots Q G x (pc + 24) L [] := fk_goto (tgt := 1557) hX.1 d24 ht kk
  refine fk_iload hX.1 d0 h6 ?_
  refine fk_if_ne (tgt := pc + 24) hX.1 d2 (by omega) (fun _ => kg) (fun h => ?_)
  refine fk_aload_n hX.1 d5 rfl h3 ?_
  refine fk_iconst (v := 0) hX.1 d6 (by decide) ?_
  refine fk_lald hX.1 hm d7 ?_
  refine fk_iload hX.1 d8 h7 ?_
  refine fl_lbool (w := x.1) hX (hv h) d10 d13 d14 d17 ?_
  refine fk_lcmp hX.1 d18 ?_
  exact fk_if_eq (tgt := pc + 24) hX.1 d19 (by omega) (fun _ => kg) (fun h9 => absurd ((lg_cmp_eq _ _).mpr rfl) h9)
/-- what the rest of the loop owes behind a call -/
def KK (p : Program) (l : Launch) (e : Env) (s : State) (m : MethodId) (below : List Frame) (meth : Method) (c : Code) (D : va_G) (K : Nat → ClassId) (b N : Nat) (xs : Nat → Int32) (cells slots : Nat) (Q : State → Prop) (n : Nat) : Prop :=
  ∀ (NL : List Nat) (ad : Nat → Nat) (G : fM) (x : fX), Lx p l s m c D K NL ad b N xs → RelA (n + 1) NL G → WL p l e s m below meth c D K NL ad b (cells + 40) (slots + 4000) Q G x 1557 (lL b ad (3 * n)) []
theorem lL_eq {i : Nat} {ad2 : Nat → Nat} (h0 : ad2 300 = ad 300) (h1 : ad2 310 = ad 310) (h2 : ad2 320 = ad 320) (h3 : ad2 321 = ad 321) : lL b ad2 i = lL b ad i := by
  unfold lL
  rw [h0, h1, h2, h3]
end RowsL
end LAWFW
