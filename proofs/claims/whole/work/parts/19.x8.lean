/-! save and restore -/
section FW14
def adx (ad : Nat → Nat) (t : Nat) (a : Nat → Nat) : Nat → Nat := fun n => if 100 * (t + 1) ≤ n ∧ n < 100 * (t + 2) then a (n - 100 * (t + 1)) else ad n
def Gx (G : fM) (t : Nat) : fM := fun g => if 10000 * (t + 1) ≤ g ∧ g < 10000 * (t + 2) then I0 (g - 10000 * (t + 1)) else G g
def NLx (NL : List Nat) (t : Nat) : List Nat := NL ++ X4o.map (fun k => 100 * (t + 1) + k)
theorem X4o_all : ∀ k, k < 30 → k ∈ X4o := by decide
theorem X4o_lt : ∀ k ∈ X4o, k < 30 := by decide
theorem f_own_div {g : Nat} (h : g < 30000) : f_own g / 100 = g / 10000 := by
  unfold f_own
  rw [if_pos h]
  repeat (first | omega | split)
theorem f_own_ge {g : Nat} (h : ¬ g < 30000) : 300 ≤ f_own g := by
  unfold f_own
  rw [if_neg h]
  repeat (first | omega | split)
theorem f_st_ad {D : va_G} {cl : List vw_C} {K : Nat → ClassId} {ad ad' : Nat → Nat} {G : fM} {s k a : Nat} {H : Heap} (hk : k < 30) (he : ∀ j, j < 40 → ad' (100 * s + j) = ad (100 * s + j)) (h : va_at D cl (a, f_st K ad G s k) H) : va_at D cl (a, f_st K ad' G s k) H := by
  by_cases h1 : k = 1
  · subst h1
    rw [f_st1] at h ⊢
    show H[a]? = some (vp_cell _ _)
    rw [f_ra_cell (f := fun j => some (ad' (100 * s + 10 + j))) (g := fun j => some (ad (100 * s + 10 + j))) (fun j hj => by rw [Nat.add_assoc, he (10 + j) (by omega)])]
    exact h
  · have e9 : f_st K ad' G s k = f_st K ad G s k := by
      unfold f_st
      rw [he 1 (by decide), he 2 (by decide), he 3 (by decide), he 4 (by decide), he 5 (by decide), he 6 (by decide), he 7 (by decide), he 8 (by decide), he 9 (by decide), if_neg h1, if_neg h1]
      by_cases h2 : k < 20
      · have : ad' (100 * s + 10 + k) = ad (100 * s + 10 + k) := by rw [Nat.add_assoc, he (10 + k) (by omega)]
        rw [this]
      · rw [if_neg h2, if_neg h2]
    rw [e9]
    exact h
theorem f_st_sh (K : Nat → ClassId) (ad : Nat → Nat) (G : fM) (z k : Nat) : f_st K ad G z k = f_st K (fun j => ad (100 * z + j)) (fun g => G (10000 * z + g)) 0 k := by
  unfold f_st
  simp only [Nat.mul_zero, Nat.zero_add, ← Nat.add_assoc, f_fS, f_ra, f_f3, f_ia, f_fV, f_fB, Nat.add_zero]
theorem Gx_in {G : fM} {t g : Nat} (h : g < 10000) : Gx G t (10000 * (t + 1) + g) = I0 g := by
  unfold Gx
  rw [if_pos ⟨by omega, by omega⟩, Nat.add_sub_cancel_left]
theorem Gx_out {G : fM} {t g : Nat} (h : g < 10000 * (t + 1) ∨ 10000 * (t + 2) ≤ g) : Gx G t g = G g := by
  unfold Gx
  rw [if_neg (by omega)]
theorem adx_in {ad a : Nat → Nat} {t k : Nat} (h : k < 100) : adx ad t a (100 * (t + 1) + k) = a k := by
  unfold adx
  rw [if_pos ⟨by omega, by omega⟩, Nat.add_sub_cancel_left]
theorem adx_out {ad a : Nat → Nat} {t n : Nat} (h : n < 100 * (t + 1) ∨ 100 * (t + 2) ≤ n) : adx ad t a n = ad n := by
  unfold adx
  rw [if_neg (by omega)]
def f_free (NL : List Nat) (t : Nat) : Prop := ∀ n, n ∈ NL → n < 100 * (t + 1) ∨ 100 * (t + 2) ≤ n
theorem NLx_mem {NL : List Nat} {t n : Nat} (h : n < 100 * (t + 1) ∨ 100 * (t + 2) ≤ n) : n ∈ NLx NL t ↔ n ∈ NL := by
  unfold NLx
  rw [List.mem_append, List.mem_map]
  constructor
  · rintro (h1 | ⟨k, h1, rfl⟩)
    · exact h1
    · have := X4o_lt k h1
      omega
  · exact Or.inl
theorem NLx_in {NL : List Nat} {t k : Nat} (h : k < 30) : 100 * (t + 1) + k ∈ NLx NL t := List.mem_append_right _ (List.mem_map_of_mem (X4o_all k h))
theorem NLx_ES {NL : List Nat} {t : Nat} (h : t < 2) : f_ES (NLx NL t) (t + 1) := ⟨by omega, fun k hk => NLx_in hk⟩
theorem NLx_old {NL : List Nat} {t z : Nat} (hz : f_ES NL z) : f_ES (NLx NL t) z := ⟨hz.1, fun k hk => List.mem_append_left _ (hz.2 k hk)⟩
/-- a cell that was there, named anew -/
theorem f_E_re {D : va_G} {cl : List vw_C} {K : Nat → ClassId} {NL : List Nat} {ad a : Nat → Nat} {G : fM} {x : fX} {n t : Nat} {H : Heap} (ht : t < 2) (hr : n < 100 * (t + 1) ∨ 100 * (t + 2) ≤ n) (hok : n < 300 → n % 100 < 30) (h1 : n ≠ 301) (h : va_at D cl (ad n, f_E K NL ad G x n) H) : va_at D cl (adx ad t a n, f_E K (NLx NL t) (adx ad t a) (Gx G t) x n) H := by
  rw [adx_out hr]
  have h9 := f_keepM (G9 := Gx G t) (fun i hi => by
    by_cases hi3 : i < 30000
    · have := f_own_div hi3
      rw [hi] at this
      exact Gx_out (by omega)
    · exact Gx_out (by omega)) h
  by_cases hn : n < 300
  · rw [f_Est _ _ _ _ _ _ hn] at h9 ⊢
    exact f_st_ad (hok hn) (fun j hj => adx_out (by omega)) h9
  · by_cases h0 : n = 300
    · subst h0
      rw [f_E300] at h9 ⊢
      rw [adx_out (by omega), adx_out (by omega)]
      exact h9
    by_cases h2 : n = 310
    · subst h2
      rw [f_E310] at h9 ⊢
      rw [adx_out (by omega), adx_out (by omega), adx_out (by omega), adx_out (by omega)]
      exact h9
    by_cases h3 : n = 311
    · subst h3; exact h9
    by_cases h4 : n = 312
    · subst h4; exact h9
    by_cases h5 : n = 313
    · subst h5; exact h9
    by_cases h6 : n = 314
    · subst h6; exact h9
    rw [f_Egt _ _ _ _ _ _ hn h0 h1 h2 h3 h4 h5 h6] at h9 ⊢
    exact h9
theorem f_saved {D : va_G} {cl : List vw_C} {K : Nat → ClassId} {NL : List Nat} {ad a : Nat → Nat} {G : fM} {x : fX} {t q : Nat} {H : Heap} (ht : t < 2) (hfr : f_free NL t) (hok : ∀ n, n ∈ NL → n < 300 → n % 100 < 30) (hD : f_D (fun _ => True) NL ad) (hq : NL[q]? = some 301)
    (h : va_P D cl ((f_W K NL ad G x ++ w1S K a).set q (ad 301, .inl (K 3, 2, .inr (.inr (.inr (.inr (va_up (fun j => if 100 * (j + 1) ∈ NL then some (ad (100 * (j + 1))) else none) t (some (a 0)))))))) ) H) : va_P D cl (f_W K (NLx NL t) (adx ad t a) (Gx G t) x) H := by
  have hlq : q < NL.length := (List.getElem?_eq_some_iff.mp hq).1
  refine va_P_all h (fun k z hz => ?_)
  obtain ⟨n, hn, rfl⟩ := f_W_of hz
  by_cases hk : k < NL.length
  · have hn' : NL[k]? = some n := by rw [← hn]; unfold NLx; rw [List.getElem?_append_left hk]
    have hmem := List.mem_of_getElem? hn'
    by_cases hkq : k = q
    · subst hkq
      cases Option.some.inj (hn'.symm.trans hq)
      refine ⟨_, by rw [List.getElem?_set_self (by rw [List.length_append, List.length_map]; omega)], fun h9 => ?_⟩
      rw [adx_out (hfr 301 hmem), f_E301]
      show H[ad 301]? = some (vp_cell _ _)
      rw [f_ra_cell (f := fun j => if 100 * (j + 1) ∈ NLx NL t then some (adx ad t a (100 * (j + 1))) else none) (g := va_up (fun j => if 100 * (j + 1) ∈ NL then some (ad (100 * (j + 1))) else none) t (some (a 0))) (fun j hj => ?_)]
      · exact h9
      · unfold va_up
        by_cases hjt : j = t
        · subst hjt
          rw [if_pos rfl, if_pos (show 100 * (j + 1) ∈ NLx NL j from NLx_in (k := 0) (by decide))]
          exact congrArg some (adx_in (k := 0) (by decide))
        · rw [if_neg hjt, adx_out (by omega)]
          dsimp only
          by_cases hm : 100 * (j + 1) ∈ NL
          · rw [if_pos hm, if_pos ((NLx_mem (by omega)).mpr hm)]
          · rw [if_neg hm, if_neg (fun h8 => hm ((NLx_mem (by omega)).mp h8))]
    · refine ⟨(ad n, f_E K NL ad G x n), ?_, fun h9 => f_E_re ht (hfr n hmem) (hok n hmem) (fun e9 => hkq ?_) h9⟩
      · rw [List.getElem?_set_ne (Ne.symm hkq), List.getElem?_append_left (by rw [List.length_map]; exact hk)]
        exact f_W_at hn'
      · rw [e9] at hn'
        exact hD.1 k q (ad 301, Sum.inr (0, [])) (ad 301, Sum.inr (0, [])) (by rw [List.getElem?_map, hn']; rfl) (by rw [List.getElem?_map, hq]; rfl) rfl
  · have hn' : (X4o.map (fun k => 100 * (t + 1) + k))[k - NL.length]? = some n := by rw [← hn]; unfold NLx; rw [List.getElem?_append_right (by omega)]
    rw [List.getElem?_map] at hn'
    cases hx : X4o[k - NL.length]? with
    | none => rw [hx] at hn'; cases hn'
    | some j =>
      rw [hx] at hn'
      have hn'' : 100 * (t + 1) + j = n := Option.some.inj hn'
      subst hn''
      have hj := X4o_lt j (List.mem_of_getElem? hx)
      refine ⟨(a j, f_st K a I0 0 j), ?_, fun h9 => ?_⟩
      · rw [List.getElem?_set_ne (by omega), List.getElem?_append_right (by rw [List.length_map]; omega), List.length_map]
        unfold w1S
        rw [List.getElem?_map, hx]
        rfl
      · rw [adx_in (by omega), f_Est _ _ _ _ _ _ (by omega), show (100 * (t + 1) + j) / 100 = t + 1 by omega, show (100 * (t + 1) + j) % 100 = j by omega, f_st_sh]
        refine f_st_ad (ad := a) hj (fun k hk => ?_) (f_keep_st (by decide) (fun i hi => ?_) h9)
        · show adx ad t a (100 * (t + 1) + (100 * 0 + k)) = a (100 * 0 + k)
          rw [adx_in (by omega)]
        · have hi3 : i < 30000 := by
            rcases Nat.lt_or_ge i 30000 with h8 | h8
            · exact h8
            · have := f_own_ge (g := i) (by omega)
              omega
          have := f_own_div hi3
          exact Gx_in (by omega)
theorem f_savedD {A : Nat → Prop} {K : Nat → ClassId} {NL : List Nat} {ad a : Nat → Nat} {G : fM} {x : fX} {t q : Nat} {z : va_E} (hfr : f_free NL t) (hq : NL[q]? = some 301) (h : va_D A ((f_W K NL ad G x ++ w1S K a).set q (ad 301, z))) : f_D A (NLx NL t) (adx ad t a) := by
  refine va_D_fst h ?_
  have hlq : q < NL.length := (List.getElem?_eq_some_iff.mp hq).1
  have e1 : ((f_W K NL ad G x ++ w1S K a).set q (ad 301, z)).map Prod.fst = NL.map ad ++ X4o.map a := by
    rw [List.map_set, List.map_append]
    have e2 : (f_W K NL ad G x).map Prod.fst = NL.map ad := by rw [List.map_map]; rfl
    have e3 : (w1S K a).map Prod.fst = X4o.map a := by unfold w1S; rw [List.map_map]; rfl
    rw [e2, e3]
    apply List.ext_getElem?
    intro k
    by_cases hk : k = q
    · subst hk
      rw [List.getElem?_set_self (by rw [List.length_append, List.length_map]; omega), List.getElem?_append_left (by rw [List.length_map]; omega), List.getElem?_map, hq]
      rfl
    · rw [List.getElem?_set_ne (Ne.symm hk)]
  rw [e1]
  unfold NLx
  rw [List.map_append, List.map_append, List.map_map, List.map_map, List.map_map]
  congr 1
  · apply List.map_congr_left
    intro n hn
    exact adx_out (hfr n hn)
  · apply List.map_congr_left
    intro k hk
    exact adx_in (by have := X4o_lt k hk; omega)
/-- the contract of the first save in a slot -/
def f_PreS (D : va_G) (K : Nat → ClassId) (NL : List Nat) (ad : Nat → Nat) (G : fM) (x : fX) (sz : Nat) (av : List Value) : Array Value → State → Prop :=
  va_Pc av (fun U => U.heap.size = sz ∧ va_P D vwCl (f_W K NL ad G x) U.heap ∧ va_K D vwCl (f_tys K) U ∧ f_D (fun _ => True) NL ad ∧ f_NI U)
def f_PostS (D : va_G) (K : Nat → ClassId) (NL : List Nat) (ad : Nat → Nat) (G1 : fM) (x1 : fX) (t : Nat) (rv : Option Value) (sz : Nat) : Array Value → State → Outcome → State → Prop :=
  fun _ st oc t9 => (∃ a : Nat → Nat, oc = .returned rv ∧ va_P D vwCl (f_W K (NLx NL t) (adx ad t a) G1 x1) t9.heap ∧ f_D (f_A NL ad sz) (NLx NL t) (adx ad t a)) ∧ va_F (f_A NL ad sz) st t9
def KS (l : Launch) (y : MethodName) (ws : List Cond) (rm : Room) (D : va_G) (K : Nat → ClassId) (NL : List Nat) (ad : Nat → Nat) (av : List Value) (G : fM) (x : fX) (t : Nat) (rv : Option Value) (G1 : fM) (x1 : fX) : Prop :=
  ∀ sz, Met l y ws rm (f_PreS D K NL ad G x sz av) (f_PostS D K NL ad G1 x1 t rv sz) rm.cells rm.slots (f_A NL ad sz)
theorem f_blindS {D : va_G} {K : Nat → ClassId} {NL : List Nat} {ad : Nat → Nat} {G : fM} {x : fX} {sz : Nat} {av : List Value} : FrameBlind (f_PreS D K NL ad G x sz av) := fun a U g mk q => by
  obtain ⟨q0, q1, qP, qK, qD, qN⟩ := q
  exact ⟨q0, q1, qP, va_K.moved (u := U) (U := U.calling g mk a) (Vm.Alike.refl U.vm) qK, qD, f_NI.same rfl qN⟩
section Rows14
variable {p : Program} {l : Launch} {e : Env} {R : Room} {s : State} {m : MethodId} {args : Array Value} {below : List Frame} {meth : Method} {c : Code} {D : va_G} {K : Nat → ClassId} {NL : List Nat} {ad : Nat → Nat} {A : Nat → Prop} {H0 : Heap} {nL cells slots : Nat} {Q : State → Prop}
variable {cc : ByteArray} {Ts : List Cond} {own : String} {G G1 : fM} {x x1 : fX} {pc : Nat} {L : List (Option Value)} {rest st0 : List Value} {rv : Option Value} {rm : Room} {t : Nat}
/-- into the list of cells and out of it -/
theorem fk_toWc (hC : Cx p s m args c cc nL Ts own vwCl D K NL ad A H0) (kk : Wc p l e R s m args below meth c D A H0 nL cells slots Q (f_W K NL ad G x) pc L st0) : Wk p l e R s m args below meth c vwCl D K NL ad A H0 nL cells slots Q G x pc L st0 := fun H locs ls h1 h2 h3 => kk H locs ls h1 hC.hD.to h2 h3
theorem f_backS {H : Heap} {locs : List Loc} {ls : Array Slot} {a9 : Array Value} {mc ms : Nat} (hC : Cx p s m args c cc nL Ts own vwCl D K NL ad A H0)
    (hr : va_Run p l e R s m args below meth c H locs cells slots mc ms (F0 m pc ls st0) rest (f_PostS D K NL ad G1 x1 t rv H.size a9) (f_A NL ad H.size)) (hS : va_S A H0 H locs) (h3 : f_L ls nL L)
    (kk : ∀ a : Nat → Nat, f_D A (NLx NL t) (adx ad t a) → Wk p l e R s m args below meth c vwCl D K (NLx NL t) (adx ad t a) A H0 nL (cells + mc) (slots + ms) Q G1 x1 (pc + 3) L (f_psh rv rest)) : W p l e R s m args below meth c H locs cells slots Q (F0 m pc ls st0) := by
  intro T hT X
  obtain ⟨v, st₀, t9, T', Ls, h0, X', hL, e1, e2, ⟨⟨a, hv, hP, hDa⟩, hz, hk⟩, st⟩ := hr T hT X
  cases hv
  rw [h0] at hz hk
  have hfA : ∀ q, f_A NL ad H.size q → A q := by
    rintro q (⟨n, hn, rfl⟩ | h)
    · exact hC.hD.A hn
    · exact hC.2.2.2 q (Nat.le_trans hS.1 h)
  have hS1 : va_S A H0 T'.heap (locs ++ Ls) := ⟨Nat.le_trans hS.1 (by rw [e1]; exact hz), fun q h1 h2 => by rw [e1, hk q (Nat.lt_of_lt_of_le h1 hS.1) (fun z => h2 (hfA q z))]; exact hS.2.1 q h1 h2, fun q hq => by
    rcases List.mem_append.mp hq with h | h
    · exact hS.2.2 q h
    · exact hfA _ (hL q h)⟩
  obtain ⟨t2, a1, b1⟩ := kk a (hDa.to' (fun n hn => hfA _ (hDa.A hn))) T'.heap (locs ++ Ls) ls (by rw [e1]; exact hP) hS1 h3 T' rfl X'
  refine ⟨t2, st t2 ?_, b1⟩
  have e9 : rv.toList ++ rest = f_psh rv rest := by cases rv <;> rfl
  show Steps p.tables e below (T'.setTop { method := m, pc := pc + 3, locals := ls, stack := rv.toList ++ rest, locked := none }) t2
  rw [e9]
  exact a1
theorem f_preS_of {H : Heap} {av : List Value} (hC : Cx p s m args c cc nL Ts own vwCl D K NL ad A H0) (hN : f_NI s) (h1 : va_P D vwCl (f_W K NL ad G x) H) : ∀ U : State, U.heap = H → s.WarmedH U.vm → f_PreS D K NL ad G x H.size av av.toArray U := fun U hU hW =>
  ⟨rfl, by rw [hU], by rw [hU]; exact h1, va_K.moved hW.alike hC.hK, hC.hD.to' (fun _ _ => trivial), f_NI.warm hW hN⟩
theorem fk_callVS {n ci index maxL nA : Nat} {y : MethodName} {bytes : ByteArray} {ret : Option FieldType} {wsc : List Cond} {q0 : vw_C} {fs As : List Value} (hC : Cx p s m args c cc nL Ts own vwCl D K NL ad A H0) (hN : f_NI s) (h : KS l y wsc rm D K NL ad (.ref (ad n) :: As) G x t rv G1 x1)
    (hn : n ∈ NL) (he : f_E K NL ad G x n = .inr (ci, fs)) (hc : vwCl[ci]? = some q0) (cw : CallW R s args own q0.1 index y bytes maxL ret wsc rm rm.cells rm.slots nA) (hAs : As.length = nA) (hst : st0 = f_stk As (.ref (ad n) :: rest)) (hW : (rest.map fun v => v.category).sum ≤ 8) (hdg : decode cc pc = .ok (.invokevirtual index, 3)) (hf : cells + rm.cells ≤ R.cells ∧ slots + rm.slots ≤ R.slots)
    (kk : ∀ a : Nat → Nat, f_D A (NLx NL t) (adx ad t a) → Wk p l e R s m args below meth c vwCl D K (NLx NL t) (adx ad t a) A H0 nL (cells + rm.cells) (slots + rm.slots) Q G1 x1 (pc + 3) L (f_psh rv rest)) : Wk p l e R s m args below meth c vwCl D K NL ad A H0 nL cells slots Q G x pc L st0 := fun H locs ls h1 h2 h3 => by
  obtain ⟨q, hq⟩ := List.getElem?_of_mem hn
  exact f_backS hC (va_runV (As := As) (rest := rest) hC.1 (h H.size) cw ⟨f_blindS, va_recv hC.hK h1 hc ((f_W_at hq).trans (by rw [he])), f_preS_of hC hN h1⟩ rfl hAs h3.1 (hst.trans (f_stk_eq _ _)) (lv_room hW) hdg hf) h2 h3 kk
theorem fk_callSS {index maxL nA : Nat} {y : MethodName} {bytes : ByteArray} {ret : Option FieldType} {hh : List (Nat × Nat × Nat × Nat)} {wsc : List Cond} {As : List Value} (hC : Cx p s m args c cc nL Ts own vwCl D K NL ad A H0) (hN : f_NI s) (h : KS l y wsc rm D K NL ad As G x t rv G1 x1)
    (cw : vx_CSW R s args own index y bytes maxL ret hh wsc rm rm.cells rm.slots nA) (hAs : As.length = nA) (hst : st0 = f_stk As rest) (hW : (rest.map fun v => v.category).sum ≤ 8) (hdg : decode cc pc = .ok (.invokestatic index, 3)) (hf : cells + rm.cells ≤ R.cells ∧ slots + rm.slots ≤ R.slots)
    (kk : ∀ a : Nat → Nat, f_D A (NLx NL t) (adx ad t a) → Wk p l e R s m args below meth c vwCl D K (NLx NL t) (adx ad t a) A H0 nL (cells + rm.cells) (slots + rm.slots) Q G1 x1 (pc + 3) L (f_psh rv rest)) : Wk p l e R s m args below meth c vwCl D K NL ad A H0 nL cells slots Q G x pc L st0 := fun H locs ls h1 h2 h3 =>
  f_backS hC (vx_runSW (As := As) (rest := rest) hC.1 (h H.size) cw ⟨f_blindS, f_preS_of hC hN h1⟩ rfl hAs h3.1 (hst.trans (f_stk_eq _ _)) (lv_room hW) hdg hf) h2 h3 kk
theorem fk_topr {cl : List vw_C} {a b : Nat} (h : a = b) (kk : Wk p l e R s m args below meth c cl D K NL ad A H0 nL cells slots Q G x pc L (.ref b :: rest)) : Wk p l e R s m args below meth c cl D K NL ad A H0 nL cells slots Q G x pc L (.ref a :: rest) := h ▸ kk
theorem fk_topr2 {cl : List vw_C} {v : Value} {a b : Nat} (h : a = b) (kk : Wk p l e R s m args below meth c cl D K NL ad A H0 nL cells slots Q G x pc L (v :: .ref b :: rest)) : Wk p l e R s m args below meth c cl D K NL ad A H0 nL cells slots Q G x pc L (v :: .ref a :: rest) := h ▸ kk
theorem wc_astore_n (hC : Ci p s m args meth c cc nL Ts own D K A H0) {ws : va_W} {k : Fin 4} {i u : Nat} (hdg : decode cc pc = .ok (.astore_n k, 1)) (hi : (k : Nat) = i) (hn : i < nL) (hc : f_c1 L i = true) (kk : Wc p l e R s m args below meth c D A H0 nL cells slots Q ws (pc + 1) (f_set L i (some (.ref u))) rest) : Wc p l e R s m args below meth c D A H0 nL cells slots Q ws pc L (.ref u :: rest) := fun H locs ls h1 h2 h3 h4 => lv_astore_n hC.1.1 hC.1.2.1 hdg hi h4 hn rfl (fun ls1 h5 => kk H locs ls1 h1 h2 h3 (f_L.set1 hc h5))
theorem wc_toWk {a : Nat → Nat} {q : Nat} (hq : NL[q]? = some 301) (ht : t < 2) (hfr : f_free NL t) (hok : ∀ n, n ∈ NL → n < 300 → n % 100 < 30) (hD : f_D (fun _ => True) NL ad) (kk : f_D A (NLx NL t) (adx ad t a) → Wk p l e R s m args below meth c vwCl D K (NLx NL t) (adx ad t a) A H0 nL cells slots Q (Gx G t) x pc L st0) : Wc p l e R s m args below meth c D A H0 nL cells slots Q ((f_W K NL ad G x ++ w1S K a).set q (ad 301, .inl (K 3, 2, .inr (.inr (.inr (.inr (va_up (fun j => if 100 * (j + 1) ∈ NL then some (ad (100 * (j + 1))) else none) t (some (a 0))))))))) pc L st0 := fun H locs ls h1 h2 h3 h4 => kk (f_savedD hfr hq h2) H locs ls (f_saved ht hfr hok hD hq h1) h3 h4
theorem f_endsS {H : Heap} {locs : List Loc} {o : Option Value} (a : Nat → Nat) (hC : Cx p s m args c cc nL Ts own vwCl D K (NLx NL t) (adx ad t a) (f_A NL ad s.heap.size) s.heap) (h1 : va_P D vwCl (f_W K (NLx NL t) (adx ad t a) G x) H) (h2 : va_S (f_A NL ad s.heap.size) s.heap H locs) (hr : o = rv) (hG : G = G1) (hx : x = x1) : ∀ t9 : State, t9.heap = H → s.WarmedH t9.vm → f_PostS D K NL ad G1 x1 t rv s.heap.size args s (.returned o) t9 := fun t9 ht hW => by
  subst hr; subst hG; subst hx
  exact ⟨⟨a, rfl, by rw [ht]; exact h1, hC.hD⟩, h2.F ht⟩
theorem fk_vretS (a : Nat → Nat) (hC : Cx p s m args c cc nL Ts own vwCl D K (NLx NL t) (adx ad t a) (f_A NL ad s.heap.size) s.heap) (hr : meth.sig.returnType = none) (hlocks : meth.locks = false) (hdg : decode cc pc = .ok (.return_, 1)) (hv : none = rv) (hG : G = G1) (hx : x = x1) :
    Wk p l e R s m args below meth c vwCl D K (NLx NL t) (adx ad t a) (f_A NL ad s.heap.size) s.heap nL cells slots (MQ below (f_PostS D K NL ad G1 x1 t rv s.heap.size) args s cells slots (f_A NL ad s.heap.size)) G x pc L [] := fun H locs ls h1 h2 h3 =>
  W.vret hC.hx hC.hb hr (f_endsS a hC h1 h2 hv hG hx) h2.2.2 hdg hlocks
theorem fk_iretS {v : Int32} (a : Nat → Nat) (hC : Cx p s m args c cc nL Ts own vwCl D K (NLx NL t) (adx ad t a) (f_A NL ad s.heap.size) s.heap) (hr : meth.sig.returnType = some .int) (hlocks : meth.locks = false) (hdg : decode cc pc = .ok (.ireturn, 1)) (hv : some (.int v) = rv) (hG : G = G1) (hx : x = x1) :
    Wk p l e R s m args below meth c vwCl D K (NLx NL t) (adx ad t a) (f_A NL ad s.heap.size) s.heap nL cells slots (MQ below (f_PostS D K NL ad G1 x1 t rv s.heap.size) args s cells slots (f_A NL ad s.heap.size)) G x pc L [.int v] := fun H locs ls h1 h2 h3 =>
  W.iret hC.hx hC.hb hr (f_endsS a hC h1 h2 hv hG hx) h2.2.2 hdg hlocks
end Rows14
theorem f_I.of_lt {z : Nat} {G M : fM} (h : f_I z G) (e : ∀ g, 10000 * z ≤ g → g < 10000 * (z + 1) → M g = G g) : f_I z M := by
  have h10 := h.c10
  have h40 := h.n40
  have h1000 := h.o1000
  have e0 : M (iS z 0) = G (iS z 0) := e _ (by unfold iS; omega) (by unfold iS; omega)
  have e7 : M (iS z 7) = G (iS z 7) := e _ (by unfold iS; omega) (by unfold iS; omega)
  have e20 : M (iS z 20) = G (iS z 20) := e _ (by unfold iS; omega) (by unfold iS; omega)
  have e21 : M (iS z 21) = G (iS z 21) := e _ (by unfold iS; omega) (by unfold iS; omega)
  have ec : cN z M = cN z G := by unfold cN; rw [e0]
  have en : nN z M = nN z G := by unfold nN; rw [e21]
  have eo : oN z M = oN z G := by unfold oN; rw [e20]
  refine ⟨⟨by rw [ec, e0]; exact h.c, by rw [ec]; exact h10⟩, ⟨by rw [en, e21]; exact h.n, by rw [en]; exact h40⟩, ⟨by rw [eo, e20]; exact h.o, by rw [eo]; exact h1000⟩, fun i hi => ?_, ⟨by unfold kN; rw [e7]; exact h.k, by unfold kN; rw [e7]; exact h.k10⟩, fun j hj => ?_, fun j hj => ?_⟩
  · rw [ec] at hi
    unfold wN
    rw [e (iV z i 0) (by unfold iV; omega) (by unfold iV; omega)]
    exact h.w hi
  · rw [en] at hj
    unfold svN
    rw [ec, e (iA z 450 j) (by unfold iA; omega) (by unfold iA; omega)]
    exact h.sv hj
  · rw [eo] at hj
    unfold coN
    rw [ec, e (iA z 1000 j) (by unfold iA; omega) (by unfold iA; omega)]
    exact h.2.2.2.2.2.2 j hj
end FW14
theorem rng_01 {t : Nat} (ht : t < 2) : rng (nI t) 0 1 := by
  rcases (show t = 0 ∨ t = 1 by omega) with rfl | rfl <;> exact ⟨by decide, by decide⟩
set_option maxHeartbeats 4000000 in
set_option maxRecDepth 100000 in
theorem kX5_restore (l : Launch) (D : va_G) (K : Nat → ClassId) (NL : List Nat) (ad : Nat → Nat) (G : fM) (x : fX) (hp : 300 ∈ NL) (hz : f_ES NL 0) (h1 : 301 ∈ NL) (t : Nat) (ht : t < 2) (hs : f_ES NL (t + 1)) (hI : f_I (t + 1) G) (hb : ∀ i, i < cN (t + 1) G → (G (iV (t + 1) i 4) = 0 ∨ G (iV (t + 1) i 4) = 1) ∧ (G (iV (t + 1) i 5) = 0 ∨ G (iV (t + 1) i 5) = 1) ∧ (G (iV (t + 1) i 7) = 0 ∨ G (iV (t + 1) i 7) = 1)) (hl : ∀ j, j < oN (t + 1) G → G (iA (t + 1) 3000 j) = 0 ∨ G (iA (t + 1) 3000 j) = 1) : Kd l yX5_restore wsX5_restore { frames := 3, cells := 0, slots := 0, locals := 70 } vwCl D K NL ad [.ref (ad 300), .int (nI t)] G x none (sS_copy 0 (t + 1) G) x := by
  refine Kd.of (cc := cX5_restore) (maxL := 3) (ret := none) (L := [some (.ref (ad 300)), some (.int (nI t)), none]) (by decide +kernel) rfl rfl (Nat.le_of_ble_eq_true rfl) ?_
  intro p e s m args below meth c hC hN hr hk hnme
  have iX5 : ∀ w ∈ wsX50, w ∈ wsX5_restore := by decide +kernel
  refine fk_iload_n hC dX5_restore_0 rfl rfl ?_
  refine fk_iconst (v := 0) hC dX5_restore_1 (by decide) ?_
  refine fk_iconst (v := 1) hC dX5_restore_2 (by decide) ?_
  refine fk_callS hC hN (kX5_requireRange l D K NL ad _ x _ _ _ (rng_01 ht)) (va_cwS 3 hC.1.2.2.2.2 gX5_restore_X5_requireRange rfl rfl rfl (by decide +kernel) ⟨Nat.le_of_ble_eq_true rfl, Nat.le_of_ble_eq_true rfl⟩) rfl rfl (Nat.le_of_ble_eq_true rfl) dX5_restore_3 ⟨Nat.zero_le _, Nat.zero_le _⟩ ?_
  refine fk_aload_n hC dX5_restore_6 rfl rfl ?_
  refine fk_getP_1 hC hp iX5 (by decide +kernel) dX5_restore_7 ?_
  refine fk_iload_n hC dX5_restore_10 rfl rfl ?_
  refine fk_aldq hC h1 (f_E301 _ _ _ _ _) rfl rfl ht (by decide) (v := .ref (ad (nm (t + 1) 0))) (by rw [if_pos (show 100 * (t + 1) ∈ NL from hs.2 0 (by decide))]; rfl) dX5_restore_11 ?_
  refine fk_astore_n hC dX5_restore_12 rfl (by decide) rfl ?_
  refine fk_aload_n hC dX5_restore_13 rfl rfl ?_
  refine fk_ifnonnull (tgt := 27) hC dX5_restore_14 (by decide) ?_
  refine fk_aload_n hC dX5_restore_27 rfl rfl ?_
  refine fk_getP_0 hC hp iX5 (by decide +kernel) dX5_restore_28 ?_
  refine fk_aload_n hC dX5_restore_31 rfl rfl ?_
  refine fk_callV hC hN (kX4_copyFrom l D K NL ad _ x 0 (t + 1) hz hs (by omega) hI hb hl) (hz.2 0 (by decide)) (f_e0 _ _ _ _ _ hz.1) rfl (cwV 1 hC.1.2.2.2.2 gX5_restore_X4_copyFrom rfl rfl rfl (by decide +kernel) ⟨Nat.le_of_ble_eq_true rfl, Nat.le_of_ble_eq_true rfl⟩) rfl rfl (Nat.le_of_ble_eq_true rfl) dX5_restore_32 ⟨Nat.zero_le _, Nat.zero_le _⟩ ?_
  exact fk_vret hC hr hk dX5_restore_35 rfl rfl rfl

set_option maxHeartbeats 4000000 in
set_option maxRecDepth 100000 in
theorem tX5_restore_1 (l : Launch) (D : va_G) (K : Nat → ClassId) (NL : List Nat) (ad : Nat → Nat) (G : fM) (x : fX) (hst : l.stackTraces = false) (hp : 300 ∈ NL) (hz : f_ES NL 0) (v : Int32) (h : ¬ rng v 0 1) : Kt l yX5_restore wsX5_restore { frames := 7, cells := 1, slots := 6, locals := 112 } vwCl D K NL ad [.ref (ad 300), .int v] G x xIAE G x := by
  refine Kt.of (cc := cX5_restore) (maxL := 3) (ret := none) (L := [some (.ref (ad 300)), some (.int v), none]) hst (by decide +kernel) rfl rfl (Nat.le_of_ble_eq_true rfl) ?_
  intro p e s m args below meth c hC hX htab hr hk
  have hN := hX.2.1
  refine fk_iload_n hC dX5_restore_0 rfl rfl ?_
  refine fk_iconst (v := 0) hC dX5_restore_1 (by decide) ?_
  refine fk_iconst (v := 1) hC dX5_restore_2 (by decide) ?_
  exact fk_xcallS hC hX (tX5_requireRange l D K NL ad _ x hst _ _ _ h) (va_cwS 3 hC.1.2.2.2.2 gX5_restore_X5_requireRange rfl rfl rfl (by decide +kernel) ⟨Nat.le_of_ble_eq_true rfl, Nat.le_of_ble_eq_true rfl⟩) rfl rfl (Nat.le_of_ble_eq_true rfl) dX5_restore_3 ⟨Nat.le_of_ble_eq_true rfl, Nat.le_of_ble_eq_true rfl⟩ (fun H1 locs1 ls q ce a1 a2 a3 a4 a5 a6 => fk_xout htab hk a1 a2 a4 a5 a6 (Nat.le_of_ble_eq_true rfl) (Nat.le_of_ble_eq_true rfl))

set_option maxHeartbeats 4000000 in
set_option maxRecDepth 100000 in
theorem tX5_restore_2 (l : Launch) (D : va_G) (K : Nat → ClassId) (NL : List Nat) (ad : Nat → Nat) (G : fM) (x : fX) (hst : l.stackTraces = false) (hp : 300 ∈ NL) (hz : f_ES NL 0) (h1 : 301 ∈ NL) (t : Nat) (ht : t < 2) (hs : ¬ 100 * (t + 1) ∈ NL) : Kt l yX5_restore wsX5_restore { frames := 6, cells := 1, slots := 6, locals := 90 } vwCl D K NL ad [.ref (ad 300), .int (nI t)] G x xISE G x := by
  refine Kt.of (cc := cX5_restore) (maxL := 3) (ret := none) (L := [some (.ref (ad 300)), some (.int (nI t)), none]) hst (by decide +kernel) rfl rfl (Nat.le_of_ble_eq_true rfl) ?_
  intro p e s m args below meth c hC hX htab hr hk
  have hN := hX.2.1
  have iX5 : ∀ w ∈ wsX50, w ∈ wsX5_restore := by decide +kernel
  refine fk_iload_n hC dX5_restore_0 rfl rfl ?_
  refine fk_iconst (v := 0) hC dX5_restore_1 (by decide) ?_
  refine fk_iconst (v := 1) hC dX5_restore_2 (by decide) ?_
  refine fk_callS hC hN (kX5_requireRange l D K NL ad _ x _ _ _ (rng_01 ht)) (va_cwS 3 hC.1.2.2.2.2 gX5_restore_X5_requireRange rfl rfl rfl (by decide +kernel) ⟨Nat.le_of_ble_eq_true rfl, Nat.le_of_ble_eq_true rfl⟩) rfl rfl (Nat.le_of_ble_eq_true rfl) dX5_restore_3 ⟨Nat.zero_le _, Nat.zero_le _⟩ ?_
  refine fk_aload_n hC dX5_restore_6 rfl rfl ?_
  refine fk_getP_1 hC hp iX5 (by decide +kernel) dX5_restore_7 ?_
  refine fk_iload_n hC dX5_restore_10 rfl rfl ?_
  refine fk_aldq hC h1 (f_E301 _ _ _ _ _) rfl rfl ht (by decide) (v := .null) (by rw [if_neg hs]; rfl) dX5_restore_11 ?_
  refine fk_astore_nN hC dX5_restore_12 rfl (by decide) rfl ?_
  refine fk_aload_nN hC dX5_restore_13 rfl rfl ?_
  refine fk_ifnonnullN hC dX5_restore_14 ?_
  obtain ⟨sa, hsa⟩ := hX.2.2.1.2.2.2.2.2.2.2.2.1
  exact fk_throw hC hX htab hk (by decide +kernel) (by decide +kernel) (by decide +kernel) hsa (by decide +kernel) f_bad2 hX.2.2.1.bad2 (by decide +kernel) dX5_restore_17 dX5_restore_20 dX5_restore_21 dX5_restore_23 dX5_restore_26 (Nat.le_of_ble_eq_true rfl) (Nat.le_of_ble_eq_true rfl) (Nat.le_of_ble_eq_true rfl) (Nat.le_of_ble_eq_true rfl) (Nat.le_of_ble_eq_true rfl) (Nat.le_of_ble_eq_true rfl) rfl rfl

set_option maxHeartbeats 4000000 in
set_option maxRecDepth 100000 in
theorem kX5_save (l : Launch) (D : va_G) (K : Nat → ClassId) (NL : List Nat) (ad : Nat → Nat) (G : fM) (x : fX) (hp : 300 ∈ NL) (hz : f_ES NL 0) (h1 : 301 ∈ NL) (t : Nat) (ht : t < 2) (hs : f_ES NL (t + 1)) (hI : f_I 0 G) (hb : ∀ i, i < cN 0 G → (G (iV 0 i 4) = 0 ∨ G (iV 0 i 4) = 1) ∧ (G (iV 0 i 5) = 0 ∨ G (iV 0 i 5) = 1) ∧ (G (iV 0 i 7) = 0 ∨ G (iV 0 i 7) = 1)) (hl : ∀ j, j < oN 0 G → G (iA 0 3000 j) = 0 ∨ G (iA 0 3000 j) = 1) : Kd l yX5_save wsX5_save { frames := 3, cells := 0, slots := 0, locals := 70 } vwCl D K NL ad [.ref (ad 300), .int (nI t)] G x none (sS_copy (t + 1) 0 G) x := by
  refine Kd.of (cc := cX5_save) (maxL := 3) (ret := none) (L := [some (.ref (ad 300)), some (.int (nI t)), none]) (by decide +kernel) rfl rfl (Nat.le_of_ble_eq_true rfl) ?_
  intro p e s m args below meth c hC hN hr hk hnme
  have iX5 : ∀ w ∈ wsX50, w ∈ wsX5_save := by decide +kernel
  refine fk_iload_n hC dX5_save_0 rfl rfl ?_
  refine fk_iconst (v := 0) hC dX5_save_1 (by decide) ?_
  refine fk_iconst (v := 1) hC dX5_save_2 (by decide) ?_
  refine fk_callS hC hN (kX5_requireRange l D K NL ad _ x _ _ _ (rng_01 ht)) (va_cwS 3 hC.1.2.2.2.2 gX5_save_X5_requireRange rfl rfl rfl (by decide +kernel) ⟨Nat.le_of_ble_eq_true rfl, Nat.le_of_ble_eq_true rfl⟩) rfl rfl (Nat.le_of_ble_eq_true rfl) dX5_save_3 ⟨Nat.zero_le _, Nat.zero_le _⟩ ?_
  refine fk_aload_n hC dX5_save_6 rfl rfl ?_
  refine fk_getP_1 hC hp iX5 (by decide +kernel) dX5_save_7 ?_
  refine fk_iload_n hC dX5_save_10 rfl rfl ?_
  refine fk_aldq hC h1 (f_E301 _ _ _ _ _) rfl rfl ht (by decide) (v := .ref (ad (nm (t + 1) 0))) (by rw [if_pos (show 100 * (t + 1) ∈ NL from hs.2 0 (by decide))]; rfl) dX5_save_11 ?_
  refine fk_astore_n hC dX5_save_12 rfl (by decide) rfl ?_
  refine fk_aload_n hC dX5_save_13 rfl rfl ?_
  refine fk_ifnonnull (tgt := 32) hC dX5_save_14 (by decide) ?_
  refine fk_aload_n hC dX5_save_32 rfl rfl ?_
  refine fk_aload_n hC dX5_save_33 rfl rfl ?_
  refine fk_getP_0 hC hp iX5 (by decide +kernel) dX5_save_34 ?_
  refine fk_callV hC hN (kX4_copyFrom l D K NL ad _ x (t + 1) 0 hs hz (by omega) hI hb hl) (hs.2 0 (by decide)) (f_e0 _ _ _ _ _ hs.1) rfl (cwV 1 hC.1.2.2.2.2 gX5_save_X4_copyFrom rfl rfl rfl (by decide +kernel) ⟨Nat.le_of_ble_eq_true rfl, Nat.le_of_ble_eq_true rfl⟩) rfl rfl (Nat.le_of_ble_eq_true rfl) dX5_save_37 ⟨Nat.zero_le _, Nat.zero_le _⟩ ?_
  exact fk_vret hC hr hk dX5_save_40 rfl rfl rfl

set_option maxHeartbeats 4000000 in
set_option maxRecDepth 100000 in
theorem tX5_save (l : Launch) (D : va_G) (K : Nat → ClassId) (NL : List Nat) (ad : Nat → Nat) (G : fM) (x : fX) (hst : l.stackTraces = false) (hp : 300 ∈ NL) (hz : f_ES NL 0) (v : Int32) (h : ¬ rng v 0 1) : Kt l yX5_save wsX5_save { frames := 7, cells := 1, slots := 6, locals := 112 } vwCl D K NL ad [.ref (ad 300), .int v] G x xIAE G x := by
  refine Kt.of (cc := cX5_save) (maxL := 3) (ret := none) (L := [some (.ref (ad 300)), some (.int v), none]) hst (by decide +kernel) rfl rfl (Nat.le_of_ble_eq_true rfl) ?_
  intro p e s m args below meth c hC hX htab hr hk
  have hN := hX.2.1
  refine fk_iload_n hC dX5_save_0 rfl rfl ?_
  refine fk_iconst (v := 0) hC dX5_save_1 (by decide) ?_
  refine fk_iconst (v := 1) hC dX5_save_2 (by decide) ?_
  exact fk_xcallS hC hX (tX5_requireRange l D K NL ad _ x hst _ _ _ h) (va_cwS 3 hC.1.2.2.2.2 gX5_save_X5_requireRange rfl rfl rfl (by decide +kernel) ⟨Nat.le_of_ble_eq_true rfl, Nat.le_of_ble_eq_true rfl⟩) rfl rfl (Nat.le_of_ble_eq_true rfl) dX5_save_3 ⟨Nat.le_of_ble_eq_true rfl, Nat.le_of_ble_eq_true rfl⟩ (fun H1 locs1 ls q ce a1 a2 a3 a4 a5 a6 => fk_xout htab hk a1 a2 a4 a5 a6 (Nat.le_of_ble_eq_true rfl) (Nat.le_of_ble_eq_true rfl))

set_option maxHeartbeats 4000000 in
set_option maxRecDepth 100000 in
theorem sX5_save (l : Launch) (D : va_G) (K : Nat → ClassId) (NL : List Nat) (ad : Nat → Nat) (G : fM) (x : fX) (hp : 300 ∈ NL) (hz : f_ES NL 0) (h1 : 301 ∈ NL) (t : Nat) (ht : t < 2) (hs : ¬ 100 * (t + 1) ∈ NL) (hfr : f_free NL t) (hok : ∀ n, n ∈ NL → n < 300 → n % 100 < 30) (hI : f_I 0 G) (hb : ∀ i, i < cN 0 G → (G (iV 0 i 4) = 0 ∨ G (iV 0 i 4) = 1) ∧ (G (iV 0 i 5) = 0 ∨ G (iV 0 i 5) = 1) ∧ (G (iV 0 i 7) = 0 ∨ G (iV 0 i 7) = 1)) (hl : ∀ j, j < oN 0 G → G (iA 0 3000 j) = 0 ∨ G (iA 0 3000 j) = 1) : KS l yX5_save wsX5_save { frames := 4, cells := 30, slots := 3302, locals := 90 } D K NL ad [.ref (ad 300), .int (nI t)] G x t none (sS_copy (t + 1) 0 (Gx G t)) x := by
  intro sz
  refine Met.ofW (cc := cX5_save) (maxL := 3) (ret := none) (by decide +kernel) rfl ?_
  intro p e s m args below meth c s₁ B hml hv
  obtain ⟨rfl, hsz, hP, hK, hD, hN⟩ := hv
  subst hsz
  have hts := atoms_spec (ws := wsX5_save) B.pre
  have hown : s.vm.findClass yX5_save.cls = some m.cls := findClass_of_methodNamed B.named
  have hle := lv_entry [.ref (ad 300), .int (nI t)] (n := 3) (Nat.le_of_ble_eq_true rfl)
  rw [lg_entry_eq]
  have hC : Cx p s m ([.ref (ad 300), .int (nI t)] : List Value).toArray c cX5_save 3 wsX5_save RX5 vwCl D K NL ad (f_A NL ad s.heap.size) s.heap := ⟨⟨B.exec, B.bytes, hml, hown, hts⟩, hK, hD.self, fun q h => Or.inr h⟩
  have hr := B.returns
  have hk := B.notSynchronized
  have iX4 : ∀ w ∈ wsX40, w ∈ wsX5_save := by decide +kernel
  have iX5 : ∀ w ∈ wsX50, w ∈ wsX5_save := by decide +kernel
  suffices hmain : Wk p l e { frames := 4, cells := 30, slots := 3302, locals := 90 } s m ([.ref (ad 300), .int (nI t)] : List Value).toArray below meth c vwCl D K NL ad (f_A NL ad s.heap.size) s.heap 3 0 0 (MQ below (f_PostS D K NL ad (sS_copy (t + 1) 0 (Gx G t)) x t none s.heap.size) ([.ref (ad 300), .int (nI t)] : List Value).toArray s 30 3302 (f_A NL ad s.heap.size)) G x 0 [some (.ref (ad 300)), some (.int (nI t)), none] [] from hmain s.heap [] _ hP va_S.rf hle
  have hNN := hN.1
  refine fk_iload_n hC dX5_save_0 rfl rfl ?_
  refine fk_iconst (v := 0) hC dX5_save_1 (by decide) ?_
  refine fk_iconst (v := 1) hC dX5_save_2 (by decide) ?_
  refine fk_callS hC hNN (kX5_requireRange l D K NL ad _ x _ _ _ (rng_01 ht)) (va_cwS 3 hC.1.2.2.2.2 gX5_save_X5_requireRange rfl rfl rfl (by decide +kernel) ⟨Nat.le_of_ble_eq_true rfl, Nat.le_of_ble_eq_true rfl⟩) rfl rfl (Nat.le_of_ble_eq_true rfl) dX5_save_3 ⟨Nat.zero_le _, Nat.zero_le _⟩ ?_
  refine fk_aload_n hC dX5_save_6 rfl rfl ?_
  refine fk_getP_1 hC hp iX5 (by decide +kernel) dX5_save_7 ?_
  refine fk_iload_n hC dX5_save_10 rfl rfl ?_
  refine fk_aldq hC h1 (f_E301 _ _ _ _ _) rfl rfl ht (by decide) (v := .null) (by rw [if_neg hs]; rfl) dX5_save_11 ?_
  refine fk_astore_nN hC dX5_save_12 rfl (by decide) rfl ?_
  refine fk_aload_nN hC dX5_save_13 rfl rfl ?_
  refine fk_ifnonnullN hC dX5_save_14 ?_
  refine fk_toWc hC ?_
  have hCi : Ci p s m ([.ref (ad 300), .int (nI t)] : List Value).toArray meth c cX5_save 3 wsX5_save RX5 D K (f_A NL ad s.heap.size) s.heap := ⟨hC.1, hK, hN, fun q h => Or.inr h⟩
  refine wc_new (fs := [.null, .null, .null, .int 0, .int 0, .int 0, .int 0, .int 0, .int 0, .int 0, .int 0, .int 0, .int 0, .int 0]) hCi iX4 tyX4 tyX4_ok (by decide +kernel) (by decide +kernel) (by decide +kernel) (ci := 4) rfl (by decide) (Nat.le_of_ble_eq_true rfl) (Nat.le_of_ble_eq_true rfl) dX5_save_17 ?_
  intro q
  refine wc_dup hCi dX5_save_20 rfl ?_
  refine wc_callL (wr := f_W K NL ad G x) hCi (kX4_init l D K q) (cwI 0 hCi.1.2.2.2.2 gX5_save_X4_init rfl rfl rfl (hCi.1.2.2.2.2 (.initialized RX4) (by decide +kernel)) (hCi.1.2.2.2.2 (.methodLink RX5 9 yX4_init) (by decide +kernel)) (hCi.1.2.2.2.2 (.instanceMethod yX4_init) (by decide +kernel)) rfl (by decide +kernel) ⟨Nat.le_of_ble_eq_true rfl, Nat.le_of_ble_eq_true rfl⟩) (Nat.le_of_ble_eq_true rfl) dX5_save_21 ⟨Nat.le_of_ble_eq_true rfl, Nat.le_of_ble_eq_true rfl⟩ ?_
  rintro ⟨a, ha⟩
  subst ha
  refine wc_astore_n hCi dX5_save_24 rfl (by decide) rfl ?_
  refine wc_aload_n hCi dX5_save_25 rfl rfl ?_
  obtain ⟨q3, hq3⟩ := List.getElem?_of_mem hp
  obtain ⟨q4, hq4⟩ := List.getElem?_of_mem h1
  have hl3 : q3 < (f_W K NL ad G x).length := by rw [List.length_map]; exact (List.getElem?_eq_some_iff.mp hq3).1
  have hl4 : q4 < (f_W K NL ad G x).length := by rw [List.length_map]; exact (List.getElem?_eq_some_iff.mp hq4).1
  refine wc_get (q0 := q3) (k := 1) hCi ((List.getElem?_append_left hl3).trans (f_W_at hq3)) rfl iX5 (by decide) (by decide +kernel) rfl dX5_save_26 ?_
  refine wc_iload_n hCi dX5_save_29 rfl rfl ?_
  refine wc_aload_n hCi dX5_save_30 rfl rfl ?_
  refine wc_astq (q0 := q4) (qk := (f_W K NL ad G x).length) (t := 3) hCi ((List.getElem?_append_left hl4).trans (f_W_at hq4)) rfl (show (f_W K NL ad G x ++ w1S K a)[(f_W K NL ad G x).length]? = some (a 0, f_st K a I0 0 0) by rw [List.getElem?_append_right (Nat.le_refl _), Nat.sub_self]; rfl) rfl rfl ht (by decide) dX5_save_31 ?_
  refine wc_toWk (t := t) (NL := NL) (ad := ad) (G := G) (x := x) (a := a) hq4 ht hfr hok hD (fun hDn => ?_)
  have hC2 : Cx p s m ([.ref (ad 300), .int (nI t)] : List Value).toArray c cX5_save 3 wsX5_save RX5 vwCl D K (NLx NL t) (adx ad t a) (f_A NL ad s.heap.size) s.heap := ⟨hC.1, hK, hDn, fun q h => Or.inr h⟩
  have hz2 : f_ES (NLx NL t) 0 := NLx_old hz
  have hs2 : f_ES (NLx NL t) (t + 1) := NLx_ES ht
  have hg0 : ∀ g, g < 10000 → Gx G t g = G g := fun g hg => Gx_out (by omega)
  have hI2 : f_I 0 (Gx G t) := hI.of_lt (fun g h8 h9 => hg0 g (by omega))
  have h10 := hI.c10
  have h1000 := hI.o1000
  have hc2 : cN 0 (Gx G t) = cN 0 G := by unfold cN; rw [hg0 _ (by decide)]
  have ho2 : oN 0 (Gx G t) = oN 0 G := by unfold oN; rw [hg0 _ (by decide)]
  refine fk_aload_n hC2 dX5_save_32 rfl rfl ?_
  refine fk_aload_n hC2 dX5_save_33 rfl rfl ?_
  refine fk_topr (adx_out (ad := ad) (t := t) (a := a) (n := 300) (by omega)).symm ?_
  refine fk_getP_0 hC2 (List.mem_append_left _ hp) iX5 (by decide +kernel) dX5_save_34 ?_
  refine fk_topr2 (b := adx ad t a (nm (t + 1) 0)) (adx_in (ad := ad) (t := t) (a := a) (k := 0) (by decide)).symm ?_
  refine fk_callV hC2 hNN (kX4_copyFrom l D K (NLx NL t) (adx ad t a) _ x (t + 1) 0 hs2 hz2 (by omega) hI2 (fun i hi => ?_) (fun j hj => ?_)) (hs2.2 0 (by decide)) (f_e0 _ _ _ _ _ hs2.1) rfl (cwV 1 hC2.1.2.2.2.2 gX5_save_X4_copyFrom rfl rfl rfl (by decide +kernel) ⟨Nat.le_of_ble_eq_true rfl, Nat.le_of_ble_eq_true rfl⟩) rfl rfl (Nat.le_of_ble_eq_true rfl) dX5_save_37 ⟨Nat.le_of_ble_eq_true rfl, Nat.le_of_ble_eq_true rfl⟩ ?_
  · rw [hc2] at hi
    rw [hg0 _ (by unfold iV; omega), hg0 _ (by unfold iV; omega), hg0 _ (by unfold iV; omega)]
    exact hb i hi
  · rw [ho2] at hj
    rw [hg0 _ (by unfold iA; omega)]
    exact hl j hj
  · exact fk_vretS a hC2 hr hk dX5_save_40 rfl rfl rfl
set_option maxHeartbeats 4000000 in
set_option maxRecDepth 100000 in
theorem sL_save (l : Launch) (D : va_G) (K : Nat → ClassId) (NL : List Nat) (ad : Nat → Nat) (G : fM) (x : fX) (hp : 300 ∈ NL) (hz : f_ES NL 0) (h1 : 301 ∈ NL) (t : Nat) (ht : t < 2) (hs : ¬ 100 * (t + 1) ∈ NL) (hfr : f_free NL t) (hok : ∀ n, n ∈ NL → n < 300 → n % 100 < 30) (hI : f_I 0 G) (hb : ∀ i, i < cN 0 G → (G (iV 0 i 4) = 0 ∨ G (iV 0 i 4) = 1) ∧ (G (iV 0 i 5) = 0 ∨ G (iV 0 i 5) = 1) ∧ (G (iV 0 i 7) = 0 ∨ G (iV 0 i 7) = 1)) (hl : ∀ j, j < oN 0 G → G (iA 0 3000 j) = 0 ∨ G (iA 0 3000 j) = 1) : KS l yL_save wsL_save { frames := 6, cells := 30, slots := 3302, locals := 130 } D K NL ad [.ref (ad 300), .int (nI t)] G x t (some (.int 0)) (sS_copy (t + 1) 0 (Gx G t)) x := by
  intro sz
  refine va_MetW (cc := cL_save) (maxL := 3) (ret := some .int) (hh := [(0, 5, 8, 13)]) (by decide +kernel) rfl ?_
  intro p e s m args below meth c s₁ B hml hv
  obtain ⟨rfl, hsz, hP, hK, hD, hN⟩ := hv
  subst hsz
  have hts := atoms_spec (ws := wsL_save) B.pre
  have hown : s.vm.findClass yL_save.cls = some m.cls := findClass_of_methodNamed B.named
  have hle := lv_entry ([.ref (ad 300), .int (nI t)] : List Value) (n := 3) (Nat.le_of_ble_eq_true rfl)
  rw [lg_entry_eq]
  have hC : Cx p s m ([.ref (ad 300), .int (nI t)] : List Value).toArray c cL_save 3 wsL_save RL vwCl D K NL ad (f_A NL ad s.heap.size) s.heap := ⟨⟨B.exec, B.bytes, hml, hown, hts⟩, hK, hD.self, fun q h => Or.inr h⟩
  have hr := B.returns
  have hk := B.notSynchronized
  suffices hmain : Wk p l e { frames := 6, cells := 30, slots := 3302, locals := 130 } s m ([.ref (ad 300), .int (nI t)] : List Value).toArray below meth c vwCl D K NL ad (f_A NL ad s.heap.size) s.heap 3 0 0 (MQ below (f_PostS D K NL ad (sS_copy (t + 1) 0 (Gx G t)) x t (some (.int 0)) s.heap.size) ([.ref (ad 300), .int (nI t)] : List Value).toArray s 30 3302 (f_A NL ad s.heap.size)) G x 0 [some (.ref (ad 300)), some (.int (nI t)), none] [] from hmain s.heap [] _ hP va_S.rf hle
  refine fk_aload_n hC dL_save_0 rfl rfl ?_
  refine fk_iload_n hC dL_save_1 rfl rfl ?_
  refine fk_callVS hC hN (sX5_save l D K NL ad G x hp hz h1 t ht hs hfr hok hI hb hl) hp (f_E300 _ _ _ _ _) rfl (cwV 1 hC.1.2.2.2.2 gL_save_X5_save rfl rfl rfl (by decide +kernel) ⟨Nat.le_of_ble_eq_true rfl, Nat.le_of_ble_eq_true rfl⟩) rfl rfl (Nat.le_of_ble_eq_true rfl) dL_save_2 ⟨Nat.le_of_ble_eq_true rfl, Nat.le_of_ble_eq_true rfl⟩ ?_
  intro a hDn
  have hC2 : Cx p s m ([.ref (ad 300), .int (nI t)] : List Value).toArray c cL_save 3 wsL_save RL vwCl D K (NLx NL t) (adx ad t a) (f_A NL ad s.heap.size) s.heap := ⟨hC.1, hK, hDn, fun q h => Or.inr h⟩
  refine fk_goto (tgt := 11) hC2 dL_save_5 (by decide) ?_
  refine fk_iconst (v := 0) hC2 dL_save_11 (by decide) ?_
  exact fk_iretS a hC2 hr hk dL_save_12 rfl rfl rfl
