/-! the law from its entry -/
section WHOLE
section RowsW
variable {p : Program} {l : Launch} {e : Env} {R : Room} {s : State} {m : MethodId} {args : Array Value} {below : List Frame} {meth : Method} {c : Code} {D : va_G} {K : Nat → ClassId} {A : Nat → Prop} {H0 : Heap} {nL cells slots : Nat} {Q : State → Prop}
variable {cc : ByteArray} {Ts : List Cond} {own : String} {ws : va_W} {pc : Nat} {L : List (Option Value)} {rest : List Value}
theorem wc_newl (hC : Ci p s m args meth c cc nL Ts own D K A H0) {n : Int32} {N : Nat} (harr : Cond.arrayClass .long ∈ Ts) (hn : n = nI N) (hN : N < 100000) (hcells : cells + 1 ≤ R.cells) (hslots : slots + N ≤ R.slots) (hdg : decode cc pc = .ok (.newarray .long, 2))
    (kk : ∀ q : Nat, Wc p l e R s m args below meth c D A H0 nL (cells + 1) (slots + N) Q (ws ++ [(q, .inl (K 4, N, .inr (.inl (fun _ => 0))))]) (pc + 2) L (.ref q :: rest)) : Wc p l e R s m args below meth c D A H0 nL cells slots Q ws pc L (.int n :: rest) := fun H locs ls h1 h2 h3 h4 => by
  subst hn
  refine va_newa (atype := .long) (ty := .long) (N' := N) (a0 := (N, .inr (.inl (fun _ => 0)))) hC.1.1 hC.1.2.1 (hC.1.2.2.2.2 _ harr) rfl hC.2.1 h1 h2 h3 hC.2.2.2 (fun cA => rfl) (nI_pos (by omega)) (nI_clamp (by omega)) (by show N * 8 ≤ _; omega) hcells hslots hdg (fun q cA H1 hK1 a1 a2 a3 => ?_)
  have e1 : s.vm.findClass _ = some cA := (hK1.2 6 _ rfl).2
  have e2 : s.vm.findClass _ = some (K 4) := (hC.2.1.2 4 _ rfl).2
  cases Option.some.inj (e1.symm.trans e2)
  exact kk q H1 locs ls a1 a2 a3 h4
theorem wc_newd (hC : Ci p s m args meth c cc nL Ts own D K A H0) {n : Int32} {N : Nat} (harr : Cond.arrayClass .double ∈ Ts) (hn : n = nI N) (hN : N < 100000) (hcells : cells + 1 ≤ R.cells) (hslots : slots + N ≤ R.slots) (hdg : decode cc pc = .ok (.newarray .double, 2))
    (kk : ∀ q : Nat, Wc p l e R s m args below meth c D A H0 nL (cells + 1) (slots + N) Q (ws ++ [(q, .inl (K 5, N, .inr (.inr (.inr (.inl (fun _ => 0))))))]) (pc + 2) L (.ref q :: rest)) : Wc p l e R s m args below meth c D A H0 nL cells slots Q ws pc L (.int n :: rest) := fun H locs ls h1 h2 h3 h4 => by
  subst hn
  refine va_newa (atype := .double) (ty := .double) (N' := N) (a0 := (N, .inr (.inr (.inr (.inl (fun _ => 0)))))) hC.1.1 hC.1.2.1 (hC.1.2.2.2.2 _ harr) rfl hC.2.1 h1 h2 h3 hC.2.2.2 (fun cA => rfl) (nI_pos (by omega)) (nI_clamp (by omega)) (by show N * 8 ≤ _; omega) hcells hslots hdg (fun q cA H1 hK1 a1 a2 a3 => ?_)
  have e1 : s.vm.findClass _ = some cA := (hK1.2 6 _ rfl).2
  have e2 : s.vm.findClass _ = some (K 5) := (hC.2.1.2 5 _ rfl).2
  cases Option.some.inj (e1.symm.trans e2)
  exact kk q H1 locs ls a1 a2 a3 h4
theorem wc_astore (hC : Ci p s m args meth c cc nL Ts own D K A H0) {i u : Nat} (hdg : decode cc pc = .ok (.astore i, 2)) (hn : i < nL) (hc : f_c1 L i = true) (kk : Wc p l e R s m args below meth c D A H0 nL cells slots Q ws (pc + 2) (f_set L i (some (.ref u))) rest) : Wc p l e R s m args below meth c D A H0 nL cells slots Q ws pc L (.ref u :: rest) := fun H locs ls h1 h2 h3 h4 => lv_astore hC.1.1 hC.1.2.1 hdg h4 hn rfl (fun ls1 h5 => kk H locs ls1 h1 h2 h3 (f_L.set1 hc h5))
theorem wc_istore (hC : Ci p s m args meth c cc nL Ts own D K A H0) {i : Nat} {u : Int32} (hdg : decode cc pc = .ok (.istore i, 2)) (hn : i < nL) (hc : f_c1 L i = true) (kk : Wc p l e R s m args below meth c D A H0 nL cells slots Q ws (pc + 2) (f_set L i (some (.int u))) rest) : Wc p l e R s m args below meth c D A H0 nL cells slots Q ws pc L (.int u :: rest) := fun H locs ls h1 h2 h3 h4 => lv_istore hC.1.1 hC.1.2.1 hdg h4 hn rfl (fun ls1 h5 => kk H locs ls1 h1 h2 h3 (f_L.set1 hc h5))
end RowsW
/-- the names at the start; their addresses; the memory -/
def NL0 : List Nat := 300 :: (X4o ++ [301, 310, 311, 312, 313, 314, 320, 321])
def ad0 (h0 : Nat) (u : (Nat → Nat) × Nat) (h1 : Nat) (v : Nat × Nat × Nat × Nat) (q2 q3 : Nat) (n : Nat) : Nat :=
  if n < 300 then u.1 n else if n = 300 then h0 else if n = 301 then u.2 else if n = 310 then h1 else if n = 311 then v.1 else if n = 312 then v.2.1 else if n = 313 then v.2.2.1 else if n = 314 then v.2.2.2 else if n = 320 then q2 else q3
def G0 (g : Nat) : Int32 := if g < 10000 then I0 g else if 41000 ≤ g ∧ g < 50000 then A0 (g - 41000) else 0
def E0 (K : Nat → ClassId) (u : (Nat → Nat) × Nat) (v : Nat × Nat × Nat × Nat) (n : Nat) : va_E :=
  if n < 300 then f_st K u.1 I0 0 n else if n = 300 then .inr (5, [.ref (u.1 0), .ref u.2]) else if n = 301 then f_ra K 3 2 (fun _ => none) else if n = 310 then .inr (6, [.ref v.1, .ref v.2.1, .ref v.2.2.1, .int 0, .ref v.2.2.2, .int 0]) else if n = 311 then .inl (K 0, 3263, .inl A0) else if n = 312 then zI K 0 6526 else if n = 313 then zI K 1 2 else if n = 314 then zI K 0 10 else if n = 320 then .inl (K 4, 1, .inr (.inl (fun _ => 0))) else .inl (K 5, 1, .inr (.inr (.inr (.inl (fun _ => 0)))))
theorem w0_eq (K : Nat → ClassId) (h0 : Nat) (u : (Nat → Nat) × Nat) (h1 : Nat) (v : Nat × Nat × Nat × Nat) (q2 q3 : Nat) :
    ((([] ++ w1P K h0 u) ++ w1M K h1 v) ++ [(q2, (.inl (K 4, 1, .inr (.inl (fun _ => 0))) : va_E))]) ++ [(q3, (.inl (K 5, 1, .inr (.inr (.inr (.inl (fun _ => 0))))) : va_E))] = NL0.map (fun n => (ad0 h0 u h1 v q2 q3 n, E0 K u v n)) := by
  rfl
theorem NL0_all : ∀ n ∈ NL0, n < 30 ∨ n = 300 ∨ n = 301 ∨ n = 310 ∨ n = 311 ∨ n = 312 ∨ n = 313 ∨ n = 314 ∨ n = 320 ∨ n = 321 := by decide
theorem G0_M {j : Nat} (h : j < 9000) : G0 (41000 + j) = A0 j := by
  unfold G0
  rw [if_neg (by omega), if_pos ⟨by omega, by omega⟩, Nat.add_sub_cancel_left]
theorem G0_z {g : Nat} (h1 : 10000 ≤ g) (h2 : g < 41000 ∨ 50000 ≤ g) : G0 g = 0 := by
  unfold G0
  rw [if_neg (by omega), if_neg (by omega)]
theorem A0_z {j : Nat} (h : 10 ≤ j) : A0 j = 0 := by
  unfold A0
  rw [if_neg (by omega), if_neg (by omega), if_neg (by omega), if_neg (by omega), if_neg (by omega)]
theorem start_P {D : va_G} {K : Nat → ClassId} {h0 : Nat} {u : (Nat → Nat) × Nat} {h1 : Nat} {v : Nat × Nat × Nat × Nat} {q2 q3 : Nat} {H : Heap} (h : va_P D vwCl (NL0.map (fun n => (ad0 h0 u h1 v q2 q3 n, E0 K u v n))) H) : va_P D vwCl (f_W K NL0 (ad0 h0 u h1 v q2 q3) G0 (0, 0)) H := by
  intro k z hz
  obtain ⟨n, hn, rfl⟩ := f_W_of hz
  have h9 := h k (ad0 h0 u h1 v q2 q3 n, E0 K u v n) (by rw [List.getElem?_map, hn]; rfl)
  rcases NL0_all n (List.mem_of_getElem? hn) with hl | rfl | rfl | rfl | rfl | rfl | rfl | rfl | rfl | rfl
  · have e9 : E0 K u v n = f_st K u.1 I0 0 n := by unfold E0; rw [if_pos (by omega)]
    rw [e9] at h9
    rw [f_Est _ _ _ _ _ _ (by omega), show n / 100 = 0 by omega, show n % 100 = n by omega]
    refine f_st_ad (ad := u.1) hl (fun j hj => ?_) (f_keep_st (by decide) (fun i hi => ?_) h9)
    · unfold ad0
      rw [if_pos (by omega)]
    · have hi3 : i < 30000 := by
        rcases Nat.lt_or_ge i 30000 with h8 | h8
        · exact h8
        · have := f_own_ge (g := i) (by omega)
          omega
      have := f_own_div hi3
      unfold G0
      rw [if_pos (by omega)]
  · exact h9
  · rw [f_E301]
    show H[ad0 h0 u h1 v q2 q3 301]? = some (vp_cell _ _)
    rw [f_ra_cell (f := fun j => if 100 * (j + 1) ∈ NL0 then some (ad0 h0 u h1 v q2 q3 (100 * (j + 1))) else none) (g := fun _ => none) (fun j hj => ?_)]
    · exact h9
    · rw [if_neg]
      intro h8
      have := NL0_all _ h8
      omega
  · exact h9
  · rw [f_E311]
    show H[ad0 h0 u h1 v q2 q3 311]? = some (vp_cell _ _)
    rw [f_ia_cell (f := fun j => G0 (41000 + j)) (g := A0) (fun j hj => G0_M (by omega))]
    exact h9
  · rw [f_E312]
    show H[ad0 h0 u h1 v q2 q3 312]? = some (vp_cell _ _)
    rw [f_ia_cell (f := fun j => G0 (50000 + j)) (g := fun _ => 0) (fun j hj => G0_z (by omega) (by omega))]
    exact h9
  · rw [f_E313]
    show H[ad0 h0 u h1 v q2 q3 313]? = some (vp_cell _ _)
    rw [f_ia_cell (f := fun j => G0 (40030 + j)) (g := fun _ => 0) (fun j hj => G0_z (by omega) (by omega))]
    exact h9
  · rw [f_E314]
    show H[ad0 h0 u h1 v q2 q3 314]? = some (vp_cell _ _)
    rw [f_ia_cell (f := fun j => G0 (40010 + j)) (g := fun _ => 0) (fun j hj => G0_z (by omega) (by omega))]
    exact h9
  · exact h9
  · exact h9
theorem start_T {j : Nat} (h1 : 10 ≤ j) (h2 : j < 9000) : tM G0 j = 0 := (G0_M h2).trans (A0_z h1)
theorem start_R : RelA 0 NL0 G0 := by
  refine ⟨⟨⟨by decide, fun k hk => ?_⟩, by decide, by decide, by decide, by decide, ⟨by decide, by decide, by decide, by decide, by decide⟩, fun n hn => ?_, by decide⟩, ⟨0, 0, 0, 0, ⟨?_, ?_, ?_, ?_⟩⟩, fun τ hτ => Or.inl ⟨?_, fun n hn => ?_⟩⟩
  · show 100 * 0 + k ∈ NL0
    rw [Nat.mul_zero, Nat.zero_add]
    exact List.mem_cons_of_mem _ (List.mem_append_left _ (X4o_all k hk))
  · have := NL0_all n hn
    omega
  · exact ⟨⟨by decide, by decide, by decide⟩, ⟨by decide, by decide, by decide⟩, ⟨by decide, by decide⟩, ⟨by decide, by decide⟩, by decide, by decide, by decide, ⟨by decide, 0, by decide, by decide⟩, by decide, ⟨by decide, 0, by decide, by decide⟩, ⟨by decide, by decide, by decide⟩, by decide, by decide, by decide, by decide⟩
  · exact ⟨fun i hi => absurd hi (Nat.not_lt_zero i), fun i _ hi => ⟨start_T (by omega) (by omega), start_T (by omega) (by omega), start_T (by omega) (by omega), start_T (by omega) (by omega), start_T (by omega) (by omega), start_T (by omega) (by omega), start_T (by omega) (by omega), start_T (by omega) (by omega)⟩⟩
  · exact fun j hj => absurd hj (Nat.not_lt_zero j)
  · exact ⟨fun j hj => absurd hj (Nat.not_lt_zero j), fun j _ hj => start_T (by omega) (by omega)⟩
  · exact G0_z (by unfold iZ; omega) (by unfold iZ; omega)
  · have := NL0_all n hn
    omega
set_option maxHeartbeats 4000000 in
set_option maxRecDepth 100000 in
theorem whole_start {p : Program} {e : Env} {s : State} {m : MethodId} {below : List Frame} {meth : Method} {c : Code} (l : Launch) (hflags : l.flags = flags0) {b L : Nat} {xs : Nat → Int32} (hL : L ≤ 1536) (C0 : lw_At p s m meth c b L xs) : W p l e room_1 s m #[Value.ref b] below meth c s.heap [] 0 0 (lw_Z below #[Value.ref b] s) (entryFrame m ([Value.ref b] : List Value).toArray 9) := by
  obtain ⟨hx, hb, hr, hml, hown, hts, hX, hbl, hlocks, hgv⟩ := id C0
  obtain ⟨D, K, hK⟩ := start_K hts
  have hNI := start_N hts
  have hXn := start_X hts hgv
  have hZ := start_Z hts hgv
  have hst : l.stackTraces = false := by
    unfold Launch.stackTraces
    rw [hflags]
    decide
  have htw : ∀ w ∈ wsL_law, w.before #[Value.ref b] s = true := fun w h => hts w (wsL_law_in w h)
  have hC : Ci p s m #[Value.ref b] meth c cL_law 9 wsL_law RL D K (lA s) s.heap := ⟨⟨hx, hb, hml, hown, htw⟩, hK, hNI, fun q h => h⟩
  have hl := lv_entry ([.ref b]) (n := 9) (Nat.le_of_ble_eq_true rfl)
  rw [lg_entry_eq]
  suffices hmain : Wc p l e room_1 s m #[Value.ref b] below meth c D (lA s) s.heap 9 0 0 (lw_Z below #[Value.ref b] s) [] 0 [some (.ref b), none, none, none, none, none, none, none, none] [] from hmain s.heap [] _ (fun k q h => by simp at h) ⟨fun i j p q h => by simp at h, fun k q h => by simp at h⟩ va_S.rf hl
  refine wc_new (fs := [.null, .null]) hC inlX5 tyX5 tyX5_ok (by decide +kernel) (by decide +kernel) (by decide +kernel) (ci := 5) rfl (by decide) (Nat.le_of_ble_eq_true rfl) (Nat.le_of_ble_eq_true rfl) dL_law_0 ?_
  intro q0
  refine wc_dup hC dL_law_3 rfl ?_
  refine wc_callL (wr := []) hC (kX5_init l D K q0) (cwI 0 htw gL_law_X5_init rfl rfl rfl (htw (.initialized RX5) (by decide +kernel)) (htw (.methodLink RL 89 yX5_init) (by decide +kernel)) (htw (.instanceMethod yX5_init) (by decide +kernel)) rfl (by decide +kernel) ⟨Nat.le_of_ble_eq_true rfl, Nat.le_of_ble_eq_true rfl⟩) (Nat.le_of_ble_eq_true rfl) dL_law_4 ⟨Nat.le_of_ble_eq_true rfl, Nat.le_of_ble_eq_true rfl⟩ ?_
  intro u
  refine wc_astore_n hC dL_law_7 rfl (by decide) rfl ?_
  refine wc_new (fs := [.null, .null, .null, .int 0, .null, .int 0]) hC inlX6 tyX6 tyX6_ok (by decide +kernel) (by decide +kernel) (by decide +kernel) (ci := 6) rfl (by decide) (Nat.le_of_ble_eq_true rfl) (Nat.le_of_ble_eq_true rfl) dL_law_8 ?_
  intro q1
  refine wc_dup hC dL_law_11 rfl ?_
  refine wc_callL (wr := [] ++ w1P K q0 u) hC (kX6_init l D K q1) (cwI 0 htw gL_law_X6_init rfl rfl rfl (htw (.initialized RX6) (by decide +kernel)) (htw (.methodLink RL 92 yX6_init) (by decide +kernel)) (htw (.instanceMethod yX6_init) (by decide +kernel)) rfl (by decide +kernel) ⟨Nat.le_of_ble_eq_true rfl, Nat.le_of_ble_eq_true rfl⟩) (Nat.le_of_ble_eq_true rfl) dL_law_12 ⟨Nat.le_of_ble_eq_true rfl, Nat.le_of_ble_eq_true rfl⟩ ?_
  intro v
  refine wc_astore_n hC dL_law_15 rfl (by decide) rfl ?_
  refine wc_iconst (v := 1) hC dL_law_16 (by decide) ?_
  refine wc_newl (N := 1) hC (by decide +kernel) (by decide) (by decide) (Nat.le_of_ble_eq_true rfl) (Nat.le_of_ble_eq_true rfl) dL_law_17 ?_
  intro q2
  refine wc_astore_n hC dL_law_19 rfl (by decide) rfl ?_
  refine wc_iconst (v := 1) hC dL_law_20 (by decide) ?_
  refine wc_newd (N := 1) hC (by decide +kernel) (by decide) (by decide) (Nat.le_of_ble_eq_true rfl) (Nat.le_of_ble_eq_true rfl) dL_law_21 ?_
  intro q3
  refine wc_astore hC dL_law_23 (by decide) rfl ?_
  refine wc_iconst (v := nI (3 * 0)) hC dL_law_25 (by decide) ?_
  refine wc_istore hC dL_law_26 (by decide) rfl ?_
  refine Wc.eq (w0_eq K q0 u q1 v q2 q3) ?_
  intro H locs ls g1 g2 g3 g4
  have hD : f_D (lA s) NL0 (ad0 q0 u q1 v q2 q3) := va_D_fst g2 (by rw [List.map_map, List.map_map]; rfl)
  exact law_loop (D := D) (K := K) (xs := xs) hr hlocks (L + 1) 0 NL0 (ad0 q0 u q1 v q2 q3) G0 (0, 0) _ _ ⟨⟨⟨hx, hb, hml, hown, htw⟩, hK, hD, fun q h => h⟩, ⟨hst, hNI.1, hXn, hZ⟩, hNI, hX, hbl, hL⟩ start_R (by omega) (by omega) (Nat.le_of_ble_eq_true rfl) (Nat.le_of_ble_eq_true rfl) H locs ls (start_P g1) g3 g4
end WHOLE
