/-! open, second part -/
section OP2
variable {cn t nn o n : Nat} {T G Q : fM}
/-- places of the class's present state alone; places of the reference alone, but what is saved -/
def Hi (G M : fM) : Prop := ∀ g, 10000 ≤ g → M g = G g
def Lo (Q M : fM) : Prop := ∀ g, (g < 40000 ∨ (40020 ≤ g ∧ g < 41000) ∨ 50000 ≤ g) → M g = Q g
theorem Hi.rf : Hi G G := fun _ _ => rfl
theorem Lo.rf : Lo Q Q := fun _ _ => rfl
theorem Hi.tr {A B : fM} (h1 : Hi G A) (h2 : Hi A B) : Hi G B := fun g hg => (h2 g hg).trans (h1 g hg)
theorem Lo.tr {A B : fM} (h1 : Lo Q A) (h2 : Lo A B) : Lo Q B := fun g hg => (h2 g hg).trans (h1 g hg)
theorem Hi.up {M : fM} {k : Nat} {x : Int32} (h : Hi G M) (hk : k < 10000) : Hi G (upd M k x) := fun g hg => (pk_un (by omega)).trans (h g hg)
theorem Lo.up {M : fM} {k : Nat} {x : Int32} (h : Lo Q M) (hk : k < 9000) : Lo Q (upd M (iM k) x) := fun g hg => (pk_un (by unfold iM; omega)).trans (h g hg)
theorem Lo.ti {M : fM} {k : Nat} {x : Int32} (h : Lo Q M) (hk : k < 2) : Lo Q (upd M (iT k) x) := fun g hg => (pk_un (by unfold iT; omega)).trans (h g hg)
theorem Hi.tM {M : fM} (h : Hi G M) : tM M = tM G := funext fun j => h _ (by unfold iM; omega)
theorem Own.hi {i : Nat} {M : fM} (hi : i < 10) (h : Own i G M) : Hi G M := fun g hg => h g (by unfold iV; omega)
theorem lay_lo (hc : cn ≤ 10) : Lo Q (mM_lay cn Q) := by
  have h := fold9_inv (F := mM_layF) (fun k M => (∃ c, c ≤ k ∧ M (iT 1) = nI c) ∧ Lo Q M) cn 0 (upd Q (iT 1) 0) ⟨⟨0, Nat.le_refl _, pk_us⟩, Lo.rf.ti (by decide)⟩ (fun k M _ hk ⟨⟨c, hck, hc1⟩, hL⟩ => by
    unfold mM_layF
    split
    · exact ⟨⟨c, by omega, hc1⟩, hL⟩
    · rw [hc1, nI_clamp (by omega)]
      refine ⟨⟨c + 1, by omega, ?_⟩, ?_⟩
      · rw [pk_us, pk_un (by unfold iT iW; omega), hc1, nI_1]
      · exact Lo.ti (fun g hg => (pk_un (by unfold iW; omega)).trans (hL g hg)) (by decide))
  exact h.2
theorem lay_T (hc : cn ≤ 10) : tM (mM_lay cn Q) = tM Q := funext (mM_lay_ok (G := Q) hc).1
theorem note_hi {j : Nat} (hc : cN 0 G ≤ 10) (hj : j < 10) : Hi G (sS_note 0 j G) := by
  unfold sS_note
  split
  · exact Hi.rf.up (by decide)
  · split
    · exact fun g hg => sS_mc_ne hc hj (Or.inr (Or.inl (by omega)))
    · split
      · exact Hi.rf.up (by decide)
      · exact Hi.rf
theorem nbeg_hi {j : Nat} {x : Int32} (hj : j < 10) : Hi G (sB_nbeg 0 j x G) := by
  unfold sB_nbeg
  split
  · exact Hi.rf.up (by unfold iB; omega)
  · exact Hi.rf
theorem rem_hi {cl sv tt : Int32} (hn : nn ≤ 40) : Hi G (sK_rem 0 cl sv tt nn G) := by
  have hP := sK_remP_lt (z := 0) (cl := cl) (G := G) hn
  unfold sK_rem
  have h0 : Hi G (sK_remG 0 cl nn G) := by
    unfold sK_remG sK_newG
    split
    · exact Hi.rf
    · split
      · exact Hi.rf.up (by decide)
      · exact Hi.rf
  exact ((h0.up (by unfold iA; omega)).up (by unfold iA; omega)).up (by unfold iA; omega)
theorem con_hi {j : Nat} {cl : Int32} (hI : f_I 0 G) (hj : j < 10) (ho : oN 0 G < 1000) : Hi G (sS_con 0 j cl G) := by
  have h2 : Hi G (sS_con2 0 j G) := by
    unfold sS_con2 sS_con1 sC_app
    exact Hi.tr (((((Hi.rf.up (by unfold iA; omega)).up (by unfold iA; omega)).up (by unfold iA; omega)).up (by decide)).up (by unfold iV; omega)) (nbeg_hi hj)
  unfold sS_con
  split
  · exact h2
  · exact h2.tr (rem_hi hI.n40)
theorem mnote_lo {A : List Nat} {j : Nat} (hA : ∀ i ∈ A, i < 10) (hj : j < 10) : Lo Q (mM_note A j Q) := by
  unfold mM_note
  split
  · exact Lo.rf.up (by decide)
  · split
    · refine Lo.up ?_ (by omega)
      have eno : mM_no1 A Q = A.foldl (fun q i => (upd q.1 (iM (113 + i)) (q.1 (iM (113 + i)) + mM_wt i q.1), q.2 + mM_wt i (upd q.1 (iM (113 + i)) (q.1 (iM (113 + i)) + mM_wt i q.1)))) (Q, 0) := ix_fold (g := fun i q => (upd q.1 (iM (113 + i)) (q.1 (iM (113 + i)) + mM_wt i q.1), q.2 + mM_wt i (upd q.1 (iM (113 + i)) (q.1 (iM (113 + i)) + mM_wt i q.1)))) A [] (Q, 0)
      rw [eno]
      have key : ∀ (L : List Nat) (q : fM × Int32), (∀ i ∈ L, i < 10) → Lo Q q.1 → Lo Q (L.foldl (fun q i => (upd q.1 (iM (113 + i)) (q.1 (iM (113 + i)) + mM_wt i q.1), q.2 + mM_wt i (upd q.1 (iM (113 + i)) (q.1 (iM (113 + i)) + mM_wt i q.1)))) q).1 := by
        intro L
        induction L with
        | nil => intro q _ h; exact h
        | cons b L ih =>
          intro q h1 h2
          rw [List.foldl_cons]
          exact ih _ (fun i hi => h1 i (List.mem_cons_of_mem _ hi)) (h2.up (by have := h1 b List.mem_cons_self; omega))
      exact key A (Q, 0) hA Lo.rf
    · split
      · exact Lo.rf
      · exact Lo.rf.up (by decide)
theorem mrem_lo {cl sv : Int32} (hn : nn ≤ 40) : Lo Q (mM_rem cl sv nn Q) := by
  have hP := mM_remP_lt (cl := cl) (G := Q) hn
  unfold mM_rem
  have h0 : Lo Q (mM_remG cl nn Q) := by
    unfold mM_remG
    split
    · exact Lo.rf
    · split
      · exact Lo.rf.up (by decide)
      · exact Lo.rf
  exact ((h0.up (by omega)).up (by omega)).up (by omega)
/-- a client is remembered at the place P -/
theorem rs_rem1 {nn' P j : Nat} {cl : Int32} {T0 G0 : fM} (h : RS cn t nn o n 0 T G) (hA : RA cn t nn' o n 0 T0 G0) (hG0 : ∀ g, 100 ≤ g → g < 10000 → G0 g = G g) (hT0 : ∀ k, 13 ≤ k → T0 k = T k) (hP : P < 40) (hnn : ∀ k, k < nn' → k ≠ P → k < nn) (hj : j < cn) : RS cn t nn' o n 0 (upd (upd (upd T0 (143 + P) cl) (183 + P) (nI t)) (223 + P) (nI j)) (upd (upd (upd G0 (iA 0 400 P) cl) (iA 0 450 P) (nI j)) (iA 0 500 P) (nI t)) := by
  have h10 := h.c10
  have h40 := h.hn.2.2
  have h1000 := h.ho.2.2
  have hG : ∀ g, g ≠ iA 0 400 P → g ≠ iA 0 450 P → g ≠ iA 0 500 P → upd (upd (upd G0 (iA 0 400 P) cl) (iA 0 450 P) (nI j)) (iA 0 500 P) (nI t) g = G0 g := fun g h1 h2 h3 => by rw [pk_un h3, pk_un h2, pk_un h1]
  have hT : ∀ k, k ≠ 143 + P → k ≠ 183 + P → k ≠ 223 + P → upd (upd (upd T0 (143 + P) cl) (183 + P) (nI t)) (223 + P) (nI j) k = T0 k := fun k h1 h2 h3 => by rw [pk_un h3, pk_un h2, pk_un h1]
  refine ⟨hA.congr (fun c hc => hG _ (by unfold iS iA; omega) (by unfold iS iA; omega) (by unfold iS iA; omega)) (fun k hk => hT k (by omega) (by omega) (by omega)) (Nat.le_refl _), ?_, fun k hk => ?_, ?_⟩
  · exact h.2.1.congr h10 (fun i c hi hc => by rw [hG _ (by unfold iV iA; omega) (by unfold iV iA; omega) (by unfold iV iA; omega)]; exact hG0 _ (by unfold iV; omega) (by unfold iV; omega)) (fun k h1 h2 => by rw [hT k (by omega) (by omega) (by omega)]; exact hT0 k (by omega)) (Nat.le_refl _) (Nat.le_refl _)
  · have hk40 : k < 40 := by
      by_cases hkP : k = P
      · omega
      · have := hnn k hk hkP; omega
    by_cases hkP : k = P
    · subst hkP
      refine ⟨?_, ⟨?_, t, ?_, Nat.le_refl _⟩, ?_, j, hj, ?_⟩
      · rw [pk_un (by omega), pk_un (by omega), pk_us, pk_un (by unfold iA; omega), pk_un (by unfold iA; omega), pk_us]
      · rw [pk_un (by omega), pk_us, pk_us]
      · rw [pk_us]
      · rw [pk_us, pk_un (by unfold iA; omega), pk_us]
      · rw [pk_un (by unfold iA; omega), pk_us]
    · rw [hT _ (by omega) (by omega) (by omega), hT _ (by omega) (by omega) (by omega), hT _ (by omega) (by omega) (by omega), hG _ (by unfold iA; omega) (by unfold iA; omega) (by unfold iA; omega), hG _ (by unfold iA; omega) (by unfold iA; omega) (by unfold iA; omega), hG _ (by unfold iA; omega) (by unfold iA; omega) (by unfold iA; omega), hT0 _ (by omega), hT0 _ (by omega), hT0 _ (by omega), hG0 _ (by unfold iA; omega) (by unfold iA; omega), hG0 _ (by unfold iA; omega) (by unfold iA; omega), hG0 _ (by unfold iA; omega) (by unfold iA; omega)]
      exact h.2.2.1 k (hnn k hk hkP)
  · exact h.2.2.2.congr h1000 (fun k hk => ⟨by rw [hG _ (by unfold iA; omega) (by unfold iA; omega) (by unfold iA; omega)]; exact hG0 _ (by unfold iA; omega) (by unfold iA; omega), by rw [hG _ (by unfold iA; omega) (by unfold iA; omega) (by unfold iA; omega)]; exact hG0 _ (by unfold iA; omega) (by unfold iA; omega), by rw [hG _ (by unfold iA; omega) (by unfold iA; omega) (by unfold iA; omega)]; exact hG0 _ (by unfold iA; omega) (by unfold iA; omega)⟩) (fun k h1 _ => by rw [hT k (by omega) (by omega) (by omega)]; exact hT0 k (by omega)) (Nat.le_refl _)
theorem bef_eq {a b : Nat} (hb : n < 100000) (h : RS cn t nn o n 0 (tM Q) G) (ha : a < nn) (hb9 : b < nn) : mM_bef Q a b = sK_bef 0 G a b := by
  have htn := h.tn
  obtain ⟨a1, ⟨a2, p, a3, a4⟩, _⟩ := h.2.2.1 a ha
  obtain ⟨b1, ⟨b2, q, b3, b4⟩, _⟩ := h.2.2.1 b hb9
  unfold mM_bef sK_bef
  rw [show Q (iM (183 + a)) = nI p from a2.trans a3, show Q (iM (183 + b)) = nI q from b2.trans b3, show Q (iM (143 + a)) = G (iA 0 400 a) from a1, show Q (iM (143 + b)) = G (iA 0 400 b) from b1, a3, b3]
  have e := pk_sub_toInt (a := p) (b := q) (by omega) (by omega)
  have h0 : (0 : Int32).toInt = 0 := by decide
  have e1 : (nI p - nI q < 0) ↔ (nI p < nI q) := by
    rw [Int32.lt_iff_toInt_lt, e, h0, nI_ltI (by omega) (by omega)]
    omega
  have e2 : (nI p - nI q = 0) ↔ (nI p = nI q) := by
    rw [← Int32.toInt_inj, e, h0, nI_eq (by omega) (by omega)]
    omega
  by_cases c1 : nI p < nI q
  · rw [if_pos (e1.mpr c1), if_pos c1]
  · rw [if_neg (fun h9 => c1 (e1.mp h9)), if_neg c1]
    by_cases c2 : nI p = nI q
    · rw [if_pos (e2.mpr c2), if_pos c2]
    · rw [if_neg (fun h9 => c2 (e2.mp h9)), if_neg c2]
theorem old_eq (hb : n < 100000) (h : RS cn t nn o n 0 (tM Q) G) (h40 : nn = 40) : mM_old Q = sK_old 0 G 39 1 0 := by
  have key : ∀ (d i b : Nat), b < 40 → i + d ≤ 40 → fold9 (mM_oldF Q) d i b = sK_old 0 G d i b := by
    intro d
    induction d with
    | zero => intro i b _ _; rfl
    | succ d ih =>
      intro i b h1 h2
      rw [fold9_s]
      show _ = sK_old 0 G d (i + 1) (if sK_bef 0 G i b = 0 then b else i)
      rw [show mM_oldF Q i b = (if sK_bef 0 G i b = 0 then b else i) by unfold mM_oldF; rw [bef_eq hb h (by omega) (by omega)]]
      exact ih _ _ (by split <;> omega) (by omega)
  exact key 39 1 0 (by decide) (by decide)
theorem rs_rem {j : Nat} {cl : Int32} (hb : n < 100000) (h : RS cn t nn o n 0 (tM Q) G) (hj : j < cn) : ∃ nn', RS cn t nn' o n 0 (tM (mM_rem cl (nI j) nn Q)) (sK_rem 0 cl (nI j) (nI t) nn G) := by
  have h40 := h.hn.2.2
  have hf := find_eq (cl := cl) h
  have eT1 : Q (iM 1) = nI t := h.T1
  unfold mM_rem sK_rem
  cases hs : sK_find 0 cl nn G with
  | some k =>
    have hk : k < nn := by
      have := srch_lt _ _ _ hs
      omega
    have e1 : sK_remP 0 cl nn G = k := by unfold sK_remP; rw [hs]
    have e2 : mM_remP cl nn Q = k := by unfold mM_remP; rw [hf, hs]
    have e3 : sK_remG 0 cl nn G = G := by unfold sK_remG; rw [hs]
    have e4 : mM_remG cl nn Q = Q := by unfold mM_remG; rw [hf, hs]
    rw [e1, e2, e3, e4, tM_up, tM_up, tM_up, pk_un (by unfold iM; omega), eT1]
    exact ⟨nn, rs_rem1 h h.1 (fun _ _ _ => rfl) (fun _ _ => rfl) (by omega) (fun k hk _ => hk) hj⟩
  | none =>
    by_cases hlt : nn < 40
    · have e1 : sK_remP 0 cl nn G = nn := by unfold sK_remP sK_newR; rw [hs]; dsimp only; rw [if_pos hlt]
      have e2 : mM_remP cl nn Q = nn := by unfold mM_remP; rw [hf, hs]; dsimp only; rw [if_pos hlt]
      have e3 : sK_remG 0 cl nn G = upd G (iS 0 21) (nI (nn + 1)) := by unfold sK_remG sK_newG; rw [hs]; dsimp only; rw [if_pos hlt]
      have e4 : mM_remG cl nn Q = upd Q (iM 12) (nI (nn + 1)) := by unfold mM_remG; rw [hf, hs]; dsimp only; rw [if_pos hlt]
      rw [e1, e2, e3, e4, tM_up, tM_up, tM_up, tM_up, pk_un (by unfold iM; omega), pk_un (by unfold iM; omega), eT1]
      exact ⟨nn + 1, rs_rem1 h ((ra_rem h.1 hlt).lower h.tn) (fun g h1 h2 => pk_un (by unfold iS; omega)) (fun k hk => pk_un (by omega)) (by omega) (fun k hk hne => by omega) hj⟩
    · have h40' : nn = 40 := by omega
      have eo := old_eq hb h h40'
      have e1 : sK_remP 0 cl nn G = sK_old 0 G 39 1 0 := by unfold sK_remP sK_newR; rw [hs]; dsimp only; rw [if_neg hlt]
      have e2 : mM_remP cl nn Q = sK_old 0 G 39 1 0 := by unfold mM_remP; rw [hf, hs]; dsimp only; rw [if_neg hlt, eo]
      have e3 : sK_remG 0 cl nn G = G := by unfold sK_remG sK_newG; rw [hs]; dsimp only; rw [if_neg hlt]
      have e4 : mM_remG cl nn Q = Q := by unfold mM_remG; rw [hf, hs]; dsimp only; rw [if_neg hlt]
      have hlo := sK_old_lt 0 G 39 1 0 (by decide)
      rw [e1, e2, e3, e4, tM_up, tM_up, tM_up, pk_un (by unfold iM; omega), eT1]
      exact ⟨nn, rs_rem1 h h.1 (fun _ _ _ => rfl) (fun _ _ => rfl) (by omega) (fun k hk _ => hk) hj⟩
/-- open, whole: Q is the memory that the reference finds -/
theorem rs_open {j : Nat} {cl : Int32} (hb : n < 90000) (h : RS cn t nn o n 0 (tM Q) G) (hf : sS_for 0 cl G = some j) : ∃ nn', RS cn t nn' (o + 1) (n + 1) 0 (tM (mM_op cn j cl Q)) (sP_op j cl G) ∧ Lo Q (mM_op cn j cl Q) ∧ Hi G (sP_op j cl G) ∧ mo (mM_op1 cn j cl Q) = o ∧ oN 0 (sP_opM j cl G) = o := by
  have h10 := h.c10
  have h40 := h.hn.2.2
  obtain ⟨hjc, hoc⟩ := sS_for_some h.I hf
  rw [h.ecN] at hjc
  rw [h.eoN] at hoc
  have eT0 : tM (mM_op0 cn Q) = tM Q := by unfold mM_op0; rw [tM_t (by decide), lay_T h10]
  have h0 : RS cn t nn o n 0 (tM (mM_op0 cn Q)) G := by rw [eT0]; exact h
  have l0 : Lo Q (mM_op0 cn Q) := (lay_lo h10).ti (by decide)
  have hst := stk_eq (cl := cl) h0
  have hlt : ∀ i ∈ avS G cn, i < 10 := fun i hi => by have := (avS_lt hi).1; omega
  -- what the policy notes
  have h1 : RS cn t nn o n 0 (tM (mM_op1 cn j cl Q)) (sP_opM j cl G) ∧ Lo Q (mM_op1 cn j cl Q) ∧ Hi G (sP_opM j cl G) := by
    unfold mM_op1 sP_opM
    rw [hst]
    cases sS_stk 0 cl G with
    | some k => exact ⟨h0, l0, Hi.rf⟩
    | none =>
      dsimp only
      rw [avL_eq h]
      exact ⟨rs_note (by omega) h0 hjc, l0.tr (mnote_lo hlt (by omega)), note_hi (by rw [h.ecN]; exact h10) (by omega)⟩
  obtain ⟨h1, l1, i1⟩ := h1
  have emo : mo (mM_op1 cn j cl Q) = o := h1.emo
  have eoN : oN 0 (sP_opM j cl G) = o := h1.eoN
  have enN : nN 0 (sP_opM j cl G) = nn := h1.enN
  -- the connection
  have et1 : mM_op1 cn j cl Q (iM 1) = nI t := h1.T1
  have h2 := rs_load (j := j) (x := tM (mM_op1 cn j cl Q) (33 + j) + 1) (by omega) (rs_app h1 hjc hoc) hjc (Or.inl ⟨by rw [pk_un (by omega), pk_un (by omega), pk_un (by omega)], rfl⟩)
  have e2 : tM (mM_op2 j (mM_op1 cn j cl Q)) = upd (upd (upd (upd (tM (mM_op1 cn j cl Q)) (263 + o) (nI j)) (1263 + o) (nI t)) 10 (nI (o + 1))) (33 + j) (tM (mM_op1 cn j cl Q) (33 + j) + 1) := by
    unfold mM_op2
    rw [emo, tM_up, tM_up, tM_up, tM_up, pk_un (by unfold iM; omega), et1, pk_un (by unfold iM; omega), pk_un (by unfold iM; omega), upd_comm (by omega)]
    rfl
  rw [← e2] at h2
  have l2 : Lo Q (mM_op2 j (mM_op1 cn j cl Q)) := by
    unfold mM_op2
    rw [emo]
    exact (((l1.up (by omega)).up (by omega)).up (by omega)).up (by decide)
  have h3 := rs_nbeg (j := j) (x := nI o) h2 hjc
  have e3 : tM (mM_op3 j o (mM_op2 j (mM_op1 cn j cl Q))) = if tM (mM_op2 j (mM_op1 cn j cl Q)) (83 + j) = 2 then upd (tM (mM_op2 j (mM_op1 cn j cl Q))) (103 + j) (nI o) else tM (mM_op2 j (mM_op1 cn j cl Q)) := by
    unfold mM_op3
    by_cases h9 : mM_op2 j (mM_op1 cn j cl Q) (iM (83 + j)) = 2
    · rw [if_pos h9, if_pos (show tM (mM_op2 j (mM_op1 cn j cl Q)) (83 + j) = 2 from h9), tM_up]
    · rw [if_neg h9, if_neg (show ¬ tM (mM_op2 j (mM_op1 cn j cl Q)) (83 + j) = 2 from h9)]
  rw [← e3] at h3
  have l3 : Lo Q (mM_op3 j o (mM_op2 j (mM_op1 cn j cl Q))) := by
    unfold mM_op3
    split
    · exact l2.up (by omega)
    · exact l2
  have ec2 : sS_con2 0 j (sP_opM j cl G) = sB_nbeg 0 j (nI o) (upd (sC_app 0 (nI j) (nI t) o (sP_opM j cl G)) (iV 0 j 2) (sC_app 0 (nI j) (nI t) o (sP_opM j cl G) (iV 0 j 2) + 1)) := by
    unfold sS_con2 sS_con1
    rw [eoN, h1.ht]
  rw [← ec2] at h3
  have hi9 : Hi G (sP_op j cl G) := by
    unfold sP_op
    exact i1.tr (con_hi h1.I (by omega) (by rw [eoN]; exact hoc))
  -- the client
  have emn : mn Q = nn := h.emn
  have hlast : ∃ nn', RS cn t nn' (o + 1) (n + 1) 0 (tM (mM_op cn j cl Q)) (sP_op j cl G) ∧ Lo Q (mM_op cn j cl Q) := by
    unfold mM_op sP_op sS_con mM_op4
    rw [emo, emn, enN]
    have e5 : mM_op3 j o (mM_op2 j (mM_op1 cn j cl Q)) (iM 6) = sS_con2 0 j (sP_opM j cl G) (iS 0 5) := h3.T6
    rw [e5, h3.ht]
    by_cases h9 : sS_con2 0 j (sP_opM j cl G) (iS 0 5) ≤ 0
    · rw [if_pos h9, if_pos h9]
      exact ⟨nn, h3, l3⟩
    · rw [if_neg h9, if_neg h9]
      obtain ⟨nn', h4⟩ := rs_rem (cl := cl) (by omega) h3 hjc
      exact ⟨nn', h4, l3.tr (mrem_lo h40)⟩
  obtain ⟨nn', h4, l4⟩ := hlast
  exact ⟨nn', h4, l4, hi9, emo, eoN⟩
end OP2
