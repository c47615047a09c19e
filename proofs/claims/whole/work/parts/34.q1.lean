/-! what both sides answer of a server; lists of servers -/
section Q1
variable {cn t nn o n : Nat} {G Q : fM}
theorem lets_eq {i : Nat} (h : RS cn t nn o n 0 (tM Q) G) (hi : i < cn) : mM_lets i Q = sB_lets 0 i G := by
  obtain ⟨_, _, _, _, _, _, _, ⟨h8, _⟩, _, h10, _⟩ := h.V hi
  have e7 : Q (iM (83 + i)) = G (iB 0 i 0) := by rw [iB_iV, show 83 + i = 13 + 10 * 7 + i by omega]; exact h8
  unfold mM_lets sB_lets
  rw [e7]
  by_cases c0 : G (iB 0 i 0) = 0
  · rw [if_pos c0, if_pos c0]
  · rw [if_neg c0, if_neg c0]
    by_cases c2 : G (iB 0 i 0) = 2
    · rw [if_pos c2, if_pos c2, show Q (iM (103 + i)) = G (iB 0 i 2) by rw [iB_iV, show 103 + i = 13 + 10 * 9 + i by omega]; exact h10 (by rw [iB_iV] at c2; exact c2)]
    · rw [if_neg c2, if_neg c2]
theorem acc_eq {i : Nat} (h : RS cn t nn o n 0 (tM Q) G) (hi : i < cn) : mM_acc i Q = sV_acc 0 i G := by
  obtain ⟨_, h2, h3, h4, h5, _⟩ := h.V hi
  have e1 : Q (iM (23 + i)) = G (iV 0 i 1) := by rw [show 23 + i = 13 + 10 * 1 + i by omega]; exact h2.1
  have e2 : Q (iM (33 + i)) = G (iV 0 i 2) := by rw [show 33 + i = 13 + 10 * 2 + i by omega]; exact h3.1
  have e4 : Q (iM (53 + i)) = G (iV 0 i 5) := by rw [show 53 + i = 13 + 10 * 4 + i by omega]; exact h5.1
  unfold mM_acc sV_acc
  rw [lets_eq h hi, e1, e2, e4]
  rcases h4 with ⟨a, b⟩ | ⟨a, b⟩
  · rw [show G (iV 0 i 4) = 1 from a, show Q (iM (43 + i)) = 0 by rw [show 43 + i = 13 + 10 * 3 + i by omega]; exact b, if_pos rfl, if_neg (show ¬ (1 : Int32) = 0 by decide)]
    by_cases c5 : G (iV 0 i 5) = 0
    · rw [if_pos c5, if_pos c5]
      by_cases c1 : G (iV 0 i 1) ≤ G (iV 0 i 2)
      · rw [if_pos c1, if_pos c1]
        split <;> rfl
      · rw [if_neg c1, if_neg c1]
    · rw [if_neg c5, if_neg c5]
      split <;> rfl
  · rw [show G (iV 0 i 4) = 0 from a, show Q (iM (43 + i)) = 1 by rw [show 43 + i = 13 + 10 * 3 + i by omega]; exact b, if_pos rfl, if_neg (show ¬ (1 : Int32) = 0 by decide)]
    split <;> rfl
theorem wt_eq {i : Nat} (hb : n < 100000) (h : RS cn t nn o n 0 (tM Q) G) (hi : i < cn) : mM_wt i Q = sS_wt 0 i G := by
  obtain ⟨h1, _, _, _, _, _, h7, _⟩ := h.V hi
  have htn := h.tn
  have e0 : Q (iM (13 + i)) = G (iV 0 i 0) := by rw [show 13 + i = 13 + 10 * 0 + i by omega]; exact h1.1
  have eT1 : Q (iM 1) = nI t := h.T1
  have eT4 : Q (iM 4) = G (iS 0 3) := h.T4
  have k6 : 73 + i = 13 + 10 * 6 + i := by omega
  unfold mM_wt sS_wt
  rw [e0, eT1, eT4, h.ht]
  rcases h7 with ⟨a, b⟩ | ⟨a, b, q, c, d⟩
  · rw [if_pos (show Q (iM (73 + i)) = -1 by rw [k6]; exact b), if_pos (show G (iV 0 i 7) = 0 from a)]
    split <;> rfl
  · have e8 : G (iV 0 i 8) = nI q := c
    have e6 : Q (iM (73 + i)) = nI q := by rw [k6]; exact b.trans c
    rw [if_neg (show ¬ G (iV 0 i 7) = 0 by rw [show G (iV 0 i 7) = 1 from a]; decide), e6, e8, if_neg (f_n1 (by omega)), pk_sub d]
    by_cases w0 : G (iS 0 3) = 0
    · rw [if_pos w0, w0, if_neg (nI_pos (by omega))]
    · rw [if_neg w0]
      by_cases c1 : nI (t - q) < G (iS 0 3)
      · rw [if_pos c1, if_pos c1]
        generalize G (iV 0 i 0) * (nI (t - q) + 1) / G (iS 0 3) = y
        by_cases c2 : 1 < y
        · rw [if_pos c2, if_pos (Int32.le_of_lt c2)]
        · rw [if_neg c2]
          by_cases c3 : 1 ≤ y
          · rw [if_pos c3]
            exact Int32.le_antisymm (Int32.not_lt.mp c2) c3
          · rw [if_neg c3]
      · rw [if_neg c1, if_neg c1]
theorem RS.ewt (hb : n < 100000) (h : RS cn t nn o n 0 (tM Q) G) : wtOK cn Q := by
  intro i hi c1 c2 c3
  have htn := h.tn
  obtain ⟨_, _, _, _, _, _, h7, _⟩ := h.V hi
  have k6 : 73 + i = 13 + 10 * 6 + i := by omega
  rcases h7 with ⟨a, b⟩ | ⟨a, b, q, c, d⟩
  · exact c1 (by rw [k6]; exact b)
  · have e6 : Q (iM (73 + i)) = nI q := by rw [k6]; exact b.trans c
    rw [c3, e6, show Q (iM 1) = nI t from h.T1, pk_sub d] at c2
    exact absurd c2 (nI_pos (by omega))
theorem RS.emn (h : RS cn t nn o n 0 (tM Q) G) : mn Q = nn := by unfold mn; rw [show Q (iM 12) = nI nn from h.hn.1, nI_clamp (by have := h.hn.2.2; omega)]
theorem RS.emo (h : RS cn t nn o n 0 (tM Q) G) : mo Q = o := by unfold mo; rw [show Q (iM 10) = nI o from h.ho.1, nI_clamp (by have := h.ho.2.2; omega)]
theorem RS.emW {i : Nat} (h : RS cn t nn o n 0 (tM Q) G) (hi : i < cn) : mW i Q = wN 0 i G ∧ G (iV 0 i 0) = nI (wN 0 i G) ∧ Q (iM (13 + i)) = nI (wN 0 i G) ∧ 1 ≤ wN 0 i G ∧ wN 0 i G ≤ 10 := by
  obtain ⟨⟨a, w, b, c, d⟩, _⟩ := h.V hi
  have e0 : Q (iM (13 + i)) = G (iV 0 i 0) := by rw [show 13 + i = 13 + 10 * 0 + i by omega]; exact a
  have b' : G (iV 0 i 0) = nI w := b
  unfold mW wN
  rw [e0, b', nI_clamp (by omega)]
  exact ⟨rfl, rfl, rfl, c, d⟩
theorem RS.J (hb : n < 100000) (h : RS cn t nn o n 0 (tM Q) G) : f_J cn Q := by
  have h10 := h.c10
  refine ⟨⟨h.T0, h10⟩, ⟨by rw [h.emn]; exact h.hn.1, by rw [h.emn]; exact h.hn.2.2⟩, ⟨by rw [h.emo]; exact h.ho.1, by rw [h.emo]; exact h.ho.2.2⟩, fun i hi => ?_, h.ewt hb, fun j hj => ?_, fun j hj => ?_⟩
  · obtain ⟨a, b, c, d, e⟩ := h.emW hi
    rw [a]
    exact ⟨c, d, e⟩
  · rw [h.emn] at hj
    obtain ⟨_, _, a, q, b, c⟩ := h.2.2.1 j hj
    unfold msv
    rw [show Q (iM (223 + j)) = nI q from a.trans c, nI_clamp (by omega)]
    exact ⟨rfl, b⟩
  · rw [h.emo] at hj
    obtain ⟨⟨a, q, b, c⟩, _⟩ := h.2.2.2.1 j hj
    unfold mco
    rw [show Q (iM (263 + j)) = nI q from a.trans c, nI_clamp (by omega)]
    exact ⟨rfl, b⟩
theorem fold9_last {α : Type} (F : Nat → α → α) : ∀ (d k : Nat) (a : α), fold9 F (d + 1) k a = F (k + d) (fold9 F d k a) := by
  intro d
  induction d with
  | zero => intro k a; rfl
  | succ d ih =>
    intro k a
    rw [fold9_s, ih (k + 1) (F k a), fold9_s, show k + 1 + d = k + (d + 1) by omega]
theorem fold9_congr {α : Type} {F F' : Nat → α → α} : ∀ (d k : Nat) (a : α), (∀ i b, k ≤ i → i < k + d → F i b = F' i b) → fold9 F d k a = fold9 F' d k a := by
  intro d
  induction d with
  | zero => intro k a _; rfl
  | succ d ih =>
    intro k a h
    rw [fold9_s, fold9_s, h k a (Nat.le_refl _) (by omega)]
    exact ih (k + 1) _ (fun i b h1 h2 => h i b (by omega) (by omega))
theorem load_eq (h : RS cn t nn o n 0 (tM Q) G) : mM_load cn Q = sS_load 0 G := by
  unfold mM_load sS_load
  rw [h.ecN]
  refine fold9_congr _ _ _ (fun i b _ hi => ?_)
  obtain ⟨_, _, h3, _⟩ := h.V (show i < cn by omega)
  rw [show Q (iM (33 + i)) = G (iV 0 i 2) by rw [show 33 + i = 13 + 10 * 2 + i by omega]; exact h3.1]
theorem cnt_eq {a : Int32} (h : RS cn t nn o n 0 (tM Q) G) : mM_cnt cn a Q = sP_cnt a G := by
  unfold mM_cnt sP_cnt
  rw [load_eq h, show Q (iM 1) = G (iS 0 9) from h.T1.trans h.ht.symm, show Q (iM 10) = G (iS 0 20) from h.ho.1.trans h.ho.2.1.symm, show Q (iM 11) = G (iS 0 10) from h.T11, show Q (iM 12) = G (iS 0 21) from h.hn.1.trans h.hn.2.1.symm]
/-- the list of those that P holds of, as the folds go through it -/
theorem av_fold {α : Type} {P : Nat → Bool} {g : Nat → α → α} : ∀ (d k : Nat) (a : α), fold9 (fun i q => if P i = true then g i q else q) d k a = ((List.range' k d).filter P).foldl (fun q i => g i q) a := by
  intro d
  induction d with
  | zero => intro k a; rfl
  | succ d ih =>
    intro k a
    rw [fold9_s, ih, List.range'_succ, List.filter_cons]
    by_cases hp : P k = true
    · rw [if_pos hp, if_pos hp, List.foldl_cons]
    · rw [if_neg hp, if_neg hp]
theorem ix_fold {α : Type} {g : Nat → α → α} : ∀ (L pre : List Nat) (a : α), fold9 (fun k q => g ((pre ++ L).getD k 0) q) L.length pre.length a = L.foldl (fun q i => g i q) a := by
  intro L
  induction L with
  | nil => intro pre a; rfl
  | cons b L ih =>
    intro pre a
    rw [List.length_cons, fold9_s, List.foldl_cons]
    have e1 : (pre ++ b :: L).getD pre.length 0 = b := by
      rw [List.getD_eq_getElem?_getD, List.getElem?_append_right (Nat.le_refl _), Nat.sub_self]; rfl
    have e2 := ih (pre ++ [b]) (g b a)
    rw [List.append_assoc, List.length_append] at e2
    rw [e1]
    exact e2
theorem av_count {P : Nat → Bool} : ∀ (d k a : Nat), fold9 (avCt P) d k a = a + ((List.range' k d).filter P).length := by
  intro d
  induction d with
  | zero => intro k a; rfl
  | succ d ih =>
    intro k a
    rw [fold9_s, ih, List.range'_succ, List.filter_cons]
    unfold avCt
    by_cases hp : P k = true
    · rw [if_pos hp, if_pos hp, List.length_cons]; omega
    · rw [if_neg hp, if_neg hp]
theorem av_at {P : Nat → Bool} : ∀ (d k t : Nat), avAt P d k t = ((List.range' k d).filter P)[t]? := by
  intro d
  induction d with
  | zero => intro k t; rfl
  | succ d ih =>
    intro k t
    rw [avAt_s, List.range'_succ, List.filter_cons]
    by_cases hp : P k = true
    · rw [if_pos hp, if_pos hp]
      cases t with
      | zero => rfl
      | succ t => rw [if_neg (by omega), ih]; rfl
    · rw [if_neg hp, if_neg hp, ih]
theorem av_srch {P : Nat → Bool} (kk : Nat) : ∀ (d k : Nat), ((List.range' k d).filter P).find? (fun a => decide (kk ≤ a)) = if kk ≤ k then srch P k d else srch P kk (k + d - kk) := by
  intro d
  induction d with
  | zero =>
    intro k
    split
    · rfl
    · rw [show k + 0 - kk = 0 by omega]; rfl
  | succ d ih =>
    intro k
    rw [List.range'_succ, List.filter_cons]
    by_cases hk : kk ≤ k
    · rw [if_pos hk]
      show _ = if P k = true then some k else srch P (k + 1) d
      by_cases hp : P k = true
      · rw [if_pos hp, if_pos hp, List.find?_cons_of_pos (by simpa using hk)]
      · rw [if_neg hp, if_neg hp, ih (k + 1), if_pos (by omega)]
    · rw [if_neg hk]
      have e := ih (k + 1)
      have e3 : (if kk ≤ k + 1 then srch P (k + 1) d else srch P kk (k + 1 + d - kk)) = srch P kk (k + (d + 1) - kk) := by
        split
        · rw [show kk = k + 1 by omega, show k + (d + 1) - (k + 1) = d by omega]
        · rw [show k + 1 + d - kk = k + (d + 1) - kk by omega]
      by_cases hp : P k = true
      · rw [if_pos hp, List.find?_cons_of_neg (by simpa using hk), e, e3]
      · rw [if_neg hp, e, e3]
theorem ix_srch {p : Nat → Bool} : ∀ (L pre : List Nat), (srch (fun k => p ((pre ++ L).getD k 0)) pre.length L.length).map (fun k => (pre ++ L).getD k 0) = L.find? p := by
  intro L
  induction L with
  | nil => intro pre; rfl
  | cons b L ih =>
    intro pre
    have e1 : (pre ++ b :: L).getD pre.length 0 = b := by
      rw [List.getD_eq_getElem?_getD, List.getElem?_append_right (Nat.le_refl _), Nat.sub_self]; rfl
    rw [List.length_cons]
    show Option.map _ (if p ((pre ++ b :: L).getD pre.length 0) = true then some pre.length else srch _ (pre.length + 1) L.length) = _
    rw [e1]
    by_cases hp : p b = true
    · rw [if_pos hp, List.find?_cons_of_pos hp, Option.map_some, e1]
    · rw [if_neg hp, List.find?_cons_of_neg hp]
      have e2 := ih (pre ++ [b])
      rw [List.append_assoc, List.length_append] at e2
      exact e2
/-- the list of the available ones, on both sides -/
def avS (G : fM) (cn : Nat) : List Nat := (List.range' 0 cn).filter (sS_av 0 G)
theorem avL_eq (h : RS cn t nn o n 0 (tM Q) G) : avL cn Q = avS G cn := by
  unfold avL avS
  rw [List.range_eq_range']
  apply List.filter_congr
  intro i hi
  have hi' : i < cn := by
    rw [List.mem_range'_1] at hi
    omega
  unfold avP sS_av
  rw [acc_eq h hi']
theorem avS_lt {i : Nat} (h : i ∈ avS G cn) : i < cn ∧ ¬ sV_acc 0 i G = 0 := by
  unfold avS at h
  rw [List.mem_filter, List.mem_range'_1] at h
  refine ⟨by omega, ?_⟩
  have := h.2
  unfold sS_av at this
  simpa using this
theorem avS_mem {i : Nat} (hi : i < cn) (h : ¬ sV_acc 0 i G = 0) : i ∈ avS G cn := by
  unfold avS
  rw [List.mem_filter, List.mem_range'_1]
  refine ⟨by omega, ?_⟩
  unfold sS_av
  simpa using h
end Q1
