/-! the policies' choices -/
section Q3
variable {cn t nn o n : Nat} {G Q : fM}
theorem cr_eq {i : Nat} (hb : n < 100000) (h : RS cn t nn o n 0 (tM Q) G) (hi : i < cn) : mM_cr i Q = sS_cr 0 i G := by
  obtain ⟨_, _, _, _, _, _, _, _, _, _, h11, _⟩ := h.V hi
  unfold mM_cr sS_cr
  rw [wt_eq hb h hi, show Q (iM (113 + i)) = G (iV 0 i 3) by rw [show 113 + i = 13 + 10 * 10 + i by omega]; exact h11]
theorem ld_eq {i : Nat} (h : RS cn t nn o n 0 (tM Q) G) (hi : i < cn) : Q (iM (33 + i)) = G (iV 0 i 2) := by
  obtain ⟨_, _, h3, _⟩ := h.V hi
  rw [show 33 + i = 13 + 10 * 2 + i by omega]; exact h3.1
theorem cons_of {A : List Nat} (h : 0 < A.length) : ∃ a A', A = a :: A' := by
  cases A with
  | nil => exact absurd h (Nat.lt_irrefl _)
  | cons a A' => exact ⟨a, A', rfl⟩
theorem byCr_list {G : fM} {cn : Nat} : fold9 (sS_crS 0 G) cn 0 (none, 0) = (avS G cn).foldl (fun q i => if q.1 = none then (some i, sS_cr 0 i G) else if sS_cr 0 i G ≤ q.2 then q else (some i, sS_cr 0 i G)) (none, 0) := by
  unfold avS
  rw [← av_fold]
  refine fold9_congr _ _ _ (fun i q _ _ => ?_)
  unfold sS_crS sS_av
  by_cases h : sV_acc 0 i G = 0
  · rw [if_pos h, if_neg (by simpa using h)]
  · rw [if_neg h, if_pos (show (!decide (sV_acc 0 i G = 0)) = true by simpa using h)]
theorem ll_list {G : fM} {cn : Nat} : fold9 (sS_llS 0 G) cn 0 none = (avS G cn).foldl (fun b i => if b = none then some i else if sS_less 0 G i (b.getD 0) = 0 then b else some i) none := by
  unfold avS
  rw [← av_fold]
  refine fold9_congr _ _ _ (fun i q _ _ => ?_)
  unfold sS_llS sS_av
  by_cases h : sV_acc 0 i G = 0
  · rw [if_pos h, if_neg (by simpa using h)]
  · rw [if_neg h, if_pos (show (!decide (sV_acc 0 i G = 0)) = true by simpa using h)]
theorem ix_fold1 {α : Type} {g : Nat → α → α} (a : Nat) (A' : List Nat) (b : α) : fold9 (fun k q => g ((a :: A').getD k 0) q) ((a :: A').length - 1) 1 b = A'.foldl (fun q i => g i q) b := ix_fold A' [a] b
theorem byCr_eq (hb : n < 100000) (h : RS cn t nn o n 0 (tM Q) G) (hA : 0 < (avS G cn).length) : some (mM_byCr (avS G cn) Q) = sS_byCr 0 G := by
  unfold sS_byCr mM_byCr
  rw [h.ecN, byCr_list]
  have hlt : ∀ i ∈ avS G cn, i < cn := fun i hi => (avS_lt hi).1
  generalize avS G cn = A at hA hlt
  obtain ⟨a, A', rfl⟩ := cons_of hA
  have e1 : fold9 (mM_crS (a :: A') Q) ((a :: A').length - 1) 1 ((a :: A').getD 0 0) = A'.foldl (fun b i => if mM_cr i Q ≤ mM_cr b Q then b else i) a := ix_fold1 (g := fun i b => if mM_cr i Q ≤ mM_cr b Q then b else i) a A' a
  rw [e1, List.foldl_cons, if_pos rfl]
  have ha := hlt a List.mem_cons_self
  have hlt' : ∀ i ∈ A', i < cn := fun i hi => hlt i (List.mem_cons_of_mem _ hi)
  clear e1 hA hlt
  induction A' generalizing a with
  | nil => rfl
  | cons b A' ih =>
    have hb' := hlt' b List.mem_cons_self
    rw [List.foldl_cons, List.foldl_cons, if_neg (show ¬ (some a, sS_cr 0 a G).fst = none from fun h9 => by cases h9), cr_eq hb h hb', cr_eq hb h ha]
    dsimp only
    by_cases hle : sS_cr 0 b G ≤ sS_cr 0 a G
    · rw [if_pos hle, if_pos hle]; exact ih a ha (fun i hi => hlt' i (List.mem_cons_of_mem _ hi))
    · rw [if_neg hle, if_neg hle]; exact ih b hb' (fun i hi => hlt' i (List.mem_cons_of_mem _ hi))
theorem ll_eq (hb : n < 100000) (h : RS cn t nn o n 0 (tM Q) G) (hA : 0 < (avS G cn).length) : some (mM_ll (avS G cn) Q) = sS_ll 0 G := by
  unfold sS_ll mM_ll
  rw [h.ecN, ll_list]
  have hlt : ∀ i ∈ avS G cn, i < cn := fun i hi => (avS_lt hi).1
  generalize avS G cn = A at hA hlt
  obtain ⟨a, A', rfl⟩ := cons_of hA
  have e1 : fold9 (mM_llS (a :: A') Q) ((a :: A').length - 1) 1 ((a :: A').getD 0 0) = A'.foldl (fun b i => if Q (iM (33 + b)) * mM_wt i Q ≤ Q (iM (33 + i)) * mM_wt b Q then b else i) a := ix_fold1 (g := fun i b => if Q (iM (33 + b)) * mM_wt i Q ≤ Q (iM (33 + i)) * mM_wt b Q then b else i) a A' a
  rw [e1, List.foldl_cons, if_pos rfl]
  have ha := hlt a List.mem_cons_self
  have hlt' : ∀ i ∈ A', i < cn := fun i hi => hlt i (List.mem_cons_of_mem _ hi)
  clear e1 hA hlt
  induction A' generalizing a with
  | nil => rfl
  | cons b A' ih =>
    have hb' := hlt' b List.mem_cons_self
    rw [List.foldl_cons, List.foldl_cons, if_neg (show ¬ (some a : Option Nat) = none from fun h9 => by cases h9), ld_eq h ha, ld_eq h hb', wt_eq hb h ha, wt_eq hb h hb']
    unfold sS_less
    rw [show (some a).getD 0 = a from rfl]
    by_cases hle : G (iV 0 a 2) * sS_wt 0 b G ≤ G (iV 0 b 2) * sS_wt 0 a G
    · rw [if_pos hle, if_pos hle, if_pos rfl]; exact ih a ha (fun i hi => hlt' i (List.mem_cons_of_mem _ hi))
    · rw [if_neg hle, if_neg hle, if_neg (show ¬ (1 : Int32) = 0 by decide)]; exact ih b hb' (fun i hi => hlt' i (List.mem_cons_of_mem _ hi))
theorem first_eq (k0 : Nat) (hc : cN 0 G = cn) : sS_first 0 k0 G = (avS G cn).find? (fun a => decide (k0 ≤ a)) := by
  unfold sS_first avS
  rw [hc, av_srch]
  by_cases h : k0 ≤ 0
  · rw [if_pos h, show k0 = 0 by omega, Nat.sub_zero]
  · rw [if_neg h, Nat.zero_add]
theorem turn_eq (h : RS cn t nn o n 0 (tM Q) G) (hA : 0 < (avS G cn).length) : some (mM_turn (avS G cn) Q) = sS_next 0 G := by
  have h10 := h.c10
  obtain ⟨e9, k, ek, hk⟩ := h.T9
  have ekN : kN 0 G = k := by unfold kN; rw [ek, nI_clamp (by omega)]
  unfold sS_next
  rw [first_eq _ h.ecN, first_eq _ h.ecN, ekN]
  have hlt : ∀ i ∈ avS G cn, i < cn := fun i hi => (avS_lt hi).1
  unfold mM_turn
  have es : srch (mM_turnP (avS G cn) Q) 0 (avS G cn).length = srch (fun j => decide (k ≤ (avS G cn).getD j 0)) 0 (avS G cn).length := by
    refine srch_congr _ _ (fun j _ hj => ?_)
    rw [Nat.zero_add] at hj
    unfold mM_turnP
    have hm : (avS G cn).getD j 0 < cn := getD_lt hlt hj
    have e9' : Q (iM 9) + 1 = nI k := by rw [show Q (iM 9) = G (iS 0 7) from e9]; exact ek
    have h9 : Q (iM 9) = nI k - 1 := by rw [← e9']; exact (Int32.add_sub_cancel _ _).symm
    rw [h9]
    have hiff : nI ((avS G cn).getD j 0) ≤ nI k - 1 ↔ ¬ k ≤ (avS G cn).getD j 0 := by
      generalize (avS G cn).getD j 0 = q at hm
      have e1 : (nI k - 1).toInt = (k : Int) - 1 := by rw [show (1 : Int32) = nI 1 from rfl, pk_sub_toInt (by omega) (by decide)]; rfl
      rw [Int32.le_iff_toInt_le, e1, nI_toInt (by omega)]
      omega
    by_cases h8 : k ≤ (avS G cn).getD j 0
    · rw [decide_eq_false (fun h7 => (hiff.mp h7) h8), decide_eq_true h8]; rfl
    · rw [decide_eq_true (hiff.mpr h8), decide_eq_false h8]; rfl
  rw [es]
  have ei := ix_srch (p := fun a => decide (k ≤ a)) (avS G cn) []
  rw [List.nil_append] at ei
  have ei' : Option.map (fun j => (avS G cn).getD j 0) (srch (fun j => decide (k ≤ (avS G cn).getD j 0)) 0 (avS G cn).length) = (avS G cn).find? (fun a => decide (k ≤ a)) := ei
  rw [← ei']
  have e0 : (avS G cn).find? (fun a => decide (0 ≤ a)) = some ((avS G cn).getD 0 0) := by
    obtain ⟨a, A', e⟩ := cons_of hA
    rw [e, List.find?_cons_of_pos (by simp)]
    rfl
  rw [e0]
  cases srch (fun j => decide (k ≤ (avS G cn).getD j 0)) 0 (avS G cn).length with
  | none => rfl
  | some j => rfl
theorem two_eq (h : RS cn t nn o n 0 (tM Q) G) (hA : 0 < (avS G cn).length) : some (mM_two (avS G cn) Q) = sS_two 0 G := by
  have hlt : ∀ i ∈ avS G cn, i < cn := fun i hi => (avS_lt hi).1
  have ec : sS_ct 0 G = (avS G cn).length := by
    unfold sS_ct avS
    rw [h.ecN, av_count, Nat.zero_add]
  have ea : ∀ k, k < (avS G cn).length → sS_at 0 k G = some ((avS G cn).getD k 0) := by
    intro k hk
    unfold sS_at
    rw [h.ecN, av_at]
    show (avS G cn)[k]? = _
    rw [List.getD_eq_getElem?_getD, List.getElem?_eq_getElem hk]
    rfl
  have e8 : Q (iM 8) = G (iS 0 8) := h.T8
  have i1 : sS_i1 0 G = mM_i1 (avS G cn) Q := by unfold sS_i1 mM_i1; rw [ec, e8]
  have i2 : sS_i2 0 G = mM_i2 (avS G cn) Q := by unfold sS_i2 mM_i2; rw [ec, e8]
  have l1 : mM_i1 (avS G cn) Q < (avS G cn).length := Nat.mod_lt _ hA
  have l2 : mM_i2 (avS G cn) Q < (avS G cn).length := Nat.mod_lt _ hA
  unfold sS_two mM_two
  rw [if_neg (show ¬ sS_ct 0 G = 0 by omega), i1, i2, ea _ l1, ea _ l2, show ∀ a : Nat, (some a).getD 0 = a from fun _ => rfl, show ∀ a : Nat, (some a).getD 0 = a from fun _ => rfl, ld_eq h (getD_lt hlt l1), ld_eq h (getD_lt hlt l2)]
  split <;> rfl
theorem pol_eq {cl : Int32} (hb : n < 100000) (h : RS cn t nn o n 0 (tM Q) G) (hA : 0 < (avS G cn).length) : mM_pol9 cn (avS G cn) cl Q = sS_pol 0 cl G := by
  unfold mM_pol9 sS_pol
  rw [show Q (iM 7) = G (iS 0 6) from h.T7.1, turn_eq h hA, byCr_eq hb h hA, ll_eq hb h hA, two_eq h hA, ring_eq h (Or.inl ⟨rfl, rfl⟩)]
/-- none is available -/
theorem pol_none {cl : Int32} (h : RS cn t nn o n 0 (tM Q) G) (hA : avS G cn = []) : sS_pol 0 cl G = none := by
  unfold sS_pol
  split
  · unfold sS_next
    rw [first_eq _ h.ecN, first_eq _ h.ecN, hA]
    rfl
  · split
    · unfold sS_byCr
      rw [h.ecN, byCr_list, hA]
      rfl
    · split
      · unfold sS_ll
        rw [h.ecN, ll_list, hA]
        rfl
      · split
        · unfold sS_rg
          rw [h.ecN]
          have := fold9_inv (F := sS_rgS 0 G 1 (mix9 cl)) (fun _ q => q = (none, 0)) cn 0 (none, 0) rfl (fun i q _ hi hq => by
            rw [hq]
            unfold sS_rgS
            rw [if_neg (show ¬ (1 : Int32) = 0 by decide)]
            by_cases hz : sV_acc 0 i G = 0
            · rw [if_pos hz]
            · have := avS_mem (cn := cn) (show i < cn by omega) hz
              rw [hA] at this
              exact absurd this List.not_mem_nil)
          rw [this]
        · unfold sS_two sS_ct
          rw [h.ecN, av_count, Nat.zero_add]
          show (if (avS G cn).length = 0 then _ else _) = _
          rw [hA]
          rfl
/-- a client's place -/
theorem find_eq {cl : Int32} (h : RS cn t nn o n 0 (tM Q) G) : mM_find cl nn Q = sK_find 0 cl nn G := by
  unfold mM_find sK_find
  refine srch_congr _ _ (fun j _ hj => ?_)
  unfold mM_plP sK_P
  rw [show Q (iM (143 + j)) = G (iA 0 400 j) from (h.2.2.1 j (by omega)).1]
theorem stk_eq {cl : Int32} (h : RS cn t nn o n 0 (tM Q) G) : mM_stuck cl Q = sS_stk 0 cl G := by
  unfold mM_stuck sS_stk
  rw [h.emn, h.enN, find_eq h]
  cases hf : sK_find 0 cl nn G with
  | none => rfl
  | some j =>
    have hj : j < nn := by
      have := srch_lt _ _ _ hf
      omega
    obtain ⟨_, ⟨e1, _⟩, e2, q, hq, e3⟩ := h.2.2.1 j hj
    have e3' : Q (iM (223 + j)) = nI q := e2.trans e3
    have e1' : Q (iM (183 + j)) = G (iA 0 500 j) := e1
    have h10 := h.c10
    dsimp only
    rw [show msv j Q = q by unfold msv; rw [e3', nI_clamp (by omega)], show svN 0 j G = q by unfold svN; rw [e3, nI_clamp (by omega)], show Q (iM 6) = G (iS 0 5) from h.T6, show Q (iM 1) = G (iS 0 9) from h.T1.trans h.ht.symm, e1', acc_eq h hq]
    by_cases h9 : G (iS 0 9) - G (iA 0 500 j) < G (iS 0 5)
    · rw [if_neg (Int32.not_le.mpr h9), if_pos h9]
    · rw [if_pos (Int32.not_lt.mp h9), if_neg h9]
theorem stk_acc {cl : Int32} {j : Nat} (h : RS cn t nn o n 0 (tM Q) G) (hs : sS_stk 0 cl G = some j) : j < cn ∧ ¬ sV_acc 0 j G = 0 := by
  unfold sS_stk at hs
  rw [h.enN] at hs
  cases hf : sK_find 0 cl nn G with
  | none => rw [hf] at hs; cases hs
  | some i =>
    rw [hf] at hs
    dsimp only at hs
    have hi : i < nn := by
      have := srch_lt _ _ _ hf
      omega
    obtain ⟨_, _, e2, q, hq, e3⟩ := h.2.2.1 i hi
    have h10 := h.c10
    rw [show svN 0 i G = q by unfold svN; rw [e3, nI_clamp (by omega)]] at hs
    split at hs
    · split at hs
      · cases hs
      · rename_i hz
        cases hs
        exact ⟨hq, hz⟩
    · cases hs
theorem for_eq {cl : Int32} (hb : n < 100000) (h : RS cn t nn o n 0 (tM Q) G) : mM_ch cn cl Q = sS_for 0 cl G := by
  have h10 := h.c10
  have ho := h.ho
  have hlay := (mM_lay_ok (G := Q) h10).1
  have eT : tM (mM_lay cn Q) = tM Q := funext hlay
  have hL : RS cn t nn o n 0 (tM (mM_lay cn Q)) G := by rw [eT]; exact h
  unfold mM_ch sS_for
  rw [hlay 10, show Q (iM 10) = nI o from ho.1, ho.2.1, avL_eq h]
  by_cases h1 : o < 1000
  · rw [if_neg (show ¬ nI o = 1000 from fun h9 => by have := (nI_eq (by omega) (by decide)).mp (h9.trans (show (1000 : Int32) = nI 1000 from rfl)); omega), if_pos (show nI o < 1000 from nI_lt (b := 1000) h1 (by decide))]
    by_cases hA : (avS G cn).length = 0
    · rw [if_pos hA]
      have hA' : avS G cn = [] := List.length_eq_zero_iff.mp hA
      cases hs : sS_stk 0 cl G with
      | none => exact (pol_none h hA').symm
      | some j =>
        obtain ⟨j1, j2⟩ := stk_acc h hs
        have := avS_mem (cn := cn) j1 j2
        rw [hA'] at this
        exact absurd this List.not_mem_nil
    · rw [if_neg hA, stk_eq hL, pol_eq hb hL (Nat.pos_of_ne_zero hA)]
      cases sS_stk 0 cl G <;> rfl
  · rw [if_pos (show nI o = 1000 by rw [show o = 1000 by omega]; rfl), if_neg (show ¬ nI o < 1000 from nI_nlt (b := 1000) (by omega) (by omega))]
end Q3
