/-! close; what is copied -/
section OP3
variable {cn t nn o n : Nat} {T G Q : fM}
def tTrip (i : Nat) (T : fM) : fM := upd (upd (upd T (83 + i) 1) (93 + i) (T 1)) (103 + i) (-1)
def tAd1 (i : Nat) (gd : Int32) (T : fM) : fM := upd T (123 + i) ((T (123 + i) <<< ((1 : Int32) &&& 31) ||| (if gd = 0 then 1 else 0)) &&& 255)
def tAd2 (i : Nat) (T : fM) : fM := upd T (133 + i) (T (133 + i) + (if 8 ≤ T (133 + i) then 0 else 1))
def tAd3 (i : Nat) (T : fM) : fM := if T (133 + i) < 4 then T else if 2 * ones9 (T (123 + i)) < T (133 + i) then T else tTrip i T
def tCl2 (k i : Nat) (gd : Int32) (T : fM) : fM := if T (83 + i) = 0 then tAd3 i (tAd2 i (tAd1 i gd T)) else if T (83 + i) = 2 then (if T (103 + i) = nI k then (if gd = 0 then tTrip i T else upd (upd (upd (upd T (83 + i) 0) (103 + i) (-1)) (123 + i) 0) (133 + i) 0) else T) else T
theorem trip_T (i : Nat) (Q : fM) (hi : i < 10) : tM (mM_trip i Q) = tTrip i (tM Q) := by
  unfold mM_trip tTrip
  rw [tM_up, tM_up, tM_up, pk_un (by unfold iM; omega)]
  rfl
theorem cl2_T (k i : Nat) (gd : Int32) (Q : fM) (hi : i < 10) : tM (mM_cl2 k i gd Q) = tCl2 k i gd (tM Q) := by
  have a1 : tM (mM_ad1 i gd Q) = tAd1 i gd (tM Q) := by unfold mM_ad1 tAd1; rw [tM_up]; rfl
  have a2 : ∀ Q, tM (mM_ad2 i Q) = tAd2 i (tM Q) := fun Q => by unfold mM_ad2 tAd2; rw [tM_up]; rfl
  have a3 : ∀ Q, tM (mM_ad3 i Q) = tAd3 i (tM Q) := fun Q => by
    unfold mM_ad3 tAd3
    show _ = if Q (iM (133 + i)) < 4 then tM Q else if 2 * ones9 (Q (iM (123 + i))) < Q (iM (133 + i)) then tM Q else tTrip i (tM Q)
    split
    · rfl
    · split
      · rfl
      · exact trip_T i Q hi
  unfold mM_cl2 tCl2 mM_ad mM_cl1
  show _ = if Q (iM (83 + i)) = 0 then _ else if Q (iM (83 + i)) = 2 then (if Q (iM (103 + i)) = nI k then _ else _) else _
  split
  · rw [a3, a2, a1]
  · split
    · split
      · split
        · exact trip_T i Q hi
        · rw [tM_up, tM_up, tM_up, tM_up]
      · rfl
    · rfl
theorem bc_all : ∀ b, b < 256 → sJ_bc (nI b) = ones9 (nI b) := by decide +kernel
section Nend
variable {i : Nat}
theorem rs_trip (h : RS cn t nn o n 0 T G) (hi : i < cn) : RS cn t nn o n 0 (tTrip i T) (sB_trip 0 i (nI t) G) := by
  have h10 := h.c10
  obtain ⟨k1, k2, k3, k4, k5, k6, k7, k8, k9, k10, k11⟩ := h.V hi
  unfold tTrip sB_trip
  rw [h.T1, iB_iV, iB_iV]
  refine h.own hi ((Own.rf.up (by decide)).up (by decide)) (((OwnT.rf.up (c := 7) (by omega) (by omega) (by decide)).up (c := 8) (by omega) (by omega) (by decide)).up (c := 9) (by omega) (by omega) (by decide)) ?_ (Nat.le_refl n)
  rw [cV_up, cV_up, rV_up (c := 9) (by omega), rV_up (c := 8) (by omega), rV_up (c := 7) (by omega)]
  exact ⟨k1, k2, k3, k4, k5, k6, k7, ⟨rfl, Or.inr (Or.inl rfl)⟩, (fun _ => ⟨rfl, t, rfl, Nat.le_refl _⟩), (fun h9 => absurd (show (1 : Int32) = 2 from h9) (by decide)), k11⟩
theorem rs_shut (h : RS cn t nn o n 0 T G) (hi : i < cn) : RS cn t nn o n 0 (upd (upd (upd (upd T (83 + i) 0) (103 + i) (-1)) (123 + i) 0) (133 + i) 0) (sB_shut 0 i G) := by
  have h10 := h.c10
  obtain ⟨k1, k2, k3, k4, k5, k6, k7, k8, k9, k10, k11, k12, k13⟩ := h.V hi
  unfold sB_shut
  rw [iB_iV, iB_iV, iB_iV]
  refine h.own hi (((Own.rf.up (by decide)).up (by decide)).up (by decide)) ((((OwnT.rf.up (c := 7) (by omega) (by omega) (by decide)).up (c := 9) (by omega) (by omega) (by decide)).up (c := 11) (by omega) (by omega) (by decide)).up (c := 12) (by omega) (by omega) (by decide)) ?_ (Nat.le_refl n)
  rw [cV_up, cV_up, cV_up, rV_up (c := 12) (by omega), rV_up (c := 11) (by omega), rV_up (c := 9) (by omega), rV_up (c := 7) (by omega)]
  exact ⟨k1, k2, k3, k4, k5, k6, k7, ⟨rfl, Or.inl rfl⟩, (fun h9 => absurd (show (0 : Int32) = 1 from h9) (by decide)), (fun h9 => absurd (show (0 : Int32) = 2 from h9) (by decide)), k11, ⟨rfl, 0, rfl, by decide⟩, rfl⟩
theorem rs_ad1 {gd : Int32} (h : RS cn t nn o n 0 T G) (hi : i < cn) : RS cn t nn o n 0 (tAd1 i gd T) (sB_add1 0 i gd G) := by
  have h10 := h.c10
  obtain ⟨k1, k2, k3, k4, k5, k6, k7, k8, k9, k10, k11, k12, k13⟩ := h.V hi
  have e : T (123 + i) = G (iB 0 i 4) := by rw [iB_iV, show 123 + i = 13 + 10 * 11 + i by omega]; exact k12.1
  unfold tAd1 sB_add1
  rw [e, show iB 0 i 4 = iV 0 i 14 from iB_iV 0 i 4]
  refine h.own hi (Own.rf.up (by decide)) (OwnT.rf.up (c := 11) (by omega) (by omega) (by decide)) ?_ (Nat.le_refl n)
  rw [cV_up, rV_up (c := 11) (by omega)]
  obtain ⟨b, hb1, hb2⟩ := pk_andE (G (iV 0 i 14) <<< ((1 : Int32) &&& 31) ||| (if gd = 0 then 1 else 0)) (m := 255) 8 (by decide)
  exact ⟨k1, k2, k3, k4, k5, k6, k7, k8, k9, k10, k11, ⟨rfl, b, hb2, hb1⟩, k13⟩
theorem rs_ad2 (h : RS cn t nn o n 0 T G) (hi : i < cn) : RS cn t nn o n 0 (tAd2 i T) (sB_add2 0 i G) := by
  have h10 := h.c10
  obtain ⟨k1, k2, k3, k4, k5, k6, k7, k8, k9, k10, k11, k12, k13⟩ := h.V hi
  have e : T (133 + i) = G (iB 0 i 3) := by rw [iB_iV, show 133 + i = 13 + 10 * 12 + i by omega]; exact k13
  unfold tAd2 sB_add2
  by_cases h8 : 8 ≤ G (iB 0 i 3)
  · rw [if_pos (show 8 ≤ T (133 + i) by rw [e]; exact h8), if_pos h8, Int32.add_zero]
    refine h.congr (fun _ _ _ => rfl) (fun j _ => ?_) (Nat.le_refl n)
    unfold upd
    split
    · rename_i hj; rw [hj]
    · rfl
  · rw [if_neg (show ¬ 8 ≤ T (133 + i) by rw [e]; exact h8), if_neg h8, e, show iB 0 i 3 = iV 0 i 13 from iB_iV 0 i 3]
    refine h.own hi (Own.rf.up (by decide)) (OwnT.rf.up (c := 12) (by omega) (by omega) (by decide)) ?_ (Nat.le_refl n)
    rw [cV_up, rV_up (c := 12) (by omega)]
    exact ⟨k1, k2, k3, k4, k5, k6, k7, k8, k9, k10, k11, k12, rfl⟩
theorem rs_ad3 (h : RS cn t nn o n 0 T G) (hi : i < cn) : RS cn t nn o n 0 (tAd3 i T) (sB_add3 0 i (nI t) G) := by
  obtain ⟨k1, k2, k3, k4, k5, k6, k7, k8, k9, k10, k11, ⟨k12, b, hb, hb2⟩, k13⟩ := h.V hi
  have e : T (133 + i) = G (iB 0 i 3) := by rw [iB_iV, show 133 + i = 13 + 10 * 12 + i by omega]; exact k13
  have e2 : ones9 (T (123 + i)) = sJ_bc (G (iB 0 i 4)) := by
    have ev : G (iB 0 i 4) = nI b := by rw [iB_iV]; exact hb
    have e3 : T (123 + i) = nI b := by rw [show 123 + i = 13 + 10 * 11 + i by omega]; exact k12.trans hb
    rw [e3, ev, bc_all b hb2]
  unfold tAd3 sB_add3
  rw [e, e2]
  split
  · exact h
  · split
    · exact h
    · exact rs_trip h hi
theorem rs_nend {k : Nat} {gd : Int32} (h : RS cn t nn o n 0 T G) (hi : i < cn) : RS cn t nn o n 0 (tCl2 k i gd T) (sB_nend 0 i (nI k) gd (nI t) G) := by
  obtain ⟨k1, k2, k3, k4, k5, k6, k7, k8, k9, k10, k11⟩ := h.V hi
  have e : T (83 + i) = G (iB 0 i 0) := by rw [iB_iV, show 83 + i = 13 + 10 * 7 + i by omega]; exact k8.1
  unfold tCl2 sB_nend sB_add sB_endT
  rw [e]
  by_cases c0 : G (iB 0 i 0) = 0
  · rw [if_pos c0, if_pos c0]
    exact rs_ad3 (rs_ad2 (rs_ad1 h hi) hi) hi
  · rw [if_neg c0, if_neg c0]
    by_cases c2 : G (iB 0 i 0) = 2
    · rw [if_pos c2, if_pos c2, show T (103 + i) = G (iB 0 i 2) by rw [iB_iV, show 103 + i = 13 + 10 * 9 + i by omega]; exact k10 (by rw [iB_iV] at c2; exact c2)]
      by_cases c3 : G (iB 0 i 2) = nI k
      · rw [if_pos c3, if_pos c3]
        by_cases c4 : gd = 0
        · rw [if_pos c4, if_pos c4]; exact rs_trip h hi
        · rw [if_neg c4, if_neg c4]; exact rs_shut h hi
      · rw [if_neg c3, if_neg c3]; exact h
    · rw [if_neg c2, if_neg c2]; exact h
end Nend
theorem rs_live {k : Nat} (h : RS cn t nn o n 0 T G) (hk : k < o) : RS cn t nn o n 0 (upd T (2263 + k) 1) (upd G (iA 0 3000 k) 0) := by
  have h10 := h.c10
  have h40 := h.hn.2.2
  have h1000 := h.ho.2.2
  refine ⟨h.1.congr (fun c hc => pk_un (by unfold iS iA; omega)) (fun j hj => pk_un (by omega)) (Nat.le_refl _), h.2.1.congr h10 (fun i c hi hc => pk_un (by unfold iV iA; omega)) (fun j _ _ => pk_un (by omega)) (Nat.le_refl _) (Nat.le_refl _), h.2.2.1.congr (fun j hj => ⟨pk_un (by unfold iA; omega), pk_un (by unfold iA; omega), pk_un (by unfold iA; omega)⟩) (fun j hj => ⟨pk_un (by omega), pk_un (by omega), pk_un (by omega)⟩) (Nat.le_refl _) (Nat.le_refl _), fun j hj => ?_, fun j h1 h2 => ?_⟩
  · obtain ⟨a, b, c⟩ := h.2.2.2.1 j hj
    rw [pk_un (show 263 + j ≠ 2263 + k by omega), pk_un (show 1263 + j ≠ 2263 + k by omega), pk_un (show iA 0 1000 j ≠ iA 0 3000 k by unfold iA; omega), pk_un (show iA 0 2000 j ≠ iA 0 3000 k by unfold iA; omega)]
    refine ⟨a, b, ?_⟩
    by_cases hjk : j = k
    · subst hjk; exact Or.inr ⟨pk_us, pk_us⟩
    · rw [pk_un (show iA 0 3000 j ≠ iA 0 3000 k by unfold iA; omega), pk_un (show 2263 + j ≠ 2263 + k by omega)]; exact c
  · rw [pk_un (by omega)]
    exact h.2.2.2.2 j h1 h2
/-- close, whole -/
theorem nend_own {i : Nat} {x gd tt : Int32} {G : fM} : Own i G (sB_nend 0 i x gd tt G) := by
  have hs : ∀ {M : fM}, Own i M (sB_shut 0 i M) := by
    intro M; unfold sB_shut; exact ((Own.rf.upB (by decide)).upB (by decide)).upB (by decide)
  have ht : ∀ {M : fM}, Own i M (sB_trip 0 i tt M) := by
    intro M; unfold sB_trip; exact (Own.rf.upB (by decide)).upB (by decide)
  unfold sB_nend sB_add sB_endT sB_add3 sB_add2 sB_add1
  by_cases c0 : G (iB 0 i 0) = 0
  · rw [if_pos c0]
    have h1 : ∀ x, Own i G (upd G (iB 0 i 4) x) := fun x => Own.rf.upB (by decide)
    generalize ((G (iB 0 i 4) <<< ((1 : Int32) &&& 31) ||| (if gd = 0 then 1 else 0)) &&& 255) = y
    have h2 : Own i G (if 8 ≤ upd G (iB 0 i 4) y (iB 0 i 3) then upd G (iB 0 i 4) y else upd (upd G (iB 0 i 4) y) (iB 0 i 3) (upd G (iB 0 i 4) y (iB 0 i 3) + 1)) := by
      split
      · exact h1 y
      · exact (h1 y).upB (by decide)
    generalize (if 8 ≤ upd G (iB 0 i 4) y (iB 0 i 3) then upd G (iB 0 i 4) y else upd (upd G (iB 0 i 4) y) (iB 0 i 3) (upd G (iB 0 i 4) y (iB 0 i 3) + 1)) = M at h2 ⊢
    split
    · exact h2
    · split
      · exact h2
      · exact fun g hg => (ht g hg).trans (h2 g hg)
  · rw [if_neg c0]
    split
    · split
      · split
        · exact ht
        · exact hs
      · exact Own.rf
    · exact Own.rf
theorem cl2_lo {k i : Nat} {gd : Int32} (hi : i < 10) : Lo Q (mM_cl2 k i gd Q) := by
  have ht : ∀ M, Lo M (mM_trip i M) := by
    intro M; unfold mM_trip; exact ((Lo.rf.up (by omega)).up (by omega)).up (by omega)
  unfold mM_cl2 mM_ad mM_cl1
  split
  · have h1 : Lo Q (mM_ad2 i (mM_ad1 i gd Q)) := by unfold mM_ad2 mM_ad1; exact (Lo.rf.up (by omega)).up (by omega)
    generalize mM_ad2 i (mM_ad1 i gd Q) = M at h1 ⊢
    unfold mM_ad3
    split
    · exact h1
    · split
      · exact h1
      · exact h1.tr (ht M)
  · split
    · split
      · split
        · exact ht Q
        · exact (((Lo.rf.up (by omega)).up (by omega)).up (by omega)).up (by omega)
      · exact Lo.rf
    · exact Lo.rf
theorem rs_close {k : Nat} {gd : Int32} (hb : n < 90000) (h : RS cn t nn o n 0 (tM Q) G) (hk : k < o) : RS cn t nn o (n + 1) 0 (tM (mM_cl k gd Q)) (sS_dis 0 k gd G) ∧ Lo Q (mM_cl k gd Q) ∧ Hi G (sS_dis 0 k gd G) ∧ mM_cl k gd Q (iM 1) - mM_cl k gd Q (iM (1263 + k)) = sS_dis 0 k gd G (iS 0 9) - sS_dis 0 k gd G (iA 0 2000 k) := by
  have h10 := h.c10
  have h1000 := h.ho.2.2
  obtain ⟨⟨a1, q, a2, a3⟩, _, _⟩ := h.2.2.2.1 k hk
  have em : mco k Q = q := by unfold mco; rw [show Q (iM (263 + k)) = nI q from a1.trans a3, nI_clamp (by omega)]
  have ec : coN 0 k G = q := by unfold coN; rw [a3, nI_clamp (by omega)]
  have h1 := rs_load (j := q) (x := tM Q (33 + q) - 1) (y := upd G (iA 0 3000 k) 0 (iV 0 q 2) - 1) (by omega) (rs_live h hk) a2 (Or.inr ⟨by rw [pk_un (by omega)], rfl⟩)
  have e0 : tM (mM_cl0 k Q) = upd (upd (tM Q) (2263 + k) 1) (33 + q) (tM Q (33 + q) - 1) := by
    unfold mM_cl0
    rw [em, tM_up, tM_up, tM_t (by decide), pk_un (by unfold iM; omega), pk_un (by unfold iM iT; omega)]
    rfl
  have l0 : Lo Q (mM_cl0 k Q) := by
    unfold mM_cl0
    rw [em]
    exact ((Lo.rf.ti (by decide)).up (by omega)).up (by omega)
  rw [← e0] at h1
  have ed1 : sS_dis1 0 k G = upd (upd G (iA 0 3000 k) 0) (iV 0 q 2) (upd G (iA 0 3000 k) 0 (iV 0 q 2) - 1) := by unfold sS_dis1; rw [ec]
  rw [← ed1] at h1
  have h2 := rs_nend (k := k) (gd := gd) h1 a2
  rw [← cl2_T k q gd _ (by omega)] at h2
  have hd : sS_dis 0 k gd G = sB_nend 0 q (nI k) gd (nI t) (sS_dis1 0 k G) := by unfold sS_dis; rw [ec, h1.ht]
  have hcl : mM_cl k gd Q = mM_cl2 k q gd (mM_cl0 k Q) := by unfold mM_cl; rw [em]
  rw [← hd, ← hcl] at h2
  refine ⟨h2, ?_, ?_, ?_⟩
  · rw [hcl]; exact l0.tr (cl2_lo (by omega))
  · rw [hd]
    refine Hi.tr ?_ (nend_own.hi (by omega))
    rw [ed1]
    exact (Hi.rf.up (by unfold iA; omega)).up (by unfold iV; omega)
  · rw [show mM_cl k gd Q (iM 1) = sS_dis 0 k gd G (iS 0 9) from h2.T1.trans h2.ht.symm, show mM_cl k gd Q (iM (1263 + k)) = sS_dis 0 k gd G (iA 0 2000 k) from (h2.2.2.2.1 k hk).2.1]
/-! copies -/
def Cpd (S : Nat → Prop) (z y : Nat) (G M : fM) : Prop := (∀ c, c < 10000 → S c → M (10000 * z + c) = G (10000 * y + c)) ∧ (∀ g, (g < 10000 * z ∨ 10000 * (z + 1) ≤ g) → M g = G g)
theorem Cpd.mono {S S' : Nat → Prop} {z y : Nat} {M : fM} (h : Cpd S z y G M) (hs : ∀ c, S' c → S c) : Cpd S' z y G M := ⟨fun c hc h1 => h.1 c hc (hs c h1), h.2⟩
theorem Cpd.cp {S : Nat → Prop} {z y a b : Nat} {M : fM} (h : Cpd S z y G M) (c0 : Nat) (hne : z ≠ y) (hc : c0 < 10000) (ha : a = 10000 * z + c0) (hb : b = 10000 * y + c0) : Cpd (fun c => S c ∨ c = c0) z y G (upd M a (M b)) := by
  subst ha; subst hb
  refine ⟨fun c hc9 h1 => ?_, fun g hg => ?_⟩
  · by_cases hcc : c = c0
    · subst hcc; rw [pk_us]; exact h.2 _ (by omega)
    · rw [pk_un (by omega)]
      rcases h1 with h1 | h1
      · exact h.1 c hc9 h1
      · exact absurd h1 hcc
  · rw [pk_un (by omega)]
    exact h.2 g hg
theorem Cpd.cpy {S : Nat → Prop} {z y b0 b1 : Nat} {M : fM} (h : Cpd S z y G M) (b m : Nat) (hne : z ≠ y) (hbm : b + m ≤ 10000) (ha : b0 = 10000 * y + b) (hb : b1 = 10000 * z + b) : Cpd (fun c => S c ∨ (b ≤ c ∧ c < b + m)) z y G (cpyM M b0 b1 m) := by
  subst ha; subst hb
  refine ⟨fun c hc9 h1 => ?_, fun g hg => ?_⟩
  · unfold cpyM
    by_cases hcc : b ≤ c ∧ c < b + m
    · rw [if_pos ⟨by omega, by omega⟩, show 10000 * y + b + (10000 * z + c - (10000 * z + b)) = 10000 * y + c by omega]
      exact h.2 _ (by omega)
    · rw [if_neg (by omega)]
      rcases h1 with h1 | h1
      · exact h.1 c hc9 h1
      · exact absurd h1 hcc
  · rw [cpyM_out (by omega)]
    exact h.2 g hg
theorem Cpd.live {S : Nat → Prop} {z y : Nat} {M : fM} (h : Cpd S z y G M) (hne : z ≠ y) : ∀ m, m ≤ 1000 → Cpd (fun c => S c ∨ (3000 ≤ c ∧ c < 3000 + m)) z y G (sC_live z y m M) := by
  intro m
  induction m with
  | zero =>
    intro _
    refine h.mono (fun c hc => ?_)
    rcases hc with h1 | h1
    · exact h1
    · exact absurd h1 (by omega)
  | succ m ih =>
    intro hm
    have := (ih (by omega)).cp (a := iA z 3000 m) (b := iA y 3000 m) (3000 + m) hne (by omega) (by unfold iA; omega) (by unfold iA; omega)
    exact this.mono (fun c hc => by
      rcases hc with h1 | h1
      · exact Or.inl (Or.inl h1)
      · by_cases h2 : c = 3000 + m
        · exact Or.inr h2
        · exact Or.inl (Or.inr (by omega)))
def needS (cn nn o : Nat) (c : Nat) : Prop := c ≤ 10 ∨ c = 20 ∨ c = 21 ∨ (∃ i d, i < cn ∧ d < 15 ∧ d ≠ 9 ∧ c = 100 + 20 * i + d) ∨ (400 ≤ c ∧ c < 400 + nn) ∨ (450 ≤ c ∧ c < 450 + nn) ∨ (500 ≤ c ∧ c < 500 + nn) ∨ (1000 ≤ c ∧ c < 1000 + o) ∨ (2000 ≤ c ∧ c < 2000 + o) ∨ (3000 ≤ c ∧ c < 3000 + o)
theorem cpV {S : Nat → Prop} {z y i : Nat} {M : fM} (h : Cpd S z y G M) (hne : z ≠ y) (hi : i < 10) : Cpd (fun c => S c ∨ ∃ d, d < 15 ∧ d ≠ 9 ∧ c = 100 + 20 * i + d) z y G (sV_copy z y i M) := by
  unfold sV_copy sB_copy cp1
  have h1 := (((((((((h.cp (a := iV z i 0) (b := iV y i 0) (100 + 20 * i + 0) hne (by omega) (by unfold iV; omega) (by unfold iV; omega)).cp (a := iV z i 1) (b := iV y i 1) (100 + 20 * i + 1) hne (by omega) (by unfold iV; omega) (by unfold iV; omega)).cp (a := iV z i 2) (b := iV y i 2) (100 + 20 * i + 2) hne (by omega) (by unfold iV; omega) (by unfold iV; omega)).cp (a := iV z i 3) (b := iV y i 3) (100 + 20 * i + 3) hne (by omega) (by unfold iV; omega) (by unfold iV; omega)).cp (a := iV z i 4) (b := iV y i 4) (100 + 20 * i + 4) hne (by omega) (by unfold iV; omega) (by unfold iV; omega)).cp (a := iV z i 5) (b := iV y i 5) (100 + 20 * i + 5) hne (by omega) (by unfold iV; omega) (by unfold iV; omega)).cp (a := iV z i 6) (b := iV y i 6) (100 + 20 * i + 6) hne (by omega) (by unfold iV; omega) (by unfold iV; omega)).cp (a := iV z i 7) (b := iV y i 7) (100 + 20 * i + 7) hne (by omega) (by unfold iV; omega) (by unfold iV; omega)).cp (a := iV z i 8) (b := iV y i 8) (100 + 20 * i + 8) hne (by omega) (by unfold iV; omega) (by unfold iV; omega))
  have h2 := (((((h1.cp (a := iB z i 0) (b := iB y i 0) (100 + 20 * i + 10) hne (by omega) (by unfold iB; omega) (by unfold iB; omega)).cp (a := iB z i 1) (b := iB y i 1) (100 + 20 * i + 11) hne (by omega) (by unfold iB; omega) (by unfold iB; omega)).cp (a := iB z i 2) (b := iB y i 2) (100 + 20 * i + 12) hne (by omega) (by unfold iB; omega) (by unfold iB; omega)).cp (a := iB z i 3) (b := iB y i 3) (100 + 20 * i + 13) hne (by omega) (by unfold iB; omega) (by unfold iB; omega)).cp (a := iB z i 4) (b := iB y i 4) (100 + 20 * i + 14) hne (by omega) (by unfold iB; omega) (by unfold iB; omega))
  refine h2.mono (fun c hc => ?_)
  rcases hc with hc | ⟨d, hd, hd9, rfl⟩
  · simp only [hc, true_or]
  · by_cases hS : S (100 + 20 * i + d)
    · simp only [hS, true_or]
    · simp only [hS, false_or]
      omega
theorem copy_ok {z y : Nat} {T : fM} (h : RS cn t nn o n y T G) (hne : z ≠ y) : Cpd (needS cn nn o) z y G (sS_copy z y G) := by
  have h10 := h.c10
  have h40 := h.hn.2.2
  have h1000 := h.ho.2.2
  unfold sS_copy
  rw [h.enN, h.eoN]
  have c0 : Cpd (fun c => c ≤ 10) z y G (sS_cp0 z y G) := by
    have b0 : Cpd (fun _ => False) z y G G := ⟨fun _ _ h => h.elim, fun _ _ => rfl⟩
    unfold sS_cp0 cp1
    have := (((((((((((b0.cp (a := iS z 0) (b := iS y 0) 0 hne (by decide) rfl rfl).cp (a := iS z 1) (b := iS y 1) 1 hne (by decide) rfl rfl).cp (a := iS z 2) (b := iS y 2) 2 hne (by decide) rfl rfl).cp (a := iS z 3) (b := iS y 3) 3 hne (by decide) rfl rfl).cp (a := iS z 4) (b := iS y 4) 4 hne (by decide) rfl rfl).cp (a := iS z 5) (b := iS y 5) 5 hne (by decide) rfl rfl).cp (a := iS z 6) (b := iS y 6) 6 hne (by decide) rfl rfl).cp (a := iS z 7) (b := iS y 7) 7 hne (by decide) rfl rfl).cp (a := iS z 8) (b := iS y 8) 8 hne (by decide) rfl rfl).cp (a := iS z 9) (b := iS y 9) 9 hne (by decide) rfl rfl).cp (a := iS z 10) (b := iS y 10) 10 hne (by decide) rfl rfl)
    exact this.mono (fun c hc => by simp only [false_or]; omega)
  have c1 : Cpd (fun c => c ≤ 10 ∨ ∃ i d, i < cn ∧ d < 15 ∧ d ≠ 9 ∧ c = 100 + 20 * i + d) z y G (sS_cp1 z y G) := by
    unfold sS_cp1
    rw [h.ecN]
    have := fold9_inv (F := fun i M => sV_copy z y i M) (fun k M => Cpd (fun c => c ≤ 10 ∨ ∃ i d, i < k ∧ d < 15 ∧ d ≠ 9 ∧ c = 100 + 20 * i + d) z y G M) cn 0 (sS_cp0 z y G) (c0.mono (fun c hc => by
      rcases hc with h1 | ⟨i, d, h1, _⟩
      · exact h1
      · exact absurd h1 (Nat.not_lt_zero _))) (fun k M _ hk hM => (cpV hM hne (by omega)).mono (fun c hc => by
        rcases hc with h1 | ⟨i, d, h1, h2, h3, h4⟩
        · exact Or.inl (Or.inl h1)
        · by_cases hik : i = k
          · subst hik; exact Or.inr ⟨d, h2, h3, h4⟩
          · exact Or.inl (Or.inr ⟨i, d, by omega, h2, h3, h4⟩)))
    rw [Nat.zero_add] at this
    exact this
  unfold sK_copy sC_copy
  have c2 := (c1.cp (a := iS z 20) (b := iS y 20) 20 hne (by decide) rfl rfl)
  have c3 := ((c2.cpy (b0 := 10000 * y + 1000) (b1 := 10000 * z + 1000) 1000 o hne (by omega) rfl rfl).cpy (b0 := 10000 * y + 2000) (b1 := 10000 * z + 2000) 2000 o hne (by omega) rfl rfl).live hne o h1000
  have c4 := (((c3.cp (a := iS z 21) (b := iS y 21) 21 hne (by decide) rfl rfl).cpy (b0 := 10000 * y + 400) (b1 := 10000 * z + 400) 400 nn hne (by omega) rfl rfl).cpy (b0 := 10000 * y + 450) (b1 := 10000 * z + 450) 450 nn hne (by omega) rfl rfl).cpy (b0 := 10000 * y + 500) (b1 := 10000 * z + 500) 500 nn hne (by omega) rfl rfl
  refine c4.mono (fun c hc => ?_)
  rcases hc with hc | hc | hc | hc | hc | hc | hc | hc | hc | hc
  · exact Or.inl (Or.inl (Or.inl (Or.inl (Or.inl (Or.inl (Or.inl (Or.inl (Or.inl hc))))))))
  · exact Or.inl (Or.inl (Or.inl (Or.inl (Or.inl (Or.inl (Or.inl (Or.inr hc)))))))
  · exact Or.inl (Or.inl (Or.inl (Or.inr hc)))
  · exact Or.inl (Or.inl (Or.inl (Or.inl (Or.inl (Or.inl (Or.inl (Or.inl (Or.inr hc))))))))
  · exact Or.inl (Or.inl (Or.inr hc))
  · exact Or.inl (Or.inr hc)
  · exact Or.inr hc
  · exact Or.inl (Or.inl (Or.inl (Or.inl (Or.inl (Or.inl (Or.inr hc))))))
  · exact Or.inl (Or.inl (Or.inl (Or.inl (Or.inl (Or.inr hc)))))
  · exact Or.inl (Or.inl (Or.inl (Or.inl (Or.inr hc))))
theorem RV.congr9 {v r v' : Nat → Int32} (h : RV t n v r) (hv : ∀ c, c < 15 → c ≠ 9 → v' c = v c) : RV t n v' r := by
  unfold RV at h ⊢
  rw [hv 0 (by decide) (by decide), hv 1 (by decide) (by decide), hv 2 (by decide) (by decide), hv 3 (by decide) (by decide), hv 4 (by decide) (by decide), hv 5 (by decide) (by decide), hv 6 (by decide) (by decide), hv 7 (by decide) (by decide), hv 8 (by decide) (by decide), hv 10 (by decide) (by decide), hv 11 (by decide) (by decide), hv 12 (by decide) (by decide), hv 13 (by decide) (by decide), hv 14 (by decide) (by decide)]
  exact h
theorem RS.copy {z y : Nat} {T M : fM} (h : RS cn t nn o n y T G) (hM : Cpd (needS cn nn o) z y G M) : RS cn t nn o n z T M := by
  have h10 := h.c10
  have h40 := h.hn.2.2
  have h1000 := h.ho.2.2
  have hS : ∀ c, (c ≤ 10 ∨ c = 20 ∨ c = 21) → M (iS z c) = G (iS y c) := fun c hc => hM.1 c (by omega) (by unfold needS; omega)
  refine ⟨?_, ⟨fun i hi => (h.V hi).congr9 (fun c hc h9 => ?_), h.2.1.2⟩, fun j hj => ?_, fun j hj => ?_, h.2.2.2.2⟩
  · have hA := h.1
    unfold RA at hA ⊢
    rw [hS 0 (by decide), hS 1 (by decide), hS 2 (by decide), hS 3 (by decide), hS 4 (by decide), hS 5 (by decide), hS 6 (by decide), hS 7 (by decide), hS 8 (by decide), hS 9 (by decide), hS 10 (by decide), hS 20 (by decide), hS 21 (by decide)]
    exact hA
  · have := hM.1 (100 + 20 * i + c) (by omega) (Or.inr (Or.inr (Or.inr (Or.inl ⟨i, c, hi, hc, h9, rfl⟩))))
    show M (iV z i c) = G (iV y i c)
    unfold iV
    rw [show 10000 * z + 100 + 20 * i + c = 10000 * z + (100 + 20 * i + c) by omega, show 10000 * y + 100 + 20 * i + c = 10000 * y + (100 + 20 * i + c) by omega]
    exact this
  · have e : ∀ b, (b = 400 ∨ b = 450 ∨ b = 500) → M (iA z b j) = G (iA y b j) := fun b hb => by
      unfold iA
      rw [Nat.add_assoc, Nat.add_assoc]
      exact hM.1 (b + j) (by omega) (by unfold needS; omega)
    rw [e 400 (by decide), e 450 (by decide), e 500 (by decide)]
    exact h.2.2.1 j hj
  · have e : ∀ b, (b = 1000 ∨ b = 2000 ∨ b = 3000) → M (iA z b j) = G (iA y b j) := fun b hb => by
      unfold iA
      rw [Nat.add_assoc, Nat.add_assoc]
      exact hM.1 (b + j) (by omega) (by unfold needS; omega)
    rw [e 1000 (by decide), e 2000 (by decide), e 3000 (by decide)]
    exact h.2.2.2.1 j hj
end OP3
