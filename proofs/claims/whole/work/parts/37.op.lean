/-! open -/
section OP
variable {cn t nn o n : Nat} {T G Q : fM}
theorem RA.lower {n' z : Nat} (h : RA cn t nn o n' z T G) (ht : t ≤ 200 * n) : RA cn t nn o n z T G := ⟨h.1, ⟨h.2.1.1, ht, h.2.1.2.2⟩, h.2.2⟩
theorem rs_rr0 {j0 : Nat} (h : RS cn t nn o n 0 T G) (hj : j0 < cn) : RS cn t nn o n 0 (upd T 9 (nI j0)) (upd G (iS 0 7) (nI j0)) :=
  h.scal ((ra_rr h.1 hj).lower h.tn) (fun g h1 h2 => by rw [pk_un (by unfold iS; omega)]) (fun j hj => by rw [pk_un (by omega)]) (Nat.le_refl n)
theorem rs_seed0 {a : Int32} (h : RS cn t nn o n 0 T G) : RS cn t nn o n 0 (upd T 8 a) (upd G (iS 0 8) a) :=
  h.scal ((ra_seed h.1).lower h.tn) (fun g h1 h2 => by rw [pk_un (by unfold iS; omega)]) (fun j hj => by rw [pk_un (by omega)]) (Nat.le_refl n)
/-- credits alone -/
theorem RS.cred {T' G' : fM} (h : RS cn t nn o n 0 T G) (hG : ∀ g, (∀ i, i < cn → g ≠ iV 0 i 3) → G' g = G g) (hT : ∀ j, j < 113 ∨ 113 + cn ≤ j → T' j = T j) (hc : ∀ i, i < cn → T' (113 + i) = G' (iV 0 i 3)) : RS cn t nn o n 0 T' G' := by
  have h10 := h.c10
  have h40 := h.hn.2.2
  have h1000 := h.ho.2.2
  refine ⟨h.1.congr (fun c hc => hG _ (fun i hi => by unfold iS iV; omega)) (fun j hj => hT j (by omega)) (Nat.le_refl _), ⟨fun i hi => ?_, fun i h1 h2 => ?_⟩, ?_, ?_⟩
  · obtain ⟨k1, k2, k3, k4, k5, k6, k7, k8, k9, k10, k11, k12⟩ := h.V hi
    have key : RV t n (upd (cV 0 i G) 3 (G' (iV 0 i 3))) (upd (rV T i) 10 (G' (iV 0 i 3))) := ⟨k1, k2, k3, k4, k5, k6, k7, k8, k9, k10, rfl, k12⟩
    refine key.congr (fun c hc => ?_) (fun c hc9 => ?_) (Nat.le_refl _) (Nat.le_refl _)
    · by_cases h3 : c = 3
      · subst h3; rw [pk_us]; rfl
      · rw [pk_un h3]; exact hG _ (fun i' hi' => by unfold iV; omega)
    · by_cases h3 : c = 10
      · subst h3; rw [pk_us]; show T' (13 + 10 * 10 + i) = _; rw [show 13 + 10 * 10 + i = 113 + i by omega]; exact hc i hi
      · rw [pk_un h3]; exact hT _ (by omega)
  · have := h.2.1.2 i h1 h2
    unfold zRow at this ⊢
    rw [hT _ (by omega), hT _ (by omega), hT _ (by omega), hT _ (by omega), hT _ (by omega), hT _ (by omega), hT _ (by omega), hT _ (by omega)]
    exact this
  · exact h.2.2.1.congr (fun j hj => ⟨hG _ (fun i hi => by unfold iA iV; omega), hG _ (fun i hi => by unfold iA iV; omega), hG _ (fun i hi => by unfold iA iV; omega)⟩) (fun j hj => ⟨hT _ (by omega), hT _ (by omega), hT _ (by omega)⟩) (Nat.le_refl _) (Nat.le_refl _)
  · exact h.2.2.2.congr h1000 (fun j hj => ⟨hG _ (fun i hi => by unfold iA iV; omega), hG _ (fun i hi => by unfold iA iV; omega), hG _ (fun i hi => by unfold iA iV; omega)⟩) (fun j hj _ => hT _ (by omega)) (Nat.le_refl _)
theorem acc_keep {i : Nat} {M : fM} (hM : ∀ g, (∀ i, g ≠ iV 0 i 3) → M g = G g) : sV_acc 0 i M = sV_acc 0 i G := by
  unfold sV_acc sB_lets
  rw [hM (iV 0 i 4) (fun k => by unfold iV; omega), hM (iV 0 i 5) (fun k => by unfold iV; omega), hM (iV 0 i 1) (fun k => by unfold iV; omega), hM (iV 0 i 2) (fun k => by unfold iV; omega), hM (iB 0 i 0) (fun k => by unfold iB iV; omega), hM (iB 0 i 2) (fun k => by unfold iB iV; omega)]
theorem wt_keep {i : Nat} {M : fM} (hM : ∀ g, (∀ i, g ≠ iV 0 i 3) → M g = G g) : sS_wt 0 i M = sS_wt 0 i G := by
  unfold sS_wt
  rw [hM (iS 0 3) (fun k => by unfold iS iV; omega), hM (iV 0 i 0) (fun k => by unfold iV; omega), hM (iV 0 i 7) (fun k => by unfold iV; omega), hM (iV 0 i 8) (fun k => by unfold iV; omega), hM (iS 0 9) (fun k => by unfold iS iV; omega)]
theorem mc1_G (cn : Nat) : (∀ i, i < cn → (fold9 (sS_mcS 0) cn 0 (G, 0)).1 (iV 0 i 3) = if sV_acc 0 i G = 0 then G (iV 0 i 3) else G (iV 0 i 3) + sS_wt 0 i G) ∧ (∀ g, (∀ i, i < cn → g ≠ iV 0 i 3) → (fold9 (sS_mcS 0) cn 0 (G, 0)).1 g = G g) ∧ (fold9 (sS_mcS 0) cn 0 (G, 0)).2 = (avS G cn).foldl (fun a i => a + sS_wt 0 i G) 0 := by
  have h := fold9_inv (F := sS_mcS 0) (fun k q => (∀ i, i < k → q.1 (iV 0 i 3) = if sV_acc 0 i G = 0 then G (iV 0 i 3) else G (iV 0 i 3) + sS_wt 0 i G) ∧ (∀ g, (∀ i, i < k → g ≠ iV 0 i 3) → q.1 g = G g) ∧ q.2 = fold9 (fun i a => if sS_av 0 G i = true then a + sS_wt 0 i G else a) k 0 0) cn 0 (G, 0) ⟨fun i hi => absurd hi (Nat.not_lt_zero _), fun g _ => rfl, rfl⟩ (fun k q _ hk ⟨h1, h2, h3⟩ => ?_)
  · rw [Nat.zero_add] at h
    refine ⟨h.1, h.2.1, ?_⟩
    rw [h.2.2, av_fold (g := fun i a => a + sS_wt 0 i G)]
    rfl
  · have hq : ∀ g, (∀ i, g ≠ iV 0 i 3) → q.1 g = G g := fun g hg => h2 g (fun i _ => hg i)
    have ek : q.1 (iV 0 k 3) = G (iV 0 k 3) := h2 _ (fun i hi => by unfold iV; omega)
    rw [fold9_last, Nat.zero_add]
    unfold sS_mcS sS_av
    rw [acc_keep hq, wt_keep hq, ek]
    by_cases hz : sV_acc 0 k G = 0
    · rw [if_pos hz, if_neg (show ¬ (!decide (sV_acc 0 k G = 0)) = true by simpa using hz)]
      refine ⟨fun i hi => ?_, fun g hg => h2 g (fun i hi => hg i (by omega)), h3⟩
      by_cases hik : i = k
      · subst hik; rw [if_pos hz]; exact ek
      · exact h1 i (by omega)
    · rw [if_neg hz, if_pos (show (!decide (sV_acc 0 k G = 0)) = true by simpa using hz)]
      refine ⟨fun i hi => ?_, fun g hg => ?_, ?_⟩
      · by_cases hik : i = k
        · subst hik; rw [if_neg hz]; exact pk_us
        · exact (pk_un (by unfold iV; omega)).trans (h1 i (by omega))
      · exact (pk_un (hg k (by omega))).trans (h2 g (fun i hi => hg i (by omega)))
      · show q.2 + _ = _
        rw [h3]
        rfl
theorem iM_113 {i k : Nat} (h : iM (113 + i) = iM (113 + k)) : i = k := by unfold iM at h; omega
theorem mwt_keep {i k : Nat} {x : Int32} (hi : i < 10) (hk : k < 10) : mM_wt i (upd Q (iM (113 + k)) x) = mM_wt i Q := by
  unfold mM_wt
  rw [pk_un (by unfold iM; omega), pk_un (by unfold iM; omega), pk_un (by unfold iM; omega), pk_un (by unfold iM; omega)]
theorem no1_G {p : Nat → Nat} {w : Nat → fM → Int32} (hw : ∀ (i k : Nat) (x : Int32) (Q : fM), i < 10 → k < 10 → w i (upd Q (p k) x) = w i Q) (hp : ∀ i k, p i = p k → i = k) : ∀ (L : List Nat) (Q : fM) (a : Int32), L.Nodup → (∀ i ∈ L, i < 10) →
    (∀ i ∈ L, (L.foldl (fun q i => (upd q.1 (p i) (q.1 (p i) + w i q.1), q.2 + w i (upd q.1 (p i) (q.1 (p i) + w i q.1)))) (Q, a)).1 (p i) = Q (p i) + w i Q) ∧
    (∀ g, (∀ i ∈ L, g ≠ p i) → (L.foldl (fun q i => (upd q.1 (p i) (q.1 (p i) + w i q.1), q.2 + w i (upd q.1 (p i) (q.1 (p i) + w i q.1)))) (Q, a)).1 g = Q g) ∧
    (L.foldl (fun q i => (upd q.1 (p i) (q.1 (p i) + w i q.1), q.2 + w i (upd q.1 (p i) (q.1 (p i) + w i q.1)))) (Q, a)).2 = L.foldl (fun a i => a + w i Q) a := by
  intro L
  induction L with
  | nil => intro Q a _ _; exact ⟨fun i hi => absurd hi List.not_mem_nil, fun g _ => rfl, rfl⟩
  | cons b L ih =>
    intro Q a hnd hlt
    obtain ⟨hb, hnd'⟩ := List.nodup_cons.mp hnd
    have hb10 := hlt b List.mem_cons_self
    obtain ⟨i1, i2, i3⟩ := ih (upd Q (p b) (Q (p b) + w b Q)) (a + w b (upd Q (p b) (Q (p b) + w b Q))) hnd' (fun i hi => hlt i (List.mem_cons_of_mem _ hi))
    refine ⟨fun i hi => ?_, fun g hg => ?_, ?_⟩
    · rcases List.mem_cons.mp hi with rfl | hi
      · exact (i2 _ (fun k hk h9 => hb (by rw [hp _ _ h9]; exact hk))).trans pk_us
      · refine (i1 i hi).trans ?_
        rw [hw _ _ _ _ (hlt i (List.mem_cons_of_mem _ hi)) hb10, pk_un (fun h9 => hb (by rw [← hp _ _ h9]; exact hi))]
    · exact (i2 g (fun i hi => hg i (List.mem_cons_of_mem _ hi))).trans (pk_un (hg b List.mem_cons_self))
    · refine i3.trans ?_
      rw [hw _ _ _ _ hb10 hb10, List.foldl_cons]
      have : ∀ (L : List Nat) (a : Int32), (∀ i ∈ L, i < 10) → L.foldl (fun a i => a + w i (upd Q (p b) (Q (p b) + w b Q))) a = L.foldl (fun a i => a + w i Q) a := by
        intro L
        induction L with
        | nil => intro a _; rfl
        | cons c L ih =>
          intro a h
          rw [List.foldl_cons, List.foldl_cons, hw _ _ _ _ (h c List.mem_cons_self) hb10, ih _ (fun i hi => h i (List.mem_cons_of_mem _ hi))]
      exact this L _ (fun i hi => hlt i (List.mem_cons_of_mem _ hi))
theorem no1_L (L : List Nat) (Q : fM) (a : Int32) (h1 : L.Nodup) (h2 : ∀ i ∈ L, i < 10) :
    (∀ i ∈ L, (L.foldl (fun q i => (upd q.1 (iM (113 + i)) (q.1 (iM (113 + i)) + mM_wt i q.1), q.2 + mM_wt i (upd q.1 (iM (113 + i)) (q.1 (iM (113 + i)) + mM_wt i q.1)))) (Q, a)).1 (iM (113 + i)) = Q (iM (113 + i)) + mM_wt i Q) ∧
    (∀ g, (∀ i ∈ L, g ≠ iM (113 + i)) → (L.foldl (fun q i => (upd q.1 (iM (113 + i)) (q.1 (iM (113 + i)) + mM_wt i q.1), q.2 + mM_wt i (upd q.1 (iM (113 + i)) (q.1 (iM (113 + i)) + mM_wt i q.1)))) (Q, a)).1 g = Q g) ∧
    (L.foldl (fun q i => (upd q.1 (iM (113 + i)) (q.1 (iM (113 + i)) + mM_wt i q.1), q.2 + mM_wt i (upd q.1 (iM (113 + i)) (q.1 (iM (113 + i)) + mM_wt i q.1)))) (Q, a)).2 = L.foldl (fun a i => a + mM_wt i Q) a :=
  no1_G (p := fun i => iM (113 + i)) (w := mM_wt) (fun i k x Q hi hk => mwt_keep hi hk) (fun i k h => iM_113 h) L Q a h1 h2
theorem avS_nodup : (avS G cn).Nodup := by
  unfold avS
  rw [← List.range_eq_range']
  exact List.Pairwise.filter _ List.nodup_range
theorem foldl_wt : ∀ (L : List Nat) (a : Int32), (∀ i ∈ L, mM_wt i Q = sS_wt 0 i G) → L.foldl (fun a i => a + mM_wt i Q) a = L.foldl (fun a i => a + sS_wt 0 i G) a := by
  intro L
  induction L with
  | nil => intro a _; rfl
  | cons c L ih =>
    intro a h
    rw [List.foldl_cons, List.foldl_cons, h c List.mem_cons_self, ih _ (fun i hi => h i (List.mem_cons_of_mem _ hi))]
theorem rs_note {j : Nat} (hb : n < 100000) (h : RS cn t nn o n 0 (tM Q) G) (hj : j < cn) : RS cn t nn o n 0 (tM (mM_note (avS G cn) j Q)) (sS_note 0 j G) := by
  have h10 := h.c10
  obtain ⟨e7, q, hq, eq⟩ := h.T7
  have e7' : Q (iM 7) = nI q := e7.trans eq
  unfold mM_note sS_note
  rw [e7', eq]
  by_cases q0 : q = 0
  · subst q0
    rw [if_pos (show nI 0 = 0 from rfl), if_pos (show nI 0 = 0 from rfl), tM_up]
    exact rs_rr0 h hj
  · have n0 : ¬ nI q = 0 := nI_ne0 (by omega) (by omega)
    rw [if_neg n0, if_neg n0]
    by_cases q1 : q = 1
    · subst q1
      rw [if_pos (show nI 1 = 1 from rfl), if_pos (show nI 1 = 1 from rfl), tM_up]
      have hlt : ∀ i ∈ avS G cn, i < cn := fun i hi => (avS_lt hi).1
      obtain ⟨l1, l2, l3⟩ := no1_L (avS G cn) Q 0 avS_nodup (fun i hi => by have := hlt i hi; omega)
      have eno : mM_no1 (avS G cn) Q = (avS G cn).foldl (fun q i => (upd q.1 (iM (113 + i)) (q.1 (iM (113 + i)) + mM_wt i q.1), q.2 + mM_wt i (upd q.1 (iM (113 + i)) (q.1 (iM (113 + i)) + mM_wt i q.1)))) (Q, 0) := ix_fold (g := fun i q => (upd q.1 (iM (113 + i)) (q.1 (iM (113 + i)) + mM_wt i q.1), q.2 + mM_wt i (upd q.1 (iM (113 + i)) (q.1 (iM (113 + i)) + mM_wt i q.1)))) (avS G cn) [] (Q, 0)
      rw [← eno] at l1 l2 l3
      obtain ⟨m1, m2, m3⟩ := mc1_G (G := G) cn
      have emc : sS_mc1 0 G = fold9 (sS_mcS 0) cn 0 (G, 0) := by unfold sS_mc1; rw [h.ecN]
      rw [← emc] at m1 m2 m3
      have esum : (mM_no1 (avS G cn) Q).2 = (sS_mc1 0 G).2 := by
        rw [l3, m3]
        exact foldl_wt _ _ (fun i hi => wt_eq hb h (hlt i hi))
      have ecr : ∀ i, i < cn → (mM_no1 (avS G cn) Q).1 (iM (113 + i)) = (sS_mc1 0 G).1 (iV 0 i 3) := by
        intro i hi
        have e10 : Q (iM (113 + i)) = G (iV 0 i 3) := by
          obtain ⟨_, _, _, _, _, _, _, _, _, _, h11, _⟩ := h.V hi
          rw [show 113 + i = 13 + 10 * 10 + i by omega]; exact h11
        rw [m1 i hi]
        by_cases hz : sV_acc 0 i G = 0
        · rw [if_pos hz, l2 _ (fun k hk h9 => (avS_lt hk).2 (by rw [← iM_113 h9]; exact hz)), e10]
        · rw [if_neg hz, l1 i (avS_mem hi hz), e10, wt_eq hb h hi]
      unfold sS_mc
      refine h.cred (fun g hg => ?_) (fun k hk => ?_) (fun i hi => ?_)
      · rw [pk_un (hg j hj), m2 g hg]
      · rw [pk_un (by omega)]
        exact l2 _ (fun i hi => by have := hlt i hi; unfold iM; omega)
      · by_cases hij : i = j
        · subst hij
          rw [pk_us, pk_us, esum, ecr i hi]
        · rw [pk_un (by omega), pk_un (by unfold iV; omega)]
          exact ecr i hi
    · have n1 : ¬ nI q = 1 := fun h9 => q1 ((nI_eq (by omega) (by decide)).mp (h9.trans (show (1 : Int32) = nI 1 from rfl)))
      rw [if_neg n1, if_neg n1]
      by_cases q4 : q = 4
      · subst q4
        rw [if_neg (by decide), if_pos (show nI 4 = 4 from rfl), tM_up, show Q (iM 8) = G (iS 0 8) from h.T8]
        exact rs_seed0 h
      · rw [if_pos (show nI q ≤ 3 from nI_le (b := 3) (by omega) (by decide)), if_neg (fun h9 => q4 ((nI_eq (by omega) (by decide)).mp (h9.trans (show (4 : Int32) = nI 4 from rfl))))]
        exact h
theorem upd_comm {f : fM} {a b : Nat} {x y : Int32} (h : a ≠ b) : upd (upd f a x) b y = upd (upd f b y) a x := by
  funext j
  unfold upd
  by_cases h1 : j = a
  · subst h1; rw [if_neg h, if_pos rfl, if_pos rfl]
  · rw [if_neg h1]
    by_cases h2 : j = b
    · rw [if_pos h2, if_neg h1]
    · rw [if_neg h2, if_neg h1]
/-- a connection more -/
theorem rs_app {j : Nat} (h : RS cn t nn o n 0 T G) (hj : j < cn) (ho : o < 1000) : RS cn t nn (o + 1) n 0 (upd (upd (upd T (263 + o) (nI j)) (1263 + o) (nI t)) 10 (nI (o + 1))) (sC_app 0 (nI j) (nI t) o G) := by
  have h10 := h.c10
  have h40 := h.hn.2.2
  unfold sC_app
  have hG : ∀ g, g ≠ 20 → g ≠ iA 0 1000 o → g ≠ iA 0 2000 o → g ≠ iA 0 3000 o → upd (upd (upd (upd G (iA 0 1000 o) (nI j)) (iA 0 2000 o) (nI t)) (iA 0 3000 o) 1) (iS 0 20) (nI (o + 1)) g = G g := fun g h1 h2 h3 h4 => by rw [pk_un (by unfold iS; omega), pk_un h4, pk_un h3, pk_un h2]
  have hT : ∀ k, k ≠ 10 → k ≠ 263 + o → k ≠ 1263 + o → upd (upd (upd T (263 + o) (nI j)) (1263 + o) (nI t)) 10 (nI (o + 1)) k = T k := fun k h1 h2 h3 => by rw [pk_un h1, pk_un h3, pk_un h2]
  refine ⟨((ra_con h.1 ho).lower h.tn).congr (fun c hc => ?_) (fun k hk => ?_) (Nat.le_refl _), ?_, ?_, fun k hk => ?_, fun k h1 h2 => ?_⟩
  · by_cases h20 : c = 20
    · subst h20; rw [pk_us, pk_us]
    · rw [hG _ (by unfold iS; omega) (by unfold iS iA; omega) (by unfold iS iA; omega) (by unfold iS iA; omega), pk_un (by unfold iS; omega)]
  · by_cases h20 : k = 10
    · subst h20; rw [pk_us, pk_us]
    · rw [hT k h20 (by omega) (by omega), pk_un h20]
  · exact h.2.1.congr h10 (fun i c hi hc => hG _ (by unfold iV; omega) (by unfold iV iA; omega) (by unfold iV iA; omega) (by unfold iV iA; omega)) (fun k h1 h2 => hT k (by omega) (by omega) (by omega)) (Nat.le_refl _) (Nat.le_refl _)
  · exact h.2.2.1.congr (fun k hk => ⟨hG _ (by unfold iA; omega) (by unfold iA; omega) (by unfold iA; omega) (by unfold iA; omega), hG _ (by unfold iA; omega) (by unfold iA; omega) (by unfold iA; omega) (by unfold iA; omega), hG _ (by unfold iA; omega) (by unfold iA; omega) (by unfold iA; omega) (by unfold iA; omega)⟩) (fun k hk => ⟨hT _ (by omega) (by omega) (by omega), hT _ (by omega) (by omega) (by omega), hT _ (by omega) (by omega) (by omega)⟩) (Nat.le_refl _) (Nat.le_refl _)
  · by_cases hko : k = o
    · subst hko
      refine ⟨⟨?_, j, hj, ?_⟩, ?_, Or.inl ⟨?_, ?_⟩⟩
      · rw [pk_un (by omega), pk_un (by omega), pk_us, pk_un (by unfold iA iS; omega), pk_un (by unfold iA; omega), pk_un (by unfold iA; omega), pk_us]
      · rw [pk_un (by unfold iA iS; omega), pk_un (by unfold iA; omega), pk_un (by unfold iA; omega), pk_us]
      · rw [pk_un (by omega), pk_us, pk_un (by unfold iA iS; omega), pk_un (by unfold iA; omega), pk_us]
      · rw [pk_un (by unfold iA iS; omega), pk_us]
      · rw [hT _ (by omega) (by omega) (by omega)]
        exact h.2.2.2.2 k (Nat.le_refl _) ho
    · rw [hT _ (by omega) (by omega) (by omega), hT _ (by omega) (by omega) (by omega), hT _ (by omega) (by omega) (by omega), hG _ (by unfold iA; omega) (by unfold iA; omega) (by unfold iA; omega) (by unfold iA; omega), hG _ (by unfold iA; omega) (by unfold iA; omega) (by unfold iA; omega) (by unfold iA; omega), hG _ (by unfold iA; omega) (by unfold iA; omega) (by unfold iA; omega) (by unfold iA; omega)]
      exact h.2.2.2.1 k (by omega)
  · rw [hT _ (by omega) (by omega) (by omega)]
    exact h.2.2.2.2 k (by omega) h2
theorem load_pm {a : Int32} {n : Nat} (hb : n < 100000) (h1 : -(n : Int) ≤ a.toInt) (h2 : a.toInt ≤ n) : (-((n + 1 : Nat) : Int) ≤ (a + 1).toInt ∧ (a + 1).toInt ≤ (n + 1 : Nat)) ∧ (-((n + 1 : Nat) : Int) ≤ (a - 1).toInt ∧ (a - 1).toInt ≤ (n + 1 : Nat)) := by
  have e1 : (a + 1).toInt = a.toInt + 1 := by
    rw [Int32.toInt_add, show (1 : Int32).toInt = 1 by decide]
    exact Int.bmod_eq_of_le (by omega) (by omega)
  have e2 : (a - 1).toInt = a.toInt - 1 := by
    rw [Int32.toInt_sub, show (1 : Int32).toInt = 1 by decide]
    exact Int.bmod_eq_of_le (by omega) (by omega)
  omega
theorem rs_load {j : Nat} {x y : Int32} (hb : n < 100000) (h : RS cn t nn o n 0 T G) (hj : j < cn) (hx : x = T (33 + j) + 1 ∧ y = G (iV 0 j 2) + 1 ∨ x = T (33 + j) - 1 ∧ y = G (iV 0 j 2) - 1) : RS cn t nn o (n + 1) 0 (upd T (33 + j) x) (upd G (iV 0 j 2) y) := by
  have h10 := h.c10
  rw [show 33 + j = 13 + 10 * 2 + j by omega] at hx ⊢
  obtain ⟨k1, k2, k3, k4⟩ := h.V hj
  obtain ⟨p1, p2⟩ := load_pm hb k3.2.1 k3.2.2
  have ev : T (13 + 10 * 2 + j) = G (iV 0 j 2) := k3.1
  obtain ⟨q1, q2, q3, q4⟩ := (h.V hj).congr (fun _ _ => rfl) (fun _ _ => rfl) (Nat.le_refl t) (Nat.le_succ n)
  refine h.own hj (Own.rf.up (by decide)) (OwnT.rf.up rfl (by omega) (by decide)) ?_ (Nat.le_succ n)
  rw [cV_up, rV_up rfl]
  rcases hx with ⟨rfl, rfl⟩ | ⟨rfl, rfl⟩
  · exact ⟨q1, q2, ⟨by rw [ev]; rfl, p1⟩, q4⟩
  · exact ⟨q1, q2, ⟨by rw [ev]; rfl, p2⟩, q4⟩
theorem rs_nbeg {j : Nat} {x : Int32} (h : RS cn t nn o n 0 T G) (hj : j < cn) : RS cn t nn o n 0 (if T (83 + j) = 2 then upd T (103 + j) x else T) (sB_nbeg 0 j x G) := by
  have h10 := h.c10
  obtain ⟨k1, k2, k3, k4, k5, k6, k7, k8, k9, k10, k11⟩ := h.V hj
  have e7 : T (83 + j) = G (iB 0 j 0) := by rw [iB_iV, show 83 + j = 13 + 10 * 7 + j by omega]; exact k8.1
  unfold sB_nbeg
  rw [e7]
  by_cases h2 : G (iB 0 j 0) = 2
  · rw [if_pos h2, if_pos h2, iB_iV, show 103 + j = 13 + 10 * 9 + j by omega]
    refine h.own hj (Own.rf.up (by decide)) (OwnT.rf.up rfl (by omega) (by decide)) ?_ (Nat.le_refl n)
    rw [cV_up, rV_up rfl]
    exact ⟨k1, k2, k3, k4, k5, k6, k7, k8, k9, (fun _ => rfl), k11⟩
  · rw [if_neg h2, if_neg h2]
    exact h
end OP
