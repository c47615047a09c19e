/-! setPolicy and tick -/
section OPS3
variable {cn t nn o n : Nat} {T G : fM}
/-- places are set to 0, one by one -/
theorem fold_zero {p : Nat → Nat} (B : fM) (k : Nat) : (∀ i, i < k → fold9 (fun i M => upd M (p i) 0) k 0 B (p i) = 0) ∧ (∀ g, (∀ i, i < k → g ≠ p i) → fold9 (fun i M => upd M (p i) 0) k 0 B g = B g) := by
  have h := fold9_inv (F := fun i M => upd M (p i) 0) (fun k M => (∀ i, i < k → M (p i) = 0) ∧ (∀ g, (∀ i, i < k → g ≠ p i) → M g = B g)) k 0 B ⟨fun i hi => absurd hi (Nat.not_lt_zero _), fun g _ => rfl⟩ (fun j M _ _ ⟨h1, h2⟩ => ⟨fun i hi => ?_, fun g hg => ?_⟩)
  · rw [Nat.zero_add] at h; exact h
  · unfold upd
    split
    · rfl
    · rename_i hne
      exact h1 i (by
        rcases Nat.lt_or_ge i j with h | h
        · exact h
        · exact absurd (by rw [show i = j by omega]) hne)
  · show upd M (p j) 0 g = B g
    rw [pk_un (hg j (Nat.lt_succ_self _))]
    exact h2 g (fun i hi => hg i (by omega))
theorem rng04 {a : Int32} (h : rng a 0 4) : ∃ q, q ≤ 4 ∧ a = nI q := nI_of2 (by decide) h.1 h.2
theorem mM_pol_T {a : Int32} (G : fM) : (∀ i, i < 10 → tM (mM_pol a G) (113 + i) = 0) ∧ (∀ j, j < 113 ∨ 123 ≤ j → tM (mM_pol a G) j = upd (upd (tM G) 9 (-1)) 7 a j) := by
  have h := fold_zero (p := fun i => iM (113 + i)) (upd G (iT 0) 0) 10
  have e : mM_pol a G = upd (upd (fold9 (fun i M => upd M (iM (113 + i)) 0) 10 0 (upd G (iT 0) 0)) (iM 9) (-1)) (iM 7) a := rfl
  rw [e, tM_up, tM_up]
  refine ⟨fun i hi => ?_, fun j hj => ?_⟩
  · rw [pk_un (by omega), pk_un (by omega)]
    exact h.1 i hi
  · unfold upd
    split
    · rfl
    · split
      · rfl
      · show (fold9 (fun i M => upd M (iM (113 + i)) 0) 10 0 (upd G (iT 0) 0)) (iM j) = G (iM j)
        rw [h.2 (iM j) (fun i hi => by unfold iM; omega), pk_un (by unfold iM iT; omega)]
theorem sP_pol_G {a : Int32} (h : RS cn t nn o n 0 T G) : (∀ i, i < cn → sP_pol a G (iV 0 i 3) = 0) ∧ (∀ g, (∀ i, i < cn → g ≠ iV 0 i 3) → sP_pol a G g = upd (upd G (iS 0 6) a) (iS 0 7) (-1) g) := by
  have e : sP_pol a G = fold9 (fun i M => upd M (iV 0 i 3) 0) cn 0 (upd (upd G (iS 0 6) a) (iS 0 7) (-1)) := by
    unfold sP_pol sS_forget
    rw [show cN 0 (upd G (iS 0 6) a) = cn by unfold cN; rw [pk_un (by decide)]; exact h.ecN]
  rw [e]
  exact fold_zero (p := fun i => iV 0 i 3) _ cn
theorem rs_pol {a : Int32} {T' : fM} (h : RS cn t nn o n 0 T G) (ha : rng a 0 4) (hz : ∀ i, i < 10 → T' (113 + i) = 0) (hT : ∀ j, j < 113 ∨ 123 ≤ j → T' j = upd (upd T 9 (-1)) 7 a j) : RS cn t nn o (n + 1) 0 T' (sP_pol a G) := by
  have h10 := h.c10
  have h40 := h.hn.2.2
  have h1000 := h.ho.2.2
  obtain ⟨g1, g2⟩ := sP_pol_G (a := a) h
  have gne : ∀ g, 22 ≤ g → (∀ i, i < cn → g ≠ iV 0 i 3) → sP_pol a G g = G g := fun g h1 h2 => by rw [g2 g h2, pk_un (by unfold iS; omega), pk_un (by unfold iS; omega)]
  have tne : ∀ j, 13 ≤ j → (j < 113 ∨ 123 ≤ j) → T' j = T j := fun j h1 h2 => by rw [hT j h2, pk_un (by omega), pk_un (by omega)]
  refine ⟨(ra_pol h.1 (rng04 ha)).congr (fun c hc => g2 _ (fun i hi => by unfold iS iV; omega)) (fun j hj => hT j (by omega)) (Nat.le_refl _), ⟨fun i hi => ?_, fun i h1 h2 => ?_⟩, ?_, ?_⟩
  · obtain ⟨k1, k2, k3, k4, k5, k6, k7, k8, k9, k10, k11, k12⟩ := (h.V hi).congr (fun _ _ => rfl) (fun _ _ => rfl) (Nat.le_refl t) (Nat.le_succ n)
    have key : RV t (n + 1) (upd (cV 0 i G) 3 0) (upd (rV T i) 10 0) := ⟨k1, k2, k3, k4, k5, k6, k7, k8, k9, k10, rfl, k12⟩
    refine key.congr (fun c hc => ?_) (fun c hc => ?_) (Nat.le_refl _) (Nat.le_refl _)
    · by_cases h3 : c = 3
      · subst h3; rw [pk_us]; exact g1 i hi
      · rw [pk_un h3]; exact gne _ (by unfold iV; omega) (fun i' hi' => by unfold iV; omega)
    · by_cases h3 : c = 10
      · subst h3; rw [pk_us]; show T' (13 + 10 * 10 + i) = 0; rw [show 13 + 10 * 10 + i = 113 + i by omega]; exact hz i (by omega)
      · rw [pk_un h3]; exact tne _ (by omega) (by omega)
  · obtain ⟨z1, z2, z3, z4, z5, z6, z7, z8⟩ := h.2.1.2 i h1 h2
    exact ⟨by rw [tne _ (by omega) (by omega)]; exact z1, by rw [tne _ (by omega) (by omega)]; exact z2, by rw [tne _ (by omega) (by omega)]; exact z3, by rw [tne _ (by omega) (by omega)]; exact z4, by rw [tne _ (by omega) (by omega)]; exact z5, hz i h2, by rw [tne _ (by omega) (by omega)]; exact z7, by rw [tne _ (by omega) (by omega)]; exact z8⟩
  · exact h.2.2.1.congr (fun j hj => ⟨gne _ (by unfold iA; omega) (fun i hi => by unfold iA iV; omega), gne _ (by unfold iA; omega) (fun i hi => by unfold iA iV; omega), gne _ (by unfold iA; omega) (fun i hi => by unfold iA iV; omega)⟩) (fun j hj => ⟨tne _ (by omega) (by omega), tne _ (by omega) (by omega), tne _ (by omega) (by omega)⟩) (Nat.le_refl _) (Nat.le_refl _)
  · exact h.2.2.2.congr h1000 (fun j hj => ⟨gne _ (by unfold iA; omega) (fun i hi => by unfold iA iV; omega), gne _ (by unfold iA; omega) (fun i hi => by unfold iA iV; omega), gne _ (by unfold iA; omega) (fun i hi => by unfold iA iV; omega)⟩) (fun j hj _ => tne _ (by omega) (by omega)) (Nat.le_refl _)
/-- breakers cool down, one by one -/
def coolF (p q r : Nat → Nat) (τ κ : Nat) (i : Nat) (M : fM) : fM := if M (p i) = 1 then (if M τ - M (q i) < M κ then M else upd (upd M (p i) 2) (r i) (-1)) else M
def hotB (p q : Nat → Nat) (τ κ : Nat) (B : fM) (i : Nat) : Prop := B (p i) = 1 ∧ ¬ B τ - B (q i) < B κ
theorem fold_cool {p q r : Nat → Nat} {τ κ : Nat} (hpp : ∀ i j, i ≠ j → p i ≠ p j) (hrr : ∀ i j, i ≠ j → r i ≠ r j) (hpr : ∀ i j, i < 10 → j < 10 → p i ≠ r j) (hqp : ∀ i j, i < 10 → j < 10 → q i ≠ p j ∧ q i ≠ r j) (hτ : ∀ j, j < 10 → τ ≠ p j ∧ τ ≠ r j) (hκ : ∀ j, j < 10 → κ ≠ p j ∧ κ ≠ r j) (B : fM) (k : Nat) (hk : k ≤ 10) :
    (∀ i, i < k → (hotB p q τ κ B i → fold9 (coolF p q r τ κ) k 0 B (p i) = 2 ∧ fold9 (coolF p q r τ κ) k 0 B (r i) = -1) ∧ (¬ hotB p q τ κ B i → fold9 (coolF p q r τ κ) k 0 B (p i) = B (p i) ∧ fold9 (coolF p q r τ κ) k 0 B (r i) = B (r i))) ∧ (∀ g, (∀ i, i < k → g ≠ p i ∧ g ≠ r i) → fold9 (coolF p q r τ κ) k 0 B g = B g) := by
  have h := fold9_inv (F := coolF p q r τ κ) (fun k M => (∀ i, i < k → (hotB p q τ κ B i → M (p i) = 2 ∧ M (r i) = -1) ∧ (¬ hotB p q τ κ B i → M (p i) = B (p i) ∧ M (r i) = B (r i))) ∧ (∀ g, (∀ i, i < k → g ≠ p i ∧ g ≠ r i) → M g = B g)) k 0 B ⟨fun i hi => absurd hi (Nat.not_lt_zero _), fun g _ => rfl⟩ (fun j M _ hj ⟨h1, h2⟩ => ?_)
  · rw [Nat.zero_add] at h; exact h
  · rw [Nat.zero_add] at hj
    have ep : M (p j) = B (p j) := h2 _ (fun i hi => ⟨hpp _ _ (by omega), hpr _ _ (by omega) (by omega)⟩)
    have er : M (r j) = B (r j) := h2 _ (fun i hi => ⟨fun e => hpr i j (by omega) (by omega) e.symm, hrr _ _ (by omega)⟩)
    have eq : M (q j) = B (q j) := h2 _ (fun i hi => hqp _ _ (by omega) (by omega))
    have et : M τ = B τ := h2 _ (fun i hi => hτ i (by omega))
    have ek : M κ = B κ := h2 _ (fun i hi => hκ i (by omega))
    by_cases hh : hotB p q τ κ B j
    · have e : coolF p q r τ κ j M = upd (upd M (p j) 2) (r j) (-1) := by unfold coolF; rw [if_pos (by rw [ep]; exact hh.1), if_neg (by rw [et, eq, ek]; exact hh.2)]
      rw [e]
      refine ⟨fun i hi => ?_, fun g hg => ?_⟩
      · by_cases hij : i = j
        · subst hij
          refine ⟨fun _ => ⟨by rw [pk_un (hpr _ _ (by omega) (by omega)), pk_us], pk_us⟩, fun hn => absurd hh hn⟩
        · rw [pk_un (hpr _ _ (by omega) (by omega)), pk_un (hpp _ _ hij), pk_un (hrr _ _ hij), pk_un (fun e => hpr _ _ (by omega) (by omega) e.symm)]
          exact h1 i (by omega)
      · have := hg j (Nat.lt_succ_self _)
        rw [pk_un this.2, pk_un this.1]
        exact h2 g (fun i hi => hg i (by omega))
    · have e : coolF p q r τ κ j M = M := by
        unfold coolF
        by_cases h9 : M (p j) = 1
        · rw [if_pos h9]
          by_cases h8 : M τ - M (q j) < M κ
          · rw [if_pos h8]
          · exact absurd ⟨by rw [← ep]; exact h9, by rw [← et, ← eq, ← ek]; exact h8⟩ hh
        · rw [if_neg h9]
      rw [e]
      refine ⟨fun i hi => ?_, fun g hg => h2 g (fun i hi => hg i (by omega))⟩
      by_cases hij : i = j
      · subst hij
        exact ⟨fun hn => absurd hn hh, fun _ => ⟨ep, er⟩⟩
      · exact h1 i (by omega)
theorem mM_tkI_eq : mM_tkI = coolF (fun i => iM (83 + i)) (fun i => iM (93 + i)) (fun i => iM (103 + i)) (iM 1) (iM 5) := rfl
theorem sS_coolF_eq : sS_coolF 0 = coolF (fun i => iB 0 i 0) (fun i => iB 0 i 1) (fun i => iB 0 i 2) (iS 0 9) (iS 0 4) := rfl
/-- the reference's ticks, one by one -/
def hotT (t s : Nat) (T : fM) (i : Nat) : Prop := 1 ≤ s ∧ T (83 + i) = 1 ∧ ¬ nI (t + s) - T (93 + i) < T 5
theorem mM_tick_T {k : Nat} {Q : fM} (hc : cn ≤ 10) (hT1 : Q (iM 1) = nI t) (ho : ∀ i, i < cn → Q (iM (83 + i)) = 1 → ∃ q, Q (iM (93 + i)) = nI q ∧ q ≤ t) (htk : t + k < 2 ^ 30) :
    mM_tick k cn Q (iM 1) = nI (t + k) ∧ (∀ i, i < cn → (hotT t k (tM Q) i → mM_tick k cn Q (iM (83 + i)) = 2 ∧ mM_tick k cn Q (iM (103 + i)) = -1) ∧ (¬ hotT t k (tM Q) i → mM_tick k cn Q (iM (83 + i)) = Q (iM (83 + i)) ∧ mM_tick k cn Q (iM (103 + i)) = Q (iM (103 + i)))) ∧ (∀ g, g ≠ iT 0 → g ≠ iM 1 → (∀ i, i < cn → g ≠ iM (83 + i) ∧ g ≠ iM (103 + i)) → mM_tick k cn Q g = Q g) := by
  have hT0 : ∀ j, upd Q (iT 0) 0 (iM j) = Q (iM j) := fun j => pk_un (by unfold iM iT; omega)
  have h := fold9_inv (F := mM_tkO cn) (fun s M => s ≤ k → (M (iM 1) = nI (t + s) ∧ (∀ i, i < cn → (hotT t s (tM Q) i → M (iM (83 + i)) = 2 ∧ M (iM (103 + i)) = -1) ∧ (¬ hotT t s (tM Q) i → M (iM (83 + i)) = Q (iM (83 + i)) ∧ M (iM (103 + i)) = Q (iM (103 + i)))) ∧ (∀ g, g ≠ iT 0 → g ≠ iM 1 → (∀ i, i < cn → g ≠ iM (83 + i) ∧ g ≠ iM (103 + i)) → M g = Q g))) k 0 (upd Q (iT 0) 0) (fun _ => ⟨by rw [hT0]; exact hT1, fun i hi => ⟨fun hh => absurd hh.1 (by decide), fun _ => ⟨hT0 _, hT0 _⟩⟩, fun g h1 _ _ => pk_un h1⟩) (fun s M _ hs hM hs1 => ?_)
  · rw [Nat.zero_add] at h
    exact h (Nat.le_refl k)
  · obtain ⟨m1, m2, m3⟩ := hM (by omega)
    unfold mM_tkO
    rw [mM_tkI_eq]
    have hB : ∀ j, j ≠ 1 → upd M (iM 1) (M (iM 1) + 1) (iM j) = M (iM j) := fun j hj => pk_un (by unfold iM; omega)
    have hB1 : upd M (iM 1) (M (iM 1) + 1) (iM 1) = nI (t + (s + 1)) := by rw [pk_us, m1, nI_1, Nat.add_assoc]
    obtain ⟨f1, f2⟩ := fold_cool (p := fun i => iM (83 + i)) (q := fun i => iM (93 + i)) (r := fun i => iM (103 + i)) (τ := iM 1) (κ := iM 5) (fun i j h => by unfold iM; omega) (fun i j h => by unfold iM; omega) (fun i j h1 h2 => by unfold iM; omega) (fun i j h1 h2 => ⟨by unfold iM; omega, by unfold iM; omega⟩) (fun j h => ⟨by unfold iM; omega, by unfold iM; omega⟩) (fun j h => ⟨by unfold iM; omega, by unfold iM; omega⟩) (upd M (iM 1) (M (iM 1) + 1)) cn hc
    have e5 : M (iM 5) = Q (iM 5) := m3 _ (by unfold iM iT; omega) (by unfold iM; omega) (fun i hi => ⟨by unfold iM; omega, by unfold iM; omega⟩)
    have e93 : ∀ i, i < cn → M (iM (93 + i)) = Q (iM (93 + i)) := fun i hi => m3 _ (by unfold iM iT; omega) (by unfold iM; omega) (fun i' hi' => ⟨by unfold iM; omega, by unfold iM; omega⟩)
    refine ⟨?_, fun i hi => ?_, fun g h1 h2 h3 => ?_⟩
    · rw [f2 (iM 1) (fun i hi => ⟨by unfold iM; omega, by unfold iM; omega⟩)]
      exact hB1
    · obtain ⟨a1, a2⟩ := f1 i hi
      obtain ⟨b1, b2⟩ := m2 i hi
      have hot_iff : hotB (fun i => iM (83 + i)) (fun i => iM (93 + i)) (iM 1) (iM 5) (upd M (iM 1) (M (iM 1) + 1)) i ↔ (M (iM (83 + i)) = 1 ∧ ¬ nI (t + (s + 1)) - Q (iM (93 + i)) < Q (iM 5)) := by
        unfold hotB
        rw [hB1, hB (83 + i) (by omega), hB (93 + i) (by omega), hB 5 (by omega), e5, e93 i hi]
      by_cases hs0 : hotT t s (tM Q) i
      · have hnow : hotT t (s + 1) (tM Q) i := by
          obtain ⟨_, c2, c3⟩ := hs0
          refine ⟨by omega, c2, fun hlt => c3 ?_⟩
          obtain ⟨q, hq, hqt⟩ := ho i hi c2
          have hq' : tM Q (93 + i) = nI q := hq
          rw [hq', pk_sub (by omega)] at hlt ⊢
          exact Int32.lt_of_le_of_lt (nI_le (by omega) (by omega)) hlt
        refine ⟨fun _ => ?_, fun hn => absurd hnow hn⟩
        have hcold : ¬ hotB (fun i => iM (83 + i)) (fun i => iM (93 + i)) (iM 1) (iM 5) (upd M (iM 1) (M (iM 1) + 1)) i := fun hh => by
          have := (hot_iff.mp hh).1
          rw [(b1 hs0).1] at this
          exact absurd this (by decide)
        obtain ⟨d1, d2⟩ := a2 hcold
        exact ⟨d1.trans ((hB _ (by omega)).trans (b1 hs0).1), d2.trans ((hB _ (by omega)).trans (b1 hs0).2)⟩
      · have hx := b2 hs0
        by_cases hnow : hotT t (s + 1) (tM Q) i
        · refine ⟨fun _ => a1 (hot_iff.mpr ⟨by rw [hx.1]; exact hnow.2.1, hnow.2.2⟩), fun hn => absurd hnow hn⟩
        · refine ⟨fun hh => absurd hh hnow, fun _ => ?_⟩
          have hcold : ¬ hotB (fun i => iM (83 + i)) (fun i => iM (93 + i)) (iM 1) (iM 5) (upd M (iM 1) (M (iM 1) + 1)) i := fun hh => by
            have := hot_iff.mp hh
            rw [hx.1] at this
            exact hnow ⟨by omega, this.1, this.2⟩
          obtain ⟨d1, d2⟩ := a2 hcold
          exact ⟨d1.trans ((hB _ (by omega)).trans hx.1), d2.trans ((hB _ (by omega)).trans hx.2)⟩
    · rw [f2 g (fun i hi => h3 i hi), pk_un h2]
      exact m3 g h1 h2 h3
theorem rs_tick {k : Nat} {T' : fM} (h : RS cn t nn o n 0 T G) (hk1 : 1 ≤ k) (hk : k ≤ 200) (hb : t + k < 2 ^ 30) (h1 : T' 1 = nI (t + k)) (h2 : ∀ i, i < cn → (hotT t k T i → T' (83 + i) = 2 ∧ T' (103 + i) = -1) ∧ (¬ hotT t k T i → T' (83 + i) = T (83 + i) ∧ T' (103 + i) = T (103 + i))) (h3 : ∀ j, j ≠ 1 → (∀ i, i < cn → j ≠ 83 + i ∧ j ≠ 103 + i) → T' j = T j) :
    RS cn (t + k) nn o (n + 1) 0 T' (sP_tick (nI k) G) ∧ (∀ g, g ≠ iS 0 9 → (∀ i, i < cn → g ≠ iB 0 i 0 ∧ g ≠ iB 0 i 2) → sP_tick (nI k) G g = G g) ∧ sP_tick (nI k) G (iS 0 9) = nI (t + k) := by
  have h10 := h.c10
  have h40 := h.hn.2.2
  have h1000 := h.ho.2.2
  have e : sP_tick (nI k) G = fold9 (coolF (fun i => iB 0 i 0) (fun i => iB 0 i 1) (fun i => iB 0 i 2) (iS 0 9) (iS 0 4)) cn 0 (upd G (iS 0 9) (nI (t + k))) := by
    unfold sP_tick sS_cool
    rw [sS_coolF_eq, show cN 0 (upd G (iS 0 9) (G (iS 0 9) + nI k)) = cn by unfold cN; rw [pk_un (by decide)]; exact h.ecN, h.ht, nI_add]
  obtain ⟨f1, f2⟩ := fold_cool (p := fun i => iB 0 i 0) (q := fun i => iB 0 i 1) (r := fun i => iB 0 i 2) (τ := iS 0 9) (κ := iS 0 4) (fun i j h => by unfold iB; omega) (fun i j h => by unfold iB; omega) (fun i j h1 h2 => by unfold iB; omega) (fun i j h1 h2 => ⟨by unfold iB; omega, by unfold iB; omega⟩) (fun j h => ⟨by unfold iS iB; omega, by unfold iS iB; omega⟩) (fun j h => ⟨by unfold iS iB; omega, by unfold iS iB; omega⟩) (upd G (iS 0 9) (nI (t + k))) cn h10
  rw [← e] at f1 f2
  have hne : ∀ g, g ≠ iS 0 9 → (∀ i, i < cn → g ≠ iB 0 i 0 ∧ g ≠ iB 0 i 2) → sP_tick (nI k) G g = G g := fun g ha hb => by rw [f2 g hb, pk_un ha]
  have h9 : sP_tick (nI k) G (iS 0 9) = nI (t + k) := by rw [f2 _ (fun i hi => ⟨by unfold iS iB; omega, by unfold iS iB; omega⟩), pk_us]
  refine ⟨⟨(ra_tick h.1 hk).congr (fun c hc => f2 _ (fun i hi => ⟨by unfold iS iB; omega, by unfold iS iB; omega⟩)) (fun j hj => ?_) (Nat.le_refl _), ⟨fun i hi => ?_, fun i ha hb => ?_⟩, ?_, ?_⟩, hne, h9⟩
  · by_cases hj1 : j = 1
    · subst hj1; rw [pk_us]; exact h1
    · rw [pk_un hj1]; exact h3 j hj1 (fun i hi => ⟨by omega, by omega⟩)
  · have hv := (h.V hi).congr (fun _ _ => rfl) (fun _ _ => rfl) (show t ≤ t + k by omega) (Nat.le_succ n)
    obtain ⟨k1, k2, k3, k4, k5, k6, k7, k8, k9, k10, k11⟩ := hv
    have e83 : T (83 + i) = G (iB 0 i 0) := by rw [iB_iV, show 83 + i = 13 + 10 * 7 + i by omega]; exact k8.1
    have hiff : hotT t k T i ↔ hotB (fun i => iB 0 i 0) (fun i => iB 0 i 1) (iS 0 9) (iS 0 4) (upd G (iS 0 9) (nI (t + k))) i := by
      unfold hotT hotB
      dsimp only
      rw [pk_us, pk_un (by unfold iS iB; omega), pk_un (by unfold iS iB; omega), pk_un (by decide), e83, h.T5]
      constructor
      · rintro ⟨_, c2, c3⟩
        refine ⟨c2, ?_⟩
        rw [← show T (93 + i) = G (iB 0 i 1) by rw [iB_iV, show 93 + i = 13 + 10 * 8 + i by omega]; exact (k9 (by rw [iB_iV] at c2; exact c2)).1]
        exact c3
      · rintro ⟨c2, c3⟩
        refine ⟨hk1, c2, ?_⟩
        rw [show T (93 + i) = G (iB 0 i 1) by rw [iB_iV, show 93 + i = 13 + 10 * 8 + i by omega]; exact (k9 (by rw [iB_iV] at c2; exact c2)).1]
        exact c3
    have cne : ∀ c, c < 15 → c ≠ 10 → c ≠ 12 → sP_tick (nI k) G (iV 0 i c) = G (iV 0 i c) := fun c hc ha hb => hne _ (by unfold iS iV; omega) (fun i' hi' => ⟨by unfold iB iV; omega, by unfold iB iV; omega⟩)
    have tne : ∀ c, c < 13 → c ≠ 7 → c ≠ 9 → T' (13 + 10 * c + i) = T (13 + 10 * c + i) := fun c hc ha hb => h3 _ (by omega) (fun i' hi' => ⟨by omega, by omega⟩)
    by_cases hh : hotT t k T i
    · have key : RV (t + k) (n + 1) (upd (upd (cV 0 i G) 10 2) 12 (-1)) (upd (upd (rV T i) 7 2) 9 (-1)) := ⟨k1, k2, k3, k4, k5, k6, k7, ⟨rfl, Or.inr (Or.inr rfl)⟩, (fun h9 => absurd (show (2 : Int32) = 1 from h9) (by decide)), (fun _ => rfl), k11⟩
      refine key.congr (fun c hc => ?_) (fun c hc => ?_) (Nat.le_refl _) (Nat.le_refl _)
      · by_cases h12 : c = 12
        · subst h12; rw [pk_us]; show sP_tick (nI k) G (iV 0 i (10 + 2)) = _; rw [← iB_iV]; exact ((f1 i hi).1 (hiff.mp hh)).2
        · rw [pk_un h12]
          by_cases h10' : c = 10
          · subst h10'; rw [pk_us]; show sP_tick (nI k) G (iV 0 i (10 + 0)) = _; rw [← iB_iV]; exact ((f1 i hi).1 (hiff.mp hh)).1
          · rw [pk_un h10']; exact cne c hc h10' h12
      · by_cases h12 : c = 9
        · subst h12; rw [pk_us]; show T' (13 + 10 * 9 + i) = _; rw [show 13 + 10 * 9 + i = 103 + i by omega]; exact ((h2 i hi).1 hh).2
        · rw [pk_un h12]
          by_cases h10' : c = 7
          · subst h10'; rw [pk_us]; show T' (13 + 10 * 7 + i) = _; rw [show 13 + 10 * 7 + i = 83 + i by omega]; exact ((h2 i hi).1 hh).1
          · rw [pk_un h10']; exact tne c hc h10' h12
    · have key : RV (t + k) (n + 1) (cV 0 i G) (rV T i) := ⟨k1, k2, k3, k4, k5, k6, k7, k8, k9, k10, k11⟩
      have hcold : ¬ hotB (fun i => iB 0 i 0) (fun i => iB 0 i 1) (iS 0 9) (iS 0 4) (upd G (iS 0 9) (nI (t + k))) i := fun h9 => hh (hiff.mpr h9)
      refine key.congr (fun c hc => ?_) (fun c hc => ?_) (Nat.le_refl _) (Nat.le_refl _)
      · by_cases h12 : c = 12
        · subst h12; show sP_tick (nI k) G (iV 0 i (10 + 2)) = G (iV 0 i (10 + 2)); rw [← iB_iV]; exact ((f1 i hi).2 hcold).2.trans (pk_un (by unfold iS iB; omega))
        · by_cases h10' : c = 10
          · subst h10'; show sP_tick (nI k) G (iV 0 i (10 + 0)) = G (iV 0 i (10 + 0)); rw [← iB_iV]; exact ((f1 i hi).2 hcold).1.trans (pk_un (by unfold iS iB; omega))
          · exact cne c hc h10' h12
      · by_cases h12 : c = 9
        · subst h12; show T' (13 + 10 * 9 + i) = T (13 + 10 * 9 + i); rw [show 13 + 10 * 9 + i = 103 + i by omega]; exact ((h2 i hi).2 hh).2
        · by_cases h10' : c = 7
          · subst h10'; show T' (13 + 10 * 7 + i) = T (13 + 10 * 7 + i); rw [show 13 + 10 * 7 + i = 83 + i by omega]; exact ((h2 i hi).2 hh).1
          · exact tne c hc h10' h12
  · have := h.2.1.2 i ha hb
    unfold zRow at this ⊢
    rw [h3 _ (by omega) (fun i' hi' => ⟨by omega, by omega⟩), h3 _ (by omega) (fun i' hi' => ⟨by omega, by omega⟩), h3 _ (by omega) (fun i' hi' => ⟨by omega, by omega⟩), h3 _ (by omega) (fun i' hi' => ⟨by omega, by omega⟩), h3 _ (by omega) (fun i' hi' => ⟨by omega, by omega⟩), h3 _ (by omega) (fun i' hi' => ⟨by omega, by omega⟩), h3 _ (by omega) (fun i' hi' => ⟨by omega, by omega⟩), h3 _ (by omega) (fun i' hi' => ⟨by omega, by omega⟩)]
    exact this
  · exact h.2.2.1.congr (fun j hj => ⟨hne _ (by unfold iA iS; omega) (fun i hi => ⟨by unfold iA iB; omega, by unfold iA iB; omega⟩), hne _ (by unfold iA iS; omega) (fun i hi => ⟨by unfold iA iB; omega, by unfold iA iB; omega⟩), hne _ (by unfold iA iS; omega) (fun i hi => ⟨by unfold iA iB; omega, by unfold iA iB; omega⟩)⟩) (fun j hj => ⟨h3 _ (by omega) (fun i hi => ⟨by omega, by omega⟩), h3 _ (by omega) (fun i hi => ⟨by omega, by omega⟩), h3 _ (by omega) (fun i hi => ⟨by omega, by omega⟩)⟩) (by omega) (Nat.le_refl _)
  · exact h.2.2.2.congr h1000 (fun j hj => ⟨hne _ (by unfold iA iS; omega) (fun i hi => ⟨by unfold iA iB; omega, by unfold iA iB; omega⟩), hne _ (by unfold iA iS; omega) (fun i hi => ⟨by unfold iA iB; omega, by unfold iA iB; omega⟩), hne _ (by unfold iA iS; omega) (fun i hi => ⟨by unfold iA iB; omega, by unfold iA iB; omega⟩)⟩) (fun j hj _ => h3 _ (by omega) (fun i hi => ⟨by omega, by omega⟩)) (Nat.le_refl _)
end OPS3
