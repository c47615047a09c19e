/-! the relation between the class's memory and the reference's -/
section REL
/-- the values of one server: v the class's (the server's own at c, its breaker's at 10 + c), r the reference's -/
def RV (t n : Nat) (v r : Nat → Int32) : Prop :=
  (r 0 = v 0 ∧ ∃ w, v 0 = nI w ∧ 1 ≤ w ∧ w ≤ 10) ∧
  (r 1 = v 1 ∧ ∃ w, v 1 = nI w ∧ 1 ≤ w ∧ w ≤ 20) ∧
  (r 2 = v 2 ∧ -(n : Int) ≤ (v 2).toInt ∧ (v 2).toInt ≤ n) ∧
  ((v 4 = 1 ∧ r 3 = 0) ∨ (v 4 = 0 ∧ r 3 = 1)) ∧
  (r 4 = v 5 ∧ (v 5 = 0 ∨ v 5 = 1)) ∧
  r 5 = v 6 ∧
  ((v 7 = 0 ∧ r 6 = -1) ∨ (v 7 = 1 ∧ r 6 = v 8 ∧ ∃ q, v 8 = nI q ∧ q ≤ t)) ∧
  (r 7 = v 10 ∧ (v 10 = 0 ∨ v 10 = 1 ∨ v 10 = 2)) ∧
  (v 10 = 1 → r 8 = v 11 ∧ ∃ q, v 11 = nI q ∧ q ≤ t) ∧
  (v 10 = 2 → r 9 = v 12) ∧
  r 10 = v 3 ∧
  (r 11 = v 14 ∧ ∃ b, v 14 = nI b ∧ b < 256) ∧
  r 12 = v 13
theorem RV.congr {t n t' n' : Nat} {v r v' r' : Nat → Int32} (h : RV t n v r) (hv : ∀ c, c < 15 → v' c = v c) (hr : ∀ c, c < 13 → r' c = r c) (ht : t ≤ t') (hn : n ≤ n') : RV t' n' v' r' := by
  unfold RV at h ⊢
  rw [hv 0 (by decide), hv 1 (by decide), hv 2 (by decide), hv 3 (by decide), hv 4 (by decide), hv 5 (by decide), hv 6 (by decide), hv 7 (by decide), hv 8 (by decide), hv 10 (by decide), hv 11 (by decide), hv 12 (by decide), hv 13 (by decide), hv 14 (by decide), hr 0 (by decide), hr 1 (by decide), hr 2 (by decide), hr 3 (by decide), hr 4 (by decide), hr 5 (by decide), hr 6 (by decide), hr 7 (by decide), hr 8 (by decide), hr 9 (by decide), hr 10 (by decide), hr 11 (by decide), hr 12 (by decide)]
  obtain ⟨h1, h2, h3, h4, h5, h6, h7, h8, h9, h10, h11⟩ := h
  refine ⟨h1, h2, ⟨h3.1, by omega, by omega⟩, h4, h5, h6, ?_, h8, ?_, h10, h11⟩
  · rcases h7 with h | ⟨a, b, q, h, h'⟩
    · exact Or.inl h
    · exact Or.inr ⟨a, b, q, h, by omega⟩
  · intro hq
    obtain ⟨a, q, h, h'⟩ := h9 hq
    exact ⟨a, q, h, by omega⟩
def cV (z i : Nat) (G : fM) : Nat → Int32 := fun c => G (iV z i c)
def rV (T : fM) (i : Nat) : Nat → Int32 := fun c => T (13 + 10 * c + i)
def zRow (T : fM) (i : Nat) : Prop := T (33 + i) = 0 ∧ T (43 + i) = 0 ∧ T (53 + i) = 0 ∧ T (63 + i) = 0 ∧ T (83 + i) = 0 ∧ T (113 + i) = 0 ∧ T (123 + i) = 0 ∧ T (133 + i) = 0
def RA (cn t nn o n z : Nat) (T G : fM) : Prop :=
  (G (iS z 0) = nI cn ∧ cn ≤ 10 ∧ T 0 = nI cn) ∧ (G (iS z 9) = nI t ∧ t ≤ 200 * n ∧ T 1 = nI t) ∧ (T 2 = G (iS z 1) ∧ 1 ≤ G (iS z 1)) ∧ (T 3 = G (iS z 2) ∧ 1 ≤ G (iS z 2)) ∧
  T 4 = G (iS z 3) ∧ T 5 = G (iS z 4) ∧ T 6 = G (iS z 5) ∧ (T 7 = G (iS z 6) ∧ ∃ q, q ≤ 4 ∧ G (iS z 6) = nI q) ∧ T 8 = G (iS z 8) ∧ (T 9 = G (iS z 7) ∧ ∃ k, G (iS z 7) + 1 = nI k ∧ k ≤ 10) ∧
  (T 10 = nI o ∧ G (iS z 20) = nI o ∧ o ≤ 1000) ∧ T 11 = G (iS z 10) ∧ (T 12 = nI nn ∧ G (iS z 21) = nI nn ∧ nn ≤ 40)
def RB (cn t n z : Nat) (T G : fM) : Prop := (∀ i, i < cn → RV t n (cV z i G) (rV T i)) ∧ (∀ i, cn ≤ i → i < 10 → zRow T i)
def RC (cn t nn z : Nat) (T G : fM) : Prop := ∀ j, j < nn → T (143 + j) = G (iA z 400 j) ∧ (T (183 + j) = G (iA z 500 j) ∧ ∃ a, G (iA z 500 j) = nI a ∧ a ≤ t) ∧ (T (223 + j) = G (iA z 450 j) ∧ ∃ q, q < cn ∧ G (iA z 450 j) = nI q)
def RD (cn o z : Nat) (T G : fM) : Prop := (∀ j, j < o → (T (263 + j) = G (iA z 1000 j) ∧ ∃ q, q < cn ∧ G (iA z 1000 j) = nI q) ∧ T (1263 + j) = G (iA z 2000 j) ∧ ((G (iA z 3000 j) = 1 ∧ T (2263 + j) = 0) ∨ (G (iA z 3000 j) = 0 ∧ T (2263 + j) = 1))) ∧ (∀ j, o ≤ j → j < 1000 → T (2263 + j) = 0)
def RS (cn t nn o n z : Nat) (T G : fM) : Prop := RA cn t nn o n z T G ∧ RB cn t n z T G ∧ RC cn t nn z T G ∧ RD cn o z T G
theorem RA.congr {cn t nn o n n' z z' : Nat} {T G T' G' : fM} (h : RA cn t nn o n z T G) (hG : ∀ c, c < 22 → G' (iS z' c) = G (iS z c)) (hT : ∀ j, j < 13 → T' j = T j) (hn : n ≤ n') : RA cn t nn o n' z' T' G' := by
  unfold RA at h ⊢
  rw [hG 0 (by decide), hG 1 (by decide), hG 2 (by decide), hG 3 (by decide), hG 4 (by decide), hG 5 (by decide), hG 6 (by decide), hG 7 (by decide), hG 8 (by decide), hG 9 (by decide), hG 10 (by decide), hG 20 (by decide), hG 21 (by decide), hT 0 (by decide), hT 1 (by decide), hT 2 (by decide), hT 3 (by decide), hT 4 (by decide), hT 5 (by decide), hT 6 (by decide), hT 7 (by decide), hT 8 (by decide), hT 9 (by decide), hT 10 (by decide), hT 11 (by decide), hT 12 (by decide)]
  exact ⟨h.1, ⟨h.2.1.1, by omega, h.2.1.2.2⟩, h.2.2⟩
theorem RB.congr {cn t t' n n' z z' : Nat} {T G T' G' : fM} (hc : cn ≤ 10) (h : RB cn t n z T G) (hG : ∀ i c, i < cn → c < 15 → G' (iV z' i c) = G (iV z i c)) (hT : ∀ j, 13 ≤ j → j < 143 → T' j = T j) (ht : t ≤ t') (hn : n ≤ n') : RB cn t' n' z' T' G' := by
  refine ⟨fun i hi => (h.1 i hi).congr (fun c hc => hG i c hi hc) (fun c hc => hT _ (by omega) (by omega)) ht hn, fun i h1 h2 => ?_⟩
  have := h.2 i h1 h2
  unfold zRow at this ⊢
  rw [hT _ (by omega) (by omega), hT _ (by omega) (by omega), hT _ (by omega) (by omega), hT _ (by omega) (by omega), hT _ (by omega) (by omega), hT _ (by omega) (by omega), hT _ (by omega) (by omega), hT _ (by omega) (by omega)]
  exact this
/-- one server is changed -/
theorem RB.one {cn t t' n n' z i0 : Nat} {T G T' G' : fM} (hc : cn ≤ 10) (h : RB cn t n z T G) (hi0 : i0 < cn) (hG : ∀ i c, i < 10 → i ≠ i0 → c < 15 → G' (iV z i c) = G (iV z i c)) (hT : ∀ j, 13 ≤ j → j < 143 → (j - 13) % 10 ≠ i0 → T' j = T j) (h0 : RV t' n' (cV z i0 G') (rV T' i0)) (ht : t ≤ t') (hn : n ≤ n') : RB cn t' n' z T' G' := by
  refine ⟨fun i hi => ?_, fun i h1 h2 => ?_⟩
  · by_cases he : i = i0
    · subst he; exact h0
    · exact (h.1 i hi).congr (fun c hc => hG i c (by omega) he hc) (fun c hc => hT _ (by omega) (by omega) (by omega)) ht hn
  · have := h.2 i h1 h2
    unfold zRow at this ⊢
    rw [hT _ (by omega) (by omega) (by omega), hT _ (by omega) (by omega) (by omega), hT _ (by omega) (by omega) (by omega), hT _ (by omega) (by omega) (by omega), hT _ (by omega) (by omega) (by omega), hT _ (by omega) (by omega) (by omega), hT _ (by omega) (by omega) (by omega), hT _ (by omega) (by omega) (by omega)]
    exact this
theorem RC.congr {cn cn' t t' nn z z' : Nat} {T G T' G' : fM} (h : RC cn t nn z T G) (hG : ∀ j, j < nn → G' (iA z' 400 j) = G (iA z 400 j) ∧ G' (iA z' 500 j) = G (iA z 500 j) ∧ G' (iA z' 450 j) = G (iA z 450 j)) (hT : ∀ j, j < nn → T' (143 + j) = T (143 + j) ∧ T' (183 + j) = T (183 + j) ∧ T' (223 + j) = T (223 + j)) (ht : t ≤ t') (hc : cn ≤ cn') : RC cn' t' nn z' T' G' := by
  intro j hj
  obtain ⟨h1, ⟨h2, a, h3, h4⟩, h5, q, h6, h7⟩ := h j hj
  rw [(hG j hj).1, (hG j hj).2.1, (hG j hj).2.2, (hT j hj).1, (hT j hj).2.1, (hT j hj).2.2]
  exact ⟨h1, ⟨h2, a, h3, by omega⟩, h5, q, by omega, h7⟩
theorem RD.congr {cn cn' o z z' : Nat} {T G T' G' : fM} (ho : o ≤ 1000) (h : RD cn o z T G) (hG : ∀ j, j < o → G' (iA z' 1000 j) = G (iA z 1000 j) ∧ G' (iA z' 2000 j) = G (iA z 2000 j) ∧ G' (iA z' 3000 j) = G (iA z 3000 j)) (hT : ∀ j, 263 ≤ j → j < 3263 → T' j = T j) (hc : cn ≤ cn') : RD cn' o z' T' G' := by
  refine ⟨fun j hj => ?_, fun j h1 h2 => by rw [hT _ (by omega) (by omega)]; exact h.2 j h1 h2⟩
  obtain ⟨⟨h1, q, h2, h3⟩, h4, h5⟩ := h.1 j hj
  rw [(hG j hj).1, (hG j hj).2.1, (hG j hj).2.2, hT _ (by omega) (by omega), hT _ (by omega) (by omega), hT _ (by omega) (by omega)]
  exact ⟨⟨h1, q, by omega, h3⟩, h4, h5⟩
theorem RS.congr {cn t nn o n n' z : Nat} {T G T' G' : fM} (h : RS cn t nn o n z T G) (hG : ∀ g, 10000 * z ≤ g → g < 10000 * (z + 1) → G' g = G g) (hT : ∀ j, j < 3263 → T' j = T j) (hn : n ≤ n') : RS cn t nn o n' z T' G' := by
  have h10 := h.1.1.2.1
  have ho : o ≤ 1000 := h.1.2.2.2.2.2.2.2.2.2.2.1.2.2
  have h40 : nn ≤ 40 := h.1.2.2.2.2.2.2.2.2.2.2.2.2.2.2
  exact ⟨h.1.congr (fun c hc => hG _ (by unfold iS; omega) (by unfold iS; omega)) (fun j hj => hT j (by omega)) hn,
    h.2.1.congr h10 (fun i c hi hc => hG _ (by unfold iV; omega) (by unfold iV; omega)) (fun j _ hj => hT j (by omega)) (Nat.le_refl _) hn,
    h.2.2.1.congr (fun j hj => ⟨hG _ (by unfold iA; omega) (by unfold iA; omega), hG _ (by unfold iA; omega) (by unfold iA; omega), hG _ (by unfold iA; omega) (by unfold iA; omega)⟩) (fun j hj => ⟨hT _ (by omega), hT _ (by omega), hT _ (by omega)⟩) (Nat.le_refl _) (Nat.le_refl _),
    h.2.2.2.congr ho (fun j hj => ⟨hG _ (by unfold iA; omega) (by unfold iA; omega), hG _ (by unfold iA; omega) (by unfold iA; omega), hG _ (by unfold iA; omega) (by unfold iA; omega)⟩) (fun j _ hj => hT j hj) (Nat.le_refl _)⟩
section Acc
variable {cn t nn o n z : Nat} {T G : fM}
theorem RS.c (h : RS cn t nn o n z T G) : G (iS z 0) = nI cn := h.1.1.1
theorem RS.c10 (h : RS cn t nn o n z T G) : cn ≤ 10 := h.1.1.2.1
theorem RS.T0 (h : RS cn t nn o n z T G) : T 0 = nI cn := h.1.1.2.2
theorem RS.ht (h : RS cn t nn o n z T G) : G (iS z 9) = nI t := h.1.2.1.1
theorem RS.tn (h : RS cn t nn o n z T G) : t ≤ 200 * n := h.1.2.1.2.1
theorem RS.T1 (h : RS cn t nn o n z T G) : T 1 = nI t := h.1.2.1.2.2
theorem RS.T2 (h : RS cn t nn o n z T G) : T 2 = G (iS z 1) ∧ 1 ≤ G (iS z 1) := h.1.2.2.1
theorem RS.T3 (h : RS cn t nn o n z T G) : T 3 = G (iS z 2) ∧ 1 ≤ G (iS z 2) := h.1.2.2.2.1
theorem RS.T4 (h : RS cn t nn o n z T G) : T 4 = G (iS z 3) := h.1.2.2.2.2.1
theorem RS.T5 (h : RS cn t nn o n z T G) : T 5 = G (iS z 4) := h.1.2.2.2.2.2.1
theorem RS.T6 (h : RS cn t nn o n z T G) : T 6 = G (iS z 5) := h.1.2.2.2.2.2.2.1
theorem RS.T7 (h : RS cn t nn o n z T G) : T 7 = G (iS z 6) ∧ ∃ q, q ≤ 4 ∧ G (iS z 6) = nI q := h.1.2.2.2.2.2.2.2.1
theorem RS.T8 (h : RS cn t nn o n z T G) : T 8 = G (iS z 8) := h.1.2.2.2.2.2.2.2.2.1
theorem RS.T9 (h : RS cn t nn o n z T G) : T 9 = G (iS z 7) ∧ ∃ k, G (iS z 7) + 1 = nI k ∧ k ≤ 10 := h.1.2.2.2.2.2.2.2.2.2.1
theorem RS.ho (h : RS cn t nn o n z T G) : T 10 = nI o ∧ G (iS z 20) = nI o ∧ o ≤ 1000 := h.1.2.2.2.2.2.2.2.2.2.2.1
theorem RS.T11 (h : RS cn t nn o n z T G) : T 11 = G (iS z 10) := h.1.2.2.2.2.2.2.2.2.2.2.2.1
theorem RS.hn (h : RS cn t nn o n z T G) : T 12 = nI nn ∧ G (iS z 21) = nI nn ∧ nn ≤ 40 := h.1.2.2.2.2.2.2.2.2.2.2.2.2
theorem RS.ecN (h : RS cn t nn o n z T G) : cN z G = cn := by unfold cN; rw [h.c, nI_clamp (by have := h.c10; omega)]
theorem RS.enN (h : RS cn t nn o n z T G) : nN z G = nn := by unfold nN; rw [h.hn.2.1, nI_clamp (by have := h.hn.2.2; omega)]
theorem RS.eoN (h : RS cn t nn o n z T G) : oN z G = o := by unfold oN; rw [h.ho.2.1, nI_clamp (by have := h.ho.2.2; omega)]
theorem RS.V (h : RS cn t nn o n z T G) {i : Nat} (hi : i < cn) : RV t n (cV z i G) (rV T i) := h.2.1.1 i hi
theorem RS.I (h : RS cn t nn o n z T G) : f_I z G := by
  have h10 := h.c10
  have h40 := h.hn.2.2
  have h1000 := h.ho.2.2
  refine ⟨⟨by rw [h.ecN]; exact h.c, by rw [h.ecN]; exact h10⟩, ⟨by rw [h.enN]; exact h.hn.2.1, by rw [h.enN]; exact h40⟩, ⟨by rw [h.eoN]; exact h.ho.2.1, by rw [h.eoN]; exact h1000⟩, fun i hi => ?_, ?_, fun j hj => ?_, fun j hj => ?_⟩
  · rw [h.ecN] at hi
    obtain ⟨_, w, e1, e2, e3⟩ := (h.V hi).1
    have e1' : G (iV z i 0) = nI w := e1
    unfold wN
    rw [e1', nI_clamp (by omega)]
    exact ⟨rfl, e2, e3⟩
  · obtain ⟨_, k, e1, e2⟩ := h.T9
    unfold kN
    rw [e1, nI_clamp (by omega)]
    exact ⟨rfl, e2⟩
  · rw [h.enN] at hj
    obtain ⟨_, _, _, q, e1, e2⟩ := h.2.2.1 j hj
    unfold svN
    rw [e2, nI_clamp (by omega), h.ecN]
    exact ⟨rfl, e1⟩
  · rw [h.eoN] at hj
    obtain ⟨⟨_, q, e1, e2⟩, _⟩ := h.2.2.2.1 j hj
    unfold coN
    rw [e2, nI_clamp (by omega), h.ecN]
    exact ⟨rfl, e1⟩
theorem RS.hb (h : RS cn t nn o n z T G) : ∀ i, i < cN z G → (G (iV z i 4) = 0 ∨ G (iV z i 4) = 1) ∧ (G (iV z i 5) = 0 ∨ G (iV z i 5) = 1) ∧ (G (iV z i 7) = 0 ∨ G (iV z i 7) = 1) := by
  intro i hi
  rw [h.ecN] at hi
  obtain ⟨_, _, _, h4, h5, _, h7, _⟩ := h.V hi
  refine ⟨?_, h5.2, ?_⟩
  · rcases h4 with h | h
    · exact Or.inr h.1
    · exact Or.inl h.1
  · rcases h7 with h | h
    · exact Or.inl h.1
    · exact Or.inr h.1
theorem RS.hl (h : RS cn t nn o n z T G) : ∀ j, j < oN z G → G (iA z 3000 j) = 0 ∨ G (iA z 3000 j) = 1 := by
  intro j hj
  rw [h.eoN] at hj
  rcases (h.2.2.2.1 j hj).2.2 with h | h
  · exact Or.inr h.1
  · exact Or.inl h.1
end Acc
/-- the reference's row of numbers -/
def tM (G : fM) : fM := fun j => G (iM j)
theorem tM_up {G : fM} {k : Nat} {v : Int32} : tM (upd G (iM k) v) = upd (tM G) k v := by
  funext j
  unfold tM upd
  by_cases h : j = k
  · subst h; rw [if_pos rfl, if_pos rfl]
  · rw [if_neg (by unfold iM; omega), if_neg h]
theorem tM_t {G : fM} {k : Nat} {v : Int32} (hk : k < 100) : tM (upd G (iT k) v) = tM G := by
  funext j
  unfold tM upd
  rw [if_neg (by unfold iM iT; omega)]
theorem tM_c {G : fM} {g : Nat} {v : Int32} (h : g < 41000) : tM (upd G g v) = tM G := by
  funext j
  unfold tM upd
  rw [if_neg (by unfold iM; omega)]
theorem tM_eq {G M : fM} (h : ∀ g, 40000 ≤ g → M g = G g) : tM M = tM G := by
  funext j
  exact h _ (by unfold iM; omega)
/-- what the law's loop keeps -/
def RelA (n : Nat) (NL : List Nat) (G : fM) : Prop :=
  (f_ES NL 0 ∧ 300 ∈ NL ∧ 301 ∈ NL ∧ 320 ∈ NL ∧ 321 ∈ NL ∧ f_EM NL ∧ f_OK NL ∧ (∀ k, k ∈ NL → k < 300 → k % 100 < 30)) ∧
  (∃ cn t nn o, RS cn t nn o n 0 (tM G) G) ∧
  ∀ τ, τ < 2 → (G (iZ τ) = 0 ∧ f_free NL τ) ∨ (¬ G (iZ τ) = 0 ∧ f_ES NL (τ + 1) ∧ ∃ cn t nn o, RS cn t nn o n (τ + 1) (fun j => G (iL (3263 * τ + j))) G)
/-- a call that leaves what is saved alone -/
theorem RelA.step {n : Nat} {NL : List Nat} {G G2 : fM} (h : RelA n NL G) (h0 : ∃ cn t nn o, RS cn t nn o (n + 1) 0 (tM G2) G2) (h1 : ∀ g, 10000 ≤ g → g < 30000 → G2 g = G g) (h2 : ∀ g, 50000 ≤ g → G2 g = G g) (h3 : ∀ τ, τ < 2 → G2 (iZ τ) = G (iZ τ)) : RelA (n + 1) NL G2 := by
  refine ⟨h.1, h0, fun τ hτ => ?_⟩
  rw [h3 τ hτ]
  rcases h.2.2 τ hτ with h4 | ⟨h4, h5, cn, t, nn, o, h6⟩
  · exact Or.inl h4
  · exact Or.inr ⟨h4, h5, cn, t, nn, o, h6.congr (fun g ha hb => h1 g (by omega) (by omega)) (fun j _ => h2 _ (by unfold iL; omega)) (Nat.le_succ n)⟩
theorem RelA.free {NL : List Nat} {τ : Nat} (h : f_free NL τ) : ¬ 100 * (τ + 1) ∈ NL := fun h1 => by
  have := h _ h1
  omega
end REL
