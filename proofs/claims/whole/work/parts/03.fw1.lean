/-! OWN LAYER 1: one flat memory of ints behind all cells of the system; names of cells, their contents, who owns a place -/
section FW1
abbrev fM : Type := Nat → Int32
abbrev fX : Type := Int64 × UInt64
def f_tys (K : Nat → ClassId) : List (ClassId × FieldType) := [(K 0, .int), (K 1, .boolean), (K 2, .object "LoadBalancer$Server"), (K 3, .object "LoadBalancer$State"), (K 4, .long), (K 5, .double)]
/-- a row of ints (or truth values) whose places begin at b -/
abbrev f_ia (K : Nat → ClassId) (t N : Nat) (G : fM) (b : Nat) : va_E := .inl (K t, N, .inl (fun j => G (b + j)))
abbrev f_ra (K : Nat → ClassId) (t N : Nat) (f : Nat → Option Nat) : va_E := .inl (K t, N, .inr (.inr (.inr (.inr f))))
/-- fields of a breaker whose places begin at b; of a server; of the state; of connections; of clients -/
abbrev f_fB (G : fM) (b : Nat) : List Value := [.int (G b), .int (G (b + 1)), .int (G (b + 2)), .int (G (b + 3)), .int (G (b + 4))]
abbrev f_fV (G : fM) (r b : Nat) : List Value := [.ref r, .int (G b), .int (G (b + 1)), .int (G (b + 2)), .int (G (b + 3)), .int (G (b + 4)), .int (G (b + 5)), .int (G (b + 6)), .int (G (b + 7)), .int (G (b + 8))]
abbrev f_fS (G : fM) (r0 r1 r2 b : Nat) : List Value := [.ref r0, .ref r1, .ref r2, .int (G b), .int (G (b + 1)), .int (G (b + 2)), .int (G (b + 3)), .int (G (b + 4)), .int (G (b + 5)), .int (G (b + 6)), .int (G (b + 7)), .int (G (b + 8)), .int (G (b + 9)), .int (G (b + 10))]
abbrev f_f3 (G : fM) (r0 r1 r2 b : Nat) : List Value := [.ref r0, .ref r1, .ref r2, .int (G b)]
/-- cell k of the state number s -/
def f_st (K : Nat → ClassId) (ad : Nat → Nat) (G : fM) (s k : Nat) : va_E :=
  if k = 0 then .inr (4, f_fS G (ad (100 * s + 1)) (ad (100 * s + 2)) (ad (100 * s + 6)) (10000 * s))
  else if k = 1 then f_ra K 2 10 (fun j => some (ad (100 * s + 10 + j)))
  else if k = 2 then .inr (2, f_f3 G (ad (100 * s + 3)) (ad (100 * s + 4)) (ad (100 * s + 5)) (10000 * s + 20))
  else if k = 3 then f_ia K 0 1000 G (10000 * s + 1000)
  else if k = 4 then f_ia K 0 1000 G (10000 * s + 2000)
  else if k = 5 then f_ia K 1 1000 G (10000 * s + 3000)
  else if k = 6 then .inr (1, f_f3 G (ad (100 * s + 7)) (ad (100 * s + 8)) (ad (100 * s + 9)) (10000 * s + 21))
  else if k = 7 then f_ia K 0 40 G (10000 * s + 400)
  else if k = 8 then f_ia K 0 40 G (10000 * s + 450)
  else if k = 9 then f_ia K 0 40 G (10000 * s + 500)
  else if k < 20 then .inr (3, f_fV G (ad (100 * s + 10 + k)) (10000 * s + 100 + 20 * (k - 10)))
  else if k < 30 then .inr (0, f_fB G (10000 * s + 110 + 20 * (k - 20)))
  else .inr (0, [])
/-- the cell of the name n -/
def f_E (K : Nat → ClassId) (NL : List Nat) (ad : Nat → Nat) (G : fM) (x : fX) (n : Nat) : va_E :=
  if n < 300 then f_st K ad G (n / 100) (n % 100)
  else if n = 300 then .inr (5, [.ref (ad 0), .ref (ad 301)])
  else if n = 301 then f_ra K 3 2 (fun j => if 100 * (j + 1) ∈ NL then some (ad (100 * (j + 1))) else none)
  else if n = 310 then .inr (6, [.ref (ad 311), .ref (ad 312), .ref (ad 313), .int (G 40000), .ref (ad 314), .int (G 40001)])
  else if n = 311 then f_ia K 0 3263 G 41000
  else if n = 312 then f_ia K 0 6526 G 50000
  else if n = 313 then f_ia K 1 2 G 40030
  else if n = 314 then f_ia K 0 10 G 40010
  else if n = 320 then .inl (K 4, 1, .inr (.inl (fun _ => x.1)))
  else .inl (K 5, 1, .inr (.inr (.inr (.inl (fun _ => x.2)))))
/-- which cell owns the place g -/
def f_own (g : Nat) : Nat :=
  if g < 30000 then
    (if g % 10000 < 20 then 100 * (g / 10000)
     else if g % 10000 = 20 then 100 * (g / 10000) + 2
     else if g % 10000 = 21 then 100 * (g / 10000) + 6
     else if g % 10000 < 400 then (if (g % 10000 - 100) % 20 < 10 then 100 * (g / 10000) + 10 + (g % 10000 - 100) / 20 else 100 * (g / 10000) + 20 + (g % 10000 - 100) / 20)
     else if g % 10000 < 450 then 100 * (g / 10000) + 7
     else if g % 10000 < 500 then 100 * (g / 10000) + 8
     else if g % 10000 < 1000 then 100 * (g / 10000) + 9
     else if g % 10000 < 2000 then 100 * (g / 10000) + 3
     else if g % 10000 < 3000 then 100 * (g / 10000) + 4
     else 100 * (g / 10000) + 5)
  else if g < 40010 then 310 else if g < 40030 then 314 else if g < 41000 then 313 else if g < 50000 then 311 else 312
abbrev f_W (K : Nat → ClassId) (NL : List Nat) (ad : Nat → Nat) (G : fM) (x : fX) : va_W := NL.map (fun n => (ad n, f_E K NL ad G x n))
theorem f_at_ne {g i n : Nat} {G : fM} {v : Int32} (h : f_own g ≠ n) (hi : f_own i = n) : upd G g v i = G i := by
  have : i ≠ g := fun e => h (by rw [← e]; exact hi)
  simp [upd, this]
theorem f_ia_cell {c : ClassId} {N : Nat} {f g : Nat → Int32} (h : ∀ j, j < N → f j = g j) : vp_cell c (N, .inl f) = vp_cell c (N, .inl g) := by
  rw [vp_cell_i, vp_cell_i]
  unfold arrV
  congr 1
  apply Array.ext
  · simp
  · intro i h1 h2
    simp only [Array.getElem_ofFn]
    rw [h i (by simpa using h1)]
end FW1
section FW1b
/-- what the places of the state s are owned by -/
theorem f_own_S (s c : Nat) (hs : s < 3) (hc : c < 20) : f_own (10000 * s + c) = 100 * s := by
  unfold f_own; repeat (first | omega | split)
theorem f_own_20 (s : Nat) (hs : s < 3) : f_own (10000 * s + 20) = 100 * s + 2 := by
  unfold f_own; repeat (first | omega | split)
theorem f_own_21 (s : Nat) (hs : s < 3) : f_own (10000 * s + 21) = 100 * s + 6 := by
  unfold f_own; repeat (first | omega | split)
theorem f_own_V (s i c : Nat) (hs : s < 3) (hi : i < 10) (hc : c < 10) : f_own (10000 * s + 100 + 20 * i + c) = 100 * s + 10 + i := by
  unfold f_own; repeat (first | omega | split)
theorem f_own_B (s i c : Nat) (hs : s < 3) (hi : i < 10) (hc : c < 10) : f_own (10000 * s + 110 + 20 * i + c) = 100 * s + 20 + i := by
  unfold f_own; repeat (first | omega | split)
theorem f_own_7 (s j : Nat) (hs : s < 3) (hj : j < 40) : f_own (10000 * s + 400 + j) = 100 * s + 7 := by
  unfold f_own; repeat (first | omega | split)
theorem f_own_8 (s j : Nat) (hs : s < 3) (hj : j < 40) : f_own (10000 * s + 450 + j) = 100 * s + 8 := by
  unfold f_own; repeat (first | omega | split)
theorem f_own_9 (s j : Nat) (hs : s < 3) (hj : j < 40) : f_own (10000 * s + 500 + j) = 100 * s + 9 := by
  unfold f_own; repeat (first | omega | split)
theorem f_own_3 (s j : Nat) (hs : s < 3) (hj : j < 1000) : f_own (10000 * s + 1000 + j) = 100 * s + 3 := by
  unfold f_own; repeat (first | omega | split)
theorem f_own_4 (s j : Nat) (hs : s < 3) (hj : j < 1000) : f_own (10000 * s + 2000 + j) = 100 * s + 4 := by
  unfold f_own; repeat (first | omega | split)
theorem f_own_5 (s j : Nat) (hs : s < 3) (hj : j < 1000) : f_own (10000 * s + 3000 + j) = 100 * s + 5 := by
  unfold f_own; repeat (first | omega | split)
theorem f_own_at (j : Nat) (hj : j < 3263) : f_own (41000 + j) = 311 := by
  unfold f_own; repeat (first | omega | split)
theorem f_own_sl (j : Nat) (hj : j < 6526) : f_own (50000 + j) = 312 := by
  unfold f_own; repeat (first | omega | split)
theorem f_own_sv (j : Nat) (hj : j < 2) : f_own (40030 + j) = 313 := by
  unfold f_own; repeat (first | omega | split)
theorem f_own_rw (j : Nat) (hj : j < 10) : f_own (40010 + j) = 314 := by
  unfold f_own; repeat (first | omega | split)
theorem f_own_m (c : Nat) (hc : c < 2) : f_own (40000 + c) = 310 := by
  unfold f_own; repeat (first | omega | split)
theorem f_keep_ia {D : va_G} {cl : List vw_C} {K : Nat → ClassId} {t N b a : Nat} {G G9 : fM} {H : Heap} (hne : ∀ j, j < N → G9 (b + j) = G (b + j)) (h : va_at D cl (a, f_ia K t N G b) H) : va_at D cl (a, f_ia K t N G9 b) H := by
  show H[a]? = some (vp_cell _ _)
  rw [f_ia_cell (f := fun j => G9 (b + j)) (g := fun j => G (b + j)) hne]
  exact h
theorem f_st0 (K : Nat → ClassId) (ad : Nat → Nat) (G : fM) (s : Nat) : f_st K ad G s 0 = .inr (4, f_fS G (ad (100 * s + 1)) (ad (100 * s + 2)) (ad (100 * s + 6)) (10000 * s)) := rfl
theorem f_st1 (K : Nat → ClassId) (ad : Nat → Nat) (G : fM) (s : Nat) : f_st K ad G s 1 = f_ra K 2 10 (fun j => some (ad (100 * s + 10 + j))) := rfl
theorem f_st2 (K : Nat → ClassId) (ad : Nat → Nat) (G : fM) (s : Nat) : f_st K ad G s 2 = .inr (2, f_f3 G (ad (100 * s + 3)) (ad (100 * s + 4)) (ad (100 * s + 5)) (10000 * s + 20)) := rfl
theorem f_st3 (K : Nat → ClassId) (ad : Nat → Nat) (G : fM) (s : Nat) : f_st K ad G s 3 = f_ia K 0 1000 G (10000 * s + 1000) := rfl
theorem f_st4 (K : Nat → ClassId) (ad : Nat → Nat) (G : fM) (s : Nat) : f_st K ad G s 4 = f_ia K 0 1000 G (10000 * s + 2000) := rfl
theorem f_st5 (K : Nat → ClassId) (ad : Nat → Nat) (G : fM) (s : Nat) : f_st K ad G s 5 = f_ia K 1 1000 G (10000 * s + 3000) := rfl
theorem f_st6 (K : Nat → ClassId) (ad : Nat → Nat) (G : fM) (s : Nat) : f_st K ad G s 6 = .inr (1, f_f3 G (ad (100 * s + 7)) (ad (100 * s + 8)) (ad (100 * s + 9)) (10000 * s + 21)) := rfl
theorem f_st7 (K : Nat → ClassId) (ad : Nat → Nat) (G : fM) (s : Nat) : f_st K ad G s 7 = f_ia K 0 40 G (10000 * s + 400) := rfl
theorem f_st8 (K : Nat → ClassId) (ad : Nat → Nat) (G : fM) (s : Nat) : f_st K ad G s 8 = f_ia K 0 40 G (10000 * s + 450) := rfl
theorem f_st9 (K : Nat → ClassId) (ad : Nat → Nat) (G : fM) (s : Nat) : f_st K ad G s 9 = f_ia K 0 40 G (10000 * s + 500) := rfl
theorem f_stge (K : Nat → ClassId) (ad : Nat → Nat) (G : fM) (s k : Nat) (hk : 10 ≤ k) : f_st K ad G s k = (if k < 20 then .inr (3, f_fV G (ad (100 * s + 10 + k)) (10000 * s + 100 + 20 * (k - 10))) else if k < 30 then .inr (0, f_fB G (10000 * s + 110 + 20 * (k - 20))) else .inr (0, [])) := by
  delta f_st
  rw [if_neg (show ¬ k = 0 by omega), if_neg (show ¬ k = 1 by omega), if_neg (show ¬ k = 2 by omega), if_neg (show ¬ k = 3 by omega), if_neg (show ¬ k = 4 by omega), if_neg (show ¬ k = 5 by omega), if_neg (show ¬ k = 6 by omega), if_neg (show ¬ k = 7 by omega), if_neg (show ¬ k = 8 by omega), if_neg (show ¬ k = 9 by omega)]
theorem f_stV (K : Nat → ClassId) (ad : Nat → Nat) (G : fM) (s i : Nat) (hi : i < 10) : f_st K ad G s (10 + i) = .inr (3, f_fV G (ad (100 * s + 20 + i)) (10000 * s + 100 + 20 * i)) := by
  rw [f_stge K ad G s (10 + i) (by omega), if_pos (by omega), show 10 + i - 10 = i by omega, show 100 * s + 10 + (10 + i) = 100 * s + 20 + i by omega]
theorem f_stB (K : Nat → ClassId) (ad : Nat → Nat) (G : fM) (s i : Nat) (hi : i < 10) : f_st K ad G s (20 + i) = .inr (0, f_fB G (10000 * s + 110 + 20 * i)) := by
  rw [f_stge K ad G s (20 + i) (by omega), if_neg (by omega), if_pos (by omega), show 20 + i - 20 = i by omega]
theorem f_stZ (K : Nat → ClassId) (ad : Nat → Nat) (G : fM) (s k : Nat) (hk : 30 ≤ k) : f_st K ad G s k = .inr (0, []) := by
  rw [f_stge K ad G s k (by omega), if_neg (by omega), if_neg (by omega)]
theorem f_keep_st {D : va_G} {cl : List vw_C} {K : Nat → ClassId} {ad : Nat → Nat} {G : fM} {s k a : Nat} {G9 : fM} {H : Heap} (hs : s < 3) (hg : ∀ i, f_own i = 100 * s + k → G9 i = G i) (h : va_at D cl (a, f_st K ad G s k) H) : va_at D cl (a, f_st K ad G9 s k) H := by
  rcases (show k = 0 ∨ k = 1 ∨ k = 2 ∨ k = 3 ∨ k = 4 ∨ k = 5 ∨ k = 6 ∨ k = 7 ∨ k = 8 ∨ k = 9 ∨ (∃ i, i < 10 ∧ k = 10 + i) ∨ (∃ i, i < 10 ∧ k = 20 + i) ∨ 30 ≤ k by
    by_cases h1 : k < 10
    · omega
    · by_cases h2 : k < 20
      · exact Or.inr (Or.inr (Or.inr (Or.inr (Or.inr (Or.inr (Or.inr (Or.inr (Or.inr (Or.inr (Or.inl ⟨k - 10, by omega, by omega⟩))))))))))
      · by_cases h3 : k < 30
        · exact Or.inr (Or.inr (Or.inr (Or.inr (Or.inr (Or.inr (Or.inr (Or.inr (Or.inr (Or.inr (Or.inr (Or.inl ⟨k - 20, by omega, by omega⟩)))))))))))
        · omega) with rfl | rfl | rfl | rfl | rfl | rfl | rfl | rfl | rfl | rfl | ⟨i, hi, rfl⟩ | ⟨i, hi, rfl⟩ | hk
  · have e : ∀ c, c < 20 → G9 (10000 * s + c) = G (10000 * s + c) := fun c hc => hg _ (f_own_S s c hs hc)
    have e0 : G9 (10000 * s) = G (10000 * s) := e 0 (by decide)
    rw [f_st0] at h ⊢
    have e9 : f_fS G9 (ad (100 * s + 1)) (ad (100 * s + 2)) (ad (100 * s + 6)) (10000 * s) = f_fS G (ad (100 * s + 1)) (ad (100 * s + 2)) (ad (100 * s + 6)) (10000 * s) := by
      unfold f_fS
      rw [e0, e 1 (by decide), e 2 (by decide), e 3 (by decide), e 4 (by decide), e 5 (by decide), e 6 (by decide), e 7 (by decide), e 8 (by decide), e 9 (by decide), e 10 (by decide)]
    rw [e9]
    exact h
  · exact h
  · have e0 : G9 (10000 * s + 20) = G (10000 * s + 20) := hg _ (f_own_20 s hs)
    rw [f_st2] at h ⊢
    unfold f_f3 at h ⊢
    rw [e0]
    exact h
  · exact f_keep_ia (fun j hj => hg _ (f_own_3 s j hs hj)) h
  · exact f_keep_ia (fun j hj => hg _ (f_own_4 s j hs hj)) h
  · exact f_keep_ia (fun j hj => hg _ (f_own_5 s j hs hj)) h
  · have e0 : G9 (10000 * s + 21) = G (10000 * s + 21) := hg _ (f_own_21 s hs)
    rw [f_st6] at h ⊢
    unfold f_f3 at h ⊢
    rw [e0]
    exact h
  · exact f_keep_ia (fun j hj => hg _ (f_own_7 s j hs hj)) h
  · exact f_keep_ia (fun j hj => hg _ (f_own_8 s j hs hj)) h
  · exact f_keep_ia (fun j hj => hg _ (f_own_9 s j hs hj)) h
  · have e : ∀ c, c < 10 → G9 (10000 * s + 100 + 20 * i + c) = G (10000 * s + 100 + 20 * i + c) := fun c hc => hg _ (by rw [f_own_V s i c hs hi hc, Nat.add_assoc])
    have e0 : G9 (10000 * s + 100 + 20 * i) = G (10000 * s + 100 + 20 * i) := e 0 (by decide)
    rw [f_stV _ _ _ _ _ hi] at h ⊢
    unfold f_fV at h ⊢
    rw [e0, e 1 (by decide), e 2 (by decide), e 3 (by decide), e 4 (by decide), e 5 (by decide), e 6 (by decide), e 7 (by decide), e 8 (by decide)]
    exact h
  · have e : ∀ c, c < 10 → G9 (10000 * s + 110 + 20 * i + c) = G (10000 * s + 110 + 20 * i + c) := fun c hc => hg _ (by rw [f_own_B s i c hs hi hc, Nat.add_assoc])
    have e0 : G9 (10000 * s + 110 + 20 * i) = G (10000 * s + 110 + 20 * i) := e 0 (by decide)
    rw [f_stB _ _ _ _ _ hi] at h ⊢
    unfold f_fB at h ⊢
    rw [e0, e 1 (by decide), e 2 (by decide), e 3 (by decide), e 4 (by decide)]
    exact h
  · rw [f_stZ _ _ _ _ _ hk] at h ⊢
    exact h
theorem f_E300 (K : Nat → ClassId) (NL : List Nat) (ad : Nat → Nat) (G : fM) (x : fX) : f_E K NL ad G x 300 = .inr (5, [.ref (ad 0), .ref (ad 301)]) := rfl
theorem f_E301 (K : Nat → ClassId) (NL : List Nat) (ad : Nat → Nat) (G : fM) (x : fX) : f_E K NL ad G x 301 = f_ra K 3 2 (fun j => if 100 * (j + 1) ∈ NL then some (ad (100 * (j + 1))) else none) := rfl
theorem f_E310 (K : Nat → ClassId) (NL : List Nat) (ad : Nat → Nat) (G : fM) (x : fX) : f_E K NL ad G x 310 = .inr (6, [.ref (ad 311), .ref (ad 312), .ref (ad 313), .int (G 40000), .ref (ad 314), .int (G 40001)]) := rfl
theorem f_E311 (K : Nat → ClassId) (NL : List Nat) (ad : Nat → Nat) (G : fM) (x : fX) : f_E K NL ad G x 311 = f_ia K 0 3263 G 41000 := rfl
theorem f_E312 (K : Nat → ClassId) (NL : List Nat) (ad : Nat → Nat) (G : fM) (x : fX) : f_E K NL ad G x 312 = f_ia K 0 6526 G 50000 := rfl
theorem f_E313 (K : Nat → ClassId) (NL : List Nat) (ad : Nat → Nat) (G : fM) (x : fX) : f_E K NL ad G x 313 = f_ia K 1 2 G 40030 := rfl
theorem f_E314 (K : Nat → ClassId) (NL : List Nat) (ad : Nat → Nat) (G : fM) (x : fX) : f_E K NL ad G x 314 = f_ia K 0 10 G 40010 := rfl
theorem f_E320 (K : Nat → ClassId) (NL : List Nat) (ad : Nat → Nat) (G : fM) (x : fX) : f_E K NL ad G x 320 = .inl (K 4, 1, .inr (.inl (fun _ => x.1))) := rfl
theorem f_E321 (K : Nat → ClassId) (NL : List Nat) (ad : Nat → Nat) (G : fM) (x : fX) : f_E K NL ad G x 321 = .inl (K 5, 1, .inr (.inr (.inr (.inl (fun _ => x.2))))) := rfl
theorem f_Est (K : Nat → ClassId) (NL : List Nat) (ad : Nat → Nat) (G : fM) (x : fX) (n : Nat) (hn : n < 300) : f_E K NL ad G x n = f_st K ad G (n / 100) (n % 100) := by
  delta f_E
  rw [if_pos hn]
theorem f_Egt (K : Nat → ClassId) (NL : List Nat) (ad : Nat → Nat) (G : fM) (x : fX) (n : Nat) (hn : ¬ n < 300) (h0 : n ≠ 300) (h1 : n ≠ 301) (h2 : n ≠ 310) (h3 : n ≠ 311) (h4 : n ≠ 312) (h5 : n ≠ 313) (h6 : n ≠ 314) : f_E K NL ad G x n = (if n = 320 then .inl (K 4, 1, .inr (.inl (fun _ => x.1))) else .inl (K 5, 1, .inr (.inr (.inr (.inl (fun _ => x.2)))))) := by
  delta f_E
  rw [if_neg hn, if_neg h0, if_neg h1, if_neg h2, if_neg h3, if_neg h4, if_neg h5, if_neg h6]
theorem f_keepM {D : va_G} {cl : List vw_C} {K : Nat → ClassId} {NL : List Nat} {ad : Nat → Nat} {G : fM} {x : fX} {n : Nat} {G9 : fM} {H : Heap} (hg : ∀ i, f_own i = n → G9 i = G i) (h : va_at D cl (ad n, f_E K NL ad G x n) H) : va_at D cl (ad n, f_E K NL ad G9 x n) H := by
  by_cases hn : n < 300
  · rw [f_Est _ _ _ _ _ _ hn] at h ⊢
    exact f_keep_st (by omega) (fun i hi => hg i (by omega)) h
  by_cases h0 : n = 300
  · subst h0; exact h
  by_cases h1 : n = 301
  · subst h1; exact h
  by_cases h2 : n = 310
  · subst h2
    rw [f_E310] at h ⊢
    rw [hg 40000 (f_own_m 0 (by decide)), hg 40001 (f_own_m 1 (by decide))]
    exact h
  by_cases h3 : n = 311
  · subst h3; exact f_keep_ia (fun j hj => hg _ (f_own_at j hj)) h
  by_cases h4 : n = 312
  · subst h4; exact f_keep_ia (fun j hj => hg _ (f_own_sl j hj)) h
  by_cases h5 : n = 313
  · subst h5; exact f_keep_ia (fun j hj => hg _ (f_own_sv j hj)) h
  by_cases h6 : n = 314
  · subst h6; exact f_keep_ia (fun j hj => hg _ (f_own_rw j hj)) h
  rw [f_Egt _ _ _ _ _ _ hn h0 h1 h2 h3 h4 h5 h6] at h ⊢
  exact h
theorem f_keep {D : va_G} {cl : List vw_C} {K : Nat → ClassId} {NL : List Nat} {ad : Nat → Nat} {G : fM} {x : fX} {n g : Nat} {v : Int32} {H : Heap} (hg : f_own g ≠ n) (h : va_at D cl (ad n, f_E K NL ad G x n) H) : va_at D cl (ad n, f_E K NL ad (upd G g v) x n) H := f_keepM (fun _ hi => f_at_ne hg hi) h
/-- the places in the list of cells -/
theorem f_W_at {K : Nat → ClassId} {NL : List Nat} {ad : Nat → Nat} {G : fM} {x : fX} {q n : Nat} (h : NL[q]? = some n) : (f_W K NL ad G x)[q]? = some (ad n, f_E K NL ad G x n) := by
  rw [List.getElem?_map, h]; rfl
theorem f_W_of {K : Nat → ClassId} {NL : List Nat} {ad : Nat → Nat} {G : fM} {x : fX} {q : Nat} {z : Nat × va_E} (h : (f_W K NL ad G x)[q]? = some z) : ∃ n, NL[q]? = some n ∧ z = (ad n, f_E K NL ad G x n) := by
  rw [List.getElem?_map] at h
  cases hq : NL[q]? with
  | none => rw [hq] at h; cases h
  | some n => rw [hq] at h; exact ⟨n, rfl, (Option.some.inj h).symm⟩
/-- apart, whatever they hold -/
def f_D (A : Nat → Prop) (NL : List Nat) (ad : Nat → Nat) : Prop := va_D A (NL.map (fun n => (ad n, (Sum.inr (0, []) : va_E))))
theorem f_D.to {A : Nat → Prop} {K : Nat → ClassId} {NL : List Nat} {ad : Nat → Nat} {G : fM} {x : fX} (h : f_D A NL ad) : va_D A (f_W K NL ad G x) := by
  have key : ∀ (q : Nat) (z : Nat × va_E), (f_W K NL ad G x)[q]? = some z → (NL.map (fun n => (ad n, (Sum.inr (0, []) : va_E))))[q]? = some (z.1, Sum.inr (0, [])) := by
    intro q z hz
    obtain ⟨n, h1, h2⟩ := f_W_of hz
    rw [List.getElem?_map, h1, h2]; rfl
  exact ⟨fun i j p q hi hj e => h.1 i j _ _ (key i p hi) (key j q hj) e, fun k q hk => h.2 k (q.1, Sum.inr (0, [])) (key k q hk)⟩
theorem f_D.A {A : Nat → Prop} {NL : List Nat} {ad : Nat → Nat} (h : f_D A NL ad) {n : Nat} (hn : n ∈ NL) : A (ad n) := by
  obtain ⟨q, hq⟩ := List.getElem?_of_mem hn
  exact h.2 q (ad n, Sum.inr (0, [])) (by rw [List.getElem?_map, hq]; rfl)
theorem f_P_set {D : va_G} {cl : List vw_C} {A : Nat → Prop} {K : Nat → ClassId} {NL : List Nat} {ad : Nat → Nat} {G : fM} {x : fX} {q n g : Nat} {v : Int32} {e : va_E} {H : Heap} (hD : f_D A NL ad) (hq : NL[q]? = some n) (hg : f_own g = n) (he : f_E K NL ad (upd G g v) x n = e) (h : va_P D cl ((f_W K NL ad G x).set q (ad n, e)) H) : va_P D cl (f_W K NL ad (upd G g v) x) H := by
  have hl : q < (f_W K NL ad G x).length := by
    rw [List.length_map]; exact (List.getElem?_eq_some_iff.mp hq).1
  intro k z hz
  obtain ⟨n', h1, h2⟩ := f_W_of hz
  subst h2
  by_cases hk : k = q
  · subst hk
    cases Option.some.inj (h1.symm.trans hq)
    have := h k (ad n, e) (by rw [List.getElem?_set_self hl])
    rw [← he] at this
    exact this
  · have := h k (ad n', f_E K NL ad G x n') (by rw [List.getElem?_set_ne (Ne.symm hk)]; exact f_W_at h1)
    refine f_keep (fun e9 => hk ?_) this
    have hnn : n' = n := by rw [← e9, hg]
    rw [hnn] at h1
    exact hD.1 k q (ad n, Sum.inr (0, [])) (ad n, Sum.inr (0, [])) (by rw [List.getElem?_map, h1]; rfl) (by rw [List.getElem?_map, hq]; rfl) rfl
theorem f_P_setM {D : va_G} {cl : List vw_C} {A : Nat → Prop} {K : Nat → ClassId} {NL : List Nat} {ad : Nat → Nat} {G : fM} {x : fX} {q n : Nat} {G9 : fM} {e : va_E} {H : Heap} (hD : f_D A NL ad) (hq : NL[q]? = some n) (hg : ∀ i, f_own i ≠ n → G9 i = G i) (he : f_E K NL ad G9 x n = e) (h : va_P D cl ((f_W K NL ad G x).set q (ad n, e)) H) : va_P D cl (f_W K NL ad G9 x) H := by
  have hl : q < (f_W K NL ad G x).length := by
    rw [List.length_map]; exact (List.getElem?_eq_some_iff.mp hq).1
  intro k z hz
  obtain ⟨n', h1, h2⟩ := f_W_of hz
  subst h2
  by_cases hk : k = q
  · subst hk
    cases Option.some.inj (h1.symm.trans hq)
    have := h k (ad n, e) (by rw [List.getElem?_set_self hl])
    rw [← he] at this
    exact this
  · have := h k (ad n', f_E K NL ad G x n') (by rw [List.getElem?_set_ne (Ne.symm hk)]; exact f_W_at h1)
    refine f_keepM (fun i hi => hg i (fun e9 => hk ?_)) this
    have hnn : n' = n := by rw [← hi, e9]
    rw [hnn] at h1
    exact hD.1 k q (ad n, Sum.inr (0, [])) (ad n, Sum.inr (0, [])) (by rw [List.getElem?_map, h1]; rfl) (by rw [List.getElem?_map, hq]; rfl) rfl
/-- the values beside the memory -/
theorem f_P_x {D : va_G} {cl : List vw_C} {A : Nat → Prop} {K : Nat → ClassId} {NL : List Nat} {ad : Nat → Nat} {G : fM} {x x1 : fX} {q n : Nat} {e : va_E} {H : Heap} (hD : f_D A NL ad) (hq : NL[q]? = some n) (hn : ∀ n', n' ≠ n → f_E K NL ad G x1 n' = f_E K NL ad G x n') (he : f_E K NL ad G x1 n = e) (h : va_P D cl ((f_W K NL ad G x).set q (ad n, e)) H) : va_P D cl (f_W K NL ad G x1) H := by
  have hl : q < (f_W K NL ad G x).length := by
    rw [List.length_map]; exact (List.getElem?_eq_some_iff.mp hq).1
  intro k z hz
  obtain ⟨n', h1, h2⟩ := f_W_of hz
  subst h2
  by_cases hk : k = q
  · subst hk
    cases Option.some.inj (h1.symm.trans hq)
    have := h k (ad n, e) (by rw [List.getElem?_set_self hl])
    rw [← he] at this
    exact this
  · have := h k (ad n', f_E K NL ad G x n') (by rw [List.getElem?_set_ne (Ne.symm hk)]; exact f_W_at h1)
    rw [hn n' (fun e9 => hk ?_)]
    · exact this
    · rw [e9] at h1
      exact hD.1 k q (ad n, Sum.inr (0, [])) (ad n, Sum.inr (0, [])) (by rw [List.getElem?_map, h1]; rfl) (by rw [List.getElem?_map, hq]; rfl) rfl
end FW1b
