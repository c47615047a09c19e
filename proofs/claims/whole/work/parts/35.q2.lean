/-! the ring and the choices -/
section Q2
/-! an Int32 or Int64 as an unsigned number (begun from the rows of the kit's BITS text) -/
def u3 (x : Int32) : Nat := x.toUInt32.toNat
theorem u3_lt (x : Int32) : u3 x < 4294967296 := x.toUInt32.toNat_lt
theorem u3_sub (x y : Int32) : u3 (x - y) = (4294967296 - u3 y + u3 x) % 4294967296 := by
  show (x.toUInt32 - y.toUInt32).toNat = _
  exact UInt32.toNat_sub _ _
theorem nat_xor31 {a : Nat} (h : a < 4294967296) : a ^^^ 2 ^ 31 = (a + 2147483648) % 4294967296 := by
  have h1 : (a ^^^ 2 ^ 31) % 2 ^ 31 = a % 2 ^ 31 := by rw [Nat.xor_mod_two_pow, Nat.mod_self, Nat.xor_zero]
  have h2 : (a ^^^ 2 ^ 31) / 2 ^ 31 = (a / 2 ^ 31) ^^^ 1 := by rw [Nat.xor_div_two_pow, Nat.div_self (Nat.two_pow_pos 31)]
  have h3 : a / 2 ^ 31 = 0 ∨ a / 2 ^ 31 = 1 := by omega
  generalize a ^^^ 2 ^ 31 = t at h1 h2
  rcases h3 with h3 | h3
  · rw [h3] at h2
    have h2 : t / 2 ^ 31 = 1 := h2
    omega
  · rw [h3] at h2
    have h2 : t / 2 ^ 31 = 0 := h2
    omega
theorem u3_xor (x : Int32) : u3 (x ^^^ (-2147483648)) = (u3 x + 2147483648) % 4294967296 := by
  rw [← nat_xor31 (u3_lt x)]
  exact UInt32.toNat_xor _ _
theorem u3_int (x : Int32) : x.toInt = if 2 * u3 x < 4294967296 then (u3 x : Int) else (u3 x : Int) - 4294967296 := BitVec.toInt_eq_toNat_cond _
theorem u3_le (x y : Int32) : (x ^^^ (-2147483648)) ≤ (y ^^^ (-2147483648)) ↔ u3 x ≤ u3 y := by
  have hx := u3_lt x
  have hy := u3_lt y
  rw [Int32.le_iff_toInt_le, u3_int, u3_int, u3_xor, u3_xor]
  omega
theorem bel9_eq (a b : Int32) : bel9 a b = if u3 b ≤ u3 a then 0 else 1 := by
  unfold bel9
  by_cases h : u3 b ≤ u3 a
  · rw [if_pos h, if_pos ((u3_le b a).mpr h)]
  · rw [if_neg h, if_neg (fun h9 => h ((u3_le b a).mp h9))]
def u6 (x : Int64) : Nat := x.toUInt64.toNat
theorem u6_lt (x : Int64) : u6 x < 18446744073709551616 := x.toUInt64.toNat_lt
theorem u6_lo (x : Int64) : u6 (x &&& 4294967295) = u6 x % 4294967296 := by
  show (x.toUInt64 &&& Int64.toUInt64 4294967295).toNat = _
  rw [UInt64.toNat_and]
  exact Nat.and_two_pow_sub_one_eq_mod _ 32
theorem u6_sub (x y : Int64) : u6 (x - y) = (18446744073709551616 - u6 y + u6 x) % 18446744073709551616 := by
  show (x.toUInt64 - y.toUInt64).toNat = _
  exact UInt64.toNat_sub _ _
theorem u6_int (x : Int64) : x.toInt = if 2 * u6 x < 18446744073709551616 then (u6 x : Int) else (u6 x : Int) - 18446744073709551616 := BitVec.toInt_eq_toNat_cond _
theorem u6_of (x : Int32) : u6 x.toInt64 % 4294967296 = u3 x := by
  have h1 := u6_int x.toInt64
  have h2 := u3_int x
  have h3 := Int32.toInt_toInt64 x
  have h4 := u6_lt x.toInt64
  have h5 := u3_lt x
  omega
theorem u6_pl (v : Int32) : u6 (pl9 v) = u3 (mix9 v) := by
  unfold pl9
  rw [u6_lo, u6_of]
theorem u6_far (cl : Int32) (i k : Nat) : u6 (far9 cl i k) = u3 (mix9 (1000 * nI i + nI k) - mix9 cl) := by
  unfold far9
  rw [u6_lo, u6_sub, u6_pl, u6_pl, u3_sub]
  have h1 := u3_lt (mix9 (1000 * nI i + nI k))
  have h2 := u3_lt (mix9 cl)
  omega
theorem u6_le {a b : Int64} (ha : u6 a < 4294967296) (hb : u6 b < 4294967296) : a ≤ b ↔ u6 a ≤ u6 b := by
  rw [Int64.le_iff_toInt_le, u6_int, u6_int]
  omega
/-- the nearest point of one server -/
theorem ring_in {cl : Int32} {i : Nat} {b : Option Nat} {l : Int64} (hl : u6 l < 4294967296) : ∀ m, 1 ≤ m →
    (b = none → (fold9 (mM_bpI cl i) m 0 (b, l)).1 = some i ∧ u6 (fold9 (mM_bpI cl i) m 0 (b, l)).2 = u3 (fold9 (sV_rst (1000 * nI i) (mix9 cl)) (m - 1) 1 (mix9 (1000 * nI i) - mix9 cl))) ∧
    (b ≠ none → u6 l ≤ u3 (fold9 (sV_rst (1000 * nI i) (mix9 cl)) (m - 1) 1 (mix9 (1000 * nI i) - mix9 cl)) → fold9 (mM_bpI cl i) m 0 (b, l) = (b, l)) ∧
    (b ≠ none → ¬ u6 l ≤ u3 (fold9 (sV_rst (1000 * nI i) (mix9 cl)) (m - 1) 1 (mix9 (1000 * nI i) - mix9 cl)) → (fold9 (mM_bpI cl i) m 0 (b, l)).1 = some i ∧ u6 (fold9 (mM_bpI cl i) m 0 (b, l)).2 = u3 (fold9 (sV_rst (1000 * nI i) (mix9 cl)) (m - 1) 1 (mix9 (1000 * nI i) - mix9 cl))) := by
  intro m hm
  obtain ⟨d, rfl⟩ : ∃ d, m = d + 1 := ⟨m - 1, by omega⟩
  clear hm
  rw [Nat.add_sub_cancel]
  have hfar : ∀ k, u6 (far9 cl i k) < 4294967296 := fun k => by rw [u6_far]; exact u3_lt _
  have hstep : ∀ (k : Nat) (q : Option Nat × Int64), q.1 ≠ none → u6 q.2 < 4294967296 → (u6 q.2 ≤ u6 (far9 cl i k) → mM_bpI cl i k q = q) ∧ (¬ u6 q.2 ≤ u6 (far9 cl i k) → mM_bpI cl i k q = (some i, far9 cl i k)) := by
    intro k q h1 h2
    unfold mM_bpI
    rw [if_neg h1]
    have e := lg_cmp_ge (far9 cl i k) q.2
    have e2 := u6_le h2 (hfar k)
    constructor
    · intro h3
      rw [if_pos (e.mpr (e2.mpr h3))]
    · intro h3
      rw [if_neg (fun h9 => h3 (e2.mp (e.mp h9)))]
  induction d with
  | zero =>
    have e0 : u6 (far9 cl i 0) = u3 (mix9 (1000 * nI i) - mix9 cl) := by rw [u6_far, show nI 0 = 0 from rfl, Int32.add_zero]
    refine ⟨fun hb => ?_, fun hb h1 => ?_, fun hb h1 => ?_⟩
    · subst hb
      exact ⟨rfl, e0⟩
    · exact (hstep 0 (b, l) hb hl).1 (by rw [e0]; exact h1)
    · have := (hstep 0 (b, l) hb hl).2 (by rw [e0]; exact h1)
      show (mM_bpI cl i 0 (b, l)).1 = _ ∧ u6 (mM_bpI cl i 0 (b, l)).2 = _
      rw [this]
      exact ⟨rfl, e0⟩
  | succ d ih =>
    obtain ⟨i1, i2, i3⟩ := ih
    rw [fold9_last, Nat.zero_add, show (d + 1 : Nat) = d + 1 from rfl]
    have er : fold9 (sV_rst (1000 * nI i) (mix9 cl)) (d + 1) 1 (mix9 (1000 * nI i) - mix9 cl) = sV_rst (1000 * nI i) (mix9 cl) (1 + d) (fold9 (sV_rst (1000 * nI i) (mix9 cl)) d 1 (mix9 (1000 * nI i) - mix9 cl)) := fold9_last _ d 1 _
    rw [er]
    generalize fold9 (sV_rst (1000 * nI i) (mix9 cl)) d 1 (mix9 (1000 * nI i) - mix9 cl) = rg at i1 i2 i3 ⊢
    generalize fold9 (mM_bpI cl i) (d + 1) 0 (b, l) = q at i1 i2 i3 ⊢
    have ef := u6_far cl i (d + 1)
    have es : u3 (sV_rst (1000 * nI i) (mix9 cl) (1 + d) rg) = if u3 rg ≤ u6 (far9 cl i (d + 1)) then u3 rg else u6 (far9 cl i (d + 1)) := by
      unfold sV_rst
      rw [bel9_eq, Nat.add_comm 1 d, ef]
      by_cases h9 : u3 rg ≤ u3 (mix9 (1000 * nI i + nI (d + 1)) - mix9 cl)
      · rw [if_pos h9, if_pos h9, if_pos rfl]
      · rw [if_neg h9, if_neg h9, if_neg (by decide)]
    rw [es]
    refine ⟨fun hb => ?_, fun hb h1 => ?_, fun hb h1 => ?_⟩
    · obtain ⟨a1, a2⟩ := i1 hb
      have hs := hstep (d + 1) q (by rw [a1]; exact fun h => nomatch h) (by rw [a2]; exact u3_lt _)
      rw [a2] at hs
      by_cases h9 : u3 rg ≤ u6 (far9 cl i (d + 1))
      · rw [hs.1 h9, if_pos h9]; exact ⟨a1, a2⟩
      · rw [hs.2 h9, if_neg h9]; exact ⟨rfl, rfl⟩
    · by_cases h9 : u3 rg ≤ u6 (far9 cl i (d + 1))
      · rw [if_pos h9] at h1
        have a := i2 hb h1
        rw [a]
        exact (hstep (d + 1) (b, l) hb hl).1 (by show u6 l ≤ _; omega)
      · rw [if_neg h9] at h1
        have a := i2 hb (by omega)
        rw [a]
        exact (hstep (d + 1) (b, l) hb hl).1 h1
    · by_cases h8 : u6 l ≤ u3 rg
      · have a := i2 hb h8
        rw [a]
        by_cases h9 : u3 rg ≤ u6 (far9 cl i (d + 1))
        · rw [if_pos h9] at h1
          exact absurd h8 h1
        · rw [if_neg h9] at h1 ⊢
          rw [(hstep (d + 1) (b, l) hb hl).2 h1]
          exact ⟨rfl, rfl⟩
      · obtain ⟨a1, a2⟩ := i3 hb h8
        have hs := hstep (d + 1) q (by rw [a1]; exact fun h => nomatch h) (by rw [a2]; exact u3_lt _)
        rw [a2] at hs
        by_cases h9 : u3 rg ≤ u6 (far9 cl i (d + 1))
        · rw [hs.1 h9, if_pos h9]; exact ⟨a1, a2⟩
        · rw [hs.2 h9, if_neg h9]; exact ⟨rfl, rfl⟩
variable {cn t nn o n : Nat} {G Q : fM}
theorem ring_eq {cl al on : Int32} (h : RS cn t nn o n 0 (tM Q) G) (hao : (al = 0 ∧ on = 1) ∨ (al = 1 ∧ on = 0)) : mM_bp cn cl al Q = sS_rg 0 cl on G := by
  unfold mM_bp sS_rg
  rw [h.ecN]
  have key : ∀ k, k ≤ cn → (fold9 (mM_bpO Q cl al) k 0 (none, 0)).1 = (fold9 (sS_rgS 0 G on (mix9 cl)) k 0 (none, 0)).1 ∧ u6 (fold9 (mM_bpO Q cl al) k 0 (none, 0)).2 < 4294967296 ∧ ((fold9 (sS_rgS 0 G on (mix9 cl)) k 0 (none, 0)).1 ≠ none → u6 (fold9 (mM_bpO Q cl al) k 0 (none, 0)).2 = u3 (fold9 (sS_rgS 0 G on (mix9 cl)) k 0 (none, 0)).2) := by
    intro k
    induction k with
    | zero => intro _; exact ⟨rfl, (show u6 0 < 4294967296 by decide), fun h => absurd rfl h⟩
    | succ k ih =>
      intro hk
      obtain ⟨a1, a2, a3⟩ := ih (by omega)
      rw [fold9_last, fold9_last, Nat.zero_add]
      generalize fold9 (mM_bpO Q cl al) k 0 (none, 0) = q at a1 a2 a3 ⊢
      generalize fold9 (sS_rgS 0 G on (mix9 cl)) k 0 (none, 0) = p at a1 a3 ⊢
      obtain ⟨b, l⟩ := q
      obtain ⟨b', d⟩ := p
      dsimp only at a1 a2 a3
      subst a1
      obtain ⟨w1, w2, w3, w4, w5⟩ := h.emW (show k < cn by omega)
      have key2 : (fold9 (mM_bpI cl k) (4 * mW k Q) 0 (b, l)).1 = (sS_rgT 0 G (mix9 cl) k (b, d)).1 ∧ u6 (fold9 (mM_bpI cl k) (4 * mW k Q) 0 (b, l)).2 < 4294967296 ∧ ((sS_rgT 0 G (mix9 cl) k (b, d)).1 ≠ none → u6 (fold9 (mM_bpI cl k) (4 * mW k Q) 0 (b, l)).2 = u3 (sS_rgT 0 G (mix9 cl) k (b, d)).2) := by
        rw [w1]
        obtain ⟨r1, r2, r3⟩ := ring_in (cl := cl) (i := k) (b := b) a2 (4 * wN 0 k G) (by omega)
        unfold sS_rgT sV_ring
        dsimp only
        by_cases hb : b = none
        · rw [if_pos hb]
          obtain ⟨c1, c2⟩ := r1 hb
          exact ⟨c1, by rw [c2]; exact u3_lt _, fun _ => c2⟩
        · rw [if_neg hb, bel9_eq, ← a3 hb]
          by_cases h9 : u6 l ≤ u3 (fold9 (sV_rst (1000 * nI k) (mix9 cl)) (4 * wN 0 k G - 1) 1 (mix9 (1000 * nI k) - mix9 cl))
          · rw [if_pos h9, if_pos rfl, r2 hb h9]
            exact ⟨rfl, a2, fun _ => a3 hb⟩
          · rw [if_neg h9, if_neg (by decide)]
            obtain ⟨c1, c2⟩ := r3 hb h9
            exact ⟨c1, by rw [c2]; exact u3_lt _, fun _ => c2⟩
      unfold mM_bpO sS_rgS
      rcases hao with ⟨rfl, rfl⟩ | ⟨rfl, rfl⟩
      · rw [if_pos rfl, if_neg (show ¬ (1 : Int32) = 0 by decide), acc_eq h (show k < cn by omega)]
        by_cases hacc : sV_acc 0 k G = 0
        · rw [if_pos hacc, if_pos hacc]; exact ⟨rfl, a2, a3⟩
        · rw [if_neg hacc, if_neg hacc]; exact key2
      · rw [if_neg (show ¬ (1 : Int32) = 0 by decide), if_pos rfl]
        exact key2
  exact (key cn (Nat.le_refl _)).1
end Q2
