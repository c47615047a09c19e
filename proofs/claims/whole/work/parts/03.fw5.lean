/-! OWN LAYER 5: copying of rows, searches, small facts -/
section FW5
def cpyM (G : fM) (b0 b1 n : Nat) : fM := fun g => if b1 ≤ g ∧ g < b1 + n then G (b0 + (g - b1)) else G g
theorem f_inc (k : Nat) : nI k + Int32.ofInt 1 = nI (k + 1) := by
  have : Int32.ofInt 1 = 1 := by decide
  rw [this]; exact nI_1 k
theorem f_le {a b : Nat} (ha : a < 2 ^ 31) (hb : b < 2 ^ 31) (h : nI a ≤ nI b) : a ≤ b := (nI_leI ha hb).mp h
theorem f_nle {a b : Nat} (ha : a < 2 ^ 31) (hb : b < 2 ^ 31) (h : ¬ nI a ≤ nI b) : b < a := Nat.lt_of_not_le (fun q => h ((nI_leI ha hb).mpr q))
theorem f_lt {a b : Nat} (ha : a < 2 ^ 31) (hb : b < 2 ^ 31) (h : nI a < nI b) : a < b := (nI_ltI ha hb).mp h
theorem f_nlt {a b : Nat} (ha : a < 2 ^ 31) (hb : b < 2 ^ 31) (h : ¬ nI a < nI b) : b ≤ a := Nat.le_of_not_lt (fun q => h ((nI_ltI ha hb).mpr q))
theorem f_n1 {a : Nat} (ha : a < 2 ^ 31) : nI a ≠ -1 := by
  intro h
  have h1 := congrArg Int32.toInt h
  rw [nI_toInt ha] at h1
  have h2 : Int32.toInt (-1) = -1 := by decide
  rw [h2] at h1
  omega
/-- the first of n places from i on where P holds -/
def srch (P : Nat → Bool) : Nat → Nat → Option Nat
  | _, 0 => none
  | i, n + 1 => if P i then some i else srch P (i + 1) n
def rI (r : Option Nat) : Int32 := match r with
  | some j => nI j
  | none => -1
theorem srch_lt {P : Nat → Bool} : ∀ (n i j : Nat), srch P i n = some j → i ≤ j ∧ j < i + n ∧ P j = true := by
  intro n
  induction n with
  | zero => intro i j h; cases h
  | succ n ih =>
    intro i j h
    unfold srch at h
    split at h
    · rename_i hp
      cases h
      exact ⟨Nat.le_refl _, by omega, hp⟩
    · obtain ⟨h1, h2, h3⟩ := ih (i + 1) j h
      exact ⟨by omega, by omega, h3⟩
theorem srch_no {P : Nat → Bool} : ∀ (n i : Nat), srch P i n = none → ∀ j, i ≤ j → j < i + n → P j = false := by
  intro n
  induction n with
  | zero => intro i h j h1 h2; omega
  | succ n ih =>
    intro i h j h1 h2
    unfold srch at h
    split at h
    · cases h
    · rename_i hp
      by_cases hj : j = i
      · subst hj; exact Bool.eq_false_iff.mpr hp
      · exact ih (i + 1) h j (by omega) (by omega)
theorem srch_step {P : Nat → Bool} {i n k : Nat} (h : k < n) (hp : P k = false) (hi : i = n - k) : srch P k i = srch P (k + 1) (n - (k + 1)) := by
  obtain ⟨d, hd⟩ : ∃ d, i = d + 1 := ⟨i - 1, by omega⟩
  rw [hd]
  show (if P k then some k else srch P (k + 1) d) = _
  rw [hp, show d = n - (k + 1) by omega]
  rfl
theorem srch_hit {P : Nat → Bool} {i k : Nat} (h : 0 < i) (hp : P k = true) : srch P k i = some k := by
  obtain ⟨d, hd⟩ : ∃ d, i = d + 1 := ⟨i - 1, by omega⟩
  rw [hd]
  show (if P k then some k else srch P (k + 1) d) = _
  rw [hp]
  rfl
theorem srch_end {P : Nat → Bool} {i k n : Nat} (h : n ≤ k) (hi : i = n - k) : srch P k i = none := by
  rw [hi, Nat.sub_eq_zero_of_le h]
  rfl
theorem srch_congr {P P' : Nat → Bool} : ∀ (n i : Nat), (∀ j, i ≤ j → j < i + n → P j = P' j) → srch P i n = srch P' i n := by
  intro n
  induction n with
  | zero => intro i _; rfl
  | succ n ih =>
    intro i h
    show (if P i then some i else srch P (i + 1) n) = (if P' i then some i else srch P' (i + 1) n)
    rw [h i (Nat.le_refl _) (by omega), ih (i + 1) (fun j h1 h2 => h j (by omega) (by omega))]
/-- d steps from k on -/
def fold9 {α : Type} (F : Nat → α → α) : Nat → Nat → α → α
  | 0, _, a => a
  | d + 1, k, a => fold9 F d (k + 1) (F k a)
theorem fold9_0 {α : Type} (F : Nat → α → α) (k : Nat) (a : α) : fold9 F 0 k a = a := rfl
theorem fold9_s {α : Type} (F : Nat → α → α) (d k : Nat) (a : α) : fold9 F (d + 1) k a = fold9 F d (k + 1) (F k a) := rfl
/-- a step of a loop over k below n -/
theorem fold9_step {α : Type} {F : Nat → α → α} {n k : Nat} {a : α} (h : k < n) : fold9 F (n - k) k a = fold9 F (n - (k + 1)) (k + 1) (F k a) := by
  rw [show n - k = (n - (k + 1)) + 1 by omega, fold9_s]
theorem fold9_end {α : Type} {F : Nat → α → α} {n k : Nat} {a : α} (h : n ≤ k) : fold9 F (n - k) k a = a := by
  rw [show n - k = 0 by omega, fold9_0]
/-- what every step keeps -/
theorem fold9_inv {α : Type} {F : Nat → α → α} (I : Nat → α → Prop) : ∀ (d k : Nat) (a : α), I k a → (∀ j b, k ≤ j → j < k + d → I j b → I (j + 1) (F j b)) → I (k + d) (fold9 F d k a) := by
  intro d
  induction d with
  | zero => intro k a h _; exact h
  | succ d ih =>
    intro k a h hs
    rw [fold9_s, show k + (d + 1) = (k + 1) + d by omega]
    exact ih (k + 1) (F k a) (hs k a (Nat.le_refl _) (by omega) h) (fun j b h1 h2 h3 => hs j b (by omega) (by omega) h3)
section Rows5
variable {p : Program} {l : Launch} {e : Env} {R : Room} {s : State} {m : MethodId} {args : Array Value} {below : List Frame} {meth : Method} {c : Code} {cl : List vw_C} {D : va_G} {K : Nat → ClassId} {NL : List Nat} {ad : Nat → Nat} {A : Nat → Prop} {H0 : Heap} {nL cells slots : Nat} {Q : State → Prop}
variable {cc : ByteArray} {Ts : List Cond} {own : String} {G G1 : fM} {x x1 : fX} {pc : Nat} {L : List (Option Value)} {rest st0 : List Value} {rv : Option Value} {rm : Room}
theorem fk_copyi {ns nd N0 N1 b0 b1 n index : Nat} {v : Int32} (hC : Cx p s m args c cc nL Ts own cl D K NL ad A H0) (hs : ns ∈ NL) (hd : nd ∈ NL) (he0 : f_E K NL ad G x ns = f_ia K 0 N0 G b0) (he1 : ∀ G : fM, f_E K NL ad G x nd = f_ia K 0 N1 G b1) (hv : v = nI n) (hn0 : n ≤ N0) (hn1 : n ≤ N1) (hN : N1 < 2 ^ 31) (hg : ∀ j, j < n → f_own (b1 + j) = nd)
    (hlink : Cond.methodLink own index arraycopyName ∈ Ts) (hnat : Cond.native arraycopyName ∈ Ts) (hstat : Cond.static arraycopyName ∈ Ts) (hini : Cond.initialized "java/lang/System" ∈ Ts) (hframes : 1 ≤ R.frames) (hlocals : (rest.map fun v => v.category).sum + (nativeFrameWords "java/lang/System" "arraycopy" 5 + 11) ≤ R.locals) (hdg : decode cc pc = .ok (.invokestatic index, 3))
    (kk : Wk p l e R s m args below meth c cl D K NL ad A H0 nL cells slots Q (cpyM G b0 b1 n) x (pc + 3) L rest) : Wk p l e R s m args below meth c cl D K NL ad A H0 nL cells slots Q G x pc L (.int v :: .int 0 :: .ref (ad nd) :: .int 0 :: .ref (ad ns) :: rest) := fun H locs ls h1 h2 h3 => by
  obtain ⟨q0, hq0⟩ := List.getElem?_of_mem hs
  obtain ⟨q1, hq1⟩ := List.getElem?_of_mem hd
  subst hv
  have hc : (nI n).toNatClampNeg = n := nI_clamp (by omega)
  have hz : (0 : Int32).toNatClampNeg = 0 := by decide
  refine va_copyi (ty := .int) hC.hx hC.hb (hC.hml.trans h3.1.symm) hC.hown (hC.ts _ hlink) (hC.ts _ hnat) (hC.ts _ hstat) (hC.ts _ hini) hC.hK h1 hC.hD.to h2 q0 q1 0 0 ((f_W_at hq0).trans (by rw [he0])) ((f_W_at hq1).trans (by rw [he1])) rfl rfl rfl (by decide) (by decide) (nI_pos (by omega)) (by rw [hc, hz]; omega) (by rw [hc, hz]; omega) (fun i _ => rfl) hframes hlocals hdg (fun H1 locs1 hP _ hS => kk H1 locs1 ls (f_P_setM (G := G) (e := f_ia K 0 N1 (cpyM G b0 b1 n) b1) hC.hD hq1 ?_ (he1 _) ?_) hS h3)
  · intro i hi
    unfold cpyM
    rw [if_neg]
    rintro ⟨a1, a2⟩
    apply hi
    have := hg (i - b1) (by omega)
    rwa [show b1 + (i - b1) = i by omega] at this
  · rw [hc, hz] at hP
    have e9 : va_cpy (fun j => G (b0 + j)) (fun j => G (b1 + j)) 0 0 n = fun j => cpyM G b0 b1 n (b1 + j) := by
      funext j
      unfold va_cpy cpyM
      by_cases hj : j < n
      · rw [if_pos ⟨Nat.zero_le _, by omega⟩, if_pos ⟨by omega, by omega⟩]
        show G (b0 + (0 + (j - 0))) = _
        rw [show b0 + (0 + (j - 0)) = b0 + (b1 + j - b1) by omega]
      · rw [if_neg (by omega), if_neg (by omega)]
    rw [e9] at hP
    exact hP
/-- a local is forgotten -/
theorem fk_drop (i : Nat) (kk : Wk p l e R s m args below meth c cl D K NL ad A H0 nL cells slots Q G x pc (f_set L i none) st0) : Wk p l e R s m args below meth c cl D K NL ad A H0 nL cells slots Q G x pc L st0 := fun H locs ls h1 h2 h3 => kk H locs ls h1 h2 ⟨h3.1, h3.2.1, fun q hq => by
  obtain ⟨k, u⟩ := q
  rcases f_nth_set L i k none u ((f_lv_iff _ 0 (k, u)).mp hq).2 with ⟨_, e2⟩ | ⟨_, e2⟩
  · cases e2
  · exact h3.at e2⟩
end Rows5
end FW5
section FW6
section Rows6
variable {p : Program} {l : Launch} {e : Env} {R : Room} {s : State} {m : MethodId} {args : Array Value} {below : List Frame} {meth : Method} {c : Code} {cl : List vw_C} {D : va_G} {K : Nat → ClassId} {NL : List Nat} {ad : Nat → Nat} {A : Nat → Prop} {H0 : Heap} {nL cells slots : Nat} {Q : State → Prop}
variable {cc : ByteArray} {Ts : List Cond} {own : String} {G G1 : fM} {x x1 : fX} {pc : Nat} {L : List (Option Value)} {rest st0 : List Value} {rv : Option Value} {rm : Room}
theorem fk_topi {a b : Int32} (h : a = b) (kk : Wk p l e R s m args below meth c cl D K NL ad A H0 nL cells slots Q G x pc L (.int b :: rest)) : Wk p l e R s m args below meth c cl D K NL ad A H0 nL cells slots Q G x pc L (.int a :: rest) := h ▸ kk
theorem fk_aret {a : Nat} {C : String} (hC : Cx p s m args c cc nL Ts own cl D K NL ad (f_A NL ad s.heap.size) s.heap) (hr : meth.sig.returnType = some (.object C)) (hlocks : meth.locks = false) (hdg : decode cc pc = .ok (.areturn, 1)) (hu : ∃ b : Nat, a = b) (hv : some (.ref a) = rv) (hG : G = G1) (hx : x = x1) :
    Wk p l e R s m args below meth c cl D K NL ad (f_A NL ad s.heap.size) s.heap nL cells slots (MQ below (f_Post cl D K NL ad G1 x1 rv s.heap.size) args s cells slots (f_A NL ad s.heap.size)) G x pc L [.ref a] := fun H locs ls h1 h2 h3 =>
  W.aret hC.hx hC.hb hr (Or.inl ⟨_, rfl⟩) (Or.inr ⟨_, rfl⟩) (f_ends hC h1 h2 hv hG hx) h2.2.2 hdg hlocks
end Rows6
theorem f_swI {a : Int32} {v : Int} {b : Int32} (hb : b.toInt = v) (h : ¬ a = b) : a.toInt ≠ v := fun q => h (Int32.toInt_inj.mp (by rw [hb]; exact q))
theorem f_sw4 (a : Int32) : a = 0 ∨ a = 1 ∨ a = 2 ∨ a = 3 ∨ (a.toInt < 0 ∨ 3 < a.toInt) := by
  by_cases h0 : a = 0
  · exact Or.inl h0
  by_cases h1 : a = 1
  · exact Or.inr (Or.inl h1)
  by_cases h2 : a = 2
  · exact Or.inr (Or.inr (Or.inl h2))
  by_cases h3 : a = 3
  · exact Or.inr (Or.inr (Or.inr (Or.inl h3)))
  have g0 := f_swI (v := 0) (by decide) h0
  have g1 := f_swI (v := 1) (by decide) h1
  have g2 := f_swI (v := 2) (by decide) h2
  have g3 := f_swI (v := 3) (by decide) h3
  refine Or.inr (Or.inr (Or.inr (Or.inr ?_)))
  omega
theorem f_sw5 (a : Int32) : a = 0 ∨ a = 1 ∨ a = 2 ∨ a = 3 ∨ a = 4 ∨ (a.toInt < 0 ∨ 4 < a.toInt) := by
  rcases f_sw4 a with h | h | h | h | h
  · exact Or.inl h
  · exact Or.inr (Or.inl h)
  · exact Or.inr (Or.inr (Or.inl h))
  · exact Or.inr (Or.inr (Or.inr (Or.inl h)))
  · by_cases h4 : a = 4
    · exact Or.inr (Or.inr (Or.inr (Or.inr (Or.inl h4))))
    · have g4 := f_swI (v := 4) (by decide) h4
      refine Or.inr (Or.inr (Or.inr (Or.inr (Or.inr ?_))))
      omega
theorem f_dec {t : Nat} (h : 0 < t) : nI t + Int32.ofInt (-1) = nI (t - 1) := by
  obtain ⟨k, rfl⟩ : ∃ k, t = k + 1 := ⟨t - 1, by omega⟩
  have e : Int32.ofInt (-1) = -1 := by decide
  rw [e, pk_m1, Nat.add_sub_cancel]
theorem f_ush16 (v : Int32) : (v.toUInt32 >>> ((16 : Int32).toUInt32 &&& Int32.toUInt32 31)).toInt32 = nI (v.toBitVec.toNat / 65536) := by
  have h := pk_ushr v 16 16 (by decide)
  have h2 : v.toBitVec.toNat / 2 ^ 16 < 2 ^ 32 := by
    have := v.toBitVec.isLt
    omega
  apply Int32.toBitVec_inj.mp
  apply BitVec.eq_of_toNat_eq
  rw [h, pk_tn (by omega)]
theorem rI_none {b : Option Nat} {N : Nat} (hN : N < 2 ^ 31) (hb : ∀ j, b = some j → j < N) : rI b = -1 ↔ b = none := by
  cases b with
  | none => exact ⟨fun _ => rfl, fun _ => rfl⟩
  | some j => exact ⟨fun h => absurd h (f_n1 (by have := hb j rfl; omega)), fun h => by cases h⟩
/-- the t-th place of d from k on where P holds -/
def avAt (P : Nat → Bool) : Nat → Nat → Nat → Option Nat
  | 0, _, _ => none
  | d + 1, k, t => if P k then (if t = 0 then some k else avAt P d (k + 1) (t - 1)) else avAt P d (k + 1) t
theorem avAt_s (P : Nat → Bool) (d k t : Nat) : avAt P (d + 1) k t = if P k then (if t = 0 then some k else avAt P d (k + 1) (t - 1)) else avAt P d (k + 1) t := rfl
def avCt (P : Nat → Bool) (k a : Nat) : Nat := if P k then a + 1 else a
theorem avAt_some {P : Nat → Bool} : ∀ (d k t a : Nat), t + a < fold9 (avCt P) d k a → ∃ j, avAt P d k t = some j ∧ k ≤ j ∧ j < k + d ∧ P j = true := by
  intro d
  induction d with
  | zero => intro k t a h; rw [fold9_0] at h; omega
  | succ d ih =>
    intro k t a h
    rw [fold9_s] at h
    rw [avAt_s]
    unfold avCt at h
    by_cases hp : P k = true
    · rw [if_pos hp] at h
      rw [if_pos hp]
      by_cases ht : t = 0
      · rw [if_pos ht]
        exact ⟨k, rfl, Nat.le_refl _, by omega, hp⟩
      · rw [if_neg ht]
        obtain ⟨j, h1, h2, h3, h4⟩ := ih (k + 1) (t - 1) (a + 1) (by rw [show t - 1 + (a + 1) = t + a by omega]; exact h)
        exact ⟨j, h1, by omega, by omega, h4⟩
    · rw [if_neg hp] at h
      rw [if_neg hp]
      obtain ⟨j, h1, h2, h3, h4⟩ := ih (k + 1) t a h
      exact ⟨j, h1, by omega, by omega, h4⟩
end FW6
