/-! the constructors -/
abbrev e0B : va_E := .inr (0, [.int 0, .int 0, .int 0, .int 0, .int 0])
abbrev e0V : va_E := .inr (3, [.null, .int 0, .int 0, .int 0, .int 0, .int 0, .int 0, .int 0, .int 0, .int 0])
abbrev eV1 (q : Nat) : va_E := .inr (3, [.ref q, .int 0, .int 0, .int 0, .int 0, .int 0, .int 0, .int 0, .int 0, .int 0])
abbrev e03 (c : Nat) : va_E := .inr (c, [.null, .null, .null, .int 0])
abbrev e13 (c q1 q2 q3 : Nat) : va_E := .inr (c, [.ref q1, .ref q2, .ref q3, .int 0])
abbrev zI (K : Nat → ClassId) (t N : Nat) : va_E := .inl (K t, N, .inl (fun _ => 0))
set_option maxHeartbeats 4000000 in
set_option maxRecDepth 100000 in
theorem kX0_init (l : Launch) (D : va_G) (K : Nat → ClassId) (h0 : Nat) : KI l yX0_init wsX0_init { frames := 1, cells := 0, slots := 0, locals := 20 } D K [.ref h0] [(h0, e0B)] (fun (_ : Unit) => [(h0, e0B)]) := by
  refine KI.of (cc := cX0_init) (maxL := 1) (L := [some (.ref h0)]) (by decide +kernel) rfl rfl rfl (by decide) ?_
  intro p e s m args below meth c hC hin9 hr hk
  refine wc_aload_n hC dX0_init_0 rfl rfl ?_
  refine wc_objInit hC (by decide +kernel) (by decide +kernel) (by decide +kernel) dX0_init_1 (Nat.le_of_ble_eq_true rfl) (Nat.le_of_ble_eq_true rfl) ?_
  exact wc_vret (is := []) () hC hr hk dX0_init_4 (fun H h => h) (fun h => h)
abbrev w1K (K : Nat → ClassId) (h0 : Nat) (u : Nat × Nat × Nat) : va_W := [(h0, e13 1 u.1 u.2.1 u.2.2), (u.1, zI K 0 40), (u.2.1, zI K 0 40), (u.2.2, zI K 0 40)]
set_option maxHeartbeats 4000000 in
set_option maxRecDepth 100000 in
theorem kX1_init (l : Launch) (D : va_G) (K : Nat → ClassId) (h0 : Nat) : KI l yX1_init wsX1_init { frames := 1, cells := 3, slots := 120, locals := 20 } D K [.ref h0] [(h0, e03 1)] (w1K K h0) := by
  refine KI.of (cc := cX1_init) (maxL := 1) (L := [some (.ref h0)]) (by decide +kernel) rfl rfl rfl (by decide) ?_
  intro p e s m args below meth c hC hin9 hr hk
  have iX1 : ∀ w ∈ wsX10, w ∈ wsX1_init := by decide +kernel
  refine wc_aload_n hC dX1_init_0 rfl rfl ?_
  refine wc_objInit hC (by decide +kernel) (by decide +kernel) (by decide +kernel) dX1_init_1 (Nat.le_of_ble_eq_true rfl) (Nat.le_of_ble_eq_true rfl) ?_
  refine wc_aload_n hC dX1_init_4 rfl rfl ?_
  refine wc_bipush (v := 40) hC dX1_init_5 (by decide) ?_
  refine wc_newi (N := 40) hC (by decide +kernel) (by decide) (by decide) (Nat.le_of_ble_eq_true rfl) (Nat.le_of_ble_eq_true rfl) dX1_init_7 ?_
  intro q1
  refine wc_putF (q0 := 0) (k := 0) hC hin9 rfl rfl iX1 tyX1 tyX1_ok nmX1 (by decide) (by decide +kernel) rfl rfl rfl rfl rfl (Nat.le_of_ble_eq_true rfl) dX1_init_9 ?_
  refine wc_aload_n hC dX1_init_12 rfl rfl ?_
  refine wc_bipush (v := 40) hC dX1_init_13 (by decide) ?_
  refine wc_newi (N := 40) hC (by decide +kernel) (by decide) (by decide) (Nat.le_of_ble_eq_true rfl) (Nat.le_of_ble_eq_true rfl) dX1_init_15 ?_
  intro q2
  refine wc_putF (q0 := 0) (k := 1) hC hin9 rfl rfl iX1 tyX1 tyX1_ok nmX1 (by decide) (by decide +kernel) rfl rfl rfl rfl rfl (Nat.le_of_ble_eq_true rfl) dX1_init_17 ?_
  refine wc_aload_n hC dX1_init_20 rfl rfl ?_
  refine wc_bipush (v := 40) hC dX1_init_21 (by decide) ?_
  refine wc_newi (N := 40) hC (by decide +kernel) (by decide) (by decide) (Nat.le_of_ble_eq_true rfl) (Nat.le_of_ble_eq_true rfl) dX1_init_23 ?_
  intro q3
  refine wc_putF (q0 := 0) (k := 2) hC hin9 rfl rfl iX1 tyX1 tyX1_ok nmX1 (by decide) (by decide +kernel) rfl rfl rfl rfl rfl (Nat.le_of_ble_eq_true rfl) dX1_init_25 ?_
  exact wc_vret (is := []) (q1, q2, q3) hC hr hk dX1_init_28 (fun H h => h) (fun h => h)
abbrev w1C (K : Nat → ClassId) (h0 : Nat) (u : Nat × Nat × Nat) : va_W := [(h0, e13 2 u.1 u.2.1 u.2.2), (u.1, zI K 0 1000), (u.2.1, zI K 0 1000), (u.2.2, zI K 1 1000)]
set_option maxHeartbeats 4000000 in
set_option maxRecDepth 100000 in
theorem kX2_init (l : Launch) (D : va_G) (K : Nat → ClassId) (h0 : Nat) : KI l yX2_init wsX2_init { frames := 1, cells := 3, slots := 3000, locals := 20 } D K [.ref h0] [(h0, e03 2)] (w1C K h0) := by
  refine KI.of (cc := cX2_init) (maxL := 1) (L := [some (.ref h0)]) (by decide +kernel) rfl rfl rfl (by decide) ?_
  intro p e s m args below meth c hC hin9 hr hk
  have iX2 : ∀ w ∈ wsX20, w ∈ wsX2_init := by decide +kernel
  refine wc_aload_n hC dX2_init_0 rfl rfl ?_
  refine wc_objInit hC (by decide +kernel) (by decide +kernel) (by decide +kernel) dX2_init_1 (Nat.le_of_ble_eq_true rfl) (Nat.le_of_ble_eq_true rfl) ?_
  refine wc_aload_n hC dX2_init_4 rfl rfl ?_
  refine wc_sipush (v := 1000) hC dX2_init_5 (by decide) ?_
  refine wc_newi (N := 1000) hC (by decide +kernel) (by decide) (by decide) (Nat.le_of_ble_eq_true rfl) (Nat.le_of_ble_eq_true rfl) dX2_init_8 ?_
  intro q1
  refine wc_putF (q0 := 0) (k := 0) hC hin9 rfl rfl iX2 tyX2 tyX2_ok nmX2 (by decide) (by decide +kernel) rfl rfl rfl rfl rfl (Nat.le_of_ble_eq_true rfl) dX2_init_10 ?_
  refine wc_aload_n hC dX2_init_13 rfl rfl ?_
  refine wc_sipush (v := 1000) hC dX2_init_14 (by decide) ?_
  refine wc_newi (N := 1000) hC (by decide +kernel) (by decide) (by decide) (Nat.le_of_ble_eq_true rfl) (Nat.le_of_ble_eq_true rfl) dX2_init_17 ?_
  intro q2
  refine wc_putF (q0 := 0) (k := 1) hC hin9 rfl rfl iX2 tyX2 tyX2_ok nmX2 (by decide) (by decide +kernel) rfl rfl rfl rfl rfl (Nat.le_of_ble_eq_true rfl) dX2_init_19 ?_
  refine wc_aload_n hC dX2_init_22 rfl rfl ?_
  refine wc_sipush (v := 1000) hC dX2_init_23 (by decide) ?_
  refine wc_newz (N := 1000) hC (by decide +kernel) (by decide) (by decide) (Nat.le_of_ble_eq_true rfl) (Nat.le_of_ble_eq_true rfl) dX2_init_26 ?_
  intro q3
  refine wc_putF (q0 := 0) (k := 2) hC hin9 rfl rfl iX2 tyX2 tyX2_ok nmX2 (by decide) (by decide +kernel) rfl rfl rfl rfl rfl (Nat.le_of_ble_eq_true rfl) dX2_init_28 ?_
  exact wc_vret (is := []) (q1, q2, q3) hC hr hk dX2_init_31 (fun H h => h) (fun h => h)
abbrev w1V (h0 q : Nat) : va_W := [(h0, eV1 q), (q, e0B)]
set_option maxHeartbeats 4000000 in
set_option maxRecDepth 100000 in
theorem kX3_init (l : Launch) (D : va_G) (K : Nat → ClassId) (h0 : Nat) : KI l yX3_init wsX3_init { frames := 2, cells := 1, slots := 5, locals := 40 } D K [.ref h0] [(h0, e0V)] (w1V h0) := by
  refine KI.of (cc := cX3_init) (maxL := 1) (L := [some (.ref h0)]) (by decide +kernel) rfl rfl rfl (by decide) ?_
  intro p e s m args below meth c hC hin9 hr hk
  have iX0 : ∀ w ∈ wsX00, w ∈ wsX3_init := by decide +kernel
  have iX3 : ∀ w ∈ wsX30, w ∈ wsX3_init := by decide +kernel
  refine wc_aload_n hC dX3_init_0 rfl rfl ?_
  refine wc_objInit hC (by decide +kernel) (by decide +kernel) (by decide +kernel) dX3_init_1 (Nat.le_of_ble_eq_true rfl) (Nat.le_of_ble_eq_true rfl) ?_
  refine wc_aload_n hC dX3_init_4 rfl rfl ?_
  refine wc_new (fs := [.int 0, .int 0, .int 0, .int 0, .int 0]) hC iX0 tyX0 tyX0_ok (by decide +kernel) (by decide +kernel) (by decide +kernel) (ci := 0) rfl (by decide) (Nat.le_of_ble_eq_true rfl) (Nat.le_of_ble_eq_true rfl) dX3_init_5 ?_
  intro q
  refine wc_dup hC dX3_init_8 rfl ?_
  refine wc_callLN (wr := [(h0, e0V)]) hC (kX0_init l D K q) ⟨va_cnB 0 hC.1.2.2.2.2 gX3_init_X0_init_n11 rfl rfl rfl hC.2.2.1.1.1 (hC.1.2.2.2.2 (.initialized RX0) (by decide +kernel)) (by decide +kernel) ⟨Nat.le_of_ble_eq_true rfl, Nat.le_of_ble_eq_true rfl⟩, rfl, hC.1.2.2.2.2 (.instanceMethod yX0_init) (by decide +kernel)⟩ (Nat.le_of_ble_eq_true rfl) dX3_init_9 ⟨Nat.le_of_ble_eq_true rfl, Nat.le_of_ble_eq_true rfl⟩ ?_
  intro u
  refine wc_putF (q0 := 0) (k := 0) hC hin9 rfl rfl iX3 tyX3 tyX3_ok nmX3 (by decide) (by decide +kernel) rfl rfl rfl rfl rfl (Nat.le_of_ble_eq_true rfl) dX3_init_12 ?_
  exact wc_vret (is := []) q hC hr hk dX3_init_15 (fun H h => h) (fun h => h)
def I0 (g : Nat) : Int32 := if g = 1 then 2 else if g = 2 then 3 else if g = 4 then 5 else if g = 7 then -1 else if g = 8 then 1 else 0
def pr (a : Nat → Nat) : Nat → va_W
  | 0 => []
  | n + 1 => pr a n ++ [(a (10 + n), eV1 (a (20 + n))), (a (20 + n), e0B)]
theorem pr_len (a : Nat → Nat) : ∀ n, (pr a n).length = 2 * n := by
  intro n
  induction n with
  | zero => rfl
  | succ n ih => show (pr a n ++ _).length = _; rw [List.length_append, ih]; rfl
theorem pr_congr {a b : Nat → Nat} : ∀ n, (∀ j, j < n → a (10 + j) = b (10 + j) ∧ a (20 + j) = b (20 + j)) → pr a n = pr b n := by
  intro n
  induction n with
  | zero => intro _; rfl
  | succ n ih =>
    intro h
    show pr a n ++ _ = pr b n ++ _
    rw [ih (fun j hj => h j (by omega)), (h n (by omega)).1, (h n (by omega)).2]
def X4o : List Nat := [0, 1, 10, 20, 11, 21, 12, 22, 13, 23, 14, 24, 15, 25, 16, 26, 17, 27, 18, 28, 19, 29, 2, 3, 4, 5, 6, 7, 8, 9]
def w1S (K : Nat → ClassId) (a : Nat → Nat) : va_W := X4o.map (fun k => (a k, f_st K a I0 0 k))
abbrev e0S : va_E := .inr (4, [.null, .null, .null, .int 0, .int 0, .int 0, .int 0, .int 0, .int 0, .int 0, .int 0, .int 0, .int 0, .int 0])
abbrev eS1 (q : Nat) : va_E := .inr (4, [.ref q, .null, .null, .int 0, .int 0, .int 0, .int 0, .int 0, .int 0, .int 0, .int 0, .int 0, .int 0, .int 0])
abbrev eR (K : Nat → ClassId) (a : Nat → Nat) (i : Nat) : va_E := f_ra K 2 10 (fun j => if j < i then some (a (10 + j)) else none)
theorem I0z {t N b : Nat} {K : Nat → ClassId} (hb : 20 ≤ b) : f_ia K t N I0 b = zI K t N := by
  unfold f_ia zI
  have : (fun j => I0 (b + j)) = (fun _ => (0 : Int32)) := by
    funext j
    unfold I0
    rw [if_neg (by omega), if_neg (by omega), if_neg (by omega), if_neg (by omega), if_neg (by omega)]
  rw [this]
theorem f_i3 (K : Nat → ClassId) (a : Nat → Nat) : f_st K a I0 0 3 = zI K 0 1000 := I0z (by decide)
theorem f_i4 (K : Nat → ClassId) (a : Nat → Nat) : f_st K a I0 0 4 = zI K 0 1000 := I0z (by decide)
theorem f_i5 (K : Nat → ClassId) (a : Nat → Nat) : f_st K a I0 0 5 = zI K 1 1000 := I0z (by decide)
theorem f_i7 (K : Nat → ClassId) (a : Nat → Nat) : f_st K a I0 0 7 = zI K 0 40 := I0z (by decide)
theorem f_i8 (K : Nat → ClassId) (a : Nat → Nat) : f_st K a I0 0 8 = zI K 0 40 := I0z (by decide)
theorem f_i9 (K : Nat → ClassId) (a : Nat → Nat) : f_st K a I0 0 9 = zI K 0 40 := I0z (by decide)
theorem w1S_ex (K : Nat → ClassId) (b : Nat → Nat) :
    ((b 0, (.inr (4, [.ref (b 1), .ref (b 2), .ref (b 6), .int 0, .int 2, .int 3, .int 0, .int 5, .int 0, .int 0, .int (-1), .int 1, .int 0, .int 0]) : va_E)) :: (b 1, f_ra K 2 10 (fun j => some (b (10 + j)))) :: ((pr b 10 ++ w1C K (b 2) (b 3, b 4, b 5)) ++ w1K K (b 6) (b 7, b 8, b 9))) = w1S K b := by
  unfold w1S X4o
  simp only [List.map_cons, List.map_nil]
  rw [f_i3, f_i4, f_i5, f_i7, f_i8, f_i9]
  rfl
theorem f_ra_cell {c : ClassId} {N : Nat} {f g : Nat → Option Nat} (h : ∀ j, j < N → f j = g j) : vp_cell c (N, .inr (.inr (.inr (.inr f)))) = vp_cell c (N, .inr (.inr (.inr (.inr g)))) := by
  rw [vp_cell_q, vp_cell_q]
  unfold arrV
  congr 1
  apply Array.ext
  · simp
  · intro i h1 h2
    simp only [Array.getElem_ofFn]
    rw [h i (by simpa using h1)]
theorem va_D_fst {A : Nat → Prop} {w w' : va_W} (h : va_D A w) (he : w'.map Prod.fst = w.map Prod.fst) : va_D A w' := by
  have key : ∀ (k : Nat) (q : Nat × va_E), w'[k]? = some q → ∃ q', w[k]? = some q' ∧ q'.1 = q.1 := by
    intro k q hq
    have h1 : (w'.map Prod.fst)[k]? = some q.1 := by rw [List.getElem?_map, hq]; rfl
    rw [he, List.getElem?_map] at h1
    cases hw : w[k]? with
    | none => rw [hw] at h1; cases h1
    | some q' => rw [hw] at h1; exact ⟨q', rfl, Option.some.inj h1⟩
  refine ⟨fun i j p q hi hj e => ?_, fun k q hk => ?_⟩
  · obtain ⟨p', h1, h2⟩ := key i p hi
    obtain ⟨q', h3, h4⟩ := key j q hj
    exact h.1 i j p' q' h1 h3 (by rw [h2, h4]; exact e)
  · obtain ⟨q', h1, h2⟩ := key k q hk
    rw [← h2]
    exact h.2 k q' h1
/-- cell by cell -/
theorem va_P_all {D : va_G} {cl : List vw_C} {w w' : va_W} {H : Heap} (h : va_P D cl w H) (hl : ∀ (k : Nat) (q : Nat × va_E), w'[k]? = some q → ∃ q', w[k]? = some q' ∧ (va_at D cl q' H → va_at D cl q H)) : va_P D cl w' H := fun k q hk => by
  obtain ⟨q', h1, h2⟩ := hl k q hk
  exact h2 (h k q' h1)
theorem va_P_1 {D : va_G} {cl : List vw_C} {c0 : Nat × va_E} {a : Nat} {e e' : va_E} {tl : va_W} {H : Heap} (h : va_P D cl (c0 :: (a, e) :: tl) H) (he : va_at D cl (a, e) H → va_at D cl (a, e') H) : va_P D cl (c0 :: (a, e') :: tl) H := by
  refine va_P_all h (fun k q hk => ?_)
  match k, hk with
  | 0, hk => exact ⟨q, hk, fun h => h⟩
  | 1, hk => cases hk; exact ⟨_, rfl, he⟩
  | k + 2, hk => exact ⟨q, hk, fun h => h⟩

set_option maxHeartbeats 4000000 in
set_option maxRecDepth 100000 in
theorem kX4_init (l : Launch) (D : va_G) (K : Nat → ClassId) (h0 : Nat) : KI l yX4_init wsX4_init { frames := 3, cells := 29, slots := 3288, locals := 60 } D K [.ref h0] [(h0, e0S)] (fun (u : {a : Nat → Nat // a 0 = h0}) => w1S K u.1) := by
  refine KI.of (cc := cX4_init) (maxL := 2) (L := [some (.ref h0), none]) (by decide +kernel) rfl rfl rfl (by decide) ?_
  intro p e s m args below meth c hC hin9 hr hk
  have iX1 : ∀ w ∈ wsX10, w ∈ wsX4_init := by decide +kernel
  have iX2 : ∀ w ∈ wsX20, w ∈ wsX4_init := by decide +kernel
  have iX3 : ∀ w ∈ wsX30, w ∈ wsX4_init := by decide +kernel
  have iX4 : ∀ w ∈ wsX40, w ∈ wsX4_init := by decide +kernel
  refine wc_aload_n hC dX4_init_0 rfl rfl ?_
  refine wc_objInit hC (by decide +kernel) (by decide +kernel) (by decide +kernel) dX4_init_1 (Nat.le_of_ble_eq_true rfl) (Nat.le_of_ble_eq_true rfl) ?_
  refine wc_aload_n hC dX4_init_4 rfl rfl ?_
  refine wc_bipush (v := 10) hC dX4_init_5 (by decide) ?_
  refine wc_newq (C := "LoadBalancer$Server") (t := 2) (N := 10) hC (by decide +kernel) hC.2.2.1.2.1 rfl (by decide) (by decide) (Nat.le_of_ble_eq_true rfl) (Nat.le_of_ble_eq_true rfl) dX4_init_7 ?_
  intro q1
  refine wc_putF (q0 := 0) (k := 0) hC hin9 rfl rfl iX4 tyX4 tyX4_ok nmX4 (by decide) (by decide +kernel) rfl rfl rfl rfl rfl (Nat.le_of_ble_eq_true rfl) dX4_init_10 ?_
  refine wc_iconst (v := 0) hC dX4_init_13 (by decide) ?_
  refine wc_istore_n hC dX4_init_14 rfl (by decide) rfl ?_
  have loop : ∀ (d i : Nat) (a : Nat → Nat), d = 10 - i → i ≤ 10 → Wc p l e { frames := 3, cells := 29, slots := 3288, locals := 60 } s m args below meth c D (va_A [(h0, e0S)] s.heap.size) s.heap 2 (1 + 2 * i) (10 + 15 * i) (MQ below (f_PostI D [(h0, e0S)] (fun (u : {a : Nat → Nat // a 0 = h0}) => w1S K u.1) s.heap.size) args s 29 3288 (va_A [(h0, e0S)] s.heap.size)) ((h0, eS1 (a 1)) :: (a 1, eR K a i) :: pr a i) 15 [some (.ref h0), some (.int (nI i))] [] := by
    intro d
    induction d with
    | zero =>
      intro i a hd hi
      have hi10 : i = 10 := by omega
      subst hi10
      refine wc_iload_n hC dX4_init_15 rfl rfl ?_
      refine wc_bipush (v := 10) hC dX4_init_16 (by decide) ?_
      refine wc_icmp_ge (tgt := 40) hC dX4_init_18 (by decide) (fun _ => ?_) (fun c => absurd (show (10 : Int32) ≤ nI 10 by decide) c)
      refine wc_aload_n hC dX4_init_40 rfl rfl ?_
      refine wc_new (fs := [.null, .null, .null, .int 0]) hC iX2 tyX2 tyX2_ok (by decide +kernel) (by decide +kernel) (by decide +kernel) (ci := 2) rfl (by decide) (Nat.le_of_ble_eq_true rfl) (Nat.le_of_ble_eq_true rfl) dX4_init_41 ?_
      intro qc
      refine wc_dup hC dX4_init_44 rfl ?_
      refine wc_callL (wr := (h0, eS1 (a 1)) :: (a 1, eR K a 10) :: pr a 10) hC (kX2_init l D K qc) (cwI 0 hC.1.2.2.2.2 gX4_init_X2_init rfl rfl rfl (hC.1.2.2.2.2 (.initialized RX2) (by decide +kernel)) (hC.1.2.2.2.2 (.methodLink RX4 20 yX2_init) (by decide +kernel)) (hC.1.2.2.2.2 (.instanceMethod yX2_init) (by decide +kernel)) rfl (by decide +kernel) ⟨Nat.le_of_ble_eq_true rfl, Nat.le_of_ble_eq_true rfl⟩) (Nat.le_of_ble_eq_true rfl) dX4_init_45 ⟨Nat.le_of_ble_eq_true rfl, Nat.le_of_ble_eq_true rfl⟩ ?_
      intro uc
      refine wc_putF (q0 := 0) (k := 1) hC hin9 rfl rfl iX4 tyX4 tyX4_ok nmX4 (by decide) (by decide +kernel) rfl rfl rfl rfl rfl (Nat.le_of_ble_eq_true rfl) dX4_init_48 ?_
      refine wc_aload_n hC dX4_init_51 rfl rfl ?_
      refine wc_new (fs := [.null, .null, .null, .int 0]) hC iX1 tyX1 tyX1_ok (by decide +kernel) (by decide +kernel) (by decide +kernel) (ci := 1) rfl (by decide) (Nat.le_of_ble_eq_true rfl) (Nat.le_of_ble_eq_true rfl) dX4_init_52 ?_
      intro qk
      refine wc_dup hC dX4_init_55 rfl ?_
      refine wc_callL (wr := (h0, (.inr (4, [.ref (a 1), .ref qc, .null, .int 0, .int 0, .int 0, .int 0, .int 0, .int 0, .int 0, .int 0, .int 0, .int 0, .int 0]) : va_E)) :: (a 1, eR K a 10) :: (pr a 10 ++ w1C K qc uc)) hC (kX1_init l D K qk) (cwI 0 hC.1.2.2.2.2 gX4_init_X1_init rfl rfl rfl (hC.1.2.2.2.2 (.initialized RX1) (by decide +kernel)) (hC.1.2.2.2.2 (.methodLink RX4 27 yX1_init) (by decide +kernel)) (hC.1.2.2.2.2 (.instanceMethod yX1_init) (by decide +kernel)) rfl (by decide +kernel) ⟨Nat.le_of_ble_eq_true rfl, Nat.le_of_ble_eq_true rfl⟩) (Nat.le_of_ble_eq_true rfl) dX4_init_56 ⟨Nat.le_of_ble_eq_true rfl, Nat.le_of_ble_eq_true rfl⟩ ?_
      intro uk
      refine wc_putF (q0 := 0) (k := 2) hC hin9 rfl rfl iX4 tyX4 tyX4_ok nmX4 (by decide) (by decide +kernel) rfl rfl rfl rfl rfl (Nat.le_of_ble_eq_true rfl) dX4_init_59 ?_
      refine wc_aload_n hC dX4_init_62 rfl rfl ?_
      refine wc_iconst (v := 2) hC dX4_init_63 (by decide) ?_
      refine wc_put (q0 := 0) (k := 4) (v := 2) hC rfl rfl iX4 tyX4 tyX4_ok nmX4 (by decide) (by decide +kernel) rfl rfl (Nat.le_of_ble_eq_true rfl) dX4_init_64 ?_
      refine wc_aload_n hC dX4_init_67 rfl rfl ?_
      refine wc_iconst (v := 3) hC dX4_init_68 (by decide) ?_
      refine wc_put (q0 := 0) (k := 5) (v := 3) hC rfl rfl iX4 tyX4 tyX4_ok nmX4 (by decide) (by decide +kernel) rfl rfl (Nat.le_of_ble_eq_true rfl) dX4_init_69 ?_
      refine wc_aload_n hC dX4_init_72 rfl rfl ?_
      refine wc_iconst (v := 5) hC dX4_init_73 (by decide) ?_
      refine wc_put (q0 := 0) (k := 7) (v := 5) hC rfl rfl iX4 tyX4 tyX4_ok nmX4 (by decide) (by decide +kernel) rfl rfl (Nat.le_of_ble_eq_true rfl) dX4_init_74 ?_
      refine wc_aload_n hC dX4_init_77 rfl rfl ?_
      refine wc_iconst (v := 0) hC dX4_init_78 (by decide) ?_
      refine wc_put (q0 := 0) (k := 9) (v := 0) hC rfl rfl iX4 tyX4 tyX4_ok nmX4 (by decide) (by decide +kernel) rfl rfl (Nat.le_of_ble_eq_true rfl) dX4_init_79 ?_
      refine wc_aload_n hC dX4_init_82 rfl rfl ?_
      refine wc_iconst (v := (-1)) hC dX4_init_83 (by decide) ?_
      refine wc_put (q0 := 0) (k := 10) (v := (-1)) hC rfl rfl iX4 tyX4 tyX4_ok nmX4 (by decide) (by decide +kernel) rfl rfl (Nat.le_of_ble_eq_true rfl) dX4_init_84 ?_
      refine wc_aload_n hC dX4_init_87 rfl rfl ?_
      refine wc_iconst (v := 1) hC dX4_init_88 (by decide) ?_
      refine wc_put (q0 := 0) (k := 11) (v := 1) hC rfl rfl iX4 tyX4 tyX4_ok nmX4 (by decide) (by decide +kernel) rfl rfl (Nat.le_of_ble_eq_true rfl) dX4_init_89 ?_
      refine Wc.eq (ws' := (h0, (.inr (4, [.ref (a 1), .ref qc, .ref qk, .int 0, .int 2, .int 3, .int 0, .int 5, .int 0, .int 0, .int (-1), .int 1, .int 0, .int 0]) : va_E)) :: (a 1, eR K a 10) :: ((pr a 10 ++ w1C K qc uc) ++ w1K K qk uk)) rfl ?_
      have hb : ∃ b : Nat → Nat, b 0 = h0 ∧ b 1 = a 1 ∧ b 2 = qc ∧ b 3 = uc.1 ∧ b 4 = uc.2.1 ∧ b 5 = uc.2.2 ∧ b 6 = qk ∧ b 7 = uk.1 ∧ b 8 = uk.2.1 ∧ b 9 = uk.2.2 ∧ ∀ n, 10 ≤ n → b n = a n := ⟨fun n => if n = 0 then h0 else if n = 2 then qc else if n = 3 then uc.1 else if n = 4 then uc.2.1 else if n = 5 then uc.2.2 else if n = 6 then qk else if n = 7 then uk.1 else if n = 8 then uk.2.1 else if n = 9 then uk.2.2 else a n, rfl, rfl, rfl, rfl, rfl, rfl, rfl, rfl, rfl, rfl, fun n hn => by
        dsimp only
        rw [if_neg (by omega), if_neg (by omega), if_neg (by omega), if_neg (by omega), if_neg (by omega), if_neg (by omega), if_neg (by omega), if_neg (by omega), if_neg (by omega)]⟩
      obtain ⟨b, b0, b1, b2, b3, b4, b5, b6, b7, b8, b9, bn⟩ := hb
      have ew : w1S K b = (h0, (.inr (4, [.ref (a 1), .ref qc, .ref qk, .int 0, .int 2, .int 3, .int 0, .int 5, .int 0, .int 0, .int (-1), .int 1, .int 0, .int 0]) : va_E)) :: (a 1, f_ra K 2 10 (fun j => some (b (10 + j)))) :: ((pr a 10 ++ w1C K qc uc) ++ w1K K qk uk) := by
        rw [← w1S_ex K b, pr_congr (a := a) (b := b) 10 (fun j _ => ⟨(bn _ (by omega)).symm, (bn _ (by omega)).symm⟩)]
        rw [b0, b1, b2, b3, b4, b5, b6, b7, b8, b9]
      refine wc_vret (is := []) ⟨b, b0⟩ hC hr hk dX4_init_92 (fun H h => ?_) (fun h => ?_)
      · show va_P D vwCl (w1S K b) H
        rw [ew]
        refine va_P_1 h (fun h9 => ?_)
        show H[a 1]? = some (vp_cell _ _)
        rw [f_ra_cell (f := fun j => some (b (10 + j))) (g := fun j => if j < 10 then some (a (10 + j)) else none) (fun j hj => by rw [if_pos hj, bn _ (by omega)])]
        exact h9
      · show va_D _ (w1S K b)
        rw [ew]
        exact va_D_fst h rfl
    | succ d ih =>
      intro i a hd hi
      have hi9 : i < 10 := by omega
      refine wc_iload_n hC dX4_init_15 rfl rfl ?_
      refine wc_bipush (v := 10) hC dX4_init_16 (by decide) ?_
      refine wc_icmp_ge (tgt := 40) hC dX4_init_18 (by decide) (fun c => absurd (nI_lt (b := 10) hi9 (by decide)) (Int32.not_lt.mpr c)) (fun _ => ?_)
      refine wc_aload_n hC dX4_init_21 rfl rfl ?_
      refine wc_get (q0 := 0) (k := 0) hC rfl rfl iX4 (by decide) (by decide +kernel) rfl dX4_init_22 ?_
      refine wc_iload_n hC dX4_init_25 rfl rfl ?_
      refine wc_new (fs := [.null, .int 0, .int 0, .int 0, .int 0, .int 0, .int 0, .int 0, .int 0, .int 0]) hC iX3 tyX3 tyX3_ok (by decide +kernel) (by decide +kernel) (by decide +kernel) (ci := 3) rfl (by decide) (show 1 + 2 * i + 1 ≤ 29 by omega) (show 10 + 15 * i + 10 ≤ 3288 by omega) dX4_init_26 ?_
      intro q
      refine wc_dup hC dX4_init_29 rfl ?_
      refine wc_callL (wr := (h0, eS1 (a 1)) :: (a 1, eR K a i) :: pr a i) hC (kX3_init l D K q) (cwI 0 hC.1.2.2.2.2 gX4_init_X3_init rfl rfl rfl (hC.1.2.2.2.2 (.initialized RX3) (by decide +kernel)) (hC.1.2.2.2.2 (.methodLink RX4 17 yX3_init) (by decide +kernel)) (hC.1.2.2.2.2 (.instanceMethod yX3_init) (by decide +kernel)) rfl (by decide +kernel) ⟨Nat.le_of_ble_eq_true rfl, Nat.le_of_ble_eq_true rfl⟩) (Nat.le_of_ble_eq_true rfl) dX4_init_30 ⟨show 1 + 2 * i + 1 + 1 ≤ 29 by omega, show 10 + 15 * i + 10 + 5 ≤ 3288 by omega⟩ ?_
      intro u
      refine wc_astq (q0 := 1) (qk := (pr a i).length + 2) (t := 2) hC rfl rfl (show ((h0, eS1 (a 1)) :: (a 1, eR K a i) :: (pr a i ++ w1V q u))[(pr a i).length + 2]? = some (q, eV1 u) by show (pr a i ++ w1V q u)[(pr a i).length]? = _; rw [List.getElem?_append_right (Nat.le_refl _), Nat.sub_self]; rfl) rfl rfl (by omega) (by decide) dX4_init_33 ?_
      refine wc_iinc hC dX4_init_34 rfl (f_inc i) (by decide) rfl ?_
      refine wc_goto (tgt := 15) hC dX4_init_37 (by decide) ?_
      have hb : ∃ b : Nat → Nat, b (10 + i) = q ∧ b (20 + i) = u ∧ ∀ n, n ≠ 10 + i → n ≠ 20 + i → b n = a n := ⟨fun n => if n = 10 + i then q else if n = 20 + i then u else a n, by dsimp only; rw [if_pos rfl], by dsimp only; rw [if_neg (by omega), if_pos rfl], fun n h1 h2 => by dsimp only; rw [if_neg h1, if_neg h2]⟩
      obtain ⟨b, bq, bu, bn⟩ := hb
      refine wc_widen (k := 1 + 2 * (i + 1)) (n := 10 + 15 * (i + 1)) (show 1 + 2 * i + 1 + 1 ≤ _ by omega) (show 10 + 15 * i + 10 + 5 ≤ _ by omega) ?_
      refine Wc.eq (ws' := (h0, eS1 (b 1)) :: (b 1, eR K b (i + 1)) :: pr b (i + 1)) ?_ (ih (i + 1) b (by omega) (by omega))
      show (h0, eS1 (a 1)) :: (a 1, (.inl (K 2, 10, .inr (.inr (.inr (.inr (va_up (fun j => if j < i then some (a (10 + j)) else none) i (some q)))))) : va_E)) :: (pr a i ++ w1V q u) = _
      have e1 : va_up (fun j => if j < i then some (a (10 + j)) else none) i (some q) = (fun j => if j < i + 1 then some (b (10 + j)) else none) := by
        funext j
        unfold va_up
        by_cases hj : j = i
        · subst hj; rw [if_pos rfl, if_pos (by omega), bq]
        · rw [if_neg hj]
          dsimp only
          by_cases h2 : j < i
          · rw [if_pos h2, if_pos (by omega), bn _ (by omega) (by omega)]
          · rw [if_neg h2, if_neg (by omega)]
      have e2 : pr b (i + 1) = pr a i ++ w1V q u := by
        show pr b i ++ [(b (10 + i), eV1 (b (20 + i))), (b (20 + i), e0B)] = _
        rw [bq, bu, pr_congr (a := b) (b := a) i (fun j hj => ⟨bn _ (by omega) (by omega), bn _ (by omega) (by omega)⟩)]
      rw [e2, bn 1 (by omega) (by omega), e1]
  refine Wc.eq (ws' := (h0, eS1 ((fun _ => q1) 1)) :: ((fun _ => q1) 1, eR K (fun _ => q1) 0) :: pr (fun _ => q1) 0) ?_ (loop 10 0 (fun _ => q1) rfl (by decide))
  have e1 : (fun (j : Nat) => if j < 0 then some ((fun (_ : Nat) => q1) (10 + j)) else none) = (fun _ => none) := by
    funext j
    rw [if_neg (by omega)]
  show _ = (h0, eS1 q1) :: (q1, (f_ra K 2 10 (fun (j : Nat) => if j < 0 then some ((fun (_ : Nat) => q1) (10 + j)) else none))) :: []
  rw [e1]
  rfl
def w1P (K : Nat → ClassId) (h0 : Nat) (u : (Nat → Nat) × Nat) : va_W := (h0, (.inr (5, [.ref (u.1 0), .ref u.2]) : va_E)) :: (w1S K u.1 ++ [(u.2, f_ra K 3 2 (fun _ => none))])
set_option maxHeartbeats 4000000 in
set_option maxRecDepth 100000 in
theorem kX5_init (l : Launch) (D : va_G) (K : Nat → ClassId) (h0 : Nat) : KI l yX5_init wsX5_init { frames := 4, cells := 31, slots := 3304, locals := 81 } D K [.ref h0] [(h0, .inr (5, [.null, .null]))] (w1P K h0) := by
  refine KI.of (cc := cX5_init) (maxL := 1) (L := [some (.ref h0)]) (by decide +kernel) rfl rfl rfl (by decide) ?_
  intro p e s m args below meth c hC hin9 hr hk
  have iX4 : ∀ w ∈ wsX40, w ∈ wsX5_init := by decide +kernel
  have iX5 : ∀ w ∈ wsX50, w ∈ wsX5_init := by decide +kernel
  refine wc_aload_n hC dX5_init_0 rfl rfl ?_
  refine wc_objInit hC (by decide +kernel) (by decide +kernel) (by decide +kernel) dX5_init_1 (Nat.le_of_ble_eq_true rfl) (Nat.le_of_ble_eq_true rfl) ?_
  refine wc_aload_n hC dX5_init_4 rfl rfl ?_
  refine wc_new (fs := [.null, .null, .null, .int 0, .int 0, .int 0, .int 0, .int 0, .int 0, .int 0, .int 0, .int 0, .int 0, .int 0]) hC iX4 tyX4 tyX4_ok (by decide +kernel) (by decide +kernel) (by decide +kernel) (ci := 4) rfl (by decide) (Nat.le_of_ble_eq_true rfl) (Nat.le_of_ble_eq_true rfl) dX5_init_5 ?_
  intro q
  refine wc_dup hC dX5_init_8 rfl ?_
  refine wc_callL (wr := [(h0, (.inr (5, [.null, .null]) : va_E))]) hC (kX4_init l D K q) (cwI 0 hC.1.2.2.2.2 gX5_init_X4_init rfl rfl rfl (hC.1.2.2.2.2 (.initialized RX4) (by decide +kernel)) (hC.1.2.2.2.2 (.methodLink RX5 9 yX4_init) (by decide +kernel)) (hC.1.2.2.2.2 (.instanceMethod yX4_init) (by decide +kernel)) rfl (by decide +kernel) ⟨Nat.le_of_ble_eq_true rfl, Nat.le_of_ble_eq_true rfl⟩) (Nat.le_of_ble_eq_true rfl) dX5_init_9 ⟨Nat.le_of_ble_eq_true rfl, Nat.le_of_ble_eq_true rfl⟩ ?_
  intro u
  obtain ⟨a, ha⟩ := u
  subst ha
  refine wc_putF (q0 := 0) (k := 0) hC hin9 rfl rfl iX5 tyX5 tyX5_ok nmX5 (by decide) (by decide +kernel) rfl rfl rfl rfl rfl (Nat.le_of_ble_eq_true rfl) dX5_init_12 ?_
  refine wc_aload_n hC dX5_init_15 rfl rfl ?_
  refine wc_iconst (v := 2) hC dX5_init_16 (by decide) ?_
  refine wc_newq (C := "LoadBalancer$State") (t := 3) (N := 2) hC (by decide +kernel) hC.2.2.1.2.2 rfl (by decide) (by decide) (Nat.le_of_ble_eq_true rfl) (Nat.le_of_ble_eq_true rfl) dX5_init_17 ?_
  intro q2
  refine wc_putF (q0 := 0) (k := 1) hC hin9 rfl rfl iX5 tyX5 tyX5_ok nmX5 (by decide) (by decide +kernel) rfl rfl rfl rfl rfl (Nat.le_of_ble_eq_true rfl) dX5_init_20 ?_
  exact wc_vret (is := []) (a, q2) hC hr hk dX5_init_23 (fun H h => h) (fun h => h)
def A0 (j : Nat) : Int32 := if j = 2 then 2 else if j = 3 then 3 else if j = 5 then 5 else if j = 8 then 1 else if j = 9 then -1 else 0
def w1M (K : Nat → ClassId) (h0 : Nat) (u : Nat × Nat × Nat × Nat) : va_W := [(h0, (.inr (6, [.ref u.1, .ref u.2.1, .ref u.2.2.1, .int 0, .ref u.2.2.2, .int 0]) : va_E)), (u.1, .inl (K 0, 3263, .inl A0)), (u.2.1, zI K 0 6526), (u.2.2.1, zI K 1 2), (u.2.2.2, zI K 0 10)]
set_option maxHeartbeats 4000000 in
set_option maxRecDepth 100000 in
theorem kX6_init (l : Launch) (D : va_G) (K : Nat → ClassId) (h0 : Nat) : KI l yX6_init wsX6_init { frames := 1, cells := 4, slots := 9801, locals := 20 } D K [.ref h0] [(h0, .inr (6, [.null, .null, .null, .int 0, .null, .int 0]))] (w1M K h0) := by
  refine KI.of (cc := cX6_init) (maxL := 1) (L := [some (.ref h0)]) (by decide +kernel) rfl rfl rfl (by decide) ?_
  intro p e s m args below meth c hC hin9 hr hk
  have iX6 : ∀ w ∈ wsX60, w ∈ wsX6_init := by decide +kernel
  refine wc_aload_n hC dX6_init_0 rfl rfl ?_
  refine wc_objInit hC (by decide +kernel) (by decide +kernel) (by decide +kernel) dX6_init_1 (Nat.le_of_ble_eq_true rfl) (Nat.le_of_ble_eq_true rfl) ?_
  refine wc_aload_n hC dX6_init_4 rfl rfl ?_
  refine wc_sipush (v := 3263) hC dX6_init_5 (by decide) ?_
  refine wc_newi (N := 3263) hC (by decide +kernel) (by decide) (by decide) (Nat.le_of_ble_eq_true rfl) (Nat.le_of_ble_eq_true rfl) dX6_init_8 ?_
  intro q1
  refine wc_putF (q0 := 0) (k := 0) hC hin9 rfl rfl iX6 tyX6 tyX6_ok nmX6 (by decide) (by decide +kernel) rfl rfl rfl rfl rfl (Nat.le_of_ble_eq_true rfl) dX6_init_10 ?_
  refine wc_aload_n hC dX6_init_13 rfl rfl ?_
  refine wc_sipush (v := 6526) hC dX6_init_14 (by decide) ?_
  refine wc_newi (N := 6526) hC (by decide +kernel) (by decide) (by decide) (Nat.le_of_ble_eq_true rfl) (Nat.le_of_ble_eq_true rfl) dX6_init_17 ?_
  intro q2
  refine wc_putF (q0 := 0) (k := 1) hC hin9 rfl rfl iX6 tyX6 tyX6_ok nmX6 (by decide) (by decide +kernel) rfl rfl rfl rfl rfl (Nat.le_of_ble_eq_true rfl) dX6_init_19 ?_
  refine wc_aload_n hC dX6_init_22 rfl rfl ?_
  refine wc_iconst (v := 2) hC dX6_init_23 (by decide) ?_
  refine wc_newz (N := 2) hC (by decide +kernel) (by decide) (by decide) (Nat.le_of_ble_eq_true rfl) (Nat.le_of_ble_eq_true rfl) dX6_init_24 ?_
  intro q3
  refine wc_putF (q0 := 0) (k := 2) hC hin9 rfl rfl iX6 tyX6 tyX6_ok nmX6 (by decide) (by decide +kernel) rfl rfl rfl rfl rfl (Nat.le_of_ble_eq_true rfl) dX6_init_26 ?_
  refine wc_aload_n hC dX6_init_29 rfl rfl ?_
  refine wc_bipush (v := 10) hC dX6_init_30 (by decide) ?_
  refine wc_newi (N := 10) hC (by decide +kernel) (by decide) (by decide) (Nat.le_of_ble_eq_true rfl) (Nat.le_of_ble_eq_true rfl) dX6_init_32 ?_
  intro q4
  refine wc_putF (q0 := 0) (k := 4) hC hin9 rfl rfl iX6 tyX6 tyX6_ok nmX6 (by decide) (by decide +kernel) rfl rfl rfl rfl rfl (Nat.le_of_ble_eq_true rfl) dX6_init_34 ?_
  refine wc_aload_n hC dX6_init_37 rfl rfl ?_
  refine wc_get (q0 := 0) (k := 0) hC rfl rfl iX6 (by decide) (by decide +kernel) rfl dX6_init_38 ?_
  refine wc_iconst (v := 2) hC dX6_init_41 (by decide) ?_
  refine wc_iconst (v := 2) hC dX6_init_42 (by decide) ?_
  refine wc_iast (q0 := 1) (j := 2) hC rfl rfl (by decide) (by decide) dX6_init_43 ?_
  refine wc_aload_n hC dX6_init_44 rfl rfl ?_
  refine wc_get (q0 := 0) (k := 0) hC rfl rfl iX6 (by decide) (by decide +kernel) rfl dX6_init_45 ?_
  refine wc_iconst (v := 3) hC dX6_init_48 (by decide) ?_
  refine wc_iconst (v := 3) hC dX6_init_49 (by decide) ?_
  refine wc_iast (q0 := 1) (j := 3) hC rfl rfl (by decide) (by decide) dX6_init_50 ?_
  refine wc_aload_n hC dX6_init_51 rfl rfl ?_
  refine wc_get (q0 := 0) (k := 0) hC rfl rfl iX6 (by decide) (by decide +kernel) rfl dX6_init_52 ?_
  refine wc_iconst (v := 5) hC dX6_init_55 (by decide) ?_
  refine wc_iconst (v := 5) hC dX6_init_56 (by decide) ?_
  refine wc_iast (q0 := 1) (j := 5) hC rfl rfl (by decide) (by decide) dX6_init_57 ?_
  refine wc_aload_n hC dX6_init_58 rfl rfl ?_
  refine wc_get (q0 := 0) (k := 0) hC rfl rfl iX6 (by decide) (by decide +kernel) rfl dX6_init_59 ?_
  refine wc_bipush (v := 8) hC dX6_init_62 (by decide) ?_
  refine wc_iconst (v := 1) hC dX6_init_64 (by decide) ?_
  refine wc_iast (q0 := 1) (j := 8) hC rfl rfl (by decide) (by decide) dX6_init_65 ?_
  refine wc_aload_n hC dX6_init_66 rfl rfl ?_
  refine wc_get (q0 := 0) (k := 0) hC rfl rfl iX6 (by decide) (by decide +kernel) rfl dX6_init_67 ?_
  refine wc_bipush (v := 9) hC dX6_init_70 (by decide) ?_
  refine wc_iconst (v := (-1)) hC dX6_init_72 (by decide) ?_
  refine wc_iast (q0 := 1) (j := 9) hC rfl rfl (by decide) (by decide) dX6_init_73 ?_
  refine Wc.eq (ws' := w1M K h0 (q1, q2, q3, q4)) ?_ ?_
  · have e9 : upd (upd (upd (upd (upd (fun _ => (0 : Int32)) 2 2) 3 3) 5 5) 8 1) 9 (-1) = A0 := by
      funext j
      unfold A0 upd
      by_cases h2 : j = 2
      · subst h2; rfl
      by_cases h3 : j = 3
      · subst h3; rfl
      by_cases h5 : j = 5
      · subst h5; rfl
      by_cases h8 : j = 8
      · subst h8; rfl
      by_cases h9 : j = 9
      · subst h9; rfl
      simp [h2, h3, h5, h8, h9]
    unfold w1M
    rw [← e9]
    rfl
  exact wc_vret (is := []) (q1, q2, q3, q4) hC hr hk dX6_init_74 (fun H h => h) (fun h => h)
