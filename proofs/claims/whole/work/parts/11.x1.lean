/-! Clients -/
def sK_P (z : Nat) (cl : Int32) (G : fM) (j : Nat) : Bool := decide (G (iA z 400 j) = cl)
def sK_find (z : Nat) (cl : Int32) (n : Nat) (G : fM) : Option Nat := srch (sK_P z cl G) 0 n
def sK_bef (z : Nat) (G : fM) (a b : Nat) : Int32 := if G (iA z 500 a) < G (iA z 500 b) then 1 else if G (iA z 500 a) = G (iA z 500 b) then (if G (iA z 400 b) ≤ G (iA z 400 a) then 0 else 1) else 0
def sK_old (z : Nat) (G : fM) : Nat → Nat → Nat → Nat
  | 0, _, b => b
  | d + 1, i, b => sK_old z G d (i + 1) (if sK_bef z G i b = 0 then b else i)
/-- the place of a new client, and the memory then -/
def sK_newR (z n : Nat) (G : fM) : Nat := if n < 40 then n else sK_old z G 39 1 0
def sK_newG (z n : Nat) (G : fM) : fM := if n < 40 then upd G (iS z 21) (nI (n + 1)) else G
def sK_remP (z : Nat) (cl : Int32) (n : Nat) (G : fM) : Nat := match sK_find z cl n G with
  | some j => j
  | none => sK_newR z n G
def sK_remG (z : Nat) (cl : Int32) (n : Nat) (G : fM) : fM := match sK_find z cl n G with
  | some _ => G
  | none => sK_newG z n G
def sK_rem (z : Nat) (cl sv t : Int32) (n : Nat) (G : fM) : fM := upd (upd (upd (sK_remG z cl n G) (iA z 400 (sK_remP z cl n G)) cl) (iA z 450 (sK_remP z cl n G)) sv) (iA z 500 (sK_remP z cl n G)) t
theorem sK_old_lt (z : Nat) (G : fM) : ∀ (d i b : Nat), b < i → sK_old z G d i b < i + d := by
  intro d
  induction d with
  | zero => intro i b h; exact h
  | succ d ih =>
    intro i b h
    have h1 := ih (i + 1) (if sK_bef z G i b = 0 then b else i) (by split <;> omega)
    show sK_old z G d (i + 1) _ < _
    omega
theorem sK_remP_lt {z n : Nat} {cl : Int32} {G : fM} (hn : n ≤ 40) : sK_remP z cl n G < 40 := by
  unfold sK_remP
  split
  · rename_i j hj
    have := srch_lt _ _ _ hj
    omega
  · unfold sK_newR
    split
    · assumption
    · have := sK_old_lt z G 39 1 0 (by decide)
      omega

set_option maxHeartbeats 4000000 in
set_option maxRecDepth 100000 in
theorem kX1_placeOf (l : Launch) (D : va_G) (K : Nat → ClassId) (NL : List Nat) (ad : Nat → Nat) (G : fM) (x : fX) (z : Nat) (hz : f_ES NL z) (n : Nat) (hsz : G (iS z 21) = nI n) (hn : n ≤ 40) (cl : Int32) : Kd l yX1_placeOf wsX1_placeOf { frames := 0, cells := 0, slots := 0, locals := 0 } vwCl D K NL ad [.ref (ad (nm z 6)), .int cl] G x (some (.int (rI (sK_find z cl n G)))) G x := by
  refine Kd.of (cc := cX1_placeOf) (maxL := 3) (ret := (some .int)) (L := [some (.ref (ad (nm z 6))), some (.int cl), none]) (by decide +kernel) rfl rfl (Nat.le_of_ble_eq_true rfl) ?_
  intro p e s m args below meth c hC hN hr hk hnme
  have iX1 : ∀ w ∈ wsX10, w ∈ wsX1_placeOf := by decide +kernel
  have lp : ∀ (d : Nat) (k : Nat), n - k = d → k ≤ n → srch (sK_P z cl G) 0 n = srch (sK_P z cl G) k (n - k) → Wk p l e { frames := 0, cells := 0, slots := 0, locals := 0 } s m args below meth c vwCl D K NL ad (f_A NL ad s.heap.size) s.heap 3 0 0 (MQ below (f_Post vwCl D K NL ad G x (some (.int (rI (sK_find z cl n G)))) s.heap.size) args s 0 0 (f_A NL ad s.heap.size)) G x 2 [some (.ref (ad (nm z 6))), some (.int cl), some (.int (nI k))] [] := by
    intro d
    induction d using Nat.strongRecOn with
    | _ d ih =>
      intro k hd hkn hs
      refine fk_iload_n hC dX1_placeOf_2 rfl rfl ?_
      refine fk_aload_n hC dX1_placeOf_3 rfl rfl ?_
      refine fk_getK_3 hC hz iX1 (by decide +kernel) dX1_placeOf_4 ?_
      refine fk_icmp_ge (tgt := 28) hC dX1_placeOf_7 (by decide) (fun c7 => ?_) (fun c7 => ?_)
      · rw [hsz] at c7
        have q7 := f_le (by omega) (by omega) c7
        refine fk_iconst (v := (-1)) hC dX1_placeOf_28 (by decide) ?_
        exact fk_iret hC hr hk dX1_placeOf_29 (by unfold sK_find; rw [hs, srch_end q7 rfl]; rfl) rfl rfl
      · rw [hsz] at c7
        have q7 := f_nle (by omega) (by omega) c7
        refine fk_aload_n hC dX1_placeOf_10 rfl rfl ?_
        refine fk_getK_0 hC hz iX1 (by decide +kernel) dX1_placeOf_11 ?_
        refine fk_iload_n hC dX1_placeOf_14 rfl rfl ?_
        refine fk_ld_7 hC hz rfl (by omega) dX1_placeOf_15 ?_
        refine fk_iload_n hC dX1_placeOf_16 rfl rfl ?_
        refine fk_icmp_ne (tgt := 22) hC dX1_placeOf_17 (by decide) (fun c17 => ?_) (fun c17 => ?_)
        · refine fk_iinc hC dX1_placeOf_22 rfl (f_inc k) (by decide) rfl ?_
          refine fk_goto (tgt := 2) hC dX1_placeOf_25 (by decide) ?_
          exact ih (n - (k + 1)) (by omega) (k + 1) rfl (by omega) (hs.trans (srch_step q7 (by unfold sK_P; exact decide_eq_false c17) rfl))
        · refine fk_iload_n hC dX1_placeOf_20 rfl rfl ?_
          exact fk_iret hC hr hk dX1_placeOf_21 (by unfold sK_find; rw [hs, srch_hit (by omega) (by unfold sK_P; exact decide_eq_true c17)]; rfl) rfl rfl
  refine fk_iconst (v := 0) hC dX1_placeOf_0 (by decide) ?_
  refine fk_istore_n hC dX1_placeOf_1 rfl (by decide) rfl ?_
  exact lp n 0 rfl (Nat.zero_le _) rfl

set_option maxHeartbeats 4000000 in
set_option maxRecDepth 100000 in
theorem kX1_isForgottenBefore (l : Launch) (D : va_G) (K : Nat → ClassId) (NL : List Nat) (ad : Nat → Nat) (G : fM) (x : fX) (z : Nat) (hz : f_ES NL z) (a b : Nat) (ha : a < 40) (hb : b < 40) : Kd l yX1_isForgottenBefore wsX1_isForgottenBefore { frames := 0, cells := 0, slots := 0, locals := 0 } vwCl D K NL ad [.ref (ad (nm z 6)), .int (nI a), .int (nI b)] G x (some (.int (sK_bef z G a b))) G x := by
  refine Kd.of (cc := cX1_isForgottenBefore) (maxL := 3) (ret := (some .boolean)) (L := [some (.ref (ad (nm z 6))), some (.int (nI a)), some (.int (nI b))]) (by decide +kernel) rfl rfl (Nat.le_of_ble_eq_true rfl) ?_
  intro p e s m args below meth c hC hN hr hk hnme
  have iX1 : ∀ w ∈ wsX10, w ∈ wsX1_isForgottenBefore := by decide +kernel
  refine fk_aload_n hC dX1_isForgottenBefore_0 rfl rfl ?_
  refine fk_getK_2 hC hz iX1 (by decide +kernel) dX1_isForgottenBefore_1 ?_
  refine fk_iload_n hC dX1_isForgottenBefore_4 rfl rfl ?_
  refine fk_ld_9 hC hz rfl ha dX1_isForgottenBefore_5 ?_
  refine fk_aload_n hC dX1_isForgottenBefore_6 rfl rfl ?_
  refine fk_getK_2 hC hz iX1 (by decide +kernel) dX1_isForgottenBefore_7 ?_
  refine fk_iload_n hC dX1_isForgottenBefore_10 rfl rfl ?_
  refine fk_ld_9 hC hz rfl hb dX1_isForgottenBefore_11 ?_
  refine fk_icmp_lt (tgt := 45) hC dX1_isForgottenBefore_12 (by decide) (fun c12 => ?_) (fun c12 => ?_)
  · refine fk_iconst (v := 1) hC dX1_isForgottenBefore_45 (by decide) ?_
    refine fk_goto (tgt := 50) hC dX1_isForgottenBefore_46 (by decide) ?_
    exact fk_zret hC hr hk dX1_isForgottenBefore_50 rfl (by unfold sK_bef; rw [if_pos c12]) rfl rfl
  · refine fk_aload_n hC dX1_isForgottenBefore_15 rfl rfl ?_
    refine fk_getK_2 hC hz iX1 (by decide +kernel) dX1_isForgottenBefore_16 ?_
    refine fk_iload_n hC dX1_isForgottenBefore_19 rfl rfl ?_
    refine fk_ld_9 hC hz rfl ha dX1_isForgottenBefore_20 ?_
    refine fk_aload_n hC dX1_isForgottenBefore_21 rfl rfl ?_
    refine fk_getK_2 hC hz iX1 (by decide +kernel) dX1_isForgottenBefore_22 ?_
    refine fk_iload_n hC dX1_isForgottenBefore_25 rfl rfl ?_
    refine fk_ld_9 hC hz rfl hb dX1_isForgottenBefore_26 ?_
    refine fk_icmp_ne (tgt := 49) hC dX1_isForgottenBefore_27 (by decide) (fun c27 => ?_) (fun c27 => ?_)
    · refine fk_iconst (v := 0) hC dX1_isForgottenBefore_49 (by decide) ?_
      exact fk_zret hC hr hk dX1_isForgottenBefore_50 rfl (by unfold sK_bef; rw [if_neg c12, if_neg c27]) rfl rfl
    · refine fk_aload_n hC dX1_isForgottenBefore_30 rfl rfl ?_
      refine fk_getK_0 hC hz iX1 (by decide +kernel) dX1_isForgottenBefore_31 ?_
      refine fk_iload_n hC dX1_isForgottenBefore_34 rfl rfl ?_
      refine fk_ld_7 hC hz rfl ha dX1_isForgottenBefore_35 ?_
      refine fk_aload_n hC dX1_isForgottenBefore_36 rfl rfl ?_
      refine fk_getK_0 hC hz iX1 (by decide +kernel) dX1_isForgottenBefore_37 ?_
      refine fk_iload_n hC dX1_isForgottenBefore_40 rfl rfl ?_
      refine fk_ld_7 hC hz rfl hb dX1_isForgottenBefore_41 ?_
      refine fk_icmp_ge (tgt := 49) hC dX1_isForgottenBefore_42 (by decide) (fun c42 => ?_) (fun c42 => ?_)
      · refine fk_iconst (v := 0) hC dX1_isForgottenBefore_49 (by decide) ?_
        exact fk_zret hC hr hk dX1_isForgottenBefore_50 rfl (by unfold sK_bef; rw [if_neg c12, if_pos c27, if_pos c42]) rfl rfl
      · refine fk_iconst (v := 1) hC dX1_isForgottenBefore_45 (by decide) ?_
        refine fk_goto (tgt := 50) hC dX1_isForgottenBefore_46 (by decide) ?_
        exact fk_zret hC hr hk dX1_isForgottenBefore_50 rfl (by unfold sK_bef; rw [if_neg c12, if_pos c27, if_neg c42]) rfl rfl

set_option maxHeartbeats 4000000 in
set_option maxRecDepth 100000 in
theorem kX1_oldestPlace (l : Launch) (D : va_G) (K : Nat → ClassId) (NL : List Nat) (ad : Nat → Nat) (G : fM) (x : fX) (z : Nat) (hz : f_ES NL z) (hsz : G (iS z 21) = nI 40) : Kd l yX1_oldestPlace wsX1_oldestPlace { frames := 1, cells := 0, slots := 0, locals := 22 } vwCl D K NL ad [.ref (ad (nm z 6))] G x (some (.int (nI (sK_old z G 39 1 0)))) G x := by
  refine Kd.of (cc := cX1_oldestPlace) (maxL := 3) (ret := (some .int)) (L := [some (.ref (ad (nm z 6))), none, none]) (by decide +kernel) rfl rfl (Nat.le_of_ble_eq_true rfl) ?_
  intro p e s m args below meth c hC hN hr hk hnme
  have iX1 : ∀ w ∈ wsX10, w ∈ wsX1_oldestPlace := by decide +kernel
  have lp : ∀ (d : Nat) (k b : Nat), 40 - k = d → k ≤ 40 → b < k → sK_old z G 39 1 0 = sK_old z G (40 - k) k b → Wk p l e { frames := 1, cells := 0, slots := 0, locals := 22 } s m args below meth c vwCl D K NL ad (f_A NL ad s.heap.size) s.heap 3 0 0 (MQ below (f_Post vwCl D K NL ad G x (some (.int (nI (sK_old z G 39 1 0)))) s.heap.size) args s 0 0 (f_A NL ad s.heap.size)) G x 4 [some (.ref (ad (nm z 6))), some (.int (nI b)), some (.int (nI k))] [] := by
    intro d
    induction d using Nat.strongRecOn with
    | _ d ih =>
      intro k b hd hkn hb hs
      refine fk_iload_n hC dX1_oldestPlace_4 rfl rfl ?_
      refine fk_aload_n hC dX1_oldestPlace_5 rfl rfl ?_
      refine fk_getK_3 hC hz iX1 (by decide +kernel) dX1_oldestPlace_6 ?_
      refine fk_icmp_ge (tgt := 29) hC dX1_oldestPlace_9 (by decide) (fun c9 => ?_) (fun c9 => ?_)
      · rw [hsz] at c9
        have q9 := f_le (by omega) (by omega) c9
        refine fk_iload_n hC dX1_oldestPlace_29 rfl rfl ?_
        exact fk_iret hC hr hk dX1_oldestPlace_30 (by rw [hs, show 40 - k = 0 by omega]; rfl) rfl rfl
      · rw [hsz] at c9
        have q9 := f_nle (by omega) (by omega) c9
        refine fk_aload_n hC dX1_oldestPlace_12 rfl rfl ?_
        refine fk_iload_n hC dX1_oldestPlace_13 rfl rfl ?_
        refine fk_iload_n hC dX1_oldestPlace_14 rfl rfl ?_
        refine fk_callV hC hN (kX1_isForgottenBefore l D K NL ad _ x z hz k b (by omega) (by omega)) (hz.2 6 (by decide)) (f_e6 _ _ _ _ _ hz.1) rfl (cwV 2 hC.1.2.2.2.2 gX1_oldestPlace_X1_isForgottenBefore rfl rfl rfl (by decide +kernel) ⟨Nat.le_of_ble_eq_true rfl, Nat.le_of_ble_eq_true rfl⟩) rfl rfl (Nat.le_of_ble_eq_true rfl) dX1_oldestPlace_15 ⟨Nat.zero_le _, Nat.zero_le _⟩ ?_
        refine fk_if_eq (tgt := 23) hC dX1_oldestPlace_18 (by decide) (fun c18 => ?_) (fun c18 => ?_)
        · refine fk_iinc hC dX1_oldestPlace_23 rfl (f_inc k) (by decide) rfl ?_
          refine fk_goto (tgt := 4) hC dX1_oldestPlace_26 (by decide) ?_
          exact ih (40 - (k + 1)) (by omega) (k + 1) b rfl (by omega) (by omega) (hs.trans (by rw [show 40 - k = (40 - (k + 1)) + 1 by omega]; show sK_old z G (40 - (k + 1)) (k + 1) (if sK_bef z G k b = 0 then b else k) = _; rw [if_pos c18]))
        · refine fk_iload_n hC dX1_oldestPlace_21 rfl rfl ?_
          refine fk_istore_n hC dX1_oldestPlace_22 rfl (by decide) rfl ?_
          refine fk_iinc hC dX1_oldestPlace_23 rfl (f_inc k) (by decide) rfl ?_
          refine fk_goto (tgt := 4) hC dX1_oldestPlace_26 (by decide) ?_
          exact ih (40 - (k + 1)) (by omega) (k + 1) k rfl (by omega) (by omega) (hs.trans (by rw [show 40 - k = (40 - (k + 1)) + 1 by omega]; show sK_old z G (40 - (k + 1)) (k + 1) (if sK_bef z G k b = 0 then b else k) = _; rw [if_neg c18]))
  refine fk_iconst (v := 0) hC dX1_oldestPlace_0 (by decide) ?_
  refine fk_istore_n hC dX1_oldestPlace_1 rfl (by decide) rfl ?_
  refine fk_iconst (v := 1) hC dX1_oldestPlace_2 (by decide) ?_
  refine fk_istore_n hC dX1_oldestPlace_3 rfl (by decide) rfl ?_
  exact lp 39 1 0 rfl (by decide) (by decide) rfl

set_option maxHeartbeats 4000000 in
set_option maxRecDepth 100000 in
theorem kX1_newPlace (l : Launch) (D : va_G) (K : Nat → ClassId) (NL : List Nat) (ad : Nat → Nat) (G : fM) (x : fX) (z : Nat) (hz : f_ES NL z) (n : Nat) (hsz : G (iS z 21) = nI n) (hn : n ≤ 40) : Kd l yX1_newPlace wsX1_newPlace { frames := 2, cells := 0, slots := 0, locals := 44 } vwCl D K NL ad [.ref (ad (nm z 6))] G x (some (.int (nI (sK_newR z n G)))) (sK_newG z n G) x := by
  refine Kd.of (cc := cX1_newPlace) (maxL := 1) (ret := (some .int)) (L := [some (.ref (ad (nm z 6)))]) (by decide +kernel) rfl rfl (Nat.le_of_ble_eq_true rfl) ?_
  intro p e s m args below meth c hC hN hr hk hnme
  have iX1 : ∀ w ∈ wsX10, w ∈ wsX1_newPlace := by decide +kernel
  refine fk_aload_n hC dX1_newPlace_0 rfl rfl ?_
  refine fk_getK_3 hC hz iX1 (by decide +kernel) dX1_newPlace_1 ?_
  refine fk_bipush (v := 40) hC dX1_newPlace_4 (by decide) ?_
  refine fk_icmp_ge (tgt := 26) hC dX1_newPlace_6 (by decide) (fun c6 => ?_) (fun c6 => ?_)
  · rw [hsz] at c6
    have q6 : 40 ≤ n := f_le (a := 40) (by decide) (by omega) c6
    refine fk_aload_n hC dX1_newPlace_26 rfl rfl ?_
    refine fk_callV hC hN (kX1_oldestPlace l D K NL ad _ x z hz (by rw [hsz, show n = 40 by omega])) (hz.2 6 (by decide)) (f_e6 _ _ _ _ _ hz.1) rfl (cwV 0 hC.1.2.2.2.2 gX1_newPlace_X1_oldestPlace rfl rfl rfl (by decide +kernel) ⟨Nat.le_of_ble_eq_true rfl, Nat.le_of_ble_eq_true rfl⟩) rfl rfl (Nat.le_of_ble_eq_true rfl) dX1_newPlace_27 ⟨Nat.zero_le _, Nat.zero_le _⟩ ?_
    exact fk_iret hC hr hk dX1_newPlace_30 (by unfold sK_newR; rw [if_neg (by omega)]) (by unfold sK_newG; rw [if_neg (by omega)]) rfl
  · rw [hsz] at c6
    have q6 : n < 40 := f_nle (a := 40) (by decide) (by omega) c6
    refine fk_aload_n hC dX1_newPlace_9 rfl rfl ?_
    refine fk_dup hC dX1_newPlace_10 rfl ?_
    refine fk_getK_3 hC hz iX1 (by decide +kernel) dX1_newPlace_11 ?_
    refine fk_iconst (v := 1) hC dX1_newPlace_14 (by decide) ?_
    refine fk_iadd hC dX1_newPlace_15 ?_
    refine fk_putK_3 hC hz iX1 (by decide +kernel) dX1_newPlace_16 ?_
    refine fk_aload_n hC dX1_newPlace_19 rfl rfl ?_
    refine fk_getK_3 hC hz iX1 (by decide +kernel) dX1_newPlace_20 ?_
    refine fk_iconst (v := 1) hC dX1_newPlace_23 (by decide) ?_
    refine fk_isub hC dX1_newPlace_24 ?_
    exact fk_iret hC hr hk dX1_newPlace_25 (by unfold sK_newR; rw [if_pos q6, pk_us, hsz]; congr 2; rw [nI_1 n]; exact nI_pred n) (by unfold sK_newG; rw [if_pos q6, hsz, nI_1]) rfl

set_option maxHeartbeats 4000000 in
set_option maxRecDepth 100000 in
theorem kX1_remember (l : Launch) (D : va_G) (K : Nat → ClassId) (NL : List Nat) (ad : Nat → Nat) (G : fM) (x : fX) (z : Nat) (hz : f_ES NL z) (n : Nat) (hsz : G (iS z 21) = nI n) (hn : n ≤ 40) (cl sv t : Int32) : Kd l yX1_remember wsX1_remember { frames := 3, cells := 0, slots := 0, locals := 64 } vwCl D K NL ad [.ref (ad (nm z 6)), .int cl, .int sv, .int t] G x none (sK_rem z cl sv t n G) x := by
  refine Kd.of (cc := cX1_remember) (maxL := 5) (ret := none) (L := [some (.ref (ad (nm z 6))), some (.int cl), some (.int sv), some (.int t), none]) (by decide +kernel) rfl rfl (Nat.le_of_ble_eq_true rfl) ?_
  intro p e s m args below meth c hC hN hr hk hnme
  have iX1 : ∀ w ∈ wsX10, w ∈ wsX1_remember := by decide +kernel
  refine fk_aload_n hC dX1_remember_0 rfl rfl ?_
  refine fk_iload_n hC dX1_remember_1 rfl rfl ?_
  refine fk_callV hC hN (kX1_placeOf l D K NL ad _ x z hz n hsz hn _) (hz.2 6 (by decide)) (f_e6 _ _ _ _ _ hz.1) rfl (cwV 1 hC.1.2.2.2.2 gX1_remember_X1_placeOf rfl rfl rfl (by decide +kernel) ⟨Nat.le_of_ble_eq_true rfl, Nat.le_of_ble_eq_true rfl⟩) rfl rfl (Nat.le_of_ble_eq_true rfl) dX1_remember_2 ⟨Nat.zero_le _, Nat.zero_le _⟩ ?_
  rcases hf : sK_find z cl n G with _ | j
  · have hj : sK_newR z n G < 40 := by have := sK_remP_lt (z := z) (cl := cl) (G := G) hn; unfold sK_remP at this; rw [hf] at this; exact this
    refine fk_istore hC dX1_remember_5 (by decide) rfl ?_
    refine fk_iload hC dX1_remember_7 rfl ?_
    refine fk_iconst (v := (-1)) hC dX1_remember_9 (by decide) ?_
    refine fk_icmp_ne (tgt := 19) hC dX1_remember_10 (by decide) (fun c10 => ?_) (fun c10 => ?_)
    · exact absurd rfl c10
    · refine fk_aload_n hC dX1_remember_13 rfl rfl ?_
      refine fk_callV hC hN (kX1_newPlace l D K NL ad _ x z hz n hsz hn) (hz.2 6 (by decide)) (f_e6 _ _ _ _ _ hz.1) rfl (cwV 0 hC.1.2.2.2.2 gX1_remember_X1_newPlace rfl rfl rfl (by decide +kernel) ⟨Nat.le_of_ble_eq_true rfl, Nat.le_of_ble_eq_true rfl⟩) rfl rfl (Nat.le_of_ble_eq_true rfl) dX1_remember_14 ⟨Nat.zero_le _, Nat.zero_le _⟩ ?_
      refine fk_istore hC dX1_remember_17 (by decide) rfl ?_
      refine fk_aload_n hC dX1_remember_19 rfl rfl ?_
      refine fk_getK_0 hC hz iX1 (by decide +kernel) dX1_remember_20 ?_
      refine fk_iload hC dX1_remember_23 rfl ?_
      refine fk_iload_n hC dX1_remember_25 rfl rfl ?_
      refine fk_st_7 hC hz rfl hj dX1_remember_26 ?_
      refine fk_aload_n hC dX1_remember_27 rfl rfl ?_
      refine fk_getK_1 hC hz iX1 (by decide +kernel) dX1_remember_28 ?_
      refine fk_iload hC dX1_remember_31 rfl ?_
      refine fk_iload_n hC dX1_remember_33 rfl rfl ?_
      refine fk_st_8 hC hz rfl hj dX1_remember_34 ?_
      refine fk_aload_n hC dX1_remember_35 rfl rfl ?_
      refine fk_getK_2 hC hz iX1 (by decide +kernel) dX1_remember_36 ?_
      refine fk_iload hC dX1_remember_39 rfl ?_
      refine fk_iload_n hC dX1_remember_41 rfl rfl ?_
      refine fk_st_9 hC hz rfl hj dX1_remember_42 ?_
      exact fk_vret hC hr hk dX1_remember_43 rfl (by unfold sK_rem sK_remG sK_remP; rw [hf]) rfl
  · have hj : j < 40 := by have := srch_lt _ _ _ hf; omega
    refine fk_istore hC dX1_remember_5 (by decide) rfl ?_
    refine fk_iload hC dX1_remember_7 rfl ?_
    refine fk_iconst (v := (-1)) hC dX1_remember_9 (by decide) ?_
    refine fk_icmp_ne (tgt := 19) hC dX1_remember_10 (by decide) (fun c10 => ?_) (fun c10 => ?_)
    · refine fk_aload_n hC dX1_remember_19 rfl rfl ?_
      refine fk_getK_0 hC hz iX1 (by decide +kernel) dX1_remember_20 ?_
      refine fk_iload hC dX1_remember_23 rfl ?_
      refine fk_iload_n hC dX1_remember_25 rfl rfl ?_
      refine fk_st_7 hC hz rfl hj dX1_remember_26 ?_
      refine fk_aload_n hC dX1_remember_27 rfl rfl ?_
      refine fk_getK_1 hC hz iX1 (by decide +kernel) dX1_remember_28 ?_
      refine fk_iload hC dX1_remember_31 rfl ?_
      refine fk_iload_n hC dX1_remember_33 rfl rfl ?_
      refine fk_st_8 hC hz rfl hj dX1_remember_34 ?_
      refine fk_aload_n hC dX1_remember_35 rfl rfl ?_
      refine fk_getK_2 hC hz iX1 (by decide +kernel) dX1_remember_36 ?_
      refine fk_iload hC dX1_remember_39 rfl ?_
      refine fk_iload_n hC dX1_remember_41 rfl rfl ?_
      refine fk_st_9 hC hz rfl hj dX1_remember_42 ?_
      exact fk_vret hC hr hk dX1_remember_43 rfl (by unfold sK_rem sK_remG sK_remP; rw [hf]) rfl
    · exact absurd c10 (f_n1 (by omega))

set_option maxHeartbeats 4000000 in
set_option maxRecDepth 100000 in
theorem kX1_forgetAll (l : Launch) (D : va_G) (K : Nat → ClassId) (NL : List Nat) (ad : Nat → Nat) (G : fM) (x : fX) (z : Nat) (hz : f_ES NL z) : Kd l yX1_forgetAll wsX1_forgetAll { frames := 0, cells := 0, slots := 0, locals := 0 } vwCl D K NL ad [.ref (ad (nm z 6))] G x none (upd G (iS z 21) 0) x := by
  refine Kd.of (cc := cX1_forgetAll) (maxL := 1) (ret := none) (L := [some (.ref (ad (nm z 6)))]) (by decide +kernel) rfl rfl (Nat.le_of_ble_eq_true rfl) ?_
  intro p e s m args below meth c hC hN hr hk hnme
  have iX1 : ∀ w ∈ wsX10, w ∈ wsX1_forgetAll := by decide +kernel
  refine fk_aload_n hC dX1_forgetAll_0 rfl rfl ?_
  refine fk_iconst (v := 0) hC dX1_forgetAll_1 (by decide) ?_
  refine fk_putK_3 hC hz iX1 (by decide +kernel) dX1_forgetAll_2 ?_
  exact fk_vret hC hr hk dX1_forgetAll_5 rfl rfl rfl

/-! Connections -/
def sC_app (z : Nat) (sv t : Int32) (o : Nat) (G : fM) : fM := upd (upd (upd (upd G (iA z 1000 o) sv) (iA z 2000 o) t) (iA z 3000 o) 1) (iS z 20) (nI (o + 1))
def sC_live (z y : Nat) : Nat → fM → fM
  | 0, G => G
  | n + 1, G => upd (sC_live z y n G) (iA z 3000 n) (sC_live z y n G (iA y 3000 n))
def sC_copy (z y n : Nat) (G : fM) : fM := sC_live z y n (cpyM (cpyM (upd G (iS z 20) (G (iS y 20))) (10000 * y + 1000) (10000 * z + 1000) n) (10000 * y + 2000) (10000 * z + 2000) n)
def sK_copy (z y n : Nat) (G : fM) : fM := cpyM (cpyM (cpyM (upd G (iS z 21) (G (iS y 21))) (10000 * y + 400) (10000 * z + 400) n) (10000 * y + 450) (10000 * z + 450) n) (10000 * y + 500) (10000 * z + 500) n
theorem f_nar01 {v : Int32} (h : v = 0 ∨ v = 1) : vp_nar .boolean v = v := by
  rcases h with rfl | rfl <;> rfl
theorem cpyM_out {G : fM} {b0 b1 n g : Nat} (h : g < b1 ∨ b1 + n ≤ g) : cpyM G b0 b1 n g = G g := by
  unfold cpyM
  rw [if_neg (by omega)]
theorem sC_live_out {z y : Nat} {G : fM} : ∀ (n g : Nat), (g < 10000 * z + 3000 ∨ 10000 * z + 3000 + n ≤ g) → sC_live z y n G g = G g := by
  intro n
  induction n with
  | zero => intro g _; rfl
  | succ n ih =>
    intro g h
    show upd _ _ _ g = _
    rw [pk_un (by unfold iA; omega), ih g (by omega)]

set_option maxHeartbeats 4000000 in
set_option maxRecDepth 100000 in
theorem kX2_isFull (l : Launch) (D : va_G) (K : Nat → ClassId) (NL : List Nat) (ad : Nat → Nat) (G : fM) (x : fX) (z : Nat) (hz : f_ES NL z) : Kd l yX2_isFull wsX2_isFull { frames := 0, cells := 0, slots := 0, locals := 0 } vwCl D K NL ad [.ref (ad (nm z 2))] G x (some (.int (if G (iS z 20) < 1000 then 0 else 1))) G x := by
  refine Kd.of (cc := cX2_isFull) (maxL := 1) (ret := (some .boolean)) (L := [some (.ref (ad (nm z 2)))]) (by decide +kernel) rfl rfl (Nat.le_of_ble_eq_true rfl) ?_
  intro p e s m args below meth c hC hN hr hk hnme
  have iX2 : ∀ w ∈ wsX20, w ∈ wsX2_isFull := by decide +kernel
  refine fk_aload_n hC dX2_isFull_0 rfl rfl ?_
  refine fk_getC_3 hC hz iX2 (by decide +kernel) dX2_isFull_1 ?_
  refine fk_sipush (v := 1000) hC dX2_isFull_4 (by decide) ?_
  refine fk_icmp_lt (tgt := 14) hC dX2_isFull_7 (by decide) (fun c7 => ?_) (fun c7 => ?_)
  · refine fk_iconst (v := 0) hC dX2_isFull_14 (by decide) ?_
    exact fk_zret hC hr hk dX2_isFull_15 rfl (by rw [if_pos c7]) rfl rfl
  · refine fk_iconst (v := 1) hC dX2_isFull_10 (by decide) ?_
    refine fk_goto (tgt := 15) hC dX2_isFull_11 (by decide) ?_
    exact fk_zret hC hr hk dX2_isFull_15 rfl (by rw [if_neg c7]) rfl rfl

set_option maxHeartbeats 4000000 in
set_option maxRecDepth 100000 in
theorem kX2_append (l : Launch) (D : va_G) (K : Nat → ClassId) (NL : List Nat) (ad : Nat → Nat) (G : fM) (x : fX) (z : Nat) (hz : f_ES NL z) (o : Nat) (ho : G (iS z 20) = nI o) (hlt : o < 1000) (sv t : Int32) : Kd l yX2_append wsX2_append { frames := 0, cells := 0, slots := 0, locals := 0 } vwCl D K NL ad [.ref (ad (nm z 2)), .int sv, .int t] G x (some (.int (nI o))) (sC_app z sv t o G) x := by
  refine Kd.of (cc := cX2_append) (maxL := 4) (ret := (some .int)) (L := [some (.ref (ad (nm z 2))), some (.int sv), some (.int t), none]) (by decide +kernel) rfl rfl (Nat.le_of_ble_eq_true rfl) ?_
  intro p e s m args below meth c hC hN hr hk hnme
  have iX2 : ∀ w ∈ wsX20, w ∈ wsX2_append := by decide +kernel
  refine fk_aload_n hC dX2_append_0 rfl rfl ?_
  refine fk_getC_3 hC hz iX2 (by decide +kernel) dX2_append_1 ?_
  refine fk_istore_n hC dX2_append_4 rfl (by decide) rfl ?_
  refine fk_aload_n hC dX2_append_5 rfl rfl ?_
  refine fk_getC_0 hC hz iX2 (by decide +kernel) dX2_append_6 ?_
  refine fk_iload_n hC dX2_append_9 rfl rfl ?_
  refine fk_iload_n hC dX2_append_10 rfl rfl ?_
  refine fk_st_3 hC hz ho hlt dX2_append_11 ?_
  refine fk_aload_n hC dX2_append_12 rfl rfl ?_
  refine fk_getC_1 hC hz iX2 (by decide +kernel) dX2_append_13 ?_
  refine fk_iload_n hC dX2_append_16 rfl rfl ?_
  refine fk_iload_n hC dX2_append_17 rfl rfl ?_
  refine fk_st_4 hC hz ho hlt dX2_append_18 ?_
  refine fk_aload_n hC dX2_append_19 rfl rfl ?_
  refine fk_getC_2 hC hz iX2 (by decide +kernel) dX2_append_20 ?_
  refine fk_iload_n hC dX2_append_23 rfl rfl ?_
  refine fk_iconst (v := 1) hC dX2_append_24 (by decide) ?_
  refine fk_st_5 hC hz ho hlt rfl dX2_append_25 ?_
  refine fk_aload_n hC dX2_append_26 rfl rfl ?_
  refine fk_iload_n hC dX2_append_27 rfl rfl ?_
  refine fk_iconst (v := 1) hC dX2_append_28 (by decide) ?_
  refine fk_iadd hC dX2_append_29 ?_
  refine fk_putC_3 hC hz iX2 (by decide +kernel) dX2_append_30 ?_
  refine fk_iload_n hC dX2_append_33 rfl rfl ?_
  exact fk_iret hC hr hk dX2_append_34 (by rw [ho]) (by unfold sC_app; rw [ho, nI_1]) rfl

set_option maxHeartbeats 4000000 in
set_option maxRecDepth 100000 in
theorem kX1_copyFrom (l : Launch) (D : va_G) (K : Nat → ClassId) (NL : List Nat) (ad : Nat → Nat) (G : fM) (x : fX) (z y : Nat) (hz : f_ES NL z) (hy : f_ES NL y) (hne : z ≠ y) (n : Nat) (hsy : G (iS y 21) = nI n) (hn : n ≤ 40) : Kd l yX1_copyFrom wsX1_copyFrom { frames := 1, cells := 0, slots := 0, locals := 26 } vwCl D K NL ad [.ref (ad (nm z 6)), .ref (ad (nm y 6))] G x none (sK_copy z y n G) x := by
  refine Kd.of (cc := cX1_copyFrom) (maxL := 2) (ret := none) (L := [some (.ref (ad (nm z 6))), some (.ref (ad (nm y 6)))]) (by decide +kernel) rfl rfl (Nat.le_of_ble_eq_true rfl) ?_
  intro p e s m args below meth c hC hN hr hk hnme
  have iX1 : ∀ w ∈ wsX10, w ∈ wsX1_copyFrom := by decide +kernel
  refine fk_aload_n hC dX1_copyFrom_0 rfl rfl ?_
  refine fk_aload_n hC dX1_copyFrom_1 rfl rfl ?_
  refine fk_getK_3 hC hy iX1 (by decide +kernel) dX1_copyFrom_2 ?_
  refine fk_putK_3 hC hz iX1 (by decide +kernel) dX1_copyFrom_5 ?_
  refine fk_aload_n hC dX1_copyFrom_8 rfl rfl ?_
  refine fk_getK_0 hC hy iX1 (by decide +kernel) dX1_copyFrom_9 ?_
  refine fk_iconst (v := 0) hC dX1_copyFrom_12 (by decide) ?_
  refine fk_aload_n hC dX1_copyFrom_13 rfl rfl ?_
  refine fk_getK_0 hC hz iX1 (by decide +kernel) dX1_copyFrom_14 ?_
  refine fk_iconst (v := 0) hC dX1_copyFrom_17 (by decide) ?_
  refine fk_aload_n hC dX1_copyFrom_18 rfl rfl ?_
  refine fk_getK_3 hC hz iX1 (by decide +kernel) dX1_copyFrom_19 ?_
  refine fk_copyi (n := n) hC (hy.2 7 (by decide)) (hz.2 7 (by decide)) (f_e7 K NL ad _ x hy.1) (fun G9 => f_e7 K NL ad G9 x hz.1) (by rw [pk_us, hsy]) (by omega) (by omega) (by decide) (fun j hj => f_own_7 z j hz.1 (by omega)) (by decide +kernel) (by decide +kernel) (by decide +kernel) (by decide +kernel) (Nat.le_of_ble_eq_true rfl) (Nat.le_of_ble_eq_true rfl) dX1_copyFrom_22 ?_
  refine fk_aload_n hC dX1_copyFrom_25 rfl rfl ?_
  refine fk_getK_1 hC hy iX1 (by decide +kernel) dX1_copyFrom_26 ?_
  refine fk_iconst (v := 0) hC dX1_copyFrom_29 (by decide) ?_
  refine fk_aload_n hC dX1_copyFrom_30 rfl rfl ?_
  refine fk_getK_1 hC hz iX1 (by decide +kernel) dX1_copyFrom_31 ?_
  refine fk_iconst (v := 0) hC dX1_copyFrom_34 (by decide) ?_
  refine fk_aload_n hC dX1_copyFrom_35 rfl rfl ?_
  refine fk_getK_3 hC hz iX1 (by decide +kernel) dX1_copyFrom_36 ?_
  refine fk_copyi (n := n) hC (hy.2 8 (by decide)) (hz.2 8 (by decide)) (f_e8 K NL ad _ x hy.1) (fun G9 => f_e8 K NL ad G9 x hz.1) (by rw [cpyM_out (Or.inl (by unfold iS; omega)), pk_us, hsy]) (by omega) (by omega) (by decide) (fun j hj => f_own_8 z j hz.1 (by omega)) (by decide +kernel) (by decide +kernel) (by decide +kernel) (by decide +kernel) (Nat.le_of_ble_eq_true rfl) (Nat.le_of_ble_eq_true rfl) dX1_copyFrom_39 ?_
  refine fk_aload_n hC dX1_copyFrom_42 rfl rfl ?_
  refine fk_getK_2 hC hy iX1 (by decide +kernel) dX1_copyFrom_43 ?_
  refine fk_iconst (v := 0) hC dX1_copyFrom_46 (by decide) ?_
  refine fk_aload_n hC dX1_copyFrom_47 rfl rfl ?_
  refine fk_getK_2 hC hz iX1 (by decide +kernel) dX1_copyFrom_48 ?_
  refine fk_iconst (v := 0) hC dX1_copyFrom_51 (by decide) ?_
  refine fk_aload_n hC dX1_copyFrom_52 rfl rfl ?_
  refine fk_getK_3 hC hz iX1 (by decide +kernel) dX1_copyFrom_53 ?_
  refine fk_copyi (n := n) hC (hy.2 9 (by decide)) (hz.2 9 (by decide)) (f_e9 K NL ad _ x hy.1) (fun G9 => f_e9 K NL ad G9 x hz.1) (by rw [cpyM_out (Or.inl (by unfold iS; omega)), cpyM_out (Or.inl (by unfold iS; omega)), pk_us, hsy]) (by omega) (by omega) (by decide) (fun j hj => f_own_9 z j hz.1 (by omega)) (by decide +kernel) (by decide +kernel) (by decide +kernel) (by decide +kernel) (Nat.le_of_ble_eq_true rfl) (Nat.le_of_ble_eq_true rfl) dX1_copyFrom_56 ?_
  exact fk_vret hC hr hk dX1_copyFrom_59 rfl rfl rfl

set_option maxHeartbeats 4000000 in
set_option maxRecDepth 100000 in
theorem kX2_copyFrom (l : Launch) (D : va_G) (K : Nat → ClassId) (NL : List Nat) (ad : Nat → Nat) (G : fM) (x : fX) (z y : Nat) (hz : f_ES NL z) (hy : f_ES NL y) (hne : z ≠ y) (n : Nat) (hsy : G (iS y 20) = nI n) (hn : n ≤ 1000) (hb : ∀ j, j < n → G (iA y 3000 j) = 0 ∨ G (iA y 3000 j) = 1) : Kd l yX2_copyFrom wsX2_copyFrom { frames := 1, cells := 0, slots := 0, locals := 26 } vwCl D K NL ad [.ref (ad (nm z 2)), .ref (ad (nm y 2))] G x none (sC_copy z y n G) x := by
  refine Kd.of (cc := cX2_copyFrom) (maxL := 3) (ret := none) (L := [some (.ref (ad (nm z 2))), some (.ref (ad (nm y 2))), none]) (by decide +kernel) rfl rfl (Nat.le_of_ble_eq_true rfl) ?_
  intro p e s m args below meth c hC hN hr hk hnme
  have iX2 : ∀ w ∈ wsX20, w ∈ wsX2_copyFrom := by decide +kernel
  have lp : ∀ (d : Nat) (k : Nat), n - k = d → k ≤ n → Wk p l e { frames := 1, cells := 0, slots := 0, locals := 26 } s m args below meth c vwCl D K NL ad (f_A NL ad s.heap.size) s.heap 3 0 0 (MQ below (f_Post vwCl D K NL ad (sC_copy z y n G) x none s.heap.size) args s 0 0 (f_A NL ad s.heap.size)) (sC_live z y k (cpyM (cpyM (upd G (iS z 20) (G (iS y 20))) (10000 * y + 1000) (10000 * z + 1000) n) (10000 * y + 2000) (10000 * z + 2000) n)) x 44 [some (.ref (ad (nm z 2))), some (.ref (ad (nm y 2))), some (.int (nI k))] [] := by
    intro d
    induction d using Nat.strongRecOn with
    | _ d ih =>
      intro k hd hkn
      have hS : sC_live z y k (cpyM (cpyM (upd G (iS z 20) (G (iS y 20))) (10000 * y + 1000) (10000 * z + 1000) n) (10000 * y + 2000) (10000 * z + 2000) n) (iS z 20) = nI n := by rw [sC_live_out k _ (Or.inl (by unfold iS; omega)), cpyM_out (Or.inl (by unfold iS; omega)), cpyM_out (Or.inl (by unfold iS; omega)), pk_us, hsy]
      have hbk : ∀ j, j < n → sC_live z y k (cpyM (cpyM (upd G (iS z 20) (G (iS y 20))) (10000 * y + 1000) (10000 * z + 1000) n) (10000 * y + 2000) (10000 * z + 2000) n) (iA y 3000 j) = 0 ∨ sC_live z y k (cpyM (cpyM (upd G (iS z 20) (G (iS y 20))) (10000 * y + 1000) (10000 * z + 1000) n) (10000 * y + 2000) (10000 * z + 2000) n) (iA y 3000 j) = 1 := by
        intro j hj
        have h1 := hz.1
        have h2 := hy.1
        rw [sC_live_out k _ (by unfold iA; omega), cpyM_out (by unfold iA; omega), cpyM_out (by unfold iA; omega), pk_un (by unfold iA iS; omega)]
        exact hb j hj
      refine fk_iload_n hC dX2_copyFrom_44 rfl rfl ?_
      refine fk_aload_n hC dX2_copyFrom_45 rfl rfl ?_
      refine fk_getC_3 hC hz iX2 (by decide +kernel) dX2_copyFrom_46 ?_
      refine fk_icmp_ge (tgt := 70) hC dX2_copyFrom_49 (by decide) (fun c49 => ?_) (fun c49 => ?_)
      · rw [hS] at c49
        have q49 := f_le (by omega) (by omega) c49
        exact fk_vret hC hr hk dX2_copyFrom_70 rfl (by unfold sC_copy; rw [show k = n by omega]) rfl
      · rw [hS] at c49
        have q49 := f_nle (by omega) (by omega) c49
        have hb1 := hbk k q49
        refine fk_aload_n hC dX2_copyFrom_52 rfl rfl ?_
        refine fk_getC_2 hC hz iX2 (by decide +kernel) dX2_copyFrom_53 ?_
        refine fk_iload_n hC dX2_copyFrom_56 rfl rfl ?_
        refine fk_aload_n hC dX2_copyFrom_57 rfl rfl ?_
        refine fk_getC_2 hC hy iX2 (by decide +kernel) dX2_copyFrom_58 ?_
        refine fk_iload_n hC dX2_copyFrom_61 rfl rfl ?_
        refine fk_ld_5 hC hy rfl (by omega) dX2_copyFrom_62 ?_
        refine fk_st_5 hC hz rfl (by omega) (f_nar01 hb1) dX2_copyFrom_63 ?_
        refine fk_iinc hC dX2_copyFrom_64 rfl (f_inc k) (by decide) rfl ?_
        refine fk_goto (tgt := 44) hC dX2_copyFrom_67 (by decide) ?_
        exact ih (n - (k + 1)) (by omega) (k + 1) rfl (by omega)
  refine fk_aload_n hC dX2_copyFrom_0 rfl rfl ?_
  refine fk_aload_n hC dX2_copyFrom_1 rfl rfl ?_
  refine fk_getC_3 hC hy iX2 (by decide +kernel) dX2_copyFrom_2 ?_
  refine fk_putC_3 hC hz iX2 (by decide +kernel) dX2_copyFrom_5 ?_
  refine fk_aload_n hC dX2_copyFrom_8 rfl rfl ?_
  refine fk_getC_0 hC hy iX2 (by decide +kernel) dX2_copyFrom_9 ?_
  refine fk_iconst (v := 0) hC dX2_copyFrom_12 (by decide) ?_
  refine fk_aload_n hC dX2_copyFrom_13 rfl rfl ?_
  refine fk_getC_0 hC hz iX2 (by decide +kernel) dX2_copyFrom_14 ?_
  refine fk_iconst (v := 0) hC dX2_copyFrom_17 (by decide) ?_
  refine fk_aload_n hC dX2_copyFrom_18 rfl rfl ?_
  refine fk_getC_3 hC hz iX2 (by decide +kernel) dX2_copyFrom_19 ?_
  refine fk_copyi (n := n) hC (hy.2 3 (by decide)) (hz.2 3 (by decide)) (f_e3 K NL ad _ x hy.1) (fun G9 => f_e3 K NL ad G9 x hz.1) (by rw [pk_us, hsy]) (by omega) (by omega) (by decide) (fun j hj => f_own_3 z j hz.1 (by omega)) (by decide +kernel) (by decide +kernel) (by decide +kernel) (by decide +kernel) (Nat.le_of_ble_eq_true rfl) (Nat.le_of_ble_eq_true rfl) dX2_copyFrom_22 ?_
  refine fk_aload_n hC dX2_copyFrom_25 rfl rfl ?_
  refine fk_getC_1 hC hy iX2 (by decide +kernel) dX2_copyFrom_26 ?_
  refine fk_iconst (v := 0) hC dX2_copyFrom_29 (by decide) ?_
  refine fk_aload_n hC dX2_copyFrom_30 rfl rfl ?_
  refine fk_getC_1 hC hz iX2 (by decide +kernel) dX2_copyFrom_31 ?_
  refine fk_iconst (v := 0) hC dX2_copyFrom_34 (by decide) ?_
  refine fk_aload_n hC dX2_copyFrom_35 rfl rfl ?_
  refine fk_getC_3 hC hz iX2 (by decide +kernel) dX2_copyFrom_36 ?_
  refine fk_copyi (n := n) hC (hy.2 4 (by decide)) (hz.2 4 (by decide)) (f_e4 K NL ad _ x hy.1) (fun G9 => f_e4 K NL ad G9 x hz.1) (by rw [cpyM_out (Or.inl (by unfold iS; omega)), pk_us, hsy]) (by omega) (by omega) (by decide) (fun j hj => f_own_4 z j hz.1 (by omega)) (by decide +kernel) (by decide +kernel) (by decide +kernel) (by decide +kernel) (Nat.le_of_ble_eq_true rfl) (Nat.le_of_ble_eq_true rfl) dX2_copyFrom_39 ?_
  refine fk_iconst (v := 0) hC dX2_copyFrom_42 (by decide) ?_
  refine fk_istore_n hC dX2_copyFrom_43 rfl (by decide) rfl ?_
  exact lp n 0 rfl (Nat.zero_le _)

