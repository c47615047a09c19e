/-! Breaker: what its methods do to the memory -/
def sB_shut (z i : Nat) (G : fM) : fM := upd (upd (upd G (iB z i 0) 0) (iB z i 3) 0) (iB z i 4) 0
def sB_trip (z i : Nat) (t : Int32) (G : fM) : fM := upd (upd G (iB z i 0) 1) (iB z i 1) t
def sB_cool (z i : Nat) (t co : Int32) (G : fM) : fM := if G (iB z i 0) = 1 then (if t - G (iB z i 1) < co then G else upd (upd G (iB z i 0) 2) (iB z i 2) (-1)) else G
def sB_lets (z i : Nat) (G : fM) : Int32 := if G (iB z i 0) = 0 then 1 else if G (iB z i 0) = 2 then (if G (iB z i 2) = -1 then 1 else 0) else 0
def sB_nbeg (z i : Nat) (cn : Int32) (G : fM) : fM := if G (iB z i 0) = 2 then upd G (iB z i 2) cn else G
/-- Integer.bitCount, as its code has it -/
def sJ_b1 (v : Int32) : Int32 := v - ((v.toUInt32 >>> ((1 : Int32).toUInt32 &&& Int32.toUInt32 31)).toInt32 &&& 1431655765)
def sJ_b2 (v : Int32) : Int32 := (v &&& 858993459) + ((v.toUInt32 >>> ((2 : Int32).toUInt32 &&& Int32.toUInt32 31)).toInt32 &&& 858993459)
def sJ_b3 (v : Int32) : Int32 := (v + (v.toUInt32 >>> ((4 : Int32).toUInt32 &&& Int32.toUInt32 31)).toInt32) &&& 252645135
def sJ_b4 (v : Int32) : Int32 := v + (v.toUInt32 >>> ((8 : Int32).toUInt32 &&& Int32.toUInt32 31)).toInt32
def sJ_b5 (v : Int32) : Int32 := v + (v.toUInt32 >>> ((16 : Int32).toUInt32 &&& Int32.toUInt32 31)).toInt32
def sJ_bc (v : Int32) : Int32 := sJ_b5 (sJ_b4 (sJ_b3 (sJ_b2 (sJ_b1 v)))) &&& 63
def sB_add1 (z i : Nat) (gd : Int32) (G : fM) : fM := upd G (iB z i 4) ((G (iB z i 4) <<< ((1 : Int32) &&& 31) ||| (if gd = 0 then 1 else 0)) &&& 255)
def sB_add2 (z i : Nat) (G : fM) : fM := if 8 ≤ G (iB z i 3) then G else upd G (iB z i 3) (G (iB z i 3) + 1)
def sB_add3 (z i : Nat) (t : Int32) (G : fM) : fM := if G (iB z i 3) < 4 then G else if 2 * sJ_bc (G (iB z i 4)) < G (iB z i 3) then G else sB_trip z i t G
def sB_add (z i : Nat) (gd t : Int32) (G : fM) : fM := sB_add3 z i t (sB_add2 z i (sB_add1 z i gd G))
def sB_endT (z i : Nat) (gd t : Int32) (G : fM) : fM := if gd = 0 then sB_trip z i t G else sB_shut z i G
def sB_nend (z i : Nat) (cn gd t : Int32) (G : fM) : fM := if G (iB z i 0) = 0 then sB_add z i gd t G else if G (iB z i 0) = 2 then (if G (iB z i 2) = cn then sB_endT z i gd t G else G) else G

set_option maxHeartbeats 4000000 in
set_option maxRecDepth 100000 in
theorem kX0_shut (l : Launch) (D : va_G) (K : Nat → ClassId) (NL : List Nat) (ad : Nat → Nat) (G : fM) (x : fX) (z i : Nat) (hz : f_ES NL z) (hi : i < 10) : Kd l yX0_shut wsX0_shut { frames := 0, cells := 0, slots := 0, locals := 0 } vwCl D K NL ad [.ref (ad (nB z i))] G x none (sB_shut z i G) x := by
  refine Kd.of (cc := cX0_shut) (maxL := 1) (ret := none) (L := [some (.ref (ad (nB z i)))]) (by decide +kernel) rfl rfl (Nat.le_of_ble_eq_true rfl) ?_
  intro p e s m args below meth c hC hN hr hk hnme
  have iX0 : ∀ w ∈ wsX00, w ∈ wsX0_shut := by decide +kernel
  refine fk_aload_n hC dX0_shut_0 rfl rfl ?_
  refine fk_iconst (v := 0) hC dX0_shut_1 (by decide) ?_
  refine fk_putB_0 hC hz hi iX0 (by decide +kernel) dX0_shut_2 ?_
  refine fk_aload_n hC dX0_shut_5 rfl rfl ?_
  refine fk_iconst (v := 0) hC dX0_shut_6 (by decide) ?_
  refine fk_putB_3 hC hz hi iX0 (by decide +kernel) dX0_shut_7 ?_
  refine fk_aload_n hC dX0_shut_10 rfl rfl ?_
  refine fk_iconst (v := 0) hC dX0_shut_11 (by decide) ?_
  refine fk_putB_4 hC hz hi iX0 (by decide +kernel) dX0_shut_12 ?_
  exact fk_vret hC hr hk dX0_shut_15 rfl rfl rfl

set_option maxHeartbeats 4000000 in
set_option maxRecDepth 100000 in
theorem kX0_trip (l : Launch) (D : va_G) (K : Nat → ClassId) (NL : List Nat) (ad : Nat → Nat) (G : fM) (x : fX) (z i : Nat) (hz : f_ES NL z) (hi : i < 10) (t : Int32) : Kd l yX0_trip wsX0_trip { frames := 0, cells := 0, slots := 0, locals := 0 } vwCl D K NL ad [.ref (ad (nB z i)), .int t] G x none (sB_trip z i t G) x := by
  refine Kd.of (cc := cX0_trip) (maxL := 2) (ret := none) (L := [some (.ref (ad (nB z i))), some (.int t)]) (by decide +kernel) rfl rfl (Nat.le_of_ble_eq_true rfl) ?_
  intro p e s m args below meth c hC hN hr hk hnme
  have iX0 : ∀ w ∈ wsX00, w ∈ wsX0_trip := by decide +kernel
  refine fk_aload_n hC dX0_trip_0 rfl rfl ?_
  refine fk_iconst (v := 1) hC dX0_trip_1 (by decide) ?_
  refine fk_putB_0 hC hz hi iX0 (by decide +kernel) dX0_trip_2 ?_
  refine fk_aload_n hC dX0_trip_5 rfl rfl ?_
  refine fk_iload_n hC dX0_trip_6 rfl rfl ?_
  refine fk_putB_1 hC hz hi iX0 (by decide +kernel) dX0_trip_7 ?_
  exact fk_vret hC hr hk dX0_trip_10 rfl rfl rfl

set_option maxHeartbeats 4000000 in
set_option maxRecDepth 100000 in
theorem kX0_coolDown (l : Launch) (D : va_G) (K : Nat → ClassId) (NL : List Nat) (ad : Nat → Nat) (G : fM) (x : fX) (z i : Nat) (hz : f_ES NL z) (hi : i < 10) (t co : Int32) : Kd l yX0_coolDown wsX0_coolDown { frames := 0, cells := 0, slots := 0, locals := 0 } vwCl D K NL ad [.ref (ad (nB z i)), .int t, .int co] G x none (sB_cool z i t co G) x := by
  refine Kd.of (cc := cX0_coolDown) (maxL := 3) (ret := none) (L := [some (.ref (ad (nB z i))), some (.int t), some (.int co)]) (by decide +kernel) rfl rfl (Nat.le_of_ble_eq_true rfl) ?_
  intro p e s m args below meth c hC hN hr hk hnme
  have iX0 : ∀ w ∈ wsX00, w ∈ wsX0_coolDown := by decide +kernel
  refine fk_aload_n hC dX0_coolDown_0 rfl rfl ?_
  refine fk_getB_0 hC hz hi iX0 (by decide +kernel) dX0_coolDown_1 ?_
  refine fk_iconst (v := 1) hC dX0_coolDown_4 (by decide) ?_
  refine fk_icmp_ne (tgt := 28) hC dX0_coolDown_5 (by decide) (fun c5 => ?_) (fun c5 => ?_)
  · exact fk_vret hC hr hk dX0_coolDown_28 rfl (by unfold sB_cool; rw [if_neg c5]) rfl
  · refine fk_iload_n hC dX0_coolDown_8 rfl rfl ?_
    refine fk_aload_n hC dX0_coolDown_9 rfl rfl ?_
    refine fk_getB_1 hC hz hi iX0 (by decide +kernel) dX0_coolDown_10 ?_
    refine fk_isub hC dX0_coolDown_13 ?_
    refine fk_iload_n hC dX0_coolDown_14 rfl rfl ?_
    refine fk_icmp_lt (tgt := 28) hC dX0_coolDown_15 (by decide) (fun c15 => ?_) (fun c15 => ?_)
    · exact fk_vret hC hr hk dX0_coolDown_28 rfl (by unfold sB_cool; rw [if_pos c5, if_pos c15]) rfl
    · refine fk_aload_n hC dX0_coolDown_18 rfl rfl ?_
      refine fk_iconst (v := 2) hC dX0_coolDown_19 (by decide) ?_
      refine fk_putB_0 hC hz hi iX0 (by decide +kernel) dX0_coolDown_20 ?_
      refine fk_aload_n hC dX0_coolDown_23 rfl rfl ?_
      refine fk_iconst (v := (-1)) hC dX0_coolDown_24 (by decide) ?_
      refine fk_putB_2 hC hz hi iX0 (by decide +kernel) dX0_coolDown_25 ?_
      exact fk_vret hC hr hk dX0_coolDown_28 rfl (by unfold sB_cool; rw [if_pos c5, if_neg c15]) rfl

set_option maxHeartbeats 4000000 in
set_option maxRecDepth 100000 in
theorem kX0_letsThrough (l : Launch) (D : va_G) (K : Nat → ClassId) (NL : List Nat) (ad : Nat → Nat) (G : fM) (x : fX) (z i : Nat) (hz : f_ES NL z) (hi : i < 10) : Kd l yX0_letsThrough wsX0_letsThrough { frames := 0, cells := 0, slots := 0, locals := 0 } vwCl D K NL ad [.ref (ad (nB z i))] G x (some (.int (sB_lets z i G))) G x := by
  refine Kd.of (cc := cX0_letsThrough) (maxL := 1) (ret := (some .boolean)) (L := [some (.ref (ad (nB z i)))]) (by decide +kernel) rfl rfl (Nat.le_of_ble_eq_true rfl) ?_
  intro p e s m args below meth c hC hN hr hk hnme
  have iX0 : ∀ w ∈ wsX00, w ∈ wsX0_letsThrough := by decide +kernel
  refine fk_aload_n hC dX0_letsThrough_0 rfl rfl ?_
  refine fk_getB_0 hC hz hi iX0 (by decide +kernel) dX0_letsThrough_1 ?_
  refine fk_if_eq (tgt := 23) hC dX0_letsThrough_4 (by decide) (fun c4 => ?_) (fun c4 => ?_)
  · refine fk_iconst (v := 1) hC dX0_letsThrough_23 (by decide) ?_
    refine fk_goto (tgt := 28) hC dX0_letsThrough_24 (by decide) ?_
    exact fk_zret hC hr hk dX0_letsThrough_28 rfl (by unfold sB_lets; rw [if_pos c4]) rfl rfl
  · refine fk_aload_n hC dX0_letsThrough_7 rfl rfl ?_
    refine fk_getB_0 hC hz hi iX0 (by decide +kernel) dX0_letsThrough_8 ?_
    refine fk_iconst (v := 2) hC dX0_letsThrough_11 (by decide) ?_
    refine fk_icmp_ne (tgt := 27) hC dX0_letsThrough_12 (by decide) (fun c12 => ?_) (fun c12 => ?_)
    · refine fk_iconst (v := 0) hC dX0_letsThrough_27 (by decide) ?_
      exact fk_zret hC hr hk dX0_letsThrough_28 rfl (by unfold sB_lets; rw [if_neg c4, if_neg c12]) rfl rfl
    · refine fk_aload_n hC dX0_letsThrough_15 rfl rfl ?_
      refine fk_getB_2 hC hz hi iX0 (by decide +kernel) dX0_letsThrough_16 ?_
      refine fk_iconst (v := (-1)) hC dX0_letsThrough_19 (by decide) ?_
      refine fk_icmp_ne (tgt := 27) hC dX0_letsThrough_20 (by decide) (fun c20 => ?_) (fun c20 => ?_)
      · refine fk_iconst (v := 0) hC dX0_letsThrough_27 (by decide) ?_
        exact fk_zret hC hr hk dX0_letsThrough_28 rfl (by unfold sB_lets; rw [if_neg c4, if_pos c12, if_neg c20]) rfl rfl
      · refine fk_iconst (v := 1) hC dX0_letsThrough_23 (by decide) ?_
        refine fk_goto (tgt := 28) hC dX0_letsThrough_24 (by decide) ?_
        exact fk_zret hC hr hk dX0_letsThrough_28 rfl (by unfold sB_lets; rw [if_neg c4, if_pos c12, if_pos c20]) rfl rfl

set_option maxHeartbeats 4000000 in
set_option maxRecDepth 100000 in
theorem kX0_noteBegin (l : Launch) (D : va_G) (K : Nat → ClassId) (NL : List Nat) (ad : Nat → Nat) (G : fM) (x : fX) (z i : Nat) (hz : f_ES NL z) (hi : i < 10) (cn : Int32) : Kd l yX0_noteBegin wsX0_noteBegin { frames := 0, cells := 0, slots := 0, locals := 0 } vwCl D K NL ad [.ref (ad (nB z i)), .int cn] G x none (sB_nbeg z i cn G) x := by
  refine Kd.of (cc := cX0_noteBegin) (maxL := 2) (ret := none) (L := [some (.ref (ad (nB z i))), some (.int cn)]) (by decide +kernel) rfl rfl (Nat.le_of_ble_eq_true rfl) ?_
  intro p e s m args below meth c hC hN hr hk hnme
  have iX0 : ∀ w ∈ wsX00, w ∈ wsX0_noteBegin := by decide +kernel
  refine fk_aload_n hC dX0_noteBegin_0 rfl rfl ?_
  refine fk_getB_0 hC hz hi iX0 (by decide +kernel) dX0_noteBegin_1 ?_
  refine fk_iconst (v := 2) hC dX0_noteBegin_4 (by decide) ?_
  refine fk_icmp_ne (tgt := 13) hC dX0_noteBegin_5 (by decide) (fun c5 => ?_) (fun c5 => ?_)
  · exact fk_vret hC hr hk dX0_noteBegin_13 rfl (by unfold sB_nbeg; rw [if_neg c5]) rfl
  · refine fk_aload_n hC dX0_noteBegin_8 rfl rfl ?_
    refine fk_iload_n hC dX0_noteBegin_9 rfl rfl ?_
    refine fk_putB_2 hC hz hi iX0 (by decide +kernel) dX0_noteBegin_10 ?_
    exact fk_vret hC hr hk dX0_noteBegin_13 rfl (by unfold sB_nbeg; rw [if_pos c5]) rfl

set_option maxHeartbeats 4000000 in
set_option maxRecDepth 100000 in
theorem kJ6_bitCount_0f7a4 (l : Launch) (D : va_G) (K : Nat → ClassId) (NL : List Nat) (ad : Nat → Nat) (G : fM) (x : fX) (v : Int32) : Kd l yJ6_bitCount_0f7a4 wsJ6_bitCount_0f7a4 { frames := 0, cells := 0, slots := 0, locals := 0 } vwCl D K NL ad [.int v] G x (some (.int (sJ_bc v))) G x := by
  refine Kd.of (cc := cJ6_bitCount_0f7a4) (maxL := 1) (ret := (some .int)) (L := [some (.int v)]) (by decide +kernel) rfl rfl (Nat.le_of_ble_eq_true rfl) ?_
  intro p e s m args below meth c hC hN hr hk hnme
  refine fk_iload_n hC dJ6_bitCount_0f7a4_0 rfl rfl ?_
  refine fk_iload_n hC dJ6_bitCount_0f7a4_1 rfl rfl ?_
  refine fk_iconst (v := 1) hC dJ6_bitCount_0f7a4_2 (by decide) ?_
  refine fk_iushr hC dJ6_bitCount_0f7a4_3 rfl ?_
  refine fk_ldcw (v := 1431655765) hC (by decide +kernel) dJ6_bitCount_0f7a4_4 ?_
  refine fk_iand hC dJ6_bitCount_0f7a4_7 ?_
  refine fk_isub hC dJ6_bitCount_0f7a4_8 ?_
  refine fk_istore_n hC dJ6_bitCount_0f7a4_9 rfl (by decide) rfl ?_
  refine fk_iload_n hC dJ6_bitCount_0f7a4_10 rfl rfl ?_
  refine fk_ldcw (v := 858993459) hC (by decide +kernel) dJ6_bitCount_0f7a4_11 ?_
  refine fk_iand hC dJ6_bitCount_0f7a4_14 ?_
  refine fk_iload_n hC dJ6_bitCount_0f7a4_15 rfl rfl ?_
  refine fk_iconst (v := 2) hC dJ6_bitCount_0f7a4_16 (by decide) ?_
  refine fk_iushr hC dJ6_bitCount_0f7a4_17 rfl ?_
  refine fk_ldcw (v := 858993459) hC (by decide +kernel) dJ6_bitCount_0f7a4_18 ?_
  refine fk_iand hC dJ6_bitCount_0f7a4_21 ?_
  refine fk_iadd hC dJ6_bitCount_0f7a4_22 ?_
  refine fk_istore_n hC dJ6_bitCount_0f7a4_23 rfl (by decide) rfl ?_
  refine fk_iload_n hC dJ6_bitCount_0f7a4_24 rfl rfl ?_
  refine fk_iload_n hC dJ6_bitCount_0f7a4_25 rfl rfl ?_
  refine fk_iconst (v := 4) hC dJ6_bitCount_0f7a4_26 (by decide) ?_
  refine fk_iushr hC dJ6_bitCount_0f7a4_27 rfl ?_
  refine fk_iadd hC dJ6_bitCount_0f7a4_28 ?_
  refine fk_ldcw (v := 252645135) hC (by decide +kernel) dJ6_bitCount_0f7a4_29 ?_
  refine fk_iand hC dJ6_bitCount_0f7a4_32 ?_
  refine fk_istore_n hC dJ6_bitCount_0f7a4_33 rfl (by decide) rfl ?_
  refine fk_iload_n hC dJ6_bitCount_0f7a4_34 rfl rfl ?_
  refine fk_iload_n hC dJ6_bitCount_0f7a4_35 rfl rfl ?_
  refine fk_bipush (v := 8) hC dJ6_bitCount_0f7a4_36 (by decide) ?_
  refine fk_iushr hC dJ6_bitCount_0f7a4_38 rfl ?_
  refine fk_iadd hC dJ6_bitCount_0f7a4_39 ?_
  refine fk_istore_n hC dJ6_bitCount_0f7a4_40 rfl (by decide) rfl ?_
  refine fk_iload_n hC dJ6_bitCount_0f7a4_41 rfl rfl ?_
  refine fk_iload_n hC dJ6_bitCount_0f7a4_42 rfl rfl ?_
  refine fk_bipush (v := 16) hC dJ6_bitCount_0f7a4_43 (by decide) ?_
  refine fk_iushr hC dJ6_bitCount_0f7a4_45 rfl ?_
  refine fk_iadd hC dJ6_bitCount_0f7a4_46 ?_
  refine fk_istore_n hC dJ6_bitCount_0f7a4_47 rfl (by decide) rfl ?_
  refine fk_iload_n hC dJ6_bitCount_0f7a4_48 rfl rfl ?_
  refine fk_bipush (v := 63) hC dJ6_bitCount_0f7a4_49 (by decide) ?_
  refine fk_iand hC dJ6_bitCount_0f7a4_51 ?_
  exact fk_iret hC hr hk dJ6_bitCount_0f7a4_52 rfl rfl rfl

set_option maxHeartbeats 4000000 in
set_option maxRecDepth 100000 in
theorem kX0_endTrial (l : Launch) (D : va_G) (K : Nat → ClassId) (NL : List Nat) (ad : Nat → Nat) (G : fM) (x : fX) (z i : Nat) (hz : f_ES NL z) (hi : i < 10) (gd t : Int32) : Kd l yX0_endTrial wsX0_endTrial { frames := 1, cells := 0, slots := 0, locals := 21 } vwCl D K NL ad [.ref (ad (nB z i)), .int gd, .int t] G x none (sB_endT z i gd t G) x := by
  refine Kd.of (cc := cX0_endTrial) (maxL := 3) (ret := none) (L := [some (.ref (ad (nB z i))), some (.int gd), some (.int t)]) (by decide +kernel) rfl rfl (Nat.le_of_ble_eq_true rfl) ?_
  intro p e s m args below meth c hC hN hr hk hnme
  refine fk_iload_n hC dX0_endTrial_0 rfl rfl ?_
  refine fk_if_eq (tgt := 11) hC dX0_endTrial_1 (by decide) (fun c1 => ?_) (fun c1 => ?_)
  · refine fk_aload_n hC dX0_endTrial_11 rfl rfl ?_
    refine fk_iload_n hC dX0_endTrial_12 rfl rfl ?_
    refine fk_callV hC hN (kX0_trip l D K NL ad _ x z i hz hi _) (hz.B hi) (f_eB _ _ _ _ _ hz.1 hi) rfl (cwV 1 hC.1.2.2.2.2 gX0_endTrial_X0_trip rfl rfl rfl (by decide +kernel) ⟨Nat.le_of_ble_eq_true rfl, Nat.le_of_ble_eq_true rfl⟩) rfl rfl (Nat.le_of_ble_eq_true rfl) dX0_endTrial_13 ⟨Nat.zero_le _, Nat.zero_le _⟩ ?_
    exact fk_vret hC hr hk dX0_endTrial_16 rfl (by unfold sB_endT; rw [if_pos c1]) rfl
  · refine fk_aload_n hC dX0_endTrial_4 rfl rfl ?_
    refine fk_callV hC hN (kX0_shut l D K NL ad _ x z i hz hi) (hz.B hi) (f_eB _ _ _ _ _ hz.1 hi) rfl (cwV 0 hC.1.2.2.2.2 gX0_endTrial_X0_shut rfl rfl rfl (by decide +kernel) ⟨Nat.le_of_ble_eq_true rfl, Nat.le_of_ble_eq_true rfl⟩) rfl rfl (Nat.le_of_ble_eq_true rfl) dX0_endTrial_5 ⟨Nat.zero_le _, Nat.zero_le _⟩ ?_
    refine fk_goto (tgt := 16) hC dX0_endTrial_8 (by decide) ?_
    exact fk_vret hC hr hk dX0_endTrial_16 rfl (by unfold sB_endT; rw [if_neg c1]) rfl

set_option maxHeartbeats 4000000 in
set_option maxRecDepth 100000 in
theorem kX0_addResult (l : Launch) (D : va_G) (K : Nat → ClassId) (NL : List Nat) (ad : Nat → Nat) (G : fM) (x : fX) (z i : Nat) (hz : f_ES NL z) (hi : i < 10) (gd t : Int32) : Kd l yX0_addResult wsX0_addResult { frames := 1, cells := 0, slots := 0, locals := 21 } vwCl D K NL ad [.ref (ad (nB z i)), .int gd, .int t] G x none (sB_add z i gd t G) x := by
  refine Kd.of (cc := cX0_addResult) (maxL := 3) (ret := none) (L := [some (.ref (ad (nB z i))), some (.int gd), some (.int t)]) (by decide +kernel) rfl rfl (Nat.le_of_ble_eq_true rfl) ?_
  intro p e s m args below meth c hC hN hr hk hnme
  have iX0 : ∀ w ∈ wsX00, w ∈ wsX0_addResult := by decide +kernel
  refine fk_aload_n hC dX0_addResult_0 rfl rfl ?_
  refine fk_aload_n hC dX0_addResult_1 rfl rfl ?_
  refine fk_getB_4 hC hz hi iX0 (by decide +kernel) dX0_addResult_2 ?_
  refine fk_iconst (v := 1) hC dX0_addResult_5 (by decide) ?_
  refine fk_ishl hC dX0_addResult_6 ?_
  refine fk_iload_n hC dX0_addResult_7 rfl rfl ?_
  refine fk_if_eq (tgt := 15) hC dX0_addResult_8 (by decide) (fun c8 => ?_) (fun c8 => ?_)
  · refine fk_iconst (v := 1) hC dX0_addResult_15 (by decide) ?_
    refine fk_ior hC dX0_addResult_16 ?_
    refine fk_sipush (v := 255) hC dX0_addResult_17 (by decide) ?_
    refine fk_iand hC dX0_addResult_20 ?_
    refine fk_putB_4 hC hz hi iX0 (by decide +kernel) dX0_addResult_21 ?_
    refine fk_aload_n hC dX0_addResult_24 rfl rfl ?_
    refine fk_getB_3 hC hz hi iX0 (by decide +kernel) dX0_addResult_25 ?_
    refine fk_bipush (v := 8) hC dX0_addResult_28 (by decide) ?_
    refine fk_icmp_ge (tgt := 43) hC dX0_addResult_30 (by decide) (fun c30 => ?_) (fun c30 => ?_)
    · refine fk_aload_n hC dX0_addResult_43 rfl rfl ?_
      refine fk_getB_3 hC hz hi iX0 (by decide +kernel) dX0_addResult_44 ?_
      refine fk_iconst (v := 4) hC dX0_addResult_47 (by decide) ?_
      refine fk_icmp_lt (tgt := 72) hC dX0_addResult_48 (by decide) (fun c48 => ?_) (fun c48 => ?_)
      · exact fk_vret hC hr hk dX0_addResult_72 rfl (by unfold sB_add sB_add3 sB_add2 sB_add1; rw [if_pos c8, if_pos c30, if_pos c48]) rfl
      · refine fk_iconst (v := 2) hC dX0_addResult_51 (by decide) ?_
        refine fk_aload_n hC dX0_addResult_52 rfl rfl ?_
        refine fk_getB_4 hC hz hi iX0 (by decide +kernel) dX0_addResult_53 ?_
        refine fk_callS hC hN (kJ6_bitCount_0f7a4 l D K NL ad _ x _) (va_cwS 1 hC.1.2.2.2.2 gX0_addResult_J6_bitCount_0f7a4 rfl rfl rfl (by decide +kernel) ⟨Nat.le_of_ble_eq_true rfl, Nat.le_of_ble_eq_true rfl⟩) rfl rfl (Nat.le_of_ble_eq_true rfl) dX0_addResult_56 ⟨Nat.zero_le _, Nat.zero_le _⟩ ?_
        refine fk_imul hC dX0_addResult_59 ?_
        refine fk_aload_n hC dX0_addResult_60 rfl rfl ?_
        refine fk_getB_3 hC hz hi iX0 (by decide +kernel) dX0_addResult_61 ?_
        refine fk_icmp_lt (tgt := 72) hC dX0_addResult_64 (by decide) (fun c64 => ?_) (fun c64 => ?_)
        · exact fk_vret hC hr hk dX0_addResult_72 rfl (by unfold sB_add sB_add3 sB_add2 sB_add1; rw [if_pos c8, if_pos c30, if_neg c48, if_pos c64]) rfl
        · refine fk_aload_n hC dX0_addResult_67 rfl rfl ?_
          refine fk_iload_n hC dX0_addResult_68 rfl rfl ?_
          refine fk_callV hC hN (kX0_trip l D K NL ad _ x z i hz hi _) (hz.B hi) (f_eB _ _ _ _ _ hz.1 hi) rfl (cwV 1 hC.1.2.2.2.2 gX0_addResult_X0_trip rfl rfl rfl (by decide +kernel) ⟨Nat.le_of_ble_eq_true rfl, Nat.le_of_ble_eq_true rfl⟩) rfl rfl (Nat.le_of_ble_eq_true rfl) dX0_addResult_69 ⟨Nat.zero_le _, Nat.zero_le _⟩ ?_
          exact fk_vret hC hr hk dX0_addResult_72 rfl (by unfold sB_add sB_add3 sB_add2 sB_add1; rw [if_pos c8, if_pos c30, if_neg c48, if_neg c64]) rfl
    · refine fk_aload_n hC dX0_addResult_33 rfl rfl ?_
      refine fk_dup hC dX0_addResult_34 rfl ?_
      refine fk_getB_3 hC hz hi iX0 (by decide +kernel) dX0_addResult_35 ?_
      refine fk_iconst (v := 1) hC dX0_addResult_38 (by decide) ?_
      refine fk_iadd hC dX0_addResult_39 ?_
      refine fk_putB_3 hC hz hi iX0 (by decide +kernel) dX0_addResult_40 ?_
      refine fk_aload_n hC dX0_addResult_43 rfl rfl ?_
      refine fk_getB_3 hC hz hi iX0 (by decide +kernel) dX0_addResult_44 ?_
      refine fk_iconst (v := 4) hC dX0_addResult_47 (by decide) ?_
      refine fk_icmp_lt (tgt := 72) hC dX0_addResult_48 (by decide) (fun c48 => ?_) (fun c48 => ?_)
      · exact fk_vret hC hr hk dX0_addResult_72 rfl (by unfold sB_add sB_add3 sB_add2 sB_add1; rw [if_pos c8, if_neg c30, if_pos c48]) rfl
      · refine fk_iconst (v := 2) hC dX0_addResult_51 (by decide) ?_
        refine fk_aload_n hC dX0_addResult_52 rfl rfl ?_
        refine fk_getB_4 hC hz hi iX0 (by decide +kernel) dX0_addResult_53 ?_
        refine fk_callS hC hN (kJ6_bitCount_0f7a4 l D K NL ad _ x _) (va_cwS 1 hC.1.2.2.2.2 gX0_addResult_J6_bitCount_0f7a4 rfl rfl rfl (by decide +kernel) ⟨Nat.le_of_ble_eq_true rfl, Nat.le_of_ble_eq_true rfl⟩) rfl rfl (Nat.le_of_ble_eq_true rfl) dX0_addResult_56 ⟨Nat.zero_le _, Nat.zero_le _⟩ ?_
        refine fk_imul hC dX0_addResult_59 ?_
        refine fk_aload_n hC dX0_addResult_60 rfl rfl ?_
        refine fk_getB_3 hC hz hi iX0 (by decide +kernel) dX0_addResult_61 ?_
        refine fk_icmp_lt (tgt := 72) hC dX0_addResult_64 (by decide) (fun c64 => ?_) (fun c64 => ?_)
        · exact fk_vret hC hr hk dX0_addResult_72 rfl (by unfold sB_add sB_add3 sB_add2 sB_add1; rw [if_pos c8, if_neg c30, if_neg c48, if_pos c64]) rfl
        · refine fk_aload_n hC dX0_addResult_67 rfl rfl ?_
          refine fk_iload_n hC dX0_addResult_68 rfl rfl ?_
          refine fk_callV hC hN (kX0_trip l D K NL ad _ x z i hz hi _) (hz.B hi) (f_eB _ _ _ _ _ hz.1 hi) rfl (cwV 1 hC.1.2.2.2.2 gX0_addResult_X0_trip rfl rfl rfl (by decide +kernel) ⟨Nat.le_of_ble_eq_true rfl, Nat.le_of_ble_eq_true rfl⟩) rfl rfl (Nat.le_of_ble_eq_true rfl) dX0_addResult_69 ⟨Nat.zero_le _, Nat.zero_le _⟩ ?_
          exact fk_vret hC hr hk dX0_addResult_72 rfl (by unfold sB_add sB_add3 sB_add2 sB_add1; rw [if_pos c8, if_neg c30, if_neg c48, if_neg c64]) rfl
  · refine fk_iconst (v := 0) hC dX0_addResult_11 (by decide) ?_
    refine fk_goto (tgt := 16) hC dX0_addResult_12 (by decide) ?_
    refine fk_ior hC dX0_addResult_16 ?_
    refine fk_sipush (v := 255) hC dX0_addResult_17 (by decide) ?_
    refine fk_iand hC dX0_addResult_20 ?_
    refine fk_putB_4 hC hz hi iX0 (by decide +kernel) dX0_addResult_21 ?_
    refine fk_aload_n hC dX0_addResult_24 rfl rfl ?_
    refine fk_getB_3 hC hz hi iX0 (by decide +kernel) dX0_addResult_25 ?_
    refine fk_bipush (v := 8) hC dX0_addResult_28 (by decide) ?_
    refine fk_icmp_ge (tgt := 43) hC dX0_addResult_30 (by decide) (fun c30 => ?_) (fun c30 => ?_)
    · refine fk_aload_n hC dX0_addResult_43 rfl rfl ?_
      refine fk_getB_3 hC hz hi iX0 (by decide +kernel) dX0_addResult_44 ?_
      refine fk_iconst (v := 4) hC dX0_addResult_47 (by decide) ?_
      refine fk_icmp_lt (tgt := 72) hC dX0_addResult_48 (by decide) (fun c48 => ?_) (fun c48 => ?_)
      · exact fk_vret hC hr hk dX0_addResult_72 rfl (by unfold sB_add sB_add3 sB_add2 sB_add1; rw [if_neg c8, if_pos c30, if_pos c48]) rfl
      · refine fk_iconst (v := 2) hC dX0_addResult_51 (by decide) ?_
        refine fk_aload_n hC dX0_addResult_52 rfl rfl ?_
        refine fk_getB_4 hC hz hi iX0 (by decide +kernel) dX0_addResult_53 ?_
        refine fk_callS hC hN (kJ6_bitCount_0f7a4 l D K NL ad _ x _) (va_cwS 1 hC.1.2.2.2.2 gX0_addResult_J6_bitCount_0f7a4 rfl rfl rfl (by decide +kernel) ⟨Nat.le_of_ble_eq_true rfl, Nat.le_of_ble_eq_true rfl⟩) rfl rfl (Nat.le_of_ble_eq_true rfl) dX0_addResult_56 ⟨Nat.zero_le _, Nat.zero_le _⟩ ?_
        refine fk_imul hC dX0_addResult_59 ?_
        refine fk_aload_n hC dX0_addResult_60 rfl rfl ?_
        refine fk_getB_3 hC hz hi iX0 (by decide +kernel) dX0_addResult_61 ?_
        refine fk_icmp_lt (tgt := 72) hC dX0_addResult_64 (by decide) (fun c64 => ?_) (fun c64 => ?_)
        · exact fk_vret hC hr hk dX0_addResult_72 rfl (by unfold sB_add sB_add3 sB_add2 sB_add1; rw [if_neg c8, if_pos c30, if_neg c48, if_pos c64]) rfl
        · refine fk_aload_n hC dX0_addResult_67 rfl rfl ?_
          refine fk_iload_n hC dX0_addResult_68 rfl rfl ?_
          refine fk_callV hC hN (kX0_trip l D K NL ad _ x z i hz hi _) (hz.B hi) (f_eB _ _ _ _ _ hz.1 hi) rfl (cwV 1 hC.1.2.2.2.2 gX0_addResult_X0_trip rfl rfl rfl (by decide +kernel) ⟨Nat.le_of_ble_eq_true rfl, Nat.le_of_ble_eq_true rfl⟩) rfl rfl (Nat.le_of_ble_eq_true rfl) dX0_addResult_69 ⟨Nat.zero_le _, Nat.zero_le _⟩ ?_
          exact fk_vret hC hr hk dX0_addResult_72 rfl (by unfold sB_add sB_add3 sB_add2 sB_add1; rw [if_neg c8, if_pos c30, if_neg c48, if_neg c64]) rfl
    · refine fk_aload_n hC dX0_addResult_33 rfl rfl ?_
      refine fk_dup hC dX0_addResult_34 rfl ?_
      refine fk_getB_3 hC hz hi iX0 (by decide +kernel) dX0_addResult_35 ?_
      refine fk_iconst (v := 1) hC dX0_addResult_38 (by decide) ?_
      refine fk_iadd hC dX0_addResult_39 ?_
      refine fk_putB_3 hC hz hi iX0 (by decide +kernel) dX0_addResult_40 ?_
      refine fk_aload_n hC dX0_addResult_43 rfl rfl ?_
      refine fk_getB_3 hC hz hi iX0 (by decide +kernel) dX0_addResult_44 ?_
      refine fk_iconst (v := 4) hC dX0_addResult_47 (by decide) ?_
      refine fk_icmp_lt (tgt := 72) hC dX0_addResult_48 (by decide) (fun c48 => ?_) (fun c48 => ?_)
      · exact fk_vret hC hr hk dX0_addResult_72 rfl (by unfold sB_add sB_add3 sB_add2 sB_add1; rw [if_neg c8, if_neg c30, if_pos c48]) rfl
      · refine fk_iconst (v := 2) hC dX0_addResult_51 (by decide) ?_
        refine fk_aload_n hC dX0_addResult_52 rfl rfl ?_
        refine fk_getB_4 hC hz hi iX0 (by decide +kernel) dX0_addResult_53 ?_
        refine fk_callS hC hN (kJ6_bitCount_0f7a4 l D K NL ad _ x _) (va_cwS 1 hC.1.2.2.2.2 gX0_addResult_J6_bitCount_0f7a4 rfl rfl rfl (by decide +kernel) ⟨Nat.le_of_ble_eq_true rfl, Nat.le_of_ble_eq_true rfl⟩) rfl rfl (Nat.le_of_ble_eq_true rfl) dX0_addResult_56 ⟨Nat.zero_le _, Nat.zero_le _⟩ ?_
        refine fk_imul hC dX0_addResult_59 ?_
        refine fk_aload_n hC dX0_addResult_60 rfl rfl ?_
        refine fk_getB_3 hC hz hi iX0 (by decide +kernel) dX0_addResult_61 ?_
        refine fk_icmp_lt (tgt := 72) hC dX0_addResult_64 (by decide) (fun c64 => ?_) (fun c64 => ?_)
        · exact fk_vret hC hr hk dX0_addResult_72 rfl (by unfold sB_add sB_add3 sB_add2 sB_add1; rw [if_neg c8, if_neg c30, if_neg c48, if_pos c64]) rfl
        · refine fk_aload_n hC dX0_addResult_67 rfl rfl ?_
          refine fk_iload_n hC dX0_addResult_68 rfl rfl ?_
          refine fk_callV hC hN (kX0_trip l D K NL ad _ x z i hz hi _) (hz.B hi) (f_eB _ _ _ _ _ hz.1 hi) rfl (cwV 1 hC.1.2.2.2.2 gX0_addResult_X0_trip rfl rfl rfl (by decide +kernel) ⟨Nat.le_of_ble_eq_true rfl, Nat.le_of_ble_eq_true rfl⟩) rfl rfl (Nat.le_of_ble_eq_true rfl) dX0_addResult_69 ⟨Nat.zero_le _, Nat.zero_le _⟩ ?_
          exact fk_vret hC hr hk dX0_addResult_72 rfl (by unfold sB_add sB_add3 sB_add2 sB_add1; rw [if_neg c8, if_neg c30, if_neg c48, if_neg c64]) rfl

set_option maxHeartbeats 4000000 in
set_option maxRecDepth 100000 in
theorem kX0_noteEnd (l : Launch) (D : va_G) (K : Nat → ClassId) (NL : List Nat) (ad : Nat → Nat) (G : fM) (x : fX) (z i : Nat) (hz : f_ES NL z) (hi : i < 10) (cn gd t : Int32) : Kd l yX0_noteEnd wsX0_noteEnd { frames := 2, cells := 0, slots := 0, locals := 43 } vwCl D K NL ad [.ref (ad (nB z i)), .int cn, .int gd, .int t] G x none (sB_nend z i cn gd t G) x := by
  refine Kd.of (cc := cX0_noteEnd) (maxL := 4) (ret := none) (L := [some (.ref (ad (nB z i))), some (.int cn), some (.int gd), some (.int t)]) (by decide +kernel) rfl rfl (Nat.le_of_ble_eq_true rfl) ?_
  intro p e s m args below meth c hC hN hr hk hnme
  have iX0 : ∀ w ∈ wsX00, w ∈ wsX0_noteEnd := by decide +kernel
  refine fk_aload_n hC dX0_noteEnd_0 rfl rfl ?_
  refine fk_getB_0 hC hz hi iX0 (by decide +kernel) dX0_noteEnd_1 ?_
  refine fk_if_ne (tgt := 16) hC dX0_noteEnd_4 (by decide) (fun c4 => ?_) (fun c4 => ?_)
  · refine fk_aload_n hC dX0_noteEnd_16 rfl rfl ?_
    refine fk_getB_0 hC hz hi iX0 (by decide +kernel) dX0_noteEnd_17 ?_
    refine fk_iconst (v := 2) hC dX0_noteEnd_20 (by decide) ?_
    refine fk_icmp_ne (tgt := 38) hC dX0_noteEnd_21 (by decide) (fun c21 => ?_) (fun c21 => ?_)
    · exact fk_vret hC hr hk dX0_noteEnd_38 rfl (by unfold sB_nend; rw [if_neg c4, if_neg c21]) rfl
    · refine fk_aload_n hC dX0_noteEnd_24 rfl rfl ?_
      refine fk_getB_2 hC hz hi iX0 (by decide +kernel) dX0_noteEnd_25 ?_
      refine fk_iload_n hC dX0_noteEnd_28 rfl rfl ?_
      refine fk_icmp_ne (tgt := 38) hC dX0_noteEnd_29 (by decide) (fun c29 => ?_) (fun c29 => ?_)
      · exact fk_vret hC hr hk dX0_noteEnd_38 rfl (by unfold sB_nend; rw [if_neg c4, if_pos c21, if_neg c29]) rfl
      · refine fk_aload_n hC dX0_noteEnd_32 rfl rfl ?_
        refine fk_iload_n hC dX0_noteEnd_33 rfl rfl ?_
        refine fk_iload_n hC dX0_noteEnd_34 rfl rfl ?_
        refine fk_callV hC hN (kX0_endTrial l D K NL ad _ x z i hz hi _ _) (hz.B hi) (f_eB _ _ _ _ _ hz.1 hi) rfl (cwV 2 hC.1.2.2.2.2 gX0_noteEnd_X0_endTrial rfl rfl rfl (by decide +kernel) ⟨Nat.le_of_ble_eq_true rfl, Nat.le_of_ble_eq_true rfl⟩) rfl rfl (Nat.le_of_ble_eq_true rfl) dX0_noteEnd_35 ⟨Nat.zero_le _, Nat.zero_le _⟩ ?_
        exact fk_vret hC hr hk dX0_noteEnd_38 rfl (by unfold sB_nend; rw [if_neg c4, if_pos c21, if_pos c29]) rfl
  · refine fk_aload_n hC dX0_noteEnd_7 rfl rfl ?_
    refine fk_iload_n hC dX0_noteEnd_8 rfl rfl ?_
    refine fk_iload_n hC dX0_noteEnd_9 rfl rfl ?_
    refine fk_callV hC hN (kX0_addResult l D K NL ad _ x z i hz hi _ _) (hz.B hi) (f_eB _ _ _ _ _ hz.1 hi) rfl (cwV 2 hC.1.2.2.2.2 gX0_noteEnd_X0_addResult rfl rfl rfl (by decide +kernel) ⟨Nat.le_of_ble_eq_true rfl, Nat.le_of_ble_eq_true rfl⟩) rfl rfl (Nat.le_of_ble_eq_true rfl) dX0_noteEnd_10 ⟨Nat.zero_le _, Nat.zero_le _⟩ ?_
    refine fk_goto (tgt := 38) hC dX0_noteEnd_13 (by decide) ?_
    exact fk_vret hC hr hk dX0_noteEnd_38 rfl (by unfold sB_nend; rw [if_pos c4]) rfl

