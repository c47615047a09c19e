/-! Server, and the static functions -/
def mx1 (v : Int32) : Int32 := v ^^^ (v.toUInt32 >>> ((16 : Int32).toUInt32 &&& Int32.toUInt32 31)).toInt32
def mix9 (v : Int32) : Int32 := mx1 (mx1 (mx1 v * 73244475) * 73244475)
def bel9 (a b : Int32) : Int32 := if b ^^^ (-2147483648) ≤ a ^^^ (-2147483648) then 0 else 1
def sed9 (v : Int32) : Int32 := v * 1103515245 + 12345
def cp1 (G : fM) (a b : Nat) : fM := upd G a (G b)
def sB_copy (z y i : Nat) (G : fM) : fM := cp1 (cp1 (cp1 (cp1 (cp1 G (iB z i 0) (iB y i 0)) (iB z i 1) (iB y i 1)) (iB z i 2) (iB y i 2)) (iB z i 3) (iB y i 3)) (iB z i 4) (iB y i 4)
def sV_copy (z y i : Nat) (G : fM) : fM := sB_copy z y i (cp1 (cp1 (cp1 (cp1 (cp1 (cp1 (cp1 (cp1 (cp1 G (iV z i 0) (iV y i 0)) (iV z i 1) (iV y i 1)) (iV z i 2) (iV y i 2)) (iV z i 3) (iV y i 3)) (iV z i 4) (iV y i 4)) (iV z i 5) (iV y i 5)) (iV z i 6) (iV y i 6)) (iV z i 7) (iV y i 7)) (iV z i 8) (iV y i 8))
def sV_begin (z i : Nat) (wt cp : Int32) (G : fM) : fM := sB_shut z i (upd (upd (upd (upd (upd (upd (upd (upd G (iV z i 0) wt) (iV z i 1) cp) (iV z i 2) 0) (iV z i 3) 0) (iV z i 4) 1) (iV z i 5) 0) (iV z i 6) 0) (iV z i 7) 0)
def sV_h1 (z i : Nat) (pd : Int32) (G : fM) : fM := upd G (iV z i 6) (if pd = 0 then G (iV z i 6) + 1 else 0)
def sV_h (z i : Nat) (pd fl : Int32) (G : fM) : fM := if sV_h1 z i pd G (iV z i 6) < fl then sV_h1 z i pd G else upd (upd (sV_h1 z i pd G) (iV z i 4) 0) (iV z i 6) 0
def sV_u1 (z i : Nat) (pd : Int32) (G : fM) : fM := upd G (iV z i 6) (if pd = 0 then 0 else G (iV z i 6) + 1)
def sV_u (z i : Nat) (pd ri t : Int32) (G : fM) : fM := if sV_u1 z i pd G (iV z i 6) < ri then sV_u1 z i pd G else upd (upd (upd (upd (sV_u1 z i pd G) (iV z i 4) 1) (iV z i 6) 0) (iV z i 7) 1) (iV z i 8) t
def sV_acc (z i : Nat) (G : fM) : Int32 := if G (iV z i 4) = 0 then 0 else if G (iV z i 5) = 0 then (if G (iV z i 1) ≤ G (iV z i 2) then 0 else if sB_lets z i G = 0 then 0 else 1) else 0
def sV_rst (f st : Int32) (k : Nat) (a : Int32) : Int32 := if bel9 (mix9 (f + nI k) - st) a = 0 then a else mix9 (f + nI k) - st
def sV_ring (wt : Nat) (nu st : Int32) : Int32 := fold9 (sV_rst (1000 * nu) st) (4 * wt - 1) 1 (mix9 (1000 * nu) - st)
theorem f_narB {v : Int32} (h : v = 0 ∨ v = 1) : narrow .boolean (.int v) = .int v := by
  rcases h with rfl | rfl <;> rfl
theorem f_fitB {v : Int32} (h : v = 0 ∨ v = 1) : fits .boolean (.int v) = true := by
  rcases h with rfl | rfl <;> rfl

set_option maxHeartbeats 4000000 in
set_option maxRecDepth 100000 in
theorem kX5_mix (l : Launch) (D : va_G) (K : Nat → ClassId) (NL : List Nat) (ad : Nat → Nat) (G : fM) (x : fX) (v : Int32) : Kd l yX5_mix wsX5_mix { frames := 0, cells := 0, slots := 0, locals := 0 } vwCl D K NL ad [.int v] G x (some (.int (mix9 v))) G x := by
  refine Kd.of (cc := cX5_mix) (maxL := 1) (ret := (some .int)) (L := [some (.int v)]) (by decide +kernel) rfl rfl (Nat.le_of_ble_eq_true rfl) ?_
  intro p e s m args below meth c hC hN hr hk hnme
  refine fk_iload_n hC dX5_mix_0 rfl rfl ?_
  refine fk_iload_n hC dX5_mix_1 rfl rfl ?_
  refine fk_bipush (v := 16) hC dX5_mix_2 (by decide) ?_
  refine fk_iushr hC dX5_mix_4 rfl ?_
  refine fk_ixor hC dX5_mix_5 ?_
  refine fk_istore_n hC dX5_mix_6 rfl (by decide) rfl ?_
  refine fk_iload_n hC dX5_mix_7 rfl rfl ?_
  refine fk_ldc (v := 73244475) hC (by decide +kernel) dX5_mix_8 ?_
  refine fk_imul hC dX5_mix_10 ?_
  refine fk_istore_n hC dX5_mix_11 rfl (by decide) rfl ?_
  refine fk_iload_n hC dX5_mix_12 rfl rfl ?_
  refine fk_iload_n hC dX5_mix_13 rfl rfl ?_
  refine fk_bipush (v := 16) hC dX5_mix_14 (by decide) ?_
  refine fk_iushr hC dX5_mix_16 rfl ?_
  refine fk_ixor hC dX5_mix_17 ?_
  refine fk_istore_n hC dX5_mix_18 rfl (by decide) rfl ?_
  refine fk_iload_n hC dX5_mix_19 rfl rfl ?_
  refine fk_ldc (v := 73244475) hC (by decide +kernel) dX5_mix_20 ?_
  refine fk_imul hC dX5_mix_22 ?_
  refine fk_istore_n hC dX5_mix_23 rfl (by decide) rfl ?_
  refine fk_iload_n hC dX5_mix_24 rfl rfl ?_
  refine fk_iload_n hC dX5_mix_25 rfl rfl ?_
  refine fk_bipush (v := 16) hC dX5_mix_26 (by decide) ?_
  refine fk_iushr hC dX5_mix_28 rfl ?_
  refine fk_ixor hC dX5_mix_29 ?_
  refine fk_istore_n hC dX5_mix_30 rfl (by decide) rfl ?_
  refine fk_iload_n hC dX5_mix_31 rfl rfl ?_
  exact fk_iret hC hr hk dX5_mix_32 rfl rfl rfl

set_option maxHeartbeats 4000000 in
set_option maxRecDepth 100000 in
theorem kX5_isBelowUnsigned (l : Launch) (D : va_G) (K : Nat → ClassId) (NL : List Nat) (ad : Nat → Nat) (G : fM) (x : fX) (a b : Int32) : Kd l yX5_isBelowUnsigned wsX5_isBelowUnsigned { frames := 0, cells := 0, slots := 0, locals := 0 } vwCl D K NL ad [.int a, .int b] G x (some (.int (bel9 a b))) G x := by
  refine Kd.of (cc := cX5_isBelowUnsigned) (maxL := 2) (ret := (some .boolean)) (L := [some (.int a), some (.int b)]) (by decide +kernel) rfl rfl (Nat.le_of_ble_eq_true rfl) ?_
  intro p e s m args below meth c hC hN hr hk hnme
  refine fk_iload_n hC dX5_isBelowUnsigned_0 rfl rfl ?_
  refine fk_ldc (v := (-2147483648)) hC (by decide +kernel) dX5_isBelowUnsigned_1 ?_
  refine fk_ixor hC dX5_isBelowUnsigned_3 ?_
  refine fk_iload_n hC dX5_isBelowUnsigned_4 rfl rfl ?_
  refine fk_ldc (v := (-2147483648)) hC (by decide +kernel) dX5_isBelowUnsigned_5 ?_
  refine fk_ixor hC dX5_isBelowUnsigned_7 ?_
  refine fk_icmp_ge (tgt := 15) hC dX5_isBelowUnsigned_8 (by decide) (fun c8 => ?_) (fun c8 => ?_)
  · refine fk_iconst (v := 0) hC dX5_isBelowUnsigned_15 (by decide) ?_
    exact fk_zret hC hr hk dX5_isBelowUnsigned_16 rfl (by unfold bel9; rw [if_pos c8]) rfl rfl
  · refine fk_iconst (v := 1) hC dX5_isBelowUnsigned_11 (by decide) ?_
    refine fk_goto (tgt := 16) hC dX5_isBelowUnsigned_12 (by decide) ?_
    exact fk_zret hC hr hk dX5_isBelowUnsigned_16 rfl (by unfold bel9; rw [if_neg c8]) rfl rfl

set_option maxHeartbeats 4000000 in
set_option maxRecDepth 100000 in
theorem kX5_nextSeed (l : Launch) (D : va_G) (K : Nat → ClassId) (NL : List Nat) (ad : Nat → Nat) (G : fM) (x : fX) (v : Int32) : Kd l yX5_nextSeed wsX5_nextSeed { frames := 0, cells := 0, slots := 0, locals := 0 } vwCl D K NL ad [.int v] G x (some (.int (sed9 v))) G x := by
  refine Kd.of (cc := cX5_nextSeed) (maxL := 1) (ret := (some .int)) (L := [some (.int v)]) (by decide +kernel) rfl rfl (Nat.le_of_ble_eq_true rfl) ?_
  intro p e s m args below meth c hC hN hr hk hnme
  refine fk_iload_n hC dX5_nextSeed_0 rfl rfl ?_
  refine fk_ldc (v := 1103515245) hC (by decide +kernel) dX5_nextSeed_1 ?_
  refine fk_imul hC dX5_nextSeed_3 ?_
  refine fk_sipush (v := 12345) hC dX5_nextSeed_4 (by decide) ?_
  refine fk_iadd hC dX5_nextSeed_7 ?_
  exact fk_iret hC hr hk dX5_nextSeed_8 rfl rfl rfl

set_option maxHeartbeats 4000000 in
set_option maxRecDepth 100000 in
theorem kX3_begin (l : Launch) (D : va_G) (K : Nat → ClassId) (NL : List Nat) (ad : Nat → Nat) (G : fM) (x : fX) (z i : Nat) (hz : f_ES NL z) (hi : i < 10) (wt cp : Int32) : Kd l yX3_begin wsX3_begin { frames := 1, cells := 0, slots := 0, locals := 20 } vwCl D K NL ad [.ref (ad (nV z i)), .int wt, .int cp] G x none (sV_begin z i wt cp G) x := by
  refine Kd.of (cc := cX3_begin) (maxL := 3) (ret := none) (L := [some (.ref (ad (nV z i))), some (.int wt), some (.int cp)]) (by decide +kernel) rfl rfl (Nat.le_of_ble_eq_true rfl) ?_
  intro p e s m args below meth c hC hN hr hk hnme
  have iX3 : ∀ w ∈ wsX30, w ∈ wsX3_begin := by decide +kernel
  refine fk_aload_n hC dX3_begin_0 rfl rfl ?_
  refine fk_iload_n hC dX3_begin_1 rfl rfl ?_
  refine fk_putV_1 hC hz hi iX3 (by decide +kernel) dX3_begin_2 ?_
  refine fk_aload_n hC dX3_begin_5 rfl rfl ?_
  refine fk_iload_n hC dX3_begin_6 rfl rfl ?_
  refine fk_putV_2 hC hz hi iX3 (by decide +kernel) dX3_begin_7 ?_
  refine fk_aload_n hC dX3_begin_10 rfl rfl ?_
  refine fk_iconst (v := 0) hC dX3_begin_11 (by decide) ?_
  refine fk_putV_3 hC hz hi iX3 (by decide +kernel) dX3_begin_12 ?_
  refine fk_aload_n hC dX3_begin_15 rfl rfl ?_
  refine fk_iconst (v := 0) hC dX3_begin_16 (by decide) ?_
  refine fk_putV_4 hC hz hi iX3 (by decide +kernel) dX3_begin_17 ?_
  refine fk_aload_n hC dX3_begin_20 rfl rfl ?_
  refine fk_iconst (v := 1) hC dX3_begin_21 (by decide) ?_
  refine fk_putV_5 hC hz hi iX3 (by decide +kernel) rfl rfl dX3_begin_22 ?_
  refine fk_aload_n hC dX3_begin_25 rfl rfl ?_
  refine fk_iconst (v := 0) hC dX3_begin_26 (by decide) ?_
  refine fk_putV_6 hC hz hi iX3 (by decide +kernel) rfl rfl dX3_begin_27 ?_
  refine fk_aload_n hC dX3_begin_30 rfl rfl ?_
  refine fk_iconst (v := 0) hC dX3_begin_31 (by decide) ?_
  refine fk_putV_7 hC hz hi iX3 (by decide +kernel) dX3_begin_32 ?_
  refine fk_aload_n hC dX3_begin_35 rfl rfl ?_
  refine fk_iconst (v := 0) hC dX3_begin_36 (by decide) ?_
  refine fk_putV_8 hC hz hi iX3 (by decide +kernel) rfl rfl dX3_begin_37 ?_
  refine fk_aload_n hC dX3_begin_40 rfl rfl ?_
  refine fk_getV_0 hC hz hi iX3 (by decide +kernel) dX3_begin_41 ?_
  refine fk_callV hC hN (kX0_shut l D K NL ad _ x z i hz hi) (hz.B hi) (f_eB _ _ _ _ _ hz.1 hi) rfl (cwV 0 hC.1.2.2.2.2 gX3_begin_X0_shut rfl rfl rfl (by decide +kernel) ⟨Nat.le_of_ble_eq_true rfl, Nat.le_of_ble_eq_true rfl⟩) rfl rfl (Nat.le_of_ble_eq_true rfl) dX3_begin_44 ⟨Nat.zero_le _, Nat.zero_le _⟩ ?_
  exact fk_vret hC hr hk dX3_begin_47 rfl rfl rfl

set_option maxHeartbeats 4000000 in
set_option maxRecDepth 100000 in
theorem kX3_checkWhileHealthy (l : Launch) (D : va_G) (K : Nat → ClassId) (NL : List Nat) (ad : Nat → Nat) (G : fM) (x : fX) (z i : Nat) (hz : f_ES NL z) (hi : i < 10) (pd fl : Int32) : Kd l yX3_checkWhileHealthy wsX3_checkWhileHealthy { frames := 0, cells := 0, slots := 0, locals := 0 } vwCl D K NL ad [.ref (ad (nV z i)), .int pd, .int fl] G x none (sV_h z i pd fl G) x := by
  refine Kd.of (cc := cX3_checkWhileHealthy) (maxL := 3) (ret := none) (L := [some (.ref (ad (nV z i))), some (.int pd), some (.int fl)]) (by decide +kernel) rfl rfl (Nat.le_of_ble_eq_true rfl) ?_
  intro p e s m args below meth c hC hN hr hk hnme
  have iX3 : ∀ w ∈ wsX30, w ∈ wsX3_checkWhileHealthy := by decide +kernel
  refine fk_aload_n hC dX3_checkWhileHealthy_0 rfl rfl ?_
  refine fk_iload_n hC dX3_checkWhileHealthy_1 rfl rfl ?_
  refine fk_if_eq (tgt := 9) hC dX3_checkWhileHealthy_2 (by decide) (fun c2 => ?_) (fun c2 => ?_)
  · refine fk_aload_n hC dX3_checkWhileHealthy_9 rfl rfl ?_
    refine fk_getV_7 hC hz hi iX3 (by decide +kernel) dX3_checkWhileHealthy_10 ?_
    refine fk_iconst (v := 1) hC dX3_checkWhileHealthy_13 (by decide) ?_
    refine fk_iadd hC dX3_checkWhileHealthy_14 ?_
    refine fk_putV_7 hC hz hi iX3 (by decide +kernel) dX3_checkWhileHealthy_15 ?_
    refine fk_aload_n hC dX3_checkWhileHealthy_18 rfl rfl ?_
    refine fk_getV_7 hC hz hi iX3 (by decide +kernel) dX3_checkWhileHealthy_19 ?_
    refine fk_iload_n hC dX3_checkWhileHealthy_22 rfl rfl ?_
    refine fk_icmp_lt (tgt := 36) hC dX3_checkWhileHealthy_23 (by decide) (fun c23 => ?_) (fun c23 => ?_)
    · exact fk_vret hC hr hk dX3_checkWhileHealthy_36 rfl (by unfold sV_h sV_h1; rw [if_pos c2, if_pos c23]) rfl
    · refine fk_aload_n hC dX3_checkWhileHealthy_26 rfl rfl ?_
      refine fk_iconst (v := 0) hC dX3_checkWhileHealthy_27 (by decide) ?_
      refine fk_putV_5 hC hz hi iX3 (by decide +kernel) rfl rfl dX3_checkWhileHealthy_28 ?_
      refine fk_aload_n hC dX3_checkWhileHealthy_31 rfl rfl ?_
      refine fk_iconst (v := 0) hC dX3_checkWhileHealthy_32 (by decide) ?_
      refine fk_putV_7 hC hz hi iX3 (by decide +kernel) dX3_checkWhileHealthy_33 ?_
      exact fk_vret hC hr hk dX3_checkWhileHealthy_36 rfl (by unfold sV_h sV_h1; rw [if_pos c2, if_neg c23]) rfl
  · refine fk_iconst (v := 0) hC dX3_checkWhileHealthy_5 (by decide) ?_
    refine fk_goto (tgt := 15) hC dX3_checkWhileHealthy_6 (by decide) ?_
    refine fk_putV_7 hC hz hi iX3 (by decide +kernel) dX3_checkWhileHealthy_15 ?_
    refine fk_aload_n hC dX3_checkWhileHealthy_18 rfl rfl ?_
    refine fk_getV_7 hC hz hi iX3 (by decide +kernel) dX3_checkWhileHealthy_19 ?_
    refine fk_iload_n hC dX3_checkWhileHealthy_22 rfl rfl ?_
    refine fk_icmp_lt (tgt := 36) hC dX3_checkWhileHealthy_23 (by decide) (fun c23 => ?_) (fun c23 => ?_)
    · exact fk_vret hC hr hk dX3_checkWhileHealthy_36 rfl (by unfold sV_h sV_h1; rw [if_neg c2, if_pos c23]) rfl
    · refine fk_aload_n hC dX3_checkWhileHealthy_26 rfl rfl ?_
      refine fk_iconst (v := 0) hC dX3_checkWhileHealthy_27 (by decide) ?_
      refine fk_putV_5 hC hz hi iX3 (by decide +kernel) rfl rfl dX3_checkWhileHealthy_28 ?_
      refine fk_aload_n hC dX3_checkWhileHealthy_31 rfl rfl ?_
      refine fk_iconst (v := 0) hC dX3_checkWhileHealthy_32 (by decide) ?_
      refine fk_putV_7 hC hz hi iX3 (by decide +kernel) dX3_checkWhileHealthy_33 ?_
      exact fk_vret hC hr hk dX3_checkWhileHealthy_36 rfl (by unfold sV_h sV_h1; rw [if_neg c2, if_neg c23]) rfl

set_option maxHeartbeats 4000000 in
set_option maxRecDepth 100000 in
theorem kX3_checkWhileUnhealthy (l : Launch) (D : va_G) (K : Nat → ClassId) (NL : List Nat) (ad : Nat → Nat) (G : fM) (x : fX) (z i : Nat) (hz : f_ES NL z) (hi : i < 10) (pd ri t : Int32) : Kd l yX3_checkWhileUnhealthy wsX3_checkWhileUnhealthy { frames := 0, cells := 0, slots := 0, locals := 0 } vwCl D K NL ad [.ref (ad (nV z i)), .int pd, .int ri, .int t] G x none (sV_u z i pd ri t G) x := by
  refine Kd.of (cc := cX3_checkWhileUnhealthy) (maxL := 4) (ret := none) (L := [some (.ref (ad (nV z i))), some (.int pd), some (.int ri), some (.int t)]) (by decide +kernel) rfl rfl (Nat.le_of_ble_eq_true rfl) ?_
  intro p e s m args below meth c hC hN hr hk hnme
  have iX3 : ∀ w ∈ wsX30, w ∈ wsX3_checkWhileUnhealthy := by decide +kernel
  refine fk_aload_n hC dX3_checkWhileUnhealthy_0 rfl rfl ?_
  refine fk_iload_n hC dX3_checkWhileUnhealthy_1 rfl rfl ?_
  refine fk_if_eq (tgt := 14) hC dX3_checkWhileUnhealthy_2 (by decide) (fun c2 => ?_) (fun c2 => ?_)
  · refine fk_iconst (v := 0) hC dX3_checkWhileUnhealthy_14 (by decide) ?_
    refine fk_putV_7 hC hz hi iX3 (by decide +kernel) dX3_checkWhileUnhealthy_15 ?_
    refine fk_aload_n hC dX3_checkWhileUnhealthy_18 rfl rfl ?_
    refine fk_getV_7 hC hz hi iX3 (by decide +kernel) dX3_checkWhileUnhealthy_19 ?_
    refine fk_iload_n hC dX3_checkWhileUnhealthy_22 rfl rfl ?_
    refine fk_icmp_lt (tgt := 46) hC dX3_checkWhileUnhealthy_23 (by decide) (fun c23 => ?_) (fun c23 => ?_)
    · exact fk_vret hC hr hk dX3_checkWhileUnhealthy_46 rfl (by unfold sV_u sV_u1; rw [if_pos c2, if_pos c23]) rfl
    · refine fk_aload_n hC dX3_checkWhileUnhealthy_26 rfl rfl ?_
      refine fk_iconst (v := 1) hC dX3_checkWhileUnhealthy_27 (by decide) ?_
      refine fk_putV_5 hC hz hi iX3 (by decide +kernel) rfl rfl dX3_checkWhileUnhealthy_28 ?_
      refine fk_aload_n hC dX3_checkWhileUnhealthy_31 rfl rfl ?_
      refine fk_iconst (v := 0) hC dX3_checkWhileUnhealthy_32 (by decide) ?_
      refine fk_putV_7 hC hz hi iX3 (by decide +kernel) dX3_checkWhileUnhealthy_33 ?_
      refine fk_aload_n hC dX3_checkWhileUnhealthy_36 rfl rfl ?_
      refine fk_iconst (v := 1) hC dX3_checkWhileUnhealthy_37 (by decide) ?_
      refine fk_putV_8 hC hz hi iX3 (by decide +kernel) rfl rfl dX3_checkWhileUnhealthy_38 ?_
      refine fk_aload_n hC dX3_checkWhileUnhealthy_41 rfl rfl ?_
      refine fk_iload_n hC dX3_checkWhileUnhealthy_42 rfl rfl ?_
      refine fk_putV_9 hC hz hi iX3 (by decide +kernel) dX3_checkWhileUnhealthy_43 ?_
      exact fk_vret hC hr hk dX3_checkWhileUnhealthy_46 rfl (by unfold sV_u sV_u1; rw [if_pos c2, if_neg c23]) rfl
  · refine fk_aload_n hC dX3_checkWhileUnhealthy_5 rfl rfl ?_
    refine fk_getV_7 hC hz hi iX3 (by decide +kernel) dX3_checkWhileUnhealthy_6 ?_
    refine fk_iconst (v := 1) hC dX3_checkWhileUnhealthy_9 (by decide) ?_
    refine fk_iadd hC dX3_checkWhileUnhealthy_10 ?_
    refine fk_goto (tgt := 15) hC dX3_checkWhileUnhealthy_11 (by decide) ?_
    refine fk_putV_7 hC hz hi iX3 (by decide +kernel) dX3_checkWhileUnhealthy_15 ?_
    refine fk_aload_n hC dX3_checkWhileUnhealthy_18 rfl rfl ?_
    refine fk_getV_7 hC hz hi iX3 (by decide +kernel) dX3_checkWhileUnhealthy_19 ?_
    refine fk_iload_n hC dX3_checkWhileUnhealthy_22 rfl rfl ?_
    refine fk_icmp_lt (tgt := 46) hC dX3_checkWhileUnhealthy_23 (by decide) (fun c23 => ?_) (fun c23 => ?_)
    · exact fk_vret hC hr hk dX3_checkWhileUnhealthy_46 rfl (by unfold sV_u sV_u1; rw [if_neg c2, if_pos c23]) rfl
    · refine fk_aload_n hC dX3_checkWhileUnhealthy_26 rfl rfl ?_
      refine fk_iconst (v := 1) hC dX3_checkWhileUnhealthy_27 (by decide) ?_
      refine fk_putV_5 hC hz hi iX3 (by decide +kernel) rfl rfl dX3_checkWhileUnhealthy_28 ?_
      refine fk_aload_n hC dX3_checkWhileUnhealthy_31 rfl rfl ?_
      refine fk_iconst (v := 0) hC dX3_checkWhileUnhealthy_32 (by decide) ?_
      refine fk_putV_7 hC hz hi iX3 (by decide +kernel) dX3_checkWhileUnhealthy_33 ?_
      refine fk_aload_n hC dX3_checkWhileUnhealthy_36 rfl rfl ?_
      refine fk_iconst (v := 1) hC dX3_checkWhileUnhealthy_37 (by decide) ?_
      refine fk_putV_8 hC hz hi iX3 (by decide +kernel) rfl rfl dX3_checkWhileUnhealthy_38 ?_
      refine fk_aload_n hC dX3_checkWhileUnhealthy_41 rfl rfl ?_
      refine fk_iload_n hC dX3_checkWhileUnhealthy_42 rfl rfl ?_
      refine fk_putV_9 hC hz hi iX3 (by decide +kernel) dX3_checkWhileUnhealthy_43 ?_
      exact fk_vret hC hr hk dX3_checkWhileUnhealthy_46 rfl (by unfold sV_u sV_u1; rw [if_neg c2, if_neg c23]) rfl

set_option maxHeartbeats 4000000 in
set_option maxRecDepth 100000 in
theorem kX3_accepts (l : Launch) (D : va_G) (K : Nat → ClassId) (NL : List Nat) (ad : Nat → Nat) (G : fM) (x : fX) (z i : Nat) (hz : f_ES NL z) (hi : i < 10) : Kd l yX3_accepts wsX3_accepts { frames := 1, cells := 0, slots := 0, locals := 20 } vwCl D K NL ad [.ref (ad (nV z i))] G x (some (.int (sV_acc z i G))) G x := by
  refine Kd.of (cc := cX3_accepts) (maxL := 1) (ret := (some .boolean)) (L := [some (.ref (ad (nV z i)))]) (by decide +kernel) rfl rfl (Nat.le_of_ble_eq_true rfl) ?_
  intro p e s m args below meth c hC hN hr hk hnme
  have iX3 : ∀ w ∈ wsX30, w ∈ wsX3_accepts := by decide +kernel
  refine fk_aload_n hC dX3_accepts_0 rfl rfl ?_
  refine fk_getV_5 hC hz hi iX3 (by decide +kernel) dX3_accepts_1 ?_
  refine fk_if_eq (tgt := 39) hC dX3_accepts_4 (by decide) (fun c4 => ?_) (fun c4 => ?_)
  · refine fk_iconst (v := 0) hC dX3_accepts_39 (by decide) ?_
    exact fk_zret hC hr hk dX3_accepts_40 rfl (by unfold sV_acc; rw [if_pos c4]) rfl rfl
  · refine fk_aload_n hC dX3_accepts_7 rfl rfl ?_
    refine fk_getV_6 hC hz hi iX3 (by decide +kernel) dX3_accepts_8 ?_
    refine fk_if_ne (tgt := 39) hC dX3_accepts_11 (by decide) (fun c11 => ?_) (fun c11 => ?_)
    · refine fk_iconst (v := 0) hC dX3_accepts_39 (by decide) ?_
      exact fk_zret hC hr hk dX3_accepts_40 rfl (by unfold sV_acc; rw [if_neg c4, if_neg c11]) rfl rfl
    · refine fk_aload_n hC dX3_accepts_14 rfl rfl ?_
      refine fk_getV_3 hC hz hi iX3 (by decide +kernel) dX3_accepts_15 ?_
      refine fk_aload_n hC dX3_accepts_18 rfl rfl ?_
      refine fk_getV_2 hC hz hi iX3 (by decide +kernel) dX3_accepts_19 ?_
      refine fk_icmp_ge (tgt := 39) hC dX3_accepts_22 (by decide) (fun c22 => ?_) (fun c22 => ?_)
      · refine fk_iconst (v := 0) hC dX3_accepts_39 (by decide) ?_
        exact fk_zret hC hr hk dX3_accepts_40 rfl (by unfold sV_acc; rw [if_neg c4, if_pos c11, if_pos c22]) rfl rfl
      · refine fk_aload_n hC dX3_accepts_25 rfl rfl ?_
        refine fk_getV_0 hC hz hi iX3 (by decide +kernel) dX3_accepts_26 ?_
        refine fk_callV hC hN (kX0_letsThrough l D K NL ad _ x z i hz hi) (hz.B hi) (f_eB _ _ _ _ _ hz.1 hi) rfl (cwV 0 hC.1.2.2.2.2 gX3_accepts_X0_letsThrough rfl rfl rfl (by decide +kernel) ⟨Nat.le_of_ble_eq_true rfl, Nat.le_of_ble_eq_true rfl⟩) rfl rfl (Nat.le_of_ble_eq_true rfl) dX3_accepts_29 ⟨Nat.zero_le _, Nat.zero_le _⟩ ?_
        refine fk_if_eq (tgt := 39) hC dX3_accepts_32 (by decide) (fun c32 => ?_) (fun c32 => ?_)
        · refine fk_iconst (v := 0) hC dX3_accepts_39 (by decide) ?_
          exact fk_zret hC hr hk dX3_accepts_40 rfl (by unfold sV_acc; rw [if_neg c4, if_pos c11, if_neg c22, if_pos c32]) rfl rfl
        · refine fk_iconst (v := 1) hC dX3_accepts_35 (by decide) ?_
          refine fk_goto (tgt := 40) hC dX3_accepts_36 (by decide) ?_
          exact fk_zret hC hr hk dX3_accepts_40 rfl (by unfold sV_acc; rw [if_neg c4, if_pos c11, if_neg c22, if_neg c32]) rfl rfl

set_option maxHeartbeats 4000000 in
set_option maxRecDepth 100000 in
theorem kX3_ringDistance (l : Launch) (D : va_G) (K : Nat → ClassId) (NL : List Nat) (ad : Nat → Nat) (G : fM) (x : fX) (z i : Nat) (hz : f_ES NL z) (hi : i < 10) (wt : Nat) (hw : G (iV z i 0) = nI wt) (hw1 : 1 ≤ wt) (hw2 : wt ≤ 10) (nu st : Int32) : Kd l yX3_ringDistance wsX3_ringDistance { frames := 1, cells := 0, slots := 0, locals := 21 } vwCl D K NL ad [.ref (ad (nV z i)), .int nu, .int st] G x (some (.int (sV_ring wt nu st))) G x := by
  refine Kd.of (cc := cX3_ringDistance) (maxL := 7) (ret := (some .int)) (L := [some (.ref (ad (nV z i))), some (.int nu), some (.int st), none, none, none, none]) (by decide +kernel) rfl rfl (Nat.le_of_ble_eq_true rfl) ?_
  intro p e s m args below meth c hC hN hr hk hnme
  have iX3 : ∀ w ∈ wsX30, w ∈ wsX3_ringDistance := by decide +kernel
  have lp : ∀ (d : Nat) (k : Nat) (a : Int32), 4 * wt - k = d → k ≤ 4 * wt → sV_ring wt nu st = fold9 (sV_rst (1000 * nu) st) (4 * wt - k) k a → Wk p l e { frames := 1, cells := 0, slots := 0, locals := 21 } s m args below meth c vwCl D K NL ad (f_A NL ad s.heap.size) s.heap 7 0 0 (MQ below (f_Post vwCl D K NL ad G x (some (.int (sV_ring wt nu st))) s.heap.size) args s 0 0 (f_A NL ad s.heap.size)) G x 17 [some (.ref (ad (nV z i))), some (.int nu), some (.int st), some (.int (1000 * nu)), some (.int a), some (.int (nI k)), none] [] := by
    intro d
    induction d using Nat.strongRecOn with
    | _ d ih =>
      intro k a hd hkn hs
      refine fk_iload hC dX3_ringDistance_17 rfl ?_
      refine fk_iconst (v := 4) hC dX3_ringDistance_19 (by decide) ?_
      refine fk_aload_n hC dX3_ringDistance_20 rfl rfl ?_
      refine fk_getV_1 hC hz hi iX3 (by decide +kernel) dX3_ringDistance_21 ?_
      refine fk_imul hC dX3_ringDistance_24 ?_
      refine fk_icmp_ge (tgt := 59) hC dX3_ringDistance_25 (by decide) (fun c25 => ?_) (fun c25 => ?_)
      · rw [hw, show (4 : Int32) * nI wt = nI (4 * wt) from pk_mul 4 wt] at c25
        have q25 := f_le (by omega) (by omega) c25
        refine fk_iload hC dX3_ringDistance_59 rfl ?_
        exact fk_iret hC hr hk dX3_ringDistance_61 (by rw [hs, fold9_end q25]) rfl rfl
      · rw [hw, show (4 : Int32) * nI wt = nI (4 * wt) from pk_mul 4 wt] at c25
        have q25 := f_nle (by omega) (by omega) c25
        refine fk_iload_n hC dX3_ringDistance_28 rfl rfl ?_
        refine fk_iload hC dX3_ringDistance_29 rfl ?_
        refine fk_iadd hC dX3_ringDistance_31 ?_
        refine fk_callSN hC hN (kX5_mix l D K NL ad _ x _) ⟨va_cnB 1 hC.1.2.2.2.2 gX3_ringDistance_X5_mix_n54 rfl rfl rfl hN.2.1 (hC.ts (.initialized RX5) (by decide +kernel)) (by decide +kernel) ⟨Nat.le_of_ble_eq_true rfl, Nat.le_of_ble_eq_true rfl⟩, hC.ts (.static yX5_mix) (by decide +kernel), trivial⟩ rfl rfl (Nat.le_of_ble_eq_true rfl) dX3_ringDistance_32 ⟨Nat.zero_le _, Nat.zero_le _⟩ ?_
        refine fk_iload_n hC dX3_ringDistance_35 rfl rfl ?_
        refine fk_isub hC dX3_ringDistance_36 ?_
        refine fk_istore hC dX3_ringDistance_37 (by decide) rfl ?_
        refine fk_iload hC dX3_ringDistance_39 rfl ?_
        refine fk_iload hC dX3_ringDistance_41 rfl ?_
        refine fk_callSN hC hN (kX5_isBelowUnsigned l D K NL ad _ x _ _) ⟨va_cnB 2 hC.1.2.2.2.2 gX3_ringDistance_X5_isBelowUnsigned_n58 rfl rfl rfl hN.2.2.1 (hC.ts (.initialized RX5) (by decide +kernel)) (by decide +kernel) ⟨Nat.le_of_ble_eq_true rfl, Nat.le_of_ble_eq_true rfl⟩, hC.ts (.static yX5_isBelowUnsigned) (by decide +kernel), trivial⟩ rfl rfl (Nat.le_of_ble_eq_true rfl) dX3_ringDistance_43 ⟨Nat.zero_le _, Nat.zero_le _⟩ ?_
        refine fk_if_eq (tgt := 53) hC dX3_ringDistance_46 (by decide) (fun c46 => ?_) (fun c46 => ?_)
        · refine fk_iinc hC dX3_ringDistance_53 rfl (f_inc k) (by decide) rfl ?_
          refine fk_goto (tgt := 17) hC dX3_ringDistance_56 (by decide) ?_
          refine fk_drop 6 ?_
          exact ih (4 * wt - (k + 1)) (by omega) (k + 1) (a) rfl (by omega) (hs.trans ((fold9_step q25).trans (by rw [sV_rst, if_pos c46])))
        · refine fk_iload hC dX3_ringDistance_49 rfl ?_
          refine fk_istore hC dX3_ringDistance_51 (by decide) rfl ?_
          refine fk_iinc hC dX3_ringDistance_53 rfl (f_inc k) (by decide) rfl ?_
          refine fk_goto (tgt := 17) hC dX3_ringDistance_56 (by decide) ?_
          refine fk_drop 6 ?_
          exact ih (4 * wt - (k + 1)) (by omega) (k + 1) (mix9 (1000 * nu + nI k) - st) rfl (by omega) (hs.trans ((fold9_step q25).trans (by rw [sV_rst, if_neg c46])))
  refine fk_sipush (v := 1000) hC dX3_ringDistance_0 (by decide) ?_
  refine fk_iload_n hC dX3_ringDistance_3 rfl rfl ?_
  refine fk_imul hC dX3_ringDistance_4 ?_
  refine fk_istore_n hC dX3_ringDistance_5 rfl (by decide) rfl ?_
  refine fk_iload_n hC dX3_ringDistance_6 rfl rfl ?_
  refine fk_callSN hC hN (kX5_mix l D K NL ad _ x _) ⟨va_cnB 1 hC.1.2.2.2.2 gX3_ringDistance_X5_mix_n54 rfl rfl rfl hN.2.1 (hC.ts (.initialized RX5) (by decide +kernel)) (by decide +kernel) ⟨Nat.le_of_ble_eq_true rfl, Nat.le_of_ble_eq_true rfl⟩, hC.ts (.static yX5_mix) (by decide +kernel), trivial⟩ rfl rfl (Nat.le_of_ble_eq_true rfl) dX3_ringDistance_7 ⟨Nat.zero_le _, Nat.zero_le _⟩ ?_
  refine fk_iload_n hC dX3_ringDistance_10 rfl rfl ?_
  refine fk_isub hC dX3_ringDistance_11 ?_
  refine fk_istore hC dX3_ringDistance_12 (by decide) rfl ?_
  refine fk_iconst (v := 1) hC dX3_ringDistance_14 (by decide) ?_
  refine fk_istore hC dX3_ringDistance_15 (by decide) rfl ?_
  exact lp (4 * wt - 1) 1 _ rfl (by omega) (by rw [sV_ring])

set_option maxHeartbeats 4000000 in
set_option maxRecDepth 100000 in
theorem kX0_copyFrom (l : Launch) (D : va_G) (K : Nat → ClassId) (NL : List Nat) (ad : Nat → Nat) (G : fM) (x : fX) (z y i : Nat) (hz : f_ES NL z) (hy : f_ES NL y) (hne : z ≠ y) (hi : i < 10) : Kd l yX0_copyFrom wsX0_copyFrom { frames := 0, cells := 0, slots := 0, locals := 0 } vwCl D K NL ad [.ref (ad (nB z i)), .ref (ad (nB y i))] G x none (sB_copy z y i G) x := by
  refine Kd.of (cc := cX0_copyFrom) (maxL := 2) (ret := none) (L := [some (.ref (ad (nB z i))), some (.ref (ad (nB y i)))]) (by decide +kernel) rfl rfl (Nat.le_of_ble_eq_true rfl) ?_
  intro p e s m args below meth c hC hN hr hk hnme
  have iX0 : ∀ w ∈ wsX00, w ∈ wsX0_copyFrom := by decide +kernel
  refine fk_aload_n hC dX0_copyFrom_0 rfl rfl ?_
  refine fk_aload_n hC dX0_copyFrom_1 rfl rfl ?_
  refine fk_getB_0 hC hy hi iX0 (by decide +kernel) dX0_copyFrom_2 ?_
  refine fk_putB_0 hC hz hi iX0 (by decide +kernel) dX0_copyFrom_5 ?_
  refine fk_aload_n hC dX0_copyFrom_8 rfl rfl ?_
  refine fk_aload_n hC dX0_copyFrom_9 rfl rfl ?_
  refine fk_getB_1 hC hy hi iX0 (by decide +kernel) dX0_copyFrom_10 ?_
  refine fk_putB_1 hC hz hi iX0 (by decide +kernel) dX0_copyFrom_13 ?_
  refine fk_aload_n hC dX0_copyFrom_16 rfl rfl ?_
  refine fk_aload_n hC dX0_copyFrom_17 rfl rfl ?_
  refine fk_getB_2 hC hy hi iX0 (by decide +kernel) dX0_copyFrom_18 ?_
  refine fk_putB_2 hC hz hi iX0 (by decide +kernel) dX0_copyFrom_21 ?_
  refine fk_aload_n hC dX0_copyFrom_24 rfl rfl ?_
  refine fk_aload_n hC dX0_copyFrom_25 rfl rfl ?_
  refine fk_getB_3 hC hy hi iX0 (by decide +kernel) dX0_copyFrom_26 ?_
  refine fk_putB_3 hC hz hi iX0 (by decide +kernel) dX0_copyFrom_29 ?_
  refine fk_aload_n hC dX0_copyFrom_32 rfl rfl ?_
  refine fk_aload_n hC dX0_copyFrom_33 rfl rfl ?_
  refine fk_getB_4 hC hy hi iX0 (by decide +kernel) dX0_copyFrom_34 ?_
  refine fk_putB_4 hC hz hi iX0 (by decide +kernel) dX0_copyFrom_37 ?_
  exact fk_vret hC hr hk dX0_copyFrom_40 rfl rfl rfl

set_option maxHeartbeats 4000000 in
set_option maxRecDepth 100000 in
theorem kX3_copyFrom (l : Launch) (D : va_G) (K : Nat → ClassId) (NL : List Nat) (ad : Nat → Nat) (G : fM) (x : fX) (z y i : Nat) (hz : f_ES NL z) (hy : f_ES NL y) (hne : z ≠ y) (hi : i < 10) (hb4 : G (iV y i 4) = 0 ∨ G (iV y i 4) = 1) (hb5 : G (iV y i 5) = 0 ∨ G (iV y i 5) = 1) (hb7 : G (iV y i 7) = 0 ∨ G (iV y i 7) = 1) : Kd l yX3_copyFrom wsX3_copyFrom { frames := 1, cells := 0, slots := 0, locals := 21 } vwCl D K NL ad [.ref (ad (nV z i)), .ref (ad (nV y i))] G x none (sV_copy z y i G) x := by
  refine Kd.of (cc := cX3_copyFrom) (maxL := 2) (ret := none) (L := [some (.ref (ad (nV z i))), some (.ref (ad (nV y i)))]) (by decide +kernel) rfl rfl (Nat.le_of_ble_eq_true rfl) ?_
  intro p e s m args below meth c hC hN hr hk hnme
  have iX3 : ∀ w ∈ wsX30, w ∈ wsX3_copyFrom := by decide +kernel
  have h1 := hz.1
  have h2 := hy.1
  refine fk_aload_n hC dX3_copyFrom_0 rfl rfl ?_
  refine fk_aload_n hC dX3_copyFrom_1 rfl rfl ?_
  refine fk_getV_1 hC hy hi iX3 (by decide +kernel) dX3_copyFrom_2 ?_
  refine fk_putV_1 hC hz hi iX3 (by decide +kernel) dX3_copyFrom_5 ?_
  refine fk_aload_n hC dX3_copyFrom_8 rfl rfl ?_
  refine fk_aload_n hC dX3_copyFrom_9 rfl rfl ?_
  refine fk_getV_2 hC hy hi iX3 (by decide +kernel) dX3_copyFrom_10 ?_
  refine fk_putV_2 hC hz hi iX3 (by decide +kernel) dX3_copyFrom_13 ?_
  refine fk_aload_n hC dX3_copyFrom_16 rfl rfl ?_
  refine fk_aload_n hC dX3_copyFrom_17 rfl rfl ?_
  refine fk_getV_3 hC hy hi iX3 (by decide +kernel) dX3_copyFrom_18 ?_
  refine fk_putV_3 hC hz hi iX3 (by decide +kernel) dX3_copyFrom_21 ?_
  refine fk_aload_n hC dX3_copyFrom_24 rfl rfl ?_
  refine fk_aload_n hC dX3_copyFrom_25 rfl rfl ?_
  refine fk_getV_4 hC hy hi iX3 (by decide +kernel) dX3_copyFrom_26 ?_
  refine fk_putV_4 hC hz hi iX3 (by decide +kernel) dX3_copyFrom_29 ?_
  refine fk_aload_n hC dX3_copyFrom_32 rfl rfl ?_
  refine fk_aload_n hC dX3_copyFrom_33 rfl rfl ?_
  refine fk_getV_5 hC hy hi iX3 (by decide +kernel) dX3_copyFrom_34 ?_
  refine fk_putV_5 hC hz hi iX3 (by decide +kernel) (f_narB (by repeat (first | exact hb4 | rw [pk_un (by unfold iV; omega)]))) (f_fitB (by repeat (first | exact hb4 | rw [pk_un (by unfold iV; omega)]))) dX3_copyFrom_37 ?_
  refine fk_aload_n hC dX3_copyFrom_40 rfl rfl ?_
  refine fk_aload_n hC dX3_copyFrom_41 rfl rfl ?_
  refine fk_getV_6 hC hy hi iX3 (by decide +kernel) dX3_copyFrom_42 ?_
  refine fk_putV_6 hC hz hi iX3 (by decide +kernel) (f_narB (by repeat (first | exact hb5 | rw [pk_un (by unfold iV; omega)]))) (f_fitB (by repeat (first | exact hb5 | rw [pk_un (by unfold iV; omega)]))) dX3_copyFrom_45 ?_
  refine fk_aload_n hC dX3_copyFrom_48 rfl rfl ?_
  refine fk_aload_n hC dX3_copyFrom_49 rfl rfl ?_
  refine fk_getV_7 hC hy hi iX3 (by decide +kernel) dX3_copyFrom_50 ?_
  refine fk_putV_7 hC hz hi iX3 (by decide +kernel) dX3_copyFrom_53 ?_
  refine fk_aload_n hC dX3_copyFrom_56 rfl rfl ?_
  refine fk_aload_n hC dX3_copyFrom_57 rfl rfl ?_
  refine fk_getV_8 hC hy hi iX3 (by decide +kernel) dX3_copyFrom_58 ?_
  refine fk_putV_8 hC hz hi iX3 (by decide +kernel) (f_narB (by repeat (first | exact hb7 | rw [pk_un (by unfold iV; omega)]))) (f_fitB (by repeat (first | exact hb7 | rw [pk_un (by unfold iV; omega)]))) dX3_copyFrom_61 ?_
  refine fk_aload_n hC dX3_copyFrom_64 rfl rfl ?_
  refine fk_aload_n hC dX3_copyFrom_65 rfl rfl ?_
  refine fk_getV_9 hC hy hi iX3 (by decide +kernel) dX3_copyFrom_66 ?_
  refine fk_putV_9 hC hz hi iX3 (by decide +kernel) dX3_copyFrom_69 ?_
  refine fk_aload_n hC dX3_copyFrom_72 rfl rfl ?_
  refine fk_getV_0 hC hz hi iX3 (by decide +kernel) dX3_copyFrom_73 ?_
  refine fk_aload_n hC dX3_copyFrom_76 rfl rfl ?_
  refine fk_getV_0 hC hy hi iX3 (by decide +kernel) dX3_copyFrom_77 ?_
  refine fk_callV hC hN (kX0_copyFrom l D K NL ad _ x z y i hz hy hne hi) (hz.B hi) (f_eB _ _ _ _ _ hz.1 hi) rfl (cwV 1 hC.1.2.2.2.2 gX3_copyFrom_X0_copyFrom rfl rfl rfl (by decide +kernel) ⟨Nat.le_of_ble_eq_true rfl, Nat.le_of_ble_eq_true rfl⟩) rfl rfl (Nat.le_of_ble_eq_true rfl) dX3_copyFrom_80 ⟨Nat.zero_le _, Nat.zero_le _⟩ ?_
  exact fk_vret hC hr hk dX3_copyFrom_83 rfl rfl rfl

