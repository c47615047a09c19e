set_option maxHeartbeats 4000000 in
set_option maxRecDepth 100000 in
theorem kX4_availableCount (l : Launch) (D : va_G) (K : Nat → ClassId) (NL : List Nat) (ad : Nat → Nat) (G : fM) (x : fX) (z : Nat) (hz : f_ES NL z) (hI : f_I z G) : Kd l yX4_availableCount wsX4_availableCount { frames := 2, cells := 0, slots := 0, locals := 40 } vwCl D K NL ad [.ref (ad (nm z 0))] G x (some (.int (nI (sS_ct z G)))) G x := by
  refine Kd.of (cc := cX4_availableCount) (maxL := 3) (ret := (some .int)) (L := [some (.ref (ad (nm z 0))), none, none]) (by decide +kernel) rfl rfl (Nat.le_of_ble_eq_true rfl) ?_
  intro p e s m args below meth c hC hN hr hk hnme
  have iX4 : ∀ w ∈ wsX40, w ∈ wsX4_availableCount := by decide +kernel
  have h10 := hI.c10
  have lp : ∀ (d : Nat) (k a : Nat), cN z G - k = d → k ≤ cN z G → a ≤ k → sS_ct z G = fold9 (avCt (sS_av z G)) (cN z G - k) k a → Wk p l e { frames := 2, cells := 0, slots := 0, locals := 40 } s m args below meth c vwCl D K NL ad (f_A NL ad s.heap.size) s.heap 3 0 0 (MQ below (f_Post vwCl D K NL ad G x (some (.int (nI (sS_ct z G)))) s.heap.size) args s 0 0 (f_A NL ad s.heap.size)) G x 4 [some (.ref (ad (nm z 0))), some (.int (nI a)), some (.int (nI k))] [] := by
    intro d
    induction d using Nat.strongRecOn with
    | _ d ih =>
      intro k a hd hkn ha hs
      refine fk_iload_n hC dX4_availableCount_4 rfl rfl ?_
      refine fk_aload_n hC dX4_availableCount_5 rfl rfl ?_
      refine fk_getS_3 hC hz iX4 (by decide +kernel) dX4_availableCount_6 ?_
      refine fk_icmp_ge (tgt := 33) hC dX4_availableCount_9 (by decide) (fun c9 => ?_) (fun c9 => ?_)
      · rw [hI.c] at c9
        have q9 := f_le (by omega) (by omega) c9
        refine fk_iload_n hC dX4_availableCount_33 rfl rfl ?_
        exact fk_iret hC hr hk dX4_availableCount_34 (by rw [hs, fold9_end q9]) rfl rfl
      · rw [hI.c] at c9
        have q9 := f_nle (by omega) (by omega) c9
        refine fk_aload_n hC dX4_availableCount_12 rfl rfl ?_
        refine fk_getS_0 hC hz iX4 (by decide +kernel) dX4_availableCount_13 ?_
        refine fk_iload_n hC dX4_availableCount_16 rfl rfl ?_
        refine fk_ldV hC hz rfl (by omega) dX4_availableCount_17 ?_
        refine fk_callV hC hN (kX3_accepts l D K NL ad _ x z k hz (by omega)) (hz.V (by omega)) (f_eV _ _ _ _ _ hz.1 (by omega)) rfl (cwV 0 hC.1.2.2.2.2 gX4_availableCount_X3_accepts rfl rfl rfl (by decide +kernel) ⟨Nat.le_of_ble_eq_true rfl, Nat.le_of_ble_eq_true rfl⟩) rfl rfl (Nat.le_of_ble_eq_true rfl) dX4_availableCount_18 ⟨Nat.zero_le _, Nat.zero_le _⟩ ?_
        refine fk_if_eq (tgt := 27) hC dX4_availableCount_21 (by decide) (fun c21 => ?_) (fun c21 => ?_)
        · refine fk_iinc hC dX4_availableCount_27 rfl (f_inc k) (by decide) rfl ?_
          refine fk_goto (tgt := 4) hC dX4_availableCount_30 (by decide) ?_
          exact ih (cN z G - (k + 1)) (by omega) (k + 1) a rfl (by omega) (by omega) (hs.trans ((fold9_step q9).trans (by rw [avCt, if_neg (by rw [sS_av_f c21]; exact Bool.false_ne_true)])))
        · refine fk_iinc hC dX4_availableCount_24 rfl (f_inc a) (by decide) rfl ?_
          refine fk_iinc hC dX4_availableCount_27 rfl (f_inc k) (by decide) rfl ?_
          refine fk_goto (tgt := 4) hC dX4_availableCount_30 (by decide) ?_
          exact ih (cN z G - (k + 1)) (by omega) (k + 1) (a + 1) rfl (by omega) (by omega) (hs.trans ((fold9_step q9).trans (by rw [avCt, if_pos (sS_av_t c21)])))
  refine fk_iconst (v := 0) hC dX4_availableCount_0 (by decide) ?_
  refine fk_istore_n hC dX4_availableCount_1 rfl (by decide) rfl ?_
  refine fk_iconst (v := 0) hC dX4_availableCount_2 (by decide) ?_
  refine fk_istore_n hC dX4_availableCount_3 rfl (by decide) rfl ?_
  exact lp (cN z G) 0 0 rfl (Nat.zero_le _) (Nat.zero_le _) (by rw [sS_ct]; rfl)

set_option maxHeartbeats 4000000 in
set_option maxRecDepth 100000 in
theorem kX4_availableAt (l : Launch) (D : va_G) (K : Nat → ClassId) (NL : List Nat) (ad : Nat → Nat) (G : fM) (x : fX) (z : Nat) (hz : f_ES NL z) (hI : f_I z G) (t0 : Nat) (ht0 : t0 < 2 ^ 31) : Kd l yX4_availableAt wsX4_availableAt { frames := 2, cells := 0, slots := 0, locals := 40 } vwCl D K NL ad [.ref (ad (nm z 0)), .int (nI t0)] G x (some (.int (rI (sS_at z t0 G)))) G x := by
  refine Kd.of (cc := cX4_availableAt) (maxL := 4) (ret := (some .int)) (L := [some (.ref (ad (nm z 0))), some (.int (nI t0)), none, none]) (by decide +kernel) rfl rfl (Nat.le_of_ble_eq_true rfl) ?_
  intro p e s m args below meth c hC hN hr hk hnme
  have iX4 : ∀ w ∈ wsX40, w ∈ wsX4_availableAt := by decide +kernel
  have h10 := hI.c10
  have lp : ∀ (d : Nat) (k t : Nat), cN z G - k = d → k ≤ cN z G → t < 2 ^ 31 → avAt (sS_av z G) (cN z G) 0 t0 = avAt (sS_av z G) (cN z G - k) k t → Wk p l e { frames := 2, cells := 0, slots := 0, locals := 40 } s m args below meth c vwCl D K NL ad (f_A NL ad s.heap.size) s.heap 4 0 0 (MQ below (f_Post vwCl D K NL ad G x (some (.int (rI (sS_at z t0 G)))) s.heap.size) args s 0 0 (f_A NL ad s.heap.size)) G x 4 [some (.ref (ad (nm z 0))), some (.int (nI t0)), some (.int (nI t)), some (.int (nI k))] [] := by
    intro d
    induction d using Nat.strongRecOn with
    | _ d ih =>
      intro k t hd hkn ht hs
      refine fk_iload_n hC dX4_availableAt_4 rfl rfl ?_
      refine fk_aload_n hC dX4_availableAt_5 rfl rfl ?_
      refine fk_getS_3 hC hz iX4 (by decide +kernel) dX4_availableAt_6 ?_
      refine fk_icmp_ge (tgt := 39) hC dX4_availableAt_9 (by decide) (fun c9 => ?_) (fun c9 => ?_)
      · rw [hI.c] at c9
        have q9 := f_le (by omega) (by omega) c9
        refine fk_iconst (v := (-1)) hC dX4_availableAt_39 (by decide) ?_
        exact fk_iret hC hr hk dX4_availableAt_40 (by unfold sS_at; rw [hs, show cN z G - k = 0 by omega]; rfl) rfl rfl
      · rw [hI.c] at c9
        have q9 := f_nle (by omega) (by omega) c9
        refine fk_aload_n hC dX4_availableAt_12 rfl rfl ?_
        refine fk_getS_0 hC hz iX4 (by decide +kernel) dX4_availableAt_13 ?_
        refine fk_iload_n hC dX4_availableAt_16 rfl rfl ?_
        refine fk_ldV hC hz rfl (by omega) dX4_availableAt_17 ?_
        refine fk_callV hC hN (kX3_accepts l D K NL ad _ x z k hz (by omega)) (hz.V (by omega)) (f_eV _ _ _ _ _ hz.1 (by omega)) rfl (cwV 0 hC.1.2.2.2.2 gX4_availableAt_X3_accepts rfl rfl rfl (by decide +kernel) ⟨Nat.le_of_ble_eq_true rfl, Nat.le_of_ble_eq_true rfl⟩) rfl rfl (Nat.le_of_ble_eq_true rfl) dX4_availableAt_18 ⟨Nat.zero_le _, Nat.zero_le _⟩ ?_
        refine fk_if_eq (tgt := 33) hC dX4_availableAt_21 (by decide) (fun c21 => ?_) (fun c21 => ?_)
        · refine fk_iinc hC dX4_availableAt_33 rfl (f_inc k) (by decide) rfl ?_
          refine fk_goto (tgt := 4) hC dX4_availableAt_36 (by decide) ?_
          exact ih (cN z G - (k + 1)) (by omega) (k + 1) t rfl (by omega) (by omega) (hs.trans (by rw [(show cN z G - k = (cN z G - (k + 1)) + 1 by omega), avAt_s, if_neg (by rw [sS_av_f c21]; exact Bool.false_ne_true)]))
        · refine fk_iload_n hC dX4_availableAt_24 rfl rfl ?_
          refine fk_if_ne (tgt := 30) hC dX4_availableAt_25 (by decide) (fun c25 => ?_) (fun c25 => ?_)
          · have q25 : ¬ t = 0 := fun h => c25 (by rw [h]; rfl)
            refine fk_iinc hC dX4_availableAt_30 rfl (f_dec (by omega)) (by decide) rfl ?_
            refine fk_iinc hC dX4_availableAt_33 rfl (f_inc k) (by decide) rfl ?_
            refine fk_goto (tgt := 4) hC dX4_availableAt_36 (by decide) ?_
            exact ih (cN z G - (k + 1)) (by omega) (k + 1) (t - 1) rfl (by omega) (by omega) (hs.trans (by rw [(show cN z G - k = (cN z G - (k + 1)) + 1 by omega), avAt_s, if_pos (sS_av_t c21), if_neg q25]))
          · have q25 : t = 0 := (nI_eq (b := 0) (by omega) (by decide)).mp c25
            refine fk_iload_n hC dX4_availableAt_28 rfl rfl ?_
            exact fk_iret hC hr hk dX4_availableAt_29 (by unfold sS_at; rw [hs, (show cN z G - k = (cN z G - (k + 1)) + 1 by omega), avAt_s, if_pos (sS_av_t c21), if_pos q25]; rfl) rfl rfl
  refine fk_iload_n hC dX4_availableAt_0 rfl rfl ?_
  refine fk_istore_n hC dX4_availableAt_1 rfl (by decide) rfl ?_
  refine fk_iconst (v := 0) hC dX4_availableAt_2 (by decide) ?_
  refine fk_istore_n hC dX4_availableAt_3 rfl (by decide) rfl ?_
  exact lp (cN z G) 0 t0 rfl (Nat.zero_le _) ht0 rfl

theorem sS_ct_le {z : Nat} {G : fM} : sS_ct z G ≤ cN z G := by
  have h := fold9_inv (F := avCt (sS_av z G)) (fun k a => a ≤ k) (cN z G) 0 0 (Nat.le_refl _) (fun j b _ _ h => by unfold avCt; split <;> omega)
  rw [Nat.zero_add] at h
  exact h
theorem sS_at_some {z t : Nat} {G : fM} (h : t < sS_ct z G) : ∃ j, sS_at z t G = some j ∧ j < cN z G := by
  obtain ⟨j, h1, _, h3, _⟩ := avAt_some (P := sS_av z G) (cN z G) 0 t 0 (by rw [Nat.add_zero]; exact h)
  exact ⟨j, h1, by omega⟩
theorem f_rem16 {v : Int32} {a : Nat} (ha : 0 < a) (ha2 : a < 2 ^ 31) : (v.toUInt32 >>> ((16 : Int32).toUInt32 &&& Int32.toUInt32 31)).toInt32 - (v.toUInt32 >>> ((16 : Int32).toUInt32 &&& Int32.toUInt32 31)).toInt32 / nI a * nI a = nI ((v.toBitVec.toNat / 65536) % a) := by
  rw [f_ush16]
  exact pk_rem (by have := v.toBitVec.isLt; omega) ha ha2

set_option maxHeartbeats 4000000 in
set_option maxRecDepth 100000 in
theorem kX4_selectOfTwo (l : Launch) (D : va_G) (K : Nat → ClassId) (NL : List Nat) (ad : Nat → Nat) (G : fM) (x : fX) (z : Nat) (hz : f_ES NL z) (hI : f_I z G) : Kd l yX4_selectOfTwo wsX4_selectOfTwo { frames := 3, cells := 0, slots := 0, locals := 63 } vwCl D K NL ad [.ref (ad (nm z 0))] G x (some (.int (rI (sS_two z G)))) G x := by
  refine Kd.of (cc := cX4_selectOfTwo) (maxL := 6) (ret := (some .int)) (L := [some (.ref (ad (nm z 0))), none, none, none, none, none]) (by decide +kernel) rfl rfl (Nat.le_of_ble_eq_true rfl) ?_
  intro p e s m args below meth c hC hN hr hk hnme
  have iX3 : ∀ w ∈ wsX30, w ∈ wsX4_selectOfTwo := by decide +kernel
  have iX4 : ∀ w ∈ wsX40, w ∈ wsX4_selectOfTwo := by decide +kernel
  have h10 := hI.c10
  refine fk_aload_n hC dX4_selectOfTwo_0 rfl rfl ?_
  refine fk_callV hC hN (kX4_availableCount l D K NL ad _ x z hz hI) (hz.2 0 (by decide)) (f_e0 _ _ _ _ _ hz.1) rfl (cwV 0 hC.1.2.2.2.2 gX4_selectOfTwo_X4_availableCount rfl rfl rfl (by decide +kernel) ⟨Nat.le_of_ble_eq_true rfl, Nat.le_of_ble_eq_true rfl⟩) rfl rfl (Nat.le_of_ble_eq_true rfl) dX4_selectOfTwo_1 ⟨Nat.zero_le _, Nat.zero_le _⟩ ?_
  refine fk_istore_n hC dX4_selectOfTwo_4 rfl (by decide) rfl ?_
  refine fk_iload_n hC dX4_selectOfTwo_5 rfl rfl ?_
  refine fk_if_ne (tgt := 11) hC dX4_selectOfTwo_6 (by decide) (fun c6 => ?_) (fun c6 => ?_)
  · have q6 : 0 < sS_ct z G := Nat.pos_of_ne_zero (fun h => c6 (by rw [h]; rfl))
    obtain ⟨j1, e1, hj1⟩ := sS_at_some (z := z) (t := sS_i1 z G) (G := G) (Nat.mod_lt _ q6)
    obtain ⟨j2, e2, hj2⟩ := sS_at_some (z := z) (t := sS_i2 z G) (G := G) (Nat.mod_lt _ q6)
    have hct := sS_ct_le (z := z) (G := G)
    refine fk_aload_n hC dX4_selectOfTwo_11 rfl rfl ?_
    refine fk_getS_11 hC hz iX4 (by decide +kernel) dX4_selectOfTwo_12 ?_
    refine fk_callSN hC hN (kX5_nextSeed l D K NL ad _ x _) ⟨va_cnB 1 hC.1.2.2.2.2 gX4_selectOfTwo_X5_nextSeed_n174 rfl rfl rfl hN.2.2.2.2.2 (hC.ts (.initialized RX5) (by decide +kernel)) (by decide +kernel) ⟨Nat.le_of_ble_eq_true rfl, Nat.le_of_ble_eq_true rfl⟩, hC.ts (.static yX5_nextSeed) (by decide +kernel), trivial⟩ rfl rfl (Nat.le_of_ble_eq_true rfl) dX4_selectOfTwo_15 ⟨Nat.zero_le _, Nat.zero_le _⟩ ?_
    refine fk_istore_n hC dX4_selectOfTwo_18 rfl (by decide) rfl ?_
    refine fk_iload_n hC dX4_selectOfTwo_19 rfl rfl ?_
    refine fk_callSN hC hN (kX5_nextSeed l D K NL ad _ x _) ⟨va_cnB 1 hC.1.2.2.2.2 gX4_selectOfTwo_X5_nextSeed_n174 rfl rfl rfl hN.2.2.2.2.2 (hC.ts (.initialized RX5) (by decide +kernel)) (by decide +kernel) ⟨Nat.le_of_ble_eq_true rfl, Nat.le_of_ble_eq_true rfl⟩, hC.ts (.static yX5_nextSeed) (by decide +kernel), trivial⟩ rfl rfl (Nat.le_of_ble_eq_true rfl) dX4_selectOfTwo_20 ⟨Nat.zero_le _, Nat.zero_le _⟩ ?_
    refine fk_istore_n hC dX4_selectOfTwo_23 rfl (by decide) rfl ?_
    refine fk_aload_n hC dX4_selectOfTwo_24 rfl rfl ?_
    refine fk_iload_n hC dX4_selectOfTwo_25 rfl rfl ?_
    refine fk_bipush (v := 16) hC dX4_selectOfTwo_26 (by decide) ?_
    refine fk_iushr hC dX4_selectOfTwo_28 rfl ?_
    refine fk_iload_n hC dX4_selectOfTwo_29 rfl rfl ?_
    refine fk_irem hC dX4_selectOfTwo_30 (nI_ne0 q6 (by omega)) ?_
    refine fk_topi (f_rem16 q6 (by omega)) ?_
    refine fk_callV hC hN (kX4_availableAt l D K NL ad _ x z hz hI (sS_i1 z G) (by have := Nat.mod_lt ((sed9 (G (iS z 8))).toBitVec.toNat / 65536) q6; have := Nat.mod_lt ((sed9 (sed9 (G (iS z 8)))).toBitVec.toNat / 65536) q6; have := sS_ct_le (z := z) (G := G); unfold sS_i1; omega)) (hz.2 0 (by decide)) (f_e0 _ _ _ _ _ hz.1) rfl (cwV 1 hC.1.2.2.2.2 gX4_selectOfTwo_X4_availableAt rfl rfl rfl (by decide +kernel) ⟨Nat.le_of_ble_eq_true rfl, Nat.le_of_ble_eq_true rfl⟩) rfl rfl (Nat.le_of_ble_eq_true rfl) dX4_selectOfTwo_31 ⟨Nat.zero_le _, Nat.zero_le _⟩ ?_
    rw [show sS_at z (sS_i1 z G) G = some j1 from e1]
    refine fk_istore hC dX4_selectOfTwo_34 (by decide) rfl ?_
    refine fk_aload_n hC dX4_selectOfTwo_36 rfl rfl ?_
    refine fk_iload_n hC dX4_selectOfTwo_37 rfl rfl ?_
    refine fk_bipush (v := 16) hC dX4_selectOfTwo_38 (by decide) ?_
    refine fk_iushr hC dX4_selectOfTwo_40 rfl ?_
    refine fk_iload_n hC dX4_selectOfTwo_41 rfl rfl ?_
    refine fk_irem hC dX4_selectOfTwo_42 (nI_ne0 q6 (by omega)) ?_
    refine fk_topi (f_rem16 q6 (by omega)) ?_
    refine fk_callV hC hN (kX4_availableAt l D K NL ad _ x z hz hI (sS_i2 z G) (by have := Nat.mod_lt ((sed9 (G (iS z 8))).toBitVec.toNat / 65536) q6; have := Nat.mod_lt ((sed9 (sed9 (G (iS z 8)))).toBitVec.toNat / 65536) q6; have := sS_ct_le (z := z) (G := G); unfold sS_i2; omega)) (hz.2 0 (by decide)) (f_e0 _ _ _ _ _ hz.1) rfl (cwV 1 hC.1.2.2.2.2 gX4_selectOfTwo_X4_availableAt rfl rfl rfl (by decide +kernel) ⟨Nat.le_of_ble_eq_true rfl, Nat.le_of_ble_eq_true rfl⟩) rfl rfl (Nat.le_of_ble_eq_true rfl) dX4_selectOfTwo_43 ⟨Nat.zero_le _, Nat.zero_le _⟩ ?_
    rw [show sS_at z (sS_i2 z G) G = some j2 from e2]
    refine fk_istore hC dX4_selectOfTwo_46 (by decide) rfl ?_
    refine fk_aload_n hC dX4_selectOfTwo_48 rfl rfl ?_
    refine fk_iload hC dX4_selectOfTwo_49 rfl ?_
    refine fk_callV hC hN (kX4_serverAt l D K NL ad _ x z hz (cN z G) j2 hI.c hI.c10 hj2) (hz.2 0 (by decide)) (f_e0 _ _ _ _ _ hz.1) rfl (cwV 1 hC.1.2.2.2.2 gX4_selectOfTwo_X4_serverAt rfl rfl rfl (by decide +kernel) ⟨Nat.le_of_ble_eq_true rfl, Nat.le_of_ble_eq_true rfl⟩) rfl rfl (Nat.le_of_ble_eq_true rfl) dX4_selectOfTwo_51 ⟨Nat.zero_le _, Nat.zero_le _⟩ ?_
    refine fk_getV_3 hC hz (by omega) iX3 (by decide +kernel) dX4_selectOfTwo_54 ?_
    refine fk_aload_n hC dX4_selectOfTwo_57 rfl rfl ?_
    refine fk_iload hC dX4_selectOfTwo_58 rfl ?_
    refine fk_callV hC hN (kX4_serverAt l D K NL ad _ x z hz (cN z G) j1 hI.c hI.c10 hj1) (hz.2 0 (by decide)) (f_e0 _ _ _ _ _ hz.1) rfl (cwV 1 hC.1.2.2.2.2 gX4_selectOfTwo_X4_serverAt rfl rfl rfl (by decide +kernel) ⟨Nat.le_of_ble_eq_true rfl, Nat.le_of_ble_eq_true rfl⟩) rfl rfl (Nat.le_of_ble_eq_true rfl) dX4_selectOfTwo_60 ⟨Nat.zero_le _, Nat.zero_le _⟩ ?_
    refine fk_getV_3 hC hz (by omega) iX3 (by decide +kernel) dX4_selectOfTwo_63 ?_
    refine fk_icmp_ge (tgt := 74) hC dX4_selectOfTwo_66 (by decide) (fun c66 => ?_) (fun c66 => ?_)
    · refine fk_iload hC dX4_selectOfTwo_74 rfl ?_
      exact fk_iret hC hr hk dX4_selectOfTwo_76 (by unfold sS_two; rw [if_neg (by omega), e1, e2, Option.getD_some, Option.getD_some, if_pos c66]) rfl rfl
    · refine fk_iload hC dX4_selectOfTwo_69 rfl ?_
      refine fk_goto (tgt := 76) hC dX4_selectOfTwo_71 (by decide) ?_
      exact fk_iret hC hr hk dX4_selectOfTwo_76 (by unfold sS_two; rw [if_neg (by omega), e1, e2, Option.getD_some, Option.getD_some, if_neg c66]) rfl rfl
  · have q6 : sS_ct z G = 0 := (nI_eq (b := 0) (by have := sS_ct_le (z := z) (G := G); omega) (by decide)).mp c6
    refine fk_iconst (v := (-1)) hC dX4_selectOfTwo_9 (by decide) ?_
    exact fk_iret hC hr hk dX4_selectOfTwo_10 (by unfold sS_two; rw [if_pos q6]; rfl) rfl rfl

set_option maxHeartbeats 4000000 in
set_option maxRecDepth 100000 in
theorem kX4_selectByPolicy (l : Launch) (D : va_G) (K : Nat → ClassId) (NL : List Nat) (ad : Nat → Nat) (G : fM) (x : fX) (z : Nat) (hz : f_ES NL z) (hI : f_I z G) (cl : Int32) : Kd l yX4_selectByPolicy wsX4_selectByPolicy { frames := 4, cells := 0, slots := 0, locals := 88 } vwCl D K NL ad [.ref (ad (nm z 0)), .int cl] G x (some (.int (rI (sS_pol z cl G)))) G x := by
  refine Kd.of (cc := cX4_selectByPolicy) (maxL := 2) (ret := (some .int)) (L := [some (.ref (ad (nm z 0))), some (.int cl)]) (by decide +kernel) rfl rfl (Nat.le_of_ble_eq_true rfl) ?_
  intro p e s m args below meth c hC hN hr hk hnme
  have iX4 : ∀ w ∈ wsX40, w ∈ wsX4_selectByPolicy := by decide +kernel
  refine fk_aload_n hC dX4_selectByPolicy_0 rfl rfl ?_
  refine fk_getS_9 hC hz iX4 (by decide +kernel) dX4_selectByPolicy_1 ?_
  rcases f_sw4 (G (iS z 6)) with h4 | h4 | h4 | h4 | h4
  · refine fk_tableIn (off := 32) (tgt := 36) hC dX4_selectByPolicy_4 (by rw [h4]; decide) (by rw [h4]; decide) (by rw [h4]; rfl) (by decide) ?_
    refine fk_aload_n hC dX4_selectByPolicy_36 rfl rfl ?_
    refine fk_callV hC hN (kX4_selectNext l D K NL ad _ x z hz hI) (hz.2 0 (by decide)) (f_e0 _ _ _ _ _ hz.1) rfl (cwV 0 hC.1.2.2.2.2 gX4_selectByPolicy_X4_selectNext rfl rfl rfl (by decide +kernel) ⟨Nat.le_of_ble_eq_true rfl, Nat.le_of_ble_eq_true rfl⟩) rfl rfl (Nat.le_of_ble_eq_true rfl) dX4_selectByPolicy_37 ⟨Nat.zero_le _, Nat.zero_le _⟩ ?_
    exact fk_iret hC hr hk dX4_selectByPolicy_40 (by unfold sS_pol; rw [if_pos h4]) rfl rfl
  · refine fk_tableIn (off := 37) (tgt := 41) hC dX4_selectByPolicy_4 (by rw [h4]; decide) (by rw [h4]; decide) (by rw [h4]; rfl) (by decide) ?_
    refine fk_aload_n hC dX4_selectByPolicy_41 rfl rfl ?_
    refine fk_callV hC hN (kX4_selectByCredit l D K NL ad _ x z hz hI) (hz.2 0 (by decide)) (f_e0 _ _ _ _ _ hz.1) rfl (cwV 0 hC.1.2.2.2.2 gX4_selectByPolicy_X4_selectByCredit rfl rfl rfl (by decide +kernel) ⟨Nat.le_of_ble_eq_true rfl, Nat.le_of_ble_eq_true rfl⟩) rfl rfl (Nat.le_of_ble_eq_true rfl) dX4_selectByPolicy_42 ⟨Nat.zero_le _, Nat.zero_le _⟩ ?_
    exact fk_iret hC hr hk dX4_selectByPolicy_45 (by unfold sS_pol; rw [if_neg (by rw [h4]; decide), if_pos h4]) rfl rfl
  · refine fk_tableIn (off := 42) (tgt := 46) hC dX4_selectByPolicy_4 (by rw [h4]; decide) (by rw [h4]; decide) (by rw [h4]; rfl) (by decide) ?_
    refine fk_aload_n hC dX4_selectByPolicy_46 rfl rfl ?_
    refine fk_callV hC hN (kX4_selectLeastLoaded l D K NL ad _ x z hz hI) (hz.2 0 (by decide)) (f_e0 _ _ _ _ _ hz.1) rfl (cwV 0 hC.1.2.2.2.2 gX4_selectByPolicy_X4_selectLeastLoaded rfl rfl rfl (by decide +kernel) ⟨Nat.le_of_ble_eq_true rfl, Nat.le_of_ble_eq_true rfl⟩) rfl rfl (Nat.le_of_ble_eq_true rfl) dX4_selectByPolicy_47 ⟨Nat.zero_le _, Nat.zero_le _⟩ ?_
    exact fk_iret hC hr hk dX4_selectByPolicy_50 (by unfold sS_pol; rw [if_neg (by rw [h4]; decide), if_neg (by rw [h4]; decide), if_pos h4]) rfl rfl
  · refine fk_tableIn (off := 47) (tgt := 51) hC dX4_selectByPolicy_4 (by rw [h4]; decide) (by rw [h4]; decide) (by rw [h4]; rfl) (by decide) ?_
    refine fk_aload_n hC dX4_selectByPolicy_51 rfl rfl ?_
    refine fk_iload_n hC dX4_selectByPolicy_52 rfl rfl ?_
    refine fk_iconst (v := 1) hC dX4_selectByPolicy_53 (by decide) ?_
    refine fk_callV hC hN (kX4_firstOnRing l D K NL ad _ x z hz hI _ _) (hz.2 0 (by decide)) (f_e0 _ _ _ _ _ hz.1) rfl (cwV 2 hC.1.2.2.2.2 gX4_selectByPolicy_X4_firstOnRing rfl rfl rfl (by decide +kernel) ⟨Nat.le_of_ble_eq_true rfl, Nat.le_of_ble_eq_true rfl⟩) rfl rfl (Nat.le_of_ble_eq_true rfl) dX4_selectByPolicy_54 ⟨Nat.zero_le _, Nat.zero_le _⟩ ?_
    exact fk_iret hC hr hk dX4_selectByPolicy_57 (by unfold sS_pol; rw [if_neg (by rw [h4]; decide), if_neg (by rw [h4]; decide), if_neg (by rw [h4]; decide), if_pos h4]) rfl rfl
  · refine fk_tableOut (tgt := 58) hC dX4_selectByPolicy_4 h4 (by decide) ?_
    refine fk_aload_n hC dX4_selectByPolicy_58 rfl rfl ?_
    refine fk_callV hC hN (kX4_selectOfTwo l D K NL ad _ x z hz hI) (hz.2 0 (by decide)) (f_e0 _ _ _ _ _ hz.1) rfl (cwV 0 hC.1.2.2.2.2 gX4_selectByPolicy_X4_selectOfTwo rfl rfl rfl (by decide +kernel) ⟨Nat.le_of_ble_eq_true rfl, Nat.le_of_ble_eq_true rfl⟩) rfl rfl (Nat.le_of_ble_eq_true rfl) dX4_selectByPolicy_59 ⟨Nat.zero_le _, Nat.zero_le _⟩ ?_
    exact fk_iret hC hr hk dX4_selectByPolicy_62 (by unfold sS_pol; rw [if_neg (fun h => by rw [h] at h4; revert h4; decide), if_neg (fun h => by rw [h] at h4; revert h4; decide), if_neg (fun h => by rw [h] at h4; revert h4; decide), if_neg (fun h => by rw [h] at h4; revert h4; decide)]) rfl rfl

set_option maxHeartbeats 4000000 in
set_option maxRecDepth 100000 in
theorem kX4_stickyServer (l : Launch) (D : va_G) (K : Nat → ClassId) (NL : List Nat) (ad : Nat → Nat) (G : fM) (x : fX) (z : Nat) (hz : f_ES NL z) (hI : f_I z G) (cl : Int32) : Kd l yX4_stickyServer wsX4_stickyServer { frames := 2, cells := 0, slots := 0, locals := 40 } vwCl D K NL ad [.ref (ad (nm z 0)), .int cl] G x (some (.int (rI (sS_stk z cl G)))) G x := by
  refine Kd.of (cc := cX4_stickyServer) (maxL := 4) (ret := (some .int)) (L := [some (.ref (ad (nm z 0))), some (.int cl), none, none]) (by decide +kernel) rfl rfl (Nat.le_of_ble_eq_true rfl) ?_
  intro p e s m args below meth c hC hN hr hk hnme
  have iX1 : ∀ w ∈ wsX10, w ∈ wsX4_stickyServer := by decide +kernel
  have iX4 : ∀ w ∈ wsX40, w ∈ wsX4_stickyServer := by decide +kernel
  have h10 := hI.c10
  have h40 := hI.n40
  refine fk_aload_n hC dX4_stickyServer_0 rfl rfl ?_
  refine fk_getS_2 hC hz iX4 (by decide +kernel) dX4_stickyServer_1 ?_
  refine fk_iload_n hC dX4_stickyServer_4 rfl rfl ?_
  refine fk_callV hC hN (kX1_placeOf l D K NL ad _ x z hz (nN z G) hI.n hI.n40 _) (hz.2 6 (by decide)) (f_e6 _ _ _ _ _ hz.1) rfl (cwV 1 hC.1.2.2.2.2 gX4_stickyServer_X1_placeOf rfl rfl rfl (by decide +kernel) ⟨Nat.le_of_ble_eq_true rfl, Nat.le_of_ble_eq_true rfl⟩) rfl rfl (Nat.le_of_ble_eq_true rfl) dX4_stickyServer_5 ⟨Nat.zero_le _, Nat.zero_le _⟩ ?_
  rcases h9 : sK_find z cl (nN z G) G with _ | j
  · refine fk_istore_n hC dX4_stickyServer_8 rfl (by decide) rfl ?_
    refine fk_iload_n hC dX4_stickyServer_9 rfl rfl ?_
    refine fk_iconst (v := (-1)) hC dX4_stickyServer_10 (by decide) ?_
    refine fk_icmp_eq (tgt := 35) hC dX4_stickyServer_11 (by decide) (fun c11 => ?_) (fun c11 => ?_)
    · refine fk_iconst (v := (-1)) hC dX4_stickyServer_35 (by decide) ?_
      exact fk_iret hC hr hk dX4_stickyServer_36 (by unfold sS_stk; rw [h9]; rfl) rfl rfl
    · exact absurd rfl c11
  · have hj : j < nN z G := by have := srch_lt _ _ _ h9; omega
    refine fk_istore_n hC dX4_stickyServer_8 rfl (by decide) rfl ?_
    refine fk_iload_n hC dX4_stickyServer_9 rfl rfl ?_
    refine fk_iconst (v := (-1)) hC dX4_stickyServer_10 (by decide) ?_
    refine fk_icmp_eq (tgt := 35) hC dX4_stickyServer_11 (by decide) (fun c11 => ?_) (fun c11 => ?_)
    · exact absurd c11 (f_n1 (by omega))
    · refine fk_aload_n hC dX4_stickyServer_14 rfl rfl ?_
      refine fk_getS_12 hC hz iX4 (by decide +kernel) dX4_stickyServer_15 ?_
      refine fk_aload_n hC dX4_stickyServer_18 rfl rfl ?_
      refine fk_getS_2 hC hz iX4 (by decide +kernel) dX4_stickyServer_19 ?_
      refine fk_getK_2 hC hz iX1 (by decide +kernel) dX4_stickyServer_22 ?_
      refine fk_iload_n hC dX4_stickyServer_25 rfl rfl ?_
      refine fk_ld_9 hC hz rfl (by omega) dX4_stickyServer_26 ?_
      refine fk_isub hC dX4_stickyServer_27 ?_
      refine fk_aload_n hC dX4_stickyServer_28 rfl rfl ?_
      refine fk_getS_8 hC hz iX4 (by decide +kernel) dX4_stickyServer_29 ?_
      refine fk_icmp_lt (tgt := 37) hC dX4_stickyServer_32 (by decide) (fun c32 => ?_) (fun c32 => ?_)
      · refine fk_aload_n hC dX4_stickyServer_37 rfl rfl ?_
        refine fk_getS_2 hC hz iX4 (by decide +kernel) dX4_stickyServer_38 ?_
        refine fk_getK_1 hC hz iX1 (by decide +kernel) dX4_stickyServer_41 ?_
        refine fk_iload_n hC dX4_stickyServer_44 rfl rfl ?_
        refine fk_ld_8 hC hz rfl (by omega) dX4_stickyServer_45 ?_
        refine fk_topi (hI.sv hj).1 ?_
        refine fk_istore_n hC dX4_stickyServer_46 rfl (by decide) rfl ?_
        refine fk_aload_n hC dX4_stickyServer_47 rfl rfl ?_
        refine fk_iload_n hC dX4_stickyServer_48 rfl rfl ?_
        refine fk_callV hC hN (kX4_serverAt l D K NL ad _ x z hz (cN z G) (svN z j G) hI.c hI.c10 (hI.sv hj).2) (hz.2 0 (by decide)) (f_e0 _ _ _ _ _ hz.1) rfl (cwV 1 hC.1.2.2.2.2 gX4_stickyServer_X4_serverAt rfl rfl rfl (by decide +kernel) ⟨Nat.le_of_ble_eq_true rfl, Nat.le_of_ble_eq_true rfl⟩) rfl rfl (Nat.le_of_ble_eq_true rfl) dX4_stickyServer_49 ⟨Nat.zero_le _, Nat.zero_le _⟩ ?_
        refine fk_callV hC hN (kX3_accepts l D K NL ad _ x z (svN z j G) hz (by have := (hI.sv hj).2; omega)) (hz.V (by have := (hI.sv hj).2; omega)) (f_eV _ _ _ _ _ hz.1 (by have := (hI.sv hj).2; omega)) rfl (cwV 0 hC.1.2.2.2.2 gX4_stickyServer_X3_accepts rfl rfl rfl (by decide +kernel) ⟨Nat.le_of_ble_eq_true rfl, Nat.le_of_ble_eq_true rfl⟩) rfl rfl (Nat.le_of_ble_eq_true rfl) dX4_stickyServer_52 ⟨Nat.zero_le _, Nat.zero_le _⟩ ?_
        refine fk_if_eq (tgt := 62) hC dX4_stickyServer_55 (by decide) (fun c55 => ?_) (fun c55 => ?_)
        · refine fk_iconst (v := (-1)) hC dX4_stickyServer_62 (by decide) ?_
          exact fk_iret hC hr hk dX4_stickyServer_63 (by unfold sS_stk; rw [h9]; dsimp only; rw [if_pos c32, if_pos c55]; rfl) rfl rfl
        · refine fk_iload_n hC dX4_stickyServer_58 rfl rfl ?_
          refine fk_goto (tgt := 63) hC dX4_stickyServer_59 (by decide) ?_
          exact fk_iret hC hr hk dX4_stickyServer_63 (by unfold sS_stk; rw [h9]; dsimp only; rw [if_pos c32, if_neg c55]; rfl) rfl rfl
      · refine fk_iconst (v := (-1)) hC dX4_stickyServer_35 (by decide) ?_
        exact fk_iret hC hr hk dX4_stickyServer_36 (by unfold sS_stk; rw [h9]; dsimp only; rw [if_neg c32]; rfl) rfl rfl

theorem sS_stk_lt {z j : Nat} {cl : Int32} {G : fM} (hI : f_I z G) (h : sS_stk z cl G = some j) : j < cN z G := by
  unfold sS_stk at h
  split at h
  · cases h
  · rename_i i hi
    have hj : i < nN z G := by have := srch_lt _ _ _ hi; omega
    split at h
    · split at h
      · cases h
      · cases h
        exact (hI.sv hj).2
    · cases h

set_option maxHeartbeats 4000000 in
set_option maxRecDepth 100000 in
theorem kX4_serverFor (l : Launch) (D : va_G) (K : Nat → ClassId) (NL : List Nat) (ad : Nat → Nat) (G : fM) (x : fX) (z : Nat) (hz : f_ES NL z) (hI : f_I z G) (cl : Int32) : Kd l yX4_serverFor wsX4_serverFor { frames := 5, cells := 0, slots := 0, locals := 109 } vwCl D K NL ad [.ref (ad (nm z 0)), .int cl] G x (some (.int (rI (sS_for z cl G)))) G x := by
  refine Kd.of (cc := cX4_serverFor) (maxL := 3) (ret := (some .int)) (L := [some (.ref (ad (nm z 0))), some (.int cl), none]) (by decide +kernel) rfl rfl (Nat.le_of_ble_eq_true rfl) ?_
  intro p e s m args below meth c hC hN hr hk hnme
  have iX4 : ∀ w ∈ wsX40, w ∈ wsX4_serverFor := by decide +kernel
  have h10 := hI.c10
  refine fk_aload_n hC dX4_serverFor_0 rfl rfl ?_
  refine fk_getS_1 hC hz iX4 (by decide +kernel) dX4_serverFor_1 ?_
  refine fk_callV hC hN (kX2_isFull l D K NL ad _ x z hz) (hz.2 2 (by decide)) (f_e2 _ _ _ _ _ hz.1) rfl (cwV 0 hC.1.2.2.2.2 gX4_serverFor_X2_isFull rfl rfl rfl (by decide +kernel) ⟨Nat.le_of_ble_eq_true rfl, Nat.le_of_ble_eq_true rfl⟩) rfl rfl (Nat.le_of_ble_eq_true rfl) dX4_serverFor_4 ⟨Nat.zero_le _, Nat.zero_le _⟩ ?_
  refine fk_if_eq (tgt := 12) hC dX4_serverFor_7 (by decide) (fun c7 => ?_) (fun c7 => ?_)
  · have q7 : G (iS z 20) < 1000 := by
      by_cases h : G (iS z 20) < 1000
      · exact h
      · rw [if_neg h] at c7
        exact absurd c7 (by decide)
    refine fk_aload_n hC dX4_serverFor_12 rfl rfl ?_
    refine fk_iload_n hC dX4_serverFor_13 rfl rfl ?_
    refine fk_callV hC hN (kX4_stickyServer l D K NL ad _ x z hz hI _) (hz.2 0 (by decide)) (f_e0 _ _ _ _ _ hz.1) rfl (cwV 1 hC.1.2.2.2.2 gX4_serverFor_X4_stickyServer rfl rfl rfl (by decide +kernel) ⟨Nat.le_of_ble_eq_true rfl, Nat.le_of_ble_eq_true rfl⟩) rfl rfl (Nat.le_of_ble_eq_true rfl) dX4_serverFor_14 ⟨Nat.zero_le _, Nat.zero_le _⟩ ?_
    rcases h9 : sS_stk z cl G with _ | j
    · refine fk_istore_n hC dX4_serverFor_17 rfl (by decide) rfl ?_
      refine fk_iload_n hC dX4_serverFor_18 rfl rfl ?_
      refine fk_iconst (v := (-1)) hC dX4_serverFor_19 (by decide) ?_
      refine fk_icmp_eq (tgt := 27) hC dX4_serverFor_20 (by decide) (fun c20 => ?_) (fun c20 => ?_)
      · refine fk_aload_n hC dX4_serverFor_27 rfl rfl ?_
        refine fk_iload_n hC dX4_serverFor_28 rfl rfl ?_
        refine fk_callV hC hN (kX4_selectByPolicy l D K NL ad _ x z hz hI _) (hz.2 0 (by decide)) (f_e0 _ _ _ _ _ hz.1) rfl (cwV 1 hC.1.2.2.2.2 gX4_serverFor_X4_selectByPolicy rfl rfl rfl (by decide +kernel) ⟨Nat.le_of_ble_eq_true rfl, Nat.le_of_ble_eq_true rfl⟩) rfl rfl (Nat.le_of_ble_eq_true rfl) dX4_serverFor_29 ⟨Nat.zero_le _, Nat.zero_le _⟩ ?_
        exact fk_iret hC hr hk dX4_serverFor_32 (by unfold sS_for; rw [if_pos q7, h9]) rfl rfl
      · exact absurd rfl c20
    · have hj := sS_stk_lt hI h9
      refine fk_istore_n hC dX4_serverFor_17 rfl (by decide) rfl ?_
      refine fk_iload_n hC dX4_serverFor_18 rfl rfl ?_
      refine fk_iconst (v := (-1)) hC dX4_serverFor_19 (by decide) ?_
      refine fk_icmp_eq (tgt := 27) hC dX4_serverFor_20 (by decide) (fun c20 => ?_) (fun c20 => ?_)
      · exact absurd c20 (f_n1 (by omega))
      · refine fk_iload_n hC dX4_serverFor_23 rfl rfl ?_
        refine fk_goto (tgt := 32) hC dX4_serverFor_24 (by decide) ?_
        exact fk_iret hC hr hk dX4_serverFor_32 (by unfold sS_for; rw [if_pos q7, h9]) rfl rfl
  · have q7 : ¬ G (iS z 20) < 1000 := fun h => c7 (if_pos h)
    refine fk_iconst (v := (-1)) hC dX4_serverFor_10 (by decide) ?_
    exact fk_iret hC hr hk dX4_serverFor_11 (by unfold sS_for; rw [if_neg q7]; rfl) rfl rfl

set_option maxHeartbeats 4000000 in
set_option maxRecDepth 100000 in
theorem kX4_moveCredits (l : Launch) (D : va_G) (K : Nat → ClassId) (NL : List Nat) (ad : Nat → Nat) (G : fM) (x : fX) (z : Nat) (hz : f_ES NL z) (hI : f_I z G) (j : Nat) (hj : j < cN z G) : Kd l yX4_moveCredits wsX4_moveCredits { frames := 2, cells := 0, slots := 0, locals := 43 } vwCl D K NL ad [.ref (ad (nm z 0)), .int (nI j)] G x none (sS_mc z j G) x := by
  refine Kd.of (cc := cX4_moveCredits) (maxL := 6) (ret := none) (L := [some (.ref (ad (nm z 0))), some (.int (nI j)), none, none, none, none]) (by decide +kernel) rfl rfl (Nat.le_of_ble_eq_true rfl) ?_
  intro p e s m args below meth c hC hN hr hk hnme
  have iX3 : ∀ w ∈ wsX30, w ∈ wsX4_moveCredits := by decide +kernel
  have iX4 : ∀ w ∈ wsX40, w ∈ wsX4_moveCredits := by decide +kernel
  have h10 := hI.c10
  have lp : ∀ (d : Nat) (k : Nat) (M : fM) (a : Int32), cN z G - k = d → k ≤ cN z G → M (iS z 0) = nI (cN z G) → fold9 (sS_mcS z) (cN z G) 0 (G, 0) = fold9 (sS_mcS z) (cN z G - k) k (M, a) → Wk p l e { frames := 2, cells := 0, slots := 0, locals := 43 } s m args below meth c vwCl D K NL ad (f_A NL ad s.heap.size) s.heap 6 0 0 (MQ below (f_Post vwCl D K NL ad (sS_mc z j G) x none s.heap.size) args s 0 0 (f_A NL ad s.heap.size)) M x 4 [some (.ref (ad (nm z 0))), some (.int (nI j)), some (.int a), some (.int (nI k)), none, none] [] := by
    intro d
    induction d using Nat.strongRecOn with
    | _ d ih =>
      intro k M a hd hkn hM hs
      refine fk_iload_n hC dX4_moveCredits_4 rfl rfl ?_
      refine fk_aload_n hC dX4_moveCredits_5 rfl rfl ?_
      refine fk_getS_3 hC hz iX4 (by decide +kernel) dX4_moveCredits_6 ?_
      refine fk_icmp_ge (tgt := 59) hC dX4_moveCredits_9 (by decide) (fun c9 => ?_) (fun c9 => ?_)
      · rw [hM] at c9
        have q9 := f_le (by omega) (by omega) c9
        rw [fold9_end q9] at hs
        refine fk_aload_n hC dX4_moveCredits_59 rfl rfl ?_
        refine fk_iload_n hC dX4_moveCredits_60 rfl rfl ?_
        refine fk_callV hC hN (kX4_serverAt l D K NL ad _ x z hz (cN z G) j hM h10 hj) (hz.2 0 (by decide)) (f_e0 _ _ _ _ _ hz.1) rfl (cwV 1 hC.1.2.2.2.2 gX4_moveCredits_X4_serverAt rfl rfl rfl (by decide +kernel) ⟨Nat.le_of_ble_eq_true rfl, Nat.le_of_ble_eq_true rfl⟩) rfl rfl (Nat.le_of_ble_eq_true rfl) dX4_moveCredits_61 ⟨Nat.zero_le _, Nat.zero_le _⟩ ?_
        refine fk_dup hC dX4_moveCredits_64 rfl ?_
        refine fk_getV_4 hC hz (by omega) iX3 (by decide +kernel) dX4_moveCredits_65 ?_
        refine fk_iload_n hC dX4_moveCredits_68 rfl rfl ?_
        refine fk_isub hC dX4_moveCredits_69 ?_
        refine fk_putV_4 hC hz (by omega) iX3 (by decide +kernel) dX4_moveCredits_70 ?_
        exact fk_vret hC hr hk dX4_moveCredits_73 rfl (by unfold sS_mc; rw [show sS_mc1 z G = (M, a) from hs]) rfl
      · rw [hM] at c9
        have q9 := f_nle (by omega) (by omega) c9
        refine fk_aload_n hC dX4_moveCredits_12 rfl rfl ?_
        refine fk_getS_0 hC hz iX4 (by decide +kernel) dX4_moveCredits_13 ?_
        refine fk_iload_n hC dX4_moveCredits_16 rfl rfl ?_
        refine fk_ldV hC hz rfl (by omega) dX4_moveCredits_17 ?_
        refine fk_astore hC dX4_moveCredits_18 (by decide) rfl ?_
        refine fk_aload hC dX4_moveCredits_20 rfl ?_
        refine fk_callV hC hN (kX3_accepts l D K NL ad _ x z k hz (by omega)) (hz.V (by omega)) (f_eV _ _ _ _ _ hz.1 (by omega)) rfl (cwV 0 hC.1.2.2.2.2 gX4_moveCredits_X3_accepts rfl rfl rfl (by decide +kernel) ⟨Nat.le_of_ble_eq_true rfl, Nat.le_of_ble_eq_true rfl⟩) rfl rfl (Nat.le_of_ble_eq_true rfl) dX4_moveCredits_22 ⟨Nat.zero_le _, Nat.zero_le _⟩ ?_
        refine fk_if_eq (tgt := 53) hC dX4_moveCredits_25 (by decide) (fun c25 => ?_) (fun c25 => ?_)
        · refine fk_iinc hC dX4_moveCredits_53 rfl (f_inc k) (by decide) rfl ?_
          refine fk_goto (tgt := 4) hC dX4_moveCredits_56 (by decide) ?_
          refine fk_drop 4 ?_
          exact ih (cN z G - (k + 1)) (by omega) (k + 1) M a rfl (by omega) hM (hs.trans ((fold9_step q9).trans (by rw [sS_mcS, if_pos c25])))
        · refine fk_aload_n hC dX4_moveCredits_28 rfl rfl ?_
          refine fk_aload hC dX4_moveCredits_29 rfl ?_
          refine fk_callV hC hN (kX4_weightNow l D K NL ad _ x z hz k (by omega)) (hz.2 0 (by decide)) (f_e0 _ _ _ _ _ hz.1) rfl (cwV 1 hC.1.2.2.2.2 gX4_moveCredits_X4_weightNow rfl rfl rfl (by decide +kernel) ⟨Nat.le_of_ble_eq_true rfl, Nat.le_of_ble_eq_true rfl⟩) rfl rfl (Nat.le_of_ble_eq_true rfl) dX4_moveCredits_31 ⟨Nat.zero_le _, Nat.zero_le _⟩ ?_
          refine fk_istore hC dX4_moveCredits_34 (by decide) rfl ?_
          refine fk_aload hC dX4_moveCredits_36 rfl ?_
          refine fk_dup hC dX4_moveCredits_38 rfl ?_
          refine fk_getV_4 hC hz (by omega) iX3 (by decide +kernel) dX4_moveCredits_39 ?_
          refine fk_iload hC dX4_moveCredits_42 rfl ?_
          refine fk_iadd hC dX4_moveCredits_44 ?_
          refine fk_putV_4 hC hz (by omega) iX3 (by decide +kernel) dX4_moveCredits_45 ?_
          refine fk_iload_n hC dX4_moveCredits_48 rfl rfl ?_
          refine fk_iload hC dX4_moveCredits_49 rfl ?_
          refine fk_iadd hC dX4_moveCredits_51 ?_
          refine fk_istore_n hC dX4_moveCredits_52 rfl (by decide) rfl ?_
          refine fk_iinc hC dX4_moveCredits_53 rfl (f_inc k) (by decide) rfl ?_
          refine fk_goto (tgt := 4) hC dX4_moveCredits_56 (by decide) ?_
          refine fk_drop 4 ?_
          refine fk_drop 5 ?_
          exact ih (cN z G - (k + 1)) (by omega) (k + 1) _ _ rfl (by omega) (by rw [pk_un (by unfold iS iV; omega), hM]) (hs.trans ((fold9_step q9).trans (by rw [sS_mcS, if_neg c25])))
  refine fk_iconst (v := 0) hC dX4_moveCredits_0 (by decide) ?_
  refine fk_istore_n hC dX4_moveCredits_1 rfl (by decide) rfl ?_
  refine fk_iconst (v := 0) hC dX4_moveCredits_2 (by decide) ?_
  refine fk_istore_n hC dX4_moveCredits_3 rfl (by decide) rfl ?_
  exact lp (cN z G) 0 G 0 rfl (Nat.zero_le _) hI.c rfl

set_option maxHeartbeats 4000000 in
set_option maxRecDepth 100000 in
theorem kX4_noteSelection (l : Launch) (D : va_G) (K : Nat → ClassId) (NL : List Nat) (ad : Nat → Nat) (G : fM) (x : fX) (z : Nat) (hz : f_ES NL z) (hI : f_I z G) (j : Nat) (hj : j < cN z G) : Kd l yX4_noteSelection wsX4_noteSelection { frames := 3, cells := 0, slots := 0, locals := 68 } vwCl D K NL ad [.ref (ad (nm z 0)), .int (nI j)] G x none (sS_note z j G) x := by
  refine Kd.of (cc := cX4_noteSelection) (maxL := 2) (ret := none) (L := [some (.ref (ad (nm z 0))), some (.int (nI j))]) (by decide +kernel) rfl rfl (Nat.le_of_ble_eq_true rfl) ?_
  intro p e s m args below meth c hC hN hr hk hnme
  have iX4 : ∀ w ∈ wsX40, w ∈ wsX4_noteSelection := by decide +kernel
  refine fk_aload_n hC dX4_noteSelection_0 rfl rfl ?_
  refine fk_getS_9 hC hz iX4 (by decide +kernel) dX4_noteSelection_1 ?_
  rcases f_sw5 (G (iS z 6)) with h4 | h4 | h4 | h4 | h4 | h4
  · refine fk_tableIn (off := 36) (tgt := 40) hC dX4_noteSelection_4 (by rw [h4]; decide) (by rw [h4]; decide) (by rw [h4]; rfl) (by decide) ?_
    refine fk_aload_n hC dX4_noteSelection_40 rfl rfl ?_
    refine fk_iload_n hC dX4_noteSelection_41 rfl rfl ?_
    refine fk_putS_10 hC hz iX4 (by decide +kernel) dX4_noteSelection_42 ?_
    refine fk_goto (tgt := 73) hC dX4_noteSelection_45 (by decide) ?_
    exact fk_vret hC hr hk dX4_noteSelection_73 rfl (by unfold sS_note; rw [if_pos h4]) rfl
  · refine fk_tableIn (off := 44) (tgt := 48) hC dX4_noteSelection_4 (by rw [h4]; decide) (by rw [h4]; decide) (by rw [h4]; rfl) (by decide) ?_
    refine fk_aload_n hC dX4_noteSelection_48 rfl rfl ?_
    refine fk_iload_n hC dX4_noteSelection_49 rfl rfl ?_
    refine fk_callV hC hN (kX4_moveCredits l D K NL ad _ x z hz hI j hj) (hz.2 0 (by decide)) (f_e0 _ _ _ _ _ hz.1) rfl (cwV 1 hC.1.2.2.2.2 gX4_noteSelection_X4_moveCredits rfl rfl rfl (by decide +kernel) ⟨Nat.le_of_ble_eq_true rfl, Nat.le_of_ble_eq_true rfl⟩) rfl rfl (Nat.le_of_ble_eq_true rfl) dX4_noteSelection_50 ⟨Nat.zero_le _, Nat.zero_le _⟩ ?_
    refine fk_goto (tgt := 73) hC dX4_noteSelection_53 (by decide) ?_
    exact fk_vret hC hr hk dX4_noteSelection_73 rfl (by unfold sS_note; rw [if_neg (by rw [h4]; decide), if_pos h4]) rfl
  · refine fk_tableIn (off := 69) (tgt := 73) hC dX4_noteSelection_4 (by rw [h4]; decide) (by rw [h4]; decide) (by rw [h4]; rfl) (by decide) ?_
    exact fk_vret hC hr hk dX4_noteSelection_73 rfl (by unfold sS_note; rw [if_neg (by rw [h4]; decide), if_neg (by rw [h4]; decide), if_neg (by rw [h4]; decide)]) rfl
  · refine fk_tableIn (off := 69) (tgt := 73) hC dX4_noteSelection_4 (by rw [h4]; decide) (by rw [h4]; decide) (by rw [h4]; rfl) (by decide) ?_
    exact fk_vret hC hr hk dX4_noteSelection_73 rfl (by unfold sS_note; rw [if_neg (by rw [h4]; decide), if_neg (by rw [h4]; decide), if_neg (by rw [h4]; decide)]) rfl
  · refine fk_tableIn (off := 52) (tgt := 56) hC dX4_noteSelection_4 (by rw [h4]; decide) (by rw [h4]; decide) (by rw [h4]; rfl) (by decide) ?_
    refine fk_aload_n hC dX4_noteSelection_56 rfl rfl ?_
    refine fk_aload_n hC dX4_noteSelection_57 rfl rfl ?_
    refine fk_getS_11 hC hz iX4 (by decide +kernel) dX4_noteSelection_58 ?_
    refine fk_callSN hC hN (kX5_nextSeed l D K NL ad _ x _) ⟨va_cnB 1 hC.1.2.2.2.2 gX4_noteSelection_X5_nextSeed_n174 rfl rfl rfl hN.2.2.2.2.2 (hC.ts (.initialized RX5) (by decide +kernel)) (by decide +kernel) ⟨Nat.le_of_ble_eq_true rfl, Nat.le_of_ble_eq_true rfl⟩, hC.ts (.static yX5_nextSeed) (by decide +kernel), trivial⟩ rfl rfl (Nat.le_of_ble_eq_true rfl) dX4_noteSelection_61 ⟨Nat.zero_le _, Nat.zero_le _⟩ ?_
    refine fk_callSN hC hN (kX5_nextSeed l D K NL ad _ x _) ⟨va_cnB 1 hC.1.2.2.2.2 gX4_noteSelection_X5_nextSeed_n174 rfl rfl rfl hN.2.2.2.2.2 (hC.ts (.initialized RX5) (by decide +kernel)) (by decide +kernel) ⟨Nat.le_of_ble_eq_true rfl, Nat.le_of_ble_eq_true rfl⟩, hC.ts (.static yX5_nextSeed) (by decide +kernel), trivial⟩ rfl rfl (Nat.le_of_ble_eq_true rfl) dX4_noteSelection_64 ⟨Nat.zero_le _, Nat.zero_le _⟩ ?_
    refine fk_putS_11 hC hz iX4 (by decide +kernel) dX4_noteSelection_67 ?_
    refine fk_goto (tgt := 73) hC dX4_noteSelection_70 (by decide) ?_
    exact fk_vret hC hr hk dX4_noteSelection_73 rfl (by unfold sS_note; rw [if_neg (by rw [h4]; decide), if_neg (by rw [h4]; decide), if_pos h4]) rfl
  · refine fk_tableOut (tgt := 73) hC dX4_noteSelection_4 h4 (by decide) ?_
    exact fk_vret hC hr hk dX4_noteSelection_73 rfl (by unfold sS_note; rw [if_neg (fun h => by rw [h] at h4; revert h4; decide), if_neg (fun h => by rw [h] at h4; revert h4; decide), if_neg (fun h => by rw [h] at h4; revert h4; decide)]) rfl

theorem sC_app_ne {z o g : Nat} {sv t : Int32} {G : fM} (h1 : g ≠ iA z 1000 o) (h2 : g ≠ iA z 2000 o) (h3 : g ≠ iA z 3000 o) (h4 : g ≠ iS z 20) : sC_app z sv t o G g = G g := by
  unfold sC_app
  rw [pk_un h4, pk_un h3, pk_un h2, pk_un h1]
theorem sB_nbeg_ne {z i g : Nat} {cn : Int32} {G : fM} (h : g ≠ iB z i 2) : sB_nbeg z i cn G g = G g := by
  unfold sB_nbeg
  split
  · rw [pk_un h]
  · rfl
theorem sS_con2_S {z j k : Nat} {G : fM} (hk : k < 100) (h20 : k ≠ 20) : sS_con2 z j G (iS z k) = G (iS z k) := by
  unfold sS_con2 sS_con1
  rw [sB_nbeg_ne (by unfold iS iB; omega), pk_un (by unfold iS iV; omega), sC_app_ne (by unfold iS iA; omega) (by unfold iS iA; omega) (by unfold iS iA; omega) (by unfold iS; omega)]

set_option maxHeartbeats 4000000 in
set_option maxRecDepth 100000 in
theorem kX4_connect (l : Launch) (D : va_G) (K : Nat → ClassId) (NL : List Nat) (ad : Nat → Nat) (G : fM) (x : fX) (z : Nat) (hz : f_ES NL z) (hI : f_I z G) (cl : Int32) (j : Nat) (hj : j < cN z G) (ho : oN z G < 1000) : Kd l yX4_connect wsX4_connect { frames := 4, cells := 0, slots := 0, locals := 88 } vwCl D K NL ad [.ref (ad (nm z 0)), .int cl, .int (nI j)] G x (some (.int (nI (oN z G)))) (sS_con z j cl G) x := by
  refine Kd.of (cc := cX4_connect) (maxL := 5) (ret := (some .int)) (L := [some (.ref (ad (nm z 0))), some (.int cl), some (.int (nI j)), none, none]) (by decide +kernel) rfl rfl (Nat.le_of_ble_eq_true rfl) ?_
  intro p e s m args below meth c hC hN hr hk hnme
  have iX3 : ∀ w ∈ wsX30, w ∈ wsX4_connect := by decide +kernel
  have iX4 : ∀ w ∈ wsX40, w ∈ wsX4_connect := by decide +kernel
  have h10 := hI.c10
  refine fk_aload_n hC dX4_connect_0 rfl rfl ?_
  refine fk_getS_1 hC hz iX4 (by decide +kernel) dX4_connect_1 ?_
  refine fk_iload_n hC dX4_connect_4 rfl rfl ?_
  refine fk_aload_n hC dX4_connect_5 rfl rfl ?_
  refine fk_getS_12 hC hz iX4 (by decide +kernel) dX4_connect_6 ?_
  refine fk_callV hC hN (kX2_append l D K NL ad _ x z hz (oN z G) hI.o ho _ _) (hz.2 2 (by decide)) (f_e2 _ _ _ _ _ hz.1) rfl (cwV 2 hC.1.2.2.2.2 gX4_connect_X2_append rfl rfl rfl (by decide +kernel) ⟨Nat.le_of_ble_eq_true rfl, Nat.le_of_ble_eq_true rfl⟩) rfl rfl (Nat.le_of_ble_eq_true rfl) dX4_connect_9 ⟨Nat.zero_le _, Nat.zero_le _⟩ ?_
  refine fk_istore_n hC dX4_connect_12 rfl (by decide) rfl ?_
  refine fk_aload_n hC dX4_connect_13 rfl rfl ?_
  refine fk_iload_n hC dX4_connect_14 rfl rfl ?_
  refine fk_callV hC hN (kX4_serverAt l D K NL ad _ x z hz (cN z G) j (by rw [sC_app_ne (by unfold iS iA; omega) (by unfold iS iA; omega) (by unfold iS iA; omega) (by unfold iS; omega)]; exact hI.c) h10 hj) (hz.2 0 (by decide)) (f_e0 _ _ _ _ _ hz.1) rfl (cwV 1 hC.1.2.2.2.2 gX4_connect_X4_serverAt rfl rfl rfl (by decide +kernel) ⟨Nat.le_of_ble_eq_true rfl, Nat.le_of_ble_eq_true rfl⟩) rfl rfl (Nat.le_of_ble_eq_true rfl) dX4_connect_15 ⟨Nat.zero_le _, Nat.zero_le _⟩ ?_
  refine fk_astore hC dX4_connect_18 (by decide) rfl ?_
  refine fk_aload hC dX4_connect_20 rfl ?_
  refine fk_dup hC dX4_connect_22 rfl ?_
  refine fk_getV_3 hC hz (by omega) iX3 (by decide +kernel) dX4_connect_23 ?_
  refine fk_iconst (v := 1) hC dX4_connect_26 (by decide) ?_
  refine fk_iadd hC dX4_connect_27 ?_
  refine fk_putV_3 hC hz (by omega) iX3 (by decide +kernel) dX4_connect_28 ?_
  refine fk_aload hC dX4_connect_31 rfl ?_
  refine fk_getV_0 hC hz (by omega) iX3 (by decide +kernel) dX4_connect_33 ?_
  refine fk_iload_n hC dX4_connect_36 rfl rfl ?_
  refine fk_callV hC hN (kX0_noteBegin l D K NL ad _ x z j hz (by omega) _) (hz.B (by omega)) (f_eB _ _ _ _ _ hz.1 (by omega)) rfl (cwV 1 hC.1.2.2.2.2 gX4_connect_X0_noteBegin rfl rfl rfl (by decide +kernel) ⟨Nat.le_of_ble_eq_true rfl, Nat.le_of_ble_eq_true rfl⟩) rfl rfl (Nat.le_of_ble_eq_true rfl) dX4_connect_37 ⟨Nat.zero_le _, Nat.zero_le _⟩ ?_
  refine fk_aload_n hC dX4_connect_40 rfl rfl ?_
  refine fk_getS_8 hC hz iX4 (by decide +kernel) dX4_connect_41 ?_
  refine fk_if_le (tgt := 60) hC dX4_connect_44 (by decide) (fun c44 => ?_) (fun c44 => ?_)
  · refine fk_iload_n hC dX4_connect_60 rfl rfl ?_
    exact fk_iret hC hr hk dX4_connect_61 (by rfl) (by unfold sS_con; exact (if_pos (show sS_con2 z j G (iS z 5) ≤ 0 from c44)).symm) rfl
  · refine fk_aload_n hC dX4_connect_47 rfl rfl ?_
    refine fk_getS_2 hC hz iX4 (by decide +kernel) dX4_connect_48 ?_
    refine fk_iload_n hC dX4_connect_51 rfl rfl ?_
    refine fk_iload_n hC dX4_connect_52 rfl rfl ?_
    refine fk_aload_n hC dX4_connect_53 rfl rfl ?_
    refine fk_getS_12 hC hz iX4 (by decide +kernel) dX4_connect_54 ?_
    refine fk_callV hC hN (kX1_remember l D K NL ad _ x z hz (nN z G) (by show sS_con2 z j G (iS z 21) = _; rw [sS_con2_S (by decide) (by decide)]; exact hI.n) hI.n40 _ _ _) (hz.2 6 (by decide)) (f_e6 _ _ _ _ _ hz.1) rfl (cwV 3 hC.1.2.2.2.2 gX4_connect_X1_remember rfl rfl rfl (by decide +kernel) ⟨Nat.le_of_ble_eq_true rfl, Nat.le_of_ble_eq_true rfl⟩) rfl rfl (Nat.le_of_ble_eq_true rfl) dX4_connect_57 ⟨Nat.zero_le _, Nat.zero_le _⟩ ?_
    refine fk_iload_n hC dX4_connect_60 rfl rfl ?_
    exact fk_iret hC hr hk dX4_connect_61 (by rfl) (by unfold sS_con; exact (if_neg (show ¬ sS_con2 z j G (iS z 5) ≤ 0 from c44)).symm) rfl

set_option maxHeartbeats 4000000 in
set_option maxRecDepth 100000 in
theorem kX4_disconnect (l : Launch) (D : va_G) (K : Nat → ClassId) (NL : List Nat) (ad : Nat → Nat) (G : fM) (x : fX) (z : Nat) (hz : f_ES NL z) (hI : f_I z G) (k : Nat) (hk9 : k < oN z G) (gd : Int32) : Kd l yX4_disconnect wsX4_disconnect { frames := 3, cells := 0, slots := 0, locals := 66 } vwCl D K NL ad [.ref (ad (nm z 0)), .int (nI k), .int gd] G x (some (.int (sS_dis z k gd G (iS z 9) - sS_dis z k gd G (iA z 2000 k)))) (sS_dis z k gd G) x := by
  refine Kd.of (cc := cX4_disconnect) (maxL := 4) (ret := (some .int)) (L := [some (.ref (ad (nm z 0))), some (.int (nI k)), some (.int gd), none]) (by decide +kernel) rfl rfl (Nat.le_of_ble_eq_true rfl) ?_
  intro p e s m args below meth c hC hN hr hk hnme
  have iX2 : ∀ w ∈ wsX20, w ∈ wsX4_disconnect := by decide +kernel
  have iX3 : ∀ w ∈ wsX30, w ∈ wsX4_disconnect := by decide +kernel
  have iX4 : ∀ w ∈ wsX40, w ∈ wsX4_disconnect := by decide +kernel
  have h10 := hI.c10
  have h1000 := hI.o1000
  have hco := (hI.co hk9).2
  refine fk_aload_n hC dX4_disconnect_0 rfl rfl ?_
  refine fk_aload_n hC dX4_disconnect_1 rfl rfl ?_
  refine fk_getS_1 hC hz iX4 (by decide +kernel) dX4_disconnect_2 ?_
  refine fk_getC_0 hC hz iX2 (by decide +kernel) dX4_disconnect_5 ?_
  refine fk_iload_n hC dX4_disconnect_8 rfl rfl ?_
  refine fk_ld_3 hC hz rfl (by omega) dX4_disconnect_9 ?_
  refine fk_topi (hI.co hk9).1 ?_
  refine fk_callV hC hN (kX4_serverAt l D K NL ad _ x z hz (cN z G) (coN z k G) hI.c h10 (hI.co hk9).2) (hz.2 0 (by decide)) (f_e0 _ _ _ _ _ hz.1) rfl (cwV 1 hC.1.2.2.2.2 gX4_disconnect_X4_serverAt rfl rfl rfl (by decide +kernel) ⟨Nat.le_of_ble_eq_true rfl, Nat.le_of_ble_eq_true rfl⟩) rfl rfl (Nat.le_of_ble_eq_true rfl) dX4_disconnect_10 ⟨Nat.zero_le _, Nat.zero_le _⟩ ?_
  refine fk_astore_n hC dX4_disconnect_13 rfl (by decide) rfl ?_
  refine fk_aload_n hC dX4_disconnect_14 rfl rfl ?_
  refine fk_getS_1 hC hz iX4 (by decide +kernel) dX4_disconnect_15 ?_
  refine fk_getC_2 hC hz iX2 (by decide +kernel) dX4_disconnect_18 ?_
  refine fk_iload_n hC dX4_disconnect_21 rfl rfl ?_
  refine fk_iconst (v := 0) hC dX4_disconnect_22 (by decide) ?_
  refine fk_st_5 hC hz rfl (by omega) rfl dX4_disconnect_23 ?_
  refine fk_aload_n hC dX4_disconnect_24 rfl rfl ?_
  refine fk_dup hC dX4_disconnect_25 rfl ?_
  refine fk_getV_3 hC hz (by omega) iX3 (by decide +kernel) dX4_disconnect_26 ?_
  refine fk_iconst (v := 1) hC dX4_disconnect_29 (by decide) ?_
  refine fk_isub hC dX4_disconnect_30 ?_
  refine fk_putV_3 hC hz (by omega) iX3 (by decide +kernel) dX4_disconnect_31 ?_
  refine fk_aload_n hC dX4_disconnect_34 rfl rfl ?_
  refine fk_getV_0 hC hz (by omega) iX3 (by decide +kernel) dX4_disconnect_35 ?_
  refine fk_iload_n hC dX4_disconnect_38 rfl rfl ?_
  refine fk_iload_n hC dX4_disconnect_39 rfl rfl ?_
  refine fk_aload_n hC dX4_disconnect_40 rfl rfl ?_
  refine fk_getS_12 hC hz iX4 (by decide +kernel) dX4_disconnect_41 ?_
  refine fk_callV hC hN (kX0_noteEnd l D K NL ad _ x z (coN z k G) hz (by omega) _ _ _) (hz.B (by omega)) (f_eB _ _ _ _ _ hz.1 (by omega)) rfl (cwV 3 hC.1.2.2.2.2 gX4_disconnect_X0_noteEnd rfl rfl rfl (by decide +kernel) ⟨Nat.le_of_ble_eq_true rfl, Nat.le_of_ble_eq_true rfl⟩) rfl rfl (Nat.le_of_ble_eq_true rfl) dX4_disconnect_44 ⟨Nat.zero_le _, Nat.zero_le _⟩ ?_
  refine fk_aload_n hC dX4_disconnect_47 rfl rfl ?_
  refine fk_getS_12 hC hz iX4 (by decide +kernel) dX4_disconnect_48 ?_
  refine fk_aload_n hC dX4_disconnect_51 rfl rfl ?_
  refine fk_getS_1 hC hz iX4 (by decide +kernel) dX4_disconnect_52 ?_
  refine fk_getC_1 hC hz iX2 (by decide +kernel) dX4_disconnect_55 ?_
  refine fk_iload_n hC dX4_disconnect_58 rfl rfl ?_
  refine fk_ld_4 hC hz rfl (by omega) dX4_disconnect_59 ?_
  refine fk_isub hC dX4_disconnect_60 ?_
  exact fk_iret hC hr hk dX4_disconnect_61 rfl rfl rfl

theorem sC_copy_out {z y n g : Nat} {G : fM} (h : g ≠ iS z 20 ∧ (g < 10000 * z + 1000 ∨ (10000 * z + 1000 + n ≤ g ∧ g < 10000 * z + 2000) ∨ (10000 * z + 2000 + n ≤ g ∧ g < 10000 * z + 3000) ∨ 10000 * z + 3000 + n ≤ g)) : sC_copy z y n G g = G g := by
  unfold sC_copy
  rw [sC_live_out n g (by omega), cpyM_out (by omega), cpyM_out (by omega), pk_un h.1]

set_option maxHeartbeats 4000000 in
set_option maxRecDepth 100000 in
theorem kX4_copyFrom (l : Launch) (D : va_G) (K : Nat → ClassId) (NL : List Nat) (ad : Nat → Nat) (G : fM) (x : fX) (z y : Nat) (hz : f_ES NL z) (hy : f_ES NL y) (hne : z ≠ y) (hI : f_I y G) (hb : ∀ i, i < cN y G → (G (iV y i 4) = 0 ∨ G (iV y i 4) = 1) ∧ (G (iV y i 5) = 0 ∨ G (iV y i 5) = 1) ∧ (G (iV y i 7) = 0 ∨ G (iV y i 7) = 1)) (hl : ∀ j, j < oN y G → G (iA y 3000 j) = 0 ∨ G (iA y 3000 j) = 1) : Kd l yX4_copyFrom wsX4_copyFrom { frames := 2, cells := 0, slots := 0, locals := 48 } vwCl D K NL ad [.ref (ad (nm z 0)), .ref (ad (nm y 0))] G x none (sS_copy z y G) x := by
  refine Kd.of (cc := cX4_copyFrom) (maxL := 3) (ret := none) (L := [some (.ref (ad (nm z 0))), some (.ref (ad (nm y 0))), none]) (by decide +kernel) rfl rfl (Nat.le_of_ble_eq_true rfl) ?_
  intro p e s m args below meth c hC hN hr hk hnme
  have iX4 : ∀ w ∈ wsX40, w ∈ wsX4_copyFrom := by decide +kernel
  have h10 := hI.c10
  have h1 := hz.1
  have h2 := hy.1
  have h40 := hI.n40
  have h1000 := hI.o1000
  have lp : ∀ (d : Nat) (k : Nat) (M : fM), cN y G - k = d → k ≤ cN y G → M (iS z 0) = nI (cN y G) → (∀ g, 10000 * y ≤ g → g < 10000 * y + 10000 → M g = G g) → sS_cp1 z y G = fold9 (fun i M => sV_copy z y i M) (cN y G - k) k M → Wk p l e { frames := 2, cells := 0, slots := 0, locals := 48 } s m args below meth c vwCl D K NL ad (f_A NL ad s.heap.size) s.heap 3 0 0 (MQ below (f_Post vwCl D K NL ad (sS_copy z y G) x none s.heap.size) args s 0 0 (f_A NL ad s.heap.size)) M x 90 [some (.ref (ad (nm z 0))), some (.ref (ad (nm y 0))), some (.int (nI k))] [] := by
    intro d
    induction d using Nat.strongRecOn with
    | _ d ih =>
      intro k M hd hkn hM hM2 hs
      have e0 : M (iS y 0) = G (iS y 0) := hM2 _ (by unfold iS; omega) (by unfold iS; omega)
      have hbb : ∀ i, i < cN y G → (M (iV y i 4) = 0 ∨ M (iV y i 4) = 1) ∧ (M (iV y i 5) = 0 ∨ M (iV y i 5) = 1) ∧ (M (iV y i 7) = 0 ∨ M (iV y i 7) = 1) := by
        intro i hi
        rw [hM2 (iV y i 4) (by unfold iV; omega) (by unfold iV; omega), hM2 (iV y i 5) (by unfold iV; omega) (by unfold iV; omega), hM2 (iV y i 7) (by unfold iV; omega) (by unfold iV; omega)]
        exact hb i hi
      refine fk_iload_n hC dX4_copyFrom_90 rfl rfl ?_
      refine fk_aload_n hC dX4_copyFrom_91 rfl rfl ?_
      refine fk_getS_3 hC hz iX4 (by decide +kernel) dX4_copyFrom_92 ?_
      refine fk_icmp_ge (tgt := 119) hC dX4_copyFrom_95 (by decide) (fun c95 => ?_) (fun c95 => ?_)
      · rw [hM] at c95
        have q95 := f_le (by omega) (by omega) c95
        rw [fold9_end q95] at hs
        refine fk_aload_n hC dX4_copyFrom_119 rfl rfl ?_
        refine fk_getS_1 hC hz iX4 (by decide +kernel) dX4_copyFrom_120 ?_
        refine fk_aload_n hC dX4_copyFrom_123 rfl rfl ?_
        refine fk_getS_1 hC hy iX4 (by decide +kernel) dX4_copyFrom_124 ?_
        refine fk_callV hC hN (kX2_copyFrom l D K NL ad _ x z y hz hy hne (oN y G) (by rw [hM2 (iS y 20) (by unfold iS; omega) (by unfold iS; omega)]; exact hI.o) hI.o1000 (fun j hj => by rw [hM2 (iA y 3000 j) (by unfold iA; omega) (by unfold iA; omega)]; exact hl j hj)) (hz.2 2 (by decide)) (f_e2 _ _ _ _ _ hz.1) rfl (cwV 1 hC.1.2.2.2.2 gX4_copyFrom_X2_copyFrom rfl rfl rfl (by decide +kernel) ⟨Nat.le_of_ble_eq_true rfl, Nat.le_of_ble_eq_true rfl⟩) rfl rfl (Nat.le_of_ble_eq_true rfl) dX4_copyFrom_127 ⟨Nat.zero_le _, Nat.zero_le _⟩ ?_
        refine fk_aload_n hC dX4_copyFrom_130 rfl rfl ?_
        refine fk_getS_2 hC hz iX4 (by decide +kernel) dX4_copyFrom_131 ?_
        refine fk_aload_n hC dX4_copyFrom_134 rfl rfl ?_
        refine fk_getS_2 hC hy iX4 (by decide +kernel) dX4_copyFrom_135 ?_
        refine fk_callV hC hN (kX1_copyFrom l D K NL ad _ x z y hz hy hne (nN y G) (by rw [sC_copy_out (by unfold iS; omega), hM2 (iS y 21) (by unfold iS; omega) (by unfold iS; omega)]; exact hI.n) hI.n40) (hz.2 6 (by decide)) (f_e6 _ _ _ _ _ hz.1) rfl (cwV 1 hC.1.2.2.2.2 gX4_copyFrom_X1_copyFrom rfl rfl rfl (by decide +kernel) ⟨Nat.le_of_ble_eq_true rfl, Nat.le_of_ble_eq_true rfl⟩) rfl rfl (Nat.le_of_ble_eq_true rfl) dX4_copyFrom_138 ⟨Nat.zero_le _, Nat.zero_le _⟩ ?_
        exact fk_vret hC hr hk dX4_copyFrom_141 rfl (by unfold sS_copy; rw [hs]) rfl
      · rw [hM] at c95
        have q95 := f_nle (by omega) (by omega) c95
        refine fk_aload_n hC dX4_copyFrom_98 rfl rfl ?_
        refine fk_getS_0 hC hz iX4 (by decide +kernel) dX4_copyFrom_99 ?_
        refine fk_iload_n hC dX4_copyFrom_102 rfl rfl ?_
        refine fk_ldV hC hz rfl (by omega) dX4_copyFrom_103 ?_
        refine fk_aload_n hC dX4_copyFrom_104 rfl rfl ?_
        refine fk_getS_0 hC hy iX4 (by decide +kernel) dX4_copyFrom_105 ?_
        refine fk_iload_n hC dX4_copyFrom_108 rfl rfl ?_
        refine fk_ldV hC hy rfl (by omega) dX4_copyFrom_109 ?_
        refine fk_callV hC hN (kX3_copyFrom l D K NL ad _ x z y k hz hy hne (by omega) (hbb k q95).1 (hbb k q95).2.1 (hbb k q95).2.2) (hz.V (by omega)) (f_eV _ _ _ _ _ hz.1 (by omega)) rfl (cwV 1 hC.1.2.2.2.2 gX4_copyFrom_X3_copyFrom rfl rfl rfl (by decide +kernel) ⟨Nat.le_of_ble_eq_true rfl, Nat.le_of_ble_eq_true rfl⟩) rfl rfl (Nat.le_of_ble_eq_true rfl) dX4_copyFrom_110 ⟨Nat.zero_le _, Nat.zero_le _⟩ ?_
        refine fk_iinc hC dX4_copyFrom_113 rfl (f_inc k) (by decide) rfl ?_
        refine fk_goto (tgt := 90) hC dX4_copyFrom_116 (by decide) ?_
        exact ih (cN y G - (k + 1)) (by omega) (k + 1) _ rfl (by omega) (by rw [sV_copy_out (by omega) (by unfold iS; omega), hM]) (fun g h1 h2 => by rw [sV_copy_out (by omega) (by omega)]; exact hM2 g h1 h2) (hs.trans (fold9_step q95))
  refine fk_aload_n hC dX4_copyFrom_0 rfl rfl ?_
  refine fk_aload_n hC dX4_copyFrom_1 rfl rfl ?_
  refine fk_getS_3 hC hy iX4 (by decide +kernel) dX4_copyFrom_2 ?_
  refine fk_putS_3 hC hz iX4 (by decide +kernel) dX4_copyFrom_5 ?_
  refine fk_aload_n hC dX4_copyFrom_8 rfl rfl ?_
  refine fk_aload_n hC dX4_copyFrom_9 rfl rfl ?_
  refine fk_getS_4 hC hy iX4 (by decide +kernel) dX4_copyFrom_10 ?_
  refine fk_putS_4 hC hz iX4 (by decide +kernel) dX4_copyFrom_13 ?_
  refine fk_aload_n hC dX4_copyFrom_16 rfl rfl ?_
  refine fk_aload_n hC dX4_copyFrom_17 rfl rfl ?_
  refine fk_getS_5 hC hy iX4 (by decide +kernel) dX4_copyFrom_18 ?_
  refine fk_putS_5 hC hz iX4 (by decide +kernel) dX4_copyFrom_21 ?_
  refine fk_aload_n hC dX4_copyFrom_24 rfl rfl ?_
  refine fk_aload_n hC dX4_copyFrom_25 rfl rfl ?_
  refine fk_getS_6 hC hy iX4 (by decide +kernel) dX4_copyFrom_26 ?_
  refine fk_putS_6 hC hz iX4 (by decide +kernel) dX4_copyFrom_29 ?_
  refine fk_aload_n hC dX4_copyFrom_32 rfl rfl ?_
  refine fk_aload_n hC dX4_copyFrom_33 rfl rfl ?_
  refine fk_getS_7 hC hy iX4 (by decide +kernel) dX4_copyFrom_34 ?_
  refine fk_putS_7 hC hz iX4 (by decide +kernel) dX4_copyFrom_37 ?_
  refine fk_aload_n hC dX4_copyFrom_40 rfl rfl ?_
  refine fk_aload_n hC dX4_copyFrom_41 rfl rfl ?_
  refine fk_getS_8 hC hy iX4 (by decide +kernel) dX4_copyFrom_42 ?_
  refine fk_putS_8 hC hz iX4 (by decide +kernel) dX4_copyFrom_45 ?_
  refine fk_aload_n hC dX4_copyFrom_48 rfl rfl ?_
  refine fk_aload_n hC dX4_copyFrom_49 rfl rfl ?_
  refine fk_getS_9 hC hy iX4 (by decide +kernel) dX4_copyFrom_50 ?_
  refine fk_putS_9 hC hz iX4 (by decide +kernel) dX4_copyFrom_53 ?_
  refine fk_aload_n hC dX4_copyFrom_56 rfl rfl ?_
  refine fk_aload_n hC dX4_copyFrom_57 rfl rfl ?_
  refine fk_getS_10 hC hy iX4 (by decide +kernel) dX4_copyFrom_58 ?_
  refine fk_putS_10 hC hz iX4 (by decide +kernel) dX4_copyFrom_61 ?_
  refine fk_aload_n hC dX4_copyFrom_64 rfl rfl ?_
  refine fk_aload_n hC dX4_copyFrom_65 rfl rfl ?_
  refine fk_getS_11 hC hy iX4 (by decide +kernel) dX4_copyFrom_66 ?_
  refine fk_putS_11 hC hz iX4 (by decide +kernel) dX4_copyFrom_69 ?_
  refine fk_aload_n hC dX4_copyFrom_72 rfl rfl ?_
  refine fk_aload_n hC dX4_copyFrom_73 rfl rfl ?_
  refine fk_getS_12 hC hy iX4 (by decide +kernel) dX4_copyFrom_74 ?_
  refine fk_putS_12 hC hz iX4 (by decide +kernel) dX4_copyFrom_77 ?_
  refine fk_aload_n hC dX4_copyFrom_80 rfl rfl ?_
  refine fk_aload_n hC dX4_copyFrom_81 rfl rfl ?_
  refine fk_getS_13 hC hy iX4 (by decide +kernel) dX4_copyFrom_82 ?_
  refine fk_putS_13 hC hz iX4 (by decide +kernel) dX4_copyFrom_85 ?_
  refine fk_iconst (v := 0) hC dX4_copyFrom_88 (by decide) ?_
  refine fk_istore_n hC dX4_copyFrom_89 rfl (by decide) rfl ?_
  exact lp (cN y G) 0 _ rfl (Nat.zero_le _) (by show sS_cp0 z y G (iS z 0) = _; rw [sS_cp0_0]; exact hI.c) (fun g h1 h2 => by show sS_cp0 z y G g = _; rw [sS_cp0_out (by omega)]) (by rw [sS_cp1]; rfl)

