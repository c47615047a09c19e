/-! LoadBalancer: its calls, answering or throwing -/
def rng (v lo hi : Int32) : Prop := ¬ v < lo ∧ v ≤ hi
theorem sV_acc_01 {z i : Nat} {G : fM} : sV_acc z i G = 0 ∨ sV_acc z i G = 1 := by
  unfold sV_acc
  split
  · exact Or.inl rfl
  · split
    · split
      · exact Or.inl rfl
      · split
        · exact Or.inl rfl
        · exact Or.inr rfl
    · exact Or.inl rfl

set_option maxHeartbeats 4000000 in
set_option maxRecDepth 100000 in
theorem kX5_requireRange (l : Launch) (D : va_G) (K : Nat → ClassId) (NL : List Nat) (ad : Nat → Nat) (G : fM) (x : fX) (v lo hi : Int32) (h : rng v lo hi) : Kd l yX5_requireRange wsX5_requireRange { frames := 0, cells := 0, slots := 0, locals := 0 } vwCl D K NL ad [.int v, .int lo, .int hi] G x none G x := by
  refine Kd.of (cc := cX5_requireRange) (maxL := 3) (ret := none) (L := [some (.int v), some (.int lo), some (.int hi)]) (by decide +kernel) rfl rfl (Nat.le_of_ble_eq_true rfl) ?_
  intro p e s m args below meth c hC hN hr hk hnme
  refine fk_iload_n hC dX5_requireRange_0 rfl rfl ?_
  refine fk_iload_n hC dX5_requireRange_1 rfl rfl ?_
  refine fk_icmp_lt (tgt := 10) hC dX5_requireRange_2 (by decide) (fun c2 => ?_) (fun c2 => ?_)
  · exact absurd c2 h.1
  · refine fk_iload_n hC dX5_requireRange_5 rfl rfl ?_
    refine fk_iload_n hC dX5_requireRange_6 rfl rfl ?_
    refine fk_icmp_le (tgt := 20) hC dX5_requireRange_7 (by decide) (fun c7 => ?_) (fun c7 => ?_)
    · exact fk_vret hC hr hk dX5_requireRange_20 rfl rfl rfl
    · exact absurd h.2 c7

set_option maxHeartbeats 4000000 in
set_option maxRecDepth 100000 in
theorem tX5_requireRange (l : Launch) (D : va_G) (K : Nat → ClassId) (NL : List Nat) (ad : Nat → Nat) (G : fM) (x : fX) (hst : l.stackTraces = false) (v lo hi : Int32) (h : ¬ rng v lo hi) : Kt l yX5_requireRange wsX5_requireRange { frames := 6, cells := 1, slots := 6, locals := 90 } vwCl D K NL ad [.int v, .int lo, .int hi] G x xIAE G x := by
  refine Kt.of (cc := cX5_requireRange) (maxL := 3) (ret := none) (L := [some (.int v), some (.int lo), some (.int hi)]) hst (by decide +kernel) rfl rfl (Nat.le_of_ble_eq_true rfl) ?_
  intro p e s m args below meth c hC hX htab hr hk
  have hN := hX.2.1
  refine fk_iload_n hC dX5_requireRange_0 rfl rfl ?_
  refine fk_iload_n hC dX5_requireRange_1 rfl rfl ?_
  refine fk_icmp_lt (tgt := 10) hC dX5_requireRange_2 (by decide) (fun c2 => ?_) (fun c2 => ?_)
  · obtain ⟨sa, hsa⟩ := hX.2.2.1.2.2.2.2.2.2.2.2.2.1
    exact fk_throw hC hX htab hk (by decide +kernel) (by decide +kernel) (by decide +kernel) hsa (by decide +kernel) f_bad1 hX.2.2.1.bad1 (by decide +kernel) dX5_requireRange_10 dX5_requireRange_13 dX5_requireRange_14 dX5_requireRange_16 dX5_requireRange_19 (Nat.le_of_ble_eq_true rfl) (Nat.le_of_ble_eq_true rfl) (Nat.le_of_ble_eq_true rfl) (Nat.le_of_ble_eq_true rfl) (Nat.le_of_ble_eq_true rfl) (Nat.le_of_ble_eq_true rfl) rfl rfl
  · refine fk_iload_n hC dX5_requireRange_5 rfl rfl ?_
    refine fk_iload_n hC dX5_requireRange_6 rfl rfl ?_
    refine fk_icmp_le (tgt := 20) hC dX5_requireRange_7 (by decide) (fun c7 => ?_) (fun c7 => ?_)
    · exact absurd ⟨c2, c7⟩ h
    · obtain ⟨sa, hsa⟩ := hX.2.2.1.2.2.2.2.2.2.2.2.2.1
      exact fk_throw hC hX htab hk (by decide +kernel) (by decide +kernel) (by decide +kernel) hsa (by decide +kernel) f_bad1 hX.2.2.1.bad1 (by decide +kernel) dX5_requireRange_10 dX5_requireRange_13 dX5_requireRange_14 dX5_requireRange_16 dX5_requireRange_19 (Nat.le_of_ble_eq_true rfl) (Nat.le_of_ble_eq_true rfl) (Nat.le_of_ble_eq_true rfl) (Nat.le_of_ble_eq_true rfl) (Nat.le_of_ble_eq_true rfl) (Nat.le_of_ble_eq_true rfl) rfl rfl

set_option maxHeartbeats 4000000 in
set_option maxRecDepth 100000 in
theorem tX4_serverAt (l : Launch) (D : va_G) (K : Nat → ClassId) (NL : List Nat) (ad : Nat → Nat) (G : fM) (x : fX) (hst : l.stackTraces = false) (z : Nat) (hz : f_ES NL z) (v : Int32) (h : v < 0 ∨ ¬ v < G (iS z 0)) : Kt l yX4_serverAt wsX4_serverAt { frames := 6, cells := 1, slots := 6, locals := 90 } vwCl D K NL ad [.ref (ad (nm z 0)), .int v] G x xIOB G x := by
  refine Kt.of (cc := cX4_serverAt) (maxL := 2) (ret := (some (.object "LoadBalancer$Server"))) (L := [some (.ref (ad (nm z 0))), some (.int v)]) hst (by decide +kernel) rfl rfl (Nat.le_of_ble_eq_true rfl) ?_
  intro p e s m args below meth c hC hX htab hr hk
  have hN := hX.2.1
  have iX4 : ∀ w ∈ wsX40, w ∈ wsX4_serverAt := by decide +kernel
  refine fk_iload_n hC dX4_serverAt_0 rfl rfl ?_
  refine fk_if_lt (tgt := 12) hC dX4_serverAt_1 (by decide) (fun c1 => ?_) (fun c1 => ?_)
  · obtain ⟨sa, hsa⟩ := hX.2.2.1.2.2.2.2.2.2.2.2.2.2.2
    exact fk_throw hC hX htab hk (by decide +kernel) (by decide +kernel) (by decide +kernel) hsa (by decide +kernel) f_bad4 hX.2.2.1.bad3 (by decide +kernel) dX4_serverAt_12 dX4_serverAt_15 dX4_serverAt_16 dX4_serverAt_18 dX4_serverAt_21 (Nat.le_of_ble_eq_true rfl) (Nat.le_of_ble_eq_true rfl) (Nat.le_of_ble_eq_true rfl) (Nat.le_of_ble_eq_true rfl) (Nat.le_of_ble_eq_true rfl) (Nat.le_of_ble_eq_true rfl) rfl rfl
  · refine fk_iload_n hC dX4_serverAt_4 rfl rfl ?_
    refine fk_aload_n hC dX4_serverAt_5 rfl rfl ?_
    refine fk_getS_3 hC hz iX4 (by decide +kernel) dX4_serverAt_6 ?_
    refine fk_icmp_lt (tgt := 22) hC dX4_serverAt_9 (by decide) (fun c9 => ?_) (fun c9 => ?_)
    · rcases h with h | h
      · exact absurd h c1
      · exact absurd c9 h
    · obtain ⟨sa, hsa⟩ := hX.2.2.1.2.2.2.2.2.2.2.2.2.2.2
      exact fk_throw hC hX htab hk (by decide +kernel) (by decide +kernel) (by decide +kernel) hsa (by decide +kernel) f_bad4 hX.2.2.1.bad3 (by decide +kernel) dX4_serverAt_12 dX4_serverAt_15 dX4_serverAt_16 dX4_serverAt_18 dX4_serverAt_21 (Nat.le_of_ble_eq_true rfl) (Nat.le_of_ble_eq_true rfl) (Nat.le_of_ble_eq_true rfl) (Nat.le_of_ble_eq_true rfl) (Nat.le_of_ble_eq_true rfl) (Nat.le_of_ble_eq_true rfl) rfl rfl

set_option maxHeartbeats 4000000 in
set_option maxRecDepth 100000 in
theorem kX5_requireConnection (l : Launch) (D : va_G) (K : Nat → ClassId) (NL : List Nat) (ad : Nat → Nat) (G : fM) (x : fX) (hp : 300 ∈ NL) (hz : f_ES NL 0) (hI : f_I 0 G) (k : Nat) (hk9 : k < oN 0 G) : Kd l yX5_requireConnection wsX5_requireConnection { frames := 0, cells := 0, slots := 0, locals := 0 } vwCl D K NL ad [.ref (ad 300), .int (nI k)] G x none G x := by
  refine Kd.of (cc := cX5_requireConnection) (maxL := 2) (ret := none) (L := [some (.ref (ad 300)), some (.int (nI k))]) (by decide +kernel) rfl rfl (Nat.le_of_ble_eq_true rfl) ?_
  intro p e s m args below meth c hC hN hr hk hnme
  have iX2 : ∀ w ∈ wsX20, w ∈ wsX5_requireConnection := by decide +kernel
  have iX4 : ∀ w ∈ wsX40, w ∈ wsX5_requireConnection := by decide +kernel
  have iX5 : ∀ w ∈ wsX50, w ∈ wsX5_requireConnection := by decide +kernel
  have h1000 := hI.o1000
  refine fk_iload_n hC dX5_requireConnection_0 rfl rfl ?_
  refine fk_if_lt (tgt := 18) hC dX5_requireConnection_1 (by decide) (fun c1 => ?_) (fun c1 => ?_)
  · exact absurd c1 (nI_pos (by omega))
  · refine fk_iload_n hC dX5_requireConnection_4 rfl rfl ?_
    refine fk_aload_n hC dX5_requireConnection_5 rfl rfl ?_
    refine fk_getP_0 hC hp iX5 (by decide +kernel) dX5_requireConnection_6 ?_
    refine fk_getS_1 hC hz iX4 (by decide +kernel) dX5_requireConnection_9 ?_
    refine fk_getC_3 hC hz iX2 (by decide +kernel) dX5_requireConnection_12 ?_
    refine fk_icmp_lt (tgt := 28) hC dX5_requireConnection_15 (by decide) (fun c15 => ?_) (fun c15 => ?_)
    · exact fk_vret hC hr hk dX5_requireConnection_28 rfl rfl rfl
    · rw [hI.o] at c15
      exact absurd (nI_lt hk9 (by omega)) c15

set_option maxHeartbeats 4000000 in
set_option maxRecDepth 100000 in
theorem tX5_requireConnection (l : Launch) (D : va_G) (K : Nat → ClassId) (NL : List Nat) (ad : Nat → Nat) (G : fM) (x : fX) (hst : l.stackTraces = false) (hp : 300 ∈ NL) (hz : f_ES NL 0) (v : Int32) (h : v < 0 ∨ ¬ v < G (iS 0 20)) : Kt l yX5_requireConnection wsX5_requireConnection { frames := 6, cells := 1, slots := 6, locals := 90 } vwCl D K NL ad [.ref (ad 300), .int v] G x xIOB G x := by
  refine Kt.of (cc := cX5_requireConnection) (maxL := 2) (ret := none) (L := [some (.ref (ad 300)), some (.int v)]) hst (by decide +kernel) rfl rfl (Nat.le_of_ble_eq_true rfl) ?_
  intro p e s m args below meth c hC hX htab hr hk
  have hN := hX.2.1
  have iX2 : ∀ w ∈ wsX20, w ∈ wsX5_requireConnection := by decide +kernel
  have iX4 : ∀ w ∈ wsX40, w ∈ wsX5_requireConnection := by decide +kernel
  have iX5 : ∀ w ∈ wsX50, w ∈ wsX5_requireConnection := by decide +kernel
  refine fk_iload_n hC dX5_requireConnection_0 rfl rfl ?_
  refine fk_if_lt (tgt := 18) hC dX5_requireConnection_1 (by decide) (fun c1 => ?_) (fun c1 => ?_)
  · obtain ⟨sa, hsa⟩ := hX.2.2.1.2.2.2.2.2.2.2.2.2.2.1
    exact fk_throw hC hX htab hk (by decide +kernel) (by decide +kernel) (by decide +kernel) hsa (by decide +kernel) f_bad3 hX.2.2.1.bad3 (by decide +kernel) dX5_requireConnection_18 dX5_requireConnection_21 dX5_requireConnection_22 dX5_requireConnection_24 dX5_requireConnection_27 (Nat.le_of_ble_eq_true rfl) (Nat.le_of_ble_eq_true rfl) (Nat.le_of_ble_eq_true rfl) (Nat.le_of_ble_eq_true rfl) (Nat.le_of_ble_eq_true rfl) (Nat.le_of_ble_eq_true rfl) rfl rfl
  · refine fk_iload_n hC dX5_requireConnection_4 rfl rfl ?_
    refine fk_aload_n hC dX5_requireConnection_5 rfl rfl ?_
    refine fk_getP_0 hC hp iX5 (by decide +kernel) dX5_requireConnection_6 ?_
    refine fk_getS_1 hC hz iX4 (by decide +kernel) dX5_requireConnection_9 ?_
    refine fk_getC_3 hC hz iX2 (by decide +kernel) dX5_requireConnection_12 ?_
    refine fk_icmp_lt (tgt := 28) hC dX5_requireConnection_15 (by decide) (fun c15 => ?_) (fun c15 => ?_)
    · rcases h with h | h
      · exact absurd h c1
      · exact absurd c15 h
    · obtain ⟨sa, hsa⟩ := hX.2.2.1.2.2.2.2.2.2.2.2.2.2.1
      exact fk_throw hC hX htab hk (by decide +kernel) (by decide +kernel) (by decide +kernel) hsa (by decide +kernel) f_bad3 hX.2.2.1.bad3 (by decide +kernel) dX5_requireConnection_18 dX5_requireConnection_21 dX5_requireConnection_22 dX5_requireConnection_24 dX5_requireConnection_27 (Nat.le_of_ble_eq_true rfl) (Nat.le_of_ble_eq_true rfl) (Nat.le_of_ble_eq_true rfl) (Nat.le_of_ble_eq_true rfl) (Nat.le_of_ble_eq_true rfl) (Nat.le_of_ble_eq_true rfl) rfl rfl

set_option maxHeartbeats 4000000 in
set_option maxRecDepth 100000 in
theorem kX5_addServer (l : Launch) (D : va_G) (K : Nat → ClassId) (NL : List Nat) (ad : Nat → Nat) (G : fM) (x : fX) (hp : 300 ∈ NL) (hz : f_ES NL 0) (cn : Nat) (hc : G (iS 0 0) = nI cn) (hc10 : cn < 10) (wt cp : Int32) (h1 : rng wt 1 10) (h2 : rng cp 1 20) : Kd l yX5_addServer wsX5_addServer { frames := 3, cells := 0, slots := 0, locals := 65 } vwCl D K NL ad [.ref (ad 300), .int wt, .int cp] G x (some (.int (nI cn))) (upd (sV_begin 0 cn wt cp G) (iS 0 0) (nI (cn + 1))) x := by
  refine Kd.of (cc := cX5_addServer) (maxL := 3) (ret := (some .int)) (L := [some (.ref (ad 300)), some (.int wt), some (.int cp)]) (by decide +kernel) rfl rfl (Nat.le_of_ble_eq_true rfl) ?_
  intro p e s m args below meth c hC hN hr hk hnme
  have iX4 : ∀ w ∈ wsX40, w ∈ wsX5_addServer := by decide +kernel
  have iX5 : ∀ w ∈ wsX50, w ∈ wsX5_addServer := by decide +kernel
  refine fk_iload_n hC dX5_addServer_0 rfl rfl ?_
  refine fk_iconst (v := 1) hC dX5_addServer_1 (by decide) ?_
  refine fk_bipush (v := 10) hC dX5_addServer_2 (by decide) ?_
  refine fk_callS hC hN (kX5_requireRange l D K NL ad _ x _ _ _ h1) (va_cwS 3 hC.1.2.2.2.2 gX5_addServer_X5_requireRange rfl rfl rfl (by decide +kernel) ⟨Nat.le_of_ble_eq_true rfl, Nat.le_of_ble_eq_true rfl⟩) rfl rfl (Nat.le_of_ble_eq_true rfl) dX5_addServer_4 ⟨Nat.zero_le _, Nat.zero_le _⟩ ?_
  refine fk_iload_n hC dX5_addServer_7 rfl rfl ?_
  refine fk_iconst (v := 1) hC dX5_addServer_8 (by decide) ?_
  refine fk_bipush (v := 20) hC dX5_addServer_9 (by decide) ?_
  refine fk_callS hC hN (kX5_requireRange l D K NL ad _ x _ _ _ h2) (va_cwS 3 hC.1.2.2.2.2 gX5_addServer_X5_requireRange rfl rfl rfl (by decide +kernel) ⟨Nat.le_of_ble_eq_true rfl, Nat.le_of_ble_eq_true rfl⟩) rfl rfl (Nat.le_of_ble_eq_true rfl) dX5_addServer_11 ⟨Nat.zero_le _, Nat.zero_le _⟩ ?_
  refine fk_aload_n hC dX5_addServer_14 rfl rfl ?_
  refine fk_getP_0 hC hp iX5 (by decide +kernel) dX5_addServer_15 ?_
  refine fk_getS_3 hC hz iX4 (by decide +kernel) dX5_addServer_18 ?_
  refine fk_bipush (v := 10) hC dX5_addServer_21 (by decide) ?_
  refine fk_icmp_lt (tgt := 36) hC dX5_addServer_23 (by decide) (fun c23 => ?_) (fun c23 => ?_)
  · refine fk_aload_n hC dX5_addServer_36 rfl rfl ?_
    refine fk_getP_0 hC hp iX5 (by decide +kernel) dX5_addServer_37 ?_
    refine fk_iload_n hC dX5_addServer_40 rfl rfl ?_
    refine fk_iload_n hC dX5_addServer_41 rfl rfl ?_
    refine fk_callV hC hN (kX4_append l D K NL ad _ x 0 hz cn hc hc10 _ _) (hz.2 0 (by decide)) (f_e0 _ _ _ _ _ hz.1) rfl (cwV 2 hC.1.2.2.2.2 gX5_addServer_X4_append rfl rfl rfl (by decide +kernel) ⟨Nat.le_of_ble_eq_true rfl, Nat.le_of_ble_eq_true rfl⟩) rfl rfl (Nat.le_of_ble_eq_true rfl) dX5_addServer_42 ⟨Nat.zero_le _, Nat.zero_le _⟩ ?_
    exact fk_iret hC hr hk dX5_addServer_45 rfl rfl rfl
  · rw [hc] at c23
    exact absurd (nI_lt (b := 10) hc10 (by decide)) c23

set_option maxHeartbeats 4000000 in
set_option maxRecDepth 100000 in
theorem tX5_addServer_1 (l : Launch) (D : va_G) (K : Nat → ClassId) (NL : List Nat) (ad : Nat → Nat) (G : fM) (x : fX) (hst : l.stackTraces = false) (hp : 300 ∈ NL) (hz : f_ES NL 0) (wt cp : Int32) (h : ¬ rng wt 1 10) : Kt l yX5_addServer wsX5_addServer { frames := 7, cells := 1, slots := 6, locals := 112 } vwCl D K NL ad [.ref (ad 300), .int wt, .int cp] G x xIAE G x := by
  refine Kt.of (cc := cX5_addServer) (maxL := 3) (ret := (some .int)) (L := [some (.ref (ad 300)), some (.int wt), some (.int cp)]) hst (by decide +kernel) rfl rfl (Nat.le_of_ble_eq_true rfl) ?_
  intro p e s m args below meth c hC hX htab hr hk
  have hN := hX.2.1
  refine fk_iload_n hC dX5_addServer_0 rfl rfl ?_
  refine fk_iconst (v := 1) hC dX5_addServer_1 (by decide) ?_
  refine fk_bipush (v := 10) hC dX5_addServer_2 (by decide) ?_
  exact fk_xcallS hC hX (tX5_requireRange l D K NL ad _ x hst _ _ _ h) (va_cwS 3 hC.1.2.2.2.2 gX5_addServer_X5_requireRange rfl rfl rfl (by decide +kernel) ⟨Nat.le_of_ble_eq_true rfl, Nat.le_of_ble_eq_true rfl⟩) rfl rfl (Nat.le_of_ble_eq_true rfl) dX5_addServer_4 ⟨Nat.le_of_ble_eq_true rfl, Nat.le_of_ble_eq_true rfl⟩ (fun H1 locs1 ls q ce a1 a2 a3 a4 a5 a6 => fk_xout htab hk a1 a2 a4 a5 a6 (Nat.le_of_ble_eq_true rfl) (Nat.le_of_ble_eq_true rfl))

set_option maxHeartbeats 4000000 in
set_option maxRecDepth 100000 in
theorem tX5_addServer_2 (l : Launch) (D : va_G) (K : Nat → ClassId) (NL : List Nat) (ad : Nat → Nat) (G : fM) (x : fX) (hst : l.stackTraces = false) (hp : 300 ∈ NL) (hz : f_ES NL 0) (wt cp : Int32) (h1 : rng wt 1 10) (h : ¬ rng cp 1 20) : Kt l yX5_addServer wsX5_addServer { frames := 7, cells := 1, slots := 6, locals := 112 } vwCl D K NL ad [.ref (ad 300), .int wt, .int cp] G x xIAE G x := by
  refine Kt.of (cc := cX5_addServer) (maxL := 3) (ret := (some .int)) (L := [some (.ref (ad 300)), some (.int wt), some (.int cp)]) hst (by decide +kernel) rfl rfl (Nat.le_of_ble_eq_true rfl) ?_
  intro p e s m args below meth c hC hX htab hr hk
  have hN := hX.2.1
  refine fk_iload_n hC dX5_addServer_0 rfl rfl ?_
  refine fk_iconst (v := 1) hC dX5_addServer_1 (by decide) ?_
  refine fk_bipush (v := 10) hC dX5_addServer_2 (by decide) ?_
  refine fk_callS hC hN (kX5_requireRange l D K NL ad _ x _ _ _ h1) (va_cwS 3 hC.1.2.2.2.2 gX5_addServer_X5_requireRange rfl rfl rfl (by decide +kernel) ⟨Nat.le_of_ble_eq_true rfl, Nat.le_of_ble_eq_true rfl⟩) rfl rfl (Nat.le_of_ble_eq_true rfl) dX5_addServer_4 ⟨Nat.zero_le _, Nat.zero_le _⟩ ?_
  refine fk_iload_n hC dX5_addServer_7 rfl rfl ?_
  refine fk_iconst (v := 1) hC dX5_addServer_8 (by decide) ?_
  refine fk_bipush (v := 20) hC dX5_addServer_9 (by decide) ?_
  exact fk_xcallS hC hX (tX5_requireRange l D K NL ad _ x hst _ _ _ h) (va_cwS 3 hC.1.2.2.2.2 gX5_addServer_X5_requireRange rfl rfl rfl (by decide +kernel) ⟨Nat.le_of_ble_eq_true rfl, Nat.le_of_ble_eq_true rfl⟩) rfl rfl (Nat.le_of_ble_eq_true rfl) dX5_addServer_11 ⟨Nat.le_of_ble_eq_true rfl, Nat.le_of_ble_eq_true rfl⟩ (fun H1 locs1 ls q ce a1 a2 a3 a4 a5 a6 => fk_xout htab hk a1 a2 a4 a5 a6 (Nat.le_of_ble_eq_true rfl) (Nat.le_of_ble_eq_true rfl))

set_option maxHeartbeats 4000000 in
set_option maxRecDepth 100000 in
theorem tX5_addServer_3 (l : Launch) (D : va_G) (K : Nat → ClassId) (NL : List Nat) (ad : Nat → Nat) (G : fM) (x : fX) (hst : l.stackTraces = false) (hp : 300 ∈ NL) (hz : f_ES NL 0) (wt cp : Int32) (h1 : rng wt 1 10) (h2 : rng cp 1 20) (h : ¬ G (iS 0 0) < 10) : Kt l yX5_addServer wsX5_addServer { frames := 6, cells := 1, slots := 6, locals := 90 } vwCl D K NL ad [.ref (ad 300), .int wt, .int cp] G x xISE G x := by
  refine Kt.of (cc := cX5_addServer) (maxL := 3) (ret := (some .int)) (L := [some (.ref (ad 300)), some (.int wt), some (.int cp)]) hst (by decide +kernel) rfl rfl (Nat.le_of_ble_eq_true rfl) ?_
  intro p e s m args below meth c hC hX htab hr hk
  have hN := hX.2.1
  have iX4 : ∀ w ∈ wsX40, w ∈ wsX5_addServer := by decide +kernel
  have iX5 : ∀ w ∈ wsX50, w ∈ wsX5_addServer := by decide +kernel
  refine fk_iload_n hC dX5_addServer_0 rfl rfl ?_
  refine fk_iconst (v := 1) hC dX5_addServer_1 (by decide) ?_
  refine fk_bipush (v := 10) hC dX5_addServer_2 (by decide) ?_
  refine fk_callS hC hN (kX5_requireRange l D K NL ad _ x _ _ _ h1) (va_cwS 3 hC.1.2.2.2.2 gX5_addServer_X5_requireRange rfl rfl rfl (by decide +kernel) ⟨Nat.le_of_ble_eq_true rfl, Nat.le_of_ble_eq_true rfl⟩) rfl rfl (Nat.le_of_ble_eq_true rfl) dX5_addServer_4 ⟨Nat.zero_le _, Nat.zero_le _⟩ ?_
  refine fk_iload_n hC dX5_addServer_7 rfl rfl ?_
  refine fk_iconst (v := 1) hC dX5_addServer_8 (by decide) ?_
  refine fk_bipush (v := 20) hC dX5_addServer_9 (by decide) ?_
  refine fk_callS hC hN (kX5_requireRange l D K NL ad _ x _ _ _ h2) (va_cwS 3 hC.1.2.2.2.2 gX5_addServer_X5_requireRange rfl rfl rfl (by decide +kernel) ⟨Nat.le_of_ble_eq_true rfl, Nat.le_of_ble_eq_true rfl⟩) rfl rfl (Nat.le_of_ble_eq_true rfl) dX5_addServer_11 ⟨Nat.zero_le _, Nat.zero_le _⟩ ?_
  refine fk_aload_n hC dX5_addServer_14 rfl rfl ?_
  refine fk_getP_0 hC hp iX5 (by decide +kernel) dX5_addServer_15 ?_
  refine fk_getS_3 hC hz iX4 (by decide +kernel) dX5_addServer_18 ?_
  refine fk_bipush (v := 10) hC dX5_addServer_21 (by decide) ?_
  refine fk_icmp_lt (tgt := 36) hC dX5_addServer_23 (by decide) (fun c23 => ?_) (fun c23 => ?_)
  · exact absurd c23 h
  · obtain ⟨sa, hsa⟩ := hX.2.2.1.2.2.2.1
    exact fk_throw hC hX htab hk (by decide +kernel) (by decide +kernel) (by decide +kernel) hsa (by decide +kernel) f_bad2 hX.2.2.1.bad2 (by decide +kernel) dX5_addServer_26 dX5_addServer_29 dX5_addServer_30 dX5_addServer_32 dX5_addServer_35 (Nat.le_of_ble_eq_true rfl) (Nat.le_of_ble_eq_true rfl) (Nat.le_of_ble_eq_true rfl) (Nat.le_of_ble_eq_true rfl) (Nat.le_of_ble_eq_true rfl) (Nat.le_of_ble_eq_true rfl) rfl rfl

set_option maxHeartbeats 4000000 in
set_option maxRecDepth 100000 in
theorem kX5_setWeight (l : Launch) (D : va_G) (K : Nat → ClassId) (NL : List Nat) (ad : Nat → Nat) (G : fM) (x : fX) (hp : 300 ∈ NL) (hz : f_ES NL 0) (hI : f_I 0 G) (i : Nat) (hi : i < cN 0 G) (wt : Int32) (h1 : rng wt 1 10) : Kd l yX5_setWeight wsX5_setWeight { frames := 1, cells := 0, slots := 0, locals := 22 } vwCl D K NL ad [.ref (ad 300), .int (nI i), .int wt] G x (some (.int (G (iV 0 i 0)))) (upd G (iV 0 i 0) wt) x := by
  refine Kd.of (cc := cX5_setWeight) (maxL := 5) (ret := (some .int)) (L := [some (.ref (ad 300)), some (.int (nI i)), some (.int wt), none, none]) (by decide +kernel) rfl rfl (Nat.le_of_ble_eq_true rfl) ?_
  intro p e s m args below meth c hC hN hr hk hnme
  have iX3 : ∀ w ∈ wsX30, w ∈ wsX5_setWeight := by decide +kernel
  have iX5 : ∀ w ∈ wsX50, w ∈ wsX5_setWeight := by decide +kernel
  have h10 := hI.c10
  refine fk_aload_n hC dX5_setWeight_0 rfl rfl ?_
  refine fk_getP_0 hC hp iX5 (by decide +kernel) dX5_setWeight_1 ?_
  refine fk_iload_n hC dX5_setWeight_4 rfl rfl ?_
  refine fk_callV hC hN (kX4_serverAt l D K NL ad _ x 0 hz (cN 0 G) i hI.c hI.c10 hi) (hz.2 0 (by decide)) (f_e0 _ _ _ _ _ hz.1) rfl (cwV 1 hC.1.2.2.2.2 gX5_setWeight_X4_serverAt rfl rfl rfl (by decide +kernel) ⟨Nat.le_of_ble_eq_true rfl, Nat.le_of_ble_eq_true rfl⟩) rfl rfl (Nat.le_of_ble_eq_true rfl) dX5_setWeight_5 ⟨Nat.zero_le _, Nat.zero_le _⟩ ?_
  refine fk_astore_n hC dX5_setWeight_8 rfl (by decide) rfl ?_
  refine fk_iload_n hC dX5_setWeight_9 rfl rfl ?_
  refine fk_iconst (v := 1) hC dX5_setWeight_10 (by decide) ?_
  refine fk_bipush (v := 10) hC dX5_setWeight_11 (by decide) ?_
  refine fk_callS hC hN (kX5_requireRange l D K NL ad _ x _ _ _ h1) (va_cwS 3 hC.1.2.2.2.2 gX5_setWeight_X5_requireRange rfl rfl rfl (by decide +kernel) ⟨Nat.le_of_ble_eq_true rfl, Nat.le_of_ble_eq_true rfl⟩) rfl rfl (Nat.le_of_ble_eq_true rfl) dX5_setWeight_13 ⟨Nat.zero_le _, Nat.zero_le _⟩ ?_
  refine fk_aload_n hC dX5_setWeight_16 rfl rfl ?_
  refine fk_getV_1 hC hz (by omega) iX3 (by decide +kernel) dX5_setWeight_17 ?_
  refine fk_istore hC dX5_setWeight_20 (by decide) rfl ?_
  refine fk_aload_n hC dX5_setWeight_22 rfl rfl ?_
  refine fk_iload_n hC dX5_setWeight_23 rfl rfl ?_
  refine fk_putV_1 hC hz (by omega) iX3 (by decide +kernel) dX5_setWeight_24 ?_
  refine fk_iload hC dX5_setWeight_27 rfl ?_
  exact fk_iret hC hr hk dX5_setWeight_29 rfl rfl rfl

set_option maxHeartbeats 4000000 in
set_option maxRecDepth 100000 in
theorem tX5_setWeight_1 (l : Launch) (D : va_G) (K : Nat → ClassId) (NL : List Nat) (ad : Nat → Nat) (G : fM) (x : fX) (hst : l.stackTraces = false) (hp : 300 ∈ NL) (hz : f_ES NL 0) (v wt : Int32) (h : v < 0 ∨ ¬ v < G (iS 0 0)) : Kt l yX5_setWeight wsX5_setWeight { frames := 7, cells := 1, slots := 6, locals := 111 } vwCl D K NL ad [.ref (ad 300), .int v, .int wt] G x xIOB G x := by
  refine Kt.of (cc := cX5_setWeight) (maxL := 5) (ret := (some .int)) (L := [some (.ref (ad 300)), some (.int v), some (.int wt), none, none]) hst (by decide +kernel) rfl rfl (Nat.le_of_ble_eq_true rfl) ?_
  intro p e s m args below meth c hC hX htab hr hk
  have hN := hX.2.1
  have iX5 : ∀ w ∈ wsX50, w ∈ wsX5_setWeight := by decide +kernel
  refine fk_aload_n hC dX5_setWeight_0 rfl rfl ?_
  refine fk_getP_0 hC hp iX5 (by decide +kernel) dX5_setWeight_1 ?_
  refine fk_iload_n hC dX5_setWeight_4 rfl rfl ?_
  exact fk_xcallV hC hX (tX4_serverAt l D K NL ad _ x hst 0 hz _ h) (hz.2 0 (by decide)) (f_e0 _ _ _ _ _ hz.1) rfl (cwV 1 hC.1.2.2.2.2 gX5_setWeight_X4_serverAt rfl rfl rfl (by decide +kernel) ⟨Nat.le_of_ble_eq_true rfl, Nat.le_of_ble_eq_true rfl⟩) rfl rfl (Nat.le_of_ble_eq_true rfl) dX5_setWeight_5 ⟨Nat.le_of_ble_eq_true rfl, Nat.le_of_ble_eq_true rfl⟩ (fun H1 locs1 ls q ce a1 a2 a3 a4 a5 a6 => fk_xout htab hk a1 a2 a4 a5 a6 (Nat.le_of_ble_eq_true rfl) (Nat.le_of_ble_eq_true rfl))

set_option maxHeartbeats 4000000 in
set_option maxRecDepth 100000 in
theorem tX5_setWeight_2 (l : Launch) (D : va_G) (K : Nat → ClassId) (NL : List Nat) (ad : Nat → Nat) (G : fM) (x : fX) (hst : l.stackTraces = false) (hp : 300 ∈ NL) (hz : f_ES NL 0) (hI : f_I 0 G) (i : Nat) (hi : i < cN 0 G) (wt : Int32) (h : ¬ rng wt 1 10) : Kt l yX5_setWeight wsX5_setWeight { frames := 7, cells := 1, slots := 6, locals := 112 } vwCl D K NL ad [.ref (ad 300), .int (nI i), .int wt] G x xIAE G x := by
  refine Kt.of (cc := cX5_setWeight) (maxL := 5) (ret := (some .int)) (L := [some (.ref (ad 300)), some (.int (nI i)), some (.int wt), none, none]) hst (by decide +kernel) rfl rfl (Nat.le_of_ble_eq_true rfl) ?_
  intro p e s m args below meth c hC hX htab hr hk
  have hN := hX.2.1
  have iX5 : ∀ w ∈ wsX50, w ∈ wsX5_setWeight := by decide +kernel
  have h10 := hI.c10
  refine fk_aload_n hC dX5_setWeight_0 rfl rfl ?_
  refine fk_getP_0 hC hp iX5 (by decide +kernel) dX5_setWeight_1 ?_
  refine fk_iload_n hC dX5_setWeight_4 rfl rfl ?_
  refine fk_callV hC hN (kX4_serverAt l D K NL ad _ x 0 hz (cN 0 G) i hI.c hI.c10 hi) (hz.2 0 (by decide)) (f_e0 _ _ _ _ _ hz.1) rfl (cwV 1 hC.1.2.2.2.2 gX5_setWeight_X4_serverAt rfl rfl rfl (by decide +kernel) ⟨Nat.le_of_ble_eq_true rfl, Nat.le_of_ble_eq_true rfl⟩) rfl rfl (Nat.le_of_ble_eq_true rfl) dX5_setWeight_5 ⟨Nat.zero_le _, Nat.zero_le _⟩ ?_
  refine fk_astore_n hC dX5_setWeight_8 rfl (by decide) rfl ?_
  refine fk_iload_n hC dX5_setWeight_9 rfl rfl ?_
  refine fk_iconst (v := 1) hC dX5_setWeight_10 (by decide) ?_
  refine fk_bipush (v := 10) hC dX5_setWeight_11 (by decide) ?_
  exact fk_xcallS hC hX (tX5_requireRange l D K NL ad _ x hst _ _ _ h) (va_cwS 3 hC.1.2.2.2.2 gX5_setWeight_X5_requireRange rfl rfl rfl (by decide +kernel) ⟨Nat.le_of_ble_eq_true rfl, Nat.le_of_ble_eq_true rfl⟩) rfl rfl (Nat.le_of_ble_eq_true rfl) dX5_setWeight_13 ⟨Nat.le_of_ble_eq_true rfl, Nat.le_of_ble_eq_true rfl⟩ (fun H1 locs1 ls q ce a1 a2 a3 a4 a5 a6 => fk_xout htab hk a1 a2 a4 a5 a6 (Nat.le_of_ble_eq_true rfl) (Nat.le_of_ble_eq_true rfl))

set_option maxHeartbeats 4000000 in
set_option maxRecDepth 100000 in
theorem kX5_setDraining (l : Launch) (D : va_G) (K : Nat → ClassId) (NL : List Nat) (ad : Nat → Nat) (G : fM) (x : fX) (hp : 300 ∈ NL) (hz : f_ES NL 0) (hI : f_I 0 G) (i : Nat) (hi : i < cN 0 G) (pd : Int32) (hpd : pd = 0 ∨ pd = 1) (hb : G (iV 0 i 5) = 0 ∨ G (iV 0 i 5) = 1) : Kd l yX5_setDraining wsX5_setDraining { frames := 1, cells := 0, slots := 0, locals := 21 } vwCl D K NL ad [.ref (ad 300), .int (nI i), .int pd] G x (some (.int (G (iV 0 i 5)))) (upd G (iV 0 i 5) pd) x := by
  refine Kd.of (cc := cX5_setDraining) (maxL := 5) (ret := (some .boolean)) (L := [some (.ref (ad 300)), some (.int (nI i)), some (.int pd), none, none]) (by decide +kernel) rfl rfl (Nat.le_of_ble_eq_true rfl) ?_
  intro p e s m args below meth c hC hN hr hk hnme
  have iX3 : ∀ w ∈ wsX30, w ∈ wsX5_setDraining := by decide +kernel
  have iX5 : ∀ w ∈ wsX50, w ∈ wsX5_setDraining := by decide +kernel
  have h10 := hI.c10
  refine fk_aload_n hC dX5_setDraining_0 rfl rfl ?_
  refine fk_getP_0 hC hp iX5 (by decide +kernel) dX5_setDraining_1 ?_
  refine fk_iload_n hC dX5_setDraining_4 rfl rfl ?_
  refine fk_callV hC hN (kX4_serverAt l D K NL ad _ x 0 hz (cN 0 G) i hI.c hI.c10 hi) (hz.2 0 (by decide)) (f_e0 _ _ _ _ _ hz.1) rfl (cwV 1 hC.1.2.2.2.2 gX5_setDraining_X4_serverAt rfl rfl rfl (by decide +kernel) ⟨Nat.le_of_ble_eq_true rfl, Nat.le_of_ble_eq_true rfl⟩) rfl rfl (Nat.le_of_ble_eq_true rfl) dX5_setDraining_5 ⟨Nat.zero_le _, Nat.zero_le _⟩ ?_
  refine fk_astore_n hC dX5_setDraining_8 rfl (by decide) rfl ?_
  refine fk_aload_n hC dX5_setDraining_9 rfl rfl ?_
  refine fk_getV_6 hC hz (by omega) iX3 (by decide +kernel) dX5_setDraining_10 ?_
  refine fk_istore hC dX5_setDraining_13 (by decide) rfl ?_
  refine fk_aload_n hC dX5_setDraining_15 rfl rfl ?_
  refine fk_iload_n hC dX5_setDraining_16 rfl rfl ?_
  refine fk_putV_6 hC hz (by omega) iX3 (by decide +kernel) (f_narB hpd) (f_fitB hpd) dX5_setDraining_17 ?_
  refine fk_iload hC dX5_setDraining_20 rfl ?_
  exact fk_zret hC hr hk dX5_setDraining_22 (f_narB hb) rfl rfl rfl

set_option maxHeartbeats 4000000 in
set_option maxRecDepth 100000 in
theorem tX5_setDraining (l : Launch) (D : va_G) (K : Nat → ClassId) (NL : List Nat) (ad : Nat → Nat) (G : fM) (x : fX) (hst : l.stackTraces = false) (hp : 300 ∈ NL) (hz : f_ES NL 0) (v : Int32) (pd : Int32) (h : v < 0 ∨ ¬ v < G (iS 0 0)) : Kt l yX5_setDraining wsX5_setDraining { frames := 7, cells := 1, slots := 6, locals := 111 } vwCl D K NL ad [.ref (ad 300), .int v, .int pd] G x xIOB G x := by
  refine Kt.of (cc := cX5_setDraining) (maxL := 5) (ret := (some .boolean)) (L := [some (.ref (ad 300)), some (.int v), some (.int pd), none, none]) hst (by decide +kernel) rfl rfl (Nat.le_of_ble_eq_true rfl) ?_
  intro p e s m args below meth c hC hX htab hr hk
  have hN := hX.2.1
  have iX5 : ∀ w ∈ wsX50, w ∈ wsX5_setDraining := by decide +kernel
  refine fk_aload_n hC dX5_setDraining_0 rfl rfl ?_
  refine fk_getP_0 hC hp iX5 (by decide +kernel) dX5_setDraining_1 ?_
  refine fk_iload_n hC dX5_setDraining_4 rfl rfl ?_
  exact fk_xcallV hC hX (tX4_serverAt l D K NL ad _ x hst 0 hz _ h) (hz.2 0 (by decide)) (f_e0 _ _ _ _ _ hz.1) rfl (cwV 1 hC.1.2.2.2.2 gX5_setDraining_X4_serverAt rfl rfl rfl (by decide +kernel) ⟨Nat.le_of_ble_eq_true rfl, Nat.le_of_ble_eq_true rfl⟩) rfl rfl (Nat.le_of_ble_eq_true rfl) dX5_setDraining_5 ⟨Nat.le_of_ble_eq_true rfl, Nat.le_of_ble_eq_true rfl⟩ (fun H1 locs1 ls q ce a1 a2 a3 a4 a5 a6 => fk_xout htab hk a1 a2 a4 a5 a6 (Nat.le_of_ble_eq_true rfl) (Nat.le_of_ble_eq_true rfl))

def sP_rep (i : Nat) (pd : Int32) (G : fM) : fM := if G (iV 0 i 4) = 0 then sV_u 0 i pd (G (iS 0 1)) (G (iS 0 9)) G else sV_h 0 i pd (G (iS 0 2)) G
theorem sP_rep_4 {i : Nat} {pd : Int32} {G : fM} (hb : G (iV 0 i 4) = 0 ∨ G (iV 0 i 4) = 1) : sP_rep i pd G (iV 0 i 4) = 0 ∨ sP_rep i pd G (iV 0 i 4) = 1 := by
  have n1 : iV 0 i 4 ≠ iV 0 i 6 := by unfold iV; omega
  have n2 : iV 0 i 4 ≠ iV 0 i 7 := by unfold iV; omega
  have n3 : iV 0 i 4 ≠ iV 0 i 8 := by unfold iV; omega
  unfold sP_rep
  split
  · unfold sV_u
    split
    · unfold sV_u1; rw [pk_un n1]; exact hb
    · rw [pk_un n3, pk_un n2, pk_un n1, pk_us]; exact Or.inr rfl
  · unfold sV_h
    split
    · unfold sV_h1; rw [pk_un n1]; exact hb
    · rw [pk_un n1, pk_us]; exact Or.inl rfl

set_option maxHeartbeats 4000000 in
set_option maxRecDepth 100000 in
theorem kX5_report (l : Launch) (D : va_G) (K : Nat → ClassId) (NL : List Nat) (ad : Nat → Nat) (G : fM) (x : fX) (hp : 300 ∈ NL) (hz : f_ES NL 0) (hI : f_I 0 G) (i : Nat) (hi : i < cN 0 G) (pd : Int32) (hb : G (iV 0 i 4) = 0 ∨ G (iV 0 i 4) = 1) : Kd l yX5_report wsX5_report { frames := 1, cells := 0, slots := 0, locals := 23 } vwCl D K NL ad [.ref (ad 300), .int (nI i), .int pd] G x (some (.int (sP_rep i pd G (iV 0 i 4)))) (sP_rep i pd G) x := by
  refine Kd.of (cc := cX5_report) (maxL := 4) (ret := (some .boolean)) (L := [some (.ref (ad 300)), some (.int (nI i)), some (.int pd), none]) (by decide +kernel) rfl rfl (Nat.le_of_ble_eq_true rfl) ?_
  intro p e s m args below meth c hC hN hr hk hnme
  have iX3 : ∀ w ∈ wsX30, w ∈ wsX5_report := by decide +kernel
  have iX4 : ∀ w ∈ wsX40, w ∈ wsX5_report := by decide +kernel
  have iX5 : ∀ w ∈ wsX50, w ∈ wsX5_report := by decide +kernel
  have h10 := hI.c10
  refine fk_aload_n hC dX5_report_0 rfl rfl ?_
  refine fk_getP_0 hC hp iX5 (by decide +kernel) dX5_report_1 ?_
  refine fk_iload_n hC dX5_report_4 rfl rfl ?_
  refine fk_callV hC hN (kX4_serverAt l D K NL ad _ x 0 hz (cN 0 G) i hI.c hI.c10 hi) (hz.2 0 (by decide)) (f_e0 _ _ _ _ _ hz.1) rfl (cwV 1 hC.1.2.2.2.2 gX5_report_X4_serverAt rfl rfl rfl (by decide +kernel) ⟨Nat.le_of_ble_eq_true rfl, Nat.le_of_ble_eq_true rfl⟩) rfl rfl (Nat.le_of_ble_eq_true rfl) dX5_report_5 ⟨Nat.zero_le _, Nat.zero_le _⟩ ?_
  refine fk_astore_n hC dX5_report_8 rfl (by decide) rfl ?_
  refine fk_aload_n hC dX5_report_9 rfl rfl ?_
  refine fk_getV_5 hC hz (by omega) iX3 (by decide +kernel) dX5_report_10 ?_
  refine fk_if_eq (tgt := 31) hC dX5_report_13 (by decide) (fun c13 => ?_) (fun c13 => ?_)
  · refine fk_aload_n hC dX5_report_31 rfl rfl ?_
    refine fk_iload_n hC dX5_report_32 rfl rfl ?_
    refine fk_aload_n hC dX5_report_33 rfl rfl ?_
    refine fk_getP_0 hC hp iX5 (by decide +kernel) dX5_report_34 ?_
    refine fk_getS_4 hC hz iX4 (by decide +kernel) dX5_report_37 ?_
    refine fk_aload_n hC dX5_report_40 rfl rfl ?_
    refine fk_getP_0 hC hp iX5 (by decide +kernel) dX5_report_41 ?_
    refine fk_getS_12 hC hz iX4 (by decide +kernel) dX5_report_44 ?_
    refine fk_callV hC hN (kX3_checkWhileUnhealthy l D K NL ad _ x 0 i hz (by omega) _ _ _) (hz.V (by omega)) (f_eV _ _ _ _ _ hz.1 (by omega)) rfl (cwV 3 hC.1.2.2.2.2 gX5_report_X3_checkWhileUnhealthy rfl rfl rfl (by decide +kernel) ⟨Nat.le_of_ble_eq_true rfl, Nat.le_of_ble_eq_true rfl⟩) rfl rfl (Nat.le_of_ble_eq_true rfl) dX5_report_47 ⟨Nat.zero_le _, Nat.zero_le _⟩ ?_
    refine fk_aload_n hC dX5_report_50 rfl rfl ?_
    refine fk_getV_5 hC hz (by omega) iX3 (by decide +kernel) dX5_report_51 ?_
    exact fk_zret hC hr hk dX5_report_54 (f_narB (by have := sP_rep_4 (i := i) (pd := pd) hb; unfold sP_rep at this; rw [if_pos c13] at this; exact this)) (by unfold sP_rep; rw [if_pos c13]) (by unfold sP_rep; rw [if_pos c13]) rfl
  · refine fk_aload_n hC dX5_report_16 rfl rfl ?_
    refine fk_iload_n hC dX5_report_17 rfl rfl ?_
    refine fk_aload_n hC dX5_report_18 rfl rfl ?_
    refine fk_getP_0 hC hp iX5 (by decide +kernel) dX5_report_19 ?_
    refine fk_getS_5 hC hz iX4 (by decide +kernel) dX5_report_22 ?_
    refine fk_callV hC hN (kX3_checkWhileHealthy l D K NL ad _ x 0 i hz (by omega) _ _) (hz.V (by omega)) (f_eV _ _ _ _ _ hz.1 (by omega)) rfl (cwV 2 hC.1.2.2.2.2 gX5_report_X3_checkWhileHealthy rfl rfl rfl (by decide +kernel) ⟨Nat.le_of_ble_eq_true rfl, Nat.le_of_ble_eq_true rfl⟩) rfl rfl (Nat.le_of_ble_eq_true rfl) dX5_report_25 ⟨Nat.zero_le _, Nat.zero_le _⟩ ?_
    refine fk_goto (tgt := 50) hC dX5_report_28 (by decide) ?_
    refine fk_aload_n hC dX5_report_50 rfl rfl ?_
    refine fk_getV_5 hC hz (by omega) iX3 (by decide +kernel) dX5_report_51 ?_
    exact fk_zret hC hr hk dX5_report_54 (f_narB (by have := sP_rep_4 (i := i) (pd := pd) hb; unfold sP_rep at this; rw [if_neg c13] at this; exact this)) (by unfold sP_rep; rw [if_neg c13]) (by unfold sP_rep; rw [if_neg c13]) rfl

set_option maxHeartbeats 4000000 in
set_option maxRecDepth 100000 in
theorem tX5_report (l : Launch) (D : va_G) (K : Nat → ClassId) (NL : List Nat) (ad : Nat → Nat) (G : fM) (x : fX) (hst : l.stackTraces = false) (hp : 300 ∈ NL) (hz : f_ES NL 0) (v : Int32) (pd : Int32) (h : v < 0 ∨ ¬ v < G (iS 0 0)) : Kt l yX5_report wsX5_report { frames := 7, cells := 1, slots := 6, locals := 111 } vwCl D K NL ad [.ref (ad 300), .int v, .int pd] G x xIOB G x := by
  refine Kt.of (cc := cX5_report) (maxL := 4) (ret := (some .boolean)) (L := [some (.ref (ad 300)), some (.int v), some (.int pd), none]) hst (by decide +kernel) rfl rfl (Nat.le_of_ble_eq_true rfl) ?_
  intro p e s m args below meth c hC hX htab hr hk
  have hN := hX.2.1
  have iX5 : ∀ w ∈ wsX50, w ∈ wsX5_report := by decide +kernel
  refine fk_aload_n hC dX5_report_0 rfl rfl ?_
  refine fk_getP_0 hC hp iX5 (by decide +kernel) dX5_report_1 ?_
  refine fk_iload_n hC dX5_report_4 rfl rfl ?_
  exact fk_xcallV hC hX (tX4_serverAt l D K NL ad _ x hst 0 hz _ h) (hz.2 0 (by decide)) (f_e0 _ _ _ _ _ hz.1) rfl (cwV 1 hC.1.2.2.2.2 gX5_report_X4_serverAt rfl rfl rfl (by decide +kernel) ⟨Nat.le_of_ble_eq_true rfl, Nat.le_of_ble_eq_true rfl⟩) rfl rfl (Nat.le_of_ble_eq_true rfl) dX5_report_5 ⟨Nat.le_of_ble_eq_true rfl, Nat.le_of_ble_eq_true rfl⟩ (fun H1 locs1 ls q ce a1 a2 a3 a4 a5 a6 => fk_xout htab hk a1 a2 a4 a5 a6 (Nat.le_of_ble_eq_true rfl) (Nat.le_of_ble_eq_true rfl))

set_option maxHeartbeats 4000000 in
set_option maxRecDepth 100000 in
theorem kX5_servers (l : Launch) (D : va_G) (K : Nat → ClassId) (NL : List Nat) (ad : Nat → Nat) (G : fM) (x : fX) (hp : 300 ∈ NL) (hz : f_ES NL 0) : Kd l yX5_servers wsX5_servers { frames := 0, cells := 0, slots := 0, locals := 0 } vwCl D K NL ad [.ref (ad 300)] G x (some (.int (G (iS 0 0)))) G x := by
  refine Kd.of (cc := cX5_servers) (maxL := 1) (ret := (some .int)) (L := [some (.ref (ad 300))]) (by decide +kernel) rfl rfl (Nat.le_of_ble_eq_true rfl) ?_
  intro p e s m args below meth c hC hN hr hk hnme
  have iX4 : ∀ w ∈ wsX40, w ∈ wsX5_servers := by decide +kernel
  have iX5 : ∀ w ∈ wsX50, w ∈ wsX5_servers := by decide +kernel
  refine fk_aload_n hC dX5_servers_0 rfl rfl ?_
  refine fk_getP_0 hC hp iX5 (by decide +kernel) dX5_servers_1 ?_
  refine fk_getS_3 hC hz iX4 (by decide +kernel) dX5_servers_4 ?_
  exact fk_iret hC hr hk dX5_servers_7 rfl rfl rfl

set_option maxHeartbeats 4000000 in
set_option maxRecDepth 100000 in
theorem kX5_setThresholds (l : Launch) (D : va_G) (K : Nat → ClassId) (NL : List Nat) (ad : Nat → Nat) (G : fM) (x : fX) (hp : 300 ∈ NL) (hz : f_ES NL 0) (a b : Int32) (h1 : rng a 1 9) (h2 : rng b 1 9) : Kd l yX5_setThresholds wsX5_setThresholds { frames := 1, cells := 0, slots := 0, locals := 22 } vwCl D K NL ad [.ref (ad 300), .int a, .int b] G x none (upd (upd G (iS 0 1) a) (iS 0 2) b) x := by
  refine Kd.of (cc := cX5_setThresholds) (maxL := 3) (ret := none) (L := [some (.ref (ad 300)), some (.int a), some (.int b)]) (by decide +kernel) rfl rfl (Nat.le_of_ble_eq_true rfl) ?_
  intro p e s m args below meth c hC hN hr hk hnme
  have iX4 : ∀ w ∈ wsX40, w ∈ wsX5_setThresholds := by decide +kernel
  have iX5 : ∀ w ∈ wsX50, w ∈ wsX5_setThresholds := by decide +kernel
  refine fk_iload_n hC dX5_setThresholds_0 rfl rfl ?_
  refine fk_iconst (v := 1) hC dX5_setThresholds_1 (by decide) ?_
  refine fk_bipush (v := 9) hC dX5_setThresholds_2 (by decide) ?_
  refine fk_callS hC hN (kX5_requireRange l D K NL ad _ x _ _ _ h1) (va_cwS 3 hC.1.2.2.2.2 gX5_setThresholds_X5_requireRange rfl rfl rfl (by decide +kernel) ⟨Nat.le_of_ble_eq_true rfl, Nat.le_of_ble_eq_true rfl⟩) rfl rfl (Nat.le_of_ble_eq_true rfl) dX5_setThresholds_4 ⟨Nat.zero_le _, Nat.zero_le _⟩ ?_
  refine fk_iload_n hC dX5_setThresholds_7 rfl rfl ?_
  refine fk_iconst (v := 1) hC dX5_setThresholds_8 (by decide) ?_
  refine fk_bipush (v := 9) hC dX5_setThresholds_9 (by decide) ?_
  refine fk_callS hC hN (kX5_requireRange l D K NL ad _ x _ _ _ h2) (va_cwS 3 hC.1.2.2.2.2 gX5_setThresholds_X5_requireRange rfl rfl rfl (by decide +kernel) ⟨Nat.le_of_ble_eq_true rfl, Nat.le_of_ble_eq_true rfl⟩) rfl rfl (Nat.le_of_ble_eq_true rfl) dX5_setThresholds_11 ⟨Nat.zero_le _, Nat.zero_le _⟩ ?_
  refine fk_aload_n hC dX5_setThresholds_14 rfl rfl ?_
  refine fk_getP_0 hC hp iX5 (by decide +kernel) dX5_setThresholds_15 ?_
  refine fk_iload_n hC dX5_setThresholds_18 rfl rfl ?_
  refine fk_putS_4 hC hz iX4 (by decide +kernel) dX5_setThresholds_19 ?_
  refine fk_aload_n hC dX5_setThresholds_22 rfl rfl ?_
  refine fk_getP_0 hC hp iX5 (by decide +kernel) dX5_setThresholds_23 ?_
  refine fk_iload_n hC dX5_setThresholds_26 rfl rfl ?_
  refine fk_putS_5 hC hz iX4 (by decide +kernel) dX5_setThresholds_27 ?_
  exact fk_vret hC hr hk dX5_setThresholds_30 rfl rfl rfl

set_option maxHeartbeats 4000000 in
set_option maxRecDepth 100000 in
theorem tX5_setThresholds_1 (l : Launch) (D : va_G) (K : Nat → ClassId) (NL : List Nat) (ad : Nat → Nat) (G : fM) (x : fX) (hst : l.stackTraces = false) (hp : 300 ∈ NL) (hz : f_ES NL 0) (a b : Int32) (h : ¬ rng a 1 9) : Kt l yX5_setThresholds wsX5_setThresholds { frames := 7, cells := 1, slots := 6, locals := 112 } vwCl D K NL ad [.ref (ad 300), .int a, .int b] G x xIAE G x := by
  refine Kt.of (cc := cX5_setThresholds) (maxL := 3) (ret := none) (L := [some (.ref (ad 300)), some (.int a), some (.int b)]) hst (by decide +kernel) rfl rfl (Nat.le_of_ble_eq_true rfl) ?_
  intro p e s m args below meth c hC hX htab hr hk
  have hN := hX.2.1
  refine fk_iload_n hC dX5_setThresholds_0 rfl rfl ?_
  refine fk_iconst (v := 1) hC dX5_setThresholds_1 (by decide) ?_
  refine fk_bipush (v := 9) hC dX5_setThresholds_2 (by decide) ?_
  exact fk_xcallS hC hX (tX5_requireRange l D K NL ad _ x hst _ _ _ h) (va_cwS 3 hC.1.2.2.2.2 gX5_setThresholds_X5_requireRange rfl rfl rfl (by decide +kernel) ⟨Nat.le_of_ble_eq_true rfl, Nat.le_of_ble_eq_true rfl⟩) rfl rfl (Nat.le_of_ble_eq_true rfl) dX5_setThresholds_4 ⟨Nat.le_of_ble_eq_true rfl, Nat.le_of_ble_eq_true rfl⟩ (fun H1 locs1 ls q ce a1 a2 a3 a4 a5 a6 => fk_xout htab hk a1 a2 a4 a5 a6 (Nat.le_of_ble_eq_true rfl) (Nat.le_of_ble_eq_true rfl))

set_option maxHeartbeats 4000000 in
set_option maxRecDepth 100000 in
theorem tX5_setThresholds_2 (l : Launch) (D : va_G) (K : Nat → ClassId) (NL : List Nat) (ad : Nat → Nat) (G : fM) (x : fX) (hst : l.stackTraces = false) (hp : 300 ∈ NL) (hz : f_ES NL 0) (a b : Int32) (h1 : rng a 1 9) (h : ¬ rng b 1 9) : Kt l yX5_setThresholds wsX5_setThresholds { frames := 7, cells := 1, slots := 6, locals := 112 } vwCl D K NL ad [.ref (ad 300), .int a, .int b] G x xIAE G x := by
  refine Kt.of (cc := cX5_setThresholds) (maxL := 3) (ret := none) (L := [some (.ref (ad 300)), some (.int a), some (.int b)]) hst (by decide +kernel) rfl rfl (Nat.le_of_ble_eq_true rfl) ?_
  intro p e s m args below meth c hC hX htab hr hk
  have hN := hX.2.1
  refine fk_iload_n hC dX5_setThresholds_0 rfl rfl ?_
  refine fk_iconst (v := 1) hC dX5_setThresholds_1 (by decide) ?_
  refine fk_bipush (v := 9) hC dX5_setThresholds_2 (by decide) ?_
  refine fk_callS hC hN (kX5_requireRange l D K NL ad _ x _ _ _ h1) (va_cwS 3 hC.1.2.2.2.2 gX5_setThresholds_X5_requireRange rfl rfl rfl (by decide +kernel) ⟨Nat.le_of_ble_eq_true rfl, Nat.le_of_ble_eq_true rfl⟩) rfl rfl (Nat.le_of_ble_eq_true rfl) dX5_setThresholds_4 ⟨Nat.zero_le _, Nat.zero_le _⟩ ?_
  refine fk_iload_n hC dX5_setThresholds_7 rfl rfl ?_
  refine fk_iconst (v := 1) hC dX5_setThresholds_8 (by decide) ?_
  refine fk_bipush (v := 9) hC dX5_setThresholds_9 (by decide) ?_
  exact fk_xcallS hC hX (tX5_requireRange l D K NL ad _ x hst _ _ _ h) (va_cwS 3 hC.1.2.2.2.2 gX5_setThresholds_X5_requireRange rfl rfl rfl (by decide +kernel) ⟨Nat.le_of_ble_eq_true rfl, Nat.le_of_ble_eq_true rfl⟩) rfl rfl (Nat.le_of_ble_eq_true rfl) dX5_setThresholds_11 ⟨Nat.le_of_ble_eq_true rfl, Nat.le_of_ble_eq_true rfl⟩ (fun H1 locs1 ls q ce a1 a2 a3 a4 a5 a6 => fk_xout htab hk a1 a2 a4 a5 a6 (Nat.le_of_ble_eq_true rfl) (Nat.le_of_ble_eq_true rfl))

set_option maxHeartbeats 4000000 in
set_option maxRecDepth 100000 in
theorem kX5_setSlowStart (l : Launch) (D : va_G) (K : Nat → ClassId) (NL : List Nat) (ad : Nat → Nat) (G : fM) (x : fX) (hp : 300 ∈ NL) (hz : f_ES NL 0)  (a : Int32) (h1 : rng a 0 50) : Kd l yX5_setSlowStart wsX5_setSlowStart { frames := 1, cells := 0, slots := 0, locals := 22 } vwCl D K NL ad [.ref (ad 300), .int a] G x (some (.int (G (iS 0 3)))) (upd G (iS 0 3) a) x := by
  refine Kd.of (cc := cX5_setSlowStart) (maxL := 3) (ret := (some .int)) (L := [some (.ref (ad 300)), some (.int a), none]) (by decide +kernel) rfl rfl (Nat.le_of_ble_eq_true rfl) ?_
  intro p e s m args below meth c hC hN hr hk hnme
  have iX4 : ∀ w ∈ wsX40, w ∈ wsX5_setSlowStart := by decide +kernel
  have iX5 : ∀ w ∈ wsX50, w ∈ wsX5_setSlowStart := by decide +kernel
  refine fk_iload_n hC dX5_setSlowStart_0 rfl rfl ?_
  refine fk_iconst (v := 0) hC dX5_setSlowStart_1 (by decide) ?_
  refine fk_bipush (v := 50) hC dX5_setSlowStart_2 (by decide) ?_
  refine fk_callS hC hN (kX5_requireRange l D K NL ad _ x _ _ _ h1) (va_cwS 3 hC.1.2.2.2.2 gX5_setSlowStart_X5_requireRange rfl rfl rfl (by decide +kernel) ⟨Nat.le_of_ble_eq_true rfl, Nat.le_of_ble_eq_true rfl⟩) rfl rfl (Nat.le_of_ble_eq_true rfl) dX5_setSlowStart_4 ⟨Nat.zero_le _, Nat.zero_le _⟩ ?_
  refine fk_aload_n hC dX5_setSlowStart_7 rfl rfl ?_
  refine fk_getP_0 hC hp iX5 (by decide +kernel) dX5_setSlowStart_8 ?_
  refine fk_getS_6 hC hz iX4 (by decide +kernel) dX5_setSlowStart_11 ?_
  refine fk_istore_n hC dX5_setSlowStart_14 rfl (by decide) rfl ?_
  refine fk_aload_n hC dX5_setSlowStart_15 rfl rfl ?_
  refine fk_getP_0 hC hp iX5 (by decide +kernel) dX5_setSlowStart_16 ?_
  refine fk_iload_n hC dX5_setSlowStart_19 rfl rfl ?_
  refine fk_putS_6 hC hz iX4 (by decide +kernel) dX5_setSlowStart_20 ?_
  refine fk_iload_n hC dX5_setSlowStart_23 rfl rfl ?_
  exact fk_iret hC hr hk dX5_setSlowStart_24 rfl rfl rfl

set_option maxHeartbeats 4000000 in
set_option maxRecDepth 100000 in
theorem tX5_setSlowStart (l : Launch) (D : va_G) (K : Nat → ClassId) (NL : List Nat) (ad : Nat → Nat) (G : fM) (x : fX) (hst : l.stackTraces = false) (hp : 300 ∈ NL) (hz : f_ES NL 0) (a : Int32) (h : ¬ rng a 0 50) : Kt l yX5_setSlowStart wsX5_setSlowStart { frames := 7, cells := 1, slots := 6, locals := 112 } vwCl D K NL ad [.ref (ad 300), .int a] G x xIAE G x := by
  refine Kt.of (cc := cX5_setSlowStart) (maxL := 3) (ret := (some .int)) (L := [some (.ref (ad 300)), some (.int a), none]) hst (by decide +kernel) rfl rfl (Nat.le_of_ble_eq_true rfl) ?_
  intro p e s m args below meth c hC hX htab hr hk
  have hN := hX.2.1
  refine fk_iload_n hC dX5_setSlowStart_0 rfl rfl ?_
  refine fk_iconst (v := 0) hC dX5_setSlowStart_1 (by decide) ?_
  refine fk_bipush (v := 50) hC dX5_setSlowStart_2 (by decide) ?_
  exact fk_xcallS hC hX (tX5_requireRange l D K NL ad _ x hst _ _ _ h) (va_cwS 3 hC.1.2.2.2.2 gX5_setSlowStart_X5_requireRange rfl rfl rfl (by decide +kernel) ⟨Nat.le_of_ble_eq_true rfl, Nat.le_of_ble_eq_true rfl⟩) rfl rfl (Nat.le_of_ble_eq_true rfl) dX5_setSlowStart_4 ⟨Nat.le_of_ble_eq_true rfl, Nat.le_of_ble_eq_true rfl⟩ (fun H1 locs1 ls q ce a1 a2 a3 a4 a5 a6 => fk_xout htab hk a1 a2 a4 a5 a6 (Nat.le_of_ble_eq_true rfl) (Nat.le_of_ble_eq_true rfl))

set_option maxHeartbeats 4000000 in
set_option maxRecDepth 100000 in
theorem kX5_setCool (l : Launch) (D : va_G) (K : Nat → ClassId) (NL : List Nat) (ad : Nat → Nat) (G : fM) (x : fX) (hp : 300 ∈ NL) (hz : f_ES NL 0)  (a : Int32) (h1 : rng a 1 50) : Kd l yX5_setCool wsX5_setCool { frames := 1, cells := 0, slots := 0, locals := 22 } vwCl D K NL ad [.ref (ad 300), .int a] G x (some (.int (G (iS 0 4)))) (upd G (iS 0 4) a) x := by
  refine Kd.of (cc := cX5_setCool) (maxL := 3) (ret := (some .int)) (L := [some (.ref (ad 300)), some (.int a), none]) (by decide +kernel) rfl rfl (Nat.le_of_ble_eq_true rfl) ?_
  intro p e s m args below meth c hC hN hr hk hnme
  have iX4 : ∀ w ∈ wsX40, w ∈ wsX5_setCool := by decide +kernel
  have iX5 : ∀ w ∈ wsX50, w ∈ wsX5_setCool := by decide +kernel
  refine fk_iload_n hC dX5_setCool_0 rfl rfl ?_
  refine fk_iconst (v := 1) hC dX5_setCool_1 (by decide) ?_
  refine fk_bipush (v := 50) hC dX5_setCool_2 (by decide) ?_
  refine fk_callS hC hN (kX5_requireRange l D K NL ad _ x _ _ _ h1) (va_cwS 3 hC.1.2.2.2.2 gX5_setCool_X5_requireRange rfl rfl rfl (by decide +kernel) ⟨Nat.le_of_ble_eq_true rfl, Nat.le_of_ble_eq_true rfl⟩) rfl rfl (Nat.le_of_ble_eq_true rfl) dX5_setCool_4 ⟨Nat.zero_le _, Nat.zero_le _⟩ ?_
  refine fk_aload_n hC dX5_setCool_7 rfl rfl ?_
  refine fk_getP_0 hC hp iX5 (by decide +kernel) dX5_setCool_8 ?_
  refine fk_getS_7 hC hz iX4 (by decide +kernel) dX5_setCool_11 ?_
  refine fk_istore_n hC dX5_setCool_14 rfl (by decide) rfl ?_
  refine fk_aload_n hC dX5_setCool_15 rfl rfl ?_
  refine fk_getP_0 hC hp iX5 (by decide +kernel) dX5_setCool_16 ?_
  refine fk_iload_n hC dX5_setCool_19 rfl rfl ?_
  refine fk_putS_7 hC hz iX4 (by decide +kernel) dX5_setCool_20 ?_
  refine fk_iload_n hC dX5_setCool_23 rfl rfl ?_
  exact fk_iret hC hr hk dX5_setCool_24 rfl rfl rfl

set_option maxHeartbeats 4000000 in
set_option maxRecDepth 100000 in
theorem tX5_setCool (l : Launch) (D : va_G) (K : Nat → ClassId) (NL : List Nat) (ad : Nat → Nat) (G : fM) (x : fX) (hst : l.stackTraces = false) (hp : 300 ∈ NL) (hz : f_ES NL 0) (a : Int32) (h : ¬ rng a 1 50) : Kt l yX5_setCool wsX5_setCool { frames := 7, cells := 1, slots := 6, locals := 112 } vwCl D K NL ad [.ref (ad 300), .int a] G x xIAE G x := by
  refine Kt.of (cc := cX5_setCool) (maxL := 3) (ret := (some .int)) (L := [some (.ref (ad 300)), some (.int a), none]) hst (by decide +kernel) rfl rfl (Nat.le_of_ble_eq_true rfl) ?_
  intro p e s m args below meth c hC hX htab hr hk
  have hN := hX.2.1
  refine fk_iload_n hC dX5_setCool_0 rfl rfl ?_
  refine fk_iconst (v := 1) hC dX5_setCool_1 (by decide) ?_
  refine fk_bipush (v := 50) hC dX5_setCool_2 (by decide) ?_
  exact fk_xcallS hC hX (tX5_requireRange l D K NL ad _ x hst _ _ _ h) (va_cwS 3 hC.1.2.2.2.2 gX5_setCool_X5_requireRange rfl rfl rfl (by decide +kernel) ⟨Nat.le_of_ble_eq_true rfl, Nat.le_of_ble_eq_true rfl⟩) rfl rfl (Nat.le_of_ble_eq_true rfl) dX5_setCool_4 ⟨Nat.le_of_ble_eq_true rfl, Nat.le_of_ble_eq_true rfl⟩ (fun H1 locs1 ls q ce a1 a2 a3 a4 a5 a6 => fk_xout htab hk a1 a2 a4 a5 a6 (Nat.le_of_ble_eq_true rfl) (Nat.le_of_ble_eq_true rfl))

def sP_stk (a : Int32) (G : fM) : fM := if a = 0 then upd (upd G (iS 0 5) a) (iS 0 21) 0 else upd G (iS 0 5) a
set_option maxHeartbeats 4000000 in
set_option maxRecDepth 100000 in
theorem kX5_setSticky (l : Launch) (D : va_G) (K : Nat → ClassId) (NL : List Nat) (ad : Nat → Nat) (G : fM) (x : fX) (hp : 300 ∈ NL) (hz : f_ES NL 0)  (a : Int32) (h1 : rng a 0 100) : Kd l yX5_setSticky wsX5_setSticky { frames := 1, cells := 0, slots := 0, locals := 22 } vwCl D K NL ad [.ref (ad 300), .int a] G x (some (.int (G (iS 0 5)))) (sP_stk a G) x := by
  refine Kd.of (cc := cX5_setSticky) (maxL := 3) (ret := (some .int)) (L := [some (.ref (ad 300)), some (.int a), none]) (by decide +kernel) rfl rfl (Nat.le_of_ble_eq_true rfl) ?_
  intro p e s m args below meth c hC hN hr hk hnme
  have iX4 : ∀ w ∈ wsX40, w ∈ wsX5_setSticky := by decide +kernel
  have iX5 : ∀ w ∈ wsX50, w ∈ wsX5_setSticky := by decide +kernel
  refine fk_iload_n hC dX5_setSticky_0 rfl rfl ?_
  refine fk_iconst (v := 0) hC dX5_setSticky_1 (by decide) ?_
  refine fk_bipush (v := 100) hC dX5_setSticky_2 (by decide) ?_
  refine fk_callS hC hN (kX5_requireRange l D K NL ad _ x _ _ _ h1) (va_cwS 3 hC.1.2.2.2.2 gX5_setSticky_X5_requireRange rfl rfl rfl (by decide +kernel) ⟨Nat.le_of_ble_eq_true rfl, Nat.le_of_ble_eq_true rfl⟩) rfl rfl (Nat.le_of_ble_eq_true rfl) dX5_setSticky_4 ⟨Nat.zero_le _, Nat.zero_le _⟩ ?_
  refine fk_aload_n hC dX5_setSticky_7 rfl rfl ?_
  refine fk_getP_0 hC hp iX5 (by decide +kernel) dX5_setSticky_8 ?_
  refine fk_getS_8 hC hz iX4 (by decide +kernel) dX5_setSticky_11 ?_
  refine fk_istore_n hC dX5_setSticky_14 rfl (by decide) rfl ?_
  refine fk_aload_n hC dX5_setSticky_15 rfl rfl ?_
  refine fk_getP_0 hC hp iX5 (by decide +kernel) dX5_setSticky_16 ?_
  refine fk_iload_n hC dX5_setSticky_19 rfl rfl ?_
  refine fk_putS_8 hC hz iX4 (by decide +kernel) dX5_setSticky_20 ?_
  refine fk_iload_n hC dX5_setSticky_23 rfl rfl ?_
  refine fk_if_ne (tgt := 37) hC dX5_setSticky_24 (by decide) (fun c24 => ?_) (fun c24 => ?_)
  · refine fk_iload_n hC dX5_setSticky_37 rfl rfl ?_
    exact fk_iret hC hr hk dX5_setSticky_38 rfl (by unfold sP_stk; rw [if_neg c24]) rfl
  · refine fk_aload_n hC dX5_setSticky_27 rfl rfl ?_
    refine fk_getP_0 hC hp iX5 (by decide +kernel) dX5_setSticky_28 ?_
    refine fk_getS_2 hC hz iX4 (by decide +kernel) dX5_setSticky_31 ?_
    refine fk_callV hC hN (kX1_forgetAll l D K NL ad _ x 0 hz) (hz.2 6 (by decide)) (f_e6 _ _ _ _ _ hz.1) rfl (cwV 0 hC.1.2.2.2.2 gX5_setSticky_X1_forgetAll rfl rfl rfl (by decide +kernel) ⟨Nat.le_of_ble_eq_true rfl, Nat.le_of_ble_eq_true rfl⟩) rfl rfl (Nat.le_of_ble_eq_true rfl) dX5_setSticky_34 ⟨Nat.zero_le _, Nat.zero_le _⟩ ?_
    refine fk_iload_n hC dX5_setSticky_37 rfl rfl ?_
    exact fk_iret hC hr hk dX5_setSticky_38 rfl (by unfold sP_stk; rw [if_pos c24]) rfl

set_option maxHeartbeats 4000000 in
set_option maxRecDepth 100000 in
theorem tX5_setSticky (l : Launch) (D : va_G) (K : Nat → ClassId) (NL : List Nat) (ad : Nat → Nat) (G : fM) (x : fX) (hst : l.stackTraces = false) (hp : 300 ∈ NL) (hz : f_ES NL 0) (a : Int32) (h : ¬ rng a 0 100) : Kt l yX5_setSticky wsX5_setSticky { frames := 7, cells := 1, slots := 6, locals := 112 } vwCl D K NL ad [.ref (ad 300), .int a] G x xIAE G x := by
  refine Kt.of (cc := cX5_setSticky) (maxL := 3) (ret := (some .int)) (L := [some (.ref (ad 300)), some (.int a), none]) hst (by decide +kernel) rfl rfl (Nat.le_of_ble_eq_true rfl) ?_
  intro p e s m args below meth c hC hX htab hr hk
  have hN := hX.2.1
  refine fk_iload_n hC dX5_setSticky_0 rfl rfl ?_
  refine fk_iconst (v := 0) hC dX5_setSticky_1 (by decide) ?_
  refine fk_bipush (v := 100) hC dX5_setSticky_2 (by decide) ?_
  exact fk_xcallS hC hX (tX5_requireRange l D K NL ad _ x hst _ _ _ h) (va_cwS 3 hC.1.2.2.2.2 gX5_setSticky_X5_requireRange rfl rfl rfl (by decide +kernel) ⟨Nat.le_of_ble_eq_true rfl, Nat.le_of_ble_eq_true rfl⟩) rfl rfl (Nat.le_of_ble_eq_true rfl) dX5_setSticky_4 ⟨Nat.le_of_ble_eq_true rfl, Nat.le_of_ble_eq_true rfl⟩ (fun H1 locs1 ls q ce a1 a2 a3 a4 a5 a6 => fk_xout htab hk a1 a2 a4 a5 a6 (Nat.le_of_ble_eq_true rfl) (Nat.le_of_ble_eq_true rfl))

theorem f_I.upS {z k : Nat} {G : fM} {v : Int32} (h : f_I z G) (hk : k < 100) (h0 : k ≠ 0) (h7 : k ≠ 7) (h20 : k ≠ 20) (h21 : k ≠ 21) : f_I z (upd G (iS z k) v) := by
  have e : ∀ g, g ≠ iS z k → upd G (iS z k) v g = G g := fun g hg => pk_un hg
  have e0 := e (iS z 0) (by unfold iS; omega)
  have e7 := e (iS z 7) (by unfold iS; omega)
  have e20 := e (iS z 20) (by unfold iS; omega)
  have e21 := e (iS z 21) (by unfold iS; omega)
  have eV : ∀ i, upd G (iS z k) v (iV z i 0) = G (iV z i 0) := fun i => e _ (by unfold iS iV; omega)
  have eK : ∀ j, upd G (iS z k) v (iA z 450 j) = G (iA z 450 j) := fun j => e _ (by unfold iS iA; omega)
  have eC : ∀ j, upd G (iS z k) v (iA z 1000 j) = G (iA z 1000 j) := fun j => e _ (by unfold iS iA; omega)
  unfold f_I cN nN oN wN kN svN coN at h ⊢
  simp only [e0, e7, e20, e21, eV, eK, eC]
  exact h

def sP_pol (a : Int32) (G : fM) : fM := sS_forget 0 (upd G (iS 0 6) a)
set_option maxHeartbeats 4000000 in
set_option maxRecDepth 100000 in
theorem kX5_setPolicy (l : Launch) (D : va_G) (K : Nat → ClassId) (NL : List Nat) (ad : Nat → Nat) (G : fM) (x : fX) (hp : 300 ∈ NL) (hz : f_ES NL 0) (hI : f_I 0 G) (a : Int32) (h1 : rng a 0 4) : Kd l yX5_setPolicy wsX5_setPolicy { frames := 1, cells := 0, slots := 0, locals := 22 } vwCl D K NL ad [.ref (ad 300), .int a] G x (some (.int (G (iS 0 6)))) (sP_pol a G) x := by
  refine Kd.of (cc := cX5_setPolicy) (maxL := 3) (ret := (some .int)) (L := [some (.ref (ad 300)), some (.int a), none]) (by decide +kernel) rfl rfl (Nat.le_of_ble_eq_true rfl) ?_
  intro p e s m args below meth c hC hN hr hk hnme
  have iX4 : ∀ w ∈ wsX40, w ∈ wsX5_setPolicy := by decide +kernel
  have iX5 : ∀ w ∈ wsX50, w ∈ wsX5_setPolicy := by decide +kernel
  refine fk_iload_n hC dX5_setPolicy_0 rfl rfl ?_
  refine fk_iconst (v := 0) hC dX5_setPolicy_1 (by decide) ?_
  refine fk_iconst (v := 4) hC dX5_setPolicy_2 (by decide) ?_
  refine fk_callS hC hN (kX5_requireRange l D K NL ad _ x _ _ _ h1) (va_cwS 3 hC.1.2.2.2.2 gX5_setPolicy_X5_requireRange rfl rfl rfl (by decide +kernel) ⟨Nat.le_of_ble_eq_true rfl, Nat.le_of_ble_eq_true rfl⟩) rfl rfl (Nat.le_of_ble_eq_true rfl) dX5_setPolicy_3 ⟨Nat.zero_le _, Nat.zero_le _⟩ ?_
  refine fk_aload_n hC dX5_setPolicy_6 rfl rfl ?_
  refine fk_getP_0 hC hp iX5 (by decide +kernel) dX5_setPolicy_7 ?_
  refine fk_getS_9 hC hz iX4 (by decide +kernel) dX5_setPolicy_10 ?_
  refine fk_istore_n hC dX5_setPolicy_13 rfl (by decide) rfl ?_
  refine fk_aload_n hC dX5_setPolicy_14 rfl rfl ?_
  refine fk_getP_0 hC hp iX5 (by decide +kernel) dX5_setPolicy_15 ?_
  refine fk_iload_n hC dX5_setPolicy_18 rfl rfl ?_
  refine fk_putS_9 hC hz iX4 (by decide +kernel) dX5_setPolicy_19 ?_
  refine fk_aload_n hC dX5_setPolicy_22 rfl rfl ?_
  refine fk_getP_0 hC hp iX5 (by decide +kernel) dX5_setPolicy_23 ?_
  refine fk_callV hC hN (kX4_forgetSelections l D K NL ad _ x 0 hz (hI.upS (by decide) (by decide) (by decide) (by decide) (by decide))) (hz.2 0 (by decide)) (f_e0 _ _ _ _ _ hz.1) rfl (cwV 0 hC.1.2.2.2.2 gX5_setPolicy_X4_forgetSelections rfl rfl rfl (by decide +kernel) ⟨Nat.le_of_ble_eq_true rfl, Nat.le_of_ble_eq_true rfl⟩) rfl rfl (Nat.le_of_ble_eq_true rfl) dX5_setPolicy_26 ⟨Nat.zero_le _, Nat.zero_le _⟩ ?_
  refine fk_iload_n hC dX5_setPolicy_29 rfl rfl ?_
  exact fk_iret hC hr hk dX5_setPolicy_30 rfl rfl rfl

set_option maxHeartbeats 4000000 in
set_option maxRecDepth 100000 in
theorem tX5_setPolicy (l : Launch) (D : va_G) (K : Nat → ClassId) (NL : List Nat) (ad : Nat → Nat) (G : fM) (x : fX) (hst : l.stackTraces = false) (hp : 300 ∈ NL) (hz : f_ES NL 0) (a : Int32) (h : ¬ rng a 0 4) : Kt l yX5_setPolicy wsX5_setPolicy { frames := 7, cells := 1, slots := 6, locals := 112 } vwCl D K NL ad [.ref (ad 300), .int a] G x xIAE G x := by
  refine Kt.of (cc := cX5_setPolicy) (maxL := 3) (ret := (some .int)) (L := [some (.ref (ad 300)), some (.int a), none]) hst (by decide +kernel) rfl rfl (Nat.le_of_ble_eq_true rfl) ?_
  intro p e s m args below meth c hC hX htab hr hk
  have hN := hX.2.1
  refine fk_iload_n hC dX5_setPolicy_0 rfl rfl ?_
  refine fk_iconst (v := 0) hC dX5_setPolicy_1 (by decide) ?_
  refine fk_iconst (v := 4) hC dX5_setPolicy_2 (by decide) ?_
  exact fk_xcallS hC hX (tX5_requireRange l D K NL ad _ x hst _ _ _ h) (va_cwS 3 hC.1.2.2.2.2 gX5_setPolicy_X5_requireRange rfl rfl rfl (by decide +kernel) ⟨Nat.le_of_ble_eq_true rfl, Nat.le_of_ble_eq_true rfl⟩) rfl rfl (Nat.le_of_ble_eq_true rfl) dX5_setPolicy_3 ⟨Nat.le_of_ble_eq_true rfl, Nat.le_of_ble_eq_true rfl⟩ (fun H1 locs1 ls q ce a1 a2 a3 a4 a5 a6 => fk_xout htab hk a1 a2 a4 a5 a6 (Nat.le_of_ble_eq_true rfl) (Nat.le_of_ble_eq_true rfl))

set_option maxHeartbeats 4000000 in
set_option maxRecDepth 100000 in
theorem kX5_setSeed (l : Launch) (D : va_G) (K : Nat → ClassId) (NL : List Nat) (ad : Nat → Nat) (G : fM) (x : fX) (hp : 300 ∈ NL) (hz : f_ES NL 0) (a : Int32) : Kd l yX5_setSeed wsX5_setSeed { frames := 0, cells := 0, slots := 0, locals := 0 } vwCl D K NL ad [.ref (ad 300), .int a] G x (some (.int (G (iS 0 8)))) (upd G (iS 0 8) a) x := by
  refine Kd.of (cc := cX5_setSeed) (maxL := 3) (ret := (some .int)) (L := [some (.ref (ad 300)), some (.int a), none]) (by decide +kernel) rfl rfl (Nat.le_of_ble_eq_true rfl) ?_
  intro p e s m args below meth c hC hN hr hk hnme
  have iX4 : ∀ w ∈ wsX40, w ∈ wsX5_setSeed := by decide +kernel
  have iX5 : ∀ w ∈ wsX50, w ∈ wsX5_setSeed := by decide +kernel
  refine fk_aload_n hC dX5_setSeed_0 rfl rfl ?_
  refine fk_getP_0 hC hp iX5 (by decide +kernel) dX5_setSeed_1 ?_
  refine fk_getS_11 hC hz iX4 (by decide +kernel) dX5_setSeed_4 ?_
  refine fk_istore_n hC dX5_setSeed_7 rfl (by decide) rfl ?_
  refine fk_aload_n hC dX5_setSeed_8 rfl rfl ?_
  refine fk_getP_0 hC hp iX5 (by decide +kernel) dX5_setSeed_9 ?_
  refine fk_iload_n hC dX5_setSeed_12 rfl rfl ?_
  refine fk_putS_11 hC hz iX4 (by decide +kernel) dX5_setSeed_13 ?_
  refine fk_iload_n hC dX5_setSeed_16 rfl rfl ?_
  exact fk_iret hC hr hk dX5_setSeed_17 rfl rfl rfl

def sP_tick (a : Int32) (G : fM) : fM := sS_cool 0 (upd G (iS 0 9) (G (iS 0 9) + a))
set_option maxHeartbeats 4000000 in
set_option maxRecDepth 100000 in
theorem kX5_tick (l : Launch) (D : va_G) (K : Nat → ClassId) (NL : List Nat) (ad : Nat → Nat) (G : fM) (x : fX) (hp : 300 ∈ NL) (hz : f_ES NL 0) (hI : f_I 0 G) (a : Int32) (h1 : rng a 1 200) : Kd l yX5_tick wsX5_tick { frames := 2, cells := 0, slots := 0, locals := 43 } vwCl D K NL ad [.ref (ad 300), .int a] G x (some (.int (sP_tick a G (iS 0 9)))) (sP_tick a G) x := by
  refine Kd.of (cc := cX5_tick) (maxL := 2) (ret := (some .int)) (L := [some (.ref (ad 300)), some (.int a)]) (by decide +kernel) rfl rfl (Nat.le_of_ble_eq_true rfl) ?_
  intro p e s m args below meth c hC hN hr hk hnme
  have iX4 : ∀ w ∈ wsX40, w ∈ wsX5_tick := by decide +kernel
  have iX5 : ∀ w ∈ wsX50, w ∈ wsX5_tick := by decide +kernel
  refine fk_iload_n hC dX5_tick_0 rfl rfl ?_
  refine fk_iconst (v := 1) hC dX5_tick_1 (by decide) ?_
  refine fk_sipush (v := 200) hC dX5_tick_2 (by decide) ?_
  refine fk_callS hC hN (kX5_requireRange l D K NL ad _ x _ _ _ h1) (va_cwS 3 hC.1.2.2.2.2 gX5_tick_X5_requireRange rfl rfl rfl (by decide +kernel) ⟨Nat.le_of_ble_eq_true rfl, Nat.le_of_ble_eq_true rfl⟩) rfl rfl (Nat.le_of_ble_eq_true rfl) dX5_tick_5 ⟨Nat.zero_le _, Nat.zero_le _⟩ ?_
  refine fk_aload_n hC dX5_tick_8 rfl rfl ?_
  refine fk_getP_0 hC hp iX5 (by decide +kernel) dX5_tick_9 ?_
  refine fk_dup hC dX5_tick_12 rfl ?_
  refine fk_getS_12 hC hz iX4 (by decide +kernel) dX5_tick_13 ?_
  refine fk_iload_n hC dX5_tick_16 rfl rfl ?_
  refine fk_iadd hC dX5_tick_17 ?_
  refine fk_putS_12 hC hz iX4 (by decide +kernel) dX5_tick_18 ?_
  refine fk_aload_n hC dX5_tick_21 rfl rfl ?_
  refine fk_getP_0 hC hp iX5 (by decide +kernel) dX5_tick_22 ?_
  refine fk_callV hC hN (kX4_coolBreakers l D K NL ad _ x 0 hz (hI.upS (by decide) (by decide) (by decide) (by decide) (by decide))) (hz.2 0 (by decide)) (f_e0 _ _ _ _ _ hz.1) rfl (cwV 0 hC.1.2.2.2.2 gX5_tick_X4_coolBreakers rfl rfl rfl (by decide +kernel) ⟨Nat.le_of_ble_eq_true rfl, Nat.le_of_ble_eq_true rfl⟩) rfl rfl (Nat.le_of_ble_eq_true rfl) dX5_tick_25 ⟨Nat.zero_le _, Nat.zero_le _⟩ ?_
  refine fk_aload_n hC dX5_tick_28 rfl rfl ?_
  refine fk_getP_0 hC hp iX5 (by decide +kernel) dX5_tick_29 ?_
  refine fk_getS_12 hC hz iX4 (by decide +kernel) dX5_tick_32 ?_
  exact fk_iret hC hr hk dX5_tick_35 rfl rfl rfl

set_option maxHeartbeats 4000000 in
set_option maxRecDepth 100000 in
theorem tX5_tick (l : Launch) (D : va_G) (K : Nat → ClassId) (NL : List Nat) (ad : Nat → Nat) (G : fM) (x : fX) (hst : l.stackTraces = false) (hp : 300 ∈ NL) (hz : f_ES NL 0) (a : Int32) (h : ¬ rng a 1 200) : Kt l yX5_tick wsX5_tick { frames := 7, cells := 1, slots := 6, locals := 112 } vwCl D K NL ad [.ref (ad 300), .int a] G x xIAE G x := by
  refine Kt.of (cc := cX5_tick) (maxL := 2) (ret := (some .int)) (L := [some (.ref (ad 300)), some (.int a)]) hst (by decide +kernel) rfl rfl (Nat.le_of_ble_eq_true rfl) ?_
  intro p e s m args below meth c hC hX htab hr hk
  have hN := hX.2.1
  refine fk_iload_n hC dX5_tick_0 rfl rfl ?_
  refine fk_iconst (v := 1) hC dX5_tick_1 (by decide) ?_
  refine fk_sipush (v := 200) hC dX5_tick_2 (by decide) ?_
  exact fk_xcallS hC hX (tX5_requireRange l D K NL ad _ x hst _ _ _ h) (va_cwS 3 hC.1.2.2.2.2 gX5_tick_X5_requireRange rfl rfl rfl (by decide +kernel) ⟨Nat.le_of_ble_eq_true rfl, Nat.le_of_ble_eq_true rfl⟩) rfl rfl (Nat.le_of_ble_eq_true rfl) dX5_tick_5 ⟨Nat.le_of_ble_eq_true rfl, Nat.le_of_ble_eq_true rfl⟩ (fun H1 locs1 ls q ce a1 a2 a3 a4 a5 a6 => fk_xout htab hk a1 a2 a4 a5 a6 (Nat.le_of_ble_eq_true rfl) (Nat.le_of_ble_eq_true rfl))

set_option maxHeartbeats 4000000 in
set_option maxRecDepth 100000 in
theorem kX5_preview (l : Launch) (D : va_G) (K : Nat → ClassId) (NL : List Nat) (ad : Nat → Nat) (G : fM) (x : fX) (hp : 300 ∈ NL) (hz : f_ES NL 0) (hI : f_I 0 G) (a : Int32) : Kd l yX5_preview wsX5_preview { frames := 6, cells := 0, slots := 0, locals := 131 } vwCl D K NL ad [.ref (ad 300), .int a] G x (some (.int (rI (sS_for 0 a G)))) G x := by
  refine Kd.of (cc := cX5_preview) (maxL := 2) (ret := (some .int)) (L := [some (.ref (ad 300)), some (.int a)]) (by decide +kernel) rfl rfl (Nat.le_of_ble_eq_true rfl) ?_
  intro p e s m args below meth c hC hN hr hk hnme
  have iX5 : ∀ w ∈ wsX50, w ∈ wsX5_preview := by decide +kernel
  refine fk_aload_n hC dX5_preview_0 rfl rfl ?_
  refine fk_getP_0 hC hp iX5 (by decide +kernel) dX5_preview_1 ?_
  refine fk_iload_n hC dX5_preview_4 rfl rfl ?_
  refine fk_callV hC hN (kX4_serverFor l D K NL ad _ x 0 hz hI _) (hz.2 0 (by decide)) (f_e0 _ _ _ _ _ hz.1) rfl (cwV 1 hC.1.2.2.2.2 gX5_preview_X4_serverFor rfl rfl rfl (by decide +kernel) ⟨Nat.le_of_ble_eq_true rfl, Nat.le_of_ble_eq_true rfl⟩) rfl rfl (Nat.le_of_ble_eq_true rfl) dX5_preview_5 ⟨Nat.zero_le _, Nat.zero_le _⟩ ?_
  exact fk_iret hC hr hk dX5_preview_8 rfl rfl rfl

