/-! the reference -/
def inV (v lo hi : Int32) : Int32 := if v < lo then 0 else if hi < v then 0 else 1
theorem inV_t {v lo hi : Int32} (h : rng v lo hi) : inV v lo hi = 1 := by
  unfold inV
  rw [if_neg h.1, if_neg (Int32.not_lt.mpr h.2)]
theorem inV_f {v lo hi : Int32} (h : ¬ rng v lo hi) : inV v lo hi = 0 := by
  unfold inV
  split
  · rfl
  · rename_i h1
    rw [if_pos]
    exact Int32.not_le.mp (fun q => h ⟨h1, q⟩)
theorem f_pred {c : Nat} (h : 0 < c) : nI c - 1 = nI (c - 1) := by
  obtain ⟨k, rfl⟩ : ∃ k, c = k + 1 := ⟨c - 1, by omega⟩
  rw [nI_pred, Nat.add_sub_cancel]
theorem rng_i {i c : Nat} (hc : c < 2 ^ 30) (h : i < c) : rng (nI i) 0 (nI c - 1) := by
  rw [f_pred (by omega)]
  exact ⟨nI_pos (by omega), nI_le (by omega) (by omega)⟩
theorem rng_no {v : Int32} {c : Nat} (hc : c < 2 ^ 30) (h : v < 0 ∨ ¬ v < nI c) : ¬ rng v 0 (nI c - 1) := by
  rintro ⟨h1, h2⟩
  rcases h with h | h
  · exact h1 h
  · obtain ⟨j, hj, rfl⟩ := nI_of h1
    have h3 := f_nlt (by omega) (by omega) h
    by_cases h0 : c = 0
    · subst h0
      have e : nI 0 - 1 = -1 := by decide
      rw [e] at h2
      have h4 : (0 : Int32) ≤ nI j := nI_pos' (by omega)
      have h5 : (0 : Int32) ≤ -1 := Int32.le_trans h4 h2
      exact absurd h5 (by decide)
    · rw [f_pred (by omega)] at h2
      have h4 := f_le (by omega) (by omega) h2
      omega

set_option maxHeartbeats 4000000 in
set_option maxRecDepth 100000 in
theorem kX6_in (l : Launch) (D : va_G) (K : Nat → ClassId) (NL : List Nat) (ad : Nat → Nat) (G : fM) (x : fX) (v lo hi : Int32) : Kd l yX6_in wsX6_in { frames := 0, cells := 0, slots := 0, locals := 0 } vwCl D K NL ad [.int v, .int lo, .int hi] G x (some (.int (inV v lo hi))) G x := by
  refine Kd.of (cc := cX6_in) (maxL := 3) (ret := (some .boolean)) (L := [some (.int v), some (.int lo), some (.int hi)]) (by decide +kernel) rfl rfl (Nat.le_of_ble_eq_true rfl) ?_
  intro p e s m args below meth c hC hN hr hk hnme
  refine fk_iload_n hC dX6_in_0 rfl rfl ?_
  refine fk_iload_n hC dX6_in_1 rfl rfl ?_
  refine fk_icmp_lt (tgt := 14) hC dX6_in_2 (by decide) (fun c2 => ?_) (fun c2 => ?_)
  · refine fk_iconst (v := 0) hC dX6_in_14 (by decide) ?_
    exact fk_zret hC hr hk dX6_in_15 rfl (by unfold inV; rw [if_pos c2]) rfl rfl
  · refine fk_iload_n hC dX6_in_5 rfl rfl ?_
    refine fk_iload_n hC dX6_in_6 rfl rfl ?_
    refine fk_icmp_gt (tgt := 14) hC dX6_in_7 (by decide) (fun c7 => ?_) (fun c7 => ?_)
    · refine fk_iconst (v := 0) hC dX6_in_14 (by decide) ?_
      exact fk_zret hC hr hk dX6_in_15 rfl (by unfold inV; rw [if_neg c2, if_pos c7]) rfl rfl
    · refine fk_iconst (v := 1) hC dX6_in_10 (by decide) ?_
      refine fk_goto (tgt := 15) hC dX6_in_11 (by decide) ?_
      exact fk_zret hC hr hk dX6_in_15 rfl (by unfold inV; rw [if_neg c2, if_neg c7]) rfl rfl

set_option maxHeartbeats 4000000 in
set_option maxRecDepth 100000 in
theorem kX6_thrown (l : Launch) (D : va_G) (K : Nat → ClassId) (NL : List Nat) (ad : Nat → Nat) (G : fM) (x : fX) (hm : f_EM NL) : Kd l yX6_thrown wsX6_thrown { frames := 0, cells := 0, slots := 0, locals := 0 } vwCl D K NL ad [.ref (ad 310)] G x (some (.int (G (iT 0)))) G x := by
  refine Kd.of (cc := cX6_thrown) (maxL := 1) (ret := (some .int)) (L := [some (.ref (ad 310))]) (by decide +kernel) rfl rfl (Nat.le_of_ble_eq_true rfl) ?_
  intro p e s m args below meth c hC hN hr hk hnme
  have iX6 : ∀ w ∈ wsX60, w ∈ wsX6_thrown := by decide +kernel
  refine fk_aload_n hC dX6_thrown_0 rfl rfl ?_
  refine fk_getM_3 hC hm iX6 (by decide +kernel) dX6_thrown_1 ?_
  exact fk_iret hC hr hk dX6_thrown_4 rfl rfl rfl

set_option maxHeartbeats 4000000 in
set_option maxRecDepth 100000 in
theorem kX6_isServer (l : Launch) (D : va_G) (K : Nat → ClassId) (NL : List Nat) (ad : Nat → Nat) (G : fM) (x : fX) (hm : f_EM NL) (v : Int32) : Kd l yX6_isServer wsX6_isServer { frames := 1, cells := 0, slots := 0, locals := 22 } vwCl D K NL ad [.ref (ad 310), .int v] G x (some (.int (inV v 0 (G (iM 0) - 1)))) G x := by
  refine Kd.of (cc := cX6_isServer) (maxL := 2) (ret := (some .boolean)) (L := [some (.ref (ad 310)), some (.int v)]) (by decide +kernel) rfl rfl (Nat.le_of_ble_eq_true rfl) ?_
  intro p e s m args below meth c hC hN hr hk hnme
  have iX6 : ∀ w ∈ wsX60, w ∈ wsX6_isServer := by decide +kernel
  refine fk_iload_n hC dX6_isServer_0 rfl rfl ?_
  refine fk_iconst (v := 0) hC dX6_isServer_1 (by decide) ?_
  refine fk_aload_n hC dX6_isServer_2 rfl rfl ?_
  refine fk_getM_0 hC hm iX6 (by decide +kernel) dX6_isServer_3 ?_
  refine fk_iconst (v := 0) hC dX6_isServer_6 (by decide) ?_
  refine fk_ld_at hC (j := 0) hm rfl (by omega) dX6_isServer_7 ?_
  refine fk_iconst (v := 1) hC dX6_isServer_8 (by decide) ?_
  refine fk_isub hC dX6_isServer_9 ?_
  refine fk_callS hC hN (kX6_in l D K NL ad _ x _ _ _) (va_cwS 3 hC.1.2.2.2.2 gX6_isServer_X6_in rfl rfl rfl (by decide +kernel) ⟨Nat.le_of_ble_eq_true rfl, Nat.le_of_ble_eq_true rfl⟩) rfl rfl (Nat.le_of_ble_eq_true rfl) dX6_isServer_10 ⟨Nat.zero_le _, Nat.zero_le _⟩ ?_
  exact fk_zret hC hr hk dX6_isServer_13 (f_narB (by unfold inV; split; exact Or.inl rfl; split; exact Or.inl rfl; exact Or.inr rfl)) rfl rfl rfl

set_option maxHeartbeats 4000000 in
set_option maxRecDepth 100000 in
theorem kX6_wasOpened (l : Launch) (D : va_G) (K : Nat → ClassId) (NL : List Nat) (ad : Nat → Nat) (G : fM) (x : fX) (hm : f_EM NL) (v : Int32) : Kd l yX6_wasOpened wsX6_wasOpened { frames := 1, cells := 0, slots := 0, locals := 22 } vwCl D K NL ad [.ref (ad 310), .int v] G x (some (.int (inV v 0 (G (iM 10) - 1)))) G x := by
  refine Kd.of (cc := cX6_wasOpened) (maxL := 2) (ret := (some .boolean)) (L := [some (.ref (ad 310)), some (.int v)]) (by decide +kernel) rfl rfl (Nat.le_of_ble_eq_true rfl) ?_
  intro p e s m args below meth c hC hN hr hk hnme
  have iX6 : ∀ w ∈ wsX60, w ∈ wsX6_wasOpened := by decide +kernel
  refine fk_iload_n hC dX6_wasOpened_0 rfl rfl ?_
  refine fk_iconst (v := 0) hC dX6_wasOpened_1 (by decide) ?_
  refine fk_aload_n hC dX6_wasOpened_2 rfl rfl ?_
  refine fk_getM_0 hC hm iX6 (by decide +kernel) dX6_wasOpened_3 ?_
  refine fk_bipush (v := 10) hC dX6_wasOpened_6 (by decide) ?_
  refine fk_ld_at hC (j := 10) hm rfl (by omega) dX6_wasOpened_8 ?_
  refine fk_iconst (v := 1) hC dX6_wasOpened_9 (by decide) ?_
  refine fk_isub hC dX6_wasOpened_10 ?_
  refine fk_callS hC hN (kX6_in l D K NL ad _ x _ _ _) (va_cwS 3 hC.1.2.2.2.2 gX6_wasOpened_X6_in rfl rfl rfl (by decide +kernel) ⟨Nat.le_of_ble_eq_true rfl, Nat.le_of_ble_eq_true rfl⟩) rfl rfl (Nat.le_of_ble_eq_true rfl) dX6_wasOpened_11 ⟨Nat.zero_le _, Nat.zero_le _⟩ ?_
  exact fk_zret hC hr hk dX6_wasOpened_14 (f_narB (by unfold inV; split; exact Or.inl rfl; split; exact Or.inl rfl; exact Or.inr rfl)) rfl rfl rfl

set_option maxHeartbeats 4000000 in
set_option maxRecDepth 100000 in
theorem kX6_put (l : Launch) (D : va_G) (K : Nat → ClassId) (NL : List Nat) (ad : Nat → Nat) (G : fM) (x : fX) (hm : f_EM NL) (pl v : Int32) (j : Nat) (hj : pl = nI j) (hlt : j < 3263) : Kd l yX6_put wsX6_put { frames := 0, cells := 0, slots := 0, locals := 0 } vwCl D K NL ad [.ref (ad 310), .int pl, .int v] G x (some (.int (G (iM j)))) (upd G (iM j) v) x := by
  refine Kd.of (cc := cX6_put) (maxL := 4) (ret := (some .int)) (L := [some (.ref (ad 310)), some (.int pl), some (.int v), none]) (by decide +kernel) rfl rfl (Nat.le_of_ble_eq_true rfl) ?_
  intro p e s m args below meth c hC hN hr hk hnme
  have iX6 : ∀ w ∈ wsX60, w ∈ wsX6_put := by decide +kernel
  refine fk_aload_n hC dX6_put_0 rfl rfl ?_
  refine fk_getM_0 hC hm iX6 (by decide +kernel) dX6_put_1 ?_
  refine fk_iload_n hC dX6_put_4 rfl rfl ?_
  refine fk_ld_at hC hm hj hlt dX6_put_5 ?_
  refine fk_istore_n hC dX6_put_6 rfl (by decide) rfl ?_
  refine fk_aload_n hC dX6_put_7 rfl rfl ?_
  refine fk_getM_0 hC hm iX6 (by decide +kernel) dX6_put_8 ?_
  refine fk_iload_n hC dX6_put_11 rfl rfl ?_
  refine fk_iload_n hC dX6_put_12 rfl rfl ?_
  refine fk_st_at hC hm hj hlt dX6_put_13 ?_
  refine fk_iload_n hC dX6_put_14 rfl rfl ?_
  exact fk_iret hC hr hk dX6_put_15 rfl rfl rfl

def mM_lets (i : Nat) (G : fM) : Int32 := if G (iM (83 + i)) = 0 then 1 else if G (iM (83 + i)) = 2 then (if G (iM (103 + i)) = -1 then 1 else 0) else 0
def mM_acc (i : Nat) (G : fM) : Int32 := if mM_lets i G = 0 then 0 else if G (iM (43 + i)) = 0 then (if G (iM (53 + i)) = 0 then (if G (iM (23 + i)) ≤ G (iM (33 + i)) then 0 else 1) else 0) else 0
def mM_wt (i : Nat) (G : fM) : Int32 := if G (iM (73 + i)) = -1 then G (iM (13 + i)) else if G (iM 1) - G (iM (73 + i)) < G (iM 4) then (if 1 ≤ G (iM (13 + i)) * (G (iM 1) - G (iM (73 + i)) + 1) / G (iM 4) then G (iM (13 + i)) * (G (iM 1) - G (iM (73 + i)) + 1) / G (iM 4) else 1) else G (iM (13 + i))
theorem mM_acc_01 {i : Nat} {G : fM} : mM_acc i G = 0 ∨ mM_acc i G = 1 := by
  unfold mM_acc
  split
  · exact Or.inl rfl
  · split
    · split
      · split
        · exact Or.inl rfl
        · exact Or.inr rfl
      · exact Or.inl rfl
    · exact Or.inl rfl

set_option maxHeartbeats 4000000 in
set_option maxRecDepth 100000 in
theorem kX6_mayTake (l : Launch) (D : va_G) (K : Nat → ClassId) (NL : List Nat) (ad : Nat → Nat) (G : fM) (x : fX) (hm : f_EM NL) (i : Nat) (hi : i < 10) : Kd l yX6_mayTake wsX6_mayTake { frames := 0, cells := 0, slots := 0, locals := 0 } vwCl D K NL ad [.ref (ad 310), .int (nI i)] G x (some (.int (mM_acc i G))) G x := by
  refine Kd.of (cc := cX6_mayTake) (maxL := 3) (ret := (some .boolean)) (L := [some (.ref (ad 310)), some (.int (nI i)), none]) (by decide +kernel) rfl rfl (Nat.le_of_ble_eq_true rfl) ?_
  intro p e s m args below meth c hC hN hr hk hnme
  have iX6 : ∀ w ∈ wsX60, w ∈ wsX6_mayTake := by decide +kernel
  refine fk_aload_n hC dX6_mayTake_0 rfl rfl ?_
  refine fk_getM_0 hC hm iX6 (by decide +kernel) dX6_mayTake_1 ?_
  refine fk_bipush (v := 83) hC dX6_mayTake_4 (by decide) ?_
  refine fk_iload_n hC dX6_mayTake_6 rfl rfl ?_
  refine fk_iadd hC dX6_mayTake_7 ?_
  refine fk_ld_at hC (j := 83 + i) hm (nI_add 83 i) (by omega) dX6_mayTake_8 ?_
  refine fk_if_eq (tgt := 38) hC dX6_mayTake_9 (by decide) (fun c9 => ?_) (fun c9 => ?_)
  · refine fk_iconst (v := 1) hC dX6_mayTake_38 (by decide) ?_
    refine fk_goto (tgt := 43) hC dX6_mayTake_39 (by decide) ?_
    refine fk_istore_n hC dX6_mayTake_43 rfl (by decide) rfl ?_
    refine fk_iload_n hC dX6_mayTake_44 rfl rfl ?_
    refine fk_if_eq (tgt := 97) hC dX6_mayTake_45 (by decide) (fun c45 => ?_) (fun c45 => ?_)
    · exact absurd c45 (by decide)
    · refine fk_aload_n hC dX6_mayTake_48 rfl rfl ?_
      refine fk_getM_0 hC hm iX6 (by decide +kernel) dX6_mayTake_49 ?_
      refine fk_bipush (v := 43) hC dX6_mayTake_52 (by decide) ?_
      refine fk_iload_n hC dX6_mayTake_54 rfl rfl ?_
      refine fk_iadd hC dX6_mayTake_55 ?_
      refine fk_ld_at hC (j := 43 + i) hm (nI_add 43 i) (by omega) dX6_mayTake_56 ?_
      refine fk_if_ne (tgt := 97) hC dX6_mayTake_57 (by decide) (fun c57 => ?_) (fun c57 => ?_)
      · refine fk_iconst (v := 0) hC dX6_mayTake_97 (by decide) ?_
        exact fk_zret hC hr hk dX6_mayTake_98 rfl (by unfold mM_acc; rw [show mM_lets i G = 1 by unfold mM_lets; rw [if_pos c9], if_neg (by decide), if_neg c57]) rfl rfl
      · refine fk_aload_n hC dX6_mayTake_60 rfl rfl ?_
        refine fk_getM_0 hC hm iX6 (by decide +kernel) dX6_mayTake_61 ?_
        refine fk_bipush (v := 53) hC dX6_mayTake_64 (by decide) ?_
        refine fk_iload_n hC dX6_mayTake_66 rfl rfl ?_
        refine fk_iadd hC dX6_mayTake_67 ?_
        refine fk_ld_at hC (j := 53 + i) hm (nI_add 53 i) (by omega) dX6_mayTake_68 ?_
        refine fk_if_ne (tgt := 97) hC dX6_mayTake_69 (by decide) (fun c69 => ?_) (fun c69 => ?_)
        · refine fk_iconst (v := 0) hC dX6_mayTake_97 (by decide) ?_
          exact fk_zret hC hr hk dX6_mayTake_98 rfl (by unfold mM_acc; rw [show mM_lets i G = 1 by unfold mM_lets; rw [if_pos c9], if_neg (by decide), if_pos c57, if_neg c69]) rfl rfl
        · refine fk_aload_n hC dX6_mayTake_72 rfl rfl ?_
          refine fk_getM_0 hC hm iX6 (by decide +kernel) dX6_mayTake_73 ?_
          refine fk_bipush (v := 33) hC dX6_mayTake_76 (by decide) ?_
          refine fk_iload_n hC dX6_mayTake_78 rfl rfl ?_
          refine fk_iadd hC dX6_mayTake_79 ?_
          refine fk_ld_at hC (j := 33 + i) hm (nI_add 33 i) (by omega) dX6_mayTake_80 ?_
          refine fk_aload_n hC dX6_mayTake_81 rfl rfl ?_
          refine fk_getM_0 hC hm iX6 (by decide +kernel) dX6_mayTake_82 ?_
          refine fk_bipush (v := 23) hC dX6_mayTake_85 (by decide) ?_
          refine fk_iload_n hC dX6_mayTake_87 rfl rfl ?_
          refine fk_iadd hC dX6_mayTake_88 ?_
          refine fk_ld_at hC (j := 23 + i) hm (nI_add 23 i) (by omega) dX6_mayTake_89 ?_
          refine fk_icmp_ge (tgt := 97) hC dX6_mayTake_90 (by decide) (fun c90 => ?_) (fun c90 => ?_)
          · refine fk_iconst (v := 0) hC dX6_mayTake_97 (by decide) ?_
            exact fk_zret hC hr hk dX6_mayTake_98 rfl (by unfold mM_acc; rw [show mM_lets i G = 1 by unfold mM_lets; rw [if_pos c9], if_neg (by decide), if_pos c57, if_pos c69, if_pos c90]) rfl rfl
          · refine fk_iconst (v := 1) hC dX6_mayTake_93 (by decide) ?_
            refine fk_goto (tgt := 98) hC dX6_mayTake_94 (by decide) ?_
            exact fk_zret hC hr hk dX6_mayTake_98 rfl (by unfold mM_acc; rw [show mM_lets i G = 1 by unfold mM_lets; rw [if_pos c9], if_neg (by decide), if_pos c57, if_pos c69, if_neg c90]) rfl rfl
  · refine fk_aload_n hC dX6_mayTake_12 rfl rfl ?_
    refine fk_getM_0 hC hm iX6 (by decide +kernel) dX6_mayTake_13 ?_
    refine fk_bipush (v := 83) hC dX6_mayTake_16 (by decide) ?_
    refine fk_iload_n hC dX6_mayTake_18 rfl rfl ?_
    refine fk_iadd hC dX6_mayTake_19 ?_
    refine fk_ld_at hC (j := 83 + i) hm (nI_add 83 i) (by omega) dX6_mayTake_20 ?_
    refine fk_iconst (v := 2) hC dX6_mayTake_21 (by decide) ?_
    refine fk_icmp_ne (tgt := 42) hC dX6_mayTake_22 (by decide) (fun c22 => ?_) (fun c22 => ?_)
    · refine fk_iconst (v := 0) hC dX6_mayTake_42 (by decide) ?_
      refine fk_istore_n hC dX6_mayTake_43 rfl (by decide) rfl ?_
      refine fk_iload_n hC dX6_mayTake_44 rfl rfl ?_
      refine fk_if_eq (tgt := 97) hC dX6_mayTake_45 (by decide) (fun c45 => ?_) (fun c45 => ?_)
      · refine fk_iconst (v := 0) hC dX6_mayTake_97 (by decide) ?_
        exact fk_zret hC hr hk dX6_mayTake_98 rfl (by unfold mM_acc; rw [show mM_lets i G = 0 by unfold mM_lets; rw [if_neg c9, if_neg c22], if_pos rfl]) rfl rfl
      · exact absurd c45 (by decide)
    · refine fk_aload_n hC dX6_mayTake_25 rfl rfl ?_
      refine fk_getM_0 hC hm iX6 (by decide +kernel) dX6_mayTake_26 ?_
      refine fk_bipush (v := 103) hC dX6_mayTake_29 (by decide) ?_
      refine fk_iload_n hC dX6_mayTake_31 rfl rfl ?_
      refine fk_iadd hC dX6_mayTake_32 ?_
      refine fk_ld_at hC (j := 103 + i) hm (nI_add 103 i) (by omega) dX6_mayTake_33 ?_
      refine fk_iconst (v := (-1)) hC dX6_mayTake_34 (by decide) ?_
      refine fk_icmp_ne (tgt := 42) hC dX6_mayTake_35 (by decide) (fun c35 => ?_) (fun c35 => ?_)
      · refine fk_iconst (v := 0) hC dX6_mayTake_42 (by decide) ?_
        refine fk_istore_n hC dX6_mayTake_43 rfl (by decide) rfl ?_
        refine fk_iload_n hC dX6_mayTake_44 rfl rfl ?_
        refine fk_if_eq (tgt := 97) hC dX6_mayTake_45 (by decide) (fun c45 => ?_) (fun c45 => ?_)
        · refine fk_iconst (v := 0) hC dX6_mayTake_97 (by decide) ?_
          exact fk_zret hC hr hk dX6_mayTake_98 rfl (by unfold mM_acc; rw [show mM_lets i G = 0 by unfold mM_lets; rw [if_neg c9, if_pos c22, if_neg c35], if_pos rfl]) rfl rfl
        · exact absurd c45 (by decide)
      · refine fk_iconst (v := 1) hC dX6_mayTake_38 (by decide) ?_
        refine fk_goto (tgt := 43) hC dX6_mayTake_39 (by decide) ?_
        refine fk_istore_n hC dX6_mayTake_43 rfl (by decide) rfl ?_
        refine fk_iload_n hC dX6_mayTake_44 rfl rfl ?_
        refine fk_if_eq (tgt := 97) hC dX6_mayTake_45 (by decide) (fun c45 => ?_) (fun c45 => ?_)
        · exact absurd c45 (by decide)
        · refine fk_aload_n hC dX6_mayTake_48 rfl rfl ?_
          refine fk_getM_0 hC hm iX6 (by decide +kernel) dX6_mayTake_49 ?_
          refine fk_bipush (v := 43) hC dX6_mayTake_52 (by decide) ?_
          refine fk_iload_n hC dX6_mayTake_54 rfl rfl ?_
          refine fk_iadd hC dX6_mayTake_55 ?_
          refine fk_ld_at hC (j := 43 + i) hm (nI_add 43 i) (by omega) dX6_mayTake_56 ?_
          refine fk_if_ne (tgt := 97) hC dX6_mayTake_57 (by decide) (fun c57 => ?_) (fun c57 => ?_)
          · refine fk_iconst (v := 0) hC dX6_mayTake_97 (by decide) ?_
            exact fk_zret hC hr hk dX6_mayTake_98 rfl (by unfold mM_acc; rw [show mM_lets i G = 1 by unfold mM_lets; rw [if_neg c9, if_pos c22, if_pos c35], if_neg (by decide), if_neg c57]) rfl rfl
          · refine fk_aload_n hC dX6_mayTake_60 rfl rfl ?_
            refine fk_getM_0 hC hm iX6 (by decide +kernel) dX6_mayTake_61 ?_
            refine fk_bipush (v := 53) hC dX6_mayTake_64 (by decide) ?_
            refine fk_iload_n hC dX6_mayTake_66 rfl rfl ?_
            refine fk_iadd hC dX6_mayTake_67 ?_
            refine fk_ld_at hC (j := 53 + i) hm (nI_add 53 i) (by omega) dX6_mayTake_68 ?_
            refine fk_if_ne (tgt := 97) hC dX6_mayTake_69 (by decide) (fun c69 => ?_) (fun c69 => ?_)
            · refine fk_iconst (v := 0) hC dX6_mayTake_97 (by decide) ?_
              exact fk_zret hC hr hk dX6_mayTake_98 rfl (by unfold mM_acc; rw [show mM_lets i G = 1 by unfold mM_lets; rw [if_neg c9, if_pos c22, if_pos c35], if_neg (by decide), if_pos c57, if_neg c69]) rfl rfl
            · refine fk_aload_n hC dX6_mayTake_72 rfl rfl ?_
              refine fk_getM_0 hC hm iX6 (by decide +kernel) dX6_mayTake_73 ?_
              refine fk_bipush (v := 33) hC dX6_mayTake_76 (by decide) ?_
              refine fk_iload_n hC dX6_mayTake_78 rfl rfl ?_
              refine fk_iadd hC dX6_mayTake_79 ?_
              refine fk_ld_at hC (j := 33 + i) hm (nI_add 33 i) (by omega) dX6_mayTake_80 ?_
              refine fk_aload_n hC dX6_mayTake_81 rfl rfl ?_
              refine fk_getM_0 hC hm iX6 (by decide +kernel) dX6_mayTake_82 ?_
              refine fk_bipush (v := 23) hC dX6_mayTake_85 (by decide) ?_
              refine fk_iload_n hC dX6_mayTake_87 rfl rfl ?_
              refine fk_iadd hC dX6_mayTake_88 ?_
              refine fk_ld_at hC (j := 23 + i) hm (nI_add 23 i) (by omega) dX6_mayTake_89 ?_
              refine fk_icmp_ge (tgt := 97) hC dX6_mayTake_90 (by decide) (fun c90 => ?_) (fun c90 => ?_)
              · refine fk_iconst (v := 0) hC dX6_mayTake_97 (by decide) ?_
                exact fk_zret hC hr hk dX6_mayTake_98 rfl (by unfold mM_acc; rw [show mM_lets i G = 1 by unfold mM_lets; rw [if_neg c9, if_pos c22, if_pos c35], if_neg (by decide), if_pos c57, if_pos c69, if_pos c90]) rfl rfl
              · refine fk_iconst (v := 1) hC dX6_mayTake_93 (by decide) ?_
                refine fk_goto (tgt := 98) hC dX6_mayTake_94 (by decide) ?_
                exact fk_zret hC hr hk dX6_mayTake_98 rfl (by unfold mM_acc; rw [show mM_lets i G = 1 by unfold mM_lets; rw [if_neg c9, if_pos c22, if_pos c35], if_neg (by decide), if_pos c57, if_pos c69, if_neg c90]) rfl rfl

set_option maxHeartbeats 4000000 in
set_option maxRecDepth 100000 in
theorem kX6_weightNow (l : Launch) (D : va_G) (K : Nat → ClassId) (NL : List Nat) (ad : Nat → Nat) (G : fM) (x : fX) (hm : f_EM NL) (i : Nat) (hi : i < 10) (hwn : ¬ G (iM (73 + i)) = -1 → G (iM 1) - G (iM (73 + i)) < G (iM 4) → ¬ G (iM 4) = 0) : Kd l yX6_weightNow wsX6_weightNow { frames := 0, cells := 0, slots := 0, locals := 0 } vwCl D K NL ad [.ref (ad 310), .int (nI i)] G x (some (.int (mM_wt i G))) G x := by
  refine Kd.of (cc := cX6_weightNow) (maxL := 4) (ret := (some .int)) (L := [some (.ref (ad 310)), some (.int (nI i)), none, none]) (by decide +kernel) rfl rfl (Nat.le_of_ble_eq_true rfl) ?_
  intro p e s m args below meth c hC hN hr hk hnme
  have iX6 : ∀ w ∈ wsX60, w ∈ wsX6_weightNow := by decide +kernel
  refine fk_aload_n hC dX6_weightNow_0 rfl rfl ?_
  refine fk_getM_0 hC hm iX6 (by decide +kernel) dX6_weightNow_1 ?_
  refine fk_iconst (v := 1) hC dX6_weightNow_4 (by decide) ?_
  refine fk_ld_at hC (j := 1) hm rfl (by omega) dX6_weightNow_5 ?_
  refine fk_aload_n hC dX6_weightNow_6 rfl rfl ?_
  refine fk_getM_0 hC hm iX6 (by decide +kernel) dX6_weightNow_7 ?_
  refine fk_bipush (v := 73) hC dX6_weightNow_10 (by decide) ?_
  refine fk_iload_n hC dX6_weightNow_12 rfl rfl ?_
  refine fk_iadd hC dX6_weightNow_13 ?_
  refine fk_ld_at hC (j := 73 + i) hm (nI_add 73 i) (by omega) dX6_weightNow_14 ?_
  refine fk_isub hC dX6_weightNow_15 ?_
  refine fk_istore_n hC dX6_weightNow_16 rfl (by decide) rfl ?_
  refine fk_aload_n hC dX6_weightNow_17 rfl rfl ?_
  refine fk_getM_0 hC hm iX6 (by decide +kernel) dX6_weightNow_18 ?_
  refine fk_bipush (v := 73) hC dX6_weightNow_21 (by decide) ?_
  refine fk_iload_n hC dX6_weightNow_23 rfl rfl ?_
  refine fk_iadd hC dX6_weightNow_24 ?_
  refine fk_ld_at hC (j := 73 + i) hm (nI_add 73 i) (by omega) dX6_weightNow_25 ?_
  refine fk_iconst (v := (-1)) hC dX6_weightNow_26 (by decide) ?_
  refine fk_icmp_eq (tgt := 40) hC dX6_weightNow_27 (by decide) (fun c27 => ?_) (fun c27 => ?_)
  · refine fk_aload_n hC dX6_weightNow_40 rfl rfl ?_
    refine fk_getM_0 hC hm iX6 (by decide +kernel) dX6_weightNow_41 ?_
    refine fk_bipush (v := 13) hC dX6_weightNow_44 (by decide) ?_
    refine fk_iload_n hC dX6_weightNow_46 rfl rfl ?_
    refine fk_iadd hC dX6_weightNow_47 ?_
    refine fk_ld_at hC (j := 13 + i) hm (nI_add 13 i) (by omega) dX6_weightNow_48 ?_
    exact fk_iret hC hr hk dX6_weightNow_49 (by unfold mM_wt; rw [if_pos c27]) rfl rfl
  · refine fk_iload_n hC dX6_weightNow_30 rfl rfl ?_
    refine fk_aload_n hC dX6_weightNow_31 rfl rfl ?_
    refine fk_getM_0 hC hm iX6 (by decide +kernel) dX6_weightNow_32 ?_
    refine fk_iconst (v := 4) hC dX6_weightNow_35 (by decide) ?_
    refine fk_ld_at hC (j := 4) hm rfl (by omega) dX6_weightNow_36 ?_
    refine fk_icmp_lt (tgt := 50) hC dX6_weightNow_37 (by decide) (fun c37 => ?_) (fun c37 => ?_)
    · refine fk_aload_n hC dX6_weightNow_50 rfl rfl ?_
      refine fk_getM_0 hC hm iX6 (by decide +kernel) dX6_weightNow_51 ?_
      refine fk_bipush (v := 13) hC dX6_weightNow_54 (by decide) ?_
      refine fk_iload_n hC dX6_weightNow_56 rfl rfl ?_
      refine fk_iadd hC dX6_weightNow_57 ?_
      refine fk_ld_at hC (j := 13 + i) hm (nI_add 13 i) (by omega) dX6_weightNow_58 ?_
      refine fk_iload_n hC dX6_weightNow_59 rfl rfl ?_
      refine fk_iconst (v := 1) hC dX6_weightNow_60 (by decide) ?_
      refine fk_iadd hC dX6_weightNow_61 ?_
      refine fk_imul hC dX6_weightNow_62 ?_
      refine fk_aload_n hC dX6_weightNow_63 rfl rfl ?_
      refine fk_getM_0 hC hm iX6 (by decide +kernel) dX6_weightNow_64 ?_
      refine fk_iconst (v := 4) hC dX6_weightNow_67 (by decide) ?_
      refine fk_ld_at hC (j := 4) hm rfl (by omega) dX6_weightNow_68 ?_
      refine fk_idiv hC dX6_weightNow_69 (hwn c27 c37) ?_
      refine fk_istore_n hC dX6_weightNow_70 rfl (by decide) rfl ?_
      refine fk_iload_n hC dX6_weightNow_71 rfl rfl ?_
      refine fk_iconst (v := 1) hC dX6_weightNow_72 (by decide) ?_
      refine fk_icmp_ge (tgt := 80) hC dX6_weightNow_73 (by decide) (fun c73 => ?_) (fun c73 => ?_)
      · refine fk_iload_n hC dX6_weightNow_80 rfl rfl ?_
        exact fk_iret hC hr hk dX6_weightNow_81 (by unfold mM_wt; rw [if_neg c27, if_pos c37, if_pos c73]) rfl rfl
      · refine fk_iconst (v := 1) hC dX6_weightNow_76 (by decide) ?_
        refine fk_goto (tgt := 81) hC dX6_weightNow_77 (by decide) ?_
        exact fk_iret hC hr hk dX6_weightNow_81 (by unfold mM_wt; rw [if_neg c27, if_pos c37, if_neg c73]) rfl rfl
    · refine fk_aload_n hC dX6_weightNow_40 rfl rfl ?_
      refine fk_getM_0 hC hm iX6 (by decide +kernel) dX6_weightNow_41 ?_
      refine fk_bipush (v := 13) hC dX6_weightNow_44 (by decide) ?_
      refine fk_iload_n hC dX6_weightNow_46 rfl rfl ?_
      refine fk_iadd hC dX6_weightNow_47 ?_
      refine fk_ld_at hC (j := 13 + i) hm (nI_add 13 i) (by omega) dX6_weightNow_48 ?_
      exact fk_iret hC hr hk dX6_weightNow_49 (by unfold mM_wt; rw [if_neg c27, if_neg c37]) rfl rfl

set_option maxHeartbeats 4000000 in
set_option maxRecDepth 100000 in
theorem kX6_setSlowStart (l : Launch) (D : va_G) (K : Nat → ClassId) (NL : List Nat) (ad : Nat → Nat) (G : fM) (x : fX) (hm : f_EM NL)  (a : Int32) (h : rng a 0 50) : Kd l yX6_setSlowStart wsX6_setSlowStart { frames := 1, cells := 0, slots := 0, locals := 23 } vwCl D K NL ad [.ref (ad 310), .int a] G x (some (.int (upd G (iT 0) 0 (iM 4)))) (upd (upd G (iT 0) 0) (iM 4) a) x := by
  refine Kd.of (cc := cX6_setSlowStart) (maxL := 2) (ret := (some .int)) (L := [some (.ref (ad 310)), some (.int a)]) (by decide +kernel) rfl rfl (Nat.le_of_ble_eq_true rfl) ?_
  intro p e s m args below meth c hC hN hr hk hnme
  have iX6 : ∀ w ∈ wsX60, w ∈ wsX6_setSlowStart := by decide +kernel
  refine fk_aload_n hC dX6_setSlowStart_0 rfl rfl ?_
  refine fk_iload_n hC dX6_setSlowStart_1 rfl rfl ?_
  refine fk_iconst (v := 0) hC dX6_setSlowStart_2 (by decide) ?_
  refine fk_bipush (v := 50) hC dX6_setSlowStart_3 (by decide) ?_
  refine fk_callS hC hN (kX6_in l D K NL ad _ x _ _ _) (va_cwS 3 hC.1.2.2.2.2 gX6_setSlowStart_X6_in rfl rfl rfl (by decide +kernel) ⟨Nat.le_of_ble_eq_true rfl, Nat.le_of_ble_eq_true rfl⟩) rfl rfl (Nat.le_of_ble_eq_true rfl) dX6_setSlowStart_5 ⟨Nat.zero_le _, Nat.zero_le _⟩ ?_
  refine fk_topi (inV_t h) ?_
  refine fk_if_eq (tgt := 15) hC dX6_setSlowStart_8 (by decide) (fun c8 => ?_) (fun c8 => ?_)
  · exact absurd c8 (by decide)
  · refine fk_iconst (v := 0) hC dX6_setSlowStart_11 (by decide) ?_
    refine fk_goto (tgt := 16) hC dX6_setSlowStart_12 (by decide) ?_
    refine fk_putM_3 hC hm iX6 (by decide +kernel) dX6_setSlowStart_16 ?_
    refine fk_aload_n hC dX6_setSlowStart_19 rfl rfl ?_
    refine fk_getM_3 hC hm iX6 (by decide +kernel) dX6_setSlowStart_20 ?_
    refine fk_topi pk_us ?_
    refine fk_if_eq (tgt := 30) hC dX6_setSlowStart_23 (by decide) (fun c23 => ?_) (fun c23 => ?_)
    · refine fk_aload_n hC dX6_setSlowStart_30 rfl rfl ?_
      refine fk_iconst (v := 4) hC dX6_setSlowStart_31 (by decide) ?_
      refine fk_iload_n hC dX6_setSlowStart_32 rfl rfl ?_
      refine fk_callV hC hN (kX6_put l D K NL ad _ x hm _ _ 4 rfl (by decide)) hm.1 (f_E310 _ _ _ _ _) rfl (cwV 2 hC.1.2.2.2.2 gX6_setSlowStart_X6_put rfl rfl rfl (by decide +kernel) ⟨Nat.le_of_ble_eq_true rfl, Nat.le_of_ble_eq_true rfl⟩) rfl rfl (Nat.le_of_ble_eq_true rfl) dX6_setSlowStart_33 ⟨Nat.zero_le _, Nat.zero_le _⟩ ?_
      exact fk_iret hC hr hk dX6_setSlowStart_36 rfl rfl rfl
    · exact absurd c23 (by decide)

set_option maxHeartbeats 4000000 in
set_option maxRecDepth 100000 in
theorem eX6_setSlowStart (l : Launch) (D : va_G) (K : Nat → ClassId) (NL : List Nat) (ad : Nat → Nat) (G : fM) (x : fX) (hm : f_EM NL) (a : Int32) (h : ¬ rng a 0 50) : Kd l yX6_setSlowStart wsX6_setSlowStart { frames := 1, cells := 0, slots := 0, locals := 22 } vwCl D K NL ad [.ref (ad 310), .int a] G x (some (.int 0)) (upd G (iT 0) 1) x := by
  refine Kd.of (cc := cX6_setSlowStart) (maxL := 2) (ret := (some .int)) (L := [some (.ref (ad 310)), some (.int a)]) (by decide +kernel) rfl rfl (Nat.le_of_ble_eq_true rfl) ?_
  intro p e s m args below meth c hC hN hr hk hnme
  have iX6 : ∀ w ∈ wsX60, w ∈ wsX6_setSlowStart := by decide +kernel
  refine fk_aload_n hC dX6_setSlowStart_0 rfl rfl ?_
  refine fk_iload_n hC dX6_setSlowStart_1 rfl rfl ?_
  refine fk_iconst (v := 0) hC dX6_setSlowStart_2 (by decide) ?_
  refine fk_bipush (v := 50) hC dX6_setSlowStart_3 (by decide) ?_
  refine fk_callS hC hN (kX6_in l D K NL ad _ x _ _ _) (va_cwS 3 hC.1.2.2.2.2 gX6_setSlowStart_X6_in rfl rfl rfl (by decide +kernel) ⟨Nat.le_of_ble_eq_true rfl, Nat.le_of_ble_eq_true rfl⟩) rfl rfl (Nat.le_of_ble_eq_true rfl) dX6_setSlowStart_5 ⟨Nat.zero_le _, Nat.zero_le _⟩ ?_
  refine fk_topi (inV_f h) ?_
  refine fk_if_eq (tgt := 15) hC dX6_setSlowStart_8 (by decide) (fun c8 => ?_) (fun c8 => ?_)
  · refine fk_iconst (v := 1) hC dX6_setSlowStart_15 (by decide) ?_
    refine fk_putM_3 hC hm iX6 (by decide +kernel) dX6_setSlowStart_16 ?_
    refine fk_aload_n hC dX6_setSlowStart_19 rfl rfl ?_
    refine fk_getM_3 hC hm iX6 (by decide +kernel) dX6_setSlowStart_20 ?_
    refine fk_topi pk_us ?_
    refine fk_if_eq (tgt := 30) hC dX6_setSlowStart_23 (by decide) (fun c23 => ?_) (fun c23 => ?_)
    · exact absurd c23 (by decide)
    · refine fk_iconst (v := 0) hC dX6_setSlowStart_26 (by decide) ?_
      refine fk_goto (tgt := 36) hC dX6_setSlowStart_27 (by decide) ?_
      exact fk_iret hC hr hk dX6_setSlowStart_36 rfl rfl rfl
  · exact absurd c8 (by decide)

set_option maxHeartbeats 4000000 in
set_option maxRecDepth 100000 in
theorem kX6_setCool (l : Launch) (D : va_G) (K : Nat → ClassId) (NL : List Nat) (ad : Nat → Nat) (G : fM) (x : fX) (hm : f_EM NL)  (a : Int32) (h : rng a 1 50) : Kd l yX6_setCool wsX6_setCool { frames := 1, cells := 0, slots := 0, locals := 23 } vwCl D K NL ad [.ref (ad 310), .int a] G x (some (.int (upd G (iT 0) 0 (iM 5)))) (upd (upd G (iT 0) 0) (iM 5) a) x := by
  refine Kd.of (cc := cX6_setCool) (maxL := 2) (ret := (some .int)) (L := [some (.ref (ad 310)), some (.int a)]) (by decide +kernel) rfl rfl (Nat.le_of_ble_eq_true rfl) ?_
  intro p e s m args below meth c hC hN hr hk hnme
  have iX6 : ∀ w ∈ wsX60, w ∈ wsX6_setCool := by decide +kernel
  refine fk_aload_n hC dX6_setCool_0 rfl rfl ?_
  refine fk_iload_n hC dX6_setCool_1 rfl rfl ?_
  refine fk_iconst (v := 1) hC dX6_setCool_2 (by decide) ?_
  refine fk_bipush (v := 50) hC dX6_setCool_3 (by decide) ?_
  refine fk_callS hC hN (kX6_in l D K NL ad _ x _ _ _) (va_cwS 3 hC.1.2.2.2.2 gX6_setCool_X6_in rfl rfl rfl (by decide +kernel) ⟨Nat.le_of_ble_eq_true rfl, Nat.le_of_ble_eq_true rfl⟩) rfl rfl (Nat.le_of_ble_eq_true rfl) dX6_setCool_5 ⟨Nat.zero_le _, Nat.zero_le _⟩ ?_
  refine fk_topi (inV_t h) ?_
  refine fk_if_eq (tgt := 15) hC dX6_setCool_8 (by decide) (fun c8 => ?_) (fun c8 => ?_)
  · exact absurd c8 (by decide)
  · refine fk_iconst (v := 0) hC dX6_setCool_11 (by decide) ?_
    refine fk_goto (tgt := 16) hC dX6_setCool_12 (by decide) ?_
    refine fk_putM_3 hC hm iX6 (by decide +kernel) dX6_setCool_16 ?_
    refine fk_aload_n hC dX6_setCool_19 rfl rfl ?_
    refine fk_getM_3 hC hm iX6 (by decide +kernel) dX6_setCool_20 ?_
    refine fk_topi pk_us ?_
    refine fk_if_eq (tgt := 30) hC dX6_setCool_23 (by decide) (fun c23 => ?_) (fun c23 => ?_)
    · refine fk_aload_n hC dX6_setCool_30 rfl rfl ?_
      refine fk_iconst (v := 5) hC dX6_setCool_31 (by decide) ?_
      refine fk_iload_n hC dX6_setCool_32 rfl rfl ?_
      refine fk_callV hC hN (kX6_put l D K NL ad _ x hm _ _ 5 rfl (by decide)) hm.1 (f_E310 _ _ _ _ _) rfl (cwV 2 hC.1.2.2.2.2 gX6_setCool_X6_put rfl rfl rfl (by decide +kernel) ⟨Nat.le_of_ble_eq_true rfl, Nat.le_of_ble_eq_true rfl⟩) rfl rfl (Nat.le_of_ble_eq_true rfl) dX6_setCool_33 ⟨Nat.zero_le _, Nat.zero_le _⟩ ?_
      exact fk_iret hC hr hk dX6_setCool_36 rfl rfl rfl
    · exact absurd c23 (by decide)

set_option maxHeartbeats 4000000 in
set_option maxRecDepth 100000 in
theorem eX6_setCool (l : Launch) (D : va_G) (K : Nat → ClassId) (NL : List Nat) (ad : Nat → Nat) (G : fM) (x : fX) (hm : f_EM NL) (a : Int32) (h : ¬ rng a 1 50) : Kd l yX6_setCool wsX6_setCool { frames := 1, cells := 0, slots := 0, locals := 22 } vwCl D K NL ad [.ref (ad 310), .int a] G x (some (.int 0)) (upd G (iT 0) 1) x := by
  refine Kd.of (cc := cX6_setCool) (maxL := 2) (ret := (some .int)) (L := [some (.ref (ad 310)), some (.int a)]) (by decide +kernel) rfl rfl (Nat.le_of_ble_eq_true rfl) ?_
  intro p e s m args below meth c hC hN hr hk hnme
  have iX6 : ∀ w ∈ wsX60, w ∈ wsX6_setCool := by decide +kernel
  refine fk_aload_n hC dX6_setCool_0 rfl rfl ?_
  refine fk_iload_n hC dX6_setCool_1 rfl rfl ?_
  refine fk_iconst (v := 1) hC dX6_setCool_2 (by decide) ?_
  refine fk_bipush (v := 50) hC dX6_setCool_3 (by decide) ?_
  refine fk_callS hC hN (kX6_in l D K NL ad _ x _ _ _) (va_cwS 3 hC.1.2.2.2.2 gX6_setCool_X6_in rfl rfl rfl (by decide +kernel) ⟨Nat.le_of_ble_eq_true rfl, Nat.le_of_ble_eq_true rfl⟩) rfl rfl (Nat.le_of_ble_eq_true rfl) dX6_setCool_5 ⟨Nat.zero_le _, Nat.zero_le _⟩ ?_
  refine fk_topi (inV_f h) ?_
  refine fk_if_eq (tgt := 15) hC dX6_setCool_8 (by decide) (fun c8 => ?_) (fun c8 => ?_)
  · refine fk_iconst (v := 1) hC dX6_setCool_15 (by decide) ?_
    refine fk_putM_3 hC hm iX6 (by decide +kernel) dX6_setCool_16 ?_
    refine fk_aload_n hC dX6_setCool_19 rfl rfl ?_
    refine fk_getM_3 hC hm iX6 (by decide +kernel) dX6_setCool_20 ?_
    refine fk_topi pk_us ?_
    refine fk_if_eq (tgt := 30) hC dX6_setCool_23 (by decide) (fun c23 => ?_) (fun c23 => ?_)
    · exact absurd c23 (by decide)
    · refine fk_iconst (v := 0) hC dX6_setCool_26 (by decide) ?_
      refine fk_goto (tgt := 36) hC dX6_setCool_27 (by decide) ?_
      exact fk_iret hC hr hk dX6_setCool_36 rfl rfl rfl
  · exact absurd c8 (by decide)

def mM_stk (a : Int32) (G : fM) : fM := upd (upd (upd G (iT 0) 0) (iM 12) (if a = 0 then 0 else upd G (iT 0) 0 (iM 12))) (iM 6) a
set_option maxHeartbeats 4000000 in
set_option maxRecDepth 100000 in
theorem kX6_setSticky (l : Launch) (D : va_G) (K : Nat → ClassId) (NL : List Nat) (ad : Nat → Nat) (G : fM) (x : fX) (hm : f_EM NL)  (a : Int32) (h : rng a 0 100) : Kd l yX6_setSticky wsX6_setSticky { frames := 1, cells := 0, slots := 0, locals := 23 } vwCl D K NL ad [.ref (ad 310), .int a] G x (some (.int (upd (upd G (iT 0) 0) (iM 12) (if a = 0 then 0 else upd G (iT 0) 0 (iM 12)) (iM 6)))) (mM_stk a G) x := by
  refine Kd.of (cc := cX6_setSticky) (maxL := 2) (ret := (some .int)) (L := [some (.ref (ad 310)), some (.int a)]) (by decide +kernel) rfl rfl (Nat.le_of_ble_eq_true rfl) ?_
  intro p e s m args below meth c hC hN hr hk hnme
  have iX6 : ∀ w ∈ wsX60, w ∈ wsX6_setSticky := by decide +kernel
  refine fk_aload_n hC dX6_setSticky_0 rfl rfl ?_
  refine fk_iload_n hC dX6_setSticky_1 rfl rfl ?_
  refine fk_iconst (v := 0) hC dX6_setSticky_2 (by decide) ?_
  refine fk_bipush (v := 100) hC dX6_setSticky_3 (by decide) ?_
  refine fk_callS hC hN (kX6_in l D K NL ad _ x _ _ _) (va_cwS 3 hC.1.2.2.2.2 gX6_setSticky_X6_in rfl rfl rfl (by decide +kernel) ⟨Nat.le_of_ble_eq_true rfl, Nat.le_of_ble_eq_true rfl⟩) rfl rfl (Nat.le_of_ble_eq_true rfl) dX6_setSticky_5 ⟨Nat.zero_le _, Nat.zero_le _⟩ ?_
  refine fk_topi (inV_t h) ?_
  refine fk_if_eq (tgt := 15) hC dX6_setSticky_8 (by decide) (fun c8 => ?_) (fun c8 => ?_)
  · exact absurd c8 (by decide)
  · refine fk_iconst (v := 0) hC dX6_setSticky_11 (by decide) ?_
    refine fk_goto (tgt := 16) hC dX6_setSticky_12 (by decide) ?_
    refine fk_putM_3 hC hm iX6 (by decide +kernel) dX6_setSticky_16 ?_
    refine fk_aload_n hC dX6_setSticky_19 rfl rfl ?_
    refine fk_getM_3 hC hm iX6 (by decide +kernel) dX6_setSticky_20 ?_
    refine fk_topi pk_us ?_
    refine fk_if_eq (tgt := 28) hC dX6_setSticky_23 (by decide) (fun c23 => ?_) (fun c23 => ?_)
    · refine fk_aload_n hC dX6_setSticky_28 rfl rfl ?_
      refine fk_getM_0 hC hm iX6 (by decide +kernel) dX6_setSticky_29 ?_
      refine fk_bipush (v := 12) hC dX6_setSticky_32 (by decide) ?_
      refine fk_iload_n hC dX6_setSticky_34 rfl rfl ?_
      refine fk_if_ne (tgt := 42) hC dX6_setSticky_35 (by decide) (fun c35 => ?_) (fun c35 => ?_)
      · refine fk_aload_n hC dX6_setSticky_42 rfl rfl ?_
        refine fk_getM_0 hC hm iX6 (by decide +kernel) dX6_setSticky_43 ?_
        refine fk_bipush (v := 12) hC dX6_setSticky_46 (by decide) ?_
        refine fk_ld_at hC (j := 12) hm rfl (by omega) dX6_setSticky_48 ?_
        refine fk_st_at hC (j := 12) hm rfl (by omega) dX6_setSticky_49 ?_
        refine fk_aload_n hC dX6_setSticky_50 rfl rfl ?_
        refine fk_bipush (v := 6) hC dX6_setSticky_51 (by decide) ?_
        refine fk_iload_n hC dX6_setSticky_53 rfl rfl ?_
        refine fk_callV hC hN (kX6_put l D K NL ad _ x hm _ _ 6 rfl (by decide)) hm.1 (f_E310 _ _ _ _ _) rfl (cwV 2 hC.1.2.2.2.2 gX6_setSticky_X6_put rfl rfl rfl (by decide +kernel) ⟨Nat.le_of_ble_eq_true rfl, Nat.le_of_ble_eq_true rfl⟩) rfl rfl (Nat.le_of_ble_eq_true rfl) dX6_setSticky_54 ⟨Nat.zero_le _, Nat.zero_le _⟩ ?_
        exact fk_iret hC hr hk dX6_setSticky_57 (by rw [if_neg c35]) (by unfold mM_stk; rw [if_neg c35]) rfl
      · refine fk_iconst (v := 0) hC dX6_setSticky_38 (by decide) ?_
        refine fk_goto (tgt := 49) hC dX6_setSticky_39 (by decide) ?_
        refine fk_st_at hC (j := 12) hm rfl (by omega) dX6_setSticky_49 ?_
        refine fk_aload_n hC dX6_setSticky_50 rfl rfl ?_
        refine fk_bipush (v := 6) hC dX6_setSticky_51 (by decide) ?_
        refine fk_iload_n hC dX6_setSticky_53 rfl rfl ?_
        refine fk_callV hC hN (kX6_put l D K NL ad _ x hm _ _ 6 rfl (by decide)) hm.1 (f_E310 _ _ _ _ _) rfl (cwV 2 hC.1.2.2.2.2 gX6_setSticky_X6_put rfl rfl rfl (by decide +kernel) ⟨Nat.le_of_ble_eq_true rfl, Nat.le_of_ble_eq_true rfl⟩) rfl rfl (Nat.le_of_ble_eq_true rfl) dX6_setSticky_54 ⟨Nat.zero_le _, Nat.zero_le _⟩ ?_
        exact fk_iret hC hr hk dX6_setSticky_57 (by rw [if_pos c35]) (by unfold mM_stk; rw [if_pos c35]) rfl
    · exact absurd c23 (by decide)

set_option maxHeartbeats 4000000 in
set_option maxRecDepth 100000 in
theorem eX6_setSticky (l : Launch) (D : va_G) (K : Nat → ClassId) (NL : List Nat) (ad : Nat → Nat) (G : fM) (x : fX) (hm : f_EM NL) (a : Int32) (h : ¬ rng a 0 100) : Kd l yX6_setSticky wsX6_setSticky { frames := 1, cells := 0, slots := 0, locals := 22 } vwCl D K NL ad [.ref (ad 310), .int a] G x (some (.int 0)) (upd G (iT 0) 1) x := by
  refine Kd.of (cc := cX6_setSticky) (maxL := 2) (ret := (some .int)) (L := [some (.ref (ad 310)), some (.int a)]) (by decide +kernel) rfl rfl (Nat.le_of_ble_eq_true rfl) ?_
  intro p e s m args below meth c hC hN hr hk hnme
  have iX6 : ∀ w ∈ wsX60, w ∈ wsX6_setSticky := by decide +kernel
  refine fk_aload_n hC dX6_setSticky_0 rfl rfl ?_
  refine fk_iload_n hC dX6_setSticky_1 rfl rfl ?_
  refine fk_iconst (v := 0) hC dX6_setSticky_2 (by decide) ?_
  refine fk_bipush (v := 100) hC dX6_setSticky_3 (by decide) ?_
  refine fk_callS hC hN (kX6_in l D K NL ad _ x _ _ _) (va_cwS 3 hC.1.2.2.2.2 gX6_setSticky_X6_in rfl rfl rfl (by decide +kernel) ⟨Nat.le_of_ble_eq_true rfl, Nat.le_of_ble_eq_true rfl⟩) rfl rfl (Nat.le_of_ble_eq_true rfl) dX6_setSticky_5 ⟨Nat.zero_le _, Nat.zero_le _⟩ ?_
  refine fk_topi (inV_f h) ?_
  refine fk_if_eq (tgt := 15) hC dX6_setSticky_8 (by decide) (fun c8 => ?_) (fun c8 => ?_)
  · refine fk_iconst (v := 1) hC dX6_setSticky_15 (by decide) ?_
    refine fk_putM_3 hC hm iX6 (by decide +kernel) dX6_setSticky_16 ?_
    refine fk_aload_n hC dX6_setSticky_19 rfl rfl ?_
    refine fk_getM_3 hC hm iX6 (by decide +kernel) dX6_setSticky_20 ?_
    refine fk_topi pk_us ?_
    refine fk_if_eq (tgt := 28) hC dX6_setSticky_23 (by decide) (fun c23 => ?_) (fun c23 => ?_)
    · exact absurd c23 (by decide)
    · refine fk_iconst (v := 0) hC dX6_setSticky_26 (by decide) ?_
      exact fk_iret hC hr hk dX6_setSticky_27 rfl rfl rfl
  · exact absurd c8 (by decide)

def mM_polF (i : Nat) (Q : fM) : fM := upd Q (iM (113 + i)) 0
def mM_pol0 (G : fM) : fM := upd (fold9 mM_polF 10 0 (upd G (iT 0) 0)) (iM 9) (-1)
def mM_pol (a : Int32) (G : fM) : fM := upd (mM_pol0 G) (iM 7) a
set_option maxHeartbeats 4000000 in
set_option maxRecDepth 100000 in
theorem kX6_setPolicy (l : Launch) (D : va_G) (K : Nat → ClassId) (NL : List Nat) (ad : Nat → Nat) (G : fM) (x : fX) (hm : f_EM NL) (a : Int32) (h : rng a 0 4) : Kd l yX6_setPolicy wsX6_setPolicy { frames := 1, cells := 0, slots := 0, locals := 23 } vwCl D K NL ad [.ref (ad 310), .int a] G x (some (.int (mM_pol0 G (iM 7)))) (mM_pol a G) x := by
  refine Kd.of (cc := cX6_setPolicy) (maxL := 3) (ret := (some .int)) (L := [some (.ref (ad 310)), some (.int a), none]) (by decide +kernel) rfl rfl (Nat.le_of_ble_eq_true rfl) ?_
  intro p e s m args below meth c hC hN hr hk hnme
  have iX6 : ∀ w ∈ wsX60, w ∈ wsX6_setPolicy := by decide +kernel
  have lp : ∀ (d : Nat) (k : Nat) (Q : fM), 10 - k = d → k ≤ 10 → fold9 mM_polF 10 0 (upd G (iT 0) 0) = fold9 mM_polF (10 - k) k Q → Wk p l e { frames := 1, cells := 0, slots := 0, locals := 23 } s m args below meth c vwCl D K NL ad (f_A NL ad s.heap.size) s.heap 3 0 0 (MQ below (f_Post vwCl D K NL ad (mM_pol a G) x (some (.int (mM_pol0 G (iM 7)))) s.heap.size) args s 0 0 (f_A NL ad s.heap.size)) Q x 29 [some (.ref (ad 310)), some (.int a), some (.int (nI k))] [] := by
    intro d
    induction d using Nat.strongRecOn with
    | _ d ih =>
      intro k Q hd hkn hs
      refine fk_iload_n hC dX6_setPolicy_29 rfl rfl ?_
      refine fk_bipush (v := 10) hC dX6_setPolicy_30 (by decide) ?_
      refine fk_icmp_ge (tgt := 51) hC dX6_setPolicy_32 (by decide) (fun c32 => ?_) (fun c32 => ?_)
      · have q32 := f_le (a := 10) (by decide) (by omega) c32
        rw [fold9_end q32] at hs
        refine fk_aload_n hC dX6_setPolicy_51 rfl rfl ?_
        refine fk_getM_0 hC hm iX6 (by decide +kernel) dX6_setPolicy_52 ?_
        refine fk_bipush (v := 9) hC dX6_setPolicy_55 (by decide) ?_
        refine fk_iconst (v := (-1)) hC dX6_setPolicy_57 (by decide) ?_
        refine fk_st_at hC (j := 9) hm rfl (by omega) dX6_setPolicy_58 ?_
        refine fk_aload_n hC dX6_setPolicy_59 rfl rfl ?_
        refine fk_bipush (v := 7) hC dX6_setPolicy_60 (by decide) ?_
        refine fk_iload_n hC dX6_setPolicy_62 rfl rfl ?_
        refine fk_callV hC hN (kX6_put l D K NL ad _ x hm _ _ 7 rfl (by decide)) hm.1 (f_E310 _ _ _ _ _) rfl (cwV 2 hC.1.2.2.2.2 gX6_setPolicy_X6_put rfl rfl rfl (by decide +kernel) ⟨Nat.le_of_ble_eq_true rfl, Nat.le_of_ble_eq_true rfl⟩) rfl rfl (Nat.le_of_ble_eq_true rfl) dX6_setPolicy_63 ⟨Nat.zero_le _, Nat.zero_le _⟩ ?_
        exact fk_iret hC hr hk dX6_setPolicy_66 (by unfold mM_pol0; rw [hs]) (by unfold mM_pol mM_pol0; rw [hs]) rfl
      · have q32 := f_nle (a := 10) (by decide) (by omega) c32
        refine fk_aload_n hC dX6_setPolicy_35 rfl rfl ?_
        refine fk_getM_0 hC hm iX6 (by decide +kernel) dX6_setPolicy_36 ?_
        refine fk_bipush (v := 113) hC dX6_setPolicy_39 (by decide) ?_
        refine fk_iload_n hC dX6_setPolicy_41 rfl rfl ?_
        refine fk_iadd hC dX6_setPolicy_42 ?_
        refine fk_iconst (v := 0) hC dX6_setPolicy_43 (by decide) ?_
        refine fk_st_at hC (j := 113 + k) hm (nI_add 113 k) (by omega) dX6_setPolicy_44 ?_
        refine fk_iinc hC dX6_setPolicy_45 rfl (f_inc k) (by decide) rfl ?_
        refine fk_goto (tgt := 29) hC dX6_setPolicy_48 (by decide) ?_
        exact ih (10 - (k + 1)) (by omega) (k + 1) _ rfl (by omega) (hs.trans (fold9_step q32))
  refine fk_aload_n hC dX6_setPolicy_0 rfl rfl ?_
  refine fk_iload_n hC dX6_setPolicy_1 rfl rfl ?_
  refine fk_iconst (v := 0) hC dX6_setPolicy_2 (by decide) ?_
  refine fk_iconst (v := 4) hC dX6_setPolicy_3 (by decide) ?_
  refine fk_callS hC hN (kX6_in l D K NL ad _ x _ _ _) (va_cwS 3 hC.1.2.2.2.2 gX6_setPolicy_X6_in rfl rfl rfl (by decide +kernel) ⟨Nat.le_of_ble_eq_true rfl, Nat.le_of_ble_eq_true rfl⟩) rfl rfl (Nat.le_of_ble_eq_true rfl) dX6_setPolicy_4 ⟨Nat.zero_le _, Nat.zero_le _⟩ ?_
  refine fk_topi (inV_t h) ?_
  refine fk_if_eq (tgt := 14) hC dX6_setPolicy_7 (by decide) (fun c7 => ?_) (fun c7 => ?_)
  · exact absurd c7 (by decide)
  · refine fk_iconst (v := 0) hC dX6_setPolicy_10 (by decide) ?_
    refine fk_goto (tgt := 15) hC dX6_setPolicy_11 (by decide) ?_
    refine fk_putM_3 hC hm iX6 (by decide +kernel) dX6_setPolicy_15 ?_
    refine fk_aload_n hC dX6_setPolicy_18 rfl rfl ?_
    refine fk_getM_3 hC hm iX6 (by decide +kernel) dX6_setPolicy_19 ?_
    refine fk_topi pk_us ?_
    refine fk_if_eq (tgt := 27) hC dX6_setPolicy_22 (by decide) (fun c22 => ?_) (fun c22 => ?_)
    · refine fk_iconst (v := 0) hC dX6_setPolicy_27 (by decide) ?_
      refine fk_istore_n hC dX6_setPolicy_28 rfl (by decide) rfl ?_
      exact lp 10 0 _ rfl (Nat.zero_le _) rfl
    · exact absurd c22 (by decide)

set_option maxHeartbeats 4000000 in
set_option maxRecDepth 100000 in
theorem eX6_setPolicy (l : Launch) (D : va_G) (K : Nat → ClassId) (NL : List Nat) (ad : Nat → Nat) (G : fM) (x : fX) (hm : f_EM NL) (a : Int32) (h : ¬ rng a 0 4) : Kd l yX6_setPolicy wsX6_setPolicy { frames := 1, cells := 0, slots := 0, locals := 22 } vwCl D K NL ad [.ref (ad 310), .int a] G x (some (.int 0)) (upd G (iT 0) 1) x := by
  refine Kd.of (cc := cX6_setPolicy) (maxL := 3) (ret := (some .int)) (L := [some (.ref (ad 310)), some (.int a), none]) (by decide +kernel) rfl rfl (Nat.le_of_ble_eq_true rfl) ?_
  intro p e s m args below meth c hC hN hr hk hnme
  have iX6 : ∀ w ∈ wsX60, w ∈ wsX6_setPolicy := by decide +kernel
  refine fk_aload_n hC dX6_setPolicy_0 rfl rfl ?_
  refine fk_iload_n hC dX6_setPolicy_1 rfl rfl ?_
  refine fk_iconst (v := 0) hC dX6_setPolicy_2 (by decide) ?_
  refine fk_iconst (v := 4) hC dX6_setPolicy_3 (by decide) ?_
  refine fk_callS hC hN (kX6_in l D K NL ad _ x _ _ _) (va_cwS 3 hC.1.2.2.2.2 gX6_setPolicy_X6_in rfl rfl rfl (by decide +kernel) ⟨Nat.le_of_ble_eq_true rfl, Nat.le_of_ble_eq_true rfl⟩) rfl rfl (Nat.le_of_ble_eq_true rfl) dX6_setPolicy_4 ⟨Nat.zero_le _, Nat.zero_le _⟩ ?_
  refine fk_topi (inV_f h) ?_
  refine fk_if_eq (tgt := 14) hC dX6_setPolicy_7 (by decide) (fun c7 => ?_) (fun c7 => ?_)
  · refine fk_iconst (v := 1) hC dX6_setPolicy_14 (by decide) ?_
    refine fk_putM_3 hC hm iX6 (by decide +kernel) dX6_setPolicy_15 ?_
    refine fk_aload_n hC dX6_setPolicy_18 rfl rfl ?_
    refine fk_getM_3 hC hm iX6 (by decide +kernel) dX6_setPolicy_19 ?_
    refine fk_topi pk_us ?_
    refine fk_if_eq (tgt := 27) hC dX6_setPolicy_22 (by decide) (fun c22 => ?_) (fun c22 => ?_)
    · exact absurd c22 (by decide)
    · refine fk_iconst (v := 0) hC dX6_setPolicy_25 (by decide) ?_
      exact fk_iret hC hr hk dX6_setPolicy_26 rfl rfl rfl
  · exact absurd c7 (by decide)

set_option maxHeartbeats 4000000 in
set_option maxRecDepth 100000 in
theorem kX6_servers (l : Launch) (D : va_G) (K : Nat → ClassId) (NL : List Nat) (ad : Nat → Nat) (G : fM) (x : fX) (hm : f_EM NL) : Kd l yX6_servers wsX6_servers { frames := 0, cells := 0, slots := 0, locals := 0 } vwCl D K NL ad [.ref (ad 310)] G x (some (.int (upd G (iT 0) 0 (iM 0)))) (upd G (iT 0) 0) x := by
  refine Kd.of (cc := cX6_servers) (maxL := 1) (ret := (some .int)) (L := [some (.ref (ad 310))]) (by decide +kernel) rfl rfl (Nat.le_of_ble_eq_true rfl) ?_
  intro p e s m args below meth c hC hN hr hk hnme
  have iX6 : ∀ w ∈ wsX60, w ∈ wsX6_servers := by decide +kernel
  refine fk_aload_n hC dX6_servers_0 rfl rfl ?_
  refine fk_iconst (v := 0) hC dX6_servers_1 (by decide) ?_
  refine fk_putM_3 hC hm iX6 (by decide +kernel) dX6_servers_2 ?_
  refine fk_aload_n hC dX6_servers_5 rfl rfl ?_
  refine fk_getM_0 hC hm iX6 (by decide +kernel) dX6_servers_6 ?_
  refine fk_iconst (v := 0) hC dX6_servers_9 (by decide) ?_
  refine fk_ld_at hC (j := 0) hm rfl (by omega) dX6_servers_10 ?_
  exact fk_iret hC hr hk dX6_servers_11 rfl rfl rfl

set_option maxHeartbeats 4000000 in
set_option maxRecDepth 100000 in
theorem kX6_setSeed (l : Launch) (D : va_G) (K : Nat → ClassId) (NL : List Nat) (ad : Nat → Nat) (G : fM) (x : fX) (hm : f_EM NL) (a : Int32) : Kd l yX6_setSeed wsX6_setSeed { frames := 1, cells := 0, slots := 0, locals := 23 } vwCl D K NL ad [.ref (ad 310), .int a] G x (some (.int (upd G (iT 0) 0 (iM 8)))) (upd (upd G (iT 0) 0) (iM 8) a) x := by
  refine Kd.of (cc := cX6_setSeed) (maxL := 2) (ret := (some .int)) (L := [some (.ref (ad 310)), some (.int a)]) (by decide +kernel) rfl rfl (Nat.le_of_ble_eq_true rfl) ?_
  intro p e s m args below meth c hC hN hr hk hnme
  have iX6 : ∀ w ∈ wsX60, w ∈ wsX6_setSeed := by decide +kernel
  refine fk_aload_n hC dX6_setSeed_0 rfl rfl ?_
  refine fk_iconst (v := 0) hC dX6_setSeed_1 (by decide) ?_
  refine fk_putM_3 hC hm iX6 (by decide +kernel) dX6_setSeed_2 ?_
  refine fk_aload_n hC dX6_setSeed_5 rfl rfl ?_
  refine fk_bipush (v := 8) hC dX6_setSeed_6 (by decide) ?_
  refine fk_iload_n hC dX6_setSeed_8 rfl rfl ?_
  refine fk_callV hC hN (kX6_put l D K NL ad _ x hm _ _ 8 rfl (by decide)) hm.1 (f_E310 _ _ _ _ _) rfl (cwV 2 hC.1.2.2.2.2 gX6_setSeed_X6_put rfl rfl rfl (by decide +kernel) ⟨Nat.le_of_ble_eq_true rfl, Nat.le_of_ble_eq_true rfl⟩) rfl rfl (Nat.le_of_ble_eq_true rfl) dX6_setSeed_9 ⟨Nat.zero_le _, Nat.zero_le _⟩ ?_
  exact fk_iret hC hr hk dX6_setSeed_12 rfl rfl rfl

set_option maxHeartbeats 4000000 in
set_option maxRecDepth 100000 in
theorem kX6_setThresholds (l : Launch) (D : va_G) (K : Nat → ClassId) (NL : List Nat) (ad : Nat → Nat) (G : fM) (x : fX) (hm : f_EM NL) (a b : Int32) (h1 : rng a 1 9) (h2 : rng b 1 9) : Kd l yX6_setThresholds wsX6_setThresholds { frames := 1, cells := 0, slots := 0, locals := 22 } vwCl D K NL ad [.ref (ad 310), .int a, .int b] G x none (upd (upd (upd G (iT 0) 0) (iM 2) a) (iM 3) b) x := by
  refine Kd.of (cc := cX6_setThresholds) (maxL := 3) (ret := none) (L := [some (.ref (ad 310)), some (.int a), some (.int b)]) (by decide +kernel) rfl rfl (Nat.le_of_ble_eq_true rfl) ?_
  intro p e s m args below meth c hC hN hr hk hnme
  have iX6 : ∀ w ∈ wsX60, w ∈ wsX6_setThresholds := by decide +kernel
  refine fk_aload_n hC dX6_setThresholds_0 rfl rfl ?_
  refine fk_iload_n hC dX6_setThresholds_1 rfl rfl ?_
  refine fk_iconst (v := 1) hC dX6_setThresholds_2 (by decide) ?_
  refine fk_bipush (v := 9) hC dX6_setThresholds_3 (by decide) ?_
  refine fk_callS hC hN (kX6_in l D K NL ad _ x _ _ _) (va_cwS 3 hC.1.2.2.2.2 gX6_setThresholds_X6_in rfl rfl rfl (by decide +kernel) ⟨Nat.le_of_ble_eq_true rfl, Nat.le_of_ble_eq_true rfl⟩) rfl rfl (Nat.le_of_ble_eq_true rfl) dX6_setThresholds_5 ⟨Nat.zero_le _, Nat.zero_le _⟩ ?_
  refine fk_topi (inV_t h1) ?_
  refine fk_if_eq (tgt := 25) hC dX6_setThresholds_8 (by decide) (fun c8 => ?_) (fun c8 => ?_)
  · exact absurd c8 (by decide)
  · refine fk_iload_n hC dX6_setThresholds_11 rfl rfl ?_
    refine fk_iconst (v := 1) hC dX6_setThresholds_12 (by decide) ?_
    refine fk_bipush (v := 9) hC dX6_setThresholds_13 (by decide) ?_
    refine fk_callS hC hN (kX6_in l D K NL ad _ x _ _ _) (va_cwS 3 hC.1.2.2.2.2 gX6_setThresholds_X6_in rfl rfl rfl (by decide +kernel) ⟨Nat.le_of_ble_eq_true rfl, Nat.le_of_ble_eq_true rfl⟩) rfl rfl (Nat.le_of_ble_eq_true rfl) dX6_setThresholds_15 ⟨Nat.zero_le _, Nat.zero_le _⟩ ?_
    refine fk_topi (inV_t h2) ?_
    refine fk_if_eq (tgt := 25) hC dX6_setThresholds_18 (by decide) (fun c18 => ?_) (fun c18 => ?_)
    · exact absurd c18 (by decide)
    · refine fk_iconst (v := 0) hC dX6_setThresholds_21 (by decide) ?_
      refine fk_goto (tgt := 26) hC dX6_setThresholds_22 (by decide) ?_
      refine fk_putM_3 hC hm iX6 (by decide +kernel) dX6_setThresholds_26 ?_
      refine fk_aload_n hC dX6_setThresholds_29 rfl rfl ?_
      refine fk_getM_3 hC hm iX6 (by decide +kernel) dX6_setThresholds_30 ?_
      refine fk_topi pk_us ?_
      refine fk_if_ne (tgt := 50) hC dX6_setThresholds_33 (by decide) (fun c33 => ?_) (fun c33 => ?_)
      · exact absurd c33 (by decide)
      · refine fk_aload_n hC dX6_setThresholds_36 rfl rfl ?_
        refine fk_getM_0 hC hm iX6 (by decide +kernel) dX6_setThresholds_37 ?_
        refine fk_iconst (v := 2) hC dX6_setThresholds_40 (by decide) ?_
        refine fk_iload_n hC dX6_setThresholds_41 rfl rfl ?_
        refine fk_st_at hC (j := 2) hm rfl (by omega) dX6_setThresholds_42 ?_
        refine fk_aload_n hC dX6_setThresholds_43 rfl rfl ?_
        refine fk_getM_0 hC hm iX6 (by decide +kernel) dX6_setThresholds_44 ?_
        refine fk_iconst (v := 3) hC dX6_setThresholds_47 (by decide) ?_
        refine fk_iload_n hC dX6_setThresholds_48 rfl rfl ?_
        refine fk_st_at hC (j := 3) hm rfl (by omega) dX6_setThresholds_49 ?_
        exact fk_vret hC hr hk dX6_setThresholds_50 rfl rfl rfl

set_option maxHeartbeats 4000000 in
set_option maxRecDepth 100000 in
theorem eX6_setThresholds_1 (l : Launch) (D : va_G) (K : Nat → ClassId) (NL : List Nat) (ad : Nat → Nat) (G : fM) (x : fX) (hm : f_EM NL) (a b : Int32) (h1 : ¬ rng a 1 9) : Kd l yX6_setThresholds wsX6_setThresholds { frames := 1, cells := 0, slots := 0, locals := 22 } vwCl D K NL ad [.ref (ad 310), .int a, .int b] G x none (upd G (iT 0) 1) x := by
  refine Kd.of (cc := cX6_setThresholds) (maxL := 3) (ret := none) (L := [some (.ref (ad 310)), some (.int a), some (.int b)]) (by decide +kernel) rfl rfl (Nat.le_of_ble_eq_true rfl) ?_
  intro p e s m args below meth c hC hN hr hk hnme
  have iX6 : ∀ w ∈ wsX60, w ∈ wsX6_setThresholds := by decide +kernel
  refine fk_aload_n hC dX6_setThresholds_0 rfl rfl ?_
  refine fk_iload_n hC dX6_setThresholds_1 rfl rfl ?_
  refine fk_iconst (v := 1) hC dX6_setThresholds_2 (by decide) ?_
  refine fk_bipush (v := 9) hC dX6_setThresholds_3 (by decide) ?_
  refine fk_callS hC hN (kX6_in l D K NL ad _ x _ _ _) (va_cwS 3 hC.1.2.2.2.2 gX6_setThresholds_X6_in rfl rfl rfl (by decide +kernel) ⟨Nat.le_of_ble_eq_true rfl, Nat.le_of_ble_eq_true rfl⟩) rfl rfl (Nat.le_of_ble_eq_true rfl) dX6_setThresholds_5 ⟨Nat.zero_le _, Nat.zero_le _⟩ ?_
  refine fk_topi (inV_f h1) ?_
  refine fk_if_eq (tgt := 25) hC dX6_setThresholds_8 (by decide) (fun c8 => ?_) (fun c8 => ?_)
  · refine fk_iconst (v := 1) hC dX6_setThresholds_25 (by decide) ?_
    refine fk_putM_3 hC hm iX6 (by decide +kernel) dX6_setThresholds_26 ?_
    refine fk_aload_n hC dX6_setThresholds_29 rfl rfl ?_
    refine fk_getM_3 hC hm iX6 (by decide +kernel) dX6_setThresholds_30 ?_
    refine fk_topi pk_us ?_
    refine fk_if_ne (tgt := 50) hC dX6_setThresholds_33 (by decide) (fun c33 => ?_) (fun c33 => ?_)
    · exact fk_vret hC hr hk dX6_setThresholds_50 rfl rfl rfl
    · exact absurd c33 (by decide)
  · exact absurd c8 (by decide)

set_option maxHeartbeats 4000000 in
set_option maxRecDepth 100000 in
theorem eX6_setThresholds_2 (l : Launch) (D : va_G) (K : Nat → ClassId) (NL : List Nat) (ad : Nat → Nat) (G : fM) (x : fX) (hm : f_EM NL) (a b : Int32) (h1 : rng a 1 9) (h2 : ¬ rng b 1 9) : Kd l yX6_setThresholds wsX6_setThresholds { frames := 1, cells := 0, slots := 0, locals := 22 } vwCl D K NL ad [.ref (ad 310), .int a, .int b] G x none (upd G (iT 0) 1) x := by
  refine Kd.of (cc := cX6_setThresholds) (maxL := 3) (ret := none) (L := [some (.ref (ad 310)), some (.int a), some (.int b)]) (by decide +kernel) rfl rfl (Nat.le_of_ble_eq_true rfl) ?_
  intro p e s m args below meth c hC hN hr hk hnme
  have iX6 : ∀ w ∈ wsX60, w ∈ wsX6_setThresholds := by decide +kernel
  refine fk_aload_n hC dX6_setThresholds_0 rfl rfl ?_
  refine fk_iload_n hC dX6_setThresholds_1 rfl rfl ?_
  refine fk_iconst (v := 1) hC dX6_setThresholds_2 (by decide) ?_
  refine fk_bipush (v := 9) hC dX6_setThresholds_3 (by decide) ?_
  refine fk_callS hC hN (kX6_in l D K NL ad _ x _ _ _) (va_cwS 3 hC.1.2.2.2.2 gX6_setThresholds_X6_in rfl rfl rfl (by decide +kernel) ⟨Nat.le_of_ble_eq_true rfl, Nat.le_of_ble_eq_true rfl⟩) rfl rfl (Nat.le_of_ble_eq_true rfl) dX6_setThresholds_5 ⟨Nat.zero_le _, Nat.zero_le _⟩ ?_
  refine fk_topi (inV_t h1) ?_
  refine fk_if_eq (tgt := 25) hC dX6_setThresholds_8 (by decide) (fun c8 => ?_) (fun c8 => ?_)
  · exact absurd c8 (by decide)
  · refine fk_iload_n hC dX6_setThresholds_11 rfl rfl ?_
    refine fk_iconst (v := 1) hC dX6_setThresholds_12 (by decide) ?_
    refine fk_bipush (v := 9) hC dX6_setThresholds_13 (by decide) ?_
    refine fk_callS hC hN (kX6_in l D K NL ad _ x _ _ _) (va_cwS 3 hC.1.2.2.2.2 gX6_setThresholds_X6_in rfl rfl rfl (by decide +kernel) ⟨Nat.le_of_ble_eq_true rfl, Nat.le_of_ble_eq_true rfl⟩) rfl rfl (Nat.le_of_ble_eq_true rfl) dX6_setThresholds_15 ⟨Nat.zero_le _, Nat.zero_le _⟩ ?_
    refine fk_topi (inV_f h2) ?_
    refine fk_if_eq (tgt := 25) hC dX6_setThresholds_18 (by decide) (fun c18 => ?_) (fun c18 => ?_)
    · refine fk_iconst (v := 1) hC dX6_setThresholds_25 (by decide) ?_
      refine fk_putM_3 hC hm iX6 (by decide +kernel) dX6_setThresholds_26 ?_
      refine fk_aload_n hC dX6_setThresholds_29 rfl rfl ?_
      refine fk_getM_3 hC hm iX6 (by decide +kernel) dX6_setThresholds_30 ?_
      refine fk_topi pk_us ?_
      refine fk_if_ne (tgt := 50) hC dX6_setThresholds_33 (by decide) (fun c33 => ?_) (fun c33 => ?_)
      · exact fk_vret hC hr hk dX6_setThresholds_50 rfl rfl rfl
      · exact absurd c33 (by decide)
    · exact absurd c18 (by decide)

def mM_add (cn : Nat) (wt cp : Int32) (G : fM) : fM := upd (upd (upd (upd (upd (upd G (iT 0) 0) (iM (13 + cn)) wt) (iM (23 + cn)) cp) (iM (73 + cn)) (-1)) (iM (103 + cn)) (-1)) (iM 0) (nI (cn + 1))
set_option maxHeartbeats 4000000 in
set_option maxRecDepth 100000 in
theorem kX6_addServer (l : Launch) (D : va_G) (K : Nat → ClassId) (NL : List Nat) (ad : Nat → Nat) (G : fM) (x : fX) (hm : f_EM NL) (cn : Nat) (hc : G (iM 0) = nI cn) (hc10 : cn < 10) (wt cp : Int32) (h1 : rng wt 1 10) (h2 : rng cp 1 20) : Kd l yX6_addServer wsX6_addServer { frames := 1, cells := 0, slots := 0, locals := 22 } vwCl D K NL ad [.ref (ad 310), .int wt, .int cp] G x (some (.int (nI cn))) (mM_add cn wt cp G) x := by
  refine Kd.of (cc := cX6_addServer) (maxL := 4) (ret := (some .int)) (L := [some (.ref (ad 310)), some (.int wt), some (.int cp), none]) (by decide +kernel) rfl rfl (Nat.le_of_ble_eq_true rfl) ?_
  intro p e s m args below meth c hC hN hr hk hnme
  have iX6 : ∀ w ∈ wsX60, w ∈ wsX6_addServer := by decide +kernel
  refine fk_aload_n hC dX6_addServer_0 rfl rfl ?_
  refine fk_iload_n hC dX6_addServer_1 rfl rfl ?_
  refine fk_iconst (v := 1) hC dX6_addServer_2 (by decide) ?_
  refine fk_bipush (v := 10) hC dX6_addServer_3 (by decide) ?_
  refine fk_callS hC hN (kX6_in l D K NL ad _ x _ _ _) (va_cwS 3 hC.1.2.2.2.2 gX6_addServer_X6_in rfl rfl rfl (by decide +kernel) ⟨Nat.le_of_ble_eq_true rfl, Nat.le_of_ble_eq_true rfl⟩) rfl rfl (Nat.le_of_ble_eq_true rfl) dX6_addServer_5 ⟨Nat.zero_le _, Nat.zero_le _⟩ ?_
  refine fk_topi (inV_t h1) ?_
  refine fk_if_eq (tgt := 21) hC dX6_addServer_8 (by decide) (fun c8 => ?_) (fun c8 => ?_)
  · exact absurd c8 (by decide)
  · refine fk_iload_n hC dX6_addServer_11 rfl rfl ?_
    refine fk_iconst (v := 1) hC dX6_addServer_12 (by decide) ?_
    refine fk_bipush (v := 20) hC dX6_addServer_13 (by decide) ?_
    refine fk_callS hC hN (kX6_in l D K NL ad _ x _ _ _) (va_cwS 3 hC.1.2.2.2.2 gX6_addServer_X6_in rfl rfl rfl (by decide +kernel) ⟨Nat.le_of_ble_eq_true rfl, Nat.le_of_ble_eq_true rfl⟩) rfl rfl (Nat.le_of_ble_eq_true rfl) dX6_addServer_15 ⟨Nat.zero_le _, Nat.zero_le _⟩ ?_
    refine fk_topi (inV_t h2) ?_
    refine fk_if_ne (tgt := 25) hC dX6_addServer_18 (by decide) (fun c18 => ?_) (fun c18 => ?_)
    · refine fk_aload_n hC dX6_addServer_25 rfl rfl ?_
      refine fk_getM_0 hC hm iX6 (by decide +kernel) dX6_addServer_26 ?_
      refine fk_iconst (v := 0) hC dX6_addServer_29 (by decide) ?_
      refine fk_ld_at hC (j := 0) hm rfl (by omega) dX6_addServer_30 ?_
      refine fk_topi hc ?_
      refine fk_bipush (v := 10) hC dX6_addServer_31 (by decide) ?_
      refine fk_icmp_ne (tgt := 40) hC dX6_addServer_33 (by decide) (fun c33 => ?_) (fun c33 => ?_)
      · refine fk_iconst (v := 0) hC dX6_addServer_40 (by decide) ?_
        refine fk_putM_3 hC hm iX6 (by decide +kernel) dX6_addServer_41 ?_
        refine fk_aload_n hC dX6_addServer_44 rfl rfl ?_
        refine fk_getM_3 hC hm iX6 (by decide +kernel) dX6_addServer_45 ?_
        refine fk_topi pk_us ?_
        refine fk_if_eq (tgt := 53) hC dX6_addServer_48 (by decide) (fun c48 => ?_) (fun c48 => ?_)
        · refine fk_aload_n hC dX6_addServer_53 rfl rfl ?_
          refine fk_getM_0 hC hm iX6 (by decide +kernel) dX6_addServer_54 ?_
          refine fk_iconst (v := 0) hC dX6_addServer_57 (by decide) ?_
          refine fk_ld_at hC (j := 0) hm rfl (by omega) dX6_addServer_58 ?_
          refine fk_topi (show _ = nI cn by rw [pk_un (by first | (unfold iM iT; omega) | (unfold iM; omega))]; exact hc) ?_
          refine fk_istore_n hC dX6_addServer_59 rfl (by decide) rfl ?_
          refine fk_aload_n hC dX6_addServer_60 rfl rfl ?_
          refine fk_getM_0 hC hm iX6 (by decide +kernel) dX6_addServer_61 ?_
          refine fk_bipush (v := 13) hC dX6_addServer_64 (by decide) ?_
          refine fk_iload_n hC dX6_addServer_66 rfl rfl ?_
          refine fk_iadd hC dX6_addServer_67 ?_
          refine fk_iload_n hC dX6_addServer_68 rfl rfl ?_
          refine fk_st_at hC (j := 13 + cn) hm (nI_add 13 cn) (by omega) dX6_addServer_69 ?_
          refine fk_aload_n hC dX6_addServer_70 rfl rfl ?_
          refine fk_getM_0 hC hm iX6 (by decide +kernel) dX6_addServer_71 ?_
          refine fk_bipush (v := 23) hC dX6_addServer_74 (by decide) ?_
          refine fk_iload_n hC dX6_addServer_76 rfl rfl ?_
          refine fk_iadd hC dX6_addServer_77 ?_
          refine fk_iload_n hC dX6_addServer_78 rfl rfl ?_
          refine fk_st_at hC (j := 23 + cn) hm (nI_add 23 cn) (by omega) dX6_addServer_79 ?_
          refine fk_aload_n hC dX6_addServer_80 rfl rfl ?_
          refine fk_getM_0 hC hm iX6 (by decide +kernel) dX6_addServer_81 ?_
          refine fk_bipush (v := 73) hC dX6_addServer_84 (by decide) ?_
          refine fk_iload_n hC dX6_addServer_86 rfl rfl ?_
          refine fk_iadd hC dX6_addServer_87 ?_
          refine fk_iconst (v := (-1)) hC dX6_addServer_88 (by decide) ?_
          refine fk_st_at hC (j := 73 + cn) hm (nI_add 73 cn) (by omega) dX6_addServer_89 ?_
          refine fk_aload_n hC dX6_addServer_90 rfl rfl ?_
          refine fk_getM_0 hC hm iX6 (by decide +kernel) dX6_addServer_91 ?_
          refine fk_bipush (v := 103) hC dX6_addServer_94 (by decide) ?_
          refine fk_iload_n hC dX6_addServer_96 rfl rfl ?_
          refine fk_iadd hC dX6_addServer_97 ?_
          refine fk_iconst (v := (-1)) hC dX6_addServer_98 (by decide) ?_
          refine fk_st_at hC (j := 103 + cn) hm (nI_add 103 cn) (by omega) dX6_addServer_99 ?_
          refine fk_aload_n hC dX6_addServer_100 rfl rfl ?_
          refine fk_getM_0 hC hm iX6 (by decide +kernel) dX6_addServer_101 ?_
          refine fk_iconst (v := 0) hC dX6_addServer_104 (by decide) ?_
          refine fk_dup2 hC dX6_addServer_105 rfl rfl ?_
          refine fk_ld_at hC (j := 0) hm rfl (by omega) dX6_addServer_106 ?_
          refine fk_topi (show _ = nI cn by rw [pk_un (by first | (unfold iM iT; omega) | (unfold iM; omega)), pk_un (by first | (unfold iM iT; omega) | (unfold iM; omega)), pk_un (by first | (unfold iM iT; omega) | (unfold iM; omega)), pk_un (by first | (unfold iM iT; omega) | (unfold iM; omega)), pk_un (by first | (unfold iM iT; omega) | (unfold iM; omega))]; exact hc) ?_
          refine fk_iconst (v := 1) hC dX6_addServer_107 (by decide) ?_
          refine fk_iadd hC dX6_addServer_108 ?_
          refine fk_topi (nI_1 cn) ?_
          refine fk_st_at hC (j := 0) hm rfl (by omega) dX6_addServer_109 ?_
          refine fk_iload_n hC dX6_addServer_110 rfl rfl ?_
          exact fk_iret hC hr hk dX6_addServer_111 rfl rfl rfl
        · exact absurd c48 (by decide)
      · exact absurd c33 (fun h => absurd ((nI_eq (b := 10) (by omega) (by decide)).mp h) (by omega))
    · exact absurd c18 (by decide)

set_option maxHeartbeats 4000000 in
set_option maxRecDepth 100000 in
theorem eX6_addServer_1 (l : Launch) (D : va_G) (K : Nat → ClassId) (NL : List Nat) (ad : Nat → Nat) (G : fM) (x : fX) (hm : f_EM NL) (wt cp : Int32) (h1 : ¬ rng wt 1 10) : Kd l yX6_addServer wsX6_addServer { frames := 1, cells := 0, slots := 0, locals := 22 } vwCl D K NL ad [.ref (ad 310), .int wt, .int cp] G x (some (.int 0)) (upd G (iT 0) 1) x := by
  refine Kd.of (cc := cX6_addServer) (maxL := 4) (ret := (some .int)) (L := [some (.ref (ad 310)), some (.int wt), some (.int cp), none]) (by decide +kernel) rfl rfl (Nat.le_of_ble_eq_true rfl) ?_
  intro p e s m args below meth c hC hN hr hk hnme
  have iX6 : ∀ w ∈ wsX60, w ∈ wsX6_addServer := by decide +kernel
  refine fk_aload_n hC dX6_addServer_0 rfl rfl ?_
  refine fk_iload_n hC dX6_addServer_1 rfl rfl ?_
  refine fk_iconst (v := 1) hC dX6_addServer_2 (by decide) ?_
  refine fk_bipush (v := 10) hC dX6_addServer_3 (by decide) ?_
  refine fk_callS hC hN (kX6_in l D K NL ad _ x _ _ _) (va_cwS 3 hC.1.2.2.2.2 gX6_addServer_X6_in rfl rfl rfl (by decide +kernel) ⟨Nat.le_of_ble_eq_true rfl, Nat.le_of_ble_eq_true rfl⟩) rfl rfl (Nat.le_of_ble_eq_true rfl) dX6_addServer_5 ⟨Nat.zero_le _, Nat.zero_le _⟩ ?_
  refine fk_topi (inV_f h1) ?_
  refine fk_if_eq (tgt := 21) hC dX6_addServer_8 (by decide) (fun c8 => ?_) (fun c8 => ?_)
  · refine fk_iconst (v := 1) hC dX6_addServer_21 (by decide) ?_
    refine fk_goto (tgt := 41) hC dX6_addServer_22 (by decide) ?_
    refine fk_putM_3 hC hm iX6 (by decide +kernel) dX6_addServer_41 ?_
    refine fk_aload_n hC dX6_addServer_44 rfl rfl ?_
    refine fk_getM_3 hC hm iX6 (by decide +kernel) dX6_addServer_45 ?_
    refine fk_topi pk_us ?_
    refine fk_if_eq (tgt := 53) hC dX6_addServer_48 (by decide) (fun c48 => ?_) (fun c48 => ?_)
    · exact absurd c48 (by decide)
    · refine fk_iconst (v := 0) hC dX6_addServer_51 (by decide) ?_
      exact fk_iret hC hr hk dX6_addServer_52 rfl rfl rfl
  · exact absurd c8 (by decide)

set_option maxHeartbeats 4000000 in
set_option maxRecDepth 100000 in
theorem eX6_addServer_2 (l : Launch) (D : va_G) (K : Nat → ClassId) (NL : List Nat) (ad : Nat → Nat) (G : fM) (x : fX) (hm : f_EM NL) (wt cp : Int32) (h1 : rng wt 1 10) (h2 : ¬ rng cp 1 20) : Kd l yX6_addServer wsX6_addServer { frames := 1, cells := 0, slots := 0, locals := 22 } vwCl D K NL ad [.ref (ad 310), .int wt, .int cp] G x (some (.int 0)) (upd G (iT 0) 1) x := by
  refine Kd.of (cc := cX6_addServer) (maxL := 4) (ret := (some .int)) (L := [some (.ref (ad 310)), some (.int wt), some (.int cp), none]) (by decide +kernel) rfl rfl (Nat.le_of_ble_eq_true rfl) ?_
  intro p e s m args below meth c hC hN hr hk hnme
  have iX6 : ∀ w ∈ wsX60, w ∈ wsX6_addServer := by decide +kernel
  refine fk_aload_n hC dX6_addServer_0 rfl rfl ?_
  refine fk_iload_n hC dX6_addServer_1 rfl rfl ?_
  refine fk_iconst (v := 1) hC dX6_addServer_2 (by decide) ?_
  refine fk_bipush (v := 10) hC dX6_addServer_3 (by decide) ?_
  refine fk_callS hC hN (kX6_in l D K NL ad _ x _ _ _) (va_cwS 3 hC.1.2.2.2.2 gX6_addServer_X6_in rfl rfl rfl (by decide +kernel) ⟨Nat.le_of_ble_eq_true rfl, Nat.le_of_ble_eq_true rfl⟩) rfl rfl (Nat.le_of_ble_eq_true rfl) dX6_addServer_5 ⟨Nat.zero_le _, Nat.zero_le _⟩ ?_
  refine fk_topi (inV_t h1) ?_
  refine fk_if_eq (tgt := 21) hC dX6_addServer_8 (by decide) (fun c8 => ?_) (fun c8 => ?_)
  · exact absurd c8 (by decide)
  · refine fk_iload_n hC dX6_addServer_11 rfl rfl ?_
    refine fk_iconst (v := 1) hC dX6_addServer_12 (by decide) ?_
    refine fk_bipush (v := 20) hC dX6_addServer_13 (by decide) ?_
    refine fk_callS hC hN (kX6_in l D K NL ad _ x _ _ _) (va_cwS 3 hC.1.2.2.2.2 gX6_addServer_X6_in rfl rfl rfl (by decide +kernel) ⟨Nat.le_of_ble_eq_true rfl, Nat.le_of_ble_eq_true rfl⟩) rfl rfl (Nat.le_of_ble_eq_true rfl) dX6_addServer_15 ⟨Nat.zero_le _, Nat.zero_le _⟩ ?_
    refine fk_topi (inV_f h2) ?_
    refine fk_if_ne (tgt := 25) hC dX6_addServer_18 (by decide) (fun c18 => ?_) (fun c18 => ?_)
    · exact absurd c18 (by decide)
    · refine fk_iconst (v := 1) hC dX6_addServer_21 (by decide) ?_
      refine fk_goto (tgt := 41) hC dX6_addServer_22 (by decide) ?_
      refine fk_putM_3 hC hm iX6 (by decide +kernel) dX6_addServer_41 ?_
      refine fk_aload_n hC dX6_addServer_44 rfl rfl ?_
      refine fk_getM_3 hC hm iX6 (by decide +kernel) dX6_addServer_45 ?_
      refine fk_topi pk_us ?_
      refine fk_if_eq (tgt := 53) hC dX6_addServer_48 (by decide) (fun c48 => ?_) (fun c48 => ?_)
      · exact absurd c48 (by decide)
      · refine fk_iconst (v := 0) hC dX6_addServer_51 (by decide) ?_
        exact fk_iret hC hr hk dX6_addServer_52 rfl rfl rfl

set_option maxHeartbeats 4000000 in
set_option maxRecDepth 100000 in
theorem eX6_addServer_3 (l : Launch) (D : va_G) (K : Nat → ClassId) (NL : List Nat) (ad : Nat → Nat) (G : fM) (x : fX) (hm : f_EM NL) (hc : G (iM 0) = nI 10) (wt cp : Int32) (h1 : rng wt 1 10) (h2 : rng cp 1 20) : Kd l yX6_addServer wsX6_addServer { frames := 1, cells := 0, slots := 0, locals := 22 } vwCl D K NL ad [.ref (ad 310), .int wt, .int cp] G x (some (.int 0)) (upd G (iT 0) 2) x := by
  refine Kd.of (cc := cX6_addServer) (maxL := 4) (ret := (some .int)) (L := [some (.ref (ad 310)), some (.int wt), some (.int cp), none]) (by decide +kernel) rfl rfl (Nat.le_of_ble_eq_true rfl) ?_
  intro p e s m args below meth c hC hN hr hk hnme
  have iX6 : ∀ w ∈ wsX60, w ∈ wsX6_addServer := by decide +kernel
  refine fk_aload_n hC dX6_addServer_0 rfl rfl ?_
  refine fk_iload_n hC dX6_addServer_1 rfl rfl ?_
  refine fk_iconst (v := 1) hC dX6_addServer_2 (by decide) ?_
  refine fk_bipush (v := 10) hC dX6_addServer_3 (by decide) ?_
  refine fk_callS hC hN (kX6_in l D K NL ad _ x _ _ _) (va_cwS 3 hC.1.2.2.2.2 gX6_addServer_X6_in rfl rfl rfl (by decide +kernel) ⟨Nat.le_of_ble_eq_true rfl, Nat.le_of_ble_eq_true rfl⟩) rfl rfl (Nat.le_of_ble_eq_true rfl) dX6_addServer_5 ⟨Nat.zero_le _, Nat.zero_le _⟩ ?_
  refine fk_topi (inV_t h1) ?_
  refine fk_if_eq (tgt := 21) hC dX6_addServer_8 (by decide) (fun c8 => ?_) (fun c8 => ?_)
  · exact absurd c8 (by decide)
  · refine fk_iload_n hC dX6_addServer_11 rfl rfl ?_
    refine fk_iconst (v := 1) hC dX6_addServer_12 (by decide) ?_
    refine fk_bipush (v := 20) hC dX6_addServer_13 (by decide) ?_
    refine fk_callS hC hN (kX6_in l D K NL ad _ x _ _ _) (va_cwS 3 hC.1.2.2.2.2 gX6_addServer_X6_in rfl rfl rfl (by decide +kernel) ⟨Nat.le_of_ble_eq_true rfl, Nat.le_of_ble_eq_true rfl⟩) rfl rfl (Nat.le_of_ble_eq_true rfl) dX6_addServer_15 ⟨Nat.zero_le _, Nat.zero_le _⟩ ?_
    refine fk_topi (inV_t h2) ?_
    refine fk_if_ne (tgt := 25) hC dX6_addServer_18 (by decide) (fun c18 => ?_) (fun c18 => ?_)
    · refine fk_aload_n hC dX6_addServer_25 rfl rfl ?_
      refine fk_getM_0 hC hm iX6 (by decide +kernel) dX6_addServer_26 ?_
      refine fk_iconst (v := 0) hC dX6_addServer_29 (by decide) ?_
      refine fk_ld_at hC (j := 0) hm rfl (by omega) dX6_addServer_30 ?_
      refine fk_topi hc ?_
      refine fk_bipush (v := 10) hC dX6_addServer_31 (by decide) ?_
      refine fk_icmp_ne (tgt := 40) hC dX6_addServer_33 (by decide) (fun c33 => ?_) (fun c33 => ?_)
      · exact absurd rfl c33
      · refine fk_iconst (v := 2) hC dX6_addServer_36 (by decide) ?_
        refine fk_goto (tgt := 41) hC dX6_addServer_37 (by decide) ?_
        refine fk_putM_3 hC hm iX6 (by decide +kernel) dX6_addServer_41 ?_
        refine fk_aload_n hC dX6_addServer_44 rfl rfl ?_
        refine fk_getM_3 hC hm iX6 (by decide +kernel) dX6_addServer_45 ?_
        refine fk_topi pk_us ?_
        refine fk_if_eq (tgt := 53) hC dX6_addServer_48 (by decide) (fun c48 => ?_) (fun c48 => ?_)
        · exact absurd c48 (by decide)
        · refine fk_iconst (v := 0) hC dX6_addServer_51 (by decide) ?_
          exact fk_iret hC hr hk dX6_addServer_52 rfl rfl rfl
    · exact absurd c18 (by decide)

set_option maxHeartbeats 4000000 in
set_option maxRecDepth 100000 in
theorem kX6_isAvailable (l : Launch) (D : va_G) (K : Nat → ClassId) (NL : List Nat) (ad : Nat → Nat) (G : fM) (x : fX) (hm : f_EM NL) (cn : Nat) (hc : G (iM 0) = nI cn) (hc10 : cn ≤ 10) (i : Nat) (hi : i < cn)  : Kd l yX6_isAvailable wsX6_isAvailable { frames := 2, cells := 0, slots := 0, locals := 43 } vwCl D K NL ad [.ref (ad 310), .int (nI i)] G x (some (.int (mM_acc i (upd G (iT 0) 0)))) (upd G (iT 0) 0) x := by
  refine Kd.of (cc := cX6_isAvailable) (maxL := 2) (ret := (some .boolean)) (L := [some (.ref (ad 310)), some (.int (nI i))]) (by decide +kernel) rfl rfl (Nat.le_of_ble_eq_true rfl) ?_
  intro p e s m args below meth c hC hN hr hk hnme
  have iX6 : ∀ w ∈ wsX60, w ∈ wsX6_isAvailable := by decide +kernel
  refine fk_aload_n hC dX6_isAvailable_0 rfl rfl ?_
  refine fk_aload_n hC dX6_isAvailable_1 rfl rfl ?_
  refine fk_iload_n hC dX6_isAvailable_2 rfl rfl ?_
  refine fk_callV hC hN (kX6_isServer l D K NL ad _ x hm _) hm.1 (f_E310 _ _ _ _ _) rfl (cwV 1 hC.1.2.2.2.2 gX6_isAvailable_X6_isServer rfl rfl rfl (by decide +kernel) ⟨Nat.le_of_ble_eq_true rfl, Nat.le_of_ble_eq_true rfl⟩) rfl rfl (Nat.le_of_ble_eq_true rfl) dX6_isAvailable_3 ⟨Nat.zero_le _, Nat.zero_le _⟩ ?_
  refine fk_topi (show _ = (1 : Int32) by rw [hc]; exact inV_t (rng_i (by omega) hi)) ?_
  refine fk_if_eq (tgt := 13) hC dX6_isAvailable_6 (by decide) (fun c6 => ?_) (fun c6 => ?_)
  · exact absurd c6 (by decide)
  · refine fk_iconst (v := 0) hC dX6_isAvailable_9 (by decide) ?_
    refine fk_goto (tgt := 14) hC dX6_isAvailable_10 (by decide) ?_
    refine fk_putM_3 hC hm iX6 (by decide +kernel) dX6_isAvailable_14 ?_
    refine fk_aload_n hC dX6_isAvailable_17 rfl rfl ?_
    refine fk_getM_3 hC hm iX6 (by decide +kernel) dX6_isAvailable_18 ?_
    refine fk_topi pk_us ?_
    refine fk_if_ne (tgt := 36) hC dX6_isAvailable_21 (by decide) (fun c21 => ?_) (fun c21 => ?_)
    · exact absurd c21 (by decide)
    · refine fk_aload_n hC dX6_isAvailable_24 rfl rfl ?_
      refine fk_iload_n hC dX6_isAvailable_25 rfl rfl ?_
      refine fk_callV hC hN (kX6_mayTake l D K NL ad _ x hm i (by omega)) hm.1 (f_E310 _ _ _ _ _) rfl (cwV 1 hC.1.2.2.2.2 gX6_isAvailable_X6_mayTake rfl rfl rfl (by decide +kernel) ⟨Nat.le_of_ble_eq_true rfl, Nat.le_of_ble_eq_true rfl⟩) rfl rfl (Nat.le_of_ble_eq_true rfl) dX6_isAvailable_26 ⟨Nat.zero_le _, Nat.zero_le _⟩ ?_
      refine fk_if_eq (tgt := 36) hC dX6_isAvailable_29 (by decide) (fun c29 => ?_) (fun c29 => ?_)
      · refine fk_iconst (v := 0) hC dX6_isAvailable_36 (by decide) ?_
        exact fk_zret hC hr hk dX6_isAvailable_37 rfl (by rw [c29]) rfl rfl
      · refine fk_iconst (v := 1) hC dX6_isAvailable_32 (by decide) ?_
        refine fk_goto (tgt := 37) hC dX6_isAvailable_33 (by decide) ?_
        exact fk_zret hC hr hk dX6_isAvailable_37 rfl (by rw [mM_acc_01.resolve_left c29]) rfl rfl

set_option maxHeartbeats 4000000 in
set_option maxRecDepth 100000 in
theorem eX6_isAvailable (l : Launch) (D : va_G) (K : Nat → ClassId) (NL : List Nat) (ad : Nat → Nat) (G : fM) (x : fX) (hm : f_EM NL) (cn : Nat) (hc : G (iM 0) = nI cn) (hc10 : cn ≤ 10) (v : Int32) (h : v < 0 ∨ ¬ v < nI cn) : Kd l yX6_isAvailable wsX6_isAvailable { frames := 2, cells := 0, slots := 0, locals := 43 } vwCl D K NL ad [.ref (ad 310), .int v] G x (some (.int 0)) (upd G (iT 0) 1) x := by
  refine Kd.of (cc := cX6_isAvailable) (maxL := 2) (ret := (some .boolean)) (L := [some (.ref (ad 310)), some (.int v)]) (by decide +kernel) rfl rfl (Nat.le_of_ble_eq_true rfl) ?_
  intro p e s m args below meth c hC hN hr hk hnme
  have iX6 : ∀ w ∈ wsX60, w ∈ wsX6_isAvailable := by decide +kernel
  refine fk_aload_n hC dX6_isAvailable_0 rfl rfl ?_
  refine fk_aload_n hC dX6_isAvailable_1 rfl rfl ?_
  refine fk_iload_n hC dX6_isAvailable_2 rfl rfl ?_
  refine fk_callV hC hN (kX6_isServer l D K NL ad _ x hm _) hm.1 (f_E310 _ _ _ _ _) rfl (cwV 1 hC.1.2.2.2.2 gX6_isAvailable_X6_isServer rfl rfl rfl (by decide +kernel) ⟨Nat.le_of_ble_eq_true rfl, Nat.le_of_ble_eq_true rfl⟩) rfl rfl (Nat.le_of_ble_eq_true rfl) dX6_isAvailable_3 ⟨Nat.zero_le _, Nat.zero_le _⟩ ?_
  refine fk_topi (show _ = (0 : Int32) by rw [hc]; exact inV_f (rng_no (by omega) h)) ?_
  refine fk_if_eq (tgt := 13) hC dX6_isAvailable_6 (by decide) (fun c6 => ?_) (fun c6 => ?_)
  · refine fk_iconst (v := 1) hC dX6_isAvailable_13 (by decide) ?_
    refine fk_putM_3 hC hm iX6 (by decide +kernel) dX6_isAvailable_14 ?_
    refine fk_aload_n hC dX6_isAvailable_17 rfl rfl ?_
    refine fk_getM_3 hC hm iX6 (by decide +kernel) dX6_isAvailable_18 ?_
    refine fk_topi pk_us ?_
    refine fk_if_ne (tgt := 36) hC dX6_isAvailable_21 (by decide) (fun c21 => ?_) (fun c21 => ?_)
    · refine fk_iconst (v := 0) hC dX6_isAvailable_36 (by decide) ?_
      exact fk_zret hC hr hk dX6_isAvailable_37 rfl rfl rfl rfl
    · exact absurd c21 (by decide)
  · exact absurd c6 (by decide)

set_option maxHeartbeats 4000000 in
set_option maxRecDepth 100000 in
theorem kX6_effectiveWeight (l : Launch) (D : va_G) (K : Nat → ClassId) (NL : List Nat) (ad : Nat → Nat) (G : fM) (x : fX) (hm : f_EM NL) (cn : Nat) (hc : G (iM 0) = nI cn) (hc10 : cn ≤ 10) (i : Nat) (hi : i < cn) (hwn : ¬ (upd G (iT 0) 0) (iM (73 + i)) = -1 → (upd G (iT 0) 0) (iM 1) - (upd G (iT 0) 0) (iM (73 + i)) < (upd G (iT 0) 0) (iM 4) → ¬ (upd G (iT 0) 0) (iM 4) = 0) : Kd l yX6_effectiveWeight wsX6_effectiveWeight { frames := 2, cells := 0, slots := 0, locals := 43 } vwCl D K NL ad [.ref (ad 310), .int (nI i)] G x (some (.int (mM_wt i (upd G (iT 0) 0)))) (upd G (iT 0) 0) x := by
  refine Kd.of (cc := cX6_effectiveWeight) (maxL := 2) (ret := (some .int)) (L := [some (.ref (ad 310)), some (.int (nI i))]) (by decide +kernel) rfl rfl (Nat.le_of_ble_eq_true rfl) ?_
  intro p e s m args below meth c hC hN hr hk hnme
  have iX6 : ∀ w ∈ wsX60, w ∈ wsX6_effectiveWeight := by decide +kernel
  refine fk_aload_n hC dX6_effectiveWeight_0 rfl rfl ?_
  refine fk_aload_n hC dX6_effectiveWeight_1 rfl rfl ?_
  refine fk_iload_n hC dX6_effectiveWeight_2 rfl rfl ?_
  refine fk_callV hC hN (kX6_isServer l D K NL ad _ x hm _) hm.1 (f_E310 _ _ _ _ _) rfl (cwV 1 hC.1.2.2.2.2 gX6_effectiveWeight_X6_isServer rfl rfl rfl (by decide +kernel) ⟨Nat.le_of_ble_eq_true rfl, Nat.le_of_ble_eq_true rfl⟩) rfl rfl (Nat.le_of_ble_eq_true rfl) dX6_effectiveWeight_3 ⟨Nat.zero_le _, Nat.zero_le _⟩ ?_
  refine fk_topi (show _ = (1 : Int32) by rw [hc]; exact inV_t (rng_i (by omega) hi)) ?_
  refine fk_if_eq (tgt := 13) hC dX6_effectiveWeight_6 (by decide) (fun c6 => ?_) (fun c6 => ?_)
  · exact absurd c6 (by decide)
  · refine fk_iconst (v := 0) hC dX6_effectiveWeight_9 (by decide) ?_
    refine fk_goto (tgt := 14) hC dX6_effectiveWeight_10 (by decide) ?_
    refine fk_putM_3 hC hm iX6 (by decide +kernel) dX6_effectiveWeight_14 ?_
    refine fk_aload_n hC dX6_effectiveWeight_17 rfl rfl ?_
    refine fk_getM_3 hC hm iX6 (by decide +kernel) dX6_effectiveWeight_18 ?_
    refine fk_topi pk_us ?_
    refine fk_if_eq (tgt := 28) hC dX6_effectiveWeight_21 (by decide) (fun c21 => ?_) (fun c21 => ?_)
    · refine fk_aload_n hC dX6_effectiveWeight_28 rfl rfl ?_
      refine fk_iload_n hC dX6_effectiveWeight_29 rfl rfl ?_
      refine fk_callV hC hN (kX6_weightNow l D K NL ad _ x hm i (by omega) hwn) hm.1 (f_E310 _ _ _ _ _) rfl (cwV 1 hC.1.2.2.2.2 gX6_effectiveWeight_X6_weightNow rfl rfl rfl (by decide +kernel) ⟨Nat.le_of_ble_eq_true rfl, Nat.le_of_ble_eq_true rfl⟩) rfl rfl (Nat.le_of_ble_eq_true rfl) dX6_effectiveWeight_30 ⟨Nat.zero_le _, Nat.zero_le _⟩ ?_
      exact fk_iret hC hr hk dX6_effectiveWeight_33 rfl rfl rfl
    · exact absurd c21 (by decide)

set_option maxHeartbeats 4000000 in
set_option maxRecDepth 100000 in
theorem eX6_effectiveWeight (l : Launch) (D : va_G) (K : Nat → ClassId) (NL : List Nat) (ad : Nat → Nat) (G : fM) (x : fX) (hm : f_EM NL) (cn : Nat) (hc : G (iM 0) = nI cn) (hc10 : cn ≤ 10) (v : Int32) (h : v < 0 ∨ ¬ v < nI cn) : Kd l yX6_effectiveWeight wsX6_effectiveWeight { frames := 2, cells := 0, slots := 0, locals := 43 } vwCl D K NL ad [.ref (ad 310), .int v] G x (some (.int 0)) (upd G (iT 0) 1) x := by
  refine Kd.of (cc := cX6_effectiveWeight) (maxL := 2) (ret := (some .int)) (L := [some (.ref (ad 310)), some (.int v)]) (by decide +kernel) rfl rfl (Nat.le_of_ble_eq_true rfl) ?_
  intro p e s m args below meth c hC hN hr hk hnme
  have iX6 : ∀ w ∈ wsX60, w ∈ wsX6_effectiveWeight := by decide +kernel
  refine fk_aload_n hC dX6_effectiveWeight_0 rfl rfl ?_
  refine fk_aload_n hC dX6_effectiveWeight_1 rfl rfl ?_
  refine fk_iload_n hC dX6_effectiveWeight_2 rfl rfl ?_
  refine fk_callV hC hN (kX6_isServer l D K NL ad _ x hm _) hm.1 (f_E310 _ _ _ _ _) rfl (cwV 1 hC.1.2.2.2.2 gX6_effectiveWeight_X6_isServer rfl rfl rfl (by decide +kernel) ⟨Nat.le_of_ble_eq_true rfl, Nat.le_of_ble_eq_true rfl⟩) rfl rfl (Nat.le_of_ble_eq_true rfl) dX6_effectiveWeight_3 ⟨Nat.zero_le _, Nat.zero_le _⟩ ?_
  refine fk_topi (show _ = (0 : Int32) by rw [hc]; exact inV_f (rng_no (by omega) h)) ?_
  refine fk_if_eq (tgt := 13) hC dX6_effectiveWeight_6 (by decide) (fun c6 => ?_) (fun c6 => ?_)
  · refine fk_iconst (v := 1) hC dX6_effectiveWeight_13 (by decide) ?_
    refine fk_putM_3 hC hm iX6 (by decide +kernel) dX6_effectiveWeight_14 ?_
    refine fk_aload_n hC dX6_effectiveWeight_17 rfl rfl ?_
    refine fk_getM_3 hC hm iX6 (by decide +kernel) dX6_effectiveWeight_18 ?_
    refine fk_topi pk_us ?_
    refine fk_if_eq (tgt := 28) hC dX6_effectiveWeight_21 (by decide) (fun c21 => ?_) (fun c21 => ?_)
    · exact absurd c21 (by decide)
    · refine fk_iconst (v := 0) hC dX6_effectiveWeight_24 (by decide) ?_
      refine fk_goto (tgt := 33) hC dX6_effectiveWeight_25 (by decide) ?_
      exact fk_iret hC hr hk dX6_effectiveWeight_33 rfl rfl rfl
  · exact absurd c6 (by decide)

set_option maxHeartbeats 4000000 in
set_option maxRecDepth 100000 in
theorem kX6_active (l : Launch) (D : va_G) (K : Nat → ClassId) (NL : List Nat) (ad : Nat → Nat) (G : fM) (x : fX) (hm : f_EM NL) (cn : Nat) (hc : G (iM 0) = nI cn) (hc10 : cn ≤ 10) (i : Nat) (hi : i < cn)  : Kd l yX6_active wsX6_active { frames := 2, cells := 0, slots := 0, locals := 43 } vwCl D K NL ad [.ref (ad 310), .int (nI i)] G x (some (.int ((upd G (iT 0) 0) (iM (33 + i))))) (upd G (iT 0) 0) x := by
  refine Kd.of (cc := cX6_active) (maxL := 2) (ret := (some .int)) (L := [some (.ref (ad 310)), some (.int (nI i))]) (by decide +kernel) rfl rfl (Nat.le_of_ble_eq_true rfl) ?_
  intro p e s m args below meth c hC hN hr hk hnme
  have iX6 : ∀ w ∈ wsX60, w ∈ wsX6_active := by decide +kernel
  refine fk_aload_n hC dX6_active_0 rfl rfl ?_
  refine fk_aload_n hC dX6_active_1 rfl rfl ?_
  refine fk_iload_n hC dX6_active_2 rfl rfl ?_
  refine fk_callV hC hN (kX6_isServer l D K NL ad _ x hm _) hm.1 (f_E310 _ _ _ _ _) rfl (cwV 1 hC.1.2.2.2.2 gX6_active_X6_isServer rfl rfl rfl (by decide +kernel) ⟨Nat.le_of_ble_eq_true rfl, Nat.le_of_ble_eq_true rfl⟩) rfl rfl (Nat.le_of_ble_eq_true rfl) dX6_active_3 ⟨Nat.zero_le _, Nat.zero_le _⟩ ?_
  refine fk_topi (show _ = (1 : Int32) by rw [hc]; exact inV_t (rng_i (by omega) hi)) ?_
  refine fk_if_eq (tgt := 13) hC dX6_active_6 (by decide) (fun c6 => ?_) (fun c6 => ?_)
  · exact absurd c6 (by decide)
  · refine fk_iconst (v := 0) hC dX6_active_9 (by decide) ?_
    refine fk_goto (tgt := 14) hC dX6_active_10 (by decide) ?_
    refine fk_putM_3 hC hm iX6 (by decide +kernel) dX6_active_14 ?_
    refine fk_aload_n hC dX6_active_17 rfl rfl ?_
    refine fk_getM_3 hC hm iX6 (by decide +kernel) dX6_active_18 ?_
    refine fk_topi pk_us ?_
    refine fk_if_eq (tgt := 28) hC dX6_active_21 (by decide) (fun c21 => ?_) (fun c21 => ?_)
    · refine fk_aload_n hC dX6_active_28 rfl rfl ?_
      refine fk_getM_0 hC hm iX6 (by decide +kernel) dX6_active_29 ?_
      refine fk_bipush (v := 33) hC dX6_active_32 (by decide) ?_
      refine fk_iload_n hC dX6_active_34 rfl rfl ?_
      refine fk_iadd hC dX6_active_35 ?_
      refine fk_ld_at hC (j := 33 + i) hm (nI_add 33 i) (by omega) dX6_active_36 ?_
      exact fk_iret hC hr hk dX6_active_37 rfl rfl rfl
    · exact absurd c21 (by decide)

set_option maxHeartbeats 4000000 in
set_option maxRecDepth 100000 in
theorem eX6_active (l : Launch) (D : va_G) (K : Nat → ClassId) (NL : List Nat) (ad : Nat → Nat) (G : fM) (x : fX) (hm : f_EM NL) (cn : Nat) (hc : G (iM 0) = nI cn) (hc10 : cn ≤ 10) (v : Int32) (h : v < 0 ∨ ¬ v < nI cn) : Kd l yX6_active wsX6_active { frames := 2, cells := 0, slots := 0, locals := 43 } vwCl D K NL ad [.ref (ad 310), .int v] G x (some (.int 0)) (upd G (iT 0) 1) x := by
  refine Kd.of (cc := cX6_active) (maxL := 2) (ret := (some .int)) (L := [some (.ref (ad 310)), some (.int v)]) (by decide +kernel) rfl rfl (Nat.le_of_ble_eq_true rfl) ?_
  intro p e s m args below meth c hC hN hr hk hnme
  have iX6 : ∀ w ∈ wsX60, w ∈ wsX6_active := by decide +kernel
  refine fk_aload_n hC dX6_active_0 rfl rfl ?_
  refine fk_aload_n hC dX6_active_1 rfl rfl ?_
  refine fk_iload_n hC dX6_active_2 rfl rfl ?_
  refine fk_callV hC hN (kX6_isServer l D K NL ad _ x hm _) hm.1 (f_E310 _ _ _ _ _) rfl (cwV 1 hC.1.2.2.2.2 gX6_active_X6_isServer rfl rfl rfl (by decide +kernel) ⟨Nat.le_of_ble_eq_true rfl, Nat.le_of_ble_eq_true rfl⟩) rfl rfl (Nat.le_of_ble_eq_true rfl) dX6_active_3 ⟨Nat.zero_le _, Nat.zero_le _⟩ ?_
  refine fk_topi (show _ = (0 : Int32) by rw [hc]; exact inV_f (rng_no (by omega) h)) ?_
  refine fk_if_eq (tgt := 13) hC dX6_active_6 (by decide) (fun c6 => ?_) (fun c6 => ?_)
  · refine fk_iconst (v := 1) hC dX6_active_13 (by decide) ?_
    refine fk_putM_3 hC hm iX6 (by decide +kernel) dX6_active_14 ?_
    refine fk_aload_n hC dX6_active_17 rfl rfl ?_
    refine fk_getM_3 hC hm iX6 (by decide +kernel) dX6_active_18 ?_
    refine fk_topi pk_us ?_
    refine fk_if_eq (tgt := 28) hC dX6_active_21 (by decide) (fun c21 => ?_) (fun c21 => ?_)
    · exact absurd c21 (by decide)
    · refine fk_iconst (v := 0) hC dX6_active_24 (by decide) ?_
      refine fk_goto (tgt := 37) hC dX6_active_25 (by decide) ?_
      exact fk_iret hC hr hk dX6_active_37 rfl rfl rfl
  · exact absurd c6 (by decide)

set_option maxHeartbeats 4000000 in
set_option maxRecDepth 100000 in
theorem kX6_breaker (l : Launch) (D : va_G) (K : Nat → ClassId) (NL : List Nat) (ad : Nat → Nat) (G : fM) (x : fX) (hm : f_EM NL) (cn : Nat) (hc : G (iM 0) = nI cn) (hc10 : cn ≤ 10) (i : Nat) (hi : i < cn)  : Kd l yX6_breaker wsX6_breaker { frames := 2, cells := 0, slots := 0, locals := 43 } vwCl D K NL ad [.ref (ad 310), .int (nI i)] G x (some (.int ((upd G (iT 0) 0) (iM (83 + i))))) (upd G (iT 0) 0) x := by
  refine Kd.of (cc := cX6_breaker) (maxL := 2) (ret := (some .int)) (L := [some (.ref (ad 310)), some (.int (nI i))]) (by decide +kernel) rfl rfl (Nat.le_of_ble_eq_true rfl) ?_
  intro p e s m args below meth c hC hN hr hk hnme
  have iX6 : ∀ w ∈ wsX60, w ∈ wsX6_breaker := by decide +kernel
  refine fk_aload_n hC dX6_breaker_0 rfl rfl ?_
  refine fk_aload_n hC dX6_breaker_1 rfl rfl ?_
  refine fk_iload_n hC dX6_breaker_2 rfl rfl ?_
  refine fk_callV hC hN (kX6_isServer l D K NL ad _ x hm _) hm.1 (f_E310 _ _ _ _ _) rfl (cwV 1 hC.1.2.2.2.2 gX6_breaker_X6_isServer rfl rfl rfl (by decide +kernel) ⟨Nat.le_of_ble_eq_true rfl, Nat.le_of_ble_eq_true rfl⟩) rfl rfl (Nat.le_of_ble_eq_true rfl) dX6_breaker_3 ⟨Nat.zero_le _, Nat.zero_le _⟩ ?_
  refine fk_topi (show _ = (1 : Int32) by rw [hc]; exact inV_t (rng_i (by omega) hi)) ?_
  refine fk_if_eq (tgt := 13) hC dX6_breaker_6 (by decide) (fun c6 => ?_) (fun c6 => ?_)
  · exact absurd c6 (by decide)
  · refine fk_iconst (v := 0) hC dX6_breaker_9 (by decide) ?_
    refine fk_goto (tgt := 14) hC dX6_breaker_10 (by decide) ?_
    refine fk_putM_3 hC hm iX6 (by decide +kernel) dX6_breaker_14 ?_
    refine fk_aload_n hC dX6_breaker_17 rfl rfl ?_
    refine fk_getM_3 hC hm iX6 (by decide +kernel) dX6_breaker_18 ?_
    refine fk_topi pk_us ?_
    refine fk_if_eq (tgt := 28) hC dX6_breaker_21 (by decide) (fun c21 => ?_) (fun c21 => ?_)
    · refine fk_aload_n hC dX6_breaker_28 rfl rfl ?_
      refine fk_getM_0 hC hm iX6 (by decide +kernel) dX6_breaker_29 ?_
      refine fk_bipush (v := 83) hC dX6_breaker_32 (by decide) ?_
      refine fk_iload_n hC dX6_breaker_34 rfl rfl ?_
      refine fk_iadd hC dX6_breaker_35 ?_
      refine fk_ld_at hC (j := 83 + i) hm (nI_add 83 i) (by omega) dX6_breaker_36 ?_
      exact fk_iret hC hr hk dX6_breaker_37 rfl rfl rfl
    · exact absurd c21 (by decide)

set_option maxHeartbeats 4000000 in
set_option maxRecDepth 100000 in
theorem eX6_breaker (l : Launch) (D : va_G) (K : Nat → ClassId) (NL : List Nat) (ad : Nat → Nat) (G : fM) (x : fX) (hm : f_EM NL) (cn : Nat) (hc : G (iM 0) = nI cn) (hc10 : cn ≤ 10) (v : Int32) (h : v < 0 ∨ ¬ v < nI cn) : Kd l yX6_breaker wsX6_breaker { frames := 2, cells := 0, slots := 0, locals := 43 } vwCl D K NL ad [.ref (ad 310), .int v] G x (some (.int 0)) (upd G (iT 0) 1) x := by
  refine Kd.of (cc := cX6_breaker) (maxL := 2) (ret := (some .int)) (L := [some (.ref (ad 310)), some (.int v)]) (by decide +kernel) rfl rfl (Nat.le_of_ble_eq_true rfl) ?_
  intro p e s m args below meth c hC hN hr hk hnme
  have iX6 : ∀ w ∈ wsX60, w ∈ wsX6_breaker := by decide +kernel
  refine fk_aload_n hC dX6_breaker_0 rfl rfl ?_
  refine fk_aload_n hC dX6_breaker_1 rfl rfl ?_
  refine fk_iload_n hC dX6_breaker_2 rfl rfl ?_
  refine fk_callV hC hN (kX6_isServer l D K NL ad _ x hm _) hm.1 (f_E310 _ _ _ _ _) rfl (cwV 1 hC.1.2.2.2.2 gX6_breaker_X6_isServer rfl rfl rfl (by decide +kernel) ⟨Nat.le_of_ble_eq_true rfl, Nat.le_of_ble_eq_true rfl⟩) rfl rfl (Nat.le_of_ble_eq_true rfl) dX6_breaker_3 ⟨Nat.zero_le _, Nat.zero_le _⟩ ?_
  refine fk_topi (show _ = (0 : Int32) by rw [hc]; exact inV_f (rng_no (by omega) h)) ?_
  refine fk_if_eq (tgt := 13) hC dX6_breaker_6 (by decide) (fun c6 => ?_) (fun c6 => ?_)
  · refine fk_iconst (v := 1) hC dX6_breaker_13 (by decide) ?_
    refine fk_putM_3 hC hm iX6 (by decide +kernel) dX6_breaker_14 ?_
    refine fk_aload_n hC dX6_breaker_17 rfl rfl ?_
    refine fk_getM_3 hC hm iX6 (by decide +kernel) dX6_breaker_18 ?_
    refine fk_topi pk_us ?_
    refine fk_if_eq (tgt := 28) hC dX6_breaker_21 (by decide) (fun c21 => ?_) (fun c21 => ?_)
    · exact absurd c21 (by decide)
    · refine fk_iconst (v := 0) hC dX6_breaker_24 (by decide) ?_
      refine fk_goto (tgt := 37) hC dX6_breaker_25 (by decide) ?_
      exact fk_iret hC hr hk dX6_breaker_37 rfl rfl rfl
  · exact absurd c6 (by decide)

set_option maxHeartbeats 4000000 in
set_option maxRecDepth 100000 in
theorem kX6_setDraining (l : Launch) (D : va_G) (K : Nat → ClassId) (NL : List Nat) (ad : Nat → Nat) (G : fM) (x : fX) (hm : f_EM NL) (cn : Nat) (hc : G (iM 0) = nI cn) (hc10 : cn ≤ 10) (i : Nat) (hi : i < cn) (pd : Int32)  : Kd l yX6_setDraining wsX6_setDraining { frames := 2, cells := 0, slots := 0, locals := 43 } vwCl D K NL ad [.ref (ad 310), .int (nI i), .int pd] G x (some (.int (if (upd G (iT 0) 0) (iM (53 + i)) = 1 then 1 else 0))) (upd (upd G (iT 0) 0) (iM (53 + i)) (if pd = 0 then 0 else 1)) x := by
  refine Kd.of (cc := cX6_setDraining) (maxL := 3) (ret := (some .boolean)) (L := [some (.ref (ad 310)), some (.int (nI i)), some (.int pd)]) (by decide +kernel) rfl rfl (Nat.le_of_ble_eq_true rfl) ?_
  intro p e s m args below meth c hC hN hr hk hnme
  have iX6 : ∀ w ∈ wsX60, w ∈ wsX6_setDraining := by decide +kernel
  refine fk_aload_n hC dX6_setDraining_0 rfl rfl ?_
  refine fk_aload_n hC dX6_setDraining_1 rfl rfl ?_
  refine fk_iload_n hC dX6_setDraining_2 rfl rfl ?_
  refine fk_callV hC hN (kX6_isServer l D K NL ad _ x hm _) hm.1 (f_E310 _ _ _ _ _) rfl (cwV 1 hC.1.2.2.2.2 gX6_setDraining_X6_isServer rfl rfl rfl (by decide +kernel) ⟨Nat.le_of_ble_eq_true rfl, Nat.le_of_ble_eq_true rfl⟩) rfl rfl (Nat.le_of_ble_eq_true rfl) dX6_setDraining_3 ⟨Nat.zero_le _, Nat.zero_le _⟩ ?_
  refine fk_topi (show _ = (1 : Int32) by rw [hc]; exact inV_t (rng_i (by omega) hi)) ?_
  refine fk_if_eq (tgt := 13) hC dX6_setDraining_6 (by decide) (fun c6 => ?_) (fun c6 => ?_)
  · exact absurd c6 (by decide)
  · refine fk_iconst (v := 0) hC dX6_setDraining_9 (by decide) ?_
    refine fk_goto (tgt := 14) hC dX6_setDraining_10 (by decide) ?_
    refine fk_putM_3 hC hm iX6 (by decide +kernel) dX6_setDraining_14 ?_
    refine fk_aload_n hC dX6_setDraining_17 rfl rfl ?_
    refine fk_getM_3 hC hm iX6 (by decide +kernel) dX6_setDraining_18 ?_
    refine fk_topi pk_us ?_
    refine fk_if_ne (tgt := 49) hC dX6_setDraining_21 (by decide) (fun c21 => ?_) (fun c21 => ?_)
    · exact absurd c21 (by decide)
    · refine fk_aload_n hC dX6_setDraining_24 rfl rfl ?_
      refine fk_bipush (v := 53) hC dX6_setDraining_25 (by decide) ?_
      refine fk_iload_n hC dX6_setDraining_27 rfl rfl ?_
      refine fk_iadd hC dX6_setDraining_28 ?_
      refine fk_iload_n hC dX6_setDraining_29 rfl rfl ?_
      refine fk_if_eq (tgt := 37) hC dX6_setDraining_30 (by decide) (fun c30 => ?_) (fun c30 => ?_)
      · refine fk_iconst (v := 0) hC dX6_setDraining_37 (by decide) ?_
        refine fk_callV hC hN (kX6_put l D K NL ad _ x hm _ _ (53 + i) (nI_add 53 i) (by omega)) hm.1 (f_E310 _ _ _ _ _) rfl (cwV 2 hC.1.2.2.2.2 gX6_setDraining_X6_put rfl rfl rfl (by decide +kernel) ⟨Nat.le_of_ble_eq_true rfl, Nat.le_of_ble_eq_true rfl⟩) rfl rfl (Nat.le_of_ble_eq_true rfl) dX6_setDraining_38 ⟨Nat.zero_le _, Nat.zero_le _⟩ ?_
        refine fk_iconst (v := 1) hC dX6_setDraining_41 (by decide) ?_
        refine fk_icmp_ne (tgt := 49) hC dX6_setDraining_42 (by decide) (fun c42 => ?_) (fun c42 => ?_)
        · refine fk_iconst (v := 0) hC dX6_setDraining_49 (by decide) ?_
          exact fk_zret hC hr hk dX6_setDraining_50 rfl (by rw [if_neg c42]) (by rw [if_pos c30]) rfl
        · refine fk_iconst (v := 1) hC dX6_setDraining_45 (by decide) ?_
          refine fk_goto (tgt := 50) hC dX6_setDraining_46 (by decide) ?_
          exact fk_zret hC hr hk dX6_setDraining_50 rfl (by rw [if_pos c42]) (by rw [if_pos c30]) rfl
      · refine fk_iconst (v := 1) hC dX6_setDraining_33 (by decide) ?_
        refine fk_goto (tgt := 38) hC dX6_setDraining_34 (by decide) ?_
        refine fk_callV hC hN (kX6_put l D K NL ad _ x hm _ _ (53 + i) (nI_add 53 i) (by omega)) hm.1 (f_E310 _ _ _ _ _) rfl (cwV 2 hC.1.2.2.2.2 gX6_setDraining_X6_put rfl rfl rfl (by decide +kernel) ⟨Nat.le_of_ble_eq_true rfl, Nat.le_of_ble_eq_true rfl⟩) rfl rfl (Nat.le_of_ble_eq_true rfl) dX6_setDraining_38 ⟨Nat.zero_le _, Nat.zero_le _⟩ ?_
        refine fk_iconst (v := 1) hC dX6_setDraining_41 (by decide) ?_
        refine fk_icmp_ne (tgt := 49) hC dX6_setDraining_42 (by decide) (fun c42 => ?_) (fun c42 => ?_)
        · refine fk_iconst (v := 0) hC dX6_setDraining_49 (by decide) ?_
          exact fk_zret hC hr hk dX6_setDraining_50 rfl (by rw [if_neg c42]) (by rw [if_neg c30]) rfl
        · refine fk_iconst (v := 1) hC dX6_setDraining_45 (by decide) ?_
          refine fk_goto (tgt := 50) hC dX6_setDraining_46 (by decide) ?_
          exact fk_zret hC hr hk dX6_setDraining_50 rfl (by rw [if_pos c42]) (by rw [if_neg c30]) rfl

set_option maxHeartbeats 4000000 in
set_option maxRecDepth 100000 in
theorem eX6_setDraining (l : Launch) (D : va_G) (K : Nat → ClassId) (NL : List Nat) (ad : Nat → Nat) (G : fM) (x : fX) (hm : f_EM NL) (cn : Nat) (hc : G (iM 0) = nI cn) (hc10 : cn ≤ 10) (v : Int32) (pd : Int32) (h : v < 0 ∨ ¬ v < nI cn) : Kd l yX6_setDraining wsX6_setDraining { frames := 2, cells := 0, slots := 0, locals := 43 } vwCl D K NL ad [.ref (ad 310), .int v, .int pd] G x (some (.int 0)) (upd G (iT 0) 1) x := by
  refine Kd.of (cc := cX6_setDraining) (maxL := 3) (ret := (some .boolean)) (L := [some (.ref (ad 310)), some (.int v), some (.int pd)]) (by decide +kernel) rfl rfl (Nat.le_of_ble_eq_true rfl) ?_
  intro p e s m args below meth c hC hN hr hk hnme
  have iX6 : ∀ w ∈ wsX60, w ∈ wsX6_setDraining := by decide +kernel
  refine fk_aload_n hC dX6_setDraining_0 rfl rfl ?_
  refine fk_aload_n hC dX6_setDraining_1 rfl rfl ?_
  refine fk_iload_n hC dX6_setDraining_2 rfl rfl ?_
  refine fk_callV hC hN (kX6_isServer l D K NL ad _ x hm _) hm.1 (f_E310 _ _ _ _ _) rfl (cwV 1 hC.1.2.2.2.2 gX6_setDraining_X6_isServer rfl rfl rfl (by decide +kernel) ⟨Nat.le_of_ble_eq_true rfl, Nat.le_of_ble_eq_true rfl⟩) rfl rfl (Nat.le_of_ble_eq_true rfl) dX6_setDraining_3 ⟨Nat.zero_le _, Nat.zero_le _⟩ ?_
  refine fk_topi (show _ = (0 : Int32) by rw [hc]; exact inV_f (rng_no (by omega) h)) ?_
  refine fk_if_eq (tgt := 13) hC dX6_setDraining_6 (by decide) (fun c6 => ?_) (fun c6 => ?_)
  · refine fk_iconst (v := 1) hC dX6_setDraining_13 (by decide) ?_
    refine fk_putM_3 hC hm iX6 (by decide +kernel) dX6_setDraining_14 ?_
    refine fk_aload_n hC dX6_setDraining_17 rfl rfl ?_
    refine fk_getM_3 hC hm iX6 (by decide +kernel) dX6_setDraining_18 ?_
    refine fk_topi pk_us ?_
    refine fk_if_ne (tgt := 49) hC dX6_setDraining_21 (by decide) (fun c21 => ?_) (fun c21 => ?_)
    · refine fk_iconst (v := 0) hC dX6_setDraining_49 (by decide) ?_
      exact fk_zret hC hr hk dX6_setDraining_50 rfl rfl rfl rfl
    · exact absurd c21 (by decide)
  · exact absurd c6 (by decide)

set_option maxHeartbeats 4000000 in
set_option maxRecDepth 100000 in
theorem kX6_setWeight (l : Launch) (D : va_G) (K : Nat → ClassId) (NL : List Nat) (ad : Nat → Nat) (G : fM) (x : fX) (hm : f_EM NL) (cn : Nat) (hc : G (iM 0) = nI cn) (hc10 : cn ≤ 10) (i : Nat) (hi : i < cn) (wt : Int32) (h1 : rng wt 1 10) : Kd l yX6_setWeight wsX6_setWeight { frames := 2, cells := 0, slots := 0, locals := 43 } vwCl D K NL ad [.ref (ad 310), .int (nI i), .int wt] G x (some (.int ((upd G (iT 0) 0) (iM (13 + i))))) (upd (upd G (iT 0) 0) (iM (13 + i)) wt) x := by
  refine Kd.of (cc := cX6_setWeight) (maxL := 3) (ret := (some .int)) (L := [some (.ref (ad 310)), some (.int (nI i)), some (.int wt)]) (by decide +kernel) rfl rfl (Nat.le_of_ble_eq_true rfl) ?_
  intro p e s m args below meth c hC hN hr hk hnme
  have iX6 : ∀ w ∈ wsX60, w ∈ wsX6_setWeight := by decide +kernel
  refine fk_aload_n hC dX6_setWeight_0 rfl rfl ?_
  refine fk_aload_n hC dX6_setWeight_1 rfl rfl ?_
  refine fk_iload_n hC dX6_setWeight_2 rfl rfl ?_
  refine fk_callV hC hN (kX6_isServer l D K NL ad _ x hm _) hm.1 (f_E310 _ _ _ _ _) rfl (cwV 1 hC.1.2.2.2.2 gX6_setWeight_X6_isServer rfl rfl rfl (by decide +kernel) ⟨Nat.le_of_ble_eq_true rfl, Nat.le_of_ble_eq_true rfl⟩) rfl rfl (Nat.le_of_ble_eq_true rfl) dX6_setWeight_3 ⟨Nat.zero_le _, Nat.zero_le _⟩ ?_
  refine fk_topi (show _ = (1 : Int32) by rw [hc]; exact inV_t (rng_i (by omega) hi)) ?_
  refine fk_if_ne (tgt := 13) hC dX6_setWeight_6 (by decide) (fun c6 => ?_) (fun c6 => ?_)
  · refine fk_iload_n hC dX6_setWeight_13 rfl rfl ?_
    refine fk_iconst (v := 1) hC dX6_setWeight_14 (by decide) ?_
    refine fk_bipush (v := 10) hC dX6_setWeight_15 (by decide) ?_
    refine fk_callS hC hN (kX6_in l D K NL ad _ x _ _ _) (va_cwS 3 hC.1.2.2.2.2 gX6_setWeight_X6_in rfl rfl rfl (by decide +kernel) ⟨Nat.le_of_ble_eq_true rfl, Nat.le_of_ble_eq_true rfl⟩) rfl rfl (Nat.le_of_ble_eq_true rfl) dX6_setWeight_17 ⟨Nat.zero_le _, Nat.zero_le _⟩ ?_
    refine fk_topi (inV_t h1) ?_
    refine fk_if_ne (tgt := 27) hC dX6_setWeight_20 (by decide) (fun c20 => ?_) (fun c20 => ?_)
    · refine fk_iconst (v := 0) hC dX6_setWeight_27 (by decide) ?_
      refine fk_putM_3 hC hm iX6 (by decide +kernel) dX6_setWeight_28 ?_
      refine fk_aload_n hC dX6_setWeight_31 rfl rfl ?_
      refine fk_getM_3 hC hm iX6 (by decide +kernel) dX6_setWeight_32 ?_
      refine fk_topi pk_us ?_
      refine fk_if_eq (tgt := 42) hC dX6_setWeight_35 (by decide) (fun c35 => ?_) (fun c35 => ?_)
      · refine fk_aload_n hC dX6_setWeight_42 rfl rfl ?_
        refine fk_bipush (v := 13) hC dX6_setWeight_43 (by decide) ?_
        refine fk_iload_n hC dX6_setWeight_45 rfl rfl ?_
        refine fk_iadd hC dX6_setWeight_46 ?_
        refine fk_iload_n hC dX6_setWeight_47 rfl rfl ?_
        refine fk_callV hC hN (kX6_put l D K NL ad _ x hm _ _ (13 + i) (nI_add 13 i) (by omega)) hm.1 (f_E310 _ _ _ _ _) rfl (cwV 2 hC.1.2.2.2.2 gX6_setWeight_X6_put rfl rfl rfl (by decide +kernel) ⟨Nat.le_of_ble_eq_true rfl, Nat.le_of_ble_eq_true rfl⟩) rfl rfl (Nat.le_of_ble_eq_true rfl) dX6_setWeight_48 ⟨Nat.zero_le _, Nat.zero_le _⟩ ?_
        exact fk_iret hC hr hk dX6_setWeight_51 rfl rfl rfl
      · exact absurd c35 (by decide)
    · exact absurd c20 (by decide)
  · exact absurd c6 (by decide)

set_option maxHeartbeats 4000000 in
set_option maxRecDepth 100000 in
theorem eX6_setWeight_1 (l : Launch) (D : va_G) (K : Nat → ClassId) (NL : List Nat) (ad : Nat → Nat) (G : fM) (x : fX) (hm : f_EM NL) (cn : Nat) (hc : G (iM 0) = nI cn) (hc10 : cn ≤ 10) (v wt : Int32) (h : v < 0 ∨ ¬ v < nI cn) : Kd l yX6_setWeight wsX6_setWeight { frames := 2, cells := 0, slots := 0, locals := 43 } vwCl D K NL ad [.ref (ad 310), .int v, .int wt] G x (some (.int 0)) (upd G (iT 0) 1) x := by
  refine Kd.of (cc := cX6_setWeight) (maxL := 3) (ret := (some .int)) (L := [some (.ref (ad 310)), some (.int v), some (.int wt)]) (by decide +kernel) rfl rfl (Nat.le_of_ble_eq_true rfl) ?_
  intro p e s m args below meth c hC hN hr hk hnme
  have iX6 : ∀ w ∈ wsX60, w ∈ wsX6_setWeight := by decide +kernel
  refine fk_aload_n hC dX6_setWeight_0 rfl rfl ?_
  refine fk_aload_n hC dX6_setWeight_1 rfl rfl ?_
  refine fk_iload_n hC dX6_setWeight_2 rfl rfl ?_
  refine fk_callV hC hN (kX6_isServer l D K NL ad _ x hm _) hm.1 (f_E310 _ _ _ _ _) rfl (cwV 1 hC.1.2.2.2.2 gX6_setWeight_X6_isServer rfl rfl rfl (by decide +kernel) ⟨Nat.le_of_ble_eq_true rfl, Nat.le_of_ble_eq_true rfl⟩) rfl rfl (Nat.le_of_ble_eq_true rfl) dX6_setWeight_3 ⟨Nat.zero_le _, Nat.zero_le _⟩ ?_
  refine fk_topi (show _ = (0 : Int32) by rw [hc]; exact inV_f (rng_no (by omega) h)) ?_
  refine fk_if_ne (tgt := 13) hC dX6_setWeight_6 (by decide) (fun c6 => ?_) (fun c6 => ?_)
  · exact absurd c6 (by decide)
  · refine fk_iconst (v := 1) hC dX6_setWeight_9 (by decide) ?_
    refine fk_goto (tgt := 28) hC dX6_setWeight_10 (by decide) ?_
    refine fk_putM_3 hC hm iX6 (by decide +kernel) dX6_setWeight_28 ?_
    refine fk_aload_n hC dX6_setWeight_31 rfl rfl ?_
    refine fk_getM_3 hC hm iX6 (by decide +kernel) dX6_setWeight_32 ?_
    refine fk_topi pk_us ?_
    refine fk_if_eq (tgt := 42) hC dX6_setWeight_35 (by decide) (fun c35 => ?_) (fun c35 => ?_)
    · exact absurd c35 (by decide)
    · refine fk_iconst (v := 0) hC dX6_setWeight_38 (by decide) ?_
      refine fk_goto (tgt := 51) hC dX6_setWeight_39 (by decide) ?_
      exact fk_iret hC hr hk dX6_setWeight_51 rfl rfl rfl

set_option maxHeartbeats 4000000 in
set_option maxRecDepth 100000 in
theorem eX6_setWeight_2 (l : Launch) (D : va_G) (K : Nat → ClassId) (NL : List Nat) (ad : Nat → Nat) (G : fM) (x : fX) (hm : f_EM NL) (cn : Nat) (hc : G (iM 0) = nI cn) (hc10 : cn ≤ 10) (i : Nat) (hi : i < cn) (wt : Int32) (h1 : ¬ rng wt 1 10) : Kd l yX6_setWeight wsX6_setWeight { frames := 2, cells := 0, slots := 0, locals := 43 } vwCl D K NL ad [.ref (ad 310), .int (nI i), .int wt] G x (some (.int 0)) (upd G (iT 0) 2) x := by
  refine Kd.of (cc := cX6_setWeight) (maxL := 3) (ret := (some .int)) (L := [some (.ref (ad 310)), some (.int (nI i)), some (.int wt)]) (by decide +kernel) rfl rfl (Nat.le_of_ble_eq_true rfl) ?_
  intro p e s m args below meth c hC hN hr hk hnme
  have iX6 : ∀ w ∈ wsX60, w ∈ wsX6_setWeight := by decide +kernel
  refine fk_aload_n hC dX6_setWeight_0 rfl rfl ?_
  refine fk_aload_n hC dX6_setWeight_1 rfl rfl ?_
  refine fk_iload_n hC dX6_setWeight_2 rfl rfl ?_
  refine fk_callV hC hN (kX6_isServer l D K NL ad _ x hm _) hm.1 (f_E310 _ _ _ _ _) rfl (cwV 1 hC.1.2.2.2.2 gX6_setWeight_X6_isServer rfl rfl rfl (by decide +kernel) ⟨Nat.le_of_ble_eq_true rfl, Nat.le_of_ble_eq_true rfl⟩) rfl rfl (Nat.le_of_ble_eq_true rfl) dX6_setWeight_3 ⟨Nat.zero_le _, Nat.zero_le _⟩ ?_
  refine fk_topi (show _ = (1 : Int32) by rw [hc]; exact inV_t (rng_i (by omega) hi)) ?_
  refine fk_if_ne (tgt := 13) hC dX6_setWeight_6 (by decide) (fun c6 => ?_) (fun c6 => ?_)
  · refine fk_iload_n hC dX6_setWeight_13 rfl rfl ?_
    refine fk_iconst (v := 1) hC dX6_setWeight_14 (by decide) ?_
    refine fk_bipush (v := 10) hC dX6_setWeight_15 (by decide) ?_
    refine fk_callS hC hN (kX6_in l D K NL ad _ x _ _ _) (va_cwS 3 hC.1.2.2.2.2 gX6_setWeight_X6_in rfl rfl rfl (by decide +kernel) ⟨Nat.le_of_ble_eq_true rfl, Nat.le_of_ble_eq_true rfl⟩) rfl rfl (Nat.le_of_ble_eq_true rfl) dX6_setWeight_17 ⟨Nat.zero_le _, Nat.zero_le _⟩ ?_
    refine fk_topi (inV_f h1) ?_
    refine fk_if_ne (tgt := 27) hC dX6_setWeight_20 (by decide) (fun c20 => ?_) (fun c20 => ?_)
    · exact absurd c20 (by decide)
    · refine fk_iconst (v := 2) hC dX6_setWeight_23 (by decide) ?_
      refine fk_goto (tgt := 28) hC dX6_setWeight_24 (by decide) ?_
      refine fk_putM_3 hC hm iX6 (by decide +kernel) dX6_setWeight_28 ?_
      refine fk_aload_n hC dX6_setWeight_31 rfl rfl ?_
      refine fk_getM_3 hC hm iX6 (by decide +kernel) dX6_setWeight_32 ?_
      refine fk_topi pk_us ?_
      refine fk_if_eq (tgt := 42) hC dX6_setWeight_35 (by decide) (fun c35 => ?_) (fun c35 => ?_)
      · exact absurd c35 (by decide)
      · refine fk_iconst (v := 0) hC dX6_setWeight_38 (by decide) ?_
        refine fk_goto (tgt := 51) hC dX6_setWeight_39 (by decide) ?_
        exact fk_iret hC hr hk dX6_setWeight_51 rfl rfl rfl
  · exact absurd c6 (by decide)

