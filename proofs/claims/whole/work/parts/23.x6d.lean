def mM_ch (cn : Nat) (cl : Int32) (G : fM) : Option Nat := if mM_lay cn G (iM 10) = 1000 then none else if (avL cn G).length = 0 then none else match mM_stuck cl (mM_lay cn G) with
  | some j => some j
  | none => mM_pol9 cn (avL cn G) cl (mM_lay cn G)
theorem f_J.lay {cn : Nat} {G : fM} (h : f_J cn G) : f_J cn (mM_lay cn G) := h.of_eq (mM_lay_ok h.1.2).1
theorem f_J.thr {cn : Nat} {G : fM} {v : Int32} (h : f_J cn G) : f_J cn (upd G (iT 0) v) := h.of_eq (fun j => pk_un (by unfold iM iT; omega))
theorem mM_stuck_lt {cn j : Nat} {cl : Int32} {G : fM} (hJ : f_J cn G) (h : mM_stuck cl G = some j) : j < cn := by
  unfold mM_stuck at h
  split at h
  · cases h
  · rename_i i hi
    have hj : i < mn G := by have := srch_lt _ _ _ hi; omega
    split at h
    · cases h
    · split at h
      · cases h
      · cases h
        exact (hJ.2.2.2.2.2.1 i hj).2
theorem mM_pol9_lt {cn j : Nat} {A : List Nat} {cl : Int32} {G : fM} (hA : RowOK cn A G) (hA0 : 0 < A.length) (h : mM_pol9 cn A cl G = some j) : j < cn := by
  obtain ⟨h1, h2, h3⟩ := hA
  unfold mM_pol9 at h
  split at h
  · cases h
    unfold mM_turn
    split
    · rename_i k hk
      exact (h3 k (by have := srch_lt _ _ _ hk; omega)).2
    · exact (h3 0 hA0).2
  · split at h
    · cases h
      have := fold9_inv (F := mM_crS A G) (fun _ b => b < cn) (A.length - 1) 1 (A.getD 0 0) (h3 0 hA0).2 (fun k b _ hk hb => by
        unfold mM_crS
        split
        · exact hb
        · exact (h3 k (by omega)).2)
      exact this
    · split at h
      · cases h
        have := fold9_inv (F := mM_llS A G) (fun _ b => b < cn) (A.length - 1) 1 (A.getD 0 0) (h3 0 hA0).2 (fun k b _ hk hb => by
          unfold mM_llS
          split
          · exact hb
          · exact (h3 k (by omega)).2)
        exact this
      · split at h
        · have hI : ∀ (i k : Nat) (q : Option Nat × Int64), (∀ t, q.1 = some t → t < i + 1) → ∀ t, (mM_bpI cl i k q).1 = some t → t < i + 1 := by
            intro i k q hq t ht
            unfold mM_bpI at ht
            split at ht
            · cases ht; exact Nat.lt_succ_self _
            · split at ht
              · exact hq t ht
              · cases ht; exact Nat.lt_succ_self _
          have hF : ∀ (i d : Nat) (q : Option Nat × Int64), (∀ t, q.1 = some t → t < i) → ∀ t, (fold9 (mM_bpI cl i) d 0 q).1 = some t → t < i + 1 := by
            intro i d q hq
            exact fold9_inv (F := mM_bpI cl i) (fun _ q => ∀ t, q.1 = some t → t < i + 1) d 0 q (fun t ht => Nat.lt_succ_of_lt (hq t ht)) (fun k b _ _ hb => hI i k b hb)
          have := fold9_inv (F := mM_bpO G cl 0) (fun i q => ∀ t, q.1 = some t → t < i) cn 0 (none, 0) (fun t ht => nomatch ht) (fun i q _ _ hq t ht => by
            unfold mM_bpO at ht
            split at ht
            · split at ht
              · exact Nat.lt_succ_of_lt (hq t ht)
              · exact hF i _ q hq t ht
            · exact hF i _ q hq t ht)
          have := this j h
          omega
        · cases h
          unfold mM_two
          split
          · exact (h3 _ (Nat.mod_lt _ hA0)).2
          · exact (h3 _ (Nat.mod_lt _ hA0)).2
theorem mM_ch_some {cn j : Nat} {cl : Int32} {G : fM} (hJ : f_J cn G) (h : mM_ch cn cl G = some j) : j < cn ∧ mo G < 1000 ∧ 0 < (avL cn G).length := by
  unfold mM_ch at h
  split at h
  · cases h
  · rename_i h1
    split at h
    · cases h
    · rename_i h2
      have h0 : 0 < (avL cn G).length := Nat.pos_of_ne_zero h2
      refine ⟨?_, ?_, h0⟩
      · split at h
        · rename_i i hi
          cases h
          exact mM_stuck_lt hJ.lay hi
        · exact mM_pol9_lt (mM_lay_ok hJ.1.2).2 h0 h
      · have e := (mM_lay_ok (G := G) hJ.1.2).1 10
        rw [e, hJ.2.2.1.1] at h1
        have := hJ.2.2.1.2
        rcases Nat.lt_or_ge (mo G) 1000 with h3 | h3
        · exact h3
        · exact absurd (by rw [show mo G = 1000 by omega]; rfl) h1

set_option maxHeartbeats 4000000 in
set_option maxRecDepth 100000 in
theorem kX6_choice (l : Launch) (D : va_G) (K : Nat → ClassId) (NL : List Nat) (ad : Nat → Nat) (G : fM) (x : fX) (hm : f_EM NL) (cn : Nat) (hJ : f_J cn G) (cl : Int32) : Kd l yX6_choice wsX6_choice { frames := 4, cells := 0, slots := 0, locals := 93 } vwCl D K NL ad [.ref (ad 310), .int cl] G x (some (.int (rI (mM_ch cn cl G)))) (mM_lay cn G) x := by
  refine Kd.of (cc := cX6_choice) (maxL := 3) (ret := (some .int)) (L := [some (.ref (ad 310)), some (.int cl), none]) (by decide +kernel) rfl rfl (Nat.le_of_ble_eq_true rfl) ?_
  intro p e s m args below meth c hC hN hr hk hnme
  have iX6 : ∀ w ∈ wsX60, w ∈ wsX6_choice := by decide +kernel
  have h10 := hJ.1.2
  have h40 := hJ.2.1.2
  have h1000 := hJ.2.2.1.2
  have hlay := mM_lay_ok (cn := cn) (G := G) hJ.1.2
  have hJL := hJ.lay
  refine fk_aload_n hC dX6_choice_0 rfl rfl ?_
  refine fk_callV hC hN (kX6_layRow l D K NL ad _ x hm cn hJ.1.1 hJ.1.2) hm.1 (f_E310 _ _ _ _ _) rfl (cwV 0 hC.1.2.2.2.2 gX6_choice_X6_layRow rfl rfl rfl (by decide +kernel) ⟨Nat.le_of_ble_eq_true rfl, Nat.le_of_ble_eq_true rfl⟩) rfl rfl (Nat.le_of_ble_eq_true rfl) dX6_choice_1 ⟨Nat.zero_le _, Nat.zero_le _⟩ ?_
  refine fk_aload_n hC dX6_choice_4 rfl rfl ?_
  refine fk_getM_0 hC hm iX6 (by decide +kernel) dX6_choice_5 ?_
  refine fk_bipush (v := 10) hC dX6_choice_8 (by decide) ?_
  refine fk_ld_at hC (j := 10) hm rfl (by omega) dX6_choice_10 ?_
  refine fk_sipush (v := 1000) hC dX6_choice_11 (by decide) ?_
  refine fk_icmp_eq (tgt := 24) hC dX6_choice_14 (by decide) (fun c14 => ?_) (fun c14 => ?_)
  · refine fk_iconst (v := (-1)) hC dX6_choice_24 (by decide) ?_
    exact fk_iret hC hr hk dX6_choice_25 (by unfold mM_ch; rw [if_pos c14]; rfl) rfl rfl
  · refine fk_aload_n hC dX6_choice_17 rfl rfl ?_
    refine fk_getM_5 hC hm iX6 (by decide +kernel) dX6_choice_18 ?_
    refine fk_if_ne (tgt := 26) hC dX6_choice_21 (by decide) (fun c21 => ?_) (fun c21 => ?_)
    · have q21 : ¬ (avL cn G).length = 0 := fun h => c21 (by rw [hlay.2.1, h]; rfl)
      refine fk_aload_n hC dX6_choice_26 rfl rfl ?_
      refine fk_iload_n hC dX6_choice_27 rfl rfl ?_
      refine fk_callV hC hN (kX6_stuckTo l D K NL ad _ x hm cn hJL _) hm.1 (f_E310 _ _ _ _ _) rfl (cwV 1 hC.1.2.2.2.2 gX6_choice_X6_stuckTo rfl rfl rfl (by decide +kernel) ⟨Nat.le_of_ble_eq_true rfl, Nat.le_of_ble_eq_true rfl⟩) rfl rfl (Nat.le_of_ble_eq_true rfl) dX6_choice_28 ⟨Nat.zero_le _, Nat.zero_le _⟩ ?_
      rcases h9 : mM_stuck cl (mM_lay cn G) with _ | j
      · refine fk_istore_n hC dX6_choice_31 rfl (by decide) rfl ?_
        refine fk_iload_n hC dX6_choice_32 rfl rfl ?_
        refine fk_if_lt (tgt := 40) hC dX6_choice_33 (by decide) (fun c33 => ?_) (fun c33 => ?_)
        · refine fk_aload_n hC dX6_choice_40 rfl rfl ?_
          refine fk_iload_n hC dX6_choice_41 rfl rfl ?_
          refine fk_callV hC hN (kX6_byPolicy l D K NL ad _ x hm cn hJ.1.2 (avL cn G) hlay.2 (Nat.pos_of_ne_zero q21) hJL.1.1 hJL.2.2.2.2.1 hJL.2.2.2.1 _) hm.1 (f_E310 _ _ _ _ _) rfl (cwV 1 hC.1.2.2.2.2 gX6_choice_X6_byPolicy rfl rfl rfl (by decide +kernel) ⟨Nat.le_of_ble_eq_true rfl, Nat.le_of_ble_eq_true rfl⟩) rfl rfl (Nat.le_of_ble_eq_true rfl) dX6_choice_42 ⟨Nat.zero_le _, Nat.zero_le _⟩ ?_
          exact fk_iret hC hr hk dX6_choice_45 (by unfold mM_ch; rw [if_neg c14, if_neg q21, h9]) rfl rfl
        · exact absurd (by decide) c33
      · have hj := mM_stuck_lt hJL h9
        refine fk_istore_n hC dX6_choice_31 rfl (by decide) rfl ?_
        refine fk_iload_n hC dX6_choice_32 rfl rfl ?_
        refine fk_if_lt (tgt := 40) hC dX6_choice_33 (by decide) (fun c33 => ?_) (fun c33 => ?_)
        · exact absurd c33 (nI_pos (by omega))
        · refine fk_iload_n hC dX6_choice_36 rfl rfl ?_
          refine fk_goto (tgt := 45) hC dX6_choice_37 (by decide) ?_
          exact fk_iret hC hr hk dX6_choice_45 (by unfold mM_ch; rw [if_neg c14, if_neg q21, h9]) rfl rfl
    · have q21 : (avL cn G).length = 0 := by
        rw [hlay.2.1] at c21
        exact (nI_eq (b := 0) (by have := hlay.2.2.1; omega) (by decide)).mp c21
      refine fk_iconst (v := (-1)) hC dX6_choice_24 (by decide) ?_
      exact fk_iret hC hr hk dX6_choice_25 (by unfold mM_ch; rw [if_neg c14, if_pos q21]; rfl) rfl rfl

set_option maxHeartbeats 4000000 in
set_option maxRecDepth 100000 in
theorem kX6_preview (l : Launch) (D : va_G) (K : Nat → ClassId) (NL : List Nat) (ad : Nat → Nat) (G : fM) (x : fX) (hm : f_EM NL) (cn : Nat) (hJ : f_J cn G) (cl : Int32) : Kd l yX6_preview wsX6_preview { frames := 5, cells := 0, slots := 0, locals := 115 } vwCl D K NL ad [.ref (ad 310), .int cl] G x (some (.int (rI (mM_ch cn cl (upd G (iT 0) 0))))) (mM_lay cn (upd G (iT 0) 0)) x := by
  refine Kd.of (cc := cX6_preview) (maxL := 2) (ret := (some .int)) (L := [some (.ref (ad 310)), some (.int cl)]) (by decide +kernel) rfl rfl (Nat.le_of_ble_eq_true rfl) ?_
  intro p e s m args below meth c hC hN hr hk hnme
  have iX6 : ∀ w ∈ wsX60, w ∈ wsX6_preview := by decide +kernel
  refine fk_aload_n hC dX6_preview_0 rfl rfl ?_
  refine fk_iconst (v := 0) hC dX6_preview_1 (by decide) ?_
  refine fk_putM_3 hC hm iX6 (by decide +kernel) dX6_preview_2 ?_
  refine fk_aload_n hC dX6_preview_5 rfl rfl ?_
  refine fk_iload_n hC dX6_preview_6 rfl rfl ?_
  refine fk_callV hC hN (kX6_choice l D K NL ad _ x hm cn hJ.thr _) hm.1 (f_E310 _ _ _ _ _) rfl (cwV 1 hC.1.2.2.2.2 gX6_preview_X6_choice rfl rfl rfl (by decide +kernel) ⟨Nat.le_of_ble_eq_true rfl, Nat.le_of_ble_eq_true rfl⟩) rfl rfl (Nat.le_of_ble_eq_true rfl) dX6_preview_7 ⟨Nat.zero_le _, Nat.zero_le _⟩ ?_
  exact fk_iret hC hr hk dX6_preview_10 rfl rfl rfl

def mM_op0 (cn : Nat) (G : fM) : fM := upd (mM_lay cn G) (iT 0) 0
def mM_op1 (cn j : Nat) (cl : Int32) (G : fM) : fM := match mM_stuck cl (mM_op0 cn G) with
  | some _ => mM_op0 cn G
  | none => mM_note (avL cn G) j (mM_op0 cn G)
def mM_op2 (j : Nat) (Q : fM) : fM := upd (upd (upd (upd Q (iM (263 + mo Q)) (nI j)) (iM (1263 + mo Q)) (upd Q (iM (263 + mo Q)) (nI j) (iM 1))) (iM (33 + j)) (upd (upd Q (iM (263 + mo Q)) (nI j)) (iM (1263 + mo Q)) (upd Q (iM (263 + mo Q)) (nI j) (iM 1)) (iM (33 + j)) + 1)) (iM 10) (nI (mo Q + 1))
def mM_op3 (j o : Nat) (Q : fM) : fM := if Q (iM (83 + j)) = 2 then upd Q (iM (103 + j)) (nI o) else Q
def mM_op4 (j : Nat) (cl : Int32) (n : Nat) (Q : fM) : fM := if Q (iM 6) ≤ 0 then Q else mM_rem cl (nI j) n Q
def mM_op (cn j : Nat) (cl : Int32) (G : fM) : fM := mM_op4 j cl (mn G) (mM_op3 j (mo (mM_op1 cn j cl G)) (mM_op2 j (mM_op1 cn j cl G)))
theorem mM_noF_ne {A : List Nat} {k g : Nat} {q : fM × Int32} (h : ∀ i, g ≠ iM (113 + i)) : (mM_noF A k q).1 g = q.1 g := by
  unfold mM_noF
  show upd _ _ _ g = _
  rw [pk_un (h _)]
theorem mM_note_ne {A : List Nat} {j g : Nat} {G : fM} (h : ∀ i, g ≠ iM (113 + i)) (h9 : g ≠ iM 9) (h8 : g ≠ iM 8) : mM_note A j G g = G g := by
  unfold mM_note
  split
  · rw [pk_un h9]
  · split
    · rw [pk_un (h _)]
      have := fold9_inv (F := mM_noF A) (fun _ q => q.1 g = G g) A.length 0 (G, 0) rfl (fun k b _ _ h9 => (mM_noF_ne h).trans h9)
      exact this
    · split
      · rfl
      · rw [pk_un h8]
theorem mM_op1_M {cn i j : Nat} {cl : Int32} {G : fM} (hc : cn ≤ 10) (h : i < 8 ∨ (9 < i ∧ i < 113)) : mM_op1 cn j cl G (iM i) = G (iM i) := by
  unfold mM_op1
  have e0 : mM_op0 cn G (iM i) = G (iM i) := by unfold mM_op0; rw [pk_un (by unfold iM iT; omega), (mM_lay_ok hc).1]
  rcases h9 : mM_stuck cl (mM_op0 cn G) with _ | t
  · show mM_note (avL cn G) j (mM_op0 cn G) (iM i) = _
    rw [mM_note_ne (fun k => by unfold iM; omega) (by unfold iM; omega) (by unfold iM; omega)]
    exact e0
  · exact e0

set_option maxHeartbeats 4000000 in
set_option maxRecDepth 100000 in
theorem kX6_open (l : Launch) (D : va_G) (K : Nat → ClassId) (NL : List Nat) (ad : Nat → Nat) (G : fM) (x : fX) (hm : f_EM NL) (cn : Nat) (hJ : f_J cn G) (cl : Int32) (j : Nat) (hf : mM_ch cn cl G = some j) : Kd l yX6_open wsX6_open { frames := 5, cells := 0, slots := 0, locals := 115 } vwCl D K NL ad [.ref (ad 310), .int cl] G x (some (.int (nI (mo (mM_op1 cn j cl G))))) (mM_op cn j cl G) x := by
  refine Kd.of (cc := cX6_open) (maxL := 4) (ret := (some .int)) (L := [some (.ref (ad 310)), some (.int cl), none, none]) (by decide +kernel) rfl rfl (Nat.le_of_ble_eq_true rfl) ?_
  intro p e s m args below meth c hC hN hr hk hnme
  have iX6 : ∀ w ∈ wsX60, w ∈ wsX6_open := by decide +kernel
  have h10 := hJ.1.2
  have h40 := hJ.2.1.2
  have h1000 := hJ.2.2.1.2
  have hlay := mM_lay_ok (cn := cn) (G := G) hJ.1.2
  have hs9 := mM_ch_some hJ hf
  have hjc := hs9.1
  have tail : ∀ Q9 : fM, Q9 = mM_op1 cn j cl G → Wk p l e { frames := 5, cells := 0, slots := 0, locals := 115 } s m args below meth c vwCl D K NL ad (f_A NL ad s.heap.size) s.heap 4 0 0 (MQ below (f_Post vwCl D K NL ad (mM_op cn j cl G) x (some (.int (nI (mo (mM_op1 cn j cl G))))) s.heap.size) args s 0 0 (f_A NL ad s.heap.size)) Q9 x 52 [some (.ref (ad 310)), some (.int cl), some (.int (nI j)), none] [] := by
    intro Q9 hQ9
    have ho9 : Q9 (iM 10) = nI (mo Q9) := by
      have e : Q9 (iM 10) = G (iM 10) := by rw [hQ9]; exact mM_op1_M h10 (by omega)
      unfold mo
      rw [e]
      exact hJ.2.2.1.1
    have hmo : mo Q9 < 1000 := by
      have e : Q9 (iM 10) = G (iM 10) := by rw [hQ9]; exact mM_op1_M h10 (by omega)
      unfold mo
      rw [e]
      exact hs9.2.1
    have hn9 : Q9 (iM 12) = nI (mn G) := by rw [hQ9, mM_op1_M h10 (by omega)]; exact hJ.2.1.1
    refine fk_aload_n hC dX6_open_52 rfl rfl ?_
    refine fk_getM_0 hC hm iX6 (by decide +kernel) dX6_open_53 ?_
    refine fk_bipush (v := 10) hC dX6_open_56 (by decide) ?_
    refine fk_ld_at hC (j := 10) hm rfl (by omega) dX6_open_58 ?_
    refine fk_topi ho9 ?_
    refine fk_istore_n hC dX6_open_59 rfl (by decide) rfl ?_
    refine fk_aload_n hC dX6_open_60 rfl rfl ?_
    refine fk_getM_0 hC hm iX6 (by decide +kernel) dX6_open_61 ?_
    refine fk_sipush (v := 263) hC dX6_open_64 (by decide) ?_
    refine fk_iload_n hC dX6_open_67 rfl rfl ?_
    refine fk_iadd hC dX6_open_68 ?_
    refine fk_iload_n hC dX6_open_69 rfl rfl ?_
    refine fk_st_at hC (j := 263 + (mo Q9)) hm (nI_add 263 (mo Q9)) (by omega) dX6_open_70 ?_
    refine fk_aload_n hC dX6_open_71 rfl rfl ?_
    refine fk_getM_0 hC hm iX6 (by decide +kernel) dX6_open_72 ?_
    refine fk_sipush (v := 1263) hC dX6_open_75 (by decide) ?_
    refine fk_iload_n hC dX6_open_78 rfl rfl ?_
    refine fk_iadd hC dX6_open_79 ?_
    refine fk_aload_n hC dX6_open_80 rfl rfl ?_
    refine fk_getM_0 hC hm iX6 (by decide +kernel) dX6_open_81 ?_
    refine fk_iconst (v := 1) hC dX6_open_84 (by decide) ?_
    refine fk_ld_at hC (j := 1) hm rfl (by omega) dX6_open_85 ?_
    refine fk_st_at hC (j := 1263 + (mo Q9)) hm (nI_add 1263 (mo Q9)) (by omega) dX6_open_86 ?_
    refine fk_aload_n hC dX6_open_87 rfl rfl ?_
    refine fk_getM_0 hC hm iX6 (by decide +kernel) dX6_open_88 ?_
    refine fk_bipush (v := 33) hC dX6_open_91 (by decide) ?_
    refine fk_iload_n hC dX6_open_93 rfl rfl ?_
    refine fk_iadd hC dX6_open_94 ?_
    refine fk_dup2 hC dX6_open_95 rfl rfl ?_
    refine fk_ld_at hC (j := 33 + j) hm (nI_add 33 j) (by omega) dX6_open_96 ?_
    refine fk_iconst (v := 1) hC dX6_open_97 (by decide) ?_
    refine fk_iadd hC dX6_open_98 ?_
    refine fk_st_at hC (j := 33 + j) hm (nI_add 33 j) (by omega) dX6_open_99 ?_
    refine fk_aload_n hC dX6_open_100 rfl rfl ?_
    refine fk_getM_0 hC hm iX6 (by decide +kernel) dX6_open_101 ?_
    refine fk_bipush (v := 10) hC dX6_open_104 (by decide) ?_
    refine fk_dup2 hC dX6_open_106 rfl rfl ?_
    refine fk_ld_at hC (j := 10) hm rfl (by omega) dX6_open_107 ?_
    refine fk_topi (show _ = nI (mo Q9) by rw [pk_un (by unfold iM; omega), pk_un (by unfold iM; omega), pk_un (by unfold iM; omega)]; exact ho9) ?_
    refine fk_iconst (v := 1) hC dX6_open_108 (by decide) ?_
    refine fk_iadd hC dX6_open_109 ?_
    refine fk_topi (nI_1 (mo Q9)) ?_
    refine fk_st_at hC (j := 10) hm rfl (by omega) dX6_open_110 ?_
    refine fk_aload_n hC dX6_open_111 rfl rfl ?_
    refine fk_getM_0 hC hm iX6 (by decide +kernel) dX6_open_112 ?_
    refine fk_bipush (v := 83) hC dX6_open_115 (by decide) ?_
    refine fk_iload_n hC dX6_open_117 rfl rfl ?_
    refine fk_iadd hC dX6_open_118 ?_
    refine fk_ld_at hC (j := 83 + j) hm (nI_add 83 j) (by omega) dX6_open_119 ?_
    refine fk_iconst (v := 2) hC dX6_open_120 (by decide) ?_
    refine fk_icmp_ne (tgt := 134) hC dX6_open_121 (by decide) (fun c121 => ?_) (fun c121 => ?_)
    · refine fk_aload_n hC dX6_open_134 rfl rfl ?_
      refine fk_getM_0 hC hm iX6 (by decide +kernel) dX6_open_135 ?_
      refine fk_bipush (v := 6) hC dX6_open_138 (by decide) ?_
      refine fk_ld_at hC (j := 6) hm rfl (by omega) dX6_open_140 ?_
      refine fk_if_le (tgt := 150) hC dX6_open_141 (by decide) (fun c141 => ?_) (fun c141 => ?_)
      · refine fk_iload_n hC dX6_open_150 rfl rfl ?_
        exact fk_iret hC hr hk dX6_open_151 (by rw [hQ9]) (by unfold mM_op; rw [← hQ9]; have e3 : mM_op3 j (mo Q9) (mM_op2 j Q9) = mM_op2 j Q9 := if_neg c121; rw [e3]; unfold mM_op4; exact (if_pos c141).symm) rfl
      · refine fk_aload_n hC dX6_open_144 rfl rfl ?_
        refine fk_iload_n hC dX6_open_145 rfl rfl ?_
        refine fk_iload_n hC dX6_open_146 rfl rfl ?_
        refine fk_callV hC hN (kX6_remember l D K NL ad _ x hm (mn G) (by  rw [pk_un (by unfold iM; omega), pk_un (by unfold iM; omega), pk_un (by unfold iM; omega), pk_un (by unfold iM; omega)]; exact hn9) h40 _ _) hm.1 (f_E310 _ _ _ _ _) rfl (cwV 2 hC.1.2.2.2.2 gX6_open_X6_remember rfl rfl rfl (by decide +kernel) ⟨Nat.le_of_ble_eq_true rfl, Nat.le_of_ble_eq_true rfl⟩) rfl rfl (Nat.le_of_ble_eq_true rfl) dX6_open_147 ⟨Nat.zero_le _, Nat.zero_le _⟩ ?_
        refine fk_iload_n hC dX6_open_150 rfl rfl ?_
        exact fk_iret hC hr hk dX6_open_151 (by rw [hQ9]) (by unfold mM_op; rw [← hQ9]; have e3 : mM_op3 j (mo Q9) (mM_op2 j Q9) = mM_op2 j Q9 := if_neg c121; rw [e3]; unfold mM_op4; exact (if_neg c141).symm) rfl
    · refine fk_aload_n hC dX6_open_124 rfl rfl ?_
      refine fk_getM_0 hC hm iX6 (by decide +kernel) dX6_open_125 ?_
      refine fk_bipush (v := 103) hC dX6_open_128 (by decide) ?_
      refine fk_iload_n hC dX6_open_130 rfl rfl ?_
      refine fk_iadd hC dX6_open_131 ?_
      refine fk_iload_n hC dX6_open_132 rfl rfl ?_
      refine fk_st_at hC (j := 103 + j) hm (nI_add 103 j) (by omega) dX6_open_133 ?_
      refine fk_aload_n hC dX6_open_134 rfl rfl ?_
      refine fk_getM_0 hC hm iX6 (by decide +kernel) dX6_open_135 ?_
      refine fk_bipush (v := 6) hC dX6_open_138 (by decide) ?_
      refine fk_ld_at hC (j := 6) hm rfl (by omega) dX6_open_140 ?_
      refine fk_if_le (tgt := 150) hC dX6_open_141 (by decide) (fun c141 => ?_) (fun c141 => ?_)
      · refine fk_iload_n hC dX6_open_150 rfl rfl ?_
        exact fk_iret hC hr hk dX6_open_151 (by rw [hQ9]) (by unfold mM_op; rw [← hQ9]; have e3 : mM_op3 j (mo Q9) (mM_op2 j Q9) = upd (mM_op2 j Q9) (iM (103 + j)) (nI (mo Q9)) := if_pos c121; rw [e3]; unfold mM_op4; exact (if_pos c141).symm) rfl
      · refine fk_aload_n hC dX6_open_144 rfl rfl ?_
        refine fk_iload_n hC dX6_open_145 rfl rfl ?_
        refine fk_iload_n hC dX6_open_146 rfl rfl ?_
        refine fk_callV hC hN (kX6_remember l D K NL ad _ x hm (mn G) (by rw [pk_un (by unfold iM; omega)]; rw [pk_un (by unfold iM; omega), pk_un (by unfold iM; omega), pk_un (by unfold iM; omega), pk_un (by unfold iM; omega)]; exact hn9) h40 _ _) hm.1 (f_E310 _ _ _ _ _) rfl (cwV 2 hC.1.2.2.2.2 gX6_open_X6_remember rfl rfl rfl (by decide +kernel) ⟨Nat.le_of_ble_eq_true rfl, Nat.le_of_ble_eq_true rfl⟩) rfl rfl (Nat.le_of_ble_eq_true rfl) dX6_open_147 ⟨Nat.zero_le _, Nat.zero_le _⟩ ?_
        refine fk_iload_n hC dX6_open_150 rfl rfl ?_
        exact fk_iret hC hr hk dX6_open_151 (by rw [hQ9]) (by unfold mM_op; rw [← hQ9]; have e3 : mM_op3 j (mo Q9) (mM_op2 j Q9) = upd (mM_op2 j Q9) (iM (103 + j)) (nI (mo Q9)) := if_pos c121; rw [e3]; unfold mM_op4; exact (if_neg c141).symm) rfl
  refine fk_aload_n hC dX6_open_0 rfl rfl ?_
  refine fk_iload_n hC dX6_open_1 rfl rfl ?_
  refine fk_callV hC hN (kX6_choice l D K NL ad _ x hm cn hJ _) hm.1 (f_E310 _ _ _ _ _) rfl (cwV 1 hC.1.2.2.2.2 gX6_open_X6_choice rfl rfl rfl (by decide +kernel) ⟨Nat.le_of_ble_eq_true rfl, Nat.le_of_ble_eq_true rfl⟩) rfl rfl (Nat.le_of_ble_eq_true rfl) dX6_open_2 ⟨Nat.zero_le _, Nat.zero_le _⟩ ?_
  rw [hf]
  refine fk_istore_n hC dX6_open_5 rfl (by decide) rfl ?_
  refine fk_aload_n hC dX6_open_6 rfl rfl ?_
  refine fk_iload_n hC dX6_open_7 rfl rfl ?_
  refine fk_if_ge (tgt := 15) hC dX6_open_8 (by decide) (fun c8 => ?_) (fun c8 => ?_)
  · refine fk_iconst (v := 0) hC dX6_open_15 (by decide) ?_
    refine fk_putM_3 hC hm iX6 (by decide +kernel) dX6_open_16 ?_
    refine fk_aload_n hC dX6_open_19 rfl rfl ?_
    refine fk_getM_3 hC hm iX6 (by decide +kernel) dX6_open_20 ?_
    refine fk_topi pk_us ?_
    refine fk_if_eq (tgt := 39) hC dX6_open_23 (by decide) (fun c23 => ?_) (fun c23 => ?_)
    · refine fk_aload_n hC dX6_open_39 rfl rfl ?_
      refine fk_iload_n hC dX6_open_40 rfl rfl ?_
      refine fk_callV hC hN (kX6_stuckTo l D K NL ad _ x hm cn hJ.lay.thr _) hm.1 (f_E310 _ _ _ _ _) rfl (cwV 1 hC.1.2.2.2.2 gX6_open_X6_stuckTo rfl rfl rfl (by decide +kernel) ⟨Nat.le_of_ble_eq_true rfl, Nat.le_of_ble_eq_true rfl⟩) rfl rfl (Nat.le_of_ble_eq_true rfl) dX6_open_41 ⟨Nat.zero_le _, Nat.zero_le _⟩ ?_
      rcases h9 : mM_stuck cl (mM_op0 cn G) with _ | t
      all_goals rw [show mM_stuck cl (upd (mM_lay cn G) (iT 0) 0) = _ from h9]
      · refine fk_if_ge (tgt := 52) hC dX6_open_44 (by decide) (fun c44 => ?_) (fun c44 => ?_)
        · exact absurd c44 (by decide)
        · refine fk_aload_n hC dX6_open_47 rfl rfl ?_
          refine fk_iload_n hC dX6_open_48 rfl rfl ?_
          refine fk_callV hC hN (kX6_note l D K NL ad _ x hm cn hJ.1.2 (avL cn G) hlay.2.up0 hs9.2.2 hJ.lay.thr.2.2.2.2.1 j hs9.1) hm.1 (f_E310 _ _ _ _ _) rfl (cwV 1 hC.1.2.2.2.2 gX6_open_X6_note rfl rfl rfl (by decide +kernel) ⟨Nat.le_of_ble_eq_true rfl, Nat.le_of_ble_eq_true rfl⟩) rfl rfl (Nat.le_of_ble_eq_true rfl) dX6_open_49 ⟨Nat.zero_le _, Nat.zero_le _⟩ ?_
          exact tail _ (by unfold mM_op1; rw [h9]; rfl)
      · have ht := mM_stuck_lt hJ.lay.thr h9
        refine fk_if_ge (tgt := 52) hC dX6_open_44 (by decide) (fun c44 => ?_) (fun c44 => ?_)
        · exact tail _ (by unfold mM_op1; rw [h9]; rfl)
        · exact absurd (nI_pos' (by omega)) c44
    · exact absurd c23 (by decide)
  · exact absurd (nI_pos' (by omega)) c8

set_option maxHeartbeats 4000000 in
set_option maxRecDepth 100000 in
theorem eX6_open (l : Launch) (D : va_G) (K : Nat → ClassId) (NL : List Nat) (ad : Nat → Nat) (G : fM) (x : fX) (hm : f_EM NL) (cn : Nat) (hJ : f_J cn G) (cl : Int32) (hf : mM_ch cn cl G = none) : Kd l yX6_open wsX6_open { frames := 5, cells := 0, slots := 0, locals := 115 } vwCl D K NL ad [.ref (ad 310), .int cl] G x (some (.int 0)) (upd (upd (mM_lay cn G) (iT 0) 1) (iM 11) (upd (mM_lay cn G) (iT 0) 1 (iM 11) + 1)) x := by
  refine Kd.of (cc := cX6_open) (maxL := 4) (ret := (some .int)) (L := [some (.ref (ad 310)), some (.int cl), none, none]) (by decide +kernel) rfl rfl (Nat.le_of_ble_eq_true rfl) ?_
  intro p e s m args below meth c hC hN hr hk hnme
  have iX6 : ∀ w ∈ wsX60, w ∈ wsX6_open := by decide +kernel
  refine fk_aload_n hC dX6_open_0 rfl rfl ?_
  refine fk_iload_n hC dX6_open_1 rfl rfl ?_
  refine fk_callV hC hN (kX6_choice l D K NL ad _ x hm cn hJ _) hm.1 (f_E310 _ _ _ _ _) rfl (cwV 1 hC.1.2.2.2.2 gX6_open_X6_choice rfl rfl rfl (by decide +kernel) ⟨Nat.le_of_ble_eq_true rfl, Nat.le_of_ble_eq_true rfl⟩) rfl rfl (Nat.le_of_ble_eq_true rfl) dX6_open_2 ⟨Nat.zero_le _, Nat.zero_le _⟩ ?_
  rw [hf]
  refine fk_istore_n hC dX6_open_5 rfl (by decide) rfl ?_
  refine fk_aload_n hC dX6_open_6 rfl rfl ?_
  refine fk_iload_n hC dX6_open_7 rfl rfl ?_
  refine fk_if_ge (tgt := 15) hC dX6_open_8 (by decide) (fun c8 => ?_) (fun c8 => ?_)
  · exact absurd c8 (by decide)
  · refine fk_iconst (v := 1) hC dX6_open_11 (by decide) ?_
    refine fk_goto (tgt := 16) hC dX6_open_12 (by decide) ?_
    refine fk_putM_3 hC hm iX6 (by decide +kernel) dX6_open_16 ?_
    refine fk_aload_n hC dX6_open_19 rfl rfl ?_
    refine fk_getM_3 hC hm iX6 (by decide +kernel) dX6_open_20 ?_
    refine fk_topi pk_us ?_
    refine fk_if_eq (tgt := 39) hC dX6_open_23 (by decide) (fun c23 => ?_) (fun c23 => ?_)
    · exact absurd c23 (by decide)
    · refine fk_aload_n hC dX6_open_26 rfl rfl ?_
      refine fk_getM_0 hC hm iX6 (by decide +kernel) dX6_open_27 ?_
      refine fk_bipush (v := 11) hC dX6_open_30 (by decide) ?_
      refine fk_dup2 hC dX6_open_32 rfl rfl ?_
      refine fk_ld_at hC (j := 11) hm rfl (by omega) dX6_open_33 ?_
      refine fk_iconst (v := 1) hC dX6_open_34 (by decide) ?_
      refine fk_iadd hC dX6_open_35 ?_
      refine fk_st_at hC (j := 11) hm rfl (by omega) dX6_open_36 ?_
      refine fk_iconst (v := 0) hC dX6_open_37 (by decide) ?_
      exact fk_iret hC hr hk dX6_open_38 rfl rfl rfl

def mM_cl0 (k : Nat) (G : fM) : fM := upd (upd (upd G (iT 0) 0) (iM (2263 + k)) 1) (iM (33 + mco k G)) (upd (upd G (iT 0) 0) (iM (2263 + k)) 1 (iM (33 + mco k G)) - 1)
def mM_cl1 (i : Nat) (G : fM) : fM := upd (upd (upd (upd G (iM (83 + i)) 0) (iM (103 + i)) (-1)) (iM (123 + i)) 0) (iM (133 + i)) 0
def mM_cl2 (k i : Nat) (gd : Int32) (Q : fM) : fM := if Q (iM (83 + i)) = 0 then mM_ad i gd Q else if Q (iM (83 + i)) = 2 then (if Q (iM (103 + i)) = nI k then (if gd = 0 then mM_trip i Q else mM_cl1 i Q) else Q) else Q
def mM_cl (k : Nat) (gd : Int32) (G : fM) : fM := mM_cl2 k (mco k G) gd (mM_cl0 k G)
set_option maxHeartbeats 4000000 in
set_option maxRecDepth 100000 in
theorem kX6_close (l : Launch) (D : va_G) (K : Nat → ClassId) (NL : List Nat) (ad : Nat → Nat) (G : fM) (x : fX) (hm : f_EM NL) (cn : Nat) (hJ : f_J cn G) (k : Nat) (hk9 : k < mo G) (gd : Int32) (ho : ¬ G (iM (2263 + k)) = 1) : Kd l yX6_close wsX6_close { frames := 2, cells := 0, slots := 0, locals := 45 } vwCl D K NL ad [.ref (ad 310), .int (nI k), .int gd] G x (some (.int (mM_cl k gd G (iM 1) - mM_cl k gd G (iM (1263 + k))))) (mM_cl k gd G) x := by
  refine Kd.of (cc := cX6_close) (maxL := 4) (ret := (some .int)) (L := [some (.ref (ad 310)), some (.int (nI k)), some (.int gd), none]) (by decide +kernel) rfl rfl (Nat.le_of_ble_eq_true rfl) ?_
  intro p e s m args below meth c hC hN hr hk hnme
  have iX6 : ∀ w ∈ wsX60, w ∈ wsX6_close := by decide +kernel
  have h10 := hJ.1.2
  have h40 := hJ.2.1.2
  have h1000 := hJ.2.2.1.2
  have hco := (hJ.2.2.2.2.2.2 k hk9).2
  refine fk_aload_n hC dX6_close_0 rfl rfl ?_
  refine fk_aload_n hC dX6_close_1 rfl rfl ?_
  refine fk_iload_n hC dX6_close_2 rfl rfl ?_
  refine fk_callV hC hN (kX6_wasOpened l D K NL ad _ x hm _) hm.1 (f_E310 _ _ _ _ _) rfl (cwV 1 hC.1.2.2.2.2 gX6_close_X6_wasOpened rfl rfl rfl (by decide +kernel) ⟨Nat.le_of_ble_eq_true rfl, Nat.le_of_ble_eq_true rfl⟩) rfl rfl (Nat.le_of_ble_eq_true rfl) dX6_close_3 ⟨Nat.zero_le _, Nat.zero_le _⟩ ?_
  refine fk_topi (show _ = (1 : Int32) by rw [hJ.2.2.1.1]; exact inV_t (rng_i (by omega) hk9)) ?_
  refine fk_if_ne (tgt := 13) hC dX6_close_6 (by decide) (fun c6 => ?_) (fun c6 => ?_)
  · refine fk_aload_n hC dX6_close_13 rfl rfl ?_
    refine fk_getM_0 hC hm iX6 (by decide +kernel) dX6_close_14 ?_
    refine fk_sipush (v := 2263) hC dX6_close_17 (by decide) ?_
    refine fk_iload_n hC dX6_close_20 rfl rfl ?_
    refine fk_iadd hC dX6_close_21 ?_
    refine fk_ld_at hC (j := 2263 + k) hm (nI_add 2263 k) (by omega) dX6_close_22 ?_
    refine fk_iconst (v := 1) hC dX6_close_23 (by decide) ?_
    refine fk_icmp_ne (tgt := 31) hC dX6_close_24 (by decide) (fun c24 => ?_) (fun c24 => ?_)
    · refine fk_iconst (v := 0) hC dX6_close_31 (by decide) ?_
      refine fk_putM_3 hC hm iX6 (by decide +kernel) dX6_close_32 ?_
      refine fk_aload_n hC dX6_close_35 rfl rfl ?_
      refine fk_getM_3 hC hm iX6 (by decide +kernel) dX6_close_36 ?_
      refine fk_topi pk_us ?_
      refine fk_if_eq (tgt := 44) hC dX6_close_39 (by decide) (fun c39 => ?_) (fun c39 => ?_)
      · refine fk_aload_n hC dX6_close_44 rfl rfl ?_
        refine fk_getM_0 hC hm iX6 (by decide +kernel) dX6_close_45 ?_
        refine fk_sipush (v := 263) hC dX6_close_48 (by decide) ?_
        refine fk_iload_n hC dX6_close_51 rfl rfl ?_
        refine fk_iadd hC dX6_close_52 ?_
        refine fk_ld_at hC (j := 263 + k) hm (nI_add 263 k) (by omega) dX6_close_53 ?_
        refine fk_topi (show _ = nI (mco k G) by rw [pk_un (by unfold iM iT; omega)]; exact (hJ.2.2.2.2.2.2 k hk9).1) ?_
        refine fk_istore_n hC dX6_close_54 rfl (by decide) rfl ?_
        refine fk_aload_n hC dX6_close_55 rfl rfl ?_
        refine fk_getM_0 hC hm iX6 (by decide +kernel) dX6_close_56 ?_
        refine fk_sipush (v := 2263) hC dX6_close_59 (by decide) ?_
        refine fk_iload_n hC dX6_close_62 rfl rfl ?_
        refine fk_iadd hC dX6_close_63 ?_
        refine fk_iconst (v := 1) hC dX6_close_64 (by decide) ?_
        refine fk_st_at hC (j := 2263 + k) hm (nI_add 2263 k) (by omega) dX6_close_65 ?_
        refine fk_aload_n hC dX6_close_66 rfl rfl ?_
        refine fk_getM_0 hC hm iX6 (by decide +kernel) dX6_close_67 ?_
        refine fk_bipush (v := 33) hC dX6_close_70 (by decide) ?_
        refine fk_iload_n hC dX6_close_72 rfl rfl ?_
        refine fk_iadd hC dX6_close_73 ?_
        refine fk_dup2 hC dX6_close_74 rfl rfl ?_
        refine fk_ld_at hC (j := 33 + (mco k G)) hm (nI_add 33 (mco k G)) (by omega) dX6_close_75 ?_
        refine fk_iconst (v := 1) hC dX6_close_76 (by decide) ?_
        refine fk_isub hC dX6_close_77 ?_
        refine fk_st_at hC (j := 33 + (mco k G)) hm (nI_add 33 (mco k G)) (by omega) dX6_close_78 ?_
        refine fk_aload_n hC dX6_close_79 rfl rfl ?_
        refine fk_getM_0 hC hm iX6 (by decide +kernel) dX6_close_80 ?_
        refine fk_bipush (v := 83) hC dX6_close_83 (by decide) ?_
        refine fk_iload_n hC dX6_close_85 rfl rfl ?_
        refine fk_iadd hC dX6_close_86 ?_
        refine fk_ld_at hC (j := 83 + (mco k G)) hm (nI_add 83 (mco k G)) (by omega) dX6_close_87 ?_
        refine fk_if_ne (tgt := 100) hC dX6_close_88 (by decide) (fun c88 => ?_) (fun c88 => ?_)
        · refine fk_aload_n hC dX6_close_100 rfl rfl ?_
          refine fk_getM_0 hC hm iX6 (by decide +kernel) dX6_close_101 ?_
          refine fk_bipush (v := 83) hC dX6_close_104 (by decide) ?_
          refine fk_iload_n hC dX6_close_106 rfl rfl ?_
          refine fk_iadd hC dX6_close_107 ?_
          refine fk_ld_at hC (j := 83 + (mco k G)) hm (nI_add 83 (mco k G)) (by omega) dX6_close_108 ?_
          refine fk_iconst (v := 2) hC dX6_close_109 (by decide) ?_
          refine fk_icmp_ne (tgt := 179) hC dX6_close_110 (by decide) (fun c110 => ?_) (fun c110 => ?_)
          · refine fk_aload_n hC dX6_close_179 rfl rfl ?_
            refine fk_getM_0 hC hm iX6 (by decide +kernel) dX6_close_180 ?_
            refine fk_iconst (v := 1) hC dX6_close_183 (by decide) ?_
            refine fk_ld_at hC (j := 1) hm rfl (by omega) dX6_close_184 ?_
            refine fk_aload_n hC dX6_close_185 rfl rfl ?_
            refine fk_getM_0 hC hm iX6 (by decide +kernel) dX6_close_186 ?_
            refine fk_sipush (v := 1263) hC dX6_close_189 (by decide) ?_
            refine fk_iload_n hC dX6_close_192 rfl rfl ?_
            refine fk_iadd hC dX6_close_193 ?_
            refine fk_ld_at hC (j := 1263 + k) hm (nI_add 1263 k) (by omega) dX6_close_194 ?_
            refine fk_isub hC dX6_close_195 ?_
            exact fk_iret hC hr hk dX6_close_196 (congrArg (fun Q9 : fM => some (Value.int (Q9 (iM 1) - Q9 (iM (1263 + k))))) (show mM_cl k gd G = _ from (if_neg c88).trans (if_neg c110)).symm) (show mM_cl k gd G = _ from (if_neg c88).trans (if_neg c110)).symm rfl
          · refine fk_aload_n hC dX6_close_113 rfl rfl ?_
            refine fk_getM_0 hC hm iX6 (by decide +kernel) dX6_close_114 ?_
            refine fk_bipush (v := 103) hC dX6_close_117 (by decide) ?_
            refine fk_iload_n hC dX6_close_119 rfl rfl ?_
            refine fk_iadd hC dX6_close_120 ?_
            refine fk_ld_at hC (j := 103 + (mco k G)) hm (nI_add 103 (mco k G)) (by omega) dX6_close_121 ?_
            refine fk_iload_n hC dX6_close_122 rfl rfl ?_
            refine fk_icmp_ne (tgt := 179) hC dX6_close_123 (by decide) (fun c123 => ?_) (fun c123 => ?_)
            · refine fk_aload_n hC dX6_close_179 rfl rfl ?_
              refine fk_getM_0 hC hm iX6 (by decide +kernel) dX6_close_180 ?_
              refine fk_iconst (v := 1) hC dX6_close_183 (by decide) ?_
              refine fk_ld_at hC (j := 1) hm rfl (by omega) dX6_close_184 ?_
              refine fk_aload_n hC dX6_close_185 rfl rfl ?_
              refine fk_getM_0 hC hm iX6 (by decide +kernel) dX6_close_186 ?_
              refine fk_sipush (v := 1263) hC dX6_close_189 (by decide) ?_
              refine fk_iload_n hC dX6_close_192 rfl rfl ?_
              refine fk_iadd hC dX6_close_193 ?_
              refine fk_ld_at hC (j := 1263 + k) hm (nI_add 1263 k) (by omega) dX6_close_194 ?_
              refine fk_isub hC dX6_close_195 ?_
              exact fk_iret hC hr hk dX6_close_196 (congrArg (fun Q9 : fM => some (Value.int (Q9 (iM 1) - Q9 (iM (1263 + k))))) (show mM_cl k gd G = _ from (if_neg c88).trans ((if_pos c110).trans (if_neg c123))).symm) (show mM_cl k gd G = _ from (if_neg c88).trans ((if_pos c110).trans (if_neg c123))).symm rfl
            · refine fk_iload_n hC dX6_close_126 rfl rfl ?_
              refine fk_if_eq (tgt := 174) hC dX6_close_127 (by decide) (fun c127 => ?_) (fun c127 => ?_)
              · refine fk_aload_n hC dX6_close_174 rfl rfl ?_
                refine fk_iload_n hC dX6_close_175 rfl rfl ?_
                refine fk_callV hC hN (kX6_trip l D K NL ad _ x hm (mco k G) (by omega)) hm.1 (f_E310 _ _ _ _ _) rfl (cwV 1 hC.1.2.2.2.2 gX6_close_X6_trip rfl rfl rfl (by decide +kernel) ⟨Nat.le_of_ble_eq_true rfl, Nat.le_of_ble_eq_true rfl⟩) rfl rfl (Nat.le_of_ble_eq_true rfl) dX6_close_176 ⟨Nat.zero_le _, Nat.zero_le _⟩ ?_
                refine fk_aload_n hC dX6_close_179 rfl rfl ?_
                refine fk_getM_0 hC hm iX6 (by decide +kernel) dX6_close_180 ?_
                refine fk_iconst (v := 1) hC dX6_close_183 (by decide) ?_
                refine fk_ld_at hC (j := 1) hm rfl (by omega) dX6_close_184 ?_
                refine fk_aload_n hC dX6_close_185 rfl rfl ?_
                refine fk_getM_0 hC hm iX6 (by decide +kernel) dX6_close_186 ?_
                refine fk_sipush (v := 1263) hC dX6_close_189 (by decide) ?_
                refine fk_iload_n hC dX6_close_192 rfl rfl ?_
                refine fk_iadd hC dX6_close_193 ?_
                refine fk_ld_at hC (j := 1263 + k) hm (nI_add 1263 k) (by omega) dX6_close_194 ?_
                refine fk_isub hC dX6_close_195 ?_
                exact fk_iret hC hr hk dX6_close_196 (congrArg (fun Q9 : fM => some (Value.int (Q9 (iM 1) - Q9 (iM (1263 + k))))) (show mM_cl k gd G = _ from (if_neg c88).trans ((if_pos c110).trans ((if_pos c123).trans (if_pos c127)))).symm) (show mM_cl k gd G = _ from (if_neg c88).trans ((if_pos c110).trans ((if_pos c123).trans (if_pos c127)))).symm rfl
              · refine fk_aload_n hC dX6_close_130 rfl rfl ?_
                refine fk_getM_0 hC hm iX6 (by decide +kernel) dX6_close_131 ?_
                refine fk_bipush (v := 83) hC dX6_close_134 (by decide) ?_
                refine fk_iload_n hC dX6_close_136 rfl rfl ?_
                refine fk_iadd hC dX6_close_137 ?_
                refine fk_iconst (v := 0) hC dX6_close_138 (by decide) ?_
                refine fk_st_at hC (j := 83 + (mco k G)) hm (nI_add 83 (mco k G)) (by omega) dX6_close_139 ?_
                refine fk_aload_n hC dX6_close_140 rfl rfl ?_
                refine fk_getM_0 hC hm iX6 (by decide +kernel) dX6_close_141 ?_
                refine fk_bipush (v := 103) hC dX6_close_144 (by decide) ?_
                refine fk_iload_n hC dX6_close_146 rfl rfl ?_
                refine fk_iadd hC dX6_close_147 ?_
                refine fk_iconst (v := (-1)) hC dX6_close_148 (by decide) ?_
                refine fk_st_at hC (j := 103 + (mco k G)) hm (nI_add 103 (mco k G)) (by omega) dX6_close_149 ?_
                refine fk_aload_n hC dX6_close_150 rfl rfl ?_
                refine fk_getM_0 hC hm iX6 (by decide +kernel) dX6_close_151 ?_
                refine fk_bipush (v := 123) hC dX6_close_154 (by decide) ?_
                refine fk_iload_n hC dX6_close_156 rfl rfl ?_
                refine fk_iadd hC dX6_close_157 ?_
                refine fk_iconst (v := 0) hC dX6_close_158 (by decide) ?_
                refine fk_st_at hC (j := 123 + (mco k G)) hm (nI_add 123 (mco k G)) (by omega) dX6_close_159 ?_
                refine fk_aload_n hC dX6_close_160 rfl rfl ?_
                refine fk_getM_0 hC hm iX6 (by decide +kernel) dX6_close_161 ?_
                refine fk_sipush (v := 133) hC dX6_close_164 (by decide) ?_
                refine fk_iload_n hC dX6_close_167 rfl rfl ?_
                refine fk_iadd hC dX6_close_168 ?_
                refine fk_iconst (v := 0) hC dX6_close_169 (by decide) ?_
                refine fk_st_at hC (j := 133 + (mco k G)) hm (nI_add 133 (mco k G)) (by omega) dX6_close_170 ?_
                refine fk_goto (tgt := 179) hC dX6_close_171 (by decide) ?_
                refine fk_aload_n hC dX6_close_179 rfl rfl ?_
                refine fk_getM_0 hC hm iX6 (by decide +kernel) dX6_close_180 ?_
                refine fk_iconst (v := 1) hC dX6_close_183 (by decide) ?_
                refine fk_ld_at hC (j := 1) hm rfl (by omega) dX6_close_184 ?_
                refine fk_aload_n hC dX6_close_185 rfl rfl ?_
                refine fk_getM_0 hC hm iX6 (by decide +kernel) dX6_close_186 ?_
                refine fk_sipush (v := 1263) hC dX6_close_189 (by decide) ?_
                refine fk_iload_n hC dX6_close_192 rfl rfl ?_
                refine fk_iadd hC dX6_close_193 ?_
                refine fk_ld_at hC (j := 1263 + k) hm (nI_add 1263 k) (by omega) dX6_close_194 ?_
                refine fk_isub hC dX6_close_195 ?_
                exact fk_iret hC hr hk dX6_close_196 (congrArg (fun Q9 : fM => some (Value.int (Q9 (iM 1) - Q9 (iM (1263 + k))))) (show mM_cl k gd G = _ from (if_neg c88).trans ((if_pos c110).trans ((if_pos c123).trans (if_neg c127)))).symm) (show mM_cl k gd G = _ from (if_neg c88).trans ((if_pos c110).trans ((if_pos c123).trans (if_neg c127)))).symm rfl
        · refine fk_aload_n hC dX6_close_91 rfl rfl ?_
          refine fk_iload_n hC dX6_close_92 rfl rfl ?_
          refine fk_iload_n hC dX6_close_93 rfl rfl ?_
          refine fk_callV hC hN (kX6_addResult l D K NL ad _ x hm (mco k G) (by omega) _) hm.1 (f_E310 _ _ _ _ _) rfl (cwV 2 hC.1.2.2.2.2 gX6_close_X6_addResult rfl rfl rfl (by decide +kernel) ⟨Nat.le_of_ble_eq_true rfl, Nat.le_of_ble_eq_true rfl⟩) rfl rfl (Nat.le_of_ble_eq_true rfl) dX6_close_94 ⟨Nat.zero_le _, Nat.zero_le _⟩ ?_
          refine fk_goto (tgt := 179) hC dX6_close_97 (by decide) ?_
          refine fk_aload_n hC dX6_close_179 rfl rfl ?_
          refine fk_getM_0 hC hm iX6 (by decide +kernel) dX6_close_180 ?_
          refine fk_iconst (v := 1) hC dX6_close_183 (by decide) ?_
          refine fk_ld_at hC (j := 1) hm rfl (by omega) dX6_close_184 ?_
          refine fk_aload_n hC dX6_close_185 rfl rfl ?_
          refine fk_getM_0 hC hm iX6 (by decide +kernel) dX6_close_186 ?_
          refine fk_sipush (v := 1263) hC dX6_close_189 (by decide) ?_
          refine fk_iload_n hC dX6_close_192 rfl rfl ?_
          refine fk_iadd hC dX6_close_193 ?_
          refine fk_ld_at hC (j := 1263 + k) hm (nI_add 1263 k) (by omega) dX6_close_194 ?_
          refine fk_isub hC dX6_close_195 ?_
          exact fk_iret hC hr hk dX6_close_196 (congrArg (fun Q9 : fM => some (Value.int (Q9 (iM 1) - Q9 (iM (1263 + k))))) (show mM_cl k gd G = _ from if_pos c88).symm) (show mM_cl k gd G = _ from if_pos c88).symm rfl
      · exact absurd c39 (by decide)
    · exact absurd c24 ho
  · exact absurd c6 (by decide)

set_option maxHeartbeats 4000000 in
set_option maxRecDepth 100000 in
theorem eX6_close_1 (l : Launch) (D : va_G) (K : Nat → ClassId) (NL : List Nat) (ad : Nat → Nat) (G : fM) (x : fX) (hm : f_EM NL) (cn : Nat) (hJ : f_J cn G) (v gd : Int32) (h : v < 0 ∨ ¬ v < nI (mo G)) : Kd l yX6_close wsX6_close { frames := 2, cells := 0, slots := 0, locals := 43 } vwCl D K NL ad [.ref (ad 310), .int v, .int gd] G x (some (.int 0)) (upd G (iT 0) 1) x := by
  refine Kd.of (cc := cX6_close) (maxL := 4) (ret := (some .int)) (L := [some (.ref (ad 310)), some (.int v), some (.int gd), none]) (by decide +kernel) rfl rfl (Nat.le_of_ble_eq_true rfl) ?_
  intro p e s m args below meth c hC hN hr hk hnme
  have iX6 : ∀ w ∈ wsX60, w ∈ wsX6_close := by decide +kernel
  have h10 := hJ.1.2
  have h40 := hJ.2.1.2
  have h1000 := hJ.2.2.1.2
  refine fk_aload_n hC dX6_close_0 rfl rfl ?_
  refine fk_aload_n hC dX6_close_1 rfl rfl ?_
  refine fk_iload_n hC dX6_close_2 rfl rfl ?_
  refine fk_callV hC hN (kX6_wasOpened l D K NL ad _ x hm _) hm.1 (f_E310 _ _ _ _ _) rfl (cwV 1 hC.1.2.2.2.2 gX6_close_X6_wasOpened rfl rfl rfl (by decide +kernel) ⟨Nat.le_of_ble_eq_true rfl, Nat.le_of_ble_eq_true rfl⟩) rfl rfl (Nat.le_of_ble_eq_true rfl) dX6_close_3 ⟨Nat.zero_le _, Nat.zero_le _⟩ ?_
  refine fk_topi (show _ = (0 : Int32) by rw [hJ.2.2.1.1]; exact inV_f (rng_no (by omega) h)) ?_
  refine fk_if_ne (tgt := 13) hC dX6_close_6 (by decide) (fun c6 => ?_) (fun c6 => ?_)
  · exact absurd c6 (by decide)
  · refine fk_iconst (v := 1) hC dX6_close_9 (by decide) ?_
    refine fk_goto (tgt := 32) hC dX6_close_10 (by decide) ?_
    refine fk_putM_3 hC hm iX6 (by decide +kernel) dX6_close_32 ?_
    refine fk_aload_n hC dX6_close_35 rfl rfl ?_
    refine fk_getM_3 hC hm iX6 (by decide +kernel) dX6_close_36 ?_
    refine fk_topi pk_us ?_
    refine fk_if_eq (tgt := 44) hC dX6_close_39 (by decide) (fun c39 => ?_) (fun c39 => ?_)
    · exact absurd c39 (by decide)
    · refine fk_iconst (v := 0) hC dX6_close_42 (by decide) ?_
      exact fk_iret hC hr hk dX6_close_43 rfl rfl rfl

set_option maxHeartbeats 4000000 in
set_option maxRecDepth 100000 in
theorem eX6_close_2 (l : Launch) (D : va_G) (K : Nat → ClassId) (NL : List Nat) (ad : Nat → Nat) (G : fM) (x : fX) (hm : f_EM NL) (cn : Nat) (hJ : f_J cn G) (k : Nat) (hk9 : k < mo G) (gd : Int32) (ho : G (iM (2263 + k)) = 1) : Kd l yX6_close wsX6_close { frames := 2, cells := 0, slots := 0, locals := 43 } vwCl D K NL ad [.ref (ad 310), .int (nI k), .int gd] G x (some (.int 0)) (upd G (iT 0) 2) x := by
  refine Kd.of (cc := cX6_close) (maxL := 4) (ret := (some .int)) (L := [some (.ref (ad 310)), some (.int (nI k)), some (.int gd), none]) (by decide +kernel) rfl rfl (Nat.le_of_ble_eq_true rfl) ?_
  intro p e s m args below meth c hC hN hr hk hnme
  have iX6 : ∀ w ∈ wsX60, w ∈ wsX6_close := by decide +kernel
  have h10 := hJ.1.2
  have h40 := hJ.2.1.2
  have h1000 := hJ.2.2.1.2
  refine fk_aload_n hC dX6_close_0 rfl rfl ?_
  refine fk_aload_n hC dX6_close_1 rfl rfl ?_
  refine fk_iload_n hC dX6_close_2 rfl rfl ?_
  refine fk_callV hC hN (kX6_wasOpened l D K NL ad _ x hm _) hm.1 (f_E310 _ _ _ _ _) rfl (cwV 1 hC.1.2.2.2.2 gX6_close_X6_wasOpened rfl rfl rfl (by decide +kernel) ⟨Nat.le_of_ble_eq_true rfl, Nat.le_of_ble_eq_true rfl⟩) rfl rfl (Nat.le_of_ble_eq_true rfl) dX6_close_3 ⟨Nat.zero_le _, Nat.zero_le _⟩ ?_
  refine fk_topi (show _ = (1 : Int32) by rw [hJ.2.2.1.1]; exact inV_t (rng_i (by omega) hk9)) ?_
  refine fk_if_ne (tgt := 13) hC dX6_close_6 (by decide) (fun c6 => ?_) (fun c6 => ?_)
  · refine fk_aload_n hC dX6_close_13 rfl rfl ?_
    refine fk_getM_0 hC hm iX6 (by decide +kernel) dX6_close_14 ?_
    refine fk_sipush (v := 2263) hC dX6_close_17 (by decide) ?_
    refine fk_iload_n hC dX6_close_20 rfl rfl ?_
    refine fk_iadd hC dX6_close_21 ?_
    refine fk_ld_at hC (j := 2263 + k) hm (nI_add 2263 k) (by omega) dX6_close_22 ?_
    refine fk_iconst (v := 1) hC dX6_close_23 (by decide) ?_
    refine fk_icmp_ne (tgt := 31) hC dX6_close_24 (by decide) (fun c24 => ?_) (fun c24 => ?_)
    · exact absurd ho c24
    · refine fk_iconst (v := 2) hC dX6_close_27 (by decide) ?_
      refine fk_goto (tgt := 32) hC dX6_close_28 (by decide) ?_
      refine fk_putM_3 hC hm iX6 (by decide +kernel) dX6_close_32 ?_
      refine fk_aload_n hC dX6_close_35 rfl rfl ?_
      refine fk_getM_3 hC hm iX6 (by decide +kernel) dX6_close_36 ?_
      refine fk_topi pk_us ?_
      refine fk_if_eq (tgt := 44) hC dX6_close_39 (by decide) (fun c39 => ?_) (fun c39 => ?_)
      · exact absurd c39 (by decide)
      · refine fk_iconst (v := 0) hC dX6_close_42 (by decide) ?_
        exact fk_iret hC hr hk dX6_close_43 rfl rfl rfl
  · exact absurd c6 (by decide)

set_option maxHeartbeats 4000000 in
set_option maxRecDepth 100000 in
theorem kX6_serverOf (l : Launch) (D : va_G) (K : Nat → ClassId) (NL : List Nat) (ad : Nat → Nat) (G : fM) (x : fX) (hm : f_EM NL) (cn : Nat) (hJ : f_J cn G) (k : Nat) (hk9 : k < mo G) : Kd l yX6_serverOf wsX6_serverOf { frames := 2, cells := 0, slots := 0, locals := 43 } vwCl D K NL ad [.ref (ad 310), .int (nI k)] G x (some (.int (upd G (iT 0) 0 (iM (263 + k))))) (upd G (iT 0) 0) x := by
  refine Kd.of (cc := cX6_serverOf) (maxL := 2) (ret := (some .int)) (L := [some (.ref (ad 310)), some (.int (nI k))]) (by decide +kernel) rfl rfl (Nat.le_of_ble_eq_true rfl) ?_
  intro p e s m args below meth c hC hN hr hk hnme
  have iX6 : ∀ w ∈ wsX60, w ∈ wsX6_serverOf := by decide +kernel
  have h10 := hJ.1.2
  have h40 := hJ.2.1.2
  have h1000 := hJ.2.2.1.2
  refine fk_aload_n hC dX6_serverOf_0 rfl rfl ?_
  refine fk_aload_n hC dX6_serverOf_1 rfl rfl ?_
  refine fk_iload_n hC dX6_serverOf_2 rfl rfl ?_
  refine fk_callV hC hN (kX6_wasOpened l D K NL ad _ x hm _) hm.1 (f_E310 _ _ _ _ _) rfl (cwV 1 hC.1.2.2.2.2 gX6_serverOf_X6_wasOpened rfl rfl rfl (by decide +kernel) ⟨Nat.le_of_ble_eq_true rfl, Nat.le_of_ble_eq_true rfl⟩) rfl rfl (Nat.le_of_ble_eq_true rfl) dX6_serverOf_3 ⟨Nat.zero_le _, Nat.zero_le _⟩ ?_
  refine fk_topi (show _ = (1 : Int32) by rw [hJ.2.2.1.1]; exact inV_t (rng_i (by omega) hk9)) ?_
  refine fk_if_eq (tgt := 13) hC dX6_serverOf_6 (by decide) (fun c6 => ?_) (fun c6 => ?_)
  · exact absurd c6 (by decide)
  · refine fk_iconst (v := 0) hC dX6_serverOf_9 (by decide) ?_
    refine fk_goto (tgt := 14) hC dX6_serverOf_10 (by decide) ?_
    refine fk_putM_3 hC hm iX6 (by decide +kernel) dX6_serverOf_14 ?_
    refine fk_aload_n hC dX6_serverOf_17 rfl rfl ?_
    refine fk_getM_3 hC hm iX6 (by decide +kernel) dX6_serverOf_18 ?_
    refine fk_topi pk_us ?_
    refine fk_if_eq (tgt := 28) hC dX6_serverOf_21 (by decide) (fun c21 => ?_) (fun c21 => ?_)
    · refine fk_aload_n hC dX6_serverOf_28 rfl rfl ?_
      refine fk_getM_0 hC hm iX6 (by decide +kernel) dX6_serverOf_29 ?_
      refine fk_sipush (v := 263) hC dX6_serverOf_32 (by decide) ?_
      refine fk_iload_n hC dX6_serverOf_35 rfl rfl ?_
      refine fk_iadd hC dX6_serverOf_36 ?_
      refine fk_ld_at hC (j := 263 + k) hm (nI_add 263 k) (by omega) dX6_serverOf_37 ?_
      exact fk_iret hC hr hk dX6_serverOf_38 rfl rfl rfl
    · exact absurd c21 (by decide)

set_option maxHeartbeats 4000000 in
set_option maxRecDepth 100000 in
theorem eX6_serverOf (l : Launch) (D : va_G) (K : Nat → ClassId) (NL : List Nat) (ad : Nat → Nat) (G : fM) (x : fX) (hm : f_EM NL) (cn : Nat) (hJ : f_J cn G) (v : Int32) (h : v < 0 ∨ ¬ v < nI (mo G)) : Kd l yX6_serverOf wsX6_serverOf { frames := 2, cells := 0, slots := 0, locals := 43 } vwCl D K NL ad [.ref (ad 310), .int v] G x (some (.int 0)) (upd G (iT 0) 1) x := by
  refine Kd.of (cc := cX6_serverOf) (maxL := 2) (ret := (some .int)) (L := [some (.ref (ad 310)), some (.int v)]) (by decide +kernel) rfl rfl (Nat.le_of_ble_eq_true rfl) ?_
  intro p e s m args below meth c hC hN hr hk hnme
  have iX6 : ∀ w ∈ wsX60, w ∈ wsX6_serverOf := by decide +kernel
  have h10 := hJ.1.2
  have h40 := hJ.2.1.2
  have h1000 := hJ.2.2.1.2
  refine fk_aload_n hC dX6_serverOf_0 rfl rfl ?_
  refine fk_aload_n hC dX6_serverOf_1 rfl rfl ?_
  refine fk_iload_n hC dX6_serverOf_2 rfl rfl ?_
  refine fk_callV hC hN (kX6_wasOpened l D K NL ad _ x hm _) hm.1 (f_E310 _ _ _ _ _) rfl (cwV 1 hC.1.2.2.2.2 gX6_serverOf_X6_wasOpened rfl rfl rfl (by decide +kernel) ⟨Nat.le_of_ble_eq_true rfl, Nat.le_of_ble_eq_true rfl⟩) rfl rfl (Nat.le_of_ble_eq_true rfl) dX6_serverOf_3 ⟨Nat.zero_le _, Nat.zero_le _⟩ ?_
  refine fk_topi (show _ = (0 : Int32) by rw [hJ.2.2.1.1]; exact inV_f (rng_no (by omega) h)) ?_
  refine fk_if_eq (tgt := 13) hC dX6_serverOf_6 (by decide) (fun c6 => ?_) (fun c6 => ?_)
  · refine fk_iconst (v := 1) hC dX6_serverOf_13 (by decide) ?_
    refine fk_putM_3 hC hm iX6 (by decide +kernel) dX6_serverOf_14 ?_
    refine fk_aload_n hC dX6_serverOf_17 rfl rfl ?_
    refine fk_getM_3 hC hm iX6 (by decide +kernel) dX6_serverOf_18 ?_
    refine fk_topi pk_us ?_
    refine fk_if_eq (tgt := 28) hC dX6_serverOf_21 (by decide) (fun c21 => ?_) (fun c21 => ?_)
    · exact absurd c21 (by decide)
    · refine fk_iconst (v := 0) hC dX6_serverOf_24 (by decide) ?_
      refine fk_goto (tgt := 38) hC dX6_serverOf_25 (by decide) ?_
      exact fk_iret hC hr hk dX6_serverOf_38 rfl rfl rfl
  · exact absurd c6 (by decide)

set_option maxHeartbeats 4000000 in
set_option maxRecDepth 100000 in
theorem kX6_utilization (l : Launch) (D : va_G) (K : Nat → ClassId) (NL : List Nat) (ad : Nat → Nat) (G : fM) (x : fX) (hm : f_EM NL) (cn : Nat) (hc : G (iM 0) = nI cn) (hc10 : cn ≤ 10) (i : Nat) (hi : i < cn) (hnan : vf_n64 (FP.ddiv (FP.i2d ((upd G (iT 0) 0) (iM (33 + i)))) (FP.i2d ((upd G (iT 0) 0) (iM (23 + i)))))) : Kd l yX6_utilization wsX6_utilization { frames := 2, cells := 0, slots := 0, locals := 43 } vwCl D K NL ad [.ref (ad 310), .int (nI i)] G x (some (.double (FP.ddiv (FP.i2d ((upd G (iT 0) 0) (iM (33 + i)))) (FP.i2d ((upd G (iT 0) 0) (iM (23 + i))))))) (upd G (iT 0) 0) x := by
  refine Kd.of (cc := cX6_utilization) (maxL := 2) (ret := (some .double)) (L := [some (.ref (ad 310)), some (.int (nI i))]) (by decide +kernel) rfl rfl (Nat.le_of_ble_eq_true rfl) ?_
  intro p e s m args below meth c hC hN hr hk hnme
  have iX6 : ∀ w ∈ wsX60, w ∈ wsX6_utilization := by decide +kernel
  refine fk_aload_n hC dX6_utilization_0 rfl rfl ?_
  refine fk_aload_n hC dX6_utilization_1 rfl rfl ?_
  refine fk_iload_n hC dX6_utilization_2 rfl rfl ?_
  refine fk_callV hC hN (kX6_isServer l D K NL ad _ x hm _) hm.1 (f_E310 _ _ _ _ _) rfl (cwV 1 hC.1.2.2.2.2 gX6_utilization_X6_isServer rfl rfl rfl (by decide +kernel) ⟨Nat.le_of_ble_eq_true rfl, Nat.le_of_ble_eq_true rfl⟩) rfl rfl (Nat.le_of_ble_eq_true rfl) dX6_utilization_3 ⟨Nat.zero_le _, Nat.zero_le _⟩ ?_
  refine fk_topi (show _ = (1 : Int32) by rw [hc]; exact inV_t (rng_i (by omega) hi)) ?_
  refine fk_if_eq (tgt := 13) hC dX6_utilization_6 (by decide) (fun c6 => ?_) (fun c6 => ?_)
  · exact absurd c6 (by decide)
  · refine fk_iconst (v := 0) hC dX6_utilization_9 (by decide) ?_
    refine fk_goto (tgt := 14) hC dX6_utilization_10 (by decide) ?_
    refine fk_putM_3 hC hm iX6 (by decide +kernel) dX6_utilization_14 ?_
    refine fk_aload_n hC dX6_utilization_17 rfl rfl ?_
    refine fk_getM_3 hC hm iX6 (by decide +kernel) dX6_utilization_18 ?_
    refine fk_topi pk_us ?_
    refine fk_if_eq (tgt := 28) hC dX6_utilization_21 (by decide) (fun c21 => ?_) (fun c21 => ?_)
    · refine fk_aload_n hC dX6_utilization_28 rfl rfl ?_
      refine fk_getM_0 hC hm iX6 (by decide +kernel) dX6_utilization_29 ?_
      refine fk_bipush (v := 33) hC dX6_utilization_32 (by decide) ?_
      refine fk_iload_n hC dX6_utilization_34 rfl rfl ?_
      refine fk_iadd hC dX6_utilization_35 ?_
      refine fk_ld_at hC (j := 33 + i) hm (nI_add 33 i) (by omega) dX6_utilization_36 ?_
      refine fk_i2d hC dX6_utilization_37 ?_
      refine fk_aload_n hC dX6_utilization_38 rfl rfl ?_
      refine fk_getM_0 hC hm iX6 (by decide +kernel) dX6_utilization_39 ?_
      refine fk_bipush (v := 23) hC dX6_utilization_42 (by decide) ?_
      refine fk_iload_n hC dX6_utilization_44 rfl rfl ?_
      refine fk_iadd hC dX6_utilization_45 ?_
      refine fk_ld_at hC (j := 23 + i) hm (nI_add 23 i) (by omega) dX6_utilization_46 ?_
      refine fk_i2d hC dX6_utilization_47 ?_
      refine fk_ddiv hC dX6_utilization_48 hnan ?_
      exact fk_dret hC hr hk dX6_utilization_49 rfl rfl rfl
    · exact absurd c21 (by decide)

set_option maxHeartbeats 4000000 in
set_option maxRecDepth 100000 in
theorem eX6_utilization (l : Launch) (D : va_G) (K : Nat → ClassId) (NL : List Nat) (ad : Nat → Nat) (G : fM) (x : fX) (hm : f_EM NL) (cn : Nat) (hc : G (iM 0) = nI cn) (hc10 : cn ≤ 10) (v : Int32) (h : v < 0 ∨ ¬ v < nI cn) : Kd l yX6_utilization wsX6_utilization { frames := 2, cells := 0, slots := 0, locals := 43 } vwCl D K NL ad [.ref (ad 310), .int v] G x (some (.double FP.dconst0)) (upd G (iT 0) 1) x := by
  refine Kd.of (cc := cX6_utilization) (maxL := 2) (ret := (some .double)) (L := [some (.ref (ad 310)), some (.int v)]) (by decide +kernel) rfl rfl (Nat.le_of_ble_eq_true rfl) ?_
  intro p e s m args below meth c hC hN hr hk hnme
  have iX6 : ∀ w ∈ wsX60, w ∈ wsX6_utilization := by decide +kernel
  refine fk_aload_n hC dX6_utilization_0 rfl rfl ?_
  refine fk_aload_n hC dX6_utilization_1 rfl rfl ?_
  refine fk_iload_n hC dX6_utilization_2 rfl rfl ?_
  refine fk_callV hC hN (kX6_isServer l D K NL ad _ x hm _) hm.1 (f_E310 _ _ _ _ _) rfl (cwV 1 hC.1.2.2.2.2 gX6_utilization_X6_isServer rfl rfl rfl (by decide +kernel) ⟨Nat.le_of_ble_eq_true rfl, Nat.le_of_ble_eq_true rfl⟩) rfl rfl (Nat.le_of_ble_eq_true rfl) dX6_utilization_3 ⟨Nat.zero_le _, Nat.zero_le _⟩ ?_
  refine fk_topi (show _ = (0 : Int32) by rw [hc]; exact inV_f (rng_no (by omega) h)) ?_
  refine fk_if_eq (tgt := 13) hC dX6_utilization_6 (by decide) (fun c6 => ?_) (fun c6 => ?_)
  · refine fk_iconst (v := 1) hC dX6_utilization_13 (by decide) ?_
    refine fk_putM_3 hC hm iX6 (by decide +kernel) dX6_utilization_14 ?_
    refine fk_aload_n hC dX6_utilization_17 rfl rfl ?_
    refine fk_getM_3 hC hm iX6 (by decide +kernel) dX6_utilization_18 ?_
    refine fk_topi pk_us ?_
    refine fk_if_eq (tgt := 28) hC dX6_utilization_21 (by decide) (fun c21 => ?_) (fun c21 => ?_)
    · exact absurd c21 (by decide)
    · refine fk_dconst0 hC dX6_utilization_24 ?_
      refine fk_goto (tgt := 49) hC dX6_utilization_25 (by decide) ?_
      exact fk_dret hC hr hk dX6_utilization_49 rfl rfl rfl
  · exact absurd c6 (by decide)

set_option maxHeartbeats 4000000 in
set_option maxRecDepth 100000 in
theorem kX6_owner (l : Launch) (D : va_G) (K : Nat → ClassId) (NL : List Nat) (ad : Nat → Nat) (G : fM) (x : fX) (hm : f_EM NL) (cn : Nat) (hJ : f_J cn G) (cl : Int32) (h : ¬ G (iM 0) = 0) : Kd l yX6_owner wsX6_owner { frames := 3, cells := 0, slots := 0, locals := 72 } vwCl D K NL ad [.ref (ad 310), .int cl] G x (some (.int (rI (mM_bp cn cl 1 (upd G (iT 0) 0))))) (upd G (iT 0) 0) x := by
  refine Kd.of (cc := cX6_owner) (maxL := 2) (ret := (some .int)) (L := [some (.ref (ad 310)), some (.int cl)]) (by decide +kernel) rfl rfl (Nat.le_of_ble_eq_true rfl) ?_
  intro p e s m args below meth c hC hN hr hk hnme
  have iX6 : ∀ w ∈ wsX60, w ∈ wsX6_owner := by decide +kernel
  refine fk_aload_n hC dX6_owner_0 rfl rfl ?_
  refine fk_aload_n hC dX6_owner_1 rfl rfl ?_
  refine fk_getM_0 hC hm iX6 (by decide +kernel) dX6_owner_2 ?_
  refine fk_iconst (v := 0) hC dX6_owner_5 (by decide) ?_
  refine fk_ld_at hC (j := 0) hm rfl (by omega) dX6_owner_6 ?_
  refine fk_if_ne (tgt := 14) hC dX6_owner_7 (by decide) (fun c7 => ?_) (fun c7 => ?_)
  · refine fk_iconst (v := 0) hC dX6_owner_14 (by decide) ?_
    refine fk_putM_3 hC hm iX6 (by decide +kernel) dX6_owner_15 ?_
    refine fk_aload_n hC dX6_owner_18 rfl rfl ?_
    refine fk_getM_3 hC hm iX6 (by decide +kernel) dX6_owner_19 ?_
    refine fk_topi pk_us ?_
    refine fk_if_eq (tgt := 29) hC dX6_owner_22 (by decide) (fun c22 => ?_) (fun c22 => ?_)
    · refine fk_aload_n hC dX6_owner_29 rfl rfl ?_
      refine fk_iload_n hC dX6_owner_30 rfl rfl ?_
      refine fk_iconst (v := 1) hC dX6_owner_31 (by decide) ?_
      refine fk_callV hC hN (kX6_byPoints l D K NL ad _ x hm cn hJ.thr.1.1 hJ.1.2 hJ.thr.2.2.2.1 _ _) hm.1 (f_E310 _ _ _ _ _) rfl (cwV 2 hC.1.2.2.2.2 gX6_owner_X6_byPoints rfl rfl rfl (by decide +kernel) ⟨Nat.le_of_ble_eq_true rfl, Nat.le_of_ble_eq_true rfl⟩) rfl rfl (Nat.le_of_ble_eq_true rfl) dX6_owner_32 ⟨Nat.zero_le _, Nat.zero_le _⟩ ?_
      exact fk_iret hC hr hk dX6_owner_35 rfl rfl rfl
    · exact absurd c22 (by decide)
  · exact absurd c7 h

set_option maxHeartbeats 4000000 in
set_option maxRecDepth 100000 in
theorem eX6_owner (l : Launch) (D : va_G) (K : Nat → ClassId) (NL : List Nat) (ad : Nat → Nat) (G : fM) (x : fX) (hm : f_EM NL) (cl : Int32) (h : G (iM 0) = 0) : Kd l yX6_owner wsX6_owner { frames := 0, cells := 0, slots := 0, locals := 0 } vwCl D K NL ad [.ref (ad 310), .int cl] G x (some (.int 0)) (upd G (iT 0) 1) x := by
  refine Kd.of (cc := cX6_owner) (maxL := 2) (ret := (some .int)) (L := [some (.ref (ad 310)), some (.int cl)]) (by decide +kernel) rfl rfl (Nat.le_of_ble_eq_true rfl) ?_
  intro p e s m args below meth c hC hN hr hk hnme
  have iX6 : ∀ w ∈ wsX60, w ∈ wsX6_owner := by decide +kernel
  refine fk_aload_n hC dX6_owner_0 rfl rfl ?_
  refine fk_aload_n hC dX6_owner_1 rfl rfl ?_
  refine fk_getM_0 hC hm iX6 (by decide +kernel) dX6_owner_2 ?_
  refine fk_iconst (v := 0) hC dX6_owner_5 (by decide) ?_
  refine fk_ld_at hC (j := 0) hm rfl (by omega) dX6_owner_6 ?_
  refine fk_if_ne (tgt := 14) hC dX6_owner_7 (by decide) (fun c7 => ?_) (fun c7 => ?_)
  · exact absurd h c7
  · refine fk_iconst (v := 1) hC dX6_owner_10 (by decide) ?_
    refine fk_goto (tgt := 15) hC dX6_owner_11 (by decide) ?_
    refine fk_putM_3 hC hm iX6 (by decide +kernel) dX6_owner_15 ?_
    refine fk_aload_n hC dX6_owner_18 rfl rfl ?_
    refine fk_getM_3 hC hm iX6 (by decide +kernel) dX6_owner_19 ?_
    refine fk_topi pk_us ?_
    refine fk_if_eq (tgt := 29) hC dX6_owner_22 (by decide) (fun c22 => ?_) (fun c22 => ?_)
    · exact absurd c22 (by decide)
    · refine fk_iconst (v := 0) hC dX6_owner_25 (by decide) ?_
      refine fk_goto (tgt := 35) hC dX6_owner_26 (by decide) ?_
      exact fk_iret hC hr hk dX6_owner_35 rfl rfl rfl

def mM_load (cn : Nat) (G : fM) : Int32 := fold9 (fun i a => a + G (iM (33 + i))) cn 0 (0 : Int32)
def mM_cnt (cn : Nat) (a : Int32) (G : fM) : Int32 := if a = 0 then G (iM 1) else if a = 1 then mM_load cn G else if a = 2 then G (iM 10) else if a = 3 then G (iM 11) else G (iM 12)
set_option maxHeartbeats 4000000 in
set_option maxRecDepth 100000 in
theorem kX6_count (l : Launch) (D : va_G) (K : Nat → ClassId) (NL : List Nat) (ad : Nat → Nat) (G : fM) (x : fX) (hm : f_EM NL) (cn : Nat) (hJ : f_J cn G) (a : Int32) (h : rng a 0 4) : Kd l yX6_count wsX6_count { frames := 1, cells := 0, slots := 0, locals := 22 } vwCl D K NL ad [.ref (ad 310), .int a] G x (some (.int (mM_cnt cn a (upd G (iT 0) 0)))) (upd G (iT 0) 0) x := by
  refine Kd.of (cc := cX6_count) (maxL := 4) (ret := (some .int)) (L := [some (.ref (ad 310)), some (.int a), none, none]) (by decide +kernel) rfl rfl (Nat.le_of_ble_eq_true rfl) ?_
  intro p e s m args below meth c hC hN hr hk hnme
  have iX6 : ∀ w ∈ wsX60, w ∈ wsX6_count := by decide +kernel
  have h10 := hJ.1.2
  have h40 := hJ.2.1.2
  have h1000 := hJ.2.2.1.2
  have lp : ∀ (d : Nat) (k : Nat) (b : Int32), cn - k = d → k ≤ cn → mM_load cn (upd G (iT 0) 0) = fold9 (fun i a => a + upd G (iT 0) 0 (iM (33 + i))) (cn - k) k b → Wk p l e { frames := 1, cells := 0, slots := 0, locals := 22 } s m args below meth c vwCl D K NL ad (f_A NL ad s.heap.size) s.heap 4 0 0 (MQ below (f_Post vwCl D K NL ad (upd G (iT 0) 0) x (some (.int (mM_cnt cn a (upd G (iT 0) 0)))) s.heap.size) args s 0 0 (f_A NL ad s.heap.size)) (upd G (iT 0) 0) x 31 [some (.ref (ad 310)), some (.int a), some (.int b), some (.int (nI k))] [] := by
    intro d
    induction d using Nat.strongRecOn with
    | _ d ih =>
      intro k b hd hkn hs
      refine fk_iload_n hC dX6_count_31 rfl rfl ?_
      refine fk_aload_n hC dX6_count_32 rfl rfl ?_
      refine fk_getM_0 hC hm iX6 (by decide +kernel) dX6_count_33 ?_
      refine fk_iconst (v := 0) hC dX6_count_36 (by decide) ?_
      refine fk_ld_at hC (j := 0) hm rfl (by omega) dX6_count_37 ?_
      refine fk_icmp_ge (tgt := 59) hC dX6_count_38 (by decide) (fun c38 => ?_) (fun c38 => ?_)
      · rw [(show upd G (iT 0) 0 (iM 0) = nI cn by rw [pk_un (by unfold iM iT; omega)]; exact hJ.1.1)] at c38
        have q38 := f_le (by omega) (by omega) c38
        rw [fold9_end q38] at hs
        refine fk_iload_n hC dX6_count_59 rfl rfl ?_
        refine fk_if_ne (tgt := 72) hC dX6_count_60 (by decide) (fun c60 => ?_) (fun c60 => ?_)
        · refine fk_iload_n hC dX6_count_72 rfl rfl ?_
          refine fk_iconst (v := 1) hC dX6_count_73 (by decide) ?_
          refine fk_icmp_ne (tgt := 81) hC dX6_count_74 (by decide) (fun c74 => ?_) (fun c74 => ?_)
          · refine fk_iload_n hC dX6_count_81 rfl rfl ?_
            refine fk_iconst (v := 2) hC dX6_count_82 (by decide) ?_
            refine fk_icmp_ne (tgt := 96) hC dX6_count_83 (by decide) (fun c83 => ?_) (fun c83 => ?_)
            · refine fk_iload_n hC dX6_count_96 rfl rfl ?_
              refine fk_iconst (v := 3) hC dX6_count_97 (by decide) ?_
              refine fk_icmp_ne (tgt := 111) hC dX6_count_98 (by decide) (fun c98 => ?_) (fun c98 => ?_)
              · refine fk_aload_n hC dX6_count_111 rfl rfl ?_
                refine fk_getM_0 hC hm iX6 (by decide +kernel) dX6_count_112 ?_
                refine fk_bipush (v := 12) hC dX6_count_115 (by decide) ?_
                refine fk_ld_at hC (j := 12) hm rfl (by omega) dX6_count_117 ?_
                exact fk_iret hC hr hk dX6_count_118 (by unfold mM_cnt; rw [if_neg c60, if_neg c74, if_neg c83, if_neg c98]) rfl rfl
              · refine fk_aload_n hC dX6_count_101 rfl rfl ?_
                refine fk_getM_0 hC hm iX6 (by decide +kernel) dX6_count_102 ?_
                refine fk_bipush (v := 11) hC dX6_count_105 (by decide) ?_
                refine fk_ld_at hC (j := 11) hm rfl (by omega) dX6_count_107 ?_
                refine fk_goto (tgt := 118) hC dX6_count_108 (by decide) ?_
                exact fk_iret hC hr hk dX6_count_118 (by unfold mM_cnt; rw [if_neg c60, if_neg c74, if_neg c83, if_pos c98]) rfl rfl
            · refine fk_aload_n hC dX6_count_86 rfl rfl ?_
              refine fk_getM_0 hC hm iX6 (by decide +kernel) dX6_count_87 ?_
              refine fk_bipush (v := 10) hC dX6_count_90 (by decide) ?_
              refine fk_ld_at hC (j := 10) hm rfl (by omega) dX6_count_92 ?_
              refine fk_goto (tgt := 118) hC dX6_count_93 (by decide) ?_
              exact fk_iret hC hr hk dX6_count_118 (by unfold mM_cnt; rw [if_neg c60, if_neg c74, if_pos c83]) rfl rfl
          · refine fk_iload_n hC dX6_count_77 rfl rfl ?_
            refine fk_goto (tgt := 118) hC dX6_count_78 (by decide) ?_
            exact fk_iret hC hr hk dX6_count_118 (by unfold mM_cnt; rw [if_neg c60, if_pos c74]; rw [hs]) rfl rfl
        · refine fk_aload_n hC dX6_count_63 rfl rfl ?_
          refine fk_getM_0 hC hm iX6 (by decide +kernel) dX6_count_64 ?_
          refine fk_iconst (v := 1) hC dX6_count_67 (by decide) ?_
          refine fk_ld_at hC (j := 1) hm rfl (by omega) dX6_count_68 ?_
          refine fk_goto (tgt := 118) hC dX6_count_69 (by decide) ?_
          exact fk_iret hC hr hk dX6_count_118 (by unfold mM_cnt; rw [if_pos c60]) rfl rfl
      · rw [(show upd G (iT 0) 0 (iM 0) = nI cn by rw [pk_un (by unfold iM iT; omega)]; exact hJ.1.1)] at c38
        have q38 := f_nle (by omega) (by omega) c38
        refine fk_iload_n hC dX6_count_41 rfl rfl ?_
        refine fk_aload_n hC dX6_count_42 rfl rfl ?_
        refine fk_getM_0 hC hm iX6 (by decide +kernel) dX6_count_43 ?_
        refine fk_bipush (v := 33) hC dX6_count_46 (by decide) ?_
        refine fk_iload_n hC dX6_count_48 rfl rfl ?_
        refine fk_iadd hC dX6_count_49 ?_
        refine fk_ld_at hC (j := 33 + k) hm (nI_add 33 k) (by omega) dX6_count_50 ?_
        refine fk_iadd hC dX6_count_51 ?_
        refine fk_istore_n hC dX6_count_52 rfl (by decide) rfl ?_
        refine fk_iinc hC dX6_count_53 rfl (f_inc k) (by decide) rfl ?_
        refine fk_goto (tgt := 31) hC dX6_count_56 (by decide) ?_
        exact ih (cn - (k + 1)) (by omega) (k + 1) _ rfl (by omega) (hs.trans (fold9_step q38))
  refine fk_aload_n hC dX6_count_0 rfl rfl ?_
  refine fk_iload_n hC dX6_count_1 rfl rfl ?_
  refine fk_iconst (v := 0) hC dX6_count_2 (by decide) ?_
  refine fk_iconst (v := 4) hC dX6_count_3 (by decide) ?_
  refine fk_callS hC hN (kX6_in l D K NL ad _ x _ _ _) (va_cwS 3 hC.1.2.2.2.2 gX6_count_X6_in rfl rfl rfl (by decide +kernel) ⟨Nat.le_of_ble_eq_true rfl, Nat.le_of_ble_eq_true rfl⟩) rfl rfl (Nat.le_of_ble_eq_true rfl) dX6_count_4 ⟨Nat.zero_le _, Nat.zero_le _⟩ ?_
  refine fk_topi (inV_t h) ?_
  refine fk_if_eq (tgt := 14) hC dX6_count_7 (by decide) (fun c7 => ?_) (fun c7 => ?_)
  · exact absurd c7 (by decide)
  · refine fk_iconst (v := 0) hC dX6_count_10 (by decide) ?_
    refine fk_goto (tgt := 15) hC dX6_count_11 (by decide) ?_
    refine fk_putM_3 hC hm iX6 (by decide +kernel) dX6_count_15 ?_
    refine fk_aload_n hC dX6_count_18 rfl rfl ?_
    refine fk_getM_3 hC hm iX6 (by decide +kernel) dX6_count_19 ?_
    refine fk_topi pk_us ?_
    refine fk_if_eq (tgt := 27) hC dX6_count_22 (by decide) (fun c22 => ?_) (fun c22 => ?_)
    · refine fk_iconst (v := 0) hC dX6_count_27 (by decide) ?_
      refine fk_istore_n hC dX6_count_28 rfl (by decide) rfl ?_
      refine fk_iconst (v := 0) hC dX6_count_29 (by decide) ?_
      refine fk_istore_n hC dX6_count_30 rfl (by decide) rfl ?_
      exact lp cn 0 0 rfl (Nat.zero_le _) rfl
    · exact absurd c22 (by decide)

set_option maxHeartbeats 4000000 in
set_option maxRecDepth 100000 in
theorem eX6_count (l : Launch) (D : va_G) (K : Nat → ClassId) (NL : List Nat) (ad : Nat → Nat) (G : fM) (x : fX) (hm : f_EM NL) (a : Int32) (h : ¬ rng a 0 4) : Kd l yX6_count wsX6_count { frames := 1, cells := 0, slots := 0, locals := 22 } vwCl D K NL ad [.ref (ad 310), .int a] G x (some (.int 0)) (upd G (iT 0) 1) x := by
  refine Kd.of (cc := cX6_count) (maxL := 4) (ret := (some .int)) (L := [some (.ref (ad 310)), some (.int a), none, none]) (by decide +kernel) rfl rfl (Nat.le_of_ble_eq_true rfl) ?_
  intro p e s m args below meth c hC hN hr hk hnme
  have iX6 : ∀ w ∈ wsX60, w ∈ wsX6_count := by decide +kernel
  refine fk_aload_n hC dX6_count_0 rfl rfl ?_
  refine fk_iload_n hC dX6_count_1 rfl rfl ?_
  refine fk_iconst (v := 0) hC dX6_count_2 (by decide) ?_
  refine fk_iconst (v := 4) hC dX6_count_3 (by decide) ?_
  refine fk_callS hC hN (kX6_in l D K NL ad _ x _ _ _) (va_cwS 3 hC.1.2.2.2.2 gX6_count_X6_in rfl rfl rfl (by decide +kernel) ⟨Nat.le_of_ble_eq_true rfl, Nat.le_of_ble_eq_true rfl⟩) rfl rfl (Nat.le_of_ble_eq_true rfl) dX6_count_4 ⟨Nat.zero_le _, Nat.zero_le _⟩ ?_
  refine fk_topi (inV_f h) ?_
  refine fk_if_eq (tgt := 14) hC dX6_count_7 (by decide) (fun c7 => ?_) (fun c7 => ?_)
  · refine fk_iconst (v := 1) hC dX6_count_14 (by decide) ?_
    refine fk_putM_3 hC hm iX6 (by decide +kernel) dX6_count_15 ?_
    refine fk_aload_n hC dX6_count_18 rfl rfl ?_
    refine fk_getM_3 hC hm iX6 (by decide +kernel) dX6_count_19 ?_
    refine fk_topi pk_us ?_
    refine fk_if_eq (tgt := 27) hC dX6_count_22 (by decide) (fun c22 => ?_) (fun c22 => ?_)
    · exact absurd c22 (by decide)
    · refine fk_iconst (v := 0) hC dX6_count_25 (by decide) ?_
      exact fk_iret hC hr hk dX6_count_26 rfl rfl rfl
  · exact absurd c7 (by decide)

theorem cpyM_s {G : fM} {a b k n : Nat} (h : k < n) (hd : a + n ≤ b ∨ b + n ≤ a) : upd (cpyM G a b k) (b + k) (cpyM G a b k (a + k)) = cpyM G a b (k + 1) := by
  funext g
  have e : cpyM G a b k (a + k) = G (a + k) := cpyM_out (by omega)
  by_cases hg : g = b + k
  · subst hg
    rw [pk_us, e]
    unfold cpyM
    rw [if_pos (by omega), show a + (b + k - b) = a + k by omega]
  · rw [pk_un hg]
    unfold cpyM
    by_cases h1 : b ≤ g ∧ g < b + k
    · rw [if_pos h1, if_pos (by omega)]
    · rw [if_neg h1, if_neg (by omega)]
theorem cpyM_0 {G : fM} {a b : Nat} : cpyM G a b 0 = G := by
  funext g
  exact cpyM_out (by omega)
def mM_save (t : Nat) (G : fM) : fM := upd (cpyM (upd G (iT 0) 0) 41000 (50000 + 3263 * t) 3263) (iZ t) 1
def mM_rest (t : Nat) (G : fM) : fM := cpyM (upd G (iT 0) 0) (50000 + 3263 * t) 41000 3263
theorem f_sl (t k : Nat) : (3263 : Int32) * nI t + nI k = nI (3263 * t + k) := by
  rw [show (3263 : Int32) * nI t = nI (3263 * t) from pk_mul 3263 t, nI_add]
section FW10
variable {p : Program} {l : Launch} {e : Env} {R : Room} {s : State} {m : MethodId} {args : Array Value} {below : List Frame} {meth : Method} {c : Code} {cl : List vw_C} {D : va_G} {K : Nat → ClassId} {NL : List Nat} {ad : Nat → Nat} {A : Nat → Prop} {H0 : Heap} {nL cells slots : Nat} {Q : State → Prop}
variable {G G1 : fM} {x : fX} {pc : Nat} {L : List (Option Value)} {st0 : List Value}
theorem f_memEq (h : G = G1) (kk : Wk p l e R s m args below meth c cl D K NL ad A H0 nL cells slots Q G1 x pc L st0) : Wk p l e R s m args below meth c cl D K NL ad A H0 nL cells slots Q G x pc L st0 := h ▸ kk
end FW10
set_option maxHeartbeats 4000000 in
set_option maxRecDepth 100000 in
theorem kX6_save (l : Launch) (D : va_G) (K : Nat → ClassId) (NL : List Nat) (ad : Nat → Nat) (G : fM) (x : fX) (hm : f_EM NL) (t : Nat) (ht : t < 2) : Kd l yX6_save wsX6_save { frames := 1, cells := 0, slots := 0, locals := 22 } vwCl D K NL ad [.ref (ad 310), .int (nI t)] G x none (mM_save t G) x := by
  refine Kd.of (cc := cX6_save) (maxL := 3) (ret := none) (L := [some (.ref (ad 310)), some (.int (nI t)), none]) (by decide +kernel) rfl rfl (Nat.le_of_ble_eq_true rfl) ?_
  intro p e s m args below meth c hC hN hr hk hnme
  have iX6 : ∀ w ∈ wsX60, w ∈ wsX6_save := by decide +kernel
  have h : rng (nI t) 0 1 := ⟨nI_pos (by omega), nI_le (b := 1) (by omega) (by decide)⟩
  have lp : ∀ (d : Nat) (k : Nat), 3263 - k = d → k ≤ 3263 → Wk p l e { frames := 1, cells := 0, slots := 0, locals := 22 } s m args below meth c vwCl D K NL ad (f_A NL ad s.heap.size) s.heap 3 0 0 (MQ below (f_Post vwCl D K NL ad (mM_save t G) x none s.heap.size) args s 0 0 (f_A NL ad s.heap.size)) (cpyM (upd G (iT 0) 0) 41000 (50000 + 3263 * t) k) x 27 [some (.ref (ad 310)), some (.int (nI t)), some (.int (nI k))] [] := by
    intro d
    induction d using Nat.strongRecOn with
    | _ d ih =>
      intro k hd hkn
      refine fk_iload_n hC dX6_save_27 rfl rfl ?_
      refine fk_sipush (v := 3263) hC dX6_save_28 (by decide) ?_
      refine fk_icmp_ge (tgt := 58) hC dX6_save_31 (by decide) (fun c31 => ?_) (fun c31 => ?_)
      · have q31 := f_le (a := 3263) (by decide) (by omega) c31
        have q32 : k = 3263 := by omega
        subst q32
        refine fk_aload_n hC dX6_save_58 rfl rfl ?_
        refine fk_getM_2 hC hm iX6 (by decide +kernel) dX6_save_59 ?_
        refine fk_iload_n hC dX6_save_62 rfl rfl ?_
        refine fk_iconst (v := 1) hC dX6_save_63 (by decide) ?_
        refine fk_st_sv hC (j := t) hm rfl (by omega) rfl dX6_save_64 ?_
        exact fk_vret hC hr hk dX6_save_65 rfl rfl rfl
      · have q31 := f_nle (a := 3263) (by decide) (by omega) c31
        refine fk_aload_n hC dX6_save_34 rfl rfl ?_
        refine fk_getM_1 hC hm iX6 (by decide +kernel) dX6_save_35 ?_
        refine fk_sipush (v := 3263) hC dX6_save_38 (by decide) ?_
        refine fk_iload_n hC dX6_save_41 rfl rfl ?_
        refine fk_imul hC dX6_save_42 ?_
        refine fk_iload_n hC dX6_save_43 rfl rfl ?_
        refine fk_iadd hC dX6_save_44 ?_
        refine fk_aload_n hC dX6_save_45 rfl rfl ?_
        refine fk_getM_0 hC hm iX6 (by decide +kernel) dX6_save_46 ?_
        refine fk_iload_n hC dX6_save_49 rfl rfl ?_
        refine fk_ld_at hC (j := k) hm rfl (by omega) dX6_save_50 ?_
        refine fk_st_sl (j := 3263 * t + k) hC hm (f_sl t k) (by omega) dX6_save_51 ?_
        refine fk_iinc hC dX6_save_52 rfl (f_inc k) (by decide) rfl ?_
        refine fk_goto (tgt := 27) hC dX6_save_55 (by decide) ?_
        refine f_memEq (show _ = cpyM (upd G (iT 0) 0) 41000 (50000 + 3263 * t) (k + 1) from by have := cpyM_s (G := upd G (iT 0) 0) (a := 41000) (b := 50000 + 3263 * t) (k := k) (n := 3263) (by omega) (by omega); rw [← this]; unfold iL iM; rw [Nat.add_assoc]) ?_
        exact ih (3263 - (k + 1)) (by omega) (k + 1) rfl (by omega)
  refine fk_aload_n hC dX6_save_0 rfl rfl ?_
  refine fk_iload_n hC dX6_save_1 rfl rfl ?_
  refine fk_iconst (v := 0) hC dX6_save_2 (by decide) ?_
  refine fk_iconst (v := 1) hC dX6_save_3 (by decide) ?_
  refine fk_callS hC hN (kX6_in l D K NL ad _ x _ _ _) (va_cwS 3 hC.1.2.2.2.2 gX6_save_X6_in rfl rfl rfl (by decide +kernel) ⟨Nat.le_of_ble_eq_true rfl, Nat.le_of_ble_eq_true rfl⟩) rfl rfl (Nat.le_of_ble_eq_true rfl) dX6_save_4 ⟨Nat.zero_le _, Nat.zero_le _⟩ ?_
  refine fk_topi (inV_t h) ?_
  refine fk_if_eq (tgt := 14) hC dX6_save_7 (by decide) (fun c7 => ?_) (fun c7 => ?_)
  · exact absurd c7 (by decide)
  · refine fk_iconst (v := 0) hC dX6_save_10 (by decide) ?_
    refine fk_goto (tgt := 15) hC dX6_save_11 (by decide) ?_
    refine fk_putM_3 hC hm iX6 (by decide +kernel) dX6_save_15 ?_
    refine fk_aload_n hC dX6_save_18 rfl rfl ?_
    refine fk_getM_3 hC hm iX6 (by decide +kernel) dX6_save_19 ?_
    refine fk_topi pk_us ?_
    refine fk_if_ne (tgt := 65) hC dX6_save_22 (by decide) (fun c22 => ?_) (fun c22 => ?_)
    · exact absurd c22 (by decide)
    · refine fk_iconst (v := 0) hC dX6_save_25 (by decide) ?_
      refine fk_istore_n hC dX6_save_26 rfl (by decide) rfl ?_
      refine f_memEq (cpyM_0 (a := 41000) (b := 50000 + 3263 * t)).symm ?_
      exact lp 3263 0 rfl (Nat.zero_le _)

set_option maxHeartbeats 4000000 in
set_option maxRecDepth 100000 in
theorem eX6_save (l : Launch) (D : va_G) (K : Nat → ClassId) (NL : List Nat) (ad : Nat → Nat) (G : fM) (x : fX) (hm : f_EM NL) (a : Int32) (h : ¬ rng a 0 1) : Kd l yX6_save wsX6_save { frames := 1, cells := 0, slots := 0, locals := 22 } vwCl D K NL ad [.ref (ad 310), .int a] G x none (upd G (iT 0) 1) x := by
  refine Kd.of (cc := cX6_save) (maxL := 3) (ret := none) (L := [some (.ref (ad 310)), some (.int a), none]) (by decide +kernel) rfl rfl (Nat.le_of_ble_eq_true rfl) ?_
  intro p e s m args below meth c hC hN hr hk hnme
  have iX6 : ∀ w ∈ wsX60, w ∈ wsX6_save := by decide +kernel
  refine fk_aload_n hC dX6_save_0 rfl rfl ?_
  refine fk_iload_n hC dX6_save_1 rfl rfl ?_
  refine fk_iconst (v := 0) hC dX6_save_2 (by decide) ?_
  refine fk_iconst (v := 1) hC dX6_save_3 (by decide) ?_
  refine fk_callS hC hN (kX6_in l D K NL ad _ x _ _ _) (va_cwS 3 hC.1.2.2.2.2 gX6_save_X6_in rfl rfl rfl (by decide +kernel) ⟨Nat.le_of_ble_eq_true rfl, Nat.le_of_ble_eq_true rfl⟩) rfl rfl (Nat.le_of_ble_eq_true rfl) dX6_save_4 ⟨Nat.zero_le _, Nat.zero_le _⟩ ?_
  refine fk_topi (inV_f h) ?_
  refine fk_if_eq (tgt := 14) hC dX6_save_7 (by decide) (fun c7 => ?_) (fun c7 => ?_)
  · refine fk_iconst (v := 1) hC dX6_save_14 (by decide) ?_
    refine fk_putM_3 hC hm iX6 (by decide +kernel) dX6_save_15 ?_
    refine fk_aload_n hC dX6_save_18 rfl rfl ?_
    refine fk_getM_3 hC hm iX6 (by decide +kernel) dX6_save_19 ?_
    refine fk_topi pk_us ?_
    refine fk_if_ne (tgt := 65) hC dX6_save_22 (by decide) (fun c22 => ?_) (fun c22 => ?_)
    · exact fk_vret hC hr hk dX6_save_65 rfl rfl rfl
    · exact absurd c22 (by decide)
  · exact absurd c7 (by decide)

set_option maxHeartbeats 4000000 in
set_option maxRecDepth 100000 in
theorem kX6_restore (l : Launch) (D : va_G) (K : Nat → ClassId) (NL : List Nat) (ad : Nat → Nat) (G : fM) (x : fX) (hm : f_EM NL) (t : Nat) (ht : t < 2) (hsv : ¬ G (iZ t) = 0) : Kd l yX6_restore wsX6_restore { frames := 1, cells := 0, slots := 0, locals := 22 } vwCl D K NL ad [.ref (ad 310), .int (nI t)] G x none (mM_rest t G) x := by
  refine Kd.of (cc := cX6_restore) (maxL := 3) (ret := none) (L := [some (.ref (ad 310)), some (.int (nI t)), none]) (by decide +kernel) rfl rfl (Nat.le_of_ble_eq_true rfl) ?_
  intro p e s m args below meth c hC hN hr hk hnme
  have iX6 : ∀ w ∈ wsX60, w ∈ wsX6_restore := by decide +kernel
  have h : rng (nI t) 0 1 := ⟨nI_pos (by omega), nI_le (b := 1) (by omega) (by decide)⟩
  have lp : ∀ (d : Nat) (k : Nat), 3263 - k = d → k ≤ 3263 → Wk p l e { frames := 1, cells := 0, slots := 0, locals := 22 } s m args below meth c vwCl D K NL ad (f_A NL ad s.heap.size) s.heap 3 0 0 (MQ below (f_Post vwCl D K NL ad (mM_rest t G) x none s.heap.size) args s 0 0 (f_A NL ad s.heap.size)) (cpyM (upd G (iT 0) 0) (50000 + 3263 * t) 41000 k) x 40 [some (.ref (ad 310)), some (.int (nI t)), some (.int (nI k))] [] := by
    intro d
    induction d using Nat.strongRecOn with
    | _ d ih =>
      intro k hd hkn
      refine fk_iload_n hC dX6_restore_40 rfl rfl ?_
      refine fk_sipush (v := 3263) hC dX6_restore_41 (by decide) ?_
      refine fk_icmp_ge (tgt := 71) hC dX6_restore_44 (by decide) (fun c44 => ?_) (fun c44 => ?_)
      · have q44 := f_le (a := 3263) (by decide) (by omega) c44
        have q45 : k = 3263 := by omega
        subst q45
        exact fk_vret hC hr hk dX6_restore_71 rfl rfl rfl
      · have q44 := f_nle (a := 3263) (by decide) (by omega) c44
        refine fk_aload_n hC dX6_restore_47 rfl rfl ?_
        refine fk_getM_0 hC hm iX6 (by decide +kernel) dX6_restore_48 ?_
        refine fk_iload_n hC dX6_restore_51 rfl rfl ?_
        refine fk_aload_n hC dX6_restore_52 rfl rfl ?_
        refine fk_getM_1 hC hm iX6 (by decide +kernel) dX6_restore_53 ?_
        refine fk_sipush (v := 3263) hC dX6_restore_56 (by decide) ?_
        refine fk_iload_n hC dX6_restore_59 rfl rfl ?_
        refine fk_imul hC dX6_restore_60 ?_
        refine fk_iload_n hC dX6_restore_61 rfl rfl ?_
        refine fk_iadd hC dX6_restore_62 ?_
        refine fk_ld_sl (j := 3263 * t + k) hC hm (f_sl t k) (by omega) dX6_restore_63 ?_
        refine fk_st_at hC (j := k) hm rfl (by omega) dX6_restore_64 ?_
        refine fk_iinc hC dX6_restore_65 rfl (f_inc k) (by decide) rfl ?_
        refine fk_goto (tgt := 40) hC dX6_restore_68 (by decide) ?_
        refine f_memEq (show _ = cpyM (upd G (iT 0) 0) (50000 + 3263 * t) 41000 (k + 1) from by have := cpyM_s (G := upd G (iT 0) 0) (a := 50000 + 3263 * t) (b := 41000) (k := k) (n := 3263) (by omega) (by omega); rw [← this]; unfold iL iM; rw [Nat.add_assoc]) ?_
        exact ih (3263 - (k + 1)) (by omega) (k + 1) rfl (by omega)
  refine fk_aload_n hC dX6_restore_0 rfl rfl ?_
  refine fk_iload_n hC dX6_restore_1 rfl rfl ?_
  refine fk_iconst (v := 0) hC dX6_restore_2 (by decide) ?_
  refine fk_iconst (v := 1) hC dX6_restore_3 (by decide) ?_
  refine fk_callS hC hN (kX6_in l D K NL ad _ x _ _ _) (va_cwS 3 hC.1.2.2.2.2 gX6_restore_X6_in rfl rfl rfl (by decide +kernel) ⟨Nat.le_of_ble_eq_true rfl, Nat.le_of_ble_eq_true rfl⟩) rfl rfl (Nat.le_of_ble_eq_true rfl) dX6_restore_4 ⟨Nat.zero_le _, Nat.zero_le _⟩ ?_
  refine fk_topi (inV_t h) ?_
  refine fk_if_ne (tgt := 14) hC dX6_restore_7 (by decide) (fun c7 => ?_) (fun c7 => ?_)
  · refine fk_aload_n hC dX6_restore_14 rfl rfl ?_
    refine fk_getM_2 hC hm iX6 (by decide +kernel) dX6_restore_15 ?_
    refine fk_iload_n hC dX6_restore_18 rfl rfl ?_
    refine fk_ld_sv hC (j := t) hm rfl (by omega) dX6_restore_19 ?_
    refine fk_if_ne (tgt := 27) hC dX6_restore_20 (by decide) (fun c20 => ?_) (fun c20 => ?_)
    · refine fk_iconst (v := 0) hC dX6_restore_27 (by decide) ?_
      refine fk_putM_3 hC hm iX6 (by decide +kernel) dX6_restore_28 ?_
      refine fk_aload_n hC dX6_restore_31 rfl rfl ?_
      refine fk_getM_3 hC hm iX6 (by decide +kernel) dX6_restore_32 ?_
      refine fk_topi pk_us ?_
      refine fk_if_ne (tgt := 71) hC dX6_restore_35 (by decide) (fun c35 => ?_) (fun c35 => ?_)
      · exact absurd c35 (by decide)
      · refine fk_iconst (v := 0) hC dX6_restore_38 (by decide) ?_
        refine fk_istore_n hC dX6_restore_39 rfl (by decide) rfl ?_
        refine f_memEq (cpyM_0 (a := 50000 + 3263 * t) (b := 41000)).symm ?_
        exact lp 3263 0 rfl (Nat.zero_le _)
    · exact absurd c20 hsv
  · exact absurd c7 (by decide)

set_option maxHeartbeats 4000000 in
set_option maxRecDepth 100000 in
theorem eX6_restore_1 (l : Launch) (D : va_G) (K : Nat → ClassId) (NL : List Nat) (ad : Nat → Nat) (G : fM) (x : fX) (hm : f_EM NL) (a : Int32) (h : ¬ rng a 0 1) : Kd l yX6_restore wsX6_restore { frames := 1, cells := 0, slots := 0, locals := 22 } vwCl D K NL ad [.ref (ad 310), .int a] G x none (upd G (iT 0) 1) x := by
  refine Kd.of (cc := cX6_restore) (maxL := 3) (ret := none) (L := [some (.ref (ad 310)), some (.int a), none]) (by decide +kernel) rfl rfl (Nat.le_of_ble_eq_true rfl) ?_
  intro p e s m args below meth c hC hN hr hk hnme
  have iX6 : ∀ w ∈ wsX60, w ∈ wsX6_restore := by decide +kernel
  refine fk_aload_n hC dX6_restore_0 rfl rfl ?_
  refine fk_iload_n hC dX6_restore_1 rfl rfl ?_
  refine fk_iconst (v := 0) hC dX6_restore_2 (by decide) ?_
  refine fk_iconst (v := 1) hC dX6_restore_3 (by decide) ?_
  refine fk_callS hC hN (kX6_in l D K NL ad _ x _ _ _) (va_cwS 3 hC.1.2.2.2.2 gX6_restore_X6_in rfl rfl rfl (by decide +kernel) ⟨Nat.le_of_ble_eq_true rfl, Nat.le_of_ble_eq_true rfl⟩) rfl rfl (Nat.le_of_ble_eq_true rfl) dX6_restore_4 ⟨Nat.zero_le _, Nat.zero_le _⟩ ?_
  refine fk_topi (inV_f h) ?_
  refine fk_if_ne (tgt := 14) hC dX6_restore_7 (by decide) (fun c7 => ?_) (fun c7 => ?_)
  · exact absurd c7 (by decide)
  · refine fk_iconst (v := 1) hC dX6_restore_10 (by decide) ?_
    refine fk_goto (tgt := 28) hC dX6_restore_11 (by decide) ?_
    refine fk_putM_3 hC hm iX6 (by decide +kernel) dX6_restore_28 ?_
    refine fk_aload_n hC dX6_restore_31 rfl rfl ?_
    refine fk_getM_3 hC hm iX6 (by decide +kernel) dX6_restore_32 ?_
    refine fk_topi pk_us ?_
    refine fk_if_ne (tgt := 71) hC dX6_restore_35 (by decide) (fun c35 => ?_) (fun c35 => ?_)
    · exact fk_vret hC hr hk dX6_restore_71 rfl rfl rfl
    · exact absurd c35 (by decide)

set_option maxHeartbeats 4000000 in
set_option maxRecDepth 100000 in
theorem eX6_restore_2 (l : Launch) (D : va_G) (K : Nat → ClassId) (NL : List Nat) (ad : Nat → Nat) (G : fM) (x : fX) (hm : f_EM NL) (t : Nat) (ht : t < 2) (hsv : G (iZ t) = 0) : Kd l yX6_restore wsX6_restore { frames := 1, cells := 0, slots := 0, locals := 22 } vwCl D K NL ad [.ref (ad 310), .int (nI t)] G x none (upd G (iT 0) 2) x := by
  refine Kd.of (cc := cX6_restore) (maxL := 3) (ret := none) (L := [some (.ref (ad 310)), some (.int (nI t)), none]) (by decide +kernel) rfl rfl (Nat.le_of_ble_eq_true rfl) ?_
  intro p e s m args below meth c hC hN hr hk hnme
  have iX6 : ∀ w ∈ wsX60, w ∈ wsX6_restore := by decide +kernel
  have h : rng (nI t) 0 1 := ⟨nI_pos (by omega), nI_le (b := 1) (by omega) (by decide)⟩
  refine fk_aload_n hC dX6_restore_0 rfl rfl ?_
  refine fk_iload_n hC dX6_restore_1 rfl rfl ?_
  refine fk_iconst (v := 0) hC dX6_restore_2 (by decide) ?_
  refine fk_iconst (v := 1) hC dX6_restore_3 (by decide) ?_
  refine fk_callS hC hN (kX6_in l D K NL ad _ x _ _ _) (va_cwS 3 hC.1.2.2.2.2 gX6_restore_X6_in rfl rfl rfl (by decide +kernel) ⟨Nat.le_of_ble_eq_true rfl, Nat.le_of_ble_eq_true rfl⟩) rfl rfl (Nat.le_of_ble_eq_true rfl) dX6_restore_4 ⟨Nat.zero_le _, Nat.zero_le _⟩ ?_
  refine fk_topi (inV_t h) ?_
  refine fk_if_ne (tgt := 14) hC dX6_restore_7 (by decide) (fun c7 => ?_) (fun c7 => ?_)
  · refine fk_aload_n hC dX6_restore_14 rfl rfl ?_
    refine fk_getM_2 hC hm iX6 (by decide +kernel) dX6_restore_15 ?_
    refine fk_iload_n hC dX6_restore_18 rfl rfl ?_
    refine fk_ld_sv hC (j := t) hm rfl (by omega) dX6_restore_19 ?_
    refine fk_if_ne (tgt := 27) hC dX6_restore_20 (by decide) (fun c20 => ?_) (fun c20 => ?_)
    · exact absurd hsv c20
    · refine fk_iconst (v := 2) hC dX6_restore_23 (by decide) ?_
      refine fk_goto (tgt := 28) hC dX6_restore_24 (by decide) ?_
      refine fk_putM_3 hC hm iX6 (by decide +kernel) dX6_restore_28 ?_
      refine fk_aload_n hC dX6_restore_31 rfl rfl ?_
      refine fk_getM_3 hC hm iX6 (by decide +kernel) dX6_restore_32 ?_
      refine fk_topi pk_us ?_
      refine fk_if_ne (tgt := 71) hC dX6_restore_35 (by decide) (fun c35 => ?_) (fun c35 => ?_)
      · exact fk_vret hC hr hk dX6_restore_71 rfl rfl rfl
      · exact absurd c35 (by decide)
  · exact absurd c7 (by decide)

