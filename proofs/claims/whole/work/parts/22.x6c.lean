section FW9
section Rows9
variable {p : Program} {l : Launch} {e : Env} {R : Room} {s : State} {m : MethodId} {args : Array Value} {below : List Frame} {meth : Method} {c : Code} {cl : List vw_C} {D : va_G} {K : Nat → ClassId} {NL : List Nat} {ad : Nat → Nat} {A : Nat → Prop} {H0 : Heap} {nL cells slots : Nat} {Q : State → Prop}
variable {cc : ByteArray} {Ts : List Cond} {own : String} {G G1 : fM} {x x1 : fX} {pc : Nat} {L : List (Option Value)} {rest st0 : List Value} {rv : Option Value} {rm : Room}
theorem fk_dconst0 (hC : Cx p s m args c cc nL Ts own cl D K NL ad A H0) (hdg : decode cc pc = .ok (.dconst 0, 1)) (kk : Wk p l e R s m args below meth c cl D K NL ad A H0 nL cells slots Q G x (pc + 1) L (.double FP.dconst0 :: rest)) : Wk p l e R s m args below meth c cl D K NL ad A H0 nL cells slots Q G x pc L rest := fun H locs ls h1 h2 h3 => lv_dconst0 hC.hx hC.hb hdg (kk H locs ls h1 h2 h3)
end Rows9
end FW9
def mn (G : fM) : Nat := (G (iM 12)).toNatClampNeg
def mo (G : fM) : Nat := (G (iM 10)).toNatClampNeg
def msv (j : Nat) (G : fM) : Nat := (G (iM (223 + j))).toNatClampNeg
def mco (j : Nat) (G : fM) : Nat := (G (iM (263 + j))).toNatClampNeg
/-- what every call finds of the reference -/
def f_J (cn : Nat) (G : fM) : Prop := (G (iM 0) = nI cn ∧ cn ≤ 10) ∧ (G (iM 12) = nI (mn G) ∧ mn G ≤ 40) ∧ (G (iM 10) = nI (mo G) ∧ mo G ≤ 1000) ∧ (∀ i, i < cn → G (iM (13 + i)) = nI (mW i G) ∧ 1 ≤ mW i G ∧ mW i G ≤ 10) ∧ wtOK cn G ∧ (∀ j, j < mn G → G (iM (223 + j)) = nI (msv j G) ∧ msv j G < cn) ∧ (∀ j, j < mo G → G (iM (263 + j)) = nI (mco j G) ∧ mco j G < cn)
theorem f_J.of_eq {cn : Nat} {G Q : fM} (h : f_J cn G) (e : ∀ j, Q (iM j) = G (iM j)) : f_J cn Q := by
  unfold f_J wtOK mn mo msv mco mW at h ⊢
  simp only [e]
  exact h
theorem mM_acc_eq {i : Nat} {G Q : fM} (e : ∀ j, Q (iM j) = G (iM j)) : mM_acc i Q = mM_acc i G := by
  unfold mM_acc mM_lets
  simp only [e]
def avP (G : fM) (i : Nat) : Bool := !decide (mM_acc i G = 0)
def avL (cn : Nat) (G : fM) : List Nat := (List.range cn).filter (avP G)
theorem mM_layF_M {i : Nat} {Q : fM} (j : Nat) (ht : (Q (iT 1)).toNatClampNeg < 100) : mM_layF i Q (iM j) = Q (iM j) := by
  unfold mM_layF
  split
  · rfl
  · rw [pk_un (by unfold iM iT; omega), pk_un (by unfold iM iW; omega)]
theorem avL_s (k : Nat) (G : fM) : avL (k + 1) G = if mM_acc k G = 0 then avL k G else avL k G ++ [k] := by
  unfold avL
  rw [List.range_succ, List.filter_append]
  by_cases h : mM_acc k G = 0
  · rw [if_pos h]
    have : avP G k = false := by unfold avP; rw [decide_eq_true h]; rfl
    simp [this]
  · rw [if_neg h]
    have : avP G k = true := by unfold avP; rw [decide_eq_false h]; rfl
    simp [this]
theorem avL_len (k : Nat) (G : fM) : (avL k G).length ≤ k := by
  unfold avL
  have := List.length_filter_le (avP G) (List.range k)
  rwa [List.length_range] at this
theorem avL_lt {k j : Nat} {G : fM} (h : j ∈ avL k G) : j < k := by
  unfold avL at h
  exact List.mem_range.mp (List.mem_filter.mp h).1
theorem getD_lt {A : List Nat} {k cn : Nat} (h : ∀ j ∈ A, j < cn) (hk : k < A.length) : A.getD k 0 < cn := by
  rw [List.getD_eq_getElem?_getD, List.getElem?_eq_getElem hk]
  exact h _ (List.getElem_mem hk)
/-- the row as layRow leaves it -/
theorem mM_lay_ok {cn : Nat} {G : fM} (hc : cn ≤ 10) : (∀ j, mM_lay cn G (iM j) = G (iM j)) ∧ RowOK cn (avL cn G) (mM_lay cn G) := by
  have h := fold9_inv (F := mM_layF) (fun k Q => (∀ j, Q (iM j) = G (iM j)) ∧ Q (iT 1) = nI (avL k G).length ∧ ∀ t, t < (avL k G).length → Q (iW t) = nI ((avL k G).getD t 0)) cn 0 (upd G (iT 1) 0)
    ⟨fun j => pk_un (by unfold iM iT; omega), by rw [pk_us]; rfl, fun t ht => by unfold avL at ht; exact absurd ht (Nat.not_lt_zero _)⟩ (fun k Q _ hk ⟨h1, h2, h3⟩ => by
      have hl := avL_len k G
      have hcl : (Q (iT 1)).toNatClampNeg = (avL k G).length := by rw [h2, nI_clamp (by omega)]
      refine ⟨fun j => (mM_layF_M j (by omega)).trans (h1 j), ?_, ?_⟩
      · unfold mM_layF
        rw [avL_s, mM_acc_eq h1]
        split
        · exact h2
        · rw [pk_us, pk_un (by unfold iT iW; omega), h2, List.length_append]
          exact nI_1 _
      · intro t ht
        unfold mM_layF
        rw [avL_s] at ht ⊢
        rw [mM_acc_eq h1]
        split
        · rename_i h0
          rw [if_pos h0] at ht
          exact h3 t ht
        · rename_i h0
          rw [if_neg h0] at ht
          rw [hcl, pk_un (by unfold iT iW; omega)]
          rw [List.length_append] at ht
          by_cases he : t = (avL k G).length
          · subst he
            rw [pk_us, List.getD_eq_getElem?_getD, List.getElem?_append_right (Nat.le_refl _), Nat.sub_self]
            rfl
          · have ht : t < (avL k G).length := by have : ([k] : List Nat).length = 1 := rfl; omega
            rw [pk_un (by unfold iW; omega), h3 t ht, List.getD_eq_getElem?_getD, List.getD_eq_getElem?_getD, List.getElem?_append_left ht])
  rw [Nat.zero_add] at h
  obtain ⟨h1, h2, h3⟩ := h
  exact ⟨h1, h2, by have := avL_len cn G; omega, fun t ht => ⟨h3 t ht, getD_lt (fun j hj => avL_lt hj) ht⟩⟩
theorem RowOK.up {cn : Nat} {A : List Nat} {G : fM} {j : Nat} {v : Int32} (h : RowOK cn A G) : RowOK cn A (upd G (iM j) v) := by
  obtain ⟨h1, h2, h3⟩ := h
  refine ⟨by rw [pk_un (by unfold iM iT; omega)]; exact h1, h2, fun k hk => ?_⟩
  rw [pk_un (by unfold iM iW; omega)]
  exact h3 k hk
theorem RowOK.up0 {cn : Nat} {A : List Nat} {G : fM} {v : Int32} (h : RowOK cn A G) : RowOK cn A (upd G (iT 0) v) := by
  obtain ⟨h1, h2, h3⟩ := h
  refine ⟨by rw [pk_un (by unfold iT; omega)]; exact h1, h2, fun k hk => ?_⟩
  rw [pk_un (by unfold iT iW; omega)]
  exact h3 k hk
theorem wtOK.up {cn i : Nat} {G : fM} {v : Int32} (hc : cn ≤ 10) (h : wtOK cn G) : wtOK cn (upd G (iM (113 + i)) v) := by
  intro k hk
  rw [pk_un (by unfold iM; omega), pk_un (by unfold iM; omega), pk_un (by unfold iM; omega)]
  exact h k hk
def mM_i1 (A : List Nat) (G : fM) : Nat := ((sed9 (G (iM 8))).toBitVec.toNat / 65536) % A.length
def mM_i2 (A : List Nat) (G : fM) : Nat := ((sed9 (sed9 (G (iM 8)))).toBitVec.toNat / 65536) % A.length
def mM_two (A : List Nat) (G : fM) : Nat := if G (iM (33 + A.getD (mM_i1 A G) 0)) ≤ G (iM (33 + A.getD (mM_i2 A G) 0)) then A.getD (mM_i1 A G) 0 else A.getD (mM_i2 A G) 0
def mM_pol9 (cn : Nat) (A : List Nat) (cl : Int32) (G : fM) : Option Nat := if G (iM 7) = 0 then some (mM_turn A G) else if G (iM 7) = 1 then some (mM_byCr A G) else if G (iM 7) = 2 then some (mM_ll A G) else if G (iM 7) = 3 then mM_bp cn cl 0 G else some (mM_two A G)
def mM_noF (A : List Nat) (k : Nat) (q : fM × Int32) : fM × Int32 := (upd q.1 (iM (113 + A.getD k 0)) (q.1 (iM (113 + A.getD k 0)) + mM_wt (A.getD k 0) q.1), q.2 + mM_wt (A.getD k 0) (upd q.1 (iM (113 + A.getD k 0)) (q.1 (iM (113 + A.getD k 0)) + mM_wt (A.getD k 0) q.1)))
def mM_no1 (A : List Nat) (G : fM) : fM × Int32 := fold9 (mM_noF A) A.length 0 (G, 0)
def mM_note (A : List Nat) (j : Nat) (G : fM) : fM := if G (iM 7) = 0 then upd G (iM 9) (nI j) else if G (iM 7) = 1 then upd (mM_no1 A G).1 (iM (113 + j)) ((mM_no1 A G).1 (iM (113 + j)) - (mM_no1 A G).2) else if G (iM 7) ≤ 3 then G else upd G (iM 8) (sed9 (sed9 (G (iM 8))))
def mM_plP (cl : Int32) (G : fM) (j : Nat) : Bool := decide (G (iM (143 + j)) = cl)
def mM_find (cl : Int32) (n : Nat) (G : fM) : Option Nat := srch (mM_plP cl G) 0 n
def mM_stuck (cl : Int32) (G : fM) : Option Nat := match mM_find cl (mn G) G with
  | none => none
  | some j => if G (iM 6) ≤ G (iM 1) - G (iM (183 + j)) then none else if mM_acc (msv j G) G = 0 then none else some (msv j G)
def mM_bef (G : fM) (a b : Nat) : Int32 := if G (iM (183 + a)) - G (iM (183 + b)) < 0 then 1 else if G (iM (183 + a)) - G (iM (183 + b)) = 0 then (if G (iM (143 + b)) ≤ G (iM (143 + a)) then 0 else 1) else 0
def mM_oldF (G : fM) (e k : Nat) : Nat := if mM_bef G e k = 0 then k else e
def mM_old (G : fM) : Nat := fold9 (mM_oldF G) 39 1 0
def mM_remP (cl : Int32) (n : Nat) (G : fM) : Nat := match mM_find cl n G with
  | some j => j
  | none => if n < 40 then n else mM_old G
def mM_remG (cl : Int32) (n : Nat) (G : fM) : fM := match mM_find cl n G with
  | some _ => G
  | none => if n < 40 then upd G (iM 12) (nI (n + 1)) else G
def mM_rem (cl sv : Int32) (n : Nat) (G : fM) : fM := upd (upd (upd (mM_remG cl n G) (iM (143 + mM_remP cl n G)) cl) (iM (183 + mM_remP cl n G)) (upd (mM_remG cl n G) (iM (143 + mM_remP cl n G)) cl (iM 1))) (iM (223 + mM_remP cl n G)) sv
theorem mM_old_lt {G : fM} : mM_old G < 40 := by
  have := fold9_inv (F := mM_oldF G) (fun e k => k < e) 39 1 0 (by decide) (fun e k _ _ h => by unfold mM_oldF; split <;> omega)
  exact this
theorem mM_remP_lt {n : Nat} {cl : Int32} {G : fM} (hn : n ≤ 40) : mM_remP cl n G < 40 := by
  unfold mM_remP
  split
  · rename_i j hj
    have := srch_lt _ _ _ hj
    omega
  · split
    · assumption
    · exact mM_old_lt

set_option maxHeartbeats 4000000 in
set_option maxRecDepth 100000 in
theorem kX6_ofTwo (l : Launch) (D : va_G) (K : Nat → ClassId) (NL : List Nat) (ad : Nat → Nat) (G : fM) (x : fX) (hm : f_EM NL) (cn : Nat) (hc10 : cn ≤ 10) (A : List Nat) (hA : RowOK cn A G) (hA0 : 0 < A.length) : Kd l yX6_ofTwo wsX6_ofTwo { frames := 1, cells := 0, slots := 0, locals := 20 } vwCl D K NL ad [.ref (ad 310)] G x (some (.int (nI (mM_two A G)))) G x := by
  refine Kd.of (cc := cX6_ofTwo) (maxL := 5) (ret := (some .int)) (L := [some (.ref (ad 310)), none, none, none, none]) (by decide +kernel) rfl rfl (Nat.le_of_ble_eq_true rfl) ?_
  intro p e s m args below meth c hC hN hr hk hnme
  have iX6 : ∀ w ∈ wsX60, w ∈ wsX6_ofTwo := by decide +kernel
  obtain ⟨hl1, hl2, hl3⟩ := hA
  have hi1 : mM_i1 A G < A.length := Nat.mod_lt _ hA0
  have hi2 : mM_i2 A G < A.length := Nat.mod_lt _ hA0
  have hj1 := (hl3 _ hi1).2
  have hj2 := (hl3 _ hi2).2
  refine fk_aload_n hC dX6_ofTwo_0 rfl rfl ?_
  refine fk_getM_0 hC hm iX6 (by decide +kernel) dX6_ofTwo_1 ?_
  refine fk_bipush (v := 8) hC dX6_ofTwo_4 (by decide) ?_
  refine fk_ld_at hC (j := 8) hm rfl (by omega) dX6_ofTwo_6 ?_
  refine fk_callS hC hN (kX6_nextSeed l D K NL ad _ x _) (va_cwS 1 hC.1.2.2.2.2 gX6_ofTwo_X6_nextSeed rfl rfl rfl (by decide +kernel) ⟨Nat.le_of_ble_eq_true rfl, Nat.le_of_ble_eq_true rfl⟩) rfl rfl (Nat.le_of_ble_eq_true rfl) dX6_ofTwo_7 ⟨Nat.zero_le _, Nat.zero_le _⟩ ?_
  refine fk_istore_n hC dX6_ofTwo_10 rfl (by decide) rfl ?_
  refine fk_iload_n hC dX6_ofTwo_11 rfl rfl ?_
  refine fk_callS hC hN (kX6_nextSeed l D K NL ad _ x _) (va_cwS 1 hC.1.2.2.2.2 gX6_ofTwo_X6_nextSeed rfl rfl rfl (by decide +kernel) ⟨Nat.le_of_ble_eq_true rfl, Nat.le_of_ble_eq_true rfl⟩) rfl rfl (Nat.le_of_ble_eq_true rfl) dX6_ofTwo_12 ⟨Nat.zero_le _, Nat.zero_le _⟩ ?_
  refine fk_istore_n hC dX6_ofTwo_15 rfl (by decide) rfl ?_
  refine fk_aload_n hC dX6_ofTwo_16 rfl rfl ?_
  refine fk_getM_4 hC hm iX6 (by decide +kernel) dX6_ofTwo_17 ?_
  refine fk_iload_n hC dX6_ofTwo_20 rfl rfl ?_
  refine fk_bipush (v := 16) hC dX6_ofTwo_21 (by decide) ?_
  refine fk_iushr hC dX6_ofTwo_23 rfl ?_
  refine fk_aload_n hC dX6_ofTwo_24 rfl rfl ?_
  refine fk_getM_5 hC hm iX6 (by decide +kernel) dX6_ofTwo_25 ?_
  refine fk_irem hC dX6_ofTwo_28 (by rw [hl1]; exact nI_ne0 hA0 (by omega)) ?_
  refine fk_topi (show _ = nI (mM_i1 A G) by rw [hl1]; exact f_rem16 hA0 (by omega)) ?_
  refine fk_ld_rw hC (j := (mM_i1 A G)) hm rfl (by omega) dX6_ofTwo_29 ?_
  refine fk_topi (hl3 _ hi1).1 ?_
  refine fk_istore_n hC dX6_ofTwo_30 rfl (by decide) rfl ?_
  refine fk_aload_n hC dX6_ofTwo_31 rfl rfl ?_
  refine fk_getM_4 hC hm iX6 (by decide +kernel) dX6_ofTwo_32 ?_
  refine fk_iload_n hC dX6_ofTwo_35 rfl rfl ?_
  refine fk_bipush (v := 16) hC dX6_ofTwo_36 (by decide) ?_
  refine fk_iushr hC dX6_ofTwo_38 rfl ?_
  refine fk_aload_n hC dX6_ofTwo_39 rfl rfl ?_
  refine fk_getM_5 hC hm iX6 (by decide +kernel) dX6_ofTwo_40 ?_
  refine fk_irem hC dX6_ofTwo_43 (by rw [hl1]; exact nI_ne0 hA0 (by omega)) ?_
  refine fk_topi (show _ = nI (mM_i2 A G) by rw [hl1]; exact f_rem16 hA0 (by omega)) ?_
  refine fk_ld_rw hC (j := (mM_i2 A G)) hm rfl (by omega) dX6_ofTwo_44 ?_
  refine fk_topi (hl3 _ hi2).1 ?_
  refine fk_istore hC dX6_ofTwo_45 (by decide) rfl ?_
  refine fk_aload_n hC dX6_ofTwo_47 rfl rfl ?_
  refine fk_getM_0 hC hm iX6 (by decide +kernel) dX6_ofTwo_48 ?_
  refine fk_bipush (v := 33) hC dX6_ofTwo_51 (by decide) ?_
  refine fk_iload hC dX6_ofTwo_53 rfl ?_
  refine fk_iadd hC dX6_ofTwo_55 ?_
  refine fk_ld_at hC (j := 33 + (A.getD (mM_i2 A G) 0)) hm (nI_add 33 (A.getD (mM_i2 A G) 0)) (by omega) dX6_ofTwo_56 ?_
  refine fk_aload_n hC dX6_ofTwo_57 rfl rfl ?_
  refine fk_getM_0 hC hm iX6 (by decide +kernel) dX6_ofTwo_58 ?_
  refine fk_bipush (v := 33) hC dX6_ofTwo_61 (by decide) ?_
  refine fk_iload_n hC dX6_ofTwo_63 rfl rfl ?_
  refine fk_iadd hC dX6_ofTwo_64 ?_
  refine fk_ld_at hC (j := 33 + (A.getD (mM_i1 A G) 0)) hm (nI_add 33 (A.getD (mM_i1 A G) 0)) (by omega) dX6_ofTwo_65 ?_
  refine fk_icmp_ge (tgt := 74) hC dX6_ofTwo_66 (by decide) (fun c66 => ?_) (fun c66 => ?_)
  · refine fk_iload_n hC dX6_ofTwo_74 rfl rfl ?_
    exact fk_iret hC hr hk dX6_ofTwo_75 (by unfold mM_two; rw [if_pos c66]) rfl rfl
  · refine fk_iload hC dX6_ofTwo_69 rfl ?_
    refine fk_goto (tgt := 75) hC dX6_ofTwo_71 (by decide) ?_
    exact fk_iret hC hr hk dX6_ofTwo_75 (by unfold mM_two; rw [if_neg c66]) rfl rfl

set_option maxHeartbeats 4000000 in
set_option maxRecDepth 100000 in
theorem kX6_byPolicy (l : Launch) (D : va_G) (K : Nat → ClassId) (NL : List Nat) (ad : Nat → Nat) (G : fM) (x : fX) (hm : f_EM NL) (cn : Nat) (hc10 : cn ≤ 10) (A : List Nat) (hA : RowOK cn A G) (hA0 : 0 < A.length) (hc : G (iM 0) = nI cn) (hwt : wtOK cn G) (hw : ∀ i, i < cn → G (iM (13 + i)) = nI (mW i G) ∧ 1 ≤ mW i G ∧ mW i G ≤ 10) (cl : Int32) : Kd l yX6_byPolicy wsX6_byPolicy { frames := 3, cells := 0, slots := 0, locals := 72 } vwCl D K NL ad [.ref (ad 310), .int cl] G x (some (.int (rI (mM_pol9 cn A cl G)))) G x := by
  refine Kd.of (cc := cX6_byPolicy) (maxL := 2) (ret := (some .int)) (L := [some (.ref (ad 310)), some (.int cl)]) (by decide +kernel) rfl rfl (Nat.le_of_ble_eq_true rfl) ?_
  intro p e s m args below meth c hC hN hr hk hnme
  have iX6 : ∀ w ∈ wsX60, w ∈ wsX6_byPolicy := by decide +kernel
  refine fk_aload_n hC dX6_byPolicy_0 rfl rfl ?_
  refine fk_getM_0 hC hm iX6 (by decide +kernel) dX6_byPolicy_1 ?_
  refine fk_bipush (v := 7) hC dX6_byPolicy_4 (by decide) ?_
  refine fk_ld_at hC (j := 7) hm rfl (by omega) dX6_byPolicy_6 ?_
  rcases f_sw4 (G (iM 7)) with h7 | h7 | h7 | h7 | h7
  · refine fk_tableIn (off := 29) (tgt := 36) hC dX6_byPolicy_7 (by rw [h7]; decide) (by rw [h7]; decide) (by rw [h7]; rfl) (by decide) ?_
    refine fk_aload_n hC dX6_byPolicy_36 rfl rfl ?_
    refine fk_callV hC hN (kX6_nextInTurn l D K NL ad _ x hm cn hc10 A hA hA0) hm.1 (f_E310 _ _ _ _ _) rfl (cwV 0 hC.1.2.2.2.2 gX6_byPolicy_X6_nextInTurn rfl rfl rfl (by decide +kernel) ⟨Nat.le_of_ble_eq_true rfl, Nat.le_of_ble_eq_true rfl⟩) rfl rfl (Nat.le_of_ble_eq_true rfl) dX6_byPolicy_37 ⟨Nat.zero_le _, Nat.zero_le _⟩ ?_
    exact fk_iret hC hr hk dX6_byPolicy_40 (by unfold mM_pol9; rw [if_pos h7]; rfl) rfl rfl
  · refine fk_tableIn (off := 34) (tgt := 41) hC dX6_byPolicy_7 (by rw [h7]; decide) (by rw [h7]; decide) (by rw [h7]; rfl) (by decide) ?_
    refine fk_aload_n hC dX6_byPolicy_41 rfl rfl ?_
    refine fk_callV hC hN (kX6_mostCredit l D K NL ad _ x hm cn hc10 A hA hA0 hwt) hm.1 (f_E310 _ _ _ _ _) rfl (cwV 0 hC.1.2.2.2.2 gX6_byPolicy_X6_mostCredit rfl rfl rfl (by decide +kernel) ⟨Nat.le_of_ble_eq_true rfl, Nat.le_of_ble_eq_true rfl⟩) rfl rfl (Nat.le_of_ble_eq_true rfl) dX6_byPolicy_42 ⟨Nat.zero_le _, Nat.zero_le _⟩ ?_
    exact fk_iret hC hr hk dX6_byPolicy_45 (by unfold mM_pol9; rw [if_neg (by rw [h7]; decide), if_pos h7]; rfl) rfl rfl
  · refine fk_tableIn (off := 39) (tgt := 46) hC dX6_byPolicy_7 (by rw [h7]; decide) (by rw [h7]; decide) (by rw [h7]; rfl) (by decide) ?_
    refine fk_aload_n hC dX6_byPolicy_46 rfl rfl ?_
    refine fk_callV hC hN (kX6_leastBusy l D K NL ad _ x hm cn hc10 A hA hA0 hwt) hm.1 (f_E310 _ _ _ _ _) rfl (cwV 0 hC.1.2.2.2.2 gX6_byPolicy_X6_leastBusy rfl rfl rfl (by decide +kernel) ⟨Nat.le_of_ble_eq_true rfl, Nat.le_of_ble_eq_true rfl⟩) rfl rfl (Nat.le_of_ble_eq_true rfl) dX6_byPolicy_47 ⟨Nat.zero_le _, Nat.zero_le _⟩ ?_
    exact fk_iret hC hr hk dX6_byPolicy_50 (by unfold mM_pol9; rw [if_neg (by rw [h7]; decide), if_neg (by rw [h7]; decide), if_pos h7]; rfl) rfl rfl
  · refine fk_tableIn (off := 44) (tgt := 51) hC dX6_byPolicy_7 (by rw [h7]; decide) (by rw [h7]; decide) (by rw [h7]; rfl) (by decide) ?_
    refine fk_aload_n hC dX6_byPolicy_51 rfl rfl ?_
    refine fk_iload_n hC dX6_byPolicy_52 rfl rfl ?_
    refine fk_iconst (v := 0) hC dX6_byPolicy_53 (by decide) ?_
    refine fk_callV hC hN (kX6_byPoints l D K NL ad _ x hm cn hc hc10 hw _ _) hm.1 (f_E310 _ _ _ _ _) rfl (cwV 2 hC.1.2.2.2.2 gX6_byPolicy_X6_byPoints rfl rfl rfl (by decide +kernel) ⟨Nat.le_of_ble_eq_true rfl, Nat.le_of_ble_eq_true rfl⟩) rfl rfl (Nat.le_of_ble_eq_true rfl) dX6_byPolicy_54 ⟨Nat.zero_le _, Nat.zero_le _⟩ ?_
    exact fk_iret hC hr hk dX6_byPolicy_57 (by unfold mM_pol9; rw [if_neg (by rw [h7]; decide), if_neg (by rw [h7]; decide), if_neg (by rw [h7]; decide), if_pos h7]) rfl rfl
  · refine fk_tableOut (tgt := 58) hC dX6_byPolicy_7 h7 (by decide) ?_
    refine fk_aload_n hC dX6_byPolicy_58 rfl rfl ?_
    refine fk_callV hC hN (kX6_ofTwo l D K NL ad _ x hm cn hc10 A hA hA0) hm.1 (f_E310 _ _ _ _ _) rfl (cwV 0 hC.1.2.2.2.2 gX6_byPolicy_X6_ofTwo rfl rfl rfl (by decide +kernel) ⟨Nat.le_of_ble_eq_true rfl, Nat.le_of_ble_eq_true rfl⟩) rfl rfl (Nat.le_of_ble_eq_true rfl) dX6_byPolicy_59 ⟨Nat.zero_le _, Nat.zero_le _⟩ ?_
    exact fk_iret hC hr hk dX6_byPolicy_62 (by unfold mM_pol9; rw [if_neg (fun h => by rw [h] at h7; revert h7; decide), if_neg (fun h => by rw [h] at h7; revert h7; decide), if_neg (fun h => by rw [h] at h7; revert h7; decide), if_neg (fun h => by rw [h] at h7; revert h7; decide)]; rfl) rfl rfl

set_option maxHeartbeats 4000000 in
set_option maxRecDepth 100000 in
theorem kX6_note (l : Launch) (D : va_G) (K : Nat → ClassId) (NL : List Nat) (ad : Nat → Nat) (G : fM) (x : fX) (hm : f_EM NL) (cn : Nat) (hc10 : cn ≤ 10) (A : List Nat) (hA : RowOK cn A G) (hA0 : 0 < A.length) (hwt : wtOK cn G) (j : Nat) (hj : j < cn) : Kd l yX6_note wsX6_note { frames := 1, cells := 0, slots := 0, locals := 23 } vwCl D K NL ad [.ref (ad 310), .int (nI j)] G x none (mM_note A j G) x := by
  refine Kd.of (cc := cX6_note) (maxL := 4) (ret := none) (L := [some (.ref (ad 310)), some (.int (nI j)), none, none]) (by decide +kernel) rfl rfl (Nat.le_of_ble_eq_true rfl) ?_
  intro p e s m args below meth c hC hN hr hk hnme
  have iX6 : ∀ w ∈ wsX60, w ∈ wsX6_note := by decide +kernel
  refine fk_aload_n hC dX6_note_0 rfl rfl ?_
  refine fk_getM_0 hC hm iX6 (by decide +kernel) dX6_note_1 ?_
  refine fk_bipush (v := 7) hC dX6_note_4 (by decide) ?_
  refine fk_ld_at hC (j := 7) hm rfl (by omega) dX6_note_6 ?_
  refine fk_if_ne (tgt := 21) hC dX6_note_7 (by decide) (fun c7 => ?_) (fun c7 => ?_)
  · refine fk_aload_n hC dX6_note_21 rfl rfl ?_
    refine fk_getM_0 hC hm iX6 (by decide +kernel) dX6_note_22 ?_
    refine fk_bipush (v := 7) hC dX6_note_25 (by decide) ?_
    refine fk_ld_at hC (j := 7) hm rfl (by omega) dX6_note_27 ?_
    refine fk_iconst (v := 1) hC dX6_note_28 (by decide) ?_
    refine fk_icmp_ne (tgt := 106) hC dX6_note_29 (by decide) (fun c29 => ?_) (fun c29 => ?_)
    · refine fk_aload_n hC dX6_note_106 rfl rfl ?_
      refine fk_getM_0 hC hm iX6 (by decide +kernel) dX6_note_107 ?_
      refine fk_bipush (v := 7) hC dX6_note_110 (by decide) ?_
      refine fk_ld_at hC (j := 7) hm rfl (by omega) dX6_note_112 ?_
      refine fk_iconst (v := 3) hC dX6_note_113 (by decide) ?_
      refine fk_icmp_le (tgt := 137) hC dX6_note_114 (by decide) (fun c114 => ?_) (fun c114 => ?_)
      · exact fk_vret hC hr hk dX6_note_137 rfl (by unfold mM_note; rw [if_neg c7, if_neg c29, if_pos c114]) rfl
      · refine fk_aload_n hC dX6_note_117 rfl rfl ?_
        refine fk_getM_0 hC hm iX6 (by decide +kernel) dX6_note_118 ?_
        refine fk_bipush (v := 8) hC dX6_note_121 (by decide) ?_
        refine fk_aload_n hC dX6_note_123 rfl rfl ?_
        refine fk_getM_0 hC hm iX6 (by decide +kernel) dX6_note_124 ?_
        refine fk_bipush (v := 8) hC dX6_note_127 (by decide) ?_
        refine fk_ld_at hC (j := 8) hm rfl (by omega) dX6_note_129 ?_
        refine fk_callS hC hN (kX6_nextSeed l D K NL ad _ x _) (va_cwS 1 hC.1.2.2.2.2 gX6_note_X6_nextSeed rfl rfl rfl (by decide +kernel) ⟨Nat.le_of_ble_eq_true rfl, Nat.le_of_ble_eq_true rfl⟩) rfl rfl (Nat.le_of_ble_eq_true rfl) dX6_note_130 ⟨Nat.zero_le _, Nat.zero_le _⟩ ?_
        refine fk_callS hC hN (kX6_nextSeed l D K NL ad _ x _) (va_cwS 1 hC.1.2.2.2.2 gX6_note_X6_nextSeed rfl rfl rfl (by decide +kernel) ⟨Nat.le_of_ble_eq_true rfl, Nat.le_of_ble_eq_true rfl⟩) rfl rfl (Nat.le_of_ble_eq_true rfl) dX6_note_133 ⟨Nat.zero_le _, Nat.zero_le _⟩ ?_
        refine fk_st_at hC (j := 8) hm rfl (by omega) dX6_note_136 ?_
        exact fk_vret hC hr hk dX6_note_137 rfl (by unfold mM_note; rw [if_neg c7, if_neg c29, if_neg c114]) rfl
    · have hl2 := hA.2.1
      have lp : ∀ (d : Nat) (k : Nat) (Q : fM) (a : Int32), A.length - k = d → k ≤ A.length → RowOK cn A Q → wtOK cn Q → fold9 (mM_noF A) A.length 0 (G, 0) = fold9 (mM_noF A) (A.length - k) k (Q, a) → Wk p l e { frames := 1, cells := 0, slots := 0, locals := 23 } s m args below meth c vwCl D K NL ad (f_A NL ad s.heap.size) s.heap 4 0 0 (MQ below (f_Post vwCl D K NL ad (mM_note A j G) x none s.heap.size) args s 0 0 (f_A NL ad s.heap.size)) Q x 36 [some (.ref (ad 310)), some (.int (nI j)), some (.int a), some (.int (nI k))] [] := by
        intro d
        induction d using Nat.strongRecOn with
        | _ d ih =>
          intro k Q a hd hkn hQA hQw hs
          refine fk_iload_n hC dX6_note_36 rfl rfl ?_
          refine fk_aload_n hC dX6_note_37 rfl rfl ?_
          refine fk_getM_5 hC hm iX6 (by decide +kernel) dX6_note_38 ?_
          refine fk_icmp_ge (tgt := 90) hC dX6_note_41 (by decide) (fun c41 => ?_) (fun c41 => ?_)
          · rw [hQA.1] at c41
            have q41 := f_le (by omega) (by omega) c41
            rw [fold9_end q41] at hs
            refine fk_aload_n hC dX6_note_90 rfl rfl ?_
            refine fk_getM_0 hC hm iX6 (by decide +kernel) dX6_note_91 ?_
            refine fk_bipush (v := 113) hC dX6_note_94 (by decide) ?_
            refine fk_iload_n hC dX6_note_96 rfl rfl ?_
            refine fk_iadd hC dX6_note_97 ?_
            refine fk_dup2 hC dX6_note_98 rfl rfl ?_
            refine fk_ld_at hC (j := 113 + j) hm (nI_add 113 j) (by omega) dX6_note_99 ?_
            refine fk_iload_n hC dX6_note_100 rfl rfl ?_
            refine fk_isub hC dX6_note_101 ?_
            refine fk_st_at hC (j := 113 + j) hm (nI_add 113 j) (by omega) dX6_note_102 ?_
            refine fk_goto (tgt := 137) hC dX6_note_103 (by decide) ?_
            exact fk_vret hC hr hk dX6_note_137 rfl (by unfold mM_note; rw [if_neg c7, if_pos c29, show mM_no1 A G = (Q, a) from hs]) rfl
          · rw [hQA.1] at c41
            have q41 := f_nle (by omega) (by omega) c41
            have q42 := (hQA.2.2 k q41).2
            refine fk_aload_n hC dX6_note_44 rfl rfl ?_
            refine fk_getM_0 hC hm iX6 (by decide +kernel) dX6_note_45 ?_
            refine fk_bipush (v := 113) hC dX6_note_48 (by decide) ?_
            refine fk_aload_n hC dX6_note_50 rfl rfl ?_
            refine fk_getM_4 hC hm iX6 (by decide +kernel) dX6_note_51 ?_
            refine fk_iload_n hC dX6_note_54 rfl rfl ?_
            refine fk_ld_rw hC (j := k) hm rfl (by omega) dX6_note_55 ?_
            refine fk_topi (hQA.2.2 k q41).1 ?_
            refine fk_iadd hC dX6_note_56 ?_
            refine fk_dup2 hC dX6_note_57 rfl rfl ?_
            refine fk_ld_at hC (j := 113 + (A.getD k 0)) hm (nI_add 113 (A.getD k 0)) (by omega) dX6_note_58 ?_
            refine fk_aload_n hC dX6_note_59 rfl rfl ?_
            refine fk_aload_n hC dX6_note_60 rfl rfl ?_
            refine fk_getM_4 hC hm iX6 (by decide +kernel) dX6_note_61 ?_
            refine fk_iload_n hC dX6_note_64 rfl rfl ?_
            refine fk_ld_rw hC (j := k) hm rfl (by omega) dX6_note_65 ?_
            refine fk_topi (hQA.2.2 k q41).1 ?_
            refine fk_callV hC hN (kX6_weightNow l D K NL ad _ x hm (A.getD k 0) (by omega) (hQw _ q42)) hm.1 (f_E310 _ _ _ _ _) rfl (cwV 1 hC.1.2.2.2.2 gX6_note_X6_weightNow rfl rfl rfl (by decide +kernel) ⟨Nat.le_of_ble_eq_true rfl, Nat.le_of_ble_eq_true rfl⟩) rfl rfl (Nat.le_of_ble_eq_true rfl) dX6_note_66 ⟨Nat.zero_le _, Nat.zero_le _⟩ ?_
            refine fk_iadd hC dX6_note_69 ?_
            refine fk_st_at hC (j := 113 + (A.getD k 0)) hm (nI_add 113 (A.getD k 0)) (by omega) dX6_note_70 ?_
            refine fk_iload_n hC dX6_note_71 rfl rfl ?_
            refine fk_aload_n hC dX6_note_72 rfl rfl ?_
            refine fk_aload_n hC dX6_note_73 rfl rfl ?_
            refine fk_getM_4 hC hm iX6 (by decide +kernel) dX6_note_74 ?_
            refine fk_iload_n hC dX6_note_77 rfl rfl ?_
            refine fk_ld_rw hC (j := k) hm rfl (by omega) dX6_note_78 ?_
            refine fk_topi (hQA.up.2.2 k q41).1 ?_
            refine fk_callV hC hN (kX6_weightNow l D K NL ad _ x hm (A.getD k 0) (by omega) (hQw.up hc10 _ q42)) hm.1 (f_E310 _ _ _ _ _) rfl (cwV 1 hC.1.2.2.2.2 gX6_note_X6_weightNow rfl rfl rfl (by decide +kernel) ⟨Nat.le_of_ble_eq_true rfl, Nat.le_of_ble_eq_true rfl⟩) rfl rfl (Nat.le_of_ble_eq_true rfl) dX6_note_79 ⟨Nat.zero_le _, Nat.zero_le _⟩ ?_
            refine fk_iadd hC dX6_note_82 ?_
            refine fk_istore_n hC dX6_note_83 rfl (by decide) rfl ?_
            refine fk_iinc hC dX6_note_84 rfl (f_inc k) (by decide) rfl ?_
            refine fk_goto (tgt := 36) hC dX6_note_87 (by decide) ?_
            exact ih (A.length - (k + 1)) (by omega) (k + 1) _ _ rfl (by omega) hQA.up (hQw.up hc10) (hs.trans (fold9_step q41))
      refine fk_iconst (v := 0) hC dX6_note_32 (by decide) ?_
      refine fk_istore_n hC dX6_note_33 rfl (by decide) rfl ?_
      refine fk_iconst (v := 0) hC dX6_note_34 (by decide) ?_
      refine fk_istore_n hC dX6_note_35 rfl (by decide) rfl ?_
      exact lp A.length 0 G 0 rfl (Nat.zero_le _) hA hwt rfl
  · refine fk_aload_n hC dX6_note_10 rfl rfl ?_
    refine fk_getM_0 hC hm iX6 (by decide +kernel) dX6_note_11 ?_
    refine fk_bipush (v := 9) hC dX6_note_14 (by decide) ?_
    refine fk_iload_n hC dX6_note_16 rfl rfl ?_
    refine fk_st_at hC (j := 9) hm rfl (by omega) dX6_note_17 ?_
    refine fk_goto (tgt := 137) hC dX6_note_18 (by decide) ?_
    exact fk_vret hC hr hk dX6_note_137 rfl (by unfold mM_note; rw [if_pos c7]) rfl

set_option maxHeartbeats 4000000 in
set_option maxRecDepth 100000 in
theorem kX6_placeOfClient (l : Launch) (D : va_G) (K : Nat → ClassId) (NL : List Nat) (ad : Nat → Nat) (G : fM) (x : fX) (hm : f_EM NL) (n : Nat) (hsz : G (iM 12) = nI n) (hn : n ≤ 40) (cl : Int32) : Kd l yX6_placeOfClient wsX6_placeOfClient { frames := 0, cells := 0, slots := 0, locals := 0 } vwCl D K NL ad [.ref (ad 310), .int cl] G x (some (.int (rI (mM_find cl n G)))) G x := by
  refine Kd.of (cc := cX6_placeOfClient) (maxL := 3) (ret := (some .int)) (L := [some (.ref (ad 310)), some (.int cl), none]) (by decide +kernel) rfl rfl (Nat.le_of_ble_eq_true rfl) ?_
  intro p e s m args below meth c hC hN hr hk hnme
  have iX6 : ∀ w ∈ wsX60, w ∈ wsX6_placeOfClient := by decide +kernel
  have lp : ∀ (d : Nat) (k : Nat), n - k = d → k ≤ n → srch (mM_plP cl G) 0 n = srch (mM_plP cl G) k (n - k) → Wk p l e { frames := 0, cells := 0, slots := 0, locals := 0 } s m args below meth c vwCl D K NL ad (f_A NL ad s.heap.size) s.heap 3 0 0 (MQ below (f_Post vwCl D K NL ad G x (some (.int (rI (mM_find cl n G)))) s.heap.size) args s 0 0 (f_A NL ad s.heap.size)) G x 2 [some (.ref (ad 310)), some (.int cl), some (.int (nI k))] [] := by
    intro d
    induction d using Nat.strongRecOn with
    | _ d ih =>
      intro k hd hkn hs
      refine fk_iload_n hC dX6_placeOfClient_2 rfl rfl ?_
      refine fk_aload_n hC dX6_placeOfClient_3 rfl rfl ?_
      refine fk_getM_0 hC hm iX6 (by decide +kernel) dX6_placeOfClient_4 ?_
      refine fk_bipush (v := 12) hC dX6_placeOfClient_7 (by decide) ?_
      refine fk_ld_at hC (j := 12) hm rfl (by omega) dX6_placeOfClient_9 ?_
      refine fk_icmp_ge (tgt := 35) hC dX6_placeOfClient_10 (by decide) (fun c10 => ?_) (fun c10 => ?_)
      · rw [hsz] at c10
        have q10 := f_le (by omega) (by omega) c10
        refine fk_iconst (v := (-1)) hC dX6_placeOfClient_35 (by decide) ?_
        exact fk_iret hC hr hk dX6_placeOfClient_36 (by unfold mM_find; rw [hs, srch_end q10 rfl]; rfl) rfl rfl
      · rw [hsz] at c10
        have q10 := f_nle (by omega) (by omega) c10
        refine fk_aload_n hC dX6_placeOfClient_13 rfl rfl ?_
        refine fk_getM_0 hC hm iX6 (by decide +kernel) dX6_placeOfClient_14 ?_
        refine fk_sipush (v := 143) hC dX6_placeOfClient_17 (by decide) ?_
        refine fk_iload_n hC dX6_placeOfClient_20 rfl rfl ?_
        refine fk_iadd hC dX6_placeOfClient_21 ?_
        refine fk_ld_at hC (j := 143 + k) hm (nI_add 143 k) (by omega) dX6_placeOfClient_22 ?_
        refine fk_iload_n hC dX6_placeOfClient_23 rfl rfl ?_
        refine fk_icmp_ne (tgt := 29) hC dX6_placeOfClient_24 (by decide) (fun c24 => ?_) (fun c24 => ?_)
        · refine fk_iinc hC dX6_placeOfClient_29 rfl (f_inc k) (by decide) rfl ?_
          refine fk_goto (tgt := 2) hC dX6_placeOfClient_32 (by decide) ?_
          exact ih (n - (k + 1)) (by omega) (k + 1) rfl (by omega) (hs.trans (srch_step q10 (by unfold mM_plP; exact decide_eq_false c24) rfl))
        · refine fk_iload_n hC dX6_placeOfClient_27 rfl rfl ?_
          exact fk_iret hC hr hk dX6_placeOfClient_28 (by unfold mM_find; rw [hs, srch_hit (by omega) (by unfold mM_plP; exact decide_eq_true c24)]; rfl) rfl rfl
  refine fk_iconst (v := 0) hC dX6_placeOfClient_0 (by decide) ?_
  refine fk_istore_n hC dX6_placeOfClient_1 rfl (by decide) rfl ?_
  exact lp n 0 rfl (Nat.zero_le _) rfl

set_option maxHeartbeats 4000000 in
set_option maxRecDepth 100000 in
theorem kX6_stuckTo (l : Launch) (D : va_G) (K : Nat → ClassId) (NL : List Nat) (ad : Nat → Nat) (G : fM) (x : fX) (hm : f_EM NL) (cn : Nat) (hJ : f_J cn G) (cl : Int32) : Kd l yX6_stuckTo wsX6_stuckTo { frames := 1, cells := 0, slots := 0, locals := 22 } vwCl D K NL ad [.ref (ad 310), .int cl] G x (some (.int (rI (mM_stuck cl G)))) G x := by
  refine Kd.of (cc := cX6_stuckTo) (maxL := 3) (ret := (some .int)) (L := [some (.ref (ad 310)), some (.int cl), none]) (by decide +kernel) rfl rfl (Nat.le_of_ble_eq_true rfl) ?_
  intro p e s m args below meth c hC hN hr hk hnme
  have iX6 : ∀ w ∈ wsX60, w ∈ wsX6_stuckTo := by decide +kernel
  have h10 := hJ.1.2
  have h40 := hJ.2.1.2
  have h1000 := hJ.2.2.1.2
  refine fk_aload_n hC dX6_stuckTo_0 rfl rfl ?_
  refine fk_iload_n hC dX6_stuckTo_1 rfl rfl ?_
  refine fk_callV hC hN (kX6_placeOfClient l D K NL ad _ x hm (mn G) hJ.2.1.1 hJ.2.1.2 _) hm.1 (f_E310 _ _ _ _ _) rfl (cwV 1 hC.1.2.2.2.2 gX6_stuckTo_X6_placeOfClient rfl rfl rfl (by decide +kernel) ⟨Nat.le_of_ble_eq_true rfl, Nat.le_of_ble_eq_true rfl⟩) rfl rfl (Nat.le_of_ble_eq_true rfl) dX6_stuckTo_2 ⟨Nat.zero_le _, Nat.zero_le _⟩ ?_
  rcases h9 : mM_find cl (mn G) G with _ | j
  · refine fk_istore_n hC dX6_stuckTo_5 rfl (by decide) rfl ?_
    refine fk_iload_n hC dX6_stuckTo_6 rfl rfl ?_
    refine fk_if_lt (tgt := 54) hC dX6_stuckTo_7 (by decide) (fun c7 => ?_) (fun c7 => ?_)
    · refine fk_iconst (v := (-1)) hC dX6_stuckTo_54 (by decide) ?_
      exact fk_iret hC hr hk dX6_stuckTo_55 (by unfold mM_stuck; rw [h9]; rfl) rfl rfl
    · exact absurd (by decide) c7
  · have hj : j < mn G := by have := srch_lt _ _ _ h9; omega
    have hs9 := (hJ.2.2.2.2.2.1 j hj).2
    refine fk_istore_n hC dX6_stuckTo_5 rfl (by decide) rfl ?_
    refine fk_iload_n hC dX6_stuckTo_6 rfl rfl ?_
    refine fk_if_lt (tgt := 54) hC dX6_stuckTo_7 (by decide) (fun c7 => ?_) (fun c7 => ?_)
    · exact absurd c7 (nI_pos (by omega))
    · refine fk_aload_n hC dX6_stuckTo_10 rfl rfl ?_
      refine fk_getM_0 hC hm iX6 (by decide +kernel) dX6_stuckTo_11 ?_
      refine fk_iconst (v := 1) hC dX6_stuckTo_14 (by decide) ?_
      refine fk_ld_at hC (j := 1) hm rfl (by omega) dX6_stuckTo_15 ?_
      refine fk_aload_n hC dX6_stuckTo_16 rfl rfl ?_
      refine fk_getM_0 hC hm iX6 (by decide +kernel) dX6_stuckTo_17 ?_
      refine fk_sipush (v := 183) hC dX6_stuckTo_20 (by decide) ?_
      refine fk_iload_n hC dX6_stuckTo_23 rfl rfl ?_
      refine fk_iadd hC dX6_stuckTo_24 ?_
      refine fk_ld_at hC (j := 183 + j) hm (nI_add 183 j) (by omega) dX6_stuckTo_25 ?_
      refine fk_isub hC dX6_stuckTo_26 ?_
      refine fk_aload_n hC dX6_stuckTo_27 rfl rfl ?_
      refine fk_getM_0 hC hm iX6 (by decide +kernel) dX6_stuckTo_28 ?_
      refine fk_bipush (v := 6) hC dX6_stuckTo_31 (by decide) ?_
      refine fk_ld_at hC (j := 6) hm rfl (by omega) dX6_stuckTo_33 ?_
      refine fk_icmp_ge (tgt := 54) hC dX6_stuckTo_34 (by decide) (fun c34 => ?_) (fun c34 => ?_)
      · refine fk_iconst (v := (-1)) hC dX6_stuckTo_54 (by decide) ?_
        exact fk_iret hC hr hk dX6_stuckTo_55 (by unfold mM_stuck; rw [h9]; dsimp only; rw [if_pos c34]; rfl) rfl rfl
      · refine fk_aload_n hC dX6_stuckTo_37 rfl rfl ?_
        refine fk_aload_n hC dX6_stuckTo_38 rfl rfl ?_
        refine fk_getM_0 hC hm iX6 (by decide +kernel) dX6_stuckTo_39 ?_
        refine fk_sipush (v := 223) hC dX6_stuckTo_42 (by decide) ?_
        refine fk_iload_n hC dX6_stuckTo_45 rfl rfl ?_
        refine fk_iadd hC dX6_stuckTo_46 ?_
        refine fk_ld_at hC (j := 223 + j) hm (nI_add 223 j) (by omega) dX6_stuckTo_47 ?_
        refine fk_topi (hJ.2.2.2.2.2.1 j hj).1 ?_
        refine fk_callV hC hN (kX6_mayTake l D K NL ad _ x hm (msv j G) (by omega)) hm.1 (f_E310 _ _ _ _ _) rfl (cwV 1 hC.1.2.2.2.2 gX6_stuckTo_X6_mayTake rfl rfl rfl (by decide +kernel) ⟨Nat.le_of_ble_eq_true rfl, Nat.le_of_ble_eq_true rfl⟩) rfl rfl (Nat.le_of_ble_eq_true rfl) dX6_stuckTo_48 ⟨Nat.zero_le _, Nat.zero_le _⟩ ?_
        refine fk_if_ne (tgt := 56) hC dX6_stuckTo_51 (by decide) (fun c51 => ?_) (fun c51 => ?_)
        · refine fk_aload_n hC dX6_stuckTo_56 rfl rfl ?_
          refine fk_getM_0 hC hm iX6 (by decide +kernel) dX6_stuckTo_57 ?_
          refine fk_sipush (v := 223) hC dX6_stuckTo_60 (by decide) ?_
          refine fk_iload_n hC dX6_stuckTo_63 rfl rfl ?_
          refine fk_iadd hC dX6_stuckTo_64 ?_
          refine fk_ld_at hC (j := 223 + j) hm (nI_add 223 j) (by omega) dX6_stuckTo_65 ?_
          refine fk_topi (hJ.2.2.2.2.2.1 j hj).1 ?_
          exact fk_iret hC hr hk dX6_stuckTo_66 (by unfold mM_stuck; rw [h9]; dsimp only; rw [if_neg c34, if_neg c51]; rfl) rfl rfl
        · refine fk_iconst (v := (-1)) hC dX6_stuckTo_54 (by decide) ?_
          exact fk_iret hC hr hk dX6_stuckTo_55 (by unfold mM_stuck; rw [h9]; dsimp only; rw [if_neg c34, if_pos c51]; rfl) rfl rfl

set_option maxHeartbeats 4000000 in
set_option maxRecDepth 100000 in
theorem kX6_goesFirst (l : Launch) (D : va_G) (K : Nat → ClassId) (NL : List Nat) (ad : Nat → Nat) (G : fM) (x : fX) (hm : f_EM NL) (a b : Nat) (ha : a < 40) (hb : b < 40) : Kd l yX6_goesFirst wsX6_goesFirst { frames := 0, cells := 0, slots := 0, locals := 0 } vwCl D K NL ad [.ref (ad 310), .int (nI a), .int (nI b)] G x (some (.int (mM_bef G a b))) G x := by
  refine Kd.of (cc := cX6_goesFirst) (maxL := 4) (ret := (some .boolean)) (L := [some (.ref (ad 310)), some (.int (nI a)), some (.int (nI b)), none]) (by decide +kernel) rfl rfl (Nat.le_of_ble_eq_true rfl) ?_
  intro p e s m args below meth c hC hN hr hk hnme
  have iX6 : ∀ w ∈ wsX60, w ∈ wsX6_goesFirst := by decide +kernel
  refine fk_aload_n hC dX6_goesFirst_0 rfl rfl ?_
  refine fk_getM_0 hC hm iX6 (by decide +kernel) dX6_goesFirst_1 ?_
  refine fk_sipush (v := 183) hC dX6_goesFirst_4 (by decide) ?_
  refine fk_iload_n hC dX6_goesFirst_7 rfl rfl ?_
  refine fk_iadd hC dX6_goesFirst_8 ?_
  refine fk_ld_at hC (j := 183 + a) hm (nI_add 183 a) (by omega) dX6_goesFirst_9 ?_
  refine fk_aload_n hC dX6_goesFirst_10 rfl rfl ?_
  refine fk_getM_0 hC hm iX6 (by decide +kernel) dX6_goesFirst_11 ?_
  refine fk_sipush (v := 183) hC dX6_goesFirst_14 (by decide) ?_
  refine fk_iload_n hC dX6_goesFirst_17 rfl rfl ?_
  refine fk_iadd hC dX6_goesFirst_18 ?_
  refine fk_ld_at hC (j := 183 + b) hm (nI_add 183 b) (by omega) dX6_goesFirst_19 ?_
  refine fk_isub hC dX6_goesFirst_20 ?_
  refine fk_istore_n hC dX6_goesFirst_21 rfl (by decide) rfl ?_
  refine fk_iload_n hC dX6_goesFirst_22 rfl rfl ?_
  refine fk_if_lt (tgt := 53) hC dX6_goesFirst_23 (by decide) (fun c23 => ?_) (fun c23 => ?_)
  · refine fk_iconst (v := 1) hC dX6_goesFirst_53 (by decide) ?_
    refine fk_goto (tgt := 58) hC dX6_goesFirst_54 (by decide) ?_
    exact fk_zret hC hr hk dX6_goesFirst_58 rfl (by unfold mM_bef; rw [if_pos c23]) rfl rfl
  · refine fk_iload_n hC dX6_goesFirst_26 rfl rfl ?_
    refine fk_if_ne (tgt := 57) hC dX6_goesFirst_27 (by decide) (fun c27 => ?_) (fun c27 => ?_)
    · refine fk_iconst (v := 0) hC dX6_goesFirst_57 (by decide) ?_
      exact fk_zret hC hr hk dX6_goesFirst_58 rfl (by unfold mM_bef; rw [if_neg c23, if_neg c27]) rfl rfl
    · refine fk_aload_n hC dX6_goesFirst_30 rfl rfl ?_
      refine fk_getM_0 hC hm iX6 (by decide +kernel) dX6_goesFirst_31 ?_
      refine fk_sipush (v := 143) hC dX6_goesFirst_34 (by decide) ?_
      refine fk_iload_n hC dX6_goesFirst_37 rfl rfl ?_
      refine fk_iadd hC dX6_goesFirst_38 ?_
      refine fk_ld_at hC (j := 143 + a) hm (nI_add 143 a) (by omega) dX6_goesFirst_39 ?_
      refine fk_aload_n hC dX6_goesFirst_40 rfl rfl ?_
      refine fk_getM_0 hC hm iX6 (by decide +kernel) dX6_goesFirst_41 ?_
      refine fk_sipush (v := 143) hC dX6_goesFirst_44 (by decide) ?_
      refine fk_iload_n hC dX6_goesFirst_47 rfl rfl ?_
      refine fk_iadd hC dX6_goesFirst_48 ?_
      refine fk_ld_at hC (j := 143 + b) hm (nI_add 143 b) (by omega) dX6_goesFirst_49 ?_
      refine fk_icmp_ge (tgt := 57) hC dX6_goesFirst_50 (by decide) (fun c50 => ?_) (fun c50 => ?_)
      · refine fk_iconst (v := 0) hC dX6_goesFirst_57 (by decide) ?_
        exact fk_zret hC hr hk dX6_goesFirst_58 rfl (by unfold mM_bef; rw [if_neg c23, if_pos c27, if_pos c50]) rfl rfl
      · refine fk_iconst (v := 1) hC dX6_goesFirst_53 (by decide) ?_
        refine fk_goto (tgt := 58) hC dX6_goesFirst_54 (by decide) ?_
        exact fk_zret hC hr hk dX6_goesFirst_58 rfl (by unfold mM_bef; rw [if_neg c23, if_pos c27, if_neg c50]) rfl rfl

set_option maxHeartbeats 4000000 in
set_option maxRecDepth 100000 in
theorem kX6_remember (l : Launch) (D : va_G) (K : Nat → ClassId) (NL : List Nat) (ad : Nat → Nat) (G : fM) (x : fX) (hm : f_EM NL) (n : Nat) (hsz : G (iM 12) = nI n) (hn : n ≤ 40) (cl sv : Int32) : Kd l yX6_remember wsX6_remember { frames := 1, cells := 0, slots := 0, locals := 23 } vwCl D K NL ad [.ref (ad 310), .int cl, .int sv] G x none (mM_rem cl sv n G) x := by
  refine Kd.of (cc := cX6_remember) (maxL := 5) (ret := none) (L := [some (.ref (ad 310)), some (.int cl), some (.int sv), none, none]) (by decide +kernel) rfl rfl (Nat.le_of_ble_eq_true rfl) ?_
  intro p e s m args below meth c hC hN hr hk hnme
  have iX6 : ∀ w ∈ wsX60, w ∈ wsX6_remember := by decide +kernel
  refine fk_aload_n hC dX6_remember_0 rfl rfl ?_
  refine fk_iload_n hC dX6_remember_1 rfl rfl ?_
  refine fk_callV hC hN (kX6_placeOfClient l D K NL ad _ x hm n hsz hn _) hm.1 (f_E310 _ _ _ _ _) rfl (cwV 1 hC.1.2.2.2.2 gX6_remember_X6_placeOfClient rfl rfl rfl (by decide +kernel) ⟨Nat.le_of_ble_eq_true rfl, Nat.le_of_ble_eq_true rfl⟩) rfl rfl (Nat.le_of_ble_eq_true rfl) dX6_remember_2 ⟨Nat.zero_le _, Nat.zero_le _⟩ ?_
  rcases h9 : mM_find cl n G with _ | j
  · refine fk_istore_n hC dX6_remember_5 rfl (by decide) rfl ?_
    refine fk_iload_n hC dX6_remember_6 rfl rfl ?_
    refine fk_if_ge (tgt := 44) hC dX6_remember_7 (by decide) (fun c7 => ?_) (fun c7 => ?_)
    · exact absurd c7 (by decide)
    · refine fk_aload_n hC dX6_remember_10 rfl rfl ?_
      refine fk_getM_0 hC hm iX6 (by decide +kernel) dX6_remember_11 ?_
      refine fk_bipush (v := 12) hC dX6_remember_14 (by decide) ?_
      refine fk_ld_at hC (j := 12) hm rfl (by omega) dX6_remember_16 ?_
      refine fk_topi hsz ?_
      refine fk_bipush (v := 40) hC dX6_remember_17 (by decide) ?_
      refine fk_icmp_ge (tgt := 44) hC dX6_remember_19 (by decide) (fun c19 => ?_) (fun c19 => ?_)
      · have q19 : ¬ n < 40 := by have := f_le (a := 40) (by decide) (by omega) c19; omega
        refine fk_iload_n hC dX6_remember_44 rfl rfl ?_
        refine fk_if_ge (tgt := 83) hC dX6_remember_45 (by decide) (fun c45 => ?_) (fun c45 => ?_)
        · exact absurd c45 (by decide)
        · refine fk_iconst (v := 0) hC dX6_remember_48 (by decide) ?_
          refine fk_istore_n hC dX6_remember_49 rfl (by decide) rfl ?_
          have lp : ∀ (d : Nat) (k b : Nat), 40 - k = d → k ≤ 40 → b < k → fold9 (mM_oldF G) 39 1 0 = fold9 (mM_oldF G) (40 - k) k b → Wk p l e { frames := 1, cells := 0, slots := 0, locals := 23 } s m args below meth c vwCl D K NL ad (f_A NL ad s.heap.size) s.heap 5 0 0 (MQ below (f_Post vwCl D K NL ad (mM_rem cl sv n G) x none s.heap.size) args s 0 0 (f_A NL ad s.heap.size)) G x 53 [some (.ref (ad 310)), some (.int cl), some (.int sv), some (.int (nI b)), some (.int (nI k))] [] := by
            intro d
            induction d using Nat.strongRecOn with
            | _ d ih =>
              intro k b hd hkn hb hs
              refine fk_iload hC dX6_remember_53 rfl ?_
              refine fk_bipush (v := 40) hC dX6_remember_55 (by decide) ?_
              refine fk_icmp_ge (tgt := 83) hC dX6_remember_57 (by decide) (fun c57 => ?_) (fun c57 => ?_)
              · have q57 := f_le (a := 40) (by decide) (by omega) c57
                have ho : mM_old G = b := by unfold mM_old; rw [hs, show 40 - k = 0 by omega]; rfl
                have hb4 : b < 40 := by rw [← ho]; exact mM_old_lt
                refine fk_aload_n hC dX6_remember_83 rfl rfl ?_
                refine fk_getM_0 hC hm iX6 (by decide +kernel) dX6_remember_84 ?_
                refine fk_sipush (v := 143) hC dX6_remember_87 (by decide) ?_
                refine fk_iload_n hC dX6_remember_90 rfl rfl ?_
                refine fk_iadd hC dX6_remember_91 ?_
                refine fk_iload_n hC dX6_remember_92 rfl rfl ?_
                refine fk_st_at hC (j := 143 + b) hm (nI_add 143 b) (by omega) dX6_remember_93 ?_
                refine fk_aload_n hC dX6_remember_94 rfl rfl ?_
                refine fk_getM_0 hC hm iX6 (by decide +kernel) dX6_remember_95 ?_
                refine fk_sipush (v := 183) hC dX6_remember_98 (by decide) ?_
                refine fk_iload_n hC dX6_remember_101 rfl rfl ?_
                refine fk_iadd hC dX6_remember_102 ?_
                refine fk_aload_n hC dX6_remember_103 rfl rfl ?_
                refine fk_getM_0 hC hm iX6 (by decide +kernel) dX6_remember_104 ?_
                refine fk_iconst (v := 1) hC dX6_remember_107 (by decide) ?_
                refine fk_ld_at hC (j := 1) hm rfl (by omega) dX6_remember_108 ?_
                refine fk_st_at hC (j := 183 + b) hm (nI_add 183 b) (by omega) dX6_remember_109 ?_
                refine fk_aload_n hC dX6_remember_110 rfl rfl ?_
                refine fk_getM_0 hC hm iX6 (by decide +kernel) dX6_remember_111 ?_
                refine fk_sipush (v := 223) hC dX6_remember_114 (by decide) ?_
                refine fk_iload_n hC dX6_remember_117 rfl rfl ?_
                refine fk_iadd hC dX6_remember_118 ?_
                refine fk_iload_n hC dX6_remember_119 rfl rfl ?_
                refine fk_st_at hC (j := 223 + b) hm (nI_add 223 b) (by omega) dX6_remember_120 ?_
                exact fk_vret hC hr hk dX6_remember_121 rfl (by unfold mM_rem mM_remG mM_remP; rw [h9]; dsimp only; rw [if_neg q19, if_neg q19, ho]) rfl
              · have q57 := f_nle (a := 40) (by decide) (by omega) c57
                refine fk_aload_n hC dX6_remember_60 rfl rfl ?_
                refine fk_iload hC dX6_remember_61 rfl ?_
                refine fk_iload_n hC dX6_remember_63 rfl rfl ?_
                refine fk_callV hC hN (kX6_goesFirst l D K NL ad _ x hm k b (by omega) (by omega)) hm.1 (f_E310 _ _ _ _ _) rfl (cwV 2 hC.1.2.2.2.2 gX6_remember_X6_goesFirst rfl rfl rfl (by decide +kernel) ⟨Nat.le_of_ble_eq_true rfl, Nat.le_of_ble_eq_true rfl⟩) rfl rfl (Nat.le_of_ble_eq_true rfl) dX6_remember_64 ⟨Nat.zero_le _, Nat.zero_le _⟩ ?_
                refine fk_if_eq (tgt := 75) hC dX6_remember_67 (by decide) (fun c67 => ?_) (fun c67 => ?_)
                · refine fk_iload_n hC dX6_remember_75 rfl rfl ?_
                  refine fk_istore_n hC dX6_remember_76 rfl (by decide) rfl ?_
                  refine fk_iinc hC dX6_remember_77 rfl (f_inc k) (by decide) rfl ?_
                  refine fk_goto (tgt := 53) hC dX6_remember_80 (by decide) ?_
                  exact ih (40 - (k + 1)) (by omega) (k + 1) b rfl (by omega) (by omega) (hs.trans ((fold9_step q57).trans (by rw [mM_oldF, if_pos c67])))
                · refine fk_iload hC dX6_remember_70 rfl ?_
                  refine fk_goto (tgt := 76) hC dX6_remember_72 (by decide) ?_
                  refine fk_istore_n hC dX6_remember_76 rfl (by decide) rfl ?_
                  refine fk_iinc hC dX6_remember_77 rfl (f_inc k) (by decide) rfl ?_
                  refine fk_goto (tgt := 53) hC dX6_remember_80 (by decide) ?_
                  exact ih (40 - (k + 1)) (by omega) (k + 1) k rfl (by omega) (by omega) (hs.trans ((fold9_step q57).trans (by rw [mM_oldF, if_neg c67])))
          refine fk_iconst (v := 1) hC dX6_remember_50 (by decide) ?_
          refine fk_istore hC dX6_remember_51 (by decide) rfl ?_
          exact lp 39 1 0 rfl (by decide) (by decide) rfl
      · have q19 : n < 40 := f_nle (a := 40) (by decide) (by omega) c19
        refine fk_aload_n hC dX6_remember_22 rfl rfl ?_
        refine fk_getM_0 hC hm iX6 (by decide +kernel) dX6_remember_23 ?_
        refine fk_bipush (v := 12) hC dX6_remember_26 (by decide) ?_
        refine fk_ld_at hC (j := 12) hm rfl (by omega) dX6_remember_28 ?_
        refine fk_topi hsz ?_
        refine fk_istore_n hC dX6_remember_29 rfl (by decide) rfl ?_
        refine fk_aload_n hC dX6_remember_30 rfl rfl ?_
        refine fk_getM_0 hC hm iX6 (by decide +kernel) dX6_remember_31 ?_
        refine fk_bipush (v := 12) hC dX6_remember_34 (by decide) ?_
        refine fk_dup2 hC dX6_remember_36 rfl rfl ?_
        refine fk_ld_at hC (j := 12) hm rfl (by omega) dX6_remember_37 ?_
        refine fk_topi hsz ?_
        refine fk_iconst (v := 1) hC dX6_remember_38 (by decide) ?_
        refine fk_iadd hC dX6_remember_39 ?_
        refine fk_topi (nI_1 n) ?_
        refine fk_st_at hC (j := 12) hm rfl (by omega) dX6_remember_40 ?_
        refine fk_goto (tgt := 83) hC dX6_remember_41 (by decide) ?_
        refine fk_aload_n hC dX6_remember_83 rfl rfl ?_
        refine fk_getM_0 hC hm iX6 (by decide +kernel) dX6_remember_84 ?_
        refine fk_sipush (v := 143) hC dX6_remember_87 (by decide) ?_
        refine fk_iload_n hC dX6_remember_90 rfl rfl ?_
        refine fk_iadd hC dX6_remember_91 ?_
        refine fk_iload_n hC dX6_remember_92 rfl rfl ?_
        refine fk_st_at hC (j := 143 + n) hm (nI_add 143 n) (by omega) dX6_remember_93 ?_
        refine fk_aload_n hC dX6_remember_94 rfl rfl ?_
        refine fk_getM_0 hC hm iX6 (by decide +kernel) dX6_remember_95 ?_
        refine fk_sipush (v := 183) hC dX6_remember_98 (by decide) ?_
        refine fk_iload_n hC dX6_remember_101 rfl rfl ?_
        refine fk_iadd hC dX6_remember_102 ?_
        refine fk_aload_n hC dX6_remember_103 rfl rfl ?_
        refine fk_getM_0 hC hm iX6 (by decide +kernel) dX6_remember_104 ?_
        refine fk_iconst (v := 1) hC dX6_remember_107 (by decide) ?_
        refine fk_ld_at hC (j := 1) hm rfl (by omega) dX6_remember_108 ?_
        refine fk_st_at hC (j := 183 + n) hm (nI_add 183 n) (by omega) dX6_remember_109 ?_
        refine fk_aload_n hC dX6_remember_110 rfl rfl ?_
        refine fk_getM_0 hC hm iX6 (by decide +kernel) dX6_remember_111 ?_
        refine fk_sipush (v := 223) hC dX6_remember_114 (by decide) ?_
        refine fk_iload_n hC dX6_remember_117 rfl rfl ?_
        refine fk_iadd hC dX6_remember_118 ?_
        refine fk_iload_n hC dX6_remember_119 rfl rfl ?_
        refine fk_st_at hC (j := 223 + n) hm (nI_add 223 n) (by omega) dX6_remember_120 ?_
        exact fk_vret hC hr hk dX6_remember_121 rfl (by unfold mM_rem mM_remG mM_remP; rw [h9]; dsimp only; rw [if_pos q19, if_pos q19]) rfl
  · have hj : j < 40 := by have := srch_lt _ _ _ h9; omega
    refine fk_istore_n hC dX6_remember_5 rfl (by decide) rfl ?_
    refine fk_iload_n hC dX6_remember_6 rfl rfl ?_
    refine fk_if_ge (tgt := 44) hC dX6_remember_7 (by decide) (fun c7 => ?_) (fun c7 => ?_)
    · refine fk_iload_n hC dX6_remember_44 rfl rfl ?_
      refine fk_if_ge (tgt := 83) hC dX6_remember_45 (by decide) (fun c45 => ?_) (fun c45 => ?_)
      · refine fk_aload_n hC dX6_remember_83 rfl rfl ?_
        refine fk_getM_0 hC hm iX6 (by decide +kernel) dX6_remember_84 ?_
        refine fk_sipush (v := 143) hC dX6_remember_87 (by decide) ?_
        refine fk_iload_n hC dX6_remember_90 rfl rfl ?_
        refine fk_iadd hC dX6_remember_91 ?_
        refine fk_iload_n hC dX6_remember_92 rfl rfl ?_
        refine fk_st_at hC (j := 143 + j) hm (nI_add 143 j) (by omega) dX6_remember_93 ?_
        refine fk_aload_n hC dX6_remember_94 rfl rfl ?_
        refine fk_getM_0 hC hm iX6 (by decide +kernel) dX6_remember_95 ?_
        refine fk_sipush (v := 183) hC dX6_remember_98 (by decide) ?_
        refine fk_iload_n hC dX6_remember_101 rfl rfl ?_
        refine fk_iadd hC dX6_remember_102 ?_
        refine fk_aload_n hC dX6_remember_103 rfl rfl ?_
        refine fk_getM_0 hC hm iX6 (by decide +kernel) dX6_remember_104 ?_
        refine fk_iconst (v := 1) hC dX6_remember_107 (by decide) ?_
        refine fk_ld_at hC (j := 1) hm rfl (by omega) dX6_remember_108 ?_
        refine fk_st_at hC (j := 183 + j) hm (nI_add 183 j) (by omega) dX6_remember_109 ?_
        refine fk_aload_n hC dX6_remember_110 rfl rfl ?_
        refine fk_getM_0 hC hm iX6 (by decide +kernel) dX6_remember_111 ?_
        refine fk_sipush (v := 223) hC dX6_remember_114 (by decide) ?_
        refine fk_iload_n hC dX6_remember_117 rfl rfl ?_
        refine fk_iadd hC dX6_remember_118 ?_
        refine fk_iload_n hC dX6_remember_119 rfl rfl ?_
        refine fk_st_at hC (j := 223 + j) hm (nI_add 223 j) (by omega) dX6_remember_120 ?_
        exact fk_vret hC hr hk dX6_remember_121 rfl (by unfold mM_rem mM_remG mM_remP; rw [h9]) rfl
      · exact absurd (nI_pos' (by omega)) c45
    · exact absurd (nI_pos' (by omega)) c7

def mM_trip (i : Nat) (G : fM) : fM := upd (upd (upd G (iM (83 + i)) 1) (iM (93 + i)) (upd G (iM (83 + i)) 1 (iM 1))) (iM (103 + i)) (-1)
def onF (b : Int32) (k : Nat) (a : Int32) : Int32 := a + (b >>> (nI k &&& 31) &&& 1)
def ones9 (b : Int32) : Int32 := fold9 (onF b) 8 0 0
def mM_ad1 (i : Nat) (gd : Int32) (G : fM) : fM := upd G (iM (123 + i)) ((G (iM (123 + i)) <<< ((1 : Int32) &&& 31) ||| (if gd = 0 then 1 else 0)) &&& 255)
def mM_ad2 (i : Nat) (G : fM) : fM := upd G (iM (133 + i)) (G (iM (133 + i)) + (if 8 ≤ G (iM (133 + i)) then 0 else 1))
def mM_ad3 (i : Nat) (G : fM) : fM := if G (iM (133 + i)) < 4 then G else if 2 * ones9 (G (iM (123 + i))) < G (iM (133 + i)) then G else mM_trip i G
def mM_ad (i : Nat) (gd : Int32) (G : fM) : fM := mM_ad3 i (mM_ad2 i (mM_ad1 i gd G))
set_option maxHeartbeats 4000000 in
set_option maxRecDepth 100000 in
theorem kX6_trip (l : Launch) (D : va_G) (K : Nat → ClassId) (NL : List Nat) (ad : Nat → Nat) (G : fM) (x : fX) (hm : f_EM NL) (i : Nat) (hi : i < 10) : Kd l yX6_trip wsX6_trip { frames := 0, cells := 0, slots := 0, locals := 0 } vwCl D K NL ad [.ref (ad 310), .int (nI i)] G x none (mM_trip i G) x := by
  refine Kd.of (cc := cX6_trip) (maxL := 2) (ret := none) (L := [some (.ref (ad 310)), some (.int (nI i))]) (by decide +kernel) rfl rfl (Nat.le_of_ble_eq_true rfl) ?_
  intro p e s m args below meth c hC hN hr hk hnme
  have iX6 : ∀ w ∈ wsX60, w ∈ wsX6_trip := by decide +kernel
  refine fk_aload_n hC dX6_trip_0 rfl rfl ?_
  refine fk_getM_0 hC hm iX6 (by decide +kernel) dX6_trip_1 ?_
  refine fk_bipush (v := 83) hC dX6_trip_4 (by decide) ?_
  refine fk_iload_n hC dX6_trip_6 rfl rfl ?_
  refine fk_iadd hC dX6_trip_7 ?_
  refine fk_iconst (v := 1) hC dX6_trip_8 (by decide) ?_
  refine fk_st_at hC (j := 83 + i) hm (nI_add 83 i) (by omega) dX6_trip_9 ?_
  refine fk_aload_n hC dX6_trip_10 rfl rfl ?_
  refine fk_getM_0 hC hm iX6 (by decide +kernel) dX6_trip_11 ?_
  refine fk_bipush (v := 93) hC dX6_trip_14 (by decide) ?_
  refine fk_iload_n hC dX6_trip_16 rfl rfl ?_
  refine fk_iadd hC dX6_trip_17 ?_
  refine fk_aload_n hC dX6_trip_18 rfl rfl ?_
  refine fk_getM_0 hC hm iX6 (by decide +kernel) dX6_trip_19 ?_
  refine fk_iconst (v := 1) hC dX6_trip_22 (by decide) ?_
  refine fk_ld_at hC (j := 1) hm rfl (by omega) dX6_trip_23 ?_
  refine fk_st_at hC (j := 93 + i) hm (nI_add 93 i) (by omega) dX6_trip_24 ?_
  refine fk_aload_n hC dX6_trip_25 rfl rfl ?_
  refine fk_getM_0 hC hm iX6 (by decide +kernel) dX6_trip_26 ?_
  refine fk_bipush (v := 103) hC dX6_trip_29 (by decide) ?_
  refine fk_iload_n hC dX6_trip_31 rfl rfl ?_
  refine fk_iadd hC dX6_trip_32 ?_
  refine fk_iconst (v := (-1)) hC dX6_trip_33 (by decide) ?_
  refine fk_st_at hC (j := 103 + i) hm (nI_add 103 i) (by omega) dX6_trip_34 ?_
  exact fk_vret hC hr hk dX6_trip_35 rfl rfl rfl

set_option maxHeartbeats 4000000 in
set_option maxRecDepth 100000 in
theorem kX6_ones (l : Launch) (D : va_G) (K : Nat → ClassId) (NL : List Nat) (ad : Nat → Nat) (G : fM) (x : fX) (b : Int32) : Kd l yX6_ones wsX6_ones { frames := 0, cells := 0, slots := 0, locals := 0 } vwCl D K NL ad [.int b] G x (some (.int (ones9 b))) G x := by
  refine Kd.of (cc := cX6_ones) (maxL := 3) (ret := (some .int)) (L := [some (.int b), none, none]) (by decide +kernel) rfl rfl (Nat.le_of_ble_eq_true rfl) ?_
  intro p e s m args below meth c hC hN hr hk hnme
  have lp : ∀ (d : Nat) (k : Nat) (a : Int32), 8 - k = d → k ≤ 8 → fold9 (onF b) 8 0 0 = fold9 (onF b) (8 - k) k a → Wk p l e { frames := 0, cells := 0, slots := 0, locals := 0 } s m args below meth c vwCl D K NL ad (f_A NL ad s.heap.size) s.heap 3 0 0 (MQ below (f_Post vwCl D K NL ad G x (some (.int (ones9 b))) s.heap.size) args s 0 0 (f_A NL ad s.heap.size)) G x 4 [some (.int b), some (.int a), some (.int (nI k))] [] := by
    intro d
    induction d using Nat.strongRecOn with
    | _ d ih =>
      intro k a hd hkn hs
      refine fk_iload_n hC dX6_ones_4 rfl rfl ?_
      refine fk_bipush (v := 8) hC dX6_ones_5 (by decide) ?_
      refine fk_icmp_ge (tgt := 24) hC dX6_ones_7 (by decide) (fun c7 => ?_) (fun c7 => ?_)
      · have q7 := f_le (a := 8) (by decide) (by omega) c7
        refine fk_iload_n hC dX6_ones_24 rfl rfl ?_
        exact fk_iret hC hr hk dX6_ones_25 (by unfold ones9; rw [hs, fold9_end q7]) rfl rfl
      · have q7 := f_nle (a := 8) (by decide) (by omega) c7
        refine fk_iload_n hC dX6_ones_10 rfl rfl ?_
        refine fk_iload_n hC dX6_ones_11 rfl rfl ?_
        refine fk_iload_n hC dX6_ones_12 rfl rfl ?_
        refine fk_ishr hC dX6_ones_13 ?_
        refine fk_iconst (v := 1) hC dX6_ones_14 (by decide) ?_
        refine fk_iand hC dX6_ones_15 ?_
        refine fk_iadd hC dX6_ones_16 ?_
        refine fk_istore_n hC dX6_ones_17 rfl (by decide) rfl ?_
        refine fk_iinc hC dX6_ones_18 rfl (f_inc k) (by decide) rfl ?_
        refine fk_goto (tgt := 4) hC dX6_ones_21 (by decide) ?_
        exact ih (8 - (k + 1)) (by omega) (k + 1) _ rfl (by omega) (hs.trans (fold9_step q7))
  refine fk_iconst (v := 0) hC dX6_ones_0 (by decide) ?_
  refine fk_istore_n hC dX6_ones_1 rfl (by decide) rfl ?_
  refine fk_iconst (v := 0) hC dX6_ones_2 (by decide) ?_
  refine fk_istore_n hC dX6_ones_3 rfl (by decide) rfl ?_
  exact lp 8 0 0 rfl (by decide) rfl

set_option maxHeartbeats 4000000 in
set_option maxRecDepth 100000 in
theorem kX6_addResult (l : Launch) (D : va_G) (K : Nat → ClassId) (NL : List Nat) (ad : Nat → Nat) (G : fM) (x : fX) (hm : f_EM NL) (i : Nat) (hi : i < 10) (gd : Int32) : Kd l yX6_addResult wsX6_addResult { frames := 1, cells := 0, slots := 0, locals := 22 } vwCl D K NL ad [.ref (ad 310), .int (nI i), .int gd] G x none (mM_ad i gd G) x := by
  refine Kd.of (cc := cX6_addResult) (maxL := 4) (ret := none) (L := [some (.ref (ad 310)), some (.int (nI i)), some (.int gd), none]) (by decide +kernel) rfl rfl (Nat.le_of_ble_eq_true rfl) ?_
  intro p e s m args below meth c hC hN hr hk hnme
  have iX6 : ∀ w ∈ wsX60, w ∈ wsX6_addResult := by decide +kernel
  refine fk_aload_n hC dX6_addResult_0 rfl rfl ?_
  refine fk_getM_0 hC hm iX6 (by decide +kernel) dX6_addResult_1 ?_
  refine fk_bipush (v := 123) hC dX6_addResult_4 (by decide) ?_
  refine fk_iload_n hC dX6_addResult_6 rfl rfl ?_
  refine fk_iadd hC dX6_addResult_7 ?_
  refine fk_aload_n hC dX6_addResult_8 rfl rfl ?_
  refine fk_getM_0 hC hm iX6 (by decide +kernel) dX6_addResult_9 ?_
  refine fk_bipush (v := 123) hC dX6_addResult_12 (by decide) ?_
  refine fk_iload_n hC dX6_addResult_14 rfl rfl ?_
  refine fk_iadd hC dX6_addResult_15 ?_
  refine fk_ld_at hC (j := 123 + i) hm (nI_add 123 i) (by omega) dX6_addResult_16 ?_
  refine fk_iconst (v := 1) hC dX6_addResult_17 (by decide) ?_
  refine fk_ishl hC dX6_addResult_18 ?_
  refine fk_iload_n hC dX6_addResult_19 rfl rfl ?_
  refine fk_if_eq (tgt := 27) hC dX6_addResult_20 (by decide) (fun c20 => ?_) (fun c20 => ?_)
  · refine fk_iconst (v := 1) hC dX6_addResult_27 (by decide) ?_
    refine fk_ior hC dX6_addResult_28 ?_
    refine fk_sipush (v := 255) hC dX6_addResult_29 (by decide) ?_
    refine fk_iand hC dX6_addResult_32 ?_
    refine fk_st_at hC (j := 123 + i) hm (nI_add 123 i) (by omega) dX6_addResult_33 ?_
    refine fk_aload_n hC dX6_addResult_34 rfl rfl ?_
    refine fk_getM_0 hC hm iX6 (by decide +kernel) dX6_addResult_35 ?_
    refine fk_sipush (v := 133) hC dX6_addResult_38 (by decide) ?_
    refine fk_iload_n hC dX6_addResult_41 rfl rfl ?_
    refine fk_iadd hC dX6_addResult_42 ?_
    refine fk_dup2 hC dX6_addResult_43 rfl rfl ?_
    refine fk_ld_at hC (j := 133 + i) hm (nI_add 133 i) (by omega) dX6_addResult_44 ?_
    refine fk_aload_n hC dX6_addResult_45 rfl rfl ?_
    refine fk_getM_0 hC hm iX6 (by decide +kernel) dX6_addResult_46 ?_
    refine fk_sipush (v := 133) hC dX6_addResult_49 (by decide) ?_
    refine fk_iload_n hC dX6_addResult_52 rfl rfl ?_
    refine fk_iadd hC dX6_addResult_53 ?_
    refine fk_ld_at hC (j := 133 + i) hm (nI_add 133 i) (by omega) dX6_addResult_54 ?_
    refine fk_bipush (v := 8) hC dX6_addResult_55 (by decide) ?_
    refine fk_icmp_ge (tgt := 64) hC dX6_addResult_57 (by decide) (fun c57 => ?_) (fun c57 => ?_)
    · refine fk_iconst (v := 0) hC dX6_addResult_64 (by decide) ?_
      refine fk_iadd hC dX6_addResult_65 ?_
      refine fk_st_at hC (j := 133 + i) hm (nI_add 133 i) (by omega) dX6_addResult_66 ?_
      refine fk_aload_n hC dX6_addResult_67 rfl rfl ?_
      refine fk_getM_0 hC hm iX6 (by decide +kernel) dX6_addResult_68 ?_
      refine fk_sipush (v := 133) hC dX6_addResult_71 (by decide) ?_
      refine fk_iload_n hC dX6_addResult_74 rfl rfl ?_
      refine fk_iadd hC dX6_addResult_75 ?_
      refine fk_ld_at hC (j := 133 + i) hm (nI_add 133 i) (by omega) dX6_addResult_76 ?_
      refine fk_istore_n hC dX6_addResult_77 rfl (by decide) rfl ?_
      refine fk_iload_n hC dX6_addResult_78 rfl rfl ?_
      refine fk_iconst (v := 4) hC dX6_addResult_79 (by decide) ?_
      refine fk_icmp_lt (tgt := 106) hC dX6_addResult_80 (by decide) (fun c80 => ?_) (fun c80 => ?_)
      · exact fk_vret hC hr hk dX6_addResult_106 rfl (by unfold mM_ad mM_ad3 mM_ad2 mM_ad1; rw [if_pos c20, if_pos c57, if_pos c80]) rfl
      · refine fk_iconst (v := 2) hC dX6_addResult_83 (by decide) ?_
        refine fk_aload_n hC dX6_addResult_84 rfl rfl ?_
        refine fk_getM_0 hC hm iX6 (by decide +kernel) dX6_addResult_85 ?_
        refine fk_bipush (v := 123) hC dX6_addResult_88 (by decide) ?_
        refine fk_iload_n hC dX6_addResult_90 rfl rfl ?_
        refine fk_iadd hC dX6_addResult_91 ?_
        refine fk_ld_at hC (j := 123 + i) hm (nI_add 123 i) (by omega) dX6_addResult_92 ?_
        refine fk_callS hC hN (kX6_ones l D K NL ad _ x _) (va_cwS 1 hC.1.2.2.2.2 gX6_addResult_X6_ones rfl rfl rfl (by decide +kernel) ⟨Nat.le_of_ble_eq_true rfl, Nat.le_of_ble_eq_true rfl⟩) rfl rfl (Nat.le_of_ble_eq_true rfl) dX6_addResult_93 ⟨Nat.zero_le _, Nat.zero_le _⟩ ?_
        refine fk_imul hC dX6_addResult_96 ?_
        refine fk_iload_n hC dX6_addResult_97 rfl rfl ?_
        refine fk_icmp_lt (tgt := 106) hC dX6_addResult_98 (by decide) (fun c98 => ?_) (fun c98 => ?_)
        · exact fk_vret hC hr hk dX6_addResult_106 rfl (by unfold mM_ad mM_ad3 mM_ad2 mM_ad1; rw [if_pos c20, if_pos c57, if_neg c80, if_pos c98]) rfl
        · refine fk_aload_n hC dX6_addResult_101 rfl rfl ?_
          refine fk_iload_n hC dX6_addResult_102 rfl rfl ?_
          refine fk_callV hC hN (kX6_trip l D K NL ad _ x hm i hi) hm.1 (f_E310 _ _ _ _ _) rfl (cwV 1 hC.1.2.2.2.2 gX6_addResult_X6_trip rfl rfl rfl (by decide +kernel) ⟨Nat.le_of_ble_eq_true rfl, Nat.le_of_ble_eq_true rfl⟩) rfl rfl (Nat.le_of_ble_eq_true rfl) dX6_addResult_103 ⟨Nat.zero_le _, Nat.zero_le _⟩ ?_
          exact fk_vret hC hr hk dX6_addResult_106 rfl (by unfold mM_ad mM_ad3 mM_ad2 mM_ad1; rw [if_pos c20, if_pos c57, if_neg c80, if_neg c98]) rfl
    · refine fk_iconst (v := 1) hC dX6_addResult_60 (by decide) ?_
      refine fk_goto (tgt := 65) hC dX6_addResult_61 (by decide) ?_
      refine fk_iadd hC dX6_addResult_65 ?_
      refine fk_st_at hC (j := 133 + i) hm (nI_add 133 i) (by omega) dX6_addResult_66 ?_
      refine fk_aload_n hC dX6_addResult_67 rfl rfl ?_
      refine fk_getM_0 hC hm iX6 (by decide +kernel) dX6_addResult_68 ?_
      refine fk_sipush (v := 133) hC dX6_addResult_71 (by decide) ?_
      refine fk_iload_n hC dX6_addResult_74 rfl rfl ?_
      refine fk_iadd hC dX6_addResult_75 ?_
      refine fk_ld_at hC (j := 133 + i) hm (nI_add 133 i) (by omega) dX6_addResult_76 ?_
      refine fk_istore_n hC dX6_addResult_77 rfl (by decide) rfl ?_
      refine fk_iload_n hC dX6_addResult_78 rfl rfl ?_
      refine fk_iconst (v := 4) hC dX6_addResult_79 (by decide) ?_
      refine fk_icmp_lt (tgt := 106) hC dX6_addResult_80 (by decide) (fun c80 => ?_) (fun c80 => ?_)
      · exact fk_vret hC hr hk dX6_addResult_106 rfl (by unfold mM_ad mM_ad3 mM_ad2 mM_ad1; rw [if_pos c20, if_neg c57, if_pos c80]) rfl
      · refine fk_iconst (v := 2) hC dX6_addResult_83 (by decide) ?_
        refine fk_aload_n hC dX6_addResult_84 rfl rfl ?_
        refine fk_getM_0 hC hm iX6 (by decide +kernel) dX6_addResult_85 ?_
        refine fk_bipush (v := 123) hC dX6_addResult_88 (by decide) ?_
        refine fk_iload_n hC dX6_addResult_90 rfl rfl ?_
        refine fk_iadd hC dX6_addResult_91 ?_
        refine fk_ld_at hC (j := 123 + i) hm (nI_add 123 i) (by omega) dX6_addResult_92 ?_
        refine fk_callS hC hN (kX6_ones l D K NL ad _ x _) (va_cwS 1 hC.1.2.2.2.2 gX6_addResult_X6_ones rfl rfl rfl (by decide +kernel) ⟨Nat.le_of_ble_eq_true rfl, Nat.le_of_ble_eq_true rfl⟩) rfl rfl (Nat.le_of_ble_eq_true rfl) dX6_addResult_93 ⟨Nat.zero_le _, Nat.zero_le _⟩ ?_
        refine fk_imul hC dX6_addResult_96 ?_
        refine fk_iload_n hC dX6_addResult_97 rfl rfl ?_
        refine fk_icmp_lt (tgt := 106) hC dX6_addResult_98 (by decide) (fun c98 => ?_) (fun c98 => ?_)
        · exact fk_vret hC hr hk dX6_addResult_106 rfl (by unfold mM_ad mM_ad3 mM_ad2 mM_ad1; rw [if_pos c20, if_neg c57, if_neg c80, if_pos c98]) rfl
        · refine fk_aload_n hC dX6_addResult_101 rfl rfl ?_
          refine fk_iload_n hC dX6_addResult_102 rfl rfl ?_
          refine fk_callV hC hN (kX6_trip l D K NL ad _ x hm i hi) hm.1 (f_E310 _ _ _ _ _) rfl (cwV 1 hC.1.2.2.2.2 gX6_addResult_X6_trip rfl rfl rfl (by decide +kernel) ⟨Nat.le_of_ble_eq_true rfl, Nat.le_of_ble_eq_true rfl⟩) rfl rfl (Nat.le_of_ble_eq_true rfl) dX6_addResult_103 ⟨Nat.zero_le _, Nat.zero_le _⟩ ?_
          exact fk_vret hC hr hk dX6_addResult_106 rfl (by unfold mM_ad mM_ad3 mM_ad2 mM_ad1; rw [if_pos c20, if_neg c57, if_neg c80, if_neg c98]) rfl
  · refine fk_iconst (v := 0) hC dX6_addResult_23 (by decide) ?_
    refine fk_goto (tgt := 28) hC dX6_addResult_24 (by decide) ?_
    refine fk_ior hC dX6_addResult_28 ?_
    refine fk_sipush (v := 255) hC dX6_addResult_29 (by decide) ?_
    refine fk_iand hC dX6_addResult_32 ?_
    refine fk_st_at hC (j := 123 + i) hm (nI_add 123 i) (by omega) dX6_addResult_33 ?_
    refine fk_aload_n hC dX6_addResult_34 rfl rfl ?_
    refine fk_getM_0 hC hm iX6 (by decide +kernel) dX6_addResult_35 ?_
    refine fk_sipush (v := 133) hC dX6_addResult_38 (by decide) ?_
    refine fk_iload_n hC dX6_addResult_41 rfl rfl ?_
    refine fk_iadd hC dX6_addResult_42 ?_
    refine fk_dup2 hC dX6_addResult_43 rfl rfl ?_
    refine fk_ld_at hC (j := 133 + i) hm (nI_add 133 i) (by omega) dX6_addResult_44 ?_
    refine fk_aload_n hC dX6_addResult_45 rfl rfl ?_
    refine fk_getM_0 hC hm iX6 (by decide +kernel) dX6_addResult_46 ?_
    refine fk_sipush (v := 133) hC dX6_addResult_49 (by decide) ?_
    refine fk_iload_n hC dX6_addResult_52 rfl rfl ?_
    refine fk_iadd hC dX6_addResult_53 ?_
    refine fk_ld_at hC (j := 133 + i) hm (nI_add 133 i) (by omega) dX6_addResult_54 ?_
    refine fk_bipush (v := 8) hC dX6_addResult_55 (by decide) ?_
    refine fk_icmp_ge (tgt := 64) hC dX6_addResult_57 (by decide) (fun c57 => ?_) (fun c57 => ?_)
    · refine fk_iconst (v := 0) hC dX6_addResult_64 (by decide) ?_
      refine fk_iadd hC dX6_addResult_65 ?_
      refine fk_st_at hC (j := 133 + i) hm (nI_add 133 i) (by omega) dX6_addResult_66 ?_
      refine fk_aload_n hC dX6_addResult_67 rfl rfl ?_
      refine fk_getM_0 hC hm iX6 (by decide +kernel) dX6_addResult_68 ?_
      refine fk_sipush (v := 133) hC dX6_addResult_71 (by decide) ?_
      refine fk_iload_n hC dX6_addResult_74 rfl rfl ?_
      refine fk_iadd hC dX6_addResult_75 ?_
      refine fk_ld_at hC (j := 133 + i) hm (nI_add 133 i) (by omega) dX6_addResult_76 ?_
      refine fk_istore_n hC dX6_addResult_77 rfl (by decide) rfl ?_
      refine fk_iload_n hC dX6_addResult_78 rfl rfl ?_
      refine fk_iconst (v := 4) hC dX6_addResult_79 (by decide) ?_
      refine fk_icmp_lt (tgt := 106) hC dX6_addResult_80 (by decide) (fun c80 => ?_) (fun c80 => ?_)
      · exact fk_vret hC hr hk dX6_addResult_106 rfl (by unfold mM_ad mM_ad3 mM_ad2 mM_ad1; rw [if_neg c20, if_pos c57, if_pos c80]) rfl
      · refine fk_iconst (v := 2) hC dX6_addResult_83 (by decide) ?_
        refine fk_aload_n hC dX6_addResult_84 rfl rfl ?_
        refine fk_getM_0 hC hm iX6 (by decide +kernel) dX6_addResult_85 ?_
        refine fk_bipush (v := 123) hC dX6_addResult_88 (by decide) ?_
        refine fk_iload_n hC dX6_addResult_90 rfl rfl ?_
        refine fk_iadd hC dX6_addResult_91 ?_
        refine fk_ld_at hC (j := 123 + i) hm (nI_add 123 i) (by omega) dX6_addResult_92 ?_
        refine fk_callS hC hN (kX6_ones l D K NL ad _ x _) (va_cwS 1 hC.1.2.2.2.2 gX6_addResult_X6_ones rfl rfl rfl (by decide +kernel) ⟨Nat.le_of_ble_eq_true rfl, Nat.le_of_ble_eq_true rfl⟩) rfl rfl (Nat.le_of_ble_eq_true rfl) dX6_addResult_93 ⟨Nat.zero_le _, Nat.zero_le _⟩ ?_
        refine fk_imul hC dX6_addResult_96 ?_
        refine fk_iload_n hC dX6_addResult_97 rfl rfl ?_
        refine fk_icmp_lt (tgt := 106) hC dX6_addResult_98 (by decide) (fun c98 => ?_) (fun c98 => ?_)
        · exact fk_vret hC hr hk dX6_addResult_106 rfl (by unfold mM_ad mM_ad3 mM_ad2 mM_ad1; rw [if_neg c20, if_pos c57, if_neg c80, if_pos c98]) rfl
        · refine fk_aload_n hC dX6_addResult_101 rfl rfl ?_
          refine fk_iload_n hC dX6_addResult_102 rfl rfl ?_
          refine fk_callV hC hN (kX6_trip l D K NL ad _ x hm i hi) hm.1 (f_E310 _ _ _ _ _) rfl (cwV 1 hC.1.2.2.2.2 gX6_addResult_X6_trip rfl rfl rfl (by decide +kernel) ⟨Nat.le_of_ble_eq_true rfl, Nat.le_of_ble_eq_true rfl⟩) rfl rfl (Nat.le_of_ble_eq_true rfl) dX6_addResult_103 ⟨Nat.zero_le _, Nat.zero_le _⟩ ?_
          exact fk_vret hC hr hk dX6_addResult_106 rfl (by unfold mM_ad mM_ad3 mM_ad2 mM_ad1; rw [if_neg c20, if_pos c57, if_neg c80, if_neg c98]) rfl
    · refine fk_iconst (v := 1) hC dX6_addResult_60 (by decide) ?_
      refine fk_goto (tgt := 65) hC dX6_addResult_61 (by decide) ?_
      refine fk_iadd hC dX6_addResult_65 ?_
      refine fk_st_at hC (j := 133 + i) hm (nI_add 133 i) (by omega) dX6_addResult_66 ?_
      refine fk_aload_n hC dX6_addResult_67 rfl rfl ?_
      refine fk_getM_0 hC hm iX6 (by decide +kernel) dX6_addResult_68 ?_
      refine fk_sipush (v := 133) hC dX6_addResult_71 (by decide) ?_
      refine fk_iload_n hC dX6_addResult_74 rfl rfl ?_
      refine fk_iadd hC dX6_addResult_75 ?_
      refine fk_ld_at hC (j := 133 + i) hm (nI_add 133 i) (by omega) dX6_addResult_76 ?_
      refine fk_istore_n hC dX6_addResult_77 rfl (by decide) rfl ?_
      refine fk_iload_n hC dX6_addResult_78 rfl rfl ?_
      refine fk_iconst (v := 4) hC dX6_addResult_79 (by decide) ?_
      refine fk_icmp_lt (tgt := 106) hC dX6_addResult_80 (by decide) (fun c80 => ?_) (fun c80 => ?_)
      · exact fk_vret hC hr hk dX6_addResult_106 rfl (by unfold mM_ad mM_ad3 mM_ad2 mM_ad1; rw [if_neg c20, if_neg c57, if_pos c80]) rfl
      · refine fk_iconst (v := 2) hC dX6_addResult_83 (by decide) ?_
        refine fk_aload_n hC dX6_addResult_84 rfl rfl ?_
        refine fk_getM_0 hC hm iX6 (by decide +kernel) dX6_addResult_85 ?_
        refine fk_bipush (v := 123) hC dX6_addResult_88 (by decide) ?_
        refine fk_iload_n hC dX6_addResult_90 rfl rfl ?_
        refine fk_iadd hC dX6_addResult_91 ?_
        refine fk_ld_at hC (j := 123 + i) hm (nI_add 123 i) (by omega) dX6_addResult_92 ?_
        refine fk_callS hC hN (kX6_ones l D K NL ad _ x _) (va_cwS 1 hC.1.2.2.2.2 gX6_addResult_X6_ones rfl rfl rfl (by decide +kernel) ⟨Nat.le_of_ble_eq_true rfl, Nat.le_of_ble_eq_true rfl⟩) rfl rfl (Nat.le_of_ble_eq_true rfl) dX6_addResult_93 ⟨Nat.zero_le _, Nat.zero_le _⟩ ?_
        refine fk_imul hC dX6_addResult_96 ?_
        refine fk_iload_n hC dX6_addResult_97 rfl rfl ?_
        refine fk_icmp_lt (tgt := 106) hC dX6_addResult_98 (by decide) (fun c98 => ?_) (fun c98 => ?_)
        · exact fk_vret hC hr hk dX6_addResult_106 rfl (by unfold mM_ad mM_ad3 mM_ad2 mM_ad1; rw [if_neg c20, if_neg c57, if_neg c80, if_pos c98]) rfl
        · refine fk_aload_n hC dX6_addResult_101 rfl rfl ?_
          refine fk_iload_n hC dX6_addResult_102 rfl rfl ?_
          refine fk_callV hC hN (kX6_trip l D K NL ad _ x hm i hi) hm.1 (f_E310 _ _ _ _ _) rfl (cwV 1 hC.1.2.2.2.2 gX6_addResult_X6_trip rfl rfl rfl (by decide +kernel) ⟨Nat.le_of_ble_eq_true rfl, Nat.le_of_ble_eq_true rfl⟩) rfl rfl (Nat.le_of_ble_eq_true rfl) dX6_addResult_103 ⟨Nat.zero_le _, Nat.zero_le _⟩ ?_
          exact fk_vret hC hr hk dX6_addResult_106 rfl (by unfold mM_ad mM_ad3 mM_ad2 mM_ad1; rw [if_neg c20, if_neg c57, if_neg c80, if_neg c98]) rfl

