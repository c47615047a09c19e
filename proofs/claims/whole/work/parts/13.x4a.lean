/-! State -/
def cN (z : Nat) (G : fM) : Nat := (G (iS z 0)).toNatClampNeg
def nN (z : Nat) (G : fM) : Nat := (G (iS z 21)).toNatClampNeg
def oN (z : Nat) (G : fM) : Nat := (G (iS z 20)).toNatClampNeg
def wN (z i : Nat) (G : fM) : Nat := (G (iV z i 0)).toNatClampNeg
def kN (z : Nat) (G : fM) : Nat := (G (iS z 7) + 1).toNatClampNeg
def svN (z j : Nat) (G : fM) : Nat := (G (iA z 450 j)).toNatClampNeg
def coN (z j : Nat) (G : fM) : Nat := (G (iA z 1000 j)).toNatClampNeg
/-- what every call finds of the state z -/
def f_I (z : Nat) (G : fM) : Prop := (G (iS z 0) = nI (cN z G) ∧ cN z G ≤ 10) ∧ (G (iS z 21) = nI (nN z G) ∧ nN z G ≤ 40) ∧ (G (iS z 20) = nI (oN z G) ∧ oN z G ≤ 1000) ∧ (∀ i, i < cN z G → G (iV z i 0) = nI (wN z i G) ∧ 1 ≤ wN z i G ∧ wN z i G ≤ 10) ∧ (G (iS z 7) + 1 = nI (kN z G) ∧ kN z G ≤ 10) ∧ (∀ j, j < nN z G → G (iA z 450 j) = nI (svN z j G) ∧ svN z j G < cN z G) ∧ (∀ j, j < oN z G → G (iA z 1000 j) = nI (coN z j G) ∧ coN z j G < cN z G)
theorem f_I.c {z : Nat} {G : fM} (h : f_I z G) : G (iS z 0) = nI (cN z G) := h.1.1
theorem f_I.c10 {z : Nat} {G : fM} (h : f_I z G) : cN z G ≤ 10 := h.1.2
theorem f_I.n {z : Nat} {G : fM} (h : f_I z G) : G (iS z 21) = nI (nN z G) := h.2.1.1
theorem f_I.n40 {z : Nat} {G : fM} (h : f_I z G) : nN z G ≤ 40 := h.2.1.2
theorem f_I.o {z : Nat} {G : fM} (h : f_I z G) : G (iS z 20) = nI (oN z G) := h.2.2.1.1
theorem f_I.o1000 {z : Nat} {G : fM} (h : f_I z G) : oN z G ≤ 1000 := h.2.2.1.2
theorem f_I.w {z : Nat} {G : fM} (h : f_I z G) {i : Nat} (hi : i < cN z G) : G (iV z i 0) = nI (wN z i G) ∧ 1 ≤ wN z i G ∧ wN z i G ≤ 10 := h.2.2.2.1 i hi
theorem f_I.k {z : Nat} {G : fM} (h : f_I z G) : G (iS z 7) + 1 = nI (kN z G) := h.2.2.2.2.1.1
theorem f_I.k10 {z : Nat} {G : fM} (h : f_I z G) : kN z G ≤ 10 := h.2.2.2.2.1.2
theorem f_I.sv {z : Nat} {G : fM} (h : f_I z G) {j : Nat} (hj : j < nN z G) : G (iA z 450 j) = nI (svN z j G) ∧ svN z j G < cN z G := h.2.2.2.2.2.1 j hj
theorem f_I.co {z : Nat} {G : fM} (h : f_I z G) {j : Nat} (hj : j < oN z G) : G (iA z 1000 j) = nI (coN z j G) ∧ coN z j G < cN z G := h.2.2.2.2.2.2 j hj
def sS_forget (z : Nat) (G : fM) : fM := fold9 (fun i M => upd M (iV z i 3) 0) (cN z G) 0 (upd G (iS z 7) (-1))
def sS_coolF (z i : Nat) (M : fM) : fM := sB_cool z i (M (iS z 9)) (M (iS z 4)) M
def sS_cool (z : Nat) (G : fM) : fM := fold9 (sS_coolF z) (cN z G) 0 G
def sS_load (z : Nat) (G : fM) : Int32 := fold9 (fun i a => a + G (iV z i 2)) (cN z G) 0 (0 : Int32)
def sS_wt (z i : Nat) (G : fM) : Int32 := if G (iS z 3) = 0 then G (iV z i 0) else if G (iV z i 7) = 0 then G (iV z i 0) else if G (iS z 9) - G (iV z i 8) < G (iS z 3) then (if 1 < G (iV z i 0) * (G (iS z 9) - G (iV z i 8) + 1) / G (iS z 3) then G (iV z i 0) * (G (iS z 9) - G (iV z i 8) + 1) / G (iS z 3) else 1) else G (iV z i 0)
def sS_av (z : Nat) (G : fM) (i : Nat) : Bool := !decide (sV_acc z i G = 0)
theorem sS_av_f {z i : Nat} {G : fM} (h : sV_acc z i G = 0) : sS_av z G i = false := by unfold sS_av; rw [decide_eq_true h]; rfl
theorem sS_av_t {z i : Nat} {G : fM} (h : ¬ sV_acc z i G = 0) : sS_av z G i = true := by unfold sS_av; rw [decide_eq_false h]; rfl
def sS_first (z k0 : Nat) (G : fM) : Option Nat := srch (sS_av z G) k0 (cN z G - k0)
def sS_next (z : Nat) (G : fM) : Option Nat := match sS_first z (kN z G) G with
  | some j => some j
  | none => sS_first z 0 G
def sS_cr (z i : Nat) (G : fM) : Int32 := G (iV z i 3) + sS_wt z i G
def sS_crS (z : Nat) (G : fM) (i : Nat) (q : Option Nat × Int32) : Option Nat × Int32 := if sV_acc z i G = 0 then q else if q.1 = none then (some i, sS_cr z i G) else if sS_cr z i G ≤ q.2 then q else (some i, sS_cr z i G)
def sS_byCr (z : Nat) (G : fM) : Option Nat := (fold9 (sS_crS z G) (cN z G) 0 (none, 0)).1
def sS_less (z : Nat) (G : fM) (i j : Nat) : Int32 := if G (iV z j 2) * sS_wt z i G ≤ G (iV z i 2) * sS_wt z j G then 0 else 1
def sS_llS (z : Nat) (G : fM) (i : Nat) (b : Option Nat) : Option Nat := if sV_acc z i G = 0 then b else if b = none then some i else if sS_less z G i (b.getD 0) = 0 then b else some i
def sS_ll (z : Nat) (G : fM) : Option Nat := fold9 (sS_llS z G) (cN z G) 0 none
def sS_rgT (z : Nat) (G : fM) (st : Int32) (i : Nat) (q : Option Nat × Int32) : Option Nat × Int32 := if q.1 = none then (some i, sV_ring (wN z i G) (nI i) st) else if bel9 (sV_ring (wN z i G) (nI i) st) q.2 = 0 then q else (some i, sV_ring (wN z i G) (nI i) st)
def sS_rgS (z : Nat) (G : fM) (on st : Int32) (i : Nat) (q : Option Nat × Int32) : Option Nat × Int32 := if on = 0 then sS_rgT z G st i q else if sV_acc z i G = 0 then q else sS_rgT z G st i q
def sS_rg (z : Nat) (cl on : Int32) (G : fM) : Option Nat := (fold9 (sS_rgS z G on (mix9 cl)) (cN z G) 0 (none, 0)).1
def sS_ct (z : Nat) (G : fM) : Nat := fold9 (avCt (sS_av z G)) (cN z G) 0 0
def sS_at (z t : Nat) (G : fM) : Option Nat := avAt (sS_av z G) (cN z G) 0 t
def sS_i1 (z : Nat) (G : fM) : Nat := ((sed9 (G (iS z 8))).toBitVec.toNat / 65536) % sS_ct z G
def sS_i2 (z : Nat) (G : fM) : Nat := ((sed9 (sed9 (G (iS z 8)))).toBitVec.toNat / 65536) % sS_ct z G
def sS_two (z : Nat) (G : fM) : Option Nat := if sS_ct z G = 0 then none else if G (iV z ((sS_at z (sS_i1 z G) G).getD 0) 2) ≤ G (iV z ((sS_at z (sS_i2 z G) G).getD 0) 2) then sS_at z (sS_i1 z G) G else sS_at z (sS_i2 z G) G
def sS_pol (z : Nat) (cl : Int32) (G : fM) : Option Nat := if G (iS z 6) = 0 then sS_next z G else if G (iS z 6) = 1 then sS_byCr z G else if G (iS z 6) = 2 then sS_ll z G else if G (iS z 6) = 3 then sS_rg z cl 1 G else sS_two z G
def sS_stk (z : Nat) (cl : Int32) (G : fM) : Option Nat := match sK_find z cl (nN z G) G with
  | none => none
  | some j => if G (iS z 9) - G (iA z 500 j) < G (iS z 5) then (if sV_acc z (svN z j G) G = 0 then none else some (svN z j G)) else none
def sS_for (z : Nat) (cl : Int32) (G : fM) : Option Nat := if G (iS z 20) < 1000 then (match sS_stk z cl G with
  | some j => some j
  | none => sS_pol z cl G) else none
def sS_mcS (z i : Nat) (q : fM × Int32) : fM × Int32 := if sV_acc z i q.1 = 0 then q else (upd q.1 (iV z i 3) (q.1 (iV z i 3) + sS_wt z i q.1), q.2 + sS_wt z i q.1)
def sS_mc1 (z : Nat) (G : fM) : fM × Int32 := fold9 (sS_mcS z) (cN z G) 0 (G, 0)
def sS_mc (z j : Nat) (G : fM) : fM := upd (sS_mc1 z G).1 (iV z j 3) ((sS_mc1 z G).1 (iV z j 3) - (sS_mc1 z G).2)
def sS_note (z j : Nat) (G : fM) : fM := if G (iS z 6) = 0 then upd G (iS z 7) (nI j) else if G (iS z 6) = 1 then sS_mc z j G else if G (iS z 6) = 4 then upd G (iS z 8) (sed9 (sed9 (G (iS z 8)))) else G
def sS_con1 (z j : Nat) (G : fM) : fM := sC_app z (nI j) (G (iS z 9)) (oN z G) G
def sS_con2 (z j : Nat) (G : fM) : fM := sB_nbeg z j (nI (oN z G)) (upd (sS_con1 z j G) (iV z j 2) (sS_con1 z j G (iV z j 2) + 1))
def sS_con (z j : Nat) (cl : Int32) (G : fM) : fM := if sS_con2 z j G (iS z 5) ≤ 0 then sS_con2 z j G else sK_rem z cl (nI j) (sS_con2 z j G (iS z 9)) (nN z G) (sS_con2 z j G)
def sS_dis1 (z k : Nat) (G : fM) : fM := upd (upd G (iA z 3000 k) 0) (iV z (coN z k G) 2) (upd G (iA z 3000 k) 0 (iV z (coN z k G) 2) - 1)
def sS_dis (z k : Nat) (gd : Int32) (G : fM) : fM := sB_nend z (coN z k G) (nI k) gd (sS_dis1 z k G (iS z 9)) (sS_dis1 z k G)
def sS_cp0 (z y : Nat) (G : fM) : fM := cp1 (cp1 (cp1 (cp1 (cp1 (cp1 (cp1 (cp1 (cp1 (cp1 (cp1 G (iS z 0) (iS y 0)) (iS z 1) (iS y 1)) (iS z 2) (iS y 2)) (iS z 3) (iS y 3)) (iS z 4) (iS y 4)) (iS z 5) (iS y 5)) (iS z 6) (iS y 6)) (iS z 7) (iS y 7)) (iS z 8) (iS y 8)) (iS z 9) (iS y 9)) (iS z 10) (iS y 10)
def sS_cp1 (z y : Nat) (G : fM) : fM := fold9 (fun i M => sV_copy z y i M) (cN y G) 0 (sS_cp0 z y G)
def sS_copy (z y : Nat) (G : fM) : fM := sK_copy z y (nN y G) (sC_copy z y (oN y G) (sS_cp1 z y G))
/-- places that the parts leave alone -/
theorem sB_cool_S {z i k : Nat} {t co : Int32} {G : fM} (hk : k < 100) : sB_cool z i t co G (iS z k) = G (iS z k) := by
  unfold sB_cool
  split
  · split
    · rfl
    · rw [pk_un (by unfold iS iB; omega), pk_un (by unfold iS iB; omega)]
  · rfl
theorem cp1_ne {G : fM} {a b g : Nat} (h : g ≠ a) : cp1 G a b g = G g := pk_un h
theorem cp1_eq {G : fM} {a b : Nat} : cp1 G a b a = G b := pk_us
theorem sB_copy_out {z y i g : Nat} {G : fM} (hi : i < 10) (h : g < 10000 * z + 100 ∨ 10000 * z + 400 ≤ g) : sB_copy z y i G g = G g := by
  unfold sB_copy
  rw [cp1_ne (by unfold iB; omega), cp1_ne (by unfold iB; omega), cp1_ne (by unfold iB; omega), cp1_ne (by unfold iB; omega), cp1_ne (by unfold iB; omega)]
theorem sV_copy_out {z y i g : Nat} {G : fM} (hi : i < 10) (h : g < 10000 * z + 100 ∨ 10000 * z + 400 ≤ g) : sV_copy z y i G g = G g := by
  unfold sV_copy
  rw [sB_copy_out hi h, cp1_ne (by unfold iV; omega), cp1_ne (by unfold iV; omega), cp1_ne (by unfold iV; omega), cp1_ne (by unfold iV; omega), cp1_ne (by unfold iV; omega), cp1_ne (by unfold iV; omega), cp1_ne (by unfold iV; omega), cp1_ne (by unfold iV; omega), cp1_ne (by unfold iV; omega)]
theorem sS_cp0_out {z y g : Nat} {G : fM} (h : g < 10000 * z ∨ 10000 * z + 20 ≤ g) : sS_cp0 z y G g = G g := by
  unfold sS_cp0
  rw [cp1_ne (by unfold iS; omega), cp1_ne (by unfold iS; omega), cp1_ne (by unfold iS; omega), cp1_ne (by unfold iS; omega), cp1_ne (by unfold iS; omega), cp1_ne (by unfold iS; omega), cp1_ne (by unfold iS; omega), cp1_ne (by unfold iS; omega), cp1_ne (by unfold iS; omega), cp1_ne (by unfold iS; omega), cp1_ne (by unfold iS; omega)]
theorem sS_cp0_0 {z y : Nat} {G : fM} : sS_cp0 z y G (iS z 0) = G (iS y 0) := by
  unfold sS_cp0
  rw [cp1_ne (by unfold iS; omega), cp1_ne (by unfold iS; omega), cp1_ne (by unfold iS; omega), cp1_ne (by unfold iS; omega), cp1_ne (by unfold iS; omega), cp1_ne (by unfold iS; omega), cp1_ne (by unfold iS; omega), cp1_ne (by unfold iS; omega), cp1_ne (by unfold iS; omega), cp1_ne (by unfold iS; omega), cp1_eq]

set_option maxHeartbeats 4000000 in
set_option maxRecDepth 100000 in
theorem kX4_serverAt (l : Launch) (D : va_G) (K : Nat → ClassId) (NL : List Nat) (ad : Nat → Nat) (G : fM) (x : fX) (z : Nat) (hz : f_ES NL z) (cn i : Nat) (hc : G (iS z 0) = nI cn) (hc10 : cn ≤ 10) (hi : i < cn) : Kd l yX4_serverAt wsX4_serverAt { frames := 0, cells := 0, slots := 0, locals := 0 } vwCl D K NL ad [.ref (ad (nm z 0)), .int (nI i)] G x (some (.ref (ad (nV z i)))) G x := by
  refine Kd.of (cc := cX4_serverAt) (maxL := 2) (ret := (some (.object "LoadBalancer$Server"))) (L := [some (.ref (ad (nm z 0))), some (.int (nI i))]) (by decide +kernel) rfl rfl (Nat.le_of_ble_eq_true rfl) ?_
  intro p e s m args below meth c hC hN hr hk hnme
  have iX4 : ∀ w ∈ wsX40, w ∈ wsX4_serverAt := by decide +kernel
  refine fk_iload_n hC dX4_serverAt_0 rfl rfl ?_
  refine fk_if_lt (tgt := 12) hC dX4_serverAt_1 (by decide) (fun c1 => ?_) (fun c1 => ?_)
  · exact absurd c1 (nI_pos (by omega))
  · refine fk_iload_n hC dX4_serverAt_4 rfl rfl ?_
    refine fk_aload_n hC dX4_serverAt_5 rfl rfl ?_
    refine fk_getS_3 hC hz iX4 (by decide +kernel) dX4_serverAt_6 ?_
    refine fk_icmp_lt (tgt := 22) hC dX4_serverAt_9 (by decide) (fun c9 => ?_) (fun c9 => ?_)
    · refine fk_aload_n hC dX4_serverAt_22 rfl rfl ?_
      refine fk_getS_0 hC hz iX4 (by decide +kernel) dX4_serverAt_23 ?_
      refine fk_iload_n hC dX4_serverAt_26 rfl rfl ?_
      refine fk_ldV hC hz rfl (by omega) dX4_serverAt_27 ?_
      exact fk_aret hC hr hk dX4_serverAt_28 ⟨_, rfl⟩ rfl rfl rfl
    · rw [hc] at c9
      exact absurd (nI_lt hi (by omega)) c9

set_option maxHeartbeats 4000000 in
set_option maxRecDepth 100000 in
theorem kX4_append (l : Launch) (D : va_G) (K : Nat → ClassId) (NL : List Nat) (ad : Nat → Nat) (G : fM) (x : fX) (z : Nat) (hz : f_ES NL z) (cn : Nat) (hc : G (iS z 0) = nI cn) (hc10 : cn < 10) (wt cp : Int32) : Kd l yX4_append wsX4_append { frames := 2, cells := 0, slots := 0, locals := 42 } vwCl D K NL ad [.ref (ad (nm z 0)), .int wt, .int cp] G x (some (.int (nI cn))) (upd (sV_begin z cn wt cp G) (iS z 0) (nI (cn + 1))) x := by
  refine Kd.of (cc := cX4_append) (maxL := 4) (ret := (some .int)) (L := [some (.ref (ad (nm z 0))), some (.int wt), some (.int cp), none]) (by decide +kernel) rfl rfl (Nat.le_of_ble_eq_true rfl) ?_
  intro p e s m args below meth c hC hN hr hk hnme
  have iX4 : ∀ w ∈ wsX40, w ∈ wsX4_append := by decide +kernel
  refine fk_aload_n hC dX4_append_0 rfl rfl ?_
  refine fk_getS_3 hC hz iX4 (by decide +kernel) dX4_append_1 ?_
  refine fk_istore_n hC dX4_append_4 rfl (by decide) rfl ?_
  refine fk_aload_n hC dX4_append_5 rfl rfl ?_
  refine fk_getS_0 hC hz iX4 (by decide +kernel) dX4_append_6 ?_
  refine fk_iload_n hC dX4_append_9 rfl rfl ?_
  refine fk_ldV hC hz hc hc10 dX4_append_10 ?_
  refine fk_iload_n hC dX4_append_11 rfl rfl ?_
  refine fk_iload_n hC dX4_append_12 rfl rfl ?_
  refine fk_callV hC hN (kX3_begin l D K NL ad _ x z cn hz hc10 _ _) (hz.V hc10) (f_eV _ _ _ _ _ hz.1 hc10) rfl (cwV 2 hC.1.2.2.2.2 gX4_append_X3_begin rfl rfl rfl (by decide +kernel) ⟨Nat.le_of_ble_eq_true rfl, Nat.le_of_ble_eq_true rfl⟩) rfl rfl (Nat.le_of_ble_eq_true rfl) dX4_append_13 ⟨Nat.zero_le _, Nat.zero_le _⟩ ?_
  refine fk_aload_n hC dX4_append_16 rfl rfl ?_
  refine fk_iload_n hC dX4_append_17 rfl rfl ?_
  refine fk_iconst (v := 1) hC dX4_append_18 (by decide) ?_
  refine fk_iadd hC dX4_append_19 ?_
  refine fk_putS_3 hC hz iX4 (by decide +kernel) dX4_append_20 ?_
  refine fk_iload_n hC dX4_append_23 rfl rfl ?_
  exact fk_iret hC hr hk dX4_append_24 (by rw [hc]) (by rw [hc, nI_1]) rfl

set_option maxHeartbeats 4000000 in
set_option maxRecDepth 100000 in
theorem kX4_forgetSelections (l : Launch) (D : va_G) (K : Nat → ClassId) (NL : List Nat) (ad : Nat → Nat) (G : fM) (x : fX) (z : Nat) (hz : f_ES NL z) (hI : f_I z G) : Kd l yX4_forgetSelections wsX4_forgetSelections { frames := 0, cells := 0, slots := 0, locals := 0 } vwCl D K NL ad [.ref (ad (nm z 0))] G x none (sS_forget z G) x := by
  refine Kd.of (cc := cX4_forgetSelections) (maxL := 2) (ret := none) (L := [some (.ref (ad (nm z 0))), none]) (by decide +kernel) rfl rfl (Nat.le_of_ble_eq_true rfl) ?_
  intro p e s m args below meth c hC hN hr hk hnme
  have iX3 : ∀ w ∈ wsX30, w ∈ wsX4_forgetSelections := by decide +kernel
  have iX4 : ∀ w ∈ wsX40, w ∈ wsX4_forgetSelections := by decide +kernel
  have h10 := hI.c10
  have lp : ∀ (d : Nat) (k : Nat) (M : fM), cN z G - k = d → k ≤ cN z G → M (iS z 0) = nI (cN z G) → sS_forget z G = fold9 (fun i M => upd M (iV z i 3) 0) (cN z G - k) k M → Wk p l e { frames := 0, cells := 0, slots := 0, locals := 0 } s m args below meth c vwCl D K NL ad (f_A NL ad s.heap.size) s.heap 2 0 0 (MQ below (f_Post vwCl D K NL ad (sS_forget z G) x none s.heap.size) args s 0 0 (f_A NL ad s.heap.size)) M x 7 [some (.ref (ad (nm z 0))), some (.int (nI k))] [] := by
    intro d
    induction d using Nat.strongRecOn with
    | _ d ih =>
      intro k M hd hkn hM hs
      refine fk_iload_n hC dX4_forgetSelections_7 rfl rfl ?_
      refine fk_aload_n hC dX4_forgetSelections_8 rfl rfl ?_
      refine fk_getS_3 hC hz iX4 (by decide +kernel) dX4_forgetSelections_9 ?_
      refine fk_icmp_ge (tgt := 31) hC dX4_forgetSelections_12 (by decide) (fun c12 => ?_) (fun c12 => ?_)
      · rw [hM] at c12
        have q12 := f_le (by omega) (by omega) c12
        exact fk_vret hC hr hk dX4_forgetSelections_31 rfl (by rw [hs, fold9_end q12]) rfl
      · rw [hM] at c12
        have q12 := f_nle (by omega) (by omega) c12
        refine fk_aload_n hC dX4_forgetSelections_15 rfl rfl ?_
        refine fk_getS_0 hC hz iX4 (by decide +kernel) dX4_forgetSelections_16 ?_
        refine fk_iload_n hC dX4_forgetSelections_19 rfl rfl ?_
        refine fk_ldV hC hz rfl (by omega) dX4_forgetSelections_20 ?_
        refine fk_iconst (v := 0) hC dX4_forgetSelections_21 (by decide) ?_
        refine fk_putV_4 hC hz (by omega) iX3 (by decide +kernel) dX4_forgetSelections_22 ?_
        refine fk_iinc hC dX4_forgetSelections_25 rfl (f_inc k) (by decide) rfl ?_
        refine fk_goto (tgt := 7) hC dX4_forgetSelections_28 (by decide) ?_
        exact ih (cN z G - (k + 1)) (by omega) (k + 1) _ rfl (by omega) (by rw [pk_un (by unfold iS iV; omega), hM]) (hs.trans (fold9_step q12))
  refine fk_aload_n hC dX4_forgetSelections_0 rfl rfl ?_
  refine fk_iconst (v := (-1)) hC dX4_forgetSelections_1 (by decide) ?_
  refine fk_putS_10 hC hz iX4 (by decide +kernel) dX4_forgetSelections_2 ?_
  refine fk_iconst (v := 0) hC dX4_forgetSelections_5 (by decide) ?_
  refine fk_istore_n hC dX4_forgetSelections_6 rfl (by decide) rfl ?_
  exact lp (cN z G) 0 _ rfl (Nat.zero_le _) (by rw [pk_un (by unfold iS; omega)]; exact hI.c) (by rw [sS_forget]; rfl)

set_option maxHeartbeats 4000000 in
set_option maxRecDepth 100000 in
theorem kX4_coolBreakers (l : Launch) (D : va_G) (K : Nat → ClassId) (NL : List Nat) (ad : Nat → Nat) (G : fM) (x : fX) (z : Nat) (hz : f_ES NL z) (hI : f_I z G) : Kd l yX4_coolBreakers wsX4_coolBreakers { frames := 1, cells := 0, slots := 0, locals := 22 } vwCl D K NL ad [.ref (ad (nm z 0))] G x none (sS_cool z G) x := by
  refine Kd.of (cc := cX4_coolBreakers) (maxL := 2) (ret := none) (L := [some (.ref (ad (nm z 0))), none]) (by decide +kernel) rfl rfl (Nat.le_of_ble_eq_true rfl) ?_
  intro p e s m args below meth c hC hN hr hk hnme
  have iX3 : ∀ w ∈ wsX30, w ∈ wsX4_coolBreakers := by decide +kernel
  have iX4 : ∀ w ∈ wsX40, w ∈ wsX4_coolBreakers := by decide +kernel
  have h10 := hI.c10
  have lp : ∀ (d : Nat) (k : Nat) (M : fM), cN z G - k = d → k ≤ cN z G → M (iS z 0) = nI (cN z G) → sS_cool z G = fold9 (sS_coolF z) (cN z G - k) k M → Wk p l e { frames := 1, cells := 0, slots := 0, locals := 22 } s m args below meth c vwCl D K NL ad (f_A NL ad s.heap.size) s.heap 2 0 0 (MQ below (f_Post vwCl D K NL ad (sS_cool z G) x none s.heap.size) args s 0 0 (f_A NL ad s.heap.size)) M x 2 [some (.ref (ad (nm z 0))), some (.int (nI k))] [] := by
    intro d
    induction d using Nat.strongRecOn with
    | _ d ih =>
      intro k M hd hkn hM hs
      refine fk_iload_n hC dX4_coolBreakers_2 rfl rfl ?_
      refine fk_aload_n hC dX4_coolBreakers_3 rfl rfl ?_
      refine fk_getS_3 hC hz iX4 (by decide +kernel) dX4_coolBreakers_4 ?_
      refine fk_icmp_ge (tgt := 36) hC dX4_coolBreakers_7 (by decide) (fun c7 => ?_) (fun c7 => ?_)
      · rw [hM] at c7
        have q7 := f_le (by omega) (by omega) c7
        exact fk_vret hC hr hk dX4_coolBreakers_36 rfl (by rw [hs, fold9_end q7]) rfl
      · rw [hM] at c7
        have q7 := f_nle (by omega) (by omega) c7
        refine fk_aload_n hC dX4_coolBreakers_10 rfl rfl ?_
        refine fk_getS_0 hC hz iX4 (by decide +kernel) dX4_coolBreakers_11 ?_
        refine fk_iload_n hC dX4_coolBreakers_14 rfl rfl ?_
        refine fk_ldV hC hz rfl (by omega) dX4_coolBreakers_15 ?_
        refine fk_getV_0 hC hz (by omega) iX3 (by decide +kernel) dX4_coolBreakers_16 ?_
        refine fk_aload_n hC dX4_coolBreakers_19 rfl rfl ?_
        refine fk_getS_12 hC hz iX4 (by decide +kernel) dX4_coolBreakers_20 ?_
        refine fk_aload_n hC dX4_coolBreakers_23 rfl rfl ?_
        refine fk_getS_7 hC hz iX4 (by decide +kernel) dX4_coolBreakers_24 ?_
        refine fk_callV hC hN (kX0_coolDown l D K NL ad _ x z k hz (by omega) _ _) (hz.B (by omega)) (f_eB _ _ _ _ _ hz.1 (by omega)) rfl (cwV 2 hC.1.2.2.2.2 gX4_coolBreakers_X0_coolDown rfl rfl rfl (by decide +kernel) ⟨Nat.le_of_ble_eq_true rfl, Nat.le_of_ble_eq_true rfl⟩) rfl rfl (Nat.le_of_ble_eq_true rfl) dX4_coolBreakers_27 ⟨Nat.zero_le _, Nat.zero_le _⟩ ?_
        refine fk_iinc hC dX4_coolBreakers_30 rfl (f_inc k) (by decide) rfl ?_
        refine fk_goto (tgt := 2) hC dX4_coolBreakers_33 (by decide) ?_
        exact ih (cN z G - (k + 1)) (by omega) (k + 1) _ rfl (by omega) (by rw [sB_cool_S (by decide), hM]) (hs.trans (fold9_step q7))
  refine fk_iconst (v := 0) hC dX4_coolBreakers_0 (by decide) ?_
  refine fk_istore_n hC dX4_coolBreakers_1 rfl (by decide) rfl ?_
  exact lp (cN z G) 0 _ rfl (Nat.zero_le _) hI.c (by rw [sS_cool]; rfl)

set_option maxHeartbeats 4000000 in
set_option maxRecDepth 100000 in
theorem kX4_totalLoad (l : Launch) (D : va_G) (K : Nat → ClassId) (NL : List Nat) (ad : Nat → Nat) (G : fM) (x : fX) (z : Nat) (hz : f_ES NL z) (hI : f_I z G) : Kd l yX4_totalLoad wsX4_totalLoad { frames := 0, cells := 0, slots := 0, locals := 0 } vwCl D K NL ad [.ref (ad (nm z 0))] G x (some (.int (sS_load z G))) G x := by
  refine Kd.of (cc := cX4_totalLoad) (maxL := 3) (ret := (some .int)) (L := [some (.ref (ad (nm z 0))), none, none]) (by decide +kernel) rfl rfl (Nat.le_of_ble_eq_true rfl) ?_
  intro p e s m args below meth c hC hN hr hk hnme
  have iX3 : ∀ w ∈ wsX30, w ∈ wsX4_totalLoad := by decide +kernel
  have iX4 : ∀ w ∈ wsX40, w ∈ wsX4_totalLoad := by decide +kernel
  have h10 := hI.c10
  have lp : ∀ (d : Nat) (k : Nat) (a : Int32), cN z G - k = d → k ≤ cN z G → sS_load z G = fold9 (fun i a => a + G (iV z i 2)) (cN z G - k) k a → Wk p l e { frames := 0, cells := 0, slots := 0, locals := 0 } s m args below meth c vwCl D K NL ad (f_A NL ad s.heap.size) s.heap 3 0 0 (MQ below (f_Post vwCl D K NL ad G x (some (.int (sS_load z G))) s.heap.size) args s 0 0 (f_A NL ad s.heap.size)) G x 4 [some (.ref (ad (nm z 0))), some (.int a), some (.int (nI k))] [] := by
    intro d
    induction d using Nat.strongRecOn with
    | _ d ih =>
      intro k a hd hkn hs
      refine fk_iload_n hC dX4_totalLoad_4 rfl rfl ?_
      refine fk_aload_n hC dX4_totalLoad_5 rfl rfl ?_
      refine fk_getS_3 hC hz iX4 (by decide +kernel) dX4_totalLoad_6 ?_
      refine fk_icmp_ge (tgt := 30) hC dX4_totalLoad_9 (by decide) (fun c9 => ?_) (fun c9 => ?_)
      · rw [hI.c] at c9
        have q9 := f_le (by omega) (by omega) c9
        refine fk_iload_n hC dX4_totalLoad_30 rfl rfl ?_
        exact fk_iret hC hr hk dX4_totalLoad_31 (by rw [hs, fold9_end q9]) rfl rfl
      · rw [hI.c] at c9
        have q9 := f_nle (by omega) (by omega) c9
        refine fk_iload_n hC dX4_totalLoad_12 rfl rfl ?_
        refine fk_aload_n hC dX4_totalLoad_13 rfl rfl ?_
        refine fk_getS_0 hC hz iX4 (by decide +kernel) dX4_totalLoad_14 ?_
        refine fk_iload_n hC dX4_totalLoad_17 rfl rfl ?_
        refine fk_ldV hC hz rfl (by omega) dX4_totalLoad_18 ?_
        refine fk_getV_3 hC hz (by omega) iX3 (by decide +kernel) dX4_totalLoad_19 ?_
        refine fk_iadd hC dX4_totalLoad_22 ?_
        refine fk_istore_n hC dX4_totalLoad_23 rfl (by decide) rfl ?_
        refine fk_iinc hC dX4_totalLoad_24 rfl (f_inc k) (by decide) rfl ?_
        refine fk_goto (tgt := 4) hC dX4_totalLoad_27 (by decide) ?_
        exact ih (cN z G - (k + 1)) (by omega) (k + 1) _ rfl (by omega) (hs.trans (fold9_step q9))
  refine fk_iconst (v := 0) hC dX4_totalLoad_0 (by decide) ?_
  refine fk_istore_n hC dX4_totalLoad_1 rfl (by decide) rfl ?_
  refine fk_iconst (v := 0) hC dX4_totalLoad_2 (by decide) ?_
  refine fk_istore_n hC dX4_totalLoad_3 rfl (by decide) rfl ?_
  exact lp (cN z G) 0 _ rfl (Nat.zero_le _) (by rw [sS_load]; rfl)

set_option maxHeartbeats 4000000 in
set_option maxRecDepth 100000 in
theorem kX4_weightNow (l : Launch) (D : va_G) (K : Nat → ClassId) (NL : List Nat) (ad : Nat → Nat) (G : fM) (x : fX) (z : Nat) (hz : f_ES NL z) (i : Nat) (hi : i < 10) : Kd l yX4_weightNow wsX4_weightNow { frames := 1, cells := 0, slots := 0, locals := 21 } vwCl D K NL ad [.ref (ad (nm z 0)), .ref (ad (nV z i))] G x (some (.int (sS_wt z i G))) G x := by
  refine Kd.of (cc := cX4_weightNow) (maxL := 3) (ret := (some .int)) (L := [some (.ref (ad (nm z 0))), some (.ref (ad (nV z i))), none]) (by decide +kernel) rfl rfl (Nat.le_of_ble_eq_true rfl) ?_
  intro p e s m args below meth c hC hN hr hk hnme
  have iX3 : ∀ w ∈ wsX30, w ∈ wsX4_weightNow := by decide +kernel
  have iX4 : ∀ w ∈ wsX40, w ∈ wsX4_weightNow := by decide +kernel
  refine fk_aload_n hC dX4_weightNow_0 rfl rfl ?_
  refine fk_getS_12 hC hz iX4 (by decide +kernel) dX4_weightNow_1 ?_
  refine fk_aload_n hC dX4_weightNow_4 rfl rfl ?_
  refine fk_getV_9 hC hz hi iX3 (by decide +kernel) dX4_weightNow_5 ?_
  refine fk_isub hC dX4_weightNow_8 ?_
  refine fk_istore_n hC dX4_weightNow_9 rfl (by decide) rfl ?_
  refine fk_aload_n hC dX4_weightNow_10 rfl rfl ?_
  refine fk_getS_6 hC hz iX4 (by decide +kernel) dX4_weightNow_11 ?_
  refine fk_if_eq (tgt := 32) hC dX4_weightNow_14 (by decide) (fun c14 => ?_) (fun c14 => ?_)
  · refine fk_aload_n hC dX4_weightNow_32 rfl rfl ?_
    refine fk_getV_1 hC hz hi iX3 (by decide +kernel) dX4_weightNow_33 ?_
    exact fk_iret hC hr hk dX4_weightNow_36 (by unfold sS_wt; rw [if_pos c14]) rfl rfl
  · refine fk_aload_n hC dX4_weightNow_17 rfl rfl ?_
    refine fk_getV_8 hC hz hi iX3 (by decide +kernel) dX4_weightNow_18 ?_
    refine fk_if_eq (tgt := 32) hC dX4_weightNow_21 (by decide) (fun c21 => ?_) (fun c21 => ?_)
    · refine fk_aload_n hC dX4_weightNow_32 rfl rfl ?_
      refine fk_getV_1 hC hz hi iX3 (by decide +kernel) dX4_weightNow_33 ?_
      exact fk_iret hC hr hk dX4_weightNow_36 (by unfold sS_wt; rw [if_neg c14, if_pos c21]) rfl rfl
    · refine fk_iload_n hC dX4_weightNow_24 rfl rfl ?_
      refine fk_aload_n hC dX4_weightNow_25 rfl rfl ?_
      refine fk_getS_6 hC hz iX4 (by decide +kernel) dX4_weightNow_26 ?_
      refine fk_icmp_lt (tgt := 37) hC dX4_weightNow_29 (by decide) (fun c29 => ?_) (fun c29 => ?_)
      · refine fk_iconst (v := 1) hC dX4_weightNow_37 (by decide) ?_
        refine fk_aload_n hC dX4_weightNow_38 rfl rfl ?_
        refine fk_getV_1 hC hz hi iX3 (by decide +kernel) dX4_weightNow_39 ?_
        refine fk_iload_n hC dX4_weightNow_42 rfl rfl ?_
        refine fk_iconst (v := 1) hC dX4_weightNow_43 (by decide) ?_
        refine fk_iadd hC dX4_weightNow_44 ?_
        refine fk_imul hC dX4_weightNow_45 ?_
        refine fk_aload_n hC dX4_weightNow_46 rfl rfl ?_
        refine fk_getS_6 hC hz iX4 (by decide +kernel) dX4_weightNow_47 ?_
        refine fk_idiv hC dX4_weightNow_50 (by assumption) ?_
        refine fk_mmax hC (by decide +kernel) (by decide +kernel) (by decide +kernel) (by decide +kernel) (Nat.le_of_ble_eq_true rfl) (Nat.le_of_ble_eq_true rfl) (Nat.zero_le _) (Nat.zero_le _) dX4_weightNow_51 ?_
        exact fk_iret hC hr hk dX4_weightNow_54 (by unfold sS_wt; rw [if_neg c14, if_neg c21, if_pos c29]) rfl rfl
      · refine fk_aload_n hC dX4_weightNow_32 rfl rfl ?_
        refine fk_getV_1 hC hz hi iX3 (by decide +kernel) dX4_weightNow_33 ?_
        exact fk_iret hC hr hk dX4_weightNow_36 (by unfold sS_wt; rw [if_neg c14, if_neg c21, if_neg c29]) rfl rfl

set_option maxHeartbeats 4000000 in
set_option maxRecDepth 100000 in
theorem kX4_isLessLoaded (l : Launch) (D : va_G) (K : Nat → ClassId) (NL : List Nat) (ad : Nat → Nat) (G : fM) (x : fX) (z : Nat) (hz : f_ES NL z) (i j : Nat) (hi : i < 10) (hj : j < 10) : Kd l yX4_isLessLoaded wsX4_isLessLoaded { frames := 2, cells := 0, slots := 0, locals := 43 } vwCl D K NL ad [.ref (ad (nm z 0)), .ref (ad (nV z i)), .ref (ad (nV z j))] G x (some (.int (sS_less z G i j))) G x := by
  refine Kd.of (cc := cX4_isLessLoaded) (maxL := 3) (ret := (some .boolean)) (L := [some (.ref (ad (nm z 0))), some (.ref (ad (nV z i))), some (.ref (ad (nV z j)))]) (by decide +kernel) rfl rfl (Nat.le_of_ble_eq_true rfl) ?_
  intro p e s m args below meth c hC hN hr hk hnme
  have iX3 : ∀ w ∈ wsX30, w ∈ wsX4_isLessLoaded := by decide +kernel
  refine fk_aload_n hC dX4_isLessLoaded_0 rfl rfl ?_
  refine fk_getV_3 hC hz hi iX3 (by decide +kernel) dX4_isLessLoaded_1 ?_
  refine fk_aload_n hC dX4_isLessLoaded_4 rfl rfl ?_
  refine fk_aload_n hC dX4_isLessLoaded_5 rfl rfl ?_
  refine fk_callV hC hN (kX4_weightNow l D K NL ad _ x z hz j hj) (hz.2 0 (by decide)) (f_e0 _ _ _ _ _ hz.1) rfl (cwV 1 hC.1.2.2.2.2 gX4_isLessLoaded_X4_weightNow rfl rfl rfl (by decide +kernel) ⟨Nat.le_of_ble_eq_true rfl, Nat.le_of_ble_eq_true rfl⟩) rfl rfl (Nat.le_of_ble_eq_true rfl) dX4_isLessLoaded_6 ⟨Nat.zero_le _, Nat.zero_le _⟩ ?_
  refine fk_imul hC dX4_isLessLoaded_9 ?_
  refine fk_aload_n hC dX4_isLessLoaded_10 rfl rfl ?_
  refine fk_getV_3 hC hz hj iX3 (by decide +kernel) dX4_isLessLoaded_11 ?_
  refine fk_aload_n hC dX4_isLessLoaded_14 rfl rfl ?_
  refine fk_aload_n hC dX4_isLessLoaded_15 rfl rfl ?_
  refine fk_callV hC hN (kX4_weightNow l D K NL ad _ x z hz i hi) (hz.2 0 (by decide)) (f_e0 _ _ _ _ _ hz.1) rfl (cwV 1 hC.1.2.2.2.2 gX4_isLessLoaded_X4_weightNow rfl rfl rfl (by decide +kernel) ⟨Nat.le_of_ble_eq_true rfl, Nat.le_of_ble_eq_true rfl⟩) rfl rfl (Nat.le_of_ble_eq_true rfl) dX4_isLessLoaded_16 ⟨Nat.zero_le _, Nat.zero_le _⟩ ?_
  refine fk_imul hC dX4_isLessLoaded_19 ?_
  refine fk_icmp_ge (tgt := 27) hC dX4_isLessLoaded_20 (by decide) (fun c20 => ?_) (fun c20 => ?_)
  · refine fk_iconst (v := 0) hC dX4_isLessLoaded_27 (by decide) ?_
    exact fk_zret hC hr hk dX4_isLessLoaded_28 rfl (by unfold sS_less; rw [if_pos c20]) rfl rfl
  · refine fk_iconst (v := 1) hC dX4_isLessLoaded_23 (by decide) ?_
    refine fk_goto (tgt := 28) hC dX4_isLessLoaded_24 (by decide) ?_
    exact fk_zret hC hr hk dX4_isLessLoaded_28 rfl (by unfold sS_less; rw [if_neg c20]) rfl rfl

set_option maxHeartbeats 4000000 in
set_option maxRecDepth 100000 in
theorem kX4_firstAvailableFrom (l : Launch) (D : va_G) (K : Nat → ClassId) (NL : List Nat) (ad : Nat → Nat) (G : fM) (x : fX) (z : Nat) (hz : f_ES NL z) (hI : f_I z G) (k0 : Nat) (hk0 : k0 ≤ 10) : Kd l yX4_firstAvailableFrom wsX4_firstAvailableFrom { frames := 2, cells := 0, slots := 0, locals := 40 } vwCl D K NL ad [.ref (ad (nm z 0)), .int (nI k0)] G x (some (.int (rI (sS_first z k0 G)))) G x := by
  refine Kd.of (cc := cX4_firstAvailableFrom) (maxL := 3) (ret := (some .int)) (L := [some (.ref (ad (nm z 0))), some (.int (nI k0)), none]) (by decide +kernel) rfl rfl (Nat.le_of_ble_eq_true rfl) ?_
  intro p e s m args below meth c hC hN hr hk hnme
  have iX4 : ∀ w ∈ wsX40, w ∈ wsX4_firstAvailableFrom := by decide +kernel
  have h10 := hI.c10
  have lp : ∀ (d : Nat) (k : Nat), cN z G - k = d → k ≤ 10 → srch (sS_av z G) k0 (cN z G - k0) = srch (sS_av z G) k (cN z G - k) → Wk p l e { frames := 2, cells := 0, slots := 0, locals := 40 } s m args below meth c vwCl D K NL ad (f_A NL ad s.heap.size) s.heap 3 0 0 (MQ below (f_Post vwCl D K NL ad G x (some (.int (rI (sS_first z k0 G)))) s.heap.size) args s 0 0 (f_A NL ad s.heap.size)) G x 2 [some (.ref (ad (nm z 0))), some (.int (nI k0)), some (.int (nI k))] [] := by
    intro d
    induction d using Nat.strongRecOn with
    | _ d ih =>
      intro k hd hkn hs
      refine fk_iload_n hC dX4_firstAvailableFrom_2 rfl rfl ?_
      refine fk_aload_n hC dX4_firstAvailableFrom_3 rfl rfl ?_
      refine fk_getS_3 hC hz iX4 (by decide +kernel) dX4_firstAvailableFrom_4 ?_
      refine fk_icmp_ge (tgt := 29) hC dX4_firstAvailableFrom_7 (by decide) (fun c7 => ?_) (fun c7 => ?_)
      · rw [hI.c] at c7
        have q7 := f_le (by omega) (by omega) c7
        refine fk_iconst (v := (-1)) hC dX4_firstAvailableFrom_29 (by decide) ?_
        exact fk_iret hC hr hk dX4_firstAvailableFrom_30 (by unfold sS_first; rw [hs, srch_end q7 rfl]; rfl) rfl rfl
      · rw [hI.c] at c7
        have q7 := f_nle (by omega) (by omega) c7
        refine fk_aload_n hC dX4_firstAvailableFrom_10 rfl rfl ?_
        refine fk_iload_n hC dX4_firstAvailableFrom_11 rfl rfl ?_
        refine fk_callV hC hN (kX4_serverAt l D K NL ad _ x z hz (cN z G) k hI.c hI.c10 q7) (hz.2 0 (by decide)) (f_e0 _ _ _ _ _ hz.1) rfl (cwV 1 hC.1.2.2.2.2 gX4_firstAvailableFrom_X4_serverAt rfl rfl rfl (by decide +kernel) ⟨Nat.le_of_ble_eq_true rfl, Nat.le_of_ble_eq_true rfl⟩) rfl rfl (Nat.le_of_ble_eq_true rfl) dX4_firstAvailableFrom_12 ⟨Nat.zero_le _, Nat.zero_le _⟩ ?_
        refine fk_callV hC hN (kX3_accepts l D K NL ad _ x z k hz (by omega)) (hz.V (by omega)) (f_eV _ _ _ _ _ hz.1 (by omega)) rfl (cwV 0 hC.1.2.2.2.2 gX4_firstAvailableFrom_X3_accepts rfl rfl rfl (by decide +kernel) ⟨Nat.le_of_ble_eq_true rfl, Nat.le_of_ble_eq_true rfl⟩) rfl rfl (Nat.le_of_ble_eq_true rfl) dX4_firstAvailableFrom_15 ⟨Nat.zero_le _, Nat.zero_le _⟩ ?_
        refine fk_if_eq (tgt := 23) hC dX4_firstAvailableFrom_18 (by decide) (fun c18 => ?_) (fun c18 => ?_)
        · refine fk_iinc hC dX4_firstAvailableFrom_23 rfl (f_inc k) (by decide) rfl ?_
          refine fk_goto (tgt := 2) hC dX4_firstAvailableFrom_26 (by decide) ?_
          exact ih (cN z G - (k + 1)) (by omega) (k + 1) rfl (by omega) (hs.trans (srch_step q7 (sS_av_f c18) rfl))
        · refine fk_iload_n hC dX4_firstAvailableFrom_21 rfl rfl ?_
          exact fk_iret hC hr hk dX4_firstAvailableFrom_22 (by unfold sS_first; rw [hs, srch_hit (by omega) (sS_av_t c18)]; rfl) rfl rfl
  refine fk_iload_n hC dX4_firstAvailableFrom_0 rfl rfl ?_
  refine fk_istore_n hC dX4_firstAvailableFrom_1 rfl (by decide) rfl ?_
  exact lp (cN z G - k0) k0 rfl hk0 rfl

set_option maxHeartbeats 4000000 in
set_option maxRecDepth 100000 in
theorem kX4_selectNext (l : Launch) (D : va_G) (K : Nat → ClassId) (NL : List Nat) (ad : Nat → Nat) (G : fM) (x : fX) (z : Nat) (hz : f_ES NL z) (hI : f_I z G) : Kd l yX4_selectNext wsX4_selectNext { frames := 3, cells := 0, slots := 0, locals := 62 } vwCl D K NL ad [.ref (ad (nm z 0))] G x (some (.int (rI (sS_next z G)))) G x := by
  refine Kd.of (cc := cX4_selectNext) (maxL := 2) (ret := (some .int)) (L := [some (.ref (ad (nm z 0))), none]) (by decide +kernel) rfl rfl (Nat.le_of_ble_eq_true rfl) ?_
  intro p e s m args below meth c hC hN hr hk hnme
  have iX4 : ∀ w ∈ wsX40, w ∈ wsX4_selectNext := by decide +kernel
  have h10 := hI.c10
  refine fk_aload_n hC dX4_selectNext_0 rfl rfl ?_
  refine fk_aload_n hC dX4_selectNext_1 rfl rfl ?_
  refine fk_getS_10 hC hz iX4 (by decide +kernel) dX4_selectNext_2 ?_
  refine fk_iconst (v := 1) hC dX4_selectNext_5 (by decide) ?_
  refine fk_iadd hC dX4_selectNext_6 ?_
  refine fk_topi hI.k ?_
  refine fk_callV hC hN (kX4_firstAvailableFrom l D K NL ad _ x z hz hI (kN z G) hI.k10) (hz.2 0 (by decide)) (f_e0 _ _ _ _ _ hz.1) rfl (cwV 1 hC.1.2.2.2.2 gX4_selectNext_X4_firstAvailableFrom rfl rfl rfl (by decide +kernel) ⟨Nat.le_of_ble_eq_true rfl, Nat.le_of_ble_eq_true rfl⟩) rfl rfl (Nat.le_of_ble_eq_true rfl) dX4_selectNext_7 ⟨Nat.zero_le _, Nat.zero_le _⟩ ?_
  rcases h9 : sS_first z (kN z G) G with _ | j
  · refine fk_istore_n hC dX4_selectNext_10 rfl (by decide) rfl ?_
    refine fk_iload_n hC dX4_selectNext_11 rfl rfl ?_
    refine fk_iconst (v := (-1)) hC dX4_selectNext_12 (by decide) ?_
    refine fk_icmp_eq (tgt := 20) hC dX4_selectNext_13 (by decide) (fun c13 => ?_) (fun c13 => ?_)
    · refine fk_aload_n hC dX4_selectNext_20 rfl rfl ?_
      refine fk_iconst (v := 0) hC dX4_selectNext_21 (by decide) ?_
      refine fk_callV hC hN (kX4_firstAvailableFrom l D K NL ad _ x z hz hI 0 (Nat.zero_le _)) (hz.2 0 (by decide)) (f_e0 _ _ _ _ _ hz.1) rfl (cwV 1 hC.1.2.2.2.2 gX4_selectNext_X4_firstAvailableFrom rfl rfl rfl (by decide +kernel) ⟨Nat.le_of_ble_eq_true rfl, Nat.le_of_ble_eq_true rfl⟩) rfl rfl (Nat.le_of_ble_eq_true rfl) dX4_selectNext_22 ⟨Nat.zero_le _, Nat.zero_le _⟩ ?_
      exact fk_iret hC hr hk dX4_selectNext_25 (by unfold sS_next; rw [h9]) rfl rfl
    · exact absurd rfl c13
  · have hj : j < cN z G := by have := srch_lt _ _ _ h9; omega
    refine fk_istore_n hC dX4_selectNext_10 rfl (by decide) rfl ?_
    refine fk_iload_n hC dX4_selectNext_11 rfl rfl ?_
    refine fk_iconst (v := (-1)) hC dX4_selectNext_12 (by decide) ?_
    refine fk_icmp_eq (tgt := 20) hC dX4_selectNext_13 (by decide) (fun c13 => ?_) (fun c13 => ?_)
    · exact absurd c13 (f_n1 (by omega))
    · refine fk_iload_n hC dX4_selectNext_16 rfl rfl ?_
      refine fk_goto (tgt := 25) hC dX4_selectNext_17 (by decide) ?_
      exact fk_iret hC hr hk dX4_selectNext_25 (by unfold sS_next; rw [h9]) rfl rfl

set_option maxHeartbeats 4000000 in
set_option maxRecDepth 100000 in
theorem kX4_selectByCredit (l : Launch) (D : va_G) (K : Nat → ClassId) (NL : List Nat) (ad : Nat → Nat) (G : fM) (x : fX) (z : Nat) (hz : f_ES NL z) (hI : f_I z G) : Kd l yX4_selectByCredit wsX4_selectByCredit { frames := 2, cells := 0, slots := 0, locals := 43 } vwCl D K NL ad [.ref (ad (nm z 0))] G x (some (.int (rI (sS_byCr z G)))) G x := by
  refine Kd.of (cc := cX4_selectByCredit) (maxL := 6) (ret := (some .int)) (L := [some (.ref (ad (nm z 0))), none, none, none, none, none]) (by decide +kernel) rfl rfl (Nat.le_of_ble_eq_true rfl) ?_
  intro p e s m args below meth c hC hN hr hk hnme
  have iX3 : ∀ w ∈ wsX30, w ∈ wsX4_selectByCredit := by decide +kernel
  have iX4 : ∀ w ∈ wsX40, w ∈ wsX4_selectByCredit := by decide +kernel
  have h10 := hI.c10
  have lp : ∀ (d : Nat) (k : Nat) (b : Option Nat) (bc : Int32), cN z G - k = d → k ≤ cN z G → (∀ j, b = some j → j < k) → fold9 (sS_crS z G) (cN z G) 0 (none, 0) = fold9 (sS_crS z G) (cN z G - k) k (b, bc) → Wk p l e { frames := 2, cells := 0, slots := 0, locals := 43 } s m args below meth c vwCl D K NL ad (f_A NL ad s.heap.size) s.heap 6 0 0 (MQ below (f_Post vwCl D K NL ad G x (some (.int (rI (sS_byCr z G)))) s.heap.size) args s 0 0 (f_A NL ad s.heap.size)) G x 6 [some (.ref (ad (nm z 0))), some (.int (rI b)), some (.int bc), some (.int (nI k)), none, none] [] := by
    intro d
    induction d using Nat.strongRecOn with
    | _ d ih =>
      intro k b bc hd hkn hb hs
      refine fk_iload_n hC dX4_selectByCredit_6 rfl rfl ?_
      refine fk_aload_n hC dX4_selectByCredit_7 rfl rfl ?_
      refine fk_getS_3 hC hz iX4 (by decide +kernel) dX4_selectByCredit_8 ?_
      refine fk_icmp_ge (tgt := 66) hC dX4_selectByCredit_11 (by decide) (fun c11 => ?_) (fun c11 => ?_)
      · rw [hI.c] at c11
        have q11 := f_le (by omega) (by omega) c11
        refine fk_iload_n hC dX4_selectByCredit_66 rfl rfl ?_
        exact fk_iret hC hr hk dX4_selectByCredit_67 (by unfold sS_byCr; rw [hs, fold9_end q11]) rfl rfl
      · rw [hI.c] at c11
        have q11 := f_nle (by omega) (by omega) c11
        refine fk_aload_n hC dX4_selectByCredit_14 rfl rfl ?_
        refine fk_getS_0 hC hz iX4 (by decide +kernel) dX4_selectByCredit_15 ?_
        refine fk_iload_n hC dX4_selectByCredit_18 rfl rfl ?_
        refine fk_ldV hC hz rfl (by omega) dX4_selectByCredit_19 ?_
        refine fk_astore hC dX4_selectByCredit_20 (by decide) rfl ?_
        refine fk_aload hC dX4_selectByCredit_22 rfl ?_
        refine fk_getV_4 hC hz (by omega) iX3 (by decide +kernel) dX4_selectByCredit_24 ?_
        refine fk_aload_n hC dX4_selectByCredit_27 rfl rfl ?_
        refine fk_aload hC dX4_selectByCredit_28 rfl ?_
        refine fk_callV hC hN (kX4_weightNow l D K NL ad _ x z hz k (by omega)) (hz.2 0 (by decide)) (f_e0 _ _ _ _ _ hz.1) rfl (cwV 1 hC.1.2.2.2.2 gX4_selectByCredit_X4_weightNow rfl rfl rfl (by decide +kernel) ⟨Nat.le_of_ble_eq_true rfl, Nat.le_of_ble_eq_true rfl⟩) rfl rfl (Nat.le_of_ble_eq_true rfl) dX4_selectByCredit_30 ⟨Nat.zero_le _, Nat.zero_le _⟩ ?_
        refine fk_iadd hC dX4_selectByCredit_33 ?_
        refine fk_istore hC dX4_selectByCredit_34 (by decide) rfl ?_
        refine fk_aload hC dX4_selectByCredit_36 rfl ?_
        refine fk_callV hC hN (kX3_accepts l D K NL ad _ x z k hz (by omega)) (hz.V (by omega)) (f_eV _ _ _ _ _ hz.1 (by omega)) rfl (cwV 0 hC.1.2.2.2.2 gX4_selectByCredit_X3_accepts rfl rfl rfl (by decide +kernel) ⟨Nat.le_of_ble_eq_true rfl, Nat.le_of_ble_eq_true rfl⟩) rfl rfl (Nat.le_of_ble_eq_true rfl) dX4_selectByCredit_38 ⟨Nat.zero_le _, Nat.zero_le _⟩ ?_
        refine fk_if_eq (tgt := 60) hC dX4_selectByCredit_41 (by decide) (fun c41 => ?_) (fun c41 => ?_)
        · refine fk_iinc hC dX4_selectByCredit_60 rfl (f_inc k) (by decide) rfl ?_
          refine fk_goto (tgt := 6) hC dX4_selectByCredit_63 (by decide) ?_
          refine fk_drop 4 ?_
          refine fk_drop 5 ?_
          exact ih (cN z G - (k + 1)) (by omega) (k + 1) b bc rfl (by omega) (fun j hj => Nat.lt_succ_of_lt (hb j hj)) (hs.trans ((fold9_step q11).trans (by rw [sS_crS, if_pos c41])))
        · refine fk_iload_n hC dX4_selectByCredit_44 rfl rfl ?_
          refine fk_iconst (v := (-1)) hC dX4_selectByCredit_45 (by decide) ?_
          refine fk_icmp_eq (tgt := 55) hC dX4_selectByCredit_46 (by decide) (fun c46 => ?_) (fun c46 => ?_)
          · have q46 : b = none := (rI_none (N := k) (by omega) hb).mp c46
            refine fk_iload_n hC dX4_selectByCredit_55 rfl rfl ?_
            refine fk_istore_n hC dX4_selectByCredit_56 rfl (by decide) rfl ?_
            refine fk_iload hC dX4_selectByCredit_57 rfl ?_
            refine fk_istore_n hC dX4_selectByCredit_59 rfl (by decide) rfl ?_
            refine fk_iinc hC dX4_selectByCredit_60 rfl (f_inc k) (by decide) rfl ?_
            refine fk_goto (tgt := 6) hC dX4_selectByCredit_63 (by decide) ?_
            refine fk_drop 4 ?_
            refine fk_drop 5 ?_
            exact ih (cN z G - (k + 1)) (by omega) (k + 1) (some k) _ rfl (by omega) (fun j hj => by cases hj; exact Nat.lt_succ_self _) (hs.trans ((fold9_step q11).trans (by rw [sS_crS, if_neg c41]; dsimp only; rw [if_pos q46]; rfl)))
          · have q46 : ¬ b = none := fun h => c46 ((rI_none (N := k) (by omega) hb).mpr h)
            refine fk_iload hC dX4_selectByCredit_49 rfl ?_
            refine fk_iload_n hC dX4_selectByCredit_51 rfl rfl ?_
            refine fk_icmp_le (tgt := 60) hC dX4_selectByCredit_52 (by decide) (fun c52 => ?_) (fun c52 => ?_)
            · refine fk_iinc hC dX4_selectByCredit_60 rfl (f_inc k) (by decide) rfl ?_
              refine fk_goto (tgt := 6) hC dX4_selectByCredit_63 (by decide) ?_
              refine fk_drop 4 ?_
              refine fk_drop 5 ?_
              exact ih (cN z G - (k + 1)) (by omega) (k + 1) b bc rfl (by omega) (fun j hj => Nat.lt_succ_of_lt (hb j hj)) (hs.trans ((fold9_step q11).trans (by rw [sS_crS, if_neg c41]; dsimp only; rw [if_neg q46, if_pos (show sS_cr z k G ≤ bc from c52)])))
            · refine fk_iload_n hC dX4_selectByCredit_55 rfl rfl ?_
              refine fk_istore_n hC dX4_selectByCredit_56 rfl (by decide) rfl ?_
              refine fk_iload hC dX4_selectByCredit_57 rfl ?_
              refine fk_istore_n hC dX4_selectByCredit_59 rfl (by decide) rfl ?_
              refine fk_iinc hC dX4_selectByCredit_60 rfl (f_inc k) (by decide) rfl ?_
              refine fk_goto (tgt := 6) hC dX4_selectByCredit_63 (by decide) ?_
              refine fk_drop 4 ?_
              refine fk_drop 5 ?_
              exact ih (cN z G - (k + 1)) (by omega) (k + 1) (some k) _ rfl (by omega) (fun j hj => by cases hj; exact Nat.lt_succ_self _) (hs.trans ((fold9_step q11).trans (by rw [sS_crS, if_neg c41]; dsimp only; rw [if_neg q46, if_neg (show ¬ sS_cr z k G ≤ bc from c52)]; rfl)))
  refine fk_iconst (v := (-1)) hC dX4_selectByCredit_0 (by decide) ?_
  refine fk_istore_n hC dX4_selectByCredit_1 rfl (by decide) rfl ?_
  refine fk_iconst (v := 0) hC dX4_selectByCredit_2 (by decide) ?_
  refine fk_istore_n hC dX4_selectByCredit_3 rfl (by decide) rfl ?_
  refine fk_iconst (v := 0) hC dX4_selectByCredit_4 (by decide) ?_
  refine fk_istore_n hC dX4_selectByCredit_5 rfl (by decide) rfl ?_
  exact lp (cN z G) 0 none 0 rfl (Nat.zero_le _) (fun j hj => nomatch hj) rfl

set_option maxHeartbeats 4000000 in
set_option maxRecDepth 100000 in
theorem kX4_selectLeastLoaded (l : Launch) (D : va_G) (K : Nat → ClassId) (NL : List Nat) (ad : Nat → Nat) (G : fM) (x : fX) (z : Nat) (hz : f_ES NL z) (hI : f_I z G) : Kd l yX4_selectLeastLoaded wsX4_selectLeastLoaded { frames := 3, cells := 0, slots := 0, locals := 65 } vwCl D K NL ad [.ref (ad (nm z 0))] G x (some (.int (rI (sS_ll z G)))) G x := by
  refine Kd.of (cc := cX4_selectLeastLoaded) (maxL := 3) (ret := (some .int)) (L := [some (.ref (ad (nm z 0))), none, none]) (by decide +kernel) rfl rfl (Nat.le_of_ble_eq_true rfl) ?_
  intro p e s m args below meth c hC hN hr hk hnme
  have iX4 : ∀ w ∈ wsX40, w ∈ wsX4_selectLeastLoaded := by decide +kernel
  have h10 := hI.c10
  have lp : ∀ (d : Nat) (k : Nat) (b : Option Nat), cN z G - k = d → k ≤ cN z G → (∀ j, b = some j → j < k) → fold9 (sS_llS z G) (cN z G) 0 none = fold9 (sS_llS z G) (cN z G - k) k b → Wk p l e { frames := 3, cells := 0, slots := 0, locals := 65 } s m args below meth c vwCl D K NL ad (f_A NL ad s.heap.size) s.heap 3 0 0 (MQ below (f_Post vwCl D K NL ad G x (some (.int (rI (sS_ll z G)))) s.heap.size) args s 0 0 (f_A NL ad s.heap.size)) G x 4 [some (.ref (ad (nm z 0))), some (.int (rI b)), some (.int (nI k))] [] := by
    intro d
    induction d using Nat.strongRecOn with
    | _ d ih =>
      intro k b hd hkn hb hs
      refine fk_iload_n hC dX4_selectLeastLoaded_4 rfl rfl ?_
      refine fk_aload_n hC dX4_selectLeastLoaded_5 rfl rfl ?_
      refine fk_getS_3 hC hz iX4 (by decide +kernel) dX4_selectLeastLoaded_6 ?_
      refine fk_icmp_ge (tgt := 55) hC dX4_selectLeastLoaded_9 (by decide) (fun c9 => ?_) (fun c9 => ?_)
      · rw [hI.c] at c9
        have q9 := f_le (by omega) (by omega) c9
        refine fk_iload_n hC dX4_selectLeastLoaded_55 rfl rfl ?_
        exact fk_iret hC hr hk dX4_selectLeastLoaded_56 (by unfold sS_ll; rw [hs, fold9_end q9]) rfl rfl
      · rw [hI.c] at c9
        have q9 := f_nle (by omega) (by omega) c9
        refine fk_aload_n hC dX4_selectLeastLoaded_12 rfl rfl ?_
        refine fk_getS_0 hC hz iX4 (by decide +kernel) dX4_selectLeastLoaded_13 ?_
        refine fk_iload_n hC dX4_selectLeastLoaded_16 rfl rfl ?_
        refine fk_ldV hC hz rfl (by omega) dX4_selectLeastLoaded_17 ?_
        refine fk_callV hC hN (kX3_accepts l D K NL ad _ x z k hz (by omega)) (hz.V (by omega)) (f_eV _ _ _ _ _ hz.1 (by omega)) rfl (cwV 0 hC.1.2.2.2.2 gX4_selectLeastLoaded_X3_accepts rfl rfl rfl (by decide +kernel) ⟨Nat.le_of_ble_eq_true rfl, Nat.le_of_ble_eq_true rfl⟩) rfl rfl (Nat.le_of_ble_eq_true rfl) dX4_selectLeastLoaded_18 ⟨Nat.zero_le _, Nat.zero_le _⟩ ?_
        refine fk_if_eq (tgt := 49) hC dX4_selectLeastLoaded_21 (by decide) (fun c21 => ?_) (fun c21 => ?_)
        · refine fk_iinc hC dX4_selectLeastLoaded_49 rfl (f_inc k) (by decide) rfl ?_
          refine fk_goto (tgt := 4) hC dX4_selectLeastLoaded_52 (by decide) ?_
          exact ih (cN z G - (k + 1)) (by omega) (k + 1) b rfl (by omega) (fun j hj => Nat.lt_succ_of_lt (hb j hj)) (hs.trans ((fold9_step q9).trans (by rw [sS_llS, if_pos c21])))
        · refine fk_iload_n hC dX4_selectLeastLoaded_24 rfl rfl ?_
          refine fk_iconst (v := (-1)) hC dX4_selectLeastLoaded_25 (by decide) ?_
          refine fk_icmp_eq (tgt := 47) hC dX4_selectLeastLoaded_26 (by decide) (fun c26 => ?_) (fun c26 => ?_)
          · have q26 : b = none := (rI_none (N := k) (by omega) hb).mp c26
            refine fk_iload_n hC dX4_selectLeastLoaded_47 rfl rfl ?_
            refine fk_istore_n hC dX4_selectLeastLoaded_48 rfl (by decide) rfl ?_
            refine fk_iinc hC dX4_selectLeastLoaded_49 rfl (f_inc k) (by decide) rfl ?_
            refine fk_goto (tgt := 4) hC dX4_selectLeastLoaded_52 (by decide) ?_
            exact ih (cN z G - (k + 1)) (by omega) (k + 1) (some k) rfl (by omega) (fun j hj => by cases hj; exact Nat.lt_succ_self _) (hs.trans ((fold9_step q9).trans (by rw [sS_llS, if_neg c21, if_pos q26])))
          · obtain ⟨j, rfl⟩ : ∃ j, b = some j := by
              cases b with
              | none => exact absurd rfl c26
              | some j => exact ⟨j, rfl⟩
            have hj := hb j rfl
            refine fk_aload_n hC dX4_selectLeastLoaded_29 rfl rfl ?_
            refine fk_aload_n hC dX4_selectLeastLoaded_30 rfl rfl ?_
            refine fk_getS_0 hC hz iX4 (by decide +kernel) dX4_selectLeastLoaded_31 ?_
            refine fk_iload_n hC dX4_selectLeastLoaded_34 rfl rfl ?_
            refine fk_ldV hC hz rfl (by omega) dX4_selectLeastLoaded_35 ?_
            refine fk_aload_n hC dX4_selectLeastLoaded_36 rfl rfl ?_
            refine fk_iload_n hC dX4_selectLeastLoaded_37 rfl rfl ?_
            refine fk_callV hC hN (kX4_serverAt l D K NL ad _ x z hz (cN z G) j hI.c hI.c10 (by omega)) (hz.2 0 (by decide)) (f_e0 _ _ _ _ _ hz.1) rfl (cwV 1 hC.1.2.2.2.2 gX4_selectLeastLoaded_X4_serverAt rfl rfl rfl (by decide +kernel) ⟨Nat.le_of_ble_eq_true rfl, Nat.le_of_ble_eq_true rfl⟩) rfl rfl (Nat.le_of_ble_eq_true rfl) dX4_selectLeastLoaded_38 ⟨Nat.zero_le _, Nat.zero_le _⟩ ?_
            refine fk_callV hC hN (kX4_isLessLoaded l D K NL ad _ x z hz k j (by omega) (by omega)) (hz.2 0 (by decide)) (f_e0 _ _ _ _ _ hz.1) rfl (cwV 2 hC.1.2.2.2.2 gX4_selectLeastLoaded_X4_isLessLoaded rfl rfl rfl (by decide +kernel) ⟨Nat.le_of_ble_eq_true rfl, Nat.le_of_ble_eq_true rfl⟩) rfl rfl (Nat.le_of_ble_eq_true rfl) dX4_selectLeastLoaded_41 ⟨Nat.zero_le _, Nat.zero_le _⟩ ?_
            refine fk_if_eq (tgt := 49) hC dX4_selectLeastLoaded_44 (by decide) (fun c44 => ?_) (fun c44 => ?_)
            · refine fk_iinc hC dX4_selectLeastLoaded_49 rfl (f_inc k) (by decide) rfl ?_
              refine fk_goto (tgt := 4) hC dX4_selectLeastLoaded_52 (by decide) ?_
              exact ih (cN z G - (k + 1)) (by omega) (k + 1) (some j) rfl (by omega) (fun j hj => Nat.lt_succ_of_lt (hb j hj)) (hs.trans ((fold9_step q9).trans (by rw [sS_llS, if_neg c21, if_neg (fun h => nomatch h), Option.getD_some, if_pos c44])))
            · refine fk_iload_n hC dX4_selectLeastLoaded_47 rfl rfl ?_
              refine fk_istore_n hC dX4_selectLeastLoaded_48 rfl (by decide) rfl ?_
              refine fk_iinc hC dX4_selectLeastLoaded_49 rfl (f_inc k) (by decide) rfl ?_
              refine fk_goto (tgt := 4) hC dX4_selectLeastLoaded_52 (by decide) ?_
              exact ih (cN z G - (k + 1)) (by omega) (k + 1) (some k) rfl (by omega) (fun j hj => by cases hj; exact Nat.lt_succ_self _) (hs.trans ((fold9_step q9).trans (by rw [sS_llS, if_neg c21, if_neg (fun h => nomatch h), Option.getD_some, if_neg c44])))
  refine fk_iconst (v := (-1)) hC dX4_selectLeastLoaded_0 (by decide) ?_
  refine fk_istore_n hC dX4_selectLeastLoaded_1 rfl (by decide) rfl ?_
  refine fk_iconst (v := 0) hC dX4_selectLeastLoaded_2 (by decide) ?_
  refine fk_istore_n hC dX4_selectLeastLoaded_3 rfl (by decide) rfl ?_
  exact lp (cN z G) 0 none rfl (Nat.zero_le _) (fun j hj => nomatch hj) rfl

set_option maxHeartbeats 4000000 in
set_option maxRecDepth 100000 in
theorem kX4_firstOnRing (l : Launch) (D : va_G) (K : Nat → ClassId) (NL : List Nat) (ad : Nat → Nat) (G : fM) (x : fX) (z : Nat) (hz : f_ES NL z) (hI : f_I z G) (cl on : Int32) : Kd l yX4_firstOnRing wsX4_firstOnRing { frames := 2, cells := 0, slots := 0, locals := 47 } vwCl D K NL ad [.ref (ad (nm z 0)), .int cl, .int on] G x (some (.int (rI (sS_rg z cl on G)))) G x := by
  refine Kd.of (cc := cX4_firstOnRing) (maxL := 8) (ret := (some .int)) (L := [some (.ref (ad (nm z 0))), some (.int cl), some (.int on), none, none, none, none, none]) (by decide +kernel) rfl rfl (Nat.le_of_ble_eq_true rfl) ?_
  intro p e s m args below meth c hC hN hr hk hnme
  have iX4 : ∀ w ∈ wsX40, w ∈ wsX4_firstOnRing := by decide +kernel
  have h10 := hI.c10
  have lp : ∀ (d : Nat) (k : Nat) (b : Option Nat) (bd : Int32), cN z G - k = d → k ≤ cN z G → (∀ j, b = some j → j < k) → fold9 (sS_rgS z G on (mix9 cl)) (cN z G) 0 (none, 0) = fold9 (sS_rgS z G on (mix9 cl)) (cN z G - k) k (b, bd) → Wk p l e { frames := 2, cells := 0, slots := 0, locals := 47 } s m args below meth c vwCl D K NL ad (f_A NL ad s.heap.size) s.heap 8 0 0 (MQ below (f_Post vwCl D K NL ad G x (some (.int (rI (sS_rg z cl on G)))) s.heap.size) args s 0 0 (f_A NL ad s.heap.size)) G x 14 [some (.ref (ad (nm z 0))), some (.int cl), some (.int on), some (.int (mix9 cl)), some (.int (rI b)), some (.int bd), some (.int (nI k)), none] [] := by
    intro d
    induction d using Nat.strongRecOn with
    | _ d ih =>
      intro k b bd hd hkn hb hs
      refine fk_iload hC dX4_firstOnRing_14 rfl ?_
      refine fk_aload_n hC dX4_firstOnRing_16 rfl rfl ?_
      refine fk_getS_3 hC hz iX4 (by decide +kernel) dX4_firstOnRing_17 ?_
      refine fk_icmp_ge (tgt := 85) hC dX4_firstOnRing_20 (by decide) (fun c20 => ?_) (fun c20 => ?_)
      · rw [hI.c] at c20
        have q20 := f_le (by omega) (by omega) c20
        refine fk_iload hC dX4_firstOnRing_85 rfl ?_
        exact fk_iret hC hr hk dX4_firstOnRing_87 (by unfold sS_rg; rw [hs, fold9_end q20]) rfl rfl
      · rw [hI.c] at c20
        have q20 := f_nle (by omega) (by omega) c20
        refine fk_iload_n hC dX4_firstOnRing_23 rfl rfl ?_
        refine fk_if_eq (tgt := 40) hC dX4_firstOnRing_24 (by decide) (fun c24 => ?_) (fun c24 => ?_)
        · refine fk_aload_n hC dX4_firstOnRing_40 rfl rfl ?_
          refine fk_getS_0 hC hz iX4 (by decide +kernel) dX4_firstOnRing_41 ?_
          refine fk_iload hC dX4_firstOnRing_44 rfl ?_
          refine fk_ldV hC hz rfl (by omega) dX4_firstOnRing_46 ?_
          refine fk_iload hC dX4_firstOnRing_47 rfl ?_
          refine fk_iload_n hC dX4_firstOnRing_49 rfl rfl ?_
          refine fk_callV hC hN (kX3_ringDistance l D K NL ad _ x z k hz (by omega) (wN z k G) (hI.w q20).1 (hI.w q20).2.1 (hI.w q20).2.2 _ _) (hz.V (by omega)) (f_eV _ _ _ _ _ hz.1 (by omega)) rfl (cwV 2 hC.1.2.2.2.2 gX4_firstOnRing_X3_ringDistance rfl rfl rfl (by decide +kernel) ⟨Nat.le_of_ble_eq_true rfl, Nat.le_of_ble_eq_true rfl⟩) rfl rfl (Nat.le_of_ble_eq_true rfl) dX4_firstOnRing_50 ⟨Nat.zero_le _, Nat.zero_le _⟩ ?_
          refine fk_istore hC dX4_firstOnRing_53 (by decide) rfl ?_
          refine fk_iload hC dX4_firstOnRing_55 rfl ?_
          refine fk_iconst (v := (-1)) hC dX4_firstOnRing_57 (by decide) ?_
          refine fk_icmp_eq (tgt := 71) hC dX4_firstOnRing_58 (by decide) (fun c58 => ?_) (fun c58 => ?_)
          · have q58 : b = none := (rI_none (N := k) (by omega) hb).mp c58
            refine fk_iload hC dX4_firstOnRing_71 rfl ?_
            refine fk_istore hC dX4_firstOnRing_73 (by decide) rfl ?_
            refine fk_iload hC dX4_firstOnRing_75 rfl ?_
            refine fk_istore hC dX4_firstOnRing_77 (by decide) rfl ?_
            refine fk_iinc hC dX4_firstOnRing_79 rfl (f_inc k) (by decide) rfl ?_
            refine fk_goto (tgt := 14) hC dX4_firstOnRing_82 (by decide) ?_
            refine fk_drop 7 ?_
            exact ih (cN z G - (k + 1)) (by omega) (k + 1) (some k) _ rfl (by omega) (fun j hj => by cases hj; exact Nat.lt_succ_self _) (hs.trans ((fold9_step q20).trans (by rw [sS_rgS, if_pos c24, sS_rgT, if_pos q58])))
          · have q58 : ¬ b = none := fun h => c58 ((rI_none (N := k) (by omega) hb).mpr h)
            refine fk_iload hC dX4_firstOnRing_61 rfl ?_
            refine fk_iload hC dX4_firstOnRing_63 rfl ?_
            refine fk_callSN hC hN (kX5_isBelowUnsigned l D K NL ad _ x _ _) ⟨va_cnB 2 hC.1.2.2.2.2 gX4_firstOnRing_X5_isBelowUnsigned_n167 rfl rfl rfl hN.2.2.2.2.1 (hC.ts (.initialized RX5) (by decide +kernel)) (by decide +kernel) ⟨Nat.le_of_ble_eq_true rfl, Nat.le_of_ble_eq_true rfl⟩, hC.ts (.static yX5_isBelowUnsigned) (by decide +kernel), trivial⟩ rfl rfl (Nat.le_of_ble_eq_true rfl) dX4_firstOnRing_65 ⟨Nat.zero_le _, Nat.zero_le _⟩ ?_
            refine fk_if_eq (tgt := 79) hC dX4_firstOnRing_68 (by decide) (fun c68 => ?_) (fun c68 => ?_)
            · refine fk_iinc hC dX4_firstOnRing_79 rfl (f_inc k) (by decide) rfl ?_
              refine fk_goto (tgt := 14) hC dX4_firstOnRing_82 (by decide) ?_
              refine fk_drop 7 ?_
              exact ih (cN z G - (k + 1)) (by omega) (k + 1) b bd rfl (by omega) (fun j hj => Nat.lt_succ_of_lt (hb j hj)) (hs.trans ((fold9_step q20).trans (by rw [sS_rgS, if_pos c24, sS_rgT, if_neg q58, if_pos c68])))
            · refine fk_iload hC dX4_firstOnRing_71 rfl ?_
              refine fk_istore hC dX4_firstOnRing_73 (by decide) rfl ?_
              refine fk_iload hC dX4_firstOnRing_75 rfl ?_
              refine fk_istore hC dX4_firstOnRing_77 (by decide) rfl ?_
              refine fk_iinc hC dX4_firstOnRing_79 rfl (f_inc k) (by decide) rfl ?_
              refine fk_goto (tgt := 14) hC dX4_firstOnRing_82 (by decide) ?_
              refine fk_drop 7 ?_
              exact ih (cN z G - (k + 1)) (by omega) (k + 1) (some k) _ rfl (by omega) (fun j hj => by cases hj; exact Nat.lt_succ_self _) (hs.trans ((fold9_step q20).trans (by rw [sS_rgS, if_pos c24, sS_rgT, if_neg q58, if_neg c68])))
        · refine fk_aload_n hC dX4_firstOnRing_27 rfl rfl ?_
          refine fk_getS_0 hC hz iX4 (by decide +kernel) dX4_firstOnRing_28 ?_
          refine fk_iload hC dX4_firstOnRing_31 rfl ?_
          refine fk_ldV hC hz rfl (by omega) dX4_firstOnRing_33 ?_
          refine fk_callV hC hN (kX3_accepts l D K NL ad _ x z k hz (by omega)) (hz.V (by omega)) (f_eV _ _ _ _ _ hz.1 (by omega)) rfl (cwV 0 hC.1.2.2.2.2 gX4_firstOnRing_X3_accepts rfl rfl rfl (by decide +kernel) ⟨Nat.le_of_ble_eq_true rfl, Nat.le_of_ble_eq_true rfl⟩) rfl rfl (Nat.le_of_ble_eq_true rfl) dX4_firstOnRing_34 ⟨Nat.zero_le _, Nat.zero_le _⟩ ?_
          refine fk_if_eq (tgt := 79) hC dX4_firstOnRing_37 (by decide) (fun c37 => ?_) (fun c37 => ?_)
          · refine fk_iinc hC dX4_firstOnRing_79 rfl (f_inc k) (by decide) rfl ?_
            refine fk_goto (tgt := 14) hC dX4_firstOnRing_82 (by decide) ?_
            exact ih (cN z G - (k + 1)) (by omega) (k + 1) b bd rfl (by omega) (fun j hj => Nat.lt_succ_of_lt (hb j hj)) (hs.trans ((fold9_step q20).trans (by rw [sS_rgS, if_neg c24, if_pos c37])))
          · refine fk_aload_n hC dX4_firstOnRing_40 rfl rfl ?_
            refine fk_getS_0 hC hz iX4 (by decide +kernel) dX4_firstOnRing_41 ?_
            refine fk_iload hC dX4_firstOnRing_44 rfl ?_
            refine fk_ldV hC hz rfl (by omega) dX4_firstOnRing_46 ?_
            refine fk_iload hC dX4_firstOnRing_47 rfl ?_
            refine fk_iload_n hC dX4_firstOnRing_49 rfl rfl ?_
            refine fk_callV hC hN (kX3_ringDistance l D K NL ad _ x z k hz (by omega) (wN z k G) (hI.w q20).1 (hI.w q20).2.1 (hI.w q20).2.2 _ _) (hz.V (by omega)) (f_eV _ _ _ _ _ hz.1 (by omega)) rfl (cwV 2 hC.1.2.2.2.2 gX4_firstOnRing_X3_ringDistance rfl rfl rfl (by decide +kernel) ⟨Nat.le_of_ble_eq_true rfl, Nat.le_of_ble_eq_true rfl⟩) rfl rfl (Nat.le_of_ble_eq_true rfl) dX4_firstOnRing_50 ⟨Nat.zero_le _, Nat.zero_le _⟩ ?_
            refine fk_istore hC dX4_firstOnRing_53 (by decide) rfl ?_
            refine fk_iload hC dX4_firstOnRing_55 rfl ?_
            refine fk_iconst (v := (-1)) hC dX4_firstOnRing_57 (by decide) ?_
            refine fk_icmp_eq (tgt := 71) hC dX4_firstOnRing_58 (by decide) (fun c58 => ?_) (fun c58 => ?_)
            · have q58 : b = none := (rI_none (N := k) (by omega) hb).mp c58
              refine fk_iload hC dX4_firstOnRing_71 rfl ?_
              refine fk_istore hC dX4_firstOnRing_73 (by decide) rfl ?_
              refine fk_iload hC dX4_firstOnRing_75 rfl ?_
              refine fk_istore hC dX4_firstOnRing_77 (by decide) rfl ?_
              refine fk_iinc hC dX4_firstOnRing_79 rfl (f_inc k) (by decide) rfl ?_
              refine fk_goto (tgt := 14) hC dX4_firstOnRing_82 (by decide) ?_
              refine fk_drop 7 ?_
              exact ih (cN z G - (k + 1)) (by omega) (k + 1) (some k) _ rfl (by omega) (fun j hj => by cases hj; exact Nat.lt_succ_self _) (hs.trans ((fold9_step q20).trans (by rw [sS_rgS, if_neg c24, if_neg c37, sS_rgT, if_pos q58])))
            · have q58 : ¬ b = none := fun h => c58 ((rI_none (N := k) (by omega) hb).mpr h)
              refine fk_iload hC dX4_firstOnRing_61 rfl ?_
              refine fk_iload hC dX4_firstOnRing_63 rfl ?_
              refine fk_callSN hC hN (kX5_isBelowUnsigned l D K NL ad _ x _ _) ⟨va_cnB 2 hC.1.2.2.2.2 gX4_firstOnRing_X5_isBelowUnsigned_n167 rfl rfl rfl hN.2.2.2.2.1 (hC.ts (.initialized RX5) (by decide +kernel)) (by decide +kernel) ⟨Nat.le_of_ble_eq_true rfl, Nat.le_of_ble_eq_true rfl⟩, hC.ts (.static yX5_isBelowUnsigned) (by decide +kernel), trivial⟩ rfl rfl (Nat.le_of_ble_eq_true rfl) dX4_firstOnRing_65 ⟨Nat.zero_le _, Nat.zero_le _⟩ ?_
              refine fk_if_eq (tgt := 79) hC dX4_firstOnRing_68 (by decide) (fun c68 => ?_) (fun c68 => ?_)
              · refine fk_iinc hC dX4_firstOnRing_79 rfl (f_inc k) (by decide) rfl ?_
                refine fk_goto (tgt := 14) hC dX4_firstOnRing_82 (by decide) ?_
                refine fk_drop 7 ?_
                exact ih (cN z G - (k + 1)) (by omega) (k + 1) b bd rfl (by omega) (fun j hj => Nat.lt_succ_of_lt (hb j hj)) (hs.trans ((fold9_step q20).trans (by rw [sS_rgS, if_neg c24, if_neg c37, sS_rgT, if_neg q58, if_pos c68])))
              · refine fk_iload hC dX4_firstOnRing_71 rfl ?_
                refine fk_istore hC dX4_firstOnRing_73 (by decide) rfl ?_
                refine fk_iload hC dX4_firstOnRing_75 rfl ?_
                refine fk_istore hC dX4_firstOnRing_77 (by decide) rfl ?_
                refine fk_iinc hC dX4_firstOnRing_79 rfl (f_inc k) (by decide) rfl ?_
                refine fk_goto (tgt := 14) hC dX4_firstOnRing_82 (by decide) ?_
                refine fk_drop 7 ?_
                exact ih (cN z G - (k + 1)) (by omega) (k + 1) (some k) _ rfl (by omega) (fun j hj => by cases hj; exact Nat.lt_succ_self _) (hs.trans ((fold9_step q20).trans (by rw [sS_rgS, if_neg c24, if_neg c37, sS_rgT, if_neg q58, if_neg c68])))
  refine fk_iload_n hC dX4_firstOnRing_0 rfl rfl ?_
  refine fk_callSN hC hN (kX5_mix l D K NL ad _ x _) ⟨va_cnB 1 hC.1.2.2.2.2 gX4_firstOnRing_X5_mix_n161 rfl rfl rfl hN.2.2.2.1 (hC.ts (.initialized RX5) (by decide +kernel)) (by decide +kernel) ⟨Nat.le_of_ble_eq_true rfl, Nat.le_of_ble_eq_true rfl⟩, hC.ts (.static yX5_mix) (by decide +kernel), trivial⟩ rfl rfl (Nat.le_of_ble_eq_true rfl) dX4_firstOnRing_1 ⟨Nat.zero_le _, Nat.zero_le _⟩ ?_
  refine fk_istore_n hC dX4_firstOnRing_4 rfl (by decide) rfl ?_
  refine fk_iconst (v := (-1)) hC dX4_firstOnRing_5 (by decide) ?_
  refine fk_istore hC dX4_firstOnRing_6 (by decide) rfl ?_
  refine fk_iconst (v := 0) hC dX4_firstOnRing_8 (by decide) ?_
  refine fk_istore hC dX4_firstOnRing_9 (by decide) rfl ?_
  refine fk_iconst (v := 0) hC dX4_firstOnRing_11 (by decide) ?_
  refine fk_istore hC dX4_firstOnRing_12 (by decide) rfl ?_
  exact lp (cN z G) 0 none 0 rfl (Nat.zero_le _) (fun j hj => nomatch hj) rfl

