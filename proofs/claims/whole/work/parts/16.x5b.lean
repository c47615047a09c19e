section FW8
section Rows8
variable {p : Program} {l : Launch} {e : Env} {R : Room} {s : State} {m : MethodId} {args : Array Value} {below : List Frame} {meth : Method} {c : Code} {cl : List vw_C} {D : va_G} {K : Nat → ClassId} {NL : List Nat} {ad : Nat → Nat} {A : Nat → Prop} {H0 : Heap} {nL cells slots : Nat} {Q : State → Prop}
variable {cc : ByteArray} {Ts : List Cond} {own : String} {G G1 : fM} {x x1 : fX} {pc : Nat} {L : List (Option Value)} {rest st0 : List Value} {rv : Option Value} {rm : Room}
theorem fk_ddiv {a b : UInt64} (hC : Cx p s m args c cc nL Ts own cl D K NL ad A H0) (hdg : decode cc pc = .ok (.ddiv, 1)) (hne : vf_n64 (FP.ddiv a b)) (kk : Wk p l e R s m args below meth c cl D K NL ad A H0 nL cells slots Q G x (pc + 1) L (.double (FP.ddiv a b) :: rest)) : Wk p l e R s m args below meth c cl D K NL ad A H0 nL cells slots Q G x pc L (.double b :: .double a :: rest) := fun H locs ls h1 h2 h3 => lv_ddiv hC.hx hC.hb hdg hne (kk H locs ls h1 h2 h3)
theorem fk_widen {k n : Nat} (h1 : cells ≤ k) (h2 : slots ≤ n) (kk : Wk p l e R s m args below meth c cl D K NL ad A H0 nL k n Q G x pc L st0) : Wk p l e R s m args below meth c cl D K NL ad A H0 nL cells slots Q G x pc L st0 := fun H locs ls a1 a2 a3 => W.widen h1 h2 (kk H locs ls a1 a2 a3)
end Rows8
end FW8
theorem sS_mcS_ne {z i g : Nat} {q : fM × Int32} (hi : i < 10) (h : g < 10000 * z + 100 ∨ 10000 * z + 400 ≤ g ∨ (∃ j, g = iV z j 0)) : (sS_mcS z i q).1 g = q.1 g := by
  unfold sS_mcS
  split
  · rfl
  · show upd _ _ _ g = _
    rw [pk_un]
    rcases h with h | h | ⟨j, rfl⟩
    · unfold iV; omega
    · unfold iV; omega
    · unfold iV; omega
theorem sS_mc1_ne {z g : Nat} {G : fM} (hc : cN z G ≤ 10) (h : g < 10000 * z + 100 ∨ 10000 * z + 400 ≤ g ∨ (∃ j, g = iV z j 0)) : (sS_mc1 z G).1 g = G g := by
  have := fold9_inv (F := sS_mcS z) (fun _ q => q.1 g = G g) (cN z G) 0 (G, 0) rfl (fun j b _ hj h9 => (sS_mcS_ne (by omega) h).trans h9)
  exact this
theorem sS_mc_ne {z j g : Nat} {G : fM} (hc : cN z G ≤ 10) (hj : j < 10) (h : g < 10000 * z + 100 ∨ 10000 * z + 400 ≤ g ∨ (∃ i, g = iV z i 0)) : sS_mc z j G g = G g := by
  unfold sS_mc
  rw [pk_un, sS_mc1_ne hc h]
  rcases h with h | h | ⟨i, rfl⟩
  · unfold iV; omega
  · unfold iV; omega
  · unfold iV; omega
/-- the state's own facts are kept by what leaves their places alone -/
theorem f_I.of_eq {z : Nat} {G M : fM} (h : f_I z G) (e0 : M (iS z 0) = G (iS z 0)) (e7 : M (iS z 7) = G (iS z 7)) (e20 : M (iS z 20) = G (iS z 20)) (e21 : M (iS z 21) = G (iS z 21)) (eV : ∀ i, M (iV z i 0) = G (iV z i 0)) (eK : ∀ j, M (iA z 450 j) = G (iA z 450 j)) (eC : ∀ j, M (iA z 1000 j) = G (iA z 1000 j)) : f_I z M := by
  unfold f_I cN nN oN wN kN svN coN at h ⊢
  simp only [e0, e7, e20, e21, eV, eK, eC]
  exact h
theorem f_I.note {z j : Nat} {G : fM} (h : f_I z G) (hj : j < cN z G) : f_I z (sS_note z j G) := by
  have h10 := h.c10
  unfold sS_note
  split
  · have e : ∀ g, g ≠ iS z 7 → upd G (iS z 7) (nI j) g = G g := fun g hg => pk_un hg
    have e7 : upd G (iS z 7) (nI j) (iS z 7) = nI j := pk_us
    have e0 := e (iS z 0) (by unfold iS; omega)
    have e20 := e (iS z 20) (by unfold iS; omega)
    have e21 := e (iS z 21) (by unfold iS; omega)
    have eV : ∀ i, upd G (iS z 7) (nI j) (iV z i 0) = G (iV z i 0) := fun i => e _ (by unfold iS iV; omega)
    have eK : ∀ i, upd G (iS z 7) (nI j) (iA z 450 i) = G (iA z 450 i) := fun i => e _ (by unfold iS iA; omega)
    have eC : ∀ i, upd G (iS z 7) (nI j) (iA z 1000 i) = G (iA z 1000 i) := fun i => e _ (by unfold iS iA; omega)
    have hk : nI j + 1 = nI (nI j + 1).toNatClampNeg ∧ (nI j + 1).toNatClampNeg ≤ 10 := by
      rw [nI_1, nI_clamp (by omega)]
      exact ⟨rfl, by omega⟩
    unfold f_I cN nN oN wN kN svN coN at h ⊢
    simp only [e0, e7, e20, e21, eV, eK, eC]
    exact ⟨h.1, h.2.1, h.2.2.1, h.2.2.2.1, hk, h.2.2.2.2.2.1, h.2.2.2.2.2.2⟩
  · split
    · exact h.of_eq (sS_mc_ne h10 (by omega) (by unfold iS; omega)) (sS_mc_ne h10 (by omega) (by unfold iS; omega)) (sS_mc_ne h10 (by omega) (by unfold iS; omega)) (sS_mc_ne h10 (by omega) (by unfold iS; omega)) (fun i => sS_mc_ne h10 (by omega) (Or.inr (Or.inr ⟨i, rfl⟩))) (fun i => sS_mc_ne h10 (by omega) (by unfold iA; omega)) (fun i => sS_mc_ne h10 (by omega) (by unfold iA; omega))
    · split
      · exact h.upS (by decide) (by decide) (by decide) (by decide) (by decide)
      · exact h
theorem sS_note_S {z j k : Nat} {G : fM} (hc : cN z G ≤ 10) (hj : j < 10) (hk : k < 100) (h7 : k ≠ 7) (h8 : k ≠ 8) : sS_note z j G (iS z k) = G (iS z k) := by
  unfold sS_note
  split
  · rw [pk_un (by unfold iS; omega)]
  · split
    · rw [sS_mc_ne hc hj (by unfold iS; omega)]
    · split
      · rw [pk_un (by unfold iS; omega)]
      · rfl
/-- a call of the policy answers a server that is there -/
theorem sS_first_lt {z k0 j : Nat} {G : fM} (h : sS_first z k0 G = some j) : j < cN z G := by
  unfold sS_first at h
  have := srch_lt _ _ _ h
  omega
theorem sS_pol_lt {z j : Nat} {cl : Int32} {G : fM} (h : sS_pol z cl G = some j) : j < cN z G := by
  unfold sS_pol at h
  split at h
  · unfold sS_next at h
    split at h
    · rename_i i hi
      cases h
      exact sS_first_lt hi
    · exact sS_first_lt h
  · split at h
    · have := fold9_inv (F := sS_crS z G) (fun k q => ∀ i, q.1 = some i → i < k) (cN z G) 0 (none, 0) (fun i hi => nomatch hi) (fun k b _ _ hb i hi => by
        unfold sS_crS at hi
        split at hi
        · exact Nat.lt_succ_of_lt (hb i hi)
        · split at hi
          · cases hi; exact Nat.lt_succ_self _
          · split at hi
            · exact Nat.lt_succ_of_lt (hb i hi)
            · cases hi; exact Nat.lt_succ_self _)
      have := this j h
      omega
    · split at h
      · have := fold9_inv (F := sS_llS z G) (fun k q => ∀ i, q = some i → i < k) (cN z G) 0 none (fun i hi => nomatch hi) (fun k b _ _ hb i hi => by
          unfold sS_llS at hi
          split at hi
          · exact Nat.lt_succ_of_lt (hb i hi)
          · split at hi
            · cases hi; exact Nat.lt_succ_self _
            · split at hi
              · exact Nat.lt_succ_of_lt (hb i hi)
              · cases hi; exact Nat.lt_succ_self _)
        have := this j h
        omega
      · split at h
        · have hT : ∀ (k : Nat) (b : Option Nat × Int32), (∀ i, b.1 = some i → i < k) → ∀ i, (sS_rgT z G (mix9 cl) k b).1 = some i → i < k + 1 := by
            intro k b hb i hi
            unfold sS_rgT at hi
            split at hi
            · cases hi; exact Nat.lt_succ_self _
            · split at hi
              · exact Nat.lt_succ_of_lt (hb i hi)
              · cases hi; exact Nat.lt_succ_self _
          have := fold9_inv (F := sS_rgS z G 1 (mix9 cl)) (fun k q => ∀ i, q.1 = some i → i < k) (cN z G) 0 (none, 0) (fun i hi => nomatch hi) (fun k b _ _ hb i hi => by
            unfold sS_rgS at hi
            split at hi
            · exact hT k b hb i hi
            · split at hi
              · exact Nat.lt_succ_of_lt (hb i hi)
              · exact hT k b hb i hi)
          have := this j h
          omega
        · unfold sS_two at h
          split at h
          · cases h
          · rename_i h0
            obtain ⟨j1, e1, hj1⟩ := sS_at_some (z := z) (t := sS_i1 z G) (G := G) (Nat.mod_lt _ (Nat.pos_of_ne_zero h0))
            obtain ⟨j2, e2, hj2⟩ := sS_at_some (z := z) (t := sS_i2 z G) (G := G) (Nat.mod_lt _ (Nat.pos_of_ne_zero h0))
            split at h
            · rw [e1] at h; cases h; exact hj1
            · rw [e2] at h; cases h; exact hj2
theorem sS_for_some {z j : Nat} {cl : Int32} {G : fM} (hI : f_I z G) (h : sS_for z cl G = some j) : j < cN z G ∧ oN z G < 1000 := by
  unfold sS_for at h
  split at h
  · rename_i ho
    refine ⟨?_, ?_⟩
    · split at h
      · rename_i i hi
        cases h
        exact sS_stk_lt hI hi
      · exact sS_pol_lt h
    · rw [hI.o] at ho
      exact f_lt (b := 1000) (by have := hI.o1000; omega) (by decide) ho
  · cases h
/-- open: what the policy notes; then the connection -/
def sP_opM (j : Nat) (cl : Int32) (G : fM) : fM := match sS_stk 0 cl G with
  | some _ => G
  | none => sS_note 0 j G
def sP_op (j : Nat) (cl : Int32) (G : fM) : fM := sS_con 0 j cl (sP_opM j cl G)

set_option maxHeartbeats 4000000 in
set_option maxRecDepth 100000 in
theorem kX5_open (l : Launch) (D : va_G) (K : Nat → ClassId) (NL : List Nat) (ad : Nat → Nat) (G : fM) (x : fX) (hp : 300 ∈ NL) (hz : f_ES NL 0) (hI : f_I 0 G) (cl : Int32) (j : Nat) (hf : sS_for 0 cl G = some j) : Kd l yX5_open wsX5_open { frames := 6, cells := 0, slots := 0, locals := 131 } vwCl D K NL ad [.ref (ad 300), .int cl] G x (some (.int (nI (oN 0 (sP_opM j cl G))))) (sP_op j cl G) x := by
  refine Kd.of (cc := cX5_open) (maxL := 3) (ret := (some .int)) (L := [some (.ref (ad 300)), some (.int cl), none]) (by decide +kernel) rfl rfl (Nat.le_of_ble_eq_true rfl) ?_
  intro p e s m args below meth c hC hN hr hk hnme
  have iX5 : ∀ w ∈ wsX50, w ∈ wsX5_open := by decide +kernel
  have h10 := hI.c10
  have hj := (sS_for_some hI hf).1
  have ho := (sS_for_some hI hf).2
  refine fk_aload_n hC dX5_open_0 rfl rfl ?_
  refine fk_getP_0 hC hp iX5 (by decide +kernel) dX5_open_1 ?_
  refine fk_iload_n hC dX5_open_4 rfl rfl ?_
  refine fk_callV hC hN (kX4_serverFor l D K NL ad _ x 0 hz hI _) (hz.2 0 (by decide)) (f_e0 _ _ _ _ _ hz.1) rfl (cwV 1 hC.1.2.2.2.2 gX5_open_X4_serverFor rfl rfl rfl (by decide +kernel) ⟨Nat.le_of_ble_eq_true rfl, Nat.le_of_ble_eq_true rfl⟩) rfl rfl (Nat.le_of_ble_eq_true rfl) dX5_open_5 ⟨Nat.zero_le _, Nat.zero_le _⟩ ?_
  rw [hf]
  refine fk_istore_n hC dX5_open_8 rfl (by decide) rfl ?_
  refine fk_iload_n hC dX5_open_9 rfl rfl ?_
  refine fk_iconst (v := (-1)) hC dX5_open_10 (by decide) ?_
  refine fk_icmp_ne (tgt := 37) hC dX5_open_11 (by decide) (fun c11 => ?_) (fun c11 => ?_)
  · refine fk_aload_n hC dX5_open_37 rfl rfl ?_
    refine fk_getP_0 hC hp iX5 (by decide +kernel) dX5_open_38 ?_
    refine fk_iload_n hC dX5_open_41 rfl rfl ?_
    refine fk_callV hC hN (kX4_stickyServer l D K NL ad _ x 0 hz hI _) (hz.2 0 (by decide)) (f_e0 _ _ _ _ _ hz.1) rfl (cwV 1 hC.1.2.2.2.2 gX5_open_X4_stickyServer rfl rfl rfl (by decide +kernel) ⟨Nat.le_of_ble_eq_true rfl, Nat.le_of_ble_eq_true rfl⟩) rfl rfl (Nat.le_of_ble_eq_true rfl) dX5_open_42 ⟨Nat.zero_le _, Nat.zero_le _⟩ ?_
    rcases h9 : sS_stk 0 cl G with _ | t
    · refine fk_iconst (v := (-1)) hC dX5_open_45 (by decide) ?_
      refine fk_icmp_ne (tgt := 57) hC dX5_open_46 (by decide) (fun c46 => ?_) (fun c46 => ?_)
      · exact absurd rfl c46
      · refine fk_aload_n hC dX5_open_49 rfl rfl ?_
        refine fk_getP_0 hC hp iX5 (by decide +kernel) dX5_open_50 ?_
        refine fk_iload_n hC dX5_open_53 rfl rfl ?_
        refine fk_callV hC hN (kX4_noteSelection l D K NL ad _ x 0 hz hI j (sS_for_some hI hf).1) (hz.2 0 (by decide)) (f_e0 _ _ _ _ _ hz.1) rfl (cwV 1 hC.1.2.2.2.2 gX5_open_X4_noteSelection rfl rfl rfl (by decide +kernel) ⟨Nat.le_of_ble_eq_true rfl, Nat.le_of_ble_eq_true rfl⟩) rfl rfl (Nat.le_of_ble_eq_true rfl) dX5_open_54 ⟨Nat.zero_le _, Nat.zero_le _⟩ ?_
        refine fk_aload_n hC dX5_open_57 rfl rfl ?_
        refine fk_getP_0 hC hp iX5 (by decide +kernel) dX5_open_58 ?_
        refine fk_iload_n hC dX5_open_61 rfl rfl ?_
        refine fk_iload_n hC dX5_open_62 rfl rfl ?_
        refine fk_callV hC hN (kX4_connect l D K NL ad _ x 0 hz (hI.note (sS_for_some hI hf).1) _ j (by rw [show cN 0 (sS_note 0 j G) = cN 0 G by unfold cN; rw [sS_note_S h10 (by omega) (by decide) (by decide) (by decide)]]; exact hj) (by rw [show oN 0 (sS_note 0 j G) = oN 0 G by unfold oN; rw [sS_note_S h10 (by omega) (by decide) (by decide) (by decide)]]; exact ho)) (hz.2 0 (by decide)) (f_e0 _ _ _ _ _ hz.1) rfl (cwV 2 hC.1.2.2.2.2 gX5_open_X4_connect rfl rfl rfl (by decide +kernel) ⟨Nat.le_of_ble_eq_true rfl, Nat.le_of_ble_eq_true rfl⟩) rfl rfl (Nat.le_of_ble_eq_true rfl) dX5_open_63 ⟨Nat.zero_le _, Nat.zero_le _⟩ ?_
        exact fk_iret hC hr hk dX5_open_66 (by unfold sP_opM; rw [h9]) (by unfold sP_op sP_opM; rw [h9]) rfl
    · have ht := sS_stk_lt hI h9
      refine fk_iconst (v := (-1)) hC dX5_open_45 (by decide) ?_
      refine fk_icmp_ne (tgt := 57) hC dX5_open_46 (by decide) (fun c46 => ?_) (fun c46 => ?_)
      · refine fk_aload_n hC dX5_open_57 rfl rfl ?_
        refine fk_getP_0 hC hp iX5 (by decide +kernel) dX5_open_58 ?_
        refine fk_iload_n hC dX5_open_61 rfl rfl ?_
        refine fk_iload_n hC dX5_open_62 rfl rfl ?_
        refine fk_callV hC hN (kX4_connect l D K NL ad _ x 0 hz hI _ j (sS_for_some hI hf).1 (sS_for_some hI hf).2) (hz.2 0 (by decide)) (f_e0 _ _ _ _ _ hz.1) rfl (cwV 2 hC.1.2.2.2.2 gX5_open_X4_connect rfl rfl rfl (by decide +kernel) ⟨Nat.le_of_ble_eq_true rfl, Nat.le_of_ble_eq_true rfl⟩) rfl rfl (Nat.le_of_ble_eq_true rfl) dX5_open_63 ⟨Nat.zero_le _, Nat.zero_le _⟩ ?_
        exact fk_iret hC hr hk dX5_open_66 (by unfold sP_opM; rw [h9]) (by unfold sP_op sP_opM; rw [h9]) rfl
      · exact absurd c46 (f_n1 (by omega))
  · exact absurd c11 (f_n1 (by omega))

set_option maxHeartbeats 4000000 in
set_option maxRecDepth 100000 in
theorem tX5_open (l : Launch) (D : va_G) (K : Nat → ClassId) (NL : List Nat) (ad : Nat → Nat) (G : fM) (x : fX) (hst : l.stackTraces = false) (hp : 300 ∈ NL) (hz : f_ES NL 0) (hI : f_I 0 G) (cl : Int32) (hf : sS_for 0 cl G = none) : Kt l yX5_open wsX5_open { frames := 6, cells := 1, slots := 6, locals := 131 } vwCl D K NL ad [.ref (ad 300), .int cl] G x xISE (upd G (iS 0 10) (G (iS 0 10) + 1)) x := by
  refine Kt.of (cc := cX5_open) (maxL := 3) (ret := (some .int)) (L := [some (.ref (ad 300)), some (.int cl), none]) hst (by decide +kernel) rfl rfl (Nat.le_of_ble_eq_true rfl) ?_
  intro p e s m args below meth c hC hX htab hr hk
  have hN := hX.2.1
  have iX4 : ∀ w ∈ wsX40, w ∈ wsX5_open := by decide +kernel
  have iX5 : ∀ w ∈ wsX50, w ∈ wsX5_open := by decide +kernel
  refine fk_aload_n hC dX5_open_0 rfl rfl ?_
  refine fk_getP_0 hC hp iX5 (by decide +kernel) dX5_open_1 ?_
  refine fk_iload_n hC dX5_open_4 rfl rfl ?_
  refine fk_callV hC hN (kX4_serverFor l D K NL ad _ x 0 hz hI _) (hz.2 0 (by decide)) (f_e0 _ _ _ _ _ hz.1) rfl (cwV 1 hC.1.2.2.2.2 gX5_open_X4_serverFor rfl rfl rfl (by decide +kernel) ⟨Nat.le_of_ble_eq_true rfl, Nat.le_of_ble_eq_true rfl⟩) rfl rfl (Nat.le_of_ble_eq_true rfl) dX5_open_5 ⟨Nat.zero_le _, Nat.zero_le _⟩ ?_
  rw [hf]
  refine fk_istore_n hC dX5_open_8 rfl (by decide) rfl ?_
  refine fk_iload_n hC dX5_open_9 rfl rfl ?_
  refine fk_iconst (v := (-1)) hC dX5_open_10 (by decide) ?_
  refine fk_icmp_ne (tgt := 37) hC dX5_open_11 (by decide) (fun c11 => ?_) (fun c11 => ?_)
  · exact absurd rfl c11
  · refine fk_aload_n hC dX5_open_14 rfl rfl ?_
    refine fk_getP_0 hC hp iX5 (by decide +kernel) dX5_open_15 ?_
    refine fk_dup hC dX5_open_18 rfl ?_
    refine fk_getS_13 hC hz iX4 (by decide +kernel) dX5_open_19 ?_
    refine fk_iconst (v := 1) hC dX5_open_22 (by decide) ?_
    refine fk_iadd hC dX5_open_23 ?_
    refine fk_putS_13 hC hz iX4 (by decide +kernel) dX5_open_24 ?_
    obtain ⟨sa, hsa⟩ := hX.2.2.1.2.2.2.2.1
    exact fk_throw hC hX htab hk (by decide +kernel) (by decide +kernel) (by decide +kernel) hsa (by decide +kernel) f_bad2 hX.2.2.1.bad2 (by decide +kernel) dX5_open_27 dX5_open_30 dX5_open_31 dX5_open_33 dX5_open_36 (Nat.le_of_ble_eq_true rfl) (Nat.le_of_ble_eq_true rfl) (Nat.le_of_ble_eq_true rfl) (Nat.le_of_ble_eq_true rfl) (Nat.le_of_ble_eq_true rfl) (Nat.le_of_ble_eq_true rfl) rfl rfl

set_option maxHeartbeats 4000000 in
set_option maxRecDepth 100000 in
theorem kX5_close (l : Launch) (D : va_G) (K : Nat → ClassId) (NL : List Nat) (ad : Nat → Nat) (G : fM) (x : fX) (hp : 300 ∈ NL) (hz : f_ES NL 0) (hI : f_I 0 G) (k : Nat) (hk9 : k < oN 0 G) (gd : Int32) (h : ¬ G (iA 0 3000 k) = 0) : Kd l yX5_close wsX5_close { frames := 4, cells := 0, slots := 0, locals := 89 } vwCl D K NL ad [.ref (ad 300), .int (nI k), .int gd] G x (some (.int (sS_dis 0 k gd G (iS 0 9) - sS_dis 0 k gd G (iA 0 2000 k)))) (sS_dis 0 k gd G) x := by
  refine Kd.of (cc := cX5_close) (maxL := 3) (ret := (some .int)) (L := [some (.ref (ad 300)), some (.int (nI k)), some (.int gd)]) (by decide +kernel) rfl rfl (Nat.le_of_ble_eq_true rfl) ?_
  intro p e s m args below meth c hC hN hr hk hnme
  have iX2 : ∀ w ∈ wsX20, w ∈ wsX5_close := by decide +kernel
  have iX4 : ∀ w ∈ wsX40, w ∈ wsX5_close := by decide +kernel
  have iX5 : ∀ w ∈ wsX50, w ∈ wsX5_close := by decide +kernel
  have h1000 := hI.o1000
  refine fk_aload_n hC dX5_close_0 rfl rfl ?_
  refine fk_iload_n hC dX5_close_1 rfl rfl ?_
  refine fk_callV hC hN (kX5_requireConnection l D K NL ad _ x hp hz hI k hk9) hp (f_E300 _ _ _ _ _) rfl (cwV 1 hC.1.2.2.2.2 gX5_close_X5_requireConnection rfl rfl rfl (by decide +kernel) ⟨Nat.le_of_ble_eq_true rfl, Nat.le_of_ble_eq_true rfl⟩) rfl rfl (Nat.le_of_ble_eq_true rfl) dX5_close_2 ⟨Nat.zero_le _, Nat.zero_le _⟩ ?_
  refine fk_aload_n hC dX5_close_5 rfl rfl ?_
  refine fk_getP_0 hC hp iX5 (by decide +kernel) dX5_close_6 ?_
  refine fk_getS_1 hC hz iX4 (by decide +kernel) dX5_close_9 ?_
  refine fk_getC_2 hC hz iX2 (by decide +kernel) dX5_close_12 ?_
  refine fk_iload_n hC dX5_close_15 rfl rfl ?_
  refine fk_ld_5 hC hz rfl (by omega) dX5_close_16 ?_
  refine fk_if_ne (tgt := 30) hC dX5_close_17 (by decide) (fun c17 => ?_) (fun c17 => ?_)
  · refine fk_aload_n hC dX5_close_30 rfl rfl ?_
    refine fk_getP_0 hC hp iX5 (by decide +kernel) dX5_close_31 ?_
    refine fk_iload_n hC dX5_close_34 rfl rfl ?_
    refine fk_iload_n hC dX5_close_35 rfl rfl ?_
    refine fk_callV hC hN (kX4_disconnect l D K NL ad _ x 0 hz hI k hk9 _) (hz.2 0 (by decide)) (f_e0 _ _ _ _ _ hz.1) rfl (cwV 2 hC.1.2.2.2.2 gX5_close_X4_disconnect rfl rfl rfl (by decide +kernel) ⟨Nat.le_of_ble_eq_true rfl, Nat.le_of_ble_eq_true rfl⟩) rfl rfl (Nat.le_of_ble_eq_true rfl) dX5_close_36 ⟨Nat.zero_le _, Nat.zero_le _⟩ ?_
    exact fk_iret hC hr hk dX5_close_39 rfl rfl rfl
  · exact absurd c17 h

set_option maxHeartbeats 4000000 in
set_option maxRecDepth 100000 in
theorem tX5_close_1 (l : Launch) (D : va_G) (K : Nat → ClassId) (NL : List Nat) (ad : Nat → Nat) (G : fM) (x : fX) (hst : l.stackTraces = false) (hp : 300 ∈ NL) (hz : f_ES NL 0) (v gd : Int32) (h : v < 0 ∨ ¬ v < G (iS 0 20)) : Kt l yX5_close wsX5_close { frames := 7, cells := 1, slots := 6, locals := 111 } vwCl D K NL ad [.ref (ad 300), .int v, .int gd] G x xIOB G x := by
  refine Kt.of (cc := cX5_close) (maxL := 3) (ret := (some .int)) (L := [some (.ref (ad 300)), some (.int v), some (.int gd)]) hst (by decide +kernel) rfl rfl (Nat.le_of_ble_eq_true rfl) ?_
  intro p e s m args below meth c hC hX htab hr hk
  have hN := hX.2.1
  refine fk_aload_n hC dX5_close_0 rfl rfl ?_
  refine fk_iload_n hC dX5_close_1 rfl rfl ?_
  exact fk_xcallV hC hX (tX5_requireConnection l D K NL ad _ x hst hp hz _ h) hp (f_E300 _ _ _ _ _) rfl (cwV 1 hC.1.2.2.2.2 gX5_close_X5_requireConnection rfl rfl rfl (by decide +kernel) ⟨Nat.le_of_ble_eq_true rfl, Nat.le_of_ble_eq_true rfl⟩) rfl rfl (Nat.le_of_ble_eq_true rfl) dX5_close_2 ⟨Nat.le_of_ble_eq_true rfl, Nat.le_of_ble_eq_true rfl⟩ (fun H1 locs1 ls q ce a1 a2 a3 a4 a5 a6 => fk_xout htab hk a1 a2 a4 a5 a6 (Nat.le_of_ble_eq_true rfl) (Nat.le_of_ble_eq_true rfl))

set_option maxHeartbeats 4000000 in
set_option maxRecDepth 100000 in
theorem tX5_close_2 (l : Launch) (D : va_G) (K : Nat → ClassId) (NL : List Nat) (ad : Nat → Nat) (G : fM) (x : fX) (hst : l.stackTraces = false) (hp : 300 ∈ NL) (hz : f_ES NL 0) (hI : f_I 0 G) (k : Nat) (hk9 : k < oN 0 G) (gd : Int32) (h : G (iA 0 3000 k) = 0) : Kt l yX5_close wsX5_close { frames := 6, cells := 1, slots := 6, locals := 90 } vwCl D K NL ad [.ref (ad 300), .int (nI k), .int gd] G x xISE G x := by
  refine Kt.of (cc := cX5_close) (maxL := 3) (ret := (some .int)) (L := [some (.ref (ad 300)), some (.int (nI k)), some (.int gd)]) hst (by decide +kernel) rfl rfl (Nat.le_of_ble_eq_true rfl) ?_
  intro p e s m args below meth c hC hX htab hr hk
  have hN := hX.2.1
  have iX2 : ∀ w ∈ wsX20, w ∈ wsX5_close := by decide +kernel
  have iX4 : ∀ w ∈ wsX40, w ∈ wsX5_close := by decide +kernel
  have iX5 : ∀ w ∈ wsX50, w ∈ wsX5_close := by decide +kernel
  have h1000 := hI.o1000
  refine fk_aload_n hC dX5_close_0 rfl rfl ?_
  refine fk_iload_n hC dX5_close_1 rfl rfl ?_
  refine fk_callV hC hN (kX5_requireConnection l D K NL ad _ x hp hz hI k hk9) hp (f_E300 _ _ _ _ _) rfl (cwV 1 hC.1.2.2.2.2 gX5_close_X5_requireConnection rfl rfl rfl (by decide +kernel) ⟨Nat.le_of_ble_eq_true rfl, Nat.le_of_ble_eq_true rfl⟩) rfl rfl (Nat.le_of_ble_eq_true rfl) dX5_close_2 ⟨Nat.zero_le _, Nat.zero_le _⟩ ?_
  refine fk_aload_n hC dX5_close_5 rfl rfl ?_
  refine fk_getP_0 hC hp iX5 (by decide +kernel) dX5_close_6 ?_
  refine fk_getS_1 hC hz iX4 (by decide +kernel) dX5_close_9 ?_
  refine fk_getC_2 hC hz iX2 (by decide +kernel) dX5_close_12 ?_
  refine fk_iload_n hC dX5_close_15 rfl rfl ?_
  refine fk_ld_5 hC hz rfl (by omega) dX5_close_16 ?_
  refine fk_if_ne (tgt := 30) hC dX5_close_17 (by decide) (fun c17 => ?_) (fun c17 => ?_)
  · exact absurd h c17
  · obtain ⟨sa, hsa⟩ := hX.2.2.1.2.2.2.2.2.1
    exact fk_throw hC hX htab hk (by decide +kernel) (by decide +kernel) (by decide +kernel) hsa (by decide +kernel) f_bad2 hX.2.2.1.bad2 (by decide +kernel) dX5_close_20 dX5_close_23 dX5_close_24 dX5_close_26 dX5_close_29 (Nat.le_of_ble_eq_true rfl) (Nat.le_of_ble_eq_true rfl) (Nat.le_of_ble_eq_true rfl) (Nat.le_of_ble_eq_true rfl) (Nat.le_of_ble_eq_true rfl) (Nat.le_of_ble_eq_true rfl) rfl rfl

set_option maxHeartbeats 4000000 in
set_option maxRecDepth 100000 in
theorem kX5_serverOf (l : Launch) (D : va_G) (K : Nat → ClassId) (NL : List Nat) (ad : Nat → Nat) (G : fM) (x : fX) (hp : 300 ∈ NL) (hz : f_ES NL 0) (hI : f_I 0 G) (k : Nat) (hk9 : k < oN 0 G) : Kd l yX5_serverOf wsX5_serverOf { frames := 1, cells := 0, slots := 0, locals := 21 } vwCl D K NL ad [.ref (ad 300), .int (nI k)] G x (some (.int (G (iA 0 1000 k)))) G x := by
  refine Kd.of (cc := cX5_serverOf) (maxL := 2) (ret := (some .int)) (L := [some (.ref (ad 300)), some (.int (nI k))]) (by decide +kernel) rfl rfl (Nat.le_of_ble_eq_true rfl) ?_
  intro p e s m args below meth c hC hN hr hk hnme
  have iX2 : ∀ w ∈ wsX20, w ∈ wsX5_serverOf := by decide +kernel
  have iX4 : ∀ w ∈ wsX40, w ∈ wsX5_serverOf := by decide +kernel
  have iX5 : ∀ w ∈ wsX50, w ∈ wsX5_serverOf := by decide +kernel
  have h1000 := hI.o1000
  refine fk_aload_n hC dX5_serverOf_0 rfl rfl ?_
  refine fk_iload_n hC dX5_serverOf_1 rfl rfl ?_
  refine fk_callV hC hN (kX5_requireConnection l D K NL ad _ x hp hz hI k hk9) hp (f_E300 _ _ _ _ _) rfl (cwV 1 hC.1.2.2.2.2 gX5_serverOf_X5_requireConnection rfl rfl rfl (by decide +kernel) ⟨Nat.le_of_ble_eq_true rfl, Nat.le_of_ble_eq_true rfl⟩) rfl rfl (Nat.le_of_ble_eq_true rfl) dX5_serverOf_2 ⟨Nat.zero_le _, Nat.zero_le _⟩ ?_
  refine fk_aload_n hC dX5_serverOf_5 rfl rfl ?_
  refine fk_getP_0 hC hp iX5 (by decide +kernel) dX5_serverOf_6 ?_
  refine fk_getS_1 hC hz iX4 (by decide +kernel) dX5_serverOf_9 ?_
  refine fk_getC_0 hC hz iX2 (by decide +kernel) dX5_serverOf_12 ?_
  refine fk_iload_n hC dX5_serverOf_15 rfl rfl ?_
  refine fk_ld_3 hC hz rfl (by omega) dX5_serverOf_16 ?_
  exact fk_iret hC hr hk dX5_serverOf_17 rfl rfl rfl

set_option maxHeartbeats 4000000 in
set_option maxRecDepth 100000 in
theorem tX5_serverOf (l : Launch) (D : va_G) (K : Nat → ClassId) (NL : List Nat) (ad : Nat → Nat) (G : fM) (x : fX) (hst : l.stackTraces = false) (hp : 300 ∈ NL) (hz : f_ES NL 0) (v : Int32) (h : v < 0 ∨ ¬ v < G (iS 0 20)) : Kt l yX5_serverOf wsX5_serverOf { frames := 7, cells := 1, slots := 6, locals := 111 } vwCl D K NL ad [.ref (ad 300), .int v] G x xIOB G x := by
  refine Kt.of (cc := cX5_serverOf) (maxL := 2) (ret := (some .int)) (L := [some (.ref (ad 300)), some (.int v)]) hst (by decide +kernel) rfl rfl (Nat.le_of_ble_eq_true rfl) ?_
  intro p e s m args below meth c hC hX htab hr hk
  have hN := hX.2.1
  refine fk_aload_n hC dX5_serverOf_0 rfl rfl ?_
  refine fk_iload_n hC dX5_serverOf_1 rfl rfl ?_
  exact fk_xcallV hC hX (tX5_requireConnection l D K NL ad _ x hst hp hz _ h) hp (f_E300 _ _ _ _ _) rfl (cwV 1 hC.1.2.2.2.2 gX5_serverOf_X5_requireConnection rfl rfl rfl (by decide +kernel) ⟨Nat.le_of_ble_eq_true rfl, Nat.le_of_ble_eq_true rfl⟩) rfl rfl (Nat.le_of_ble_eq_true rfl) dX5_serverOf_2 ⟨Nat.le_of_ble_eq_true rfl, Nat.le_of_ble_eq_true rfl⟩ (fun H1 locs1 ls q ce a1 a2 a3 a4 a5 a6 => fk_xout htab hk a1 a2 a4 a5 a6 (Nat.le_of_ble_eq_true rfl) (Nat.le_of_ble_eq_true rfl))

set_option maxHeartbeats 4000000 in
set_option maxRecDepth 100000 in
theorem kX5_isAvailable (l : Launch) (D : va_G) (K : Nat → ClassId) (NL : List Nat) (ad : Nat → Nat) (G : fM) (x : fX) (hp : 300 ∈ NL) (hz : f_ES NL 0) (hI : f_I 0 G) (i : Nat) (hi : i < cN 0 G)  : Kd l yX5_isAvailable wsX5_isAvailable { frames := 2, cells := 0, slots := 0, locals := 40 } vwCl D K NL ad [.ref (ad 300), .int (nI i)] G x (some (.int (sV_acc 0 i G))) G x := by
  refine Kd.of (cc := cX5_isAvailable) (maxL := 2) (ret := (some .boolean)) (L := [some (.ref (ad 300)), some (.int (nI i))]) (by decide +kernel) rfl rfl (Nat.le_of_ble_eq_true rfl) ?_
  intro p e s m args below meth c hC hN hr hk hnme
  have iX5 : ∀ w ∈ wsX50, w ∈ wsX5_isAvailable := by decide +kernel
  have h10 := hI.c10
  refine fk_aload_n hC dX5_isAvailable_0 rfl rfl ?_
  refine fk_getP_0 hC hp iX5 (by decide +kernel) dX5_isAvailable_1 ?_
  refine fk_iload_n hC dX5_isAvailable_4 rfl rfl ?_
  refine fk_callV hC hN (kX4_serverAt l D K NL ad _ x 0 hz (cN 0 G) i hI.c hI.c10 hi) (hz.2 0 (by decide)) (f_e0 _ _ _ _ _ hz.1) rfl (cwV 1 hC.1.2.2.2.2 gX5_isAvailable_X4_serverAt rfl rfl rfl (by decide +kernel) ⟨Nat.le_of_ble_eq_true rfl, Nat.le_of_ble_eq_true rfl⟩) rfl rfl (Nat.le_of_ble_eq_true rfl) dX5_isAvailable_5 ⟨Nat.zero_le _, Nat.zero_le _⟩ ?_
  refine fk_callV hC hN (kX3_accepts l D K NL ad _ x 0 i hz (by omega)) (hz.V (by omega)) (f_eV _ _ _ _ _ hz.1 (by omega)) rfl (cwV 0 hC.1.2.2.2.2 gX5_isAvailable_X3_accepts rfl rfl rfl (by decide +kernel) ⟨Nat.le_of_ble_eq_true rfl, Nat.le_of_ble_eq_true rfl⟩) rfl rfl (Nat.le_of_ble_eq_true rfl) dX5_isAvailable_8 ⟨Nat.zero_le _, Nat.zero_le _⟩ ?_
  exact fk_zret hC hr hk dX5_isAvailable_11 (f_narB sV_acc_01) rfl rfl rfl

set_option maxHeartbeats 4000000 in
set_option maxRecDepth 100000 in
theorem tX5_isAvailable (l : Launch) (D : va_G) (K : Nat → ClassId) (NL : List Nat) (ad : Nat → Nat) (G : fM) (x : fX) (hst : l.stackTraces = false) (hp : 300 ∈ NL) (hz : f_ES NL 0) (v : Int32) (h : v < 0 ∨ ¬ v < G (iS 0 0)) : Kt l yX5_isAvailable wsX5_isAvailable { frames := 7, cells := 1, slots := 6, locals := 111 } vwCl D K NL ad [.ref (ad 300), .int v] G x xIOB G x := by
  refine Kt.of (cc := cX5_isAvailable) (maxL := 2) (ret := (some .boolean)) (L := [some (.ref (ad 300)), some (.int v)]) hst (by decide +kernel) rfl rfl (Nat.le_of_ble_eq_true rfl) ?_
  intro p e s m args below meth c hC hX htab hr hk
  have hN := hX.2.1
  have iX5 : ∀ w ∈ wsX50, w ∈ wsX5_isAvailable := by decide +kernel
  refine fk_aload_n hC dX5_isAvailable_0 rfl rfl ?_
  refine fk_getP_0 hC hp iX5 (by decide +kernel) dX5_isAvailable_1 ?_
  refine fk_iload_n hC dX5_isAvailable_4 rfl rfl ?_
  exact fk_xcallV hC hX (tX4_serverAt l D K NL ad _ x hst 0 hz _ h) (hz.2 0 (by decide)) (f_e0 _ _ _ _ _ hz.1) rfl (cwV 1 hC.1.2.2.2.2 gX5_isAvailable_X4_serverAt rfl rfl rfl (by decide +kernel) ⟨Nat.le_of_ble_eq_true rfl, Nat.le_of_ble_eq_true rfl⟩) rfl rfl (Nat.le_of_ble_eq_true rfl) dX5_isAvailable_5 ⟨Nat.le_of_ble_eq_true rfl, Nat.le_of_ble_eq_true rfl⟩ (fun H1 locs1 ls q ce a1 a2 a3 a4 a5 a6 => fk_xout htab hk a1 a2 a4 a5 a6 (Nat.le_of_ble_eq_true rfl) (Nat.le_of_ble_eq_true rfl))

set_option maxHeartbeats 4000000 in
set_option maxRecDepth 100000 in
theorem kX5_effectiveWeight (l : Launch) (D : va_G) (K : Nat → ClassId) (NL : List Nat) (ad : Nat → Nat) (G : fM) (x : fX) (hp : 300 ∈ NL) (hz : f_ES NL 0) (hI : f_I 0 G) (i : Nat) (hi : i < cN 0 G)  : Kd l yX5_effectiveWeight wsX5_effectiveWeight { frames := 2, cells := 0, slots := 0, locals := 43 } vwCl D K NL ad [.ref (ad 300), .int (nI i)] G x (some (.int (sS_wt 0 i G))) G x := by
  refine Kd.of (cc := cX5_effectiveWeight) (maxL := 2) (ret := (some .int)) (L := [some (.ref (ad 300)), some (.int (nI i))]) (by decide +kernel) rfl rfl (Nat.le_of_ble_eq_true rfl) ?_
  intro p e s m args below meth c hC hN hr hk hnme
  have iX5 : ∀ w ∈ wsX50, w ∈ wsX5_effectiveWeight := by decide +kernel
  have h10 := hI.c10
  refine fk_aload_n hC dX5_effectiveWeight_0 rfl rfl ?_
  refine fk_getP_0 hC hp iX5 (by decide +kernel) dX5_effectiveWeight_1 ?_
  refine fk_aload_n hC dX5_effectiveWeight_4 rfl rfl ?_
  refine fk_getP_0 hC hp iX5 (by decide +kernel) dX5_effectiveWeight_5 ?_
  refine fk_iload_n hC dX5_effectiveWeight_8 rfl rfl ?_
  refine fk_callV hC hN (kX4_serverAt l D K NL ad _ x 0 hz (cN 0 G) i hI.c hI.c10 hi) (hz.2 0 (by decide)) (f_e0 _ _ _ _ _ hz.1) rfl (cwV 1 hC.1.2.2.2.2 gX5_effectiveWeight_X4_serverAt rfl rfl rfl (by decide +kernel) ⟨Nat.le_of_ble_eq_true rfl, Nat.le_of_ble_eq_true rfl⟩) rfl rfl (Nat.le_of_ble_eq_true rfl) dX5_effectiveWeight_9 ⟨Nat.zero_le _, Nat.zero_le _⟩ ?_
  refine fk_callV hC hN (kX4_weightNow l D K NL ad _ x 0 hz i (by omega)) (hz.2 0 (by decide)) (f_e0 _ _ _ _ _ hz.1) rfl (cwV 1 hC.1.2.2.2.2 gX5_effectiveWeight_X4_weightNow rfl rfl rfl (by decide +kernel) ⟨Nat.le_of_ble_eq_true rfl, Nat.le_of_ble_eq_true rfl⟩) rfl rfl (Nat.le_of_ble_eq_true rfl) dX5_effectiveWeight_12 ⟨Nat.zero_le _, Nat.zero_le _⟩ ?_
  exact fk_iret hC hr hk dX5_effectiveWeight_15 rfl rfl rfl

set_option maxHeartbeats 4000000 in
set_option maxRecDepth 100000 in
theorem tX5_effectiveWeight (l : Launch) (D : va_G) (K : Nat → ClassId) (NL : List Nat) (ad : Nat → Nat) (G : fM) (x : fX) (hst : l.stackTraces = false) (hp : 300 ∈ NL) (hz : f_ES NL 0) (v : Int32) (h : v < 0 ∨ ¬ v < G (iS 0 0)) : Kt l yX5_effectiveWeight wsX5_effectiveWeight { frames := 7, cells := 1, slots := 6, locals := 111 } vwCl D K NL ad [.ref (ad 300), .int v] G x xIOB G x := by
  refine Kt.of (cc := cX5_effectiveWeight) (maxL := 2) (ret := (some .int)) (L := [some (.ref (ad 300)), some (.int v)]) hst (by decide +kernel) rfl rfl (Nat.le_of_ble_eq_true rfl) ?_
  intro p e s m args below meth c hC hX htab hr hk
  have hN := hX.2.1
  have iX5 : ∀ w ∈ wsX50, w ∈ wsX5_effectiveWeight := by decide +kernel
  refine fk_aload_n hC dX5_effectiveWeight_0 rfl rfl ?_
  refine fk_getP_0 hC hp iX5 (by decide +kernel) dX5_effectiveWeight_1 ?_
  refine fk_aload_n hC dX5_effectiveWeight_4 rfl rfl ?_
  refine fk_getP_0 hC hp iX5 (by decide +kernel) dX5_effectiveWeight_5 ?_
  refine fk_iload_n hC dX5_effectiveWeight_8 rfl rfl ?_
  exact fk_xcallV hC hX (tX4_serverAt l D K NL ad _ x hst 0 hz _ h) (hz.2 0 (by decide)) (f_e0 _ _ _ _ _ hz.1) rfl (cwV 1 hC.1.2.2.2.2 gX5_effectiveWeight_X4_serverAt rfl rfl rfl (by decide +kernel) ⟨Nat.le_of_ble_eq_true rfl, Nat.le_of_ble_eq_true rfl⟩) rfl rfl (Nat.le_of_ble_eq_true rfl) dX5_effectiveWeight_9 ⟨Nat.le_of_ble_eq_true rfl, Nat.le_of_ble_eq_true rfl⟩ (fun H1 locs1 ls q ce a1 a2 a3 a4 a5 a6 => fk_xout htab hk a1 a2 a4 a5 a6 (Nat.le_of_ble_eq_true rfl) (Nat.le_of_ble_eq_true rfl))

set_option maxHeartbeats 4000000 in
set_option maxRecDepth 100000 in
theorem kX5_active (l : Launch) (D : va_G) (K : Nat → ClassId) (NL : List Nat) (ad : Nat → Nat) (G : fM) (x : fX) (hp : 300 ∈ NL) (hz : f_ES NL 0) (hI : f_I 0 G) (i : Nat) (hi : i < cN 0 G)  : Kd l yX5_active wsX5_active { frames := 1, cells := 0, slots := 0, locals := 21 } vwCl D K NL ad [.ref (ad 300), .int (nI i)] G x (some (.int (G (iV 0 i 2)))) G x := by
  refine Kd.of (cc := cX5_active) (maxL := 2) (ret := (some .int)) (L := [some (.ref (ad 300)), some (.int (nI i))]) (by decide +kernel) rfl rfl (Nat.le_of_ble_eq_true rfl) ?_
  intro p e s m args below meth c hC hN hr hk hnme
  have iX3 : ∀ w ∈ wsX30, w ∈ wsX5_active := by decide +kernel
  have iX5 : ∀ w ∈ wsX50, w ∈ wsX5_active := by decide +kernel
  have h10 := hI.c10
  refine fk_aload_n hC dX5_active_0 rfl rfl ?_
  refine fk_getP_0 hC hp iX5 (by decide +kernel) dX5_active_1 ?_
  refine fk_iload_n hC dX5_active_4 rfl rfl ?_
  refine fk_callV hC hN (kX4_serverAt l D K NL ad _ x 0 hz (cN 0 G) i hI.c hI.c10 hi) (hz.2 0 (by decide)) (f_e0 _ _ _ _ _ hz.1) rfl (cwV 1 hC.1.2.2.2.2 gX5_active_X4_serverAt rfl rfl rfl (by decide +kernel) ⟨Nat.le_of_ble_eq_true rfl, Nat.le_of_ble_eq_true rfl⟩) rfl rfl (Nat.le_of_ble_eq_true rfl) dX5_active_5 ⟨Nat.zero_le _, Nat.zero_le _⟩ ?_
  refine fk_getV_3 hC hz (by omega) iX3 (by decide +kernel) dX5_active_8 ?_
  exact fk_iret hC hr hk dX5_active_11 rfl rfl rfl

set_option maxHeartbeats 4000000 in
set_option maxRecDepth 100000 in
theorem tX5_active (l : Launch) (D : va_G) (K : Nat → ClassId) (NL : List Nat) (ad : Nat → Nat) (G : fM) (x : fX) (hst : l.stackTraces = false) (hp : 300 ∈ NL) (hz : f_ES NL 0) (v : Int32) (h : v < 0 ∨ ¬ v < G (iS 0 0)) : Kt l yX5_active wsX5_active { frames := 7, cells := 1, slots := 6, locals := 111 } vwCl D K NL ad [.ref (ad 300), .int v] G x xIOB G x := by
  refine Kt.of (cc := cX5_active) (maxL := 2) (ret := (some .int)) (L := [some (.ref (ad 300)), some (.int v)]) hst (by decide +kernel) rfl rfl (Nat.le_of_ble_eq_true rfl) ?_
  intro p e s m args below meth c hC hX htab hr hk
  have hN := hX.2.1
  have iX5 : ∀ w ∈ wsX50, w ∈ wsX5_active := by decide +kernel
  refine fk_aload_n hC dX5_active_0 rfl rfl ?_
  refine fk_getP_0 hC hp iX5 (by decide +kernel) dX5_active_1 ?_
  refine fk_iload_n hC dX5_active_4 rfl rfl ?_
  exact fk_xcallV hC hX (tX4_serverAt l D K NL ad _ x hst 0 hz _ h) (hz.2 0 (by decide)) (f_e0 _ _ _ _ _ hz.1) rfl (cwV 1 hC.1.2.2.2.2 gX5_active_X4_serverAt rfl rfl rfl (by decide +kernel) ⟨Nat.le_of_ble_eq_true rfl, Nat.le_of_ble_eq_true rfl⟩) rfl rfl (Nat.le_of_ble_eq_true rfl) dX5_active_5 ⟨Nat.le_of_ble_eq_true rfl, Nat.le_of_ble_eq_true rfl⟩ (fun H1 locs1 ls q ce a1 a2 a3 a4 a5 a6 => fk_xout htab hk a1 a2 a4 a5 a6 (Nat.le_of_ble_eq_true rfl) (Nat.le_of_ble_eq_true rfl))

set_option maxHeartbeats 4000000 in
set_option maxRecDepth 100000 in
theorem kX5_utilization (l : Launch) (D : va_G) (K : Nat → ClassId) (NL : List Nat) (ad : Nat → Nat) (G : fM) (x : fX) (hp : 300 ∈ NL) (hz : f_ES NL 0) (hI : f_I 0 G) (i : Nat) (hi : i < cN 0 G) (hnan : vf_n64 (FP.ddiv (FP.i2d (G (iV 0 i 2))) (FP.i2d (G (iV 0 i 1))))) : Kd l yX5_utilization wsX5_utilization { frames := 1, cells := 0, slots := 0, locals := 21 } vwCl D K NL ad [.ref (ad 300), .int (nI i)] G x (some (.double (FP.ddiv (FP.i2d (G (iV 0 i 2))) (FP.i2d (G (iV 0 i 1)))))) G x := by
  refine Kd.of (cc := cX5_utilization) (maxL := 3) (ret := (some .double)) (L := [some (.ref (ad 300)), some (.int (nI i)), none]) (by decide +kernel) rfl rfl (Nat.le_of_ble_eq_true rfl) ?_
  intro p e s m args below meth c hC hN hr hk hnme
  have iX3 : ∀ w ∈ wsX30, w ∈ wsX5_utilization := by decide +kernel
  have iX5 : ∀ w ∈ wsX50, w ∈ wsX5_utilization := by decide +kernel
  have h10 := hI.c10
  refine fk_aload_n hC dX5_utilization_0 rfl rfl ?_
  refine fk_getP_0 hC hp iX5 (by decide +kernel) dX5_utilization_1 ?_
  refine fk_iload_n hC dX5_utilization_4 rfl rfl ?_
  refine fk_callV hC hN (kX4_serverAt l D K NL ad _ x 0 hz (cN 0 G) i hI.c hI.c10 hi) (hz.2 0 (by decide)) (f_e0 _ _ _ _ _ hz.1) rfl (cwV 1 hC.1.2.2.2.2 gX5_utilization_X4_serverAt rfl rfl rfl (by decide +kernel) ⟨Nat.le_of_ble_eq_true rfl, Nat.le_of_ble_eq_true rfl⟩) rfl rfl (Nat.le_of_ble_eq_true rfl) dX5_utilization_5 ⟨Nat.zero_le _, Nat.zero_le _⟩ ?_
  refine fk_astore_n hC dX5_utilization_8 rfl (by decide) rfl ?_
  refine fk_aload_n hC dX5_utilization_9 rfl rfl ?_
  refine fk_getV_3 hC hz (by omega) iX3 (by decide +kernel) dX5_utilization_10 ?_
  refine fk_i2d hC dX5_utilization_13 ?_
  refine fk_aload_n hC dX5_utilization_14 rfl rfl ?_
  refine fk_getV_2 hC hz (by omega) iX3 (by decide +kernel) dX5_utilization_15 ?_
  refine fk_i2d hC dX5_utilization_18 ?_
  refine fk_ddiv hC dX5_utilization_19 hnan ?_
  exact fk_dret hC hr hk dX5_utilization_20 rfl rfl rfl

set_option maxHeartbeats 4000000 in
set_option maxRecDepth 100000 in
theorem tX5_utilization (l : Launch) (D : va_G) (K : Nat → ClassId) (NL : List Nat) (ad : Nat → Nat) (G : fM) (x : fX) (hst : l.stackTraces = false) (hp : 300 ∈ NL) (hz : f_ES NL 0) (v : Int32) (h : v < 0 ∨ ¬ v < G (iS 0 0)) : Kt l yX5_utilization wsX5_utilization { frames := 7, cells := 1, slots := 6, locals := 111 } vwCl D K NL ad [.ref (ad 300), .int v] G x xIOB G x := by
  refine Kt.of (cc := cX5_utilization) (maxL := 3) (ret := (some .double)) (L := [some (.ref (ad 300)), some (.int v), none]) hst (by decide +kernel) rfl rfl (Nat.le_of_ble_eq_true rfl) ?_
  intro p e s m args below meth c hC hX htab hr hk
  have hN := hX.2.1
  have iX5 : ∀ w ∈ wsX50, w ∈ wsX5_utilization := by decide +kernel
  refine fk_aload_n hC dX5_utilization_0 rfl rfl ?_
  refine fk_getP_0 hC hp iX5 (by decide +kernel) dX5_utilization_1 ?_
  refine fk_iload_n hC dX5_utilization_4 rfl rfl ?_
  exact fk_xcallV hC hX (tX4_serverAt l D K NL ad _ x hst 0 hz _ h) (hz.2 0 (by decide)) (f_e0 _ _ _ _ _ hz.1) rfl (cwV 1 hC.1.2.2.2.2 gX5_utilization_X4_serverAt rfl rfl rfl (by decide +kernel) ⟨Nat.le_of_ble_eq_true rfl, Nat.le_of_ble_eq_true rfl⟩) rfl rfl (Nat.le_of_ble_eq_true rfl) dX5_utilization_5 ⟨Nat.le_of_ble_eq_true rfl, Nat.le_of_ble_eq_true rfl⟩ (fun H1 locs1 ls q ce a1 a2 a3 a4 a5 a6 => fk_xout htab hk a1 a2 a4 a5 a6 (Nat.le_of_ble_eq_true rfl) (Nat.le_of_ble_eq_true rfl))

set_option maxHeartbeats 4000000 in
set_option maxRecDepth 100000 in
theorem kX5_breaker (l : Launch) (D : va_G) (K : Nat → ClassId) (NL : List Nat) (ad : Nat → Nat) (G : fM) (x : fX) (hp : 300 ∈ NL) (hz : f_ES NL 0) (hI : f_I 0 G) (i : Nat) (hi : i < cN 0 G)  : Kd l yX5_breaker wsX5_breaker { frames := 1, cells := 0, slots := 0, locals := 21 } vwCl D K NL ad [.ref (ad 300), .int (nI i)] G x (some (.int (G (iB 0 i 0)))) G x := by
  refine Kd.of (cc := cX5_breaker) (maxL := 2) (ret := (some .int)) (L := [some (.ref (ad 300)), some (.int (nI i))]) (by decide +kernel) rfl rfl (Nat.le_of_ble_eq_true rfl) ?_
  intro p e s m args below meth c hC hN hr hk hnme
  have iX0 : ∀ w ∈ wsX00, w ∈ wsX5_breaker := by decide +kernel
  have iX3 : ∀ w ∈ wsX30, w ∈ wsX5_breaker := by decide +kernel
  have iX5 : ∀ w ∈ wsX50, w ∈ wsX5_breaker := by decide +kernel
  have h10 := hI.c10
  refine fk_aload_n hC dX5_breaker_0 rfl rfl ?_
  refine fk_getP_0 hC hp iX5 (by decide +kernel) dX5_breaker_1 ?_
  refine fk_iload_n hC dX5_breaker_4 rfl rfl ?_
  refine fk_callV hC hN (kX4_serverAt l D K NL ad _ x 0 hz (cN 0 G) i hI.c hI.c10 hi) (hz.2 0 (by decide)) (f_e0 _ _ _ _ _ hz.1) rfl (cwV 1 hC.1.2.2.2.2 gX5_breaker_X4_serverAt rfl rfl rfl (by decide +kernel) ⟨Nat.le_of_ble_eq_true rfl, Nat.le_of_ble_eq_true rfl⟩) rfl rfl (Nat.le_of_ble_eq_true rfl) dX5_breaker_5 ⟨Nat.zero_le _, Nat.zero_le _⟩ ?_
  refine fk_getV_0 hC hz (by omega) iX3 (by decide +kernel) dX5_breaker_8 ?_
  refine fk_getB_0 hC hz (by omega) iX0 (by decide +kernel) dX5_breaker_11 ?_
  exact fk_iret hC hr hk dX5_breaker_14 rfl rfl rfl

set_option maxHeartbeats 4000000 in
set_option maxRecDepth 100000 in
theorem tX5_breaker (l : Launch) (D : va_G) (K : Nat → ClassId) (NL : List Nat) (ad : Nat → Nat) (G : fM) (x : fX) (hst : l.stackTraces = false) (hp : 300 ∈ NL) (hz : f_ES NL 0) (v : Int32) (h : v < 0 ∨ ¬ v < G (iS 0 0)) : Kt l yX5_breaker wsX5_breaker { frames := 7, cells := 1, slots := 6, locals := 111 } vwCl D K NL ad [.ref (ad 300), .int v] G x xIOB G x := by
  refine Kt.of (cc := cX5_breaker) (maxL := 2) (ret := (some .int)) (L := [some (.ref (ad 300)), some (.int v)]) hst (by decide +kernel) rfl rfl (Nat.le_of_ble_eq_true rfl) ?_
  intro p e s m args below meth c hC hX htab hr hk
  have hN := hX.2.1
  have iX5 : ∀ w ∈ wsX50, w ∈ wsX5_breaker := by decide +kernel
  refine fk_aload_n hC dX5_breaker_0 rfl rfl ?_
  refine fk_getP_0 hC hp iX5 (by decide +kernel) dX5_breaker_1 ?_
  refine fk_iload_n hC dX5_breaker_4 rfl rfl ?_
  exact fk_xcallV hC hX (tX4_serverAt l D K NL ad _ x hst 0 hz _ h) (hz.2 0 (by decide)) (f_e0 _ _ _ _ _ hz.1) rfl (cwV 1 hC.1.2.2.2.2 gX5_breaker_X4_serverAt rfl rfl rfl (by decide +kernel) ⟨Nat.le_of_ble_eq_true rfl, Nat.le_of_ble_eq_true rfl⟩) rfl rfl (Nat.le_of_ble_eq_true rfl) dX5_breaker_5 ⟨Nat.le_of_ble_eq_true rfl, Nat.le_of_ble_eq_true rfl⟩ (fun H1 locs1 ls q ce a1 a2 a3 a4 a5 a6 => fk_xout htab hk a1 a2 a4 a5 a6 (Nat.le_of_ble_eq_true rfl) (Nat.le_of_ble_eq_true rfl))

set_option maxHeartbeats 4000000 in
set_option maxRecDepth 100000 in
theorem kX5_owner (l : Launch) (D : va_G) (K : Nat → ClassId) (NL : List Nat) (ad : Nat → Nat) (G : fM) (x : fX) (hp : 300 ∈ NL) (hz : f_ES NL 0) (hI : f_I 0 G) (cl : Int32) (h : ¬ G (iS 0 0) = 0) : Kd l yX5_owner wsX5_owner { frames := 3, cells := 0, slots := 0, locals := 74 } vwCl D K NL ad [.ref (ad 300), .int cl] G x (some (.int (rI (sS_rg 0 cl 0 G)))) G x := by
  refine Kd.of (cc := cX5_owner) (maxL := 2) (ret := (some .int)) (L := [some (.ref (ad 300)), some (.int cl)]) (by decide +kernel) rfl rfl (Nat.le_of_ble_eq_true rfl) ?_
  intro p e s m args below meth c hC hN hr hk hnme
  have iX4 : ∀ w ∈ wsX40, w ∈ wsX5_owner := by decide +kernel
  have iX5 : ∀ w ∈ wsX50, w ∈ wsX5_owner := by decide +kernel
  refine fk_aload_n hC dX5_owner_0 rfl rfl ?_
  refine fk_getP_0 hC hp iX5 (by decide +kernel) dX5_owner_1 ?_
  refine fk_getS_3 hC hz iX4 (by decide +kernel) dX5_owner_4 ?_
  refine fk_if_ne (tgt := 20) hC dX5_owner_7 (by decide) (fun c7 => ?_) (fun c7 => ?_)
  · refine fk_aload_n hC dX5_owner_20 rfl rfl ?_
    refine fk_getP_0 hC hp iX5 (by decide +kernel) dX5_owner_21 ?_
    refine fk_iload_n hC dX5_owner_24 rfl rfl ?_
    refine fk_iconst (v := 0) hC dX5_owner_25 (by decide) ?_
    refine fk_callV hC hN (kX4_firstOnRing l D K NL ad _ x 0 hz hI _ _) (hz.2 0 (by decide)) (f_e0 _ _ _ _ _ hz.1) rfl (cwV 2 hC.1.2.2.2.2 gX5_owner_X4_firstOnRing rfl rfl rfl (by decide +kernel) ⟨Nat.le_of_ble_eq_true rfl, Nat.le_of_ble_eq_true rfl⟩) rfl rfl (Nat.le_of_ble_eq_true rfl) dX5_owner_26 ⟨Nat.zero_le _, Nat.zero_le _⟩ ?_
    exact fk_iret hC hr hk dX5_owner_29 rfl rfl rfl
  · exact absurd c7 h

set_option maxHeartbeats 4000000 in
set_option maxRecDepth 100000 in
theorem tX5_owner (l : Launch) (D : va_G) (K : Nat → ClassId) (NL : List Nat) (ad : Nat → Nat) (G : fM) (x : fX) (hst : l.stackTraces = false) (hp : 300 ∈ NL) (hz : f_ES NL 0) (cl : Int32) (h : G (iS 0 0) = 0) : Kt l yX5_owner wsX5_owner { frames := 6, cells := 1, slots := 6, locals := 90 } vwCl D K NL ad [.ref (ad 300), .int cl] G x xISE G x := by
  refine Kt.of (cc := cX5_owner) (maxL := 2) (ret := (some .int)) (L := [some (.ref (ad 300)), some (.int cl)]) hst (by decide +kernel) rfl rfl (Nat.le_of_ble_eq_true rfl) ?_
  intro p e s m args below meth c hC hX htab hr hk
  have hN := hX.2.1
  have iX4 : ∀ w ∈ wsX40, w ∈ wsX5_owner := by decide +kernel
  have iX5 : ∀ w ∈ wsX50, w ∈ wsX5_owner := by decide +kernel
  refine fk_aload_n hC dX5_owner_0 rfl rfl ?_
  refine fk_getP_0 hC hp iX5 (by decide +kernel) dX5_owner_1 ?_
  refine fk_getS_3 hC hz iX4 (by decide +kernel) dX5_owner_4 ?_
  refine fk_if_ne (tgt := 20) hC dX5_owner_7 (by decide) (fun c7 => ?_) (fun c7 => ?_)
  · exact absurd h c7
  · obtain ⟨sa, hsa⟩ := hX.2.2.1.2.2.2.2.2.2.1
    exact fk_throw hC hX htab hk (by decide +kernel) (by decide +kernel) (by decide +kernel) hsa (by decide +kernel) f_bad2 hX.2.2.1.bad2 (by decide +kernel) dX5_owner_10 dX5_owner_13 dX5_owner_14 dX5_owner_16 dX5_owner_19 (Nat.le_of_ble_eq_true rfl) (Nat.le_of_ble_eq_true rfl) (Nat.le_of_ble_eq_true rfl) (Nat.le_of_ble_eq_true rfl) (Nat.le_of_ble_eq_true rfl) (Nat.le_of_ble_eq_true rfl) rfl rfl

def sP_cnt (a : Int32) (G : fM) : Int32 := if a = 0 then G (iS 0 9) else if a = 1 then sS_load 0 G else if a = 2 then G (iS 0 20) else if a = 3 then G (iS 0 10) else G (iS 0 21)
set_option maxHeartbeats 4000000 in
set_option maxRecDepth 100000 in
theorem kX5_count (l : Launch) (D : va_G) (K : Nat → ClassId) (NL : List Nat) (ad : Nat → Nat) (G : fM) (x : fX) (hp : 300 ∈ NL) (hz : f_ES NL 0) (hI : f_I 0 G) (a : Int32) (h : ¬ (a.toInt < 0 ∨ 4 < a.toInt)) : Kd l yX5_count wsX5_count { frames := 1, cells := 0, slots := 0, locals := 22 } vwCl D K NL ad [.ref (ad 300), .int a] G x (some (.int (sP_cnt a G))) G x := by
  refine Kd.of (cc := cX5_count) (maxL := 2) (ret := (some .int)) (L := [some (.ref (ad 300)), some (.int a)]) (by decide +kernel) rfl rfl (Nat.le_of_ble_eq_true rfl) ?_
  intro p e s m args below meth c hC hN hr hk hnme
  have iX1 : ∀ w ∈ wsX10, w ∈ wsX5_count := by decide +kernel
  have iX2 : ∀ w ∈ wsX20, w ∈ wsX5_count := by decide +kernel
  have iX4 : ∀ w ∈ wsX40, w ∈ wsX5_count := by decide +kernel
  have iX5 : ∀ w ∈ wsX50, w ∈ wsX5_count := by decide +kernel
  refine fk_iload_n hC dX5_count_0 rfl rfl ?_
  rcases f_sw5 (a) with h1 | h1 | h1 | h1 | h1 | h1
  · refine fk_tableIn (off := 35) (tgt := 36) hC dX5_count_1 (by rw [h1]; decide) (by rw [h1]; decide) (by rw [h1]; rfl) (by decide) ?_
    refine fk_aload_n hC dX5_count_36 rfl rfl ?_
    refine fk_getP_0 hC hp iX5 (by decide +kernel) dX5_count_37 ?_
    refine fk_getS_12 hC hz iX4 (by decide +kernel) dX5_count_40 ?_
    exact fk_iret hC hr hk dX5_count_43 (by unfold sP_cnt; rw [if_pos h1]) rfl rfl
  · refine fk_tableIn (off := 43) (tgt := 44) hC dX5_count_1 (by rw [h1]; decide) (by rw [h1]; decide) (by rw [h1]; rfl) (by decide) ?_
    refine fk_aload_n hC dX5_count_44 rfl rfl ?_
    refine fk_getP_0 hC hp iX5 (by decide +kernel) dX5_count_45 ?_
    refine fk_callV hC hN (kX4_totalLoad l D K NL ad _ x 0 hz hI) (hz.2 0 (by decide)) (f_e0 _ _ _ _ _ hz.1) rfl (cwV 0 hC.1.2.2.2.2 gX5_count_X4_totalLoad rfl rfl rfl (by decide +kernel) ⟨Nat.le_of_ble_eq_true rfl, Nat.le_of_ble_eq_true rfl⟩) rfl rfl (Nat.le_of_ble_eq_true rfl) dX5_count_48 ⟨Nat.zero_le _, Nat.zero_le _⟩ ?_
    exact fk_iret hC hr hk dX5_count_51 (by unfold sP_cnt; rw [if_neg (by rw [h1]; decide), if_pos h1]) rfl rfl
  · refine fk_tableIn (off := 51) (tgt := 52) hC dX5_count_1 (by rw [h1]; decide) (by rw [h1]; decide) (by rw [h1]; rfl) (by decide) ?_
    refine fk_aload_n hC dX5_count_52 rfl rfl ?_
    refine fk_getP_0 hC hp iX5 (by decide +kernel) dX5_count_53 ?_
    refine fk_getS_1 hC hz iX4 (by decide +kernel) dX5_count_56 ?_
    refine fk_getC_3 hC hz iX2 (by decide +kernel) dX5_count_59 ?_
    exact fk_iret hC hr hk dX5_count_62 (by unfold sP_cnt; rw [if_neg (by rw [h1]; decide), if_neg (by rw [h1]; decide), if_pos h1]) rfl rfl
  · refine fk_tableIn (off := 62) (tgt := 63) hC dX5_count_1 (by rw [h1]; decide) (by rw [h1]; decide) (by rw [h1]; rfl) (by decide) ?_
    refine fk_aload_n hC dX5_count_63 rfl rfl ?_
    refine fk_getP_0 hC hp iX5 (by decide +kernel) dX5_count_64 ?_
    refine fk_getS_13 hC hz iX4 (by decide +kernel) dX5_count_67 ?_
    exact fk_iret hC hr hk dX5_count_70 (by unfold sP_cnt; rw [if_neg (by rw [h1]; decide), if_neg (by rw [h1]; decide), if_neg (by rw [h1]; decide), if_pos h1]) rfl rfl
  · refine fk_tableIn (off := 70) (tgt := 71) hC dX5_count_1 (by rw [h1]; decide) (by rw [h1]; decide) (by rw [h1]; rfl) (by decide) ?_
    refine fk_aload_n hC dX5_count_71 rfl rfl ?_
    refine fk_getP_0 hC hp iX5 (by decide +kernel) dX5_count_72 ?_
    refine fk_getS_2 hC hz iX4 (by decide +kernel) dX5_count_75 ?_
    refine fk_getK_3 hC hz iX1 (by decide +kernel) dX5_count_78 ?_
    exact fk_iret hC hr hk dX5_count_81 (by unfold sP_cnt; rw [if_neg (by rw [h1]; decide), if_neg (by rw [h1]; decide), if_neg (by rw [h1]; decide), if_neg (by rw [h1]; decide)]) rfl rfl
  · refine fk_tableOut (tgt := 82) hC dX5_count_1 h1 (by decide) ?_
    exact absurd h1 h

set_option maxHeartbeats 4000000 in
set_option maxRecDepth 100000 in
theorem tX5_count (l : Launch) (D : va_G) (K : Nat → ClassId) (NL : List Nat) (ad : Nat → Nat) (G : fM) (x : fX) (hst : l.stackTraces = false) (hp : 300 ∈ NL) (hz : f_ES NL 0) (a : Int32) (h : a.toInt < 0 ∨ 4 < a.toInt) : Kt l yX5_count wsX5_count { frames := 6, cells := 1, slots := 6, locals := 90 } vwCl D K NL ad [.ref (ad 300), .int a] G x xIAE G x := by
  refine Kt.of (cc := cX5_count) (maxL := 2) (ret := (some .int)) (L := [some (.ref (ad 300)), some (.int a)]) hst (by decide +kernel) rfl rfl (Nat.le_of_ble_eq_true rfl) ?_
  intro p e s m args below meth c hC hX htab hr hk
  have hN := hX.2.1
  refine fk_iload_n hC dX5_count_0 rfl rfl ?_
  rcases f_sw5 (a) with h1 | h1 | h1 | h1 | h1 | h1
  · refine fk_tableIn (off := 35) (tgt := 36) hC dX5_count_1 (by rw [h1]; decide) (by rw [h1]; decide) (by rw [h1]; rfl) (by decide) ?_
    exact absurd h (by rw [h1]; decide)
  · refine fk_tableIn (off := 43) (tgt := 44) hC dX5_count_1 (by rw [h1]; decide) (by rw [h1]; decide) (by rw [h1]; rfl) (by decide) ?_
    exact absurd h (by rw [h1]; decide)
  · refine fk_tableIn (off := 51) (tgt := 52) hC dX5_count_1 (by rw [h1]; decide) (by rw [h1]; decide) (by rw [h1]; rfl) (by decide) ?_
    exact absurd h (by rw [h1]; decide)
  · refine fk_tableIn (off := 62) (tgt := 63) hC dX5_count_1 (by rw [h1]; decide) (by rw [h1]; decide) (by rw [h1]; rfl) (by decide) ?_
    exact absurd h (by rw [h1]; decide)
  · refine fk_tableIn (off := 70) (tgt := 71) hC dX5_count_1 (by rw [h1]; decide) (by rw [h1]; decide) (by rw [h1]; rfl) (by decide) ?_
    exact absurd h (by rw [h1]; decide)
  · refine fk_tableOut (tgt := 82) hC dX5_count_1 h1 (by decide) ?_
    obtain ⟨sa, hsa⟩ := hX.2.2.1.2.2.2.2.2.2.2.1
    exact fk_throw hC hX htab hk (by decide +kernel) (by decide +kernel) (by decide +kernel) hsa (by decide +kernel) f_bad1 hX.2.2.1.bad1 (by decide +kernel) dX5_count_82 dX5_count_85 dX5_count_86 dX5_count_88 dX5_count_91 (Nat.le_of_ble_eq_true rfl) (Nat.le_of_ble_eq_true rfl) (Nat.le_of_ble_eq_true rfl) (Nat.le_of_ble_eq_true rfl) (Nat.le_of_ble_eq_true rfl) (Nat.le_of_ble_eq_true rfl) rfl rfl

