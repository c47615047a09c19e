/-! every call, on both sides -/
section STEPS
theorem nan_ok {a : Int32} {w : Nat} (h1 : -513 ≤ a.toInt) (h2 : a.toInt ≤ 513) (h3 : 1 ≤ w) (h4 : w ≤ 20) : vf_n64 (FP.ddiv (FP.i2d a) (FP.i2d (nI w))) := by
  have e : a = nI (a.toInt + 513).toNat - 513 := by
    apply Int32.toInt_inj.mp
    rw [show (513 : Int32) = nI 513 from rfl, pk_sub_toInt (by omega) (by decide)]
    omega
  have hk : (a.toInt + 513).toNat < 1027 := by omega
  have key : nanB (a.toInt + 513).toNat w = true := by
    rcases (show w = 1 ∨ w = 2 ∨ w = 3 ∨ w = 4 ∨ w = 5 ∨ w = 6 ∨ w = 7 ∨ w = 8 ∨ w = 9 ∨ w = 10 ∨ w = 11 ∨ w = 12 ∨ w = 13 ∨ w = 14 ∨ w = 15 ∨ w = 16 ∨ w = 17 ∨ w = 18 ∨ w = 19 ∨ w = 20 by omega) with rfl | rfl | rfl | rfl | rfl | rfl | rfl | rfl | rfl | rfl | rfl | rfl | rfl | rfl | rfl | rfl | rfl | rfl | rfl | rfl
    · exact nan_1 _ hk
    · exact nan_2 _ hk
    · exact nan_3 _ hk
    · exact nan_4 _ hk
    · exact nan_5 _ hk
    · exact nan_6 _ hk
    · exact nan_7 _ hk
    · exact nan_8 _ hk
    · exact nan_9 _ hk
    · exact nan_10 _ hk
    · exact nan_11 _ hk
    · exact nan_12 _ hk
    · exact nan_13 _ hk
    · exact nan_14 _ hk
    · exact nan_15 _ hk
    · exact nan_16 _ hk
    · exact nan_17 _ hk
    · exact nan_18 _ hk
    · exact nan_19 _ hk
    · exact nan_20 _ hk
  unfold nanB at key
  rw [← e] at key
  unfold vf_n64
  exact of_decide_eq_true key
def KdE (l : Launch) (y : MethodName) (ws : List Cond) (D : va_G) (K : Nat → ClassId) (NL : List Nat) (ad : Nat → Nat) (av : List Value) (G : fM) (x : fX) (rv : Option Value) (G1 : fM) : Prop :=
  ∃ rm : Room, (rm.frames ≤ 9 ∧ rm.locals ≤ 250 ∧ rm.cells ≤ 1 ∧ rm.slots ≤ 6) ∧ Kd l y ws rm vwCl D K NL ad av G x rv G1 x
def KhE (l : Launch) (y : MethodName) (ws : List Cond) (D : va_G) (K : Nat → ClassId) (NL : List Nat) (ad : Nat → Nat) (av : List Value) (G : fM) (x : fX) (rv : Option Value) (G1 : fM) (x1 : fX) : Prop :=
  ∃ rm : Room, (rm.frames ≤ 9 ∧ rm.locals ≤ 250 ∧ rm.cells ≤ 1 ∧ rm.slots ≤ 6) ∧ Kh l y ws rm vwCl D K NL ad av G x rv G1 x1
theorem KdE.mk {l : Launch} {y : MethodName} {ws : List Cond} {rm : Room} {D : va_G} {K : Nat → ClassId} {NL : List Nat} {ad : Nat → Nat} {av : List Value} {G : fM} {x : fX} {rv : Option Value} {G1 : fM} (h : Kd l y ws rm vwCl D K NL ad av G x rv G1 x) (hr : rm.frames ≤ 9 ∧ rm.locals ≤ 250 ∧ rm.cells ≤ 1 ∧ rm.slots ≤ 6) : KdE l y ws D K NL ad av G x rv G1 := ⟨rm, hr, h⟩
theorem KhE.mk {l : Launch} {y : MethodName} {ws : List Cond} {rm : Room} {D : va_G} {K : Nat → ClassId} {NL : List Nat} {ad : Nat → Nat} {av : List Value} {G : fM} {x : fX} {rv : Option Value} {G1 : fM} {x1 : fX} (h : Kh l y ws rm vwCl D K NL ad av G x rv G1 x1) (hr : rm.frames ≤ 9 ∧ rm.locals ≤ 250 ∧ rm.cells ≤ 1 ∧ rm.slots ≤ 6) : KhE l y ws D K NL ad av G x rv G1 x1 := ⟨rm, hr, h⟩
section Defs
variable (l : Launch) (yL : MethodName) (wsL : List Cond) (yM : MethodName) (wsM : List Cond) (D : va_G) (K : Nat → ClassId) (NL : List Nat) (ad : Nat → Nat) (avL avM : List Value) (G : fM) (x : fX) (n : Nat)
def StI : Prop := ∃ k G1 x1 v G2, KhE l yL wsL D K NL ad avL G x (some (.int k)) G1 x1 ∧ KdE l yM wsM D K NL ad avM G1 x1 (some (.int v)) G2 ∧ G2 (iT 0) = k ∧ (k = 0 → x1.1 = v.toInt64) ∧ RelA (n + 1) NL G2
def StZ : Prop := ∃ k G1 x1 v G2, KhE l yL wsL D K NL ad avL G x (some (.int k)) G1 x1 ∧ KdE l yM wsM D K NL ad avM G1 x1 (some (.int v)) G2 ∧ G2 (iT 0) = k ∧ (k = 0 → x1.1 = if v = 0 then 0 else 1) ∧ RelA (n + 1) NL G2
def StD : Prop := ∃ k G1 x1 v G2, KhE l yL wsL D K NL ad avL G x (some (.int k)) G1 x1 ∧ KdE l yM wsM D K NL ad avM G1 x1 (some (.double v)) G2 ∧ G2 (iT 0) = k ∧ (k = 0 → x1.2 = v) ∧ RelA (n + 1) NL G2
def StV : Prop := ∃ k G1 x1 G2, KhE l yL wsL D K NL ad avL G x (some (.int k)) G1 x1 ∧ KdE l yM wsM D K NL ad avM G1 x1 none G2 ∧ G2 (iT 0) = k ∧ RelA (n + 1) NL G2
def StN : Prop := ∃ v G1 G2, KdE l yL wsL D K NL ad avL G x (some (.int v)) G1 ∧ KdE l yM wsM D K NL ad avM G1 x (some (.int v)) G2 ∧ RelA (n + 1) NL G2
end Defs
theorem RelA.go {cn t nn o n : Nat} {NL : List Nat} {G G1 G2 : fM} (hR : RelA n NL G) (hi : Hi G G1) (lo : Lo G1 G2) (h : RS cn t nn o (n + 1) 0 (tM G2) G1) : RelA (n + 1) NL G2 :=
  hR.step ⟨cn, t, nn, o, h.congr (fun g _ hg => lo g (Or.inl (by omega))) (fun _ _ => rfl) (Nat.le_refl _)⟩ (fun g h1 h2 => (lo g (Or.inl (by omega))).trans (hi g h1)) (fun g h1 => (lo g (by omega)).trans (hi g (by omega))) (fun τ hτ => (lo _ (by unfold iZ; omega)).trans (hi _ (by unfold iZ; omega)))
theorem RelA.err {n : Nat} {NL : List Nat} {G : fM} {k : Int32} (hR : RelA n NL G) : RelA (n + 1) NL (upd G (iT 0) k) := by
  obtain ⟨cn, t, nn, o, h⟩ := hR.2.1
  exact hR.go (G1 := G) Hi.rf (Lo.rf.ti (by decide)) (by rw [tM_t (by decide)]; exact rs_n h)
theorem srv_ix {cn : Nat} (hc : cn < 2 ^ 31) (v : Int32) : (v < 0 ∨ ¬ v < nI cn) ∨ ∃ i, i < cn ∧ v = nI i := by
  rcases pk_ix v hc with h | h | h
  · exact Or.inl (Or.inl h)
  · exact Or.inl (Or.inr (Int32.not_lt.mpr h))
  · exact Or.inr h
theorem op_thr {cn j : Nat} {cl : Int32} {Q G : fM} (h10 : cn ≤ 10) (hA : ∀ i ∈ avS G cn, i < 10) (hav : avL cn Q = avS G cn) (hmn : mn Q ≤ 40) (hj : j < 10) : mM_op cn j cl Q (iT 0) = 0 := by
  have k0 : mM_op0 cn Q (iT 0) = 0 := by unfold mM_op0; exact pk_us
  have kn : ∀ M : fM, mM_note (avS G cn) j M (iT 0) = M (iT 0) := fun M => mM_note_ne (fun i => by unfold iM iT; omega) (by decide) (by decide)
  have k1 : mM_op1 cn j cl Q (iT 0) = 0 := by
    unfold mM_op1
    cases mM_stuck cl (mM_op0 cn Q) with
    | some j9 => exact k0
    | none =>
      show mM_note (avL cn Q) j (mM_op0 cn Q) (iT 0) = 0
      rw [hav, kn]
      exact k0
  have k2 : mM_op2 j (mM_op1 cn j cl Q) (iT 0) = 0 := by
    unfold mM_op2
    rw [pk_un (by decide), pk_un (by unfold iM iT; omega), pk_un (by unfold iM iT; omega), pk_un (by unfold iM iT; omega)]
    exact k1
  have k3 : mM_op3 j (mo (mM_op1 cn j cl Q)) (mM_op2 j (mM_op1 cn j cl Q)) (iT 0) = 0 := by
    unfold mM_op3
    split
    · rw [pk_un (by unfold iM iT; omega)]; exact k2
    · exact k2
  unfold mM_op mM_op4
  split
  · exact k3
  · unfold mM_rem mM_remG
    rw [pk_un (by unfold iM iT; omega), pk_un (by unfold iM iT; omega), pk_un (by unfold iM iT; omega)]
    split
    · cases mM_find cl (mn Q) (mM_op3 j (mo (mM_op1 cn j cl Q)) (mM_op2 j (mM_op1 cn j cl Q))) with
      | some j9 => exact k3
      | none =>
        show upd (mM_op3 j (mo (mM_op1 cn j cl Q)) (mM_op2 j (mM_op1 cn j cl Q))) (iM 12) (nI (mn Q + 1)) (iT 0) = 0
        rw [pk_un (by decide)]
        exact k3
    · cases mM_find cl (mn Q) (mM_op3 j (mo (mM_op1 cn j cl Q)) (mM_op2 j (mM_op1 cn j cl Q))) with
      | some j9 => exact k3
      | none => exact k3
theorem cl_thr {k q : Nat} {gd : Int32} {Q : fM} (em : mco k Q = q) (hq : q < 10) : mM_cl k gd Q (iT 0) = 0 := by
  have k0 : mM_cl0 k Q (iT 0) = 0 := by
    unfold mM_cl0
    rw [pk_un (by unfold iM iT; omega), pk_un (by unfold iM iT; omega), pk_us]
  have kt : ∀ M : fM, mM_trip q M (iT 0) = M (iT 0) := fun M => by
    unfold mM_trip
    rw [pk_un (by unfold iM iT; omega), pk_un (by unfold iM iT; omega), pk_un (by unfold iM iT; omega)]
  unfold mM_cl mM_cl2 mM_ad mM_cl1
  rw [em]
  split
  · have k1 : mM_ad2 q (mM_ad1 q gd (mM_cl0 k Q)) (iT 0) = 0 := by
      unfold mM_ad2 mM_ad1
      rw [pk_un (by unfold iM iT; omega), pk_un (by unfold iM iT; omega)]
      exact k0
    unfold mM_ad3
    split
    · exact k1
    · split
      · exact k1
      · rw [kt]; exact k1
  · split
    · split
      · split
        · rw [kt]; exact k0
        · rw [pk_un (by unfold iM iT; omega), pk_un (by unfold iM iT; omega), pk_un (by unfold iM iT; omega), pk_un (by unfold iM iT; omega)]; exact k0
      · exact k0
    · exact k0
section Steps
variable {n : Nat} {l : Launch} {D : va_G} {K : Nat → ClassId} {NL : List Nat} {ad : Nat → Nat} {G : fM} {x : fX}
set_option maxHeartbeats 1000000 in
theorem st_addServer (hst : l.stackTraces = false) (hR : RelA n NL G) (hn : n < 512) (wt cp : Int32) : StI l yL_addServer wsL_addServer yX6_addServer wsX6_addServer D K NL ad [.ref (ad 300), .int wt, .int cp, .ref (ad 320)] [.ref (ad 310), .int wt, .int cp] G x n := by
  obtain ⟨⟨hz, hp, h301, h320, h321, hm, hok, hok2⟩, ⟨cn, t, nn, o, h⟩, hsv⟩ := id hR
  have h10 := h.c10
  have hI := h.I
  by_cases h1 : rng wt 1 10
  · by_cases h2 : rng cp 1 20
    · by_cases hc : cn < 10
      · have hown : Hi G (upd (sV_begin 0 cn wt cp G) (iS 0 0) (nI (cn + 1))) := by
          unfold sV_begin sB_shut
          exact (((((((((((Hi.rf.up (by unfold iV; omega)).up (by unfold iV; omega)).up (by unfold iV; omega)).up (by unfold iV; omega)).up (by unfold iV; omega)).up (by unfold iV; omega)).up (by unfold iV; omega)).up (by unfold iV; omega)).up (by unfold iB; omega)).up (by unfold iB; omega)).up (by unfold iB; omega)).up (by decide)
        have e0 : upd (sV_begin 0 cn wt cp G) (iS 0 0) (nI (cn + 1)) (iM 0) = nI cn := (hown _ (by decide)).trans h.T0
        refine ⟨0, _, _, _, _, KhE.mk (hL_addServer l D K NL ad G x hst hp hz h320 cn h.c hc wt cp h1 h2) ⟨by decide, by decide, by decide, by decide⟩, KdE.mk (kX6_addServer l D K NL ad _ _ hm cn e0 hc wt cp h1 h2) ⟨by decide, by decide, by decide, by decide⟩, ?_, fun _ => rfl, ?_⟩
        · unfold mM_add
          rw [pk_un (by decide), pk_un (by unfold iM iT; omega), pk_un (by unfold iM iT; omega), pk_un (by unfold iM iT; omega), pk_un (by unfold iM iT; omega), pk_us]
        · refine hR.go hown ?_ (cn := cn + 1) (t := t) (nn := nn) (o := o) ?_
          · unfold mM_add
            exact (((((Lo.rf.ti (by decide)).up (by omega)).up (by omega)).up (by omega)).up (by omega)).up (by decide)
          · unfold mM_add
            rw [tM_up, tM_up, tM_up, tM_up, tM_up, tM_t (by decide), hown.tM]
            exact rs_add h hc h1 h2
      · have e10 : cn = 10 := by omega
        exact ⟨2, _, _, _, _, KhE.mk (hL_addServer_3 l D K NL ad G x hst hp hz h320 wt cp h1 h2 (by rw [h.c, e10]; decide)) ⟨by decide, by decide, by decide, by decide⟩, KdE.mk (eX6_addServer_3 l D K NL ad _ _ hm (by rw [show G (iM 0) = nI cn from h.T0, e10]) wt cp h1 h2) ⟨by decide, by decide, by decide, by decide⟩, pk_us, (fun h9 => absurd h9 (by decide)), hR.err⟩
    · exact ⟨1, _, _, _, _, KhE.mk (hL_addServer_2 l D K NL ad G x hst hp hz h320 wt cp h1 h2) ⟨by decide, by decide, by decide, by decide⟩, KdE.mk (eX6_addServer_2 l D K NL ad _ _ hm wt cp h1 h2) ⟨by decide, by decide, by decide, by decide⟩, pk_us, (fun h9 => absurd h9 (by decide)), hR.err⟩
  · exact ⟨1, _, _, _, _, KhE.mk (hL_addServer_1 l D K NL ad G x hst hp hz h320 wt cp h1) ⟨by decide, by decide, by decide, by decide⟩, KdE.mk (eX6_addServer_1 l D K NL ad _ _ hm wt cp h1) ⟨by decide, by decide, by decide, by decide⟩, pk_us, (fun h9 => absurd h9 (by decide)), hR.err⟩
set_option maxHeartbeats 1000000 in
theorem st_setWeight (hst : l.stackTraces = false) (hR : RelA n NL G) (hn : n < 512) (v wt : Int32) : StI l yL_setWeight wsL_setWeight yX6_setWeight wsX6_setWeight D K NL ad [.ref (ad 300), .int v, .int wt, .ref (ad 320)] [.ref (ad 310), .int v, .int wt] G x n := by
  obtain ⟨⟨hz, hp, h301, h320, h321, hm, hok, hok2⟩, ⟨cn, t, nn, o, h⟩, hsv⟩ := id hR
  have h10 := h.c10
  have hI := h.I
  rcases srv_ix (show cn < 2 ^ 31 by omega) v with hv | ⟨i, hi, rfl⟩
  · exact ⟨1, _, _, _, _, KhE.mk (hL_setWeight_1 l D K NL ad G x hst hp hz h320 v wt (by rw [h.c]; exact hv)) ⟨by decide, by decide, by decide, by decide⟩, KdE.mk (eX6_setWeight_1 l D K NL ad _ _ hm cn h.T0 h10 v wt hv) ⟨by decide, by decide, by decide, by decide⟩, pk_us, (fun h9 => absurd h9 (by decide)), hR.err⟩
  · have hi' : i < cN 0 G := by rw [h.ecN]; exact hi
    by_cases h1 : rng wt 1 10
    · have hown : Hi G (upd G (iV 0 i 0) wt) := Hi.rf.up (by unfold iV; omega)
      have e13 : upd (upd G (iV 0 i 0) wt) (iT 0) 0 (iM (13 + i)) = G (iV 0 i 0) := by
        rw [pk_un (by unfold iM iT; omega), hown _ (by unfold iM; omega), show 13 + i = 13 + 10 * 0 + i by omega]
        exact (h.V hi).1.1
      refine ⟨0, _, _, _, _, KhE.mk (hL_setWeight l D K NL ad G x hst hp hz h320 hI i hi' wt h1) ⟨by decide, by decide, by decide, by decide⟩, KdE.mk (kX6_setWeight l D K NL ad _ _ hm cn ((hown _ (by decide)).trans h.T0) h10 i hi wt h1) ⟨by decide, by decide, by decide, by decide⟩, ?_, fun _ => by rw [e13], ?_⟩
      · rw [pk_un (by unfold iM iT; omega), pk_us]
      · refine hR.go hown ((Lo.rf.ti (by decide)).up (by omega)) (cn := cn) (t := t) (nn := nn) (o := o) ?_
        rw [tM_up, tM_t (by decide), hown.tM]
        exact rs_wt h hi h1
    · exact ⟨2, _, _, _, _, KhE.mk (hL_setWeight_2 l D K NL ad G x hst hp hz h320 hI i hi' wt h1) ⟨by decide, by decide, by decide, by decide⟩, KdE.mk (eX6_setWeight_2 l D K NL ad _ _ hm cn h.T0 h10 i hi wt h1) ⟨by decide, by decide, by decide, by decide⟩, pk_us, (fun h9 => absurd h9 (by decide)), hR.err⟩
set_option maxHeartbeats 1000000 in
theorem st_setDraining (hst : l.stackTraces = false) (hR : RelA n NL G) (hn : n < 512) (v pd : Int32) (hpd : pd = 0 ∨ pd = 1) : StZ l yL_setDraining wsL_setDraining yX6_setDraining wsX6_setDraining D K NL ad [.ref (ad 300), .int v, .int pd, .ref (ad 320)] [.ref (ad 310), .int v, .int pd] G x n := by
  obtain ⟨⟨hz, hp, h301, h320, h321, hm, hok, hok2⟩, ⟨cn, t, nn, o, h⟩, hsv⟩ := id hR
  have h10 := h.c10
  have hI := h.I
  rcases srv_ix (show cn < 2 ^ 31 by omega) v with hv | ⟨i, hi, rfl⟩
  · exact ⟨1, _, _, _, _, KhE.mk (hL_setDraining_1 l D K NL ad G x hst hp hz h320 v pd (by rw [h.c]; exact hv)) ⟨by decide, by decide, by decide, by decide⟩, KdE.mk (eX6_setDraining l D K NL ad _ _ hm cn h.T0 h10 v pd hv) ⟨by decide, by decide, by decide, by decide⟩, pk_us, (fun h9 => absurd h9 (by decide)), hR.err⟩
  · have hi' : i < cN 0 G := by rw [h.ecN]; exact hi
    have hown : Hi G (upd G (iV 0 i 5) pd) := Hi.rf.up (by unfold iV; omega)
    obtain ⟨_, _, _, _, h5, _⟩ := h.V hi
    have e53 : upd (upd G (iV 0 i 5) pd) (iT 0) 0 (iM (53 + i)) = G (iV 0 i 5) := by
      rw [pk_un (by unfold iM iT; omega), hown _ (by unfold iM; omega), show 53 + i = 13 + 10 * 4 + i by omega]
      exact h5.1
    have h5' : G (iV 0 i 5) = 0 ∨ G (iV 0 i 5) = 1 := h5.2
    refine ⟨0, _, _, _, _, KhE.mk (hL_setDraining l D K NL ad G x hst hp hz h320 hI i hi' pd hpd h5') ⟨by decide, by decide, by decide, by decide⟩, KdE.mk (kX6_setDraining l D K NL ad _ _ hm cn ((hown _ (by decide)).trans h.T0) h10 i hi pd) ⟨by decide, by decide, by decide, by decide⟩, ?_, fun _ => ?_, ?_⟩
    · rw [pk_un (by unfold iM iT; omega), pk_us]
    · rw [e53]
      rcases h5' with e | e <;> rw [e] <;> rfl
    · refine hR.go hown ((Lo.rf.ti (by decide)).up (by omega)) (cn := cn) (t := t) (nn := nn) (o := o) ?_
      rw [tM_up, tM_t (by decide), hown.tM]
      exact rs_drain h hi hpd
set_option maxHeartbeats 1000000 in
theorem st_report (hst : l.stackTraces = false) (hR : RelA n NL G) (hn : n < 512) (v pd : Int32) (hpd : pd = 0 ∨ pd = 1) : StZ l yL_report wsL_report yX6_report wsX6_report D K NL ad [.ref (ad 300), .int v, .int pd, .ref (ad 320)] [.ref (ad 310), .int v, .int pd] G x n := by
  obtain ⟨⟨hz, hp, h301, h320, h321, hm, hok, hok2⟩, ⟨cn, t, nn, o, h⟩, hsv⟩ := id hR
  have h10 := h.c10
  have hI := h.I
  rcases srv_ix (show cn < 2 ^ 31 by omega) v with hv | ⟨i, hi, rfl⟩
  · exact ⟨1, _, _, _, _, KhE.mk (hL_report_1 l D K NL ad G x hst hp hz h320 v pd (by rw [h.c]; exact hv)) ⟨by decide, by decide, by decide, by decide⟩, KdE.mk (eX6_report l D K NL ad _ _ hm cn h.T0 h10 v pd hv) ⟨by decide, by decide, by decide, by decide⟩, pk_us, (fun h9 => absurd h9 (by decide)), hR.err⟩
  · have hi' : i < cN 0 G := by rw [h.ecN]; exact hi
    have hown : Hi G (sP_rep i pd G) := (sP_rep_own G).hi (by omega)
    have hb4 := (h.hb i hi').1
    obtain ⟨r1, r2⟩ := rs_rep h hi hpd
    have eT : tM (mM_rep i pd (sP_rep i pd G)) = tRep i pd (tM G) := by rw [mM_rep_T (by omega), hown.tM]
    refine ⟨0, _, _, _, _, KhE.mk (hL_report l D K NL ad G x hst hp hz h320 hI i hi' pd hb4) ⟨by decide, by decide, by decide, by decide⟩, KdE.mk (kX6_report l D K NL ad _ _ hm cn ((hown _ (by decide)).trans h.T0) h10 i hi pd) ⟨by decide, by decide, by decide, by decide⟩, ?_, fun _ => ?_, ?_⟩
    · unfold mM_rep mM_repW mM_repU
      split
      · split
        · rw [pk_un (by unfold iM iT; omega), pk_us]
        · split
          · rw [pk_un (by unfold iM iT; omega), pk_us]
          · rw [pk_un (by unfold iM iT; omega), pk_un (by unfold iM iT; omega), pk_un (by unfold iM iT; omega), pk_un (by unfold iM iT; omega), pk_us]
      · split
        · rw [pk_un (by unfold iM iT; omega), pk_us]
        · split
          · rw [pk_un (by unfold iM iT; omega), pk_us]
          · rw [pk_un (by unfold iM iT; omega), pk_un (by unfold iM iT; omega), pk_un (by unfold iM iT; omega), pk_un (by unfold iM iT; omega), pk_us]
    · have e43 : mM_rep i pd (sP_rep i pd G) (iM (43 + i)) = tRep i pd (tM G) (43 + i) := congrFun eT (43 + i)
      rw [e43]
      by_cases h9 : sP_rep i pd G (iV 0 i 4) = 0
      · rw [if_pos h9, if_neg (fun h8 => (r2.mp h8) h9), if_pos rfl]
      · rw [if_neg h9, if_pos (r2.mpr h9), if_neg (show ¬ (1 : Int32) = 0 by decide)]
    · refine hR.go hown ?_ (cn := cn) (t := t) (nn := nn) (o := o) (by rw [eT]; exact r1)
      unfold mM_rep mM_repW mM_repU
      split
      · split
        · exact (Lo.rf.ti (by decide)).up (by omega)
        · split
          · exact (Lo.rf.ti (by decide)).up (by omega)
          · exact ((((Lo.rf.ti (by decide)).up (by omega)).up (by omega)).up (by omega)).up (by omega)
      · split
        · exact (Lo.rf.ti (by decide)).up (by omega)
        · split
          · exact (Lo.rf.ti (by decide)).up (by omega)
          · exact ((((Lo.rf.ti (by decide)).up (by omega)).up (by omega)).up (by omega)).up (by omega)
set_option maxHeartbeats 1000000 in
theorem st_setThresholds (hst : l.stackTraces = false) (hR : RelA n NL G) (hn : n < 512) (a b : Int32) : StV l yL_setThresholds wsL_setThresholds yX6_setThresholds wsX6_setThresholds D K NL ad [.ref (ad 300), .int a, .int b] [.ref (ad 310), .int a, .int b] G x n := by
  obtain ⟨⟨hz, hp, h301, h320, h321, hm, hok, hok2⟩, ⟨cn, t, nn, o, h⟩, hsv⟩ := id hR
  have h10 := h.c10
  have hI := h.I
  by_cases h1 : rng a 1 9
  · by_cases h2 : rng b 1 9
    · have hown : Hi G (upd (upd G (iS 0 1) a) (iS 0 2) b) := (Hi.rf.up (by decide)).up (by decide)
      refine ⟨0, _, _, _, KhE.mk (hL_setThresholds l D K NL ad G x hst hp hz a b h1 h2) ⟨by decide, by decide, by decide, by decide⟩, KdE.mk (kX6_setThresholds l D K NL ad _ _ hm a b h1 h2) ⟨by decide, by decide, by decide, by decide⟩, ?_, ?_⟩
      · rw [pk_un (by decide), pk_un (by decide), pk_us]
      · refine hR.go hown (((Lo.rf.ti (by decide)).up (by decide)).up (by decide)) (cn := cn) (t := t) (nn := nn) (o := o) ?_
        rw [tM_up, tM_up, tM_t (by decide), hown.tM]
        exact rs_thr h h1 h2
    · exact ⟨1, _, _, _, KhE.mk (hL_setThresholds_2 l D K NL ad G x hst hp hz a b h1 h2) ⟨by decide, by decide, by decide, by decide⟩, KdE.mk (eX6_setThresholds_2 l D K NL ad _ _ hm a b h1 h2) ⟨by decide, by decide, by decide, by decide⟩, pk_us, hR.err⟩
  · exact ⟨1, _, _, _, KhE.mk (hL_setThresholds_1 l D K NL ad G x hst hp hz a b h1) ⟨by decide, by decide, by decide, by decide⟩, KdE.mk (eX6_setThresholds_1 l D K NL ad _ _ hm a b h1) ⟨by decide, by decide, by decide, by decide⟩, pk_us, hR.err⟩
set_option maxHeartbeats 1000000 in
theorem st_setSlowStart (hst : l.stackTraces = false) (hR : RelA n NL G) (hn : n < 512) (a : Int32) : StI l yL_setSlowStart wsL_setSlowStart yX6_setSlowStart wsX6_setSlowStart D K NL ad [.ref (ad 300), .int a, .ref (ad 320)] [.ref (ad 310), .int a] G x n := by
  obtain ⟨⟨hz, hp, h301, h320, h321, hm, hok, hok2⟩, ⟨cn, t, nn, o, h⟩, hsv⟩ := id hR
  have h10 := h.c10
  have hI := h.I
  by_cases h1 : rng a 0 50
  · have hown : Hi G (upd G (iS 0 3) a) := Hi.rf.up (by decide)
    refine ⟨0, _, _, _, _, KhE.mk (hL_setSlowStart l D K NL ad G x hst hp hz h320 a h1) ⟨by decide, by decide, by decide, by decide⟩, KdE.mk (kX6_setSlowStart l D K NL ad _ _ hm a h1) ⟨by decide, by decide, by decide, by decide⟩, ?_, fun _ => ?_, ?_⟩
    · rw [pk_un (by decide), pk_us]
    · rw [pk_un (by decide), hown _ (by decide), show G (iM 4) = G (iS 0 3) from h.T4]
    · refine hR.go hown ((Lo.rf.ti (by decide)).up (by decide)) (cn := cn) (t := t) (nn := nn) (o := o) ?_
      rw [tM_up, tM_t (by decide), hown.tM]
      exact rs_slow h
  · exact ⟨1, _, _, _, _, KhE.mk (hL_setSlowStart_1 l D K NL ad G x hst hp hz h320 a h1) ⟨by decide, by decide, by decide, by decide⟩, KdE.mk (eX6_setSlowStart l D K NL ad _ _ hm a h1) ⟨by decide, by decide, by decide, by decide⟩, pk_us, (fun h9 => absurd h9 (by decide)), hR.err⟩
set_option maxHeartbeats 1000000 in
theorem st_setCool (hst : l.stackTraces = false) (hR : RelA n NL G) (hn : n < 512) (a : Int32) : StI l yL_setCool wsL_setCool yX6_setCool wsX6_setCool D K NL ad [.ref (ad 300), .int a, .ref (ad 320)] [.ref (ad 310), .int a] G x n := by
  obtain ⟨⟨hz, hp, h301, h320, h321, hm, hok, hok2⟩, ⟨cn, t, nn, o, h⟩, hsv⟩ := id hR
  have h10 := h.c10
  have hI := h.I
  by_cases h1 : rng a 1 50
  · have hown : Hi G (upd G (iS 0 4) a) := Hi.rf.up (by decide)
    refine ⟨0, _, _, _, _, KhE.mk (hL_setCool l D K NL ad G x hst hp hz h320 a h1) ⟨by decide, by decide, by decide, by decide⟩, KdE.mk (kX6_setCool l D K NL ad _ _ hm a h1) ⟨by decide, by decide, by decide, by decide⟩, ?_, fun _ => ?_, ?_⟩
    · rw [pk_un (by decide), pk_us]
    · rw [pk_un (by decide), hown _ (by decide), show G (iM 5) = G (iS 0 4) from h.T5]
    · refine hR.go hown ((Lo.rf.ti (by decide)).up (by decide)) (cn := cn) (t := t) (nn := nn) (o := o) ?_
      rw [tM_up, tM_t (by decide), hown.tM]
      exact rs_cool h
  · exact ⟨1, _, _, _, _, KhE.mk (hL_setCool_1 l D K NL ad G x hst hp hz h320 a h1) ⟨by decide, by decide, by decide, by decide⟩, KdE.mk (eX6_setCool l D K NL ad _ _ hm a h1) ⟨by decide, by decide, by decide, by decide⟩, pk_us, (fun h9 => absurd h9 (by decide)), hR.err⟩
set_option maxHeartbeats 1000000 in
theorem st_setSticky (hst : l.stackTraces = false) (hR : RelA n NL G) (hn : n < 512) (a : Int32) : StI l yL_setSticky wsL_setSticky yX6_setSticky wsX6_setSticky D K NL ad [.ref (ad 300), .int a, .ref (ad 320)] [.ref (ad 310), .int a] G x n := by
  obtain ⟨⟨hz, hp, h301, h320, h321, hm, hok, hok2⟩, ⟨cn, t, nn, o, h⟩, hsv⟩ := id hR
  have h10 := h.c10
  have hI := h.I
  by_cases h1 : rng a 0 100
  · have hown : Hi G (sP_stk a G) := by
      unfold sP_stk
      split
      · exact (Hi.rf.up (by decide)).up (by decide)
      · exact Hi.rf.up (by decide)
    obtain ⟨nn', h2⟩ := rs_stk (a := a) h
    refine ⟨0, _, _, _, _, KhE.mk (hL_setSticky l D K NL ad G x hst hp hz h320 a h1) ⟨by decide, by decide, by decide, by decide⟩, KdE.mk (kX6_setSticky l D K NL ad _ _ hm a h1) ⟨by decide, by decide, by decide, by decide⟩, ?_, fun _ => ?_, ?_⟩
    · unfold mM_stk
      rw [pk_un (by decide), pk_un (by decide), pk_us]
    · rw [pk_un (by decide), pk_un (by decide), hown _ (by decide), show G (iM 6) = G (iS 0 5) from h.T6]
    · refine hR.go hown ?_ (cn := cn) (t := t) (nn := nn') (o := o) ?_
      · unfold mM_stk
        exact ((Lo.rf.ti (by decide)).up (by decide)).up (by decide)
      · unfold mM_stk
        rw [tM_up, tM_up, tM_t (by decide), hown.tM, pk_un (by decide), hown _ (by decide)]
        exact h2
  · exact ⟨1, _, _, _, _, KhE.mk (hL_setSticky_1 l D K NL ad G x hst hp hz h320 a h1) ⟨by decide, by decide, by decide, by decide⟩, KdE.mk (eX6_setSticky l D K NL ad _ _ hm a h1) ⟨by decide, by decide, by decide, by decide⟩, pk_us, (fun h9 => absurd h9 (by decide)), hR.err⟩
set_option maxHeartbeats 1000000 in
theorem st_setPolicy (hst : l.stackTraces = false) (hR : RelA n NL G) (hn : n < 512) (a : Int32) : StI l yL_setPolicy wsL_setPolicy yX6_setPolicy wsX6_setPolicy D K NL ad [.ref (ad 300), .int a, .ref (ad 320)] [.ref (ad 310), .int a] G x n := by
  obtain ⟨⟨hz, hp, h301, h320, h321, hm, hok, hok2⟩, ⟨cn, t, nn, o, h⟩, hsv⟩ := id hR
  have h10 := h.c10
  have hI := h.I
  by_cases h1 : rng a 0 4
  · obtain ⟨g1, g2⟩ := sP_pol_G (a := a) h
    have hown : Hi G (sP_pol a G) := fun g hg => by rw [g2 g (fun i hi => by unfold iV; omega), pk_un (by unfold iS; omega), pk_un (by unfold iS; omega)]
    obtain ⟨t1, t2⟩ := mM_pol_T (a := a) (sP_pol a G)
    have hz9 := fold_zero (p := fun i => iM (113 + i)) (upd (sP_pol a G) (iT 0) 0) 10
    have e0 : mM_pol0 (sP_pol a G) = upd (fold9 (fun i M => upd M (iM (113 + i)) 0) 10 0 (upd (sP_pol a G) (iT 0) 0)) (iM 9) (-1) := rfl
    have hlo : Lo (sP_pol a G) (mM_pol a (sP_pol a G)) := by
      unfold mM_pol
      rw [e0]
      refine Lo.up (Lo.up (fun g hg => ?_) (by decide)) (by decide)
      rw [hz9.2 g (fun i hi => by unfold iM; omega), pk_un (by unfold iT; omega)]
    refine ⟨0, _, _, _, _, KhE.mk (hL_setPolicy l D K NL ad G x hst hp hz h320 hI a h1) ⟨by decide, by decide, by decide, by decide⟩, KdE.mk (kX6_setPolicy l D K NL ad _ _ hm a h1) ⟨by decide, by decide, by decide, by decide⟩, ?_, fun _ => ?_, ?_⟩
    · unfold mM_pol
      rw [e0, pk_un (by decide), pk_un (by decide), hz9.2 (iT 0) (fun i hi => by unfold iM iT; omega), pk_us]
    · rw [e0, pk_un (by decide), hz9.2 (iM 7) (fun i hi => by unfold iM; omega), pk_un (by decide), hown _ (by decide), show G (iM 7) = G (iS 0 6) from h.T7.1]
    · refine hR.go hown hlo (cn := cn) (t := t) (nn := nn) (o := o) ?_
      exact rs_pol h h1 t1 (fun j hj => by rw [t2 j hj, hown.tM])
  · exact ⟨1, _, _, _, _, KhE.mk (hL_setPolicy_1 l D K NL ad G x hst hp hz h320 a h1) ⟨by decide, by decide, by decide, by decide⟩, KdE.mk (eX6_setPolicy l D K NL ad _ _ hm a h1) ⟨by decide, by decide, by decide, by decide⟩, pk_us, (fun h9 => absurd h9 (by decide)), hR.err⟩
set_option maxHeartbeats 1000000 in
theorem st_tick (hst : l.stackTraces = false) (hR : RelA n NL G) (hn : n < 512) (a : Int32) : StI l yL_tick wsL_tick yX6_tick wsX6_tick D K NL ad [.ref (ad 300), .int a, .ref (ad 320)] [.ref (ad 310), .int a] G x n := by
  obtain ⟨⟨hz, hp, h301, h320, h321, hm, hok, hok2⟩, ⟨cn, t, nn, o, h⟩, hsv⟩ := id hR
  have h10 := h.c10
  have hI := h.I
  by_cases h1 : rng a 1 200
  · obtain ⟨k, rfl, hk1, hk2⟩ := rng_nI (m := 200) h1 (by decide)
    have htn := h.tn
    have hpre : ∀ i, i < cn → G (iM (83 + i)) = 1 → ∃ q, G (iM (93 + i)) = nI q ∧ q ≤ t := fun i hi h9 => by
      obtain ⟨_, _, _, _, _, _, _, k8, k9, _⟩ := h.V hi
      have e8 : cV 0 i G 10 = 1 := by rw [← k8.1]; show G (iM (13 + 10 * 7 + i)) = 1; rw [show 13 + 10 * 7 + i = 83 + i by omega]; exact h9
      obtain ⟨e9, q, hq, hqt⟩ := k9 e8
      refine ⟨q, ?_, hqt⟩
      rw [show 93 + i = 13 + 10 * 8 + i by omega]
      exact e9.trans hq
    have hown : Hi G (sP_tick (nI k) G) := by
      have e : sP_tick (nI k) G = fold9 (coolF (fun i => iB 0 i 0) (fun i => iB 0 i 1) (fun i => iB 0 i 2) (iS 0 9) (iS 0 4)) cn 0 (upd G (iS 0 9) (nI (t + k))) := by
        unfold sP_tick sS_cool
        rw [sS_coolF_eq, show cN 0 (upd G (iS 0 9) (G (iS 0 9) + nI k)) = cn by unfold cN; rw [pk_un (by decide)]; exact h.ecN, h.ht, nI_add]
      intro g hg
      rw [e]
      have := (fold_cool (p := fun i => iB 0 i 0) (q := fun i => iB 0 i 1) (r := fun i => iB 0 i 2) (τ := iS 0 9) (κ := iS 0 4) (fun i j h => by unfold iB; omega) (fun i j h => by unfold iB; omega) (fun i j h1 h2 => by unfold iB; omega) (fun i j h1 h2 => ⟨by unfold iB; omega, by unfold iB; omega⟩) (fun j h => ⟨by unfold iS iB; omega, by unfold iS iB; omega⟩) (fun j h => ⟨by unfold iS iB; omega, by unfold iS iB; omega⟩) (upd G (iS 0 9) (nI (t + k))) cn h10).2 g (fun i hi => ⟨by unfold iB; omega, by unfold iB; omega⟩)
      rw [this, pk_un (by unfold iS; omega)]
    obtain ⟨m1, m2, m3⟩ := mM_tick_T (k := k) (Q := sP_tick (nI k) G) (cn := cn) (t := t) h10 ((hown _ (by decide)).trans h.T1) (fun i hi h9 => by rw [hown _ (by unfold iM; omega)] at h9 ⊢; exact hpre i hi h9) (by omega)
    have hq : ∀ j, sP_tick (nI k) G (iM j) = G (iM j) := fun j => hown _ (by unfold iM; omega)
    obtain ⟨r1, r2, r3⟩ := rs_tick (k := k) (T' := tM (mM_tick k cn (sP_tick (nI k) G))) h hk1 hk2 (by omega) m1 (fun i hi => by
        have := m2 i hi
        rw [hown.tM] at this
        refine ⟨this.1, fun h9 => ?_⟩
        have := this.2 h9
        rw [hq, hq] at this
        exact this) (fun j h1 h2 => by
        show mM_tick k cn (sP_tick (nI k) G) (iM j) = G (iM j)
        rw [m3 (iM j) (by unfold iM iT; omega) (by unfold iM; omega) (fun i hi => by have := h2 i hi; exact ⟨by unfold iM; omega, by unfold iM; omega⟩)]
        exact hq j)
    have hlo : Lo (sP_tick (nI k) G) (mM_tick k cn (sP_tick (nI k) G)) := fun g hg => m3 g (by unfold iT; omega) (by unfold iM; omega) (fun i hi => ⟨by unfold iM; omega, by unfold iM; omega⟩)
    have hthr : mM_tick k cn (sP_tick (nI k) G) (iT 0) = 0 := by
      unfold mM_tick
      have := fold9_inv (F := mM_tkO cn) (fun _ M => M (iT 0) = 0) k 0 (upd (sP_tick (nI k) G) (iT 0) 0) pk_us (fun j M _ _ hM => by
        unfold mM_tkO
        rw [mM_tkI_eq, (fold_cool (p := fun i => iM (83 + i)) (q := fun i => iM (93 + i)) (r := fun i => iM (103 + i)) (τ := iM 1) (κ := iM 5) (fun i j h => by unfold iM; omega) (fun i j h => by unfold iM; omega) (fun i j h1 h2 => by unfold iM; omega) (fun i j h1 h2 => ⟨by unfold iM; omega, by unfold iM; omega⟩) (fun j h => ⟨by unfold iM; omega, by unfold iM; omega⟩) (fun j h => ⟨by unfold iM; omega, by unfold iM; omega⟩) (upd M (iM 1) (M (iM 1) + 1)) cn h10).2 (iT 0) (fun i hi => ⟨by unfold iM iT; omega, by unfold iM iT; omega⟩), pk_un (by decide)]
        exact hM)
      exact this
    refine ⟨0, _, _, _, _, KhE.mk (hL_tick l D K NL ad G x hst hp hz h320 hI (nI k) h1) ⟨by decide, by decide, by decide, by decide⟩, KdE.mk (kX6_tick l D K NL ad _ _ hm cn ((hown _ (by decide)).trans h.T0) h10 k hk2 h1) ⟨by decide, by decide, by decide, by decide⟩, hthr, fun _ => ?_, ?_⟩
    · rw [m1, r3]
    · exact hR.go hown hlo r1
  · exact ⟨1, _, _, _, _, KhE.mk (hL_tick_1 l D K NL ad G x hst hp hz h320 a h1) ⟨by decide, by decide, by decide, by decide⟩, KdE.mk (eX6_tick l D K NL ad _ _ hm a h1) ⟨by decide, by decide, by decide, by decide⟩, pk_us, (fun h9 => absurd h9 (by decide)), hR.err⟩
set_option maxHeartbeats 1000000 in
theorem st_open (hst : l.stackTraces = false) (hR : RelA n NL G) (hn : n < 512) (cl : Int32) : StI l yL_open wsL_open yX6_open wsX6_open D K NL ad [.ref (ad 300), .int cl, .ref (ad 320)] [.ref (ad 310), .int cl] G x n := by
  obtain ⟨⟨hz, hp, h301, h320, h321, hm, hok, hok2⟩, ⟨cn, t, nn, o, h⟩, hsv⟩ := id hR
  have h10 := h.c10
  have hI := h.I
  cases hf : sS_for 0 cl G with
  | none =>
    have hown : Hi G (upd G (iS 0 10) (G (iS 0 10) + 1)) := Hi.rf.up (by decide)
    have hQ : RS cn t nn o n 0 (tM (upd G (iS 0 10) (G (iS 0 10) + 1))) G := by rw [hown.tM]; exact h
    have hJ := hQ.J (by omega)
    refine ⟨1, _, _, _, _, KhE.mk (hL_open_1 l D K NL ad G x hst hp hz h320 hI cl hf) ⟨by decide, by decide, by decide, by decide⟩, KdE.mk (eX6_open l D K NL ad _ _ hm cn hJ cl (by rw [for_eq (by omega) hQ]; exact hf)) ⟨by decide, by decide, by decide, by decide⟩, ?_, (fun h9 => absurd h9 (by decide)), ?_⟩
    · rw [pk_un (by decide), pk_us]
    · refine hR.go hown (((lay_lo h10).ti (by decide)).up (by decide)) (cn := cn) (t := t) (nn := nn) (o := o) ?_
      rw [tM_up, tM_t (by decide), lay_T h10, hown.tM, pk_un (by decide), (mM_lay_ok h10).1 11, hown _ (by decide)]
      exact rs_rej h
  | some j =>
    have hown : Hi G (sP_op j cl G) := by
      obtain ⟨_, _, _, hi9, _, _⟩ := rs_open (Q := G) (by omega) h hf
      exact hi9
    have hQ : RS cn t nn o n 0 (tM (sP_op j cl G)) G := by rw [hown.tM]; exact h
    obtain ⟨nn', r1, r2, _, r4, r5⟩ := rs_open (by omega) hQ hf
    have hJ := hQ.J (by omega)
    refine ⟨0, _, _, _, _, KhE.mk (hL_open l D K NL ad G x hst hp hz h320 hI cl j hf) ⟨by decide, by decide, by decide, by decide⟩, KdE.mk (kX6_open l D K NL ad _ _ hm cn hJ cl j (by rw [for_eq (by omega) hQ]; exact hf)) ⟨by decide, by decide, by decide, by decide⟩, ?_, fun _ => by rw [r4, r5], hR.go hown r2 r1⟩
    exact op_thr h10 (fun i hi => by have := (avS_lt hi).1; omega) (avL_eq hQ) (by rw [hQ.emn]; exact hQ.hn.2.2) (by have := (sS_for_some hI hf).1; rw [h.ecN] at this; omega)
set_option maxHeartbeats 1000000 in
theorem st_close (hst : l.stackTraces = false) (hR : RelA n NL G) (hn : n < 512) (v gd : Int32) : StI l yL_close wsL_close yX6_close wsX6_close D K NL ad [.ref (ad 300), .int v, .int gd, .ref (ad 320)] [.ref (ad 310), .int v, .int gd] G x n := by
  obtain ⟨⟨hz, hp, h301, h320, h321, hm, hok, hok2⟩, ⟨cn, t, nn, o, h⟩, hsv⟩ := id hR
  have h10 := h.c10
  have hI := h.I
  have hJ := h.J (Q := G) (by omega)
  have emo := h.emo
  have h1000 := h.ho.2.2
  rcases srv_ix (show o < 2 ^ 31 by omega) v with hv | ⟨k, hk, rfl⟩
  · exact ⟨1, _, _, _, _, KhE.mk (hL_close_1 l D K NL ad G x hst hp hz h320 v gd (by rw [h.ho.2.1]; exact hv)) ⟨by decide, by decide, by decide, by decide⟩, KdE.mk (eX6_close_1 l D K NL ad _ _ hm cn hJ v gd (by rw [emo]; exact hv)) ⟨by decide, by decide, by decide, by decide⟩, pk_us, (fun h9 => absurd h9 (by decide)), hR.err⟩
  · have hk' : k < oN 0 G := by rw [h.eoN]; exact hk
    by_cases h9 : G (iA 0 3000 k) = 0
    · have h8 : G (iM (2263 + k)) = 1 := by
        rcases (h.2.2.2.1 k hk).2.2 with ⟨a, b⟩ | ⟨a, b⟩
        · rw [a] at h9; exact absurd h9 (by decide)
        · exact b
      exact ⟨2, _, _, _, _, KhE.mk (hL_close_2 l D K NL ad G x hst hp hz h320 hI k hk' gd h9) ⟨by decide, by decide, by decide, by decide⟩, KdE.mk (eX6_close_2 l D K NL ad _ _ hm cn hJ k (by rw [emo]; exact hk) gd h8) ⟨by decide, by decide, by decide, by decide⟩, pk_us, (fun h9 => absurd h9 (by decide)), hR.err⟩
    · have hown : Hi G (sS_dis 0 k gd G) := (rs_close (Q := G) (gd := gd) (by omega) h hk).2.2.1
      have hQ : RS cn t nn o n 0 (tM (sS_dis 0 k gd G)) G := by rw [hown.tM]; exact h
      obtain ⟨r1, r2, _, r4⟩ := rs_close (gd := gd) (by omega) hQ hk
      have h8 : ¬ sS_dis 0 k gd G (iM (2263 + k)) = 1 := by
        rw [hown _ (by unfold iM; omega)]
        rcases (h.2.2.2.1 k hk).2.2 with ⟨a, b⟩ | ⟨a, b⟩
        · rw [show G (iM (2263 + k)) = 0 from b]; decide
        · exact absurd a h9
      have hJ2 := hQ.J (by omega)
      refine ⟨0, _, _, _, _, KhE.mk (hL_close l D K NL ad G x hst hp hz h320 hI k hk' gd h9) ⟨by decide, by decide, by decide, by decide⟩, KdE.mk (kX6_close l D K NL ad _ _ hm cn hJ2 k (by rw [hQ.emo]; exact hk) gd h8) ⟨by decide, by decide, by decide, by decide⟩, ?_, fun _ => by rw [r4], hR.go hown r2 r1⟩
      obtain ⟨⟨a1, q, a2, a3⟩, _, _⟩ := hQ.2.2.2.1 k hk
      have em : mco k (sS_dis 0 k gd G) = q := by unfold mco; rw [show sS_dis 0 k gd G (iM (263 + k)) = nI q from a1.trans a3, nI_clamp (by omega)]
      exact cl_thr em (by omega)
set_option maxHeartbeats 1000000 in
theorem st_serverOf (hst : l.stackTraces = false) (hR : RelA n NL G) (hn : n < 512) (v : Int32) : StI l yL_serverOf wsL_serverOf yX6_serverOf wsX6_serverOf D K NL ad [.ref (ad 300), .int v, .ref (ad 320)] [.ref (ad 310), .int v] G x n := by
  obtain ⟨⟨hz, hp, h301, h320, h321, hm, hok, hok2⟩, ⟨cn, t, nn, o, h⟩, hsv⟩ := id hR
  have h10 := h.c10
  have hI := h.I
  have hJ := h.J (Q := G) (by omega)
  have emo := h.emo
  have h1000 := h.ho.2.2
  rcases srv_ix (show o < 2 ^ 31 by omega) v with hv | ⟨k, hk, rfl⟩
  · exact ⟨1, _, _, _, _, KhE.mk (hL_serverOf_1 l D K NL ad G x hst hp hz h320 v (by rw [h.ho.2.1]; exact hv)) ⟨by decide, by decide, by decide, by decide⟩, KdE.mk (eX6_serverOf l D K NL ad _ _ hm cn hJ v (by rw [emo]; exact hv)) ⟨by decide, by decide, by decide, by decide⟩, pk_us, (fun h9 => absurd h9 (by decide)), hR.err⟩
  · have hk' : k < oN 0 G := by rw [h.eoN]; exact hk
    refine ⟨0, _, _, _, _, KhE.mk (hL_serverOf l D K NL ad G x hst hp hz h320 hI k hk') ⟨by decide, by decide, by decide, by decide⟩, KdE.mk (kX6_serverOf l D K NL ad _ _ hm cn hJ k (by rw [emo]; exact hk)) ⟨by decide, by decide, by decide, by decide⟩, pk_us, fun _ => ?_, hR.err⟩
    rw [pk_un (by unfold iM iT; omega), show G (iM (263 + k)) = G (iA 0 1000 k) from (h.2.2.2.1 k hk).1.1]
set_option maxHeartbeats 1000000 in
theorem st_isAvailable (hst : l.stackTraces = false) (hR : RelA n NL G) (hn : n < 512) (v : Int32) : StZ l yL_isAvailable wsL_isAvailable yX6_isAvailable wsX6_isAvailable D K NL ad [.ref (ad 300), .int v, .ref (ad 320)] [.ref (ad 310), .int v] G x n := by
  obtain ⟨⟨hz, hp, h301, h320, h321, hm, hok, hok2⟩, ⟨cn, t, nn, o, h⟩, hsv⟩ := id hR
  have h10 := h.c10
  have hI := h.I
  rcases srv_ix (show cn < 2 ^ 31 by omega) v with hv | ⟨i, hi, rfl⟩
  · exact ⟨1, _, _, _, _, KhE.mk (hL_isAvailable_1 l D K NL ad G x hst hp hz h320 v (by rw [h.c]; exact hv)) ⟨by decide, by decide, by decide, by decide⟩, KdE.mk (eX6_isAvailable l D K NL ad _ _ hm cn h.T0 h10 v hv) ⟨by decide, by decide, by decide, by decide⟩, pk_us, (fun h9 => absurd h9 (by decide)), hR.err⟩
  · have hi' : i < cN 0 G := by rw [h.ecN]; exact hi
    have hU : RS cn t nn o n 0 (tM (upd G (iT 0) 0)) G := by rw [tM_t (by decide)]; exact h
    refine ⟨0, _, _, _, _, KhE.mk (hL_isAvailable l D K NL ad G x hst hp hz h320 hI i hi') ⟨by decide, by decide, by decide, by decide⟩, KdE.mk (kX6_isAvailable l D K NL ad _ _ hm cn h.T0 h10 i hi) ⟨by decide, by decide, by decide, by decide⟩, pk_us, fun _ => ?_, hR.err⟩
    rw [acc_eq hU hi]
set_option maxHeartbeats 1000000 in
theorem st_effectiveWeight (hst : l.stackTraces = false) (hR : RelA n NL G) (hn : n < 512) (v : Int32) : StI l yL_effectiveWeight wsL_effectiveWeight yX6_effectiveWeight wsX6_effectiveWeight D K NL ad [.ref (ad 300), .int v, .ref (ad 320)] [.ref (ad 310), .int v] G x n := by
  obtain ⟨⟨hz, hp, h301, h320, h321, hm, hok, hok2⟩, ⟨cn, t, nn, o, h⟩, hsv⟩ := id hR
  have h10 := h.c10
  have hI := h.I
  rcases srv_ix (show cn < 2 ^ 31 by omega) v with hv | ⟨i, hi, rfl⟩
  · exact ⟨1, _, _, _, _, KhE.mk (hL_effectiveWeight_1 l D K NL ad G x hst hp hz h320 v (by rw [h.c]; exact hv)) ⟨by decide, by decide, by decide, by decide⟩, KdE.mk (eX6_effectiveWeight l D K NL ad _ _ hm cn h.T0 h10 v hv) ⟨by decide, by decide, by decide, by decide⟩, pk_us, (fun h9 => absurd h9 (by decide)), hR.err⟩
  · have hi' : i < cN 0 G := by rw [h.ecN]; exact hi
    have hU : RS cn t nn o n 0 (tM (upd G (iT 0) 0)) G := by rw [tM_t (by decide)]; exact h
    refine ⟨0, _, _, _, _, KhE.mk (hL_effectiveWeight l D K NL ad G x hst hp hz h320 hI i hi') ⟨by decide, by decide, by decide, by decide⟩, KdE.mk (kX6_effectiveWeight l D K NL ad _ _ hm cn h.T0 h10 i hi (hU.ewt (by omega) i hi)) ⟨by decide, by decide, by decide, by decide⟩, pk_us, fun _ => ?_, hR.err⟩
    rw [wt_eq (by omega) hU hi]
set_option maxHeartbeats 1000000 in
theorem st_active (hst : l.stackTraces = false) (hR : RelA n NL G) (hn : n < 512) (v : Int32) : StI l yL_active wsL_active yX6_active wsX6_active D K NL ad [.ref (ad 300), .int v, .ref (ad 320)] [.ref (ad 310), .int v] G x n := by
  obtain ⟨⟨hz, hp, h301, h320, h321, hm, hok, hok2⟩, ⟨cn, t, nn, o, h⟩, hsv⟩ := id hR
  have h10 := h.c10
  have hI := h.I
  rcases srv_ix (show cn < 2 ^ 31 by omega) v with hv | ⟨i, hi, rfl⟩
  · exact ⟨1, _, _, _, _, KhE.mk (hL_active_1 l D K NL ad G x hst hp hz h320 v (by rw [h.c]; exact hv)) ⟨by decide, by decide, by decide, by decide⟩, KdE.mk (eX6_active l D K NL ad _ _ hm cn h.T0 h10 v hv) ⟨by decide, by decide, by decide, by decide⟩, pk_us, (fun h9 => absurd h9 (by decide)), hR.err⟩
  · have hi' : i < cN 0 G := by rw [h.ecN]; exact hi
    have hU : RS cn t nn o n 0 (tM (upd G (iT 0) 0)) G := by rw [tM_t (by decide)]; exact h
    refine ⟨0, _, _, _, _, KhE.mk (hL_active l D K NL ad G x hst hp hz h320 hI i hi') ⟨by decide, by decide, by decide, by decide⟩, KdE.mk (kX6_active l D K NL ad _ _ hm cn h.T0 h10 i hi) ⟨by decide, by decide, by decide, by decide⟩, pk_us, fun _ => ?_, hR.err⟩
    rw [ld_eq hU hi]
set_option maxHeartbeats 1000000 in
theorem st_breaker (hst : l.stackTraces = false) (hR : RelA n NL G) (hn : n < 512) (v : Int32) : StI l yL_breaker wsL_breaker yX6_breaker wsX6_breaker D K NL ad [.ref (ad 300), .int v, .ref (ad 320)] [.ref (ad 310), .int v] G x n := by
  obtain ⟨⟨hz, hp, h301, h320, h321, hm, hok, hok2⟩, ⟨cn, t, nn, o, h⟩, hsv⟩ := id hR
  have h10 := h.c10
  have hI := h.I
  rcases srv_ix (show cn < 2 ^ 31 by omega) v with hv | ⟨i, hi, rfl⟩
  · exact ⟨1, _, _, _, _, KhE.mk (hL_breaker_1 l D K NL ad G x hst hp hz h320 v (by rw [h.c]; exact hv)) ⟨by decide, by decide, by decide, by decide⟩, KdE.mk (eX6_breaker l D K NL ad _ _ hm cn h.T0 h10 v hv) ⟨by decide, by decide, by decide, by decide⟩, pk_us, (fun h9 => absurd h9 (by decide)), hR.err⟩
  · have hi' : i < cN 0 G := by rw [h.ecN]; exact hi
    have hU : RS cn t nn o n 0 (tM (upd G (iT 0) 0)) G := by rw [tM_t (by decide)]; exact h
    refine ⟨0, _, _, _, _, KhE.mk (hL_breaker l D K NL ad G x hst hp hz h320 hI i hi') ⟨by decide, by decide, by decide, by decide⟩, KdE.mk (kX6_breaker l D K NL ad _ _ hm cn h.T0 h10 i hi) ⟨by decide, by decide, by decide, by decide⟩, pk_us, fun _ => ?_, hR.err⟩
    rw [show upd G (iT 0) 0 (iM (83 + i)) = G (iB 0 i 0) by rw [iB_iV, show 83 + i = 13 + 10 * 7 + i by omega]; exact (hU.V hi).2.2.2.2.2.2.2.1.1]
set_option maxHeartbeats 1000000 in
theorem st_utilization (hst : l.stackTraces = false) (hR : RelA n NL G) (hn : n < 512) (v : Int32) : StD l yL_utilization wsL_utilization yX6_utilization wsX6_utilization D K NL ad [.ref (ad 300), .int v, .ref (ad 321)] [.ref (ad 310), .int v] G x n := by
  obtain ⟨⟨hz, hp, h301, h320, h321, hm, hok, hok2⟩, ⟨cn, t, nn, o, h⟩, hsv⟩ := id hR
  have h10 := h.c10
  have hI := h.I
  rcases srv_ix (show cn < 2 ^ 31 by omega) v with hv | ⟨i, hi, rfl⟩
  · exact ⟨1, _, _, _, _, KhE.mk (hL_utilization_1 l D K NL ad G x hst hp hz h321 hok v (by rw [h.c]; exact hv)) ⟨by decide, by decide, by decide, by decide⟩, KdE.mk (eX6_utilization l D K NL ad _ _ hm cn h.T0 h10 v hv) ⟨by decide, by decide, by decide, by decide⟩, pk_us, (fun h9 => absurd h9 (by decide)), hR.err⟩
  · have hi' : i < cN 0 G := by rw [h.ecN]; exact hi
    have hU : RS cn t nn o n 0 (tM (upd G (iT 0) 0)) G := by rw [tM_t (by decide)]; exact h
    have e2 : upd G (iT 0) 0 (iM (33 + i)) = G (iV 0 i 2) := ld_eq hU hi
    obtain ⟨_, ⟨c1, cw, c2, c3, c4⟩, ⟨_, b1, b2⟩, _⟩ := hU.V hi
    have e1 : upd G (iT 0) 0 (iM (23 + i)) = G (iV 0 i 1) := by rw [show 23 + i = 13 + 10 * 1 + i by omega]; exact c1
    have hnan : vf_n64 (FP.ddiv (FP.i2d (G (iV 0 i 2))) (FP.i2d (G (iV 0 i 1)))) := by
      rw [show G (iV 0 i 1) = nI cw from c2]
      have b1' : -(n : Int) ≤ (G (iV 0 i 2)).toInt := b1
      have b2' : (G (iV 0 i 2)).toInt ≤ n := b2
      exact nan_ok (by omega) (by omega) c3 c4
    refine ⟨0, _, _, _, _, KhE.mk (hL_utilization l D K NL ad G x hst hp hz h321 hok hI i hi' hnan) ⟨by decide, by decide, by decide, by decide⟩, KdE.mk (kX6_utilization l D K NL ad _ _ hm cn h.T0 h10 i hi (by rw [e2, e1]; exact hnan)) ⟨by decide, by decide, by decide, by decide⟩, pk_us, fun _ => ?_, hR.err⟩
    rw [e2, e1]
set_option maxHeartbeats 1000000 in
theorem st_owner (hst : l.stackTraces = false) (hR : RelA n NL G) (hn : n < 512) (cl : Int32) : StI l yL_owner wsL_owner yX6_owner wsX6_owner D K NL ad [.ref (ad 300), .int cl, .ref (ad 320)] [.ref (ad 310), .int cl] G x n := by
  obtain ⟨⟨hz, hp, h301, h320, h321, hm, hok, hok2⟩, ⟨cn, t, nn, o, h⟩, hsv⟩ := id hR
  have h10 := h.c10
  have hI := h.I
  by_cases h0 : cn = 0
  · exact ⟨1, _, _, _, _, KhE.mk (hL_owner_1 l D K NL ad G x hst hp hz h320 cl (by rw [h.c, h0]; rfl)) ⟨by decide, by decide, by decide, by decide⟩, KdE.mk (eX6_owner l D K NL ad _ _ hm cl (by rw [show G (iM 0) = nI cn from h.T0, h0]; rfl)) ⟨by decide, by decide, by decide, by decide⟩, pk_us, (fun h9 => absurd h9 (by decide)), hR.err⟩
  · have hn0 : ¬ nI cn = 0 := nI_ne0 (by omega) (by omega)
    have hU : RS cn t nn o n 0 (tM (upd G (iT 0) 0)) G := by rw [tM_t (by decide)]; exact h
    refine ⟨0, _, _, _, _, KhE.mk (hL_owner l D K NL ad G x hst hp hz h320 hI cl (by rw [h.c]; exact hn0)) ⟨by decide, by decide, by decide, by decide⟩, KdE.mk (kX6_owner l D K NL ad _ _ hm cn (h.J (Q := G) (by omega)) cl (by rw [show G (iM 0) = nI cn from h.T0]; exact hn0)) ⟨by decide, by decide, by decide, by decide⟩, pk_us, fun _ => ?_, hR.err⟩
    rw [ring_eq hU (Or.inr ⟨rfl, rfl⟩)]
set_option maxHeartbeats 1000000 in
theorem st_count (hst : l.stackTraces = false) (hR : RelA n NL G) (hn : n < 512) (a : Int32) : StI l yL_count wsL_count yX6_count wsX6_count D K NL ad [.ref (ad 300), .int a, .ref (ad 320)] [.ref (ad 310), .int a] G x n := by
  obtain ⟨⟨hz, hp, h301, h320, h321, hm, hok, hok2⟩, ⟨cn, t, nn, o, h⟩, hsv⟩ := id hR
  have h10 := h.c10
  have hI := h.I
  by_cases h1 : rng a 0 4
  · have hU : RS cn t nn o n 0 (tM (upd G (iT 0) 0)) G := by rw [tM_t (by decide)]; exact h
    have hr : ¬ (a.toInt < 0 ∨ 4 < a.toInt) := by
      obtain ⟨q, hq, rfl⟩ := rng04 h1
      rw [nI_toInt (by omega)]
      omega
    refine ⟨0, _, _, _, _, KhE.mk (hL_count l D K NL ad G x hst hp hz h320 hI a hr) ⟨by decide, by decide, by decide, by decide⟩, KdE.mk (kX6_count l D K NL ad _ _ hm cn (h.J (Q := G) (by omega)) a h1) ⟨by decide, by decide, by decide, by decide⟩, pk_us, fun _ => ?_, hR.err⟩
    rw [cnt_eq hU]
  · have hr : a.toInt < 0 ∨ 4 < a.toInt := by
      by_cases h2 : a < 0
      · left
        have := Int32.lt_iff_toInt_lt.mp h2
        rwa [show (0 : Int32).toInt = 0 by decide] at this
      · right
        have : ¬ a ≤ 4 := fun h3 => h1 ⟨h2, h3⟩
        have := Int32.lt_iff_toInt_lt.mp (Int32.not_le.mp this)
        rwa [show (4 : Int32).toInt = 4 by decide] at this
    exact ⟨1, _, _, _, _, KhE.mk (hL_count_1 l D K NL ad G x hst hp hz h320 a hr) ⟨by decide, by decide, by decide, by decide⟩, KdE.mk (eX6_count l D K NL ad _ _ hm a h1) ⟨by decide, by decide, by decide, by decide⟩, pk_us, (fun h9 => absurd h9 (by decide)), hR.err⟩
set_option maxHeartbeats 1000000 in
theorem st_servers (hR : RelA n NL G) (hn : n < 512)  : StN l yX5_servers wsX5_servers yX6_servers wsX6_servers D K NL ad [.ref (ad 300)] [.ref (ad 310)] G x n := by
  obtain ⟨⟨hz, hp, h301, h320, h321, hm, hok, hok2⟩, ⟨cn, t, nn, o, h⟩, hsv⟩ := id hR
  have h10 := h.c10
  have hI := h.I
  refine ⟨nI cn, _, _, KdE.mk (by rw [← h.c]; exact kX5_servers l D K NL ad G x hp hz) ⟨by decide, by decide, by decide, by decide⟩, KdE.mk (by rw [← show upd G (iT 0) 0 (iM 0) = nI cn by rw [pk_un (by decide)]; exact h.T0]; exact kX6_servers l D K NL ad G x hm) ⟨by decide, by decide, by decide, by decide⟩, hR.err⟩
set_option maxHeartbeats 1000000 in
theorem st_setSeed (hR : RelA n NL G) (hn : n < 512) (a : Int32) : StN l yX5_setSeed wsX5_setSeed yX6_setSeed wsX6_setSeed D K NL ad [.ref (ad 300), .int a] [.ref (ad 310), .int a] G x n := by
  obtain ⟨⟨hz, hp, h301, h320, h321, hm, hok, hok2⟩, ⟨cn, t, nn, o, h⟩, hsv⟩ := id hR
  have h10 := h.c10
  have hI := h.I
  have hown : Hi G (upd G (iS 0 8) a) := Hi.rf.up (by decide)
  have e8 : upd (upd G (iS 0 8) a) (iT 0) 0 (iM 8) = G (iS 0 8) := by rw [pk_un (by decide), hown _ (by decide)]; exact h.T8
  refine ⟨G (iS 0 8), _, _, KdE.mk (kX5_setSeed l D K NL ad G x hp hz a) ⟨by decide, by decide, by decide, by decide⟩, KdE.mk (by rw [← e8]; exact kX6_setSeed l D K NL ad _ x hm a) ⟨by decide, by decide, by decide, by decide⟩, ?_⟩
  refine hR.go hown ((Lo.rf.ti (by decide)).up (by decide)) (cn := cn) (t := t) (nn := nn) (o := o) ?_
  rw [tM_up, tM_t (by decide), hown.tM]
  exact rs_seed h
set_option maxHeartbeats 1000000 in
theorem st_preview (hR : RelA n NL G) (hn : n < 512) (cl : Int32) : StN l yX5_preview wsX5_preview yX6_preview wsX6_preview D K NL ad [.ref (ad 300), .int cl] [.ref (ad 310), .int cl] G x n := by
  obtain ⟨⟨hz, hp, h301, h320, h321, hm, hok, hok2⟩, ⟨cn, t, nn, o, h⟩, hsv⟩ := id hR
  have h10 := h.c10
  have hI := h.I
  have hU : RS cn t nn o n 0 (tM (upd G (iT 0) 0)) G := by rw [tM_t (by decide)]; exact h
  refine ⟨rI (sS_for 0 cl G), _, _, KdE.mk (kX5_preview l D K NL ad G x hp hz hI cl) ⟨by decide, by decide, by decide, by decide⟩, KdE.mk (by rw [← for_eq (by omega) hU]; exact kX6_preview l D K NL ad G x hm cn (h.J (Q := G) (by omega)) cl) ⟨by decide, by decide, by decide, by decide⟩, ?_⟩
  refine hR.go (G1 := G) Hi.rf ((Lo.rf.ti (by decide)).tr (lay_lo h10)) (cn := cn) (t := t) (nn := nn) (o := o) ?_
  rw [lay_T h10]
  exact rs_n hU
set_option maxHeartbeats 1000000 in
theorem st_restore (hst : l.stackTraces = false) (hR : RelA n NL G) (hn : n < 512) (v : Int32) : StV l yL_restore wsL_restore yX6_restore wsX6_restore D K NL ad [.ref (ad 300), .int v] [.ref (ad 310), .int v] G x n := by
  obtain ⟨⟨hz, hp, h301, h320, h321, hm, hok, hok2⟩, ⟨cn, t, nn, o, h⟩, hsv⟩ := id hR
  have h10 := h.c10
  have hI := h.I
  by_cases h1 : rng v 0 1
  · obtain ⟨τ, hτ, rfl⟩ := nI_of2 (n := 1) (M := 1) (by decide) h1.1 h1.2
    rcases hsv τ (by omega) with ⟨z1, z2⟩ | ⟨z1, z2, cn2, t2, nn2, o2, h2⟩
    · exact ⟨2, _, _, _, KhE.mk (hL_restore_2 l D K NL ad G x hst hp hz h301 τ (by omega) (RelA.free z2)) ⟨by decide, by decide, by decide, by decide⟩, KdE.mk (eX6_restore_2 l D K NL ad _ _ hm τ (by omega) z1) ⟨by decide, by decide, by decide, by decide⟩, pk_us, hR.err⟩
    · have hcp := copy_ok (z := 0) h2 (by omega)
      have hown : Hi G (sS_copy 0 (τ + 1) G) := fun g hg => hcp.2 g (Or.inr (by omega))
      refine ⟨0, _, _, _, KhE.mk (hL_restore l D K NL ad G x hst hp hz h301 τ (by omega) z2 h2.I h2.hb h2.hl) ⟨by decide, by decide, by decide, by decide⟩, KdE.mk (kX6_restore l D K NL ad _ _ hm τ (by omega) (by rw [hown _ (by unfold iZ; omega)]; exact z1)) ⟨by decide, by decide, by decide, by decide⟩, ?_, ?_⟩
      · unfold mM_rest
        rw [cpyM_out (by unfold iT; omega), pk_us]
      · refine hR.go hown ?_ (cn := cn2) (t := t2) (nn := nn2) (o := o2) ?_
        · unfold mM_rest
          intro g hg
          rw [cpyM_out (by omega), pk_un (by unfold iT; omega)]
        · have h3 := h2.copy hcp
          refine (h3.congr (fun _ _ _ => rfl) (fun j hj => ?_) (Nat.le_succ n))
          show cpyM _ _ _ _ (iM j) = G (iL (3263 * τ + j))
          unfold cpyM iM
          rw [if_pos ⟨by omega, by omega⟩, pk_un (by unfold iT; omega), hown _ (by omega)]
          unfold iL
          rw [show 50000 + 3263 * τ + (41000 + j - 41000) = 50000 + (3263 * τ + j) by omega]
  · exact ⟨1, _, _, _, KhE.mk (hL_restore_1 l D K NL ad G x hst hp hz v h1) ⟨by decide, by decide, by decide, by decide⟩, KdE.mk (eX6_restore_1 l D K NL ad _ _ hm v h1) ⟨by decide, by decide, by decide, by decide⟩, pk_us, hR.err⟩
/-- save: in a slot that was used before, or the first time -/
def StS (l : Launch) (D : va_G) (K : Nat → ClassId) (NL : List Nat) (ad : Nat → Nat) (v : Int32) (G : fM) (x : fX) (n : Nat) : Prop :=
  (∃ k G1 G2, KhE l yL_save wsL_save D K NL ad [.ref (ad 300), .int v] G x (some (.int k)) G1 x ∧ KdE l yX6_save wsX6_save D K NL ad [.ref (ad 310), .int v] G1 x none G2 ∧ G2 (iT 0) = k ∧ RelA (n + 1) NL G2) ∨
  (∃ τ G1 G2, τ < 2 ∧ KS l yL_save wsL_save { frames := 6, cells := 30, slots := 3302, locals := 130 } D K NL ad [.ref (ad 300), .int v] G x τ (some (.int 0)) G1 x ∧ f_free NL τ ∧ (∀ a, KdE l yX6_save wsX6_save D K (NLx NL τ) (adx ad τ a) [.ref (adx ad τ a 310), .int v] G1 x none G2) ∧ G2 (iT 0) = 0 ∧ RelA (n + 1) (NLx NL τ) G2)
theorem save_T {τ : Nat} {Q : fM} (hτ : τ < 2) : (∀ g, g ≠ iT 0 → g ≠ iZ τ → (g < 50000 + 3263 * τ ∨ 50000 + 3263 * τ + 3263 ≤ g) → mM_save τ Q g = Q g) ∧ (∀ j, j < 3263 → mM_save τ Q (iL (3263 * τ + j)) = Q (iM j)) ∧ mM_save τ Q (iZ τ) = 1 ∧ mM_save τ Q (iT 0) = 0 := by
  unfold mM_save
  refine ⟨fun g h1 h2 h3 => ?_, fun j hj => ?_, pk_us, ?_⟩
  · rw [pk_un h2, cpyM_out (by omega), pk_un h1]
  · rw [pk_un (by unfold iL iZ; omega)]
    unfold cpyM iL
    rw [if_pos ⟨by omega, by omega⟩, show 41000 + (50000 + (3263 * τ + j) - (50000 + 3263 * τ)) = iM j by unfold iM; omega, pk_un (by unfold iM iT; omega)]
  · rw [pk_un (by unfold iT iZ; omega), cpyM_out (by unfold iT; omega), pk_us]
/-- the relation behind a save; M: the memory with the copy -/
theorem RelA.save {τ : Nat} {M : fM} {NL' : List Nat} {cn t nn o : Nat} (hR : RelA n NL G) (hτ : τ < 2) (h : RS cn t nn o n 0 (tM G) G) (hcp : Cpd (needS cn nn o) (τ + 1) 0 G M) (hfr : ∀ g, (g < 10000 * (τ + 1) ∨ 10000 * (τ + 2) ≤ g) → M g = G g) (hN : f_ES NL' 0 ∧ 300 ∈ NL' ∧ 301 ∈ NL' ∧ 320 ∈ NL' ∧ 321 ∈ NL' ∧ f_EM NL' ∧ f_OK NL' ∧ (∀ k, k ∈ NL' → k < 300 → k % 100 < 30)) (hE : f_ES NL' (τ + 1)) (ho : ∀ σ, σ < 2 → σ ≠ τ → (f_free NL σ → f_free NL' σ) ∧ (f_ES NL (σ + 1) → f_ES NL' (σ + 1))) : RelA (n + 1) NL' (mM_save τ M) := by
  obtain ⟨s1, s2, s3, s4⟩ := save_T (Q := M) hτ
  have g0 : ∀ g, g < 10000 → mM_save τ M g = G g := fun g hg => by rw [s1 g (by unfold iT; omega) (by unfold iZ; omega) (by omega)]; exact hfr g (by omega)
  have gM : ∀ j, j < 3263 → mM_save τ M (iM j) = G (iM j) := fun j hj => by rw [s1 _ (by unfold iM iT; omega) (by unfold iM iZ; omega) (by unfold iM; omega)]; exact hfr _ (by unfold iM; omega)
  refine ⟨hN, ⟨cn, t, nn, o, h.congr (fun g _ hg => g0 g (by omega)) (fun j hj => gM j hj) (Nat.le_succ n)⟩, fun σ hσ => ?_⟩
  by_cases hστ : σ = τ
  · subst hστ
    refine Or.inr ⟨by rw [s3]; decide, hE, cn, t, nn, o, ?_⟩
    have h3 := h.copy hcp
    refine h3.congr (fun g h1 h2 => s1 g (by unfold iT; omega) (by unfold iZ; omega) (by omega)) (fun j hj => ?_) (Nat.le_succ n)
    rw [s2 j hj]
    exact hfr _ (by unfold iM; omega)
  · have ez : mM_save τ M (iZ σ) = G (iZ σ) := by
      rw [s1 _ (by unfold iZ iT; omega) (by unfold iZ; omega) (by unfold iZ; omega)]
      exact hfr _ (by unfold iZ; omega)
    rw [ez]
    rcases hR.2.2 σ hσ with ⟨z1, z2⟩ | ⟨z1, z2, cn2, t2, nn2, o2, h2⟩
    · exact Or.inl ⟨z1, (ho σ hσ hστ).1 z2⟩
    · refine Or.inr ⟨z1, (ho σ hσ hστ).2 z2, cn2, t2, nn2, o2, h2.congr (fun g h1 h3 => ?_) (fun j hj => ?_) (Nat.le_succ n)⟩
      · rw [s1 g (by unfold iT; omega) (by unfold iZ; omega) (by omega)]
        exact hfr g (by omega)
      · rw [s1 _ (by unfold iL iT; omega) (by unfold iL iZ; omega) (by unfold iL; omega)]
        exact hfr _ (by unfold iL; omega)
set_option maxHeartbeats 1000000 in
theorem st_save (hst : l.stackTraces = false) (hR : RelA n NL G) (hn : n < 512) (v : Int32) : StS l D K NL ad v G x n := by
  obtain ⟨⟨hz, hp, h301, h320, h321, hm, hok, hok2⟩, ⟨cn, t, nn, o, h⟩, hsv⟩ := id hR
  have h10 := h.c10
  have hI := h.I
  by_cases h1 : rng v 0 1
  · obtain ⟨τ, hτ, rfl⟩ := nI_of2 (n := 1) (M := 1) (by decide) h1.1 h1.2
    rcases hsv τ (by omega) with ⟨z1, z2⟩ | ⟨z1, z2, cn2, t2, nn2, o2, h2⟩
    · -- the first time
      have hGx : ∀ g, g < 10000 → Gx G τ g = G g := fun g hg => Gx_out (by omega)
      have hx : RS cn t nn o n 0 (tM (Gx G τ)) (Gx G τ) := h.congr (fun g _ hg => hGx g (by omega)) (fun j hj => Gx_out (by unfold iM; omega)) (Nat.le_refl _)
      have hcp := copy_ok (z := τ + 1) hx (by omega)
      have hm2 : f_EM (NLx NL τ) := ⟨List.mem_append_left _ hm.1, List.mem_append_left _ hm.2.1, List.mem_append_left _ hm.2.2.1, List.mem_append_left _ hm.2.2.2.1, List.mem_append_left _ hm.2.2.2.2⟩
      refine Or.inr ⟨τ, _, _, by omega, sL_save l D K NL ad G x hp hz h301 τ (by omega) (RelA.free z2) z2 hok2 hI h.hb h.hl, z2, fun a => KdE.mk (kX6_save l D K (NLx NL τ) (adx ad τ a) _ x hm2 τ (by omega)) ⟨by decide, by decide, by decide, by decide⟩, (save_T (by omega)).2.2.2, ?_⟩
      refine hR.save (by omega) h (M := sS_copy (τ + 1) 0 (Gx G τ)) ⟨fun c hc hS => ?_, fun g hg => ?_⟩ (fun g hg => ?_) ⟨NLx_old hz, List.mem_append_left _ hp, List.mem_append_left _ h301, List.mem_append_left _ h320, List.mem_append_left _ h321, hm2, fun k hk => ?_, fun k hk hk3 => ?_⟩ (NLx_ES (by omega)) (fun σ hσ hne => ⟨fun hf k hk => ?_, fun hE => NLx_old hE⟩)
      · rw [hcp.1 c hc hS]
        exact hGx _ (by omega)
      · rw [hcp.2 g hg]
        exact Gx_out (by omega)
      · rw [hcp.2 g (by omega)]
        exact Gx_out (by omega)
      · unfold NLx at hk
        rcases List.mem_append.mp hk with hk | hk
        · exact hok k hk
        · obtain ⟨j, hj, rfl⟩ := List.mem_map.mp hk
          have := X4o_lt j hj
          omega
      · unfold NLx at hk
        rcases List.mem_append.mp hk with hk | hk
        · exact hok2 k hk hk3
        · obtain ⟨j, hj, rfl⟩ := List.mem_map.mp hk
          have := X4o_lt j hj
          omega
      · unfold NLx at hk
        rcases List.mem_append.mp hk with hk | hk
        · exact hf k hk
        · obtain ⟨j, hj, rfl⟩ := List.mem_map.mp hk
          have := X4o_lt j hj
          omega
    · have hcp := copy_ok (z := τ + 1) h (by omega)
      refine Or.inl ⟨0, _, _, KhE.mk (hL_save l D K NL ad G x hst hp hz h301 τ (by omega) z2 hI h.hb h.hl) ⟨by decide, by decide, by decide, by decide⟩, KdE.mk (kX6_save l D K NL ad _ _ hm τ (by omega)) ⟨by decide, by decide, by decide, by decide⟩, (save_T (by omega)).2.2.2, ?_⟩
      exact hR.save (by omega) h hcp (fun g hg => hcp.2 g (by omega)) hR.1 z2 (fun σ _ _ => ⟨fun h => h, fun h => h⟩)
  · exact Or.inl ⟨1, _, _, KhE.mk (hL_save_1 l D K NL ad G x hst hp hz v h1) ⟨by decide, by decide, by decide, by decide⟩, KdE.mk (eX6_save l D K NL ad _ _ hm v h1) ⟨by decide, by decide, by decide, by decide⟩, pk_us, hR.err⟩
end Steps
end STEPS
