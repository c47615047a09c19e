/-! the law's helpers -/
set_option maxHeartbeats 4000000 in
set_option maxRecDepth 100000 in
theorem hL_addServer (l : Launch) (D : va_G) (K : Nat → ClassId) (NL : List Nat) (ad : Nat → Nat) (G : fM) (x : fX) (hst : l.stackTraces = false) (hp : 300 ∈ NL) (hz : f_ES NL 0) (ho : 320 ∈ NL) (cn : Nat) (hc : G (iS 0 0) = nI cn) (hc10 : cn < 10) (wt cp : Int32) (h1 : rng wt 1 10) (h2 : rng cp 1 20) : Kh l yL_addServer wsL_addServer { frames := 9, cells := 1, slots := 6, locals := 200 } vwCl D K NL ad [.ref (ad 300), .int wt, .int cp, .ref (ad 320)] G x (some (.int 0)) (upd (sV_begin 0 cn wt cp G) (iS 0 0) (nI (cn + 1))) (((nI cn : Int32).toInt64), x.2) := by
  refine Kh.of (cc := cL_addServer) (maxL := 5) (ret := (some .int)) (hh := [(0, 10, 13, 13), (0, 10, 17, 15)]) (L := [some (.ref (ad 300)), some (.int wt), some (.int cp), some (.ref (ad 320)), none]) hst (by decide +kernel) rfl rfl (Nat.le_of_ble_eq_true rfl) ?_
  intro p e s m args below meth c hC hX htab hr hk
  have hN := hX.2.1
  refine fk_aload_n hC dL_addServer_0 rfl rfl ?_
  refine fk_iconst (v := 0) hC dL_addServer_1 (by decide) ?_
  refine fk_aload_n hC dL_addServer_2 rfl rfl ?_
  refine fk_iload_n hC dL_addServer_3 rfl rfl ?_
  refine fk_iload_n hC dL_addServer_4 rfl rfl ?_
  refine fk_callV hC hN (kX5_addServer l D K NL ad _ x hp hz cn hc hc10 _ _ h1 h2) hp (f_E300 _ _ _ _ _) rfl (cwV 2 hC.1.2.2.2.2 gL_addServer_X5_addServer rfl rfl rfl (by decide +kernel) ⟨Nat.le_of_ble_eq_true rfl, Nat.le_of_ble_eq_true rfl⟩) rfl rfl (Nat.le_of_ble_eq_true rfl) dL_addServer_5 ⟨Nat.le_of_ble_eq_true rfl, Nat.le_of_ble_eq_true rfl⟩ ?_
  refine fk_i2l hC dL_addServer_8 rfl ?_
  refine fk_last hC ho dL_addServer_9 ?_
  refine fk_goto (tgt := 21) hC dL_addServer_10 (by decide) ?_
  refine fk_iconst (v := 0) hC dL_addServer_21 (by decide) ?_
  refine fk_widen (k := 1) (n := 6) (Nat.zero_le _) (Nat.zero_le _) ?_
  exact fk_iret hC hr hk dL_addServer_22 rfl rfl rfl
set_option maxHeartbeats 4000000 in
set_option maxRecDepth 100000 in
theorem hL_addServer_1 (l : Launch) (D : va_G) (K : Nat → ClassId) (NL : List Nat) (ad : Nat → Nat) (G : fM) (x : fX) (hst : l.stackTraces = false) (hp : 300 ∈ NL) (hz : f_ES NL 0) (ho : 320 ∈ NL) (wt cp : Int32) (h : ¬ rng wt 1 10) : Kh l yL_addServer wsL_addServer { frames := 9, cells := 1, slots := 6, locals := 200 } vwCl D K NL ad [.ref (ad 300), .int wt, .int cp, .ref (ad 320)] G x (some (.int 1)) G x := by
  refine Kh.of (cc := cL_addServer) (maxL := 5) (ret := (some .int)) (hh := [(0, 10, 13, 13), (0, 10, 17, 15)]) (L := [some (.ref (ad 300)), some (.int wt), some (.int cp), some (.ref (ad 320)), none]) hst (by decide +kernel) rfl rfl (Nat.le_of_ble_eq_true rfl) ?_
  intro p e s m args below meth c hC hX htab hr hk
  have hN := hX.2.1
  refine fk_aload_n hC dL_addServer_0 rfl rfl ?_
  refine fk_iconst (v := 0) hC dL_addServer_1 (by decide) ?_
  refine fk_aload_n hC dL_addServer_2 rfl rfl ?_
  refine fk_iload_n hC dL_addServer_3 rfl rfl ?_
  refine fk_iload_n hC dL_addServer_4 rfl rfl ?_
  refine fk_xcallV hC hX (tX5_addServer_1 l D K NL ad _ x hst hp hz _ _ h) hp (f_E300 _ _ _ _ _) rfl (cwV 2 hC.1.2.2.2.2 gL_addServer_X5_addServer rfl rfl rfl (by decide +kernel) ⟨Nat.le_of_ble_eq_true rfl, Nat.le_of_ble_eq_true rfl⟩) rfl rfl (Nat.le_of_ble_eq_true rfl) dL_addServer_5 ⟨Nat.le_of_ble_eq_true rfl, Nat.le_of_ble_eq_true rfl⟩ (fun H1 locs1 ls q ce a1 a2 a3 a4 a5 a6 => fk_xcatch (name := xIAE) hC [] ⟨0, 10, 13, 13⟩ [⟨0, 10, 17, 15⟩] (htab.trans rfl) (fun z hz9 => absurd hz9 List.not_mem_nil) (by decide) (by decide) (by decide +kernel) (va_Nw.use rfl hX.2.2.1.2.1.1) a1 a2 a3 a4 a5 a6 ?_)
  refine fk_astore hC dL_addServer_13 (by decide) rfl ?_
  refine fk_iconst (v := 1) hC dL_addServer_15 (by decide) ?_
  exact fk_iret hC hr hk dL_addServer_16 rfl rfl rfl
set_option maxHeartbeats 4000000 in
set_option maxRecDepth 100000 in
theorem hL_addServer_2 (l : Launch) (D : va_G) (K : Nat → ClassId) (NL : List Nat) (ad : Nat → Nat) (G : fM) (x : fX) (hst : l.stackTraces = false) (hp : 300 ∈ NL) (hz : f_ES NL 0) (ho : 320 ∈ NL) (wt cp : Int32) (h1 : rng wt 1 10) (h : ¬ rng cp 1 20) : Kh l yL_addServer wsL_addServer { frames := 9, cells := 1, slots := 6, locals := 200 } vwCl D K NL ad [.ref (ad 300), .int wt, .int cp, .ref (ad 320)] G x (some (.int 1)) G x := by
  refine Kh.of (cc := cL_addServer) (maxL := 5) (ret := (some .int)) (hh := [(0, 10, 13, 13), (0, 10, 17, 15)]) (L := [some (.ref (ad 300)), some (.int wt), some (.int cp), some (.ref (ad 320)), none]) hst (by decide +kernel) rfl rfl (Nat.le_of_ble_eq_true rfl) ?_
  intro p e s m args below meth c hC hX htab hr hk
  have hN := hX.2.1
  refine fk_aload_n hC dL_addServer_0 rfl rfl ?_
  refine fk_iconst (v := 0) hC dL_addServer_1 (by decide) ?_
  refine fk_aload_n hC dL_addServer_2 rfl rfl ?_
  refine fk_iload_n hC dL_addServer_3 rfl rfl ?_
  refine fk_iload_n hC dL_addServer_4 rfl rfl ?_
  refine fk_xcallV hC hX (tX5_addServer_2 l D K NL ad _ x hst hp hz _ _ h1 h) hp (f_E300 _ _ _ _ _) rfl (cwV 2 hC.1.2.2.2.2 gL_addServer_X5_addServer rfl rfl rfl (by decide +kernel) ⟨Nat.le_of_ble_eq_true rfl, Nat.le_of_ble_eq_true rfl⟩) rfl rfl (Nat.le_of_ble_eq_true rfl) dL_addServer_5 ⟨Nat.le_of_ble_eq_true rfl, Nat.le_of_ble_eq_true rfl⟩ (fun H1 locs1 ls q ce a1 a2 a3 a4 a5 a6 => fk_xcatch (name := xIAE) hC [] ⟨0, 10, 13, 13⟩ [⟨0, 10, 17, 15⟩] (htab.trans rfl) (fun z hz9 => absurd hz9 List.not_mem_nil) (by decide) (by decide) (by decide +kernel) (va_Nw.use rfl hX.2.2.1.2.1.1) a1 a2 a3 a4 a5 a6 ?_)
  refine fk_astore hC dL_addServer_13 (by decide) rfl ?_
  refine fk_iconst (v := 1) hC dL_addServer_15 (by decide) ?_
  exact fk_iret hC hr hk dL_addServer_16 rfl rfl rfl
set_option maxHeartbeats 4000000 in
set_option maxRecDepth 100000 in
theorem hL_addServer_3 (l : Launch) (D : va_G) (K : Nat → ClassId) (NL : List Nat) (ad : Nat → Nat) (G : fM) (x : fX) (hst : l.stackTraces = false) (hp : 300 ∈ NL) (hz : f_ES NL 0) (ho : 320 ∈ NL) (wt cp : Int32) (h1 : rng wt 1 10) (h2 : rng cp 1 20) (h : ¬ G (iS 0 0) < 10) : Kh l yL_addServer wsL_addServer { frames := 9, cells := 1, slots := 6, locals := 200 } vwCl D K NL ad [.ref (ad 300), .int wt, .int cp, .ref (ad 320)] G x (some (.int 2)) G x := by
  refine Kh.of (cc := cL_addServer) (maxL := 5) (ret := (some .int)) (hh := [(0, 10, 13, 13), (0, 10, 17, 15)]) (L := [some (.ref (ad 300)), some (.int wt), some (.int cp), some (.ref (ad 320)), none]) hst (by decide +kernel) rfl rfl (Nat.le_of_ble_eq_true rfl) ?_
  intro p e s m args below meth c hC hX htab hr hk
  have hN := hX.2.1
  refine fk_aload_n hC dL_addServer_0 rfl rfl ?_
  refine fk_iconst (v := 0) hC dL_addServer_1 (by decide) ?_
  refine fk_aload_n hC dL_addServer_2 rfl rfl ?_
  refine fk_iload_n hC dL_addServer_3 rfl rfl ?_
  refine fk_iload_n hC dL_addServer_4 rfl rfl ?_
  refine fk_xcallV hC hX (tX5_addServer_3 l D K NL ad _ x hst hp hz _ _ h1 h2 h) hp (f_E300 _ _ _ _ _) rfl (cwV 2 hC.1.2.2.2.2 gL_addServer_X5_addServer rfl rfl rfl (by decide +kernel) ⟨Nat.le_of_ble_eq_true rfl, Nat.le_of_ble_eq_true rfl⟩) rfl rfl (Nat.le_of_ble_eq_true rfl) dL_addServer_5 ⟨Nat.le_of_ble_eq_true rfl, Nat.le_of_ble_eq_true rfl⟩ (fun H1 locs1 ls q ce a1 a2 a3 a4 a5 a6 => fk_xcatch (name := xISE) hC [⟨0, 10, 13, 13⟩] ⟨0, 10, 17, 15⟩ [] (htab.trans rfl) (fun z hz9 => by cases List.mem_singleton.mp hz9; exact Or.inr ⟨by decide, xIAE, hC.ts (.classLink RL 13 xIAE) (by decide +kernel), hX.2.2.1.2.2.1.1⟩) (by decide) (by decide) (by decide +kernel) (va_Nw.use rfl hX.2.2.1.2.1.2.1) a1 a2 a3 a4 a5 a6 ?_)
  refine fk_astore hC dL_addServer_17 (by decide) rfl ?_
  refine fk_iconst (v := 2) hC dL_addServer_19 (by decide) ?_
  exact fk_iret hC hr hk dL_addServer_20 rfl rfl rfl
set_option maxHeartbeats 4000000 in
set_option maxRecDepth 100000 in
theorem hL_setWeight (l : Launch) (D : va_G) (K : Nat → ClassId) (NL : List Nat) (ad : Nat → Nat) (G : fM) (x : fX) (hst : l.stackTraces = false) (hp : 300 ∈ NL) (hz : f_ES NL 0) (ho : 320 ∈ NL) (hI : f_I 0 G) (i : Nat) (hi : i < cN 0 G) (wt : Int32) (h1 : rng wt 1 10) : Kh l yL_setWeight wsL_setWeight { frames := 9, cells := 1, slots := 6, locals := 200 } vwCl D K NL ad [.ref (ad 300), .int (nI i), .int wt, .ref (ad 320)] G x (some (.int 0)) (upd G (iV 0 i 0) wt) (((G (iV 0 i 0) : Int32).toInt64), x.2) := by
  refine Kh.of (cc := cL_setWeight) (maxL := 5) (ret := (some .int)) (hh := [(0, 10, 13, 20), (0, 10, 17, 13)]) (L := [some (.ref (ad 300)), some (.int (nI i)), some (.int wt), some (.ref (ad 320)), none]) hst (by decide +kernel) rfl rfl (Nat.le_of_ble_eq_true rfl) ?_
  intro p e s m args below meth c hC hX htab hr hk
  have hN := hX.2.1
  refine fk_aload_n hC dL_setWeight_0 rfl rfl ?_
  refine fk_iconst (v := 0) hC dL_setWeight_1 (by decide) ?_
  refine fk_aload_n hC dL_setWeight_2 rfl rfl ?_
  refine fk_iload_n hC dL_setWeight_3 rfl rfl ?_
  refine fk_iload_n hC dL_setWeight_4 rfl rfl ?_
  refine fk_callV hC hN (kX5_setWeight l D K NL ad _ x hp hz hI i hi _ h1) hp (f_E300 _ _ _ _ _) rfl (cwV 2 hC.1.2.2.2.2 gL_setWeight_X5_setWeight rfl rfl rfl (by decide +kernel) ⟨Nat.le_of_ble_eq_true rfl, Nat.le_of_ble_eq_true rfl⟩) rfl rfl (Nat.le_of_ble_eq_true rfl) dL_setWeight_5 ⟨Nat.le_of_ble_eq_true rfl, Nat.le_of_ble_eq_true rfl⟩ ?_
  refine fk_i2l hC dL_setWeight_8 rfl ?_
  refine fk_last hC ho dL_setWeight_9 ?_
  refine fk_goto (tgt := 21) hC dL_setWeight_10 (by decide) ?_
  refine fk_iconst (v := 0) hC dL_setWeight_21 (by decide) ?_
  refine fk_widen (k := 1) (n := 6) (Nat.zero_le _) (Nat.zero_le _) ?_
  exact fk_iret hC hr hk dL_setWeight_22 rfl rfl rfl
set_option maxHeartbeats 4000000 in
set_option maxRecDepth 100000 in
theorem hL_setWeight_1 (l : Launch) (D : va_G) (K : Nat → ClassId) (NL : List Nat) (ad : Nat → Nat) (G : fM) (x : fX) (hst : l.stackTraces = false) (hp : 300 ∈ NL) (hz : f_ES NL 0) (ho : 320 ∈ NL) (v wt : Int32) (h : v < 0 ∨ ¬ v < G (iS 0 0)) : Kh l yL_setWeight wsL_setWeight { frames := 9, cells := 1, slots := 6, locals := 200 } vwCl D K NL ad [.ref (ad 300), .int v, .int wt, .ref (ad 320)] G x (some (.int 1)) G x := by
  refine Kh.of (cc := cL_setWeight) (maxL := 5) (ret := (some .int)) (hh := [(0, 10, 13, 20), (0, 10, 17, 13)]) (L := [some (.ref (ad 300)), some (.int v), some (.int wt), some (.ref (ad 320)), none]) hst (by decide +kernel) rfl rfl (Nat.le_of_ble_eq_true rfl) ?_
  intro p e s m args below meth c hC hX htab hr hk
  have hN := hX.2.1
  refine fk_aload_n hC dL_setWeight_0 rfl rfl ?_
  refine fk_iconst (v := 0) hC dL_setWeight_1 (by decide) ?_
  refine fk_aload_n hC dL_setWeight_2 rfl rfl ?_
  refine fk_iload_n hC dL_setWeight_3 rfl rfl ?_
  refine fk_iload_n hC dL_setWeight_4 rfl rfl ?_
  refine fk_xcallV hC hX (tX5_setWeight_1 l D K NL ad _ x hst hp hz _ _ h) hp (f_E300 _ _ _ _ _) rfl (cwV 2 hC.1.2.2.2.2 gL_setWeight_X5_setWeight rfl rfl rfl (by decide +kernel) ⟨Nat.le_of_ble_eq_true rfl, Nat.le_of_ble_eq_true rfl⟩) rfl rfl (Nat.le_of_ble_eq_true rfl) dL_setWeight_5 ⟨Nat.le_of_ble_eq_true rfl, Nat.le_of_ble_eq_true rfl⟩ (fun H1 locs1 ls q ce a1 a2 a3 a4 a5 a6 => fk_xcatch (name := xIOB) hC [] ⟨0, 10, 13, 20⟩ [⟨0, 10, 17, 13⟩] (htab.trans rfl) (fun z hz9 => absurd hz9 List.not_mem_nil) (by decide) (by decide) (by decide +kernel) (va_Nw.use rfl hX.2.2.1.2.1.2.2) a1 a2 a3 a4 a5 a6 ?_)
  refine fk_astore hC dL_setWeight_13 (by decide) rfl ?_
  refine fk_iconst (v := 1) hC dL_setWeight_15 (by decide) ?_
  exact fk_iret hC hr hk dL_setWeight_16 rfl rfl rfl
set_option maxHeartbeats 4000000 in
set_option maxRecDepth 100000 in
theorem hL_setWeight_2 (l : Launch) (D : va_G) (K : Nat → ClassId) (NL : List Nat) (ad : Nat → Nat) (G : fM) (x : fX) (hst : l.stackTraces = false) (hp : 300 ∈ NL) (hz : f_ES NL 0) (ho : 320 ∈ NL) (hI : f_I 0 G) (i : Nat) (hi : i < cN 0 G) (wt : Int32) (h : ¬ rng wt 1 10) : Kh l yL_setWeight wsL_setWeight { frames := 9, cells := 1, slots := 6, locals := 200 } vwCl D K NL ad [.ref (ad 300), .int (nI i), .int wt, .ref (ad 320)] G x (some (.int 2)) G x := by
  refine Kh.of (cc := cL_setWeight) (maxL := 5) (ret := (some .int)) (hh := [(0, 10, 13, 20), (0, 10, 17, 13)]) (L := [some (.ref (ad 300)), some (.int (nI i)), some (.int wt), some (.ref (ad 320)), none]) hst (by decide +kernel) rfl rfl (Nat.le_of_ble_eq_true rfl) ?_
  intro p e s m args below meth c hC hX htab hr hk
  have hN := hX.2.1
  refine fk_aload_n hC dL_setWeight_0 rfl rfl ?_
  refine fk_iconst (v := 0) hC dL_setWeight_1 (by decide) ?_
  refine fk_aload_n hC dL_setWeight_2 rfl rfl ?_
  refine fk_iload_n hC dL_setWeight_3 rfl rfl ?_
  refine fk_iload_n hC dL_setWeight_4 rfl rfl ?_
  refine fk_xcallV hC hX (tX5_setWeight_2 l D K NL ad _ x hst hp hz hI i hi _ h) hp (f_E300 _ _ _ _ _) rfl (cwV 2 hC.1.2.2.2.2 gL_setWeight_X5_setWeight rfl rfl rfl (by decide +kernel) ⟨Nat.le_of_ble_eq_true rfl, Nat.le_of_ble_eq_true rfl⟩) rfl rfl (Nat.le_of_ble_eq_true rfl) dL_setWeight_5 ⟨Nat.le_of_ble_eq_true rfl, Nat.le_of_ble_eq_true rfl⟩ (fun H1 locs1 ls q ce a1 a2 a3 a4 a5 a6 => fk_xcatch (name := xIAE) hC [⟨0, 10, 13, 20⟩] ⟨0, 10, 17, 13⟩ [] (htab.trans rfl) (fun z hz9 => by cases List.mem_singleton.mp hz9; exact Or.inr ⟨by decide, xIOB, hC.ts (.classLink RL 20 xIOB) (by decide +kernel), hX.2.2.1.2.2.1.2.1⟩) (by decide) (by decide) (by decide +kernel) (va_Nw.use rfl hX.2.2.1.2.1.1) a1 a2 a3 a4 a5 a6 ?_)
  refine fk_astore hC dL_setWeight_17 (by decide) rfl ?_
  refine fk_iconst (v := 2) hC dL_setWeight_19 (by decide) ?_
  exact fk_iret hC hr hk dL_setWeight_20 rfl rfl rfl
set_option maxHeartbeats 4000000 in
set_option maxRecDepth 100000 in
theorem hL_setDraining (l : Launch) (D : va_G) (K : Nat → ClassId) (NL : List Nat) (ad : Nat → Nat) (G : fM) (x : fX) (hst : l.stackTraces = false) (hp : 300 ∈ NL) (hz : f_ES NL 0) (ho : 320 ∈ NL) (hI : f_I 0 G) (i : Nat) (hi : i < cN 0 G) (pd : Int32) (hpd : pd = 0 ∨ pd = 1) (hb : G (iV 0 i 5) = 0 ∨ G (iV 0 i 5) = 1) : Kh l yL_setDraining wsL_setDraining { frames := 9, cells := 1, slots := 6, locals := 200 } vwCl D K NL ad [.ref (ad 300), .int (nI i), .int pd, .ref (ad 320)] G x (some (.int 0)) (upd G (iV 0 i 5) pd) ((if G (iV 0 i 5) = 0 then (0 : Int64) else 1), x.2) := by
  refine Kh.of (cc := cL_setDraining) (maxL := 5) (ret := (some .int)) (hh := [(0, 17, 20, 20)]) (L := [some (.ref (ad 300)), some (.int (nI i)), some (.int pd), some (.ref (ad 320)), none]) hst (by decide +kernel) rfl rfl (Nat.le_of_ble_eq_true rfl) ?_
  intro p e s m args below meth c hC hX htab hr hk
  have hN := hX.2.1
  refine fk_aload_n hC dL_setDraining_0 rfl rfl ?_
  refine fk_iconst (v := 0) hC dL_setDraining_1 (by decide) ?_
  refine fk_aload_n hC dL_setDraining_2 rfl rfl ?_
  refine fk_iload_n hC dL_setDraining_3 rfl rfl ?_
  refine fk_iload_n hC dL_setDraining_4 rfl rfl ?_
  refine fk_callV hC hN (kX5_setDraining l D K NL ad _ x hp hz hI i hi _ hpd hb) hp (f_E300 _ _ _ _ _) rfl (cwV 2 hC.1.2.2.2.2 gL_setDraining_X5_setDraining rfl rfl rfl (by decide +kernel) ⟨Nat.le_of_ble_eq_true rfl, Nat.le_of_ble_eq_true rfl⟩) rfl rfl (Nat.le_of_ble_eq_true rfl) dL_setDraining_5 ⟨Nat.le_of_ble_eq_true rfl, Nat.le_of_ble_eq_true rfl⟩ ?_
  refine fk_if_eq (tgt := 15) hC dL_setDraining_8 (by decide) (fun c9 => ?_) (fun c9 => ?_)
  · refine fk_lconst (v := 0) hC dL_setDraining_15 (by decide) ?_
    refine fk_last hC ho dL_setDraining_16 ?_
    refine fk_goto (tgt := 24) hC dL_setDraining_17 (by decide) ?_
    refine fk_iconst (v := 0) hC dL_setDraining_24 (by decide) ?_
    refine fk_widen (k := 1) (n := 6) (Nat.zero_le _) (Nat.zero_le _) ?_
    exact fk_iret hC hr hk dL_setDraining_25 rfl rfl (by rw [if_pos c9])
  · refine fk_lconst (v := 1) hC dL_setDraining_11 (by decide) ?_
    refine fk_goto (tgt := 16) hC dL_setDraining_12 (by decide) ?_
    refine fk_last hC ho dL_setDraining_16 ?_
    refine fk_goto (tgt := 24) hC dL_setDraining_17 (by decide) ?_
    refine fk_iconst (v := 0) hC dL_setDraining_24 (by decide) ?_
    refine fk_widen (k := 1) (n := 6) (Nat.zero_le _) (Nat.zero_le _) ?_
    exact fk_iret hC hr hk dL_setDraining_25 rfl rfl (by rw [if_neg c9])
set_option maxHeartbeats 4000000 in
set_option maxRecDepth 100000 in
theorem hL_setDraining_1 (l : Launch) (D : va_G) (K : Nat → ClassId) (NL : List Nat) (ad : Nat → Nat) (G : fM) (x : fX) (hst : l.stackTraces = false) (hp : 300 ∈ NL) (hz : f_ES NL 0) (ho : 320 ∈ NL) (v pd : Int32) (h : v < 0 ∨ ¬ v < G (iS 0 0)) : Kh l yL_setDraining wsL_setDraining { frames := 9, cells := 1, slots := 6, locals := 200 } vwCl D K NL ad [.ref (ad 300), .int v, .int pd, .ref (ad 320)] G x (some (.int 1)) G x := by
  refine Kh.of (cc := cL_setDraining) (maxL := 5) (ret := (some .int)) (hh := [(0, 17, 20, 20)]) (L := [some (.ref (ad 300)), some (.int v), some (.int pd), some (.ref (ad 320)), none]) hst (by decide +kernel) rfl rfl (Nat.le_of_ble_eq_true rfl) ?_
  intro p e s m args below meth c hC hX htab hr hk
  have hN := hX.2.1
  refine fk_aload_n hC dL_setDraining_0 rfl rfl ?_
  refine fk_iconst (v := 0) hC dL_setDraining_1 (by decide) ?_
  refine fk_aload_n hC dL_setDraining_2 rfl rfl ?_
  refine fk_iload_n hC dL_setDraining_3 rfl rfl ?_
  refine fk_iload_n hC dL_setDraining_4 rfl rfl ?_
  refine fk_xcallV hC hX (tX5_setDraining l D K NL ad _ x hst hp hz _ _ h) hp (f_E300 _ _ _ _ _) rfl (cwV 2 hC.1.2.2.2.2 gL_setDraining_X5_setDraining rfl rfl rfl (by decide +kernel) ⟨Nat.le_of_ble_eq_true rfl, Nat.le_of_ble_eq_true rfl⟩) rfl rfl (Nat.le_of_ble_eq_true rfl) dL_setDraining_5 ⟨Nat.le_of_ble_eq_true rfl, Nat.le_of_ble_eq_true rfl⟩ (fun H1 locs1 ls q ce a1 a2 a3 a4 a5 a6 => fk_xcatch (name := xIOB) hC [] ⟨0, 17, 20, 20⟩ [] (htab.trans rfl) (fun z hz9 => absurd hz9 List.not_mem_nil) (by decide) (by decide) (by decide +kernel) (va_Nw.use rfl hX.2.2.1.2.1.2.2) a1 a2 a3 a4 a5 a6 ?_)
  refine fk_astore hC dL_setDraining_20 (by decide) rfl ?_
  refine fk_iconst (v := 1) hC dL_setDraining_22 (by decide) ?_
  exact fk_iret hC hr hk dL_setDraining_23 rfl rfl rfl
set_option maxHeartbeats 4000000 in
set_option maxRecDepth 100000 in
theorem hL_report (l : Launch) (D : va_G) (K : Nat → ClassId) (NL : List Nat) (ad : Nat → Nat) (G : fM) (x : fX) (hst : l.stackTraces = false) (hp : 300 ∈ NL) (hz : f_ES NL 0) (ho : 320 ∈ NL) (hI : f_I 0 G) (i : Nat) (hi : i < cN 0 G) (pd : Int32) (hb : G (iV 0 i 4) = 0 ∨ G (iV 0 i 4) = 1) : Kh l yL_report wsL_report { frames := 9, cells := 1, slots := 6, locals := 200 } vwCl D K NL ad [.ref (ad 300), .int (nI i), .int pd, .ref (ad 320)] G x (some (.int 0)) (sP_rep i pd G) ((if sP_rep i pd G (iV 0 i 4) = 0 then (0 : Int64) else 1), x.2) := by
  refine Kh.of (cc := cL_report) (maxL := 5) (ret := (some .int)) (hh := [(0, 17, 20, 20)]) (L := [some (.ref (ad 300)), some (.int (nI i)), some (.int pd), some (.ref (ad 320)), none]) hst (by decide +kernel) rfl rfl (Nat.le_of_ble_eq_true rfl) ?_
  intro p e s m args below meth c hC hX htab hr hk
  have hN := hX.2.1
  refine fk_aload_n hC dL_report_0 rfl rfl ?_
  refine fk_iconst (v := 0) hC dL_report_1 (by decide) ?_
  refine fk_aload_n hC dL_report_2 rfl rfl ?_
  refine fk_iload_n hC dL_report_3 rfl rfl ?_
  refine fk_iload_n hC dL_report_4 rfl rfl ?_
  refine fk_callV hC hN (kX5_report l D K NL ad _ x hp hz hI i hi _ hb) hp (f_E300 _ _ _ _ _) rfl (cwV 2 hC.1.2.2.2.2 gL_report_X5_report rfl rfl rfl (by decide +kernel) ⟨Nat.le_of_ble_eq_true rfl, Nat.le_of_ble_eq_true rfl⟩) rfl rfl (Nat.le_of_ble_eq_true rfl) dL_report_5 ⟨Nat.le_of_ble_eq_true rfl, Nat.le_of_ble_eq_true rfl⟩ ?_
  refine fk_if_eq (tgt := 15) hC dL_report_8 (by decide) (fun c9 => ?_) (fun c9 => ?_)
  · refine fk_lconst (v := 0) hC dL_report_15 (by decide) ?_
    refine fk_last hC ho dL_report_16 ?_
    refine fk_goto (tgt := 24) hC dL_report_17 (by decide) ?_
    refine fk_iconst (v := 0) hC dL_report_24 (by decide) ?_
    refine fk_widen (k := 1) (n := 6) (Nat.zero_le _) (Nat.zero_le _) ?_
    exact fk_iret hC hr hk dL_report_25 rfl rfl (by rw [if_pos c9])
  · refine fk_lconst (v := 1) hC dL_report_11 (by decide) ?_
    refine fk_goto (tgt := 16) hC dL_report_12 (by decide) ?_
    refine fk_last hC ho dL_report_16 ?_
    refine fk_goto (tgt := 24) hC dL_report_17 (by decide) ?_
    refine fk_iconst (v := 0) hC dL_report_24 (by decide) ?_
    refine fk_widen (k := 1) (n := 6) (Nat.zero_le _) (Nat.zero_le _) ?_
    exact fk_iret hC hr hk dL_report_25 rfl rfl (by rw [if_neg c9])
set_option maxHeartbeats 4000000 in
set_option maxRecDepth 100000 in
theorem hL_report_1 (l : Launch) (D : va_G) (K : Nat → ClassId) (NL : List Nat) (ad : Nat → Nat) (G : fM) (x : fX) (hst : l.stackTraces = false) (hp : 300 ∈ NL) (hz : f_ES NL 0) (ho : 320 ∈ NL) (v pd : Int32) (h : v < 0 ∨ ¬ v < G (iS 0 0)) : Kh l yL_report wsL_report { frames := 9, cells := 1, slots := 6, locals := 200 } vwCl D K NL ad [.ref (ad 300), .int v, .int pd, .ref (ad 320)] G x (some (.int 1)) G x := by
  refine Kh.of (cc := cL_report) (maxL := 5) (ret := (some .int)) (hh := [(0, 17, 20, 20)]) (L := [some (.ref (ad 300)), some (.int v), some (.int pd), some (.ref (ad 320)), none]) hst (by decide +kernel) rfl rfl (Nat.le_of_ble_eq_true rfl) ?_
  intro p e s m args below meth c hC hX htab hr hk
  have hN := hX.2.1
  refine fk_aload_n hC dL_report_0 rfl rfl ?_
  refine fk_iconst (v := 0) hC dL_report_1 (by decide) ?_
  refine fk_aload_n hC dL_report_2 rfl rfl ?_
  refine fk_iload_n hC dL_report_3 rfl rfl ?_
  refine fk_iload_n hC dL_report_4 rfl rfl ?_
  refine fk_xcallV hC hX (tX5_report l D K NL ad _ x hst hp hz _ _ h) hp (f_E300 _ _ _ _ _) rfl (cwV 2 hC.1.2.2.2.2 gL_report_X5_report rfl rfl rfl (by decide +kernel) ⟨Nat.le_of_ble_eq_true rfl, Nat.le_of_ble_eq_true rfl⟩) rfl rfl (Nat.le_of_ble_eq_true rfl) dL_report_5 ⟨Nat.le_of_ble_eq_true rfl, Nat.le_of_ble_eq_true rfl⟩ (fun H1 locs1 ls q ce a1 a2 a3 a4 a5 a6 => fk_xcatch (name := xIOB) hC [] ⟨0, 17, 20, 20⟩ [] (htab.trans rfl) (fun z hz9 => absurd hz9 List.not_mem_nil) (by decide) (by decide) (by decide +kernel) (va_Nw.use rfl hX.2.2.1.2.1.2.2) a1 a2 a3 a4 a5 a6 ?_)
  refine fk_astore hC dL_report_20 (by decide) rfl ?_
  refine fk_iconst (v := 1) hC dL_report_22 (by decide) ?_
  exact fk_iret hC hr hk dL_report_23 rfl rfl rfl
set_option maxHeartbeats 4000000 in
set_option maxRecDepth 100000 in
theorem hL_setThresholds (l : Launch) (D : va_G) (K : Nat → ClassId) (NL : List Nat) (ad : Nat → Nat) (G : fM) (x : fX) (hst : l.stackTraces = false) (hp : 300 ∈ NL) (hz : f_ES NL 0) (a b : Int32) (h1 : rng a 1 9) (h2 : rng b 1 9) : Kh l yL_setThresholds wsL_setThresholds { frames := 9, cells := 1, slots := 6, locals := 200 } vwCl D K NL ad [.ref (ad 300), .int a, .int b] G x (some (.int 0)) (upd (upd G (iS 0 1) a) (iS 0 2) b) x := by
  refine Kh.of (cc := cL_setThresholds) (maxL := 4) (ret := (some .int)) (hh := [(0, 6, 9, 13)]) (L := [some (.ref (ad 300)), some (.int a), some (.int b), none]) hst (by decide +kernel) rfl rfl (Nat.le_of_ble_eq_true rfl) ?_
  intro p e s m args below meth c hC hX htab hr hk
  have hN := hX.2.1
  refine fk_aload_n hC dL_setThresholds_0 rfl rfl ?_
  refine fk_iload_n hC dL_setThresholds_1 rfl rfl ?_
  refine fk_iload_n hC dL_setThresholds_2 rfl rfl ?_
  refine fk_callV hC hN (kX5_setThresholds l D K NL ad _ x hp hz _ _ h1 h2) hp (f_E300 _ _ _ _ _) rfl (cwV 2 hC.1.2.2.2.2 gL_setThresholds_X5_setThresholds rfl rfl rfl (by decide +kernel) ⟨Nat.le_of_ble_eq_true rfl, Nat.le_of_ble_eq_true rfl⟩) rfl rfl (Nat.le_of_ble_eq_true rfl) dL_setThresholds_3 ⟨Nat.le_of_ble_eq_true rfl, Nat.le_of_ble_eq_true rfl⟩ ?_
  refine fk_goto (tgt := 12) hC dL_setThresholds_6 (by decide) ?_
  refine fk_iconst (v := 0) hC dL_setThresholds_12 (by decide) ?_
  refine fk_widen (k := 1) (n := 6) (Nat.zero_le _) (Nat.zero_le _) ?_
  exact fk_iret hC hr hk dL_setThresholds_13 rfl rfl rfl
set_option maxHeartbeats 4000000 in
set_option maxRecDepth 100000 in
theorem hL_setThresholds_1 (l : Launch) (D : va_G) (K : Nat → ClassId) (NL : List Nat) (ad : Nat → Nat) (G : fM) (x : fX) (hst : l.stackTraces = false) (hp : 300 ∈ NL) (hz : f_ES NL 0) (a b : Int32) (h : ¬ rng a 1 9) : Kh l yL_setThresholds wsL_setThresholds { frames := 9, cells := 1, slots := 6, locals := 200 } vwCl D K NL ad [.ref (ad 300), .int a, .int b] G x (some (.int 1)) G x := by
  refine Kh.of (cc := cL_setThresholds) (maxL := 4) (ret := (some .int)) (hh := [(0, 6, 9, 13)]) (L := [some (.ref (ad 300)), some (.int a), some (.int b), none]) hst (by decide +kernel) rfl rfl (Nat.le_of_ble_eq_true rfl) ?_
  intro p e s m args below meth c hC hX htab hr hk
  have hN := hX.2.1
  refine fk_aload_n hC dL_setThresholds_0 rfl rfl ?_
  refine fk_iload_n hC dL_setThresholds_1 rfl rfl ?_
  refine fk_iload_n hC dL_setThresholds_2 rfl rfl ?_
  refine fk_xcallV hC hX (tX5_setThresholds_1 l D K NL ad _ x hst hp hz _ _ h) hp (f_E300 _ _ _ _ _) rfl (cwV 2 hC.1.2.2.2.2 gL_setThresholds_X5_setThresholds rfl rfl rfl (by decide +kernel) ⟨Nat.le_of_ble_eq_true rfl, Nat.le_of_ble_eq_true rfl⟩) rfl rfl (Nat.le_of_ble_eq_true rfl) dL_setThresholds_3 ⟨Nat.le_of_ble_eq_true rfl, Nat.le_of_ble_eq_true rfl⟩ (fun H1 locs1 ls q ce a1 a2 a3 a4 a5 a6 => fk_xcatch (name := xIAE) hC [] ⟨0, 6, 9, 13⟩ [] (htab.trans rfl) (fun z hz9 => absurd hz9 List.not_mem_nil) (by decide) (by decide) (by decide +kernel) (va_Nw.use rfl hX.2.2.1.2.1.1) a1 a2 a3 a4 a5 a6 ?_)
  refine fk_astore_n hC dL_setThresholds_9 rfl (by decide) rfl ?_
  refine fk_iconst (v := 1) hC dL_setThresholds_10 (by decide) ?_
  exact fk_iret hC hr hk dL_setThresholds_11 rfl rfl rfl
set_option maxHeartbeats 4000000 in
set_option maxRecDepth 100000 in
theorem hL_setThresholds_2 (l : Launch) (D : va_G) (K : Nat → ClassId) (NL : List Nat) (ad : Nat → Nat) (G : fM) (x : fX) (hst : l.stackTraces = false) (hp : 300 ∈ NL) (hz : f_ES NL 0) (a b : Int32) (h1 : rng a 1 9) (h : ¬ rng b 1 9) : Kh l yL_setThresholds wsL_setThresholds { frames := 9, cells := 1, slots := 6, locals := 200 } vwCl D K NL ad [.ref (ad 300), .int a, .int b] G x (some (.int 1)) G x := by
  refine Kh.of (cc := cL_setThresholds) (maxL := 4) (ret := (some .int)) (hh := [(0, 6, 9, 13)]) (L := [some (.ref (ad 300)), some (.int a), some (.int b), none]) hst (by decide +kernel) rfl rfl (Nat.le_of_ble_eq_true rfl) ?_
  intro p e s m args below meth c hC hX htab hr hk
  have hN := hX.2.1
  refine fk_aload_n hC dL_setThresholds_0 rfl rfl ?_
  refine fk_iload_n hC dL_setThresholds_1 rfl rfl ?_
  refine fk_iload_n hC dL_setThresholds_2 rfl rfl ?_
  refine fk_xcallV hC hX (tX5_setThresholds_2 l D K NL ad _ x hst hp hz _ _ h1 h) hp (f_E300 _ _ _ _ _) rfl (cwV 2 hC.1.2.2.2.2 gL_setThresholds_X5_setThresholds rfl rfl rfl (by decide +kernel) ⟨Nat.le_of_ble_eq_true rfl, Nat.le_of_ble_eq_true rfl⟩) rfl rfl (Nat.le_of_ble_eq_true rfl) dL_setThresholds_3 ⟨Nat.le_of_ble_eq_true rfl, Nat.le_of_ble_eq_true rfl⟩ (fun H1 locs1 ls q ce a1 a2 a3 a4 a5 a6 => fk_xcatch (name := xIAE) hC [] ⟨0, 6, 9, 13⟩ [] (htab.trans rfl) (fun z hz9 => absurd hz9 List.not_mem_nil) (by decide) (by decide) (by decide +kernel) (va_Nw.use rfl hX.2.2.1.2.1.1) a1 a2 a3 a4 a5 a6 ?_)
  refine fk_astore_n hC dL_setThresholds_9 rfl (by decide) rfl ?_
  refine fk_iconst (v := 1) hC dL_setThresholds_10 (by decide) ?_
  exact fk_iret hC hr hk dL_setThresholds_11 rfl rfl rfl
set_option maxHeartbeats 4000000 in
set_option maxRecDepth 100000 in
theorem hL_setSlowStart (l : Launch) (D : va_G) (K : Nat → ClassId) (NL : List Nat) (ad : Nat → Nat) (G : fM) (x : fX) (hst : l.stackTraces = false) (hp : 300 ∈ NL) (hz : f_ES NL 0) (ho : 320 ∈ NL)  (a : Int32) (h1 : rng a 0 50) : Kh l yL_setSlowStart wsL_setSlowStart { frames := 9, cells := 1, slots := 6, locals := 200 } vwCl D K NL ad [.ref (ad 300), .int a, .ref (ad 320)] G x (some (.int 0)) (upd G (iS 0 3) a) (((G (iS 0 3) : Int32).toInt64), x.2) := by
  refine Kh.of (cc := cL_setSlowStart) (maxL := 4) (ret := (some .int)) (hh := [(0, 9, 12, 13)]) (L := [some (.ref (ad 300)), some (.int a), some (.ref (ad 320)), none]) hst (by decide +kernel) rfl rfl (Nat.le_of_ble_eq_true rfl) ?_
  intro p e s m args below meth c hC hX htab hr hk
  have hN := hX.2.1
  refine fk_aload_n hC dL_setSlowStart_0 rfl rfl ?_
  refine fk_iconst (v := 0) hC dL_setSlowStart_1 (by decide) ?_
  refine fk_aload_n hC dL_setSlowStart_2 rfl rfl ?_
  refine fk_iload_n hC dL_setSlowStart_3 rfl rfl ?_
  refine fk_callV hC hN (kX5_setSlowStart l D K NL ad _ x hp hz _ h1) hp (f_E300 _ _ _ _ _) rfl (cwV 1 hC.1.2.2.2.2 gL_setSlowStart_X5_setSlowStart rfl rfl rfl (by decide +kernel) ⟨Nat.le_of_ble_eq_true rfl, Nat.le_of_ble_eq_true rfl⟩) rfl rfl (Nat.le_of_ble_eq_true rfl) dL_setSlowStart_4 ⟨Nat.le_of_ble_eq_true rfl, Nat.le_of_ble_eq_true rfl⟩ ?_
  refine fk_i2l hC dL_setSlowStart_7 rfl ?_
  refine fk_last hC ho dL_setSlowStart_8 ?_
  refine fk_goto (tgt := 15) hC dL_setSlowStart_9 (by decide) ?_
  refine fk_iconst (v := 0) hC dL_setSlowStart_15 (by decide) ?_
  refine fk_widen (k := 1) (n := 6) (Nat.zero_le _) (Nat.zero_le _) ?_
  exact fk_iret hC hr hk dL_setSlowStart_16 rfl rfl rfl
set_option maxHeartbeats 4000000 in
set_option maxRecDepth 100000 in
theorem hL_setSlowStart_1 (l : Launch) (D : va_G) (K : Nat → ClassId) (NL : List Nat) (ad : Nat → Nat) (G : fM) (x : fX) (hst : l.stackTraces = false) (hp : 300 ∈ NL) (hz : f_ES NL 0) (ho : 320 ∈ NL) (a : Int32) (h : ¬ rng a 0 50) : Kh l yL_setSlowStart wsL_setSlowStart { frames := 9, cells := 1, slots := 6, locals := 200 } vwCl D K NL ad [.ref (ad 300), .int a, .ref (ad 320)] G x (some (.int 1)) G x := by
  refine Kh.of (cc := cL_setSlowStart) (maxL := 4) (ret := (some .int)) (hh := [(0, 9, 12, 13)]) (L := [some (.ref (ad 300)), some (.int a), some (.ref (ad 320)), none]) hst (by decide +kernel) rfl rfl (Nat.le_of_ble_eq_true rfl) ?_
  intro p e s m args below meth c hC hX htab hr hk
  have hN := hX.2.1
  refine fk_aload_n hC dL_setSlowStart_0 rfl rfl ?_
  refine fk_iconst (v := 0) hC dL_setSlowStart_1 (by decide) ?_
  refine fk_aload_n hC dL_setSlowStart_2 rfl rfl ?_
  refine fk_iload_n hC dL_setSlowStart_3 rfl rfl ?_
  refine fk_xcallV hC hX (tX5_setSlowStart l D K NL ad _ x hst hp hz _ h) hp (f_E300 _ _ _ _ _) rfl (cwV 1 hC.1.2.2.2.2 gL_setSlowStart_X5_setSlowStart rfl rfl rfl (by decide +kernel) ⟨Nat.le_of_ble_eq_true rfl, Nat.le_of_ble_eq_true rfl⟩) rfl rfl (Nat.le_of_ble_eq_true rfl) dL_setSlowStart_4 ⟨Nat.le_of_ble_eq_true rfl, Nat.le_of_ble_eq_true rfl⟩ (fun H1 locs1 ls q ce a1 a2 a3 a4 a5 a6 => fk_xcatch (name := xIAE) hC [] ⟨0, 9, 12, 13⟩ [] (htab.trans rfl) (fun z hz9 => absurd hz9 List.not_mem_nil) (by decide) (by decide) (by decide +kernel) (va_Nw.use rfl hX.2.2.1.2.1.1) a1 a2 a3 a4 a5 a6 ?_)
  refine fk_astore_n hC dL_setSlowStart_12 rfl (by decide) rfl ?_
  refine fk_iconst (v := 1) hC dL_setSlowStart_13 (by decide) ?_
  exact fk_iret hC hr hk dL_setSlowStart_14 rfl rfl rfl
set_option maxHeartbeats 4000000 in
set_option maxRecDepth 100000 in
theorem hL_setCool (l : Launch) (D : va_G) (K : Nat → ClassId) (NL : List Nat) (ad : Nat → Nat) (G : fM) (x : fX) (hst : l.stackTraces = false) (hp : 300 ∈ NL) (hz : f_ES NL 0) (ho : 320 ∈ NL)  (a : Int32) (h1 : rng a 1 50) : Kh l yL_setCool wsL_setCool { frames := 9, cells := 1, slots := 6, locals := 200 } vwCl D K NL ad [.ref (ad 300), .int a, .ref (ad 320)] G x (some (.int 0)) (upd G (iS 0 4) a) (((G (iS 0 4) : Int32).toInt64), x.2) := by
  refine Kh.of (cc := cL_setCool) (maxL := 4) (ret := (some .int)) (hh := [(0, 9, 12, 13)]) (L := [some (.ref (ad 300)), some (.int a), some (.ref (ad 320)), none]) hst (by decide +kernel) rfl rfl (Nat.le_of_ble_eq_true rfl) ?_
  intro p e s m args below meth c hC hX htab hr hk
  have hN := hX.2.1
  refine fk_aload_n hC dL_setCool_0 rfl rfl ?_
  refine fk_iconst (v := 0) hC dL_setCool_1 (by decide) ?_
  refine fk_aload_n hC dL_setCool_2 rfl rfl ?_
  refine fk_iload_n hC dL_setCool_3 rfl rfl ?_
  refine fk_callV hC hN (kX5_setCool l D K NL ad _ x hp hz _ h1) hp (f_E300 _ _ _ _ _) rfl (cwV 1 hC.1.2.2.2.2 gL_setCool_X5_setCool rfl rfl rfl (by decide +kernel) ⟨Nat.le_of_ble_eq_true rfl, Nat.le_of_ble_eq_true rfl⟩) rfl rfl (Nat.le_of_ble_eq_true rfl) dL_setCool_4 ⟨Nat.le_of_ble_eq_true rfl, Nat.le_of_ble_eq_true rfl⟩ ?_
  refine fk_i2l hC dL_setCool_7 rfl ?_
  refine fk_last hC ho dL_setCool_8 ?_
  refine fk_goto (tgt := 15) hC dL_setCool_9 (by decide) ?_
  refine fk_iconst (v := 0) hC dL_setCool_15 (by decide) ?_
  refine fk_widen (k := 1) (n := 6) (Nat.zero_le _) (Nat.zero_le _) ?_
  exact fk_iret hC hr hk dL_setCool_16 rfl rfl rfl
set_option maxHeartbeats 4000000 in
set_option maxRecDepth 100000 in
theorem hL_setCool_1 (l : Launch) (D : va_G) (K : Nat → ClassId) (NL : List Nat) (ad : Nat → Nat) (G : fM) (x : fX) (hst : l.stackTraces = false) (hp : 300 ∈ NL) (hz : f_ES NL 0) (ho : 320 ∈ NL) (a : Int32) (h : ¬ rng a 1 50) : Kh l yL_setCool wsL_setCool { frames := 9, cells := 1, slots := 6, locals := 200 } vwCl D K NL ad [.ref (ad 300), .int a, .ref (ad 320)] G x (some (.int 1)) G x := by
  refine Kh.of (cc := cL_setCool) (maxL := 4) (ret := (some .int)) (hh := [(0, 9, 12, 13)]) (L := [some (.ref (ad 300)), some (.int a), some (.ref (ad 320)), none]) hst (by decide +kernel) rfl rfl (Nat.le_of_ble_eq_true rfl) ?_
  intro p e s m args below meth c hC hX htab hr hk
  have hN := hX.2.1
  refine fk_aload_n hC dL_setCool_0 rfl rfl ?_
  refine fk_iconst (v := 0) hC dL_setCool_1 (by decide) ?_
  refine fk_aload_n hC dL_setCool_2 rfl rfl ?_
  refine fk_iload_n hC dL_setCool_3 rfl rfl ?_
  refine fk_xcallV hC hX (tX5_setCool l D K NL ad _ x hst hp hz _ h) hp (f_E300 _ _ _ _ _) rfl (cwV 1 hC.1.2.2.2.2 gL_setCool_X5_setCool rfl rfl rfl (by decide +kernel) ⟨Nat.le_of_ble_eq_true rfl, Nat.le_of_ble_eq_true rfl⟩) rfl rfl (Nat.le_of_ble_eq_true rfl) dL_setCool_4 ⟨Nat.le_of_ble_eq_true rfl, Nat.le_of_ble_eq_true rfl⟩ (fun H1 locs1 ls q ce a1 a2 a3 a4 a5 a6 => fk_xcatch (name := xIAE) hC [] ⟨0, 9, 12, 13⟩ [] (htab.trans rfl) (fun z hz9 => absurd hz9 List.not_mem_nil) (by decide) (by decide) (by decide +kernel) (va_Nw.use rfl hX.2.2.1.2.1.1) a1 a2 a3 a4 a5 a6 ?_)
  refine fk_astore_n hC dL_setCool_12 rfl (by decide) rfl ?_
  refine fk_iconst (v := 1) hC dL_setCool_13 (by decide) ?_
  exact fk_iret hC hr hk dL_setCool_14 rfl rfl rfl
set_option maxHeartbeats 4000000 in
set_option maxRecDepth 100000 in
theorem hL_setSticky (l : Launch) (D : va_G) (K : Nat → ClassId) (NL : List Nat) (ad : Nat → Nat) (G : fM) (x : fX) (hst : l.stackTraces = false) (hp : 300 ∈ NL) (hz : f_ES NL 0) (ho : 320 ∈ NL)  (a : Int32) (h1 : rng a 0 100) : Kh l yL_setSticky wsL_setSticky { frames := 9, cells := 1, slots := 6, locals := 200 } vwCl D K NL ad [.ref (ad 300), .int a, .ref (ad 320)] G x (some (.int 0)) (sP_stk a G) (((G (iS 0 5) : Int32).toInt64), x.2) := by
  refine Kh.of (cc := cL_setSticky) (maxL := 4) (ret := (some .int)) (hh := [(0, 9, 12, 13)]) (L := [some (.ref (ad 300)), some (.int a), some (.ref (ad 320)), none]) hst (by decide +kernel) rfl rfl (Nat.le_of_ble_eq_true rfl) ?_
  intro p e s m args below meth c hC hX htab hr hk
  have hN := hX.2.1
  refine fk_aload_n hC dL_setSticky_0 rfl rfl ?_
  refine fk_iconst (v := 0) hC dL_setSticky_1 (by decide) ?_
  refine fk_aload_n hC dL_setSticky_2 rfl rfl ?_
  refine fk_iload_n hC dL_setSticky_3 rfl rfl ?_
  refine fk_callV hC hN (kX5_setSticky l D K NL ad _ x hp hz _ h1) hp (f_E300 _ _ _ _ _) rfl (cwV 1 hC.1.2.2.2.2 gL_setSticky_X5_setSticky rfl rfl rfl (by decide +kernel) ⟨Nat.le_of_ble_eq_true rfl, Nat.le_of_ble_eq_true rfl⟩) rfl rfl (Nat.le_of_ble_eq_true rfl) dL_setSticky_4 ⟨Nat.le_of_ble_eq_true rfl, Nat.le_of_ble_eq_true rfl⟩ ?_
  refine fk_i2l hC dL_setSticky_7 rfl ?_
  refine fk_last hC ho dL_setSticky_8 ?_
  refine fk_goto (tgt := 15) hC dL_setSticky_9 (by decide) ?_
  refine fk_iconst (v := 0) hC dL_setSticky_15 (by decide) ?_
  refine fk_widen (k := 1) (n := 6) (Nat.zero_le _) (Nat.zero_le _) ?_
  exact fk_iret hC hr hk dL_setSticky_16 rfl rfl rfl
set_option maxHeartbeats 4000000 in
set_option maxRecDepth 100000 in
theorem hL_setSticky_1 (l : Launch) (D : va_G) (K : Nat → ClassId) (NL : List Nat) (ad : Nat → Nat) (G : fM) (x : fX) (hst : l.stackTraces = false) (hp : 300 ∈ NL) (hz : f_ES NL 0) (ho : 320 ∈ NL) (a : Int32) (h : ¬ rng a 0 100) : Kh l yL_setSticky wsL_setSticky { frames := 9, cells := 1, slots := 6, locals := 200 } vwCl D K NL ad [.ref (ad 300), .int a, .ref (ad 320)] G x (some (.int 1)) G x := by
  refine Kh.of (cc := cL_setSticky) (maxL := 4) (ret := (some .int)) (hh := [(0, 9, 12, 13)]) (L := [some (.ref (ad 300)), some (.int a), some (.ref (ad 320)), none]) hst (by decide +kernel) rfl rfl (Nat.le_of_ble_eq_true rfl) ?_
  intro p e s m args below meth c hC hX htab hr hk
  have hN := hX.2.1
  refine fk_aload_n hC dL_setSticky_0 rfl rfl ?_
  refine fk_iconst (v := 0) hC dL_setSticky_1 (by decide) ?_
  refine fk_aload_n hC dL_setSticky_2 rfl rfl ?_
  refine fk_iload_n hC dL_setSticky_3 rfl rfl ?_
  refine fk_xcallV hC hX (tX5_setSticky l D K NL ad _ x hst hp hz _ h) hp (f_E300 _ _ _ _ _) rfl (cwV 1 hC.1.2.2.2.2 gL_setSticky_X5_setSticky rfl rfl rfl (by decide +kernel) ⟨Nat.le_of_ble_eq_true rfl, Nat.le_of_ble_eq_true rfl⟩) rfl rfl (Nat.le_of_ble_eq_true rfl) dL_setSticky_4 ⟨Nat.le_of_ble_eq_true rfl, Nat.le_of_ble_eq_true rfl⟩ (fun H1 locs1 ls q ce a1 a2 a3 a4 a5 a6 => fk_xcatch (name := xIAE) hC [] ⟨0, 9, 12, 13⟩ [] (htab.trans rfl) (fun z hz9 => absurd hz9 List.not_mem_nil) (by decide) (by decide) (by decide +kernel) (va_Nw.use rfl hX.2.2.1.2.1.1) a1 a2 a3 a4 a5 a6 ?_)
  refine fk_astore_n hC dL_setSticky_12 rfl (by decide) rfl ?_
  refine fk_iconst (v := 1) hC dL_setSticky_13 (by decide) ?_
  exact fk_iret hC hr hk dL_setSticky_14 rfl rfl rfl
set_option maxHeartbeats 4000000 in
set_option maxRecDepth 100000 in
theorem hL_setPolicy (l : Launch) (D : va_G) (K : Nat → ClassId) (NL : List Nat) (ad : Nat → Nat) (G : fM) (x : fX) (hst : l.stackTraces = false) (hp : 300 ∈ NL) (hz : f_ES NL 0) (ho : 320 ∈ NL) (hI : f_I 0 G) (a : Int32) (h1 : rng a 0 4) : Kh l yL_setPolicy wsL_setPolicy { frames := 9, cells := 1, slots := 6, locals := 200 } vwCl D K NL ad [.ref (ad 300), .int a, .ref (ad 320)] G x (some (.int 0)) (sP_pol a G) (((G (iS 0 6) : Int32).toInt64), x.2) := by
  refine Kh.of (cc := cL_setPolicy) (maxL := 4) (ret := (some .int)) (hh := [(0, 9, 12, 13)]) (L := [some (.ref (ad 300)), some (.int a), some (.ref (ad 320)), none]) hst (by decide +kernel) rfl rfl (Nat.le_of_ble_eq_true rfl) ?_
  intro p e s m args below meth c hC hX htab hr hk
  have hN := hX.2.1
  refine fk_aload_n hC dL_setPolicy_0 rfl rfl ?_
  refine fk_iconst (v := 0) hC dL_setPolicy_1 (by decide) ?_
  refine fk_aload_n hC dL_setPolicy_2 rfl rfl ?_
  refine fk_iload_n hC dL_setPolicy_3 rfl rfl ?_
  refine fk_callV hC hN (kX5_setPolicy l D K NL ad _ x hp hz hI _ h1) hp (f_E300 _ _ _ _ _) rfl (cwV 1 hC.1.2.2.2.2 gL_setPolicy_X5_setPolicy rfl rfl rfl (by decide +kernel) ⟨Nat.le_of_ble_eq_true rfl, Nat.le_of_ble_eq_true rfl⟩) rfl rfl (Nat.le_of_ble_eq_true rfl) dL_setPolicy_4 ⟨Nat.le_of_ble_eq_true rfl, Nat.le_of_ble_eq_true rfl⟩ ?_
  refine fk_i2l hC dL_setPolicy_7 rfl ?_
  refine fk_last hC ho dL_setPolicy_8 ?_
  refine fk_goto (tgt := 15) hC dL_setPolicy_9 (by decide) ?_
  refine fk_iconst (v := 0) hC dL_setPolicy_15 (by decide) ?_
  refine fk_widen (k := 1) (n := 6) (Nat.zero_le _) (Nat.zero_le _) ?_
  exact fk_iret hC hr hk dL_setPolicy_16 rfl rfl rfl
set_option maxHeartbeats 4000000 in
set_option maxRecDepth 100000 in
theorem hL_setPolicy_1 (l : Launch) (D : va_G) (K : Nat → ClassId) (NL : List Nat) (ad : Nat → Nat) (G : fM) (x : fX) (hst : l.stackTraces = false) (hp : 300 ∈ NL) (hz : f_ES NL 0) (ho : 320 ∈ NL) (a : Int32) (h : ¬ rng a 0 4) : Kh l yL_setPolicy wsL_setPolicy { frames := 9, cells := 1, slots := 6, locals := 200 } vwCl D K NL ad [.ref (ad 300), .int a, .ref (ad 320)] G x (some (.int 1)) G x := by
  refine Kh.of (cc := cL_setPolicy) (maxL := 4) (ret := (some .int)) (hh := [(0, 9, 12, 13)]) (L := [some (.ref (ad 300)), some (.int a), some (.ref (ad 320)), none]) hst (by decide +kernel) rfl rfl (Nat.le_of_ble_eq_true rfl) ?_
  intro p e s m args below meth c hC hX htab hr hk
  have hN := hX.2.1
  refine fk_aload_n hC dL_setPolicy_0 rfl rfl ?_
  refine fk_iconst (v := 0) hC dL_setPolicy_1 (by decide) ?_
  refine fk_aload_n hC dL_setPolicy_2 rfl rfl ?_
  refine fk_iload_n hC dL_setPolicy_3 rfl rfl ?_
  refine fk_xcallV hC hX (tX5_setPolicy l D K NL ad _ x hst hp hz _ h) hp (f_E300 _ _ _ _ _) rfl (cwV 1 hC.1.2.2.2.2 gL_setPolicy_X5_setPolicy rfl rfl rfl (by decide +kernel) ⟨Nat.le_of_ble_eq_true rfl, Nat.le_of_ble_eq_true rfl⟩) rfl rfl (Nat.le_of_ble_eq_true rfl) dL_setPolicy_4 ⟨Nat.le_of_ble_eq_true rfl, Nat.le_of_ble_eq_true rfl⟩ (fun H1 locs1 ls q ce a1 a2 a3 a4 a5 a6 => fk_xcatch (name := xIAE) hC [] ⟨0, 9, 12, 13⟩ [] (htab.trans rfl) (fun z hz9 => absurd hz9 List.not_mem_nil) (by decide) (by decide) (by decide +kernel) (va_Nw.use rfl hX.2.2.1.2.1.1) a1 a2 a3 a4 a5 a6 ?_)
  refine fk_astore_n hC dL_setPolicy_12 rfl (by decide) rfl ?_
  refine fk_iconst (v := 1) hC dL_setPolicy_13 (by decide) ?_
  exact fk_iret hC hr hk dL_setPolicy_14 rfl rfl rfl
set_option maxHeartbeats 4000000 in
set_option maxRecDepth 100000 in
theorem hL_tick (l : Launch) (D : va_G) (K : Nat → ClassId) (NL : List Nat) (ad : Nat → Nat) (G : fM) (x : fX) (hst : l.stackTraces = false) (hp : 300 ∈ NL) (hz : f_ES NL 0) (ho : 320 ∈ NL) (hI : f_I 0 G) (a : Int32) (h1 : rng a 1 200) : Kh l yL_tick wsL_tick { frames := 9, cells := 1, slots := 6, locals := 200 } vwCl D K NL ad [.ref (ad 300), .int a, .ref (ad 320)] G x (some (.int 0)) (sP_tick a G) (((sP_tick a G (iS 0 9) : Int32).toInt64), x.2) := by
  refine Kh.of (cc := cL_tick) (maxL := 4) (ret := (some .int)) (hh := [(0, 9, 12, 13)]) (L := [some (.ref (ad 300)), some (.int a), some (.ref (ad 320)), none]) hst (by decide +kernel) rfl rfl (Nat.le_of_ble_eq_true rfl) ?_
  intro p e s m args below meth c hC hX htab hr hk
  have hN := hX.2.1
  refine fk_aload_n hC dL_tick_0 rfl rfl ?_
  refine fk_iconst (v := 0) hC dL_tick_1 (by decide) ?_
  refine fk_aload_n hC dL_tick_2 rfl rfl ?_
  refine fk_iload_n hC dL_tick_3 rfl rfl ?_
  refine fk_callV hC hN (kX5_tick l D K NL ad _ x hp hz hI _ h1) hp (f_E300 _ _ _ _ _) rfl (cwV 1 hC.1.2.2.2.2 gL_tick_X5_tick rfl rfl rfl (by decide +kernel) ⟨Nat.le_of_ble_eq_true rfl, Nat.le_of_ble_eq_true rfl⟩) rfl rfl (Nat.le_of_ble_eq_true rfl) dL_tick_4 ⟨Nat.le_of_ble_eq_true rfl, Nat.le_of_ble_eq_true rfl⟩ ?_
  refine fk_i2l hC dL_tick_7 rfl ?_
  refine fk_last hC ho dL_tick_8 ?_
  refine fk_goto (tgt := 15) hC dL_tick_9 (by decide) ?_
  refine fk_iconst (v := 0) hC dL_tick_15 (by decide) ?_
  refine fk_widen (k := 1) (n := 6) (Nat.zero_le _) (Nat.zero_le _) ?_
  exact fk_iret hC hr hk dL_tick_16 rfl rfl rfl
set_option maxHeartbeats 4000000 in
set_option maxRecDepth 100000 in
theorem hL_tick_1 (l : Launch) (D : va_G) (K : Nat → ClassId) (NL : List Nat) (ad : Nat → Nat) (G : fM) (x : fX) (hst : l.stackTraces = false) (hp : 300 ∈ NL) (hz : f_ES NL 0) (ho : 320 ∈ NL) (a : Int32) (h : ¬ rng a 1 200) : Kh l yL_tick wsL_tick { frames := 9, cells := 1, slots := 6, locals := 200 } vwCl D K NL ad [.ref (ad 300), .int a, .ref (ad 320)] G x (some (.int 1)) G x := by
  refine Kh.of (cc := cL_tick) (maxL := 4) (ret := (some .int)) (hh := [(0, 9, 12, 13)]) (L := [some (.ref (ad 300)), some (.int a), some (.ref (ad 320)), none]) hst (by decide +kernel) rfl rfl (Nat.le_of_ble_eq_true rfl) ?_
  intro p e s m args below meth c hC hX htab hr hk
  have hN := hX.2.1
  refine fk_aload_n hC dL_tick_0 rfl rfl ?_
  refine fk_iconst (v := 0) hC dL_tick_1 (by decide) ?_
  refine fk_aload_n hC dL_tick_2 rfl rfl ?_
  refine fk_iload_n hC dL_tick_3 rfl rfl ?_
  refine fk_xcallV hC hX (tX5_tick l D K NL ad _ x hst hp hz _ h) hp (f_E300 _ _ _ _ _) rfl (cwV 1 hC.1.2.2.2.2 gL_tick_X5_tick rfl rfl rfl (by decide +kernel) ⟨Nat.le_of_ble_eq_true rfl, Nat.le_of_ble_eq_true rfl⟩) rfl rfl (Nat.le_of_ble_eq_true rfl) dL_tick_4 ⟨Nat.le_of_ble_eq_true rfl, Nat.le_of_ble_eq_true rfl⟩ (fun H1 locs1 ls q ce a1 a2 a3 a4 a5 a6 => fk_xcatch (name := xIAE) hC [] ⟨0, 9, 12, 13⟩ [] (htab.trans rfl) (fun z hz9 => absurd hz9 List.not_mem_nil) (by decide) (by decide) (by decide +kernel) (va_Nw.use rfl hX.2.2.1.2.1.1) a1 a2 a3 a4 a5 a6 ?_)
  refine fk_astore_n hC dL_tick_12 rfl (by decide) rfl ?_
  refine fk_iconst (v := 1) hC dL_tick_13 (by decide) ?_
  exact fk_iret hC hr hk dL_tick_14 rfl rfl rfl
set_option maxHeartbeats 4000000 in
set_option maxRecDepth 100000 in
theorem hL_open (l : Launch) (D : va_G) (K : Nat → ClassId) (NL : List Nat) (ad : Nat → Nat) (G : fM) (x : fX) (hst : l.stackTraces = false) (hp : 300 ∈ NL) (hz : f_ES NL 0) (ho : 320 ∈ NL) (hI : f_I 0 G) (cl : Int32) (j : Nat) (hf : sS_for 0 cl G = some j) : Kh l yL_open wsL_open { frames := 9, cells := 1, slots := 6, locals := 200 } vwCl D K NL ad [.ref (ad 300), .int cl, .ref (ad 320)] G x (some (.int 0)) (sP_op j cl G) (((nI (oN 0 (sP_opM j cl G)) : Int32).toInt64), x.2) := by
  refine Kh.of (cc := cL_open) (maxL := 4) (ret := (some .int)) (hh := [(0, 9, 12, 15)]) (L := [some (.ref (ad 300)), some (.int cl), some (.ref (ad 320)), none]) hst (by decide +kernel) rfl rfl (Nat.le_of_ble_eq_true rfl) ?_
  intro p e s m args below meth c hC hX htab hr hk
  have hN := hX.2.1
  refine fk_aload_n hC dL_open_0 rfl rfl ?_
  refine fk_iconst (v := 0) hC dL_open_1 (by decide) ?_
  refine fk_aload_n hC dL_open_2 rfl rfl ?_
  refine fk_iload_n hC dL_open_3 rfl rfl ?_
  refine fk_callV hC hN (kX5_open l D K NL ad _ x hp hz hI _ j hf) hp (f_E300 _ _ _ _ _) rfl (cwV 1 hC.1.2.2.2.2 gL_open_X5_open rfl rfl rfl (by decide +kernel) ⟨Nat.le_of_ble_eq_true rfl, Nat.le_of_ble_eq_true rfl⟩) rfl rfl (Nat.le_of_ble_eq_true rfl) dL_open_4 ⟨Nat.le_of_ble_eq_true rfl, Nat.le_of_ble_eq_true rfl⟩ ?_
  refine fk_i2l hC dL_open_7 rfl ?_
  refine fk_last hC ho dL_open_8 ?_
  refine fk_goto (tgt := 15) hC dL_open_9 (by decide) ?_
  refine fk_iconst (v := 0) hC dL_open_15 (by decide) ?_
  refine fk_widen (k := 1) (n := 6) (Nat.zero_le _) (Nat.zero_le _) ?_
  exact fk_iret hC hr hk dL_open_16 rfl rfl rfl
set_option maxHeartbeats 4000000 in
set_option maxRecDepth 100000 in
theorem hL_open_1 (l : Launch) (D : va_G) (K : Nat → ClassId) (NL : List Nat) (ad : Nat → Nat) (G : fM) (x : fX) (hst : l.stackTraces = false) (hp : 300 ∈ NL) (hz : f_ES NL 0) (ho : 320 ∈ NL) (hI : f_I 0 G) (cl : Int32) (hf : sS_for 0 cl G = none) : Kh l yL_open wsL_open { frames := 9, cells := 1, slots := 6, locals := 200 } vwCl D K NL ad [.ref (ad 300), .int cl, .ref (ad 320)] G x (some (.int 1)) (upd G (iS 0 10) (G (iS 0 10) + 1)) x := by
  refine Kh.of (cc := cL_open) (maxL := 4) (ret := (some .int)) (hh := [(0, 9, 12, 15)]) (L := [some (.ref (ad 300)), some (.int cl), some (.ref (ad 320)), none]) hst (by decide +kernel) rfl rfl (Nat.le_of_ble_eq_true rfl) ?_
  intro p e s m args below meth c hC hX htab hr hk
  have hN := hX.2.1
  refine fk_aload_n hC dL_open_0 rfl rfl ?_
  refine fk_iconst (v := 0) hC dL_open_1 (by decide) ?_
  refine fk_aload_n hC dL_open_2 rfl rfl ?_
  refine fk_iload_n hC dL_open_3 rfl rfl ?_
  refine fk_xcallV hC hX (tX5_open l D K NL ad _ x hst hp hz hI _ hf) hp (f_E300 _ _ _ _ _) rfl (cwV 1 hC.1.2.2.2.2 gL_open_X5_open rfl rfl rfl (by decide +kernel) ⟨Nat.le_of_ble_eq_true rfl, Nat.le_of_ble_eq_true rfl⟩) rfl rfl (Nat.le_of_ble_eq_true rfl) dL_open_4 ⟨Nat.le_of_ble_eq_true rfl, Nat.le_of_ble_eq_true rfl⟩ (fun H1 locs1 ls q ce a1 a2 a3 a4 a5 a6 => fk_xcatch (name := xISE) hC [] ⟨0, 9, 12, 15⟩ [] (htab.trans rfl) (fun z hz9 => absurd hz9 List.not_mem_nil) (by decide) (by decide) (by decide +kernel) (va_Nw.use rfl hX.2.2.1.2.1.2.1) a1 a2 a3 a4 a5 a6 ?_)
  refine fk_astore_n hC dL_open_12 rfl (by decide) rfl ?_
  refine fk_iconst (v := 1) hC dL_open_13 (by decide) ?_
  exact fk_iret hC hr hk dL_open_14 rfl rfl rfl
set_option maxHeartbeats 4000000 in
set_option maxRecDepth 100000 in
theorem hL_close (l : Launch) (D : va_G) (K : Nat → ClassId) (NL : List Nat) (ad : Nat → Nat) (G : fM) (x : fX) (hst : l.stackTraces = false) (hp : 300 ∈ NL) (hz : f_ES NL 0) (ho : 320 ∈ NL) (hI : f_I 0 G) (k : Nat) (hk9 : k < oN 0 G) (gd : Int32) (h : ¬ G (iA 0 3000 k) = 0) : Kh l yL_close wsL_close { frames := 9, cells := 1, slots := 6, locals := 200 } vwCl D K NL ad [.ref (ad 300), .int (nI k), .int gd, .ref (ad 320)] G x (some (.int 0)) (sS_dis 0 k gd G) (((sS_dis 0 k gd G (iS 0 9) - sS_dis 0 k gd G (iA 0 2000 k) : Int32).toInt64), x.2) := by
  refine Kh.of (cc := cL_close) (maxL := 5) (ret := (some .int)) (hh := [(0, 10, 13, 20), (0, 10, 17, 15)]) (L := [some (.ref (ad 300)), some (.int (nI k)), some (.int gd), some (.ref (ad 320)), none]) hst (by decide +kernel) rfl rfl (Nat.le_of_ble_eq_true rfl) ?_
  intro p e s m args below meth c hC hX htab hr hk
  have hN := hX.2.1
  refine fk_aload_n hC dL_close_0 rfl rfl ?_
  refine fk_iconst (v := 0) hC dL_close_1 (by decide) ?_
  refine fk_aload_n hC dL_close_2 rfl rfl ?_
  refine fk_iload_n hC dL_close_3 rfl rfl ?_
  refine fk_iload_n hC dL_close_4 rfl rfl ?_
  refine fk_callV hC hN (kX5_close l D K NL ad _ x hp hz hI k hk9 _ h) hp (f_E300 _ _ _ _ _) rfl (cwV 2 hC.1.2.2.2.2 gL_close_X5_close rfl rfl rfl (by decide +kernel) ⟨Nat.le_of_ble_eq_true rfl, Nat.le_of_ble_eq_true rfl⟩) rfl rfl (Nat.le_of_ble_eq_true rfl) dL_close_5 ⟨Nat.le_of_ble_eq_true rfl, Nat.le_of_ble_eq_true rfl⟩ ?_
  refine fk_i2l hC dL_close_8 rfl ?_
  refine fk_last hC ho dL_close_9 ?_
  refine fk_goto (tgt := 21) hC dL_close_10 (by decide) ?_
  refine fk_iconst (v := 0) hC dL_close_21 (by decide) ?_
  refine fk_widen (k := 1) (n := 6) (Nat.zero_le _) (Nat.zero_le _) ?_
  exact fk_iret hC hr hk dL_close_22 rfl rfl rfl
set_option maxHeartbeats 4000000 in
set_option maxRecDepth 100000 in
theorem hL_close_1 (l : Launch) (D : va_G) (K : Nat → ClassId) (NL : List Nat) (ad : Nat → Nat) (G : fM) (x : fX) (hst : l.stackTraces = false) (hp : 300 ∈ NL) (hz : f_ES NL 0) (ho : 320 ∈ NL) (v gd : Int32) (h : v < 0 ∨ ¬ v < G (iS 0 20)) : Kh l yL_close wsL_close { frames := 9, cells := 1, slots := 6, locals := 200 } vwCl D K NL ad [.ref (ad 300), .int v, .int gd, .ref (ad 320)] G x (some (.int 1)) G x := by
  refine Kh.of (cc := cL_close) (maxL := 5) (ret := (some .int)) (hh := [(0, 10, 13, 20), (0, 10, 17, 15)]) (L := [some (.ref (ad 300)), some (.int v), some (.int gd), some (.ref (ad 320)), none]) hst (by decide +kernel) rfl rfl (Nat.le_of_ble_eq_true rfl) ?_
  intro p e s m args below meth c hC hX htab hr hk
  have hN := hX.2.1
  refine fk_aload_n hC dL_close_0 rfl rfl ?_
  refine fk_iconst (v := 0) hC dL_close_1 (by decide) ?_
  refine fk_aload_n hC dL_close_2 rfl rfl ?_
  refine fk_iload_n hC dL_close_3 rfl rfl ?_
  refine fk_iload_n hC dL_close_4 rfl rfl ?_
  refine fk_xcallV hC hX (tX5_close_1 l D K NL ad _ x hst hp hz _ _ h) hp (f_E300 _ _ _ _ _) rfl (cwV 2 hC.1.2.2.2.2 gL_close_X5_close rfl rfl rfl (by decide +kernel) ⟨Nat.le_of_ble_eq_true rfl, Nat.le_of_ble_eq_true rfl⟩) rfl rfl (Nat.le_of_ble_eq_true rfl) dL_close_5 ⟨Nat.le_of_ble_eq_true rfl, Nat.le_of_ble_eq_true rfl⟩ (fun H1 locs1 ls q ce a1 a2 a3 a4 a5 a6 => fk_xcatch (name := xIOB) hC [] ⟨0, 10, 13, 20⟩ [⟨0, 10, 17, 15⟩] (htab.trans rfl) (fun z hz9 => absurd hz9 List.not_mem_nil) (by decide) (by decide) (by decide +kernel) (va_Nw.use rfl hX.2.2.1.2.1.2.2) a1 a2 a3 a4 a5 a6 ?_)
  refine fk_astore hC dL_close_13 (by decide) rfl ?_
  refine fk_iconst (v := 1) hC dL_close_15 (by decide) ?_
  exact fk_iret hC hr hk dL_close_16 rfl rfl rfl
set_option maxHeartbeats 4000000 in
set_option maxRecDepth 100000 in
theorem hL_close_2 (l : Launch) (D : va_G) (K : Nat → ClassId) (NL : List Nat) (ad : Nat → Nat) (G : fM) (x : fX) (hst : l.stackTraces = false) (hp : 300 ∈ NL) (hz : f_ES NL 0) (ho : 320 ∈ NL) (hI : f_I 0 G) (k : Nat) (hk9 : k < oN 0 G) (gd : Int32) (h : G (iA 0 3000 k) = 0) : Kh l yL_close wsL_close { frames := 9, cells := 1, slots := 6, locals := 200 } vwCl D K NL ad [.ref (ad 300), .int (nI k), .int gd, .ref (ad 320)] G x (some (.int 2)) G x := by
  refine Kh.of (cc := cL_close) (maxL := 5) (ret := (some .int)) (hh := [(0, 10, 13, 20), (0, 10, 17, 15)]) (L := [some (.ref (ad 300)), some (.int (nI k)), some (.int gd), some (.ref (ad 320)), none]) hst (by decide +kernel) rfl rfl (Nat.le_of_ble_eq_true rfl) ?_
  intro p e s m args below meth c hC hX htab hr hk
  have hN := hX.2.1
  refine fk_aload_n hC dL_close_0 rfl rfl ?_
  refine fk_iconst (v := 0) hC dL_close_1 (by decide) ?_
  refine fk_aload_n hC dL_close_2 rfl rfl ?_
  refine fk_iload_n hC dL_close_3 rfl rfl ?_
  refine fk_iload_n hC dL_close_4 rfl rfl ?_
  refine fk_xcallV hC hX (tX5_close_2 l D K NL ad _ x hst hp hz hI k hk9 _ h) hp (f_E300 _ _ _ _ _) rfl (cwV 2 hC.1.2.2.2.2 gL_close_X5_close rfl rfl rfl (by decide +kernel) ⟨Nat.le_of_ble_eq_true rfl, Nat.le_of_ble_eq_true rfl⟩) rfl rfl (Nat.le_of_ble_eq_true rfl) dL_close_5 ⟨Nat.le_of_ble_eq_true rfl, Nat.le_of_ble_eq_true rfl⟩ (fun H1 locs1 ls q ce a1 a2 a3 a4 a5 a6 => fk_xcatch (name := xISE) hC [⟨0, 10, 13, 20⟩] ⟨0, 10, 17, 15⟩ [] (htab.trans rfl) (fun z hz9 => by cases List.mem_singleton.mp hz9; exact Or.inr ⟨by decide, xIOB, hC.ts (.classLink RL 20 xIOB) (by decide +kernel), hX.2.2.1.2.2.1.2.2⟩) (by decide) (by decide) (by decide +kernel) (va_Nw.use rfl hX.2.2.1.2.1.2.1) a1 a2 a3 a4 a5 a6 ?_)
  refine fk_astore hC dL_close_17 (by decide) rfl ?_
  refine fk_iconst (v := 2) hC dL_close_19 (by decide) ?_
  exact fk_iret hC hr hk dL_close_20 rfl rfl rfl
set_option maxHeartbeats 4000000 in
set_option maxRecDepth 100000 in
theorem hL_serverOf (l : Launch) (D : va_G) (K : Nat → ClassId) (NL : List Nat) (ad : Nat → Nat) (G : fM) (x : fX) (hst : l.stackTraces = false) (hp : 300 ∈ NL) (hz : f_ES NL 0) (ho : 320 ∈ NL) (hI : f_I 0 G) (k : Nat) (hk9 : k < oN 0 G) : Kh l yL_serverOf wsL_serverOf { frames := 9, cells := 1, slots := 6, locals := 200 } vwCl D K NL ad [.ref (ad 300), .int (nI k), .ref (ad 320)] G x (some (.int 0)) G (((G (iA 0 1000 k) : Int32).toInt64), x.2) := by
  refine Kh.of (cc := cL_serverOf) (maxL := 4) (ret := (some .int)) (hh := [(0, 9, 12, 20)]) (L := [some (.ref (ad 300)), some (.int (nI k)), some (.ref (ad 320)), none]) hst (by decide +kernel) rfl rfl (Nat.le_of_ble_eq_true rfl) ?_
  intro p e s m args below meth c hC hX htab hr hk
  have hN := hX.2.1
  refine fk_aload_n hC dL_serverOf_0 rfl rfl ?_
  refine fk_iconst (v := 0) hC dL_serverOf_1 (by decide) ?_
  refine fk_aload_n hC dL_serverOf_2 rfl rfl ?_
  refine fk_iload_n hC dL_serverOf_3 rfl rfl ?_
  refine fk_callV hC hN (kX5_serverOf l D K NL ad _ x hp hz hI k hk9) hp (f_E300 _ _ _ _ _) rfl (cwV 1 hC.1.2.2.2.2 gL_serverOf_X5_serverOf rfl rfl rfl (by decide +kernel) ⟨Nat.le_of_ble_eq_true rfl, Nat.le_of_ble_eq_true rfl⟩) rfl rfl (Nat.le_of_ble_eq_true rfl) dL_serverOf_4 ⟨Nat.le_of_ble_eq_true rfl, Nat.le_of_ble_eq_true rfl⟩ ?_
  refine fk_i2l hC dL_serverOf_7 rfl ?_
  refine fk_last hC ho dL_serverOf_8 ?_
  refine fk_goto (tgt := 15) hC dL_serverOf_9 (by decide) ?_
  refine fk_iconst (v := 0) hC dL_serverOf_15 (by decide) ?_
  refine fk_widen (k := 1) (n := 6) (Nat.zero_le _) (Nat.zero_le _) ?_
  exact fk_iret hC hr hk dL_serverOf_16 rfl rfl rfl
set_option maxHeartbeats 4000000 in
set_option maxRecDepth 100000 in
theorem hL_serverOf_1 (l : Launch) (D : va_G) (K : Nat → ClassId) (NL : List Nat) (ad : Nat → Nat) (G : fM) (x : fX) (hst : l.stackTraces = false) (hp : 300 ∈ NL) (hz : f_ES NL 0) (ho : 320 ∈ NL) (v : Int32) (h : v < 0 ∨ ¬ v < G (iS 0 20)) : Kh l yL_serverOf wsL_serverOf { frames := 9, cells := 1, slots := 6, locals := 200 } vwCl D K NL ad [.ref (ad 300), .int v, .ref (ad 320)] G x (some (.int 1)) G x := by
  refine Kh.of (cc := cL_serverOf) (maxL := 4) (ret := (some .int)) (hh := [(0, 9, 12, 20)]) (L := [some (.ref (ad 300)), some (.int v), some (.ref (ad 320)), none]) hst (by decide +kernel) rfl rfl (Nat.le_of_ble_eq_true rfl) ?_
  intro p e s m args below meth c hC hX htab hr hk
  have hN := hX.2.1
  refine fk_aload_n hC dL_serverOf_0 rfl rfl ?_
  refine fk_iconst (v := 0) hC dL_serverOf_1 (by decide) ?_
  refine fk_aload_n hC dL_serverOf_2 rfl rfl ?_
  refine fk_iload_n hC dL_serverOf_3 rfl rfl ?_
  refine fk_xcallV hC hX (tX5_serverOf l D K NL ad _ x hst hp hz _ h) hp (f_E300 _ _ _ _ _) rfl (cwV 1 hC.1.2.2.2.2 gL_serverOf_X5_serverOf rfl rfl rfl (by decide +kernel) ⟨Nat.le_of_ble_eq_true rfl, Nat.le_of_ble_eq_true rfl⟩) rfl rfl (Nat.le_of_ble_eq_true rfl) dL_serverOf_4 ⟨Nat.le_of_ble_eq_true rfl, Nat.le_of_ble_eq_true rfl⟩ (fun H1 locs1 ls q ce a1 a2 a3 a4 a5 a6 => fk_xcatch (name := xIOB) hC [] ⟨0, 9, 12, 20⟩ [] (htab.trans rfl) (fun z hz9 => absurd hz9 List.not_mem_nil) (by decide) (by decide) (by decide +kernel) (va_Nw.use rfl hX.2.2.1.2.1.2.2) a1 a2 a3 a4 a5 a6 ?_)
  refine fk_astore_n hC dL_serverOf_12 rfl (by decide) rfl ?_
  refine fk_iconst (v := 1) hC dL_serverOf_13 (by decide) ?_
  exact fk_iret hC hr hk dL_serverOf_14 rfl rfl rfl
set_option maxHeartbeats 4000000 in
set_option maxRecDepth 100000 in
theorem hL_isAvailable (l : Launch) (D : va_G) (K : Nat → ClassId) (NL : List Nat) (ad : Nat → Nat) (G : fM) (x : fX) (hst : l.stackTraces = false) (hp : 300 ∈ NL) (hz : f_ES NL 0) (ho : 320 ∈ NL) (hI : f_I 0 G) (i : Nat) (hi : i < cN 0 G) : Kh l yL_isAvailable wsL_isAvailable { frames := 9, cells := 1, slots := 6, locals := 200 } vwCl D K NL ad [.ref (ad 300), .int (nI i), .ref (ad 320)] G x (some (.int 0)) G ((if sV_acc 0 i G = 0 then (0 : Int64) else 1), x.2) := by
  refine Kh.of (cc := cL_isAvailable) (maxL := 4) (ret := (some .int)) (hh := [(0, 16, 19, 20)]) (L := [some (.ref (ad 300)), some (.int (nI i)), some (.ref (ad 320)), none]) hst (by decide +kernel) rfl rfl (Nat.le_of_ble_eq_true rfl) ?_
  intro p e s m args below meth c hC hX htab hr hk
  have hN := hX.2.1
  refine fk_aload_n hC dL_isAvailable_0 rfl rfl ?_
  refine fk_iconst (v := 0) hC dL_isAvailable_1 (by decide) ?_
  refine fk_aload_n hC dL_isAvailable_2 rfl rfl ?_
  refine fk_iload_n hC dL_isAvailable_3 rfl rfl ?_
  refine fk_callV hC hN (kX5_isAvailable l D K NL ad _ x hp hz hI i hi) hp (f_E300 _ _ _ _ _) rfl (cwV 1 hC.1.2.2.2.2 gL_isAvailable_X5_isAvailable rfl rfl rfl (by decide +kernel) ⟨Nat.le_of_ble_eq_true rfl, Nat.le_of_ble_eq_true rfl⟩) rfl rfl (Nat.le_of_ble_eq_true rfl) dL_isAvailable_4 ⟨Nat.le_of_ble_eq_true rfl, Nat.le_of_ble_eq_true rfl⟩ ?_
  refine fk_if_eq (tgt := 14) hC dL_isAvailable_7 (by decide) (fun c9 => ?_) (fun c9 => ?_)
  · refine fk_lconst (v := 0) hC dL_isAvailable_14 (by decide) ?_
    refine fk_last hC ho dL_isAvailable_15 ?_
    refine fk_goto (tgt := 22) hC dL_isAvailable_16 (by decide) ?_
    refine fk_iconst (v := 0) hC dL_isAvailable_22 (by decide) ?_
    refine fk_widen (k := 1) (n := 6) (Nat.zero_le _) (Nat.zero_le _) ?_
    exact fk_iret hC hr hk dL_isAvailable_23 rfl rfl (by rw [if_pos c9])
  · refine fk_lconst (v := 1) hC dL_isAvailable_10 (by decide) ?_
    refine fk_goto (tgt := 15) hC dL_isAvailable_11 (by decide) ?_
    refine fk_last hC ho dL_isAvailable_15 ?_
    refine fk_goto (tgt := 22) hC dL_isAvailable_16 (by decide) ?_
    refine fk_iconst (v := 0) hC dL_isAvailable_22 (by decide) ?_
    refine fk_widen (k := 1) (n := 6) (Nat.zero_le _) (Nat.zero_le _) ?_
    exact fk_iret hC hr hk dL_isAvailable_23 rfl rfl (by rw [if_neg c9])
set_option maxHeartbeats 4000000 in
set_option maxRecDepth 100000 in
theorem hL_isAvailable_1 (l : Launch) (D : va_G) (K : Nat → ClassId) (NL : List Nat) (ad : Nat → Nat) (G : fM) (x : fX) (hst : l.stackTraces = false) (hp : 300 ∈ NL) (hz : f_ES NL 0) (ho : 320 ∈ NL) (v : Int32) (h : v < 0 ∨ ¬ v < G (iS 0 0)) : Kh l yL_isAvailable wsL_isAvailable { frames := 9, cells := 1, slots := 6, locals := 200 } vwCl D K NL ad [.ref (ad 300), .int v, .ref (ad 320)] G x (some (.int 1)) G x := by
  refine Kh.of (cc := cL_isAvailable) (maxL := 4) (ret := (some .int)) (hh := [(0, 16, 19, 20)]) (L := [some (.ref (ad 300)), some (.int v), some (.ref (ad 320)), none]) hst (by decide +kernel) rfl rfl (Nat.le_of_ble_eq_true rfl) ?_
  intro p e s m args below meth c hC hX htab hr hk
  have hN := hX.2.1
  refine fk_aload_n hC dL_isAvailable_0 rfl rfl ?_
  refine fk_iconst (v := 0) hC dL_isAvailable_1 (by decide) ?_
  refine fk_aload_n hC dL_isAvailable_2 rfl rfl ?_
  refine fk_iload_n hC dL_isAvailable_3 rfl rfl ?_
  refine fk_xcallV hC hX (tX5_isAvailable l D K NL ad _ x hst hp hz _ h) hp (f_E300 _ _ _ _ _) rfl (cwV 1 hC.1.2.2.2.2 gL_isAvailable_X5_isAvailable rfl rfl rfl (by decide +kernel) ⟨Nat.le_of_ble_eq_true rfl, Nat.le_of_ble_eq_true rfl⟩) rfl rfl (Nat.le_of_ble_eq_true rfl) dL_isAvailable_4 ⟨Nat.le_of_ble_eq_true rfl, Nat.le_of_ble_eq_true rfl⟩ (fun H1 locs1 ls q ce a1 a2 a3 a4 a5 a6 => fk_xcatch (name := xIOB) hC [] ⟨0, 16, 19, 20⟩ [] (htab.trans rfl) (fun z hz9 => absurd hz9 List.not_mem_nil) (by decide) (by decide) (by decide +kernel) (va_Nw.use rfl hX.2.2.1.2.1.2.2) a1 a2 a3 a4 a5 a6 ?_)
  refine fk_astore_n hC dL_isAvailable_19 rfl (by decide) rfl ?_
  refine fk_iconst (v := 1) hC dL_isAvailable_20 (by decide) ?_
  exact fk_iret hC hr hk dL_isAvailable_21 rfl rfl rfl
set_option maxHeartbeats 4000000 in
set_option maxRecDepth 100000 in
theorem hL_effectiveWeight (l : Launch) (D : va_G) (K : Nat → ClassId) (NL : List Nat) (ad : Nat → Nat) (G : fM) (x : fX) (hst : l.stackTraces = false) (hp : 300 ∈ NL) (hz : f_ES NL 0) (ho : 320 ∈ NL) (hI : f_I 0 G) (i : Nat) (hi : i < cN 0 G) : Kh l yL_effectiveWeight wsL_effectiveWeight { frames := 9, cells := 1, slots := 6, locals := 200 } vwCl D K NL ad [.ref (ad 300), .int (nI i), .ref (ad 320)] G x (some (.int 0)) G (((sS_wt 0 i G : Int32).toInt64), x.2) := by
  refine Kh.of (cc := cL_effectiveWeight) (maxL := 4) (ret := (some .int)) (hh := [(0, 9, 12, 20)]) (L := [some (.ref (ad 300)), some (.int (nI i)), some (.ref (ad 320)), none]) hst (by decide +kernel) rfl rfl (Nat.le_of_ble_eq_true rfl) ?_
  intro p e s m args below meth c hC hX htab hr hk
  have hN := hX.2.1
  refine fk_aload_n hC dL_effectiveWeight_0 rfl rfl ?_
  refine fk_iconst (v := 0) hC dL_effectiveWeight_1 (by decide) ?_
  refine fk_aload_n hC dL_effectiveWeight_2 rfl rfl ?_
  refine fk_iload_n hC dL_effectiveWeight_3 rfl rfl ?_
  refine fk_callV hC hN (kX5_effectiveWeight l D K NL ad _ x hp hz hI i hi) hp (f_E300 _ _ _ _ _) rfl (cwV 1 hC.1.2.2.2.2 gL_effectiveWeight_X5_effectiveWeight rfl rfl rfl (by decide +kernel) ⟨Nat.le_of_ble_eq_true rfl, Nat.le_of_ble_eq_true rfl⟩) rfl rfl (Nat.le_of_ble_eq_true rfl) dL_effectiveWeight_4 ⟨Nat.le_of_ble_eq_true rfl, Nat.le_of_ble_eq_true rfl⟩ ?_
  refine fk_i2l hC dL_effectiveWeight_7 rfl ?_
  refine fk_last hC ho dL_effectiveWeight_8 ?_
  refine fk_goto (tgt := 15) hC dL_effectiveWeight_9 (by decide) ?_
  refine fk_iconst (v := 0) hC dL_effectiveWeight_15 (by decide) ?_
  refine fk_widen (k := 1) (n := 6) (Nat.zero_le _) (Nat.zero_le _) ?_
  exact fk_iret hC hr hk dL_effectiveWeight_16 rfl rfl rfl
set_option maxHeartbeats 4000000 in
set_option maxRecDepth 100000 in
theorem hL_effectiveWeight_1 (l : Launch) (D : va_G) (K : Nat → ClassId) (NL : List Nat) (ad : Nat → Nat) (G : fM) (x : fX) (hst : l.stackTraces = false) (hp : 300 ∈ NL) (hz : f_ES NL 0) (ho : 320 ∈ NL) (v : Int32) (h : v < 0 ∨ ¬ v < G (iS 0 0)) : Kh l yL_effectiveWeight wsL_effectiveWeight { frames := 9, cells := 1, slots := 6, locals := 200 } vwCl D K NL ad [.ref (ad 300), .int v, .ref (ad 320)] G x (some (.int 1)) G x := by
  refine Kh.of (cc := cL_effectiveWeight) (maxL := 4) (ret := (some .int)) (hh := [(0, 9, 12, 20)]) (L := [some (.ref (ad 300)), some (.int v), some (.ref (ad 320)), none]) hst (by decide +kernel) rfl rfl (Nat.le_of_ble_eq_true rfl) ?_
  intro p e s m args below meth c hC hX htab hr hk
  have hN := hX.2.1
  refine fk_aload_n hC dL_effectiveWeight_0 rfl rfl ?_
  refine fk_iconst (v := 0) hC dL_effectiveWeight_1 (by decide) ?_
  refine fk_aload_n hC dL_effectiveWeight_2 rfl rfl ?_
  refine fk_iload_n hC dL_effectiveWeight_3 rfl rfl ?_
  refine fk_xcallV hC hX (tX5_effectiveWeight l D K NL ad _ x hst hp hz _ h) hp (f_E300 _ _ _ _ _) rfl (cwV 1 hC.1.2.2.2.2 gL_effectiveWeight_X5_effectiveWeight rfl rfl rfl (by decide +kernel) ⟨Nat.le_of_ble_eq_true rfl, Nat.le_of_ble_eq_true rfl⟩) rfl rfl (Nat.le_of_ble_eq_true rfl) dL_effectiveWeight_4 ⟨Nat.le_of_ble_eq_true rfl, Nat.le_of_ble_eq_true rfl⟩ (fun H1 locs1 ls q ce a1 a2 a3 a4 a5 a6 => fk_xcatch (name := xIOB) hC [] ⟨0, 9, 12, 20⟩ [] (htab.trans rfl) (fun z hz9 => absurd hz9 List.not_mem_nil) (by decide) (by decide) (by decide +kernel) (va_Nw.use rfl hX.2.2.1.2.1.2.2) a1 a2 a3 a4 a5 a6 ?_)
  refine fk_astore_n hC dL_effectiveWeight_12 rfl (by decide) rfl ?_
  refine fk_iconst (v := 1) hC dL_effectiveWeight_13 (by decide) ?_
  exact fk_iret hC hr hk dL_effectiveWeight_14 rfl rfl rfl
set_option maxHeartbeats 4000000 in
set_option maxRecDepth 100000 in
theorem hL_active (l : Launch) (D : va_G) (K : Nat → ClassId) (NL : List Nat) (ad : Nat → Nat) (G : fM) (x : fX) (hst : l.stackTraces = false) (hp : 300 ∈ NL) (hz : f_ES NL 0) (ho : 320 ∈ NL) (hI : f_I 0 G) (i : Nat) (hi : i < cN 0 G) : Kh l yL_active wsL_active { frames := 9, cells := 1, slots := 6, locals := 200 } vwCl D K NL ad [.ref (ad 300), .int (nI i), .ref (ad 320)] G x (some (.int 0)) G (((G (iV 0 i 2) : Int32).toInt64), x.2) := by
  refine Kh.of (cc := cL_active) (maxL := 4) (ret := (some .int)) (hh := [(0, 9, 12, 20)]) (L := [some (.ref (ad 300)), some (.int (nI i)), some (.ref (ad 320)), none]) hst (by decide +kernel) rfl rfl (Nat.le_of_ble_eq_true rfl) ?_
  intro p e s m args below meth c hC hX htab hr hk
  have hN := hX.2.1
  refine fk_aload_n hC dL_active_0 rfl rfl ?_
  refine fk_iconst (v := 0) hC dL_active_1 (by decide) ?_
  refine fk_aload_n hC dL_active_2 rfl rfl ?_
  refine fk_iload_n hC dL_active_3 rfl rfl ?_
  refine fk_callV hC hN (kX5_active l D K NL ad _ x hp hz hI i hi) hp (f_E300 _ _ _ _ _) rfl (cwV 1 hC.1.2.2.2.2 gL_active_X5_active rfl rfl rfl (by decide +kernel) ⟨Nat.le_of_ble_eq_true rfl, Nat.le_of_ble_eq_true rfl⟩) rfl rfl (Nat.le_of_ble_eq_true rfl) dL_active_4 ⟨Nat.le_of_ble_eq_true rfl, Nat.le_of_ble_eq_true rfl⟩ ?_
  refine fk_i2l hC dL_active_7 rfl ?_
  refine fk_last hC ho dL_active_8 ?_
  refine fk_goto (tgt := 15) hC dL_active_9 (by decide) ?_
  refine fk_iconst (v := 0) hC dL_active_15 (by decide) ?_
  refine fk_widen (k := 1) (n := 6) (Nat.zero_le _) (Nat.zero_le _) ?_
  exact fk_iret hC hr hk dL_active_16 rfl rfl rfl
set_option maxHeartbeats 4000000 in
set_option maxRecDepth 100000 in
theorem hL_active_1 (l : Launch) (D : va_G) (K : Nat → ClassId) (NL : List Nat) (ad : Nat → Nat) (G : fM) (x : fX) (hst : l.stackTraces = false) (hp : 300 ∈ NL) (hz : f_ES NL 0) (ho : 320 ∈ NL) (v : Int32) (h : v < 0 ∨ ¬ v < G (iS 0 0)) : Kh l yL_active wsL_active { frames := 9, cells := 1, slots := 6, locals := 200 } vwCl D K NL ad [.ref (ad 300), .int v, .ref (ad 320)] G x (some (.int 1)) G x := by
  refine Kh.of (cc := cL_active) (maxL := 4) (ret := (some .int)) (hh := [(0, 9, 12, 20)]) (L := [some (.ref (ad 300)), some (.int v), some (.ref (ad 320)), none]) hst (by decide +kernel) rfl rfl (Nat.le_of_ble_eq_true rfl) ?_
  intro p e s m args below meth c hC hX htab hr hk
  have hN := hX.2.1
  refine fk_aload_n hC dL_active_0 rfl rfl ?_
  refine fk_iconst (v := 0) hC dL_active_1 (by decide) ?_
  refine fk_aload_n hC dL_active_2 rfl rfl ?_
  refine fk_iload_n hC dL_active_3 rfl rfl ?_
  refine fk_xcallV hC hX (tX5_active l D K NL ad _ x hst hp hz _ h) hp (f_E300 _ _ _ _ _) rfl (cwV 1 hC.1.2.2.2.2 gL_active_X5_active rfl rfl rfl (by decide +kernel) ⟨Nat.le_of_ble_eq_true rfl, Nat.le_of_ble_eq_true rfl⟩) rfl rfl (Nat.le_of_ble_eq_true rfl) dL_active_4 ⟨Nat.le_of_ble_eq_true rfl, Nat.le_of_ble_eq_true rfl⟩ (fun H1 locs1 ls q ce a1 a2 a3 a4 a5 a6 => fk_xcatch (name := xIOB) hC [] ⟨0, 9, 12, 20⟩ [] (htab.trans rfl) (fun z hz9 => absurd hz9 List.not_mem_nil) (by decide) (by decide) (by decide +kernel) (va_Nw.use rfl hX.2.2.1.2.1.2.2) a1 a2 a3 a4 a5 a6 ?_)
  refine fk_astore_n hC dL_active_12 rfl (by decide) rfl ?_
  refine fk_iconst (v := 1) hC dL_active_13 (by decide) ?_
  exact fk_iret hC hr hk dL_active_14 rfl rfl rfl
set_option maxHeartbeats 4000000 in
set_option maxRecDepth 100000 in
theorem hL_breaker (l : Launch) (D : va_G) (K : Nat → ClassId) (NL : List Nat) (ad : Nat → Nat) (G : fM) (x : fX) (hst : l.stackTraces = false) (hp : 300 ∈ NL) (hz : f_ES NL 0) (ho : 320 ∈ NL) (hI : f_I 0 G) (i : Nat) (hi : i < cN 0 G) : Kh l yL_breaker wsL_breaker { frames := 9, cells := 1, slots := 6, locals := 200 } vwCl D K NL ad [.ref (ad 300), .int (nI i), .ref (ad 320)] G x (some (.int 0)) G (((G (iB 0 i 0) : Int32).toInt64), x.2) := by
  refine Kh.of (cc := cL_breaker) (maxL := 4) (ret := (some .int)) (hh := [(0, 9, 12, 20)]) (L := [some (.ref (ad 300)), some (.int (nI i)), some (.ref (ad 320)), none]) hst (by decide +kernel) rfl rfl (Nat.le_of_ble_eq_true rfl) ?_
  intro p e s m args below meth c hC hX htab hr hk
  have hN := hX.2.1
  refine fk_aload_n hC dL_breaker_0 rfl rfl ?_
  refine fk_iconst (v := 0) hC dL_breaker_1 (by decide) ?_
  refine fk_aload_n hC dL_breaker_2 rfl rfl ?_
  refine fk_iload_n hC dL_breaker_3 rfl rfl ?_
  refine fk_callV hC hN (kX5_breaker l D K NL ad _ x hp hz hI i hi) hp (f_E300 _ _ _ _ _) rfl (cwV 1 hC.1.2.2.2.2 gL_breaker_X5_breaker rfl rfl rfl (by decide +kernel) ⟨Nat.le_of_ble_eq_true rfl, Nat.le_of_ble_eq_true rfl⟩) rfl rfl (Nat.le_of_ble_eq_true rfl) dL_breaker_4 ⟨Nat.le_of_ble_eq_true rfl, Nat.le_of_ble_eq_true rfl⟩ ?_
  refine fk_i2l hC dL_breaker_7 rfl ?_
  refine fk_last hC ho dL_breaker_8 ?_
  refine fk_goto (tgt := 15) hC dL_breaker_9 (by decide) ?_
  refine fk_iconst (v := 0) hC dL_breaker_15 (by decide) ?_
  refine fk_widen (k := 1) (n := 6) (Nat.zero_le _) (Nat.zero_le _) ?_
  exact fk_iret hC hr hk dL_breaker_16 rfl rfl rfl
set_option maxHeartbeats 4000000 in
set_option maxRecDepth 100000 in
theorem hL_breaker_1 (l : Launch) (D : va_G) (K : Nat → ClassId) (NL : List Nat) (ad : Nat → Nat) (G : fM) (x : fX) (hst : l.stackTraces = false) (hp : 300 ∈ NL) (hz : f_ES NL 0) (ho : 320 ∈ NL) (v : Int32) (h : v < 0 ∨ ¬ v < G (iS 0 0)) : Kh l yL_breaker wsL_breaker { frames := 9, cells := 1, slots := 6, locals := 200 } vwCl D K NL ad [.ref (ad 300), .int v, .ref (ad 320)] G x (some (.int 1)) G x := by
  refine Kh.of (cc := cL_breaker) (maxL := 4) (ret := (some .int)) (hh := [(0, 9, 12, 20)]) (L := [some (.ref (ad 300)), some (.int v), some (.ref (ad 320)), none]) hst (by decide +kernel) rfl rfl (Nat.le_of_ble_eq_true rfl) ?_
  intro p e s m args below meth c hC hX htab hr hk
  have hN := hX.2.1
  refine fk_aload_n hC dL_breaker_0 rfl rfl ?_
  refine fk_iconst (v := 0) hC dL_breaker_1 (by decide) ?_
  refine fk_aload_n hC dL_breaker_2 rfl rfl ?_
  refine fk_iload_n hC dL_breaker_3 rfl rfl ?_
  refine fk_xcallV hC hX (tX5_breaker l D K NL ad _ x hst hp hz _ h) hp (f_E300 _ _ _ _ _) rfl (cwV 1 hC.1.2.2.2.2 gL_breaker_X5_breaker rfl rfl rfl (by decide +kernel) ⟨Nat.le_of_ble_eq_true rfl, Nat.le_of_ble_eq_true rfl⟩) rfl rfl (Nat.le_of_ble_eq_true rfl) dL_breaker_4 ⟨Nat.le_of_ble_eq_true rfl, Nat.le_of_ble_eq_true rfl⟩ (fun H1 locs1 ls q ce a1 a2 a3 a4 a5 a6 => fk_xcatch (name := xIOB) hC [] ⟨0, 9, 12, 20⟩ [] (htab.trans rfl) (fun z hz9 => absurd hz9 List.not_mem_nil) (by decide) (by decide) (by decide +kernel) (va_Nw.use rfl hX.2.2.1.2.1.2.2) a1 a2 a3 a4 a5 a6 ?_)
  refine fk_astore_n hC dL_breaker_12 rfl (by decide) rfl ?_
  refine fk_iconst (v := 1) hC dL_breaker_13 (by decide) ?_
  exact fk_iret hC hr hk dL_breaker_14 rfl rfl rfl
set_option maxHeartbeats 4000000 in
set_option maxRecDepth 100000 in
theorem hL_utilization (l : Launch) (D : va_G) (K : Nat → ClassId) (NL : List Nat) (ad : Nat → Nat) (G : fM) (x : fX) (hst : l.stackTraces = false) (hp : 300 ∈ NL) (hz : f_ES NL 0) (ho : 321 ∈ NL) (hok : f_OK NL) (hI : f_I 0 G) (i : Nat) (hi : i < cN 0 G) (hnan : vf_n64 (FP.ddiv (FP.i2d (G (iV 0 i 2))) (FP.i2d (G (iV 0 i 1))))) : Kh l yL_utilization wsL_utilization { frames := 9, cells := 1, slots := 6, locals := 200 } vwCl D K NL ad [.ref (ad 300), .int (nI i), .ref (ad 321)] G x (some (.int 0)) G (x.1, FP.ddiv (FP.i2d (G (iV 0 i 2))) (FP.i2d (G (iV 0 i 1)))) := by
  refine Kh.of (cc := cL_utilization) (maxL := 4) (ret := (some .int)) (hh := [(0, 8, 11, 20)]) (L := [some (.ref (ad 300)), some (.int (nI i)), some (.ref (ad 321)), none]) hst (by decide +kernel) rfl rfl (Nat.le_of_ble_eq_true rfl) ?_
  intro p e s m args below meth c hC hX htab hr hk
  have hN := hX.2.1
  refine fk_aload_n hC dL_utilization_0 rfl rfl ?_
  refine fk_iconst (v := 0) hC dL_utilization_1 (by decide) ?_
  refine fk_aload_n hC dL_utilization_2 rfl rfl ?_
  refine fk_iload_n hC dL_utilization_3 rfl rfl ?_
  refine fk_callV hC hN (kX5_utilization l D K NL ad _ x hp hz hI i hi hnan) hp (f_E300 _ _ _ _ _) rfl (cwV 1 hC.1.2.2.2.2 gL_utilization_X5_utilization rfl rfl rfl (by decide +kernel) ⟨Nat.le_of_ble_eq_true rfl, Nat.le_of_ble_eq_true rfl⟩) rfl rfl (Nat.le_of_ble_eq_true rfl) dL_utilization_4 ⟨Nat.le_of_ble_eq_true rfl, Nat.le_of_ble_eq_true rfl⟩ ?_
  refine fk_dast hC hok ho dL_utilization_7 ?_
  refine fk_goto (tgt := 14) hC dL_utilization_8 (by decide) ?_
  refine fk_iconst (v := 0) hC dL_utilization_14 (by decide) ?_
  refine fk_widen (k := 1) (n := 6) (Nat.zero_le _) (Nat.zero_le _) ?_
  exact fk_iret hC hr hk dL_utilization_15 rfl rfl rfl
set_option maxHeartbeats 4000000 in
set_option maxRecDepth 100000 in
theorem hL_utilization_1 (l : Launch) (D : va_G) (K : Nat → ClassId) (NL : List Nat) (ad : Nat → Nat) (G : fM) (x : fX) (hst : l.stackTraces = false) (hp : 300 ∈ NL) (hz : f_ES NL 0) (ho : 321 ∈ NL) (hok : f_OK NL) (v : Int32) (h : v < 0 ∨ ¬ v < G (iS 0 0)) : Kh l yL_utilization wsL_utilization { frames := 9, cells := 1, slots := 6, locals := 200 } vwCl D K NL ad [.ref (ad 300), .int v, .ref (ad 321)] G x (some (.int 1)) G x := by
  refine Kh.of (cc := cL_utilization) (maxL := 4) (ret := (some .int)) (hh := [(0, 8, 11, 20)]) (L := [some (.ref (ad 300)), some (.int v), some (.ref (ad 321)), none]) hst (by decide +kernel) rfl rfl (Nat.le_of_ble_eq_true rfl) ?_
  intro p e s m args below meth c hC hX htab hr hk
  have hN := hX.2.1
  refine fk_aload_n hC dL_utilization_0 rfl rfl ?_
  refine fk_iconst (v := 0) hC dL_utilization_1 (by decide) ?_
  refine fk_aload_n hC dL_utilization_2 rfl rfl ?_
  refine fk_iload_n hC dL_utilization_3 rfl rfl ?_
  refine fk_xcallV hC hX (tX5_utilization l D K NL ad _ x hst hp hz _ h) hp (f_E300 _ _ _ _ _) rfl (cwV 1 hC.1.2.2.2.2 gL_utilization_X5_utilization rfl rfl rfl (by decide +kernel) ⟨Nat.le_of_ble_eq_true rfl, Nat.le_of_ble_eq_true rfl⟩) rfl rfl (Nat.le_of_ble_eq_true rfl) dL_utilization_4 ⟨Nat.le_of_ble_eq_true rfl, Nat.le_of_ble_eq_true rfl⟩ (fun H1 locs1 ls q ce a1 a2 a3 a4 a5 a6 => fk_xcatch (name := xIOB) hC [] ⟨0, 8, 11, 20⟩ [] (htab.trans rfl) (fun z hz9 => absurd hz9 List.not_mem_nil) (by decide) (by decide) (by decide +kernel) (va_Nw.use rfl hX.2.2.1.2.1.2.2) a1 a2 a3 a4 a5 a6 ?_)
  refine fk_astore_n hC dL_utilization_11 rfl (by decide) rfl ?_
  refine fk_iconst (v := 1) hC dL_utilization_12 (by decide) ?_
  exact fk_iret hC hr hk dL_utilization_13 rfl rfl rfl
set_option maxHeartbeats 4000000 in
set_option maxRecDepth 100000 in
theorem hL_owner (l : Launch) (D : va_G) (K : Nat → ClassId) (NL : List Nat) (ad : Nat → Nat) (G : fM) (x : fX) (hst : l.stackTraces = false) (hp : 300 ∈ NL) (hz : f_ES NL 0) (ho : 320 ∈ NL) (hI : f_I 0 G) (cl : Int32) (h : ¬ G (iS 0 0) = 0) : Kh l yL_owner wsL_owner { frames := 9, cells := 1, slots := 6, locals := 200 } vwCl D K NL ad [.ref (ad 300), .int cl, .ref (ad 320)] G x (some (.int 0)) G (((rI (sS_rg 0 cl 0 G) : Int32).toInt64), x.2) := by
  refine Kh.of (cc := cL_owner) (maxL := 4) (ret := (some .int)) (hh := [(0, 9, 12, 15)]) (L := [some (.ref (ad 300)), some (.int cl), some (.ref (ad 320)), none]) hst (by decide +kernel) rfl rfl (Nat.le_of_ble_eq_true rfl) ?_
  intro p e s m args below meth c hC hX htab hr hk
  have hN := hX.2.1
  refine fk_aload_n hC dL_owner_0 rfl rfl ?_
  refine fk_iconst (v := 0) hC dL_owner_1 (by decide) ?_
  refine fk_aload_n hC dL_owner_2 rfl rfl ?_
  refine fk_iload_n hC dL_owner_3 rfl rfl ?_
  refine fk_callV hC hN (kX5_owner l D K NL ad _ x hp hz hI _ h) hp (f_E300 _ _ _ _ _) rfl (cwV 1 hC.1.2.2.2.2 gL_owner_X5_owner rfl rfl rfl (by decide +kernel) ⟨Nat.le_of_ble_eq_true rfl, Nat.le_of_ble_eq_true rfl⟩) rfl rfl (Nat.le_of_ble_eq_true rfl) dL_owner_4 ⟨Nat.le_of_ble_eq_true rfl, Nat.le_of_ble_eq_true rfl⟩ ?_
  refine fk_i2l hC dL_owner_7 rfl ?_
  refine fk_last hC ho dL_owner_8 ?_
  refine fk_goto (tgt := 15) hC dL_owner_9 (by decide) ?_
  refine fk_iconst (v := 0) hC dL_owner_15 (by decide) ?_
  refine fk_widen (k := 1) (n := 6) (Nat.zero_le _) (Nat.zero_le _) ?_
  exact fk_iret hC hr hk dL_owner_16 rfl rfl rfl
set_option maxHeartbeats 4000000 in
set_option maxRecDepth 100000 in
theorem hL_owner_1 (l : Launch) (D : va_G) (K : Nat → ClassId) (NL : List Nat) (ad : Nat → Nat) (G : fM) (x : fX) (hst : l.stackTraces = false) (hp : 300 ∈ NL) (hz : f_ES NL 0) (ho : 320 ∈ NL) (cl : Int32) (h : G (iS 0 0) = 0) : Kh l yL_owner wsL_owner { frames := 9, cells := 1, slots := 6, locals := 200 } vwCl D K NL ad [.ref (ad 300), .int cl, .ref (ad 320)] G x (some (.int 1)) G x := by
  refine Kh.of (cc := cL_owner) (maxL := 4) (ret := (some .int)) (hh := [(0, 9, 12, 15)]) (L := [some (.ref (ad 300)), some (.int cl), some (.ref (ad 320)), none]) hst (by decide +kernel) rfl rfl (Nat.le_of_ble_eq_true rfl) ?_
  intro p e s m args below meth c hC hX htab hr hk
  have hN := hX.2.1
  refine fk_aload_n hC dL_owner_0 rfl rfl ?_
  refine fk_iconst (v := 0) hC dL_owner_1 (by decide) ?_
  refine fk_aload_n hC dL_owner_2 rfl rfl ?_
  refine fk_iload_n hC dL_owner_3 rfl rfl ?_
  refine fk_xcallV hC hX (tX5_owner l D K NL ad _ x hst hp hz _ h) hp (f_E300 _ _ _ _ _) rfl (cwV 1 hC.1.2.2.2.2 gL_owner_X5_owner rfl rfl rfl (by decide +kernel) ⟨Nat.le_of_ble_eq_true rfl, Nat.le_of_ble_eq_true rfl⟩) rfl rfl (Nat.le_of_ble_eq_true rfl) dL_owner_4 ⟨Nat.le_of_ble_eq_true rfl, Nat.le_of_ble_eq_true rfl⟩ (fun H1 locs1 ls q ce a1 a2 a3 a4 a5 a6 => fk_xcatch (name := xISE) hC [] ⟨0, 9, 12, 15⟩ [] (htab.trans rfl) (fun z hz9 => absurd hz9 List.not_mem_nil) (by decide) (by decide) (by decide +kernel) (va_Nw.use rfl hX.2.2.1.2.1.2.1) a1 a2 a3 a4 a5 a6 ?_)
  refine fk_astore_n hC dL_owner_12 rfl (by decide) rfl ?_
  refine fk_iconst (v := 1) hC dL_owner_13 (by decide) ?_
  exact fk_iret hC hr hk dL_owner_14 rfl rfl rfl
set_option maxHeartbeats 4000000 in
set_option maxRecDepth 100000 in
theorem hL_count (l : Launch) (D : va_G) (K : Nat → ClassId) (NL : List Nat) (ad : Nat → Nat) (G : fM) (x : fX) (hst : l.stackTraces = false) (hp : 300 ∈ NL) (hz : f_ES NL 0) (ho : 320 ∈ NL) (hI : f_I 0 G) (a : Int32) (h : ¬ (a.toInt < 0 ∨ 4 < a.toInt)) : Kh l yL_count wsL_count { frames := 9, cells := 1, slots := 6, locals := 200 } vwCl D K NL ad [.ref (ad 300), .int a, .ref (ad 320)] G x (some (.int 0)) G (((sP_cnt a G : Int32).toInt64), x.2) := by
  refine Kh.of (cc := cL_count) (maxL := 4) (ret := (some .int)) (hh := [(0, 9, 12, 13)]) (L := [some (.ref (ad 300)), some (.int a), some (.ref (ad 320)), none]) hst (by decide +kernel) rfl rfl (Nat.le_of_ble_eq_true rfl) ?_
  intro p e s m args below meth c hC hX htab hr hk
  have hN := hX.2.1
  refine fk_aload_n hC dL_count_0 rfl rfl ?_
  refine fk_iconst (v := 0) hC dL_count_1 (by decide) ?_
  refine fk_aload_n hC dL_count_2 rfl rfl ?_
  refine fk_iload_n hC dL_count_3 rfl rfl ?_
  refine fk_callV hC hN (kX5_count l D K NL ad _ x hp hz hI _ h) hp (f_E300 _ _ _ _ _) rfl (cwV 1 hC.1.2.2.2.2 gL_count_X5_count rfl rfl rfl (by decide +kernel) ⟨Nat.le_of_ble_eq_true rfl, Nat.le_of_ble_eq_true rfl⟩) rfl rfl (Nat.le_of_ble_eq_true rfl) dL_count_4 ⟨Nat.le_of_ble_eq_true rfl, Nat.le_of_ble_eq_true rfl⟩ ?_
  refine fk_i2l hC dL_count_7 rfl ?_
  refine fk_last hC ho dL_count_8 ?_
  refine fk_goto (tgt := 15) hC dL_count_9 (by decide) ?_
  refine fk_iconst (v := 0) hC dL_count_15 (by decide) ?_
  refine fk_widen (k := 1) (n := 6) (Nat.zero_le _) (Nat.zero_le _) ?_
  exact fk_iret hC hr hk dL_count_16 rfl rfl rfl
set_option maxHeartbeats 4000000 in
set_option maxRecDepth 100000 in
theorem hL_count_1 (l : Launch) (D : va_G) (K : Nat → ClassId) (NL : List Nat) (ad : Nat → Nat) (G : fM) (x : fX) (hst : l.stackTraces = false) (hp : 300 ∈ NL) (hz : f_ES NL 0) (ho : 320 ∈ NL) (a : Int32) (h : a.toInt < 0 ∨ 4 < a.toInt) : Kh l yL_count wsL_count { frames := 9, cells := 1, slots := 6, locals := 200 } vwCl D K NL ad [.ref (ad 300), .int a, .ref (ad 320)] G x (some (.int 1)) G x := by
  refine Kh.of (cc := cL_count) (maxL := 4) (ret := (some .int)) (hh := [(0, 9, 12, 13)]) (L := [some (.ref (ad 300)), some (.int a), some (.ref (ad 320)), none]) hst (by decide +kernel) rfl rfl (Nat.le_of_ble_eq_true rfl) ?_
  intro p e s m args below meth c hC hX htab hr hk
  have hN := hX.2.1
  refine fk_aload_n hC dL_count_0 rfl rfl ?_
  refine fk_iconst (v := 0) hC dL_count_1 (by decide) ?_
  refine fk_aload_n hC dL_count_2 rfl rfl ?_
  refine fk_iload_n hC dL_count_3 rfl rfl ?_
  refine fk_xcallV hC hX (tX5_count l D K NL ad _ x hst hp hz _ h) hp (f_E300 _ _ _ _ _) rfl (cwV 1 hC.1.2.2.2.2 gL_count_X5_count rfl rfl rfl (by decide +kernel) ⟨Nat.le_of_ble_eq_true rfl, Nat.le_of_ble_eq_true rfl⟩) rfl rfl (Nat.le_of_ble_eq_true rfl) dL_count_4 ⟨Nat.le_of_ble_eq_true rfl, Nat.le_of_ble_eq_true rfl⟩ (fun H1 locs1 ls q ce a1 a2 a3 a4 a5 a6 => fk_xcatch (name := xIAE) hC [] ⟨0, 9, 12, 13⟩ [] (htab.trans rfl) (fun z hz9 => absurd hz9 List.not_mem_nil) (by decide) (by decide) (by decide +kernel) (va_Nw.use rfl hX.2.2.1.2.1.1) a1 a2 a3 a4 a5 a6 ?_)
  refine fk_astore_n hC dL_count_12 rfl (by decide) rfl ?_
  refine fk_iconst (v := 1) hC dL_count_13 (by decide) ?_
  exact fk_iret hC hr hk dL_count_14 rfl rfl rfl
set_option maxHeartbeats 4000000 in
set_option maxRecDepth 100000 in
theorem hL_save (l : Launch) (D : va_G) (K : Nat → ClassId) (NL : List Nat) (ad : Nat → Nat) (G : fM) (x : fX) (hst : l.stackTraces = false) (hp : 300 ∈ NL) (hz : f_ES NL 0) (h1 : 301 ∈ NL) (t : Nat) (ht : t < 2) (hs : f_ES NL (t + 1)) (hI : f_I 0 G) (hb : ∀ i, i < cN 0 G → (G (iV 0 i 4) = 0 ∨ G (iV 0 i 4) = 1) ∧ (G (iV 0 i 5) = 0 ∨ G (iV 0 i 5) = 1) ∧ (G (iV 0 i 7) = 0 ∨ G (iV 0 i 7) = 1)) (hl : ∀ j, j < oN 0 G → G (iA 0 3000 j) = 0 ∨ G (iA 0 3000 j) = 1) : Kh l yL_save wsL_save { frames := 9, cells := 1, slots := 6, locals := 200 } vwCl D K NL ad [.ref (ad 300), .int (nI t)] G x (some (.int 0)) (sS_copy (t + 1) 0 G) x := by
  refine Kh.of (cc := cL_save) (maxL := 3) (ret := (some .int)) (hh := [(0, 5, 8, 13)]) (L := [some (.ref (ad 300)), some (.int (nI t)), none]) hst (by decide +kernel) rfl rfl (Nat.le_of_ble_eq_true rfl) ?_
  intro p e s m args below meth c hC hX htab hr hk
  have hN := hX.2.1
  refine fk_aload_n hC dL_save_0 rfl rfl ?_
  refine fk_iload_n hC dL_save_1 rfl rfl ?_
  refine fk_callV hC hN (kX5_save l D K NL ad _ x hp hz h1 t ht hs hI hb hl) hp (f_E300 _ _ _ _ _) rfl (cwV 1 hC.1.2.2.2.2 gL_save_X5_save rfl rfl rfl (by decide +kernel) ⟨Nat.le_of_ble_eq_true rfl, Nat.le_of_ble_eq_true rfl⟩) rfl rfl (Nat.le_of_ble_eq_true rfl) dL_save_2 ⟨Nat.le_of_ble_eq_true rfl, Nat.le_of_ble_eq_true rfl⟩ ?_
  refine fk_goto (tgt := 11) hC dL_save_5 (by decide) ?_
  refine fk_iconst (v := 0) hC dL_save_11 (by decide) ?_
  refine fk_widen (k := 1) (n := 6) (Nat.zero_le _) (Nat.zero_le _) ?_
  exact fk_iret hC hr hk dL_save_12 rfl rfl rfl
set_option maxHeartbeats 4000000 in
set_option maxRecDepth 100000 in
theorem hL_save_1 (l : Launch) (D : va_G) (K : Nat → ClassId) (NL : List Nat) (ad : Nat → Nat) (G : fM) (x : fX) (hst : l.stackTraces = false) (hp : 300 ∈ NL) (hz : f_ES NL 0) (v : Int32) (h : ¬ rng v 0 1) : Kh l yL_save wsL_save { frames := 9, cells := 1, slots := 6, locals := 200 } vwCl D K NL ad [.ref (ad 300), .int v] G x (some (.int 1)) G x := by
  refine Kh.of (cc := cL_save) (maxL := 3) (ret := (some .int)) (hh := [(0, 5, 8, 13)]) (L := [some (.ref (ad 300)), some (.int v), none]) hst (by decide +kernel) rfl rfl (Nat.le_of_ble_eq_true rfl) ?_
  intro p e s m args below meth c hC hX htab hr hk
  have hN := hX.2.1
  refine fk_aload_n hC dL_save_0 rfl rfl ?_
  refine fk_iload_n hC dL_save_1 rfl rfl ?_
  refine fk_xcallV hC hX (tX5_save l D K NL ad _ x hst hp hz _ h) hp (f_E300 _ _ _ _ _) rfl (cwV 1 hC.1.2.2.2.2 gL_save_X5_save rfl rfl rfl (by decide +kernel) ⟨Nat.le_of_ble_eq_true rfl, Nat.le_of_ble_eq_true rfl⟩) rfl rfl (Nat.le_of_ble_eq_true rfl) dL_save_2 ⟨Nat.le_of_ble_eq_true rfl, Nat.le_of_ble_eq_true rfl⟩ (fun H1 locs1 ls q ce a1 a2 a3 a4 a5 a6 => fk_xcatch (name := xIAE) hC [] ⟨0, 5, 8, 13⟩ [] (htab.trans rfl) (fun z hz9 => absurd hz9 List.not_mem_nil) (by decide) (by decide) (by decide +kernel) (va_Nw.use rfl hX.2.2.1.2.1.1) a1 a2 a3 a4 a5 a6 ?_)
  refine fk_astore_n hC dL_save_8 rfl (by decide) rfl ?_
  refine fk_iconst (v := 1) hC dL_save_9 (by decide) ?_
  exact fk_iret hC hr hk dL_save_10 rfl rfl rfl
set_option maxHeartbeats 4000000 in
set_option maxRecDepth 100000 in
theorem hL_restore (l : Launch) (D : va_G) (K : Nat → ClassId) (NL : List Nat) (ad : Nat → Nat) (G : fM) (x : fX) (hst : l.stackTraces = false) (hp : 300 ∈ NL) (hz : f_ES NL 0) (h1 : 301 ∈ NL) (t : Nat) (ht : t < 2) (hs : f_ES NL (t + 1)) (hI : f_I (t + 1) G) (hb : ∀ i, i < cN (t + 1) G → (G (iV (t + 1) i 4) = 0 ∨ G (iV (t + 1) i 4) = 1) ∧ (G (iV (t + 1) i 5) = 0 ∨ G (iV (t + 1) i 5) = 1) ∧ (G (iV (t + 1) i 7) = 0 ∨ G (iV (t + 1) i 7) = 1)) (hl : ∀ j, j < oN (t + 1) G → G (iA (t + 1) 3000 j) = 0 ∨ G (iA (t + 1) 3000 j) = 1) : Kh l yL_restore wsL_restore { frames := 9, cells := 1, slots := 6, locals := 200 } vwCl D K NL ad [.ref (ad 300), .int (nI t)] G x (some (.int 0)) (sS_copy 0 (t + 1) G) x := by
  refine Kh.of (cc := cL_restore) (maxL := 3) (ret := (some .int)) (hh := [(0, 5, 8, 13), (0, 5, 11, 15)]) (L := [some (.ref (ad 300)), some (.int (nI t)), none]) hst (by decide +kernel) rfl rfl (Nat.le_of_ble_eq_true rfl) ?_
  intro p e s m args below meth c hC hX htab hr hk
  have hN := hX.2.1
  refine fk_aload_n hC dL_restore_0 rfl rfl ?_
  refine fk_iload_n hC dL_restore_1 rfl rfl ?_
  refine fk_callV hC hN (kX5_restore l D K NL ad _ x hp hz h1 t ht hs hI hb hl) hp (f_E300 _ _ _ _ _) rfl (cwV 1 hC.1.2.2.2.2 gL_restore_X5_restore rfl rfl rfl (by decide +kernel) ⟨Nat.le_of_ble_eq_true rfl, Nat.le_of_ble_eq_true rfl⟩) rfl rfl (Nat.le_of_ble_eq_true rfl) dL_restore_2 ⟨Nat.le_of_ble_eq_true rfl, Nat.le_of_ble_eq_true rfl⟩ ?_
  refine fk_goto (tgt := 14) hC dL_restore_5 (by decide) ?_
  refine fk_iconst (v := 0) hC dL_restore_14 (by decide) ?_
  refine fk_widen (k := 1) (n := 6) (Nat.zero_le _) (Nat.zero_le _) ?_
  exact fk_iret hC hr hk dL_restore_15 rfl rfl rfl
set_option maxHeartbeats 4000000 in
set_option maxRecDepth 100000 in
theorem hL_restore_1 (l : Launch) (D : va_G) (K : Nat → ClassId) (NL : List Nat) (ad : Nat → Nat) (G : fM) (x : fX) (hst : l.stackTraces = false) (hp : 300 ∈ NL) (hz : f_ES NL 0) (v : Int32) (h : ¬ rng v 0 1) : Kh l yL_restore wsL_restore { frames := 9, cells := 1, slots := 6, locals := 200 } vwCl D K NL ad [.ref (ad 300), .int v] G x (some (.int 1)) G x := by
  refine Kh.of (cc := cL_restore) (maxL := 3) (ret := (some .int)) (hh := [(0, 5, 8, 13), (0, 5, 11, 15)]) (L := [some (.ref (ad 300)), some (.int v), none]) hst (by decide +kernel) rfl rfl (Nat.le_of_ble_eq_true rfl) ?_
  intro p e s m args below meth c hC hX htab hr hk
  have hN := hX.2.1
  refine fk_aload_n hC dL_restore_0 rfl rfl ?_
  refine fk_iload_n hC dL_restore_1 rfl rfl ?_
  refine fk_xcallV hC hX (tX5_restore_1 l D K NL ad _ x hst hp hz _ h) hp (f_E300 _ _ _ _ _) rfl (cwV 1 hC.1.2.2.2.2 gL_restore_X5_restore rfl rfl rfl (by decide +kernel) ⟨Nat.le_of_ble_eq_true rfl, Nat.le_of_ble_eq_true rfl⟩) rfl rfl (Nat.le_of_ble_eq_true rfl) dL_restore_2 ⟨Nat.le_of_ble_eq_true rfl, Nat.le_of_ble_eq_true rfl⟩ (fun H1 locs1 ls q ce a1 a2 a3 a4 a5 a6 => fk_xcatch (name := xIAE) hC [] ⟨0, 5, 8, 13⟩ [⟨0, 5, 11, 15⟩] (htab.trans rfl) (fun z hz9 => absurd hz9 List.not_mem_nil) (by decide) (by decide) (by decide +kernel) (va_Nw.use rfl hX.2.2.1.2.1.1) a1 a2 a3 a4 a5 a6 ?_)
  refine fk_astore_n hC dL_restore_8 rfl (by decide) rfl ?_
  refine fk_iconst (v := 1) hC dL_restore_9 (by decide) ?_
  exact fk_iret hC hr hk dL_restore_10 rfl rfl rfl
set_option maxHeartbeats 4000000 in
set_option maxRecDepth 100000 in
theorem hL_restore_2 (l : Launch) (D : va_G) (K : Nat → ClassId) (NL : List Nat) (ad : Nat → Nat) (G : fM) (x : fX) (hst : l.stackTraces = false) (hp : 300 ∈ NL) (hz : f_ES NL 0) (h1 : 301 ∈ NL) (t : Nat) (ht : t < 2) (hs : ¬ 100 * (t + 1) ∈ NL) : Kh l yL_restore wsL_restore { frames := 9, cells := 1, slots := 6, locals := 200 } vwCl D K NL ad [.ref (ad 300), .int (nI t)] G x (some (.int 2)) G x := by
  refine Kh.of (cc := cL_restore) (maxL := 3) (ret := (some .int)) (hh := [(0, 5, 8, 13), (0, 5, 11, 15)]) (L := [some (.ref (ad 300)), some (.int (nI t)), none]) hst (by decide +kernel) rfl rfl (Nat.le_of_ble_eq_true rfl) ?_
  intro p e s m args below meth c hC hX htab hr hk
  have hN := hX.2.1
  refine fk_aload_n hC dL_restore_0 rfl rfl ?_
  refine fk_iload_n hC dL_restore_1 rfl rfl ?_
  refine fk_xcallV hC hX (tX5_restore_2 l D K NL ad _ x hst hp hz h1 t ht hs) hp (f_E300 _ _ _ _ _) rfl (cwV 1 hC.1.2.2.2.2 gL_restore_X5_restore rfl rfl rfl (by decide +kernel) ⟨Nat.le_of_ble_eq_true rfl, Nat.le_of_ble_eq_true rfl⟩) rfl rfl (Nat.le_of_ble_eq_true rfl) dL_restore_2 ⟨Nat.le_of_ble_eq_true rfl, Nat.le_of_ble_eq_true rfl⟩ (fun H1 locs1 ls q ce a1 a2 a3 a4 a5 a6 => fk_xcatch (name := xISE) hC [⟨0, 5, 8, 13⟩] ⟨0, 5, 11, 15⟩ [] (htab.trans rfl) (fun z hz9 => by cases List.mem_singleton.mp hz9; exact Or.inr ⟨by decide, xIAE, hC.ts (.classLink RL 13 xIAE) (by decide +kernel), hX.2.2.1.2.2.1.1⟩) (by decide) (by decide) (by decide +kernel) (va_Nw.use rfl hX.2.2.1.2.1.2.1) a1 a2 a3 a4 a5 a6 ?_)
  refine fk_astore_n hC dL_restore_11 rfl (by decide) rfl ?_
  refine fk_iconst (v := 2) hC dL_restore_12 (by decide) ?_
  exact fk_iret hC hr hk dL_restore_13 rfl rfl rfl
