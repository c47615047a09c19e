/-! the law's loop -/
def R_law : String := "LoadBalancerLaw"
def lw_P (b : Addr) (xs : List Int32) (args : Array Value) (s : State) : Prop := args = #[.ref b] ∧ s.IntsAt b xs ∧ xs.length ≤ 1536 ∧ (Jvm.Cond.and given_1 narrow_1).before args s = true
/-- what a walk over the start with the record d0 says of its end, said of the start itself -/
theorem lw_closed {s t : State} {o : Outcome} {d0 : Drawn} {L : List Loc} {k n : Nat} (hd0 : s.drawn.sameBut d0 lw_cs) (hv : ∃ v, o = .returned v) (hW : (s.setDrawn d0).WarmedH t.vm) (hs : (s.setDrawn d0).sameButNew ({ t with vm := s.vm } : State) L k n) : State.butDraws s t lw_cs (fun t1 => Framed s o t1 L k n) := by
  have h2 : t.drawn = d0 := congrArg State.drawn hs.1
  refine ⟨⟨hv, hW, State.sameButNew.setDrawn hs s.drawn⟩, ?_, by decide⟩
  rw [h2]
  exact hd0
def lw_Q (_ : Array Value) (s : State) (o : Outcome) (t : State) : Prop := o = .returned (some (.int 1)) ∧ State.butDraws s t lw_cs (fun t1 => Framed s o t1 [] 601024 7293034)
def lw_Z (below : List Frame) (a : Array Value) (s : State) : State → Prop := fun t => ∃ o, t.status = .running ∧ Ended t below o ∧ lw_Q a s o t
/-- the law's own end, with 1 on the stack, nothing written that was there before, its room as the claim has it; d0: the record of draws at this point (at the entry s.drawn: begin with 'refine W.base ?_' and 'have hd0 := Drawn.sameBut.refl s.drawn lw_cs') -/
theorem lw_ret {p : Program} {l : Launch} {e : Env} {s : State} {m : MethodId} {below : List Frame} {meth : Method} {c : Code} {b : Nat} {d0 : Drawn} (hd0 : s.drawn.sameBut d0 lw_cs) (hx : p.tables.exec = Jvm.exec) (hb : c.code = code) (hr : meth.sig.returnType = ret) (hlocks : meth.locks = false) {pc : Nat} {H : Heap} {ls : Array Slot} (hdg : decode code pc = .ok (.ireturn, 1)) : W p l e room_1 (s.setDrawn d0) m #[Value.ref b] below meth c H [] 601024 7293034 (lw_Z below #[Value.ref b] s) (F0 m pc ls [.int 1]) := by
  intro T hT X
  obtain ⟨fs, hret, hrun, hended, hW, hframe⟩ := X.leave (v := some (.int 1)) (hlocks := hlocks) (fun h => by rw [hr] at h; cases h)
  have hmeth' : T.vm.method? m = some meth := X.method'
  refine ⟨T.setFrames fs, ?_, .returned (some (.int 1)), hrun, hended, rfl, lw_closed hd0 ⟨_, rfl⟩ hW hframe⟩
  jvm_step X.here [X.here.top, hx, hb, hdg, hmeth', hr, ret, narrow_b1]
  (try refine ⟨rfl, ?_⟩); (try refine ⟨rfl, ?_⟩)
  first | (intro acts; rw [hret _ acts rfl rfl rfl]) | rw [hret _ _ rfl rfl rfl]
  exact Steps.refl _
/-- what holds at the law's entry: the machine, the code, the tables' words (any of lw_tbl by 'hts w (by decide +kernel)'), the script of L ints xs at the cell b, what the Statement gives of the start (any of its parts by flat_of_before) -/
def lw_At (p : Program) (s : State) (m : MethodId) (meth : Method) (c : Code) (b L : Nat) (xs : Nat → Int32) : Prop :=
  p.tables.exec = Jvm.exec ∧ c.code = code ∧ meth.sig.returnType = ret ∧ c.maxLocals = 9 ∧ s.vm.findClass R_law = some m.cls ∧ (∀ w ∈ lw_tbl, w.before #[Value.ref b] s = true) ∧ va_X b L xs s s.heap ∧ b < s.heap.size ∧ meth.locks = false ∧ (Jvm.Cond.and given_1 narrow_1).before #[Value.ref b] s = true
section LAWL
theorem gt_end {N i : Nat} (hN : N ≤ 1536) (hi : i ≤ 3000) : (nI N - 3 < nI i) ↔ N < i + 3 := by
  rw [Int32.lt_iff_toInt_lt, show (3 : Int32) = nI 3 from rfl, pk_sub_toInt (by omega) (by decide), nI_toInt (by omega)]
  omega
theorem RelA.up {n : Nat} {NL : List Nat} {G : fM} (hR : RelA n NL G) : RelA (n + 1) NL G := by
  obtain ⟨cn, t, nn, o, h⟩ := hR.2.1
  exact hR.go (G1 := G) Hi.rf Lo.rf (rs_n h)
variable {p : Program} {l : Launch} {e : Env} {s : State} {m : MethodId} {below : List Frame} {meth : Method} {c : Code} {D : va_G} {K : Nat → ClassId} {b N : Nat} {xs : Nat → Int32}
theorem law_end {NL : List Nat} {ad : Nat → Nat} {cells slots : Nat} {G : fM} {x : fX} {L : List (Option Value)} (hX : Lx p l s m c D K NL ad b N xs) (hr : meth.sig.returnType = ret) (hlocks : meth.locks = false) (hc : cells ≤ 601024) (hs : slots ≤ 7293034) : WL p l e s m below meth c D K NL ad b cells slots (lw_Z below #[Value.ref b] s) G x 1563 L [] := by
  refine fk_iconst (v := 1) hX.1 dL_law_1563 (by decide) ?_
  intro H locs ls h1 h2 h3
  refine va_forget (fun q hq => h2.2.2 q hq) ?_
  refine W.widen (k := 601024) (n := 7293034) hc hs ?_
  refine W.base ?_
  exact lw_ret (Drawn.sameBut.refl s.drawn lw_cs) hX.1.hx hX.1.hb hr hlocks dL_law_1564
theorem law_head {NL : List Nat} {ad : Nat → Nat} {cells slots i : Nat} {G : fM} {x : fX} {Q : State → Prop} (hX : Lx p l s m c D K NL ad b N xs) (hi : i ≤ 3000) (ke : N < i + 3 → WL p l e s m below meth c D K NL ad b cells slots Q G x 1563 (lL b ad i) []) (kc : i + 2 < N → WL p l e s m below meth c D K NL ad b cells slots Q G x 37 (lL b ad i) []) : WL p l e s m below meth c D K NL ad b cells slots Q G x 28 (lL b ad i) [] := by
  have hN := hX.2.2.2.2.2
  refine fk_iload hX.1 dL_law_28 rfl ?_
  refine fk_aload_n hX.1 dL_law_30 rfl rfl ?_
  refine fl_slen hX dL_law_31 ?_
  refine fk_iconst (v := 3) hX.1 dL_law_32 (by decide) ?_
  refine fk_isub hX.1 dL_law_33 ?_
  exact fk_icmp_gt (tgt := 1563) hX.1 dL_law_34 (by decide) (fun h => ke ((gt_end hN hi).mp h)) (fun h => kc (by have := mt (gt_end hN hi).mpr h; omega))
set_option maxHeartbeats 4000000 in
set_option maxRecDepth 20000 in
theorem law_loop (hr : meth.sig.returnType = ret) (hlocks : meth.locks = false) : ∀ (d n : Nat) (NL : List Nat) (ad : Nat → Nat) (G : fM) (x : fX) (cells slots : Nat), Lx p l s m c D K NL ad b N xs → RelA n NL G → N + 1 ≤ 3 * n + d → n ≤ 512 → cells ≤ 100 + 40 * n → slots ≤ 20000 + 4000 * n → WL p l e s m below meth c D K NL ad b cells slots (lw_Z below #[Value.ref b] s) G x 28 (lL b ad (3 * n)) [] := by
  intro d
  induction d with
  | zero =>
    intro n NL ad G x cells slots hX hR hd hn hc hs
    exact law_head hX (by omega) (fun _ => law_end hX hr hlocks (by omega) (by omega)) (fun h => absurd h (by omega))
  | succ d ih =>
    intro n NL ad G x cells slots hX hR hd hn hc hs
    refine law_head hX (by omega) (fun _ => law_end hX hr hlocks (by omega) (by omega)) (fun h3 => ?_)
    have hN := hX.2.2.2.2.2
    refine fk_aload_n hX.1 dL_law_37 rfl rfl ?_
    refine fk_iload hX.1 dL_law_38 rfl ?_
    refine fl_sld (j := 3 * n) hX rfl (by omega) dL_law_40 ?_
    refine fk_bipush (v := 31) hX.1 dL_law_41 (by decide) ?_
    refine fk_iand hX.1 dL_law_43 ?_
    have hc9 : cells + 40 ≤ 601024 := by omega
    have hs9 : slots + 4000 ≤ 7293034 := by omega
    have hkk : KK p l e s m below meth c D K b N xs cells slots (lw_Z below #[Value.ref b] s) n := fun NL2 ad2 G2 x2 hX2 hR2 => by
      refine fk_iinc (v := nI (3 * (n + 1))) hX2.1 dL_law_1557 rfl ?_ (by decide) rfl ?_
      · rw [show Int32.ofInt 3 = nI 3 from by decide, nI_add, show 3 * n + 3 = 3 * (n + 1) by omega]
      refine fk_goto (tgt := 28) hX2.1 dL_law_1560 (by decide) ?_
      exact ih (n + 1) NL2 ad2 G2 x2 (cells + 40) (slots + 4000) hX2 hR2 (by omega) (by omega) (by omega) (by omega)
    have hout : (xs (3 * n) &&& 31).toInt < 0 ∨ 24 < (xs (3 * n) &&& 31).toInt → WL p l e s m below meth c D K NL ad b cells slots (lw_Z below #[Value.ref b] s) G x 44 (lL b ad (3 * n)) [.int (xs (3 * n) &&& 31)] := fun h => fk_tableOut (tgt := 1557) hX.1 dL_law_44 h (by decide) (fk_widen (by omega) (by omega) (hkk NL ad G x hX hR.up))
    rcases pk_ix (xs (3 * n) &&& 31) (n := 25) (by decide) with h | h | ⟨k, hk, ha⟩
    · refine hout (Or.inl ?_)
      have h9 := Int32.lt_iff_toInt_lt.mp h
      have h8 : (0 : Int32).toInt = 0 := by decide
      omega
    · refine hout (Or.inr ?_)
      have h9 := Int32.le_iff_toInt_le.mp h
      rw [nI_toInt (by decide)] at h9
      omega
    rcases (show k = 0 ∨ k = 1 ∨ k = 2 ∨ k = 3 ∨ k = 4 ∨ k = 5 ∨ k = 6 ∨ k = 7 ∨ k = 8 ∨ k = 9 ∨ k = 10 ∨ k = 11 ∨ k = 12 ∨ k = 13 ∨ k = 14 ∨ k = 15 ∨ k = 16 ∨ k = 17 ∨ k = 18 ∨ k = 19 ∨ k = 20 ∨ k = 21 ∨ k = 22 ∨ k = 23 ∨ k = 24 by omega) with rfl | rfl | rfl | rfl | rfl | rfl | rfl | rfl | rfl | rfl | rfl | rfl | rfl | rfl | rfl | rfl | rfl | rfl | rfl | rfl | rfl | rfl | rfl | rfl | rfl
    · exact fk_tableIn (off := 116) (tgt := 160) hX.1 dL_law_44 (by rw [ha]; decide) (by rw [ha]; decide) (by rw [ha]; rfl) (by decide) (lc_addServer hX hR h3 hc9 hs9 hkk)
    · exact fk_tableIn (off := 184) (tgt := 228) hX.1 dL_law_44 (by rw [ha]; decide) (by rw [ha]; decide) (by rw [ha]; rfl) (by decide) (lc_setWeight hX hR h3 hc9 hs9 hkk)
    · exact fk_tableIn (off := 252) (tgt := 296) hX.1 dL_law_44 (by rw [ha]; decide) (by rw [ha]; decide) (by rw [ha]; rfl) (by decide) (lc_setDraining hX hR h3 hc9 hs9 hkk)
    · exact fk_tableIn (off := 343) (tgt := 387) hX.1 dL_law_44 (by rw [ha]; decide) (by rw [ha]; decide) (by rw [ha]; rfl) (by decide) (lc_report hX hR h3 hc9 hs9 hkk)
    · exact fk_tableIn (off := 434) (tgt := 478) hX.1 dL_law_44 (by rw [ha]; decide) (by rw [ha]; decide) (by rw [ha]; rfl) (by decide) (lc_servers hX hR h3 hc9 hs9 hkk)
    · exact fk_tableIn (off := 447) (tgt := 491) hX.1 dL_law_44 (by rw [ha]; decide) (by rw [ha]; decide) (by rw [ha]; rfl) (by decide) (lc_setThresholds hX hR h3 hc9 hs9 hkk)
    · exact fk_tableIn (off := 495) (tgt := 539) hX.1 dL_law_44 (by rw [ha]; decide) (by rw [ha]; decide) (by rw [ha]; rfl) (by decide) (lc_setSlowStart hX hR h3 hc9 hs9 hkk)
    · exact fk_tableIn (off := 551) (tgt := 595) hX.1 dL_law_44 (by rw [ha]; decide) (by rw [ha]; decide) (by rw [ha]; rfl) (by decide) (lc_setCool hX hR h3 hc9 hs9 hkk)
    · exact fk_tableIn (off := 607) (tgt := 651) hX.1 dL_law_44 (by rw [ha]; decide) (by rw [ha]; decide) (by rw [ha]; rfl) (by decide) (lc_setSticky hX hR h3 hc9 hs9 hkk)
    · exact fk_tableIn (off := 663) (tgt := 707) hX.1 dL_law_44 (by rw [ha]; decide) (by rw [ha]; decide) (by rw [ha]; rfl) (by decide) (lc_setPolicy hX hR h3 hc9 hs9 hkk)
    · exact fk_tableIn (off := 719) (tgt := 763) hX.1 dL_law_44 (by rw [ha]; decide) (by rw [ha]; decide) (by rw [ha]; rfl) (by decide) (lc_setSeed hX hR h3 hc9 hs9 hkk)
    · exact fk_tableIn (off := 744) (tgt := 788) hX.1 dL_law_44 (by rw [ha]; decide) (by rw [ha]; decide) (by rw [ha]; rfl) (by decide) (lc_tick hX hR h3 hc9 hs9 hkk)
    · exact fk_tableIn (off := 800) (tgt := 844) hX.1 dL_law_44 (by rw [ha]; decide) (by rw [ha]; decide) (by rw [ha]; rfl) (by decide) (lc_preview hX hR h3 hc9 hs9 hkk)
    · exact fk_tableIn (off := 825) (tgt := 869) hX.1 dL_law_44 (by rw [ha]; decide) (by rw [ha]; decide) (by rw [ha]; rfl) (by decide) (lc_open hX hR h3 hc9 hs9 hkk)
    · exact fk_tableIn (off := 881) (tgt := 925) hX.1 dL_law_44 (by rw [ha]; decide) (by rw [ha]; decide) (by rw [ha]; rfl) (by decide) (lc_close hX hR h3 hc9 hs9 hkk)
    · exact fk_tableIn (off := 965) (tgt := 1009) hX.1 dL_law_44 (by rw [ha]; decide) (by rw [ha]; decide) (by rw [ha]; rfl) (by decide) (lc_serverOf hX hR h3 hc9 hs9 hkk)
    · exact fk_tableIn (off := 1021) (tgt := 1065) hX.1 dL_law_44 (by rw [ha]; decide) (by rw [ha]; decide) (by rw [ha]; rfl) (by decide) (lc_isAvailable hX hR h3 hc9 hs9 hkk)
    · exact fk_tableIn (off := 1084) (tgt := 1128) hX.1 dL_law_44 (by rw [ha]; decide) (by rw [ha]; decide) (by rw [ha]; rfl) (by decide) (lc_effectiveWeight hX hR h3 hc9 hs9 hkk)
    · exact fk_tableIn (off := 1140) (tgt := 1184) hX.1 dL_law_44 (by rw [ha]; decide) (by rw [ha]; decide) (by rw [ha]; rfl) (by decide) (lc_active hX hR h3 hc9 hs9 hkk)
    · exact fk_tableIn (off := 1196) (tgt := 1240) hX.1 dL_law_44 (by rw [ha]; decide) (by rw [ha]; decide) (by rw [ha]; rfl) (by decide) (lc_utilization hX hR h3 hc9 hs9 hkk)
    · exact fk_tableIn (off := 1273) (tgt := 1317) hX.1 dL_law_44 (by rw [ha]; decide) (by rw [ha]; decide) (by rw [ha]; rfl) (by decide) (lc_breaker hX hR h3 hc9 hs9 hkk)
    · exact fk_tableIn (off := 1329) (tgt := 1373) hX.1 dL_law_44 (by rw [ha]; decide) (by rw [ha]; decide) (by rw [ha]; rfl) (by decide) (lc_owner hX hR h3 hc9 hs9 hkk)
    · exact fk_tableIn (off := 1385) (tgt := 1429) hX.1 dL_law_44 (by rw [ha]; decide) (by rw [ha]; decide) (by rw [ha]; rfl) (by decide) (lc_count hX hR h3 hc9 hs9 hkk)
    · exact fk_tableIn (off := 1441) (tgt := 1485) hX.1 dL_law_44 (by rw [ha]; decide) (by rw [ha]; decide) (by rw [ha]; rfl) (by decide) (lc_save hX hR h3 hc9 hs9 hkk)
    · exact fk_tableIn (off := 1477) (tgt := 1521) hX.1 dL_law_44 (by rw [ha]; decide) (by rw [ha]; decide) (by rw [ha]; rfl) (by decide) (lc_restore hX hR h3 hc9 hs9 hkk)
end LAWL
