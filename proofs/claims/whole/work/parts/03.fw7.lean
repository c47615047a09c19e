/-! OWN LAYER 7: methods that throw -/
section FW7
abbrev xIAE : String := "java/lang/IllegalArgumentException"
abbrev xISE : String := "java/lang/IllegalStateException"
abbrev xIOB : String := "java/lang/IndexOutOfBoundsException"
abbrev xS (C : String) : MethodName := ⟨C, "<init>", "(Ljava/lang/String;)V"⟩
abbrev xBad (E : String) : List Cond := [.castable E E, .declares (xS "java/lang/RuntimeException"), .declares (xS "java/lang/Exception"), .declares (xS "java/lang/Throwable")]
abbrev xNM : List String := ["java/lang/RuntimeException", "java/lang/Exception"]
/-- what the tables say of the exceptions and of their texts -/
def f_Xn (U : State) : Prop :=
  (va_Nw (.declares (xS "java/lang/RuntimeException")) U ∧ va_Nw (.declares (xS "java/lang/Exception")) U ∧ va_Nw (.declares (xS "java/lang/Throwable")) U) ∧
  (va_Nw (.castable xIAE xIAE) U ∧ va_Nw (.castable xISE xISE) U ∧ va_Nw (.castable xIOB xIOB) U) ∧
  (va_Nc xISE xIAE U ∧ va_Nc xIAE xIOB U ∧ va_Nc xISE xIOB U) ∧
  (∃ a, vk_R "LoadBalancer" 30 "there are 10 servers" a U) ∧ (∃ a, vk_R "LoadBalancer" 109 "no server is available, or 1000 connections were opened" a U) ∧
  (∃ a, vk_R "LoadBalancer" 134 "the connection was closed already" a U) ∧ (∃ a, vk_R "LoadBalancer" 167 "there are no servers" a U) ∧
  (∃ a, vk_R "LoadBalancer" 184 "there is no such count" a U) ∧ (∃ a, vk_R "LoadBalancer" 191 "nothing was saved in the slot" a U) ∧
  (∃ a, vk_R "LoadBalancer" 193 "an argument is out of range" a U) ∧ (∃ a, vk_R "LoadBalancer" 197 "no connection with this number was opened" a U) ∧
  (∃ a, vk_R "LoadBalancer$State" 56 "there is no such server" a U)
theorem f_Xn.warm {s U : State} (hW : s.WarmedH U.vm) (h : f_Xn s) : f_Xn U := by
  obtain ⟨⟨d1, d2, d3⟩, ⟨a1, a2, a3⟩, ⟨b1, b2, b3⟩, ⟨_, c1⟩, ⟨_, c2⟩, ⟨_, c3⟩, ⟨_, c4⟩, ⟨_, c5⟩, ⟨_, c6⟩, ⟨_, c7⟩, ⟨_, c8⟩, ⟨_, c9⟩⟩ := h
  exact ⟨⟨va_Nw.warmD hW d1, va_Nw.warmD hW d2, va_Nw.warmD hW d3⟩, ⟨va_Nw.warmC hW a1, va_Nw.warmC hW a2, va_Nw.warmC hW a3⟩, ⟨va_Nc.moved hW.alike b1, va_Nc.moved hW.alike b2, va_Nc.moved hW.alike b3⟩, ⟨_, vk_R.warm hW c1⟩, ⟨_, vk_R.warm hW c2⟩, ⟨_, vk_R.warm hW c3⟩, ⟨_, vk_R.warm hW c4⟩, ⟨_, vk_R.warm hW c5⟩, ⟨_, vk_R.warm hW c6⟩, ⟨_, vk_R.warm hW c7⟩, ⟨_, vk_R.warm hW c8⟩, ⟨_, vk_R.warm hW c9⟩⟩
theorem f_Xn.same {s U : State} (hv : s.vm = U.vm) (h : f_Xn s) : f_Xn U := by
  obtain ⟨⟨d1, d2, d3⟩, ⟨a1, a2, a3⟩, ⟨b1, b2, b3⟩, ⟨_, c1⟩, ⟨_, c2⟩, ⟨_, c3⟩, ⟨_, c4⟩, ⟨_, c5⟩, ⟨_, c6⟩, ⟨_, c7⟩, ⟨_, c8⟩, ⟨_, c9⟩⟩ := h
  have hA : s.vm.Alike U.vm := by rw [hv]; exact Vm.Alike.refl _
  exact ⟨⟨va_Nw.same rfl hv d1, va_Nw.same rfl hv d2, va_Nw.same rfl hv d3⟩, ⟨va_Nw.same rfl hv a1, va_Nw.same rfl hv a2, va_Nw.same rfl hv a3⟩, ⟨va_Nc.moved hA b1, va_Nc.moved hA b2, va_Nc.moved hA b3⟩, ⟨_, vk_R.same hv.symm c1⟩, ⟨_, vk_R.same hv.symm c2⟩, ⟨_, vk_R.same hv.symm c3⟩, ⟨_, vk_R.same hv.symm c4⟩, ⟨_, vk_R.same hv.symm c5⟩, ⟨_, vk_R.same hv.symm c6⟩, ⟨_, vk_R.same hv.symm c7⟩, ⟨_, vk_R.same hv.symm c8⟩, ⟨_, vk_R.same hv.symm c9⟩⟩
theorem f_Xn.bad1 {s : State} (h : f_Xn s) : ∀ w ∈ xBad xIAE, va_Nw w s := by
  intro w hw
  simp only [List.mem_cons, List.not_mem_nil, or_false] at hw
  rcases hw with rfl | rfl | rfl | rfl
  · exact h.2.1.1
  · exact h.1.1
  · exact h.1.2.1
  · exact h.1.2.2
theorem f_Xn.bad2 {s : State} (h : f_Xn s) : ∀ w ∈ xBad xISE, va_Nw w s := by
  intro w hw
  simp only [List.mem_cons, List.not_mem_nil, or_false] at hw
  rcases hw with rfl | rfl | rfl | rfl
  · exact h.2.1.2.1
  · exact h.1.1
  · exact h.1.2.1
  · exact h.1.2.2
theorem f_Xn.bad3 {s : State} (h : f_Xn s) : ∀ w ∈ xBad xIOB, va_Nw w s := by
  intro w hw
  simp only [List.mem_cons, List.not_mem_nil, or_false] at hw
  rcases hw with rfl | rfl | rfl | rfl
  · exact h.2.1.2.2
  · exact h.1.1
  · exact h.1.2.1
  · exact h.1.2.2
/-- the two statics that a throw reads -/
def f_Z (A : Nat → Prop) (U : State) (H : Heap) : Prop := vx_Zq Bundle.tN "UNASSIGNED_STACK" Bundle.steD A U H ∧ vx_Zq Bundle.tN "SUPPRESSED_SENTINEL" Bundle.listD A U H
theorem f_Z.to {A B : Nat → Prop} {s U : State} {H : Heap} {locs : List Loc} (h : f_Z A s s.heap) (hS : va_S A s.heap H locs) (hvm : s.vm.Alike U.vm) (hAB : ∀ q, B q → A q) : f_Z B U H :=
  ⟨vx_Zq.narrow (vx_Zq.moved hvm (vx_Zq.kept h.1 (fun a h1 h2 => hS.2.1 a h1 h2))) hAB, vx_Zq.narrow (vx_Zq.moved hvm (vx_Zq.kept h.2 (fun a h1 h2 => hS.2.1 a h1 h2))) hAB⟩
def f_PreX (cl : List vw_C) (D : va_G) (K : Nat → ClassId) (NL : List Nat) (ad : Nat → Nat) (G : fM) (x : fX) (sz : Nat) (av : List Value) : Array Value → State → Prop :=
  va_Pc av (fun U => (U.heap.size = sz ∧ va_P D cl (f_W K NL ad G x) U.heap ∧ va_K D cl (f_tys K) U ∧ f_D (fun _ => True) NL ad ∧ f_N U) ∧ f_Xn U ∧ f_Z (f_A NL ad sz) U U.heap)
def f_XC (cl : List vw_C) (D : va_G) (K : Nat → ClassId) (NL : List Nat) (ad : Nat → Nat) (G1 : fM) (x1 : fX) (E0 : String) (sz : Nat) : String → State → State → Prop :=
  fun E st t => E = E0 ∧ va_P D cl (f_W K NL ad G1 x1) t.heap ∧ va_F (f_A NL ad sz) st t
abbrev f_QF : Array Value → State → Outcome → State → Prop := fun _ _ _ _ => False
/-- the method y throws E0 and leaves G1 -/
def Kt (l : Launch) (y : MethodName) (ws : List Cond) (rm : Room) (cl : List vw_C) (D : va_G) (K : Nat → ClassId) (NL : List Nat) (ad : Nat → Nat) (av : List Value) (G : fM) (x : fX) (E0 : String) (G1 : fM) (x1 : fX) : Prop :=
  ∀ sz, vx_Met l y ws rm (f_PreX cl D K NL ad G x sz av) f_QF (f_XC cl D K NL ad G1 x1 E0 sz) rm.cells rm.slots (f_A NL ad sz)
/-- a method that catches: as Kd, with what the exceptions need -/
def Kh (l : Launch) (y : MethodName) (ws : List Cond) (rm : Room) (cl : List vw_C) (D : va_G) (K : Nat → ClassId) (NL : List Nat) (ad : Nat → Nat) (av : List Value) (G : fM) (x : fX) (rv : Option Value) (G1 : fM) (x1 : fX) : Prop :=
  ∀ sz, Met l y ws rm (f_PreX cl D K NL ad G x sz av) (f_Post cl D K NL ad G1 x1 rv sz) rm.cells rm.slots (f_A NL ad sz)
theorem f_blindX {cl : List vw_C} {D : va_G} {K : Nat → ClassId} {NL : List Nat} {ad : Nat → Nat} {G : fM} {x : fX} {sz : Nat} {av : List Value} : FrameBlind (f_PreX cl D K NL ad G x sz av) := fun a U g mk q => by
  obtain ⟨q0, ⟨q1, qP, qK, qD, qN⟩, qX, qZ⟩ := q
  exact ⟨q0, ⟨q1, qP, va_K.moved (u := U) (U := U.calling g mk a) (Vm.Alike.refl U.vm) qK, qD, f_N.same rfl qN⟩, f_Xn.same rfl qX, vx_Zq.moved (Vm.Alike.refl U.vm) qZ.1, vx_Zq.moved (Vm.Alike.refl U.vm) qZ.2⟩
section Rows7
variable {p : Program} {l : Launch} {e : Env} {R : Room} {s : State} {m : MethodId} {args : Array Value} {below : List Frame} {meth : Method} {c : Code} {cl : List vw_C} {D : va_G} {K : Nat → ClassId} {NL : List Nat} {ad : Nat → Nat} {A : Nat → Prop} {nL cells slots : Nat} {Q : State → Prop}
variable {cc : ByteArray} {Ts : List Cond} {own : String} {G G1 : fM} {x x1 : fX} {pc : Nat} {L : List (Option Value)} {rest st0 : List Value} {rv : Option Value} {rm : Room} {E0 : String}
/-- what holds all through a method that may throw -/
def CxX (p : Program) (l : Launch) (s : State) (c : Code) (A : Nat → Prop) : Prop := l.stackTraces = false ∧ f_N s ∧ f_Xn s ∧ f_Z A s s.heap
theorem f_preX_of {H : Heap} {locs : List Loc} {av : List Value} (hC : Cx p s m args c cc nL Ts own cl D K NL ad A s.heap) (hX : CxX p l s c A) (h1 : va_P D cl (f_W K NL ad G x) H) (h2 : va_S A s.heap H locs) : ∀ U : State, U.heap = H → s.WarmedH U.vm → f_PreX cl D K NL ad G x H.size av av.toArray U := fun U hU hW =>
  ⟨rfl, ⟨by rw [hU], by rw [hU]; exact h1, va_K.moved hW.alike hC.hK, hC.hD.to' (fun _ _ => trivial), f_N.warm hW hX.2.1⟩, f_Xn.warm hW hX.2.2.1, by
    rw [hU]
    refine hX.2.2.2.to h2 hW.alike ?_
    rintro q (⟨n, hn, rfl⟩ | h)
    · exact hC.hD.A hn
    · exact hC.2.2.2 q (Nat.le_trans h2.1 h)⟩
/-- the callee has thrown: the caller's frame with q thrown over it -/
theorem f_backX {H : Heap} {locs : List Loc} {ls : Array Slot} {mc ms : Nat} {Qa : State → Outcome → State → Prop} (hC : Cx p s m args c cc nL Ts own cl D K NL ad A s.heap) (hQa : ∀ a b d, ¬ Qa a b d)
    (hr : vx_Run p l e R s m args below meth c H locs cells slots mc ms (F0 m pc ls st0) rest Qa (f_XC cl D K NL ad G1 x1 E0 H.size) (f_A NL ad H.size)) (hS : va_S A s.heap H locs)
    (kx : ∀ (H1 : Heap) (locs1 : List Loc) (q : Addr) (ce : Cell), va_P D cl (f_W K NL ad G1 x1) H1 → va_S A s.heap H1 locs1 → H1[q]? = some ce → ce.vm = .none → s.vm.findClass E0 = some ce.cls → vx_W p l e R s m args below meth c H1 locs1 (cells + mc) (slots + ms) Q (F0 m pc ls rest) q) : W p l e R s m args below meth c H locs cells slots Q (F0 m pc ls st0) := by
  intro T hT X
  rcases hr T hT X with ⟨v, st₀, t, T', Ls, h0, X', hL, e1, e2, hq, st⟩ | ⟨q, st₀, t, T', Ls, E, ce, h0, X', hL, e1, e2, ⟨rfl, hP, hz, hk⟩, hce, hcv, hcl, st⟩
  · exact absurd hq (hQa _ _ _)
  · rw [h0] at hz hk
    have hfA : ∀ q, f_A NL ad H.size q → A q := by
      rintro q (⟨n, hn, rfl⟩ | h)
      · exact hC.hD.A hn
      · exact hC.2.2.2 q (Nat.le_trans hS.1 h)
    have hS1 : va_S A s.heap T'.heap (locs ++ Ls) := ⟨Nat.le_trans hS.1 (by rw [e1]; exact hz), fun q h1 h2 => by rw [e1, hk q (Nat.lt_of_lt_of_le h1 hS.1) (fun z => h2 (hfA q z))]; exact hS.2.1 q h1 h2, fun q hq => by
      rcases List.mem_append.mp hq with h | h
      · exact hS.2.2 q h
      · exact hfA _ (hL q h)⟩
    obtain ⟨t2, a1, b1⟩ := kx T'.heap (locs ++ Ls) q ce (by rw [e1]; exact hP) hS1 (by rw [e1]; exact hce) hcv hcl T' rfl X'
    exact ⟨t2, st.trans a1, b1⟩
/-- a call of a method that throws; kx: what becomes of it here -/
theorem fk_xcallV {n ci index maxL nA : Nat} {y : MethodName} {bytes : ByteArray} {ret : Option FieldType} {wsc : List Cond} {q0 : vw_C} {fs As : List Value} (hC : Cx p s m args c cc nL Ts own cl D K NL ad A s.heap) (hX : CxX p l s c A) (h : Kt l y wsc rm cl D K NL ad (.ref (ad n) :: As) G x E0 G1 x1)
    (hn : n ∈ NL) (he : f_E K NL ad G x n = .inr (ci, fs)) (hc : cl[ci]? = some q0) (cw : CallW R s args own q0.1 index y bytes maxL ret wsc rm rm.cells rm.slots nA) (hAs : As.length = nA) (hst : st0 = f_stk As (.ref (ad n) :: rest)) (hW : (rest.map fun v => v.category).sum ≤ 8) (hdg : decode cc pc = .ok (.invokevirtual index, 3)) (hf : cells + rm.cells ≤ R.cells ∧ slots + rm.slots ≤ R.slots)
    (kx : ∀ (H1 : Heap) (locs1 : List Loc) (ls : Array Slot) (q : Addr) (ce : Cell), va_P D cl (f_W K NL ad G1 x1) H1 → va_S A s.heap H1 locs1 → f_L ls nL L → H1[q]? = some ce → ce.vm = .none → s.vm.findClass E0 = some ce.cls → vx_W p l e R s m args below meth c H1 locs1 (cells + rm.cells) (slots + rm.slots) Q (F0 m pc ls rest) q) : Wk p l e R s m args below meth c cl D K NL ad A s.heap nL cells slots Q G x pc L st0 := fun H locs ls h1 h2 h3 => by
  obtain ⟨q, hq⟩ := List.getElem?_of_mem hn
  exact f_backX hC (fun _ _ _ h => h) (vx_runV (As := As) (rest := rest) hC.1 (h H.size) cw ⟨f_blindX, va_recv hC.hK h1 hc ((f_W_at hq).trans (by rw [he])), f_preX_of hC hX h1 h2⟩ rfl hAs h3.1 (hst.trans (f_stk_eq _ _)) (lv_room hW) hdg hf) h2 (fun H1 locs1 q ce a1 a2 a3 a4 a5 => kx H1 locs1 ls q ce a1 a2 h3 a3 a4 a5)
theorem fk_xcallS {index maxL nA : Nat} {y : MethodName} {bytes : ByteArray} {ret : Option FieldType} {wsc : List Cond} {As : List Value} (hC : Cx p s m args c cc nL Ts own cl D K NL ad A s.heap) (hX : CxX p l s c A) (h : Kt l y wsc rm cl D K NL ad As G x E0 G1 x1)
    (cw : CallB R s args own index y bytes maxL ret wsc rm rm.cells rm.slots nA ∧ (Cond.static y).before args s = true) (hAs : As.length = nA) (hst : st0 = f_stk As rest) (hW : (rest.map fun v => v.category).sum ≤ 8) (hdg : decode cc pc = .ok (.invokestatic index, 3)) (hf : cells + rm.cells ≤ R.cells ∧ slots + rm.slots ≤ R.slots)
    (kx : ∀ (H1 : Heap) (locs1 : List Loc) (ls : Array Slot) (q : Addr) (ce : Cell), va_P D cl (f_W K NL ad G1 x1) H1 → va_S A s.heap H1 locs1 → f_L ls nL L → H1[q]? = some ce → ce.vm = .none → s.vm.findClass E0 = some ce.cls → vx_W p l e R s m args below meth c H1 locs1 (cells + rm.cells) (slots + rm.slots) Q (F0 m pc ls rest) q) : Wk p l e R s m args below meth c cl D K NL ad A s.heap nL cells slots Q G x pc L st0 := fun H locs ls h1 h2 h3 =>
  f_backX hC (fun _ _ _ h => h) (vx_runS (As := As) (rest := rest) hC.1 (h H.size) cw ⟨f_blindX, f_preX_of hC hX h1 h2⟩ rfl hAs h3.1 (hst.trans (f_stk_eq _ _)) (lv_room hW) hdg hf) h2 (fun H1 locs1 q ce a1 a2 a3 a4 a5 => kx H1 locs1 ls q ce a1 a2 h3 a3 a4 a5)
/-- it goes on to the caller -/
theorem fk_xout {H1 : Heap} {locs1 : List Loc} {ls : Array Slot} {q : Addr} {ce : Cell} {mc ms : Nat} (htab : ∀ z ∈ c.exceptionTable.toList, False) (hlocks : meth.locks = false) (h1 : va_P D cl (f_W K NL ad G1 x1) H1) (h2 : va_S (f_A NL ad s.heap.size) s.heap H1 locs1) (h3 : H1[q]? = some ce) (h4 : ce.vm = .none) (h5 : s.vm.findClass E0 = some ce.cls) (hc : cells ≤ mc) (hs : slots ≤ ms) :
    vx_W p l e R s m args below meth c H1 locs1 cells slots (vx_MQ below f_QF (f_XC cl D K NL ad G1 x1 E0 s.heap.size) args s mc ms (f_A NL ad s.heap.size)) (F0 m pc ls rest) q :=
  vx_out (fun z hz => (htab z hz).elim) hlocks h3 h4 h5 (fun t ht _ => ⟨rfl, by rw [ht]; exact h1, h2.F ht⟩) h2.2.2 hc hs
/-- it is caught here -/
theorem fk_xcatch {name : String} {H1 : Heap} {locs1 : List Loc} {ls : Array Slot} {q : Addr} {ce : Cell} (hC : Cx p s m args c cc nL Ts own cl D K NL ad A s.heap) (pre : List ExceptionTableEntry) (z : ExceptionTableEntry) (suf : List ExceptionTableEntry) (hsplit : c.exceptionTable.toList = pre ++ z :: suf)
    (hpass : ∀ z ∈ pre, covers z pc = false ∨ (z.catchType ≠ 0 ∧ ∃ nm : String, (Cond.classLink own z.catchType nm).before args s = true ∧ va_Nc E0 nm s)) (hx : covers z pc = true) (h0 : z.catchType ≠ 0) (hlink : Cond.classLink own z.catchType name ∈ Ts) (hcast : (Cond.castable E0 name).before args s = true)
    (h1 : va_P D cl (f_W K NL ad G1 x1) H1) (h2 : va_S A s.heap H1 locs1) (hl : f_L ls nL L) (h3 : H1[q]? = some ce) (h4 : ce.vm = .none) (h5 : s.vm.findClass E0 = some ce.cls)
    (kk : Wk p l e R s m args below meth c cl D K NL ad A s.heap nL cells slots Q G1 x1 z.handlerPc L [.ref q]) : vx_W p l e R s m args below meth c H1 locs1 cells slots Q (F0 m pc ls rest) q :=
  vx_catch hC.hown pre z suf hsplit hpass hx h0 (hC.ts _ hlink) hcast h3 h4 h5 (kk H1 locs1 ls h1 h2 hl)
/-- throw new cls(text) -/
theorem fk_throw {cls text : String} {ik is ic sa mc ms : Nat} (hC : Cx p s m args c cc nL Ts own cl D K NL ad (f_A NL ad s.heap.size) s.heap) (hX : CxX p l s c (f_A NL ad s.heap.size)) (htab : ∀ z ∈ c.exceptionTable.toList, False) (hlocks : meth.locks = false)
    (hcls : Bundle.fit cls = true) (hk : Cond.classLink own ik cls ∈ Ts) (hini : Cond.initialized cls ∈ Ts) (hstr : vk_R own is text sa s) (hgw : ∀ w ∈ (vx_atS own ic cls xNM).filter goodWord, w ∈ Ts) (hbw : ∀ w ∈ (vx_atS own ic cls xNM).filter (fun w => !goodWord w), w ∈ xBad cls) (hca : ∀ w ∈ xBad cls, va_Nw w s)
    (hgood : ∀ w ∈ Cond.classLink own ik cls :: Cond.initialized cls :: vx_atS own ic cls xNM, vx_ot w = true)
    (d0 : decode cc pc = .ok (.new ik, 3)) (d3 : decode cc (pc + 3) = .ok (.dup, 1)) (d4 : decode cc (pc + 4) = .ok (.ldc is, 2)) (d6 : decode cc (pc + 6) = .ok (.invokespecial ic, 3)) (d9 : decode cc (pc + 9) = .ok (.athrow, 1))
    (hRf : 5 < R.frames) (hRl : (rest.map fun v => v.category).sum + 82 ≤ R.locals) (hRc : cells + 1 ≤ R.cells) (hRs : slots + 6 ≤ R.slots) (hc : cells + 1 ≤ mc) (hs : slots + 6 ≤ ms) (hG : G = G1) (hx : x = x1) :
    Wk p l e R s m args below meth c cl D K NL ad (f_A NL ad s.heap.size) s.heap nL cells slots (vx_MQ below f_QF (f_XC cl D K NL ad G1 x1 cls s.heap.size) args s mc ms (f_A NL ad s.heap.size)) G x pc L rest := fun H locs ls h1 h2 h3 => by
  subst hG; subst hx
  refine vx_throwS (names := xNM) hC.hx hC.hb hX.1 hC.hown hcls (by decide +kernel) (hC.ts _ hk) (hC.ts _ hini) hstr (vx_hat (fun w hw => hC.ts w (hgw w hw)) hbw (fun w hw => ?_)) hgood hX.2.2.2.1 hX.2.2.2.2 h2 (h3.1.trans hC.hml.symm) d0 d3 d4 d6 d9 (fun z hz => (htab z hz).elim) hRf hRl hRc hRs hlocks (fun t _ hz hq => ⟨rfl, va_P.kept h1 (fun k q hk => hq q.1 (h1 k q hk).lt), Nat.le_trans h2.1 hz, fun q h4 h5 => (hq q (Nat.lt_of_lt_of_le h4 h2.1)).trans (h2.2.1 q h4 h5)⟩) h2.2.2 hc hs
  refine va_Nw.use ?_ (hca w hw)
  simp only [List.mem_cons, List.not_mem_nil, or_false] at hw
  rcases hw with rfl | rfl | rfl | rfl <;> rfl
end Rows7
theorem Kt.of {l : Launch} {y : MethodName} {ws ws' : List Cond} {rm : Room} {cl : List vw_C} {D : va_G} {K : Nat → ClassId} {NL : List Nat} {ad : Nat → Nat} {av : List Value} {G : fM} {x : fX} {E0 : String} {G1 : fM} {x1 : fX} {cc : ByteArray} {maxL : Nat} {ret : Option FieldType} {L : List (Option Value)}
    (hst : l.stackTraces = false) (hy : plainName y.cls = true) (hw : ws = Cond.code y cc maxL ret :: ws') (hL : lv_args 0 av = f_lv 0 L) (hlen : (lg_sl av).length ≤ maxL)
    (body : ∀ (p : Program) (e : Env) (s : State) (m : MethodId) (args : Array Value) (below : List Frame) (meth : Method) (c : Code), Cx p s m args c cc maxL ws y.cls cl D K NL ad (f_A NL ad s.heap.size) s.heap → CxX p l s c (f_A NL ad s.heap.size) → (∀ z ∈ c.exceptionTable.toList, False) → meth.sig.returnType = ret → meth.locks = false →
      Wk p l e rm s m args below meth c cl D K NL ad (f_A NL ad s.heap.size) s.heap maxL 0 0 (vx_MQ below f_QF (f_XC cl D K NL ad G1 x1 E0 s.heap.size) args s rm.cells rm.slots (f_A NL ad s.heap.size)) G x 0 L []) : Kt l y ws rm cl D K NL ad av G x E0 G1 x1 := by
  intro sz
  refine vx_ofW (cc := cc) (maxL := maxL) (ret := ret) hy hw ?_
  intro p e s m args below meth c s₁ B hml htab hv
  obtain ⟨rfl, ⟨hsz, hP, hK, hD, hN⟩, hX, hZ⟩ := hv
  subst hsz
  have hts := atoms_spec (ws := ws) B.pre
  have hown : s.vm.findClass y.cls = some m.cls := findClass_of_methodNamed B.named
  have hl := lv_entry av (n := maxL) hlen
  rw [lg_entry_eq]
  exact body p e s m av.toArray below meth c ⟨⟨B.exec, B.bytes, hml, hown, hts⟩, hK, hD.self, fun q h => Or.inr h⟩ ⟨hst, hN, hX, hZ⟩ htab B.returns B.notSynchronized s.heap [] _ hP va_S.rf (by unfold f_L; rw [← hL]; exact hl)
theorem Kh.of {l : Launch} {y : MethodName} {ws ws' : List Cond} {rm : Room} {cl : List vw_C} {D : va_G} {K : Nat → ClassId} {NL : List Nat} {ad : Nat → Nat} {av : List Value} {G : fM} {x : fX} {rv : Option Value} {G1 : fM} {x1 : fX} {cc : ByteArray} {maxL : Nat} {ret : Option FieldType} {hh : List (Nat × Nat × Nat × Nat)} {L : List (Option Value)}
    (hst : l.stackTraces = false) (hy : plainName y.cls = true) (hw : ws = Cond.codeWith y cc maxL ret hh :: ws') (hL : lv_args 0 av = f_lv 0 L) (hlen : (lg_sl av).length ≤ maxL)
    (body : ∀ (p : Program) (e : Env) (s : State) (m : MethodId) (args : Array Value) (below : List Frame) (meth : Method) (c : Code), Cx p s m args c cc maxL ws y.cls cl D K NL ad (f_A NL ad s.heap.size) s.heap → CxX p l s c (f_A NL ad s.heap.size) → c.exceptionTable.toList = tableOf hh → meth.sig.returnType = ret → meth.locks = false →
      Wk p l e rm s m args below meth c cl D K NL ad (f_A NL ad s.heap.size) s.heap maxL 0 0 (MQ below (f_Post cl D K NL ad G1 x1 rv s.heap.size) args s rm.cells rm.slots (f_A NL ad s.heap.size)) G x 0 L []) : Kh l y ws rm cl D K NL ad av G x rv G1 x1 := by
  intro sz
  refine va_MetW (cc := cc) (maxL := maxL) (ret := ret) (hh := hh) hy hw ?_
  intro p e s m args below meth c s₁ B hml hv
  obtain ⟨rfl, ⟨hsz, hP, hK, hD, hN⟩, hX, hZ⟩ := hv
  subst hsz
  have hts := atoms_spec (ws := ws) B.pre
  have hown : s.vm.findClass y.cls = some m.cls := findClass_of_methodNamed B.named
  have hl := lv_entry av (n := maxL) hlen
  have htab : c.exceptionTable.toList = tableOf hh := vx_table (x := y) B (hts (.codeWith y cc maxL ret hh) (by rw [hw]; exact List.mem_cons_self))
  rw [lg_entry_eq]
  exact body p e s m av.toArray below meth c ⟨⟨B.exec, B.bytes, hml, hown, hts⟩, hK, hD.self, fun q h => Or.inr h⟩ ⟨hst, hN, hX, hZ⟩ htab B.returns B.notSynchronized s.heap [] _ hP va_S.rf (by unfold f_L; rw [← hL]; exact hl)
theorem f_bad1 : ∀ w ∈ (vx_atS RX5 186 xIAE xNM).filter (fun w => !goodWord w), w ∈ xBad xIAE := by decide +kernel
theorem f_bad2 : ∀ w ∈ (vx_atS RX5 32 xISE xNM).filter (fun w => !goodWord w), w ∈ xBad xISE := by decide +kernel
theorem f_bad3 : ∀ w ∈ (vx_atS RX5 199 xIOB xNM).filter (fun w => !goodWord w), w ∈ xBad xIOB := by decide +kernel
theorem f_bad4 : ∀ w ∈ (vx_atS RX4 58 xIOB xNM).filter (fun w => !goodWord w), w ∈ xBad xIOB := by decide +kernel
end FW7
