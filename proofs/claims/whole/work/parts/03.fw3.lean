/-! OWN LAYER 3: contracts over the flat memory: a method answers rv and leaves the memory G1; calls, ends, the entry -/
section FW3
/-- words that no list of a method can hold: nest mates' links -/
def f_N (U : State) : Prop :=
  va_Nw (.methodLinkNest "LoadBalancer$Server" 11 ⟨"LoadBalancer$Breaker", "<init>", "()V"⟩ "LoadBalancer") U ∧
  va_Nw (.methodLinkNest "LoadBalancer$Server" 54 ⟨"LoadBalancer", "mix", "(I)I"⟩ "LoadBalancer") U ∧
  va_Nw (.methodLinkNest "LoadBalancer$Server" 58 ⟨"LoadBalancer", "isBelowUnsigned", "(II)Z"⟩ "LoadBalancer") U ∧
  va_Nw (.methodLinkNest "LoadBalancer$State" 161 ⟨"LoadBalancer", "mix", "(I)I"⟩ "LoadBalancer") U ∧
  va_Nw (.methodLinkNest "LoadBalancer$State" 167 ⟨"LoadBalancer", "isBelowUnsigned", "(II)Z"⟩ "LoadBalancer") U ∧
  va_Nw (.methodLinkNest "LoadBalancer$State" 174 ⟨"LoadBalancer", "nextSeed", "(I)I"⟩ "LoadBalancer") U
theorem f_N.warm {s U : State} (hW : s.WarmedH U.vm) (h : f_N s) : f_N U :=
  ⟨va_Nw.warmM hW h.1, va_Nw.warmM hW h.2.1, va_Nw.warmM hW h.2.2.1, va_Nw.warmM hW h.2.2.2.1, va_Nw.warmM hW h.2.2.2.2.1, va_Nw.warmM hW h.2.2.2.2.2⟩
theorem f_N.same {s U : State} (hv : s.vm = U.vm) (h : f_N s) : f_N U :=
  ⟨va_Nw.same rfl hv h.1, va_Nw.same rfl hv h.2.1, va_Nw.same rfl hv h.2.2.1, va_Nw.same rfl hv h.2.2.2.1, va_Nw.same rfl hv h.2.2.2.2.1, va_Nw.same rfl hv h.2.2.2.2.2⟩
theorem f_D.to' {A B : Nat → Prop} {NL : List Nat} {ad : Nat → Nat} (h : f_D A NL ad) (hB : ∀ n, n ∈ NL → B (ad n)) : f_D B NL ad := by
  refine ⟨h.1, fun k q hk => ?_⟩
  rw [List.getElem?_map] at hk
  cases hq : NL[k]? with
  | none => rw [hq] at hk; cases hk
  | some n => rw [hq] at hk; cases hk; exact hB n (List.mem_of_getElem? hq)
theorem f_D.self {A : Nat → Prop} {NL : List Nat} {ad : Nat → Nat} {sz : Nat} (h : f_D A NL ad) : f_D (f_A NL ad sz) NL ad := h.to' (fun n hn => Or.inl ⟨n, hn, rfl⟩)
def f_Pre (cl : List vw_C) (D : va_G) (K : Nat → ClassId) (NL : List Nat) (ad : Nat → Nat) (G : fM) (x : fX) (sz : Nat) (av : List Value) : Array Value → State → Prop :=
  va_Pc av (fun U => U.heap.size = sz ∧ va_P D cl (f_W K NL ad G x) U.heap ∧ va_K D cl (f_tys K) U ∧ f_D (fun _ => True) NL ad ∧ f_N U)
def f_Post (cl : List vw_C) (D : va_G) (K : Nat → ClassId) (NL : List Nat) (ad : Nat → Nat) (G1 : fM) (x1 : fX) (rv : Option Value) (sz : Nat) : Array Value → State → Outcome → State → Prop :=
  fun _ st oc t => (oc = .returned rv ∧ va_P D cl (f_W K NL ad G1 x1) t.heap) ∧ va_F (f_A NL ad sz) st t
/-- the method y, called with av at the memory G, answers rv and leaves G1 -/
def Kd (l : Launch) (y : MethodName) (ws : List Cond) (rm : Room) (cl : List vw_C) (D : va_G) (K : Nat → ClassId) (NL : List Nat) (ad : Nat → Nat) (av : List Value) (G : fM) (x : fX) (rv : Option Value) (G1 : fM) (x1 : fX) : Prop :=
  ∀ sz, Met l y ws rm (f_Pre cl D K NL ad G x sz av) (f_Post cl D K NL ad G1 x1 rv sz) rm.cells rm.slots (f_A NL ad sz)
theorem f_blind {cl : List vw_C} {D : va_G} {K : Nat → ClassId} {NL : List Nat} {ad : Nat → Nat} {G : fM} {x : fX} {sz : Nat} {av : List Value} : FrameBlind (f_Pre cl D K NL ad G x sz av) := fun a U g mk q => by
  obtain ⟨q0, q1, qP, qK, qD, qN⟩ := q
  exact ⟨q0, q1, qP, va_K.moved (u := U) (U := U.calling g mk a) (Vm.Alike.refl U.vm) qK, qD, f_N.same rfl qN⟩
section Rows3
variable {p : Program} {l : Launch} {e : Env} {R : Room} {s : State} {m : MethodId} {args : Array Value} {below : List Frame} {meth : Method} {c : Code} {cl : List vw_C} {D : va_G} {K : Nat → ClassId} {NL : List Nat} {ad : Nat → Nat} {A : Nat → Prop} {H0 : Heap} {nL cells slots : Nat} {Q : State → Prop}
variable {cc : ByteArray} {Ts : List Cond} {own : String} {G G1 : fM} {x x1 : fX} {pc : Nat} {L : List (Option Value)} {rest st0 : List Value} {rv : Option Value} {rm : Room}
theorem f_back {H : Heap} {locs : List Loc} {ls : Array Slot} {a : Array Value} {mc ms : Nat} (hC : Cx p s m args c cc nL Ts own cl D K NL ad A H0)
    (hr : va_Run p l e R s m args below meth c H locs cells slots mc ms (F0 m pc ls st0) rest (f_Post cl D K NL ad G1 x1 rv H.size a) (f_A NL ad H.size)) (hS : va_S A H0 H locs) (h3 : f_L ls nL L)
    (kk : Wk p l e R s m args below meth c cl D K NL ad A H0 nL (cells + mc) (slots + ms) Q G1 x1 (pc + 3) L (f_psh rv rest)) : W p l e R s m args below meth c H locs cells slots Q (F0 m pc ls st0) := by
  intro T hT X
  obtain ⟨v, st₀, t, T', Ls, h0, X', hL, e1, e2, ⟨⟨hv, hP⟩, hz, hk⟩, st⟩ := hr T hT X
  cases hv
  rw [h0] at hz hk
  have hfA : ∀ q, f_A NL ad H.size q → A q := by
    rintro q (⟨n, hn, rfl⟩ | h)
    · exact hC.hD.A hn
    · exact hC.2.2.2 q (Nat.le_trans hS.1 h)
  have hS1 : va_S A H0 T'.heap (locs ++ Ls) := ⟨Nat.le_trans hS.1 (by rw [e1]; exact hz), fun q h1 h2 => by rw [e1, hk q (Nat.lt_of_lt_of_le h1 hS.1) (fun z => h2 (hfA q z))]; exact hS.2.1 q h1 h2, fun q hq => by
    rcases List.mem_append.mp hq with h | h
    · exact hS.2.2 q h
    · exact hfA _ (hL q h)⟩
  obtain ⟨t2, a1, b1⟩ := kk T'.heap (locs ++ Ls) ls (by rw [e1]; exact hP) hS1 h3 T' rfl X'
  refine ⟨t2, st t2 ?_, b1⟩
  have e9 : rv.toList ++ rest = f_psh rv rest := by cases rv <;> rfl
  show Steps p.tables e below (T'.setTop { method := m, pc := pc + 3, locals := ls, stack := rv.toList ++ rest, locked := none }) t2
  rw [e9]
  exact a1
def f_stk : List Value → List Value → List Value
  | [], r => r
  | a :: as, r => f_stk as (a :: r)
theorem f_stk_eq (as : List Value) : ∀ r, f_stk as r = as.reverse ++ r := by
  induction as with
  | nil => intro r; rfl
  | cons a as ih => intro r; show f_stk as (a :: r) = _; rw [ih]; simp
theorem f_pre_of {H : Heap} {av : List Value} (hC : Cx p s m args c cc nL Ts own cl D K NL ad A H0) (hN : f_N s) (h1 : va_P D cl (f_W K NL ad G x) H) : ∀ U : State, U.heap = H → s.WarmedH U.vm → f_Pre cl D K NL ad G x H.size av av.toArray U := fun U hU hW =>
  ⟨rfl, by rw [hU], by rw [hU]; exact h1, va_K.moved hW.alike hC.hK, hC.hD.to' (fun _ _ => trivial), f_N.warm hW hN⟩
theorem fk_callV {n ci index maxL nA : Nat} {y : MethodName} {bytes : ByteArray} {ret : Option FieldType} {wsc : List Cond} {q0 : vw_C} {fs As : List Value} (hC : Cx p s m args c cc nL Ts own cl D K NL ad A H0) (hN : f_N s) (h : Kd l y wsc rm cl D K NL ad (.ref (ad n) :: As) G x rv G1 x1)
    (hn : n ∈ NL) (he : f_E K NL ad G x n = .inr (ci, fs)) (hc : cl[ci]? = some q0) (cw : CallW R s args own q0.1 index y bytes maxL ret wsc rm rm.cells rm.slots nA) (hAs : As.length = nA) (hst : st0 = f_stk As (.ref (ad n) :: rest)) (hW : (rest.map fun v => v.category).sum ≤ 8) (hdg : decode cc pc = .ok (.invokevirtual index, 3)) (hf : cells + rm.cells ≤ R.cells ∧ slots + rm.slots ≤ R.slots)
    (kk : Wk p l e R s m args below meth c cl D K NL ad A H0 nL (cells + rm.cells) (slots + rm.slots) Q G1 x1 (pc + 3) L (f_psh rv rest)) : Wk p l e R s m args below meth c cl D K NL ad A H0 nL cells slots Q G x pc L st0 := fun H locs ls h1 h2 h3 => by
  obtain ⟨q, hq⟩ := List.getElem?_of_mem hn
  exact f_back hC (va_runV (As := As) (rest := rest) hC.1 (h H.size) cw ⟨f_blind, va_recv hC.hK h1 hc ((f_W_at hq).trans (by rw [he])), f_pre_of hC hN h1⟩ rfl hAs h3.1 (hst.trans (f_stk_eq _ _)) (lv_room hW) hdg hf) h2 h3 kk
theorem fk_callS {index maxL nA : Nat} {y : MethodName} {bytes : ByteArray} {ret : Option FieldType} {wsc : List Cond} {As : List Value} (hC : Cx p s m args c cc nL Ts own cl D K NL ad A H0) (hN : f_N s) (h : Kd l y wsc rm cl D K NL ad As G x rv G1 x1)
    (cw : CallB R s args own index y bytes maxL ret wsc rm rm.cells rm.slots nA ∧ (Cond.static y).before args s = true) (hAs : As.length = nA) (hst : st0 = f_stk As rest) (hW : (rest.map fun v => v.category).sum ≤ 8) (hdg : decode cc pc = .ok (.invokestatic index, 3)) (hf : cells + rm.cells ≤ R.cells ∧ slots + rm.slots ≤ R.slots)
    (kk : Wk p l e R s m args below meth c cl D K NL ad A H0 nL (cells + rm.cells) (slots + rm.slots) Q G1 x1 (pc + 3) L (f_psh rv rest)) : Wk p l e R s m args below meth c cl D K NL ad A H0 nL cells slots Q G x pc L st0 := fun H locs ls h1 h2 h3 =>
  f_back hC (va_runS (As := As) (rest := rest) hC.1 (h H.size) cw ⟨f_blind, f_pre_of hC hN h1⟩ rfl hAs h3.1 (hst.trans (f_stk_eq _ _)) (lv_room hW) hdg hf) h2 h3 kk
theorem fk_callSN {index maxL nA : Nat} {y : MethodName} {host : String} {bytes : ByteArray} {ret : Option FieldType} {wsc : List Cond} {As : List Value} (hC : Cx p s m args c cc nL Ts own cl D K NL ad A H0) (hN : f_N s) (h : Kd l y wsc rm cl D K NL ad As G x rv G1 x1)
    (cw : va_CN R s args own index y host bytes maxL ret wsc rm rm.cells rm.slots nA ∧ (Cond.static y).before args s = true ∧ True) (hAs : As.length = nA) (hst : st0 = f_stk As rest) (hW : (rest.map fun v => v.category).sum ≤ 8) (hdg : decode cc pc = .ok (.invokestatic index, 3)) (hf : cells + rm.cells ≤ R.cells ∧ slots + rm.slots ≤ R.slots)
    (kk : Wk p l e R s m args below meth c cl D K NL ad A H0 nL (cells + rm.cells) (slots + rm.slots) Q G1 x1 (pc + 3) L (f_psh rv rest)) : Wk p l e R s m args below meth c cl D K NL ad A H0 nL cells slots Q G x pc L st0 := fun H locs ls h1 h2 h3 =>
  f_back hC (va_runSN (Ts := Ts) (As := As) (rest := rest) hC.1 (h H.size) cw ⟨f_blind, f_pre_of hC hN h1⟩ rfl hAs h3.1 (hst.trans (f_stk_eq _ _)) (lv_room hW) hdg hf) h2 h3 kk
theorem fk_mmax {index : Nat} {a b : Int32} (hC : Cx p s m args c cc nL Ts own cl D K NL ad A H0) (hlink : Cond.methodLink own index Lib.Math.max.name ∈ Ts) (hstat : Cond.static Lib.Math.max.name ∈ Ts) (hini : Cond.initialized "java/lang/Math" ∈ Ts) (hcode : Cond.code Lib.Math.max.name Lib.Math.max.code 2 (some .int) ∈ Ts)
    (hframes : 1 ≤ R.frames) (hlocals : (rest.map fun v => v.category).sum + 13 ≤ R.locals) (hc : cells ≤ R.cells) (hs : slots ≤ R.slots) (hdg : decode cc pc = .ok (.invokestatic index, 3))
    (kk : Wk p l e R s m args below meth c cl D K NL ad A H0 nL cells slots Q G x (pc + 3) L (.int (if a < b then b else a) :: rest)) : Wk p l e R s m args below meth c cl D K NL ad A H0 nL cells slots Q G x pc L (.int b :: .int a :: rest) := fun H locs ls h1 h2 h3 =>
  va_mmax hC.hx hC.hb (hC.hml.trans h3.1.symm) hC.hown (hC.ts _ hlink) (hC.ts _ hstat) (hC.ts _ hini) (hC.ts _ hcode) hframes hlocals hc hs hdg (kk H locs ls h1 h2 h3)
/-- the ends -/
theorem f_ends {H : Heap} {locs : List Loc} {o : Option Value} (hC : Cx p s m args c cc nL Ts own cl D K NL ad (f_A NL ad s.heap.size) s.heap) (h1 : va_P D cl (f_W K NL ad G x) H) (h2 : va_S (f_A NL ad s.heap.size) s.heap H locs) (hr : o = rv) (hG : G = G1) (hx : x = x1) : ∀ t : State, t.heap = H → s.WarmedH t.vm → f_Post cl D K NL ad G1 x1 rv s.heap.size args s (.returned o) t := fun t ht hW => by
  subst hr; subst hG; subst hx
  exact ⟨⟨rfl, by rw [ht]; exact h1⟩, h2.F ht⟩
theorem fk_iret {v : Int32} (hC : Cx p s m args c cc nL Ts own cl D K NL ad (f_A NL ad s.heap.size) s.heap) (hr : meth.sig.returnType = some .int) (hlocks : meth.locks = false) (hdg : decode cc pc = .ok (.ireturn, 1)) (hv : some (.int v) = rv) (hG : G = G1) (hx : x = x1) :
    Wk p l e R s m args below meth c cl D K NL ad (f_A NL ad s.heap.size) s.heap nL cells slots (MQ below (f_Post cl D K NL ad G1 x1 rv s.heap.size) args s cells slots (f_A NL ad s.heap.size)) G x pc L [.int v] := fun H locs ls h1 h2 h3 =>
  W.iret hC.hx hC.hb hr (f_ends hC h1 h2 hv hG hx) h2.2.2 hdg hlocks
theorem fk_zret {v : Int32} {ty : FieldType} (hC : Cx p s m args c cc nL Ts own cl D K NL ad (f_A NL ad s.heap.size) s.heap) (hr : meth.sig.returnType = some ty) (hlocks : meth.locks = false) (hdg : decode cc pc = .ok (.ireturn, 1)) (hn : narrow ty (.int v) = .int v) (hv : some (.int v) = rv) (hG : G = G1) (hx : x = x1) :
    Wk p l e R s m args below meth c cl D K NL ad (f_A NL ad s.heap.size) s.heap nL cells slots (MQ below (f_Post cl D K NL ad G1 x1 rv s.heap.size) args s cells slots (f_A NL ad s.heap.size)) G x pc L [.int v] := fun H locs ls h1 h2 h3 =>
  W.zret hC.hx hC.hb hr hn (f_ends hC h1 h2 hv hG hx) h2.2.2 hdg hlocks
theorem fk_vret (hC : Cx p s m args c cc nL Ts own cl D K NL ad (f_A NL ad s.heap.size) s.heap) (hr : meth.sig.returnType = none) (hlocks : meth.locks = false) (hdg : decode cc pc = .ok (.return_, 1)) (hv : none = rv) (hG : G = G1) (hx : x = x1) :
    Wk p l e R s m args below meth c cl D K NL ad (f_A NL ad s.heap.size) s.heap nL cells slots (MQ below (f_Post cl D K NL ad G1 x1 rv s.heap.size) args s cells slots (f_A NL ad s.heap.size)) G x pc L [] := fun H locs ls h1 h2 h3 =>
  W.vret hC.hx hC.hb hr (f_ends hC h1 h2 hv hG hx) h2.2.2 hdg hlocks
theorem fk_lret {v : Int64} (hC : Cx p s m args c cc nL Ts own cl D K NL ad (f_A NL ad s.heap.size) s.heap) (hr : meth.sig.returnType = some .long) (hlocks : meth.locks = false) (hdg : decode cc pc = .ok (.lreturn, 1)) (hv : some (.long v) = rv) (hG : G = G1) (hx : x = x1) :
    Wk p l e R s m args below meth c cl D K NL ad (f_A NL ad s.heap.size) s.heap nL cells slots (MQ below (f_Post cl D K NL ad G1 x1 rv s.heap.size) args s cells slots (f_A NL ad s.heap.size)) G x pc L [.long v] := fun H locs ls h1 h2 h3 =>
  W.lret hC.hx hC.hb hr (f_ends hC h1 h2 hv hG hx) h2.2.2 hdg hlocks
theorem fk_dret {v : UInt64} (hC : Cx p s m args c cc nL Ts own cl D K NL ad (f_A NL ad s.heap.size) s.heap) (hr : meth.sig.returnType = some .double) (hlocks : meth.locks = false) (hdg : decode cc pc = .ok (.dreturn, 1)) (hv : some (.double v) = rv) (hG : G = G1) (hx : x = x1) :
    Wk p l e R s m args below meth c cl D K NL ad (f_A NL ad s.heap.size) s.heap nL cells slots (MQ below (f_Post cl D K NL ad G1 x1 rv s.heap.size) args s cells slots (f_A NL ad s.heap.size)) G x pc L [.double v] := fun H locs ls h1 h2 h3 =>
  W.dret hC.hx hC.hb hr (f_ends hC h1 h2 hv hG hx) h2.2.2 hdg hlocks
end Rows3
/-- a contract out of the walk from the entry -/
theorem Kd.of {l : Launch} {y : MethodName} {ws ws' : List Cond} {rm : Room} {cl : List vw_C} {D : va_G} {K : Nat → ClassId} {NL : List Nat} {ad : Nat → Nat} {av : List Value} {G : fM} {x : fX} {rv : Option Value} {G1 : fM} {x1 : fX} {cc : ByteArray} {maxL : Nat} {ret : Option FieldType} {L : List (Option Value)}
    (hy : plainName y.cls = true) (hw : ws = Cond.code y cc maxL ret :: ws') (hL : lv_args 0 av = f_lv 0 L) (hlen : (lg_sl av).length ≤ maxL)
    (body : ∀ (p : Program) (e : Env) (s : State) (m : MethodId) (args : Array Value) (below : List Frame) (meth : Method) (c : Code), Cx p s m args c cc maxL ws y.cls cl D K NL ad (f_A NL ad s.heap.size) s.heap → f_N s → meth.sig.returnType = ret → meth.locks = false → meth.name = y.name →
      Wk p l e rm s m args below meth c cl D K NL ad (f_A NL ad s.heap.size) s.heap maxL 0 0 (MQ below (f_Post cl D K NL ad G1 x1 rv s.heap.size) args s rm.cells rm.slots (f_A NL ad s.heap.size)) G x 0 L []) : Kd l y ws rm cl D K NL ad av G x rv G1 x1 := by
  intro sz
  refine Met.ofW (cc := cc) (maxL := maxL) (ret := ret) hy hw ?_
  intro p e s m args below meth c s₁ B hml hv
  obtain ⟨rfl, hsz, hP, hK, hD, hN⟩ := hv
  subst hsz
  have hts := atoms_spec (ws := ws) B.pre
  have hown : s.vm.findClass y.cls = some m.cls := findClass_of_methodNamed B.named
  have hl := lv_entry av (n := maxL) hlen
  rw [lg_entry_eq]
  exact body p e s m av.toArray below meth c ⟨⟨B.exec, B.bytes, hml, hown, hts⟩, hK, hD.self, fun q h => Or.inr h⟩ hN B.returns B.notSynchronized (name_of_methodNamed B.named B.method).1 s.heap [] _ hP va_S.rf (by unfold f_L; rw [← hL]; exact hl)
end FW3
