section
-- ===== PART A: goes FIRST, ahead of the names: the tables' words, and 'selects' of the private methods out of them =====
/-- a private method of a class that the tables say can be made, by its rows of tables_1 -/
def lw_okq (q : MethodName × Nat) : Prop := (q.1.cls ≠ "java/lang/invoke/MethodHandle" ∧ q.1.cls ≠ "java/lang/invoke/VarHandle") ∧ Cond.instantiable q.1.cls q.2 ∈ tables_1 ∧ Cond.privateMethod q.1 ∈ tables_1 ∧ Cond.instanceMethod q.1 ∈ tables_1
theorem lw_p0 : lw_okq (⟨"java/lang/Throwable", "fillInStackTrace", "(I)Ljava/lang/Throwable;"⟩, 6) := ⟨⟨by decide +kernel, by decide +kernel⟩, List.mem_of_getElem? (i := 287) (by decide +kernel), List.mem_of_getElem? (i := 285) (by decide +kernel), List.mem_of_getElem? (i := 286) (by decide +kernel)⟩
theorem lw_p1 : lw_okq (⟨"LoadBalancer", "requireConnection", "(I)V"⟩, 2) := ⟨⟨by decide +kernel, by decide +kernel⟩, List.mem_of_getElem? (i := 18) (by decide +kernel), List.mem_of_getElem? (i := 588) (by decide +kernel), List.mem_of_getElem? (i := 589) (by decide +kernel)⟩
theorem lw_p2 : lw_okq (⟨"LoadBalancerModel", "isServer", "(I)Z"⟩, 6) := ⟨⟨by decide +kernel, by decide +kernel⟩, List.mem_of_getElem? (i := 727) (by decide +kernel), List.mem_of_getElem? (i := 767) (by decide +kernel), List.mem_of_getElem? (i := 768) (by decide +kernel)⟩
theorem lw_p3 : lw_okq (⟨"LoadBalancerModel", "put", "(II)I"⟩, 6) := ⟨⟨by decide +kernel, by decide +kernel⟩, List.mem_of_getElem? (i := 727) (by decide +kernel), List.mem_of_getElem? (i := 771) (by decide +kernel), List.mem_of_getElem? (i := 772) (by decide +kernel)⟩
theorem lw_p4 : lw_okq (⟨"LoadBalancerModel", "choice", "(I)I"⟩, 6) := ⟨⟨by decide +kernel, by decide +kernel⟩, List.mem_of_getElem? (i := 727) (by decide +kernel), List.mem_of_getElem? (i := 819) (by decide +kernel), List.mem_of_getElem? (i := 820) (by decide +kernel)⟩
theorem lw_p5 : lw_okq (⟨"LoadBalancerModel", "layRow", "()V"⟩, 6) := ⟨⟨by decide +kernel, by decide +kernel⟩, List.mem_of_getElem? (i := 727) (by decide +kernel), List.mem_of_getElem? (i := 823) (by decide +kernel), List.mem_of_getElem? (i := 824) (by decide +kernel)⟩
theorem lw_p6 : lw_okq (⟨"LoadBalancerModel", "mayTake", "(I)Z"⟩, 6) := ⟨⟨by decide +kernel, by decide +kernel⟩, List.mem_of_getElem? (i := 727) (by decide +kernel), List.mem_of_getElem? (i := 827) (by decide +kernel), List.mem_of_getElem? (i := 828) (by decide +kernel)⟩
theorem lw_p7 : lw_okq (⟨"LoadBalancerModel", "stuckTo", "(I)I"⟩, 6) := ⟨⟨by decide +kernel, by decide +kernel⟩, List.mem_of_getElem? (i := 727) (by decide +kernel), List.mem_of_getElem? (i := 831) (by decide +kernel), List.mem_of_getElem? (i := 832) (by decide +kernel)⟩
theorem lw_p8 : lw_okq (⟨"LoadBalancerModel", "placeOfClient", "(I)I"⟩, 6) := ⟨⟨by decide +kernel, by decide +kernel⟩, List.mem_of_getElem? (i := 727) (by decide +kernel), List.mem_of_getElem? (i := 835) (by decide +kernel), List.mem_of_getElem? (i := 836) (by decide +kernel)⟩
theorem lw_p9 : lw_okq (⟨"LoadBalancerModel", "byPolicy", "(I)I"⟩, 6) := ⟨⟨by decide +kernel, by decide +kernel⟩, List.mem_of_getElem? (i := 727) (by decide +kernel), List.mem_of_getElem? (i := 839) (by decide +kernel), List.mem_of_getElem? (i := 840) (by decide +kernel)⟩
theorem lw_p10 : lw_okq (⟨"LoadBalancerModel", "nextInTurn", "()I"⟩, 6) := ⟨⟨by decide +kernel, by decide +kernel⟩, List.mem_of_getElem? (i := 727) (by decide +kernel), List.mem_of_getElem? (i := 843) (by decide +kernel), List.mem_of_getElem? (i := 844) (by decide +kernel)⟩
theorem lw_p11 : lw_okq (⟨"LoadBalancerModel", "mostCredit", "()I"⟩, 6) := ⟨⟨by decide +kernel, by decide +kernel⟩, List.mem_of_getElem? (i := 727) (by decide +kernel), List.mem_of_getElem? (i := 847) (by decide +kernel), List.mem_of_getElem? (i := 848) (by decide +kernel)⟩
theorem lw_p12 : lw_okq (⟨"LoadBalancerModel", "weightNow", "(I)I"⟩, 6) := ⟨⟨by decide +kernel, by decide +kernel⟩, List.mem_of_getElem? (i := 727) (by decide +kernel), List.mem_of_getElem? (i := 851) (by decide +kernel), List.mem_of_getElem? (i := 852) (by decide +kernel)⟩
theorem lw_p13 : lw_okq (⟨"LoadBalancerModel", "leastBusy", "()I"⟩, 6) := ⟨⟨by decide +kernel, by decide +kernel⟩, List.mem_of_getElem? (i := 727) (by decide +kernel), List.mem_of_getElem? (i := 855) (by decide +kernel), List.mem_of_getElem? (i := 856) (by decide +kernel)⟩
theorem lw_p14 : lw_okq (⟨"LoadBalancerModel", "byPoints", "(IZ)I"⟩, 6) := ⟨⟨by decide +kernel, by decide +kernel⟩, List.mem_of_getElem? (i := 727) (by decide +kernel), List.mem_of_getElem? (i := 859) (by decide +kernel), List.mem_of_getElem? (i := 860) (by decide +kernel)⟩
theorem lw_p15 : lw_okq (⟨"LoadBalancerModel", "ofTwo", "()I"⟩, 6) := ⟨⟨by decide +kernel, by decide +kernel⟩, List.mem_of_getElem? (i := 727) (by decide +kernel), List.mem_of_getElem? (i := 871) (by decide +kernel), List.mem_of_getElem? (i := 872) (by decide +kernel)⟩
def lw_privs_1 : List (MethodName × Nat) := [(⟨"java/lang/Throwable", "fillInStackTrace", "(I)Ljava/lang/Throwable;"⟩, 6), (⟨"LoadBalancer", "requireConnection", "(I)V"⟩, 2), (⟨"LoadBalancerModel", "isServer", "(I)Z"⟩, 6), (⟨"LoadBalancerModel", "put", "(II)I"⟩, 6), (⟨"LoadBalancerModel", "choice", "(I)I"⟩, 6), (⟨"LoadBalancerModel", "layRow", "()V"⟩, 6), (⟨"LoadBalancerModel", "mayTake", "(I)Z"⟩, 6), (⟨"LoadBalancerModel", "stuckTo", "(I)I"⟩, 6), (⟨"LoadBalancerModel", "placeOfClient", "(I)I"⟩, 6), (⟨"LoadBalancerModel", "byPolicy", "(I)I"⟩, 6), (⟨"LoadBalancerModel", "nextInTurn", "()I"⟩, 6), (⟨"LoadBalancerModel", "mostCredit", "()I"⟩, 6), (⟨"LoadBalancerModel", "weightNow", "(I)I"⟩, 6), (⟨"LoadBalancerModel", "leastBusy", "()I"⟩, 6), (⟨"LoadBalancerModel", "byPoints", "(IZ)I"⟩, 6), (⟨"LoadBalancerModel", "ofTwo", "()I"⟩, 6)]
theorem lw_r1 : ∀ q ∈ lw_privs_1, lw_okq q := List.forall_mem_cons.mpr ⟨lw_p0, List.forall_mem_cons.mpr ⟨lw_p1, List.forall_mem_cons.mpr ⟨lw_p2, List.forall_mem_cons.mpr ⟨lw_p3, List.forall_mem_cons.mpr ⟨lw_p4, List.forall_mem_cons.mpr ⟨lw_p5, List.forall_mem_cons.mpr ⟨lw_p6, List.forall_mem_cons.mpr ⟨lw_p7, List.forall_mem_cons.mpr ⟨lw_p8, List.forall_mem_cons.mpr ⟨lw_p9, List.forall_mem_cons.mpr ⟨lw_p10, List.forall_mem_cons.mpr ⟨lw_p11, List.forall_mem_cons.mpr ⟨lw_p12, List.forall_mem_cons.mpr ⟨lw_p13, List.forall_mem_cons.mpr ⟨lw_p14, List.forall_mem_cons.mpr ⟨lw_p15, fun _ h => absurd h List.not_mem_nil⟩⟩⟩⟩⟩⟩⟩⟩⟩⟩⟩⟩⟩⟩⟩⟩
theorem lw_p16 : lw_okq (⟨"LoadBalancerModel", "note", "(I)V"⟩, 6) := ⟨⟨by decide +kernel, by decide +kernel⟩, List.mem_of_getElem? (i := 727) (by decide +kernel), List.mem_of_getElem? (i := 883) (by decide +kernel), List.mem_of_getElem? (i := 884) (by decide +kernel)⟩
theorem lw_p17 : lw_okq (⟨"LoadBalancerModel", "remember", "(II)V"⟩, 6) := ⟨⟨by decide +kernel, by decide +kernel⟩, List.mem_of_getElem? (i := 727) (by decide +kernel), List.mem_of_getElem? (i := 887) (by decide +kernel), List.mem_of_getElem? (i := 888) (by decide +kernel)⟩
theorem lw_p18 : lw_okq (⟨"LoadBalancerModel", "goesFirst", "(II)Z"⟩, 6) := ⟨⟨by decide +kernel, by decide +kernel⟩, List.mem_of_getElem? (i := 727) (by decide +kernel), List.mem_of_getElem? (i := 891) (by decide +kernel), List.mem_of_getElem? (i := 892) (by decide +kernel)⟩
theorem lw_p19 : lw_okq (⟨"LoadBalancerModel", "wasOpened", "(I)Z"⟩, 6) := ⟨⟨by decide +kernel, by decide +kernel⟩, List.mem_of_getElem? (i := 727) (by decide +kernel), List.mem_of_getElem? (i := 899) (by decide +kernel), List.mem_of_getElem? (i := 900) (by decide +kernel)⟩
theorem lw_p20 : lw_okq (⟨"LoadBalancerModel", "addResult", "(IZ)V"⟩, 6) := ⟨⟨by decide +kernel, by decide +kernel⟩, List.mem_of_getElem? (i := 727) (by decide +kernel), List.mem_of_getElem? (i := 903) (by decide +kernel), List.mem_of_getElem? (i := 904) (by decide +kernel)⟩
theorem lw_p21 : lw_okq (⟨"LoadBalancerModel", "trip", "(I)V"⟩, 6) := ⟨⟨by decide +kernel, by decide +kernel⟩, List.mem_of_getElem? (i := 727) (by decide +kernel), List.mem_of_getElem? (i := 910) (by decide +kernel), List.mem_of_getElem? (i := 911) (by decide +kernel)⟩
def lw_privs_2 : List (MethodName × Nat) := [(⟨"LoadBalancerModel", "note", "(I)V"⟩, 6), (⟨"LoadBalancerModel", "remember", "(II)V"⟩, 6), (⟨"LoadBalancerModel", "goesFirst", "(II)Z"⟩, 6), (⟨"LoadBalancerModel", "wasOpened", "(I)Z"⟩, 6), (⟨"LoadBalancerModel", "addResult", "(IZ)V"⟩, 6), (⟨"LoadBalancerModel", "trip", "(I)V"⟩, 6)]
theorem lw_r2 : ∀ q ∈ lw_privs_2, lw_okq q := List.forall_mem_cons.mpr ⟨lw_p16, List.forall_mem_cons.mpr ⟨lw_p17, List.forall_mem_cons.mpr ⟨lw_p18, List.forall_mem_cons.mpr ⟨lw_p19, List.forall_mem_cons.mpr ⟨lw_p20, List.forall_mem_cons.mpr ⟨lw_p21, fun _ h => absurd h List.not_mem_nil⟩⟩⟩⟩⟩⟩
def lw_privs : List (MethodName × Nat) := lw_privs_1 ++ (lw_privs_2)
def lw_tbl : List Cond := k2_sels lw_privs ++ tables_1
theorem lw_privs_ok : ∀ q ∈ lw_privs, lw_okq q := by
  show ∀ q ∈ lw_privs_1 ++ (lw_privs_2), lw_okq q
  exact List.forall_mem_append.mpr ⟨lw_r1, lw_r2⟩
/-- the streams that the claim lets the run draw from -/
abbrev lw_cs : List Choice := [Jvm.Choice.named "NaN.bits"]
theorem lw_bits : nanBits ∈ lw_cs := by first | decide | exact List.mem_cons_self | simp [lw_cs, nanBits]
end
section
/-! ===== BEGIN words of one list among another's, by their places ===== -/
theorem goodIn_r {big : List Cond} (ws : List Cond) (ps : List Nat) (hp : ws = ps.filterMap (fun i => big[i]?)) (h : ws.all goodWord = true) : GoodIn big ws := by
  intro w hw
  have h1 := List.all_eq_true.mp h w hw
  rw [hp] at hw
  obtain ⟨i, -, hi⟩ := List.mem_filterMap.mp hw
  have hm : w ∈ big := by first | exact List.mem_of_getElem? hi | exact List.getElem?_mem hi
  exact ⟨hm, good_of_word h1⟩
theorem goodIn_app {big a b : List Cond} (ha : GoodIn big a) (hb : GoodIn big b) : GoodIn big (a ++ b) := fun w h => (List.mem_append.mp h).elim (ha w) (hb w)
theorem goodIn_ca {big a b : List Cond} {c : Cond} (ha : GoodIn big (c :: a)) (hb : GoodIn big b) : GoodIn big (c :: (a ++ b)) := fun w h => (List.mem_cons.mp h).elim (fun e => ha w (List.mem_cons.mpr (Or.inl e))) (fun h => (List.mem_append.mp h).elim (fun h => ha w (List.mem_cons.mpr (Or.inr h))) (hb w))
theorem goodIn_sub {big ws : List Cond} (hm : ∀ w ∈ ws, w ∈ big) (h : ws.all goodWord = true) : GoodIn big ws := fun w hw => ⟨hm w hw, good_of_word (List.all_eq_true.mp h w hw)⟩
/-! ===== END ===== -/

/-! ===== BEGIN exceptions that leave a method, and their catching by the caller (launches without stack traces) ===== -/
section VXA
/-! The laws vx_back, vx_callV, vx_callS, vx_callSW, vx_throw0, vx_throwS follow proofs of the library, with one case more: JvmDerived/Free/Laws.lean (Back.of_free), Shelf42/LK1.lean (callV, callS), Shelf/KitTraced.lean (throwNew0V, throwNewS). -/
/-- where a method has thrown q: the class by its name, the cell, what was written, the world -/
def vx_T (XC : String → State → State → Prop) (st : State) (q : Addr) (t : State) (mc ms : Nat) (free : Addr → Prop) : Prop :=
  ∃ (E : String) (ce : Cell) (L : List Loc), XC E st t ∧ t.heap[q]? = some ce ∧ ce.vm = .none ∧ st.vm.findClass E = some ce.cls ∧ st.WarmedH t.vm ∧ st.sameButNew ({ t with vm := st.vm } : State) L mc ms ∧ ∀ z ∈ L, free z.base
def vx_Q (Qc : Array Value → State → Outcome → State → Prop) (XC : String → State → State → Prop) (mc ms : Nat) (free : Addr → Prop) : Array Value → State → Outcome → State → Prop := fun a st o t =>
  (Qc a st o t ∧ ∃ L, FrameEnd st o t L mc ms ∧ ∀ q ∈ L, free q.base) ∨ ∃ q, o = .threw q ∧ vx_T XC st q t mc ms free
/-- a callee that returns or throws -/
def vx_Met (l : Launch) (y : MethodName) (ws : List Cond) (rm : Room) (Pc : Array Value → State → Prop) (Qc : Array Value → State → Outcome → State → Prop) (XC : String → State → State → Prop) (mc ms : Nat) (free : Addr → Prop) : Prop :=
  MetFree l y (headSpec ws rm) Pc (fun _ _ _ _ _ => True) (vx_Q Qc XC mc ms free)
def vx_Post (XC : String → State → State → Prop) (mc ms : Nat) (free : Addr → Prop) : Pt → Array Value → Addr → Pt → Prop := fun A a q B =>
  ∃ (g : JFrame) (mk : MethodId) (t : State) (L : List Loc) (E : String) (ce : Cell), B.U.heap = t.heap ∧ B.U.vm = t.vm ∧ XC E (A.U.calling g mk a) t ∧ t.heap[q]? = some ce ∧ ce.vm = .none ∧ A.U.vm.findClass E = some ce.cls ∧ B.locs = A.locs ++ L ∧ (∀ z ∈ L, free z.base) ∧ B.cells = A.cells + mc ∧ B.slots = A.slots + ms
def vx_Back (l : Launch) (R : Room) (p : Program) (e : Env) (below : List Frame) (s : State) (sargs : Array Value) (y : MethodName) (len W9 : Nat)
    (Pre : Pt → Array Value → Prop) (Post : Pt → Array Value → Option Value → Pt → Prop) (PostX : Pt → Array Value → Addr → Pt → Prop) : Prop :=
  ∀ (m : MethodId) (meth : Method) (c : Code) (A : Pt) (g : JFrame) (ig : Instr) (mk : MethodId) (a : Array Value),
    Stand p l e R s m sargs below meth c A.U A.locs A.cells A.slots → g.method = m → g.locals.size = c.maxLocals → decode c.code g.pc = .ok (ig, len) →
    2 * g.monitorRoom + (g.stack.map fun v => v.category).sum ≤ W9 → A.U.methodNamed? y = some mk → Pre A a →
    (∃ (v : Option Value) (B : Pt), Stand p l e R s m sargs below meth c B.U B.locs B.cells B.slots ∧ Post A a v B ∧
      Steps p.tables e below (doInvoke e (A.U.setTop g) [] mk a).1 (B.U.setTop { g with pc := g.pc + len, stack := v.toList ++ g.stack })) ∨
    (∃ (q : Addr) (B : Pt), Stand p l e R s m sargs below meth c B.U B.locs B.cells B.slots ∧ PostX A a q B ∧
      Steps p.tables e below (doInvoke e (A.U.setTop g) [] mk a).1 ((B.U.setTop g).pushFrame (.throwing q)))
section Payer
variable {l : Launch} {R : Room} {p : Program} {e : Env} {below : List Frame} {s : State} {sargs : Array Value} {y : MethodName} {len W9 : Nat}
theorem vx_back {ws : List Cond} {rm : Room} {Pc : Array Value → State → Prop} {Qc : Array Value → State → Outcome → State → Prop} {XC : String → State → State → Prop} {mc ms : Nat} {free : Addr → Prop} {bytes : ByteArray} {maxL : Nat} {ret : Option FieldType}
    (hM : vx_Met l y ws rm Pc Qc XC mc ms free) (hblind : FrameBlind Pc) (hrc : rm.cells = mc) (hrs : rm.slots = ms)
    (hframes : rm.frames + 1 ≤ R.frames) (hlocals : W9 + (maxL + 11) + rm.locals ≤ R.locals)
    (hws : ∀ w ∈ ws, ∀ a' U, s.WarmedH U.vm → w.before a' U = true) (hcode : Cond.code y bytes maxL ret ∈ ws) (hinit : ∀ a' U, s.WarmedH U.vm → (Cond.initialized y.cls).before a' U = true) :
    vx_Back l R p e below s sargs y len W9 (PreOf R mc ms Pc) (PostOf Qc mc ms free) (vx_Post XC mc ms free) := by
  intro m meth c A g ig mk a X hg hsize hdg hW hn hp
  have h1 : (headSpec ws rm).pre.before a A.U = true := atoms_intro fun w hw => hws w hw _ _ X.warmed
  have h2 : (Cond.code y bytes maxL ret).before a A.U = true := hws _ hcode _ _ X.warmed
  have h3 : (Cond.initialized y.cls).before a A.U = true := hinit _ _ X.warmed
  have h4 : A.cells + (headSpec ws rm).room.cells ≤ R.cells := by rw [show (headSpec ws rm).room.cells = mc from hrc]; exact hp.1
  have h5 : A.slots + (headSpec ws rm).room.slots ≤ R.slots := by rw [show (headSpec ws rm).room.slots = ms from hrs]; exact hp.2.1
  have hPc : Pc a (A.U.calling g mk a) := hblind _ _ _ _ hp.2.2
  obtain ⟨U, Ls, c0, s0⟩ := A
  dsimp only [Pt.U, Pt.locs, Pt.cells, Pt.slots] at h1 h2 h3 h4 h5 X hn hPc ⊢
  obtain ⟨methY, cY, hmY, hcY, -, hlY, -, -, -, -⟩ := Cond.code_spec hn h2
  obtain ⟨kY, hkY, -⟩ := className_of_methodNamed hn
  have hinitY : kY.init = .initialized := Cond.initialized_spec (findClass_of_methodNamed hn) hkY h3
  have h : At U g.method c below := by rw [hg]; exact X.here
  have hlocals9 : W9 + (maxL + 11) + (headSpec ws rm).room.locals ≤ R.locals := hlocals
  have happ : (headSpec ws rm).appliesLoose y e.platform (U.calling g mk a) = true :=
    Spec.appliesLoose_calling (g := g) h hdg hn hkY hinitY
      (X.room_calling (g := g) (R' := (headSpec ws rm).room) hsize hmY hcY hframes (by rw [hlY]; omega) h4 h5) h1
  obtain ⟨mid, hmid⟩ := h.above
  have hfr : (U.setTop g).frames = (.java g :: mid) ++ below := by rw [State.frames_setTop' g h.top, hmid]; rfl
  obtain ⟨o, s₂, hsteps, -, hend, hq⟩ := Steps.callFree hM p X.admits X.cas X.clock (acts := []) hfr happ hPc trivial
  have hq' : vx_Q Qc XC mc ms free a (U.calling g mk a) o s₂ := hq
  rw [State.frames_setTop' g h.top] at hend
  obtain ⟨g₀, hg0⟩ := Option.isSome_iff_exists.mp h.top
  obtain ⟨r, hr⟩ := State.topJava?_eq_some.mp hg0
  have hr' : (({ U with heap := s₂.heap, slotsUsed := s₂.slotsUsed } : State).setVm s₂.vm).frames = .java g₀ :: r := hr
  rcases hq' with ⟨hqc, L, hfe, hL⟩ | ⟨q, rfl, E, ce, L, hx, hce, hcv, hcl, hW₂, hsm, hL⟩
  · obtain ⟨⟨v, rfl⟩, hW₂, e2, q2, q3, q4, q5, q6⟩ := id hfe
    have e3 : s₂ = ({ (U.calling g mk a).setFrames s₂.frames with heap := s₂.heap, slotsUsed := s₂.slotsUsed } : State).setVm s₂.vm := by
      have : s₂ = ({ s₂ with vm := (U.calling g mk a).vm } : State).setVm s₂.vm := rfl
      rw [e2] at this
      exact this
    obtain ⟨c₂, i₂, len₂, hc₂, hd₂, hf₂⟩ := hend
    have hW' : U.WarmedH s₂.vm := hW₂
    have hcc : c₂ = c := by
      have h1 : s₂.code? g.method = U.code? g.method := by
        rw [State.code?_eq, State.code?_eq, hW'.alike.method?]
      exact Option.some.inj (hc₂.symm.trans (h1.trans h.code))
    subst hcc
    have hlen : len₂ = len := by rw [hdg] at hd₂; cases hd₂; rfl
    subst hlen
    have hs₂ : s₂ = (({ U with heap := s₂.heap, slotsUsed := s₂.slotsUsed } : State).setVm s₂.vm).setTop { g with pc := g.pc + len₂, stack := v.toList ++ g.stack } := by
      refine e3.trans ?_
      rw [hf₂, State.calling_eq h.top, State.setFrames_setFrames, State.setTop_of_frames _ hr', hr]
      rfl
    have hsame : U.sameButNew ({ U with heap := s₂.heap, slotsUsed := s₂.slotsUsed } : State) L mc ms := by
      refine ⟨?_, q2, q3, q4, q5, q6⟩
      obtain ⟨t, ht, -⟩ := State.frames_cons hr
      show ({ U with heap := s₂.heap, slotsUsed := s₂.slotsUsed } : State) = { U.setFrames U.frames with heap := s₂.heap, slotsUsed := s₂.slotsUsed }
      rw [State.setFrames_self ht]
    subst hg
    refine Or.inl ⟨v, ⟨(({ U with heap := s₂.heap, slotsUsed := s₂.slotsUsed } : State).setVm s₂.vm), Ls ++ L, c0 + mc, s0 + ms⟩,
      ⟨X.admits, X.cas, X.clock, X.frames, X.room, X.hears, X.method, X.code, (X.here.setHeapUsed s₂.heap s₂.slotsUsed).setVm hW'.alike, X.tail, State.WarmedH.trans X.warmed hW', X.limits, X.bytes, X.same.trans (hsame.setVm s.vm)⟩,
      ⟨g, mk, s₂, L, rfl, rfl, hqc, rfl, hL, rfl, rfl⟩, ?_⟩
    show Steps p.tables e below _ ((({ U with heap := s₂.heap, slotsUsed := s₂.slotsUsed } : State).setVm s₂.vm).setTop { g with pc := g.pc + len₂, stack := v.toList ++ g.stack })
    rw [← hs₂]
    exact hsteps
  · obtain ⟨e2, q2, q3, q4, q5, q6⟩ := id hsm
    have e3 : s₂ = ({ (U.calling g mk a).setFrames s₂.frames with heap := s₂.heap, slotsUsed := s₂.slotsUsed } : State).setVm s₂.vm := by
      have : s₂ = ({ s₂ with vm := (U.calling g mk a).vm } : State).setVm s₂.vm := rfl
      rw [e2] at this
      exact this
    have hf₂ : s₂.frames = .throwing q :: .java g :: U.frames.tail := hend
    have hW' : U.WarmedH s₂.vm := hW₂
    have hs₂ : s₂ = ((({ U with heap := s₂.heap, slotsUsed := s₂.slotsUsed } : State).setVm s₂.vm).setTop g).pushFrame (.throwing q) := by
      refine e3.trans ?_
      rw [hf₂, State.calling_eq h.top, State.setFrames_setFrames, State.pushFrame, State.frames_setTop _ hr', State.setTop_of_frames _ hr', State.setFrames_setFrames, hr]
      rfl
    have hsame : U.sameButNew ({ U with heap := s₂.heap, slotsUsed := s₂.slotsUsed } : State) L mc ms := by
      refine ⟨?_, q2, q3, q4, q5, q6⟩
      obtain ⟨t, ht, -⟩ := State.frames_cons hr
      show ({ U with heap := s₂.heap, slotsUsed := s₂.slotsUsed } : State) = { U.setFrames U.frames with heap := s₂.heap, slotsUsed := s₂.slotsUsed }
      rw [State.setFrames_self ht]
    subst hg
    refine Or.inr ⟨q, ⟨(({ U with heap := s₂.heap, slotsUsed := s₂.slotsUsed } : State).setVm s₂.vm), Ls ++ L, c0 + mc, s0 + ms⟩,
      ⟨X.admits, X.cas, X.clock, X.frames, X.room, X.hears, X.method, X.code, (X.here.setHeapUsed s₂.heap s₂.slotsUsed).setVm hW'.alike, X.tail, State.WarmedH.trans X.warmed hW', X.limits, X.bytes, X.same.trans (hsame.setVm s.vm)⟩,
      ⟨g, mk, s₂, L, E, ce, rfl, rfl, hx, hce, hcv, hcl, rfl, hL, rfl, rfl⟩, ?_⟩
    show Steps p.tables e below _ (((({ U with heap := s₂.heap, slotsUsed := s₂.slotsUsed } : State).setVm s₂.vm).setTop g).pushFrame (.throwing q))
    rw [← hs₂]
    exact hsteps
end Payer
section Calls
variable {p : Program} {l : Launch} {e : Env} {R : Room} {s : State} {m : MethodId} {args : Array Value} {below : List Frame} {meth : Method} {c : Code} {T : State} {locs : List Loc} {cells slots : Nat}
theorem vx_callV (X : Stand p l e R s m args below meth c T locs cells slots) (hexec : p.tables.exec = Jvm.exec) {own C : String} {index : Nat} {y : MethodName} {bytes : ByteArray} {maxL : Nat} {ret : Option FieldType}
    (hown : s.vm.findClass own = some m.cls) (hlink : (Cond.methodLink own index y).before args s = true) (hinst : (Cond.instanceMethod y).before args s = true) (hsel : (Cond.selects C y y).before args s = true)
    (hcode : (Cond.code y bytes maxL ret).before args s = true) (hy : y.cls ≠ "java/lang/invoke/MethodHandle" ∧ y.cls ≠ "java/lang/invoke/VarHandle")
    {W9 : Nat} {Pre : Pt → Array Value → Prop} {Post : Pt → Array Value → Option Value → Pt → Prop} {PostX : Pt → Array Value → Addr → Pt → Prop} (hK : vx_Back l R p e below s args y 3 W9 Pre Post PostX)
    {b : Addr} {cellB : Cell} (hcell : T.heap[b]? = some cellB) (hobj : cellB.vm.isStatics = false) (hcls : s.vm.findClass C = some cellB.cls)
    {g : JFrame} (hg : g.method = m) (hsize : g.locals.size = c.maxLocals) {argsL rest : List Value} (hlen : ∀ sig, parseMethodDescriptor y.desc = some sig → argsL.length = sig.parameters.length)
    (hstack : g.stack = argsL.reverse ++ .ref b :: rest) (hW : 2 * g.monitorRoom + (rest.map fun v => v.category).sum ≤ W9) (hdg : decode c.code g.pc = .ok (.invokevirtual index, 3))
    (hpre : ∀ vm₁, s.WarmedH vm₁ → Pre ⟨T.setVm vm₁, locs, cells, slots⟩ (Value.ref b :: argsL).toArray) :
    (∃ (v : Option Value) (vm₁ : Vm) (B : Pt), s.WarmedH vm₁ ∧ Stand p l e R s m args below meth c B.U B.locs B.cells B.slots ∧ Post ⟨T.setVm vm₁, locs, cells, slots⟩ (Value.ref b :: argsL).toArray v B ∧
      ∀ target, Steps p.tables e below (B.U.setTop { g with pc := g.pc + 3, stack := v.toList ++ rest }) target → Steps p.tables e below (T.setTop g) target) ∨
    (∃ (q : Addr) (vm₁ : Vm) (B : Pt), s.WarmedH vm₁ ∧ Stand p l e R s m args below meth c B.U B.locs B.cells B.slots ∧ PostX ⟨T.setVm vm₁, locs, cells, slots⟩ (Value.ref b :: argsL).toArray q B ∧
      Steps p.tables e below (T.setTop g) ((B.U.setTop { g with stack := rest }).pushFrame (.throwing q))) := by
  obtain ⟨mk, methM, hnamed, hmethM, hstM, habM⟩ := Cond.instanceMethod_spec hinst
  obtain ⟨methM', cM, hmethM', -, -, -, -, -, -, hsigM⟩ := Cond.code_spec hnamed hcode
  cases hmethM.symm.trans hmethM'
  obtain ⟨c2, r2, m2, q1, q2, q3, q4, kP, hkP, hkPi⟩ := Cond.selects_spec hsel
  cases hcls.symm.trans q1
  cases (State.methodFound?_of_named hnamed hy).symm.trans q2
  cases hnamed.symm.trans q3
  have hselP : selectMethod e.platform s.vm cellB.cls mk = .method mk := by rw [Launch.admits_selectMethod X.admits]; exact q4
  obtain ⟨vm₁, X₁, hstep₁⟩ := X.invokevirtual hexec hown hlink hnamed hmethM hstM hkP hkPi hy (a := b) (cell := cellB) hcell
    (fun z h => by rw [h] at hobj; cases hobj) hselP hmethM habM hkP hkPi (g := g) hg (argsL := argsL) (rest := rest) (hlen _ hsigM) hstack hdg
  rcases hK m meth c ⟨T.setVm vm₁, locs, cells, slots⟩ { g with stack := rest } (.invokevirtual index) mk (Value.ref b :: argsL).toArray X₁ hg hsize hdg hW (X₁.named hnamed) (hpre vm₁ X₁.warmed) with ⟨v, B, X', hpost, hsteps⟩ | ⟨q, B, X', hpost, hsteps⟩
  · exact Or.inl ⟨v, vm₁, B, X₁.warmed, X', hpost, fun target h => hstep₁ _ fun acts => by rw [doInvoke_state]; exact hsteps.trans h⟩
  · exact Or.inr ⟨q, vm₁, B, X₁.warmed, X', hpost, hstep₁ _ fun acts => by rw [doInvoke_state]; exact hsteps⟩
theorem vx_callS (X : Stand p l e R s m args below meth c T locs cells slots) (hexec : p.tables.exec = Jvm.exec) {own : String} {index : Nat} {y : MethodName} {bytes : ByteArray} {maxL : Nat} {ret : Option FieldType}
    (hown : s.vm.findClass own = some m.cls) (hlink : (Cond.methodLink own index y).before args s = true) (hstat : (Cond.static y).before args s = true) (hinit : (Cond.initialized y.cls).before args s = true)
    (hcode : (Cond.code y bytes maxL ret).before args s = true) (hy : y.cls ≠ "java/lang/invoke/MethodHandle" ∧ y.cls ≠ "java/lang/invoke/VarHandle")
    {W9 : Nat} {Pre : Pt → Array Value → Prop} {Post : Pt → Array Value → Option Value → Pt → Prop} {PostX : Pt → Array Value → Addr → Pt → Prop} (hK : vx_Back l R p e below s args y 3 W9 Pre Post PostX)
    {g : JFrame} (hg : g.method = m) (hsize : g.locals.size = c.maxLocals) {argsL rest : List Value} (hlen : ∀ sig, parseMethodDescriptor y.desc = some sig → argsL.length = sig.parameters.length)
    (hstack : g.stack = argsL.reverse ++ rest) (hW : 2 * g.monitorRoom + (rest.map fun v => v.category).sum ≤ W9) (hdg : decode c.code g.pc = .ok (.invokestatic index, 3))
    (hpre : ∀ vm₁, s.WarmedH vm₁ → Pre ⟨T.setVm vm₁, locs, cells, slots⟩ argsL.toArray) :
    (∃ (v : Option Value) (vm₁ : Vm) (B : Pt), s.WarmedH vm₁ ∧ Stand p l e R s m args below meth c B.U B.locs B.cells B.slots ∧ Post ⟨T.setVm vm₁, locs, cells, slots⟩ argsL.toArray v B ∧
      ∀ target, Steps p.tables e below (B.U.setTop { g with pc := g.pc + 3, stack := v.toList ++ rest }) target → Steps p.tables e below (T.setTop g) target) ∨
    (∃ (q : Addr) (vm₁ : Vm) (B : Pt), s.WarmedH vm₁ ∧ Stand p l e R s m args below meth c B.U B.locs B.cells B.slots ∧ PostX ⟨T.setVm vm₁, locs, cells, slots⟩ argsL.toArray q B ∧
      Steps p.tables e below (T.setTop g) ((B.U.setTop { g with stack := rest }).pushFrame (.throwing q))) := by
  obtain ⟨mk, hnamed⟩ := Cond.code_named hcode
  obtain ⟨methM, cM, hmethM, -, -, -, -, -, -, hsigM⟩ := Cond.code_spec hnamed hcode
  have hstatic : methM.isStatic = true := Cond.static_spec hnamed hmethM hstat
  obtain ⟨kP, hkP, -⟩ := className_of_methodNamed hnamed
  have hinitP : kP.init = .initialized := Cond.initialized_spec (findClass_of_methodNamed hnamed) hkP hinit
  obtain ⟨vm₁, X₁, hstep₁⟩ := X.invokestatic hexec hown hlink hnamed hmethM hstatic hkP hinitP hy (g := g) hg (argsL := argsL) (rest := rest) (hlen _ hsigM) hstack hdg
  rcases hK m meth c ⟨T.setVm vm₁, locs, cells, slots⟩ { g with stack := rest } (.invokestatic index) mk argsL.toArray X₁ hg hsize hdg hW (X₁.named hnamed) (hpre vm₁ X₁.warmed) with ⟨v, B, X', hpost, hsteps⟩ | ⟨q, B, X', hpost, hsteps⟩
  · exact Or.inl ⟨v, vm₁, B, X₁.warmed, X', hpost, fun target h => hstep₁ _ fun acts => by rw [doInvoke_state]; exact hsteps.trans h⟩
  · exact Or.inr ⟨q, vm₁, B, X₁.warmed, X', hpost, hstep₁ _ fun acts => by rw [doInvoke_state]; exact hsteps⟩
end Calls
theorem vx_cls {s : State} {T : State} {vm₁ : Vm} {E : String} {k : ClassId} (hW : s.WarmedH vm₁) (h : (T.setVm vm₁).vm.findClass E = some k) : s.vm.findClass E = some k := by
  have h1 : vm₁.findClass E = some k := h
  rw [hW.alike.findClass] at h1
  exact h1
/-- the method's frame g, with q thrown over it -/
def vx_W (p : Program) (l : Launch) (e : Env) (R : Room) (s : State) (m : MethodId) (args : Array Value) (below : List Frame) (meth : Method) (c : Code) (H : Heap) (locs : List Loc) (cells slots : Nat) (Q : State → Prop) (g : JFrame) (q : Addr) : Prop :=
  ∀ T : State, T.heap = H → Stand p l e R s m args below meth c T locs cells slots → ∃ t, Steps p.tables e below ((T.setTop g).pushFrame (.throwing q)) t ∧ Q t
def vx_Run (p : Program) (l : Launch) (e : Env) (R : Room) (s : State) (m : MethodId) (args : Array Value) (below : List Frame) (meth : Method) (c : Code) (H : Heap) (locs : List Loc) (cells slots mc ms : Nat) (g : JFrame) (rest : List Value) (Qa : State → Outcome → State → Prop) (XC : String → State → State → Prop) (free : Addr → Prop) : Prop :=
  ∀ T : State, T.heap = H → Stand p l e R s m args below meth c T locs cells slots →
    (∃ (v : Option Value) (st₀ t T' : State) (L : List Loc), st₀.heap = H ∧ Stand p l e R s m args below meth c T' (locs ++ L) (cells + mc) (slots + ms) ∧ (∀ q ∈ L, free q.base) ∧ T'.heap = t.heap ∧ T'.vm = t.vm ∧ Qa st₀ (.returned v) t ∧
      Goes p e below T g T' { g with pc := g.pc + 3, stack := v.toList ++ rest }) ∨
    (∃ (q : Addr) (st₀ t T' : State) (L : List Loc) (E : String) (ce : Cell), st₀.heap = H ∧ Stand p l e R s m args below meth c T' (locs ++ L) (cells + mc) (slots + ms) ∧ (∀ z ∈ L, free z.base) ∧ T'.heap = t.heap ∧ T'.vm = t.vm ∧ XC E st₀ t ∧ t.heap[q]? = some ce ∧ ce.vm = .none ∧ s.vm.findClass E = some ce.cls ∧
      Steps p.tables e below (T.setTop g) ((T'.setTop { g with stack := rest }).pushFrame (.throwing q)))
def vx_X {S : Type} (px : S → Prop) (B : String → S → State → Prop) (A : Nat → Prop) : String → State → State → Prop := fun E st t => ∃ u : S, px u ∧ B E u t ∧ va_F A st t
section Runs
variable {p : Program} {l : Launch} {e : Env} {R : Room} {s : State} {m : MethodId} {args : Array Value} {below : List Frame} {meth : Method} {c : Code} {H : Heap} {locs : List Loc} {cells slots : Nat}
variable {y : MethodName} {bytes cc : ByteArray} {maxL nL mc ms n index : Nat} {ret : Option FieldType} {ws : List Cond} {rm : Room} {Pc : Array Value → State → Prop} {Qc : Array Value → State → Outcome → State → Prop} {XC : String → State → State → Prop} {free : Addr → Prop} {Ts : List Cond} {own C : String} {b : Addr} {As rest : List Value} {g : JFrame}
theorem vx_callBack (cb : CallB R s args own index y bytes maxL ret ws rm mc ms n) (hM : vx_Met l y ws rm Pc Qc XC mc ms free) (hbl : FrameBlind Pc) : vx_Back l R p e below s args y 3 8 (PreOf R mc ms Pc) (PostOf Qc mc ms free) (vx_Post XC mc ms free) := by
  obtain ⟨hrc, hrs, hfr, hlo, hws, hcw, -, hini, -⟩ := cb
  exact vx_back (bytes := bytes) (maxL := maxL) (ret := ret) hM hbl hrc hrs hfr hlo hws hcw (fun a' U hW => word_at hW (Or.inl (by first | rfl | simp [Cond.onTables, Cond.keeps, Cond.steady])) hini)
theorem vx_runV (S : CallFix p m c cc nL s args Ts own) (hM : vx_Met l y ws rm Pc Qc XC mc ms free) (cw : CallW R s args own C index y bytes maxL ret ws rm mc ms n) (hp : PreV s H C b Pc As)
    (hg : g.method = m) (hn : As.length = n) (hsize : g.locals.size = nL) (hstack : g.stack = As.reverse ++ .ref b :: rest) (hW : 2 * g.monitorRoom + (rest.map fun v => v.category).sum ≤ 8) (hdg : decode cc g.pc = .ok (.invokevirtual index, 3)) (hf : cells + mc ≤ R.cells ∧ slots + ms ≤ R.slots) :
    vx_Run p l e R s m args below meth c H locs cells slots mc ms g rest (Qc (Value.ref b :: As).toArray) XC free := by
  have hK : vx_Back l R p e below s args y 3 8 (PreOf R mc ms Pc) (PostOf Qc mc ms free) (vx_Post XC mc ms free) := vx_callBack cw.1 hM hp.1
  obtain ⟨⟨-, -, -, -, -, -, hcode, -, hy, hlen, hl⟩, hin, hse⟩ := cw
  obtain ⟨hx, hb, hml, ho, -⟩ := S
  obtain ⟨-, ⟨cellB, hcB, hoB, hclB⟩, hPc⟩ := hp
  intro T hT X
  rcases vx_callV X hx (C := C) (bytes := bytes) (maxL := maxL) (ret := ret) ho hl hin hse hcode hy hK (by rw [hT]; exact hcB) hoB hclB hg (hsize.trans hml.symm) (argsL := As) (rest := rest) (fun sig h => hn.trans (hlen sig h)) hstack hW (by rw [hb]; exact hdg)
    (fun vm₁ hW₁ => ⟨hf.1, hf.2, hPc (T.setVm vm₁) hT hW₁⟩) with ⟨v, vm₁, ⟨U', l2, c2, s2⟩, hW₁, X', ⟨g', mk, t, L, e1, e2, hq, h1, hL, h2, h3⟩, st⟩ | ⟨q, vm₁, ⟨U', l2, c2, s2⟩, hW₁, X', ⟨g', mk, t, L, E, ce, e1, e2, hq, hce, hcv, hcl, h1, hL, h2, h3⟩, st⟩
  · dsimp only [Pt.U, Pt.locs, Pt.cells, Pt.slots] at X' e1 e2 h1 h2 h3 st
    subst h1; subst h2; subst h3
    exact Or.inl ⟨v, (T.setVm vm₁).calling g' mk (Value.ref b :: As).toArray, t, U', L, hT, X', hL, e1, e2, hq, st⟩
  · dsimp only [Pt.U, Pt.locs, Pt.cells, Pt.slots] at X' e1 e2 h1 h2 h3 st hcl
    subst h1; subst h2; subst h3
    exact Or.inr ⟨q, (T.setVm vm₁).calling g' mk (Value.ref b :: As).toArray, t, U', L, E, ce, hT, X', hL, e1, e2, hq, hce, hcv, vx_cls hW₁ hcl, st⟩
theorem vx_runS (S : CallFix p m c cc nL s args Ts own) (hM : vx_Met l y ws rm Pc Qc XC mc ms free) (cw : CallB R s args own index y bytes maxL ret ws rm mc ms n ∧ (Cond.static y).before args s = true) (hp : PreS s H Pc As)
    (hg : g.method = m) (hn : As.length = n) (hsize : g.locals.size = nL) (hstack : g.stack = As.reverse ++ rest) (hW : 2 * g.monitorRoom + (rest.map fun v => v.category).sum ≤ 8) (hdg : decode cc g.pc = .ok (.invokestatic index, 3)) (hf : cells + mc ≤ R.cells ∧ slots + ms ≤ R.slots) :
    vx_Run p l e R s m args below meth c H locs cells slots mc ms g rest (Qc As.toArray) XC free := by
  have hK : vx_Back l R p e below s args y 3 8 (PreOf R mc ms Pc) (PostOf Qc mc ms free) (vx_Post XC mc ms free) := vx_callBack cw.1 hM hp.1
  obtain ⟨⟨-, -, -, -, -, -, hcode, hini, hy, hlen, hl⟩, hstt⟩ := cw
  obtain ⟨hx, hb, hml, ho, -⟩ := S
  intro T hT X
  rcases vx_callS X hx (bytes := bytes) (maxL := maxL) (ret := ret) ho hl hstt hini hcode hy hK hg (hsize.trans hml.symm) (argsL := As) (rest := rest) (fun sig h => hn.trans (hlen sig h)) hstack hW (by rw [hb]; exact hdg)
    (fun vm₁ hW₁ => ⟨hf.1, hf.2, hp.2 (T.setVm vm₁) hT hW₁⟩) with ⟨v, vm₁, ⟨U', l2, c2, s2⟩, hW₁, X', ⟨g', mk, t, L, e1, e2, hq, h1, hL, h2, h3⟩, st⟩ | ⟨q, vm₁, ⟨U', l2, c2, s2⟩, hW₁, X', ⟨g', mk, t, L, E, ce, e1, e2, hq, hce, hcv, hcl, h1, hL, h2, h3⟩, st⟩
  · dsimp only [Pt.U, Pt.locs, Pt.cells, Pt.slots] at X' e1 e2 h1 h2 h3 st
    subst h1; subst h2; subst h3
    exact Or.inl ⟨v, (T.setVm vm₁).calling g' mk As.toArray, t, U', L, hT, X', hL, e1, e2, hq, st⟩
  · dsimp only [Pt.U, Pt.locs, Pt.cells, Pt.slots] at X' e1 e2 h1 h2 h3 st hcl
    subst h1; subst h2; subst h3
    exact Or.inr ⟨q, (T.setVm vm₁).calling g' mk As.toArray, t, U', L, E, ce, hT, X', hL, e1, e2, hq, hce, hcv, vx_cls hW₁ hcl, st⟩
end Runs
section Rows
variable {p : Program} {l : Launch} {e : Env} {R : Room} {s : State} {m : MethodId} {args : Array Value} {below : List Frame} {meth : Method} {c : Code} {H : Heap} {locs : List Loc} {cells slots : Nat} {Q : State → Prop}
variable {mc ms : Nat} {free : Addr → Prop} {A0 A1 : Nat → Prop} {H0 : Heap} {a : Array Value} {pc : Nat} {ls : Array Slot} {st0 rest : List Value}
theorem vx_keep {st₀ t T' : State} {L : List Loc} (h0 : st₀.heap = H) (e1 : T'.heap = t.heap) (hS : va_S A0 H0 H locs) (hA : ∀ q, q < H.size → A1 q → A0 q) (hf : ∀ q, free q → A0 q) (hL : ∀ q ∈ L, free q.base) (hF : va_F A1 st₀ t) :
    H.size ≤ T'.heap.size ∧ (∀ q : Nat, q < H.size → ¬ A1 q → T'.heap[q]? = H[q]?) ∧ va_S A0 H0 T'.heap (locs ++ L) := by
  obtain ⟨hz, hk⟩ := hF
  rw [h0] at hz hk
  exact ⟨by rw [e1]; exact hz, fun q h1 h2 => by rw [e1]; exact hk q h1 h2,
    ⟨Nat.le_trans hS.1 (by rw [e1]; exact hz), fun q h1 h2 => by rw [e1, hk q (Nat.lt_of_lt_of_le h1 hS.1) (fun z => h2 (hA q (Nat.lt_of_lt_of_le h1 hS.1) z))]; exact hS.2.1 q h1 h2, fun q hq => by
      rcases List.mem_append.mp hq with h | h
      · exact hS.2.2 q h
      · exact hf _ (hL q h)⟩⟩
theorem vx_calli {S SX : Type} {post : Int32 → S → Prop} {px : SX → Prop} {B : S → State → Prop} {BX : String → SX → State → Prop} {AX : Nat → Prop} (hr : vx_Run p l e R s m args below meth c H locs cells slots mc ms (F0 m pc ls st0) rest (va_Qi post B A1 a) (vx_X px BX AX) free) (hS : va_S A0 H0 H locs) (hA : ∀ q, q < H.size → A1 q → A0 q) (hf : ∀ q, free q → A0 q) (hAX : ∀ q, q < H.size → AX q → A0 q)
    (kx : ∀ (E : String) (ce : Cell) (q9 : Addr) (u : SX) (t : State) (H1 : Heap) (locs1 : List Loc), t.heap = H1 → s.vm.Alike t.vm → px u → BX E u t → H.size ≤ H1.size → (∀ q : Nat, q < H.size → ¬ AX q → H1[q]? = H[q]?) → va_S A0 H0 H1 locs1 → H1[q9]? = some ce → ce.vm = .none → s.vm.findClass E = some ce.cls → vx_W p l e R s m args below meth c H1 locs1 (cells + mc) (slots + ms) Q (F0 m pc ls rest) q9)
    (kk : ∀ (r : Int32) (u : S) (t : State) (H1 : Heap) (locs1 : List Loc), t.heap = H1 → s.vm.Alike t.vm → post r u → B u t → H.size ≤ H1.size → (∀ q : Nat, q < H.size → ¬ A1 q → H1[q]? = H[q]?) → va_S A0 H0 H1 locs1 → W p l e R s m args below meth c H1 locs1 (cells + mc) (slots + ms) Q (F0 m (pc + 3) ls (.int r :: rest))) : W p l e R s m args below meth c H locs cells slots Q (F0 m pc ls st0) := by
  intro T hT X
  rcases hr T hT X with ⟨v, st₀, t, T', L, h0, X', hL, e1, e2, ⟨⟨r, u, hv, hp, hb⟩, hF⟩, st⟩ | ⟨q, st₀, t, T', L, E, ce, h0, X', hL, e1, e2, ⟨u, hp, hb, hF⟩, hce, hcv, hcl, st⟩
  · cases hv
    obtain ⟨k1, k2, k3⟩ := vx_keep h0 e1 hS hA hf hL hF
    obtain ⟨t2, a1, b1⟩ := kk r u t T'.heap (locs ++ L) e1.symm (by rw [← e2]; exact X'.warmed.alike) hp hb k1 k2 k3 T' rfl X'
    exact ⟨t2, st t2 a1, b1⟩
  · obtain ⟨k1, k2, k3⟩ := vx_keep h0 e1 hS hAX hf hL hF
    obtain ⟨t2, a1, b1⟩ := kx E ce q u t T'.heap (locs ++ L) e1.symm (by rw [← e2]; exact X'.warmed.alike) hp hb k1 k2 k3 (by rw [e1]; exact hce) hcv hcl T' rfl X'
    exact ⟨t2, st.trans a1, b1⟩
theorem vx_calll {S SX : Type} {post : Int64 → S → Prop} {px : SX → Prop} {B : S → State → Prop} {BX : String → SX → State → Prop} {AX : Nat → Prop} (hr : vx_Run p l e R s m args below meth c H locs cells slots mc ms (F0 m pc ls st0) rest (va_Ql post B A1 a) (vx_X px BX AX) free) (hS : va_S A0 H0 H locs) (hA : ∀ q, q < H.size → A1 q → A0 q) (hf : ∀ q, free q → A0 q) (hAX : ∀ q, q < H.size → AX q → A0 q)
    (kx : ∀ (E : String) (ce : Cell) (q9 : Addr) (u : SX) (t : State) (H1 : Heap) (locs1 : List Loc), t.heap = H1 → s.vm.Alike t.vm → px u → BX E u t → H.size ≤ H1.size → (∀ q : Nat, q < H.size → ¬ AX q → H1[q]? = H[q]?) → va_S A0 H0 H1 locs1 → H1[q9]? = some ce → ce.vm = .none → s.vm.findClass E = some ce.cls → vx_W p l e R s m args below meth c H1 locs1 (cells + mc) (slots + ms) Q (F0 m pc ls rest) q9)
    (kk : ∀ (r : Int64) (u : S) (t : State) (H1 : Heap) (locs1 : List Loc), t.heap = H1 → s.vm.Alike t.vm → post r u → B u t → H.size ≤ H1.size → (∀ q : Nat, q < H.size → ¬ A1 q → H1[q]? = H[q]?) → va_S A0 H0 H1 locs1 → W p l e R s m args below meth c H1 locs1 (cells + mc) (slots + ms) Q (F0 m (pc + 3) ls (.long r :: rest))) : W p l e R s m args below meth c H locs cells slots Q (F0 m pc ls st0) := by
  intro T hT X
  rcases hr T hT X with ⟨v, st₀, t, T', L, h0, X', hL, e1, e2, ⟨⟨r, u, hv, hp, hb⟩, hF⟩, st⟩ | ⟨q, st₀, t, T', L, E, ce, h0, X', hL, e1, e2, ⟨u, hp, hb, hF⟩, hce, hcv, hcl, st⟩
  · cases hv
    obtain ⟨k1, k2, k3⟩ := vx_keep h0 e1 hS hA hf hL hF
    obtain ⟨t2, a1, b1⟩ := kk r u t T'.heap (locs ++ L) e1.symm (by rw [← e2]; exact X'.warmed.alike) hp hb k1 k2 k3 T' rfl X'
    exact ⟨t2, st t2 a1, b1⟩
  · obtain ⟨k1, k2, k3⟩ := vx_keep h0 e1 hS hAX hf hL hF
    obtain ⟨t2, a1, b1⟩ := kx E ce q u t T'.heap (locs ++ L) e1.symm (by rw [← e2]; exact X'.warmed.alike) hp hb k1 k2 k3 (by rw [e1]; exact hce) hcv hcl T' rfl X'
    exact ⟨t2, st.trans a1, b1⟩
theorem vx_callf {S SX : Type} {post : UInt32 → S → Prop} {px : SX → Prop} {B : S → State → Prop} {BX : String → SX → State → Prop} {AX : Nat → Prop} (hr : vx_Run p l e R s m args below meth c H locs cells slots mc ms (F0 m pc ls st0) rest (va_Qf post B A1 a) (vx_X px BX AX) free) (hS : va_S A0 H0 H locs) (hA : ∀ q, q < H.size → A1 q → A0 q) (hf : ∀ q, free q → A0 q) (hAX : ∀ q, q < H.size → AX q → A0 q)
    (kx : ∀ (E : String) (ce : Cell) (q9 : Addr) (u : SX) (t : State) (H1 : Heap) (locs1 : List Loc), t.heap = H1 → s.vm.Alike t.vm → px u → BX E u t → H.size ≤ H1.size → (∀ q : Nat, q < H.size → ¬ AX q → H1[q]? = H[q]?) → va_S A0 H0 H1 locs1 → H1[q9]? = some ce → ce.vm = .none → s.vm.findClass E = some ce.cls → vx_W p l e R s m args below meth c H1 locs1 (cells + mc) (slots + ms) Q (F0 m pc ls rest) q9)
    (kk : ∀ (r : UInt32) (u : S) (t : State) (H1 : Heap) (locs1 : List Loc), t.heap = H1 → s.vm.Alike t.vm → post r u → B u t → H.size ≤ H1.size → (∀ q : Nat, q < H.size → ¬ A1 q → H1[q]? = H[q]?) → va_S A0 H0 H1 locs1 → W p l e R s m args below meth c H1 locs1 (cells + mc) (slots + ms) Q (F0 m (pc + 3) ls (.float r :: rest))) : W p l e R s m args below meth c H locs cells slots Q (F0 m pc ls st0) := by
  intro T hT X
  rcases hr T hT X with ⟨v, st₀, t, T', L, h0, X', hL, e1, e2, ⟨⟨r, u, hv, hp, hb⟩, hF⟩, st⟩ | ⟨q, st₀, t, T', L, E, ce, h0, X', hL, e1, e2, ⟨u, hp, hb, hF⟩, hce, hcv, hcl, st⟩
  · cases hv
    obtain ⟨k1, k2, k3⟩ := vx_keep h0 e1 hS hA hf hL hF
    obtain ⟨t2, a1, b1⟩ := kk r u t T'.heap (locs ++ L) e1.symm (by rw [← e2]; exact X'.warmed.alike) hp hb k1 k2 k3 T' rfl X'
    exact ⟨t2, st t2 a1, b1⟩
  · obtain ⟨k1, k2, k3⟩ := vx_keep h0 e1 hS hAX hf hL hF
    obtain ⟨t2, a1, b1⟩ := kx E ce q u t T'.heap (locs ++ L) e1.symm (by rw [← e2]; exact X'.warmed.alike) hp hb k1 k2 k3 (by rw [e1]; exact hce) hcv hcl T' rfl X'
    exact ⟨t2, st.trans a1, b1⟩
theorem vx_calld {S SX : Type} {post : UInt64 → S → Prop} {px : SX → Prop} {B : S → State → Prop} {BX : String → SX → State → Prop} {AX : Nat → Prop} (hr : vx_Run p l e R s m args below meth c H locs cells slots mc ms (F0 m pc ls st0) rest (va_Qd post B A1 a) (vx_X px BX AX) free) (hS : va_S A0 H0 H locs) (hA : ∀ q, q < H.size → A1 q → A0 q) (hf : ∀ q, free q → A0 q) (hAX : ∀ q, q < H.size → AX q → A0 q)
    (kx : ∀ (E : String) (ce : Cell) (q9 : Addr) (u : SX) (t : State) (H1 : Heap) (locs1 : List Loc), t.heap = H1 → s.vm.Alike t.vm → px u → BX E u t → H.size ≤ H1.size → (∀ q : Nat, q < H.size → ¬ AX q → H1[q]? = H[q]?) → va_S A0 H0 H1 locs1 → H1[q9]? = some ce → ce.vm = .none → s.vm.findClass E = some ce.cls → vx_W p l e R s m args below meth c H1 locs1 (cells + mc) (slots + ms) Q (F0 m pc ls rest) q9)
    (kk : ∀ (r : UInt64) (u : S) (t : State) (H1 : Heap) (locs1 : List Loc), t.heap = H1 → s.vm.Alike t.vm → post r u → B u t → H.size ≤ H1.size → (∀ q : Nat, q < H.size → ¬ A1 q → H1[q]? = H[q]?) → va_S A0 H0 H1 locs1 → W p l e R s m args below meth c H1 locs1 (cells + mc) (slots + ms) Q (F0 m (pc + 3) ls (.double r :: rest))) : W p l e R s m args below meth c H locs cells slots Q (F0 m pc ls st0) := by
  intro T hT X
  rcases hr T hT X with ⟨v, st₀, t, T', L, h0, X', hL, e1, e2, ⟨⟨r, u, hv, hp, hb⟩, hF⟩, st⟩ | ⟨q, st₀, t, T', L, E, ce, h0, X', hL, e1, e2, ⟨u, hp, hb, hF⟩, hce, hcv, hcl, st⟩
  · cases hv
    obtain ⟨k1, k2, k3⟩ := vx_keep h0 e1 hS hA hf hL hF
    obtain ⟨t2, a1, b1⟩ := kk r u t T'.heap (locs ++ L) e1.symm (by rw [← e2]; exact X'.warmed.alike) hp hb k1 k2 k3 T' rfl X'
    exact ⟨t2, st t2 a1, b1⟩
  · obtain ⟨k1, k2, k3⟩ := vx_keep h0 e1 hS hAX hf hL hF
    obtain ⟨t2, a1, b1⟩ := kx E ce q u t T'.heap (locs ++ L) e1.symm (by rw [← e2]; exact X'.warmed.alike) hp hb k1 k2 k3 (by rw [e1]; exact hce) hcv hcl T' rfl X'
    exact ⟨t2, st.trans a1, b1⟩
theorem vx_callv {S SX : Type} {post : S → Prop} {px : SX → Prop} {B : S → State → Prop} {BX : String → SX → State → Prop} {AX : Nat → Prop} (hr : vx_Run p l e R s m args below meth c H locs cells slots mc ms (F0 m pc ls st0) rest (va_Qv post B A1 a) (vx_X px BX AX) free) (hS : va_S A0 H0 H locs) (hA : ∀ q, q < H.size → A1 q → A0 q) (hf : ∀ q, free q → A0 q) (hAX : ∀ q, q < H.size → AX q → A0 q)
    (kx : ∀ (E : String) (ce : Cell) (q9 : Addr) (u : SX) (t : State) (H1 : Heap) (locs1 : List Loc), t.heap = H1 → s.vm.Alike t.vm → px u → BX E u t → H.size ≤ H1.size → (∀ q : Nat, q < H.size → ¬ AX q → H1[q]? = H[q]?) → va_S A0 H0 H1 locs1 → H1[q9]? = some ce → ce.vm = .none → s.vm.findClass E = some ce.cls → vx_W p l e R s m args below meth c H1 locs1 (cells + mc) (slots + ms) Q (F0 m pc ls rest) q9)
    (kk : ∀ (u : S) (t : State) (H1 : Heap) (locs1 : List Loc), t.heap = H1 → s.vm.Alike t.vm → post u → B u t → H.size ≤ H1.size → (∀ q : Nat, q < H.size → ¬ A1 q → H1[q]? = H[q]?) → va_S A0 H0 H1 locs1 → W p l e R s m args below meth c H1 locs1 (cells + mc) (slots + ms) Q (F0 m (pc + 3) ls (rest))) : W p l e R s m args below meth c H locs cells slots Q (F0 m pc ls st0) := by
  intro T hT X
  rcases hr T hT X with ⟨v, st₀, t, T', L, h0, X', hL, e1, e2, ⟨⟨u, hv, hp, hb⟩, hF⟩, st⟩ | ⟨q, st₀, t, T', L, E, ce, h0, X', hL, e1, e2, ⟨u, hp, hb, hF⟩, hce, hcv, hcl, st⟩
  · cases hv
    obtain ⟨k1, k2, k3⟩ := vx_keep h0 e1 hS hA hf hL hF
    obtain ⟨t2, a1, b1⟩ := kk u t T'.heap (locs ++ L) e1.symm (by rw [← e2]; exact X'.warmed.alike) hp hb k1 k2 k3 T' rfl X'
    exact ⟨t2, st t2 a1, b1⟩
  · obtain ⟨k1, k2, k3⟩ := vx_keep h0 e1 hS hAX hf hL hF
    obtain ⟨t2, a1, b1⟩ := kx E ce q u t T'.heap (locs ++ L) e1.symm (by rw [← e2]; exact X'.warmed.alike) hp hb k1 k2 k3 (by rw [e1]; exact hce) hcv hcl T' rfl X'
    exact ⟨t2, st.trans a1, b1⟩
/-- caught by the row x of this method's table; the rows ahead don't take it -/
theorem vx_catch {own name : String} {E : String} {ce : Cell} {q : Addr} (hown : s.vm.findClass own = some m.cls) (pre : List ExceptionTableEntry) (x : ExceptionTableEntry) (suf : List ExceptionTableEntry) (hsplit : c.exceptionTable.toList = pre ++ x :: suf)
    (hpass : ∀ z ∈ pre, covers z pc = false ∨ (z.catchType ≠ 0 ∧ ∃ nm : String, (Cond.classLink own z.catchType nm).before args s = true ∧ va_Nc E nm s)) (hx : covers x pc = true) (h0 : x.catchType ≠ 0)
    (hlink : (Cond.classLink own x.catchType name).before args s = true) (hcast : (Cond.castable E name).before args s = true) (hcell : H[q]? = some ce) (hv : ce.vm = .none) (hcl : s.vm.findClass E = some ce.cls)
    (kk : W p l e R s m args below meth c H locs cells slots Q (F0 m x.handlerPc ls [.ref q])) : vx_W p l e R s m args below meth c H locs cells slots Q (F0 m pc ls rest) q := by
  intro T hT X
  have hpl : e.platform.magicAccessors = ({} : Platform).magicAccessors := by rw [X.admits.platform]
  obtain ⟨c3, c4, hc3, hc4, hasg⟩ := Cond.castable_spec hcast
  cases Option.some.inj (hc3.symm.trans hcl)
  obtain ⟨c5, hc5, hcl5⟩ := Cond.classLink_spec hown hlink e.platform hpl
  cases Option.some.inj (hc4.symm.trans hc5)
  obtain ⟨vm', X', st⟩ := X.thenCaughtThrough q (g := F0 m pc ls rest) rfl (Steps.refl _) (by rw [hT]; exact hcell) (by rw [hv]; rfl) (by obtain ⟨k9, h9, -⟩ := Vm.findClass_spec hcl; exact ⟨k9, h9⟩) pre x suf hsplit
    (fun z hz => by
      rcases hpass z hz with h | ⟨hz0, nm, hl1, hn1⟩
      · exact Or.inl h
      · obtain ⟨c6, hc6, hcl6⟩ := Cond.classLink_spec hown hl1 e.platform hpl
        obtain ⟨a8, b8, h1, h2, h3⟩ := hn1
        cases Option.some.inj (h1.symm.trans hcl)
        cases Option.some.inj (h2.symm.trans hc6)
        exact Or.inr ⟨hz0, _, hcl6, h3⟩) hx (Or.inr ⟨h0, c4, hcl5, hasg⟩)
  obtain ⟨t, a1, b1⟩ := kk (T.setVm vm') hT X'
  exact ⟨t, st.trans a1, b1⟩
end Rows
section Ends
variable {p : Program} {l : Launch} {e : Env} {R : Room} {s : State} {m : MethodId} {args : Array Value} {below : List Frame} {meth : Method} {c : Code} {H : Heap} {locs : List Loc} {cells slots : Nat} {Q : State → Prop}
variable {mc ms : Nat} {free : Addr → Prop} {A0 A1 : Nat → Prop} {H0 : Heap} {a : Array Value} {ls : Array Slot} {st0 rest : List Value}
variable {Qc : Array Value → State → Outcome → State → Prop} {XC : String → State → State → Prop}
/-- what a body that may throw owes at its end -/
def vx_MQ (below : List Frame) (Qc : Array Value → State → Outcome → State → Prop) (XC : String → State → State → Prop) (a : Array Value) (s : State) (mc ms : Nat) (free : Addr → Prop) : State → Prop := fun t =>
  ∃ o, t.status = .running ∧ Ended t below o ∧ vx_Q Qc XC mc ms free a s o t
theorem vx_ret {g : JFrame} {mc ms : Nat} (k : W p l e R s m args below meth c H locs cells slots (MQ below Qc args s mc ms free) g) : W p l e R s m args below meth c H locs cells slots (vx_MQ below Qc XC args s mc ms free) g := by
  intro T hT X
  obtain ⟨t, a1, o, b1, b2, b3, b4⟩ := k T hT X
  exact ⟨t, a1, o, b1, b2, Or.inl ⟨b3, b4⟩⟩
/-- not caught here: it goes on to the caller -/
theorem vx_widen {g : JFrame} {q : Addr} {k n : Nat} (h1 : cells ≤ k) (h2 : slots ≤ n) (kk : vx_W p l e R s m args below meth c H locs k n Q g q) : vx_W p l e R s m args below meth c H locs cells slots Q g q := fun T hT X => kk T hT (stand_widen X h1 h2)
theorem vx_out {pc : Nat} {E : String} {ce : Cell} {q : Addr} {mc ms : Nat} (hout : ∀ x ∈ c.exceptionTable.toList, covers x pc = false) (hlocks : meth.locks = false) (hcell : H[q]? = some ce) (hv : ce.vm = .none) (hcl : s.vm.findClass E = some ce.cls)
    (hx : ∀ t : State, t.heap = H → s.vm.Alike t.vm → XC E s t) (hf : ∀ z ∈ locs, free z.base) (hc : cells ≤ mc) (hs : slots ≤ ms) :
    vx_W p l e R s m args below meth c H locs cells slots (vx_MQ below Qc XC args s mc ms free) (F0 m pc ls rest) q := by
  intro T hT X
  obtain ⟨st1, hrun, hend, hW, hsm⟩ := X.leaveThrown q (g := F0 m pc ls rest) rfl rfl rfl hout hlocks
  have hcell9 : (T.setFrames (.throwing q :: below)).heap[q]? = some ce := by
    show T.heap[q]? = some ce
    rw [hT]; exact hcell
  exact ⟨_, st1, .threw q, hrun, hend, Or.inr ⟨q, rfl, E, ce, locs, hx _ hT hW.alike, hcell9, hv, hcl, hW, hsm.mono hc hs, hf⟩⟩
theorem vx_frame {U : State} {k n : Nat} (h : s.sameButNew ({ U with vm := s.vm } : State) locs k n) : s.heap.size ≤ U.heap.size ∧ ∀ q : Nat, q < s.heap.size → (∀ z ∈ locs, z.base ≠ q) → U.heap[q]? = s.heap[q]? := by
  obtain ⟨-, h2, -, -, -, h6⟩ := h
  refine ⟨h2, fun q hq hz => ?_⟩
  obtain ⟨c9, e1, e2, e3, e4⟩ := h6 q _ (Array.getElem?_eq_getElem hq)
  have hs : c9.slots = (s.heap[q]).slots := Array.ext_getElem? fun i => e4 i fun hm => hz _ hm rfl
  have h9 : c9 = s.heap[q] := by
    rw [hs] at e2
    exact e2
  have e5 : U.heap[q]? = some c9 := e1
  rw [e5, h9, Array.getElem?_eq_getElem hq]
/-- the words of a throw but the four that speak of the heap -/
def vx_no (w : Cond) : Bool := decide (w ≠ .isRef (.static Bundle.tN "UNASSIGNED_STACK" Bundle.steD)) && decide (w ≠ .isRef (.static Bundle.tN "SUPPRESSED_SENTINEL" Bundle.listD)) && decide (w ≠ .laysStatic Bundle.tN "UNASSIGNED_STACK" Bundle.steD) && decide (w ≠ .laysStatic Bundle.tN "SUPPRESSED_SENTINEL" Bundle.listD)
def vx_at0 (own : String) (ic : Nat) (X : String) (names : List String) : List Cond := (Bundle.ownAtoms0 own ic X names).filter vx_no
def vx_atS (own : String) (ic : Nat) (X : String) (names : List String) : List Cond := (Bundle.ownAtoms own ic X names).filter vx_no
/-- a word that the tables alone decide, or a good one -/
def vx_ot (w : Cond) : Bool := w.onTables || goodWord w
theorem vx_ot_at {args a' : Array Value} {s U : State} {w : Cond} (hW : s.WarmedH U.vm) (hvm : s.vm = U.vm) (hg : vx_ot w = true) (h : w.before args s = true) : w.before a' U = true := by
  simp only [vx_ot, Bool.or_eq_true] at hg
  rcases hg with hg | hg
  · exact va_tabs hg hvm h
  · exact word_at hW (good_of_word hg) h
/-- a list's words: the good ones out of the method's own list, the others by premises of their own -/
theorem vx_hat {args : Array Value} {s : State} {L B : List Cond} (h1 : ∀ w ∈ L.filter goodWord, w.before args s = true) (h2 : ∀ w ∈ L.filter (fun w => !goodWord w), w ∈ B) (h3 : ∀ w ∈ B, w.before args s = true) : ∀ w ∈ L, w.before args s = true := by
  intro w hw
  by_cases g : goodWord w = true
  · exact h1 w (List.mem_filter.mpr ⟨hw, g⟩)
  · refine h3 w (h2 w (List.mem_filter.mpr ⟨hw, ?_⟩))
    show (!goodWord w) = true
    cases hgw : goodWord w
    · rfl
    · exact absurd hgw g
theorem vx_c {args : Array Value} {s : State} {w : Cond} {B : List Cond} (h : w.before args s = true) (t : ∀ w ∈ B, w.before args s = true) : ∀ w' ∈ w :: B, w'.before args s = true := fun w' h' => (List.mem_cons.mp h').elim (fun e => by rw [e]; exact h) (t w')
theorem vx_n {args : Array Value} {s : State} : ∀ w ∈ ([] : List Cond), w.before args s = true := fun _ h => nomatch h
theorem vx_own {args : Array Value} {s : State} {L : List Cond} (h1 : ∀ w ∈ L.filter vx_no, w.before args s = true)
    (hU : (Cond.isRef (.static Bundle.tN "UNASSIGNED_STACK" Bundle.steD)).before args s = true) (hN : (Cond.isRef (.static Bundle.tN "SUPPRESSED_SENTINEL" Bundle.listD)).before args s = true)
    (lU : (Cond.laysStatic Bundle.tN "UNASSIGNED_STACK" Bundle.steD).before args s = true) (lN : (Cond.laysStatic Bundle.tN "SUPPRESSED_SENTINEL" Bundle.listD).before args s = true) : ∀ w ∈ L, w.before args s = true := by
  intro w hw
  by_cases e1 : w = .isRef (.static Bundle.tN "UNASSIGNED_STACK" Bundle.steD)
  · rw [e1]; exact hU
  · by_cases e2 : w = .isRef (.static Bundle.tN "SUPPRESSED_SENTINEL" Bundle.listD)
    · rw [e2]; exact hN
    · by_cases e3 : w = .laysStatic Bundle.tN "UNASSIGNED_STACK" Bundle.steD
      · rw [e3]; exact lU
      · by_cases e4 : w = .laysStatic Bundle.tN "SUPPRESSED_SENTINEL" Bundle.listD
        · rw [e4]; exact lN
        · exact h1 w (List.mem_filter.mpr ⟨hw, by unfold vx_no; rw [decide_eq_true e1, decide_eq_true e2, decide_eq_true e3, decide_eq_true e4]; rfl⟩)
/-- where a static field lies, its class's statics cell in H -/
def vx_L (C n d : String) (A : Nat → Prop) (U : State) (H : Heap) : Prop := ∃ (c : ClassId) (k : Class) (i : Nat) (f : Field) (a : Nat) (cell : Cell), U.vm.findClass C = some c ∧ U.fieldFound? C n d = some (c, k, i, f) ∧ f.isStatic = true ∧ k.statics = some a ∧ H[a]? = some cell ∧ cell.vm.isStatics = true ∧ cell.cls = c ∧ f.slot < cell.slots.size ∧ k.staticTypes[f.slot]? = some f.type ∧ ¬ A a
theorem vx_L.moved {C n d : String} {A : Nat → Prop} {u U : State} {H : Heap} (hvm : u.vm.Alike U.vm) (h : vx_L C n d A u H) : vx_L C n d A U H := by
  obtain ⟨c, k, i, f, a, cell, h1, h2, h3, h4, h5, h6, h7, h8, h9, h10⟩ := h
  obtain ⟨k', hi', he⟩ := State.fieldFound?_setVm hvm h2
  exact ⟨c, k', i, f, a, cell, by rw [hvm.findClass]; exact h1, hi', h3, by rw [he]; exact h4, h5, h6, h7, h8, by rw [he]; exact h9, h10⟩
theorem vx_L.kept {C n d : String} {A : Nat → Prop} {U : State} {H H1 : Heap} (h : vx_L C n d A U H) (hq : ∀ a : Nat, a < H.size → ¬ A a → H1[a]? = H[a]?) : vx_L C n d A U H1 := by
  obtain ⟨c, k, i, f, a, cell, h1, h2, h3, h4, h5, h6, h7, h8, h9, h10⟩ := h
  exact ⟨c, k, i, f, a, cell, h1, h2, h3, h4, by rw [hq a (Array.getElem?_eq_some_iff.mp h5).1 h10]; exact h5, h6, h7, h8, h9, h10⟩
theorem vx_L.narrow {C n d : String} {A B : Nat → Prop} {U : State} {H : Heap} (h : vx_L C n d A U H) (hAB : ∀ q, B q → A q) : vx_L C n d B U H := by
  obtain ⟨c, k, i, f, a, cell, h1, h2, h3, h4, h5, h6, h7, h8, h9, h10⟩ := h
  exact ⟨c, k, i, f, a, cell, h1, h2, h3, h4, h5, h6, h7, h8, h9, fun z => h10 (hAB _ z)⟩
theorem vx_L.word {C n d : String} {A : Nat → Prop} {s : State} {args : Array Value} (h : vx_L C n d A s s.heap) : (Cond.laysStatic C n d).before args s = true := by
  obtain ⟨c, k, i, f, a, cell, h1, h2, h3, h4, h5, h6, h7, h8, h9, -⟩ := h
  show (Cond.laysStatic C n d).holds args s none s [] = true
  exact Cond.laysStatic_of h1 h2 h3 h4 h5 h6 h7 h8 h9
/-- .. and what it holds: null or some reference -/
def vx_Zq (C n d : String) (A : Nat → Prop) (U : State) (H : Heap) : Prop := va_Zq C n d A U H ∧ vx_L C n d A U H
theorem vx_Zq.moved {C n d : String} {A : Nat → Prop} {u U : State} {H : Heap} (hvm : u.vm.Alike U.vm) (h : vx_Zq C n d A u H) : vx_Zq C n d A U H := ⟨va_Zq.moved hvm h.1, vx_L.moved hvm h.2⟩
theorem vx_Zq.kept {C n d : String} {A : Nat → Prop} {U : State} {H H1 : Heap} (h : vx_Zq C n d A U H) (hq : ∀ a : Nat, a < H.size → ¬ A a → H1[a]? = H[a]?) : vx_Zq C n d A U H1 := ⟨va_Zq.kept h.1 hq, vx_L.kept h.2 hq⟩
theorem vx_Zq.narrow {C n d : String} {A B : Nat → Prop} {U : State} {H : Heap} (h : vx_Zq C n d A U H) (hAB : ∀ q, B q → A q) : vx_Zq C n d B U H := ⟨va_Zq.narrow h.1 hAB, vx_L.narrow h.2 hAB⟩
theorem vx_Zqof {args : Array Value} {s : State} {C n d : String} {A : Nat → Prop} (hl : (Cond.laysStatic C n d).before args s = true) (hini : (Cond.initialized C).before args s = true) (h : (Cond.isRef (.static C n d)).before args s = true) (hA : ∀ a : Nat, a < s.heap.size → ¬ A a) : vx_Zq C n d A s s.heap := by
  refine ⟨va_Zqof hl hini h hA, ?_⟩
  obtain ⟨c, k, i, f, a, cell, h1, h2, h3, h4, h5, h6, h7, h8, h9⟩ := Cond.laysStatic_spec hl
  exact ⟨c, k, i, f, a, cell, h1, h2, h3, h4, h5, h6, h7, h8, h9, hA a (Array.getElem?_eq_some_iff.mp h5).1⟩
theorem vx_isRef {C n d : String} {v : Value} {A : Nat → Prop} {s : State} {args : Array Value} (h : va_Z C n d v A s s.heap) (hv : v.isRef = true) : (Cond.isRef (.static C n d)).before args s = true := by
  obtain ⟨cf, kf, fi, f, a, cell, h1, h2, h3, h4, h5, h6, h7, -⟩ := h
  have he : (Term.static C n d).eval args s none [] s = some v := by
    simp [Term.eval, State.fieldNamed?, h1, h2, h4, h5, h6, h7]
  simp only [Cond.before, Cond.holds, Cond.value, he]
  cases v <;> simp_all [Value.isRef]
theorem vx_isRefq {C n d : String} {A : Nat → Prop} {s : State} {args : Array Value} (h : va_Zq C n d A s s.heap) : (Cond.isRef (.static C n d)).before args s = true := by
  rcases h with h | ⟨t, h⟩
  · exact vx_isRef h rfl
  · exact vx_isRef h rfl
/-- the same frame, seen from here: as if the method were called anew in this heap -/
theorem vx_rebase {T : State} (X : Stand p l e R s m args below meth c T locs cells slots) {R' : Room} (hf : R'.frames ≤ R.frames) (hl : R'.locals ≤ R.locals) (hc : cells + R'.cells ≤ R.cells) (hs : slots + R'.slots ≤ R.slots) :
    Stand p l e R' ((T.setVm s.vm).setFrames (.invoking m args :: below)) m args below meth c T [] 0 0 := by
  have htop : (T.setVm s.vm).topJava?.isSome := X.here.top
  have hF : ((T.setVm s.vm).setFrames (.invoking m args :: below)).frames = .invoking m args :: below := State.frames_setFrames _ (State.cur_lt_of_top htop)
  obtain ⟨g₀, hg0⟩ := Option.isSome_iff_exists.mp htop
  obtain ⟨r, hr⟩ := State.topJava?_eq_some.mp hg0
  have hl9 : e.platform.stackLimits (T.setVm s.vm).me = e.platform.stackLimits s.me := X.limits
  have hb9 : (T.setVm s.vm).me.stackBytes = s.me.stackBytes := X.bytes
  refine ⟨X.admits, X.cas, X.clock, hF, ?_, X.hears, X.method, X.code, X.here, X.tail, X.warmed, ?_, ?_, ?_⟩
  · have h := X.room
    have hU : ((T.setVm s.vm).setFrames (.invoking m args :: below)).localsInUse = s.localsInUse := by
      rw [State.localsInUse_invoking hF (meth := meth) (c := c) X.method X.code, State.localsInUse_invoking X.frames X.method X.code]
    simp only [State.hasRoom, Bool.and_eq_true, decide_eq_true_eq] at h ⊢
    obtain ⟨⟨⟨⟨h1, h2, h3, h4, h5, h6⟩, h7⟩, h8⟩, h9⟩ := h
    rw [X.frames, List.length_cons] at h2 h3
    have q1 := X.heapSize
    have q2 := X.used
    simp only [hF, hU, List.length_cons, State.stackLimits_setFrames, State.stackBytes_setFrames, hl9, hb9]
    refine ⟨⟨⟨⟨by omega, by omega, by omega, by omega, by omega, h6⟩, ?_⟩, ?_⟩, X.book⟩
    · show T.heap.size + R'.cells ≤ e.platform.maxCells
      omega
    · show T.slotsUsed + R'.slots ≤ e.platform.maxSlots
      omega
  · rw [State.stackLimits_setFrames]; rfl
  · rw [State.stackBytes_setFrames]; rfl
  · refine ⟨?_, Nat.le_refl _, Nat.le_refl _, ?_, ?_, fun a c9 h9 => ⟨c9, h9, rfl, rfl, fun _ _ => rfl⟩⟩
    · obtain ⟨t, ht, -⟩ := State.frames_cons hr
      show T.setVm s.vm = { ((T.setVm s.vm).setFrames (.invoking m args :: below)).setFrames (T.setVm s.vm).frames with heap := T.heap, slotsUsed := T.slotsUsed }
      rw [State.setFrames_setFrames, State.setFrames_self ht]
      rfl
    · show T.slotsUsed = T.slotsUsed + ((T.heap.toList.drop T.heap.size).map (·.slots.size)).sum
      rw [List.drop_eq_nil_of_le (Nat.le_of_eq Array.length_toList)]
      rfl
    · show ((T.heap.toList.drop T.heap.size).map (·.slots.size)).sum ≤ 0
      rw [List.drop_eq_nil_of_le (Nat.le_of_eq Array.length_toList)]
      exact Nat.le_refl _
/-- 'throw new E()': new; dup; invokespecial; athrow -/
theorem vx_throw0 {cc : ByteArray} {pc : Nat} (hexec : p.tables.exec = Jvm.exec) (hb : c.code = cc) (hl : l.stackTraces = false) {own cls : String} {names : List String} {ik ic mc ms : Nat} {A : Nat → Prop}
    (hown : s.vm.findClass own = some m.cls) (hcls : Bundle.fit cls = true) (hnames : ∀ n ∈ names, Bundle.fit n = true)
    (hk : (Cond.classLink own ik cls).before args s = true) (hini : (Cond.initialized cls).before args s = true) (hat : ∀ w ∈ vx_at0 own ic cls names, w.before args s = true)
    (hgood : ∀ w ∈ Cond.classLink own ik cls :: Cond.initialized cls :: vx_at0 own ic cls names, vx_ot w = true)
    (hU : vx_Zq Bundle.tN "UNASSIGNED_STACK" Bundle.steD A s s.heap) (hN : vx_Zq Bundle.tN "SUPPRESSED_SENTINEL" Bundle.listD A s s.heap) (hS : va_S A s.heap H locs) (hsize : ls.size = c.maxLocals)
    (d0 : decode cc pc = .ok (.new ik, 3)) (d3 : decode cc (pc + 3) = .ok (.dup, 1)) (d4 : decode cc (pc + 4) = .ok (.invokespecial ic, 3)) (d7 : decode cc (pc + 7) = .ok (.athrow, 1))
    (hout : ∀ x ∈ c.exceptionTable.toList, covers x (pc + 7) = false)
    (hRframes : names.length + 3 < R.frames) (hRlocals : (rest.map fun v => v.category).sum + (13 * (names.length + 1) + 42) ≤ R.locals) (hRcells : cells + 1 ≤ R.cells) (hRslots : slots + 6 ≤ R.slots) (hlocks : meth.locks = false)
    (hx : ∀ t : State, s.vm.Alike t.vm → H.size ≤ t.heap.size → (∀ q : Nat, q < H.size → t.heap[q]? = H[q]?) → XC cls s t)
    (hf : ∀ z ∈ locs, free z.base) (hc : cells + 1 ≤ mc) (hs : slots + 6 ≤ ms) :
    W p l e R s m args below meth c H locs cells slots (vx_MQ below Qc XC args s mc ms free) (F0 m pc ls rest) := by
  intro T hT X
  have htr : e.platform.stackTraces = false := (show e.platform.stackTraces = l.stackTraces by rw [X.admits.platform]).trans hl
  have Y := vx_rebase X (R' := { frames := R.frames, locals := R.locals, cells := 1, slots := 6 }) (Nat.le_refl _) (Nat.le_refl _) hRcells hRslots
  obtain ⟨s', hA⟩ : ∃ z, z = (T.setVm s.vm).setFrames (.invoking m args :: below) := ⟨_, rfl⟩
  rw [← hA] at Y
  have hvm : s'.vm = s.vm := by rw [hA]; rfl
  have hhp : s'.heap = H := by rw [hA]; exact hT
  have hW0 : s.WarmedH s'.vm := by rw [hvm]; exact State.WarmedH.refl s
  have hat' : ∀ w ∈ vx_at0 own ic cls names, w.before args s' = true := fun w hw => vx_ot_at hW0 hvm.symm (hgood w (List.mem_cons_of_mem _ (List.mem_cons_of_mem _ hw))) (hat w hw)
  have hk' : (Cond.classLink own ik cls).before args s' = true := vx_ot_at hW0 hvm.symm (hgood _ List.mem_cons_self) hk
  have hini' : (Cond.initialized cls).before args s' = true := vx_ot_at hW0 hvm.symm (hgood _ (List.mem_cons_of_mem _ List.mem_cons_self)) hini
  have hU' : vx_Zq Bundle.tN "UNASSIGNED_STACK" Bundle.steD A s' s'.heap := by rw [hhp]; exact vx_Zq.moved hW0.alike (hU.kept hS.2.1)
  have hN' : vx_Zq Bundle.tN "SUPPRESSED_SENTINEL" Bundle.listD A s' s'.heap := by rw [hhp]; exact vx_Zq.moved hW0.alike (hN.kept hS.2.1)
  have h : ∀ w ∈ Bundle.ownAtoms0 own ic cls names, w.before args s' = true := vx_own hat' (vx_isRefq hU'.1) (vx_isRefq hN'.1) hU'.2.word hN'.2.word
  have hown' : s'.vm.findClass own = some m.cls := by rw [hvm]; exact hown
  have hins : (Cond.instantiable cls 6).before args s' = true := h _ (by simp [Bundle.ownAtoms0])
  obtain ⟨vm₁, cX, kX, hfX, hkX, -, -, X₁, st1⟩ := Y.newCold hexec (own := own) (C := cls) (index := ik) (n := 6) hown' hk' hins hini'
    (g := F0 m pc ls rest) rfl (by rw [hb]; exact d0) (Nat.le_refl _) (Nat.le_refl _)
  generalize hT1 : (T.setVm vm₁).pushCell { cls := cX, slots := kX.instanceTypes.map defaultValue, vm := .none } = T1 at X₁ st1
  have hcat : (Value.ref T.heap.size).category = 1 := rfl
  have hcellA : T1.heap[T.heap.size]? = some (freshCell cX kX) := by rw [← hT1]; exact State.heap_pushCell_size _ _
  have d3' : decode c.code (pc + 3) = .ok (.dup, 1) := by rw [hb]; exact d3
  obtain ⟨U, hsteps, hrun, hend, hW, hsame, ce, hce, hO⟩ := X₁.ctorThrow0 hexec htr (own := own) (cls := cls) (names := names) (ic := ic) hown' hcls hnames h (fun x hx => nomatch hx) hfX hkX hcellA (by rw [hhp, hT]; exact Nat.le_refl _)
    (g := { method := m, pc := pc + 4, locals := ls, stack := .ref T.heap.size :: .ref T.heap.size :: rest, locked := none }) rfl hsize rfl rfl (rest := rest) rfl
    (by rw [hb]; exact d4) (by rw [hb]; exact d7) hout hRframes (by simp only [List.map_cons, List.sum_cons, hcat]; omega) hlocks
  obtain ⟨f1, f2⟩ := vx_frame hsame
  rw [hhp] at f1 f2
  have hWs : s.WarmedH U.vm := State.WarmedH.trans hW0 hW
  have hcl : s.vm.findClass cls = some ce.cls := by
    have h9 := hO.cls
    rw [hvm] at h9
    exact h9
  have hall : s.sameButNew ({ U with vm := s.vm } : State) locs mc ms := by
    subst hA
    obtain ⟨e1, e2⟩ := hsame
    rw [State.setFrames_setFrames] at e1
    have h2 : (T.setVm s.vm).sameButNew ({ U with vm := s.vm } : State) [] (0 + 1) (0 + 6) := ⟨e1, e2⟩
    have h3 := X.same.trans h2
    rw [List.append_nil] at h3
    exact h3.mono hc hs
  refine ⟨U, ?_, .threw T.heap.size, hrun, hend, Or.inr ⟨T.heap.size, rfl, cls, ce, locs, hx U hWs.alike f1 (fun q hq => f2 q hq (fun z hz => nomatch hz)), hce, hO.vm, hcl, hWs, hall, hf⟩⟩
  refine st1 _ ?_
  show Steps p.tables e below (T1.setTop { method := m, pc := pc + 3, locals := ls, stack := .ref T.heap.size :: rest, locked := none }) _
  jvm_step X₁.here [X₁.here.top, hexec, d3', Value.category]
  exact hsteps
/-- 'throw new E("text")': new; dup; ldc; invokespecial; athrow -/
theorem vx_throwS {cc : ByteArray} {pc : Nat} (hexec : p.tables.exec = Jvm.exec) (hb : c.code = cc) (hl : l.stackTraces = false) {own cls text : String} {names : List String} {ik is ic mc ms sa : Nat} {A : Nat → Prop}
    (hown : s.vm.findClass own = some m.cls) (hcls : Bundle.fit cls = true) (hnames : ∀ n ∈ names, Bundle.fit n = true)
    (hk : (Cond.classLink own ik cls).before args s = true) (hini : (Cond.initialized cls).before args s = true) (hstr : vk_R own is text sa s) (hat : ∀ w ∈ vx_atS own ic cls names, w.before args s = true)
    (hgood : ∀ w ∈ Cond.classLink own ik cls :: Cond.initialized cls :: vx_atS own ic cls names, vx_ot w = true)
    (hU : vx_Zq Bundle.tN "UNASSIGNED_STACK" Bundle.steD A s s.heap) (hN : vx_Zq Bundle.tN "SUPPRESSED_SENTINEL" Bundle.listD A s s.heap) (hS : va_S A s.heap H locs) (hsize : ls.size = c.maxLocals)
    (d0 : decode cc pc = .ok (.new ik, 3)) (d3 : decode cc (pc + 3) = .ok (.dup, 1)) (d4 : decode cc (pc + 4) = .ok (.ldc is, 2)) (d6 : decode cc (pc + 6) = .ok (.invokespecial ic, 3)) (d9 : decode cc (pc + 9) = .ok (.athrow, 1))
    (hout : ∀ x ∈ c.exceptionTable.toList, covers x (pc + 9) = false)
    (hRframes : names.length + 3 < R.frames) (hRlocals : (rest.map fun v => v.category).sum + (13 * (names.length + 1) + 43) ≤ R.locals) (hRcells : cells + 1 ≤ R.cells) (hRslots : slots + 6 ≤ R.slots) (hlocks : meth.locks = false)
    (hx : ∀ t : State, s.vm.Alike t.vm → H.size ≤ t.heap.size → (∀ q : Nat, q < H.size → t.heap[q]? = H[q]?) → XC cls s t)
    (hf : ∀ z ∈ locs, free z.base) (hc : cells + 1 ≤ mc) (hs : slots + 6 ≤ ms) :
    W p l e R s m args below meth c H locs cells slots (vx_MQ below Qc XC args s mc ms free) (F0 m pc ls rest) := by
  intro T hT X
  have htr : e.platform.stackTraces = false := (show e.platform.stackTraces = l.stackTraces by rw [X.admits.platform]).trans hl
  have Y := vx_rebase X (R' := { frames := R.frames, locals := R.locals, cells := 1, slots := 6 }) (Nat.le_refl _) (Nat.le_refl _) hRcells hRslots
  obtain ⟨s', hA⟩ : ∃ z, z = (T.setVm s.vm).setFrames (.invoking m args :: below) := ⟨_, rfl⟩
  rw [← hA] at Y
  have hvm : s'.vm = s.vm := by rw [hA]; rfl
  have hhp : s'.heap = H := by rw [hA]; exact hT
  have hW0 : s.WarmedH s'.vm := by rw [hvm]; exact State.WarmedH.refl s
  have hat' : ∀ w ∈ vx_atS own ic cls names, w.before args s' = true := fun w hw => vx_ot_at hW0 hvm.symm (hgood w (List.mem_cons_of_mem _ (List.mem_cons_of_mem _ hw))) (hat w hw)
  have hk' : (Cond.classLink own ik cls).before args s' = true := vx_ot_at hW0 hvm.symm (hgood _ List.mem_cons_self) hk
  have hini' : (Cond.initialized cls).before args s' = true := vx_ot_at hW0 hvm.symm (hgood _ (List.mem_cons_of_mem _ List.mem_cons_self)) hini
  have hU' : vx_Zq Bundle.tN "UNASSIGNED_STACK" Bundle.steD A s' s'.heap := by rw [hhp]; exact vx_Zq.moved hW0.alike (hU.kept hS.2.1)
  have hN' : vx_Zq Bundle.tN "SUPPRESSED_SENTINEL" Bundle.listD A s' s'.heap := by rw [hhp]; exact vx_Zq.moved hW0.alike (hN.kept hS.2.1)
  have h : ∀ w ∈ Bundle.ownAtoms own ic cls names, w.before args s' = true := vx_own hat' (vx_isRefq hU'.1) (vx_isRefq hN'.1) hU'.2.word hN'.2.word
  have hown' : s'.vm.findClass own = some m.cls := by rw [hvm]; exact hown
  have hins : (Cond.instantiable cls 6).before args s' = true := h _ (by simp [Bundle.ownAtoms])
  obtain ⟨vm₁, cX, kX, hfX, hkX, -, -, X₁, st1⟩ := Y.newCold hexec (own := own) (C := cls) (index := ik) (n := 6) hown' hk' hins hini'
    (g := F0 m pc ls rest) rfl (by rw [hb]; exact d0) (Nat.le_refl _) (Nat.le_refl _)
  generalize hT1 : (T.setVm vm₁).pushCell { cls := cX, slots := kX.instanceTypes.map defaultValue, vm := .none } = T1 at X₁ st1
  have hcat : (Value.ref T.heap.size).category = 1 := rfl
  have hcellA : T1.heap[T.heap.size]? = some (freshCell cX kX) := by rw [← hT1]; exact State.heap_pushCell_size _ _
  have d3' : decode c.code (pc + 3) = .ok (.dup, 1) := by rw [hb]; exact d3
  have d4' : decode c.code (pc + 4) = .ok (.ldc is, 2) := by rw [hb]; exact d4
  have hstr' : vk_R own is text sa s' := vk_R.warm hW0 hstr
  obtain ⟨U, hsteps, hrun, hend, hW, hsame, ce, hce, hO⟩ := X₁.ctorThrowS hexec htr (own := own) (cls := cls) (names := names) (ic := ic) hown' hcls hnames h (fun x hx => nomatch hx) hfX hkX hcellA (by rw [hhp, hT]; exact Nat.le_refl _) (msg := .ref sa) rfl
    (g := { method := m, pc := pc + 6, locals := ls, stack := .ref sa :: .ref T.heap.size :: .ref T.heap.size :: rest, locked := none }) rfl hsize rfl rfl (rest := rest) rfl
    (by rw [hb]; exact d6) (by rw [hb]; exact d9) hout hRframes (by simp only [List.map_cons, List.sum_cons, hcat]; omega) hlocks
  obtain ⟨f1, f2⟩ := vx_frame hsame
  rw [hhp] at f1 f2
  have hWs : s.WarmedH U.vm := State.WarmedH.trans hW0 hW
  have hcl : s.vm.findClass cls = some ce.cls := by
    have h9 := hO.cls
    rw [hvm] at h9
    exact h9
  have hall : s.sameButNew ({ U with vm := s.vm } : State) locs mc ms := by
    subst hA
    obtain ⟨e1, e2⟩ := hsame
    rw [State.setFrames_setFrames] at e1
    have h2 : (T.setVm s.vm).sameButNew ({ U with vm := s.vm } : State) [] (0 + 1) (0 + 6) := ⟨e1, e2⟩
    have h3 := X.same.trans h2
    rw [List.append_nil] at h3
    exact h3.mono hc hs
  refine ⟨U, ?_, .threw T.heap.size, hrun, hend, Or.inr ⟨T.heap.size, rfl, cls, ce, locs, hx U hWs.alike f1 (fun q hq => f2 q hq (fun z hz => nomatch hz)), hce, hO.vm, hcl, hWs, hall, hf⟩⟩
  refine st1 _ ?_
  show Steps p.tables e below (T1.setTop { method := m, pc := pc + 3, locals := ls, stack := .ref T.heap.size :: rest, locked := none }) _
  jvm_step X₁.here [X₁.here.top, hexec, d3', Value.category]
  exact X₁.ldcString hexec (own := own) (text := text) (index := is) (a := sa) hown' hstr'.1 hstr'.2
    (g := { method := m, pc := pc + 4, locals := ls, stack := .ref T.heap.size :: .ref T.heap.size :: rest, locked := none }) rfl d4' _ hsteps
/-- 'throw new E("text")', the text by a wide index -/
theorem vx_throwSW {cc : ByteArray} {pc : Nat} (hexec : p.tables.exec = Jvm.exec) (hb : c.code = cc) (hl : l.stackTraces = false) {own cls text : String} {names : List String} {ik is ic mc ms sa : Nat} {A : Nat → Prop}
    (hown : s.vm.findClass own = some m.cls) (hcls : Bundle.fit cls = true) (hnames : ∀ n ∈ names, Bundle.fit n = true)
    (hk : (Cond.classLink own ik cls).before args s = true) (hini : (Cond.initialized cls).before args s = true) (hstr : vk_R own is text sa s) (hat : ∀ w ∈ vx_atS own ic cls names, w.before args s = true)
    (hgood : ∀ w ∈ Cond.classLink own ik cls :: Cond.initialized cls :: vx_atS own ic cls names, vx_ot w = true)
    (hU : vx_Zq Bundle.tN "UNASSIGNED_STACK" Bundle.steD A s s.heap) (hN : vx_Zq Bundle.tN "SUPPRESSED_SENTINEL" Bundle.listD A s s.heap) (hS : va_S A s.heap H locs) (hsize : ls.size = c.maxLocals)
    (d0 : decode cc pc = .ok (.new ik, 3)) (d3 : decode cc (pc + 3) = .ok (.dup, 1)) (d4 : decode cc (pc + 4) = .ok (.ldc_w is, 3)) (d7 : decode cc (pc + 7) = .ok (.invokespecial ic, 3)) (d10 : decode cc (pc + 10) = .ok (.athrow, 1))
    (hout : ∀ x ∈ c.exceptionTable.toList, covers x (pc + 10) = false)
    (hRframes : names.length + 3 < R.frames) (hRlocals : (rest.map fun v => v.category).sum + (13 * (names.length + 1) + 43) ≤ R.locals) (hRcells : cells + 1 ≤ R.cells) (hRslots : slots + 6 ≤ R.slots) (hlocks : meth.locks = false)
    (hx : ∀ t : State, s.vm.Alike t.vm → H.size ≤ t.heap.size → (∀ q : Nat, q < H.size → t.heap[q]? = H[q]?) → XC cls s t)
    (hf : ∀ z ∈ locs, free z.base) (hc : cells + 1 ≤ mc) (hs : slots + 6 ≤ ms) :
    W p l e R s m args below meth c H locs cells slots (vx_MQ below Qc XC args s mc ms free) (F0 m pc ls rest) := by
  intro T hT X
  have htr : e.platform.stackTraces = false := (show e.platform.stackTraces = l.stackTraces by rw [X.admits.platform]).trans hl
  have Y := vx_rebase X (R' := { frames := R.frames, locals := R.locals, cells := 1, slots := 6 }) (Nat.le_refl _) (Nat.le_refl _) hRcells hRslots
  obtain ⟨s', hA⟩ : ∃ z, z = (T.setVm s.vm).setFrames (.invoking m args :: below) := ⟨_, rfl⟩
  rw [← hA] at Y
  have hvm : s'.vm = s.vm := by rw [hA]; rfl
  have hhp : s'.heap = H := by rw [hA]; exact hT
  have hW0 : s.WarmedH s'.vm := by rw [hvm]; exact State.WarmedH.refl s
  have hat' : ∀ w ∈ vx_atS own ic cls names, w.before args s' = true := fun w hw => vx_ot_at hW0 hvm.symm (hgood w (List.mem_cons_of_mem _ (List.mem_cons_of_mem _ hw))) (hat w hw)
  have hk' : (Cond.classLink own ik cls).before args s' = true := vx_ot_at hW0 hvm.symm (hgood _ List.mem_cons_self) hk
  have hini' : (Cond.initialized cls).before args s' = true := vx_ot_at hW0 hvm.symm (hgood _ (List.mem_cons_of_mem _ List.mem_cons_self)) hini
  have hU' : vx_Zq Bundle.tN "UNASSIGNED_STACK" Bundle.steD A s' s'.heap := by rw [hhp]; exact vx_Zq.moved hW0.alike (hU.kept hS.2.1)
  have hN' : vx_Zq Bundle.tN "SUPPRESSED_SENTINEL" Bundle.listD A s' s'.heap := by rw [hhp]; exact vx_Zq.moved hW0.alike (hN.kept hS.2.1)
  have h : ∀ w ∈ Bundle.ownAtoms own ic cls names, w.before args s' = true := vx_own hat' (vx_isRefq hU'.1) (vx_isRefq hN'.1) hU'.2.word hN'.2.word
  have hown' : s'.vm.findClass own = some m.cls := by rw [hvm]; exact hown
  have hins : (Cond.instantiable cls 6).before args s' = true := h _ (by simp [Bundle.ownAtoms])
  obtain ⟨vm₁, cX, kX, hfX, hkX, -, -, X₁, st1⟩ := Y.newCold hexec (own := own) (C := cls) (index := ik) (n := 6) hown' hk' hins hini'
    (g := F0 m pc ls rest) rfl (by rw [hb]; exact d0) (Nat.le_refl _) (Nat.le_refl _)
  generalize hT1 : (T.setVm vm₁).pushCell { cls := cX, slots := kX.instanceTypes.map defaultValue, vm := .none } = T1 at X₁ st1
  have hcat : (Value.ref T.heap.size).category = 1 := rfl
  have hcellA : T1.heap[T.heap.size]? = some (freshCell cX kX) := by rw [← hT1]; exact State.heap_pushCell_size _ _
  have d3' : decode c.code (pc + 3) = .ok (.dup, 1) := by rw [hb]; exact d3
  have d4' : decode c.code (pc + 4) = .ok (.ldc_w is, 3) := by rw [hb]; exact d4
  have hstr' : vk_R own is text sa s' := vk_R.warm hW0 hstr
  obtain ⟨U, hsteps, hrun, hend, hW, hsame, ce, hce, hO⟩ := X₁.ctorThrowS hexec htr (own := own) (cls := cls) (names := names) (ic := ic) hown' hcls hnames h (fun x hx => nomatch hx) hfX hkX hcellA (by rw [hhp, hT]; exact Nat.le_refl _) (msg := .ref sa) rfl
    (g := { method := m, pc := pc + 7, locals := ls, stack := .ref sa :: .ref T.heap.size :: .ref T.heap.size :: rest, locked := none }) rfl hsize rfl rfl (rest := rest) rfl
    (by rw [hb]; exact d7) (by rw [hb]; exact d10) hout hRframes (by simp only [List.map_cons, List.sum_cons, hcat]; omega) hlocks
  obtain ⟨f1, f2⟩ := vx_frame hsame
  rw [hhp] at f1 f2
  have hWs : s.WarmedH U.vm := State.WarmedH.trans hW0 hW
  have hcl : s.vm.findClass cls = some ce.cls := by
    have h9 := hO.cls
    rw [hvm] at h9
    exact h9
  have hall : s.sameButNew ({ U with vm := s.vm } : State) locs mc ms := by
    subst hA
    obtain ⟨e1, e2⟩ := hsame
    rw [State.setFrames_setFrames] at e1
    have h2 : (T.setVm s.vm).sameButNew ({ U with vm := s.vm } : State) [] (0 + 1) (0 + 6) := ⟨e1, e2⟩
    have h3 := X.same.trans h2
    rw [List.append_nil] at h3
    exact h3.mono hc hs
  refine ⟨U, ?_, .threw T.heap.size, hrun, hend, Or.inr ⟨T.heap.size, rfl, cls, ce, locs, hx U hWs.alike f1 (fun q hq => f2 q hq (fun z hz => nomatch hz)), hce, hO.vm, hcl, hWs, hall, hf⟩⟩
  refine st1 _ ?_
  show Steps p.tables e below (T1.setTop { method := m, pc := pc + 3, locals := ls, stack := .ref T.heap.size :: rest, locked := none }) _
  jvm_step X₁.here [X₁.here.top, hexec, d3', Value.category]
  exact X₁.ldcStringW hexec (own := own) (text := text) (index := is) (a := sa) hown' hstr'.1 hstr'.2
    (g := { method := m, pc := pc + 4, locals := ls, stack := .ref T.heap.size :: .ref T.heap.size :: rest, locked := none }) rfl d4' _ hsteps
end Ends
section Bodies
variable {l : Launch}
theorem vx_ofW {y : MethodName} {ws ws' : List Cond} {rm : Room} {Pc : Array Value → State → Prop} {Qc : Array Value → State → Outcome → State → Prop} {XC : String → State → State → Prop} {mc ms : Nat} {free : Addr → Prop} {cc : ByteArray} {maxL : Nat} {ret : Option FieldType}
    (hy : plainName y.cls = true) (hw : ws = Cond.code y cc maxL ret :: ws')
    (body : ∀ p e s m args below meth c s₁, BodyLoose p l y (headSpec ws rm) cc maxL ret e s m args below meth c s₁ → c.maxLocals = maxL → (∀ x ∈ c.exceptionTable.toList, False) → Pc args s →
      W p l e (headSpec ws rm).room s m args below meth c s.heap [] 0 0 (vx_MQ below Qc XC args s mc ms free) (entryFrame m args maxL)) : vx_Met l y ws rm Pc Qc XC mc ms free := by
  refine MetFree.of_bodyS (code := cc) (maxLocals := maxL) (ret := ret) hy ?_ ?_
  · intro args s m h hn
    obtain ⟨meth, c, h1, h2, h3, h4, h5, h6, -, -⟩ := Cond.code_spec hn (atoms_spec (ws := ws) h _ (by rw [hw]; exact List.mem_cons_self))
    exact ⟨meth, c, h1, h2, h3, h4, h5, h6⟩
  · intro p e s m args below meth c s₁ B hml hP _
    have hh0 : s₁.heap = s.heap := by rw [B.state]; rfl
    have ht : ∀ x ∈ c.exceptionTable.toList, False := by
      obtain ⟨meth9, c9, h1, h2, -, -, -, -, h7, -⟩ := Cond.code_spec B.named (atoms_spec (ws := ws) B.pre _ (by rw [hw]; exact List.mem_cons_self))
      cases Option.some.inj (h1.symm.trans B.method)
      cases Option.some.inj (h2.symm.trans (Stand.of_body B).code)
      intro x hx
      rw [Array.isEmpty_iff.mp h7] at hx
      cases hx
    obtain ⟨t, a1, o, b1, b2, b3⟩ := body p e s m args below meth c s₁ B hml ht hP s₁ hh0 (Stand.of_body B)
    exact ⟨t, o, a1, b1, b2, b3⟩
/-- the table of a body with handlers -/
theorem vx_table {p : Program} {x y : MethodName} {S : Spec} {cc bytes : ByteArray} {maxL maxL' : Nat} {ret ret' : Option FieldType} {e : Env} {s s₁ : State} {m : MethodId} {args : Array Value} {below : List Frame} {meth : Method} {c : Code} {hh : List (Nat × Nat × Nat × Nat)}
    (B : BodyLoose p l y S cc maxL ret e s m args below meth c s₁) (h : (Cond.codeWith y bytes maxL' ret' hh).before args s = true) : c.exceptionTable.toList = tableOf hh := by
  obtain ⟨m9, meth9, c9, hn9, h1, h2, -, -, h6, -⟩ := Cond.codeWith_spec h
  cases Option.some.inj (hn9.symm.trans B.named)
  cases Option.some.inj (h1.symm.trans B.method)
  cases Option.some.inj (h2.symm.trans (Stand.of_body B).code)
  rw [← h6, table_eq]
end Bodies
end VXA
/-! ===== END ===== -/
/-! ===== BEGIN a static call of a method with an exception table ===== -/
section VXS
variable {p : Program} {l : Launch} {e : Env} {R : Room} {s : State} {m : MethodId} {args : Array Value} {below : List Frame} {meth : Method} {c : Code} {T : State} {H : Heap} {locs : List Loc} {cells slots : Nat}
abbrev vx_CSW (R : Room) (s : State) (args : Array Value) (own : String) (index : Nat) (y : MethodName) (bytes : ByteArray) (maxL : Nat) (ret : Option FieldType) (hh : List (Nat × Nat × Nat × Nat)) (ws : List Cond) (rm : Room) (mc ms n : Nat) : Prop :=
  (rm.cells = mc ∧ rm.slots = ms ∧ rm.frames + 1 ≤ R.frames ∧ 8 + (maxL + 11) + rm.locals ≤ R.locals ∧ (∀ w ∈ ws, ∀ (a' : Array Value) (U : State), s.WarmedH U.vm → w.before a' U = true) ∧ Cond.codeWith y bytes maxL ret hh ∈ ws) ∧
  (Cond.codeWith y bytes maxL ret hh).before args s = true ∧ (Cond.initialized y.cls).before args s = true ∧ (y.cls ≠ "java/lang/invoke/MethodHandle" ∧ y.cls ≠ "java/lang/invoke/VarHandle") ∧
  (∀ sig, parseMethodDescriptor y.desc = some sig → n = sig.parameters.length) ∧ (Cond.methodLink own index y).before args s = true ∧ (Cond.static y).before args s = true
theorem vx_cwSW {own : String} {index maxL mc ms : Nat} {y : MethodName} {bytes : ByteArray} {ret : Option FieldType} {hh : List (Nat × Nat × Nat × Nat)} {Ts ws ws' : List Cond} {rm : Room} (n : Nat) (ht : ∀ w ∈ Ts, w.before args s = true) (hT : GoodIn Ts (va_wsS own index y ws)) (hw : ws = Cond.codeWith y bytes maxL ret hh :: ws') (hrc : rm.cells = mc) (hrs : rm.slots = ms)
    (hd : y.cls ≠ "java/lang/invoke/MethodHandle" ∧ y.cls ≠ "java/lang/invoke/VarHandle" ∧ (parseMethodDescriptor y.desc).map (fun d => d.parameters.length) = some n) (hR : rm.frames + 1 ≤ R.frames ∧ 8 + (maxL + 11) + rm.locals ≤ R.locals) :
    vx_CSW R s args own index y bytes maxL ret hh ws rm mc ms n := by
  have ok : ∀ w ∈ va_wsS own index y ws, w.before args s = true := fun w h => ht w (hT w h).1
  have hG : GoodIn Ts ws := fun w h => hT w (by unfold va_wsS; exact List.mem_append_right _ h)
  have hc : Cond.codeWith y bytes maxL ret hh ∈ ws := by rw [hw]; exact List.mem_cons_self
  refine ⟨⟨hrc, hrs, hR.1, hR.2, pay_in ht hG, hc⟩, ht _ (hG _ hc).1, ok _ (by simp [va_wsS]), ⟨hd.1, hd.2.1⟩, fun sig h => ?_, ok _ (by simp [va_wsS]), ok _ (by simp [va_wsS])⟩
  have h2 := hd.2.2
  rw [h] at h2
  exact (Option.some.inj h2).symm
theorem vx_callSW (X : Stand p l e R s m args below meth c T locs cells slots) (hexec : p.tables.exec = Jvm.exec) {own : String} {index : Nat} {y : MethodName} {bytes : ByteArray} {maxL : Nat} {ret : Option FieldType} {hh : List (Nat × Nat × Nat × Nat)}
    (hown : s.vm.findClass own = some m.cls) (hlink : (Cond.methodLink own index y).before args s = true) (hstat : (Cond.static y).before args s = true) (hinit : (Cond.initialized y.cls).before args s = true)
    (hcode : (Cond.codeWith y bytes maxL ret hh).before args s = true) (hy : y.cls ≠ "java/lang/invoke/MethodHandle" ∧ y.cls ≠ "java/lang/invoke/VarHandle")
    {W9 : Nat} {Pre : Pt → Array Value → Prop} {Post : Pt → Array Value → Option Value → Pt → Prop} (hK : Back l R p e below s args y 3 W9 Pre Post)
    {g : JFrame} (hg : g.method = m) (hsize : g.locals.size = c.maxLocals) {argsL rest : List Value} (hlen : ∀ sig, parseMethodDescriptor y.desc = some sig → argsL.length = sig.parameters.length)
    (hstack : g.stack = argsL.reverse ++ rest) (hW : 2 * g.monitorRoom + (rest.map fun v => v.category).sum ≤ W9) (hdg : decode c.code g.pc = .ok (.invokestatic index, 3))
    (hpre : ∀ vm₁, s.WarmedH vm₁ → Pre ⟨T.setVm vm₁, locs, cells, slots⟩ argsL.toArray) :
    ∃ (v : Option Value) (vm₁ : Vm) (B : Pt), s.WarmedH vm₁ ∧ Stand p l e R s m args below meth c B.U B.locs B.cells B.slots ∧ Post ⟨T.setVm vm₁, locs, cells, slots⟩ argsL.toArray v B ∧
      ∀ target, Steps p.tables e below (B.U.setTop { g with pc := g.pc + 3, stack := v.toList ++ rest }) target → Steps p.tables e below (T.setTop g) target := by
  obtain ⟨mk, methM, cM, hnamed, hmethM, -, -, -, -, -, -, hsigM⟩ := Cond.codeWith_spec hcode
  have hstatic : methM.isStatic = true := Cond.static_spec hnamed hmethM hstat
  obtain ⟨kP, hkP, -⟩ := className_of_methodNamed hnamed
  have hinitP : kP.init = .initialized := Cond.initialized_spec (findClass_of_methodNamed hnamed) hkP hinit
  obtain ⟨vm₁, X₁, hstep₁⟩ := X.invokestatic hexec hown hlink hnamed hmethM hstatic hkP hinitP hy (g := g) hg (argsL := argsL) (rest := rest) (hlen _ hsigM) hstack hdg
  obtain ⟨v, B, X', hpost, hsteps⟩ := hK m meth c ⟨T.setVm vm₁, locs, cells, slots⟩ { g with stack := rest } (.invokestatic index) mk argsL.toArray X₁ hg hsize hdg hW (X₁.named hnamed) (hpre vm₁ X₁.warmed)
  exact ⟨v, vm₁, B, X₁.warmed, X', hpost, fun target h => hstep₁ _ fun acts => by rw [doInvoke_state]; exact hsteps.trans h⟩
theorem vx_runSW {y : MethodName} {bytes cc : ByteArray} {maxL nL mc ms n index : Nat} {ret : Option FieldType} {hh : List (Nat × Nat × Nat × Nat)} {ws : List Cond} {rm : Room} {Pc : Array Value → State → Prop} {Qc : Array Value → State → Outcome → State → Prop} {free : Addr → Prop} {Ts : List Cond} {own : String} {As rest : List Value} {g : JFrame}
    (S : CallFix p m c cc nL s args Ts own) (hM : Met l y ws rm Pc Qc mc ms free) (cw : vx_CSW R s args own index y bytes maxL ret hh ws rm mc ms n) (hp : PreS s H Pc As)
    (hg : g.method = m) (hn : As.length = n) (hsize : g.locals.size = nL) (hstack : g.stack = As.reverse ++ rest) (hW : 2 * g.monitorRoom + (rest.map fun v => v.category).sum ≤ 8) (hdg : decode cc g.pc = .ok (.invokestatic index, 3)) (hf : cells + mc ≤ R.cells ∧ slots + ms ≤ R.slots) :
    va_Run p l e R s m args below meth c H locs cells slots mc ms g rest (Qc As.toArray) (free) := by
  obtain ⟨⟨hrc, hrs, hfr, hlo, hws, hcw⟩, hcode, hini, hy, hlen, hl, hstt⟩ := cw
  have hK : Back l R p e below s args y 3 8 (PreOf R mc ms Pc) (PostOf Qc mc ms free) := va_backW (hh := hh) (bytes := bytes) (maxL := maxL) (ret := ret) hM hp.1 hrc hrs hfr hlo hws hcw (fun a' U hW => word_at hW (Or.inl (by first | rfl | simp [Cond.onTables, Cond.keeps, Cond.steady])) hini)
  obtain ⟨hx, hb, hml, ho, -⟩ := S
  intro T hT X
  obtain ⟨v, vm₁, ⟨U', l2, c2, s2⟩, hW₁, X', ⟨g', mk, t, L, e1, e2, hq, h1, hL, h2, h3⟩, st⟩ := vx_callSW X hx (hh := hh) (bytes := bytes) (maxL := maxL) (ret := ret) ho hl hstt hini hcode hy hK hg (hsize.trans hml.symm) (argsL := As) (rest := rest) (fun sig h => hn.trans (hlen sig h)) hstack hW (by rw [hb]; exact hdg)
    (fun vm₁ hW₁ => ⟨hf.1, hf.2, hp.2 (T.setVm vm₁) hT hW₁⟩)
  dsimp only [Pt.U, Pt.locs, Pt.cells, Pt.slots] at X' e1 e2 h1 h2 h3 st
  subst h1; subst h2; subst h3
  exact ⟨v, (T.setVm vm₁).calling g' mk As.toArray, t, U', L, hT, X', hL, e1, e2, hq, st⟩
/-- not caught here, past rows that name other classes: it goes on to the caller -/
theorem vx_outP {p : Program} {l : Launch} {e : Env} {R : Room} {s : State} {m : MethodId} {args : Array Value} {below : List Frame} {meth : Method} {c : Code} {H : Heap} {locs : List Loc} {cells slots : Nat} {free : Addr → Prop} {ls : Array Slot} {rest : List Value} {Qc : Array Value → State → Outcome → State → Prop} {XC : String → State → State → Prop}
    {pc : Nat} {own E : String} {ce : Cell} {q : Addr} {mc ms : Nat} (hown : s.vm.findClass own = some m.cls) (hlocks : meth.locks = false)
    (hpass : ∀ z ∈ c.exceptionTable.toList, covers z pc = false ∨ (z.catchType ≠ 0 ∧ ∃ nm : String, (Cond.classLink own z.catchType nm).before args s = true ∧ va_Nc E nm s)) (hcell : H[q]? = some ce) (hv : ce.vm = .none) (hcl : s.vm.findClass E = some ce.cls)
    (hx : ∀ t : State, t.heap = H → s.vm.Alike t.vm → XC E s t) (hf : ∀ z ∈ locs, free z.base) (hc : cells ≤ mc) (hs : slots ≤ ms) :
    vx_W p l e R s m args below meth c H locs cells slots (vx_MQ below Qc XC args s mc ms free) (F0 m pc ls rest) q := by
  intro T hT X
  have hpl : e.platform.magicAccessors = ({} : Platform).magicAccessors := by rw [X.admits.platform]
  obtain ⟨vm', hW', X', st⟩ := X.outThrough hlocks q (g := F0 m pc ls rest) rfl rfl rfl (cell := ce) (by rw [hT]; exact hcell) (by rw [hv]; rfl)
    (by obtain ⟨k9, h9, -⟩ := Vm.findClass_spec hcl; exact ⟨k9, h9⟩) (fun z hz => by
      rcases hpass z hz with h | ⟨hz0, nm, hl1, hn1⟩
      · exact Or.inl h
      · obtain ⟨c6, hc6, hcl6⟩ := Cond.classLink_spec hown hl1 e.platform hpl
        obtain ⟨a8, b8, h1, h2, h3⟩ := hn1
        cases Option.some.inj (h1.symm.trans hcl)
        cases Option.some.inj (h2.symm.trans hc6)
        exact Or.inr ⟨hz0, _, hcl6, h3⟩)
  obtain ⟨g₀, hfr⟩ := X'.frames_eq
  have hcell9 : ((T.setVm vm').setFrames (.throwing q :: below)).heap[q]? = some ce := by
    show T.heap[q]? = some ce
    rw [hT]; exact hcell
  have hend : Ended ((T.setVm vm').setFrames (.throwing q :: below)) below (.threw q) := State.frames_setFrames _ (State.cur_lt_of_frames hfr)
  refine ⟨(T.setVm vm').setFrames (.throwing q :: below), ?_, .threw q, X'.here.running, hend, Or.inr ⟨q, rfl, E, ce, locs, hx _ hT (X'.ends _).1.alike, hcell9, hv, hcl, (X'.ends _).1, (X'.ends _).2.mono hc hs, hf⟩⟩
  rw [X.pushThrowing_eq]
  exact st
/-- a thing of a world lies in the heap -/
theorem vx_lt {D : va_G} {cl : List vw_C} {ws : va_W} {H1 : Heap} (h : va_P D cl ws H1) {k : Nat} {q : Nat × va_E} (hk : ws[k]? = some q) : q.1 < H1.size := (h k q hk).lt
end VXS
/-! ===== END ===== -/
/-! ===== BEGIN methods with a table of their own: called by a name, returning or throwing ===== -/
section VXH
/-! vx_backW, vx_callVX, vx_callSX, vx_callVW, vx_runVW, vx_runVX, vx_runSX, vx_ofWH follow the same proofs as their sisters above (Free/Laws.lean, Shelf42/LK1.lean); vx_outP calls Shelf42/NT130.lean (outThrough). -/
section
variable {l : Launch} {R : Room} {p : Program} {e : Env} {below : List Frame} {s : State} {sargs : Array Value} {y : MethodName} {len W9 : Nat}
theorem vx_backW {ws : List Cond} {rm : Room} {Pc : Array Value → State → Prop} {Qc : Array Value → State → Outcome → State → Prop} {XC : String → State → State → Prop} {mc ms : Nat} {free : Addr → Prop} {bytes : ByteArray} {maxL : Nat} {ret : Option FieldType} {hh : List (Nat × Nat × Nat × Nat)}
    (hM : vx_Met l y ws rm Pc Qc XC mc ms free) (hblind : FrameBlind Pc) (hrc : rm.cells = mc) (hrs : rm.slots = ms)
    (hframes : rm.frames + 1 ≤ R.frames) (hlocals : W9 + (maxL + 11) + rm.locals ≤ R.locals)
    (hws : ∀ w ∈ ws, ∀ a' U, s.WarmedH U.vm → w.before a' U = true) (hcode : Cond.codeWith y bytes maxL ret hh ∈ ws) (hinit : ∀ a' U, s.WarmedH U.vm → (Cond.initialized y.cls).before a' U = true) :
    vx_Back l R p e below s sargs y len W9 (PreOf R mc ms Pc) (PostOf Qc mc ms free) (vx_Post XC mc ms free) := by
  intro m meth c A g ig mk a X hg hsize hdg hW hn hp
  have h1 : (headSpec ws rm).pre.before a A.U = true := atoms_intro fun w hw => hws w hw _ _ X.warmed
  have h2 : (Cond.codeWith y bytes maxL ret hh).before a A.U = true := hws _ hcode _ _ X.warmed
  have h3 : (Cond.initialized y.cls).before a A.U = true := hinit _ _ X.warmed
  have h4 : A.cells + (headSpec ws rm).room.cells ≤ R.cells := by rw [show (headSpec ws rm).room.cells = mc from hrc]; exact hp.1
  have h5 : A.slots + (headSpec ws rm).room.slots ≤ R.slots := by rw [show (headSpec ws rm).room.slots = ms from hrs]; exact hp.2.1
  have hPc : Pc a (A.U.calling g mk a) := hblind _ _ _ _ hp.2.2
  obtain ⟨U, Ls, c0, s0⟩ := A
  dsimp only [Pt.U, Pt.locs, Pt.cells, Pt.slots] at h1 h2 h3 h4 h5 X hn hPc ⊢
  obtain ⟨m9, methY, cY, hn9, hmY, hcY, -, hlY, -⟩ := Cond.codeWith_spec h2
  cases Option.some.inj (hn9.symm.trans hn)
  obtain ⟨kY, hkY, -⟩ := className_of_methodNamed hn
  have hinitY : kY.init = .initialized := Cond.initialized_spec (findClass_of_methodNamed hn) hkY h3
  have h : At U g.method c below := by rw [hg]; exact X.here
  have hlocals9 : W9 + (maxL + 11) + (headSpec ws rm).room.locals ≤ R.locals := hlocals
  have happ : (headSpec ws rm).appliesLoose y e.platform (U.calling g mk a) = true :=
    Spec.appliesLoose_calling (g := g) h hdg hn hkY hinitY
      (X.room_calling (g := g) (R' := (headSpec ws rm).room) hsize hmY hcY hframes (by rw [hlY]; omega) h4 h5) h1
  obtain ⟨mid, hmid⟩ := h.above
  have hfr : (U.setTop g).frames = (.java g :: mid) ++ below := by rw [State.frames_setTop' g h.top, hmid]; rfl
  obtain ⟨o, s₂, hsteps, -, hend, hq⟩ := Steps.callFree hM p X.admits X.cas X.clock (acts := []) hfr happ hPc trivial
  have hq' : vx_Q Qc XC mc ms free a (U.calling g mk a) o s₂ := hq
  rw [State.frames_setTop' g h.top] at hend
  obtain ⟨g₀, hg0⟩ := Option.isSome_iff_exists.mp h.top
  obtain ⟨r, hr⟩ := State.topJava?_eq_some.mp hg0
  have hr' : (({ U with heap := s₂.heap, slotsUsed := s₂.slotsUsed } : State).setVm s₂.vm).frames = .java g₀ :: r := hr
  rcases hq' with ⟨hqc, L, hfe, hL⟩ | ⟨q, rfl, E, ce, L, hx, hce, hcv, hcl, hW₂, hsm, hL⟩
  · obtain ⟨⟨v, rfl⟩, hW₂, e2, q2, q3, q4, q5, q6⟩ := id hfe
    have e3 : s₂ = ({ (U.calling g mk a).setFrames s₂.frames with heap := s₂.heap, slotsUsed := s₂.slotsUsed } : State).setVm s₂.vm := by
      have : s₂ = ({ s₂ with vm := (U.calling g mk a).vm } : State).setVm s₂.vm := rfl
      rw [e2] at this
      exact this
    obtain ⟨c₂, i₂, len₂, hc₂, hd₂, hf₂⟩ := hend
    have hW' : U.WarmedH s₂.vm := hW₂
    have hcc : c₂ = c := by
      have h1 : s₂.code? g.method = U.code? g.method := by
        rw [State.code?_eq, State.code?_eq, hW'.alike.method?]
      exact Option.some.inj (hc₂.symm.trans (h1.trans h.code))
    subst hcc
    have hlen : len₂ = len := by rw [hdg] at hd₂; cases hd₂; rfl
    subst hlen
    have hs₂ : s₂ = (({ U with heap := s₂.heap, slotsUsed := s₂.slotsUsed } : State).setVm s₂.vm).setTop { g with pc := g.pc + len₂, stack := v.toList ++ g.stack } := by
      refine e3.trans ?_
      rw [hf₂, State.calling_eq h.top, State.setFrames_setFrames, State.setTop_of_frames _ hr', hr]
      rfl
    have hsame : U.sameButNew ({ U with heap := s₂.heap, slotsUsed := s₂.slotsUsed } : State) L mc ms := by
      refine ⟨?_, q2, q3, q4, q5, q6⟩
      obtain ⟨t, ht, -⟩ := State.frames_cons hr
      show ({ U with heap := s₂.heap, slotsUsed := s₂.slotsUsed } : State) = { U.setFrames U.frames with heap := s₂.heap, slotsUsed := s₂.slotsUsed }
      rw [State.setFrames_self ht]
    subst hg
    refine Or.inl ⟨v, ⟨(({ U with heap := s₂.heap, slotsUsed := s₂.slotsUsed } : State).setVm s₂.vm), Ls ++ L, c0 + mc, s0 + ms⟩,
      ⟨X.admits, X.cas, X.clock, X.frames, X.room, X.hears, X.method, X.code, (X.here.setHeapUsed s₂.heap s₂.slotsUsed).setVm hW'.alike, X.tail, State.WarmedH.trans X.warmed hW', X.limits, X.bytes, X.same.trans (hsame.setVm s.vm)⟩,
      ⟨g, mk, s₂, L, rfl, rfl, hqc, rfl, hL, rfl, rfl⟩, ?_⟩
    show Steps p.tables e below _ ((({ U with heap := s₂.heap, slotsUsed := s₂.slotsUsed } : State).setVm s₂.vm).setTop { g with pc := g.pc + len₂, stack := v.toList ++ g.stack })
    rw [← hs₂]
    exact hsteps
  · obtain ⟨e2, q2, q3, q4, q5, q6⟩ := id hsm
    have e3 : s₂ = ({ (U.calling g mk a).setFrames s₂.frames with heap := s₂.heap, slotsUsed := s₂.slotsUsed } : State).setVm s₂.vm := by
      have : s₂ = ({ s₂ with vm := (U.calling g mk a).vm } : State).setVm s₂.vm := rfl
      rw [e2] at this
      exact this
    have hf₂ : s₂.frames = .throwing q :: .java g :: U.frames.tail := hend
    have hW' : U.WarmedH s₂.vm := hW₂
    have hs₂ : s₂ = ((({ U with heap := s₂.heap, slotsUsed := s₂.slotsUsed } : State).setVm s₂.vm).setTop g).pushFrame (.throwing q) := by
      refine e3.trans ?_
      rw [hf₂, State.calling_eq h.top, State.setFrames_setFrames, State.pushFrame, State.frames_setTop _ hr', State.setTop_of_frames _ hr', State.setFrames_setFrames, hr]
      rfl
    have hsame : U.sameButNew ({ U with heap := s₂.heap, slotsUsed := s₂.slotsUsed } : State) L mc ms := by
      refine ⟨?_, q2, q3, q4, q5, q6⟩
      obtain ⟨t, ht, -⟩ := State.frames_cons hr
      show ({ U with heap := s₂.heap, slotsUsed := s₂.slotsUsed } : State) = { U.setFrames U.frames with heap := s₂.heap, slotsUsed := s₂.slotsUsed }
      rw [State.setFrames_self ht]
    subst hg
    refine Or.inr ⟨q, ⟨(({ U with heap := s₂.heap, slotsUsed := s₂.slotsUsed } : State).setVm s₂.vm), Ls ++ L, c0 + mc, s0 + ms⟩,
      ⟨X.admits, X.cas, X.clock, X.frames, X.room, X.hears, X.method, X.code, (X.here.setHeapUsed s₂.heap s₂.slotsUsed).setVm hW'.alike, X.tail, State.WarmedH.trans X.warmed hW', X.limits, X.bytes, X.same.trans (hsame.setVm s.vm)⟩,
      ⟨g, mk, s₂, L, E, ce, rfl, rfl, hx, hce, hcv, hcl, rfl, hL, rfl, rfl⟩, ?_⟩
    show Steps p.tables e below _ (((({ U with heap := s₂.heap, slotsUsed := s₂.slotsUsed } : State).setVm s₂.vm).setTop g).pushFrame (.throwing q))
    rw [← hs₂]
    exact hsteps
end
variable {p : Program} {l : Launch} {e : Env} {R : Room} {s : State} {m : MethodId} {args : Array Value} {below : List Frame} {meth : Method} {c : Code} {T : State} {H : Heap} {locs : List Loc} {cells slots : Nat}
theorem vx_callVX (X : Stand p l e R s m args below meth c T locs cells slots) (hexec : p.tables.exec = Jvm.exec) {own C : String} {index : Nat} {y : MethodName} {bytes : ByteArray} {maxL : Nat} {ret : Option FieldType} {hh : List (Nat × Nat × Nat × Nat)}
    (hown : s.vm.findClass own = some m.cls) (hlink : (Cond.methodLink own index y).before args s = true) (hinst : (Cond.instanceMethod y).before args s = true) (hsel : (Cond.selects C y y).before args s = true)
    (hcode : (Cond.codeWith y bytes maxL ret hh).before args s = true) (hy : y.cls ≠ "java/lang/invoke/MethodHandle" ∧ y.cls ≠ "java/lang/invoke/VarHandle")
    {W9 : Nat} {Pre : Pt → Array Value → Prop} {Post : Pt → Array Value → Option Value → Pt → Prop} {PostX : Pt → Array Value → Addr → Pt → Prop} (hK : vx_Back l R p e below s args y 3 W9 Pre Post PostX)
    {b : Addr} {cellB : Cell} (hcell : T.heap[b]? = some cellB) (hobj : cellB.vm.isStatics = false) (hcls : s.vm.findClass C = some cellB.cls)
    {g : JFrame} (hg : g.method = m) (hsize : g.locals.size = c.maxLocals) {argsL rest : List Value} (hlen : ∀ sig, parseMethodDescriptor y.desc = some sig → argsL.length = sig.parameters.length)
    (hstack : g.stack = argsL.reverse ++ .ref b :: rest) (hW : 2 * g.monitorRoom + (rest.map fun v => v.category).sum ≤ W9) (hdg : decode c.code g.pc = .ok (.invokevirtual index, 3))
    (hpre : ∀ vm₁, s.WarmedH vm₁ → Pre ⟨T.setVm vm₁, locs, cells, slots⟩ (Value.ref b :: argsL).toArray) :
    (∃ (v : Option Value) (vm₁ : Vm) (B : Pt), s.WarmedH vm₁ ∧ Stand p l e R s m args below meth c B.U B.locs B.cells B.slots ∧ Post ⟨T.setVm vm₁, locs, cells, slots⟩ (Value.ref b :: argsL).toArray v B ∧
      ∀ target, Steps p.tables e below (B.U.setTop { g with pc := g.pc + 3, stack := v.toList ++ rest }) target → Steps p.tables e below (T.setTop g) target) ∨
    (∃ (q : Addr) (vm₁ : Vm) (B : Pt), s.WarmedH vm₁ ∧ Stand p l e R s m args below meth c B.U B.locs B.cells B.slots ∧ PostX ⟨T.setVm vm₁, locs, cells, slots⟩ (Value.ref b :: argsL).toArray q B ∧
      Steps p.tables e below (T.setTop g) ((B.U.setTop { g with stack := rest }).pushFrame (.throwing q))) := by
  obtain ⟨mk, methM, hnamed, hmethM, hstM, habM⟩ := Cond.instanceMethod_spec hinst
  obtain ⟨m8, methM', cM, hn8, hmethM', -, -, -, -, -, -, hsigM⟩ := Cond.codeWith_spec hcode
  cases Option.some.inj (hn8.symm.trans hnamed)
  cases hmethM.symm.trans hmethM'
  obtain ⟨c2, r2, m2, q1, q2, q3, q4, kP, hkP, hkPi⟩ := Cond.selects_spec hsel
  cases hcls.symm.trans q1
  cases (State.methodFound?_of_named hnamed hy).symm.trans q2
  cases hnamed.symm.trans q3
  have hselP : selectMethod e.platform s.vm cellB.cls mk = .method mk := by rw [Launch.admits_selectMethod X.admits]; exact q4
  obtain ⟨vm₁, X₁, hstep₁⟩ := X.invokevirtual hexec hown hlink hnamed hmethM hstM hkP hkPi hy (a := b) (cell := cellB) hcell
    (fun z h => by rw [h] at hobj; cases hobj) hselP hmethM habM hkP hkPi (g := g) hg (argsL := argsL) (rest := rest) (hlen _ hsigM) hstack hdg
  rcases hK m meth c ⟨T.setVm vm₁, locs, cells, slots⟩ { g with stack := rest } (.invokevirtual index) mk (Value.ref b :: argsL).toArray X₁ hg hsize hdg hW (X₁.named hnamed) (hpre vm₁ X₁.warmed) with ⟨v, B, X', hpost, hsteps⟩ | ⟨q, B, X', hpost, hsteps⟩
  · exact Or.inl ⟨v, vm₁, B, X₁.warmed, X', hpost, fun target h => hstep₁ _ fun acts => by rw [doInvoke_state]; exact hsteps.trans h⟩
  · exact Or.inr ⟨q, vm₁, B, X₁.warmed, X', hpost, hstep₁ _ fun acts => by rw [doInvoke_state]; exact hsteps⟩
theorem vx_callSX (X : Stand p l e R s m args below meth c T locs cells slots) (hexec : p.tables.exec = Jvm.exec) {own : String} {index : Nat} {y : MethodName} {bytes : ByteArray} {maxL : Nat} {ret : Option FieldType} {hh : List (Nat × Nat × Nat × Nat)}
    (hown : s.vm.findClass own = some m.cls) (hlink : (Cond.methodLink own index y).before args s = true) (hstat : (Cond.static y).before args s = true) (hinit : (Cond.initialized y.cls).before args s = true)
    (hcode : (Cond.codeWith y bytes maxL ret hh).before args s = true) (hy : y.cls ≠ "java/lang/invoke/MethodHandle" ∧ y.cls ≠ "java/lang/invoke/VarHandle")
    {W9 : Nat} {Pre : Pt → Array Value → Prop} {Post : Pt → Array Value → Option Value → Pt → Prop} {PostX : Pt → Array Value → Addr → Pt → Prop} (hK : vx_Back l R p e below s args y 3 W9 Pre Post PostX)
    {g : JFrame} (hg : g.method = m) (hsize : g.locals.size = c.maxLocals) {argsL rest : List Value} (hlen : ∀ sig, parseMethodDescriptor y.desc = some sig → argsL.length = sig.parameters.length)
    (hstack : g.stack = argsL.reverse ++ rest) (hW : 2 * g.monitorRoom + (rest.map fun v => v.category).sum ≤ W9) (hdg : decode c.code g.pc = .ok (.invokestatic index, 3))
    (hpre : ∀ vm₁, s.WarmedH vm₁ → Pre ⟨T.setVm vm₁, locs, cells, slots⟩ argsL.toArray) :
    (∃ (v : Option Value) (vm₁ : Vm) (B : Pt), s.WarmedH vm₁ ∧ Stand p l e R s m args below meth c B.U B.locs B.cells B.slots ∧ Post ⟨T.setVm vm₁, locs, cells, slots⟩ argsL.toArray v B ∧
      ∀ target, Steps p.tables e below (B.U.setTop { g with pc := g.pc + 3, stack := v.toList ++ rest }) target → Steps p.tables e below (T.setTop g) target) ∨
    (∃ (q : Addr) (vm₁ : Vm) (B : Pt), s.WarmedH vm₁ ∧ Stand p l e R s m args below meth c B.U B.locs B.cells B.slots ∧ PostX ⟨T.setVm vm₁, locs, cells, slots⟩ argsL.toArray q B ∧
      Steps p.tables e below (T.setTop g) ((B.U.setTop { g with stack := rest }).pushFrame (.throwing q))) := by
  obtain ⟨mk, methM, cM, hnamed, hmethM, -, -, -, -, -, -, hsigM⟩ := Cond.codeWith_spec hcode
  have hstatic : methM.isStatic = true := Cond.static_spec hnamed hmethM hstat
  obtain ⟨kP, hkP, -⟩ := className_of_methodNamed hnamed
  have hinitP : kP.init = .initialized := Cond.initialized_spec (findClass_of_methodNamed hnamed) hkP hinit
  obtain ⟨vm₁, X₁, hstep₁⟩ := X.invokestatic hexec hown hlink hnamed hmethM hstatic hkP hinitP hy (g := g) hg (argsL := argsL) (rest := rest) (hlen _ hsigM) hstack hdg
  rcases hK m meth c ⟨T.setVm vm₁, locs, cells, slots⟩ { g with stack := rest } (.invokestatic index) mk argsL.toArray X₁ hg hsize hdg hW (X₁.named hnamed) (hpre vm₁ X₁.warmed) with ⟨v, B, X', hpost, hsteps⟩ | ⟨q, B, X', hpost, hsteps⟩
  · exact Or.inl ⟨v, vm₁, B, X₁.warmed, X', hpost, fun target h => hstep₁ _ fun acts => by rw [doInvoke_state]; exact hsteps.trans h⟩
  · exact Or.inr ⟨q, vm₁, B, X₁.warmed, X', hpost, hstep₁ _ fun acts => by rw [doInvoke_state]; exact hsteps⟩
theorem vx_callVW (X : Stand p l e R s m args below meth c T locs cells slots) (hexec : p.tables.exec = Jvm.exec) {own C : String} {index : Nat} {y : MethodName} {bytes : ByteArray} {maxL : Nat} {ret : Option FieldType} {hh : List (Nat × Nat × Nat × Nat)}
    (hown : s.vm.findClass own = some m.cls) (hlink : (Cond.methodLink own index y).before args s = true) (hinst : (Cond.instanceMethod y).before args s = true) (hsel : (Cond.selects C y y).before args s = true)
    (hcode : (Cond.codeWith y bytes maxL ret hh).before args s = true) (hy : y.cls ≠ "java/lang/invoke/MethodHandle" ∧ y.cls ≠ "java/lang/invoke/VarHandle")
    {W9 : Nat} {Pre : Pt → Array Value → Prop} {Post : Pt → Array Value → Option Value → Pt → Prop} (hK : Back l R p e below s args y 3 W9 Pre Post)
    {b : Addr} {cellB : Cell} (hcell : T.heap[b]? = some cellB) (hobj : cellB.vm.isStatics = false) (hcls : s.vm.findClass C = some cellB.cls)
    {g : JFrame} (hg : g.method = m) (hsize : g.locals.size = c.maxLocals) {argsL rest : List Value} (hlen : ∀ sig, parseMethodDescriptor y.desc = some sig → argsL.length = sig.parameters.length)
    (hstack : g.stack = argsL.reverse ++ .ref b :: rest) (hW : 2 * g.monitorRoom + (rest.map fun v => v.category).sum ≤ W9) (hdg : decode c.code g.pc = .ok (.invokevirtual index, 3))
    (hpre : ∀ vm₁, s.WarmedH vm₁ → Pre ⟨T.setVm vm₁, locs, cells, slots⟩ (Value.ref b :: argsL).toArray) :
    ∃ (v : Option Value) (vm₁ : Vm) (B : Pt), s.WarmedH vm₁ ∧ Stand p l e R s m args below meth c B.U B.locs B.cells B.slots ∧ Post ⟨T.setVm vm₁, locs, cells, slots⟩ (Value.ref b :: argsL).toArray v B ∧
      ∀ target, Steps p.tables e below (B.U.setTop { g with pc := g.pc + 3, stack := v.toList ++ rest }) target → Steps p.tables e below (T.setTop g) target := by
  obtain ⟨mk, methM, hnamed, hmethM, hstM, habM⟩ := Cond.instanceMethod_spec hinst
  obtain ⟨m8, methM', cM, hn8, hmethM', -, -, -, -, -, -, hsigM⟩ := Cond.codeWith_spec hcode
  cases Option.some.inj (hn8.symm.trans hnamed)
  cases hmethM.symm.trans hmethM'
  obtain ⟨c2, r2, m2, q1, q2, q3, q4, kP, hkP, hkPi⟩ := Cond.selects_spec hsel
  cases hcls.symm.trans q1
  cases (State.methodFound?_of_named hnamed hy).symm.trans q2
  cases hnamed.symm.trans q3
  have hselP : selectMethod e.platform s.vm cellB.cls mk = .method mk := by rw [Launch.admits_selectMethod X.admits]; exact q4
  obtain ⟨vm₁, X₁, hstep₁⟩ := X.invokevirtual hexec hown hlink hnamed hmethM hstM hkP hkPi hy (a := b) (cell := cellB) hcell
    (fun z h => by rw [h] at hobj; cases hobj) hselP hmethM habM hkP hkPi (g := g) hg (argsL := argsL) (rest := rest) (hlen _ hsigM) hstack hdg
  obtain ⟨v, B, X', hpost, hsteps⟩ := hK m meth c ⟨T.setVm vm₁, locs, cells, slots⟩ { g with stack := rest } (.invokevirtual index) mk (Value.ref b :: argsL).toArray X₁ hg hsize hdg hW (X₁.named hnamed) (hpre vm₁ X₁.warmed)
  exact ⟨v, vm₁, B, X₁.warmed, X', hpost, fun target h => hstep₁ _ fun acts => by rw [doInvoke_state]; exact hsteps.trans h⟩
abbrev vx_CVW (R : Room) (s : State) (args : Array Value) (own C : String) (index : Nat) (y : MethodName) (bytes : ByteArray) (maxL : Nat) (ret : Option FieldType) (hh : List (Nat × Nat × Nat × Nat)) (ws : List Cond) (rm : Room) (mc ms n : Nat) : Prop :=
  (rm.cells = mc ∧ rm.slots = ms ∧ rm.frames + 1 ≤ R.frames ∧ 8 + (maxL + 11) + rm.locals ≤ R.locals ∧ (∀ w ∈ ws, ∀ (a' : Array Value) (U : State), s.WarmedH U.vm → w.before a' U = true) ∧ Cond.codeWith y bytes maxL ret hh ∈ ws) ∧
  (Cond.codeWith y bytes maxL ret hh).before args s = true ∧ (Cond.initialized y.cls).before args s = true ∧ (y.cls ≠ "java/lang/invoke/MethodHandle" ∧ y.cls ≠ "java/lang/invoke/VarHandle") ∧
  (∀ sig, parseMethodDescriptor y.desc = some sig → n = sig.parameters.length) ∧ (Cond.methodLink own index y).before args s = true ∧ (Cond.instanceMethod y).before args s = true ∧ (Cond.selects C y y).before args s = true
theorem vx_cwVW {own C : String} {index maxL mc ms : Nat} {y : MethodName} {bytes : ByteArray} {ret : Option FieldType} {hh : List (Nat × Nat × Nat × Nat)} {Ts ws ws' : List Cond} {rm : Room} (n : Nat) (ht : ∀ w ∈ Ts, w.before args s = true) (hT : GoodIn Ts (wsV own index C y ws)) (hw : ws = Cond.codeWith y bytes maxL ret hh :: ws') (hrc : rm.cells = mc) (hrs : rm.slots = ms)
    (hd : y.cls = C ∧ y.cls ≠ "java/lang/invoke/MethodHandle" ∧ y.cls ≠ "java/lang/invoke/VarHandle" ∧ (parseMethodDescriptor y.desc).map (fun d => d.parameters.length) = some n) (hR : rm.frames + 1 ≤ R.frames ∧ 8 + (maxL + 11) + rm.locals ≤ R.locals) :
    vx_CVW R s args own C index y bytes maxL ret hh ws rm mc ms n := by
  obtain ⟨hC, hd⟩ := hd
  subst hC
  have ok : ∀ w ∈ wsV own index y.cls y ws, w.before args s = true := fun w h => ht w (hT w h).1
  have hG : GoodIn Ts ws := fun w h => hT w (by unfold wsV; exact List.mem_append_right _ h)
  have hc : Cond.codeWith y bytes maxL ret hh ∈ ws := by rw [hw]; exact List.mem_cons_self
  refine ⟨⟨hrc, hrs, hR.1, hR.2, pay_in ht hG, hc⟩, ht _ (hG _ hc).1, ok _ (by simp [wsV]), ⟨hd.1, hd.2.1⟩, fun sig h => ?_, ok _ (by simp [wsV]), ok _ (by simp [wsV]), ok _ (by simp [wsV])⟩
  have h2 := hd.2.2
  rw [h] at h2
  exact (Option.some.inj h2).symm
theorem vx_runVW {y : MethodName} {bytes cc : ByteArray} {maxL nL mc ms n index : Nat} {ret : Option FieldType} {hh : List (Nat × Nat × Nat × Nat)} {ws : List Cond} {rm : Room} {Pc : Array Value → State → Prop} {Qc : Array Value → State → Outcome → State → Prop} {free : Addr → Prop} {Ts : List Cond} {own C : String} {b : Addr} {As rest : List Value} {g : JFrame}
    (S : CallFix p m c cc nL s args Ts own) (hM : Met l y ws rm Pc Qc mc ms free) (cw : vx_CVW R s args own C index y bytes maxL ret hh ws rm mc ms n) (hp : PreV s H C b Pc As)
    (hg : g.method = m) (hn : As.length = n) (hsize : g.locals.size = nL) (hstack : g.stack = As.reverse ++ .ref b :: rest) (hW : 2 * g.monitorRoom + (rest.map fun v => v.category).sum ≤ 8) (hdg : decode cc g.pc = .ok (.invokevirtual index, 3)) (hf : cells + mc ≤ R.cells ∧ slots + ms ≤ R.slots) :
    va_Run p l e R s m args below meth c H locs cells slots mc ms g rest (Qc (Value.ref b :: As).toArray) free := by
  obtain ⟨⟨hrc, hrs, hfr, hlo, hws, hcw⟩, hcode, hini, hy, hlen, hl, hin, hse⟩ := cw
  have hK : Back l R p e below s args y 3 8 (PreOf R mc ms Pc) (PostOf Qc mc ms free) := va_backW (hh := hh) (bytes := bytes) (maxL := maxL) (ret := ret) hM hp.1 hrc hrs hfr hlo hws hcw (fun a' U hW => word_at hW (Or.inl (by first | rfl | simp [Cond.onTables, Cond.keeps, Cond.steady])) hini)
  obtain ⟨hx, hb, hml, ho, -⟩ := S
  obtain ⟨-, ⟨cellB, hcB, hoB, hclB⟩, hPc⟩ := hp
  intro T hT X
  obtain ⟨v, vm₁, ⟨U', l2, c2, s2⟩, hW₁, X', ⟨g', mk, t, L, e1, e2, hq, h1, hL, h2, h3⟩, st⟩ := vx_callVW X hx (C := C) (hh := hh) (bytes := bytes) (maxL := maxL) (ret := ret) ho hl hin hse hcode hy hK (by rw [hT]; exact hcB) hoB hclB hg (hsize.trans hml.symm) (argsL := As) (rest := rest) (fun sig h => hn.trans (hlen sig h)) hstack hW (by rw [hb]; exact hdg)
    (fun vm₁ hW₁ => ⟨hf.1, hf.2, hPc (T.setVm vm₁) hT hW₁⟩)
  dsimp only [Pt.U, Pt.locs, Pt.cells, Pt.slots] at X' e1 e2 h1 h2 h3 st
  subst h1; subst h2; subst h3
  exact ⟨v, (T.setVm vm₁).calling g' mk (Value.ref b :: As).toArray, t, U', L, hT, X', hL, e1, e2, hq, st⟩
section
variable {y : MethodName} {bytes cc : ByteArray} {maxL nL mc ms n index : Nat} {ret : Option FieldType} {ws : List Cond} {rm : Room} {Pc : Array Value → State → Prop} {Qc : Array Value → State → Outcome → State → Prop} {XC : String → State → State → Prop} {free : Addr → Prop} {Ts : List Cond} {own C : String} {b : Addr} {As rest : List Value} {g : JFrame}
theorem vx_runVX {hh : List (Nat × Nat × Nat × Nat)} (S : CallFix p m c cc nL s args Ts own) (hM : vx_Met l y ws rm Pc Qc XC mc ms free) (cw : vx_CVW R s args own C index y bytes maxL ret hh ws rm mc ms n) (hp : PreV s H C b Pc As)
    (hg : g.method = m) (hn : As.length = n) (hsize : g.locals.size = nL) (hstack : g.stack = As.reverse ++ .ref b :: rest) (hW : 2 * g.monitorRoom + (rest.map fun v => v.category).sum ≤ 8) (hdg : decode cc g.pc = .ok (.invokevirtual index, 3)) (hf : cells + mc ≤ R.cells ∧ slots + ms ≤ R.slots) :
    vx_Run p l e R s m args below meth c H locs cells slots mc ms g rest (Qc (Value.ref b :: As).toArray) XC free := by
  obtain ⟨⟨hrc, hrs, hfr, hlo, hws, hcw⟩, hcode, hini, hy, hlen, hl, hin, hse⟩ := cw
  have hK : vx_Back l R p e below s args y 3 8 (PreOf R mc ms Pc) (PostOf Qc mc ms free) (vx_Post XC mc ms free) := vx_backW (hh := hh) (bytes := bytes) (maxL := maxL) (ret := ret) hM hp.1 hrc hrs hfr hlo hws hcw (fun a' U hW => word_at hW (Or.inl (by first | rfl | simp [Cond.onTables, Cond.keeps, Cond.steady])) hini)
  obtain ⟨hx, hb, hml, ho, -⟩ := S
  obtain ⟨-, ⟨cellB, hcB, hoB, hclB⟩, hPc⟩ := hp
  intro T hT X
  rcases vx_callVX X hx (C := C) (hh := hh) (bytes := bytes) (maxL := maxL) (ret := ret) ho hl hin hse hcode hy hK (by rw [hT]; exact hcB) hoB hclB hg (hsize.trans hml.symm) (argsL := As) (rest := rest) (fun sig h => hn.trans (hlen sig h)) hstack hW (by rw [hb]; exact hdg)
    (fun vm₁ hW₁ => ⟨hf.1, hf.2, hPc (T.setVm vm₁) hT hW₁⟩) with ⟨v, vm₁, ⟨U', l2, c2, s2⟩, hW₁, X', ⟨g', mk, t, L, e1, e2, hq, h1, hL, h2, h3⟩, st⟩ | ⟨q, vm₁, ⟨U', l2, c2, s2⟩, hW₁, X', ⟨g', mk, t, L, E, ce, e1, e2, hq, hce, hcv, hcl, h1, hL, h2, h3⟩, st⟩
  · dsimp only [Pt.U, Pt.locs, Pt.cells, Pt.slots] at X' e1 e2 h1 h2 h3 st
    subst h1; subst h2; subst h3
    exact Or.inl ⟨v, (T.setVm vm₁).calling g' mk (Value.ref b :: As).toArray, t, U', L, hT, X', hL, e1, e2, hq, st⟩
  · dsimp only [Pt.U, Pt.locs, Pt.cells, Pt.slots] at X' e1 e2 h1 h2 h3 st hcl
    subst h1; subst h2; subst h3
    exact Or.inr ⟨q, (T.setVm vm₁).calling g' mk (Value.ref b :: As).toArray, t, U', L, E, ce, hT, X', hL, e1, e2, hq, hce, hcv, vx_cls hW₁ hcl, st⟩
theorem vx_runSX {hh : List (Nat × Nat × Nat × Nat)} (S : CallFix p m c cc nL s args Ts own) (hM : vx_Met l y ws rm Pc Qc XC mc ms free) (cw : vx_CSW R s args own index y bytes maxL ret hh ws rm mc ms n) (hp : PreS s H Pc As)
    (hg : g.method = m) (hn : As.length = n) (hsize : g.locals.size = nL) (hstack : g.stack = As.reverse ++ rest) (hW : 2 * g.monitorRoom + (rest.map fun v => v.category).sum ≤ 8) (hdg : decode cc g.pc = .ok (.invokestatic index, 3)) (hf : cells + mc ≤ R.cells ∧ slots + ms ≤ R.slots) :
    vx_Run p l e R s m args below meth c H locs cells slots mc ms g rest (Qc As.toArray) XC free := by
  obtain ⟨⟨hrc, hrs, hfr, hlo, hws, hcw⟩, hcode, hini, hy, hlen, hl, hstt⟩ := cw
  have hK : vx_Back l R p e below s args y 3 8 (PreOf R mc ms Pc) (PostOf Qc mc ms free) (vx_Post XC mc ms free) := vx_backW (hh := hh) (bytes := bytes) (maxL := maxL) (ret := ret) hM hp.1 hrc hrs hfr hlo hws hcw (fun a' U hW => word_at hW (Or.inl (by first | rfl | simp [Cond.onTables, Cond.keeps, Cond.steady])) hini)
  obtain ⟨hx, hb, hml, ho, -⟩ := S
  intro T hT X
  rcases vx_callSX X hx (hh := hh) (bytes := bytes) (maxL := maxL) (ret := ret) ho hl hstt hini hcode hy hK hg (hsize.trans hml.symm) (argsL := As) (rest := rest) (fun sig h => hn.trans (hlen sig h)) hstack hW (by rw [hb]; exact hdg)
    (fun vm₁ hW₁ => ⟨hf.1, hf.2, hp.2 (T.setVm vm₁) hT hW₁⟩) with ⟨v, vm₁, ⟨U', l2, c2, s2⟩, hW₁, X', ⟨g', mk, t, L, e1, e2, hq, h1, hL, h2, h3⟩, st⟩ | ⟨q, vm₁, ⟨U', l2, c2, s2⟩, hW₁, X', ⟨g', mk, t, L, E, ce, e1, e2, hq, hce, hcv, hcl, h1, hL, h2, h3⟩, st⟩
  · dsimp only [Pt.U, Pt.locs, Pt.cells, Pt.slots] at X' e1 e2 h1 h2 h3 st
    subst h1; subst h2; subst h3
    exact Or.inl ⟨v, (T.setVm vm₁).calling g' mk As.toArray, t, U', L, hT, X', hL, e1, e2, hq, st⟩
  · dsimp only [Pt.U, Pt.locs, Pt.cells, Pt.slots] at X' e1 e2 h1 h2 h3 st hcl
    subst h1; subst h2; subst h3
    exact Or.inr ⟨q, (T.setVm vm₁).calling g' mk As.toArray, t, U', L, E, ce, hT, X', hL, e1, e2, hq, hce, hcv, vx_cls hW₁ hcl, st⟩
end
end VXH
theorem vx_ofWH {l : Launch} {y : MethodName} {ws ws' : List Cond} {rm : Room} {Pc : Array Value → State → Prop} {Qc : Array Value → State → Outcome → State → Prop} {XC : String → State → State → Prop} {mc ms : Nat} {free : Addr → Prop} {cc : ByteArray} {maxL : Nat} {ret : Option FieldType} {hh : List (Nat × Nat × Nat × Nat)}
    (hy : plainName y.cls = true) (hw : ws = Cond.codeWith y cc maxL ret hh :: ws')
    (body : ∀ p e s m args below meth c s₁, BodyLoose p l y (headSpec ws rm) cc maxL ret e s m args below meth c s₁ → c.maxLocals = maxL → Pc args s →
      W p l e (headSpec ws rm).room s m args below meth c s.heap [] 0 0 (vx_MQ below Qc XC args s mc ms free) (entryFrame m args maxL)) : vx_Met l y ws rm Pc Qc XC mc ms free := by
  refine MetFree.of_bodyS (code := cc) (maxLocals := maxL) (ret := ret) hy ?_ ?_
  · intro args s m h hn
    obtain ⟨m9, meth, c, hn9, h1, h2, h3, h4, -, h5, h6, -⟩ := Cond.codeWith_spec (atoms_spec (ws := ws) h _ (by rw [hw]; exact List.mem_cons_self))
    cases hn.symm.trans hn9
    exact ⟨meth, c, h1, h2, h3, h4, h5, h6⟩
  · intro p e s m args below meth c s₁ B hml hP _
    have hh0 : s₁.heap = s.heap := by rw [B.state]; rfl
    obtain ⟨t, a1, o, b1, b2, b3⟩ := body p e s m args below meth c s₁ B hml hP s₁ hh0 (Stand.of_body B)
    exact ⟨t, o, a1, b1, b2, b3⟩
/-! ===== END ===== -/
end
section
/-! ===== BEGIN printed: names, fields, word lists, decode rows ===== -/
def RX0 : String := "LoadBalancer$Breaker"
def TX0 : u_T := fun k => match k with
  | 0 => ("LoadBalancer$Breaker", "position", "I", false)
  | 1 => ("LoadBalancer$Breaker", "openSince", "I", false)
  | 2 => ("LoadBalancer$Breaker", "trial", "I", false)
  | 3 => ("LoadBalancer$Breaker", "resultCount", "I", false)
  | _ => ("LoadBalancer$Breaker", "badBits", "I", false)
def tyX0 : Nat → FieldType := fun k => match k with
  | 0 => .int
  | 1 => .int
  | 2 => .int
  | 3 => .int
  | _ => .int
abbrev wsX00 : List Cond := u_ws RX0 TX0 5
theorem nmX0 : ∀ a, a < 5 → ∀ b, b < 5 → a ≠ b → (TX0 a).2.1 ≠ (TX0 b).2.1 := by decide +kernel
theorem tyX0_ok : ∀ k, k < 5 → parseFieldDescriptor (TX0 k).2.2.1 = some (tyX0 k) := by decide +kernel
abbrev cX0_init : ByteArray := prog_2_method_1_code
def yX0_init : MethodName := ⟨RX0, "<init>", "()V"⟩
abbrev cX0_shut : ByteArray := prog_2_method_2_code
def yX0_shut : MethodName := ⟨RX0, "shut", "()V"⟩
abbrev cX0_trip : ByteArray := prog_2_method_3_code
def yX0_trip : MethodName := ⟨RX0, "trip", "(I)V"⟩
abbrev cX0_coolDown : ByteArray := prog_2_method_4_code
def yX0_coolDown : MethodName := ⟨RX0, "coolDown", "(II)V"⟩
abbrev cX0_letsThrough : ByteArray := prog_2_method_5_code
def yX0_letsThrough : MethodName := ⟨RX0, "letsThrough", "()Z"⟩
abbrev cX0_noteBegin : ByteArray := prog_2_method_6_code
def yX0_noteBegin : MethodName := ⟨RX0, "noteBegin", "(I)V"⟩
abbrev cX0_noteEnd : ByteArray := prog_2_method_7_code
def yX0_noteEnd : MethodName := ⟨RX0, "noteEnd", "(IZI)V"⟩
abbrev cX0_addResult : ByteArray := prog_2_method_8_code
def yX0_addResult : MethodName := ⟨RX0, "addResult", "(ZI)V"⟩
abbrev cX0_endTrial : ByteArray := prog_2_method_9_code
def yX0_endTrial : MethodName := ⟨RX0, "endTrial", "(ZI)V"⟩
abbrev cX0_copyFrom : ByteArray := prog_2_method_10_code
def yX0_copyFrom : MethodName := ⟨RX0, "copyFrom", "(LLoadBalancer$Breaker;)V"⟩
def RX1 : String := "LoadBalancer$Clients"
def TX1 : u_T := fun k => match k with
  | 0 => ("LoadBalancer$Clients", "client", "[I", true)
  | 1 => ("LoadBalancer$Clients", "server", "[I", true)
  | 2 => ("LoadBalancer$Clients", "openedAt", "[I", true)
  | _ => ("LoadBalancer$Clients", "size", "I", false)
def tyX1 : Nat → FieldType := fun k => match k with
  | 0 => .array .int
  | 1 => .array .int
  | 2 => .array .int
  | _ => .int
abbrev wsX10 : List Cond := u_ws RX1 TX1 4
theorem nmX1 : ∀ a, a < 4 → ∀ b, b < 4 → a ≠ b → (TX1 a).2.1 ≠ (TX1 b).2.1 := by decide +kernel
theorem tyX1_ok : ∀ k, k < 4 → parseFieldDescriptor (TX1 k).2.2.1 = some (tyX1 k) := by decide +kernel
abbrev cX1_init : ByteArray := prog_3_method_1_code
def yX1_init : MethodName := ⟨RX1, "<init>", "()V"⟩
abbrev cX1_placeOf : ByteArray := prog_3_method_2_code
def yX1_placeOf : MethodName := ⟨RX1, "placeOf", "(I)I"⟩
abbrev cX1_remember : ByteArray := prog_3_method_3_code
def yX1_remember : MethodName := ⟨RX1, "remember", "(III)V"⟩
abbrev cX1_newPlace : ByteArray := prog_3_method_4_code
def yX1_newPlace : MethodName := ⟨RX1, "newPlace", "()I"⟩
abbrev cX1_oldestPlace : ByteArray := prog_3_method_5_code
def yX1_oldestPlace : MethodName := ⟨RX1, "oldestPlace", "()I"⟩
abbrev cX1_isForgottenBefore : ByteArray := prog_3_method_6_code
def yX1_isForgottenBefore : MethodName := ⟨RX1, "isForgottenBefore", "(II)Z"⟩
abbrev cX1_forgetAll : ByteArray := prog_3_method_7_code
def yX1_forgetAll : MethodName := ⟨RX1, "forgetAll", "()V"⟩
abbrev cX1_copyFrom : ByteArray := prog_3_method_8_code
def yX1_copyFrom : MethodName := ⟨RX1, "copyFrom", "(LLoadBalancer$Clients;)V"⟩
def RX2 : String := "LoadBalancer$Connections"
def TX2 : u_T := fun k => match k with
  | 0 => ("LoadBalancer$Connections", "server", "[I", true)
  | 1 => ("LoadBalancer$Connections", "openedAt", "[I", true)
  | 2 => ("LoadBalancer$Connections", "live", "[Z", true)
  | _ => ("LoadBalancer$Connections", "opened", "I", false)
def tyX2 : Nat → FieldType := fun k => match k with
  | 0 => .array .int
  | 1 => .array .int
  | 2 => .array .boolean
  | _ => .int
abbrev wsX20 : List Cond := u_ws RX2 TX2 4
theorem nmX2 : ∀ a, a < 4 → ∀ b, b < 4 → a ≠ b → (TX2 a).2.1 ≠ (TX2 b).2.1 := by decide +kernel
theorem tyX2_ok : ∀ k, k < 4 → parseFieldDescriptor (TX2 k).2.2.1 = some (tyX2 k) := by decide +kernel
abbrev cX2_init : ByteArray := prog_4_method_1_code
def yX2_init : MethodName := ⟨RX2, "<init>", "()V"⟩
abbrev cX2_isFull : ByteArray := prog_4_method_2_code
def yX2_isFull : MethodName := ⟨RX2, "isFull", "()Z"⟩
abbrev cX2_append : ByteArray := prog_4_method_3_code
def yX2_append : MethodName := ⟨RX2, "append", "(II)I"⟩
abbrev cX2_copyFrom : ByteArray := prog_4_method_4_code
def yX2_copyFrom : MethodName := ⟨RX2, "copyFrom", "(LLoadBalancer$Connections;)V"⟩
def RX3 : String := "LoadBalancer$Server"
def TX3 : u_T := fun k => match k with
  | 0 => ("LoadBalancer$Server", "breaker", "LLoadBalancer$Breaker;", true)
  | 1 => ("LoadBalancer$Server", "weight", "I", false)
  | 2 => ("LoadBalancer$Server", "capacity", "I", false)
  | 3 => ("LoadBalancer$Server", "load", "I", false)
  | 4 => ("LoadBalancer$Server", "credit", "I", false)
  | 5 => ("LoadBalancer$Server", "healthy", "Z", false)
  | 6 => ("LoadBalancer$Server", "draining", "Z", false)
  | 7 => ("LoadBalancer$Server", "streak", "I", false)
  | 8 => ("LoadBalancer$Server", "recovered", "Z", false)
  | _ => ("LoadBalancer$Server", "recoveredAt", "I", false)
def tyX3 : Nat → FieldType := fun k => match k with
  | 0 => .object "LoadBalancer$Breaker"
  | 1 => .int
  | 2 => .int
  | 3 => .int
  | 4 => .int
  | 5 => .boolean
  | 6 => .boolean
  | 7 => .int
  | 8 => .boolean
  | _ => .int
abbrev wsX30 : List Cond := u_ws RX3 TX3 10
theorem nmX3 : ∀ a, a < 10 → ∀ b, b < 10 → a ≠ b → (TX3 a).2.1 ≠ (TX3 b).2.1 := by decide +kernel
theorem tyX3_ok : ∀ k, k < 10 → parseFieldDescriptor (TX3 k).2.2.1 = some (tyX3 k) := by decide +kernel
abbrev cX3_init : ByteArray := prog_5_method_1_code
def yX3_init : MethodName := ⟨RX3, "<init>", "()V"⟩
abbrev cX3_begin : ByteArray := prog_5_method_2_code
def yX3_begin : MethodName := ⟨RX3, "begin", "(II)V"⟩
abbrev cX3_checkWhileHealthy : ByteArray := prog_5_method_3_code
def yX3_checkWhileHealthy : MethodName := ⟨RX3, "checkWhileHealthy", "(ZI)V"⟩
abbrev cX3_checkWhileUnhealthy : ByteArray := prog_5_method_4_code
def yX3_checkWhileUnhealthy : MethodName := ⟨RX3, "checkWhileUnhealthy", "(ZII)V"⟩
abbrev cX3_accepts : ByteArray := prog_5_method_5_code
def yX3_accepts : MethodName := ⟨RX3, "accepts", "()Z"⟩
abbrev cX3_ringDistance : ByteArray := prog_5_method_6_code
def yX3_ringDistance : MethodName := ⟨RX3, "ringDistance", "(II)I"⟩
abbrev cX3_copyFrom : ByteArray := prog_5_method_7_code
def yX3_copyFrom : MethodName := ⟨RX3, "copyFrom", "(LLoadBalancer$Server;)V"⟩
def RX4 : String := "LoadBalancer$State"
def TX4 : u_T := fun k => match k with
  | 0 => ("LoadBalancer$State", "servers", "[LLoadBalancer$Server;", true)
  | 1 => ("LoadBalancer$State", "connections", "LLoadBalancer$Connections;", true)
  | 2 => ("LoadBalancer$State", "clients", "LLoadBalancer$Clients;", true)
  | 3 => ("LoadBalancer$State", "serverCount", "I", false)
  | 4 => ("LoadBalancer$State", "rise", "I", false)
  | 5 => ("LoadBalancer$State", "fall", "I", false)
  | 6 => ("LoadBalancer$State", "window", "I", false)
  | 7 => ("LoadBalancer$State", "cool", "I", false)
  | 8 => ("LoadBalancer$State", "duration", "I", false)
  | 9 => ("LoadBalancer$State", "policy", "I", false)
  | 10 => ("LoadBalancer$State", "lastSelected", "I", false)
  | 11 => ("LoadBalancer$State", "seed", "I", false)
  | 12 => ("LoadBalancer$State", "time", "I", false)
  | _ => ("LoadBalancer$State", "rejections", "I", false)
def tyX4 : Nat → FieldType := fun k => match k with
  | 0 => .array (.object "LoadBalancer$Server")
  | 1 => .object "LoadBalancer$Connections"
  | 2 => .object "LoadBalancer$Clients"
  | 3 => .int
  | 4 => .int
  | 5 => .int
  | 6 => .int
  | 7 => .int
  | 8 => .int
  | 9 => .int
  | 10 => .int
  | 11 => .int
  | 12 => .int
  | _ => .int
abbrev wsX40 : List Cond := u_ws RX4 TX4 14
theorem nmX4 : ∀ a, a < 14 → ∀ b, b < 14 → a ≠ b → (TX4 a).2.1 ≠ (TX4 b).2.1 := by decide +kernel
theorem tyX4_ok : ∀ k, k < 14 → parseFieldDescriptor (TX4 k).2.2.1 = some (tyX4 k) := by decide +kernel
abbrev cX4_init : ByteArray := prog_6_method_1_code
def yX4_init : MethodName := ⟨RX4, "<init>", "()V"⟩
abbrev cX4_serverAt : ByteArray := prog_6_method_2_code
def yX4_serverAt : MethodName := ⟨RX4, "serverAt", "(I)LLoadBalancer$Server;"⟩
abbrev cX4_append : ByteArray := prog_6_method_3_code
def yX4_append : MethodName := ⟨RX4, "append", "(II)I"⟩
abbrev cX4_forgetSelections : ByteArray := prog_6_method_4_code
def yX4_forgetSelections : MethodName := ⟨RX4, "forgetSelections", "()V"⟩
abbrev cX4_coolBreakers : ByteArray := prog_6_method_5_code
def yX4_coolBreakers : MethodName := ⟨RX4, "coolBreakers", "()V"⟩
abbrev cX4_totalLoad : ByteArray := prog_6_method_6_code
def yX4_totalLoad : MethodName := ⟨RX4, "totalLoad", "()I"⟩
abbrev cX4_weightNow : ByteArray := prog_6_method_7_code
def yX4_weightNow : MethodName := ⟨RX4, "weightNow", "(LLoadBalancer$Server;)I"⟩
abbrev cX4_serverFor : ByteArray := prog_6_method_8_code
def yX4_serverFor : MethodName := ⟨RX4, "serverFor", "(I)I"⟩
abbrev cX4_stickyServer : ByteArray := prog_6_method_9_code
def yX4_stickyServer : MethodName := ⟨RX4, "stickyServer", "(I)I"⟩
abbrev cX4_selectByPolicy : ByteArray := prog_6_method_10_code
def yX4_selectByPolicy : MethodName := ⟨RX4, "selectByPolicy", "(I)I"⟩
abbrev cX4_selectNext : ByteArray := prog_6_method_11_code
def yX4_selectNext : MethodName := ⟨RX4, "selectNext", "()I"⟩
abbrev cX4_firstAvailableFrom : ByteArray := prog_6_method_12_code
def yX4_firstAvailableFrom : MethodName := ⟨RX4, "firstAvailableFrom", "(I)I"⟩
abbrev cX4_selectByCredit : ByteArray := prog_6_method_13_code
def yX4_selectByCredit : MethodName := ⟨RX4, "selectByCredit", "()I"⟩
abbrev cX4_selectLeastLoaded : ByteArray := prog_6_method_14_code
def yX4_selectLeastLoaded : MethodName := ⟨RX4, "selectLeastLoaded", "()I"⟩
abbrev cX4_isLessLoaded : ByteArray := prog_6_method_15_code
def yX4_isLessLoaded : MethodName := ⟨RX4, "isLessLoaded", "(LLoadBalancer$Server;LLoadBalancer$Server;)Z"⟩
abbrev cX4_firstOnRing : ByteArray := prog_6_method_16_code
def yX4_firstOnRing : MethodName := ⟨RX4, "firstOnRing", "(IZ)I"⟩
abbrev cX4_selectOfTwo : ByteArray := prog_6_method_17_code
def yX4_selectOfTwo : MethodName := ⟨RX4, "selectOfTwo", "()I"⟩
abbrev cX4_availableCount : ByteArray := prog_6_method_18_code
def yX4_availableCount : MethodName := ⟨RX4, "availableCount", "()I"⟩
abbrev cX4_availableAt : ByteArray := prog_6_method_19_code
def yX4_availableAt : MethodName := ⟨RX4, "availableAt", "(I)I"⟩
abbrev cX4_noteSelection : ByteArray := prog_6_method_20_code
def yX4_noteSelection : MethodName := ⟨RX4, "noteSelection", "(I)V"⟩
abbrev cX4_moveCredits : ByteArray := prog_6_method_21_code
def yX4_moveCredits : MethodName := ⟨RX4, "moveCredits", "(I)V"⟩
abbrev cX4_connect : ByteArray := prog_6_method_22_code
def yX4_connect : MethodName := ⟨RX4, "connect", "(II)I"⟩
abbrev cX4_disconnect : ByteArray := prog_6_method_23_code
def yX4_disconnect : MethodName := ⟨RX4, "disconnect", "(IZ)I"⟩
abbrev cX4_copyFrom : ByteArray := prog_6_method_24_code
def yX4_copyFrom : MethodName := ⟨RX4, "copyFrom", "(LLoadBalancer$State;)V"⟩
def RX5 : String := "LoadBalancer"
def TX5 : u_T := fun k => match k with
  | 0 => ("LoadBalancer", "state", "LLoadBalancer$State;", true)
  | _ => ("LoadBalancer", "saved", "[LLoadBalancer$State;", true)
def tyX5 : Nat → FieldType := fun k => match k with
  | 0 => .object "LoadBalancer$State"
  | _ => .array (.object "LoadBalancer$State")
abbrev wsX50 : List Cond := u_ws RX5 TX5 2
theorem nmX5 : ∀ a, a < 2 → ∀ b, b < 2 → a ≠ b → (TX5 a).2.1 ≠ (TX5 b).2.1 := by decide +kernel
theorem tyX5_ok : ∀ k, k < 2 → parseFieldDescriptor (TX5 k).2.2.1 = some (tyX5 k) := by decide +kernel
abbrev cX5_init : ByteArray := prog_1_method_1_code
def yX5_init : MethodName := ⟨RX5, "<init>", "()V"⟩
abbrev cX5_addServer : ByteArray := prog_1_method_2_code
def yX5_addServer : MethodName := ⟨RX5, "addServer", "(II)I"⟩
abbrev cX5_setWeight : ByteArray := prog_1_method_3_code
def yX5_setWeight : MethodName := ⟨RX5, "setWeight", "(II)I"⟩
abbrev cX5_setDraining : ByteArray := prog_1_method_4_code
def yX5_setDraining : MethodName := ⟨RX5, "setDraining", "(IZ)Z"⟩
abbrev cX5_report : ByteArray := prog_1_method_5_code
def yX5_report : MethodName := ⟨RX5, "report", "(IZ)Z"⟩
abbrev cX5_servers : ByteArray := prog_1_method_6_code
def yX5_servers : MethodName := ⟨RX5, "servers", "()I"⟩
abbrev cX5_setThresholds : ByteArray := prog_1_method_7_code
def yX5_setThresholds : MethodName := ⟨RX5, "setThresholds", "(II)V"⟩
abbrev cX5_setSlowStart : ByteArray := prog_1_method_8_code
def yX5_setSlowStart : MethodName := ⟨RX5, "setSlowStart", "(I)I"⟩
abbrev cX5_setCool : ByteArray := prog_1_method_9_code
def yX5_setCool : MethodName := ⟨RX5, "setCool", "(I)I"⟩
abbrev cX5_setSticky : ByteArray := prog_1_method_10_code
def yX5_setSticky : MethodName := ⟨RX5, "setSticky", "(I)I"⟩
abbrev cX5_setPolicy : ByteArray := prog_1_method_11_code
def yX5_setPolicy : MethodName := ⟨RX5, "setPolicy", "(I)I"⟩
abbrev cX5_setSeed : ByteArray := prog_1_method_12_code
def yX5_setSeed : MethodName := ⟨RX5, "setSeed", "(I)I"⟩
abbrev cX5_tick : ByteArray := prog_1_method_13_code
def yX5_tick : MethodName := ⟨RX5, "tick", "(I)I"⟩
abbrev cX5_preview : ByteArray := prog_1_method_14_code
def yX5_preview : MethodName := ⟨RX5, "preview", "(I)I"⟩
abbrev cX5_open : ByteArray := prog_1_method_15_code
def yX5_open : MethodName := ⟨RX5, "open", "(I)I"⟩
abbrev cX5_close : ByteArray := prog_1_method_16_code
def yX5_close : MethodName := ⟨RX5, "close", "(IZ)I"⟩
abbrev cX5_serverOf : ByteArray := prog_1_method_17_code
def yX5_serverOf : MethodName := ⟨RX5, "serverOf", "(I)I"⟩
abbrev cX5_isAvailable : ByteArray := prog_1_method_18_code
def yX5_isAvailable : MethodName := ⟨RX5, "isAvailable", "(I)Z"⟩
abbrev cX5_effectiveWeight : ByteArray := prog_1_method_19_code
def yX5_effectiveWeight : MethodName := ⟨RX5, "effectiveWeight", "(I)I"⟩
abbrev cX5_active : ByteArray := prog_1_method_20_code
def yX5_active : MethodName := ⟨RX5, "active", "(I)I"⟩
abbrev cX5_utilization : ByteArray := prog_1_method_21_code
def yX5_utilization : MethodName := ⟨RX5, "utilization", "(I)D"⟩
abbrev cX5_breaker : ByteArray := prog_1_method_22_code
def yX5_breaker : MethodName := ⟨RX5, "breaker", "(I)I"⟩
abbrev cX5_owner : ByteArray := prog_1_method_23_code
def yX5_owner : MethodName := ⟨RX5, "owner", "(I)I"⟩
abbrev cX5_count : ByteArray := prog_1_method_24_code
def yX5_count : MethodName := ⟨RX5, "count", "(I)I"⟩
abbrev cX5_save : ByteArray := prog_1_method_25_code
def yX5_save : MethodName := ⟨RX5, "save", "(I)V"⟩
abbrev cX5_restore : ByteArray := prog_1_method_26_code
def yX5_restore : MethodName := ⟨RX5, "restore", "(I)V"⟩
abbrev cX5_requireRange : ByteArray := prog_1_method_27_code
def yX5_requireRange : MethodName := ⟨RX5, "requireRange", "(III)V"⟩
abbrev cX5_requireConnection : ByteArray := prog_1_method_28_code
def yX5_requireConnection : MethodName := ⟨RX5, "requireConnection", "(I)V"⟩
abbrev cX5_mix : ByteArray := prog_1_method_29_code
def yX5_mix : MethodName := ⟨RX5, "mix", "(I)I"⟩
abbrev cX5_isBelowUnsigned : ByteArray := prog_1_method_30_code
def yX5_isBelowUnsigned : MethodName := ⟨RX5, "isBelowUnsigned", "(II)Z"⟩
abbrev cX5_nextSeed : ByteArray := prog_1_method_31_code
def yX5_nextSeed : MethodName := ⟨RX5, "nextSeed", "(I)I"⟩
def RX6 : String := "LoadBalancerModel"
def TX6 : u_T := fun k => match k with
  | 0 => ("LoadBalancerModel", "at", "[I", true)
  | 1 => ("LoadBalancerModel", "slots", "[I", true)
  | 2 => ("LoadBalancerModel", "isSaved", "[Z", true)
  | 3 => ("LoadBalancerModel", "thrown", "I", false)
  | 4 => ("LoadBalancerModel", "row", "[I", true)
  | _ => ("LoadBalancerModel", "rowMany", "I", false)
def tyX6 : Nat → FieldType := fun k => match k with
  | 0 => .array .int
  | 1 => .array .int
  | 2 => .array .boolean
  | 3 => .int
  | 4 => .array .int
  | _ => .int
abbrev wsX60 : List Cond := u_ws RX6 TX6 6
theorem nmX6 : ∀ a, a < 6 → ∀ b, b < 6 → a ≠ b → (TX6 a).2.1 ≠ (TX6 b).2.1 := by decide +kernel
theorem tyX6_ok : ∀ k, k < 6 → parseFieldDescriptor (TX6 k).2.2.1 = some (tyX6 k) := by decide +kernel
abbrev cX6_init : ByteArray := prog_8_method_1_code
def yX6_init : MethodName := ⟨RX6, "<init>", "()V"⟩
abbrev cX6_thrown : ByteArray := prog_8_method_2_code
def yX6_thrown : MethodName := ⟨RX6, "thrown", "()I"⟩
abbrev cX6_in : ByteArray := prog_8_method_3_code
def yX6_in : MethodName := ⟨RX6, "in", "(III)Z"⟩
abbrev cX6_isServer : ByteArray := prog_8_method_4_code
def yX6_isServer : MethodName := ⟨RX6, "isServer", "(I)Z"⟩
abbrev cX6_addServer : ByteArray := prog_8_method_5_code
def yX6_addServer : MethodName := ⟨RX6, "addServer", "(II)I"⟩
abbrev cX6_put : ByteArray := prog_8_method_6_code
def yX6_put : MethodName := ⟨RX6, "put", "(II)I"⟩
abbrev cX6_setWeight : ByteArray := prog_8_method_7_code
def yX6_setWeight : MethodName := ⟨RX6, "setWeight", "(II)I"⟩
abbrev cX6_setDraining : ByteArray := prog_8_method_8_code
def yX6_setDraining : MethodName := ⟨RX6, "setDraining", "(IZ)Z"⟩
abbrev cX6_report : ByteArray := prog_8_method_9_code
def yX6_report : MethodName := ⟨RX6, "report", "(IZ)Z"⟩
abbrev cX6_servers : ByteArray := prog_8_method_10_code
def yX6_servers : MethodName := ⟨RX6, "servers", "()I"⟩
abbrev cX6_setThresholds : ByteArray := prog_8_method_11_code
def yX6_setThresholds : MethodName := ⟨RX6, "setThresholds", "(II)V"⟩
abbrev cX6_setSlowStart : ByteArray := prog_8_method_12_code
def yX6_setSlowStart : MethodName := ⟨RX6, "setSlowStart", "(I)I"⟩
abbrev cX6_setCool : ByteArray := prog_8_method_13_code
def yX6_setCool : MethodName := ⟨RX6, "setCool", "(I)I"⟩
abbrev cX6_setSticky : ByteArray := prog_8_method_14_code
def yX6_setSticky : MethodName := ⟨RX6, "setSticky", "(I)I"⟩
abbrev cX6_setPolicy : ByteArray := prog_8_method_15_code
def yX6_setPolicy : MethodName := ⟨RX6, "setPolicy", "(I)I"⟩
abbrev cX6_setSeed : ByteArray := prog_8_method_16_code
def yX6_setSeed : MethodName := ⟨RX6, "setSeed", "(I)I"⟩
abbrev cX6_tick : ByteArray := prog_8_method_17_code
def yX6_tick : MethodName := ⟨RX6, "tick", "(I)I"⟩
abbrev cX6_mayTake : ByteArray := prog_8_method_18_code
def yX6_mayTake : MethodName := ⟨RX6, "mayTake", "(I)Z"⟩
abbrev cX6_weightNow : ByteArray := prog_8_method_19_code
def yX6_weightNow : MethodName := ⟨RX6, "weightNow", "(I)I"⟩
abbrev cX6_layRow : ByteArray := prog_8_method_20_code
def yX6_layRow : MethodName := ⟨RX6, "layRow", "()V"⟩
abbrev cX6_nextInTurn : ByteArray := prog_8_method_21_code
def yX6_nextInTurn : MethodName := ⟨RX6, "nextInTurn", "()I"⟩
abbrev cX6_mostCredit : ByteArray := prog_8_method_22_code
def yX6_mostCredit : MethodName := ⟨RX6, "mostCredit", "()I"⟩
abbrev cX6_leastBusy : ByteArray := prog_8_method_23_code
def yX6_leastBusy : MethodName := ⟨RX6, "leastBusy", "()I"⟩
abbrev cX6_mix : ByteArray := prog_8_method_24_code
def yX6_mix : MethodName := ⟨RX6, "mix", "(I)I"⟩
abbrev cX6_placeOf : ByteArray := prog_8_method_25_code
def yX6_placeOf : MethodName := ⟨RX6, "placeOf", "(I)J"⟩
abbrev cX6_byPoints : ByteArray := prog_8_method_26_code
def yX6_byPoints : MethodName := ⟨RX6, "byPoints", "(IZ)I"⟩
abbrev cX6_nextSeed : ByteArray := prog_8_method_27_code
def yX6_nextSeed : MethodName := ⟨RX6, "nextSeed", "(I)I"⟩
abbrev cX6_ofTwo : ByteArray := prog_8_method_28_code
def yX6_ofTwo : MethodName := ⟨RX6, "ofTwo", "()I"⟩
abbrev cX6_byPolicy : ByteArray := prog_8_method_29_code
def yX6_byPolicy : MethodName := ⟨RX6, "byPolicy", "(I)I"⟩
abbrev cX6_note : ByteArray := prog_8_method_30_code
def yX6_note : MethodName := ⟨RX6, "note", "(I)V"⟩
abbrev cX6_placeOfClient : ByteArray := prog_8_method_31_code
def yX6_placeOfClient : MethodName := ⟨RX6, "placeOfClient", "(I)I"⟩
abbrev cX6_stuckTo : ByteArray := prog_8_method_32_code
def yX6_stuckTo : MethodName := ⟨RX6, "stuckTo", "(I)I"⟩
abbrev cX6_choice : ByteArray := prog_8_method_33_code
def yX6_choice : MethodName := ⟨RX6, "choice", "(I)I"⟩
abbrev cX6_preview : ByteArray := prog_8_method_34_code
def yX6_preview : MethodName := ⟨RX6, "preview", "(I)I"⟩
abbrev cX6_goesFirst : ByteArray := prog_8_method_35_code
def yX6_goesFirst : MethodName := ⟨RX6, "goesFirst", "(II)Z"⟩
abbrev cX6_remember : ByteArray := prog_8_method_36_code
def yX6_remember : MethodName := ⟨RX6, "remember", "(II)V"⟩
abbrev cX6_open : ByteArray := prog_8_method_37_code
def yX6_open : MethodName := ⟨RX6, "open", "(I)I"⟩
abbrev cX6_trip : ByteArray := prog_8_method_38_code
def yX6_trip : MethodName := ⟨RX6, "trip", "(I)V"⟩
abbrev cX6_ones : ByteArray := prog_8_method_39_code
def yX6_ones : MethodName := ⟨RX6, "ones", "(I)I"⟩
abbrev cX6_addResult : ByteArray := prog_8_method_40_code
def yX6_addResult : MethodName := ⟨RX6, "addResult", "(IZ)V"⟩
abbrev cX6_wasOpened : ByteArray := prog_8_method_41_code
def yX6_wasOpened : MethodName := ⟨RX6, "wasOpened", "(I)Z"⟩
abbrev cX6_close : ByteArray := prog_8_method_42_code
def yX6_close : MethodName := ⟨RX6, "close", "(IZ)I"⟩
abbrev cX6_serverOf : ByteArray := prog_8_method_43_code
def yX6_serverOf : MethodName := ⟨RX6, "serverOf", "(I)I"⟩
abbrev cX6_isAvailable : ByteArray := prog_8_method_44_code
def yX6_isAvailable : MethodName := ⟨RX6, "isAvailable", "(I)Z"⟩
abbrev cX6_effectiveWeight : ByteArray := prog_8_method_45_code
def yX6_effectiveWeight : MethodName := ⟨RX6, "effectiveWeight", "(I)I"⟩
abbrev cX6_active : ByteArray := prog_8_method_46_code
def yX6_active : MethodName := ⟨RX6, "active", "(I)I"⟩
abbrev cX6_utilization : ByteArray := prog_8_method_47_code
def yX6_utilization : MethodName := ⟨RX6, "utilization", "(I)D"⟩
abbrev cX6_breaker : ByteArray := prog_8_method_48_code
def yX6_breaker : MethodName := ⟨RX6, "breaker", "(I)I"⟩
abbrev cX6_owner : ByteArray := prog_8_method_49_code
def yX6_owner : MethodName := ⟨RX6, "owner", "(I)I"⟩
abbrev cX6_count : ByteArray := prog_8_method_50_code
def yX6_count : MethodName := ⟨RX6, "count", "(I)I"⟩
abbrev cX6_save : ByteArray := prog_8_method_51_code
def yX6_save : MethodName := ⟨RX6, "save", "(I)V"⟩
abbrev cX6_restore : ByteArray := prog_8_method_52_code
def yX6_restore : MethodName := ⟨RX6, "restore", "(I)V"⟩
def RJ6 : String := "java/lang/Integer"
def TJ6 : u_T := fun k => match k with
  | _ => ("", "", "", false)
def tyJ6 : Nat → FieldType := fun k => match k with
  | _ => .int
abbrev wsJ60 : List Cond := u_ws RJ6 TJ6 0
theorem nmJ6 : ∀ a, a < 0 → ∀ b, b < 0 → a ≠ b → (TJ6 a).2.1 ≠ (TJ6 b).2.1 := by decide +kernel
theorem tyJ6_ok : ∀ k, k < 0 → parseFieldDescriptor (TJ6 k).2.2.1 = some (tyJ6 k) := by decide +kernel
abbrev cJ6_bitCount_0f7a4 : ByteArray := prog_13_method_49_code
def yJ6_bitCount_0f7a4 : MethodName := ⟨RJ6, "bitCount", "(I)I"⟩
def RJ9 : String := "java/lang/Math"
def TJ9 : u_T := fun k => match k with
  | _ => ("", "", "", false)
def tyJ9 : Nat → FieldType := fun k => match k with
  | _ => .int
abbrev wsJ90 : List Cond := u_ws RJ9 TJ9 0
theorem nmJ9 : ∀ a, a < 0 → ∀ b, b < 0 → a ≠ b → (TJ9 a).2.1 ≠ (TJ9 b).2.1 := by decide +kernel
theorem tyJ9_ok : ∀ k, k < 0 → parseFieldDescriptor (TJ9 k).2.2.1 = some (tyJ9 k) := by decide +kernel
abbrev cJ9_max_7cf53 : ByteArray := prog_14_method_65_code
def yJ9_max_7cf53 : MethodName := ⟨RJ9, "max", "(II)I"⟩
def RJ0 : String := "java/lang/String"
def TJ0 : u_T := fun k => match k with
  | _ => ("", "", "", false)
def tyJ0 : Nat → FieldType := fun k => match k with
  | _ => .int
abbrev wsJ00 : List Cond := u_ws RJ0 TJ0 0
theorem nmJ0 : ∀ a, a < 0 → ∀ b, b < 0 → a ≠ b → (TJ0 a).2.1 ≠ (TJ0 b).2.1 := by decide +kernel
theorem tyJ0_ok : ∀ k, k < 0 → parseFieldDescriptor (TJ0 k).2.2.1 = some (tyJ0 k) := by decide +kernel
def RJ10 : String := "java/lang/System"
def TJ10 : u_T := fun k => match k with
  | _ => ("", "", "", false)
def tyJ10 : Nat → FieldType := fun k => match k with
  | _ => .int
abbrev wsJ100 : List Cond := u_ws RJ10 TJ10 0
theorem nmJ10 : ∀ a, a < 0 → ∀ b, b < 0 → a ≠ b → (TJ10 a).2.1 ≠ (TJ10 b).2.1 := by decide +kernel
theorem tyJ10_ok : ∀ k, k < 0 → parseFieldDescriptor (TJ10 k).2.2.1 = some (tyJ10 k) := by decide +kernel
def RL : String := "LoadBalancerLaw"
abbrev cL_addServer : ByteArray := method_3_code
def yL_addServer : MethodName := ⟨RL, "addServer", "(LLoadBalancer;II[J)I"⟩
abbrev cL_setWeight : ByteArray := method_4_code
def yL_setWeight : MethodName := ⟨RL, "setWeight", "(LLoadBalancer;II[J)I"⟩
abbrev cL_setDraining : ByteArray := method_5_code
def yL_setDraining : MethodName := ⟨RL, "setDraining", "(LLoadBalancer;IZ[J)I"⟩
abbrev cL_report : ByteArray := method_6_code
def yL_report : MethodName := ⟨RL, "report", "(LLoadBalancer;IZ[J)I"⟩
abbrev cL_setThresholds : ByteArray := method_7_code
def yL_setThresholds : MethodName := ⟨RL, "setThresholds", "(LLoadBalancer;II)I"⟩
abbrev cL_setSlowStart : ByteArray := method_8_code
def yL_setSlowStart : MethodName := ⟨RL, "setSlowStart", "(LLoadBalancer;I[J)I"⟩
abbrev cL_setCool : ByteArray := method_9_code
def yL_setCool : MethodName := ⟨RL, "setCool", "(LLoadBalancer;I[J)I"⟩
abbrev cL_setSticky : ByteArray := method_10_code
def yL_setSticky : MethodName := ⟨RL, "setSticky", "(LLoadBalancer;I[J)I"⟩
abbrev cL_setPolicy : ByteArray := method_11_code
def yL_setPolicy : MethodName := ⟨RL, "setPolicy", "(LLoadBalancer;I[J)I"⟩
abbrev cL_tick : ByteArray := method_12_code
def yL_tick : MethodName := ⟨RL, "tick", "(LLoadBalancer;I[J)I"⟩
abbrev cL_open : ByteArray := method_13_code
def yL_open : MethodName := ⟨RL, "open", "(LLoadBalancer;I[J)I"⟩
abbrev cL_close : ByteArray := method_14_code
def yL_close : MethodName := ⟨RL, "close", "(LLoadBalancer;IZ[J)I"⟩
abbrev cL_serverOf : ByteArray := method_15_code
def yL_serverOf : MethodName := ⟨RL, "serverOf", "(LLoadBalancer;I[J)I"⟩
abbrev cL_isAvailable : ByteArray := method_16_code
def yL_isAvailable : MethodName := ⟨RL, "isAvailable", "(LLoadBalancer;I[J)I"⟩
abbrev cL_effectiveWeight : ByteArray := method_17_code
def yL_effectiveWeight : MethodName := ⟨RL, "effectiveWeight", "(LLoadBalancer;I[J)I"⟩
abbrev cL_active : ByteArray := method_18_code
def yL_active : MethodName := ⟨RL, "active", "(LLoadBalancer;I[J)I"⟩
abbrev cL_utilization : ByteArray := method_19_code
def yL_utilization : MethodName := ⟨RL, "utilization", "(LLoadBalancer;I[D)I"⟩
abbrev cL_breaker : ByteArray := method_20_code
def yL_breaker : MethodName := ⟨RL, "breaker", "(LLoadBalancer;I[J)I"⟩
abbrev cL_owner : ByteArray := method_21_code
def yL_owner : MethodName := ⟨RL, "owner", "(LLoadBalancer;I[J)I"⟩
abbrev cL_count : ByteArray := method_22_code
def yL_count : MethodName := ⟨RL, "count", "(LLoadBalancer;I[J)I"⟩
abbrev cL_save : ByteArray := method_23_code
def yL_save : MethodName := ⟨RL, "save", "(LLoadBalancer;I)I"⟩
abbrev cL_restore : ByteArray := method_24_code
def yL_restore : MethodName := ⟨RL, "restore", "(LLoadBalancer;I)I"⟩
abbrev cL_law : ByteArray := code
def yL_law : MethodName := ⟨RL, "law", "([I)Z"⟩
def wsX0_init : List Cond := .code yX0_init cX0_init 1 none :: ([.methodLink RX0 3 objectInit, .instanceMethod objectInit, .code objectInit ⟨#[0xb1]⟩ 1 none])
def wsX0_shut : List Cond := .code yX0_shut cX0_shut 1 none :: ([.fieldLink RX0 9 "LoadBalancer$Breaker" "position" "I", .fieldLink RX0 15 "LoadBalancer$Breaker" "resultCount" "I", .fieldLink RX0 18 "LoadBalancer$Breaker" "badBits" "I"] ++ wsX00)
def wsX0_trip : List Cond := .code yX0_trip cX0_trip 2 none :: ([.fieldLink RX0 9 "LoadBalancer$Breaker" "position" "I", .fieldLink RX0 21 "LoadBalancer$Breaker" "openSince" "I"] ++ wsX00)
def wsX0_coolDown : List Cond := .code yX0_coolDown cX0_coolDown 3 none :: ([.fieldLink RX0 9 "LoadBalancer$Breaker" "position" "I", .fieldLink RX0 21 "LoadBalancer$Breaker" "openSince" "I", .fieldLink RX0 24 "LoadBalancer$Breaker" "trial" "I"] ++ wsX00)
def wsX0_letsThrough : List Cond := .code yX0_letsThrough cX0_letsThrough 1 (some .boolean) :: ([.fieldLink RX0 9 "LoadBalancer$Breaker" "position" "I", .fieldLink RX0 24 "LoadBalancer$Breaker" "trial" "I"] ++ wsX00)
def wsX0_noteBegin : List Cond := .code yX0_noteBegin cX0_noteBegin 2 none :: ([.fieldLink RX0 9 "LoadBalancer$Breaker" "position" "I", .fieldLink RX0 24 "LoadBalancer$Breaker" "trial" "I"] ++ wsX00)
def wsJ6_bitCount_0f7a4 : List Cond := .code yJ6_bitCount_0f7a4 cJ6_bitCount_0f7a4 1 (some .int) :: ([.constant RJ6 265 (1431655765), .constant RJ6 266 (858993459), .constant RJ6 267 (252645135)])
def wsX0_addResult : List Cond := .code yX0_addResult cX0_addResult 3 none :: ([.fieldLink RX0 18 "LoadBalancer$Breaker" "badBits" "I", .fieldLink RX0 15 "LoadBalancer$Breaker" "resultCount" "I", .methodLink RX0 34 yJ6_bitCount_0f7a4, .static yJ6_bitCount_0f7a4, .initialized RJ6, .code yJ6_bitCount_0f7a4 cJ6_bitCount_0f7a4 1 (some .int), .constant RJ6 265 (1431655765), .constant RJ6 266 (858993459), .constant RJ6 267 (252645135), .methodLink RX0 40 yX0_trip, .instanceMethod yX0_trip, .selects RX0 yX0_trip yX0_trip, .initialized RX0, .code yX0_trip cX0_trip 2 none, .fieldLink RX0 9 "LoadBalancer$Breaker" "position" "I", .fieldLink RX0 21 "LoadBalancer$Breaker" "openSince" "I"] ++ wsX00)
def wsX0_endTrial : List Cond := .code yX0_endTrial cX0_endTrial 3 none :: ([.methodLink RX0 44 yX0_shut, .instanceMethod yX0_shut, .selects RX0 yX0_shut yX0_shut, .initialized RX0, .code yX0_shut cX0_shut 1 none, .fieldLink RX0 9 "LoadBalancer$Breaker" "position" "I", .fieldLink RX0 15 "LoadBalancer$Breaker" "resultCount" "I", .fieldLink RX0 18 "LoadBalancer$Breaker" "badBits" "I", .methodLink RX0 40 yX0_trip, .instanceMethod yX0_trip, .selects RX0 yX0_trip yX0_trip, .code yX0_trip cX0_trip 2 none, .fieldLink RX0 21 "LoadBalancer$Breaker" "openSince" "I"] ++ wsX00)
def wsX0_noteEnd_r1 : List Cond := [Cond.fieldLink RX0 9 "LoadBalancer$Breaker" "position" "I", Cond.fieldLink RX0 24 "LoadBalancer$Breaker" "trial" "I", Cond.methodLink RX0 27 yX0_addResult, Cond.instanceMethod yX0_addResult, Cond.selects RX0 yX0_addResult yX0_addResult, Cond.initialized RX0, Cond.code yX0_addResult cX0_addResult 3 none, Cond.fieldLink RX0 18 "LoadBalancer$Breaker" "badBits" "I", Cond.fieldLink RX0 15 "LoadBalancer$Breaker" "resultCount" "I", Cond.methodLink RX0 34 yJ6_bitCount_0f7a4, Cond.static yJ6_bitCount_0f7a4, Cond.initialized RJ6, Cond.code yJ6_bitCount_0f7a4 cJ6_bitCount_0f7a4 1 (some .int), Cond.constant RJ6 265 (1431655765), Cond.constant RJ6 266 (858993459), Cond.constant RJ6 267 (252645135), Cond.methodLink RX0 40 yX0_trip, Cond.instanceMethod yX0_trip, Cond.selects RX0 yX0_trip yX0_trip, Cond.code yX0_trip cX0_trip 2 none, Cond.fieldLink RX0 21 "LoadBalancer$Breaker" "openSince" "I", Cond.methodLink RX0 31 yX0_endTrial, Cond.instanceMethod yX0_endTrial, Cond.selects RX0 yX0_endTrial yX0_endTrial]
def wsX0_noteEnd_r2 : List Cond := [Cond.code yX0_endTrial cX0_endTrial 3 none, Cond.methodLink RX0 44 yX0_shut, Cond.instanceMethod yX0_shut, Cond.selects RX0 yX0_shut yX0_shut, Cond.code yX0_shut cX0_shut 1 none]
def wsX0_noteEnd : List Cond := .code yX0_noteEnd cX0_noteEnd 4 none :: ((wsX0_noteEnd_r1 ++ wsX0_noteEnd_r2) ++ wsX00)
def wsX0_copyFrom : List Cond := .code yX0_copyFrom cX0_copyFrom 2 none :: ([.fieldLink RX0 9 "LoadBalancer$Breaker" "position" "I", .fieldLink RX0 21 "LoadBalancer$Breaker" "openSince" "I", .fieldLink RX0 24 "LoadBalancer$Breaker" "trial" "I", .fieldLink RX0 15 "LoadBalancer$Breaker" "resultCount" "I", .fieldLink RX0 18 "LoadBalancer$Breaker" "badBits" "I"] ++ wsX00)
def wsX1_init : List Cond := .code yX1_init cX1_init 1 none :: ([.methodLink RX1 3 objectInit, .instanceMethod objectInit, .code objectInit ⟨#[0xb1]⟩ 1 none, .arrayClass .int, .fieldLink RX1 9 "LoadBalancer$Clients" "client" "[I", .fieldLink RX1 15 "LoadBalancer$Clients" "server" "[I", .fieldLink RX1 18 "LoadBalancer$Clients" "openedAt" "[I"] ++ wsX10)
def wsX1_placeOf : List Cond := .code yX1_placeOf cX1_placeOf 3 (some .int) :: ([.fieldLink RX1 21 "LoadBalancer$Clients" "size" "I", .fieldLink RX1 9 "LoadBalancer$Clients" "client" "[I"] ++ wsX10)
def wsX1_isForgottenBefore : List Cond := .code yX1_isForgottenBefore cX1_isForgottenBefore 3 (some .boolean) :: ([.fieldLink RX1 18 "LoadBalancer$Clients" "openedAt" "[I", .fieldLink RX1 9 "LoadBalancer$Clients" "client" "[I"] ++ wsX10)
def wsX1_oldestPlace : List Cond := .code yX1_oldestPlace cX1_oldestPlace 3 (some .int) :: ([.fieldLink RX1 21 "LoadBalancer$Clients" "size" "I", .methodLink RX1 36 yX1_isForgottenBefore, .instanceMethod yX1_isForgottenBefore, .selects RX1 yX1_isForgottenBefore yX1_isForgottenBefore, .initialized RX1, .code yX1_isForgottenBefore cX1_isForgottenBefore 3 (some .boolean), .fieldLink RX1 18 "LoadBalancer$Clients" "openedAt" "[I", .fieldLink RX1 9 "LoadBalancer$Clients" "client" "[I"] ++ wsX10)
def wsX1_newPlace : List Cond := .code yX1_newPlace cX1_newPlace 1 (some .int) :: ([.fieldLink RX1 21 "LoadBalancer$Clients" "size" "I", .methodLink RX1 33 yX1_oldestPlace, .instanceMethod yX1_oldestPlace, .selects RX1 yX1_oldestPlace yX1_oldestPlace, .initialized RX1, .code yX1_oldestPlace cX1_oldestPlace 3 (some .int), .methodLink RX1 36 yX1_isForgottenBefore, .instanceMethod yX1_isForgottenBefore, .selects RX1 yX1_isForgottenBefore yX1_isForgottenBefore, .code yX1_isForgottenBefore cX1_isForgottenBefore 3 (some .boolean), .fieldLink RX1 18 "LoadBalancer$Clients" "openedAt" "[I", .fieldLink RX1 9 "LoadBalancer$Clients" "client" "[I"] ++ wsX10)
def wsX1_remember : List Cond := .code yX1_remember cX1_remember 5 none :: ([.fieldLink RX1 9 "LoadBalancer$Clients" "client" "[I", .fieldLink RX1 15 "LoadBalancer$Clients" "server" "[I", .fieldLink RX1 18 "LoadBalancer$Clients" "openedAt" "[I", .methodLink RX1 25 yX1_placeOf, .instanceMethod yX1_placeOf, .selects RX1 yX1_placeOf yX1_placeOf, .initialized RX1, .code yX1_placeOf cX1_placeOf 3 (some .int), .fieldLink RX1 21 "LoadBalancer$Clients" "size" "I", .methodLink RX1 29 yX1_newPlace, .instanceMethod yX1_newPlace, .selects RX1 yX1_newPlace yX1_newPlace, .code yX1_newPlace cX1_newPlace 1 (some .int), .methodLink RX1 33 yX1_oldestPlace, .instanceMethod yX1_oldestPlace, .selects RX1 yX1_oldestPlace yX1_oldestPlace, .code yX1_oldestPlace cX1_oldestPlace 3 (some .int), .methodLink RX1 36 yX1_isForgottenBefore, .instanceMethod yX1_isForgottenBefore, .selects RX1 yX1_isForgottenBefore yX1_isForgottenBefore, .code yX1_isForgottenBefore cX1_isForgottenBefore 3 (some .boolean)] ++ wsX10)
def wsX1_forgetAll : List Cond := .code yX1_forgetAll cX1_forgetAll 1 none :: ([.fieldLink RX1 21 "LoadBalancer$Clients" "size" "I"] ++ wsX10)
def wsX1_copyFrom : List Cond := .code yX1_copyFrom cX1_copyFrom 2 none :: ([.fieldLink RX1 21 "LoadBalancer$Clients" "size" "I", .fieldLink RX1 9 "LoadBalancer$Clients" "client" "[I", .methodLink RX1 40 arraycopyName, .native arraycopyName, .static arraycopyName, .initialized "java/lang/System", .fieldLink RX1 15 "LoadBalancer$Clients" "server" "[I", .fieldLink RX1 18 "LoadBalancer$Clients" "openedAt" "[I"] ++ wsX10)
def wsX2_init : List Cond := .code yX2_init cX2_init 1 none :: ([.methodLink RX2 3 objectInit, .instanceMethod objectInit, .code objectInit ⟨#[0xb1]⟩ 1 none, .arrayClass .int, .fieldLink RX2 9 "LoadBalancer$Connections" "server" "[I", .fieldLink RX2 15 "LoadBalancer$Connections" "openedAt" "[I", .arrayClass .boolean, .fieldLink RX2 18 "LoadBalancer$Connections" "live" "[Z"] ++ wsX20)
def wsX2_isFull : List Cond := .code yX2_isFull cX2_isFull 1 (some .boolean) :: ([.fieldLink RX2 22 "LoadBalancer$Connections" "opened" "I"] ++ wsX20)
def wsX2_append : List Cond := .code yX2_append cX2_append 4 (some .int) :: ([.fieldLink RX2 22 "LoadBalancer$Connections" "opened" "I", .fieldLink RX2 9 "LoadBalancer$Connections" "server" "[I", .fieldLink RX2 15 "LoadBalancer$Connections" "openedAt" "[I", .fieldLink RX2 18 "LoadBalancer$Connections" "live" "[Z"] ++ wsX20)
def wsX2_copyFrom : List Cond := .code yX2_copyFrom cX2_copyFrom 3 none :: ([.fieldLink RX2 22 "LoadBalancer$Connections" "opened" "I", .fieldLink RX2 9 "LoadBalancer$Connections" "server" "[I", .methodLink RX2 26 arraycopyName, .native arraycopyName, .static arraycopyName, .initialized "java/lang/System", .fieldLink RX2 15 "LoadBalancer$Connections" "openedAt" "[I", .fieldLink RX2 18 "LoadBalancer$Connections" "live" "[Z"] ++ wsX20)
def wsX3_init : List Cond := .code yX3_init cX3_init 1 none :: ([.methodLink RX3 3 objectInit, .instanceMethod objectInit, .code objectInit ⟨#[0xb1]⟩ 1 none, .classLink RX3 9 RX0, .instantiable RX0 5, .initialized RX0, .fieldLink RX3 12 "LoadBalancer$Server" "breaker" "LLoadBalancer$Breaker;", .instanceMethod yX0_init, .code yX0_init cX0_init 1 none, .methodLink RX0 3 objectInit] ++ wsX00 ++ wsX30)
def wsX3_begin : List Cond := .code yX3_begin cX3_begin 3 none :: ([.fieldLink RX3 18 "LoadBalancer$Server" "weight" "I", .fieldLink RX3 22 "LoadBalancer$Server" "capacity" "I", .fieldLink RX3 25 "LoadBalancer$Server" "load" "I", .fieldLink RX3 28 "LoadBalancer$Server" "credit" "I", .fieldLink RX3 31 "LoadBalancer$Server" "healthy" "Z", .fieldLink RX3 35 "LoadBalancer$Server" "draining" "Z", .fieldLink RX3 38 "LoadBalancer$Server" "streak" "I", .fieldLink RX3 41 "LoadBalancer$Server" "recovered" "Z", .fieldLink RX3 12 "LoadBalancer$Server" "breaker" "LLoadBalancer$Breaker;", .methodLink RX3 44 yX0_shut, .instanceMethod yX0_shut, .selects RX0 yX0_shut yX0_shut, .initialized RX0, .code yX0_shut cX0_shut 1 none, .fieldLink RX0 9 "LoadBalancer$Breaker" "position" "I", .fieldLink RX0 15 "LoadBalancer$Breaker" "resultCount" "I", .fieldLink RX0 18 "LoadBalancer$Breaker" "badBits" "I"] ++ wsX30 ++ wsX00)
def wsX3_checkWhileHealthy : List Cond := .code yX3_checkWhileHealthy cX3_checkWhileHealthy 3 none :: ([.fieldLink RX3 38 "LoadBalancer$Server" "streak" "I", .fieldLink RX3 31 "LoadBalancer$Server" "healthy" "Z"] ++ wsX30)
def wsX3_checkWhileUnhealthy : List Cond := .code yX3_checkWhileUnhealthy cX3_checkWhileUnhealthy 4 none :: ([.fieldLink RX3 38 "LoadBalancer$Server" "streak" "I", .fieldLink RX3 31 "LoadBalancer$Server" "healthy" "Z", .fieldLink RX3 41 "LoadBalancer$Server" "recovered" "Z", .fieldLink RX3 47 "LoadBalancer$Server" "recoveredAt" "I"] ++ wsX30)
def wsX3_accepts : List Cond := .code yX3_accepts cX3_accepts 1 (some .boolean) :: ([.fieldLink RX3 31 "LoadBalancer$Server" "healthy" "Z", .fieldLink RX3 35 "LoadBalancer$Server" "draining" "Z", .fieldLink RX3 25 "LoadBalancer$Server" "load" "I", .fieldLink RX3 22 "LoadBalancer$Server" "capacity" "I", .fieldLink RX3 12 "LoadBalancer$Server" "breaker" "LLoadBalancer$Breaker;", .methodLink RX3 50 yX0_letsThrough, .instanceMethod yX0_letsThrough, .selects RX0 yX0_letsThrough yX0_letsThrough, .initialized RX0, .code yX0_letsThrough cX0_letsThrough 1 (some .boolean), .fieldLink RX0 9 "LoadBalancer$Breaker" "position" "I", .fieldLink RX0 24 "LoadBalancer$Breaker" "trial" "I"] ++ wsX30 ++ wsX00)
def wsX5_mix : List Cond := .code yX5_mix cX5_mix 1 (some .int) :: ([.constant RX5 200 (73244475)])
def wsX5_isBelowUnsigned : List Cond := .code yX5_isBelowUnsigned cX5_isBelowUnsigned 2 (some .boolean) :: ([.constant RX5 201 (-2147483648)])
def wsX3_ringDistance : List Cond := .code yX3_ringDistance cX3_ringDistance 7 (some .int) :: ([.fieldLink RX3 18 "LoadBalancer$Server" "weight" "I", .static yX5_mix, .initialized RX5, .code yX5_mix cX5_mix 1 (some .int), .constant RX5 200 (73244475), .static yX5_isBelowUnsigned, .code yX5_isBelowUnsigned cX5_isBelowUnsigned 2 (some .boolean), .constant RX5 201 (-2147483648)] ++ wsX30)
def wsX3_copyFrom : List Cond := .code yX3_copyFrom cX3_copyFrom 2 none :: ([.fieldLink RX3 18 "LoadBalancer$Server" "weight" "I", .fieldLink RX3 22 "LoadBalancer$Server" "capacity" "I", .fieldLink RX3 25 "LoadBalancer$Server" "load" "I", .fieldLink RX3 28 "LoadBalancer$Server" "credit" "I", .fieldLink RX3 31 "LoadBalancer$Server" "healthy" "Z", .fieldLink RX3 35 "LoadBalancer$Server" "draining" "Z", .fieldLink RX3 38 "LoadBalancer$Server" "streak" "I", .fieldLink RX3 41 "LoadBalancer$Server" "recovered" "Z", .fieldLink RX3 47 "LoadBalancer$Server" "recoveredAt" "I", .fieldLink RX3 12 "LoadBalancer$Server" "breaker" "LLoadBalancer$Breaker;", .methodLink RX3 62 yX0_copyFrom, .instanceMethod yX0_copyFrom, .selects RX0 yX0_copyFrom yX0_copyFrom, .initialized RX0, .code yX0_copyFrom cX0_copyFrom 2 none, .fieldLink RX0 9 "LoadBalancer$Breaker" "position" "I", .fieldLink RX0 21 "LoadBalancer$Breaker" "openSince" "I", .fieldLink RX0 24 "LoadBalancer$Breaker" "trial" "I", .fieldLink RX0 15 "LoadBalancer$Breaker" "resultCount" "I", .fieldLink RX0 18 "LoadBalancer$Breaker" "badBits" "I"] ++ wsX30 ++ wsX00)
def wsX4_init_r1 : List Cond := [Cond.methodLink RX4 3 objectInit, Cond.instanceMethod objectInit, Cond.code objectInit ⟨#[0xb1]⟩ 1 none, Cond.classLink RX4 9 RX3, Cond.fieldLink RX4 11 "LoadBalancer$State" "servers" "[LLoadBalancer$Server;", Cond.instantiable RX3 10, Cond.initialized RX3, Cond.classLink RX4 18 RX2, Cond.instantiable RX2 4, Cond.initialized RX2, Cond.fieldLink RX4 21 "LoadBalancer$State" "connections" "LLoadBalancer$Connections;", Cond.classLink RX4 25 RX1, Cond.instantiable RX1 4, Cond.initialized RX1, Cond.fieldLink RX4 28 "LoadBalancer$State" "clients" "LLoadBalancer$Clients;", Cond.fieldLink RX4 32 "LoadBalancer$State" "rise" "I", Cond.fieldLink RX4 36 "LoadBalancer$State" "fall" "I", Cond.fieldLink RX4 39 "LoadBalancer$State" "cool" "I", Cond.fieldLink RX4 42 "LoadBalancer$State" "policy" "I", Cond.fieldLink RX4 45 "LoadBalancer$State" "lastSelected" "I", Cond.fieldLink RX4 48 "LoadBalancer$State" "seed" "I", Cond.methodLink RX4 17 yX3_init, Cond.instanceMethod yX3_init, Cond.code yX3_init cX3_init 1 none]
def wsX4_init_r2 : List Cond := [Cond.methodLink RX3 3 objectInit, Cond.classLink RX3 9 RX0, Cond.instantiable RX0 5, Cond.initialized RX0, Cond.fieldLink RX3 12 "LoadBalancer$Server" "breaker" "LLoadBalancer$Breaker;", Cond.instanceMethod yX0_init, Cond.code yX0_init cX0_init 1 none, Cond.methodLink RX0 3 objectInit, Cond.methodLink RX4 20 yX2_init, Cond.instanceMethod yX2_init, Cond.code yX2_init cX2_init 1 none, Cond.methodLink RX2 3 objectInit, Cond.arrayClass .int, Cond.fieldLink RX2 9 "LoadBalancer$Connections" "server" "[I", Cond.fieldLink RX2 15 "LoadBalancer$Connections" "openedAt" "[I", Cond.arrayClass .boolean, Cond.fieldLink RX2 18 "LoadBalancer$Connections" "live" "[Z", Cond.methodLink RX4 27 yX1_init, Cond.instanceMethod yX1_init, Cond.code yX1_init cX1_init 1 none, Cond.methodLink RX1 3 objectInit, Cond.fieldLink RX1 9 "LoadBalancer$Clients" "client" "[I", Cond.fieldLink RX1 15 "LoadBalancer$Clients" "server" "[I", Cond.fieldLink RX1 18 "LoadBalancer$Clients" "openedAt" "[I"]
def wsX4_init : List Cond := .code yX4_init cX4_init 2 none :: ((wsX4_init_r1 ++ wsX4_init_r2) ++ wsX40 ++ wsX30 ++ wsX20 ++ wsX10 ++ wsX00)
def wsX4_serverAt : List Cond := .code yX4_serverAt cX4_serverAt 2 (some (.object "LoadBalancer$Server")) :: ([.classLink RX4 54 "java/lang/IndexOutOfBoundsException", .initialized "java/lang/IndexOutOfBoundsException", .fieldLink RX4 51 "LoadBalancer$State" "serverCount" "I", .fieldLink RX4 11 "LoadBalancer$State" "servers" "[LLoadBalancer$Server;"] ++ wsX40 ++ (vx_atS RX4 58 "java/lang/IndexOutOfBoundsException" ["java/lang/RuntimeException", "java/lang/Exception"]).filter goodWord)
def wsX4_append : List Cond := .code yX4_append cX4_append 4 (some .int) :: ([.fieldLink RX4 51 "LoadBalancer$State" "serverCount" "I", .fieldLink RX4 11 "LoadBalancer$State" "servers" "[LLoadBalancer$Server;", .methodLink RX4 61 yX3_begin, .instanceMethod yX3_begin, .selects RX3 yX3_begin yX3_begin, .initialized RX3, .code yX3_begin cX3_begin 3 none, .fieldLink RX3 18 "LoadBalancer$Server" "weight" "I", .fieldLink RX3 22 "LoadBalancer$Server" "capacity" "I", .fieldLink RX3 25 "LoadBalancer$Server" "load" "I", .fieldLink RX3 28 "LoadBalancer$Server" "credit" "I", .fieldLink RX3 31 "LoadBalancer$Server" "healthy" "Z", .fieldLink RX3 35 "LoadBalancer$Server" "draining" "Z", .fieldLink RX3 38 "LoadBalancer$Server" "streak" "I", .fieldLink RX3 41 "LoadBalancer$Server" "recovered" "Z", .fieldLink RX3 12 "LoadBalancer$Server" "breaker" "LLoadBalancer$Breaker;", .methodLink RX3 44 yX0_shut, .instanceMethod yX0_shut, .selects RX0 yX0_shut yX0_shut, .initialized RX0, .code yX0_shut cX0_shut 1 none, .fieldLink RX0 9 "LoadBalancer$Breaker" "position" "I", .fieldLink RX0 15 "LoadBalancer$Breaker" "resultCount" "I", .fieldLink RX0 18 "LoadBalancer$Breaker" "badBits" "I"] ++ wsX40 ++ wsX30 ++ wsX00)
def wsX4_forgetSelections : List Cond := .code yX4_forgetSelections cX4_forgetSelections 2 none :: ([.fieldLink RX4 45 "LoadBalancer$State" "lastSelected" "I", .fieldLink RX4 51 "LoadBalancer$State" "serverCount" "I", .fieldLink RX4 11 "LoadBalancer$State" "servers" "[LLoadBalancer$Server;", .fieldLink RX4 65 "LoadBalancer$Server" "credit" "I"] ++ wsX40 ++ wsX30)
def wsX4_coolBreakers : List Cond := .code yX4_coolBreakers cX4_coolBreakers 2 none :: ([.fieldLink RX4 51 "LoadBalancer$State" "serverCount" "I", .fieldLink RX4 11 "LoadBalancer$State" "servers" "[LLoadBalancer$Server;", .fieldLink RX4 68 "LoadBalancer$Server" "breaker" "LLoadBalancer$Breaker;", .fieldLink RX4 72 "LoadBalancer$State" "time" "I", .fieldLink RX4 39 "LoadBalancer$State" "cool" "I", .methodLink RX4 75 yX0_coolDown, .instanceMethod yX0_coolDown, .selects RX0 yX0_coolDown yX0_coolDown, .initialized RX0, .code yX0_coolDown cX0_coolDown 3 none, .fieldLink RX0 9 "LoadBalancer$Breaker" "position" "I", .fieldLink RX0 21 "LoadBalancer$Breaker" "openSince" "I", .fieldLink RX0 24 "LoadBalancer$Breaker" "trial" "I"] ++ wsX40 ++ wsX30 ++ wsX00)
def wsX4_totalLoad : List Cond := .code yX4_totalLoad cX4_totalLoad 3 (some .int) :: ([.fieldLink RX4 51 "LoadBalancer$State" "serverCount" "I", .fieldLink RX4 11 "LoadBalancer$State" "servers" "[LLoadBalancer$Server;", .fieldLink RX4 80 "LoadBalancer$Server" "load" "I"] ++ wsX40 ++ wsX30)
def wsX4_weightNow : List Cond := .code yX4_weightNow cX4_weightNow 3 (some .int) :: ([.fieldLink RX4 72 "LoadBalancer$State" "time" "I", .fieldLink RX4 83 "LoadBalancer$Server" "recoveredAt" "I", .fieldLink RX4 86 "LoadBalancer$State" "window" "I", .fieldLink RX4 89 "LoadBalancer$Server" "recovered" "Z", .fieldLink RX4 93 "LoadBalancer$Server" "weight" "I", .methodLink RX4 96 Lib.Math.max.name, .static Lib.Math.max.name, .initialized "java/lang/Math", .code Lib.Math.max.name Lib.Math.max.code 2 (some .int)] ++ wsX40 ++ wsX30)
def wsX4_stickyServer_r1 : List Cond := [Cond.fieldLink RX4 28 "LoadBalancer$State" "clients" "LLoadBalancer$Clients;", Cond.fieldLink RX4 72 "LoadBalancer$State" "time" "I", Cond.fieldLink RX4 116 "LoadBalancer$Clients" "openedAt" "[I", Cond.fieldLink RX4 120 "LoadBalancer$State" "duration" "I", Cond.fieldLink RX4 123 "LoadBalancer$Clients" "server" "[I", Cond.methodLink RX4 113 yX1_placeOf, Cond.instanceMethod yX1_placeOf, Cond.selects RX1 yX1_placeOf yX1_placeOf, Cond.initialized RX1, Cond.code yX1_placeOf cX1_placeOf 3 (some .int), Cond.fieldLink RX1 21 "LoadBalancer$Clients" "size" "I", Cond.fieldLink RX1 9 "LoadBalancer$Clients" "client" "[I", Cond.methodLink RX4 126 yX4_serverAt, Cond.instanceMethod yX4_serverAt, Cond.selects RX4 yX4_serverAt yX4_serverAt, Cond.initialized RX4, Cond.code yX4_serverAt cX4_serverAt 2 (some (.object "LoadBalancer$Server")), Cond.classLink RX4 54 "java/lang/IndexOutOfBoundsException", Cond.initialized "java/lang/IndexOutOfBoundsException", Cond.fieldLink RX4 51 "LoadBalancer$State" "serverCount" "I", Cond.fieldLink RX4 11 "LoadBalancer$State" "servers" "[LLoadBalancer$Server;", Cond.methodLink RX4 130 yX3_accepts, Cond.instanceMethod yX3_accepts, Cond.selects RX3 yX3_accepts yX3_accepts]
def wsX4_stickyServer_r2 : List Cond := [Cond.initialized RX3, Cond.code yX3_accepts cX3_accepts 1 (some .boolean), Cond.fieldLink RX3 31 "LoadBalancer$Server" "healthy" "Z", Cond.fieldLink RX3 35 "LoadBalancer$Server" "draining" "Z", Cond.fieldLink RX3 25 "LoadBalancer$Server" "load" "I", Cond.fieldLink RX3 22 "LoadBalancer$Server" "capacity" "I", Cond.fieldLink RX3 12 "LoadBalancer$Server" "breaker" "LLoadBalancer$Breaker;", Cond.methodLink RX3 50 yX0_letsThrough, Cond.instanceMethod yX0_letsThrough, Cond.selects RX0 yX0_letsThrough yX0_letsThrough, Cond.initialized RX0, Cond.code yX0_letsThrough cX0_letsThrough 1 (some .boolean), Cond.fieldLink RX0 9 "LoadBalancer$Breaker" "position" "I", Cond.fieldLink RX0 24 "LoadBalancer$Breaker" "trial" "I"]
def wsX4_stickyServer : List Cond := .code yX4_stickyServer cX4_stickyServer 4 (some .int) :: ((wsX4_stickyServer_r1 ++ wsX4_stickyServer_r2) ++ wsX40 ++ wsX10 ++ wsX30 ++ wsX00 ++ (vx_atS RX4 58 "java/lang/IndexOutOfBoundsException" ["java/lang/RuntimeException", "java/lang/Exception"]).filter goodWord)
def wsX4_firstAvailableFrom_r1 : List Cond := [Cond.fieldLink RX4 51 "LoadBalancer$State" "serverCount" "I", Cond.methodLink RX4 126 yX4_serverAt, Cond.instanceMethod yX4_serverAt, Cond.selects RX4 yX4_serverAt yX4_serverAt, Cond.initialized RX4, Cond.code yX4_serverAt cX4_serverAt 2 (some (.object "LoadBalancer$Server")), Cond.classLink RX4 54 "java/lang/IndexOutOfBoundsException", Cond.initialized "java/lang/IndexOutOfBoundsException", Cond.fieldLink RX4 11 "LoadBalancer$State" "servers" "[LLoadBalancer$Server;", Cond.methodLink RX4 130 yX3_accepts, Cond.instanceMethod yX3_accepts, Cond.selects RX3 yX3_accepts yX3_accepts, Cond.initialized RX3, Cond.code yX3_accepts cX3_accepts 1 (some .boolean), Cond.fieldLink RX3 31 "LoadBalancer$Server" "healthy" "Z", Cond.fieldLink RX3 35 "LoadBalancer$Server" "draining" "Z", Cond.fieldLink RX3 25 "LoadBalancer$Server" "load" "I", Cond.fieldLink RX3 22 "LoadBalancer$Server" "capacity" "I", Cond.fieldLink RX3 12 "LoadBalancer$Server" "breaker" "LLoadBalancer$Breaker;", Cond.methodLink RX3 50 yX0_letsThrough, Cond.instanceMethod yX0_letsThrough, Cond.selects RX0 yX0_letsThrough yX0_letsThrough, Cond.initialized RX0, Cond.code yX0_letsThrough cX0_letsThrough 1 (some .boolean)]
def wsX4_firstAvailableFrom_r2 : List Cond := [Cond.fieldLink RX0 9 "LoadBalancer$Breaker" "position" "I", Cond.fieldLink RX0 24 "LoadBalancer$Breaker" "trial" "I"]
def wsX4_firstAvailableFrom : List Cond := .code yX4_firstAvailableFrom cX4_firstAvailableFrom 3 (some .int) :: ((wsX4_firstAvailableFrom_r1 ++ wsX4_firstAvailableFrom_r2) ++ wsX40 ++ wsX30 ++ wsX00 ++ (vx_atS RX4 58 "java/lang/IndexOutOfBoundsException" ["java/lang/RuntimeException", "java/lang/Exception"]).filter goodWord)
def wsX4_selectNext_r1 : List Cond := [Cond.fieldLink RX4 45 "LoadBalancer$State" "lastSelected" "I", Cond.methodLink RX4 150 yX4_firstAvailableFrom, Cond.instanceMethod yX4_firstAvailableFrom, Cond.selects RX4 yX4_firstAvailableFrom yX4_firstAvailableFrom, Cond.initialized RX4, Cond.code yX4_firstAvailableFrom cX4_firstAvailableFrom 3 (some .int), Cond.fieldLink RX4 51 "LoadBalancer$State" "serverCount" "I", Cond.methodLink RX4 126 yX4_serverAt, Cond.instanceMethod yX4_serverAt, Cond.selects RX4 yX4_serverAt yX4_serverAt, Cond.code yX4_serverAt cX4_serverAt 2 (some (.object "LoadBalancer$Server")), Cond.classLink RX4 54 "java/lang/IndexOutOfBoundsException", Cond.initialized "java/lang/IndexOutOfBoundsException", Cond.fieldLink RX4 11 "LoadBalancer$State" "servers" "[LLoadBalancer$Server;", Cond.methodLink RX4 130 yX3_accepts, Cond.instanceMethod yX3_accepts, Cond.selects RX3 yX3_accepts yX3_accepts, Cond.initialized RX3, Cond.code yX3_accepts cX3_accepts 1 (some .boolean), Cond.fieldLink RX3 31 "LoadBalancer$Server" "healthy" "Z", Cond.fieldLink RX3 35 "LoadBalancer$Server" "draining" "Z", Cond.fieldLink RX3 25 "LoadBalancer$Server" "load" "I", Cond.fieldLink RX3 22 "LoadBalancer$Server" "capacity" "I", Cond.fieldLink RX3 12 "LoadBalancer$Server" "breaker" "LLoadBalancer$Breaker;"]
def wsX4_selectNext_r2 : List Cond := [Cond.methodLink RX3 50 yX0_letsThrough, Cond.instanceMethod yX0_letsThrough, Cond.selects RX0 yX0_letsThrough yX0_letsThrough, Cond.initialized RX0, Cond.code yX0_letsThrough cX0_letsThrough 1 (some .boolean), Cond.fieldLink RX0 9 "LoadBalancer$Breaker" "position" "I", Cond.fieldLink RX0 24 "LoadBalancer$Breaker" "trial" "I"]
def wsX4_selectNext : List Cond := .code yX4_selectNext cX4_selectNext 2 (some .int) :: ((wsX4_selectNext_r1 ++ wsX4_selectNext_r2) ++ wsX40 ++ wsX30 ++ wsX00 ++ (vx_atS RX4 58 "java/lang/IndexOutOfBoundsException" ["java/lang/RuntimeException", "java/lang/Exception"]).filter goodWord)
def wsX4_selectByCredit_r1 : List Cond := [Cond.fieldLink RX4 51 "LoadBalancer$State" "serverCount" "I", Cond.fieldLink RX4 11 "LoadBalancer$State" "servers" "[LLoadBalancer$Server;", Cond.fieldLink RX4 65 "LoadBalancer$Server" "credit" "I", Cond.methodLink RX4 153 yX4_weightNow, Cond.instanceMethod yX4_weightNow, Cond.selects RX4 yX4_weightNow yX4_weightNow, Cond.initialized RX4, Cond.code yX4_weightNow cX4_weightNow 3 (some .int), Cond.fieldLink RX4 72 "LoadBalancer$State" "time" "I", Cond.fieldLink RX4 83 "LoadBalancer$Server" "recoveredAt" "I", Cond.fieldLink RX4 86 "LoadBalancer$State" "window" "I", Cond.fieldLink RX4 89 "LoadBalancer$Server" "recovered" "Z", Cond.fieldLink RX4 93 "LoadBalancer$Server" "weight" "I", Cond.methodLink RX4 96 Lib.Math.max.name, Cond.static Lib.Math.max.name, Cond.initialized "java/lang/Math", Cond.code Lib.Math.max.name Lib.Math.max.code 2 (some .int), Cond.methodLink RX4 130 yX3_accepts, Cond.instanceMethod yX3_accepts, Cond.selects RX3 yX3_accepts yX3_accepts, Cond.initialized RX3, Cond.code yX3_accepts cX3_accepts 1 (some .boolean), Cond.fieldLink RX3 31 "LoadBalancer$Server" "healthy" "Z", Cond.fieldLink RX3 35 "LoadBalancer$Server" "draining" "Z"]
def wsX4_selectByCredit_r2 : List Cond := [Cond.fieldLink RX3 25 "LoadBalancer$Server" "load" "I", Cond.fieldLink RX3 22 "LoadBalancer$Server" "capacity" "I", Cond.fieldLink RX3 12 "LoadBalancer$Server" "breaker" "LLoadBalancer$Breaker;", Cond.methodLink RX3 50 yX0_letsThrough, Cond.instanceMethod yX0_letsThrough, Cond.selects RX0 yX0_letsThrough yX0_letsThrough, Cond.initialized RX0, Cond.code yX0_letsThrough cX0_letsThrough 1 (some .boolean), Cond.fieldLink RX0 9 "LoadBalancer$Breaker" "position" "I", Cond.fieldLink RX0 24 "LoadBalancer$Breaker" "trial" "I"]
def wsX4_selectByCredit : List Cond := .code yX4_selectByCredit cX4_selectByCredit 6 (some .int) :: ((wsX4_selectByCredit_r1 ++ wsX4_selectByCredit_r2) ++ wsX40 ++ wsX30 ++ wsX00)
def wsX4_isLessLoaded : List Cond := .code yX4_isLessLoaded cX4_isLessLoaded 3 (some .boolean) :: ([.fieldLink RX4 80 "LoadBalancer$Server" "load" "I", .methodLink RX4 153 yX4_weightNow, .instanceMethod yX4_weightNow, .selects RX4 yX4_weightNow yX4_weightNow, .initialized RX4, .code yX4_weightNow cX4_weightNow 3 (some .int), .fieldLink RX4 72 "LoadBalancer$State" "time" "I", .fieldLink RX4 83 "LoadBalancer$Server" "recoveredAt" "I", .fieldLink RX4 86 "LoadBalancer$State" "window" "I", .fieldLink RX4 89 "LoadBalancer$Server" "recovered" "Z", .fieldLink RX4 93 "LoadBalancer$Server" "weight" "I", .methodLink RX4 96 Lib.Math.max.name, .static Lib.Math.max.name, .initialized "java/lang/Math", .code Lib.Math.max.name Lib.Math.max.code 2 (some .int)] ++ wsX30 ++ wsX40)
def wsX4_selectLeastLoaded_r1 : List Cond := [Cond.fieldLink RX4 51 "LoadBalancer$State" "serverCount" "I", Cond.fieldLink RX4 11 "LoadBalancer$State" "servers" "[LLoadBalancer$Server;", Cond.methodLink RX4 130 yX3_accepts, Cond.instanceMethod yX3_accepts, Cond.selects RX3 yX3_accepts yX3_accepts, Cond.initialized RX3, Cond.code yX3_accepts cX3_accepts 1 (some .boolean), Cond.fieldLink RX3 31 "LoadBalancer$Server" "healthy" "Z", Cond.fieldLink RX3 35 "LoadBalancer$Server" "draining" "Z", Cond.fieldLink RX3 25 "LoadBalancer$Server" "load" "I", Cond.fieldLink RX3 22 "LoadBalancer$Server" "capacity" "I", Cond.fieldLink RX3 12 "LoadBalancer$Server" "breaker" "LLoadBalancer$Breaker;", Cond.methodLink RX3 50 yX0_letsThrough, Cond.instanceMethod yX0_letsThrough, Cond.selects RX0 yX0_letsThrough yX0_letsThrough, Cond.initialized RX0, Cond.code yX0_letsThrough cX0_letsThrough 1 (some .boolean), Cond.fieldLink RX0 9 "LoadBalancer$Breaker" "position" "I", Cond.fieldLink RX0 24 "LoadBalancer$Breaker" "trial" "I", Cond.methodLink RX4 126 yX4_serverAt, Cond.instanceMethod yX4_serverAt, Cond.selects RX4 yX4_serverAt yX4_serverAt, Cond.initialized RX4, Cond.code yX4_serverAt cX4_serverAt 2 (some (.object "LoadBalancer$Server"))]
def wsX4_selectLeastLoaded_r2 : List Cond := [Cond.classLink RX4 54 "java/lang/IndexOutOfBoundsException", Cond.initialized "java/lang/IndexOutOfBoundsException", Cond.methodLink RX4 157 yX4_isLessLoaded, Cond.instanceMethod yX4_isLessLoaded, Cond.selects RX4 yX4_isLessLoaded yX4_isLessLoaded, Cond.code yX4_isLessLoaded cX4_isLessLoaded 3 (some .boolean), Cond.fieldLink RX4 80 "LoadBalancer$Server" "load" "I", Cond.methodLink RX4 153 yX4_weightNow, Cond.instanceMethod yX4_weightNow, Cond.selects RX4 yX4_weightNow yX4_weightNow, Cond.code yX4_weightNow cX4_weightNow 3 (some .int), Cond.fieldLink RX4 72 "LoadBalancer$State" "time" "I", Cond.fieldLink RX4 83 "LoadBalancer$Server" "recoveredAt" "I", Cond.fieldLink RX4 86 "LoadBalancer$State" "window" "I", Cond.fieldLink RX4 89 "LoadBalancer$Server" "recovered" "Z", Cond.fieldLink RX4 93 "LoadBalancer$Server" "weight" "I", Cond.methodLink RX4 96 Lib.Math.max.name, Cond.static Lib.Math.max.name, Cond.initialized "java/lang/Math", Cond.code Lib.Math.max.name Lib.Math.max.code 2 (some .int)]
def wsX4_selectLeastLoaded : List Cond := .code yX4_selectLeastLoaded cX4_selectLeastLoaded 3 (some .int) :: ((wsX4_selectLeastLoaded_r1 ++ wsX4_selectLeastLoaded_r2) ++ wsX40 ++ wsX30 ++ wsX00 ++ (vx_atS RX4 58 "java/lang/IndexOutOfBoundsException" ["java/lang/RuntimeException", "java/lang/Exception"]).filter goodWord)
def wsX4_firstOnRing_r1 : List Cond := [Cond.fieldLink RX4 51 "LoadBalancer$State" "serverCount" "I", Cond.fieldLink RX4 11 "LoadBalancer$State" "servers" "[LLoadBalancer$Server;", Cond.static yX5_mix, Cond.initialized RX5, Cond.code yX5_mix cX5_mix 1 (some .int), Cond.constant RX5 200 (73244475), Cond.methodLink RX4 130 yX3_accepts, Cond.instanceMethod yX3_accepts, Cond.selects RX3 yX3_accepts yX3_accepts, Cond.initialized RX3, Cond.code yX3_accepts cX3_accepts 1 (some .boolean), Cond.fieldLink RX3 31 "LoadBalancer$Server" "healthy" "Z", Cond.fieldLink RX3 35 "LoadBalancer$Server" "draining" "Z", Cond.fieldLink RX3 25 "LoadBalancer$Server" "load" "I", Cond.fieldLink RX3 22 "LoadBalancer$Server" "capacity" "I", Cond.fieldLink RX3 12 "LoadBalancer$Server" "breaker" "LLoadBalancer$Breaker;", Cond.methodLink RX3 50 yX0_letsThrough, Cond.instanceMethod yX0_letsThrough, Cond.selects RX0 yX0_letsThrough yX0_letsThrough, Cond.initialized RX0, Cond.code yX0_letsThrough cX0_letsThrough 1 (some .boolean), Cond.fieldLink RX0 9 "LoadBalancer$Breaker" "position" "I", Cond.fieldLink RX0 24 "LoadBalancer$Breaker" "trial" "I", Cond.methodLink RX4 164 yX3_ringDistance]
def wsX4_firstOnRing_r2 : List Cond := [Cond.instanceMethod yX3_ringDistance, Cond.selects RX3 yX3_ringDistance yX3_ringDistance, Cond.code yX3_ringDistance cX3_ringDistance 7 (some .int), Cond.fieldLink RX3 18 "LoadBalancer$Server" "weight" "I", Cond.static yX5_isBelowUnsigned, Cond.code yX5_isBelowUnsigned cX5_isBelowUnsigned 2 (some .boolean), Cond.constant RX5 201 (-2147483648)]
def wsX4_firstOnRing : List Cond := .code yX4_firstOnRing cX4_firstOnRing 8 (some .int) :: ((wsX4_firstOnRing_r1 ++ wsX4_firstOnRing_r2) ++ wsX40 ++ wsX30 ++ wsX00)
def wsX4_availableCount : List Cond := .code yX4_availableCount cX4_availableCount 3 (some .int) :: ([.fieldLink RX4 51 "LoadBalancer$State" "serverCount" "I", .fieldLink RX4 11 "LoadBalancer$State" "servers" "[LLoadBalancer$Server;", .methodLink RX4 130 yX3_accepts, .instanceMethod yX3_accepts, .selects RX3 yX3_accepts yX3_accepts, .initialized RX3, .code yX3_accepts cX3_accepts 1 (some .boolean), .fieldLink RX3 31 "LoadBalancer$Server" "healthy" "Z", .fieldLink RX3 35 "LoadBalancer$Server" "draining" "Z", .fieldLink RX3 25 "LoadBalancer$Server" "load" "I", .fieldLink RX3 22 "LoadBalancer$Server" "capacity" "I", .fieldLink RX3 12 "LoadBalancer$Server" "breaker" "LLoadBalancer$Breaker;", .methodLink RX3 50 yX0_letsThrough, .instanceMethod yX0_letsThrough, .selects RX0 yX0_letsThrough yX0_letsThrough, .initialized RX0, .code yX0_letsThrough cX0_letsThrough 1 (some .boolean), .fieldLink RX0 9 "LoadBalancer$Breaker" "position" "I", .fieldLink RX0 24 "LoadBalancer$Breaker" "trial" "I"] ++ wsX40 ++ wsX30 ++ wsX00)
def wsX5_nextSeed : List Cond := .code yX5_nextSeed cX5_nextSeed 1 (some .int) :: ([.constant RX5 202 (1103515245)])
def wsX4_availableAt : List Cond := .code yX4_availableAt cX4_availableAt 4 (some .int) :: ([.fieldLink RX4 51 "LoadBalancer$State" "serverCount" "I", .fieldLink RX4 11 "LoadBalancer$State" "servers" "[LLoadBalancer$Server;", .methodLink RX4 130 yX3_accepts, .instanceMethod yX3_accepts, .selects RX3 yX3_accepts yX3_accepts, .initialized RX3, .code yX3_accepts cX3_accepts 1 (some .boolean), .fieldLink RX3 31 "LoadBalancer$Server" "healthy" "Z", .fieldLink RX3 35 "LoadBalancer$Server" "draining" "Z", .fieldLink RX3 25 "LoadBalancer$Server" "load" "I", .fieldLink RX3 22 "LoadBalancer$Server" "capacity" "I", .fieldLink RX3 12 "LoadBalancer$Server" "breaker" "LLoadBalancer$Breaker;", .methodLink RX3 50 yX0_letsThrough, .instanceMethod yX0_letsThrough, .selects RX0 yX0_letsThrough yX0_letsThrough, .initialized RX0, .code yX0_letsThrough cX0_letsThrough 1 (some .boolean), .fieldLink RX0 9 "LoadBalancer$Breaker" "position" "I", .fieldLink RX0 24 "LoadBalancer$Breaker" "trial" "I"] ++ wsX40 ++ wsX30 ++ wsX00)
def wsX4_selectOfTwo_r1 : List Cond := [Cond.fieldLink RX4 48 "LoadBalancer$State" "seed" "I", Cond.fieldLink RX4 80 "LoadBalancer$Server" "load" "I", Cond.methodLink RX4 171 yX4_availableCount, Cond.instanceMethod yX4_availableCount, Cond.selects RX4 yX4_availableCount yX4_availableCount, Cond.initialized RX4, Cond.code yX4_availableCount cX4_availableCount 3 (some .int), Cond.fieldLink RX4 51 "LoadBalancer$State" "serverCount" "I", Cond.fieldLink RX4 11 "LoadBalancer$State" "servers" "[LLoadBalancer$Server;", Cond.methodLink RX4 130 yX3_accepts, Cond.instanceMethod yX3_accepts, Cond.selects RX3 yX3_accepts yX3_accepts, Cond.initialized RX3, Cond.code yX3_accepts cX3_accepts 1 (some .boolean), Cond.fieldLink RX3 31 "LoadBalancer$Server" "healthy" "Z", Cond.fieldLink RX3 35 "LoadBalancer$Server" "draining" "Z", Cond.fieldLink RX3 25 "LoadBalancer$Server" "load" "I", Cond.fieldLink RX3 22 "LoadBalancer$Server" "capacity" "I", Cond.fieldLink RX3 12 "LoadBalancer$Server" "breaker" "LLoadBalancer$Breaker;", Cond.methodLink RX3 50 yX0_letsThrough, Cond.instanceMethod yX0_letsThrough, Cond.selects RX0 yX0_letsThrough yX0_letsThrough, Cond.initialized RX0, Cond.code yX0_letsThrough cX0_letsThrough 1 (some .boolean)]
def wsX4_selectOfTwo_r2 : List Cond := [Cond.fieldLink RX0 9 "LoadBalancer$Breaker" "position" "I", Cond.fieldLink RX0 24 "LoadBalancer$Breaker" "trial" "I", Cond.static yX5_nextSeed, Cond.initialized RX5, Cond.code yX5_nextSeed cX5_nextSeed 1 (some .int), Cond.constant RX5 202 (1103515245), Cond.methodLink RX4 177 yX4_availableAt, Cond.instanceMethod yX4_availableAt, Cond.selects RX4 yX4_availableAt yX4_availableAt, Cond.code yX4_availableAt cX4_availableAt 4 (some .int), Cond.methodLink RX4 126 yX4_serverAt, Cond.instanceMethod yX4_serverAt, Cond.selects RX4 yX4_serverAt yX4_serverAt, Cond.code yX4_serverAt cX4_serverAt 2 (some (.object "LoadBalancer$Server")), Cond.classLink RX4 54 "java/lang/IndexOutOfBoundsException", Cond.initialized "java/lang/IndexOutOfBoundsException"]
def wsX4_selectOfTwo : List Cond := .code yX4_selectOfTwo cX4_selectOfTwo 6 (some .int) :: ((wsX4_selectOfTwo_r1 ++ wsX4_selectOfTwo_r2) ++ wsX40 ++ wsX30 ++ wsX00 ++ (vx_atS RX4 58 "java/lang/IndexOutOfBoundsException" ["java/lang/RuntimeException", "java/lang/Exception"]).filter goodWord)
def wsX4_selectByPolicy_r1 : List Cond := [Cond.fieldLink RX4 42 "LoadBalancer$State" "policy" "I", Cond.methodLink RX4 133 yX4_selectNext, Cond.instanceMethod yX4_selectNext, Cond.selects RX4 yX4_selectNext yX4_selectNext, Cond.initialized RX4, Cond.code yX4_selectNext cX4_selectNext 2 (some .int), Cond.fieldLink RX4 45 "LoadBalancer$State" "lastSelected" "I", Cond.methodLink RX4 150 yX4_firstAvailableFrom, Cond.instanceMethod yX4_firstAvailableFrom, Cond.selects RX4 yX4_firstAvailableFrom yX4_firstAvailableFrom, Cond.code yX4_firstAvailableFrom cX4_firstAvailableFrom 3 (some .int), Cond.fieldLink RX4 51 "LoadBalancer$State" "serverCount" "I", Cond.methodLink RX4 126 yX4_serverAt, Cond.instanceMethod yX4_serverAt, Cond.selects RX4 yX4_serverAt yX4_serverAt, Cond.code yX4_serverAt cX4_serverAt 2 (some (.object "LoadBalancer$Server")), Cond.classLink RX4 54 "java/lang/IndexOutOfBoundsException", Cond.initialized "java/lang/IndexOutOfBoundsException", Cond.fieldLink RX4 11 "LoadBalancer$State" "servers" "[LLoadBalancer$Server;", Cond.methodLink RX4 130 yX3_accepts, Cond.instanceMethod yX3_accepts, Cond.selects RX3 yX3_accepts yX3_accepts, Cond.initialized RX3, Cond.code yX3_accepts cX3_accepts 1 (some .boolean)]
def wsX4_selectByPolicy_r2 : List Cond := [Cond.fieldLink RX3 31 "LoadBalancer$Server" "healthy" "Z", Cond.fieldLink RX3 35 "LoadBalancer$Server" "draining" "Z", Cond.fieldLink RX3 25 "LoadBalancer$Server" "load" "I", Cond.fieldLink RX3 22 "LoadBalancer$Server" "capacity" "I", Cond.fieldLink RX3 12 "LoadBalancer$Server" "breaker" "LLoadBalancer$Breaker;", Cond.methodLink RX3 50 yX0_letsThrough, Cond.instanceMethod yX0_letsThrough, Cond.selects RX0 yX0_letsThrough yX0_letsThrough, Cond.initialized RX0, Cond.code yX0_letsThrough cX0_letsThrough 1 (some .boolean), Cond.fieldLink RX0 9 "LoadBalancer$Breaker" "position" "I", Cond.fieldLink RX0 24 "LoadBalancer$Breaker" "trial" "I", Cond.methodLink RX4 137 yX4_selectByCredit, Cond.instanceMethod yX4_selectByCredit, Cond.selects RX4 yX4_selectByCredit yX4_selectByCredit, Cond.code yX4_selectByCredit cX4_selectByCredit 6 (some .int), Cond.fieldLink RX4 65 "LoadBalancer$Server" "credit" "I", Cond.methodLink RX4 153 yX4_weightNow, Cond.instanceMethod yX4_weightNow, Cond.selects RX4 yX4_weightNow yX4_weightNow, Cond.code yX4_weightNow cX4_weightNow 3 (some .int), Cond.fieldLink RX4 72 "LoadBalancer$State" "time" "I", Cond.fieldLink RX4 83 "LoadBalancer$Server" "recoveredAt" "I", Cond.fieldLink RX4 86 "LoadBalancer$State" "window" "I"]
def wsX4_selectByPolicy_r3 : List Cond := [Cond.fieldLink RX4 89 "LoadBalancer$Server" "recovered" "Z", Cond.fieldLink RX4 93 "LoadBalancer$Server" "weight" "I", Cond.methodLink RX4 96 Lib.Math.max.name, Cond.static Lib.Math.max.name, Cond.initialized "java/lang/Math", Cond.code Lib.Math.max.name Lib.Math.max.code 2 (some .int), Cond.methodLink RX4 140 yX4_selectLeastLoaded, Cond.instanceMethod yX4_selectLeastLoaded, Cond.selects RX4 yX4_selectLeastLoaded yX4_selectLeastLoaded, Cond.code yX4_selectLeastLoaded cX4_selectLeastLoaded 3 (some .int), Cond.methodLink RX4 157 yX4_isLessLoaded, Cond.instanceMethod yX4_isLessLoaded, Cond.selects RX4 yX4_isLessLoaded yX4_isLessLoaded, Cond.code yX4_isLessLoaded cX4_isLessLoaded 3 (some .boolean), Cond.fieldLink RX4 80 "LoadBalancer$Server" "load" "I", Cond.methodLink RX4 143 yX4_firstOnRing, Cond.instanceMethod yX4_firstOnRing, Cond.selects RX4 yX4_firstOnRing yX4_firstOnRing, Cond.code yX4_firstOnRing cX4_firstOnRing 8 (some .int), Cond.static yX5_mix, Cond.initialized RX5, Cond.code yX5_mix cX5_mix 1 (some .int), Cond.constant RX5 200 (73244475), Cond.methodLink RX4 164 yX3_ringDistance]
def wsX4_selectByPolicy_r4 : List Cond := [Cond.instanceMethod yX3_ringDistance, Cond.selects RX3 yX3_ringDistance yX3_ringDistance, Cond.code yX3_ringDistance cX3_ringDistance 7 (some .int), Cond.fieldLink RX3 18 "LoadBalancer$Server" "weight" "I", Cond.static yX5_isBelowUnsigned, Cond.code yX5_isBelowUnsigned cX5_isBelowUnsigned 2 (some .boolean), Cond.constant RX5 201 (-2147483648), Cond.methodLink RX4 147 yX4_selectOfTwo, Cond.instanceMethod yX4_selectOfTwo, Cond.selects RX4 yX4_selectOfTwo yX4_selectOfTwo, Cond.code yX4_selectOfTwo cX4_selectOfTwo 6 (some .int), Cond.fieldLink RX4 48 "LoadBalancer$State" "seed" "I", Cond.methodLink RX4 171 yX4_availableCount, Cond.instanceMethod yX4_availableCount, Cond.selects RX4 yX4_availableCount yX4_availableCount, Cond.code yX4_availableCount cX4_availableCount 3 (some .int), Cond.static yX5_nextSeed, Cond.code yX5_nextSeed cX5_nextSeed 1 (some .int), Cond.constant RX5 202 (1103515245), Cond.methodLink RX4 177 yX4_availableAt, Cond.instanceMethod yX4_availableAt, Cond.selects RX4 yX4_availableAt yX4_availableAt, Cond.code yX4_availableAt cX4_availableAt 4 (some .int)]
def wsX4_selectByPolicy : List Cond := .code yX4_selectByPolicy cX4_selectByPolicy 2 (some .int) :: ((wsX4_selectByPolicy_r1 ++ (wsX4_selectByPolicy_r2 ++ (wsX4_selectByPolicy_r3 ++ wsX4_selectByPolicy_r4))) ++ wsX40 ++ wsX30 ++ wsX00 ++ (vx_atS RX4 58 "java/lang/IndexOutOfBoundsException" ["java/lang/RuntimeException", "java/lang/Exception"]).filter goodWord)
def wsX4_serverFor_r1 : List Cond := [Cond.fieldLink RX4 21 "LoadBalancer$State" "connections" "LLoadBalancer$Connections;", Cond.methodLink RX4 102 yX2_isFull, Cond.instanceMethod yX2_isFull, Cond.selects RX2 yX2_isFull yX2_isFull, Cond.initialized RX2, Cond.code yX2_isFull cX2_isFull 1 (some .boolean), Cond.fieldLink RX2 22 "LoadBalancer$Connections" "opened" "I", Cond.methodLink RX4 106 yX4_stickyServer, Cond.instanceMethod yX4_stickyServer, Cond.selects RX4 yX4_stickyServer yX4_stickyServer, Cond.initialized RX4, Cond.code yX4_stickyServer cX4_stickyServer 4 (some .int), Cond.fieldLink RX4 28 "LoadBalancer$State" "clients" "LLoadBalancer$Clients;", Cond.fieldLink RX4 72 "LoadBalancer$State" "time" "I", Cond.fieldLink RX4 116 "LoadBalancer$Clients" "openedAt" "[I", Cond.fieldLink RX4 120 "LoadBalancer$State" "duration" "I", Cond.fieldLink RX4 123 "LoadBalancer$Clients" "server" "[I", Cond.methodLink RX4 113 yX1_placeOf, Cond.instanceMethod yX1_placeOf, Cond.selects RX1 yX1_placeOf yX1_placeOf, Cond.initialized RX1, Cond.code yX1_placeOf cX1_placeOf 3 (some .int), Cond.fieldLink RX1 21 "LoadBalancer$Clients" "size" "I", Cond.fieldLink RX1 9 "LoadBalancer$Clients" "client" "[I"]
def wsX4_serverFor_r2 : List Cond := [Cond.methodLink RX4 126 yX4_serverAt, Cond.instanceMethod yX4_serverAt, Cond.selects RX4 yX4_serverAt yX4_serverAt, Cond.code yX4_serverAt cX4_serverAt 2 (some (.object "LoadBalancer$Server")), Cond.classLink RX4 54 "java/lang/IndexOutOfBoundsException", Cond.initialized "java/lang/IndexOutOfBoundsException", Cond.fieldLink RX4 51 "LoadBalancer$State" "serverCount" "I", Cond.fieldLink RX4 11 "LoadBalancer$State" "servers" "[LLoadBalancer$Server;", Cond.methodLink RX4 130 yX3_accepts, Cond.instanceMethod yX3_accepts, Cond.selects RX3 yX3_accepts yX3_accepts, Cond.initialized RX3, Cond.code yX3_accepts cX3_accepts 1 (some .boolean), Cond.fieldLink RX3 31 "LoadBalancer$Server" "healthy" "Z", Cond.fieldLink RX3 35 "LoadBalancer$Server" "draining" "Z", Cond.fieldLink RX3 25 "LoadBalancer$Server" "load" "I", Cond.fieldLink RX3 22 "LoadBalancer$Server" "capacity" "I", Cond.fieldLink RX3 12 "LoadBalancer$Server" "breaker" "LLoadBalancer$Breaker;", Cond.methodLink RX3 50 yX0_letsThrough, Cond.instanceMethod yX0_letsThrough, Cond.selects RX0 yX0_letsThrough yX0_letsThrough, Cond.initialized RX0, Cond.code yX0_letsThrough cX0_letsThrough 1 (some .boolean), Cond.fieldLink RX0 9 "LoadBalancer$Breaker" "position" "I"]
def wsX4_serverFor_r3 : List Cond := [Cond.fieldLink RX0 24 "LoadBalancer$Breaker" "trial" "I", Cond.methodLink RX4 110 yX4_selectByPolicy, Cond.instanceMethod yX4_selectByPolicy, Cond.selects RX4 yX4_selectByPolicy yX4_selectByPolicy, Cond.code yX4_selectByPolicy cX4_selectByPolicy 2 (some .int), Cond.fieldLink RX4 42 "LoadBalancer$State" "policy" "I", Cond.methodLink RX4 133 yX4_selectNext, Cond.instanceMethod yX4_selectNext, Cond.selects RX4 yX4_selectNext yX4_selectNext, Cond.code yX4_selectNext cX4_selectNext 2 (some .int), Cond.fieldLink RX4 45 "LoadBalancer$State" "lastSelected" "I", Cond.methodLink RX4 150 yX4_firstAvailableFrom, Cond.instanceMethod yX4_firstAvailableFrom, Cond.selects RX4 yX4_firstAvailableFrom yX4_firstAvailableFrom, Cond.code yX4_firstAvailableFrom cX4_firstAvailableFrom 3 (some .int), Cond.methodLink RX4 137 yX4_selectByCredit, Cond.instanceMethod yX4_selectByCredit, Cond.selects RX4 yX4_selectByCredit yX4_selectByCredit, Cond.code yX4_selectByCredit cX4_selectByCredit 6 (some .int), Cond.fieldLink RX4 65 "LoadBalancer$Server" "credit" "I", Cond.methodLink RX4 153 yX4_weightNow, Cond.instanceMethod yX4_weightNow, Cond.selects RX4 yX4_weightNow yX4_weightNow, Cond.code yX4_weightNow cX4_weightNow 3 (some .int)]
def wsX4_serverFor_r4 : List Cond := [Cond.fieldLink RX4 83 "LoadBalancer$Server" "recoveredAt" "I", Cond.fieldLink RX4 86 "LoadBalancer$State" "window" "I", Cond.fieldLink RX4 89 "LoadBalancer$Server" "recovered" "Z", Cond.fieldLink RX4 93 "LoadBalancer$Server" "weight" "I", Cond.methodLink RX4 96 Lib.Math.max.name, Cond.static Lib.Math.max.name, Cond.initialized "java/lang/Math", Cond.code Lib.Math.max.name Lib.Math.max.code 2 (some .int), Cond.methodLink RX4 140 yX4_selectLeastLoaded, Cond.instanceMethod yX4_selectLeastLoaded, Cond.selects RX4 yX4_selectLeastLoaded yX4_selectLeastLoaded, Cond.code yX4_selectLeastLoaded cX4_selectLeastLoaded 3 (some .int), Cond.methodLink RX4 157 yX4_isLessLoaded, Cond.instanceMethod yX4_isLessLoaded, Cond.selects RX4 yX4_isLessLoaded yX4_isLessLoaded, Cond.code yX4_isLessLoaded cX4_isLessLoaded 3 (some .boolean), Cond.fieldLink RX4 80 "LoadBalancer$Server" "load" "I", Cond.methodLink RX4 143 yX4_firstOnRing, Cond.instanceMethod yX4_firstOnRing, Cond.selects RX4 yX4_firstOnRing yX4_firstOnRing, Cond.code yX4_firstOnRing cX4_firstOnRing 8 (some .int), Cond.static yX5_mix, Cond.initialized RX5, Cond.code yX5_mix cX5_mix 1 (some .int)]
def wsX4_serverFor_r5 : List Cond := [Cond.constant RX5 200 (73244475), Cond.methodLink RX4 164 yX3_ringDistance, Cond.instanceMethod yX3_ringDistance, Cond.selects RX3 yX3_ringDistance yX3_ringDistance, Cond.code yX3_ringDistance cX3_ringDistance 7 (some .int), Cond.fieldLink RX3 18 "LoadBalancer$Server" "weight" "I", Cond.static yX5_isBelowUnsigned, Cond.code yX5_isBelowUnsigned cX5_isBelowUnsigned 2 (some .boolean), Cond.constant RX5 201 (-2147483648), Cond.methodLink RX4 147 yX4_selectOfTwo, Cond.instanceMethod yX4_selectOfTwo, Cond.selects RX4 yX4_selectOfTwo yX4_selectOfTwo, Cond.code yX4_selectOfTwo cX4_selectOfTwo 6 (some .int), Cond.fieldLink RX4 48 "LoadBalancer$State" "seed" "I", Cond.methodLink RX4 171 yX4_availableCount, Cond.instanceMethod yX4_availableCount, Cond.selects RX4 yX4_availableCount yX4_availableCount, Cond.code yX4_availableCount cX4_availableCount 3 (some .int), Cond.static yX5_nextSeed, Cond.code yX5_nextSeed cX5_nextSeed 1 (some .int), Cond.constant RX5 202 (1103515245), Cond.methodLink RX4 177 yX4_availableAt, Cond.instanceMethod yX4_availableAt, Cond.selects RX4 yX4_availableAt yX4_availableAt]
def wsX4_serverFor_r6 : List Cond := [Cond.code yX4_availableAt cX4_availableAt 4 (some .int)]
def wsX4_serverFor : List Cond := .code yX4_serverFor cX4_serverFor 3 (some .int) :: ((wsX4_serverFor_r1 ++ (wsX4_serverFor_r2 ++ (wsX4_serverFor_r3 ++ (wsX4_serverFor_r4 ++ (wsX4_serverFor_r5 ++ wsX4_serverFor_r6))))) ++ wsX40 ++ wsX20 ++ wsX10 ++ wsX30 ++ wsX00 ++ (vx_atS RX4 58 "java/lang/IndexOutOfBoundsException" ["java/lang/RuntimeException", "java/lang/Exception"]).filter goodWord)
def wsX4_moveCredits_r1 : List Cond := [Cond.fieldLink RX4 51 "LoadBalancer$State" "serverCount" "I", Cond.fieldLink RX4 11 "LoadBalancer$State" "servers" "[LLoadBalancer$Server;", Cond.fieldLink RX4 65 "LoadBalancer$Server" "credit" "I", Cond.methodLink RX4 130 yX3_accepts, Cond.instanceMethod yX3_accepts, Cond.selects RX3 yX3_accepts yX3_accepts, Cond.initialized RX3, Cond.code yX3_accepts cX3_accepts 1 (some .boolean), Cond.fieldLink RX3 31 "LoadBalancer$Server" "healthy" "Z", Cond.fieldLink RX3 35 "LoadBalancer$Server" "draining" "Z", Cond.fieldLink RX3 25 "LoadBalancer$Server" "load" "I", Cond.fieldLink RX3 22 "LoadBalancer$Server" "capacity" "I", Cond.fieldLink RX3 12 "LoadBalancer$Server" "breaker" "LLoadBalancer$Breaker;", Cond.methodLink RX3 50 yX0_letsThrough, Cond.instanceMethod yX0_letsThrough, Cond.selects RX0 yX0_letsThrough yX0_letsThrough, Cond.initialized RX0, Cond.code yX0_letsThrough cX0_letsThrough 1 (some .boolean), Cond.fieldLink RX0 9 "LoadBalancer$Breaker" "position" "I", Cond.fieldLink RX0 24 "LoadBalancer$Breaker" "trial" "I", Cond.methodLink RX4 153 yX4_weightNow, Cond.instanceMethod yX4_weightNow, Cond.selects RX4 yX4_weightNow yX4_weightNow, Cond.initialized RX4]
def wsX4_moveCredits_r2 : List Cond := [Cond.code yX4_weightNow cX4_weightNow 3 (some .int), Cond.fieldLink RX4 72 "LoadBalancer$State" "time" "I", Cond.fieldLink RX4 83 "LoadBalancer$Server" "recoveredAt" "I", Cond.fieldLink RX4 86 "LoadBalancer$State" "window" "I", Cond.fieldLink RX4 89 "LoadBalancer$Server" "recovered" "Z", Cond.fieldLink RX4 93 "LoadBalancer$Server" "weight" "I", Cond.methodLink RX4 96 Lib.Math.max.name, Cond.static Lib.Math.max.name, Cond.initialized "java/lang/Math", Cond.code Lib.Math.max.name Lib.Math.max.code 2 (some .int), Cond.methodLink RX4 126 yX4_serverAt, Cond.instanceMethod yX4_serverAt, Cond.selects RX4 yX4_serverAt yX4_serverAt, Cond.code yX4_serverAt cX4_serverAt 2 (some (.object "LoadBalancer$Server")), Cond.classLink RX4 54 "java/lang/IndexOutOfBoundsException", Cond.initialized "java/lang/IndexOutOfBoundsException"]
def wsX4_moveCredits : List Cond := .code yX4_moveCredits cX4_moveCredits 6 none :: ((wsX4_moveCredits_r1 ++ wsX4_moveCredits_r2) ++ wsX40 ++ wsX30 ++ wsX00 ++ (vx_atS RX4 58 "java/lang/IndexOutOfBoundsException" ["java/lang/RuntimeException", "java/lang/Exception"]).filter goodWord)
def wsX4_noteSelection_r1 : List Cond := [Cond.fieldLink RX4 42 "LoadBalancer$State" "policy" "I", Cond.fieldLink RX4 45 "LoadBalancer$State" "lastSelected" "I", Cond.fieldLink RX4 48 "LoadBalancer$State" "seed" "I", Cond.methodLink RX4 180 yX4_moveCredits, Cond.instanceMethod yX4_moveCredits, Cond.selects RX4 yX4_moveCredits yX4_moveCredits, Cond.initialized RX4, Cond.code yX4_moveCredits cX4_moveCredits 6 none, Cond.fieldLink RX4 51 "LoadBalancer$State" "serverCount" "I", Cond.fieldLink RX4 11 "LoadBalancer$State" "servers" "[LLoadBalancer$Server;", Cond.fieldLink RX4 65 "LoadBalancer$Server" "credit" "I", Cond.methodLink RX4 130 yX3_accepts, Cond.instanceMethod yX3_accepts, Cond.selects RX3 yX3_accepts yX3_accepts, Cond.initialized RX3, Cond.code yX3_accepts cX3_accepts 1 (some .boolean), Cond.fieldLink RX3 31 "LoadBalancer$Server" "healthy" "Z", Cond.fieldLink RX3 35 "LoadBalancer$Server" "draining" "Z", Cond.fieldLink RX3 25 "LoadBalancer$Server" "load" "I", Cond.fieldLink RX3 22 "LoadBalancer$Server" "capacity" "I", Cond.fieldLink RX3 12 "LoadBalancer$Server" "breaker" "LLoadBalancer$Breaker;", Cond.methodLink RX3 50 yX0_letsThrough, Cond.instanceMethod yX0_letsThrough, Cond.selects RX0 yX0_letsThrough yX0_letsThrough]
def wsX4_noteSelection_r2 : List Cond := [Cond.initialized RX0, Cond.code yX0_letsThrough cX0_letsThrough 1 (some .boolean), Cond.fieldLink RX0 9 "LoadBalancer$Breaker" "position" "I", Cond.fieldLink RX0 24 "LoadBalancer$Breaker" "trial" "I", Cond.methodLink RX4 153 yX4_weightNow, Cond.instanceMethod yX4_weightNow, Cond.selects RX4 yX4_weightNow yX4_weightNow, Cond.code yX4_weightNow cX4_weightNow 3 (some .int), Cond.fieldLink RX4 72 "LoadBalancer$State" "time" "I", Cond.fieldLink RX4 83 "LoadBalancer$Server" "recoveredAt" "I", Cond.fieldLink RX4 86 "LoadBalancer$State" "window" "I", Cond.fieldLink RX4 89 "LoadBalancer$Server" "recovered" "Z", Cond.fieldLink RX4 93 "LoadBalancer$Server" "weight" "I", Cond.methodLink RX4 96 Lib.Math.max.name, Cond.static Lib.Math.max.name, Cond.initialized "java/lang/Math", Cond.code Lib.Math.max.name Lib.Math.max.code 2 (some .int), Cond.methodLink RX4 126 yX4_serverAt, Cond.instanceMethod yX4_serverAt, Cond.selects RX4 yX4_serverAt yX4_serverAt, Cond.code yX4_serverAt cX4_serverAt 2 (some (.object "LoadBalancer$Server")), Cond.classLink RX4 54 "java/lang/IndexOutOfBoundsException", Cond.initialized "java/lang/IndexOutOfBoundsException", Cond.static yX5_nextSeed]
def wsX4_noteSelection_r3 : List Cond := [Cond.initialized RX5, Cond.code yX5_nextSeed cX5_nextSeed 1 (some .int), Cond.constant RX5 202 (1103515245)]
def wsX4_noteSelection : List Cond := .code yX4_noteSelection cX4_noteSelection 2 none :: ((wsX4_noteSelection_r1 ++ (wsX4_noteSelection_r2 ++ wsX4_noteSelection_r3)) ++ wsX40 ++ wsX30 ++ wsX00 ++ (vx_atS RX4 58 "java/lang/IndexOutOfBoundsException" ["java/lang/RuntimeException", "java/lang/Exception"]).filter goodWord)
def wsX4_connect_r1 : List Cond := [Cond.fieldLink RX4 21 "LoadBalancer$State" "connections" "LLoadBalancer$Connections;", Cond.fieldLink RX4 72 "LoadBalancer$State" "time" "I", Cond.fieldLink RX4 80 "LoadBalancer$Server" "load" "I", Cond.fieldLink RX4 68 "LoadBalancer$Server" "breaker" "LLoadBalancer$Breaker;", Cond.fieldLink RX4 120 "LoadBalancer$State" "duration" "I", Cond.fieldLink RX4 28 "LoadBalancer$State" "clients" "LLoadBalancer$Clients;", Cond.methodLink RX4 184 yX2_append, Cond.instanceMethod yX2_append, Cond.selects RX2 yX2_append yX2_append, Cond.initialized RX2, Cond.code yX2_append cX2_append 4 (some .int), Cond.fieldLink RX2 22 "LoadBalancer$Connections" "opened" "I", Cond.fieldLink RX2 9 "LoadBalancer$Connections" "server" "[I", Cond.fieldLink RX2 15 "LoadBalancer$Connections" "openedAt" "[I", Cond.fieldLink RX2 18 "LoadBalancer$Connections" "live" "[Z", Cond.methodLink RX4 126 yX4_serverAt, Cond.instanceMethod yX4_serverAt, Cond.selects RX4 yX4_serverAt yX4_serverAt, Cond.initialized RX4, Cond.code yX4_serverAt cX4_serverAt 2 (some (.object "LoadBalancer$Server")), Cond.classLink RX4 54 "java/lang/IndexOutOfBoundsException", Cond.initialized "java/lang/IndexOutOfBoundsException", Cond.fieldLink RX4 51 "LoadBalancer$State" "serverCount" "I", Cond.fieldLink RX4 11 "LoadBalancer$State" "servers" "[LLoadBalancer$Server;"]
def wsX4_connect_r2 : List Cond := [Cond.methodLink RX4 187 yX0_noteBegin, Cond.instanceMethod yX0_noteBegin, Cond.selects RX0 yX0_noteBegin yX0_noteBegin, Cond.initialized RX0, Cond.code yX0_noteBegin cX0_noteBegin 2 none, Cond.fieldLink RX0 9 "LoadBalancer$Breaker" "position" "I", Cond.fieldLink RX0 24 "LoadBalancer$Breaker" "trial" "I", Cond.methodLink RX4 190 yX1_remember, Cond.instanceMethod yX1_remember, Cond.selects RX1 yX1_remember yX1_remember, Cond.initialized RX1, Cond.code yX1_remember cX1_remember 5 none, Cond.fieldLink RX1 9 "LoadBalancer$Clients" "client" "[I", Cond.fieldLink RX1 15 "LoadBalancer$Clients" "server" "[I", Cond.fieldLink RX1 18 "LoadBalancer$Clients" "openedAt" "[I", Cond.methodLink RX1 25 yX1_placeOf, Cond.instanceMethod yX1_placeOf, Cond.selects RX1 yX1_placeOf yX1_placeOf, Cond.code yX1_placeOf cX1_placeOf 3 (some .int), Cond.fieldLink RX1 21 "LoadBalancer$Clients" "size" "I", Cond.methodLink RX1 29 yX1_newPlace, Cond.instanceMethod yX1_newPlace, Cond.selects RX1 yX1_newPlace yX1_newPlace, Cond.code yX1_newPlace cX1_newPlace 1 (some .int)]
def wsX4_connect_r3 : List Cond := [Cond.methodLink RX1 33 yX1_oldestPlace, Cond.instanceMethod yX1_oldestPlace, Cond.selects RX1 yX1_oldestPlace yX1_oldestPlace, Cond.code yX1_oldestPlace cX1_oldestPlace 3 (some .int), Cond.methodLink RX1 36 yX1_isForgottenBefore, Cond.instanceMethod yX1_isForgottenBefore, Cond.selects RX1 yX1_isForgottenBefore yX1_isForgottenBefore, Cond.code yX1_isForgottenBefore cX1_isForgottenBefore 3 (some .boolean)]
def wsX4_connect : List Cond := .code yX4_connect cX4_connect 5 (some .int) :: ((wsX4_connect_r1 ++ (wsX4_connect_r2 ++ wsX4_connect_r3)) ++ wsX40 ++ wsX30 ++ wsX20 ++ wsX00 ++ wsX10 ++ (vx_atS RX4 58 "java/lang/IndexOutOfBoundsException" ["java/lang/RuntimeException", "java/lang/Exception"]).filter goodWord)
def wsX4_disconnect_r1 : List Cond := [Cond.fieldLink RX4 21 "LoadBalancer$State" "connections" "LLoadBalancer$Connections;", Cond.fieldLink RX4 194 "LoadBalancer$Connections" "server" "[I", Cond.fieldLink RX4 195 "LoadBalancer$Connections" "live" "[Z", Cond.fieldLink RX4 80 "LoadBalancer$Server" "load" "I", Cond.fieldLink RX4 68 "LoadBalancer$Server" "breaker" "LLoadBalancer$Breaker;", Cond.fieldLink RX4 72 "LoadBalancer$State" "time" "I", Cond.fieldLink RX4 203 "LoadBalancer$Connections" "openedAt" "[I", Cond.methodLink RX4 126 yX4_serverAt, Cond.instanceMethod yX4_serverAt, Cond.selects RX4 yX4_serverAt yX4_serverAt, Cond.initialized RX4, Cond.code yX4_serverAt cX4_serverAt 2 (some (.object "LoadBalancer$Server")), Cond.classLink RX4 54 "java/lang/IndexOutOfBoundsException", Cond.initialized "java/lang/IndexOutOfBoundsException", Cond.fieldLink RX4 51 "LoadBalancer$State" "serverCount" "I", Cond.fieldLink RX4 11 "LoadBalancer$State" "servers" "[LLoadBalancer$Server;", Cond.methodLink RX4 199 yX0_noteEnd, Cond.instanceMethod yX0_noteEnd, Cond.selects RX0 yX0_noteEnd yX0_noteEnd, Cond.initialized RX0, Cond.code yX0_noteEnd cX0_noteEnd 4 none, Cond.fieldLink RX0 9 "LoadBalancer$Breaker" "position" "I", Cond.fieldLink RX0 24 "LoadBalancer$Breaker" "trial" "I", Cond.methodLink RX0 27 yX0_addResult]
def wsX4_disconnect_r2 : List Cond := [Cond.instanceMethod yX0_addResult, Cond.selects RX0 yX0_addResult yX0_addResult, Cond.code yX0_addResult cX0_addResult 3 none, Cond.fieldLink RX0 18 "LoadBalancer$Breaker" "badBits" "I", Cond.fieldLink RX0 15 "LoadBalancer$Breaker" "resultCount" "I", Cond.methodLink RX0 34 yJ6_bitCount_0f7a4, Cond.static yJ6_bitCount_0f7a4, Cond.initialized RJ6, Cond.code yJ6_bitCount_0f7a4 cJ6_bitCount_0f7a4 1 (some .int), Cond.constant RJ6 265 (1431655765), Cond.constant RJ6 266 (858993459), Cond.constant RJ6 267 (252645135), Cond.methodLink RX0 40 yX0_trip, Cond.instanceMethod yX0_trip, Cond.selects RX0 yX0_trip yX0_trip, Cond.code yX0_trip cX0_trip 2 none, Cond.fieldLink RX0 21 "LoadBalancer$Breaker" "openSince" "I", Cond.methodLink RX0 31 yX0_endTrial, Cond.instanceMethod yX0_endTrial, Cond.selects RX0 yX0_endTrial yX0_endTrial, Cond.code yX0_endTrial cX0_endTrial 3 none, Cond.methodLink RX0 44 yX0_shut, Cond.instanceMethod yX0_shut, Cond.selects RX0 yX0_shut yX0_shut]
def wsX4_disconnect_r3 : List Cond := [Cond.code yX0_shut cX0_shut 1 none]
def wsX4_disconnect : List Cond := .code yX4_disconnect cX4_disconnect 4 (some .int) :: ((wsX4_disconnect_r1 ++ (wsX4_disconnect_r2 ++ wsX4_disconnect_r3)) ++ wsX40 ++ wsX20 ++ wsX30 ++ wsX00 ++ (vx_atS RX4 58 "java/lang/IndexOutOfBoundsException" ["java/lang/RuntimeException", "java/lang/Exception"]).filter goodWord)
def wsX4_copyFrom_r1 : List Cond := [Cond.fieldLink RX4 51 "LoadBalancer$State" "serverCount" "I", Cond.fieldLink RX4 32 "LoadBalancer$State" "rise" "I", Cond.fieldLink RX4 36 "LoadBalancer$State" "fall" "I", Cond.fieldLink RX4 86 "LoadBalancer$State" "window" "I", Cond.fieldLink RX4 39 "LoadBalancer$State" "cool" "I", Cond.fieldLink RX4 120 "LoadBalancer$State" "duration" "I", Cond.fieldLink RX4 42 "LoadBalancer$State" "policy" "I", Cond.fieldLink RX4 45 "LoadBalancer$State" "lastSelected" "I", Cond.fieldLink RX4 48 "LoadBalancer$State" "seed" "I", Cond.fieldLink RX4 72 "LoadBalancer$State" "time" "I", Cond.fieldLink RX4 204 "LoadBalancer$State" "rejections" "I", Cond.fieldLink RX4 11 "LoadBalancer$State" "servers" "[LLoadBalancer$Server;", Cond.fieldLink RX4 21 "LoadBalancer$State" "connections" "LLoadBalancer$Connections;", Cond.fieldLink RX4 28 "LoadBalancer$State" "clients" "LLoadBalancer$Clients;", Cond.methodLink RX4 207 yX3_copyFrom, Cond.instanceMethod yX3_copyFrom, Cond.selects RX3 yX3_copyFrom yX3_copyFrom, Cond.initialized RX3, Cond.code yX3_copyFrom cX3_copyFrom 2 none, Cond.fieldLink RX3 18 "LoadBalancer$Server" "weight" "I", Cond.fieldLink RX3 22 "LoadBalancer$Server" "capacity" "I", Cond.fieldLink RX3 25 "LoadBalancer$Server" "load" "I", Cond.fieldLink RX3 28 "LoadBalancer$Server" "credit" "I", Cond.fieldLink RX3 31 "LoadBalancer$Server" "healthy" "Z"]
def wsX4_copyFrom_r2 : List Cond := [Cond.fieldLink RX3 35 "LoadBalancer$Server" "draining" "Z", Cond.fieldLink RX3 38 "LoadBalancer$Server" "streak" "I", Cond.fieldLink RX3 41 "LoadBalancer$Server" "recovered" "Z", Cond.fieldLink RX3 47 "LoadBalancer$Server" "recoveredAt" "I", Cond.fieldLink RX3 12 "LoadBalancer$Server" "breaker" "LLoadBalancer$Breaker;", Cond.methodLink RX3 62 yX0_copyFrom, Cond.instanceMethod yX0_copyFrom, Cond.selects RX0 yX0_copyFrom yX0_copyFrom, Cond.initialized RX0, Cond.code yX0_copyFrom cX0_copyFrom 2 none, Cond.fieldLink RX0 9 "LoadBalancer$Breaker" "position" "I", Cond.fieldLink RX0 21 "LoadBalancer$Breaker" "openSince" "I", Cond.fieldLink RX0 24 "LoadBalancer$Breaker" "trial" "I", Cond.fieldLink RX0 15 "LoadBalancer$Breaker" "resultCount" "I", Cond.fieldLink RX0 18 "LoadBalancer$Breaker" "badBits" "I", Cond.methodLink RX4 211 yX2_copyFrom, Cond.instanceMethod yX2_copyFrom, Cond.selects RX2 yX2_copyFrom yX2_copyFrom, Cond.initialized RX2, Cond.code yX2_copyFrom cX2_copyFrom 3 none, Cond.fieldLink RX2 22 "LoadBalancer$Connections" "opened" "I", Cond.fieldLink RX2 9 "LoadBalancer$Connections" "server" "[I", Cond.methodLink RX2 26 arraycopyName, Cond.native arraycopyName]
def wsX4_copyFrom_r3 : List Cond := [Cond.static arraycopyName, Cond.initialized "java/lang/System", Cond.fieldLink RX2 15 "LoadBalancer$Connections" "openedAt" "[I", Cond.fieldLink RX2 18 "LoadBalancer$Connections" "live" "[Z", Cond.methodLink RX4 214 yX1_copyFrom, Cond.instanceMethod yX1_copyFrom, Cond.selects RX1 yX1_copyFrom yX1_copyFrom, Cond.initialized RX1, Cond.code yX1_copyFrom cX1_copyFrom 2 none, Cond.fieldLink RX1 21 "LoadBalancer$Clients" "size" "I", Cond.fieldLink RX1 9 "LoadBalancer$Clients" "client" "[I", Cond.methodLink RX1 40 arraycopyName, Cond.fieldLink RX1 15 "LoadBalancer$Clients" "server" "[I", Cond.fieldLink RX1 18 "LoadBalancer$Clients" "openedAt" "[I"]
def wsX4_copyFrom : List Cond := .code yX4_copyFrom cX4_copyFrom 3 none :: ((wsX4_copyFrom_r1 ++ (wsX4_copyFrom_r2 ++ wsX4_copyFrom_r3)) ++ wsX40 ++ wsX30 ++ wsX00 ++ wsX20 ++ wsX10)
def wsX5_init_r1 : List Cond := [Cond.methodLink RX5 1 objectInit, Cond.instanceMethod objectInit, Cond.code objectInit ⟨#[0xb1]⟩ 1 none, Cond.classLink RX5 7 RX4, Cond.instantiable RX4 14, Cond.initialized RX4, Cond.fieldLink RX5 10 "LoadBalancer" "state" "LLoadBalancer$State;", Cond.fieldLink RX5 16 "LoadBalancer" "saved" "[LLoadBalancer$State;", Cond.methodLink RX5 9 yX4_init, Cond.instanceMethod yX4_init, Cond.code yX4_init cX4_init 2 none, Cond.methodLink RX4 3 objectInit, Cond.classLink RX4 9 RX3, Cond.fieldLink RX4 11 "LoadBalancer$State" "servers" "[LLoadBalancer$Server;", Cond.instantiable RX3 10, Cond.initialized RX3, Cond.classLink RX4 18 RX2, Cond.instantiable RX2 4, Cond.initialized RX2, Cond.fieldLink RX4 21 "LoadBalancer$State" "connections" "LLoadBalancer$Connections;", Cond.classLink RX4 25 RX1, Cond.instantiable RX1 4, Cond.initialized RX1, Cond.fieldLink RX4 28 "LoadBalancer$State" "clients" "LLoadBalancer$Clients;"]
def wsX5_init_r2 : List Cond := [Cond.fieldLink RX4 32 "LoadBalancer$State" "rise" "I", Cond.fieldLink RX4 36 "LoadBalancer$State" "fall" "I", Cond.fieldLink RX4 39 "LoadBalancer$State" "cool" "I", Cond.fieldLink RX4 42 "LoadBalancer$State" "policy" "I", Cond.fieldLink RX4 45 "LoadBalancer$State" "lastSelected" "I", Cond.fieldLink RX4 48 "LoadBalancer$State" "seed" "I", Cond.methodLink RX4 17 yX3_init, Cond.instanceMethod yX3_init, Cond.code yX3_init cX3_init 1 none, Cond.methodLink RX3 3 objectInit, Cond.classLink RX3 9 RX0, Cond.instantiable RX0 5, Cond.initialized RX0, Cond.fieldLink RX3 12 "LoadBalancer$Server" "breaker" "LLoadBalancer$Breaker;", Cond.instanceMethod yX0_init, Cond.code yX0_init cX0_init 1 none, Cond.methodLink RX0 3 objectInit, Cond.methodLink RX4 20 yX2_init, Cond.instanceMethod yX2_init, Cond.code yX2_init cX2_init 1 none, Cond.methodLink RX2 3 objectInit, Cond.arrayClass .int, Cond.fieldLink RX2 9 "LoadBalancer$Connections" "server" "[I", Cond.fieldLink RX2 15 "LoadBalancer$Connections" "openedAt" "[I"]
def wsX5_init_r3 : List Cond := [Cond.arrayClass .boolean, Cond.fieldLink RX2 18 "LoadBalancer$Connections" "live" "[Z", Cond.methodLink RX4 27 yX1_init, Cond.instanceMethod yX1_init, Cond.code yX1_init cX1_init 1 none, Cond.methodLink RX1 3 objectInit, Cond.fieldLink RX1 9 "LoadBalancer$Clients" "client" "[I", Cond.fieldLink RX1 15 "LoadBalancer$Clients" "server" "[I", Cond.fieldLink RX1 18 "LoadBalancer$Clients" "openedAt" "[I"]
def wsX5_init : List Cond := .code yX5_init cX5_init 1 none :: ((wsX5_init_r1 ++ (wsX5_init_r2 ++ wsX5_init_r3)) ++ wsX40 ++ wsX50 ++ wsX30 ++ wsX20 ++ wsX10 ++ wsX00)
def wsX5_requireRange : List Cond := .code yX5_requireRange cX5_requireRange 3 none :: ([.classLink RX5 182 "java/lang/IllegalArgumentException", .initialized "java/lang/IllegalArgumentException"] ++ (vx_atS RX5 186 "java/lang/IllegalArgumentException" ["java/lang/RuntimeException", "java/lang/Exception"]).filter goodWord)
def wsX5_addServer_r1 : List Cond := [Cond.classLink RX5 28 "java/lang/IllegalStateException", Cond.initialized "java/lang/IllegalStateException", Cond.fieldLink RX5 10 "LoadBalancer" "state" "LLoadBalancer$State;", Cond.fieldLink RX5 24 "LoadBalancer$State" "serverCount" "I", Cond.methodLink RX5 20 yX5_requireRange, Cond.static yX5_requireRange, Cond.initialized RX5, Cond.code yX5_requireRange cX5_requireRange 3 none, Cond.classLink RX5 182 "java/lang/IllegalArgumentException", Cond.initialized "java/lang/IllegalArgumentException", Cond.methodLink RX5 35 yX4_append, Cond.instanceMethod yX4_append, Cond.selects RX4 yX4_append yX4_append, Cond.initialized RX4, Cond.code yX4_append cX4_append 4 (some .int), Cond.fieldLink RX4 51 "LoadBalancer$State" "serverCount" "I", Cond.fieldLink RX4 11 "LoadBalancer$State" "servers" "[LLoadBalancer$Server;", Cond.methodLink RX4 61 yX3_begin, Cond.instanceMethod yX3_begin, Cond.selects RX3 yX3_begin yX3_begin, Cond.initialized RX3, Cond.code yX3_begin cX3_begin 3 none, Cond.fieldLink RX3 18 "LoadBalancer$Server" "weight" "I", Cond.fieldLink RX3 22 "LoadBalancer$Server" "capacity" "I"]
def wsX5_addServer_r2 : List Cond := [Cond.fieldLink RX3 25 "LoadBalancer$Server" "load" "I", Cond.fieldLink RX3 28 "LoadBalancer$Server" "credit" "I", Cond.fieldLink RX3 31 "LoadBalancer$Server" "healthy" "Z", Cond.fieldLink RX3 35 "LoadBalancer$Server" "draining" "Z", Cond.fieldLink RX3 38 "LoadBalancer$Server" "streak" "I", Cond.fieldLink RX3 41 "LoadBalancer$Server" "recovered" "Z", Cond.fieldLink RX3 12 "LoadBalancer$Server" "breaker" "LLoadBalancer$Breaker;", Cond.methodLink RX3 44 yX0_shut, Cond.instanceMethod yX0_shut, Cond.selects RX0 yX0_shut yX0_shut, Cond.initialized RX0, Cond.code yX0_shut cX0_shut 1 none, Cond.fieldLink RX0 9 "LoadBalancer$Breaker" "position" "I", Cond.fieldLink RX0 15 "LoadBalancer$Breaker" "resultCount" "I", Cond.fieldLink RX0 18 "LoadBalancer$Breaker" "badBits" "I"]
def wsX5_addServer : List Cond := .code yX5_addServer cX5_addServer 3 (some .int) :: ((wsX5_addServer_r1 ++ wsX5_addServer_r2) ++ wsX50 ++ wsX40 ++ wsX30 ++ wsX00 ++ (vx_atS RX5 32 "java/lang/IllegalStateException" ["java/lang/RuntimeException", "java/lang/Exception"]).filter goodWord ++ (vx_atS RX5 186 "java/lang/IllegalArgumentException" ["java/lang/RuntimeException", "java/lang/Exception"]).filter goodWord)
def wsX5_setWeight : List Cond := .code yX5_setWeight cX5_setWeight 5 (some .int) :: ([.fieldLink RX5 10 "LoadBalancer" "state" "LLoadBalancer$State;", .fieldLink RX5 43 "LoadBalancer$Server" "weight" "I", .methodLink RX5 39 yX4_serverAt, .instanceMethod yX4_serverAt, .selects RX4 yX4_serverAt yX4_serverAt, .initialized RX4, .code yX4_serverAt cX4_serverAt 2 (some (.object "LoadBalancer$Server")), .classLink RX4 54 "java/lang/IndexOutOfBoundsException", .initialized "java/lang/IndexOutOfBoundsException", .fieldLink RX4 51 "LoadBalancer$State" "serverCount" "I", .fieldLink RX4 11 "LoadBalancer$State" "servers" "[LLoadBalancer$Server;", .methodLink RX5 20 yX5_requireRange, .static yX5_requireRange, .initialized RX5, .code yX5_requireRange cX5_requireRange 3 none, .classLink RX5 182 "java/lang/IllegalArgumentException", .initialized "java/lang/IllegalArgumentException"] ++ wsX50 ++ wsX30 ++ wsX40 ++ (vx_atS RX4 58 "java/lang/IndexOutOfBoundsException" ["java/lang/RuntimeException", "java/lang/Exception"]).filter goodWord ++ (vx_atS RX5 186 "java/lang/IllegalArgumentException" ["java/lang/RuntimeException", "java/lang/Exception"]).filter goodWord)
def wsX5_setDraining : List Cond := .code yX5_setDraining cX5_setDraining 5 (some .boolean) :: ([.fieldLink RX5 10 "LoadBalancer" "state" "LLoadBalancer$State;", .fieldLink RX5 48 "LoadBalancer$Server" "draining" "Z", .methodLink RX5 39 yX4_serverAt, .instanceMethod yX4_serverAt, .selects RX4 yX4_serverAt yX4_serverAt, .initialized RX4, .code yX4_serverAt cX4_serverAt 2 (some (.object "LoadBalancer$Server")), .classLink RX4 54 "java/lang/IndexOutOfBoundsException", .initialized "java/lang/IndexOutOfBoundsException", .fieldLink RX4 51 "LoadBalancer$State" "serverCount" "I", .fieldLink RX4 11 "LoadBalancer$State" "servers" "[LLoadBalancer$Server;"] ++ wsX50 ++ wsX30 ++ wsX40 ++ (vx_atS RX4 58 "java/lang/IndexOutOfBoundsException" ["java/lang/RuntimeException", "java/lang/Exception"]).filter goodWord)
def wsX5_report_r1 : List Cond := [Cond.fieldLink RX5 10 "LoadBalancer" "state" "LLoadBalancer$State;", Cond.fieldLink RX5 52 "LoadBalancer$Server" "healthy" "Z", Cond.fieldLink RX5 55 "LoadBalancer$State" "fall" "I", Cond.fieldLink RX5 62 "LoadBalancer$State" "rise" "I", Cond.fieldLink RX5 65 "LoadBalancer$State" "time" "I", Cond.methodLink RX5 39 yX4_serverAt, Cond.instanceMethod yX4_serverAt, Cond.selects RX4 yX4_serverAt yX4_serverAt, Cond.initialized RX4, Cond.code yX4_serverAt cX4_serverAt 2 (some (.object "LoadBalancer$Server")), Cond.classLink RX4 54 "java/lang/IndexOutOfBoundsException", Cond.initialized "java/lang/IndexOutOfBoundsException", Cond.fieldLink RX4 51 "LoadBalancer$State" "serverCount" "I", Cond.fieldLink RX4 11 "LoadBalancer$State" "servers" "[LLoadBalancer$Server;", Cond.methodLink RX5 58 yX3_checkWhileHealthy, Cond.instanceMethod yX3_checkWhileHealthy, Cond.selects RX3 yX3_checkWhileHealthy yX3_checkWhileHealthy, Cond.initialized RX3, Cond.code yX3_checkWhileHealthy cX3_checkWhileHealthy 3 none, Cond.fieldLink RX3 38 "LoadBalancer$Server" "streak" "I", Cond.fieldLink RX3 31 "LoadBalancer$Server" "healthy" "Z", Cond.methodLink RX5 68 yX3_checkWhileUnhealthy, Cond.instanceMethod yX3_checkWhileUnhealthy, Cond.selects RX3 yX3_checkWhileUnhealthy yX3_checkWhileUnhealthy]
def wsX5_report_r2 : List Cond := [Cond.code yX3_checkWhileUnhealthy cX3_checkWhileUnhealthy 4 none, Cond.fieldLink RX3 41 "LoadBalancer$Server" "recovered" "Z", Cond.fieldLink RX3 47 "LoadBalancer$Server" "recoveredAt" "I"]
def wsX5_report : List Cond := .code yX5_report cX5_report 4 (some .boolean) :: ((wsX5_report_r1 ++ wsX5_report_r2) ++ wsX50 ++ wsX30 ++ wsX40 ++ (vx_atS RX4 58 "java/lang/IndexOutOfBoundsException" ["java/lang/RuntimeException", "java/lang/Exception"]).filter goodWord)
def wsX5_servers : List Cond := .code yX5_servers cX5_servers 1 (some .int) :: ([.fieldLink RX5 10 "LoadBalancer" "state" "LLoadBalancer$State;", .fieldLink RX5 24 "LoadBalancer$State" "serverCount" "I"] ++ wsX50 ++ wsX40)
def wsX5_setThresholds : List Cond := .code yX5_setThresholds cX5_setThresholds 3 none :: ([.fieldLink RX5 10 "LoadBalancer" "state" "LLoadBalancer$State;", .fieldLink RX5 62 "LoadBalancer$State" "rise" "I", .fieldLink RX5 55 "LoadBalancer$State" "fall" "I", .methodLink RX5 20 yX5_requireRange, .static yX5_requireRange, .initialized RX5, .code yX5_requireRange cX5_requireRange 3 none, .classLink RX5 182 "java/lang/IllegalArgumentException", .initialized "java/lang/IllegalArgumentException"] ++ wsX50 ++ wsX40 ++ (vx_atS RX5 186 "java/lang/IllegalArgumentException" ["java/lang/RuntimeException", "java/lang/Exception"]).filter goodWord)
def wsX5_setSlowStart : List Cond := .code yX5_setSlowStart cX5_setSlowStart 3 (some .int) :: ([.fieldLink RX5 10 "LoadBalancer" "state" "LLoadBalancer$State;", .fieldLink RX5 72 "LoadBalancer$State" "window" "I", .methodLink RX5 20 yX5_requireRange, .static yX5_requireRange, .initialized RX5, .code yX5_requireRange cX5_requireRange 3 none, .classLink RX5 182 "java/lang/IllegalArgumentException", .initialized "java/lang/IllegalArgumentException"] ++ wsX50 ++ wsX40 ++ (vx_atS RX5 186 "java/lang/IllegalArgumentException" ["java/lang/RuntimeException", "java/lang/Exception"]).filter goodWord)
def wsX5_setCool : List Cond := .code yX5_setCool cX5_setCool 3 (some .int) :: ([.fieldLink RX5 10 "LoadBalancer" "state" "LLoadBalancer$State;", .fieldLink RX5 75 "LoadBalancer$State" "cool" "I", .methodLink RX5 20 yX5_requireRange, .static yX5_requireRange, .initialized RX5, .code yX5_requireRange cX5_requireRange 3 none, .classLink RX5 182 "java/lang/IllegalArgumentException", .initialized "java/lang/IllegalArgumentException"] ++ wsX50 ++ wsX40 ++ (vx_atS RX5 186 "java/lang/IllegalArgumentException" ["java/lang/RuntimeException", "java/lang/Exception"]).filter goodWord)
def wsX5_setSticky : List Cond := .code yX5_setSticky cX5_setSticky 3 (some .int) :: ([.fieldLink RX5 10 "LoadBalancer" "state" "LLoadBalancer$State;", .fieldLink RX5 78 "LoadBalancer$State" "duration" "I", .fieldLink RX5 81 "LoadBalancer$State" "clients" "LLoadBalancer$Clients;", .methodLink RX5 20 yX5_requireRange, .static yX5_requireRange, .initialized RX5, .code yX5_requireRange cX5_requireRange 3 none, .classLink RX5 182 "java/lang/IllegalArgumentException", .initialized "java/lang/IllegalArgumentException", .methodLink RX5 85 yX1_forgetAll, .instanceMethod yX1_forgetAll, .selects RX1 yX1_forgetAll yX1_forgetAll, .initialized RX1, .code yX1_forgetAll cX1_forgetAll 1 none, .fieldLink RX1 21 "LoadBalancer$Clients" "size" "I"] ++ wsX50 ++ wsX40 ++ wsX10 ++ (vx_atS RX5 186 "java/lang/IllegalArgumentException" ["java/lang/RuntimeException", "java/lang/Exception"]).filter goodWord)
def wsX5_setPolicy : List Cond := .code yX5_setPolicy cX5_setPolicy 3 (some .int) :: ([.fieldLink RX5 10 "LoadBalancer" "state" "LLoadBalancer$State;", .fieldLink RX5 90 "LoadBalancer$State" "policy" "I", .methodLink RX5 20 yX5_requireRange, .static yX5_requireRange, .initialized RX5, .code yX5_requireRange cX5_requireRange 3 none, .classLink RX5 182 "java/lang/IllegalArgumentException", .initialized "java/lang/IllegalArgumentException", .methodLink RX5 93 yX4_forgetSelections, .instanceMethod yX4_forgetSelections, .selects RX4 yX4_forgetSelections yX4_forgetSelections, .initialized RX4, .code yX4_forgetSelections cX4_forgetSelections 2 none, .fieldLink RX4 45 "LoadBalancer$State" "lastSelected" "I", .fieldLink RX4 51 "LoadBalancer$State" "serverCount" "I", .fieldLink RX4 11 "LoadBalancer$State" "servers" "[LLoadBalancer$Server;", .fieldLink RX4 65 "LoadBalancer$Server" "credit" "I"] ++ wsX50 ++ wsX40 ++ wsX30 ++ (vx_atS RX5 186 "java/lang/IllegalArgumentException" ["java/lang/RuntimeException", "java/lang/Exception"]).filter goodWord)
def wsX5_setSeed : List Cond := .code yX5_setSeed cX5_setSeed 3 (some .int) :: ([.fieldLink RX5 10 "LoadBalancer" "state" "LLoadBalancer$State;", .fieldLink RX5 96 "LoadBalancer$State" "seed" "I"] ++ wsX50 ++ wsX40)
def wsX5_tick_r1 : List Cond := [Cond.fieldLink RX5 10 "LoadBalancer" "state" "LLoadBalancer$State;", Cond.fieldLink RX5 65 "LoadBalancer$State" "time" "I", Cond.methodLink RX5 20 yX5_requireRange, Cond.static yX5_requireRange, Cond.initialized RX5, Cond.code yX5_requireRange cX5_requireRange 3 none, Cond.classLink RX5 182 "java/lang/IllegalArgumentException", Cond.initialized "java/lang/IllegalArgumentException", Cond.methodLink RX5 99 yX4_coolBreakers, Cond.instanceMethod yX4_coolBreakers, Cond.selects RX4 yX4_coolBreakers yX4_coolBreakers, Cond.initialized RX4, Cond.code yX4_coolBreakers cX4_coolBreakers 2 none, Cond.fieldLink RX4 51 "LoadBalancer$State" "serverCount" "I", Cond.fieldLink RX4 11 "LoadBalancer$State" "servers" "[LLoadBalancer$Server;", Cond.fieldLink RX4 68 "LoadBalancer$Server" "breaker" "LLoadBalancer$Breaker;", Cond.fieldLink RX4 72 "LoadBalancer$State" "time" "I", Cond.fieldLink RX4 39 "LoadBalancer$State" "cool" "I", Cond.methodLink RX4 75 yX0_coolDown, Cond.instanceMethod yX0_coolDown, Cond.selects RX0 yX0_coolDown yX0_coolDown, Cond.initialized RX0, Cond.code yX0_coolDown cX0_coolDown 3 none, Cond.fieldLink RX0 9 "LoadBalancer$Breaker" "position" "I"]
def wsX5_tick_r2 : List Cond := [Cond.fieldLink RX0 21 "LoadBalancer$Breaker" "openSince" "I", Cond.fieldLink RX0 24 "LoadBalancer$Breaker" "trial" "I"]
def wsX5_tick : List Cond := .code yX5_tick cX5_tick 2 (some .int) :: ((wsX5_tick_r1 ++ wsX5_tick_r2) ++ wsX50 ++ wsX40 ++ wsX30 ++ wsX00 ++ (vx_atS RX5 186 "java/lang/IllegalArgumentException" ["java/lang/RuntimeException", "java/lang/Exception"]).filter goodWord)
def wsX5_preview_r1 : List Cond := [Cond.fieldLink RX5 10 "LoadBalancer" "state" "LLoadBalancer$State;", Cond.methodLink RX5 102 yX4_serverFor, Cond.instanceMethod yX4_serverFor, Cond.selects RX4 yX4_serverFor yX4_serverFor, Cond.initialized RX4, Cond.code yX4_serverFor cX4_serverFor 3 (some .int), Cond.fieldLink RX4 21 "LoadBalancer$State" "connections" "LLoadBalancer$Connections;", Cond.methodLink RX4 102 yX2_isFull, Cond.instanceMethod yX2_isFull, Cond.selects RX2 yX2_isFull yX2_isFull, Cond.initialized RX2, Cond.code yX2_isFull cX2_isFull 1 (some .boolean), Cond.fieldLink RX2 22 "LoadBalancer$Connections" "opened" "I", Cond.methodLink RX4 106 yX4_stickyServer, Cond.instanceMethod yX4_stickyServer, Cond.selects RX4 yX4_stickyServer yX4_stickyServer, Cond.code yX4_stickyServer cX4_stickyServer 4 (some .int), Cond.fieldLink RX4 28 "LoadBalancer$State" "clients" "LLoadBalancer$Clients;", Cond.fieldLink RX4 72 "LoadBalancer$State" "time" "I", Cond.fieldLink RX4 116 "LoadBalancer$Clients" "openedAt" "[I", Cond.fieldLink RX4 120 "LoadBalancer$State" "duration" "I", Cond.fieldLink RX4 123 "LoadBalancer$Clients" "server" "[I", Cond.methodLink RX4 113 yX1_placeOf, Cond.instanceMethod yX1_placeOf]
def wsX5_preview_r2 : List Cond := [Cond.selects RX1 yX1_placeOf yX1_placeOf, Cond.initialized RX1, Cond.code yX1_placeOf cX1_placeOf 3 (some .int), Cond.fieldLink RX1 21 "LoadBalancer$Clients" "size" "I", Cond.fieldLink RX1 9 "LoadBalancer$Clients" "client" "[I", Cond.methodLink RX4 126 yX4_serverAt, Cond.instanceMethod yX4_serverAt, Cond.selects RX4 yX4_serverAt yX4_serverAt, Cond.code yX4_serverAt cX4_serverAt 2 (some (.object "LoadBalancer$Server")), Cond.classLink RX4 54 "java/lang/IndexOutOfBoundsException", Cond.initialized "java/lang/IndexOutOfBoundsException", Cond.fieldLink RX4 51 "LoadBalancer$State" "serverCount" "I", Cond.fieldLink RX4 11 "LoadBalancer$State" "servers" "[LLoadBalancer$Server;", Cond.methodLink RX4 130 yX3_accepts, Cond.instanceMethod yX3_accepts, Cond.selects RX3 yX3_accepts yX3_accepts, Cond.initialized RX3, Cond.code yX3_accepts cX3_accepts 1 (some .boolean), Cond.fieldLink RX3 31 "LoadBalancer$Server" "healthy" "Z", Cond.fieldLink RX3 35 "LoadBalancer$Server" "draining" "Z", Cond.fieldLink RX3 25 "LoadBalancer$Server" "load" "I", Cond.fieldLink RX3 22 "LoadBalancer$Server" "capacity" "I", Cond.fieldLink RX3 12 "LoadBalancer$Server" "breaker" "LLoadBalancer$Breaker;", Cond.methodLink RX3 50 yX0_letsThrough]
def wsX5_preview_r3 : List Cond := [Cond.instanceMethod yX0_letsThrough, Cond.selects RX0 yX0_letsThrough yX0_letsThrough, Cond.initialized RX0, Cond.code yX0_letsThrough cX0_letsThrough 1 (some .boolean), Cond.fieldLink RX0 9 "LoadBalancer$Breaker" "position" "I", Cond.fieldLink RX0 24 "LoadBalancer$Breaker" "trial" "I", Cond.methodLink RX4 110 yX4_selectByPolicy, Cond.instanceMethod yX4_selectByPolicy, Cond.selects RX4 yX4_selectByPolicy yX4_selectByPolicy, Cond.code yX4_selectByPolicy cX4_selectByPolicy 2 (some .int), Cond.fieldLink RX4 42 "LoadBalancer$State" "policy" "I", Cond.methodLink RX4 133 yX4_selectNext, Cond.instanceMethod yX4_selectNext, Cond.selects RX4 yX4_selectNext yX4_selectNext, Cond.code yX4_selectNext cX4_selectNext 2 (some .int), Cond.fieldLink RX4 45 "LoadBalancer$State" "lastSelected" "I", Cond.methodLink RX4 150 yX4_firstAvailableFrom, Cond.instanceMethod yX4_firstAvailableFrom, Cond.selects RX4 yX4_firstAvailableFrom yX4_firstAvailableFrom, Cond.code yX4_firstAvailableFrom cX4_firstAvailableFrom 3 (some .int), Cond.methodLink RX4 137 yX4_selectByCredit, Cond.instanceMethod yX4_selectByCredit, Cond.selects RX4 yX4_selectByCredit yX4_selectByCredit, Cond.code yX4_selectByCredit cX4_selectByCredit 6 (some .int)]
def wsX5_preview_r4 : List Cond := [Cond.fieldLink RX4 65 "LoadBalancer$Server" "credit" "I", Cond.methodLink RX4 153 yX4_weightNow, Cond.instanceMethod yX4_weightNow, Cond.selects RX4 yX4_weightNow yX4_weightNow, Cond.code yX4_weightNow cX4_weightNow 3 (some .int), Cond.fieldLink RX4 83 "LoadBalancer$Server" "recoveredAt" "I", Cond.fieldLink RX4 86 "LoadBalancer$State" "window" "I", Cond.fieldLink RX4 89 "LoadBalancer$Server" "recovered" "Z", Cond.fieldLink RX4 93 "LoadBalancer$Server" "weight" "I", Cond.methodLink RX4 96 Lib.Math.max.name, Cond.static Lib.Math.max.name, Cond.initialized "java/lang/Math", Cond.code Lib.Math.max.name Lib.Math.max.code 2 (some .int), Cond.methodLink RX4 140 yX4_selectLeastLoaded, Cond.instanceMethod yX4_selectLeastLoaded, Cond.selects RX4 yX4_selectLeastLoaded yX4_selectLeastLoaded, Cond.code yX4_selectLeastLoaded cX4_selectLeastLoaded 3 (some .int), Cond.methodLink RX4 157 yX4_isLessLoaded, Cond.instanceMethod yX4_isLessLoaded, Cond.selects RX4 yX4_isLessLoaded yX4_isLessLoaded, Cond.code yX4_isLessLoaded cX4_isLessLoaded 3 (some .boolean), Cond.fieldLink RX4 80 "LoadBalancer$Server" "load" "I", Cond.methodLink RX4 143 yX4_firstOnRing, Cond.instanceMethod yX4_firstOnRing]
def wsX5_preview_r5 : List Cond := [Cond.selects RX4 yX4_firstOnRing yX4_firstOnRing, Cond.code yX4_firstOnRing cX4_firstOnRing 8 (some .int), Cond.static yX5_mix, Cond.initialized RX5, Cond.code yX5_mix cX5_mix 1 (some .int), Cond.constant RX5 200 (73244475), Cond.methodLink RX4 164 yX3_ringDistance, Cond.instanceMethod yX3_ringDistance, Cond.selects RX3 yX3_ringDistance yX3_ringDistance, Cond.code yX3_ringDistance cX3_ringDistance 7 (some .int), Cond.fieldLink RX3 18 "LoadBalancer$Server" "weight" "I", Cond.static yX5_isBelowUnsigned, Cond.code yX5_isBelowUnsigned cX5_isBelowUnsigned 2 (some .boolean), Cond.constant RX5 201 (-2147483648), Cond.methodLink RX4 147 yX4_selectOfTwo, Cond.instanceMethod yX4_selectOfTwo, Cond.selects RX4 yX4_selectOfTwo yX4_selectOfTwo, Cond.code yX4_selectOfTwo cX4_selectOfTwo 6 (some .int), Cond.fieldLink RX4 48 "LoadBalancer$State" "seed" "I", Cond.methodLink RX4 171 yX4_availableCount, Cond.instanceMethod yX4_availableCount, Cond.selects RX4 yX4_availableCount yX4_availableCount, Cond.code yX4_availableCount cX4_availableCount 3 (some .int), Cond.static yX5_nextSeed]
def wsX5_preview_r6 : List Cond := [Cond.code yX5_nextSeed cX5_nextSeed 1 (some .int), Cond.constant RX5 202 (1103515245), Cond.methodLink RX4 177 yX4_availableAt, Cond.instanceMethod yX4_availableAt, Cond.selects RX4 yX4_availableAt yX4_availableAt, Cond.code yX4_availableAt cX4_availableAt 4 (some .int)]
def wsX5_preview : List Cond := .code yX5_preview cX5_preview 2 (some .int) :: ((wsX5_preview_r1 ++ (wsX5_preview_r2 ++ (wsX5_preview_r3 ++ (wsX5_preview_r4 ++ (wsX5_preview_r5 ++ wsX5_preview_r6))))) ++ wsX50 ++ wsX40 ++ wsX20 ++ wsX10 ++ wsX30 ++ wsX00 ++ (vx_atS RX4 58 "java/lang/IndexOutOfBoundsException" ["java/lang/RuntimeException", "java/lang/Exception"]).filter goodWord)
def wsX5_open_r1 : List Cond := [Cond.classLink RX5 28 "java/lang/IllegalStateException", Cond.initialized "java/lang/IllegalStateException", Cond.fieldLink RX5 10 "LoadBalancer" "state" "LLoadBalancer$State;", Cond.fieldLink RX5 106 "LoadBalancer$State" "rejections" "I", Cond.methodLink RX5 102 yX4_serverFor, Cond.instanceMethod yX4_serverFor, Cond.selects RX4 yX4_serverFor yX4_serverFor, Cond.initialized RX4, Cond.code yX4_serverFor cX4_serverFor 3 (some .int), Cond.fieldLink RX4 21 "LoadBalancer$State" "connections" "LLoadBalancer$Connections;", Cond.methodLink RX4 102 yX2_isFull, Cond.instanceMethod yX2_isFull, Cond.selects RX2 yX2_isFull yX2_isFull, Cond.initialized RX2, Cond.code yX2_isFull cX2_isFull 1 (some .boolean), Cond.fieldLink RX2 22 "LoadBalancer$Connections" "opened" "I", Cond.methodLink RX4 106 yX4_stickyServer, Cond.instanceMethod yX4_stickyServer, Cond.selects RX4 yX4_stickyServer yX4_stickyServer, Cond.code yX4_stickyServer cX4_stickyServer 4 (some .int), Cond.fieldLink RX4 28 "LoadBalancer$State" "clients" "LLoadBalancer$Clients;", Cond.fieldLink RX4 72 "LoadBalancer$State" "time" "I", Cond.fieldLink RX4 116 "LoadBalancer$Clients" "openedAt" "[I", Cond.fieldLink RX4 120 "LoadBalancer$State" "duration" "I"]
def wsX5_open_r2 : List Cond := [Cond.fieldLink RX4 123 "LoadBalancer$Clients" "server" "[I", Cond.methodLink RX4 113 yX1_placeOf, Cond.instanceMethod yX1_placeOf, Cond.selects RX1 yX1_placeOf yX1_placeOf, Cond.initialized RX1, Cond.code yX1_placeOf cX1_placeOf 3 (some .int), Cond.fieldLink RX1 21 "LoadBalancer$Clients" "size" "I", Cond.fieldLink RX1 9 "LoadBalancer$Clients" "client" "[I", Cond.methodLink RX4 126 yX4_serverAt, Cond.instanceMethod yX4_serverAt, Cond.selects RX4 yX4_serverAt yX4_serverAt, Cond.code yX4_serverAt cX4_serverAt 2 (some (.object "LoadBalancer$Server")), Cond.classLink RX4 54 "java/lang/IndexOutOfBoundsException", Cond.initialized "java/lang/IndexOutOfBoundsException", Cond.fieldLink RX4 51 "LoadBalancer$State" "serverCount" "I", Cond.fieldLink RX4 11 "LoadBalancer$State" "servers" "[LLoadBalancer$Server;", Cond.methodLink RX4 130 yX3_accepts, Cond.instanceMethod yX3_accepts, Cond.selects RX3 yX3_accepts yX3_accepts, Cond.initialized RX3, Cond.code yX3_accepts cX3_accepts 1 (some .boolean), Cond.fieldLink RX3 31 "LoadBalancer$Server" "healthy" "Z", Cond.fieldLink RX3 35 "LoadBalancer$Server" "draining" "Z", Cond.fieldLink RX3 25 "LoadBalancer$Server" "load" "I"]
def wsX5_open_r3 : List Cond := [Cond.fieldLink RX3 22 "LoadBalancer$Server" "capacity" "I", Cond.fieldLink RX3 12 "LoadBalancer$Server" "breaker" "LLoadBalancer$Breaker;", Cond.methodLink RX3 50 yX0_letsThrough, Cond.instanceMethod yX0_letsThrough, Cond.selects RX0 yX0_letsThrough yX0_letsThrough, Cond.initialized RX0, Cond.code yX0_letsThrough cX0_letsThrough 1 (some .boolean), Cond.fieldLink RX0 9 "LoadBalancer$Breaker" "position" "I", Cond.fieldLink RX0 24 "LoadBalancer$Breaker" "trial" "I", Cond.methodLink RX4 110 yX4_selectByPolicy, Cond.instanceMethod yX4_selectByPolicy, Cond.selects RX4 yX4_selectByPolicy yX4_selectByPolicy, Cond.code yX4_selectByPolicy cX4_selectByPolicy 2 (some .int), Cond.fieldLink RX4 42 "LoadBalancer$State" "policy" "I", Cond.methodLink RX4 133 yX4_selectNext, Cond.instanceMethod yX4_selectNext, Cond.selects RX4 yX4_selectNext yX4_selectNext, Cond.code yX4_selectNext cX4_selectNext 2 (some .int), Cond.fieldLink RX4 45 "LoadBalancer$State" "lastSelected" "I", Cond.methodLink RX4 150 yX4_firstAvailableFrom, Cond.instanceMethod yX4_firstAvailableFrom, Cond.selects RX4 yX4_firstAvailableFrom yX4_firstAvailableFrom, Cond.code yX4_firstAvailableFrom cX4_firstAvailableFrom 3 (some .int), Cond.methodLink RX4 137 yX4_selectByCredit]
def wsX5_open_r4 : List Cond := [Cond.instanceMethod yX4_selectByCredit, Cond.selects RX4 yX4_selectByCredit yX4_selectByCredit, Cond.code yX4_selectByCredit cX4_selectByCredit 6 (some .int), Cond.fieldLink RX4 65 "LoadBalancer$Server" "credit" "I", Cond.methodLink RX4 153 yX4_weightNow, Cond.instanceMethod yX4_weightNow, Cond.selects RX4 yX4_weightNow yX4_weightNow, Cond.code yX4_weightNow cX4_weightNow 3 (some .int), Cond.fieldLink RX4 83 "LoadBalancer$Server" "recoveredAt" "I", Cond.fieldLink RX4 86 "LoadBalancer$State" "window" "I", Cond.fieldLink RX4 89 "LoadBalancer$Server" "recovered" "Z", Cond.fieldLink RX4 93 "LoadBalancer$Server" "weight" "I", Cond.methodLink RX4 96 Lib.Math.max.name, Cond.static Lib.Math.max.name, Cond.initialized "java/lang/Math", Cond.code Lib.Math.max.name Lib.Math.max.code 2 (some .int), Cond.methodLink RX4 140 yX4_selectLeastLoaded, Cond.instanceMethod yX4_selectLeastLoaded, Cond.selects RX4 yX4_selectLeastLoaded yX4_selectLeastLoaded, Cond.code yX4_selectLeastLoaded cX4_selectLeastLoaded 3 (some .int), Cond.methodLink RX4 157 yX4_isLessLoaded, Cond.instanceMethod yX4_isLessLoaded, Cond.selects RX4 yX4_isLessLoaded yX4_isLessLoaded, Cond.code yX4_isLessLoaded cX4_isLessLoaded 3 (some .boolean)]
def wsX5_open_r5 : List Cond := [Cond.fieldLink RX4 80 "LoadBalancer$Server" "load" "I", Cond.methodLink RX4 143 yX4_firstOnRing, Cond.instanceMethod yX4_firstOnRing, Cond.selects RX4 yX4_firstOnRing yX4_firstOnRing, Cond.code yX4_firstOnRing cX4_firstOnRing 8 (some .int), Cond.static yX5_mix, Cond.initialized RX5, Cond.code yX5_mix cX5_mix 1 (some .int), Cond.constant RX5 200 (73244475), Cond.methodLink RX4 164 yX3_ringDistance, Cond.instanceMethod yX3_ringDistance, Cond.selects RX3 yX3_ringDistance yX3_ringDistance, Cond.code yX3_ringDistance cX3_ringDistance 7 (some .int), Cond.fieldLink RX3 18 "LoadBalancer$Server" "weight" "I", Cond.static yX5_isBelowUnsigned, Cond.code yX5_isBelowUnsigned cX5_isBelowUnsigned 2 (some .boolean), Cond.constant RX5 201 (-2147483648), Cond.methodLink RX4 147 yX4_selectOfTwo, Cond.instanceMethod yX4_selectOfTwo, Cond.selects RX4 yX4_selectOfTwo yX4_selectOfTwo, Cond.code yX4_selectOfTwo cX4_selectOfTwo 6 (some .int), Cond.fieldLink RX4 48 "LoadBalancer$State" "seed" "I", Cond.methodLink RX4 171 yX4_availableCount, Cond.instanceMethod yX4_availableCount]
def wsX5_open_r6 : List Cond := [Cond.selects RX4 yX4_availableCount yX4_availableCount, Cond.code yX4_availableCount cX4_availableCount 3 (some .int), Cond.static yX5_nextSeed, Cond.code yX5_nextSeed cX5_nextSeed 1 (some .int), Cond.constant RX5 202 (1103515245), Cond.methodLink RX4 177 yX4_availableAt, Cond.instanceMethod yX4_availableAt, Cond.selects RX4 yX4_availableAt yX4_availableAt, Cond.code yX4_availableAt cX4_availableAt 4 (some .int), Cond.methodLink RX5 111 yX4_stickyServer, Cond.methodLink RX5 114 yX4_noteSelection, Cond.instanceMethod yX4_noteSelection, Cond.selects RX4 yX4_noteSelection yX4_noteSelection, Cond.code yX4_noteSelection cX4_noteSelection 2 none, Cond.methodLink RX4 180 yX4_moveCredits, Cond.instanceMethod yX4_moveCredits, Cond.selects RX4 yX4_moveCredits yX4_moveCredits, Cond.code yX4_moveCredits cX4_moveCredits 6 none, Cond.methodLink RX5 118 yX4_connect, Cond.instanceMethod yX4_connect, Cond.selects RX4 yX4_connect yX4_connect, Cond.code yX4_connect cX4_connect 5 (some .int), Cond.fieldLink RX4 68 "LoadBalancer$Server" "breaker" "LLoadBalancer$Breaker;", Cond.methodLink RX4 184 yX2_append]
def wsX5_open_r7 : List Cond := [Cond.instanceMethod yX2_append, Cond.selects RX2 yX2_append yX2_append, Cond.code yX2_append cX2_append 4 (some .int), Cond.fieldLink RX2 9 "LoadBalancer$Connections" "server" "[I", Cond.fieldLink RX2 15 "LoadBalancer$Connections" "openedAt" "[I", Cond.fieldLink RX2 18 "LoadBalancer$Connections" "live" "[Z", Cond.methodLink RX4 187 yX0_noteBegin, Cond.instanceMethod yX0_noteBegin, Cond.selects RX0 yX0_noteBegin yX0_noteBegin, Cond.code yX0_noteBegin cX0_noteBegin 2 none, Cond.methodLink RX4 190 yX1_remember, Cond.instanceMethod yX1_remember, Cond.selects RX1 yX1_remember yX1_remember, Cond.code yX1_remember cX1_remember 5 none, Cond.fieldLink RX1 15 "LoadBalancer$Clients" "server" "[I", Cond.fieldLink RX1 18 "LoadBalancer$Clients" "openedAt" "[I", Cond.methodLink RX1 25 yX1_placeOf, Cond.methodLink RX1 29 yX1_newPlace, Cond.instanceMethod yX1_newPlace, Cond.selects RX1 yX1_newPlace yX1_newPlace, Cond.code yX1_newPlace cX1_newPlace 1 (some .int), Cond.methodLink RX1 33 yX1_oldestPlace, Cond.instanceMethod yX1_oldestPlace, Cond.selects RX1 yX1_oldestPlace yX1_oldestPlace]
def wsX5_open_r8 : List Cond := [Cond.code yX1_oldestPlace cX1_oldestPlace 3 (some .int), Cond.methodLink RX1 36 yX1_isForgottenBefore, Cond.instanceMethod yX1_isForgottenBefore, Cond.selects RX1 yX1_isForgottenBefore yX1_isForgottenBefore, Cond.code yX1_isForgottenBefore cX1_isForgottenBefore 3 (some .boolean)]
def wsX5_open : List Cond := .code yX5_open cX5_open 3 (some .int) :: ((wsX5_open_r1 ++ (wsX5_open_r2 ++ (wsX5_open_r3 ++ (wsX5_open_r4 ++ (wsX5_open_r5 ++ (wsX5_open_r6 ++ (wsX5_open_r7 ++ wsX5_open_r8))))))) ++ wsX50 ++ wsX40 ++ wsX20 ++ wsX10 ++ wsX30 ++ wsX00 ++ (vx_atS RX5 32 "java/lang/IllegalStateException" ["java/lang/RuntimeException", "java/lang/Exception"]).filter goodWord ++ (vx_atS RX4 58 "java/lang/IndexOutOfBoundsException" ["java/lang/RuntimeException", "java/lang/Exception"]).filter goodWord)
def wsX5_requireConnection : List Cond := .code yX5_requireConnection cX5_requireConnection 2 none :: ([.classLink RX5 195 "java/lang/IndexOutOfBoundsException", .initialized "java/lang/IndexOutOfBoundsException", .fieldLink RX5 10 "LoadBalancer" "state" "LLoadBalancer$State;", .fieldLink RX5 124 "LoadBalancer$State" "connections" "LLoadBalancer$Connections;", .fieldLink RX5 176 "LoadBalancer$Connections" "opened" "I"] ++ wsX50 ++ wsX40 ++ wsX20 ++ (vx_atS RX5 199 "java/lang/IndexOutOfBoundsException" ["java/lang/RuntimeException", "java/lang/Exception"]).filter goodWord)
def wsX5_close_r1 : List Cond := [Cond.classLink RX5 28 "java/lang/IllegalStateException", Cond.initialized "java/lang/IllegalStateException", Cond.fieldLink RX5 10 "LoadBalancer" "state" "LLoadBalancer$State;", Cond.fieldLink RX5 124 "LoadBalancer$State" "connections" "LLoadBalancer$Connections;", Cond.fieldLink RX5 128 "LoadBalancer$Connections" "live" "[Z", Cond.methodLink RX5 121 yX5_requireConnection, Cond.instanceMethod yX5_requireConnection, Cond.selects RX5 yX5_requireConnection yX5_requireConnection, Cond.initialized RX5, Cond.code yX5_requireConnection cX5_requireConnection 2 none, Cond.classLink RX5 195 "java/lang/IndexOutOfBoundsException", Cond.initialized "java/lang/IndexOutOfBoundsException", Cond.fieldLink RX5 176 "LoadBalancer$Connections" "opened" "I", Cond.methodLink RX5 136 yX4_disconnect, Cond.instanceMethod yX4_disconnect, Cond.selects RX4 yX4_disconnect yX4_disconnect, Cond.initialized RX4, Cond.code yX4_disconnect cX4_disconnect 4 (some .int), Cond.fieldLink RX4 21 "LoadBalancer$State" "connections" "LLoadBalancer$Connections;", Cond.fieldLink RX4 194 "LoadBalancer$Connections" "server" "[I", Cond.fieldLink RX4 195 "LoadBalancer$Connections" "live" "[Z", Cond.fieldLink RX4 80 "LoadBalancer$Server" "load" "I", Cond.fieldLink RX4 68 "LoadBalancer$Server" "breaker" "LLoadBalancer$Breaker;", Cond.fieldLink RX4 72 "LoadBalancer$State" "time" "I"]
def wsX5_close_r2 : List Cond := [Cond.fieldLink RX4 203 "LoadBalancer$Connections" "openedAt" "[I", Cond.methodLink RX4 126 yX4_serverAt, Cond.instanceMethod yX4_serverAt, Cond.selects RX4 yX4_serverAt yX4_serverAt, Cond.code yX4_serverAt cX4_serverAt 2 (some (.object "LoadBalancer$Server")), Cond.classLink RX4 54 "java/lang/IndexOutOfBoundsException", Cond.fieldLink RX4 51 "LoadBalancer$State" "serverCount" "I", Cond.fieldLink RX4 11 "LoadBalancer$State" "servers" "[LLoadBalancer$Server;", Cond.methodLink RX4 199 yX0_noteEnd, Cond.instanceMethod yX0_noteEnd, Cond.selects RX0 yX0_noteEnd yX0_noteEnd, Cond.initialized RX0, Cond.code yX0_noteEnd cX0_noteEnd 4 none, Cond.fieldLink RX0 9 "LoadBalancer$Breaker" "position" "I", Cond.fieldLink RX0 24 "LoadBalancer$Breaker" "trial" "I", Cond.methodLink RX0 27 yX0_addResult, Cond.instanceMethod yX0_addResult, Cond.selects RX0 yX0_addResult yX0_addResult, Cond.code yX0_addResult cX0_addResult 3 none, Cond.fieldLink RX0 18 "LoadBalancer$Breaker" "badBits" "I", Cond.fieldLink RX0 15 "LoadBalancer$Breaker" "resultCount" "I", Cond.methodLink RX0 34 yJ6_bitCount_0f7a4, Cond.static yJ6_bitCount_0f7a4, Cond.initialized RJ6]
def wsX5_close_r3 : List Cond := [Cond.code yJ6_bitCount_0f7a4 cJ6_bitCount_0f7a4 1 (some .int), Cond.constant RJ6 265 (1431655765), Cond.constant RJ6 266 (858993459), Cond.constant RJ6 267 (252645135), Cond.methodLink RX0 40 yX0_trip, Cond.instanceMethod yX0_trip, Cond.selects RX0 yX0_trip yX0_trip, Cond.code yX0_trip cX0_trip 2 none, Cond.fieldLink RX0 21 "LoadBalancer$Breaker" "openSince" "I", Cond.methodLink RX0 31 yX0_endTrial, Cond.instanceMethod yX0_endTrial, Cond.selects RX0 yX0_endTrial yX0_endTrial, Cond.code yX0_endTrial cX0_endTrial 3 none, Cond.methodLink RX0 44 yX0_shut, Cond.instanceMethod yX0_shut, Cond.selects RX0 yX0_shut yX0_shut, Cond.code yX0_shut cX0_shut 1 none]
def wsX5_close : List Cond := .code yX5_close cX5_close 3 (some .int) :: ((wsX5_close_r1 ++ (wsX5_close_r2 ++ wsX5_close_r3)) ++ wsX50 ++ wsX40 ++ wsX20 ++ wsX30 ++ wsX00 ++ (vx_atS RX5 32 "java/lang/IllegalStateException" ["java/lang/RuntimeException", "java/lang/Exception"]).filter goodWord ++ (vx_atS RX5 199 "java/lang/IndexOutOfBoundsException" ["java/lang/RuntimeException", "java/lang/Exception"]).filter goodWord ++ (vx_atS RX4 58 "java/lang/IndexOutOfBoundsException" ["java/lang/RuntimeException", "java/lang/Exception"]).filter goodWord)
def wsX5_serverOf : List Cond := .code yX5_serverOf cX5_serverOf 2 (some .int) :: ([.fieldLink RX5 10 "LoadBalancer" "state" "LLoadBalancer$State;", .fieldLink RX5 124 "LoadBalancer$State" "connections" "LLoadBalancer$Connections;", .fieldLink RX5 140 "LoadBalancer$Connections" "server" "[I", .methodLink RX5 121 yX5_requireConnection, .instanceMethod yX5_requireConnection, .selects RX5 yX5_requireConnection yX5_requireConnection, .initialized RX5, .code yX5_requireConnection cX5_requireConnection 2 none, .classLink RX5 195 "java/lang/IndexOutOfBoundsException", .initialized "java/lang/IndexOutOfBoundsException", .fieldLink RX5 176 "LoadBalancer$Connections" "opened" "I"] ++ wsX50 ++ wsX40 ++ wsX20 ++ (vx_atS RX5 199 "java/lang/IndexOutOfBoundsException" ["java/lang/RuntimeException", "java/lang/Exception"]).filter goodWord)
def wsX5_isAvailable_r1 : List Cond := [Cond.fieldLink RX5 10 "LoadBalancer" "state" "LLoadBalancer$State;", Cond.methodLink RX5 39 yX4_serverAt, Cond.instanceMethod yX4_serverAt, Cond.selects RX4 yX4_serverAt yX4_serverAt, Cond.initialized RX4, Cond.code yX4_serverAt cX4_serverAt 2 (some (.object "LoadBalancer$Server")), Cond.classLink RX4 54 "java/lang/IndexOutOfBoundsException", Cond.initialized "java/lang/IndexOutOfBoundsException", Cond.fieldLink RX4 51 "LoadBalancer$State" "serverCount" "I", Cond.fieldLink RX4 11 "LoadBalancer$State" "servers" "[LLoadBalancer$Server;", Cond.methodLink RX5 144 yX3_accepts, Cond.instanceMethod yX3_accepts, Cond.selects RX3 yX3_accepts yX3_accepts, Cond.initialized RX3, Cond.code yX3_accepts cX3_accepts 1 (some .boolean), Cond.fieldLink RX3 31 "LoadBalancer$Server" "healthy" "Z", Cond.fieldLink RX3 35 "LoadBalancer$Server" "draining" "Z", Cond.fieldLink RX3 25 "LoadBalancer$Server" "load" "I", Cond.fieldLink RX3 22 "LoadBalancer$Server" "capacity" "I", Cond.fieldLink RX3 12 "LoadBalancer$Server" "breaker" "LLoadBalancer$Breaker;", Cond.methodLink RX3 50 yX0_letsThrough, Cond.instanceMethod yX0_letsThrough, Cond.selects RX0 yX0_letsThrough yX0_letsThrough, Cond.initialized RX0]
def wsX5_isAvailable_r2 : List Cond := [Cond.code yX0_letsThrough cX0_letsThrough 1 (some .boolean), Cond.fieldLink RX0 9 "LoadBalancer$Breaker" "position" "I", Cond.fieldLink RX0 24 "LoadBalancer$Breaker" "trial" "I"]
def wsX5_isAvailable : List Cond := .code yX5_isAvailable cX5_isAvailable 2 (some .boolean) :: ((wsX5_isAvailable_r1 ++ wsX5_isAvailable_r2) ++ wsX50 ++ wsX40 ++ wsX30 ++ wsX00 ++ (vx_atS RX4 58 "java/lang/IndexOutOfBoundsException" ["java/lang/RuntimeException", "java/lang/Exception"]).filter goodWord)
def wsX5_effectiveWeight : List Cond := .code yX5_effectiveWeight cX5_effectiveWeight 2 (some .int) :: ([.fieldLink RX5 10 "LoadBalancer" "state" "LLoadBalancer$State;", .methodLink RX5 39 yX4_serverAt, .instanceMethod yX4_serverAt, .selects RX4 yX4_serverAt yX4_serverAt, .initialized RX4, .code yX4_serverAt cX4_serverAt 2 (some (.object "LoadBalancer$Server")), .classLink RX4 54 "java/lang/IndexOutOfBoundsException", .initialized "java/lang/IndexOutOfBoundsException", .fieldLink RX4 51 "LoadBalancer$State" "serverCount" "I", .fieldLink RX4 11 "LoadBalancer$State" "servers" "[LLoadBalancer$Server;", .methodLink RX5 148 yX4_weightNow, .instanceMethod yX4_weightNow, .selects RX4 yX4_weightNow yX4_weightNow, .code yX4_weightNow cX4_weightNow 3 (some .int), .fieldLink RX4 72 "LoadBalancer$State" "time" "I", .fieldLink RX4 83 "LoadBalancer$Server" "recoveredAt" "I", .fieldLink RX4 86 "LoadBalancer$State" "window" "I", .fieldLink RX4 89 "LoadBalancer$Server" "recovered" "Z", .fieldLink RX4 93 "LoadBalancer$Server" "weight" "I", .methodLink RX4 96 Lib.Math.max.name, .static Lib.Math.max.name, .initialized "java/lang/Math", .code Lib.Math.max.name Lib.Math.max.code 2 (some .int)] ++ wsX50 ++ wsX40 ++ wsX30 ++ (vx_atS RX4 58 "java/lang/IndexOutOfBoundsException" ["java/lang/RuntimeException", "java/lang/Exception"]).filter goodWord)
def wsX5_active : List Cond := .code yX5_active cX5_active 2 (some .int) :: ([.fieldLink RX5 10 "LoadBalancer" "state" "LLoadBalancer$State;", .fieldLink RX5 152 "LoadBalancer$Server" "load" "I", .methodLink RX5 39 yX4_serverAt, .instanceMethod yX4_serverAt, .selects RX4 yX4_serverAt yX4_serverAt, .initialized RX4, .code yX4_serverAt cX4_serverAt 2 (some (.object "LoadBalancer$Server")), .classLink RX4 54 "java/lang/IndexOutOfBoundsException", .initialized "java/lang/IndexOutOfBoundsException", .fieldLink RX4 51 "LoadBalancer$State" "serverCount" "I", .fieldLink RX4 11 "LoadBalancer$State" "servers" "[LLoadBalancer$Server;"] ++ wsX50 ++ wsX30 ++ wsX40 ++ (vx_atS RX4 58 "java/lang/IndexOutOfBoundsException" ["java/lang/RuntimeException", "java/lang/Exception"]).filter goodWord)
def wsX5_utilization : List Cond := .code yX5_utilization cX5_utilization 3 (some .double) :: ([.fieldLink RX5 10 "LoadBalancer" "state" "LLoadBalancer$State;", .fieldLink RX5 152 "LoadBalancer$Server" "load" "I", .fieldLink RX5 155 "LoadBalancer$Server" "capacity" "I", .methodLink RX5 39 yX4_serverAt, .instanceMethod yX4_serverAt, .selects RX4 yX4_serverAt yX4_serverAt, .initialized RX4, .code yX4_serverAt cX4_serverAt 2 (some (.object "LoadBalancer$Server")), .classLink RX4 54 "java/lang/IndexOutOfBoundsException", .initialized "java/lang/IndexOutOfBoundsException", .fieldLink RX4 51 "LoadBalancer$State" "serverCount" "I", .fieldLink RX4 11 "LoadBalancer$State" "servers" "[LLoadBalancer$Server;"] ++ wsX50 ++ wsX30 ++ wsX40 ++ (vx_atS RX4 58 "java/lang/IndexOutOfBoundsException" ["java/lang/RuntimeException", "java/lang/Exception"]).filter goodWord)
def wsX5_breaker : List Cond := .code yX5_breaker cX5_breaker 2 (some .int) :: ([.fieldLink RX5 10 "LoadBalancer" "state" "LLoadBalancer$State;", .fieldLink RX5 158 "LoadBalancer$Server" "breaker" "LLoadBalancer$Breaker;", .fieldLink RX5 162 "LoadBalancer$Breaker" "position" "I", .methodLink RX5 39 yX4_serverAt, .instanceMethod yX4_serverAt, .selects RX4 yX4_serverAt yX4_serverAt, .initialized RX4, .code yX4_serverAt cX4_serverAt 2 (some (.object "LoadBalancer$Server")), .classLink RX4 54 "java/lang/IndexOutOfBoundsException", .initialized "java/lang/IndexOutOfBoundsException", .fieldLink RX4 51 "LoadBalancer$State" "serverCount" "I", .fieldLink RX4 11 "LoadBalancer$State" "servers" "[LLoadBalancer$Server;"] ++ wsX50 ++ wsX30 ++ wsX00 ++ wsX40 ++ (vx_atS RX4 58 "java/lang/IndexOutOfBoundsException" ["java/lang/RuntimeException", "java/lang/Exception"]).filter goodWord)
def wsX5_owner_r1 : List Cond := [Cond.classLink RX5 28 "java/lang/IllegalStateException", Cond.initialized "java/lang/IllegalStateException", Cond.fieldLink RX5 10 "LoadBalancer" "state" "LLoadBalancer$State;", Cond.fieldLink RX5 24 "LoadBalancer$State" "serverCount" "I", Cond.methodLink RX5 169 yX4_firstOnRing, Cond.instanceMethod yX4_firstOnRing, Cond.selects RX4 yX4_firstOnRing yX4_firstOnRing, Cond.initialized RX4, Cond.code yX4_firstOnRing cX4_firstOnRing 8 (some .int), Cond.fieldLink RX4 51 "LoadBalancer$State" "serverCount" "I", Cond.fieldLink RX4 11 "LoadBalancer$State" "servers" "[LLoadBalancer$Server;", Cond.static yX5_mix, Cond.initialized RX5, Cond.code yX5_mix cX5_mix 1 (some .int), Cond.constant RX5 200 (73244475), Cond.methodLink RX4 130 yX3_accepts, Cond.instanceMethod yX3_accepts, Cond.selects RX3 yX3_accepts yX3_accepts, Cond.initialized RX3, Cond.code yX3_accepts cX3_accepts 1 (some .boolean), Cond.fieldLink RX3 31 "LoadBalancer$Server" "healthy" "Z", Cond.fieldLink RX3 35 "LoadBalancer$Server" "draining" "Z", Cond.fieldLink RX3 25 "LoadBalancer$Server" "load" "I", Cond.fieldLink RX3 22 "LoadBalancer$Server" "capacity" "I"]
def wsX5_owner_r2 : List Cond := [Cond.fieldLink RX3 12 "LoadBalancer$Server" "breaker" "LLoadBalancer$Breaker;", Cond.methodLink RX3 50 yX0_letsThrough, Cond.instanceMethod yX0_letsThrough, Cond.selects RX0 yX0_letsThrough yX0_letsThrough, Cond.initialized RX0, Cond.code yX0_letsThrough cX0_letsThrough 1 (some .boolean), Cond.fieldLink RX0 9 "LoadBalancer$Breaker" "position" "I", Cond.fieldLink RX0 24 "LoadBalancer$Breaker" "trial" "I", Cond.methodLink RX4 164 yX3_ringDistance, Cond.instanceMethod yX3_ringDistance, Cond.selects RX3 yX3_ringDistance yX3_ringDistance, Cond.code yX3_ringDistance cX3_ringDistance 7 (some .int), Cond.fieldLink RX3 18 "LoadBalancer$Server" "weight" "I", Cond.static yX5_isBelowUnsigned, Cond.code yX5_isBelowUnsigned cX5_isBelowUnsigned 2 (some .boolean), Cond.constant RX5 201 (-2147483648)]
def wsX5_owner : List Cond := .code yX5_owner cX5_owner 2 (some .int) :: ((wsX5_owner_r1 ++ wsX5_owner_r2) ++ wsX50 ++ wsX40 ++ wsX30 ++ wsX00 ++ (vx_atS RX5 32 "java/lang/IllegalStateException" ["java/lang/RuntimeException", "java/lang/Exception"]).filter goodWord)
def wsX5_count : List Cond := .code yX5_count cX5_count 2 (some .int) :: ([.classLink RX5 182 "java/lang/IllegalArgumentException", .initialized "java/lang/IllegalArgumentException", .fieldLink RX5 10 "LoadBalancer" "state" "LLoadBalancer$State;", .fieldLink RX5 65 "LoadBalancer$State" "time" "I", .fieldLink RX5 124 "LoadBalancer$State" "connections" "LLoadBalancer$Connections;", .fieldLink RX5 176 "LoadBalancer$Connections" "opened" "I", .fieldLink RX5 106 "LoadBalancer$State" "rejections" "I", .fieldLink RX5 81 "LoadBalancer$State" "clients" "LLoadBalancer$Clients;", .fieldLink RX5 179 "LoadBalancer$Clients" "size" "I", .methodLink RX5 172 yX4_totalLoad, .instanceMethod yX4_totalLoad, .selects RX4 yX4_totalLoad yX4_totalLoad, .initialized RX4, .code yX4_totalLoad cX4_totalLoad 3 (some .int), .fieldLink RX4 51 "LoadBalancer$State" "serverCount" "I", .fieldLink RX4 11 "LoadBalancer$State" "servers" "[LLoadBalancer$Server;", .fieldLink RX4 80 "LoadBalancer$Server" "load" "I"] ++ wsX50 ++ wsX40 ++ wsX20 ++ wsX10 ++ wsX30 ++ (vx_atS RX5 186 "java/lang/IllegalArgumentException" ["java/lang/RuntimeException", "java/lang/Exception"]).filter goodWord)
def wsX5_save_r1 : List Cond := [Cond.fieldLink RX5 16 "LoadBalancer" "saved" "[LLoadBalancer$State;", Cond.classLink RX5 7 RX4, Cond.instantiable RX4 14, Cond.initialized RX4, Cond.fieldLink RX5 10 "LoadBalancer" "state" "LLoadBalancer$State;", Cond.methodLink RX5 20 yX5_requireRange, Cond.static yX5_requireRange, Cond.initialized RX5, Cond.code yX5_requireRange cX5_requireRange 3 none, Cond.classLink RX5 182 "java/lang/IllegalArgumentException", Cond.initialized "java/lang/IllegalArgumentException", Cond.methodLink RX5 9 yX4_init, Cond.instanceMethod yX4_init, Cond.code yX4_init cX4_init 2 none, Cond.methodLink RX4 3 objectInit, Cond.instanceMethod objectInit, Cond.code objectInit ⟨#[0xb1]⟩ 1 none, Cond.classLink RX4 9 RX3, Cond.fieldLink RX4 11 "LoadBalancer$State" "servers" "[LLoadBalancer$Server;", Cond.instantiable RX3 10, Cond.initialized RX3, Cond.classLink RX4 18 RX2, Cond.instantiable RX2 4, Cond.initialized RX2]
def wsX5_save_r2 : List Cond := [Cond.fieldLink RX4 21 "LoadBalancer$State" "connections" "LLoadBalancer$Connections;", Cond.classLink RX4 25 RX1, Cond.instantiable RX1 4, Cond.initialized RX1, Cond.fieldLink RX4 28 "LoadBalancer$State" "clients" "LLoadBalancer$Clients;", Cond.fieldLink RX4 32 "LoadBalancer$State" "rise" "I", Cond.fieldLink RX4 36 "LoadBalancer$State" "fall" "I", Cond.fieldLink RX4 39 "LoadBalancer$State" "cool" "I", Cond.fieldLink RX4 42 "LoadBalancer$State" "policy" "I", Cond.fieldLink RX4 45 "LoadBalancer$State" "lastSelected" "I", Cond.fieldLink RX4 48 "LoadBalancer$State" "seed" "I", Cond.methodLink RX4 17 yX3_init, Cond.instanceMethod yX3_init, Cond.code yX3_init cX3_init 1 none, Cond.methodLink RX3 3 objectInit, Cond.classLink RX3 9 RX0, Cond.instantiable RX0 5, Cond.initialized RX0, Cond.fieldLink RX3 12 "LoadBalancer$Server" "breaker" "LLoadBalancer$Breaker;", Cond.instanceMethod yX0_init, Cond.code yX0_init cX0_init 1 none, Cond.methodLink RX0 3 objectInit, Cond.methodLink RX4 20 yX2_init, Cond.instanceMethod yX2_init]
def wsX5_save_r3 : List Cond := [Cond.code yX2_init cX2_init 1 none, Cond.methodLink RX2 3 objectInit, Cond.arrayClass .int, Cond.fieldLink RX2 9 "LoadBalancer$Connections" "server" "[I", Cond.fieldLink RX2 15 "LoadBalancer$Connections" "openedAt" "[I", Cond.arrayClass .boolean, Cond.fieldLink RX2 18 "LoadBalancer$Connections" "live" "[Z", Cond.methodLink RX4 27 yX1_init, Cond.instanceMethod yX1_init, Cond.code yX1_init cX1_init 1 none, Cond.methodLink RX1 3 objectInit, Cond.fieldLink RX1 9 "LoadBalancer$Clients" "client" "[I", Cond.fieldLink RX1 15 "LoadBalancer$Clients" "server" "[I", Cond.fieldLink RX1 18 "LoadBalancer$Clients" "openedAt" "[I", Cond.methodLink RX5 187 yX4_copyFrom, Cond.instanceMethod yX4_copyFrom, Cond.selects RX4 yX4_copyFrom yX4_copyFrom, Cond.code yX4_copyFrom cX4_copyFrom 3 none, Cond.fieldLink RX4 51 "LoadBalancer$State" "serverCount" "I", Cond.fieldLink RX4 86 "LoadBalancer$State" "window" "I", Cond.fieldLink RX4 120 "LoadBalancer$State" "duration" "I", Cond.fieldLink RX4 72 "LoadBalancer$State" "time" "I", Cond.fieldLink RX4 204 "LoadBalancer$State" "rejections" "I", Cond.methodLink RX4 207 yX3_copyFrom]
def wsX5_save_r4 : List Cond := [Cond.instanceMethod yX3_copyFrom, Cond.selects RX3 yX3_copyFrom yX3_copyFrom, Cond.code yX3_copyFrom cX3_copyFrom 2 none, Cond.fieldLink RX3 18 "LoadBalancer$Server" "weight" "I", Cond.fieldLink RX3 22 "LoadBalancer$Server" "capacity" "I", Cond.fieldLink RX3 25 "LoadBalancer$Server" "load" "I", Cond.fieldLink RX3 28 "LoadBalancer$Server" "credit" "I", Cond.fieldLink RX3 31 "LoadBalancer$Server" "healthy" "Z", Cond.fieldLink RX3 35 "LoadBalancer$Server" "draining" "Z", Cond.fieldLink RX3 38 "LoadBalancer$Server" "streak" "I", Cond.fieldLink RX3 41 "LoadBalancer$Server" "recovered" "Z", Cond.fieldLink RX3 47 "LoadBalancer$Server" "recoveredAt" "I", Cond.methodLink RX3 62 yX0_copyFrom, Cond.instanceMethod yX0_copyFrom, Cond.selects RX0 yX0_copyFrom yX0_copyFrom, Cond.code yX0_copyFrom cX0_copyFrom 2 none, Cond.fieldLink RX0 9 "LoadBalancer$Breaker" "position" "I", Cond.fieldLink RX0 21 "LoadBalancer$Breaker" "openSince" "I", Cond.fieldLink RX0 24 "LoadBalancer$Breaker" "trial" "I", Cond.fieldLink RX0 15 "LoadBalancer$Breaker" "resultCount" "I", Cond.fieldLink RX0 18 "LoadBalancer$Breaker" "badBits" "I", Cond.methodLink RX4 211 yX2_copyFrom, Cond.instanceMethod yX2_copyFrom, Cond.selects RX2 yX2_copyFrom yX2_copyFrom]
def wsX5_save_r5 : List Cond := [Cond.code yX2_copyFrom cX2_copyFrom 3 none, Cond.fieldLink RX2 22 "LoadBalancer$Connections" "opened" "I", Cond.methodLink RX2 26 arraycopyName, Cond.native arraycopyName, Cond.static arraycopyName, Cond.initialized "java/lang/System", Cond.methodLink RX4 214 yX1_copyFrom, Cond.instanceMethod yX1_copyFrom, Cond.selects RX1 yX1_copyFrom yX1_copyFrom, Cond.code yX1_copyFrom cX1_copyFrom 2 none, Cond.fieldLink RX1 21 "LoadBalancer$Clients" "size" "I", Cond.methodLink RX1 40 arraycopyName]
def wsX5_save : List Cond := .code yX5_save cX5_save 3 none :: ((wsX5_save_r1 ++ (wsX5_save_r2 ++ (wsX5_save_r3 ++ (wsX5_save_r4 ++ wsX5_save_r5)))) ++ wsX50 ++ wsX40 ++ wsX30 ++ wsX20 ++ wsX10 ++ wsX00 ++ (vx_atS RX5 186 "java/lang/IllegalArgumentException" ["java/lang/RuntimeException", "java/lang/Exception"]).filter goodWord)
def wsX5_restore_r1 : List Cond := [Cond.classLink RX5 28 "java/lang/IllegalStateException", Cond.initialized "java/lang/IllegalStateException", Cond.fieldLink RX5 16 "LoadBalancer" "saved" "[LLoadBalancer$State;", Cond.fieldLink RX5 10 "LoadBalancer" "state" "LLoadBalancer$State;", Cond.methodLink RX5 20 yX5_requireRange, Cond.static yX5_requireRange, Cond.initialized RX5, Cond.code yX5_requireRange cX5_requireRange 3 none, Cond.classLink RX5 182 "java/lang/IllegalArgumentException", Cond.initialized "java/lang/IllegalArgumentException", Cond.methodLink RX5 187 yX4_copyFrom, Cond.instanceMethod yX4_copyFrom, Cond.selects RX4 yX4_copyFrom yX4_copyFrom, Cond.initialized RX4, Cond.code yX4_copyFrom cX4_copyFrom 3 none, Cond.fieldLink RX4 51 "LoadBalancer$State" "serverCount" "I", Cond.fieldLink RX4 32 "LoadBalancer$State" "rise" "I", Cond.fieldLink RX4 36 "LoadBalancer$State" "fall" "I", Cond.fieldLink RX4 86 "LoadBalancer$State" "window" "I", Cond.fieldLink RX4 39 "LoadBalancer$State" "cool" "I", Cond.fieldLink RX4 120 "LoadBalancer$State" "duration" "I", Cond.fieldLink RX4 42 "LoadBalancer$State" "policy" "I", Cond.fieldLink RX4 45 "LoadBalancer$State" "lastSelected" "I", Cond.fieldLink RX4 48 "LoadBalancer$State" "seed" "I"]
def wsX5_restore_r2 : List Cond := [Cond.fieldLink RX4 72 "LoadBalancer$State" "time" "I", Cond.fieldLink RX4 204 "LoadBalancer$State" "rejections" "I", Cond.fieldLink RX4 11 "LoadBalancer$State" "servers" "[LLoadBalancer$Server;", Cond.fieldLink RX4 21 "LoadBalancer$State" "connections" "LLoadBalancer$Connections;", Cond.fieldLink RX4 28 "LoadBalancer$State" "clients" "LLoadBalancer$Clients;", Cond.methodLink RX4 207 yX3_copyFrom, Cond.instanceMethod yX3_copyFrom, Cond.selects RX3 yX3_copyFrom yX3_copyFrom, Cond.initialized RX3, Cond.code yX3_copyFrom cX3_copyFrom 2 none, Cond.fieldLink RX3 18 "LoadBalancer$Server" "weight" "I", Cond.fieldLink RX3 22 "LoadBalancer$Server" "capacity" "I", Cond.fieldLink RX3 25 "LoadBalancer$Server" "load" "I", Cond.fieldLink RX3 28 "LoadBalancer$Server" "credit" "I", Cond.fieldLink RX3 31 "LoadBalancer$Server" "healthy" "Z", Cond.fieldLink RX3 35 "LoadBalancer$Server" "draining" "Z", Cond.fieldLink RX3 38 "LoadBalancer$Server" "streak" "I", Cond.fieldLink RX3 41 "LoadBalancer$Server" "recovered" "Z", Cond.fieldLink RX3 47 "LoadBalancer$Server" "recoveredAt" "I", Cond.fieldLink RX3 12 "LoadBalancer$Server" "breaker" "LLoadBalancer$Breaker;", Cond.methodLink RX3 62 yX0_copyFrom, Cond.instanceMethod yX0_copyFrom, Cond.selects RX0 yX0_copyFrom yX0_copyFrom, Cond.initialized RX0]
def wsX5_restore_r3 : List Cond := [Cond.code yX0_copyFrom cX0_copyFrom 2 none, Cond.fieldLink RX0 9 "LoadBalancer$Breaker" "position" "I", Cond.fieldLink RX0 21 "LoadBalancer$Breaker" "openSince" "I", Cond.fieldLink RX0 24 "LoadBalancer$Breaker" "trial" "I", Cond.fieldLink RX0 15 "LoadBalancer$Breaker" "resultCount" "I", Cond.fieldLink RX0 18 "LoadBalancer$Breaker" "badBits" "I", Cond.methodLink RX4 211 yX2_copyFrom, Cond.instanceMethod yX2_copyFrom, Cond.selects RX2 yX2_copyFrom yX2_copyFrom, Cond.initialized RX2, Cond.code yX2_copyFrom cX2_copyFrom 3 none, Cond.fieldLink RX2 22 "LoadBalancer$Connections" "opened" "I", Cond.fieldLink RX2 9 "LoadBalancer$Connections" "server" "[I", Cond.methodLink RX2 26 arraycopyName, Cond.native arraycopyName, Cond.static arraycopyName, Cond.initialized "java/lang/System", Cond.fieldLink RX2 15 "LoadBalancer$Connections" "openedAt" "[I", Cond.fieldLink RX2 18 "LoadBalancer$Connections" "live" "[Z", Cond.methodLink RX4 214 yX1_copyFrom, Cond.instanceMethod yX1_copyFrom, Cond.selects RX1 yX1_copyFrom yX1_copyFrom, Cond.initialized RX1, Cond.code yX1_copyFrom cX1_copyFrom 2 none]
def wsX5_restore_r4 : List Cond := [Cond.fieldLink RX1 21 "LoadBalancer$Clients" "size" "I", Cond.fieldLink RX1 9 "LoadBalancer$Clients" "client" "[I", Cond.methodLink RX1 40 arraycopyName, Cond.fieldLink RX1 15 "LoadBalancer$Clients" "server" "[I", Cond.fieldLink RX1 18 "LoadBalancer$Clients" "openedAt" "[I"]
def wsX5_restore : List Cond := .code yX5_restore cX5_restore 3 none :: ((wsX5_restore_r1 ++ (wsX5_restore_r2 ++ (wsX5_restore_r3 ++ wsX5_restore_r4))) ++ wsX50 ++ wsX40 ++ wsX30 ++ wsX00 ++ wsX20 ++ wsX10 ++ (vx_atS RX5 32 "java/lang/IllegalStateException" ["java/lang/RuntimeException", "java/lang/Exception"]).filter goodWord ++ (vx_atS RX5 186 "java/lang/IllegalArgumentException" ["java/lang/RuntimeException", "java/lang/Exception"]).filter goodWord)
def wsX6_init : List Cond := .code yX6_init cX6_init 1 none :: ([.methodLink RX6 1 objectInit, .instanceMethod objectInit, .code objectInit ⟨#[0xb1]⟩ 1 none, .arrayClass .int, .fieldLink RX6 7 "LoadBalancerModel" "at" "[I", .fieldLink RX6 13 "LoadBalancerModel" "slots" "[I", .arrayClass .boolean, .fieldLink RX6 16 "LoadBalancerModel" "isSaved" "[Z", .fieldLink RX6 20 "LoadBalancerModel" "row" "[I"] ++ wsX60)
def wsX6_thrown : List Cond := .code yX6_thrown cX6_thrown 1 (some .int) :: ([.fieldLink RX6 23 "LoadBalancerModel" "thrown" "I"] ++ wsX60)
def wsX6_in : List Cond := .code yX6_in cX6_in 3 (some .boolean) :: ([])
def wsX6_isServer : List Cond := .code yX6_isServer cX6_isServer 2 (some .boolean) :: ([.fieldLink RX6 7 "LoadBalancerModel" "at" "[I", .methodLink RX6 27 yX6_in, .static yX6_in, .initialized RX6, .code yX6_in cX6_in 3 (some .boolean)] ++ wsX60)
def wsX6_addServer : List Cond := .code yX6_addServer cX6_addServer 4 (some .int) :: ([.fieldLink RX6 7 "LoadBalancerModel" "at" "[I", .fieldLink RX6 23 "LoadBalancerModel" "thrown" "I", .methodLink RX6 27 yX6_in, .static yX6_in, .initialized RX6, .code yX6_in cX6_in 3 (some .boolean)] ++ wsX60)
def wsX6_put : List Cond := .code yX6_put cX6_put 4 (some .int) :: ([.fieldLink RX6 7 "LoadBalancerModel" "at" "[I"] ++ wsX60)
def wsX6_setWeight : List Cond := .code yX6_setWeight cX6_setWeight 3 (some .int) :: ([.fieldLink RX6 23 "LoadBalancerModel" "thrown" "I", .methodLink RX6 31 yX6_isServer, .instanceMethod yX6_isServer, .selects RX6 yX6_isServer yX6_isServer, .initialized RX6, .code yX6_isServer cX6_isServer 2 (some .boolean), .fieldLink RX6 7 "LoadBalancerModel" "at" "[I", .methodLink RX6 27 yX6_in, .static yX6_in, .code yX6_in cX6_in 3 (some .boolean), .methodLink RX6 35 yX6_put, .instanceMethod yX6_put, .selects RX6 yX6_put yX6_put, .code yX6_put cX6_put 4 (some .int)] ++ wsX60)
def wsX6_setDraining : List Cond := .code yX6_setDraining cX6_setDraining 3 (some .boolean) :: ([.fieldLink RX6 23 "LoadBalancerModel" "thrown" "I", .methodLink RX6 31 yX6_isServer, .instanceMethod yX6_isServer, .selects RX6 yX6_isServer yX6_isServer, .initialized RX6, .code yX6_isServer cX6_isServer 2 (some .boolean), .fieldLink RX6 7 "LoadBalancerModel" "at" "[I", .methodLink RX6 27 yX6_in, .static yX6_in, .code yX6_in cX6_in 3 (some .boolean), .methodLink RX6 35 yX6_put, .instanceMethod yX6_put, .selects RX6 yX6_put yX6_put, .code yX6_put cX6_put 4 (some .int)] ++ wsX60)
def wsX6_report : List Cond := .code yX6_report cX6_report 4 (some .boolean) :: ([.fieldLink RX6 23 "LoadBalancerModel" "thrown" "I", .fieldLink RX6 7 "LoadBalancerModel" "at" "[I", .methodLink RX6 31 yX6_isServer, .instanceMethod yX6_isServer, .selects RX6 yX6_isServer yX6_isServer, .initialized RX6, .code yX6_isServer cX6_isServer 2 (some .boolean), .methodLink RX6 27 yX6_in, .static yX6_in, .code yX6_in cX6_in 3 (some .boolean)] ++ wsX60)
def wsX6_servers : List Cond := .code yX6_servers cX6_servers 1 (some .int) :: ([.fieldLink RX6 23 "LoadBalancerModel" "thrown" "I", .fieldLink RX6 7 "LoadBalancerModel" "at" "[I"] ++ wsX60)
def wsX6_setThresholds : List Cond := .code yX6_setThresholds cX6_setThresholds 3 none :: ([.fieldLink RX6 23 "LoadBalancerModel" "thrown" "I", .fieldLink RX6 7 "LoadBalancerModel" "at" "[I", .methodLink RX6 27 yX6_in, .static yX6_in, .initialized RX6, .code yX6_in cX6_in 3 (some .boolean)] ++ wsX60)
def wsX6_setSlowStart : List Cond := .code yX6_setSlowStart cX6_setSlowStart 2 (some .int) :: ([.fieldLink RX6 23 "LoadBalancerModel" "thrown" "I", .methodLink RX6 27 yX6_in, .static yX6_in, .initialized RX6, .code yX6_in cX6_in 3 (some .boolean), .methodLink RX6 35 yX6_put, .instanceMethod yX6_put, .selects RX6 yX6_put yX6_put, .code yX6_put cX6_put 4 (some .int), .fieldLink RX6 7 "LoadBalancerModel" "at" "[I"] ++ wsX60)
def wsX6_setCool : List Cond := .code yX6_setCool cX6_setCool 2 (some .int) :: ([.fieldLink RX6 23 "LoadBalancerModel" "thrown" "I", .methodLink RX6 27 yX6_in, .static yX6_in, .initialized RX6, .code yX6_in cX6_in 3 (some .boolean), .methodLink RX6 35 yX6_put, .instanceMethod yX6_put, .selects RX6 yX6_put yX6_put, .code yX6_put cX6_put 4 (some .int), .fieldLink RX6 7 "LoadBalancerModel" "at" "[I"] ++ wsX60)
def wsX6_setSticky : List Cond := .code yX6_setSticky cX6_setSticky 2 (some .int) :: ([.fieldLink RX6 23 "LoadBalancerModel" "thrown" "I", .fieldLink RX6 7 "LoadBalancerModel" "at" "[I", .methodLink RX6 27 yX6_in, .static yX6_in, .initialized RX6, .code yX6_in cX6_in 3 (some .boolean), .methodLink RX6 35 yX6_put, .instanceMethod yX6_put, .selects RX6 yX6_put yX6_put, .code yX6_put cX6_put 4 (some .int)] ++ wsX60)
def wsX6_setPolicy : List Cond := .code yX6_setPolicy cX6_setPolicy 3 (some .int) :: ([.fieldLink RX6 23 "LoadBalancerModel" "thrown" "I", .fieldLink RX6 7 "LoadBalancerModel" "at" "[I", .methodLink RX6 27 yX6_in, .static yX6_in, .initialized RX6, .code yX6_in cX6_in 3 (some .boolean), .methodLink RX6 35 yX6_put, .instanceMethod yX6_put, .selects RX6 yX6_put yX6_put, .code yX6_put cX6_put 4 (some .int)] ++ wsX60)
def wsX6_setSeed : List Cond := .code yX6_setSeed cX6_setSeed 2 (some .int) :: ([.fieldLink RX6 23 "LoadBalancerModel" "thrown" "I", .methodLink RX6 35 yX6_put, .instanceMethod yX6_put, .selects RX6 yX6_put yX6_put, .initialized RX6, .code yX6_put cX6_put 4 (some .int), .fieldLink RX6 7 "LoadBalancerModel" "at" "[I"] ++ wsX60)
def wsX6_tick : List Cond := .code yX6_tick cX6_tick 4 (some .int) :: ([.fieldLink RX6 23 "LoadBalancerModel" "thrown" "I", .fieldLink RX6 7 "LoadBalancerModel" "at" "[I", .methodLink RX6 27 yX6_in, .static yX6_in, .initialized RX6, .code yX6_in cX6_in 3 (some .boolean)] ++ wsX60)
def wsX6_mayTake : List Cond := .code yX6_mayTake cX6_mayTake 3 (some .boolean) :: ([.fieldLink RX6 7 "LoadBalancerModel" "at" "[I"] ++ wsX60)
def wsX6_weightNow : List Cond := .code yX6_weightNow cX6_weightNow 4 (some .int) :: ([.fieldLink RX6 7 "LoadBalancerModel" "at" "[I"] ++ wsX60)
def wsX6_layRow : List Cond := .code yX6_layRow cX6_layRow 2 none :: ([.fieldLink RX6 39 "LoadBalancerModel" "rowMany" "I", .fieldLink RX6 7 "LoadBalancerModel" "at" "[I", .fieldLink RX6 20 "LoadBalancerModel" "row" "[I", .methodLink RX6 42 yX6_mayTake, .instanceMethod yX6_mayTake, .selects RX6 yX6_mayTake yX6_mayTake, .initialized RX6, .code yX6_mayTake cX6_mayTake 3 (some .boolean)] ++ wsX60)
def wsX6_nextInTurn : List Cond := .code yX6_nextInTurn cX6_nextInTurn 2 (some .int) :: ([.fieldLink RX6 39 "LoadBalancerModel" "rowMany" "I", .fieldLink RX6 20 "LoadBalancerModel" "row" "[I", .fieldLink RX6 7 "LoadBalancerModel" "at" "[I"] ++ wsX60)
def wsX6_mostCredit : List Cond := .code yX6_mostCredit cX6_mostCredit 4 (some .int) :: ([.fieldLink RX6 20 "LoadBalancerModel" "row" "[I", .fieldLink RX6 39 "LoadBalancerModel" "rowMany" "I", .fieldLink RX6 7 "LoadBalancerModel" "at" "[I", .methodLink RX6 45 yX6_weightNow, .instanceMethod yX6_weightNow, .selects RX6 yX6_weightNow yX6_weightNow, .initialized RX6, .code yX6_weightNow cX6_weightNow 4 (some .int)] ++ wsX60)
def wsX6_leastBusy : List Cond := .code yX6_leastBusy cX6_leastBusy 4 (some .int) :: ([.fieldLink RX6 20 "LoadBalancerModel" "row" "[I", .fieldLink RX6 39 "LoadBalancerModel" "rowMany" "I", .fieldLink RX6 7 "LoadBalancerModel" "at" "[I", .methodLink RX6 45 yX6_weightNow, .instanceMethod yX6_weightNow, .selects RX6 yX6_weightNow yX6_weightNow, .initialized RX6, .code yX6_weightNow cX6_weightNow 4 (some .int)] ++ wsX60)
def wsX6_mix : List Cond := .code yX6_mix cX6_mix 2 (some .int) :: ([.constant RX6 49 (73244475)])
def wsX6_placeOf : List Cond := .code yX6_placeOf cX6_placeOf 1 (some .long) :: ([.constantLong RX6 53 (4294967295), .methodLink RX6 50 yX6_mix, .static yX6_mix, .initialized RX6, .code yX6_mix cX6_mix 2 (some .int), .constant RX6 49 (73244475)])
def wsX6_byPoints : List Cond := .code yX6_byPoints cX6_byPoints 12 (some .int) :: ([.fieldLink RX6 7 "LoadBalancerModel" "at" "[I", .constantLong RX6 53 (4294967295), .methodLink RX6 55 yX6_placeOf, .static yX6_placeOf, .initialized RX6, .code yX6_placeOf cX6_placeOf 1 (some .long), .methodLink RX6 50 yX6_mix, .static yX6_mix, .code yX6_mix cX6_mix 2 (some .int), .constant RX6 49 (73244475), .methodLink RX6 42 yX6_mayTake, .instanceMethod yX6_mayTake, .selects RX6 yX6_mayTake yX6_mayTake, .code yX6_mayTake cX6_mayTake 3 (some .boolean)] ++ wsX60)
def wsX6_nextSeed : List Cond := .code yX6_nextSeed cX6_nextSeed 1 (some .int) :: ([.constant RX6 59 (1103515245)])
def wsX6_ofTwo : List Cond := .code yX6_ofTwo cX6_ofTwo 5 (some .int) :: ([.fieldLink RX6 7 "LoadBalancerModel" "at" "[I", .fieldLink RX6 20 "LoadBalancerModel" "row" "[I", .fieldLink RX6 39 "LoadBalancerModel" "rowMany" "I", .methodLink RX6 60 yX6_nextSeed, .static yX6_nextSeed, .initialized RX6, .code yX6_nextSeed cX6_nextSeed 1 (some .int), .constant RX6 59 (1103515245)] ++ wsX60)
def wsX6_byPolicy_r1 : List Cond := [Cond.fieldLink RX6 7 "LoadBalancerModel" "at" "[I", Cond.methodLink RX6 63 yX6_nextInTurn, Cond.instanceMethod yX6_nextInTurn, Cond.selects RX6 yX6_nextInTurn yX6_nextInTurn, Cond.initialized RX6, Cond.code yX6_nextInTurn cX6_nextInTurn 2 (some .int), Cond.fieldLink RX6 39 "LoadBalancerModel" "rowMany" "I", Cond.fieldLink RX6 20 "LoadBalancerModel" "row" "[I", Cond.methodLink RX6 67 yX6_mostCredit, Cond.instanceMethod yX6_mostCredit, Cond.selects RX6 yX6_mostCredit yX6_mostCredit, Cond.code yX6_mostCredit cX6_mostCredit 4 (some .int), Cond.methodLink RX6 45 yX6_weightNow, Cond.instanceMethod yX6_weightNow, Cond.selects RX6 yX6_weightNow yX6_weightNow, Cond.code yX6_weightNow cX6_weightNow 4 (some .int), Cond.methodLink RX6 70 yX6_leastBusy, Cond.instanceMethod yX6_leastBusy, Cond.selects RX6 yX6_leastBusy yX6_leastBusy, Cond.code yX6_leastBusy cX6_leastBusy 4 (some .int), Cond.methodLink RX6 73 yX6_byPoints, Cond.instanceMethod yX6_byPoints, Cond.selects RX6 yX6_byPoints yX6_byPoints, Cond.code yX6_byPoints cX6_byPoints 12 (some .int)]
def wsX6_byPolicy_r2 : List Cond := [Cond.constantLong RX6 53 (4294967295), Cond.methodLink RX6 55 yX6_placeOf, Cond.static yX6_placeOf, Cond.code yX6_placeOf cX6_placeOf 1 (some .long), Cond.methodLink RX6 50 yX6_mix, Cond.static yX6_mix, Cond.code yX6_mix cX6_mix 2 (some .int), Cond.constant RX6 49 (73244475), Cond.methodLink RX6 42 yX6_mayTake, Cond.instanceMethod yX6_mayTake, Cond.selects RX6 yX6_mayTake yX6_mayTake, Cond.code yX6_mayTake cX6_mayTake 3 (some .boolean), Cond.methodLink RX6 77 yX6_ofTwo, Cond.instanceMethod yX6_ofTwo, Cond.selects RX6 yX6_ofTwo yX6_ofTwo, Cond.code yX6_ofTwo cX6_ofTwo 5 (some .int), Cond.methodLink RX6 60 yX6_nextSeed, Cond.static yX6_nextSeed, Cond.code yX6_nextSeed cX6_nextSeed 1 (some .int), Cond.constant RX6 59 (1103515245)]
def wsX6_byPolicy : List Cond := .code yX6_byPolicy cX6_byPolicy 2 (some .int) :: ((wsX6_byPolicy_r1 ++ wsX6_byPolicy_r2) ++ wsX60)
def wsX6_note : List Cond := .code yX6_note cX6_note 4 none :: ([.fieldLink RX6 7 "LoadBalancerModel" "at" "[I", .fieldLink RX6 39 "LoadBalancerModel" "rowMany" "I", .fieldLink RX6 20 "LoadBalancerModel" "row" "[I", .methodLink RX6 45 yX6_weightNow, .instanceMethod yX6_weightNow, .selects RX6 yX6_weightNow yX6_weightNow, .initialized RX6, .code yX6_weightNow cX6_weightNow 4 (some .int), .methodLink RX6 60 yX6_nextSeed, .static yX6_nextSeed, .code yX6_nextSeed cX6_nextSeed 1 (some .int), .constant RX6 59 (1103515245)] ++ wsX60)
def wsX6_placeOfClient : List Cond := .code yX6_placeOfClient cX6_placeOfClient 3 (some .int) :: ([.fieldLink RX6 7 "LoadBalancerModel" "at" "[I"] ++ wsX60)
def wsX6_stuckTo : List Cond := .code yX6_stuckTo cX6_stuckTo 3 (some .int) :: ([.fieldLink RX6 7 "LoadBalancerModel" "at" "[I", .methodLink RX6 80 yX6_placeOfClient, .instanceMethod yX6_placeOfClient, .selects RX6 yX6_placeOfClient yX6_placeOfClient, .initialized RX6, .code yX6_placeOfClient cX6_placeOfClient 3 (some .int), .methodLink RX6 42 yX6_mayTake, .instanceMethod yX6_mayTake, .selects RX6 yX6_mayTake yX6_mayTake, .code yX6_mayTake cX6_mayTake 3 (some .boolean)] ++ wsX60)
def wsX6_choice_r1 : List Cond := [Cond.fieldLink RX6 7 "LoadBalancerModel" "at" "[I", Cond.fieldLink RX6 39 "LoadBalancerModel" "rowMany" "I", Cond.methodLink RX6 83 yX6_layRow, Cond.instanceMethod yX6_layRow, Cond.selects RX6 yX6_layRow yX6_layRow, Cond.initialized RX6, Cond.code yX6_layRow cX6_layRow 2 none, Cond.fieldLink RX6 20 "LoadBalancerModel" "row" "[I", Cond.methodLink RX6 42 yX6_mayTake, Cond.instanceMethod yX6_mayTake, Cond.selects RX6 yX6_mayTake yX6_mayTake, Cond.code yX6_mayTake cX6_mayTake 3 (some .boolean), Cond.methodLink RX6 86 yX6_stuckTo, Cond.instanceMethod yX6_stuckTo, Cond.selects RX6 yX6_stuckTo yX6_stuckTo, Cond.code yX6_stuckTo cX6_stuckTo 3 (some .int), Cond.methodLink RX6 80 yX6_placeOfClient, Cond.instanceMethod yX6_placeOfClient, Cond.selects RX6 yX6_placeOfClient yX6_placeOfClient, Cond.code yX6_placeOfClient cX6_placeOfClient 3 (some .int), Cond.methodLink RX6 89 yX6_byPolicy, Cond.instanceMethod yX6_byPolicy, Cond.selects RX6 yX6_byPolicy yX6_byPolicy, Cond.code yX6_byPolicy cX6_byPolicy 2 (some .int)]
def wsX6_choice_r2 : List Cond := [Cond.methodLink RX6 63 yX6_nextInTurn, Cond.instanceMethod yX6_nextInTurn, Cond.selects RX6 yX6_nextInTurn yX6_nextInTurn, Cond.code yX6_nextInTurn cX6_nextInTurn 2 (some .int), Cond.methodLink RX6 67 yX6_mostCredit, Cond.instanceMethod yX6_mostCredit, Cond.selects RX6 yX6_mostCredit yX6_mostCredit, Cond.code yX6_mostCredit cX6_mostCredit 4 (some .int), Cond.methodLink RX6 45 yX6_weightNow, Cond.instanceMethod yX6_weightNow, Cond.selects RX6 yX6_weightNow yX6_weightNow, Cond.code yX6_weightNow cX6_weightNow 4 (some .int), Cond.methodLink RX6 70 yX6_leastBusy, Cond.instanceMethod yX6_leastBusy, Cond.selects RX6 yX6_leastBusy yX6_leastBusy, Cond.code yX6_leastBusy cX6_leastBusy 4 (some .int), Cond.methodLink RX6 73 yX6_byPoints, Cond.instanceMethod yX6_byPoints, Cond.selects RX6 yX6_byPoints yX6_byPoints, Cond.code yX6_byPoints cX6_byPoints 12 (some .int), Cond.constantLong RX6 53 (4294967295), Cond.methodLink RX6 55 yX6_placeOf, Cond.static yX6_placeOf, Cond.code yX6_placeOf cX6_placeOf 1 (some .long)]
def wsX6_choice_r3 : List Cond := [Cond.methodLink RX6 50 yX6_mix, Cond.static yX6_mix, Cond.code yX6_mix cX6_mix 2 (some .int), Cond.constant RX6 49 (73244475), Cond.methodLink RX6 77 yX6_ofTwo, Cond.instanceMethod yX6_ofTwo, Cond.selects RX6 yX6_ofTwo yX6_ofTwo, Cond.code yX6_ofTwo cX6_ofTwo 5 (some .int), Cond.methodLink RX6 60 yX6_nextSeed, Cond.static yX6_nextSeed, Cond.code yX6_nextSeed cX6_nextSeed 1 (some .int), Cond.constant RX6 59 (1103515245)]
def wsX6_choice : List Cond := .code yX6_choice cX6_choice 3 (some .int) :: ((wsX6_choice_r1 ++ (wsX6_choice_r2 ++ wsX6_choice_r3)) ++ wsX60)
def wsX6_preview_r1 : List Cond := [Cond.fieldLink RX6 23 "LoadBalancerModel" "thrown" "I", Cond.methodLink RX6 92 yX6_choice, Cond.instanceMethod yX6_choice, Cond.selects RX6 yX6_choice yX6_choice, Cond.initialized RX6, Cond.code yX6_choice cX6_choice 3 (some .int), Cond.fieldLink RX6 7 "LoadBalancerModel" "at" "[I", Cond.fieldLink RX6 39 "LoadBalancerModel" "rowMany" "I", Cond.methodLink RX6 83 yX6_layRow, Cond.instanceMethod yX6_layRow, Cond.selects RX6 yX6_layRow yX6_layRow, Cond.code yX6_layRow cX6_layRow 2 none, Cond.fieldLink RX6 20 "LoadBalancerModel" "row" "[I", Cond.methodLink RX6 42 yX6_mayTake, Cond.instanceMethod yX6_mayTake, Cond.selects RX6 yX6_mayTake yX6_mayTake, Cond.code yX6_mayTake cX6_mayTake 3 (some .boolean), Cond.methodLink RX6 86 yX6_stuckTo, Cond.instanceMethod yX6_stuckTo, Cond.selects RX6 yX6_stuckTo yX6_stuckTo, Cond.code yX6_stuckTo cX6_stuckTo 3 (some .int), Cond.methodLink RX6 80 yX6_placeOfClient, Cond.instanceMethod yX6_placeOfClient, Cond.selects RX6 yX6_placeOfClient yX6_placeOfClient]
def wsX6_preview_r2 : List Cond := [Cond.code yX6_placeOfClient cX6_placeOfClient 3 (some .int), Cond.methodLink RX6 89 yX6_byPolicy, Cond.instanceMethod yX6_byPolicy, Cond.selects RX6 yX6_byPolicy yX6_byPolicy, Cond.code yX6_byPolicy cX6_byPolicy 2 (some .int), Cond.methodLink RX6 63 yX6_nextInTurn, Cond.instanceMethod yX6_nextInTurn, Cond.selects RX6 yX6_nextInTurn yX6_nextInTurn, Cond.code yX6_nextInTurn cX6_nextInTurn 2 (some .int), Cond.methodLink RX6 67 yX6_mostCredit, Cond.instanceMethod yX6_mostCredit, Cond.selects RX6 yX6_mostCredit yX6_mostCredit, Cond.code yX6_mostCredit cX6_mostCredit 4 (some .int), Cond.methodLink RX6 45 yX6_weightNow, Cond.instanceMethod yX6_weightNow, Cond.selects RX6 yX6_weightNow yX6_weightNow, Cond.code yX6_weightNow cX6_weightNow 4 (some .int), Cond.methodLink RX6 70 yX6_leastBusy, Cond.instanceMethod yX6_leastBusy, Cond.selects RX6 yX6_leastBusy yX6_leastBusy, Cond.code yX6_leastBusy cX6_leastBusy 4 (some .int), Cond.methodLink RX6 73 yX6_byPoints, Cond.instanceMethod yX6_byPoints, Cond.selects RX6 yX6_byPoints yX6_byPoints]
def wsX6_preview_r3 : List Cond := [Cond.code yX6_byPoints cX6_byPoints 12 (some .int), Cond.constantLong RX6 53 (4294967295), Cond.methodLink RX6 55 yX6_placeOf, Cond.static yX6_placeOf, Cond.code yX6_placeOf cX6_placeOf 1 (some .long), Cond.methodLink RX6 50 yX6_mix, Cond.static yX6_mix, Cond.code yX6_mix cX6_mix 2 (some .int), Cond.constant RX6 49 (73244475), Cond.methodLink RX6 77 yX6_ofTwo, Cond.instanceMethod yX6_ofTwo, Cond.selects RX6 yX6_ofTwo yX6_ofTwo, Cond.code yX6_ofTwo cX6_ofTwo 5 (some .int), Cond.methodLink RX6 60 yX6_nextSeed, Cond.static yX6_nextSeed, Cond.code yX6_nextSeed cX6_nextSeed 1 (some .int), Cond.constant RX6 59 (1103515245)]
def wsX6_preview : List Cond := .code yX6_preview cX6_preview 2 (some .int) :: ((wsX6_preview_r1 ++ (wsX6_preview_r2 ++ wsX6_preview_r3)) ++ wsX60)
def wsX6_goesFirst : List Cond := .code yX6_goesFirst cX6_goesFirst 4 (some .boolean) :: ([.fieldLink RX6 7 "LoadBalancerModel" "at" "[I"] ++ wsX60)
def wsX6_remember : List Cond := .code yX6_remember cX6_remember 5 none :: ([.fieldLink RX6 7 "LoadBalancerModel" "at" "[I", .methodLink RX6 80 yX6_placeOfClient, .instanceMethod yX6_placeOfClient, .selects RX6 yX6_placeOfClient yX6_placeOfClient, .initialized RX6, .code yX6_placeOfClient cX6_placeOfClient 3 (some .int), .methodLink RX6 95 yX6_goesFirst, .instanceMethod yX6_goesFirst, .selects RX6 yX6_goesFirst yX6_goesFirst, .code yX6_goesFirst cX6_goesFirst 4 (some .boolean)] ++ wsX60)
def wsX6_open_r1 : List Cond := [Cond.fieldLink RX6 23 "LoadBalancerModel" "thrown" "I", Cond.fieldLink RX6 7 "LoadBalancerModel" "at" "[I", Cond.methodLink RX6 92 yX6_choice, Cond.instanceMethod yX6_choice, Cond.selects RX6 yX6_choice yX6_choice, Cond.initialized RX6, Cond.code yX6_choice cX6_choice 3 (some .int), Cond.fieldLink RX6 39 "LoadBalancerModel" "rowMany" "I", Cond.methodLink RX6 83 yX6_layRow, Cond.instanceMethod yX6_layRow, Cond.selects RX6 yX6_layRow yX6_layRow, Cond.code yX6_layRow cX6_layRow 2 none, Cond.fieldLink RX6 20 "LoadBalancerModel" "row" "[I", Cond.methodLink RX6 42 yX6_mayTake, Cond.instanceMethod yX6_mayTake, Cond.selects RX6 yX6_mayTake yX6_mayTake, Cond.code yX6_mayTake cX6_mayTake 3 (some .boolean), Cond.methodLink RX6 86 yX6_stuckTo, Cond.instanceMethod yX6_stuckTo, Cond.selects RX6 yX6_stuckTo yX6_stuckTo, Cond.code yX6_stuckTo cX6_stuckTo 3 (some .int), Cond.methodLink RX6 80 yX6_placeOfClient, Cond.instanceMethod yX6_placeOfClient, Cond.selects RX6 yX6_placeOfClient yX6_placeOfClient]
def wsX6_open_r2 : List Cond := [Cond.code yX6_placeOfClient cX6_placeOfClient 3 (some .int), Cond.methodLink RX6 89 yX6_byPolicy, Cond.instanceMethod yX6_byPolicy, Cond.selects RX6 yX6_byPolicy yX6_byPolicy, Cond.code yX6_byPolicy cX6_byPolicy 2 (some .int), Cond.methodLink RX6 63 yX6_nextInTurn, Cond.instanceMethod yX6_nextInTurn, Cond.selects RX6 yX6_nextInTurn yX6_nextInTurn, Cond.code yX6_nextInTurn cX6_nextInTurn 2 (some .int), Cond.methodLink RX6 67 yX6_mostCredit, Cond.instanceMethod yX6_mostCredit, Cond.selects RX6 yX6_mostCredit yX6_mostCredit, Cond.code yX6_mostCredit cX6_mostCredit 4 (some .int), Cond.methodLink RX6 45 yX6_weightNow, Cond.instanceMethod yX6_weightNow, Cond.selects RX6 yX6_weightNow yX6_weightNow, Cond.code yX6_weightNow cX6_weightNow 4 (some .int), Cond.methodLink RX6 70 yX6_leastBusy, Cond.instanceMethod yX6_leastBusy, Cond.selects RX6 yX6_leastBusy yX6_leastBusy, Cond.code yX6_leastBusy cX6_leastBusy 4 (some .int), Cond.methodLink RX6 73 yX6_byPoints, Cond.instanceMethod yX6_byPoints, Cond.selects RX6 yX6_byPoints yX6_byPoints]
def wsX6_open_r3 : List Cond := [Cond.code yX6_byPoints cX6_byPoints 12 (some .int), Cond.constantLong RX6 53 (4294967295), Cond.methodLink RX6 55 yX6_placeOf, Cond.static yX6_placeOf, Cond.code yX6_placeOf cX6_placeOf 1 (some .long), Cond.methodLink RX6 50 yX6_mix, Cond.static yX6_mix, Cond.code yX6_mix cX6_mix 2 (some .int), Cond.constant RX6 49 (73244475), Cond.methodLink RX6 77 yX6_ofTwo, Cond.instanceMethod yX6_ofTwo, Cond.selects RX6 yX6_ofTwo yX6_ofTwo, Cond.code yX6_ofTwo cX6_ofTwo 5 (some .int), Cond.methodLink RX6 60 yX6_nextSeed, Cond.static yX6_nextSeed, Cond.code yX6_nextSeed cX6_nextSeed 1 (some .int), Cond.constant RX6 59 (1103515245), Cond.methodLink RX6 99 yX6_note, Cond.instanceMethod yX6_note, Cond.selects RX6 yX6_note yX6_note, Cond.code yX6_note cX6_note 4 none, Cond.methodLink RX6 103 yX6_remember, Cond.instanceMethod yX6_remember, Cond.selects RX6 yX6_remember yX6_remember]
def wsX6_open_r4 : List Cond := [Cond.code yX6_remember cX6_remember 5 none, Cond.methodLink RX6 95 yX6_goesFirst, Cond.instanceMethod yX6_goesFirst, Cond.selects RX6 yX6_goesFirst yX6_goesFirst, Cond.code yX6_goesFirst cX6_goesFirst 4 (some .boolean)]
def wsX6_open : List Cond := .code yX6_open cX6_open 4 (some .int) :: ((wsX6_open_r1 ++ (wsX6_open_r2 ++ (wsX6_open_r3 ++ wsX6_open_r4))) ++ wsX60)
def wsX6_trip : List Cond := .code yX6_trip cX6_trip 2 none :: ([.fieldLink RX6 7 "LoadBalancerModel" "at" "[I"] ++ wsX60)
def wsX6_ones : List Cond := .code yX6_ones cX6_ones 3 (some .int) :: ([])
def wsX6_addResult : List Cond := .code yX6_addResult cX6_addResult 4 none :: ([.fieldLink RX6 7 "LoadBalancerModel" "at" "[I", .methodLink RX6 107 yX6_ones, .static yX6_ones, .initialized RX6, .code yX6_ones cX6_ones 3 (some .int), .methodLink RX6 110 yX6_trip, .instanceMethod yX6_trip, .selects RX6 yX6_trip yX6_trip, .code yX6_trip cX6_trip 2 none] ++ wsX60)
def wsX6_wasOpened : List Cond := .code yX6_wasOpened cX6_wasOpened 2 (some .boolean) :: ([.fieldLink RX6 7 "LoadBalancerModel" "at" "[I", .methodLink RX6 27 yX6_in, .static yX6_in, .initialized RX6, .code yX6_in cX6_in 3 (some .boolean)] ++ wsX60)
def wsX6_close : List Cond := .code yX6_close cX6_close 4 (some .int) :: ([.fieldLink RX6 7 "LoadBalancerModel" "at" "[I", .fieldLink RX6 23 "LoadBalancerModel" "thrown" "I", .methodLink RX6 113 yX6_wasOpened, .instanceMethod yX6_wasOpened, .selects RX6 yX6_wasOpened yX6_wasOpened, .initialized RX6, .code yX6_wasOpened cX6_wasOpened 2 (some .boolean), .methodLink RX6 27 yX6_in, .static yX6_in, .code yX6_in cX6_in 3 (some .boolean), .methodLink RX6 116 yX6_addResult, .instanceMethod yX6_addResult, .selects RX6 yX6_addResult yX6_addResult, .code yX6_addResult cX6_addResult 4 none, .methodLink RX6 107 yX6_ones, .static yX6_ones, .code yX6_ones cX6_ones 3 (some .int), .methodLink RX6 110 yX6_trip, .instanceMethod yX6_trip, .selects RX6 yX6_trip yX6_trip, .code yX6_trip cX6_trip 2 none] ++ wsX60)
def wsX6_serverOf : List Cond := .code yX6_serverOf cX6_serverOf 2 (some .int) :: ([.fieldLink RX6 23 "LoadBalancerModel" "thrown" "I", .fieldLink RX6 7 "LoadBalancerModel" "at" "[I", .methodLink RX6 113 yX6_wasOpened, .instanceMethod yX6_wasOpened, .selects RX6 yX6_wasOpened yX6_wasOpened, .initialized RX6, .code yX6_wasOpened cX6_wasOpened 2 (some .boolean), .methodLink RX6 27 yX6_in, .static yX6_in, .code yX6_in cX6_in 3 (some .boolean)] ++ wsX60)
def wsX6_isAvailable : List Cond := .code yX6_isAvailable cX6_isAvailable 2 (some .boolean) :: ([.fieldLink RX6 23 "LoadBalancerModel" "thrown" "I", .methodLink RX6 31 yX6_isServer, .instanceMethod yX6_isServer, .selects RX6 yX6_isServer yX6_isServer, .initialized RX6, .code yX6_isServer cX6_isServer 2 (some .boolean), .fieldLink RX6 7 "LoadBalancerModel" "at" "[I", .methodLink RX6 27 yX6_in, .static yX6_in, .code yX6_in cX6_in 3 (some .boolean), .methodLink RX6 42 yX6_mayTake, .instanceMethod yX6_mayTake, .selects RX6 yX6_mayTake yX6_mayTake, .code yX6_mayTake cX6_mayTake 3 (some .boolean)] ++ wsX60)
def wsX6_effectiveWeight : List Cond := .code yX6_effectiveWeight cX6_effectiveWeight 2 (some .int) :: ([.fieldLink RX6 23 "LoadBalancerModel" "thrown" "I", .methodLink RX6 31 yX6_isServer, .instanceMethod yX6_isServer, .selects RX6 yX6_isServer yX6_isServer, .initialized RX6, .code yX6_isServer cX6_isServer 2 (some .boolean), .fieldLink RX6 7 "LoadBalancerModel" "at" "[I", .methodLink RX6 27 yX6_in, .static yX6_in, .code yX6_in cX6_in 3 (some .boolean), .methodLink RX6 45 yX6_weightNow, .instanceMethod yX6_weightNow, .selects RX6 yX6_weightNow yX6_weightNow, .code yX6_weightNow cX6_weightNow 4 (some .int)] ++ wsX60)
def wsX6_active : List Cond := .code yX6_active cX6_active 2 (some .int) :: ([.fieldLink RX6 23 "LoadBalancerModel" "thrown" "I", .fieldLink RX6 7 "LoadBalancerModel" "at" "[I", .methodLink RX6 31 yX6_isServer, .instanceMethod yX6_isServer, .selects RX6 yX6_isServer yX6_isServer, .initialized RX6, .code yX6_isServer cX6_isServer 2 (some .boolean), .methodLink RX6 27 yX6_in, .static yX6_in, .code yX6_in cX6_in 3 (some .boolean)] ++ wsX60)
def wsX6_utilization : List Cond := .code yX6_utilization cX6_utilization 2 (some .double) :: ([.fieldLink RX6 23 "LoadBalancerModel" "thrown" "I", .fieldLink RX6 7 "LoadBalancerModel" "at" "[I", .methodLink RX6 31 yX6_isServer, .instanceMethod yX6_isServer, .selects RX6 yX6_isServer yX6_isServer, .initialized RX6, .code yX6_isServer cX6_isServer 2 (some .boolean), .methodLink RX6 27 yX6_in, .static yX6_in, .code yX6_in cX6_in 3 (some .boolean)] ++ wsX60)
def wsX6_breaker : List Cond := .code yX6_breaker cX6_breaker 2 (some .int) :: ([.fieldLink RX6 23 "LoadBalancerModel" "thrown" "I", .fieldLink RX6 7 "LoadBalancerModel" "at" "[I", .methodLink RX6 31 yX6_isServer, .instanceMethod yX6_isServer, .selects RX6 yX6_isServer yX6_isServer, .initialized RX6, .code yX6_isServer cX6_isServer 2 (some .boolean), .methodLink RX6 27 yX6_in, .static yX6_in, .code yX6_in cX6_in 3 (some .boolean)] ++ wsX60)
def wsX6_owner : List Cond := .code yX6_owner cX6_owner 2 (some .int) :: ([.fieldLink RX6 7 "LoadBalancerModel" "at" "[I", .fieldLink RX6 23 "LoadBalancerModel" "thrown" "I", .methodLink RX6 73 yX6_byPoints, .instanceMethod yX6_byPoints, .selects RX6 yX6_byPoints yX6_byPoints, .initialized RX6, .code yX6_byPoints cX6_byPoints 12 (some .int), .constantLong RX6 53 (4294967295), .methodLink RX6 55 yX6_placeOf, .static yX6_placeOf, .code yX6_placeOf cX6_placeOf 1 (some .long), .methodLink RX6 50 yX6_mix, .static yX6_mix, .code yX6_mix cX6_mix 2 (some .int), .constant RX6 49 (73244475), .methodLink RX6 42 yX6_mayTake, .instanceMethod yX6_mayTake, .selects RX6 yX6_mayTake yX6_mayTake, .code yX6_mayTake cX6_mayTake 3 (some .boolean)] ++ wsX60)
def wsX6_count : List Cond := .code yX6_count cX6_count 4 (some .int) :: ([.fieldLink RX6 23 "LoadBalancerModel" "thrown" "I", .fieldLink RX6 7 "LoadBalancerModel" "at" "[I", .methodLink RX6 27 yX6_in, .static yX6_in, .initialized RX6, .code yX6_in cX6_in 3 (some .boolean)] ++ wsX60)
def wsX6_save : List Cond := .code yX6_save cX6_save 3 none :: ([.fieldLink RX6 23 "LoadBalancerModel" "thrown" "I", .fieldLink RX6 13 "LoadBalancerModel" "slots" "[I", .fieldLink RX6 7 "LoadBalancerModel" "at" "[I", .fieldLink RX6 16 "LoadBalancerModel" "isSaved" "[Z", .methodLink RX6 27 yX6_in, .static yX6_in, .initialized RX6, .code yX6_in cX6_in 3 (some .boolean)] ++ wsX60)
def wsX6_restore : List Cond := .code yX6_restore cX6_restore 3 none :: ([.fieldLink RX6 16 "LoadBalancerModel" "isSaved" "[Z", .fieldLink RX6 23 "LoadBalancerModel" "thrown" "I", .fieldLink RX6 7 "LoadBalancerModel" "at" "[I", .fieldLink RX6 13 "LoadBalancerModel" "slots" "[I", .methodLink RX6 27 yX6_in, .static yX6_in, .initialized RX6, .code yX6_in cX6_in 3 (some .boolean)] ++ wsX60)
def wsJ9_max_7cf53 : List Cond := .code yJ9_max_7cf53 cJ9_max_7cf53 2 (some .int) :: ([])
def wsL_addServer_r1 : List Cond := [Cond.classLink RL 13 "java/lang/IllegalArgumentException", Cond.classLink RL 15 "java/lang/IllegalStateException", Cond.methodLink RL 7 yX5_addServer, Cond.instanceMethod yX5_addServer, Cond.selects RX5 yX5_addServer yX5_addServer, Cond.initialized RX5, Cond.code yX5_addServer cX5_addServer 3 (some .int), Cond.classLink RX5 28 "java/lang/IllegalStateException", Cond.initialized "java/lang/IllegalStateException", Cond.fieldLink RX5 10 "LoadBalancer" "state" "LLoadBalancer$State;", Cond.fieldLink RX5 24 "LoadBalancer$State" "serverCount" "I", Cond.methodLink RX5 20 yX5_requireRange, Cond.static yX5_requireRange, Cond.code yX5_requireRange cX5_requireRange 3 none, Cond.classLink RX5 182 "java/lang/IllegalArgumentException", Cond.initialized "java/lang/IllegalArgumentException", Cond.methodLink RX5 35 yX4_append, Cond.instanceMethod yX4_append, Cond.selects RX4 yX4_append yX4_append, Cond.initialized RX4, Cond.code yX4_append cX4_append 4 (some .int), Cond.fieldLink RX4 51 "LoadBalancer$State" "serverCount" "I", Cond.fieldLink RX4 11 "LoadBalancer$State" "servers" "[LLoadBalancer$Server;", Cond.methodLink RX4 61 yX3_begin]
def wsL_addServer_r2 : List Cond := [Cond.instanceMethod yX3_begin, Cond.selects RX3 yX3_begin yX3_begin, Cond.initialized RX3, Cond.code yX3_begin cX3_begin 3 none, Cond.fieldLink RX3 18 "LoadBalancer$Server" "weight" "I", Cond.fieldLink RX3 22 "LoadBalancer$Server" "capacity" "I", Cond.fieldLink RX3 25 "LoadBalancer$Server" "load" "I", Cond.fieldLink RX3 28 "LoadBalancer$Server" "credit" "I", Cond.fieldLink RX3 31 "LoadBalancer$Server" "healthy" "Z", Cond.fieldLink RX3 35 "LoadBalancer$Server" "draining" "Z", Cond.fieldLink RX3 38 "LoadBalancer$Server" "streak" "I", Cond.fieldLink RX3 41 "LoadBalancer$Server" "recovered" "Z", Cond.fieldLink RX3 12 "LoadBalancer$Server" "breaker" "LLoadBalancer$Breaker;", Cond.methodLink RX3 44 yX0_shut, Cond.instanceMethod yX0_shut, Cond.selects RX0 yX0_shut yX0_shut, Cond.initialized RX0, Cond.code yX0_shut cX0_shut 1 none, Cond.fieldLink RX0 9 "LoadBalancer$Breaker" "position" "I", Cond.fieldLink RX0 15 "LoadBalancer$Breaker" "resultCount" "I", Cond.fieldLink RX0 18 "LoadBalancer$Breaker" "badBits" "I"]
def wsL_addServer : List Cond := .codeWith yL_addServer cL_addServer 5 (some .int) [(0, 10, 13, 13), (0, 10, 17, 15)] :: ((wsL_addServer_r1 ++ wsL_addServer_r2) ++ wsX50 ++ wsX40 ++ wsX30 ++ wsX00 ++ (vx_atS RX5 32 "java/lang/IllegalStateException" ["java/lang/RuntimeException", "java/lang/Exception"]).filter goodWord ++ (vx_atS RX5 186 "java/lang/IllegalArgumentException" ["java/lang/RuntimeException", "java/lang/Exception"]).filter goodWord)
def wsL_setWeight : List Cond := .codeWith yL_setWeight cL_setWeight 5 (some .int) [(0, 10, 13, 20), (0, 10, 17, 13)] :: ([.classLink RL 20 "java/lang/IndexOutOfBoundsException", .classLink RL 13 "java/lang/IllegalArgumentException", .methodLink RL 17 yX5_setWeight, .instanceMethod yX5_setWeight, .selects RX5 yX5_setWeight yX5_setWeight, .initialized RX5, .code yX5_setWeight cX5_setWeight 5 (some .int), .fieldLink RX5 10 "LoadBalancer" "state" "LLoadBalancer$State;", .fieldLink RX5 43 "LoadBalancer$Server" "weight" "I", .methodLink RX5 39 yX4_serverAt, .instanceMethod yX4_serverAt, .selects RX4 yX4_serverAt yX4_serverAt, .initialized RX4, .code yX4_serverAt cX4_serverAt 2 (some (.object "LoadBalancer$Server")), .classLink RX4 54 "java/lang/IndexOutOfBoundsException", .initialized "java/lang/IndexOutOfBoundsException", .fieldLink RX4 51 "LoadBalancer$State" "serverCount" "I", .fieldLink RX4 11 "LoadBalancer$State" "servers" "[LLoadBalancer$Server;", .methodLink RX5 20 yX5_requireRange, .static yX5_requireRange, .code yX5_requireRange cX5_requireRange 3 none, .classLink RX5 182 "java/lang/IllegalArgumentException", .initialized "java/lang/IllegalArgumentException"] ++ wsX50 ++ wsX30 ++ wsX40 ++ (vx_atS RX4 58 "java/lang/IndexOutOfBoundsException" ["java/lang/RuntimeException", "java/lang/Exception"]).filter goodWord ++ (vx_atS RX5 186 "java/lang/IllegalArgumentException" ["java/lang/RuntimeException", "java/lang/Exception"]).filter goodWord)
def wsL_setDraining : List Cond := .codeWith yL_setDraining cL_setDraining 5 (some .int) [(0, 17, 20, 20)] :: ([.classLink RL 20 "java/lang/IndexOutOfBoundsException", .methodLink RL 22 yX5_setDraining, .instanceMethod yX5_setDraining, .selects RX5 yX5_setDraining yX5_setDraining, .initialized RX5, .code yX5_setDraining cX5_setDraining 5 (some .boolean), .fieldLink RX5 10 "LoadBalancer" "state" "LLoadBalancer$State;", .fieldLink RX5 48 "LoadBalancer$Server" "draining" "Z", .methodLink RX5 39 yX4_serverAt, .instanceMethod yX4_serverAt, .selects RX4 yX4_serverAt yX4_serverAt, .initialized RX4, .code yX4_serverAt cX4_serverAt 2 (some (.object "LoadBalancer$Server")), .classLink RX4 54 "java/lang/IndexOutOfBoundsException", .initialized "java/lang/IndexOutOfBoundsException", .fieldLink RX4 51 "LoadBalancer$State" "serverCount" "I", .fieldLink RX4 11 "LoadBalancer$State" "servers" "[LLoadBalancer$Server;"] ++ wsX50 ++ wsX30 ++ wsX40 ++ (vx_atS RX4 58 "java/lang/IndexOutOfBoundsException" ["java/lang/RuntimeException", "java/lang/Exception"]).filter goodWord)
def wsL_report_r1 : List Cond := [Cond.classLink RL 20 "java/lang/IndexOutOfBoundsException", Cond.methodLink RL 26 yX5_report, Cond.instanceMethod yX5_report, Cond.selects RX5 yX5_report yX5_report, Cond.initialized RX5, Cond.code yX5_report cX5_report 4 (some .boolean), Cond.fieldLink RX5 10 "LoadBalancer" "state" "LLoadBalancer$State;", Cond.fieldLink RX5 52 "LoadBalancer$Server" "healthy" "Z", Cond.fieldLink RX5 55 "LoadBalancer$State" "fall" "I", Cond.fieldLink RX5 62 "LoadBalancer$State" "rise" "I", Cond.fieldLink RX5 65 "LoadBalancer$State" "time" "I", Cond.methodLink RX5 39 yX4_serverAt, Cond.instanceMethod yX4_serverAt, Cond.selects RX4 yX4_serverAt yX4_serverAt, Cond.initialized RX4, Cond.code yX4_serverAt cX4_serverAt 2 (some (.object "LoadBalancer$Server")), Cond.classLink RX4 54 "java/lang/IndexOutOfBoundsException", Cond.initialized "java/lang/IndexOutOfBoundsException", Cond.fieldLink RX4 51 "LoadBalancer$State" "serverCount" "I", Cond.fieldLink RX4 11 "LoadBalancer$State" "servers" "[LLoadBalancer$Server;", Cond.methodLink RX5 58 yX3_checkWhileHealthy, Cond.instanceMethod yX3_checkWhileHealthy, Cond.selects RX3 yX3_checkWhileHealthy yX3_checkWhileHealthy, Cond.initialized RX3]
def wsL_report_r2 : List Cond := [Cond.code yX3_checkWhileHealthy cX3_checkWhileHealthy 3 none, Cond.fieldLink RX3 38 "LoadBalancer$Server" "streak" "I", Cond.fieldLink RX3 31 "LoadBalancer$Server" "healthy" "Z", Cond.methodLink RX5 68 yX3_checkWhileUnhealthy, Cond.instanceMethod yX3_checkWhileUnhealthy, Cond.selects RX3 yX3_checkWhileUnhealthy yX3_checkWhileUnhealthy, Cond.code yX3_checkWhileUnhealthy cX3_checkWhileUnhealthy 4 none, Cond.fieldLink RX3 41 "LoadBalancer$Server" "recovered" "Z", Cond.fieldLink RX3 47 "LoadBalancer$Server" "recoveredAt" "I"]
def wsL_report : List Cond := .codeWith yL_report cL_report 5 (some .int) [(0, 17, 20, 20)] :: ((wsL_report_r1 ++ wsL_report_r2) ++ wsX50 ++ wsX30 ++ wsX40 ++ (vx_atS RX4 58 "java/lang/IndexOutOfBoundsException" ["java/lang/RuntimeException", "java/lang/Exception"]).filter goodWord)
def wsL_setThresholds : List Cond := .codeWith yL_setThresholds cL_setThresholds 4 (some .int) [(0, 6, 9, 13)] :: ([.classLink RL 13 "java/lang/IllegalArgumentException", .methodLink RL 29 yX5_setThresholds, .instanceMethod yX5_setThresholds, .selects RX5 yX5_setThresholds yX5_setThresholds, .initialized RX5, .code yX5_setThresholds cX5_setThresholds 3 none, .fieldLink RX5 10 "LoadBalancer" "state" "LLoadBalancer$State;", .fieldLink RX5 62 "LoadBalancer$State" "rise" "I", .fieldLink RX5 55 "LoadBalancer$State" "fall" "I", .methodLink RX5 20 yX5_requireRange, .static yX5_requireRange, .code yX5_requireRange cX5_requireRange 3 none, .classLink RX5 182 "java/lang/IllegalArgumentException", .initialized "java/lang/IllegalArgumentException"] ++ wsX50 ++ wsX40 ++ (vx_atS RX5 186 "java/lang/IllegalArgumentException" ["java/lang/RuntimeException", "java/lang/Exception"]).filter goodWord)
def wsL_setSlowStart : List Cond := .codeWith yL_setSlowStart cL_setSlowStart 4 (some .int) [(0, 9, 12, 13)] :: ([.classLink RL 13 "java/lang/IllegalArgumentException", .methodLink RL 33 yX5_setSlowStart, .instanceMethod yX5_setSlowStart, .selects RX5 yX5_setSlowStart yX5_setSlowStart, .initialized RX5, .code yX5_setSlowStart cX5_setSlowStart 3 (some .int), .fieldLink RX5 10 "LoadBalancer" "state" "LLoadBalancer$State;", .fieldLink RX5 72 "LoadBalancer$State" "window" "I", .methodLink RX5 20 yX5_requireRange, .static yX5_requireRange, .code yX5_requireRange cX5_requireRange 3 none, .classLink RX5 182 "java/lang/IllegalArgumentException", .initialized "java/lang/IllegalArgumentException"] ++ wsX50 ++ wsX40 ++ (vx_atS RX5 186 "java/lang/IllegalArgumentException" ["java/lang/RuntimeException", "java/lang/Exception"]).filter goodWord)
def wsL_setCool : List Cond := .codeWith yL_setCool cL_setCool 4 (some .int) [(0, 9, 12, 13)] :: ([.classLink RL 13 "java/lang/IllegalArgumentException", .methodLink RL 37 yX5_setCool, .instanceMethod yX5_setCool, .selects RX5 yX5_setCool yX5_setCool, .initialized RX5, .code yX5_setCool cX5_setCool 3 (some .int), .fieldLink RX5 10 "LoadBalancer" "state" "LLoadBalancer$State;", .fieldLink RX5 75 "LoadBalancer$State" "cool" "I", .methodLink RX5 20 yX5_requireRange, .static yX5_requireRange, .code yX5_requireRange cX5_requireRange 3 none, .classLink RX5 182 "java/lang/IllegalArgumentException", .initialized "java/lang/IllegalArgumentException"] ++ wsX50 ++ wsX40 ++ (vx_atS RX5 186 "java/lang/IllegalArgumentException" ["java/lang/RuntimeException", "java/lang/Exception"]).filter goodWord)
def wsL_setSticky : List Cond := .codeWith yL_setSticky cL_setSticky 4 (some .int) [(0, 9, 12, 13)] :: ([.classLink RL 13 "java/lang/IllegalArgumentException", .methodLink RL 40 yX5_setSticky, .instanceMethod yX5_setSticky, .selects RX5 yX5_setSticky yX5_setSticky, .initialized RX5, .code yX5_setSticky cX5_setSticky 3 (some .int), .fieldLink RX5 10 "LoadBalancer" "state" "LLoadBalancer$State;", .fieldLink RX5 78 "LoadBalancer$State" "duration" "I", .fieldLink RX5 81 "LoadBalancer$State" "clients" "LLoadBalancer$Clients;", .methodLink RX5 20 yX5_requireRange, .static yX5_requireRange, .code yX5_requireRange cX5_requireRange 3 none, .classLink RX5 182 "java/lang/IllegalArgumentException", .initialized "java/lang/IllegalArgumentException", .methodLink RX5 85 yX1_forgetAll, .instanceMethod yX1_forgetAll, .selects RX1 yX1_forgetAll yX1_forgetAll, .initialized RX1, .code yX1_forgetAll cX1_forgetAll 1 none, .fieldLink RX1 21 "LoadBalancer$Clients" "size" "I"] ++ wsX50 ++ wsX40 ++ wsX10 ++ (vx_atS RX5 186 "java/lang/IllegalArgumentException" ["java/lang/RuntimeException", "java/lang/Exception"]).filter goodWord)
def wsL_setPolicy : List Cond := .codeWith yL_setPolicy cL_setPolicy 4 (some .int) [(0, 9, 12, 13)] :: ([.classLink RL 13 "java/lang/IllegalArgumentException", .methodLink RL 43 yX5_setPolicy, .instanceMethod yX5_setPolicy, .selects RX5 yX5_setPolicy yX5_setPolicy, .initialized RX5, .code yX5_setPolicy cX5_setPolicy 3 (some .int), .fieldLink RX5 10 "LoadBalancer" "state" "LLoadBalancer$State;", .fieldLink RX5 90 "LoadBalancer$State" "policy" "I", .methodLink RX5 20 yX5_requireRange, .static yX5_requireRange, .code yX5_requireRange cX5_requireRange 3 none, .classLink RX5 182 "java/lang/IllegalArgumentException", .initialized "java/lang/IllegalArgumentException", .methodLink RX5 93 yX4_forgetSelections, .instanceMethod yX4_forgetSelections, .selects RX4 yX4_forgetSelections yX4_forgetSelections, .initialized RX4, .code yX4_forgetSelections cX4_forgetSelections 2 none, .fieldLink RX4 45 "LoadBalancer$State" "lastSelected" "I", .fieldLink RX4 51 "LoadBalancer$State" "serverCount" "I", .fieldLink RX4 11 "LoadBalancer$State" "servers" "[LLoadBalancer$Server;", .fieldLink RX4 65 "LoadBalancer$Server" "credit" "I"] ++ wsX50 ++ wsX40 ++ wsX30 ++ (vx_atS RX5 186 "java/lang/IllegalArgumentException" ["java/lang/RuntimeException", "java/lang/Exception"]).filter goodWord)
def wsL_tick_r1 : List Cond := [Cond.classLink RL 13 "java/lang/IllegalArgumentException", Cond.methodLink RL 46 yX5_tick, Cond.instanceMethod yX5_tick, Cond.selects RX5 yX5_tick yX5_tick, Cond.initialized RX5, Cond.code yX5_tick cX5_tick 2 (some .int), Cond.fieldLink RX5 10 "LoadBalancer" "state" "LLoadBalancer$State;", Cond.fieldLink RX5 65 "LoadBalancer$State" "time" "I", Cond.methodLink RX5 20 yX5_requireRange, Cond.static yX5_requireRange, Cond.code yX5_requireRange cX5_requireRange 3 none, Cond.classLink RX5 182 "java/lang/IllegalArgumentException", Cond.initialized "java/lang/IllegalArgumentException", Cond.methodLink RX5 99 yX4_coolBreakers, Cond.instanceMethod yX4_coolBreakers, Cond.selects RX4 yX4_coolBreakers yX4_coolBreakers, Cond.initialized RX4, Cond.code yX4_coolBreakers cX4_coolBreakers 2 none, Cond.fieldLink RX4 51 "LoadBalancer$State" "serverCount" "I", Cond.fieldLink RX4 11 "LoadBalancer$State" "servers" "[LLoadBalancer$Server;", Cond.fieldLink RX4 68 "LoadBalancer$Server" "breaker" "LLoadBalancer$Breaker;", Cond.fieldLink RX4 72 "LoadBalancer$State" "time" "I", Cond.fieldLink RX4 39 "LoadBalancer$State" "cool" "I", Cond.methodLink RX4 75 yX0_coolDown]
def wsL_tick_r2 : List Cond := [Cond.instanceMethod yX0_coolDown, Cond.selects RX0 yX0_coolDown yX0_coolDown, Cond.initialized RX0, Cond.code yX0_coolDown cX0_coolDown 3 none, Cond.fieldLink RX0 9 "LoadBalancer$Breaker" "position" "I", Cond.fieldLink RX0 21 "LoadBalancer$Breaker" "openSince" "I", Cond.fieldLink RX0 24 "LoadBalancer$Breaker" "trial" "I"]
def wsL_tick : List Cond := .codeWith yL_tick cL_tick 4 (some .int) [(0, 9, 12, 13)] :: ((wsL_tick_r1 ++ wsL_tick_r2) ++ wsX50 ++ wsX40 ++ wsX30 ++ wsX00 ++ (vx_atS RX5 186 "java/lang/IllegalArgumentException" ["java/lang/RuntimeException", "java/lang/Exception"]).filter goodWord)
def wsL_open_r1 : List Cond := [Cond.classLink RL 15 "java/lang/IllegalStateException", Cond.methodLink RL 49 yX5_open, Cond.instanceMethod yX5_open, Cond.selects RX5 yX5_open yX5_open, Cond.initialized RX5, Cond.code yX5_open cX5_open 3 (some .int), Cond.classLink RX5 28 "java/lang/IllegalStateException", Cond.initialized "java/lang/IllegalStateException", Cond.fieldLink RX5 10 "LoadBalancer" "state" "LLoadBalancer$State;", Cond.fieldLink RX5 106 "LoadBalancer$State" "rejections" "I", Cond.methodLink RX5 102 yX4_serverFor, Cond.instanceMethod yX4_serverFor, Cond.selects RX4 yX4_serverFor yX4_serverFor, Cond.initialized RX4, Cond.code yX4_serverFor cX4_serverFor 3 (some .int), Cond.fieldLink RX4 21 "LoadBalancer$State" "connections" "LLoadBalancer$Connections;", Cond.methodLink RX4 102 yX2_isFull, Cond.instanceMethod yX2_isFull, Cond.selects RX2 yX2_isFull yX2_isFull, Cond.initialized RX2, Cond.code yX2_isFull cX2_isFull 1 (some .boolean), Cond.fieldLink RX2 22 "LoadBalancer$Connections" "opened" "I", Cond.methodLink RX4 106 yX4_stickyServer, Cond.instanceMethod yX4_stickyServer]
def wsL_open_r2 : List Cond := [Cond.selects RX4 yX4_stickyServer yX4_stickyServer, Cond.code yX4_stickyServer cX4_stickyServer 4 (some .int), Cond.fieldLink RX4 28 "LoadBalancer$State" "clients" "LLoadBalancer$Clients;", Cond.fieldLink RX4 72 "LoadBalancer$State" "time" "I", Cond.fieldLink RX4 116 "LoadBalancer$Clients" "openedAt" "[I", Cond.fieldLink RX4 120 "LoadBalancer$State" "duration" "I", Cond.fieldLink RX4 123 "LoadBalancer$Clients" "server" "[I", Cond.methodLink RX4 113 yX1_placeOf, Cond.instanceMethod yX1_placeOf, Cond.selects RX1 yX1_placeOf yX1_placeOf, Cond.initialized RX1, Cond.code yX1_placeOf cX1_placeOf 3 (some .int), Cond.fieldLink RX1 21 "LoadBalancer$Clients" "size" "I", Cond.fieldLink RX1 9 "LoadBalancer$Clients" "client" "[I", Cond.methodLink RX4 126 yX4_serverAt, Cond.instanceMethod yX4_serverAt, Cond.selects RX4 yX4_serverAt yX4_serverAt, Cond.code yX4_serverAt cX4_serverAt 2 (some (.object "LoadBalancer$Server")), Cond.classLink RX4 54 "java/lang/IndexOutOfBoundsException", Cond.initialized "java/lang/IndexOutOfBoundsException", Cond.fieldLink RX4 51 "LoadBalancer$State" "serverCount" "I", Cond.fieldLink RX4 11 "LoadBalancer$State" "servers" "[LLoadBalancer$Server;", Cond.methodLink RX4 130 yX3_accepts, Cond.instanceMethod yX3_accepts]
def wsL_open_r3 : List Cond := [Cond.selects RX3 yX3_accepts yX3_accepts, Cond.initialized RX3, Cond.code yX3_accepts cX3_accepts 1 (some .boolean), Cond.fieldLink RX3 31 "LoadBalancer$Server" "healthy" "Z", Cond.fieldLink RX3 35 "LoadBalancer$Server" "draining" "Z", Cond.fieldLink RX3 25 "LoadBalancer$Server" "load" "I", Cond.fieldLink RX3 22 "LoadBalancer$Server" "capacity" "I", Cond.fieldLink RX3 12 "LoadBalancer$Server" "breaker" "LLoadBalancer$Breaker;", Cond.methodLink RX3 50 yX0_letsThrough, Cond.instanceMethod yX0_letsThrough, Cond.selects RX0 yX0_letsThrough yX0_letsThrough, Cond.initialized RX0, Cond.code yX0_letsThrough cX0_letsThrough 1 (some .boolean), Cond.fieldLink RX0 9 "LoadBalancer$Breaker" "position" "I", Cond.fieldLink RX0 24 "LoadBalancer$Breaker" "trial" "I", Cond.methodLink RX4 110 yX4_selectByPolicy, Cond.instanceMethod yX4_selectByPolicy, Cond.selects RX4 yX4_selectByPolicy yX4_selectByPolicy, Cond.code yX4_selectByPolicy cX4_selectByPolicy 2 (some .int), Cond.fieldLink RX4 42 "LoadBalancer$State" "policy" "I", Cond.methodLink RX4 133 yX4_selectNext, Cond.instanceMethod yX4_selectNext, Cond.selects RX4 yX4_selectNext yX4_selectNext, Cond.code yX4_selectNext cX4_selectNext 2 (some .int)]
def wsL_open_r4 : List Cond := [Cond.fieldLink RX4 45 "LoadBalancer$State" "lastSelected" "I", Cond.methodLink RX4 150 yX4_firstAvailableFrom, Cond.instanceMethod yX4_firstAvailableFrom, Cond.selects RX4 yX4_firstAvailableFrom yX4_firstAvailableFrom, Cond.code yX4_firstAvailableFrom cX4_firstAvailableFrom 3 (some .int), Cond.methodLink RX4 137 yX4_selectByCredit, Cond.instanceMethod yX4_selectByCredit, Cond.selects RX4 yX4_selectByCredit yX4_selectByCredit, Cond.code yX4_selectByCredit cX4_selectByCredit 6 (some .int), Cond.fieldLink RX4 65 "LoadBalancer$Server" "credit" "I", Cond.methodLink RX4 153 yX4_weightNow, Cond.instanceMethod yX4_weightNow, Cond.selects RX4 yX4_weightNow yX4_weightNow, Cond.code yX4_weightNow cX4_weightNow 3 (some .int), Cond.fieldLink RX4 83 "LoadBalancer$Server" "recoveredAt" "I", Cond.fieldLink RX4 86 "LoadBalancer$State" "window" "I", Cond.fieldLink RX4 89 "LoadBalancer$Server" "recovered" "Z", Cond.fieldLink RX4 93 "LoadBalancer$Server" "weight" "I", Cond.methodLink RX4 96 Lib.Math.max.name, Cond.static Lib.Math.max.name, Cond.initialized "java/lang/Math", Cond.code Lib.Math.max.name Lib.Math.max.code 2 (some .int), Cond.methodLink RX4 140 yX4_selectLeastLoaded, Cond.instanceMethod yX4_selectLeastLoaded]
def wsL_open_r5 : List Cond := [Cond.selects RX4 yX4_selectLeastLoaded yX4_selectLeastLoaded, Cond.code yX4_selectLeastLoaded cX4_selectLeastLoaded 3 (some .int), Cond.methodLink RX4 157 yX4_isLessLoaded, Cond.instanceMethod yX4_isLessLoaded, Cond.selects RX4 yX4_isLessLoaded yX4_isLessLoaded, Cond.code yX4_isLessLoaded cX4_isLessLoaded 3 (some .boolean), Cond.fieldLink RX4 80 "LoadBalancer$Server" "load" "I", Cond.methodLink RX4 143 yX4_firstOnRing, Cond.instanceMethod yX4_firstOnRing, Cond.selects RX4 yX4_firstOnRing yX4_firstOnRing, Cond.code yX4_firstOnRing cX4_firstOnRing 8 (some .int), Cond.static yX5_mix, Cond.code yX5_mix cX5_mix 1 (some .int), Cond.constant RX5 200 (73244475), Cond.methodLink RX4 164 yX3_ringDistance, Cond.instanceMethod yX3_ringDistance, Cond.selects RX3 yX3_ringDistance yX3_ringDistance, Cond.code yX3_ringDistance cX3_ringDistance 7 (some .int), Cond.fieldLink RX3 18 "LoadBalancer$Server" "weight" "I", Cond.static yX5_isBelowUnsigned, Cond.code yX5_isBelowUnsigned cX5_isBelowUnsigned 2 (some .boolean), Cond.constant RX5 201 (-2147483648), Cond.methodLink RX4 147 yX4_selectOfTwo, Cond.instanceMethod yX4_selectOfTwo]
def wsL_open_r6 : List Cond := [Cond.selects RX4 yX4_selectOfTwo yX4_selectOfTwo, Cond.code yX4_selectOfTwo cX4_selectOfTwo 6 (some .int), Cond.fieldLink RX4 48 "LoadBalancer$State" "seed" "I", Cond.methodLink RX4 171 yX4_availableCount, Cond.instanceMethod yX4_availableCount, Cond.selects RX4 yX4_availableCount yX4_availableCount, Cond.code yX4_availableCount cX4_availableCount 3 (some .int), Cond.static yX5_nextSeed, Cond.code yX5_nextSeed cX5_nextSeed 1 (some .int), Cond.constant RX5 202 (1103515245), Cond.methodLink RX4 177 yX4_availableAt, Cond.instanceMethod yX4_availableAt, Cond.selects RX4 yX4_availableAt yX4_availableAt, Cond.code yX4_availableAt cX4_availableAt 4 (some .int), Cond.methodLink RX5 111 yX4_stickyServer, Cond.methodLink RX5 114 yX4_noteSelection, Cond.instanceMethod yX4_noteSelection, Cond.selects RX4 yX4_noteSelection yX4_noteSelection, Cond.code yX4_noteSelection cX4_noteSelection 2 none, Cond.methodLink RX4 180 yX4_moveCredits, Cond.instanceMethod yX4_moveCredits, Cond.selects RX4 yX4_moveCredits yX4_moveCredits, Cond.code yX4_moveCredits cX4_moveCredits 6 none, Cond.methodLink RX5 118 yX4_connect]
def wsL_open_r7 : List Cond := [Cond.instanceMethod yX4_connect, Cond.selects RX4 yX4_connect yX4_connect, Cond.code yX4_connect cX4_connect 5 (some .int), Cond.fieldLink RX4 68 "LoadBalancer$Server" "breaker" "LLoadBalancer$Breaker;", Cond.methodLink RX4 184 yX2_append, Cond.instanceMethod yX2_append, Cond.selects RX2 yX2_append yX2_append, Cond.code yX2_append cX2_append 4 (some .int), Cond.fieldLink RX2 9 "LoadBalancer$Connections" "server" "[I", Cond.fieldLink RX2 15 "LoadBalancer$Connections" "openedAt" "[I", Cond.fieldLink RX2 18 "LoadBalancer$Connections" "live" "[Z", Cond.methodLink RX4 187 yX0_noteBegin, Cond.instanceMethod yX0_noteBegin, Cond.selects RX0 yX0_noteBegin yX0_noteBegin, Cond.code yX0_noteBegin cX0_noteBegin 2 none, Cond.methodLink RX4 190 yX1_remember, Cond.instanceMethod yX1_remember, Cond.selects RX1 yX1_remember yX1_remember, Cond.code yX1_remember cX1_remember 5 none, Cond.fieldLink RX1 15 "LoadBalancer$Clients" "server" "[I", Cond.fieldLink RX1 18 "LoadBalancer$Clients" "openedAt" "[I", Cond.methodLink RX1 25 yX1_placeOf, Cond.methodLink RX1 29 yX1_newPlace, Cond.instanceMethod yX1_newPlace]
def wsL_open_r8 : List Cond := [Cond.selects RX1 yX1_newPlace yX1_newPlace, Cond.code yX1_newPlace cX1_newPlace 1 (some .int), Cond.methodLink RX1 33 yX1_oldestPlace, Cond.instanceMethod yX1_oldestPlace, Cond.selects RX1 yX1_oldestPlace yX1_oldestPlace, Cond.code yX1_oldestPlace cX1_oldestPlace 3 (some .int), Cond.methodLink RX1 36 yX1_isForgottenBefore, Cond.instanceMethod yX1_isForgottenBefore, Cond.selects RX1 yX1_isForgottenBefore yX1_isForgottenBefore, Cond.code yX1_isForgottenBefore cX1_isForgottenBefore 3 (some .boolean)]
def wsL_open : List Cond := .codeWith yL_open cL_open 4 (some .int) [(0, 9, 12, 15)] :: ((wsL_open_r1 ++ (wsL_open_r2 ++ (wsL_open_r3 ++ (wsL_open_r4 ++ (wsL_open_r5 ++ (wsL_open_r6 ++ (wsL_open_r7 ++ wsL_open_r8))))))) ++ wsX50 ++ wsX40 ++ wsX20 ++ wsX10 ++ wsX30 ++ wsX00 ++ (vx_atS RX5 32 "java/lang/IllegalStateException" ["java/lang/RuntimeException", "java/lang/Exception"]).filter goodWord ++ (vx_atS RX4 58 "java/lang/IndexOutOfBoundsException" ["java/lang/RuntimeException", "java/lang/Exception"]).filter goodWord)
def wsL_close_r1 : List Cond := [Cond.classLink RL 20 "java/lang/IndexOutOfBoundsException", Cond.classLink RL 15 "java/lang/IllegalStateException", Cond.methodLink RL 52 yX5_close, Cond.instanceMethod yX5_close, Cond.selects RX5 yX5_close yX5_close, Cond.initialized RX5, Cond.code yX5_close cX5_close 3 (some .int), Cond.classLink RX5 28 "java/lang/IllegalStateException", Cond.initialized "java/lang/IllegalStateException", Cond.fieldLink RX5 10 "LoadBalancer" "state" "LLoadBalancer$State;", Cond.fieldLink RX5 124 "LoadBalancer$State" "connections" "LLoadBalancer$Connections;", Cond.fieldLink RX5 128 "LoadBalancer$Connections" "live" "[Z", Cond.methodLink RX5 121 yX5_requireConnection, Cond.instanceMethod yX5_requireConnection, Cond.selects RX5 yX5_requireConnection yX5_requireConnection, Cond.code yX5_requireConnection cX5_requireConnection 2 none, Cond.classLink RX5 195 "java/lang/IndexOutOfBoundsException", Cond.initialized "java/lang/IndexOutOfBoundsException", Cond.fieldLink RX5 176 "LoadBalancer$Connections" "opened" "I", Cond.methodLink RX5 136 yX4_disconnect, Cond.instanceMethod yX4_disconnect, Cond.selects RX4 yX4_disconnect yX4_disconnect, Cond.initialized RX4, Cond.code yX4_disconnect cX4_disconnect 4 (some .int)]
def wsL_close_r2 : List Cond := [Cond.fieldLink RX4 21 "LoadBalancer$State" "connections" "LLoadBalancer$Connections;", Cond.fieldLink RX4 194 "LoadBalancer$Connections" "server" "[I", Cond.fieldLink RX4 195 "LoadBalancer$Connections" "live" "[Z", Cond.fieldLink RX4 80 "LoadBalancer$Server" "load" "I", Cond.fieldLink RX4 68 "LoadBalancer$Server" "breaker" "LLoadBalancer$Breaker;", Cond.fieldLink RX4 72 "LoadBalancer$State" "time" "I", Cond.fieldLink RX4 203 "LoadBalancer$Connections" "openedAt" "[I", Cond.methodLink RX4 126 yX4_serverAt, Cond.instanceMethod yX4_serverAt, Cond.selects RX4 yX4_serverAt yX4_serverAt, Cond.code yX4_serverAt cX4_serverAt 2 (some (.object "LoadBalancer$Server")), Cond.classLink RX4 54 "java/lang/IndexOutOfBoundsException", Cond.fieldLink RX4 51 "LoadBalancer$State" "serverCount" "I", Cond.fieldLink RX4 11 "LoadBalancer$State" "servers" "[LLoadBalancer$Server;", Cond.methodLink RX4 199 yX0_noteEnd, Cond.instanceMethod yX0_noteEnd, Cond.selects RX0 yX0_noteEnd yX0_noteEnd, Cond.initialized RX0, Cond.code yX0_noteEnd cX0_noteEnd 4 none, Cond.fieldLink RX0 9 "LoadBalancer$Breaker" "position" "I", Cond.fieldLink RX0 24 "LoadBalancer$Breaker" "trial" "I", Cond.methodLink RX0 27 yX0_addResult, Cond.instanceMethod yX0_addResult, Cond.selects RX0 yX0_addResult yX0_addResult]
def wsL_close_r3 : List Cond := [Cond.code yX0_addResult cX0_addResult 3 none, Cond.fieldLink RX0 18 "LoadBalancer$Breaker" "badBits" "I", Cond.fieldLink RX0 15 "LoadBalancer$Breaker" "resultCount" "I", Cond.methodLink RX0 34 yJ6_bitCount_0f7a4, Cond.static yJ6_bitCount_0f7a4, Cond.initialized RJ6, Cond.code yJ6_bitCount_0f7a4 cJ6_bitCount_0f7a4 1 (some .int), Cond.constant RJ6 265 (1431655765), Cond.constant RJ6 266 (858993459), Cond.constant RJ6 267 (252645135), Cond.methodLink RX0 40 yX0_trip, Cond.instanceMethod yX0_trip, Cond.selects RX0 yX0_trip yX0_trip, Cond.code yX0_trip cX0_trip 2 none, Cond.fieldLink RX0 21 "LoadBalancer$Breaker" "openSince" "I", Cond.methodLink RX0 31 yX0_endTrial, Cond.instanceMethod yX0_endTrial, Cond.selects RX0 yX0_endTrial yX0_endTrial, Cond.code yX0_endTrial cX0_endTrial 3 none, Cond.methodLink RX0 44 yX0_shut, Cond.instanceMethod yX0_shut, Cond.selects RX0 yX0_shut yX0_shut, Cond.code yX0_shut cX0_shut 1 none]
def wsL_close : List Cond := .codeWith yL_close cL_close 5 (some .int) [(0, 10, 13, 20), (0, 10, 17, 15)] :: ((wsL_close_r1 ++ (wsL_close_r2 ++ wsL_close_r3)) ++ wsX50 ++ wsX40 ++ wsX20 ++ wsX30 ++ wsX00 ++ (vx_atS RX5 32 "java/lang/IllegalStateException" ["java/lang/RuntimeException", "java/lang/Exception"]).filter goodWord ++ (vx_atS RX5 199 "java/lang/IndexOutOfBoundsException" ["java/lang/RuntimeException", "java/lang/Exception"]).filter goodWord ++ (vx_atS RX4 58 "java/lang/IndexOutOfBoundsException" ["java/lang/RuntimeException", "java/lang/Exception"]).filter goodWord)
def wsL_serverOf : List Cond := .codeWith yL_serverOf cL_serverOf 4 (some .int) [(0, 9, 12, 20)] :: ([.classLink RL 20 "java/lang/IndexOutOfBoundsException", .methodLink RL 56 yX5_serverOf, .instanceMethod yX5_serverOf, .selects RX5 yX5_serverOf yX5_serverOf, .initialized RX5, .code yX5_serverOf cX5_serverOf 2 (some .int), .fieldLink RX5 10 "LoadBalancer" "state" "LLoadBalancer$State;", .fieldLink RX5 124 "LoadBalancer$State" "connections" "LLoadBalancer$Connections;", .fieldLink RX5 140 "LoadBalancer$Connections" "server" "[I", .methodLink RX5 121 yX5_requireConnection, .instanceMethod yX5_requireConnection, .selects RX5 yX5_requireConnection yX5_requireConnection, .code yX5_requireConnection cX5_requireConnection 2 none, .classLink RX5 195 "java/lang/IndexOutOfBoundsException", .initialized "java/lang/IndexOutOfBoundsException", .fieldLink RX5 176 "LoadBalancer$Connections" "opened" "I"] ++ wsX50 ++ wsX40 ++ wsX20 ++ (vx_atS RX5 199 "java/lang/IndexOutOfBoundsException" ["java/lang/RuntimeException", "java/lang/Exception"]).filter goodWord)
def wsL_isAvailable_r1 : List Cond := [Cond.classLink RL 20 "java/lang/IndexOutOfBoundsException", Cond.methodLink RL 59 yX5_isAvailable, Cond.instanceMethod yX5_isAvailable, Cond.selects RX5 yX5_isAvailable yX5_isAvailable, Cond.initialized RX5, Cond.code yX5_isAvailable cX5_isAvailable 2 (some .boolean), Cond.fieldLink RX5 10 "LoadBalancer" "state" "LLoadBalancer$State;", Cond.methodLink RX5 39 yX4_serverAt, Cond.instanceMethod yX4_serverAt, Cond.selects RX4 yX4_serverAt yX4_serverAt, Cond.initialized RX4, Cond.code yX4_serverAt cX4_serverAt 2 (some (.object "LoadBalancer$Server")), Cond.classLink RX4 54 "java/lang/IndexOutOfBoundsException", Cond.initialized "java/lang/IndexOutOfBoundsException", Cond.fieldLink RX4 51 "LoadBalancer$State" "serverCount" "I", Cond.fieldLink RX4 11 "LoadBalancer$State" "servers" "[LLoadBalancer$Server;", Cond.methodLink RX5 144 yX3_accepts, Cond.instanceMethod yX3_accepts, Cond.selects RX3 yX3_accepts yX3_accepts, Cond.initialized RX3, Cond.code yX3_accepts cX3_accepts 1 (some .boolean), Cond.fieldLink RX3 31 "LoadBalancer$Server" "healthy" "Z", Cond.fieldLink RX3 35 "LoadBalancer$Server" "draining" "Z", Cond.fieldLink RX3 25 "LoadBalancer$Server" "load" "I"]
def wsL_isAvailable_r2 : List Cond := [Cond.fieldLink RX3 22 "LoadBalancer$Server" "capacity" "I", Cond.fieldLink RX3 12 "LoadBalancer$Server" "breaker" "LLoadBalancer$Breaker;", Cond.methodLink RX3 50 yX0_letsThrough, Cond.instanceMethod yX0_letsThrough, Cond.selects RX0 yX0_letsThrough yX0_letsThrough, Cond.initialized RX0, Cond.code yX0_letsThrough cX0_letsThrough 1 (some .boolean), Cond.fieldLink RX0 9 "LoadBalancer$Breaker" "position" "I", Cond.fieldLink RX0 24 "LoadBalancer$Breaker" "trial" "I"]
def wsL_isAvailable : List Cond := .codeWith yL_isAvailable cL_isAvailable 4 (some .int) [(0, 16, 19, 20)] :: ((wsL_isAvailable_r1 ++ wsL_isAvailable_r2) ++ wsX50 ++ wsX40 ++ wsX30 ++ wsX00 ++ (vx_atS RX4 58 "java/lang/IndexOutOfBoundsException" ["java/lang/RuntimeException", "java/lang/Exception"]).filter goodWord)
def wsL_effectiveWeight_r1 : List Cond := [Cond.classLink RL 20 "java/lang/IndexOutOfBoundsException", Cond.methodLink RL 63 yX5_effectiveWeight, Cond.instanceMethod yX5_effectiveWeight, Cond.selects RX5 yX5_effectiveWeight yX5_effectiveWeight, Cond.initialized RX5, Cond.code yX5_effectiveWeight cX5_effectiveWeight 2 (some .int), Cond.fieldLink RX5 10 "LoadBalancer" "state" "LLoadBalancer$State;", Cond.methodLink RX5 39 yX4_serverAt, Cond.instanceMethod yX4_serverAt, Cond.selects RX4 yX4_serverAt yX4_serverAt, Cond.initialized RX4, Cond.code yX4_serverAt cX4_serverAt 2 (some (.object "LoadBalancer$Server")), Cond.classLink RX4 54 "java/lang/IndexOutOfBoundsException", Cond.initialized "java/lang/IndexOutOfBoundsException", Cond.fieldLink RX4 51 "LoadBalancer$State" "serverCount" "I", Cond.fieldLink RX4 11 "LoadBalancer$State" "servers" "[LLoadBalancer$Server;", Cond.methodLink RX5 148 yX4_weightNow, Cond.instanceMethod yX4_weightNow, Cond.selects RX4 yX4_weightNow yX4_weightNow, Cond.code yX4_weightNow cX4_weightNow 3 (some .int), Cond.fieldLink RX4 72 "LoadBalancer$State" "time" "I", Cond.fieldLink RX4 83 "LoadBalancer$Server" "recoveredAt" "I", Cond.fieldLink RX4 86 "LoadBalancer$State" "window" "I", Cond.fieldLink RX4 89 "LoadBalancer$Server" "recovered" "Z"]
def wsL_effectiveWeight_r2 : List Cond := [Cond.fieldLink RX4 93 "LoadBalancer$Server" "weight" "I", Cond.methodLink RX4 96 Lib.Math.max.name, Cond.static Lib.Math.max.name, Cond.initialized "java/lang/Math", Cond.code Lib.Math.max.name Lib.Math.max.code 2 (some .int)]
def wsL_effectiveWeight : List Cond := .codeWith yL_effectiveWeight cL_effectiveWeight 4 (some .int) [(0, 9, 12, 20)] :: ((wsL_effectiveWeight_r1 ++ wsL_effectiveWeight_r2) ++ wsX50 ++ wsX40 ++ wsX30 ++ (vx_atS RX4 58 "java/lang/IndexOutOfBoundsException" ["java/lang/RuntimeException", "java/lang/Exception"]).filter goodWord)
def wsL_active : List Cond := .codeWith yL_active cL_active 4 (some .int) [(0, 9, 12, 20)] :: ([.classLink RL 20 "java/lang/IndexOutOfBoundsException", .methodLink RL 66 yX5_active, .instanceMethod yX5_active, .selects RX5 yX5_active yX5_active, .initialized RX5, .code yX5_active cX5_active 2 (some .int), .fieldLink RX5 10 "LoadBalancer" "state" "LLoadBalancer$State;", .fieldLink RX5 152 "LoadBalancer$Server" "load" "I", .methodLink RX5 39 yX4_serverAt, .instanceMethod yX4_serverAt, .selects RX4 yX4_serverAt yX4_serverAt, .initialized RX4, .code yX4_serverAt cX4_serverAt 2 (some (.object "LoadBalancer$Server")), .classLink RX4 54 "java/lang/IndexOutOfBoundsException", .initialized "java/lang/IndexOutOfBoundsException", .fieldLink RX4 51 "LoadBalancer$State" "serverCount" "I", .fieldLink RX4 11 "LoadBalancer$State" "servers" "[LLoadBalancer$Server;"] ++ wsX50 ++ wsX30 ++ wsX40 ++ (vx_atS RX4 58 "java/lang/IndexOutOfBoundsException" ["java/lang/RuntimeException", "java/lang/Exception"]).filter goodWord)
def wsL_utilization : List Cond := .codeWith yL_utilization cL_utilization 4 (some .int) [(0, 8, 11, 20)] :: ([.classLink RL 20 "java/lang/IndexOutOfBoundsException", .methodLink RL 69 yX5_utilization, .instanceMethod yX5_utilization, .selects RX5 yX5_utilization yX5_utilization, .initialized RX5, .code yX5_utilization cX5_utilization 3 (some .double), .fieldLink RX5 10 "LoadBalancer" "state" "LLoadBalancer$State;", .fieldLink RX5 152 "LoadBalancer$Server" "load" "I", .fieldLink RX5 155 "LoadBalancer$Server" "capacity" "I", .methodLink RX5 39 yX4_serverAt, .instanceMethod yX4_serverAt, .selects RX4 yX4_serverAt yX4_serverAt, .initialized RX4, .code yX4_serverAt cX4_serverAt 2 (some (.object "LoadBalancer$Server")), .classLink RX4 54 "java/lang/IndexOutOfBoundsException", .initialized "java/lang/IndexOutOfBoundsException", .fieldLink RX4 51 "LoadBalancer$State" "serverCount" "I", .fieldLink RX4 11 "LoadBalancer$State" "servers" "[LLoadBalancer$Server;"] ++ wsX50 ++ wsX30 ++ wsX40 ++ (vx_atS RX4 58 "java/lang/IndexOutOfBoundsException" ["java/lang/RuntimeException", "java/lang/Exception"]).filter goodWord)
def wsL_breaker : List Cond := .codeWith yL_breaker cL_breaker 4 (some .int) [(0, 9, 12, 20)] :: ([.classLink RL 20 "java/lang/IndexOutOfBoundsException", .methodLink RL 73 yX5_breaker, .instanceMethod yX5_breaker, .selects RX5 yX5_breaker yX5_breaker, .initialized RX5, .code yX5_breaker cX5_breaker 2 (some .int), .fieldLink RX5 10 "LoadBalancer" "state" "LLoadBalancer$State;", .fieldLink RX5 158 "LoadBalancer$Server" "breaker" "LLoadBalancer$Breaker;", .fieldLink RX5 162 "LoadBalancer$Breaker" "position" "I", .methodLink RX5 39 yX4_serverAt, .instanceMethod yX4_serverAt, .selects RX4 yX4_serverAt yX4_serverAt, .initialized RX4, .code yX4_serverAt cX4_serverAt 2 (some (.object "LoadBalancer$Server")), .classLink RX4 54 "java/lang/IndexOutOfBoundsException", .initialized "java/lang/IndexOutOfBoundsException", .fieldLink RX4 51 "LoadBalancer$State" "serverCount" "I", .fieldLink RX4 11 "LoadBalancer$State" "servers" "[LLoadBalancer$Server;"] ++ wsX50 ++ wsX30 ++ wsX00 ++ wsX40 ++ (vx_atS RX4 58 "java/lang/IndexOutOfBoundsException" ["java/lang/RuntimeException", "java/lang/Exception"]).filter goodWord)
def wsL_owner_r1 : List Cond := [Cond.classLink RL 15 "java/lang/IllegalStateException", Cond.methodLink RL 76 yX5_owner, Cond.instanceMethod yX5_owner, Cond.selects RX5 yX5_owner yX5_owner, Cond.initialized RX5, Cond.code yX5_owner cX5_owner 2 (some .int), Cond.classLink RX5 28 "java/lang/IllegalStateException", Cond.initialized "java/lang/IllegalStateException", Cond.fieldLink RX5 10 "LoadBalancer" "state" "LLoadBalancer$State;", Cond.fieldLink RX5 24 "LoadBalancer$State" "serverCount" "I", Cond.methodLink RX5 169 yX4_firstOnRing, Cond.instanceMethod yX4_firstOnRing, Cond.selects RX4 yX4_firstOnRing yX4_firstOnRing, Cond.initialized RX4, Cond.code yX4_firstOnRing cX4_firstOnRing 8 (some .int), Cond.fieldLink RX4 51 "LoadBalancer$State" "serverCount" "I", Cond.fieldLink RX4 11 "LoadBalancer$State" "servers" "[LLoadBalancer$Server;", Cond.static yX5_mix, Cond.code yX5_mix cX5_mix 1 (some .int), Cond.constant RX5 200 (73244475), Cond.methodLink RX4 130 yX3_accepts, Cond.instanceMethod yX3_accepts, Cond.selects RX3 yX3_accepts yX3_accepts, Cond.initialized RX3]
def wsL_owner_r2 : List Cond := [Cond.code yX3_accepts cX3_accepts 1 (some .boolean), Cond.fieldLink RX3 31 "LoadBalancer$Server" "healthy" "Z", Cond.fieldLink RX3 35 "LoadBalancer$Server" "draining" "Z", Cond.fieldLink RX3 25 "LoadBalancer$Server" "load" "I", Cond.fieldLink RX3 22 "LoadBalancer$Server" "capacity" "I", Cond.fieldLink RX3 12 "LoadBalancer$Server" "breaker" "LLoadBalancer$Breaker;", Cond.methodLink RX3 50 yX0_letsThrough, Cond.instanceMethod yX0_letsThrough, Cond.selects RX0 yX0_letsThrough yX0_letsThrough, Cond.initialized RX0, Cond.code yX0_letsThrough cX0_letsThrough 1 (some .boolean), Cond.fieldLink RX0 9 "LoadBalancer$Breaker" "position" "I", Cond.fieldLink RX0 24 "LoadBalancer$Breaker" "trial" "I", Cond.methodLink RX4 164 yX3_ringDistance, Cond.instanceMethod yX3_ringDistance, Cond.selects RX3 yX3_ringDistance yX3_ringDistance, Cond.code yX3_ringDistance cX3_ringDistance 7 (some .int), Cond.fieldLink RX3 18 "LoadBalancer$Server" "weight" "I", Cond.static yX5_isBelowUnsigned, Cond.code yX5_isBelowUnsigned cX5_isBelowUnsigned 2 (some .boolean), Cond.constant RX5 201 (-2147483648)]
def wsL_owner : List Cond := .codeWith yL_owner cL_owner 4 (some .int) [(0, 9, 12, 15)] :: ((wsL_owner_r1 ++ wsL_owner_r2) ++ wsX50 ++ wsX40 ++ wsX30 ++ wsX00 ++ (vx_atS RX5 32 "java/lang/IllegalStateException" ["java/lang/RuntimeException", "java/lang/Exception"]).filter goodWord)
def wsL_count : List Cond := .codeWith yL_count cL_count 4 (some .int) [(0, 9, 12, 13)] :: ([.classLink RL 13 "java/lang/IllegalArgumentException", .methodLink RL 79 yX5_count, .instanceMethod yX5_count, .selects RX5 yX5_count yX5_count, .initialized RX5, .code yX5_count cX5_count 2 (some .int), .classLink RX5 182 "java/lang/IllegalArgumentException", .initialized "java/lang/IllegalArgumentException", .fieldLink RX5 10 "LoadBalancer" "state" "LLoadBalancer$State;", .fieldLink RX5 65 "LoadBalancer$State" "time" "I", .fieldLink RX5 124 "LoadBalancer$State" "connections" "LLoadBalancer$Connections;", .fieldLink RX5 176 "LoadBalancer$Connections" "opened" "I", .fieldLink RX5 106 "LoadBalancer$State" "rejections" "I", .fieldLink RX5 81 "LoadBalancer$State" "clients" "LLoadBalancer$Clients;", .fieldLink RX5 179 "LoadBalancer$Clients" "size" "I", .methodLink RX5 172 yX4_totalLoad, .instanceMethod yX4_totalLoad, .selects RX4 yX4_totalLoad yX4_totalLoad, .initialized RX4, .code yX4_totalLoad cX4_totalLoad 3 (some .int), .fieldLink RX4 51 "LoadBalancer$State" "serverCount" "I", .fieldLink RX4 11 "LoadBalancer$State" "servers" "[LLoadBalancer$Server;", .fieldLink RX4 80 "LoadBalancer$Server" "load" "I"] ++ wsX50 ++ wsX40 ++ wsX20 ++ wsX10 ++ wsX30 ++ (vx_atS RX5 186 "java/lang/IllegalArgumentException" ["java/lang/RuntimeException", "java/lang/Exception"]).filter goodWord)
def wsL_save_r1 : List Cond := [Cond.classLink RL 13 "java/lang/IllegalArgumentException", Cond.methodLink RL 82 yX5_save, Cond.instanceMethod yX5_save, Cond.selects RX5 yX5_save yX5_save, Cond.initialized RX5, Cond.code yX5_save cX5_save 3 none, Cond.fieldLink RX5 16 "LoadBalancer" "saved" "[LLoadBalancer$State;", Cond.classLink RX5 7 RX4, Cond.instantiable RX4 14, Cond.initialized RX4, Cond.fieldLink RX5 10 "LoadBalancer" "state" "LLoadBalancer$State;", Cond.methodLink RX5 20 yX5_requireRange, Cond.static yX5_requireRange, Cond.code yX5_requireRange cX5_requireRange 3 none, Cond.classLink RX5 182 "java/lang/IllegalArgumentException", Cond.initialized "java/lang/IllegalArgumentException", Cond.methodLink RX5 9 yX4_init, Cond.instanceMethod yX4_init, Cond.code yX4_init cX4_init 2 none, Cond.methodLink RX4 3 objectInit, Cond.instanceMethod objectInit, Cond.code objectInit ⟨#[0xb1]⟩ 1 none, Cond.classLink RX4 9 RX3, Cond.fieldLink RX4 11 "LoadBalancer$State" "servers" "[LLoadBalancer$Server;"]
def wsL_save_r2 : List Cond := [Cond.instantiable RX3 10, Cond.initialized RX3, Cond.classLink RX4 18 RX2, Cond.instantiable RX2 4, Cond.initialized RX2, Cond.fieldLink RX4 21 "LoadBalancer$State" "connections" "LLoadBalancer$Connections;", Cond.classLink RX4 25 RX1, Cond.instantiable RX1 4, Cond.initialized RX1, Cond.fieldLink RX4 28 "LoadBalancer$State" "clients" "LLoadBalancer$Clients;", Cond.fieldLink RX4 32 "LoadBalancer$State" "rise" "I", Cond.fieldLink RX4 36 "LoadBalancer$State" "fall" "I", Cond.fieldLink RX4 39 "LoadBalancer$State" "cool" "I", Cond.fieldLink RX4 42 "LoadBalancer$State" "policy" "I", Cond.fieldLink RX4 45 "LoadBalancer$State" "lastSelected" "I", Cond.fieldLink RX4 48 "LoadBalancer$State" "seed" "I", Cond.methodLink RX4 17 yX3_init, Cond.instanceMethod yX3_init, Cond.code yX3_init cX3_init 1 none, Cond.methodLink RX3 3 objectInit, Cond.classLink RX3 9 RX0, Cond.instantiable RX0 5, Cond.initialized RX0, Cond.fieldLink RX3 12 "LoadBalancer$Server" "breaker" "LLoadBalancer$Breaker;"]
def wsL_save_r3 : List Cond := [Cond.instanceMethod yX0_init, Cond.code yX0_init cX0_init 1 none, Cond.methodLink RX0 3 objectInit, Cond.methodLink RX4 20 yX2_init, Cond.instanceMethod yX2_init, Cond.code yX2_init cX2_init 1 none, Cond.methodLink RX2 3 objectInit, Cond.arrayClass .int, Cond.fieldLink RX2 9 "LoadBalancer$Connections" "server" "[I", Cond.fieldLink RX2 15 "LoadBalancer$Connections" "openedAt" "[I", Cond.arrayClass .boolean, Cond.fieldLink RX2 18 "LoadBalancer$Connections" "live" "[Z", Cond.methodLink RX4 27 yX1_init, Cond.instanceMethod yX1_init, Cond.code yX1_init cX1_init 1 none, Cond.methodLink RX1 3 objectInit, Cond.fieldLink RX1 9 "LoadBalancer$Clients" "client" "[I", Cond.fieldLink RX1 15 "LoadBalancer$Clients" "server" "[I", Cond.fieldLink RX1 18 "LoadBalancer$Clients" "openedAt" "[I", Cond.methodLink RX5 187 yX4_copyFrom, Cond.instanceMethod yX4_copyFrom, Cond.selects RX4 yX4_copyFrom yX4_copyFrom, Cond.code yX4_copyFrom cX4_copyFrom 3 none, Cond.fieldLink RX4 51 "LoadBalancer$State" "serverCount" "I"]
def wsL_save_r4 : List Cond := [Cond.fieldLink RX4 86 "LoadBalancer$State" "window" "I", Cond.fieldLink RX4 120 "LoadBalancer$State" "duration" "I", Cond.fieldLink RX4 72 "LoadBalancer$State" "time" "I", Cond.fieldLink RX4 204 "LoadBalancer$State" "rejections" "I", Cond.methodLink RX4 207 yX3_copyFrom, Cond.instanceMethod yX3_copyFrom, Cond.selects RX3 yX3_copyFrom yX3_copyFrom, Cond.code yX3_copyFrom cX3_copyFrom 2 none, Cond.fieldLink RX3 18 "LoadBalancer$Server" "weight" "I", Cond.fieldLink RX3 22 "LoadBalancer$Server" "capacity" "I", Cond.fieldLink RX3 25 "LoadBalancer$Server" "load" "I", Cond.fieldLink RX3 28 "LoadBalancer$Server" "credit" "I", Cond.fieldLink RX3 31 "LoadBalancer$Server" "healthy" "Z", Cond.fieldLink RX3 35 "LoadBalancer$Server" "draining" "Z", Cond.fieldLink RX3 38 "LoadBalancer$Server" "streak" "I", Cond.fieldLink RX3 41 "LoadBalancer$Server" "recovered" "Z", Cond.fieldLink RX3 47 "LoadBalancer$Server" "recoveredAt" "I", Cond.methodLink RX3 62 yX0_copyFrom, Cond.instanceMethod yX0_copyFrom, Cond.selects RX0 yX0_copyFrom yX0_copyFrom, Cond.code yX0_copyFrom cX0_copyFrom 2 none, Cond.fieldLink RX0 9 "LoadBalancer$Breaker" "position" "I", Cond.fieldLink RX0 21 "LoadBalancer$Breaker" "openSince" "I", Cond.fieldLink RX0 24 "LoadBalancer$Breaker" "trial" "I"]
def wsL_save_r5 : List Cond := [Cond.fieldLink RX0 15 "LoadBalancer$Breaker" "resultCount" "I", Cond.fieldLink RX0 18 "LoadBalancer$Breaker" "badBits" "I", Cond.methodLink RX4 211 yX2_copyFrom, Cond.instanceMethod yX2_copyFrom, Cond.selects RX2 yX2_copyFrom yX2_copyFrom, Cond.code yX2_copyFrom cX2_copyFrom 3 none, Cond.fieldLink RX2 22 "LoadBalancer$Connections" "opened" "I", Cond.methodLink RX2 26 arraycopyName, Cond.native arraycopyName, Cond.static arraycopyName, Cond.initialized "java/lang/System", Cond.methodLink RX4 214 yX1_copyFrom, Cond.instanceMethod yX1_copyFrom, Cond.selects RX1 yX1_copyFrom yX1_copyFrom, Cond.code yX1_copyFrom cX1_copyFrom 2 none, Cond.fieldLink RX1 21 "LoadBalancer$Clients" "size" "I", Cond.methodLink RX1 40 arraycopyName]
def wsL_save : List Cond := .codeWith yL_save cL_save 3 (some .int) [(0, 5, 8, 13)] :: ((wsL_save_r1 ++ (wsL_save_r2 ++ (wsL_save_r3 ++ (wsL_save_r4 ++ wsL_save_r5)))) ++ wsX50 ++ wsX40 ++ wsX30 ++ wsX20 ++ wsX10 ++ wsX00 ++ (vx_atS RX5 186 "java/lang/IllegalArgumentException" ["java/lang/RuntimeException", "java/lang/Exception"]).filter goodWord)
def wsL_restore_r1 : List Cond := [Cond.classLink RL 13 "java/lang/IllegalArgumentException", Cond.classLink RL 15 "java/lang/IllegalStateException", Cond.methodLink RL 86 yX5_restore, Cond.instanceMethod yX5_restore, Cond.selects RX5 yX5_restore yX5_restore, Cond.initialized RX5, Cond.code yX5_restore cX5_restore 3 none, Cond.classLink RX5 28 "java/lang/IllegalStateException", Cond.initialized "java/lang/IllegalStateException", Cond.fieldLink RX5 16 "LoadBalancer" "saved" "[LLoadBalancer$State;", Cond.fieldLink RX5 10 "LoadBalancer" "state" "LLoadBalancer$State;", Cond.methodLink RX5 20 yX5_requireRange, Cond.static yX5_requireRange, Cond.code yX5_requireRange cX5_requireRange 3 none, Cond.classLink RX5 182 "java/lang/IllegalArgumentException", Cond.initialized "java/lang/IllegalArgumentException", Cond.methodLink RX5 187 yX4_copyFrom, Cond.instanceMethod yX4_copyFrom, Cond.selects RX4 yX4_copyFrom yX4_copyFrom, Cond.initialized RX4, Cond.code yX4_copyFrom cX4_copyFrom 3 none, Cond.fieldLink RX4 51 "LoadBalancer$State" "serverCount" "I", Cond.fieldLink RX4 32 "LoadBalancer$State" "rise" "I", Cond.fieldLink RX4 36 "LoadBalancer$State" "fall" "I"]
def wsL_restore_r2 : List Cond := [Cond.fieldLink RX4 86 "LoadBalancer$State" "window" "I", Cond.fieldLink RX4 39 "LoadBalancer$State" "cool" "I", Cond.fieldLink RX4 120 "LoadBalancer$State" "duration" "I", Cond.fieldLink RX4 42 "LoadBalancer$State" "policy" "I", Cond.fieldLink RX4 45 "LoadBalancer$State" "lastSelected" "I", Cond.fieldLink RX4 48 "LoadBalancer$State" "seed" "I", Cond.fieldLink RX4 72 "LoadBalancer$State" "time" "I", Cond.fieldLink RX4 204 "LoadBalancer$State" "rejections" "I", Cond.fieldLink RX4 11 "LoadBalancer$State" "servers" "[LLoadBalancer$Server;", Cond.fieldLink RX4 21 "LoadBalancer$State" "connections" "LLoadBalancer$Connections;", Cond.fieldLink RX4 28 "LoadBalancer$State" "clients" "LLoadBalancer$Clients;", Cond.methodLink RX4 207 yX3_copyFrom, Cond.instanceMethod yX3_copyFrom, Cond.selects RX3 yX3_copyFrom yX3_copyFrom, Cond.initialized RX3, Cond.code yX3_copyFrom cX3_copyFrom 2 none, Cond.fieldLink RX3 18 "LoadBalancer$Server" "weight" "I", Cond.fieldLink RX3 22 "LoadBalancer$Server" "capacity" "I", Cond.fieldLink RX3 25 "LoadBalancer$Server" "load" "I", Cond.fieldLink RX3 28 "LoadBalancer$Server" "credit" "I", Cond.fieldLink RX3 31 "LoadBalancer$Server" "healthy" "Z", Cond.fieldLink RX3 35 "LoadBalancer$Server" "draining" "Z", Cond.fieldLink RX3 38 "LoadBalancer$Server" "streak" "I", Cond.fieldLink RX3 41 "LoadBalancer$Server" "recovered" "Z"]
def wsL_restore_r3 : List Cond := [Cond.fieldLink RX3 47 "LoadBalancer$Server" "recoveredAt" "I", Cond.fieldLink RX3 12 "LoadBalancer$Server" "breaker" "LLoadBalancer$Breaker;", Cond.methodLink RX3 62 yX0_copyFrom, Cond.instanceMethod yX0_copyFrom, Cond.selects RX0 yX0_copyFrom yX0_copyFrom, Cond.initialized RX0, Cond.code yX0_copyFrom cX0_copyFrom 2 none, Cond.fieldLink RX0 9 "LoadBalancer$Breaker" "position" "I", Cond.fieldLink RX0 21 "LoadBalancer$Breaker" "openSince" "I", Cond.fieldLink RX0 24 "LoadBalancer$Breaker" "trial" "I", Cond.fieldLink RX0 15 "LoadBalancer$Breaker" "resultCount" "I", Cond.fieldLink RX0 18 "LoadBalancer$Breaker" "badBits" "I", Cond.methodLink RX4 211 yX2_copyFrom, Cond.instanceMethod yX2_copyFrom, Cond.selects RX2 yX2_copyFrom yX2_copyFrom, Cond.initialized RX2, Cond.code yX2_copyFrom cX2_copyFrom 3 none, Cond.fieldLink RX2 22 "LoadBalancer$Connections" "opened" "I", Cond.fieldLink RX2 9 "LoadBalancer$Connections" "server" "[I", Cond.methodLink RX2 26 arraycopyName, Cond.native arraycopyName, Cond.static arraycopyName, Cond.initialized "java/lang/System", Cond.fieldLink RX2 15 "LoadBalancer$Connections" "openedAt" "[I"]
def wsL_restore_r4 : List Cond := [Cond.fieldLink RX2 18 "LoadBalancer$Connections" "live" "[Z", Cond.methodLink RX4 214 yX1_copyFrom, Cond.instanceMethod yX1_copyFrom, Cond.selects RX1 yX1_copyFrom yX1_copyFrom, Cond.initialized RX1, Cond.code yX1_copyFrom cX1_copyFrom 2 none, Cond.fieldLink RX1 21 "LoadBalancer$Clients" "size" "I", Cond.fieldLink RX1 9 "LoadBalancer$Clients" "client" "[I", Cond.methodLink RX1 40 arraycopyName, Cond.fieldLink RX1 15 "LoadBalancer$Clients" "server" "[I", Cond.fieldLink RX1 18 "LoadBalancer$Clients" "openedAt" "[I"]
def wsL_restore : List Cond := .codeWith yL_restore cL_restore 3 (some .int) [(0, 5, 8, 13), (0, 5, 11, 15)] :: ((wsL_restore_r1 ++ (wsL_restore_r2 ++ (wsL_restore_r3 ++ wsL_restore_r4))) ++ wsX50 ++ wsX40 ++ wsX30 ++ wsX00 ++ wsX20 ++ wsX10 ++ (vx_atS RX5 32 "java/lang/IllegalStateException" ["java/lang/RuntimeException", "java/lang/Exception"]).filter goodWord ++ (vx_atS RX5 186 "java/lang/IllegalArgumentException" ["java/lang/RuntimeException", "java/lang/Exception"]).filter goodWord)
def wsL_law0_r1 : List Cond := [Cond.classLink RL 8 RX5, Cond.instantiable RX5 2, Cond.initialized RX5, Cond.classLink RL 90 RX6, Cond.instantiable RX6 6, Cond.initialized RX6, Cond.arrayClass .long, Cond.arrayClass .double, Cond.methodLink RL 89 yX5_init, Cond.instanceMethod yX5_init, Cond.code yX5_init cX5_init 1 none, Cond.methodLink RX5 1 objectInit, Cond.instanceMethod objectInit, Cond.code objectInit ⟨#[0xb1]⟩ 1 none, Cond.classLink RX5 7 RX4, Cond.instantiable RX4 14, Cond.initialized RX4, Cond.fieldLink RX5 10 "LoadBalancer" "state" "LLoadBalancer$State;", Cond.fieldLink RX5 16 "LoadBalancer" "saved" "[LLoadBalancer$State;", Cond.methodLink RX5 9 yX4_init, Cond.instanceMethod yX4_init, Cond.code yX4_init cX4_init 2 none, Cond.methodLink RX4 3 objectInit, Cond.classLink RX4 9 RX3]
def wsL_law0_r2 : List Cond := [Cond.fieldLink RX4 11 "LoadBalancer$State" "servers" "[LLoadBalancer$Server;", Cond.instantiable RX3 10, Cond.initialized RX3, Cond.classLink RX4 18 RX2, Cond.instantiable RX2 4, Cond.initialized RX2, Cond.fieldLink RX4 21 "LoadBalancer$State" "connections" "LLoadBalancer$Connections;", Cond.classLink RX4 25 RX1, Cond.instantiable RX1 4, Cond.initialized RX1, Cond.fieldLink RX4 28 "LoadBalancer$State" "clients" "LLoadBalancer$Clients;", Cond.fieldLink RX4 32 "LoadBalancer$State" "rise" "I", Cond.fieldLink RX4 36 "LoadBalancer$State" "fall" "I", Cond.fieldLink RX4 39 "LoadBalancer$State" "cool" "I", Cond.fieldLink RX4 42 "LoadBalancer$State" "policy" "I", Cond.fieldLink RX4 45 "LoadBalancer$State" "lastSelected" "I", Cond.fieldLink RX4 48 "LoadBalancer$State" "seed" "I", Cond.methodLink RX4 17 yX3_init, Cond.instanceMethod yX3_init, Cond.code yX3_init cX3_init 1 none, Cond.methodLink RX3 3 objectInit, Cond.classLink RX3 9 RX0, Cond.instantiable RX0 5, Cond.initialized RX0]
def wsL_law0_r3 : List Cond := [Cond.fieldLink RX3 12 "LoadBalancer$Server" "breaker" "LLoadBalancer$Breaker;", Cond.instanceMethod yX0_init, Cond.code yX0_init cX0_init 1 none, Cond.methodLink RX0 3 objectInit, Cond.methodLink RX4 20 yX2_init, Cond.instanceMethod yX2_init, Cond.code yX2_init cX2_init 1 none, Cond.methodLink RX2 3 objectInit, Cond.arrayClass .int, Cond.fieldLink RX2 9 "LoadBalancer$Connections" "server" "[I", Cond.fieldLink RX2 15 "LoadBalancer$Connections" "openedAt" "[I", Cond.arrayClass .boolean, Cond.fieldLink RX2 18 "LoadBalancer$Connections" "live" "[Z", Cond.methodLink RX4 27 yX1_init, Cond.instanceMethod yX1_init, Cond.code yX1_init cX1_init 1 none, Cond.methodLink RX1 3 objectInit, Cond.fieldLink RX1 9 "LoadBalancer$Clients" "client" "[I", Cond.fieldLink RX1 15 "LoadBalancer$Clients" "server" "[I", Cond.fieldLink RX1 18 "LoadBalancer$Clients" "openedAt" "[I", Cond.methodLink RL 92 yX6_init, Cond.instanceMethod yX6_init, Cond.code yX6_init cX6_init 1 none, Cond.methodLink RX6 1 objectInit]
def wsL_law0_r4 : List Cond := [Cond.fieldLink RX6 7 "LoadBalancerModel" "at" "[I", Cond.fieldLink RX6 13 "LoadBalancerModel" "slots" "[I", Cond.fieldLink RX6 16 "LoadBalancerModel" "isSaved" "[Z", Cond.fieldLink RX6 20 "LoadBalancerModel" "row" "[I", Cond.methodLink RL 93 yL_addServer, Cond.static yL_addServer, Cond.initialized RL, Cond.codeWith yL_addServer cL_addServer 5 (some .int) [(0, 10, 13, 13), (0, 10, 17, 15)], Cond.classLink RL 13 "java/lang/IllegalArgumentException", Cond.classLink RL 15 "java/lang/IllegalStateException", Cond.methodLink RL 7 yX5_addServer, Cond.instanceMethod yX5_addServer, Cond.selects RX5 yX5_addServer yX5_addServer, Cond.code yX5_addServer cX5_addServer 3 (some .int), Cond.classLink RX5 28 "java/lang/IllegalStateException", Cond.initialized "java/lang/IllegalStateException", Cond.fieldLink RX5 24 "LoadBalancer$State" "serverCount" "I", Cond.methodLink RX5 20 yX5_requireRange, Cond.static yX5_requireRange, Cond.code yX5_requireRange cX5_requireRange 3 none, Cond.classLink RX5 182 "java/lang/IllegalArgumentException", Cond.initialized "java/lang/IllegalArgumentException", Cond.methodLink RX5 35 yX4_append, Cond.instanceMethod yX4_append]
def wsL_law0_r5 : List Cond := [Cond.selects RX4 yX4_append yX4_append, Cond.code yX4_append cX4_append 4 (some .int), Cond.fieldLink RX4 51 "LoadBalancer$State" "serverCount" "I", Cond.methodLink RX4 61 yX3_begin, Cond.instanceMethod yX3_begin, Cond.selects RX3 yX3_begin yX3_begin, Cond.code yX3_begin cX3_begin 3 none, Cond.fieldLink RX3 18 "LoadBalancer$Server" "weight" "I", Cond.fieldLink RX3 22 "LoadBalancer$Server" "capacity" "I", Cond.fieldLink RX3 25 "LoadBalancer$Server" "load" "I", Cond.fieldLink RX3 28 "LoadBalancer$Server" "credit" "I", Cond.fieldLink RX3 31 "LoadBalancer$Server" "healthy" "Z", Cond.fieldLink RX3 35 "LoadBalancer$Server" "draining" "Z", Cond.fieldLink RX3 38 "LoadBalancer$Server" "streak" "I", Cond.fieldLink RX3 41 "LoadBalancer$Server" "recovered" "Z", Cond.methodLink RX3 44 yX0_shut, Cond.instanceMethod yX0_shut, Cond.selects RX0 yX0_shut yX0_shut, Cond.code yX0_shut cX0_shut 1 none, Cond.fieldLink RX0 9 "LoadBalancer$Breaker" "position" "I", Cond.fieldLink RX0 15 "LoadBalancer$Breaker" "resultCount" "I", Cond.fieldLink RX0 18 "LoadBalancer$Breaker" "badBits" "I", Cond.methodLink RL 98 yX6_addServer, Cond.instanceMethod yX6_addServer]
def wsL_law0_r6 : List Cond := [Cond.selects RX6 yX6_addServer yX6_addServer, Cond.code yX6_addServer cX6_addServer 4 (some .int), Cond.fieldLink RX6 23 "LoadBalancerModel" "thrown" "I", Cond.methodLink RX6 27 yX6_in, Cond.static yX6_in, Cond.code yX6_in cX6_in 3 (some .boolean), Cond.methodLink RL 99 yX6_thrown, Cond.instanceMethod yX6_thrown, Cond.selects RX6 yX6_thrown yX6_thrown, Cond.code yX6_thrown cX6_thrown 1 (some .int), Cond.methodLink RL 103 yL_setWeight, Cond.static yL_setWeight, Cond.codeWith yL_setWeight cL_setWeight 5 (some .int) [(0, 10, 13, 20), (0, 10, 17, 13)], Cond.classLink RL 20 "java/lang/IndexOutOfBoundsException", Cond.methodLink RL 17 yX5_setWeight, Cond.instanceMethod yX5_setWeight, Cond.selects RX5 yX5_setWeight yX5_setWeight, Cond.code yX5_setWeight cX5_setWeight 5 (some .int), Cond.fieldLink RX5 43 "LoadBalancer$Server" "weight" "I", Cond.methodLink RX5 39 yX4_serverAt, Cond.instanceMethod yX4_serverAt, Cond.selects RX4 yX4_serverAt yX4_serverAt, Cond.code yX4_serverAt cX4_serverAt 2 (some (.object "LoadBalancer$Server")), Cond.classLink RX4 54 "java/lang/IndexOutOfBoundsException"]
def wsL_law0_r7 : List Cond := [Cond.initialized "java/lang/IndexOutOfBoundsException", Cond.methodLink RL 105 yX6_setWeight, Cond.instanceMethod yX6_setWeight, Cond.selects RX6 yX6_setWeight yX6_setWeight, Cond.code yX6_setWeight cX6_setWeight 3 (some .int), Cond.methodLink RX6 31 yX6_isServer, Cond.instanceMethod yX6_isServer, Cond.selects RX6 yX6_isServer yX6_isServer, Cond.code yX6_isServer cX6_isServer 2 (some .boolean), Cond.methodLink RX6 35 yX6_put, Cond.instanceMethod yX6_put, Cond.selects RX6 yX6_put yX6_put, Cond.code yX6_put cX6_put 4 (some .int), Cond.methodLink RL 106 yL_setDraining, Cond.static yL_setDraining, Cond.codeWith yL_setDraining cL_setDraining 5 (some .int) [(0, 17, 20, 20)], Cond.methodLink RL 22 yX5_setDraining, Cond.instanceMethod yX5_setDraining, Cond.selects RX5 yX5_setDraining yX5_setDraining, Cond.code yX5_setDraining cX5_setDraining 5 (some .boolean), Cond.fieldLink RX5 48 "LoadBalancer$Server" "draining" "Z", Cond.methodLink RL 109 yX6_setDraining, Cond.instanceMethod yX6_setDraining, Cond.selects RX6 yX6_setDraining yX6_setDraining]
def wsL_law0_r8 : List Cond := [Cond.code yX6_setDraining cX6_setDraining 3 (some .boolean), Cond.methodLink RL 110 yL_report, Cond.static yL_report, Cond.codeWith yL_report cL_report 5 (some .int) [(0, 17, 20, 20)], Cond.methodLink RL 26 yX5_report, Cond.instanceMethod yX5_report, Cond.selects RX5 yX5_report yX5_report, Cond.code yX5_report cX5_report 4 (some .boolean), Cond.fieldLink RX5 52 "LoadBalancer$Server" "healthy" "Z", Cond.fieldLink RX5 55 "LoadBalancer$State" "fall" "I", Cond.fieldLink RX5 62 "LoadBalancer$State" "rise" "I", Cond.fieldLink RX5 65 "LoadBalancer$State" "time" "I", Cond.methodLink RX5 58 yX3_checkWhileHealthy, Cond.instanceMethod yX3_checkWhileHealthy, Cond.selects RX3 yX3_checkWhileHealthy yX3_checkWhileHealthy, Cond.code yX3_checkWhileHealthy cX3_checkWhileHealthy 3 none, Cond.methodLink RX5 68 yX3_checkWhileUnhealthy, Cond.instanceMethod yX3_checkWhileUnhealthy, Cond.selects RX3 yX3_checkWhileUnhealthy yX3_checkWhileUnhealthy, Cond.code yX3_checkWhileUnhealthy cX3_checkWhileUnhealthy 4 none, Cond.fieldLink RX3 47 "LoadBalancer$Server" "recoveredAt" "I", Cond.methodLink RL 112 yX6_report, Cond.instanceMethod yX6_report, Cond.selects RX6 yX6_report yX6_report]
def wsL_law0_r9 : List Cond := [Cond.code yX6_report cX6_report 4 (some .boolean), Cond.methodLink RL 113 yX5_servers, Cond.instanceMethod yX5_servers, Cond.selects RX5 yX5_servers yX5_servers, Cond.code yX5_servers cX5_servers 1 (some .int), Cond.methodLink RL 116 yX6_servers, Cond.instanceMethod yX6_servers, Cond.selects RX6 yX6_servers yX6_servers, Cond.code yX6_servers cX6_servers 1 (some .int), Cond.methodLink RL 117 yL_setThresholds, Cond.static yL_setThresholds, Cond.codeWith yL_setThresholds cL_setThresholds 4 (some .int) [(0, 6, 9, 13)], Cond.methodLink RL 29 yX5_setThresholds, Cond.instanceMethod yX5_setThresholds, Cond.selects RX5 yX5_setThresholds yX5_setThresholds, Cond.code yX5_setThresholds cX5_setThresholds 3 none, Cond.methodLink RL 120 yX6_setThresholds, Cond.instanceMethod yX6_setThresholds, Cond.selects RX6 yX6_setThresholds yX6_setThresholds, Cond.code yX6_setThresholds cX6_setThresholds 3 none, Cond.methodLink RL 121 yL_setSlowStart, Cond.static yL_setSlowStart, Cond.codeWith yL_setSlowStart cL_setSlowStart 4 (some .int) [(0, 9, 12, 13)], Cond.methodLink RL 33 yX5_setSlowStart]
def wsL_law0_r10 : List Cond := [Cond.instanceMethod yX5_setSlowStart, Cond.selects RX5 yX5_setSlowStart yX5_setSlowStart, Cond.code yX5_setSlowStart cX5_setSlowStart 3 (some .int), Cond.fieldLink RX5 72 "LoadBalancer$State" "window" "I", Cond.methodLink RL 124 yX6_setSlowStart, Cond.instanceMethod yX6_setSlowStart, Cond.selects RX6 yX6_setSlowStart yX6_setSlowStart, Cond.code yX6_setSlowStart cX6_setSlowStart 2 (some .int), Cond.methodLink RL 125 yL_setCool, Cond.static yL_setCool, Cond.codeWith yL_setCool cL_setCool 4 (some .int) [(0, 9, 12, 13)], Cond.methodLink RL 37 yX5_setCool, Cond.instanceMethod yX5_setCool, Cond.selects RX5 yX5_setCool yX5_setCool, Cond.code yX5_setCool cX5_setCool 3 (some .int), Cond.fieldLink RX5 75 "LoadBalancer$State" "cool" "I", Cond.methodLink RL 127 yX6_setCool, Cond.instanceMethod yX6_setCool, Cond.selects RX6 yX6_setCool yX6_setCool, Cond.code yX6_setCool cX6_setCool 2 (some .int), Cond.methodLink RL 128 yL_setSticky, Cond.static yL_setSticky, Cond.codeWith yL_setSticky cL_setSticky 4 (some .int) [(0, 9, 12, 13)], Cond.methodLink RL 40 yX5_setSticky]
def wsL_law0_r11 : List Cond := [Cond.instanceMethod yX5_setSticky, Cond.selects RX5 yX5_setSticky yX5_setSticky, Cond.code yX5_setSticky cX5_setSticky 3 (some .int), Cond.fieldLink RX5 78 "LoadBalancer$State" "duration" "I", Cond.fieldLink RX5 81 "LoadBalancer$State" "clients" "LLoadBalancer$Clients;", Cond.methodLink RX5 85 yX1_forgetAll, Cond.instanceMethod yX1_forgetAll, Cond.selects RX1 yX1_forgetAll yX1_forgetAll, Cond.code yX1_forgetAll cX1_forgetAll 1 none, Cond.fieldLink RX1 21 "LoadBalancer$Clients" "size" "I", Cond.methodLink RL 130 yX6_setSticky, Cond.instanceMethod yX6_setSticky, Cond.selects RX6 yX6_setSticky yX6_setSticky, Cond.code yX6_setSticky cX6_setSticky 2 (some .int), Cond.methodLink RL 131 yL_setPolicy, Cond.static yL_setPolicy, Cond.codeWith yL_setPolicy cL_setPolicy 4 (some .int) [(0, 9, 12, 13)], Cond.methodLink RL 43 yX5_setPolicy, Cond.instanceMethod yX5_setPolicy, Cond.selects RX5 yX5_setPolicy yX5_setPolicy, Cond.code yX5_setPolicy cX5_setPolicy 3 (some .int), Cond.fieldLink RX5 90 "LoadBalancer$State" "policy" "I", Cond.methodLink RX5 93 yX4_forgetSelections, Cond.instanceMethod yX4_forgetSelections]
def wsL_law0_r12 : List Cond := [Cond.selects RX4 yX4_forgetSelections yX4_forgetSelections, Cond.code yX4_forgetSelections cX4_forgetSelections 2 none, Cond.fieldLink RX4 65 "LoadBalancer$Server" "credit" "I", Cond.methodLink RL 133 yX6_setPolicy, Cond.instanceMethod yX6_setPolicy, Cond.selects RX6 yX6_setPolicy yX6_setPolicy, Cond.code yX6_setPolicy cX6_setPolicy 3 (some .int), Cond.methodLink RL 134 yX5_setSeed, Cond.instanceMethod yX5_setSeed, Cond.selects RX5 yX5_setSeed yX5_setSeed, Cond.code yX5_setSeed cX5_setSeed 3 (some .int), Cond.fieldLink RX5 96 "LoadBalancer$State" "seed" "I", Cond.methodLink RL 137 yX6_setSeed, Cond.instanceMethod yX6_setSeed, Cond.selects RX6 yX6_setSeed yX6_setSeed, Cond.code yX6_setSeed cX6_setSeed 2 (some .int), Cond.methodLink RL 138 yL_tick, Cond.static yL_tick, Cond.codeWith yL_tick cL_tick 4 (some .int) [(0, 9, 12, 13)], Cond.methodLink RL 46 yX5_tick, Cond.instanceMethod yX5_tick, Cond.selects RX5 yX5_tick yX5_tick, Cond.code yX5_tick cX5_tick 2 (some .int), Cond.methodLink RX5 99 yX4_coolBreakers]
def wsL_law0_r13 : List Cond := [Cond.instanceMethod yX4_coolBreakers, Cond.selects RX4 yX4_coolBreakers yX4_coolBreakers, Cond.code yX4_coolBreakers cX4_coolBreakers 2 none, Cond.fieldLink RX4 68 "LoadBalancer$Server" "breaker" "LLoadBalancer$Breaker;", Cond.fieldLink RX4 72 "LoadBalancer$State" "time" "I", Cond.methodLink RX4 75 yX0_coolDown, Cond.instanceMethod yX0_coolDown, Cond.selects RX0 yX0_coolDown yX0_coolDown, Cond.code yX0_coolDown cX0_coolDown 3 none, Cond.fieldLink RX0 21 "LoadBalancer$Breaker" "openSince" "I", Cond.fieldLink RX0 24 "LoadBalancer$Breaker" "trial" "I", Cond.methodLink RL 140 yX6_tick, Cond.instanceMethod yX6_tick, Cond.selects RX6 yX6_tick yX6_tick, Cond.code yX6_tick cX6_tick 4 (some .int), Cond.methodLink RL 141 yX5_preview, Cond.instanceMethod yX5_preview, Cond.selects RX5 yX5_preview yX5_preview, Cond.code yX5_preview cX5_preview 2 (some .int), Cond.methodLink RX5 102 yX4_serverFor, Cond.instanceMethod yX4_serverFor, Cond.selects RX4 yX4_serverFor yX4_serverFor, Cond.code yX4_serverFor cX4_serverFor 3 (some .int), Cond.methodLink RX4 102 yX2_isFull]
def wsL_law0_r14 : List Cond := [Cond.instanceMethod yX2_isFull, Cond.selects RX2 yX2_isFull yX2_isFull, Cond.code yX2_isFull cX2_isFull 1 (some .boolean), Cond.fieldLink RX2 22 "LoadBalancer$Connections" "opened" "I", Cond.methodLink RX4 106 yX4_stickyServer, Cond.instanceMethod yX4_stickyServer, Cond.selects RX4 yX4_stickyServer yX4_stickyServer, Cond.code yX4_stickyServer cX4_stickyServer 4 (some .int), Cond.fieldLink RX4 116 "LoadBalancer$Clients" "openedAt" "[I", Cond.fieldLink RX4 120 "LoadBalancer$State" "duration" "I", Cond.fieldLink RX4 123 "LoadBalancer$Clients" "server" "[I", Cond.methodLink RX4 113 yX1_placeOf, Cond.instanceMethod yX1_placeOf, Cond.selects RX1 yX1_placeOf yX1_placeOf, Cond.code yX1_placeOf cX1_placeOf 3 (some .int), Cond.methodLink RX4 126 yX4_serverAt, Cond.methodLink RX4 130 yX3_accepts, Cond.instanceMethod yX3_accepts, Cond.selects RX3 yX3_accepts yX3_accepts, Cond.code yX3_accepts cX3_accepts 1 (some .boolean), Cond.methodLink RX3 50 yX0_letsThrough, Cond.instanceMethod yX0_letsThrough, Cond.selects RX0 yX0_letsThrough yX0_letsThrough, Cond.code yX0_letsThrough cX0_letsThrough 1 (some .boolean)]
def wsL_law0_r15 : List Cond := [Cond.methodLink RX4 110 yX4_selectByPolicy, Cond.instanceMethod yX4_selectByPolicy, Cond.selects RX4 yX4_selectByPolicy yX4_selectByPolicy, Cond.code yX4_selectByPolicy cX4_selectByPolicy 2 (some .int), Cond.methodLink RX4 133 yX4_selectNext, Cond.instanceMethod yX4_selectNext, Cond.selects RX4 yX4_selectNext yX4_selectNext, Cond.code yX4_selectNext cX4_selectNext 2 (some .int), Cond.methodLink RX4 150 yX4_firstAvailableFrom, Cond.instanceMethod yX4_firstAvailableFrom, Cond.selects RX4 yX4_firstAvailableFrom yX4_firstAvailableFrom, Cond.code yX4_firstAvailableFrom cX4_firstAvailableFrom 3 (some .int), Cond.methodLink RX4 137 yX4_selectByCredit, Cond.instanceMethod yX4_selectByCredit, Cond.selects RX4 yX4_selectByCredit yX4_selectByCredit, Cond.code yX4_selectByCredit cX4_selectByCredit 6 (some .int), Cond.methodLink RX4 153 yX4_weightNow, Cond.instanceMethod yX4_weightNow, Cond.selects RX4 yX4_weightNow yX4_weightNow, Cond.code yX4_weightNow cX4_weightNow 3 (some .int), Cond.fieldLink RX4 83 "LoadBalancer$Server" "recoveredAt" "I", Cond.fieldLink RX4 86 "LoadBalancer$State" "window" "I", Cond.fieldLink RX4 89 "LoadBalancer$Server" "recovered" "Z", Cond.fieldLink RX4 93 "LoadBalancer$Server" "weight" "I"]
def wsL_law0_r16 : List Cond := [Cond.methodLink RX4 96 Lib.Math.max.name, Cond.static Lib.Math.max.name, Cond.initialized "java/lang/Math", Cond.code Lib.Math.max.name Lib.Math.max.code 2 (some .int), Cond.methodLink RX4 140 yX4_selectLeastLoaded, Cond.instanceMethod yX4_selectLeastLoaded, Cond.selects RX4 yX4_selectLeastLoaded yX4_selectLeastLoaded, Cond.code yX4_selectLeastLoaded cX4_selectLeastLoaded 3 (some .int), Cond.methodLink RX4 157 yX4_isLessLoaded, Cond.instanceMethod yX4_isLessLoaded, Cond.selects RX4 yX4_isLessLoaded yX4_isLessLoaded, Cond.code yX4_isLessLoaded cX4_isLessLoaded 3 (some .boolean), Cond.fieldLink RX4 80 "LoadBalancer$Server" "load" "I", Cond.methodLink RX4 143 yX4_firstOnRing, Cond.instanceMethod yX4_firstOnRing, Cond.selects RX4 yX4_firstOnRing yX4_firstOnRing, Cond.code yX4_firstOnRing cX4_firstOnRing 8 (some .int), Cond.static yX5_mix, Cond.code yX5_mix cX5_mix 1 (some .int), Cond.constant RX5 200 (73244475), Cond.methodLink RX4 164 yX3_ringDistance, Cond.instanceMethod yX3_ringDistance, Cond.selects RX3 yX3_ringDistance yX3_ringDistance, Cond.code yX3_ringDistance cX3_ringDistance 7 (some .int)]
def wsL_law0_r17 : List Cond := [Cond.static yX5_isBelowUnsigned, Cond.code yX5_isBelowUnsigned cX5_isBelowUnsigned 2 (some .boolean), Cond.constant RX5 201 (-2147483648), Cond.methodLink RX4 147 yX4_selectOfTwo, Cond.instanceMethod yX4_selectOfTwo, Cond.selects RX4 yX4_selectOfTwo yX4_selectOfTwo, Cond.code yX4_selectOfTwo cX4_selectOfTwo 6 (some .int), Cond.methodLink RX4 171 yX4_availableCount, Cond.instanceMethod yX4_availableCount, Cond.selects RX4 yX4_availableCount yX4_availableCount, Cond.code yX4_availableCount cX4_availableCount 3 (some .int), Cond.static yX5_nextSeed, Cond.code yX5_nextSeed cX5_nextSeed 1 (some .int), Cond.constant RX5 202 (1103515245), Cond.methodLink RX4 177 yX4_availableAt, Cond.instanceMethod yX4_availableAt, Cond.selects RX4 yX4_availableAt yX4_availableAt, Cond.code yX4_availableAt cX4_availableAt 4 (some .int), Cond.methodLink RL 144 yX6_preview, Cond.instanceMethod yX6_preview, Cond.selects RX6 yX6_preview yX6_preview, Cond.code yX6_preview cX6_preview 2 (some .int), Cond.methodLink RX6 92 yX6_choice, Cond.instanceMethod yX6_choice]
def wsL_law0_r18 : List Cond := [Cond.selects RX6 yX6_choice yX6_choice, Cond.code yX6_choice cX6_choice 3 (some .int), Cond.fieldLink RX6 39 "LoadBalancerModel" "rowMany" "I", Cond.methodLink RX6 83 yX6_layRow, Cond.instanceMethod yX6_layRow, Cond.selects RX6 yX6_layRow yX6_layRow, Cond.code yX6_layRow cX6_layRow 2 none, Cond.methodLink RX6 42 yX6_mayTake, Cond.instanceMethod yX6_mayTake, Cond.selects RX6 yX6_mayTake yX6_mayTake, Cond.code yX6_mayTake cX6_mayTake 3 (some .boolean), Cond.methodLink RX6 86 yX6_stuckTo, Cond.instanceMethod yX6_stuckTo, Cond.selects RX6 yX6_stuckTo yX6_stuckTo, Cond.code yX6_stuckTo cX6_stuckTo 3 (some .int), Cond.methodLink RX6 80 yX6_placeOfClient, Cond.instanceMethod yX6_placeOfClient, Cond.selects RX6 yX6_placeOfClient yX6_placeOfClient, Cond.code yX6_placeOfClient cX6_placeOfClient 3 (some .int), Cond.methodLink RX6 89 yX6_byPolicy, Cond.instanceMethod yX6_byPolicy, Cond.selects RX6 yX6_byPolicy yX6_byPolicy, Cond.code yX6_byPolicy cX6_byPolicy 2 (some .int), Cond.methodLink RX6 63 yX6_nextInTurn]
def wsL_law0_r19 : List Cond := [Cond.instanceMethod yX6_nextInTurn, Cond.selects RX6 yX6_nextInTurn yX6_nextInTurn, Cond.code yX6_nextInTurn cX6_nextInTurn 2 (some .int), Cond.methodLink RX6 67 yX6_mostCredit, Cond.instanceMethod yX6_mostCredit, Cond.selects RX6 yX6_mostCredit yX6_mostCredit, Cond.code yX6_mostCredit cX6_mostCredit 4 (some .int), Cond.methodLink RX6 45 yX6_weightNow, Cond.instanceMethod yX6_weightNow, Cond.selects RX6 yX6_weightNow yX6_weightNow, Cond.code yX6_weightNow cX6_weightNow 4 (some .int), Cond.methodLink RX6 70 yX6_leastBusy, Cond.instanceMethod yX6_leastBusy, Cond.selects RX6 yX6_leastBusy yX6_leastBusy, Cond.code yX6_leastBusy cX6_leastBusy 4 (some .int), Cond.methodLink RX6 73 yX6_byPoints, Cond.instanceMethod yX6_byPoints, Cond.selects RX6 yX6_byPoints yX6_byPoints, Cond.code yX6_byPoints cX6_byPoints 12 (some .int), Cond.constantLong RX6 53 (4294967295), Cond.methodLink RX6 55 yX6_placeOf, Cond.static yX6_placeOf, Cond.code yX6_placeOf cX6_placeOf 1 (some .long), Cond.methodLink RX6 50 yX6_mix]
def wsL_law0_r20 : List Cond := [Cond.static yX6_mix, Cond.code yX6_mix cX6_mix 2 (some .int), Cond.constant RX6 49 (73244475), Cond.methodLink RX6 77 yX6_ofTwo, Cond.instanceMethod yX6_ofTwo, Cond.selects RX6 yX6_ofTwo yX6_ofTwo, Cond.code yX6_ofTwo cX6_ofTwo 5 (some .int), Cond.methodLink RX6 60 yX6_nextSeed, Cond.static yX6_nextSeed, Cond.code yX6_nextSeed cX6_nextSeed 1 (some .int), Cond.constant RX6 59 (1103515245), Cond.methodLink RL 145 yL_open, Cond.static yL_open, Cond.codeWith yL_open cL_open 4 (some .int) [(0, 9, 12, 15)], Cond.methodLink RL 49 yX5_open, Cond.instanceMethod yX5_open, Cond.selects RX5 yX5_open yX5_open, Cond.code yX5_open cX5_open 3 (some .int), Cond.fieldLink RX5 106 "LoadBalancer$State" "rejections" "I", Cond.methodLink RX5 111 yX4_stickyServer, Cond.methodLink RX5 114 yX4_noteSelection, Cond.instanceMethod yX4_noteSelection, Cond.selects RX4 yX4_noteSelection yX4_noteSelection, Cond.code yX4_noteSelection cX4_noteSelection 2 none]
def wsL_law0_r21 : List Cond := [Cond.methodLink RX4 180 yX4_moveCredits, Cond.instanceMethod yX4_moveCredits, Cond.selects RX4 yX4_moveCredits yX4_moveCredits, Cond.code yX4_moveCredits cX4_moveCredits 6 none, Cond.methodLink RX5 118 yX4_connect, Cond.instanceMethod yX4_connect, Cond.selects RX4 yX4_connect yX4_connect, Cond.code yX4_connect cX4_connect 5 (some .int), Cond.methodLink RX4 184 yX2_append, Cond.instanceMethod yX2_append, Cond.selects RX2 yX2_append yX2_append, Cond.code yX2_append cX2_append 4 (some .int), Cond.methodLink RX4 187 yX0_noteBegin, Cond.instanceMethod yX0_noteBegin, Cond.selects RX0 yX0_noteBegin yX0_noteBegin, Cond.code yX0_noteBegin cX0_noteBegin 2 none, Cond.methodLink RX4 190 yX1_remember, Cond.instanceMethod yX1_remember, Cond.selects RX1 yX1_remember yX1_remember, Cond.code yX1_remember cX1_remember 5 none, Cond.methodLink RX1 25 yX1_placeOf, Cond.methodLink RX1 29 yX1_newPlace, Cond.instanceMethod yX1_newPlace, Cond.selects RX1 yX1_newPlace yX1_newPlace]
def wsL_law0_r22 : List Cond := [Cond.code yX1_newPlace cX1_newPlace 1 (some .int), Cond.methodLink RX1 33 yX1_oldestPlace, Cond.instanceMethod yX1_oldestPlace, Cond.selects RX1 yX1_oldestPlace yX1_oldestPlace, Cond.code yX1_oldestPlace cX1_oldestPlace 3 (some .int), Cond.methodLink RX1 36 yX1_isForgottenBefore, Cond.instanceMethod yX1_isForgottenBefore, Cond.selects RX1 yX1_isForgottenBefore yX1_isForgottenBefore, Cond.code yX1_isForgottenBefore cX1_isForgottenBefore 3 (some .boolean), Cond.methodLink RL 147 yX6_open, Cond.instanceMethod yX6_open, Cond.selects RX6 yX6_open yX6_open, Cond.code yX6_open cX6_open 4 (some .int), Cond.methodLink RX6 99 yX6_note, Cond.instanceMethod yX6_note, Cond.selects RX6 yX6_note yX6_note, Cond.code yX6_note cX6_note 4 none, Cond.methodLink RX6 103 yX6_remember, Cond.instanceMethod yX6_remember, Cond.selects RX6 yX6_remember yX6_remember, Cond.code yX6_remember cX6_remember 5 none, Cond.methodLink RX6 95 yX6_goesFirst, Cond.instanceMethod yX6_goesFirst, Cond.selects RX6 yX6_goesFirst yX6_goesFirst]
def wsL_law0_r23 : List Cond := [Cond.code yX6_goesFirst cX6_goesFirst 4 (some .boolean), Cond.methodLink RL 148 yL_close, Cond.static yL_close, Cond.codeWith yL_close cL_close 5 (some .int) [(0, 10, 13, 20), (0, 10, 17, 15)], Cond.methodLink RL 52 yX5_close, Cond.instanceMethod yX5_close, Cond.selects RX5 yX5_close yX5_close, Cond.code yX5_close cX5_close 3 (some .int), Cond.fieldLink RX5 124 "LoadBalancer$State" "connections" "LLoadBalancer$Connections;", Cond.fieldLink RX5 128 "LoadBalancer$Connections" "live" "[Z", Cond.methodLink RX5 121 yX5_requireConnection, Cond.instanceMethod yX5_requireConnection, Cond.selects RX5 yX5_requireConnection yX5_requireConnection, Cond.code yX5_requireConnection cX5_requireConnection 2 none, Cond.classLink RX5 195 "java/lang/IndexOutOfBoundsException", Cond.fieldLink RX5 176 "LoadBalancer$Connections" "opened" "I", Cond.methodLink RX5 136 yX4_disconnect, Cond.instanceMethod yX4_disconnect, Cond.selects RX4 yX4_disconnect yX4_disconnect, Cond.code yX4_disconnect cX4_disconnect 4 (some .int), Cond.fieldLink RX4 194 "LoadBalancer$Connections" "server" "[I", Cond.fieldLink RX4 195 "LoadBalancer$Connections" "live" "[Z", Cond.fieldLink RX4 203 "LoadBalancer$Connections" "openedAt" "[I", Cond.methodLink RX4 199 yX0_noteEnd]
def wsL_law0_r24 : List Cond := [Cond.instanceMethod yX0_noteEnd, Cond.selects RX0 yX0_noteEnd yX0_noteEnd, Cond.code yX0_noteEnd cX0_noteEnd 4 none, Cond.methodLink RX0 27 yX0_addResult, Cond.instanceMethod yX0_addResult, Cond.selects RX0 yX0_addResult yX0_addResult, Cond.code yX0_addResult cX0_addResult 3 none, Cond.methodLink RX0 34 yJ6_bitCount_0f7a4, Cond.static yJ6_bitCount_0f7a4, Cond.initialized RJ6, Cond.code yJ6_bitCount_0f7a4 cJ6_bitCount_0f7a4 1 (some .int), Cond.constant RJ6 265 (1431655765), Cond.constant RJ6 266 (858993459), Cond.constant RJ6 267 (252645135), Cond.methodLink RX0 40 yX0_trip, Cond.instanceMethod yX0_trip, Cond.selects RX0 yX0_trip yX0_trip, Cond.code yX0_trip cX0_trip 2 none, Cond.methodLink RX0 31 yX0_endTrial, Cond.instanceMethod yX0_endTrial, Cond.selects RX0 yX0_endTrial yX0_endTrial, Cond.code yX0_endTrial cX0_endTrial 3 none, Cond.methodLink RX0 44 yX0_shut, Cond.methodLink RL 150 yX6_close]
def wsL_law0_r25 : List Cond := [Cond.instanceMethod yX6_close, Cond.selects RX6 yX6_close yX6_close, Cond.code yX6_close cX6_close 4 (some .int), Cond.methodLink RX6 113 yX6_wasOpened, Cond.instanceMethod yX6_wasOpened, Cond.selects RX6 yX6_wasOpened yX6_wasOpened, Cond.code yX6_wasOpened cX6_wasOpened 2 (some .boolean), Cond.methodLink RX6 116 yX6_addResult, Cond.instanceMethod yX6_addResult, Cond.selects RX6 yX6_addResult yX6_addResult, Cond.code yX6_addResult cX6_addResult 4 none, Cond.methodLink RX6 107 yX6_ones, Cond.static yX6_ones, Cond.code yX6_ones cX6_ones 3 (some .int), Cond.methodLink RX6 110 yX6_trip, Cond.instanceMethod yX6_trip, Cond.selects RX6 yX6_trip yX6_trip, Cond.code yX6_trip cX6_trip 2 none, Cond.methodLink RL 151 yL_serverOf, Cond.static yL_serverOf, Cond.codeWith yL_serverOf cL_serverOf 4 (some .int) [(0, 9, 12, 20)], Cond.methodLink RL 56 yX5_serverOf, Cond.instanceMethod yX5_serverOf, Cond.selects RX5 yX5_serverOf yX5_serverOf]
def wsL_law0_r26 : List Cond := [Cond.code yX5_serverOf cX5_serverOf 2 (some .int), Cond.fieldLink RX5 140 "LoadBalancer$Connections" "server" "[I", Cond.methodLink RL 153 yX6_serverOf, Cond.instanceMethod yX6_serverOf, Cond.selects RX6 yX6_serverOf yX6_serverOf, Cond.code yX6_serverOf cX6_serverOf 2 (some .int), Cond.methodLink RL 154 yL_isAvailable, Cond.static yL_isAvailable, Cond.codeWith yL_isAvailable cL_isAvailable 4 (some .int) [(0, 16, 19, 20)], Cond.methodLink RL 59 yX5_isAvailable, Cond.instanceMethod yX5_isAvailable, Cond.selects RX5 yX5_isAvailable yX5_isAvailable, Cond.code yX5_isAvailable cX5_isAvailable 2 (some .boolean), Cond.methodLink RX5 144 yX3_accepts, Cond.methodLink RL 156 yX6_isAvailable, Cond.instanceMethod yX6_isAvailable, Cond.selects RX6 yX6_isAvailable yX6_isAvailable, Cond.code yX6_isAvailable cX6_isAvailable 2 (some .boolean), Cond.methodLink RL 157 yL_effectiveWeight, Cond.static yL_effectiveWeight, Cond.codeWith yL_effectiveWeight cL_effectiveWeight 4 (some .int) [(0, 9, 12, 20)], Cond.methodLink RL 63 yX5_effectiveWeight, Cond.instanceMethod yX5_effectiveWeight, Cond.selects RX5 yX5_effectiveWeight yX5_effectiveWeight]
def wsL_law0_r27 : List Cond := [Cond.code yX5_effectiveWeight cX5_effectiveWeight 2 (some .int), Cond.methodLink RX5 148 yX4_weightNow, Cond.methodLink RL 159 yX6_effectiveWeight, Cond.instanceMethod yX6_effectiveWeight, Cond.selects RX6 yX6_effectiveWeight yX6_effectiveWeight, Cond.code yX6_effectiveWeight cX6_effectiveWeight 2 (some .int), Cond.methodLink RL 160 yL_active, Cond.static yL_active, Cond.codeWith yL_active cL_active 4 (some .int) [(0, 9, 12, 20)], Cond.methodLink RL 66 yX5_active, Cond.instanceMethod yX5_active, Cond.selects RX5 yX5_active yX5_active, Cond.code yX5_active cX5_active 2 (some .int), Cond.fieldLink RX5 152 "LoadBalancer$Server" "load" "I", Cond.methodLink RL 162 yX6_active, Cond.instanceMethod yX6_active, Cond.selects RX6 yX6_active yX6_active, Cond.code yX6_active cX6_active 2 (some .int), Cond.methodLink RL 163 yL_utilization, Cond.static yL_utilization, Cond.codeWith yL_utilization cL_utilization 4 (some .int) [(0, 8, 11, 20)], Cond.methodLink RL 69 yX5_utilization, Cond.instanceMethod yX5_utilization, Cond.selects RX5 yX5_utilization yX5_utilization]
def wsL_law0_r28 : List Cond := [Cond.code yX5_utilization cX5_utilization 3 (some .double), Cond.fieldLink RX5 155 "LoadBalancer$Server" "capacity" "I", Cond.methodLink RL 166 yX6_utilization, Cond.instanceMethod yX6_utilization, Cond.selects RX6 yX6_utilization yX6_utilization, Cond.code yX6_utilization cX6_utilization 2 (some .double), Cond.methodLink RL 167 yL_breaker, Cond.static yL_breaker, Cond.codeWith yL_breaker cL_breaker 4 (some .int) [(0, 9, 12, 20)], Cond.methodLink RL 73 yX5_breaker, Cond.instanceMethod yX5_breaker, Cond.selects RX5 yX5_breaker yX5_breaker, Cond.code yX5_breaker cX5_breaker 2 (some .int), Cond.fieldLink RX5 158 "LoadBalancer$Server" "breaker" "LLoadBalancer$Breaker;", Cond.fieldLink RX5 162 "LoadBalancer$Breaker" "position" "I", Cond.methodLink RL 169 yX6_breaker, Cond.instanceMethod yX6_breaker, Cond.selects RX6 yX6_breaker yX6_breaker, Cond.code yX6_breaker cX6_breaker 2 (some .int), Cond.methodLink RL 170 yL_owner, Cond.static yL_owner, Cond.codeWith yL_owner cL_owner 4 (some .int) [(0, 9, 12, 15)], Cond.methodLink RL 76 yX5_owner, Cond.instanceMethod yX5_owner]
def wsL_law0_r29 : List Cond := [Cond.selects RX5 yX5_owner yX5_owner, Cond.code yX5_owner cX5_owner 2 (some .int), Cond.methodLink RX5 169 yX4_firstOnRing, Cond.methodLink RL 172 yX6_owner, Cond.instanceMethod yX6_owner, Cond.selects RX6 yX6_owner yX6_owner, Cond.code yX6_owner cX6_owner 2 (some .int), Cond.methodLink RL 173 yL_count, Cond.static yL_count, Cond.codeWith yL_count cL_count 4 (some .int) [(0, 9, 12, 13)], Cond.methodLink RL 79 yX5_count, Cond.instanceMethod yX5_count, Cond.selects RX5 yX5_count yX5_count, Cond.code yX5_count cX5_count 2 (some .int), Cond.fieldLink RX5 179 "LoadBalancer$Clients" "size" "I", Cond.methodLink RX5 172 yX4_totalLoad, Cond.instanceMethod yX4_totalLoad, Cond.selects RX4 yX4_totalLoad yX4_totalLoad, Cond.code yX4_totalLoad cX4_totalLoad 3 (some .int), Cond.methodLink RL 175 yX6_count, Cond.instanceMethod yX6_count, Cond.selects RX6 yX6_count yX6_count, Cond.code yX6_count cX6_count 4 (some .int), Cond.methodLink RL 176 yL_save]
def wsL_law0_r30 : List Cond := [Cond.static yL_save, Cond.codeWith yL_save cL_save 3 (some .int) [(0, 5, 8, 13)], Cond.methodLink RL 82 yX5_save, Cond.instanceMethod yX5_save, Cond.selects RX5 yX5_save yX5_save, Cond.code yX5_save cX5_save 3 none, Cond.methodLink RX5 187 yX4_copyFrom, Cond.instanceMethod yX4_copyFrom, Cond.selects RX4 yX4_copyFrom yX4_copyFrom, Cond.code yX4_copyFrom cX4_copyFrom 3 none, Cond.fieldLink RX4 204 "LoadBalancer$State" "rejections" "I", Cond.methodLink RX4 207 yX3_copyFrom, Cond.instanceMethod yX3_copyFrom, Cond.selects RX3 yX3_copyFrom yX3_copyFrom, Cond.code yX3_copyFrom cX3_copyFrom 2 none, Cond.methodLink RX3 62 yX0_copyFrom, Cond.instanceMethod yX0_copyFrom, Cond.selects RX0 yX0_copyFrom yX0_copyFrom, Cond.code yX0_copyFrom cX0_copyFrom 2 none, Cond.methodLink RX4 211 yX2_copyFrom, Cond.instanceMethod yX2_copyFrom, Cond.selects RX2 yX2_copyFrom yX2_copyFrom, Cond.code yX2_copyFrom cX2_copyFrom 3 none, Cond.methodLink RX2 26 arraycopyName]
def wsL_law0_r31 : List Cond := [Cond.native arraycopyName, Cond.static arraycopyName, Cond.initialized "java/lang/System", Cond.methodLink RX4 214 yX1_copyFrom, Cond.instanceMethod yX1_copyFrom, Cond.selects RX1 yX1_copyFrom yX1_copyFrom, Cond.code yX1_copyFrom cX1_copyFrom 2 none, Cond.methodLink RX1 40 arraycopyName, Cond.methodLink RL 179 yX6_save, Cond.instanceMethod yX6_save, Cond.selects RX6 yX6_save yX6_save, Cond.code yX6_save cX6_save 3 none, Cond.methodLink RL 180 yL_restore, Cond.static yL_restore, Cond.codeWith yL_restore cL_restore 3 (some .int) [(0, 5, 8, 13), (0, 5, 11, 15)], Cond.methodLink RL 86 yX5_restore, Cond.instanceMethod yX5_restore, Cond.selects RX5 yX5_restore yX5_restore, Cond.code yX5_restore cX5_restore 3 none, Cond.methodLink RL 182 yX6_restore, Cond.instanceMethod yX6_restore, Cond.selects RX6 yX6_restore yX6_restore, Cond.code yX6_restore cX6_restore 3 none]
def wsL_law0 : List Cond := (wsL_law0_r1 ++ (wsL_law0_r2 ++ (wsL_law0_r3 ++ (wsL_law0_r4 ++ (wsL_law0_r5 ++ (wsL_law0_r6 ++ (wsL_law0_r7 ++ (wsL_law0_r8 ++ (wsL_law0_r9 ++ (wsL_law0_r10 ++ (wsL_law0_r11 ++ (wsL_law0_r12 ++ (wsL_law0_r13 ++ (wsL_law0_r14 ++ (wsL_law0_r15 ++ (wsL_law0_r16 ++ (wsL_law0_r17 ++ (wsL_law0_r18 ++ (wsL_law0_r19 ++ (wsL_law0_r20 ++ (wsL_law0_r21 ++ (wsL_law0_r22 ++ (wsL_law0_r23 ++ (wsL_law0_r24 ++ (wsL_law0_r25 ++ (wsL_law0_r26 ++ (wsL_law0_r27 ++ (wsL_law0_r28 ++ (wsL_law0_r29 ++ (wsL_law0_r30 ++ wsL_law0_r31)))))))))))))))))))))))))))))) ++ wsX50 ++ wsX60 ++ wsX40 ++ wsX30 ++ wsX20 ++ wsX10 ++ wsX00 ++ ([] : List Cond)
def wsL_law : List Cond := wsL_law0 ++ (vx_atS RX5 32 "java/lang/IllegalStateException" ["java/lang/RuntimeException", "java/lang/Exception"]).filter goodWord ++ (vx_atS RX5 186 "java/lang/IllegalArgumentException" ["java/lang/RuntimeException", "java/lang/Exception"]).filter goodWord ++ (vx_atS RX4 58 "java/lang/IndexOutOfBoundsException" ["java/lang/RuntimeException", "java/lang/Exception"]).filter goodWord ++ (vx_atS RX5 199 "java/lang/IndexOutOfBoundsException" ["java/lang/RuntimeException", "java/lang/Exception"]).filter goodWord
end
section
theorem inJ6 : ∀ w ∈ wsJ60, w ∈ lw_tbl := by decide +kernel
theorem inJ9 : ∀ w ∈ wsJ90, w ∈ lw_tbl := by decide +kernel
theorem inJ0 : ∀ w ∈ wsJ00, w ∈ lw_tbl := by decide +kernel
theorem inJ10 : ∀ w ∈ wsJ100, w ∈ lw_tbl := by decide +kernel
theorem dX0_init_0 : decode cX0_init 0 = .ok (.aload_n 0, 1) := by decide +kernel
theorem dX0_init_1 : decode cX0_init 1 = .ok (.invokespecial 3, 3) := by decide +kernel
theorem dX0_init_4 : decode cX0_init 4 = .ok (.return_, 1) := by decide +kernel
theorem dX0_shut_0 : decode cX0_shut 0 = .ok (.aload_n 0, 1) := by decide +kernel
theorem dX0_shut_1 : decode cX0_shut 1 = .ok (.iconst 0, 1) := by decide +kernel
theorem dX0_shut_2 : decode cX0_shut 2 = .ok (.putfield 9, 3) := by decide +kernel
theorem dX0_shut_5 : decode cX0_shut 5 = .ok (.aload_n 0, 1) := by decide +kernel
theorem dX0_shut_6 : decode cX0_shut 6 = .ok (.iconst 0, 1) := by decide +kernel
theorem dX0_shut_7 : decode cX0_shut 7 = .ok (.putfield 15, 3) := by decide +kernel
theorem dX0_shut_10 : decode cX0_shut 10 = .ok (.aload_n 0, 1) := by decide +kernel
theorem dX0_shut_11 : decode cX0_shut 11 = .ok (.iconst 0, 1) := by decide +kernel
theorem dX0_shut_12 : decode cX0_shut 12 = .ok (.putfield 18, 3) := by decide +kernel
theorem dX0_shut_15 : decode cX0_shut 15 = .ok (.return_, 1) := by decide +kernel
theorem dX0_trip_0 : decode cX0_trip 0 = .ok (.aload_n 0, 1) := by decide +kernel
theorem dX0_trip_1 : decode cX0_trip 1 = .ok (.iconst 1, 1) := by decide +kernel
theorem dX0_trip_2 : decode cX0_trip 2 = .ok (.putfield 9, 3) := by decide +kernel
theorem dX0_trip_5 : decode cX0_trip 5 = .ok (.aload_n 0, 1) := by decide +kernel
theorem dX0_trip_6 : decode cX0_trip 6 = .ok (.iload_n 1, 1) := by decide +kernel
theorem dX0_trip_7 : decode cX0_trip 7 = .ok (.putfield 21, 3) := by decide +kernel
theorem dX0_trip_10 : decode cX0_trip 10 = .ok (.return_, 1) := by decide +kernel
theorem dX0_coolDown_0 : decode cX0_coolDown 0 = .ok (.aload_n 0, 1) := by decide +kernel
theorem dX0_coolDown_1 : decode cX0_coolDown 1 = .ok (.getfield 9, 3) := by decide +kernel
theorem dX0_coolDown_4 : decode cX0_coolDown 4 = .ok (.iconst 1, 1) := by decide +kernel
theorem dX0_coolDown_5 : decode cX0_coolDown 5 = .ok (.if_icmp .ne 23, 3) := by decide +kernel
theorem dX0_coolDown_8 : decode cX0_coolDown 8 = .ok (.iload_n 1, 1) := by decide +kernel
theorem dX0_coolDown_9 : decode cX0_coolDown 9 = .ok (.aload_n 0, 1) := by decide +kernel
theorem dX0_coolDown_10 : decode cX0_coolDown 10 = .ok (.getfield 21, 3) := by decide +kernel
theorem dX0_coolDown_13 : decode cX0_coolDown 13 = .ok (.isub, 1) := by decide +kernel
theorem dX0_coolDown_14 : decode cX0_coolDown 14 = .ok (.iload_n 2, 1) := by decide +kernel
theorem dX0_coolDown_15 : decode cX0_coolDown 15 = .ok (.if_icmp .lt 13, 3) := by decide +kernel
theorem dX0_coolDown_18 : decode cX0_coolDown 18 = .ok (.aload_n 0, 1) := by decide +kernel
theorem dX0_coolDown_19 : decode cX0_coolDown 19 = .ok (.iconst 2, 1) := by decide +kernel
theorem dX0_coolDown_20 : decode cX0_coolDown 20 = .ok (.putfield 9, 3) := by decide +kernel
theorem dX0_coolDown_23 : decode cX0_coolDown 23 = .ok (.aload_n 0, 1) := by decide +kernel
theorem dX0_coolDown_24 : decode cX0_coolDown 24 = .ok (.iconst (-1), 1) := by decide +kernel
theorem dX0_coolDown_25 : decode cX0_coolDown 25 = .ok (.putfield 24, 3) := by decide +kernel
theorem dX0_coolDown_28 : decode cX0_coolDown 28 = .ok (.return_, 1) := by decide +kernel
theorem dX0_letsThrough_0 : decode cX0_letsThrough 0 = .ok (.aload_n 0, 1) := by decide +kernel
theorem dX0_letsThrough_1 : decode cX0_letsThrough 1 = .ok (.getfield 9, 3) := by decide +kernel
theorem dX0_letsThrough_4 : decode cX0_letsThrough 4 = .ok (.ifCond .eq 19, 3) := by decide +kernel
theorem dX0_letsThrough_7 : decode cX0_letsThrough 7 = .ok (.aload_n 0, 1) := by decide +kernel
theorem dX0_letsThrough_8 : decode cX0_letsThrough 8 = .ok (.getfield 9, 3) := by decide +kernel
theorem dX0_letsThrough_11 : decode cX0_letsThrough 11 = .ok (.iconst 2, 1) := by decide +kernel
theorem dX0_letsThrough_12 : decode cX0_letsThrough 12 = .ok (.if_icmp .ne 15, 3) := by decide +kernel
theorem dX0_letsThrough_15 : decode cX0_letsThrough 15 = .ok (.aload_n 0, 1) := by decide +kernel
theorem dX0_letsThrough_16 : decode cX0_letsThrough 16 = .ok (.getfield 24, 3) := by decide +kernel
theorem dX0_letsThrough_19 : decode cX0_letsThrough 19 = .ok (.iconst (-1), 1) := by decide +kernel
theorem dX0_letsThrough_20 : decode cX0_letsThrough 20 = .ok (.if_icmp .ne 7, 3) := by decide +kernel
theorem dX0_letsThrough_23 : decode cX0_letsThrough 23 = .ok (.iconst 1, 1) := by decide +kernel
theorem dX0_letsThrough_24 : decode cX0_letsThrough 24 = .ok (.goto 4, 3) := by decide +kernel
theorem dX0_letsThrough_27 : decode cX0_letsThrough 27 = .ok (.iconst 0, 1) := by decide +kernel
theorem dX0_letsThrough_28 : decode cX0_letsThrough 28 = .ok (.ireturn, 1) := by decide +kernel
theorem dX0_noteBegin_0 : decode cX0_noteBegin 0 = .ok (.aload_n 0, 1) := by decide +kernel
theorem dX0_noteBegin_1 : decode cX0_noteBegin 1 = .ok (.getfield 9, 3) := by decide +kernel
theorem dX0_noteBegin_4 : decode cX0_noteBegin 4 = .ok (.iconst 2, 1) := by decide +kernel
theorem dX0_noteBegin_5 : decode cX0_noteBegin 5 = .ok (.if_icmp .ne 8, 3) := by decide +kernel
theorem dX0_noteBegin_8 : decode cX0_noteBegin 8 = .ok (.aload_n 0, 1) := by decide +kernel
theorem dX0_noteBegin_9 : decode cX0_noteBegin 9 = .ok (.iload_n 1, 1) := by decide +kernel
theorem dX0_noteBegin_10 : decode cX0_noteBegin 10 = .ok (.putfield 24, 3) := by decide +kernel
theorem dX0_noteBegin_13 : decode cX0_noteBegin 13 = .ok (.return_, 1) := by decide +kernel
set_option maxRecDepth 20000 in
theorem ggX0_noteEnd_X0_addResult : GoodIn wsX0_noteEnd wsX0_addResult := goodIn_r _ [7, 8, 9, 10, 11, 12, 13, 14, 15, 16, 17, 18, 19, 6, 20, 1, 21, 30, 31, 32, 33, 34] (by decide +kernel) (by decide +kernel)
set_option maxRecDepth 20000 in
theorem gX0_noteEnd_X0_addResult : GoodIn wsX0_noteEnd (wsV RX0 27 RX0 yX0_addResult wsX0_addResult) := goodIn_app (goodIn_of _ (by decide +kernel)) ggX0_noteEnd_X0_addResult
set_option maxRecDepth 20000 in
theorem ggX0_noteEnd_X0_endTrial : GoodIn wsX0_noteEnd wsX0_endTrial := goodIn_r _ [25, 26, 27, 28, 6, 29, 1, 9, 8, 17, 18, 19, 20, 21, 30, 31, 32, 33, 34] (by decide +kernel) (by decide +kernel)
set_option maxRecDepth 20000 in
theorem gX0_noteEnd_X0_endTrial : GoodIn wsX0_noteEnd (wsV RX0 31 RX0 yX0_endTrial wsX0_endTrial) := goodIn_app (goodIn_of _ (by decide +kernel)) ggX0_noteEnd_X0_endTrial
theorem dX0_noteEnd_0 : decode cX0_noteEnd 0 = .ok (.aload_n 0, 1) := by decide +kernel
theorem dX0_noteEnd_1 : decode cX0_noteEnd 1 = .ok (.getfield 9, 3) := by decide +kernel
theorem dX0_noteEnd_4 : decode cX0_noteEnd 4 = .ok (.ifCond .ne 12, 3) := by decide +kernel
theorem dX0_noteEnd_7 : decode cX0_noteEnd 7 = .ok (.aload_n 0, 1) := by decide +kernel
theorem dX0_noteEnd_8 : decode cX0_noteEnd 8 = .ok (.iload_n 2, 1) := by decide +kernel
theorem dX0_noteEnd_9 : decode cX0_noteEnd 9 = .ok (.iload_n 3, 1) := by decide +kernel
theorem dX0_noteEnd_10 : decode cX0_noteEnd 10 = .ok (.invokevirtual 27, 3) := by decide +kernel
theorem dX0_noteEnd_13 : decode cX0_noteEnd 13 = .ok (.goto 25, 3) := by decide +kernel
theorem dX0_noteEnd_16 : decode cX0_noteEnd 16 = .ok (.aload_n 0, 1) := by decide +kernel
theorem dX0_noteEnd_17 : decode cX0_noteEnd 17 = .ok (.getfield 9, 3) := by decide +kernel
theorem dX0_noteEnd_20 : decode cX0_noteEnd 20 = .ok (.iconst 2, 1) := by decide +kernel
theorem dX0_noteEnd_21 : decode cX0_noteEnd 21 = .ok (.if_icmp .ne 17, 3) := by decide +kernel
theorem dX0_noteEnd_24 : decode cX0_noteEnd 24 = .ok (.aload_n 0, 1) := by decide +kernel
theorem dX0_noteEnd_25 : decode cX0_noteEnd 25 = .ok (.getfield 24, 3) := by decide +kernel
theorem dX0_noteEnd_28 : decode cX0_noteEnd 28 = .ok (.iload_n 1, 1) := by decide +kernel
theorem dX0_noteEnd_29 : decode cX0_noteEnd 29 = .ok (.if_icmp .ne 9, 3) := by decide +kernel
theorem dX0_noteEnd_32 : decode cX0_noteEnd 32 = .ok (.aload_n 0, 1) := by decide +kernel
theorem dX0_noteEnd_33 : decode cX0_noteEnd 33 = .ok (.iload_n 2, 1) := by decide +kernel
theorem dX0_noteEnd_34 : decode cX0_noteEnd 34 = .ok (.iload_n 3, 1) := by decide +kernel
theorem dX0_noteEnd_35 : decode cX0_noteEnd 35 = .ok (.invokevirtual 31, 3) := by decide +kernel
theorem dX0_noteEnd_38 : decode cX0_noteEnd 38 = .ok (.return_, 1) := by decide +kernel
set_option maxRecDepth 20000 in
theorem ggX0_addResult_J6_bitCount_0f7a4 : GoodIn wsX0_addResult wsJ6_bitCount_0f7a4 := goodIn_r _ [6, 7, 8, 9] (by decide +kernel) (by decide +kernel)
set_option maxRecDepth 20000 in
theorem gX0_addResult_J6_bitCount_0f7a4 : GoodIn wsX0_addResult (va_wsS RX0 34 yJ6_bitCount_0f7a4 wsJ6_bitCount_0f7a4) := goodIn_app (goodIn_of _ (by decide +kernel)) ggX0_addResult_J6_bitCount_0f7a4
set_option maxRecDepth 20000 in
theorem ggX0_addResult_X0_trip : GoodIn wsX0_addResult wsX0_trip := goodIn_r _ [14, 15, 16, 17, 18, 19, 20, 21] (by decide +kernel) (by decide +kernel)
set_option maxRecDepth 20000 in
theorem gX0_addResult_X0_trip : GoodIn wsX0_addResult (wsV RX0 40 RX0 yX0_trip wsX0_trip) := goodIn_app (goodIn_of _ (by decide +kernel)) ggX0_addResult_X0_trip
theorem dX0_addResult_0 : decode cX0_addResult 0 = .ok (.aload_n 0, 1) := by decide +kernel
theorem dX0_addResult_1 : decode cX0_addResult 1 = .ok (.aload_n 0, 1) := by decide +kernel
theorem dX0_addResult_2 : decode cX0_addResult 2 = .ok (.getfield 18, 3) := by decide +kernel
theorem dX0_addResult_5 : decode cX0_addResult 5 = .ok (.iconst 1, 1) := by decide +kernel
theorem dX0_addResult_6 : decode cX0_addResult 6 = .ok (.ishl, 1) := by decide +kernel
theorem dX0_addResult_7 : decode cX0_addResult 7 = .ok (.iload_n 1, 1) := by decide +kernel
theorem dX0_addResult_8 : decode cX0_addResult 8 = .ok (.ifCond .eq 7, 3) := by decide +kernel
theorem dX0_addResult_11 : decode cX0_addResult 11 = .ok (.iconst 0, 1) := by decide +kernel
theorem dX0_addResult_12 : decode cX0_addResult 12 = .ok (.goto 4, 3) := by decide +kernel
theorem dX0_addResult_15 : decode cX0_addResult 15 = .ok (.iconst 1, 1) := by decide +kernel
theorem dX0_addResult_16 : decode cX0_addResult 16 = .ok (.ior, 1) := by decide +kernel
theorem dX0_addResult_17 : decode cX0_addResult 17 = .ok (.sipush 255, 3) := by decide +kernel
theorem dX0_addResult_20 : decode cX0_addResult 20 = .ok (.iand, 1) := by decide +kernel
theorem dX0_addResult_21 : decode cX0_addResult 21 = .ok (.putfield 18, 3) := by decide +kernel
theorem dX0_addResult_24 : decode cX0_addResult 24 = .ok (.aload_n 0, 1) := by decide +kernel
theorem dX0_addResult_25 : decode cX0_addResult 25 = .ok (.getfield 15, 3) := by decide +kernel
theorem dX0_addResult_28 : decode cX0_addResult 28 = .ok (.bipush 8, 2) := by decide +kernel
theorem dX0_addResult_30 : decode cX0_addResult 30 = .ok (.if_icmp .ge 13, 3) := by decide +kernel
theorem dX0_addResult_33 : decode cX0_addResult 33 = .ok (.aload_n 0, 1) := by decide +kernel
theorem dX0_addResult_34 : decode cX0_addResult 34 = .ok (.dup, 1) := by decide +kernel
theorem dX0_addResult_35 : decode cX0_addResult 35 = .ok (.getfield 15, 3) := by decide +kernel
theorem dX0_addResult_38 : decode cX0_addResult 38 = .ok (.iconst 1, 1) := by decide +kernel
theorem dX0_addResult_39 : decode cX0_addResult 39 = .ok (.iadd, 1) := by decide +kernel
theorem dX0_addResult_40 : decode cX0_addResult 40 = .ok (.putfield 15, 3) := by decide +kernel
theorem dX0_addResult_43 : decode cX0_addResult 43 = .ok (.aload_n 0, 1) := by decide +kernel
theorem dX0_addResult_44 : decode cX0_addResult 44 = .ok (.getfield 15, 3) := by decide +kernel
theorem dX0_addResult_47 : decode cX0_addResult 47 = .ok (.iconst 4, 1) := by decide +kernel
theorem dX0_addResult_48 : decode cX0_addResult 48 = .ok (.if_icmp .lt 24, 3) := by decide +kernel
theorem dX0_addResult_51 : decode cX0_addResult 51 = .ok (.iconst 2, 1) := by decide +kernel
theorem dX0_addResult_52 : decode cX0_addResult 52 = .ok (.aload_n 0, 1) := by decide +kernel
theorem dX0_addResult_53 : decode cX0_addResult 53 = .ok (.getfield 18, 3) := by decide +kernel
theorem dX0_addResult_56 : decode cX0_addResult 56 = .ok (.invokestatic 34, 3) := by decide +kernel
theorem dX0_addResult_59 : decode cX0_addResult 59 = .ok (.imul, 1) := by decide +kernel
theorem dX0_addResult_60 : decode cX0_addResult 60 = .ok (.aload_n 0, 1) := by decide +kernel
theorem dX0_addResult_61 : decode cX0_addResult 61 = .ok (.getfield 15, 3) := by decide +kernel
theorem dX0_addResult_64 : decode cX0_addResult 64 = .ok (.if_icmp .lt 8, 3) := by decide +kernel
theorem dX0_addResult_67 : decode cX0_addResult 67 = .ok (.aload_n 0, 1) := by decide +kernel
theorem dX0_addResult_68 : decode cX0_addResult 68 = .ok (.iload_n 2, 1) := by decide +kernel
theorem dX0_addResult_69 : decode cX0_addResult 69 = .ok (.invokevirtual 40, 3) := by decide +kernel
theorem dX0_addResult_72 : decode cX0_addResult 72 = .ok (.return_, 1) := by decide +kernel
set_option maxRecDepth 20000 in
theorem ggX0_endTrial_X0_shut : GoodIn wsX0_endTrial wsX0_shut := goodIn_r _ [5, 6, 7, 8, 14, 15, 16, 17, 18] (by decide +kernel) (by decide +kernel)
set_option maxRecDepth 20000 in
theorem gX0_endTrial_X0_shut : GoodIn wsX0_endTrial (wsV RX0 44 RX0 yX0_shut wsX0_shut) := goodIn_app (goodIn_of _ (by decide +kernel)) ggX0_endTrial_X0_shut
set_option maxRecDepth 20000 in
theorem ggX0_endTrial_X0_trip : GoodIn wsX0_endTrial wsX0_trip := goodIn_r _ [12, 6, 13, 14, 15, 16, 17, 18] (by decide +kernel) (by decide +kernel)
set_option maxRecDepth 20000 in
theorem gX0_endTrial_X0_trip : GoodIn wsX0_endTrial (wsV RX0 40 RX0 yX0_trip wsX0_trip) := goodIn_app (goodIn_of _ (by decide +kernel)) ggX0_endTrial_X0_trip
theorem dX0_endTrial_0 : decode cX0_endTrial 0 = .ok (.iload_n 1, 1) := by decide +kernel
theorem dX0_endTrial_1 : decode cX0_endTrial 1 = .ok (.ifCond .eq 10, 3) := by decide +kernel
theorem dX0_endTrial_4 : decode cX0_endTrial 4 = .ok (.aload_n 0, 1) := by decide +kernel
theorem dX0_endTrial_5 : decode cX0_endTrial 5 = .ok (.invokevirtual 44, 3) := by decide +kernel
theorem dX0_endTrial_8 : decode cX0_endTrial 8 = .ok (.goto 8, 3) := by decide +kernel
theorem dX0_endTrial_11 : decode cX0_endTrial 11 = .ok (.aload_n 0, 1) := by decide +kernel
theorem dX0_endTrial_12 : decode cX0_endTrial 12 = .ok (.iload_n 2, 1) := by decide +kernel
theorem dX0_endTrial_13 : decode cX0_endTrial 13 = .ok (.invokevirtual 40, 3) := by decide +kernel
theorem dX0_endTrial_16 : decode cX0_endTrial 16 = .ok (.return_, 1) := by decide +kernel
theorem dX0_copyFrom_0 : decode cX0_copyFrom 0 = .ok (.aload_n 0, 1) := by decide +kernel
theorem dX0_copyFrom_1 : decode cX0_copyFrom 1 = .ok (.aload_n 1, 1) := by decide +kernel
theorem dX0_copyFrom_2 : decode cX0_copyFrom 2 = .ok (.getfield 9, 3) := by decide +kernel
theorem dX0_copyFrom_5 : decode cX0_copyFrom 5 = .ok (.putfield 9, 3) := by decide +kernel
theorem dX0_copyFrom_8 : decode cX0_copyFrom 8 = .ok (.aload_n 0, 1) := by decide +kernel
theorem dX0_copyFrom_9 : decode cX0_copyFrom 9 = .ok (.aload_n 1, 1) := by decide +kernel
theorem dX0_copyFrom_10 : decode cX0_copyFrom 10 = .ok (.getfield 21, 3) := by decide +kernel
theorem dX0_copyFrom_13 : decode cX0_copyFrom 13 = .ok (.putfield 21, 3) := by decide +kernel
theorem dX0_copyFrom_16 : decode cX0_copyFrom 16 = .ok (.aload_n 0, 1) := by decide +kernel
theorem dX0_copyFrom_17 : decode cX0_copyFrom 17 = .ok (.aload_n 1, 1) := by decide +kernel
theorem dX0_copyFrom_18 : decode cX0_copyFrom 18 = .ok (.getfield 24, 3) := by decide +kernel
theorem dX0_copyFrom_21 : decode cX0_copyFrom 21 = .ok (.putfield 24, 3) := by decide +kernel
theorem dX0_copyFrom_24 : decode cX0_copyFrom 24 = .ok (.aload_n 0, 1) := by decide +kernel
theorem dX0_copyFrom_25 : decode cX0_copyFrom 25 = .ok (.aload_n 1, 1) := by decide +kernel
theorem dX0_copyFrom_26 : decode cX0_copyFrom 26 = .ok (.getfield 15, 3) := by decide +kernel
theorem dX0_copyFrom_29 : decode cX0_copyFrom 29 = .ok (.putfield 15, 3) := by decide +kernel
theorem dX0_copyFrom_32 : decode cX0_copyFrom 32 = .ok (.aload_n 0, 1) := by decide +kernel
theorem dX0_copyFrom_33 : decode cX0_copyFrom 33 = .ok (.aload_n 1, 1) := by decide +kernel
theorem dX0_copyFrom_34 : decode cX0_copyFrom 34 = .ok (.getfield 18, 3) := by decide +kernel
theorem dX0_copyFrom_37 : decode cX0_copyFrom 37 = .ok (.putfield 18, 3) := by decide +kernel
theorem dX0_copyFrom_40 : decode cX0_copyFrom 40 = .ok (.return_, 1) := by decide +kernel
theorem dX1_init_0 : decode cX1_init 0 = .ok (.aload_n 0, 1) := by decide +kernel
theorem dX1_init_1 : decode cX1_init 1 = .ok (.invokespecial 3, 3) := by decide +kernel
theorem dX1_init_4 : decode cX1_init 4 = .ok (.aload_n 0, 1) := by decide +kernel
theorem dX1_init_5 : decode cX1_init 5 = .ok (.bipush 40, 2) := by decide +kernel
theorem dX1_init_7 : decode cX1_init 7 = .ok (.newarray .int, 2) := by decide +kernel
theorem dX1_init_9 : decode cX1_init 9 = .ok (.putfield 9, 3) := by decide +kernel
theorem dX1_init_12 : decode cX1_init 12 = .ok (.aload_n 0, 1) := by decide +kernel
theorem dX1_init_13 : decode cX1_init 13 = .ok (.bipush 40, 2) := by decide +kernel
theorem dX1_init_15 : decode cX1_init 15 = .ok (.newarray .int, 2) := by decide +kernel
theorem dX1_init_17 : decode cX1_init 17 = .ok (.putfield 15, 3) := by decide +kernel
theorem dX1_init_20 : decode cX1_init 20 = .ok (.aload_n 0, 1) := by decide +kernel
theorem dX1_init_21 : decode cX1_init 21 = .ok (.bipush 40, 2) := by decide +kernel
theorem dX1_init_23 : decode cX1_init 23 = .ok (.newarray .int, 2) := by decide +kernel
theorem dX1_init_25 : decode cX1_init 25 = .ok (.putfield 18, 3) := by decide +kernel
theorem dX1_init_28 : decode cX1_init 28 = .ok (.return_, 1) := by decide +kernel
theorem dX1_placeOf_0 : decode cX1_placeOf 0 = .ok (.iconst 0, 1) := by decide +kernel
theorem dX1_placeOf_1 : decode cX1_placeOf 1 = .ok (.istore_n 2, 1) := by decide +kernel
theorem dX1_placeOf_2 : decode cX1_placeOf 2 = .ok (.iload_n 2, 1) := by decide +kernel
theorem dX1_placeOf_3 : decode cX1_placeOf 3 = .ok (.aload_n 0, 1) := by decide +kernel
theorem dX1_placeOf_4 : decode cX1_placeOf 4 = .ok (.getfield 21, 3) := by decide +kernel
theorem dX1_placeOf_7 : decode cX1_placeOf 7 = .ok (.if_icmp .ge 21, 3) := by decide +kernel
theorem dX1_placeOf_10 : decode cX1_placeOf 10 = .ok (.aload_n 0, 1) := by decide +kernel
theorem dX1_placeOf_11 : decode cX1_placeOf 11 = .ok (.getfield 9, 3) := by decide +kernel
theorem dX1_placeOf_14 : decode cX1_placeOf 14 = .ok (.iload_n 2, 1) := by decide +kernel
theorem dX1_placeOf_15 : decode cX1_placeOf 15 = .ok (.iaload, 1) := by decide +kernel
theorem dX1_placeOf_16 : decode cX1_placeOf 16 = .ok (.iload_n 1, 1) := by decide +kernel
theorem dX1_placeOf_17 : decode cX1_placeOf 17 = .ok (.if_icmp .ne 5, 3) := by decide +kernel
theorem dX1_placeOf_20 : decode cX1_placeOf 20 = .ok (.iload_n 2, 1) := by decide +kernel
theorem dX1_placeOf_21 : decode cX1_placeOf 21 = .ok (.ireturn, 1) := by decide +kernel
theorem dX1_placeOf_22 : decode cX1_placeOf 22 = .ok (.iinc 2 1, 3) := by decide +kernel
theorem dX1_placeOf_25 : decode cX1_placeOf 25 = .ok (.goto (-23), 3) := by decide +kernel
theorem dX1_placeOf_28 : decode cX1_placeOf 28 = .ok (.iconst (-1), 1) := by decide +kernel
theorem dX1_placeOf_29 : decode cX1_placeOf 29 = .ok (.ireturn, 1) := by decide +kernel
set_option maxRecDepth 20000 in
theorem ggX1_remember_X1_placeOf : GoodIn wsX1_remember wsX1_placeOf := goodIn_r _ [8, 9, 1, 22, 23, 24, 25] (by decide +kernel) (by decide +kernel)
set_option maxRecDepth 20000 in
theorem gX1_remember_X1_placeOf : GoodIn wsX1_remember (wsV RX1 25 RX1 yX1_placeOf wsX1_placeOf) := goodIn_app (goodIn_of _ (by decide +kernel)) ggX1_remember_X1_placeOf
set_option maxRecDepth 20000 in
theorem ggX1_remember_X1_newPlace : GoodIn wsX1_remember wsX1_newPlace := goodIn_r _ [13, 9, 14, 15, 16, 7, 17, 18, 19, 20, 21, 3, 1, 22, 23, 24, 25] (by decide +kernel) (by decide +kernel)
set_option maxRecDepth 20000 in
theorem gX1_remember_X1_newPlace : GoodIn wsX1_remember (wsV RX1 29 RX1 yX1_newPlace wsX1_newPlace) := goodIn_app (goodIn_of _ (by decide +kernel)) ggX1_remember_X1_newPlace
theorem dX1_remember_0 : decode cX1_remember 0 = .ok (.aload_n 0, 1) := by decide +kernel
theorem dX1_remember_1 : decode cX1_remember 1 = .ok (.iload_n 1, 1) := by decide +kernel
theorem dX1_remember_2 : decode cX1_remember 2 = .ok (.invokevirtual 25, 3) := by decide +kernel
theorem dX1_remember_5 : decode cX1_remember 5 = .ok (.istore 4, 2) := by decide +kernel
theorem dX1_remember_7 : decode cX1_remember 7 = .ok (.iload 4, 2) := by decide +kernel
theorem dX1_remember_9 : decode cX1_remember 9 = .ok (.iconst (-1), 1) := by decide +kernel
theorem dX1_remember_10 : decode cX1_remember 10 = .ok (.if_icmp .ne 9, 3) := by decide +kernel
theorem dX1_remember_13 : decode cX1_remember 13 = .ok (.aload_n 0, 1) := by decide +kernel
theorem dX1_remember_14 : decode cX1_remember 14 = .ok (.invokevirtual 29, 3) := by decide +kernel
theorem dX1_remember_17 : decode cX1_remember 17 = .ok (.istore 4, 2) := by decide +kernel
theorem dX1_remember_19 : decode cX1_remember 19 = .ok (.aload_n 0, 1) := by decide +kernel
theorem dX1_remember_20 : decode cX1_remember 20 = .ok (.getfield 9, 3) := by decide +kernel
theorem dX1_remember_23 : decode cX1_remember 23 = .ok (.iload 4, 2) := by decide +kernel
theorem dX1_remember_25 : decode cX1_remember 25 = .ok (.iload_n 1, 1) := by decide +kernel
theorem dX1_remember_26 : decode cX1_remember 26 = .ok (.iastore, 1) := by decide +kernel
theorem dX1_remember_27 : decode cX1_remember 27 = .ok (.aload_n 0, 1) := by decide +kernel
theorem dX1_remember_28 : decode cX1_remember 28 = .ok (.getfield 15, 3) := by decide +kernel
theorem dX1_remember_31 : decode cX1_remember 31 = .ok (.iload 4, 2) := by decide +kernel
theorem dX1_remember_33 : decode cX1_remember 33 = .ok (.iload_n 2, 1) := by decide +kernel
theorem dX1_remember_34 : decode cX1_remember 34 = .ok (.iastore, 1) := by decide +kernel
theorem dX1_remember_35 : decode cX1_remember 35 = .ok (.aload_n 0, 1) := by decide +kernel
theorem dX1_remember_36 : decode cX1_remember 36 = .ok (.getfield 18, 3) := by decide +kernel
theorem dX1_remember_39 : decode cX1_remember 39 = .ok (.iload 4, 2) := by decide +kernel
theorem dX1_remember_41 : decode cX1_remember 41 = .ok (.iload_n 3, 1) := by decide +kernel
theorem dX1_remember_42 : decode cX1_remember 42 = .ok (.iastore, 1) := by decide +kernel
theorem dX1_remember_43 : decode cX1_remember 43 = .ok (.return_, 1) := by decide +kernel
set_option maxRecDepth 20000 in
theorem ggX1_newPlace_X1_oldestPlace : GoodIn wsX1_newPlace wsX1_oldestPlace := goodIn_r _ [6, 1, 7, 8, 9, 5, 10, 11, 12, 13, 14, 15, 16] (by decide +kernel) (by decide +kernel)
set_option maxRecDepth 20000 in
theorem gX1_newPlace_X1_oldestPlace : GoodIn wsX1_newPlace (wsV RX1 33 RX1 yX1_oldestPlace wsX1_oldestPlace) := goodIn_app (goodIn_of _ (by decide +kernel)) ggX1_newPlace_X1_oldestPlace
theorem dX1_newPlace_0 : decode cX1_newPlace 0 = .ok (.aload_n 0, 1) := by decide +kernel
theorem dX1_newPlace_1 : decode cX1_newPlace 1 = .ok (.getfield 21, 3) := by decide +kernel
theorem dX1_newPlace_4 : decode cX1_newPlace 4 = .ok (.bipush 40, 2) := by decide +kernel
theorem dX1_newPlace_6 : decode cX1_newPlace 6 = .ok (.if_icmp .ge 20, 3) := by decide +kernel
theorem dX1_newPlace_9 : decode cX1_newPlace 9 = .ok (.aload_n 0, 1) := by decide +kernel
theorem dX1_newPlace_10 : decode cX1_newPlace 10 = .ok (.dup, 1) := by decide +kernel
theorem dX1_newPlace_11 : decode cX1_newPlace 11 = .ok (.getfield 21, 3) := by decide +kernel
theorem dX1_newPlace_14 : decode cX1_newPlace 14 = .ok (.iconst 1, 1) := by decide +kernel
theorem dX1_newPlace_15 : decode cX1_newPlace 15 = .ok (.iadd, 1) := by decide +kernel
theorem dX1_newPlace_16 : decode cX1_newPlace 16 = .ok (.putfield 21, 3) := by decide +kernel
theorem dX1_newPlace_19 : decode cX1_newPlace 19 = .ok (.aload_n 0, 1) := by decide +kernel
theorem dX1_newPlace_20 : decode cX1_newPlace 20 = .ok (.getfield 21, 3) := by decide +kernel
theorem dX1_newPlace_23 : decode cX1_newPlace 23 = .ok (.iconst 1, 1) := by decide +kernel
theorem dX1_newPlace_24 : decode cX1_newPlace 24 = .ok (.isub, 1) := by decide +kernel
theorem dX1_newPlace_25 : decode cX1_newPlace 25 = .ok (.ireturn, 1) := by decide +kernel
theorem dX1_newPlace_26 : decode cX1_newPlace 26 = .ok (.aload_n 0, 1) := by decide +kernel
theorem dX1_newPlace_27 : decode cX1_newPlace 27 = .ok (.invokevirtual 33, 3) := by decide +kernel
theorem dX1_newPlace_30 : decode cX1_newPlace 30 = .ok (.ireturn, 1) := by decide +kernel
set_option maxRecDepth 20000 in
theorem ggX1_oldestPlace_X1_isForgottenBefore : GoodIn wsX1_oldestPlace wsX1_isForgottenBefore := goodIn_r _ [6, 7, 8, 9, 10, 11, 12] (by decide +kernel) (by decide +kernel)
set_option maxRecDepth 20000 in
theorem gX1_oldestPlace_X1_isForgottenBefore : GoodIn wsX1_oldestPlace (wsV RX1 36 RX1 yX1_isForgottenBefore wsX1_isForgottenBefore) := goodIn_app (goodIn_of _ (by decide +kernel)) ggX1_oldestPlace_X1_isForgottenBefore
theorem dX1_oldestPlace_0 : decode cX1_oldestPlace 0 = .ok (.iconst 0, 1) := by decide +kernel
theorem dX1_oldestPlace_1 : decode cX1_oldestPlace 1 = .ok (.istore_n 1, 1) := by decide +kernel
theorem dX1_oldestPlace_2 : decode cX1_oldestPlace 2 = .ok (.iconst 1, 1) := by decide +kernel
theorem dX1_oldestPlace_3 : decode cX1_oldestPlace 3 = .ok (.istore_n 2, 1) := by decide +kernel
theorem dX1_oldestPlace_4 : decode cX1_oldestPlace 4 = .ok (.iload_n 2, 1) := by decide +kernel
theorem dX1_oldestPlace_5 : decode cX1_oldestPlace 5 = .ok (.aload_n 0, 1) := by decide +kernel
theorem dX1_oldestPlace_6 : decode cX1_oldestPlace 6 = .ok (.getfield 21, 3) := by decide +kernel
theorem dX1_oldestPlace_9 : decode cX1_oldestPlace 9 = .ok (.if_icmp .ge 20, 3) := by decide +kernel
theorem dX1_oldestPlace_12 : decode cX1_oldestPlace 12 = .ok (.aload_n 0, 1) := by decide +kernel
theorem dX1_oldestPlace_13 : decode cX1_oldestPlace 13 = .ok (.iload_n 2, 1) := by decide +kernel
theorem dX1_oldestPlace_14 : decode cX1_oldestPlace 14 = .ok (.iload_n 1, 1) := by decide +kernel
theorem dX1_oldestPlace_15 : decode cX1_oldestPlace 15 = .ok (.invokevirtual 36, 3) := by decide +kernel
theorem dX1_oldestPlace_18 : decode cX1_oldestPlace 18 = .ok (.ifCond .eq 5, 3) := by decide +kernel
theorem dX1_oldestPlace_21 : decode cX1_oldestPlace 21 = .ok (.iload_n 2, 1) := by decide +kernel
theorem dX1_oldestPlace_22 : decode cX1_oldestPlace 22 = .ok (.istore_n 1, 1) := by decide +kernel
theorem dX1_oldestPlace_23 : decode cX1_oldestPlace 23 = .ok (.iinc 2 1, 3) := by decide +kernel
theorem dX1_oldestPlace_26 : decode cX1_oldestPlace 26 = .ok (.goto (-22), 3) := by decide +kernel
theorem dX1_oldestPlace_29 : decode cX1_oldestPlace 29 = .ok (.iload_n 1, 1) := by decide +kernel
theorem dX1_oldestPlace_30 : decode cX1_oldestPlace 30 = .ok (.ireturn, 1) := by decide +kernel
theorem dX1_isForgottenBefore_0 : decode cX1_isForgottenBefore 0 = .ok (.aload_n 0, 1) := by decide +kernel
theorem dX1_isForgottenBefore_1 : decode cX1_isForgottenBefore 1 = .ok (.getfield 18, 3) := by decide +kernel
theorem dX1_isForgottenBefore_4 : decode cX1_isForgottenBefore 4 = .ok (.iload_n 1, 1) := by decide +kernel
theorem dX1_isForgottenBefore_5 : decode cX1_isForgottenBefore 5 = .ok (.iaload, 1) := by decide +kernel
theorem dX1_isForgottenBefore_6 : decode cX1_isForgottenBefore 6 = .ok (.aload_n 0, 1) := by decide +kernel
theorem dX1_isForgottenBefore_7 : decode cX1_isForgottenBefore 7 = .ok (.getfield 18, 3) := by decide +kernel
theorem dX1_isForgottenBefore_10 : decode cX1_isForgottenBefore 10 = .ok (.iload_n 2, 1) := by decide +kernel
theorem dX1_isForgottenBefore_11 : decode cX1_isForgottenBefore 11 = .ok (.iaload, 1) := by decide +kernel
theorem dX1_isForgottenBefore_12 : decode cX1_isForgottenBefore 12 = .ok (.if_icmp .lt 33, 3) := by decide +kernel
theorem dX1_isForgottenBefore_15 : decode cX1_isForgottenBefore 15 = .ok (.aload_n 0, 1) := by decide +kernel
theorem dX1_isForgottenBefore_16 : decode cX1_isForgottenBefore 16 = .ok (.getfield 18, 3) := by decide +kernel
theorem dX1_isForgottenBefore_19 : decode cX1_isForgottenBefore 19 = .ok (.iload_n 1, 1) := by decide +kernel
theorem dX1_isForgottenBefore_20 : decode cX1_isForgottenBefore 20 = .ok (.iaload, 1) := by decide +kernel
theorem dX1_isForgottenBefore_21 : decode cX1_isForgottenBefore 21 = .ok (.aload_n 0, 1) := by decide +kernel
theorem dX1_isForgottenBefore_22 : decode cX1_isForgottenBefore 22 = .ok (.getfield 18, 3) := by decide +kernel
theorem dX1_isForgottenBefore_25 : decode cX1_isForgottenBefore 25 = .ok (.iload_n 2, 1) := by decide +kernel
theorem dX1_isForgottenBefore_26 : decode cX1_isForgottenBefore 26 = .ok (.iaload, 1) := by decide +kernel
theorem dX1_isForgottenBefore_27 : decode cX1_isForgottenBefore 27 = .ok (.if_icmp .ne 22, 3) := by decide +kernel
theorem dX1_isForgottenBefore_30 : decode cX1_isForgottenBefore 30 = .ok (.aload_n 0, 1) := by decide +kernel
theorem dX1_isForgottenBefore_31 : decode cX1_isForgottenBefore 31 = .ok (.getfield 9, 3) := by decide +kernel
theorem dX1_isForgottenBefore_34 : decode cX1_isForgottenBefore 34 = .ok (.iload_n 1, 1) := by decide +kernel
theorem dX1_isForgottenBefore_35 : decode cX1_isForgottenBefore 35 = .ok (.iaload, 1) := by decide +kernel
theorem dX1_isForgottenBefore_36 : decode cX1_isForgottenBefore 36 = .ok (.aload_n 0, 1) := by decide +kernel
theorem dX1_isForgottenBefore_37 : decode cX1_isForgottenBefore 37 = .ok (.getfield 9, 3) := by decide +kernel
theorem dX1_isForgottenBefore_40 : decode cX1_isForgottenBefore 40 = .ok (.iload_n 2, 1) := by decide +kernel
theorem dX1_isForgottenBefore_41 : decode cX1_isForgottenBefore 41 = .ok (.iaload, 1) := by decide +kernel
theorem dX1_isForgottenBefore_42 : decode cX1_isForgottenBefore 42 = .ok (.if_icmp .ge 7, 3) := by decide +kernel
theorem dX1_isForgottenBefore_45 : decode cX1_isForgottenBefore 45 = .ok (.iconst 1, 1) := by decide +kernel
theorem dX1_isForgottenBefore_46 : decode cX1_isForgottenBefore 46 = .ok (.goto 4, 3) := by decide +kernel
theorem dX1_isForgottenBefore_49 : decode cX1_isForgottenBefore 49 = .ok (.iconst 0, 1) := by decide +kernel
theorem dX1_isForgottenBefore_50 : decode cX1_isForgottenBefore 50 = .ok (.ireturn, 1) := by decide +kernel
theorem dX1_forgetAll_0 : decode cX1_forgetAll 0 = .ok (.aload_n 0, 1) := by decide +kernel
theorem dX1_forgetAll_1 : decode cX1_forgetAll 1 = .ok (.iconst 0, 1) := by decide +kernel
theorem dX1_forgetAll_2 : decode cX1_forgetAll 2 = .ok (.putfield 21, 3) := by decide +kernel
theorem dX1_forgetAll_5 : decode cX1_forgetAll 5 = .ok (.return_, 1) := by decide +kernel
theorem dX1_copyFrom_0 : decode cX1_copyFrom 0 = .ok (.aload_n 0, 1) := by decide +kernel
theorem dX1_copyFrom_1 : decode cX1_copyFrom 1 = .ok (.aload_n 1, 1) := by decide +kernel
theorem dX1_copyFrom_2 : decode cX1_copyFrom 2 = .ok (.getfield 21, 3) := by decide +kernel
theorem dX1_copyFrom_5 : decode cX1_copyFrom 5 = .ok (.putfield 21, 3) := by decide +kernel
theorem dX1_copyFrom_8 : decode cX1_copyFrom 8 = .ok (.aload_n 1, 1) := by decide +kernel
theorem dX1_copyFrom_9 : decode cX1_copyFrom 9 = .ok (.getfield 9, 3) := by decide +kernel
theorem dX1_copyFrom_12 : decode cX1_copyFrom 12 = .ok (.iconst 0, 1) := by decide +kernel
theorem dX1_copyFrom_13 : decode cX1_copyFrom 13 = .ok (.aload_n 0, 1) := by decide +kernel
theorem dX1_copyFrom_14 : decode cX1_copyFrom 14 = .ok (.getfield 9, 3) := by decide +kernel
theorem dX1_copyFrom_17 : decode cX1_copyFrom 17 = .ok (.iconst 0, 1) := by decide +kernel
theorem dX1_copyFrom_18 : decode cX1_copyFrom 18 = .ok (.aload_n 0, 1) := by decide +kernel
theorem dX1_copyFrom_19 : decode cX1_copyFrom 19 = .ok (.getfield 21, 3) := by decide +kernel
theorem dX1_copyFrom_22 : decode cX1_copyFrom 22 = .ok (.invokestatic 40, 3) := by decide +kernel
theorem dX1_copyFrom_25 : decode cX1_copyFrom 25 = .ok (.aload_n 1, 1) := by decide +kernel
theorem dX1_copyFrom_26 : decode cX1_copyFrom 26 = .ok (.getfield 15, 3) := by decide +kernel
theorem dX1_copyFrom_29 : decode cX1_copyFrom 29 = .ok (.iconst 0, 1) := by decide +kernel
theorem dX1_copyFrom_30 : decode cX1_copyFrom 30 = .ok (.aload_n 0, 1) := by decide +kernel
theorem dX1_copyFrom_31 : decode cX1_copyFrom 31 = .ok (.getfield 15, 3) := by decide +kernel
theorem dX1_copyFrom_34 : decode cX1_copyFrom 34 = .ok (.iconst 0, 1) := by decide +kernel
theorem dX1_copyFrom_35 : decode cX1_copyFrom 35 = .ok (.aload_n 0, 1) := by decide +kernel
theorem dX1_copyFrom_36 : decode cX1_copyFrom 36 = .ok (.getfield 21, 3) := by decide +kernel
theorem dX1_copyFrom_39 : decode cX1_copyFrom 39 = .ok (.invokestatic 40, 3) := by decide +kernel
theorem dX1_copyFrom_42 : decode cX1_copyFrom 42 = .ok (.aload_n 1, 1) := by decide +kernel
theorem dX1_copyFrom_43 : decode cX1_copyFrom 43 = .ok (.getfield 18, 3) := by decide +kernel
theorem dX1_copyFrom_46 : decode cX1_copyFrom 46 = .ok (.iconst 0, 1) := by decide +kernel
theorem dX1_copyFrom_47 : decode cX1_copyFrom 47 = .ok (.aload_n 0, 1) := by decide +kernel
theorem dX1_copyFrom_48 : decode cX1_copyFrom 48 = .ok (.getfield 18, 3) := by decide +kernel
theorem dX1_copyFrom_51 : decode cX1_copyFrom 51 = .ok (.iconst 0, 1) := by decide +kernel
theorem dX1_copyFrom_52 : decode cX1_copyFrom 52 = .ok (.aload_n 0, 1) := by decide +kernel
theorem dX1_copyFrom_53 : decode cX1_copyFrom 53 = .ok (.getfield 21, 3) := by decide +kernel
theorem dX1_copyFrom_56 : decode cX1_copyFrom 56 = .ok (.invokestatic 40, 3) := by decide +kernel
theorem dX1_copyFrom_59 : decode cX1_copyFrom 59 = .ok (.return_, 1) := by decide +kernel
theorem dX2_init_0 : decode cX2_init 0 = .ok (.aload_n 0, 1) := by decide +kernel
theorem dX2_init_1 : decode cX2_init 1 = .ok (.invokespecial 3, 3) := by decide +kernel
theorem dX2_init_4 : decode cX2_init 4 = .ok (.aload_n 0, 1) := by decide +kernel
theorem dX2_init_5 : decode cX2_init 5 = .ok (.sipush 1000, 3) := by decide +kernel
theorem dX2_init_8 : decode cX2_init 8 = .ok (.newarray .int, 2) := by decide +kernel
theorem dX2_init_10 : decode cX2_init 10 = .ok (.putfield 9, 3) := by decide +kernel
theorem dX2_init_13 : decode cX2_init 13 = .ok (.aload_n 0, 1) := by decide +kernel
theorem dX2_init_14 : decode cX2_init 14 = .ok (.sipush 1000, 3) := by decide +kernel
theorem dX2_init_17 : decode cX2_init 17 = .ok (.newarray .int, 2) := by decide +kernel
theorem dX2_init_19 : decode cX2_init 19 = .ok (.putfield 15, 3) := by decide +kernel
theorem dX2_init_22 : decode cX2_init 22 = .ok (.aload_n 0, 1) := by decide +kernel
theorem dX2_init_23 : decode cX2_init 23 = .ok (.sipush 1000, 3) := by decide +kernel
theorem dX2_init_26 : decode cX2_init 26 = .ok (.newarray .boolean, 2) := by decide +kernel
theorem dX2_init_28 : decode cX2_init 28 = .ok (.putfield 18, 3) := by decide +kernel
theorem dX2_init_31 : decode cX2_init 31 = .ok (.return_, 1) := by decide +kernel
theorem dX2_isFull_0 : decode cX2_isFull 0 = .ok (.aload_n 0, 1) := by decide +kernel
theorem dX2_isFull_1 : decode cX2_isFull 1 = .ok (.getfield 22, 3) := by decide +kernel
theorem dX2_isFull_4 : decode cX2_isFull 4 = .ok (.sipush 1000, 3) := by decide +kernel
theorem dX2_isFull_7 : decode cX2_isFull 7 = .ok (.if_icmp .lt 7, 3) := by decide +kernel
theorem dX2_isFull_10 : decode cX2_isFull 10 = .ok (.iconst 1, 1) := by decide +kernel
theorem dX2_isFull_11 : decode cX2_isFull 11 = .ok (.goto 4, 3) := by decide +kernel
theorem dX2_isFull_14 : decode cX2_isFull 14 = .ok (.iconst 0, 1) := by decide +kernel
theorem dX2_isFull_15 : decode cX2_isFull 15 = .ok (.ireturn, 1) := by decide +kernel
theorem dX2_append_0 : decode cX2_append 0 = .ok (.aload_n 0, 1) := by decide +kernel
theorem dX2_append_1 : decode cX2_append 1 = .ok (.getfield 22, 3) := by decide +kernel
theorem dX2_append_4 : decode cX2_append 4 = .ok (.istore_n 3, 1) := by decide +kernel
theorem dX2_append_5 : decode cX2_append 5 = .ok (.aload_n 0, 1) := by decide +kernel
theorem dX2_append_6 : decode cX2_append 6 = .ok (.getfield 9, 3) := by decide +kernel
theorem dX2_append_9 : decode cX2_append 9 = .ok (.iload_n 3, 1) := by decide +kernel
theorem dX2_append_10 : decode cX2_append 10 = .ok (.iload_n 1, 1) := by decide +kernel
theorem dX2_append_11 : decode cX2_append 11 = .ok (.iastore, 1) := by decide +kernel
theorem dX2_append_12 : decode cX2_append 12 = .ok (.aload_n 0, 1) := by decide +kernel
theorem dX2_append_13 : decode cX2_append 13 = .ok (.getfield 15, 3) := by decide +kernel
theorem dX2_append_16 : decode cX2_append 16 = .ok (.iload_n 3, 1) := by decide +kernel
theorem dX2_append_17 : decode cX2_append 17 = .ok (.iload_n 2, 1) := by decide +kernel
theorem dX2_append_18 : decode cX2_append 18 = .ok (.iastore, 1) := by decide +kernel
theorem dX2_append_19 : decode cX2_append 19 = .ok (.aload_n 0, 1) := by decide +kernel
theorem dX2_append_20 : decode cX2_append 20 = .ok (.getfield 18, 3) := by decide +kernel
theorem dX2_append_23 : decode cX2_append 23 = .ok (.iload_n 3, 1) := by decide +kernel
theorem dX2_append_24 : decode cX2_append 24 = .ok (.iconst 1, 1) := by decide +kernel
theorem dX2_append_25 : decode cX2_append 25 = .ok (.bastore, 1) := by decide +kernel
theorem dX2_append_26 : decode cX2_append 26 = .ok (.aload_n 0, 1) := by decide +kernel
theorem dX2_append_27 : decode cX2_append 27 = .ok (.iload_n 3, 1) := by decide +kernel
theorem dX2_append_28 : decode cX2_append 28 = .ok (.iconst 1, 1) := by decide +kernel
theorem dX2_append_29 : decode cX2_append 29 = .ok (.iadd, 1) := by decide +kernel
theorem dX2_append_30 : decode cX2_append 30 = .ok (.putfield 22, 3) := by decide +kernel
theorem dX2_append_33 : decode cX2_append 33 = .ok (.iload_n 3, 1) := by decide +kernel
theorem dX2_append_34 : decode cX2_append 34 = .ok (.ireturn, 1) := by decide +kernel
theorem dX2_copyFrom_0 : decode cX2_copyFrom 0 = .ok (.aload_n 0, 1) := by decide +kernel
theorem dX2_copyFrom_1 : decode cX2_copyFrom 1 = .ok (.aload_n 1, 1) := by decide +kernel
theorem dX2_copyFrom_2 : decode cX2_copyFrom 2 = .ok (.getfield 22, 3) := by decide +kernel
theorem dX2_copyFrom_5 : decode cX2_copyFrom 5 = .ok (.putfield 22, 3) := by decide +kernel
theorem dX2_copyFrom_8 : decode cX2_copyFrom 8 = .ok (.aload_n 1, 1) := by decide +kernel
theorem dX2_copyFrom_9 : decode cX2_copyFrom 9 = .ok (.getfield 9, 3) := by decide +kernel
theorem dX2_copyFrom_12 : decode cX2_copyFrom 12 = .ok (.iconst 0, 1) := by decide +kernel
theorem dX2_copyFrom_13 : decode cX2_copyFrom 13 = .ok (.aload_n 0, 1) := by decide +kernel
theorem dX2_copyFrom_14 : decode cX2_copyFrom 14 = .ok (.getfield 9, 3) := by decide +kernel
theorem dX2_copyFrom_17 : decode cX2_copyFrom 17 = .ok (.iconst 0, 1) := by decide +kernel
theorem dX2_copyFrom_18 : decode cX2_copyFrom 18 = .ok (.aload_n 0, 1) := by decide +kernel
theorem dX2_copyFrom_19 : decode cX2_copyFrom 19 = .ok (.getfield 22, 3) := by decide +kernel
theorem dX2_copyFrom_22 : decode cX2_copyFrom 22 = .ok (.invokestatic 26, 3) := by decide +kernel
theorem dX2_copyFrom_25 : decode cX2_copyFrom 25 = .ok (.aload_n 1, 1) := by decide +kernel
theorem dX2_copyFrom_26 : decode cX2_copyFrom 26 = .ok (.getfield 15, 3) := by decide +kernel
theorem dX2_copyFrom_29 : decode cX2_copyFrom 29 = .ok (.iconst 0, 1) := by decide +kernel
theorem dX2_copyFrom_30 : decode cX2_copyFrom 30 = .ok (.aload_n 0, 1) := by decide +kernel
theorem dX2_copyFrom_31 : decode cX2_copyFrom 31 = .ok (.getfield 15, 3) := by decide +kernel
theorem dX2_copyFrom_34 : decode cX2_copyFrom 34 = .ok (.iconst 0, 1) := by decide +kernel
theorem dX2_copyFrom_35 : decode cX2_copyFrom 35 = .ok (.aload_n 0, 1) := by decide +kernel
theorem dX2_copyFrom_36 : decode cX2_copyFrom 36 = .ok (.getfield 22, 3) := by decide +kernel
theorem dX2_copyFrom_39 : decode cX2_copyFrom 39 = .ok (.invokestatic 26, 3) := by decide +kernel
theorem dX2_copyFrom_42 : decode cX2_copyFrom 42 = .ok (.iconst 0, 1) := by decide +kernel
theorem dX2_copyFrom_43 : decode cX2_copyFrom 43 = .ok (.istore_n 2, 1) := by decide +kernel
theorem dX2_copyFrom_44 : decode cX2_copyFrom 44 = .ok (.iload_n 2, 1) := by decide +kernel
theorem dX2_copyFrom_45 : decode cX2_copyFrom 45 = .ok (.aload_n 0, 1) := by decide +kernel
theorem dX2_copyFrom_46 : decode cX2_copyFrom 46 = .ok (.getfield 22, 3) := by decide +kernel
theorem dX2_copyFrom_49 : decode cX2_copyFrom 49 = .ok (.if_icmp .ge 21, 3) := by decide +kernel
theorem dX2_copyFrom_52 : decode cX2_copyFrom 52 = .ok (.aload_n 0, 1) := by decide +kernel
theorem dX2_copyFrom_53 : decode cX2_copyFrom 53 = .ok (.getfield 18, 3) := by decide +kernel
theorem dX2_copyFrom_56 : decode cX2_copyFrom 56 = .ok (.iload_n 2, 1) := by decide +kernel
theorem dX2_copyFrom_57 : decode cX2_copyFrom 57 = .ok (.aload_n 1, 1) := by decide +kernel
theorem dX2_copyFrom_58 : decode cX2_copyFrom 58 = .ok (.getfield 18, 3) := by decide +kernel
theorem dX2_copyFrom_61 : decode cX2_copyFrom 61 = .ok (.iload_n 2, 1) := by decide +kernel
theorem dX2_copyFrom_62 : decode cX2_copyFrom 62 = .ok (.baload, 1) := by decide +kernel
theorem dX2_copyFrom_63 : decode cX2_copyFrom 63 = .ok (.bastore, 1) := by decide +kernel
theorem dX2_copyFrom_64 : decode cX2_copyFrom 64 = .ok (.iinc 2 1, 3) := by decide +kernel
theorem dX2_copyFrom_67 : decode cX2_copyFrom 67 = .ok (.goto (-23), 3) := by decide +kernel
theorem dX2_copyFrom_70 : decode cX2_copyFrom 70 = .ok (.return_, 1) := by decide +kernel
set_option maxRecDepth 20000 in
theorem ggX3_init_X0_init : GoodIn wsX3_init wsX0_init := goodIn_r _ [9, 10, 2, 3] (by decide +kernel) (by decide +kernel)
set_option maxRecDepth 20000 in
theorem gX3_init_X0_init_n11 : GoodIn wsX3_init (wsX0_init) := ggX3_init_X0_init
theorem dX3_init_0 : decode cX3_init 0 = .ok (.aload_n 0, 1) := by decide +kernel
theorem dX3_init_1 : decode cX3_init 1 = .ok (.invokespecial 3, 3) := by decide +kernel
theorem dX3_init_4 : decode cX3_init 4 = .ok (.aload_n 0, 1) := by decide +kernel
theorem dX3_init_5 : decode cX3_init 5 = .ok (.new 9, 3) := by decide +kernel
theorem dX3_init_8 : decode cX3_init 8 = .ok (.dup, 1) := by decide +kernel
theorem dX3_init_9 : decode cX3_init 9 = .ok (.invokespecial 11, 3) := by decide +kernel
theorem dX3_init_12 : decode cX3_init 12 = .ok (.putfield 12, 3) := by decide +kernel
theorem dX3_init_15 : decode cX3_init 15 = .ok (.return_, 1) := by decide +kernel
set_option maxRecDepth 20000 in
theorem ggX3_begin_X0_shut : GoodIn wsX3_begin wsX0_shut := goodIn_r _ [14, 15, 16, 17, 28, 29, 30, 31, 32] (by decide +kernel) (by decide +kernel)
set_option maxRecDepth 20000 in
theorem gX3_begin_X0_shut : GoodIn wsX3_begin (wsV RX3 44 RX0 yX0_shut wsX0_shut) := goodIn_app (goodIn_of _ (by decide +kernel)) ggX3_begin_X0_shut
theorem dX3_begin_0 : decode cX3_begin 0 = .ok (.aload_n 0, 1) := by decide +kernel
theorem dX3_begin_1 : decode cX3_begin 1 = .ok (.iload_n 1, 1) := by decide +kernel
theorem dX3_begin_2 : decode cX3_begin 2 = .ok (.putfield 18, 3) := by decide +kernel
theorem dX3_begin_5 : decode cX3_begin 5 = .ok (.aload_n 0, 1) := by decide +kernel
theorem dX3_begin_6 : decode cX3_begin 6 = .ok (.iload_n 2, 1) := by decide +kernel
theorem dX3_begin_7 : decode cX3_begin 7 = .ok (.putfield 22, 3) := by decide +kernel
theorem dX3_begin_10 : decode cX3_begin 10 = .ok (.aload_n 0, 1) := by decide +kernel
theorem dX3_begin_11 : decode cX3_begin 11 = .ok (.iconst 0, 1) := by decide +kernel
theorem dX3_begin_12 : decode cX3_begin 12 = .ok (.putfield 25, 3) := by decide +kernel
theorem dX3_begin_15 : decode cX3_begin 15 = .ok (.aload_n 0, 1) := by decide +kernel
theorem dX3_begin_16 : decode cX3_begin 16 = .ok (.iconst 0, 1) := by decide +kernel
theorem dX3_begin_17 : decode cX3_begin 17 = .ok (.putfield 28, 3) := by decide +kernel
theorem dX3_begin_20 : decode cX3_begin 20 = .ok (.aload_n 0, 1) := by decide +kernel
theorem dX3_begin_21 : decode cX3_begin 21 = .ok (.iconst 1, 1) := by decide +kernel
theorem dX3_begin_22 : decode cX3_begin 22 = .ok (.putfield 31, 3) := by decide +kernel
theorem dX3_begin_25 : decode cX3_begin 25 = .ok (.aload_n 0, 1) := by decide +kernel
theorem dX3_begin_26 : decode cX3_begin 26 = .ok (.iconst 0, 1) := by decide +kernel
theorem dX3_begin_27 : decode cX3_begin 27 = .ok (.putfield 35, 3) := by decide +kernel
theorem dX3_begin_30 : decode cX3_begin 30 = .ok (.aload_n 0, 1) := by decide +kernel
theorem dX3_begin_31 : decode cX3_begin 31 = .ok (.iconst 0, 1) := by decide +kernel
theorem dX3_begin_32 : decode cX3_begin 32 = .ok (.putfield 38, 3) := by decide +kernel
theorem dX3_begin_35 : decode cX3_begin 35 = .ok (.aload_n 0, 1) := by decide +kernel
theorem dX3_begin_36 : decode cX3_begin 36 = .ok (.iconst 0, 1) := by decide +kernel
theorem dX3_begin_37 : decode cX3_begin 37 = .ok (.putfield 41, 3) := by decide +kernel
theorem dX3_begin_40 : decode cX3_begin 40 = .ok (.aload_n 0, 1) := by decide +kernel
theorem dX3_begin_41 : decode cX3_begin 41 = .ok (.getfield 12, 3) := by decide +kernel
theorem dX3_begin_44 : decode cX3_begin 44 = .ok (.invokevirtual 44, 3) := by decide +kernel
theorem dX3_begin_47 : decode cX3_begin 47 = .ok (.return_, 1) := by decide +kernel
theorem dX3_checkWhileHealthy_0 : decode cX3_checkWhileHealthy 0 = .ok (.aload_n 0, 1) := by decide +kernel
theorem dX3_checkWhileHealthy_1 : decode cX3_checkWhileHealthy 1 = .ok (.iload_n 1, 1) := by decide +kernel
theorem dX3_checkWhileHealthy_2 : decode cX3_checkWhileHealthy 2 = .ok (.ifCond .eq 7, 3) := by decide +kernel
theorem dX3_checkWhileHealthy_5 : decode cX3_checkWhileHealthy 5 = .ok (.iconst 0, 1) := by decide +kernel
theorem dX3_checkWhileHealthy_6 : decode cX3_checkWhileHealthy 6 = .ok (.goto 9, 3) := by decide +kernel
theorem dX3_checkWhileHealthy_9 : decode cX3_checkWhileHealthy 9 = .ok (.aload_n 0, 1) := by decide +kernel
theorem dX3_checkWhileHealthy_10 : decode cX3_checkWhileHealthy 10 = .ok (.getfield 38, 3) := by decide +kernel
theorem dX3_checkWhileHealthy_13 : decode cX3_checkWhileHealthy 13 = .ok (.iconst 1, 1) := by decide +kernel
theorem dX3_checkWhileHealthy_14 : decode cX3_checkWhileHealthy 14 = .ok (.iadd, 1) := by decide +kernel
theorem dX3_checkWhileHealthy_15 : decode cX3_checkWhileHealthy 15 = .ok (.putfield 38, 3) := by decide +kernel
theorem dX3_checkWhileHealthy_18 : decode cX3_checkWhileHealthy 18 = .ok (.aload_n 0, 1) := by decide +kernel
theorem dX3_checkWhileHealthy_19 : decode cX3_checkWhileHealthy 19 = .ok (.getfield 38, 3) := by decide +kernel
theorem dX3_checkWhileHealthy_22 : decode cX3_checkWhileHealthy 22 = .ok (.iload_n 2, 1) := by decide +kernel
theorem dX3_checkWhileHealthy_23 : decode cX3_checkWhileHealthy 23 = .ok (.if_icmp .lt 13, 3) := by decide +kernel
theorem dX3_checkWhileHealthy_26 : decode cX3_checkWhileHealthy 26 = .ok (.aload_n 0, 1) := by decide +kernel
theorem dX3_checkWhileHealthy_27 : decode cX3_checkWhileHealthy 27 = .ok (.iconst 0, 1) := by decide +kernel
theorem dX3_checkWhileHealthy_28 : decode cX3_checkWhileHealthy 28 = .ok (.putfield 31, 3) := by decide +kernel
theorem dX3_checkWhileHealthy_31 : decode cX3_checkWhileHealthy 31 = .ok (.aload_n 0, 1) := by decide +kernel
theorem dX3_checkWhileHealthy_32 : decode cX3_checkWhileHealthy 32 = .ok (.iconst 0, 1) := by decide +kernel
theorem dX3_checkWhileHealthy_33 : decode cX3_checkWhileHealthy 33 = .ok (.putfield 38, 3) := by decide +kernel
theorem dX3_checkWhileHealthy_36 : decode cX3_checkWhileHealthy 36 = .ok (.return_, 1) := by decide +kernel
theorem dX3_checkWhileUnhealthy_0 : decode cX3_checkWhileUnhealthy 0 = .ok (.aload_n 0, 1) := by decide +kernel
theorem dX3_checkWhileUnhealthy_1 : decode cX3_checkWhileUnhealthy 1 = .ok (.iload_n 1, 1) := by decide +kernel
theorem dX3_checkWhileUnhealthy_2 : decode cX3_checkWhileUnhealthy 2 = .ok (.ifCond .eq 12, 3) := by decide +kernel
theorem dX3_checkWhileUnhealthy_5 : decode cX3_checkWhileUnhealthy 5 = .ok (.aload_n 0, 1) := by decide +kernel
theorem dX3_checkWhileUnhealthy_6 : decode cX3_checkWhileUnhealthy 6 = .ok (.getfield 38, 3) := by decide +kernel
theorem dX3_checkWhileUnhealthy_9 : decode cX3_checkWhileUnhealthy 9 = .ok (.iconst 1, 1) := by decide +kernel
theorem dX3_checkWhileUnhealthy_10 : decode cX3_checkWhileUnhealthy 10 = .ok (.iadd, 1) := by decide +kernel
theorem dX3_checkWhileUnhealthy_11 : decode cX3_checkWhileUnhealthy 11 = .ok (.goto 4, 3) := by decide +kernel
theorem dX3_checkWhileUnhealthy_14 : decode cX3_checkWhileUnhealthy 14 = .ok (.iconst 0, 1) := by decide +kernel
theorem dX3_checkWhileUnhealthy_15 : decode cX3_checkWhileUnhealthy 15 = .ok (.putfield 38, 3) := by decide +kernel
theorem dX3_checkWhileUnhealthy_18 : decode cX3_checkWhileUnhealthy 18 = .ok (.aload_n 0, 1) := by decide +kernel
theorem dX3_checkWhileUnhealthy_19 : decode cX3_checkWhileUnhealthy 19 = .ok (.getfield 38, 3) := by decide +kernel
theorem dX3_checkWhileUnhealthy_22 : decode cX3_checkWhileUnhealthy 22 = .ok (.iload_n 2, 1) := by decide +kernel
theorem dX3_checkWhileUnhealthy_23 : decode cX3_checkWhileUnhealthy 23 = .ok (.if_icmp .lt 23, 3) := by decide +kernel
theorem dX3_checkWhileUnhealthy_26 : decode cX3_checkWhileUnhealthy 26 = .ok (.aload_n 0, 1) := by decide +kernel
theorem dX3_checkWhileUnhealthy_27 : decode cX3_checkWhileUnhealthy 27 = .ok (.iconst 1, 1) := by decide +kernel
theorem dX3_checkWhileUnhealthy_28 : decode cX3_checkWhileUnhealthy 28 = .ok (.putfield 31, 3) := by decide +kernel
theorem dX3_checkWhileUnhealthy_31 : decode cX3_checkWhileUnhealthy 31 = .ok (.aload_n 0, 1) := by decide +kernel
theorem dX3_checkWhileUnhealthy_32 : decode cX3_checkWhileUnhealthy 32 = .ok (.iconst 0, 1) := by decide +kernel
theorem dX3_checkWhileUnhealthy_33 : decode cX3_checkWhileUnhealthy 33 = .ok (.putfield 38, 3) := by decide +kernel
theorem dX3_checkWhileUnhealthy_36 : decode cX3_checkWhileUnhealthy 36 = .ok (.aload_n 0, 1) := by decide +kernel
theorem dX3_checkWhileUnhealthy_37 : decode cX3_checkWhileUnhealthy 37 = .ok (.iconst 1, 1) := by decide +kernel
theorem dX3_checkWhileUnhealthy_38 : decode cX3_checkWhileUnhealthy 38 = .ok (.putfield 41, 3) := by decide +kernel
theorem dX3_checkWhileUnhealthy_41 : decode cX3_checkWhileUnhealthy 41 = .ok (.aload_n 0, 1) := by decide +kernel
theorem dX3_checkWhileUnhealthy_42 : decode cX3_checkWhileUnhealthy 42 = .ok (.iload_n 3, 1) := by decide +kernel
theorem dX3_checkWhileUnhealthy_43 : decode cX3_checkWhileUnhealthy 43 = .ok (.putfield 47, 3) := by decide +kernel
theorem dX3_checkWhileUnhealthy_46 : decode cX3_checkWhileUnhealthy 46 = .ok (.return_, 1) := by decide +kernel
set_option maxRecDepth 20000 in
theorem ggX3_accepts_X0_letsThrough : GoodIn wsX3_accepts wsX0_letsThrough := goodIn_r _ [10, 11, 12, 23, 24, 25, 26, 27] (by decide +kernel) (by decide +kernel)
set_option maxRecDepth 20000 in
theorem gX3_accepts_X0_letsThrough : GoodIn wsX3_accepts (wsV RX3 50 RX0 yX0_letsThrough wsX0_letsThrough) := goodIn_app (goodIn_of _ (by decide +kernel)) ggX3_accepts_X0_letsThrough
theorem dX3_accepts_0 : decode cX3_accepts 0 = .ok (.aload_n 0, 1) := by decide +kernel
theorem dX3_accepts_1 : decode cX3_accepts 1 = .ok (.getfield 31, 3) := by decide +kernel
theorem dX3_accepts_4 : decode cX3_accepts 4 = .ok (.ifCond .eq 35, 3) := by decide +kernel
theorem dX3_accepts_7 : decode cX3_accepts 7 = .ok (.aload_n 0, 1) := by decide +kernel
theorem dX3_accepts_8 : decode cX3_accepts 8 = .ok (.getfield 35, 3) := by decide +kernel
theorem dX3_accepts_11 : decode cX3_accepts 11 = .ok (.ifCond .ne 28, 3) := by decide +kernel
theorem dX3_accepts_14 : decode cX3_accepts 14 = .ok (.aload_n 0, 1) := by decide +kernel
theorem dX3_accepts_15 : decode cX3_accepts 15 = .ok (.getfield 25, 3) := by decide +kernel
theorem dX3_accepts_18 : decode cX3_accepts 18 = .ok (.aload_n 0, 1) := by decide +kernel
theorem dX3_accepts_19 : decode cX3_accepts 19 = .ok (.getfield 22, 3) := by decide +kernel
theorem dX3_accepts_22 : decode cX3_accepts 22 = .ok (.if_icmp .ge 17, 3) := by decide +kernel
theorem dX3_accepts_25 : decode cX3_accepts 25 = .ok (.aload_n 0, 1) := by decide +kernel
theorem dX3_accepts_26 : decode cX3_accepts 26 = .ok (.getfield 12, 3) := by decide +kernel
theorem dX3_accepts_29 : decode cX3_accepts 29 = .ok (.invokevirtual 50, 3) := by decide +kernel
theorem dX3_accepts_32 : decode cX3_accepts 32 = .ok (.ifCond .eq 7, 3) := by decide +kernel
theorem dX3_accepts_35 : decode cX3_accepts 35 = .ok (.iconst 1, 1) := by decide +kernel
theorem dX3_accepts_36 : decode cX3_accepts 36 = .ok (.goto 4, 3) := by decide +kernel
theorem dX3_accepts_39 : decode cX3_accepts 39 = .ok (.iconst 0, 1) := by decide +kernel
theorem dX3_accepts_40 : decode cX3_accepts 40 = .ok (.ireturn, 1) := by decide +kernel
set_option maxRecDepth 20000 in
theorem ggX3_ringDistance_X5_mix : GoodIn wsX3_ringDistance wsX5_mix := goodIn_r _ [4, 5] (by decide +kernel) (by decide +kernel)
set_option maxRecDepth 20000 in
theorem gX3_ringDistance_X5_mix_n54 : GoodIn wsX3_ringDistance (wsX5_mix) := ggX3_ringDistance_X5_mix
set_option maxRecDepth 20000 in
theorem ggX3_ringDistance_X5_isBelowUnsigned : GoodIn wsX3_ringDistance wsX5_isBelowUnsigned := goodIn_r _ [7, 8] (by decide +kernel) (by decide +kernel)
set_option maxRecDepth 20000 in
theorem gX3_ringDistance_X5_isBelowUnsigned_n58 : GoodIn wsX3_ringDistance (wsX5_isBelowUnsigned) := ggX3_ringDistance_X5_isBelowUnsigned
theorem dX3_ringDistance_0 : decode cX3_ringDistance 0 = .ok (.sipush 1000, 3) := by decide +kernel
theorem dX3_ringDistance_3 : decode cX3_ringDistance 3 = .ok (.iload_n 1, 1) := by decide +kernel
theorem dX3_ringDistance_4 : decode cX3_ringDistance 4 = .ok (.imul, 1) := by decide +kernel
theorem dX3_ringDistance_5 : decode cX3_ringDistance 5 = .ok (.istore_n 3, 1) := by decide +kernel
theorem dX3_ringDistance_6 : decode cX3_ringDistance 6 = .ok (.iload_n 3, 1) := by decide +kernel
theorem dX3_ringDistance_7 : decode cX3_ringDistance 7 = .ok (.invokestatic 54, 3) := by decide +kernel
theorem dX3_ringDistance_10 : decode cX3_ringDistance 10 = .ok (.iload_n 2, 1) := by decide +kernel
theorem dX3_ringDistance_11 : decode cX3_ringDistance 11 = .ok (.isub, 1) := by decide +kernel
theorem dX3_ringDistance_12 : decode cX3_ringDistance 12 = .ok (.istore 4, 2) := by decide +kernel
theorem dX3_ringDistance_14 : decode cX3_ringDistance 14 = .ok (.iconst 1, 1) := by decide +kernel
theorem dX3_ringDistance_15 : decode cX3_ringDistance 15 = .ok (.istore 5, 2) := by decide +kernel
theorem dX3_ringDistance_17 : decode cX3_ringDistance 17 = .ok (.iload 5, 2) := by decide +kernel
theorem dX3_ringDistance_19 : decode cX3_ringDistance 19 = .ok (.iconst 4, 1) := by decide +kernel
theorem dX3_ringDistance_20 : decode cX3_ringDistance 20 = .ok (.aload_n 0, 1) := by decide +kernel
theorem dX3_ringDistance_21 : decode cX3_ringDistance 21 = .ok (.getfield 18, 3) := by decide +kernel
theorem dX3_ringDistance_24 : decode cX3_ringDistance 24 = .ok (.imul, 1) := by decide +kernel
theorem dX3_ringDistance_25 : decode cX3_ringDistance 25 = .ok (.if_icmp .ge 34, 3) := by decide +kernel
theorem dX3_ringDistance_28 : decode cX3_ringDistance 28 = .ok (.iload_n 3, 1) := by decide +kernel
theorem dX3_ringDistance_29 : decode cX3_ringDistance 29 = .ok (.iload 5, 2) := by decide +kernel
theorem dX3_ringDistance_31 : decode cX3_ringDistance 31 = .ok (.iadd, 1) := by decide +kernel
theorem dX3_ringDistance_32 : decode cX3_ringDistance 32 = .ok (.invokestatic 54, 3) := by decide +kernel
theorem dX3_ringDistance_35 : decode cX3_ringDistance 35 = .ok (.iload_n 2, 1) := by decide +kernel
theorem dX3_ringDistance_36 : decode cX3_ringDistance 36 = .ok (.isub, 1) := by decide +kernel
end
section
theorem dX3_ringDistance_37 : decode cX3_ringDistance 37 = .ok (.istore 6, 2) := by decide +kernel
theorem dX3_ringDistance_39 : decode cX3_ringDistance 39 = .ok (.iload 6, 2) := by decide +kernel
theorem dX3_ringDistance_41 : decode cX3_ringDistance 41 = .ok (.iload 4, 2) := by decide +kernel
theorem dX3_ringDistance_43 : decode cX3_ringDistance 43 = .ok (.invokestatic 58, 3) := by decide +kernel
theorem dX3_ringDistance_46 : decode cX3_ringDistance 46 = .ok (.ifCond .eq 7, 3) := by decide +kernel
theorem dX3_ringDistance_49 : decode cX3_ringDistance 49 = .ok (.iload 6, 2) := by decide +kernel
theorem dX3_ringDistance_51 : decode cX3_ringDistance 51 = .ok (.istore 4, 2) := by decide +kernel
theorem dX3_ringDistance_53 : decode cX3_ringDistance 53 = .ok (.iinc 5 1, 3) := by decide +kernel
theorem dX3_ringDistance_56 : decode cX3_ringDistance 56 = .ok (.goto (-39), 3) := by decide +kernel
theorem dX3_ringDistance_59 : decode cX3_ringDistance 59 = .ok (.iload 4, 2) := by decide +kernel
theorem dX3_ringDistance_61 : decode cX3_ringDistance 61 = .ok (.ireturn, 1) := by decide +kernel
set_option maxRecDepth 20000 in
theorem ggX3_copyFrom_X0_copyFrom : GoodIn wsX3_copyFrom wsX0_copyFrom := goodIn_r _ [15, 16, 17, 18, 19, 20, 31, 32, 33, 34, 35] (by decide +kernel) (by decide +kernel)
set_option maxRecDepth 20000 in
theorem gX3_copyFrom_X0_copyFrom : GoodIn wsX3_copyFrom (wsV RX3 62 RX0 yX0_copyFrom wsX0_copyFrom) := goodIn_app (goodIn_of _ (by decide +kernel)) ggX3_copyFrom_X0_copyFrom
theorem dX3_copyFrom_0 : decode cX3_copyFrom 0 = .ok (.aload_n 0, 1) := by decide +kernel
theorem dX3_copyFrom_1 : decode cX3_copyFrom 1 = .ok (.aload_n 1, 1) := by decide +kernel
theorem dX3_copyFrom_2 : decode cX3_copyFrom 2 = .ok (.getfield 18, 3) := by decide +kernel
theorem dX3_copyFrom_5 : decode cX3_copyFrom 5 = .ok (.putfield 18, 3) := by decide +kernel
theorem dX3_copyFrom_8 : decode cX3_copyFrom 8 = .ok (.aload_n 0, 1) := by decide +kernel
theorem dX3_copyFrom_9 : decode cX3_copyFrom 9 = .ok (.aload_n 1, 1) := by decide +kernel
theorem dX3_copyFrom_10 : decode cX3_copyFrom 10 = .ok (.getfield 22, 3) := by decide +kernel
theorem dX3_copyFrom_13 : decode cX3_copyFrom 13 = .ok (.putfield 22, 3) := by decide +kernel
theorem dX3_copyFrom_16 : decode cX3_copyFrom 16 = .ok (.aload_n 0, 1) := by decide +kernel
theorem dX3_copyFrom_17 : decode cX3_copyFrom 17 = .ok (.aload_n 1, 1) := by decide +kernel
theorem dX3_copyFrom_18 : decode cX3_copyFrom 18 = .ok (.getfield 25, 3) := by decide +kernel
theorem dX3_copyFrom_21 : decode cX3_copyFrom 21 = .ok (.putfield 25, 3) := by decide +kernel
theorem dX3_copyFrom_24 : decode cX3_copyFrom 24 = .ok (.aload_n 0, 1) := by decide +kernel
theorem dX3_copyFrom_25 : decode cX3_copyFrom 25 = .ok (.aload_n 1, 1) := by decide +kernel
theorem dX3_copyFrom_26 : decode cX3_copyFrom 26 = .ok (.getfield 28, 3) := by decide +kernel
theorem dX3_copyFrom_29 : decode cX3_copyFrom 29 = .ok (.putfield 28, 3) := by decide +kernel
theorem dX3_copyFrom_32 : decode cX3_copyFrom 32 = .ok (.aload_n 0, 1) := by decide +kernel
theorem dX3_copyFrom_33 : decode cX3_copyFrom 33 = .ok (.aload_n 1, 1) := by decide +kernel
theorem dX3_copyFrom_34 : decode cX3_copyFrom 34 = .ok (.getfield 31, 3) := by decide +kernel
theorem dX3_copyFrom_37 : decode cX3_copyFrom 37 = .ok (.putfield 31, 3) := by decide +kernel
theorem dX3_copyFrom_40 : decode cX3_copyFrom 40 = .ok (.aload_n 0, 1) := by decide +kernel
theorem dX3_copyFrom_41 : decode cX3_copyFrom 41 = .ok (.aload_n 1, 1) := by decide +kernel
theorem dX3_copyFrom_42 : decode cX3_copyFrom 42 = .ok (.getfield 35, 3) := by decide +kernel
theorem dX3_copyFrom_45 : decode cX3_copyFrom 45 = .ok (.putfield 35, 3) := by decide +kernel
theorem dX3_copyFrom_48 : decode cX3_copyFrom 48 = .ok (.aload_n 0, 1) := by decide +kernel
theorem dX3_copyFrom_49 : decode cX3_copyFrom 49 = .ok (.aload_n 1, 1) := by decide +kernel
theorem dX3_copyFrom_50 : decode cX3_copyFrom 50 = .ok (.getfield 38, 3) := by decide +kernel
theorem dX3_copyFrom_53 : decode cX3_copyFrom 53 = .ok (.putfield 38, 3) := by decide +kernel
theorem dX3_copyFrom_56 : decode cX3_copyFrom 56 = .ok (.aload_n 0, 1) := by decide +kernel
theorem dX3_copyFrom_57 : decode cX3_copyFrom 57 = .ok (.aload_n 1, 1) := by decide +kernel
theorem dX3_copyFrom_58 : decode cX3_copyFrom 58 = .ok (.getfield 41, 3) := by decide +kernel
theorem dX3_copyFrom_61 : decode cX3_copyFrom 61 = .ok (.putfield 41, 3) := by decide +kernel
theorem dX3_copyFrom_64 : decode cX3_copyFrom 64 = .ok (.aload_n 0, 1) := by decide +kernel
theorem dX3_copyFrom_65 : decode cX3_copyFrom 65 = .ok (.aload_n 1, 1) := by decide +kernel
theorem dX3_copyFrom_66 : decode cX3_copyFrom 66 = .ok (.getfield 47, 3) := by decide +kernel
theorem dX3_copyFrom_69 : decode cX3_copyFrom 69 = .ok (.putfield 47, 3) := by decide +kernel
theorem dX3_copyFrom_72 : decode cX3_copyFrom 72 = .ok (.aload_n 0, 1) := by decide +kernel
theorem dX3_copyFrom_73 : decode cX3_copyFrom 73 = .ok (.getfield 12, 3) := by decide +kernel
theorem dX3_copyFrom_76 : decode cX3_copyFrom 76 = .ok (.aload_n 1, 1) := by decide +kernel
theorem dX3_copyFrom_77 : decode cX3_copyFrom 77 = .ok (.getfield 12, 3) := by decide +kernel
theorem dX3_copyFrom_80 : decode cX3_copyFrom 80 = .ok (.invokevirtual 62, 3) := by decide +kernel
theorem dX3_copyFrom_83 : decode cX3_copyFrom 83 = .ok (.return_, 1) := by decide +kernel
set_option maxRecDepth 20000 in
theorem ggX4_init_X3_init : GoodIn wsX4_init wsX3_init := goodIn_r _ [24, 25, 2, 3, 26, 27, 28, 29, 30, 31, 32, 81, 82, 83, 84, 85, 63, 64, 65, 66, 67, 68, 69, 70, 71, 72] (by decide +kernel) (by decide +kernel)
set_option maxRecDepth 20000 in
theorem gX4_init_X3_init : GoodIn wsX4_init (wsX3_init) := ggX4_init_X3_init
set_option maxRecDepth 20000 in
theorem ggX4_init_X2_init : GoodIn wsX4_init wsX2_init := goodIn_r _ [35, 36, 2, 3, 37, 38, 39, 40, 41, 73, 74, 75, 76] (by decide +kernel) (by decide +kernel)
set_option maxRecDepth 20000 in
theorem gX4_init_X2_init : GoodIn wsX4_init (wsX2_init) := ggX4_init_X2_init
set_option maxRecDepth 20000 in
theorem ggX4_init_X1_init : GoodIn wsX4_init wsX1_init := goodIn_r _ [44, 45, 2, 3, 37, 46, 47, 48, 77, 78, 79, 80] (by decide +kernel) (by decide +kernel)
set_option maxRecDepth 20000 in
theorem gX4_init_X1_init : GoodIn wsX4_init (wsX1_init) := ggX4_init_X1_init
theorem dX4_init_0 : decode cX4_init 0 = .ok (.aload_n 0, 1) := by decide +kernel
theorem dX4_init_1 : decode cX4_init 1 = .ok (.invokespecial 3, 3) := by decide +kernel
theorem dX4_init_4 : decode cX4_init 4 = .ok (.aload_n 0, 1) := by decide +kernel
theorem dX4_init_5 : decode cX4_init 5 = .ok (.bipush 10, 2) := by decide +kernel
theorem dX4_init_7 : decode cX4_init 7 = .ok (.anewarray 9, 3) := by decide +kernel
theorem dX4_init_10 : decode cX4_init 10 = .ok (.putfield 11, 3) := by decide +kernel
theorem dX4_init_13 : decode cX4_init 13 = .ok (.iconst 0, 1) := by decide +kernel
theorem dX4_init_14 : decode cX4_init 14 = .ok (.istore_n 1, 1) := by decide +kernel
theorem dX4_init_15 : decode cX4_init 15 = .ok (.iload_n 1, 1) := by decide +kernel
theorem dX4_init_16 : decode cX4_init 16 = .ok (.bipush 10, 2) := by decide +kernel
theorem dX4_init_18 : decode cX4_init 18 = .ok (.if_icmp .ge 22, 3) := by decide +kernel
theorem dX4_init_21 : decode cX4_init 21 = .ok (.aload_n 0, 1) := by decide +kernel
theorem dX4_init_22 : decode cX4_init 22 = .ok (.getfield 11, 3) := by decide +kernel
theorem dX4_init_25 : decode cX4_init 25 = .ok (.iload_n 1, 1) := by decide +kernel
theorem dX4_init_26 : decode cX4_init 26 = .ok (.new 9, 3) := by decide +kernel
theorem dX4_init_29 : decode cX4_init 29 = .ok (.dup, 1) := by decide +kernel
theorem dX4_init_30 : decode cX4_init 30 = .ok (.invokespecial 17, 3) := by decide +kernel
theorem dX4_init_33 : decode cX4_init 33 = .ok (.aastore, 1) := by decide +kernel
theorem dX4_init_34 : decode cX4_init 34 = .ok (.iinc 1 1, 3) := by decide +kernel
theorem dX4_init_37 : decode cX4_init 37 = .ok (.goto (-22), 3) := by decide +kernel
theorem dX4_init_40 : decode cX4_init 40 = .ok (.aload_n 0, 1) := by decide +kernel
theorem dX4_init_41 : decode cX4_init 41 = .ok (.new 18, 3) := by decide +kernel
theorem dX4_init_44 : decode cX4_init 44 = .ok (.dup, 1) := by decide +kernel
theorem dX4_init_45 : decode cX4_init 45 = .ok (.invokespecial 20, 3) := by decide +kernel
theorem dX4_init_48 : decode cX4_init 48 = .ok (.putfield 21, 3) := by decide +kernel
theorem dX4_init_51 : decode cX4_init 51 = .ok (.aload_n 0, 1) := by decide +kernel
theorem dX4_init_52 : decode cX4_init 52 = .ok (.new 25, 3) := by decide +kernel
theorem dX4_init_55 : decode cX4_init 55 = .ok (.dup, 1) := by decide +kernel
theorem dX4_init_56 : decode cX4_init 56 = .ok (.invokespecial 27, 3) := by decide +kernel
theorem dX4_init_59 : decode cX4_init 59 = .ok (.putfield 28, 3) := by decide +kernel
theorem dX4_init_62 : decode cX4_init 62 = .ok (.aload_n 0, 1) := by decide +kernel
theorem dX4_init_63 : decode cX4_init 63 = .ok (.iconst 2, 1) := by decide +kernel
theorem dX4_init_64 : decode cX4_init 64 = .ok (.putfield 32, 3) := by decide +kernel
theorem dX4_init_67 : decode cX4_init 67 = .ok (.aload_n 0, 1) := by decide +kernel
theorem dX4_init_68 : decode cX4_init 68 = .ok (.iconst 3, 1) := by decide +kernel
theorem dX4_init_69 : decode cX4_init 69 = .ok (.putfield 36, 3) := by decide +kernel
theorem dX4_init_72 : decode cX4_init 72 = .ok (.aload_n 0, 1) := by decide +kernel
theorem dX4_init_73 : decode cX4_init 73 = .ok (.iconst 5, 1) := by decide +kernel
theorem dX4_init_74 : decode cX4_init 74 = .ok (.putfield 39, 3) := by decide +kernel
theorem dX4_init_77 : decode cX4_init 77 = .ok (.aload_n 0, 1) := by decide +kernel
theorem dX4_init_78 : decode cX4_init 78 = .ok (.iconst 0, 1) := by decide +kernel
theorem dX4_init_79 : decode cX4_init 79 = .ok (.putfield 42, 3) := by decide +kernel
theorem dX4_init_82 : decode cX4_init 82 = .ok (.aload_n 0, 1) := by decide +kernel
theorem dX4_init_83 : decode cX4_init 83 = .ok (.iconst (-1), 1) := by decide +kernel
theorem dX4_init_84 : decode cX4_init 84 = .ok (.putfield 45, 3) := by decide +kernel
theorem dX4_init_87 : decode cX4_init 87 = .ok (.aload_n 0, 1) := by decide +kernel
theorem dX4_init_88 : decode cX4_init 88 = .ok (.iconst 1, 1) := by decide +kernel
theorem dX4_init_89 : decode cX4_init 89 = .ok (.putfield 48, 3) := by decide +kernel
theorem dX4_init_92 : decode cX4_init 92 = .ok (.return_, 1) := by decide +kernel
theorem dX4_serverAt_0 : decode cX4_serverAt 0 = .ok (.iload_n 1, 1) := by decide +kernel
theorem dX4_serverAt_1 : decode cX4_serverAt 1 = .ok (.ifCond .lt 11, 3) := by decide +kernel
theorem dX4_serverAt_4 : decode cX4_serverAt 4 = .ok (.iload_n 1, 1) := by decide +kernel
theorem dX4_serverAt_5 : decode cX4_serverAt 5 = .ok (.aload_n 0, 1) := by decide +kernel
theorem dX4_serverAt_6 : decode cX4_serverAt 6 = .ok (.getfield 51, 3) := by decide +kernel
theorem dX4_serverAt_9 : decode cX4_serverAt 9 = .ok (.if_icmp .lt 13, 3) := by decide +kernel
theorem dX4_serverAt_12 : decode cX4_serverAt 12 = .ok (.new 54, 3) := by decide +kernel
theorem dX4_serverAt_15 : decode cX4_serverAt 15 = .ok (.dup, 1) := by decide +kernel
theorem dX4_serverAt_16 : decode cX4_serverAt 16 = .ok (.ldc 56, 2) := by decide +kernel
theorem dX4_serverAt_18 : decode cX4_serverAt 18 = .ok (.invokespecial 58, 3) := by decide +kernel
theorem dX4_serverAt_21 : decode cX4_serverAt 21 = .ok (.athrow, 1) := by decide +kernel
theorem dX4_serverAt_22 : decode cX4_serverAt 22 = .ok (.aload_n 0, 1) := by decide +kernel
theorem dX4_serverAt_23 : decode cX4_serverAt 23 = .ok (.getfield 11, 3) := by decide +kernel
theorem dX4_serverAt_26 : decode cX4_serverAt 26 = .ok (.iload_n 1, 1) := by decide +kernel
theorem dX4_serverAt_27 : decode cX4_serverAt 27 = .ok (.aaload, 1) := by decide +kernel
theorem dX4_serverAt_28 : decode cX4_serverAt 28 = .ok (.areturn, 1) := by decide +kernel
set_option maxRecDepth 20000 in
theorem ggX4_append_X3_begin : GoodIn wsX4_append wsX3_begin := goodIn_r _ [7, 8, 9, 10, 11, 12, 13, 14, 15, 16, 17, 18, 19, 20, 21, 22, 23, 24, 39, 40, 41, 42, 43, 44, 45, 46, 47, 48, 49, 50, 51, 52, 53] (by decide +kernel) (by decide +kernel)
set_option maxRecDepth 20000 in
theorem gX4_append_X3_begin : GoodIn wsX4_append (wsV RX4 61 RX3 yX3_begin wsX3_begin) := goodIn_app (goodIn_of _ (by decide +kernel)) ggX4_append_X3_begin
theorem dX4_append_0 : decode cX4_append 0 = .ok (.aload_n 0, 1) := by decide +kernel
theorem dX4_append_1 : decode cX4_append 1 = .ok (.getfield 51, 3) := by decide +kernel
theorem dX4_append_4 : decode cX4_append 4 = .ok (.istore_n 3, 1) := by decide +kernel
theorem dX4_append_5 : decode cX4_append 5 = .ok (.aload_n 0, 1) := by decide +kernel
theorem dX4_append_6 : decode cX4_append 6 = .ok (.getfield 11, 3) := by decide +kernel
theorem dX4_append_9 : decode cX4_append 9 = .ok (.iload_n 3, 1) := by decide +kernel
theorem dX4_append_10 : decode cX4_append 10 = .ok (.aaload, 1) := by decide +kernel
theorem dX4_append_11 : decode cX4_append 11 = .ok (.iload_n 1, 1) := by decide +kernel
theorem dX4_append_12 : decode cX4_append 12 = .ok (.iload_n 2, 1) := by decide +kernel
theorem dX4_append_13 : decode cX4_append 13 = .ok (.invokevirtual 61, 3) := by decide +kernel
theorem dX4_append_16 : decode cX4_append 16 = .ok (.aload_n 0, 1) := by decide +kernel
theorem dX4_append_17 : decode cX4_append 17 = .ok (.iload_n 3, 1) := by decide +kernel
theorem dX4_append_18 : decode cX4_append 18 = .ok (.iconst 1, 1) := by decide +kernel
theorem dX4_append_19 : decode cX4_append 19 = .ok (.iadd, 1) := by decide +kernel
theorem dX4_append_20 : decode cX4_append 20 = .ok (.putfield 51, 3) := by decide +kernel
theorem dX4_append_23 : decode cX4_append 23 = .ok (.iload_n 3, 1) := by decide +kernel
theorem dX4_append_24 : decode cX4_append 24 = .ok (.ireturn, 1) := by decide +kernel
theorem dX4_forgetSelections_0 : decode cX4_forgetSelections 0 = .ok (.aload_n 0, 1) := by decide +kernel
theorem dX4_forgetSelections_1 : decode cX4_forgetSelections 1 = .ok (.iconst (-1), 1) := by decide +kernel
theorem dX4_forgetSelections_2 : decode cX4_forgetSelections 2 = .ok (.putfield 45, 3) := by decide +kernel
theorem dX4_forgetSelections_5 : decode cX4_forgetSelections 5 = .ok (.iconst 0, 1) := by decide +kernel
theorem dX4_forgetSelections_6 : decode cX4_forgetSelections 6 = .ok (.istore_n 1, 1) := by decide +kernel
theorem dX4_forgetSelections_7 : decode cX4_forgetSelections 7 = .ok (.iload_n 1, 1) := by decide +kernel
theorem dX4_forgetSelections_8 : decode cX4_forgetSelections 8 = .ok (.aload_n 0, 1) := by decide +kernel
theorem dX4_forgetSelections_9 : decode cX4_forgetSelections 9 = .ok (.getfield 51, 3) := by decide +kernel
theorem dX4_forgetSelections_12 : decode cX4_forgetSelections 12 = .ok (.if_icmp .ge 19, 3) := by decide +kernel
theorem dX4_forgetSelections_15 : decode cX4_forgetSelections 15 = .ok (.aload_n 0, 1) := by decide +kernel
theorem dX4_forgetSelections_16 : decode cX4_forgetSelections 16 = .ok (.getfield 11, 3) := by decide +kernel
theorem dX4_forgetSelections_19 : decode cX4_forgetSelections 19 = .ok (.iload_n 1, 1) := by decide +kernel
theorem dX4_forgetSelections_20 : decode cX4_forgetSelections 20 = .ok (.aaload, 1) := by decide +kernel
theorem dX4_forgetSelections_21 : decode cX4_forgetSelections 21 = .ok (.iconst 0, 1) := by decide +kernel
theorem dX4_forgetSelections_22 : decode cX4_forgetSelections 22 = .ok (.putfield 65, 3) := by decide +kernel
theorem dX4_forgetSelections_25 : decode cX4_forgetSelections 25 = .ok (.iinc 1 1, 3) := by decide +kernel
theorem dX4_forgetSelections_28 : decode cX4_forgetSelections 28 = .ok (.goto (-21), 3) := by decide +kernel
theorem dX4_forgetSelections_31 : decode cX4_forgetSelections 31 = .ok (.return_, 1) := by decide +kernel
set_option maxRecDepth 20000 in
theorem ggX4_coolBreakers_X0_coolDown : GoodIn wsX4_coolBreakers wsX0_coolDown := goodIn_r _ [10, 11, 12, 13, 38, 39, 40, 41, 42] (by decide +kernel) (by decide +kernel)
set_option maxRecDepth 20000 in
theorem gX4_coolBreakers_X0_coolDown : GoodIn wsX4_coolBreakers (wsV RX4 75 RX0 yX0_coolDown wsX0_coolDown) := goodIn_app (goodIn_of _ (by decide +kernel)) ggX4_coolBreakers_X0_coolDown
theorem dX4_coolBreakers_0 : decode cX4_coolBreakers 0 = .ok (.iconst 0, 1) := by decide +kernel
theorem dX4_coolBreakers_1 : decode cX4_coolBreakers 1 = .ok (.istore_n 1, 1) := by decide +kernel
theorem dX4_coolBreakers_2 : decode cX4_coolBreakers 2 = .ok (.iload_n 1, 1) := by decide +kernel
theorem dX4_coolBreakers_3 : decode cX4_coolBreakers 3 = .ok (.aload_n 0, 1) := by decide +kernel
theorem dX4_coolBreakers_4 : decode cX4_coolBreakers 4 = .ok (.getfield 51, 3) := by decide +kernel
theorem dX4_coolBreakers_7 : decode cX4_coolBreakers 7 = .ok (.if_icmp .ge 29, 3) := by decide +kernel
theorem dX4_coolBreakers_10 : decode cX4_coolBreakers 10 = .ok (.aload_n 0, 1) := by decide +kernel
theorem dX4_coolBreakers_11 : decode cX4_coolBreakers 11 = .ok (.getfield 11, 3) := by decide +kernel
theorem dX4_coolBreakers_14 : decode cX4_coolBreakers 14 = .ok (.iload_n 1, 1) := by decide +kernel
theorem dX4_coolBreakers_15 : decode cX4_coolBreakers 15 = .ok (.aaload, 1) := by decide +kernel
theorem dX4_coolBreakers_16 : decode cX4_coolBreakers 16 = .ok (.getfield 68, 3) := by decide +kernel
theorem dX4_coolBreakers_19 : decode cX4_coolBreakers 19 = .ok (.aload_n 0, 1) := by decide +kernel
theorem dX4_coolBreakers_20 : decode cX4_coolBreakers 20 = .ok (.getfield 72, 3) := by decide +kernel
theorem dX4_coolBreakers_23 : decode cX4_coolBreakers 23 = .ok (.aload_n 0, 1) := by decide +kernel
theorem dX4_coolBreakers_24 : decode cX4_coolBreakers 24 = .ok (.getfield 39, 3) := by decide +kernel
theorem dX4_coolBreakers_27 : decode cX4_coolBreakers 27 = .ok (.invokevirtual 75, 3) := by decide +kernel
theorem dX4_coolBreakers_30 : decode cX4_coolBreakers 30 = .ok (.iinc 1 1, 3) := by decide +kernel
theorem dX4_coolBreakers_33 : decode cX4_coolBreakers 33 = .ok (.goto (-31), 3) := by decide +kernel
theorem dX4_coolBreakers_36 : decode cX4_coolBreakers 36 = .ok (.return_, 1) := by decide +kernel
theorem dX4_totalLoad_0 : decode cX4_totalLoad 0 = .ok (.iconst 0, 1) := by decide +kernel
theorem dX4_totalLoad_1 : decode cX4_totalLoad 1 = .ok (.istore_n 1, 1) := by decide +kernel
theorem dX4_totalLoad_2 : decode cX4_totalLoad 2 = .ok (.iconst 0, 1) := by decide +kernel
theorem dX4_totalLoad_3 : decode cX4_totalLoad 3 = .ok (.istore_n 2, 1) := by decide +kernel
theorem dX4_totalLoad_4 : decode cX4_totalLoad 4 = .ok (.iload_n 2, 1) := by decide +kernel
theorem dX4_totalLoad_5 : decode cX4_totalLoad 5 = .ok (.aload_n 0, 1) := by decide +kernel
theorem dX4_totalLoad_6 : decode cX4_totalLoad 6 = .ok (.getfield 51, 3) := by decide +kernel
theorem dX4_totalLoad_9 : decode cX4_totalLoad 9 = .ok (.if_icmp .ge 21, 3) := by decide +kernel
theorem dX4_totalLoad_12 : decode cX4_totalLoad 12 = .ok (.iload_n 1, 1) := by decide +kernel
theorem dX4_totalLoad_13 : decode cX4_totalLoad 13 = .ok (.aload_n 0, 1) := by decide +kernel
theorem dX4_totalLoad_14 : decode cX4_totalLoad 14 = .ok (.getfield 11, 3) := by decide +kernel
theorem dX4_totalLoad_17 : decode cX4_totalLoad 17 = .ok (.iload_n 2, 1) := by decide +kernel
theorem dX4_totalLoad_18 : decode cX4_totalLoad 18 = .ok (.aaload, 1) := by decide +kernel
theorem dX4_totalLoad_19 : decode cX4_totalLoad 19 = .ok (.getfield 80, 3) := by decide +kernel
theorem dX4_totalLoad_22 : decode cX4_totalLoad 22 = .ok (.iadd, 1) := by decide +kernel
theorem dX4_totalLoad_23 : decode cX4_totalLoad 23 = .ok (.istore_n 1, 1) := by decide +kernel
theorem dX4_totalLoad_24 : decode cX4_totalLoad 24 = .ok (.iinc 2 1, 3) := by decide +kernel
theorem dX4_totalLoad_27 : decode cX4_totalLoad 27 = .ok (.goto (-23), 3) := by decide +kernel
theorem dX4_totalLoad_30 : decode cX4_totalLoad 30 = .ok (.iload_n 1, 1) := by decide +kernel
theorem dX4_totalLoad_31 : decode cX4_totalLoad 31 = .ok (.ireturn, 1) := by decide +kernel
theorem dX4_weightNow_0 : decode cX4_weightNow 0 = .ok (.aload_n 0, 1) := by decide +kernel
theorem dX4_weightNow_1 : decode cX4_weightNow 1 = .ok (.getfield 72, 3) := by decide +kernel
theorem dX4_weightNow_4 : decode cX4_weightNow 4 = .ok (.aload_n 1, 1) := by decide +kernel
theorem dX4_weightNow_5 : decode cX4_weightNow 5 = .ok (.getfield 83, 3) := by decide +kernel
theorem dX4_weightNow_8 : decode cX4_weightNow 8 = .ok (.isub, 1) := by decide +kernel
theorem dX4_weightNow_9 : decode cX4_weightNow 9 = .ok (.istore_n 2, 1) := by decide +kernel
theorem dX4_weightNow_10 : decode cX4_weightNow 10 = .ok (.aload_n 0, 1) := by decide +kernel
theorem dX4_weightNow_11 : decode cX4_weightNow 11 = .ok (.getfield 86, 3) := by decide +kernel
theorem dX4_weightNow_14 : decode cX4_weightNow 14 = .ok (.ifCond .eq 18, 3) := by decide +kernel
theorem dX4_weightNow_17 : decode cX4_weightNow 17 = .ok (.aload_n 1, 1) := by decide +kernel
theorem dX4_weightNow_18 : decode cX4_weightNow 18 = .ok (.getfield 89, 3) := by decide +kernel
theorem dX4_weightNow_21 : decode cX4_weightNow 21 = .ok (.ifCond .eq 11, 3) := by decide +kernel
theorem dX4_weightNow_24 : decode cX4_weightNow 24 = .ok (.iload_n 2, 1) := by decide +kernel
theorem dX4_weightNow_25 : decode cX4_weightNow 25 = .ok (.aload_n 0, 1) := by decide +kernel
theorem dX4_weightNow_26 : decode cX4_weightNow 26 = .ok (.getfield 86, 3) := by decide +kernel
theorem dX4_weightNow_29 : decode cX4_weightNow 29 = .ok (.if_icmp .lt 8, 3) := by decide +kernel
theorem dX4_weightNow_32 : decode cX4_weightNow 32 = .ok (.aload_n 1, 1) := by decide +kernel
theorem dX4_weightNow_33 : decode cX4_weightNow 33 = .ok (.getfield 93, 3) := by decide +kernel
theorem dX4_weightNow_36 : decode cX4_weightNow 36 = .ok (.ireturn, 1) := by decide +kernel
theorem dX4_weightNow_37 : decode cX4_weightNow 37 = .ok (.iconst 1, 1) := by decide +kernel
theorem dX4_weightNow_38 : decode cX4_weightNow 38 = .ok (.aload_n 1, 1) := by decide +kernel
theorem dX4_weightNow_39 : decode cX4_weightNow 39 = .ok (.getfield 93, 3) := by decide +kernel
theorem dX4_weightNow_42 : decode cX4_weightNow 42 = .ok (.iload_n 2, 1) := by decide +kernel
theorem dX4_weightNow_43 : decode cX4_weightNow 43 = .ok (.iconst 1, 1) := by decide +kernel
theorem dX4_weightNow_44 : decode cX4_weightNow 44 = .ok (.iadd, 1) := by decide +kernel
theorem dX4_weightNow_45 : decode cX4_weightNow 45 = .ok (.imul, 1) := by decide +kernel
theorem dX4_weightNow_46 : decode cX4_weightNow 46 = .ok (.aload_n 0, 1) := by decide +kernel
theorem dX4_weightNow_47 : decode cX4_weightNow 47 = .ok (.getfield 86, 3) := by decide +kernel
theorem dX4_weightNow_50 : decode cX4_weightNow 50 = .ok (.idiv, 1) := by decide +kernel
theorem dX4_weightNow_51 : decode cX4_weightNow 51 = .ok (.invokestatic 96, 3) := by decide +kernel
theorem dX4_weightNow_54 : decode cX4_weightNow 54 = .ok (.ireturn, 1) := by decide +kernel
set_option maxRecDepth 20000 in
theorem ggX4_serverFor_X2_isFull : GoodIn wsX4_serverFor wsX2_isFull := goodIn_r _ [6, 7, 136, 137, 138, 139] (by decide +kernel) (by decide +kernel)
set_option maxRecDepth 20000 in
theorem gX4_serverFor_X2_isFull : GoodIn wsX4_serverFor (wsV RX4 102 RX2 yX2_isFull wsX2_isFull) := goodIn_app (goodIn_of _ (by decide +kernel)) ggX4_serverFor_X2_isFull
set_option maxRecDepth 20000 in
theorem ggX4_serverFor_X4_stickyServer : GoodIn wsX4_serverFor wsX4_stickyServer := goodIn_ca (goodIn_r _ [12, 13, 14, 15, 16, 17, 18, 19, 20, 21, 22, 23, 24, 25, 26, 27, 11, 28, 29, 30, 31, 32, 33, 34, 35, 36, 37, 38, 39, 40, 41, 42, 43, 44, 45, 46, 47, 48, 49, 122, 123, 124, 125, 126, 127, 128, 129, 130, 131, 132, 133, 134, 135, 140, 141, 142, 143, 144, 145, 146, 147, 148, 149, 150, 151, 152, 153, 154, 155, 156, 157, 158] (by decide +kernel) (by decide +kernel)) (goodIn_sub (fun _ h => List.mem_cons_of_mem _ (List.mem_append_right _ h)) (by decide +kernel))
set_option maxRecDepth 20000 in
theorem gX4_serverFor_X4_stickyServer : GoodIn wsX4_serverFor (wsV RX4 106 RX4 yX4_stickyServer wsX4_stickyServer) := goodIn_app (goodIn_of _ (by decide +kernel)) ggX4_serverFor_X4_stickyServer
set_option maxRecDepth 20000 in
theorem ggX4_serverFor_X4_selectByPolicy : GoodIn wsX4_serverFor wsX4_selectByPolicy := goodIn_ca (goodIn_r _ [53, 54, 55, 56, 57, 11, 58, 59, 60, 61, 62, 63, 31, 25, 26, 27, 28, 29, 30, 32, 33, 34, 35, 36, 37, 38, 39, 40, 41, 42, 43, 44, 45, 46, 47, 48, 49, 64, 65, 66, 67, 68, 69, 70, 71, 72, 14, 73, 74, 75, 76, 77, 78, 79, 80, 81, 82, 83, 84, 85, 86, 87, 88, 89, 90, 91, 92, 93, 94, 95, 96, 97, 98, 99, 100, 101, 102, 103, 104, 105, 106, 107, 108, 109, 110, 111, 112, 113, 114, 115, 116, 117, 118, 119, 120, 121, 122, 123, 124, 125, 126, 127, 128, 129, 130, 131, 132, 133, 134, 135, 144, 145, 146, 147, 148, 149, 150, 151, 152, 153, 154, 155, 156, 157, 158] (by decide +kernel) (by decide +kernel)) (goodIn_sub (fun _ h => List.mem_cons_of_mem _ (List.mem_append_right _ h)) (by decide +kernel))
set_option maxRecDepth 20000 in
theorem gX4_serverFor_X4_selectByPolicy : GoodIn wsX4_serverFor (wsV RX4 110 RX4 yX4_selectByPolicy wsX4_selectByPolicy) := goodIn_app (goodIn_of _ (by decide +kernel)) ggX4_serverFor_X4_selectByPolicy
theorem dX4_serverFor_0 : decode cX4_serverFor 0 = .ok (.aload_n 0, 1) := by decide +kernel
theorem dX4_serverFor_1 : decode cX4_serverFor 1 = .ok (.getfield 21, 3) := by decide +kernel
theorem dX4_serverFor_4 : decode cX4_serverFor 4 = .ok (.invokevirtual 102, 3) := by decide +kernel
theorem dX4_serverFor_7 : decode cX4_serverFor 7 = .ok (.ifCond .eq 5, 3) := by decide +kernel
theorem dX4_serverFor_10 : decode cX4_serverFor 10 = .ok (.iconst (-1), 1) := by decide +kernel
theorem dX4_serverFor_11 : decode cX4_serverFor 11 = .ok (.ireturn, 1) := by decide +kernel
theorem dX4_serverFor_12 : decode cX4_serverFor 12 = .ok (.aload_n 0, 1) := by decide +kernel
theorem dX4_serverFor_13 : decode cX4_serverFor 13 = .ok (.iload_n 1, 1) := by decide +kernel
theorem dX4_serverFor_14 : decode cX4_serverFor 14 = .ok (.invokevirtual 106, 3) := by decide +kernel
theorem dX4_serverFor_17 : decode cX4_serverFor 17 = .ok (.istore_n 2, 1) := by decide +kernel
theorem dX4_serverFor_18 : decode cX4_serverFor 18 = .ok (.iload_n 2, 1) := by decide +kernel
theorem dX4_serverFor_19 : decode cX4_serverFor 19 = .ok (.iconst (-1), 1) := by decide +kernel
theorem dX4_serverFor_20 : decode cX4_serverFor 20 = .ok (.if_icmp .eq 7, 3) := by decide +kernel
theorem dX4_serverFor_23 : decode cX4_serverFor 23 = .ok (.iload_n 2, 1) := by decide +kernel
theorem dX4_serverFor_24 : decode cX4_serverFor 24 = .ok (.goto 8, 3) := by decide +kernel
theorem dX4_serverFor_27 : decode cX4_serverFor 27 = .ok (.aload_n 0, 1) := by decide +kernel
theorem dX4_serverFor_28 : decode cX4_serverFor 28 = .ok (.iload_n 1, 1) := by decide +kernel
theorem dX4_serverFor_29 : decode cX4_serverFor 29 = .ok (.invokevirtual 110, 3) := by decide +kernel
theorem dX4_serverFor_32 : decode cX4_serverFor 32 = .ok (.ireturn, 1) := by decide +kernel
set_option maxRecDepth 20000 in
theorem ggX4_stickyServer_X1_placeOf : GoodIn wsX4_stickyServer wsX1_placeOf := goodIn_r _ [10, 11, 12, 53, 54, 55, 56] (by decide +kernel) (by decide +kernel)
set_option maxRecDepth 20000 in
theorem gX4_stickyServer_X1_placeOf : GoodIn wsX4_stickyServer (wsV RX4 113 RX1 yX1_placeOf wsX1_placeOf) := goodIn_app (goodIn_of _ (by decide +kernel)) ggX4_stickyServer_X1_placeOf
set_option maxRecDepth 20000 in
theorem ggX4_stickyServer_X4_serverAt : GoodIn wsX4_stickyServer wsX4_serverAt := goodIn_ca (goodIn_r _ [17, 18, 19, 20, 21, 39, 40, 41, 42, 43, 44, 45, 46, 47, 48, 49, 50, 51, 52] (by decide +kernel) (by decide +kernel)) (goodIn_sub (fun _ h => List.mem_cons_of_mem _ (List.mem_append_right _ h)) (by decide +kernel))
set_option maxRecDepth 20000 in
theorem gX4_stickyServer_X4_serverAt : GoodIn wsX4_stickyServer (wsV RX4 126 RX4 yX4_serverAt wsX4_serverAt) := goodIn_app (goodIn_of _ (by decide +kernel)) ggX4_stickyServer_X4_serverAt
set_option maxRecDepth 20000 in
theorem ggX4_stickyServer_X3_accepts : GoodIn wsX4_stickyServer wsX3_accepts := goodIn_r _ [26, 27, 28, 29, 30, 31, 32, 33, 34, 35, 36, 37, 38, 57, 58, 59, 60, 61, 62, 63, 64, 65, 66, 67, 68, 69, 70, 71] (by decide +kernel) (by decide +kernel)
set_option maxRecDepth 20000 in
theorem gX4_stickyServer_X3_accepts : GoodIn wsX4_stickyServer (wsV RX4 130 RX3 yX3_accepts wsX3_accepts) := goodIn_app (goodIn_of _ (by decide +kernel)) ggX4_stickyServer_X3_accepts
theorem dX4_stickyServer_0 : decode cX4_stickyServer 0 = .ok (.aload_n 0, 1) := by decide +kernel
theorem dX4_stickyServer_1 : decode cX4_stickyServer 1 = .ok (.getfield 28, 3) := by decide +kernel
theorem dX4_stickyServer_4 : decode cX4_stickyServer 4 = .ok (.iload_n 1, 1) := by decide +kernel
theorem dX4_stickyServer_5 : decode cX4_stickyServer 5 = .ok (.invokevirtual 113, 3) := by decide +kernel
theorem dX4_stickyServer_8 : decode cX4_stickyServer 8 = .ok (.istore_n 2, 1) := by decide +kernel
theorem dX4_stickyServer_9 : decode cX4_stickyServer 9 = .ok (.iload_n 2, 1) := by decide +kernel
theorem dX4_stickyServer_10 : decode cX4_stickyServer 10 = .ok (.iconst (-1), 1) := by decide +kernel
theorem dX4_stickyServer_11 : decode cX4_stickyServer 11 = .ok (.if_icmp .eq 24, 3) := by decide +kernel
theorem dX4_stickyServer_14 : decode cX4_stickyServer 14 = .ok (.aload_n 0, 1) := by decide +kernel
theorem dX4_stickyServer_15 : decode cX4_stickyServer 15 = .ok (.getfield 72, 3) := by decide +kernel
theorem dX4_stickyServer_18 : decode cX4_stickyServer 18 = .ok (.aload_n 0, 1) := by decide +kernel
theorem dX4_stickyServer_19 : decode cX4_stickyServer 19 = .ok (.getfield 28, 3) := by decide +kernel
theorem dX4_stickyServer_22 : decode cX4_stickyServer 22 = .ok (.getfield 116, 3) := by decide +kernel
theorem dX4_stickyServer_25 : decode cX4_stickyServer 25 = .ok (.iload_n 2, 1) := by decide +kernel
theorem dX4_stickyServer_26 : decode cX4_stickyServer 26 = .ok (.iaload, 1) := by decide +kernel
theorem dX4_stickyServer_27 : decode cX4_stickyServer 27 = .ok (.isub, 1) := by decide +kernel
theorem dX4_stickyServer_28 : decode cX4_stickyServer 28 = .ok (.aload_n 0, 1) := by decide +kernel
theorem dX4_stickyServer_29 : decode cX4_stickyServer 29 = .ok (.getfield 120, 3) := by decide +kernel
theorem dX4_stickyServer_32 : decode cX4_stickyServer 32 = .ok (.if_icmp .lt 5, 3) := by decide +kernel
theorem dX4_stickyServer_35 : decode cX4_stickyServer 35 = .ok (.iconst (-1), 1) := by decide +kernel
theorem dX4_stickyServer_36 : decode cX4_stickyServer 36 = .ok (.ireturn, 1) := by decide +kernel
theorem dX4_stickyServer_37 : decode cX4_stickyServer 37 = .ok (.aload_n 0, 1) := by decide +kernel
theorem dX4_stickyServer_38 : decode cX4_stickyServer 38 = .ok (.getfield 28, 3) := by decide +kernel
theorem dX4_stickyServer_41 : decode cX4_stickyServer 41 = .ok (.getfield 123, 3) := by decide +kernel
theorem dX4_stickyServer_44 : decode cX4_stickyServer 44 = .ok (.iload_n 2, 1) := by decide +kernel
theorem dX4_stickyServer_45 : decode cX4_stickyServer 45 = .ok (.iaload, 1) := by decide +kernel
theorem dX4_stickyServer_46 : decode cX4_stickyServer 46 = .ok (.istore_n 3, 1) := by decide +kernel
theorem dX4_stickyServer_47 : decode cX4_stickyServer 47 = .ok (.aload_n 0, 1) := by decide +kernel
theorem dX4_stickyServer_48 : decode cX4_stickyServer 48 = .ok (.iload_n 3, 1) := by decide +kernel
theorem dX4_stickyServer_49 : decode cX4_stickyServer 49 = .ok (.invokevirtual 126, 3) := by decide +kernel
theorem dX4_stickyServer_52 : decode cX4_stickyServer 52 = .ok (.invokevirtual 130, 3) := by decide +kernel
theorem dX4_stickyServer_55 : decode cX4_stickyServer 55 = .ok (.ifCond .eq 7, 3) := by decide +kernel
theorem dX4_stickyServer_58 : decode cX4_stickyServer 58 = .ok (.iload_n 3, 1) := by decide +kernel
theorem dX4_stickyServer_59 : decode cX4_stickyServer 59 = .ok (.goto 4, 3) := by decide +kernel
theorem dX4_stickyServer_62 : decode cX4_stickyServer 62 = .ok (.iconst (-1), 1) := by decide +kernel
theorem dX4_stickyServer_63 : decode cX4_stickyServer 63 = .ok (.ireturn, 1) := by decide +kernel
set_option maxRecDepth 20000 in
theorem ggX4_selectByPolicy_X4_selectNext : GoodIn wsX4_selectByPolicy wsX4_selectNext := goodIn_ca (goodIn_r _ [6, 7, 8, 9, 10, 5, 11, 12, 13, 14, 15, 16, 17, 18, 19, 20, 21, 22, 23, 24, 25, 26, 27, 28, 29, 30, 31, 32, 33, 34, 35, 36, 96, 97, 98, 99, 100, 101, 102, 103, 104, 105, 106, 107, 108, 109, 110, 111, 112, 113, 114, 115, 116, 117, 118, 119, 120, 121, 122, 123, 124] (by decide +kernel) (by decide +kernel)) (goodIn_sub (fun _ h => List.mem_cons_of_mem _ (List.mem_append_right _ h)) (by decide +kernel))
set_option maxRecDepth 20000 in
theorem gX4_selectByPolicy_X4_selectNext : GoodIn wsX4_selectByPolicy (wsV RX4 133 RX4 yX4_selectNext wsX4_selectNext) := goodIn_app (goodIn_of _ (by decide +kernel)) ggX4_selectByPolicy_X4_selectNext
set_option maxRecDepth 20000 in
theorem ggX4_selectByPolicy_X4_selectByCredit : GoodIn wsX4_selectByPolicy wsX4_selectByCredit := goodIn_r _ [40, 12, 19, 41, 42, 43, 44, 5, 45, 46, 47, 48, 49, 50, 51, 52, 53, 54, 20, 21, 22, 23, 24, 25, 26, 27, 28, 29, 30, 31, 32, 33, 34, 35, 36, 96, 97, 98, 99, 100, 101, 102, 103, 104, 105, 106, 107, 108, 109, 110, 111, 112, 113, 114, 115, 116, 117, 118, 119, 120, 121, 122, 123, 124] (by decide +kernel) (by decide +kernel)
set_option maxRecDepth 20000 in
theorem gX4_selectByPolicy_X4_selectByCredit : GoodIn wsX4_selectByPolicy (wsV RX4 137 RX4 yX4_selectByCredit wsX4_selectByCredit) := goodIn_app (goodIn_of _ (by decide +kernel)) ggX4_selectByPolicy_X4_selectByCredit
set_option maxRecDepth 20000 in
theorem ggX4_selectByPolicy_X4_selectLeastLoaded : GoodIn wsX4_selectByPolicy wsX4_selectLeastLoaded := goodIn_ca (goodIn_r _ [58, 12, 19, 20, 21, 22, 23, 24, 25, 26, 27, 28, 29, 30, 31, 32, 33, 34, 35, 36, 13, 14, 15, 5, 16, 17, 18, 59, 60, 61, 62, 63, 42, 43, 44, 45, 46, 47, 48, 49, 50, 51, 52, 53, 54, 96, 97, 98, 99, 100, 101, 102, 103, 104, 105, 106, 107, 108, 109, 110, 111, 112, 113, 114, 115, 116, 117, 118, 119, 120, 121, 122, 123, 124] (by decide +kernel) (by decide +kernel)) (goodIn_sub (fun _ h => List.mem_cons_of_mem _ (List.mem_append_right _ h)) (by decide +kernel))
set_option maxRecDepth 20000 in
theorem gX4_selectByPolicy_X4_selectLeastLoaded : GoodIn wsX4_selectByPolicy (wsV RX4 140 RX4 yX4_selectLeastLoaded wsX4_selectLeastLoaded) := goodIn_app (goodIn_of _ (by decide +kernel)) ggX4_selectByPolicy_X4_selectLeastLoaded
set_option maxRecDepth 20000 in
theorem ggX4_selectByPolicy_X4_firstOnRing : GoodIn wsX4_selectByPolicy wsX4_firstOnRing := goodIn_r _ [67, 12, 19, 68, 69, 70, 71, 20, 21, 22, 23, 24, 25, 26, 27, 28, 29, 30, 31, 32, 33, 34, 35, 36, 72, 73, 74, 75, 76, 77, 78, 79, 96, 97, 98, 99, 100, 101, 102, 103, 104, 105, 106, 107, 108, 109, 110, 111, 112, 113, 114, 115, 116, 117, 118, 119, 120, 121, 122, 123, 124] (by decide +kernel) (by decide +kernel)
set_option maxRecDepth 20000 in
theorem gX4_selectByPolicy_X4_firstOnRing : GoodIn wsX4_selectByPolicy (wsV RX4 143 RX4 yX4_firstOnRing wsX4_firstOnRing) := goodIn_app (goodIn_of _ (by decide +kernel)) ggX4_selectByPolicy_X4_firstOnRing
set_option maxRecDepth 20000 in
theorem ggX4_selectByPolicy_X4_selectOfTwo : GoodIn wsX4_selectByPolicy wsX4_selectOfTwo := goodIn_ca (goodIn_r _ [83, 84, 63, 85, 86, 87, 5, 88, 12, 19, 20, 21, 22, 23, 24, 25, 26, 27, 28, 29, 30, 31, 32, 33, 34, 35, 36, 89, 69, 90, 91, 92, 93, 94, 95, 13, 14, 15, 16, 17, 18, 96, 97, 98, 99, 100, 101, 102, 103, 104, 105, 106, 107, 108, 109, 110, 111, 112, 113, 114, 115, 116, 117, 118, 119, 120, 121, 122, 123, 124] (by decide +kernel) (by decide +kernel)) (goodIn_sub (fun _ h => List.mem_cons_of_mem _ (List.mem_append_right _ h)) (by decide +kernel))
set_option maxRecDepth 20000 in
theorem gX4_selectByPolicy_X4_selectOfTwo : GoodIn wsX4_selectByPolicy (wsV RX4 147 RX4 yX4_selectOfTwo wsX4_selectOfTwo) := goodIn_app (goodIn_of _ (by decide +kernel)) ggX4_selectByPolicy_X4_selectOfTwo
theorem dX4_selectByPolicy_0 : decode cX4_selectByPolicy 0 = .ok (.aload_n 0, 1) := by decide +kernel
theorem dX4_selectByPolicy_1 : decode cX4_selectByPolicy 1 = .ok (.getfield 42, 3) := by decide +kernel
theorem dX4_selectByPolicy_4 : decode cX4_selectByPolicy 4 = .ok (.tableswitch 54 0 3 #[32, 37, 42, 47], 32) := by decide +kernel
theorem dX4_selectByPolicy_36 : decode cX4_selectByPolicy 36 = .ok (.aload_n 0, 1) := by decide +kernel
theorem dX4_selectByPolicy_37 : decode cX4_selectByPolicy 37 = .ok (.invokevirtual 133, 3) := by decide +kernel
theorem dX4_selectByPolicy_40 : decode cX4_selectByPolicy 40 = .ok (.ireturn, 1) := by decide +kernel
theorem dX4_selectByPolicy_41 : decode cX4_selectByPolicy 41 = .ok (.aload_n 0, 1) := by decide +kernel
theorem dX4_selectByPolicy_42 : decode cX4_selectByPolicy 42 = .ok (.invokevirtual 137, 3) := by decide +kernel
theorem dX4_selectByPolicy_45 : decode cX4_selectByPolicy 45 = .ok (.ireturn, 1) := by decide +kernel
theorem dX4_selectByPolicy_46 : decode cX4_selectByPolicy 46 = .ok (.aload_n 0, 1) := by decide +kernel
theorem dX4_selectByPolicy_47 : decode cX4_selectByPolicy 47 = .ok (.invokevirtual 140, 3) := by decide +kernel
theorem dX4_selectByPolicy_50 : decode cX4_selectByPolicy 50 = .ok (.ireturn, 1) := by decide +kernel
theorem dX4_selectByPolicy_51 : decode cX4_selectByPolicy 51 = .ok (.aload_n 0, 1) := by decide +kernel
theorem dX4_selectByPolicy_52 : decode cX4_selectByPolicy 52 = .ok (.iload_n 1, 1) := by decide +kernel
theorem dX4_selectByPolicy_53 : decode cX4_selectByPolicy 53 = .ok (.iconst 1, 1) := by decide +kernel
theorem dX4_selectByPolicy_54 : decode cX4_selectByPolicy 54 = .ok (.invokevirtual 143, 3) := by decide +kernel
theorem dX4_selectByPolicy_57 : decode cX4_selectByPolicy 57 = .ok (.ireturn, 1) := by decide +kernel
theorem dX4_selectByPolicy_58 : decode cX4_selectByPolicy 58 = .ok (.aload_n 0, 1) := by decide +kernel
theorem dX4_selectByPolicy_59 : decode cX4_selectByPolicy 59 = .ok (.invokevirtual 147, 3) := by decide +kernel
theorem dX4_selectByPolicy_62 : decode cX4_selectByPolicy 62 = .ok (.ireturn, 1) := by decide +kernel
set_option maxRecDepth 20000 in
theorem ggX4_selectNext_X4_firstAvailableFrom : GoodIn wsX4_selectNext wsX4_firstAvailableFrom := goodIn_ca (goodIn_r _ [6, 7, 8, 9, 10, 5, 11, 12, 13, 14, 15, 16, 17, 18, 19, 20, 21, 22, 23, 24, 25, 26, 27, 28, 29, 30, 31, 32, 33, 34, 35, 36, 37, 38, 39, 40, 41, 42, 43, 44, 45, 46, 47, 48, 49, 50, 51, 52, 53, 54, 55, 56, 57, 58, 59, 60] (by decide +kernel) (by decide +kernel)) (goodIn_sub (fun _ h => List.mem_cons_of_mem _ (List.mem_append_right _ h)) (by decide +kernel))
set_option maxRecDepth 20000 in
theorem gX4_selectNext_X4_firstAvailableFrom : GoodIn wsX4_selectNext (wsV RX4 150 RX4 yX4_firstAvailableFrom wsX4_firstAvailableFrom) := goodIn_app (goodIn_of _ (by decide +kernel)) ggX4_selectNext_X4_firstAvailableFrom
theorem dX4_selectNext_0 : decode cX4_selectNext 0 = .ok (.aload_n 0, 1) := by decide +kernel
theorem dX4_selectNext_1 : decode cX4_selectNext 1 = .ok (.aload_n 0, 1) := by decide +kernel
theorem dX4_selectNext_2 : decode cX4_selectNext 2 = .ok (.getfield 45, 3) := by decide +kernel
theorem dX4_selectNext_5 : decode cX4_selectNext 5 = .ok (.iconst 1, 1) := by decide +kernel
theorem dX4_selectNext_6 : decode cX4_selectNext 6 = .ok (.iadd, 1) := by decide +kernel
theorem dX4_selectNext_7 : decode cX4_selectNext 7 = .ok (.invokevirtual 150, 3) := by decide +kernel
theorem dX4_selectNext_10 : decode cX4_selectNext 10 = .ok (.istore_n 1, 1) := by decide +kernel
theorem dX4_selectNext_11 : decode cX4_selectNext 11 = .ok (.iload_n 1, 1) := by decide +kernel
theorem dX4_selectNext_12 : decode cX4_selectNext 12 = .ok (.iconst (-1), 1) := by decide +kernel
theorem dX4_selectNext_13 : decode cX4_selectNext 13 = .ok (.if_icmp .eq 7, 3) := by decide +kernel
theorem dX4_selectNext_16 : decode cX4_selectNext 16 = .ok (.iload_n 1, 1) := by decide +kernel
theorem dX4_selectNext_17 : decode cX4_selectNext 17 = .ok (.goto 8, 3) := by decide +kernel
theorem dX4_selectNext_20 : decode cX4_selectNext 20 = .ok (.aload_n 0, 1) := by decide +kernel
theorem dX4_selectNext_21 : decode cX4_selectNext 21 = .ok (.iconst 0, 1) := by decide +kernel
theorem dX4_selectNext_22 : decode cX4_selectNext 22 = .ok (.invokevirtual 150, 3) := by decide +kernel
theorem dX4_selectNext_25 : decode cX4_selectNext 25 = .ok (.ireturn, 1) := by decide +kernel
set_option maxRecDepth 20000 in
theorem ggX4_firstAvailableFrom_X4_serverAt : GoodIn wsX4_firstAvailableFrom wsX4_serverAt := goodIn_ca (goodIn_r _ [6, 7, 8, 1, 9, 27, 28, 29, 30, 31, 32, 33, 34, 35, 36, 37, 38, 39, 40] (by decide +kernel) (by decide +kernel)) (goodIn_sub (fun _ h => List.mem_cons_of_mem _ (List.mem_append_right _ h)) (by decide +kernel))
set_option maxRecDepth 20000 in
theorem gX4_firstAvailableFrom_X4_serverAt : GoodIn wsX4_firstAvailableFrom (wsV RX4 126 RX4 yX4_serverAt wsX4_serverAt) := goodIn_app (goodIn_of _ (by decide +kernel)) ggX4_firstAvailableFrom_X4_serverAt
set_option maxRecDepth 20000 in
theorem ggX4_firstAvailableFrom_X3_accepts : GoodIn wsX4_firstAvailableFrom wsX3_accepts := goodIn_r _ [14, 15, 16, 17, 18, 19, 20, 21, 22, 23, 24, 25, 26, 41, 42, 43, 44, 45, 46, 47, 48, 49, 50, 51, 52, 53, 54, 55] (by decide +kernel) (by decide +kernel)
set_option maxRecDepth 20000 in
theorem gX4_firstAvailableFrom_X3_accepts : GoodIn wsX4_firstAvailableFrom (wsV RX4 130 RX3 yX3_accepts wsX3_accepts) := goodIn_app (goodIn_of _ (by decide +kernel)) ggX4_firstAvailableFrom_X3_accepts
theorem dX4_firstAvailableFrom_0 : decode cX4_firstAvailableFrom 0 = .ok (.iload_n 1, 1) := by decide +kernel
theorem dX4_firstAvailableFrom_1 : decode cX4_firstAvailableFrom 1 = .ok (.istore_n 2, 1) := by decide +kernel
theorem dX4_firstAvailableFrom_2 : decode cX4_firstAvailableFrom 2 = .ok (.iload_n 2, 1) := by decide +kernel
theorem dX4_firstAvailableFrom_3 : decode cX4_firstAvailableFrom 3 = .ok (.aload_n 0, 1) := by decide +kernel
theorem dX4_firstAvailableFrom_4 : decode cX4_firstAvailableFrom 4 = .ok (.getfield 51, 3) := by decide +kernel
theorem dX4_firstAvailableFrom_7 : decode cX4_firstAvailableFrom 7 = .ok (.if_icmp .ge 22, 3) := by decide +kernel
theorem dX4_firstAvailableFrom_10 : decode cX4_firstAvailableFrom 10 = .ok (.aload_n 0, 1) := by decide +kernel
theorem dX4_firstAvailableFrom_11 : decode cX4_firstAvailableFrom 11 = .ok (.iload_n 2, 1) := by decide +kernel
theorem dX4_firstAvailableFrom_12 : decode cX4_firstAvailableFrom 12 = .ok (.invokevirtual 126, 3) := by decide +kernel
theorem dX4_firstAvailableFrom_15 : decode cX4_firstAvailableFrom 15 = .ok (.invokevirtual 130, 3) := by decide +kernel
theorem dX4_firstAvailableFrom_18 : decode cX4_firstAvailableFrom 18 = .ok (.ifCond .eq 5, 3) := by decide +kernel
theorem dX4_firstAvailableFrom_21 : decode cX4_firstAvailableFrom 21 = .ok (.iload_n 2, 1) := by decide +kernel
theorem dX4_firstAvailableFrom_22 : decode cX4_firstAvailableFrom 22 = .ok (.ireturn, 1) := by decide +kernel
theorem dX4_firstAvailableFrom_23 : decode cX4_firstAvailableFrom 23 = .ok (.iinc 2 1, 3) := by decide +kernel
theorem dX4_firstAvailableFrom_26 : decode cX4_firstAvailableFrom 26 = .ok (.goto (-24), 3) := by decide +kernel
theorem dX4_firstAvailableFrom_29 : decode cX4_firstAvailableFrom 29 = .ok (.iconst (-1), 1) := by decide +kernel
theorem dX4_firstAvailableFrom_30 : decode cX4_firstAvailableFrom 30 = .ok (.ireturn, 1) := by decide +kernel
set_option maxRecDepth 20000 in
theorem ggX4_selectByCredit_X4_weightNow : GoodIn wsX4_selectByCredit wsX4_weightNow := goodIn_r _ [8, 9, 10, 11, 12, 13, 14, 15, 16, 17, 35, 36, 37, 38, 39, 40, 41, 42, 43, 44, 45, 46, 47, 48, 49, 50, 51, 52, 53, 54, 55, 56, 57, 58] (by decide +kernel) (by decide +kernel)
set_option maxRecDepth 20000 in
theorem gX4_selectByCredit_X4_weightNow : GoodIn wsX4_selectByCredit (wsV RX4 153 RX4 yX4_weightNow wsX4_weightNow) := goodIn_app (goodIn_of _ (by decide +kernel)) ggX4_selectByCredit_X4_weightNow
set_option maxRecDepth 20000 in
theorem ggX4_selectByCredit_X3_accepts : GoodIn wsX4_selectByCredit wsX3_accepts := goodIn_r _ [22, 23, 24, 25, 26, 27, 28, 29, 30, 31, 32, 33, 34, 49, 50, 51, 52, 53, 54, 55, 56, 57, 58, 59, 60, 61, 62, 63] (by decide +kernel) (by decide +kernel)
set_option maxRecDepth 20000 in
theorem gX4_selectByCredit_X3_accepts : GoodIn wsX4_selectByCredit (wsV RX4 130 RX3 yX3_accepts wsX3_accepts) := goodIn_app (goodIn_of _ (by decide +kernel)) ggX4_selectByCredit_X3_accepts
theorem dX4_selectByCredit_0 : decode cX4_selectByCredit 0 = .ok (.iconst (-1), 1) := by decide +kernel
theorem dX4_selectByCredit_1 : decode cX4_selectByCredit 1 = .ok (.istore_n 1, 1) := by decide +kernel
theorem dX4_selectByCredit_2 : decode cX4_selectByCredit 2 = .ok (.iconst 0, 1) := by decide +kernel
theorem dX4_selectByCredit_3 : decode cX4_selectByCredit 3 = .ok (.istore_n 2, 1) := by decide +kernel
theorem dX4_selectByCredit_4 : decode cX4_selectByCredit 4 = .ok (.iconst 0, 1) := by decide +kernel
theorem dX4_selectByCredit_5 : decode cX4_selectByCredit 5 = .ok (.istore_n 3, 1) := by decide +kernel
theorem dX4_selectByCredit_6 : decode cX4_selectByCredit 6 = .ok (.iload_n 3, 1) := by decide +kernel
theorem dX4_selectByCredit_7 : decode cX4_selectByCredit 7 = .ok (.aload_n 0, 1) := by decide +kernel
theorem dX4_selectByCredit_8 : decode cX4_selectByCredit 8 = .ok (.getfield 51, 3) := by decide +kernel
theorem dX4_selectByCredit_11 : decode cX4_selectByCredit 11 = .ok (.if_icmp .ge 55, 3) := by decide +kernel
theorem dX4_selectByCredit_14 : decode cX4_selectByCredit 14 = .ok (.aload_n 0, 1) := by decide +kernel
theorem dX4_selectByCredit_15 : decode cX4_selectByCredit 15 = .ok (.getfield 11, 3) := by decide +kernel
theorem dX4_selectByCredit_18 : decode cX4_selectByCredit 18 = .ok (.iload_n 3, 1) := by decide +kernel
theorem dX4_selectByCredit_19 : decode cX4_selectByCredit 19 = .ok (.aaload, 1) := by decide +kernel
theorem dX4_selectByCredit_20 : decode cX4_selectByCredit 20 = .ok (.astore 4, 2) := by decide +kernel
theorem dX4_selectByCredit_22 : decode cX4_selectByCredit 22 = .ok (.aload 4, 2) := by decide +kernel
theorem dX4_selectByCredit_24 : decode cX4_selectByCredit 24 = .ok (.getfield 65, 3) := by decide +kernel
theorem dX4_selectByCredit_27 : decode cX4_selectByCredit 27 = .ok (.aload_n 0, 1) := by decide +kernel
theorem dX4_selectByCredit_28 : decode cX4_selectByCredit 28 = .ok (.aload 4, 2) := by decide +kernel
theorem dX4_selectByCredit_30 : decode cX4_selectByCredit 30 = .ok (.invokevirtual 153, 3) := by decide +kernel
theorem dX4_selectByCredit_33 : decode cX4_selectByCredit 33 = .ok (.iadd, 1) := by decide +kernel
theorem dX4_selectByCredit_34 : decode cX4_selectByCredit 34 = .ok (.istore 5, 2) := by decide +kernel
theorem dX4_selectByCredit_36 : decode cX4_selectByCredit 36 = .ok (.aload 4, 2) := by decide +kernel
theorem dX4_selectByCredit_38 : decode cX4_selectByCredit 38 = .ok (.invokevirtual 130, 3) := by decide +kernel
theorem dX4_selectByCredit_41 : decode cX4_selectByCredit 41 = .ok (.ifCond .eq 19, 3) := by decide +kernel
theorem dX4_selectByCredit_44 : decode cX4_selectByCredit 44 = .ok (.iload_n 1, 1) := by decide +kernel
theorem dX4_selectByCredit_45 : decode cX4_selectByCredit 45 = .ok (.iconst (-1), 1) := by decide +kernel
theorem dX4_selectByCredit_46 : decode cX4_selectByCredit 46 = .ok (.if_icmp .eq 9, 3) := by decide +kernel
theorem dX4_selectByCredit_49 : decode cX4_selectByCredit 49 = .ok (.iload 5, 2) := by decide +kernel
theorem dX4_selectByCredit_51 : decode cX4_selectByCredit 51 = .ok (.iload_n 2, 1) := by decide +kernel
theorem dX4_selectByCredit_52 : decode cX4_selectByCredit 52 = .ok (.if_icmp .le 8, 3) := by decide +kernel
theorem dX4_selectByCredit_55 : decode cX4_selectByCredit 55 = .ok (.iload_n 3, 1) := by decide +kernel
theorem dX4_selectByCredit_56 : decode cX4_selectByCredit 56 = .ok (.istore_n 1, 1) := by decide +kernel
theorem dX4_selectByCredit_57 : decode cX4_selectByCredit 57 = .ok (.iload 5, 2) := by decide +kernel
theorem dX4_selectByCredit_59 : decode cX4_selectByCredit 59 = .ok (.istore_n 2, 1) := by decide +kernel
theorem dX4_selectByCredit_60 : decode cX4_selectByCredit 60 = .ok (.iinc 3 1, 3) := by decide +kernel
theorem dX4_selectByCredit_63 : decode cX4_selectByCredit 63 = .ok (.goto (-57), 3) := by decide +kernel
theorem dX4_selectByCredit_66 : decode cX4_selectByCredit 66 = .ok (.iload_n 1, 1) := by decide +kernel
theorem dX4_selectByCredit_67 : decode cX4_selectByCredit 67 = .ok (.ireturn, 1) := by decide +kernel
set_option maxRecDepth 20000 in
theorem ggX4_selectLeastLoaded_X3_accepts : GoodIn wsX4_selectLeastLoaded wsX3_accepts := goodIn_r _ [7, 8, 9, 10, 11, 12, 13, 14, 15, 16, 17, 18, 19, 59, 60, 61, 62, 63, 64, 65, 66, 67, 68, 69, 70, 71, 72, 73] (by decide +kernel) (by decide +kernel)
set_option maxRecDepth 20000 in
theorem gX4_selectLeastLoaded_X3_accepts : GoodIn wsX4_selectLeastLoaded (wsV RX4 130 RX3 yX3_accepts wsX3_accepts) := goodIn_app (goodIn_of _ (by decide +kernel)) ggX4_selectLeastLoaded_X3_accepts
set_option maxRecDepth 20000 in
theorem ggX4_selectLeastLoaded_X4_serverAt : GoodIn wsX4_selectLeastLoaded wsX4_serverAt := goodIn_ca (goodIn_r _ [24, 25, 26, 1, 2, 45, 46, 47, 48, 49, 50, 51, 52, 53, 54, 55, 56, 57, 58] (by decide +kernel) (by decide +kernel)) (goodIn_sub (fun _ h => List.mem_cons_of_mem _ (List.mem_append_right _ h)) (by decide +kernel))
set_option maxRecDepth 20000 in
theorem gX4_selectLeastLoaded_X4_serverAt : GoodIn wsX4_selectLeastLoaded (wsV RX4 126 RX4 yX4_serverAt wsX4_serverAt) := goodIn_app (goodIn_of _ (by decide +kernel)) ggX4_selectLeastLoaded_X4_serverAt
set_option maxRecDepth 20000 in
theorem ggX4_selectLeastLoaded_X4_isLessLoaded : GoodIn wsX4_selectLeastLoaded wsX4_isLessLoaded := goodIn_r _ [30, 31, 32, 33, 34, 23, 35, 36, 37, 38, 39, 40, 41, 42, 43, 44, 59, 60, 61, 62, 63, 64, 65, 66, 67, 68, 45, 46, 47, 48, 49, 50, 51, 52, 53, 54, 55, 56, 57, 58] (by decide +kernel) (by decide +kernel)
set_option maxRecDepth 20000 in
theorem gX4_selectLeastLoaded_X4_isLessLoaded : GoodIn wsX4_selectLeastLoaded (wsV RX4 157 RX4 yX4_isLessLoaded wsX4_isLessLoaded) := goodIn_app (goodIn_of _ (by decide +kernel)) ggX4_selectLeastLoaded_X4_isLessLoaded
theorem dX4_selectLeastLoaded_0 : decode cX4_selectLeastLoaded 0 = .ok (.iconst (-1), 1) := by decide +kernel
theorem dX4_selectLeastLoaded_1 : decode cX4_selectLeastLoaded 1 = .ok (.istore_n 1, 1) := by decide +kernel
theorem dX4_selectLeastLoaded_2 : decode cX4_selectLeastLoaded 2 = .ok (.iconst 0, 1) := by decide +kernel
theorem dX4_selectLeastLoaded_3 : decode cX4_selectLeastLoaded 3 = .ok (.istore_n 2, 1) := by decide +kernel
theorem dX4_selectLeastLoaded_4 : decode cX4_selectLeastLoaded 4 = .ok (.iload_n 2, 1) := by decide +kernel
theorem dX4_selectLeastLoaded_5 : decode cX4_selectLeastLoaded 5 = .ok (.aload_n 0, 1) := by decide +kernel
theorem dX4_selectLeastLoaded_6 : decode cX4_selectLeastLoaded 6 = .ok (.getfield 51, 3) := by decide +kernel
theorem dX4_selectLeastLoaded_9 : decode cX4_selectLeastLoaded 9 = .ok (.if_icmp .ge 46, 3) := by decide +kernel
theorem dX4_selectLeastLoaded_12 : decode cX4_selectLeastLoaded 12 = .ok (.aload_n 0, 1) := by decide +kernel
theorem dX4_selectLeastLoaded_13 : decode cX4_selectLeastLoaded 13 = .ok (.getfield 11, 3) := by decide +kernel
theorem dX4_selectLeastLoaded_16 : decode cX4_selectLeastLoaded 16 = .ok (.iload_n 2, 1) := by decide +kernel
theorem dX4_selectLeastLoaded_17 : decode cX4_selectLeastLoaded 17 = .ok (.aaload, 1) := by decide +kernel
theorem dX4_selectLeastLoaded_18 : decode cX4_selectLeastLoaded 18 = .ok (.invokevirtual 130, 3) := by decide +kernel
theorem dX4_selectLeastLoaded_21 : decode cX4_selectLeastLoaded 21 = .ok (.ifCond .eq 28, 3) := by decide +kernel
theorem dX4_selectLeastLoaded_24 : decode cX4_selectLeastLoaded 24 = .ok (.iload_n 1, 1) := by decide +kernel
theorem dX4_selectLeastLoaded_25 : decode cX4_selectLeastLoaded 25 = .ok (.iconst (-1), 1) := by decide +kernel
theorem dX4_selectLeastLoaded_26 : decode cX4_selectLeastLoaded 26 = .ok (.if_icmp .eq 21, 3) := by decide +kernel
theorem dX4_selectLeastLoaded_29 : decode cX4_selectLeastLoaded 29 = .ok (.aload_n 0, 1) := by decide +kernel
theorem dX4_selectLeastLoaded_30 : decode cX4_selectLeastLoaded 30 = .ok (.aload_n 0, 1) := by decide +kernel
theorem dX4_selectLeastLoaded_31 : decode cX4_selectLeastLoaded 31 = .ok (.getfield 11, 3) := by decide +kernel
theorem dX4_selectLeastLoaded_34 : decode cX4_selectLeastLoaded 34 = .ok (.iload_n 2, 1) := by decide +kernel
theorem dX4_selectLeastLoaded_35 : decode cX4_selectLeastLoaded 35 = .ok (.aaload, 1) := by decide +kernel
theorem dX4_selectLeastLoaded_36 : decode cX4_selectLeastLoaded 36 = .ok (.aload_n 0, 1) := by decide +kernel
theorem dX4_selectLeastLoaded_37 : decode cX4_selectLeastLoaded 37 = .ok (.iload_n 1, 1) := by decide +kernel
theorem dX4_selectLeastLoaded_38 : decode cX4_selectLeastLoaded 38 = .ok (.invokevirtual 126, 3) := by decide +kernel
theorem dX4_selectLeastLoaded_41 : decode cX4_selectLeastLoaded 41 = .ok (.invokevirtual 157, 3) := by decide +kernel
theorem dX4_selectLeastLoaded_44 : decode cX4_selectLeastLoaded 44 = .ok (.ifCond .eq 5, 3) := by decide +kernel
theorem dX4_selectLeastLoaded_47 : decode cX4_selectLeastLoaded 47 = .ok (.iload_n 2, 1) := by decide +kernel
theorem dX4_selectLeastLoaded_48 : decode cX4_selectLeastLoaded 48 = .ok (.istore_n 1, 1) := by decide +kernel
theorem dX4_selectLeastLoaded_49 : decode cX4_selectLeastLoaded 49 = .ok (.iinc 2 1, 3) := by decide +kernel
theorem dX4_selectLeastLoaded_52 : decode cX4_selectLeastLoaded 52 = .ok (.goto (-48), 3) := by decide +kernel
theorem dX4_selectLeastLoaded_55 : decode cX4_selectLeastLoaded 55 = .ok (.iload_n 1, 1) := by decide +kernel
theorem dX4_selectLeastLoaded_56 : decode cX4_selectLeastLoaded 56 = .ok (.ireturn, 1) := by decide +kernel
set_option maxRecDepth 20000 in
theorem ggX4_isLessLoaded_X4_weightNow : GoodIn wsX4_isLessLoaded wsX4_weightNow := goodIn_r _ [6, 7, 8, 9, 10, 11, 12, 13, 14, 15, 26, 27, 28, 29, 30, 31, 32, 33, 34, 35, 36, 37, 38, 39, 16, 17, 18, 19, 20, 21, 22, 23, 24, 25] (by decide +kernel) (by decide +kernel)
set_option maxRecDepth 20000 in
theorem gX4_isLessLoaded_X4_weightNow : GoodIn wsX4_isLessLoaded (wsV RX4 153 RX4 yX4_weightNow wsX4_weightNow) := goodIn_app (goodIn_of _ (by decide +kernel)) ggX4_isLessLoaded_X4_weightNow
theorem dX4_isLessLoaded_0 : decode cX4_isLessLoaded 0 = .ok (.aload_n 1, 1) := by decide +kernel
theorem dX4_isLessLoaded_1 : decode cX4_isLessLoaded 1 = .ok (.getfield 80, 3) := by decide +kernel
theorem dX4_isLessLoaded_4 : decode cX4_isLessLoaded 4 = .ok (.aload_n 0, 1) := by decide +kernel
theorem dX4_isLessLoaded_5 : decode cX4_isLessLoaded 5 = .ok (.aload_n 2, 1) := by decide +kernel
theorem dX4_isLessLoaded_6 : decode cX4_isLessLoaded 6 = .ok (.invokevirtual 153, 3) := by decide +kernel
theorem dX4_isLessLoaded_9 : decode cX4_isLessLoaded 9 = .ok (.imul, 1) := by decide +kernel
theorem dX4_isLessLoaded_10 : decode cX4_isLessLoaded 10 = .ok (.aload_n 2, 1) := by decide +kernel
theorem dX4_isLessLoaded_11 : decode cX4_isLessLoaded 11 = .ok (.getfield 80, 3) := by decide +kernel
theorem dX4_isLessLoaded_14 : decode cX4_isLessLoaded 14 = .ok (.aload_n 0, 1) := by decide +kernel
theorem dX4_isLessLoaded_15 : decode cX4_isLessLoaded 15 = .ok (.aload_n 1, 1) := by decide +kernel
theorem dX4_isLessLoaded_16 : decode cX4_isLessLoaded 16 = .ok (.invokevirtual 153, 3) := by decide +kernel
theorem dX4_isLessLoaded_19 : decode cX4_isLessLoaded 19 = .ok (.imul, 1) := by decide +kernel
theorem dX4_isLessLoaded_20 : decode cX4_isLessLoaded 20 = .ok (.if_icmp .ge 7, 3) := by decide +kernel
theorem dX4_isLessLoaded_23 : decode cX4_isLessLoaded 23 = .ok (.iconst 1, 1) := by decide +kernel
theorem dX4_isLessLoaded_24 : decode cX4_isLessLoaded 24 = .ok (.goto 4, 3) := by decide +kernel
theorem dX4_isLessLoaded_27 : decode cX4_isLessLoaded 27 = .ok (.iconst 0, 1) := by decide +kernel
theorem dX4_isLessLoaded_28 : decode cX4_isLessLoaded 28 = .ok (.ireturn, 1) := by decide +kernel
set_option maxRecDepth 20000 in
theorem ggX4_firstOnRing_X5_mix : GoodIn wsX4_firstOnRing wsX5_mix := goodIn_r _ [5, 6] (by decide +kernel) (by decide +kernel)
set_option maxRecDepth 20000 in
theorem gX4_firstOnRing_X5_mix_n161 : GoodIn wsX4_firstOnRing (wsX5_mix) := ggX4_firstOnRing_X5_mix
set_option maxRecDepth 20000 in
theorem ggX4_firstOnRing_X3_accepts : GoodIn wsX4_firstOnRing wsX3_accepts := goodIn_r _ [11, 12, 13, 14, 15, 16, 17, 18, 19, 20, 21, 22, 23, 46, 47, 48, 49, 50, 51, 52, 53, 54, 55, 56, 57, 58, 59, 60] (by decide +kernel) (by decide +kernel)
set_option maxRecDepth 20000 in
theorem gX4_firstOnRing_X3_accepts : GoodIn wsX4_firstOnRing (wsV RX4 130 RX3 yX3_accepts wsX3_accepts) := goodIn_app (goodIn_of _ (by decide +kernel)) ggX4_firstOnRing_X3_accepts
set_option maxRecDepth 20000 in
theorem ggX4_firstOnRing_X3_ringDistance : GoodIn wsX4_firstOnRing wsX3_ringDistance := goodIn_r _ [27, 28, 3, 4, 5, 6, 29, 30, 31, 46, 47, 48, 49, 50, 51, 52, 53, 54, 55] (by decide +kernel) (by decide +kernel)
set_option maxRecDepth 20000 in
theorem gX4_firstOnRing_X3_ringDistance : GoodIn wsX4_firstOnRing (wsV RX4 164 RX3 yX3_ringDistance wsX3_ringDistance) := goodIn_app (goodIn_of _ (by decide +kernel)) ggX4_firstOnRing_X3_ringDistance
set_option maxRecDepth 20000 in
theorem ggX4_firstOnRing_X5_isBelowUnsigned : GoodIn wsX4_firstOnRing wsX5_isBelowUnsigned := goodIn_r _ [30, 31] (by decide +kernel) (by decide +kernel)
set_option maxRecDepth 20000 in
theorem gX4_firstOnRing_X5_isBelowUnsigned_n167 : GoodIn wsX4_firstOnRing (wsX5_isBelowUnsigned) := ggX4_firstOnRing_X5_isBelowUnsigned
theorem dX4_firstOnRing_0 : decode cX4_firstOnRing 0 = .ok (.iload_n 1, 1) := by decide +kernel
theorem dX4_firstOnRing_1 : decode cX4_firstOnRing 1 = .ok (.invokestatic 161, 3) := by decide +kernel
theorem dX4_firstOnRing_4 : decode cX4_firstOnRing 4 = .ok (.istore_n 3, 1) := by decide +kernel
theorem dX4_firstOnRing_5 : decode cX4_firstOnRing 5 = .ok (.iconst (-1), 1) := by decide +kernel
theorem dX4_firstOnRing_6 : decode cX4_firstOnRing 6 = .ok (.istore 4, 2) := by decide +kernel
theorem dX4_firstOnRing_8 : decode cX4_firstOnRing 8 = .ok (.iconst 0, 1) := by decide +kernel
theorem dX4_firstOnRing_9 : decode cX4_firstOnRing 9 = .ok (.istore 5, 2) := by decide +kernel
theorem dX4_firstOnRing_11 : decode cX4_firstOnRing 11 = .ok (.iconst 0, 1) := by decide +kernel
theorem dX4_firstOnRing_12 : decode cX4_firstOnRing 12 = .ok (.istore 6, 2) := by decide +kernel
theorem dX4_firstOnRing_14 : decode cX4_firstOnRing 14 = .ok (.iload 6, 2) := by decide +kernel
theorem dX4_firstOnRing_16 : decode cX4_firstOnRing 16 = .ok (.aload_n 0, 1) := by decide +kernel
theorem dX4_firstOnRing_17 : decode cX4_firstOnRing 17 = .ok (.getfield 51, 3) := by decide +kernel
theorem dX4_firstOnRing_20 : decode cX4_firstOnRing 20 = .ok (.if_icmp .ge 65, 3) := by decide +kernel
theorem dX4_firstOnRing_23 : decode cX4_firstOnRing 23 = .ok (.iload_n 2, 1) := by decide +kernel
theorem dX4_firstOnRing_24 : decode cX4_firstOnRing 24 = .ok (.ifCond .eq 16, 3) := by decide +kernel
theorem dX4_firstOnRing_27 : decode cX4_firstOnRing 27 = .ok (.aload_n 0, 1) := by decide +kernel
theorem dX4_firstOnRing_28 : decode cX4_firstOnRing 28 = .ok (.getfield 11, 3) := by decide +kernel
theorem dX4_firstOnRing_31 : decode cX4_firstOnRing 31 = .ok (.iload 6, 2) := by decide +kernel
theorem dX4_firstOnRing_33 : decode cX4_firstOnRing 33 = .ok (.aaload, 1) := by decide +kernel
theorem dX4_firstOnRing_34 : decode cX4_firstOnRing 34 = .ok (.invokevirtual 130, 3) := by decide +kernel
theorem dX4_firstOnRing_37 : decode cX4_firstOnRing 37 = .ok (.ifCond .eq 42, 3) := by decide +kernel
theorem dX4_firstOnRing_40 : decode cX4_firstOnRing 40 = .ok (.aload_n 0, 1) := by decide +kernel
theorem dX4_firstOnRing_41 : decode cX4_firstOnRing 41 = .ok (.getfield 11, 3) := by decide +kernel
theorem dX4_firstOnRing_44 : decode cX4_firstOnRing 44 = .ok (.iload 6, 2) := by decide +kernel
theorem dX4_firstOnRing_46 : decode cX4_firstOnRing 46 = .ok (.aaload, 1) := by decide +kernel
theorem dX4_firstOnRing_47 : decode cX4_firstOnRing 47 = .ok (.iload 6, 2) := by decide +kernel
theorem dX4_firstOnRing_49 : decode cX4_firstOnRing 49 = .ok (.iload_n 3, 1) := by decide +kernel
theorem dX4_firstOnRing_50 : decode cX4_firstOnRing 50 = .ok (.invokevirtual 164, 3) := by decide +kernel
theorem dX4_firstOnRing_53 : decode cX4_firstOnRing 53 = .ok (.istore 7, 2) := by decide +kernel
theorem dX4_firstOnRing_55 : decode cX4_firstOnRing 55 = .ok (.iload 4, 2) := by decide +kernel
theorem dX4_firstOnRing_57 : decode cX4_firstOnRing 57 = .ok (.iconst (-1), 1) := by decide +kernel
theorem dX4_firstOnRing_58 : decode cX4_firstOnRing 58 = .ok (.if_icmp .eq 13, 3) := by decide +kernel
theorem dX4_firstOnRing_61 : decode cX4_firstOnRing 61 = .ok (.iload 7, 2) := by decide +kernel
theorem dX4_firstOnRing_63 : decode cX4_firstOnRing 63 = .ok (.iload 5, 2) := by decide +kernel
theorem dX4_firstOnRing_65 : decode cX4_firstOnRing 65 = .ok (.invokestatic 167, 3) := by decide +kernel
theorem dX4_firstOnRing_68 : decode cX4_firstOnRing 68 = .ok (.ifCond .eq 11, 3) := by decide +kernel
theorem dX4_firstOnRing_71 : decode cX4_firstOnRing 71 = .ok (.iload 6, 2) := by decide +kernel
theorem dX4_firstOnRing_73 : decode cX4_firstOnRing 73 = .ok (.istore 4, 2) := by decide +kernel
theorem dX4_firstOnRing_75 : decode cX4_firstOnRing 75 = .ok (.iload 7, 2) := by decide +kernel
theorem dX4_firstOnRing_77 : decode cX4_firstOnRing 77 = .ok (.istore 5, 2) := by decide +kernel
theorem dX4_firstOnRing_79 : decode cX4_firstOnRing 79 = .ok (.iinc 6 1, 3) := by decide +kernel
theorem dX4_firstOnRing_82 : decode cX4_firstOnRing 82 = .ok (.goto (-68), 3) := by decide +kernel
theorem dX4_firstOnRing_85 : decode cX4_firstOnRing 85 = .ok (.iload 4, 2) := by decide +kernel
theorem dX4_firstOnRing_87 : decode cX4_firstOnRing 87 = .ok (.ireturn, 1) := by decide +kernel
set_option maxRecDepth 20000 in
theorem ggX4_selectOfTwo_X4_availableCount : GoodIn wsX4_selectOfTwo wsX4_availableCount := goodIn_r _ [7, 8, 9, 10, 11, 12, 13, 14, 15, 16, 17, 18, 19, 20, 21, 22, 23, 24, 25, 26, 41, 42, 43, 44, 45, 46, 47, 48, 49, 50, 51, 52, 53, 54, 55, 56, 57, 58, 59, 60, 61, 62, 63, 64, 65, 66, 67, 68, 69] (by decide +kernel) (by decide +kernel)
set_option maxRecDepth 20000 in
theorem gX4_selectOfTwo_X4_availableCount : GoodIn wsX4_selectOfTwo (wsV RX4 171 RX4 yX4_availableCount wsX4_availableCount) := goodIn_app (goodIn_of _ (by decide +kernel)) ggX4_selectOfTwo_X4_availableCount
set_option maxRecDepth 20000 in
theorem ggX4_selectOfTwo_X5_nextSeed : GoodIn wsX4_selectOfTwo wsX5_nextSeed := goodIn_r _ [29, 30] (by decide +kernel) (by decide +kernel)
set_option maxRecDepth 20000 in
theorem gX4_selectOfTwo_X5_nextSeed_n174 : GoodIn wsX4_selectOfTwo (wsX5_nextSeed) := ggX4_selectOfTwo_X5_nextSeed
set_option maxRecDepth 20000 in
theorem ggX4_selectOfTwo_X4_availableAt : GoodIn wsX4_selectOfTwo wsX4_availableAt := goodIn_r _ [34, 8, 9, 10, 11, 12, 13, 14, 15, 16, 17, 18, 19, 20, 21, 22, 23, 24, 25, 26, 41, 42, 43, 44, 45, 46, 47, 48, 49, 50, 51, 52, 53, 54, 55, 56, 57, 58, 59, 60, 61, 62, 63, 64, 65, 66, 67, 68, 69] (by decide +kernel) (by decide +kernel)
set_option maxRecDepth 20000 in
theorem gX4_selectOfTwo_X4_availableAt : GoodIn wsX4_selectOfTwo (wsV RX4 177 RX4 yX4_availableAt wsX4_availableAt) := goodIn_app (goodIn_of _ (by decide +kernel)) ggX4_selectOfTwo_X4_availableAt
set_option maxRecDepth 20000 in
theorem ggX4_selectOfTwo_X4_serverAt : GoodIn wsX4_selectOfTwo wsX4_serverAt := goodIn_ca (goodIn_r _ [38, 39, 40, 8, 9, 41, 42, 43, 44, 45, 46, 47, 48, 49, 50, 51, 52, 53, 54] (by decide +kernel) (by decide +kernel)) (goodIn_sub (fun _ h => List.mem_cons_of_mem _ (List.mem_append_right _ h)) (by decide +kernel))
set_option maxRecDepth 20000 in
theorem gX4_selectOfTwo_X4_serverAt : GoodIn wsX4_selectOfTwo (wsV RX4 126 RX4 yX4_serverAt wsX4_serverAt) := goodIn_app (goodIn_of _ (by decide +kernel)) ggX4_selectOfTwo_X4_serverAt
theorem dX4_selectOfTwo_0 : decode cX4_selectOfTwo 0 = .ok (.aload_n 0, 1) := by decide +kernel
theorem dX4_selectOfTwo_1 : decode cX4_selectOfTwo 1 = .ok (.invokevirtual 171, 3) := by decide +kernel
theorem dX4_selectOfTwo_4 : decode cX4_selectOfTwo 4 = .ok (.istore_n 1, 1) := by decide +kernel
theorem dX4_selectOfTwo_5 : decode cX4_selectOfTwo 5 = .ok (.iload_n 1, 1) := by decide +kernel
theorem dX4_selectOfTwo_6 : decode cX4_selectOfTwo 6 = .ok (.ifCond .ne 5, 3) := by decide +kernel
theorem dX4_selectOfTwo_9 : decode cX4_selectOfTwo 9 = .ok (.iconst (-1), 1) := by decide +kernel
theorem dX4_selectOfTwo_10 : decode cX4_selectOfTwo 10 = .ok (.ireturn, 1) := by decide +kernel
theorem dX4_selectOfTwo_11 : decode cX4_selectOfTwo 11 = .ok (.aload_n 0, 1) := by decide +kernel
theorem dX4_selectOfTwo_12 : decode cX4_selectOfTwo 12 = .ok (.getfield 48, 3) := by decide +kernel
theorem dX4_selectOfTwo_15 : decode cX4_selectOfTwo 15 = .ok (.invokestatic 174, 3) := by decide +kernel
theorem dX4_selectOfTwo_18 : decode cX4_selectOfTwo 18 = .ok (.istore_n 2, 1) := by decide +kernel
theorem dX4_selectOfTwo_19 : decode cX4_selectOfTwo 19 = .ok (.iload_n 2, 1) := by decide +kernel
theorem dX4_selectOfTwo_20 : decode cX4_selectOfTwo 20 = .ok (.invokestatic 174, 3) := by decide +kernel
theorem dX4_selectOfTwo_23 : decode cX4_selectOfTwo 23 = .ok (.istore_n 3, 1) := by decide +kernel
theorem dX4_selectOfTwo_24 : decode cX4_selectOfTwo 24 = .ok (.aload_n 0, 1) := by decide +kernel
theorem dX4_selectOfTwo_25 : decode cX4_selectOfTwo 25 = .ok (.iload_n 2, 1) := by decide +kernel
theorem dX4_selectOfTwo_26 : decode cX4_selectOfTwo 26 = .ok (.bipush 16, 2) := by decide +kernel
theorem dX4_selectOfTwo_28 : decode cX4_selectOfTwo 28 = .ok (.iushr, 1) := by decide +kernel
theorem dX4_selectOfTwo_29 : decode cX4_selectOfTwo 29 = .ok (.iload_n 1, 1) := by decide +kernel
theorem dX4_selectOfTwo_30 : decode cX4_selectOfTwo 30 = .ok (.irem, 1) := by decide +kernel
theorem dX4_selectOfTwo_31 : decode cX4_selectOfTwo 31 = .ok (.invokevirtual 177, 3) := by decide +kernel
theorem dX4_selectOfTwo_34 : decode cX4_selectOfTwo 34 = .ok (.istore 4, 2) := by decide +kernel
theorem dX4_selectOfTwo_36 : decode cX4_selectOfTwo 36 = .ok (.aload_n 0, 1) := by decide +kernel
theorem dX4_selectOfTwo_37 : decode cX4_selectOfTwo 37 = .ok (.iload_n 3, 1) := by decide +kernel
theorem dX4_selectOfTwo_38 : decode cX4_selectOfTwo 38 = .ok (.bipush 16, 2) := by decide +kernel
theorem dX4_selectOfTwo_40 : decode cX4_selectOfTwo 40 = .ok (.iushr, 1) := by decide +kernel
theorem dX4_selectOfTwo_41 : decode cX4_selectOfTwo 41 = .ok (.iload_n 1, 1) := by decide +kernel
theorem dX4_selectOfTwo_42 : decode cX4_selectOfTwo 42 = .ok (.irem, 1) := by decide +kernel
theorem dX4_selectOfTwo_43 : decode cX4_selectOfTwo 43 = .ok (.invokevirtual 177, 3) := by decide +kernel
theorem dX4_selectOfTwo_46 : decode cX4_selectOfTwo 46 = .ok (.istore 5, 2) := by decide +kernel
theorem dX4_selectOfTwo_48 : decode cX4_selectOfTwo 48 = .ok (.aload_n 0, 1) := by decide +kernel
theorem dX4_selectOfTwo_49 : decode cX4_selectOfTwo 49 = .ok (.iload 5, 2) := by decide +kernel
theorem dX4_selectOfTwo_51 : decode cX4_selectOfTwo 51 = .ok (.invokevirtual 126, 3) := by decide +kernel
theorem dX4_selectOfTwo_54 : decode cX4_selectOfTwo 54 = .ok (.getfield 80, 3) := by decide +kernel
theorem dX4_selectOfTwo_57 : decode cX4_selectOfTwo 57 = .ok (.aload_n 0, 1) := by decide +kernel
theorem dX4_selectOfTwo_58 : decode cX4_selectOfTwo 58 = .ok (.iload 4, 2) := by decide +kernel
theorem dX4_selectOfTwo_60 : decode cX4_selectOfTwo 60 = .ok (.invokevirtual 126, 3) := by decide +kernel
theorem dX4_selectOfTwo_63 : decode cX4_selectOfTwo 63 = .ok (.getfield 80, 3) := by decide +kernel
theorem dX4_selectOfTwo_66 : decode cX4_selectOfTwo 66 = .ok (.if_icmp .ge 8, 3) := by decide +kernel
theorem dX4_selectOfTwo_69 : decode cX4_selectOfTwo 69 = .ok (.iload 5, 2) := by decide +kernel
theorem dX4_selectOfTwo_71 : decode cX4_selectOfTwo 71 = .ok (.goto 5, 3) := by decide +kernel
theorem dX4_selectOfTwo_74 : decode cX4_selectOfTwo 74 = .ok (.iload 4, 2) := by decide +kernel
theorem dX4_selectOfTwo_76 : decode cX4_selectOfTwo 76 = .ok (.ireturn, 1) := by decide +kernel
set_option maxRecDepth 20000 in
theorem ggX4_availableCount_X3_accepts : GoodIn wsX4_availableCount wsX3_accepts := goodIn_r _ [7, 8, 9, 10, 11, 12, 13, 14, 15, 16, 17, 18, 19, 34, 35, 36, 37, 38, 39, 40, 41, 42, 43, 44, 45, 46, 47, 48] (by decide +kernel) (by decide +kernel)
set_option maxRecDepth 20000 in
theorem gX4_availableCount_X3_accepts : GoodIn wsX4_availableCount (wsV RX4 130 RX3 yX3_accepts wsX3_accepts) := goodIn_app (goodIn_of _ (by decide +kernel)) ggX4_availableCount_X3_accepts
theorem dX4_availableCount_0 : decode cX4_availableCount 0 = .ok (.iconst 0, 1) := by decide +kernel
theorem dX4_availableCount_1 : decode cX4_availableCount 1 = .ok (.istore_n 1, 1) := by decide +kernel
theorem dX4_availableCount_2 : decode cX4_availableCount 2 = .ok (.iconst 0, 1) := by decide +kernel
theorem dX4_availableCount_3 : decode cX4_availableCount 3 = .ok (.istore_n 2, 1) := by decide +kernel
theorem dX4_availableCount_4 : decode cX4_availableCount 4 = .ok (.iload_n 2, 1) := by decide +kernel
theorem dX4_availableCount_5 : decode cX4_availableCount 5 = .ok (.aload_n 0, 1) := by decide +kernel
theorem dX4_availableCount_6 : decode cX4_availableCount 6 = .ok (.getfield 51, 3) := by decide +kernel
theorem dX4_availableCount_9 : decode cX4_availableCount 9 = .ok (.if_icmp .ge 24, 3) := by decide +kernel
theorem dX4_availableCount_12 : decode cX4_availableCount 12 = .ok (.aload_n 0, 1) := by decide +kernel
theorem dX4_availableCount_13 : decode cX4_availableCount 13 = .ok (.getfield 11, 3) := by decide +kernel
theorem dX4_availableCount_16 : decode cX4_availableCount 16 = .ok (.iload_n 2, 1) := by decide +kernel
theorem dX4_availableCount_17 : decode cX4_availableCount 17 = .ok (.aaload, 1) := by decide +kernel
theorem dX4_availableCount_18 : decode cX4_availableCount 18 = .ok (.invokevirtual 130, 3) := by decide +kernel
theorem dX4_availableCount_21 : decode cX4_availableCount 21 = .ok (.ifCond .eq 6, 3) := by decide +kernel
theorem dX4_availableCount_24 : decode cX4_availableCount 24 = .ok (.iinc 1 1, 3) := by decide +kernel
theorem dX4_availableCount_27 : decode cX4_availableCount 27 = .ok (.iinc 2 1, 3) := by decide +kernel
theorem dX4_availableCount_30 : decode cX4_availableCount 30 = .ok (.goto (-26), 3) := by decide +kernel
theorem dX4_availableCount_33 : decode cX4_availableCount 33 = .ok (.iload_n 1, 1) := by decide +kernel
theorem dX4_availableCount_34 : decode cX4_availableCount 34 = .ok (.ireturn, 1) := by decide +kernel
set_option maxRecDepth 20000 in
theorem ggX4_availableAt_X3_accepts : GoodIn wsX4_availableAt wsX3_accepts := goodIn_r _ [7, 8, 9, 10, 11, 12, 13, 14, 15, 16, 17, 18, 19, 34, 35, 36, 37, 38, 39, 40, 41, 42, 43, 44, 45, 46, 47, 48] (by decide +kernel) (by decide +kernel)
set_option maxRecDepth 20000 in
theorem gX4_availableAt_X3_accepts : GoodIn wsX4_availableAt (wsV RX4 130 RX3 yX3_accepts wsX3_accepts) := goodIn_app (goodIn_of _ (by decide +kernel)) ggX4_availableAt_X3_accepts
theorem dX4_availableAt_0 : decode cX4_availableAt 0 = .ok (.iload_n 1, 1) := by decide +kernel
theorem dX4_availableAt_1 : decode cX4_availableAt 1 = .ok (.istore_n 2, 1) := by decide +kernel
theorem dX4_availableAt_2 : decode cX4_availableAt 2 = .ok (.iconst 0, 1) := by decide +kernel
theorem dX4_availableAt_3 : decode cX4_availableAt 3 = .ok (.istore_n 3, 1) := by decide +kernel
theorem dX4_availableAt_4 : decode cX4_availableAt 4 = .ok (.iload_n 3, 1) := by decide +kernel
theorem dX4_availableAt_5 : decode cX4_availableAt 5 = .ok (.aload_n 0, 1) := by decide +kernel
theorem dX4_availableAt_6 : decode cX4_availableAt 6 = .ok (.getfield 51, 3) := by decide +kernel
theorem dX4_availableAt_9 : decode cX4_availableAt 9 = .ok (.if_icmp .ge 30, 3) := by decide +kernel
theorem dX4_availableAt_12 : decode cX4_availableAt 12 = .ok (.aload_n 0, 1) := by decide +kernel
theorem dX4_availableAt_13 : decode cX4_availableAt 13 = .ok (.getfield 11, 3) := by decide +kernel
theorem dX4_availableAt_16 : decode cX4_availableAt 16 = .ok (.iload_n 3, 1) := by decide +kernel
theorem dX4_availableAt_17 : decode cX4_availableAt 17 = .ok (.aaload, 1) := by decide +kernel
theorem dX4_availableAt_18 : decode cX4_availableAt 18 = .ok (.invokevirtual 130, 3) := by decide +kernel
theorem dX4_availableAt_21 : decode cX4_availableAt 21 = .ok (.ifCond .eq 12, 3) := by decide +kernel
theorem dX4_availableAt_24 : decode cX4_availableAt 24 = .ok (.iload_n 2, 1) := by decide +kernel
theorem dX4_availableAt_25 : decode cX4_availableAt 25 = .ok (.ifCond .ne 5, 3) := by decide +kernel
theorem dX4_availableAt_28 : decode cX4_availableAt 28 = .ok (.iload_n 3, 1) := by decide +kernel
theorem dX4_availableAt_29 : decode cX4_availableAt 29 = .ok (.ireturn, 1) := by decide +kernel
theorem dX4_availableAt_30 : decode cX4_availableAt 30 = .ok (.iinc 2 (-1), 3) := by decide +kernel
theorem dX4_availableAt_33 : decode cX4_availableAt 33 = .ok (.iinc 3 1, 3) := by decide +kernel
theorem dX4_availableAt_36 : decode cX4_availableAt 36 = .ok (.goto (-32), 3) := by decide +kernel
theorem dX4_availableAt_39 : decode cX4_availableAt 39 = .ok (.iconst (-1), 1) := by decide +kernel
theorem dX4_availableAt_40 : decode cX4_availableAt 40 = .ok (.ireturn, 1) := by decide +kernel
set_option maxRecDepth 20000 in
theorem ggX4_noteSelection_X4_moveCredits : GoodIn wsX4_noteSelection wsX4_moveCredits := goodIn_ca (goodIn_r _ [8, 9, 10, 11, 12, 13, 14, 15, 16, 17, 18, 19, 20, 21, 22, 23, 24, 25, 26, 27, 28, 29, 30, 31, 7, 32, 33, 34, 35, 36, 37, 38, 39, 40, 41, 42, 43, 44, 45, 46, 47, 52, 53, 54, 55, 56, 57, 58, 59, 60, 61, 62, 63, 64, 65, 66, 67, 68, 69, 70, 71, 72, 73, 74, 75, 76, 77, 78, 79, 80] (by decide +kernel) (by decide +kernel)) (goodIn_sub (fun _ h => List.mem_cons_of_mem _ (List.mem_append_right _ h)) (by decide +kernel))
set_option maxRecDepth 20000 in
theorem gX4_noteSelection_X4_moveCredits : GoodIn wsX4_noteSelection (wsV RX4 180 RX4 yX4_moveCredits wsX4_moveCredits) := goodIn_app (goodIn_of _ (by decide +kernel)) ggX4_noteSelection_X4_moveCredits
set_option maxRecDepth 20000 in
theorem ggX4_noteSelection_X5_nextSeed : GoodIn wsX4_noteSelection wsX5_nextSeed := goodIn_r _ [50, 51] (by decide +kernel) (by decide +kernel)
set_option maxRecDepth 20000 in
theorem gX4_noteSelection_X5_nextSeed_n174 : GoodIn wsX4_noteSelection (wsX5_nextSeed) := ggX4_noteSelection_X5_nextSeed
theorem dX4_noteSelection_0 : decode cX4_noteSelection 0 = .ok (.aload_n 0, 1) := by decide +kernel
theorem dX4_noteSelection_1 : decode cX4_noteSelection 1 = .ok (.getfield 42, 3) := by decide +kernel
theorem dX4_noteSelection_4 : decode cX4_noteSelection 4 = .ok (.tableswitch 69 0 4 #[36, 44, 69, 69, 52], 36) := by decide +kernel
theorem dX4_noteSelection_40 : decode cX4_noteSelection 40 = .ok (.aload_n 0, 1) := by decide +kernel
theorem dX4_noteSelection_41 : decode cX4_noteSelection 41 = .ok (.iload_n 1, 1) := by decide +kernel
theorem dX4_noteSelection_42 : decode cX4_noteSelection 42 = .ok (.putfield 45, 3) := by decide +kernel
theorem dX4_noteSelection_45 : decode cX4_noteSelection 45 = .ok (.goto 28, 3) := by decide +kernel
theorem dX4_noteSelection_48 : decode cX4_noteSelection 48 = .ok (.aload_n 0, 1) := by decide +kernel
theorem dX4_noteSelection_49 : decode cX4_noteSelection 49 = .ok (.iload_n 1, 1) := by decide +kernel
theorem dX4_noteSelection_50 : decode cX4_noteSelection 50 = .ok (.invokevirtual 180, 3) := by decide +kernel
theorem dX4_noteSelection_53 : decode cX4_noteSelection 53 = .ok (.goto 20, 3) := by decide +kernel
theorem dX4_noteSelection_56 : decode cX4_noteSelection 56 = .ok (.aload_n 0, 1) := by decide +kernel
theorem dX4_noteSelection_57 : decode cX4_noteSelection 57 = .ok (.aload_n 0, 1) := by decide +kernel
theorem dX4_noteSelection_58 : decode cX4_noteSelection 58 = .ok (.getfield 48, 3) := by decide +kernel
theorem dX4_noteSelection_61 : decode cX4_noteSelection 61 = .ok (.invokestatic 174, 3) := by decide +kernel
theorem dX4_noteSelection_64 : decode cX4_noteSelection 64 = .ok (.invokestatic 174, 3) := by decide +kernel
theorem dX4_noteSelection_67 : decode cX4_noteSelection 67 = .ok (.putfield 48, 3) := by decide +kernel
theorem dX4_noteSelection_70 : decode cX4_noteSelection 70 = .ok (.goto 3, 3) := by decide +kernel
theorem dX4_noteSelection_73 : decode cX4_noteSelection 73 = .ok (.return_, 1) := by decide +kernel
set_option maxRecDepth 20000 in
theorem ggX4_moveCredits_X3_accepts : GoodIn wsX4_moveCredits wsX3_accepts := goodIn_r _ [8, 9, 10, 11, 12, 13, 14, 15, 16, 17, 18, 19, 20, 55, 56, 57, 58, 59, 60, 61, 62, 63, 64, 65, 66, 67, 68, 69] (by decide +kernel) (by decide +kernel)
set_option maxRecDepth 20000 in
theorem gX4_moveCredits_X3_accepts : GoodIn wsX4_moveCredits (wsV RX4 130 RX3 yX3_accepts wsX3_accepts) := goodIn_app (goodIn_of _ (by decide +kernel)) ggX4_moveCredits_X3_accepts
set_option maxRecDepth 20000 in
theorem ggX4_moveCredits_X4_weightNow : GoodIn wsX4_moveCredits wsX4_weightNow := goodIn_r _ [25, 26, 27, 28, 29, 30, 31, 32, 33, 34, 41, 42, 43, 44, 45, 46, 47, 48, 49, 50, 51, 52, 53, 54, 55, 56, 57, 58, 59, 60, 61, 62, 63, 64] (by decide +kernel) (by decide +kernel)
set_option maxRecDepth 20000 in
theorem gX4_moveCredits_X4_weightNow : GoodIn wsX4_moveCredits (wsV RX4 153 RX4 yX4_weightNow wsX4_weightNow) := goodIn_app (goodIn_of _ (by decide +kernel)) ggX4_moveCredits_X4_weightNow
set_option maxRecDepth 20000 in
theorem ggX4_moveCredits_X4_serverAt : GoodIn wsX4_moveCredits wsX4_serverAt := goodIn_ca (goodIn_r _ [38, 39, 40, 1, 2, 41, 42, 43, 44, 45, 46, 47, 48, 49, 50, 51, 52, 53, 54] (by decide +kernel) (by decide +kernel)) (goodIn_sub (fun _ h => List.mem_cons_of_mem _ (List.mem_append_right _ h)) (by decide +kernel))
set_option maxRecDepth 20000 in
theorem gX4_moveCredits_X4_serverAt : GoodIn wsX4_moveCredits (wsV RX4 126 RX4 yX4_serverAt wsX4_serverAt) := goodIn_app (goodIn_of _ (by decide +kernel)) ggX4_moveCredits_X4_serverAt
theorem dX4_moveCredits_0 : decode cX4_moveCredits 0 = .ok (.iconst 0, 1) := by decide +kernel
theorem dX4_moveCredits_1 : decode cX4_moveCredits 1 = .ok (.istore_n 2, 1) := by decide +kernel
theorem dX4_moveCredits_2 : decode cX4_moveCredits 2 = .ok (.iconst 0, 1) := by decide +kernel
theorem dX4_moveCredits_3 : decode cX4_moveCredits 3 = .ok (.istore_n 3, 1) := by decide +kernel
theorem dX4_moveCredits_4 : decode cX4_moveCredits 4 = .ok (.iload_n 3, 1) := by decide +kernel
theorem dX4_moveCredits_5 : decode cX4_moveCredits 5 = .ok (.aload_n 0, 1) := by decide +kernel
theorem dX4_moveCredits_6 : decode cX4_moveCredits 6 = .ok (.getfield 51, 3) := by decide +kernel
theorem dX4_moveCredits_9 : decode cX4_moveCredits 9 = .ok (.if_icmp .ge 50, 3) := by decide +kernel
theorem dX4_moveCredits_12 : decode cX4_moveCredits 12 = .ok (.aload_n 0, 1) := by decide +kernel
theorem dX4_moveCredits_13 : decode cX4_moveCredits 13 = .ok (.getfield 11, 3) := by decide +kernel
theorem dX4_moveCredits_16 : decode cX4_moveCredits 16 = .ok (.iload_n 3, 1) := by decide +kernel
theorem dX4_moveCredits_17 : decode cX4_moveCredits 17 = .ok (.aaload, 1) := by decide +kernel
theorem dX4_moveCredits_18 : decode cX4_moveCredits 18 = .ok (.astore 4, 2) := by decide +kernel
theorem dX4_moveCredits_20 : decode cX4_moveCredits 20 = .ok (.aload 4, 2) := by decide +kernel
theorem dX4_moveCredits_22 : decode cX4_moveCredits 22 = .ok (.invokevirtual 130, 3) := by decide +kernel
theorem dX4_moveCredits_25 : decode cX4_moveCredits 25 = .ok (.ifCond .eq 28, 3) := by decide +kernel
theorem dX4_moveCredits_28 : decode cX4_moveCredits 28 = .ok (.aload_n 0, 1) := by decide +kernel
theorem dX4_moveCredits_29 : decode cX4_moveCredits 29 = .ok (.aload 4, 2) := by decide +kernel
theorem dX4_moveCredits_31 : decode cX4_moveCredits 31 = .ok (.invokevirtual 153, 3) := by decide +kernel
theorem dX4_moveCredits_34 : decode cX4_moveCredits 34 = .ok (.istore 5, 2) := by decide +kernel
theorem dX4_moveCredits_36 : decode cX4_moveCredits 36 = .ok (.aload 4, 2) := by decide +kernel
theorem dX4_moveCredits_38 : decode cX4_moveCredits 38 = .ok (.dup, 1) := by decide +kernel
theorem dX4_moveCredits_39 : decode cX4_moveCredits 39 = .ok (.getfield 65, 3) := by decide +kernel
theorem dX4_moveCredits_42 : decode cX4_moveCredits 42 = .ok (.iload 5, 2) := by decide +kernel
theorem dX4_moveCredits_44 : decode cX4_moveCredits 44 = .ok (.iadd, 1) := by decide +kernel
theorem dX4_moveCredits_45 : decode cX4_moveCredits 45 = .ok (.putfield 65, 3) := by decide +kernel
theorem dX4_moveCredits_48 : decode cX4_moveCredits 48 = .ok (.iload_n 2, 1) := by decide +kernel
theorem dX4_moveCredits_49 : decode cX4_moveCredits 49 = .ok (.iload 5, 2) := by decide +kernel
theorem dX4_moveCredits_51 : decode cX4_moveCredits 51 = .ok (.iadd, 1) := by decide +kernel
theorem dX4_moveCredits_52 : decode cX4_moveCredits 52 = .ok (.istore_n 2, 1) := by decide +kernel
theorem dX4_moveCredits_53 : decode cX4_moveCredits 53 = .ok (.iinc 3 1, 3) := by decide +kernel
theorem dX4_moveCredits_56 : decode cX4_moveCredits 56 = .ok (.goto (-52), 3) := by decide +kernel
theorem dX4_moveCredits_59 : decode cX4_moveCredits 59 = .ok (.aload_n 0, 1) := by decide +kernel
theorem dX4_moveCredits_60 : decode cX4_moveCredits 60 = .ok (.iload_n 1, 1) := by decide +kernel
theorem dX4_moveCredits_61 : decode cX4_moveCredits 61 = .ok (.invokevirtual 126, 3) := by decide +kernel
theorem dX4_moveCredits_64 : decode cX4_moveCredits 64 = .ok (.dup, 1) := by decide +kernel
theorem dX4_moveCredits_65 : decode cX4_moveCredits 65 = .ok (.getfield 65, 3) := by decide +kernel
theorem dX4_moveCredits_68 : decode cX4_moveCredits 68 = .ok (.iload_n 2, 1) := by decide +kernel
theorem dX4_moveCredits_69 : decode cX4_moveCredits 69 = .ok (.isub, 1) := by decide +kernel
theorem dX4_moveCredits_70 : decode cX4_moveCredits 70 = .ok (.putfield 65, 3) := by decide +kernel
theorem dX4_moveCredits_73 : decode cX4_moveCredits 73 = .ok (.return_, 1) := by decide +kernel
set_option maxRecDepth 20000 in
theorem ggX4_connect_X2_append : GoodIn wsX4_connect wsX2_append := goodIn_r _ [11, 12, 13, 14, 15, 81, 82, 83, 84] (by decide +kernel) (by decide +kernel)
set_option maxRecDepth 20000 in
theorem gX4_connect_X2_append : GoodIn wsX4_connect (wsV RX4 184 RX2 yX2_append wsX2_append) := goodIn_app (goodIn_of _ (by decide +kernel)) ggX4_connect_X2_append
set_option maxRecDepth 20000 in
theorem ggX4_connect_X4_serverAt : GoodIn wsX4_connect wsX4_serverAt := goodIn_ca (goodIn_r _ [20, 21, 22, 23, 24, 57, 58, 59, 60, 61, 62, 63, 64, 65, 66, 67, 68, 69, 70] (by decide +kernel) (by decide +kernel)) (goodIn_sub (fun _ h => List.mem_cons_of_mem _ (List.mem_append_right _ h)) (by decide +kernel))
set_option maxRecDepth 20000 in
theorem gX4_connect_X4_serverAt : GoodIn wsX4_connect (wsV RX4 126 RX4 yX4_serverAt wsX4_serverAt) := goodIn_app (goodIn_of _ (by decide +kernel)) ggX4_connect_X4_serverAt
set_option maxRecDepth 20000 in
theorem ggX4_connect_X0_noteBegin : GoodIn wsX4_connect wsX0_noteBegin := goodIn_r _ [29, 30, 31, 85, 86, 87, 88, 89] (by decide +kernel) (by decide +kernel)
set_option maxRecDepth 20000 in
theorem gX4_connect_X0_noteBegin : GoodIn wsX4_connect (wsV RX4 187 RX0 yX0_noteBegin wsX0_noteBegin) := goodIn_app (goodIn_of _ (by decide +kernel)) ggX4_connect_X0_noteBegin
set_option maxRecDepth 20000 in
theorem ggX4_connect_X1_remember : GoodIn wsX4_connect wsX1_remember := goodIn_r _ [36, 37, 38, 39, 40, 41, 42, 35, 43, 44, 45, 46, 47, 48, 49, 50, 51, 52, 53, 54, 55, 56, 90, 91, 92, 93] (by decide +kernel) (by decide +kernel)
set_option maxRecDepth 20000 in
theorem gX4_connect_X1_remember : GoodIn wsX4_connect (wsV RX4 190 RX1 yX1_remember wsX1_remember) := goodIn_app (goodIn_of _ (by decide +kernel)) ggX4_connect_X1_remember
theorem dX4_connect_0 : decode cX4_connect 0 = .ok (.aload_n 0, 1) := by decide +kernel
theorem dX4_connect_1 : decode cX4_connect 1 = .ok (.getfield 21, 3) := by decide +kernel
theorem dX4_connect_4 : decode cX4_connect 4 = .ok (.iload_n 2, 1) := by decide +kernel
theorem dX4_connect_5 : decode cX4_connect 5 = .ok (.aload_n 0, 1) := by decide +kernel
theorem dX4_connect_6 : decode cX4_connect 6 = .ok (.getfield 72, 3) := by decide +kernel
theorem dX4_connect_9 : decode cX4_connect 9 = .ok (.invokevirtual 184, 3) := by decide +kernel
theorem dX4_connect_12 : decode cX4_connect 12 = .ok (.istore_n 3, 1) := by decide +kernel
theorem dX4_connect_13 : decode cX4_connect 13 = .ok (.aload_n 0, 1) := by decide +kernel
theorem dX4_connect_14 : decode cX4_connect 14 = .ok (.iload_n 2, 1) := by decide +kernel
theorem dX4_connect_15 : decode cX4_connect 15 = .ok (.invokevirtual 126, 3) := by decide +kernel
theorem dX4_connect_18 : decode cX4_connect 18 = .ok (.astore 4, 2) := by decide +kernel
theorem dX4_connect_20 : decode cX4_connect 20 = .ok (.aload 4, 2) := by decide +kernel
theorem dX4_connect_22 : decode cX4_connect 22 = .ok (.dup, 1) := by decide +kernel
theorem dX4_connect_23 : decode cX4_connect 23 = .ok (.getfield 80, 3) := by decide +kernel
theorem dX4_connect_26 : decode cX4_connect 26 = .ok (.iconst 1, 1) := by decide +kernel
theorem dX4_connect_27 : decode cX4_connect 27 = .ok (.iadd, 1) := by decide +kernel
theorem dX4_connect_28 : decode cX4_connect 28 = .ok (.putfield 80, 3) := by decide +kernel
theorem dX4_connect_31 : decode cX4_connect 31 = .ok (.aload 4, 2) := by decide +kernel
theorem dX4_connect_33 : decode cX4_connect 33 = .ok (.getfield 68, 3) := by decide +kernel
theorem dX4_connect_36 : decode cX4_connect 36 = .ok (.iload_n 3, 1) := by decide +kernel
theorem dX4_connect_37 : decode cX4_connect 37 = .ok (.invokevirtual 187, 3) := by decide +kernel
theorem dX4_connect_40 : decode cX4_connect 40 = .ok (.aload_n 0, 1) := by decide +kernel
theorem dX4_connect_41 : decode cX4_connect 41 = .ok (.getfield 120, 3) := by decide +kernel
theorem dX4_connect_44 : decode cX4_connect 44 = .ok (.ifCond .le 16, 3) := by decide +kernel
theorem dX4_connect_47 : decode cX4_connect 47 = .ok (.aload_n 0, 1) := by decide +kernel
theorem dX4_connect_48 : decode cX4_connect 48 = .ok (.getfield 28, 3) := by decide +kernel
theorem dX4_connect_51 : decode cX4_connect 51 = .ok (.iload_n 1, 1) := by decide +kernel
theorem dX4_connect_52 : decode cX4_connect 52 = .ok (.iload_n 2, 1) := by decide +kernel
theorem dX4_connect_53 : decode cX4_connect 53 = .ok (.aload_n 0, 1) := by decide +kernel
theorem dX4_connect_54 : decode cX4_connect 54 = .ok (.getfield 72, 3) := by decide +kernel
theorem dX4_connect_57 : decode cX4_connect 57 = .ok (.invokevirtual 190, 3) := by decide +kernel
theorem dX4_connect_60 : decode cX4_connect 60 = .ok (.iload_n 3, 1) := by decide +kernel
theorem dX4_connect_61 : decode cX4_connect 61 = .ok (.ireturn, 1) := by decide +kernel
set_option maxRecDepth 20000 in
theorem ggX4_disconnect_X4_serverAt : GoodIn wsX4_disconnect wsX4_serverAt := goodIn_ca (goodIn_r _ [12, 13, 14, 15, 16, 50, 51, 52, 53, 54, 55, 56, 57, 58, 59, 60, 61, 62, 63] (by decide +kernel) (by decide +kernel)) (goodIn_sub (fun _ h => List.mem_cons_of_mem _ (List.mem_append_right _ h)) (by decide +kernel))
set_option maxRecDepth 20000 in
theorem gX4_disconnect_X4_serverAt : GoodIn wsX4_disconnect (wsV RX4 126 RX4 yX4_serverAt wsX4_serverAt) := goodIn_app (goodIn_of _ (by decide +kernel)) ggX4_disconnect_X4_serverAt
set_option maxRecDepth 20000 in
theorem ggX4_disconnect_X0_noteEnd : GoodIn wsX4_disconnect wsX0_noteEnd := goodIn_r _ [21, 22, 23, 24, 25, 26, 20, 27, 28, 29, 30, 31, 32, 33, 34, 35, 36, 37, 38, 39, 40, 41, 42, 43, 44, 45, 46, 47, 48, 49, 78, 79, 80, 81, 82] (by decide +kernel) (by decide +kernel)
set_option maxRecDepth 20000 in
theorem gX4_disconnect_X0_noteEnd : GoodIn wsX4_disconnect (wsV RX4 199 RX0 yX0_noteEnd wsX0_noteEnd) := goodIn_app (goodIn_of _ (by decide +kernel)) ggX4_disconnect_X0_noteEnd
theorem dX4_disconnect_0 : decode cX4_disconnect 0 = .ok (.aload_n 0, 1) := by decide +kernel
theorem dX4_disconnect_1 : decode cX4_disconnect 1 = .ok (.aload_n 0, 1) := by decide +kernel
theorem dX4_disconnect_2 : decode cX4_disconnect 2 = .ok (.getfield 21, 3) := by decide +kernel
theorem dX4_disconnect_5 : decode cX4_disconnect 5 = .ok (.getfield 194, 3) := by decide +kernel
theorem dX4_disconnect_8 : decode cX4_disconnect 8 = .ok (.iload_n 1, 1) := by decide +kernel
theorem dX4_disconnect_9 : decode cX4_disconnect 9 = .ok (.iaload, 1) := by decide +kernel
theorem dX4_disconnect_10 : decode cX4_disconnect 10 = .ok (.invokevirtual 126, 3) := by decide +kernel
theorem dX4_disconnect_13 : decode cX4_disconnect 13 = .ok (.astore_n 3, 1) := by decide +kernel
theorem dX4_disconnect_14 : decode cX4_disconnect 14 = .ok (.aload_n 0, 1) := by decide +kernel
theorem dX4_disconnect_15 : decode cX4_disconnect 15 = .ok (.getfield 21, 3) := by decide +kernel
theorem dX4_disconnect_18 : decode cX4_disconnect 18 = .ok (.getfield 195, 3) := by decide +kernel
theorem dX4_disconnect_21 : decode cX4_disconnect 21 = .ok (.iload_n 1, 1) := by decide +kernel
theorem dX4_disconnect_22 : decode cX4_disconnect 22 = .ok (.iconst 0, 1) := by decide +kernel
theorem dX4_disconnect_23 : decode cX4_disconnect 23 = .ok (.bastore, 1) := by decide +kernel
theorem dX4_disconnect_24 : decode cX4_disconnect 24 = .ok (.aload_n 3, 1) := by decide +kernel
theorem dX4_disconnect_25 : decode cX4_disconnect 25 = .ok (.dup, 1) := by decide +kernel
theorem dX4_disconnect_26 : decode cX4_disconnect 26 = .ok (.getfield 80, 3) := by decide +kernel
theorem dX4_disconnect_29 : decode cX4_disconnect 29 = .ok (.iconst 1, 1) := by decide +kernel
theorem dX4_disconnect_30 : decode cX4_disconnect 30 = .ok (.isub, 1) := by decide +kernel
theorem dX4_disconnect_31 : decode cX4_disconnect 31 = .ok (.putfield 80, 3) := by decide +kernel
theorem dX4_disconnect_34 : decode cX4_disconnect 34 = .ok (.aload_n 3, 1) := by decide +kernel
theorem dX4_disconnect_35 : decode cX4_disconnect 35 = .ok (.getfield 68, 3) := by decide +kernel
theorem dX4_disconnect_38 : decode cX4_disconnect 38 = .ok (.iload_n 1, 1) := by decide +kernel
theorem dX4_disconnect_39 : decode cX4_disconnect 39 = .ok (.iload_n 2, 1) := by decide +kernel
theorem dX4_disconnect_40 : decode cX4_disconnect 40 = .ok (.aload_n 0, 1) := by decide +kernel
theorem dX4_disconnect_41 : decode cX4_disconnect 41 = .ok (.getfield 72, 3) := by decide +kernel
theorem dX4_disconnect_44 : decode cX4_disconnect 44 = .ok (.invokevirtual 199, 3) := by decide +kernel
theorem dX4_disconnect_47 : decode cX4_disconnect 47 = .ok (.aload_n 0, 1) := by decide +kernel
theorem dX4_disconnect_48 : decode cX4_disconnect 48 = .ok (.getfield 72, 3) := by decide +kernel
theorem dX4_disconnect_51 : decode cX4_disconnect 51 = .ok (.aload_n 0, 1) := by decide +kernel
theorem dX4_disconnect_52 : decode cX4_disconnect 52 = .ok (.getfield 21, 3) := by decide +kernel
theorem dX4_disconnect_55 : decode cX4_disconnect 55 = .ok (.getfield 203, 3) := by decide +kernel
theorem dX4_disconnect_58 : decode cX4_disconnect 58 = .ok (.iload_n 1, 1) := by decide +kernel
theorem dX4_disconnect_59 : decode cX4_disconnect 59 = .ok (.iaload, 1) := by decide +kernel
theorem dX4_disconnect_60 : decode cX4_disconnect 60 = .ok (.isub, 1) := by decide +kernel
theorem dX4_disconnect_61 : decode cX4_disconnect 61 = .ok (.ireturn, 1) := by decide +kernel
set_option maxRecDepth 20000 in
theorem ggX4_copyFrom_X3_copyFrom : GoodIn wsX4_copyFrom wsX3_copyFrom := goodIn_r _ [19, 20, 21, 22, 23, 24, 25, 26, 27, 28, 29, 30, 31, 32, 33, 34, 35, 36, 37, 38, 39, 77, 78, 79, 80, 81, 82, 83, 84, 85, 86, 87, 88, 89, 90, 91] (by decide +kernel) (by decide +kernel)
set_option maxRecDepth 20000 in
theorem gX4_copyFrom_X3_copyFrom : GoodIn wsX4_copyFrom (wsV RX4 207 RX3 yX3_copyFrom wsX3_copyFrom) := goodIn_app (goodIn_of _ (by decide +kernel)) ggX4_copyFrom_X3_copyFrom
set_option maxRecDepth 20000 in
theorem ggX4_copyFrom_X2_copyFrom : GoodIn wsX4_copyFrom wsX2_copyFrom := goodIn_r _ [44, 45, 46, 47, 48, 49, 50, 51, 52, 92, 93, 94, 95] (by decide +kernel) (by decide +kernel)
set_option maxRecDepth 20000 in
theorem gX4_copyFrom_X2_copyFrom : GoodIn wsX4_copyFrom (wsV RX4 211 RX2 yX2_copyFrom wsX2_copyFrom) := goodIn_app (goodIn_of _ (by decide +kernel)) ggX4_copyFrom_X2_copyFrom
set_option maxRecDepth 20000 in
theorem ggX4_copyFrom_X1_copyFrom : GoodIn wsX4_copyFrom wsX1_copyFrom := goodIn_r _ [57, 58, 59, 60, 48, 49, 50, 61, 62, 96, 97, 98, 99] (by decide +kernel) (by decide +kernel)
set_option maxRecDepth 20000 in
theorem gX4_copyFrom_X1_copyFrom : GoodIn wsX4_copyFrom (wsV RX4 214 RX1 yX1_copyFrom wsX1_copyFrom) := goodIn_app (goodIn_of _ (by decide +kernel)) ggX4_copyFrom_X1_copyFrom
theorem dX4_copyFrom_0 : decode cX4_copyFrom 0 = .ok (.aload_n 0, 1) := by decide +kernel
theorem dX4_copyFrom_1 : decode cX4_copyFrom 1 = .ok (.aload_n 1, 1) := by decide +kernel
theorem dX4_copyFrom_2 : decode cX4_copyFrom 2 = .ok (.getfield 51, 3) := by decide +kernel
theorem dX4_copyFrom_5 : decode cX4_copyFrom 5 = .ok (.putfield 51, 3) := by decide +kernel
theorem dX4_copyFrom_8 : decode cX4_copyFrom 8 = .ok (.aload_n 0, 1) := by decide +kernel
theorem dX4_copyFrom_9 : decode cX4_copyFrom 9 = .ok (.aload_n 1, 1) := by decide +kernel
theorem dX4_copyFrom_10 : decode cX4_copyFrom 10 = .ok (.getfield 32, 3) := by decide +kernel
theorem dX4_copyFrom_13 : decode cX4_copyFrom 13 = .ok (.putfield 32, 3) := by decide +kernel
theorem dX4_copyFrom_16 : decode cX4_copyFrom 16 = .ok (.aload_n 0, 1) := by decide +kernel
theorem dX4_copyFrom_17 : decode cX4_copyFrom 17 = .ok (.aload_n 1, 1) := by decide +kernel
theorem dX4_copyFrom_18 : decode cX4_copyFrom 18 = .ok (.getfield 36, 3) := by decide +kernel
theorem dX4_copyFrom_21 : decode cX4_copyFrom 21 = .ok (.putfield 36, 3) := by decide +kernel
theorem dX4_copyFrom_24 : decode cX4_copyFrom 24 = .ok (.aload_n 0, 1) := by decide +kernel
theorem dX4_copyFrom_25 : decode cX4_copyFrom 25 = .ok (.aload_n 1, 1) := by decide +kernel
theorem dX4_copyFrom_26 : decode cX4_copyFrom 26 = .ok (.getfield 86, 3) := by decide +kernel
theorem dX4_copyFrom_29 : decode cX4_copyFrom 29 = .ok (.putfield 86, 3) := by decide +kernel
theorem dX4_copyFrom_32 : decode cX4_copyFrom 32 = .ok (.aload_n 0, 1) := by decide +kernel
theorem dX4_copyFrom_33 : decode cX4_copyFrom 33 = .ok (.aload_n 1, 1) := by decide +kernel
theorem dX4_copyFrom_34 : decode cX4_copyFrom 34 = .ok (.getfield 39, 3) := by decide +kernel
theorem dX4_copyFrom_37 : decode cX4_copyFrom 37 = .ok (.putfield 39, 3) := by decide +kernel
theorem dX4_copyFrom_40 : decode cX4_copyFrom 40 = .ok (.aload_n 0, 1) := by decide +kernel
theorem dX4_copyFrom_41 : decode cX4_copyFrom 41 = .ok (.aload_n 1, 1) := by decide +kernel
theorem dX4_copyFrom_42 : decode cX4_copyFrom 42 = .ok (.getfield 120, 3) := by decide +kernel
theorem dX4_copyFrom_45 : decode cX4_copyFrom 45 = .ok (.putfield 120, 3) := by decide +kernel
theorem dX4_copyFrom_48 : decode cX4_copyFrom 48 = .ok (.aload_n 0, 1) := by decide +kernel
theorem dX4_copyFrom_49 : decode cX4_copyFrom 49 = .ok (.aload_n 1, 1) := by decide +kernel
theorem dX4_copyFrom_50 : decode cX4_copyFrom 50 = .ok (.getfield 42, 3) := by decide +kernel
theorem dX4_copyFrom_53 : decode cX4_copyFrom 53 = .ok (.putfield 42, 3) := by decide +kernel
theorem dX4_copyFrom_56 : decode cX4_copyFrom 56 = .ok (.aload_n 0, 1) := by decide +kernel
theorem dX4_copyFrom_57 : decode cX4_copyFrom 57 = .ok (.aload_n 1, 1) := by decide +kernel
theorem dX4_copyFrom_58 : decode cX4_copyFrom 58 = .ok (.getfield 45, 3) := by decide +kernel
theorem dX4_copyFrom_61 : decode cX4_copyFrom 61 = .ok (.putfield 45, 3) := by decide +kernel
theorem dX4_copyFrom_64 : decode cX4_copyFrom 64 = .ok (.aload_n 0, 1) := by decide +kernel
theorem dX4_copyFrom_65 : decode cX4_copyFrom 65 = .ok (.aload_n 1, 1) := by decide +kernel
theorem dX4_copyFrom_66 : decode cX4_copyFrom 66 = .ok (.getfield 48, 3) := by decide +kernel
theorem dX4_copyFrom_69 : decode cX4_copyFrom 69 = .ok (.putfield 48, 3) := by decide +kernel
theorem dX4_copyFrom_72 : decode cX4_copyFrom 72 = .ok (.aload_n 0, 1) := by decide +kernel
theorem dX4_copyFrom_73 : decode cX4_copyFrom 73 = .ok (.aload_n 1, 1) := by decide +kernel
theorem dX4_copyFrom_74 : decode cX4_copyFrom 74 = .ok (.getfield 72, 3) := by decide +kernel
theorem dX4_copyFrom_77 : decode cX4_copyFrom 77 = .ok (.putfield 72, 3) := by decide +kernel
theorem dX4_copyFrom_80 : decode cX4_copyFrom 80 = .ok (.aload_n 0, 1) := by decide +kernel
theorem dX4_copyFrom_81 : decode cX4_copyFrom 81 = .ok (.aload_n 1, 1) := by decide +kernel
theorem dX4_copyFrom_82 : decode cX4_copyFrom 82 = .ok (.getfield 204, 3) := by decide +kernel
theorem dX4_copyFrom_85 : decode cX4_copyFrom 85 = .ok (.putfield 204, 3) := by decide +kernel
theorem dX4_copyFrom_88 : decode cX4_copyFrom 88 = .ok (.iconst 0, 1) := by decide +kernel
theorem dX4_copyFrom_89 : decode cX4_copyFrom 89 = .ok (.istore_n 2, 1) := by decide +kernel
theorem dX4_copyFrom_90 : decode cX4_copyFrom 90 = .ok (.iload_n 2, 1) := by decide +kernel
theorem dX4_copyFrom_91 : decode cX4_copyFrom 91 = .ok (.aload_n 0, 1) := by decide +kernel
theorem dX4_copyFrom_92 : decode cX4_copyFrom 92 = .ok (.getfield 51, 3) := by decide +kernel
theorem dX4_copyFrom_95 : decode cX4_copyFrom 95 = .ok (.if_icmp .ge 24, 3) := by decide +kernel
theorem dX4_copyFrom_98 : decode cX4_copyFrom 98 = .ok (.aload_n 0, 1) := by decide +kernel
theorem dX4_copyFrom_99 : decode cX4_copyFrom 99 = .ok (.getfield 11, 3) := by decide +kernel
theorem dX4_copyFrom_102 : decode cX4_copyFrom 102 = .ok (.iload_n 2, 1) := by decide +kernel
theorem dX4_copyFrom_103 : decode cX4_copyFrom 103 = .ok (.aaload, 1) := by decide +kernel
theorem dX4_copyFrom_104 : decode cX4_copyFrom 104 = .ok (.aload_n 1, 1) := by decide +kernel
theorem dX4_copyFrom_105 : decode cX4_copyFrom 105 = .ok (.getfield 11, 3) := by decide +kernel
theorem dX4_copyFrom_108 : decode cX4_copyFrom 108 = .ok (.iload_n 2, 1) := by decide +kernel
theorem dX4_copyFrom_109 : decode cX4_copyFrom 109 = .ok (.aaload, 1) := by decide +kernel
theorem dX4_copyFrom_110 : decode cX4_copyFrom 110 = .ok (.invokevirtual 207, 3) := by decide +kernel
theorem dX4_copyFrom_113 : decode cX4_copyFrom 113 = .ok (.iinc 2 1, 3) := by decide +kernel
theorem dX4_copyFrom_116 : decode cX4_copyFrom 116 = .ok (.goto (-26), 3) := by decide +kernel
theorem dX4_copyFrom_119 : decode cX4_copyFrom 119 = .ok (.aload_n 0, 1) := by decide +kernel
theorem dX4_copyFrom_120 : decode cX4_copyFrom 120 = .ok (.getfield 21, 3) := by decide +kernel
theorem dX4_copyFrom_123 : decode cX4_copyFrom 123 = .ok (.aload_n 1, 1) := by decide +kernel
theorem dX4_copyFrom_124 : decode cX4_copyFrom 124 = .ok (.getfield 21, 3) := by decide +kernel
theorem dX4_copyFrom_127 : decode cX4_copyFrom 127 = .ok (.invokevirtual 211, 3) := by decide +kernel
theorem dX4_copyFrom_130 : decode cX4_copyFrom 130 = .ok (.aload_n 0, 1) := by decide +kernel
theorem dX4_copyFrom_131 : decode cX4_copyFrom 131 = .ok (.getfield 28, 3) := by decide +kernel
theorem dX4_copyFrom_134 : decode cX4_copyFrom 134 = .ok (.aload_n 1, 1) := by decide +kernel
theorem dX4_copyFrom_135 : decode cX4_copyFrom 135 = .ok (.getfield 28, 3) := by decide +kernel
theorem dX4_copyFrom_138 : decode cX4_copyFrom 138 = .ok (.invokevirtual 214, 3) := by decide +kernel
theorem dX4_copyFrom_141 : decode cX4_copyFrom 141 = .ok (.return_, 1) := by decide +kernel
set_option maxRecDepth 20000 in
theorem ggX5_init_X4_init : GoodIn wsX5_init wsX4_init := goodIn_r _ [11, 12, 2, 3, 13, 14, 15, 16, 17, 18, 19, 20, 21, 22, 23, 24, 25, 26, 27, 28, 29, 30, 31, 32, 33, 34, 35, 36, 37, 38, 39, 40, 41, 42, 43, 44, 45, 46, 47, 48, 49, 50, 51, 52, 53, 54, 55, 56, 57, 58, 59, 60, 61, 62, 63, 64, 65, 66, 67, 68, 69, 70, 71, 74, 75, 76, 77, 78, 79, 80, 81, 82, 83, 84, 85, 86, 87, 88, 89, 90, 91, 92, 93, 94, 95, 96] (by decide +kernel) (by decide +kernel)
set_option maxRecDepth 20000 in
theorem gX5_init_X4_init : GoodIn wsX5_init (wsX4_init) := ggX5_init_X4_init
theorem dX5_init_0 : decode cX5_init 0 = .ok (.aload_n 0, 1) := by decide +kernel
theorem dX5_init_1 : decode cX5_init 1 = .ok (.invokespecial 1, 3) := by decide +kernel
theorem dX5_init_4 : decode cX5_init 4 = .ok (.aload_n 0, 1) := by decide +kernel
theorem dX5_init_5 : decode cX5_init 5 = .ok (.new 7, 3) := by decide +kernel
theorem dX5_init_8 : decode cX5_init 8 = .ok (.dup, 1) := by decide +kernel
theorem dX5_init_9 : decode cX5_init 9 = .ok (.invokespecial 9, 3) := by decide +kernel
theorem dX5_init_12 : decode cX5_init 12 = .ok (.putfield 10, 3) := by decide +kernel
theorem dX5_init_15 : decode cX5_init 15 = .ok (.aload_n 0, 1) := by decide +kernel
theorem dX5_init_16 : decode cX5_init 16 = .ok (.iconst 2, 1) := by decide +kernel
theorem dX5_init_17 : decode cX5_init 17 = .ok (.anewarray 7, 3) := by decide +kernel
theorem dX5_init_20 : decode cX5_init 20 = .ok (.putfield 16, 3) := by decide +kernel
theorem dX5_init_23 : decode cX5_init 23 = .ok (.return_, 1) := by decide +kernel
set_option maxRecDepth 20000 in
theorem ggX5_addServer_X5_requireRange : GoodIn wsX5_addServer wsX5_requireRange := goodIn_ca (goodIn_r _ [8, 9, 10] (by decide +kernel) (by decide +kernel)) (goodIn_sub (fun _ h => List.mem_cons_of_mem _ (List.mem_append_right _ h)) (by decide +kernel))
set_option maxRecDepth 20000 in
theorem gX5_addServer_X5_requireRange : GoodIn wsX5_addServer (va_wsS RX5 20 yX5_requireRange wsX5_requireRange) := goodIn_app (goodIn_of _ (by decide +kernel)) ggX5_addServer_X5_requireRange
set_option maxRecDepth 20000 in
theorem ggX5_addServer_X4_append : GoodIn wsX5_addServer wsX4_append := goodIn_r _ [15, 16, 17, 18, 19, 20, 21, 22, 23, 24, 25, 26, 27, 28, 29, 30, 31, 32, 33, 34, 35, 36, 37, 38, 39, 42, 43, 44, 45, 46, 47, 48, 49, 50, 51, 52, 53, 54, 55, 56, 57, 58, 59, 60, 61, 62, 63, 64, 65, 66, 67, 68, 69, 70] (by decide +kernel) (by decide +kernel)
set_option maxRecDepth 20000 in
theorem gX5_addServer_X4_append : GoodIn wsX5_addServer (wsV RX5 35 RX4 yX4_append wsX4_append) := goodIn_app (goodIn_of _ (by decide +kernel)) ggX5_addServer_X4_append
theorem dX5_addServer_0 : decode cX5_addServer 0 = .ok (.iload_n 1, 1) := by decide +kernel
theorem dX5_addServer_1 : decode cX5_addServer 1 = .ok (.iconst 1, 1) := by decide +kernel
theorem dX5_addServer_2 : decode cX5_addServer 2 = .ok (.bipush 10, 2) := by decide +kernel
theorem dX5_addServer_4 : decode cX5_addServer 4 = .ok (.invokestatic 20, 3) := by decide +kernel
theorem dX5_addServer_7 : decode cX5_addServer 7 = .ok (.iload_n 2, 1) := by decide +kernel
theorem dX5_addServer_8 : decode cX5_addServer 8 = .ok (.iconst 1, 1) := by decide +kernel
theorem dX5_addServer_9 : decode cX5_addServer 9 = .ok (.bipush 20, 2) := by decide +kernel
theorem dX5_addServer_11 : decode cX5_addServer 11 = .ok (.invokestatic 20, 3) := by decide +kernel
theorem dX5_addServer_14 : decode cX5_addServer 14 = .ok (.aload_n 0, 1) := by decide +kernel
theorem dX5_addServer_15 : decode cX5_addServer 15 = .ok (.getfield 10, 3) := by decide +kernel
theorem dX5_addServer_18 : decode cX5_addServer 18 = .ok (.getfield 24, 3) := by decide +kernel
theorem dX5_addServer_21 : decode cX5_addServer 21 = .ok (.bipush 10, 2) := by decide +kernel
theorem dX5_addServer_23 : decode cX5_addServer 23 = .ok (.if_icmp .lt 13, 3) := by decide +kernel
theorem dX5_addServer_26 : decode cX5_addServer 26 = .ok (.new 28, 3) := by decide +kernel
theorem dX5_addServer_29 : decode cX5_addServer 29 = .ok (.dup, 1) := by decide +kernel
theorem dX5_addServer_30 : decode cX5_addServer 30 = .ok (.ldc 30, 2) := by decide +kernel
theorem dX5_addServer_32 : decode cX5_addServer 32 = .ok (.invokespecial 32, 3) := by decide +kernel
theorem dX5_addServer_35 : decode cX5_addServer 35 = .ok (.athrow, 1) := by decide +kernel
theorem dX5_addServer_36 : decode cX5_addServer 36 = .ok (.aload_n 0, 1) := by decide +kernel
theorem dX5_addServer_37 : decode cX5_addServer 37 = .ok (.getfield 10, 3) := by decide +kernel
theorem dX5_addServer_40 : decode cX5_addServer 40 = .ok (.iload_n 1, 1) := by decide +kernel
theorem dX5_addServer_41 : decode cX5_addServer 41 = .ok (.iload_n 2, 1) := by decide +kernel
theorem dX5_addServer_42 : decode cX5_addServer 42 = .ok (.invokevirtual 35, 3) := by decide +kernel
theorem dX5_addServer_45 : decode cX5_addServer 45 = .ok (.ireturn, 1) := by decide +kernel
set_option maxRecDepth 20000 in
theorem ggX5_setWeight_X4_serverAt : GoodIn wsX5_setWeight wsX4_serverAt := goodIn_ca (goodIn_r _ [7, 8, 9, 10, 11, 30, 31, 32, 33, 34, 35, 36, 37, 38, 39, 40, 41, 42, 43] (by decide +kernel) (by decide +kernel)) (goodIn_sub (fun _ h => List.mem_cons_of_mem _ (List.mem_append_left _ (List.mem_append_right _ h))) (by decide +kernel))
set_option maxRecDepth 20000 in
theorem gX5_setWeight_X4_serverAt : GoodIn wsX5_setWeight (wsV RX5 39 RX4 yX4_serverAt wsX4_serverAt) := goodIn_app (goodIn_of _ (by decide +kernel)) ggX5_setWeight_X4_serverAt
set_option maxRecDepth 20000 in
theorem ggX5_setWeight_X5_requireRange : GoodIn wsX5_setWeight wsX5_requireRange := goodIn_ca (goodIn_r _ [15, 16, 17] (by decide +kernel) (by decide +kernel)) (goodIn_sub (fun _ h => List.mem_cons_of_mem _ (List.mem_append_right _ h)) (by decide +kernel))
set_option maxRecDepth 20000 in
theorem gX5_setWeight_X5_requireRange : GoodIn wsX5_setWeight (va_wsS RX5 20 yX5_requireRange wsX5_requireRange) := goodIn_app (goodIn_of _ (by decide +kernel)) ggX5_setWeight_X5_requireRange
theorem dX5_setWeight_0 : decode cX5_setWeight 0 = .ok (.aload_n 0, 1) := by decide +kernel
theorem dX5_setWeight_1 : decode cX5_setWeight 1 = .ok (.getfield 10, 3) := by decide +kernel
theorem dX5_setWeight_4 : decode cX5_setWeight 4 = .ok (.iload_n 1, 1) := by decide +kernel
theorem dX5_setWeight_5 : decode cX5_setWeight 5 = .ok (.invokevirtual 39, 3) := by decide +kernel
theorem dX5_setWeight_8 : decode cX5_setWeight 8 = .ok (.astore_n 3, 1) := by decide +kernel
theorem dX5_setWeight_9 : decode cX5_setWeight 9 = .ok (.iload_n 2, 1) := by decide +kernel
theorem dX5_setWeight_10 : decode cX5_setWeight 10 = .ok (.iconst 1, 1) := by decide +kernel
theorem dX5_setWeight_11 : decode cX5_setWeight 11 = .ok (.bipush 10, 2) := by decide +kernel
theorem dX5_setWeight_13 : decode cX5_setWeight 13 = .ok (.invokestatic 20, 3) := by decide +kernel
theorem dX5_setWeight_16 : decode cX5_setWeight 16 = .ok (.aload_n 3, 1) := by decide +kernel
theorem dX5_setWeight_17 : decode cX5_setWeight 17 = .ok (.getfield 43, 3) := by decide +kernel
theorem dX5_setWeight_20 : decode cX5_setWeight 20 = .ok (.istore 4, 2) := by decide +kernel
theorem dX5_setWeight_22 : decode cX5_setWeight 22 = .ok (.aload_n 3, 1) := by decide +kernel
theorem dX5_setWeight_23 : decode cX5_setWeight 23 = .ok (.iload_n 2, 1) := by decide +kernel
theorem dX5_setWeight_24 : decode cX5_setWeight 24 = .ok (.putfield 43, 3) := by decide +kernel
theorem dX5_setWeight_27 : decode cX5_setWeight 27 = .ok (.iload 4, 2) := by decide +kernel
theorem dX5_setWeight_29 : decode cX5_setWeight 29 = .ok (.ireturn, 1) := by decide +kernel
set_option maxRecDepth 20000 in
theorem ggX5_setDraining_X4_serverAt : GoodIn wsX5_setDraining wsX4_serverAt := goodIn_ca (goodIn_r _ [7, 8, 9, 10, 11, 24, 25, 26, 27, 28, 29, 30, 31, 32, 33, 34, 35, 36, 37] (by decide +kernel) (by decide +kernel)) (goodIn_sub (fun _ h => List.mem_cons_of_mem _ (List.mem_append_right _ h)) (by decide +kernel))
set_option maxRecDepth 20000 in
theorem gX5_setDraining_X4_serverAt : GoodIn wsX5_setDraining (wsV RX5 39 RX4 yX4_serverAt wsX4_serverAt) := goodIn_app (goodIn_of _ (by decide +kernel)) ggX5_setDraining_X4_serverAt
theorem dX5_setDraining_0 : decode cX5_setDraining 0 = .ok (.aload_n 0, 1) := by decide +kernel
theorem dX5_setDraining_1 : decode cX5_setDraining 1 = .ok (.getfield 10, 3) := by decide +kernel
theorem dX5_setDraining_4 : decode cX5_setDraining 4 = .ok (.iload_n 1, 1) := by decide +kernel
theorem dX5_setDraining_5 : decode cX5_setDraining 5 = .ok (.invokevirtual 39, 3) := by decide +kernel
theorem dX5_setDraining_8 : decode cX5_setDraining 8 = .ok (.astore_n 3, 1) := by decide +kernel
theorem dX5_setDraining_9 : decode cX5_setDraining 9 = .ok (.aload_n 3, 1) := by decide +kernel
theorem dX5_setDraining_10 : decode cX5_setDraining 10 = .ok (.getfield 48, 3) := by decide +kernel
theorem dX5_setDraining_13 : decode cX5_setDraining 13 = .ok (.istore 4, 2) := by decide +kernel
theorem dX5_setDraining_15 : decode cX5_setDraining 15 = .ok (.aload_n 3, 1) := by decide +kernel
theorem dX5_setDraining_16 : decode cX5_setDraining 16 = .ok (.iload_n 2, 1) := by decide +kernel
theorem dX5_setDraining_17 : decode cX5_setDraining 17 = .ok (.putfield 48, 3) := by decide +kernel
theorem dX5_setDraining_20 : decode cX5_setDraining 20 = .ok (.iload 4, 2) := by decide +kernel
theorem dX5_setDraining_22 : decode cX5_setDraining 22 = .ok (.ireturn, 1) := by decide +kernel
set_option maxRecDepth 20000 in
theorem ggX5_report_X4_serverAt : GoodIn wsX5_report wsX4_serverAt := goodIn_ca (goodIn_r _ [10, 11, 12, 13, 14, 40, 41, 42, 43, 44, 45, 46, 47, 48, 49, 50, 51, 52, 53] (by decide +kernel) (by decide +kernel)) (goodIn_sub (fun _ h => List.mem_cons_of_mem _ (List.mem_append_right _ h)) (by decide +kernel))
set_option maxRecDepth 20000 in
theorem gX5_report_X4_serverAt : GoodIn wsX5_report (wsV RX5 39 RX4 yX4_serverAt wsX4_serverAt) := goodIn_app (goodIn_of _ (by decide +kernel)) ggX5_report_X4_serverAt
set_option maxRecDepth 20000 in
theorem ggX5_report_X3_checkWhileHealthy : GoodIn wsX5_report wsX3_checkWhileHealthy := goodIn_r _ [19, 20, 21, 30, 31, 32, 33, 34, 35, 36, 37, 38, 39] (by decide +kernel) (by decide +kernel)
set_option maxRecDepth 20000 in
theorem gX5_report_X3_checkWhileHealthy : GoodIn wsX5_report (wsV RX5 58 RX3 yX3_checkWhileHealthy wsX3_checkWhileHealthy) := goodIn_app (goodIn_of _ (by decide +kernel)) ggX5_report_X3_checkWhileHealthy
set_option maxRecDepth 20000 in
theorem ggX5_report_X3_checkWhileUnhealthy : GoodIn wsX5_report wsX3_checkWhileUnhealthy := goodIn_r _ [25, 20, 21, 26, 27, 30, 31, 32, 33, 34, 35, 36, 37, 38, 39] (by decide +kernel) (by decide +kernel)
set_option maxRecDepth 20000 in
theorem gX5_report_X3_checkWhileUnhealthy : GoodIn wsX5_report (wsV RX5 68 RX3 yX3_checkWhileUnhealthy wsX3_checkWhileUnhealthy) := goodIn_app (goodIn_of _ (by decide +kernel)) ggX5_report_X3_checkWhileUnhealthy
theorem dX5_report_0 : decode cX5_report 0 = .ok (.aload_n 0, 1) := by decide +kernel
theorem dX5_report_1 : decode cX5_report 1 = .ok (.getfield 10, 3) := by decide +kernel
theorem dX5_report_4 : decode cX5_report 4 = .ok (.iload_n 1, 1) := by decide +kernel
theorem dX5_report_5 : decode cX5_report 5 = .ok (.invokevirtual 39, 3) := by decide +kernel
theorem dX5_report_8 : decode cX5_report 8 = .ok (.astore_n 3, 1) := by decide +kernel
theorem dX5_report_9 : decode cX5_report 9 = .ok (.aload_n 3, 1) := by decide +kernel
theorem dX5_report_10 : decode cX5_report 10 = .ok (.getfield 52, 3) := by decide +kernel
theorem dX5_report_13 : decode cX5_report 13 = .ok (.ifCond .eq 18, 3) := by decide +kernel
theorem dX5_report_16 : decode cX5_report 16 = .ok (.aload_n 3, 1) := by decide +kernel
theorem dX5_report_17 : decode cX5_report 17 = .ok (.iload_n 2, 1) := by decide +kernel
theorem dX5_report_18 : decode cX5_report 18 = .ok (.aload_n 0, 1) := by decide +kernel
theorem dX5_report_19 : decode cX5_report 19 = .ok (.getfield 10, 3) := by decide +kernel
theorem dX5_report_22 : decode cX5_report 22 = .ok (.getfield 55, 3) := by decide +kernel
theorem dX5_report_25 : decode cX5_report 25 = .ok (.invokevirtual 58, 3) := by decide +kernel
theorem dX5_report_28 : decode cX5_report 28 = .ok (.goto 22, 3) := by decide +kernel
theorem dX5_report_31 : decode cX5_report 31 = .ok (.aload_n 3, 1) := by decide +kernel
theorem dX5_report_32 : decode cX5_report 32 = .ok (.iload_n 2, 1) := by decide +kernel
theorem dX5_report_33 : decode cX5_report 33 = .ok (.aload_n 0, 1) := by decide +kernel
theorem dX5_report_34 : decode cX5_report 34 = .ok (.getfield 10, 3) := by decide +kernel
theorem dX5_report_37 : decode cX5_report 37 = .ok (.getfield 62, 3) := by decide +kernel
theorem dX5_report_40 : decode cX5_report 40 = .ok (.aload_n 0, 1) := by decide +kernel
theorem dX5_report_41 : decode cX5_report 41 = .ok (.getfield 10, 3) := by decide +kernel
theorem dX5_report_44 : decode cX5_report 44 = .ok (.getfield 65, 3) := by decide +kernel
theorem dX5_report_47 : decode cX5_report 47 = .ok (.invokevirtual 68, 3) := by decide +kernel
theorem dX5_report_50 : decode cX5_report 50 = .ok (.aload_n 3, 1) := by decide +kernel
theorem dX5_report_51 : decode cX5_report 51 = .ok (.getfield 52, 3) := by decide +kernel
theorem dX5_report_54 : decode cX5_report 54 = .ok (.ireturn, 1) := by decide +kernel
theorem dX5_servers_0 : decode cX5_servers 0 = .ok (.aload_n 0, 1) := by decide +kernel
theorem dX5_servers_1 : decode cX5_servers 1 = .ok (.getfield 10, 3) := by decide +kernel
theorem dX5_servers_4 : decode cX5_servers 4 = .ok (.getfield 24, 3) := by decide +kernel
theorem dX5_servers_7 : decode cX5_servers 7 = .ok (.ireturn, 1) := by decide +kernel
set_option maxRecDepth 20000 in
theorem ggX5_setThresholds_X5_requireRange : GoodIn wsX5_setThresholds wsX5_requireRange := goodIn_ca (goodIn_r _ [7, 8, 9] (by decide +kernel) (by decide +kernel)) (goodIn_sub (fun _ h => List.mem_cons_of_mem _ (List.mem_append_right _ h)) (by decide +kernel))
set_option maxRecDepth 20000 in
theorem gX5_setThresholds_X5_requireRange : GoodIn wsX5_setThresholds (va_wsS RX5 20 yX5_requireRange wsX5_requireRange) := goodIn_app (goodIn_of _ (by decide +kernel)) ggX5_setThresholds_X5_requireRange
theorem dX5_setThresholds_0 : decode cX5_setThresholds 0 = .ok (.iload_n 1, 1) := by decide +kernel
theorem dX5_setThresholds_1 : decode cX5_setThresholds 1 = .ok (.iconst 1, 1) := by decide +kernel
theorem dX5_setThresholds_2 : decode cX5_setThresholds 2 = .ok (.bipush 9, 2) := by decide +kernel
theorem dX5_setThresholds_4 : decode cX5_setThresholds 4 = .ok (.invokestatic 20, 3) := by decide +kernel
theorem dX5_setThresholds_7 : decode cX5_setThresholds 7 = .ok (.iload_n 2, 1) := by decide +kernel
theorem dX5_setThresholds_8 : decode cX5_setThresholds 8 = .ok (.iconst 1, 1) := by decide +kernel
theorem dX5_setThresholds_9 : decode cX5_setThresholds 9 = .ok (.bipush 9, 2) := by decide +kernel
theorem dX5_setThresholds_11 : decode cX5_setThresholds 11 = .ok (.invokestatic 20, 3) := by decide +kernel
theorem dX5_setThresholds_14 : decode cX5_setThresholds 14 = .ok (.aload_n 0, 1) := by decide +kernel
theorem dX5_setThresholds_15 : decode cX5_setThresholds 15 = .ok (.getfield 10, 3) := by decide +kernel
theorem dX5_setThresholds_18 : decode cX5_setThresholds 18 = .ok (.iload_n 1, 1) := by decide +kernel
theorem dX5_setThresholds_19 : decode cX5_setThresholds 19 = .ok (.putfield 62, 3) := by decide +kernel
theorem dX5_setThresholds_22 : decode cX5_setThresholds 22 = .ok (.aload_n 0, 1) := by decide +kernel
theorem dX5_setThresholds_23 : decode cX5_setThresholds 23 = .ok (.getfield 10, 3) := by decide +kernel
theorem dX5_setThresholds_26 : decode cX5_setThresholds 26 = .ok (.iload_n 2, 1) := by decide +kernel
theorem dX5_setThresholds_27 : decode cX5_setThresholds 27 = .ok (.putfield 55, 3) := by decide +kernel
theorem dX5_setThresholds_30 : decode cX5_setThresholds 30 = .ok (.return_, 1) := by decide +kernel
set_option maxRecDepth 20000 in
theorem ggX5_setSlowStart_X5_requireRange : GoodIn wsX5_setSlowStart wsX5_requireRange := goodIn_ca (goodIn_r _ [6, 7, 8] (by decide +kernel) (by decide +kernel)) (goodIn_sub (fun _ h => List.mem_cons_of_mem _ (List.mem_append_right _ h)) (by decide +kernel))
set_option maxRecDepth 20000 in
theorem gX5_setSlowStart_X5_requireRange : GoodIn wsX5_setSlowStart (va_wsS RX5 20 yX5_requireRange wsX5_requireRange) := goodIn_app (goodIn_of _ (by decide +kernel)) ggX5_setSlowStart_X5_requireRange
theorem dX5_setSlowStart_0 : decode cX5_setSlowStart 0 = .ok (.iload_n 1, 1) := by decide +kernel
theorem dX5_setSlowStart_1 : decode cX5_setSlowStart 1 = .ok (.iconst 0, 1) := by decide +kernel
theorem dX5_setSlowStart_2 : decode cX5_setSlowStart 2 = .ok (.bipush 50, 2) := by decide +kernel
theorem dX5_setSlowStart_4 : decode cX5_setSlowStart 4 = .ok (.invokestatic 20, 3) := by decide +kernel
theorem dX5_setSlowStart_7 : decode cX5_setSlowStart 7 = .ok (.aload_n 0, 1) := by decide +kernel
theorem dX5_setSlowStart_8 : decode cX5_setSlowStart 8 = .ok (.getfield 10, 3) := by decide +kernel
theorem dX5_setSlowStart_11 : decode cX5_setSlowStart 11 = .ok (.getfield 72, 3) := by decide +kernel
theorem dX5_setSlowStart_14 : decode cX5_setSlowStart 14 = .ok (.istore_n 2, 1) := by decide +kernel
theorem dX5_setSlowStart_15 : decode cX5_setSlowStart 15 = .ok (.aload_n 0, 1) := by decide +kernel
theorem dX5_setSlowStart_16 : decode cX5_setSlowStart 16 = .ok (.getfield 10, 3) := by decide +kernel
theorem dX5_setSlowStart_19 : decode cX5_setSlowStart 19 = .ok (.iload_n 1, 1) := by decide +kernel
theorem dX5_setSlowStart_20 : decode cX5_setSlowStart 20 = .ok (.putfield 72, 3) := by decide +kernel
theorem dX5_setSlowStart_23 : decode cX5_setSlowStart 23 = .ok (.iload_n 2, 1) := by decide +kernel
theorem dX5_setSlowStart_24 : decode cX5_setSlowStart 24 = .ok (.ireturn, 1) := by decide +kernel
set_option maxRecDepth 20000 in
theorem ggX5_setCool_X5_requireRange : GoodIn wsX5_setCool wsX5_requireRange := goodIn_ca (goodIn_r _ [6, 7, 8] (by decide +kernel) (by decide +kernel)) (goodIn_sub (fun _ h => List.mem_cons_of_mem _ (List.mem_append_right _ h)) (by decide +kernel))
set_option maxRecDepth 20000 in
theorem gX5_setCool_X5_requireRange : GoodIn wsX5_setCool (va_wsS RX5 20 yX5_requireRange wsX5_requireRange) := goodIn_app (goodIn_of _ (by decide +kernel)) ggX5_setCool_X5_requireRange
theorem dX5_setCool_0 : decode cX5_setCool 0 = .ok (.iload_n 1, 1) := by decide +kernel
theorem dX5_setCool_1 : decode cX5_setCool 1 = .ok (.iconst 1, 1) := by decide +kernel
theorem dX5_setCool_2 : decode cX5_setCool 2 = .ok (.bipush 50, 2) := by decide +kernel
theorem dX5_setCool_4 : decode cX5_setCool 4 = .ok (.invokestatic 20, 3) := by decide +kernel
theorem dX5_setCool_7 : decode cX5_setCool 7 = .ok (.aload_n 0, 1) := by decide +kernel
theorem dX5_setCool_8 : decode cX5_setCool 8 = .ok (.getfield 10, 3) := by decide +kernel
theorem dX5_setCool_11 : decode cX5_setCool 11 = .ok (.getfield 75, 3) := by decide +kernel
theorem dX5_setCool_14 : decode cX5_setCool 14 = .ok (.istore_n 2, 1) := by decide +kernel
theorem dX5_setCool_15 : decode cX5_setCool 15 = .ok (.aload_n 0, 1) := by decide +kernel
theorem dX5_setCool_16 : decode cX5_setCool 16 = .ok (.getfield 10, 3) := by decide +kernel
theorem dX5_setCool_19 : decode cX5_setCool 19 = .ok (.iload_n 1, 1) := by decide +kernel
theorem dX5_setCool_20 : decode cX5_setCool 20 = .ok (.putfield 75, 3) := by decide +kernel
theorem dX5_setCool_23 : decode cX5_setCool 23 = .ok (.iload_n 2, 1) := by decide +kernel
theorem dX5_setCool_24 : decode cX5_setCool 24 = .ok (.ireturn, 1) := by decide +kernel
set_option maxRecDepth 20000 in
theorem ggX5_setSticky_X5_requireRange : GoodIn wsX5_setSticky wsX5_requireRange := goodIn_ca (goodIn_r _ [7, 8, 9] (by decide +kernel) (by decide +kernel)) (goodIn_sub (fun _ h => List.mem_cons_of_mem _ (List.mem_append_right _ h)) (by decide +kernel))
set_option maxRecDepth 20000 in
theorem gX5_setSticky_X5_requireRange : GoodIn wsX5_setSticky (va_wsS RX5 20 yX5_requireRange wsX5_requireRange) := goodIn_app (goodIn_of _ (by decide +kernel)) ggX5_setSticky_X5_requireRange
set_option maxRecDepth 20000 in
theorem ggX5_setSticky_X1_forgetAll : GoodIn wsX5_setSticky wsX1_forgetAll := goodIn_r _ [14, 15, 32, 33, 34, 35] (by decide +kernel) (by decide +kernel)
set_option maxRecDepth 20000 in
theorem gX5_setSticky_X1_forgetAll : GoodIn wsX5_setSticky (wsV RX5 85 RX1 yX1_forgetAll wsX1_forgetAll) := goodIn_app (goodIn_of _ (by decide +kernel)) ggX5_setSticky_X1_forgetAll
theorem dX5_setSticky_0 : decode cX5_setSticky 0 = .ok (.iload_n 1, 1) := by decide +kernel
theorem dX5_setSticky_1 : decode cX5_setSticky 1 = .ok (.iconst 0, 1) := by decide +kernel
theorem dX5_setSticky_2 : decode cX5_setSticky 2 = .ok (.bipush 100, 2) := by decide +kernel
theorem dX5_setSticky_4 : decode cX5_setSticky 4 = .ok (.invokestatic 20, 3) := by decide +kernel
theorem dX5_setSticky_7 : decode cX5_setSticky 7 = .ok (.aload_n 0, 1) := by decide +kernel
theorem dX5_setSticky_8 : decode cX5_setSticky 8 = .ok (.getfield 10, 3) := by decide +kernel
theorem dX5_setSticky_11 : decode cX5_setSticky 11 = .ok (.getfield 78, 3) := by decide +kernel
theorem dX5_setSticky_14 : decode cX5_setSticky 14 = .ok (.istore_n 2, 1) := by decide +kernel
theorem dX5_setSticky_15 : decode cX5_setSticky 15 = .ok (.aload_n 0, 1) := by decide +kernel
theorem dX5_setSticky_16 : decode cX5_setSticky 16 = .ok (.getfield 10, 3) := by decide +kernel
theorem dX5_setSticky_19 : decode cX5_setSticky 19 = .ok (.iload_n 1, 1) := by decide +kernel
theorem dX5_setSticky_20 : decode cX5_setSticky 20 = .ok (.putfield 78, 3) := by decide +kernel
theorem dX5_setSticky_23 : decode cX5_setSticky 23 = .ok (.iload_n 1, 1) := by decide +kernel
theorem dX5_setSticky_24 : decode cX5_setSticky 24 = .ok (.ifCond .ne 13, 3) := by decide +kernel
theorem dX5_setSticky_27 : decode cX5_setSticky 27 = .ok (.aload_n 0, 1) := by decide +kernel
theorem dX5_setSticky_28 : decode cX5_setSticky 28 = .ok (.getfield 10, 3) := by decide +kernel
theorem dX5_setSticky_31 : decode cX5_setSticky 31 = .ok (.getfield 81, 3) := by decide +kernel
theorem dX5_setSticky_34 : decode cX5_setSticky 34 = .ok (.invokevirtual 85, 3) := by decide +kernel
theorem dX5_setSticky_37 : decode cX5_setSticky 37 = .ok (.iload_n 2, 1) := by decide +kernel
theorem dX5_setSticky_38 : decode cX5_setSticky 38 = .ok (.ireturn, 1) := by decide +kernel
set_option maxRecDepth 20000 in
theorem ggX5_setPolicy_X5_requireRange : GoodIn wsX5_setPolicy wsX5_requireRange := goodIn_ca (goodIn_r _ [6, 7, 8] (by decide +kernel) (by decide +kernel)) (goodIn_sub (fun _ h => List.mem_cons_of_mem _ (List.mem_append_right _ h)) (by decide +kernel))
set_option maxRecDepth 20000 in
theorem gX5_setPolicy_X5_requireRange : GoodIn wsX5_setPolicy (va_wsS RX5 20 yX5_requireRange wsX5_requireRange) := goodIn_app (goodIn_of _ (by decide +kernel)) ggX5_setPolicy_X5_requireRange
set_option maxRecDepth 20000 in
theorem ggX5_setPolicy_X4_forgetSelections : GoodIn wsX5_setPolicy wsX4_forgetSelections := goodIn_r _ [13, 14, 15, 16, 17, 20, 21, 22, 23, 24, 25, 26, 27, 28, 29, 30, 31, 32, 33, 34, 35, 36, 37, 38, 39, 40, 41, 42, 43] (by decide +kernel) (by decide +kernel)
set_option maxRecDepth 20000 in
theorem gX5_setPolicy_X4_forgetSelections : GoodIn wsX5_setPolicy (wsV RX5 93 RX4 yX4_forgetSelections wsX4_forgetSelections) := goodIn_app (goodIn_of _ (by decide +kernel)) ggX5_setPolicy_X4_forgetSelections
theorem dX5_setPolicy_0 : decode cX5_setPolicy 0 = .ok (.iload_n 1, 1) := by decide +kernel
theorem dX5_setPolicy_1 : decode cX5_setPolicy 1 = .ok (.iconst 0, 1) := by decide +kernel
theorem dX5_setPolicy_2 : decode cX5_setPolicy 2 = .ok (.iconst 4, 1) := by decide +kernel
theorem dX5_setPolicy_3 : decode cX5_setPolicy 3 = .ok (.invokestatic 20, 3) := by decide +kernel
theorem dX5_setPolicy_6 : decode cX5_setPolicy 6 = .ok (.aload_n 0, 1) := by decide +kernel
theorem dX5_setPolicy_7 : decode cX5_setPolicy 7 = .ok (.getfield 10, 3) := by decide +kernel
theorem dX5_setPolicy_10 : decode cX5_setPolicy 10 = .ok (.getfield 90, 3) := by decide +kernel
theorem dX5_setPolicy_13 : decode cX5_setPolicy 13 = .ok (.istore_n 2, 1) := by decide +kernel
theorem dX5_setPolicy_14 : decode cX5_setPolicy 14 = .ok (.aload_n 0, 1) := by decide +kernel
theorem dX5_setPolicy_15 : decode cX5_setPolicy 15 = .ok (.getfield 10, 3) := by decide +kernel
theorem dX5_setPolicy_18 : decode cX5_setPolicy 18 = .ok (.iload_n 1, 1) := by decide +kernel
theorem dX5_setPolicy_19 : decode cX5_setPolicy 19 = .ok (.putfield 90, 3) := by decide +kernel
theorem dX5_setPolicy_22 : decode cX5_setPolicy 22 = .ok (.aload_n 0, 1) := by decide +kernel
theorem dX5_setPolicy_23 : decode cX5_setPolicy 23 = .ok (.getfield 10, 3) := by decide +kernel
theorem dX5_setPolicy_26 : decode cX5_setPolicy 26 = .ok (.invokevirtual 93, 3) := by decide +kernel
theorem dX5_setPolicy_29 : decode cX5_setPolicy 29 = .ok (.iload_n 2, 1) := by decide +kernel
theorem dX5_setPolicy_30 : decode cX5_setPolicy 30 = .ok (.ireturn, 1) := by decide +kernel
theorem dX5_setSeed_0 : decode cX5_setSeed 0 = .ok (.aload_n 0, 1) := by decide +kernel
theorem dX5_setSeed_1 : decode cX5_setSeed 1 = .ok (.getfield 10, 3) := by decide +kernel
theorem dX5_setSeed_4 : decode cX5_setSeed 4 = .ok (.getfield 96, 3) := by decide +kernel
theorem dX5_setSeed_7 : decode cX5_setSeed 7 = .ok (.istore_n 2, 1) := by decide +kernel
theorem dX5_setSeed_8 : decode cX5_setSeed 8 = .ok (.aload_n 0, 1) := by decide +kernel
theorem dX5_setSeed_9 : decode cX5_setSeed 9 = .ok (.getfield 10, 3) := by decide +kernel
theorem dX5_setSeed_12 : decode cX5_setSeed 12 = .ok (.iload_n 1, 1) := by decide +kernel
end
section
theorem dX5_setSeed_13 : decode cX5_setSeed 13 = .ok (.putfield 96, 3) := by decide +kernel
theorem dX5_setSeed_16 : decode cX5_setSeed 16 = .ok (.iload_n 2, 1) := by decide +kernel
theorem dX5_setSeed_17 : decode cX5_setSeed 17 = .ok (.ireturn, 1) := by decide +kernel
set_option maxRecDepth 20000 in
theorem ggX5_tick_X5_requireRange : GoodIn wsX5_tick wsX5_requireRange := goodIn_ca (goodIn_r _ [6, 7, 8] (by decide +kernel) (by decide +kernel)) (goodIn_sub (fun _ h => List.mem_cons_of_mem _ (List.mem_append_right _ h)) (by decide +kernel))
set_option maxRecDepth 20000 in
theorem gX5_tick_X5_requireRange : GoodIn wsX5_tick (va_wsS RX5 20 yX5_requireRange wsX5_requireRange) := goodIn_app (goodIn_of _ (by decide +kernel)) ggX5_tick_X5_requireRange
set_option maxRecDepth 20000 in
theorem ggX5_tick_X4_coolBreakers : GoodIn wsX5_tick wsX4_coolBreakers := goodIn_r _ [13, 14, 15, 16, 17, 18, 19, 20, 21, 22, 23, 24, 25, 26, 29, 30, 31, 32, 33, 34, 35, 36, 37, 38, 39, 40, 41, 42, 43, 44, 45, 46, 47, 48, 49, 50, 51, 52, 53, 54, 55, 56, 57] (by decide +kernel) (by decide +kernel)
set_option maxRecDepth 20000 in
theorem gX5_tick_X4_coolBreakers : GoodIn wsX5_tick (wsV RX5 99 RX4 yX4_coolBreakers wsX4_coolBreakers) := goodIn_app (goodIn_of _ (by decide +kernel)) ggX5_tick_X4_coolBreakers
theorem dX5_tick_0 : decode cX5_tick 0 = .ok (.iload_n 1, 1) := by decide +kernel
theorem dX5_tick_1 : decode cX5_tick 1 = .ok (.iconst 1, 1) := by decide +kernel
theorem dX5_tick_2 : decode cX5_tick 2 = .ok (.sipush 200, 3) := by decide +kernel
theorem dX5_tick_5 : decode cX5_tick 5 = .ok (.invokestatic 20, 3) := by decide +kernel
theorem dX5_tick_8 : decode cX5_tick 8 = .ok (.aload_n 0, 1) := by decide +kernel
theorem dX5_tick_9 : decode cX5_tick 9 = .ok (.getfield 10, 3) := by decide +kernel
theorem dX5_tick_12 : decode cX5_tick 12 = .ok (.dup, 1) := by decide +kernel
theorem dX5_tick_13 : decode cX5_tick 13 = .ok (.getfield 65, 3) := by decide +kernel
theorem dX5_tick_16 : decode cX5_tick 16 = .ok (.iload_n 1, 1) := by decide +kernel
theorem dX5_tick_17 : decode cX5_tick 17 = .ok (.iadd, 1) := by decide +kernel
theorem dX5_tick_18 : decode cX5_tick 18 = .ok (.putfield 65, 3) := by decide +kernel
theorem dX5_tick_21 : decode cX5_tick 21 = .ok (.aload_n 0, 1) := by decide +kernel
theorem dX5_tick_22 : decode cX5_tick 22 = .ok (.getfield 10, 3) := by decide +kernel
theorem dX5_tick_25 : decode cX5_tick 25 = .ok (.invokevirtual 99, 3) := by decide +kernel
theorem dX5_tick_28 : decode cX5_tick 28 = .ok (.aload_n 0, 1) := by decide +kernel
theorem dX5_tick_29 : decode cX5_tick 29 = .ok (.getfield 10, 3) := by decide +kernel
theorem dX5_tick_32 : decode cX5_tick 32 = .ok (.getfield 65, 3) := by decide +kernel
theorem dX5_tick_35 : decode cX5_tick 35 = .ok (.ireturn, 1) := by decide +kernel
set_option maxRecDepth 20000 in
theorem ggX5_preview_X4_serverFor : GoodIn wsX5_preview wsX4_serverFor := goodIn_ca (goodIn_r _ [6, 7, 8, 9, 10, 11, 12, 13, 14, 15, 16, 5, 17, 18, 19, 20, 21, 22, 23, 24, 25, 26, 27, 28, 29, 30, 31, 32, 33, 34, 35, 36, 37, 38, 39, 40, 41, 42, 43, 44, 45, 46, 47, 48, 49, 50, 51, 52, 53, 54, 55, 56, 57, 58, 59, 60, 61, 62, 63, 64, 65, 66, 67, 68, 69, 70, 71, 72, 73, 74, 75, 76, 77, 78, 79, 80, 81, 82, 83, 84, 85, 86, 87, 88, 89, 90, 91, 92, 93, 94, 95, 96, 97, 98, 99, 100, 101, 102, 103, 104, 105, 106, 107, 108, 109, 110, 111, 112, 113, 114, 115, 116, 117, 118, 119, 120, 121, 122, 123, 124, 125, 126, 129, 130, 131, 132, 133, 134, 135, 136, 137, 138, 139, 140, 141, 142, 143, 144, 145, 146, 147, 148, 149, 150, 151, 152, 153, 154, 155, 156, 157, 158, 159, 160, 161, 162, 163, 164, 165] (by decide +kernel) (by decide +kernel)) (goodIn_sub (fun _ h => List.mem_cons_of_mem _ (List.mem_append_right _ h)) (by decide +kernel))
set_option maxRecDepth 20000 in
theorem gX5_preview_X4_serverFor : GoodIn wsX5_preview (wsV RX5 102 RX4 yX4_serverFor wsX4_serverFor) := goodIn_app (goodIn_of _ (by decide +kernel)) ggX5_preview_X4_serverFor
theorem dX5_preview_0 : decode cX5_preview 0 = .ok (.aload_n 0, 1) := by decide +kernel
theorem dX5_preview_1 : decode cX5_preview 1 = .ok (.getfield 10, 3) := by decide +kernel
theorem dX5_preview_4 : decode cX5_preview 4 = .ok (.iload_n 1, 1) := by decide +kernel
theorem dX5_preview_5 : decode cX5_preview 5 = .ok (.invokevirtual 102, 3) := by decide +kernel
theorem dX5_preview_8 : decode cX5_preview 8 = .ok (.ireturn, 1) := by decide +kernel
set_option maxRecDepth 20000 in
theorem ggX5_open_X4_serverFor : GoodIn wsX5_open wsX4_serverFor := goodIn_ca (goodIn_r _ [9, 10, 11, 12, 13, 14, 15, 16, 17, 18, 19, 8, 20, 21, 22, 23, 24, 25, 26, 27, 28, 29, 30, 31, 32, 33, 34, 35, 36, 37, 38, 39, 40, 41, 42, 43, 44, 45, 46, 47, 48, 49, 50, 51, 52, 53, 54, 55, 56, 57, 58, 59, 60, 61, 62, 63, 64, 65, 66, 67, 68, 69, 70, 71, 72, 73, 74, 75, 76, 77, 78, 79, 80, 81, 82, 83, 84, 85, 86, 87, 88, 89, 90, 91, 92, 93, 94, 95, 96, 97, 98, 99, 100, 101, 102, 103, 104, 105, 106, 107, 108, 109, 110, 111, 112, 113, 114, 115, 116, 117, 118, 119, 120, 121, 122, 123, 124, 125, 126, 127, 128, 129, 176, 177, 178, 179, 180, 181, 182, 183, 184, 185, 186, 187, 188, 189, 190, 191, 192, 193, 194, 195, 196, 197, 198, 199, 200, 201, 202, 203, 204, 205, 206, 207, 208, 209, 210, 211, 212] (by decide +kernel) (by decide +kernel)) (goodIn_sub (fun _ h => List.mem_cons_of_mem _ (List.mem_append_right _ h)) (by decide +kernel))
set_option maxRecDepth 20000 in
theorem gX5_open_X4_serverFor : GoodIn wsX5_open (wsV RX5 102 RX4 yX4_serverFor wsX4_serverFor) := goodIn_app (goodIn_of _ (by decide +kernel)) ggX5_open_X4_serverFor
set_option maxRecDepth 20000 in
theorem ggX5_open_X4_stickyServer : GoodIn wsX5_open wsX4_stickyServer := goodIn_ca (goodIn_r _ [20, 21, 22, 23, 24, 25, 26, 27, 28, 29, 30, 31, 32, 33, 34, 35, 8, 36, 37, 38, 39, 40, 41, 42, 43, 44, 45, 46, 47, 48, 49, 50, 51, 52, 53, 54, 55, 56, 57, 176, 177, 178, 179, 180, 181, 182, 183, 184, 185, 186, 187, 188, 189, 194, 195, 196, 197, 198, 199, 200, 201, 202, 203, 204, 205, 206, 207, 208, 209, 210, 211, 212] (by decide +kernel) (by decide +kernel)) (goodIn_sub (fun _ h => List.mem_cons_of_mem _ (List.mem_append_right _ h)) (by decide +kernel))
set_option maxRecDepth 20000 in
theorem gX5_open_X4_stickyServer : GoodIn wsX5_open (wsV RX5 111 RX4 yX4_stickyServer wsX4_stickyServer) := goodIn_app (goodIn_of _ (by decide +kernel)) ggX5_open_X4_stickyServer
set_option maxRecDepth 20000 in
theorem ggX5_open_X4_noteSelection : GoodIn wsX5_open wsX4_noteSelection := goodIn_ca (goodIn_r _ [134, 62, 67, 118, 135, 136, 137, 8, 138, 39, 40, 76, 41, 42, 43, 44, 45, 46, 47, 48, 49, 50, 51, 52, 53, 54, 55, 56, 57, 77, 78, 79, 80, 22, 81, 82, 83, 84, 85, 86, 87, 88, 33, 34, 35, 36, 37, 38, 123, 103, 124, 125, 176, 177, 178, 179, 180, 181, 182, 183, 184, 185, 186, 187, 188, 189, 198, 199, 200, 201, 202, 203, 204, 205, 206, 207, 208, 209, 210, 211, 212] (by decide +kernel) (by decide +kernel)) (goodIn_sub (fun _ h => List.mem_cons_of_mem _ (List.mem_append_right _ h)) (by decide +kernel))
set_option maxRecDepth 20000 in
theorem gX5_open_X4_noteSelection : GoodIn wsX5_open (wsV RX5 114 RX4 yX4_noteSelection wsX4_noteSelection) := goodIn_app (goodIn_of _ (by decide +kernel)) ggX5_open_X4_noteSelection
set_option maxRecDepth 20000 in
theorem ggX5_open_X4_connect : GoodIn wsX5_open wsX4_connect := goodIn_ca (goodIn_r _ [142, 10, 22, 97, 143, 24, 21, 144, 145, 146, 14, 147, 16, 148, 149, 150, 33, 34, 35, 8, 36, 37, 38, 39, 40, 151, 152, 153, 54, 154, 56, 57, 155, 156, 157, 29, 158, 32, 159, 160, 161, 27, 28, 30, 31, 162, 163, 164, 165, 166, 167, 168, 169, 170, 171, 172, 173, 176, 177, 178, 179, 180, 181, 182, 183, 184, 185, 186, 187, 188, 189, 198, 199, 200, 201, 202, 203, 204, 205, 206, 207, 190, 191, 192, 193, 208, 209, 210, 211, 212, 194, 195, 196, 197] (by decide +kernel) (by decide +kernel)) (goodIn_sub (fun _ h => List.mem_cons_of_mem _ (List.mem_append_right _ h)) (by decide +kernel))
set_option maxRecDepth 20000 in
theorem gX5_open_X4_connect : GoodIn wsX5_open (wsV RX5 118 RX4 yX4_connect wsX4_connect) := goodIn_app (goodIn_of _ (by decide +kernel)) ggX5_open_X4_connect
theorem dX5_open_0 : decode cX5_open 0 = .ok (.aload_n 0, 1) := by decide +kernel
theorem dX5_open_1 : decode cX5_open 1 = .ok (.getfield 10, 3) := by decide +kernel
theorem dX5_open_4 : decode cX5_open 4 = .ok (.iload_n 1, 1) := by decide +kernel
theorem dX5_open_5 : decode cX5_open 5 = .ok (.invokevirtual 102, 3) := by decide +kernel
theorem dX5_open_8 : decode cX5_open 8 = .ok (.istore_n 2, 1) := by decide +kernel
theorem dX5_open_9 : decode cX5_open 9 = .ok (.iload_n 2, 1) := by decide +kernel
theorem dX5_open_10 : decode cX5_open 10 = .ok (.iconst (-1), 1) := by decide +kernel
theorem dX5_open_11 : decode cX5_open 11 = .ok (.if_icmp .ne 26, 3) := by decide +kernel
theorem dX5_open_14 : decode cX5_open 14 = .ok (.aload_n 0, 1) := by decide +kernel
theorem dX5_open_15 : decode cX5_open 15 = .ok (.getfield 10, 3) := by decide +kernel
theorem dX5_open_18 : decode cX5_open 18 = .ok (.dup, 1) := by decide +kernel
theorem dX5_open_19 : decode cX5_open 19 = .ok (.getfield 106, 3) := by decide +kernel
theorem dX5_open_22 : decode cX5_open 22 = .ok (.iconst 1, 1) := by decide +kernel
theorem dX5_open_23 : decode cX5_open 23 = .ok (.iadd, 1) := by decide +kernel
theorem dX5_open_24 : decode cX5_open 24 = .ok (.putfield 106, 3) := by decide +kernel
theorem dX5_open_27 : decode cX5_open 27 = .ok (.new 28, 3) := by decide +kernel
theorem dX5_open_30 : decode cX5_open 30 = .ok (.dup, 1) := by decide +kernel
theorem dX5_open_31 : decode cX5_open 31 = .ok (.ldc 109, 2) := by decide +kernel
theorem dX5_open_33 : decode cX5_open 33 = .ok (.invokespecial 32, 3) := by decide +kernel
theorem dX5_open_36 : decode cX5_open 36 = .ok (.athrow, 1) := by decide +kernel
theorem dX5_open_37 : decode cX5_open 37 = .ok (.aload_n 0, 1) := by decide +kernel
theorem dX5_open_38 : decode cX5_open 38 = .ok (.getfield 10, 3) := by decide +kernel
theorem dX5_open_41 : decode cX5_open 41 = .ok (.iload_n 1, 1) := by decide +kernel
theorem dX5_open_42 : decode cX5_open 42 = .ok (.invokevirtual 111, 3) := by decide +kernel
theorem dX5_open_45 : decode cX5_open 45 = .ok (.iconst (-1), 1) := by decide +kernel
theorem dX5_open_46 : decode cX5_open 46 = .ok (.if_icmp .ne 11, 3) := by decide +kernel
theorem dX5_open_49 : decode cX5_open 49 = .ok (.aload_n 0, 1) := by decide +kernel
theorem dX5_open_50 : decode cX5_open 50 = .ok (.getfield 10, 3) := by decide +kernel
theorem dX5_open_53 : decode cX5_open 53 = .ok (.iload_n 2, 1) := by decide +kernel
theorem dX5_open_54 : decode cX5_open 54 = .ok (.invokevirtual 114, 3) := by decide +kernel
theorem dX5_open_57 : decode cX5_open 57 = .ok (.aload_n 0, 1) := by decide +kernel
theorem dX5_open_58 : decode cX5_open 58 = .ok (.getfield 10, 3) := by decide +kernel
theorem dX5_open_61 : decode cX5_open 61 = .ok (.iload_n 1, 1) := by decide +kernel
theorem dX5_open_62 : decode cX5_open 62 = .ok (.iload_n 2, 1) := by decide +kernel
theorem dX5_open_63 : decode cX5_open 63 = .ok (.invokevirtual 118, 3) := by decide +kernel
theorem dX5_open_66 : decode cX5_open 66 = .ok (.ireturn, 1) := by decide +kernel
set_option maxRecDepth 20000 in
theorem ggX5_close_X5_requireConnection : GoodIn wsX5_close wsX5_requireConnection := goodIn_ca (goodIn_r _ [10, 11, 12, 3, 4, 13, 66, 67, 68, 69, 70, 71, 72, 73, 74, 75, 76, 77, 78, 79, 80, 81, 82, 83, 84, 85] (by decide +kernel) (by decide +kernel)) (goodIn_sub (fun _ h => List.mem_cons_of_mem _ (List.mem_append_left _ (List.mem_append_right _ h))) (by decide +kernel))
set_option maxRecDepth 20000 in
theorem gX5_close_X5_requireConnection : GoodIn wsX5_close (wsV RX5 121 RX5 yX5_requireConnection wsX5_requireConnection) := goodIn_app (goodIn_of _ (by decide +kernel)) ggX5_close_X5_requireConnection
set_option maxRecDepth 20000 in
theorem ggX5_close_X4_disconnect : GoodIn wsX5_close wsX4_disconnect := goodIn_ca (goodIn_r _ [18, 19, 20, 21, 22, 23, 24, 25, 26, 27, 28, 17, 29, 30, 12, 31, 32, 33, 34, 35, 36, 37, 38, 39, 40, 41, 42, 43, 44, 45, 46, 47, 48, 49, 50, 51, 52, 53, 54, 55, 56, 57, 58, 59, 60, 61, 62, 63, 64, 65, 68, 69, 70, 71, 72, 73, 74, 75, 76, 77, 78, 79, 80, 81, 82, 83, 84, 85, 86, 87, 88, 89, 90, 91, 92, 93, 94, 95, 96, 97, 98, 99, 100] (by decide +kernel) (by decide +kernel)) (goodIn_sub (fun _ h => List.mem_cons_of_mem _ (List.mem_append_right _ h)) (by decide +kernel))
set_option maxRecDepth 20000 in
theorem gX5_close_X4_disconnect : GoodIn wsX5_close (wsV RX5 136 RX4 yX4_disconnect wsX4_disconnect) := goodIn_app (goodIn_of _ (by decide +kernel)) ggX5_close_X4_disconnect
theorem dX5_close_0 : decode cX5_close 0 = .ok (.aload_n 0, 1) := by decide +kernel
theorem dX5_close_1 : decode cX5_close 1 = .ok (.iload_n 1, 1) := by decide +kernel
theorem dX5_close_2 : decode cX5_close 2 = .ok (.invokevirtual 121, 3) := by decide +kernel
theorem dX5_close_5 : decode cX5_close 5 = .ok (.aload_n 0, 1) := by decide +kernel
theorem dX5_close_6 : decode cX5_close 6 = .ok (.getfield 10, 3) := by decide +kernel
theorem dX5_close_9 : decode cX5_close 9 = .ok (.getfield 124, 3) := by decide +kernel
theorem dX5_close_12 : decode cX5_close 12 = .ok (.getfield 128, 3) := by decide +kernel
theorem dX5_close_15 : decode cX5_close 15 = .ok (.iload_n 1, 1) := by decide +kernel
theorem dX5_close_16 : decode cX5_close 16 = .ok (.baload, 1) := by decide +kernel
theorem dX5_close_17 : decode cX5_close 17 = .ok (.ifCond .ne 13, 3) := by decide +kernel
theorem dX5_close_20 : decode cX5_close 20 = .ok (.new 28, 3) := by decide +kernel
theorem dX5_close_23 : decode cX5_close 23 = .ok (.dup, 1) := by decide +kernel
theorem dX5_close_24 : decode cX5_close 24 = .ok (.ldc 134, 2) := by decide +kernel
theorem dX5_close_26 : decode cX5_close 26 = .ok (.invokespecial 32, 3) := by decide +kernel
theorem dX5_close_29 : decode cX5_close 29 = .ok (.athrow, 1) := by decide +kernel
theorem dX5_close_30 : decode cX5_close 30 = .ok (.aload_n 0, 1) := by decide +kernel
theorem dX5_close_31 : decode cX5_close 31 = .ok (.getfield 10, 3) := by decide +kernel
theorem dX5_close_34 : decode cX5_close 34 = .ok (.iload_n 1, 1) := by decide +kernel
theorem dX5_close_35 : decode cX5_close 35 = .ok (.iload_n 2, 1) := by decide +kernel
theorem dX5_close_36 : decode cX5_close 36 = .ok (.invokevirtual 136, 3) := by decide +kernel
theorem dX5_close_39 : decode cX5_close 39 = .ok (.ireturn, 1) := by decide +kernel
set_option maxRecDepth 20000 in
theorem ggX5_serverOf_X5_requireConnection : GoodIn wsX5_serverOf wsX5_requireConnection := goodIn_ca (goodIn_r _ [8, 9, 10, 1, 2, 11, 12, 13, 14, 15, 16, 17, 18, 19, 20, 21, 22, 23, 24, 25, 26, 27, 28, 29, 30, 31] (by decide +kernel) (by decide +kernel)) (goodIn_sub (fun _ h => List.mem_cons_of_mem _ (List.mem_append_right _ h)) (by decide +kernel))
set_option maxRecDepth 20000 in
theorem gX5_serverOf_X5_requireConnection : GoodIn wsX5_serverOf (wsV RX5 121 RX5 yX5_requireConnection wsX5_requireConnection) := goodIn_app (goodIn_of _ (by decide +kernel)) ggX5_serverOf_X5_requireConnection
theorem dX5_serverOf_0 : decode cX5_serverOf 0 = .ok (.aload_n 0, 1) := by decide +kernel
theorem dX5_serverOf_1 : decode cX5_serverOf 1 = .ok (.iload_n 1, 1) := by decide +kernel
theorem dX5_serverOf_2 : decode cX5_serverOf 2 = .ok (.invokevirtual 121, 3) := by decide +kernel
theorem dX5_serverOf_5 : decode cX5_serverOf 5 = .ok (.aload_n 0, 1) := by decide +kernel
theorem dX5_serverOf_6 : decode cX5_serverOf 6 = .ok (.getfield 10, 3) := by decide +kernel
theorem dX5_serverOf_9 : decode cX5_serverOf 9 = .ok (.getfield 124, 3) := by decide +kernel
theorem dX5_serverOf_12 : decode cX5_serverOf 12 = .ok (.getfield 140, 3) := by decide +kernel
theorem dX5_serverOf_15 : decode cX5_serverOf 15 = .ok (.iload_n 1, 1) := by decide +kernel
theorem dX5_serverOf_16 : decode cX5_serverOf 16 = .ok (.iaload, 1) := by decide +kernel
theorem dX5_serverOf_17 : decode cX5_serverOf 17 = .ok (.ireturn, 1) := by decide +kernel
set_option maxRecDepth 20000 in
theorem ggX5_isAvailable_X4_serverAt : GoodIn wsX5_isAvailable wsX4_serverAt := goodIn_ca (goodIn_r _ [6, 7, 8, 9, 10, 30, 31, 32, 33, 34, 35, 36, 37, 38, 39, 40, 41, 42, 43] (by decide +kernel) (by decide +kernel)) (goodIn_sub (fun _ h => List.mem_cons_of_mem _ (List.mem_append_right _ h)) (by decide +kernel))
set_option maxRecDepth 20000 in
theorem gX5_isAvailable_X4_serverAt : GoodIn wsX5_isAvailable (wsV RX5 39 RX4 yX4_serverAt wsX4_serverAt) := goodIn_app (goodIn_of _ (by decide +kernel)) ggX5_isAvailable_X4_serverAt
set_option maxRecDepth 20000 in
theorem ggX5_isAvailable_X3_accepts : GoodIn wsX5_isAvailable wsX3_accepts := goodIn_r _ [15, 16, 17, 18, 19, 20, 21, 22, 23, 24, 25, 26, 27, 44, 45, 46, 47, 48, 49, 50, 51, 52, 53, 54, 55, 56, 57, 58] (by decide +kernel) (by decide +kernel)
set_option maxRecDepth 20000 in
theorem gX5_isAvailable_X3_accepts : GoodIn wsX5_isAvailable (wsV RX5 144 RX3 yX3_accepts wsX3_accepts) := goodIn_app (goodIn_of _ (by decide +kernel)) ggX5_isAvailable_X3_accepts
theorem dX5_isAvailable_0 : decode cX5_isAvailable 0 = .ok (.aload_n 0, 1) := by decide +kernel
theorem dX5_isAvailable_1 : decode cX5_isAvailable 1 = .ok (.getfield 10, 3) := by decide +kernel
theorem dX5_isAvailable_4 : decode cX5_isAvailable 4 = .ok (.iload_n 1, 1) := by decide +kernel
theorem dX5_isAvailable_5 : decode cX5_isAvailable 5 = .ok (.invokevirtual 39, 3) := by decide +kernel
theorem dX5_isAvailable_8 : decode cX5_isAvailable 8 = .ok (.invokevirtual 144, 3) := by decide +kernel
theorem dX5_isAvailable_11 : decode cX5_isAvailable 11 = .ok (.ireturn, 1) := by decide +kernel
set_option maxRecDepth 20000 in
theorem ggX5_effectiveWeight_X4_serverAt : GoodIn wsX5_effectiveWeight wsX4_serverAt := goodIn_ca (goodIn_r _ [6, 7, 8, 9, 10, 26, 27, 28, 29, 30, 31, 32, 33, 34, 35, 36, 37, 38, 39] (by decide +kernel) (by decide +kernel)) (goodIn_sub (fun _ h => List.mem_cons_of_mem _ (List.mem_append_right _ h)) (by decide +kernel))
set_option maxRecDepth 20000 in
theorem gX5_effectiveWeight_X4_serverAt : GoodIn wsX5_effectiveWeight (wsV RX5 39 RX4 yX4_serverAt wsX4_serverAt) := goodIn_app (goodIn_of _ (by decide +kernel)) ggX5_effectiveWeight_X4_serverAt
set_option maxRecDepth 20000 in
theorem ggX5_effectiveWeight_X4_weightNow : GoodIn wsX5_effectiveWeight wsX4_weightNow := goodIn_r _ [14, 15, 16, 17, 18, 19, 20, 21, 22, 23, 26, 27, 28, 29, 30, 31, 32, 33, 34, 35, 36, 37, 38, 39, 40, 41, 42, 43, 44, 45, 46, 47, 48, 49] (by decide +kernel) (by decide +kernel)
set_option maxRecDepth 20000 in
theorem gX5_effectiveWeight_X4_weightNow : GoodIn wsX5_effectiveWeight (wsV RX5 148 RX4 yX4_weightNow wsX4_weightNow) := goodIn_app (goodIn_of _ (by decide +kernel)) ggX5_effectiveWeight_X4_weightNow
theorem dX5_effectiveWeight_0 : decode cX5_effectiveWeight 0 = .ok (.aload_n 0, 1) := by decide +kernel
theorem dX5_effectiveWeight_1 : decode cX5_effectiveWeight 1 = .ok (.getfield 10, 3) := by decide +kernel
theorem dX5_effectiveWeight_4 : decode cX5_effectiveWeight 4 = .ok (.aload_n 0, 1) := by decide +kernel
theorem dX5_effectiveWeight_5 : decode cX5_effectiveWeight 5 = .ok (.getfield 10, 3) := by decide +kernel
theorem dX5_effectiveWeight_8 : decode cX5_effectiveWeight 8 = .ok (.iload_n 1, 1) := by decide +kernel
theorem dX5_effectiveWeight_9 : decode cX5_effectiveWeight 9 = .ok (.invokevirtual 39, 3) := by decide +kernel
theorem dX5_effectiveWeight_12 : decode cX5_effectiveWeight 12 = .ok (.invokevirtual 148, 3) := by decide +kernel
theorem dX5_effectiveWeight_15 : decode cX5_effectiveWeight 15 = .ok (.ireturn, 1) := by decide +kernel
set_option maxRecDepth 20000 in
theorem ggX5_active_X4_serverAt : GoodIn wsX5_active wsX4_serverAt := goodIn_ca (goodIn_r _ [7, 8, 9, 10, 11, 24, 25, 26, 27, 28, 29, 30, 31, 32, 33, 34, 35, 36, 37] (by decide +kernel) (by decide +kernel)) (goodIn_sub (fun _ h => List.mem_cons_of_mem _ (List.mem_append_right _ h)) (by decide +kernel))
set_option maxRecDepth 20000 in
theorem gX5_active_X4_serverAt : GoodIn wsX5_active (wsV RX5 39 RX4 yX4_serverAt wsX4_serverAt) := goodIn_app (goodIn_of _ (by decide +kernel)) ggX5_active_X4_serverAt
theorem dX5_active_0 : decode cX5_active 0 = .ok (.aload_n 0, 1) := by decide +kernel
theorem dX5_active_1 : decode cX5_active 1 = .ok (.getfield 10, 3) := by decide +kernel
theorem dX5_active_4 : decode cX5_active 4 = .ok (.iload_n 1, 1) := by decide +kernel
theorem dX5_active_5 : decode cX5_active 5 = .ok (.invokevirtual 39, 3) := by decide +kernel
theorem dX5_active_8 : decode cX5_active 8 = .ok (.getfield 152, 3) := by decide +kernel
theorem dX5_active_11 : decode cX5_active 11 = .ok (.ireturn, 1) := by decide +kernel
set_option maxRecDepth 20000 in
theorem ggX5_utilization_X4_serverAt : GoodIn wsX5_utilization wsX4_serverAt := goodIn_ca (goodIn_r _ [8, 9, 10, 11, 12, 25, 26, 27, 28, 29, 30, 31, 32, 33, 34, 35, 36, 37, 38] (by decide +kernel) (by decide +kernel)) (goodIn_sub (fun _ h => List.mem_cons_of_mem _ (List.mem_append_right _ h)) (by decide +kernel))
set_option maxRecDepth 20000 in
theorem gX5_utilization_X4_serverAt : GoodIn wsX5_utilization (wsV RX5 39 RX4 yX4_serverAt wsX4_serverAt) := goodIn_app (goodIn_of _ (by decide +kernel)) ggX5_utilization_X4_serverAt
theorem dX5_utilization_0 : decode cX5_utilization 0 = .ok (.aload_n 0, 1) := by decide +kernel
theorem dX5_utilization_1 : decode cX5_utilization 1 = .ok (.getfield 10, 3) := by decide +kernel
theorem dX5_utilization_4 : decode cX5_utilization 4 = .ok (.iload_n 1, 1) := by decide +kernel
theorem dX5_utilization_5 : decode cX5_utilization 5 = .ok (.invokevirtual 39, 3) := by decide +kernel
theorem dX5_utilization_8 : decode cX5_utilization 8 = .ok (.astore_n 2, 1) := by decide +kernel
theorem dX5_utilization_9 : decode cX5_utilization 9 = .ok (.aload_n 2, 1) := by decide +kernel
theorem dX5_utilization_10 : decode cX5_utilization 10 = .ok (.getfield 152, 3) := by decide +kernel
theorem dX5_utilization_13 : decode cX5_utilization 13 = .ok (.i2d, 1) := by decide +kernel
theorem dX5_utilization_14 : decode cX5_utilization 14 = .ok (.aload_n 2, 1) := by decide +kernel
theorem dX5_utilization_15 : decode cX5_utilization 15 = .ok (.getfield 155, 3) := by decide +kernel
theorem dX5_utilization_18 : decode cX5_utilization 18 = .ok (.i2d, 1) := by decide +kernel
theorem dX5_utilization_19 : decode cX5_utilization 19 = .ok (.ddiv, 1) := by decide +kernel
theorem dX5_utilization_20 : decode cX5_utilization 20 = .ok (.dreturn, 1) := by decide +kernel
set_option maxRecDepth 20000 in
theorem ggX5_breaker_X4_serverAt : GoodIn wsX5_breaker wsX4_serverAt := goodIn_ca (goodIn_r _ [8, 9, 10, 11, 12, 30, 31, 32, 33, 34, 35, 36, 37, 38, 39, 40, 41, 42, 43] (by decide +kernel) (by decide +kernel)) (goodIn_sub (fun _ h => List.mem_cons_of_mem _ (List.mem_append_right _ h)) (by decide +kernel))
set_option maxRecDepth 20000 in
theorem gX5_breaker_X4_serverAt : GoodIn wsX5_breaker (wsV RX5 39 RX4 yX4_serverAt wsX4_serverAt) := goodIn_app (goodIn_of _ (by decide +kernel)) ggX5_breaker_X4_serverAt
theorem dX5_breaker_0 : decode cX5_breaker 0 = .ok (.aload_n 0, 1) := by decide +kernel
theorem dX5_breaker_1 : decode cX5_breaker 1 = .ok (.getfield 10, 3) := by decide +kernel
theorem dX5_breaker_4 : decode cX5_breaker 4 = .ok (.iload_n 1, 1) := by decide +kernel
theorem dX5_breaker_5 : decode cX5_breaker 5 = .ok (.invokevirtual 39, 3) := by decide +kernel
theorem dX5_breaker_8 : decode cX5_breaker 8 = .ok (.getfield 158, 3) := by decide +kernel
theorem dX5_breaker_11 : decode cX5_breaker 11 = .ok (.getfield 162, 3) := by decide +kernel
theorem dX5_breaker_14 : decode cX5_breaker 14 = .ok (.ireturn, 1) := by decide +kernel
set_option maxRecDepth 20000 in
theorem ggX5_owner_X4_firstOnRing : GoodIn wsX5_owner wsX4_firstOnRing := goodIn_r _ [9, 10, 11, 12, 13, 14, 15, 16, 17, 18, 19, 20, 21, 22, 23, 24, 25, 26, 27, 28, 29, 30, 31, 32, 33, 34, 35, 36, 37, 38, 39, 40, 43, 44, 45, 46, 47, 48, 49, 50, 51, 52, 53, 54, 55, 56, 57, 58, 59, 60, 61, 62, 63, 64, 65, 66, 67, 68, 69, 70, 71] (by decide +kernel) (by decide +kernel)
set_option maxRecDepth 20000 in
theorem gX5_owner_X4_firstOnRing : GoodIn wsX5_owner (wsV RX5 169 RX4 yX4_firstOnRing wsX4_firstOnRing) := goodIn_app (goodIn_of _ (by decide +kernel)) ggX5_owner_X4_firstOnRing
theorem dX5_owner_0 : decode cX5_owner 0 = .ok (.aload_n 0, 1) := by decide +kernel
theorem dX5_owner_1 : decode cX5_owner 1 = .ok (.getfield 10, 3) := by decide +kernel
theorem dX5_owner_4 : decode cX5_owner 4 = .ok (.getfield 24, 3) := by decide +kernel
theorem dX5_owner_7 : decode cX5_owner 7 = .ok (.ifCond .ne 13, 3) := by decide +kernel
theorem dX5_owner_10 : decode cX5_owner 10 = .ok (.new 28, 3) := by decide +kernel
theorem dX5_owner_13 : decode cX5_owner 13 = .ok (.dup, 1) := by decide +kernel
theorem dX5_owner_14 : decode cX5_owner 14 = .ok (.ldc 167, 2) := by decide +kernel
theorem dX5_owner_16 : decode cX5_owner 16 = .ok (.invokespecial 32, 3) := by decide +kernel
theorem dX5_owner_19 : decode cX5_owner 19 = .ok (.athrow, 1) := by decide +kernel
theorem dX5_owner_20 : decode cX5_owner 20 = .ok (.aload_n 0, 1) := by decide +kernel
theorem dX5_owner_21 : decode cX5_owner 21 = .ok (.getfield 10, 3) := by decide +kernel
theorem dX5_owner_24 : decode cX5_owner 24 = .ok (.iload_n 1, 1) := by decide +kernel
theorem dX5_owner_25 : decode cX5_owner 25 = .ok (.iconst 0, 1) := by decide +kernel
theorem dX5_owner_26 : decode cX5_owner 26 = .ok (.invokevirtual 169, 3) := by decide +kernel
theorem dX5_owner_29 : decode cX5_owner 29 = .ok (.ireturn, 1) := by decide +kernel
set_option maxRecDepth 20000 in
theorem ggX5_count_X4_totalLoad : GoodIn wsX5_count wsX4_totalLoad := goodIn_r _ [14, 15, 16, 17, 20, 21, 22, 23, 24, 25, 26, 27, 28, 29, 30, 31, 32, 33, 42, 43, 44, 45, 46, 47, 48, 49, 50, 51] (by decide +kernel) (by decide +kernel)
set_option maxRecDepth 20000 in
theorem gX5_count_X4_totalLoad : GoodIn wsX5_count (wsV RX5 172 RX4 yX4_totalLoad wsX4_totalLoad) := goodIn_app (goodIn_of _ (by decide +kernel)) ggX5_count_X4_totalLoad
theorem dX5_count_0 : decode cX5_count 0 = .ok (.iload_n 1, 1) := by decide +kernel
theorem dX5_count_1 : decode cX5_count 1 = .ok (.tableswitch 81 0 4 #[35, 43, 51, 62, 70], 35) := by decide +kernel
theorem dX5_count_36 : decode cX5_count 36 = .ok (.aload_n 0, 1) := by decide +kernel
theorem dX5_count_37 : decode cX5_count 37 = .ok (.getfield 10, 3) := by decide +kernel
theorem dX5_count_40 : decode cX5_count 40 = .ok (.getfield 65, 3) := by decide +kernel
theorem dX5_count_43 : decode cX5_count 43 = .ok (.ireturn, 1) := by decide +kernel
theorem dX5_count_44 : decode cX5_count 44 = .ok (.aload_n 0, 1) := by decide +kernel
theorem dX5_count_45 : decode cX5_count 45 = .ok (.getfield 10, 3) := by decide +kernel
theorem dX5_count_48 : decode cX5_count 48 = .ok (.invokevirtual 172, 3) := by decide +kernel
theorem dX5_count_51 : decode cX5_count 51 = .ok (.ireturn, 1) := by decide +kernel
theorem dX5_count_52 : decode cX5_count 52 = .ok (.aload_n 0, 1) := by decide +kernel
theorem dX5_count_53 : decode cX5_count 53 = .ok (.getfield 10, 3) := by decide +kernel
theorem dX5_count_56 : decode cX5_count 56 = .ok (.getfield 124, 3) := by decide +kernel
theorem dX5_count_59 : decode cX5_count 59 = .ok (.getfield 176, 3) := by decide +kernel
theorem dX5_count_62 : decode cX5_count 62 = .ok (.ireturn, 1) := by decide +kernel
theorem dX5_count_63 : decode cX5_count 63 = .ok (.aload_n 0, 1) := by decide +kernel
theorem dX5_count_64 : decode cX5_count 64 = .ok (.getfield 10, 3) := by decide +kernel
theorem dX5_count_67 : decode cX5_count 67 = .ok (.getfield 106, 3) := by decide +kernel
theorem dX5_count_70 : decode cX5_count 70 = .ok (.ireturn, 1) := by decide +kernel
theorem dX5_count_71 : decode cX5_count 71 = .ok (.aload_n 0, 1) := by decide +kernel
theorem dX5_count_72 : decode cX5_count 72 = .ok (.getfield 10, 3) := by decide +kernel
theorem dX5_count_75 : decode cX5_count 75 = .ok (.getfield 81, 3) := by decide +kernel
theorem dX5_count_78 : decode cX5_count 78 = .ok (.getfield 179, 3) := by decide +kernel
theorem dX5_count_81 : decode cX5_count 81 = .ok (.ireturn, 1) := by decide +kernel
theorem dX5_count_82 : decode cX5_count 82 = .ok (.new 182, 3) := by decide +kernel
theorem dX5_count_85 : decode cX5_count 85 = .ok (.dup, 1) := by decide +kernel
theorem dX5_count_86 : decode cX5_count 86 = .ok (.ldc 184, 2) := by decide +kernel
theorem dX5_count_88 : decode cX5_count 88 = .ok (.invokespecial 186, 3) := by decide +kernel
theorem dX5_count_91 : decode cX5_count 91 = .ok (.athrow, 1) := by decide +kernel
set_option maxRecDepth 20000 in
theorem ggX5_save_X5_requireRange : GoodIn wsX5_save wsX5_requireRange := goodIn_ca (goodIn_r _ [9, 10, 11] (by decide +kernel) (by decide +kernel)) (goodIn_sub (fun _ h => List.mem_cons_of_mem _ (List.mem_append_right _ h)) (by decide +kernel))
set_option maxRecDepth 20000 in
theorem gX5_save_X5_requireRange : GoodIn wsX5_save (va_wsS RX5 20 yX5_requireRange wsX5_requireRange) := goodIn_app (goodIn_of _ (by decide +kernel)) ggX5_save_X5_requireRange
set_option maxRecDepth 20000 in
theorem ggX5_save_X4_init : GoodIn wsX5_save wsX4_init := goodIn_r _ [14, 15, 16, 17, 18, 19, 20, 21, 22, 23, 24, 25, 26, 27, 28, 29, 30, 31, 32, 33, 34, 35, 36, 37, 38, 39, 40, 41, 42, 43, 44, 45, 46, 47, 48, 49, 50, 51, 52, 53, 54, 55, 56, 57, 58, 59, 60, 61, 62, 111, 112, 113, 114, 115, 116, 117, 118, 119, 120, 121, 122, 123, 124, 125, 126, 127, 128, 129, 130, 131, 132, 133, 134, 135, 136, 137, 138, 139, 140, 141, 142, 143, 144, 145, 146, 147] (by decide +kernel) (by decide +kernel)
set_option maxRecDepth 20000 in
theorem gX5_save_X4_init : GoodIn wsX5_save (wsX4_init) := ggX5_save_X4_init
set_option maxRecDepth 20000 in
theorem ggX5_save_X4_copyFrom : GoodIn wsX5_save wsX4_copyFrom := goodIn_r _ [66, 67, 30, 31, 68, 32, 69, 33, 34, 35, 70, 71, 19, 25, 29, 72, 73, 74, 21, 75, 76, 77, 78, 79, 80, 81, 82, 83, 84, 43, 85, 86, 87, 42, 88, 89, 90, 91, 92, 93, 94, 95, 96, 24, 97, 98, 52, 99, 100, 101, 102, 53, 55, 103, 104, 105, 28, 106, 107, 60, 108, 61, 62, 111, 112, 113, 114, 115, 116, 117, 118, 119, 120, 121, 122, 123, 124, 125, 126, 127, 128, 129, 130, 131, 132, 133, 134, 143, 144, 145, 146, 147, 135, 136, 137, 138, 139, 140, 141, 142] (by decide +kernel) (by decide +kernel)
set_option maxRecDepth 20000 in
theorem gX5_save_X4_copyFrom : GoodIn wsX5_save (wsV RX5 187 RX4 yX4_copyFrom wsX4_copyFrom) := goodIn_app (goodIn_of _ (by decide +kernel)) ggX5_save_X4_copyFrom
theorem dX5_save_0 : decode cX5_save 0 = .ok (.iload_n 1, 1) := by decide +kernel
theorem dX5_save_1 : decode cX5_save 1 = .ok (.iconst 0, 1) := by decide +kernel
theorem dX5_save_2 : decode cX5_save 2 = .ok (.iconst 1, 1) := by decide +kernel
theorem dX5_save_3 : decode cX5_save 3 = .ok (.invokestatic 20, 3) := by decide +kernel
theorem dX5_save_6 : decode cX5_save 6 = .ok (.aload_n 0, 1) := by decide +kernel
theorem dX5_save_7 : decode cX5_save 7 = .ok (.getfield 16, 3) := by decide +kernel
theorem dX5_save_10 : decode cX5_save 10 = .ok (.iload_n 1, 1) := by decide +kernel
theorem dX5_save_11 : decode cX5_save 11 = .ok (.aaload, 1) := by decide +kernel
theorem dX5_save_12 : decode cX5_save 12 = .ok (.astore_n 2, 1) := by decide +kernel
theorem dX5_save_13 : decode cX5_save 13 = .ok (.aload_n 2, 1) := by decide +kernel
theorem dX5_save_14 : decode cX5_save 14 = .ok (.ifnonnull 18, 3) := by decide +kernel
theorem dX5_save_17 : decode cX5_save 17 = .ok (.new 7, 3) := by decide +kernel
theorem dX5_save_20 : decode cX5_save 20 = .ok (.dup, 1) := by decide +kernel
theorem dX5_save_21 : decode cX5_save 21 = .ok (.invokespecial 9, 3) := by decide +kernel
theorem dX5_save_24 : decode cX5_save 24 = .ok (.astore_n 2, 1) := by decide +kernel
theorem dX5_save_25 : decode cX5_save 25 = .ok (.aload_n 0, 1) := by decide +kernel
theorem dX5_save_26 : decode cX5_save 26 = .ok (.getfield 16, 3) := by decide +kernel
theorem dX5_save_29 : decode cX5_save 29 = .ok (.iload_n 1, 1) := by decide +kernel
theorem dX5_save_30 : decode cX5_save 30 = .ok (.aload_n 2, 1) := by decide +kernel
theorem dX5_save_31 : decode cX5_save 31 = .ok (.aastore, 1) := by decide +kernel
theorem dX5_save_32 : decode cX5_save 32 = .ok (.aload_n 2, 1) := by decide +kernel
theorem dX5_save_33 : decode cX5_save 33 = .ok (.aload_n 0, 1) := by decide +kernel
theorem dX5_save_34 : decode cX5_save 34 = .ok (.getfield 10, 3) := by decide +kernel
theorem dX5_save_37 : decode cX5_save 37 = .ok (.invokevirtual 187, 3) := by decide +kernel
theorem dX5_save_40 : decode cX5_save 40 = .ok (.return_, 1) := by decide +kernel
set_option maxRecDepth 20000 in
theorem ggX5_restore_X5_requireRange : GoodIn wsX5_restore wsX5_requireRange := goodIn_ca (goodIn_r _ [8, 9, 10] (by decide +kernel) (by decide +kernel)) (goodIn_sub (fun _ h => List.mem_cons_of_mem _ (List.mem_append_right _ h)) (by decide +kernel))
set_option maxRecDepth 20000 in
theorem gX5_restore_X5_requireRange : GoodIn wsX5_restore (va_wsS RX5 20 yX5_requireRange wsX5_requireRange) := goodIn_app (goodIn_of _ (by decide +kernel)) ggX5_restore_X5_requireRange
set_option maxRecDepth 20000 in
theorem ggX5_restore_X4_copyFrom : GoodIn wsX5_restore wsX4_copyFrom := goodIn_r _ [15, 16, 17, 18, 19, 20, 21, 22, 23, 24, 25, 26, 27, 28, 29, 30, 31, 32, 33, 34, 35, 36, 37, 38, 39, 40, 41, 42, 43, 44, 45, 46, 47, 48, 49, 50, 51, 52, 53, 54, 55, 56, 57, 58, 59, 60, 61, 62, 63, 64, 65, 66, 67, 68, 69, 70, 71, 72, 73, 74, 75, 76, 77, 80, 81, 82, 83, 84, 85, 86, 87, 88, 89, 90, 91, 92, 93, 94, 95, 96, 97, 98, 99, 100, 101, 102, 103, 104, 105, 106, 107, 108, 109, 110, 111, 112, 113, 114, 115, 116] (by decide +kernel) (by decide +kernel)
set_option maxRecDepth 20000 in
theorem gX5_restore_X4_copyFrom : GoodIn wsX5_restore (wsV RX5 187 RX4 yX4_copyFrom wsX4_copyFrom) := goodIn_app (goodIn_of _ (by decide +kernel)) ggX5_restore_X4_copyFrom
theorem dX5_restore_0 : decode cX5_restore 0 = .ok (.iload_n 1, 1) := by decide +kernel
theorem dX5_restore_1 : decode cX5_restore 1 = .ok (.iconst 0, 1) := by decide +kernel
theorem dX5_restore_2 : decode cX5_restore 2 = .ok (.iconst 1, 1) := by decide +kernel
theorem dX5_restore_3 : decode cX5_restore 3 = .ok (.invokestatic 20, 3) := by decide +kernel
theorem dX5_restore_6 : decode cX5_restore 6 = .ok (.aload_n 0, 1) := by decide +kernel
theorem dX5_restore_7 : decode cX5_restore 7 = .ok (.getfield 16, 3) := by decide +kernel
theorem dX5_restore_10 : decode cX5_restore 10 = .ok (.iload_n 1, 1) := by decide +kernel
theorem dX5_restore_11 : decode cX5_restore 11 = .ok (.aaload, 1) := by decide +kernel
theorem dX5_restore_12 : decode cX5_restore 12 = .ok (.astore_n 2, 1) := by decide +kernel
theorem dX5_restore_13 : decode cX5_restore 13 = .ok (.aload_n 2, 1) := by decide +kernel
theorem dX5_restore_14 : decode cX5_restore 14 = .ok (.ifnonnull 13, 3) := by decide +kernel
theorem dX5_restore_17 : decode cX5_restore 17 = .ok (.new 28, 3) := by decide +kernel
theorem dX5_restore_20 : decode cX5_restore 20 = .ok (.dup, 1) := by decide +kernel
theorem dX5_restore_21 : decode cX5_restore 21 = .ok (.ldc 191, 2) := by decide +kernel
theorem dX5_restore_23 : decode cX5_restore 23 = .ok (.invokespecial 32, 3) := by decide +kernel
theorem dX5_restore_26 : decode cX5_restore 26 = .ok (.athrow, 1) := by decide +kernel
theorem dX5_restore_27 : decode cX5_restore 27 = .ok (.aload_n 0, 1) := by decide +kernel
theorem dX5_restore_28 : decode cX5_restore 28 = .ok (.getfield 10, 3) := by decide +kernel
theorem dX5_restore_31 : decode cX5_restore 31 = .ok (.aload_n 2, 1) := by decide +kernel
theorem dX5_restore_32 : decode cX5_restore 32 = .ok (.invokevirtual 187, 3) := by decide +kernel
theorem dX5_restore_35 : decode cX5_restore 35 = .ok (.return_, 1) := by decide +kernel
theorem dX5_requireRange_0 : decode cX5_requireRange 0 = .ok (.iload_n 0, 1) := by decide +kernel
theorem dX5_requireRange_1 : decode cX5_requireRange 1 = .ok (.iload_n 1, 1) := by decide +kernel
theorem dX5_requireRange_2 : decode cX5_requireRange 2 = .ok (.if_icmp .lt 8, 3) := by decide +kernel
theorem dX5_requireRange_5 : decode cX5_requireRange 5 = .ok (.iload_n 0, 1) := by decide +kernel
theorem dX5_requireRange_6 : decode cX5_requireRange 6 = .ok (.iload_n 2, 1) := by decide +kernel
theorem dX5_requireRange_7 : decode cX5_requireRange 7 = .ok (.if_icmp .le 13, 3) := by decide +kernel
theorem dX5_requireRange_10 : decode cX5_requireRange 10 = .ok (.new 182, 3) := by decide +kernel
theorem dX5_requireRange_13 : decode cX5_requireRange 13 = .ok (.dup, 1) := by decide +kernel
theorem dX5_requireRange_14 : decode cX5_requireRange 14 = .ok (.ldc 193, 2) := by decide +kernel
theorem dX5_requireRange_16 : decode cX5_requireRange 16 = .ok (.invokespecial 186, 3) := by decide +kernel
theorem dX5_requireRange_19 : decode cX5_requireRange 19 = .ok (.athrow, 1) := by decide +kernel
theorem dX5_requireRange_20 : decode cX5_requireRange 20 = .ok (.return_, 1) := by decide +kernel
theorem dX5_requireConnection_0 : decode cX5_requireConnection 0 = .ok (.iload_n 1, 1) := by decide +kernel
theorem dX5_requireConnection_1 : decode cX5_requireConnection 1 = .ok (.ifCond .lt 17, 3) := by decide +kernel
theorem dX5_requireConnection_4 : decode cX5_requireConnection 4 = .ok (.iload_n 1, 1) := by decide +kernel
theorem dX5_requireConnection_5 : decode cX5_requireConnection 5 = .ok (.aload_n 0, 1) := by decide +kernel
theorem dX5_requireConnection_6 : decode cX5_requireConnection 6 = .ok (.getfield 10, 3) := by decide +kernel
theorem dX5_requireConnection_9 : decode cX5_requireConnection 9 = .ok (.getfield 124, 3) := by decide +kernel
theorem dX5_requireConnection_12 : decode cX5_requireConnection 12 = .ok (.getfield 176, 3) := by decide +kernel
theorem dX5_requireConnection_15 : decode cX5_requireConnection 15 = .ok (.if_icmp .lt 13, 3) := by decide +kernel
theorem dX5_requireConnection_18 : decode cX5_requireConnection 18 = .ok (.new 195, 3) := by decide +kernel
theorem dX5_requireConnection_21 : decode cX5_requireConnection 21 = .ok (.dup, 1) := by decide +kernel
theorem dX5_requireConnection_22 : decode cX5_requireConnection 22 = .ok (.ldc 197, 2) := by decide +kernel
theorem dX5_requireConnection_24 : decode cX5_requireConnection 24 = .ok (.invokespecial 199, 3) := by decide +kernel
theorem dX5_requireConnection_27 : decode cX5_requireConnection 27 = .ok (.athrow, 1) := by decide +kernel
theorem dX5_requireConnection_28 : decode cX5_requireConnection 28 = .ok (.return_, 1) := by decide +kernel
theorem dX5_mix_0 : decode cX5_mix 0 = .ok (.iload_n 0, 1) := by decide +kernel
theorem dX5_mix_1 : decode cX5_mix 1 = .ok (.iload_n 0, 1) := by decide +kernel
theorem dX5_mix_2 : decode cX5_mix 2 = .ok (.bipush 16, 2) := by decide +kernel
theorem dX5_mix_4 : decode cX5_mix 4 = .ok (.iushr, 1) := by decide +kernel
theorem dX5_mix_5 : decode cX5_mix 5 = .ok (.ixor, 1) := by decide +kernel
theorem dX5_mix_6 : decode cX5_mix 6 = .ok (.istore_n 0, 1) := by decide +kernel
theorem dX5_mix_7 : decode cX5_mix 7 = .ok (.iload_n 0, 1) := by decide +kernel
theorem dX5_mix_8 : decode cX5_mix 8 = .ok (.ldc 200, 2) := by decide +kernel
theorem dX5_mix_10 : decode cX5_mix 10 = .ok (.imul, 1) := by decide +kernel
theorem dX5_mix_11 : decode cX5_mix 11 = .ok (.istore_n 0, 1) := by decide +kernel
theorem dX5_mix_12 : decode cX5_mix 12 = .ok (.iload_n 0, 1) := by decide +kernel
theorem dX5_mix_13 : decode cX5_mix 13 = .ok (.iload_n 0, 1) := by decide +kernel
theorem dX5_mix_14 : decode cX5_mix 14 = .ok (.bipush 16, 2) := by decide +kernel
theorem dX5_mix_16 : decode cX5_mix 16 = .ok (.iushr, 1) := by decide +kernel
theorem dX5_mix_17 : decode cX5_mix 17 = .ok (.ixor, 1) := by decide +kernel
theorem dX5_mix_18 : decode cX5_mix 18 = .ok (.istore_n 0, 1) := by decide +kernel
theorem dX5_mix_19 : decode cX5_mix 19 = .ok (.iload_n 0, 1) := by decide +kernel
theorem dX5_mix_20 : decode cX5_mix 20 = .ok (.ldc 200, 2) := by decide +kernel
theorem dX5_mix_22 : decode cX5_mix 22 = .ok (.imul, 1) := by decide +kernel
theorem dX5_mix_23 : decode cX5_mix 23 = .ok (.istore_n 0, 1) := by decide +kernel
theorem dX5_mix_24 : decode cX5_mix 24 = .ok (.iload_n 0, 1) := by decide +kernel
theorem dX5_mix_25 : decode cX5_mix 25 = .ok (.iload_n 0, 1) := by decide +kernel
theorem dX5_mix_26 : decode cX5_mix 26 = .ok (.bipush 16, 2) := by decide +kernel
theorem dX5_mix_28 : decode cX5_mix 28 = .ok (.iushr, 1) := by decide +kernel
theorem dX5_mix_29 : decode cX5_mix 29 = .ok (.ixor, 1) := by decide +kernel
theorem dX5_mix_30 : decode cX5_mix 30 = .ok (.istore_n 0, 1) := by decide +kernel
theorem dX5_mix_31 : decode cX5_mix 31 = .ok (.iload_n 0, 1) := by decide +kernel
theorem dX5_mix_32 : decode cX5_mix 32 = .ok (.ireturn, 1) := by decide +kernel
theorem dX5_isBelowUnsigned_0 : decode cX5_isBelowUnsigned 0 = .ok (.iload_n 0, 1) := by decide +kernel
theorem dX5_isBelowUnsigned_1 : decode cX5_isBelowUnsigned 1 = .ok (.ldc 201, 2) := by decide +kernel
theorem dX5_isBelowUnsigned_3 : decode cX5_isBelowUnsigned 3 = .ok (.ixor, 1) := by decide +kernel
theorem dX5_isBelowUnsigned_4 : decode cX5_isBelowUnsigned 4 = .ok (.iload_n 1, 1) := by decide +kernel
theorem dX5_isBelowUnsigned_5 : decode cX5_isBelowUnsigned 5 = .ok (.ldc 201, 2) := by decide +kernel
theorem dX5_isBelowUnsigned_7 : decode cX5_isBelowUnsigned 7 = .ok (.ixor, 1) := by decide +kernel
theorem dX5_isBelowUnsigned_8 : decode cX5_isBelowUnsigned 8 = .ok (.if_icmp .ge 7, 3) := by decide +kernel
theorem dX5_isBelowUnsigned_11 : decode cX5_isBelowUnsigned 11 = .ok (.iconst 1, 1) := by decide +kernel
theorem dX5_isBelowUnsigned_12 : decode cX5_isBelowUnsigned 12 = .ok (.goto 4, 3) := by decide +kernel
theorem dX5_isBelowUnsigned_15 : decode cX5_isBelowUnsigned 15 = .ok (.iconst 0, 1) := by decide +kernel
theorem dX5_isBelowUnsigned_16 : decode cX5_isBelowUnsigned 16 = .ok (.ireturn, 1) := by decide +kernel
theorem dX5_nextSeed_0 : decode cX5_nextSeed 0 = .ok (.iload_n 0, 1) := by decide +kernel
theorem dX5_nextSeed_1 : decode cX5_nextSeed 1 = .ok (.ldc 202, 2) := by decide +kernel
theorem dX5_nextSeed_3 : decode cX5_nextSeed 3 = .ok (.imul, 1) := by decide +kernel
theorem dX5_nextSeed_4 : decode cX5_nextSeed 4 = .ok (.sipush 12345, 3) := by decide +kernel
theorem dX5_nextSeed_7 : decode cX5_nextSeed 7 = .ok (.iadd, 1) := by decide +kernel
theorem dX5_nextSeed_8 : decode cX5_nextSeed 8 = .ok (.ireturn, 1) := by decide +kernel
theorem dX6_init_0 : decode cX6_init 0 = .ok (.aload_n 0, 1) := by decide +kernel
theorem dX6_init_1 : decode cX6_init 1 = .ok (.invokespecial 1, 3) := by decide +kernel
theorem dX6_init_4 : decode cX6_init 4 = .ok (.aload_n 0, 1) := by decide +kernel
theorem dX6_init_5 : decode cX6_init 5 = .ok (.sipush 3263, 3) := by decide +kernel
theorem dX6_init_8 : decode cX6_init 8 = .ok (.newarray .int, 2) := by decide +kernel
theorem dX6_init_10 : decode cX6_init 10 = .ok (.putfield 7, 3) := by decide +kernel
theorem dX6_init_13 : decode cX6_init 13 = .ok (.aload_n 0, 1) := by decide +kernel
theorem dX6_init_14 : decode cX6_init 14 = .ok (.sipush 6526, 3) := by decide +kernel
theorem dX6_init_17 : decode cX6_init 17 = .ok (.newarray .int, 2) := by decide +kernel
theorem dX6_init_19 : decode cX6_init 19 = .ok (.putfield 13, 3) := by decide +kernel
theorem dX6_init_22 : decode cX6_init 22 = .ok (.aload_n 0, 1) := by decide +kernel
theorem dX6_init_23 : decode cX6_init 23 = .ok (.iconst 2, 1) := by decide +kernel
theorem dX6_init_24 : decode cX6_init 24 = .ok (.newarray .boolean, 2) := by decide +kernel
theorem dX6_init_26 : decode cX6_init 26 = .ok (.putfield 16, 3) := by decide +kernel
theorem dX6_init_29 : decode cX6_init 29 = .ok (.aload_n 0, 1) := by decide +kernel
theorem dX6_init_30 : decode cX6_init 30 = .ok (.bipush 10, 2) := by decide +kernel
theorem dX6_init_32 : decode cX6_init 32 = .ok (.newarray .int, 2) := by decide +kernel
theorem dX6_init_34 : decode cX6_init 34 = .ok (.putfield 20, 3) := by decide +kernel
theorem dX6_init_37 : decode cX6_init 37 = .ok (.aload_n 0, 1) := by decide +kernel
theorem dX6_init_38 : decode cX6_init 38 = .ok (.getfield 7, 3) := by decide +kernel
theorem dX6_init_41 : decode cX6_init 41 = .ok (.iconst 2, 1) := by decide +kernel
theorem dX6_init_42 : decode cX6_init 42 = .ok (.iconst 2, 1) := by decide +kernel
theorem dX6_init_43 : decode cX6_init 43 = .ok (.iastore, 1) := by decide +kernel
theorem dX6_init_44 : decode cX6_init 44 = .ok (.aload_n 0, 1) := by decide +kernel
theorem dX6_init_45 : decode cX6_init 45 = .ok (.getfield 7, 3) := by decide +kernel
theorem dX6_init_48 : decode cX6_init 48 = .ok (.iconst 3, 1) := by decide +kernel
theorem dX6_init_49 : decode cX6_init 49 = .ok (.iconst 3, 1) := by decide +kernel
theorem dX6_init_50 : decode cX6_init 50 = .ok (.iastore, 1) := by decide +kernel
theorem dX6_init_51 : decode cX6_init 51 = .ok (.aload_n 0, 1) := by decide +kernel
theorem dX6_init_52 : decode cX6_init 52 = .ok (.getfield 7, 3) := by decide +kernel
theorem dX6_init_55 : decode cX6_init 55 = .ok (.iconst 5, 1) := by decide +kernel
theorem dX6_init_56 : decode cX6_init 56 = .ok (.iconst 5, 1) := by decide +kernel
theorem dX6_init_57 : decode cX6_init 57 = .ok (.iastore, 1) := by decide +kernel
theorem dX6_init_58 : decode cX6_init 58 = .ok (.aload_n 0, 1) := by decide +kernel
theorem dX6_init_59 : decode cX6_init 59 = .ok (.getfield 7, 3) := by decide +kernel
theorem dX6_init_62 : decode cX6_init 62 = .ok (.bipush 8, 2) := by decide +kernel
theorem dX6_init_64 : decode cX6_init 64 = .ok (.iconst 1, 1) := by decide +kernel
theorem dX6_init_65 : decode cX6_init 65 = .ok (.iastore, 1) := by decide +kernel
theorem dX6_init_66 : decode cX6_init 66 = .ok (.aload_n 0, 1) := by decide +kernel
theorem dX6_init_67 : decode cX6_init 67 = .ok (.getfield 7, 3) := by decide +kernel
theorem dX6_init_70 : decode cX6_init 70 = .ok (.bipush 9, 2) := by decide +kernel
theorem dX6_init_72 : decode cX6_init 72 = .ok (.iconst (-1), 1) := by decide +kernel
theorem dX6_init_73 : decode cX6_init 73 = .ok (.iastore, 1) := by decide +kernel
theorem dX6_init_74 : decode cX6_init 74 = .ok (.return_, 1) := by decide +kernel
theorem dX6_thrown_0 : decode cX6_thrown 0 = .ok (.aload_n 0, 1) := by decide +kernel
theorem dX6_thrown_1 : decode cX6_thrown 1 = .ok (.getfield 23, 3) := by decide +kernel
theorem dX6_thrown_4 : decode cX6_thrown 4 = .ok (.ireturn, 1) := by decide +kernel
theorem dX6_in_0 : decode cX6_in 0 = .ok (.iload_n 0, 1) := by decide +kernel
theorem dX6_in_1 : decode cX6_in 1 = .ok (.iload_n 1, 1) := by decide +kernel
theorem dX6_in_2 : decode cX6_in 2 = .ok (.if_icmp .lt 12, 3) := by decide +kernel
theorem dX6_in_5 : decode cX6_in 5 = .ok (.iload_n 0, 1) := by decide +kernel
theorem dX6_in_6 : decode cX6_in 6 = .ok (.iload_n 2, 1) := by decide +kernel
theorem dX6_in_7 : decode cX6_in 7 = .ok (.if_icmp .gt 7, 3) := by decide +kernel
theorem dX6_in_10 : decode cX6_in 10 = .ok (.iconst 1, 1) := by decide +kernel
theorem dX6_in_11 : decode cX6_in 11 = .ok (.goto 4, 3) := by decide +kernel
theorem dX6_in_14 : decode cX6_in 14 = .ok (.iconst 0, 1) := by decide +kernel
theorem dX6_in_15 : decode cX6_in 15 = .ok (.ireturn, 1) := by decide +kernel
set_option maxRecDepth 20000 in
theorem ggX6_isServer_X6_in : GoodIn wsX6_isServer wsX6_in := goodIn_r _ [5] (by decide +kernel) (by decide +kernel)
set_option maxRecDepth 20000 in
theorem gX6_isServer_X6_in : GoodIn wsX6_isServer (va_wsS RX6 27 yX6_in wsX6_in) := goodIn_app (goodIn_of _ (by decide +kernel)) ggX6_isServer_X6_in
theorem dX6_isServer_0 : decode cX6_isServer 0 = .ok (.iload_n 1, 1) := by decide +kernel
theorem dX6_isServer_1 : decode cX6_isServer 1 = .ok (.iconst 0, 1) := by decide +kernel
theorem dX6_isServer_2 : decode cX6_isServer 2 = .ok (.aload_n 0, 1) := by decide +kernel
theorem dX6_isServer_3 : decode cX6_isServer 3 = .ok (.getfield 7, 3) := by decide +kernel
theorem dX6_isServer_6 : decode cX6_isServer 6 = .ok (.iconst 0, 1) := by decide +kernel
theorem dX6_isServer_7 : decode cX6_isServer 7 = .ok (.iaload, 1) := by decide +kernel
theorem dX6_isServer_8 : decode cX6_isServer 8 = .ok (.iconst 1, 1) := by decide +kernel
theorem dX6_isServer_9 : decode cX6_isServer 9 = .ok (.isub, 1) := by decide +kernel
theorem dX6_isServer_10 : decode cX6_isServer 10 = .ok (.invokestatic 27, 3) := by decide +kernel
theorem dX6_isServer_13 : decode cX6_isServer 13 = .ok (.ireturn, 1) := by decide +kernel
set_option maxRecDepth 20000 in
theorem ggX6_addServer_X6_in : GoodIn wsX6_addServer wsX6_in := goodIn_r _ [6] (by decide +kernel) (by decide +kernel)
set_option maxRecDepth 20000 in
theorem gX6_addServer_X6_in : GoodIn wsX6_addServer (va_wsS RX6 27 yX6_in wsX6_in) := goodIn_app (goodIn_of _ (by decide +kernel)) ggX6_addServer_X6_in
theorem dX6_addServer_0 : decode cX6_addServer 0 = .ok (.aload_n 0, 1) := by decide +kernel
theorem dX6_addServer_1 : decode cX6_addServer 1 = .ok (.iload_n 1, 1) := by decide +kernel
theorem dX6_addServer_2 : decode cX6_addServer 2 = .ok (.iconst 1, 1) := by decide +kernel
theorem dX6_addServer_3 : decode cX6_addServer 3 = .ok (.bipush 10, 2) := by decide +kernel
theorem dX6_addServer_5 : decode cX6_addServer 5 = .ok (.invokestatic 27, 3) := by decide +kernel
theorem dX6_addServer_8 : decode cX6_addServer 8 = .ok (.ifCond .eq 13, 3) := by decide +kernel
theorem dX6_addServer_11 : decode cX6_addServer 11 = .ok (.iload_n 2, 1) := by decide +kernel
theorem dX6_addServer_12 : decode cX6_addServer 12 = .ok (.iconst 1, 1) := by decide +kernel
theorem dX6_addServer_13 : decode cX6_addServer 13 = .ok (.bipush 20, 2) := by decide +kernel
theorem dX6_addServer_15 : decode cX6_addServer 15 = .ok (.invokestatic 27, 3) := by decide +kernel
theorem dX6_addServer_18 : decode cX6_addServer 18 = .ok (.ifCond .ne 7, 3) := by decide +kernel
theorem dX6_addServer_21 : decode cX6_addServer 21 = .ok (.iconst 1, 1) := by decide +kernel
theorem dX6_addServer_22 : decode cX6_addServer 22 = .ok (.goto 19, 3) := by decide +kernel
theorem dX6_addServer_25 : decode cX6_addServer 25 = .ok (.aload_n 0, 1) := by decide +kernel
theorem dX6_addServer_26 : decode cX6_addServer 26 = .ok (.getfield 7, 3) := by decide +kernel
theorem dX6_addServer_29 : decode cX6_addServer 29 = .ok (.iconst 0, 1) := by decide +kernel
theorem dX6_addServer_30 : decode cX6_addServer 30 = .ok (.iaload, 1) := by decide +kernel
theorem dX6_addServer_31 : decode cX6_addServer 31 = .ok (.bipush 10, 2) := by decide +kernel
theorem dX6_addServer_33 : decode cX6_addServer 33 = .ok (.if_icmp .ne 7, 3) := by decide +kernel
theorem dX6_addServer_36 : decode cX6_addServer 36 = .ok (.iconst 2, 1) := by decide +kernel
theorem dX6_addServer_37 : decode cX6_addServer 37 = .ok (.goto 4, 3) := by decide +kernel
theorem dX6_addServer_40 : decode cX6_addServer 40 = .ok (.iconst 0, 1) := by decide +kernel
theorem dX6_addServer_41 : decode cX6_addServer 41 = .ok (.putfield 23, 3) := by decide +kernel
theorem dX6_addServer_44 : decode cX6_addServer 44 = .ok (.aload_n 0, 1) := by decide +kernel
theorem dX6_addServer_45 : decode cX6_addServer 45 = .ok (.getfield 23, 3) := by decide +kernel
theorem dX6_addServer_48 : decode cX6_addServer 48 = .ok (.ifCond .eq 5, 3) := by decide +kernel
theorem dX6_addServer_51 : decode cX6_addServer 51 = .ok (.iconst 0, 1) := by decide +kernel
theorem dX6_addServer_52 : decode cX6_addServer 52 = .ok (.ireturn, 1) := by decide +kernel
theorem dX6_addServer_53 : decode cX6_addServer 53 = .ok (.aload_n 0, 1) := by decide +kernel
theorem dX6_addServer_54 : decode cX6_addServer 54 = .ok (.getfield 7, 3) := by decide +kernel
theorem dX6_addServer_57 : decode cX6_addServer 57 = .ok (.iconst 0, 1) := by decide +kernel
theorem dX6_addServer_58 : decode cX6_addServer 58 = .ok (.iaload, 1) := by decide +kernel
theorem dX6_addServer_59 : decode cX6_addServer 59 = .ok (.istore_n 3, 1) := by decide +kernel
theorem dX6_addServer_60 : decode cX6_addServer 60 = .ok (.aload_n 0, 1) := by decide +kernel
theorem dX6_addServer_61 : decode cX6_addServer 61 = .ok (.getfield 7, 3) := by decide +kernel
theorem dX6_addServer_64 : decode cX6_addServer 64 = .ok (.bipush 13, 2) := by decide +kernel
theorem dX6_addServer_66 : decode cX6_addServer 66 = .ok (.iload_n 3, 1) := by decide +kernel
theorem dX6_addServer_67 : decode cX6_addServer 67 = .ok (.iadd, 1) := by decide +kernel
theorem dX6_addServer_68 : decode cX6_addServer 68 = .ok (.iload_n 1, 1) := by decide +kernel
theorem dX6_addServer_69 : decode cX6_addServer 69 = .ok (.iastore, 1) := by decide +kernel
theorem dX6_addServer_70 : decode cX6_addServer 70 = .ok (.aload_n 0, 1) := by decide +kernel
theorem dX6_addServer_71 : decode cX6_addServer 71 = .ok (.getfield 7, 3) := by decide +kernel
theorem dX6_addServer_74 : decode cX6_addServer 74 = .ok (.bipush 23, 2) := by decide +kernel
theorem dX6_addServer_76 : decode cX6_addServer 76 = .ok (.iload_n 3, 1) := by decide +kernel
theorem dX6_addServer_77 : decode cX6_addServer 77 = .ok (.iadd, 1) := by decide +kernel
theorem dX6_addServer_78 : decode cX6_addServer 78 = .ok (.iload_n 2, 1) := by decide +kernel
theorem dX6_addServer_79 : decode cX6_addServer 79 = .ok (.iastore, 1) := by decide +kernel
theorem dX6_addServer_80 : decode cX6_addServer 80 = .ok (.aload_n 0, 1) := by decide +kernel
theorem dX6_addServer_81 : decode cX6_addServer 81 = .ok (.getfield 7, 3) := by decide +kernel
theorem dX6_addServer_84 : decode cX6_addServer 84 = .ok (.bipush 73, 2) := by decide +kernel
theorem dX6_addServer_86 : decode cX6_addServer 86 = .ok (.iload_n 3, 1) := by decide +kernel
theorem dX6_addServer_87 : decode cX6_addServer 87 = .ok (.iadd, 1) := by decide +kernel
theorem dX6_addServer_88 : decode cX6_addServer 88 = .ok (.iconst (-1), 1) := by decide +kernel
theorem dX6_addServer_89 : decode cX6_addServer 89 = .ok (.iastore, 1) := by decide +kernel
theorem dX6_addServer_90 : decode cX6_addServer 90 = .ok (.aload_n 0, 1) := by decide +kernel
theorem dX6_addServer_91 : decode cX6_addServer 91 = .ok (.getfield 7, 3) := by decide +kernel
theorem dX6_addServer_94 : decode cX6_addServer 94 = .ok (.bipush 103, 2) := by decide +kernel
theorem dX6_addServer_96 : decode cX6_addServer 96 = .ok (.iload_n 3, 1) := by decide +kernel
theorem dX6_addServer_97 : decode cX6_addServer 97 = .ok (.iadd, 1) := by decide +kernel
theorem dX6_addServer_98 : decode cX6_addServer 98 = .ok (.iconst (-1), 1) := by decide +kernel
theorem dX6_addServer_99 : decode cX6_addServer 99 = .ok (.iastore, 1) := by decide +kernel
theorem dX6_addServer_100 : decode cX6_addServer 100 = .ok (.aload_n 0, 1) := by decide +kernel
theorem dX6_addServer_101 : decode cX6_addServer 101 = .ok (.getfield 7, 3) := by decide +kernel
theorem dX6_addServer_104 : decode cX6_addServer 104 = .ok (.iconst 0, 1) := by decide +kernel
theorem dX6_addServer_105 : decode cX6_addServer 105 = .ok (.dup2, 1) := by decide +kernel
theorem dX6_addServer_106 : decode cX6_addServer 106 = .ok (.iaload, 1) := by decide +kernel
theorem dX6_addServer_107 : decode cX6_addServer 107 = .ok (.iconst 1, 1) := by decide +kernel
theorem dX6_addServer_108 : decode cX6_addServer 108 = .ok (.iadd, 1) := by decide +kernel
theorem dX6_addServer_109 : decode cX6_addServer 109 = .ok (.iastore, 1) := by decide +kernel
theorem dX6_addServer_110 : decode cX6_addServer 110 = .ok (.iload_n 3, 1) := by decide +kernel
theorem dX6_addServer_111 : decode cX6_addServer 111 = .ok (.ireturn, 1) := by decide +kernel
theorem dX6_put_0 : decode cX6_put 0 = .ok (.aload_n 0, 1) := by decide +kernel
theorem dX6_put_1 : decode cX6_put 1 = .ok (.getfield 7, 3) := by decide +kernel
theorem dX6_put_4 : decode cX6_put 4 = .ok (.iload_n 1, 1) := by decide +kernel
theorem dX6_put_5 : decode cX6_put 5 = .ok (.iaload, 1) := by decide +kernel
theorem dX6_put_6 : decode cX6_put 6 = .ok (.istore_n 3, 1) := by decide +kernel
theorem dX6_put_7 : decode cX6_put 7 = .ok (.aload_n 0, 1) := by decide +kernel
theorem dX6_put_8 : decode cX6_put 8 = .ok (.getfield 7, 3) := by decide +kernel
theorem dX6_put_11 : decode cX6_put 11 = .ok (.iload_n 1, 1) := by decide +kernel
theorem dX6_put_12 : decode cX6_put 12 = .ok (.iload_n 2, 1) := by decide +kernel
theorem dX6_put_13 : decode cX6_put 13 = .ok (.iastore, 1) := by decide +kernel
theorem dX6_put_14 : decode cX6_put 14 = .ok (.iload_n 3, 1) := by decide +kernel
theorem dX6_put_15 : decode cX6_put 15 = .ok (.ireturn, 1) := by decide +kernel
set_option maxRecDepth 20000 in
theorem ggX6_setWeight_X6_isServer : GoodIn wsX6_setWeight wsX6_isServer := goodIn_r _ [6, 7, 8, 9, 5, 10, 15, 16, 17, 18, 19, 20] (by decide +kernel) (by decide +kernel)
set_option maxRecDepth 20000 in
theorem gX6_setWeight_X6_isServer : GoodIn wsX6_setWeight (wsV RX6 31 RX6 yX6_isServer wsX6_isServer) := goodIn_app (goodIn_of _ (by decide +kernel)) ggX6_setWeight_X6_isServer
set_option maxRecDepth 20000 in
theorem ggX6_setWeight_X6_in : GoodIn wsX6_setWeight wsX6_in := goodIn_r _ [10] (by decide +kernel) (by decide +kernel)
set_option maxRecDepth 20000 in
theorem gX6_setWeight_X6_in : GoodIn wsX6_setWeight (va_wsS RX6 27 yX6_in wsX6_in) := goodIn_app (goodIn_of _ (by decide +kernel)) ggX6_setWeight_X6_in
set_option maxRecDepth 20000 in
theorem ggX6_setWeight_X6_put : GoodIn wsX6_setWeight wsX6_put := goodIn_r _ [14, 7, 15, 16, 17, 18, 19, 20] (by decide +kernel) (by decide +kernel)
set_option maxRecDepth 20000 in
theorem gX6_setWeight_X6_put : GoodIn wsX6_setWeight (wsV RX6 35 RX6 yX6_put wsX6_put) := goodIn_app (goodIn_of _ (by decide +kernel)) ggX6_setWeight_X6_put
theorem dX6_setWeight_0 : decode cX6_setWeight 0 = .ok (.aload_n 0, 1) := by decide +kernel
theorem dX6_setWeight_1 : decode cX6_setWeight 1 = .ok (.aload_n 0, 1) := by decide +kernel
theorem dX6_setWeight_2 : decode cX6_setWeight 2 = .ok (.iload_n 1, 1) := by decide +kernel
theorem dX6_setWeight_3 : decode cX6_setWeight 3 = .ok (.invokevirtual 31, 3) := by decide +kernel
theorem dX6_setWeight_6 : decode cX6_setWeight 6 = .ok (.ifCond .ne 7, 3) := by decide +kernel
theorem dX6_setWeight_9 : decode cX6_setWeight 9 = .ok (.iconst 1, 1) := by decide +kernel
theorem dX6_setWeight_10 : decode cX6_setWeight 10 = .ok (.goto 18, 3) := by decide +kernel
theorem dX6_setWeight_13 : decode cX6_setWeight 13 = .ok (.iload_n 2, 1) := by decide +kernel
theorem dX6_setWeight_14 : decode cX6_setWeight 14 = .ok (.iconst 1, 1) := by decide +kernel
theorem dX6_setWeight_15 : decode cX6_setWeight 15 = .ok (.bipush 10, 2) := by decide +kernel
theorem dX6_setWeight_17 : decode cX6_setWeight 17 = .ok (.invokestatic 27, 3) := by decide +kernel
theorem dX6_setWeight_20 : decode cX6_setWeight 20 = .ok (.ifCond .ne 7, 3) := by decide +kernel
theorem dX6_setWeight_23 : decode cX6_setWeight 23 = .ok (.iconst 2, 1) := by decide +kernel
theorem dX6_setWeight_24 : decode cX6_setWeight 24 = .ok (.goto 4, 3) := by decide +kernel
theorem dX6_setWeight_27 : decode cX6_setWeight 27 = .ok (.iconst 0, 1) := by decide +kernel
theorem dX6_setWeight_28 : decode cX6_setWeight 28 = .ok (.putfield 23, 3) := by decide +kernel
theorem dX6_setWeight_31 : decode cX6_setWeight 31 = .ok (.aload_n 0, 1) := by decide +kernel
theorem dX6_setWeight_32 : decode cX6_setWeight 32 = .ok (.getfield 23, 3) := by decide +kernel
theorem dX6_setWeight_35 : decode cX6_setWeight 35 = .ok (.ifCond .eq 7, 3) := by decide +kernel
theorem dX6_setWeight_38 : decode cX6_setWeight 38 = .ok (.iconst 0, 1) := by decide +kernel
theorem dX6_setWeight_39 : decode cX6_setWeight 39 = .ok (.goto 12, 3) := by decide +kernel
theorem dX6_setWeight_42 : decode cX6_setWeight 42 = .ok (.aload_n 0, 1) := by decide +kernel
theorem dX6_setWeight_43 : decode cX6_setWeight 43 = .ok (.bipush 13, 2) := by decide +kernel
theorem dX6_setWeight_45 : decode cX6_setWeight 45 = .ok (.iload_n 1, 1) := by decide +kernel
theorem dX6_setWeight_46 : decode cX6_setWeight 46 = .ok (.iadd, 1) := by decide +kernel
theorem dX6_setWeight_47 : decode cX6_setWeight 47 = .ok (.iload_n 2, 1) := by decide +kernel
theorem dX6_setWeight_48 : decode cX6_setWeight 48 = .ok (.invokevirtual 35, 3) := by decide +kernel
theorem dX6_setWeight_51 : decode cX6_setWeight 51 = .ok (.ireturn, 1) := by decide +kernel
set_option maxRecDepth 20000 in
theorem ggX6_setDraining_X6_isServer : GoodIn wsX6_setDraining wsX6_isServer := goodIn_r _ [6, 7, 8, 9, 5, 10, 15, 16, 17, 18, 19, 20] (by decide +kernel) (by decide +kernel)
set_option maxRecDepth 20000 in
theorem gX6_setDraining_X6_isServer : GoodIn wsX6_setDraining (wsV RX6 31 RX6 yX6_isServer wsX6_isServer) := goodIn_app (goodIn_of _ (by decide +kernel)) ggX6_setDraining_X6_isServer
set_option maxRecDepth 20000 in
theorem ggX6_setDraining_X6_put : GoodIn wsX6_setDraining wsX6_put := goodIn_r _ [14, 7, 15, 16, 17, 18, 19, 20] (by decide +kernel) (by decide +kernel)
set_option maxRecDepth 20000 in
theorem gX6_setDraining_X6_put : GoodIn wsX6_setDraining (wsV RX6 35 RX6 yX6_put wsX6_put) := goodIn_app (goodIn_of _ (by decide +kernel)) ggX6_setDraining_X6_put
theorem dX6_setDraining_0 : decode cX6_setDraining 0 = .ok (.aload_n 0, 1) := by decide +kernel
theorem dX6_setDraining_1 : decode cX6_setDraining 1 = .ok (.aload_n 0, 1) := by decide +kernel
theorem dX6_setDraining_2 : decode cX6_setDraining 2 = .ok (.iload_n 1, 1) := by decide +kernel
theorem dX6_setDraining_3 : decode cX6_setDraining 3 = .ok (.invokevirtual 31, 3) := by decide +kernel
theorem dX6_setDraining_6 : decode cX6_setDraining 6 = .ok (.ifCond .eq 7, 3) := by decide +kernel
theorem dX6_setDraining_9 : decode cX6_setDraining 9 = .ok (.iconst 0, 1) := by decide +kernel
theorem dX6_setDraining_10 : decode cX6_setDraining 10 = .ok (.goto 4, 3) := by decide +kernel
theorem dX6_setDraining_13 : decode cX6_setDraining 13 = .ok (.iconst 1, 1) := by decide +kernel
theorem dX6_setDraining_14 : decode cX6_setDraining 14 = .ok (.putfield 23, 3) := by decide +kernel
theorem dX6_setDraining_17 : decode cX6_setDraining 17 = .ok (.aload_n 0, 1) := by decide +kernel
theorem dX6_setDraining_18 : decode cX6_setDraining 18 = .ok (.getfield 23, 3) := by decide +kernel
theorem dX6_setDraining_21 : decode cX6_setDraining 21 = .ok (.ifCond .ne 28, 3) := by decide +kernel
theorem dX6_setDraining_24 : decode cX6_setDraining 24 = .ok (.aload_n 0, 1) := by decide +kernel
theorem dX6_setDraining_25 : decode cX6_setDraining 25 = .ok (.bipush 53, 2) := by decide +kernel
theorem dX6_setDraining_27 : decode cX6_setDraining 27 = .ok (.iload_n 1, 1) := by decide +kernel
theorem dX6_setDraining_28 : decode cX6_setDraining 28 = .ok (.iadd, 1) := by decide +kernel
theorem dX6_setDraining_29 : decode cX6_setDraining 29 = .ok (.iload_n 2, 1) := by decide +kernel
theorem dX6_setDraining_30 : decode cX6_setDraining 30 = .ok (.ifCond .eq 7, 3) := by decide +kernel
theorem dX6_setDraining_33 : decode cX6_setDraining 33 = .ok (.iconst 1, 1) := by decide +kernel
theorem dX6_setDraining_34 : decode cX6_setDraining 34 = .ok (.goto 4, 3) := by decide +kernel
theorem dX6_setDraining_37 : decode cX6_setDraining 37 = .ok (.iconst 0, 1) := by decide +kernel
theorem dX6_setDraining_38 : decode cX6_setDraining 38 = .ok (.invokevirtual 35, 3) := by decide +kernel
theorem dX6_setDraining_41 : decode cX6_setDraining 41 = .ok (.iconst 1, 1) := by decide +kernel
theorem dX6_setDraining_42 : decode cX6_setDraining 42 = .ok (.if_icmp .ne 7, 3) := by decide +kernel
theorem dX6_setDraining_45 : decode cX6_setDraining 45 = .ok (.iconst 1, 1) := by decide +kernel
theorem dX6_setDraining_46 : decode cX6_setDraining 46 = .ok (.goto 4, 3) := by decide +kernel
theorem dX6_setDraining_49 : decode cX6_setDraining 49 = .ok (.iconst 0, 1) := by decide +kernel
theorem dX6_setDraining_50 : decode cX6_setDraining 50 = .ok (.ireturn, 1) := by decide +kernel
set_option maxRecDepth 20000 in
theorem ggX6_report_X6_isServer : GoodIn wsX6_report wsX6_isServer := goodIn_r _ [7, 2, 8, 9, 6, 10, 11, 12, 13, 14, 15, 16] (by decide +kernel) (by decide +kernel)
set_option maxRecDepth 20000 in
theorem gX6_report_X6_isServer : GoodIn wsX6_report (wsV RX6 31 RX6 yX6_isServer wsX6_isServer) := goodIn_app (goodIn_of _ (by decide +kernel)) ggX6_report_X6_isServer
theorem dX6_report_0 : decode cX6_report 0 = .ok (.aload_n 0, 1) := by decide +kernel
theorem dX6_report_1 : decode cX6_report 1 = .ok (.aload_n 0, 1) := by decide +kernel
theorem dX6_report_2 : decode cX6_report 2 = .ok (.iload_n 1, 1) := by decide +kernel
theorem dX6_report_3 : decode cX6_report 3 = .ok (.invokevirtual 31, 3) := by decide +kernel
theorem dX6_report_6 : decode cX6_report 6 = .ok (.ifCond .eq 7, 3) := by decide +kernel
theorem dX6_report_9 : decode cX6_report 9 = .ok (.iconst 0, 1) := by decide +kernel
theorem dX6_report_10 : decode cX6_report 10 = .ok (.goto 4, 3) := by decide +kernel
theorem dX6_report_13 : decode cX6_report 13 = .ok (.iconst 1, 1) := by decide +kernel
theorem dX6_report_14 : decode cX6_report 14 = .ok (.putfield 23, 3) := by decide +kernel
theorem dX6_report_17 : decode cX6_report 17 = .ok (.aload_n 0, 1) := by decide +kernel
theorem dX6_report_18 : decode cX6_report 18 = .ok (.getfield 23, 3) := by decide +kernel
theorem dX6_report_21 : decode cX6_report 21 = .ok (.ifCond .eq 5, 3) := by decide +kernel
theorem dX6_report_24 : decode cX6_report 24 = .ok (.iconst 0, 1) := by decide +kernel
theorem dX6_report_25 : decode cX6_report 25 = .ok (.ireturn, 1) := by decide +kernel
theorem dX6_report_26 : decode cX6_report 26 = .ok (.aload_n 0, 1) := by decide +kernel
theorem dX6_report_27 : decode cX6_report 27 = .ok (.getfield 7, 3) := by decide +kernel
theorem dX6_report_30 : decode cX6_report 30 = .ok (.bipush 43, 2) := by decide +kernel
theorem dX6_report_32 : decode cX6_report 32 = .ok (.iload_n 1, 1) := by decide +kernel
theorem dX6_report_33 : decode cX6_report 33 = .ok (.iadd, 1) := by decide +kernel
theorem dX6_report_34 : decode cX6_report 34 = .ok (.iaload, 1) := by decide +kernel
theorem dX6_report_35 : decode cX6_report 35 = .ok (.ifCond .ne 7, 3) := by decide +kernel
theorem dX6_report_38 : decode cX6_report 38 = .ok (.iconst 1, 1) := by decide +kernel
theorem dX6_report_39 : decode cX6_report 39 = .ok (.goto 4, 3) := by decide +kernel
theorem dX6_report_42 : decode cX6_report 42 = .ok (.iconst 0, 1) := by decide +kernel
theorem dX6_report_43 : decode cX6_report 43 = .ok (.istore_n 3, 1) := by decide +kernel
theorem dX6_report_44 : decode cX6_report 44 = .ok (.aload_n 0, 1) := by decide +kernel
theorem dX6_report_45 : decode cX6_report 45 = .ok (.getfield 7, 3) := by decide +kernel
theorem dX6_report_48 : decode cX6_report 48 = .ok (.bipush 63, 2) := by decide +kernel
theorem dX6_report_50 : decode cX6_report 50 = .ok (.iload_n 1, 1) := by decide +kernel
theorem dX6_report_51 : decode cX6_report 51 = .ok (.iadd, 1) := by decide +kernel
theorem dX6_report_52 : decode cX6_report 52 = .ok (.iload_n 2, 1) := by decide +kernel
theorem dX6_report_53 : decode cX6_report 53 = .ok (.iload_n 3, 1) := by decide +kernel
theorem dX6_report_54 : decode cX6_report 54 = .ok (.if_icmp .ne 7, 3) := by decide +kernel
theorem dX6_report_57 : decode cX6_report 57 = .ok (.iconst 0, 1) := by decide +kernel
theorem dX6_report_58 : decode cX6_report 58 = .ok (.goto 14, 3) := by decide +kernel
theorem dX6_report_61 : decode cX6_report 61 = .ok (.aload_n 0, 1) := by decide +kernel
theorem dX6_report_62 : decode cX6_report 62 = .ok (.getfield 7, 3) := by decide +kernel
theorem dX6_report_65 : decode cX6_report 65 = .ok (.bipush 63, 2) := by decide +kernel
theorem dX6_report_67 : decode cX6_report 67 = .ok (.iload_n 1, 1) := by decide +kernel
theorem dX6_report_68 : decode cX6_report 68 = .ok (.iadd, 1) := by decide +kernel
theorem dX6_report_69 : decode cX6_report 69 = .ok (.iaload, 1) := by decide +kernel
theorem dX6_report_70 : decode cX6_report 70 = .ok (.iconst 1, 1) := by decide +kernel
theorem dX6_report_71 : decode cX6_report 71 = .ok (.iadd, 1) := by decide +kernel
theorem dX6_report_72 : decode cX6_report 72 = .ok (.iastore, 1) := by decide +kernel
theorem dX6_report_73 : decode cX6_report 73 = .ok (.iload_n 2, 1) := by decide +kernel
theorem dX6_report_74 : decode cX6_report 74 = .ok (.iload_n 3, 1) := by decide +kernel
theorem dX6_report_75 : decode cX6_report 75 = .ok (.if_icmp .eq 93, 3) := by decide +kernel
theorem dX6_report_78 : decode cX6_report 78 = .ok (.aload_n 0, 1) := by decide +kernel
theorem dX6_report_79 : decode cX6_report 79 = .ok (.getfield 7, 3) := by decide +kernel
theorem dX6_report_82 : decode cX6_report 82 = .ok (.bipush 63, 2) := by decide +kernel
theorem dX6_report_84 : decode cX6_report 84 = .ok (.iload_n 1, 1) := by decide +kernel
theorem dX6_report_85 : decode cX6_report 85 = .ok (.iadd, 1) := by decide +kernel
theorem dX6_report_86 : decode cX6_report 86 = .ok (.iaload, 1) := by decide +kernel
theorem dX6_report_87 : decode cX6_report 87 = .ok (.iload_n 3, 1) := by decide +kernel
theorem dX6_report_88 : decode cX6_report 88 = .ok (.ifCond .eq 12, 3) := by decide +kernel
theorem dX6_report_91 : decode cX6_report 91 = .ok (.aload_n 0, 1) := by decide +kernel
theorem dX6_report_92 : decode cX6_report 92 = .ok (.getfield 7, 3) := by decide +kernel
theorem dX6_report_95 : decode cX6_report 95 = .ok (.iconst 3, 1) := by decide +kernel
theorem dX6_report_96 : decode cX6_report 96 = .ok (.iaload, 1) := by decide +kernel
theorem dX6_report_97 : decode cX6_report 97 = .ok (.goto 9, 3) := by decide +kernel
theorem dX6_report_100 : decode cX6_report 100 = .ok (.aload_n 0, 1) := by decide +kernel
theorem dX6_report_101 : decode cX6_report 101 = .ok (.getfield 7, 3) := by decide +kernel
theorem dX6_report_104 : decode cX6_report 104 = .ok (.iconst 2, 1) := by decide +kernel
theorem dX6_report_105 : decode cX6_report 105 = .ok (.iaload, 1) := by decide +kernel
theorem dX6_report_106 : decode cX6_report 106 = .ok (.if_icmp .lt 62, 3) := by decide +kernel
theorem dX6_report_109 : decode cX6_report 109 = .ok (.aload_n 0, 1) := by decide +kernel
theorem dX6_report_110 : decode cX6_report 110 = .ok (.getfield 7, 3) := by decide +kernel
theorem dX6_report_113 : decode cX6_report 113 = .ok (.bipush 63, 2) := by decide +kernel
theorem dX6_report_115 : decode cX6_report 115 = .ok (.iload_n 1, 1) := by decide +kernel
theorem dX6_report_116 : decode cX6_report 116 = .ok (.iadd, 1) := by decide +kernel
theorem dX6_report_117 : decode cX6_report 117 = .ok (.iconst 0, 1) := by decide +kernel
theorem dX6_report_118 : decode cX6_report 118 = .ok (.iastore, 1) := by decide +kernel
theorem dX6_report_119 : decode cX6_report 119 = .ok (.aload_n 0, 1) := by decide +kernel
theorem dX6_report_120 : decode cX6_report 120 = .ok (.getfield 7, 3) := by decide +kernel
theorem dX6_report_123 : decode cX6_report 123 = .ok (.bipush 43, 2) := by decide +kernel
theorem dX6_report_125 : decode cX6_report 125 = .ok (.iload_n 1, 1) := by decide +kernel
theorem dX6_report_126 : decode cX6_report 126 = .ok (.iadd, 1) := by decide +kernel
theorem dX6_report_127 : decode cX6_report 127 = .ok (.iload_n 3, 1) := by decide +kernel
theorem dX6_report_128 : decode cX6_report 128 = .ok (.ifCond .eq 7, 3) := by decide +kernel
theorem dX6_report_131 : decode cX6_report 131 = .ok (.iconst 1, 1) := by decide +kernel
theorem dX6_report_132 : decode cX6_report 132 = .ok (.goto 4, 3) := by decide +kernel
theorem dX6_report_135 : decode cX6_report 135 = .ok (.iconst 0, 1) := by decide +kernel
theorem dX6_report_136 : decode cX6_report 136 = .ok (.iastore, 1) := by decide +kernel
theorem dX6_report_137 : decode cX6_report 137 = .ok (.aload_n 0, 1) := by decide +kernel
theorem dX6_report_138 : decode cX6_report 138 = .ok (.getfield 7, 3) := by decide +kernel
theorem dX6_report_141 : decode cX6_report 141 = .ok (.bipush 73, 2) := by decide +kernel
theorem dX6_report_143 : decode cX6_report 143 = .ok (.iload_n 1, 1) := by decide +kernel
theorem dX6_report_144 : decode cX6_report 144 = .ok (.iadd, 1) := by decide +kernel
theorem dX6_report_145 : decode cX6_report 145 = .ok (.iload_n 3, 1) := by decide +kernel
theorem dX6_report_146 : decode cX6_report 146 = .ok (.ifCond .eq 15, 3) := by decide +kernel
theorem dX6_report_149 : decode cX6_report 149 = .ok (.aload_n 0, 1) := by decide +kernel
theorem dX6_report_150 : decode cX6_report 150 = .ok (.getfield 7, 3) := by decide +kernel
theorem dX6_report_153 : decode cX6_report 153 = .ok (.bipush 73, 2) := by decide +kernel
theorem dX6_report_155 : decode cX6_report 155 = .ok (.iload_n 1, 1) := by decide +kernel
theorem dX6_report_156 : decode cX6_report 156 = .ok (.iadd, 1) := by decide +kernel
theorem dX6_report_157 : decode cX6_report 157 = .ok (.iaload, 1) := by decide +kernel
theorem dX6_report_158 : decode cX6_report 158 = .ok (.goto 9, 3) := by decide +kernel
theorem dX6_report_161 : decode cX6_report 161 = .ok (.aload_n 0, 1) := by decide +kernel
theorem dX6_report_162 : decode cX6_report 162 = .ok (.getfield 7, 3) := by decide +kernel
theorem dX6_report_165 : decode cX6_report 165 = .ok (.iconst 1, 1) := by decide +kernel
theorem dX6_report_166 : decode cX6_report 166 = .ok (.iaload, 1) := by decide +kernel
theorem dX6_report_167 : decode cX6_report 167 = .ok (.iastore, 1) := by decide +kernel
theorem dX6_report_168 : decode cX6_report 168 = .ok (.aload_n 0, 1) := by decide +kernel
theorem dX6_report_169 : decode cX6_report 169 = .ok (.getfield 7, 3) := by decide +kernel
theorem dX6_report_172 : decode cX6_report 172 = .ok (.bipush 43, 2) := by decide +kernel
theorem dX6_report_174 : decode cX6_report 174 = .ok (.iload_n 1, 1) := by decide +kernel
theorem dX6_report_175 : decode cX6_report 175 = .ok (.iadd, 1) := by decide +kernel
theorem dX6_report_176 : decode cX6_report 176 = .ok (.iaload, 1) := by decide +kernel
theorem dX6_report_177 : decode cX6_report 177 = .ok (.ifCond .ne 7, 3) := by decide +kernel
theorem dX6_report_180 : decode cX6_report 180 = .ok (.iconst 1, 1) := by decide +kernel
theorem dX6_report_181 : decode cX6_report 181 = .ok (.goto 4, 3) := by decide +kernel
theorem dX6_report_184 : decode cX6_report 184 = .ok (.iconst 0, 1) := by decide +kernel
theorem dX6_report_185 : decode cX6_report 185 = .ok (.ireturn, 1) := by decide +kernel
theorem dX6_servers_0 : decode cX6_servers 0 = .ok (.aload_n 0, 1) := by decide +kernel
theorem dX6_servers_1 : decode cX6_servers 1 = .ok (.iconst 0, 1) := by decide +kernel
theorem dX6_servers_2 : decode cX6_servers 2 = .ok (.putfield 23, 3) := by decide +kernel
theorem dX6_servers_5 : decode cX6_servers 5 = .ok (.aload_n 0, 1) := by decide +kernel
theorem dX6_servers_6 : decode cX6_servers 6 = .ok (.getfield 7, 3) := by decide +kernel
theorem dX6_servers_9 : decode cX6_servers 9 = .ok (.iconst 0, 1) := by decide +kernel
theorem dX6_servers_10 : decode cX6_servers 10 = .ok (.iaload, 1) := by decide +kernel
theorem dX6_servers_11 : decode cX6_servers 11 = .ok (.ireturn, 1) := by decide +kernel
set_option maxRecDepth 20000 in
theorem ggX6_setThresholds_X6_in : GoodIn wsX6_setThresholds wsX6_in := goodIn_r _ [6] (by decide +kernel) (by decide +kernel)
set_option maxRecDepth 20000 in
theorem gX6_setThresholds_X6_in : GoodIn wsX6_setThresholds (va_wsS RX6 27 yX6_in wsX6_in) := goodIn_app (goodIn_of _ (by decide +kernel)) ggX6_setThresholds_X6_in
theorem dX6_setThresholds_0 : decode cX6_setThresholds 0 = .ok (.aload_n 0, 1) := by decide +kernel
theorem dX6_setThresholds_1 : decode cX6_setThresholds 1 = .ok (.iload_n 1, 1) := by decide +kernel
theorem dX6_setThresholds_2 : decode cX6_setThresholds 2 = .ok (.iconst 1, 1) := by decide +kernel
theorem dX6_setThresholds_3 : decode cX6_setThresholds 3 = .ok (.bipush 9, 2) := by decide +kernel
theorem dX6_setThresholds_5 : decode cX6_setThresholds 5 = .ok (.invokestatic 27, 3) := by decide +kernel
theorem dX6_setThresholds_8 : decode cX6_setThresholds 8 = .ok (.ifCond .eq 17, 3) := by decide +kernel
theorem dX6_setThresholds_11 : decode cX6_setThresholds 11 = .ok (.iload_n 2, 1) := by decide +kernel
theorem dX6_setThresholds_12 : decode cX6_setThresholds 12 = .ok (.iconst 1, 1) := by decide +kernel
theorem dX6_setThresholds_13 : decode cX6_setThresholds 13 = .ok (.bipush 9, 2) := by decide +kernel
theorem dX6_setThresholds_15 : decode cX6_setThresholds 15 = .ok (.invokestatic 27, 3) := by decide +kernel
theorem dX6_setThresholds_18 : decode cX6_setThresholds 18 = .ok (.ifCond .eq 7, 3) := by decide +kernel
theorem dX6_setThresholds_21 : decode cX6_setThresholds 21 = .ok (.iconst 0, 1) := by decide +kernel
theorem dX6_setThresholds_22 : decode cX6_setThresholds 22 = .ok (.goto 4, 3) := by decide +kernel
theorem dX6_setThresholds_25 : decode cX6_setThresholds 25 = .ok (.iconst 1, 1) := by decide +kernel
theorem dX6_setThresholds_26 : decode cX6_setThresholds 26 = .ok (.putfield 23, 3) := by decide +kernel
theorem dX6_setThresholds_29 : decode cX6_setThresholds 29 = .ok (.aload_n 0, 1) := by decide +kernel
theorem dX6_setThresholds_30 : decode cX6_setThresholds 30 = .ok (.getfield 23, 3) := by decide +kernel
theorem dX6_setThresholds_33 : decode cX6_setThresholds 33 = .ok (.ifCond .ne 17, 3) := by decide +kernel
theorem dX6_setThresholds_36 : decode cX6_setThresholds 36 = .ok (.aload_n 0, 1) := by decide +kernel
theorem dX6_setThresholds_37 : decode cX6_setThresholds 37 = .ok (.getfield 7, 3) := by decide +kernel
theorem dX6_setThresholds_40 : decode cX6_setThresholds 40 = .ok (.iconst 2, 1) := by decide +kernel
theorem dX6_setThresholds_41 : decode cX6_setThresholds 41 = .ok (.iload_n 1, 1) := by decide +kernel
theorem dX6_setThresholds_42 : decode cX6_setThresholds 42 = .ok (.iastore, 1) := by decide +kernel
theorem dX6_setThresholds_43 : decode cX6_setThresholds 43 = .ok (.aload_n 0, 1) := by decide +kernel
theorem dX6_setThresholds_44 : decode cX6_setThresholds 44 = .ok (.getfield 7, 3) := by decide +kernel
theorem dX6_setThresholds_47 : decode cX6_setThresholds 47 = .ok (.iconst 3, 1) := by decide +kernel
theorem dX6_setThresholds_48 : decode cX6_setThresholds 48 = .ok (.iload_n 2, 1) := by decide +kernel
theorem dX6_setThresholds_49 : decode cX6_setThresholds 49 = .ok (.iastore, 1) := by decide +kernel
theorem dX6_setThresholds_50 : decode cX6_setThresholds 50 = .ok (.return_, 1) := by decide +kernel
set_option maxRecDepth 20000 in
theorem ggX6_setSlowStart_X6_in : GoodIn wsX6_setSlowStart wsX6_in := goodIn_r _ [5] (by decide +kernel) (by decide +kernel)
set_option maxRecDepth 20000 in
theorem gX6_setSlowStart_X6_in : GoodIn wsX6_setSlowStart (va_wsS RX6 27 yX6_in wsX6_in) := goodIn_app (goodIn_of _ (by decide +kernel)) ggX6_setSlowStart_X6_in
set_option maxRecDepth 20000 in
theorem ggX6_setSlowStart_X6_put : GoodIn wsX6_setSlowStart wsX6_put := goodIn_r _ [9, 10, 11, 12, 13, 14, 15, 16] (by decide +kernel) (by decide +kernel)
set_option maxRecDepth 20000 in
theorem gX6_setSlowStart_X6_put : GoodIn wsX6_setSlowStart (wsV RX6 35 RX6 yX6_put wsX6_put) := goodIn_app (goodIn_of _ (by decide +kernel)) ggX6_setSlowStart_X6_put
theorem dX6_setSlowStart_0 : decode cX6_setSlowStart 0 = .ok (.aload_n 0, 1) := by decide +kernel
theorem dX6_setSlowStart_1 : decode cX6_setSlowStart 1 = .ok (.iload_n 1, 1) := by decide +kernel
theorem dX6_setSlowStart_2 : decode cX6_setSlowStart 2 = .ok (.iconst 0, 1) := by decide +kernel
theorem dX6_setSlowStart_3 : decode cX6_setSlowStart 3 = .ok (.bipush 50, 2) := by decide +kernel
theorem dX6_setSlowStart_5 : decode cX6_setSlowStart 5 = .ok (.invokestatic 27, 3) := by decide +kernel
theorem dX6_setSlowStart_8 : decode cX6_setSlowStart 8 = .ok (.ifCond .eq 7, 3) := by decide +kernel
theorem dX6_setSlowStart_11 : decode cX6_setSlowStart 11 = .ok (.iconst 0, 1) := by decide +kernel
theorem dX6_setSlowStart_12 : decode cX6_setSlowStart 12 = .ok (.goto 4, 3) := by decide +kernel
theorem dX6_setSlowStart_15 : decode cX6_setSlowStart 15 = .ok (.iconst 1, 1) := by decide +kernel
theorem dX6_setSlowStart_16 : decode cX6_setSlowStart 16 = .ok (.putfield 23, 3) := by decide +kernel
theorem dX6_setSlowStart_19 : decode cX6_setSlowStart 19 = .ok (.aload_n 0, 1) := by decide +kernel
theorem dX6_setSlowStart_20 : decode cX6_setSlowStart 20 = .ok (.getfield 23, 3) := by decide +kernel
theorem dX6_setSlowStart_23 : decode cX6_setSlowStart 23 = .ok (.ifCond .eq 7, 3) := by decide +kernel
theorem dX6_setSlowStart_26 : decode cX6_setSlowStart 26 = .ok (.iconst 0, 1) := by decide +kernel
theorem dX6_setSlowStart_27 : decode cX6_setSlowStart 27 = .ok (.goto 9, 3) := by decide +kernel
theorem dX6_setSlowStart_30 : decode cX6_setSlowStart 30 = .ok (.aload_n 0, 1) := by decide +kernel
theorem dX6_setSlowStart_31 : decode cX6_setSlowStart 31 = .ok (.iconst 4, 1) := by decide +kernel
theorem dX6_setSlowStart_32 : decode cX6_setSlowStart 32 = .ok (.iload_n 1, 1) := by decide +kernel
theorem dX6_setSlowStart_33 : decode cX6_setSlowStart 33 = .ok (.invokevirtual 35, 3) := by decide +kernel
theorem dX6_setSlowStart_36 : decode cX6_setSlowStart 36 = .ok (.ireturn, 1) := by decide +kernel
set_option maxRecDepth 20000 in
theorem ggX6_setCool_X6_in : GoodIn wsX6_setCool wsX6_in := goodIn_r _ [5] (by decide +kernel) (by decide +kernel)
set_option maxRecDepth 20000 in
theorem gX6_setCool_X6_in : GoodIn wsX6_setCool (va_wsS RX6 27 yX6_in wsX6_in) := goodIn_app (goodIn_of _ (by decide +kernel)) ggX6_setCool_X6_in
set_option maxRecDepth 20000 in
theorem ggX6_setCool_X6_put : GoodIn wsX6_setCool wsX6_put := goodIn_r _ [9, 10, 11, 12, 13, 14, 15, 16] (by decide +kernel) (by decide +kernel)
set_option maxRecDepth 20000 in
theorem gX6_setCool_X6_put : GoodIn wsX6_setCool (wsV RX6 35 RX6 yX6_put wsX6_put) := goodIn_app (goodIn_of _ (by decide +kernel)) ggX6_setCool_X6_put
theorem dX6_setCool_0 : decode cX6_setCool 0 = .ok (.aload_n 0, 1) := by decide +kernel
theorem dX6_setCool_1 : decode cX6_setCool 1 = .ok (.iload_n 1, 1) := by decide +kernel
theorem dX6_setCool_2 : decode cX6_setCool 2 = .ok (.iconst 1, 1) := by decide +kernel
theorem dX6_setCool_3 : decode cX6_setCool 3 = .ok (.bipush 50, 2) := by decide +kernel
theorem dX6_setCool_5 : decode cX6_setCool 5 = .ok (.invokestatic 27, 3) := by decide +kernel
theorem dX6_setCool_8 : decode cX6_setCool 8 = .ok (.ifCond .eq 7, 3) := by decide +kernel
theorem dX6_setCool_11 : decode cX6_setCool 11 = .ok (.iconst 0, 1) := by decide +kernel
theorem dX6_setCool_12 : decode cX6_setCool 12 = .ok (.goto 4, 3) := by decide +kernel
theorem dX6_setCool_15 : decode cX6_setCool 15 = .ok (.iconst 1, 1) := by decide +kernel
theorem dX6_setCool_16 : decode cX6_setCool 16 = .ok (.putfield 23, 3) := by decide +kernel
theorem dX6_setCool_19 : decode cX6_setCool 19 = .ok (.aload_n 0, 1) := by decide +kernel
theorem dX6_setCool_20 : decode cX6_setCool 20 = .ok (.getfield 23, 3) := by decide +kernel
theorem dX6_setCool_23 : decode cX6_setCool 23 = .ok (.ifCond .eq 7, 3) := by decide +kernel
theorem dX6_setCool_26 : decode cX6_setCool 26 = .ok (.iconst 0, 1) := by decide +kernel
theorem dX6_setCool_27 : decode cX6_setCool 27 = .ok (.goto 9, 3) := by decide +kernel
theorem dX6_setCool_30 : decode cX6_setCool 30 = .ok (.aload_n 0, 1) := by decide +kernel
theorem dX6_setCool_31 : decode cX6_setCool 31 = .ok (.iconst 5, 1) := by decide +kernel
theorem dX6_setCool_32 : decode cX6_setCool 32 = .ok (.iload_n 1, 1) := by decide +kernel
theorem dX6_setCool_33 : decode cX6_setCool 33 = .ok (.invokevirtual 35, 3) := by decide +kernel
theorem dX6_setCool_36 : decode cX6_setCool 36 = .ok (.ireturn, 1) := by decide +kernel
set_option maxRecDepth 20000 in
theorem ggX6_setSticky_X6_in : GoodIn wsX6_setSticky wsX6_in := goodIn_r _ [6] (by decide +kernel) (by decide +kernel)
set_option maxRecDepth 20000 in
theorem gX6_setSticky_X6_in : GoodIn wsX6_setSticky (va_wsS RX6 27 yX6_in wsX6_in) := goodIn_app (goodIn_of _ (by decide +kernel)) ggX6_setSticky_X6_in
set_option maxRecDepth 20000 in
theorem ggX6_setSticky_X6_put : GoodIn wsX6_setSticky wsX6_put := goodIn_r _ [10, 2, 11, 12, 13, 14, 15, 16] (by decide +kernel) (by decide +kernel)
set_option maxRecDepth 20000 in
theorem gX6_setSticky_X6_put : GoodIn wsX6_setSticky (wsV RX6 35 RX6 yX6_put wsX6_put) := goodIn_app (goodIn_of _ (by decide +kernel)) ggX6_setSticky_X6_put
theorem dX6_setSticky_0 : decode cX6_setSticky 0 = .ok (.aload_n 0, 1) := by decide +kernel
theorem dX6_setSticky_1 : decode cX6_setSticky 1 = .ok (.iload_n 1, 1) := by decide +kernel
theorem dX6_setSticky_2 : decode cX6_setSticky 2 = .ok (.iconst 0, 1) := by decide +kernel
theorem dX6_setSticky_3 : decode cX6_setSticky 3 = .ok (.bipush 100, 2) := by decide +kernel
theorem dX6_setSticky_5 : decode cX6_setSticky 5 = .ok (.invokestatic 27, 3) := by decide +kernel
theorem dX6_setSticky_8 : decode cX6_setSticky 8 = .ok (.ifCond .eq 7, 3) := by decide +kernel
theorem dX6_setSticky_11 : decode cX6_setSticky 11 = .ok (.iconst 0, 1) := by decide +kernel
theorem dX6_setSticky_12 : decode cX6_setSticky 12 = .ok (.goto 4, 3) := by decide +kernel
theorem dX6_setSticky_15 : decode cX6_setSticky 15 = .ok (.iconst 1, 1) := by decide +kernel
theorem dX6_setSticky_16 : decode cX6_setSticky 16 = .ok (.putfield 23, 3) := by decide +kernel
theorem dX6_setSticky_19 : decode cX6_setSticky 19 = .ok (.aload_n 0, 1) := by decide +kernel
theorem dX6_setSticky_20 : decode cX6_setSticky 20 = .ok (.getfield 23, 3) := by decide +kernel
theorem dX6_setSticky_23 : decode cX6_setSticky 23 = .ok (.ifCond .eq 5, 3) := by decide +kernel
theorem dX6_setSticky_26 : decode cX6_setSticky 26 = .ok (.iconst 0, 1) := by decide +kernel
theorem dX6_setSticky_27 : decode cX6_setSticky 27 = .ok (.ireturn, 1) := by decide +kernel
theorem dX6_setSticky_28 : decode cX6_setSticky 28 = .ok (.aload_n 0, 1) := by decide +kernel
theorem dX6_setSticky_29 : decode cX6_setSticky 29 = .ok (.getfield 7, 3) := by decide +kernel
theorem dX6_setSticky_32 : decode cX6_setSticky 32 = .ok (.bipush 12, 2) := by decide +kernel
theorem dX6_setSticky_34 : decode cX6_setSticky 34 = .ok (.iload_n 1, 1) := by decide +kernel
theorem dX6_setSticky_35 : decode cX6_setSticky 35 = .ok (.ifCond .ne 7, 3) := by decide +kernel
theorem dX6_setSticky_38 : decode cX6_setSticky 38 = .ok (.iconst 0, 1) := by decide +kernel
theorem dX6_setSticky_39 : decode cX6_setSticky 39 = .ok (.goto 10, 3) := by decide +kernel
theorem dX6_setSticky_42 : decode cX6_setSticky 42 = .ok (.aload_n 0, 1) := by decide +kernel
theorem dX6_setSticky_43 : decode cX6_setSticky 43 = .ok (.getfield 7, 3) := by decide +kernel
theorem dX6_setSticky_46 : decode cX6_setSticky 46 = .ok (.bipush 12, 2) := by decide +kernel
theorem dX6_setSticky_48 : decode cX6_setSticky 48 = .ok (.iaload, 1) := by decide +kernel
theorem dX6_setSticky_49 : decode cX6_setSticky 49 = .ok (.iastore, 1) := by decide +kernel
theorem dX6_setSticky_50 : decode cX6_setSticky 50 = .ok (.aload_n 0, 1) := by decide +kernel
theorem dX6_setSticky_51 : decode cX6_setSticky 51 = .ok (.bipush 6, 2) := by decide +kernel
theorem dX6_setSticky_53 : decode cX6_setSticky 53 = .ok (.iload_n 1, 1) := by decide +kernel
theorem dX6_setSticky_54 : decode cX6_setSticky 54 = .ok (.invokevirtual 35, 3) := by decide +kernel
theorem dX6_setSticky_57 : decode cX6_setSticky 57 = .ok (.ireturn, 1) := by decide +kernel
set_option maxRecDepth 20000 in
theorem ggX6_setPolicy_X6_in : GoodIn wsX6_setPolicy wsX6_in := goodIn_r _ [6] (by decide +kernel) (by decide +kernel)
set_option maxRecDepth 20000 in
theorem gX6_setPolicy_X6_in : GoodIn wsX6_setPolicy (va_wsS RX6 27 yX6_in wsX6_in) := goodIn_app (goodIn_of _ (by decide +kernel)) ggX6_setPolicy_X6_in
set_option maxRecDepth 20000 in
theorem ggX6_setPolicy_X6_put : GoodIn wsX6_setPolicy wsX6_put := goodIn_r _ [10, 2, 11, 12, 13, 14, 15, 16] (by decide +kernel) (by decide +kernel)
set_option maxRecDepth 20000 in
theorem gX6_setPolicy_X6_put : GoodIn wsX6_setPolicy (wsV RX6 35 RX6 yX6_put wsX6_put) := goodIn_app (goodIn_of _ (by decide +kernel)) ggX6_setPolicy_X6_put
theorem dX6_setPolicy_0 : decode cX6_setPolicy 0 = .ok (.aload_n 0, 1) := by decide +kernel
theorem dX6_setPolicy_1 : decode cX6_setPolicy 1 = .ok (.iload_n 1, 1) := by decide +kernel
theorem dX6_setPolicy_2 : decode cX6_setPolicy 2 = .ok (.iconst 0, 1) := by decide +kernel
theorem dX6_setPolicy_3 : decode cX6_setPolicy 3 = .ok (.iconst 4, 1) := by decide +kernel
theorem dX6_setPolicy_4 : decode cX6_setPolicy 4 = .ok (.invokestatic 27, 3) := by decide +kernel
theorem dX6_setPolicy_7 : decode cX6_setPolicy 7 = .ok (.ifCond .eq 7, 3) := by decide +kernel
theorem dX6_setPolicy_10 : decode cX6_setPolicy 10 = .ok (.iconst 0, 1) := by decide +kernel
theorem dX6_setPolicy_11 : decode cX6_setPolicy 11 = .ok (.goto 4, 3) := by decide +kernel
theorem dX6_setPolicy_14 : decode cX6_setPolicy 14 = .ok (.iconst 1, 1) := by decide +kernel
theorem dX6_setPolicy_15 : decode cX6_setPolicy 15 = .ok (.putfield 23, 3) := by decide +kernel
theorem dX6_setPolicy_18 : decode cX6_setPolicy 18 = .ok (.aload_n 0, 1) := by decide +kernel
theorem dX6_setPolicy_19 : decode cX6_setPolicy 19 = .ok (.getfield 23, 3) := by decide +kernel
theorem dX6_setPolicy_22 : decode cX6_setPolicy 22 = .ok (.ifCond .eq 5, 3) := by decide +kernel
theorem dX6_setPolicy_25 : decode cX6_setPolicy 25 = .ok (.iconst 0, 1) := by decide +kernel
theorem dX6_setPolicy_26 : decode cX6_setPolicy 26 = .ok (.ireturn, 1) := by decide +kernel
theorem dX6_setPolicy_27 : decode cX6_setPolicy 27 = .ok (.iconst 0, 1) := by decide +kernel
theorem dX6_setPolicy_28 : decode cX6_setPolicy 28 = .ok (.istore_n 2, 1) := by decide +kernel
theorem dX6_setPolicy_29 : decode cX6_setPolicy 29 = .ok (.iload_n 2, 1) := by decide +kernel
theorem dX6_setPolicy_30 : decode cX6_setPolicy 30 = .ok (.bipush 10, 2) := by decide +kernel
theorem dX6_setPolicy_32 : decode cX6_setPolicy 32 = .ok (.if_icmp .ge 19, 3) := by decide +kernel
theorem dX6_setPolicy_35 : decode cX6_setPolicy 35 = .ok (.aload_n 0, 1) := by decide +kernel
theorem dX6_setPolicy_36 : decode cX6_setPolicy 36 = .ok (.getfield 7, 3) := by decide +kernel
theorem dX6_setPolicy_39 : decode cX6_setPolicy 39 = .ok (.bipush 113, 2) := by decide +kernel
theorem dX6_setPolicy_41 : decode cX6_setPolicy 41 = .ok (.iload_n 2, 1) := by decide +kernel
theorem dX6_setPolicy_42 : decode cX6_setPolicy 42 = .ok (.iadd, 1) := by decide +kernel
theorem dX6_setPolicy_43 : decode cX6_setPolicy 43 = .ok (.iconst 0, 1) := by decide +kernel
theorem dX6_setPolicy_44 : decode cX6_setPolicy 44 = .ok (.iastore, 1) := by decide +kernel
theorem dX6_setPolicy_45 : decode cX6_setPolicy 45 = .ok (.iinc 2 1, 3) := by decide +kernel
theorem dX6_setPolicy_48 : decode cX6_setPolicy 48 = .ok (.goto (-19), 3) := by decide +kernel
theorem dX6_setPolicy_51 : decode cX6_setPolicy 51 = .ok (.aload_n 0, 1) := by decide +kernel
theorem dX6_setPolicy_52 : decode cX6_setPolicy 52 = .ok (.getfield 7, 3) := by decide +kernel
theorem dX6_setPolicy_55 : decode cX6_setPolicy 55 = .ok (.bipush 9, 2) := by decide +kernel
theorem dX6_setPolicy_57 : decode cX6_setPolicy 57 = .ok (.iconst (-1), 1) := by decide +kernel
theorem dX6_setPolicy_58 : decode cX6_setPolicy 58 = .ok (.iastore, 1) := by decide +kernel
theorem dX6_setPolicy_59 : decode cX6_setPolicy 59 = .ok (.aload_n 0, 1) := by decide +kernel
theorem dX6_setPolicy_60 : decode cX6_setPolicy 60 = .ok (.bipush 7, 2) := by decide +kernel
theorem dX6_setPolicy_62 : decode cX6_setPolicy 62 = .ok (.iload_n 1, 1) := by decide +kernel
theorem dX6_setPolicy_63 : decode cX6_setPolicy 63 = .ok (.invokevirtual 35, 3) := by decide +kernel
theorem dX6_setPolicy_66 : decode cX6_setPolicy 66 = .ok (.ireturn, 1) := by decide +kernel
set_option maxRecDepth 20000 in
theorem ggX6_setSeed_X6_put : GoodIn wsX6_setSeed wsX6_put := goodIn_r _ [6, 7, 8, 9, 10, 11, 12, 13] (by decide +kernel) (by decide +kernel)
set_option maxRecDepth 20000 in
theorem gX6_setSeed_X6_put : GoodIn wsX6_setSeed (wsV RX6 35 RX6 yX6_put wsX6_put) := goodIn_app (goodIn_of _ (by decide +kernel)) ggX6_setSeed_X6_put
theorem dX6_setSeed_0 : decode cX6_setSeed 0 = .ok (.aload_n 0, 1) := by decide +kernel
theorem dX6_setSeed_1 : decode cX6_setSeed 1 = .ok (.iconst 0, 1) := by decide +kernel
theorem dX6_setSeed_2 : decode cX6_setSeed 2 = .ok (.putfield 23, 3) := by decide +kernel
theorem dX6_setSeed_5 : decode cX6_setSeed 5 = .ok (.aload_n 0, 1) := by decide +kernel
theorem dX6_setSeed_6 : decode cX6_setSeed 6 = .ok (.bipush 8, 2) := by decide +kernel
theorem dX6_setSeed_8 : decode cX6_setSeed 8 = .ok (.iload_n 1, 1) := by decide +kernel
theorem dX6_setSeed_9 : decode cX6_setSeed 9 = .ok (.invokevirtual 35, 3) := by decide +kernel
theorem dX6_setSeed_12 : decode cX6_setSeed 12 = .ok (.ireturn, 1) := by decide +kernel
set_option maxRecDepth 20000 in
theorem ggX6_tick_X6_in : GoodIn wsX6_tick wsX6_in := goodIn_r _ [6] (by decide +kernel) (by decide +kernel)
set_option maxRecDepth 20000 in
theorem gX6_tick_X6_in : GoodIn wsX6_tick (va_wsS RX6 27 yX6_in wsX6_in) := goodIn_app (goodIn_of _ (by decide +kernel)) ggX6_tick_X6_in
theorem dX6_tick_0 : decode cX6_tick 0 = .ok (.aload_n 0, 1) := by decide +kernel
theorem dX6_tick_1 : decode cX6_tick 1 = .ok (.iload_n 1, 1) := by decide +kernel
theorem dX6_tick_2 : decode cX6_tick 2 = .ok (.iconst 1, 1) := by decide +kernel
theorem dX6_tick_3 : decode cX6_tick 3 = .ok (.sipush 200, 3) := by decide +kernel
theorem dX6_tick_6 : decode cX6_tick 6 = .ok (.invokestatic 27, 3) := by decide +kernel
theorem dX6_tick_9 : decode cX6_tick 9 = .ok (.ifCond .eq 7, 3) := by decide +kernel
theorem dX6_tick_12 : decode cX6_tick 12 = .ok (.iconst 0, 1) := by decide +kernel
theorem dX6_tick_13 : decode cX6_tick 13 = .ok (.goto 4, 3) := by decide +kernel
theorem dX6_tick_16 : decode cX6_tick 16 = .ok (.iconst 1, 1) := by decide +kernel
theorem dX6_tick_17 : decode cX6_tick 17 = .ok (.putfield 23, 3) := by decide +kernel
theorem dX6_tick_20 : decode cX6_tick 20 = .ok (.aload_n 0, 1) := by decide +kernel
theorem dX6_tick_21 : decode cX6_tick 21 = .ok (.getfield 23, 3) := by decide +kernel
theorem dX6_tick_24 : decode cX6_tick 24 = .ok (.ifCond .eq 5, 3) := by decide +kernel
theorem dX6_tick_27 : decode cX6_tick 27 = .ok (.iconst 0, 1) := by decide +kernel
theorem dX6_tick_28 : decode cX6_tick 28 = .ok (.ireturn, 1) := by decide +kernel
theorem dX6_tick_29 : decode cX6_tick 29 = .ok (.iconst 0, 1) := by decide +kernel
theorem dX6_tick_30 : decode cX6_tick 30 = .ok (.istore_n 2, 1) := by decide +kernel
theorem dX6_tick_31 : decode cX6_tick 31 = .ok (.iload_n 2, 1) := by decide +kernel
theorem dX6_tick_32 : decode cX6_tick 32 = .ok (.iload_n 1, 1) := by decide +kernel
theorem dX6_tick_33 : decode cX6_tick 33 = .ok (.if_icmp .ge 95, 3) := by decide +kernel
theorem dX6_tick_36 : decode cX6_tick 36 = .ok (.aload_n 0, 1) := by decide +kernel
theorem dX6_tick_37 : decode cX6_tick 37 = .ok (.getfield 7, 3) := by decide +kernel
theorem dX6_tick_40 : decode cX6_tick 40 = .ok (.iconst 1, 1) := by decide +kernel
theorem dX6_tick_41 : decode cX6_tick 41 = .ok (.dup2, 1) := by decide +kernel
theorem dX6_tick_42 : decode cX6_tick 42 = .ok (.iaload, 1) := by decide +kernel
theorem dX6_tick_43 : decode cX6_tick 43 = .ok (.iconst 1, 1) := by decide +kernel
theorem dX6_tick_44 : decode cX6_tick 44 = .ok (.iadd, 1) := by decide +kernel
theorem dX6_tick_45 : decode cX6_tick 45 = .ok (.iastore, 1) := by decide +kernel
theorem dX6_tick_46 : decode cX6_tick 46 = .ok (.iconst 0, 1) := by decide +kernel
theorem dX6_tick_47 : decode cX6_tick 47 = .ok (.istore_n 3, 1) := by decide +kernel
theorem dX6_tick_48 : decode cX6_tick 48 = .ok (.iload_n 3, 1) := by decide +kernel
theorem dX6_tick_49 : decode cX6_tick 49 = .ok (.aload_n 0, 1) := by decide +kernel
theorem dX6_tick_50 : decode cX6_tick 50 = .ok (.getfield 7, 3) := by decide +kernel
theorem dX6_tick_53 : decode cX6_tick 53 = .ok (.iconst 0, 1) := by decide +kernel
theorem dX6_tick_54 : decode cX6_tick 54 = .ok (.iaload, 1) := by decide +kernel
theorem dX6_tick_55 : decode cX6_tick 55 = .ok (.if_icmp .ge 67, 3) := by decide +kernel
theorem dX6_tick_58 : decode cX6_tick 58 = .ok (.aload_n 0, 1) := by decide +kernel
theorem dX6_tick_59 : decode cX6_tick 59 = .ok (.getfield 7, 3) := by decide +kernel
theorem dX6_tick_62 : decode cX6_tick 62 = .ok (.bipush 83, 2) := by decide +kernel
theorem dX6_tick_64 : decode cX6_tick 64 = .ok (.iload_n 3, 1) := by decide +kernel
theorem dX6_tick_65 : decode cX6_tick 65 = .ok (.iadd, 1) := by decide +kernel
theorem dX6_tick_66 : decode cX6_tick 66 = .ok (.iaload, 1) := by decide +kernel
theorem dX6_tick_67 : decode cX6_tick 67 = .ok (.iconst 1, 1) := by decide +kernel
theorem dX6_tick_68 : decode cX6_tick 68 = .ok (.if_icmp .ne 48, 3) := by decide +kernel
theorem dX6_tick_71 : decode cX6_tick 71 = .ok (.aload_n 0, 1) := by decide +kernel
theorem dX6_tick_72 : decode cX6_tick 72 = .ok (.getfield 7, 3) := by decide +kernel
theorem dX6_tick_75 : decode cX6_tick 75 = .ok (.iconst 1, 1) := by decide +kernel
theorem dX6_tick_76 : decode cX6_tick 76 = .ok (.iaload, 1) := by decide +kernel
theorem dX6_tick_77 : decode cX6_tick 77 = .ok (.aload_n 0, 1) := by decide +kernel
theorem dX6_tick_78 : decode cX6_tick 78 = .ok (.getfield 7, 3) := by decide +kernel
theorem dX6_tick_81 : decode cX6_tick 81 = .ok (.bipush 93, 2) := by decide +kernel
theorem dX6_tick_83 : decode cX6_tick 83 = .ok (.iload_n 3, 1) := by decide +kernel
theorem dX6_tick_84 : decode cX6_tick 84 = .ok (.iadd, 1) := by decide +kernel
theorem dX6_tick_85 : decode cX6_tick 85 = .ok (.iaload, 1) := by decide +kernel
theorem dX6_tick_86 : decode cX6_tick 86 = .ok (.isub, 1) := by decide +kernel
theorem dX6_tick_87 : decode cX6_tick 87 = .ok (.aload_n 0, 1) := by decide +kernel
theorem dX6_tick_88 : decode cX6_tick 88 = .ok (.getfield 7, 3) := by decide +kernel
theorem dX6_tick_91 : decode cX6_tick 91 = .ok (.iconst 5, 1) := by decide +kernel
theorem dX6_tick_92 : decode cX6_tick 92 = .ok (.iaload, 1) := by decide +kernel
theorem dX6_tick_93 : decode cX6_tick 93 = .ok (.if_icmp .lt 23, 3) := by decide +kernel
theorem dX6_tick_96 : decode cX6_tick 96 = .ok (.aload_n 0, 1) := by decide +kernel
theorem dX6_tick_97 : decode cX6_tick 97 = .ok (.getfield 7, 3) := by decide +kernel
theorem dX6_tick_100 : decode cX6_tick 100 = .ok (.bipush 83, 2) := by decide +kernel
theorem dX6_tick_102 : decode cX6_tick 102 = .ok (.iload_n 3, 1) := by decide +kernel
theorem dX6_tick_103 : decode cX6_tick 103 = .ok (.iadd, 1) := by decide +kernel
theorem dX6_tick_104 : decode cX6_tick 104 = .ok (.iconst 2, 1) := by decide +kernel
theorem dX6_tick_105 : decode cX6_tick 105 = .ok (.iastore, 1) := by decide +kernel
theorem dX6_tick_106 : decode cX6_tick 106 = .ok (.aload_n 0, 1) := by decide +kernel
theorem dX6_tick_107 : decode cX6_tick 107 = .ok (.getfield 7, 3) := by decide +kernel
theorem dX6_tick_110 : decode cX6_tick 110 = .ok (.bipush 103, 2) := by decide +kernel
theorem dX6_tick_112 : decode cX6_tick 112 = .ok (.iload_n 3, 1) := by decide +kernel
theorem dX6_tick_113 : decode cX6_tick 113 = .ok (.iadd, 1) := by decide +kernel
theorem dX6_tick_114 : decode cX6_tick 114 = .ok (.iconst (-1), 1) := by decide +kernel
theorem dX6_tick_115 : decode cX6_tick 115 = .ok (.iastore, 1) := by decide +kernel
theorem dX6_tick_116 : decode cX6_tick 116 = .ok (.iinc 3 1, 3) := by decide +kernel
theorem dX6_tick_119 : decode cX6_tick 119 = .ok (.goto (-71), 3) := by decide +kernel
theorem dX6_tick_122 : decode cX6_tick 122 = .ok (.iinc 2 1, 3) := by decide +kernel
theorem dX6_tick_125 : decode cX6_tick 125 = .ok (.goto (-94), 3) := by decide +kernel
theorem dX6_tick_128 : decode cX6_tick 128 = .ok (.aload_n 0, 1) := by decide +kernel
theorem dX6_tick_129 : decode cX6_tick 129 = .ok (.getfield 7, 3) := by decide +kernel
theorem dX6_tick_132 : decode cX6_tick 132 = .ok (.iconst 1, 1) := by decide +kernel
theorem dX6_tick_133 : decode cX6_tick 133 = .ok (.iaload, 1) := by decide +kernel
theorem dX6_tick_134 : decode cX6_tick 134 = .ok (.ireturn, 1) := by decide +kernel
theorem dX6_mayTake_0 : decode cX6_mayTake 0 = .ok (.aload_n 0, 1) := by decide +kernel
theorem dX6_mayTake_1 : decode cX6_mayTake 1 = .ok (.getfield 7, 3) := by decide +kernel
theorem dX6_mayTake_4 : decode cX6_mayTake 4 = .ok (.bipush 83, 2) := by decide +kernel
theorem dX6_mayTake_6 : decode cX6_mayTake 6 = .ok (.iload_n 1, 1) := by decide +kernel
theorem dX6_mayTake_7 : decode cX6_mayTake 7 = .ok (.iadd, 1) := by decide +kernel
theorem dX6_mayTake_8 : decode cX6_mayTake 8 = .ok (.iaload, 1) := by decide +kernel
theorem dX6_mayTake_9 : decode cX6_mayTake 9 = .ok (.ifCond .eq 29, 3) := by decide +kernel
theorem dX6_mayTake_12 : decode cX6_mayTake 12 = .ok (.aload_n 0, 1) := by decide +kernel
theorem dX6_mayTake_13 : decode cX6_mayTake 13 = .ok (.getfield 7, 3) := by decide +kernel
theorem dX6_mayTake_16 : decode cX6_mayTake 16 = .ok (.bipush 83, 2) := by decide +kernel
theorem dX6_mayTake_18 : decode cX6_mayTake 18 = .ok (.iload_n 1, 1) := by decide +kernel
theorem dX6_mayTake_19 : decode cX6_mayTake 19 = .ok (.iadd, 1) := by decide +kernel
theorem dX6_mayTake_20 : decode cX6_mayTake 20 = .ok (.iaload, 1) := by decide +kernel
theorem dX6_mayTake_21 : decode cX6_mayTake 21 = .ok (.iconst 2, 1) := by decide +kernel
theorem dX6_mayTake_22 : decode cX6_mayTake 22 = .ok (.if_icmp .ne 20, 3) := by decide +kernel
theorem dX6_mayTake_25 : decode cX6_mayTake 25 = .ok (.aload_n 0, 1) := by decide +kernel
theorem dX6_mayTake_26 : decode cX6_mayTake 26 = .ok (.getfield 7, 3) := by decide +kernel
theorem dX6_mayTake_29 : decode cX6_mayTake 29 = .ok (.bipush 103, 2) := by decide +kernel
theorem dX6_mayTake_31 : decode cX6_mayTake 31 = .ok (.iload_n 1, 1) := by decide +kernel
theorem dX6_mayTake_32 : decode cX6_mayTake 32 = .ok (.iadd, 1) := by decide +kernel
theorem dX6_mayTake_33 : decode cX6_mayTake 33 = .ok (.iaload, 1) := by decide +kernel
theorem dX6_mayTake_34 : decode cX6_mayTake 34 = .ok (.iconst (-1), 1) := by decide +kernel
theorem dX6_mayTake_35 : decode cX6_mayTake 35 = .ok (.if_icmp .ne 7, 3) := by decide +kernel
theorem dX6_mayTake_38 : decode cX6_mayTake 38 = .ok (.iconst 1, 1) := by decide +kernel
theorem dX6_mayTake_39 : decode cX6_mayTake 39 = .ok (.goto 4, 3) := by decide +kernel
theorem dX6_mayTake_42 : decode cX6_mayTake 42 = .ok (.iconst 0, 1) := by decide +kernel
theorem dX6_mayTake_43 : decode cX6_mayTake 43 = .ok (.istore_n 2, 1) := by decide +kernel
theorem dX6_mayTake_44 : decode cX6_mayTake 44 = .ok (.iload_n 2, 1) := by decide +kernel
theorem dX6_mayTake_45 : decode cX6_mayTake 45 = .ok (.ifCond .eq 52, 3) := by decide +kernel
theorem dX6_mayTake_48 : decode cX6_mayTake 48 = .ok (.aload_n 0, 1) := by decide +kernel
theorem dX6_mayTake_49 : decode cX6_mayTake 49 = .ok (.getfield 7, 3) := by decide +kernel
theorem dX6_mayTake_52 : decode cX6_mayTake 52 = .ok (.bipush 43, 2) := by decide +kernel
theorem dX6_mayTake_54 : decode cX6_mayTake 54 = .ok (.iload_n 1, 1) := by decide +kernel
theorem dX6_mayTake_55 : decode cX6_mayTake 55 = .ok (.iadd, 1) := by decide +kernel
theorem dX6_mayTake_56 : decode cX6_mayTake 56 = .ok (.iaload, 1) := by decide +kernel
theorem dX6_mayTake_57 : decode cX6_mayTake 57 = .ok (.ifCond .ne 40, 3) := by decide +kernel
theorem dX6_mayTake_60 : decode cX6_mayTake 60 = .ok (.aload_n 0, 1) := by decide +kernel
theorem dX6_mayTake_61 : decode cX6_mayTake 61 = .ok (.getfield 7, 3) := by decide +kernel
theorem dX6_mayTake_64 : decode cX6_mayTake 64 = .ok (.bipush 53, 2) := by decide +kernel
theorem dX6_mayTake_66 : decode cX6_mayTake 66 = .ok (.iload_n 1, 1) := by decide +kernel
theorem dX6_mayTake_67 : decode cX6_mayTake 67 = .ok (.iadd, 1) := by decide +kernel
theorem dX6_mayTake_68 : decode cX6_mayTake 68 = .ok (.iaload, 1) := by decide +kernel
theorem dX6_mayTake_69 : decode cX6_mayTake 69 = .ok (.ifCond .ne 28, 3) := by decide +kernel
theorem dX6_mayTake_72 : decode cX6_mayTake 72 = .ok (.aload_n 0, 1) := by decide +kernel
theorem dX6_mayTake_73 : decode cX6_mayTake 73 = .ok (.getfield 7, 3) := by decide +kernel
theorem dX6_mayTake_76 : decode cX6_mayTake 76 = .ok (.bipush 33, 2) := by decide +kernel
theorem dX6_mayTake_78 : decode cX6_mayTake 78 = .ok (.iload_n 1, 1) := by decide +kernel
theorem dX6_mayTake_79 : decode cX6_mayTake 79 = .ok (.iadd, 1) := by decide +kernel
theorem dX6_mayTake_80 : decode cX6_mayTake 80 = .ok (.iaload, 1) := by decide +kernel
theorem dX6_mayTake_81 : decode cX6_mayTake 81 = .ok (.aload_n 0, 1) := by decide +kernel
theorem dX6_mayTake_82 : decode cX6_mayTake 82 = .ok (.getfield 7, 3) := by decide +kernel
theorem dX6_mayTake_85 : decode cX6_mayTake 85 = .ok (.bipush 23, 2) := by decide +kernel
theorem dX6_mayTake_87 : decode cX6_mayTake 87 = .ok (.iload_n 1, 1) := by decide +kernel
theorem dX6_mayTake_88 : decode cX6_mayTake 88 = .ok (.iadd, 1) := by decide +kernel
theorem dX6_mayTake_89 : decode cX6_mayTake 89 = .ok (.iaload, 1) := by decide +kernel
theorem dX6_mayTake_90 : decode cX6_mayTake 90 = .ok (.if_icmp .ge 7, 3) := by decide +kernel
theorem dX6_mayTake_93 : decode cX6_mayTake 93 = .ok (.iconst 1, 1) := by decide +kernel
theorem dX6_mayTake_94 : decode cX6_mayTake 94 = .ok (.goto 4, 3) := by decide +kernel
theorem dX6_mayTake_97 : decode cX6_mayTake 97 = .ok (.iconst 0, 1) := by decide +kernel
theorem dX6_mayTake_98 : decode cX6_mayTake 98 = .ok (.ireturn, 1) := by decide +kernel
theorem dX6_weightNow_0 : decode cX6_weightNow 0 = .ok (.aload_n 0, 1) := by decide +kernel
theorem dX6_weightNow_1 : decode cX6_weightNow 1 = .ok (.getfield 7, 3) := by decide +kernel
theorem dX6_weightNow_4 : decode cX6_weightNow 4 = .ok (.iconst 1, 1) := by decide +kernel
theorem dX6_weightNow_5 : decode cX6_weightNow 5 = .ok (.iaload, 1) := by decide +kernel
theorem dX6_weightNow_6 : decode cX6_weightNow 6 = .ok (.aload_n 0, 1) := by decide +kernel
theorem dX6_weightNow_7 : decode cX6_weightNow 7 = .ok (.getfield 7, 3) := by decide +kernel
theorem dX6_weightNow_10 : decode cX6_weightNow 10 = .ok (.bipush 73, 2) := by decide +kernel
theorem dX6_weightNow_12 : decode cX6_weightNow 12 = .ok (.iload_n 1, 1) := by decide +kernel
theorem dX6_weightNow_13 : decode cX6_weightNow 13 = .ok (.iadd, 1) := by decide +kernel
theorem dX6_weightNow_14 : decode cX6_weightNow 14 = .ok (.iaload, 1) := by decide +kernel
theorem dX6_weightNow_15 : decode cX6_weightNow 15 = .ok (.isub, 1) := by decide +kernel
theorem dX6_weightNow_16 : decode cX6_weightNow 16 = .ok (.istore_n 2, 1) := by decide +kernel
theorem dX6_weightNow_17 : decode cX6_weightNow 17 = .ok (.aload_n 0, 1) := by decide +kernel
theorem dX6_weightNow_18 : decode cX6_weightNow 18 = .ok (.getfield 7, 3) := by decide +kernel
theorem dX6_weightNow_21 : decode cX6_weightNow 21 = .ok (.bipush 73, 2) := by decide +kernel
theorem dX6_weightNow_23 : decode cX6_weightNow 23 = .ok (.iload_n 1, 1) := by decide +kernel
theorem dX6_weightNow_24 : decode cX6_weightNow 24 = .ok (.iadd, 1) := by decide +kernel
theorem dX6_weightNow_25 : decode cX6_weightNow 25 = .ok (.iaload, 1) := by decide +kernel
theorem dX6_weightNow_26 : decode cX6_weightNow 26 = .ok (.iconst (-1), 1) := by decide +kernel
theorem dX6_weightNow_27 : decode cX6_weightNow 27 = .ok (.if_icmp .eq 13, 3) := by decide +kernel
theorem dX6_weightNow_30 : decode cX6_weightNow 30 = .ok (.iload_n 2, 1) := by decide +kernel
theorem dX6_weightNow_31 : decode cX6_weightNow 31 = .ok (.aload_n 0, 1) := by decide +kernel
theorem dX6_weightNow_32 : decode cX6_weightNow 32 = .ok (.getfield 7, 3) := by decide +kernel
theorem dX6_weightNow_35 : decode cX6_weightNow 35 = .ok (.iconst 4, 1) := by decide +kernel
theorem dX6_weightNow_36 : decode cX6_weightNow 36 = .ok (.iaload, 1) := by decide +kernel
theorem dX6_weightNow_37 : decode cX6_weightNow 37 = .ok (.if_icmp .lt 13, 3) := by decide +kernel
theorem dX6_weightNow_40 : decode cX6_weightNow 40 = .ok (.aload_n 0, 1) := by decide +kernel
theorem dX6_weightNow_41 : decode cX6_weightNow 41 = .ok (.getfield 7, 3) := by decide +kernel
theorem dX6_weightNow_44 : decode cX6_weightNow 44 = .ok (.bipush 13, 2) := by decide +kernel
theorem dX6_weightNow_46 : decode cX6_weightNow 46 = .ok (.iload_n 1, 1) := by decide +kernel
theorem dX6_weightNow_47 : decode cX6_weightNow 47 = .ok (.iadd, 1) := by decide +kernel
theorem dX6_weightNow_48 : decode cX6_weightNow 48 = .ok (.iaload, 1) := by decide +kernel
theorem dX6_weightNow_49 : decode cX6_weightNow 49 = .ok (.ireturn, 1) := by decide +kernel
theorem dX6_weightNow_50 : decode cX6_weightNow 50 = .ok (.aload_n 0, 1) := by decide +kernel
theorem dX6_weightNow_51 : decode cX6_weightNow 51 = .ok (.getfield 7, 3) := by decide +kernel
theorem dX6_weightNow_54 : decode cX6_weightNow 54 = .ok (.bipush 13, 2) := by decide +kernel
theorem dX6_weightNow_56 : decode cX6_weightNow 56 = .ok (.iload_n 1, 1) := by decide +kernel
theorem dX6_weightNow_57 : decode cX6_weightNow 57 = .ok (.iadd, 1) := by decide +kernel
theorem dX6_weightNow_58 : decode cX6_weightNow 58 = .ok (.iaload, 1) := by decide +kernel
theorem dX6_weightNow_59 : decode cX6_weightNow 59 = .ok (.iload_n 2, 1) := by decide +kernel
theorem dX6_weightNow_60 : decode cX6_weightNow 60 = .ok (.iconst 1, 1) := by decide +kernel
theorem dX6_weightNow_61 : decode cX6_weightNow 61 = .ok (.iadd, 1) := by decide +kernel
theorem dX6_weightNow_62 : decode cX6_weightNow 62 = .ok (.imul, 1) := by decide +kernel
theorem dX6_weightNow_63 : decode cX6_weightNow 63 = .ok (.aload_n 0, 1) := by decide +kernel
theorem dX6_weightNow_64 : decode cX6_weightNow 64 = .ok (.getfield 7, 3) := by decide +kernel
theorem dX6_weightNow_67 : decode cX6_weightNow 67 = .ok (.iconst 4, 1) := by decide +kernel
theorem dX6_weightNow_68 : decode cX6_weightNow 68 = .ok (.iaload, 1) := by decide +kernel
theorem dX6_weightNow_69 : decode cX6_weightNow 69 = .ok (.idiv, 1) := by decide +kernel
theorem dX6_weightNow_70 : decode cX6_weightNow 70 = .ok (.istore_n 3, 1) := by decide +kernel
theorem dX6_weightNow_71 : decode cX6_weightNow 71 = .ok (.iload_n 3, 1) := by decide +kernel
theorem dX6_weightNow_72 : decode cX6_weightNow 72 = .ok (.iconst 1, 1) := by decide +kernel
theorem dX6_weightNow_73 : decode cX6_weightNow 73 = .ok (.if_icmp .ge 7, 3) := by decide +kernel
theorem dX6_weightNow_76 : decode cX6_weightNow 76 = .ok (.iconst 1, 1) := by decide +kernel
theorem dX6_weightNow_77 : decode cX6_weightNow 77 = .ok (.goto 4, 3) := by decide +kernel
theorem dX6_weightNow_80 : decode cX6_weightNow 80 = .ok (.iload_n 3, 1) := by decide +kernel
theorem dX6_weightNow_81 : decode cX6_weightNow 81 = .ok (.ireturn, 1) := by decide +kernel
set_option maxRecDepth 20000 in
theorem ggX6_layRow_X6_mayTake : GoodIn wsX6_layRow wsX6_mayTake := goodIn_r _ [8, 2, 9, 10, 11, 12, 13, 14] (by decide +kernel) (by decide +kernel)
set_option maxRecDepth 20000 in
theorem gX6_layRow_X6_mayTake : GoodIn wsX6_layRow (wsV RX6 42 RX6 yX6_mayTake wsX6_mayTake) := goodIn_app (goodIn_of _ (by decide +kernel)) ggX6_layRow_X6_mayTake
theorem dX6_layRow_0 : decode cX6_layRow 0 = .ok (.aload_n 0, 1) := by decide +kernel
theorem dX6_layRow_1 : decode cX6_layRow 1 = .ok (.iconst 0, 1) := by decide +kernel
theorem dX6_layRow_2 : decode cX6_layRow 2 = .ok (.putfield 39, 3) := by decide +kernel
theorem dX6_layRow_5 : decode cX6_layRow 5 = .ok (.iconst 0, 1) := by decide +kernel
theorem dX6_layRow_6 : decode cX6_layRow 6 = .ok (.istore_n 1, 1) := by decide +kernel
theorem dX6_layRow_7 : decode cX6_layRow 7 = .ok (.iload_n 1, 1) := by decide +kernel
theorem dX6_layRow_8 : decode cX6_layRow 8 = .ok (.aload_n 0, 1) := by decide +kernel
theorem dX6_layRow_9 : decode cX6_layRow 9 = .ok (.getfield 7, 3) := by decide +kernel
theorem dX6_layRow_12 : decode cX6_layRow 12 = .ok (.iconst 0, 1) := by decide +kernel
theorem dX6_layRow_13 : decode cX6_layRow 13 = .ok (.iaload, 1) := by decide +kernel
theorem dX6_layRow_14 : decode cX6_layRow 14 = .ok (.if_icmp .ge 37, 3) := by decide +kernel
theorem dX6_layRow_17 : decode cX6_layRow 17 = .ok (.aload_n 0, 1) := by decide +kernel
theorem dX6_layRow_18 : decode cX6_layRow 18 = .ok (.iload_n 1, 1) := by decide +kernel
theorem dX6_layRow_19 : decode cX6_layRow 19 = .ok (.invokevirtual 42, 3) := by decide +kernel
theorem dX6_layRow_22 : decode cX6_layRow 22 = .ok (.ifCond .eq 23, 3) := by decide +kernel
theorem dX6_layRow_25 : decode cX6_layRow 25 = .ok (.aload_n 0, 1) := by decide +kernel
theorem dX6_layRow_26 : decode cX6_layRow 26 = .ok (.getfield 20, 3) := by decide +kernel
theorem dX6_layRow_29 : decode cX6_layRow 29 = .ok (.aload_n 0, 1) := by decide +kernel
theorem dX6_layRow_30 : decode cX6_layRow 30 = .ok (.getfield 39, 3) := by decide +kernel
theorem dX6_layRow_33 : decode cX6_layRow 33 = .ok (.iload_n 1, 1) := by decide +kernel
theorem dX6_layRow_34 : decode cX6_layRow 34 = .ok (.iastore, 1) := by decide +kernel
theorem dX6_layRow_35 : decode cX6_layRow 35 = .ok (.aload_n 0, 1) := by decide +kernel
theorem dX6_layRow_36 : decode cX6_layRow 36 = .ok (.dup, 1) := by decide +kernel
theorem dX6_layRow_37 : decode cX6_layRow 37 = .ok (.getfield 39, 3) := by decide +kernel
theorem dX6_layRow_40 : decode cX6_layRow 40 = .ok (.iconst 1, 1) := by decide +kernel
theorem dX6_layRow_41 : decode cX6_layRow 41 = .ok (.iadd, 1) := by decide +kernel
theorem dX6_layRow_42 : decode cX6_layRow 42 = .ok (.putfield 39, 3) := by decide +kernel
theorem dX6_layRow_45 : decode cX6_layRow 45 = .ok (.iinc 1 1, 3) := by decide +kernel
theorem dX6_layRow_48 : decode cX6_layRow 48 = .ok (.goto (-41), 3) := by decide +kernel
theorem dX6_layRow_51 : decode cX6_layRow 51 = .ok (.return_, 1) := by decide +kernel
theorem dX6_nextInTurn_0 : decode cX6_nextInTurn 0 = .ok (.iconst 0, 1) := by decide +kernel
theorem dX6_nextInTurn_1 : decode cX6_nextInTurn 1 = .ok (.istore_n 1, 1) := by decide +kernel
theorem dX6_nextInTurn_2 : decode cX6_nextInTurn 2 = .ok (.iload_n 1, 1) := by decide +kernel
theorem dX6_nextInTurn_3 : decode cX6_nextInTurn 3 = .ok (.aload_n 0, 1) := by decide +kernel
theorem dX6_nextInTurn_4 : decode cX6_nextInTurn 4 = .ok (.getfield 39, 3) := by decide +kernel
theorem dX6_nextInTurn_7 : decode cX6_nextInTurn 7 = .ok (.if_icmp .ge 32, 3) := by decide +kernel
theorem dX6_nextInTurn_10 : decode cX6_nextInTurn 10 = .ok (.aload_n 0, 1) := by decide +kernel
theorem dX6_nextInTurn_11 : decode cX6_nextInTurn 11 = .ok (.getfield 20, 3) := by decide +kernel
theorem dX6_nextInTurn_14 : decode cX6_nextInTurn 14 = .ok (.iload_n 1, 1) := by decide +kernel
theorem dX6_nextInTurn_15 : decode cX6_nextInTurn 15 = .ok (.iaload, 1) := by decide +kernel
theorem dX6_nextInTurn_16 : decode cX6_nextInTurn 16 = .ok (.aload_n 0, 1) := by decide +kernel
theorem dX6_nextInTurn_17 : decode cX6_nextInTurn 17 = .ok (.getfield 7, 3) := by decide +kernel
theorem dX6_nextInTurn_20 : decode cX6_nextInTurn 20 = .ok (.bipush 9, 2) := by decide +kernel
theorem dX6_nextInTurn_22 : decode cX6_nextInTurn 22 = .ok (.iaload, 1) := by decide +kernel
theorem dX6_nextInTurn_23 : decode cX6_nextInTurn 23 = .ok (.if_icmp .le 10, 3) := by decide +kernel
theorem dX6_nextInTurn_26 : decode cX6_nextInTurn 26 = .ok (.aload_n 0, 1) := by decide +kernel
theorem dX6_nextInTurn_27 : decode cX6_nextInTurn 27 = .ok (.getfield 20, 3) := by decide +kernel
theorem dX6_nextInTurn_30 : decode cX6_nextInTurn 30 = .ok (.iload_n 1, 1) := by decide +kernel
theorem dX6_nextInTurn_31 : decode cX6_nextInTurn 31 = .ok (.iaload, 1) := by decide +kernel
theorem dX6_nextInTurn_32 : decode cX6_nextInTurn 32 = .ok (.ireturn, 1) := by decide +kernel
theorem dX6_nextInTurn_33 : decode cX6_nextInTurn 33 = .ok (.iinc 1 1, 3) := by decide +kernel
theorem dX6_nextInTurn_36 : decode cX6_nextInTurn 36 = .ok (.goto (-34), 3) := by decide +kernel
theorem dX6_nextInTurn_39 : decode cX6_nextInTurn 39 = .ok (.aload_n 0, 1) := by decide +kernel
theorem dX6_nextInTurn_40 : decode cX6_nextInTurn 40 = .ok (.getfield 20, 3) := by decide +kernel
theorem dX6_nextInTurn_43 : decode cX6_nextInTurn 43 = .ok (.iconst 0, 1) := by decide +kernel
theorem dX6_nextInTurn_44 : decode cX6_nextInTurn 44 = .ok (.iaload, 1) := by decide +kernel
end
section
theorem dX6_nextInTurn_45 : decode cX6_nextInTurn 45 = .ok (.ireturn, 1) := by decide +kernel
set_option maxRecDepth 20000 in
theorem ggX6_mostCredit_X6_weightNow : GoodIn wsX6_mostCredit wsX6_weightNow := goodIn_r _ [8, 3, 9, 10, 11, 12, 13, 14] (by decide +kernel) (by decide +kernel)
set_option maxRecDepth 20000 in
theorem gX6_mostCredit_X6_weightNow : GoodIn wsX6_mostCredit (wsV RX6 45 RX6 yX6_weightNow wsX6_weightNow) := goodIn_app (goodIn_of _ (by decide +kernel)) ggX6_mostCredit_X6_weightNow
theorem dX6_mostCredit_0 : decode cX6_mostCredit 0 = .ok (.aload_n 0, 1) := by decide +kernel
theorem dX6_mostCredit_1 : decode cX6_mostCredit 1 = .ok (.getfield 20, 3) := by decide +kernel
theorem dX6_mostCredit_4 : decode cX6_mostCredit 4 = .ok (.iconst 0, 1) := by decide +kernel
theorem dX6_mostCredit_5 : decode cX6_mostCredit 5 = .ok (.iaload, 1) := by decide +kernel
theorem dX6_mostCredit_6 : decode cX6_mostCredit 6 = .ok (.istore_n 1, 1) := by decide +kernel
theorem dX6_mostCredit_7 : decode cX6_mostCredit 7 = .ok (.iconst 1, 1) := by decide +kernel
theorem dX6_mostCredit_8 : decode cX6_mostCredit 8 = .ok (.istore_n 2, 1) := by decide +kernel
theorem dX6_mostCredit_9 : decode cX6_mostCredit 9 = .ok (.iload_n 2, 1) := by decide +kernel
theorem dX6_mostCredit_10 : decode cX6_mostCredit 10 = .ok (.aload_n 0, 1) := by decide +kernel
theorem dX6_mostCredit_11 : decode cX6_mostCredit 11 = .ok (.getfield 39, 3) := by decide +kernel
theorem dX6_mostCredit_14 : decode cX6_mostCredit 14 = .ok (.if_icmp .ge 55, 3) := by decide +kernel
theorem dX6_mostCredit_17 : decode cX6_mostCredit 17 = .ok (.aload_n 0, 1) := by decide +kernel
theorem dX6_mostCredit_18 : decode cX6_mostCredit 18 = .ok (.getfield 20, 3) := by decide +kernel
theorem dX6_mostCredit_21 : decode cX6_mostCredit 21 = .ok (.iload_n 2, 1) := by decide +kernel
theorem dX6_mostCredit_22 : decode cX6_mostCredit 22 = .ok (.iaload, 1) := by decide +kernel
theorem dX6_mostCredit_23 : decode cX6_mostCredit 23 = .ok (.istore_n 3, 1) := by decide +kernel
theorem dX6_mostCredit_24 : decode cX6_mostCredit 24 = .ok (.aload_n 0, 1) := by decide +kernel
theorem dX6_mostCredit_25 : decode cX6_mostCredit 25 = .ok (.getfield 7, 3) := by decide +kernel
theorem dX6_mostCredit_28 : decode cX6_mostCredit 28 = .ok (.bipush 113, 2) := by decide +kernel
theorem dX6_mostCredit_30 : decode cX6_mostCredit 30 = .ok (.iload_n 3, 1) := by decide +kernel
theorem dX6_mostCredit_31 : decode cX6_mostCredit 31 = .ok (.iadd, 1) := by decide +kernel
theorem dX6_mostCredit_32 : decode cX6_mostCredit 32 = .ok (.iaload, 1) := by decide +kernel
theorem dX6_mostCredit_33 : decode cX6_mostCredit 33 = .ok (.aload_n 0, 1) := by decide +kernel
theorem dX6_mostCredit_34 : decode cX6_mostCredit 34 = .ok (.iload_n 3, 1) := by decide +kernel
theorem dX6_mostCredit_35 : decode cX6_mostCredit 35 = .ok (.invokevirtual 45, 3) := by decide +kernel
theorem dX6_mostCredit_38 : decode cX6_mostCredit 38 = .ok (.iadd, 1) := by decide +kernel
theorem dX6_mostCredit_39 : decode cX6_mostCredit 39 = .ok (.aload_n 0, 1) := by decide +kernel
theorem dX6_mostCredit_40 : decode cX6_mostCredit 40 = .ok (.getfield 7, 3) := by decide +kernel
theorem dX6_mostCredit_43 : decode cX6_mostCredit 43 = .ok (.bipush 113, 2) := by decide +kernel
theorem dX6_mostCredit_45 : decode cX6_mostCredit 45 = .ok (.iload_n 1, 1) := by decide +kernel
theorem dX6_mostCredit_46 : decode cX6_mostCredit 46 = .ok (.iadd, 1) := by decide +kernel
theorem dX6_mostCredit_47 : decode cX6_mostCredit 47 = .ok (.iaload, 1) := by decide +kernel
theorem dX6_mostCredit_48 : decode cX6_mostCredit 48 = .ok (.aload_n 0, 1) := by decide +kernel
theorem dX6_mostCredit_49 : decode cX6_mostCredit 49 = .ok (.iload_n 1, 1) := by decide +kernel
theorem dX6_mostCredit_50 : decode cX6_mostCredit 50 = .ok (.invokevirtual 45, 3) := by decide +kernel
theorem dX6_mostCredit_53 : decode cX6_mostCredit 53 = .ok (.iadd, 1) := by decide +kernel
theorem dX6_mostCredit_54 : decode cX6_mostCredit 54 = .ok (.if_icmp .le 7, 3) := by decide +kernel
theorem dX6_mostCredit_57 : decode cX6_mostCredit 57 = .ok (.iload_n 3, 1) := by decide +kernel
theorem dX6_mostCredit_58 : decode cX6_mostCredit 58 = .ok (.goto 4, 3) := by decide +kernel
theorem dX6_mostCredit_61 : decode cX6_mostCredit 61 = .ok (.iload_n 1, 1) := by decide +kernel
theorem dX6_mostCredit_62 : decode cX6_mostCredit 62 = .ok (.istore_n 1, 1) := by decide +kernel
theorem dX6_mostCredit_63 : decode cX6_mostCredit 63 = .ok (.iinc 2 1, 3) := by decide +kernel
theorem dX6_mostCredit_66 : decode cX6_mostCredit 66 = .ok (.goto (-57), 3) := by decide +kernel
theorem dX6_mostCredit_69 : decode cX6_mostCredit 69 = .ok (.iload_n 1, 1) := by decide +kernel
theorem dX6_mostCredit_70 : decode cX6_mostCredit 70 = .ok (.ireturn, 1) := by decide +kernel
set_option maxRecDepth 20000 in
theorem ggX6_leastBusy_X6_weightNow : GoodIn wsX6_leastBusy wsX6_weightNow := goodIn_r _ [8, 3, 9, 10, 11, 12, 13, 14] (by decide +kernel) (by decide +kernel)
set_option maxRecDepth 20000 in
theorem gX6_leastBusy_X6_weightNow : GoodIn wsX6_leastBusy (wsV RX6 45 RX6 yX6_weightNow wsX6_weightNow) := goodIn_app (goodIn_of _ (by decide +kernel)) ggX6_leastBusy_X6_weightNow
theorem dX6_leastBusy_0 : decode cX6_leastBusy 0 = .ok (.aload_n 0, 1) := by decide +kernel
theorem dX6_leastBusy_1 : decode cX6_leastBusy 1 = .ok (.getfield 20, 3) := by decide +kernel
theorem dX6_leastBusy_4 : decode cX6_leastBusy 4 = .ok (.iconst 0, 1) := by decide +kernel
theorem dX6_leastBusy_5 : decode cX6_leastBusy 5 = .ok (.iaload, 1) := by decide +kernel
theorem dX6_leastBusy_6 : decode cX6_leastBusy 6 = .ok (.istore_n 1, 1) := by decide +kernel
theorem dX6_leastBusy_7 : decode cX6_leastBusy 7 = .ok (.iconst 1, 1) := by decide +kernel
theorem dX6_leastBusy_8 : decode cX6_leastBusy 8 = .ok (.istore_n 2, 1) := by decide +kernel
theorem dX6_leastBusy_9 : decode cX6_leastBusy 9 = .ok (.iload_n 2, 1) := by decide +kernel
theorem dX6_leastBusy_10 : decode cX6_leastBusy 10 = .ok (.aload_n 0, 1) := by decide +kernel
theorem dX6_leastBusy_11 : decode cX6_leastBusy 11 = .ok (.getfield 39, 3) := by decide +kernel
theorem dX6_leastBusy_14 : decode cX6_leastBusy 14 = .ok (.if_icmp .ge 55, 3) := by decide +kernel
theorem dX6_leastBusy_17 : decode cX6_leastBusy 17 = .ok (.aload_n 0, 1) := by decide +kernel
theorem dX6_leastBusy_18 : decode cX6_leastBusy 18 = .ok (.getfield 20, 3) := by decide +kernel
theorem dX6_leastBusy_21 : decode cX6_leastBusy 21 = .ok (.iload_n 2, 1) := by decide +kernel
theorem dX6_leastBusy_22 : decode cX6_leastBusy 22 = .ok (.iaload, 1) := by decide +kernel
theorem dX6_leastBusy_23 : decode cX6_leastBusy 23 = .ok (.istore_n 3, 1) := by decide +kernel
theorem dX6_leastBusy_24 : decode cX6_leastBusy 24 = .ok (.aload_n 0, 1) := by decide +kernel
theorem dX6_leastBusy_25 : decode cX6_leastBusy 25 = .ok (.getfield 7, 3) := by decide +kernel
theorem dX6_leastBusy_28 : decode cX6_leastBusy 28 = .ok (.bipush 33, 2) := by decide +kernel
theorem dX6_leastBusy_30 : decode cX6_leastBusy 30 = .ok (.iload_n 3, 1) := by decide +kernel
theorem dX6_leastBusy_31 : decode cX6_leastBusy 31 = .ok (.iadd, 1) := by decide +kernel
theorem dX6_leastBusy_32 : decode cX6_leastBusy 32 = .ok (.iaload, 1) := by decide +kernel
theorem dX6_leastBusy_33 : decode cX6_leastBusy 33 = .ok (.aload_n 0, 1) := by decide +kernel
theorem dX6_leastBusy_34 : decode cX6_leastBusy 34 = .ok (.iload_n 1, 1) := by decide +kernel
theorem dX6_leastBusy_35 : decode cX6_leastBusy 35 = .ok (.invokevirtual 45, 3) := by decide +kernel
theorem dX6_leastBusy_38 : decode cX6_leastBusy 38 = .ok (.imul, 1) := by decide +kernel
theorem dX6_leastBusy_39 : decode cX6_leastBusy 39 = .ok (.aload_n 0, 1) := by decide +kernel
theorem dX6_leastBusy_40 : decode cX6_leastBusy 40 = .ok (.getfield 7, 3) := by decide +kernel
theorem dX6_leastBusy_43 : decode cX6_leastBusy 43 = .ok (.bipush 33, 2) := by decide +kernel
theorem dX6_leastBusy_45 : decode cX6_leastBusy 45 = .ok (.iload_n 1, 1) := by decide +kernel
theorem dX6_leastBusy_46 : decode cX6_leastBusy 46 = .ok (.iadd, 1) := by decide +kernel
theorem dX6_leastBusy_47 : decode cX6_leastBusy 47 = .ok (.iaload, 1) := by decide +kernel
theorem dX6_leastBusy_48 : decode cX6_leastBusy 48 = .ok (.aload_n 0, 1) := by decide +kernel
theorem dX6_leastBusy_49 : decode cX6_leastBusy 49 = .ok (.iload_n 3, 1) := by decide +kernel
theorem dX6_leastBusy_50 : decode cX6_leastBusy 50 = .ok (.invokevirtual 45, 3) := by decide +kernel
theorem dX6_leastBusy_53 : decode cX6_leastBusy 53 = .ok (.imul, 1) := by decide +kernel
theorem dX6_leastBusy_54 : decode cX6_leastBusy 54 = .ok (.if_icmp .ge 7, 3) := by decide +kernel
theorem dX6_leastBusy_57 : decode cX6_leastBusy 57 = .ok (.iload_n 3, 1) := by decide +kernel
theorem dX6_leastBusy_58 : decode cX6_leastBusy 58 = .ok (.goto 4, 3) := by decide +kernel
theorem dX6_leastBusy_61 : decode cX6_leastBusy 61 = .ok (.iload_n 1, 1) := by decide +kernel
theorem dX6_leastBusy_62 : decode cX6_leastBusy 62 = .ok (.istore_n 1, 1) := by decide +kernel
theorem dX6_leastBusy_63 : decode cX6_leastBusy 63 = .ok (.iinc 2 1, 3) := by decide +kernel
theorem dX6_leastBusy_66 : decode cX6_leastBusy 66 = .ok (.goto (-57), 3) := by decide +kernel
theorem dX6_leastBusy_69 : decode cX6_leastBusy 69 = .ok (.iload_n 1, 1) := by decide +kernel
theorem dX6_leastBusy_70 : decode cX6_leastBusy 70 = .ok (.ireturn, 1) := by decide +kernel
theorem dX6_mix_0 : decode cX6_mix 0 = .ok (.iload_n 0, 1) := by decide +kernel
theorem dX6_mix_1 : decode cX6_mix 1 = .ok (.istore_n 1, 1) := by decide +kernel
theorem dX6_mix_2 : decode cX6_mix 2 = .ok (.iload_n 1, 1) := by decide +kernel
theorem dX6_mix_3 : decode cX6_mix 3 = .ok (.iload_n 1, 1) := by decide +kernel
theorem dX6_mix_4 : decode cX6_mix 4 = .ok (.bipush 16, 2) := by decide +kernel
theorem dX6_mix_6 : decode cX6_mix 6 = .ok (.iushr, 1) := by decide +kernel
theorem dX6_mix_7 : decode cX6_mix 7 = .ok (.ixor, 1) := by decide +kernel
theorem dX6_mix_8 : decode cX6_mix 8 = .ok (.istore_n 1, 1) := by decide +kernel
theorem dX6_mix_9 : decode cX6_mix 9 = .ok (.iload_n 1, 1) := by decide +kernel
theorem dX6_mix_10 : decode cX6_mix 10 = .ok (.ldc 49, 2) := by decide +kernel
theorem dX6_mix_12 : decode cX6_mix 12 = .ok (.imul, 1) := by decide +kernel
theorem dX6_mix_13 : decode cX6_mix 13 = .ok (.istore_n 1, 1) := by decide +kernel
theorem dX6_mix_14 : decode cX6_mix 14 = .ok (.iload_n 1, 1) := by decide +kernel
theorem dX6_mix_15 : decode cX6_mix 15 = .ok (.iload_n 1, 1) := by decide +kernel
theorem dX6_mix_16 : decode cX6_mix 16 = .ok (.bipush 16, 2) := by decide +kernel
theorem dX6_mix_18 : decode cX6_mix 18 = .ok (.iushr, 1) := by decide +kernel
theorem dX6_mix_19 : decode cX6_mix 19 = .ok (.ixor, 1) := by decide +kernel
theorem dX6_mix_20 : decode cX6_mix 20 = .ok (.istore_n 1, 1) := by decide +kernel
theorem dX6_mix_21 : decode cX6_mix 21 = .ok (.iload_n 1, 1) := by decide +kernel
theorem dX6_mix_22 : decode cX6_mix 22 = .ok (.ldc 49, 2) := by decide +kernel
theorem dX6_mix_24 : decode cX6_mix 24 = .ok (.imul, 1) := by decide +kernel
theorem dX6_mix_25 : decode cX6_mix 25 = .ok (.istore_n 1, 1) := by decide +kernel
theorem dX6_mix_26 : decode cX6_mix 26 = .ok (.iload_n 1, 1) := by decide +kernel
theorem dX6_mix_27 : decode cX6_mix 27 = .ok (.iload_n 1, 1) := by decide +kernel
theorem dX6_mix_28 : decode cX6_mix 28 = .ok (.bipush 16, 2) := by decide +kernel
theorem dX6_mix_30 : decode cX6_mix 30 = .ok (.iushr, 1) := by decide +kernel
theorem dX6_mix_31 : decode cX6_mix 31 = .ok (.ixor, 1) := by decide +kernel
theorem dX6_mix_32 : decode cX6_mix 32 = .ok (.istore_n 1, 1) := by decide +kernel
theorem dX6_mix_33 : decode cX6_mix 33 = .ok (.iload_n 1, 1) := by decide +kernel
theorem dX6_mix_34 : decode cX6_mix 34 = .ok (.ireturn, 1) := by decide +kernel
set_option maxRecDepth 20000 in
theorem ggX6_placeOf_X6_mix : GoodIn wsX6_placeOf wsX6_mix := goodIn_r _ [5, 6] (by decide +kernel) (by decide +kernel)
set_option maxRecDepth 20000 in
theorem gX6_placeOf_X6_mix : GoodIn wsX6_placeOf (va_wsS RX6 50 yX6_mix wsX6_mix) := goodIn_app (goodIn_of _ (by decide +kernel)) ggX6_placeOf_X6_mix
theorem dX6_placeOf_0 : decode cX6_placeOf 0 = .ok (.iload_n 0, 1) := by decide +kernel
theorem dX6_placeOf_1 : decode cX6_placeOf 1 = .ok (.invokestatic 50, 3) := by decide +kernel
theorem dX6_placeOf_4 : decode cX6_placeOf 4 = .ok (.i2l, 1) := by decide +kernel
theorem dX6_placeOf_5 : decode cX6_placeOf 5 = .ok (.ldc2_w 53, 3) := by decide +kernel
theorem dX6_placeOf_8 : decode cX6_placeOf 8 = .ok (.land, 1) := by decide +kernel
theorem dX6_placeOf_9 : decode cX6_placeOf 9 = .ok (.lreturn, 1) := by decide +kernel
set_option maxRecDepth 20000 in
theorem ggX6_byPoints_X6_placeOf : GoodIn wsX6_byPoints wsX6_placeOf := goodIn_r _ [6, 2, 7, 8, 5, 9, 10] (by decide +kernel) (by decide +kernel)
set_option maxRecDepth 20000 in
theorem gX6_byPoints_X6_placeOf : GoodIn wsX6_byPoints (va_wsS RX6 55 yX6_placeOf wsX6_placeOf) := goodIn_app (goodIn_of _ (by decide +kernel)) ggX6_byPoints_X6_placeOf
set_option maxRecDepth 20000 in
theorem ggX6_byPoints_X6_mayTake : GoodIn wsX6_byPoints wsX6_mayTake := goodIn_r _ [14, 1, 15, 16, 17, 18, 19, 20] (by decide +kernel) (by decide +kernel)
set_option maxRecDepth 20000 in
theorem gX6_byPoints_X6_mayTake : GoodIn wsX6_byPoints (wsV RX6 42 RX6 yX6_mayTake wsX6_mayTake) := goodIn_app (goodIn_of _ (by decide +kernel)) ggX6_byPoints_X6_mayTake
theorem dX6_byPoints_0 : decode cX6_byPoints 0 = .ok (.iload_n 1, 1) := by decide +kernel
theorem dX6_byPoints_1 : decode cX6_byPoints 1 = .ok (.invokestatic 55, 3) := by decide +kernel
theorem dX6_byPoints_4 : decode cX6_byPoints 4 = .ok (.lstore_n 3, 1) := by decide +kernel
theorem dX6_byPoints_5 : decode cX6_byPoints 5 = .ok (.lconst 0, 1) := by decide +kernel
theorem dX6_byPoints_6 : decode cX6_byPoints 6 = .ok (.lstore 5, 2) := by decide +kernel
theorem dX6_byPoints_8 : decode cX6_byPoints 8 = .ok (.iconst (-1), 1) := by decide +kernel
theorem dX6_byPoints_9 : decode cX6_byPoints 9 = .ok (.istore 7, 2) := by decide +kernel
theorem dX6_byPoints_11 : decode cX6_byPoints 11 = .ok (.iconst 0, 1) := by decide +kernel
theorem dX6_byPoints_12 : decode cX6_byPoints 12 = .ok (.istore 8, 2) := by decide +kernel
theorem dX6_byPoints_14 : decode cX6_byPoints 14 = .ok (.iload 8, 2) := by decide +kernel
theorem dX6_byPoints_16 : decode cX6_byPoints 16 = .ok (.aload_n 0, 1) := by decide +kernel
theorem dX6_byPoints_17 : decode cX6_byPoints 17 = .ok (.getfield 7, 3) := by decide +kernel
theorem dX6_byPoints_20 : decode cX6_byPoints 20 = .ok (.iconst 0, 1) := by decide +kernel
theorem dX6_byPoints_21 : decode cX6_byPoints 21 = .ok (.iaload, 1) := by decide +kernel
theorem dX6_byPoints_22 : decode cX6_byPoints 22 = .ok (.if_icmp .ge 89, 3) := by decide +kernel
theorem dX6_byPoints_25 : decode cX6_byPoints 25 = .ok (.iconst 0, 1) := by decide +kernel
theorem dX6_byPoints_26 : decode cX6_byPoints 26 = .ok (.istore 9, 2) := by decide +kernel
theorem dX6_byPoints_28 : decode cX6_byPoints 28 = .ok (.iload 9, 2) := by decide +kernel
theorem dX6_byPoints_30 : decode cX6_byPoints 30 = .ok (.iconst 4, 1) := by decide +kernel
theorem dX6_byPoints_31 : decode cX6_byPoints 31 = .ok (.aload_n 0, 1) := by decide +kernel
theorem dX6_byPoints_32 : decode cX6_byPoints 32 = .ok (.getfield 7, 3) := by decide +kernel
theorem dX6_byPoints_35 : decode cX6_byPoints 35 = .ok (.bipush 13, 2) := by decide +kernel
theorem dX6_byPoints_37 : decode cX6_byPoints 37 = .ok (.iload 8, 2) := by decide +kernel
theorem dX6_byPoints_39 : decode cX6_byPoints 39 = .ok (.iadd, 1) := by decide +kernel
theorem dX6_byPoints_40 : decode cX6_byPoints 40 = .ok (.iaload, 1) := by decide +kernel
theorem dX6_byPoints_41 : decode cX6_byPoints 41 = .ok (.imul, 1) := by decide +kernel
theorem dX6_byPoints_42 : decode cX6_byPoints 42 = .ok (.if_icmp .ge 63, 3) := by decide +kernel
theorem dX6_byPoints_45 : decode cX6_byPoints 45 = .ok (.iload_n 2, 1) := by decide +kernel
theorem dX6_byPoints_46 : decode cX6_byPoints 46 = .ok (.ifCond .ne 12, 3) := by decide +kernel
theorem dX6_byPoints_49 : decode cX6_byPoints 49 = .ok (.aload_n 0, 1) := by decide +kernel
theorem dX6_byPoints_50 : decode cX6_byPoints 50 = .ok (.iload 8, 2) := by decide +kernel
theorem dX6_byPoints_52 : decode cX6_byPoints 52 = .ok (.invokevirtual 42, 3) := by decide +kernel
theorem dX6_byPoints_55 : decode cX6_byPoints 55 = .ok (.ifCond .eq 50, 3) := by decide +kernel
theorem dX6_byPoints_58 : decode cX6_byPoints 58 = .ok (.sipush 1000, 3) := by decide +kernel
theorem dX6_byPoints_61 : decode cX6_byPoints 61 = .ok (.iload 8, 2) := by decide +kernel
theorem dX6_byPoints_63 : decode cX6_byPoints 63 = .ok (.imul, 1) := by decide +kernel
theorem dX6_byPoints_64 : decode cX6_byPoints 64 = .ok (.iload 9, 2) := by decide +kernel
theorem dX6_byPoints_66 : decode cX6_byPoints 66 = .ok (.iadd, 1) := by decide +kernel
theorem dX6_byPoints_67 : decode cX6_byPoints 67 = .ok (.invokestatic 55, 3) := by decide +kernel
theorem dX6_byPoints_70 : decode cX6_byPoints 70 = .ok (.lload_n 3, 1) := by decide +kernel
theorem dX6_byPoints_71 : decode cX6_byPoints 71 = .ok (.lsub, 1) := by decide +kernel
theorem dX6_byPoints_72 : decode cX6_byPoints 72 = .ok (.ldc2_w 53, 3) := by decide +kernel
theorem dX6_byPoints_75 : decode cX6_byPoints 75 = .ok (.land, 1) := by decide +kernel
theorem dX6_byPoints_76 : decode cX6_byPoints 76 = .ok (.lstore 10, 2) := by decide +kernel
theorem dX6_byPoints_78 : decode cX6_byPoints 78 = .ok (.iload 7, 2) := by decide +kernel
theorem dX6_byPoints_80 : decode cX6_byPoints 80 = .ok (.ifCond .lt 11, 3) := by decide +kernel
theorem dX6_byPoints_83 : decode cX6_byPoints 83 = .ok (.lload 10, 2) := by decide +kernel
theorem dX6_byPoints_85 : decode cX6_byPoints 85 = .ok (.lload 5, 2) := by decide +kernel
theorem dX6_byPoints_87 : decode cX6_byPoints 87 = .ok (.lcmp, 1) := by decide +kernel
theorem dX6_byPoints_88 : decode cX6_byPoints 88 = .ok (.ifCond .ge 11, 3) := by decide +kernel
theorem dX6_byPoints_91 : decode cX6_byPoints 91 = .ok (.iload 8, 2) := by decide +kernel
theorem dX6_byPoints_93 : decode cX6_byPoints 93 = .ok (.istore 7, 2) := by decide +kernel
theorem dX6_byPoints_95 : decode cX6_byPoints 95 = .ok (.lload 10, 2) := by decide +kernel
theorem dX6_byPoints_97 : decode cX6_byPoints 97 = .ok (.lstore 5, 2) := by decide +kernel
theorem dX6_byPoints_99 : decode cX6_byPoints 99 = .ok (.iinc 9 1, 3) := by decide +kernel
theorem dX6_byPoints_102 : decode cX6_byPoints 102 = .ok (.goto (-74), 3) := by decide +kernel
theorem dX6_byPoints_105 : decode cX6_byPoints 105 = .ok (.iinc 8 1, 3) := by decide +kernel
theorem dX6_byPoints_108 : decode cX6_byPoints 108 = .ok (.goto (-94), 3) := by decide +kernel
theorem dX6_byPoints_111 : decode cX6_byPoints 111 = .ok (.iload 7, 2) := by decide +kernel
theorem dX6_byPoints_113 : decode cX6_byPoints 113 = .ok (.ireturn, 1) := by decide +kernel
theorem dX6_nextSeed_0 : decode cX6_nextSeed 0 = .ok (.iload_n 0, 1) := by decide +kernel
theorem dX6_nextSeed_1 : decode cX6_nextSeed 1 = .ok (.ldc 59, 2) := by decide +kernel
theorem dX6_nextSeed_3 : decode cX6_nextSeed 3 = .ok (.imul, 1) := by decide +kernel
theorem dX6_nextSeed_4 : decode cX6_nextSeed 4 = .ok (.sipush 12345, 3) := by decide +kernel
theorem dX6_nextSeed_7 : decode cX6_nextSeed 7 = .ok (.iadd, 1) := by decide +kernel
theorem dX6_nextSeed_8 : decode cX6_nextSeed 8 = .ok (.ireturn, 1) := by decide +kernel
set_option maxRecDepth 20000 in
theorem ggX6_ofTwo_X6_nextSeed : GoodIn wsX6_ofTwo wsX6_nextSeed := goodIn_r _ [7, 8] (by decide +kernel) (by decide +kernel)
set_option maxRecDepth 20000 in
theorem gX6_ofTwo_X6_nextSeed : GoodIn wsX6_ofTwo (va_wsS RX6 60 yX6_nextSeed wsX6_nextSeed) := goodIn_app (goodIn_of _ (by decide +kernel)) ggX6_ofTwo_X6_nextSeed
theorem dX6_ofTwo_0 : decode cX6_ofTwo 0 = .ok (.aload_n 0, 1) := by decide +kernel
theorem dX6_ofTwo_1 : decode cX6_ofTwo 1 = .ok (.getfield 7, 3) := by decide +kernel
theorem dX6_ofTwo_4 : decode cX6_ofTwo 4 = .ok (.bipush 8, 2) := by decide +kernel
theorem dX6_ofTwo_6 : decode cX6_ofTwo 6 = .ok (.iaload, 1) := by decide +kernel
theorem dX6_ofTwo_7 : decode cX6_ofTwo 7 = .ok (.invokestatic 60, 3) := by decide +kernel
theorem dX6_ofTwo_10 : decode cX6_ofTwo 10 = .ok (.istore_n 1, 1) := by decide +kernel
theorem dX6_ofTwo_11 : decode cX6_ofTwo 11 = .ok (.iload_n 1, 1) := by decide +kernel
theorem dX6_ofTwo_12 : decode cX6_ofTwo 12 = .ok (.invokestatic 60, 3) := by decide +kernel
theorem dX6_ofTwo_15 : decode cX6_ofTwo 15 = .ok (.istore_n 2, 1) := by decide +kernel
theorem dX6_ofTwo_16 : decode cX6_ofTwo 16 = .ok (.aload_n 0, 1) := by decide +kernel
theorem dX6_ofTwo_17 : decode cX6_ofTwo 17 = .ok (.getfield 20, 3) := by decide +kernel
theorem dX6_ofTwo_20 : decode cX6_ofTwo 20 = .ok (.iload_n 1, 1) := by decide +kernel
theorem dX6_ofTwo_21 : decode cX6_ofTwo 21 = .ok (.bipush 16, 2) := by decide +kernel
theorem dX6_ofTwo_23 : decode cX6_ofTwo 23 = .ok (.iushr, 1) := by decide +kernel
theorem dX6_ofTwo_24 : decode cX6_ofTwo 24 = .ok (.aload_n 0, 1) := by decide +kernel
theorem dX6_ofTwo_25 : decode cX6_ofTwo 25 = .ok (.getfield 39, 3) := by decide +kernel
theorem dX6_ofTwo_28 : decode cX6_ofTwo 28 = .ok (.irem, 1) := by decide +kernel
theorem dX6_ofTwo_29 : decode cX6_ofTwo 29 = .ok (.iaload, 1) := by decide +kernel
theorem dX6_ofTwo_30 : decode cX6_ofTwo 30 = .ok (.istore_n 3, 1) := by decide +kernel
theorem dX6_ofTwo_31 : decode cX6_ofTwo 31 = .ok (.aload_n 0, 1) := by decide +kernel
theorem dX6_ofTwo_32 : decode cX6_ofTwo 32 = .ok (.getfield 20, 3) := by decide +kernel
theorem dX6_ofTwo_35 : decode cX6_ofTwo 35 = .ok (.iload_n 2, 1) := by decide +kernel
theorem dX6_ofTwo_36 : decode cX6_ofTwo 36 = .ok (.bipush 16, 2) := by decide +kernel
theorem dX6_ofTwo_38 : decode cX6_ofTwo 38 = .ok (.iushr, 1) := by decide +kernel
theorem dX6_ofTwo_39 : decode cX6_ofTwo 39 = .ok (.aload_n 0, 1) := by decide +kernel
theorem dX6_ofTwo_40 : decode cX6_ofTwo 40 = .ok (.getfield 39, 3) := by decide +kernel
theorem dX6_ofTwo_43 : decode cX6_ofTwo 43 = .ok (.irem, 1) := by decide +kernel
theorem dX6_ofTwo_44 : decode cX6_ofTwo 44 = .ok (.iaload, 1) := by decide +kernel
theorem dX6_ofTwo_45 : decode cX6_ofTwo 45 = .ok (.istore 4, 2) := by decide +kernel
theorem dX6_ofTwo_47 : decode cX6_ofTwo 47 = .ok (.aload_n 0, 1) := by decide +kernel
theorem dX6_ofTwo_48 : decode cX6_ofTwo 48 = .ok (.getfield 7, 3) := by decide +kernel
theorem dX6_ofTwo_51 : decode cX6_ofTwo 51 = .ok (.bipush 33, 2) := by decide +kernel
theorem dX6_ofTwo_53 : decode cX6_ofTwo 53 = .ok (.iload 4, 2) := by decide +kernel
theorem dX6_ofTwo_55 : decode cX6_ofTwo 55 = .ok (.iadd, 1) := by decide +kernel
theorem dX6_ofTwo_56 : decode cX6_ofTwo 56 = .ok (.iaload, 1) := by decide +kernel
theorem dX6_ofTwo_57 : decode cX6_ofTwo 57 = .ok (.aload_n 0, 1) := by decide +kernel
theorem dX6_ofTwo_58 : decode cX6_ofTwo 58 = .ok (.getfield 7, 3) := by decide +kernel
theorem dX6_ofTwo_61 : decode cX6_ofTwo 61 = .ok (.bipush 33, 2) := by decide +kernel
theorem dX6_ofTwo_63 : decode cX6_ofTwo 63 = .ok (.iload_n 3, 1) := by decide +kernel
theorem dX6_ofTwo_64 : decode cX6_ofTwo 64 = .ok (.iadd, 1) := by decide +kernel
theorem dX6_ofTwo_65 : decode cX6_ofTwo 65 = .ok (.iaload, 1) := by decide +kernel
theorem dX6_ofTwo_66 : decode cX6_ofTwo 66 = .ok (.if_icmp .ge 8, 3) := by decide +kernel
theorem dX6_ofTwo_69 : decode cX6_ofTwo 69 = .ok (.iload 4, 2) := by decide +kernel
theorem dX6_ofTwo_71 : decode cX6_ofTwo 71 = .ok (.goto 4, 3) := by decide +kernel
theorem dX6_ofTwo_74 : decode cX6_ofTwo 74 = .ok (.iload_n 3, 1) := by decide +kernel
theorem dX6_ofTwo_75 : decode cX6_ofTwo 75 = .ok (.ireturn, 1) := by decide +kernel
set_option maxRecDepth 20000 in
theorem ggX6_byPolicy_X6_nextInTurn : GoodIn wsX6_byPolicy wsX6_nextInTurn := goodIn_r _ [6, 7, 8, 1, 45, 46, 47, 48, 49, 50] (by decide +kernel) (by decide +kernel)
set_option maxRecDepth 20000 in
theorem gX6_byPolicy_X6_nextInTurn : GoodIn wsX6_byPolicy (wsV RX6 63 RX6 yX6_nextInTurn wsX6_nextInTurn) := goodIn_app (goodIn_of _ (by decide +kernel)) ggX6_byPolicy_X6_nextInTurn
set_option maxRecDepth 20000 in
theorem ggX6_byPolicy_X6_mostCredit : GoodIn wsX6_byPolicy wsX6_mostCredit := goodIn_r _ [12, 8, 7, 1, 13, 14, 15, 5, 16, 45, 46, 47, 48, 49, 50] (by decide +kernel) (by decide +kernel)
set_option maxRecDepth 20000 in
theorem gX6_byPolicy_X6_mostCredit : GoodIn wsX6_byPolicy (wsV RX6 67 RX6 yX6_mostCredit wsX6_mostCredit) := goodIn_app (goodIn_of _ (by decide +kernel)) ggX6_byPolicy_X6_mostCredit
set_option maxRecDepth 20000 in
theorem ggX6_byPolicy_X6_leastBusy : GoodIn wsX6_byPolicy wsX6_leastBusy := goodIn_r _ [20, 8, 7, 1, 13, 14, 15, 5, 16, 45, 46, 47, 48, 49, 50] (by decide +kernel) (by decide +kernel)
set_option maxRecDepth 20000 in
theorem gX6_byPolicy_X6_leastBusy : GoodIn wsX6_byPolicy (wsV RX6 70 RX6 yX6_leastBusy wsX6_leastBusy) := goodIn_app (goodIn_of _ (by decide +kernel)) ggX6_byPolicy_X6_leastBusy
set_option maxRecDepth 20000 in
theorem ggX6_byPolicy_X6_byPoints : GoodIn wsX6_byPolicy wsX6_byPoints := goodIn_r _ [24, 1, 25, 26, 27, 5, 28, 29, 30, 31, 32, 33, 34, 35, 36, 45, 46, 47, 48, 49, 50] (by decide +kernel) (by decide +kernel)
set_option maxRecDepth 20000 in
theorem gX6_byPolicy_X6_byPoints : GoodIn wsX6_byPolicy (wsV RX6 73 RX6 yX6_byPoints wsX6_byPoints) := goodIn_app (goodIn_of _ (by decide +kernel)) ggX6_byPolicy_X6_byPoints
set_option maxRecDepth 20000 in
theorem ggX6_byPolicy_X6_ofTwo : GoodIn wsX6_byPolicy wsX6_ofTwo := goodIn_r _ [40, 1, 8, 7, 41, 42, 5, 43, 44, 45, 46, 47, 48, 49, 50] (by decide +kernel) (by decide +kernel)
set_option maxRecDepth 20000 in
theorem gX6_byPolicy_X6_ofTwo : GoodIn wsX6_byPolicy (wsV RX6 77 RX6 yX6_ofTwo wsX6_ofTwo) := goodIn_app (goodIn_of _ (by decide +kernel)) ggX6_byPolicy_X6_ofTwo
theorem dX6_byPolicy_0 : decode cX6_byPolicy 0 = .ok (.aload_n 0, 1) := by decide +kernel
theorem dX6_byPolicy_1 : decode cX6_byPolicy 1 = .ok (.getfield 7, 3) := by decide +kernel
theorem dX6_byPolicy_4 : decode cX6_byPolicy 4 = .ok (.bipush 7, 2) := by decide +kernel
theorem dX6_byPolicy_6 : decode cX6_byPolicy 6 = .ok (.iaload, 1) := by decide +kernel
theorem dX6_byPolicy_7 : decode cX6_byPolicy 7 = .ok (.tableswitch 51 0 3 #[29, 34, 39, 44], 29) := by decide +kernel
theorem dX6_byPolicy_36 : decode cX6_byPolicy 36 = .ok (.aload_n 0, 1) := by decide +kernel
theorem dX6_byPolicy_37 : decode cX6_byPolicy 37 = .ok (.invokevirtual 63, 3) := by decide +kernel
theorem dX6_byPolicy_40 : decode cX6_byPolicy 40 = .ok (.ireturn, 1) := by decide +kernel
theorem dX6_byPolicy_41 : decode cX6_byPolicy 41 = .ok (.aload_n 0, 1) := by decide +kernel
theorem dX6_byPolicy_42 : decode cX6_byPolicy 42 = .ok (.invokevirtual 67, 3) := by decide +kernel
theorem dX6_byPolicy_45 : decode cX6_byPolicy 45 = .ok (.ireturn, 1) := by decide +kernel
theorem dX6_byPolicy_46 : decode cX6_byPolicy 46 = .ok (.aload_n 0, 1) := by decide +kernel
theorem dX6_byPolicy_47 : decode cX6_byPolicy 47 = .ok (.invokevirtual 70, 3) := by decide +kernel
theorem dX6_byPolicy_50 : decode cX6_byPolicy 50 = .ok (.ireturn, 1) := by decide +kernel
theorem dX6_byPolicy_51 : decode cX6_byPolicy 51 = .ok (.aload_n 0, 1) := by decide +kernel
theorem dX6_byPolicy_52 : decode cX6_byPolicy 52 = .ok (.iload_n 1, 1) := by decide +kernel
theorem dX6_byPolicy_53 : decode cX6_byPolicy 53 = .ok (.iconst 0, 1) := by decide +kernel
theorem dX6_byPolicy_54 : decode cX6_byPolicy 54 = .ok (.invokevirtual 73, 3) := by decide +kernel
theorem dX6_byPolicy_57 : decode cX6_byPolicy 57 = .ok (.ireturn, 1) := by decide +kernel
theorem dX6_byPolicy_58 : decode cX6_byPolicy 58 = .ok (.aload_n 0, 1) := by decide +kernel
theorem dX6_byPolicy_59 : decode cX6_byPolicy 59 = .ok (.invokevirtual 77, 3) := by decide +kernel
theorem dX6_byPolicy_62 : decode cX6_byPolicy 62 = .ok (.ireturn, 1) := by decide +kernel
set_option maxRecDepth 20000 in
theorem ggX6_note_X6_weightNow : GoodIn wsX6_note wsX6_weightNow := goodIn_r _ [8, 1, 13, 14, 15, 16, 17, 18] (by decide +kernel) (by decide +kernel)
set_option maxRecDepth 20000 in
theorem gX6_note_X6_weightNow : GoodIn wsX6_note (wsV RX6 45 RX6 yX6_weightNow wsX6_weightNow) := goodIn_app (goodIn_of _ (by decide +kernel)) ggX6_note_X6_weightNow
set_option maxRecDepth 20000 in
theorem ggX6_note_X6_nextSeed : GoodIn wsX6_note wsX6_nextSeed := goodIn_r _ [11, 12] (by decide +kernel) (by decide +kernel)
set_option maxRecDepth 20000 in
theorem gX6_note_X6_nextSeed : GoodIn wsX6_note (va_wsS RX6 60 yX6_nextSeed wsX6_nextSeed) := goodIn_app (goodIn_of _ (by decide +kernel)) ggX6_note_X6_nextSeed
theorem dX6_note_0 : decode cX6_note 0 = .ok (.aload_n 0, 1) := by decide +kernel
theorem dX6_note_1 : decode cX6_note 1 = .ok (.getfield 7, 3) := by decide +kernel
theorem dX6_note_4 : decode cX6_note 4 = .ok (.bipush 7, 2) := by decide +kernel
theorem dX6_note_6 : decode cX6_note 6 = .ok (.iaload, 1) := by decide +kernel
theorem dX6_note_7 : decode cX6_note 7 = .ok (.ifCond .ne 14, 3) := by decide +kernel
theorem dX6_note_10 : decode cX6_note 10 = .ok (.aload_n 0, 1) := by decide +kernel
theorem dX6_note_11 : decode cX6_note 11 = .ok (.getfield 7, 3) := by decide +kernel
theorem dX6_note_14 : decode cX6_note 14 = .ok (.bipush 9, 2) := by decide +kernel
theorem dX6_note_16 : decode cX6_note 16 = .ok (.iload_n 1, 1) := by decide +kernel
theorem dX6_note_17 : decode cX6_note 17 = .ok (.iastore, 1) := by decide +kernel
theorem dX6_note_18 : decode cX6_note 18 = .ok (.goto 119, 3) := by decide +kernel
theorem dX6_note_21 : decode cX6_note 21 = .ok (.aload_n 0, 1) := by decide +kernel
theorem dX6_note_22 : decode cX6_note 22 = .ok (.getfield 7, 3) := by decide +kernel
theorem dX6_note_25 : decode cX6_note 25 = .ok (.bipush 7, 2) := by decide +kernel
theorem dX6_note_27 : decode cX6_note 27 = .ok (.iaload, 1) := by decide +kernel
theorem dX6_note_28 : decode cX6_note 28 = .ok (.iconst 1, 1) := by decide +kernel
theorem dX6_note_29 : decode cX6_note 29 = .ok (.if_icmp .ne 77, 3) := by decide +kernel
theorem dX6_note_32 : decode cX6_note 32 = .ok (.iconst 0, 1) := by decide +kernel
theorem dX6_note_33 : decode cX6_note 33 = .ok (.istore_n 2, 1) := by decide +kernel
theorem dX6_note_34 : decode cX6_note 34 = .ok (.iconst 0, 1) := by decide +kernel
theorem dX6_note_35 : decode cX6_note 35 = .ok (.istore_n 3, 1) := by decide +kernel
theorem dX6_note_36 : decode cX6_note 36 = .ok (.iload_n 3, 1) := by decide +kernel
theorem dX6_note_37 : decode cX6_note 37 = .ok (.aload_n 0, 1) := by decide +kernel
theorem dX6_note_38 : decode cX6_note 38 = .ok (.getfield 39, 3) := by decide +kernel
theorem dX6_note_41 : decode cX6_note 41 = .ok (.if_icmp .ge 49, 3) := by decide +kernel
theorem dX6_note_44 : decode cX6_note 44 = .ok (.aload_n 0, 1) := by decide +kernel
theorem dX6_note_45 : decode cX6_note 45 = .ok (.getfield 7, 3) := by decide +kernel
theorem dX6_note_48 : decode cX6_note 48 = .ok (.bipush 113, 2) := by decide +kernel
theorem dX6_note_50 : decode cX6_note 50 = .ok (.aload_n 0, 1) := by decide +kernel
theorem dX6_note_51 : decode cX6_note 51 = .ok (.getfield 20, 3) := by decide +kernel
theorem dX6_note_54 : decode cX6_note 54 = .ok (.iload_n 3, 1) := by decide +kernel
theorem dX6_note_55 : decode cX6_note 55 = .ok (.iaload, 1) := by decide +kernel
theorem dX6_note_56 : decode cX6_note 56 = .ok (.iadd, 1) := by decide +kernel
theorem dX6_note_57 : decode cX6_note 57 = .ok (.dup2, 1) := by decide +kernel
theorem dX6_note_58 : decode cX6_note 58 = .ok (.iaload, 1) := by decide +kernel
theorem dX6_note_59 : decode cX6_note 59 = .ok (.aload_n 0, 1) := by decide +kernel
theorem dX6_note_60 : decode cX6_note 60 = .ok (.aload_n 0, 1) := by decide +kernel
theorem dX6_note_61 : decode cX6_note 61 = .ok (.getfield 20, 3) := by decide +kernel
theorem dX6_note_64 : decode cX6_note 64 = .ok (.iload_n 3, 1) := by decide +kernel
theorem dX6_note_65 : decode cX6_note 65 = .ok (.iaload, 1) := by decide +kernel
theorem dX6_note_66 : decode cX6_note 66 = .ok (.invokevirtual 45, 3) := by decide +kernel
theorem dX6_note_69 : decode cX6_note 69 = .ok (.iadd, 1) := by decide +kernel
theorem dX6_note_70 : decode cX6_note 70 = .ok (.iastore, 1) := by decide +kernel
theorem dX6_note_71 : decode cX6_note 71 = .ok (.iload_n 2, 1) := by decide +kernel
theorem dX6_note_72 : decode cX6_note 72 = .ok (.aload_n 0, 1) := by decide +kernel
theorem dX6_note_73 : decode cX6_note 73 = .ok (.aload_n 0, 1) := by decide +kernel
theorem dX6_note_74 : decode cX6_note 74 = .ok (.getfield 20, 3) := by decide +kernel
theorem dX6_note_77 : decode cX6_note 77 = .ok (.iload_n 3, 1) := by decide +kernel
theorem dX6_note_78 : decode cX6_note 78 = .ok (.iaload, 1) := by decide +kernel
theorem dX6_note_79 : decode cX6_note 79 = .ok (.invokevirtual 45, 3) := by decide +kernel
theorem dX6_note_82 : decode cX6_note 82 = .ok (.iadd, 1) := by decide +kernel
theorem dX6_note_83 : decode cX6_note 83 = .ok (.istore_n 2, 1) := by decide +kernel
theorem dX6_note_84 : decode cX6_note 84 = .ok (.iinc 3 1, 3) := by decide +kernel
theorem dX6_note_87 : decode cX6_note 87 = .ok (.goto (-51), 3) := by decide +kernel
theorem dX6_note_90 : decode cX6_note 90 = .ok (.aload_n 0, 1) := by decide +kernel
theorem dX6_note_91 : decode cX6_note 91 = .ok (.getfield 7, 3) := by decide +kernel
theorem dX6_note_94 : decode cX6_note 94 = .ok (.bipush 113, 2) := by decide +kernel
theorem dX6_note_96 : decode cX6_note 96 = .ok (.iload_n 1, 1) := by decide +kernel
theorem dX6_note_97 : decode cX6_note 97 = .ok (.iadd, 1) := by decide +kernel
theorem dX6_note_98 : decode cX6_note 98 = .ok (.dup2, 1) := by decide +kernel
theorem dX6_note_99 : decode cX6_note 99 = .ok (.iaload, 1) := by decide +kernel
theorem dX6_note_100 : decode cX6_note 100 = .ok (.iload_n 2, 1) := by decide +kernel
theorem dX6_note_101 : decode cX6_note 101 = .ok (.isub, 1) := by decide +kernel
theorem dX6_note_102 : decode cX6_note 102 = .ok (.iastore, 1) := by decide +kernel
theorem dX6_note_103 : decode cX6_note 103 = .ok (.goto 34, 3) := by decide +kernel
theorem dX6_note_106 : decode cX6_note 106 = .ok (.aload_n 0, 1) := by decide +kernel
theorem dX6_note_107 : decode cX6_note 107 = .ok (.getfield 7, 3) := by decide +kernel
theorem dX6_note_110 : decode cX6_note 110 = .ok (.bipush 7, 2) := by decide +kernel
theorem dX6_note_112 : decode cX6_note 112 = .ok (.iaload, 1) := by decide +kernel
theorem dX6_note_113 : decode cX6_note 113 = .ok (.iconst 3, 1) := by decide +kernel
theorem dX6_note_114 : decode cX6_note 114 = .ok (.if_icmp .le 23, 3) := by decide +kernel
theorem dX6_note_117 : decode cX6_note 117 = .ok (.aload_n 0, 1) := by decide +kernel
theorem dX6_note_118 : decode cX6_note 118 = .ok (.getfield 7, 3) := by decide +kernel
theorem dX6_note_121 : decode cX6_note 121 = .ok (.bipush 8, 2) := by decide +kernel
theorem dX6_note_123 : decode cX6_note 123 = .ok (.aload_n 0, 1) := by decide +kernel
theorem dX6_note_124 : decode cX6_note 124 = .ok (.getfield 7, 3) := by decide +kernel
theorem dX6_note_127 : decode cX6_note 127 = .ok (.bipush 8, 2) := by decide +kernel
theorem dX6_note_129 : decode cX6_note 129 = .ok (.iaload, 1) := by decide +kernel
theorem dX6_note_130 : decode cX6_note 130 = .ok (.invokestatic 60, 3) := by decide +kernel
theorem dX6_note_133 : decode cX6_note 133 = .ok (.invokestatic 60, 3) := by decide +kernel
theorem dX6_note_136 : decode cX6_note 136 = .ok (.iastore, 1) := by decide +kernel
theorem dX6_note_137 : decode cX6_note 137 = .ok (.return_, 1) := by decide +kernel
theorem dX6_placeOfClient_0 : decode cX6_placeOfClient 0 = .ok (.iconst 0, 1) := by decide +kernel
theorem dX6_placeOfClient_1 : decode cX6_placeOfClient 1 = .ok (.istore_n 2, 1) := by decide +kernel
theorem dX6_placeOfClient_2 : decode cX6_placeOfClient 2 = .ok (.iload_n 2, 1) := by decide +kernel
theorem dX6_placeOfClient_3 : decode cX6_placeOfClient 3 = .ok (.aload_n 0, 1) := by decide +kernel
theorem dX6_placeOfClient_4 : decode cX6_placeOfClient 4 = .ok (.getfield 7, 3) := by decide +kernel
theorem dX6_placeOfClient_7 : decode cX6_placeOfClient 7 = .ok (.bipush 12, 2) := by decide +kernel
theorem dX6_placeOfClient_9 : decode cX6_placeOfClient 9 = .ok (.iaload, 1) := by decide +kernel
theorem dX6_placeOfClient_10 : decode cX6_placeOfClient 10 = .ok (.if_icmp .ge 25, 3) := by decide +kernel
theorem dX6_placeOfClient_13 : decode cX6_placeOfClient 13 = .ok (.aload_n 0, 1) := by decide +kernel
theorem dX6_placeOfClient_14 : decode cX6_placeOfClient 14 = .ok (.getfield 7, 3) := by decide +kernel
theorem dX6_placeOfClient_17 : decode cX6_placeOfClient 17 = .ok (.sipush 143, 3) := by decide +kernel
theorem dX6_placeOfClient_20 : decode cX6_placeOfClient 20 = .ok (.iload_n 2, 1) := by decide +kernel
theorem dX6_placeOfClient_21 : decode cX6_placeOfClient 21 = .ok (.iadd, 1) := by decide +kernel
theorem dX6_placeOfClient_22 : decode cX6_placeOfClient 22 = .ok (.iaload, 1) := by decide +kernel
theorem dX6_placeOfClient_23 : decode cX6_placeOfClient 23 = .ok (.iload_n 1, 1) := by decide +kernel
theorem dX6_placeOfClient_24 : decode cX6_placeOfClient 24 = .ok (.if_icmp .ne 5, 3) := by decide +kernel
theorem dX6_placeOfClient_27 : decode cX6_placeOfClient 27 = .ok (.iload_n 2, 1) := by decide +kernel
theorem dX6_placeOfClient_28 : decode cX6_placeOfClient 28 = .ok (.ireturn, 1) := by decide +kernel
theorem dX6_placeOfClient_29 : decode cX6_placeOfClient 29 = .ok (.iinc 2 1, 3) := by decide +kernel
theorem dX6_placeOfClient_32 : decode cX6_placeOfClient 32 = .ok (.goto (-30), 3) := by decide +kernel
theorem dX6_placeOfClient_35 : decode cX6_placeOfClient 35 = .ok (.iconst (-1), 1) := by decide +kernel
theorem dX6_placeOfClient_36 : decode cX6_placeOfClient 36 = .ok (.ireturn, 1) := by decide +kernel
set_option maxRecDepth 20000 in
theorem ggX6_stuckTo_X6_placeOfClient : GoodIn wsX6_stuckTo wsX6_placeOfClient := goodIn_r _ [6, 1, 11, 12, 13, 14, 15, 16] (by decide +kernel) (by decide +kernel)
set_option maxRecDepth 20000 in
theorem gX6_stuckTo_X6_placeOfClient : GoodIn wsX6_stuckTo (wsV RX6 80 RX6 yX6_placeOfClient wsX6_placeOfClient) := goodIn_app (goodIn_of _ (by decide +kernel)) ggX6_stuckTo_X6_placeOfClient
set_option maxRecDepth 20000 in
theorem ggX6_stuckTo_X6_mayTake : GoodIn wsX6_stuckTo wsX6_mayTake := goodIn_r _ [10, 1, 11, 12, 13, 14, 15, 16] (by decide +kernel) (by decide +kernel)
set_option maxRecDepth 20000 in
theorem gX6_stuckTo_X6_mayTake : GoodIn wsX6_stuckTo (wsV RX6 42 RX6 yX6_mayTake wsX6_mayTake) := goodIn_app (goodIn_of _ (by decide +kernel)) ggX6_stuckTo_X6_mayTake
theorem dX6_stuckTo_0 : decode cX6_stuckTo 0 = .ok (.aload_n 0, 1) := by decide +kernel
theorem dX6_stuckTo_1 : decode cX6_stuckTo 1 = .ok (.iload_n 1, 1) := by decide +kernel
theorem dX6_stuckTo_2 : decode cX6_stuckTo 2 = .ok (.invokevirtual 80, 3) := by decide +kernel
theorem dX6_stuckTo_5 : decode cX6_stuckTo 5 = .ok (.istore_n 2, 1) := by decide +kernel
theorem dX6_stuckTo_6 : decode cX6_stuckTo 6 = .ok (.iload_n 2, 1) := by decide +kernel
theorem dX6_stuckTo_7 : decode cX6_stuckTo 7 = .ok (.ifCond .lt 47, 3) := by decide +kernel
theorem dX6_stuckTo_10 : decode cX6_stuckTo 10 = .ok (.aload_n 0, 1) := by decide +kernel
theorem dX6_stuckTo_11 : decode cX6_stuckTo 11 = .ok (.getfield 7, 3) := by decide +kernel
theorem dX6_stuckTo_14 : decode cX6_stuckTo 14 = .ok (.iconst 1, 1) := by decide +kernel
theorem dX6_stuckTo_15 : decode cX6_stuckTo 15 = .ok (.iaload, 1) := by decide +kernel
theorem dX6_stuckTo_16 : decode cX6_stuckTo 16 = .ok (.aload_n 0, 1) := by decide +kernel
theorem dX6_stuckTo_17 : decode cX6_stuckTo 17 = .ok (.getfield 7, 3) := by decide +kernel
theorem dX6_stuckTo_20 : decode cX6_stuckTo 20 = .ok (.sipush 183, 3) := by decide +kernel
theorem dX6_stuckTo_23 : decode cX6_stuckTo 23 = .ok (.iload_n 2, 1) := by decide +kernel
theorem dX6_stuckTo_24 : decode cX6_stuckTo 24 = .ok (.iadd, 1) := by decide +kernel
theorem dX6_stuckTo_25 : decode cX6_stuckTo 25 = .ok (.iaload, 1) := by decide +kernel
theorem dX6_stuckTo_26 : decode cX6_stuckTo 26 = .ok (.isub, 1) := by decide +kernel
theorem dX6_stuckTo_27 : decode cX6_stuckTo 27 = .ok (.aload_n 0, 1) := by decide +kernel
theorem dX6_stuckTo_28 : decode cX6_stuckTo 28 = .ok (.getfield 7, 3) := by decide +kernel
theorem dX6_stuckTo_31 : decode cX6_stuckTo 31 = .ok (.bipush 6, 2) := by decide +kernel
theorem dX6_stuckTo_33 : decode cX6_stuckTo 33 = .ok (.iaload, 1) := by decide +kernel
theorem dX6_stuckTo_34 : decode cX6_stuckTo 34 = .ok (.if_icmp .ge 20, 3) := by decide +kernel
theorem dX6_stuckTo_37 : decode cX6_stuckTo 37 = .ok (.aload_n 0, 1) := by decide +kernel
theorem dX6_stuckTo_38 : decode cX6_stuckTo 38 = .ok (.aload_n 0, 1) := by decide +kernel
theorem dX6_stuckTo_39 : decode cX6_stuckTo 39 = .ok (.getfield 7, 3) := by decide +kernel
theorem dX6_stuckTo_42 : decode cX6_stuckTo 42 = .ok (.sipush 223, 3) := by decide +kernel
theorem dX6_stuckTo_45 : decode cX6_stuckTo 45 = .ok (.iload_n 2, 1) := by decide +kernel
theorem dX6_stuckTo_46 : decode cX6_stuckTo 46 = .ok (.iadd, 1) := by decide +kernel
theorem dX6_stuckTo_47 : decode cX6_stuckTo 47 = .ok (.iaload, 1) := by decide +kernel
theorem dX6_stuckTo_48 : decode cX6_stuckTo 48 = .ok (.invokevirtual 42, 3) := by decide +kernel
theorem dX6_stuckTo_51 : decode cX6_stuckTo 51 = .ok (.ifCond .ne 5, 3) := by decide +kernel
theorem dX6_stuckTo_54 : decode cX6_stuckTo 54 = .ok (.iconst (-1), 1) := by decide +kernel
theorem dX6_stuckTo_55 : decode cX6_stuckTo 55 = .ok (.ireturn, 1) := by decide +kernel
theorem dX6_stuckTo_56 : decode cX6_stuckTo 56 = .ok (.aload_n 0, 1) := by decide +kernel
theorem dX6_stuckTo_57 : decode cX6_stuckTo 57 = .ok (.getfield 7, 3) := by decide +kernel
theorem dX6_stuckTo_60 : decode cX6_stuckTo 60 = .ok (.sipush 223, 3) := by decide +kernel
theorem dX6_stuckTo_63 : decode cX6_stuckTo 63 = .ok (.iload_n 2, 1) := by decide +kernel
theorem dX6_stuckTo_64 : decode cX6_stuckTo 64 = .ok (.iadd, 1) := by decide +kernel
theorem dX6_stuckTo_65 : decode cX6_stuckTo 65 = .ok (.iaload, 1) := by decide +kernel
theorem dX6_stuckTo_66 : decode cX6_stuckTo 66 = .ok (.ireturn, 1) := by decide +kernel
set_option maxRecDepth 20000 in
theorem ggX6_choice_X6_layRow : GoodIn wsX6_choice wsX6_layRow := goodIn_r _ [7, 2, 1, 8, 9, 10, 11, 6, 12, 61, 62, 63, 64, 65, 66] (by decide +kernel) (by decide +kernel)
set_option maxRecDepth 20000 in
theorem gX6_choice_X6_layRow : GoodIn wsX6_choice (wsV RX6 83 RX6 yX6_layRow wsX6_layRow) := goodIn_app (goodIn_of _ (by decide +kernel)) ggX6_choice_X6_layRow
set_option maxRecDepth 20000 in
theorem ggX6_choice_X6_stuckTo : GoodIn wsX6_choice wsX6_stuckTo := goodIn_r _ [16, 1, 17, 18, 19, 6, 20, 9, 10, 11, 12, 61, 62, 63, 64, 65, 66] (by decide +kernel) (by decide +kernel)
set_option maxRecDepth 20000 in
theorem gX6_choice_X6_stuckTo : GoodIn wsX6_choice (wsV RX6 86 RX6 yX6_stuckTo wsX6_stuckTo) := goodIn_app (goodIn_of _ (by decide +kernel)) ggX6_choice_X6_stuckTo
set_option maxRecDepth 20000 in
theorem ggX6_choice_X6_byPolicy : GoodIn wsX6_choice wsX6_byPolicy := goodIn_r _ [24, 1, 25, 26, 27, 6, 28, 2, 8, 29, 30, 31, 32, 33, 34, 35, 36, 37, 38, 39, 40, 41, 42, 43, 44, 45, 46, 47, 48, 49, 50, 51, 52, 9, 10, 11, 12, 53, 54, 55, 56, 57, 58, 59, 60, 61, 62, 63, 64, 65, 66] (by decide +kernel) (by decide +kernel)
set_option maxRecDepth 20000 in
theorem gX6_choice_X6_byPolicy : GoodIn wsX6_choice (wsV RX6 89 RX6 yX6_byPolicy wsX6_byPolicy) := goodIn_app (goodIn_of _ (by decide +kernel)) ggX6_choice_X6_byPolicy
theorem dX6_choice_0 : decode cX6_choice 0 = .ok (.aload_n 0, 1) := by decide +kernel
theorem dX6_choice_1 : decode cX6_choice 1 = .ok (.invokevirtual 83, 3) := by decide +kernel
theorem dX6_choice_4 : decode cX6_choice 4 = .ok (.aload_n 0, 1) := by decide +kernel
theorem dX6_choice_5 : decode cX6_choice 5 = .ok (.getfield 7, 3) := by decide +kernel
theorem dX6_choice_8 : decode cX6_choice 8 = .ok (.bipush 10, 2) := by decide +kernel
theorem dX6_choice_10 : decode cX6_choice 10 = .ok (.iaload, 1) := by decide +kernel
theorem dX6_choice_11 : decode cX6_choice 11 = .ok (.sipush 1000, 3) := by decide +kernel
theorem dX6_choice_14 : decode cX6_choice 14 = .ok (.if_icmp .eq 10, 3) := by decide +kernel
theorem dX6_choice_17 : decode cX6_choice 17 = .ok (.aload_n 0, 1) := by decide +kernel
theorem dX6_choice_18 : decode cX6_choice 18 = .ok (.getfield 39, 3) := by decide +kernel
theorem dX6_choice_21 : decode cX6_choice 21 = .ok (.ifCond .ne 5, 3) := by decide +kernel
theorem dX6_choice_24 : decode cX6_choice 24 = .ok (.iconst (-1), 1) := by decide +kernel
theorem dX6_choice_25 : decode cX6_choice 25 = .ok (.ireturn, 1) := by decide +kernel
theorem dX6_choice_26 : decode cX6_choice 26 = .ok (.aload_n 0, 1) := by decide +kernel
theorem dX6_choice_27 : decode cX6_choice 27 = .ok (.iload_n 1, 1) := by decide +kernel
theorem dX6_choice_28 : decode cX6_choice 28 = .ok (.invokevirtual 86, 3) := by decide +kernel
theorem dX6_choice_31 : decode cX6_choice 31 = .ok (.istore_n 2, 1) := by decide +kernel
theorem dX6_choice_32 : decode cX6_choice 32 = .ok (.iload_n 2, 1) := by decide +kernel
theorem dX6_choice_33 : decode cX6_choice 33 = .ok (.ifCond .lt 7, 3) := by decide +kernel
theorem dX6_choice_36 : decode cX6_choice 36 = .ok (.iload_n 2, 1) := by decide +kernel
theorem dX6_choice_37 : decode cX6_choice 37 = .ok (.goto 8, 3) := by decide +kernel
theorem dX6_choice_40 : decode cX6_choice 40 = .ok (.aload_n 0, 1) := by decide +kernel
theorem dX6_choice_41 : decode cX6_choice 41 = .ok (.iload_n 1, 1) := by decide +kernel
theorem dX6_choice_42 : decode cX6_choice 42 = .ok (.invokevirtual 89, 3) := by decide +kernel
theorem dX6_choice_45 : decode cX6_choice 45 = .ok (.ireturn, 1) := by decide +kernel
set_option maxRecDepth 20000 in
theorem ggX6_preview_X6_choice : GoodIn wsX6_preview wsX6_choice := goodIn_r _ [6, 7, 8, 9, 10, 11, 5, 12, 13, 14, 15, 16, 17, 18, 19, 20, 21, 22, 23, 24, 25, 26, 27, 28, 29, 30, 31, 32, 33, 34, 35, 36, 37, 38, 39, 40, 41, 42, 43, 44, 45, 46, 47, 48, 49, 50, 51, 52, 53, 54, 55, 56, 57, 58, 59, 60, 61, 62, 63, 64, 65, 66, 67, 68, 69, 70, 71] (by decide +kernel) (by decide +kernel)
set_option maxRecDepth 20000 in
theorem gX6_preview_X6_choice : GoodIn wsX6_preview (wsV RX6 92 RX6 yX6_choice wsX6_choice) := goodIn_app (goodIn_of _ (by decide +kernel)) ggX6_preview_X6_choice
theorem dX6_preview_0 : decode cX6_preview 0 = .ok (.aload_n 0, 1) := by decide +kernel
theorem dX6_preview_1 : decode cX6_preview 1 = .ok (.iconst 0, 1) := by decide +kernel
theorem dX6_preview_2 : decode cX6_preview 2 = .ok (.putfield 23, 3) := by decide +kernel
theorem dX6_preview_5 : decode cX6_preview 5 = .ok (.aload_n 0, 1) := by decide +kernel
theorem dX6_preview_6 : decode cX6_preview 6 = .ok (.iload_n 1, 1) := by decide +kernel
theorem dX6_preview_7 : decode cX6_preview 7 = .ok (.invokevirtual 92, 3) := by decide +kernel
theorem dX6_preview_10 : decode cX6_preview 10 = .ok (.ireturn, 1) := by decide +kernel
theorem dX6_goesFirst_0 : decode cX6_goesFirst 0 = .ok (.aload_n 0, 1) := by decide +kernel
theorem dX6_goesFirst_1 : decode cX6_goesFirst 1 = .ok (.getfield 7, 3) := by decide +kernel
theorem dX6_goesFirst_4 : decode cX6_goesFirst 4 = .ok (.sipush 183, 3) := by decide +kernel
theorem dX6_goesFirst_7 : decode cX6_goesFirst 7 = .ok (.iload_n 1, 1) := by decide +kernel
theorem dX6_goesFirst_8 : decode cX6_goesFirst 8 = .ok (.iadd, 1) := by decide +kernel
theorem dX6_goesFirst_9 : decode cX6_goesFirst 9 = .ok (.iaload, 1) := by decide +kernel
theorem dX6_goesFirst_10 : decode cX6_goesFirst 10 = .ok (.aload_n 0, 1) := by decide +kernel
theorem dX6_goesFirst_11 : decode cX6_goesFirst 11 = .ok (.getfield 7, 3) := by decide +kernel
theorem dX6_goesFirst_14 : decode cX6_goesFirst 14 = .ok (.sipush 183, 3) := by decide +kernel
theorem dX6_goesFirst_17 : decode cX6_goesFirst 17 = .ok (.iload_n 2, 1) := by decide +kernel
theorem dX6_goesFirst_18 : decode cX6_goesFirst 18 = .ok (.iadd, 1) := by decide +kernel
theorem dX6_goesFirst_19 : decode cX6_goesFirst 19 = .ok (.iaload, 1) := by decide +kernel
theorem dX6_goesFirst_20 : decode cX6_goesFirst 20 = .ok (.isub, 1) := by decide +kernel
theorem dX6_goesFirst_21 : decode cX6_goesFirst 21 = .ok (.istore_n 3, 1) := by decide +kernel
theorem dX6_goesFirst_22 : decode cX6_goesFirst 22 = .ok (.iload_n 3, 1) := by decide +kernel
theorem dX6_goesFirst_23 : decode cX6_goesFirst 23 = .ok (.ifCond .lt 30, 3) := by decide +kernel
theorem dX6_goesFirst_26 : decode cX6_goesFirst 26 = .ok (.iload_n 3, 1) := by decide +kernel
theorem dX6_goesFirst_27 : decode cX6_goesFirst 27 = .ok (.ifCond .ne 30, 3) := by decide +kernel
theorem dX6_goesFirst_30 : decode cX6_goesFirst 30 = .ok (.aload_n 0, 1) := by decide +kernel
theorem dX6_goesFirst_31 : decode cX6_goesFirst 31 = .ok (.getfield 7, 3) := by decide +kernel
theorem dX6_goesFirst_34 : decode cX6_goesFirst 34 = .ok (.sipush 143, 3) := by decide +kernel
theorem dX6_goesFirst_37 : decode cX6_goesFirst 37 = .ok (.iload_n 1, 1) := by decide +kernel
theorem dX6_goesFirst_38 : decode cX6_goesFirst 38 = .ok (.iadd, 1) := by decide +kernel
theorem dX6_goesFirst_39 : decode cX6_goesFirst 39 = .ok (.iaload, 1) := by decide +kernel
theorem dX6_goesFirst_40 : decode cX6_goesFirst 40 = .ok (.aload_n 0, 1) := by decide +kernel
theorem dX6_goesFirst_41 : decode cX6_goesFirst 41 = .ok (.getfield 7, 3) := by decide +kernel
theorem dX6_goesFirst_44 : decode cX6_goesFirst 44 = .ok (.sipush 143, 3) := by decide +kernel
theorem dX6_goesFirst_47 : decode cX6_goesFirst 47 = .ok (.iload_n 2, 1) := by decide +kernel
theorem dX6_goesFirst_48 : decode cX6_goesFirst 48 = .ok (.iadd, 1) := by decide +kernel
theorem dX6_goesFirst_49 : decode cX6_goesFirst 49 = .ok (.iaload, 1) := by decide +kernel
theorem dX6_goesFirst_50 : decode cX6_goesFirst 50 = .ok (.if_icmp .ge 7, 3) := by decide +kernel
theorem dX6_goesFirst_53 : decode cX6_goesFirst 53 = .ok (.iconst 1, 1) := by decide +kernel
theorem dX6_goesFirst_54 : decode cX6_goesFirst 54 = .ok (.goto 4, 3) := by decide +kernel
theorem dX6_goesFirst_57 : decode cX6_goesFirst 57 = .ok (.iconst 0, 1) := by decide +kernel
theorem dX6_goesFirst_58 : decode cX6_goesFirst 58 = .ok (.ireturn, 1) := by decide +kernel
set_option maxRecDepth 20000 in
theorem ggX6_remember_X6_placeOfClient : GoodIn wsX6_remember wsX6_placeOfClient := goodIn_r _ [6, 1, 11, 12, 13, 14, 15, 16] (by decide +kernel) (by decide +kernel)
set_option maxRecDepth 20000 in
theorem gX6_remember_X6_placeOfClient : GoodIn wsX6_remember (wsV RX6 80 RX6 yX6_placeOfClient wsX6_placeOfClient) := goodIn_app (goodIn_of _ (by decide +kernel)) ggX6_remember_X6_placeOfClient
set_option maxRecDepth 20000 in
theorem ggX6_remember_X6_goesFirst : GoodIn wsX6_remember wsX6_goesFirst := goodIn_r _ [10, 1, 11, 12, 13, 14, 15, 16] (by decide +kernel) (by decide +kernel)
set_option maxRecDepth 20000 in
theorem gX6_remember_X6_goesFirst : GoodIn wsX6_remember (wsV RX6 95 RX6 yX6_goesFirst wsX6_goesFirst) := goodIn_app (goodIn_of _ (by decide +kernel)) ggX6_remember_X6_goesFirst
theorem dX6_remember_0 : decode cX6_remember 0 = .ok (.aload_n 0, 1) := by decide +kernel
theorem dX6_remember_1 : decode cX6_remember 1 = .ok (.iload_n 1, 1) := by decide +kernel
theorem dX6_remember_2 : decode cX6_remember 2 = .ok (.invokevirtual 80, 3) := by decide +kernel
theorem dX6_remember_5 : decode cX6_remember 5 = .ok (.istore_n 3, 1) := by decide +kernel
theorem dX6_remember_6 : decode cX6_remember 6 = .ok (.iload_n 3, 1) := by decide +kernel
theorem dX6_remember_7 : decode cX6_remember 7 = .ok (.ifCond .ge 37, 3) := by decide +kernel
theorem dX6_remember_10 : decode cX6_remember 10 = .ok (.aload_n 0, 1) := by decide +kernel
theorem dX6_remember_11 : decode cX6_remember 11 = .ok (.getfield 7, 3) := by decide +kernel
theorem dX6_remember_14 : decode cX6_remember 14 = .ok (.bipush 12, 2) := by decide +kernel
theorem dX6_remember_16 : decode cX6_remember 16 = .ok (.iaload, 1) := by decide +kernel
theorem dX6_remember_17 : decode cX6_remember 17 = .ok (.bipush 40, 2) := by decide +kernel
theorem dX6_remember_19 : decode cX6_remember 19 = .ok (.if_icmp .ge 25, 3) := by decide +kernel
theorem dX6_remember_22 : decode cX6_remember 22 = .ok (.aload_n 0, 1) := by decide +kernel
theorem dX6_remember_23 : decode cX6_remember 23 = .ok (.getfield 7, 3) := by decide +kernel
theorem dX6_remember_26 : decode cX6_remember 26 = .ok (.bipush 12, 2) := by decide +kernel
theorem dX6_remember_28 : decode cX6_remember 28 = .ok (.iaload, 1) := by decide +kernel
theorem dX6_remember_29 : decode cX6_remember 29 = .ok (.istore_n 3, 1) := by decide +kernel
theorem dX6_remember_30 : decode cX6_remember 30 = .ok (.aload_n 0, 1) := by decide +kernel
theorem dX6_remember_31 : decode cX6_remember 31 = .ok (.getfield 7, 3) := by decide +kernel
theorem dX6_remember_34 : decode cX6_remember 34 = .ok (.bipush 12, 2) := by decide +kernel
theorem dX6_remember_36 : decode cX6_remember 36 = .ok (.dup2, 1) := by decide +kernel
theorem dX6_remember_37 : decode cX6_remember 37 = .ok (.iaload, 1) := by decide +kernel
theorem dX6_remember_38 : decode cX6_remember 38 = .ok (.iconst 1, 1) := by decide +kernel
theorem dX6_remember_39 : decode cX6_remember 39 = .ok (.iadd, 1) := by decide +kernel
theorem dX6_remember_40 : decode cX6_remember 40 = .ok (.iastore, 1) := by decide +kernel
theorem dX6_remember_41 : decode cX6_remember 41 = .ok (.goto 42, 3) := by decide +kernel
theorem dX6_remember_44 : decode cX6_remember 44 = .ok (.iload_n 3, 1) := by decide +kernel
theorem dX6_remember_45 : decode cX6_remember 45 = .ok (.ifCond .ge 38, 3) := by decide +kernel
theorem dX6_remember_48 : decode cX6_remember 48 = .ok (.iconst 0, 1) := by decide +kernel
theorem dX6_remember_49 : decode cX6_remember 49 = .ok (.istore_n 3, 1) := by decide +kernel
theorem dX6_remember_50 : decode cX6_remember 50 = .ok (.iconst 1, 1) := by decide +kernel
theorem dX6_remember_51 : decode cX6_remember 51 = .ok (.istore 4, 2) := by decide +kernel
theorem dX6_remember_53 : decode cX6_remember 53 = .ok (.iload 4, 2) := by decide +kernel
theorem dX6_remember_55 : decode cX6_remember 55 = .ok (.bipush 40, 2) := by decide +kernel
theorem dX6_remember_57 : decode cX6_remember 57 = .ok (.if_icmp .ge 26, 3) := by decide +kernel
theorem dX6_remember_60 : decode cX6_remember 60 = .ok (.aload_n 0, 1) := by decide +kernel
theorem dX6_remember_61 : decode cX6_remember 61 = .ok (.iload 4, 2) := by decide +kernel
theorem dX6_remember_63 : decode cX6_remember 63 = .ok (.iload_n 3, 1) := by decide +kernel
theorem dX6_remember_64 : decode cX6_remember 64 = .ok (.invokevirtual 95, 3) := by decide +kernel
theorem dX6_remember_67 : decode cX6_remember 67 = .ok (.ifCond .eq 8, 3) := by decide +kernel
theorem dX6_remember_70 : decode cX6_remember 70 = .ok (.iload 4, 2) := by decide +kernel
theorem dX6_remember_72 : decode cX6_remember 72 = .ok (.goto 4, 3) := by decide +kernel
theorem dX6_remember_75 : decode cX6_remember 75 = .ok (.iload_n 3, 1) := by decide +kernel
theorem dX6_remember_76 : decode cX6_remember 76 = .ok (.istore_n 3, 1) := by decide +kernel
theorem dX6_remember_77 : decode cX6_remember 77 = .ok (.iinc 4 1, 3) := by decide +kernel
theorem dX6_remember_80 : decode cX6_remember 80 = .ok (.goto (-27), 3) := by decide +kernel
theorem dX6_remember_83 : decode cX6_remember 83 = .ok (.aload_n 0, 1) := by decide +kernel
theorem dX6_remember_84 : decode cX6_remember 84 = .ok (.getfield 7, 3) := by decide +kernel
theorem dX6_remember_87 : decode cX6_remember 87 = .ok (.sipush 143, 3) := by decide +kernel
theorem dX6_remember_90 : decode cX6_remember 90 = .ok (.iload_n 3, 1) := by decide +kernel
theorem dX6_remember_91 : decode cX6_remember 91 = .ok (.iadd, 1) := by decide +kernel
theorem dX6_remember_92 : decode cX6_remember 92 = .ok (.iload_n 1, 1) := by decide +kernel
theorem dX6_remember_93 : decode cX6_remember 93 = .ok (.iastore, 1) := by decide +kernel
theorem dX6_remember_94 : decode cX6_remember 94 = .ok (.aload_n 0, 1) := by decide +kernel
theorem dX6_remember_95 : decode cX6_remember 95 = .ok (.getfield 7, 3) := by decide +kernel
theorem dX6_remember_98 : decode cX6_remember 98 = .ok (.sipush 183, 3) := by decide +kernel
theorem dX6_remember_101 : decode cX6_remember 101 = .ok (.iload_n 3, 1) := by decide +kernel
theorem dX6_remember_102 : decode cX6_remember 102 = .ok (.iadd, 1) := by decide +kernel
theorem dX6_remember_103 : decode cX6_remember 103 = .ok (.aload_n 0, 1) := by decide +kernel
theorem dX6_remember_104 : decode cX6_remember 104 = .ok (.getfield 7, 3) := by decide +kernel
theorem dX6_remember_107 : decode cX6_remember 107 = .ok (.iconst 1, 1) := by decide +kernel
theorem dX6_remember_108 : decode cX6_remember 108 = .ok (.iaload, 1) := by decide +kernel
theorem dX6_remember_109 : decode cX6_remember 109 = .ok (.iastore, 1) := by decide +kernel
theorem dX6_remember_110 : decode cX6_remember 110 = .ok (.aload_n 0, 1) := by decide +kernel
theorem dX6_remember_111 : decode cX6_remember 111 = .ok (.getfield 7, 3) := by decide +kernel
theorem dX6_remember_114 : decode cX6_remember 114 = .ok (.sipush 223, 3) := by decide +kernel
theorem dX6_remember_117 : decode cX6_remember 117 = .ok (.iload_n 3, 1) := by decide +kernel
theorem dX6_remember_118 : decode cX6_remember 118 = .ok (.iadd, 1) := by decide +kernel
theorem dX6_remember_119 : decode cX6_remember 119 = .ok (.iload_n 2, 1) := by decide +kernel
theorem dX6_remember_120 : decode cX6_remember 120 = .ok (.iastore, 1) := by decide +kernel
theorem dX6_remember_121 : decode cX6_remember 121 = .ok (.return_, 1) := by decide +kernel
set_option maxRecDepth 20000 in
theorem ggX6_open_X6_choice : GoodIn wsX6_open wsX6_choice := goodIn_r _ [7, 2, 8, 9, 10, 11, 6, 12, 13, 14, 15, 16, 17, 18, 19, 20, 21, 22, 23, 24, 25, 26, 27, 28, 29, 30, 31, 32, 33, 34, 35, 36, 37, 38, 39, 40, 41, 42, 43, 44, 45, 46, 47, 48, 49, 50, 51, 52, 53, 54, 55, 56, 57, 58, 59, 60, 61, 62, 63, 64, 65, 78, 79, 80, 81, 82, 83] (by decide +kernel) (by decide +kernel)
set_option maxRecDepth 20000 in
theorem gX6_open_X6_choice : GoodIn wsX6_open (wsV RX6 92 RX6 yX6_choice wsX6_choice) := goodIn_app (goodIn_of _ (by decide +kernel)) ggX6_open_X6_choice
set_option maxRecDepth 20000 in
theorem ggX6_open_X6_stuckTo : GoodIn wsX6_open wsX6_stuckTo := goodIn_r _ [21, 2, 22, 23, 24, 6, 25, 14, 15, 16, 17, 78, 79, 80, 81, 82, 83] (by decide +kernel) (by decide +kernel)
set_option maxRecDepth 20000 in
theorem gX6_open_X6_stuckTo : GoodIn wsX6_open (wsV RX6 86 RX6 yX6_stuckTo wsX6_stuckTo) := goodIn_app (goodIn_of _ (by decide +kernel)) ggX6_open_X6_stuckTo
set_option maxRecDepth 20000 in
theorem ggX6_open_X6_note : GoodIn wsX6_open wsX6_note := goodIn_r _ [69, 2, 8, 13, 38, 39, 40, 6, 41, 62, 63, 64, 65, 78, 79, 80, 81, 82, 83] (by decide +kernel) (by decide +kernel)
set_option maxRecDepth 20000 in
theorem gX6_open_X6_note : GoodIn wsX6_open (wsV RX6 99 RX6 yX6_note wsX6_note) := goodIn_app (goodIn_of _ (by decide +kernel)) ggX6_open_X6_note
set_option maxRecDepth 20000 in
theorem ggX6_open_X6_remember : GoodIn wsX6_open wsX6_remember := goodIn_r _ [73, 2, 22, 23, 24, 6, 25, 74, 75, 76, 77, 78, 79, 80, 81, 82, 83] (by decide +kernel) (by decide +kernel)
set_option maxRecDepth 20000 in
theorem gX6_open_X6_remember : GoodIn wsX6_open (wsV RX6 103 RX6 yX6_remember wsX6_remember) := goodIn_app (goodIn_of _ (by decide +kernel)) ggX6_open_X6_remember
theorem dX6_open_0 : decode cX6_open 0 = .ok (.aload_n 0, 1) := by decide +kernel
theorem dX6_open_1 : decode cX6_open 1 = .ok (.iload_n 1, 1) := by decide +kernel
theorem dX6_open_2 : decode cX6_open 2 = .ok (.invokevirtual 92, 3) := by decide +kernel
theorem dX6_open_5 : decode cX6_open 5 = .ok (.istore_n 2, 1) := by decide +kernel
theorem dX6_open_6 : decode cX6_open 6 = .ok (.aload_n 0, 1) := by decide +kernel
theorem dX6_open_7 : decode cX6_open 7 = .ok (.iload_n 2, 1) := by decide +kernel
theorem dX6_open_8 : decode cX6_open 8 = .ok (.ifCond .ge 7, 3) := by decide +kernel
theorem dX6_open_11 : decode cX6_open 11 = .ok (.iconst 1, 1) := by decide +kernel
theorem dX6_open_12 : decode cX6_open 12 = .ok (.goto 4, 3) := by decide +kernel
theorem dX6_open_15 : decode cX6_open 15 = .ok (.iconst 0, 1) := by decide +kernel
theorem dX6_open_16 : decode cX6_open 16 = .ok (.putfield 23, 3) := by decide +kernel
theorem dX6_open_19 : decode cX6_open 19 = .ok (.aload_n 0, 1) := by decide +kernel
theorem dX6_open_20 : decode cX6_open 20 = .ok (.getfield 23, 3) := by decide +kernel
theorem dX6_open_23 : decode cX6_open 23 = .ok (.ifCond .eq 16, 3) := by decide +kernel
theorem dX6_open_26 : decode cX6_open 26 = .ok (.aload_n 0, 1) := by decide +kernel
theorem dX6_open_27 : decode cX6_open 27 = .ok (.getfield 7, 3) := by decide +kernel
theorem dX6_open_30 : decode cX6_open 30 = .ok (.bipush 11, 2) := by decide +kernel
theorem dX6_open_32 : decode cX6_open 32 = .ok (.dup2, 1) := by decide +kernel
theorem dX6_open_33 : decode cX6_open 33 = .ok (.iaload, 1) := by decide +kernel
theorem dX6_open_34 : decode cX6_open 34 = .ok (.iconst 1, 1) := by decide +kernel
theorem dX6_open_35 : decode cX6_open 35 = .ok (.iadd, 1) := by decide +kernel
theorem dX6_open_36 : decode cX6_open 36 = .ok (.iastore, 1) := by decide +kernel
theorem dX6_open_37 : decode cX6_open 37 = .ok (.iconst 0, 1) := by decide +kernel
theorem dX6_open_38 : decode cX6_open 38 = .ok (.ireturn, 1) := by decide +kernel
theorem dX6_open_39 : decode cX6_open 39 = .ok (.aload_n 0, 1) := by decide +kernel
theorem dX6_open_40 : decode cX6_open 40 = .ok (.iload_n 1, 1) := by decide +kernel
theorem dX6_open_41 : decode cX6_open 41 = .ok (.invokevirtual 86, 3) := by decide +kernel
theorem dX6_open_44 : decode cX6_open 44 = .ok (.ifCond .ge 8, 3) := by decide +kernel
theorem dX6_open_47 : decode cX6_open 47 = .ok (.aload_n 0, 1) := by decide +kernel
theorem dX6_open_48 : decode cX6_open 48 = .ok (.iload_n 2, 1) := by decide +kernel
theorem dX6_open_49 : decode cX6_open 49 = .ok (.invokevirtual 99, 3) := by decide +kernel
theorem dX6_open_52 : decode cX6_open 52 = .ok (.aload_n 0, 1) := by decide +kernel
theorem dX6_open_53 : decode cX6_open 53 = .ok (.getfield 7, 3) := by decide +kernel
theorem dX6_open_56 : decode cX6_open 56 = .ok (.bipush 10, 2) := by decide +kernel
theorem dX6_open_58 : decode cX6_open 58 = .ok (.iaload, 1) := by decide +kernel
theorem dX6_open_59 : decode cX6_open 59 = .ok (.istore_n 3, 1) := by decide +kernel
theorem dX6_open_60 : decode cX6_open 60 = .ok (.aload_n 0, 1) := by decide +kernel
theorem dX6_open_61 : decode cX6_open 61 = .ok (.getfield 7, 3) := by decide +kernel
theorem dX6_open_64 : decode cX6_open 64 = .ok (.sipush 263, 3) := by decide +kernel
theorem dX6_open_67 : decode cX6_open 67 = .ok (.iload_n 3, 1) := by decide +kernel
theorem dX6_open_68 : decode cX6_open 68 = .ok (.iadd, 1) := by decide +kernel
theorem dX6_open_69 : decode cX6_open 69 = .ok (.iload_n 2, 1) := by decide +kernel
theorem dX6_open_70 : decode cX6_open 70 = .ok (.iastore, 1) := by decide +kernel
theorem dX6_open_71 : decode cX6_open 71 = .ok (.aload_n 0, 1) := by decide +kernel
theorem dX6_open_72 : decode cX6_open 72 = .ok (.getfield 7, 3) := by decide +kernel
theorem dX6_open_75 : decode cX6_open 75 = .ok (.sipush 1263, 3) := by decide +kernel
theorem dX6_open_78 : decode cX6_open 78 = .ok (.iload_n 3, 1) := by decide +kernel
theorem dX6_open_79 : decode cX6_open 79 = .ok (.iadd, 1) := by decide +kernel
theorem dX6_open_80 : decode cX6_open 80 = .ok (.aload_n 0, 1) := by decide +kernel
theorem dX6_open_81 : decode cX6_open 81 = .ok (.getfield 7, 3) := by decide +kernel
theorem dX6_open_84 : decode cX6_open 84 = .ok (.iconst 1, 1) := by decide +kernel
theorem dX6_open_85 : decode cX6_open 85 = .ok (.iaload, 1) := by decide +kernel
theorem dX6_open_86 : decode cX6_open 86 = .ok (.iastore, 1) := by decide +kernel
theorem dX6_open_87 : decode cX6_open 87 = .ok (.aload_n 0, 1) := by decide +kernel
theorem dX6_open_88 : decode cX6_open 88 = .ok (.getfield 7, 3) := by decide +kernel
theorem dX6_open_91 : decode cX6_open 91 = .ok (.bipush 33, 2) := by decide +kernel
theorem dX6_open_93 : decode cX6_open 93 = .ok (.iload_n 2, 1) := by decide +kernel
theorem dX6_open_94 : decode cX6_open 94 = .ok (.iadd, 1) := by decide +kernel
theorem dX6_open_95 : decode cX6_open 95 = .ok (.dup2, 1) := by decide +kernel
theorem dX6_open_96 : decode cX6_open 96 = .ok (.iaload, 1) := by decide +kernel
theorem dX6_open_97 : decode cX6_open 97 = .ok (.iconst 1, 1) := by decide +kernel
theorem dX6_open_98 : decode cX6_open 98 = .ok (.iadd, 1) := by decide +kernel
theorem dX6_open_99 : decode cX6_open 99 = .ok (.iastore, 1) := by decide +kernel
theorem dX6_open_100 : decode cX6_open 100 = .ok (.aload_n 0, 1) := by decide +kernel
theorem dX6_open_101 : decode cX6_open 101 = .ok (.getfield 7, 3) := by decide +kernel
theorem dX6_open_104 : decode cX6_open 104 = .ok (.bipush 10, 2) := by decide +kernel
theorem dX6_open_106 : decode cX6_open 106 = .ok (.dup2, 1) := by decide +kernel
theorem dX6_open_107 : decode cX6_open 107 = .ok (.iaload, 1) := by decide +kernel
theorem dX6_open_108 : decode cX6_open 108 = .ok (.iconst 1, 1) := by decide +kernel
theorem dX6_open_109 : decode cX6_open 109 = .ok (.iadd, 1) := by decide +kernel
theorem dX6_open_110 : decode cX6_open 110 = .ok (.iastore, 1) := by decide +kernel
theorem dX6_open_111 : decode cX6_open 111 = .ok (.aload_n 0, 1) := by decide +kernel
theorem dX6_open_112 : decode cX6_open 112 = .ok (.getfield 7, 3) := by decide +kernel
theorem dX6_open_115 : decode cX6_open 115 = .ok (.bipush 83, 2) := by decide +kernel
theorem dX6_open_117 : decode cX6_open 117 = .ok (.iload_n 2, 1) := by decide +kernel
theorem dX6_open_118 : decode cX6_open 118 = .ok (.iadd, 1) := by decide +kernel
theorem dX6_open_119 : decode cX6_open 119 = .ok (.iaload, 1) := by decide +kernel
theorem dX6_open_120 : decode cX6_open 120 = .ok (.iconst 2, 1) := by decide +kernel
theorem dX6_open_121 : decode cX6_open 121 = .ok (.if_icmp .ne 13, 3) := by decide +kernel
theorem dX6_open_124 : decode cX6_open 124 = .ok (.aload_n 0, 1) := by decide +kernel
theorem dX6_open_125 : decode cX6_open 125 = .ok (.getfield 7, 3) := by decide +kernel
theorem dX6_open_128 : decode cX6_open 128 = .ok (.bipush 103, 2) := by decide +kernel
theorem dX6_open_130 : decode cX6_open 130 = .ok (.iload_n 2, 1) := by decide +kernel
theorem dX6_open_131 : decode cX6_open 131 = .ok (.iadd, 1) := by decide +kernel
theorem dX6_open_132 : decode cX6_open 132 = .ok (.iload_n 3, 1) := by decide +kernel
theorem dX6_open_133 : decode cX6_open 133 = .ok (.iastore, 1) := by decide +kernel
theorem dX6_open_134 : decode cX6_open 134 = .ok (.aload_n 0, 1) := by decide +kernel
theorem dX6_open_135 : decode cX6_open 135 = .ok (.getfield 7, 3) := by decide +kernel
theorem dX6_open_138 : decode cX6_open 138 = .ok (.bipush 6, 2) := by decide +kernel
theorem dX6_open_140 : decode cX6_open 140 = .ok (.iaload, 1) := by decide +kernel
theorem dX6_open_141 : decode cX6_open 141 = .ok (.ifCond .le 9, 3) := by decide +kernel
theorem dX6_open_144 : decode cX6_open 144 = .ok (.aload_n 0, 1) := by decide +kernel
theorem dX6_open_145 : decode cX6_open 145 = .ok (.iload_n 1, 1) := by decide +kernel
theorem dX6_open_146 : decode cX6_open 146 = .ok (.iload_n 2, 1) := by decide +kernel
theorem dX6_open_147 : decode cX6_open 147 = .ok (.invokevirtual 103, 3) := by decide +kernel
theorem dX6_open_150 : decode cX6_open 150 = .ok (.iload_n 3, 1) := by decide +kernel
theorem dX6_open_151 : decode cX6_open 151 = .ok (.ireturn, 1) := by decide +kernel
theorem dX6_trip_0 : decode cX6_trip 0 = .ok (.aload_n 0, 1) := by decide +kernel
theorem dX6_trip_1 : decode cX6_trip 1 = .ok (.getfield 7, 3) := by decide +kernel
theorem dX6_trip_4 : decode cX6_trip 4 = .ok (.bipush 83, 2) := by decide +kernel
theorem dX6_trip_6 : decode cX6_trip 6 = .ok (.iload_n 1, 1) := by decide +kernel
theorem dX6_trip_7 : decode cX6_trip 7 = .ok (.iadd, 1) := by decide +kernel
theorem dX6_trip_8 : decode cX6_trip 8 = .ok (.iconst 1, 1) := by decide +kernel
theorem dX6_trip_9 : decode cX6_trip 9 = .ok (.iastore, 1) := by decide +kernel
theorem dX6_trip_10 : decode cX6_trip 10 = .ok (.aload_n 0, 1) := by decide +kernel
theorem dX6_trip_11 : decode cX6_trip 11 = .ok (.getfield 7, 3) := by decide +kernel
theorem dX6_trip_14 : decode cX6_trip 14 = .ok (.bipush 93, 2) := by decide +kernel
theorem dX6_trip_16 : decode cX6_trip 16 = .ok (.iload_n 1, 1) := by decide +kernel
theorem dX6_trip_17 : decode cX6_trip 17 = .ok (.iadd, 1) := by decide +kernel
theorem dX6_trip_18 : decode cX6_trip 18 = .ok (.aload_n 0, 1) := by decide +kernel
theorem dX6_trip_19 : decode cX6_trip 19 = .ok (.getfield 7, 3) := by decide +kernel
theorem dX6_trip_22 : decode cX6_trip 22 = .ok (.iconst 1, 1) := by decide +kernel
theorem dX6_trip_23 : decode cX6_trip 23 = .ok (.iaload, 1) := by decide +kernel
theorem dX6_trip_24 : decode cX6_trip 24 = .ok (.iastore, 1) := by decide +kernel
theorem dX6_trip_25 : decode cX6_trip 25 = .ok (.aload_n 0, 1) := by decide +kernel
theorem dX6_trip_26 : decode cX6_trip 26 = .ok (.getfield 7, 3) := by decide +kernel
theorem dX6_trip_29 : decode cX6_trip 29 = .ok (.bipush 103, 2) := by decide +kernel
theorem dX6_trip_31 : decode cX6_trip 31 = .ok (.iload_n 1, 1) := by decide +kernel
theorem dX6_trip_32 : decode cX6_trip 32 = .ok (.iadd, 1) := by decide +kernel
theorem dX6_trip_33 : decode cX6_trip 33 = .ok (.iconst (-1), 1) := by decide +kernel
theorem dX6_trip_34 : decode cX6_trip 34 = .ok (.iastore, 1) := by decide +kernel
theorem dX6_trip_35 : decode cX6_trip 35 = .ok (.return_, 1) := by decide +kernel
theorem dX6_ones_0 : decode cX6_ones 0 = .ok (.iconst 0, 1) := by decide +kernel
theorem dX6_ones_1 : decode cX6_ones 1 = .ok (.istore_n 1, 1) := by decide +kernel
theorem dX6_ones_2 : decode cX6_ones 2 = .ok (.iconst 0, 1) := by decide +kernel
theorem dX6_ones_3 : decode cX6_ones 3 = .ok (.istore_n 2, 1) := by decide +kernel
theorem dX6_ones_4 : decode cX6_ones 4 = .ok (.iload_n 2, 1) := by decide +kernel
theorem dX6_ones_5 : decode cX6_ones 5 = .ok (.bipush 8, 2) := by decide +kernel
theorem dX6_ones_7 : decode cX6_ones 7 = .ok (.if_icmp .ge 17, 3) := by decide +kernel
theorem dX6_ones_10 : decode cX6_ones 10 = .ok (.iload_n 1, 1) := by decide +kernel
theorem dX6_ones_11 : decode cX6_ones 11 = .ok (.iload_n 0, 1) := by decide +kernel
theorem dX6_ones_12 : decode cX6_ones 12 = .ok (.iload_n 2, 1) := by decide +kernel
theorem dX6_ones_13 : decode cX6_ones 13 = .ok (.ishr, 1) := by decide +kernel
theorem dX6_ones_14 : decode cX6_ones 14 = .ok (.iconst 1, 1) := by decide +kernel
theorem dX6_ones_15 : decode cX6_ones 15 = .ok (.iand, 1) := by decide +kernel
theorem dX6_ones_16 : decode cX6_ones 16 = .ok (.iadd, 1) := by decide +kernel
theorem dX6_ones_17 : decode cX6_ones 17 = .ok (.istore_n 1, 1) := by decide +kernel
theorem dX6_ones_18 : decode cX6_ones 18 = .ok (.iinc 2 1, 3) := by decide +kernel
theorem dX6_ones_21 : decode cX6_ones 21 = .ok (.goto (-17), 3) := by decide +kernel
theorem dX6_ones_24 : decode cX6_ones 24 = .ok (.iload_n 1, 1) := by decide +kernel
theorem dX6_ones_25 : decode cX6_ones 25 = .ok (.ireturn, 1) := by decide +kernel
set_option maxRecDepth 20000 in
theorem ggX6_addResult_X6_ones : GoodIn wsX6_addResult wsX6_ones := goodIn_r _ [5] (by decide +kernel) (by decide +kernel)
set_option maxRecDepth 20000 in
theorem gX6_addResult_X6_ones : GoodIn wsX6_addResult (va_wsS RX6 107 yX6_ones wsX6_ones) := goodIn_app (goodIn_of _ (by decide +kernel)) ggX6_addResult_X6_ones
set_option maxRecDepth 20000 in
theorem ggX6_addResult_X6_trip : GoodIn wsX6_addResult wsX6_trip := goodIn_r _ [9, 1, 10, 11, 12, 13, 14, 15] (by decide +kernel) (by decide +kernel)
set_option maxRecDepth 20000 in
theorem gX6_addResult_X6_trip : GoodIn wsX6_addResult (wsV RX6 110 RX6 yX6_trip wsX6_trip) := goodIn_app (goodIn_of _ (by decide +kernel)) ggX6_addResult_X6_trip
theorem dX6_addResult_0 : decode cX6_addResult 0 = .ok (.aload_n 0, 1) := by decide +kernel
theorem dX6_addResult_1 : decode cX6_addResult 1 = .ok (.getfield 7, 3) := by decide +kernel
theorem dX6_addResult_4 : decode cX6_addResult 4 = .ok (.bipush 123, 2) := by decide +kernel
theorem dX6_addResult_6 : decode cX6_addResult 6 = .ok (.iload_n 1, 1) := by decide +kernel
theorem dX6_addResult_7 : decode cX6_addResult 7 = .ok (.iadd, 1) := by decide +kernel
theorem dX6_addResult_8 : decode cX6_addResult 8 = .ok (.aload_n 0, 1) := by decide +kernel
theorem dX6_addResult_9 : decode cX6_addResult 9 = .ok (.getfield 7, 3) := by decide +kernel
theorem dX6_addResult_12 : decode cX6_addResult 12 = .ok (.bipush 123, 2) := by decide +kernel
theorem dX6_addResult_14 : decode cX6_addResult 14 = .ok (.iload_n 1, 1) := by decide +kernel
theorem dX6_addResult_15 : decode cX6_addResult 15 = .ok (.iadd, 1) := by decide +kernel
theorem dX6_addResult_16 : decode cX6_addResult 16 = .ok (.iaload, 1) := by decide +kernel
theorem dX6_addResult_17 : decode cX6_addResult 17 = .ok (.iconst 1, 1) := by decide +kernel
theorem dX6_addResult_18 : decode cX6_addResult 18 = .ok (.ishl, 1) := by decide +kernel
theorem dX6_addResult_19 : decode cX6_addResult 19 = .ok (.iload_n 2, 1) := by decide +kernel
theorem dX6_addResult_20 : decode cX6_addResult 20 = .ok (.ifCond .eq 7, 3) := by decide +kernel
theorem dX6_addResult_23 : decode cX6_addResult 23 = .ok (.iconst 0, 1) := by decide +kernel
theorem dX6_addResult_24 : decode cX6_addResult 24 = .ok (.goto 4, 3) := by decide +kernel
theorem dX6_addResult_27 : decode cX6_addResult 27 = .ok (.iconst 1, 1) := by decide +kernel
theorem dX6_addResult_28 : decode cX6_addResult 28 = .ok (.ior, 1) := by decide +kernel
theorem dX6_addResult_29 : decode cX6_addResult 29 = .ok (.sipush 255, 3) := by decide +kernel
theorem dX6_addResult_32 : decode cX6_addResult 32 = .ok (.iand, 1) := by decide +kernel
theorem dX6_addResult_33 : decode cX6_addResult 33 = .ok (.iastore, 1) := by decide +kernel
theorem dX6_addResult_34 : decode cX6_addResult 34 = .ok (.aload_n 0, 1) := by decide +kernel
theorem dX6_addResult_35 : decode cX6_addResult 35 = .ok (.getfield 7, 3) := by decide +kernel
theorem dX6_addResult_38 : decode cX6_addResult 38 = .ok (.sipush 133, 3) := by decide +kernel
theorem dX6_addResult_41 : decode cX6_addResult 41 = .ok (.iload_n 1, 1) := by decide +kernel
theorem dX6_addResult_42 : decode cX6_addResult 42 = .ok (.iadd, 1) := by decide +kernel
theorem dX6_addResult_43 : decode cX6_addResult 43 = .ok (.dup2, 1) := by decide +kernel
theorem dX6_addResult_44 : decode cX6_addResult 44 = .ok (.iaload, 1) := by decide +kernel
theorem dX6_addResult_45 : decode cX6_addResult 45 = .ok (.aload_n 0, 1) := by decide +kernel
theorem dX6_addResult_46 : decode cX6_addResult 46 = .ok (.getfield 7, 3) := by decide +kernel
theorem dX6_addResult_49 : decode cX6_addResult 49 = .ok (.sipush 133, 3) := by decide +kernel
theorem dX6_addResult_52 : decode cX6_addResult 52 = .ok (.iload_n 1, 1) := by decide +kernel
theorem dX6_addResult_53 : decode cX6_addResult 53 = .ok (.iadd, 1) := by decide +kernel
theorem dX6_addResult_54 : decode cX6_addResult 54 = .ok (.iaload, 1) := by decide +kernel
theorem dX6_addResult_55 : decode cX6_addResult 55 = .ok (.bipush 8, 2) := by decide +kernel
theorem dX6_addResult_57 : decode cX6_addResult 57 = .ok (.if_icmp .ge 7, 3) := by decide +kernel
theorem dX6_addResult_60 : decode cX6_addResult 60 = .ok (.iconst 1, 1) := by decide +kernel
theorem dX6_addResult_61 : decode cX6_addResult 61 = .ok (.goto 4, 3) := by decide +kernel
theorem dX6_addResult_64 : decode cX6_addResult 64 = .ok (.iconst 0, 1) := by decide +kernel
theorem dX6_addResult_65 : decode cX6_addResult 65 = .ok (.iadd, 1) := by decide +kernel
theorem dX6_addResult_66 : decode cX6_addResult 66 = .ok (.iastore, 1) := by decide +kernel
theorem dX6_addResult_67 : decode cX6_addResult 67 = .ok (.aload_n 0, 1) := by decide +kernel
theorem dX6_addResult_68 : decode cX6_addResult 68 = .ok (.getfield 7, 3) := by decide +kernel
theorem dX6_addResult_71 : decode cX6_addResult 71 = .ok (.sipush 133, 3) := by decide +kernel
theorem dX6_addResult_74 : decode cX6_addResult 74 = .ok (.iload_n 1, 1) := by decide +kernel
theorem dX6_addResult_75 : decode cX6_addResult 75 = .ok (.iadd, 1) := by decide +kernel
theorem dX6_addResult_76 : decode cX6_addResult 76 = .ok (.iaload, 1) := by decide +kernel
theorem dX6_addResult_77 : decode cX6_addResult 77 = .ok (.istore_n 3, 1) := by decide +kernel
theorem dX6_addResult_78 : decode cX6_addResult 78 = .ok (.iload_n 3, 1) := by decide +kernel
theorem dX6_addResult_79 : decode cX6_addResult 79 = .ok (.iconst 4, 1) := by decide +kernel
theorem dX6_addResult_80 : decode cX6_addResult 80 = .ok (.if_icmp .lt 26, 3) := by decide +kernel
theorem dX6_addResult_83 : decode cX6_addResult 83 = .ok (.iconst 2, 1) := by decide +kernel
theorem dX6_addResult_84 : decode cX6_addResult 84 = .ok (.aload_n 0, 1) := by decide +kernel
theorem dX6_addResult_85 : decode cX6_addResult 85 = .ok (.getfield 7, 3) := by decide +kernel
theorem dX6_addResult_88 : decode cX6_addResult 88 = .ok (.bipush 123, 2) := by decide +kernel
theorem dX6_addResult_90 : decode cX6_addResult 90 = .ok (.iload_n 1, 1) := by decide +kernel
theorem dX6_addResult_91 : decode cX6_addResult 91 = .ok (.iadd, 1) := by decide +kernel
theorem dX6_addResult_92 : decode cX6_addResult 92 = .ok (.iaload, 1) := by decide +kernel
theorem dX6_addResult_93 : decode cX6_addResult 93 = .ok (.invokestatic 107, 3) := by decide +kernel
theorem dX6_addResult_96 : decode cX6_addResult 96 = .ok (.imul, 1) := by decide +kernel
theorem dX6_addResult_97 : decode cX6_addResult 97 = .ok (.iload_n 3, 1) := by decide +kernel
theorem dX6_addResult_98 : decode cX6_addResult 98 = .ok (.if_icmp .lt 8, 3) := by decide +kernel
theorem dX6_addResult_101 : decode cX6_addResult 101 = .ok (.aload_n 0, 1) := by decide +kernel
theorem dX6_addResult_102 : decode cX6_addResult 102 = .ok (.iload_n 1, 1) := by decide +kernel
theorem dX6_addResult_103 : decode cX6_addResult 103 = .ok (.invokevirtual 110, 3) := by decide +kernel
theorem dX6_addResult_106 : decode cX6_addResult 106 = .ok (.return_, 1) := by decide +kernel
set_option maxRecDepth 20000 in
theorem ggX6_wasOpened_X6_in : GoodIn wsX6_wasOpened wsX6_in := goodIn_r _ [5] (by decide +kernel) (by decide +kernel)
set_option maxRecDepth 20000 in
theorem gX6_wasOpened_X6_in : GoodIn wsX6_wasOpened (va_wsS RX6 27 yX6_in wsX6_in) := goodIn_app (goodIn_of _ (by decide +kernel)) ggX6_wasOpened_X6_in
theorem dX6_wasOpened_0 : decode cX6_wasOpened 0 = .ok (.iload_n 1, 1) := by decide +kernel
theorem dX6_wasOpened_1 : decode cX6_wasOpened 1 = .ok (.iconst 0, 1) := by decide +kernel
theorem dX6_wasOpened_2 : decode cX6_wasOpened 2 = .ok (.aload_n 0, 1) := by decide +kernel
theorem dX6_wasOpened_3 : decode cX6_wasOpened 3 = .ok (.getfield 7, 3) := by decide +kernel
theorem dX6_wasOpened_6 : decode cX6_wasOpened 6 = .ok (.bipush 10, 2) := by decide +kernel
theorem dX6_wasOpened_8 : decode cX6_wasOpened 8 = .ok (.iaload, 1) := by decide +kernel
theorem dX6_wasOpened_9 : decode cX6_wasOpened 9 = .ok (.iconst 1, 1) := by decide +kernel
theorem dX6_wasOpened_10 : decode cX6_wasOpened 10 = .ok (.isub, 1) := by decide +kernel
theorem dX6_wasOpened_11 : decode cX6_wasOpened 11 = .ok (.invokestatic 27, 3) := by decide +kernel
theorem dX6_wasOpened_14 : decode cX6_wasOpened 14 = .ok (.ireturn, 1) := by decide +kernel
set_option maxRecDepth 20000 in
theorem ggX6_close_X6_wasOpened : GoodIn wsX6_close wsX6_wasOpened := goodIn_r _ [7, 1, 8, 9, 6, 10, 22, 23, 24, 25, 26, 27] (by decide +kernel) (by decide +kernel)
set_option maxRecDepth 20000 in
theorem gX6_close_X6_wasOpened : GoodIn wsX6_close (wsV RX6 113 RX6 yX6_wasOpened wsX6_wasOpened) := goodIn_app (goodIn_of _ (by decide +kernel)) ggX6_close_X6_wasOpened
set_option maxRecDepth 20000 in
theorem ggX6_close_X6_addResult : GoodIn wsX6_close wsX6_addResult := goodIn_r _ [14, 1, 15, 16, 6, 17, 18, 19, 20, 21, 22, 23, 24, 25, 26, 27] (by decide +kernel) (by decide +kernel)
set_option maxRecDepth 20000 in
theorem gX6_close_X6_addResult : GoodIn wsX6_close (wsV RX6 116 RX6 yX6_addResult wsX6_addResult) := goodIn_app (goodIn_of _ (by decide +kernel)) ggX6_close_X6_addResult
set_option maxRecDepth 20000 in
theorem ggX6_close_X6_trip : GoodIn wsX6_close wsX6_trip := goodIn_r _ [21, 1, 22, 23, 24, 25, 26, 27] (by decide +kernel) (by decide +kernel)
set_option maxRecDepth 20000 in
theorem gX6_close_X6_trip : GoodIn wsX6_close (wsV RX6 110 RX6 yX6_trip wsX6_trip) := goodIn_app (goodIn_of _ (by decide +kernel)) ggX6_close_X6_trip
theorem dX6_close_0 : decode cX6_close 0 = .ok (.aload_n 0, 1) := by decide +kernel
theorem dX6_close_1 : decode cX6_close 1 = .ok (.aload_n 0, 1) := by decide +kernel
theorem dX6_close_2 : decode cX6_close 2 = .ok (.iload_n 1, 1) := by decide +kernel
theorem dX6_close_3 : decode cX6_close 3 = .ok (.invokevirtual 113, 3) := by decide +kernel
theorem dX6_close_6 : decode cX6_close 6 = .ok (.ifCond .ne 7, 3) := by decide +kernel
theorem dX6_close_9 : decode cX6_close 9 = .ok (.iconst 1, 1) := by decide +kernel
theorem dX6_close_10 : decode cX6_close 10 = .ok (.goto 22, 3) := by decide +kernel
theorem dX6_close_13 : decode cX6_close 13 = .ok (.aload_n 0, 1) := by decide +kernel
theorem dX6_close_14 : decode cX6_close 14 = .ok (.getfield 7, 3) := by decide +kernel
theorem dX6_close_17 : decode cX6_close 17 = .ok (.sipush 2263, 3) := by decide +kernel
theorem dX6_close_20 : decode cX6_close 20 = .ok (.iload_n 1, 1) := by decide +kernel
theorem dX6_close_21 : decode cX6_close 21 = .ok (.iadd, 1) := by decide +kernel
theorem dX6_close_22 : decode cX6_close 22 = .ok (.iaload, 1) := by decide +kernel
theorem dX6_close_23 : decode cX6_close 23 = .ok (.iconst 1, 1) := by decide +kernel
theorem dX6_close_24 : decode cX6_close 24 = .ok (.if_icmp .ne 7, 3) := by decide +kernel
theorem dX6_close_27 : decode cX6_close 27 = .ok (.iconst 2, 1) := by decide +kernel
theorem dX6_close_28 : decode cX6_close 28 = .ok (.goto 4, 3) := by decide +kernel
theorem dX6_close_31 : decode cX6_close 31 = .ok (.iconst 0, 1) := by decide +kernel
theorem dX6_close_32 : decode cX6_close 32 = .ok (.putfield 23, 3) := by decide +kernel
theorem dX6_close_35 : decode cX6_close 35 = .ok (.aload_n 0, 1) := by decide +kernel
theorem dX6_close_36 : decode cX6_close 36 = .ok (.getfield 23, 3) := by decide +kernel
theorem dX6_close_39 : decode cX6_close 39 = .ok (.ifCond .eq 5, 3) := by decide +kernel
theorem dX6_close_42 : decode cX6_close 42 = .ok (.iconst 0, 1) := by decide +kernel
theorem dX6_close_43 : decode cX6_close 43 = .ok (.ireturn, 1) := by decide +kernel
theorem dX6_close_44 : decode cX6_close 44 = .ok (.aload_n 0, 1) := by decide +kernel
theorem dX6_close_45 : decode cX6_close 45 = .ok (.getfield 7, 3) := by decide +kernel
theorem dX6_close_48 : decode cX6_close 48 = .ok (.sipush 263, 3) := by decide +kernel
theorem dX6_close_51 : decode cX6_close 51 = .ok (.iload_n 1, 1) := by decide +kernel
theorem dX6_close_52 : decode cX6_close 52 = .ok (.iadd, 1) := by decide +kernel
theorem dX6_close_53 : decode cX6_close 53 = .ok (.iaload, 1) := by decide +kernel
theorem dX6_close_54 : decode cX6_close 54 = .ok (.istore_n 3, 1) := by decide +kernel
theorem dX6_close_55 : decode cX6_close 55 = .ok (.aload_n 0, 1) := by decide +kernel
theorem dX6_close_56 : decode cX6_close 56 = .ok (.getfield 7, 3) := by decide +kernel
theorem dX6_close_59 : decode cX6_close 59 = .ok (.sipush 2263, 3) := by decide +kernel
theorem dX6_close_62 : decode cX6_close 62 = .ok (.iload_n 1, 1) := by decide +kernel
theorem dX6_close_63 : decode cX6_close 63 = .ok (.iadd, 1) := by decide +kernel
theorem dX6_close_64 : decode cX6_close 64 = .ok (.iconst 1, 1) := by decide +kernel
theorem dX6_close_65 : decode cX6_close 65 = .ok (.iastore, 1) := by decide +kernel
theorem dX6_close_66 : decode cX6_close 66 = .ok (.aload_n 0, 1) := by decide +kernel
theorem dX6_close_67 : decode cX6_close 67 = .ok (.getfield 7, 3) := by decide +kernel
theorem dX6_close_70 : decode cX6_close 70 = .ok (.bipush 33, 2) := by decide +kernel
theorem dX6_close_72 : decode cX6_close 72 = .ok (.iload_n 3, 1) := by decide +kernel
theorem dX6_close_73 : decode cX6_close 73 = .ok (.iadd, 1) := by decide +kernel
theorem dX6_close_74 : decode cX6_close 74 = .ok (.dup2, 1) := by decide +kernel
theorem dX6_close_75 : decode cX6_close 75 = .ok (.iaload, 1) := by decide +kernel
theorem dX6_close_76 : decode cX6_close 76 = .ok (.iconst 1, 1) := by decide +kernel
theorem dX6_close_77 : decode cX6_close 77 = .ok (.isub, 1) := by decide +kernel
theorem dX6_close_78 : decode cX6_close 78 = .ok (.iastore, 1) := by decide +kernel
theorem dX6_close_79 : decode cX6_close 79 = .ok (.aload_n 0, 1) := by decide +kernel
theorem dX6_close_80 : decode cX6_close 80 = .ok (.getfield 7, 3) := by decide +kernel
theorem dX6_close_83 : decode cX6_close 83 = .ok (.bipush 83, 2) := by decide +kernel
theorem dX6_close_85 : decode cX6_close 85 = .ok (.iload_n 3, 1) := by decide +kernel
theorem dX6_close_86 : decode cX6_close 86 = .ok (.iadd, 1) := by decide +kernel
theorem dX6_close_87 : decode cX6_close 87 = .ok (.iaload, 1) := by decide +kernel
theorem dX6_close_88 : decode cX6_close 88 = .ok (.ifCond .ne 12, 3) := by decide +kernel
theorem dX6_close_91 : decode cX6_close 91 = .ok (.aload_n 0, 1) := by decide +kernel
theorem dX6_close_92 : decode cX6_close 92 = .ok (.iload_n 3, 1) := by decide +kernel
theorem dX6_close_93 : decode cX6_close 93 = .ok (.iload_n 2, 1) := by decide +kernel
theorem dX6_close_94 : decode cX6_close 94 = .ok (.invokevirtual 116, 3) := by decide +kernel
theorem dX6_close_97 : decode cX6_close 97 = .ok (.goto 82, 3) := by decide +kernel
theorem dX6_close_100 : decode cX6_close 100 = .ok (.aload_n 0, 1) := by decide +kernel
theorem dX6_close_101 : decode cX6_close 101 = .ok (.getfield 7, 3) := by decide +kernel
theorem dX6_close_104 : decode cX6_close 104 = .ok (.bipush 83, 2) := by decide +kernel
theorem dX6_close_106 : decode cX6_close 106 = .ok (.iload_n 3, 1) := by decide +kernel
theorem dX6_close_107 : decode cX6_close 107 = .ok (.iadd, 1) := by decide +kernel
theorem dX6_close_108 : decode cX6_close 108 = .ok (.iaload, 1) := by decide +kernel
theorem dX6_close_109 : decode cX6_close 109 = .ok (.iconst 2, 1) := by decide +kernel
theorem dX6_close_110 : decode cX6_close 110 = .ok (.if_icmp .ne 69, 3) := by decide +kernel
theorem dX6_close_113 : decode cX6_close 113 = .ok (.aload_n 0, 1) := by decide +kernel
theorem dX6_close_114 : decode cX6_close 114 = .ok (.getfield 7, 3) := by decide +kernel
theorem dX6_close_117 : decode cX6_close 117 = .ok (.bipush 103, 2) := by decide +kernel
theorem dX6_close_119 : decode cX6_close 119 = .ok (.iload_n 3, 1) := by decide +kernel
theorem dX6_close_120 : decode cX6_close 120 = .ok (.iadd, 1) := by decide +kernel
theorem dX6_close_121 : decode cX6_close 121 = .ok (.iaload, 1) := by decide +kernel
theorem dX6_close_122 : decode cX6_close 122 = .ok (.iload_n 1, 1) := by decide +kernel
theorem dX6_close_123 : decode cX6_close 123 = .ok (.if_icmp .ne 56, 3) := by decide +kernel
theorem dX6_close_126 : decode cX6_close 126 = .ok (.iload_n 2, 1) := by decide +kernel
theorem dX6_close_127 : decode cX6_close 127 = .ok (.ifCond .eq 47, 3) := by decide +kernel
theorem dX6_close_130 : decode cX6_close 130 = .ok (.aload_n 0, 1) := by decide +kernel
theorem dX6_close_131 : decode cX6_close 131 = .ok (.getfield 7, 3) := by decide +kernel
theorem dX6_close_134 : decode cX6_close 134 = .ok (.bipush 83, 2) := by decide +kernel
theorem dX6_close_136 : decode cX6_close 136 = .ok (.iload_n 3, 1) := by decide +kernel
theorem dX6_close_137 : decode cX6_close 137 = .ok (.iadd, 1) := by decide +kernel
theorem dX6_close_138 : decode cX6_close 138 = .ok (.iconst 0, 1) := by decide +kernel
theorem dX6_close_139 : decode cX6_close 139 = .ok (.iastore, 1) := by decide +kernel
theorem dX6_close_140 : decode cX6_close 140 = .ok (.aload_n 0, 1) := by decide +kernel
theorem dX6_close_141 : decode cX6_close 141 = .ok (.getfield 7, 3) := by decide +kernel
theorem dX6_close_144 : decode cX6_close 144 = .ok (.bipush 103, 2) := by decide +kernel
theorem dX6_close_146 : decode cX6_close 146 = .ok (.iload_n 3, 1) := by decide +kernel
theorem dX6_close_147 : decode cX6_close 147 = .ok (.iadd, 1) := by decide +kernel
theorem dX6_close_148 : decode cX6_close 148 = .ok (.iconst (-1), 1) := by decide +kernel
theorem dX6_close_149 : decode cX6_close 149 = .ok (.iastore, 1) := by decide +kernel
theorem dX6_close_150 : decode cX6_close 150 = .ok (.aload_n 0, 1) := by decide +kernel
theorem dX6_close_151 : decode cX6_close 151 = .ok (.getfield 7, 3) := by decide +kernel
theorem dX6_close_154 : decode cX6_close 154 = .ok (.bipush 123, 2) := by decide +kernel
theorem dX6_close_156 : decode cX6_close 156 = .ok (.iload_n 3, 1) := by decide +kernel
theorem dX6_close_157 : decode cX6_close 157 = .ok (.iadd, 1) := by decide +kernel
theorem dX6_close_158 : decode cX6_close 158 = .ok (.iconst 0, 1) := by decide +kernel
theorem dX6_close_159 : decode cX6_close 159 = .ok (.iastore, 1) := by decide +kernel
theorem dX6_close_160 : decode cX6_close 160 = .ok (.aload_n 0, 1) := by decide +kernel
theorem dX6_close_161 : decode cX6_close 161 = .ok (.getfield 7, 3) := by decide +kernel
theorem dX6_close_164 : decode cX6_close 164 = .ok (.sipush 133, 3) := by decide +kernel
theorem dX6_close_167 : decode cX6_close 167 = .ok (.iload_n 3, 1) := by decide +kernel
theorem dX6_close_168 : decode cX6_close 168 = .ok (.iadd, 1) := by decide +kernel
theorem dX6_close_169 : decode cX6_close 169 = .ok (.iconst 0, 1) := by decide +kernel
theorem dX6_close_170 : decode cX6_close 170 = .ok (.iastore, 1) := by decide +kernel
theorem dX6_close_171 : decode cX6_close 171 = .ok (.goto 8, 3) := by decide +kernel
theorem dX6_close_174 : decode cX6_close 174 = .ok (.aload_n 0, 1) := by decide +kernel
theorem dX6_close_175 : decode cX6_close 175 = .ok (.iload_n 3, 1) := by decide +kernel
theorem dX6_close_176 : decode cX6_close 176 = .ok (.invokevirtual 110, 3) := by decide +kernel
theorem dX6_close_179 : decode cX6_close 179 = .ok (.aload_n 0, 1) := by decide +kernel
theorem dX6_close_180 : decode cX6_close 180 = .ok (.getfield 7, 3) := by decide +kernel
theorem dX6_close_183 : decode cX6_close 183 = .ok (.iconst 1, 1) := by decide +kernel
theorem dX6_close_184 : decode cX6_close 184 = .ok (.iaload, 1) := by decide +kernel
theorem dX6_close_185 : decode cX6_close 185 = .ok (.aload_n 0, 1) := by decide +kernel
theorem dX6_close_186 : decode cX6_close 186 = .ok (.getfield 7, 3) := by decide +kernel
theorem dX6_close_189 : decode cX6_close 189 = .ok (.sipush 1263, 3) := by decide +kernel
theorem dX6_close_192 : decode cX6_close 192 = .ok (.iload_n 1, 1) := by decide +kernel
theorem dX6_close_193 : decode cX6_close 193 = .ok (.iadd, 1) := by decide +kernel
theorem dX6_close_194 : decode cX6_close 194 = .ok (.iaload, 1) := by decide +kernel
theorem dX6_close_195 : decode cX6_close 195 = .ok (.isub, 1) := by decide +kernel
theorem dX6_close_196 : decode cX6_close 196 = .ok (.ireturn, 1) := by decide +kernel
set_option maxRecDepth 20000 in
theorem ggX6_serverOf_X6_wasOpened : GoodIn wsX6_serverOf wsX6_wasOpened := goodIn_r _ [7, 2, 8, 9, 6, 10, 11, 12, 13, 14, 15, 16] (by decide +kernel) (by decide +kernel)
set_option maxRecDepth 20000 in
theorem gX6_serverOf_X6_wasOpened : GoodIn wsX6_serverOf (wsV RX6 113 RX6 yX6_wasOpened wsX6_wasOpened) := goodIn_app (goodIn_of _ (by decide +kernel)) ggX6_serverOf_X6_wasOpened
theorem dX6_serverOf_0 : decode cX6_serverOf 0 = .ok (.aload_n 0, 1) := by decide +kernel
theorem dX6_serverOf_1 : decode cX6_serverOf 1 = .ok (.aload_n 0, 1) := by decide +kernel
theorem dX6_serverOf_2 : decode cX6_serverOf 2 = .ok (.iload_n 1, 1) := by decide +kernel
theorem dX6_serverOf_3 : decode cX6_serverOf 3 = .ok (.invokevirtual 113, 3) := by decide +kernel
theorem dX6_serverOf_6 : decode cX6_serverOf 6 = .ok (.ifCond .eq 7, 3) := by decide +kernel
theorem dX6_serverOf_9 : decode cX6_serverOf 9 = .ok (.iconst 0, 1) := by decide +kernel
theorem dX6_serverOf_10 : decode cX6_serverOf 10 = .ok (.goto 4, 3) := by decide +kernel
theorem dX6_serverOf_13 : decode cX6_serverOf 13 = .ok (.iconst 1, 1) := by decide +kernel
theorem dX6_serverOf_14 : decode cX6_serverOf 14 = .ok (.putfield 23, 3) := by decide +kernel
theorem dX6_serverOf_17 : decode cX6_serverOf 17 = .ok (.aload_n 0, 1) := by decide +kernel
theorem dX6_serverOf_18 : decode cX6_serverOf 18 = .ok (.getfield 23, 3) := by decide +kernel
theorem dX6_serverOf_21 : decode cX6_serverOf 21 = .ok (.ifCond .eq 7, 3) := by decide +kernel
theorem dX6_serverOf_24 : decode cX6_serverOf 24 = .ok (.iconst 0, 1) := by decide +kernel
theorem dX6_serverOf_25 : decode cX6_serverOf 25 = .ok (.goto 13, 3) := by decide +kernel
theorem dX6_serverOf_28 : decode cX6_serverOf 28 = .ok (.aload_n 0, 1) := by decide +kernel
theorem dX6_serverOf_29 : decode cX6_serverOf 29 = .ok (.getfield 7, 3) := by decide +kernel
theorem dX6_serverOf_32 : decode cX6_serverOf 32 = .ok (.sipush 263, 3) := by decide +kernel
theorem dX6_serverOf_35 : decode cX6_serverOf 35 = .ok (.iload_n 1, 1) := by decide +kernel
theorem dX6_serverOf_36 : decode cX6_serverOf 36 = .ok (.iadd, 1) := by decide +kernel
theorem dX6_serverOf_37 : decode cX6_serverOf 37 = .ok (.iaload, 1) := by decide +kernel
theorem dX6_serverOf_38 : decode cX6_serverOf 38 = .ok (.ireturn, 1) := by decide +kernel
set_option maxRecDepth 20000 in
theorem ggX6_isAvailable_X6_isServer : GoodIn wsX6_isAvailable wsX6_isServer := goodIn_r _ [6, 7, 8, 9, 5, 10, 15, 16, 17, 18, 19, 20] (by decide +kernel) (by decide +kernel)
set_option maxRecDepth 20000 in
theorem gX6_isAvailable_X6_isServer : GoodIn wsX6_isAvailable (wsV RX6 31 RX6 yX6_isServer wsX6_isServer) := goodIn_app (goodIn_of _ (by decide +kernel)) ggX6_isAvailable_X6_isServer
set_option maxRecDepth 20000 in
theorem ggX6_isAvailable_X6_mayTake : GoodIn wsX6_isAvailable wsX6_mayTake := goodIn_r _ [14, 7, 15, 16, 17, 18, 19, 20] (by decide +kernel) (by decide +kernel)
set_option maxRecDepth 20000 in
theorem gX6_isAvailable_X6_mayTake : GoodIn wsX6_isAvailable (wsV RX6 42 RX6 yX6_mayTake wsX6_mayTake) := goodIn_app (goodIn_of _ (by decide +kernel)) ggX6_isAvailable_X6_mayTake
theorem dX6_isAvailable_0 : decode cX6_isAvailable 0 = .ok (.aload_n 0, 1) := by decide +kernel
theorem dX6_isAvailable_1 : decode cX6_isAvailable 1 = .ok (.aload_n 0, 1) := by decide +kernel
theorem dX6_isAvailable_2 : decode cX6_isAvailable 2 = .ok (.iload_n 1, 1) := by decide +kernel
theorem dX6_isAvailable_3 : decode cX6_isAvailable 3 = .ok (.invokevirtual 31, 3) := by decide +kernel
theorem dX6_isAvailable_6 : decode cX6_isAvailable 6 = .ok (.ifCond .eq 7, 3) := by decide +kernel
theorem dX6_isAvailable_9 : decode cX6_isAvailable 9 = .ok (.iconst 0, 1) := by decide +kernel
theorem dX6_isAvailable_10 : decode cX6_isAvailable 10 = .ok (.goto 4, 3) := by decide +kernel
theorem dX6_isAvailable_13 : decode cX6_isAvailable 13 = .ok (.iconst 1, 1) := by decide +kernel
theorem dX6_isAvailable_14 : decode cX6_isAvailable 14 = .ok (.putfield 23, 3) := by decide +kernel
theorem dX6_isAvailable_17 : decode cX6_isAvailable 17 = .ok (.aload_n 0, 1) := by decide +kernel
theorem dX6_isAvailable_18 : decode cX6_isAvailable 18 = .ok (.getfield 23, 3) := by decide +kernel
theorem dX6_isAvailable_21 : decode cX6_isAvailable 21 = .ok (.ifCond .ne 15, 3) := by decide +kernel
theorem dX6_isAvailable_24 : decode cX6_isAvailable 24 = .ok (.aload_n 0, 1) := by decide +kernel
theorem dX6_isAvailable_25 : decode cX6_isAvailable 25 = .ok (.iload_n 1, 1) := by decide +kernel
theorem dX6_isAvailable_26 : decode cX6_isAvailable 26 = .ok (.invokevirtual 42, 3) := by decide +kernel
theorem dX6_isAvailable_29 : decode cX6_isAvailable 29 = .ok (.ifCond .eq 7, 3) := by decide +kernel
theorem dX6_isAvailable_32 : decode cX6_isAvailable 32 = .ok (.iconst 1, 1) := by decide +kernel
theorem dX6_isAvailable_33 : decode cX6_isAvailable 33 = .ok (.goto 4, 3) := by decide +kernel
theorem dX6_isAvailable_36 : decode cX6_isAvailable 36 = .ok (.iconst 0, 1) := by decide +kernel
theorem dX6_isAvailable_37 : decode cX6_isAvailable 37 = .ok (.ireturn, 1) := by decide +kernel
set_option maxRecDepth 20000 in
theorem ggX6_effectiveWeight_X6_isServer : GoodIn wsX6_effectiveWeight wsX6_isServer := goodIn_r _ [6, 7, 8, 9, 5, 10, 15, 16, 17, 18, 19, 20] (by decide +kernel) (by decide +kernel)
set_option maxRecDepth 20000 in
theorem gX6_effectiveWeight_X6_isServer : GoodIn wsX6_effectiveWeight (wsV RX6 31 RX6 yX6_isServer wsX6_isServer) := goodIn_app (goodIn_of _ (by decide +kernel)) ggX6_effectiveWeight_X6_isServer
set_option maxRecDepth 20000 in
theorem ggX6_effectiveWeight_X6_weightNow : GoodIn wsX6_effectiveWeight wsX6_weightNow := goodIn_r _ [14, 7, 15, 16, 17, 18, 19, 20] (by decide +kernel) (by decide +kernel)
set_option maxRecDepth 20000 in
theorem gX6_effectiveWeight_X6_weightNow : GoodIn wsX6_effectiveWeight (wsV RX6 45 RX6 yX6_weightNow wsX6_weightNow) := goodIn_app (goodIn_of _ (by decide +kernel)) ggX6_effectiveWeight_X6_weightNow
theorem dX6_effectiveWeight_0 : decode cX6_effectiveWeight 0 = .ok (.aload_n 0, 1) := by decide +kernel
theorem dX6_effectiveWeight_1 : decode cX6_effectiveWeight 1 = .ok (.aload_n 0, 1) := by decide +kernel
theorem dX6_effectiveWeight_2 : decode cX6_effectiveWeight 2 = .ok (.iload_n 1, 1) := by decide +kernel
theorem dX6_effectiveWeight_3 : decode cX6_effectiveWeight 3 = .ok (.invokevirtual 31, 3) := by decide +kernel
theorem dX6_effectiveWeight_6 : decode cX6_effectiveWeight 6 = .ok (.ifCond .eq 7, 3) := by decide +kernel
theorem dX6_effectiveWeight_9 : decode cX6_effectiveWeight 9 = .ok (.iconst 0, 1) := by decide +kernel
theorem dX6_effectiveWeight_10 : decode cX6_effectiveWeight 10 = .ok (.goto 4, 3) := by decide +kernel
theorem dX6_effectiveWeight_13 : decode cX6_effectiveWeight 13 = .ok (.iconst 1, 1) := by decide +kernel
theorem dX6_effectiveWeight_14 : decode cX6_effectiveWeight 14 = .ok (.putfield 23, 3) := by decide +kernel
theorem dX6_effectiveWeight_17 : decode cX6_effectiveWeight 17 = .ok (.aload_n 0, 1) := by decide +kernel
theorem dX6_effectiveWeight_18 : decode cX6_effectiveWeight 18 = .ok (.getfield 23, 3) := by decide +kernel
theorem dX6_effectiveWeight_21 : decode cX6_effectiveWeight 21 = .ok (.ifCond .eq 7, 3) := by decide +kernel
theorem dX6_effectiveWeight_24 : decode cX6_effectiveWeight 24 = .ok (.iconst 0, 1) := by decide +kernel
theorem dX6_effectiveWeight_25 : decode cX6_effectiveWeight 25 = .ok (.goto 8, 3) := by decide +kernel
theorem dX6_effectiveWeight_28 : decode cX6_effectiveWeight 28 = .ok (.aload_n 0, 1) := by decide +kernel
theorem dX6_effectiveWeight_29 : decode cX6_effectiveWeight 29 = .ok (.iload_n 1, 1) := by decide +kernel
theorem dX6_effectiveWeight_30 : decode cX6_effectiveWeight 30 = .ok (.invokevirtual 45, 3) := by decide +kernel
theorem dX6_effectiveWeight_33 : decode cX6_effectiveWeight 33 = .ok (.ireturn, 1) := by decide +kernel
set_option maxRecDepth 20000 in
theorem ggX6_active_X6_isServer : GoodIn wsX6_active wsX6_isServer := goodIn_r _ [7, 2, 8, 9, 6, 10, 11, 12, 13, 14, 15, 16] (by decide +kernel) (by decide +kernel)
set_option maxRecDepth 20000 in
theorem gX6_active_X6_isServer : GoodIn wsX6_active (wsV RX6 31 RX6 yX6_isServer wsX6_isServer) := goodIn_app (goodIn_of _ (by decide +kernel)) ggX6_active_X6_isServer
theorem dX6_active_0 : decode cX6_active 0 = .ok (.aload_n 0, 1) := by decide +kernel
theorem dX6_active_1 : decode cX6_active 1 = .ok (.aload_n 0, 1) := by decide +kernel
theorem dX6_active_2 : decode cX6_active 2 = .ok (.iload_n 1, 1) := by decide +kernel
theorem dX6_active_3 : decode cX6_active 3 = .ok (.invokevirtual 31, 3) := by decide +kernel
theorem dX6_active_6 : decode cX6_active 6 = .ok (.ifCond .eq 7, 3) := by decide +kernel
theorem dX6_active_9 : decode cX6_active 9 = .ok (.iconst 0, 1) := by decide +kernel
theorem dX6_active_10 : decode cX6_active 10 = .ok (.goto 4, 3) := by decide +kernel
theorem dX6_active_13 : decode cX6_active 13 = .ok (.iconst 1, 1) := by decide +kernel
theorem dX6_active_14 : decode cX6_active 14 = .ok (.putfield 23, 3) := by decide +kernel
theorem dX6_active_17 : decode cX6_active 17 = .ok (.aload_n 0, 1) := by decide +kernel
theorem dX6_active_18 : decode cX6_active 18 = .ok (.getfield 23, 3) := by decide +kernel
theorem dX6_active_21 : decode cX6_active 21 = .ok (.ifCond .eq 7, 3) := by decide +kernel
theorem dX6_active_24 : decode cX6_active 24 = .ok (.iconst 0, 1) := by decide +kernel
theorem dX6_active_25 : decode cX6_active 25 = .ok (.goto 12, 3) := by decide +kernel
theorem dX6_active_28 : decode cX6_active 28 = .ok (.aload_n 0, 1) := by decide +kernel
theorem dX6_active_29 : decode cX6_active 29 = .ok (.getfield 7, 3) := by decide +kernel
theorem dX6_active_32 : decode cX6_active 32 = .ok (.bipush 33, 2) := by decide +kernel
theorem dX6_active_34 : decode cX6_active 34 = .ok (.iload_n 1, 1) := by decide +kernel
theorem dX6_active_35 : decode cX6_active 35 = .ok (.iadd, 1) := by decide +kernel
theorem dX6_active_36 : decode cX6_active 36 = .ok (.iaload, 1) := by decide +kernel
theorem dX6_active_37 : decode cX6_active 37 = .ok (.ireturn, 1) := by decide +kernel
set_option maxRecDepth 20000 in
theorem ggX6_utilization_X6_isServer : GoodIn wsX6_utilization wsX6_isServer := goodIn_r _ [7, 2, 8, 9, 6, 10, 11, 12, 13, 14, 15, 16] (by decide +kernel) (by decide +kernel)
set_option maxRecDepth 20000 in
theorem gX6_utilization_X6_isServer : GoodIn wsX6_utilization (wsV RX6 31 RX6 yX6_isServer wsX6_isServer) := goodIn_app (goodIn_of _ (by decide +kernel)) ggX6_utilization_X6_isServer
theorem dX6_utilization_0 : decode cX6_utilization 0 = .ok (.aload_n 0, 1) := by decide +kernel
theorem dX6_utilization_1 : decode cX6_utilization 1 = .ok (.aload_n 0, 1) := by decide +kernel
theorem dX6_utilization_2 : decode cX6_utilization 2 = .ok (.iload_n 1, 1) := by decide +kernel
theorem dX6_utilization_3 : decode cX6_utilization 3 = .ok (.invokevirtual 31, 3) := by decide +kernel
theorem dX6_utilization_6 : decode cX6_utilization 6 = .ok (.ifCond .eq 7, 3) := by decide +kernel
theorem dX6_utilization_9 : decode cX6_utilization 9 = .ok (.iconst 0, 1) := by decide +kernel
theorem dX6_utilization_10 : decode cX6_utilization 10 = .ok (.goto 4, 3) := by decide +kernel
theorem dX6_utilization_13 : decode cX6_utilization 13 = .ok (.iconst 1, 1) := by decide +kernel
theorem dX6_utilization_14 : decode cX6_utilization 14 = .ok (.putfield 23, 3) := by decide +kernel
theorem dX6_utilization_17 : decode cX6_utilization 17 = .ok (.aload_n 0, 1) := by decide +kernel
theorem dX6_utilization_18 : decode cX6_utilization 18 = .ok (.getfield 23, 3) := by decide +kernel
theorem dX6_utilization_21 : decode cX6_utilization 21 = .ok (.ifCond .eq 7, 3) := by decide +kernel
theorem dX6_utilization_24 : decode cX6_utilization 24 = .ok (.dconst 0, 1) := by decide +kernel
theorem dX6_utilization_25 : decode cX6_utilization 25 = .ok (.goto 24, 3) := by decide +kernel
theorem dX6_utilization_28 : decode cX6_utilization 28 = .ok (.aload_n 0, 1) := by decide +kernel
theorem dX6_utilization_29 : decode cX6_utilization 29 = .ok (.getfield 7, 3) := by decide +kernel
theorem dX6_utilization_32 : decode cX6_utilization 32 = .ok (.bipush 33, 2) := by decide +kernel
theorem dX6_utilization_34 : decode cX6_utilization 34 = .ok (.iload_n 1, 1) := by decide +kernel
theorem dX6_utilization_35 : decode cX6_utilization 35 = .ok (.iadd, 1) := by decide +kernel
theorem dX6_utilization_36 : decode cX6_utilization 36 = .ok (.iaload, 1) := by decide +kernel
theorem dX6_utilization_37 : decode cX6_utilization 37 = .ok (.i2d, 1) := by decide +kernel
theorem dX6_utilization_38 : decode cX6_utilization 38 = .ok (.aload_n 0, 1) := by decide +kernel
theorem dX6_utilization_39 : decode cX6_utilization 39 = .ok (.getfield 7, 3) := by decide +kernel
theorem dX6_utilization_42 : decode cX6_utilization 42 = .ok (.bipush 23, 2) := by decide +kernel
theorem dX6_utilization_44 : decode cX6_utilization 44 = .ok (.iload_n 1, 1) := by decide +kernel
theorem dX6_utilization_45 : decode cX6_utilization 45 = .ok (.iadd, 1) := by decide +kernel
theorem dX6_utilization_46 : decode cX6_utilization 46 = .ok (.iaload, 1) := by decide +kernel
theorem dX6_utilization_47 : decode cX6_utilization 47 = .ok (.i2d, 1) := by decide +kernel
theorem dX6_utilization_48 : decode cX6_utilization 48 = .ok (.ddiv, 1) := by decide +kernel
theorem dX6_utilization_49 : decode cX6_utilization 49 = .ok (.dreturn, 1) := by decide +kernel
set_option maxRecDepth 20000 in
theorem ggX6_breaker_X6_isServer : GoodIn wsX6_breaker wsX6_isServer := goodIn_r _ [7, 2, 8, 9, 6, 10, 11, 12, 13, 14, 15, 16] (by decide +kernel) (by decide +kernel)
set_option maxRecDepth 20000 in
theorem gX6_breaker_X6_isServer : GoodIn wsX6_breaker (wsV RX6 31 RX6 yX6_isServer wsX6_isServer) := goodIn_app (goodIn_of _ (by decide +kernel)) ggX6_breaker_X6_isServer
theorem dX6_breaker_0 : decode cX6_breaker 0 = .ok (.aload_n 0, 1) := by decide +kernel
theorem dX6_breaker_1 : decode cX6_breaker 1 = .ok (.aload_n 0, 1) := by decide +kernel
theorem dX6_breaker_2 : decode cX6_breaker 2 = .ok (.iload_n 1, 1) := by decide +kernel
theorem dX6_breaker_3 : decode cX6_breaker 3 = .ok (.invokevirtual 31, 3) := by decide +kernel
theorem dX6_breaker_6 : decode cX6_breaker 6 = .ok (.ifCond .eq 7, 3) := by decide +kernel
theorem dX6_breaker_9 : decode cX6_breaker 9 = .ok (.iconst 0, 1) := by decide +kernel
theorem dX6_breaker_10 : decode cX6_breaker 10 = .ok (.goto 4, 3) := by decide +kernel
theorem dX6_breaker_13 : decode cX6_breaker 13 = .ok (.iconst 1, 1) := by decide +kernel
theorem dX6_breaker_14 : decode cX6_breaker 14 = .ok (.putfield 23, 3) := by decide +kernel
theorem dX6_breaker_17 : decode cX6_breaker 17 = .ok (.aload_n 0, 1) := by decide +kernel
theorem dX6_breaker_18 : decode cX6_breaker 18 = .ok (.getfield 23, 3) := by decide +kernel
theorem dX6_breaker_21 : decode cX6_breaker 21 = .ok (.ifCond .eq 7, 3) := by decide +kernel
theorem dX6_breaker_24 : decode cX6_breaker 24 = .ok (.iconst 0, 1) := by decide +kernel
theorem dX6_breaker_25 : decode cX6_breaker 25 = .ok (.goto 12, 3) := by decide +kernel
theorem dX6_breaker_28 : decode cX6_breaker 28 = .ok (.aload_n 0, 1) := by decide +kernel
theorem dX6_breaker_29 : decode cX6_breaker 29 = .ok (.getfield 7, 3) := by decide +kernel
theorem dX6_breaker_32 : decode cX6_breaker 32 = .ok (.bipush 83, 2) := by decide +kernel
theorem dX6_breaker_34 : decode cX6_breaker 34 = .ok (.iload_n 1, 1) := by decide +kernel
theorem dX6_breaker_35 : decode cX6_breaker 35 = .ok (.iadd, 1) := by decide +kernel
theorem dX6_breaker_36 : decode cX6_breaker 36 = .ok (.iaload, 1) := by decide +kernel
theorem dX6_breaker_37 : decode cX6_breaker 37 = .ok (.ireturn, 1) := by decide +kernel
set_option maxRecDepth 20000 in
theorem ggX6_owner_X6_byPoints : GoodIn wsX6_owner wsX6_byPoints := goodIn_r _ [7, 1, 8, 9, 10, 6, 11, 12, 13, 14, 15, 16, 17, 18, 19, 20, 21, 22, 23, 24, 25] (by decide +kernel) (by decide +kernel)
set_option maxRecDepth 20000 in
theorem gX6_owner_X6_byPoints : GoodIn wsX6_owner (wsV RX6 73 RX6 yX6_byPoints wsX6_byPoints) := goodIn_app (goodIn_of _ (by decide +kernel)) ggX6_owner_X6_byPoints
theorem dX6_owner_0 : decode cX6_owner 0 = .ok (.aload_n 0, 1) := by decide +kernel
theorem dX6_owner_1 : decode cX6_owner 1 = .ok (.aload_n 0, 1) := by decide +kernel
theorem dX6_owner_2 : decode cX6_owner 2 = .ok (.getfield 7, 3) := by decide +kernel
theorem dX6_owner_5 : decode cX6_owner 5 = .ok (.iconst 0, 1) := by decide +kernel
theorem dX6_owner_6 : decode cX6_owner 6 = .ok (.iaload, 1) := by decide +kernel
theorem dX6_owner_7 : decode cX6_owner 7 = .ok (.ifCond .ne 7, 3) := by decide +kernel
theorem dX6_owner_10 : decode cX6_owner 10 = .ok (.iconst 1, 1) := by decide +kernel
theorem dX6_owner_11 : decode cX6_owner 11 = .ok (.goto 4, 3) := by decide +kernel
theorem dX6_owner_14 : decode cX6_owner 14 = .ok (.iconst 0, 1) := by decide +kernel
theorem dX6_owner_15 : decode cX6_owner 15 = .ok (.putfield 23, 3) := by decide +kernel
theorem dX6_owner_18 : decode cX6_owner 18 = .ok (.aload_n 0, 1) := by decide +kernel
theorem dX6_owner_19 : decode cX6_owner 19 = .ok (.getfield 23, 3) := by decide +kernel
theorem dX6_owner_22 : decode cX6_owner 22 = .ok (.ifCond .eq 7, 3) := by decide +kernel
theorem dX6_owner_25 : decode cX6_owner 25 = .ok (.iconst 0, 1) := by decide +kernel
theorem dX6_owner_26 : decode cX6_owner 26 = .ok (.goto 9, 3) := by decide +kernel
theorem dX6_owner_29 : decode cX6_owner 29 = .ok (.aload_n 0, 1) := by decide +kernel
theorem dX6_owner_30 : decode cX6_owner 30 = .ok (.iload_n 1, 1) := by decide +kernel
theorem dX6_owner_31 : decode cX6_owner 31 = .ok (.iconst 1, 1) := by decide +kernel
theorem dX6_owner_32 : decode cX6_owner 32 = .ok (.invokevirtual 73, 3) := by decide +kernel
theorem dX6_owner_35 : decode cX6_owner 35 = .ok (.ireturn, 1) := by decide +kernel
set_option maxRecDepth 20000 in
theorem ggX6_count_X6_in : GoodIn wsX6_count wsX6_in := goodIn_r _ [6] (by decide +kernel) (by decide +kernel)
set_option maxRecDepth 20000 in
theorem gX6_count_X6_in : GoodIn wsX6_count (va_wsS RX6 27 yX6_in wsX6_in) := goodIn_app (goodIn_of _ (by decide +kernel)) ggX6_count_X6_in
theorem dX6_count_0 : decode cX6_count 0 = .ok (.aload_n 0, 1) := by decide +kernel
theorem dX6_count_1 : decode cX6_count 1 = .ok (.iload_n 1, 1) := by decide +kernel
end
section
theorem dX6_count_2 : decode cX6_count 2 = .ok (.iconst 0, 1) := by decide +kernel
theorem dX6_count_3 : decode cX6_count 3 = .ok (.iconst 4, 1) := by decide +kernel
theorem dX6_count_4 : decode cX6_count 4 = .ok (.invokestatic 27, 3) := by decide +kernel
theorem dX6_count_7 : decode cX6_count 7 = .ok (.ifCond .eq 7, 3) := by decide +kernel
theorem dX6_count_10 : decode cX6_count 10 = .ok (.iconst 0, 1) := by decide +kernel
theorem dX6_count_11 : decode cX6_count 11 = .ok (.goto 4, 3) := by decide +kernel
theorem dX6_count_14 : decode cX6_count 14 = .ok (.iconst 1, 1) := by decide +kernel
theorem dX6_count_15 : decode cX6_count 15 = .ok (.putfield 23, 3) := by decide +kernel
theorem dX6_count_18 : decode cX6_count 18 = .ok (.aload_n 0, 1) := by decide +kernel
theorem dX6_count_19 : decode cX6_count 19 = .ok (.getfield 23, 3) := by decide +kernel
theorem dX6_count_22 : decode cX6_count 22 = .ok (.ifCond .eq 5, 3) := by decide +kernel
theorem dX6_count_25 : decode cX6_count 25 = .ok (.iconst 0, 1) := by decide +kernel
theorem dX6_count_26 : decode cX6_count 26 = .ok (.ireturn, 1) := by decide +kernel
theorem dX6_count_27 : decode cX6_count 27 = .ok (.iconst 0, 1) := by decide +kernel
theorem dX6_count_28 : decode cX6_count 28 = .ok (.istore_n 2, 1) := by decide +kernel
theorem dX6_count_29 : decode cX6_count 29 = .ok (.iconst 0, 1) := by decide +kernel
theorem dX6_count_30 : decode cX6_count 30 = .ok (.istore_n 3, 1) := by decide +kernel
theorem dX6_count_31 : decode cX6_count 31 = .ok (.iload_n 3, 1) := by decide +kernel
theorem dX6_count_32 : decode cX6_count 32 = .ok (.aload_n 0, 1) := by decide +kernel
theorem dX6_count_33 : decode cX6_count 33 = .ok (.getfield 7, 3) := by decide +kernel
theorem dX6_count_36 : decode cX6_count 36 = .ok (.iconst 0, 1) := by decide +kernel
theorem dX6_count_37 : decode cX6_count 37 = .ok (.iaload, 1) := by decide +kernel
theorem dX6_count_38 : decode cX6_count 38 = .ok (.if_icmp .ge 21, 3) := by decide +kernel
theorem dX6_count_41 : decode cX6_count 41 = .ok (.iload_n 2, 1) := by decide +kernel
theorem dX6_count_42 : decode cX6_count 42 = .ok (.aload_n 0, 1) := by decide +kernel
theorem dX6_count_43 : decode cX6_count 43 = .ok (.getfield 7, 3) := by decide +kernel
theorem dX6_count_46 : decode cX6_count 46 = .ok (.bipush 33, 2) := by decide +kernel
theorem dX6_count_48 : decode cX6_count 48 = .ok (.iload_n 3, 1) := by decide +kernel
theorem dX6_count_49 : decode cX6_count 49 = .ok (.iadd, 1) := by decide +kernel
theorem dX6_count_50 : decode cX6_count 50 = .ok (.iaload, 1) := by decide +kernel
theorem dX6_count_51 : decode cX6_count 51 = .ok (.iadd, 1) := by decide +kernel
theorem dX6_count_52 : decode cX6_count 52 = .ok (.istore_n 2, 1) := by decide +kernel
theorem dX6_count_53 : decode cX6_count 53 = .ok (.iinc 3 1, 3) := by decide +kernel
theorem dX6_count_56 : decode cX6_count 56 = .ok (.goto (-25), 3) := by decide +kernel
theorem dX6_count_59 : decode cX6_count 59 = .ok (.iload_n 1, 1) := by decide +kernel
theorem dX6_count_60 : decode cX6_count 60 = .ok (.ifCond .ne 12, 3) := by decide +kernel
theorem dX6_count_63 : decode cX6_count 63 = .ok (.aload_n 0, 1) := by decide +kernel
theorem dX6_count_64 : decode cX6_count 64 = .ok (.getfield 7, 3) := by decide +kernel
theorem dX6_count_67 : decode cX6_count 67 = .ok (.iconst 1, 1) := by decide +kernel
theorem dX6_count_68 : decode cX6_count 68 = .ok (.iaload, 1) := by decide +kernel
theorem dX6_count_69 : decode cX6_count 69 = .ok (.goto 49, 3) := by decide +kernel
theorem dX6_count_72 : decode cX6_count 72 = .ok (.iload_n 1, 1) := by decide +kernel
theorem dX6_count_73 : decode cX6_count 73 = .ok (.iconst 1, 1) := by decide +kernel
theorem dX6_count_74 : decode cX6_count 74 = .ok (.if_icmp .ne 7, 3) := by decide +kernel
theorem dX6_count_77 : decode cX6_count 77 = .ok (.iload_n 2, 1) := by decide +kernel
theorem dX6_count_78 : decode cX6_count 78 = .ok (.goto 40, 3) := by decide +kernel
theorem dX6_count_81 : decode cX6_count 81 = .ok (.iload_n 1, 1) := by decide +kernel
theorem dX6_count_82 : decode cX6_count 82 = .ok (.iconst 2, 1) := by decide +kernel
theorem dX6_count_83 : decode cX6_count 83 = .ok (.if_icmp .ne 13, 3) := by decide +kernel
theorem dX6_count_86 : decode cX6_count 86 = .ok (.aload_n 0, 1) := by decide +kernel
theorem dX6_count_87 : decode cX6_count 87 = .ok (.getfield 7, 3) := by decide +kernel
theorem dX6_count_90 : decode cX6_count 90 = .ok (.bipush 10, 2) := by decide +kernel
theorem dX6_count_92 : decode cX6_count 92 = .ok (.iaload, 1) := by decide +kernel
theorem dX6_count_93 : decode cX6_count 93 = .ok (.goto 25, 3) := by decide +kernel
theorem dX6_count_96 : decode cX6_count 96 = .ok (.iload_n 1, 1) := by decide +kernel
theorem dX6_count_97 : decode cX6_count 97 = .ok (.iconst 3, 1) := by decide +kernel
theorem dX6_count_98 : decode cX6_count 98 = .ok (.if_icmp .ne 13, 3) := by decide +kernel
theorem dX6_count_101 : decode cX6_count 101 = .ok (.aload_n 0, 1) := by decide +kernel
theorem dX6_count_102 : decode cX6_count 102 = .ok (.getfield 7, 3) := by decide +kernel
theorem dX6_count_105 : decode cX6_count 105 = .ok (.bipush 11, 2) := by decide +kernel
theorem dX6_count_107 : decode cX6_count 107 = .ok (.iaload, 1) := by decide +kernel
theorem dX6_count_108 : decode cX6_count 108 = .ok (.goto 10, 3) := by decide +kernel
theorem dX6_count_111 : decode cX6_count 111 = .ok (.aload_n 0, 1) := by decide +kernel
theorem dX6_count_112 : decode cX6_count 112 = .ok (.getfield 7, 3) := by decide +kernel
theorem dX6_count_115 : decode cX6_count 115 = .ok (.bipush 12, 2) := by decide +kernel
theorem dX6_count_117 : decode cX6_count 117 = .ok (.iaload, 1) := by decide +kernel
theorem dX6_count_118 : decode cX6_count 118 = .ok (.ireturn, 1) := by decide +kernel
set_option maxRecDepth 20000 in
theorem ggX6_save_X6_in : GoodIn wsX6_save wsX6_in := goodIn_r _ [8] (by decide +kernel) (by decide +kernel)
set_option maxRecDepth 20000 in
theorem gX6_save_X6_in : GoodIn wsX6_save (va_wsS RX6 27 yX6_in wsX6_in) := goodIn_app (goodIn_of _ (by decide +kernel)) ggX6_save_X6_in
theorem dX6_save_0 : decode cX6_save 0 = .ok (.aload_n 0, 1) := by decide +kernel
theorem dX6_save_1 : decode cX6_save 1 = .ok (.iload_n 1, 1) := by decide +kernel
theorem dX6_save_2 : decode cX6_save 2 = .ok (.iconst 0, 1) := by decide +kernel
theorem dX6_save_3 : decode cX6_save 3 = .ok (.iconst 1, 1) := by decide +kernel
theorem dX6_save_4 : decode cX6_save 4 = .ok (.invokestatic 27, 3) := by decide +kernel
theorem dX6_save_7 : decode cX6_save 7 = .ok (.ifCond .eq 7, 3) := by decide +kernel
theorem dX6_save_10 : decode cX6_save 10 = .ok (.iconst 0, 1) := by decide +kernel
theorem dX6_save_11 : decode cX6_save 11 = .ok (.goto 4, 3) := by decide +kernel
theorem dX6_save_14 : decode cX6_save 14 = .ok (.iconst 1, 1) := by decide +kernel
theorem dX6_save_15 : decode cX6_save 15 = .ok (.putfield 23, 3) := by decide +kernel
theorem dX6_save_18 : decode cX6_save 18 = .ok (.aload_n 0, 1) := by decide +kernel
theorem dX6_save_19 : decode cX6_save 19 = .ok (.getfield 23, 3) := by decide +kernel
theorem dX6_save_22 : decode cX6_save 22 = .ok (.ifCond .ne 43, 3) := by decide +kernel
theorem dX6_save_25 : decode cX6_save 25 = .ok (.iconst 0, 1) := by decide +kernel
theorem dX6_save_26 : decode cX6_save 26 = .ok (.istore_n 2, 1) := by decide +kernel
theorem dX6_save_27 : decode cX6_save 27 = .ok (.iload_n 2, 1) := by decide +kernel
theorem dX6_save_28 : decode cX6_save 28 = .ok (.sipush 3263, 3) := by decide +kernel
theorem dX6_save_31 : decode cX6_save 31 = .ok (.if_icmp .ge 27, 3) := by decide +kernel
theorem dX6_save_34 : decode cX6_save 34 = .ok (.aload_n 0, 1) := by decide +kernel
theorem dX6_save_35 : decode cX6_save 35 = .ok (.getfield 13, 3) := by decide +kernel
theorem dX6_save_38 : decode cX6_save 38 = .ok (.sipush 3263, 3) := by decide +kernel
theorem dX6_save_41 : decode cX6_save 41 = .ok (.iload_n 1, 1) := by decide +kernel
theorem dX6_save_42 : decode cX6_save 42 = .ok (.imul, 1) := by decide +kernel
theorem dX6_save_43 : decode cX6_save 43 = .ok (.iload_n 2, 1) := by decide +kernel
theorem dX6_save_44 : decode cX6_save 44 = .ok (.iadd, 1) := by decide +kernel
theorem dX6_save_45 : decode cX6_save 45 = .ok (.aload_n 0, 1) := by decide +kernel
theorem dX6_save_46 : decode cX6_save 46 = .ok (.getfield 7, 3) := by decide +kernel
theorem dX6_save_49 : decode cX6_save 49 = .ok (.iload_n 2, 1) := by decide +kernel
theorem dX6_save_50 : decode cX6_save 50 = .ok (.iaload, 1) := by decide +kernel
theorem dX6_save_51 : decode cX6_save 51 = .ok (.iastore, 1) := by decide +kernel
theorem dX6_save_52 : decode cX6_save 52 = .ok (.iinc 2 1, 3) := by decide +kernel
theorem dX6_save_55 : decode cX6_save 55 = .ok (.goto (-28), 3) := by decide +kernel
theorem dX6_save_58 : decode cX6_save 58 = .ok (.aload_n 0, 1) := by decide +kernel
theorem dX6_save_59 : decode cX6_save 59 = .ok (.getfield 16, 3) := by decide +kernel
theorem dX6_save_62 : decode cX6_save 62 = .ok (.iload_n 1, 1) := by decide +kernel
theorem dX6_save_63 : decode cX6_save 63 = .ok (.iconst 1, 1) := by decide +kernel
theorem dX6_save_64 : decode cX6_save 64 = .ok (.bastore, 1) := by decide +kernel
theorem dX6_save_65 : decode cX6_save 65 = .ok (.return_, 1) := by decide +kernel
set_option maxRecDepth 20000 in
theorem ggX6_restore_X6_in : GoodIn wsX6_restore wsX6_in := goodIn_r _ [8] (by decide +kernel) (by decide +kernel)
set_option maxRecDepth 20000 in
theorem gX6_restore_X6_in : GoodIn wsX6_restore (va_wsS RX6 27 yX6_in wsX6_in) := goodIn_app (goodIn_of _ (by decide +kernel)) ggX6_restore_X6_in
theorem dX6_restore_0 : decode cX6_restore 0 = .ok (.aload_n 0, 1) := by decide +kernel
theorem dX6_restore_1 : decode cX6_restore 1 = .ok (.iload_n 1, 1) := by decide +kernel
theorem dX6_restore_2 : decode cX6_restore 2 = .ok (.iconst 0, 1) := by decide +kernel
theorem dX6_restore_3 : decode cX6_restore 3 = .ok (.iconst 1, 1) := by decide +kernel
theorem dX6_restore_4 : decode cX6_restore 4 = .ok (.invokestatic 27, 3) := by decide +kernel
theorem dX6_restore_7 : decode cX6_restore 7 = .ok (.ifCond .ne 7, 3) := by decide +kernel
theorem dX6_restore_10 : decode cX6_restore 10 = .ok (.iconst 1, 1) := by decide +kernel
theorem dX6_restore_11 : decode cX6_restore 11 = .ok (.goto 17, 3) := by decide +kernel
theorem dX6_restore_14 : decode cX6_restore 14 = .ok (.aload_n 0, 1) := by decide +kernel
theorem dX6_restore_15 : decode cX6_restore 15 = .ok (.getfield 16, 3) := by decide +kernel
theorem dX6_restore_18 : decode cX6_restore 18 = .ok (.iload_n 1, 1) := by decide +kernel
theorem dX6_restore_19 : decode cX6_restore 19 = .ok (.baload, 1) := by decide +kernel
theorem dX6_restore_20 : decode cX6_restore 20 = .ok (.ifCond .ne 7, 3) := by decide +kernel
theorem dX6_restore_23 : decode cX6_restore 23 = .ok (.iconst 2, 1) := by decide +kernel
theorem dX6_restore_24 : decode cX6_restore 24 = .ok (.goto 4, 3) := by decide +kernel
theorem dX6_restore_27 : decode cX6_restore 27 = .ok (.iconst 0, 1) := by decide +kernel
theorem dX6_restore_28 : decode cX6_restore 28 = .ok (.putfield 23, 3) := by decide +kernel
theorem dX6_restore_31 : decode cX6_restore 31 = .ok (.aload_n 0, 1) := by decide +kernel
theorem dX6_restore_32 : decode cX6_restore 32 = .ok (.getfield 23, 3) := by decide +kernel
theorem dX6_restore_35 : decode cX6_restore 35 = .ok (.ifCond .ne 36, 3) := by decide +kernel
theorem dX6_restore_38 : decode cX6_restore 38 = .ok (.iconst 0, 1) := by decide +kernel
theorem dX6_restore_39 : decode cX6_restore 39 = .ok (.istore_n 2, 1) := by decide +kernel
theorem dX6_restore_40 : decode cX6_restore 40 = .ok (.iload_n 2, 1) := by decide +kernel
theorem dX6_restore_41 : decode cX6_restore 41 = .ok (.sipush 3263, 3) := by decide +kernel
theorem dX6_restore_44 : decode cX6_restore 44 = .ok (.if_icmp .ge 27, 3) := by decide +kernel
theorem dX6_restore_47 : decode cX6_restore 47 = .ok (.aload_n 0, 1) := by decide +kernel
theorem dX6_restore_48 : decode cX6_restore 48 = .ok (.getfield 7, 3) := by decide +kernel
theorem dX6_restore_51 : decode cX6_restore 51 = .ok (.iload_n 2, 1) := by decide +kernel
theorem dX6_restore_52 : decode cX6_restore 52 = .ok (.aload_n 0, 1) := by decide +kernel
theorem dX6_restore_53 : decode cX6_restore 53 = .ok (.getfield 13, 3) := by decide +kernel
theorem dX6_restore_56 : decode cX6_restore 56 = .ok (.sipush 3263, 3) := by decide +kernel
theorem dX6_restore_59 : decode cX6_restore 59 = .ok (.iload_n 1, 1) := by decide +kernel
theorem dX6_restore_60 : decode cX6_restore 60 = .ok (.imul, 1) := by decide +kernel
theorem dX6_restore_61 : decode cX6_restore 61 = .ok (.iload_n 2, 1) := by decide +kernel
theorem dX6_restore_62 : decode cX6_restore 62 = .ok (.iadd, 1) := by decide +kernel
theorem dX6_restore_63 : decode cX6_restore 63 = .ok (.iaload, 1) := by decide +kernel
theorem dX6_restore_64 : decode cX6_restore 64 = .ok (.iastore, 1) := by decide +kernel
theorem dX6_restore_65 : decode cX6_restore 65 = .ok (.iinc 2 1, 3) := by decide +kernel
theorem dX6_restore_68 : decode cX6_restore 68 = .ok (.goto (-28), 3) := by decide +kernel
theorem dX6_restore_71 : decode cX6_restore 71 = .ok (.return_, 1) := by decide +kernel
theorem dJ6_bitCount_0f7a4_0 : decode cJ6_bitCount_0f7a4 0 = .ok (.iload_n 0, 1) := by decide +kernel
theorem dJ6_bitCount_0f7a4_1 : decode cJ6_bitCount_0f7a4 1 = .ok (.iload_n 0, 1) := by decide +kernel
theorem dJ6_bitCount_0f7a4_2 : decode cJ6_bitCount_0f7a4 2 = .ok (.iconst 1, 1) := by decide +kernel
theorem dJ6_bitCount_0f7a4_3 : decode cJ6_bitCount_0f7a4 3 = .ok (.iushr, 1) := by decide +kernel
theorem dJ6_bitCount_0f7a4_4 : decode cJ6_bitCount_0f7a4 4 = .ok (.ldc_w 265, 3) := by decide +kernel
theorem dJ6_bitCount_0f7a4_7 : decode cJ6_bitCount_0f7a4 7 = .ok (.iand, 1) := by decide +kernel
theorem dJ6_bitCount_0f7a4_8 : decode cJ6_bitCount_0f7a4 8 = .ok (.isub, 1) := by decide +kernel
theorem dJ6_bitCount_0f7a4_9 : decode cJ6_bitCount_0f7a4 9 = .ok (.istore_n 0, 1) := by decide +kernel
theorem dJ6_bitCount_0f7a4_10 : decode cJ6_bitCount_0f7a4 10 = .ok (.iload_n 0, 1) := by decide +kernel
theorem dJ6_bitCount_0f7a4_11 : decode cJ6_bitCount_0f7a4 11 = .ok (.ldc_w 266, 3) := by decide +kernel
theorem dJ6_bitCount_0f7a4_14 : decode cJ6_bitCount_0f7a4 14 = .ok (.iand, 1) := by decide +kernel
theorem dJ6_bitCount_0f7a4_15 : decode cJ6_bitCount_0f7a4 15 = .ok (.iload_n 0, 1) := by decide +kernel
theorem dJ6_bitCount_0f7a4_16 : decode cJ6_bitCount_0f7a4 16 = .ok (.iconst 2, 1) := by decide +kernel
theorem dJ6_bitCount_0f7a4_17 : decode cJ6_bitCount_0f7a4 17 = .ok (.iushr, 1) := by decide +kernel
theorem dJ6_bitCount_0f7a4_18 : decode cJ6_bitCount_0f7a4 18 = .ok (.ldc_w 266, 3) := by decide +kernel
theorem dJ6_bitCount_0f7a4_21 : decode cJ6_bitCount_0f7a4 21 = .ok (.iand, 1) := by decide +kernel
theorem dJ6_bitCount_0f7a4_22 : decode cJ6_bitCount_0f7a4 22 = .ok (.iadd, 1) := by decide +kernel
theorem dJ6_bitCount_0f7a4_23 : decode cJ6_bitCount_0f7a4 23 = .ok (.istore_n 0, 1) := by decide +kernel
theorem dJ6_bitCount_0f7a4_24 : decode cJ6_bitCount_0f7a4 24 = .ok (.iload_n 0, 1) := by decide +kernel
theorem dJ6_bitCount_0f7a4_25 : decode cJ6_bitCount_0f7a4 25 = .ok (.iload_n 0, 1) := by decide +kernel
theorem dJ6_bitCount_0f7a4_26 : decode cJ6_bitCount_0f7a4 26 = .ok (.iconst 4, 1) := by decide +kernel
theorem dJ6_bitCount_0f7a4_27 : decode cJ6_bitCount_0f7a4 27 = .ok (.iushr, 1) := by decide +kernel
theorem dJ6_bitCount_0f7a4_28 : decode cJ6_bitCount_0f7a4 28 = .ok (.iadd, 1) := by decide +kernel
theorem dJ6_bitCount_0f7a4_29 : decode cJ6_bitCount_0f7a4 29 = .ok (.ldc_w 267, 3) := by decide +kernel
theorem dJ6_bitCount_0f7a4_32 : decode cJ6_bitCount_0f7a4 32 = .ok (.iand, 1) := by decide +kernel
theorem dJ6_bitCount_0f7a4_33 : decode cJ6_bitCount_0f7a4 33 = .ok (.istore_n 0, 1) := by decide +kernel
theorem dJ6_bitCount_0f7a4_34 : decode cJ6_bitCount_0f7a4 34 = .ok (.iload_n 0, 1) := by decide +kernel
theorem dJ6_bitCount_0f7a4_35 : decode cJ6_bitCount_0f7a4 35 = .ok (.iload_n 0, 1) := by decide +kernel
theorem dJ6_bitCount_0f7a4_36 : decode cJ6_bitCount_0f7a4 36 = .ok (.bipush 8, 2) := by decide +kernel
theorem dJ6_bitCount_0f7a4_38 : decode cJ6_bitCount_0f7a4 38 = .ok (.iushr, 1) := by decide +kernel
theorem dJ6_bitCount_0f7a4_39 : decode cJ6_bitCount_0f7a4 39 = .ok (.iadd, 1) := by decide +kernel
theorem dJ6_bitCount_0f7a4_40 : decode cJ6_bitCount_0f7a4 40 = .ok (.istore_n 0, 1) := by decide +kernel
theorem dJ6_bitCount_0f7a4_41 : decode cJ6_bitCount_0f7a4 41 = .ok (.iload_n 0, 1) := by decide +kernel
theorem dJ6_bitCount_0f7a4_42 : decode cJ6_bitCount_0f7a4 42 = .ok (.iload_n 0, 1) := by decide +kernel
theorem dJ6_bitCount_0f7a4_43 : decode cJ6_bitCount_0f7a4 43 = .ok (.bipush 16, 2) := by decide +kernel
theorem dJ6_bitCount_0f7a4_45 : decode cJ6_bitCount_0f7a4 45 = .ok (.iushr, 1) := by decide +kernel
theorem dJ6_bitCount_0f7a4_46 : decode cJ6_bitCount_0f7a4 46 = .ok (.iadd, 1) := by decide +kernel
theorem dJ6_bitCount_0f7a4_47 : decode cJ6_bitCount_0f7a4 47 = .ok (.istore_n 0, 1) := by decide +kernel
theorem dJ6_bitCount_0f7a4_48 : decode cJ6_bitCount_0f7a4 48 = .ok (.iload_n 0, 1) := by decide +kernel
theorem dJ6_bitCount_0f7a4_49 : decode cJ6_bitCount_0f7a4 49 = .ok (.bipush 63, 2) := by decide +kernel
theorem dJ6_bitCount_0f7a4_51 : decode cJ6_bitCount_0f7a4 51 = .ok (.iand, 1) := by decide +kernel
theorem dJ6_bitCount_0f7a4_52 : decode cJ6_bitCount_0f7a4 52 = .ok (.ireturn, 1) := by decide +kernel
theorem dJ9_max_7cf53_0 : decode cJ9_max_7cf53 0 = .ok (.iload_n 0, 1) := by decide +kernel
theorem dJ9_max_7cf53_1 : decode cJ9_max_7cf53 1 = .ok (.iload_n 1, 1) := by decide +kernel
theorem dJ9_max_7cf53_2 : decode cJ9_max_7cf53 2 = .ok (.if_icmp .lt 7, 3) := by decide +kernel
theorem dJ9_max_7cf53_5 : decode cJ9_max_7cf53 5 = .ok (.iload_n 0, 1) := by decide +kernel
theorem dJ9_max_7cf53_6 : decode cJ9_max_7cf53 6 = .ok (.goto 4, 3) := by decide +kernel
theorem dJ9_max_7cf53_9 : decode cJ9_max_7cf53 9 = .ok (.iload_n 1, 1) := by decide +kernel
theorem dJ9_max_7cf53_10 : decode cJ9_max_7cf53 10 = .ok (.ireturn, 1) := by decide +kernel
set_option maxRecDepth 20000 in
theorem ggL_addServer_X5_addServer : GoodIn wsL_addServer wsX5_addServer := goodIn_ca (goodIn_ca (goodIn_r _ [7, 8, 9, 10, 11, 12, 13, 6, 14, 15, 16, 17, 18, 19, 20, 21, 22, 23, 24, 25, 26, 27, 28, 29, 30, 31, 32, 33, 34, 35, 36, 37, 38, 39, 40, 41, 42, 43, 44, 45, 46, 47, 48, 49, 50, 51, 52, 53, 54, 55, 56, 57, 58, 59, 60, 61, 62, 63, 64, 65, 66, 67, 68, 69, 70, 71, 72, 73, 74, 75, 76] (by decide +kernel) (by decide +kernel)) (goodIn_sub (fun _ h => List.mem_cons_of_mem _ (List.mem_append_left _ (List.mem_append_right _ h))) (by decide +kernel))) (goodIn_sub (fun _ h => List.mem_cons_of_mem _ (List.mem_append_right _ h)) (by decide +kernel))
set_option maxRecDepth 20000 in
theorem gL_addServer_X5_addServer : GoodIn wsL_addServer (wsV RL 7 RX5 yX5_addServer wsX5_addServer) := goodIn_app (goodIn_of _ (by decide +kernel)) ggL_addServer_X5_addServer
theorem dL_addServer_0 : decode cL_addServer 0 = .ok (.aload_n 3, 1) := by decide +kernel
theorem dL_addServer_1 : decode cL_addServer 1 = .ok (.iconst 0, 1) := by decide +kernel
theorem dL_addServer_2 : decode cL_addServer 2 = .ok (.aload_n 0, 1) := by decide +kernel
theorem dL_addServer_3 : decode cL_addServer 3 = .ok (.iload_n 1, 1) := by decide +kernel
theorem dL_addServer_4 : decode cL_addServer 4 = .ok (.iload_n 2, 1) := by decide +kernel
theorem dL_addServer_5 : decode cL_addServer 5 = .ok (.invokevirtual 7, 3) := by decide +kernel
theorem dL_addServer_8 : decode cL_addServer 8 = .ok (.i2l, 1) := by decide +kernel
theorem dL_addServer_9 : decode cL_addServer 9 = .ok (.lastore, 1) := by decide +kernel
theorem dL_addServer_10 : decode cL_addServer 10 = .ok (.goto 11, 3) := by decide +kernel
theorem dL_addServer_13 : decode cL_addServer 13 = .ok (.astore 4, 2) := by decide +kernel
theorem dL_addServer_15 : decode cL_addServer 15 = .ok (.iconst 1, 1) := by decide +kernel
theorem dL_addServer_16 : decode cL_addServer 16 = .ok (.ireturn, 1) := by decide +kernel
theorem dL_addServer_17 : decode cL_addServer 17 = .ok (.astore 4, 2) := by decide +kernel
theorem dL_addServer_19 : decode cL_addServer 19 = .ok (.iconst 2, 1) := by decide +kernel
theorem dL_addServer_20 : decode cL_addServer 20 = .ok (.ireturn, 1) := by decide +kernel
theorem dL_addServer_21 : decode cL_addServer 21 = .ok (.iconst 0, 1) := by decide +kernel
theorem dL_addServer_22 : decode cL_addServer 22 = .ok (.ireturn, 1) := by decide +kernel
set_option maxRecDepth 20000 in
theorem ggL_setWeight_X5_setWeight : GoodIn wsL_setWeight wsX5_setWeight := goodIn_ca (goodIn_ca (goodIn_r _ [7, 8, 9, 10, 11, 12, 13, 14, 15, 16, 17, 18, 19, 20, 6, 21, 22, 23, 24, 25, 26, 27, 28, 29, 30, 31, 32, 33, 34, 35, 36, 37, 38, 39, 40, 41, 42, 43, 44, 45, 46, 47, 48, 49] (by decide +kernel) (by decide +kernel)) (goodIn_sub (fun _ h => List.mem_cons_of_mem _ (List.mem_append_left _ (List.mem_append_right _ h))) (by decide +kernel))) (goodIn_sub (fun _ h => List.mem_cons_of_mem _ (List.mem_append_right _ h)) (by decide +kernel))
set_option maxRecDepth 20000 in
theorem gL_setWeight_X5_setWeight : GoodIn wsL_setWeight (wsV RL 17 RX5 yX5_setWeight wsX5_setWeight) := goodIn_app (goodIn_of _ (by decide +kernel)) ggL_setWeight_X5_setWeight
theorem dL_setWeight_0 : decode cL_setWeight 0 = .ok (.aload_n 3, 1) := by decide +kernel
theorem dL_setWeight_1 : decode cL_setWeight 1 = .ok (.iconst 0, 1) := by decide +kernel
theorem dL_setWeight_2 : decode cL_setWeight 2 = .ok (.aload_n 0, 1) := by decide +kernel
theorem dL_setWeight_3 : decode cL_setWeight 3 = .ok (.iload_n 1, 1) := by decide +kernel
theorem dL_setWeight_4 : decode cL_setWeight 4 = .ok (.iload_n 2, 1) := by decide +kernel
theorem dL_setWeight_5 : decode cL_setWeight 5 = .ok (.invokevirtual 17, 3) := by decide +kernel
theorem dL_setWeight_8 : decode cL_setWeight 8 = .ok (.i2l, 1) := by decide +kernel
theorem dL_setWeight_9 : decode cL_setWeight 9 = .ok (.lastore, 1) := by decide +kernel
theorem dL_setWeight_10 : decode cL_setWeight 10 = .ok (.goto 11, 3) := by decide +kernel
theorem dL_setWeight_13 : decode cL_setWeight 13 = .ok (.astore 4, 2) := by decide +kernel
theorem dL_setWeight_15 : decode cL_setWeight 15 = .ok (.iconst 1, 1) := by decide +kernel
theorem dL_setWeight_16 : decode cL_setWeight 16 = .ok (.ireturn, 1) := by decide +kernel
theorem dL_setWeight_17 : decode cL_setWeight 17 = .ok (.astore 4, 2) := by decide +kernel
theorem dL_setWeight_19 : decode cL_setWeight 19 = .ok (.iconst 2, 1) := by decide +kernel
theorem dL_setWeight_20 : decode cL_setWeight 20 = .ok (.ireturn, 1) := by decide +kernel
theorem dL_setWeight_21 : decode cL_setWeight 21 = .ok (.iconst 0, 1) := by decide +kernel
theorem dL_setWeight_22 : decode cL_setWeight 22 = .ok (.ireturn, 1) := by decide +kernel
set_option maxRecDepth 20000 in
theorem ggL_setDraining_X5_setDraining : GoodIn wsL_setDraining wsX5_setDraining := goodIn_ca (goodIn_r _ [6, 7, 8, 9, 10, 11, 12, 13, 14, 15, 16, 17, 18, 19, 20, 21, 22, 23, 24, 25, 26, 27, 28, 29, 30, 31, 32, 33, 34, 35, 36, 37, 38, 39, 40, 41, 42, 43] (by decide +kernel) (by decide +kernel)) (goodIn_sub (fun _ h => List.mem_cons_of_mem _ (List.mem_append_right _ h)) (by decide +kernel))
set_option maxRecDepth 20000 in
theorem gL_setDraining_X5_setDraining : GoodIn wsL_setDraining (wsV RL 22 RX5 yX5_setDraining wsX5_setDraining) := goodIn_app (goodIn_of _ (by decide +kernel)) ggL_setDraining_X5_setDraining
theorem dL_setDraining_0 : decode cL_setDraining 0 = .ok (.aload_n 3, 1) := by decide +kernel
theorem dL_setDraining_1 : decode cL_setDraining 1 = .ok (.iconst 0, 1) := by decide +kernel
theorem dL_setDraining_2 : decode cL_setDraining 2 = .ok (.aload_n 0, 1) := by decide +kernel
theorem dL_setDraining_3 : decode cL_setDraining 3 = .ok (.iload_n 1, 1) := by decide +kernel
theorem dL_setDraining_4 : decode cL_setDraining 4 = .ok (.iload_n 2, 1) := by decide +kernel
theorem dL_setDraining_5 : decode cL_setDraining 5 = .ok (.invokevirtual 22, 3) := by decide +kernel
theorem dL_setDraining_8 : decode cL_setDraining 8 = .ok (.ifCond .eq 7, 3) := by decide +kernel
theorem dL_setDraining_11 : decode cL_setDraining 11 = .ok (.lconst 1, 1) := by decide +kernel
theorem dL_setDraining_12 : decode cL_setDraining 12 = .ok (.goto 4, 3) := by decide +kernel
theorem dL_setDraining_15 : decode cL_setDraining 15 = .ok (.lconst 0, 1) := by decide +kernel
theorem dL_setDraining_16 : decode cL_setDraining 16 = .ok (.lastore, 1) := by decide +kernel
theorem dL_setDraining_17 : decode cL_setDraining 17 = .ok (.goto 7, 3) := by decide +kernel
theorem dL_setDraining_20 : decode cL_setDraining 20 = .ok (.astore 4, 2) := by decide +kernel
theorem dL_setDraining_22 : decode cL_setDraining 22 = .ok (.iconst 1, 1) := by decide +kernel
theorem dL_setDraining_23 : decode cL_setDraining 23 = .ok (.ireturn, 1) := by decide +kernel
theorem dL_setDraining_24 : decode cL_setDraining 24 = .ok (.iconst 0, 1) := by decide +kernel
theorem dL_setDraining_25 : decode cL_setDraining 25 = .ok (.ireturn, 1) := by decide +kernel
set_option maxRecDepth 20000 in
theorem ggL_report_X5_report : GoodIn wsL_report wsX5_report := goodIn_ca (goodIn_r _ [6, 7, 8, 9, 10, 11, 12, 13, 14, 15, 16, 17, 18, 19, 20, 21, 22, 23, 24, 25, 26, 27, 28, 29, 30, 31, 32, 33, 34, 35, 36, 37, 38, 39, 40, 41, 42, 43, 44, 45, 46, 47, 48, 49, 50, 51, 52, 53, 54, 55, 56, 57, 58, 59] (by decide +kernel) (by decide +kernel)) (goodIn_sub (fun _ h => List.mem_cons_of_mem _ (List.mem_append_right _ h)) (by decide +kernel))
set_option maxRecDepth 20000 in
theorem gL_report_X5_report : GoodIn wsL_report (wsV RL 26 RX5 yX5_report wsX5_report) := goodIn_app (goodIn_of _ (by decide +kernel)) ggL_report_X5_report
theorem dL_report_0 : decode cL_report 0 = .ok (.aload_n 3, 1) := by decide +kernel
theorem dL_report_1 : decode cL_report 1 = .ok (.iconst 0, 1) := by decide +kernel
theorem dL_report_2 : decode cL_report 2 = .ok (.aload_n 0, 1) := by decide +kernel
theorem dL_report_3 : decode cL_report 3 = .ok (.iload_n 1, 1) := by decide +kernel
theorem dL_report_4 : decode cL_report 4 = .ok (.iload_n 2, 1) := by decide +kernel
theorem dL_report_5 : decode cL_report 5 = .ok (.invokevirtual 26, 3) := by decide +kernel
theorem dL_report_8 : decode cL_report 8 = .ok (.ifCond .eq 7, 3) := by decide +kernel
theorem dL_report_11 : decode cL_report 11 = .ok (.lconst 1, 1) := by decide +kernel
theorem dL_report_12 : decode cL_report 12 = .ok (.goto 4, 3) := by decide +kernel
theorem dL_report_15 : decode cL_report 15 = .ok (.lconst 0, 1) := by decide +kernel
theorem dL_report_16 : decode cL_report 16 = .ok (.lastore, 1) := by decide +kernel
theorem dL_report_17 : decode cL_report 17 = .ok (.goto 7, 3) := by decide +kernel
theorem dL_report_20 : decode cL_report 20 = .ok (.astore 4, 2) := by decide +kernel
theorem dL_report_22 : decode cL_report 22 = .ok (.iconst 1, 1) := by decide +kernel
theorem dL_report_23 : decode cL_report 23 = .ok (.ireturn, 1) := by decide +kernel
theorem dL_report_24 : decode cL_report 24 = .ok (.iconst 0, 1) := by decide +kernel
theorem dL_report_25 : decode cL_report 25 = .ok (.ireturn, 1) := by decide +kernel
set_option maxRecDepth 20000 in
theorem ggL_setThresholds_X5_setThresholds : GoodIn wsL_setThresholds wsX5_setThresholds := goodIn_ca (goodIn_r _ [6, 7, 8, 9, 10, 11, 5, 12, 13, 14, 15, 16, 17, 18, 19, 20, 21, 22, 23, 24, 25, 26, 27, 28, 29, 30] (by decide +kernel) (by decide +kernel)) (goodIn_sub (fun _ h => List.mem_cons_of_mem _ (List.mem_append_right _ h)) (by decide +kernel))
set_option maxRecDepth 20000 in
theorem gL_setThresholds_X5_setThresholds : GoodIn wsL_setThresholds (wsV RL 29 RX5 yX5_setThresholds wsX5_setThresholds) := goodIn_app (goodIn_of _ (by decide +kernel)) ggL_setThresholds_X5_setThresholds
theorem dL_setThresholds_0 : decode cL_setThresholds 0 = .ok (.aload_n 0, 1) := by decide +kernel
theorem dL_setThresholds_1 : decode cL_setThresholds 1 = .ok (.iload_n 1, 1) := by decide +kernel
theorem dL_setThresholds_2 : decode cL_setThresholds 2 = .ok (.iload_n 2, 1) := by decide +kernel
theorem dL_setThresholds_3 : decode cL_setThresholds 3 = .ok (.invokevirtual 29, 3) := by decide +kernel
theorem dL_setThresholds_6 : decode cL_setThresholds 6 = .ok (.goto 6, 3) := by decide +kernel
theorem dL_setThresholds_9 : decode cL_setThresholds 9 = .ok (.astore_n 3, 1) := by decide +kernel
theorem dL_setThresholds_10 : decode cL_setThresholds 10 = .ok (.iconst 1, 1) := by decide +kernel
theorem dL_setThresholds_11 : decode cL_setThresholds 11 = .ok (.ireturn, 1) := by decide +kernel
theorem dL_setThresholds_12 : decode cL_setThresholds 12 = .ok (.iconst 0, 1) := by decide +kernel
theorem dL_setThresholds_13 : decode cL_setThresholds 13 = .ok (.ireturn, 1) := by decide +kernel
set_option maxRecDepth 20000 in
theorem ggL_setSlowStart_X5_setSlowStart : GoodIn wsL_setSlowStart wsX5_setSlowStart := goodIn_ca (goodIn_r _ [6, 7, 8, 9, 10, 5, 11, 12, 13, 14, 15, 16, 17, 18, 19, 20, 21, 22, 23, 24, 25, 26, 27, 28, 29] (by decide +kernel) (by decide +kernel)) (goodIn_sub (fun _ h => List.mem_cons_of_mem _ (List.mem_append_right _ h)) (by decide +kernel))
set_option maxRecDepth 20000 in
theorem gL_setSlowStart_X5_setSlowStart : GoodIn wsL_setSlowStart (wsV RL 33 RX5 yX5_setSlowStart wsX5_setSlowStart) := goodIn_app (goodIn_of _ (by decide +kernel)) ggL_setSlowStart_X5_setSlowStart
theorem dL_setSlowStart_0 : decode cL_setSlowStart 0 = .ok (.aload_n 2, 1) := by decide +kernel
theorem dL_setSlowStart_1 : decode cL_setSlowStart 1 = .ok (.iconst 0, 1) := by decide +kernel
theorem dL_setSlowStart_2 : decode cL_setSlowStart 2 = .ok (.aload_n 0, 1) := by decide +kernel
theorem dL_setSlowStart_3 : decode cL_setSlowStart 3 = .ok (.iload_n 1, 1) := by decide +kernel
theorem dL_setSlowStart_4 : decode cL_setSlowStart 4 = .ok (.invokevirtual 33, 3) := by decide +kernel
theorem dL_setSlowStart_7 : decode cL_setSlowStart 7 = .ok (.i2l, 1) := by decide +kernel
theorem dL_setSlowStart_8 : decode cL_setSlowStart 8 = .ok (.lastore, 1) := by decide +kernel
theorem dL_setSlowStart_9 : decode cL_setSlowStart 9 = .ok (.goto 6, 3) := by decide +kernel
theorem dL_setSlowStart_12 : decode cL_setSlowStart 12 = .ok (.astore_n 3, 1) := by decide +kernel
theorem dL_setSlowStart_13 : decode cL_setSlowStart 13 = .ok (.iconst 1, 1) := by decide +kernel
theorem dL_setSlowStart_14 : decode cL_setSlowStart 14 = .ok (.ireturn, 1) := by decide +kernel
theorem dL_setSlowStart_15 : decode cL_setSlowStart 15 = .ok (.iconst 0, 1) := by decide +kernel
theorem dL_setSlowStart_16 : decode cL_setSlowStart 16 = .ok (.ireturn, 1) := by decide +kernel
set_option maxRecDepth 20000 in
theorem ggL_setCool_X5_setCool : GoodIn wsL_setCool wsX5_setCool := goodIn_ca (goodIn_r _ [6, 7, 8, 9, 10, 5, 11, 12, 13, 14, 15, 16, 17, 18, 19, 20, 21, 22, 23, 24, 25, 26, 27, 28, 29] (by decide +kernel) (by decide +kernel)) (goodIn_sub (fun _ h => List.mem_cons_of_mem _ (List.mem_append_right _ h)) (by decide +kernel))
set_option maxRecDepth 20000 in
theorem gL_setCool_X5_setCool : GoodIn wsL_setCool (wsV RL 37 RX5 yX5_setCool wsX5_setCool) := goodIn_app (goodIn_of _ (by decide +kernel)) ggL_setCool_X5_setCool
theorem dL_setCool_0 : decode cL_setCool 0 = .ok (.aload_n 2, 1) := by decide +kernel
theorem dL_setCool_1 : decode cL_setCool 1 = .ok (.iconst 0, 1) := by decide +kernel
theorem dL_setCool_2 : decode cL_setCool 2 = .ok (.aload_n 0, 1) := by decide +kernel
theorem dL_setCool_3 : decode cL_setCool 3 = .ok (.iload_n 1, 1) := by decide +kernel
theorem dL_setCool_4 : decode cL_setCool 4 = .ok (.invokevirtual 37, 3) := by decide +kernel
theorem dL_setCool_7 : decode cL_setCool 7 = .ok (.i2l, 1) := by decide +kernel
theorem dL_setCool_8 : decode cL_setCool 8 = .ok (.lastore, 1) := by decide +kernel
theorem dL_setCool_9 : decode cL_setCool 9 = .ok (.goto 6, 3) := by decide +kernel
theorem dL_setCool_12 : decode cL_setCool 12 = .ok (.astore_n 3, 1) := by decide +kernel
theorem dL_setCool_13 : decode cL_setCool 13 = .ok (.iconst 1, 1) := by decide +kernel
theorem dL_setCool_14 : decode cL_setCool 14 = .ok (.ireturn, 1) := by decide +kernel
theorem dL_setCool_15 : decode cL_setCool 15 = .ok (.iconst 0, 1) := by decide +kernel
theorem dL_setCool_16 : decode cL_setCool 16 = .ok (.ireturn, 1) := by decide +kernel
set_option maxRecDepth 20000 in
theorem ggL_setSticky_X5_setSticky : GoodIn wsL_setSticky wsX5_setSticky := goodIn_ca (goodIn_r _ [6, 7, 8, 9, 10, 11, 5, 12, 13, 14, 15, 16, 17, 18, 19, 20, 21, 22, 23, 24, 25, 26, 27, 28, 29, 30, 31, 32, 33, 34, 35, 36, 37, 38, 39, 40] (by decide +kernel) (by decide +kernel)) (goodIn_sub (fun _ h => List.mem_cons_of_mem _ (List.mem_append_right _ h)) (by decide +kernel))
set_option maxRecDepth 20000 in
theorem gL_setSticky_X5_setSticky : GoodIn wsL_setSticky (wsV RL 40 RX5 yX5_setSticky wsX5_setSticky) := goodIn_app (goodIn_of _ (by decide +kernel)) ggL_setSticky_X5_setSticky
theorem dL_setSticky_0 : decode cL_setSticky 0 = .ok (.aload_n 2, 1) := by decide +kernel
theorem dL_setSticky_1 : decode cL_setSticky 1 = .ok (.iconst 0, 1) := by decide +kernel
theorem dL_setSticky_2 : decode cL_setSticky 2 = .ok (.aload_n 0, 1) := by decide +kernel
theorem dL_setSticky_3 : decode cL_setSticky 3 = .ok (.iload_n 1, 1) := by decide +kernel
theorem dL_setSticky_4 : decode cL_setSticky 4 = .ok (.invokevirtual 40, 3) := by decide +kernel
theorem dL_setSticky_7 : decode cL_setSticky 7 = .ok (.i2l, 1) := by decide +kernel
theorem dL_setSticky_8 : decode cL_setSticky 8 = .ok (.lastore, 1) := by decide +kernel
theorem dL_setSticky_9 : decode cL_setSticky 9 = .ok (.goto 6, 3) := by decide +kernel
theorem dL_setSticky_12 : decode cL_setSticky 12 = .ok (.astore_n 3, 1) := by decide +kernel
theorem dL_setSticky_13 : decode cL_setSticky 13 = .ok (.iconst 1, 1) := by decide +kernel
theorem dL_setSticky_14 : decode cL_setSticky 14 = .ok (.ireturn, 1) := by decide +kernel
theorem dL_setSticky_15 : decode cL_setSticky 15 = .ok (.iconst 0, 1) := by decide +kernel
theorem dL_setSticky_16 : decode cL_setSticky 16 = .ok (.ireturn, 1) := by decide +kernel
set_option maxRecDepth 20000 in
theorem ggL_setPolicy_X5_setPolicy : GoodIn wsL_setPolicy wsX5_setPolicy := goodIn_ca (goodIn_r _ [6, 7, 8, 9, 10, 5, 11, 12, 13, 14, 15, 16, 17, 18, 19, 20, 21, 22, 23, 24, 25, 26, 27, 28, 29, 30, 31, 32, 33, 34, 35, 36, 37, 38, 39, 40, 41, 42, 43, 44, 45, 46, 47, 48] (by decide +kernel) (by decide +kernel)) (goodIn_sub (fun _ h => List.mem_cons_of_mem _ (List.mem_append_right _ h)) (by decide +kernel))
set_option maxRecDepth 20000 in
theorem gL_setPolicy_X5_setPolicy : GoodIn wsL_setPolicy (wsV RL 43 RX5 yX5_setPolicy wsX5_setPolicy) := goodIn_app (goodIn_of _ (by decide +kernel)) ggL_setPolicy_X5_setPolicy
theorem dL_setPolicy_0 : decode cL_setPolicy 0 = .ok (.aload_n 2, 1) := by decide +kernel
theorem dL_setPolicy_1 : decode cL_setPolicy 1 = .ok (.iconst 0, 1) := by decide +kernel
theorem dL_setPolicy_2 : decode cL_setPolicy 2 = .ok (.aload_n 0, 1) := by decide +kernel
theorem dL_setPolicy_3 : decode cL_setPolicy 3 = .ok (.iload_n 1, 1) := by decide +kernel
theorem dL_setPolicy_4 : decode cL_setPolicy 4 = .ok (.invokevirtual 43, 3) := by decide +kernel
theorem dL_setPolicy_7 : decode cL_setPolicy 7 = .ok (.i2l, 1) := by decide +kernel
theorem dL_setPolicy_8 : decode cL_setPolicy 8 = .ok (.lastore, 1) := by decide +kernel
theorem dL_setPolicy_9 : decode cL_setPolicy 9 = .ok (.goto 6, 3) := by decide +kernel
theorem dL_setPolicy_12 : decode cL_setPolicy 12 = .ok (.astore_n 3, 1) := by decide +kernel
theorem dL_setPolicy_13 : decode cL_setPolicy 13 = .ok (.iconst 1, 1) := by decide +kernel
theorem dL_setPolicy_14 : decode cL_setPolicy 14 = .ok (.ireturn, 1) := by decide +kernel
theorem dL_setPolicy_15 : decode cL_setPolicy 15 = .ok (.iconst 0, 1) := by decide +kernel
theorem dL_setPolicy_16 : decode cL_setPolicy 16 = .ok (.ireturn, 1) := by decide +kernel
set_option maxRecDepth 20000 in
theorem ggL_tick_X5_tick : GoodIn wsL_tick wsX5_tick := goodIn_ca (goodIn_r _ [6, 7, 8, 9, 10, 5, 11, 12, 13, 14, 15, 16, 17, 18, 19, 20, 21, 22, 23, 24, 25, 26, 27, 28, 29, 30, 31, 32, 33, 34, 35, 36, 37, 38, 39, 40, 41, 42, 43, 44, 45, 46, 47, 48, 49, 50, 51, 52, 53, 54, 55, 56, 57, 58, 59, 60, 61, 62] (by decide +kernel) (by decide +kernel)) (goodIn_sub (fun _ h => List.mem_cons_of_mem _ (List.mem_append_right _ h)) (by decide +kernel))
set_option maxRecDepth 20000 in
theorem gL_tick_X5_tick : GoodIn wsL_tick (wsV RL 46 RX5 yX5_tick wsX5_tick) := goodIn_app (goodIn_of _ (by decide +kernel)) ggL_tick_X5_tick
theorem dL_tick_0 : decode cL_tick 0 = .ok (.aload_n 2, 1) := by decide +kernel
theorem dL_tick_1 : decode cL_tick 1 = .ok (.iconst 0, 1) := by decide +kernel
theorem dL_tick_2 : decode cL_tick 2 = .ok (.aload_n 0, 1) := by decide +kernel
theorem dL_tick_3 : decode cL_tick 3 = .ok (.iload_n 1, 1) := by decide +kernel
theorem dL_tick_4 : decode cL_tick 4 = .ok (.invokevirtual 46, 3) := by decide +kernel
theorem dL_tick_7 : decode cL_tick 7 = .ok (.i2l, 1) := by decide +kernel
theorem dL_tick_8 : decode cL_tick 8 = .ok (.lastore, 1) := by decide +kernel
theorem dL_tick_9 : decode cL_tick 9 = .ok (.goto 6, 3) := by decide +kernel
theorem dL_tick_12 : decode cL_tick 12 = .ok (.astore_n 3, 1) := by decide +kernel
theorem dL_tick_13 : decode cL_tick 13 = .ok (.iconst 1, 1) := by decide +kernel
theorem dL_tick_14 : decode cL_tick 14 = .ok (.ireturn, 1) := by decide +kernel
theorem dL_tick_15 : decode cL_tick 15 = .ok (.iconst 0, 1) := by decide +kernel
theorem dL_tick_16 : decode cL_tick 16 = .ok (.ireturn, 1) := by decide +kernel
set_option maxRecDepth 20000 in
theorem ggL_open_X5_open : GoodIn wsL_open wsX5_open := goodIn_ca (goodIn_ca (goodIn_r _ [6, 7, 8, 9, 10, 11, 12, 13, 14, 15, 16, 17, 18, 19, 20, 21, 22, 23, 24, 25, 26, 27, 28, 29, 30, 31, 32, 33, 34, 35, 36, 37, 38, 39, 40, 41, 42, 43, 44, 45, 46, 47, 48, 49, 50, 51, 52, 53, 54, 55, 56, 57, 58, 59, 60, 61, 62, 63, 64, 65, 66, 67, 68, 69, 70, 71, 72, 73, 74, 75, 76, 77, 78, 79, 80, 81, 82, 83, 84, 85, 86, 87, 88, 89, 90, 91, 92, 93, 94, 95, 96, 97, 98, 99, 100, 101, 102, 103, 104, 105, 106, 107, 108, 5, 109, 110, 111, 112, 113, 114, 115, 116, 117, 118, 119, 120, 121, 122, 123, 124, 125, 126, 127, 128, 129, 130, 131, 132, 133, 134, 135, 136, 137, 138, 139, 140, 141, 142, 143, 144, 145, 146, 147, 148, 149, 150, 151, 152, 153, 154, 155, 156, 157, 158, 159, 160, 161, 162, 163, 164, 165, 166, 167, 168, 169, 170, 171, 172, 173, 174, 175, 176, 177, 178, 179, 180, 181, 182, 183, 184, 185, 186, 187, 188, 189, 190, 191, 192, 193, 194, 195, 196, 197, 198, 199, 200, 201, 202, 203, 204, 205, 206, 207, 208, 209, 210, 211, 212, 213, 214, 215, 216, 217] (by decide +kernel) (by decide +kernel)) (goodIn_sub (fun _ h => List.mem_cons_of_mem _ (List.mem_append_left _ (List.mem_append_right _ h))) (by decide +kernel))) (goodIn_sub (fun _ h => List.mem_cons_of_mem _ (List.mem_append_right _ h)) (by decide +kernel))
set_option maxRecDepth 20000 in
theorem gL_open_X5_open : GoodIn wsL_open (wsV RL 49 RX5 yX5_open wsX5_open) := goodIn_app (goodIn_of _ (by decide +kernel)) ggL_open_X5_open
theorem dL_open_0 : decode cL_open 0 = .ok (.aload_n 2, 1) := by decide +kernel
theorem dL_open_1 : decode cL_open 1 = .ok (.iconst 0, 1) := by decide +kernel
theorem dL_open_2 : decode cL_open 2 = .ok (.aload_n 0, 1) := by decide +kernel
theorem dL_open_3 : decode cL_open 3 = .ok (.iload_n 1, 1) := by decide +kernel
theorem dL_open_4 : decode cL_open 4 = .ok (.invokevirtual 49, 3) := by decide +kernel
theorem dL_open_7 : decode cL_open 7 = .ok (.i2l, 1) := by decide +kernel
theorem dL_open_8 : decode cL_open 8 = .ok (.lastore, 1) := by decide +kernel
theorem dL_open_9 : decode cL_open 9 = .ok (.goto 6, 3) := by decide +kernel
theorem dL_open_12 : decode cL_open 12 = .ok (.astore_n 3, 1) := by decide +kernel
theorem dL_open_13 : decode cL_open 13 = .ok (.iconst 1, 1) := by decide +kernel
theorem dL_open_14 : decode cL_open 14 = .ok (.ireturn, 1) := by decide +kernel
theorem dL_open_15 : decode cL_open 15 = .ok (.iconst 0, 1) := by decide +kernel
theorem dL_open_16 : decode cL_open 16 = .ok (.ireturn, 1) := by decide +kernel
set_option maxRecDepth 20000 in
theorem ggL_close_X5_close : GoodIn wsL_close wsX5_close := goodIn_ca (goodIn_ca (goodIn_ca (goodIn_r _ [7, 8, 9, 10, 11, 12, 13, 14, 15, 6, 16, 17, 18, 19, 20, 21, 22, 23, 24, 25, 26, 27, 28, 29, 30, 31, 32, 33, 34, 35, 36, 37, 38, 39, 40, 41, 42, 43, 44, 45, 46, 47, 48, 49, 50, 51, 52, 53, 54, 55, 56, 57, 58, 59, 60, 61, 62, 63, 64, 65, 66, 67, 68, 69, 70, 71, 72, 73, 74, 75, 76, 77, 78, 79, 80, 81, 82, 83, 84, 85, 86, 87, 88, 89, 90, 91, 92, 93, 94, 95, 96, 97, 98, 99, 100, 101, 102, 103, 104, 105, 106] (by decide +kernel) (by decide +kernel)) (goodIn_sub (fun _ h => List.mem_cons_of_mem _ (List.mem_append_left _ (List.mem_append_left _ (List.mem_append_right _ h)))) (by decide +kernel))) (goodIn_sub (fun _ h => List.mem_cons_of_mem _ (List.mem_append_left _ (List.mem_append_right _ h))) (by decide +kernel))) (goodIn_sub (fun _ h => List.mem_cons_of_mem _ (List.mem_append_right _ h)) (by decide +kernel))
set_option maxRecDepth 20000 in
theorem gL_close_X5_close : GoodIn wsL_close (wsV RL 52 RX5 yX5_close wsX5_close) := goodIn_app (goodIn_of _ (by decide +kernel)) ggL_close_X5_close
theorem dL_close_0 : decode cL_close 0 = .ok (.aload_n 3, 1) := by decide +kernel
theorem dL_close_1 : decode cL_close 1 = .ok (.iconst 0, 1) := by decide +kernel
theorem dL_close_2 : decode cL_close 2 = .ok (.aload_n 0, 1) := by decide +kernel
theorem dL_close_3 : decode cL_close 3 = .ok (.iload_n 1, 1) := by decide +kernel
theorem dL_close_4 : decode cL_close 4 = .ok (.iload_n 2, 1) := by decide +kernel
theorem dL_close_5 : decode cL_close 5 = .ok (.invokevirtual 52, 3) := by decide +kernel
theorem dL_close_8 : decode cL_close 8 = .ok (.i2l, 1) := by decide +kernel
theorem dL_close_9 : decode cL_close 9 = .ok (.lastore, 1) := by decide +kernel
theorem dL_close_10 : decode cL_close 10 = .ok (.goto 11, 3) := by decide +kernel
theorem dL_close_13 : decode cL_close 13 = .ok (.astore 4, 2) := by decide +kernel
theorem dL_close_15 : decode cL_close 15 = .ok (.iconst 1, 1) := by decide +kernel
theorem dL_close_16 : decode cL_close 16 = .ok (.ireturn, 1) := by decide +kernel
theorem dL_close_17 : decode cL_close 17 = .ok (.astore 4, 2) := by decide +kernel
theorem dL_close_19 : decode cL_close 19 = .ok (.iconst 2, 1) := by decide +kernel
theorem dL_close_20 : decode cL_close 20 = .ok (.ireturn, 1) := by decide +kernel
theorem dL_close_21 : decode cL_close 21 = .ok (.iconst 0, 1) := by decide +kernel
theorem dL_close_22 : decode cL_close 22 = .ok (.ireturn, 1) := by decide +kernel
set_option maxRecDepth 20000 in
theorem ggL_serverOf_X5_serverOf : GoodIn wsL_serverOf wsX5_serverOf := goodIn_ca (goodIn_r _ [6, 7, 8, 9, 10, 11, 12, 5, 13, 14, 15, 16, 17, 18, 19, 20, 21, 22, 23, 24, 25, 26, 27, 28, 29, 30, 31, 32, 33, 34, 35, 36] (by decide +kernel) (by decide +kernel)) (goodIn_sub (fun _ h => List.mem_cons_of_mem _ (List.mem_append_right _ h)) (by decide +kernel))
set_option maxRecDepth 20000 in
theorem gL_serverOf_X5_serverOf : GoodIn wsL_serverOf (wsV RL 56 RX5 yX5_serverOf wsX5_serverOf) := goodIn_app (goodIn_of _ (by decide +kernel)) ggL_serverOf_X5_serverOf
theorem dL_serverOf_0 : decode cL_serverOf 0 = .ok (.aload_n 2, 1) := by decide +kernel
theorem dL_serverOf_1 : decode cL_serverOf 1 = .ok (.iconst 0, 1) := by decide +kernel
theorem dL_serverOf_2 : decode cL_serverOf 2 = .ok (.aload_n 0, 1) := by decide +kernel
theorem dL_serverOf_3 : decode cL_serverOf 3 = .ok (.iload_n 1, 1) := by decide +kernel
theorem dL_serverOf_4 : decode cL_serverOf 4 = .ok (.invokevirtual 56, 3) := by decide +kernel
theorem dL_serverOf_7 : decode cL_serverOf 7 = .ok (.i2l, 1) := by decide +kernel
theorem dL_serverOf_8 : decode cL_serverOf 8 = .ok (.lastore, 1) := by decide +kernel
theorem dL_serverOf_9 : decode cL_serverOf 9 = .ok (.goto 6, 3) := by decide +kernel
theorem dL_serverOf_12 : decode cL_serverOf 12 = .ok (.astore_n 3, 1) := by decide +kernel
theorem dL_serverOf_13 : decode cL_serverOf 13 = .ok (.iconst 1, 1) := by decide +kernel
theorem dL_serverOf_14 : decode cL_serverOf 14 = .ok (.ireturn, 1) := by decide +kernel
theorem dL_serverOf_15 : decode cL_serverOf 15 = .ok (.iconst 0, 1) := by decide +kernel
theorem dL_serverOf_16 : decode cL_serverOf 16 = .ok (.ireturn, 1) := by decide +kernel
set_option maxRecDepth 20000 in
theorem ggL_isAvailable_X5_isAvailable : GoodIn wsL_isAvailable wsX5_isAvailable := goodIn_ca (goodIn_r _ [6, 7, 8, 9, 10, 11, 12, 13, 14, 15, 16, 17, 18, 19, 20, 21, 22, 23, 24, 25, 26, 27, 28, 29, 30, 31, 32, 33, 34, 35, 36, 37, 38, 39, 40, 41, 42, 43, 44, 45, 46, 47, 48, 49, 50, 51, 52, 53, 54, 55, 56, 57, 58, 59, 60, 61, 62, 63, 64] (by decide +kernel) (by decide +kernel)) (goodIn_sub (fun _ h => List.mem_cons_of_mem _ (List.mem_append_right _ h)) (by decide +kernel))
set_option maxRecDepth 20000 in
theorem gL_isAvailable_X5_isAvailable : GoodIn wsL_isAvailable (wsV RL 59 RX5 yX5_isAvailable wsX5_isAvailable) := goodIn_app (goodIn_of _ (by decide +kernel)) ggL_isAvailable_X5_isAvailable
theorem dL_isAvailable_0 : decode cL_isAvailable 0 = .ok (.aload_n 2, 1) := by decide +kernel
theorem dL_isAvailable_1 : decode cL_isAvailable 1 = .ok (.iconst 0, 1) := by decide +kernel
theorem dL_isAvailable_2 : decode cL_isAvailable 2 = .ok (.aload_n 0, 1) := by decide +kernel
theorem dL_isAvailable_3 : decode cL_isAvailable 3 = .ok (.iload_n 1, 1) := by decide +kernel
theorem dL_isAvailable_4 : decode cL_isAvailable 4 = .ok (.invokevirtual 59, 3) := by decide +kernel
theorem dL_isAvailable_7 : decode cL_isAvailable 7 = .ok (.ifCond .eq 7, 3) := by decide +kernel
theorem dL_isAvailable_10 : decode cL_isAvailable 10 = .ok (.lconst 1, 1) := by decide +kernel
theorem dL_isAvailable_11 : decode cL_isAvailable 11 = .ok (.goto 4, 3) := by decide +kernel
theorem dL_isAvailable_14 : decode cL_isAvailable 14 = .ok (.lconst 0, 1) := by decide +kernel
theorem dL_isAvailable_15 : decode cL_isAvailable 15 = .ok (.lastore, 1) := by decide +kernel
theorem dL_isAvailable_16 : decode cL_isAvailable 16 = .ok (.goto 6, 3) := by decide +kernel
theorem dL_isAvailable_19 : decode cL_isAvailable 19 = .ok (.astore_n 3, 1) := by decide +kernel
theorem dL_isAvailable_20 : decode cL_isAvailable 20 = .ok (.iconst 1, 1) := by decide +kernel
theorem dL_isAvailable_21 : decode cL_isAvailable 21 = .ok (.ireturn, 1) := by decide +kernel
theorem dL_isAvailable_22 : decode cL_isAvailable 22 = .ok (.iconst 0, 1) := by decide +kernel
theorem dL_isAvailable_23 : decode cL_isAvailable 23 = .ok (.ireturn, 1) := by decide +kernel
set_option maxRecDepth 20000 in
theorem ggL_effectiveWeight_X5_effectiveWeight : GoodIn wsL_effectiveWeight wsX5_effectiveWeight := goodIn_ca (goodIn_r _ [6, 7, 8, 9, 10, 11, 12, 13, 14, 15, 16, 17, 18, 19, 20, 21, 22, 23, 24, 25, 26, 27, 28, 29, 30, 31, 32, 33, 34, 35, 36, 37, 38, 39, 40, 41, 42, 43, 44, 45, 46, 47, 48, 49, 50, 51, 52, 53, 54, 55] (by decide +kernel) (by decide +kernel)) (goodIn_sub (fun _ h => List.mem_cons_of_mem _ (List.mem_append_right _ h)) (by decide +kernel))
set_option maxRecDepth 20000 in
theorem gL_effectiveWeight_X5_effectiveWeight : GoodIn wsL_effectiveWeight (wsV RL 63 RX5 yX5_effectiveWeight wsX5_effectiveWeight) := goodIn_app (goodIn_of _ (by decide +kernel)) ggL_effectiveWeight_X5_effectiveWeight
theorem dL_effectiveWeight_0 : decode cL_effectiveWeight 0 = .ok (.aload_n 2, 1) := by decide +kernel
theorem dL_effectiveWeight_1 : decode cL_effectiveWeight 1 = .ok (.iconst 0, 1) := by decide +kernel
theorem dL_effectiveWeight_2 : decode cL_effectiveWeight 2 = .ok (.aload_n 0, 1) := by decide +kernel
theorem dL_effectiveWeight_3 : decode cL_effectiveWeight 3 = .ok (.iload_n 1, 1) := by decide +kernel
theorem dL_effectiveWeight_4 : decode cL_effectiveWeight 4 = .ok (.invokevirtual 63, 3) := by decide +kernel
theorem dL_effectiveWeight_7 : decode cL_effectiveWeight 7 = .ok (.i2l, 1) := by decide +kernel
theorem dL_effectiveWeight_8 : decode cL_effectiveWeight 8 = .ok (.lastore, 1) := by decide +kernel
theorem dL_effectiveWeight_9 : decode cL_effectiveWeight 9 = .ok (.goto 6, 3) := by decide +kernel
theorem dL_effectiveWeight_12 : decode cL_effectiveWeight 12 = .ok (.astore_n 3, 1) := by decide +kernel
theorem dL_effectiveWeight_13 : decode cL_effectiveWeight 13 = .ok (.iconst 1, 1) := by decide +kernel
theorem dL_effectiveWeight_14 : decode cL_effectiveWeight 14 = .ok (.ireturn, 1) := by decide +kernel
theorem dL_effectiveWeight_15 : decode cL_effectiveWeight 15 = .ok (.iconst 0, 1) := by decide +kernel
theorem dL_effectiveWeight_16 : decode cL_effectiveWeight 16 = .ok (.ireturn, 1) := by decide +kernel
set_option maxRecDepth 20000 in
theorem ggL_active_X5_active : GoodIn wsL_active wsX5_active := goodIn_ca (goodIn_r _ [6, 7, 8, 9, 10, 11, 12, 13, 14, 15, 16, 17, 18, 19, 20, 21, 22, 23, 24, 25, 26, 27, 28, 29, 30, 31, 32, 33, 34, 35, 36, 37, 38, 39, 40, 41, 42, 43] (by decide +kernel) (by decide +kernel)) (goodIn_sub (fun _ h => List.mem_cons_of_mem _ (List.mem_append_right _ h)) (by decide +kernel))
set_option maxRecDepth 20000 in
theorem gL_active_X5_active : GoodIn wsL_active (wsV RL 66 RX5 yX5_active wsX5_active) := goodIn_app (goodIn_of _ (by decide +kernel)) ggL_active_X5_active
theorem dL_active_0 : decode cL_active 0 = .ok (.aload_n 2, 1) := by decide +kernel
theorem dL_active_1 : decode cL_active 1 = .ok (.iconst 0, 1) := by decide +kernel
theorem dL_active_2 : decode cL_active 2 = .ok (.aload_n 0, 1) := by decide +kernel
theorem dL_active_3 : decode cL_active 3 = .ok (.iload_n 1, 1) := by decide +kernel
theorem dL_active_4 : decode cL_active 4 = .ok (.invokevirtual 66, 3) := by decide +kernel
theorem dL_active_7 : decode cL_active 7 = .ok (.i2l, 1) := by decide +kernel
theorem dL_active_8 : decode cL_active 8 = .ok (.lastore, 1) := by decide +kernel
theorem dL_active_9 : decode cL_active 9 = .ok (.goto 6, 3) := by decide +kernel
theorem dL_active_12 : decode cL_active 12 = .ok (.astore_n 3, 1) := by decide +kernel
theorem dL_active_13 : decode cL_active 13 = .ok (.iconst 1, 1) := by decide +kernel
theorem dL_active_14 : decode cL_active 14 = .ok (.ireturn, 1) := by decide +kernel
theorem dL_active_15 : decode cL_active 15 = .ok (.iconst 0, 1) := by decide +kernel
theorem dL_active_16 : decode cL_active 16 = .ok (.ireturn, 1) := by decide +kernel
set_option maxRecDepth 20000 in
theorem ggL_utilization_X5_utilization : GoodIn wsL_utilization wsX5_utilization := goodIn_ca (goodIn_r _ [6, 7, 8, 9, 10, 11, 12, 13, 14, 15, 16, 17, 18, 19, 20, 21, 22, 23, 24, 25, 26, 27, 28, 29, 30, 31, 32, 33, 34, 35, 36, 37, 38, 39, 40, 41, 42, 43, 44] (by decide +kernel) (by decide +kernel)) (goodIn_sub (fun _ h => List.mem_cons_of_mem _ (List.mem_append_right _ h)) (by decide +kernel))
set_option maxRecDepth 20000 in
theorem gL_utilization_X5_utilization : GoodIn wsL_utilization (wsV RL 69 RX5 yX5_utilization wsX5_utilization) := goodIn_app (goodIn_of _ (by decide +kernel)) ggL_utilization_X5_utilization
theorem dL_utilization_0 : decode cL_utilization 0 = .ok (.aload_n 2, 1) := by decide +kernel
theorem dL_utilization_1 : decode cL_utilization 1 = .ok (.iconst 0, 1) := by decide +kernel
theorem dL_utilization_2 : decode cL_utilization 2 = .ok (.aload_n 0, 1) := by decide +kernel
theorem dL_utilization_3 : decode cL_utilization 3 = .ok (.iload_n 1, 1) := by decide +kernel
theorem dL_utilization_4 : decode cL_utilization 4 = .ok (.invokevirtual 69, 3) := by decide +kernel
theorem dL_utilization_7 : decode cL_utilization 7 = .ok (.dastore, 1) := by decide +kernel
theorem dL_utilization_8 : decode cL_utilization 8 = .ok (.goto 6, 3) := by decide +kernel
theorem dL_utilization_11 : decode cL_utilization 11 = .ok (.astore_n 3, 1) := by decide +kernel
theorem dL_utilization_12 : decode cL_utilization 12 = .ok (.iconst 1, 1) := by decide +kernel
theorem dL_utilization_13 : decode cL_utilization 13 = .ok (.ireturn, 1) := by decide +kernel
theorem dL_utilization_14 : decode cL_utilization 14 = .ok (.iconst 0, 1) := by decide +kernel
theorem dL_utilization_15 : decode cL_utilization 15 = .ok (.ireturn, 1) := by decide +kernel
set_option maxRecDepth 20000 in
theorem ggL_breaker_X5_breaker : GoodIn wsL_breaker wsX5_breaker := goodIn_ca (goodIn_r _ [6, 7, 8, 9, 10, 11, 12, 13, 14, 15, 16, 17, 18, 19, 20, 21, 22, 23, 24, 25, 26, 27, 28, 29, 30, 31, 32, 33, 34, 35, 36, 37, 38, 39, 40, 41, 42, 43, 44, 45, 46, 47, 48, 49] (by decide +kernel) (by decide +kernel)) (goodIn_sub (fun _ h => List.mem_cons_of_mem _ (List.mem_append_right _ h)) (by decide +kernel))
set_option maxRecDepth 20000 in
theorem gL_breaker_X5_breaker : GoodIn wsL_breaker (wsV RL 73 RX5 yX5_breaker wsX5_breaker) := goodIn_app (goodIn_of _ (by decide +kernel)) ggL_breaker_X5_breaker
theorem dL_breaker_0 : decode cL_breaker 0 = .ok (.aload_n 2, 1) := by decide +kernel
theorem dL_breaker_1 : decode cL_breaker 1 = .ok (.iconst 0, 1) := by decide +kernel
theorem dL_breaker_2 : decode cL_breaker 2 = .ok (.aload_n 0, 1) := by decide +kernel
theorem dL_breaker_3 : decode cL_breaker 3 = .ok (.iload_n 1, 1) := by decide +kernel
theorem dL_breaker_4 : decode cL_breaker 4 = .ok (.invokevirtual 73, 3) := by decide +kernel
theorem dL_breaker_7 : decode cL_breaker 7 = .ok (.i2l, 1) := by decide +kernel
theorem dL_breaker_8 : decode cL_breaker 8 = .ok (.lastore, 1) := by decide +kernel
theorem dL_breaker_9 : decode cL_breaker 9 = .ok (.goto 6, 3) := by decide +kernel
theorem dL_breaker_12 : decode cL_breaker 12 = .ok (.astore_n 3, 1) := by decide +kernel
theorem dL_breaker_13 : decode cL_breaker 13 = .ok (.iconst 1, 1) := by decide +kernel
theorem dL_breaker_14 : decode cL_breaker 14 = .ok (.ireturn, 1) := by decide +kernel
theorem dL_breaker_15 : decode cL_breaker 15 = .ok (.iconst 0, 1) := by decide +kernel
theorem dL_breaker_16 : decode cL_breaker 16 = .ok (.ireturn, 1) := by decide +kernel
set_option maxRecDepth 20000 in
theorem ggL_owner_X5_owner : GoodIn wsL_owner wsX5_owner := goodIn_ca (goodIn_r _ [6, 7, 8, 9, 10, 11, 12, 13, 14, 15, 16, 17, 18, 5, 19, 20, 21, 22, 23, 24, 25, 26, 27, 28, 29, 30, 31, 32, 33, 34, 35, 36, 37, 38, 39, 40, 41, 42, 43, 44, 45, 46, 47, 48, 49, 50, 51, 52, 53, 54, 55, 56, 57, 58, 59, 60, 61, 62, 63, 64, 65, 66, 67, 68, 69, 70, 71, 72, 73, 74, 75, 76] (by decide +kernel) (by decide +kernel)) (goodIn_sub (fun _ h => List.mem_cons_of_mem _ (List.mem_append_right _ h)) (by decide +kernel))
set_option maxRecDepth 20000 in
theorem gL_owner_X5_owner : GoodIn wsL_owner (wsV RL 76 RX5 yX5_owner wsX5_owner) := goodIn_app (goodIn_of _ (by decide +kernel)) ggL_owner_X5_owner
theorem dL_owner_0 : decode cL_owner 0 = .ok (.aload_n 2, 1) := by decide +kernel
theorem dL_owner_1 : decode cL_owner 1 = .ok (.iconst 0, 1) := by decide +kernel
theorem dL_owner_2 : decode cL_owner 2 = .ok (.aload_n 0, 1) := by decide +kernel
theorem dL_owner_3 : decode cL_owner 3 = .ok (.iload_n 1, 1) := by decide +kernel
theorem dL_owner_4 : decode cL_owner 4 = .ok (.invokevirtual 76, 3) := by decide +kernel
theorem dL_owner_7 : decode cL_owner 7 = .ok (.i2l, 1) := by decide +kernel
theorem dL_owner_8 : decode cL_owner 8 = .ok (.lastore, 1) := by decide +kernel
theorem dL_owner_9 : decode cL_owner 9 = .ok (.goto 6, 3) := by decide +kernel
theorem dL_owner_12 : decode cL_owner 12 = .ok (.astore_n 3, 1) := by decide +kernel
theorem dL_owner_13 : decode cL_owner 13 = .ok (.iconst 1, 1) := by decide +kernel
theorem dL_owner_14 : decode cL_owner 14 = .ok (.ireturn, 1) := by decide +kernel
theorem dL_owner_15 : decode cL_owner 15 = .ok (.iconst 0, 1) := by decide +kernel
theorem dL_owner_16 : decode cL_owner 16 = .ok (.ireturn, 1) := by decide +kernel
set_option maxRecDepth 20000 in
theorem ggL_count_X5_count : GoodIn wsL_count wsX5_count := goodIn_ca (goodIn_r _ [6, 7, 8, 9, 10, 11, 12, 13, 14, 15, 16, 17, 18, 19, 20, 21, 22, 23, 24, 25, 26, 27, 28, 29, 30, 31, 32, 33, 34, 35, 36, 37, 38, 39, 40, 41, 42, 43, 44, 45, 46, 47, 48, 49, 50, 51, 52, 53, 54, 55, 56, 57] (by decide +kernel) (by decide +kernel)) (goodIn_sub (fun _ h => List.mem_cons_of_mem _ (List.mem_append_right _ h)) (by decide +kernel))
set_option maxRecDepth 20000 in
theorem gL_count_X5_count : GoodIn wsL_count (wsV RL 79 RX5 yX5_count wsX5_count) := goodIn_app (goodIn_of _ (by decide +kernel)) ggL_count_X5_count
theorem dL_count_0 : decode cL_count 0 = .ok (.aload_n 2, 1) := by decide +kernel
theorem dL_count_1 : decode cL_count 1 = .ok (.iconst 0, 1) := by decide +kernel
theorem dL_count_2 : decode cL_count 2 = .ok (.aload_n 0, 1) := by decide +kernel
theorem dL_count_3 : decode cL_count 3 = .ok (.iload_n 1, 1) := by decide +kernel
theorem dL_count_4 : decode cL_count 4 = .ok (.invokevirtual 79, 3) := by decide +kernel
theorem dL_count_7 : decode cL_count 7 = .ok (.i2l, 1) := by decide +kernel
theorem dL_count_8 : decode cL_count 8 = .ok (.lastore, 1) := by decide +kernel
theorem dL_count_9 : decode cL_count 9 = .ok (.goto 6, 3) := by decide +kernel
theorem dL_count_12 : decode cL_count 12 = .ok (.astore_n 3, 1) := by decide +kernel
theorem dL_count_13 : decode cL_count 13 = .ok (.iconst 1, 1) := by decide +kernel
theorem dL_count_14 : decode cL_count 14 = .ok (.ireturn, 1) := by decide +kernel
theorem dL_count_15 : decode cL_count 15 = .ok (.iconst 0, 1) := by decide +kernel
theorem dL_count_16 : decode cL_count 16 = .ok (.ireturn, 1) := by decide +kernel
set_option maxRecDepth 20000 in
theorem ggL_save_X5_save : GoodIn wsL_save wsX5_save := goodIn_ca (goodIn_r _ [6, 7, 8, 9, 10, 11, 12, 13, 5, 14, 15, 16, 17, 18, 19, 20, 21, 22, 23, 24, 25, 26, 27, 28, 29, 30, 31, 32, 33, 34, 35, 36, 37, 38, 39, 40, 41, 42, 43, 44, 45, 46, 47, 48, 49, 50, 51, 52, 53, 54, 55, 56, 57, 58, 59, 60, 61, 62, 63, 64, 65, 66, 67, 68, 69, 70, 71, 72, 73, 74, 75, 76, 77, 78, 79, 80, 81, 82, 83, 84, 85, 86, 87, 88, 89, 90, 91, 92, 93, 94, 95, 96, 97, 98, 99, 100, 101, 102, 103, 104, 105, 106, 107, 108, 109, 110, 111, 112, 113, 114, 115, 116, 117, 118, 119, 120, 121, 122, 123, 124, 125, 126, 127, 128, 129, 130, 131, 132, 133, 134, 135, 136, 137, 138, 139, 140, 141, 142, 143, 144, 145, 146, 147, 148, 149, 150, 151, 152] (by decide +kernel) (by decide +kernel)) (goodIn_sub (fun _ h => List.mem_cons_of_mem _ (List.mem_append_right _ h)) (by decide +kernel))
set_option maxRecDepth 20000 in
theorem gL_save_X5_save : GoodIn wsL_save (wsV RL 82 RX5 yX5_save wsX5_save) := goodIn_app (goodIn_of _ (by decide +kernel)) ggL_save_X5_save
theorem dL_save_0 : decode cL_save 0 = .ok (.aload_n 0, 1) := by decide +kernel
theorem dL_save_1 : decode cL_save 1 = .ok (.iload_n 1, 1) := by decide +kernel
theorem dL_save_2 : decode cL_save 2 = .ok (.invokevirtual 82, 3) := by decide +kernel
theorem dL_save_5 : decode cL_save 5 = .ok (.goto 6, 3) := by decide +kernel
theorem dL_save_8 : decode cL_save 8 = .ok (.astore_n 2, 1) := by decide +kernel
theorem dL_save_9 : decode cL_save 9 = .ok (.iconst 1, 1) := by decide +kernel
theorem dL_save_10 : decode cL_save 10 = .ok (.ireturn, 1) := by decide +kernel
theorem dL_save_11 : decode cL_save 11 = .ok (.iconst 0, 1) := by decide +kernel
theorem dL_save_12 : decode cL_save 12 = .ok (.ireturn, 1) := by decide +kernel
set_option maxRecDepth 20000 in
theorem ggL_restore_X5_restore : GoodIn wsL_restore wsX5_restore := goodIn_ca (goodIn_ca (goodIn_r _ [7, 8, 9, 10, 11, 12, 13, 6, 14, 15, 16, 17, 18, 19, 20, 21, 22, 23, 24, 25, 26, 27, 28, 29, 30, 31, 32, 33, 34, 35, 36, 37, 38, 39, 40, 41, 42, 43, 44, 45, 46, 47, 48, 49, 50, 51, 52, 53, 54, 55, 56, 57, 58, 59, 60, 61, 62, 63, 64, 65, 66, 67, 68, 69, 70, 71, 72, 73, 74, 75, 76, 77, 78, 79, 80, 81, 82, 83, 84, 85, 86, 87, 88, 89, 90, 91, 92, 93, 94, 95, 96, 97, 98, 99, 100, 101, 102, 103, 104, 105, 106, 107, 108, 109, 110, 111, 112, 113, 114, 115, 116, 117, 118, 119, 120, 121, 122] (by decide +kernel) (by decide +kernel)) (goodIn_sub (fun _ h => List.mem_cons_of_mem _ (List.mem_append_left _ (List.mem_append_right _ h))) (by decide +kernel))) (goodIn_sub (fun _ h => List.mem_cons_of_mem _ (List.mem_append_right _ h)) (by decide +kernel))
set_option maxRecDepth 20000 in
theorem gL_restore_X5_restore : GoodIn wsL_restore (wsV RL 86 RX5 yX5_restore wsX5_restore) := goodIn_app (goodIn_of _ (by decide +kernel)) ggL_restore_X5_restore
theorem dL_restore_0 : decode cL_restore 0 = .ok (.aload_n 0, 1) := by decide +kernel
theorem dL_restore_1 : decode cL_restore 1 = .ok (.iload_n 1, 1) := by decide +kernel
theorem dL_restore_2 : decode cL_restore 2 = .ok (.invokevirtual 86, 3) := by decide +kernel
theorem dL_restore_5 : decode cL_restore 5 = .ok (.goto 9, 3) := by decide +kernel
theorem dL_restore_8 : decode cL_restore 8 = .ok (.astore_n 2, 1) := by decide +kernel
theorem dL_restore_9 : decode cL_restore 9 = .ok (.iconst 1, 1) := by decide +kernel
theorem dL_restore_10 : decode cL_restore 10 = .ok (.ireturn, 1) := by decide +kernel
theorem dL_restore_11 : decode cL_restore 11 = .ok (.astore_n 2, 1) := by decide +kernel
theorem dL_restore_12 : decode cL_restore 12 = .ok (.iconst 2, 1) := by decide +kernel
theorem dL_restore_13 : decode cL_restore 13 = .ok (.ireturn, 1) := by decide +kernel
theorem dL_restore_14 : decode cL_restore 14 = .ok (.iconst 0, 1) := by decide +kernel
theorem dL_restore_15 : decode cL_restore 15 = .ok (.ireturn, 1) := by decide +kernel
set_option maxRecDepth 20000 in
theorem ggL_law_X5_init : GoodIn wsL_law wsX5_init := goodIn_r _ [10, 11, 12, 13, 14, 15, 16, 17, 18, 19, 20, 21, 22, 23, 24, 25, 26, 27, 28, 29, 30, 31, 32, 33, 34, 35, 36, 37, 38, 39, 40, 41, 42, 43, 44, 45, 46, 47, 48, 49, 50, 51, 52, 53, 54, 55, 56, 57, 58, 59, 60, 61, 62, 63, 64, 65, 66, 67, 751, 752, 753, 754, 755, 756, 757, 758, 759, 760, 761, 762, 763, 764, 743, 744, 765, 766, 767, 768, 769, 770, 771, 772, 773, 774, 775, 776, 777, 778, 779, 780, 781, 782, 783, 784, 785, 786, 787] (by decide +kernel) (by decide +kernel)
set_option maxRecDepth 20000 in
theorem gL_law_X5_init : GoodIn wsL_law (wsX5_init) := ggL_law_X5_init
set_option maxRecDepth 20000 in
theorem ggL_law_X6_init : GoodIn wsL_law wsX6_init := goodIn_r _ [70, 71, 12, 13, 56, 72, 73, 59, 74, 75, 745, 746, 747, 748, 749, 750] (by decide +kernel) (by decide +kernel)
set_option maxRecDepth 20000 in
theorem gL_law_X6_init : GoodIn wsL_law (wsX6_init) := ggL_law_X6_init
set_option maxRecDepth 20000 in
theorem ggL_law_L_addServer : GoodIn wsL_law wsL_addServer := goodIn_ca (goodIn_ca (goodIn_r _ [79, 80, 81, 82, 83, 84, 2, 85, 86, 87, 17, 88, 89, 90, 91, 92, 93, 94, 95, 96, 16, 97, 98, 24, 99, 100, 101, 26, 102, 103, 104, 105, 106, 107, 108, 109, 110, 48, 111, 112, 113, 47, 114, 115, 116, 117, 743, 744, 751, 752, 753, 754, 755, 756, 757, 758, 759, 760, 761, 762, 763, 764, 765, 766, 767, 768, 769, 770, 771, 772, 773, 774, 783, 784, 785, 786, 787] (by decide +kernel) (by decide +kernel)) (goodIn_sub (fun _ h => List.mem_append_left _ (List.mem_append_left _ (List.mem_append_left _ (List.mem_append_right _ h)))) (by decide +kernel))) (goodIn_sub (fun _ h => List.mem_append_left _ (List.mem_append_left _ (List.mem_append_right _ h))) (by decide +kernel))
set_option maxRecDepth 20000 in
theorem gL_law_L_addServer : GoodIn wsL_law (va_wsS RL 93 yL_addServer wsL_addServer) := goodIn_app (goodIn_of _ (by decide +kernel)) ggL_law_L_addServer
set_option maxRecDepth 20000 in
theorem ggL_law_X6_addServer : GoodIn wsL_law wsX6_addServer := goodIn_r _ [121, 72, 122, 123, 124, 5, 125, 745, 746, 747, 748, 749, 750] (by decide +kernel) (by decide +kernel)
set_option maxRecDepth 20000 in
theorem gL_law_X6_addServer : GoodIn wsL_law (wsV RL 98 RX6 yX6_addServer wsX6_addServer) := goodIn_app (goodIn_of _ (by decide +kernel)) ggL_law_X6_addServer
set_option maxRecDepth 20000 in
theorem ggL_law_X6_thrown : GoodIn wsL_law wsX6_thrown := goodIn_r _ [129, 122, 745, 746, 747, 748, 749, 750] (by decide +kernel) (by decide +kernel)
set_option maxRecDepth 20000 in
theorem gL_law_X6_thrown : GoodIn wsL_law (wsV RL 99 RX6 yX6_thrown wsX6_thrown) := goodIn_app (goodIn_of _ (by decide +kernel)) ggL_law_X6_thrown
set_option maxRecDepth 20000 in
theorem ggL_law_L_setWeight : GoodIn wsL_law wsL_setWeight := goodIn_ca (goodIn_ca (goodIn_r _ [132, 133, 80, 134, 135, 136, 2, 137, 17, 138, 139, 140, 141, 16, 142, 143, 144, 98, 24, 89, 90, 91, 92, 93, 743, 744, 765, 766, 767, 768, 769, 770, 771, 772, 773, 774, 751, 752, 753, 754, 755, 756, 757, 758, 759, 760, 761, 762, 763, 764] (by decide +kernel) (by decide +kernel)) (goodIn_sub (fun _ h => List.mem_append_left _ (List.mem_append_right _ h)) (by decide +kernel))) (goodIn_sub (fun _ h => List.mem_append_left _ (List.mem_append_left _ (List.mem_append_right _ h))) (by decide +kernel))
set_option maxRecDepth 20000 in
theorem gL_law_L_setWeight : GoodIn wsL_law (va_wsS RL 103 yL_setWeight wsL_setWeight) := goodIn_app (goodIn_of _ (by decide +kernel)) ggL_law_L_setWeight
set_option maxRecDepth 20000 in
theorem ggL_law_X6_setWeight : GoodIn wsL_law wsX6_setWeight := goodIn_r _ [148, 122, 149, 150, 151, 5, 152, 72, 123, 124, 125, 153, 154, 155, 156, 745, 746, 747, 748, 749, 750] (by decide +kernel) (by decide +kernel)
set_option maxRecDepth 20000 in
theorem gL_law_X6_setWeight : GoodIn wsL_law (wsV RL 105 RX6 yX6_setWeight wsX6_setWeight) := goodIn_app (goodIn_of _ (by decide +kernel)) ggL_law_X6_setWeight
set_option maxRecDepth 20000 in
theorem ggL_law_L_setDraining : GoodIn wsL_law wsL_setDraining := goodIn_ca (goodIn_r _ [159, 133, 160, 161, 162, 2, 163, 17, 164, 139, 140, 141, 16, 142, 143, 144, 98, 24, 743, 744, 765, 766, 767, 768, 769, 770, 771, 772, 773, 774, 751, 752, 753, 754, 755, 756, 757, 758, 759, 760, 761, 762, 763, 764] (by decide +kernel) (by decide +kernel)) (goodIn_sub (fun _ h => List.mem_append_left _ (List.mem_append_right _ h)) (by decide +kernel))
set_option maxRecDepth 20000 in
theorem gL_law_L_setDraining : GoodIn wsL_law (va_wsS RL 106 yL_setDraining wsL_setDraining) := goodIn_app (goodIn_of _ (by decide +kernel)) ggL_law_L_setDraining
set_option maxRecDepth 20000 in
theorem ggL_law_X6_setDraining : GoodIn wsL_law wsX6_setDraining := goodIn_r _ [168, 122, 149, 150, 151, 5, 152, 72, 123, 124, 125, 153, 154, 155, 156, 745, 746, 747, 748, 749, 750] (by decide +kernel) (by decide +kernel)
set_option maxRecDepth 20000 in
theorem gL_law_X6_setDraining : GoodIn wsL_law (wsV RL 109 RX6 yX6_setDraining wsX6_setDraining) := goodIn_app (goodIn_of _ (by decide +kernel)) ggL_law_X6_setDraining
set_option maxRecDepth 20000 in
theorem ggL_law_L_report : GoodIn wsL_law wsL_report := goodIn_ca (goodIn_r _ [171, 133, 172, 173, 174, 2, 175, 17, 176, 177, 178, 179, 139, 140, 141, 16, 142, 143, 144, 98, 24, 180, 181, 182, 26, 183, 109, 107, 184, 185, 186, 187, 110, 188, 743, 744, 765, 766, 767, 768, 769, 770, 771, 772, 773, 774, 751, 752, 753, 754, 755, 756, 757, 758, 759, 760, 761, 762, 763, 764] (by decide +kernel) (by decide +kernel)) (goodIn_sub (fun _ h => List.mem_append_left _ (List.mem_append_right _ h)) (by decide +kernel))
set_option maxRecDepth 20000 in
theorem gL_law_L_report : GoodIn wsL_law (va_wsS RL 110 yL_report wsL_report) := goodIn_app (goodIn_of _ (by decide +kernel)) ggL_law_L_report
set_option maxRecDepth 20000 in
theorem ggL_law_X6_report : GoodIn wsL_law wsX6_report := goodIn_r _ [192, 122, 72, 149, 150, 151, 5, 152, 123, 124, 125, 745, 746, 747, 748, 749, 750] (by decide +kernel) (by decide +kernel)
set_option maxRecDepth 20000 in
theorem gL_law_X6_report : GoodIn wsL_law (wsV RL 112 RX6 yX6_report wsX6_report) := goodIn_app (goodIn_of _ (by decide +kernel)) ggL_law_X6_report
set_option maxRecDepth 20000 in
theorem ggL_law_X5_servers : GoodIn wsL_law wsX5_servers := goodIn_r _ [196, 17, 88, 743, 744, 751, 752, 753, 754, 755, 756, 757, 758, 759, 760, 761, 762, 763, 764] (by decide +kernel) (by decide +kernel)
set_option maxRecDepth 20000 in
theorem gL_law_X5_servers : GoodIn wsL_law (wsV RL 113 RX5 yX5_servers wsX5_servers) := goodIn_app (goodIn_of _ (by decide +kernel)) ggL_law_X5_servers
set_option maxRecDepth 20000 in
theorem ggL_law_X6_servers : GoodIn wsL_law wsX6_servers := goodIn_r _ [200, 122, 72, 745, 746, 747, 748, 749, 750] (by decide +kernel) (by decide +kernel)
set_option maxRecDepth 20000 in
theorem gL_law_X6_servers : GoodIn wsL_law (wsV RL 116 RX6 yX6_servers wsX6_servers) := goodIn_app (goodIn_of _ (by decide +kernel)) ggL_law_X6_servers
set_option maxRecDepth 20000 in
theorem ggL_law_L_setThresholds : GoodIn wsL_law wsL_setThresholds := goodIn_ca (goodIn_r _ [203, 80, 204, 205, 206, 2, 207, 17, 178, 177, 89, 90, 91, 92, 93, 743, 744, 751, 752, 753, 754, 755, 756, 757, 758, 759, 760, 761, 762, 763, 764] (by decide +kernel) (by decide +kernel)) (goodIn_sub (fun _ h => List.mem_append_left _ (List.mem_append_left _ (List.mem_append_right _ h))) (by decide +kernel))
set_option maxRecDepth 20000 in
theorem gL_law_L_setThresholds : GoodIn wsL_law (va_wsS RL 117 yL_setThresholds wsL_setThresholds) := goodIn_app (goodIn_of _ (by decide +kernel)) ggL_law_L_setThresholds
set_option maxRecDepth 20000 in
theorem ggL_law_X6_setThresholds : GoodIn wsL_law wsX6_setThresholds := goodIn_r _ [211, 122, 72, 123, 124, 5, 125, 745, 746, 747, 748, 749, 750] (by decide +kernel) (by decide +kernel)
set_option maxRecDepth 20000 in
theorem gL_law_X6_setThresholds : GoodIn wsL_law (wsV RL 120 RX6 yX6_setThresholds wsX6_setThresholds) := goodIn_app (goodIn_of _ (by decide +kernel)) ggL_law_X6_setThresholds
set_option maxRecDepth 20000 in
theorem ggL_law_L_setSlowStart : GoodIn wsL_law wsL_setSlowStart := goodIn_ca (goodIn_r _ [214, 80, 215, 216, 217, 2, 218, 17, 219, 89, 90, 91, 92, 93, 743, 744, 751, 752, 753, 754, 755, 756, 757, 758, 759, 760, 761, 762, 763, 764] (by decide +kernel) (by decide +kernel)) (goodIn_sub (fun _ h => List.mem_append_left _ (List.mem_append_left _ (List.mem_append_right _ h))) (by decide +kernel))
set_option maxRecDepth 20000 in
theorem gL_law_L_setSlowStart : GoodIn wsL_law (va_wsS RL 121 yL_setSlowStart wsL_setSlowStart) := goodIn_app (goodIn_of _ (by decide +kernel)) ggL_law_L_setSlowStart
set_option maxRecDepth 20000 in
theorem ggL_law_X6_setSlowStart : GoodIn wsL_law wsX6_setSlowStart := goodIn_r _ [223, 122, 123, 124, 5, 125, 153, 154, 155, 156, 72, 745, 746, 747, 748, 749, 750] (by decide +kernel) (by decide +kernel)
set_option maxRecDepth 20000 in
theorem gL_law_X6_setSlowStart : GoodIn wsL_law (wsV RL 124 RX6 yX6_setSlowStart wsX6_setSlowStart) := goodIn_app (goodIn_of _ (by decide +kernel)) ggL_law_X6_setSlowStart
set_option maxRecDepth 20000 in
theorem ggL_law_L_setCool : GoodIn wsL_law wsL_setCool := goodIn_ca (goodIn_r _ [226, 80, 227, 228, 229, 2, 230, 17, 231, 89, 90, 91, 92, 93, 743, 744, 751, 752, 753, 754, 755, 756, 757, 758, 759, 760, 761, 762, 763, 764] (by decide +kernel) (by decide +kernel)) (goodIn_sub (fun _ h => List.mem_append_left _ (List.mem_append_left _ (List.mem_append_right _ h))) (by decide +kernel))
set_option maxRecDepth 20000 in
theorem gL_law_L_setCool : GoodIn wsL_law (va_wsS RL 125 yL_setCool wsL_setCool) := goodIn_app (goodIn_of _ (by decide +kernel)) ggL_law_L_setCool
set_option maxRecDepth 20000 in
theorem ggL_law_X6_setCool : GoodIn wsL_law wsX6_setCool := goodIn_r _ [235, 122, 123, 124, 5, 125, 153, 154, 155, 156, 72, 745, 746, 747, 748, 749, 750] (by decide +kernel) (by decide +kernel)
set_option maxRecDepth 20000 in
theorem gL_law_X6_setCool : GoodIn wsL_law (wsV RL 127 RX6 yX6_setCool wsX6_setCool) := goodIn_app (goodIn_of _ (by decide +kernel)) ggL_law_X6_setCool
set_option maxRecDepth 20000 in
theorem ggL_law_L_setSticky : GoodIn wsL_law wsL_setSticky := goodIn_ca (goodIn_r _ [238, 80, 239, 240, 241, 2, 242, 17, 243, 244, 89, 90, 91, 92, 93, 245, 246, 247, 33, 248, 249, 743, 744, 751, 752, 753, 754, 755, 756, 757, 758, 759, 760, 761, 762, 763, 764, 779, 780, 781, 782] (by decide +kernel) (by decide +kernel)) (goodIn_sub (fun _ h => List.mem_append_left _ (List.mem_append_left _ (List.mem_append_right _ h))) (by decide +kernel))
set_option maxRecDepth 20000 in
theorem gL_law_L_setSticky : GoodIn wsL_law (va_wsS RL 128 yL_setSticky wsL_setSticky) := goodIn_app (goodIn_of _ (by decide +kernel)) ggL_law_L_setSticky
set_option maxRecDepth 20000 in
theorem ggL_law_X6_setSticky : GoodIn wsL_law wsX6_setSticky := goodIn_r _ [253, 122, 72, 123, 124, 5, 125, 153, 154, 155, 156, 745, 746, 747, 748, 749, 750] (by decide +kernel) (by decide +kernel)
set_option maxRecDepth 20000 in
theorem gL_law_X6_setSticky : GoodIn wsL_law (wsV RL 130 RX6 yX6_setSticky wsX6_setSticky) := goodIn_app (goodIn_of _ (by decide +kernel)) ggL_law_X6_setSticky
set_option maxRecDepth 20000 in
theorem ggL_law_L_setPolicy : GoodIn wsL_law wsL_setPolicy := goodIn_ca (goodIn_r _ [256, 80, 257, 258, 259, 2, 260, 17, 261, 89, 90, 91, 92, 93, 262, 263, 264, 16, 265, 39, 98, 24, 266, 743, 744, 751, 752, 753, 754, 755, 756, 757, 758, 759, 760, 761, 762, 763, 764, 765, 766, 767, 768, 769, 770, 771, 772, 773, 774] (by decide +kernel) (by decide +kernel)) (goodIn_sub (fun _ h => List.mem_append_left _ (List.mem_append_left _ (List.mem_append_right _ h))) (by decide +kernel))
set_option maxRecDepth 20000 in
theorem gL_law_L_setPolicy : GoodIn wsL_law (va_wsS RL 131 yL_setPolicy wsL_setPolicy) := goodIn_app (goodIn_of _ (by decide +kernel)) ggL_law_L_setPolicy
set_option maxRecDepth 20000 in
theorem ggL_law_X6_setPolicy : GoodIn wsL_law wsX6_setPolicy := goodIn_r _ [270, 122, 72, 123, 124, 5, 125, 153, 154, 155, 156, 745, 746, 747, 748, 749, 750] (by decide +kernel) (by decide +kernel)
set_option maxRecDepth 20000 in
theorem gL_law_X6_setPolicy : GoodIn wsL_law (wsV RL 133 RX6 yX6_setPolicy wsX6_setPolicy) := goodIn_app (goodIn_of _ (by decide +kernel)) ggL_law_X6_setPolicy
set_option maxRecDepth 20000 in
theorem ggL_law_X5_setSeed : GoodIn wsL_law wsX5_setSeed := goodIn_r _ [274, 17, 275, 743, 744, 751, 752, 753, 754, 755, 756, 757, 758, 759, 760, 761, 762, 763, 764] (by decide +kernel) (by decide +kernel)
set_option maxRecDepth 20000 in
theorem gL_law_X5_setSeed : GoodIn wsL_law (wsV RL 134 RX5 yX5_setSeed wsX5_setSeed) := goodIn_app (goodIn_of _ (by decide +kernel)) ggL_law_X5_setSeed
set_option maxRecDepth 20000 in
theorem ggL_law_X6_setSeed : GoodIn wsL_law wsX6_setSeed := goodIn_r _ [279, 122, 153, 154, 155, 5, 156, 72, 745, 746, 747, 748, 749, 750] (by decide +kernel) (by decide +kernel)
set_option maxRecDepth 20000 in
theorem gL_law_X6_setSeed : GoodIn wsL_law (wsV RL 137 RX6 yX6_setSeed wsX6_setSeed) := goodIn_app (goodIn_of _ (by decide +kernel)) ggL_law_X6_setSeed
set_option maxRecDepth 20000 in
theorem ggL_law_L_tick : GoodIn wsL_law wsL_tick := goodIn_ca (goodIn_r _ [282, 80, 283, 284, 285, 2, 286, 17, 179, 89, 90, 91, 92, 93, 287, 288, 289, 16, 290, 98, 24, 291, 292, 37, 293, 294, 295, 47, 296, 115, 297, 298, 743, 744, 751, 752, 753, 754, 755, 756, 757, 758, 759, 760, 761, 762, 763, 764, 765, 766, 767, 768, 769, 770, 771, 772, 773, 774, 783, 784, 785, 786, 787] (by decide +kernel) (by decide +kernel)) (goodIn_sub (fun _ h => List.mem_append_left _ (List.mem_append_left _ (List.mem_append_right _ h))) (by decide +kernel))
set_option maxRecDepth 20000 in
theorem gL_law_L_tick : GoodIn wsL_law (va_wsS RL 138 yL_tick wsL_tick) := goodIn_app (goodIn_of _ (by decide +kernel)) ggL_law_L_tick
set_option maxRecDepth 20000 in
theorem ggL_law_X6_tick : GoodIn wsL_law wsX6_tick := goodIn_r _ [302, 122, 72, 123, 124, 5, 125, 745, 746, 747, 748, 749, 750] (by decide +kernel) (by decide +kernel)
set_option maxRecDepth 20000 in
theorem gL_law_X6_tick : GoodIn wsL_law (wsV RL 140 RX6 yX6_tick wsX6_tick) := goodIn_app (goodIn_of _ (by decide +kernel)) ggL_law_X6_tick
set_option maxRecDepth 20000 in
theorem ggL_law_X5_preview : GoodIn wsL_law wsX5_preview := goodIn_ca (goodIn_r _ [306, 17, 307, 308, 309, 16, 310, 30, 311, 312, 313, 29, 314, 315, 316, 317, 318, 319, 34, 292, 320, 321, 322, 323, 324, 325, 33, 326, 249, 65, 327, 140, 141, 142, 143, 144, 98, 24, 328, 329, 330, 26, 331, 107, 108, 105, 104, 48, 332, 333, 334, 47, 335, 115, 298, 336, 337, 338, 339, 38, 340, 341, 342, 343, 39, 344, 345, 346, 347, 348, 349, 350, 351, 266, 352, 353, 354, 355, 356, 357, 358, 359, 360, 361, 362, 363, 364, 365, 366, 367, 368, 369, 370, 371, 372, 373, 374, 375, 376, 377, 2, 378, 379, 380, 381, 382, 383, 103, 384, 385, 386, 387, 388, 389, 390, 40, 391, 392, 393, 394, 395, 396, 397, 398, 399, 400, 401, 743, 744, 751, 752, 753, 754, 755, 756, 757, 758, 759, 760, 761, 762, 763, 764, 775, 776, 777, 778, 779, 780, 781, 782, 765, 766, 767, 768, 769, 770, 771, 772, 773, 774, 783, 784, 785, 786, 787] (by decide +kernel) (by decide +kernel)) (goodIn_sub (fun _ h => List.mem_append_left _ (List.mem_append_right _ h)) (by decide +kernel))
set_option maxRecDepth 20000 in
theorem gL_law_X5_preview : GoodIn wsL_law (wsV RL 141 RX5 yX5_preview wsX5_preview) := goodIn_app (goodIn_of _ (by decide +kernel)) ggL_law_X5_preview
set_option maxRecDepth 20000 in
theorem ggL_law_X6_preview : GoodIn wsL_law wsX6_preview := goodIn_r _ [405, 122, 406, 407, 408, 5, 409, 72, 410, 411, 412, 413, 414, 75, 415, 416, 417, 418, 419, 420, 421, 422, 423, 424, 425, 426, 427, 428, 429, 430, 431, 432, 433, 434, 435, 436, 437, 438, 439, 440, 441, 442, 443, 444, 445, 446, 447, 448, 449, 450, 451, 452, 453, 454, 455, 456, 457, 458, 459, 460, 461, 462, 463, 464, 465, 466, 745, 746, 747, 748, 749, 750] (by decide +kernel) (by decide +kernel)
set_option maxRecDepth 20000 in
theorem gL_law_X6_preview : GoodIn wsL_law (wsV RL 144 RX6 yX6_preview wsX6_preview) := goodIn_app (goodIn_of _ (by decide +kernel)) ggL_law_X6_preview
set_option maxRecDepth 20000 in
theorem ggL_law_L_open : GoodIn wsL_law wsL_open := goodIn_ca (goodIn_ca (goodIn_r _ [469, 81, 470, 471, 472, 2, 473, 86, 87, 17, 474, 307, 308, 309, 16, 310, 30, 311, 312, 313, 29, 314, 315, 316, 317, 318, 319, 34, 292, 320, 321, 322, 323, 324, 325, 33, 326, 249, 65, 327, 140, 141, 142, 143, 144, 98, 24, 328, 329, 330, 26, 331, 107, 108, 105, 104, 48, 332, 333, 334, 47, 335, 115, 298, 336, 337, 338, 339, 38, 340, 341, 342, 343, 39, 344, 345, 346, 347, 348, 349, 350, 351, 266, 352, 353, 354, 355, 356, 357, 358, 359, 360, 361, 362, 363, 364, 365, 366, 367, 368, 369, 370, 371, 372, 373, 374, 375, 376, 377, 378, 379, 380, 381, 382, 383, 103, 384, 385, 386, 387, 388, 389, 390, 40, 391, 392, 393, 394, 395, 396, 397, 398, 399, 400, 401, 475, 476, 477, 478, 479, 480, 481, 482, 483, 484, 485, 486, 487, 291, 488, 489, 490, 491, 57, 58, 60, 492, 493, 494, 495, 496, 497, 498, 499, 66, 67, 500, 501, 502, 503, 504, 505, 506, 507, 508, 509, 510, 511, 512, 743, 744, 751, 752, 753, 754, 755, 756, 757, 758, 759, 760, 761, 762, 763, 764, 775, 776, 777, 778, 779, 780, 781, 782, 765, 766, 767, 768, 769, 770, 771, 772, 773, 774, 783, 784, 785, 786, 787] (by decide +kernel) (by decide +kernel)) (goodIn_sub (fun _ h => List.mem_append_left _ (List.mem_append_left _ (List.mem_append_left _ (List.mem_append_right _ h)))) (by decide +kernel))) (goodIn_sub (fun _ h => List.mem_append_left _ (List.mem_append_right _ h)) (by decide +kernel))
set_option maxRecDepth 20000 in
theorem gL_law_L_open : GoodIn wsL_law (va_wsS RL 145 yL_open wsL_open) := goodIn_app (goodIn_of _ (by decide +kernel)) ggL_law_L_open
set_option maxRecDepth 20000 in
theorem ggL_law_X6_open : GoodIn wsL_law wsX6_open := goodIn_r _ [516, 122, 72, 406, 407, 408, 5, 409, 410, 411, 412, 413, 414, 75, 415, 416, 417, 418, 419, 420, 421, 422, 423, 424, 425, 426, 427, 428, 429, 430, 431, 432, 433, 434, 435, 436, 437, 438, 439, 440, 441, 442, 443, 444, 445, 446, 447, 448, 449, 450, 451, 452, 453, 454, 455, 456, 457, 458, 459, 460, 461, 462, 463, 464, 465, 466, 517, 518, 519, 520, 521, 522, 523, 524, 525, 526, 527, 528, 745, 746, 747, 748, 749, 750] (by decide +kernel) (by decide +kernel)
set_option maxRecDepth 20000 in
theorem gL_law_X6_open : GoodIn wsL_law (wsV RL 147 RX6 yX6_open wsX6_open) := goodIn_app (goodIn_of _ (by decide +kernel)) ggL_law_X6_open
set_option maxRecDepth 20000 in
theorem ggL_law_L_close : GoodIn wsL_law wsL_close := goodIn_ca (goodIn_ca (goodIn_ca (goodIn_r _ [531, 133, 81, 532, 533, 534, 2, 535, 86, 87, 17, 536, 537, 538, 539, 540, 541, 542, 144, 543, 544, 545, 546, 16, 547, 30, 548, 549, 372, 291, 292, 550, 327, 140, 141, 142, 143, 98, 24, 551, 552, 553, 47, 554, 115, 298, 555, 556, 557, 558, 117, 116, 559, 560, 561, 562, 563, 564, 565, 566, 567, 568, 569, 297, 570, 571, 572, 573, 574, 112, 113, 114, 743, 744, 751, 752, 753, 754, 755, 756, 757, 758, 759, 760, 761, 762, 763, 764, 775, 776, 777, 778, 765, 766, 767, 768, 769, 770, 771, 772, 773, 774, 783, 784, 785, 786, 787] (by decide +kernel) (by decide +kernel)) (goodIn_sub (fun _ h => List.mem_append_left _ (List.mem_append_left _ (List.mem_append_left _ (List.mem_append_right _ h)))) (by decide +kernel))) (goodIn_sub (fun _ h => List.mem_append_right _ h) (by decide +kernel))) (goodIn_sub (fun _ h => List.mem_append_left _ (List.mem_append_right _ h)) (by decide +kernel))
set_option maxRecDepth 20000 in
theorem gL_law_L_close : GoodIn wsL_law (va_wsS RL 148 yL_close wsL_close) := goodIn_app (goodIn_of _ (by decide +kernel)) ggL_law_L_close
set_option maxRecDepth 20000 in
theorem ggL_law_X6_close : GoodIn wsL_law wsX6_close := goodIn_r _ [578, 72, 122, 579, 580, 581, 5, 582, 123, 124, 125, 583, 584, 585, 586, 587, 588, 589, 590, 591, 592, 593, 745, 746, 747, 748, 749, 750] (by decide +kernel) (by decide +kernel)
set_option maxRecDepth 20000 in
theorem gL_law_X6_close : GoodIn wsL_law (wsV RL 150 RX6 yX6_close wsX6_close) := goodIn_app (goodIn_of _ (by decide +kernel)) ggL_law_X6_close
set_option maxRecDepth 20000 in
theorem ggL_law_L_serverOf : GoodIn wsL_law wsL_serverOf := goodIn_ca (goodIn_r _ [596, 133, 597, 598, 599, 2, 600, 17, 536, 601, 538, 539, 540, 541, 542, 144, 543, 743, 744, 751, 752, 753, 754, 755, 756, 757, 758, 759, 760, 761, 762, 763, 764, 775, 776, 777, 778] (by decide +kernel) (by decide +kernel)) (goodIn_sub (fun _ h => List.mem_append_right _ h) (by decide +kernel))
set_option maxRecDepth 20000 in
theorem gL_law_L_serverOf : GoodIn wsL_law (va_wsS RL 151 yL_serverOf wsL_serverOf) := goodIn_app (goodIn_of _ (by decide +kernel)) ggL_law_L_serverOf
set_option maxRecDepth 20000 in
theorem ggL_law_X6_serverOf : GoodIn wsL_law wsX6_serverOf := goodIn_r _ [605, 122, 72, 579, 580, 581, 5, 582, 123, 124, 125, 745, 746, 747, 748, 749, 750] (by decide +kernel) (by decide +kernel)
set_option maxRecDepth 20000 in
theorem gL_law_X6_serverOf : GoodIn wsL_law (wsV RL 153 RX6 yX6_serverOf wsX6_serverOf) := goodIn_app (goodIn_of _ (by decide +kernel)) ggL_law_X6_serverOf
set_option maxRecDepth 20000 in
theorem ggL_law_L_isAvailable : GoodIn wsL_law wsL_isAvailable := goodIn_ca (goodIn_r _ [608, 133, 609, 610, 611, 2, 612, 17, 139, 140, 141, 16, 142, 143, 144, 98, 24, 613, 329, 330, 26, 331, 107, 108, 105, 104, 48, 332, 333, 334, 47, 335, 115, 298, 743, 744, 751, 752, 753, 754, 755, 756, 757, 758, 759, 760, 761, 762, 763, 764, 765, 766, 767, 768, 769, 770, 771, 772, 773, 774, 783, 784, 785, 786, 787] (by decide +kernel) (by decide +kernel)) (goodIn_sub (fun _ h => List.mem_append_left _ (List.mem_append_right _ h)) (by decide +kernel))
set_option maxRecDepth 20000 in
theorem gL_law_L_isAvailable : GoodIn wsL_law (va_wsS RL 154 yL_isAvailable wsL_isAvailable) := goodIn_app (goodIn_of _ (by decide +kernel)) ggL_law_L_isAvailable
set_option maxRecDepth 20000 in
theorem ggL_law_X6_isAvailable : GoodIn wsL_law wsX6_isAvailable := goodIn_r _ [617, 122, 149, 150, 151, 5, 152, 72, 123, 124, 125, 415, 416, 417, 418, 745, 746, 747, 748, 749, 750] (by decide +kernel) (by decide +kernel)
set_option maxRecDepth 20000 in
theorem gL_law_X6_isAvailable : GoodIn wsL_law (wsV RL 156 RX6 yX6_isAvailable wsX6_isAvailable) := goodIn_app (goodIn_of _ (by decide +kernel)) ggL_law_X6_isAvailable
set_option maxRecDepth 20000 in
theorem ggL_law_L_effectiveWeight : GoodIn wsL_law wsL_effectiveWeight := goodIn_ca (goodIn_r _ [620, 133, 621, 622, 623, 2, 624, 17, 139, 140, 141, 16, 142, 143, 144, 98, 24, 625, 353, 354, 355, 292, 356, 357, 358, 359, 360, 361, 362, 363, 743, 744, 751, 752, 753, 754, 755, 756, 757, 758, 759, 760, 761, 762, 763, 764, 765, 766, 767, 768, 769, 770, 771, 772, 773, 774] (by decide +kernel) (by decide +kernel)) (goodIn_sub (fun _ h => List.mem_append_left _ (List.mem_append_right _ h)) (by decide +kernel))
set_option maxRecDepth 20000 in
theorem gL_law_L_effectiveWeight : GoodIn wsL_law (va_wsS RL 157 yL_effectiveWeight wsL_effectiveWeight) := goodIn_app (goodIn_of _ (by decide +kernel)) ggL_law_L_effectiveWeight
set_option maxRecDepth 20000 in
theorem ggL_law_X6_effectiveWeight : GoodIn wsL_law wsX6_effectiveWeight := goodIn_r _ [629, 122, 149, 150, 151, 5, 152, 72, 123, 124, 125, 439, 440, 441, 442, 745, 746, 747, 748, 749, 750] (by decide +kernel) (by decide +kernel)
set_option maxRecDepth 20000 in
theorem gL_law_X6_effectiveWeight : GoodIn wsL_law (wsV RL 159 RX6 yX6_effectiveWeight wsX6_effectiveWeight) := goodIn_app (goodIn_of _ (by decide +kernel)) ggL_law_X6_effectiveWeight
set_option maxRecDepth 20000 in
theorem ggL_law_L_active : GoodIn wsL_law wsL_active := goodIn_ca (goodIn_r _ [632, 133, 633, 634, 635, 2, 636, 17, 637, 139, 140, 141, 16, 142, 143, 144, 98, 24, 743, 744, 765, 766, 767, 768, 769, 770, 771, 772, 773, 774, 751, 752, 753, 754, 755, 756, 757, 758, 759, 760, 761, 762, 763, 764] (by decide +kernel) (by decide +kernel)) (goodIn_sub (fun _ h => List.mem_append_left _ (List.mem_append_right _ h)) (by decide +kernel))
set_option maxRecDepth 20000 in
theorem gL_law_L_active : GoodIn wsL_law (va_wsS RL 160 yL_active wsL_active) := goodIn_app (goodIn_of _ (by decide +kernel)) ggL_law_L_active
set_option maxRecDepth 20000 in
theorem ggL_law_X6_active : GoodIn wsL_law wsX6_active := goodIn_r _ [641, 122, 72, 149, 150, 151, 5, 152, 123, 124, 125, 745, 746, 747, 748, 749, 750] (by decide +kernel) (by decide +kernel)
set_option maxRecDepth 20000 in
theorem gL_law_X6_active : GoodIn wsL_law (wsV RL 162 RX6 yX6_active wsX6_active) := goodIn_app (goodIn_of _ (by decide +kernel)) ggL_law_X6_active
set_option maxRecDepth 20000 in
theorem ggL_law_L_utilization : GoodIn wsL_law wsL_utilization := goodIn_ca (goodIn_r _ [644, 133, 645, 646, 647, 2, 648, 17, 637, 649, 139, 140, 141, 16, 142, 143, 144, 98, 24, 743, 744, 765, 766, 767, 768, 769, 770, 771, 772, 773, 774, 751, 752, 753, 754, 755, 756, 757, 758, 759, 760, 761, 762, 763, 764] (by decide +kernel) (by decide +kernel)) (goodIn_sub (fun _ h => List.mem_append_left _ (List.mem_append_right _ h)) (by decide +kernel))
set_option maxRecDepth 20000 in
theorem gL_law_L_utilization : GoodIn wsL_law (va_wsS RL 163 yL_utilization wsL_utilization) := goodIn_app (goodIn_of _ (by decide +kernel)) ggL_law_L_utilization
set_option maxRecDepth 20000 in
theorem ggL_law_X6_utilization : GoodIn wsL_law wsX6_utilization := goodIn_r _ [653, 122, 72, 149, 150, 151, 5, 152, 123, 124, 125, 745, 746, 747, 748, 749, 750] (by decide +kernel) (by decide +kernel)
set_option maxRecDepth 20000 in
theorem gL_law_X6_utilization : GoodIn wsL_law (wsV RL 166 RX6 yX6_utilization wsX6_utilization) := goodIn_app (goodIn_of _ (by decide +kernel)) ggL_law_X6_utilization
set_option maxRecDepth 20000 in
theorem ggL_law_L_breaker : GoodIn wsL_law wsL_breaker := goodIn_ca (goodIn_r _ [656, 133, 657, 658, 659, 2, 660, 17, 661, 662, 139, 140, 141, 16, 142, 143, 144, 98, 24, 743, 744, 765, 766, 767, 768, 769, 770, 771, 772, 773, 774, 783, 784, 785, 786, 787, 751, 752, 753, 754, 755, 756, 757, 758, 759, 760, 761, 762, 763, 764] (by decide +kernel) (by decide +kernel)) (goodIn_sub (fun _ h => List.mem_append_left _ (List.mem_append_right _ h)) (by decide +kernel))
set_option maxRecDepth 20000 in
theorem gL_law_L_breaker : GoodIn wsL_law (va_wsS RL 167 yL_breaker wsL_breaker) := goodIn_app (goodIn_of _ (by decide +kernel)) ggL_law_L_breaker
set_option maxRecDepth 20000 in
theorem ggL_law_X6_breaker : GoodIn wsL_law wsX6_breaker := goodIn_r _ [666, 122, 72, 149, 150, 151, 5, 152, 123, 124, 125, 745, 746, 747, 748, 749, 750] (by decide +kernel) (by decide +kernel)
set_option maxRecDepth 20000 in
theorem gL_law_X6_breaker : GoodIn wsL_law (wsV RL 169 RX6 yX6_breaker wsX6_breaker) := goodIn_app (goodIn_of _ (by decide +kernel)) ggL_law_X6_breaker
set_option maxRecDepth 20000 in
theorem ggL_law_L_owner : GoodIn wsL_law wsL_owner := goodIn_ca (goodIn_r _ [669, 81, 670, 671, 672, 2, 673, 86, 87, 17, 88, 674, 374, 375, 16, 376, 98, 24, 377, 378, 379, 328, 329, 330, 26, 331, 107, 108, 105, 104, 48, 332, 333, 334, 47, 335, 115, 298, 380, 381, 382, 383, 103, 384, 385, 386, 743, 744, 751, 752, 753, 754, 755, 756, 757, 758, 759, 760, 761, 762, 763, 764, 765, 766, 767, 768, 769, 770, 771, 772, 773, 774, 783, 784, 785, 786, 787] (by decide +kernel) (by decide +kernel)) (goodIn_sub (fun _ h => List.mem_append_left _ (List.mem_append_left _ (List.mem_append_left _ (List.mem_append_right _ h)))) (by decide +kernel))
set_option maxRecDepth 20000 in
theorem gL_law_L_owner : GoodIn wsL_law (va_wsS RL 170 yL_owner wsL_owner) := goodIn_app (goodIn_of _ (by decide +kernel)) ggL_law_L_owner
set_option maxRecDepth 20000 in
theorem ggL_law_X6_owner : GoodIn wsL_law wsX6_owner := goodIn_r _ [678, 72, 122, 447, 448, 449, 5, 450, 451, 452, 453, 454, 455, 456, 457, 458, 415, 416, 417, 418, 745, 746, 747, 748, 749, 750] (by decide +kernel) (by decide +kernel)
set_option maxRecDepth 20000 in
theorem gL_law_X6_owner : GoodIn wsL_law (wsV RL 172 RX6 yX6_owner wsX6_owner) := goodIn_app (goodIn_of _ (by decide +kernel)) ggL_law_X6_owner
set_option maxRecDepth 20000 in
theorem ggL_law_L_count : GoodIn wsL_law wsL_count := goodIn_ca (goodIn_r _ [681, 80, 682, 683, 684, 2, 685, 92, 93, 17, 179, 536, 543, 474, 244, 686, 687, 688, 689, 16, 690, 98, 24, 372, 743, 744, 751, 752, 753, 754, 755, 756, 757, 758, 759, 760, 761, 762, 763, 764, 775, 776, 777, 778, 779, 780, 781, 782, 765, 766, 767, 768, 769, 770, 771, 772, 773, 774] (by decide +kernel) (by decide +kernel)) (goodIn_sub (fun _ h => List.mem_append_left _ (List.mem_append_left _ (List.mem_append_right _ h))) (by decide +kernel))
set_option maxRecDepth 20000 in
theorem gL_law_L_count : GoodIn wsL_law (va_wsS RL 173 yL_count wsL_count) := goodIn_app (goodIn_of _ (by decide +kernel)) ggL_law_L_count
set_option maxRecDepth 20000 in
theorem ggL_law_X6_count : GoodIn wsL_law wsX6_count := goodIn_r _ [694, 122, 72, 123, 124, 5, 125, 745, 746, 747, 748, 749, 750] (by decide +kernel) (by decide +kernel)
set_option maxRecDepth 20000 in
theorem gL_law_X6_count : GoodIn wsL_law (wsV RL 175 RX6 yX6_count wsX6_count) := goodIn_app (goodIn_of _ (by decide +kernel)) ggL_law_X6_count
set_option maxRecDepth 20000 in
theorem ggL_law_L_save : GoodIn wsL_law wsL_save := goodIn_ca (goodIn_r _ [697, 80, 698, 699, 700, 2, 701, 18, 14, 15, 16, 17, 89, 90, 91, 92, 93, 19, 20, 21, 22, 12, 13, 23, 24, 25, 26, 27, 28, 29, 30, 31, 32, 33, 34, 35, 36, 37, 38, 39, 40, 41, 42, 43, 44, 45, 46, 47, 48, 49, 50, 51, 52, 53, 54, 55, 56, 57, 58, 59, 60, 61, 62, 63, 64, 65, 66, 67, 702, 703, 704, 705, 98, 357, 321, 292, 706, 707, 708, 709, 710, 103, 104, 105, 106, 107, 108, 109, 110, 188, 711, 712, 713, 714, 115, 297, 298, 116, 117, 715, 716, 717, 718, 315, 719, 720, 721, 722, 723, 724, 725, 726, 249, 727, 743, 744, 751, 752, 753, 754, 755, 756, 757, 758, 759, 760, 761, 762, 763, 764, 765, 766, 767, 768, 769, 770, 771, 772, 773, 774, 775, 776, 777, 778, 779, 780, 781, 782, 783, 784, 785, 786, 787] (by decide +kernel) (by decide +kernel)) (goodIn_sub (fun _ h => List.mem_append_left _ (List.mem_append_left _ (List.mem_append_right _ h))) (by decide +kernel))
set_option maxRecDepth 20000 in
theorem gL_law_L_save : GoodIn wsL_law (va_wsS RL 176 yL_save wsL_save) := goodIn_app (goodIn_of _ (by decide +kernel)) ggL_law_L_save
set_option maxRecDepth 20000 in
theorem ggL_law_X6_save : GoodIn wsL_law wsX6_save := goodIn_r _ [731, 122, 73, 72, 74, 123, 124, 5, 125, 745, 746, 747, 748, 749, 750] (by decide +kernel) (by decide +kernel)
set_option maxRecDepth 20000 in
theorem gL_law_X6_save : GoodIn wsL_law (wsV RL 179 RX6 yX6_save wsX6_save) := goodIn_app (goodIn_of _ (by decide +kernel)) ggL_law_X6_save
set_option maxRecDepth 20000 in
theorem ggL_law_L_restore : GoodIn wsL_law wsL_restore := goodIn_ca (goodIn_ca (goodIn_r _ [734, 80, 81, 735, 736, 737, 2, 738, 86, 87, 18, 17, 89, 90, 91, 92, 93, 702, 703, 704, 16, 705, 98, 35, 36, 357, 37, 321, 38, 39, 40, 292, 706, 24, 30, 34, 707, 708, 709, 26, 710, 103, 104, 105, 106, 107, 108, 109, 110, 188, 48, 711, 712, 713, 47, 714, 115, 297, 298, 116, 117, 715, 716, 717, 29, 718, 315, 57, 719, 720, 721, 722, 58, 60, 723, 724, 725, 33, 726, 249, 65, 727, 66, 67, 743, 744, 751, 752, 753, 754, 755, 756, 757, 758, 759, 760, 761, 762, 763, 764, 765, 766, 767, 768, 769, 770, 771, 772, 773, 774, 783, 784, 785, 786, 787, 775, 776, 777, 778, 779, 780, 781, 782] (by decide +kernel) (by decide +kernel)) (goodIn_sub (fun _ h => List.mem_append_left _ (List.mem_append_left _ (List.mem_append_left _ (List.mem_append_right _ h)))) (by decide +kernel))) (goodIn_sub (fun _ h => List.mem_append_left _ (List.mem_append_left _ (List.mem_append_right _ h))) (by decide +kernel))
set_option maxRecDepth 20000 in
theorem gL_law_L_restore : GoodIn wsL_law (va_wsS RL 180 yL_restore wsL_restore) := goodIn_app (goodIn_of _ (by decide +kernel)) ggL_law_L_restore
set_option maxRecDepth 20000 in
theorem ggL_law_X6_restore : GoodIn wsL_law wsX6_restore := goodIn_r _ [742, 74, 122, 72, 73, 123, 124, 5, 125, 745, 746, 747, 748, 749, 750] (by decide +kernel) (by decide +kernel)
set_option maxRecDepth 20000 in
theorem gL_law_X6_restore : GoodIn wsL_law (wsV RL 182 RX6 yX6_restore wsX6_restore) := goodIn_app (goodIn_of _ (by decide +kernel)) ggL_law_X6_restore
theorem dL_law_0 : decode cL_law 0 = .ok (.new 8, 3) := by decide +kernel
theorem dL_law_3 : decode cL_law 3 = .ok (.dup, 1) := by decide +kernel
theorem dL_law_4 : decode cL_law 4 = .ok (.invokespecial 89, 3) := by decide +kernel
theorem dL_law_7 : decode cL_law 7 = .ok (.astore_n 1, 1) := by decide +kernel
theorem dL_law_8 : decode cL_law 8 = .ok (.new 90, 3) := by decide +kernel
theorem dL_law_11 : decode cL_law 11 = .ok (.dup, 1) := by decide +kernel
theorem dL_law_12 : decode cL_law 12 = .ok (.invokespecial 92, 3) := by decide +kernel
theorem dL_law_15 : decode cL_law 15 = .ok (.astore_n 2, 1) := by decide +kernel
theorem dL_law_16 : decode cL_law 16 = .ok (.iconst 1, 1) := by decide +kernel
theorem dL_law_17 : decode cL_law 17 = .ok (.newarray .long, 2) := by decide +kernel
theorem dL_law_19 : decode cL_law 19 = .ok (.astore_n 3, 1) := by decide +kernel
theorem dL_law_20 : decode cL_law 20 = .ok (.iconst 1, 1) := by decide +kernel
theorem dL_law_21 : decode cL_law 21 = .ok (.newarray .double, 2) := by decide +kernel
theorem dL_law_23 : decode cL_law 23 = .ok (.astore 4, 2) := by decide +kernel
theorem dL_law_25 : decode cL_law 25 = .ok (.iconst 0, 1) := by decide +kernel
theorem dL_law_26 : decode cL_law 26 = .ok (.istore 5, 2) := by decide +kernel
theorem dL_law_28 : decode cL_law 28 = .ok (.iload 5, 2) := by decide +kernel
theorem dL_law_30 : decode cL_law 30 = .ok (.aload_n 0, 1) := by decide +kernel
theorem dL_law_31 : decode cL_law 31 = .ok (.arraylength, 1) := by decide +kernel
theorem dL_law_32 : decode cL_law 32 = .ok (.iconst 3, 1) := by decide +kernel
theorem dL_law_33 : decode cL_law 33 = .ok (.isub, 1) := by decide +kernel
theorem dL_law_34 : decode cL_law 34 = .ok (.if_icmp .gt 1529, 3) := by decide +kernel
theorem dL_law_37 : decode cL_law 37 = .ok (.aload_n 0, 1) := by decide +kernel
theorem dL_law_38 : decode cL_law 38 = .ok (.iload 5, 2) := by decide +kernel
theorem dL_law_40 : decode cL_law 40 = .ok (.iaload, 1) := by decide +kernel
theorem dL_law_41 : decode cL_law 41 = .ok (.bipush 31, 2) := by decide +kernel
theorem dL_law_43 : decode cL_law 43 = .ok (.iand, 1) := by decide +kernel
theorem dL_law_44 : decode cL_law 44 = .ok (.tableswitch 1513 0 24 #[116, 184, 252, 343, 434, 447, 495, 551, 607, 663, 719, 744, 800, 825, 881, 965, 1021, 1084, 1140, 1196, 1273, 1329, 1385, 1441, 1477], 116) := by decide +kernel
theorem dL_law_160 : decode cL_law 160 = .ok (.aload_n 1, 1) := by decide +kernel
theorem dL_law_161 : decode cL_law 161 = .ok (.aload_n 0, 1) := by decide +kernel
theorem dL_law_162 : decode cL_law 162 = .ok (.iload 5, 2) := by decide +kernel
theorem dL_law_164 : decode cL_law 164 = .ok (.iconst 1, 1) := by decide +kernel
theorem dL_law_165 : decode cL_law 165 = .ok (.iadd, 1) := by decide +kernel
theorem dL_law_166 : decode cL_law 166 = .ok (.iaload, 1) := by decide +kernel
theorem dL_law_167 : decode cL_law 167 = .ok (.aload_n 0, 1) := by decide +kernel
theorem dL_law_168 : decode cL_law 168 = .ok (.iload 5, 2) := by decide +kernel
theorem dL_law_170 : decode cL_law 170 = .ok (.iconst 2, 1) := by decide +kernel
theorem dL_law_171 : decode cL_law 171 = .ok (.iadd, 1) := by decide +kernel
theorem dL_law_172 : decode cL_law 172 = .ok (.iaload, 1) := by decide +kernel
theorem dL_law_173 : decode cL_law 173 = .ok (.aload_n 3, 1) := by decide +kernel
theorem dL_law_174 : decode cL_law 174 = .ok (.invokestatic 93, 3) := by decide +kernel
theorem dL_law_177 : decode cL_law 177 = .ok (.istore 6, 2) := by decide +kernel
theorem dL_law_179 : decode cL_law 179 = .ok (.aload_n 2, 1) := by decide +kernel
theorem dL_law_180 : decode cL_law 180 = .ok (.aload_n 0, 1) := by decide +kernel
theorem dL_law_181 : decode cL_law 181 = .ok (.iload 5, 2) := by decide +kernel
theorem dL_law_183 : decode cL_law 183 = .ok (.iconst 1, 1) := by decide +kernel
theorem dL_law_184 : decode cL_law 184 = .ok (.iadd, 1) := by decide +kernel
theorem dL_law_185 : decode cL_law 185 = .ok (.iaload, 1) := by decide +kernel
theorem dL_law_186 : decode cL_law 186 = .ok (.aload_n 0, 1) := by decide +kernel
theorem dL_law_187 : decode cL_law 187 = .ok (.iload 5, 2) := by decide +kernel
theorem dL_law_189 : decode cL_law 189 = .ok (.iconst 2, 1) := by decide +kernel
theorem dL_law_190 : decode cL_law 190 = .ok (.iadd, 1) := by decide +kernel
theorem dL_law_191 : decode cL_law 191 = .ok (.iaload, 1) := by decide +kernel
theorem dL_law_192 : decode cL_law 192 = .ok (.invokevirtual 98, 3) := by decide +kernel
theorem dL_law_195 : decode cL_law 195 = .ok (.istore 7, 2) := by decide +kernel
theorem dL_law_197 : decode cL_law 197 = .ok (.aload_n 2, 1) := by decide +kernel
theorem dL_law_198 : decode cL_law 198 = .ok (.invokevirtual 99, 3) := by decide +kernel
theorem dL_law_201 : decode cL_law 201 = .ok (.iload 6, 2) := by decide +kernel
theorem dL_law_203 : decode cL_law 203 = .ok (.if_icmp .eq 5, 3) := by decide +kernel
theorem dL_law_206 : decode cL_law 206 = .ok (.iconst 0, 1) := by decide +kernel
theorem dL_law_207 : decode cL_law 207 = .ok (.ireturn, 1) := by decide +kernel
theorem dL_law_208 : decode cL_law 208 = .ok (.iload 6, 2) := by decide +kernel
theorem dL_law_210 : decode cL_law 210 = .ok (.ifCond .ne 15, 3) := by decide +kernel
theorem dL_law_213 : decode cL_law 213 = .ok (.aload_n 3, 1) := by decide +kernel
theorem dL_law_214 : decode cL_law 214 = .ok (.iconst 0, 1) := by decide +kernel
theorem dL_law_215 : decode cL_law 215 = .ok (.laload, 1) := by decide +kernel
theorem dL_law_216 : decode cL_law 216 = .ok (.iload 7, 2) := by decide +kernel
theorem dL_law_218 : decode cL_law 218 = .ok (.i2l, 1) := by decide +kernel
theorem dL_law_219 : decode cL_law 219 = .ok (.lcmp, 1) := by decide +kernel
theorem dL_law_220 : decode cL_law 220 = .ok (.ifCond .eq 5, 3) := by decide +kernel
theorem dL_law_223 : decode cL_law 223 = .ok (.iconst 0, 1) := by decide +kernel
theorem dL_law_224 : decode cL_law 224 = .ok (.ireturn, 1) := by decide +kernel
theorem dL_law_225 : decode cL_law 225 = .ok (.goto 1332, 3) := by decide +kernel
theorem dL_law_228 : decode cL_law 228 = .ok (.aload_n 1, 1) := by decide +kernel
theorem dL_law_229 : decode cL_law 229 = .ok (.aload_n 0, 1) := by decide +kernel
theorem dL_law_230 : decode cL_law 230 = .ok (.iload 5, 2) := by decide +kernel
theorem dL_law_232 : decode cL_law 232 = .ok (.iconst 1, 1) := by decide +kernel
theorem dL_law_233 : decode cL_law 233 = .ok (.iadd, 1) := by decide +kernel
theorem dL_law_234 : decode cL_law 234 = .ok (.iaload, 1) := by decide +kernel
theorem dL_law_235 : decode cL_law 235 = .ok (.aload_n 0, 1) := by decide +kernel
theorem dL_law_236 : decode cL_law 236 = .ok (.iload 5, 2) := by decide +kernel
theorem dL_law_238 : decode cL_law 238 = .ok (.iconst 2, 1) := by decide +kernel
theorem dL_law_239 : decode cL_law 239 = .ok (.iadd, 1) := by decide +kernel
theorem dL_law_240 : decode cL_law 240 = .ok (.iaload, 1) := by decide +kernel
theorem dL_law_241 : decode cL_law 241 = .ok (.aload_n 3, 1) := by decide +kernel
theorem dL_law_242 : decode cL_law 242 = .ok (.invokestatic 103, 3) := by decide +kernel
theorem dL_law_245 : decode cL_law 245 = .ok (.istore 6, 2) := by decide +kernel
theorem dL_law_247 : decode cL_law 247 = .ok (.aload_n 2, 1) := by decide +kernel
theorem dL_law_248 : decode cL_law 248 = .ok (.aload_n 0, 1) := by decide +kernel
theorem dL_law_249 : decode cL_law 249 = .ok (.iload 5, 2) := by decide +kernel
theorem dL_law_251 : decode cL_law 251 = .ok (.iconst 1, 1) := by decide +kernel
theorem dL_law_252 : decode cL_law 252 = .ok (.iadd, 1) := by decide +kernel
theorem dL_law_253 : decode cL_law 253 = .ok (.iaload, 1) := by decide +kernel
theorem dL_law_254 : decode cL_law 254 = .ok (.aload_n 0, 1) := by decide +kernel
theorem dL_law_255 : decode cL_law 255 = .ok (.iload 5, 2) := by decide +kernel
theorem dL_law_257 : decode cL_law 257 = .ok (.iconst 2, 1) := by decide +kernel
theorem dL_law_258 : decode cL_law 258 = .ok (.iadd, 1) := by decide +kernel
theorem dL_law_259 : decode cL_law 259 = .ok (.iaload, 1) := by decide +kernel
theorem dL_law_260 : decode cL_law 260 = .ok (.invokevirtual 105, 3) := by decide +kernel
theorem dL_law_263 : decode cL_law 263 = .ok (.istore 7, 2) := by decide +kernel
theorem dL_law_265 : decode cL_law 265 = .ok (.aload_n 2, 1) := by decide +kernel
theorem dL_law_266 : decode cL_law 266 = .ok (.invokevirtual 99, 3) := by decide +kernel
theorem dL_law_269 : decode cL_law 269 = .ok (.iload 6, 2) := by decide +kernel
theorem dL_law_271 : decode cL_law 271 = .ok (.if_icmp .eq 5, 3) := by decide +kernel
theorem dL_law_274 : decode cL_law 274 = .ok (.iconst 0, 1) := by decide +kernel
theorem dL_law_275 : decode cL_law 275 = .ok (.ireturn, 1) := by decide +kernel
theorem dL_law_276 : decode cL_law 276 = .ok (.iload 6, 2) := by decide +kernel
theorem dL_law_278 : decode cL_law 278 = .ok (.ifCond .ne 15, 3) := by decide +kernel
theorem dL_law_281 : decode cL_law 281 = .ok (.aload_n 3, 1) := by decide +kernel
theorem dL_law_282 : decode cL_law 282 = .ok (.iconst 0, 1) := by decide +kernel
theorem dL_law_283 : decode cL_law 283 = .ok (.laload, 1) := by decide +kernel
theorem dL_law_284 : decode cL_law 284 = .ok (.iload 7, 2) := by decide +kernel
theorem dL_law_286 : decode cL_law 286 = .ok (.i2l, 1) := by decide +kernel
theorem dL_law_287 : decode cL_law 287 = .ok (.lcmp, 1) := by decide +kernel
theorem dL_law_288 : decode cL_law 288 = .ok (.ifCond .eq 5, 3) := by decide +kernel
theorem dL_law_291 : decode cL_law 291 = .ok (.iconst 0, 1) := by decide +kernel
theorem dL_law_292 : decode cL_law 292 = .ok (.ireturn, 1) := by decide +kernel
theorem dL_law_293 : decode cL_law 293 = .ok (.goto 1264, 3) := by decide +kernel
theorem dL_law_296 : decode cL_law 296 = .ok (.aload_n 1, 1) := by decide +kernel
theorem dL_law_297 : decode cL_law 297 = .ok (.aload_n 0, 1) := by decide +kernel
theorem dL_law_298 : decode cL_law 298 = .ok (.iload 5, 2) := by decide +kernel
theorem dL_law_300 : decode cL_law 300 = .ok (.iconst 1, 1) := by decide +kernel
theorem dL_law_301 : decode cL_law 301 = .ok (.iadd, 1) := by decide +kernel
theorem dL_law_302 : decode cL_law 302 = .ok (.iaload, 1) := by decide +kernel
theorem dL_law_303 : decode cL_law 303 = .ok (.aload_n 0, 1) := by decide +kernel
theorem dL_law_304 : decode cL_law 304 = .ok (.iload 5, 2) := by decide +kernel
theorem dL_law_306 : decode cL_law 306 = .ok (.iconst 2, 1) := by decide +kernel
theorem dL_law_307 : decode cL_law 307 = .ok (.iadd, 1) := by decide +kernel
theorem dL_law_308 : decode cL_law 308 = .ok (.iaload, 1) := by decide +kernel
theorem dL_law_309 : decode cL_law 309 = .ok (.ifCond .eq 7, 3) := by decide +kernel
theorem dL_law_312 : decode cL_law 312 = .ok (.iconst 1, 1) := by decide +kernel
theorem dL_law_313 : decode cL_law 313 = .ok (.goto 4, 3) := by decide +kernel
theorem dL_law_316 : decode cL_law 316 = .ok (.iconst 0, 1) := by decide +kernel
theorem dL_law_317 : decode cL_law 317 = .ok (.aload_n 3, 1) := by decide +kernel
theorem dL_law_318 : decode cL_law 318 = .ok (.invokestatic 106, 3) := by decide +kernel
theorem dL_law_321 : decode cL_law 321 = .ok (.istore 6, 2) := by decide +kernel
theorem dL_law_323 : decode cL_law 323 = .ok (.aload_n 2, 1) := by decide +kernel
theorem dL_law_324 : decode cL_law 324 = .ok (.aload_n 0, 1) := by decide +kernel
theorem dL_law_325 : decode cL_law 325 = .ok (.iload 5, 2) := by decide +kernel
theorem dL_law_327 : decode cL_law 327 = .ok (.iconst 1, 1) := by decide +kernel
theorem dL_law_328 : decode cL_law 328 = .ok (.iadd, 1) := by decide +kernel
theorem dL_law_329 : decode cL_law 329 = .ok (.iaload, 1) := by decide +kernel
theorem dL_law_330 : decode cL_law 330 = .ok (.aload_n 0, 1) := by decide +kernel
theorem dL_law_331 : decode cL_law 331 = .ok (.iload 5, 2) := by decide +kernel
theorem dL_law_333 : decode cL_law 333 = .ok (.iconst 2, 1) := by decide +kernel
theorem dL_law_334 : decode cL_law 334 = .ok (.iadd, 1) := by decide +kernel
theorem dL_law_335 : decode cL_law 335 = .ok (.iaload, 1) := by decide +kernel
theorem dL_law_336 : decode cL_law 336 = .ok (.ifCond .eq 7, 3) := by decide +kernel
theorem dL_law_339 : decode cL_law 339 = .ok (.iconst 1, 1) := by decide +kernel
theorem dL_law_340 : decode cL_law 340 = .ok (.goto 4, 3) := by decide +kernel
theorem dL_law_343 : decode cL_law 343 = .ok (.iconst 0, 1) := by decide +kernel
theorem dL_law_344 : decode cL_law 344 = .ok (.invokevirtual 109, 3) := by decide +kernel
theorem dL_law_347 : decode cL_law 347 = .ok (.istore 7, 2) := by decide +kernel
theorem dL_law_349 : decode cL_law 349 = .ok (.aload_n 2, 1) := by decide +kernel
theorem dL_law_350 : decode cL_law 350 = .ok (.invokevirtual 99, 3) := by decide +kernel
theorem dL_law_353 : decode cL_law 353 = .ok (.iload 6, 2) := by decide +kernel
theorem dL_law_355 : decode cL_law 355 = .ok (.if_icmp .eq 5, 3) := by decide +kernel
theorem dL_law_358 : decode cL_law 358 = .ok (.iconst 0, 1) := by decide +kernel
theorem dL_law_359 : decode cL_law 359 = .ok (.ireturn, 1) := by decide +kernel
theorem dL_law_360 : decode cL_law 360 = .ok (.iload 6, 2) := by decide +kernel
theorem dL_law_362 : decode cL_law 362 = .ok (.ifCond .ne 22, 3) := by decide +kernel
theorem dL_law_365 : decode cL_law 365 = .ok (.aload_n 3, 1) := by decide +kernel
theorem dL_law_366 : decode cL_law 366 = .ok (.iconst 0, 1) := by decide +kernel
theorem dL_law_367 : decode cL_law 367 = .ok (.laload, 1) := by decide +kernel
theorem dL_law_368 : decode cL_law 368 = .ok (.iload 7, 2) := by decide +kernel
theorem dL_law_370 : decode cL_law 370 = .ok (.ifCond .eq 7, 3) := by decide +kernel
theorem dL_law_373 : decode cL_law 373 = .ok (.lconst 1, 1) := by decide +kernel
theorem dL_law_374 : decode cL_law 374 = .ok (.goto 4, 3) := by decide +kernel
theorem dL_law_377 : decode cL_law 377 = .ok (.lconst 0, 1) := by decide +kernel
theorem dL_law_378 : decode cL_law 378 = .ok (.lcmp, 1) := by decide +kernel
theorem dL_law_379 : decode cL_law 379 = .ok (.ifCond .eq 5, 3) := by decide +kernel
theorem dL_law_382 : decode cL_law 382 = .ok (.iconst 0, 1) := by decide +kernel
theorem dL_law_383 : decode cL_law 383 = .ok (.ireturn, 1) := by decide +kernel
theorem dL_law_384 : decode cL_law 384 = .ok (.goto 1173, 3) := by decide +kernel
theorem dL_law_387 : decode cL_law 387 = .ok (.aload_n 1, 1) := by decide +kernel
theorem dL_law_388 : decode cL_law 388 = .ok (.aload_n 0, 1) := by decide +kernel
theorem dL_law_389 : decode cL_law 389 = .ok (.iload 5, 2) := by decide +kernel
theorem dL_law_391 : decode cL_law 391 = .ok (.iconst 1, 1) := by decide +kernel
theorem dL_law_392 : decode cL_law 392 = .ok (.iadd, 1) := by decide +kernel
theorem dL_law_393 : decode cL_law 393 = .ok (.iaload, 1) := by decide +kernel
theorem dL_law_394 : decode cL_law 394 = .ok (.aload_n 0, 1) := by decide +kernel
theorem dL_law_395 : decode cL_law 395 = .ok (.iload 5, 2) := by decide +kernel
theorem dL_law_397 : decode cL_law 397 = .ok (.iconst 2, 1) := by decide +kernel
theorem dL_law_398 : decode cL_law 398 = .ok (.iadd, 1) := by decide +kernel
theorem dL_law_399 : decode cL_law 399 = .ok (.iaload, 1) := by decide +kernel
theorem dL_law_400 : decode cL_law 400 = .ok (.ifCond .eq 7, 3) := by decide +kernel
theorem dL_law_403 : decode cL_law 403 = .ok (.iconst 1, 1) := by decide +kernel
theorem dL_law_404 : decode cL_law 404 = .ok (.goto 4, 3) := by decide +kernel
theorem dL_law_407 : decode cL_law 407 = .ok (.iconst 0, 1) := by decide +kernel
theorem dL_law_408 : decode cL_law 408 = .ok (.aload_n 3, 1) := by decide +kernel
theorem dL_law_409 : decode cL_law 409 = .ok (.invokestatic 110, 3) := by decide +kernel
theorem dL_law_412 : decode cL_law 412 = .ok (.istore 6, 2) := by decide +kernel
theorem dL_law_414 : decode cL_law 414 = .ok (.aload_n 2, 1) := by decide +kernel
theorem dL_law_415 : decode cL_law 415 = .ok (.aload_n 0, 1) := by decide +kernel
theorem dL_law_416 : decode cL_law 416 = .ok (.iload 5, 2) := by decide +kernel
theorem dL_law_418 : decode cL_law 418 = .ok (.iconst 1, 1) := by decide +kernel
theorem dL_law_419 : decode cL_law 419 = .ok (.iadd, 1) := by decide +kernel
theorem dL_law_420 : decode cL_law 420 = .ok (.iaload, 1) := by decide +kernel
theorem dL_law_421 : decode cL_law 421 = .ok (.aload_n 0, 1) := by decide +kernel
theorem dL_law_422 : decode cL_law 422 = .ok (.iload 5, 2) := by decide +kernel
theorem dL_law_424 : decode cL_law 424 = .ok (.iconst 2, 1) := by decide +kernel
theorem dL_law_425 : decode cL_law 425 = .ok (.iadd, 1) := by decide +kernel
theorem dL_law_426 : decode cL_law 426 = .ok (.iaload, 1) := by decide +kernel
theorem dL_law_427 : decode cL_law 427 = .ok (.ifCond .eq 7, 3) := by decide +kernel
theorem dL_law_430 : decode cL_law 430 = .ok (.iconst 1, 1) := by decide +kernel
theorem dL_law_431 : decode cL_law 431 = .ok (.goto 4, 3) := by decide +kernel
theorem dL_law_434 : decode cL_law 434 = .ok (.iconst 0, 1) := by decide +kernel
theorem dL_law_435 : decode cL_law 435 = .ok (.invokevirtual 112, 3) := by decide +kernel
theorem dL_law_438 : decode cL_law 438 = .ok (.istore 7, 2) := by decide +kernel
theorem dL_law_440 : decode cL_law 440 = .ok (.aload_n 2, 1) := by decide +kernel
theorem dL_law_441 : decode cL_law 441 = .ok (.invokevirtual 99, 3) := by decide +kernel
theorem dL_law_444 : decode cL_law 444 = .ok (.iload 6, 2) := by decide +kernel
theorem dL_law_446 : decode cL_law 446 = .ok (.if_icmp .eq 5, 3) := by decide +kernel
theorem dL_law_449 : decode cL_law 449 = .ok (.iconst 0, 1) := by decide +kernel
theorem dL_law_450 : decode cL_law 450 = .ok (.ireturn, 1) := by decide +kernel
theorem dL_law_451 : decode cL_law 451 = .ok (.iload 6, 2) := by decide +kernel
theorem dL_law_453 : decode cL_law 453 = .ok (.ifCond .ne 22, 3) := by decide +kernel
theorem dL_law_456 : decode cL_law 456 = .ok (.aload_n 3, 1) := by decide +kernel
theorem dL_law_457 : decode cL_law 457 = .ok (.iconst 0, 1) := by decide +kernel
theorem dL_law_458 : decode cL_law 458 = .ok (.laload, 1) := by decide +kernel
theorem dL_law_459 : decode cL_law 459 = .ok (.iload 7, 2) := by decide +kernel
theorem dL_law_461 : decode cL_law 461 = .ok (.ifCond .eq 7, 3) := by decide +kernel
theorem dL_law_464 : decode cL_law 464 = .ok (.lconst 1, 1) := by decide +kernel
theorem dL_law_465 : decode cL_law 465 = .ok (.goto 4, 3) := by decide +kernel
theorem dL_law_468 : decode cL_law 468 = .ok (.lconst 0, 1) := by decide +kernel
theorem dL_law_469 : decode cL_law 469 = .ok (.lcmp, 1) := by decide +kernel
theorem dL_law_470 : decode cL_law 470 = .ok (.ifCond .eq 5, 3) := by decide +kernel
theorem dL_law_473 : decode cL_law 473 = .ok (.iconst 0, 1) := by decide +kernel
theorem dL_law_474 : decode cL_law 474 = .ok (.ireturn, 1) := by decide +kernel
theorem dL_law_475 : decode cL_law 475 = .ok (.goto 1082, 3) := by decide +kernel
theorem dL_law_478 : decode cL_law 478 = .ok (.aload_n 1, 1) := by decide +kernel
theorem dL_law_479 : decode cL_law 479 = .ok (.invokevirtual 113, 3) := by decide +kernel
theorem dL_law_482 : decode cL_law 482 = .ok (.aload_n 2, 1) := by decide +kernel
theorem dL_law_483 : decode cL_law 483 = .ok (.invokevirtual 116, 3) := by decide +kernel
theorem dL_law_486 : decode cL_law 486 = .ok (.if_icmp .eq 1071, 3) := by decide +kernel
theorem dL_law_489 : decode cL_law 489 = .ok (.iconst 0, 1) := by decide +kernel
theorem dL_law_490 : decode cL_law 490 = .ok (.ireturn, 1) := by decide +kernel
theorem dL_law_491 : decode cL_law 491 = .ok (.aload_n 1, 1) := by decide +kernel
theorem dL_law_492 : decode cL_law 492 = .ok (.aload_n 0, 1) := by decide +kernel
theorem dL_law_493 : decode cL_law 493 = .ok (.iload 5, 2) := by decide +kernel
theorem dL_law_495 : decode cL_law 495 = .ok (.iconst 1, 1) := by decide +kernel
theorem dL_law_496 : decode cL_law 496 = .ok (.iadd, 1) := by decide +kernel
theorem dL_law_497 : decode cL_law 497 = .ok (.iaload, 1) := by decide +kernel
theorem dL_law_498 : decode cL_law 498 = .ok (.aload_n 0, 1) := by decide +kernel
theorem dL_law_499 : decode cL_law 499 = .ok (.iload 5, 2) := by decide +kernel
theorem dL_law_501 : decode cL_law 501 = .ok (.iconst 2, 1) := by decide +kernel
theorem dL_law_502 : decode cL_law 502 = .ok (.iadd, 1) := by decide +kernel
theorem dL_law_503 : decode cL_law 503 = .ok (.iaload, 1) := by decide +kernel
theorem dL_law_504 : decode cL_law 504 = .ok (.invokestatic 117, 3) := by decide +kernel
theorem dL_law_507 : decode cL_law 507 = .ok (.istore 6, 2) := by decide +kernel
theorem dL_law_509 : decode cL_law 509 = .ok (.aload_n 2, 1) := by decide +kernel
theorem dL_law_510 : decode cL_law 510 = .ok (.aload_n 0, 1) := by decide +kernel
theorem dL_law_511 : decode cL_law 511 = .ok (.iload 5, 2) := by decide +kernel
theorem dL_law_513 : decode cL_law 513 = .ok (.iconst 1, 1) := by decide +kernel
theorem dL_law_514 : decode cL_law 514 = .ok (.iadd, 1) := by decide +kernel
theorem dL_law_515 : decode cL_law 515 = .ok (.iaload, 1) := by decide +kernel
theorem dL_law_516 : decode cL_law 516 = .ok (.aload_n 0, 1) := by decide +kernel
theorem dL_law_517 : decode cL_law 517 = .ok (.iload 5, 2) := by decide +kernel
theorem dL_law_519 : decode cL_law 519 = .ok (.iconst 2, 1) := by decide +kernel
theorem dL_law_520 : decode cL_law 520 = .ok (.iadd, 1) := by decide +kernel
theorem dL_law_521 : decode cL_law 521 = .ok (.iaload, 1) := by decide +kernel
theorem dL_law_522 : decode cL_law 522 = .ok (.invokevirtual 120, 3) := by decide +kernel
theorem dL_law_525 : decode cL_law 525 = .ok (.aload_n 2, 1) := by decide +kernel
theorem dL_law_526 : decode cL_law 526 = .ok (.invokevirtual 99, 3) := by decide +kernel
theorem dL_law_529 : decode cL_law 529 = .ok (.iload 6, 2) := by decide +kernel
theorem dL_law_531 : decode cL_law 531 = .ok (.if_icmp .eq 5, 3) := by decide +kernel
theorem dL_law_534 : decode cL_law 534 = .ok (.iconst 0, 1) := by decide +kernel
theorem dL_law_535 : decode cL_law 535 = .ok (.ireturn, 1) := by decide +kernel
theorem dL_law_536 : decode cL_law 536 = .ok (.goto 1021, 3) := by decide +kernel
theorem dL_law_539 : decode cL_law 539 = .ok (.aload_n 1, 1) := by decide +kernel
theorem dL_law_540 : decode cL_law 540 = .ok (.aload_n 0, 1) := by decide +kernel
theorem dL_law_541 : decode cL_law 541 = .ok (.iload 5, 2) := by decide +kernel
theorem dL_law_543 : decode cL_law 543 = .ok (.iconst 1, 1) := by decide +kernel
theorem dL_law_544 : decode cL_law 544 = .ok (.iadd, 1) := by decide +kernel
theorem dL_law_545 : decode cL_law 545 = .ok (.iaload, 1) := by decide +kernel
theorem dL_law_546 : decode cL_law 546 = .ok (.aload_n 3, 1) := by decide +kernel
theorem dL_law_547 : decode cL_law 547 = .ok (.invokestatic 121, 3) := by decide +kernel
theorem dL_law_550 : decode cL_law 550 = .ok (.istore 6, 2) := by decide +kernel
theorem dL_law_552 : decode cL_law 552 = .ok (.aload_n 2, 1) := by decide +kernel
theorem dL_law_553 : decode cL_law 553 = .ok (.aload_n 0, 1) := by decide +kernel
theorem dL_law_554 : decode cL_law 554 = .ok (.iload 5, 2) := by decide +kernel
theorem dL_law_556 : decode cL_law 556 = .ok (.iconst 1, 1) := by decide +kernel
theorem dL_law_557 : decode cL_law 557 = .ok (.iadd, 1) := by decide +kernel
theorem dL_law_558 : decode cL_law 558 = .ok (.iaload, 1) := by decide +kernel
theorem dL_law_559 : decode cL_law 559 = .ok (.invokevirtual 124, 3) := by decide +kernel
theorem dL_law_562 : decode cL_law 562 = .ok (.istore 7, 2) := by decide +kernel
theorem dL_law_564 : decode cL_law 564 = .ok (.aload_n 2, 1) := by decide +kernel
theorem dL_law_565 : decode cL_law 565 = .ok (.invokevirtual 99, 3) := by decide +kernel
theorem dL_law_568 : decode cL_law 568 = .ok (.iload 6, 2) := by decide +kernel
theorem dL_law_570 : decode cL_law 570 = .ok (.if_icmp .eq 5, 3) := by decide +kernel
theorem dL_law_573 : decode cL_law 573 = .ok (.iconst 0, 1) := by decide +kernel
theorem dL_law_574 : decode cL_law 574 = .ok (.ireturn, 1) := by decide +kernel
theorem dL_law_575 : decode cL_law 575 = .ok (.iload 6, 2) := by decide +kernel
theorem dL_law_577 : decode cL_law 577 = .ok (.ifCond .ne 15, 3) := by decide +kernel
theorem dL_law_580 : decode cL_law 580 = .ok (.aload_n 3, 1) := by decide +kernel
theorem dL_law_581 : decode cL_law 581 = .ok (.iconst 0, 1) := by decide +kernel
theorem dL_law_582 : decode cL_law 582 = .ok (.laload, 1) := by decide +kernel
theorem dL_law_583 : decode cL_law 583 = .ok (.iload 7, 2) := by decide +kernel
theorem dL_law_585 : decode cL_law 585 = .ok (.i2l, 1) := by decide +kernel
theorem dL_law_586 : decode cL_law 586 = .ok (.lcmp, 1) := by decide +kernel
theorem dL_law_587 : decode cL_law 587 = .ok (.ifCond .eq 5, 3) := by decide +kernel
theorem dL_law_590 : decode cL_law 590 = .ok (.iconst 0, 1) := by decide +kernel
theorem dL_law_591 : decode cL_law 591 = .ok (.ireturn, 1) := by decide +kernel
theorem dL_law_592 : decode cL_law 592 = .ok (.goto 965, 3) := by decide +kernel
theorem dL_law_595 : decode cL_law 595 = .ok (.aload_n 1, 1) := by decide +kernel
theorem dL_law_596 : decode cL_law 596 = .ok (.aload_n 0, 1) := by decide +kernel
theorem dL_law_597 : decode cL_law 597 = .ok (.iload 5, 2) := by decide +kernel
theorem dL_law_599 : decode cL_law 599 = .ok (.iconst 1, 1) := by decide +kernel
theorem dL_law_600 : decode cL_law 600 = .ok (.iadd, 1) := by decide +kernel
theorem dL_law_601 : decode cL_law 601 = .ok (.iaload, 1) := by decide +kernel
theorem dL_law_602 : decode cL_law 602 = .ok (.aload_n 3, 1) := by decide +kernel
theorem dL_law_603 : decode cL_law 603 = .ok (.invokestatic 125, 3) := by decide +kernel
theorem dL_law_606 : decode cL_law 606 = .ok (.istore 6, 2) := by decide +kernel
theorem dL_law_608 : decode cL_law 608 = .ok (.aload_n 2, 1) := by decide +kernel
theorem dL_law_609 : decode cL_law 609 = .ok (.aload_n 0, 1) := by decide +kernel
theorem dL_law_610 : decode cL_law 610 = .ok (.iload 5, 2) := by decide +kernel
theorem dL_law_612 : decode cL_law 612 = .ok (.iconst 1, 1) := by decide +kernel
theorem dL_law_613 : decode cL_law 613 = .ok (.iadd, 1) := by decide +kernel
theorem dL_law_614 : decode cL_law 614 = .ok (.iaload, 1) := by decide +kernel
theorem dL_law_615 : decode cL_law 615 = .ok (.invokevirtual 127, 3) := by decide +kernel
theorem dL_law_618 : decode cL_law 618 = .ok (.istore 7, 2) := by decide +kernel
theorem dL_law_620 : decode cL_law 620 = .ok (.aload_n 2, 1) := by decide +kernel
theorem dL_law_621 : decode cL_law 621 = .ok (.invokevirtual 99, 3) := by decide +kernel
theorem dL_law_624 : decode cL_law 624 = .ok (.iload 6, 2) := by decide +kernel
theorem dL_law_626 : decode cL_law 626 = .ok (.if_icmp .eq 5, 3) := by decide +kernel
theorem dL_law_629 : decode cL_law 629 = .ok (.iconst 0, 1) := by decide +kernel
theorem dL_law_630 : decode cL_law 630 = .ok (.ireturn, 1) := by decide +kernel
theorem dL_law_631 : decode cL_law 631 = .ok (.iload 6, 2) := by decide +kernel
theorem dL_law_633 : decode cL_law 633 = .ok (.ifCond .ne 15, 3) := by decide +kernel
theorem dL_law_636 : decode cL_law 636 = .ok (.aload_n 3, 1) := by decide +kernel
theorem dL_law_637 : decode cL_law 637 = .ok (.iconst 0, 1) := by decide +kernel
theorem dL_law_638 : decode cL_law 638 = .ok (.laload, 1) := by decide +kernel
theorem dL_law_639 : decode cL_law 639 = .ok (.iload 7, 2) := by decide +kernel
theorem dL_law_641 : decode cL_law 641 = .ok (.i2l, 1) := by decide +kernel
theorem dL_law_642 : decode cL_law 642 = .ok (.lcmp, 1) := by decide +kernel
theorem dL_law_643 : decode cL_law 643 = .ok (.ifCond .eq 5, 3) := by decide +kernel
theorem dL_law_646 : decode cL_law 646 = .ok (.iconst 0, 1) := by decide +kernel
theorem dL_law_647 : decode cL_law 647 = .ok (.ireturn, 1) := by decide +kernel
theorem dL_law_648 : decode cL_law 648 = .ok (.goto 909, 3) := by decide +kernel
theorem dL_law_651 : decode cL_law 651 = .ok (.aload_n 1, 1) := by decide +kernel
theorem dL_law_652 : decode cL_law 652 = .ok (.aload_n 0, 1) := by decide +kernel
theorem dL_law_653 : decode cL_law 653 = .ok (.iload 5, 2) := by decide +kernel
theorem dL_law_655 : decode cL_law 655 = .ok (.iconst 1, 1) := by decide +kernel
theorem dL_law_656 : decode cL_law 656 = .ok (.iadd, 1) := by decide +kernel
theorem dL_law_657 : decode cL_law 657 = .ok (.iaload, 1) := by decide +kernel
theorem dL_law_658 : decode cL_law 658 = .ok (.aload_n 3, 1) := by decide +kernel
theorem dL_law_659 : decode cL_law 659 = .ok (.invokestatic 128, 3) := by decide +kernel
theorem dL_law_662 : decode cL_law 662 = .ok (.istore 6, 2) := by decide +kernel
theorem dL_law_664 : decode cL_law 664 = .ok (.aload_n 2, 1) := by decide +kernel
theorem dL_law_665 : decode cL_law 665 = .ok (.aload_n 0, 1) := by decide +kernel
theorem dL_law_666 : decode cL_law 666 = .ok (.iload 5, 2) := by decide +kernel
theorem dL_law_668 : decode cL_law 668 = .ok (.iconst 1, 1) := by decide +kernel
theorem dL_law_669 : decode cL_law 669 = .ok (.iadd, 1) := by decide +kernel
theorem dL_law_670 : decode cL_law 670 = .ok (.iaload, 1) := by decide +kernel
theorem dL_law_671 : decode cL_law 671 = .ok (.invokevirtual 130, 3) := by decide +kernel
theorem dL_law_674 : decode cL_law 674 = .ok (.istore 7, 2) := by decide +kernel
theorem dL_law_676 : decode cL_law 676 = .ok (.aload_n 2, 1) := by decide +kernel
theorem dL_law_677 : decode cL_law 677 = .ok (.invokevirtual 99, 3) := by decide +kernel
theorem dL_law_680 : decode cL_law 680 = .ok (.iload 6, 2) := by decide +kernel
theorem dL_law_682 : decode cL_law 682 = .ok (.if_icmp .eq 5, 3) := by decide +kernel
theorem dL_law_685 : decode cL_law 685 = .ok (.iconst 0, 1) := by decide +kernel
theorem dL_law_686 : decode cL_law 686 = .ok (.ireturn, 1) := by decide +kernel
theorem dL_law_687 : decode cL_law 687 = .ok (.iload 6, 2) := by decide +kernel
theorem dL_law_689 : decode cL_law 689 = .ok (.ifCond .ne 15, 3) := by decide +kernel
theorem dL_law_692 : decode cL_law 692 = .ok (.aload_n 3, 1) := by decide +kernel
theorem dL_law_693 : decode cL_law 693 = .ok (.iconst 0, 1) := by decide +kernel
theorem dL_law_694 : decode cL_law 694 = .ok (.laload, 1) := by decide +kernel
theorem dL_law_695 : decode cL_law 695 = .ok (.iload 7, 2) := by decide +kernel
theorem dL_law_697 : decode cL_law 697 = .ok (.i2l, 1) := by decide +kernel
theorem dL_law_698 : decode cL_law 698 = .ok (.lcmp, 1) := by decide +kernel
theorem dL_law_699 : decode cL_law 699 = .ok (.ifCond .eq 5, 3) := by decide +kernel
theorem dL_law_702 : decode cL_law 702 = .ok (.iconst 0, 1) := by decide +kernel
theorem dL_law_703 : decode cL_law 703 = .ok (.ireturn, 1) := by decide +kernel
theorem dL_law_704 : decode cL_law 704 = .ok (.goto 853, 3) := by decide +kernel
theorem dL_law_707 : decode cL_law 707 = .ok (.aload_n 1, 1) := by decide +kernel
theorem dL_law_708 : decode cL_law 708 = .ok (.aload_n 0, 1) := by decide +kernel
theorem dL_law_709 : decode cL_law 709 = .ok (.iload 5, 2) := by decide +kernel
theorem dL_law_711 : decode cL_law 711 = .ok (.iconst 1, 1) := by decide +kernel
theorem dL_law_712 : decode cL_law 712 = .ok (.iadd, 1) := by decide +kernel
theorem dL_law_713 : decode cL_law 713 = .ok (.iaload, 1) := by decide +kernel
theorem dL_law_714 : decode cL_law 714 = .ok (.aload_n 3, 1) := by decide +kernel
theorem dL_law_715 : decode cL_law 715 = .ok (.invokestatic 131, 3) := by decide +kernel
theorem dL_law_718 : decode cL_law 718 = .ok (.istore 6, 2) := by decide +kernel
theorem dL_law_720 : decode cL_law 720 = .ok (.aload_n 2, 1) := by decide +kernel
theorem dL_law_721 : decode cL_law 721 = .ok (.aload_n 0, 1) := by decide +kernel
theorem dL_law_722 : decode cL_law 722 = .ok (.iload 5, 2) := by decide +kernel
theorem dL_law_724 : decode cL_law 724 = .ok (.iconst 1, 1) := by decide +kernel
theorem dL_law_725 : decode cL_law 725 = .ok (.iadd, 1) := by decide +kernel
theorem dL_law_726 : decode cL_law 726 = .ok (.iaload, 1) := by decide +kernel
theorem dL_law_727 : decode cL_law 727 = .ok (.invokevirtual 133, 3) := by decide +kernel
theorem dL_law_730 : decode cL_law 730 = .ok (.istore 7, 2) := by decide +kernel
theorem dL_law_732 : decode cL_law 732 = .ok (.aload_n 2, 1) := by decide +kernel
theorem dL_law_733 : decode cL_law 733 = .ok (.invokevirtual 99, 3) := by decide +kernel
theorem dL_law_736 : decode cL_law 736 = .ok (.iload 6, 2) := by decide +kernel
theorem dL_law_738 : decode cL_law 738 = .ok (.if_icmp .eq 5, 3) := by decide +kernel
theorem dL_law_741 : decode cL_law 741 = .ok (.iconst 0, 1) := by decide +kernel
theorem dL_law_742 : decode cL_law 742 = .ok (.ireturn, 1) := by decide +kernel
theorem dL_law_743 : decode cL_law 743 = .ok (.iload 6, 2) := by decide +kernel
end
section
theorem dL_law_745 : decode cL_law 745 = .ok (.ifCond .ne 15, 3) := by decide +kernel
theorem dL_law_748 : decode cL_law 748 = .ok (.aload_n 3, 1) := by decide +kernel
theorem dL_law_749 : decode cL_law 749 = .ok (.iconst 0, 1) := by decide +kernel
theorem dL_law_750 : decode cL_law 750 = .ok (.laload, 1) := by decide +kernel
theorem dL_law_751 : decode cL_law 751 = .ok (.iload 7, 2) := by decide +kernel
theorem dL_law_753 : decode cL_law 753 = .ok (.i2l, 1) := by decide +kernel
theorem dL_law_754 : decode cL_law 754 = .ok (.lcmp, 1) := by decide +kernel
theorem dL_law_755 : decode cL_law 755 = .ok (.ifCond .eq 5, 3) := by decide +kernel
theorem dL_law_758 : decode cL_law 758 = .ok (.iconst 0, 1) := by decide +kernel
theorem dL_law_759 : decode cL_law 759 = .ok (.ireturn, 1) := by decide +kernel
theorem dL_law_760 : decode cL_law 760 = .ok (.goto 797, 3) := by decide +kernel
theorem dL_law_763 : decode cL_law 763 = .ok (.aload_n 1, 1) := by decide +kernel
theorem dL_law_764 : decode cL_law 764 = .ok (.aload_n 0, 1) := by decide +kernel
theorem dL_law_765 : decode cL_law 765 = .ok (.iload 5, 2) := by decide +kernel
theorem dL_law_767 : decode cL_law 767 = .ok (.iconst 1, 1) := by decide +kernel
theorem dL_law_768 : decode cL_law 768 = .ok (.iadd, 1) := by decide +kernel
theorem dL_law_769 : decode cL_law 769 = .ok (.iaload, 1) := by decide +kernel
theorem dL_law_770 : decode cL_law 770 = .ok (.invokevirtual 134, 3) := by decide +kernel
theorem dL_law_773 : decode cL_law 773 = .ok (.aload_n 2, 1) := by decide +kernel
theorem dL_law_774 : decode cL_law 774 = .ok (.aload_n 0, 1) := by decide +kernel
theorem dL_law_775 : decode cL_law 775 = .ok (.iload 5, 2) := by decide +kernel
theorem dL_law_777 : decode cL_law 777 = .ok (.iconst 1, 1) := by decide +kernel
theorem dL_law_778 : decode cL_law 778 = .ok (.iadd, 1) := by decide +kernel
theorem dL_law_779 : decode cL_law 779 = .ok (.iaload, 1) := by decide +kernel
theorem dL_law_780 : decode cL_law 780 = .ok (.invokevirtual 137, 3) := by decide +kernel
theorem dL_law_783 : decode cL_law 783 = .ok (.if_icmp .eq 774, 3) := by decide +kernel
theorem dL_law_786 : decode cL_law 786 = .ok (.iconst 0, 1) := by decide +kernel
theorem dL_law_787 : decode cL_law 787 = .ok (.ireturn, 1) := by decide +kernel
theorem dL_law_788 : decode cL_law 788 = .ok (.aload_n 1, 1) := by decide +kernel
theorem dL_law_789 : decode cL_law 789 = .ok (.aload_n 0, 1) := by decide +kernel
theorem dL_law_790 : decode cL_law 790 = .ok (.iload 5, 2) := by decide +kernel
theorem dL_law_792 : decode cL_law 792 = .ok (.iconst 1, 1) := by decide +kernel
theorem dL_law_793 : decode cL_law 793 = .ok (.iadd, 1) := by decide +kernel
theorem dL_law_794 : decode cL_law 794 = .ok (.iaload, 1) := by decide +kernel
theorem dL_law_795 : decode cL_law 795 = .ok (.aload_n 3, 1) := by decide +kernel
theorem dL_law_796 : decode cL_law 796 = .ok (.invokestatic 138, 3) := by decide +kernel
theorem dL_law_799 : decode cL_law 799 = .ok (.istore 6, 2) := by decide +kernel
theorem dL_law_801 : decode cL_law 801 = .ok (.aload_n 2, 1) := by decide +kernel
theorem dL_law_802 : decode cL_law 802 = .ok (.aload_n 0, 1) := by decide +kernel
theorem dL_law_803 : decode cL_law 803 = .ok (.iload 5, 2) := by decide +kernel
theorem dL_law_805 : decode cL_law 805 = .ok (.iconst 1, 1) := by decide +kernel
theorem dL_law_806 : decode cL_law 806 = .ok (.iadd, 1) := by decide +kernel
theorem dL_law_807 : decode cL_law 807 = .ok (.iaload, 1) := by decide +kernel
theorem dL_law_808 : decode cL_law 808 = .ok (.invokevirtual 140, 3) := by decide +kernel
theorem dL_law_811 : decode cL_law 811 = .ok (.istore 7, 2) := by decide +kernel
theorem dL_law_813 : decode cL_law 813 = .ok (.aload_n 2, 1) := by decide +kernel
theorem dL_law_814 : decode cL_law 814 = .ok (.invokevirtual 99, 3) := by decide +kernel
theorem dL_law_817 : decode cL_law 817 = .ok (.iload 6, 2) := by decide +kernel
theorem dL_law_819 : decode cL_law 819 = .ok (.if_icmp .eq 5, 3) := by decide +kernel
theorem dL_law_822 : decode cL_law 822 = .ok (.iconst 0, 1) := by decide +kernel
theorem dL_law_823 : decode cL_law 823 = .ok (.ireturn, 1) := by decide +kernel
theorem dL_law_824 : decode cL_law 824 = .ok (.iload 6, 2) := by decide +kernel
theorem dL_law_826 : decode cL_law 826 = .ok (.ifCond .ne 15, 3) := by decide +kernel
theorem dL_law_829 : decode cL_law 829 = .ok (.aload_n 3, 1) := by decide +kernel
theorem dL_law_830 : decode cL_law 830 = .ok (.iconst 0, 1) := by decide +kernel
theorem dL_law_831 : decode cL_law 831 = .ok (.laload, 1) := by decide +kernel
theorem dL_law_832 : decode cL_law 832 = .ok (.iload 7, 2) := by decide +kernel
theorem dL_law_834 : decode cL_law 834 = .ok (.i2l, 1) := by decide +kernel
theorem dL_law_835 : decode cL_law 835 = .ok (.lcmp, 1) := by decide +kernel
theorem dL_law_836 : decode cL_law 836 = .ok (.ifCond .eq 5, 3) := by decide +kernel
theorem dL_law_839 : decode cL_law 839 = .ok (.iconst 0, 1) := by decide +kernel
theorem dL_law_840 : decode cL_law 840 = .ok (.ireturn, 1) := by decide +kernel
theorem dL_law_841 : decode cL_law 841 = .ok (.goto 716, 3) := by decide +kernel
theorem dL_law_844 : decode cL_law 844 = .ok (.aload_n 1, 1) := by decide +kernel
theorem dL_law_845 : decode cL_law 845 = .ok (.aload_n 0, 1) := by decide +kernel
theorem dL_law_846 : decode cL_law 846 = .ok (.iload 5, 2) := by decide +kernel
theorem dL_law_848 : decode cL_law 848 = .ok (.iconst 1, 1) := by decide +kernel
theorem dL_law_849 : decode cL_law 849 = .ok (.iadd, 1) := by decide +kernel
theorem dL_law_850 : decode cL_law 850 = .ok (.iaload, 1) := by decide +kernel
theorem dL_law_851 : decode cL_law 851 = .ok (.invokevirtual 141, 3) := by decide +kernel
theorem dL_law_854 : decode cL_law 854 = .ok (.aload_n 2, 1) := by decide +kernel
theorem dL_law_855 : decode cL_law 855 = .ok (.aload_n 0, 1) := by decide +kernel
theorem dL_law_856 : decode cL_law 856 = .ok (.iload 5, 2) := by decide +kernel
theorem dL_law_858 : decode cL_law 858 = .ok (.iconst 1, 1) := by decide +kernel
theorem dL_law_859 : decode cL_law 859 = .ok (.iadd, 1) := by decide +kernel
theorem dL_law_860 : decode cL_law 860 = .ok (.iaload, 1) := by decide +kernel
theorem dL_law_861 : decode cL_law 861 = .ok (.invokevirtual 144, 3) := by decide +kernel
theorem dL_law_864 : decode cL_law 864 = .ok (.if_icmp .eq 693, 3) := by decide +kernel
theorem dL_law_867 : decode cL_law 867 = .ok (.iconst 0, 1) := by decide +kernel
theorem dL_law_868 : decode cL_law 868 = .ok (.ireturn, 1) := by decide +kernel
theorem dL_law_869 : decode cL_law 869 = .ok (.aload_n 1, 1) := by decide +kernel
theorem dL_law_870 : decode cL_law 870 = .ok (.aload_n 0, 1) := by decide +kernel
theorem dL_law_871 : decode cL_law 871 = .ok (.iload 5, 2) := by decide +kernel
theorem dL_law_873 : decode cL_law 873 = .ok (.iconst 1, 1) := by decide +kernel
theorem dL_law_874 : decode cL_law 874 = .ok (.iadd, 1) := by decide +kernel
theorem dL_law_875 : decode cL_law 875 = .ok (.iaload, 1) := by decide +kernel
theorem dL_law_876 : decode cL_law 876 = .ok (.aload_n 3, 1) := by decide +kernel
theorem dL_law_877 : decode cL_law 877 = .ok (.invokestatic 145, 3) := by decide +kernel
theorem dL_law_880 : decode cL_law 880 = .ok (.istore 6, 2) := by decide +kernel
theorem dL_law_882 : decode cL_law 882 = .ok (.aload_n 2, 1) := by decide +kernel
theorem dL_law_883 : decode cL_law 883 = .ok (.aload_n 0, 1) := by decide +kernel
theorem dL_law_884 : decode cL_law 884 = .ok (.iload 5, 2) := by decide +kernel
theorem dL_law_886 : decode cL_law 886 = .ok (.iconst 1, 1) := by decide +kernel
theorem dL_law_887 : decode cL_law 887 = .ok (.iadd, 1) := by decide +kernel
theorem dL_law_888 : decode cL_law 888 = .ok (.iaload, 1) := by decide +kernel
theorem dL_law_889 : decode cL_law 889 = .ok (.invokevirtual 147, 3) := by decide +kernel
theorem dL_law_892 : decode cL_law 892 = .ok (.istore 7, 2) := by decide +kernel
theorem dL_law_894 : decode cL_law 894 = .ok (.aload_n 2, 1) := by decide +kernel
theorem dL_law_895 : decode cL_law 895 = .ok (.invokevirtual 99, 3) := by decide +kernel
theorem dL_law_898 : decode cL_law 898 = .ok (.iload 6, 2) := by decide +kernel
theorem dL_law_900 : decode cL_law 900 = .ok (.if_icmp .eq 5, 3) := by decide +kernel
theorem dL_law_903 : decode cL_law 903 = .ok (.iconst 0, 1) := by decide +kernel
theorem dL_law_904 : decode cL_law 904 = .ok (.ireturn, 1) := by decide +kernel
theorem dL_law_905 : decode cL_law 905 = .ok (.iload 6, 2) := by decide +kernel
theorem dL_law_907 : decode cL_law 907 = .ok (.ifCond .ne 15, 3) := by decide +kernel
theorem dL_law_910 : decode cL_law 910 = .ok (.aload_n 3, 1) := by decide +kernel
theorem dL_law_911 : decode cL_law 911 = .ok (.iconst 0, 1) := by decide +kernel
theorem dL_law_912 : decode cL_law 912 = .ok (.laload, 1) := by decide +kernel
theorem dL_law_913 : decode cL_law 913 = .ok (.iload 7, 2) := by decide +kernel
theorem dL_law_915 : decode cL_law 915 = .ok (.i2l, 1) := by decide +kernel
theorem dL_law_916 : decode cL_law 916 = .ok (.lcmp, 1) := by decide +kernel
theorem dL_law_917 : decode cL_law 917 = .ok (.ifCond .eq 5, 3) := by decide +kernel
theorem dL_law_920 : decode cL_law 920 = .ok (.iconst 0, 1) := by decide +kernel
theorem dL_law_921 : decode cL_law 921 = .ok (.ireturn, 1) := by decide +kernel
theorem dL_law_922 : decode cL_law 922 = .ok (.goto 635, 3) := by decide +kernel
theorem dL_law_925 : decode cL_law 925 = .ok (.aload_n 1, 1) := by decide +kernel
theorem dL_law_926 : decode cL_law 926 = .ok (.aload_n 0, 1) := by decide +kernel
theorem dL_law_927 : decode cL_law 927 = .ok (.iload 5, 2) := by decide +kernel
theorem dL_law_929 : decode cL_law 929 = .ok (.iconst 1, 1) := by decide +kernel
theorem dL_law_930 : decode cL_law 930 = .ok (.iadd, 1) := by decide +kernel
theorem dL_law_931 : decode cL_law 931 = .ok (.iaload, 1) := by decide +kernel
theorem dL_law_932 : decode cL_law 932 = .ok (.aload_n 0, 1) := by decide +kernel
theorem dL_law_933 : decode cL_law 933 = .ok (.iload 5, 2) := by decide +kernel
theorem dL_law_935 : decode cL_law 935 = .ok (.iconst 2, 1) := by decide +kernel
theorem dL_law_936 : decode cL_law 936 = .ok (.iadd, 1) := by decide +kernel
theorem dL_law_937 : decode cL_law 937 = .ok (.iaload, 1) := by decide +kernel
theorem dL_law_938 : decode cL_law 938 = .ok (.ifCond .eq 7, 3) := by decide +kernel
theorem dL_law_941 : decode cL_law 941 = .ok (.iconst 1, 1) := by decide +kernel
theorem dL_law_942 : decode cL_law 942 = .ok (.goto 4, 3) := by decide +kernel
theorem dL_law_945 : decode cL_law 945 = .ok (.iconst 0, 1) := by decide +kernel
theorem dL_law_946 : decode cL_law 946 = .ok (.aload_n 3, 1) := by decide +kernel
theorem dL_law_947 : decode cL_law 947 = .ok (.invokestatic 148, 3) := by decide +kernel
theorem dL_law_950 : decode cL_law 950 = .ok (.istore 6, 2) := by decide +kernel
theorem dL_law_952 : decode cL_law 952 = .ok (.aload_n 2, 1) := by decide +kernel
theorem dL_law_953 : decode cL_law 953 = .ok (.aload_n 0, 1) := by decide +kernel
theorem dL_law_954 : decode cL_law 954 = .ok (.iload 5, 2) := by decide +kernel
theorem dL_law_956 : decode cL_law 956 = .ok (.iconst 1, 1) := by decide +kernel
theorem dL_law_957 : decode cL_law 957 = .ok (.iadd, 1) := by decide +kernel
theorem dL_law_958 : decode cL_law 958 = .ok (.iaload, 1) := by decide +kernel
theorem dL_law_959 : decode cL_law 959 = .ok (.aload_n 0, 1) := by decide +kernel
theorem dL_law_960 : decode cL_law 960 = .ok (.iload 5, 2) := by decide +kernel
theorem dL_law_962 : decode cL_law 962 = .ok (.iconst 2, 1) := by decide +kernel
theorem dL_law_963 : decode cL_law 963 = .ok (.iadd, 1) := by decide +kernel
theorem dL_law_964 : decode cL_law 964 = .ok (.iaload, 1) := by decide +kernel
theorem dL_law_965 : decode cL_law 965 = .ok (.ifCond .eq 7, 3) := by decide +kernel
theorem dL_law_968 : decode cL_law 968 = .ok (.iconst 1, 1) := by decide +kernel
theorem dL_law_969 : decode cL_law 969 = .ok (.goto 4, 3) := by decide +kernel
theorem dL_law_972 : decode cL_law 972 = .ok (.iconst 0, 1) := by decide +kernel
theorem dL_law_973 : decode cL_law 973 = .ok (.invokevirtual 150, 3) := by decide +kernel
theorem dL_law_976 : decode cL_law 976 = .ok (.istore 7, 2) := by decide +kernel
theorem dL_law_978 : decode cL_law 978 = .ok (.aload_n 2, 1) := by decide +kernel
theorem dL_law_979 : decode cL_law 979 = .ok (.invokevirtual 99, 3) := by decide +kernel
theorem dL_law_982 : decode cL_law 982 = .ok (.iload 6, 2) := by decide +kernel
theorem dL_law_984 : decode cL_law 984 = .ok (.if_icmp .eq 5, 3) := by decide +kernel
theorem dL_law_987 : decode cL_law 987 = .ok (.iconst 0, 1) := by decide +kernel
theorem dL_law_988 : decode cL_law 988 = .ok (.ireturn, 1) := by decide +kernel
theorem dL_law_989 : decode cL_law 989 = .ok (.iload 6, 2) := by decide +kernel
theorem dL_law_991 : decode cL_law 991 = .ok (.ifCond .ne 15, 3) := by decide +kernel
theorem dL_law_994 : decode cL_law 994 = .ok (.aload_n 3, 1) := by decide +kernel
theorem dL_law_995 : decode cL_law 995 = .ok (.iconst 0, 1) := by decide +kernel
theorem dL_law_996 : decode cL_law 996 = .ok (.laload, 1) := by decide +kernel
theorem dL_law_997 : decode cL_law 997 = .ok (.iload 7, 2) := by decide +kernel
theorem dL_law_999 : decode cL_law 999 = .ok (.i2l, 1) := by decide +kernel
theorem dL_law_1000 : decode cL_law 1000 = .ok (.lcmp, 1) := by decide +kernel
theorem dL_law_1001 : decode cL_law 1001 = .ok (.ifCond .eq 5, 3) := by decide +kernel
theorem dL_law_1004 : decode cL_law 1004 = .ok (.iconst 0, 1) := by decide +kernel
theorem dL_law_1005 : decode cL_law 1005 = .ok (.ireturn, 1) := by decide +kernel
theorem dL_law_1006 : decode cL_law 1006 = .ok (.goto 551, 3) := by decide +kernel
theorem dL_law_1009 : decode cL_law 1009 = .ok (.aload_n 1, 1) := by decide +kernel
theorem dL_law_1010 : decode cL_law 1010 = .ok (.aload_n 0, 1) := by decide +kernel
theorem dL_law_1011 : decode cL_law 1011 = .ok (.iload 5, 2) := by decide +kernel
theorem dL_law_1013 : decode cL_law 1013 = .ok (.iconst 1, 1) := by decide +kernel
theorem dL_law_1014 : decode cL_law 1014 = .ok (.iadd, 1) := by decide +kernel
theorem dL_law_1015 : decode cL_law 1015 = .ok (.iaload, 1) := by decide +kernel
theorem dL_law_1016 : decode cL_law 1016 = .ok (.aload_n 3, 1) := by decide +kernel
theorem dL_law_1017 : decode cL_law 1017 = .ok (.invokestatic 151, 3) := by decide +kernel
theorem dL_law_1020 : decode cL_law 1020 = .ok (.istore 6, 2) := by decide +kernel
theorem dL_law_1022 : decode cL_law 1022 = .ok (.aload_n 2, 1) := by decide +kernel
theorem dL_law_1023 : decode cL_law 1023 = .ok (.aload_n 0, 1) := by decide +kernel
theorem dL_law_1024 : decode cL_law 1024 = .ok (.iload 5, 2) := by decide +kernel
theorem dL_law_1026 : decode cL_law 1026 = .ok (.iconst 1, 1) := by decide +kernel
theorem dL_law_1027 : decode cL_law 1027 = .ok (.iadd, 1) := by decide +kernel
theorem dL_law_1028 : decode cL_law 1028 = .ok (.iaload, 1) := by decide +kernel
theorem dL_law_1029 : decode cL_law 1029 = .ok (.invokevirtual 153, 3) := by decide +kernel
theorem dL_law_1032 : decode cL_law 1032 = .ok (.istore 7, 2) := by decide +kernel
theorem dL_law_1034 : decode cL_law 1034 = .ok (.aload_n 2, 1) := by decide +kernel
theorem dL_law_1035 : decode cL_law 1035 = .ok (.invokevirtual 99, 3) := by decide +kernel
theorem dL_law_1038 : decode cL_law 1038 = .ok (.iload 6, 2) := by decide +kernel
theorem dL_law_1040 : decode cL_law 1040 = .ok (.if_icmp .eq 5, 3) := by decide +kernel
theorem dL_law_1043 : decode cL_law 1043 = .ok (.iconst 0, 1) := by decide +kernel
theorem dL_law_1044 : decode cL_law 1044 = .ok (.ireturn, 1) := by decide +kernel
theorem dL_law_1045 : decode cL_law 1045 = .ok (.iload 6, 2) := by decide +kernel
theorem dL_law_1047 : decode cL_law 1047 = .ok (.ifCond .ne 15, 3) := by decide +kernel
theorem dL_law_1050 : decode cL_law 1050 = .ok (.aload_n 3, 1) := by decide +kernel
theorem dL_law_1051 : decode cL_law 1051 = .ok (.iconst 0, 1) := by decide +kernel
theorem dL_law_1052 : decode cL_law 1052 = .ok (.laload, 1) := by decide +kernel
theorem dL_law_1053 : decode cL_law 1053 = .ok (.iload 7, 2) := by decide +kernel
theorem dL_law_1055 : decode cL_law 1055 = .ok (.i2l, 1) := by decide +kernel
theorem dL_law_1056 : decode cL_law 1056 = .ok (.lcmp, 1) := by decide +kernel
theorem dL_law_1057 : decode cL_law 1057 = .ok (.ifCond .eq 5, 3) := by decide +kernel
theorem dL_law_1060 : decode cL_law 1060 = .ok (.iconst 0, 1) := by decide +kernel
theorem dL_law_1061 : decode cL_law 1061 = .ok (.ireturn, 1) := by decide +kernel
theorem dL_law_1062 : decode cL_law 1062 = .ok (.goto 495, 3) := by decide +kernel
theorem dL_law_1065 : decode cL_law 1065 = .ok (.aload_n 1, 1) := by decide +kernel
theorem dL_law_1066 : decode cL_law 1066 = .ok (.aload_n 0, 1) := by decide +kernel
theorem dL_law_1067 : decode cL_law 1067 = .ok (.iload 5, 2) := by decide +kernel
theorem dL_law_1069 : decode cL_law 1069 = .ok (.iconst 1, 1) := by decide +kernel
theorem dL_law_1070 : decode cL_law 1070 = .ok (.iadd, 1) := by decide +kernel
theorem dL_law_1071 : decode cL_law 1071 = .ok (.iaload, 1) := by decide +kernel
theorem dL_law_1072 : decode cL_law 1072 = .ok (.aload_n 3, 1) := by decide +kernel
theorem dL_law_1073 : decode cL_law 1073 = .ok (.invokestatic 154, 3) := by decide +kernel
theorem dL_law_1076 : decode cL_law 1076 = .ok (.istore 6, 2) := by decide +kernel
theorem dL_law_1078 : decode cL_law 1078 = .ok (.aload_n 2, 1) := by decide +kernel
theorem dL_law_1079 : decode cL_law 1079 = .ok (.aload_n 0, 1) := by decide +kernel
theorem dL_law_1080 : decode cL_law 1080 = .ok (.iload 5, 2) := by decide +kernel
theorem dL_law_1082 : decode cL_law 1082 = .ok (.iconst 1, 1) := by decide +kernel
theorem dL_law_1083 : decode cL_law 1083 = .ok (.iadd, 1) := by decide +kernel
theorem dL_law_1084 : decode cL_law 1084 = .ok (.iaload, 1) := by decide +kernel
theorem dL_law_1085 : decode cL_law 1085 = .ok (.invokevirtual 156, 3) := by decide +kernel
theorem dL_law_1088 : decode cL_law 1088 = .ok (.istore 7, 2) := by decide +kernel
theorem dL_law_1090 : decode cL_law 1090 = .ok (.aload_n 2, 1) := by decide +kernel
theorem dL_law_1091 : decode cL_law 1091 = .ok (.invokevirtual 99, 3) := by decide +kernel
theorem dL_law_1094 : decode cL_law 1094 = .ok (.iload 6, 2) := by decide +kernel
theorem dL_law_1096 : decode cL_law 1096 = .ok (.if_icmp .eq 5, 3) := by decide +kernel
theorem dL_law_1099 : decode cL_law 1099 = .ok (.iconst 0, 1) := by decide +kernel
theorem dL_law_1100 : decode cL_law 1100 = .ok (.ireturn, 1) := by decide +kernel
theorem dL_law_1101 : decode cL_law 1101 = .ok (.iload 6, 2) := by decide +kernel
theorem dL_law_1103 : decode cL_law 1103 = .ok (.ifCond .ne 22, 3) := by decide +kernel
theorem dL_law_1106 : decode cL_law 1106 = .ok (.aload_n 3, 1) := by decide +kernel
theorem dL_law_1107 : decode cL_law 1107 = .ok (.iconst 0, 1) := by decide +kernel
theorem dL_law_1108 : decode cL_law 1108 = .ok (.laload, 1) := by decide +kernel
theorem dL_law_1109 : decode cL_law 1109 = .ok (.iload 7, 2) := by decide +kernel
theorem dL_law_1111 : decode cL_law 1111 = .ok (.ifCond .eq 7, 3) := by decide +kernel
theorem dL_law_1114 : decode cL_law 1114 = .ok (.lconst 1, 1) := by decide +kernel
theorem dL_law_1115 : decode cL_law 1115 = .ok (.goto 4, 3) := by decide +kernel
theorem dL_law_1118 : decode cL_law 1118 = .ok (.lconst 0, 1) := by decide +kernel
theorem dL_law_1119 : decode cL_law 1119 = .ok (.lcmp, 1) := by decide +kernel
theorem dL_law_1120 : decode cL_law 1120 = .ok (.ifCond .eq 5, 3) := by decide +kernel
theorem dL_law_1123 : decode cL_law 1123 = .ok (.iconst 0, 1) := by decide +kernel
theorem dL_law_1124 : decode cL_law 1124 = .ok (.ireturn, 1) := by decide +kernel
theorem dL_law_1125 : decode cL_law 1125 = .ok (.goto 432, 3) := by decide +kernel
theorem dL_law_1128 : decode cL_law 1128 = .ok (.aload_n 1, 1) := by decide +kernel
theorem dL_law_1129 : decode cL_law 1129 = .ok (.aload_n 0, 1) := by decide +kernel
theorem dL_law_1130 : decode cL_law 1130 = .ok (.iload 5, 2) := by decide +kernel
theorem dL_law_1132 : decode cL_law 1132 = .ok (.iconst 1, 1) := by decide +kernel
theorem dL_law_1133 : decode cL_law 1133 = .ok (.iadd, 1) := by decide +kernel
theorem dL_law_1134 : decode cL_law 1134 = .ok (.iaload, 1) := by decide +kernel
theorem dL_law_1135 : decode cL_law 1135 = .ok (.aload_n 3, 1) := by decide +kernel
theorem dL_law_1136 : decode cL_law 1136 = .ok (.invokestatic 157, 3) := by decide +kernel
theorem dL_law_1139 : decode cL_law 1139 = .ok (.istore 6, 2) := by decide +kernel
theorem dL_law_1141 : decode cL_law 1141 = .ok (.aload_n 2, 1) := by decide +kernel
theorem dL_law_1142 : decode cL_law 1142 = .ok (.aload_n 0, 1) := by decide +kernel
theorem dL_law_1143 : decode cL_law 1143 = .ok (.iload 5, 2) := by decide +kernel
theorem dL_law_1145 : decode cL_law 1145 = .ok (.iconst 1, 1) := by decide +kernel
theorem dL_law_1146 : decode cL_law 1146 = .ok (.iadd, 1) := by decide +kernel
theorem dL_law_1147 : decode cL_law 1147 = .ok (.iaload, 1) := by decide +kernel
theorem dL_law_1148 : decode cL_law 1148 = .ok (.invokevirtual 159, 3) := by decide +kernel
theorem dL_law_1151 : decode cL_law 1151 = .ok (.istore 7, 2) := by decide +kernel
theorem dL_law_1153 : decode cL_law 1153 = .ok (.aload_n 2, 1) := by decide +kernel
theorem dL_law_1154 : decode cL_law 1154 = .ok (.invokevirtual 99, 3) := by decide +kernel
theorem dL_law_1157 : decode cL_law 1157 = .ok (.iload 6, 2) := by decide +kernel
theorem dL_law_1159 : decode cL_law 1159 = .ok (.if_icmp .eq 5, 3) := by decide +kernel
theorem dL_law_1162 : decode cL_law 1162 = .ok (.iconst 0, 1) := by decide +kernel
theorem dL_law_1163 : decode cL_law 1163 = .ok (.ireturn, 1) := by decide +kernel
theorem dL_law_1164 : decode cL_law 1164 = .ok (.iload 6, 2) := by decide +kernel
theorem dL_law_1166 : decode cL_law 1166 = .ok (.ifCond .ne 15, 3) := by decide +kernel
theorem dL_law_1169 : decode cL_law 1169 = .ok (.aload_n 3, 1) := by decide +kernel
theorem dL_law_1170 : decode cL_law 1170 = .ok (.iconst 0, 1) := by decide +kernel
theorem dL_law_1171 : decode cL_law 1171 = .ok (.laload, 1) := by decide +kernel
theorem dL_law_1172 : decode cL_law 1172 = .ok (.iload 7, 2) := by decide +kernel
theorem dL_law_1174 : decode cL_law 1174 = .ok (.i2l, 1) := by decide +kernel
theorem dL_law_1175 : decode cL_law 1175 = .ok (.lcmp, 1) := by decide +kernel
theorem dL_law_1176 : decode cL_law 1176 = .ok (.ifCond .eq 5, 3) := by decide +kernel
theorem dL_law_1179 : decode cL_law 1179 = .ok (.iconst 0, 1) := by decide +kernel
theorem dL_law_1180 : decode cL_law 1180 = .ok (.ireturn, 1) := by decide +kernel
theorem dL_law_1181 : decode cL_law 1181 = .ok (.goto 376, 3) := by decide +kernel
theorem dL_law_1184 : decode cL_law 1184 = .ok (.aload_n 1, 1) := by decide +kernel
theorem dL_law_1185 : decode cL_law 1185 = .ok (.aload_n 0, 1) := by decide +kernel
theorem dL_law_1186 : decode cL_law 1186 = .ok (.iload 5, 2) := by decide +kernel
theorem dL_law_1188 : decode cL_law 1188 = .ok (.iconst 1, 1) := by decide +kernel
theorem dL_law_1189 : decode cL_law 1189 = .ok (.iadd, 1) := by decide +kernel
theorem dL_law_1190 : decode cL_law 1190 = .ok (.iaload, 1) := by decide +kernel
theorem dL_law_1191 : decode cL_law 1191 = .ok (.aload_n 3, 1) := by decide +kernel
theorem dL_law_1192 : decode cL_law 1192 = .ok (.invokestatic 160, 3) := by decide +kernel
theorem dL_law_1195 : decode cL_law 1195 = .ok (.istore 6, 2) := by decide +kernel
theorem dL_law_1197 : decode cL_law 1197 = .ok (.aload_n 2, 1) := by decide +kernel
theorem dL_law_1198 : decode cL_law 1198 = .ok (.aload_n 0, 1) := by decide +kernel
theorem dL_law_1199 : decode cL_law 1199 = .ok (.iload 5, 2) := by decide +kernel
theorem dL_law_1201 : decode cL_law 1201 = .ok (.iconst 1, 1) := by decide +kernel
theorem dL_law_1202 : decode cL_law 1202 = .ok (.iadd, 1) := by decide +kernel
theorem dL_law_1203 : decode cL_law 1203 = .ok (.iaload, 1) := by decide +kernel
theorem dL_law_1204 : decode cL_law 1204 = .ok (.invokevirtual 162, 3) := by decide +kernel
theorem dL_law_1207 : decode cL_law 1207 = .ok (.istore 7, 2) := by decide +kernel
theorem dL_law_1209 : decode cL_law 1209 = .ok (.aload_n 2, 1) := by decide +kernel
theorem dL_law_1210 : decode cL_law 1210 = .ok (.invokevirtual 99, 3) := by decide +kernel
theorem dL_law_1213 : decode cL_law 1213 = .ok (.iload 6, 2) := by decide +kernel
theorem dL_law_1215 : decode cL_law 1215 = .ok (.if_icmp .eq 5, 3) := by decide +kernel
theorem dL_law_1218 : decode cL_law 1218 = .ok (.iconst 0, 1) := by decide +kernel
theorem dL_law_1219 : decode cL_law 1219 = .ok (.ireturn, 1) := by decide +kernel
theorem dL_law_1220 : decode cL_law 1220 = .ok (.iload 6, 2) := by decide +kernel
theorem dL_law_1222 : decode cL_law 1222 = .ok (.ifCond .ne 15, 3) := by decide +kernel
theorem dL_law_1225 : decode cL_law 1225 = .ok (.aload_n 3, 1) := by decide +kernel
theorem dL_law_1226 : decode cL_law 1226 = .ok (.iconst 0, 1) := by decide +kernel
theorem dL_law_1227 : decode cL_law 1227 = .ok (.laload, 1) := by decide +kernel
theorem dL_law_1228 : decode cL_law 1228 = .ok (.iload 7, 2) := by decide +kernel
theorem dL_law_1230 : decode cL_law 1230 = .ok (.i2l, 1) := by decide +kernel
theorem dL_law_1231 : decode cL_law 1231 = .ok (.lcmp, 1) := by decide +kernel
theorem dL_law_1232 : decode cL_law 1232 = .ok (.ifCond .eq 5, 3) := by decide +kernel
theorem dL_law_1235 : decode cL_law 1235 = .ok (.iconst 0, 1) := by decide +kernel
theorem dL_law_1236 : decode cL_law 1236 = .ok (.ireturn, 1) := by decide +kernel
theorem dL_law_1237 : decode cL_law 1237 = .ok (.goto 320, 3) := by decide +kernel
theorem dL_law_1240 : decode cL_law 1240 = .ok (.aload_n 1, 1) := by decide +kernel
theorem dL_law_1241 : decode cL_law 1241 = .ok (.aload_n 0, 1) := by decide +kernel
theorem dL_law_1242 : decode cL_law 1242 = .ok (.iload 5, 2) := by decide +kernel
theorem dL_law_1244 : decode cL_law 1244 = .ok (.iconst 1, 1) := by decide +kernel
theorem dL_law_1245 : decode cL_law 1245 = .ok (.iadd, 1) := by decide +kernel
theorem dL_law_1246 : decode cL_law 1246 = .ok (.iaload, 1) := by decide +kernel
theorem dL_law_1247 : decode cL_law 1247 = .ok (.aload 4, 2) := by decide +kernel
theorem dL_law_1249 : decode cL_law 1249 = .ok (.invokestatic 163, 3) := by decide +kernel
theorem dL_law_1252 : decode cL_law 1252 = .ok (.istore 6, 2) := by decide +kernel
theorem dL_law_1254 : decode cL_law 1254 = .ok (.aload_n 2, 1) := by decide +kernel
theorem dL_law_1255 : decode cL_law 1255 = .ok (.aload_n 0, 1) := by decide +kernel
theorem dL_law_1256 : decode cL_law 1256 = .ok (.iload 5, 2) := by decide +kernel
theorem dL_law_1258 : decode cL_law 1258 = .ok (.iconst 1, 1) := by decide +kernel
theorem dL_law_1259 : decode cL_law 1259 = .ok (.iadd, 1) := by decide +kernel
theorem dL_law_1260 : decode cL_law 1260 = .ok (.iaload, 1) := by decide +kernel
theorem dL_law_1261 : decode cL_law 1261 = .ok (.invokevirtual 166, 3) := by decide +kernel
theorem dL_law_1264 : decode cL_law 1264 = .ok (.dstore 7, 2) := by decide +kernel
theorem dL_law_1266 : decode cL_law 1266 = .ok (.aload_n 2, 1) := by decide +kernel
theorem dL_law_1267 : decode cL_law 1267 = .ok (.invokevirtual 99, 3) := by decide +kernel
theorem dL_law_1270 : decode cL_law 1270 = .ok (.iload 6, 2) := by decide +kernel
theorem dL_law_1272 : decode cL_law 1272 = .ok (.if_icmp .eq 5, 3) := by decide +kernel
theorem dL_law_1275 : decode cL_law 1275 = .ok (.iconst 0, 1) := by decide +kernel
theorem dL_law_1276 : decode cL_law 1276 = .ok (.ireturn, 1) := by decide +kernel
theorem dL_law_1277 : decode cL_law 1277 = .ok (.iload 6, 2) := by decide +kernel
theorem dL_law_1279 : decode cL_law 1279 = .ok (.ifCond .ne 35, 3) := by decide +kernel
theorem dL_law_1282 : decode cL_law 1282 = .ok (.aload 4, 2) := by decide +kernel
theorem dL_law_1284 : decode cL_law 1284 = .ok (.iconst 0, 1) := by decide +kernel
theorem dL_law_1285 : decode cL_law 1285 = .ok (.daload, 1) := by decide +kernel
theorem dL_law_1286 : decode cL_law 1286 = .ok (.dload 7, 2) := by decide +kernel
theorem dL_law_1288 : decode cL_law 1288 = .ok (.dcmp .l, 1) := by decide +kernel
theorem dL_law_1289 : decode cL_law 1289 = .ok (.ifCond .eq 25, 3) := by decide +kernel
theorem dL_law_1292 : decode cL_law 1292 = .ok (.aload 4, 2) := by decide +kernel
theorem dL_law_1294 : decode cL_law 1294 = .ok (.iconst 0, 1) := by decide +kernel
theorem dL_law_1295 : decode cL_law 1295 = .ok (.daload, 1) := by decide +kernel
theorem dL_law_1296 : decode cL_law 1296 = .ok (.aload 4, 2) := by decide +kernel
theorem dL_law_1298 : decode cL_law 1298 = .ok (.iconst 0, 1) := by decide +kernel
theorem dL_law_1299 : decode cL_law 1299 = .ok (.daload, 1) := by decide +kernel
theorem dL_law_1300 : decode cL_law 1300 = .ok (.dcmp .l, 1) := by decide +kernel
theorem dL_law_1301 : decode cL_law 1301 = .ok (.ifCond .eq 11, 3) := by decide +kernel
theorem dL_law_1304 : decode cL_law 1304 = .ok (.dload 7, 2) := by decide +kernel
theorem dL_law_1306 : decode cL_law 1306 = .ok (.dload 7, 2) := by decide +kernel
theorem dL_law_1308 : decode cL_law 1308 = .ok (.dcmp .l, 1) := by decide +kernel
theorem dL_law_1309 : decode cL_law 1309 = .ok (.ifCond .ne 5, 3) := by decide +kernel
theorem dL_law_1312 : decode cL_law 1312 = .ok (.iconst 0, 1) := by decide +kernel
theorem dL_law_1313 : decode cL_law 1313 = .ok (.ireturn, 1) := by decide +kernel
theorem dL_law_1314 : decode cL_law 1314 = .ok (.goto 243, 3) := by decide +kernel
theorem dL_law_1317 : decode cL_law 1317 = .ok (.aload_n 1, 1) := by decide +kernel
theorem dL_law_1318 : decode cL_law 1318 = .ok (.aload_n 0, 1) := by decide +kernel
theorem dL_law_1319 : decode cL_law 1319 = .ok (.iload 5, 2) := by decide +kernel
theorem dL_law_1321 : decode cL_law 1321 = .ok (.iconst 1, 1) := by decide +kernel
theorem dL_law_1322 : decode cL_law 1322 = .ok (.iadd, 1) := by decide +kernel
theorem dL_law_1323 : decode cL_law 1323 = .ok (.iaload, 1) := by decide +kernel
theorem dL_law_1324 : decode cL_law 1324 = .ok (.aload_n 3, 1) := by decide +kernel
theorem dL_law_1325 : decode cL_law 1325 = .ok (.invokestatic 167, 3) := by decide +kernel
theorem dL_law_1328 : decode cL_law 1328 = .ok (.istore 6, 2) := by decide +kernel
theorem dL_law_1330 : decode cL_law 1330 = .ok (.aload_n 2, 1) := by decide +kernel
theorem dL_law_1331 : decode cL_law 1331 = .ok (.aload_n 0, 1) := by decide +kernel
theorem dL_law_1332 : decode cL_law 1332 = .ok (.iload 5, 2) := by decide +kernel
theorem dL_law_1334 : decode cL_law 1334 = .ok (.iconst 1, 1) := by decide +kernel
theorem dL_law_1335 : decode cL_law 1335 = .ok (.iadd, 1) := by decide +kernel
theorem dL_law_1336 : decode cL_law 1336 = .ok (.iaload, 1) := by decide +kernel
theorem dL_law_1337 : decode cL_law 1337 = .ok (.invokevirtual 169, 3) := by decide +kernel
theorem dL_law_1340 : decode cL_law 1340 = .ok (.istore 7, 2) := by decide +kernel
theorem dL_law_1342 : decode cL_law 1342 = .ok (.aload_n 2, 1) := by decide +kernel
theorem dL_law_1343 : decode cL_law 1343 = .ok (.invokevirtual 99, 3) := by decide +kernel
theorem dL_law_1346 : decode cL_law 1346 = .ok (.iload 6, 2) := by decide +kernel
theorem dL_law_1348 : decode cL_law 1348 = .ok (.if_icmp .eq 5, 3) := by decide +kernel
theorem dL_law_1351 : decode cL_law 1351 = .ok (.iconst 0, 1) := by decide +kernel
theorem dL_law_1352 : decode cL_law 1352 = .ok (.ireturn, 1) := by decide +kernel
theorem dL_law_1353 : decode cL_law 1353 = .ok (.iload 6, 2) := by decide +kernel
theorem dL_law_1355 : decode cL_law 1355 = .ok (.ifCond .ne 15, 3) := by decide +kernel
theorem dL_law_1358 : decode cL_law 1358 = .ok (.aload_n 3, 1) := by decide +kernel
theorem dL_law_1359 : decode cL_law 1359 = .ok (.iconst 0, 1) := by decide +kernel
theorem dL_law_1360 : decode cL_law 1360 = .ok (.laload, 1) := by decide +kernel
theorem dL_law_1361 : decode cL_law 1361 = .ok (.iload 7, 2) := by decide +kernel
theorem dL_law_1363 : decode cL_law 1363 = .ok (.i2l, 1) := by decide +kernel
theorem dL_law_1364 : decode cL_law 1364 = .ok (.lcmp, 1) := by decide +kernel
theorem dL_law_1365 : decode cL_law 1365 = .ok (.ifCond .eq 5, 3) := by decide +kernel
theorem dL_law_1368 : decode cL_law 1368 = .ok (.iconst 0, 1) := by decide +kernel
theorem dL_law_1369 : decode cL_law 1369 = .ok (.ireturn, 1) := by decide +kernel
theorem dL_law_1370 : decode cL_law 1370 = .ok (.goto 187, 3) := by decide +kernel
theorem dL_law_1373 : decode cL_law 1373 = .ok (.aload_n 1, 1) := by decide +kernel
theorem dL_law_1374 : decode cL_law 1374 = .ok (.aload_n 0, 1) := by decide +kernel
theorem dL_law_1375 : decode cL_law 1375 = .ok (.iload 5, 2) := by decide +kernel
theorem dL_law_1377 : decode cL_law 1377 = .ok (.iconst 1, 1) := by decide +kernel
theorem dL_law_1378 : decode cL_law 1378 = .ok (.iadd, 1) := by decide +kernel
theorem dL_law_1379 : decode cL_law 1379 = .ok (.iaload, 1) := by decide +kernel
theorem dL_law_1380 : decode cL_law 1380 = .ok (.aload_n 3, 1) := by decide +kernel
theorem dL_law_1381 : decode cL_law 1381 = .ok (.invokestatic 170, 3) := by decide +kernel
theorem dL_law_1384 : decode cL_law 1384 = .ok (.istore 6, 2) := by decide +kernel
theorem dL_law_1386 : decode cL_law 1386 = .ok (.aload_n 2, 1) := by decide +kernel
theorem dL_law_1387 : decode cL_law 1387 = .ok (.aload_n 0, 1) := by decide +kernel
theorem dL_law_1388 : decode cL_law 1388 = .ok (.iload 5, 2) := by decide +kernel
theorem dL_law_1390 : decode cL_law 1390 = .ok (.iconst 1, 1) := by decide +kernel
theorem dL_law_1391 : decode cL_law 1391 = .ok (.iadd, 1) := by decide +kernel
theorem dL_law_1392 : decode cL_law 1392 = .ok (.iaload, 1) := by decide +kernel
theorem dL_law_1393 : decode cL_law 1393 = .ok (.invokevirtual 172, 3) := by decide +kernel
theorem dL_law_1396 : decode cL_law 1396 = .ok (.istore 7, 2) := by decide +kernel
theorem dL_law_1398 : decode cL_law 1398 = .ok (.aload_n 2, 1) := by decide +kernel
theorem dL_law_1399 : decode cL_law 1399 = .ok (.invokevirtual 99, 3) := by decide +kernel
theorem dL_law_1402 : decode cL_law 1402 = .ok (.iload 6, 2) := by decide +kernel
theorem dL_law_1404 : decode cL_law 1404 = .ok (.if_icmp .eq 5, 3) := by decide +kernel
theorem dL_law_1407 : decode cL_law 1407 = .ok (.iconst 0, 1) := by decide +kernel
theorem dL_law_1408 : decode cL_law 1408 = .ok (.ireturn, 1) := by decide +kernel
theorem dL_law_1409 : decode cL_law 1409 = .ok (.iload 6, 2) := by decide +kernel
theorem dL_law_1411 : decode cL_law 1411 = .ok (.ifCond .ne 15, 3) := by decide +kernel
theorem dL_law_1414 : decode cL_law 1414 = .ok (.aload_n 3, 1) := by decide +kernel
theorem dL_law_1415 : decode cL_law 1415 = .ok (.iconst 0, 1) := by decide +kernel
theorem dL_law_1416 : decode cL_law 1416 = .ok (.laload, 1) := by decide +kernel
theorem dL_law_1417 : decode cL_law 1417 = .ok (.iload 7, 2) := by decide +kernel
theorem dL_law_1419 : decode cL_law 1419 = .ok (.i2l, 1) := by decide +kernel
theorem dL_law_1420 : decode cL_law 1420 = .ok (.lcmp, 1) := by decide +kernel
theorem dL_law_1421 : decode cL_law 1421 = .ok (.ifCond .eq 5, 3) := by decide +kernel
theorem dL_law_1424 : decode cL_law 1424 = .ok (.iconst 0, 1) := by decide +kernel
theorem dL_law_1425 : decode cL_law 1425 = .ok (.ireturn, 1) := by decide +kernel
theorem dL_law_1426 : decode cL_law 1426 = .ok (.goto 131, 3) := by decide +kernel
theorem dL_law_1429 : decode cL_law 1429 = .ok (.aload_n 1, 1) := by decide +kernel
theorem dL_law_1430 : decode cL_law 1430 = .ok (.aload_n 0, 1) := by decide +kernel
theorem dL_law_1431 : decode cL_law 1431 = .ok (.iload 5, 2) := by decide +kernel
theorem dL_law_1433 : decode cL_law 1433 = .ok (.iconst 1, 1) := by decide +kernel
theorem dL_law_1434 : decode cL_law 1434 = .ok (.iadd, 1) := by decide +kernel
theorem dL_law_1435 : decode cL_law 1435 = .ok (.iaload, 1) := by decide +kernel
theorem dL_law_1436 : decode cL_law 1436 = .ok (.aload_n 3, 1) := by decide +kernel
theorem dL_law_1437 : decode cL_law 1437 = .ok (.invokestatic 173, 3) := by decide +kernel
theorem dL_law_1440 : decode cL_law 1440 = .ok (.istore 6, 2) := by decide +kernel
theorem dL_law_1442 : decode cL_law 1442 = .ok (.aload_n 2, 1) := by decide +kernel
theorem dL_law_1443 : decode cL_law 1443 = .ok (.aload_n 0, 1) := by decide +kernel
theorem dL_law_1444 : decode cL_law 1444 = .ok (.iload 5, 2) := by decide +kernel
theorem dL_law_1446 : decode cL_law 1446 = .ok (.iconst 1, 1) := by decide +kernel
theorem dL_law_1447 : decode cL_law 1447 = .ok (.iadd, 1) := by decide +kernel
theorem dL_law_1448 : decode cL_law 1448 = .ok (.iaload, 1) := by decide +kernel
theorem dL_law_1449 : decode cL_law 1449 = .ok (.invokevirtual 175, 3) := by decide +kernel
theorem dL_law_1452 : decode cL_law 1452 = .ok (.istore 7, 2) := by decide +kernel
theorem dL_law_1454 : decode cL_law 1454 = .ok (.aload_n 2, 1) := by decide +kernel
theorem dL_law_1455 : decode cL_law 1455 = .ok (.invokevirtual 99, 3) := by decide +kernel
theorem dL_law_1458 : decode cL_law 1458 = .ok (.iload 6, 2) := by decide +kernel
theorem dL_law_1460 : decode cL_law 1460 = .ok (.if_icmp .eq 5, 3) := by decide +kernel
theorem dL_law_1463 : decode cL_law 1463 = .ok (.iconst 0, 1) := by decide +kernel
theorem dL_law_1464 : decode cL_law 1464 = .ok (.ireturn, 1) := by decide +kernel
theorem dL_law_1465 : decode cL_law 1465 = .ok (.iload 6, 2) := by decide +kernel
theorem dL_law_1467 : decode cL_law 1467 = .ok (.ifCond .ne 15, 3) := by decide +kernel
theorem dL_law_1470 : decode cL_law 1470 = .ok (.aload_n 3, 1) := by decide +kernel
theorem dL_law_1471 : decode cL_law 1471 = .ok (.iconst 0, 1) := by decide +kernel
theorem dL_law_1472 : decode cL_law 1472 = .ok (.laload, 1) := by decide +kernel
theorem dL_law_1473 : decode cL_law 1473 = .ok (.iload 7, 2) := by decide +kernel
theorem dL_law_1475 : decode cL_law 1475 = .ok (.i2l, 1) := by decide +kernel
theorem dL_law_1476 : decode cL_law 1476 = .ok (.lcmp, 1) := by decide +kernel
theorem dL_law_1477 : decode cL_law 1477 = .ok (.ifCond .eq 5, 3) := by decide +kernel
theorem dL_law_1480 : decode cL_law 1480 = .ok (.iconst 0, 1) := by decide +kernel
theorem dL_law_1481 : decode cL_law 1481 = .ok (.ireturn, 1) := by decide +kernel
theorem dL_law_1482 : decode cL_law 1482 = .ok (.goto 75, 3) := by decide +kernel
theorem dL_law_1485 : decode cL_law 1485 = .ok (.aload_n 1, 1) := by decide +kernel
theorem dL_law_1486 : decode cL_law 1486 = .ok (.aload_n 0, 1) := by decide +kernel
theorem dL_law_1487 : decode cL_law 1487 = .ok (.iload 5, 2) := by decide +kernel
theorem dL_law_1489 : decode cL_law 1489 = .ok (.iconst 1, 1) := by decide +kernel
theorem dL_law_1490 : decode cL_law 1490 = .ok (.iadd, 1) := by decide +kernel
theorem dL_law_1491 : decode cL_law 1491 = .ok (.iaload, 1) := by decide +kernel
theorem dL_law_1492 : decode cL_law 1492 = .ok (.invokestatic 176, 3) := by decide +kernel
theorem dL_law_1495 : decode cL_law 1495 = .ok (.istore 6, 2) := by decide +kernel
theorem dL_law_1497 : decode cL_law 1497 = .ok (.aload_n 2, 1) := by decide +kernel
theorem dL_law_1498 : decode cL_law 1498 = .ok (.aload_n 0, 1) := by decide +kernel
theorem dL_law_1499 : decode cL_law 1499 = .ok (.iload 5, 2) := by decide +kernel
theorem dL_law_1501 : decode cL_law 1501 = .ok (.iconst 1, 1) := by decide +kernel
theorem dL_law_1502 : decode cL_law 1502 = .ok (.iadd, 1) := by decide +kernel
theorem dL_law_1503 : decode cL_law 1503 = .ok (.iaload, 1) := by decide +kernel
theorem dL_law_1504 : decode cL_law 1504 = .ok (.invokevirtual 179, 3) := by decide +kernel
theorem dL_law_1507 : decode cL_law 1507 = .ok (.aload_n 2, 1) := by decide +kernel
theorem dL_law_1508 : decode cL_law 1508 = .ok (.invokevirtual 99, 3) := by decide +kernel
theorem dL_law_1511 : decode cL_law 1511 = .ok (.iload 6, 2) := by decide +kernel
theorem dL_law_1513 : decode cL_law 1513 = .ok (.if_icmp .eq 5, 3) := by decide +kernel
theorem dL_law_1516 : decode cL_law 1516 = .ok (.iconst 0, 1) := by decide +kernel
theorem dL_law_1517 : decode cL_law 1517 = .ok (.ireturn, 1) := by decide +kernel
theorem dL_law_1518 : decode cL_law 1518 = .ok (.goto 39, 3) := by decide +kernel
theorem dL_law_1521 : decode cL_law 1521 = .ok (.aload_n 1, 1) := by decide +kernel
theorem dL_law_1522 : decode cL_law 1522 = .ok (.aload_n 0, 1) := by decide +kernel
theorem dL_law_1523 : decode cL_law 1523 = .ok (.iload 5, 2) := by decide +kernel
theorem dL_law_1525 : decode cL_law 1525 = .ok (.iconst 1, 1) := by decide +kernel
theorem dL_law_1526 : decode cL_law 1526 = .ok (.iadd, 1) := by decide +kernel
theorem dL_law_1527 : decode cL_law 1527 = .ok (.iaload, 1) := by decide +kernel
theorem dL_law_1528 : decode cL_law 1528 = .ok (.invokestatic 180, 3) := by decide +kernel
theorem dL_law_1531 : decode cL_law 1531 = .ok (.istore 6, 2) := by decide +kernel
theorem dL_law_1533 : decode cL_law 1533 = .ok (.aload_n 2, 1) := by decide +kernel
theorem dL_law_1534 : decode cL_law 1534 = .ok (.aload_n 0, 1) := by decide +kernel
theorem dL_law_1535 : decode cL_law 1535 = .ok (.iload 5, 2) := by decide +kernel
theorem dL_law_1537 : decode cL_law 1537 = .ok (.iconst 1, 1) := by decide +kernel
theorem dL_law_1538 : decode cL_law 1538 = .ok (.iadd, 1) := by decide +kernel
theorem dL_law_1539 : decode cL_law 1539 = .ok (.iaload, 1) := by decide +kernel
theorem dL_law_1540 : decode cL_law 1540 = .ok (.invokevirtual 182, 3) := by decide +kernel
theorem dL_law_1543 : decode cL_law 1543 = .ok (.aload_n 2, 1) := by decide +kernel
theorem dL_law_1544 : decode cL_law 1544 = .ok (.invokevirtual 99, 3) := by decide +kernel
theorem dL_law_1547 : decode cL_law 1547 = .ok (.iload 6, 2) := by decide +kernel
theorem dL_law_1549 : decode cL_law 1549 = .ok (.if_icmp .eq 5, 3) := by decide +kernel
theorem dL_law_1552 : decode cL_law 1552 = .ok (.iconst 0, 1) := by decide +kernel
theorem dL_law_1553 : decode cL_law 1553 = .ok (.ireturn, 1) := by decide +kernel
theorem dL_law_1554 : decode cL_law 1554 = .ok (.goto 3, 3) := by decide +kernel
theorem dL_law_1557 : decode cL_law 1557 = .ok (.iinc 5 3, 3) := by decide +kernel
theorem dL_law_1560 : decode cL_law 1560 = .ok (.goto (-1532), 3) := by decide +kernel
theorem dL_law_1563 : decode cL_law 1563 = .ok (.iconst 1, 1) := by decide +kernel
theorem dL_law_1564 : decode cL_law 1564 = .ok (.ireturn, 1) := by decide +kernel
abbrev vwCl : List vw_C := [(RX0, TX0, 5), (RX1, TX1, 4), (RX2, TX2, 4), (RX3, TX3, 10), (RX4, TX4, 14), (RX5, TX5, 2), (RX6, TX6, 6)]
end
section
/-! OWN LAYER 1: one flat memory of ints behind all cells of the system; names of cells, their contents, who owns a place -/
section FW1
abbrev fM : Type := Nat → Int32
abbrev fX : Type := Int64 × UInt64
def f_tys (K : Nat → ClassId) : List (ClassId × FieldType) := [(K 0, .int), (K 1, .boolean), (K 2, .object "LoadBalancer$Server"), (K 3, .object "LoadBalancer$State"), (K 4, .long), (K 5, .double)]
/-- a row of ints (or truth values) whose places begin at b -/
abbrev f_ia (K : Nat → ClassId) (t N : Nat) (G : fM) (b : Nat) : va_E := .inl (K t, N, .inl (fun j => G (b + j)))
abbrev f_ra (K : Nat → ClassId) (t N : Nat) (f : Nat → Option Nat) : va_E := .inl (K t, N, .inr (.inr (.inr (.inr f))))
/-- fields of a breaker whose places begin at b; of a server; of the state; of connections; of clients -/
abbrev f_fB (G : fM) (b : Nat) : List Value := [.int (G b), .int (G (b + 1)), .int (G (b + 2)), .int (G (b + 3)), .int (G (b + 4))]
abbrev f_fV (G : fM) (r b : Nat) : List Value := [.ref r, .int (G b), .int (G (b + 1)), .int (G (b + 2)), .int (G (b + 3)), .int (G (b + 4)), .int (G (b + 5)), .int (G (b + 6)), .int (G (b + 7)), .int (G (b + 8))]
abbrev f_fS (G : fM) (r0 r1 r2 b : Nat) : List Value := [.ref r0, .ref r1, .ref r2, .int (G b), .int (G (b + 1)), .int (G (b + 2)), .int (G (b + 3)), .int (G (b + 4)), .int (G (b + 5)), .int (G (b + 6)), .int (G (b + 7)), .int (G (b + 8)), .int (G (b + 9)), .int (G (b + 10))]
abbrev f_f3 (G : fM) (r0 r1 r2 b : Nat) : List Value := [.ref r0, .ref r1, .ref r2, .int (G b)]
/-- cell k of the state number s -/
def f_st (K : Nat → ClassId) (ad : Nat → Nat) (G : fM) (s k : Nat) : va_E :=
  if k = 0 then .inr (4, f_fS G (ad (100 * s + 1)) (ad (100 * s + 2)) (ad (100 * s + 6)) (10000 * s))
  else if k = 1 then f_ra K 2 10 (fun j => some (ad (100 * s + 10 + j)))
  else if k = 2 then .inr (2, f_f3 G (ad (100 * s + 3)) (ad (100 * s + 4)) (ad (100 * s + 5)) (10000 * s + 20))
  else if k = 3 then f_ia K 0 1000 G (10000 * s + 1000)
  else if k = 4 then f_ia K 0 1000 G (10000 * s + 2000)
  else if k = 5 then f_ia K 1 1000 G (10000 * s + 3000)
  else if k = 6 then .inr (1, f_f3 G (ad (100 * s + 7)) (ad (100 * s + 8)) (ad (100 * s + 9)) (10000 * s + 21))
  else if k = 7 then f_ia K 0 40 G (10000 * s + 400)
  else if k = 8 then f_ia K 0 40 G (10000 * s + 450)
  else if k = 9 then f_ia K 0 40 G (10000 * s + 500)
  else if k < 20 then .inr (3, f_fV G (ad (100 * s + 10 + k)) (10000 * s + 100 + 20 * (k - 10)))
  else if k < 30 then .inr (0, f_fB G (10000 * s + 110 + 20 * (k - 20)))
  else .inr (0, [])
/-- the cell of the name n -/
def f_E (K : Nat → ClassId) (NL : List Nat) (ad : Nat → Nat) (G : fM) (x : fX) (n : Nat) : va_E :=
  if n < 300 then f_st K ad G (n / 100) (n % 100)
  else if n = 300 then .inr (5, [.ref (ad 0), .ref (ad 301)])
  else if n = 301 then f_ra K 3 2 (fun j => if 100 * (j + 1) ∈ NL then some (ad (100 * (j + 1))) else none)
  else if n = 310 then .inr (6, [.ref (ad 311), .ref (ad 312), .ref (ad 313), .int (G 40000), .ref (ad 314), .int (G 40001)])
  else if n = 311 then f_ia K 0 3263 G 41000
  else if n = 312 then f_ia K 0 6526 G 50000
  else if n = 313 then f_ia K 1 2 G 40030
  else if n = 314 then f_ia K 0 10 G 40010
  else if n = 320 then .inl (K 4, 1, .inr (.inl (fun _ => x.1)))
  else .inl (K 5, 1, .inr (.inr (.inr (.inl (fun _ => x.2)))))
/-- which cell owns the place g -/
def f_own (g : Nat) : Nat :=
  if g < 30000 then
    (if g % 10000 < 20 then 100 * (g / 10000)
     else if g % 10000 = 20 then 100 * (g / 10000) + 2
     else if g % 10000 = 21 then 100 * (g / 10000) + 6
     else if g % 10000 < 400 then (if (g % 10000 - 100) % 20 < 10 then 100 * (g / 10000) + 10 + (g % 10000 - 100) / 20 else 100 * (g / 10000) + 20 + (g % 10000 - 100) / 20)
     else if g % 10000 < 450 then 100 * (g / 10000) + 7
     else if g % 10000 < 500 then 100 * (g / 10000) + 8
     else if g % 10000 < 1000 then 100 * (g / 10000) + 9
     else if g % 10000 < 2000 then 100 * (g / 10000) + 3
     else if g % 10000 < 3000 then 100 * (g / 10000) + 4
     else 100 * (g / 10000) + 5)
  else if g < 40010 then 310 else if g < 40030 then 314 else if g < 41000 then 313 else if g < 50000 then 311 else 312
abbrev f_W (K : Nat → ClassId) (NL : List Nat) (ad : Nat → Nat) (G : fM) (x : fX) : va_W := NL.map (fun n => (ad n, f_E K NL ad G x n))
theorem f_at_ne {g i n : Nat} {G : fM} {v : Int32} (h : f_own g ≠ n) (hi : f_own i = n) : upd G g v i = G i := by
  have : i ≠ g := fun e => h (by rw [← e]; exact hi)
  simp [upd, this]
theorem f_ia_cell {c : ClassId} {N : Nat} {f g : Nat → Int32} (h : ∀ j, j < N → f j = g j) : vp_cell c (N, .inl f) = vp_cell c (N, .inl g) := by
  rw [vp_cell_i, vp_cell_i]
  unfold arrV
  congr 1
  apply Array.ext
  · simp
  · intro i h1 h2
    simp only [Array.getElem_ofFn]
    rw [h i (by simpa using h1)]
end FW1
section FW1b
/-- what the places of the state s are owned by -/
theorem f_own_S (s c : Nat) (hs : s < 3) (hc : c < 20) : f_own (10000 * s + c) = 100 * s := by
  unfold f_own; repeat (first | omega | split)
theorem f_own_20 (s : Nat) (hs : s < 3) : f_own (10000 * s + 20) = 100 * s + 2 := by
  unfold f_own; repeat (first | omega | split)
theorem f_own_21 (s : Nat) (hs : s < 3) : f_own (10000 * s + 21) = 100 * s + 6 := by
  unfold f_own; repeat (first | omega | split)
theorem f_own_V (s i c : Nat) (hs : s < 3) (hi : i < 10) (hc : c < 10) : f_own (10000 * s + 100 + 20 * i + c) = 100 * s + 10 + i := by
  unfold f_own; repeat (first | omega | split)
theorem f_own_B (s i c : Nat) (hs : s < 3) (hi : i < 10) (hc : c < 10) : f_own (10000 * s + 110 + 20 * i + c) = 100 * s + 20 + i := by
  unfold f_own; repeat (first | omega | split)
theorem f_own_7 (s j : Nat) (hs : s < 3) (hj : j < 40) : f_own (10000 * s + 400 + j) = 100 * s + 7 := by
  unfold f_own; repeat (first | omega | split)
theorem f_own_8 (s j : Nat) (hs : s < 3) (hj : j < 40) : f_own (10000 * s + 450 + j) = 100 * s + 8 := by
  unfold f_own; repeat (first | omega | split)
theorem f_own_9 (s j : Nat) (hs : s < 3) (hj : j < 40) : f_own (10000 * s + 500 + j) = 100 * s + 9 := by
  unfold f_own; repeat (first | omega | split)
theorem f_own_3 (s j : Nat) (hs : s < 3) (hj : j < 1000) : f_own (10000 * s + 1000 + j) = 100 * s + 3 := by
  unfold f_own; repeat (first | omega | split)
theorem f_own_4 (s j : Nat) (hs : s < 3) (hj : j < 1000) : f_own (10000 * s + 2000 + j) = 100 * s + 4 := by
  unfold f_own; repeat (first | omega | split)
theorem f_own_5 (s j : Nat) (hs : s < 3) (hj : j < 1000) : f_own (10000 * s + 3000 + j) = 100 * s + 5 := by
  unfold f_own; repeat (first | omega | split)
theorem f_own_at (j : Nat) (hj : j < 3263) : f_own (41000 + j) = 311 := by
  unfold f_own; repeat (first | omega | split)
theorem f_own_sl (j : Nat) (hj : j < 6526) : f_own (50000 + j) = 312 := by
  unfold f_own; repeat (first | omega | split)
theorem f_own_sv (j : Nat) (hj : j < 2) : f_own (40030 + j) = 313 := by
  unfold f_own; repeat (first | omega | split)
theorem f_own_rw (j : Nat) (hj : j < 10) : f_own (40010 + j) = 314 := by
  unfold f_own; repeat (first | omega | split)
theorem f_own_m (c : Nat) (hc : c < 2) : f_own (40000 + c) = 310 := by
  unfold f_own; repeat (first | omega | split)
theorem f_keep_ia {D : va_G} {cl : List vw_C} {K : Nat → ClassId} {t N b g a : Nat} {G : fM} {v : Int32} {H : Heap} (hne : ∀ j, j < N → upd G g v (b + j) = G (b + j)) (h : va_at D cl (a, f_ia K t N G b) H) : va_at D cl (a, f_ia K t N (upd G g v) b) H := by
  show H[a]? = some (vp_cell _ _)
  rw [f_ia_cell (f := fun j => upd G g v (b + j)) (g := fun j => G (b + j)) hne]
  exact h
theorem f_st0 (K : Nat → ClassId) (ad : Nat → Nat) (G : fM) (s : Nat) : f_st K ad G s 0 = .inr (4, f_fS G (ad (100 * s + 1)) (ad (100 * s + 2)) (ad (100 * s + 6)) (10000 * s)) := rfl
theorem f_st1 (K : Nat → ClassId) (ad : Nat → Nat) (G : fM) (s : Nat) : f_st K ad G s 1 = f_ra K 2 10 (fun j => some (ad (100 * s + 10 + j))) := rfl
theorem f_st2 (K : Nat → ClassId) (ad : Nat → Nat) (G : fM) (s : Nat) : f_st K ad G s 2 = .inr (2, f_f3 G (ad (100 * s + 3)) (ad (100 * s + 4)) (ad (100 * s + 5)) (10000 * s + 20)) := rfl
theorem f_st3 (K : Nat → ClassId) (ad : Nat → Nat) (G : fM) (s : Nat) : f_st K ad G s 3 = f_ia K 0 1000 G (10000 * s + 1000) := rfl
theorem f_st4 (K : Nat → ClassId) (ad : Nat → Nat) (G : fM) (s : Nat) : f_st K ad G s 4 = f_ia K 0 1000 G (10000 * s + 2000) := rfl
theorem f_st5 (K : Nat → ClassId) (ad : Nat → Nat) (G : fM) (s : Nat) : f_st K ad G s 5 = f_ia K 1 1000 G (10000 * s + 3000) := rfl
theorem f_st6 (K : Nat → ClassId) (ad : Nat → Nat) (G : fM) (s : Nat) : f_st K ad G s 6 = .inr (1, f_f3 G (ad (100 * s + 7)) (ad (100 * s + 8)) (ad (100 * s + 9)) (10000 * s + 21)) := rfl
theorem f_st7 (K : Nat → ClassId) (ad : Nat → Nat) (G : fM) (s : Nat) : f_st K ad G s 7 = f_ia K 0 40 G (10000 * s + 400) := rfl
theorem f_st8 (K : Nat → ClassId) (ad : Nat → Nat) (G : fM) (s : Nat) : f_st K ad G s 8 = f_ia K 0 40 G (10000 * s + 450) := rfl
theorem f_st9 (K : Nat → ClassId) (ad : Nat → Nat) (G : fM) (s : Nat) : f_st K ad G s 9 = f_ia K 0 40 G (10000 * s + 500) := rfl
theorem f_stge (K : Nat → ClassId) (ad : Nat → Nat) (G : fM) (s k : Nat) (hk : 10 ≤ k) : f_st K ad G s k = (if k < 20 then .inr (3, f_fV G (ad (100 * s + 10 + k)) (10000 * s + 100 + 20 * (k - 10))) else if k < 30 then .inr (0, f_fB G (10000 * s + 110 + 20 * (k - 20))) else .inr (0, [])) := by
  delta f_st
  rw [if_neg (show ¬ k = 0 by omega), if_neg (show ¬ k = 1 by omega), if_neg (show ¬ k = 2 by omega), if_neg (show ¬ k = 3 by omega), if_neg (show ¬ k = 4 by omega), if_neg (show ¬ k = 5 by omega), if_neg (show ¬ k = 6 by omega), if_neg (show ¬ k = 7 by omega), if_neg (show ¬ k = 8 by omega), if_neg (show ¬ k = 9 by omega)]
theorem f_stV (K : Nat → ClassId) (ad : Nat → Nat) (G : fM) (s i : Nat) (hi : i < 10) : f_st K ad G s (10 + i) = .inr (3, f_fV G (ad (100 * s + 20 + i)) (10000 * s + 100 + 20 * i)) := by
  rw [f_stge K ad G s (10 + i) (by omega), if_pos (by omega), show 10 + i - 10 = i by omega, show 100 * s + 10 + (10 + i) = 100 * s + 20 + i by omega]
theorem f_stB (K : Nat → ClassId) (ad : Nat → Nat) (G : fM) (s i : Nat) (hi : i < 10) : f_st K ad G s (20 + i) = .inr (0, f_fB G (10000 * s + 110 + 20 * i)) := by
  rw [f_stge K ad G s (20 + i) (by omega), if_neg (by omega), if_pos (by omega), show 20 + i - 20 = i by omega]
theorem f_stZ (K : Nat → ClassId) (ad : Nat → Nat) (G : fM) (s k : Nat) (hk : 30 ≤ k) : f_st K ad G s k = .inr (0, []) := by
  rw [f_stge K ad G s k (by omega), if_neg (by omega), if_neg (by omega)]
theorem f_keep_st {D : va_G} {cl : List vw_C} {K : Nat → ClassId} {ad : Nat → Nat} {G : fM} {s k g a : Nat} {v : Int32} {H : Heap} (hs : s < 3) (hg : f_own g ≠ 100 * s + k) (h : va_at D cl (a, f_st K ad G s k) H) : va_at D cl (a, f_st K ad (upd G g v) s k) H := by
  rcases (show k = 0 ∨ k = 1 ∨ k = 2 ∨ k = 3 ∨ k = 4 ∨ k = 5 ∨ k = 6 ∨ k = 7 ∨ k = 8 ∨ k = 9 ∨ (∃ i, i < 10 ∧ k = 10 + i) ∨ (∃ i, i < 10 ∧ k = 20 + i) ∨ 30 ≤ k by
    by_cases h1 : k < 10
    · omega
    · by_cases h2 : k < 20
      · exact Or.inr (Or.inr (Or.inr (Or.inr (Or.inr (Or.inr (Or.inr (Or.inr (Or.inr (Or.inr (Or.inl ⟨k - 10, by omega, by omega⟩))))))))))
      · by_cases h3 : k < 30
        · exact Or.inr (Or.inr (Or.inr (Or.inr (Or.inr (Or.inr (Or.inr (Or.inr (Or.inr (Or.inr (Or.inr (Or.inl ⟨k - 20, by omega, by omega⟩)))))))))))
        · omega) with rfl | rfl | rfl | rfl | rfl | rfl | rfl | rfl | rfl | rfl | ⟨i, hi, rfl⟩ | ⟨i, hi, rfl⟩ | hk
  · have e : ∀ c, c < 20 → upd G g v (10000 * s + c) = G (10000 * s + c) := fun c hc => f_at_ne hg (f_own_S s c hs hc)
    have e0 : upd G g v (10000 * s) = G (10000 * s) := e 0 (by decide)
    rw [f_st0] at h ⊢
    have e9 : f_fS (upd G g v) (ad (100 * s + 1)) (ad (100 * s + 2)) (ad (100 * s + 6)) (10000 * s) = f_fS G (ad (100 * s + 1)) (ad (100 * s + 2)) (ad (100 * s + 6)) (10000 * s) := by
      unfold f_fS
      rw [e0, e 1 (by decide), e 2 (by decide), e 3 (by decide), e 4 (by decide), e 5 (by decide), e 6 (by decide), e 7 (by decide), e 8 (by decide), e 9 (by decide), e 10 (by decide)]
    rw [e9]
    exact h
  · exact h
  · have e0 : upd G g v (10000 * s + 20) = G (10000 * s + 20) := f_at_ne hg (f_own_20 s hs)
    rw [f_st2] at h ⊢
    unfold f_f3 at h ⊢
    rw [e0]
    exact h
  · exact f_keep_ia (fun j hj => f_at_ne hg (f_own_3 s j hs hj)) h
  · exact f_keep_ia (fun j hj => f_at_ne hg (f_own_4 s j hs hj)) h
  · exact f_keep_ia (fun j hj => f_at_ne hg (f_own_5 s j hs hj)) h
  · have e0 : upd G g v (10000 * s + 21) = G (10000 * s + 21) := f_at_ne hg (f_own_21 s hs)
    rw [f_st6] at h ⊢
    unfold f_f3 at h ⊢
    rw [e0]
    exact h
  · exact f_keep_ia (fun j hj => f_at_ne hg (f_own_7 s j hs hj)) h
  · exact f_keep_ia (fun j hj => f_at_ne hg (f_own_8 s j hs hj)) h
  · exact f_keep_ia (fun j hj => f_at_ne hg (f_own_9 s j hs hj)) h
  · have e : ∀ c, c < 10 → upd G g v (10000 * s + 100 + 20 * i + c) = G (10000 * s + 100 + 20 * i + c) := fun c hc => f_at_ne hg (by rw [f_own_V s i c hs hi hc, Nat.add_assoc])
    have e0 : upd G g v (10000 * s + 100 + 20 * i) = G (10000 * s + 100 + 20 * i) := e 0 (by decide)
    rw [f_stV _ _ _ _ _ hi] at h ⊢
    unfold f_fV at h ⊢
    rw [e0, e 1 (by decide), e 2 (by decide), e 3 (by decide), e 4 (by decide), e 5 (by decide), e 6 (by decide), e 7 (by decide), e 8 (by decide)]
    exact h
  · have e : ∀ c, c < 10 → upd G g v (10000 * s + 110 + 20 * i + c) = G (10000 * s + 110 + 20 * i + c) := fun c hc => f_at_ne hg (by rw [f_own_B s i c hs hi hc, Nat.add_assoc])
    have e0 : upd G g v (10000 * s + 110 + 20 * i) = G (10000 * s + 110 + 20 * i) := e 0 (by decide)
    rw [f_stB _ _ _ _ _ hi] at h ⊢
    unfold f_fB at h ⊢
    rw [e0, e 1 (by decide), e 2 (by decide), e 3 (by decide), e 4 (by decide)]
    exact h
  · rw [f_stZ _ _ _ _ _ hk] at h ⊢
    exact h
theorem f_E300 (K : Nat → ClassId) (NL : List Nat) (ad : Nat → Nat) (G : fM) (x : fX) : f_E K NL ad G x 300 = .inr (5, [.ref (ad 0), .ref (ad 301)]) := rfl
theorem f_E301 (K : Nat → ClassId) (NL : List Nat) (ad : Nat → Nat) (G : fM) (x : fX) : f_E K NL ad G x 301 = f_ra K 3 2 (fun j => if 100 * (j + 1) ∈ NL then some (ad (100 * (j + 1))) else none) := rfl
theorem f_E310 (K : Nat → ClassId) (NL : List Nat) (ad : Nat → Nat) (G : fM) (x : fX) : f_E K NL ad G x 310 = .inr (6, [.ref (ad 311), .ref (ad 312), .ref (ad 313), .int (G 40000), .ref (ad 314), .int (G 40001)]) := rfl
theorem f_E311 (K : Nat → ClassId) (NL : List Nat) (ad : Nat → Nat) (G : fM) (x : fX) : f_E K NL ad G x 311 = f_ia K 0 3263 G 41000 := rfl
theorem f_E312 (K : Nat → ClassId) (NL : List Nat) (ad : Nat → Nat) (G : fM) (x : fX) : f_E K NL ad G x 312 = f_ia K 0 6526 G 50000 := rfl
theorem f_E313 (K : Nat → ClassId) (NL : List Nat) (ad : Nat → Nat) (G : fM) (x : fX) : f_E K NL ad G x 313 = f_ia K 1 2 G 40030 := rfl
theorem f_E314 (K : Nat → ClassId) (NL : List Nat) (ad : Nat → Nat) (G : fM) (x : fX) : f_E K NL ad G x 314 = f_ia K 0 10 G 40010 := rfl
theorem f_E320 (K : Nat → ClassId) (NL : List Nat) (ad : Nat → Nat) (G : fM) (x : fX) : f_E K NL ad G x 320 = .inl (K 4, 1, .inr (.inl (fun _ => x.1))) := rfl
theorem f_E321 (K : Nat → ClassId) (NL : List Nat) (ad : Nat → Nat) (G : fM) (x : fX) : f_E K NL ad G x 321 = .inl (K 5, 1, .inr (.inr (.inr (.inl (fun _ => x.2))))) := rfl
theorem f_Est (K : Nat → ClassId) (NL : List Nat) (ad : Nat → Nat) (G : fM) (x : fX) (n : Nat) (hn : n < 300) : f_E K NL ad G x n = f_st K ad G (n / 100) (n % 100) := by
  delta f_E
  rw [if_pos hn]
theorem f_Egt (K : Nat → ClassId) (NL : List Nat) (ad : Nat → Nat) (G : fM) (x : fX) (n : Nat) (hn : ¬ n < 300) (h0 : n ≠ 300) (h1 : n ≠ 301) (h2 : n ≠ 310) (h3 : n ≠ 311) (h4 : n ≠ 312) (h5 : n ≠ 313) (h6 : n ≠ 314) : f_E K NL ad G x n = (if n = 320 then .inl (K 4, 1, .inr (.inl (fun _ => x.1))) else .inl (K 5, 1, .inr (.inr (.inr (.inl (fun _ => x.2)))))) := by
  delta f_E
  rw [if_neg hn, if_neg h0, if_neg h1, if_neg h2, if_neg h3, if_neg h4, if_neg h5, if_neg h6]
theorem f_keep {D : va_G} {cl : List vw_C} {K : Nat → ClassId} {NL : List Nat} {ad : Nat → Nat} {G : fM} {x : fX} {n g : Nat} {v : Int32} {H : Heap} (hg : f_own g ≠ n) (h : va_at D cl (ad n, f_E K NL ad G x n) H) : va_at D cl (ad n, f_E K NL ad (upd G g v) x n) H := by
  by_cases hn : n < 300
  · rw [f_Est _ _ _ _ _ _ hn] at h ⊢
    exact f_keep_st (by omega) (by omega) h
  by_cases h0 : n = 300
  · subst h0; exact h
  by_cases h1 : n = 301
  · subst h1; exact h
  by_cases h2 : n = 310
  · subst h2
    rw [f_E310] at h ⊢
    rw [f_at_ne (i := 40000) hg (f_own_m 0 (by decide)), f_at_ne (i := 40001) hg (f_own_m 1 (by decide))]
    exact h
  by_cases h3 : n = 311
  · subst h3; exact f_keep_ia (fun j hj => f_at_ne hg (f_own_at j hj)) h
  by_cases h4 : n = 312
  · subst h4; exact f_keep_ia (fun j hj => f_at_ne hg (f_own_sl j hj)) h
  by_cases h5 : n = 313
  · subst h5; exact f_keep_ia (fun j hj => f_at_ne hg (f_own_sv j hj)) h
  by_cases h6 : n = 314
  · subst h6; exact f_keep_ia (fun j hj => f_at_ne hg (f_own_rw j hj)) h
  rw [f_Egt _ _ _ _ _ _ hn h0 h1 h2 h3 h4 h5 h6] at h ⊢
  exact h
/-- the places in the list of cells -/
theorem f_W_at {K : Nat → ClassId} {NL : List Nat} {ad : Nat → Nat} {G : fM} {x : fX} {q n : Nat} (h : NL[q]? = some n) : (f_W K NL ad G x)[q]? = some (ad n, f_E K NL ad G x n) := by
  rw [List.getElem?_map, h]; rfl
theorem f_W_of {K : Nat → ClassId} {NL : List Nat} {ad : Nat → Nat} {G : fM} {x : fX} {q : Nat} {z : Nat × va_E} (h : (f_W K NL ad G x)[q]? = some z) : ∃ n, NL[q]? = some n ∧ z = (ad n, f_E K NL ad G x n) := by
  rw [List.getElem?_map] at h
  cases hq : NL[q]? with
  | none => rw [hq] at h; cases h
  | some n => rw [hq] at h; exact ⟨n, rfl, (Option.some.inj h).symm⟩
/-- apart, whatever they hold -/
def f_D (A : Nat → Prop) (NL : List Nat) (ad : Nat → Nat) : Prop := va_D A (NL.map (fun n => (ad n, (Sum.inr (0, []) : va_E))))
theorem f_D.to {A : Nat → Prop} {K : Nat → ClassId} {NL : List Nat} {ad : Nat → Nat} {G : fM} {x : fX} (h : f_D A NL ad) : va_D A (f_W K NL ad G x) := by
  have key : ∀ (q : Nat) (z : Nat × va_E), (f_W K NL ad G x)[q]? = some z → (NL.map (fun n => (ad n, (Sum.inr (0, []) : va_E))))[q]? = some (z.1, Sum.inr (0, [])) := by
    intro q z hz
    obtain ⟨n, h1, h2⟩ := f_W_of hz
    rw [List.getElem?_map, h1, h2]; rfl
  exact ⟨fun i j p q hi hj e => h.1 i j _ _ (key i p hi) (key j q hj) e, fun k q hk => h.2 k (q.1, Sum.inr (0, [])) (key k q hk)⟩
theorem f_D.A {A : Nat → Prop} {NL : List Nat} {ad : Nat → Nat} (h : f_D A NL ad) {n : Nat} (hn : n ∈ NL) : A (ad n) := by
  obtain ⟨q, hq⟩ := List.getElem?_of_mem hn
  exact h.2 q (ad n, Sum.inr (0, [])) (by rw [List.getElem?_map, hq]; rfl)
theorem f_P_set {D : va_G} {cl : List vw_C} {A : Nat → Prop} {K : Nat → ClassId} {NL : List Nat} {ad : Nat → Nat} {G : fM} {x : fX} {q n g : Nat} {v : Int32} {e : va_E} {H : Heap} (hD : f_D A NL ad) (hq : NL[q]? = some n) (hg : f_own g = n) (he : f_E K NL ad (upd G g v) x n = e) (h : va_P D cl ((f_W K NL ad G x).set q (ad n, e)) H) : va_P D cl (f_W K NL ad (upd G g v) x) H := by
  have hl : q < (f_W K NL ad G x).length := by
    rw [List.length_map]; exact (List.getElem?_eq_some_iff.mp hq).1
  intro k z hz
  obtain ⟨n', h1, h2⟩ := f_W_of hz
  subst h2
  by_cases hk : k = q
  · subst hk
    cases Option.some.inj (h1.symm.trans hq)
    have := h k (ad n, e) (by rw [List.getElem?_set_self hl])
    rw [← he] at this
    exact this
  · have := h k (ad n', f_E K NL ad G x n') (by rw [List.getElem?_set_ne (Ne.symm hk)]; exact f_W_at h1)
    refine f_keep (fun e9 => hk ?_) this
    have hnn : n' = n := by rw [← e9, hg]
    rw [hnn] at h1
    exact hD.1 k q (ad n, Sum.inr (0, [])) (ad n, Sum.inr (0, [])) (by rw [List.getElem?_map, h1]; rfl) (by rw [List.getElem?_map, hq]; rfl) rfl
/-- the values beside the memory -/
theorem f_P_x {D : va_G} {cl : List vw_C} {A : Nat → Prop} {K : Nat → ClassId} {NL : List Nat} {ad : Nat → Nat} {G : fM} {x x1 : fX} {q n : Nat} {e : va_E} {H : Heap} (hD : f_D A NL ad) (hq : NL[q]? = some n) (hn : ∀ n', n' ≠ n → f_E K NL ad G x1 n' = f_E K NL ad G x n') (he : f_E K NL ad G x1 n = e) (h : va_P D cl ((f_W K NL ad G x).set q (ad n, e)) H) : va_P D cl (f_W K NL ad G x1) H := by
  have hl : q < (f_W K NL ad G x).length := by
    rw [List.length_map]; exact (List.getElem?_eq_some_iff.mp hq).1
  intro k z hz
  obtain ⟨n', h1, h2⟩ := f_W_of hz
  subst h2
  by_cases hk : k = q
  · subst hk
    cases Option.some.inj (h1.symm.trans hq)
    have := h k (ad n, e) (by rw [List.getElem?_set_self hl])
    rw [← he] at this
    exact this
  · have := h k (ad n', f_E K NL ad G x n') (by rw [List.getElem?_set_ne (Ne.symm hk)]; exact f_W_at h1)
    rw [hn n' (fun e9 => hk ?_)]
    · exact this
    · rw [e9] at h1
      exact hD.1 k q (ad n, Sum.inr (0, [])) (ad n, Sum.inr (0, [])) (by rw [List.getElem?_map, h1]; rfl) (by rw [List.getElem?_map, hq]; rfl) rfl
end FW1b
end
