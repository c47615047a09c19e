/-! OWN LAYER 11: constructors, over a list of cells -/
section FW11
def f_NI (U : State) : Prop := f_N U ∧ va_AO "LoadBalancer$Server" U ∧ va_AO "LoadBalancer$State" U
theorem f_NI.warm {s U : State} (hW : s.WarmedH U.vm) (h : f_NI s) : f_NI U := ⟨f_N.warm hW h.1, va_AO.moved hW.alike h.2.1, va_AO.moved hW.alike h.2.2⟩
theorem f_NI.same {s U : State} (hv : s.vm = U.vm) (h : f_NI s) : f_NI U := ⟨f_N.same hv h.1, va_AO.moved (by rw [hv]; exact Vm.Alike.refl _) h.2.1, va_AO.moved (by rw [hv]; exact Vm.Alike.refl _) h.2.2⟩
def Wc (p : Program) (l : Launch) (e : Env) (R : Room) (s : State) (m : MethodId) (args : Array Value) (below : List Frame) (meth : Method) (c : Code) (D : va_G) (A : Nat → Prop) (H0 : Heap) (nL cells slots : Nat) (Q : State → Prop) (ws : va_W) (pc : Nat) (L : List (Option Value)) (st : List Value) : Prop :=
  ∀ (H : Heap) (locs : List Loc) (ls : Array Slot), va_P D vwCl ws H → va_D A ws → va_S A H0 H locs → f_L ls nL L → W p l e R s m args below meth c H locs cells slots Q (F0 m pc ls st)
/-- what holds all through a constructor -/
def Ci (p : Program) (s : State) (m : MethodId) (args : Array Value) (meth : Method) (c : Code) (cc : ByteArray) (nL : Nat) (Ts : List Cond) (own : String) (D : va_G) (K : Nat → ClassId) (A : Nat → Prop) (H0 : Heap) : Prop :=
  CallFix p m c cc nL s args Ts own ∧ va_K D vwCl (f_tys K) s ∧ f_NI s ∧ ∀ q, H0.size ≤ q → A q
section Rows11
variable {p : Program} {l : Launch} {e : Env} {R : Room} {s : State} {m : MethodId} {args : Array Value} {below : List Frame} {meth : Method} {c : Code} {D : va_G} {K : Nat → ClassId} {A : Nat → Prop} {H0 : Heap} {nL cells slots : Nat} {Q : State → Prop}
variable {cc : ByteArray} {Ts : List Cond} {own : String} {ws ws' : va_W} {pc : Nat} {L : List (Option Value)} {rest st0 : List Value}
theorem Wc.eq (h : ws = ws') (kk : Wc p l e R s m args below meth c D A H0 nL cells slots Q ws' pc L st0) : Wc p l e R s m args below meth c D A H0 nL cells slots Q ws pc L st0 := h ▸ kk
theorem wc_widen {k n : Nat} (h1 : cells ≤ k) (h2 : slots ≤ n) (kk : Wc p l e R s m args below meth c D A H0 nL k n Q ws pc L st0) : Wc p l e R s m args below meth c D A H0 nL cells slots Q ws pc L st0 := fun H locs ls a1 a2 a3 a4 => W.widen h1 h2 (kk H locs ls a1 a2 a3 a4)
theorem wc_aload_n (hC : Ci p s m args meth c cc nL Ts own D K A H0) {k : Fin 4} {i u : Nat} (hdg : decode cc pc = .ok (.aload_n k, 1)) (hi : (k : Nat) = i) (hl : f_nth L i = some (.ref u)) (kk : Wc p l e R s m args below meth c D A H0 nL cells slots Q ws (pc + 1) L (.ref u :: rest)) : Wc p l e R s m args below meth c D A H0 nL cells slots Q ws pc L rest := fun H locs ls h1 h2 h3 h4 => lv_aload_n hC.1.1 hC.1.2.1 hdg hi (h4.at hl) (kk H locs ls h1 h2 h3 h4)
theorem wc_iload_n (hC : Ci p s m args meth c cc nL Ts own D K A H0) {k : Fin 4} {i : Nat} {u : Int32} (hdg : decode cc pc = .ok (.iload_n k, 1)) (hi : (k : Nat) = i) (hl : f_nth L i = some (.int u)) (kk : Wc p l e R s m args below meth c D A H0 nL cells slots Q ws (pc + 1) L (.int u :: rest)) : Wc p l e R s m args below meth c D A H0 nL cells slots Q ws pc L rest := fun H locs ls h1 h2 h3 h4 => lv_iload_n hC.1.1 hC.1.2.1 hdg hi (h4.at hl) (kk H locs ls h1 h2 h3 h4)
theorem wc_iconst (hC : Ci p s m args meth c cc nL Ts own D K A H0) {n : Int} {v : Int32} (hdg : decode cc pc = .ok (.iconst n, 1)) (hv : Int32.ofInt n = v) (kk : Wc p l e R s m args below meth c D A H0 nL cells slots Q ws (pc + 1) L (.int v :: rest)) : Wc p l e R s m args below meth c D A H0 nL cells slots Q ws pc L rest := fun H locs ls h1 h2 h3 h4 => lv_iconst hC.1.1 hC.1.2.1 hdg hv (kk H locs ls h1 h2 h3 h4)
theorem wc_bipush (hC : Ci p s m args meth c cc nL Ts own D K A H0) {n : Int} {v : Int32} (hdg : decode cc pc = .ok (.bipush n, 2)) (hv : (Int8.ofInt n).toInt32 = v) (kk : Wc p l e R s m args below meth c D A H0 nL cells slots Q ws (pc + 2) L (.int v :: rest)) : Wc p l e R s m args below meth c D A H0 nL cells slots Q ws pc L rest := fun H locs ls h1 h2 h3 h4 => lv_bipush hC.1.1 hC.1.2.1 hdg hv (kk H locs ls h1 h2 h3 h4)
theorem wc_sipush (hC : Ci p s m args meth c cc nL Ts own D K A H0) {n : Int} {v : Int32} (hdg : decode cc pc = .ok (.sipush n, 3)) (hv : (Int16.ofInt n).toInt32 = v) (kk : Wc p l e R s m args below meth c D A H0 nL cells slots Q ws (pc + 3) L (.int v :: rest)) : Wc p l e R s m args below meth c D A H0 nL cells slots Q ws pc L rest := fun H locs ls h1 h2 h3 h4 => lv_sipush hC.1.1 hC.1.2.1 hdg hv (kk H locs ls h1 h2 h3 h4)
theorem wc_dup (hC : Ci p s m args meth c cc nL Ts own D K A H0) {a : Value} (hdg : decode cc pc = .ok (.dup, 1)) (ha : a.category = 1) (kk : Wc p l e R s m args below meth c D A H0 nL cells slots Q ws (pc + 1) L (a :: a :: rest)) : Wc p l e R s m args below meth c D A H0 nL cells slots Q ws pc L (a :: rest) := fun H locs ls h1 h2 h3 h4 => lv_dup hC.1.1 hC.1.2.1 hdg ha (kk H locs ls h1 h2 h3 h4)
theorem wc_istore_n (hC : Ci p s m args meth c cc nL Ts own D K A H0) {k : Fin 4} {i : Nat} {u : Int32} (hdg : decode cc pc = .ok (.istore_n k, 1)) (hi : (k : Nat) = i) (hn : i < nL) (hc : f_c1 L i = true) (kk : Wc p l e R s m args below meth c D A H0 nL cells slots Q ws (pc + 1) (f_set L i (some (.int u))) rest) : Wc p l e R s m args below meth c D A H0 nL cells slots Q ws pc L (.int u :: rest) := fun H locs ls h1 h2 h3 h4 => lv_istore_n hC.1.1 hC.1.2.1 hdg hi h4 hn rfl (fun ls1 h5 => kk H locs ls1 h1 h2 h3 (f_L.set1 hc h5))
theorem wc_iinc (hC : Ci p s m args meth c cc nL Ts own D K A H0) {i : Nat} {n : Int} {u v : Int32} (hdg : decode cc pc = .ok (.iinc i n, 3)) (hl : f_nth L i = some (.int u)) (hv : u + Int32.ofInt n = v) (hn : i < nL) (hc : f_c1 L i = true) (kk : Wc p l e R s m args below meth c D A H0 nL cells slots Q ws (pc + 3) (f_set L i (some (.int v))) rest) : Wc p l e R s m args below meth c D A H0 nL cells slots Q ws pc L rest := fun H locs ls h1 h2 h3 h4 => by
  obtain ⟨k, hk⟩ := List.getElem?_of_mem ((f_lv_iff L 0 (i, .int u)).mpr ⟨Nat.zero_le _, hl⟩)
  exact lv_iinc hC.1.1 hC.1.2.1 hdg h4 (k := k) hk hv hn rfl (fun ls1 h5 => kk H locs ls1 h1 h2 h3 (f_L.set1 hc h5))
theorem wc_icmp_ge (hC : Ci p s m args meth c cc nL Ts own D K A H0) {a b : Int32} {off : Int} {tgt : Nat} (hdg : decode cc pc = .ok (.if_icmp .ge off, 3)) (ht : (pc : Int) + off = (tgt : Int)) (kt : b ≤ a → Wc p l e R s m args below meth c D A H0 nL cells slots Q ws tgt L rest) (kf : ¬ b ≤ a → Wc p l e R s m args below meth c D A H0 nL cells slots Q ws (pc + 3) L rest) : Wc p l e R s m args below meth c D A H0 nL cells slots Q ws pc L (.int b :: .int a :: rest) := fun H locs ls h1 h2 h3 h4 => lv_icmp_ge hC.1.1 hC.1.2.1 hdg ht (fun h => kt h H locs ls h1 h2 h3 h4) (fun h => kf h H locs ls h1 h2 h3 h4)
theorem wc_goto (hC : Ci p s m args meth c cc nL Ts own D K A H0) {off : Int} {tgt : Nat} (hdg : decode cc pc = .ok (.goto off, 3)) (ht : (pc : Int) + off = (tgt : Int)) (kk : Wc p l e R s m args below meth c D A H0 nL cells slots Q ws tgt L rest) : Wc p l e R s m args below meth c D A H0 nL cells slots Q ws pc L rest := fun H locs ls h1 h2 h3 h4 => lv_goto hC.1.1 hC.1.2.1 hdg ht (kk H locs ls h1 h2 h3 h4)
theorem wc_objInit (hC : Ci p s m args meth c cc nL Ts own D K A H0) {idx a : Nat} (hlink : Cond.methodLink own idx Lib.objectInit ∈ Ts) (hinst : Cond.instanceMethod Lib.objectInit ∈ Ts) (hcode : Cond.code Lib.objectInit ⟨#[0xb1]⟩ 1 none ∈ Ts) (hdg : decode cc pc = .ok (.invokespecial idx, 3)) (hf : 1 ≤ R.frames) (hl : (rest.map fun v => v.category).sum + 12 ≤ R.locals) (kk : Wc p l e R s m args below meth c D A H0 nL cells slots Q ws (pc + 3) L rest) : Wc p l e R s m args below meth c D A H0 nL cells slots Q ws pc L (.ref a :: rest) := fun H locs ls h1 h2 h3 h4 =>
  W.objInit hC.1.1 hC.1.2.1 hC.1.2.2.2.1 (hC.1.2.2.2.2 _ hlink) (hC.1.2.2.2.2 _ hinst) (hC.1.2.2.2.2 _ hcode) rfl (h4.1.trans hC.1.2.2.1.symm) rfl hdg hf (by show 2 * 0 + _ + 12 ≤ _; omega) (kk H locs ls h1 h2 h3 h4)
theorem wc_new (hC : Ci p s m args meth c cc nL Ts own D K A H0) {C : String} {T : u_T} {N ci index : Nat} (hin : ∀ w ∈ u_ws C T N, w ∈ Ts) (ty : Nat → FieldType) (hty : ∀ k, k < N → parseFieldDescriptor (T k).2.2.1 = some (ty k)) (hcl : Cond.classLink own index C ∈ Ts) (hinst : Cond.instantiable C N ∈ Ts) (hini : Cond.initialized C ∈ Ts) (hc : vwCl[ci]? = some (C, T, N)) {fs : List Value} (hfs : ∀ j, j < N → defaultValue (ty j) = vp_V fs j) (hcells : cells + 1 ≤ R.cells) (hslots : slots + N ≤ R.slots) (hdg : decode cc pc = .ok (.new index, 3))
    (kk : ∀ q : Nat, Wc p l e R s m args below meth c D A H0 nL (cells + 1) (slots + N) Q (ws ++ [(q, .inr (ci, fs))]) (pc + 3) L (.ref q :: rest)) : Wc p l e R s m args below meth c D A H0 nL cells slots Q ws pc L rest := fun H locs ls h1 h2 h3 h4 =>
  va_new hC.1.1 hC.1.2.1 hC.1.2.2.2.2 hin ty hty hC.1.2.2.2.1 (hC.1.2.2.2.2 _ hcl) (hC.1.2.2.2.2 _ hinst) (hC.1.2.2.2.2 _ hini) hC.2.1 h1 h2 h3 hC.2.2.2 hc hfs hcells hslots hdg (fun q H1 a1 a2 a3 => kk q H1 locs ls a1 a2 a3 h4)
theorem wc_newi (hC : Ci p s m args meth c cc nL Ts own D K A H0) {n : Int32} {N : Nat} (harr : Cond.arrayClass .int ∈ Ts) (hn : n = nI N) (hN : N < 100000) (hcells : cells + 1 ≤ R.cells) (hslots : slots + N ≤ R.slots) (hdg : decode cc pc = .ok (.newarray .int, 2))
    (kk : ∀ q : Nat, Wc p l e R s m args below meth c D A H0 nL (cells + 1) (slots + N) Q (ws ++ [(q, .inl (K 0, N, .inl (fun _ => 0)))]) (pc + 2) L (.ref q :: rest)) : Wc p l e R s m args below meth c D A H0 nL cells slots Q ws pc L (.int n :: rest) := fun H locs ls h1 h2 h3 h4 => by
  subst hn
  refine va_newa (atype := .int) (ty := .int) (N' := N) (a0 := (N, .inl (fun _ => 0))) hC.1.1 hC.1.2.1 (hC.1.2.2.2.2 _ harr) rfl hC.2.1 h1 h2 h3 hC.2.2.2 (fun cA => rfl) (nI_pos (by omega)) (nI_clamp (by omega)) (by show N * 4 ≤ _; omega) hcells hslots hdg (fun q cA H1 hK1 a1 a2 a3 => ?_)
  have e1 : s.vm.findClass _ = some cA := (hK1.2 6 _ rfl).2
  have e2 : s.vm.findClass _ = some (K 0) := (hC.2.1.2 0 _ rfl).2
  cases Option.some.inj (e1.symm.trans e2)
  exact kk q H1 locs ls a1 a2 a3 h4
theorem wc_newz (hC : Ci p s m args meth c cc nL Ts own D K A H0) {n : Int32} {N : Nat} (harr : Cond.arrayClass .boolean ∈ Ts) (hn : n = nI N) (hN : N < 100000) (hcells : cells + 1 ≤ R.cells) (hslots : slots + N ≤ R.slots) (hdg : decode cc pc = .ok (.newarray .boolean, 2))
    (kk : ∀ q : Nat, Wc p l e R s m args below meth c D A H0 nL (cells + 1) (slots + N) Q (ws ++ [(q, .inl (K 1, N, .inl (fun _ => 0)))]) (pc + 2) L (.ref q :: rest)) : Wc p l e R s m args below meth c D A H0 nL cells slots Q ws pc L (.int n :: rest) := fun H locs ls h1 h2 h3 h4 => by
  subst hn
  refine va_newa (atype := .boolean) (ty := .boolean) (N' := N) (a0 := (N, .inl (fun _ => 0))) hC.1.1 hC.1.2.1 (hC.1.2.2.2.2 _ harr) rfl hC.2.1 h1 h2 h3 hC.2.2.2 (fun cA => rfl) (nI_pos (by omega)) (nI_clamp (by omega)) (by show N * 1 ≤ _; omega) hcells hslots hdg (fun q cA H1 hK1 a1 a2 a3 => ?_)
  have e1 : s.vm.findClass _ = some cA := (hK1.2 6 _ rfl).2
  have e2 : s.vm.findClass _ = some (K 1) := (hC.2.1.2 1 _ rfl).2
  cases Option.some.inj (e1.symm.trans e2)
  exact kk q H1 locs ls a1 a2 a3 h4
theorem wc_newq (hC : Ci p s m args meth c cc nL Ts own D K A H0) {n : Int32} {N t index : Nat} {C : String} (hcl : Cond.classLink own index C ∈ Ts) (ho : va_AO C s) (ht : (f_tys K)[t]? = some (K t, .object C)) (hn : n = nI N) (hN : N < 100000) (hcells : cells + 1 ≤ R.cells) (hslots : slots + N ≤ R.slots) (hdg : decode cc pc = .ok (.anewarray index, 3))
    (kk : ∀ q : Nat, Wc p l e R s m args below meth c D A H0 nL (cells + 1) (slots + N) Q (ws ++ [(q, .inl (K t, N, .inr (.inr (.inr (.inr (fun _ => none))))))]) (pc + 3) L (.ref q :: rest)) : Wc p l e R s m args below meth c D A H0 nL cells slots Q ws pc L (.int n :: rest) := fun H locs ls h1 h2 h3 h4 => by
  subst hn
  refine va_newq (C := C) (N' := N) hC.1.1 hC.1.2.1 hC.1.2.2.2.1 (hC.1.2.2.2.2 _ hcl) ho hC.2.1 h1 h2 h3 hC.2.2.2 (nI_pos (by omega)) (nI_clamp (by omega)) (by omega) hcells hslots hdg (fun q cA H1 hK1 a1 a2 a3 => ?_)
  obtain ⟨_, _, _, _, _, e1⟩ := (hK1.2 6 _ rfl).2
  obtain ⟨_, _, _, _, _, e2⟩ := (hC.2.1.2 t _ ht).2
  cases Option.some.inj (e1.symm.trans e2)
  exact kk q H1 locs ls a1 a2 a3 h4
theorem wc_putF (hC : Ci p s m args meth c cc nL Ts own D K A H0) (hin9 : meth.name = "<init>") {C : String} {T : u_T} {N ci k q0 a index : Nat} {fs : List Value} {v : Value} {ty : FieldType} (he : ws[q0]? = some (a, .inr (ci, fs))) (hc : vwCl[ci]? = some (C, T, N)) (hin : ∀ w ∈ u_ws C T N, w ∈ Ts) (ty0 : Nat → FieldType) (hty : ∀ k, k < N → parseFieldDescriptor (T k).2.2.1 = some (ty0 k)) (hnm : ∀ a, a < N → ∀ b, b < N → a ≠ b → (T a).2.1 ≠ (T b).2.1) (hk : k < N) (hlink : Cond.fieldLink own index (T k).1 (T k).2.1 (T k).2.2.1 ∈ Ts) (hfin : (T k).2.2.2 = true) (hdecl : (T k).1 = own) (hd : ty0 k = ty) (hnw : narrow ty v = v) (hfit : fits ty v = true) (hl : k < fs.length) (hdg : decode cc pc = .ok (.putfield index, 3))
    (kk : Wc p l e R s m args below meth c D A H0 nL cells slots Q (ws.set q0 (a, .inr (ci, fs.set k v))) (pc + 3) L rest) : Wc p l e R s m args below meth c D A H0 nL cells slots Q ws pc L (v :: .ref a :: rest) := fun H locs ls h1 h2 h3 h4 =>
  va_putF hC.1.1 hC.1.2.1 hC.1.2.2.2.2 hin ty0 hty hnm hC.1.2.2.2.1 hC.2.1 h1 h2 h3 q0 he hc k hk (hC.1.2.2.2.2 _ hlink) (fun _ h => h) hfin hin9 hdecl (ty := ty) (by rw [hty k hk, hd]) hnw hfit hl hdg (fun H1 locs1 a1 a2 a3 => kk H1 locs1 ls a1 a2 a3 h4)
theorem wc_put (hC : Ci p s m args meth c cc nL Ts own D K A H0) {C : String} {T : u_T} {N ci k q0 a index : Nat} {fs : List Value} {v : Int32} (he : ws[q0]? = some (a, .inr (ci, fs))) (hc : vwCl[ci]? = some (C, T, N)) (hin : ∀ w ∈ u_ws C T N, w ∈ Ts) (ty0 : Nat → FieldType) (hty : ∀ k, k < N → parseFieldDescriptor (T k).2.2.1 = some (ty0 k)) (hnm : ∀ a, a < N → ∀ b, b < N → a ≠ b → (T a).2.1 ≠ (T b).2.1) (hk : k < N) (hlink : Cond.fieldLink own index (T k).1 (T k).2.1 (T k).2.2.1 ∈ Ts) (hfin : (T k).2.2.2 = false) (hd : ty0 k = .int) (hl : k < fs.length) (hdg : decode cc pc = .ok (.putfield index, 3))
    (kk : Wc p l e R s m args below meth c D A H0 nL cells slots Q (ws.set q0 (a, .inr (ci, fs.set k (.int v)))) (pc + 3) L rest) : Wc p l e R s m args below meth c D A H0 nL cells slots Q ws pc L (.int v :: .ref a :: rest) := fun H locs ls h1 h2 h3 h4 =>
  va_put hC.1.1 hC.1.2.1 hC.1.2.2.2.2 hin ty0 hty hnm hC.1.2.2.2.1 hC.2.1 h1 h2 h3 q0 he hc k hk (hC.1.2.2.2.2 _ hlink) (fun _ h => h) hfin (ty := .int) (by rw [hty k hk, hd]) (vp_nar_int v) rfl hl hdg (fun H1 locs1 a1 a2 a3 => kk H1 locs1 ls a1 a2 a3 h4)
theorem wc_get (hC : Ci p s m args meth c cc nL Ts own D K A H0) {C : String} {T : u_T} {N ci k q0 a index : Nat} {fs : List Value} {v : Value} (he : ws[q0]? = some (a, .inr (ci, fs))) (hc : vwCl[ci]? = some (C, T, N)) (hin : ∀ w ∈ u_ws C T N, w ∈ Ts) (hk : k < N) (hlink : Cond.fieldLink own index (T k).1 (T k).2.1 (T k).2.2.1 ∈ Ts) (hv : fs[k]? = some v) (hdg : decode cc pc = .ok (.getfield index, 3))
    (kk : Wc p l e R s m args below meth c D A H0 nL cells slots Q ws (pc + 3) L (v :: rest)) : Wc p l e R s m args below meth c D A H0 nL cells slots Q ws pc L (.ref a :: rest) := fun H locs ls h1 h2 h3 h4 =>
  va_get hC.1.1 hC.1.2.1 hC.1.2.2.2.2 hin hC.1.2.2.2.1 hC.2.1 h1 q0 he hc k hk (hC.1.2.2.2.2 _ hlink) (fun _ h => h) hv hdg (kk H locs ls h1 h2 h3 h4)
theorem wc_astq (hC : Ci p s m args meth c cc nL Ts own D K A H0) {q0 qk ci t a n v j : Nat} {i : Int32} {r : vw_C} {vs : List Value} {f : Nat → Option Nat} (ha : ws[q0]? = some (a, .inl (K t, n, .inr (.inr (.inr (.inr f)))))) (ht : (f_tys K)[t]? = some (K t, .object r.1)) (hv : ws[qk]? = some (v, .inr (ci, vs))) (hc : vwCl[ci]? = some r) (hi : i = nI j) (hj : j < n) (hn : n < 2 ^ 31) (hdg : decode cc pc = .ok (.aastore, 1))
    (kk : Wc p l e R s m args below meth c D A H0 nL cells slots Q (ws.set q0 (a, .inl (K t, n, .inr (.inr (.inr (.inr (va_up f j (some v)))))))) (pc + 1) L rest) : Wc p l e R s m args below meth c D A H0 nL cells slots Q ws pc L (.ref v :: .int i :: .ref a :: rest) := fun H locs ls h1 h2 h3 h4 => by
  subst hi
  refine va_astq hC.1.1 hC.1.2.1 hC.2.1 h1 h2 h3 q0 t qk ci ha ht hv hc (vp_in_nI hj hn) hdg (fun H1 locs1 a1 a2 a3 => ?_)
  rw [nI_clamp (by omega)] at a1 a2
  exact kk H1 locs1 ls a1 a2 a3 h4
/-- a constructor's contract: the cell w0 at the start; one of the worlds w1 u behind it -/
def f_PreI (D : va_G) (K : Nat → ClassId) (w0 : va_W) (sz : Nat) (av : List Value) : Array Value → State → Prop :=
  va_Pc av (fun U => U.heap.size = sz ∧ va_P D vwCl w0 U.heap ∧ va_K D vwCl (f_tys K) U ∧ va_D (fun _ => True) w0 ∧ f_NI U)
def f_PostI {S : Type} (D : va_G) (w0 : va_W) (w1 : S → va_W) (sz : Nat) : Array Value → State → Outcome → State → Prop :=
  fun _ st oc t => (∃ u : S, oc = .returned none ∧ va_P D vwCl (w1 u) t.heap ∧ va_D (va_A w0 sz) (w1 u)) ∧ va_F (va_A w0 sz) st t
def KI {S : Type} (l : Launch) (y : MethodName) (wsc : List Cond) (rm : Room) (D : va_G) (K : Nat → ClassId) (av : List Value) (w0 : va_W) (w1 : S → va_W) : Prop :=
  ∀ sz, Met l y wsc rm (f_PreI D K w0 sz av) (f_PostI D w0 w1 sz) rm.cells rm.slots (va_A w0 sz)
theorem f_blindI {K : Nat → ClassId} {w0 : va_W} {sz : Nat} {av : List Value} : FrameBlind (f_PreI D K w0 sz av) := fun a U g mk q => by
  obtain ⟨q0, q1, qP, qK, qD, qN⟩ := q
  exact ⟨q0, q1, qP, va_K.moved (u := U) (U := U.calling g mk a) (Vm.Alike.refl U.vm) qK, qD, f_NI.same rfl qN⟩
theorem wc_vret {S : Type} {w0 : va_W} {w1 : S → va_W} {is : List Nat} (u : S) (hC : Ci p s m args meth c cc nL Ts own D K (va_A w0 s.heap.size) s.heap) (hr : meth.sig.returnType = none) (hlocks : meth.locks = false) (hdg : decode cc pc = .ok (.return_, 1)) (hP : ∀ H, va_P D vwCl ws H → va_P D vwCl (w1 u) H) (hD : va_D (va_A w0 s.heap.size) ws → va_D (va_A w0 s.heap.size) (w1 u)) :
    Wc p l e R s m args below meth c D (va_A w0 s.heap.size) s.heap nL cells slots (MQ below (f_PostI D w0 w1 s.heap.size) args s cells slots (va_A w0 s.heap.size)) ws pc L [] := fun H locs ls h1 h2 h3 h4 =>
  W.vret hC.1.1 hC.1.2.1 hr (fun t ht _ => ⟨⟨u, rfl, by rw [ht]; exact hP H h1, hD h2⟩, h3.F ht⟩) h3.2.2 hdg hlocks
/-- a constructor is called upon the cell at place i of the list -/
theorem wc_callI {S : Type} {index maxL i a : Nat} {y : MethodName} {bytes : ByteArray} {wsc : List Cond} {rm : Room} {e0 : va_E} {w1 : S → va_W} {wr : va_W} (isR : List Nat) (hC : Ci p s m args meth c cc nL Ts own D K A H0) (h : KI l y wsc rm D K [.ref a] [(a, e0)] w1)
    (cw : CallB R s args own index y bytes maxL none wsc rm rm.cells rm.slots 0 ∧ y.name = "<init>" ∧ (Cond.instanceMethod y).before args s = true) (hi : ws[i]? = some (a, e0)) (hR : isR.map (fun k => ws[k]?) = wr.map some) (hn : va_nd isR = true) (hdis : i ∉ isR) (hW : (rest.map fun v => v.category).sum ≤ 8) (hdg : decode cc pc = .ok (.invokespecial index, 3)) (hf : cells + rm.cells ≤ R.cells ∧ slots + rm.slots ≤ R.slots)
    (kk : ∀ u : S, Wc p l e R s m args below meth c D A H0 nL (cells + rm.cells) (slots + rm.slots) Q (wr ++ w1 u) (pc + 3) L rest) : Wc p l e R s m args below meth c D A H0 nL cells slots Q ws pc L (.ref a :: rest) := fun H locs ls h1 h2 h3 h4 => by
  have hI1 : [i].map (fun k => ws[k]?) = ([(a, e0)] : va_W).map some := by show [ws[i]?] = [some (a, e0)]; rw [hi]
  have hPc : va_P D vwCl [(a, e0)] H := fun k q hk => by
    have hz : k < 1 := (List.getElem?_eq_some_iff.mp hk).1
    rw [show k = 0 by omega] at hk
    cases hk
    exact h1 i _ hi
  have hDc : va_D (fun _ => True) ([(a, e0)] : va_W) := ⟨fun j k p q h5 h6 _ => by
    have h7 : j < 1 := (List.getElem?_eq_some_iff.mp h5).1
    have h8 : k < 1 := (List.getElem?_eq_some_iff.mp h6).1
    omega, fun _ _ _ => trivial⟩
  have hFc := va_free (wc := [(a, e0)]) h2 h3 hC.2.2.2 [i] hI1
  have hr := va_runI (As := []) (rest := rest) (l := l) (b := a) (e := e) (below := below) (meth := meth) (H := H) (locs := locs) (cells := cells) (slots := slots) (g := F0 m pc ls (.ref a :: rest)) hC.1 (h H.size) cw ⟨f_blindI, fun U hU hW => ⟨rfl, by rw [hU], by rw [hU]; exact hPc, va_K.moved hW.alike hC.2.1, hDc, f_NI.warm hW hC.2.2.1⟩⟩ rfl rfl h4.1 rfl (lv_room hW) hdg hf
  intro T hT X
  obtain ⟨v, st₀, t, T', Ls, g0, X', hL, e1, e2, ⟨⟨u, hv, hP1, hD1⟩, hz, hk⟩, st⟩ := hr T hT X
  cases hv
  rw [g0] at hz hk
  obtain ⟨hP, hD⟩ := va_join (wr := wr) (w1 := w1 u) h1 h2 [i] isR hI1 hR hn (fun j hj h5 => hdis (by rw [← List.mem_singleton.mp h5]; exact hj)) (fun q h5 h6 => hk q h5 h6) hFc hP1 hD1
  have hS1 : va_S A H0 T'.heap (locs ++ Ls) := ⟨Nat.le_trans h3.1 (by rw [e1]; exact hz), fun q h5 h6 => by rw [e1, hk q (Nat.lt_of_lt_of_le h5 h3.1) (fun z => h6 (hFc q z))]; exact h3.2.1 q h5 h6, fun q hq => by
    rcases List.mem_append.mp hq with h5 | h5
    · exact h3.2.2 q h5
    · exact hFc _ (hL q h5)⟩
  obtain ⟨t2, b1, b2⟩ := kk u T'.heap (locs ++ Ls) ls (by rw [e1]; exact hP) hD hS1 h4 T' rfl X'
  exact ⟨t2, st t2 b1, b2⟩
/-- the last cell's constructor -/
theorem wc_lastR {α : Type} {wr : List α} {x : α} : (List.range wr.length).map (fun k => (wr ++ [x])[k]?) = wr.map some := by
  apply List.ext_getElem
  · simp
  · intro i h1 h2
    simp only [List.length_map, List.length_range] at h1
    simp [List.getElem?_append_left h1]
theorem wc_ndR (n : Nat) : va_nd (List.range n) = true := by
  have key : ∀ (l : List Nat), l.Nodup → va_nd l = true := by
    intro l
    induction l with
    | nil => intro _; rfl
    | cons a l ih =>
      intro h
      have h2 := List.nodup_cons.mp h
      unfold va_nd
      simp [ih h2.2, h2.1]
  exact key _ List.nodup_range
theorem wc_callL {S : Type} {index maxL a : Nat} {y : MethodName} {bytes : ByteArray} {wsc : List Cond} {rm : Room} {e0 : va_E} {w1 : S → va_W} {wr : va_W} (hC : Ci p s m args meth c cc nL Ts own D K A H0) (h : KI l y wsc rm D K [.ref a] [(a, e0)] w1)
    (cw : CallB R s args own index y bytes maxL none wsc rm rm.cells rm.slots 0 ∧ y.name = "<init>" ∧ (Cond.instanceMethod y).before args s = true) (hW : (rest.map fun v => v.category).sum ≤ 8) (hdg : decode cc pc = .ok (.invokespecial index, 3)) (hf : cells + rm.cells ≤ R.cells ∧ slots + rm.slots ≤ R.slots)
    (kk : ∀ u : S, Wc p l e R s m args below meth c D A H0 nL (cells + rm.cells) (slots + rm.slots) Q (wr ++ w1 u) (pc + 3) L rest) : Wc p l e R s m args below meth c D A H0 nL cells slots Q (wr ++ [(a, e0)]) pc L (.ref a :: rest) :=
  wc_callI (i := wr.length) (List.range wr.length) hC h cw (by rw [List.getElem?_append_right (Nat.le_refl _), Nat.sub_self]; rfl) wc_lastR (wc_ndR _) (by simp) hW hdg hf kk
theorem wc_callLN {S : Type} {index maxL a : Nat} {y : MethodName} {host : String} {bytes : ByteArray} {wsc : List Cond} {rm : Room} {e0 : va_E} {w1 : S → va_W} {wr : va_W} (hC : Ci p s m args meth c cc nL Ts own D K A H0) (h : KI l y wsc rm D K [.ref a] [(a, e0)] w1)
    (cw : va_CN R s args own index y host bytes maxL none wsc rm rm.cells rm.slots 0 ∧ y.name = "<init>" ∧ (Cond.instanceMethod y).before args s = true) (hW : (rest.map fun v => v.category).sum ≤ 8) (hdg : decode cc pc = .ok (.invokespecial index, 3)) (hf : cells + rm.cells ≤ R.cells ∧ slots + rm.slots ≤ R.slots)
    (kk : ∀ u : S, Wc p l e R s m args below meth c D A H0 nL (cells + rm.cells) (slots + rm.slots) Q (wr ++ w1 u) (pc + 3) L rest) : Wc p l e R s m args below meth c D A H0 nL cells slots Q (wr ++ [(a, e0)]) pc L (.ref a :: rest) := fun H locs ls h1 h2 h3 h4 => by
  have hi : (wr ++ [(a, e0)])[wr.length]? = some (a, e0) := by rw [List.getElem?_append_right (Nat.le_refl _), Nat.sub_self]; rfl
  have hI1 : [wr.length].map (fun k => (wr ++ [(a, e0)])[k]?) = ([(a, e0)] : va_W).map some := by show [(wr ++ [(a, e0)])[wr.length]?] = [some (a, e0)]; rw [hi]
  have hPc : va_P D vwCl [(a, e0)] H := fun k q hk => by
    have hz : k < 1 := (List.getElem?_eq_some_iff.mp hk).1
    rw [show k = 0 by omega] at hk
    cases hk
    exact h1 _ _ hi
  have hDc : va_D (fun _ => True) ([(a, e0)] : va_W) := ⟨fun j k p q h5 h6 _ => by
    have h7 : j < 1 := (List.getElem?_eq_some_iff.mp h5).1
    have h8 : k < 1 := (List.getElem?_eq_some_iff.mp h6).1
    omega, fun _ _ _ => trivial⟩
  have hFc := va_free (wc := [(a, e0)]) h2 h3 hC.2.2.2 [wr.length] hI1
  have hr := va_runIN (As := []) (rest := rest) (l := l) (b := a) (e := e) (below := below) (meth := meth) (H := H) (locs := locs) (cells := cells) (slots := slots) (g := F0 m pc ls (.ref a :: rest)) hC.1 (h H.size) cw ⟨f_blindI, fun U hU hW => ⟨rfl, by rw [hU], by rw [hU]; exact hPc, va_K.moved hW.alike hC.2.1, hDc, f_NI.warm hW hC.2.2.1⟩⟩ rfl rfl h4.1 rfl (lv_room hW) hdg hf
  intro T hT X
  obtain ⟨v, st₀, t, T', Ls, g0, X', hL, e1, e2, ⟨⟨u, hv, hP1, hD1⟩, hz, hk⟩, st⟩ := hr T hT X
  cases hv
  rw [g0] at hz hk
  obtain ⟨hP, hD⟩ := va_join (wr := wr) (w1 := w1 u) h1 h2 [wr.length] (List.range wr.length) hI1 wc_lastR (wc_ndR _) (fun j hj h5 => by rw [List.mem_singleton.mp h5] at hj; simp at hj) (fun q h5 h6 => hk q h5 h6) hFc hP1 hD1
  have hS1 : va_S A H0 T'.heap (locs ++ Ls) := ⟨Nat.le_trans h3.1 (by rw [e1]; exact hz), fun q h5 h6 => by rw [e1, hk q (Nat.lt_of_lt_of_le h5 h3.1) (fun z => h6 (hFc q z))]; exact h3.2.1 q h5 h6, fun q hq => by
    rcases List.mem_append.mp hq with h5 | h5
    · exact h3.2.2 q h5
    · exact hFc _ (hL q h5)⟩
  obtain ⟨t2, b1, b2⟩ := kk u T'.heap (locs ++ Ls) ls (by rw [e1]; exact hP) hD hS1 h4 T' rfl X'
  exact ⟨t2, st t2 b1, b2⟩
theorem wc_iast (hC : Ci p s m args meth c cc nL Ts own D K A H0) {q0 a n j : Nat} {i v : Int32} {f : Nat → Int32} (ha : ws[q0]? = some (a, .inl (K 0, n, .inl f))) (hi : i = nI j) (hj : j < n) (hn : n < 2 ^ 31) (hdg : decode cc pc = .ok (.iastore, 1))
    (kk : Wc p l e R s m args below meth c D A H0 nL cells slots Q (ws.set q0 (a, .inl (K 0, n, .inl (upd f j v)))) (pc + 1) L rest) : Wc p l e R s m args below meth c D A H0 nL cells slots Q ws pc L (.int v :: .int i :: .ref a :: rest) := fun H locs ls h1 h2 h3 h4 => by
  subst hi
  refine va_iast hC.1.1 hC.1.2.1 hC.2.1 h1 h2 h3 q0 0 ha rfl (vp_in_nI hj hn) hdg (fun H1 locs1 a1 a2 a3 => ?_)
  rw [nI_clamp (by omega)] at a1 a2
  exact kk H1 locs1 ls a1 a2 a3 h4
end Rows11
theorem KI.of {S : Type} {l : Launch} {y : MethodName} {wsc ws' : List Cond} {rm : Room} {D : va_G} {K : Nat → ClassId} {h0 : Nat} {e0 : va_E} {w1 : S → va_W} {cc : ByteArray} {maxL : Nat} {L : List (Option Value)}
    (hy : plainName y.cls = true) (hnm : y.name = "<init>") (hw : wsc = Cond.code y cc maxL none :: ws') (hL : lv_args 0 [.ref h0] = f_lv 0 L) (hlen : 1 ≤ maxL)
    (body : ∀ (p : Program) (e : Env) (s : State) (m : MethodId) (args : Array Value) (below : List Frame) (meth : Method) (c : Code), Ci p s m args meth c cc maxL wsc y.cls D K (va_A [(h0, e0)] s.heap.size) s.heap → meth.name = "<init>" → meth.sig.returnType = none → meth.locks = false →
      Wc p l e rm s m args below meth c D (va_A [(h0, e0)] s.heap.size) s.heap maxL 0 0 (MQ below (f_PostI D [(h0, e0)] w1 s.heap.size) args s rm.cells rm.slots (va_A [(h0, e0)] s.heap.size)) [(h0, e0)] 0 L []) : KI l y wsc rm D K [.ref h0] [(h0, e0)] w1 := by
  intro sz
  refine Met.ofW (cc := cc) (maxL := maxL) (ret := none) hy hw ?_
  intro p e s m args below meth c s₁ B hml hv
  obtain ⟨rfl, hsz, hP, hK, hD, hN⟩ := hv
  subst hsz
  have hts := atoms_spec (ws := wsc) B.pre
  have hown : s.vm.findClass y.cls = some m.cls := findClass_of_methodNamed B.named
  have hl := lv_entry [.ref h0] (n := maxL) (by show 1 ≤ maxL; exact hlen)
  rw [lg_entry_eq]
  exact body p e s m _ below meth c ⟨⟨B.exec, B.bytes, hml, hown, hts⟩, hK, hN, fun q h => Or.inr h⟩ (by rw [(name_of_methodNamed B.named B.method).1]; exact hnm) B.returns B.notSynchronized s.heap [] _ hP hD.self va_S.rf (by unfold f_L; rw [← hL]; exact hl)
end FW11
