/-! OWN LAYER 2: the walk over the flat memory. Wk: at pc with locals L and stack st, the memory G, the values x beside it. -/
section FW2
def f_nth : List (Option Value) → Nat → Option Value
  | [], _ => none
  | a :: _, 0 => a
  | _ :: r, k + 1 => f_nth r k
def f_set : List (Option Value) → Nat → Option Value → List (Option Value)
  | [], _, _ => []
  | _ :: r, 0, v => v :: r
  | a :: r, k + 1, v => a :: f_set r k v
def f_lv : Nat → List (Option Value) → List (Nat × Value)
  | _, [] => []
  | i, none :: r => f_lv (i + 1) r
  | i, some v :: r => (i, v) :: f_lv (i + 1) r
/-- no value of two words stands just ahead of place i -/
def f_c1 (L : List (Option Value)) (i : Nat) : Bool := match i with
  | 0 => true
  | k + 1 => match f_nth L k with
    | some v => v.category == 1
    | none => true
theorem f_lv_iff (L : List (Option Value)) : ∀ (i : Nat) (q : Nat × Value), q ∈ f_lv i L ↔ i ≤ q.1 ∧ f_nth L (q.1 - i) = some q.2 := by
  induction L with
  | nil => intro i q; simp [f_lv, f_nth]
  | cons a r ih =>
    intro i q
    obtain ⟨k, v⟩ := q
    have hz : ∀ j, i ≤ k → k ≠ i → k - i = j → f_nth (a :: r) j = f_nth r (k - (i + 1)) := by
      intro j h1 h2 h3
      obtain ⟨d, hd⟩ : ∃ d, j = d + 1 := ⟨j - 1, by omega⟩
      rw [hd]
      show f_nth r d = _
      rw [show d = k - (i + 1) by omega]
    cases a with
    | none =>
      show (k, v) ∈ f_lv (i + 1) r ↔ _
      rw [ih]
      dsimp only
      constructor
      · rintro ⟨h1, h2⟩
        exact ⟨by omega, by rw [hz _ (by omega) (by omega) rfl]; exact h2⟩
      · rintro ⟨h1, h2⟩
        by_cases hki : k = i
        · subst hki
          rw [Nat.sub_self] at h2
          cases h2
        · exact ⟨by omega, by rw [hz _ h1 hki rfl] at h2; exact h2⟩
    | some a =>
      show (k, v) ∈ (i, a) :: f_lv (i + 1) r ↔ _
      rw [List.mem_cons, ih]
      dsimp only
      constructor
      · rintro (h | ⟨h1, h2⟩)
        · cases h
          exact ⟨Nat.le_refl _, by rw [Nat.sub_self]; rfl⟩
        · exact ⟨by omega, by rw [hz _ (by omega) (by omega) rfl]; exact h2⟩
      · rintro ⟨h1, h2⟩
        by_cases hki : k = i
        · subst hki
          rw [Nat.sub_self] at h2
          cases h2
          exact Or.inl rfl
        · exact Or.inr ⟨by omega, by rw [hz _ h1 hki rfl] at h2; exact h2⟩
theorem f_nth_set (L : List (Option Value)) : ∀ (i k : Nat) (v : Option Value) (u : Value), f_nth (f_set L i v) k = some u → (k = i ∧ v = some u) ∨ (k ≠ i ∧ f_nth L k = some u) := by
  induction L with
  | nil => intro i k v u h; simp [f_set, f_nth] at h
  | cons a r ih =>
    intro i k v u h
    cases i with
    | zero =>
      cases k with
      | zero => exact Or.inl ⟨rfl, h⟩
      | succ k => exact Or.inr ⟨by omega, h⟩
    | succ i =>
      cases k with
      | zero => exact Or.inr ⟨by omega, h⟩
      | succ k =>
        rcases ih i k v u h with ⟨h1, h2⟩ | ⟨h1, h2⟩
        · exact Or.inl ⟨by omega, h2⟩
        · exact Or.inr ⟨by omega, h2⟩
def f_L (ls : Array Slot) (nL : Nat) (L : List (Option Value)) : Prop := lv_has ls nL (f_lv 0 L)
theorem f_L.at {ls : Array Slot} {nL : Nat} {L : List (Option Value)} (h : f_L ls nL L) {k : Nat} {v : Value} (hk : f_nth L k = some v) : ls[k]? = some (.val v) :=
  h.2.2 (k, v) ((f_lv_iff L 0 (k, v)).mpr ⟨Nat.zero_le _, hk⟩)
theorem f_L.set1 {ls : Array Slot} {nL i : Nat} {L : List (Option Value)} {v : Value} (hc : f_c1 L i = true) (h : lv_has ls nL ((i, v) :: (f_lv 0 L).filter (fun q => !(q.1 == i) && !(q.1 + 1 == i && q.2.category == 2)))) : f_L ls nL (f_set L i (some v)) := by
  refine ⟨h.1, h.2.1, fun q hq => h.2.2 q ?_⟩
  obtain ⟨k, u⟩ := q
  have h1 := ((f_lv_iff _ 0 (k, u)).mp hq).2
  rcases f_nth_set L i k (some v) u h1 with ⟨e1, e2⟩ | ⟨e1, e2⟩
  · cases e2
    rw [show k = i from e1]
    exact List.mem_cons_self
  · refine List.mem_cons_of_mem _ (List.mem_filter.mpr ⟨(f_lv_iff L 0 (k, u)).mpr ⟨Nat.zero_le _, e2⟩, ?_⟩)
    have e3 : ¬ (k = i) := e1
    have e2 : f_nth L k = some u := e2
    have e4 : ¬ (k + 1 = i ∧ u.category = 2) := by
      rintro ⟨h5, h6⟩
      subst h5
      simp [f_c1, e2, h6] at hc
    simp only [Bool.and_eq_true, Bool.not_eq_true', beq_eq_false_iff_ne, ne_eq, Bool.and_eq_false_imp, beq_iff_eq]
    exact ⟨e3, fun h5 h6 => e4 ⟨h5, h6⟩⟩
theorem f_L.set2 {ls : Array Slot} {nL i : Nat} {L : List (Option Value)} {v : Value} (hc : f_c1 L i = true) (h : lv_has ls nL ((i, v) :: (f_lv 0 L).filter (fun q => !(q.1 == i) && (!(q.1 == i + 1) && !(q.1 + 1 == i && q.2.category == 2))))) : f_L ls nL (f_set (f_set L i (some v)) (i + 1) none) := by
  refine ⟨h.1, h.2.1, fun q hq => h.2.2 q ?_⟩
  obtain ⟨k, u⟩ := q
  have h1 := ((f_lv_iff _ 0 (k, u)).mp hq).2
  rcases f_nth_set _ (i + 1) k none u h1 with ⟨e1, e2⟩ | ⟨e0, e2⟩
  · cases e2
  · rcases f_nth_set L i k (some v) u e2 with ⟨e1, e2⟩ | ⟨e1, e2⟩
    · cases e2
      rw [show k = i from e1]
      exact List.mem_cons_self
    · refine List.mem_cons_of_mem _ (List.mem_filter.mpr ⟨(f_lv_iff L 0 (k, u)).mpr ⟨Nat.zero_le _, e2⟩, ?_⟩)
      have e3 : ¬ (k = i) := e1
      have e7 : f_nth L k = some u := e2
      have e4 : ¬ (k + 1 = i ∧ u.category = 2) := by
        rintro ⟨h5, h6⟩
        subst h5
        simp [f_c1, e7, h6] at hc
      have e5 : ¬ (k = i + 1) := e0
      simp only [Bool.and_eq_true, Bool.not_eq_true', beq_eq_false_iff_ne, ne_eq, Bool.and_eq_false_imp, beq_iff_eq]
      exact ⟨e3, e5, fun h5 h6 => e4 ⟨h5, h6⟩⟩
/-- which cells a method may change -/
def f_A (NL : List Nat) (ad : Nat → Nat) (sz : Nat) : Nat → Prop := fun q => (∃ n, n ∈ NL ∧ ad n = q) ∨ sz ≤ q
def Wk (p : Program) (l : Launch) (e : Env) (R : Room) (s : State) (m : MethodId) (args : Array Value) (below : List Frame) (meth : Method) (c : Code) (cl : List vw_C) (D : va_G) (K : Nat → ClassId) (NL : List Nat) (ad : Nat → Nat) (A : Nat → Prop) (H0 : Heap) (nL cells slots : Nat) (Q : State → Prop) (G : fM) (x : fX) (pc : Nat) (L : List (Option Value)) (st : List Value) : Prop :=
  ∀ (H : Heap) (locs : List Loc) (ls : Array Slot), va_P D cl (f_W K NL ad G x) H → va_S A H0 H locs → f_L ls nL L → W p l e R s m args below meth c H locs cells slots Q (F0 m pc ls st)
/-- what holds all through a method -/
def Cx (p : Program) (s : State) (m : MethodId) (args : Array Value) (c : Code) (cc : ByteArray) (nL : Nat) (Ts : List Cond) (own : String) (cl : List vw_C) (D : va_G) (K : Nat → ClassId) (NL : List Nat) (ad : Nat → Nat) (A : Nat → Prop) (H0 : Heap) : Prop :=
  CallFix p m c cc nL s args Ts own ∧ va_K D cl (f_tys K) s ∧ f_D A NL ad ∧ ∀ q, H0.size ≤ q → A q
def f_psh (rv : Option Value) (st : List Value) : List Value := match rv with
  | some v => v :: st
  | none => st
section Rows
variable {p : Program} {l : Launch} {e : Env} {R : Room} {s : State} {m : MethodId} {args : Array Value} {below : List Frame} {meth : Method} {c : Code} {cl : List vw_C} {D : va_G} {K : Nat → ClassId} {NL : List Nat} {ad : Nat → Nat} {A : Nat → Prop} {H0 : Heap} {nL cells slots : Nat} {Q : State → Prop}
variable {cc : ByteArray} {Ts : List Cond} {own : String} {G : fM} {x : fX} {pc : Nat} {L : List (Option Value)} {rest : List Value}
theorem Cx.hx (h : Cx p s m args c cc nL Ts own cl D K NL ad A H0) : p.tables.exec = Jvm.exec := h.1.1
theorem Cx.hb (h : Cx p s m args c cc nL Ts own cl D K NL ad A H0) : c.code = cc := h.1.2.1
theorem Cx.hml (h : Cx p s m args c cc nL Ts own cl D K NL ad A H0) : c.maxLocals = nL := h.1.2.2.1
theorem Cx.hown (h : Cx p s m args c cc nL Ts own cl D K NL ad A H0) : s.vm.findClass own = some m.cls := h.1.2.2.2.1
theorem Cx.ts (h : Cx p s m args c cc nL Ts own cl D K NL ad A H0) (w : Cond) (hw : w ∈ Ts) : w.before args s = true := h.1.2.2.2.2 w hw
theorem Cx.hK (h : Cx p s m args c cc nL Ts own cl D K NL ad A H0) : va_K D cl (f_tys K) s := h.2.1
theorem Cx.hD (h : Cx p s m args c cc nL Ts own cl D K NL ad A H0) : f_D A NL ad := h.2.2.1

theorem fk_iconst (hC : Cx p s m args c cc nL Ts own cl D K NL ad A H0) {n : Int} {v : Int32} (hdg : decode cc pc = .ok (.iconst n, 1)) (hv : Int32.ofInt n = v) (kk : Wk p l e R s m args below meth c cl D K NL ad A H0 nL cells slots Q G x (pc + 1) L (.int v :: rest)) : Wk p l e R s m args below meth c cl D K NL ad A H0 nL cells slots Q G x pc L (rest) := fun H locs ls h1 h2 h3 => lv_iconst hC.hx hC.hb hdg hv (kk H locs ls h1 h2 h3)
theorem fk_bipush (hC : Cx p s m args c cc nL Ts own cl D K NL ad A H0) {n : Int} {v : Int32} (hdg : decode cc pc = .ok (.bipush n, 2)) (hv : (Int8.ofInt n).toInt32 = v) (kk : Wk p l e R s m args below meth c cl D K NL ad A H0 nL cells slots Q G x (pc + 2) L (.int v :: rest)) : Wk p l e R s m args below meth c cl D K NL ad A H0 nL cells slots Q G x pc L (rest) := fun H locs ls h1 h2 h3 => lv_bipush hC.hx hC.hb hdg hv (kk H locs ls h1 h2 h3)
theorem fk_sipush (hC : Cx p s m args c cc nL Ts own cl D K NL ad A H0) {n : Int} {v : Int32} (hdg : decode cc pc = .ok (.sipush n, 3)) (hv : (Int16.ofInt n).toInt32 = v) (kk : Wk p l e R s m args below meth c cl D K NL ad A H0 nL cells slots Q G x (pc + 3) L (.int v :: rest)) : Wk p l e R s m args below meth c cl D K NL ad A H0 nL cells slots Q G x pc L (rest) := fun H locs ls h1 h2 h3 => lv_sipush hC.hx hC.hb hdg hv (kk H locs ls h1 h2 h3)
theorem fk_lconst (hC : Cx p s m args c cc nL Ts own cl D K NL ad A H0) {n : Fin 2} {v : Int64} (hdg : decode cc pc = .ok (.lconst n, 1)) (hv : Int64.ofNat (n : Nat) = v) (kk : Wk p l e R s m args below meth c cl D K NL ad A H0 nL cells slots Q G x (pc + 1) L (.long v :: rest)) : Wk p l e R s m args below meth c cl D K NL ad A H0 nL cells slots Q G x pc L (rest) := fun H locs ls h1 h2 h3 => lv_lconst hC.hx hC.hb hdg hv (kk H locs ls h1 h2 h3)
theorem fk_iload_n (hC : Cx p s m args c cc nL Ts own cl D K NL ad A H0) {k : Fin 4} {i : Nat} {u : Int32} (hdg : decode cc pc = .ok (.iload_n k, 1)) (hi : (k : Nat) = i) (hl : f_nth L i = some (.int u)) (kk : Wk p l e R s m args below meth c cl D K NL ad A H0 nL cells slots Q G x (pc + 1) L (.int u :: rest)) : Wk p l e R s m args below meth c cl D K NL ad A H0 nL cells slots Q G x pc L (rest) := fun H locs ls h1 h2 h3 => lv_iload_n hC.hx hC.hb hdg hi (h3.at hl) (kk H locs ls h1 h2 h3)
theorem fk_iload (hC : Cx p s m args c cc nL Ts own cl D K NL ad A H0) {i : Nat} {u : Int32} (hdg : decode cc pc = .ok (.iload i, 2)) (hl : f_nth L i = some (.int u)) (kk : Wk p l e R s m args below meth c cl D K NL ad A H0 nL cells slots Q G x (pc + 2) L (.int u :: rest)) : Wk p l e R s m args below meth c cl D K NL ad A H0 nL cells slots Q G x pc L (rest) := fun H locs ls h1 h2 h3 => lv_iload hC.hx hC.hb hdg (h3.at hl) (kk H locs ls h1 h2 h3)
theorem fk_aload_n (hC : Cx p s m args c cc nL Ts own cl D K NL ad A H0) {k : Fin 4} {i : Nat} {u : Nat} (hdg : decode cc pc = .ok (.aload_n k, 1)) (hi : (k : Nat) = i) (hl : f_nth L i = some (.ref u)) (kk : Wk p l e R s m args below meth c cl D K NL ad A H0 nL cells slots Q G x (pc + 1) L (.ref u :: rest)) : Wk p l e R s m args below meth c cl D K NL ad A H0 nL cells slots Q G x pc L (rest) := fun H locs ls h1 h2 h3 => lv_aload_n hC.hx hC.hb hdg hi (h3.at hl) (kk H locs ls h1 h2 h3)
theorem fk_aload (hC : Cx p s m args c cc nL Ts own cl D K NL ad A H0) {i : Nat} {u : Nat} (hdg : decode cc pc = .ok (.aload i, 2)) (hl : f_nth L i = some (.ref u)) (kk : Wk p l e R s m args below meth c cl D K NL ad A H0 nL cells slots Q G x (pc + 2) L (.ref u :: rest)) : Wk p l e R s m args below meth c cl D K NL ad A H0 nL cells slots Q G x pc L (rest) := fun H locs ls h1 h2 h3 => lv_aload hC.hx hC.hb hdg (h3.at hl) (kk H locs ls h1 h2 h3)
theorem fk_lload_n (hC : Cx p s m args c cc nL Ts own cl D K NL ad A H0) {k : Fin 4} {i : Nat} {u : Int64} (hdg : decode cc pc = .ok (.lload_n k, 1)) (hi : (k : Nat) = i) (hl : f_nth L i = some (.long u)) (kk : Wk p l e R s m args below meth c cl D K NL ad A H0 nL cells slots Q G x (pc + 1) L (.long u :: rest)) : Wk p l e R s m args below meth c cl D K NL ad A H0 nL cells slots Q G x pc L (rest) := fun H locs ls h1 h2 h3 => lv_lload_n hC.hx hC.hb hdg hi (h3.at hl) (kk H locs ls h1 h2 h3)
theorem fk_lload (hC : Cx p s m args c cc nL Ts own cl D K NL ad A H0) {i : Nat} {u : Int64} (hdg : decode cc pc = .ok (.lload i, 2)) (hl : f_nth L i = some (.long u)) (kk : Wk p l e R s m args below meth c cl D K NL ad A H0 nL cells slots Q G x (pc + 2) L (.long u :: rest)) : Wk p l e R s m args below meth c cl D K NL ad A H0 nL cells slots Q G x pc L (rest) := fun H locs ls h1 h2 h3 => lv_lload hC.hx hC.hb hdg (h3.at hl) (kk H locs ls h1 h2 h3)
theorem fk_dload (hC : Cx p s m args c cc nL Ts own cl D K NL ad A H0) {i : Nat} {u : UInt64} (hdg : decode cc pc = .ok (.dload i, 2)) (hl : f_nth L i = some (.double u)) (kk : Wk p l e R s m args below meth c cl D K NL ad A H0 nL cells slots Q G x (pc + 2) L (.double u :: rest)) : Wk p l e R s m args below meth c cl D K NL ad A H0 nL cells slots Q G x pc L (rest) := fun H locs ls h1 h2 h3 => lv_dload hC.hx hC.hb hdg (h3.at hl) (kk H locs ls h1 h2 h3)
theorem fk_istore_n (hC : Cx p s m args c cc nL Ts own cl D K NL ad A H0) {k : Fin 4} {i : Nat} {u : Int32} (hdg : decode cc pc = .ok (.istore_n k, 1)) (hi : (k : Nat) = i) (hn : i < nL) (hc : f_c1 L i = true) (kk : Wk p l e R s m args below meth c cl D K NL ad A H0 nL cells slots Q G x (pc + 1) (f_set L i (some (.int u))) rest) : Wk p l e R s m args below meth c cl D K NL ad A H0 nL cells slots Q G x pc L (.int u :: rest) := fun H locs ls h1 h2 h3 => lv_istore_n hC.hx hC.hb hdg hi h3 hn rfl (fun ls1 h4 => kk H locs ls1 h1 h2 (f_L.set1 hc h4))
theorem fk_istore (hC : Cx p s m args c cc nL Ts own cl D K NL ad A H0) {i : Nat} {u : Int32} (hdg : decode cc pc = .ok (.istore i, 2)) (hn : i < nL) (hc : f_c1 L i = true) (kk : Wk p l e R s m args below meth c cl D K NL ad A H0 nL cells slots Q G x (pc + 2) (f_set L i (some (.int u))) rest) : Wk p l e R s m args below meth c cl D K NL ad A H0 nL cells slots Q G x pc L (.int u :: rest) := fun H locs ls h1 h2 h3 => lv_istore hC.hx hC.hb hdg h3 hn rfl (fun ls1 h4 => kk H locs ls1 h1 h2 (f_L.set1 hc h4))
theorem fk_astore_n (hC : Cx p s m args c cc nL Ts own cl D K NL ad A H0) {k : Fin 4} {i : Nat} {u : Nat} (hdg : decode cc pc = .ok (.astore_n k, 1)) (hi : (k : Nat) = i) (hn : i < nL) (hc : f_c1 L i = true) (kk : Wk p l e R s m args below meth c cl D K NL ad A H0 nL cells slots Q G x (pc + 1) (f_set L i (some (.ref u))) rest) : Wk p l e R s m args below meth c cl D K NL ad A H0 nL cells slots Q G x pc L (.ref u :: rest) := fun H locs ls h1 h2 h3 => lv_astore_n hC.hx hC.hb hdg hi h3 hn rfl (fun ls1 h4 => kk H locs ls1 h1 h2 (f_L.set1 hc h4))
theorem fk_astore (hC : Cx p s m args c cc nL Ts own cl D K NL ad A H0) {i : Nat} {u : Nat} (hdg : decode cc pc = .ok (.astore i, 2)) (hn : i < nL) (hc : f_c1 L i = true) (kk : Wk p l e R s m args below meth c cl D K NL ad A H0 nL cells slots Q G x (pc + 2) (f_set L i (some (.ref u))) rest) : Wk p l e R s m args below meth c cl D K NL ad A H0 nL cells slots Q G x pc L (.ref u :: rest) := fun H locs ls h1 h2 h3 => lv_astore hC.hx hC.hb hdg h3 hn rfl (fun ls1 h4 => kk H locs ls1 h1 h2 (f_L.set1 hc h4))
theorem fk_lstore_n (hC : Cx p s m args c cc nL Ts own cl D K NL ad A H0) {k : Fin 4} {i : Nat} {u : Int64} (hdg : decode cc pc = .ok (.lstore_n k, 1)) (hi : (k : Nat) = i) (hn : i + 1 < nL) (hc : f_c1 L i = true) (kk : Wk p l e R s m args below meth c cl D K NL ad A H0 nL cells slots Q G x (pc + 1) (f_set (f_set L i (some (.long u))) (i + 1) none) rest) : Wk p l e R s m args below meth c cl D K NL ad A H0 nL cells slots Q G x pc L (.long u :: rest) := fun H locs ls h1 h2 h3 => lv_lstore_n hC.hx hC.hb hdg hi h3 hn rfl (fun ls1 h4 => kk H locs ls1 h1 h2 (f_L.set2 hc h4))
theorem fk_lstore (hC : Cx p s m args c cc nL Ts own cl D K NL ad A H0) {i : Nat} {u : Int64} (hdg : decode cc pc = .ok (.lstore i, 2)) (hn : i + 1 < nL) (hc : f_c1 L i = true) (kk : Wk p l e R s m args below meth c cl D K NL ad A H0 nL cells slots Q G x (pc + 2) (f_set (f_set L i (some (.long u))) (i + 1) none) rest) : Wk p l e R s m args below meth c cl D K NL ad A H0 nL cells slots Q G x pc L (.long u :: rest) := fun H locs ls h1 h2 h3 => lv_lstore hC.hx hC.hb hdg h3 hn rfl (fun ls1 h4 => kk H locs ls1 h1 h2 (f_L.set2 hc h4))
theorem fk_dstore (hC : Cx p s m args c cc nL Ts own cl D K NL ad A H0) {i : Nat} {u : UInt64} (hdg : decode cc pc = .ok (.dstore i, 2)) (hn : i + 1 < nL) (hc : f_c1 L i = true) (kk : Wk p l e R s m args below meth c cl D K NL ad A H0 nL cells slots Q G x (pc + 2) (f_set (f_set L i (some (.double u))) (i + 1) none) rest) : Wk p l e R s m args below meth c cl D K NL ad A H0 nL cells slots Q G x pc L (.double u :: rest) := fun H locs ls h1 h2 h3 => lv_dstore hC.hx hC.hb hdg h3 hn rfl (fun ls1 h4 => kk H locs ls1 h1 h2 (f_L.set2 hc h4))
theorem fk_iinc (hC : Cx p s m args c cc nL Ts own cl D K NL ad A H0) {i : Nat} {n : Int} {u v : Int32} (hdg : decode cc pc = .ok (.iinc i n, 3)) (hl : f_nth L i = some (.int u)) (hv : u + Int32.ofInt n = v) (hn : i < nL) (hc : f_c1 L i = true) (kk : Wk p l e R s m args below meth c cl D K NL ad A H0 nL cells slots Q G x (pc + 3) (f_set L i (some (.int v))) rest) : Wk p l e R s m args below meth c cl D K NL ad A H0 nL cells slots Q G x pc L rest := fun H locs ls h1 h2 h3 => by
  obtain ⟨k, hk⟩ := List.getElem?_of_mem ((f_lv_iff L 0 (i, .int u)).mpr ⟨Nat.zero_le _, hl⟩)
  exact lv_iinc hC.hx hC.hb hdg h3 (k := k) hk hv hn rfl (fun ls1 h4 => kk H locs ls1 h1 h2 (f_L.set1 hc h4))
theorem fk_iadd (hC : Cx p s m args c cc nL Ts own cl D K NL ad A H0) {a b : Int32} (hdg : decode cc pc = .ok (.iadd, 1)) (kk : Wk p l e R s m args below meth c cl D K NL ad A H0 nL cells slots Q G x (pc + 1) L (.int (a + b) :: rest)) : Wk p l e R s m args below meth c cl D K NL ad A H0 nL cells slots Q G x pc L (.int b :: .int a :: rest) := fun H locs ls h1 h2 h3 => lv_iadd hC.hx hC.hb hdg (kk H locs ls h1 h2 h3)
theorem fk_isub (hC : Cx p s m args c cc nL Ts own cl D K NL ad A H0) {a b : Int32} (hdg : decode cc pc = .ok (.isub, 1)) (kk : Wk p l e R s m args below meth c cl D K NL ad A H0 nL cells slots Q G x (pc + 1) L (.int (a - b) :: rest)) : Wk p l e R s m args below meth c cl D K NL ad A H0 nL cells slots Q G x pc L (.int b :: .int a :: rest) := fun H locs ls h1 h2 h3 => lv_isub hC.hx hC.hb hdg (kk H locs ls h1 h2 h3)
theorem fk_imul (hC : Cx p s m args c cc nL Ts own cl D K NL ad A H0) {a b : Int32} (hdg : decode cc pc = .ok (.imul, 1)) (kk : Wk p l e R s m args below meth c cl D K NL ad A H0 nL cells slots Q G x (pc + 1) L (.int (a * b) :: rest)) : Wk p l e R s m args below meth c cl D K NL ad A H0 nL cells slots Q G x pc L (.int b :: .int a :: rest) := fun H locs ls h1 h2 h3 => lv_imul hC.hx hC.hb hdg (kk H locs ls h1 h2 h3)
theorem fk_iand (hC : Cx p s m args c cc nL Ts own cl D K NL ad A H0) {a b : Int32} (hdg : decode cc pc = .ok (.iand, 1)) (kk : Wk p l e R s m args below meth c cl D K NL ad A H0 nL cells slots Q G x (pc + 1) L (.int (a &&& b) :: rest)) : Wk p l e R s m args below meth c cl D K NL ad A H0 nL cells slots Q G x pc L (.int b :: .int a :: rest) := fun H locs ls h1 h2 h3 => lv_iand hC.hx hC.hb hdg (kk H locs ls h1 h2 h3)
theorem fk_ior (hC : Cx p s m args c cc nL Ts own cl D K NL ad A H0) {a b : Int32} (hdg : decode cc pc = .ok (.ior, 1)) (kk : Wk p l e R s m args below meth c cl D K NL ad A H0 nL cells slots Q G x (pc + 1) L (.int (a ||| b) :: rest)) : Wk p l e R s m args below meth c cl D K NL ad A H0 nL cells slots Q G x pc L (.int b :: .int a :: rest) := fun H locs ls h1 h2 h3 => lv_ior hC.hx hC.hb hdg (kk H locs ls h1 h2 h3)
theorem fk_ixor (hC : Cx p s m args c cc nL Ts own cl D K NL ad A H0) {a b : Int32} (hdg : decode cc pc = .ok (.ixor, 1)) (kk : Wk p l e R s m args below meth c cl D K NL ad A H0 nL cells slots Q G x (pc + 1) L (.int (a ^^^ b) :: rest)) : Wk p l e R s m args below meth c cl D K NL ad A H0 nL cells slots Q G x pc L (.int b :: .int a :: rest) := fun H locs ls h1 h2 h3 => lv_ixor hC.hx hC.hb hdg (kk H locs ls h1 h2 h3)
theorem fk_ishl (hC : Cx p s m args c cc nL Ts own cl D K NL ad A H0) {a b : Int32} (hdg : decode cc pc = .ok (.ishl, 1)) (kk : Wk p l e R s m args below meth c cl D K NL ad A H0 nL cells slots Q G x (pc + 1) L (.int (a <<< (b &&& 31)) :: rest)) : Wk p l e R s m args below meth c cl D K NL ad A H0 nL cells slots Q G x pc L (.int b :: .int a :: rest) := fun H locs ls h1 h2 h3 => lv_ishl hC.hx hC.hb hdg (kk H locs ls h1 h2 h3)
theorem fk_ishr (hC : Cx p s m args c cc nL Ts own cl D K NL ad A H0) {a b : Int32} (hdg : decode cc pc = .ok (.ishr, 1)) (kk : Wk p l e R s m args below meth c cl D K NL ad A H0 nL cells slots Q G x (pc + 1) L (.int (a >>> (b &&& 31)) :: rest)) : Wk p l e R s m args below meth c cl D K NL ad A H0 nL cells slots Q G x pc L (.int b :: .int a :: rest) := fun H locs ls h1 h2 h3 => lv_ishr hC.hx hC.hb hdg (kk H locs ls h1 h2 h3)
theorem fk_iushr (hC : Cx p s m args c cc nL Ts own cl D K NL ad A H0) {a b v : Int32} (hdg : decode cc pc = .ok (.iushr, 1)) (hv : (a.toUInt32 >>> (b.toUInt32 &&& Int32.toUInt32 31)).toInt32 = v) (kk : Wk p l e R s m args below meth c cl D K NL ad A H0 nL cells slots Q G x (pc + 1) L (.int v :: rest)) : Wk p l e R s m args below meth c cl D K NL ad A H0 nL cells slots Q G x pc L (.int b :: .int a :: rest) := fun H locs ls h1 h2 h3 => lv_iushr hC.hx hC.hb hdg hv (kk H locs ls h1 h2 h3)
theorem fk_idiv (hC : Cx p s m args c cc nL Ts own cl D K NL ad A H0) {a b : Int32} (hdg : decode cc pc = .ok (.idiv, 1)) (hne : ¬ b = 0) (kk : Wk p l e R s m args below meth c cl D K NL ad A H0 nL cells slots Q G x (pc + 1) L (.int (a / b) :: rest)) : Wk p l e R s m args below meth c cl D K NL ad A H0 nL cells slots Q G x pc L (.int b :: .int a :: rest) := fun H locs ls h1 h2 h3 => lv_idiv hC.hx hC.hb hdg hne (kk H locs ls h1 h2 h3)
theorem fk_irem (hC : Cx p s m args c cc nL Ts own cl D K NL ad A H0) {a b : Int32} (hdg : decode cc pc = .ok (.irem, 1)) (hne : ¬ b = 0) (kk : Wk p l e R s m args below meth c cl D K NL ad A H0 nL cells slots Q G x (pc + 1) L (.int (a - a / b * b) :: rest)) : Wk p l e R s m args below meth c cl D K NL ad A H0 nL cells slots Q G x pc L (.int b :: .int a :: rest) := fun H locs ls h1 h2 h3 => lv_irem hC.hx hC.hb hdg hne (kk H locs ls h1 h2 h3)
theorem fk_i2l (hC : Cx p s m args c cc nL Ts own cl D K NL ad A H0) {a : Int32} {v : Int64} (hdg : decode cc pc = .ok (.i2l, 1)) (hv : a.toInt64 = v) (kk : Wk p l e R s m args below meth c cl D K NL ad A H0 nL cells slots Q G x (pc + 1) L (.long v :: rest)) : Wk p l e R s m args below meth c cl D K NL ad A H0 nL cells slots Q G x pc L (.int a :: rest) := fun H locs ls h1 h2 h3 => lv_i2l hC.hx hC.hb hdg hv (kk H locs ls h1 h2 h3)
theorem fk_i2d (hC : Cx p s m args c cc nL Ts own cl D K NL ad A H0) {a : Int32} (hdg : decode cc pc = .ok (.i2d, 1)) (kk : Wk p l e R s m args below meth c cl D K NL ad A H0 nL cells slots Q G x (pc + 1) L (.double (FP.i2d a) :: rest)) : Wk p l e R s m args below meth c cl D K NL ad A H0 nL cells slots Q G x pc L (.int a :: rest) := fun H locs ls h1 h2 h3 => lv_i2d hC.hx hC.hb hdg (kk H locs ls h1 h2 h3)
theorem fk_lsub (hC : Cx p s m args c cc nL Ts own cl D K NL ad A H0) {a b : Int64} (hdg : decode cc pc = .ok (.lsub, 1)) (kk : Wk p l e R s m args below meth c cl D K NL ad A H0 nL cells slots Q G x (pc + 1) L (.long (a - b) :: rest)) : Wk p l e R s m args below meth c cl D K NL ad A H0 nL cells slots Q G x pc L (.long b :: .long a :: rest) := fun H locs ls h1 h2 h3 => lv_lsub hC.hx hC.hb hdg (kk H locs ls h1 h2 h3)
theorem fk_land (hC : Cx p s m args c cc nL Ts own cl D K NL ad A H0) {a b : Int64} (hdg : decode cc pc = .ok (.land, 1)) (kk : Wk p l e R s m args below meth c cl D K NL ad A H0 nL cells slots Q G x (pc + 1) L (.long (a &&& b) :: rest)) : Wk p l e R s m args below meth c cl D K NL ad A H0 nL cells slots Q G x pc L (.long b :: .long a :: rest) := fun H locs ls h1 h2 h3 => lv_land hC.hx hC.hb hdg (kk H locs ls h1 h2 h3)
theorem fk_lcmp (hC : Cx p s m args c cc nL Ts own cl D K NL ad A H0) {a b : Int64} (hdg : decode cc pc = .ok (.lcmp, 1)) (kk : Wk p l e R s m args below meth c cl D K NL ad A H0 nL cells slots Q G x (pc + 1) L (.int (lg_cmp a b) :: rest)) : Wk p l e R s m args below meth c cl D K NL ad A H0 nL cells slots Q G x pc L (.long b :: .long a :: rest) := fun H locs ls h1 h2 h3 => W.lcmp hC.hx hC.hb hdg (kk H locs ls h1 h2 h3)
theorem fk_dup (hC : Cx p s m args c cc nL Ts own cl D K NL ad A H0) {a : Value} (hdg : decode cc pc = .ok (.dup, 1)) (ha : a.category = 1) (kk : Wk p l e R s m args below meth c cl D K NL ad A H0 nL cells slots Q G x (pc + 1) L (a :: a :: rest)) : Wk p l e R s m args below meth c cl D K NL ad A H0 nL cells slots Q G x pc L (a :: rest) := fun H locs ls h1 h2 h3 => lv_dup hC.hx hC.hb hdg ha (kk H locs ls h1 h2 h3)
theorem fk_dup2 (hC : Cx p s m args c cc nL Ts own cl D K NL ad A H0) {a b : Value} (hdg : decode cc pc = .ok (.dup2, 1)) (ha : a.category = 1) (hb9 : b.category = 1) (kk : Wk p l e R s m args below meth c cl D K NL ad A H0 nL cells slots Q G x (pc + 1) L (a :: b :: a :: b :: rest)) : Wk p l e R s m args below meth c cl D K NL ad A H0 nL cells slots Q G x pc L (a :: b :: rest) := fun H locs ls h1 h2 h3 => lv_dup2_11 hC.hx hC.hb hdg ha hb9 (kk H locs ls h1 h2 h3)
theorem fk_if_eq (hC : Cx p s m args c cc nL Ts own cl D K NL ad A H0) {a : Int32} {off : Int} {tgt : Nat} (hdg : decode cc pc = .ok (.ifCond .eq off, 3)) (ht : (pc : Int) + off = (tgt : Int)) (kt : a = 0 → Wk p l e R s m args below meth c cl D K NL ad A H0 nL cells slots Q G x tgt L rest) (kf : ¬ a = 0 → Wk p l e R s m args below meth c cl D K NL ad A H0 nL cells slots Q G x (pc + 3) L rest) : Wk p l e R s m args below meth c cl D K NL ad A H0 nL cells slots Q G x pc L (.int a :: rest) := fun H locs ls h1 h2 h3 => lv_if_eq hC.hx hC.hb hdg ht (fun h => kt h H locs ls h1 h2 h3) (fun h => kf h H locs ls h1 h2 h3)
theorem fk_if_ne (hC : Cx p s m args c cc nL Ts own cl D K NL ad A H0) {a : Int32} {off : Int} {tgt : Nat} (hdg : decode cc pc = .ok (.ifCond .ne off, 3)) (ht : (pc : Int) + off = (tgt : Int)) (kt : ¬ a = 0 → Wk p l e R s m args below meth c cl D K NL ad A H0 nL cells slots Q G x tgt L rest) (kf : a = 0 → Wk p l e R s m args below meth c cl D K NL ad A H0 nL cells slots Q G x (pc + 3) L rest) : Wk p l e R s m args below meth c cl D K NL ad A H0 nL cells slots Q G x pc L (.int a :: rest) := fun H locs ls h1 h2 h3 => lv_if_ne hC.hx hC.hb hdg ht (fun h => kt h H locs ls h1 h2 h3) (fun h => kf h H locs ls h1 h2 h3)
theorem fk_if_lt (hC : Cx p s m args c cc nL Ts own cl D K NL ad A H0) {a : Int32} {off : Int} {tgt : Nat} (hdg : decode cc pc = .ok (.ifCond .lt off, 3)) (ht : (pc : Int) + off = (tgt : Int)) (kt : a < 0 → Wk p l e R s m args below meth c cl D K NL ad A H0 nL cells slots Q G x tgt L rest) (kf : ¬ a < 0 → Wk p l e R s m args below meth c cl D K NL ad A H0 nL cells slots Q G x (pc + 3) L rest) : Wk p l e R s m args below meth c cl D K NL ad A H0 nL cells slots Q G x pc L (.int a :: rest) := fun H locs ls h1 h2 h3 => lv_if_lt hC.hx hC.hb hdg ht (fun h => kt h H locs ls h1 h2 h3) (fun h => kf h H locs ls h1 h2 h3)
theorem fk_if_ge (hC : Cx p s m args c cc nL Ts own cl D K NL ad A H0) {a : Int32} {off : Int} {tgt : Nat} (hdg : decode cc pc = .ok (.ifCond .ge off, 3)) (ht : (pc : Int) + off = (tgt : Int)) (kt : 0 ≤ a → Wk p l e R s m args below meth c cl D K NL ad A H0 nL cells slots Q G x tgt L rest) (kf : ¬ 0 ≤ a → Wk p l e R s m args below meth c cl D K NL ad A H0 nL cells slots Q G x (pc + 3) L rest) : Wk p l e R s m args below meth c cl D K NL ad A H0 nL cells slots Q G x pc L (.int a :: rest) := fun H locs ls h1 h2 h3 => lv_if_ge hC.hx hC.hb hdg ht (fun h => kt h H locs ls h1 h2 h3) (fun h => kf h H locs ls h1 h2 h3)
theorem fk_if_gt (hC : Cx p s m args c cc nL Ts own cl D K NL ad A H0) {a : Int32} {off : Int} {tgt : Nat} (hdg : decode cc pc = .ok (.ifCond .gt off, 3)) (ht : (pc : Int) + off = (tgt : Int)) (kt : 0 < a → Wk p l e R s m args below meth c cl D K NL ad A H0 nL cells slots Q G x tgt L rest) (kf : ¬ 0 < a → Wk p l e R s m args below meth c cl D K NL ad A H0 nL cells slots Q G x (pc + 3) L rest) : Wk p l e R s m args below meth c cl D K NL ad A H0 nL cells slots Q G x pc L (.int a :: rest) := fun H locs ls h1 h2 h3 => lv_if_gt hC.hx hC.hb hdg ht (fun h => kt h H locs ls h1 h2 h3) (fun h => kf h H locs ls h1 h2 h3)
theorem fk_if_le (hC : Cx p s m args c cc nL Ts own cl D K NL ad A H0) {a : Int32} {off : Int} {tgt : Nat} (hdg : decode cc pc = .ok (.ifCond .le off, 3)) (ht : (pc : Int) + off = (tgt : Int)) (kt : a ≤ 0 → Wk p l e R s m args below meth c cl D K NL ad A H0 nL cells slots Q G x tgt L rest) (kf : ¬ a ≤ 0 → Wk p l e R s m args below meth c cl D K NL ad A H0 nL cells slots Q G x (pc + 3) L rest) : Wk p l e R s m args below meth c cl D K NL ad A H0 nL cells slots Q G x pc L (.int a :: rest) := fun H locs ls h1 h2 h3 => lv_if_le hC.hx hC.hb hdg ht (fun h => kt h H locs ls h1 h2 h3) (fun h => kf h H locs ls h1 h2 h3)
theorem fk_icmp_eq (hC : Cx p s m args c cc nL Ts own cl D K NL ad A H0) {a b : Int32} {off : Int} {tgt : Nat} (hdg : decode cc pc = .ok (.if_icmp .eq off, 3)) (ht : (pc : Int) + off = (tgt : Int)) (kt : a = b → Wk p l e R s m args below meth c cl D K NL ad A H0 nL cells slots Q G x tgt L rest) (kf : ¬ a = b → Wk p l e R s m args below meth c cl D K NL ad A H0 nL cells slots Q G x (pc + 3) L rest) : Wk p l e R s m args below meth c cl D K NL ad A H0 nL cells slots Q G x pc L (.int b :: .int a :: rest) := fun H locs ls h1 h2 h3 => lv_icmp_eq hC.hx hC.hb hdg ht (fun h => kt h H locs ls h1 h2 h3) (fun h => kf h H locs ls h1 h2 h3)
theorem fk_icmp_ne (hC : Cx p s m args c cc nL Ts own cl D K NL ad A H0) {a b : Int32} {off : Int} {tgt : Nat} (hdg : decode cc pc = .ok (.if_icmp .ne off, 3)) (ht : (pc : Int) + off = (tgt : Int)) (kt : ¬ a = b → Wk p l e R s m args below meth c cl D K NL ad A H0 nL cells slots Q G x tgt L rest) (kf : a = b → Wk p l e R s m args below meth c cl D K NL ad A H0 nL cells slots Q G x (pc + 3) L rest) : Wk p l e R s m args below meth c cl D K NL ad A H0 nL cells slots Q G x pc L (.int b :: .int a :: rest) := fun H locs ls h1 h2 h3 => lv_icmp_ne hC.hx hC.hb hdg ht (fun h => kt h H locs ls h1 h2 h3) (fun h => kf h H locs ls h1 h2 h3)
theorem fk_icmp_lt (hC : Cx p s m args c cc nL Ts own cl D K NL ad A H0) {a b : Int32} {off : Int} {tgt : Nat} (hdg : decode cc pc = .ok (.if_icmp .lt off, 3)) (ht : (pc : Int) + off = (tgt : Int)) (kt : a < b → Wk p l e R s m args below meth c cl D K NL ad A H0 nL cells slots Q G x tgt L rest) (kf : ¬ a < b → Wk p l e R s m args below meth c cl D K NL ad A H0 nL cells slots Q G x (pc + 3) L rest) : Wk p l e R s m args below meth c cl D K NL ad A H0 nL cells slots Q G x pc L (.int b :: .int a :: rest) := fun H locs ls h1 h2 h3 => lv_icmp_lt hC.hx hC.hb hdg ht (fun h => kt h H locs ls h1 h2 h3) (fun h => kf h H locs ls h1 h2 h3)
theorem fk_icmp_ge (hC : Cx p s m args c cc nL Ts own cl D K NL ad A H0) {a b : Int32} {off : Int} {tgt : Nat} (hdg : decode cc pc = .ok (.if_icmp .ge off, 3)) (ht : (pc : Int) + off = (tgt : Int)) (kt : b ≤ a → Wk p l e R s m args below meth c cl D K NL ad A H0 nL cells slots Q G x tgt L rest) (kf : ¬ b ≤ a → Wk p l e R s m args below meth c cl D K NL ad A H0 nL cells slots Q G x (pc + 3) L rest) : Wk p l e R s m args below meth c cl D K NL ad A H0 nL cells slots Q G x pc L (.int b :: .int a :: rest) := fun H locs ls h1 h2 h3 => lv_icmp_ge hC.hx hC.hb hdg ht (fun h => kt h H locs ls h1 h2 h3) (fun h => kf h H locs ls h1 h2 h3)
theorem fk_icmp_gt (hC : Cx p s m args c cc nL Ts own cl D K NL ad A H0) {a b : Int32} {off : Int} {tgt : Nat} (hdg : decode cc pc = .ok (.if_icmp .gt off, 3)) (ht : (pc : Int) + off = (tgt : Int)) (kt : b < a → Wk p l e R s m args below meth c cl D K NL ad A H0 nL cells slots Q G x tgt L rest) (kf : ¬ b < a → Wk p l e R s m args below meth c cl D K NL ad A H0 nL cells slots Q G x (pc + 3) L rest) : Wk p l e R s m args below meth c cl D K NL ad A H0 nL cells slots Q G x pc L (.int b :: .int a :: rest) := fun H locs ls h1 h2 h3 => lv_icmp_gt hC.hx hC.hb hdg ht (fun h => kt h H locs ls h1 h2 h3) (fun h => kf h H locs ls h1 h2 h3)
theorem fk_icmp_le (hC : Cx p s m args c cc nL Ts own cl D K NL ad A H0) {a b : Int32} {off : Int} {tgt : Nat} (hdg : decode cc pc = .ok (.if_icmp .le off, 3)) (ht : (pc : Int) + off = (tgt : Int)) (kt : a ≤ b → Wk p l e R s m args below meth c cl D K NL ad A H0 nL cells slots Q G x tgt L rest) (kf : ¬ a ≤ b → Wk p l e R s m args below meth c cl D K NL ad A H0 nL cells slots Q G x (pc + 3) L rest) : Wk p l e R s m args below meth c cl D K NL ad A H0 nL cells slots Q G x pc L (.int b :: .int a :: rest) := fun H locs ls h1 h2 h3 => lv_icmp_le hC.hx hC.hb hdg ht (fun h => kt h H locs ls h1 h2 h3) (fun h => kf h H locs ls h1 h2 h3)
theorem fk_goto (hC : Cx p s m args c cc nL Ts own cl D K NL ad A H0) {off : Int} {tgt : Nat} (hdg : decode cc pc = .ok (.goto off, 3)) (ht : (pc : Int) + off = (tgt : Int)) (kk : Wk p l e R s m args below meth c cl D K NL ad A H0 nL cells slots Q G x tgt L rest) : Wk p l e R s m args below meth c cl D K NL ad A H0 nL cells slots Q G x pc L rest := fun H locs ls h1 h2 h3 => lv_goto hC.hx hC.hb hdg ht (kk H locs ls h1 h2 h3)
theorem fk_tableOut (hC : Cx p s m args c cc nL Ts own cl D K NL ad A H0) {dflt lo hi : Int} {offs : Array Int} {len : Nat} {a : Int32} {tgt : Nat} (hdg : decode cc pc = .ok (.tableswitch dflt lo hi offs, len)) (h : a.toInt < lo ∨ hi < a.toInt) (ht : (pc : Int) + dflt = (tgt : Int)) (kk : Wk p l e R s m args below meth c cl D K NL ad A H0 nL cells slots Q G x tgt L rest) : Wk p l e R s m args below meth c cl D K NL ad A H0 nL cells slots Q G x pc L (.int a :: rest) := fun H locs ls h1 h2 h3 => lv_tableOut hC.hx hC.hb hdg h ht (kk H locs ls h1 h2 h3)
theorem fk_tableIn (hC : Cx p s m args c cc nL Ts own cl D K NL ad A H0) {dflt lo hi : Int} {offs : Array Int} {len : Nat} {a : Int32} {off : Int} {tgt : Nat} (hdg : decode cc pc = .ok (.tableswitch dflt lo hi offs, len)) (g1 : ¬ a.toInt < lo) (g2 : ¬ hi < a.toInt) (ho : offs[(a.toInt - lo).toNat]? = some off) (ht : (pc : Int) + off = (tgt : Int)) (kk : Wk p l e R s m args below meth c cl D K NL ad A H0 nL cells slots Q G x tgt L rest) : Wk p l e R s m args below meth c cl D K NL ad A H0 nL cells slots Q G x pc L (.int a :: rest) := fun H locs ls h1 h2 h3 => lv_tableIn hC.hx hC.hb hdg g1 g2 ho ht (kk H locs ls h1 h2 h3)
theorem fk_ldc (hC : Cx p s m args c cc nL Ts own cl D K NL ad A H0) {index : Nat} {v : Int32} (hc : Cond.constant own index v ∈ Ts) (hdg : decode cc pc = .ok (.ldc index, 2)) (kk : Wk p l e R s m args below meth c cl D K NL ad A H0 nL cells slots Q G x (pc + 2) L (.int v :: rest)) : Wk p l e R s m args below meth c cl D K NL ad A H0 nL cells slots Q G x pc L rest := fun H locs ls h1 h2 h3 => lv_ldc hC.hx hC.hb hC.hown (hC.ts _ hc) hdg (kk H locs ls h1 h2 h3)
theorem fk_ldcw (hC : Cx p s m args c cc nL Ts own cl D K NL ad A H0) {index : Nat} {v : Int32} (hc : Cond.constant own index v ∈ Ts) (hdg : decode cc pc = .ok (.ldc_w index, 3)) (kk : Wk p l e R s m args below meth c cl D K NL ad A H0 nL cells slots Q G x (pc + 3) L (.int v :: rest)) : Wk p l e R s m args below meth c cl D K NL ad A H0 nL cells slots Q G x pc L rest := fun H locs ls h1 h2 h3 => lv_ldcw hC.hx hC.hb hC.hown (hC.ts _ hc) hdg (kk H locs ls h1 h2 h3)
theorem fk_ldc2 (hC : Cx p s m args c cc nL Ts own cl D K NL ad A H0) {index : Nat} {v : Int64} (hc : Cond.constantLong own index v ∈ Ts) (hdg : decode cc pc = .ok (.ldc2_w index, 3)) (kk : Wk p l e R s m args below meth c cl D K NL ad A H0 nL cells slots Q G x (pc + 3) L (.long v :: rest)) : Wk p l e R s m args below meth c cl D K NL ad A H0 nL cells slots Q G x pc L rest := fun H locs ls h1 h2 h3 => lv_ldc2 hC.hx hC.hb hC.hown (hC.ts _ hc) hdg (kk H locs ls h1 h2 h3)
theorem fk_get (hC : Cx p s m args c cc nL Ts own cl D K NL ad A H0) {n ci k index N : Nat} {ref C : String} {T : u_T} {fs : List Value} {v : Value} (hn : n ∈ NL) (he : f_E K NL ad G x n = .inr (ci, fs)) (hc : cl[ci]? = some (C, T, N)) (hin : ∀ w ∈ u_ws C T N, w ∈ Ts) (hk : k < N) (hlink : Cond.fieldLink own index ref (T k).2.1 (T k).2.2.1 ∈ Ts) (hsame : (T k).1 = ref) (hv : fs[k]? = some v) (hdg : decode cc pc = .ok (.getfield index, 3)) (kk : Wk p l e R s m args below meth c cl D K NL ad A H0 nL cells slots Q G x (pc + 3) L (v :: rest)) : Wk p l e R s m args below meth c cl D K NL ad A H0 nL cells slots Q G x pc L (.ref (ad n) :: rest) := fun H locs ls h1 h2 h3 => by
  obtain ⟨q, hq⟩ := List.getElem?_of_mem hn
  subst hsame
  exact va_get hC.hx hC.hb hC.1.2.2.2.2 hin hC.hown hC.hK h1 q ((f_W_at hq).trans (by rw [he])) hc k hk (hC.ts _ hlink) (fun _ h => h) hv hdg (kk H locs ls h1 h2 h3)
theorem fk_put (hC : Cx p s m args c cc nL Ts own cl D K NL ad A H0) {n ci k index N g : Nat} {ref C : String} {T : u_T} {fs : List Value} {ty : FieldType} {v : Int32} (hn : n ∈ NL) (he : f_E K NL ad G x n = .inr (ci, fs)) (hc : cl[ci]? = some (C, T, N)) (hin : ∀ w ∈ u_ws C T N, w ∈ Ts) (ty0 : Nat → FieldType) (hty : ∀ k, k < N → parseFieldDescriptor (T k).2.2.1 = some (ty0 k)) (hnm : ∀ a, a < N → ∀ b, b < N → a ≠ b → (T a).2.1 ≠ (T b).2.1) (hk : k < N) (hlink : Cond.fieldLink own index ref (T k).2.1 (T k).2.2.1 ∈ Ts) (hsame : (T k).1 = ref) (hfin : (T k).2.2.2 = false) (hd : ty0 k = ty) (hnw : narrow ty (.int v) = .int v) (hfit : fits ty (.int v) = true) (hg : f_own g = n) (hset : f_E K NL ad (upd G g v) x n = .inr (ci, fs.set k (.int v))) (hl : k < fs.length) (hdg : decode cc pc = .ok (.putfield index, 3)) (kk : Wk p l e R s m args below meth c cl D K NL ad A H0 nL cells slots Q (upd G g v) x (pc + 3) L rest) : Wk p l e R s m args below meth c cl D K NL ad A H0 nL cells slots Q G x pc L (.int v :: .ref (ad n) :: rest) := fun H locs ls h1 h2 h3 => by
  obtain ⟨q, hq⟩ := List.getElem?_of_mem hn
  subst hsame
  exact va_put hC.hx hC.hb hC.1.2.2.2.2 hin ty0 hty hnm hC.hown hC.hK h1 hC.hD.to h2 q ((f_W_at hq).trans (by rw [he])) hc k hk (hC.ts _ hlink) (fun _ h => h) hfin (ty := ty) (by rw [hty k hk, hd]) hnw hfit hl hdg (fun H1 locs1 hP _ hS => kk H1 locs1 ls (f_P_set hC.hD hq hg hset hP) hS h3)
theorem fk_iald (hC : Cx p s m args c cc nL Ts own cl D K NL ad A H0) {n N b j : Nat} {i : Int32} (hn : n ∈ NL) (he : f_E K NL ad G x n = f_ia K 0 N G b) (hi : i = nI j) (hj : j < N) (hN : N < 2 ^ 31) (hdg : decode cc pc = .ok (.iaload, 1)) (kk : Wk p l e R s m args below meth c cl D K NL ad A H0 nL cells slots Q G x (pc + 1) L (.int (G (b + j)) :: rest)) : Wk p l e R s m args below meth c cl D K NL ad A H0 nL cells slots Q G x pc L (.int i :: .ref (ad n) :: rest) := fun H locs ls h1 h2 h3 => by
  obtain ⟨q, hq⟩ := List.getElem?_of_mem hn
  subst hi
  have h4 := kk H locs ls h1 h2 h3
  exact va_iald hC.hx hC.hb hC.hK h1 q 0 ((f_W_at hq).trans (by rw [he])) rfl (vp_in_nI hj hN) hdg (by rw [nI_clamp (by omega)]; exact h4)
theorem fk_zald (hC : Cx p s m args c cc nL Ts own cl D K NL ad A H0) {n N b j : Nat} {i : Int32} (hn : n ∈ NL) (he : f_E K NL ad G x n = f_ia K 1 N G b) (hi : i = nI j) (hj : j < N) (hN : N < 2 ^ 31) (hdg : decode cc pc = .ok (.baload, 1)) (kk : Wk p l e R s m args below meth c cl D K NL ad A H0 nL cells slots Q G x (pc + 1) L (.int (G (b + j)) :: rest)) : Wk p l e R s m args below meth c cl D K NL ad A H0 nL cells slots Q G x pc L (.int i :: .ref (ad n) :: rest) := fun H locs ls h1 h2 h3 => by
  obtain ⟨q, hq⟩ := List.getElem?_of_mem hn
  subst hi
  have h4 := kk H locs ls h1 h2 h3
  exact va_zald hC.hx hC.hb hC.hK h1 q 1 ((f_W_at hq).trans (by rw [he])) rfl (vp_in_nI hj hN) hdg (by rw [nI_clamp (by omega)]; exact h4)
theorem f_updb (G : fM) (b j : Nat) (v : Int32) : upd (fun k => G (b + k)) j v = fun k => upd G (b + j) v (b + k) := by
  funext k
  by_cases h : k = j
  · subst h; simp [upd]
  · have : ¬ (b + k = b + j) := by omega
    simp [upd, h]
theorem fk_iast (hC : Cx p s m args c cc nL Ts own cl D K NL ad A H0) {n N b j : Nat} {i v : Int32} (hn : n ∈ NL) (he : ∀ G : fM, f_E K NL ad G x n = f_ia K 0 N G b) (hi : i = nI j) (hj : j < N) (hN : N < 2 ^ 31) (hg : f_own (b + j) = n) (hdg : decode cc pc = .ok (.iastore, 1)) (kk : Wk p l e R s m args below meth c cl D K NL ad A H0 nL cells slots Q (upd G (b + j) v) x (pc + 1) L rest) : Wk p l e R s m args below meth c cl D K NL ad A H0 nL cells slots Q G x pc L (.int v :: .int i :: .ref (ad n) :: rest) := fun H locs ls h1 h2 h3 => by
  obtain ⟨q, hq⟩ := List.getElem?_of_mem hn
  subst hi
  refine va_iast hC.hx hC.hb hC.hK h1 hC.hD.to h2 q 0 ((f_W_at hq).trans (by rw [he])) rfl (vp_in_nI hj hN) hdg (fun H1 locs1 hP _ hS => kk H1 locs1 ls (f_P_set (e := f_ia K 0 N (upd G (b + j) v) b) hC.hD hq hg (he _) ?_) hS h3)
  rw [nI_clamp (by omega), f_updb] at hP
  exact hP
theorem fk_zast (hC : Cx p s m args c cc nL Ts own cl D K NL ad A H0) {n N b j : Nat} {i v : Int32} (hn : n ∈ NL) (he : ∀ G : fM, f_E K NL ad G x n = f_ia K 1 N G b) (hi : i = nI j) (hj : j < N) (hN : N < 2 ^ 31) (hg : f_own (b + j) = n) (hv : vp_nar .boolean v = v) (hdg : decode cc pc = .ok (.bastore, 1)) (kk : Wk p l e R s m args below meth c cl D K NL ad A H0 nL cells slots Q (upd G (b + j) v) x (pc + 1) L rest) : Wk p l e R s m args below meth c cl D K NL ad A H0 nL cells slots Q G x pc L (.int v :: .int i :: .ref (ad n) :: rest) := fun H locs ls h1 h2 h3 => by
  obtain ⟨q, hq⟩ := List.getElem?_of_mem hn
  subst hi
  refine va_zast hC.hx hC.hb hC.hK h1 hC.hD.to h2 q 1 ((f_W_at hq).trans (by rw [he])) rfl (vp_in_nI hj hN) hdg (fun H1 locs1 hP _ hS => kk H1 locs1 ls (f_P_set (e := f_ia K 1 N (upd G (b + j) v) b) hC.hD hq hg (he _) ?_) hS h3)
  rw [nI_clamp (by omega), hv, f_updb] at hP
  exact hP
theorem fk_aldq (hC : Cx p s m args c cc nL Ts own cl D K NL ad A H0) {n N t j : Nat} {i : Int32} {C : String} {f : Nat → Option Nat} {v : Value} (hn : n ∈ NL) (he : f_E K NL ad G x n = f_ra K t N f) (ht : (f_tys K)[t]? = some (K t, .object C)) (hi : i = nI j) (hj : j < N) (hN : N < 2 ^ 31) (hv : va_rf (f j) = v) (hdg : decode cc pc = .ok (.aaload, 1)) (kk : Wk p l e R s m args below meth c cl D K NL ad A H0 nL cells slots Q G x (pc + 1) L (v :: rest)) : Wk p l e R s m args below meth c cl D K NL ad A H0 nL cells slots Q G x pc L (.int i :: .ref (ad n) :: rest) := fun H locs ls h1 h2 h3 => by
  obtain ⟨q, hq⟩ := List.getElem?_of_mem hn
  subst hi
  subst hv
  have h4 := kk H locs ls h1 h2 h3
  exact va_aldq hC.hx hC.hb hC.hK h1 q t ((f_W_at hq).trans (by rw [he])) ht (vp_in_nI hj hN) hdg (by rw [nI_clamp (by omega)]; exact h4)

end Rows
end FW2
