/-! what the tables say at the start -/
section START
theorem start_K {b : Nat} {s : State} (hts : ∀ w ∈ lw_tbl, w.before #[Value.ref b] s = true) : ∃ (D : va_G) (K : Nat → ClassId), va_K D vwCl (f_tys K) s := by
  obtain ⟨c0, i0, h0⟩ := u_known (C := RX0) (T := TX0) (N := 5) (n := 5) hts wl_X0 (hts (.instantiable RX0 5) (List.mem_of_getElem? (i := 61) (by decide +kernel)))
  obtain ⟨c1, i1, h1⟩ := u_known (C := RX1) (T := TX1) (N := 4) (n := 4) hts wl_X1 (hts (.instantiable RX1 4) (List.mem_of_getElem? (i := 154) (by decide +kernel)))
  obtain ⟨c2, i2, h2⟩ := u_known (C := RX2) (T := TX2) (N := 4) (n := 4) hts wl_X2 (hts (.instantiable RX2 4) (List.mem_of_getElem? (i := 127) (by decide +kernel)))
  obtain ⟨c3, i3, h3⟩ := u_known (C := RX3) (T := TX3) (N := 10) (n := 10) hts wl_X3 (hts (.instantiable RX3 10) (List.mem_of_getElem? (i := 55) (by decide +kernel)))
  obtain ⟨c4, i4, h4⟩ := u_known (C := RX4) (T := TX4) (N := 14) (n := 14) hts wl_X4 (hts (.instantiable RX4 14) (List.mem_of_getElem? (i := 48) (by decide +kernel)))
  obtain ⟨c5, i5, h5⟩ := u_known (C := RX5) (T := TX5) (N := 2) (n := 2) hts wl_X5 (hts (.instantiable RX5 2) (List.mem_of_getElem? (i := 40) (by decide +kernel)))
  obtain ⟨c6, i6, h6⟩ := u_known (C := RX6) (T := TX6) (N := 6) (n := 6) hts wl_X6 (hts (.instantiable RX6 6) (List.mem_of_getElem? (i := 749) (by decide +kernel)))
  obtain ⟨a0, k0, m0, f0, g0, e0⟩ := Cond.arrayClass_spec (hts (.arrayClass .int) (List.mem_of_getElem? (i := 151) (by decide +kernel)))
  obtain ⟨a1, k1, m1, f1, g1, e1⟩ := Cond.arrayClass_spec (hts (.arrayClass .boolean) (List.mem_of_getElem? (i := 152) (by decide +kernel)))
  obtain ⟨a4, k4, m4, f4, g4, e4⟩ := Cond.arrayClass_spec (hts (.arrayClass .long) (List.mem_of_getElem? (i := 975) (by decide +kernel)))
  obtain ⟨a5, k5, m5, f5, g5, e5⟩ := Cond.arrayClass_spec (hts (.arrayClass .double) (List.mem_of_getElem? (i := 976) (by decide +kernel)))
  obtain ⟨m2, a2, k2, p2, _, g2, e2, f2⟩ := Cond.arrayOver_spec (hts (.arrayOver (.object "LoadBalancer$Server")) (List.mem_of_getElem? (i := 54) (by decide +kernel)))
  obtain ⟨m3, a3, k3, p3, _, g3, e3, f3⟩ := Cond.arrayOver_spec (hts (.arrayOver (.object "LoadBalancer$State")) (List.mem_of_getElem? (i := 230) (by decide +kernel)))
  refine ⟨(fun k => match k with | 0 => c0 | 1 => c1 | 2 => c2 | 3 => c3 | 4 => c4 | 5 => c5 | _ => c6, fun k => match k with | 0 => i0 | 1 => i1 | 2 => i2 | 3 => i3 | 4 => i4 | 5 => i5 | _ => i6), fun k => match k with | 0 => a0 | 1 => a1 | 2 => a2 | 3 => a3 | 4 => a4 | _ => a5, fun k q hq => ?_, fun k q hq => ?_⟩
  · match k, hq with
    | 0, hq => cases hq; exact h0
    | 1, hq => cases hq; exact h1
    | 2, hq => cases hq; exact h2
    | 3, hq => cases hq; exact h3
    | 4, hq => cases hq; exact h4
    | 5, hq => cases hq; exact h5
    | 6, hq => cases hq; exact h6
    | k + 7, hq => simp [vwCl] at hq
  · match k, hq with
    | 0, hq => cases hq; exact ⟨fun n z => ⟨fun k h => (by cases h), k0, g0, m0, e0⟩, f0⟩
    | 1, hq => cases hq; exact ⟨fun n z => ⟨fun k h => (by cases h), k1, g1, m1, e1⟩, f1⟩
    | 2, hq => cases hq; exact ⟨fun n z => ⟨fun k h => (by cases h), k2, g2, m2, e2⟩, ⟨k2, m2, g2, e2, p2, f2⟩⟩
    | 3, hq => cases hq; exact ⟨fun n z => ⟨fun k h => (by cases h), k3, g3, m3, e3⟩, ⟨k3, m3, g3, e3, p3, f3⟩⟩
    | 4, hq => cases hq; exact ⟨fun n z => ⟨fun k h => (by cases h), k4, g4, m4, e4⟩, f4⟩
    | 5, hq => cases hq; exact ⟨fun n z => ⟨fun k h => (by cases h), k5, g5, m5, e5⟩, f5⟩
    | k + 6, hq => simp [f_tys] at hq
theorem start_N {b : Nat} {s : State} (hts : ∀ w ∈ lw_tbl, w.before #[Value.ref b] s = true) : f_NI s := by
  exact ⟨⟨va_Nw.of rfl (hts (.methodLinkNest "LoadBalancer$Server" 11 ⟨"LoadBalancer$Breaker", "<init>", "()V"⟩ "LoadBalancer") (List.mem_of_getElem? (i := 62) (by decide +kernel))), va_Nw.of rfl (hts (.methodLinkNest "LoadBalancer$Server" 54 ⟨"LoadBalancer", "mix", "(I)I"⟩ "LoadBalancer") (List.mem_of_getElem? (i := 389) (by decide +kernel))), va_Nw.of rfl (hts (.methodLinkNest "LoadBalancer$Server" 58 ⟨"LoadBalancer", "isBelowUnsigned", "(II)Z"⟩ "LoadBalancer") (List.mem_of_getElem? (i := 390) (by decide +kernel))), va_Nw.of rfl (hts (.methodLinkNest "LoadBalancer$State" 161 ⟨"LoadBalancer", "mix", "(I)I"⟩ "LoadBalancer") (List.mem_of_getElem? (i := 381) (by decide +kernel))), va_Nw.of rfl (hts (.methodLinkNest "LoadBalancer$State" 167 ⟨"LoadBalancer", "isBelowUnsigned", "(II)Z"⟩ "LoadBalancer") (List.mem_of_getElem? (i := 394) (by decide +kernel))), va_Nw.of rfl (hts (.methodLinkNest "LoadBalancer$State" 174 ⟨"LoadBalancer", "nextSeed", "(I)I"⟩ "LoadBalancer") (List.mem_of_getElem? (i := 403) (by decide +kernel)))⟩, va_AO.of (hts (.arrayOver (.object "LoadBalancer$Server")) (List.mem_of_getElem? (i := 54) (by decide +kernel))), va_AO.of (hts (.arrayOver (.object "LoadBalancer$State")) (List.mem_of_getElem? (i := 230) (by decide +kernel)))⟩
theorem start_str {own tx : String} {k : Nat} {args : Array Value} {s : State} (h : (Cond.stringRef own k tx).before args s = true) : ∃ a, vk_R own k tx a s := by
  have hcur : ∃ cur, s.vm.findClass own = some cur := by
    have h1 := h
    simp only [Cond.before, Cond.holds, Cond.value] at h1
    cases hc : s.vm.findClass own with
    | none => simp [hc] at h1
    | some cur => exact ⟨cur, rfl⟩
  obtain ⟨cur, hcur⟩ := hcur
  obtain ⟨_, _, _, a, _, _, _, _, _, h2⟩ := Cond.stringRef_spec hcur h
  exact ⟨a, vk_R.of h h2⟩
set_option maxRecDepth 20000 in
theorem start_c0 {b : Nat} {s : State} (hgv : (Jvm.Cond.and given_1 narrow_1).before #[Value.ref b] s = true) : va_Nc xISE xIAE s := va_Nc.of (flat_of_before _ hgv (.not (.castable "java/lang/IllegalStateException" "java/lang/IllegalArgumentException")) (by decide +kernel))
set_option maxRecDepth 20000 in
theorem start_c1 {b : Nat} {s : State} (hgv : (Jvm.Cond.and given_1 narrow_1).before #[Value.ref b] s = true) : va_Nc xIAE xIOB s := va_Nc.of (flat_of_before _ hgv (.not (.castable "java/lang/IllegalArgumentException" "java/lang/IndexOutOfBoundsException")) (by decide +kernel))
set_option maxRecDepth 20000 in
theorem start_c2 {b : Nat} {s : State} (hgv : (Jvm.Cond.and given_1 narrow_1).before #[Value.ref b] s = true) : va_Nc xISE xIOB s := va_Nc.of (flat_of_before _ hgv (.not (.castable "java/lang/IllegalStateException" "java/lang/IndexOutOfBoundsException")) (by decide +kernel))
theorem start_X {b : Nat} {s : State} (hts : ∀ w ∈ lw_tbl, w.before #[Value.ref b] s = true) (hgv : (Jvm.Cond.and given_1 narrow_1).before #[Value.ref b] s = true) : f_Xn s := by
  exact ⟨⟨va_Nw.of rfl (hts (.declares (xS "java/lang/RuntimeException")) (List.mem_of_getElem? (i := 274) (by decide +kernel))), va_Nw.of rfl (hts (.declares (xS "java/lang/Exception")) (List.mem_of_getElem? (i := 276) (by decide +kernel))), va_Nw.of rfl (hts (.declares (xS "java/lang/Throwable")) (List.mem_of_getElem? (i := 278) (by decide +kernel)))⟩, ⟨va_Nw.of rfl (hts (.castable xIAE xIAE) (List.mem_of_getElem? (i := 425) (by decide +kernel))), va_Nw.of rfl (hts (.castable xISE xISE) (List.mem_of_getElem? (i := 441) (by decide +kernel))), va_Nw.of rfl (hts (.castable xIOB xIOB) (List.mem_of_getElem? (i := 272) (by decide +kernel)))⟩, ⟨start_c0 hgv, start_c1 hgv, start_c2 hgv⟩, start_str (hts (.stringRef "LoadBalancer" 30 "there are 10 servers") (List.mem_of_getElem? (i := 448) (by decide +kernel))), start_str (hts (.stringRef "LoadBalancer" 109 "no server is available, or 1000 connections were opened") (List.mem_of_getElem? (i := 563) (by decide +kernel))), start_str (hts (.stringRef "LoadBalancer" 134 "the connection was closed already") (List.mem_of_getElem? (i := 616) (by decide +kernel))), start_str (hts (.stringRef "LoadBalancer" 167 "there are no servers") (List.mem_of_getElem? (i := 695) (by decide +kernel))), start_str (hts (.stringRef "LoadBalancer" 184 "there is no such count") (List.mem_of_getElem? (i := 708) (by decide +kernel))), start_str (hts (.stringRef "LoadBalancer" 191 "nothing was saved in the slot") (List.mem_of_getElem? (i := 747) (by decide +kernel))), start_str (hts (.stringRef "LoadBalancer" 193 "an argument is out of range") (List.mem_of_getElem? (i := 432) (by decide +kernel))), start_str (hts (.stringRef "LoadBalancer" 197 "no connection with this number was opened") (List.mem_of_getElem? (i := 614) (by decide +kernel))), start_str (hts (.stringRef "LoadBalancer$State" 56 "there is no such server") (List.mem_of_getElem? (i := 311) (by decide +kernel)))⟩
set_option maxRecDepth 20000 in
theorem start_Z {b : Nat} {s : State} (hts : ∀ w ∈ lw_tbl, w.before #[Value.ref b] s = true) (hgv : (Jvm.Cond.and given_1 narrow_1).before #[Value.ref b] s = true) : f_Z (lA s) s s.heap := by
  have hi := hts (.initialized "java/lang/Throwable") (List.mem_of_getElem? (i := 30) (by decide +kernel))
  exact ⟨vx_Zqof (hts (.laysStatic "java/lang/Throwable" "UNASSIGNED_STACK" "[Ljava/lang/StackTraceElement;") (List.mem_of_getElem? (i := 297) (by decide +kernel))) hi (flat_of_before _ hgv (.isRef (.static "java/lang/Throwable" "UNASSIGNED_STACK" "[Ljava/lang/StackTraceElement;")) (by decide +kernel)) (fun a ha h => absurd h (Nat.not_le.mpr ha)), vx_Zqof (hts (.laysStatic "java/lang/Throwable" "SUPPRESSED_SENTINEL" "Ljava/util/List;") (List.mem_of_getElem? (i := 299) (by decide +kernel))) hi (flat_of_before _ hgv (.isRef (.static "java/lang/Throwable" "SUPPRESSED_SENTINEL" "Ljava/util/List;")) (by decide +kernel)) (fun a ha h => absurd h (Nat.not_le.mpr ha))⟩
end START
