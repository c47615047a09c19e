/-! calls upon one server -/
section OPS2
theorem iB_iV (z i c : Nat) : iB z i c = iV z i (10 + c) := by unfold iB iV; omega
theorem cV_up {z i c : Nat} {a : Int32} {G : fM} : cV z i (upd G (iV z i c) a) = upd (cV z i G) c a := by
  funext d
  unfold cV upd
  by_cases h : d = c
  · subst h; rw [if_pos rfl, if_pos rfl]
  · rw [if_neg (by unfold iV; omega), if_neg h]
theorem rV_up {T : fM} {i c k : Nat} {a : Int32} (h : k = 13 + 10 * c + i) : rV (upd T k a) i = upd (rV T i) c a := by
  subst h
  funext d
  unfold rV upd
  by_cases h : d = c
  · subst h; rw [if_pos rfl, if_pos rfl]
  · rw [if_neg (by omega), if_neg h]
theorem rV_ne {T : fM} {i k : Nat} {a : Int32} (h : k < 13) : rV (upd T k a) i = rV T i := by
  funext d
  unfold rV upd
  rw [if_neg (by omega)]
theorem RS.one {cn t nn o n n' i0 : Nat} {T G T' G' : fM} (h : RS cn t nn o n 0 T G) (hi0 : i0 < cn) (hG : ∀ g, g < 10000 → ¬ (iV 0 i0 0 ≤ g ∧ g < iV 0 i0 15) → G' g = G g) (hT : ∀ j, (j < 13 ∨ 143 ≤ j ∨ (j - 13) % 10 ≠ i0) → T' j = T j) (h0 : RV t n' (cV 0 i0 G') (rV T' i0)) (hn : n ≤ n') : RS cn t nn o n' 0 T' G' := by
  have h10 := h.c10
  have h40 := h.hn.2.2
  have h1000 := h.ho.2.2
  refine ⟨h.1.congr (fun c hc => hG _ (by unfold iS; omega) (by unfold iS iV; omega)) (fun j hj => hT j (by omega)) hn, ?_, ?_, ?_⟩
  · exact h.2.1.one h10 hi0 (fun i c hi hne hc => hG _ (by unfold iV; omega) (by unfold iV; omega)) (fun j h1 h2 h3 => hT j (by omega)) h0 (Nat.le_refl _) hn
  · exact h.2.2.1.congr (fun j hj => ⟨hG _ (by unfold iA; omega) (by unfold iA iV; omega), hG _ (by unfold iA; omega) (by unfold iA iV; omega), hG _ (by unfold iA; omega) (by unfold iA iV; omega)⟩) (fun j hj => ⟨hT _ (by omega), hT _ (by omega), hT _ (by omega)⟩) (Nat.le_refl _) (Nat.le_refl _)
  · exact h.2.2.2.congr h1000 (fun j hj => ⟨hG _ (by unfold iA; omega) (by unfold iA iV; omega), hG _ (by unfold iA; omega) (by unfold iA iV; omega), hG _ (by unfold iA; omega) (by unfold iA iV; omega)⟩) (fun j hj _ => hT j (by omega)) (Nat.le_refl _)
theorem rng_nI {a hi : Int32} {m : Nat} (h : rng a 1 hi) (hm : hi.toInt = m) : ∃ w, a = nI w ∧ 1 ≤ w ∧ w ≤ m := by
  obtain ⟨j, h1, h2⟩ := nI_of2 hm (x := a) (fun h0 => h.1 (Int32.lt_trans h0 (by decide))) h.2
  refine ⟨j, h2, ?_, h1⟩
  rcases Nat.eq_zero_or_pos j with h0 | h0
  · subst h0
    subst h2
    exact absurd (show nI 0 < 1 by decide) h.1
  · exact h0
section Ops2
variable {cn t nn o n : Nat} {T G : fM}
/-- places of one server alone are written -/
theorem up_out {G : fM} {i c g : Nat} {a : Int32} (hc : c < 15) (h : ¬ (iV 0 i 0 ≤ g ∧ g < iV 0 i 15)) : upd G (iV 0 i c) a g = G g := pk_un (by unfold iV at *; omega)
theorem upT_out {T : fM} {i c j : Nat} {a : Int32} (hi : i < 10) (hc : c < 13) (h : j < 13 ∨ 143 ≤ j ∨ (j - 13) % 10 ≠ i) : upd T (13 + 10 * c + i) a j = T j := pk_un (by omega)
theorem rs_wt {i : Nat} {a : Int32} (h : RS cn t nn o n 0 T G) (hi : i < cn) (ha : rng a 1 10) : RS cn t nn o (n + 1) 0 (upd T (13 + i) a) (upd G (iV 0 i 0) a) := by
  have h10 := h.c10
  refine h.one hi (fun g _ hg => up_out (by decide) hg) (fun j hj => upT_out (c := 0) (by omega) (by decide) hj) ?_ (Nat.le_succ n)
  rw [cV_up, rV_up (c := 0) (by omega)]
  have hv := (h.V hi).congr (fun _ _ => rfl) (fun _ _ => rfl) (Nat.le_refl t) (Nat.le_succ n)
  exact ⟨⟨rfl, rng_nI ha (by decide)⟩, hv.2⟩
theorem rs_drain {i : Nat} {a : Int32} (h : RS cn t nn o n 0 T G) (hi : i < cn) (ha : a = 0 ∨ a = 1) : RS cn t nn o (n + 1) 0 (upd T (53 + i) (if a = 0 then 0 else 1)) (upd G (iV 0 i 5) a) := by
  have h10 := h.c10
  have e : (if a = 0 then (0 : Int32) else 1) = a := by
    rcases ha with rfl | rfl
    · rfl
    · rfl
  rw [e, show 53 + i = 13 + 10 * 4 + i by omega]
  refine h.one hi (fun g _ hg => up_out (by decide) hg) (fun j hj => upT_out (c := 4) (by omega) (by decide) hj) ?_ (Nat.le_succ n)
  rw [cV_up, rV_up (c := 4) rfl]
  obtain ⟨h1, h2, h3, h4, h5, h6⟩ := (h.V hi).congr (fun _ _ => rfl) (fun _ _ => rfl) (Nat.le_refl t) (Nat.le_succ n)
  exact ⟨h1, h2, h3, h4, ⟨rfl, ha⟩, h6⟩
/-- places of one server alone are written -/
def Own (i : Nat) (G M : fM) : Prop := ∀ g, ¬ (iV 0 i 0 ≤ g ∧ g < iV 0 i 15) → M g = G g
theorem Own.rf {i : Nat} {G : fM} : Own i G G := fun _ _ => rfl
theorem Own.up {i c : Nat} {G M : fM} {a : Int32} (h : Own i G M) (hc : c < 15) : Own i G (upd M (iV 0 i c) a) := fun g hg => (up_out hc hg).trans (h g hg)
theorem Own.upB {i c : Nat} {G M : fM} {a : Int32} (h : Own i G M) (hc : c < 5) : Own i G (upd M (iB 0 i c) a) := by
  rw [iB_iV]
  exact h.up (by omega)
theorem Own.tM {i : Nat} {G M : fM} (h : Own i G M) (hi : i < 10) : tM M = tM G := funext fun j => h _ (by unfold iM iV; omega)
theorem Own.S {i c : Nat} {G M : fM} (h : Own i G M) (hc : c < 100) : M (iS 0 c) = G (iS 0 c) := h _ (by unfold iS iV; omega)
/-- rows of the reference of one server alone -/
def OwnT (i : Nat) (T M : fM) : Prop := ∀ j, (j < 13 ∨ 143 ≤ j ∨ (j - 13) % 10 ≠ i) → M j = T j
theorem OwnT.rf {i : Nat} {T : fM} : OwnT i T T := fun _ _ => rfl
theorem OwnT.up {i k c : Nat} {T M : fM} {a : Int32} (h : OwnT i T M) (hk : k = 13 + 10 * c + i) (hi : i < 10) (hc : c < 13) : OwnT i T (upd M k a) := fun j hj => by
  subst hk
  exact (upT_out hi hc hj).trans (h j hj)
theorem RS.own {i : Nat} {T' G' : fM} {n' : Nat} (h : RS cn t nn o n 0 T G) (hi : i < cn) (hG : Own i G G') (hT : OwnT i T T') (h0 : RV t n' (cV 0 i G') (rV T' i)) (hn : n ≤ n') : RS cn t nn o n' 0 T' G' := h.one hi (fun g _ => hG g) hT h0 hn
/-- report, upon the reference's numbers -/
def tRep (i : Nat) (a : Int32) (T : fM) : fM :=
  if T (43 + i) = 0 then (if a = 1 then upd T (63 + i) 0 else if T (63 + i) + 1 < T 3 then upd T (63 + i) (T (63 + i) + 1) else upd (upd (upd T (63 + i) 0) (43 + i) 1) (73 + i) (T (73 + i)))
  else (if a = 0 then upd T (63 + i) 0 else if T (63 + i) + 1 < T 2 then upd T (63 + i) (T (63 + i) + 1) else upd (upd (upd T (63 + i) 0) (43 + i) 0) (73 + i) (T 1))
theorem upd_upd {f : fM} {k : Nat} {a b : Int32} : upd (upd f k a) k b = upd f k b := by
  funext j
  unfold upd
  split <;> rfl
theorem mM_rep_T {i : Nat} {a : Int32} (hi : i < 10) (G : fM) : tM (mM_rep i a G) = tRep i a (tM G) := by
  have q : ∀ j, upd G (iT 0) 0 (iM j) = G (iM j) := fun j => pk_un (by unfold iM iT; omega)
  have e0 : ∀ (Q : fM) (x : Int32), tM (upd (upd G (iT 0) 0) (iM (63 + i)) x) = upd (tM G) (63 + i) x := fun Q x => by rw [tM_up, tM_t (by decide)]
  have e63 : ∀ (x : Int32), upd (upd G (iT 0) 0) (iM (63 + i)) x (iM (63 + i)) = x := fun x => pk_us
  have ene : ∀ (x : Int32) (j : Nat), j ≠ 63 + i → upd (upd G (iT 0) 0) (iM (63 + i)) x (iM j) = G (iM j) := fun x j hj => by rw [pk_un (by unfold iM; omega), q]
  unfold mM_rep mM_repW mM_repU tRep
  rw [q, e63, ene _ 3 (by omega), ene _ 2 (by omega), q]
  show tM _ = if G (iM (43 + i)) = 0 then (if a = 1 then _ else if G (iM (63 + i)) + 1 < G (iM 3) then _ else _) else (if a = 0 then _ else if G (iM (63 + i)) + 1 < G (iM 2) then _ else _)
  by_cases h43 : G (iM (43 + i)) = 0
  · rw [if_pos h43, if_pos h43]
    by_cases h1 : a = 1
    · rw [if_pos h1, if_pos h1, e0 G]
    · rw [if_neg h1, if_neg h1]
      by_cases h2 : G (iM (63 + i)) + 1 < G (iM 3)
      · rw [if_pos h2, if_pos h2, e0 G]; rfl
      · rw [if_neg h2, if_neg h2, upd_upd, tM_up, tM_up, e0 G, pk_un (by unfold iM; omega), ene _ _ (by omega)]; rfl
  · rw [if_neg h43, if_neg h43]
    by_cases h1 : a = 0
    · rw [if_pos h1, if_pos h1, e0 G]
    · rw [if_neg h1, if_neg h1]
      by_cases h2 : G (iM (63 + i)) + 1 < G (iM 2)
      · rw [if_pos h2, if_pos h2, e0 G]; rfl
      · rw [if_neg h2, if_neg h2, upd_upd, tM_up, tM_up, e0 G, pk_un (by unfold iM; omega), ene _ _ (by omega)]; rfl
theorem sP_rep_own {i : Nat} {a : Int32} (G : fM) : Own i G (sP_rep i a G) := by
  unfold sP_rep sV_u sV_h sV_u1 sV_h1
  by_cases h0 : G (iV 0 i 4) = 0
  · rw [if_pos h0, pk_us]
    by_cases h1 : (if a = 0 then 0 else G (iV 0 i 6) + 1) < G (iS 0 1)
    · rw [if_pos h1]; exact Own.rf.up (by decide)
    · rw [if_neg h1]; exact ((((Own.rf.up (by decide)).up (by decide)).up (by decide)).up (by decide)).up (by decide)
  · rw [if_neg h0, pk_us]
    by_cases h1 : (if a = 0 then G (iV 0 i 6) + 1 else 0) < G (iS 0 2)
    · rw [if_pos h1]; exact Own.rf.up (by decide)
    · rw [if_neg h1]; exact ((Own.rf.up (by decide)).up (by decide)).up (by decide)
theorem tRep_own {i : Nat} {a : Int32} (hi : i < 10) (T : fM) : OwnT i T (tRep i a T) := by
  have u1 : ∀ x, OwnT i T (upd T (63 + i) x) := fun x => OwnT.rf.up (c := 5) (by omega) hi (by decide)
  have u3 : ∀ x y q, OwnT i T (upd (upd (upd T (63 + i) x) (43 + i) y) (73 + i) q) := fun x y q => ((u1 x).up (c := 3) (by omega) hi (by decide)).up (c := 6) (by omega) hi (by decide)
  unfold tRep
  split
  · split
    · exact u1 _
    · split
      · exact u1 _
      · exact u3 _ _ _
  · split
    · exact u1 _
    · split
      · exact u1 _
      · exact u3 _ _ _
theorem lt_0_1 {a : Int32} (h : 1 ≤ a) : (0 : Int32) < a := Int32.lt_of_lt_of_le (by decide) h
theorem rs_rep {i : Nat} {a : Int32} (h : RS cn t nn o n 0 T G) (hi : i < cn) (ha : a = 0 ∨ a = 1) : RS cn t nn o (n + 1) 0 (tRep i a T) (sP_rep i a G) ∧ (tRep i a T (43 + i) = 0 ↔ ¬ sP_rep i a G (iV 0 i 4) = 0) := by
  have h10 := h.c10
  have e2 := h.T2
  have e3 := h.T3
  have et := h.ht
  have eT := h.T1
  obtain ⟨h1, h2, h3, h4, h5, h6, h7, h8⟩ := (h.V hi).congr (fun _ _ => rfl) (fun _ _ => rfl) (Nat.le_refl t) (Nat.le_succ n)
  have k5 : 63 + i = 13 + 10 * 5 + i := by omega
  have k3 : 43 + i = 13 + 10 * 3 + i := by omega
  have k6 : 73 + i = 13 + 10 * 6 + i := by omega
  have h6' : T (63 + i) = G (iV 0 i 6) := by rw [k5]; exact h6
  have own := fun (hv : RV t (n + 1) (cV 0 i (sP_rep i a G)) (rV (tRep i a T) i)) => h.own hi (sP_rep_own G) (tRep_own (by omega) T) hv (Nat.le_succ n)
  rcases h4 with ⟨e4, f4⟩ | ⟨e4, f4⟩
  · have c4 : ¬ G (iV 0 i 4) = 0 := by rw [show G (iV 0 i 4) = 1 from e4]; decide
    have d4 : T (43 + i) = 0 := by rw [k3]; exact f4
    rcases ha with rfl | rfl
    · by_cases hlt : G (iV 0 i 6) + 1 < G (iS 0 2)
      · have eS : sP_rep i 0 G = upd G (iV 0 i 6) (G (iV 0 i 6) + 1) := by unfold sP_rep sV_h sV_h1; rw [if_neg c4, if_pos rfl, pk_us, if_pos hlt]
        have eT9 : tRep i 0 T = upd T (63 + i) (T (63 + i) + 1) := by unfold tRep; rw [if_pos d4, if_neg (by decide), if_pos (by rw [h6', e3.1]; exact hlt)]
        refine ⟨own ?_, ?_⟩
        · rw [eS, eT9, cV_up, rV_up k5, h6']
          exact ⟨h1, h2, h3, Or.inl ⟨e4, f4⟩, h5, rfl, h7, h8⟩
        · rw [eS, eT9, pk_un (by omega), pk_un (by unfold iV; omega), d4]
          exact ⟨fun _ => c4, fun _ => rfl⟩
      · have eS : sP_rep i 0 G = upd (upd (upd G (iV 0 i 6) (G (iV 0 i 6) + 1)) (iV 0 i 4) 0) (iV 0 i 6) 0 := by unfold sP_rep sV_h sV_h1; rw [if_neg c4, if_pos rfl, pk_us, if_neg hlt]
        have eT9 : tRep i 0 T = upd (upd (upd T (63 + i) 0) (43 + i) 1) (73 + i) (T (73 + i)) := by unfold tRep; rw [if_pos d4, if_neg (by decide), if_neg (by rw [h6', e3.1]; exact hlt)]
        refine ⟨own ?_, ?_⟩
        · rw [eS, eT9, cV_up, cV_up, cV_up, rV_up k6, rV_up k3, rV_up k5]
          exact ⟨h1, h2, h3, Or.inr ⟨rfl, rfl⟩, h5, rfl, by rw [show T (73 + i) = rV T i 6 by rw [k6]; rfl]; exact h7, h8⟩
        · rw [eS, eT9, pk_un (by omega), pk_us, pk_un (by unfold iV; omega), pk_us]
          decide
    · have eS : sP_rep i 1 G = upd G (iV 0 i 6) 0 := by unfold sP_rep sV_h sV_h1; rw [if_neg c4, if_neg (show ¬ (1 : Int32) = 0 by decide), pk_us, if_pos (lt_0_1 e3.2)]
      have eT9 : tRep i 1 T = upd T (63 + i) 0 := by unfold tRep; rw [if_pos d4, if_pos rfl]
      refine ⟨own ?_, ?_⟩
      · rw [eS, eT9, cV_up, rV_up k5]
        exact ⟨h1, h2, h3, Or.inl ⟨e4, f4⟩, h5, rfl, h7, h8⟩
      · rw [eS, eT9, pk_un (by omega), pk_un (by unfold iV; omega), d4]
        exact ⟨fun _ => c4, fun _ => rfl⟩
  · have c4 : G (iV 0 i 4) = 0 := e4
    have d4 : ¬ T (43 + i) = 0 := by rw [k3, show T (13 + 10 * 3 + i) = 1 from f4]; decide
    rcases ha with rfl | rfl
    · have eS : sP_rep i 0 G = upd G (iV 0 i 6) 0 := by unfold sP_rep sV_u sV_u1; rw [if_pos c4, if_pos rfl, pk_us, if_pos (lt_0_1 e2.2)]
      have eT9 : tRep i 0 T = upd T (63 + i) 0 := by unfold tRep; rw [if_neg d4, if_pos rfl]
      refine ⟨own ?_, ?_⟩
      · rw [eS, eT9, cV_up, rV_up k5]
        exact ⟨h1, h2, h3, Or.inr ⟨e4, f4⟩, h5, rfl, h7, h8⟩
      · rw [eS, eT9, pk_un (by omega), pk_un (by unfold iV; omega)]
        exact ⟨fun h9 => absurd h9 d4, fun h9 => absurd c4 h9⟩
    · by_cases hlt : G (iV 0 i 6) + 1 < G (iS 0 1)
      · have eS : sP_rep i 1 G = upd G (iV 0 i 6) (G (iV 0 i 6) + 1) := by unfold sP_rep sV_u sV_u1; rw [if_pos c4, if_neg (show ¬ (1 : Int32) = 0 by decide), pk_us, if_pos hlt]
        have eT9 : tRep i 1 T = upd T (63 + i) (T (63 + i) + 1) := by unfold tRep; rw [if_neg d4, if_neg (by decide), if_pos (by rw [h6', e2.1]; exact hlt)]
        refine ⟨own ?_, ?_⟩
        · rw [eS, eT9, cV_up, rV_up k5, h6']
          exact ⟨h1, h2, h3, Or.inr ⟨e4, f4⟩, h5, rfl, h7, h8⟩
        · rw [eS, eT9, pk_un (by omega), pk_un (by unfold iV; omega)]
          exact ⟨fun h9 => absurd h9 d4, fun h9 => absurd c4 h9⟩
      · have eS : sP_rep i 1 G = upd (upd (upd (upd (upd G (iV 0 i 6) (G (iV 0 i 6) + 1)) (iV 0 i 4) 1) (iV 0 i 6) 0) (iV 0 i 7) 1) (iV 0 i 8) (G (iS 0 9)) := by unfold sP_rep sV_u sV_u1; rw [if_pos c4, if_neg (show ¬ (1 : Int32) = 0 by decide), pk_us, if_neg hlt]
        have eT9 : tRep i 1 T = upd (upd (upd T (63 + i) 0) (43 + i) 0) (73 + i) (T 1) := by unfold tRep; rw [if_neg d4, if_neg (by decide), if_neg (by rw [h6', e2.1]; exact hlt)]
        refine ⟨own ?_, ?_⟩
        · rw [eS, eT9, cV_up, cV_up, cV_up, cV_up, cV_up, rV_up k6, rV_up k3, rV_up k5, et, eT]
          exact ⟨h1, h2, h3, Or.inl ⟨rfl, rfl⟩, h5, rfl, Or.inr ⟨rfl, rfl, t, rfl, Nat.le_refl _⟩, h8⟩
        · rw [eS, eT9, pk_un (by omega), pk_us, pk_un (by unfold iV; omega), pk_un (by unfold iV; omega), pk_un (by unfold iV; omega), pk_us]
          decide
/-- a new server -/
theorem rs_add {a b : Int32} (h : RS cn t nn o n 0 T G) (hc : cn < 10) (ha : rng a 1 10) (hb : rng b 1 20) : RS (cn + 1) t nn o (n + 1) 0 (upd (upd (upd (upd (upd T (13 + cn) a) (23 + cn) b) (73 + cn) (-1)) (103 + cn) (-1)) 0 (nI (cn + 1))) (upd (sV_begin 0 cn a b G) (iS 0 0) (nI (cn + 1))) := by
  have h40 := h.hn.2.2
  have h1000 := h.ho.2.2
  have hown : Own cn G (sV_begin 0 cn a b G) := by
    unfold sV_begin sB_shut
    exact (((((((((((Own.rf.up (by decide)).up (by decide)).up (by decide)).up (by decide)).up (by decide)).up (by decide)).up (by decide)).up (by decide)).upB (by decide)).upB (by decide)).upB (by decide))
  have hcV : cV 0 cn (sV_begin 0 cn a b G) = upd (upd (upd (upd (upd (upd (upd (upd (upd (upd (upd (cV 0 cn G) 0 a) 1 b) 2 0) 3 0) 4 1) 5 0) 6 0) 7 0) 10 0) 13 0) 14 0 := by
    unfold sV_begin sB_shut
    rw [iB_iV, iB_iV, iB_iV]
    simp only [cV_up]
  have hoT : OwnT cn T (upd (upd (upd (upd T (13 + cn) a) (23 + cn) b) (73 + cn) (-1)) (103 + cn) (-1)) := (((OwnT.rf.up (c := 0) (by omega) hc (by decide)).up (c := 1) (by omega) hc (by decide)).up (c := 6) (by omega) hc (by decide)).up (c := 9) (by omega) hc (by decide)
  have hrV : rV (upd (upd (upd (upd T (13 + cn) a) (23 + cn) b) (73 + cn) (-1)) (103 + cn) (-1)) cn = upd (upd (upd (upd (rV T cn) 0 a) 1 b) 6 (-1)) 9 (-1) := by
    rw [rV_up (c := 9) (by omega), rV_up (c := 6) (by omega), rV_up (c := 1) (by omega), rV_up (c := 0) (by omega)]
  have hG : ∀ g, g ≠ 0 → ¬ (iV 0 cn 0 ≤ g ∧ g < iV 0 cn 15) → upd (sV_begin 0 cn a b G) (iS 0 0) (nI (cn + 1)) g = G g := fun g h0 h1 => by rw [pk_un (by unfold iS; omega), hown g h1]
  have hT : ∀ j, j ≠ 0 → (j < 13 ∨ 143 ≤ j ∨ (j - 13) % 10 ≠ cn) → upd (upd (upd (upd (upd T (13 + cn) a) (23 + cn) b) (73 + cn) (-1)) (103 + cn) (-1)) 0 (nI (cn + 1)) j = T j := fun j h0 h1 => by rw [pk_un h0, hoT j h1]
  refine ⟨(ra_add h.1 hc).congr (fun c hc9 => ?_) (fun j hj => ?_) (Nat.le_refl _), ⟨fun i hi => ?_, fun i h1 h2 => ?_⟩, ?_, ?_⟩
  · by_cases h0 : c = 0
    · subst h0; rw [pk_us, pk_us]
    · rw [hG _ (by unfold iS; omega) (by unfold iS iV; omega), pk_un (by unfold iS; omega)]
  · by_cases h0 : j = 0
    · subst h0; rw [pk_us, pk_us]
    · rw [hT j h0 (by omega), pk_un h0]
  · by_cases he : i = cn
    · subst he
      obtain ⟨z1, z2, z3, z4, z5, z6, z7, z8⟩ := h.2.1.2 i (Nat.le_refl _) hc
      have key : RV t (n + 1) (upd (upd (upd (upd (upd (upd (upd (upd (upd (upd (upd (cV 0 i G) 0 a) 1 b) 2 0) 3 0) 4 1) 5 0) 6 0) 7 0) 10 0) 13 0) 14 0) (upd (upd (upd (upd (rV T i) 0 a) 1 b) 6 (-1)) 9 (-1)) :=
        ⟨⟨rfl, rng_nI ha (by decide)⟩, ⟨rfl, rng_nI hb (by decide)⟩, ⟨(show T (13 + 10 * 2 + i) = 0 by rw [show 13 + 10 * 2 + i = 33 + i by omega]; exact z1), (show -((n + 1 : Nat) : Int) ≤ (0 : Int32).toInt by rw [show (0 : Int32).toInt = 0 by decide]; omega), (show (0 : Int32).toInt ≤ ((n + 1 : Nat) : Int) by rw [show (0 : Int32).toInt = 0 by decide]; omega)⟩, Or.inl ⟨rfl, (show T (13 + 10 * 3 + i) = 0 by rw [show 13 + 10 * 3 + i = 43 + i by omega]; exact z2)⟩, ⟨(show T (13 + 10 * 4 + i) = 0 by rw [show 13 + 10 * 4 + i = 53 + i by omega]; exact z3), Or.inl rfl⟩, (show T (13 + 10 * 5 + i) = 0 by rw [show 13 + 10 * 5 + i = 63 + i by omega]; exact z4), Or.inl ⟨rfl, rfl⟩, ⟨(show T (13 + 10 * 7 + i) = 0 by rw [show 13 + 10 * 7 + i = 83 + i by omega]; exact z5), Or.inl rfl⟩, (fun h9 => absurd (show (0 : Int32) = 1 from h9) (by decide)), (fun h9 => absurd (show (0 : Int32) = 2 from h9) (by decide)), (show T (13 + 10 * 10 + i) = 0 by rw [show 13 + 10 * 10 + i = 113 + i by omega]; exact z6), ⟨(show T (13 + 10 * 11 + i) = 0 by rw [show 13 + 10 * 11 + i = 123 + i by omega]; exact z7), 0, rfl, by decide⟩, (show T (13 + 10 * 12 + i) = 0 by rw [show 13 + 10 * 12 + i = 133 + i by omega]; exact z8)⟩
      rw [← hcV, ← hrV] at key
      refine key.congr (fun c hc9 => ?_) (fun c hc9 => ?_) (Nat.le_refl _) (Nat.le_refl _)
      · show upd _ _ _ _ = _
        exact pk_un (by unfold iS iV; omega)
      · show upd _ _ _ _ = _
        exact pk_un (by omega)
    · exact (h.V (by omega)).congr (fun c hc9 => hG _ (by unfold iV; omega) (by unfold iV; omega)) (fun c hc9 => hT _ (by omega) (by omega)) (Nat.le_refl _) (Nat.le_succ n)
  · have := h.2.1.2 i (by omega) h2
    unfold zRow at this ⊢
    rw [hT _ (by omega) (by omega), hT _ (by omega) (by omega), hT _ (by omega) (by omega), hT _ (by omega) (by omega), hT _ (by omega) (by omega), hT _ (by omega) (by omega), hT _ (by omega) (by omega), hT _ (by omega) (by omega)]
    exact this
  · exact h.2.2.1.congr (fun j hj => ⟨hG _ (by unfold iA; omega) (by unfold iA iV; omega), hG _ (by unfold iA; omega) (by unfold iA iV; omega), hG _ (by unfold iA; omega) (by unfold iA iV; omega)⟩) (fun j hj => ⟨hT _ (by omega) (by omega), hT _ (by omega) (by omega), hT _ (by omega) (by omega)⟩) (Nat.le_refl _) (Nat.le_succ _)
  · exact h.2.2.2.congr h1000 (fun j hj => ⟨hG _ (by unfold iA; omega) (by unfold iA iV; omega), hG _ (by unfold iA; omega) (by unfold iA iV; omega), hG _ (by unfold iA; omega) (by unfold iA iV; omega)⟩) (fun j hj _ => hT _ (by omega) (by omega)) (Nat.le_succ _)
end Ops2
end OPS2
