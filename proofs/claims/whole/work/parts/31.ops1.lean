set_option maxRecDepth 10000 in
theorem ra_thr {cn t nn o n : Nat} {T G : fM} (h : RA cn t nn o n 0 T G) {a b : Int32} (ha : 1 ≤ a) (hb : 1 ≤ b) : RA cn t nn o (n + 1) 0 (upd (upd T 2 a) 3 b) (upd (upd G (iS 0 1) a) (iS 0 2) b) := by
  obtain ⟨⟨a1, a2, a3⟩, ⟨b1, b2, b3⟩, ⟨c1, c2⟩, ⟨d1, d2⟩, e1, f1, i1, ⟨p1, p2⟩, q1, ⟨r1, r2⟩, ⟨s1, s2, s3⟩, u1, ⟨v1, v2, v3⟩⟩ := h
  unfold RA
  rw [show (upd (upd G (iS 0 1) a) (iS 0 2) b) (iS 0 0) = G (iS 0 0) by simp [upd, iS],
    show (upd (upd G (iS 0 1) a) (iS 0 2) b) (iS 0 1) = a by simp [upd, iS],
    show (upd (upd G (iS 0 1) a) (iS 0 2) b) (iS 0 2) = b by simp [upd, iS],
    show (upd (upd G (iS 0 1) a) (iS 0 2) b) (iS 0 3) = G (iS 0 3) by simp [upd, iS],
    show (upd (upd G (iS 0 1) a) (iS 0 2) b) (iS 0 4) = G (iS 0 4) by simp [upd, iS],
    show (upd (upd G (iS 0 1) a) (iS 0 2) b) (iS 0 5) = G (iS 0 5) by simp [upd, iS],
    show (upd (upd G (iS 0 1) a) (iS 0 2) b) (iS 0 6) = G (iS 0 6) by simp [upd, iS],
    show (upd (upd G (iS 0 1) a) (iS 0 2) b) (iS 0 7) = G (iS 0 7) by simp [upd, iS],
    show (upd (upd G (iS 0 1) a) (iS 0 2) b) (iS 0 8) = G (iS 0 8) by simp [upd, iS],
    show (upd (upd G (iS 0 1) a) (iS 0 2) b) (iS 0 9) = G (iS 0 9) by simp [upd, iS],
    show (upd (upd G (iS 0 1) a) (iS 0 2) b) (iS 0 10) = G (iS 0 10) by simp [upd, iS],
    show (upd (upd G (iS 0 1) a) (iS 0 2) b) (iS 0 20) = G (iS 0 20) by simp [upd, iS],
    show (upd (upd G (iS 0 1) a) (iS 0 2) b) (iS 0 21) = G (iS 0 21) by simp [upd, iS],
    show (upd (upd T 2 a) 3 b) 0 = T 0 by simp [upd],
    show (upd (upd T 2 a) 3 b) 1 = T 1 by simp [upd],
    show (upd (upd T 2 a) 3 b) 2 = a by simp [upd],
    show (upd (upd T 2 a) 3 b) 3 = b by simp [upd],
    show (upd (upd T 2 a) 3 b) 4 = T 4 by simp [upd],
    show (upd (upd T 2 a) 3 b) 5 = T 5 by simp [upd],
    show (upd (upd T 2 a) 3 b) 6 = T 6 by simp [upd],
    show (upd (upd T 2 a) 3 b) 7 = T 7 by simp [upd],
    show (upd (upd T 2 a) 3 b) 8 = T 8 by simp [upd],
    show (upd (upd T 2 a) 3 b) 9 = T 9 by simp [upd],
    show (upd (upd T 2 a) 3 b) 10 = T 10 by simp [upd],
    show (upd (upd T 2 a) 3 b) 11 = T 11 by simp [upd],
    show (upd (upd T 2 a) 3 b) 12 = T 12 by simp [upd]]
  exact ⟨⟨a1, a2, a3⟩, ⟨b1, by omega, b3⟩, ⟨rfl, ha⟩, ⟨rfl, hb⟩, e1, f1, i1, ⟨p1, p2⟩, q1, ⟨r1, r2⟩, ⟨s1, s2, s3⟩, u1, ⟨v1, v2, v3⟩⟩
set_option maxRecDepth 10000 in
theorem ra_slow {cn t nn o n : Nat} {T G : fM} (h : RA cn t nn o n 0 T G) {a : Int32} : RA cn t nn o (n + 1) 0 (upd T 4 a) (upd G (iS 0 3) a) := by
  obtain ⟨⟨a1, a2, a3⟩, ⟨b1, b2, b3⟩, ⟨c1, c2⟩, ⟨d1, d2⟩, e1, f1, i1, ⟨p1, p2⟩, q1, ⟨r1, r2⟩, ⟨s1, s2, s3⟩, u1, ⟨v1, v2, v3⟩⟩ := h
  unfold RA
  rw [show (upd G (iS 0 3) a) (iS 0 0) = G (iS 0 0) by simp [upd, iS],
    show (upd G (iS 0 3) a) (iS 0 1) = G (iS 0 1) by simp [upd, iS],
    show (upd G (iS 0 3) a) (iS 0 2) = G (iS 0 2) by simp [upd, iS],
    show (upd G (iS 0 3) a) (iS 0 3) = a by simp [upd, iS],
    show (upd G (iS 0 3) a) (iS 0 4) = G (iS 0 4) by simp [upd, iS],
    show (upd G (iS 0 3) a) (iS 0 5) = G (iS 0 5) by simp [upd, iS],
    show (upd G (iS 0 3) a) (iS 0 6) = G (iS 0 6) by simp [upd, iS],
    show (upd G (iS 0 3) a) (iS 0 7) = G (iS 0 7) by simp [upd, iS],
    show (upd G (iS 0 3) a) (iS 0 8) = G (iS 0 8) by simp [upd, iS],
    show (upd G (iS 0 3) a) (iS 0 9) = G (iS 0 9) by simp [upd, iS],
    show (upd G (iS 0 3) a) (iS 0 10) = G (iS 0 10) by simp [upd, iS],
    show (upd G (iS 0 3) a) (iS 0 20) = G (iS 0 20) by simp [upd, iS],
    show (upd G (iS 0 3) a) (iS 0 21) = G (iS 0 21) by simp [upd, iS],
    show (upd T 4 a) 0 = T 0 by simp [upd],
    show (upd T 4 a) 1 = T 1 by simp [upd],
    show (upd T 4 a) 2 = T 2 by simp [upd],
    show (upd T 4 a) 3 = T 3 by simp [upd],
    show (upd T 4 a) 4 = a by simp [upd],
    show (upd T 4 a) 5 = T 5 by simp [upd],
    show (upd T 4 a) 6 = T 6 by simp [upd],
    show (upd T 4 a) 7 = T 7 by simp [upd],
    show (upd T 4 a) 8 = T 8 by simp [upd],
    show (upd T 4 a) 9 = T 9 by simp [upd],
    show (upd T 4 a) 10 = T 10 by simp [upd],
    show (upd T 4 a) 11 = T 11 by simp [upd],
    show (upd T 4 a) 12 = T 12 by simp [upd]]
  exact ⟨⟨a1, a2, a3⟩, ⟨b1, by omega, b3⟩, ⟨c1, c2⟩, ⟨d1, d2⟩, rfl, f1, i1, ⟨p1, p2⟩, q1, ⟨r1, r2⟩, ⟨s1, s2, s3⟩, u1, ⟨v1, v2, v3⟩⟩
set_option maxRecDepth 10000 in
theorem ra_cool {cn t nn o n : Nat} {T G : fM} (h : RA cn t nn o n 0 T G) {a : Int32} : RA cn t nn o (n + 1) 0 (upd T 5 a) (upd G (iS 0 4) a) := by
  obtain ⟨⟨a1, a2, a3⟩, ⟨b1, b2, b3⟩, ⟨c1, c2⟩, ⟨d1, d2⟩, e1, f1, i1, ⟨p1, p2⟩, q1, ⟨r1, r2⟩, ⟨s1, s2, s3⟩, u1, ⟨v1, v2, v3⟩⟩ := h
  unfold RA
  rw [show (upd G (iS 0 4) a) (iS 0 0) = G (iS 0 0) by simp [upd, iS],
    show (upd G (iS 0 4) a) (iS 0 1) = G (iS 0 1) by simp [upd, iS],
    show (upd G (iS 0 4) a) (iS 0 2) = G (iS 0 2) by simp [upd, iS],
    show (upd G (iS 0 4) a) (iS 0 3) = G (iS 0 3) by simp [upd, iS],
    show (upd G (iS 0 4) a) (iS 0 4) = a by simp [upd, iS],
    show (upd G (iS 0 4) a) (iS 0 5) = G (iS 0 5) by simp [upd, iS],
    show (upd G (iS 0 4) a) (iS 0 6) = G (iS 0 6) by simp [upd, iS],
    show (upd G (iS 0 4) a) (iS 0 7) = G (iS 0 7) by simp [upd, iS],
    show (upd G (iS 0 4) a) (iS 0 8) = G (iS 0 8) by simp [upd, iS],
    show (upd G (iS 0 4) a) (iS 0 9) = G (iS 0 9) by simp [upd, iS],
    show (upd G (iS 0 4) a) (iS 0 10) = G (iS 0 10) by simp [upd, iS],
    show (upd G (iS 0 4) a) (iS 0 20) = G (iS 0 20) by simp [upd, iS],
    show (upd G (iS 0 4) a) (iS 0 21) = G (iS 0 21) by simp [upd, iS],
    show (upd T 5 a) 0 = T 0 by simp [upd],
    show (upd T 5 a) 1 = T 1 by simp [upd],
    show (upd T 5 a) 2 = T 2 by simp [upd],
    show (upd T 5 a) 3 = T 3 by simp [upd],
    show (upd T 5 a) 4 = T 4 by simp [upd],
    show (upd T 5 a) 5 = a by simp [upd],
    show (upd T 5 a) 6 = T 6 by simp [upd],
    show (upd T 5 a) 7 = T 7 by simp [upd],
    show (upd T 5 a) 8 = T 8 by simp [upd],
    show (upd T 5 a) 9 = T 9 by simp [upd],
    show (upd T 5 a) 10 = T 10 by simp [upd],
    show (upd T 5 a) 11 = T 11 by simp [upd],
    show (upd T 5 a) 12 = T 12 by simp [upd]]
  exact ⟨⟨a1, a2, a3⟩, ⟨b1, by omega, b3⟩, ⟨c1, c2⟩, ⟨d1, d2⟩, e1, rfl, i1, ⟨p1, p2⟩, q1, ⟨r1, r2⟩, ⟨s1, s2, s3⟩, u1, ⟨v1, v2, v3⟩⟩
set_option maxRecDepth 10000 in
theorem ra_stk1 {cn t nn o n : Nat} {T G : fM} (h : RA cn t nn o n 0 T G) {a : Int32} : RA cn t nn o (n + 1) 0 (upd (upd T 12 (T 12)) 6 a) (upd G (iS 0 5) a) := by
  obtain ⟨⟨a1, a2, a3⟩, ⟨b1, b2, b3⟩, ⟨c1, c2⟩, ⟨d1, d2⟩, e1, f1, i1, ⟨p1, p2⟩, q1, ⟨r1, r2⟩, ⟨s1, s2, s3⟩, u1, ⟨v1, v2, v3⟩⟩ := h
  unfold RA
  rw [show (upd G (iS 0 5) a) (iS 0 0) = G (iS 0 0) by simp [upd, iS],
    show (upd G (iS 0 5) a) (iS 0 1) = G (iS 0 1) by simp [upd, iS],
    show (upd G (iS 0 5) a) (iS 0 2) = G (iS 0 2) by simp [upd, iS],
    show (upd G (iS 0 5) a) (iS 0 3) = G (iS 0 3) by simp [upd, iS],
    show (upd G (iS 0 5) a) (iS 0 4) = G (iS 0 4) by simp [upd, iS],
    show (upd G (iS 0 5) a) (iS 0 5) = a by simp [upd, iS],
    show (upd G (iS 0 5) a) (iS 0 6) = G (iS 0 6) by simp [upd, iS],
    show (upd G (iS 0 5) a) (iS 0 7) = G (iS 0 7) by simp [upd, iS],
    show (upd G (iS 0 5) a) (iS 0 8) = G (iS 0 8) by simp [upd, iS],
    show (upd G (iS 0 5) a) (iS 0 9) = G (iS 0 9) by simp [upd, iS],
    show (upd G (iS 0 5) a) (iS 0 10) = G (iS 0 10) by simp [upd, iS],
    show (upd G (iS 0 5) a) (iS 0 20) = G (iS 0 20) by simp [upd, iS],
    show (upd G (iS 0 5) a) (iS 0 21) = G (iS 0 21) by simp [upd, iS],
    show (upd (upd T 12 (T 12)) 6 a) 0 = T 0 by simp [upd],
    show (upd (upd T 12 (T 12)) 6 a) 1 = T 1 by simp [upd],
    show (upd (upd T 12 (T 12)) 6 a) 2 = T 2 by simp [upd],
    show (upd (upd T 12 (T 12)) 6 a) 3 = T 3 by simp [upd],
    show (upd (upd T 12 (T 12)) 6 a) 4 = T 4 by simp [upd],
    show (upd (upd T 12 (T 12)) 6 a) 5 = T 5 by simp [upd],
    show (upd (upd T 12 (T 12)) 6 a) 6 = a by simp [upd],
    show (upd (upd T 12 (T 12)) 6 a) 7 = T 7 by simp [upd],
    show (upd (upd T 12 (T 12)) 6 a) 8 = T 8 by simp [upd],
    show (upd (upd T 12 (T 12)) 6 a) 9 = T 9 by simp [upd],
    show (upd (upd T 12 (T 12)) 6 a) 10 = T 10 by simp [upd],
    show (upd (upd T 12 (T 12)) 6 a) 11 = T 11 by simp [upd],
    show (upd (upd T 12 (T 12)) 6 a) 12 = T 12 by simp [upd]]
  exact ⟨⟨a1, a2, a3⟩, ⟨b1, by omega, b3⟩, ⟨c1, c2⟩, ⟨d1, d2⟩, e1, f1, rfl, ⟨p1, p2⟩, q1, ⟨r1, r2⟩, ⟨s1, s2, s3⟩, u1, ⟨v1, v2, v3⟩⟩
set_option maxRecDepth 10000 in
theorem ra_stk0 {cn t nn o n : Nat} {T G : fM} (h : RA cn t nn o n 0 T G)  : RA cn t 0 o (n + 1) 0 (upd (upd T 12 0) 6 0) (upd (upd G (iS 0 5) 0) (iS 0 21) 0) := by
  obtain ⟨⟨a1, a2, a3⟩, ⟨b1, b2, b3⟩, ⟨c1, c2⟩, ⟨d1, d2⟩, e1, f1, i1, ⟨p1, p2⟩, q1, ⟨r1, r2⟩, ⟨s1, s2, s3⟩, u1, ⟨v1, v2, v3⟩⟩ := h
  unfold RA
  rw [show (upd (upd G (iS 0 5) 0) (iS 0 21) 0) (iS 0 0) = G (iS 0 0) by simp [upd, iS],
    show (upd (upd G (iS 0 5) 0) (iS 0 21) 0) (iS 0 1) = G (iS 0 1) by simp [upd, iS],
    show (upd (upd G (iS 0 5) 0) (iS 0 21) 0) (iS 0 2) = G (iS 0 2) by simp [upd, iS],
    show (upd (upd G (iS 0 5) 0) (iS 0 21) 0) (iS 0 3) = G (iS 0 3) by simp [upd, iS],
    show (upd (upd G (iS 0 5) 0) (iS 0 21) 0) (iS 0 4) = G (iS 0 4) by simp [upd, iS],
    show (upd (upd G (iS 0 5) 0) (iS 0 21) 0) (iS 0 5) = 0 by simp [upd, iS],
    show (upd (upd G (iS 0 5) 0) (iS 0 21) 0) (iS 0 6) = G (iS 0 6) by simp [upd, iS],
    show (upd (upd G (iS 0 5) 0) (iS 0 21) 0) (iS 0 7) = G (iS 0 7) by simp [upd, iS],
    show (upd (upd G (iS 0 5) 0) (iS 0 21) 0) (iS 0 8) = G (iS 0 8) by simp [upd, iS],
    show (upd (upd G (iS 0 5) 0) (iS 0 21) 0) (iS 0 9) = G (iS 0 9) by simp [upd, iS],
    show (upd (upd G (iS 0 5) 0) (iS 0 21) 0) (iS 0 10) = G (iS 0 10) by simp [upd, iS],
    show (upd (upd G (iS 0 5) 0) (iS 0 21) 0) (iS 0 20) = G (iS 0 20) by simp [upd, iS],
    show (upd (upd G (iS 0 5) 0) (iS 0 21) 0) (iS 0 21) = 0 by simp [upd, iS],
    show (upd (upd T 12 0) 6 0) 0 = T 0 by simp [upd],
    show (upd (upd T 12 0) 6 0) 1 = T 1 by simp [upd],
    show (upd (upd T 12 0) 6 0) 2 = T 2 by simp [upd],
    show (upd (upd T 12 0) 6 0) 3 = T 3 by simp [upd],
    show (upd (upd T 12 0) 6 0) 4 = T 4 by simp [upd],
    show (upd (upd T 12 0) 6 0) 5 = T 5 by simp [upd],
    show (upd (upd T 12 0) 6 0) 6 = 0 by simp [upd],
    show (upd (upd T 12 0) 6 0) 7 = T 7 by simp [upd],
    show (upd (upd T 12 0) 6 0) 8 = T 8 by simp [upd],
    show (upd (upd T 12 0) 6 0) 9 = T 9 by simp [upd],
    show (upd (upd T 12 0) 6 0) 10 = T 10 by simp [upd],
    show (upd (upd T 12 0) 6 0) 11 = T 11 by simp [upd],
    show (upd (upd T 12 0) 6 0) 12 = 0 by simp [upd]]
  exact ⟨⟨a1, a2, a3⟩, ⟨b1, by omega, b3⟩, ⟨c1, c2⟩, ⟨d1, d2⟩, e1, f1, rfl, ⟨p1, p2⟩, q1, ⟨r1, r2⟩, ⟨s1, s2, s3⟩, u1, ⟨rfl, rfl, Nat.zero_le _⟩⟩
set_option maxRecDepth 10000 in
theorem ra_seed {cn t nn o n : Nat} {T G : fM} (h : RA cn t nn o n 0 T G) {a : Int32} : RA cn t nn o (n + 1) 0 (upd T 8 a) (upd G (iS 0 8) a) := by
  obtain ⟨⟨a1, a2, a3⟩, ⟨b1, b2, b3⟩, ⟨c1, c2⟩, ⟨d1, d2⟩, e1, f1, i1, ⟨p1, p2⟩, q1, ⟨r1, r2⟩, ⟨s1, s2, s3⟩, u1, ⟨v1, v2, v3⟩⟩ := h
  unfold RA
  rw [show (upd G (iS 0 8) a) (iS 0 0) = G (iS 0 0) by simp [upd, iS],
    show (upd G (iS 0 8) a) (iS 0 1) = G (iS 0 1) by simp [upd, iS],
    show (upd G (iS 0 8) a) (iS 0 2) = G (iS 0 2) by simp [upd, iS],
    show (upd G (iS 0 8) a) (iS 0 3) = G (iS 0 3) by simp [upd, iS],
    show (upd G (iS 0 8) a) (iS 0 4) = G (iS 0 4) by simp [upd, iS],
    show (upd G (iS 0 8) a) (iS 0 5) = G (iS 0 5) by simp [upd, iS],
    show (upd G (iS 0 8) a) (iS 0 6) = G (iS 0 6) by simp [upd, iS],
    show (upd G (iS 0 8) a) (iS 0 7) = G (iS 0 7) by simp [upd, iS],
    show (upd G (iS 0 8) a) (iS 0 8) = a by simp [upd, iS],
    show (upd G (iS 0 8) a) (iS 0 9) = G (iS 0 9) by simp [upd, iS],
    show (upd G (iS 0 8) a) (iS 0 10) = G (iS 0 10) by simp [upd, iS],
    show (upd G (iS 0 8) a) (iS 0 20) = G (iS 0 20) by simp [upd, iS],
    show (upd G (iS 0 8) a) (iS 0 21) = G (iS 0 21) by simp [upd, iS],
    show (upd T 8 a) 0 = T 0 by simp [upd],
    show (upd T 8 a) 1 = T 1 by simp [upd],
    show (upd T 8 a) 2 = T 2 by simp [upd],
    show (upd T 8 a) 3 = T 3 by simp [upd],
    show (upd T 8 a) 4 = T 4 by simp [upd],
    show (upd T 8 a) 5 = T 5 by simp [upd],
    show (upd T 8 a) 6 = T 6 by simp [upd],
    show (upd T 8 a) 7 = T 7 by simp [upd],
    show (upd T 8 a) 8 = a by simp [upd],
    show (upd T 8 a) 9 = T 9 by simp [upd],
    show (upd T 8 a) 10 = T 10 by simp [upd],
    show (upd T 8 a) 11 = T 11 by simp [upd],
    show (upd T 8 a) 12 = T 12 by simp [upd]]
  exact ⟨⟨a1, a2, a3⟩, ⟨b1, by omega, b3⟩, ⟨c1, c2⟩, ⟨d1, d2⟩, e1, f1, i1, ⟨p1, p2⟩, rfl, ⟨r1, r2⟩, ⟨s1, s2, s3⟩, u1, ⟨v1, v2, v3⟩⟩
set_option maxRecDepth 10000 in
theorem ra_rej {cn t nn o n : Nat} {T G : fM} (h : RA cn t nn o n 0 T G)  : RA cn t nn o (n + 1) 0 (upd T 11 (T 11 + 1)) (upd G (iS 0 10) (G (iS 0 10) + 1)) := by
  obtain ⟨⟨a1, a2, a3⟩, ⟨b1, b2, b3⟩, ⟨c1, c2⟩, ⟨d1, d2⟩, e1, f1, i1, ⟨p1, p2⟩, q1, ⟨r1, r2⟩, ⟨s1, s2, s3⟩, u1, ⟨v1, v2, v3⟩⟩ := h
  unfold RA
  rw [show (upd G (iS 0 10) (G (iS 0 10) + 1)) (iS 0 0) = G (iS 0 0) by simp [upd, iS],
    show (upd G (iS 0 10) (G (iS 0 10) + 1)) (iS 0 1) = G (iS 0 1) by simp [upd, iS],
    show (upd G (iS 0 10) (G (iS 0 10) + 1)) (iS 0 2) = G (iS 0 2) by simp [upd, iS],
    show (upd G (iS 0 10) (G (iS 0 10) + 1)) (iS 0 3) = G (iS 0 3) by simp [upd, iS],
    show (upd G (iS 0 10) (G (iS 0 10) + 1)) (iS 0 4) = G (iS 0 4) by simp [upd, iS],
    show (upd G (iS 0 10) (G (iS 0 10) + 1)) (iS 0 5) = G (iS 0 5) by simp [upd, iS],
    show (upd G (iS 0 10) (G (iS 0 10) + 1)) (iS 0 6) = G (iS 0 6) by simp [upd, iS],
    show (upd G (iS 0 10) (G (iS 0 10) + 1)) (iS 0 7) = G (iS 0 7) by simp [upd, iS],
    show (upd G (iS 0 10) (G (iS 0 10) + 1)) (iS 0 8) = G (iS 0 8) by simp [upd, iS],
    show (upd G (iS 0 10) (G (iS 0 10) + 1)) (iS 0 9) = G (iS 0 9) by simp [upd, iS],
    show (upd G (iS 0 10) (G (iS 0 10) + 1)) (iS 0 10) = G (iS 0 10) + 1 by simp [upd, iS],
    show (upd G (iS 0 10) (G (iS 0 10) + 1)) (iS 0 20) = G (iS 0 20) by simp [upd, iS],
    show (upd G (iS 0 10) (G (iS 0 10) + 1)) (iS 0 21) = G (iS 0 21) by simp [upd, iS],
    show (upd T 11 (T 11 + 1)) 0 = T 0 by simp [upd],
    show (upd T 11 (T 11 + 1)) 1 = T 1 by simp [upd],
    show (upd T 11 (T 11 + 1)) 2 = T 2 by simp [upd],
    show (upd T 11 (T 11 + 1)) 3 = T 3 by simp [upd],
    show (upd T 11 (T 11 + 1)) 4 = T 4 by simp [upd],
    show (upd T 11 (T 11 + 1)) 5 = T 5 by simp [upd],
    show (upd T 11 (T 11 + 1)) 6 = T 6 by simp [upd],
    show (upd T 11 (T 11 + 1)) 7 = T 7 by simp [upd],
    show (upd T 11 (T 11 + 1)) 8 = T 8 by simp [upd],
    show (upd T 11 (T 11 + 1)) 9 = T 9 by simp [upd],
    show (upd T 11 (T 11 + 1)) 10 = T 10 by simp [upd],
    show (upd T 11 (T 11 + 1)) 11 = T 11 + 1 by simp [upd],
    show (upd T 11 (T 11 + 1)) 12 = T 12 by simp [upd]]
  exact ⟨⟨a1, a2, a3⟩, ⟨b1, by omega, b3⟩, ⟨c1, c2⟩, ⟨d1, d2⟩, e1, f1, i1, ⟨p1, p2⟩, q1, ⟨r1, r2⟩, ⟨s1, s2, s3⟩, by rw [u1], ⟨v1, v2, v3⟩⟩
set_option maxRecDepth 10000 in
theorem ra_pol {cn t nn o n : Nat} {T G : fM} (h : RA cn t nn o n 0 T G) {a : Int32} (ha : ∃ q, q ≤ 4 ∧ a = nI q) : RA cn t nn o (n + 1) 0 (upd (upd T 9 (-1)) 7 a) (upd (upd G (iS 0 6) a) (iS 0 7) (-1)) := by
  obtain ⟨⟨a1, a2, a3⟩, ⟨b1, b2, b3⟩, ⟨c1, c2⟩, ⟨d1, d2⟩, e1, f1, i1, ⟨p1, p2⟩, q1, ⟨r1, r2⟩, ⟨s1, s2, s3⟩, u1, ⟨v1, v2, v3⟩⟩ := h
  unfold RA
  rw [show (upd (upd G (iS 0 6) a) (iS 0 7) (-1)) (iS 0 0) = G (iS 0 0) by simp [upd, iS],
    show (upd (upd G (iS 0 6) a) (iS 0 7) (-1)) (iS 0 1) = G (iS 0 1) by simp [upd, iS],
    show (upd (upd G (iS 0 6) a) (iS 0 7) (-1)) (iS 0 2) = G (iS 0 2) by simp [upd, iS],
    show (upd (upd G (iS 0 6) a) (iS 0 7) (-1)) (iS 0 3) = G (iS 0 3) by simp [upd, iS],
    show (upd (upd G (iS 0 6) a) (iS 0 7) (-1)) (iS 0 4) = G (iS 0 4) by simp [upd, iS],
    show (upd (upd G (iS 0 6) a) (iS 0 7) (-1)) (iS 0 5) = G (iS 0 5) by simp [upd, iS],
    show (upd (upd G (iS 0 6) a) (iS 0 7) (-1)) (iS 0 6) = a by simp [upd, iS],
    show (upd (upd G (iS 0 6) a) (iS 0 7) (-1)) (iS 0 7) = -1 by simp [upd, iS],
    show (upd (upd G (iS 0 6) a) (iS 0 7) (-1)) (iS 0 8) = G (iS 0 8) by simp [upd, iS],
    show (upd (upd G (iS 0 6) a) (iS 0 7) (-1)) (iS 0 9) = G (iS 0 9) by simp [upd, iS],
    show (upd (upd G (iS 0 6) a) (iS 0 7) (-1)) (iS 0 10) = G (iS 0 10) by simp [upd, iS],
    show (upd (upd G (iS 0 6) a) (iS 0 7) (-1)) (iS 0 20) = G (iS 0 20) by simp [upd, iS],
    show (upd (upd G (iS 0 6) a) (iS 0 7) (-1)) (iS 0 21) = G (iS 0 21) by simp [upd, iS],
    show (upd (upd T 9 (-1)) 7 a) 0 = T 0 by simp [upd],
    show (upd (upd T 9 (-1)) 7 a) 1 = T 1 by simp [upd],
    show (upd (upd T 9 (-1)) 7 a) 2 = T 2 by simp [upd],
    show (upd (upd T 9 (-1)) 7 a) 3 = T 3 by simp [upd],
    show (upd (upd T 9 (-1)) 7 a) 4 = T 4 by simp [upd],
    show (upd (upd T 9 (-1)) 7 a) 5 = T 5 by simp [upd],
    show (upd (upd T 9 (-1)) 7 a) 6 = T 6 by simp [upd],
    show (upd (upd T 9 (-1)) 7 a) 7 = a by simp [upd],
    show (upd (upd T 9 (-1)) 7 a) 8 = T 8 by simp [upd],
    show (upd (upd T 9 (-1)) 7 a) 9 = -1 by simp [upd],
    show (upd (upd T 9 (-1)) 7 a) 10 = T 10 by simp [upd],
    show (upd (upd T 9 (-1)) 7 a) 11 = T 11 by simp [upd],
    show (upd (upd T 9 (-1)) 7 a) 12 = T 12 by simp [upd]]
  exact ⟨⟨a1, a2, a3⟩, ⟨b1, by omega, b3⟩, ⟨c1, c2⟩, ⟨d1, d2⟩, e1, f1, i1, ⟨rfl, ha⟩, q1, ⟨rfl, 0, by decide, by decide⟩, ⟨s1, s2, s3⟩, u1, ⟨v1, v2, v3⟩⟩
set_option maxRecDepth 10000 in
theorem ra_rr {cn t nn o n : Nat} {T G : fM} (h : RA cn t nn o n 0 T G) {j : Nat} (hj : j < cn) : RA cn t nn o (n + 1) 0 (upd T 9 (nI j)) (upd G (iS 0 7) (nI j)) := by
  obtain ⟨⟨a1, a2, a3⟩, ⟨b1, b2, b3⟩, ⟨c1, c2⟩, ⟨d1, d2⟩, e1, f1, i1, ⟨p1, p2⟩, q1, ⟨r1, r2⟩, ⟨s1, s2, s3⟩, u1, ⟨v1, v2, v3⟩⟩ := h
  unfold RA
  rw [show (upd G (iS 0 7) (nI j)) (iS 0 0) = G (iS 0 0) by simp [upd, iS],
    show (upd G (iS 0 7) (nI j)) (iS 0 1) = G (iS 0 1) by simp [upd, iS],
    show (upd G (iS 0 7) (nI j)) (iS 0 2) = G (iS 0 2) by simp [upd, iS],
    show (upd G (iS 0 7) (nI j)) (iS 0 3) = G (iS 0 3) by simp [upd, iS],
    show (upd G (iS 0 7) (nI j)) (iS 0 4) = G (iS 0 4) by simp [upd, iS],
    show (upd G (iS 0 7) (nI j)) (iS 0 5) = G (iS 0 5) by simp [upd, iS],
    show (upd G (iS 0 7) (nI j)) (iS 0 6) = G (iS 0 6) by simp [upd, iS],
    show (upd G (iS 0 7) (nI j)) (iS 0 7) = nI j by simp [upd, iS],
    show (upd G (iS 0 7) (nI j)) (iS 0 8) = G (iS 0 8) by simp [upd, iS],
    show (upd G (iS 0 7) (nI j)) (iS 0 9) = G (iS 0 9) by simp [upd, iS],
    show (upd G (iS 0 7) (nI j)) (iS 0 10) = G (iS 0 10) by simp [upd, iS],
    show (upd G (iS 0 7) (nI j)) (iS 0 20) = G (iS 0 20) by simp [upd, iS],
    show (upd G (iS 0 7) (nI j)) (iS 0 21) = G (iS 0 21) by simp [upd, iS],
    show (upd T 9 (nI j)) 0 = T 0 by simp [upd],
    show (upd T 9 (nI j)) 1 = T 1 by simp [upd],
    show (upd T 9 (nI j)) 2 = T 2 by simp [upd],
    show (upd T 9 (nI j)) 3 = T 3 by simp [upd],
    show (upd T 9 (nI j)) 4 = T 4 by simp [upd],
    show (upd T 9 (nI j)) 5 = T 5 by simp [upd],
    show (upd T 9 (nI j)) 6 = T 6 by simp [upd],
    show (upd T 9 (nI j)) 7 = T 7 by simp [upd],
    show (upd T 9 (nI j)) 8 = T 8 by simp [upd],
    show (upd T 9 (nI j)) 9 = nI j by simp [upd],
    show (upd T 9 (nI j)) 10 = T 10 by simp [upd],
    show (upd T 9 (nI j)) 11 = T 11 by simp [upd],
    show (upd T 9 (nI j)) 12 = T 12 by simp [upd]]
  exact ⟨⟨a1, a2, a3⟩, ⟨b1, by omega, b3⟩, ⟨c1, c2⟩, ⟨d1, d2⟩, e1, f1, i1, ⟨p1, p2⟩, q1, ⟨rfl, j + 1, nI_1 j, by omega⟩, ⟨s1, s2, s3⟩, u1, ⟨v1, v2, v3⟩⟩
set_option maxRecDepth 10000 in
theorem ra_tick {cn t nn o n : Nat} {T G : fM} (h : RA cn t nn o n 0 T G) {k : Nat} (hk : k ≤ 200) : RA cn (t + k) nn o (n + 1) 0 (upd T 1 (nI (t + k))) (upd G (iS 0 9) (nI (t + k))) := by
  obtain ⟨⟨a1, a2, a3⟩, ⟨b1, b2, b3⟩, ⟨c1, c2⟩, ⟨d1, d2⟩, e1, f1, i1, ⟨p1, p2⟩, q1, ⟨r1, r2⟩, ⟨s1, s2, s3⟩, u1, ⟨v1, v2, v3⟩⟩ := h
  unfold RA
  rw [show (upd G (iS 0 9) (nI (t + k))) (iS 0 0) = G (iS 0 0) by simp [upd, iS],
    show (upd G (iS 0 9) (nI (t + k))) (iS 0 1) = G (iS 0 1) by simp [upd, iS],
    show (upd G (iS 0 9) (nI (t + k))) (iS 0 2) = G (iS 0 2) by simp [upd, iS],
    show (upd G (iS 0 9) (nI (t + k))) (iS 0 3) = G (iS 0 3) by simp [upd, iS],
    show (upd G (iS 0 9) (nI (t + k))) (iS 0 4) = G (iS 0 4) by simp [upd, iS],
    show (upd G (iS 0 9) (nI (t + k))) (iS 0 5) = G (iS 0 5) by simp [upd, iS],
    show (upd G (iS 0 9) (nI (t + k))) (iS 0 6) = G (iS 0 6) by simp [upd, iS],
    show (upd G (iS 0 9) (nI (t + k))) (iS 0 7) = G (iS 0 7) by simp [upd, iS],
    show (upd G (iS 0 9) (nI (t + k))) (iS 0 8) = G (iS 0 8) by simp [upd, iS],
    show (upd G (iS 0 9) (nI (t + k))) (iS 0 9) = nI (t + k) by simp [upd, iS],
    show (upd G (iS 0 9) (nI (t + k))) (iS 0 10) = G (iS 0 10) by simp [upd, iS],
    show (upd G (iS 0 9) (nI (t + k))) (iS 0 20) = G (iS 0 20) by simp [upd, iS],
    show (upd G (iS 0 9) (nI (t + k))) (iS 0 21) = G (iS 0 21) by simp [upd, iS],
    show (upd T 1 (nI (t + k))) 0 = T 0 by simp [upd],
    show (upd T 1 (nI (t + k))) 1 = nI (t + k) by simp [upd],
    show (upd T 1 (nI (t + k))) 2 = T 2 by simp [upd],
    show (upd T 1 (nI (t + k))) 3 = T 3 by simp [upd],
    show (upd T 1 (nI (t + k))) 4 = T 4 by simp [upd],
    show (upd T 1 (nI (t + k))) 5 = T 5 by simp [upd],
    show (upd T 1 (nI (t + k))) 6 = T 6 by simp [upd],
    show (upd T 1 (nI (t + k))) 7 = T 7 by simp [upd],
    show (upd T 1 (nI (t + k))) 8 = T 8 by simp [upd],
    show (upd T 1 (nI (t + k))) 9 = T 9 by simp [upd],
    show (upd T 1 (nI (t + k))) 10 = T 10 by simp [upd],
    show (upd T 1 (nI (t + k))) 11 = T 11 by simp [upd],
    show (upd T 1 (nI (t + k))) 12 = T 12 by simp [upd]]
  exact ⟨⟨a1, a2, a3⟩, ⟨rfl, by omega, rfl⟩, ⟨c1, c2⟩, ⟨d1, d2⟩, e1, f1, i1, ⟨p1, p2⟩, q1, ⟨r1, r2⟩, ⟨s1, s2, s3⟩, u1, ⟨v1, v2, v3⟩⟩
set_option maxRecDepth 10000 in
theorem ra_add {cn t nn o n : Nat} {T G : fM} (h : RA cn t nn o n 0 T G) (hc : cn < 10) : RA (cn + 1) t nn o (n + 1) 0 (upd T 0 (nI (cn + 1))) (upd G (iS 0 0) (nI (cn + 1))) := by
  obtain ⟨⟨a1, a2, a3⟩, ⟨b1, b2, b3⟩, ⟨c1, c2⟩, ⟨d1, d2⟩, e1, f1, i1, ⟨p1, p2⟩, q1, ⟨r1, r2⟩, ⟨s1, s2, s3⟩, u1, ⟨v1, v2, v3⟩⟩ := h
  unfold RA
  rw [show (upd G (iS 0 0) (nI (cn + 1))) (iS 0 0) = nI (cn + 1) by simp [upd, iS],
    show (upd G (iS 0 0) (nI (cn + 1))) (iS 0 1) = G (iS 0 1) by simp [upd, iS],
    show (upd G (iS 0 0) (nI (cn + 1))) (iS 0 2) = G (iS 0 2) by simp [upd, iS],
    show (upd G (iS 0 0) (nI (cn + 1))) (iS 0 3) = G (iS 0 3) by simp [upd, iS],
    show (upd G (iS 0 0) (nI (cn + 1))) (iS 0 4) = G (iS 0 4) by simp [upd, iS],
    show (upd G (iS 0 0) (nI (cn + 1))) (iS 0 5) = G (iS 0 5) by simp [upd, iS],
    show (upd G (iS 0 0) (nI (cn + 1))) (iS 0 6) = G (iS 0 6) by simp [upd, iS],
    show (upd G (iS 0 0) (nI (cn + 1))) (iS 0 7) = G (iS 0 7) by simp [upd, iS],
    show (upd G (iS 0 0) (nI (cn + 1))) (iS 0 8) = G (iS 0 8) by simp [upd, iS],
    show (upd G (iS 0 0) (nI (cn + 1))) (iS 0 9) = G (iS 0 9) by simp [upd, iS],
    show (upd G (iS 0 0) (nI (cn + 1))) (iS 0 10) = G (iS 0 10) by simp [upd, iS],
    show (upd G (iS 0 0) (nI (cn + 1))) (iS 0 20) = G (iS 0 20) by simp [upd, iS],
    show (upd G (iS 0 0) (nI (cn + 1))) (iS 0 21) = G (iS 0 21) by simp [upd, iS],
    show (upd T 0 (nI (cn + 1))) 0 = nI (cn + 1) by simp [upd],
    show (upd T 0 (nI (cn + 1))) 1 = T 1 by simp [upd],
    show (upd T 0 (nI (cn + 1))) 2 = T 2 by simp [upd],
    show (upd T 0 (nI (cn + 1))) 3 = T 3 by simp [upd],
    show (upd T 0 (nI (cn + 1))) 4 = T 4 by simp [upd],
    show (upd T 0 (nI (cn + 1))) 5 = T 5 by simp [upd],
    show (upd T 0 (nI (cn + 1))) 6 = T 6 by simp [upd],
    show (upd T 0 (nI (cn + 1))) 7 = T 7 by simp [upd],
    show (upd T 0 (nI (cn + 1))) 8 = T 8 by simp [upd],
    show (upd T 0 (nI (cn + 1))) 9 = T 9 by simp [upd],
    show (upd T 0 (nI (cn + 1))) 10 = T 10 by simp [upd],
    show (upd T 0 (nI (cn + 1))) 11 = T 11 by simp [upd],
    show (upd T 0 (nI (cn + 1))) 12 = T 12 by simp [upd]]
  exact ⟨⟨rfl, by omega, rfl⟩, ⟨b1, by omega, b3⟩, ⟨c1, c2⟩, ⟨d1, d2⟩, e1, f1, i1, ⟨p1, p2⟩, q1, ⟨r1, r2⟩, ⟨s1, s2, s3⟩, u1, ⟨v1, v2, v3⟩⟩
set_option maxRecDepth 10000 in
theorem ra_con {cn t nn o n : Nat} {T G : fM} (h : RA cn t nn o n 0 T G) (ho : o < 1000) : RA cn t nn (o + 1) (n + 1) 0 (upd T 10 (nI (o + 1))) (upd G (iS 0 20) (nI (o + 1))) := by
  obtain ⟨⟨a1, a2, a3⟩, ⟨b1, b2, b3⟩, ⟨c1, c2⟩, ⟨d1, d2⟩, e1, f1, i1, ⟨p1, p2⟩, q1, ⟨r1, r2⟩, ⟨s1, s2, s3⟩, u1, ⟨v1, v2, v3⟩⟩ := h
  unfold RA
  rw [show (upd G (iS 0 20) (nI (o + 1))) (iS 0 0) = G (iS 0 0) by simp [upd, iS],
    show (upd G (iS 0 20) (nI (o + 1))) (iS 0 1) = G (iS 0 1) by simp [upd, iS],
    show (upd G (iS 0 20) (nI (o + 1))) (iS 0 2) = G (iS 0 2) by simp [upd, iS],
    show (upd G (iS 0 20) (nI (o + 1))) (iS 0 3) = G (iS 0 3) by simp [upd, iS],
    show (upd G (iS 0 20) (nI (o + 1))) (iS 0 4) = G (iS 0 4) by simp [upd, iS],
    show (upd G (iS 0 20) (nI (o + 1))) (iS 0 5) = G (iS 0 5) by simp [upd, iS],
    show (upd G (iS 0 20) (nI (o + 1))) (iS 0 6) = G (iS 0 6) by simp [upd, iS],
    show (upd G (iS 0 20) (nI (o + 1))) (iS 0 7) = G (iS 0 7) by simp [upd, iS],
    show (upd G (iS 0 20) (nI (o + 1))) (iS 0 8) = G (iS 0 8) by simp [upd, iS],
    show (upd G (iS 0 20) (nI (o + 1))) (iS 0 9) = G (iS 0 9) by simp [upd, iS],
    show (upd G (iS 0 20) (nI (o + 1))) (iS 0 10) = G (iS 0 10) by simp [upd, iS],
    show (upd G (iS 0 20) (nI (o + 1))) (iS 0 20) = nI (o + 1) by simp [upd, iS],
    show (upd G (iS 0 20) (nI (o + 1))) (iS 0 21) = G (iS 0 21) by simp [upd, iS],
    show (upd T 10 (nI (o + 1))) 0 = T 0 by simp [upd],
    show (upd T 10 (nI (o + 1))) 1 = T 1 by simp [upd],
    show (upd T 10 (nI (o + 1))) 2 = T 2 by simp [upd],
    show (upd T 10 (nI (o + 1))) 3 = T 3 by simp [upd],
    show (upd T 10 (nI (o + 1))) 4 = T 4 by simp [upd],
    show (upd T 10 (nI (o + 1))) 5 = T 5 by simp [upd],
    show (upd T 10 (nI (o + 1))) 6 = T 6 by simp [upd],
    show (upd T 10 (nI (o + 1))) 7 = T 7 by simp [upd],
    show (upd T 10 (nI (o + 1))) 8 = T 8 by simp [upd],
    show (upd T 10 (nI (o + 1))) 9 = T 9 by simp [upd],
    show (upd T 10 (nI (o + 1))) 10 = nI (o + 1) by simp [upd],
    show (upd T 10 (nI (o + 1))) 11 = T 11 by simp [upd],
    show (upd T 10 (nI (o + 1))) 12 = T 12 by simp [upd]]
  exact ⟨⟨a1, a2, a3⟩, ⟨b1, by omega, b3⟩, ⟨c1, c2⟩, ⟨d1, d2⟩, e1, f1, i1, ⟨p1, p2⟩, q1, ⟨r1, r2⟩, ⟨rfl, rfl, by omega⟩, u1, ⟨v1, v2, v3⟩⟩
set_option maxRecDepth 10000 in
theorem ra_rem {cn t nn o n : Nat} {T G : fM} (h : RA cn t nn o n 0 T G) (hn : nn < 40) : RA cn t (nn + 1) o (n + 1) 0 (upd T 12 (nI (nn + 1))) (upd G (iS 0 21) (nI (nn + 1))) := by
  obtain ⟨⟨a1, a2, a3⟩, ⟨b1, b2, b3⟩, ⟨c1, c2⟩, ⟨d1, d2⟩, e1, f1, i1, ⟨p1, p2⟩, q1, ⟨r1, r2⟩, ⟨s1, s2, s3⟩, u1, ⟨v1, v2, v3⟩⟩ := h
  unfold RA
  rw [show (upd G (iS 0 21) (nI (nn + 1))) (iS 0 0) = G (iS 0 0) by simp [upd, iS],
    show (upd G (iS 0 21) (nI (nn + 1))) (iS 0 1) = G (iS 0 1) by simp [upd, iS],
    show (upd G (iS 0 21) (nI (nn + 1))) (iS 0 2) = G (iS 0 2) by simp [upd, iS],
    show (upd G (iS 0 21) (nI (nn + 1))) (iS 0 3) = G (iS 0 3) by simp [upd, iS],
    show (upd G (iS 0 21) (nI (nn + 1))) (iS 0 4) = G (iS 0 4) by simp [upd, iS],
    show (upd G (iS 0 21) (nI (nn + 1))) (iS 0 5) = G (iS 0 5) by simp [upd, iS],
    show (upd G (iS 0 21) (nI (nn + 1))) (iS 0 6) = G (iS 0 6) by simp [upd, iS],
    show (upd G (iS 0 21) (nI (nn + 1))) (iS 0 7) = G (iS 0 7) by simp [upd, iS],
    show (upd G (iS 0 21) (nI (nn + 1))) (iS 0 8) = G (iS 0 8) by simp [upd, iS],
    show (upd G (iS 0 21) (nI (nn + 1))) (iS 0 9) = G (iS 0 9) by simp [upd, iS],
    show (upd G (iS 0 21) (nI (nn + 1))) (iS 0 10) = G (iS 0 10) by simp [upd, iS],
    show (upd G (iS 0 21) (nI (nn + 1))) (iS 0 20) = G (iS 0 20) by simp [upd, iS],
    show (upd G (iS 0 21) (nI (nn + 1))) (iS 0 21) = nI (nn + 1) by simp [upd, iS],
    show (upd T 12 (nI (nn + 1))) 0 = T 0 by simp [upd],
    show (upd T 12 (nI (nn + 1))) 1 = T 1 by simp [upd],
    show (upd T 12 (nI (nn + 1))) 2 = T 2 by simp [upd],
    show (upd T 12 (nI (nn + 1))) 3 = T 3 by simp [upd],
    show (upd T 12 (nI (nn + 1))) 4 = T 4 by simp [upd],
    show (upd T 12 (nI (nn + 1))) 5 = T 5 by simp [upd],
    show (upd T 12 (nI (nn + 1))) 6 = T 6 by simp [upd],
    show (upd T 12 (nI (nn + 1))) 7 = T 7 by simp [upd],
    show (upd T 12 (nI (nn + 1))) 8 = T 8 by simp [upd],
    show (upd T 12 (nI (nn + 1))) 9 = T 9 by simp [upd],
    show (upd T 12 (nI (nn + 1))) 10 = T 10 by simp [upd],
    show (upd T 12 (nI (nn + 1))) 11 = T 11 by simp [upd],
    show (upd T 12 (nI (nn + 1))) 12 = nI (nn + 1) by simp [upd]]
  exact ⟨⟨a1, a2, a3⟩, ⟨b1, by omega, b3⟩, ⟨c1, c2⟩, ⟨d1, d2⟩, e1, f1, i1, ⟨p1, p2⟩, q1, ⟨r1, r2⟩, ⟨s1, s2, s3⟩, u1, ⟨rfl, rfl, by omega⟩⟩
/-- scalars alone -/
theorem RS.scal {cn t nn o n n' : Nat} {T G T' G' : fM} (h : RS cn t nn o n 0 T G) (hA : RA cn t nn o n' 0 T' G') (hG : ∀ g, 100 ≤ g → g < 10000 → G' g = G g) (hT : ∀ j, 13 ≤ j → T' j = T j) (hn : n ≤ n') : RS cn t nn o n' 0 T' G' := by
  have h10 := h.c10
  have h40 := h.hn.2.2
  have h1000 := h.ho.2.2
  exact ⟨hA, h.2.1.congr h10 (fun i c hi hc => hG _ (by unfold iV; omega) (by unfold iV; omega)) (fun j hj _ => hT j hj) (Nat.le_refl _) hn,
    h.2.2.1.congr (fun j hj => ⟨hG _ (by unfold iA; omega) (by unfold iA; omega), hG _ (by unfold iA; omega) (by unfold iA; omega), hG _ (by unfold iA; omega) (by unfold iA; omega)⟩) (fun j hj => ⟨hT _ (by omega), hT _ (by omega), hT _ (by omega)⟩) (Nat.le_refl _) (Nat.le_refl _),
    h.2.2.2.congr h1000 (fun j hj => ⟨hG _ (by unfold iA; omega) (by unfold iA; omega), hG _ (by unfold iA; omega) (by unfold iA; omega), hG _ (by unfold iA; omega) (by unfold iA; omega)⟩) (fun j hj _ => hT j (by omega)) (Nat.le_refl _)⟩
theorem rng_le {a : Int32} {hi : Int32} (h : rng a 1 hi) : 1 ≤ a := Int32.not_lt.mp h.1
section Ops1
variable {cn t nn o n : Nat} {T G : fM}
theorem rs_n (h : RS cn t nn o n 0 T G) : RS cn t nn o (n + 1) 0 T G := h.congr (fun _ _ _ => rfl) (fun _ _ => rfl) (Nat.le_succ n)
theorem rs_thr {a b : Int32} (h : RS cn t nn o n 0 T G) (ha : rng a 1 9) (hb : rng b 1 9) : RS cn t nn o (n + 1) 0 (upd (upd T 2 a) 3 b) (upd (upd G (iS 0 1) a) (iS 0 2) b) :=
  h.scal (ra_thr h.1 (rng_le ha) (rng_le hb)) (fun g h1 h2 => by rw [pk_un (by unfold iS; omega), pk_un (by unfold iS; omega)]) (fun j hj => by rw [pk_un (by omega), pk_un (by omega)]) (Nat.le_succ n)
theorem rs_slow {a : Int32} (h : RS cn t nn o n 0 T G) : RS cn t nn o (n + 1) 0 (upd T 4 a) (upd G (iS 0 3) a) :=
  h.scal (ra_slow h.1) (fun g h1 h2 => by rw [pk_un (by unfold iS; omega)]) (fun j hj => by rw [pk_un (by omega)]) (Nat.le_succ n)
theorem rs_cool {a : Int32} (h : RS cn t nn o n 0 T G) : RS cn t nn o (n + 1) 0 (upd T 5 a) (upd G (iS 0 4) a) :=
  h.scal (ra_cool h.1) (fun g h1 h2 => by rw [pk_un (by unfold iS; omega)]) (fun j hj => by rw [pk_un (by omega)]) (Nat.le_succ n)
theorem rs_seed {a : Int32} (h : RS cn t nn o n 0 T G) : RS cn t nn o (n + 1) 0 (upd T 8 a) (upd G (iS 0 8) a) :=
  h.scal (ra_seed h.1) (fun g h1 h2 => by rw [pk_un (by unfold iS; omega)]) (fun j hj => by rw [pk_un (by omega)]) (Nat.le_succ n)
theorem rs_rej (h : RS cn t nn o n 0 T G) : RS cn t nn o (n + 1) 0 (upd T 11 (T 11 + 1)) (upd G (iS 0 10) (G (iS 0 10) + 1)) :=
  h.scal (ra_rej h.1) (fun g h1 h2 => by rw [pk_un (by unfold iS; omega)]) (fun j hj => by rw [pk_un (by omega)]) (Nat.le_succ n)
theorem rs_rr {j0 : Nat} (h : RS cn t nn o n 0 T G) (hj : j0 < cn) : RS cn t nn o (n + 1) 0 (upd T 9 (nI j0)) (upd G (iS 0 7) (nI j0)) :=
  h.scal (ra_rr h.1 hj) (fun g h1 h2 => by rw [pk_un (by unfold iS; omega)]) (fun j hj => by rw [pk_un (by omega)]) (Nat.le_succ n)
theorem rs_stk {a : Int32} (h : RS cn t nn o n 0 T G) : ∃ nn', RS cn t nn' o (n + 1) 0 (upd (upd T 12 (if a = 0 then 0 else T 12)) 6 a) (sP_stk a G) := by
  unfold sP_stk
  by_cases ha : a = 0
  · subst ha
    rw [if_pos rfl, if_pos rfl]
    have hG : ∀ g, 100 ≤ g → g < 10000 → upd (upd G (iS 0 5) 0) (iS 0 21) 0 g = G g := fun g h1 h2 => by rw [pk_un (by unfold iS; omega), pk_un (by unfold iS; omega)]
    have hT : ∀ j, 13 ≤ j → upd (upd T 12 0) 6 0 j = T j := fun j hj => by rw [pk_un (by omega), pk_un (by omega)]
    have h10 := h.c10
    have h1000 := h.ho.2.2
    exact ⟨0, ra_stk0 h.1, h.2.1.congr h10 (fun i c hi hc => hG _ (by unfold iV; omega) (by unfold iV; omega)) (fun j hj _ => hT j hj) (Nat.le_refl _) (Nat.le_succ n), fun j hj => absurd hj (Nat.not_lt_zero _),
      h.2.2.2.congr h1000 (fun j hj => ⟨hG _ (by unfold iA; omega) (by unfold iA; omega), hG _ (by unfold iA; omega) (by unfold iA; omega), hG _ (by unfold iA; omega) (by unfold iA; omega)⟩) (fun j hj _ => hT j (by omega)) (Nat.le_refl _)⟩
  · rw [if_neg ha, if_neg ha]
    exact ⟨nn, h.scal (ra_stk1 h.1) (fun g h1 h2 => by rw [pk_un (by unfold iS; omega)]) (fun j hj => by rw [pk_un (by omega), pk_un (by omega)]) (Nat.le_succ n)⟩
end Ops1
