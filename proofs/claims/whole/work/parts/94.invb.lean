section
variable {sc : Sc} {d : Nat} {A I : Nat → Nat → Int32} {L : Nat → Nat → Int64} {J : Nat → Nat → Int64} {r q n : Nat}
theorem two_12 {n : Nat} (h : n ≤ 12) : 2 ^ n ≤ 4096 := by
  have : (2 : Nat) ^ n ≤ 2 ^ 12 := Nat.pow_le_pow_right (by omega) h
  omega
theorem n_forbid (x : Int32) (h : Inv A I J r q n) : PairI sc (d + 9) 200 313 [.int x] A L I J InvW := by
  have h0 := h
  obtain ⟨h1, h2, h3, h4, h5, h6, h7, h8, h9, h10, h11, h12, h13, h14⟩ := h
  exact p_forbid x h13.2.1 (Inv_i h0) (fun _ => mkI h1 h2 h3 h4 h5 h6 h7 h8 h9 h10 h11 h12 ⟨h13.1, rfl, h13.2.2⟩ h14)
theorem n_trace (h : Inv A I J r q n) : PairI sc (d + 9) 215 327 [] A L I J InvW := p_trace h.2.1.2 (Inv_i h)
theorem n_fault (h : Inv A I J r q n) : PairI sc (d + 9) 216 328 [] A L I J InvW := p_fault h.2.1.1 (Inv_i h)
theorem iR_n {a b : Nat} {x : Int32} (h : iR a b x) (hb : b < 1000) : ∃ k, a ≤ k ∧ k ≤ b ∧ x = nI k := by
  obtain ⟨h1, h2⟩ := h
  refine ⟨x.toInt.toNat, by omega, by omega, ?_⟩
  apply Int32.toInt_inj.mp
  rw [nI_toInt (by omega)]
  omega
theorem n_hall (x y : Int32) (h : Inv A I J r q n) : PairI sc (d + 9) 197 307 [.int x, .int y] A L I J InvW := by
  have h0 := h
  obtain ⟨h1, h2, h3, h4, h5, h6, h7, h8, h9, h10, h11, h12, h13, h14⟩ := h
  refine p_hall x y (Inv_i h0) (fun hx hy => ?_)
  obtain ⟨tn, t1, t2, rfl⟩ := iR_n (a := 1) (b := 3) hx (by omega)
  obtain ⟨rn, u1, u2, rfl⟩ := iR_n (a := 1) (b := 4) hy (by omega)
  obtain ⟨a1, s, tn', rn', b1, b2, b3, b4, b5, b6, b7, b8, b9, b10, b11, b12⟩ := h12
  exact mkI h1 h2 h3 h4 h5 h6 h7 h8 h9 h10 h11 ⟨a1, s, tn, rn, b1, t1, t2, u1, u2, b6, b7, rfl, rfl, rfl, rfl, b12⟩ h13 h14
theorem n_need (x : Int32) (h : Inv A I J r q n) : PairI sc (d + 9) 183 285 [.int x] A L I J InvW := by
  have h0 := h
  obtain ⟨h1, h2, h3, h4, h5, h6, h7, h8, h9, ⟨p1, p2, p3, p4, p5, p6, p7, p8, p9, p10, p11, p12, p13⟩, h11, h12, h13, h14⟩ := h
  exact p_need x p12 (Inv_i h0) (fun _ => mkI h1 h2 h3 h4 h5 h6 h7 h8 h9 ⟨p1, p2, p3, p4, p5, p6, p7, p8, p9, p10, p11, rfl, p13⟩ h11 h12 h13 h14)
theorem n_knows (x : Int32) (h : Inv A I J r q n) : PairI sc (d + 9) 180 282 [.int x] A L I J InvW := by
  have h0 := h
  obtain ⟨h1, h2, h3, h4, h5, h6, h7, h8, h9, ⟨p1, p2, p3, p4, p5, p6, p7, p8, p9, p10, p11, p12, p13⟩, h11, h12, h13, h14⟩ := h
  exact p_knows x p1 p2 p3 p6 (Inv_i h0)
theorem n_person (x : Int32) (h : Inv A I J r q n) : PairI sc (d + 9) 176 274 [.int x] A L I J InvW := by
  have h0 := h
  obtain ⟨h1, h2, h3, h4, h5, h6, h7, h8, h9, ⟨p1, p2, p3, p4, ⟨tt, t1, t2, t3⟩, p6, p7, p8, p9, p10, p11, p12, p13⟩, h11, h12, h13, h14⟩ := h
  refine p_person x p1 p2 p3 (Inv_i h0) (fun hn j hj ej => ?_)
  subst ej
  refine mkI (n := n + 1) h1 h2 h3 h4 h5 h6 h7 h8 h9 ⟨rfl, rfl, by omega, by funext i; simp [u2, p4], ⟨u1 tt n j, by omega, rfl, fun p hp => ?_⟩, p6, p7, p8, p9, p10, p11, p12, p13⟩ h11 h12 h13 h14
  by_cases e : p = n
  · subst e
    rw [u1_eq, u2_rd]
    exact ⟨hj, rfl⟩
  · rw [u1_ne e, u2_nj e]
    exact t3 p (by omega)
theorem n_journal (x y : Int32) (h : Inv A I J r q n) : PairI sc (d + 9) 182 284 [.int x, .int y] A L I J InvW := by
  have h0 := h
  obtain ⟨h1, h2, h3, h4, h5, h6, h7, h8, h9, ⟨p1, p2, p3, p4, p5, p6, p7, p8, ⟨j, j1, j2, j3⟩, p10, p11, p12, p13⟩, h11, h12, h13, h14⟩ := h
  refine p_journal x y p1 p2 p3 j2 j3 j1 (Inv_i h0) (fun hj s t _ _ => ?_)
  exact mkI h1 h2 h3 h4 h5 h6 h7 h8 h9 ⟨p1, p2, p3, p4, p5, p6, p7, p8, ⟨j + 1, by omega, rfl, rfl⟩, by funext i; simp [u2, p10], by funext i; simp [u2, p11], p12, p13⟩ h11 h12 h13 h14
theorem bt_hi {s n k : Nat} (h : s < 2 ^ n) (hn : n ≤ 12) (h1 : 12 ≤ k) (h2 : k < 32) : bt (nI s) k = false := by
  rw [bt_nI _ (by have := two_12 hn; omega)]
  exact Nat.testBit_lt_two_pow (Nat.lt_of_lt_of_le h (Nat.pow_le_pow_right (by omega) (by omega)))
theorem n_session (x : Int32) (h : Inv A I J r q n) : PairI sc (d + 9) 196 306 [.int x] A L I J InvW := by
  have h0 := h
  obtain ⟨h1, h2, h3, h4, h5, h6, h7, h8, h9, ⟨p1, p2, p3, pp⟩, h11, ⟨a1, s, tn, rn, b1, b2, b3, b4, b5, b6, b7, b8, b9, b10, b11, b12⟩, h13, h14⟩ := h
  refine p_session x p1 p2 p3 b6 b7 b1 (Inv_i h0) (fun hs t ht => ?_)
  refine mkI h1 h2 h3 h4 h5 h6 h7 h8 h9 ⟨p1, p2, p3, pp⟩ h11 ⟨by funext i; simp [u2, a1], s + 1, tn, rn, by omega, b2, b3, b4, b5, rfl, rfl, b8, b9, b10, b11, fun i hi k k1 k2 => ?_⟩ h13 h14
  show bt (u2 A 57 s (nI t) 57 i) k = false
  by_cases e : i = s
  · subst e
    rw [u2_rd]
    exact bt_hi ht p3 k1 k2
  · rw [u2_nj e]
    exact b12 i (by omega) k k1 k2
theorem n_beyond (x : Int32) (h : Inv A I J r q n) : PairI sc (d + 9) 189 294 [.int x] A L I J InvW := by
  have h0 := h
  obtain ⟨h1, h2, h3, h4, h5, h6, h7, h8, h9, h10, ⟨⟨b, b1, b2, b3, b4⟩, c1, c2, c3, c4, c5, c6, c7⟩, h12, h13, h14⟩ := h
  exact p_beyond x b2 b3 b1 c4 (Inv_i h0)
theorem n_uses (x v : Int32) (h : Inv A I J r q n) : PairI sc (d + 9) 193 299 [.int x, .int v] A L I J InvW := by
  have h0 := h
  obtain ⟨h1, h2, h3, h4, h5, h6, h7, h8, h9, h10, h11, h12, h13, h14⟩ := h
  obtain ⟨d1, d2, d3, d4⟩ := h7
  exact p_uses x v h3.2.2.1 h3.2.2.2.1 h3.1 d1 (Inv_i h0) (fun j hj _ k hk _ => mkI h1 h2 h3 h4 h5 h6 ⟨by funext i; simp [u2, d1], d2, d3, d4⟩ h8 h9 h10 h11 h12 h13 h14)
theorem n_say (x : Int32) (h : Inv A I J r q n) : PairI sc (d + 9) 213 325 [.int x] A L I J InvW := by
  have h0 := h
  obtain ⟨h1, h2, h3, h4, h5, h6, h7, h8, h9, h10, h11, h12, h13, h14⟩ := h
  refine p_say x h3.2.2.1 h3.2.2.2.1 h3.1 (fun j hj => ⟨by rw [h4.1], ?_⟩) h2.2 (Inv_i h0) (fun t => mkI h1 ⟨h2.1, rfl⟩ h3 h4 h5 h6 h7 h8 h9 h10 h11 h12 h13 h14)
  obtain ⟨m, m1, m2⟩ := h4.2 j hj
  rcases (show m = 0 ∨ m = 1 ∨ m = 2 by omega) with rfl | rfl | rfl
  · exact Or.inl m2
  · exact Or.inr (Or.inl m2)
  · exact Or.inr (Or.inr m2)
theorem n_lose (x : Int32) (h : Inv A I J r q n) : PairI sc (d + 9) 204 318 [.int x] A L I J InvW := by
  have h0 := h
  obtain ⟨⟨s1, s2, s3, s4⟩, h2, h3, h4, h5, h6, h7, h8, h9, h10, h11, h12, h13, h14⟩ := h
  refine p_lose x s3 s4 (Inv_i h0) (fun k hk => mkI ⟨s1, s2, by funext i; simp [u2, s3], fun j hj => ?_⟩ h2 h3 h4 h5 h6 h7 h8 h9 h10 h11 h12 h13 h14)
  show u2 A 21 k (-1) 21 j = -1 ∨ _
  by_cases e : j = k
  · rw [e, u2_rd]; exact Or.inl rfl
  · rw [u2_nj e]
    rcases s4 j hj with z | ⟨m, m1, m2⟩
    · exact Or.inl z
    · exact Or.inr ⟨m, m1, by show u2 A 21 k (-1) 21 j = _; rw [u2_nj e]; exact m2⟩
theorem n_seats (h : Inv A I J r q n) : PairI sc (d + 9) 190 295 [] A L I J InvW := by
  have h0 := h
  obtain ⟨h1, h2, h3, h4, h5, h6, h7, h8, h9, h10, ⟨⟨b, b1, b2, b3, b4⟩, c1, c2, c3, c4, c5, c6, c7⟩, h12, h13, h14⟩ := h
  exact p_seats b2 b3 b1 c1 (Inv_i h0)
theorem n_spread (x : Int32) (h : Inv A I J r q n) : PairI sc (d + 9) 186 290 [.int x] A L I J InvW := by
  have h0 := h
  obtain ⟨h1, h2, h3, h4, h5, h6, h7, h8, h9, ⟨p1, p2, p3, p4, p5, p6, p7, p8, p9, p10, p11, p12, p13⟩, h11, h12, h13, h14⟩ := h
  exact p_spread x h3.2.2.1 h3.2.2.2.1 h3.1 p1 p2 p3 p6 (Inv_i h0)
theorem i12 {a b p s : Nat} (ha : b < 12) (hs : s < 12) : (12 * a + b = 12 * p + s) ↔ (a = p ∧ b = s) := by omega
theorem n_letters (x y v : Int32) (h : Inv A I J r q n) : PairI sc (d + 9) 191 296 [.int x, .int y, .int v] A L I J InvW := by
  have h0 := h
  obtain ⟨h1, h2, h3, h4, h5, h6, h7, h8, h9, h10, ⟨hb, c1, c2, c3, c4, c5, c6, c7⟩, h12, h13, h14⟩ := h
  refine p_letters x y v h10.1 h10.2.1 h10.2.2.1 c5 (Inv_i h0) (fun p s k hp hs hps hk => ?_)
  have hn := h10.2.2.1
  have hv : ∀ a b, a < 12 → b < 12 → u2 (u2 (u2 (u2 A 50 (12 * p + s) (nI k)) 50 (12 * s + p) (nI k)) 111 (12 * p + s) (nI k)) 111 (12 * s + p) (nI k) 111 (12 * a + b) = if (a = p ∧ b = s) ∨ (a = s ∧ b = p) then nI k else A 111 (12 * a + b) := by
    intro a b ha hb
    rw [u2_at, u2_at, u2_ne (by omega), u2_ne (by omega)]
    by_cases z1 : a = p ∧ b = s
    · rw [if_pos (Or.inl z1)]
      by_cases z2 : 12 * a + b = 12 * s + p
      · rw [if_pos z2]
      · rw [if_neg z2, if_pos (by omega)]
    · by_cases z2 : a = s ∧ b = p
      · rw [if_pos (Or.inr z2), if_pos (by omega)]
      · rw [if_neg (show ¬ 12 * a + b = 12 * s + p by omega), if_neg (show ¬ 12 * a + b = 12 * p + s by omega), if_neg (fun z => z.elim z1 z2)]
  refine mkI h1 h2 h3 h4 h5 h6 h7 h8 h9 h10 ⟨hb, c1, c2, c3, c4, by funext i; simp [u2, c5], fun a b ha hb => ?_, fun a b ha hb => ?_⟩ h12 h13 h14
  · rw [hv a b ha hb]
    by_cases z : (a = p ∧ b = s) ∨ (a = s ∧ b = p)
    · rw [if_pos z]; exact ⟨k, by omega, rfl⟩
    · rw [if_neg z]; exact c6 a b ha hb
  · rw [hv a b ha hb, hv b a hb ha]
    by_cases z : (a = p ∧ b = s) ∨ (a = s ∧ b = p)
    · rw [if_pos z, if_pos (by omega)]
    · rw [if_neg z, if_neg (by omega)]; exact c7 a b ha hb
theorem n_heard (x y : Int32) (h : Inv A I J r q n) : PairI sc (d + 9) 185 289 [.int x, .int y] A L I J InvW := by
  have h0 := h
  obtain ⟨h1, h2, h3, h4, h5, h6, h7, h8, h9, ⟨p1, p2, p3, p4, p5, p6, p7, p8, p9, p10, p11, p12, p13⟩, h11, h12, h13, h14⟩ := h
  exact p_heard x y p1 p2 p3 h3.2.2.1 h3.2.2.2.1 h3.1 p6 p7 (fun p j hp hj hb => (p8 p j (by omega) (by have := h3.1; omega) hb).1) (Inv_i h0)
theorem n_body (x a s : Int32) (h : Inv A I J r q n) : PairI sc (d + 9) 187 292 [.int x, .int a, .int s] A L I J InvW := by
  have h0 := h
  obtain ⟨h1, h2, h3, h4, h5, h6, h7, h8, h9, h10, ⟨⟨b, b1, b2, b3, b4⟩, c1, c2, c3, c4, c5, c6, c7⟩, h12, h13, h14⟩ := h
  refine p_body x a s h10.1 h10.2.1 h10.2.2.1 b2 b3 b1 (Inv_i h0) (fun hb y k t hy0 hy hk ht ht2 => ?_)
  refine mkI h1 h2 h3 h4 h5 h6 h7 h8 h9 h10 ⟨⟨b + 1, by omega, rfl, rfl, fun i hi => ?_⟩, by funext i; simp [u2, c1], by funext i; simp [u2, c2], by funext i; simp [u2, c3], c4, c5, c6, c7⟩ h12 h13 h14
  have hn := two_12 h10.2.2.1
  show ∃ m, m < 4096 ∧ u2 A 46 b (nI y) 46 i = nI m
  by_cases e : i = b
  · rw [e, u2_rd]; exact ⟨y, by omega, rfl⟩
  · rw [u2_nj e]; exact b4 i (by omega)
theorem n_as (x k : Int32) (h : Inv A I J r q n) : PairI sc (d + 9) 214 326 [.int x, .int k] A L I J InvW :=
  p_as x k h.2.2.1.2.2.1 h.2.2.1.2.2.2.1 h.2.2.1.1 (fun j hj => ⟨by rw [h.2.2.2.1.1], h.2.2.2.1.2 j hj⟩) (Inv_i (Inv_f h 0)) (Inv_i (Inv_f h 2))
theorem n_tell (x : Int32) (h : Inv A I J r q n) : PairI sc (d + 9) 212 324 [.int x] A L I J InvW := by
  have h0 := h
  obtain ⟨h1, h2, h3, h4, h5, h6, h7, h8, h9, h10, h11, h12, h13, h14⟩ := h
  have h3' := h3
  obtain ⟨w1, w2, w3, w4, w5, w6, w7, w8⟩ := h3'
  exact p_tell x w3 w4 w1 (fun j hj => ⟨by rw [h4.1], (w7 j hj).2.2.1, (w7 j hj).2.2.2.1, h4.2 j hj⟩) h2.2 (Inv_i h0) (fun t => mkI h1 ⟨h2.1, rfl⟩ h3 h4 h5 h6 h7 h8 h9 h10 h11 h12 h13 h14)
theorem n_cell (x y z : Int32) (h : Inv A I J r q n) : PairL sc (d + 9) 206 321 [.int x, .int y, .int z] A L I J InvW :=
  p_cell x y z h.1.1 h.1.2.1 h.1.2.2.1 h.1.2.2.2 (fun t => Inv_i (Inv_f h t))
theorem n_vote (x y v : Int32) (h : Inv A I J r q n) : PairI sc (d + 9) 188 293 [.int x, .int y, .int v] A L I J InvW := by
  have h0 := h
  obtain ⟨h1, h2, h3, h4, h5, h6, h7, h8, h9, h10, ⟨⟨b, b1, b2, b3, b4⟩, c1, c2, c3, c4, c5, c6, c7⟩, h12, h13, h14⟩ := h
  exact p_vote x y v b2 b3 b1 c1 c2 c3 c4 b4 (Inv_i h0) (fun k z hk => mkI h1 h2 h3 h4 h5 h6 h7 h8 h9 h10 ⟨⟨b, b1, b2, b3, b4⟩, c1, c2, c3, by funext i; simp [u2, c4], c5, c6, c7⟩ h12 h13 h14)
theorem n_easy (x y : Int32) (h : Inv A I J r q n) : PairI sc (d + 9) 178 280 [.int x, .int y] A L I J InvW := by
  have h0 := h
  obtain ⟨h1, h2, ⟨w1, w2, w3, w4, w5, w6, w7, w8⟩, h4, h5, h6, h7, h8, h9, ⟨p1, p2, p3, p4, ⟨tt, t1, t2, t3⟩, p6, p7, p8, p9, p10, p11, p12, p13⟩, h11, h12, h13, h14⟩ := h
  exact p_easy x y p1 p2 p3 w3 w4 w1 p4 (fun p hp => ⟨tt p, (t3 p hp).1, (t3 p hp).2⟩) (fun x hx => (w7 x hx).1) (fun t x ht hx => (h6.1 x hx t ht).1) (fun t x ht hx => (h6.1 x hx t ht).2.2) (fun B I' hB hI => Inv_s h0 hB hI)
theorem n_ofRoot (x y : Int32) (h : Inv A I J r q n) : PairI sc (d + 9) 159 236 [.int x, .int y] A L I J InvW := by
  have h0 := h
  obtain ⟨h1, h2, ⟨w1, w2, w3, w4, w5, w6, w7, w8⟩, h4, h5, h6, h7, h8, h9, h10, h11, h12, h13, h14⟩ := h
  exact p_ofRoot x y w3 w4 w1 h4.1 (fun x hx => (w7 x hx).2.2.2.1) (fun x hx => (w7 x hx).2.2.1) h7.1 h7.2.1 (fun x hx => (w7 x hx).1) (fun x hx => (w7 x hx).2.2.2.2) (Inv_i h0)
theorem n_may (x y : Int32) (h : Inv A I J r q n) : PairI sc (d + 9) 164 243 [.int x, .int y] A L I J InvW := by
  obtain ⟨u, cl, mr, a, b⟩ := h.2.2.2.2.2.2.2.1
  exact p_may x y a b (Inv_i h)
theorem n_why (x y : Int32) (h : Inv A I J r q n) : PairI sc (d + 9) 165 244 [.int x, .int y] A L I J InvW := by
  obtain ⟨u, cl, mr, a, b⟩ := h.2.2.2.2.2.2.2.1
  exact p_why x y a b (Inv_i h)
theorem n_world (x y : Int32) (h : Inv A I J r q n) : PairI sc (d + 9) 172 265 [.int x, .int y] A L I J InvW :=
  p_world x y h.2.2.2.2.2.2.2.2.1.2.2.1 (Inv_i h) (fun f k => Inv_s h (sA_u rfl (sA_r _)) (sI_w rfl (sI_r _)))
theorem n_isTrue (x y z : Int32) (h : Inv A I J r q n) : PairI sc (d + 9) 173 269 [.int x, .int y, .int z] A L I J InvW := by
  obtain ⟨a1, a2, a3, s, sn, so, sx, sy, a4⟩ := h.2.2.2.2.2.2.2.2.1
  exact p_isTrue x y z a4 a2 a3 (fun B I' hB hI => Inv_s h hB hI)
theorem n_differ (x y z : Int32) (h : Inv A I J r q n) : PairI sc (d + 9) 174 270 [.int x, .int y, .int z] A L I J InvW := by
  obtain ⟨a1, a2, a3, s, sn, so, sx, sy, a4⟩ := h.2.2.2.2.2.2.2.2.1
  exact p_differ x y z a4 a2 a3 (fun B I' hB hI => Inv_s h hB hI)
theorem n_worlds (x y : Int32) (h : Inv A I J r q n) : PairI sc (d + 9) 175 271 [.int x, .int y] A L I J InvW := by
  obtain ⟨a1, a2, a3, s, sn, so, sx, sy, a4⟩ := h.2.2.2.2.2.2.2.2.1
  exact p_worlds x y a4 a2 a3 (fun B I' hB hI => Inv_s h hB hI)
theorem n_letter (x y : Int32) (h : Inv A I J r q n) : PairI sc (d + 9) 201 315 [.int x, .int y] A L I J InvW :=
  p_letter x y h.2.2.2.2.2.2.2.2.2.2.2.2.1.1 h.2.2.2.2.2.2.2.2.2.2.2.2.1.2.1 (fun B I' hB hI => Inv_s h hB hI)
theorem n_round (x : Int32) (h : Inv A I J r q n) : PairI sc (d + 9) 202 316 [.int x] A L I J InvW :=
  p_round x h.2.2.2.2.2.2.2.2.2.2.2.2.1.1 h.2.2.2.2.2.2.2.2.2.2.2.2.1.2.1 h.2.2.2.2.2.2.2.2.2.2.2.2.1.2.2.1 (fun B I' hB hI => Inv_s h hB hI)
theorem n_part (x y v : Int32) (h : Inv A I J r q n) : PairI sc (d + 19) 192 298 [.int x, .int y, .int v] A L I J InvW := by
  have h0 := h
  obtain ⟨h1, h2, h3, h4, h5, h6, h7, h8, h9, h10, ⟨hb, c1, c2, c3, c4, c5, c6, c7⟩, h12, h13, h14⟩ := h
  exact p_part x y v h10.1 h10.2.1 h10.2.2.1 c5 c6 c7 (fun B I' hB hI => Inv_s h0 hB hI)
theorem n_keep (v : Int32) (h : Inv A I J r q n) : PairI sc (d + 9) 195 305 [.int v] A L I J InvW := by
  have h0 := h
  obtain ⟨h1, h2, ⟨w1, w2, w3, w4, w5, w6, w7, w8⟩, h4, h5, h6, ⟨d1, d2, d3, m, px, py, m8, e1, e2, hp⟩, h8, h9, ⟨p1, p2, p3, p4, ⟨tt, ht⟩, p6, p7, p8, p9, p10, p11, p12, p13⟩, h11, h12, h13, h14⟩ := h
  exact p_keep v e1 ⟨m8, e2, fun k hk => ⟨by have := (hp k hk).1; omega, by have := (hp k hk).2.1; omega, (hp k hk).2.2.1, (hp k hk).2.2.2.1, (w7 _ (hp k hk).1).1, (w7 _ (hp k hk).2.1).1⟩⟩ ht p1 p4 p6 d1 (fun k hk => (hp k hk).2.2.2.2) (fun k hk => ⟨(hp k hk).1, (hp k hk).2.1⟩) h5.1 (fun t x ht hx => (h6.1 x hx t ht).2.2) (fun t x ht hx => (h6.1 x hx t ht).1) (fun B I' hB hI => Inv_s h0 hB hI)
theorem n_reform (x y z v i k : Int32) (h : Inv A I J r q n) : PairL sc (d + 9) 181 283 [.int x, .int y, .int z, .int v, .int i, .int k] A L I J InvW := by
  have h0 := h
  obtain ⟨⟨s1, s2, s3, s4⟩, h2, ⟨w1, w2, w3, w4, w5, w6, w7, w8⟩, h4, h5, h6, h7, h8, h9, ⟨p1, p2, p3, p4, ⟨tt, ht⟩, p6, p7, p8, p9, p10, p11, p12, p13⟩, h11, h12, h13, h14⟩ := h
  exact p_reform x y z v i k s1 s2 s3 s4 w3 w4 w1 p1 ht p4 p6 (fun x hx => (w7 x hx).1) h6.1 (fun t => Inv_i (Inv_f h0 t)) (fun B I' hB hI => Inv_s (Inv_f h0 0) hB hI)
theorem n_ways (z v i k : Int32) (h : Inv A I J r q n) : PairI sc (d + 9) 167 250 [.int z, .int v, .int i, .int k] A L I J InvW := by
  obtain ⟨u, cl, mr, a, b⟩ := h.2.2.2.2.2.2.2.1
  exact p_ways z v i k h.1.1 h.1.2.1 h.1.2.2.1 h.1.2.2.2 h.2.2.1 a b (fun t => Inv_i (Inv_f h t)) (fun B I' hB hI => Inv_s (Inv_f h 0) hB hI)
theorem n_parse (z v i k y : Int32) (h : Inv A I J r q n) : PairI sc (d + 9) 168 252 [.int z, .int v, .int i, .int k, .int y] A L I J InvW := by
  obtain ⟨u, cl, mr, a, b⟩ := h.2.2.2.2.2.2.2.1
  exact p_parse z v i k y h.1.1 h.1.2.1 h.1.2.2.1 h.1.2.2.2 h.2.2.1 a b (fun t => Inv_i (Inv_f h t)) (fun B I' hB hI => Inv_s (Inv_f h 0) hB hI)
theorem n_table (x : Int32) (h : Inv A I J r q n) : PairI sc (d + 12) 198 310 [.int x] A L I J InvW := by
  obtain ⟨a1, s, tn, rn, b1, b2, b3, b4, b5, b6, b7, b8, b9, b10, b11, b12⟩ := h.2.2.2.2.2.2.2.2.2.2.2.1
  exact p_table x b6 b8 b10 b7 b9 b11 b2 b3 b1 b5 b12 a1 (Inv_i h) (fun B m hB => Inv_s h (fun k hk => hB k (fun z => by rw [z] at hk; exact absurd hk (by decide)) (fun z => by rw [z] at hk; exact absurd hk (by decide)) (fun z => by rw [z] at hk; exact absurd hk (by decide)) (fun z => by rw [z] at hk; exact absurd hk (by decide))) (sI_w rfl (sI_r _)))
end
