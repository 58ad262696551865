section
variable {sc : Sc} {d : Nat} {A I : Nat → Nat → Int32} {L : Nat → Nat → Int64} {J : Nat → Nat → Int64} {r q n : Nat}
set_option maxHeartbeats 8000000 in
theorem n_root (x y z v i k : Int32) (h : Inv A I J r q n) : PairI sc (d + 9) 157 234 [.int x, .int y, .int z, .int v, .int i, .int k] A L I J InvW := by
  have h0 := h
  obtain ⟨⟨s1, s2, s3, s4⟩, h2, h3, h4, h5, h6, ⟨d1, d2, d3, dm, px, py, m8, de1, de2, dp⟩, h8, h9, h10, h11, h12, h13, ⟨⟨r0, q0, S, t1, t2, t3, t4, t5, t6⟩, t7⟩⟩ := h
  have h3' := h3
  obtain ⟨w1, w2, w3, w4, w5, w6, w7, w8⟩ := h3'
  refine p_root x y z v i k s1 s2 s3 s4 w3 w4 w1 (fun x hx => (w7 x hx).1) (fun x hx => (w7 x hx).2.2.2.2) (fun t => Inv_i (Inv_f h0 t)) (fun B F m g s t hs ht hr hm1 hm4 hF hL _ hB hg => ?_)
  obtain ⟨b0, b3, b4, b5, b7, b8, b9⟩ := hB
  obtain ⟨F', rfl⟩ : ∃ F' : Nat → Nat → Int32, B = fun k => if k = 3 ∨ k = 4 ∨ k = 5 ∨ k = 7 ∨ k = 8 ∨ k = 9 ∨ k = 10 ∨ k = 11 then F' k else A k := ⟨B, funext fun k => by
    by_cases e : k = 3 ∨ k = 4 ∨ k = 5 ∨ k = 7 ∨ k = 8 ∨ k = 9 ∨ k = 10 ∨ k = 11
    · rw [if_pos e]
    · rw [if_neg e]; exact b0 k (by omega) (by omega) (by omega) (by omega) (by omega) (by omega) (by omega) (by omega)⟩
  have b3 : F' 3 = u1 (A 3) r (nI s) := b3
  have b4 : F' 4 = u1 (A 4) r (nI (cdN (gl (A 119) F) m)) := b4
  have b5 : F' 5 = u1 (A 5) r (nI m) := b5
  have b7 : F' 7 = u1 (A 7) r (nI t) := b7
  have b8 : ∀ y z, y < 16 → z < 32 → bt (F' 8 y) z = (bt (A 8 y) z || (decide (y = r) && decide (z < r) && decide (lev (gl (A 68) (4 * z)) (gl (A 119) F) (A 67 z).toNatClampNeg m = 1)) || (decide (y < r) && decide (z = r) && decide (lev (gl (A 68) (4 * y)) (gl (A 119) F) (A 67 y).toNatClampNeg m = 1))) := b8
  have b9 : ∀ t x, t < 4 → x < 16 → F' 9 (16 * t + x) = (if x = r then 0 else A 9 (16 * t + x)) ∧ F' 10 (16 * t + x) = (if x = r then nI (1 + m) else A 10 (16 * t + x)) := b9
  have g4 : ∀ x, x < r → ∀ j, j < 4 → A 68 (4 * x + j) = g (4 * x + j) := fun x hx j hj => (hg.2 _ (by omega)).symm
  have e67 : ∀ x, x < r → u1 (A 67) r (nI m) x = A 67 x := fun x hx => u1_ne (by omega)
  have c67 : u2 (u2 (u2 (fun k => if k = 3 ∨ k = 4 ∨ k = 5 ∨ k = 7 ∨ k = 8 ∨ k = 9 ∨ k = 10 ∨ k = 11 then F' k else A k) 65 r (nI s)) 66 r (nI t)) 67 r (nI m) 67 = u1 (A 67) r (nI m) := by
    funext i
    simp [u2, u1]
  have c66 : u2 (u2 (fun k => if k = 3 ∨ k = 4 ∨ k = 5 ∨ k = 7 ∨ k = 8 ∨ k = 9 ∨ k = 10 ∨ k = 11 then F' k else A k) 65 r (nI s)) 66 r (nI t) 66 = u1 (A 66) r (nI t) := by
    funext i
    simp [u2, u1]
  have hI7 : r ≤ 16 := w1
  have mx : ∀ x, x < r → ∃ m', 1 ≤ m' ∧ m' ≤ 4 ∧ (A 67 x).toNatClampNeg = m' := fun x hx => by
    obtain ⟨m', m1, m2, m3, m4, _⟩ := WO_u (w7 x hx).1 (by omega)
    exact ⟨m', m1, m2, m4⟩
  have lvRR : ∀ x y, x < r → y < r → lvW g (4 * x) (A 67 x) g (4 * y) (A 67 y) = lvR A x y := fun x y hx hy => by
    obtain ⟨a, a1, a2, a3⟩ := mx x hx
    obtain ⟨b, b1, b2, b3⟩ := mx y hy
    unfold lvR lvW
    rw [a3, b3]
    exact lev_c a b (fun j hj => (gl_c (g4 x hx) (by omega)).symm) (fun j hj => (gl_c (g4 y hy) (by omega)).symm)
  have lvNR : ∀ y, y < r → lvW g (4 * r) (nI m) g (4 * y) (A 67 y) = lev (gl (A 68) (4 * y)) (gl (A 119) F) (A 67 y).toNatClampNeg m := fun y hy => by
    obtain ⟨b, b1, b2, b3⟩ := mx y hy
    unfold lvW
    rw [nI_clamp (by omega), b3, lev_sym]
    exact lev_c b m (fun j hj => (gl_c (g4 y hy) (by omega)).symm) (fun j hj => gl_n hg hj)
  have lvRN : ∀ y, y < r → lvW g (4 * y) (A 67 y) g (4 * r) (nI m) = lev (gl (A 68) (4 * y)) (gl (A 119) F) (A 67 y).toNatClampNeg m := fun y hy => by
    obtain ⟨b, b1, b2, b3⟩ := mx y hy
    unfold lvW
    rw [nI_clamp (by omega), b3]
    exact lev_c b m (fun j hj => (gl_c (g4 y hy) (by omega)).symm) (fun j hj => gl_n hg hj)
  refine mkI (r := r + 1) ⟨s1, s2, s3, s4⟩ ⟨rfl, h2.2⟩ ⟨by omega, w2, rfl, rfl, w5, w6, fun x hx => ?_, fun e he => ?_⟩ ⟨?_, fun j hj => ?_⟩ ⟨fun x y hx hy => ?_, fun y z hy hz hyz => ?_⟩ ⟨fun x hx t' ht' => ?_, fun t' x ht' hx hx2 => ?_⟩ ⟨d1, d2, d3, dm, px, py, m8, de1, de2, fun k hk => ?_⟩ h8 h9 h10 h11 h12 h13 ⟨⟨r0, q0, S, by omega, t2, t3, t4, t5, MinS_n (fun p hp hT => ?_) t6⟩, Or.inl rfl⟩
  · show WO g (4 * x) (u2 _ 67 r (nI m) 67 x) 1 4 ∧ (∃ k, k < 4 ∧ u2 _ 66 r (nI t) 66 x = nI k) ∧ F' 5 x = u2 _ 67 r (nI m) 67 x ∧ F' 7 x = u2 _ 66 r (nI t) 66 x ∧ F' 4 x = cdW g (4 * x) (u2 _ 67 r (nI m) 67 x)
    rw [c67, c66, b5, b7, b4]
    by_cases e : x = r
    · subst e
      rw [u1_eq, u1_eq, u1_eq, u1_eq, u1_eq]
      exact ⟨WO_n hg hL hm1 hm4, ⟨t, ht, rfl⟩, rfl, rfl, (cdW_n hg hm4).symm⟩
    · obtain ⟨a1, a2, a3, a4, a5⟩ := w7 x (by omega)
      rw [u1_ne e, u1_ne e, u1_ne e, u1_ne e, u1_ne e]
      exact ⟨WO_c a1 (by omega) (g4 x (by omega)), a2, a3, a4, a5.trans (cdW_c a1 (by omega) (g4 x (by omega)))⟩
  · obtain ⟨a1, a2, a2', a3, a4, a5, a6⟩ := w8 e he
    refine ⟨a1, a2, a2', ?_, a4, ?_, ?_⟩
    · show F' 5 (16 + e) = A 73 e
      rw [b5, u1_ne (by omega)]; exact a3
    · show F' 7 (16 + e) = A 72 e
      rw [b7, u1_ne (by omega)]; exact a5
    · show F' 4 (16 + e) = cdW (A 74) (4 * e) (A 73 e)
      rw [b4, u1_ne (by omega)]; exact a6
  · show F' 3 = u2 _ 65 r (nI s) 65
    rw [b3, h4.1]
    funext i
    simp [u2, u1]
  · show ∃ m, m ≤ 2 ∧ F' 3 j = nI m
    rw [b3]
    by_cases e : j = r
    · rw [e, u1_eq]; exact ⟨s, by omega, rfl⟩
    · rw [u1_ne e]; exact h4.2 j (by omega)
  · show bt (F' 8 x) y = decide (lvW g (4 * x) (u2 _ 67 r (nI m) 67 x) g (4 * y) (u2 _ 67 r (nI m) 67 y) = 1)
    rw [c67, b8 x y (by omega) (by omega)]
    by_cases ex : x = r
    · subst ex
      by_cases ey : y = x
      · subst ey
        rw [u1_eq, h5.2 y y (by omega) (by omega) (Or.inl (Nat.le_refl _))]
        have : lvW g (4 * y) (nI m) g (4 * y) (nI m) = 0 := lev_self _ _
        rw [this]
        simp
      · rw [u1_eq, u1_ne ey, lvNR y (by omega), h5.2 x y (by omega) (by omega) (Or.inl (Nat.le_refl _))]
        have : y < x := by omega
        simp [this]
    · by_cases ey : y = r
      · subst ey
        rw [u1_eq, u1_ne ex, lvRN x (by omega), h5.2 x y (by omega) (by omega) (Or.inr (Nat.le_refl _))]
        have : x < y := by omega
        simp [this, ex]
      · rw [u1_ne ex, u1_ne ey, lvRR x y (by omega) (by omega), h5.1 x y (by omega) (by omega)]
        simp [ex, ey]
  · show bt (F' 8 y) z = false
    rw [b8 y z hy hz, h5.2 y z hy hz (by omega)]
    by_cases e1 : y = r
    · have e2 : ¬ z < r := by omega
      have e3 : ¬ y < r := by omega
      simp [e1, e2]
    · have e2 : ¬ (y < r ∧ z = r) := by omega
      by_cases e3 : y < r
      · have e4 : ¬ z = r := by omega
        simp [e1, e4]
      · simp [e1, e3]
  · show WO (A 97) (4 * (16 * t' + x)) (A 96 (16 * t' + x)) 0 4 ∧ F' 9 (16 * t' + x) = cdW (A 97) (4 * (16 * t' + x)) (A 96 (16 * t' + x)) ∧ F' 10 (16 * t' + x) = nI (1 + lvW (A 97) (4 * (16 * t' + x)) (A 96 (16 * t' + x)) g (4 * x) (u2 _ 67 r (nI m) 67 x))
    rw [c67, (b9 t' x ht' (by omega)).1, (b9 t' x ht' (by omega)).2]
    by_cases e : x = r
    · subst e
      rw [if_pos rfl, if_pos rfl, u1_eq, h6.2 t' x ht' (Nat.le_refl _) hr]
      refine ⟨⟨0, by omega, by omega, rfl, fun j hj => absurd hj (by omega)⟩, rfl, ?_⟩
      unfold lvW
      rw [show (0 : Int32).toNatClampNeg = 0 from rfl, lev_0, nI_clamp (by omega)]
    · obtain ⟨a1, a2, a3⟩ := h6.1 x (by omega) t' ht'
      rw [if_neg e, if_neg e, u1_ne e]
      refine ⟨a1, a2, a3.trans ?_⟩
      obtain ⟨b, k1, k2, k3⟩ := mx x (by omega)
      obtain ⟨m', m1, m2, m3, m4, _⟩ := WO_u a1 (by omega)
      unfold lvT lvW
      rw [k3, m4, lev_c m' b (fun j _ => rfl) (fun j hj => gl_c (g4 x (by omega)) (by omega))]
  · exact h6.2 t' x ht' (by omega) hx2
  · obtain ⟨q1, q2, q3⟩ := dp k hk
    exact ⟨by omega, by omega, q3⟩
  · by_cases e : p < 16
    · unfold ptT at hT
      rw [if_pos e] at hT
      have hlt := of_decide_eq_true hT
      have hne : p ≠ r := by omega
      have hN : ptN A p ≤ 4 := (pt_K h3 hp (by unfold ptT; rw [if_pos e]; exact decide_eq_true (by omega))).n4
      refine ⟨?_, ?_, fun z => absurd z (by omega), fun j hj => ?_⟩
      · unfold ptN
        rw [if_pos e, if_pos e]
        show (u2 _ 67 r (nI m) 67 p).toNatClampNeg = _
        rw [c67, u1_ne hne]
      · unfold ptC
        rw [if_pos e, if_pos e]
        show (u2 _ 66 r (nI t) 66 p).toNatClampNeg = _
        rw [c66, u1_ne hne]
      · unfold ptL
        rw [if_pos e, if_pos e]
        exact (gl_c (g4 p (by omega)) (by omega)).symm
    · refine ⟨?_, ?_, fun _ => rfl, fun j _ => ?_⟩
      · unfold ptN; rw [if_neg e, if_neg e]; rfl
      · unfold ptC; rw [if_neg e, if_neg e]; rfl
      · unfold ptL; rw [if_neg e, if_neg e]; rfl
set_option maxHeartbeats 8000000 in
theorem n_sentence (z v i k : Int32) (h : Inv A I J r q n) : PairI sc (d + 9) 171 262 [.int z, .int v, .int i, .int k] A L I J InvW := by
  have h0 := h
  obtain ⟨⟨s1, s2, s3, s4⟩, h2, h3, h4, h5, h6, h7, h8, ⟨a1, a2, a3, s, sn, so, sx, sy, e10, e29, e64, ea, eb⟩, h10, h11, h12, h13, ⟨⟨r0, q0, S, t1, t2, t3, t4, t5, t6⟩, t7⟩⟩ := h
  have hr16 := h3.1
  refine p_sentence z v i k s1 s2 s3 s4 h3.2.2.1 h3.2.2.2.1 h3.1 e29 e64 e10 (fun t => Inv_i (Inv_f h0 t)) (fun F m g B hs hm1 hm4 hF hS hR hg hB => ?_)
  obtain ⟨b0, b1⟩ := hB
  obtain ⟨F', rfl⟩ : ∃ F' : Nat → Nat → Int32, B = fun k => if k = 91 ∨ k = 92 ∨ k = 93 then F' k else u2 (u2 (u1 A 32 g) 33 s (nI m)) 90 s (nI m) k := ⟨B, funext fun k => by
    by_cases e : k = 91 ∨ k = 92 ∨ k = 93
    · rw [if_pos e]
    · rw [if_neg e]; exact b0 k (by omega) (by omega) (by omega)⟩
  have b1 : ∀ i, F' 91 i = (if 4 * s ≤ i ∧ i < 4 * s + m then A 119 (F + 3 * (i - 4 * s)) else A 91 i) ∧ F' 92 i = (if 4 * s ≤ i ∧ i < 4 * s + m then A 119 (F + 3 * (i - 4 * s) + 1) else A 92 i) ∧ F' 93 i = (if 4 * s ≤ i ∧ i < 4 * s + m then A 119 (F + 3 * (i - 4 * s) + 2) else A 93 i) := b1
  have nn : ∀ x : Int32, 0 ≤ x.toInt → x.toInt < 1000 → x = nI x.toInt.toNat := fun x h1 h2 => by
    apply Int32.toInt_inj.mp
    rw [nI_toInt (by omega)]; omega
  refine mkI ⟨s1, s2, s3, s4⟩ ⟨rfl, h2.2⟩ h3 h4 h5 h6 h7 h8 ⟨a1, a2, a3, s + 1, u1 sn s m, fun i => if 4 * s ≤ i then (A 119 (F + 3 * (i - 4 * s))).toInt.toNat else so i, fun i => if 4 * s ≤ i then (A 119 (F + 3 * (i - 4 * s) + 1)).toInt.toNat else sx i, fun i => if 4 * s ≤ i then (A 119 (F + 3 * (i - 4 * s) + 2)).toInt.toNat else sy i, by omega, rfl, rfl, fun i hi => ?_, fun i b hi hb => ?_⟩ h10 h11 h12 h13 ⟨⟨r0, q0, S, t1, t2, t3, t4, t5, MinS_w ⟨rfl, rfl, rfl, rfl, rfl, rfl, rfl⟩ t6⟩, ?_⟩
  · show u1 sn s m i ≤ 4 ∧ u2 (u1 A 32 g) 33 s (nI m) 33 i = nI (u1 sn s m i) ∧ u2 (u2 (u1 A 32 g) 33 s (nI m)) 90 s (nI m) 90 i = nI (u1 sn s m i)
    rw [u2_at, u2_at]
    by_cases e : i = s
    · rw [e, if_pos rfl, if_pos rfl, u1_eq]; exact ⟨hm4, rfl, rfl⟩
    · rw [if_neg e, if_neg e, u1_ne e]
      exact ea i (by omega)
  · dsimp only
    show _ ∧ _ ∧ _ ∧ g (3 * (4 * i + b)) = _ ∧ g (3 * (4 * i + b) + 1) = _ ∧ g (3 * (4 * i + b) + 2) = _ ∧ F' 91 (4 * i + b) = _ ∧ F' 92 (4 * i + b) = _ ∧ F' 93 (4 * i + b) = _
    rw [(b1 _).1, (b1 _).2.1, (b1 _).2.2]
    by_cases e : i = s
    · subst e
      rw [u1_eq] at hb
      rw [if_pos (by omega), if_pos (by omega), if_pos (by omega), if_pos (by omega), if_pos (by omega), if_pos (by omega), show 4 * i + b - 4 * i = b by omega]
      obtain ⟨x1, x2⟩ := hS b hb
      obtain ⟨⟨y1, y2⟩, ⟨z1, z2⟩⟩ := hR b hb
      have g0 := hg.1 (3 * b) (by omega)
      have g1 := hg.1 (3 * b + 1) (by omega)
      have g2 := hg.1 (3 * b + 2) (by omega)
      rw [show 12 * i + 3 * b = 3 * (4 * i + b) by omega] at g0
      rw [show 12 * i + (3 * b + 1) = 3 * (4 * i + b) + 1 by omega, ← Nat.add_assoc] at g1
      rw [show 12 * i + (3 * b + 2) = 3 * (4 * i + b) + 2 by omega, ← Nat.add_assoc] at g2
      rw [g0, g1, g2]
      exact ⟨by omega, by omega, by omega, nn _ x1 (by omega), nn _ y1 (by omega), nn _ z1 (by omega), nn _ x1 (by omega), nn _ y1 (by omega), nn _ z1 (by omega)⟩
    · rw [u1_ne e] at hb
      have hi2 : i < s := by omega
      have hsn := (ea i hi2).1
      rw [if_neg (by omega), if_neg (by omega), if_neg (by omega), if_neg (by omega), if_neg (by omega), if_neg (by omega), hg.2 _ (by omega), hg.2 _ (by omega), hg.2 _ (by omega)]
      exact eb i b hi2 hb
  · rcases t7 with z | ⟨z1, S', z2, z3⟩
    · exact Or.inl z
    · exact Or.inr ⟨z1, S', z2, MinS_w ⟨rfl, rfl, rfl, rfl, rfl, rfl, rfl⟩ z3⟩
set_option maxHeartbeats 8000000 in
theorem n_rule (x y z v g i k : Int32) (h : Inv A I J r q n) : PairI sc (d + 9) 161 239 [.int x, .int y, .int z, .int v, .int g, .int i, .int k] A L I J InvW := by
  have h0 := h
  obtain ⟨⟨s1, s2, s3, s4⟩, h2, h3, h4, h5, h6, h7, ⟨u, cl, mr, hR, hSt⟩, h9, h10, h11, h12, h13, ⟨⟨r0, q0, S, t1, t2, t3, t4, t5, t6⟩, t7⟩⟩ := h
  refine p_rule x y z v g i k s1 s2 s3 s4 hR (fun t => Inv_i (Inv_f h0 t)) (fun B t b1 b2 b3 => ?_) (fun B jn t cl' m' b1 hu hR' hSt' => ?_)
  · obtain ⟨F, rfl⟩ : ∃ F : Nat → Nat → Int32, B = fun k => if k = 23 ∨ k = 24 ∨ k = 82 ∨ k = 83 ∨ k = 84 then F k else A k := ⟨B, funext fun k => by
      by_cases e : k = 23 ∨ k = 24 ∨ k = 82 ∨ k = 83 ∨ k = 84
      · rw [if_pos e]
      · rw [if_neg e]; exact b1 k (by omega) (by omega) (by omega) (by omega) (by omega)⟩
    have b2 : ∀ i, ¬ (4 * u ≤ i ∧ i < 4 * u + 4) → F 23 i = A 23 i := b2
    have b3 : ∀ i, i ≠ u → F 24 i = A 24 i := b3
    obtain ⟨g1, g2, g3, g4, g5, g6, g7, g8, g9, g10⟩ := hR
    refine mkI ⟨s1, s2, s3, s4⟩ ⟨rfl, h2.2⟩ h3 h4 h5 h6 h7 ⟨u, cl, mr, ⟨g1, g2, g3, fun i hi => ?_, fun i k hi hk => ?_, g6, g7, g8, g9, g10⟩, hSt⟩ h9 h10 h11 h12 h13 ⟨⟨r0, q0, S, t1, t2, t3, t4, t5, MinS_w ⟨rfl, rfl, rfl, rfl, rfl, rfl, rfl⟩ t6⟩, ?_⟩
    · show mr i ≤ 4 ∧ F 24 i = nI (mr i) ∧ A 78 i = nI (mr i)
      rw [b3 i (by omega)]
      exact g4 i hi
    · have := (g4 i hi).1
      show cl (4 * i + k) < 32 ∧ F 23 (4 * i + k) = nI (cl (4 * i + k)) ∧ _
      rw [b2 _ (by omega)]
      exact g5 i k hi hk
    · rcases t7 with z | ⟨z1, S', z2, z3⟩
      · exact Or.inl z
      · exact Or.inr ⟨z1, S', z2, MinS_w ⟨rfl, rfl, rfl, rfl, rfl, rfl, rfl⟩ z3⟩
  · obtain ⟨F, rfl⟩ : ∃ F : Nat → Nat → Int32, B = fun k => if (23 ≤ k ∧ k ≤ 28) ∨ (75 ≤ k ∧ k ≤ 84) then F k else A k := ⟨B, funext fun k => by
      by_cases e : (23 ≤ k ∧ k ≤ 28) ∨ (75 ≤ k ∧ k ≤ 84)
      · rw [if_pos e]
      · rw [if_neg e]; exact b1 k (fun z => e (Or.inl z)) (fun z => e (Or.inr z))⟩
    exact mkI ⟨s1, s2, s3, s4⟩ ⟨rfl, h2.2⟩ h3 h4 h5 h6 h7 ⟨u + 1, cl', m', hR', hSt'⟩ h9 h10 h11 h12 h13 ⟨⟨r0, q0, S, t1, t2, t3, t4, t5, MinS_w ⟨rfl, rfl, rfl, rfl, rfl, rfl, rfl⟩ t6⟩, Or.inl rfl⟩
set_option maxHeartbeats 8000000 in
theorem n_two (x : Int32) (h : Inv A I J r q n) : PairI sc (d + 40) 169 258 [.int x] A L I J InvW := by
  have h0 := h
  obtain ⟨⟨s1, s2, s3, s4⟩, h2, h3, h4, h5, h6, h7, ⟨u, cl, mr, hR, hSt⟩, h9, h10, h11, h12, h13, ⟨⟨r0, q0, S, t1, t2, t3, t4, t5, t6⟩, t7⟩⟩ := h
  have hr16 := h3.1
  have hq8 := h3.2.1
  refine p_two x h3 hR hSt (fun e1 e2 e3 => ⟨S, t5, ?_⟩) t7 (Inv_i h0) (fun C L' I' J' S' c1 c2 c4 c5 c6 c7 c8 c9 c10 => ?_)
  · rw [t3] at e2
    rw [t4] at e3
    have e2 : r0 = r := by
      have := congrArg Int32.toInt e2
      rw [nI_toInt (by omega), nI_toInt (by omega)] at this
      omega
    have e3 : q0 = q := by
      have := congrArg Int32.toInt e3
      rw [nI_toInt (by omega), nI_toInt (by omega)] at this
      omega
    rw [e1, e2, e3] at t6
    exact t6
  · obtain ⟨F, rfl⟩ : ∃ F : Nat → Nat → Int32, C = fun k => if kpA k = true ∧ k ≠ 87 then A k else F k := ⟨C, funext fun k => by
      by_cases e : kpA k = true ∧ k ≠ 87
      · rw [if_pos e]; exact c1 k e.1 e.2
      · rw [if_neg e]⟩
    obtain ⟨G, rfl⟩ : ∃ G : Nat → Nat → Int32, I' = fun k j => if kpI k j = true ∧ k ≠ 15 ∧ ¬ (k = 64 ∧ (j = 30 ∨ j = 31)) then I k j else G k j := ⟨I', funext fun k => funext fun j => by
      by_cases e : kpI k j = true ∧ k ≠ 15 ∧ ¬ (k = 64 ∧ (j = 30 ∨ j = 31))
      · rw [if_pos e]; exact c2 k j e.1 e.2.1 e.2.2
      · rw [if_neg e]⟩
    refine mkI ⟨s1, s2, s3, s4⟩ h2 h3 h4 h5 h6 h7 ⟨u, cl, mr, hR, hSt⟩ h9 h10 h11 h12 h13 ⟨⟨r, q, S', Nat.le_refl _, Nat.le_refl _, c5, c6, c7, ?_⟩, Or.inr ⟨c8, S', c9, MinS_w ⟨rfl, rfl, rfl, rfl, rfl, rfl, rfl⟩ c10⟩⟩
    rw [c4]
    exact MinS_w ⟨rfl, rfl, rfl, rfl, rfl, rfl, rfl⟩ c10
end
