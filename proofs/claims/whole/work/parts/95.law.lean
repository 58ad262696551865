theorem aI2 (a : Nat) : nI a + 2 = nI (a + 2) := by rw [show (2 : Int32) = nI 2 from rfl, nI_add]
theorem aI3 (a : Nat) : nI a + 3 = nI (a + 3) := by rw [show (3 : Int32) = nI 3 from rfl, nI_add]
theorem aI4 (a : Nat) : nI a + 4 = nI (a + 4) := by rw [show (4 : Int32) = nI 4 from rfl, nI_add]
theorem aI5 (a : Nat) : nI a + 5 = nI (a + 5) := by rw [show (5 : Int32) = nI 5 from rfl, nI_add]
theorem aI6 (a : Nat) : nI a + 6 = nI (a + 6) := by rw [show (6 : Int32) = nI 6 from rfl, nI_add]
theorem aI7 (a : Nat) : nI a + 7 = nI (a + 7) := by rw [show (7 : Int32) = nI 7 from rfl, nI_add]
theorem aI8 (a : Nat) : nI a + 8 = nI (a + 8) := by rw [show (8 : Int32) = nI 8 from rfl, nI_add]
theorem lg_z (x : Int64) : lg_cmp x x = 0 := by
  unfold lg_cmp
  rw [if_neg (by rw [gt_iff_lt, Int64.lt_iff_toInt_lt]; omega), if_pos rfl]
theorem lw_b {w : Wd} (h : 120 ≤ w.1) : Nat.ble 64 w.1 = true := Nat.ble_eq.mpr (by omega)
/-- the law's loop, and where each call begins -/
def spL (pc : Nat) : Option (List Bool) := bif List.contains [18, 2302, 264, 339, 414, 447, 534, 567, 600, 633, 686, 749, 772, 825, 878, 911, 954, 997, 1030, 1053, 1128, 1161, 1220, 1243, 1319, 1352, 1375, 1388, 1421, 1444, 1487, 1530, 1553, 1566, 1609, 1652, 1685, 1718, 1741, 1764, 1797, 1820, 1879, 1902, 1935, 1958, 2001, 2024, 2067, 2111, 2174, 2197, 2220, 2253, 2266, 2279] pc then some [true, true, true, true] else none
section
variable {sc : Sc} {A I : Nat → Nat → Int32} {L : Nat → Nat → Int64} {J : Nat → Nat → Int64} {Q : Option Value → Wd → Prop} {K : Kt} {r q n t : Nat}
set_option maxHeartbeats 8000000 in
theorem lw_0 (hK : am_cl sc (Ct sc 60) 333 Q K) (ht : 8 * t + 8 ≤ sc.1) (hs : sc.1 ≤ 4096) (hI : Inv A I J r q n) (hX : ∀ A L I J, InvW A L I J → K 18 [some (.ref 0), some (.ref 1), some (.ref 64), some (.int (nI (8 * (t + 1))))] [] (wd A L I J) 120 6588) : K 264 [some (.ref 0), some (.ref 1), some (.ref 64), some (.int (nI (8 * t)))] [] (wd A L I J) 120 6588 := by
  refine am_go hK spL 300 ?_
  repeat' ((conv => whnf); first | (refine And.intro (a := vq _ _) (by unfold vq; (try simp (disch := omega) only [Nat.reduceAdd, qc_i, qc_r, qc_n, qc_l, wd, nI_1, aI2, aI3, aI4, aI5, aI6, aI7, aI8, nI_clamp]); rw [nI_toInt (by omega)]; omega) ?_) | (refine And.intro (fun c => absurd c i10) (fun _ => ?_)) | (refine And.intro (fun _ => ?_) (fun c => absurd c i10)) | (refine And.intro (fun c => absurd rfl c) (fun _ => ?_)) | (refine And.intro (fun _ => ?_) (fun c => absurd rfl c)) | (refine And.intro (fun c => absurd c i01) (fun _ => ?_)) | (refine And.intro (fun _ => ?_) (fun c => absurd c i01)) | fail); all_goals (try (conv => whnf))
  refine And.intro (Ct_q (Ct_g _ (n_root (d := 51) _ _ _ _ _ _ hI)) (fun v w hv => ?_)) trivial
  obtain ⟨⟨x, rfl, h2⟩, hw⟩ := hv
  have hwb : Nat.ble 64 w.1 = true := lw_b hw
  repeat' ((conv => whnf); first | (refine And.intro (a := vq _ _) (by unfold vq; (try simp (disch := omega) only [Nat.reduceAdd, qc_i, qc_r, qc_n, qc_l, wd, nI_1, aI2, aI3, aI4, aI5, aI6, aI7, aI8, nI_clamp]); rw [nI_toInt (by omega)]; omega) ?_) | (refine And.intro (fun c => absurd c i10) (fun _ => ?_)) | (refine And.intro (fun _ => ?_) (fun c => absurd c i10)) | (refine And.intro (fun c => absurd rfl c) (fun _ => ?_)) | (refine And.intro (fun _ => ?_) (fun c => absurd rfl c)) | (refine And.intro (fun c => absurd c i01) (fun _ => ?_)) | (refine And.intro (fun _ => ?_) (fun c => absurd c i01)) | fail); all_goals (try (conv => whnf))
  rw [hwb]
  (conv => whnf)
  refine And.intro (Ct_q h2 (fun v' w' hv' => ?_)) trivial
  obtain ⟨rfl, A', L', I', J', rfl, hW⟩ := hv'
  repeat' ((conv => whnf); first | (refine And.intro (a := vq _ _) (by unfold vq; (try simp (disch := omega) only [Nat.reduceAdd, qc_i, qc_r, qc_n, qc_l, wd, nI_1, aI2, aI3, aI4, aI5, aI6, aI7, aI8, nI_clamp]); rw [nI_toInt (by omega)]; omega) ?_) | (refine And.intro (fun c => absurd c i10) (fun _ => ?_)) | (refine And.intro (fun _ => ?_) (fun c => absurd c i10)) | (refine And.intro (fun c => absurd rfl c) (fun _ => ?_)) | (refine And.intro (fun _ => ?_) (fun c => absurd rfl c)) | (refine And.intro (fun c => absurd c i01) (fun _ => ?_)) | (refine And.intro (fun _ => ?_) (fun c => absurd c i01)) | fail); all_goals (try (conv => whnf))
  refine am_go hK spL 300 ?_
  (conv => whnf)
  simp (disch := omega) only [Nat.reduceAdd, qc_i, qc_r, qc_n, qc_l, wd, nI_1, aI2, aI3, aI4, aI5, aI6, aI7, aI8, nI_clamp]
  exact hX A' L' I' J' hW
set_option maxHeartbeats 8000000 in
theorem lw_1 (hK : am_cl sc (Ct sc 60) 333 Q K) (ht : 8 * t + 8 ≤ sc.1) (hs : sc.1 ≤ 4096) (hI : Inv A I J r q n) (hX : ∀ A L I J, InvW A L I J → K 18 [some (.ref 0), some (.ref 1), some (.ref 64), some (.int (nI (8 * (t + 1))))] [] (wd A L I J) 120 6588) : K 339 [some (.ref 0), some (.ref 1), some (.ref 64), some (.int (nI (8 * t)))] [] (wd A L I J) 120 6588 := by
  refine am_go hK spL 300 ?_
  repeat' ((conv => whnf); first | (refine And.intro (a := vq _ _) (by unfold vq; (try simp (disch := omega) only [Nat.reduceAdd, qc_i, qc_r, qc_n, qc_l, wd, nI_1, aI2, aI3, aI4, aI5, aI6, aI7, aI8, nI_clamp]); rw [nI_toInt (by omega)]; omega) ?_) | (refine And.intro (fun c => absurd c i10) (fun _ => ?_)) | (refine And.intro (fun _ => ?_) (fun c => absurd c i10)) | (refine And.intro (fun c => absurd rfl c) (fun _ => ?_)) | (refine And.intro (fun _ => ?_) (fun c => absurd rfl c)) | (refine And.intro (fun c => absurd c i01) (fun _ => ?_)) | (refine And.intro (fun _ => ?_) (fun c => absurd c i01)) | fail); all_goals (try (conv => whnf))
  refine And.intro (Ct_q (Ct_g _ (n_ending (d := 51) _ _ _ _ _ _ hI)) (fun v w hv => ?_)) trivial
  obtain ⟨⟨x, rfl, h2⟩, hw⟩ := hv
  have hwb : Nat.ble 64 w.1 = true := lw_b hw
  repeat' ((conv => whnf); first | (refine And.intro (a := vq _ _) (by unfold vq; (try simp (disch := omega) only [Nat.reduceAdd, qc_i, qc_r, qc_n, qc_l, wd, nI_1, aI2, aI3, aI4, aI5, aI6, aI7, aI8, nI_clamp]); rw [nI_toInt (by omega)]; omega) ?_) | (refine And.intro (fun c => absurd c i10) (fun _ => ?_)) | (refine And.intro (fun _ => ?_) (fun c => absurd c i10)) | (refine And.intro (fun c => absurd rfl c) (fun _ => ?_)) | (refine And.intro (fun _ => ?_) (fun c => absurd rfl c)) | (refine And.intro (fun c => absurd c i01) (fun _ => ?_)) | (refine And.intro (fun _ => ?_) (fun c => absurd c i01)) | fail); all_goals (try (conv => whnf))
  rw [hwb]
  (conv => whnf)
  refine And.intro (Ct_q h2 (fun v' w' hv' => ?_)) trivial
  obtain ⟨rfl, A', L', I', J', rfl, hW⟩ := hv'
  repeat' ((conv => whnf); first | (refine And.intro (a := vq _ _) (by unfold vq; (try simp (disch := omega) only [Nat.reduceAdd, qc_i, qc_r, qc_n, qc_l, wd, nI_1, aI2, aI3, aI4, aI5, aI6, aI7, aI8, nI_clamp]); rw [nI_toInt (by omega)]; omega) ?_) | (refine And.intro (fun c => absurd c i10) (fun _ => ?_)) | (refine And.intro (fun _ => ?_) (fun c => absurd c i10)) | (refine And.intro (fun c => absurd rfl c) (fun _ => ?_)) | (refine And.intro (fun _ => ?_) (fun c => absurd rfl c)) | (refine And.intro (fun c => absurd c i01) (fun _ => ?_)) | (refine And.intro (fun _ => ?_) (fun c => absurd c i01)) | fail); all_goals (try (conv => whnf))
  refine am_go hK spL 300 ?_
  (conv => whnf)
  simp (disch := omega) only [Nat.reduceAdd, qc_i, qc_r, qc_n, qc_l, wd, nI_1, aI2, aI3, aI4, aI5, aI6, aI7, aI8, nI_clamp]
  exact hX A' L' I' J' hW
set_option maxHeartbeats 8000000 in
theorem lw_2 (hK : am_cl sc (Ct sc 60) 333 Q K) (ht : 8 * t + 8 ≤ sc.1) (hs : sc.1 ≤ 4096) (hI : Inv A I J r q n) (hX : ∀ A L I J, InvW A L I J → K 18 [some (.ref 0), some (.ref 1), some (.ref 64), some (.int (nI (8 * (t + 1))))] [] (wd A L I J) 120 6588) : K 414 [some (.ref 0), some (.ref 1), some (.ref 64), some (.int (nI (8 * t)))] [] (wd A L I J) 120 6588 := by
  refine am_go hK spL 300 ?_
  repeat' ((conv => whnf); first | (refine And.intro (a := vq _ _) (by unfold vq; (try simp (disch := omega) only [Nat.reduceAdd, qc_i, qc_r, qc_n, qc_l, wd, nI_1, aI2, aI3, aI4, aI5, aI6, aI7, aI8, nI_clamp]); rw [nI_toInt (by omega)]; omega) ?_) | (refine And.intro (fun c => absurd c i10) (fun _ => ?_)) | (refine And.intro (fun _ => ?_) (fun c => absurd c i10)) | (refine And.intro (fun c => absurd rfl c) (fun _ => ?_)) | (refine And.intro (fun _ => ?_) (fun c => absurd rfl c)) | (refine And.intro (fun c => absurd c i01) (fun _ => ?_)) | (refine And.intro (fun _ => ?_) (fun c => absurd c i01)) | fail); all_goals (try (conv => whnf))
  refine And.intro (Ct_q (Ct_g _ (n_ofRoot (d := 51) _ _ hI)) (fun v w hv => ?_)) trivial
  obtain ⟨⟨x, rfl, h2⟩, hw⟩ := hv
  have hwb : Nat.ble 64 w.1 = true := lw_b hw
  repeat' ((conv => whnf); first | (refine And.intro (a := vq _ _) (by unfold vq; (try simp (disch := omega) only [Nat.reduceAdd, qc_i, qc_r, qc_n, qc_l, wd, nI_1, aI2, aI3, aI4, aI5, aI6, aI7, aI8, nI_clamp]); rw [nI_toInt (by omega)]; omega) ?_) | (refine And.intro (fun c => absurd c i10) (fun _ => ?_)) | (refine And.intro (fun _ => ?_) (fun c => absurd c i10)) | (refine And.intro (fun c => absurd rfl c) (fun _ => ?_)) | (refine And.intro (fun _ => ?_) (fun c => absurd rfl c)) | (refine And.intro (fun c => absurd c i01) (fun _ => ?_)) | (refine And.intro (fun _ => ?_) (fun c => absurd c i01)) | fail); all_goals (try (conv => whnf))
  rw [hwb]
  (conv => whnf)
  refine And.intro (Ct_q h2 (fun v' w' hv' => ?_)) trivial
  obtain ⟨rfl, A', L', I', J', rfl, hW⟩ := hv'
  repeat' ((conv => whnf); first | (refine And.intro (a := vq _ _) (by unfold vq; (try simp (disch := omega) only [Nat.reduceAdd, qc_i, qc_r, qc_n, qc_l, wd, nI_1, aI2, aI3, aI4, aI5, aI6, aI7, aI8, nI_clamp]); rw [nI_toInt (by omega)]; omega) ?_) | (refine And.intro (fun c => absurd c i10) (fun _ => ?_)) | (refine And.intro (fun _ => ?_) (fun c => absurd c i10)) | (refine And.intro (fun c => absurd rfl c) (fun _ => ?_)) | (refine And.intro (fun _ => ?_) (fun c => absurd rfl c)) | (refine And.intro (fun c => absurd c i01) (fun _ => ?_)) | (refine And.intro (fun _ => ?_) (fun c => absurd c i01)) | fail); all_goals (try (conv => whnf))
  refine am_go hK spL 300 ?_
  (conv => whnf)
  simp (disch := omega) only [Nat.reduceAdd, qc_i, qc_r, qc_n, qc_l, wd, nI_1, aI2, aI3, aI4, aI5, aI6, aI7, aI8, nI_clamp]
  exact hX A' L' I' J' hW
set_option maxHeartbeats 8000000 in
theorem lw_3 (hK : am_cl sc (Ct sc 60) 333 Q K) (ht : 8 * t + 8 ≤ sc.1) (hs : sc.1 ≤ 4096) (hI : Inv A I J r q n) (hX : ∀ A L I J, InvW A L I J → K 18 [some (.ref 0), some (.ref 1), some (.ref 64), some (.int (nI (8 * (t + 1))))] [] (wd A L I J) 120 6588) : K 447 [some (.ref 0), some (.ref 1), some (.ref 64), some (.int (nI (8 * t)))] [] (wd A L I J) 120 6588 := by
  refine am_go hK spL 300 ?_
  repeat' ((conv => whnf); first | (refine And.intro (a := vq _ _) (by unfold vq; (try simp (disch := omega) only [Nat.reduceAdd, qc_i, qc_r, qc_n, qc_l, wd, nI_1, aI2, aI3, aI4, aI5, aI6, aI7, aI8, nI_clamp]); rw [nI_toInt (by omega)]; omega) ?_) | (refine And.intro (fun c => absurd c i10) (fun _ => ?_)) | (refine And.intro (fun _ => ?_) (fun c => absurd c i10)) | (refine And.intro (fun c => absurd rfl c) (fun _ => ?_)) | (refine And.intro (fun _ => ?_) (fun c => absurd rfl c)) | (refine And.intro (fun c => absurd c i01) (fun _ => ?_)) | (refine And.intro (fun _ => ?_) (fun c => absurd c i01)) | fail); all_goals (try (conv => whnf))
  refine And.intro (Ct_q (Ct_g _ (n_rule (d := 51) _ _ _ _ _ _ _ hI)) (fun v w hv => ?_)) trivial
  obtain ⟨⟨x, rfl, h2⟩, hw⟩ := hv
  have hwb : Nat.ble 64 w.1 = true := lw_b hw
  repeat' ((conv => whnf); first | (refine And.intro (a := vq _ _) (by unfold vq; (try simp (disch := omega) only [Nat.reduceAdd, qc_i, qc_r, qc_n, qc_l, wd, nI_1, aI2, aI3, aI4, aI5, aI6, aI7, aI8, nI_clamp]); rw [nI_toInt (by omega)]; omega) ?_) | (refine And.intro (fun c => absurd c i10) (fun _ => ?_)) | (refine And.intro (fun _ => ?_) (fun c => absurd c i10)) | (refine And.intro (fun c => absurd rfl c) (fun _ => ?_)) | (refine And.intro (fun _ => ?_) (fun c => absurd rfl c)) | (refine And.intro (fun c => absurd c i01) (fun _ => ?_)) | (refine And.intro (fun _ => ?_) (fun c => absurd c i01)) | fail); all_goals (try (conv => whnf))
  rw [hwb]
  (conv => whnf)
  refine And.intro (Ct_q h2 (fun v' w' hv' => ?_)) trivial
  obtain ⟨rfl, A', L', I', J', rfl, hW⟩ := hv'
  repeat' ((conv => whnf); first | (refine And.intro (a := vq _ _) (by unfold vq; (try simp (disch := omega) only [Nat.reduceAdd, qc_i, qc_r, qc_n, qc_l, wd, nI_1, aI2, aI3, aI4, aI5, aI6, aI7, aI8, nI_clamp]); rw [nI_toInt (by omega)]; omega) ?_) | (refine And.intro (fun c => absurd c i10) (fun _ => ?_)) | (refine And.intro (fun _ => ?_) (fun c => absurd c i10)) | (refine And.intro (fun c => absurd rfl c) (fun _ => ?_)) | (refine And.intro (fun _ => ?_) (fun c => absurd rfl c)) | (refine And.intro (fun c => absurd c i01) (fun _ => ?_)) | (refine And.intro (fun _ => ?_) (fun c => absurd c i01)) | fail); all_goals (try (conv => whnf))
  refine am_go hK spL 300 ?_
  (conv => whnf)
  simp (disch := omega) only [Nat.reduceAdd, qc_i, qc_r, qc_n, qc_l, wd, nI_1, aI2, aI3, aI4, aI5, aI6, aI7, aI8, nI_clamp]
  exact hX A' L' I' J' hW
set_option maxHeartbeats 8000000 in
theorem lw_4 (hK : am_cl sc (Ct sc 60) 333 Q K) (ht : 8 * t + 8 ≤ sc.1) (hs : sc.1 ≤ 4096) (hI : Inv A I J r q n) (hX : ∀ A L I J, InvW A L I J → K 18 [some (.ref 0), some (.ref 1), some (.ref 64), some (.int (nI (8 * (t + 1))))] [] (wd A L I J) 120 6588) : K 534 [some (.ref 0), some (.ref 1), some (.ref 64), some (.int (nI (8 * t)))] [] (wd A L I J) 120 6588 := by
  refine am_go hK spL 300 ?_
  repeat' ((conv => whnf); first | (refine And.intro (a := vq _ _) (by unfold vq; (try simp (disch := omega) only [Nat.reduceAdd, qc_i, qc_r, qc_n, qc_l, wd, nI_1, aI2, aI3, aI4, aI5, aI6, aI7, aI8, nI_clamp]); rw [nI_toInt (by omega)]; omega) ?_) | (refine And.intro (fun c => absurd c i10) (fun _ => ?_)) | (refine And.intro (fun _ => ?_) (fun c => absurd c i10)) | (refine And.intro (fun c => absurd rfl c) (fun _ => ?_)) | (refine And.intro (fun _ => ?_) (fun c => absurd rfl c)) | (refine And.intro (fun c => absurd c i01) (fun _ => ?_)) | (refine And.intro (fun _ => ?_) (fun c => absurd c i01)) | fail); all_goals (try (conv => whnf))
  refine And.intro (Ct_q (Ct_g _ (n_stand (d := 51) _ _ hI)) (fun v w hv => ?_)) trivial
  obtain ⟨⟨x, rfl, h2⟩, hw⟩ := hv
  have hwb : Nat.ble 64 w.1 = true := lw_b hw
  repeat' ((conv => whnf); first | (refine And.intro (a := vq _ _) (by unfold vq; (try simp (disch := omega) only [Nat.reduceAdd, qc_i, qc_r, qc_n, qc_l, wd, nI_1, aI2, aI3, aI4, aI5, aI6, aI7, aI8, nI_clamp]); rw [nI_toInt (by omega)]; omega) ?_) | (refine And.intro (fun c => absurd c i10) (fun _ => ?_)) | (refine And.intro (fun _ => ?_) (fun c => absurd c i10)) | (refine And.intro (fun c => absurd rfl c) (fun _ => ?_)) | (refine And.intro (fun _ => ?_) (fun c => absurd rfl c)) | (refine And.intro (fun c => absurd c i01) (fun _ => ?_)) | (refine And.intro (fun _ => ?_) (fun c => absurd c i01)) | fail); all_goals (try (conv => whnf))
  rw [hwb]
  (conv => whnf)
  refine And.intro (Ct_q h2 (fun v' w' hv' => ?_)) trivial
  obtain ⟨rfl, A', L', I', J', rfl, hW⟩ := hv'
  repeat' ((conv => whnf); first | (refine And.intro (a := vq _ _) (by unfold vq; (try simp (disch := omega) only [Nat.reduceAdd, qc_i, qc_r, qc_n, qc_l, wd, nI_1, aI2, aI3, aI4, aI5, aI6, aI7, aI8, nI_clamp]); rw [nI_toInt (by omega)]; omega) ?_) | (refine And.intro (fun c => absurd c i10) (fun _ => ?_)) | (refine And.intro (fun _ => ?_) (fun c => absurd c i10)) | (refine And.intro (fun c => absurd rfl c) (fun _ => ?_)) | (refine And.intro (fun _ => ?_) (fun c => absurd rfl c)) | (refine And.intro (fun c => absurd c i01) (fun _ => ?_)) | (refine And.intro (fun _ => ?_) (fun c => absurd c i01)) | fail); all_goals (try (conv => whnf))
  refine am_go hK spL 300 ?_
  (conv => whnf)
  simp (disch := omega) only [Nat.reduceAdd, qc_i, qc_r, qc_n, qc_l, wd, nI_1, aI2, aI3, aI4, aI5, aI6, aI7, aI8, nI_clamp]
  exact hX A' L' I' J' hW
set_option maxHeartbeats 8000000 in
theorem lw_5 (hK : am_cl sc (Ct sc 60) 333 Q K) (ht : 8 * t + 8 ≤ sc.1) (hs : sc.1 ≤ 4096) (hI : Inv A I J r q n) (hX : ∀ A L I J, InvW A L I J → K 18 [some (.ref 0), some (.ref 1), some (.ref 64), some (.int (nI (8 * (t + 1))))] [] (wd A L I J) 120 6588) : K 567 [some (.ref 0), some (.ref 1), some (.ref 64), some (.int (nI (8 * t)))] [] (wd A L I J) 120 6588 := by
  refine am_go hK spL 300 ?_
  repeat' ((conv => whnf); first | (refine And.intro (a := vq _ _) (by unfold vq; (try simp (disch := omega) only [Nat.reduceAdd, qc_i, qc_r, qc_n, qc_l, wd, nI_1, aI2, aI3, aI4, aI5, aI6, aI7, aI8, nI_clamp]); rw [nI_toInt (by omega)]; omega) ?_) | (refine And.intro (fun c => absurd c i10) (fun _ => ?_)) | (refine And.intro (fun _ => ?_) (fun c => absurd c i10)) | (refine And.intro (fun c => absurd rfl c) (fun _ => ?_)) | (refine And.intro (fun _ => ?_) (fun c => absurd rfl c)) | (refine And.intro (fun c => absurd c i01) (fun _ => ?_)) | (refine And.intro (fun _ => ?_) (fun c => absurd c i01)) | fail); all_goals (try (conv => whnf))
  refine And.intro (Ct_q (Ct_g _ (n_may (d := 51) _ _ hI)) (fun v w hv => ?_)) trivial
  obtain ⟨⟨x, rfl, h2⟩, hw⟩ := hv
  have hwb : Nat.ble 64 w.1 = true := lw_b hw
  repeat' ((conv => whnf); first | (refine And.intro (a := vq _ _) (by unfold vq; (try simp (disch := omega) only [Nat.reduceAdd, qc_i, qc_r, qc_n, qc_l, wd, nI_1, aI2, aI3, aI4, aI5, aI6, aI7, aI8, nI_clamp]); rw [nI_toInt (by omega)]; omega) ?_) | (refine And.intro (fun c => absurd c i10) (fun _ => ?_)) | (refine And.intro (fun _ => ?_) (fun c => absurd c i10)) | (refine And.intro (fun c => absurd rfl c) (fun _ => ?_)) | (refine And.intro (fun _ => ?_) (fun c => absurd rfl c)) | (refine And.intro (fun c => absurd c i01) (fun _ => ?_)) | (refine And.intro (fun _ => ?_) (fun c => absurd c i01)) | fail); all_goals (try (conv => whnf))
  rw [hwb]
  (conv => whnf)
  refine And.intro (Ct_q h2 (fun v' w' hv' => ?_)) trivial
  obtain ⟨rfl, A', L', I', J', rfl, hW⟩ := hv'
  repeat' ((conv => whnf); first | (refine And.intro (a := vq _ _) (by unfold vq; (try simp (disch := omega) only [Nat.reduceAdd, qc_i, qc_r, qc_n, qc_l, wd, nI_1, aI2, aI3, aI4, aI5, aI6, aI7, aI8, nI_clamp]); rw [nI_toInt (by omega)]; omega) ?_) | (refine And.intro (fun c => absurd c i10) (fun _ => ?_)) | (refine And.intro (fun _ => ?_) (fun c => absurd c i10)) | (refine And.intro (fun c => absurd rfl c) (fun _ => ?_)) | (refine And.intro (fun _ => ?_) (fun c => absurd rfl c)) | (refine And.intro (fun c => absurd c i01) (fun _ => ?_)) | (refine And.intro (fun _ => ?_) (fun c => absurd c i01)) | fail); all_goals (try (conv => whnf))
  refine am_go hK spL 300 ?_
  (conv => whnf)
  simp (disch := omega) only [Nat.reduceAdd, qc_i, qc_r, qc_n, qc_l, wd, nI_1, aI2, aI3, aI4, aI5, aI6, aI7, aI8, nI_clamp]
  exact hX A' L' I' J' hW
set_option maxHeartbeats 8000000 in
theorem lw_6 (hK : am_cl sc (Ct sc 60) 333 Q K) (ht : 8 * t + 8 ≤ sc.1) (hs : sc.1 ≤ 4096) (hI : Inv A I J r q n) (hX : ∀ A L I J, InvW A L I J → K 18 [some (.ref 0), some (.ref 1), some (.ref 64), some (.int (nI (8 * (t + 1))))] [] (wd A L I J) 120 6588) : K 600 [some (.ref 0), some (.ref 1), some (.ref 64), some (.int (nI (8 * t)))] [] (wd A L I J) 120 6588 := by
  refine am_go hK spL 300 ?_
  repeat' ((conv => whnf); first | (refine And.intro (a := vq _ _) (by unfold vq; (try simp (disch := omega) only [Nat.reduceAdd, qc_i, qc_r, qc_n, qc_l, wd, nI_1, aI2, aI3, aI4, aI5, aI6, aI7, aI8, nI_clamp]); rw [nI_toInt (by omega)]; omega) ?_) | (refine And.intro (fun c => absurd c i10) (fun _ => ?_)) | (refine And.intro (fun _ => ?_) (fun c => absurd c i10)) | (refine And.intro (fun c => absurd rfl c) (fun _ => ?_)) | (refine And.intro (fun _ => ?_) (fun c => absurd rfl c)) | (refine And.intro (fun c => absurd c i01) (fun _ => ?_)) | (refine And.intro (fun _ => ?_) (fun c => absurd c i01)) | fail); all_goals (try (conv => whnf))
  refine And.intro (Ct_q (Ct_g _ (n_why (d := 51) _ _ hI)) (fun v w hv => ?_)) trivial
  obtain ⟨⟨x, rfl, h2⟩, hw⟩ := hv
  have hwb : Nat.ble 64 w.1 = true := lw_b hw
  repeat' ((conv => whnf); first | (refine And.intro (a := vq _ _) (by unfold vq; (try simp (disch := omega) only [Nat.reduceAdd, qc_i, qc_r, qc_n, qc_l, wd, nI_1, aI2, aI3, aI4, aI5, aI6, aI7, aI8, nI_clamp]); rw [nI_toInt (by omega)]; omega) ?_) | (refine And.intro (fun c => absurd c i10) (fun _ => ?_)) | (refine And.intro (fun _ => ?_) (fun c => absurd c i10)) | (refine And.intro (fun c => absurd rfl c) (fun _ => ?_)) | (refine And.intro (fun _ => ?_) (fun c => absurd rfl c)) | (refine And.intro (fun c => absurd c i01) (fun _ => ?_)) | (refine And.intro (fun _ => ?_) (fun c => absurd c i01)) | fail); all_goals (try (conv => whnf))
  rw [hwb]
  (conv => whnf)
  refine And.intro (Ct_q h2 (fun v' w' hv' => ?_)) trivial
  obtain ⟨rfl, A', L', I', J', rfl, hW⟩ := hv'
  repeat' ((conv => whnf); first | (refine And.intro (a := vq _ _) (by unfold vq; (try simp (disch := omega) only [Nat.reduceAdd, qc_i, qc_r, qc_n, qc_l, wd, nI_1, aI2, aI3, aI4, aI5, aI6, aI7, aI8, nI_clamp]); rw [nI_toInt (by omega)]; omega) ?_) | (refine And.intro (fun c => absurd c i10) (fun _ => ?_)) | (refine And.intro (fun _ => ?_) (fun c => absurd c i10)) | (refine And.intro (fun c => absurd rfl c) (fun _ => ?_)) | (refine And.intro (fun _ => ?_) (fun c => absurd rfl c)) | (refine And.intro (fun c => absurd c i01) (fun _ => ?_)) | (refine And.intro (fun _ => ?_) (fun c => absurd c i01)) | fail); all_goals (try (conv => whnf))
  refine am_go hK spL 300 ?_
  (conv => whnf)
  simp (disch := omega) only [Nat.reduceAdd, qc_i, qc_r, qc_n, qc_l, wd, nI_1, aI2, aI3, aI4, aI5, aI6, aI7, aI8, nI_clamp]
  exact hX A' L' I' J' hW
set_option maxHeartbeats 8000000 in
theorem lw_7 (hK : am_cl sc (Ct sc 60) 333 Q K) (ht : 8 * t + 8 ≤ sc.1) (hs : sc.1 ≤ 4096) (hI : Inv A I J r q n) (hX : ∀ A L I J, InvW A L I J → K 18 [some (.ref 0), some (.ref 1), some (.ref 64), some (.int (nI (8 * (t + 1))))] [] (wd A L I J) 120 6588) : K 633 [some (.ref 0), some (.ref 1), some (.ref 64), some (.int (nI (8 * t)))] [] (wd A L I J) 120 6588 := by
  refine am_go hK spL 300 ?_
  repeat' ((conv => whnf); first | (refine And.intro (a := vq _ _) (by unfold vq; (try simp (disch := omega) only [Nat.reduceAdd, qc_i, qc_r, qc_n, qc_l, wd, nI_1, aI2, aI3, aI4, aI5, aI6, aI7, aI8, nI_clamp]); rw [nI_toInt (by omega)]; omega) ?_) | (refine And.intro (fun c => absurd c i10) (fun _ => ?_)) | (refine And.intro (fun _ => ?_) (fun c => absurd c i10)) | (refine And.intro (fun c => absurd rfl c) (fun _ => ?_)) | (refine And.intro (fun _ => ?_) (fun c => absurd rfl c)) | (refine And.intro (fun c => absurd c i01) (fun _ => ?_)) | (refine And.intro (fun _ => ?_) (fun c => absurd c i01)) | fail); all_goals (try (conv => whnf))
  refine And.intro (Ct_q (Ct_g _ (n_ways (d := 51) _ _ _ _ hI)) (fun v w hv => ?_)) trivial
  obtain ⟨⟨x, rfl, h2⟩, hw⟩ := hv
  have hwb : Nat.ble 64 w.1 = true := lw_b hw
  repeat' ((conv => whnf); first | (refine And.intro (a := vq _ _) (by unfold vq; (try simp (disch := omega) only [Nat.reduceAdd, qc_i, qc_r, qc_n, qc_l, wd, nI_1, aI2, aI3, aI4, aI5, aI6, aI7, aI8, nI_clamp]); rw [nI_toInt (by omega)]; omega) ?_) | (refine And.intro (fun c => absurd c i10) (fun _ => ?_)) | (refine And.intro (fun _ => ?_) (fun c => absurd c i10)) | (refine And.intro (fun c => absurd rfl c) (fun _ => ?_)) | (refine And.intro (fun _ => ?_) (fun c => absurd rfl c)) | (refine And.intro (fun c => absurd c i01) (fun _ => ?_)) | (refine And.intro (fun _ => ?_) (fun c => absurd c i01)) | fail); all_goals (try (conv => whnf))
  rw [hwb]
  (conv => whnf)
  refine And.intro (Ct_q h2 (fun v' w' hv' => ?_)) trivial
  obtain ⟨rfl, A', L', I', J', rfl, hW⟩ := hv'
  repeat' ((conv => whnf); first | (refine And.intro (a := vq _ _) (by unfold vq; (try simp (disch := omega) only [Nat.reduceAdd, qc_i, qc_r, qc_n, qc_l, wd, nI_1, aI2, aI3, aI4, aI5, aI6, aI7, aI8, nI_clamp]); rw [nI_toInt (by omega)]; omega) ?_) | (refine And.intro (fun c => absurd c i10) (fun _ => ?_)) | (refine And.intro (fun _ => ?_) (fun c => absurd c i10)) | (refine And.intro (fun c => absurd rfl c) (fun _ => ?_)) | (refine And.intro (fun _ => ?_) (fun c => absurd rfl c)) | (refine And.intro (fun c => absurd c i01) (fun _ => ?_)) | (refine And.intro (fun _ => ?_) (fun c => absurd c i01)) | fail); all_goals (try (conv => whnf))
  refine am_go hK spL 300 ?_
  (conv => whnf)
  simp (disch := omega) only [Nat.reduceAdd, qc_i, qc_r, qc_n, qc_l, wd, nI_1, aI2, aI3, aI4, aI5, aI6, aI7, aI8, nI_clamp]
  exact hX A' L' I' J' hW
set_option maxHeartbeats 8000000 in
theorem lw_8 (hK : am_cl sc (Ct sc 60) 333 Q K) (ht : 8 * t + 8 ≤ sc.1) (hs : sc.1 ≤ 4096) (hI : Inv A I J r q n) (hX : ∀ A L I J, InvW A L I J → K 18 [some (.ref 0), some (.ref 1), some (.ref 64), some (.int (nI (8 * (t + 1))))] [] (wd A L I J) 120 6588) : K 686 [some (.ref 0), some (.ref 1), some (.ref 64), some (.int (nI (8 * t)))] [] (wd A L I J) 120 6588 := by
  refine am_go hK spL 300 ?_
  repeat' ((conv => whnf); first | (refine And.intro (a := vq _ _) (by unfold vq; (try simp (disch := omega) only [Nat.reduceAdd, qc_i, qc_r, qc_n, qc_l, wd, nI_1, aI2, aI3, aI4, aI5, aI6, aI7, aI8, nI_clamp]); rw [nI_toInt (by omega)]; omega) ?_) | (refine And.intro (fun c => absurd c i10) (fun _ => ?_)) | (refine And.intro (fun _ => ?_) (fun c => absurd c i10)) | (refine And.intro (fun c => absurd rfl c) (fun _ => ?_)) | (refine And.intro (fun _ => ?_) (fun c => absurd rfl c)) | (refine And.intro (fun c => absurd c i01) (fun _ => ?_)) | (refine And.intro (fun _ => ?_) (fun c => absurd c i01)) | fail); all_goals (try (conv => whnf))
  refine And.intro (Ct_q (Ct_g _ (n_parse (d := 51) _ _ _ _ _ hI)) (fun v w hv => ?_)) trivial
  obtain ⟨⟨x, rfl, h2⟩, hw⟩ := hv
  have hwb : Nat.ble 64 w.1 = true := lw_b hw
  repeat' ((conv => whnf); first | (refine And.intro (a := vq _ _) (by unfold vq; (try simp (disch := omega) only [Nat.reduceAdd, qc_i, qc_r, qc_n, qc_l, wd, nI_1, aI2, aI3, aI4, aI5, aI6, aI7, aI8, nI_clamp]); rw [nI_toInt (by omega)]; omega) ?_) | (refine And.intro (fun c => absurd c i10) (fun _ => ?_)) | (refine And.intro (fun _ => ?_) (fun c => absurd c i10)) | (refine And.intro (fun c => absurd rfl c) (fun _ => ?_)) | (refine And.intro (fun _ => ?_) (fun c => absurd rfl c)) | (refine And.intro (fun c => absurd c i01) (fun _ => ?_)) | (refine And.intro (fun _ => ?_) (fun c => absurd c i01)) | fail); all_goals (try (conv => whnf))
  rw [hwb]
  (conv => whnf)
  refine And.intro (Ct_q h2 (fun v' w' hv' => ?_)) trivial
  obtain ⟨rfl, A', L', I', J', rfl, hW⟩ := hv'
  repeat' ((conv => whnf); first | (refine And.intro (a := vq _ _) (by unfold vq; (try simp (disch := omega) only [Nat.reduceAdd, qc_i, qc_r, qc_n, qc_l, wd, nI_1, aI2, aI3, aI4, aI5, aI6, aI7, aI8, nI_clamp]); rw [nI_toInt (by omega)]; omega) ?_) | (refine And.intro (fun c => absurd c i10) (fun _ => ?_)) | (refine And.intro (fun _ => ?_) (fun c => absurd c i10)) | (refine And.intro (fun c => absurd rfl c) (fun _ => ?_)) | (refine And.intro (fun _ => ?_) (fun c => absurd rfl c)) | (refine And.intro (fun c => absurd c i01) (fun _ => ?_)) | (refine And.intro (fun _ => ?_) (fun c => absurd c i01)) | fail); all_goals (try (conv => whnf))
  refine am_go hK spL 300 ?_
  (conv => whnf)
  simp (disch := omega) only [Nat.reduceAdd, qc_i, qc_r, qc_n, qc_l, wd, nI_1, aI2, aI3, aI4, aI5, aI6, aI7, aI8, nI_clamp]
  exact hX A' L' I' J' hW
set_option maxHeartbeats 8000000 in
theorem lw_9 (hK : am_cl sc (Ct sc 60) 333 Q K) (ht : 8 * t + 8 ≤ sc.1) (hs : sc.1 ≤ 4096) (hI : Inv A I J r q n) (hX : ∀ A L I J, InvW A L I J → K 18 [some (.ref 0), some (.ref 1), some (.ref 64), some (.int (nI (8 * (t + 1))))] [] (wd A L I J) 120 6588) : K 749 [some (.ref 0), some (.ref 1), some (.ref 64), some (.int (nI (8 * t)))] [] (wd A L I J) 120 6588 := by
  refine am_go hK spL 300 ?_
  repeat' ((conv => whnf); first | (refine And.intro (a := vq _ _) (by unfold vq; (try simp (disch := omega) only [Nat.reduceAdd, qc_i, qc_r, qc_n, qc_l, wd, nI_1, aI2, aI3, aI4, aI5, aI6, aI7, aI8, nI_clamp]); rw [nI_toInt (by omega)]; omega) ?_) | (refine And.intro (fun c => absurd c i10) (fun _ => ?_)) | (refine And.intro (fun _ => ?_) (fun c => absurd c i10)) | (refine And.intro (fun c => absurd rfl c) (fun _ => ?_)) | (refine And.intro (fun _ => ?_) (fun c => absurd rfl c)) | (refine And.intro (fun c => absurd c i01) (fun _ => ?_)) | (refine And.intro (fun _ => ?_) (fun c => absurd c i01)) | fail); all_goals (try (conv => whnf))
  refine And.intro (Ct_q (Ct_g _ (n_two (d := 20) _ hI)) (fun v w hv => ?_)) trivial
  obtain ⟨⟨x, rfl, h2⟩, hw⟩ := hv
  have hwb : Nat.ble 64 w.1 = true := lw_b hw
  repeat' ((conv => whnf); first | (refine And.intro (a := vq _ _) (by unfold vq; (try simp (disch := omega) only [Nat.reduceAdd, qc_i, qc_r, qc_n, qc_l, wd, nI_1, aI2, aI3, aI4, aI5, aI6, aI7, aI8, nI_clamp]); rw [nI_toInt (by omega)]; omega) ?_) | (refine And.intro (fun c => absurd c i10) (fun _ => ?_)) | (refine And.intro (fun _ => ?_) (fun c => absurd c i10)) | (refine And.intro (fun c => absurd rfl c) (fun _ => ?_)) | (refine And.intro (fun _ => ?_) (fun c => absurd rfl c)) | (refine And.intro (fun c => absurd c i01) (fun _ => ?_)) | (refine And.intro (fun _ => ?_) (fun c => absurd c i01)) | fail); all_goals (try (conv => whnf))
  rw [hwb]
  (conv => whnf)
  refine And.intro (Ct_q h2 (fun v' w' hv' => ?_)) trivial
  obtain ⟨rfl, A', L', I', J', rfl, hW⟩ := hv'
  repeat' ((conv => whnf); first | (refine And.intro (a := vq _ _) (by unfold vq; (try simp (disch := omega) only [Nat.reduceAdd, qc_i, qc_r, qc_n, qc_l, wd, nI_1, aI2, aI3, aI4, aI5, aI6, aI7, aI8, nI_clamp]); rw [nI_toInt (by omega)]; omega) ?_) | (refine And.intro (fun c => absurd c i10) (fun _ => ?_)) | (refine And.intro (fun _ => ?_) (fun c => absurd c i10)) | (refine And.intro (fun c => absurd rfl c) (fun _ => ?_)) | (refine And.intro (fun _ => ?_) (fun c => absurd rfl c)) | (refine And.intro (fun c => absurd c i01) (fun _ => ?_)) | (refine And.intro (fun _ => ?_) (fun c => absurd c i01)) | fail); all_goals (try (conv => whnf))
  refine am_go hK spL 300 ?_
  (conv => whnf)
  simp (disch := omega) only [Nat.reduceAdd, qc_i, qc_r, qc_n, qc_l, wd, nI_1, aI2, aI3, aI4, aI5, aI6, aI7, aI8, nI_clamp]
  exact hX A' L' I' J' hW
set_option maxHeartbeats 8000000 in
theorem lw_10 (hK : am_cl sc (Ct sc 60) 333 Q K) (ht : 8 * t + 8 ≤ sc.1) (hs : sc.1 ≤ 4096) (hI : Inv A I J r q n) (hX : ∀ A L I J, InvW A L I J → K 18 [some (.ref 0), some (.ref 1), some (.ref 64), some (.int (nI (8 * (t + 1))))] [] (wd A L I J) 120 6588) : K 772 [some (.ref 0), some (.ref 1), some (.ref 64), some (.int (nI (8 * t)))] [] (wd A L I J) 120 6588 := by
  refine am_go hK spL 300 ?_
  repeat' ((conv => whnf); first | (refine And.intro (a := vq _ _) (by unfold vq; (try simp (disch := omega) only [Nat.reduceAdd, qc_i, qc_r, qc_n, qc_l, wd, nI_1, aI2, aI3, aI4, aI5, aI6, aI7, aI8, nI_clamp]); rw [nI_toInt (by omega)]; omega) ?_) | (refine And.intro (fun c => absurd c i10) (fun _ => ?_)) | (refine And.intro (fun _ => ?_) (fun c => absurd c i10)) | (refine And.intro (fun c => absurd rfl c) (fun _ => ?_)) | (refine And.intro (fun _ => ?_) (fun c => absurd rfl c)) | (refine And.intro (fun c => absurd c i01) (fun _ => ?_)) | (refine And.intro (fun _ => ?_) (fun c => absurd c i01)) | fail); all_goals (try (conv => whnf))
  refine And.intro (Ct_q (Ct_g _ (n_mean (d := 51) _ _ _ _ hI)) (fun v w hv => ?_)) trivial
  obtain ⟨⟨x, rfl, h2⟩, hw⟩ := hv
  have hwb : Nat.ble 64 w.1 = true := lw_b hw
  repeat' ((conv => whnf); first | (refine And.intro (a := vq _ _) (by unfold vq; (try simp (disch := omega) only [Nat.reduceAdd, qc_i, qc_r, qc_n, qc_l, wd, nI_1, aI2, aI3, aI4, aI5, aI6, aI7, aI8, nI_clamp]); rw [nI_toInt (by omega)]; omega) ?_) | (refine And.intro (fun c => absurd c i10) (fun _ => ?_)) | (refine And.intro (fun _ => ?_) (fun c => absurd c i10)) | (refine And.intro (fun c => absurd rfl c) (fun _ => ?_)) | (refine And.intro (fun _ => ?_) (fun c => absurd rfl c)) | (refine And.intro (fun c => absurd c i01) (fun _ => ?_)) | (refine And.intro (fun _ => ?_) (fun c => absurd c i01)) | fail); all_goals (try (conv => whnf))
  rw [hwb]
  (conv => whnf)
  refine And.intro (Ct_q h2 (fun v' w' hv' => ?_)) trivial
  obtain ⟨rfl, A', L', I', J', rfl, hW⟩ := hv'
  repeat' ((conv => whnf); first | (refine And.intro (a := vq _ _) (by unfold vq; (try simp (disch := omega) only [Nat.reduceAdd, qc_i, qc_r, qc_n, qc_l, wd, nI_1, aI2, aI3, aI4, aI5, aI6, aI7, aI8, nI_clamp]); rw [nI_toInt (by omega)]; omega) ?_) | (refine And.intro (fun c => absurd c i10) (fun _ => ?_)) | (refine And.intro (fun _ => ?_) (fun c => absurd c i10)) | (refine And.intro (fun c => absurd rfl c) (fun _ => ?_)) | (refine And.intro (fun _ => ?_) (fun c => absurd rfl c)) | (refine And.intro (fun c => absurd c i01) (fun _ => ?_)) | (refine And.intro (fun _ => ?_) (fun c => absurd c i01)) | fail); all_goals (try (conv => whnf))
  refine am_go hK spL 300 ?_
  (conv => whnf)
  simp (disch := omega) only [Nat.reduceAdd, qc_i, qc_r, qc_n, qc_l, wd, nI_1, aI2, aI3, aI4, aI5, aI6, aI7, aI8, nI_clamp]
  exact hX A' L' I' J' hW
set_option maxHeartbeats 8000000 in
theorem lw_11 (hK : am_cl sc (Ct sc 60) 333 Q K) (ht : 8 * t + 8 ≤ sc.1) (hs : sc.1 ≤ 4096) (hI : Inv A I J r q n) (hX : ∀ A L I J, InvW A L I J → K 18 [some (.ref 0), some (.ref 1), some (.ref 64), some (.int (nI (8 * (t + 1))))] [] (wd A L I J) 120 6588) : K 825 [some (.ref 0), some (.ref 1), some (.ref 64), some (.int (nI (8 * t)))] [] (wd A L I J) 120 6588 := by
  refine am_go hK spL 300 ?_
  repeat' ((conv => whnf); first | (refine And.intro (a := vq _ _) (by unfold vq; (try simp (disch := omega) only [Nat.reduceAdd, qc_i, qc_r, qc_n, qc_l, wd, nI_1, aI2, aI3, aI4, aI5, aI6, aI7, aI8, nI_clamp]); rw [nI_toInt (by omega)]; omega) ?_) | (refine And.intro (fun c => absurd c i10) (fun _ => ?_)) | (refine And.intro (fun _ => ?_) (fun c => absurd c i10)) | (refine And.intro (fun c => absurd rfl c) (fun _ => ?_)) | (refine And.intro (fun _ => ?_) (fun c => absurd rfl c)) | (refine And.intro (fun c => absurd c i01) (fun _ => ?_)) | (refine And.intro (fun _ => ?_) (fun c => absurd c i01)) | fail); all_goals (try (conv => whnf))
  refine And.intro (Ct_q (Ct_g _ (n_sentence (d := 51) _ _ _ _ hI)) (fun v w hv => ?_)) trivial
  obtain ⟨⟨x, rfl, h2⟩, hw⟩ := hv
  have hwb : Nat.ble 64 w.1 = true := lw_b hw
  repeat' ((conv => whnf); first | (refine And.intro (a := vq _ _) (by unfold vq; (try simp (disch := omega) only [Nat.reduceAdd, qc_i, qc_r, qc_n, qc_l, wd, nI_1, aI2, aI3, aI4, aI5, aI6, aI7, aI8, nI_clamp]); rw [nI_toInt (by omega)]; omega) ?_) | (refine And.intro (fun c => absurd c i10) (fun _ => ?_)) | (refine And.intro (fun _ => ?_) (fun c => absurd c i10)) | (refine And.intro (fun c => absurd rfl c) (fun _ => ?_)) | (refine And.intro (fun _ => ?_) (fun c => absurd rfl c)) | (refine And.intro (fun c => absurd c i01) (fun _ => ?_)) | (refine And.intro (fun _ => ?_) (fun c => absurd c i01)) | fail); all_goals (try (conv => whnf))
  rw [hwb]
  (conv => whnf)
  refine And.intro (Ct_q h2 (fun v' w' hv' => ?_)) trivial
  obtain ⟨rfl, A', L', I', J', rfl, hW⟩ := hv'
  repeat' ((conv => whnf); first | (refine And.intro (a := vq _ _) (by unfold vq; (try simp (disch := omega) only [Nat.reduceAdd, qc_i, qc_r, qc_n, qc_l, wd, nI_1, aI2, aI3, aI4, aI5, aI6, aI7, aI8, nI_clamp]); rw [nI_toInt (by omega)]; omega) ?_) | (refine And.intro (fun c => absurd c i10) (fun _ => ?_)) | (refine And.intro (fun _ => ?_) (fun c => absurd c i10)) | (refine And.intro (fun c => absurd rfl c) (fun _ => ?_)) | (refine And.intro (fun _ => ?_) (fun c => absurd rfl c)) | (refine And.intro (fun c => absurd c i01) (fun _ => ?_)) | (refine And.intro (fun _ => ?_) (fun c => absurd c i01)) | fail); all_goals (try (conv => whnf))
  refine am_go hK spL 300 ?_
  (conv => whnf)
  simp (disch := omega) only [Nat.reduceAdd, qc_i, qc_r, qc_n, qc_l, wd, nI_1, aI2, aI3, aI4, aI5, aI6, aI7, aI8, nI_clamp]
  exact hX A' L' I' J' hW
set_option maxHeartbeats 8000000 in
theorem lw_12 (hK : am_cl sc (Ct sc 60) 333 Q K) (ht : 8 * t + 8 ≤ sc.1) (hs : sc.1 ≤ 4096) (hI : Inv A I J r q n) (hX : ∀ A L I J, InvW A L I J → K 18 [some (.ref 0), some (.ref 1), some (.ref 64), some (.int (nI (8 * (t + 1))))] [] (wd A L I J) 120 6588) : K 878 [some (.ref 0), some (.ref 1), some (.ref 64), some (.int (nI (8 * t)))] [] (wd A L I J) 120 6588 := by
  refine am_go hK spL 300 ?_
  repeat' ((conv => whnf); first | (refine And.intro (a := vq _ _) (by unfold vq; (try simp (disch := omega) only [Nat.reduceAdd, qc_i, qc_r, qc_n, qc_l, wd, nI_1, aI2, aI3, aI4, aI5, aI6, aI7, aI8, nI_clamp]); rw [nI_toInt (by omega)]; omega) ?_) | (refine And.intro (fun c => absurd c i10) (fun _ => ?_)) | (refine And.intro (fun _ => ?_) (fun c => absurd c i10)) | (refine And.intro (fun c => absurd rfl c) (fun _ => ?_)) | (refine And.intro (fun _ => ?_) (fun c => absurd rfl c)) | (refine And.intro (fun c => absurd c i01) (fun _ => ?_)) | (refine And.intro (fun _ => ?_) (fun c => absurd c i01)) | fail); all_goals (try (conv => whnf))
  refine And.intro (Ct_q (Ct_g _ (n_world (d := 51) _ _ hI)) (fun v w hv => ?_)) trivial
  obtain ⟨⟨x, rfl, h2⟩, hw⟩ := hv
  have hwb : Nat.ble 64 w.1 = true := lw_b hw
  repeat' ((conv => whnf); first | (refine And.intro (a := vq _ _) (by unfold vq; (try simp (disch := omega) only [Nat.reduceAdd, qc_i, qc_r, qc_n, qc_l, wd, nI_1, aI2, aI3, aI4, aI5, aI6, aI7, aI8, nI_clamp]); rw [nI_toInt (by omega)]; omega) ?_) | (refine And.intro (fun c => absurd c i10) (fun _ => ?_)) | (refine And.intro (fun _ => ?_) (fun c => absurd c i10)) | (refine And.intro (fun c => absurd rfl c) (fun _ => ?_)) | (refine And.intro (fun _ => ?_) (fun c => absurd rfl c)) | (refine And.intro (fun c => absurd c i01) (fun _ => ?_)) | (refine And.intro (fun _ => ?_) (fun c => absurd c i01)) | fail); all_goals (try (conv => whnf))
  rw [hwb]
  (conv => whnf)
  refine And.intro (Ct_q h2 (fun v' w' hv' => ?_)) trivial
  obtain ⟨rfl, A', L', I', J', rfl, hW⟩ := hv'
  repeat' ((conv => whnf); first | (refine And.intro (a := vq _ _) (by unfold vq; (try simp (disch := omega) only [Nat.reduceAdd, qc_i, qc_r, qc_n, qc_l, wd, nI_1, aI2, aI3, aI4, aI5, aI6, aI7, aI8, nI_clamp]); rw [nI_toInt (by omega)]; omega) ?_) | (refine And.intro (fun c => absurd c i10) (fun _ => ?_)) | (refine And.intro (fun _ => ?_) (fun c => absurd c i10)) | (refine And.intro (fun c => absurd rfl c) (fun _ => ?_)) | (refine And.intro (fun _ => ?_) (fun c => absurd rfl c)) | (refine And.intro (fun c => absurd c i01) (fun _ => ?_)) | (refine And.intro (fun _ => ?_) (fun c => absurd c i01)) | fail); all_goals (try (conv => whnf))
  refine am_go hK spL 300 ?_
  (conv => whnf)
  simp (disch := omega) only [Nat.reduceAdd, qc_i, qc_r, qc_n, qc_l, wd, nI_1, aI2, aI3, aI4, aI5, aI6, aI7, aI8, nI_clamp]
  exact hX A' L' I' J' hW
set_option maxHeartbeats 8000000 in
theorem lw_13 (hK : am_cl sc (Ct sc 60) 333 Q K) (ht : 8 * t + 8 ≤ sc.1) (hs : sc.1 ≤ 4096) (hI : Inv A I J r q n) (hX : ∀ A L I J, InvW A L I J → K 18 [some (.ref 0), some (.ref 1), some (.ref 64), some (.int (nI (8 * (t + 1))))] [] (wd A L I J) 120 6588) : K 911 [some (.ref 0), some (.ref 1), some (.ref 64), some (.int (nI (8 * t)))] [] (wd A L I J) 120 6588 := by
  refine am_go hK spL 300 ?_
  repeat' ((conv => whnf); first | (refine And.intro (a := vq _ _) (by unfold vq; (try simp (disch := omega) only [Nat.reduceAdd, qc_i, qc_r, qc_n, qc_l, wd, nI_1, aI2, aI3, aI4, aI5, aI6, aI7, aI8, nI_clamp]); rw [nI_toInt (by omega)]; omega) ?_) | (refine And.intro (fun c => absurd c i10) (fun _ => ?_)) | (refine And.intro (fun _ => ?_) (fun c => absurd c i10)) | (refine And.intro (fun c => absurd rfl c) (fun _ => ?_)) | (refine And.intro (fun _ => ?_) (fun c => absurd rfl c)) | (refine And.intro (fun c => absurd c i01) (fun _ => ?_)) | (refine And.intro (fun _ => ?_) (fun c => absurd c i01)) | fail); all_goals (try (conv => whnf))
  refine And.intro (Ct_q (Ct_g _ (n_isTrue (d := 51) _ _ _ hI)) (fun v w hv => ?_)) trivial
  obtain ⟨⟨x, rfl, h2⟩, hw⟩ := hv
  have hwb : Nat.ble 64 w.1 = true := lw_b hw
  repeat' ((conv => whnf); first | (refine And.intro (a := vq _ _) (by unfold vq; (try simp (disch := omega) only [Nat.reduceAdd, qc_i, qc_r, qc_n, qc_l, wd, nI_1, aI2, aI3, aI4, aI5, aI6, aI7, aI8, nI_clamp]); rw [nI_toInt (by omega)]; omega) ?_) | (refine And.intro (fun c => absurd c i10) (fun _ => ?_)) | (refine And.intro (fun _ => ?_) (fun c => absurd c i10)) | (refine And.intro (fun c => absurd rfl c) (fun _ => ?_)) | (refine And.intro (fun _ => ?_) (fun c => absurd rfl c)) | (refine And.intro (fun c => absurd c i01) (fun _ => ?_)) | (refine And.intro (fun _ => ?_) (fun c => absurd c i01)) | fail); all_goals (try (conv => whnf))
  rw [hwb]
  (conv => whnf)
  refine And.intro (Ct_q h2 (fun v' w' hv' => ?_)) trivial
  obtain ⟨rfl, A', L', I', J', rfl, hW⟩ := hv'
  repeat' ((conv => whnf); first | (refine And.intro (a := vq _ _) (by unfold vq; (try simp (disch := omega) only [Nat.reduceAdd, qc_i, qc_r, qc_n, qc_l, wd, nI_1, aI2, aI3, aI4, aI5, aI6, aI7, aI8, nI_clamp]); rw [nI_toInt (by omega)]; omega) ?_) | (refine And.intro (fun c => absurd c i10) (fun _ => ?_)) | (refine And.intro (fun _ => ?_) (fun c => absurd c i10)) | (refine And.intro (fun c => absurd rfl c) (fun _ => ?_)) | (refine And.intro (fun _ => ?_) (fun c => absurd rfl c)) | (refine And.intro (fun c => absurd c i01) (fun _ => ?_)) | (refine And.intro (fun _ => ?_) (fun c => absurd c i01)) | fail); all_goals (try (conv => whnf))
  refine am_go hK spL 300 ?_
  (conv => whnf)
  simp (disch := omega) only [Nat.reduceAdd, qc_i, qc_r, qc_n, qc_l, wd, nI_1, aI2, aI3, aI4, aI5, aI6, aI7, aI8, nI_clamp]
  exact hX A' L' I' J' hW
set_option maxHeartbeats 8000000 in
theorem lw_14 (hK : am_cl sc (Ct sc 60) 333 Q K) (ht : 8 * t + 8 ≤ sc.1) (hs : sc.1 ≤ 4096) (hI : Inv A I J r q n) (hX : ∀ A L I J, InvW A L I J → K 18 [some (.ref 0), some (.ref 1), some (.ref 64), some (.int (nI (8 * (t + 1))))] [] (wd A L I J) 120 6588) : K 954 [some (.ref 0), some (.ref 1), some (.ref 64), some (.int (nI (8 * t)))] [] (wd A L I J) 120 6588 := by
  refine am_go hK spL 300 ?_
  repeat' ((conv => whnf); first | (refine And.intro (a := vq _ _) (by unfold vq; (try simp (disch := omega) only [Nat.reduceAdd, qc_i, qc_r, qc_n, qc_l, wd, nI_1, aI2, aI3, aI4, aI5, aI6, aI7, aI8, nI_clamp]); rw [nI_toInt (by omega)]; omega) ?_) | (refine And.intro (fun c => absurd c i10) (fun _ => ?_)) | (refine And.intro (fun _ => ?_) (fun c => absurd c i10)) | (refine And.intro (fun c => absurd rfl c) (fun _ => ?_)) | (refine And.intro (fun _ => ?_) (fun c => absurd rfl c)) | (refine And.intro (fun c => absurd c i01) (fun _ => ?_)) | (refine And.intro (fun _ => ?_) (fun c => absurd c i01)) | fail); all_goals (try (conv => whnf))
  refine And.intro (Ct_q (Ct_g _ (n_differ (d := 51) _ _ _ hI)) (fun v w hv => ?_)) trivial
  obtain ⟨⟨x, rfl, h2⟩, hw⟩ := hv
  have hwb : Nat.ble 64 w.1 = true := lw_b hw
  repeat' ((conv => whnf); first | (refine And.intro (a := vq _ _) (by unfold vq; (try simp (disch := omega) only [Nat.reduceAdd, qc_i, qc_r, qc_n, qc_l, wd, nI_1, aI2, aI3, aI4, aI5, aI6, aI7, aI8, nI_clamp]); rw [nI_toInt (by omega)]; omega) ?_) | (refine And.intro (fun c => absurd c i10) (fun _ => ?_)) | (refine And.intro (fun _ => ?_) (fun c => absurd c i10)) | (refine And.intro (fun c => absurd rfl c) (fun _ => ?_)) | (refine And.intro (fun _ => ?_) (fun c => absurd rfl c)) | (refine And.intro (fun c => absurd c i01) (fun _ => ?_)) | (refine And.intro (fun _ => ?_) (fun c => absurd c i01)) | fail); all_goals (try (conv => whnf))
  rw [hwb]
  (conv => whnf)
  refine And.intro (Ct_q h2 (fun v' w' hv' => ?_)) trivial
  obtain ⟨rfl, A', L', I', J', rfl, hW⟩ := hv'
  repeat' ((conv => whnf); first | (refine And.intro (a := vq _ _) (by unfold vq; (try simp (disch := omega) only [Nat.reduceAdd, qc_i, qc_r, qc_n, qc_l, wd, nI_1, aI2, aI3, aI4, aI5, aI6, aI7, aI8, nI_clamp]); rw [nI_toInt (by omega)]; omega) ?_) | (refine And.intro (fun c => absurd c i10) (fun _ => ?_)) | (refine And.intro (fun _ => ?_) (fun c => absurd c i10)) | (refine And.intro (fun c => absurd rfl c) (fun _ => ?_)) | (refine And.intro (fun _ => ?_) (fun c => absurd rfl c)) | (refine And.intro (fun c => absurd c i01) (fun _ => ?_)) | (refine And.intro (fun _ => ?_) (fun c => absurd c i01)) | fail); all_goals (try (conv => whnf))
  refine am_go hK spL 300 ?_
  (conv => whnf)
  simp (disch := omega) only [Nat.reduceAdd, qc_i, qc_r, qc_n, qc_l, wd, nI_1, aI2, aI3, aI4, aI5, aI6, aI7, aI8, nI_clamp]
  exact hX A' L' I' J' hW
set_option maxHeartbeats 8000000 in
theorem lw_15 (hK : am_cl sc (Ct sc 60) 333 Q K) (ht : 8 * t + 8 ≤ sc.1) (hs : sc.1 ≤ 4096) (hI : Inv A I J r q n) (hX : ∀ A L I J, InvW A L I J → K 18 [some (.ref 0), some (.ref 1), some (.ref 64), some (.int (nI (8 * (t + 1))))] [] (wd A L I J) 120 6588) : K 997 [some (.ref 0), some (.ref 1), some (.ref 64), some (.int (nI (8 * t)))] [] (wd A L I J) 120 6588 := by
  refine am_go hK spL 300 ?_
  repeat' ((conv => whnf); first | (refine And.intro (a := vq _ _) (by unfold vq; (try simp (disch := omega) only [Nat.reduceAdd, qc_i, qc_r, qc_n, qc_l, wd, nI_1, aI2, aI3, aI4, aI5, aI6, aI7, aI8, nI_clamp]); rw [nI_toInt (by omega)]; omega) ?_) | (refine And.intro (fun c => absurd c i10) (fun _ => ?_)) | (refine And.intro (fun _ => ?_) (fun c => absurd c i10)) | (refine And.intro (fun c => absurd rfl c) (fun _ => ?_)) | (refine And.intro (fun _ => ?_) (fun c => absurd rfl c)) | (refine And.intro (fun c => absurd c i01) (fun _ => ?_)) | (refine And.intro (fun _ => ?_) (fun c => absurd c i01)) | fail); all_goals (try (conv => whnf))
  refine And.intro (Ct_q (Ct_g _ (n_worlds (d := 51) _ _ hI)) (fun v w hv => ?_)) trivial
  obtain ⟨⟨x, rfl, h2⟩, hw⟩ := hv
  have hwb : Nat.ble 64 w.1 = true := lw_b hw
  repeat' ((conv => whnf); first | (refine And.intro (a := vq _ _) (by unfold vq; (try simp (disch := omega) only [Nat.reduceAdd, qc_i, qc_r, qc_n, qc_l, wd, nI_1, aI2, aI3, aI4, aI5, aI6, aI7, aI8, nI_clamp]); rw [nI_toInt (by omega)]; omega) ?_) | (refine And.intro (fun c => absurd c i10) (fun _ => ?_)) | (refine And.intro (fun _ => ?_) (fun c => absurd c i10)) | (refine And.intro (fun c => absurd rfl c) (fun _ => ?_)) | (refine And.intro (fun _ => ?_) (fun c => absurd rfl c)) | (refine And.intro (fun c => absurd c i01) (fun _ => ?_)) | (refine And.intro (fun _ => ?_) (fun c => absurd c i01)) | fail); all_goals (try (conv => whnf))
  rw [hwb]
  (conv => whnf)
  refine And.intro (Ct_q h2 (fun v' w' hv' => ?_)) trivial
  obtain ⟨rfl, A', L', I', J', rfl, hW⟩ := hv'
  repeat' ((conv => whnf); first | (refine And.intro (a := vq _ _) (by unfold vq; (try simp (disch := omega) only [Nat.reduceAdd, qc_i, qc_r, qc_n, qc_l, wd, nI_1, aI2, aI3, aI4, aI5, aI6, aI7, aI8, nI_clamp]); rw [nI_toInt (by omega)]; omega) ?_) | (refine And.intro (fun c => absurd c i10) (fun _ => ?_)) | (refine And.intro (fun _ => ?_) (fun c => absurd c i10)) | (refine And.intro (fun c => absurd rfl c) (fun _ => ?_)) | (refine And.intro (fun _ => ?_) (fun c => absurd rfl c)) | (refine And.intro (fun c => absurd c i01) (fun _ => ?_)) | (refine And.intro (fun _ => ?_) (fun c => absurd c i01)) | fail); all_goals (try (conv => whnf))
  refine am_go hK spL 300 ?_
  (conv => whnf)
  simp (disch := omega) only [Nat.reduceAdd, qc_i, qc_r, qc_n, qc_l, wd, nI_1, aI2, aI3, aI4, aI5, aI6, aI7, aI8, nI_clamp]
  exact hX A' L' I' J' hW
set_option maxHeartbeats 8000000 in
theorem lw_16 (hK : am_cl sc (Ct sc 60) 333 Q K) (ht : 8 * t + 8 ≤ sc.1) (hs : sc.1 ≤ 4096) (hI : Inv A I J r q n) (hX : ∀ A L I J, InvW A L I J → K 18 [some (.ref 0), some (.ref 1), some (.ref 64), some (.int (nI (8 * (t + 1))))] [] (wd A L I J) 120 6588) : K 1030 [some (.ref 0), some (.ref 1), some (.ref 64), some (.int (nI (8 * t)))] [] (wd A L I J) 120 6588 := by
  refine am_go hK spL 300 ?_
  repeat' ((conv => whnf); first | (refine And.intro (a := vq _ _) (by unfold vq; (try simp (disch := omega) only [Nat.reduceAdd, qc_i, qc_r, qc_n, qc_l, wd, nI_1, aI2, aI3, aI4, aI5, aI6, aI7, aI8, nI_clamp]); rw [nI_toInt (by omega)]; omega) ?_) | (refine And.intro (fun c => absurd c i10) (fun _ => ?_)) | (refine And.intro (fun _ => ?_) (fun c => absurd c i10)) | (refine And.intro (fun c => absurd rfl c) (fun _ => ?_)) | (refine And.intro (fun _ => ?_) (fun c => absurd rfl c)) | (refine And.intro (fun c => absurd c i01) (fun _ => ?_)) | (refine And.intro (fun _ => ?_) (fun c => absurd c i01)) | fail); all_goals (try (conv => whnf))
  refine And.intro (Ct_q (Ct_g _ (n_person (d := 51) _ hI)) (fun v w hv => ?_)) trivial
  obtain ⟨⟨x, rfl, h2⟩, hw⟩ := hv
  have hwb : Nat.ble 64 w.1 = true := lw_b hw
  repeat' ((conv => whnf); first | (refine And.intro (a := vq _ _) (by unfold vq; (try simp (disch := omega) only [Nat.reduceAdd, qc_i, qc_r, qc_n, qc_l, wd, nI_1, aI2, aI3, aI4, aI5, aI6, aI7, aI8, nI_clamp]); rw [nI_toInt (by omega)]; omega) ?_) | (refine And.intro (fun c => absurd c i10) (fun _ => ?_)) | (refine And.intro (fun _ => ?_) (fun c => absurd c i10)) | (refine And.intro (fun c => absurd rfl c) (fun _ => ?_)) | (refine And.intro (fun _ => ?_) (fun c => absurd rfl c)) | (refine And.intro (fun c => absurd c i01) (fun _ => ?_)) | (refine And.intro (fun _ => ?_) (fun c => absurd c i01)) | fail); all_goals (try (conv => whnf))
  rw [hwb]
  (conv => whnf)
  refine And.intro (Ct_q h2 (fun v' w' hv' => ?_)) trivial
  obtain ⟨rfl, A', L', I', J', rfl, hW⟩ := hv'
  repeat' ((conv => whnf); first | (refine And.intro (a := vq _ _) (by unfold vq; (try simp (disch := omega) only [Nat.reduceAdd, qc_i, qc_r, qc_n, qc_l, wd, nI_1, aI2, aI3, aI4, aI5, aI6, aI7, aI8, nI_clamp]); rw [nI_toInt (by omega)]; omega) ?_) | (refine And.intro (fun c => absurd c i10) (fun _ => ?_)) | (refine And.intro (fun _ => ?_) (fun c => absurd c i10)) | (refine And.intro (fun c => absurd rfl c) (fun _ => ?_)) | (refine And.intro (fun _ => ?_) (fun c => absurd rfl c)) | (refine And.intro (fun c => absurd c i01) (fun _ => ?_)) | (refine And.intro (fun _ => ?_) (fun c => absurd c i01)) | fail); all_goals (try (conv => whnf))
  refine am_go hK spL 300 ?_
  (conv => whnf)
  simp (disch := omega) only [Nat.reduceAdd, qc_i, qc_r, qc_n, qc_l, wd, nI_1, aI2, aI3, aI4, aI5, aI6, aI7, aI8, nI_clamp]
  exact hX A' L' I' J' hW
set_option maxHeartbeats 8000000 in
theorem lw_17 (hK : am_cl sc (Ct sc 60) 333 Q K) (ht : 8 * t + 8 ≤ sc.1) (hs : sc.1 ≤ 4096) (hI : Inv A I J r q n) (hX : ∀ A L I J, InvW A L I J → K 18 [some (.ref 0), some (.ref 1), some (.ref 64), some (.int (nI (8 * (t + 1))))] [] (wd A L I J) 120 6588) : K 1053 [some (.ref 0), some (.ref 1), some (.ref 64), some (.int (nI (8 * t)))] [] (wd A L I J) 120 6588 := by
  refine am_go hK spL 300 ?_
  repeat' ((conv => whnf); first | (refine And.intro (a := vq _ _) (by unfold vq; (try simp (disch := omega) only [Nat.reduceAdd, qc_i, qc_r, qc_n, qc_l, wd, nI_1, aI2, aI3, aI4, aI5, aI6, aI7, aI8, nI_clamp]); rw [nI_toInt (by omega)]; omega) ?_) | (refine And.intro (fun c => absurd c i10) (fun _ => ?_)) | (refine And.intro (fun _ => ?_) (fun c => absurd c i10)) | (refine And.intro (fun c => absurd rfl c) (fun _ => ?_)) | (refine And.intro (fun _ => ?_) (fun c => absurd rfl c)) | (refine And.intro (fun c => absurd c i01) (fun _ => ?_)) | (refine And.intro (fun _ => ?_) (fun c => absurd c i01)) | fail); all_goals (try (conv => whnf))
  refine And.intro (Ct_q (Ct_g _ (n_tongue (d := 51) _ _ _ _ _ _ hI)) (fun v w hv => ?_)) trivial
  obtain ⟨⟨x, rfl, h2⟩, hw⟩ := hv
  have hwb : Nat.ble 64 w.1 = true := lw_b hw
  repeat' ((conv => whnf); first | (refine And.intro (a := vq _ _) (by unfold vq; (try simp (disch := omega) only [Nat.reduceAdd, qc_i, qc_r, qc_n, qc_l, wd, nI_1, aI2, aI3, aI4, aI5, aI6, aI7, aI8, nI_clamp]); rw [nI_toInt (by omega)]; omega) ?_) | (refine And.intro (fun c => absurd c i10) (fun _ => ?_)) | (refine And.intro (fun _ => ?_) (fun c => absurd c i10)) | (refine And.intro (fun c => absurd rfl c) (fun _ => ?_)) | (refine And.intro (fun _ => ?_) (fun c => absurd rfl c)) | (refine And.intro (fun c => absurd c i01) (fun _ => ?_)) | (refine And.intro (fun _ => ?_) (fun c => absurd c i01)) | fail); all_goals (try (conv => whnf))
  rw [hwb]
  (conv => whnf)
  refine And.intro (Ct_q h2 (fun v' w' hv' => ?_)) trivial
  obtain ⟨rfl, A', L', I', J', rfl, hW⟩ := hv'
  repeat' ((conv => whnf); first | (refine And.intro (a := vq _ _) (by unfold vq; (try simp (disch := omega) only [Nat.reduceAdd, qc_i, qc_r, qc_n, qc_l, wd, nI_1, aI2, aI3, aI4, aI5, aI6, aI7, aI8, nI_clamp]); rw [nI_toInt (by omega)]; omega) ?_) | (refine And.intro (fun c => absurd c i10) (fun _ => ?_)) | (refine And.intro (fun _ => ?_) (fun c => absurd c i10)) | (refine And.intro (fun c => absurd rfl c) (fun _ => ?_)) | (refine And.intro (fun _ => ?_) (fun c => absurd rfl c)) | (refine And.intro (fun c => absurd c i01) (fun _ => ?_)) | (refine And.intro (fun _ => ?_) (fun c => absurd c i01)) | fail); all_goals (try (conv => whnf))
  refine am_go hK spL 300 ?_
  (conv => whnf)
  simp (disch := omega) only [Nat.reduceAdd, qc_i, qc_r, qc_n, qc_l, wd, nI_1, aI2, aI3, aI4, aI5, aI6, aI7, aI8, nI_clamp]
  exact hX A' L' I' J' hW
set_option maxHeartbeats 8000000 in
theorem lw_18 (hK : am_cl sc (Ct sc 60) 333 Q K) (ht : 8 * t + 8 ≤ sc.1) (hs : sc.1 ≤ 4096) (hI : Inv A I J r q n) (hX : ∀ A L I J, InvW A L I J → K 18 [some (.ref 0), some (.ref 1), some (.ref 64), some (.int (nI (8 * (t + 1))))] [] (wd A L I J) 120 6588) : K 1128 [some (.ref 0), some (.ref 1), some (.ref 64), some (.int (nI (8 * t)))] [] (wd A L I J) 120 6588 := by
  refine am_go hK spL 300 ?_
  repeat' ((conv => whnf); first | (refine And.intro (a := vq _ _) (by unfold vq; (try simp (disch := omega) only [Nat.reduceAdd, qc_i, qc_r, qc_n, qc_l, wd, nI_1, aI2, aI3, aI4, aI5, aI6, aI7, aI8, nI_clamp]); rw [nI_toInt (by omega)]; omega) ?_) | (refine And.intro (fun c => absurd c i10) (fun _ => ?_)) | (refine And.intro (fun _ => ?_) (fun c => absurd c i10)) | (refine And.intro (fun c => absurd rfl c) (fun _ => ?_)) | (refine And.intro (fun _ => ?_) (fun c => absurd rfl c)) | (refine And.intro (fun c => absurd c i01) (fun _ => ?_)) | (refine And.intro (fun _ => ?_) (fun c => absurd c i01)) | fail); all_goals (try (conv => whnf))
  refine And.intro (Ct_q (Ct_g _ (n_easy (d := 51) _ _ hI)) (fun v w hv => ?_)) trivial
  obtain ⟨⟨x, rfl, h2⟩, hw⟩ := hv
  have hwb : Nat.ble 64 w.1 = true := lw_b hw
  repeat' ((conv => whnf); first | (refine And.intro (a := vq _ _) (by unfold vq; (try simp (disch := omega) only [Nat.reduceAdd, qc_i, qc_r, qc_n, qc_l, wd, nI_1, aI2, aI3, aI4, aI5, aI6, aI7, aI8, nI_clamp]); rw [nI_toInt (by omega)]; omega) ?_) | (refine And.intro (fun c => absurd c i10) (fun _ => ?_)) | (refine And.intro (fun _ => ?_) (fun c => absurd c i10)) | (refine And.intro (fun c => absurd rfl c) (fun _ => ?_)) | (refine And.intro (fun _ => ?_) (fun c => absurd rfl c)) | (refine And.intro (fun c => absurd c i01) (fun _ => ?_)) | (refine And.intro (fun _ => ?_) (fun c => absurd c i01)) | fail); all_goals (try (conv => whnf))
  rw [hwb]
  (conv => whnf)
  refine And.intro (Ct_q h2 (fun v' w' hv' => ?_)) trivial
  obtain ⟨rfl, A', L', I', J', rfl, hW⟩ := hv'
  repeat' ((conv => whnf); first | (refine And.intro (a := vq _ _) (by unfold vq; (try simp (disch := omega) only [Nat.reduceAdd, qc_i, qc_r, qc_n, qc_l, wd, nI_1, aI2, aI3, aI4, aI5, aI6, aI7, aI8, nI_clamp]); rw [nI_toInt (by omega)]; omega) ?_) | (refine And.intro (fun c => absurd c i10) (fun _ => ?_)) | (refine And.intro (fun _ => ?_) (fun c => absurd c i10)) | (refine And.intro (fun c => absurd rfl c) (fun _ => ?_)) | (refine And.intro (fun _ => ?_) (fun c => absurd rfl c)) | (refine And.intro (fun c => absurd c i01) (fun _ => ?_)) | (refine And.intro (fun _ => ?_) (fun c => absurd c i01)) | fail); all_goals (try (conv => whnf))
  refine am_go hK spL 300 ?_
  (conv => whnf)
  simp (disch := omega) only [Nat.reduceAdd, qc_i, qc_r, qc_n, qc_l, wd, nI_1, aI2, aI3, aI4, aI5, aI6, aI7, aI8, nI_clamp]
  exact hX A' L' I' J' hW
set_option maxHeartbeats 8000000 in
theorem lw_19 (hK : am_cl sc (Ct sc 60) 333 Q K) (ht : 8 * t + 8 ≤ sc.1) (hs : sc.1 ≤ 4096) (hI : Inv A I J r q n) (hX : ∀ A L I J, InvW A L I J → K 18 [some (.ref 0), some (.ref 1), some (.ref 64), some (.int (nI (8 * (t + 1))))] [] (wd A L I J) 120 6588) : K 1161 [some (.ref 0), some (.ref 1), some (.ref 64), some (.int (nI (8 * t)))] [] (wd A L I J) 120 6588 := by
  refine am_go hK spL 300 ?_
  repeat' ((conv => whnf); first | (refine And.intro (a := vq _ _) (by unfold vq; (try simp (disch := omega) only [Nat.reduceAdd, qc_i, qc_r, qc_n, qc_l, wd, nI_1, aI2, aI3, aI4, aI5, aI6, aI7, aI8, nI_clamp]); rw [nI_toInt (by omega)]; omega) ?_) | (refine And.intro (fun c => absurd c i10) (fun _ => ?_)) | (refine And.intro (fun _ => ?_) (fun c => absurd c i10)) | (refine And.intro (fun c => absurd rfl c) (fun _ => ?_)) | (refine And.intro (fun _ => ?_) (fun c => absurd rfl c)) | (refine And.intro (fun c => absurd c i01) (fun _ => ?_)) | (refine And.intro (fun _ => ?_) (fun c => absurd c i01)) | (refine And.intro (fun c => ?_) (fun c => ?_) <;> (try (exact absurd (lg_z _) c))) | fail); all_goals (try (conv => whnf))
  all_goals (
    refine And.intro (Ct_q (Ct_g _ (n_learn (d := 51) _ _ _ (by first | exact Or.inl rfl | exact Or.inr rfl) hI)) (fun v w hv => ?_)) trivial
    obtain ⟨⟨x, rfl, h2⟩, hw⟩ := hv
    have hwb : Nat.ble 64 w.1 = true := lw_b hw
    repeat' ((conv => whnf); first | (refine And.intro (a := vq _ _) (by unfold vq; (try simp (disch := omega) only [Nat.reduceAdd, qc_i, qc_r, qc_n, qc_l, wd, nI_1, aI2, aI3, aI4, aI5, aI6, aI7, aI8, nI_clamp]); rw [nI_toInt (by omega)]; omega) ?_) | (refine And.intro (fun c => absurd c i10) (fun _ => ?_)) | (refine And.intro (fun _ => ?_) (fun c => absurd c i10)) | (refine And.intro (fun c => absurd rfl c) (fun _ => ?_)) | (refine And.intro (fun _ => ?_) (fun c => absurd rfl c)) | (refine And.intro (fun c => absurd c i01) (fun _ => ?_)) | (refine And.intro (fun _ => ?_) (fun c => absurd c i01)) | (refine And.intro (fun c => ?_) (fun c => ?_) <;> (try (exact absurd c (by assumption))) <;> (try (exact absurd (by assumption) c))) | fail); all_goals (try (conv => whnf))
    rw [hwb]
    (conv => whnf)
    refine And.intro (Ct_q h2 (fun v' w' hv' => ?_)) trivial
    obtain ⟨rfl, A', L', I', J', rfl, hW⟩ := hv'
    repeat' ((conv => whnf); first | (refine And.intro (a := vq _ _) (by unfold vq; (try simp (disch := omega) only [Nat.reduceAdd, qc_i, qc_r, qc_n, qc_l, wd, nI_1, aI2, aI3, aI4, aI5, aI6, aI7, aI8, nI_clamp]); rw [nI_toInt (by omega)]; omega) ?_) | (refine And.intro (fun c => absurd c i10) (fun _ => ?_)) | (refine And.intro (fun _ => ?_) (fun c => absurd c i10)) | (refine And.intro (fun c => absurd rfl c) (fun _ => ?_)) | (refine And.intro (fun _ => ?_) (fun c => absurd rfl c)) | (refine And.intro (fun c => absurd c i01) (fun _ => ?_)) | (refine And.intro (fun _ => ?_) (fun c => absurd c i01)) | fail); all_goals (try (conv => whnf))
    refine am_go hK spL 300 ?_
    (conv => whnf)
    simp (disch := omega) only [Nat.reduceAdd, qc_i, qc_r, qc_n, qc_l, wd, nI_1, aI2, aI3, aI4, aI5, aI6, aI7, aI8, nI_clamp]
    exact hX A' L' I' J' hW)
set_option maxHeartbeats 8000000 in
theorem lw_20 (hK : am_cl sc (Ct sc 60) 333 Q K) (ht : 8 * t + 8 ≤ sc.1) (hs : sc.1 ≤ 4096) (hI : Inv A I J r q n) (hX : ∀ A L I J, InvW A L I J → K 18 [some (.ref 0), some (.ref 1), some (.ref 64), some (.int (nI (8 * (t + 1))))] [] (wd A L I J) 120 6588) : K 1220 [some (.ref 0), some (.ref 1), some (.ref 64), some (.int (nI (8 * t)))] [] (wd A L I J) 120 6588 := by
  refine am_go hK spL 300 ?_
  repeat' ((conv => whnf); first | (refine And.intro (a := vq _ _) (by unfold vq; (try simp (disch := omega) only [Nat.reduceAdd, qc_i, qc_r, qc_n, qc_l, wd, nI_1, aI2, aI3, aI4, aI5, aI6, aI7, aI8, nI_clamp]); rw [nI_toInt (by omega)]; omega) ?_) | (refine And.intro (fun c => absurd c i10) (fun _ => ?_)) | (refine And.intro (fun _ => ?_) (fun c => absurd c i10)) | (refine And.intro (fun c => absurd rfl c) (fun _ => ?_)) | (refine And.intro (fun _ => ?_) (fun c => absurd rfl c)) | (refine And.intro (fun c => absurd c i01) (fun _ => ?_)) | (refine And.intro (fun _ => ?_) (fun c => absurd c i01)) | fail); all_goals (try (conv => whnf))
  refine And.intro (Ct_q (Ct_g _ (n_knows (d := 51) _ hI)) (fun v w hv => ?_)) trivial
  obtain ⟨⟨x, rfl, h2⟩, hw⟩ := hv
  have hwb : Nat.ble 64 w.1 = true := lw_b hw
  repeat' ((conv => whnf); first | (refine And.intro (a := vq _ _) (by unfold vq; (try simp (disch := omega) only [Nat.reduceAdd, qc_i, qc_r, qc_n, qc_l, wd, nI_1, aI2, aI3, aI4, aI5, aI6, aI7, aI8, nI_clamp]); rw [nI_toInt (by omega)]; omega) ?_) | (refine And.intro (fun c => absurd c i10) (fun _ => ?_)) | (refine And.intro (fun _ => ?_) (fun c => absurd c i10)) | (refine And.intro (fun c => absurd rfl c) (fun _ => ?_)) | (refine And.intro (fun _ => ?_) (fun c => absurd rfl c)) | (refine And.intro (fun c => absurd c i01) (fun _ => ?_)) | (refine And.intro (fun _ => ?_) (fun c => absurd c i01)) | fail); all_goals (try (conv => whnf))
  rw [hwb]
  (conv => whnf)
  refine And.intro (Ct_q h2 (fun v' w' hv' => ?_)) trivial
  obtain ⟨rfl, A', L', I', J', rfl, hW⟩ := hv'
  repeat' ((conv => whnf); first | (refine And.intro (a := vq _ _) (by unfold vq; (try simp (disch := omega) only [Nat.reduceAdd, qc_i, qc_r, qc_n, qc_l, wd, nI_1, aI2, aI3, aI4, aI5, aI6, aI7, aI8, nI_clamp]); rw [nI_toInt (by omega)]; omega) ?_) | (refine And.intro (fun c => absurd c i10) (fun _ => ?_)) | (refine And.intro (fun _ => ?_) (fun c => absurd c i10)) | (refine And.intro (fun c => absurd rfl c) (fun _ => ?_)) | (refine And.intro (fun _ => ?_) (fun c => absurd rfl c)) | (refine And.intro (fun c => absurd c i01) (fun _ => ?_)) | (refine And.intro (fun _ => ?_) (fun c => absurd c i01)) | fail); all_goals (try (conv => whnf))
  refine am_go hK spL 300 ?_
  (conv => whnf)
  simp (disch := omega) only [Nat.reduceAdd, qc_i, qc_r, qc_n, qc_l, wd, nI_1, aI2, aI3, aI4, aI5, aI6, aI7, aI8, nI_clamp]
  exact hX A' L' I' J' hW
set_option maxHeartbeats 8000000 in
theorem lw_21 (hK : am_cl sc (Ct sc 60) 333 Q K) (ht : 8 * t + 8 ≤ sc.1) (hs : sc.1 ≤ 4096) (hI : Inv A I J r q n) (hX : ∀ A L I J, InvW A L I J → K 18 [some (.ref 0), some (.ref 1), some (.ref 64), some (.int (nI (8 * (t + 1))))] [] (wd A L I J) 120 6588) : K 1243 [some (.ref 0), some (.ref 1), some (.ref 64), some (.int (nI (8 * t)))] [] (wd A L I J) 120 6588 := by
  refine am_go hK spL 300 ?_
  repeat' ((conv => whnf); first | (refine And.intro (a := vq _ _) (by unfold vq; (try simp (disch := omega) only [Nat.reduceAdd, qc_i, qc_r, qc_n, qc_l, wd, nI_1, aI2, aI3, aI4, aI5, aI6, aI7, aI8, nI_clamp]); rw [nI_toInt (by omega)]; omega) ?_) | (refine And.intro (fun c => absurd c i10) (fun _ => ?_)) | (refine And.intro (fun _ => ?_) (fun c => absurd c i10)) | (refine And.intro (fun c => absurd rfl c) (fun _ => ?_)) | (refine And.intro (fun _ => ?_) (fun c => absurd rfl c)) | (refine And.intro (fun c => absurd c i01) (fun _ => ?_)) | (refine And.intro (fun _ => ?_) (fun c => absurd c i01)) | fail); all_goals (try (conv => whnf))
  refine And.intro (Ct_q (Ct_g _ (n_reform (d := 51) _ _ _ _ _ _ hI)) (fun v w hv => ?_)) trivial
  obtain ⟨⟨x, rfl, h2⟩, hw⟩ := hv
  have hwb : Nat.ble 64 w.1 = true := lw_b hw
  repeat' ((conv => whnf); first | (refine And.intro (a := vq _ _) (by unfold vq; (try simp (disch := omega) only [Nat.reduceAdd, qc_i, qc_r, qc_n, qc_l, wd, nI_1, aI2, aI3, aI4, aI5, aI6, aI7, aI8, nI_clamp]); rw [nI_toInt (by omega)]; omega) ?_) | (refine And.intro (fun c => absurd c i10) (fun _ => ?_)) | (refine And.intro (fun _ => ?_) (fun c => absurd c i10)) | (refine And.intro (fun c => absurd rfl c) (fun _ => ?_)) | (refine And.intro (fun _ => ?_) (fun c => absurd rfl c)) | (refine And.intro (fun c => absurd c i01) (fun _ => ?_)) | (refine And.intro (fun _ => ?_) (fun c => absurd c i01)) | fail); all_goals (try (conv => whnf))
  rw [hwb]
  (conv => whnf)
  refine And.intro (Ct_q h2 (fun v' w' hv' => ?_)) trivial
  obtain ⟨rfl, A', L', I', J', rfl, hW⟩ := hv'
  repeat' ((conv => whnf); first | (refine And.intro (a := vq _ _) (by unfold vq; (try simp (disch := omega) only [Nat.reduceAdd, qc_i, qc_r, qc_n, qc_l, wd, nI_1, aI2, aI3, aI4, aI5, aI6, aI7, aI8, nI_clamp]); rw [nI_toInt (by omega)]; omega) ?_) | (refine And.intro (fun c => absurd c i10) (fun _ => ?_)) | (refine And.intro (fun _ => ?_) (fun c => absurd c i10)) | (refine And.intro (fun c => absurd rfl c) (fun _ => ?_)) | (refine And.intro (fun _ => ?_) (fun c => absurd rfl c)) | (refine And.intro (fun c => absurd c i01) (fun _ => ?_)) | (refine And.intro (fun _ => ?_) (fun c => absurd c i01)) | (refine And.intro (fun c => ?_) (fun c => ?_) <;> (try (exact absurd (lg_z _) c))) | fail); all_goals (try (conv => whnf))
  refine am_go hK spL 300 ?_
  (conv => whnf)
  simp (disch := omega) only [Nat.reduceAdd, qc_i, qc_r, qc_n, qc_l, wd, nI_1, aI2, aI3, aI4, aI5, aI6, aI7, aI8, nI_clamp]
  exact hX A' L' I' J' hW
set_option maxHeartbeats 8000000 in
theorem lw_22 (hK : am_cl sc (Ct sc 60) 333 Q K) (ht : 8 * t + 8 ≤ sc.1) (hs : sc.1 ≤ 4096) (hI : Inv A I J r q n) (hX : ∀ A L I J, InvW A L I J → K 18 [some (.ref 0), some (.ref 1), some (.ref 64), some (.int (nI (8 * (t + 1))))] [] (wd A L I J) 120 6588) : K 1319 [some (.ref 0), some (.ref 1), some (.ref 64), some (.int (nI (8 * t)))] [] (wd A L I J) 120 6588 := by
  refine am_go hK spL 300 ?_
  repeat' ((conv => whnf); first | (refine And.intro (a := vq _ _) (by unfold vq; (try simp (disch := omega) only [Nat.reduceAdd, qc_i, qc_r, qc_n, qc_l, wd, nI_1, aI2, aI3, aI4, aI5, aI6, aI7, aI8, nI_clamp]); rw [nI_toInt (by omega)]; omega) ?_) | (refine And.intro (fun c => absurd c i10) (fun _ => ?_)) | (refine And.intro (fun _ => ?_) (fun c => absurd c i10)) | (refine And.intro (fun c => absurd rfl c) (fun _ => ?_)) | (refine And.intro (fun _ => ?_) (fun c => absurd rfl c)) | (refine And.intro (fun c => absurd c i01) (fun _ => ?_)) | (refine And.intro (fun _ => ?_) (fun c => absurd c i01)) | fail); all_goals (try (conv => whnf))
  refine And.intro (Ct_q (Ct_g _ (n_journal (d := 51) _ _ hI)) (fun v w hv => ?_)) trivial
  obtain ⟨⟨x, rfl, h2⟩, hw⟩ := hv
  have hwb : Nat.ble 64 w.1 = true := lw_b hw
  repeat' ((conv => whnf); first | (refine And.intro (a := vq _ _) (by unfold vq; (try simp (disch := omega) only [Nat.reduceAdd, qc_i, qc_r, qc_n, qc_l, wd, nI_1, aI2, aI3, aI4, aI5, aI6, aI7, aI8, nI_clamp]); rw [nI_toInt (by omega)]; omega) ?_) | (refine And.intro (fun c => absurd c i10) (fun _ => ?_)) | (refine And.intro (fun _ => ?_) (fun c => absurd c i10)) | (refine And.intro (fun c => absurd rfl c) (fun _ => ?_)) | (refine And.intro (fun _ => ?_) (fun c => absurd rfl c)) | (refine And.intro (fun c => absurd c i01) (fun _ => ?_)) | (refine And.intro (fun _ => ?_) (fun c => absurd c i01)) | fail); all_goals (try (conv => whnf))
  rw [hwb]
  (conv => whnf)
  refine And.intro (Ct_q h2 (fun v' w' hv' => ?_)) trivial
  obtain ⟨rfl, A', L', I', J', rfl, hW⟩ := hv'
  repeat' ((conv => whnf); first | (refine And.intro (a := vq _ _) (by unfold vq; (try simp (disch := omega) only [Nat.reduceAdd, qc_i, qc_r, qc_n, qc_l, wd, nI_1, aI2, aI3, aI4, aI5, aI6, aI7, aI8, nI_clamp]); rw [nI_toInt (by omega)]; omega) ?_) | (refine And.intro (fun c => absurd c i10) (fun _ => ?_)) | (refine And.intro (fun _ => ?_) (fun c => absurd c i10)) | (refine And.intro (fun c => absurd rfl c) (fun _ => ?_)) | (refine And.intro (fun _ => ?_) (fun c => absurd rfl c)) | (refine And.intro (fun c => absurd c i01) (fun _ => ?_)) | (refine And.intro (fun _ => ?_) (fun c => absurd c i01)) | fail); all_goals (try (conv => whnf))
  refine am_go hK spL 300 ?_
  (conv => whnf)
  simp (disch := omega) only [Nat.reduceAdd, qc_i, qc_r, qc_n, qc_l, wd, nI_1, aI2, aI3, aI4, aI5, aI6, aI7, aI8, nI_clamp]
  exact hX A' L' I' J' hW
set_option maxHeartbeats 8000000 in
theorem lw_23 (hK : am_cl sc (Ct sc 60) 333 Q K) (ht : 8 * t + 8 ≤ sc.1) (hs : sc.1 ≤ 4096) (hI : Inv A I J r q n) (hX : ∀ A L I J, InvW A L I J → K 18 [some (.ref 0), some (.ref 1), some (.ref 64), some (.int (nI (8 * (t + 1))))] [] (wd A L I J) 120 6588) : K 1352 [some (.ref 0), some (.ref 1), some (.ref 64), some (.int (nI (8 * t)))] [] (wd A L I J) 120 6588 := by
  refine am_go hK spL 300 ?_
  repeat' ((conv => whnf); first | (refine And.intro (a := vq _ _) (by unfold vq; (try simp (disch := omega) only [Nat.reduceAdd, qc_i, qc_r, qc_n, qc_l, wd, nI_1, aI2, aI3, aI4, aI5, aI6, aI7, aI8, nI_clamp]); rw [nI_toInt (by omega)]; omega) ?_) | (refine And.intro (fun c => absurd c i10) (fun _ => ?_)) | (refine And.intro (fun _ => ?_) (fun c => absurd c i10)) | (refine And.intro (fun c => absurd rfl c) (fun _ => ?_)) | (refine And.intro (fun _ => ?_) (fun c => absurd rfl c)) | (refine And.intro (fun c => absurd c i01) (fun _ => ?_)) | (refine And.intro (fun _ => ?_) (fun c => absurd c i01)) | fail); all_goals (try (conv => whnf))
  refine And.intro (Ct_q (Ct_g _ (n_need (d := 51) _ hI)) (fun v w hv => ?_)) trivial
  obtain ⟨⟨x, rfl, h2⟩, hw⟩ := hv
  have hwb : Nat.ble 64 w.1 = true := lw_b hw
  repeat' ((conv => whnf); first | (refine And.intro (a := vq _ _) (by unfold vq; (try simp (disch := omega) only [Nat.reduceAdd, qc_i, qc_r, qc_n, qc_l, wd, nI_1, aI2, aI3, aI4, aI5, aI6, aI7, aI8, nI_clamp]); rw [nI_toInt (by omega)]; omega) ?_) | (refine And.intro (fun c => absurd c i10) (fun _ => ?_)) | (refine And.intro (fun _ => ?_) (fun c => absurd c i10)) | (refine And.intro (fun c => absurd rfl c) (fun _ => ?_)) | (refine And.intro (fun _ => ?_) (fun c => absurd rfl c)) | (refine And.intro (fun c => absurd c i01) (fun _ => ?_)) | (refine And.intro (fun _ => ?_) (fun c => absurd c i01)) | fail); all_goals (try (conv => whnf))
  rw [hwb]
  (conv => whnf)
  refine And.intro (Ct_q h2 (fun v' w' hv' => ?_)) trivial
  obtain ⟨rfl, A', L', I', J', rfl, hW⟩ := hv'
  repeat' ((conv => whnf); first | (refine And.intro (a := vq _ _) (by unfold vq; (try simp (disch := omega) only [Nat.reduceAdd, qc_i, qc_r, qc_n, qc_l, wd, nI_1, aI2, aI3, aI4, aI5, aI6, aI7, aI8, nI_clamp]); rw [nI_toInt (by omega)]; omega) ?_) | (refine And.intro (fun c => absurd c i10) (fun _ => ?_)) | (refine And.intro (fun _ => ?_) (fun c => absurd c i10)) | (refine And.intro (fun c => absurd rfl c) (fun _ => ?_)) | (refine And.intro (fun _ => ?_) (fun c => absurd rfl c)) | (refine And.intro (fun c => absurd c i01) (fun _ => ?_)) | (refine And.intro (fun _ => ?_) (fun c => absurd c i01)) | fail); all_goals (try (conv => whnf))
  refine am_go hK spL 300 ?_
  (conv => whnf)
  simp (disch := omega) only [Nat.reduceAdd, qc_i, qc_r, qc_n, qc_l, wd, nI_1, aI2, aI3, aI4, aI5, aI6, aI7, aI8, nI_clamp]
  exact hX A' L' I' J' hW
set_option maxHeartbeats 8000000 in
theorem lw_24 (hK : am_cl sc (Ct sc 60) 333 Q K) (ht : 8 * t + 8 ≤ sc.1) (hs : sc.1 ≤ 4096) (hI : Inv A I J r q n) (hX : ∀ A L I J, InvW A L I J → K 18 [some (.ref 0), some (.ref 1), some (.ref 64), some (.int (nI (8 * (t + 1))))] [] (wd A L I J) 120 6588) : K 1375 [some (.ref 0), some (.ref 1), some (.ref 64), some (.int (nI (8 * t)))] [] (wd A L I J) 120 6588 := by
  refine am_go hK spL 300 ?_
  repeat' ((conv => whnf); first | (refine And.intro (a := vq _ _) (by unfold vq; (try simp (disch := omega) only [Nat.reduceAdd, qc_i, qc_r, qc_n, qc_l, wd, nI_1, aI2, aI3, aI4, aI5, aI6, aI7, aI8, nI_clamp]); rw [nI_toInt (by omega)]; omega) ?_) | (refine And.intro (fun c => absurd c i10) (fun _ => ?_)) | (refine And.intro (fun _ => ?_) (fun c => absurd c i10)) | (refine And.intro (fun c => absurd rfl c) (fun _ => ?_)) | (refine And.intro (fun _ => ?_) (fun c => absurd rfl c)) | (refine And.intro (fun c => absurd c i01) (fun _ => ?_)) | (refine And.intro (fun _ => ?_) (fun c => absurd c i01)) | fail); all_goals (try (conv => whnf))
  refine And.intro (Ct_q (Ct_g _ (n_month (d := 51) hI)) (fun v w hv => ?_)) trivial
  obtain ⟨⟨x, rfl, h2⟩, hw⟩ := hv
  have hwb : Nat.ble 64 w.1 = true := lw_b hw
  (conv => whnf)
  rw [hwb]
  (conv => whnf)
  refine And.intro (Ct_q h2 (fun v' w' hv' => ?_)) trivial
  obtain ⟨rfl, A', L', I', J', rfl, hW⟩ := hv'
  repeat' ((conv => whnf); first | (refine And.intro (a := vq _ _) (by unfold vq; (try simp (disch := omega) only [Nat.reduceAdd, qc_i, qc_r, qc_n, qc_l, wd, nI_1, aI2, aI3, aI4, aI5, aI6, aI7, aI8, nI_clamp]); rw [nI_toInt (by omega)]; omega) ?_) | (refine And.intro (fun c => absurd c i10) (fun _ => ?_)) | (refine And.intro (fun _ => ?_) (fun c => absurd c i10)) | (refine And.intro (fun c => absurd rfl c) (fun _ => ?_)) | (refine And.intro (fun _ => ?_) (fun c => absurd rfl c)) | (refine And.intro (fun c => absurd c i01) (fun _ => ?_)) | (refine And.intro (fun _ => ?_) (fun c => absurd c i01)) | fail); all_goals (try (conv => whnf))
  refine am_go hK spL 300 ?_
  (conv => whnf)
  simp (disch := omega) only [Nat.reduceAdd, qc_i, qc_r, qc_n, qc_l, wd, nI_1, aI2, aI3, aI4, aI5, aI6, aI7, aI8, nI_clamp]
  exact hX A' L' I' J' hW
set_option maxHeartbeats 8000000 in
theorem lw_25 (hK : am_cl sc (Ct sc 60) 333 Q K) (ht : 8 * t + 8 ≤ sc.1) (hs : sc.1 ≤ 4096) (hI : Inv A I J r q n) (hX : ∀ A L I J, InvW A L I J → K 18 [some (.ref 0), some (.ref 1), some (.ref 64), some (.int (nI (8 * (t + 1))))] [] (wd A L I J) 120 6588) : K 1388 [some (.ref 0), some (.ref 1), some (.ref 64), some (.int (nI (8 * t)))] [] (wd A L I J) 120 6588 := by
  refine am_go hK spL 300 ?_
  repeat' ((conv => whnf); first | (refine And.intro (a := vq _ _) (by unfold vq; (try simp (disch := omega) only [Nat.reduceAdd, qc_i, qc_r, qc_n, qc_l, wd, nI_1, aI2, aI3, aI4, aI5, aI6, aI7, aI8, nI_clamp]); rw [nI_toInt (by omega)]; omega) ?_) | (refine And.intro (fun c => absurd c i10) (fun _ => ?_)) | (refine And.intro (fun _ => ?_) (fun c => absurd c i10)) | (refine And.intro (fun c => absurd rfl c) (fun _ => ?_)) | (refine And.intro (fun _ => ?_) (fun c => absurd rfl c)) | (refine And.intro (fun c => absurd c i01) (fun _ => ?_)) | (refine And.intro (fun _ => ?_) (fun c => absurd c i01)) | fail); all_goals (try (conv => whnf))
  refine And.intro (Ct_q (Ct_g _ (n_heard (d := 51) _ _ hI)) (fun v w hv => ?_)) trivial
  obtain ⟨⟨x, rfl, h2⟩, hw⟩ := hv
  have hwb : Nat.ble 64 w.1 = true := lw_b hw
  repeat' ((conv => whnf); first | (refine And.intro (a := vq _ _) (by unfold vq; (try simp (disch := omega) only [Nat.reduceAdd, qc_i, qc_r, qc_n, qc_l, wd, nI_1, aI2, aI3, aI4, aI5, aI6, aI7, aI8, nI_clamp]); rw [nI_toInt (by omega)]; omega) ?_) | (refine And.intro (fun c => absurd c i10) (fun _ => ?_)) | (refine And.intro (fun _ => ?_) (fun c => absurd c i10)) | (refine And.intro (fun c => absurd rfl c) (fun _ => ?_)) | (refine And.intro (fun _ => ?_) (fun c => absurd rfl c)) | (refine And.intro (fun c => absurd c i01) (fun _ => ?_)) | (refine And.intro (fun _ => ?_) (fun c => absurd c i01)) | fail); all_goals (try (conv => whnf))
  rw [hwb]
  (conv => whnf)
  refine And.intro (Ct_q h2 (fun v' w' hv' => ?_)) trivial
  obtain ⟨rfl, A', L', I', J', rfl, hW⟩ := hv'
  repeat' ((conv => whnf); first | (refine And.intro (a := vq _ _) (by unfold vq; (try simp (disch := omega) only [Nat.reduceAdd, qc_i, qc_r, qc_n, qc_l, wd, nI_1, aI2, aI3, aI4, aI5, aI6, aI7, aI8, nI_clamp]); rw [nI_toInt (by omega)]; omega) ?_) | (refine And.intro (fun c => absurd c i10) (fun _ => ?_)) | (refine And.intro (fun _ => ?_) (fun c => absurd c i10)) | (refine And.intro (fun c => absurd rfl c) (fun _ => ?_)) | (refine And.intro (fun _ => ?_) (fun c => absurd rfl c)) | (refine And.intro (fun c => absurd c i01) (fun _ => ?_)) | (refine And.intro (fun _ => ?_) (fun c => absurd c i01)) | fail); all_goals (try (conv => whnf))
  refine am_go hK spL 300 ?_
  (conv => whnf)
  simp (disch := omega) only [Nat.reduceAdd, qc_i, qc_r, qc_n, qc_l, wd, nI_1, aI2, aI3, aI4, aI5, aI6, aI7, aI8, nI_clamp]
  exact hX A' L' I' J' hW
set_option maxHeartbeats 8000000 in
theorem lw_26 (hK : am_cl sc (Ct sc 60) 333 Q K) (ht : 8 * t + 8 ≤ sc.1) (hs : sc.1 ≤ 4096) (hI : Inv A I J r q n) (hX : ∀ A L I J, InvW A L I J → K 18 [some (.ref 0), some (.ref 1), some (.ref 64), some (.int (nI (8 * (t + 1))))] [] (wd A L I J) 120 6588) : K 1421 [some (.ref 0), some (.ref 1), some (.ref 64), some (.int (nI (8 * t)))] [] (wd A L I J) 120 6588 := by
  refine am_go hK spL 300 ?_
  repeat' ((conv => whnf); first | (refine And.intro (a := vq _ _) (by unfold vq; (try simp (disch := omega) only [Nat.reduceAdd, qc_i, qc_r, qc_n, qc_l, wd, nI_1, aI2, aI3, aI4, aI5, aI6, aI7, aI8, nI_clamp]); rw [nI_toInt (by omega)]; omega) ?_) | (refine And.intro (fun c => absurd c i10) (fun _ => ?_)) | (refine And.intro (fun _ => ?_) (fun c => absurd c i10)) | (refine And.intro (fun c => absurd rfl c) (fun _ => ?_)) | (refine And.intro (fun _ => ?_) (fun c => absurd rfl c)) | (refine And.intro (fun c => absurd c i01) (fun _ => ?_)) | (refine And.intro (fun _ => ?_) (fun c => absurd c i01)) | fail); all_goals (try (conv => whnf))
  refine And.intro (Ct_q (Ct_g _ (n_spread (d := 51) _ hI)) (fun v w hv => ?_)) trivial
  obtain ⟨⟨x, rfl, h2⟩, hw⟩ := hv
  have hwb : Nat.ble 64 w.1 = true := lw_b hw
  repeat' ((conv => whnf); first | (refine And.intro (a := vq _ _) (by unfold vq; (try simp (disch := omega) only [Nat.reduceAdd, qc_i, qc_r, qc_n, qc_l, wd, nI_1, aI2, aI3, aI4, aI5, aI6, aI7, aI8, nI_clamp]); rw [nI_toInt (by omega)]; omega) ?_) | (refine And.intro (fun c => absurd c i10) (fun _ => ?_)) | (refine And.intro (fun _ => ?_) (fun c => absurd c i10)) | (refine And.intro (fun c => absurd rfl c) (fun _ => ?_)) | (refine And.intro (fun _ => ?_) (fun c => absurd rfl c)) | (refine And.intro (fun c => absurd c i01) (fun _ => ?_)) | (refine And.intro (fun _ => ?_) (fun c => absurd c i01)) | fail); all_goals (try (conv => whnf))
  rw [hwb]
  (conv => whnf)
  refine And.intro (Ct_q h2 (fun v' w' hv' => ?_)) trivial
  obtain ⟨rfl, A', L', I', J', rfl, hW⟩ := hv'
  repeat' ((conv => whnf); first | (refine And.intro (a := vq _ _) (by unfold vq; (try simp (disch := omega) only [Nat.reduceAdd, qc_i, qc_r, qc_n, qc_l, wd, nI_1, aI2, aI3, aI4, aI5, aI6, aI7, aI8, nI_clamp]); rw [nI_toInt (by omega)]; omega) ?_) | (refine And.intro (fun c => absurd c i10) (fun _ => ?_)) | (refine And.intro (fun _ => ?_) (fun c => absurd c i10)) | (refine And.intro (fun c => absurd rfl c) (fun _ => ?_)) | (refine And.intro (fun _ => ?_) (fun c => absurd rfl c)) | (refine And.intro (fun c => absurd c i01) (fun _ => ?_)) | (refine And.intro (fun _ => ?_) (fun c => absurd c i01)) | fail); all_goals (try (conv => whnf))
  refine am_go hK spL 300 ?_
  (conv => whnf)
  simp (disch := omega) only [Nat.reduceAdd, qc_i, qc_r, qc_n, qc_l, wd, nI_1, aI2, aI3, aI4, aI5, aI6, aI7, aI8, nI_clamp]
  exact hX A' L' I' J' hW
set_option maxHeartbeats 8000000 in
theorem lw_27 (hK : am_cl sc (Ct sc 60) 333 Q K) (ht : 8 * t + 8 ≤ sc.1) (hs : sc.1 ≤ 4096) (hI : Inv A I J r q n) (hX : ∀ A L I J, InvW A L I J → K 18 [some (.ref 0), some (.ref 1), some (.ref 64), some (.int (nI (8 * (t + 1))))] [] (wd A L I J) 120 6588) : K 1444 [some (.ref 0), some (.ref 1), some (.ref 64), some (.int (nI (8 * t)))] [] (wd A L I J) 120 6588 := by
  refine am_go hK spL 300 ?_
  repeat' ((conv => whnf); first | (refine And.intro (a := vq _ _) (by unfold vq; (try simp (disch := omega) only [Nat.reduceAdd, qc_i, qc_r, qc_n, qc_l, wd, nI_1, aI2, aI3, aI4, aI5, aI6, aI7, aI8, nI_clamp]); rw [nI_toInt (by omega)]; omega) ?_) | (refine And.intro (fun c => absurd c i10) (fun _ => ?_)) | (refine And.intro (fun _ => ?_) (fun c => absurd c i10)) | (refine And.intro (fun c => absurd rfl c) (fun _ => ?_)) | (refine And.intro (fun _ => ?_) (fun c => absurd rfl c)) | (refine And.intro (fun c => absurd c i01) (fun _ => ?_)) | (refine And.intro (fun _ => ?_) (fun c => absurd c i01)) | fail); all_goals (try (conv => whnf))
  refine And.intro (Ct_q (Ct_g _ (n_body (d := 51) _ _ _ hI)) (fun v w hv => ?_)) trivial
  obtain ⟨⟨x, rfl, h2⟩, hw⟩ := hv
  have hwb : Nat.ble 64 w.1 = true := lw_b hw
  repeat' ((conv => whnf); first | (refine And.intro (a := vq _ _) (by unfold vq; (try simp (disch := omega) only [Nat.reduceAdd, qc_i, qc_r, qc_n, qc_l, wd, nI_1, aI2, aI3, aI4, aI5, aI6, aI7, aI8, nI_clamp]); rw [nI_toInt (by omega)]; omega) ?_) | (refine And.intro (fun c => absurd c i10) (fun _ => ?_)) | (refine And.intro (fun _ => ?_) (fun c => absurd c i10)) | (refine And.intro (fun c => absurd rfl c) (fun _ => ?_)) | (refine And.intro (fun _ => ?_) (fun c => absurd rfl c)) | (refine And.intro (fun c => absurd c i01) (fun _ => ?_)) | (refine And.intro (fun _ => ?_) (fun c => absurd c i01)) | fail); all_goals (try (conv => whnf))
  rw [hwb]
  (conv => whnf)
  refine And.intro (Ct_q h2 (fun v' w' hv' => ?_)) trivial
  obtain ⟨rfl, A', L', I', J', rfl, hW⟩ := hv'
  repeat' ((conv => whnf); first | (refine And.intro (a := vq _ _) (by unfold vq; (try simp (disch := omega) only [Nat.reduceAdd, qc_i, qc_r, qc_n, qc_l, wd, nI_1, aI2, aI3, aI4, aI5, aI6, aI7, aI8, nI_clamp]); rw [nI_toInt (by omega)]; omega) ?_) | (refine And.intro (fun c => absurd c i10) (fun _ => ?_)) | (refine And.intro (fun _ => ?_) (fun c => absurd c i10)) | (refine And.intro (fun c => absurd rfl c) (fun _ => ?_)) | (refine And.intro (fun _ => ?_) (fun c => absurd rfl c)) | (refine And.intro (fun c => absurd c i01) (fun _ => ?_)) | (refine And.intro (fun _ => ?_) (fun c => absurd c i01)) | fail); all_goals (try (conv => whnf))
  refine am_go hK spL 300 ?_
  (conv => whnf)
  simp (disch := omega) only [Nat.reduceAdd, qc_i, qc_r, qc_n, qc_l, wd, nI_1, aI2, aI3, aI4, aI5, aI6, aI7, aI8, nI_clamp]
  exact hX A' L' I' J' hW
set_option maxHeartbeats 8000000 in
theorem lw_28 (hK : am_cl sc (Ct sc 60) 333 Q K) (ht : 8 * t + 8 ≤ sc.1) (hs : sc.1 ≤ 4096) (hI : Inv A I J r q n) (hX : ∀ A L I J, InvW A L I J → K 18 [some (.ref 0), some (.ref 1), some (.ref 64), some (.int (nI (8 * (t + 1))))] [] (wd A L I J) 120 6588) : K 1487 [some (.ref 0), some (.ref 1), some (.ref 64), some (.int (nI (8 * t)))] [] (wd A L I J) 120 6588 := by
  refine am_go hK spL 300 ?_
  repeat' ((conv => whnf); first | (refine And.intro (a := vq _ _) (by unfold vq; (try simp (disch := omega) only [Nat.reduceAdd, qc_i, qc_r, qc_n, qc_l, wd, nI_1, aI2, aI3, aI4, aI5, aI6, aI7, aI8, nI_clamp]); rw [nI_toInt (by omega)]; omega) ?_) | (refine And.intro (fun c => absurd c i10) (fun _ => ?_)) | (refine And.intro (fun _ => ?_) (fun c => absurd c i10)) | (refine And.intro (fun c => absurd rfl c) (fun _ => ?_)) | (refine And.intro (fun _ => ?_) (fun c => absurd rfl c)) | (refine And.intro (fun c => absurd c i01) (fun _ => ?_)) | (refine And.intro (fun _ => ?_) (fun c => absurd c i01)) | fail); all_goals (try (conv => whnf))
  refine And.intro (Ct_q (Ct_g _ (n_vote (d := 51) _ _ _ hI)) (fun v w hv => ?_)) trivial
  obtain ⟨⟨x, rfl, h2⟩, hw⟩ := hv
  have hwb : Nat.ble 64 w.1 = true := lw_b hw
  repeat' ((conv => whnf); first | (refine And.intro (a := vq _ _) (by unfold vq; (try simp (disch := omega) only [Nat.reduceAdd, qc_i, qc_r, qc_n, qc_l, wd, nI_1, aI2, aI3, aI4, aI5, aI6, aI7, aI8, nI_clamp]); rw [nI_toInt (by omega)]; omega) ?_) | (refine And.intro (fun c => absurd c i10) (fun _ => ?_)) | (refine And.intro (fun _ => ?_) (fun c => absurd c i10)) | (refine And.intro (fun c => absurd rfl c) (fun _ => ?_)) | (refine And.intro (fun _ => ?_) (fun c => absurd rfl c)) | (refine And.intro (fun c => absurd c i01) (fun _ => ?_)) | (refine And.intro (fun _ => ?_) (fun c => absurd c i01)) | fail); all_goals (try (conv => whnf))
  rw [hwb]
  (conv => whnf)
  refine And.intro (Ct_q h2 (fun v' w' hv' => ?_)) trivial
  obtain ⟨rfl, A', L', I', J', rfl, hW⟩ := hv'
  repeat' ((conv => whnf); first | (refine And.intro (a := vq _ _) (by unfold vq; (try simp (disch := omega) only [Nat.reduceAdd, qc_i, qc_r, qc_n, qc_l, wd, nI_1, aI2, aI3, aI4, aI5, aI6, aI7, aI8, nI_clamp]); rw [nI_toInt (by omega)]; omega) ?_) | (refine And.intro (fun c => absurd c i10) (fun _ => ?_)) | (refine And.intro (fun _ => ?_) (fun c => absurd c i10)) | (refine And.intro (fun c => absurd rfl c) (fun _ => ?_)) | (refine And.intro (fun _ => ?_) (fun c => absurd rfl c)) | (refine And.intro (fun c => absurd c i01) (fun _ => ?_)) | (refine And.intro (fun _ => ?_) (fun c => absurd c i01)) | fail); all_goals (try (conv => whnf))
  refine am_go hK spL 300 ?_
  (conv => whnf)
  simp (disch := omega) only [Nat.reduceAdd, qc_i, qc_r, qc_n, qc_l, wd, nI_1, aI2, aI3, aI4, aI5, aI6, aI7, aI8, nI_clamp]
  exact hX A' L' I' J' hW
set_option maxHeartbeats 8000000 in
theorem lw_29 (hK : am_cl sc (Ct sc 60) 333 Q K) (ht : 8 * t + 8 ≤ sc.1) (hs : sc.1 ≤ 4096) (hI : Inv A I J r q n) (hX : ∀ A L I J, InvW A L I J → K 18 [some (.ref 0), some (.ref 1), some (.ref 64), some (.int (nI (8 * (t + 1))))] [] (wd A L I J) 120 6588) : K 1530 [some (.ref 0), some (.ref 1), some (.ref 64), some (.int (nI (8 * t)))] [] (wd A L I J) 120 6588 := by
  refine am_go hK spL 300 ?_
  repeat' ((conv => whnf); first | (refine And.intro (a := vq _ _) (by unfold vq; (try simp (disch := omega) only [Nat.reduceAdd, qc_i, qc_r, qc_n, qc_l, wd, nI_1, aI2, aI3, aI4, aI5, aI6, aI7, aI8, nI_clamp]); rw [nI_toInt (by omega)]; omega) ?_) | (refine And.intro (fun c => absurd c i10) (fun _ => ?_)) | (refine And.intro (fun _ => ?_) (fun c => absurd c i10)) | (refine And.intro (fun c => absurd rfl c) (fun _ => ?_)) | (refine And.intro (fun _ => ?_) (fun c => absurd rfl c)) | (refine And.intro (fun c => absurd c i01) (fun _ => ?_)) | (refine And.intro (fun _ => ?_) (fun c => absurd c i01)) | fail); all_goals (try (conv => whnf))
  refine And.intro (Ct_q (Ct_g _ (n_beyond (d := 51) _ hI)) (fun v w hv => ?_)) trivial
  obtain ⟨⟨x, rfl, h2⟩, hw⟩ := hv
  have hwb : Nat.ble 64 w.1 = true := lw_b hw
  repeat' ((conv => whnf); first | (refine And.intro (a := vq _ _) (by unfold vq; (try simp (disch := omega) only [Nat.reduceAdd, qc_i, qc_r, qc_n, qc_l, wd, nI_1, aI2, aI3, aI4, aI5, aI6, aI7, aI8, nI_clamp]); rw [nI_toInt (by omega)]; omega) ?_) | (refine And.intro (fun c => absurd c i10) (fun _ => ?_)) | (refine And.intro (fun _ => ?_) (fun c => absurd c i10)) | (refine And.intro (fun c => absurd rfl c) (fun _ => ?_)) | (refine And.intro (fun _ => ?_) (fun c => absurd rfl c)) | (refine And.intro (fun c => absurd c i01) (fun _ => ?_)) | (refine And.intro (fun _ => ?_) (fun c => absurd c i01)) | fail); all_goals (try (conv => whnf))
  rw [hwb]
  (conv => whnf)
  refine And.intro (Ct_q h2 (fun v' w' hv' => ?_)) trivial
  obtain ⟨rfl, A', L', I', J', rfl, hW⟩ := hv'
  repeat' ((conv => whnf); first | (refine And.intro (a := vq _ _) (by unfold vq; (try simp (disch := omega) only [Nat.reduceAdd, qc_i, qc_r, qc_n, qc_l, wd, nI_1, aI2, aI3, aI4, aI5, aI6, aI7, aI8, nI_clamp]); rw [nI_toInt (by omega)]; omega) ?_) | (refine And.intro (fun c => absurd c i10) (fun _ => ?_)) | (refine And.intro (fun _ => ?_) (fun c => absurd c i10)) | (refine And.intro (fun c => absurd rfl c) (fun _ => ?_)) | (refine And.intro (fun _ => ?_) (fun c => absurd rfl c)) | (refine And.intro (fun c => absurd c i01) (fun _ => ?_)) | (refine And.intro (fun _ => ?_) (fun c => absurd c i01)) | fail); all_goals (try (conv => whnf))
  refine am_go hK spL 300 ?_
  (conv => whnf)
  simp (disch := omega) only [Nat.reduceAdd, qc_i, qc_r, qc_n, qc_l, wd, nI_1, aI2, aI3, aI4, aI5, aI6, aI7, aI8, nI_clamp]
  exact hX A' L' I' J' hW
set_option maxHeartbeats 8000000 in
theorem lw_30 (hK : am_cl sc (Ct sc 60) 333 Q K) (ht : 8 * t + 8 ≤ sc.1) (hs : sc.1 ≤ 4096) (hI : Inv A I J r q n) (hX : ∀ A L I J, InvW A L I J → K 18 [some (.ref 0), some (.ref 1), some (.ref 64), some (.int (nI (8 * (t + 1))))] [] (wd A L I J) 120 6588) : K 1553 [some (.ref 0), some (.ref 1), some (.ref 64), some (.int (nI (8 * t)))] [] (wd A L I J) 120 6588 := by
  refine am_go hK spL 300 ?_
  repeat' ((conv => whnf); first | (refine And.intro (a := vq _ _) (by unfold vq; (try simp (disch := omega) only [Nat.reduceAdd, qc_i, qc_r, qc_n, qc_l, wd, nI_1, aI2, aI3, aI4, aI5, aI6, aI7, aI8, nI_clamp]); rw [nI_toInt (by omega)]; omega) ?_) | (refine And.intro (fun c => absurd c i10) (fun _ => ?_)) | (refine And.intro (fun _ => ?_) (fun c => absurd c i10)) | (refine And.intro (fun c => absurd rfl c) (fun _ => ?_)) | (refine And.intro (fun _ => ?_) (fun c => absurd rfl c)) | (refine And.intro (fun c => absurd c i01) (fun _ => ?_)) | (refine And.intro (fun _ => ?_) (fun c => absurd c i01)) | fail); all_goals (try (conv => whnf))
  refine And.intro (Ct_q (Ct_g _ (n_seats (d := 51) hI)) (fun v w hv => ?_)) trivial
  obtain ⟨⟨x, rfl, h2⟩, hw⟩ := hv
  have hwb : Nat.ble 64 w.1 = true := lw_b hw
  (conv => whnf)
  rw [hwb]
  (conv => whnf)
  refine And.intro (Ct_q h2 (fun v' w' hv' => ?_)) trivial
  obtain ⟨rfl, A', L', I', J', rfl, hW⟩ := hv'
  repeat' ((conv => whnf); first | (refine And.intro (a := vq _ _) (by unfold vq; (try simp (disch := omega) only [Nat.reduceAdd, qc_i, qc_r, qc_n, qc_l, wd, nI_1, aI2, aI3, aI4, aI5, aI6, aI7, aI8, nI_clamp]); rw [nI_toInt (by omega)]; omega) ?_) | (refine And.intro (fun c => absurd c i10) (fun _ => ?_)) | (refine And.intro (fun _ => ?_) (fun c => absurd c i10)) | (refine And.intro (fun c => absurd rfl c) (fun _ => ?_)) | (refine And.intro (fun _ => ?_) (fun c => absurd rfl c)) | (refine And.intro (fun c => absurd c i01) (fun _ => ?_)) | (refine And.intro (fun _ => ?_) (fun c => absurd c i01)) | fail); all_goals (try (conv => whnf))
  refine am_go hK spL 300 ?_
  (conv => whnf)
  simp (disch := omega) only [Nat.reduceAdd, qc_i, qc_r, qc_n, qc_l, wd, nI_1, aI2, aI3, aI4, aI5, aI6, aI7, aI8, nI_clamp]
  exact hX A' L' I' J' hW
set_option maxHeartbeats 8000000 in
theorem lw_31 (hK : am_cl sc (Ct sc 60) 333 Q K) (ht : 8 * t + 8 ≤ sc.1) (hs : sc.1 ≤ 4096) (hI : Inv A I J r q n) (hX : ∀ A L I J, InvW A L I J → K 18 [some (.ref 0), some (.ref 1), some (.ref 64), some (.int (nI (8 * (t + 1))))] [] (wd A L I J) 120 6588) : K 1566 [some (.ref 0), some (.ref 1), some (.ref 64), some (.int (nI (8 * t)))] [] (wd A L I J) 120 6588 := by
  refine am_go hK spL 300 ?_
  repeat' ((conv => whnf); first | (refine And.intro (a := vq _ _) (by unfold vq; (try simp (disch := omega) only [Nat.reduceAdd, qc_i, qc_r, qc_n, qc_l, wd, nI_1, aI2, aI3, aI4, aI5, aI6, aI7, aI8, nI_clamp]); rw [nI_toInt (by omega)]; omega) ?_) | (refine And.intro (fun c => absurd c i10) (fun _ => ?_)) | (refine And.intro (fun _ => ?_) (fun c => absurd c i10)) | (refine And.intro (fun c => absurd rfl c) (fun _ => ?_)) | (refine And.intro (fun _ => ?_) (fun c => absurd rfl c)) | (refine And.intro (fun c => absurd c i01) (fun _ => ?_)) | (refine And.intro (fun _ => ?_) (fun c => absurd c i01)) | fail); all_goals (try (conv => whnf))
  refine And.intro (Ct_q (Ct_g _ (n_letters (d := 51) _ _ _ hI)) (fun v w hv => ?_)) trivial
  obtain ⟨⟨x, rfl, h2⟩, hw⟩ := hv
  have hwb : Nat.ble 64 w.1 = true := lw_b hw
  repeat' ((conv => whnf); first | (refine And.intro (a := vq _ _) (by unfold vq; (try simp (disch := omega) only [Nat.reduceAdd, qc_i, qc_r, qc_n, qc_l, wd, nI_1, aI2, aI3, aI4, aI5, aI6, aI7, aI8, nI_clamp]); rw [nI_toInt (by omega)]; omega) ?_) | (refine And.intro (fun c => absurd c i10) (fun _ => ?_)) | (refine And.intro (fun _ => ?_) (fun c => absurd c i10)) | (refine And.intro (fun c => absurd rfl c) (fun _ => ?_)) | (refine And.intro (fun _ => ?_) (fun c => absurd rfl c)) | (refine And.intro (fun c => absurd c i01) (fun _ => ?_)) | (refine And.intro (fun _ => ?_) (fun c => absurd c i01)) | fail); all_goals (try (conv => whnf))
  rw [hwb]
  (conv => whnf)
  refine And.intro (Ct_q h2 (fun v' w' hv' => ?_)) trivial
  obtain ⟨rfl, A', L', I', J', rfl, hW⟩ := hv'
  repeat' ((conv => whnf); first | (refine And.intro (a := vq _ _) (by unfold vq; (try simp (disch := omega) only [Nat.reduceAdd, qc_i, qc_r, qc_n, qc_l, wd, nI_1, aI2, aI3, aI4, aI5, aI6, aI7, aI8, nI_clamp]); rw [nI_toInt (by omega)]; omega) ?_) | (refine And.intro (fun c => absurd c i10) (fun _ => ?_)) | (refine And.intro (fun _ => ?_) (fun c => absurd c i10)) | (refine And.intro (fun c => absurd rfl c) (fun _ => ?_)) | (refine And.intro (fun _ => ?_) (fun c => absurd rfl c)) | (refine And.intro (fun c => absurd c i01) (fun _ => ?_)) | (refine And.intro (fun _ => ?_) (fun c => absurd c i01)) | fail); all_goals (try (conv => whnf))
  refine am_go hK spL 300 ?_
  (conv => whnf)
  simp (disch := omega) only [Nat.reduceAdd, qc_i, qc_r, qc_n, qc_l, wd, nI_1, aI2, aI3, aI4, aI5, aI6, aI7, aI8, nI_clamp]
  exact hX A' L' I' J' hW
set_option maxHeartbeats 8000000 in
theorem lw_32 (hK : am_cl sc (Ct sc 60) 333 Q K) (ht : 8 * t + 8 ≤ sc.1) (hs : sc.1 ≤ 4096) (hI : Inv A I J r q n) (hX : ∀ A L I J, InvW A L I J → K 18 [some (.ref 0), some (.ref 1), some (.ref 64), some (.int (nI (8 * (t + 1))))] [] (wd A L I J) 120 6588) : K 1609 [some (.ref 0), some (.ref 1), some (.ref 64), some (.int (nI (8 * t)))] [] (wd A L I J) 120 6588 := by
  refine am_go hK spL 300 ?_
  repeat' ((conv => whnf); first | (refine And.intro (a := vq _ _) (by unfold vq; (try simp (disch := omega) only [Nat.reduceAdd, qc_i, qc_r, qc_n, qc_l, wd, nI_1, aI2, aI3, aI4, aI5, aI6, aI7, aI8, nI_clamp]); rw [nI_toInt (by omega)]; omega) ?_) | (refine And.intro (fun c => absurd c i10) (fun _ => ?_)) | (refine And.intro (fun _ => ?_) (fun c => absurd c i10)) | (refine And.intro (fun c => absurd rfl c) (fun _ => ?_)) | (refine And.intro (fun _ => ?_) (fun c => absurd rfl c)) | (refine And.intro (fun c => absurd c i01) (fun _ => ?_)) | (refine And.intro (fun _ => ?_) (fun c => absurd c i01)) | fail); all_goals (try (conv => whnf))
  refine And.intro (Ct_q (Ct_g _ (n_part (d := 41) _ _ _ hI)) (fun v w hv => ?_)) trivial
  obtain ⟨⟨x, rfl, h2⟩, hw⟩ := hv
  have hwb : Nat.ble 64 w.1 = true := lw_b hw
  repeat' ((conv => whnf); first | (refine And.intro (a := vq _ _) (by unfold vq; (try simp (disch := omega) only [Nat.reduceAdd, qc_i, qc_r, qc_n, qc_l, wd, nI_1, aI2, aI3, aI4, aI5, aI6, aI7, aI8, nI_clamp]); rw [nI_toInt (by omega)]; omega) ?_) | (refine And.intro (fun c => absurd c i10) (fun _ => ?_)) | (refine And.intro (fun _ => ?_) (fun c => absurd c i10)) | (refine And.intro (fun c => absurd rfl c) (fun _ => ?_)) | (refine And.intro (fun _ => ?_) (fun c => absurd rfl c)) | (refine And.intro (fun c => absurd c i01) (fun _ => ?_)) | (refine And.intro (fun _ => ?_) (fun c => absurd c i01)) | fail); all_goals (try (conv => whnf))
  rw [hwb]
  (conv => whnf)
  refine And.intro (Ct_q h2 (fun v' w' hv' => ?_)) trivial
  obtain ⟨rfl, A', L', I', J', rfl, hW⟩ := hv'
  repeat' ((conv => whnf); first | (refine And.intro (a := vq _ _) (by unfold vq; (try simp (disch := omega) only [Nat.reduceAdd, qc_i, qc_r, qc_n, qc_l, wd, nI_1, aI2, aI3, aI4, aI5, aI6, aI7, aI8, nI_clamp]); rw [nI_toInt (by omega)]; omega) ?_) | (refine And.intro (fun c => absurd c i10) (fun _ => ?_)) | (refine And.intro (fun _ => ?_) (fun c => absurd c i10)) | (refine And.intro (fun c => absurd rfl c) (fun _ => ?_)) | (refine And.intro (fun _ => ?_) (fun c => absurd rfl c)) | (refine And.intro (fun c => absurd c i01) (fun _ => ?_)) | (refine And.intro (fun _ => ?_) (fun c => absurd c i01)) | fail); all_goals (try (conv => whnf))
  refine am_go hK spL 300 ?_
  (conv => whnf)
  simp (disch := omega) only [Nat.reduceAdd, qc_i, qc_r, qc_n, qc_l, wd, nI_1, aI2, aI3, aI4, aI5, aI6, aI7, aI8, nI_clamp]
  exact hX A' L' I' J' hW
set_option maxHeartbeats 8000000 in
theorem lw_33 (hK : am_cl sc (Ct sc 60) 333 Q K) (ht : 8 * t + 8 ≤ sc.1) (hs : sc.1 ≤ 4096) (hI : Inv A I J r q n) (hX : ∀ A L I J, InvW A L I J → K 18 [some (.ref 0), some (.ref 1), some (.ref 64), some (.int (nI (8 * (t + 1))))] [] (wd A L I J) 120 6588) : K 1652 [some (.ref 0), some (.ref 1), some (.ref 64), some (.int (nI (8 * t)))] [] (wd A L I J) 120 6588 := by
  refine am_go hK spL 300 ?_
  repeat' ((conv => whnf); first | (refine And.intro (a := vq _ _) (by unfold vq; (try simp (disch := omega) only [Nat.reduceAdd, qc_i, qc_r, qc_n, qc_l, wd, nI_1, aI2, aI3, aI4, aI5, aI6, aI7, aI8, nI_clamp]); rw [nI_toInt (by omega)]; omega) ?_) | (refine And.intro (fun c => absurd c i10) (fun _ => ?_)) | (refine And.intro (fun _ => ?_) (fun c => absurd c i10)) | (refine And.intro (fun c => absurd rfl c) (fun _ => ?_)) | (refine And.intro (fun _ => ?_) (fun c => absurd rfl c)) | (refine And.intro (fun c => absurd c i01) (fun _ => ?_)) | (refine And.intro (fun _ => ?_) (fun c => absurd c i01)) | fail); all_goals (try (conv => whnf))
  refine And.intro (Ct_q (Ct_g _ (n_uses (d := 51) _ _ hI)) (fun v w hv => ?_)) trivial
  obtain ⟨⟨x, rfl, h2⟩, hw⟩ := hv
  have hwb : Nat.ble 64 w.1 = true := lw_b hw
  repeat' ((conv => whnf); first | (refine And.intro (a := vq _ _) (by unfold vq; (try simp (disch := omega) only [Nat.reduceAdd, qc_i, qc_r, qc_n, qc_l, wd, nI_1, aI2, aI3, aI4, aI5, aI6, aI7, aI8, nI_clamp]); rw [nI_toInt (by omega)]; omega) ?_) | (refine And.intro (fun c => absurd c i10) (fun _ => ?_)) | (refine And.intro (fun _ => ?_) (fun c => absurd c i10)) | (refine And.intro (fun c => absurd rfl c) (fun _ => ?_)) | (refine And.intro (fun _ => ?_) (fun c => absurd rfl c)) | (refine And.intro (fun c => absurd c i01) (fun _ => ?_)) | (refine And.intro (fun _ => ?_) (fun c => absurd c i01)) | fail); all_goals (try (conv => whnf))
  rw [hwb]
  (conv => whnf)
  refine And.intro (Ct_q h2 (fun v' w' hv' => ?_)) trivial
  obtain ⟨rfl, A', L', I', J', rfl, hW⟩ := hv'
  repeat' ((conv => whnf); first | (refine And.intro (a := vq _ _) (by unfold vq; (try simp (disch := omega) only [Nat.reduceAdd, qc_i, qc_r, qc_n, qc_l, wd, nI_1, aI2, aI3, aI4, aI5, aI6, aI7, aI8, nI_clamp]); rw [nI_toInt (by omega)]; omega) ?_) | (refine And.intro (fun c => absurd c i10) (fun _ => ?_)) | (refine And.intro (fun _ => ?_) (fun c => absurd c i10)) | (refine And.intro (fun c => absurd rfl c) (fun _ => ?_)) | (refine And.intro (fun _ => ?_) (fun c => absurd rfl c)) | (refine And.intro (fun c => absurd c i01) (fun _ => ?_)) | (refine And.intro (fun _ => ?_) (fun c => absurd c i01)) | fail); all_goals (try (conv => whnf))
  refine am_go hK spL 300 ?_
  (conv => whnf)
  simp (disch := omega) only [Nat.reduceAdd, qc_i, qc_r, qc_n, qc_l, wd, nI_1, aI2, aI3, aI4, aI5, aI6, aI7, aI8, nI_clamp]
  exact hX A' L' I' J' hW
set_option maxHeartbeats 8000000 in
theorem lw_34 (hK : am_cl sc (Ct sc 60) 333 Q K) (ht : 8 * t + 8 ≤ sc.1) (hs : sc.1 ≤ 4096) (hI : Inv A I J r q n) (hX : ∀ A L I J, InvW A L I J → K 18 [some (.ref 0), some (.ref 1), some (.ref 64), some (.int (nI (8 * (t + 1))))] [] (wd A L I J) 120 6588) : K 1685 [some (.ref 0), some (.ref 1), some (.ref 64), some (.int (nI (8 * t)))] [] (wd A L I J) 120 6588 := by
  refine am_go hK spL 300 ?_
  repeat' ((conv => whnf); first | (refine And.intro (a := vq _ _) (by unfold vq; (try simp (disch := omega) only [Nat.reduceAdd, qc_i, qc_r, qc_n, qc_l, wd, nI_1, aI2, aI3, aI4, aI5, aI6, aI7, aI8, nI_clamp]); rw [nI_toInt (by omega)]; omega) ?_) | (refine And.intro (fun c => absurd c i10) (fun _ => ?_)) | (refine And.intro (fun _ => ?_) (fun c => absurd c i10)) | (refine And.intro (fun c => absurd rfl c) (fun _ => ?_)) | (refine And.intro (fun _ => ?_) (fun c => absurd rfl c)) | (refine And.intro (fun c => absurd c i01) (fun _ => ?_)) | (refine And.intro (fun _ => ?_) (fun c => absurd c i01)) | fail); all_goals (try (conv => whnf))
  refine And.intro (Ct_q (Ct_g _ (n_pair (d := 51) _ _ hI)) (fun v w hv => ?_)) trivial
  obtain ⟨⟨x, rfl, h2⟩, hw⟩ := hv
  have hwb : Nat.ble 64 w.1 = true := lw_b hw
  repeat' ((conv => whnf); first | (refine And.intro (a := vq _ _) (by unfold vq; (try simp (disch := omega) only [Nat.reduceAdd, qc_i, qc_r, qc_n, qc_l, wd, nI_1, aI2, aI3, aI4, aI5, aI6, aI7, aI8, nI_clamp]); rw [nI_toInt (by omega)]; omega) ?_) | (refine And.intro (fun c => absurd c i10) (fun _ => ?_)) | (refine And.intro (fun _ => ?_) (fun c => absurd c i10)) | (refine And.intro (fun c => absurd rfl c) (fun _ => ?_)) | (refine And.intro (fun _ => ?_) (fun c => absurd rfl c)) | (refine And.intro (fun c => absurd c i01) (fun _ => ?_)) | (refine And.intro (fun _ => ?_) (fun c => absurd c i01)) | fail); all_goals (try (conv => whnf))
  rw [hwb]
  (conv => whnf)
  refine And.intro (Ct_q h2 (fun v' w' hv' => ?_)) trivial
  obtain ⟨rfl, A', L', I', J', rfl, hW⟩ := hv'
  repeat' ((conv => whnf); first | (refine And.intro (a := vq _ _) (by unfold vq; (try simp (disch := omega) only [Nat.reduceAdd, qc_i, qc_r, qc_n, qc_l, wd, nI_1, aI2, aI3, aI4, aI5, aI6, aI7, aI8, nI_clamp]); rw [nI_toInt (by omega)]; omega) ?_) | (refine And.intro (fun c => absurd c i10) (fun _ => ?_)) | (refine And.intro (fun _ => ?_) (fun c => absurd c i10)) | (refine And.intro (fun c => absurd rfl c) (fun _ => ?_)) | (refine And.intro (fun _ => ?_) (fun c => absurd rfl c)) | (refine And.intro (fun c => absurd c i01) (fun _ => ?_)) | (refine And.intro (fun _ => ?_) (fun c => absurd c i01)) | fail); all_goals (try (conv => whnf))
  refine am_go hK spL 300 ?_
  (conv => whnf)
  simp (disch := omega) only [Nat.reduceAdd, qc_i, qc_r, qc_n, qc_l, wd, nI_1, aI2, aI3, aI4, aI5, aI6, aI7, aI8, nI_clamp]
  exact hX A' L' I' J' hW
set_option maxHeartbeats 8000000 in
theorem lw_35 (hK : am_cl sc (Ct sc 60) 333 Q K) (ht : 8 * t + 8 ≤ sc.1) (hs : sc.1 ≤ 4096) (hI : Inv A I J r q n) (hX : ∀ A L I J, InvW A L I J → K 18 [some (.ref 0), some (.ref 1), some (.ref 64), some (.int (nI (8 * (t + 1))))] [] (wd A L I J) 120 6588) : K 1718 [some (.ref 0), some (.ref 1), some (.ref 64), some (.int (nI (8 * t)))] [] (wd A L I J) 120 6588 := by
  refine am_go hK spL 300 ?_
  repeat' ((conv => whnf); first | (refine And.intro (a := vq _ _) (by unfold vq; (try simp (disch := omega) only [Nat.reduceAdd, qc_i, qc_r, qc_n, qc_l, wd, nI_1, aI2, aI3, aI4, aI5, aI6, aI7, aI8, nI_clamp]); rw [nI_toInt (by omega)]; omega) ?_) | (refine And.intro (fun c => absurd c i10) (fun _ => ?_)) | (refine And.intro (fun _ => ?_) (fun c => absurd c i10)) | (refine And.intro (fun c => absurd rfl c) (fun _ => ?_)) | (refine And.intro (fun _ => ?_) (fun c => absurd rfl c)) | (refine And.intro (fun c => absurd c i01) (fun _ => ?_)) | (refine And.intro (fun _ => ?_) (fun c => absurd c i01)) | fail); all_goals (try (conv => whnf))
  refine And.intro (Ct_q (Ct_g _ (n_keep (d := 51) _ hI)) (fun v w hv => ?_)) trivial
  obtain ⟨⟨x, rfl, h2⟩, hw⟩ := hv
  have hwb : Nat.ble 64 w.1 = true := lw_b hw
  repeat' ((conv => whnf); first | (refine And.intro (a := vq _ _) (by unfold vq; (try simp (disch := omega) only [Nat.reduceAdd, qc_i, qc_r, qc_n, qc_l, wd, nI_1, aI2, aI3, aI4, aI5, aI6, aI7, aI8, nI_clamp]); rw [nI_toInt (by omega)]; omega) ?_) | (refine And.intro (fun c => absurd c i10) (fun _ => ?_)) | (refine And.intro (fun _ => ?_) (fun c => absurd c i10)) | (refine And.intro (fun c => absurd rfl c) (fun _ => ?_)) | (refine And.intro (fun _ => ?_) (fun c => absurd rfl c)) | (refine And.intro (fun c => absurd c i01) (fun _ => ?_)) | (refine And.intro (fun _ => ?_) (fun c => absurd c i01)) | fail); all_goals (try (conv => whnf))
  rw [hwb]
  (conv => whnf)
  refine And.intro (Ct_q h2 (fun v' w' hv' => ?_)) trivial
  obtain ⟨rfl, A', L', I', J', rfl, hW⟩ := hv'
  repeat' ((conv => whnf); first | (refine And.intro (a := vq _ _) (by unfold vq; (try simp (disch := omega) only [Nat.reduceAdd, qc_i, qc_r, qc_n, qc_l, wd, nI_1, aI2, aI3, aI4, aI5, aI6, aI7, aI8, nI_clamp]); rw [nI_toInt (by omega)]; omega) ?_) | (refine And.intro (fun c => absurd c i10) (fun _ => ?_)) | (refine And.intro (fun _ => ?_) (fun c => absurd c i10)) | (refine And.intro (fun c => absurd rfl c) (fun _ => ?_)) | (refine And.intro (fun _ => ?_) (fun c => absurd rfl c)) | (refine And.intro (fun c => absurd c i01) (fun _ => ?_)) | (refine And.intro (fun _ => ?_) (fun c => absurd c i01)) | fail); all_goals (try (conv => whnf))
  refine am_go hK spL 300 ?_
  (conv => whnf)
  simp (disch := omega) only [Nat.reduceAdd, qc_i, qc_r, qc_n, qc_l, wd, nI_1, aI2, aI3, aI4, aI5, aI6, aI7, aI8, nI_clamp]
  exact hX A' L' I' J' hW
set_option maxHeartbeats 8000000 in
theorem lw_36 (hK : am_cl sc (Ct sc 60) 333 Q K) (ht : 8 * t + 8 ≤ sc.1) (hs : sc.1 ≤ 4096) (hI : Inv A I J r q n) (hX : ∀ A L I J, InvW A L I J → K 18 [some (.ref 0), some (.ref 1), some (.ref 64), some (.int (nI (8 * (t + 1))))] [] (wd A L I J) 120 6588) : K 1741 [some (.ref 0), some (.ref 1), some (.ref 64), some (.int (nI (8 * t)))] [] (wd A L I J) 120 6588 := by
  refine am_go hK spL 300 ?_
  repeat' ((conv => whnf); first | (refine And.intro (a := vq _ _) (by unfold vq; (try simp (disch := omega) only [Nat.reduceAdd, qc_i, qc_r, qc_n, qc_l, wd, nI_1, aI2, aI3, aI4, aI5, aI6, aI7, aI8, nI_clamp]); rw [nI_toInt (by omega)]; omega) ?_) | (refine And.intro (fun c => absurd c i10) (fun _ => ?_)) | (refine And.intro (fun _ => ?_) (fun c => absurd c i10)) | (refine And.intro (fun c => absurd rfl c) (fun _ => ?_)) | (refine And.intro (fun _ => ?_) (fun c => absurd rfl c)) | (refine And.intro (fun c => absurd c i01) (fun _ => ?_)) | (refine And.intro (fun _ => ?_) (fun c => absurd c i01)) | fail); all_goals (try (conv => whnf))
  refine And.intro (Ct_q (Ct_g _ (n_session (d := 51) _ hI)) (fun v w hv => ?_)) trivial
  obtain ⟨⟨x, rfl, h2⟩, hw⟩ := hv
  have hwb : Nat.ble 64 w.1 = true := lw_b hw
  repeat' ((conv => whnf); first | (refine And.intro (a := vq _ _) (by unfold vq; (try simp (disch := omega) only [Nat.reduceAdd, qc_i, qc_r, qc_n, qc_l, wd, nI_1, aI2, aI3, aI4, aI5, aI6, aI7, aI8, nI_clamp]); rw [nI_toInt (by omega)]; omega) ?_) | (refine And.intro (fun c => absurd c i10) (fun _ => ?_)) | (refine And.intro (fun _ => ?_) (fun c => absurd c i10)) | (refine And.intro (fun c => absurd rfl c) (fun _ => ?_)) | (refine And.intro (fun _ => ?_) (fun c => absurd rfl c)) | (refine And.intro (fun c => absurd c i01) (fun _ => ?_)) | (refine And.intro (fun _ => ?_) (fun c => absurd c i01)) | fail); all_goals (try (conv => whnf))
  rw [hwb]
  (conv => whnf)
  refine And.intro (Ct_q h2 (fun v' w' hv' => ?_)) trivial
  obtain ⟨rfl, A', L', I', J', rfl, hW⟩ := hv'
  repeat' ((conv => whnf); first | (refine And.intro (a := vq _ _) (by unfold vq; (try simp (disch := omega) only [Nat.reduceAdd, qc_i, qc_r, qc_n, qc_l, wd, nI_1, aI2, aI3, aI4, aI5, aI6, aI7, aI8, nI_clamp]); rw [nI_toInt (by omega)]; omega) ?_) | (refine And.intro (fun c => absurd c i10) (fun _ => ?_)) | (refine And.intro (fun _ => ?_) (fun c => absurd c i10)) | (refine And.intro (fun c => absurd rfl c) (fun _ => ?_)) | (refine And.intro (fun _ => ?_) (fun c => absurd rfl c)) | (refine And.intro (fun c => absurd c i01) (fun _ => ?_)) | (refine And.intro (fun _ => ?_) (fun c => absurd c i01)) | fail); all_goals (try (conv => whnf))
  refine am_go hK spL 300 ?_
  (conv => whnf)
  simp (disch := omega) only [Nat.reduceAdd, qc_i, qc_r, qc_n, qc_l, wd, nI_1, aI2, aI3, aI4, aI5, aI6, aI7, aI8, nI_clamp]
  exact hX A' L' I' J' hW
set_option maxHeartbeats 8000000 in
theorem lw_37 (hK : am_cl sc (Ct sc 60) 333 Q K) (ht : 8 * t + 8 ≤ sc.1) (hs : sc.1 ≤ 4096) (hI : Inv A I J r q n) (hX : ∀ A L I J, InvW A L I J → K 18 [some (.ref 0), some (.ref 1), some (.ref 64), some (.int (nI (8 * (t + 1))))] [] (wd A L I J) 120 6588) : K 1764 [some (.ref 0), some (.ref 1), some (.ref 64), some (.int (nI (8 * t)))] [] (wd A L I J) 120 6588 := by
  refine am_go hK spL 300 ?_
  repeat' ((conv => whnf); first | (refine And.intro (a := vq _ _) (by unfold vq; (try simp (disch := omega) only [Nat.reduceAdd, qc_i, qc_r, qc_n, qc_l, wd, nI_1, aI2, aI3, aI4, aI5, aI6, aI7, aI8, nI_clamp]); rw [nI_toInt (by omega)]; omega) ?_) | (refine And.intro (fun c => absurd c i10) (fun _ => ?_)) | (refine And.intro (fun _ => ?_) (fun c => absurd c i10)) | (refine And.intro (fun c => absurd rfl c) (fun _ => ?_)) | (refine And.intro (fun _ => ?_) (fun c => absurd rfl c)) | (refine And.intro (fun c => absurd c i01) (fun _ => ?_)) | (refine And.intro (fun _ => ?_) (fun c => absurd c i01)) | fail); all_goals (try (conv => whnf))
  refine And.intro (Ct_q (Ct_g _ (n_hall (d := 51) _ _ hI)) (fun v w hv => ?_)) trivial
  obtain ⟨⟨x, rfl, h2⟩, hw⟩ := hv
  have hwb : Nat.ble 64 w.1 = true := lw_b hw
  repeat' ((conv => whnf); first | (refine And.intro (a := vq _ _) (by unfold vq; (try simp (disch := omega) only [Nat.reduceAdd, qc_i, qc_r, qc_n, qc_l, wd, nI_1, aI2, aI3, aI4, aI5, aI6, aI7, aI8, nI_clamp]); rw [nI_toInt (by omega)]; omega) ?_) | (refine And.intro (fun c => absurd c i10) (fun _ => ?_)) | (refine And.intro (fun _ => ?_) (fun c => absurd c i10)) | (refine And.intro (fun c => absurd rfl c) (fun _ => ?_)) | (refine And.intro (fun _ => ?_) (fun c => absurd rfl c)) | (refine And.intro (fun c => absurd c i01) (fun _ => ?_)) | (refine And.intro (fun _ => ?_) (fun c => absurd c i01)) | fail); all_goals (try (conv => whnf))
  rw [hwb]
  (conv => whnf)
  refine And.intro (Ct_q h2 (fun v' w' hv' => ?_)) trivial
  obtain ⟨rfl, A', L', I', J', rfl, hW⟩ := hv'
  repeat' ((conv => whnf); first | (refine And.intro (a := vq _ _) (by unfold vq; (try simp (disch := omega) only [Nat.reduceAdd, qc_i, qc_r, qc_n, qc_l, wd, nI_1, aI2, aI3, aI4, aI5, aI6, aI7, aI8, nI_clamp]); rw [nI_toInt (by omega)]; omega) ?_) | (refine And.intro (fun c => absurd c i10) (fun _ => ?_)) | (refine And.intro (fun _ => ?_) (fun c => absurd c i10)) | (refine And.intro (fun c => absurd rfl c) (fun _ => ?_)) | (refine And.intro (fun _ => ?_) (fun c => absurd rfl c)) | (refine And.intro (fun c => absurd c i01) (fun _ => ?_)) | (refine And.intro (fun _ => ?_) (fun c => absurd c i01)) | fail); all_goals (try (conv => whnf))
  refine am_go hK spL 300 ?_
  (conv => whnf)
  simp (disch := omega) only [Nat.reduceAdd, qc_i, qc_r, qc_n, qc_l, wd, nI_1, aI2, aI3, aI4, aI5, aI6, aI7, aI8, nI_clamp]
  exact hX A' L' I' J' hW
set_option maxHeartbeats 8000000 in
theorem lw_38 (hK : am_cl sc (Ct sc 60) 333 Q K) (ht : 8 * t + 8 ≤ sc.1) (hs : sc.1 ≤ 4096) (hI : Inv A I J r q n) (hX : ∀ A L I J, InvW A L I J → K 18 [some (.ref 0), some (.ref 1), some (.ref 64), some (.int (nI (8 * (t + 1))))] [] (wd A L I J) 120 6588) : K 1797 [some (.ref 0), some (.ref 1), some (.ref 64), some (.int (nI (8 * t)))] [] (wd A L I J) 120 6588 := by
  refine am_go hK spL 300 ?_
  repeat' ((conv => whnf); first | (refine And.intro (a := vq _ _) (by unfold vq; (try simp (disch := omega) only [Nat.reduceAdd, qc_i, qc_r, qc_n, qc_l, wd, nI_1, aI2, aI3, aI4, aI5, aI6, aI7, aI8, nI_clamp]); rw [nI_toInt (by omega)]; omega) ?_) | (refine And.intro (fun c => absurd c i10) (fun _ => ?_)) | (refine And.intro (fun _ => ?_) (fun c => absurd c i10)) | (refine And.intro (fun c => absurd rfl c) (fun _ => ?_)) | (refine And.intro (fun _ => ?_) (fun c => absurd rfl c)) | (refine And.intro (fun c => absurd c i01) (fun _ => ?_)) | (refine And.intro (fun _ => ?_) (fun c => absurd c i01)) | fail); all_goals (try (conv => whnf))
  refine And.intro (Ct_q (Ct_g _ (n_table (d := 48) _ hI)) (fun v w hv => ?_)) trivial
  obtain ⟨⟨x, rfl, h2⟩, hw⟩ := hv
  have hwb : Nat.ble 64 w.1 = true := lw_b hw
  repeat' ((conv => whnf); first | (refine And.intro (a := vq _ _) (by unfold vq; (try simp (disch := omega) only [Nat.reduceAdd, qc_i, qc_r, qc_n, qc_l, wd, nI_1, aI2, aI3, aI4, aI5, aI6, aI7, aI8, nI_clamp]); rw [nI_toInt (by omega)]; omega) ?_) | (refine And.intro (fun c => absurd c i10) (fun _ => ?_)) | (refine And.intro (fun _ => ?_) (fun c => absurd c i10)) | (refine And.intro (fun c => absurd rfl c) (fun _ => ?_)) | (refine And.intro (fun _ => ?_) (fun c => absurd rfl c)) | (refine And.intro (fun c => absurd c i01) (fun _ => ?_)) | (refine And.intro (fun _ => ?_) (fun c => absurd c i01)) | fail); all_goals (try (conv => whnf))
  rw [hwb]
  (conv => whnf)
  refine And.intro (Ct_q h2 (fun v' w' hv' => ?_)) trivial
  obtain ⟨rfl, A', L', I', J', rfl, hW⟩ := hv'
  repeat' ((conv => whnf); first | (refine And.intro (a := vq _ _) (by unfold vq; (try simp (disch := omega) only [Nat.reduceAdd, qc_i, qc_r, qc_n, qc_l, wd, nI_1, aI2, aI3, aI4, aI5, aI6, aI7, aI8, nI_clamp]); rw [nI_toInt (by omega)]; omega) ?_) | (refine And.intro (fun c => absurd c i10) (fun _ => ?_)) | (refine And.intro (fun _ => ?_) (fun c => absurd c i10)) | (refine And.intro (fun c => absurd rfl c) (fun _ => ?_)) | (refine And.intro (fun _ => ?_) (fun c => absurd rfl c)) | (refine And.intro (fun c => absurd c i01) (fun _ => ?_)) | (refine And.intro (fun _ => ?_) (fun c => absurd c i01)) | fail); all_goals (try (conv => whnf))
  refine am_go hK spL 300 ?_
  (conv => whnf)
  simp (disch := omega) only [Nat.reduceAdd, qc_i, qc_r, qc_n, qc_l, wd, nI_1, aI2, aI3, aI4, aI5, aI6, aI7, aI8, nI_clamp]
  exact hX A' L' I' J' hW
set_option maxHeartbeats 8000000 in
theorem lw_39 (hK : am_cl sc (Ct sc 60) 333 Q K) (ht : 8 * t + 8 ≤ sc.1) (hs : sc.1 ≤ 4096) (hI : Inv A I J r q n) (hX : ∀ A L I J, InvW A L I J → K 18 [some (.ref 0), some (.ref 1), some (.ref 64), some (.int (nI (8 * (t + 1))))] [] (wd A L I J) 120 6588) : K 1820 [some (.ref 0), some (.ref 1), some (.ref 64), some (.int (nI (8 * t)))] [] (wd A L I J) 120 6588 := by
  refine am_go hK spL 300 ?_
  repeat' ((conv => whnf); first | (refine And.intro (a := vq _ _) (by unfold vq; (try simp (disch := omega) only [Nat.reduceAdd, qc_i, qc_r, qc_n, qc_l, wd, nI_1, aI2, aI3, aI4, aI5, aI6, aI7, aI8, nI_clamp]); rw [nI_toInt (by omega)]; omega) ?_) | (refine And.intro (fun c => absurd c i10) (fun _ => ?_)) | (refine And.intro (fun _ => ?_) (fun c => absurd c i10)) | (refine And.intro (fun c => absurd rfl c) (fun _ => ?_)) | (refine And.intro (fun _ => ?_) (fun c => absurd rfl c)) | (refine And.intro (fun c => absurd c i01) (fun _ => ?_)) | (refine And.intro (fun _ => ?_) (fun c => absurd c i01)) | (refine And.intro (fun c => ?_) (fun c => ?_) <;> (try (exact absurd (lg_z _) c))) | fail); all_goals (try (conv => whnf))
  all_goals (
    refine And.intro (Ct_q (Ct_g _ (n_road (d := 51) _ _ _ (by first | exact Or.inl rfl | exact Or.inr rfl) hI)) (fun v w hv => ?_)) trivial
    obtain ⟨⟨x, rfl, h2⟩, hw⟩ := hv
    have hwb : Nat.ble 64 w.1 = true := lw_b hw
    repeat' ((conv => whnf); first | (refine And.intro (a := vq _ _) (by unfold vq; (try simp (disch := omega) only [Nat.reduceAdd, qc_i, qc_r, qc_n, qc_l, wd, nI_1, aI2, aI3, aI4, aI5, aI6, aI7, aI8, nI_clamp]); rw [nI_toInt (by omega)]; omega) ?_) | (refine And.intro (fun c => absurd c i10) (fun _ => ?_)) | (refine And.intro (fun _ => ?_) (fun c => absurd c i10)) | (refine And.intro (fun c => absurd rfl c) (fun _ => ?_)) | (refine And.intro (fun _ => ?_) (fun c => absurd rfl c)) | (refine And.intro (fun c => absurd c i01) (fun _ => ?_)) | (refine And.intro (fun _ => ?_) (fun c => absurd c i01)) | (refine And.intro (fun c => ?_) (fun c => ?_) <;> (try (exact absurd c (by assumption))) <;> (try (exact absurd (by assumption) c))) | fail); all_goals (try (conv => whnf))
    rw [hwb]
    (conv => whnf)
    refine And.intro (Ct_q h2 (fun v' w' hv' => ?_)) trivial
    obtain ⟨rfl, A', L', I', J', rfl, hW⟩ := hv'
    repeat' ((conv => whnf); first | (refine And.intro (a := vq _ _) (by unfold vq; (try simp (disch := omega) only [Nat.reduceAdd, qc_i, qc_r, qc_n, qc_l, wd, nI_1, aI2, aI3, aI4, aI5, aI6, aI7, aI8, nI_clamp]); rw [nI_toInt (by omega)]; omega) ?_) | (refine And.intro (fun c => absurd c i10) (fun _ => ?_)) | (refine And.intro (fun _ => ?_) (fun c => absurd c i10)) | (refine And.intro (fun c => absurd rfl c) (fun _ => ?_)) | (refine And.intro (fun _ => ?_) (fun c => absurd rfl c)) | (refine And.intro (fun c => absurd c i01) (fun _ => ?_)) | (refine And.intro (fun _ => ?_) (fun c => absurd c i01)) | fail); all_goals (try (conv => whnf))
    refine am_go hK spL 300 ?_
    (conv => whnf)
    simp (disch := omega) only [Nat.reduceAdd, qc_i, qc_r, qc_n, qc_l, wd, nI_1, aI2, aI3, aI4, aI5, aI6, aI7, aI8, nI_clamp]
    exact hX A' L' I' J' hW)
set_option maxHeartbeats 8000000 in
theorem lw_40 (hK : am_cl sc (Ct sc 60) 333 Q K) (ht : 8 * t + 8 ≤ sc.1) (hs : sc.1 ≤ 4096) (hI : Inv A I J r q n) (hX : ∀ A L I J, InvW A L I J → K 18 [some (.ref 0), some (.ref 1), some (.ref 64), some (.int (nI (8 * (t + 1))))] [] (wd A L I J) 120 6588) : K 1879 [some (.ref 0), some (.ref 1), some (.ref 64), some (.int (nI (8 * t)))] [] (wd A L I J) 120 6588 := by
  refine am_go hK spL 300 ?_
  repeat' ((conv => whnf); first | (refine And.intro (a := vq _ _) (by unfold vq; (try simp (disch := omega) only [Nat.reduceAdd, qc_i, qc_r, qc_n, qc_l, wd, nI_1, aI2, aI3, aI4, aI5, aI6, aI7, aI8, nI_clamp]); rw [nI_toInt (by omega)]; omega) ?_) | (refine And.intro (fun c => absurd c i10) (fun _ => ?_)) | (refine And.intro (fun _ => ?_) (fun c => absurd c i10)) | (refine And.intro (fun c => absurd rfl c) (fun _ => ?_)) | (refine And.intro (fun _ => ?_) (fun c => absurd rfl c)) | (refine And.intro (fun c => absurd c i01) (fun _ => ?_)) | (refine And.intro (fun _ => ?_) (fun c => absurd c i01)) | fail); all_goals (try (conv => whnf))
  refine And.intro (Ct_q (Ct_g _ (n_forbid (d := 51) _ hI)) (fun v w hv => ?_)) trivial
  obtain ⟨⟨x, rfl, h2⟩, hw⟩ := hv
  have hwb : Nat.ble 64 w.1 = true := lw_b hw
  repeat' ((conv => whnf); first | (refine And.intro (a := vq _ _) (by unfold vq; (try simp (disch := omega) only [Nat.reduceAdd, qc_i, qc_r, qc_n, qc_l, wd, nI_1, aI2, aI3, aI4, aI5, aI6, aI7, aI8, nI_clamp]); rw [nI_toInt (by omega)]; omega) ?_) | (refine And.intro (fun c => absurd c i10) (fun _ => ?_)) | (refine And.intro (fun _ => ?_) (fun c => absurd c i10)) | (refine And.intro (fun c => absurd rfl c) (fun _ => ?_)) | (refine And.intro (fun _ => ?_) (fun c => absurd rfl c)) | (refine And.intro (fun c => absurd c i01) (fun _ => ?_)) | (refine And.intro (fun _ => ?_) (fun c => absurd c i01)) | fail); all_goals (try (conv => whnf))
  rw [hwb]
  (conv => whnf)
  refine And.intro (Ct_q h2 (fun v' w' hv' => ?_)) trivial
  obtain ⟨rfl, A', L', I', J', rfl, hW⟩ := hv'
  repeat' ((conv => whnf); first | (refine And.intro (a := vq _ _) (by unfold vq; (try simp (disch := omega) only [Nat.reduceAdd, qc_i, qc_r, qc_n, qc_l, wd, nI_1, aI2, aI3, aI4, aI5, aI6, aI7, aI8, nI_clamp]); rw [nI_toInt (by omega)]; omega) ?_) | (refine And.intro (fun c => absurd c i10) (fun _ => ?_)) | (refine And.intro (fun _ => ?_) (fun c => absurd c i10)) | (refine And.intro (fun c => absurd rfl c) (fun _ => ?_)) | (refine And.intro (fun _ => ?_) (fun c => absurd rfl c)) | (refine And.intro (fun c => absurd c i01) (fun _ => ?_)) | (refine And.intro (fun _ => ?_) (fun c => absurd c i01)) | fail); all_goals (try (conv => whnf))
  refine am_go hK spL 300 ?_
  (conv => whnf)
  simp (disch := omega) only [Nat.reduceAdd, qc_i, qc_r, qc_n, qc_l, wd, nI_1, aI2, aI3, aI4, aI5, aI6, aI7, aI8, nI_clamp]
  exact hX A' L' I' J' hW
set_option maxHeartbeats 8000000 in
theorem lw_41 (hK : am_cl sc (Ct sc 60) 333 Q K) (ht : 8 * t + 8 ≤ sc.1) (hs : sc.1 ≤ 4096) (hI : Inv A I J r q n) (hX : ∀ A L I J, InvW A L I J → K 18 [some (.ref 0), some (.ref 1), some (.ref 64), some (.int (nI (8 * (t + 1))))] [] (wd A L I J) 120 6588) : K 1902 [some (.ref 0), some (.ref 1), some (.ref 64), some (.int (nI (8 * t)))] [] (wd A L I J) 120 6588 := by
  refine am_go hK spL 300 ?_
  repeat' ((conv => whnf); first | (refine And.intro (a := vq _ _) (by unfold vq; (try simp (disch := omega) only [Nat.reduceAdd, qc_i, qc_r, qc_n, qc_l, wd, nI_1, aI2, aI3, aI4, aI5, aI6, aI7, aI8, nI_clamp]); rw [nI_toInt (by omega)]; omega) ?_) | (refine And.intro (fun c => absurd c i10) (fun _ => ?_)) | (refine And.intro (fun _ => ?_) (fun c => absurd c i10)) | (refine And.intro (fun c => absurd rfl c) (fun _ => ?_)) | (refine And.intro (fun _ => ?_) (fun c => absurd rfl c)) | (refine And.intro (fun c => absurd c i01) (fun _ => ?_)) | (refine And.intro (fun _ => ?_) (fun c => absurd c i01)) | fail); all_goals (try (conv => whnf))
  refine And.intro (Ct_q (Ct_g _ (n_letter (d := 51) _ _ hI)) (fun v w hv => ?_)) trivial
  obtain ⟨⟨x, rfl, h2⟩, hw⟩ := hv
  have hwb : Nat.ble 64 w.1 = true := lw_b hw
  repeat' ((conv => whnf); first | (refine And.intro (a := vq _ _) (by unfold vq; (try simp (disch := omega) only [Nat.reduceAdd, qc_i, qc_r, qc_n, qc_l, wd, nI_1, aI2, aI3, aI4, aI5, aI6, aI7, aI8, nI_clamp]); rw [nI_toInt (by omega)]; omega) ?_) | (refine And.intro (fun c => absurd c i10) (fun _ => ?_)) | (refine And.intro (fun _ => ?_) (fun c => absurd c i10)) | (refine And.intro (fun c => absurd rfl c) (fun _ => ?_)) | (refine And.intro (fun _ => ?_) (fun c => absurd rfl c)) | (refine And.intro (fun c => absurd c i01) (fun _ => ?_)) | (refine And.intro (fun _ => ?_) (fun c => absurd c i01)) | fail); all_goals (try (conv => whnf))
  rw [hwb]
  (conv => whnf)
  refine And.intro (Ct_q h2 (fun v' w' hv' => ?_)) trivial
  obtain ⟨rfl, A', L', I', J', rfl, hW⟩ := hv'
  repeat' ((conv => whnf); first | (refine And.intro (a := vq _ _) (by unfold vq; (try simp (disch := omega) only [Nat.reduceAdd, qc_i, qc_r, qc_n, qc_l, wd, nI_1, aI2, aI3, aI4, aI5, aI6, aI7, aI8, nI_clamp]); rw [nI_toInt (by omega)]; omega) ?_) | (refine And.intro (fun c => absurd c i10) (fun _ => ?_)) | (refine And.intro (fun _ => ?_) (fun c => absurd c i10)) | (refine And.intro (fun c => absurd rfl c) (fun _ => ?_)) | (refine And.intro (fun _ => ?_) (fun c => absurd rfl c)) | (refine And.intro (fun c => absurd c i01) (fun _ => ?_)) | (refine And.intro (fun _ => ?_) (fun c => absurd c i01)) | fail); all_goals (try (conv => whnf))
  refine am_go hK spL 300 ?_
  (conv => whnf)
  simp (disch := omega) only [Nat.reduceAdd, qc_i, qc_r, qc_n, qc_l, wd, nI_1, aI2, aI3, aI4, aI5, aI6, aI7, aI8, nI_clamp]
  exact hX A' L' I' J' hW
set_option maxHeartbeats 8000000 in
theorem lw_42 (hK : am_cl sc (Ct sc 60) 333 Q K) (ht : 8 * t + 8 ≤ sc.1) (hs : sc.1 ≤ 4096) (hI : Inv A I J r q n) (hX : ∀ A L I J, InvW A L I J → K 18 [some (.ref 0), some (.ref 1), some (.ref 64), some (.int (nI (8 * (t + 1))))] [] (wd A L I J) 120 6588) : K 1935 [some (.ref 0), some (.ref 1), some (.ref 64), some (.int (nI (8 * t)))] [] (wd A L I J) 120 6588 := by
  refine am_go hK spL 300 ?_
  repeat' ((conv => whnf); first | (refine And.intro (a := vq _ _) (by unfold vq; (try simp (disch := omega) only [Nat.reduceAdd, qc_i, qc_r, qc_n, qc_l, wd, nI_1, aI2, aI3, aI4, aI5, aI6, aI7, aI8, nI_clamp]); rw [nI_toInt (by omega)]; omega) ?_) | (refine And.intro (fun c => absurd c i10) (fun _ => ?_)) | (refine And.intro (fun _ => ?_) (fun c => absurd c i10)) | (refine And.intro (fun c => absurd rfl c) (fun _ => ?_)) | (refine And.intro (fun _ => ?_) (fun c => absurd rfl c)) | (refine And.intro (fun c => absurd c i01) (fun _ => ?_)) | (refine And.intro (fun _ => ?_) (fun c => absurd c i01)) | fail); all_goals (try (conv => whnf))
  refine And.intro (Ct_q (Ct_g _ (n_round (d := 51) _ hI)) (fun v w hv => ?_)) trivial
  obtain ⟨⟨x, rfl, h2⟩, hw⟩ := hv
  have hwb : Nat.ble 64 w.1 = true := lw_b hw
  repeat' ((conv => whnf); first | (refine And.intro (a := vq _ _) (by unfold vq; (try simp (disch := omega) only [Nat.reduceAdd, qc_i, qc_r, qc_n, qc_l, wd, nI_1, aI2, aI3, aI4, aI5, aI6, aI7, aI8, nI_clamp]); rw [nI_toInt (by omega)]; omega) ?_) | (refine And.intro (fun c => absurd c i10) (fun _ => ?_)) | (refine And.intro (fun _ => ?_) (fun c => absurd c i10)) | (refine And.intro (fun c => absurd rfl c) (fun _ => ?_)) | (refine And.intro (fun _ => ?_) (fun c => absurd rfl c)) | (refine And.intro (fun c => absurd c i01) (fun _ => ?_)) | (refine And.intro (fun _ => ?_) (fun c => absurd c i01)) | fail); all_goals (try (conv => whnf))
  rw [hwb]
  (conv => whnf)
  refine And.intro (Ct_q h2 (fun v' w' hv' => ?_)) trivial
  obtain ⟨rfl, A', L', I', J', rfl, hW⟩ := hv'
  repeat' ((conv => whnf); first | (refine And.intro (a := vq _ _) (by unfold vq; (try simp (disch := omega) only [Nat.reduceAdd, qc_i, qc_r, qc_n, qc_l, wd, nI_1, aI2, aI3, aI4, aI5, aI6, aI7, aI8, nI_clamp]); rw [nI_toInt (by omega)]; omega) ?_) | (refine And.intro (fun c => absurd c i10) (fun _ => ?_)) | (refine And.intro (fun _ => ?_) (fun c => absurd c i10)) | (refine And.intro (fun c => absurd rfl c) (fun _ => ?_)) | (refine And.intro (fun _ => ?_) (fun c => absurd rfl c)) | (refine And.intro (fun c => absurd c i01) (fun _ => ?_)) | (refine And.intro (fun _ => ?_) (fun c => absurd c i01)) | fail); all_goals (try (conv => whnf))
  refine am_go hK spL 300 ?_
  (conv => whnf)
  simp (disch := omega) only [Nat.reduceAdd, qc_i, qc_r, qc_n, qc_l, wd, nI_1, aI2, aI3, aI4, aI5, aI6, aI7, aI8, nI_clamp]
  exact hX A' L' I' J' hW
set_option maxHeartbeats 8000000 in
theorem lw_43 (hK : am_cl sc (Ct sc 60) 333 Q K) (ht : 8 * t + 8 ≤ sc.1) (hs : sc.1 ≤ 4096) (hI : Inv A I J r q n) (hX : ∀ A L I J, InvW A L I J → K 18 [some (.ref 0), some (.ref 1), some (.ref 64), some (.int (nI (8 * (t + 1))))] [] (wd A L I J) 120 6588) : K 1958 [some (.ref 0), some (.ref 1), some (.ref 64), some (.int (nI (8 * t)))] [] (wd A L I J) 120 6588 := by
  refine am_go hK spL 300 ?_
  repeat' ((conv => whnf); first | (refine And.intro (a := vq _ _) (by unfold vq; (try simp (disch := omega) only [Nat.reduceAdd, qc_i, qc_r, qc_n, qc_l, wd, nI_1, aI2, aI3, aI4, aI5, aI6, aI7, aI8, nI_clamp]); rw [nI_toInt (by omega)]; omega) ?_) | (refine And.intro (fun c => absurd c i10) (fun _ => ?_)) | (refine And.intro (fun _ => ?_) (fun c => absurd c i10)) | (refine And.intro (fun c => absurd rfl c) (fun _ => ?_)) | (refine And.intro (fun _ => ?_) (fun c => absurd rfl c)) | (refine And.intro (fun c => absurd c i01) (fun _ => ?_)) | (refine And.intro (fun _ => ?_) (fun c => absurd c i01)) | fail); all_goals (try (conv => whnf))
  refine And.intro (Ct_q (Ct_g _ (n_sheet (d := 51) _ _ _ hI)) (fun v w hv => ?_)) trivial
  obtain ⟨⟨x, rfl, h2⟩, hw⟩ := hv
  have hwb : Nat.ble 64 w.1 = true := lw_b hw
  repeat' ((conv => whnf); first | (refine And.intro (a := vq _ _) (by unfold vq; (try simp (disch := omega) only [Nat.reduceAdd, qc_i, qc_r, qc_n, qc_l, wd, nI_1, aI2, aI3, aI4, aI5, aI6, aI7, aI8, nI_clamp]); rw [nI_toInt (by omega)]; omega) ?_) | (refine And.intro (fun c => absurd c i10) (fun _ => ?_)) | (refine And.intro (fun _ => ?_) (fun c => absurd c i10)) | (refine And.intro (fun c => absurd rfl c) (fun _ => ?_)) | (refine And.intro (fun _ => ?_) (fun c => absurd rfl c)) | (refine And.intro (fun c => absurd c i01) (fun _ => ?_)) | (refine And.intro (fun _ => ?_) (fun c => absurd c i01)) | fail); all_goals (try (conv => whnf))
  rw [hwb]
  (conv => whnf)
  refine And.intro (Ct_q h2 (fun v' w' hv' => ?_)) trivial
  obtain ⟨rfl, A', L', I', J', rfl, hW⟩ := hv'
  repeat' ((conv => whnf); first | (refine And.intro (a := vq _ _) (by unfold vq; (try simp (disch := omega) only [Nat.reduceAdd, qc_i, qc_r, qc_n, qc_l, wd, nI_1, aI2, aI3, aI4, aI5, aI6, aI7, aI8, nI_clamp]); rw [nI_toInt (by omega)]; omega) ?_) | (refine And.intro (fun c => absurd c i10) (fun _ => ?_)) | (refine And.intro (fun _ => ?_) (fun c => absurd c i10)) | (refine And.intro (fun c => absurd rfl c) (fun _ => ?_)) | (refine And.intro (fun _ => ?_) (fun c => absurd rfl c)) | (refine And.intro (fun c => absurd c i01) (fun _ => ?_)) | (refine And.intro (fun _ => ?_) (fun c => absurd c i01)) | fail); all_goals (try (conv => whnf))
  refine am_go hK spL 300 ?_
  (conv => whnf)
  simp (disch := omega) only [Nat.reduceAdd, qc_i, qc_r, qc_n, qc_l, wd, nI_1, aI2, aI3, aI4, aI5, aI6, aI7, aI8, nI_clamp]
  exact hX A' L' I' J' hW
set_option maxHeartbeats 8000000 in
theorem lw_44 (hK : am_cl sc (Ct sc 60) 333 Q K) (ht : 8 * t + 8 ≤ sc.1) (hs : sc.1 ≤ 4096) (hI : Inv A I J r q n) (hX : ∀ A L I J, InvW A L I J → K 18 [some (.ref 0), some (.ref 1), some (.ref 64), some (.int (nI (8 * (t + 1))))] [] (wd A L I J) 120 6588) : K 2001 [some (.ref 0), some (.ref 1), some (.ref 64), some (.int (nI (8 * t)))] [] (wd A L I J) 120 6588 := by
  refine am_go hK spL 300 ?_
  repeat' ((conv => whnf); first | (refine And.intro (a := vq _ _) (by unfold vq; (try simp (disch := omega) only [Nat.reduceAdd, qc_i, qc_r, qc_n, qc_l, wd, nI_1, aI2, aI3, aI4, aI5, aI6, aI7, aI8, nI_clamp]); rw [nI_toInt (by omega)]; omega) ?_) | (refine And.intro (fun c => absurd c i10) (fun _ => ?_)) | (refine And.intro (fun _ => ?_) (fun c => absurd c i10)) | (refine And.intro (fun c => absurd rfl c) (fun _ => ?_)) | (refine And.intro (fun _ => ?_) (fun c => absurd rfl c)) | (refine And.intro (fun c => absurd c i01) (fun _ => ?_)) | (refine And.intro (fun _ => ?_) (fun c => absurd c i01)) | fail); all_goals (try (conv => whnf))
  refine And.intro (Ct_q (Ct_g _ (n_lose (d := 51) _ hI)) (fun v w hv => ?_)) trivial
  obtain ⟨⟨x, rfl, h2⟩, hw⟩ := hv
  have hwb : Nat.ble 64 w.1 = true := lw_b hw
  repeat' ((conv => whnf); first | (refine And.intro (a := vq _ _) (by unfold vq; (try simp (disch := omega) only [Nat.reduceAdd, qc_i, qc_r, qc_n, qc_l, wd, nI_1, aI2, aI3, aI4, aI5, aI6, aI7, aI8, nI_clamp]); rw [nI_toInt (by omega)]; omega) ?_) | (refine And.intro (fun c => absurd c i10) (fun _ => ?_)) | (refine And.intro (fun _ => ?_) (fun c => absurd c i10)) | (refine And.intro (fun c => absurd rfl c) (fun _ => ?_)) | (refine And.intro (fun _ => ?_) (fun c => absurd rfl c)) | (refine And.intro (fun c => absurd c i01) (fun _ => ?_)) | (refine And.intro (fun _ => ?_) (fun c => absurd c i01)) | fail); all_goals (try (conv => whnf))
  rw [hwb]
  (conv => whnf)
  refine And.intro (Ct_q h2 (fun v' w' hv' => ?_)) trivial
  obtain ⟨rfl, A', L', I', J', rfl, hW⟩ := hv'
  repeat' ((conv => whnf); first | (refine And.intro (a := vq _ _) (by unfold vq; (try simp (disch := omega) only [Nat.reduceAdd, qc_i, qc_r, qc_n, qc_l, wd, nI_1, aI2, aI3, aI4, aI5, aI6, aI7, aI8, nI_clamp]); rw [nI_toInt (by omega)]; omega) ?_) | (refine And.intro (fun c => absurd c i10) (fun _ => ?_)) | (refine And.intro (fun _ => ?_) (fun c => absurd c i10)) | (refine And.intro (fun c => absurd rfl c) (fun _ => ?_)) | (refine And.intro (fun _ => ?_) (fun c => absurd rfl c)) | (refine And.intro (fun c => absurd c i01) (fun _ => ?_)) | (refine And.intro (fun _ => ?_) (fun c => absurd c i01)) | fail); all_goals (try (conv => whnf))
  refine am_go hK spL 300 ?_
  (conv => whnf)
  simp (disch := omega) only [Nat.reduceAdd, qc_i, qc_r, qc_n, qc_l, wd, nI_1, aI2, aI3, aI4, aI5, aI6, aI7, aI8, nI_clamp]
  exact hX A' L' I' J' hW
set_option maxHeartbeats 8000000 in
theorem lw_45 (hK : am_cl sc (Ct sc 60) 333 Q K) (ht : 8 * t + 8 ≤ sc.1) (hs : sc.1 ≤ 4096) (hI : Inv A I J r q n) (hX : ∀ A L I J, InvW A L I J → K 18 [some (.ref 0), some (.ref 1), some (.ref 64), some (.int (nI (8 * (t + 1))))] [] (wd A L I J) 120 6588) : K 2024 [some (.ref 0), some (.ref 1), some (.ref 64), some (.int (nI (8 * t)))] [] (wd A L I J) 120 6588 := by
  refine am_go hK spL 300 ?_
  repeat' ((conv => whnf); first | (refine And.intro (a := vq _ _) (by unfold vq; (try simp (disch := omega) only [Nat.reduceAdd, qc_i, qc_r, qc_n, qc_l, wd, nI_1, aI2, aI3, aI4, aI5, aI6, aI7, aI8, nI_clamp]); rw [nI_toInt (by omega)]; omega) ?_) | (refine And.intro (fun c => absurd c i10) (fun _ => ?_)) | (refine And.intro (fun _ => ?_) (fun c => absurd c i10)) | (refine And.intro (fun c => absurd rfl c) (fun _ => ?_)) | (refine And.intro (fun _ => ?_) (fun c => absurd rfl c)) | (refine And.intro (fun c => absurd c i01) (fun _ => ?_)) | (refine And.intro (fun _ => ?_) (fun c => absurd c i01)) | fail); all_goals (try (conv => whnf))
  refine And.intro (Ct_q (Ct_g _ (n_put (d := 51) _ _ _ hI)) (fun v w hv => ?_)) trivial
  obtain ⟨⟨x, rfl, h2⟩, hw⟩ := hv
  have hwb : Nat.ble 64 w.1 = true := lw_b hw
  repeat' ((conv => whnf); first | (refine And.intro (a := vq _ _) (by unfold vq; (try simp (disch := omega) only [Nat.reduceAdd, qc_i, qc_r, qc_n, qc_l, wd, nI_1, aI2, aI3, aI4, aI5, aI6, aI7, aI8, nI_clamp]); rw [nI_toInt (by omega)]; omega) ?_) | (refine And.intro (fun c => absurd c i10) (fun _ => ?_)) | (refine And.intro (fun _ => ?_) (fun c => absurd c i10)) | (refine And.intro (fun c => absurd rfl c) (fun _ => ?_)) | (refine And.intro (fun _ => ?_) (fun c => absurd rfl c)) | (refine And.intro (fun c => absurd c i01) (fun _ => ?_)) | (refine And.intro (fun _ => ?_) (fun c => absurd c i01)) | fail); all_goals (try (conv => whnf))
  rw [hwb]
  (conv => whnf)
  refine And.intro (Ct_q h2 (fun v' w' hv' => ?_)) trivial
  obtain ⟨rfl, A', L', I', J', rfl, hW⟩ := hv'
  repeat' ((conv => whnf); first | (refine And.intro (a := vq _ _) (by unfold vq; (try simp (disch := omega) only [Nat.reduceAdd, qc_i, qc_r, qc_n, qc_l, wd, nI_1, aI2, aI3, aI4, aI5, aI6, aI7, aI8, nI_clamp]); rw [nI_toInt (by omega)]; omega) ?_) | (refine And.intro (fun c => absurd c i10) (fun _ => ?_)) | (refine And.intro (fun _ => ?_) (fun c => absurd c i10)) | (refine And.intro (fun c => absurd rfl c) (fun _ => ?_)) | (refine And.intro (fun _ => ?_) (fun c => absurd rfl c)) | (refine And.intro (fun c => absurd c i01) (fun _ => ?_)) | (refine And.intro (fun _ => ?_) (fun c => absurd c i01)) | fail); all_goals (try (conv => whnf))
  refine am_go hK spL 300 ?_
  (conv => whnf)
  simp (disch := omega) only [Nat.reduceAdd, qc_i, qc_r, qc_n, qc_l, wd, nI_1, aI2, aI3, aI4, aI5, aI6, aI7, aI8, nI_clamp]
  exact hX A' L' I' J' hW
set_option maxHeartbeats 8000000 in
theorem lw_46 (hK : am_cl sc (Ct sc 60) 333 Q K) (ht : 8 * t + 8 ≤ sc.1) (hs : sc.1 ≤ 4096) (hI : Inv A I J r q n) (hX : ∀ A L I J, InvW A L I J → K 18 [some (.ref 0), some (.ref 1), some (.ref 64), some (.int (nI (8 * (t + 1))))] [] (wd A L I J) 120 6588) : K 2067 [some (.ref 0), some (.ref 1), some (.ref 64), some (.int (nI (8 * t)))] [] (wd A L I J) 120 6588 := by
  refine am_go hK spL 300 ?_
  repeat' ((conv => whnf); first | (refine And.intro (a := vq _ _) (by unfold vq; (try simp (disch := omega) only [Nat.reduceAdd, qc_i, qc_r, qc_n, qc_l, wd, nI_1, aI2, aI3, aI4, aI5, aI6, aI7, aI8, nI_clamp]); rw [nI_toInt (by omega)]; omega) ?_) | (refine And.intro (fun c => absurd c i10) (fun _ => ?_)) | (refine And.intro (fun _ => ?_) (fun c => absurd c i10)) | (refine And.intro (fun c => absurd rfl c) (fun _ => ?_)) | (refine And.intro (fun _ => ?_) (fun c => absurd rfl c)) | (refine And.intro (fun c => absurd c i01) (fun _ => ?_)) | (refine And.intro (fun _ => ?_) (fun c => absurd c i01)) | fail); all_goals (try (conv => whnf))
  refine And.intro (Ct_q (Ct_g _ (n_cell (d := 51) _ _ _ hI)) (fun v w hv => ?_)) trivial
  obtain ⟨⟨x, rfl, h2⟩, hw⟩ := hv
  have hwb : Nat.ble 64 w.1 = true := lw_b hw
  repeat' ((conv => whnf); first | (refine And.intro (a := vq _ _) (by unfold vq; (try simp (disch := omega) only [Nat.reduceAdd, qc_i, qc_r, qc_n, qc_l, wd, nI_1, aI2, aI3, aI4, aI5, aI6, aI7, aI8, nI_clamp]); rw [nI_toInt (by omega)]; omega) ?_) | (refine And.intro (fun c => absurd c i10) (fun _ => ?_)) | (refine And.intro (fun _ => ?_) (fun c => absurd c i10)) | (refine And.intro (fun c => absurd rfl c) (fun _ => ?_)) | (refine And.intro (fun _ => ?_) (fun c => absurd rfl c)) | (refine And.intro (fun c => absurd c i01) (fun _ => ?_)) | (refine And.intro (fun _ => ?_) (fun c => absurd c i01)) | fail); all_goals (try (conv => whnf))
  rw [hwb]
  (conv => whnf)
  refine And.intro (Ct_q h2 (fun v' w' hv' => ?_)) trivial
  obtain ⟨rfl, A', L', I', J', rfl, hW⟩ := hv'
  repeat' ((conv => whnf); first | (refine And.intro (a := vq _ _) (by unfold vq; (try simp (disch := omega) only [Nat.reduceAdd, qc_i, qc_r, qc_n, qc_l, wd, nI_1, aI2, aI3, aI4, aI5, aI6, aI7, aI8, nI_clamp]); rw [nI_toInt (by omega)]; omega) ?_) | (refine And.intro (fun c => absurd c i10) (fun _ => ?_)) | (refine And.intro (fun _ => ?_) (fun c => absurd c i10)) | (refine And.intro (fun c => absurd rfl c) (fun _ => ?_)) | (refine And.intro (fun _ => ?_) (fun c => absurd rfl c)) | (refine And.intro (fun c => absurd c i01) (fun _ => ?_)) | (refine And.intro (fun _ => ?_) (fun c => absurd c i01)) | (refine And.intro (fun c => ?_) (fun c => ?_) <;> (try (exact absurd (lg_z _) c))) | fail); all_goals (try (conv => whnf))
  refine am_go hK spL 300 ?_
  (conv => whnf)
  simp (disch := omega) only [Nat.reduceAdd, qc_i, qc_r, qc_n, qc_l, wd, nI_1, aI2, aI3, aI4, aI5, aI6, aI7, aI8, nI_clamp]
  exact hX A' L' I' J' hW
set_option maxHeartbeats 8000000 in
theorem lw_47 (hK : am_cl sc (Ct sc 60) 333 Q K) (ht : 8 * t + 8 ≤ sc.1) (hs : sc.1 ≤ 4096) (hI : Inv A I J r q n) (hX : ∀ A L I J, InvW A L I J → K 18 [some (.ref 0), some (.ref 1), some (.ref 64), some (.int (nI (8 * (t + 1))))] [] (wd A L I J) 120 6588) : K 2111 [some (.ref 0), some (.ref 1), some (.ref 64), some (.int (nI (8 * t)))] [] (wd A L I J) 120 6588 := by
  refine am_go hK spL 300 ?_
  repeat' ((conv => whnf); first | (refine And.intro (a := vq _ _) (by unfold vq; (try simp (disch := omega) only [Nat.reduceAdd, qc_i, qc_r, qc_n, qc_l, wd, nI_1, aI2, aI3, aI4, aI5, aI6, aI7, aI8, nI_clamp]); rw [nI_toInt (by omega)]; omega) ?_) | (refine And.intro (fun c => absurd c i10) (fun _ => ?_)) | (refine And.intro (fun _ => ?_) (fun c => absurd c i10)) | (refine And.intro (fun c => absurd rfl c) (fun _ => ?_)) | (refine And.intro (fun _ => ?_) (fun c => absurd rfl c)) | (refine And.intro (fun c => absurd c i01) (fun _ => ?_)) | (refine And.intro (fun _ => ?_) (fun c => absurd c i01)) | fail); all_goals (try (conv => whnf))
  refine And.intro (Ct_q (Ct_g _ (n_copy (d := 51) _ _ _ _ _ hI)) (fun v w hv => ?_)) trivial
  obtain ⟨⟨x, rfl, h2⟩, hw⟩ := hv
  have hwb : Nat.ble 64 w.1 = true := lw_b hw
  repeat' ((conv => whnf); first | (refine And.intro (a := vq _ _) (by unfold vq; (try simp (disch := omega) only [Nat.reduceAdd, qc_i, qc_r, qc_n, qc_l, wd, nI_1, aI2, aI3, aI4, aI5, aI6, aI7, aI8, nI_clamp]); rw [nI_toInt (by omega)]; omega) ?_) | (refine And.intro (fun c => absurd c i10) (fun _ => ?_)) | (refine And.intro (fun _ => ?_) (fun c => absurd c i10)) | (refine And.intro (fun c => absurd rfl c) (fun _ => ?_)) | (refine And.intro (fun _ => ?_) (fun c => absurd rfl c)) | (refine And.intro (fun c => absurd c i01) (fun _ => ?_)) | (refine And.intro (fun _ => ?_) (fun c => absurd c i01)) | fail); all_goals (try (conv => whnf))
  rw [hwb]
  (conv => whnf)
  refine And.intro (Ct_q h2 (fun v' w' hv' => ?_)) trivial
  obtain ⟨rfl, A', L', I', J', rfl, hW⟩ := hv'
  repeat' ((conv => whnf); first | (refine And.intro (a := vq _ _) (by unfold vq; (try simp (disch := omega) only [Nat.reduceAdd, qc_i, qc_r, qc_n, qc_l, wd, nI_1, aI2, aI3, aI4, aI5, aI6, aI7, aI8, nI_clamp]); rw [nI_toInt (by omega)]; omega) ?_) | (refine And.intro (fun c => absurd c i10) (fun _ => ?_)) | (refine And.intro (fun _ => ?_) (fun c => absurd c i10)) | (refine And.intro (fun c => absurd rfl c) (fun _ => ?_)) | (refine And.intro (fun _ => ?_) (fun c => absurd rfl c)) | (refine And.intro (fun c => absurd c i01) (fun _ => ?_)) | (refine And.intro (fun _ => ?_) (fun c => absurd c i01)) | fail); all_goals (try (conv => whnf))
  refine am_go hK spL 300 ?_
  (conv => whnf)
  simp (disch := omega) only [Nat.reduceAdd, qc_i, qc_r, qc_n, qc_l, wd, nI_1, aI2, aI3, aI4, aI5, aI6, aI7, aI8, nI_clamp]
  exact hX A' L' I' J' hW
set_option maxHeartbeats 8000000 in
theorem lw_48 (hK : am_cl sc (Ct sc 60) 333 Q K) (ht : 8 * t + 8 ≤ sc.1) (hs : sc.1 ≤ 4096) (hI : Inv A I J r q n) (hX : ∀ A L I J, InvW A L I J → K 18 [some (.ref 0), some (.ref 1), some (.ref 64), some (.int (nI (8 * (t + 1))))] [] (wd A L I J) 120 6588) : K 2174 [some (.ref 0), some (.ref 1), some (.ref 64), some (.int (nI (8 * t)))] [] (wd A L I J) 120 6588 := by
  refine am_go hK spL 300 ?_
  repeat' ((conv => whnf); first | (refine And.intro (a := vq _ _) (by unfold vq; (try simp (disch := omega) only [Nat.reduceAdd, qc_i, qc_r, qc_n, qc_l, wd, nI_1, aI2, aI3, aI4, aI5, aI6, aI7, aI8, nI_clamp]); rw [nI_toInt (by omega)]; omega) ?_) | (refine And.intro (fun c => absurd c i10) (fun _ => ?_)) | (refine And.intro (fun _ => ?_) (fun c => absurd c i10)) | (refine And.intro (fun c => absurd rfl c) (fun _ => ?_)) | (refine And.intro (fun _ => ?_) (fun c => absurd rfl c)) | (refine And.intro (fun c => absurd c i01) (fun _ => ?_)) | (refine And.intro (fun _ => ?_) (fun c => absurd c i01)) | fail); all_goals (try (conv => whnf))
  refine And.intro (Ct_q (Ct_g _ (n_tell (d := 51) _ hI)) (fun v w hv => ?_)) trivial
  obtain ⟨⟨x, rfl, h2⟩, hw⟩ := hv
  have hwb : Nat.ble 64 w.1 = true := lw_b hw
  repeat' ((conv => whnf); first | (refine And.intro (a := vq _ _) (by unfold vq; (try simp (disch := omega) only [Nat.reduceAdd, qc_i, qc_r, qc_n, qc_l, wd, nI_1, aI2, aI3, aI4, aI5, aI6, aI7, aI8, nI_clamp]); rw [nI_toInt (by omega)]; omega) ?_) | (refine And.intro (fun c => absurd c i10) (fun _ => ?_)) | (refine And.intro (fun _ => ?_) (fun c => absurd c i10)) | (refine And.intro (fun c => absurd rfl c) (fun _ => ?_)) | (refine And.intro (fun _ => ?_) (fun c => absurd rfl c)) | (refine And.intro (fun c => absurd c i01) (fun _ => ?_)) | (refine And.intro (fun _ => ?_) (fun c => absurd c i01)) | fail); all_goals (try (conv => whnf))
  rw [hwb]
  (conv => whnf)
  refine And.intro (Ct_q h2 (fun v' w' hv' => ?_)) trivial
  obtain ⟨rfl, A', L', I', J', rfl, hW⟩ := hv'
  repeat' ((conv => whnf); first | (refine And.intro (a := vq _ _) (by unfold vq; (try simp (disch := omega) only [Nat.reduceAdd, qc_i, qc_r, qc_n, qc_l, wd, nI_1, aI2, aI3, aI4, aI5, aI6, aI7, aI8, nI_clamp]); rw [nI_toInt (by omega)]; omega) ?_) | (refine And.intro (fun c => absurd c i10) (fun _ => ?_)) | (refine And.intro (fun _ => ?_) (fun c => absurd c i10)) | (refine And.intro (fun c => absurd rfl c) (fun _ => ?_)) | (refine And.intro (fun _ => ?_) (fun c => absurd rfl c)) | (refine And.intro (fun c => absurd c i01) (fun _ => ?_)) | (refine And.intro (fun _ => ?_) (fun c => absurd c i01)) | fail); all_goals (try (conv => whnf))
  refine am_go hK spL 300 ?_
  (conv => whnf)
  simp (disch := omega) only [Nat.reduceAdd, qc_i, qc_r, qc_n, qc_l, wd, nI_1, aI2, aI3, aI4, aI5, aI6, aI7, aI8, nI_clamp]
  exact hX A' L' I' J' hW
set_option maxHeartbeats 8000000 in
theorem lw_49 (hK : am_cl sc (Ct sc 60) 333 Q K) (ht : 8 * t + 8 ≤ sc.1) (hs : sc.1 ≤ 4096) (hI : Inv A I J r q n) (hX : ∀ A L I J, InvW A L I J → K 18 [some (.ref 0), some (.ref 1), some (.ref 64), some (.int (nI (8 * (t + 1))))] [] (wd A L I J) 120 6588) : K 2197 [some (.ref 0), some (.ref 1), some (.ref 64), some (.int (nI (8 * t)))] [] (wd A L I J) 120 6588 := by
  refine am_go hK spL 300 ?_
  repeat' ((conv => whnf); first | (refine And.intro (a := vq _ _) (by unfold vq; (try simp (disch := omega) only [Nat.reduceAdd, qc_i, qc_r, qc_n, qc_l, wd, nI_1, aI2, aI3, aI4, aI5, aI6, aI7, aI8, nI_clamp]); rw [nI_toInt (by omega)]; omega) ?_) | (refine And.intro (fun c => absurd c i10) (fun _ => ?_)) | (refine And.intro (fun _ => ?_) (fun c => absurd c i10)) | (refine And.intro (fun c => absurd rfl c) (fun _ => ?_)) | (refine And.intro (fun _ => ?_) (fun c => absurd rfl c)) | (refine And.intro (fun c => absurd c i01) (fun _ => ?_)) | (refine And.intro (fun _ => ?_) (fun c => absurd c i01)) | fail); all_goals (try (conv => whnf))
  refine And.intro (Ct_q (Ct_g _ (n_say (d := 51) _ hI)) (fun v w hv => ?_)) trivial
  obtain ⟨⟨x, rfl, h2⟩, hw⟩ := hv
  have hwb : Nat.ble 64 w.1 = true := lw_b hw
  repeat' ((conv => whnf); first | (refine And.intro (a := vq _ _) (by unfold vq; (try simp (disch := omega) only [Nat.reduceAdd, qc_i, qc_r, qc_n, qc_l, wd, nI_1, aI2, aI3, aI4, aI5, aI6, aI7, aI8, nI_clamp]); rw [nI_toInt (by omega)]; omega) ?_) | (refine And.intro (fun c => absurd c i10) (fun _ => ?_)) | (refine And.intro (fun _ => ?_) (fun c => absurd c i10)) | (refine And.intro (fun c => absurd rfl c) (fun _ => ?_)) | (refine And.intro (fun _ => ?_) (fun c => absurd rfl c)) | (refine And.intro (fun c => absurd c i01) (fun _ => ?_)) | (refine And.intro (fun _ => ?_) (fun c => absurd c i01)) | fail); all_goals (try (conv => whnf))
  rw [hwb]
  (conv => whnf)
  refine And.intro (Ct_q h2 (fun v' w' hv' => ?_)) trivial
  obtain ⟨rfl, A', L', I', J', rfl, hW⟩ := hv'
  repeat' ((conv => whnf); first | (refine And.intro (a := vq _ _) (by unfold vq; (try simp (disch := omega) only [Nat.reduceAdd, qc_i, qc_r, qc_n, qc_l, wd, nI_1, aI2, aI3, aI4, aI5, aI6, aI7, aI8, nI_clamp]); rw [nI_toInt (by omega)]; omega) ?_) | (refine And.intro (fun c => absurd c i10) (fun _ => ?_)) | (refine And.intro (fun _ => ?_) (fun c => absurd c i10)) | (refine And.intro (fun c => absurd rfl c) (fun _ => ?_)) | (refine And.intro (fun _ => ?_) (fun c => absurd rfl c)) | (refine And.intro (fun c => absurd c i01) (fun _ => ?_)) | (refine And.intro (fun _ => ?_) (fun c => absurd c i01)) | fail); all_goals (try (conv => whnf))
  refine am_go hK spL 300 ?_
  (conv => whnf)
  simp (disch := omega) only [Nat.reduceAdd, qc_i, qc_r, qc_n, qc_l, wd, nI_1, aI2, aI3, aI4, aI5, aI6, aI7, aI8, nI_clamp]
  exact hX A' L' I' J' hW
set_option maxHeartbeats 8000000 in
theorem lw_50 (hK : am_cl sc (Ct sc 60) 333 Q K) (ht : 8 * t + 8 ≤ sc.1) (hs : sc.1 ≤ 4096) (hI : Inv A I J r q n) (hX : ∀ A L I J, InvW A L I J → K 18 [some (.ref 0), some (.ref 1), some (.ref 64), some (.int (nI (8 * (t + 1))))] [] (wd A L I J) 120 6588) : K 2220 [some (.ref 0), some (.ref 1), some (.ref 64), some (.int (nI (8 * t)))] [] (wd A L I J) 120 6588 := by
  refine am_go hK spL 300 ?_
  repeat' ((conv => whnf); first | (refine And.intro (a := vq _ _) (by unfold vq; (try simp (disch := omega) only [Nat.reduceAdd, qc_i, qc_r, qc_n, qc_l, wd, nI_1, aI2, aI3, aI4, aI5, aI6, aI7, aI8, nI_clamp]); rw [nI_toInt (by omega)]; omega) ?_) | (refine And.intro (fun c => absurd c i10) (fun _ => ?_)) | (refine And.intro (fun _ => ?_) (fun c => absurd c i10)) | (refine And.intro (fun c => absurd rfl c) (fun _ => ?_)) | (refine And.intro (fun _ => ?_) (fun c => absurd rfl c)) | (refine And.intro (fun c => absurd c i01) (fun _ => ?_)) | (refine And.intro (fun _ => ?_) (fun c => absurd c i01)) | fail); all_goals (try (conv => whnf))
  refine And.intro (Ct_q (Ct_g _ (n_as (d := 51) _ _ hI)) (fun v w hv => ?_)) trivial
  obtain ⟨⟨x, rfl, h2⟩, hw⟩ := hv
  have hwb : Nat.ble 64 w.1 = true := lw_b hw
  repeat' ((conv => whnf); first | (refine And.intro (a := vq _ _) (by unfold vq; (try simp (disch := omega) only [Nat.reduceAdd, qc_i, qc_r, qc_n, qc_l, wd, nI_1, aI2, aI3, aI4, aI5, aI6, aI7, aI8, nI_clamp]); rw [nI_toInt (by omega)]; omega) ?_) | (refine And.intro (fun c => absurd c i10) (fun _ => ?_)) | (refine And.intro (fun _ => ?_) (fun c => absurd c i10)) | (refine And.intro (fun c => absurd rfl c) (fun _ => ?_)) | (refine And.intro (fun _ => ?_) (fun c => absurd rfl c)) | (refine And.intro (fun c => absurd c i01) (fun _ => ?_)) | (refine And.intro (fun _ => ?_) (fun c => absurd c i01)) | fail); all_goals (try (conv => whnf))
  rw [hwb]
  (conv => whnf)
  refine And.intro (Ct_q h2 (fun v' w' hv' => ?_)) trivial
  obtain ⟨rfl, A', L', I', J', rfl, hW⟩ := hv'
  repeat' ((conv => whnf); first | (refine And.intro (a := vq _ _) (by unfold vq; (try simp (disch := omega) only [Nat.reduceAdd, qc_i, qc_r, qc_n, qc_l, wd, nI_1, aI2, aI3, aI4, aI5, aI6, aI7, aI8, nI_clamp]); rw [nI_toInt (by omega)]; omega) ?_) | (refine And.intro (fun c => absurd c i10) (fun _ => ?_)) | (refine And.intro (fun _ => ?_) (fun c => absurd c i10)) | (refine And.intro (fun c => absurd rfl c) (fun _ => ?_)) | (refine And.intro (fun _ => ?_) (fun c => absurd rfl c)) | (refine And.intro (fun c => absurd c i01) (fun _ => ?_)) | (refine And.intro (fun _ => ?_) (fun c => absurd c i01)) | fail); all_goals (try (conv => whnf))
  refine am_go hK spL 300 ?_
  (conv => whnf)
  simp (disch := omega) only [Nat.reduceAdd, qc_i, qc_r, qc_n, qc_l, wd, nI_1, aI2, aI3, aI4, aI5, aI6, aI7, aI8, nI_clamp]
  exact hX A' L' I' J' hW
set_option maxHeartbeats 8000000 in
theorem lw_51 (hK : am_cl sc (Ct sc 60) 333 Q K) (ht : 8 * t + 8 ≤ sc.1) (hs : sc.1 ≤ 4096) (hI : Inv A I J r q n) (hX : ∀ A L I J, InvW A L I J → K 18 [some (.ref 0), some (.ref 1), some (.ref 64), some (.int (nI (8 * (t + 1))))] [] (wd A L I J) 120 6588) : K 2253 [some (.ref 0), some (.ref 1), some (.ref 64), some (.int (nI (8 * t)))] [] (wd A L I J) 120 6588 := by
  refine am_go hK spL 300 ?_
  repeat' ((conv => whnf); first | (refine And.intro (a := vq _ _) (by unfold vq; (try simp (disch := omega) only [Nat.reduceAdd, qc_i, qc_r, qc_n, qc_l, wd, nI_1, aI2, aI3, aI4, aI5, aI6, aI7, aI8, nI_clamp]); rw [nI_toInt (by omega)]; omega) ?_) | (refine And.intro (fun c => absurd c i10) (fun _ => ?_)) | (refine And.intro (fun _ => ?_) (fun c => absurd c i10)) | (refine And.intro (fun c => absurd rfl c) (fun _ => ?_)) | (refine And.intro (fun _ => ?_) (fun c => absurd rfl c)) | (refine And.intro (fun c => absurd c i01) (fun _ => ?_)) | (refine And.intro (fun _ => ?_) (fun c => absurd c i01)) | fail); all_goals (try (conv => whnf))
  refine And.intro (Ct_q (Ct_g _ (n_trace (d := 51) hI)) (fun v w hv => ?_)) trivial
  obtain ⟨⟨x, rfl, h2⟩, hw⟩ := hv
  have hwb : Nat.ble 64 w.1 = true := lw_b hw
  (conv => whnf)
  rw [hwb]
  (conv => whnf)
  refine And.intro (Ct_q h2 (fun v' w' hv' => ?_)) trivial
  obtain ⟨rfl, A', L', I', J', rfl, hW⟩ := hv'
  repeat' ((conv => whnf); first | (refine And.intro (a := vq _ _) (by unfold vq; (try simp (disch := omega) only [Nat.reduceAdd, qc_i, qc_r, qc_n, qc_l, wd, nI_1, aI2, aI3, aI4, aI5, aI6, aI7, aI8, nI_clamp]); rw [nI_toInt (by omega)]; omega) ?_) | (refine And.intro (fun c => absurd c i10) (fun _ => ?_)) | (refine And.intro (fun _ => ?_) (fun c => absurd c i10)) | (refine And.intro (fun c => absurd rfl c) (fun _ => ?_)) | (refine And.intro (fun _ => ?_) (fun c => absurd rfl c)) | (refine And.intro (fun c => absurd c i01) (fun _ => ?_)) | (refine And.intro (fun _ => ?_) (fun c => absurd c i01)) | fail); all_goals (try (conv => whnf))
  refine am_go hK spL 300 ?_
  (conv => whnf)
  simp (disch := omega) only [Nat.reduceAdd, qc_i, qc_r, qc_n, qc_l, wd, nI_1, aI2, aI3, aI4, aI5, aI6, aI7, aI8, nI_clamp]
  exact hX A' L' I' J' hW
set_option maxHeartbeats 8000000 in
theorem lw_52 (hK : am_cl sc (Ct sc 60) 333 Q K) (ht : 8 * t + 8 ≤ sc.1) (hs : sc.1 ≤ 4096) (hI : Inv A I J r q n) (hX : ∀ A L I J, InvW A L I J → K 18 [some (.ref 0), some (.ref 1), some (.ref 64), some (.int (nI (8 * (t + 1))))] [] (wd A L I J) 120 6588) : K 2266 [some (.ref 0), some (.ref 1), some (.ref 64), some (.int (nI (8 * t)))] [] (wd A L I J) 120 6588 := by
  refine am_go hK spL 300 ?_
  repeat' ((conv => whnf); first | (refine And.intro (a := vq _ _) (by unfold vq; (try simp (disch := omega) only [Nat.reduceAdd, qc_i, qc_r, qc_n, qc_l, wd, nI_1, aI2, aI3, aI4, aI5, aI6, aI7, aI8, nI_clamp]); rw [nI_toInt (by omega)]; omega) ?_) | (refine And.intro (fun c => absurd c i10) (fun _ => ?_)) | (refine And.intro (fun _ => ?_) (fun c => absurd c i10)) | (refine And.intro (fun c => absurd rfl c) (fun _ => ?_)) | (refine And.intro (fun _ => ?_) (fun c => absurd rfl c)) | (refine And.intro (fun c => absurd c i01) (fun _ => ?_)) | (refine And.intro (fun _ => ?_) (fun c => absurd c i01)) | fail); all_goals (try (conv => whnf))
  refine And.intro (Ct_q (Ct_g _ (n_fault (d := 51) hI)) (fun v w hv => ?_)) trivial
  obtain ⟨⟨x, rfl, h2⟩, hw⟩ := hv
  have hwb : Nat.ble 64 w.1 = true := lw_b hw
  (conv => whnf)
  rw [hwb]
  (conv => whnf)
  refine And.intro (Ct_q h2 (fun v' w' hv' => ?_)) trivial
  obtain ⟨rfl, A', L', I', J', rfl, hW⟩ := hv'
  repeat' ((conv => whnf); first | (refine And.intro (a := vq _ _) (by unfold vq; (try simp (disch := omega) only [Nat.reduceAdd, qc_i, qc_r, qc_n, qc_l, wd, nI_1, aI2, aI3, aI4, aI5, aI6, aI7, aI8, nI_clamp]); rw [nI_toInt (by omega)]; omega) ?_) | (refine And.intro (fun c => absurd c i10) (fun _ => ?_)) | (refine And.intro (fun _ => ?_) (fun c => absurd c i10)) | (refine And.intro (fun c => absurd rfl c) (fun _ => ?_)) | (refine And.intro (fun _ => ?_) (fun c => absurd rfl c)) | (refine And.intro (fun c => absurd c i01) (fun _ => ?_)) | (refine And.intro (fun _ => ?_) (fun c => absurd c i01)) | fail); all_goals (try (conv => whnf))
  refine am_go hK spL 300 ?_
  (conv => whnf)
  simp (disch := omega) only [Nat.reduceAdd, qc_i, qc_r, qc_n, qc_l, wd, nI_1, aI2, aI3, aI4, aI5, aI6, aI7, aI8, nI_clamp]
  exact hX A' L' I' J' hW
set_option maxHeartbeats 8000000 in
theorem lw_53 (hK : am_cl sc (Ct sc 60) 333 Q K) (ht : 8 * t + 8 ≤ sc.1) (hs : sc.1 ≤ 4096) (hI : Inv A I J r q n) (hX : ∀ A L I J, InvW A L I J → K 18 [some (.ref 0), some (.ref 1), some (.ref 64), some (.int (nI (8 * (t + 1))))] [] (wd A L I J) 120 6588) : K 2279 [some (.ref 0), some (.ref 1), some (.ref 64), some (.int (nI (8 * t)))] [] (wd A L I J) 120 6588 := by
  refine am_go hK spL 300 ?_
  repeat' ((conv => whnf); first | (refine And.intro (a := vq _ _) (by unfold vq; (try simp (disch := omega) only [Nat.reduceAdd, qc_i, qc_r, qc_n, qc_l, wd, nI_1, aI2, aI3, aI4, aI5, aI6, aI7, aI8, nI_clamp]); rw [nI_toInt (by omega)]; omega) ?_) | (refine And.intro (fun c => absurd c i10) (fun _ => ?_)) | (refine And.intro (fun _ => ?_) (fun c => absurd c i10)) | (refine And.intro (fun c => absurd rfl c) (fun _ => ?_)) | (refine And.intro (fun _ => ?_) (fun c => absurd rfl c)) | (refine And.intro (fun c => absurd c i01) (fun _ => ?_)) | (refine And.intro (fun _ => ?_) (fun c => absurd c i01)) | fail); all_goals (try (conv => whnf))
  refine And.intro (Ct_q (Ct_g _ (n_many (d := 51) _ hI)) (fun v w hv => ?_)) trivial
  obtain ⟨⟨x, rfl, h2⟩, hw⟩ := hv
  have hwb : Nat.ble 64 w.1 = true := lw_b hw
  repeat' ((conv => whnf); first | (refine And.intro (a := vq _ _) (by unfold vq; (try simp (disch := omega) only [Nat.reduceAdd, qc_i, qc_r, qc_n, qc_l, wd, nI_1, aI2, aI3, aI4, aI5, aI6, aI7, aI8, nI_clamp]); rw [nI_toInt (by omega)]; omega) ?_) | (refine And.intro (fun c => absurd c i10) (fun _ => ?_)) | (refine And.intro (fun _ => ?_) (fun c => absurd c i10)) | (refine And.intro (fun c => absurd rfl c) (fun _ => ?_)) | (refine And.intro (fun _ => ?_) (fun c => absurd rfl c)) | (refine And.intro (fun c => absurd c i01) (fun _ => ?_)) | (refine And.intro (fun _ => ?_) (fun c => absurd c i01)) | fail); all_goals (try (conv => whnf))
  rw [hwb]
  (conv => whnf)
  refine And.intro (Ct_q h2 (fun v' w' hv' => ?_)) trivial
  obtain ⟨rfl, A', L', I', J', rfl, hW⟩ := hv'
  repeat' ((conv => whnf); first | (refine And.intro (a := vq _ _) (by unfold vq; (try simp (disch := omega) only [Nat.reduceAdd, qc_i, qc_r, qc_n, qc_l, wd, nI_1, aI2, aI3, aI4, aI5, aI6, aI7, aI8, nI_clamp]); rw [nI_toInt (by omega)]; omega) ?_) | (refine And.intro (fun c => absurd c i10) (fun _ => ?_)) | (refine And.intro (fun _ => ?_) (fun c => absurd c i10)) | (refine And.intro (fun c => absurd rfl c) (fun _ => ?_)) | (refine And.intro (fun _ => ?_) (fun c => absurd rfl c)) | (refine And.intro (fun c => absurd c i01) (fun _ => ?_)) | (refine And.intro (fun _ => ?_) (fun c => absurd c i01)) | fail); all_goals (try (conv => whnf))
  refine am_go hK spL 300 ?_
  (conv => whnf)
  simp (disch := omega) only [Nat.reduceAdd, qc_i, qc_r, qc_n, qc_l, wd, nI_1, aI2, aI3, aI4, aI5, aI6, aI7, aI8, nI_clamp]
  exact hX A' L' I' J' hW
end
