section
variable {fol fol' : Nat → Nat → Bool} {af af' : Nat → Nat} {lt lt' : Nat → List Nat}
theorem wOk_c (h : ∀ k p, fol k p = fol' k p) (h2 : ∀ k p, fol k p = true → af p = af' p ∧ lt p = lt' p) : ∀ (ps : List Nat) (k : Nat), wOk fol af k ps → wOk fol' af' k ps ∧ wRw lt ps = wRw lt' ps := by
  intro ps
  induction ps with
  | nil => intro k _; exact ⟨trivial, rfl⟩
  | cons p ps ih =>
    intro k ⟨h3, h4⟩
    obtain ⟨e1, e2⟩ := h2 k p h3
    obtain ⟨i1, i2⟩ := ih (af p) h4
    refine ⟨⟨by rw [← h]; exact h3, by rw [← e1]; exact i1⟩, ?_⟩
    show lt p ++ wRw lt ps = lt' p ++ wRw lt' ps
    rw [e2, i2]
theorem TwS_c (h : ∀ k p, fol k p = fol' k p) (h2 : ∀ k p, fol k p = true → af p = af' p ∧ lt p = lt' p) {row : List Nat} (ht : TwS fol af lt row) : TwS fol' af' lt' row := by
  obtain ⟨ps, qs, h1, h3, h4, h5, h6, h7⟩ := ht
  obtain ⟨a1, a2⟩ := wOk_c h h2 ps 4 h1
  obtain ⟨b1, b2⟩ := wOk_c h h2 qs 4 h3
  exact ⟨ps, qs, a1, b1, h4, h5, by rw [← a2]; exact h6, by rw [← b2]; exact h7⟩
end
section
variable {A B : Nat → Nat → Int32} {r q S : Nat} {jn : Int32}
theorem MinS_n (h : ∀ p, p < 24 → ptT r q p = true → ptN B p = ptN A p ∧ ptC B p = ptC A p ∧ (16 ≤ p → ptB B p = ptB A p) ∧ ∀ j, j < ptN A p → ptL B p j = ptL A p j) (hm : MinS A r q jn S) : MinS B r q jn S := by
  have eF : ∀ k p, ptF A r q jn k p = ptF B r q jn k p := by
    intro k p
    unfold ptF
    by_cases hp : p < 24
    · cases hT : ptT r q p
      · simp
      · obtain ⟨h1, h2, h3, h4⟩ := h p hp hT
        by_cases e : p < 16
        · rw [if_pos e, if_pos e, h2]
        · rw [if_neg e, if_neg e, h3 (by omega)]
    · rw [decide_eq_false hp]; simp
  have e2 : ∀ k p, ptF A r q jn k p = true → ptC A p = ptC B p ∧ ptW A p = ptW B p := by
    intro k p hf
    obtain ⟨h1, h2, h3, h4⟩ := h p (pF_T hf).1 (pF_T hf).2
    refine ⟨h2.symm, ?_⟩
    unfold ptW
    rw [h1]
    exact List.map_congr_left fun j hj => (h4 j (List.mem_range.mp hj)).symm
  have e3 : ∀ k p, ptF B r q jn k p = true → ptC B p = ptC A p ∧ ptW B p = ptW A p := fun k p hf => by
    rw [← eF] at hf
    exact ⟨(e2 k p hf).1.symm, (e2 k p hf).2.symm⟩
  refine ⟨fun row hr => hm.1 row (TwS_c (fun k p => (eF k p).symm) e3 hr), ?_⟩
  rcases hm.2 with z | ⟨row, hr, z⟩
  · exact Or.inl z
  · exact Or.inr ⟨row, TwS_c eF e2 hr, z⟩
end
theorem cdN_c {g h : Nat → Nat} : ∀ n, (∀ j, j < n → g j = h j) → cdN g n = cdN h n := by
  intro n
  induction n with
  | zero => intro _; rfl
  | succ n ih => intro e; show cdN g n + g n * _ = cdN h n + h n * _; rw [ih (fun j hj => e j (by omega)), e n (by omega)]
section
variable {f f' : Nat → Int32} {b : Nat} {s : Int32} {lo hi : Nat}
theorem WO_c (h : WO f b s lo hi) (h4 : hi ≤ 4) (e : ∀ j, j < 4 → f (b + j) = f' (b + j)) : WO f' b s lo hi := by
  obtain ⟨m, m1, m2, m3, m4⟩ := h
  refine ⟨m, m1, m2, m3, fun j hj => ?_⟩
  rw [← e j (by omega)]
  exact m4 j hj
theorem gl_c (e : ∀ j, j < 4 → f (b + j) = f' (b + j)) {j : Nat} (hj : j < 4) : gl f b j = gl f' b j := by
  unfold gl
  rw [e j hj]
theorem cdW_c (h : WO f b s lo hi) (h4 : hi ≤ 4) (e : ∀ j, j < 4 → f (b + j) = f' (b + j)) : cdW f b s = cdW f' b s := by
  obtain ⟨m, m1, m2, m3, m4, _⟩ := WO_u h h4
  unfold cdW
  rw [m4, cdN_c m (fun j hj => gl_c e (by omega))]
/-- letters that are copied -/
theorem WO_n {src g g0 : Nat → Int32} {F n : Nat} (h : cpO src g g0 F b n) (hL : okL src F n) (h1 : lo ≤ n) (h2 : n ≤ hi) : WO g b (nI n) lo hi := by
  refine ⟨n, h1, h2, rfl, fun j hj => ?_⟩
  have := okL_gl hL j hj
  exact ⟨gl src F j, this.1.1, this.1.2, by rw [h.1 j hj]; exact this.2⟩
theorem gl_n {src g g0 : Nat → Int32} {F n j : Nat} (h : cpO src g g0 F b n) (hj : j < n) : gl g b j = gl src F j := by
  unfold gl
  rw [h.1 j hj]
theorem cdW_n {src g g0 : Nat → Int32} {F n : Nat} (h : cpO src g g0 F b n) (hn : n ≤ 4) : cdW g b (nI n) = nI (cdN (gl src F) n) := by
  unfold cdW
  rw [nI_clamp (by omega), cdN_c n (fun j hj => gl_n h hj)]
theorem lev_self (g : Nat → Nat) : ∀ a, lev g g a a = 0 := by
  intro a
  induction a with
  | zero => exact lev_0 g g 0
  | succ a ih => rw [lev_s, ih, if_pos rfl]; omega
end
section
variable {sc : Sc} {d : Nat} {A I : Nat → Nat → Int32} {L : Nat → Nat → Int64} {J : Nat → Nat → Int64} {r q n : Nat}
set_option maxHeartbeats 4000000 in
theorem n_ending (x y z v i k : Int32) (h : Inv A I J r q n) : PairI sc (d + 9) 158 235 [.int x, .int y, .int z, .int v, .int i, .int k] A L I J InvW := by
  have h0 := h
  obtain ⟨⟨s1, s2, s3, s4⟩, h2, h3, h4, h5, h6, h7, h8, h9, h10, h11, h12, h13, ⟨⟨r0, q0, S, t1, t2, t3, t4, t5, t6⟩, t7⟩⟩ := h
  have h3' := h3
  obtain ⟨w1, w2, w3, w4, w5, w6, w7, w8⟩ := h3'
  refine p_ending x y z v i k s1 s2 s3 s4 w5 w6 w2 (fun t => Inv_i (Inv_f h0 t)) (fun a b F m g ha hb hq hm1 hm2 hF hL hg => ?_)
  have g4 : ∀ e, e < q → ∀ j, j < 4 → A 74 (4 * e + j) = g (4 * e + j) := fun e he j hj => (hg.2 _ (by omega)).symm
  have A4 : ∀ (X : Nat → Nat → Int32) (c : Nat) (w : Int32) (j : Nat), j ≠ 16 + q → u2 X c (16 + q) w c j = X c j := fun X c w j hj => u2_nj hj
  refine mkI (q := q + 1) ⟨s1, s2, s3, s4⟩ ⟨rfl, h2.2⟩ ⟨w1, by omega, w3, w4, rfl, rfl, fun x hx => ?_, fun e he => ?_⟩ h4 h5 h6 h7 h8 h9 h10 h11 h12 h13 ⟨⟨r0, q0, S, t1, by omega, t3, t4, t5, MinS_n (fun p hp hT => ?_) t6⟩, Or.inl rfl⟩
  · have hx16 : x ≠ 16 + q := by omega
    obtain ⟨a1, a2, a3, a4, a5⟩ := w7 x hx
    refine ⟨a1, a2, ?_, ?_, ?_⟩
    · simp [u2, u1, hx16, a3]
    · simp [u2, u1, hx16, a4]
    · show u2 A 4 (16 + q) _ 4 x = cdW (A 68) (4 * x) (A 67 x)
      rw [u2_nj hx16]; exact a5
  · by_cases eq : e = q
    · subst eq
      refine ⟨?_, ⟨a, ha, by simp [u2, u1]⟩, ⟨b, hb, by simp [u2, u1]⟩, by simp [u2, u1], by simp [u2, u1], by simp [u2, u1], ?_⟩
      · show WO g (4 * e) (u2 _ 73 e (nI m) 73 e) 1 2
        rw [u2_rd]
        exact WO_n hg hL hm1 hm2
      · show u2 A 4 (16 + e) _ 4 (16 + e) = cdW g (4 * e) (u2 _ 73 e (nI m) 73 e)
        rw [u2_rd, u2_rd, cdW_n hg (by omega)]
    · obtain ⟨a1, ⟨k1, k2, k3⟩, ⟨l1, l2, l3⟩, a3, a4, a5, a6⟩ := w8 e (by omega)
      have he2 : ¬ 16 + e = 16 + q := by omega
      refine ⟨?_, ⟨k1, k2, by simp [u2, u1, eq, k3]⟩, ⟨l1, l2, by simp [u2, u1, eq, l3]⟩, by simp [u2, u1, eq, a3], by simp [u2, u1, eq, a4], by simp [u2, u1, eq, a5], ?_⟩
      · show WO g (4 * e) (u2 _ 73 q (nI m) 73 e) 1 2
        rw [u2_nj eq]
        exact WO_c a1 (by omega) (g4 e (by omega))
      · show u2 A 4 (16 + q) _ 4 (16 + e) = cdW g (4 * e) (u2 _ 73 q (nI m) 73 e)
        rw [u2_nj he2, u2_nj eq]
        exact a6.trans (cdW_c a1 (by omega) (g4 e (by omega)))
  · by_cases e : p < 16
    · exact ⟨by simp [ptN, e, u1, u2], by simp [ptC, e, u1, u2], fun z => absurd z (by omega), fun j _ => by unfold ptL; rw [if_pos e, if_pos e]; rfl⟩
    · unfold ptT at hT
      rw [if_neg e] at hT
      have hlt := of_decide_eq_true hT
      have hne : ¬ p - 16 = q := by omega
      have hN : ptN A p ≤ 4 := (pt_K h3 hp (by unfold ptT; rw [if_neg e]; exact decide_eq_true (by omega))).n4
      refine ⟨by simp [ptN, e, u1, u2, hne], by simp [ptC, e, u1, u2, hne], fun _ => by simp [ptB, u1, u2, hne], fun j hj => ?_⟩
      have : ptL (u1 (u2 (u2 (u2 (u2 (u2 (u2 (u2 A 4 (16 + q) (nI (cdN (gl (A 119) F) m))) 5 (16 + q) (nI m)) 6 (16 + q) (nI a)) 7 (16 + q) (nI b)) 71 q (nI a)) 72 q (nI b)) 73 q (nI m)) 74 g) p j = gl g (4 * (p - 16)) j := by unfold ptL; rw [if_neg e]; rfl
      rw [this]
      unfold ptL
      rw [if_neg e]
      exact (gl_c (g4 (p - 16) (by omega)) (by omega)).symm
set_option maxHeartbeats 4000000 in
theorem n_tongue (x y z v i k : Int32) (h : Inv A I J r q n) : PairI sc (d + 9) 177 275 [.int x, .int y, .int z, .int v, .int i, .int k] A L I J InvW := by
  have h0 := h
  obtain ⟨⟨s1, s2, s3, s4⟩, h2, h3, h4, h5, h6, h7, h8, h9, h10, h11, h12, h13, ⟨⟨r0, q0, S, t1, t2, t3, t4, t5, t6⟩, t7⟩⟩ := h
  have h3' := h3
  obtain ⟨w1, w2, w3, w4, w5, w6, w7, w8⟩ := h3'
  refine p_tongue x y z v i k s1 s2 s3 s4 w3 w4 w1 (fun x hx => (w7 x hx).1) (fun x hx => (w7 x hx).2.2.2.2) (fun t => Inv_i (Inv_f h0 t)) (fun t x F m g cc ht hx hm hF hL hg => ?_)
  refine mkI ⟨s1, s2, s3, s4⟩ ⟨rfl, h2.2⟩ h3 h4 h5 ⟨fun x' hx' t' ht' => ?_, fun t' x' ht' hx' hx2 => ?_⟩ h7 h8 h9 h10 h11 h12 h13 ⟨⟨r0, q0, S, t1, t2, t3, t4, t5, MinS_w ⟨rfl, rfl, rfl, rfl, rfl, rfl, rfl⟩ t6⟩, ?_⟩
  · by_cases e : t' = t ∧ x' = x
    · obtain ⟨rfl, rfl⟩ := e
      refine ⟨?_, ?_, ?_⟩
      · show WO g (4 * (16 * t' + x')) (u2 _ 96 (16 * t' + x') (nI m) 96 (16 * t' + x')) 0 4
        rw [u2_rd]
        exact WO_n hg hL (by omega) hm
      · show u2 A 9 (16 * t' + x') _ 9 (16 * t' + x') = cdW g (4 * (16 * t' + x')) (u2 _ 96 (16 * t' + x') (nI m) 96 (16 * t' + x'))
        rw [u2_rd, u2_rd, cdW_n hg hm]
      · show u2 _ 10 (16 * t' + x') _ 10 (16 * t' + x') = nI (1 + lvW g (4 * (16 * t' + x')) (u2 _ 96 (16 * t' + x') (nI m) 96 (16 * t' + x')) (A 68) (4 * x') (A 67 x'))
        rw [u2_rd, u2_rd]
        unfold lvW
        rw [nI_clamp (by omega), lev_c m _ (fun j hj => gl_n hg hj) (fun j _ => rfl)]
    · have hne : 16 * t' + x' ≠ 16 * t + x := by omega
      have g4 : ∀ j, j < 4 → A 97 (4 * (16 * t' + x') + j) = g (4 * (16 * t' + x') + j) := fun j hj => (hg.2 _ (by omega)).symm
      obtain ⟨a1, a2, a3⟩ := h6.1 x' hx' t' ht'
      refine ⟨?_, ?_, ?_⟩
      · show WO g (4 * (16 * t' + x')) (u2 _ 96 (16 * t + x) (nI m) 96 (16 * t' + x')) 0 4
        rw [u2_nj hne]
        exact WO_c a1 (by omega) g4
      · show u2 A 9 (16 * t + x) _ 9 (16 * t' + x') = cdW g (4 * (16 * t' + x')) (u2 _ 96 (16 * t + x) (nI m) 96 (16 * t' + x'))
        rw [u2_nj hne, u2_nj hne]
        exact a2.trans (cdW_c a1 (by omega) g4)
      · show u2 _ 10 (16 * t + x) _ 10 (16 * t' + x') = nI (1 + lvW g (4 * (16 * t' + x')) (u2 _ 96 (16 * t + x) (nI m) 96 (16 * t' + x')) (A 68) (4 * x') (A 67 x'))
        rw [u2_nj hne, u2_nj hne]
        refine Eq.trans a3 ?_
        obtain ⟨m', m1, m2, m3, m4, _⟩ := WO_u a1 (by omega)
        unfold lvT lvW
        show nI (1 + lev (gl (A 97) (4 * (16 * t' + x'))) _ (A 96 (16 * t' + x')).toNatClampNeg _) = nI (1 + lev (gl g (4 * (16 * t' + x'))) _ (A 96 (16 * t' + x')).toNatClampNeg _)
        rw [m4, lev_c m' _ (fun j hj => gl_c g4 (by omega)) (fun j _ => rfl)]
  · show u2 _ 96 (16 * t + x) (nI m) 96 (16 * t' + x') = 0
    rw [u2_nj (by omega)]
    exact h6.2 t' x' ht' hx' hx2
  · rcases t7 with z | ⟨z1, S', z2, z3⟩
    · exact Or.inl z
    · exact Or.inr ⟨z1, S', z2, MinS_w ⟨rfl, rfl, rfl, rfl, rfl, rfl, rfl⟩ z3⟩
end
