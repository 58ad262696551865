theorem ctF_t {f g : Nat → Bool} {o : Nat} : ∀ N, o < N → (∀ j, j < N → j ≠ o → g j = f j) → f o = false → g o = true → ctF g N = ctF f N + 1 := by
  intro N
  induction N with
  | zero => intro h; omega
  | succ N ih =>
    intro ho h hf hg
    unfold ctF
    by_cases e : o = N
    · subst e
      rw [hf, hg, ctF_c o (fun j hj => h j (by omega) (by omega))]
      simp
    · rw [ih (by omega) (fun j hj => h j (by omega)) hf hg, h N (by omega) (fun z => e z.symm)]
      omega
theorem smF_2 {f g : Nat → Nat} {a o n : Nat} (ha : a < n) (ho : o < n) (hao : a ≠ o) (h : ∀ i, i < n → i ≠ a → i ≠ o → g i = f i) (h1 : g a = f a + 1) (h2 : g o = f o + 1) : smF g n = smF f n + 2 := by
  have e1 : smF (fun i => if i = a then g a else f i) n = smF f n + 1 := smF_u (j := a) n ha (fun i _ hi => if_neg hi) (by simp [h1])
  have e2 : smF g n = smF (fun i => if i = a then g a else f i) n + 1 := smF_u (j := o) n ho (fun i hi hio => by
    by_cases e : i = a
    · simp [e]
    · simp only [e, if_false]; exact h i hi e hio) (by simp only [show ¬ o = a from fun z => hao z.symm, if_false]; exact h2)
  omega
theorem rmF_s (f : Nat → Int32) : ∀ b, rmF f b = nI (smF (fun b => ctF (fun j => bt (f b) j) 16) b) := by
  intro b
  induction b with
  | zero => rfl
  | succ b ih =>
    show rmF f b + cntF (f b) 16 = nI (smF _ b + _)
    rw [ih, cnt_ct _ 16 (by omega), nI_add]
theorem MinS_w {A B : Nat → Nat → Int32} {r q : Nat} {jn : Int32} {S : Nat} (h : B 66 = A 66 ∧ B 67 = A 67 ∧ B 68 = A 68 ∧ B 71 = A 71 ∧ B 72 = A 72 ∧ B 73 = A 73 ∧ B 74 = A 74) (hm : MinS A r q jn S) : MinS B r q jn S := by
  obtain ⟨h1, h2, h3, h4, h5, h6, h7⟩ := h
  have eC : ptC B = ptC A := funext fun p => by unfold ptC; rw [h1, h5]
  have eB : ptB B = ptB A := funext fun p => by unfold ptB; rw [h4]
  have eN : ptN B = ptN A := funext fun p => by unfold ptN; rw [h2, h6]
  have eL : ptL B = ptL A := funext fun p => funext fun j => by unfold ptL; rw [h3, h7]
  have eF : ptF B r q jn = ptF A r q jn := funext fun k => funext fun p => by unfold ptF; rw [eC, eB]
  have eW : ptW B = ptW A := funext fun p => by unfold ptW; rw [eN, eL]
  unfold MinS at hm ⊢
  rw [eF, eC, eW]
  exact hm
section
variable {sc : Sc} {d : Nat} {A I : Nat → Nat → Int32} {L : Nat → Nat → Int64} {J : Nat → Nat → Int64} {r q n : Nat}
theorem n_learn (x y v : Int32) (hv : v = 0 ∨ v = 1) (h : Inv A I J r q n) : PairI sc (d + 9) 179 281 [.int x, .int y, .int v] A L I J InvW := by
  have h0 := h
  obtain ⟨h1, h2, h3, h4, h5, h6, h7, h8, h9, ⟨p1, p2, p3, p4, p5, p6, p7, p8, p9, p10, p11, p12, p13⟩, h11, h12, h13, h14⟩ := h
  refine p_learn x y v hv p1 p2 p3 h3.2.2.1 h3.2.2.2.1 h3.1 p6 p13 (Inv_i h0) (fun p j hp hj _ => ?_)
  have hr := h3.1
  refine mkI h1 h2 h3 h4 h5 h6 h7 h8 h9 ⟨p1, p2, p3, p4, p5, by funext i; simp [u2, p6], by funext i; simp [u2, p7], fun p' x' hp' hx' hb => ?_, p9, p10, p11, p12, p13⟩ h11 h12 h13 h14
  by_cases e : p' = p ∧ x' = j
  · obtain ⟨rfl, rfl⟩ := e
    simp [u2]
  · have hne : ¬ 16 * p' + x' = 16 * p + j := by omega
    have hb2 : bt (A 40 p') x' = true := by
      by_cases e1 : p' = p
      · subst e1
        have : bt (A 40 p' ^^^ (1 <<< (nI j &&& 31))) x' = true := by simpa [u2] using hb
        rw [bt_xor, bt_sh (by omega) (by omega), decide_eq_false (fun z => e ⟨rfl, z⟩)] at this
        simpa using this
      · simpa [u2, e1] using hb
    have := p8 p' x' hp' hx' hb2
    simp [u2, hne, this]
theorem n_road (x y v : Int32) (hv : v = 0 ∨ v = 1) (h : Inv A I J r q n) : PairI sc (d + 9) 199 312 [.int x, .int y, .int v] A L I J InvW := by
  have h0 := h
  obtain ⟨h1, h2, h3, h4, h5, h6, h7, h8, h9, h10, h11, h12, ⟨o1, o2, o3, o4, k, o5, o6⟩, h14⟩ := h
  refine p_road x y v hv o1 (Inv_i h0) (fun a o ha ho hao _ => ?_)
  have key : ∀ X Y : Int32, X = A 63 a ^^^ (1 <<< (nI o &&& 31)) → Y = A 63 o ^^^ (1 <<< (nI a &&& 31)) → ∀ x y, x < 10 → y < 32 → bt (u2 (u2 A 63 a X) 63 o Y 63 x) y = if (x = a ∧ y = o) ∨ (x = o ∧ y = a) then !bt (A 63 x) y else bt (A 63 x) y := by
    intro X Y hX hY x y hx hy
    rw [u2_at, u2_at]
    by_cases e1 : x = o
    · subst e1
      rw [if_pos rfl, hY, bt_xor, bt_sh (by omega) hy]
      by_cases e2 : y = a
      · subst e2
        rw [if_pos (Or.inr ⟨rfl, rfl⟩)]; simp
      · rw [if_neg (by omega)]; simp [e2]
    · rw [if_neg e1]
      by_cases e2 : x = a
      · subst e2
        rw [if_pos rfl, hX, bt_xor, bt_sh (by omega) hy]
        by_cases e3 : y = o
        · subst e3
          rw [if_pos (Or.inl ⟨rfl, rfl⟩)]; simp
        · rw [if_neg (by omega)]; simp [e3]
      · rw [if_neg e2, if_neg (by omega)]
  have key := key _ _ rfl rfl
  refine mkI h1 h2 h3 h4 h5 h6 h7 h8 h9 h10 h11 h12 ⟨by funext i; simp [u2, o1], o2, fun b hb k k1 k2 => ?_, fun x y hx hy => ?_, ?_⟩ h14
  · refine (key b k hb k2).trans ?_
    rw [if_neg (by omega)]; exact o3 b hb k k1 k2
  · refine (key x y hx (by omega)).trans (Eq.trans ?_ (key y x hy (by omega)).symm)
    by_cases z : (x = a ∧ y = o) ∨ (x = o ∧ y = a)
    · rw [if_pos z, if_pos (by omega), o4 x y hx hy]
    · rw [if_neg z, if_neg (by omega), o4 x y hx hy]
  · have row : ∀ b, b < 10 → b ≠ a → b ≠ o → ctF (fun j => bt (u2 (u2 A 63 a (A 63 a ^^^ (1 <<< (nI o &&& 31)))) 63 o (A 63 o ^^^ (1 <<< (nI a &&& 31))) 63 b) j) 16 = ctF (fun j => bt (A 63 b) j) 16 := fun b hb b1 b2 => ctF_c 16 (fun j hj => (key b j hb (by omega)).trans (if_neg (by omega)))
    cases hw : bt (A 63 a) o
    · have hw2 : bt (A 63 o) a = false := by rw [o4 o a ho ha]; exact hw
      refine ⟨k + 1, ?_, ?_⟩
      · show (if false = true then I 62 2 + -1 else I 62 2 + 1) = _
        rw [if_neg Bool.false_ne_true, o5, nI_1]
      · refine Eq.trans (smF_2 (f := fun b => ctF (fun j => bt (A 63 b) j) 16) (g := fun b => ctF (fun j => bt (u2 (u2 A 63 a (A 63 a ^^^ (1 <<< (nI o &&& 31)))) 63 o (A 63 o ^^^ (1 <<< (nI a &&& 31))) 63 b) j) 16) ha ho hao row ?_ ?_) (by rw [o6]; omega)
        · exact ctF_t (o := o) 16 (by omega) (fun j hj hjo => (key a j ha (by omega)).trans (if_neg (by omega))) hw ((key a o ha (by omega)).trans (by rw [if_pos (Or.inl ⟨rfl, rfl⟩), hw]; rfl))
        · exact ctF_t (o := a) 16 (by omega) (fun j hj hjo => (key o j ho (by omega)).trans (if_neg (by omega))) hw2 ((key o a ho (by omega)).trans (by rw [if_pos (Or.inr ⟨rfl, rfl⟩), hw2]; rfl))
    · have hw2 : bt (A 63 o) a = true := by rw [o4 o a ho ha]; exact hw
      have e := smF_2 (g := fun b => ctF (fun j => bt (A 63 b) j) 16) (f := fun b => ctF (fun j => bt (u2 (u2 A 63 a (A 63 a ^^^ (1 <<< (nI o &&& 31)))) 63 o (A 63 o ^^^ (1 <<< (nI a &&& 31))) 63 b) j) 16) ha ho hao (fun b hb b1 b2 => (row b hb b1 b2).symm) (ctF_t (o := o) 16 (by omega) (fun j hj hjo => ((key a j ha (by omega)).trans (if_neg (by omega))).symm) ((key a o ha (by omega)).trans (by rw [if_pos (Or.inl ⟨rfl, rfl⟩), hw]; rfl)) hw) (ctF_t (o := a) 16 (by omega) (fun j hj hjo => ((key o j ho (by omega)).trans (if_neg (by omega))).symm) ((key o a ho (by omega)).trans (by rw [if_pos (Or.inr ⟨rfl, rfl⟩), hw2]; rfl)) hw2)
      rw [o6] at e
      obtain ⟨k', rfl⟩ : ∃ k', k = k' + 1 := ⟨k - 1, by omega⟩
      refine ⟨k', ?_, ?_⟩
      · show (if true = true then I 62 2 + -1 else I 62 2 + 1) = _
        rw [if_pos rfl, o5]; exact pk_m1 _
      · refine Eq.trans (show _ = smF (fun b => ctF (fun j => bt (u2 (u2 A 63 a (A 63 a ^^^ (1 <<< (nI o &&& 31)))) 63 o (A 63 o ^^^ (1 <<< (nI a &&& 31))) 63 b) j) 16) 10 from rfl) (by omega)
theorem n_many (x : Int32) (h : Inv A I J r q n) : PairI sc (d + 9) 217 330 [.int x] A L I J InvW := by
  have h0 := h
  obtain ⟨h1, h2, ⟨w1, w2, w3, w4, w5, w6, w7, w8⟩, h4, h5, h6, ⟨d1, d2, d3, m, px, py, m8, e1, e2, hp⟩, ⟨u, cl, mr, r1, r2⟩, ⟨a1, a2, a3, s, sn, so, sx, sy, a4⟩, ⟨p1, p2, p3, p4, p5, p6, p7, p8, ⟨j, j1, j2, j3⟩, p10, p11, p12, p13⟩, ⟨⟨b, b1, b2, b3, b4⟩, c1⟩, ⟨_, s', tn, rn, t1, t2, t3, t4, t5, t6, t7, t8⟩, ⟨o1, o2, o3, o4, k, o5, o6⟩, h14⟩ := h
  refine p_many x (by rw [w3, w4]) (by rw [w5, w6]) (by rw [r1.2.1, r1.2.2.1]) (by rw [a4.2.1, a4.2.2.1]) (by rw [p1, p2]) (by rw [j2, j3]) (by rw [b2, b3]) (by rw [e1, e2]) (by rw [t6, t7]) p13 ?_ (Inv_i h0)
  have hb : smF (fun b => ctF (fun j => bt (A 63 b) j) 16) 10 ≤ 10 * 16 := smF_b 10 (fun b _ => ctF_le _ 16)
  rw [rmF_s, ← o1, o6, o5]
  rw [o6] at hb
  have e : nI (2 * k) / 2 = nI (2 * k / 2) := pk_div (d := 2) (by omega) (by omega) (by omega)
  rw [e]
  congr 1
  omega
theorem n_pair (x y : Int32) (h : Inv A I J r q n) : PairI sc (d + 9) 194 300 [.int x, .int y] A L I J InvW := by
  have h0 := h
  obtain ⟨h1, h2, h3, h4, h5, h6, ⟨d1, d2, d3, m, px, py, m8, e1, e2, hp⟩, h8, h9, h10, h11, h12, h13, h14⟩ := h
  have hr := h3.1
  refine p_pair x y h3.2.2.1 h3.2.2.2.1 h3.1 e1 e2 m8 d2 (fun j hj => d3 j (by omega)) (Inv_i h0) (fun hm a o ha ho hao _ _ => ?_)
  refine mkI h1 h2 h3 h4 h5 h6 ⟨d1, by funext i; simp [u2, d2], fun j hj => ?_, m + 1, u1 px m a, u1 py m o, by omega, rfl, rfl, fun k hk => ?_⟩ h8 h9 h10 h11 h12 h13 h14
  · show u2 (u2 A 53 a (nI m)) 53 o (nI m) 53 j = -9 ∨ ∃ k, k < 8 ∧ u2 (u2 A 53 a (nI m)) 53 o (nI m) 53 j = nI k
    rw [u2_at, u2_at]
    by_cases z1 : j = o
    · rw [if_pos z1]; exact Or.inr ⟨m, hm, rfl⟩
    · rw [if_neg z1]
      by_cases z2 : j = a
      · rw [if_pos z2]; exact Or.inr ⟨m, hm, rfl⟩
      · rw [if_neg z2]; exact d3 j hj
  · by_cases ek : k = m
    · subst ek
      rw [u1_eq, u1_eq]
      exact ⟨ha, ho, by simp [u2], by simp [u2], by simp [u2], by simp [u2]⟩
    · rw [u1_ne ek, u1_ne ek]
      obtain ⟨q1, q2, q3, q4, q5, q6⟩ := hp k (by omega)
      refine ⟨q1, q2, by simp [u2, ek, q3], by simp [u2, ek, q4], ?_, ?_⟩
      · show u2 (u2 A 54 (2 * m) _) 54 (2 * m + 1) _ 54 (2 * k) = _
        rw [u2_nj (by omega), u2_nj (by omega)]; exact q5
      · show u2 (u2 A 54 (2 * m) _) 54 (2 * m + 1) _ 54 (2 * k + 1) = _
        rw [u2_nj (by omega), u2_nj (by omega)]; exact q6
theorem n_sheet (x y z : Int32) (h : Inv A I J r q n) : PairI sc (d + 9) 203 317 [.int x, .int y, .int z] A L I J InvW := by
  have h0 := h
  obtain ⟨⟨s1, s2, s3, s4⟩, h2, h3, h4, h5, h6, h7, h8, h9, h10, h11, h12, h13, h14⟩ := h
  refine p_sheet x y z (fun t => Inv_i (Inv_f h0 t)) (fun k l m hk hl hm => ?_)
  refine mkI ⟨?_, by funext i; simp [u2, u1, s2], by funext i; simp [u2, u1, s3], fun j hj => ?_⟩ ⟨rfl, h2.2⟩ h3 h4 h5 h6 h7 h8 h9 h10 h11 h12 h13 h14
  · show zf (A 19) (60 * k) m = zf (A 119) (60 * k) m
    rw [s1]
  · show u2 A 21 k (nI m) 21 j = -1 ∨ ∃ m', m' ≤ 60 ∧ u2 A 21 k (nI m) 21 j = nI m'
    by_cases e : j = k
    · rw [e, u2_rd]; exact Or.inr ⟨m, hm, rfl⟩
    · rw [u2_nj e]; exact s4 j hj
theorem n_put (x y v : Int32) (h : Inv A I J r q n) : PairI sc (d + 9) 205 320 [.int x, .int y, .int v] A L I J InvW := by
  have h0 := h
  obtain ⟨⟨s1, s2, s3, s4⟩, h2, h3, h4, h5, h6, h7, h8, h9, h10, h11, h12, h13, h14⟩ := h
  exact p_put x y v s2 s3 s4 (fun t => Inv_i (Inv_f h0 t)) (fun k i m hk hm _ hi => mkI ⟨by funext i; simp [u2, s1], s2, s3, s4⟩ ⟨rfl, h2.2⟩ h3 h4 h5 h6 h7 h8 h9 h10 h11 h12 h13 h14)
theorem n_copy (x y z v t : Int32) (h : Inv A I J r q n) : PairI sc (d + 9) 207 322 [.int x, .int y, .int z, .int v, .int t] A L I J InvW := by
  have h0 := h
  obtain ⟨⟨s1, s2, s3, s4⟩, h2, h3, h4, h5, h6, h7, h8, h9, h10, h11, h12, h13, h14⟩ := h
  exact p_copy x y z v t s1 s2 s3 s4 (fun t => Inv_i (Inv_f h0 t)) (fun k i o j m hk ho hi hj => mkI ⟨rfl, s2, s3, s4⟩ ⟨rfl, h2.2⟩ h3 h4 h5 h6 h7 h8 h9 h10 h11 h12 h13 h14)
theorem n_mean (a b e f : Int32) (h : Inv A I J r q n) : PairI sc (d + 9) 170 260 [.int a, .int b, .int e, .int f] A L I J InvW := by
  have h0 := h
  obtain ⟨h1, h2, h3, h4, h5, h6, h7, h8, ⟨a1, a2, a3, a4⟩, h10, h11, h12, h13, h14⟩ := h
  have hr := h3.1
  refine p_mean a b e f h3.2.2.1 h3.2.2.2.1 h3.1 a1 (Inv_i h0) (fun k j a b hk hj ha hb => ?_)
  refine mkI h1 h2 h3 h4 h5 h6 h7 h8 ⟨fun q hq => ?_, fun k' x hk' hx => ?_, a3, a4⟩ h10 h11 h12 h13 h14
  · by_cases e : q = 16 * k + j
    · subst e
      simp [u2]
      exact Int32.mul_comm _ _
    · simp [u2, e, a1 q hq]
  · by_cases e : 16 * k' + x = 16 * k + j
    · rw [e]
      simp [u2]
    · have := a2 k' x hk' hx
      simp [u2, e, this]
theorem n_stand (x y : Int32) (h : Inv A I J r q n) : PairI sc (d + 9) 163 240 [.int x, .int y] A L I J InvW := by
  have h0 := h
  obtain ⟨h1, h2, h3, h4, h5, h6, h7, ⟨u, cl, mr, r1, r2⟩, h9, h10, h11, h12, h13, ⟨⟨r0, q0, S, t1, t2, t3, t4, t5, t6⟩, t7⟩⟩ := h
  refine p_stand x y r1 r2 (Inv_i h0) ?_ (fun f jn a b ha hb hst => ?_)
  · exact mkI h1 h2 h3 h4 h5 h6 h7 ⟨u, cl, mr, r1, r2⟩ h9 h10 h11 h12 h13 ⟨⟨r0, q0, S, t1, t2, t3, t4, t5, t6⟩, Or.inl rfl⟩
  · obtain ⟨g1, g2, g3, g4, g5, g6, g7, g8, g9, g10⟩ := r1
    exact mkI h1 h2 h3 h4 h5 h6 h7 ⟨u, cl, mr, ⟨g1, g2, g3, g4, g5, g6, g7, g8, rfl, rfl⟩, hst⟩ h9 h10 h11 h12 h13 ⟨⟨r0, q0, S, t1, t2, t3, t4, t5, MinS_w ⟨rfl, rfl, rfl, rfl, rfl, rfl, rfl⟩ t6⟩, Or.inl rfl⟩
theorem n_month (h : Inv A I J r q n) : PairI sc (d + 9) 184 288 [] A L I J InvW := by
  have h0 := h
  obtain ⟨h1, h2, h3, h4, h5, h6, h7, h8, h9, ⟨p1, p2, p3, p4, p5, p6, p7, p8, ⟨j, j1, j2, j3⟩, p10, p11, p12, p13⟩, h11, h12, h13, h14⟩ := h
  refine p_month p1 p2 p3 h3.2.2.1 h3.2.2.2.1 h3.1 j2 j3 j1 p12 p13 p10 p11 p6 p7 (fun p x hp hx hb => (p8 p x hp hx hb).2) (fun p x hp hx hb => (p8 p x hp hx hb).1) (fun C c1 c2 c3 c4 _ => ?_)
  refine ⟨fun k => if k = 40 ∨ k = 98 then C 40 else if k = 41 ∨ k = 99 then C 41 else if k = 42 ∨ k = 100 ∨ k = 106 then C k else A k, fun k k1 k2 i hi => ?_, r, q, n, h1, h2, h3, h4, h5, h6, h7, h8, h9, ⟨p1, p2, p3, p4, p5, rfl, rfl, fun p x hp hx hb => ⟨(c4 p x hp hx hb).2, (c4 p x hp hx hb).1⟩, ⟨j, j1, j2, j3⟩, p10, p11, p12, ?_⟩, h11, h12, h13, h14⟩
  · by_cases e1 : k = 40 ∨ k = 98
    · simp only [e1, if_true]
      rcases e1 with rfl | rfl
      · rfl
      · exact (c2 i hi).symm
    · simp only [e1, if_false]
      by_cases e2 : k = 41 ∨ k = 99
      · simp only [e2, if_true]
        rcases e2 with rfl | rfl
        · rfl
        · have hi : i < 192 := hi
          have := c3 (i / 16) (i % 16) (by omega) (by omega)
          rw [show 16 * (i / 16) + i % 16 = i by omega] at this
          exact this.symm
      · simp only [e2, if_false]
        by_cases e3 : k = 42 ∨ k = 100 ∨ k = 106
        · simp only [e3, if_true]
        · simp only [e3, if_false]
          rw [c1 k (by omega) (by omega) (by omega) (by omega) (by omega) (by omega) (by omega)]
  · show I 38 9 + 1 = I 64 54 + 1
    rw [p13]
end
