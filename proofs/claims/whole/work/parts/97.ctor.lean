theorem Cl_m {n n' : Nat} {A I : Nat → Nat → Int32} {L J : Nat → Nat → Int64} {R : Nat → Nat → Option Nat} (h : Cl n A I L J R) (hn : n ≤ n') : Cl n' A I L J R := fun k hk => h k (by omega)
theorem Cl_R {n a b : Nat} {v : Option Nat} {A I : Nat → Nat → Int32} {L J : Nat → Nat → Int64} {R : Nat → Nat → Option Nat} (hn : a ≤ n) (h : Cl n A I L J R) : Cl n A I L J (uR R a b v) := by
  intro k hk
  obtain ⟨h1, h2, h3, h4, h5⟩ := h k hk
  refine ⟨h1, h2, h3, h4, fun j => ?_⟩
  unfold uR
  rw [show Nat.beq k a = false from by
    cases hb : Nat.beq k a with
    | false => rfl
    | true => exact absurd (Nat.eq_of_beq_eq_true hb) (by omega)]
  exact h5 j
theorem Cl_A {n a : Nat} {f : Nat → Int32} {A I : Nat → Nat → Int32} {L J : Nat → Nat → Int64} {R : Nat → Nat → Option Nat} (hn : a ≤ n) (h : Cl n A I L J R) : Cl n (u1 A a f) I L J R := by
  intro k hk
  obtain ⟨h1, h2, h3, h4, h5⟩ := h k hk
  exact ⟨by rw [u1_ne (by omega)]; exact h1, h2, h3, h4, h5⟩
theorem Cl_I {n a b : Nat} {v : Int32} {A I : Nat → Nat → Int32} {L J : Nat → Nat → Int64} {R : Nat → Nat → Option Nat} (hn : a ≤ n) (h : Cl n A I L J R) : Cl n A (u2 I a b v) L J R := by
  intro k hk
  obtain ⟨h1, h2, h3, h4, h5⟩ := h k hk
  refine ⟨h1, h2, ?_, h4, h5⟩
  funext j
  have : u2 I a b v k j = I k j := by
    have : k ≠ a := by omega
    simp [u2, this]
  rw [this, h3]
theorem Cl_J {n a b : Nat} {v : Int64} {A I : Nat → Nat → Int32} {L J : Nat → Nat → Int64} {R : Nat → Nat → Option Nat} (hn : a ≤ n) (h : Cl n A I L J R) : Cl n A I L (u2 J a b v) R := by
  intro k hk
  obtain ⟨h1, h2, h3, h4, h5⟩ := h k hk
  refine ⟨h1, h2, h3, ?_, h5⟩
  funext j
  have : u2 J a b v k j = J k j := by
    have : k ≠ a := by omega
    simp [u2, this]
  rw [this, h4]
def sc153 (pc : Nat) : Option (List Bool) := bif List.contains [4, 17, 29, 41, 52, 63, 74, 85, 96, 107, 118, 129] pc then some [true, Nat.ble 17 pc] else none
section
variable {sc : Sc} {d : Nat} {A I : Nat → Nat → Int32} {L J : Nat → Nat → Int64} {R : Nat → Nat → Option Nat} {Q : Option Value → Wd → Prop} {K : Kt}
theorem cc_146 (hK : am_cl sc (Ct sc (d + 2)) 153 Q K) (hc : Cl 1 A I L J R) (hn : Cl 11 A (u2 (u2 I 2 9 0) 2 10 0) L J (uR (uR (uR (uR (uR (uR (uR (uR (uR (uR R 2 0 (some 3)) 2 1 (some 4)) 2 2 (some 5)) 2 3 (some 6)) 2 4 (some 7)) 2 5 (some 8)) 2 6 (some 9)) 2 7 (some 10)) 2 8 (some 11)) 1 1 (some 2)) → K 17 [some (.ref 1), some (.ref 2)] [] (11, A, L, (u2 (u2 I 2 9 0) 2 10 0), J, uR (uR (uR (uR (uR (uR (uR (uR (uR (uR R 2 0 (some 3)) 2 1 (some 4)) 2 2 (some 5)) 2 3 (some 6)) 2 4 (some 7)) 2 5 (some 8)) 2 6 (some 9)) 2 7 (some 10)) 2 8 (some 11)) 1 1 (some 2)) 10 272) : K 4 [some (.ref 1), none] [] (1, A, L, I, J, R) 0 0 := by
  have hd : Cl 2 A I L J R := Cl_m hc (by omega)
  refine am_go hK sc153 20 ?_
  (conv => whnf)
  refine And.intro (Ct_e rfl (wn_eq (n := 1) (o := 0) (j := 0) (hc 2 (by omega))) (fi_146 hd ?_)) trivial
  (conv => whnf)
  refine hn (by repeat (first | exact Cl_m hc (by omega) | refine Cl_R (by omega) ?_ | refine Cl_A (by omega) ?_ | refine Cl_I (by omega) ?_ | refine Cl_J (by omega) ?_))
theorem cc_138 (hK : am_cl sc (Ct sc (d + 2)) 153 Q K) (hc : Cl 11 A I L J R) (hn : Cl 14 A I L J (uR (uR (uR (uR R 12 1 (some 13)) 12 2 (some 14)) 12 0 (some 2)) 1 3 (some 12)) → K 29 [some (.ref 1), some (.ref 2)] [] (14, A, L, I, J, uR (uR (uR (uR R 12 1 (some 13)) 12 2 (some 14)) 12 0 (some 2)) 1 3 (some 12)) 13 381) : K 17 [some (.ref 1), some (.ref 2)] [] (11, A, L, I, J, R) 10 272 := by
  have hd : Cl 12 A I L J R := Cl_m hc (by omega)
  refine am_go hK sc153 20 ?_
  (conv => whnf)
  refine And.intro (Ct_e rfl (wn_eq (n := 11) (o := 0) (j := 0) (hc 12 (by omega))) (fi_138 hd ?_)) trivial
  (conv => whnf)
  refine hn (by repeat (first | exact Cl_m hc (by omega) | refine Cl_R (by omega) ?_ | refine Cl_A (by omega) ?_ | refine Cl_I (by omega) ?_ | refine Cl_J (by omega) ?_))
theorem cc_119 (hK : am_cl sc (Ct sc (d + 2)) 153 Q K) (hc : Cl 14 A I L J R) (hn : Cl 17 A I L (u2 J 15 5 (lkc 20)) (uR (uR (uR (uR R 15 1 (some 16)) 15 2 (some 17)) 15 0 (some 2)) 1 4 (some 15)) → K 41 [some (.ref 1), some (.ref 2)] [] (17, A, L, I, (u2 J 15 5 (lkc 20)), uR (uR (uR (uR R 15 1 (some 16)) 15 2 (some 17)) 15 0 (some 2)) 1 4 (some 15)) 16 2125) : K 29 [some (.ref 1), some (.ref 2)] [] (14, A, L, I, J, R) 13 381 := by
  have hd : Cl 15 A I L J R := Cl_m hc (by omega)
  refine am_go hK sc153 20 ?_
  (conv => whnf)
  refine And.intro (Ct_e rfl (wn_eq (n := 14) (o := 0) (j := 0) (hc 15 (by omega))) (fi_119 hd ?_)) trivial
  (conv => whnf)
  refine hn (by repeat (first | exact Cl_m hc (by omega) | refine Cl_R (by omega) ?_ | refine Cl_A (by omega) ?_ | refine Cl_I (by omega) ?_ | refine Cl_J (by omega) ?_))
theorem cc_104 (hK : am_cl sc (Ct sc (d + 2)) 153 Q K) (hc : Cl 17 A I L J R) (hn : ∀ f : Nat → Int32, (∀ k, k < 4 → f k = -1) → Cl 21 (u1 A 21 f) I L J (uR (uR (uR (uR R 18 0 (some 19)) 18 1 (some 20)) 18 2 (some 21)) 1 0 (some 18)) → K 52 [some (.ref 1), some (.ref 2)] [] (21, (u1 A 21 f), L, I, J, uR (uR (uR (uR R 18 0 (some 19)) 18 1 (some 20)) 18 2 (some 21)) 1 0 (some 18)) 20 2376) : K 41 [some (.ref 1), some (.ref 2)] [] (17, A, L, I, J, R) 16 2125 := by
  have hd : Cl 18 A I L J R := Cl_m hc (by omega)
  refine am_go hK sc153 20 ?_
  (conv => whnf)
  refine And.intro (Ct_e rfl (wn_eq (n := 17) (o := 0) (j := 0) (hc 18 (by omega))) (fi_104 hd ?_)) trivial
  intro f hf
  (conv => whnf)
  refine hn _ hf (by repeat (first | exact Cl_m hc (by omega) | refine Cl_R (by omega) ?_ | refine Cl_A (by omega) ?_ | refine Cl_I (by omega) ?_ | refine Cl_J (by omega) ?_))
theorem cc_91 (hK : am_cl sc (Ct sc (d + 2)) 153 Q K) (hc : Cl 21 A I L J R) (hn : ∀ f : Nat → Int32, (∀ k, k < 16 → f k = -9) → Cl 28 (u1 A 28 f) I L J (uR (uR (uR (uR (uR (uR (uR R 22 0 (some 23)) 22 1 (some 24)) 22 2 (some 25)) 22 3 (some 26)) 22 4 (some 27)) 22 5 (some 28)) 1 2 (some 22)) → K 63 [some (.ref 1), some (.ref 2)] [] (28, (u1 A 28 f), L, I, J, uR (uR (uR (uR (uR (uR (uR R 22 0 (some 23)) 22 1 (some 24)) 22 2 (some 25)) 22 3 (some 26)) 22 4 (some 27)) 22 5 (some 28)) 1 2 (some 22)) 27 2487) : K 52 [some (.ref 1), some (.ref 2)] [] (21, A, L, I, J, R) 20 2376 := by
  have hd : Cl 22 A I L J R := Cl_m hc (by omega)
  refine am_go hK sc153 20 ?_
  (conv => whnf)
  refine And.intro (Ct_e rfl (wn_eq (n := 21) (o := 0) (j := 0) (hc 22 (by omega))) (fi_91 hd ?_)) trivial
  intro f hf
  (conv => whnf)
  refine hn _ hf (by repeat (first | exact Cl_m hc (by omega) | refine Cl_R (by omega) ?_ | refine Cl_A (by omega) ?_ | refine Cl_I (by omega) ?_ | refine Cl_J (by omega) ?_))
theorem cc_40 (hK : am_cl sc (Ct sc (d + 2)) 153 Q K) (hc : Cl 28 A I L J R) (hn : ∀ f g : Nat → Int32, (∀ k, k < 64 → f k = 65535) → wlO g 969 → Cl 37 (u1 (u1 A 31 f) 34 g) I L J (uR (uR (uR (uR (uR (uR (uR (uR (uR R 29 0 (some 30)) 29 1 (some 31)) 29 2 (some 32)) 29 3 (some 33)) 29 4 (some 34)) 29 5 (some 35)) 29 6 (some 36)) 29 7 (some 37)) 1 5 (some 29)) → K 74 [some (.ref 1), some (.ref 2)] [] (37, (u1 (u1 A 31 f) 34 g), L, I, J, uR (uR (uR (uR (uR (uR (uR (uR (uR R 29 0 (some 30)) 29 1 (some 31)) 29 2 (some 32)) 29 3 (some 33)) 29 4 (some 34)) 29 5 (some 35)) 29 6 (some 36)) 29 7 (some 37)) 1 5 (some 29)) 36 3735) : K 63 [some (.ref 1), some (.ref 2)] [] (28, A, L, I, J, R) 27 2487 := by
  have hd : Cl 29 A I L J R := Cl_m hc (by omega)
  refine am_go hK sc153 20 ?_
  (conv => whnf)
  refine And.intro (Ct_e rfl (wn_eq (n := 28) (o := 0) (j := 0) (hc 29 (by omega))) (fi_40 hd ?_)) trivial
  intro f g hf hg
  (conv => whnf)
  refine hn _ _ hf hg (by repeat (first | exact Cl_m hc (by omega) | refine Cl_R (by omega) ?_ | refine Cl_A (by omega) ?_ | refine Cl_I (by omega) ?_ | refine Cl_J (by omega) ?_))
theorem cc_57 (hK : am_cl sc (Ct sc (d + 2)) 153 Q K) (hc : Cl 37 A I L J R) (hn : Cl 44 A (u2 I 38 8 2) L J (uR (uR (uR (uR (uR (uR (uR R 38 0 (some 39)) 38 1 (some 40)) 38 2 (some 41)) 38 3 (some 42)) 38 4 (some 43)) 38 5 (some 44)) 1 6 (some 38)) → K 85 [some (.ref 1), some (.ref 2)] [] (44, A, L, (u2 I 38 8 2), J, uR (uR (uR (uR (uR (uR (uR R 38 0 (some 39)) 38 1 (some 40)) 38 2 (some 41)) 38 3 (some 42)) 38 4 (some 43)) 38 5 (some 44)) 1 6 (some 38)) 43 4165) : K 74 [some (.ref 1), some (.ref 2)] [] (37, A, L, I, J, R) 36 3735 := by
  have hd : Cl 38 A I L J R := Cl_m hc (by omega)
  refine am_go hK sc153 20 ?_
  (conv => whnf)
  refine And.intro (Ct_e rfl (wn_eq (n := 37) (o := 0) (j := 0) (hc 38 (by omega))) (fi_57 hd ?_)) trivial
  (conv => whnf)
  refine hn (by repeat (first | exact Cl_m hc (by omega) | refine Cl_R (by omega) ?_ | refine Cl_A (by omega) ?_ | refine Cl_I (by omega) ?_ | refine Cl_J (by omega) ?_))
theorem cc_0 (hK : am_cl sc (Ct sc (d + 2)) 153 Q K) (hc : Cl 44 A I L J R) (hn : Cl 50 A (u2 I 45 5 0) L J (uR (uR (uR (uR (uR (uR R 45 0 (some 46)) 45 1 (some 47)) 45 2 (some 48)) 45 3 (some 49)) 45 4 (some 50)) 1 7 (some 45)) → K 96 [some (.ref 1), some (.ref 2)] [] (50, A, L, (u2 I 45 5 0), J, uR (uR (uR (uR (uR (uR R 45 0 (some 46)) 45 1 (some 47)) 45 2 (some 48)) 45 3 (some 49)) 45 4 (some 50)) 1 7 (some 45)) 49 4336) : K 85 [some (.ref 1), some (.ref 2)] [] (44, A, L, I, J, R) 43 4165 := by
  have hd : Cl 45 A I L J R := Cl_m hc (by omega)
  refine am_go hK sc153 20 ?_
  (conv => whnf)
  refine And.intro (Ct_e rfl (wn_eq (n := 44) (o := 0) (j := 0) (hc 45 (by omega))) (fi_0 hd ?_)) trivial
  (conv => whnf)
  refine hn (by repeat (first | exact Cl_m hc (by omega) | refine Cl_R (by omega) ?_ | refine Cl_A (by omega) ?_ | refine Cl_I (by omega) ?_ | refine Cl_J (by omega) ?_))
theorem cc_23 (hK : am_cl sc (Ct sc (d + 2)) 153 Q K) (hc : Cl 50 A I L J R) (hn : ∀ f : Nat → Int32, (∀ k, k < 16 → f k = -9) → Cl 55 (u1 A 53 f) I L J (uR (uR (uR (uR (uR R 51 0 (some 52)) 51 1 (some 53)) 51 2 (some 54)) 51 3 (some 55)) 1 8 (some 51)) → K 107 [some (.ref 1), some (.ref 2)] [] (55, (u1 A 53 f), L, I, J, uR (uR (uR (uR (uR R 51 0 (some 52)) 51 1 (some 53)) 51 2 (some 54)) 51 3 (some 55)) 1 8 (some 51)) 54 4407) : K 96 [some (.ref 1), some (.ref 2)] [] (50, A, L, I, J, R) 49 4336 := by
  have hd : Cl 51 A I L J R := Cl_m hc (by omega)
  refine am_go hK sc153 20 ?_
  (conv => whnf)
  refine And.intro (Ct_e rfl (wn_eq (n := 50) (o := 0) (j := 0) (hc 51 (by omega))) (fi_23 hd ?_)) trivial
  intro f hf
  (conv => whnf)
  refine hn _ hf (by repeat (first | exact Cl_m hc (by omega) | refine Cl_R (by omega) ?_ | refine Cl_A (by omega) ?_ | refine Cl_I (by omega) ?_ | refine Cl_J (by omega) ?_))
theorem cc_14 (hK : am_cl sc (Ct sc (d + 2)) 153 Q K) (hc : Cl 55 A I L J R) (hn : Cl 61 A (u2 (u2 I 56 6 2) 56 7 2) L J (uR (uR (uR (uR (uR (uR R 56 0 (some 57)) 56 1 (some 58)) 56 2 (some 59)) 56 3 (some 60)) 56 4 (some 61)) 1 9 (some 56)) → K 118 [some (.ref 1), some (.ref 2)] [] (61, A, L, (u2 (u2 I 56 6 2) 56 7 2), J, uR (uR (uR (uR (uR (uR R 56 0 (some 57)) 56 1 (some 58)) 56 2 (some 59)) 56 3 (some 60)) 56 4 (some 61)) 1 9 (some 56)) 60 4440) : K 107 [some (.ref 1), some (.ref 2)] [] (55, A, L, I, J, R) 54 4407 := by
  have hd : Cl 56 A I L J R := Cl_m hc (by omega)
  refine am_go hK sc153 20 ?_
  (conv => whnf)
  refine And.intro (Ct_e rfl (wn_eq (n := 55) (o := 0) (j := 0) (hc 56 (by omega))) (fi_14 hd ?_)) trivial
  (conv => whnf)
  refine hn (by repeat (first | exact Cl_m hc (by omega) | refine Cl_R (by omega) ?_ | refine Cl_A (by omega) ?_ | refine Cl_I (by omega) ?_ | refine Cl_J (by omega) ?_))
theorem cc_83 (hK : am_cl sc (Ct sc (d + 2)) 153 Q K) (hc : Cl 61 A I L J R) (hn : Cl 63 A (u2 (u2 I 62 1 0) 62 2 0) L J (uR (uR R 62 0 (some 63)) 1 10 (some 62)) → K 129 [some (.ref 1), some (.ref 2)] [] (63, A, L, (u2 (u2 I 62 1 0) 62 2 0), J, uR (uR R 62 0 (some 63)) 1 10 (some 62)) 62 4453) : K 118 [some (.ref 1), some (.ref 2)] [] (61, A, L, I, J, R) 60 4440 := by
  have hd : Cl 62 A I L J R := Cl_m hc (by omega)
  refine am_go hK sc153 20 ?_
  (conv => whnf)
  refine And.intro (Ct_e rfl (wn_eq (n := 61) (o := 0) (j := 0) (hc 62 (by omega))) (fi_83 hd ?_)) trivial
  (conv => whnf)
  refine hn (by repeat (first | exact Cl_m hc (by omega) | refine Cl_R (by omega) ?_ | refine Cl_A (by omega) ?_ | refine Cl_I (by omega) ?_ | refine Cl_J (by omega) ?_))
/-- the references that the program's constructor sets -/
def Rc (R : Nat → Nat → Option Nat) : Nat → Nat → Option Nat := (uR (uR (uR (uR (uR (uR (uR (uR (uR (uR (uR (uR (uR (uR (uR (uR (uR (uR (uR (uR (uR (uR (uR (uR (uR (uR (uR (uR (uR (uR (uR (uR (uR (uR (uR (uR (uR (uR (uR (uR (uR (uR (uR (uR (uR (uR (uR (uR (uR (uR (uR (uR (uR (uR (uR (uR (uR (uR (uR (uR (uR (uR (uR (uR R 2 0 (some 3)) 2 1 (some 4)) 2 2 (some 5)) 2 3 (some 6)) 2 4 (some 7)) 2 5 (some 8)) 2 6 (some 9)) 2 7 (some 10)) 2 8 (some 11)) 1 1 (some 2)) 12 1 (some 13)) 12 2 (some 14)) 12 0 (some 2)) 1 3 (some 12)) 15 1 (some 16)) 15 2 (some 17)) 15 0 (some 2)) 1 4 (some 15)) 18 0 (some 19)) 18 1 (some 20)) 18 2 (some 21)) 1 0 (some 18)) 22 0 (some 23)) 22 1 (some 24)) 22 2 (some 25)) 22 3 (some 26)) 22 4 (some 27)) 22 5 (some 28)) 1 2 (some 22)) 29 0 (some 30)) 29 1 (some 31)) 29 2 (some 32)) 29 3 (some 33)) 29 4 (some 34)) 29 5 (some 35)) 29 6 (some 36)) 29 7 (some 37)) 1 5 (some 29)) 38 0 (some 39)) 38 1 (some 40)) 38 2 (some 41)) 38 3 (some 42)) 38 4 (some 43)) 38 5 (some 44)) 1 6 (some 38)) 45 0 (some 46)) 45 1 (some 47)) 45 2 (some 48)) 45 3 (some 49)) 45 4 (some 50)) 1 7 (some 45)) 51 0 (some 52)) 51 1 (some 53)) 51 2 (some 54)) 51 3 (some 55)) 1 8 (some 51)) 56 0 (some 57)) 56 1 (some 58)) 56 2 (some 59)) 56 3 (some 60)) 56 4 (some 61)) 1 9 (some 56)) 62 0 (some 63)) 1 10 (some 62))
def Ic (I : Nat → Nat → Int32) : Nat → Nat → Int32 := (u2 (u2 (u2 (u2 (u2 (u2 (u2 (u2 (u2 (u2 I 2 9 0) 2 10 0) 38 8 2) 45 5 0) 56 6 2) 56 7 2) 62 1 0) 62 2 0) 1 11 0) 1 12 0)
theorem fi_153 (hc : Cl 1 A I L J R) (hq : ∀ f1 f2 f3 f4 f5 : Nat → Int32, (∀ k, k < 4 → f1 k = -1) → (∀ k, k < 16 → f2 k = -9) → (∀ k, k < 64 → f3 k = 65535) → wlO f4 969 → (∀ k, k < 16 → f5 k = -9) → Cl 63 (u1 (u1 (u1 (u1 (u1 A 21 f1) 28 f2) 31 f3) 34 f4) 53 f5) (Ic I) L (u2 J 15 5 (lkc 20)) (Rc R) → Q none (63, (u1 (u1 (u1 (u1 (u1 A 21 f1) 28 f2) 31 f3) 34 f4) 53 f5), L, Ic I, (u2 J 15 5 (lkc 20)), Rc R)) : Ct sc (d + 3) 153 [.ref 1] (1, A, L, I, J, R) Q := by
  intro K hK
  refine am_go hK sc153 5 ?_
  (conv => whnf)
  refine cc_146 hK hc (fun hc => ?_)
  refine cc_138 hK hc (fun hc => ?_)
  refine cc_119 hK hc (fun hc => ?_)
  refine cc_104 hK hc (fun f1 hf1 hc => ?_)
  refine cc_91 hK hc (fun f2 hf2 hc => ?_)
  refine cc_40 hK hc (fun f3 f4 hf3 hf4 hc => ?_)
  refine cc_57 hK hc (fun hc => ?_)
  refine cc_0 hK hc (fun hc => ?_)
  refine cc_23 hK hc (fun f5 hf5 hc => ?_)
  refine cc_14 hK hc (fun hc => ?_)
  refine cc_83 hK hc (fun hc => ?_)
  refine am_go hK sp0 20 ?_
  (conv => whnf)
  exact hq f1 f2 f3 f4 f5 hf1 hf2 hf3 hf4 hf5 (Cl_I (by omega) (Cl_I (by omega) hc))
end
