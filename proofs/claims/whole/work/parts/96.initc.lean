theorem wn_eq {n o j : Nat} {A I : Nat → Nat → Int32} {L J : Nat → Nat → Int64} {R : Nat → Nat → Option Nat} (h : A (n + 1) = (fun _ => 0) ∧ L (n + 1) = (fun _ => 0) ∧ I (n + 1) = (fun _ => 0) ∧ J (n + 1) = (fun _ => 0) ∧ ∀ b, R (n + 1) b = none) : wnew (n, A, L, I, J, R) = (n + 1, A, L, I, J, R) := by
  obtain ⟨h1, h2, h3, h4, h5⟩ := h
  have u : ∀ {α : Type} (f : Nat → α) (k : Nat) (v : α), f k = v → u1 f k v = f := fun f k v e => by rw [← e]; exact u1_id f k
  unfold wnew
  show (n + 1, u1 A (n + 1) (fun _ => 0), u1 L (n + 1) (fun _ => 0), u1 I (n + 1) (fun _ => 0), u1 J (n + 1) (fun _ => 0), fun a b => bif Nat.beq a (n + 1) then none else R a b) = _
  rw [u A _ _ h1, u L _ _ h2, u I _ _ h3, u J _ _ h4]
  congr 5
  funext a b
  by_cases e : a = n + 1
  · rw [e, h5]; simp
  · rw [show Nat.beq a (n + 1) = false from by cases hb : Nat.beq a (n + 1) with
      | false => rfl
      | true => exact absurd (Nat.eq_of_beq_eq_true hb) e]
    rfl
/-- all behind cell n is as it was at the start -/
def Cl (n : Nat) (A I : Nat → Nat → Int32) (L J : Nat → Nat → Int64) (R : Nat → Nat → Option Nat) : Prop := ∀ k, n < k → A k = (fun _ => 0) ∧ L k = (fun _ => 0) ∧ I k = (fun _ => 0) ∧ J k = (fun _ => 0) ∧ ∀ b, R k b = none
section
variable {sc : Sc} {d : Nat} {A I : Nat → Nat → Int32} {L J : Nat → Nat → Int64} {R : Nat → Nat → Option Nat} {Q : Option Value → Wd → Prop} {K : Kt}
def si146 (pc : Nat) : Option (List Bool) := bif List.contains [4, 12, 20, 28, 36, 44, 52, 60, 68, 75] pc then some [true] else none
theorem st146_0 (hK : am_cl sc (Ct sc d) 146 Q K) (h : A 3 = (fun _ => 0) ∧ L 3 = (fun _ => 0) ∧ I 3 = (fun _ => 0) ∧ J 3 = (fun _ => 0) ∧ ∀ b, R 3 b = none) (hn : K 12 [some (.ref 2)] [] (3, A, L, I, J, uR R 2 0 (some 3)) 1 16) : K 4 [some (.ref 2)] [] (2, A, L, I, J, R) 0 0 := by
  refine am_go hK si146 20 ?_
  (conv => whnf)
  refine And.intro rfl ?_
  (conv => whnf)
  show K 12 [some (.ref 2)] [] (wR (wnew (2, A, L, I, J, R)) 2 0 (some 3)) 1 16
  rw [wn_eq (n := 2) (o := 2) (j := 0) h]
  exact hn
theorem st146_1 (hK : am_cl sc (Ct sc d) 146 Q K) (h : A 4 = (fun _ => 0) ∧ L 4 = (fun _ => 0) ∧ I 4 = (fun _ => 0) ∧ J 4 = (fun _ => 0) ∧ ∀ b, R 4 b = none) (hn : K 20 [some (.ref 2)] [] (4, A, L, I, J, uR R 2 1 (some 4)) 2 40) : K 12 [some (.ref 2)] [] (3, A, L, I, J, R) 1 16 := by
  refine am_go hK si146 20 ?_
  (conv => whnf)
  refine And.intro rfl ?_
  (conv => whnf)
  show K 20 [some (.ref 2)] [] (wR (wnew (3, A, L, I, J, R)) 2 1 (some 4)) 2 40
  rw [wn_eq (n := 3) (o := 2) (j := 1) h]
  exact hn
theorem st146_2 (hK : am_cl sc (Ct sc d) 146 Q K) (h : A 5 = (fun _ => 0) ∧ L 5 = (fun _ => 0) ∧ I 5 = (fun _ => 0) ∧ J 5 = (fun _ => 0) ∧ ∀ b, R 5 b = none) (hn : K 28 [some (.ref 2)] [] (5, A, L, I, J, uR R 2 2 (some 5)) 3 64) : K 20 [some (.ref 2)] [] (4, A, L, I, J, R) 2 40 := by
  refine am_go hK si146 20 ?_
  (conv => whnf)
  refine And.intro rfl ?_
  (conv => whnf)
  show K 28 [some (.ref 2)] [] (wR (wnew (4, A, L, I, J, R)) 2 2 (some 5)) 3 64
  rw [wn_eq (n := 4) (o := 2) (j := 2) h]
  exact hn
theorem st146_3 (hK : am_cl sc (Ct sc d) 146 Q K) (h : A 6 = (fun _ => 0) ∧ L 6 = (fun _ => 0) ∧ I 6 = (fun _ => 0) ∧ J 6 = (fun _ => 0) ∧ ∀ b, R 6 b = none) (hn : K 36 [some (.ref 2)] [] (6, A, L, I, J, uR R 2 3 (some 6)) 4 88) : K 28 [some (.ref 2)] [] (5, A, L, I, J, R) 3 64 := by
  refine am_go hK si146 20 ?_
  (conv => whnf)
  refine And.intro rfl ?_
  (conv => whnf)
  show K 36 [some (.ref 2)] [] (wR (wnew (5, A, L, I, J, R)) 2 3 (some 6)) 4 88
  rw [wn_eq (n := 5) (o := 2) (j := 3) h]
  exact hn
theorem st146_4 (hK : am_cl sc (Ct sc d) 146 Q K) (h : A 7 = (fun _ => 0) ∧ L 7 = (fun _ => 0) ∧ I 7 = (fun _ => 0) ∧ J 7 = (fun _ => 0) ∧ ∀ b, R 7 b = none) (hn : K 44 [some (.ref 2)] [] (7, A, L, I, J, uR R 2 4 (some 7)) 5 112) : K 36 [some (.ref 2)] [] (6, A, L, I, J, R) 4 88 := by
  refine am_go hK si146 20 ?_
  (conv => whnf)
  refine And.intro rfl ?_
  (conv => whnf)
  show K 44 [some (.ref 2)] [] (wR (wnew (6, A, L, I, J, R)) 2 4 (some 7)) 5 112
  rw [wn_eq (n := 6) (o := 2) (j := 4) h]
  exact hn
theorem st146_5 (hK : am_cl sc (Ct sc d) 146 Q K) (h : A 8 = (fun _ => 0) ∧ L 8 = (fun _ => 0) ∧ I 8 = (fun _ => 0) ∧ J 8 = (fun _ => 0) ∧ ∀ b, R 8 b = none) (hn : K 52 [some (.ref 2)] [] (8, A, L, I, J, uR R 2 5 (some 8)) 6 128) : K 44 [some (.ref 2)] [] (7, A, L, I, J, R) 5 112 := by
  refine am_go hK si146 20 ?_
  (conv => whnf)
  refine And.intro rfl ?_
  (conv => whnf)
  show K 52 [some (.ref 2)] [] (wR (wnew (7, A, L, I, J, R)) 2 5 (some 8)) 6 128
  rw [wn_eq (n := 7) (o := 2) (j := 5) h]
  exact hn
theorem st146_6 (hK : am_cl sc (Ct sc d) 146 Q K) (h : A 9 = (fun _ => 0) ∧ L 9 = (fun _ => 0) ∧ I 9 = (fun _ => 0) ∧ J 9 = (fun _ => 0) ∧ ∀ b, R 9 b = none) (hn : K 60 [some (.ref 2)] [] (9, A, L, I, J, uR R 2 6 (some 9)) 7 192) : K 52 [some (.ref 2)] [] (8, A, L, I, J, R) 6 128 := by
  refine am_go hK si146 20 ?_
  (conv => whnf)
  refine And.intro rfl ?_
  (conv => whnf)
  show K 60 [some (.ref 2)] [] (wR (wnew (8, A, L, I, J, R)) 2 6 (some 9)) 7 192
  rw [wn_eq (n := 8) (o := 2) (j := 6) h]
  exact hn
theorem st146_7 (hK : am_cl sc (Ct sc d) 146 Q K) (h : A 10 = (fun _ => 0) ∧ L 10 = (fun _ => 0) ∧ I 10 = (fun _ => 0) ∧ J 10 = (fun _ => 0) ∧ ∀ b, R 10 b = none) (hn : K 68 [some (.ref 2)] [] (10, A, L, I, J, uR R 2 7 (some 10)) 8 256) : K 60 [some (.ref 2)] [] (9, A, L, I, J, R) 7 192 := by
  refine am_go hK si146 20 ?_
  (conv => whnf)
  refine And.intro rfl ?_
  (conv => whnf)
  show K 68 [some (.ref 2)] [] (wR (wnew (9, A, L, I, J, R)) 2 7 (some 10)) 8 256
  rw [wn_eq (n := 9) (o := 2) (j := 7) h]
  exact hn
theorem st146_8 (hK : am_cl sc (Ct sc d) 146 Q K) (h : A 11 = (fun _ => 0) ∧ L 11 = (fun _ => 0) ∧ I 11 = (fun _ => 0) ∧ J 11 = (fun _ => 0) ∧ ∀ b, R 11 b = none) (hn : K 75 [some (.ref 2)] [] (11, A, L, I, J, uR R 2 8 (some 11)) 9 261) : K 68 [some (.ref 2)] [] (10, A, L, I, J, R) 8 256 := by
  refine am_go hK si146 20 ?_
  (conv => whnf)
  refine And.intro rfl ?_
  (conv => whnf)
  show K 75 [some (.ref 2)] [] (wR (wnew (10, A, L, I, J, R)) 2 8 (some 11)) 9 261
  rw [wn_eq (n := 10) (o := 2) (j := 8) h]
  exact hn
def si138 (pc : Nat) : Option (List Bool) := bif List.contains [4, 12, 20] pc then some [true, true] else none
theorem st138_0 (hK : am_cl sc (Ct sc d) 138 Q K) (h : A 13 = (fun _ => 0) ∧ L 13 = (fun _ => 0) ∧ I 13 = (fun _ => 0) ∧ J 13 = (fun _ => 0) ∧ ∀ b, R 13 b = none) (hn : K 12 [some (.ref 12), some (.ref 2)] [] (13, A, L, I, J, uR R 12 1 (some 13)) 1 20) : K 4 [some (.ref 12), some (.ref 2)] [] (12, A, L, I, J, R) 0 0 := by
  refine am_go hK si138 20 ?_
  (conv => whnf)
  refine And.intro rfl ?_
  (conv => whnf)
  show K 12 [some (.ref 12), some (.ref 2)] [] (wR (wnew (12, A, L, I, J, R)) 12 1 (some 13)) 1 20
  rw [wn_eq (n := 12) (o := 12) (j := 1) h]
  exact hn
theorem st138_1 (hK : am_cl sc (Ct sc d) 138 Q K) (h : A 14 = (fun _ => 0) ∧ L 14 = (fun _ => 0) ∧ I 14 = (fun _ => 0) ∧ J 14 = (fun _ => 0) ∧ ∀ b, R 14 b = none) (hn : K 20 [some (.ref 12), some (.ref 2)] [] (14, A, L, I, J, uR R 12 2 (some 14)) 2 104) : K 12 [some (.ref 12), some (.ref 2)] [] (13, A, L, I, J, R) 1 20 := by
  refine am_go hK si138 20 ?_
  (conv => whnf)
  refine And.intro rfl ?_
  (conv => whnf)
  show K 20 [some (.ref 12), some (.ref 2)] [] (wR (wnew (13, A, L, I, J, R)) 12 2 (some 14)) 2 104
  rw [wn_eq (n := 13) (o := 12) (j := 2) h]
  exact hn
def si119 (pc : Nat) : Option (List Bool) := bif List.contains [4, 12, 21] pc then some [true, true] else none
theorem st119_0 (hK : am_cl sc (Ct sc d) 119 Q K) (h : A 16 = (fun _ => 0) ∧ L 16 = (fun _ => 0) ∧ I 16 = (fun _ => 0) ∧ J 16 = (fun _ => 0) ∧ ∀ b, R 16 b = none) (hn : K 12 [some (.ref 15), some (.ref 2)] [] (16, A, L, I, J, uR R 15 1 (some 16)) 1 8) : K 4 [some (.ref 15), some (.ref 2)] [] (15, A, L, I, J, R) 0 0 := by
  refine am_go hK si119 20 ?_
  (conv => whnf)
  refine And.intro rfl ?_
  (conv => whnf)
  show K 12 [some (.ref 15), some (.ref 2)] [] (wR (wnew (15, A, L, I, J, R)) 15 1 (some 16)) 1 8
  rw [wn_eq (n := 15) (o := 15) (j := 1) h]
  exact hn
set_option maxRecDepth 100000 in
theorem st119_1 (hK : am_cl sc (Ct sc d) 119 Q K) (h : A 17 = (fun _ => 0) ∧ L 17 = (fun _ => 0) ∧ I 17 = (fun _ => 0) ∧ J 17 = (fun _ => 0) ∧ ∀ b, R 17 b = none) (hn : K 21 [some (.ref 15), some (.ref 2)] [] (17, A, L, I, J, uR R 15 2 (some 17)) 2 1736) : K 12 [some (.ref 15), some (.ref 2)] [] (16, A, L, I, J, R) 1 8 := by
  refine am_go hK si119 20 ?_
  (conv => whnf)
  refine And.intro rfl ?_
  (conv => whnf)
  show K 21 [some (.ref 15), some (.ref 2)] [] (wR (wnew (16, A, L, I, J, R)) 15 2 (some 17)) 2 1736
  rw [wn_eq (n := 16) (o := 15) (j := 2) h]
  exact hn
def si104 (pc : Nat) : Option (List Bool) := bif List.contains [4, 13, 20, 27] pc then some [true, false] else none
theorem st104_0 (hK : am_cl sc (Ct sc d) 104 Q K) (h : A 19 = (fun _ => 0) ∧ L 19 = (fun _ => 0) ∧ I 19 = (fun _ => 0) ∧ J 19 = (fun _ => 0) ∧ ∀ b, R 19 b = none) (hn : K 13 [some (.ref 18), none] [] (19, A, L, I, J, uR R 18 0 (some 19)) 1 240) : K 4 [some (.ref 18), none] [] (18, A, L, I, J, R) 0 0 := by
  refine am_go hK si104 20 ?_
  (conv => whnf)
  refine And.intro rfl ?_
  (conv => whnf)
  show K 13 [some (.ref 18), none] [] (wR (wnew (18, A, L, I, J, R)) 18 0 (some 19)) 1 240
  rw [wn_eq (n := 18) (o := 18) (j := 0) h]
  exact hn
theorem st104_1 (hK : am_cl sc (Ct sc d) 104 Q K) (h : A 20 = (fun _ => 0) ∧ L 20 = (fun _ => 0) ∧ I 20 = (fun _ => 0) ∧ J 20 = (fun _ => 0) ∧ ∀ b, R 20 b = none) (hn : K 20 [some (.ref 18), none] [] (20, A, L, I, J, uR R 18 1 (some 20)) 2 244) : K 13 [some (.ref 18), none] [] (19, A, L, I, J, R) 1 240 := by
  refine am_go hK si104 20 ?_
  (conv => whnf)
  refine And.intro rfl ?_
  (conv => whnf)
  show K 20 [some (.ref 18), none] [] (wR (wnew (19, A, L, I, J, R)) 18 1 (some 20)) 2 244
  rw [wn_eq (n := 19) (o := 18) (j := 1) h]
  exact hn
theorem st104_2 (hK : am_cl sc (Ct sc d) 104 Q K) (h : A 21 = (fun _ => 0) ∧ L 21 = (fun _ => 0) ∧ I 21 = (fun _ => 0) ∧ J 21 = (fun _ => 0) ∧ ∀ b, R 21 b = none) (hn : K 27 [some (.ref 18), none] [] (21, A, L, I, J, uR R 18 2 (some 21)) 3 248) : K 20 [some (.ref 18), none] [] (20, A, L, I, J, R) 2 244 := by
  refine am_go hK si104 20 ?_
  (conv => whnf)
  refine And.intro rfl ?_
  (conv => whnf)
  show K 27 [some (.ref 18), none] [] (wR (wnew (20, A, L, I, J, R)) 18 2 (some 21)) 3 248
  rw [wn_eq (n := 20) (o := 18) (j := 2) h]
  exact hn
def si91 (pc : Nat) : Option (List Bool) := bif List.contains [4, 12, 20, 28, 36, 44, 52] pc then some [true, false] else none
theorem st91_0 (hK : am_cl sc (Ct sc d) 91 Q K) (h : A 23 = (fun _ => 0) ∧ L 23 = (fun _ => 0) ∧ I 23 = (fun _ => 0) ∧ J 23 = (fun _ => 0) ∧ ∀ b, R 23 b = none) (hn : K 12 [some (.ref 22), none] [] (23, A, L, I, J, uR R 22 0 (some 23)) 1 44) : K 4 [some (.ref 22), none] [] (22, A, L, I, J, R) 0 0 := by
  refine am_go hK si91 20 ?_
  (conv => whnf)
  refine And.intro rfl ?_
  (conv => whnf)
  show K 12 [some (.ref 22), none] [] (wR (wnew (22, A, L, I, J, R)) 22 0 (some 23)) 1 44
  rw [wn_eq (n := 22) (o := 22) (j := 0) h]
  exact hn
theorem st91_1 (hK : am_cl sc (Ct sc d) 91 Q K) (h : A 24 = (fun _ => 0) ∧ L 24 = (fun _ => 0) ∧ I 24 = (fun _ => 0) ∧ J 24 = (fun _ => 0) ∧ ∀ b, R 24 b = none) (hn : K 20 [some (.ref 22), none] [] (24, A, L, I, J, uR R 22 1 (some 24)) 2 55) : K 12 [some (.ref 22), none] [] (23, A, L, I, J, R) 1 44 := by
  refine am_go hK si91 20 ?_
  (conv => whnf)
  refine And.intro rfl ?_
  (conv => whnf)
  show K 20 [some (.ref 22), none] [] (wR (wnew (23, A, L, I, J, R)) 22 1 (some 24)) 2 55
  rw [wn_eq (n := 23) (o := 22) (j := 1) h]
  exact hn
theorem st91_2 (hK : am_cl sc (Ct sc d) 91 Q K) (h : A 25 = (fun _ => 0) ∧ L 25 = (fun _ => 0) ∧ I 25 = (fun _ => 0) ∧ J 25 = (fun _ => 0) ∧ ∀ b, R 25 b = none) (hn : K 28 [some (.ref 22), none] [] (25, A, L, I, J, uR R 22 2 (some 25)) 3 65) : K 20 [some (.ref 22), none] [] (24, A, L, I, J, R) 2 55 := by
  refine am_go hK si91 20 ?_
  (conv => whnf)
  refine And.intro rfl ?_
  (conv => whnf)
  show K 28 [some (.ref 22), none] [] (wR (wnew (24, A, L, I, J, R)) 22 2 (some 25)) 3 65
  rw [wn_eq (n := 24) (o := 22) (j := 2) h]
  exact hn
theorem st91_3 (hK : am_cl sc (Ct sc d) 91 Q K) (h : A 26 = (fun _ => 0) ∧ L 26 = (fun _ => 0) ∧ I 26 = (fun _ => 0) ∧ J 26 = (fun _ => 0) ∧ ∀ b, R 26 b = none) (hn : K 36 [some (.ref 22), none] [] (26, A, L, I, J, uR R 22 3 (some 26)) 4 75) : K 28 [some (.ref 22), none] [] (25, A, L, I, J, R) 3 65 := by
  refine am_go hK si91 20 ?_
  (conv => whnf)
  refine And.intro rfl ?_
  (conv => whnf)
  show K 36 [some (.ref 22), none] [] (wR (wnew (25, A, L, I, J, R)) 22 3 (some 26)) 4 75
  rw [wn_eq (n := 25) (o := 22) (j := 3) h]
  exact hn
theorem st91_4 (hK : am_cl sc (Ct sc d) 91 Q K) (h : A 27 = (fun _ => 0) ∧ L 27 = (fun _ => 0) ∧ I 27 = (fun _ => 0) ∧ J 27 = (fun _ => 0) ∧ ∀ b, R 27 b = none) (hn : K 44 [some (.ref 22), none] [] (27, A, L, I, J, uR R 22 4 (some 27)) 5 85) : K 36 [some (.ref 22), none] [] (26, A, L, I, J, R) 4 75 := by
  refine am_go hK si91 20 ?_
  (conv => whnf)
  refine And.intro rfl ?_
  (conv => whnf)
  show K 44 [some (.ref 22), none] [] (wR (wnew (26, A, L, I, J, R)) 22 4 (some 27)) 5 85
  rw [wn_eq (n := 26) (o := 22) (j := 4) h]
  exact hn
theorem st91_5 (hK : am_cl sc (Ct sc d) 91 Q K) (h : A 28 = (fun _ => 0) ∧ L 28 = (fun _ => 0) ∧ I 28 = (fun _ => 0) ∧ J 28 = (fun _ => 0) ∧ ∀ b, R 28 b = none) (hn : K 52 [some (.ref 22), none] [] (28, A, L, I, J, uR R 22 5 (some 28)) 6 101) : K 44 [some (.ref 22), none] [] (27, A, L, I, J, R) 5 85 := by
  refine am_go hK si91 20 ?_
  (conv => whnf)
  refine And.intro rfl ?_
  (conv => whnf)
  show K 52 [some (.ref 22), none] [] (wR (wnew (27, A, L, I, J, R)) 22 5 (some 28)) 6 101
  rw [wn_eq (n := 27) (o := 22) (j := 5) h]
  exact hn
def si40 (pc : Nat) : Option (List Bool) := bif List.contains [4, 12, 20, 28, 36, 45, 52, 60, 67] pc then some [true, false, false, false, false] else none
theorem st40_0 (hK : am_cl sc (Ct sc d) 40 Q K) (h : A 30 = (fun _ => 0) ∧ L 30 = (fun _ => 0) ∧ I 30 = (fun _ => 0) ∧ J 30 = (fun _ => 0) ∧ ∀ b, R 30 b = none) (hn : K 12 [some (.ref 29), none, none, none, none] [] (30, A, L, I, J, uR R 29 0 (some 30)) 1 64) : K 4 [some (.ref 29), none, none, none, none] [] (29, A, L, I, J, R) 0 0 := by
  refine am_go hK si40 20 ?_
  (conv => whnf)
  refine And.intro rfl ?_
  (conv => whnf)
  show K 12 [some (.ref 29), none, none, none, none] [] (wR (wnew (29, A, L, I, J, R)) 29 0 (some 30)) 1 64
  rw [wn_eq (n := 29) (o := 29) (j := 0) h]
  exact hn
theorem st40_1 (hK : am_cl sc (Ct sc d) 40 Q K) (h : A 31 = (fun _ => 0) ∧ L 31 = (fun _ => 0) ∧ I 31 = (fun _ => 0) ∧ J 31 = (fun _ => 0) ∧ ∀ b, R 31 b = none) (hn : K 20 [some (.ref 29), none, none, none, none] [] (31, A, L, I, J, uR R 29 1 (some 31)) 2 128) : K 12 [some (.ref 29), none, none, none, none] [] (30, A, L, I, J, R) 1 64 := by
  refine am_go hK si40 20 ?_
  (conv => whnf)
  refine And.intro rfl ?_
  (conv => whnf)
  show K 20 [some (.ref 29), none, none, none, none] [] (wR (wnew (30, A, L, I, J, R)) 29 1 (some 31)) 2 128
  rw [wn_eq (n := 30) (o := 29) (j := 1) h]
  exact hn
theorem st40_2 (hK : am_cl sc (Ct sc d) 40 Q K) (h : A 32 = (fun _ => 0) ∧ L 32 = (fun _ => 0) ∧ I 32 = (fun _ => 0) ∧ J 32 = (fun _ => 0) ∧ ∀ b, R 32 b = none) (hn : K 28 [some (.ref 29), none, none, none, none] [] (32, A, L, I, J, uR R 29 2 (some 32)) 3 248) : K 20 [some (.ref 29), none, none, none, none] [] (31, A, L, I, J, R) 2 128 := by
  refine am_go hK si40 20 ?_
  (conv => whnf)
  refine And.intro rfl ?_
  (conv => whnf)
  show K 28 [some (.ref 29), none, none, none, none] [] (wR (wnew (31, A, L, I, J, R)) 29 2 (some 32)) 3 248
  rw [wn_eq (n := 31) (o := 29) (j := 2) h]
  exact hn
theorem st40_3 (hK : am_cl sc (Ct sc d) 40 Q K) (h : A 33 = (fun _ => 0) ∧ L 33 = (fun _ => 0) ∧ I 33 = (fun _ => 0) ∧ J 33 = (fun _ => 0) ∧ ∀ b, R 33 b = none) (hn : K 36 [some (.ref 29), none, none, none, none] [] (33, A, L, I, J, uR R 29 3 (some 33)) 4 258) : K 28 [some (.ref 29), none, none, none, none] [] (32, A, L, I, J, R) 3 248 := by
  refine am_go hK si40 20 ?_
  (conv => whnf)
  refine And.intro rfl ?_
  (conv => whnf)
  show K 36 [some (.ref 29), none, none, none, none] [] (wR (wnew (32, A, L, I, J, R)) 29 3 (some 33)) 4 258
  rw [wn_eq (n := 32) (o := 29) (j := 3) h]
  exact hn
set_option maxRecDepth 100000 in
theorem st40_4 (hK : am_cl sc (Ct sc d) 40 Q K) (h : A 34 = (fun _ => 0) ∧ L 34 = (fun _ => 0) ∧ I 34 = (fun _ => 0) ∧ J 34 = (fun _ => 0) ∧ ∀ b, R 34 b = none) (hn : K 45 [some (.ref 29), none, none, none, none] [] (34, A, L, I, J, uR R 29 4 (some 34)) 5 1227) : K 36 [some (.ref 29), none, none, none, none] [] (33, A, L, I, J, R) 4 258 := by
  refine am_go hK si40 20 ?_
  (conv => whnf)
  refine And.intro rfl ?_
  (conv => whnf)
  show K 45 [some (.ref 29), none, none, none, none] [] (wR (wnew (33, A, L, I, J, R)) 29 4 (some 34)) 5 1227
  rw [wn_eq (n := 33) (o := 29) (j := 4) h]
  exact hn
theorem st40_5 (hK : am_cl sc (Ct sc d) 40 Q K) (h : A 35 = (fun _ => 0) ∧ L 35 = (fun _ => 0) ∧ I 35 = (fun _ => 0) ∧ J 35 = (fun _ => 0) ∧ ∀ b, R 35 b = none) (hn : K 52 [some (.ref 29), none, none, none, none] [] (35, A, L, I, J, uR R 29 5 (some 35)) 6 1229) : K 45 [some (.ref 29), none, none, none, none] [] (34, A, L, I, J, R) 5 1227 := by
  refine am_go hK si40 20 ?_
  (conv => whnf)
  refine And.intro rfl ?_
  (conv => whnf)
  show K 52 [some (.ref 29), none, none, none, none] [] (wR (wnew (34, A, L, I, J, R)) 29 5 (some 35)) 6 1229
  rw [wn_eq (n := 34) (o := 29) (j := 5) h]
  exact hn
theorem st40_6 (hK : am_cl sc (Ct sc d) 40 Q K) (h : A 36 = (fun _ => 0) ∧ L 36 = (fun _ => 0) ∧ I 36 = (fun _ => 0) ∧ J 36 = (fun _ => 0) ∧ ∀ b, R 36 b = none) (hn : K 60 [some (.ref 29), none, none, none, none] [] (36, A, L, I, J, uR R 29 6 (some 36)) 7 1237) : K 52 [some (.ref 29), none, none, none, none] [] (35, A, L, I, J, R) 6 1229 := by
  refine am_go hK si40 20 ?_
  (conv => whnf)
  refine And.intro rfl ?_
  (conv => whnf)
  show K 60 [some (.ref 29), none, none, none, none] [] (wR (wnew (35, A, L, I, J, R)) 29 6 (some 36)) 7 1237
  rw [wn_eq (n := 35) (o := 29) (j := 6) h]
  exact hn
theorem st40_7 (hK : am_cl sc (Ct sc d) 40 Q K) (h : A 37 = (fun _ => 0) ∧ L 37 = (fun _ => 0) ∧ I 37 = (fun _ => 0) ∧ J 37 = (fun _ => 0) ∧ ∀ b, R 37 b = none) (hn : K 67 [some (.ref 29), none, none, none, none] [] (37, A, L, I, J, uR R 29 7 (some 37)) 8 1239) : K 60 [some (.ref 29), none, none, none, none] [] (36, A, L, I, J, R) 7 1237 := by
  refine am_go hK si40 20 ?_
  (conv => whnf)
  refine And.intro rfl ?_
  (conv => whnf)
  show K 67 [some (.ref 29), none, none, none, none] [] (wR (wnew (36, A, L, I, J, R)) 29 7 (some 37)) 8 1239
  rw [wn_eq (n := 36) (o := 29) (j := 7) h]
  exact hn
def si57 (pc : Nat) : Option (List Bool) := bif List.contains [4, 12, 20, 29, 38, 46, 54] pc then some [true] else none
theorem st57_0 (hK : am_cl sc (Ct sc d) 57 Q K) (h : A 39 = (fun _ => 0) ∧ L 39 = (fun _ => 0) ∧ I 39 = (fun _ => 0) ∧ J 39 = (fun _ => 0) ∧ ∀ b, R 39 b = none) (hn : K 12 [some (.ref 38)] [] (39, A, L, I, J, uR R 38 0 (some 39)) 1 12) : K 4 [some (.ref 38)] [] (38, A, L, I, J, R) 0 0 := by
  refine am_go hK si57 20 ?_
  (conv => whnf)
  refine And.intro rfl ?_
  (conv => whnf)
  show K 12 [some (.ref 38)] [] (wR (wnew (38, A, L, I, J, R)) 38 0 (some 39)) 1 12
  rw [wn_eq (n := 38) (o := 38) (j := 0) h]
  exact hn
theorem st57_1 (hK : am_cl sc (Ct sc d) 57 Q K) (h : A 40 = (fun _ => 0) ∧ L 40 = (fun _ => 0) ∧ I 40 = (fun _ => 0) ∧ J 40 = (fun _ => 0) ∧ ∀ b, R 40 b = none) (hn : K 20 [some (.ref 38)] [] (40, A, L, I, J, uR R 38 1 (some 40)) 2 24) : K 12 [some (.ref 38)] [] (39, A, L, I, J, R) 1 12 := by
  refine am_go hK si57 20 ?_
  (conv => whnf)
  refine And.intro rfl ?_
  (conv => whnf)
  show K 20 [some (.ref 38)] [] (wR (wnew (39, A, L, I, J, R)) 38 1 (some 40)) 2 24
  rw [wn_eq (n := 39) (o := 38) (j := 1) h]
  exact hn
theorem st57_2 (hK : am_cl sc (Ct sc d) 57 Q K) (h : A 41 = (fun _ => 0) ∧ L 41 = (fun _ => 0) ∧ I 41 = (fun _ => 0) ∧ J 41 = (fun _ => 0) ∧ ∀ b, R 41 b = none) (hn : K 29 [some (.ref 38)] [] (41, A, L, I, J, uR R 38 2 (some 41)) 3 216) : K 20 [some (.ref 38)] [] (40, A, L, I, J, R) 2 24 := by
  refine am_go hK si57 20 ?_
  (conv => whnf)
  refine And.intro rfl ?_
  (conv => whnf)
  show K 29 [some (.ref 38)] [] (wR (wnew (40, A, L, I, J, R)) 38 2 (some 41)) 3 216
  rw [wn_eq (n := 40) (o := 38) (j := 2) h]
  exact hn
theorem st57_3 (hK : am_cl sc (Ct sc d) 57 Q K) (h : A 42 = (fun _ => 0) ∧ L 42 = (fun _ => 0) ∧ I 42 = (fun _ => 0) ∧ J 42 = (fun _ => 0) ∧ ∀ b, R 42 b = none) (hn : K 38 [some (.ref 38)] [] (42, A, L, I, J, uR R 38 3 (some 42)) 4 408) : K 29 [some (.ref 38)] [] (41, A, L, I, J, R) 3 216 := by
  refine am_go hK si57 20 ?_
  (conv => whnf)
  refine And.intro rfl ?_
  (conv => whnf)
  show K 38 [some (.ref 38)] [] (wR (wnew (41, A, L, I, J, R)) 38 3 (some 42)) 4 408
  rw [wn_eq (n := 41) (o := 38) (j := 3) h]
  exact hn
theorem st57_4 (hK : am_cl sc (Ct sc d) 57 Q K) (h : A 43 = (fun _ => 0) ∧ L 43 = (fun _ => 0) ∧ I 43 = (fun _ => 0) ∧ J 43 = (fun _ => 0) ∧ ∀ b, R 43 b = none) (hn : K 46 [some (.ref 38)] [] (43, A, L, I, J, uR R 38 4 (some 43)) 5 414) : K 38 [some (.ref 38)] [] (42, A, L, I, J, R) 4 408 := by
  refine am_go hK si57 20 ?_
  (conv => whnf)
  refine And.intro rfl ?_
  (conv => whnf)
  show K 46 [some (.ref 38)] [] (wR (wnew (42, A, L, I, J, R)) 38 4 (some 43)) 5 414
  rw [wn_eq (n := 42) (o := 38) (j := 4) h]
  exact hn
theorem st57_5 (hK : am_cl sc (Ct sc d) 57 Q K) (h : A 44 = (fun _ => 0) ∧ L 44 = (fun _ => 0) ∧ I 44 = (fun _ => 0) ∧ J 44 = (fun _ => 0) ∧ ∀ b, R 44 b = none) (hn : K 54 [some (.ref 38)] [] (44, A, L, I, J, uR R 38 5 (some 44)) 6 420) : K 46 [some (.ref 38)] [] (43, A, L, I, J, R) 5 414 := by
  refine am_go hK si57 20 ?_
  (conv => whnf)
  refine And.intro rfl ?_
  (conv => whnf)
  show K 54 [some (.ref 38)] [] (wR (wnew (43, A, L, I, J, R)) 38 5 (some 44)) 6 420
  rw [wn_eq (n := 43) (o := 38) (j := 5) h]
  exact hn
def si0 (pc : Nat) : Option (List Bool) := bif List.contains [4, 11, 18, 25, 32, 41] pc then some [true] else none
theorem st0_0 (hK : am_cl sc (Ct sc d) 0 Q K) (h : A 46 = (fun _ => 0) ∧ L 46 = (fun _ => 0) ∧ I 46 = (fun _ => 0) ∧ J 46 = (fun _ => 0) ∧ ∀ b, R 46 b = none) (hn : K 11 [some (.ref 45)] [] (46, A, L, I, J, uR R 45 0 (some 46)) 1 4) : K 4 [some (.ref 45)] [] (45, A, L, I, J, R) 0 0 := by
  refine am_go hK si0 20 ?_
  (conv => whnf)
  refine And.intro rfl ?_
  (conv => whnf)
  show K 11 [some (.ref 45)] [] (wR (wnew (45, A, L, I, J, R)) 45 0 (some 46)) 1 4
  rw [wn_eq (n := 45) (o := 45) (j := 0) h]
  exact hn
theorem st0_1 (hK : am_cl sc (Ct sc d) 0 Q K) (h : A 47 = (fun _ => 0) ∧ L 47 = (fun _ => 0) ∧ I 47 = (fun _ => 0) ∧ J 47 = (fun _ => 0) ∧ ∀ b, R 47 b = none) (hn : K 18 [some (.ref 45)] [] (47, A, L, I, J, uR R 45 1 (some 47)) 2 8) : K 11 [some (.ref 45)] [] (46, A, L, I, J, R) 1 4 := by
  refine am_go hK si0 20 ?_
  (conv => whnf)
  refine And.intro rfl ?_
  (conv => whnf)
  show K 18 [some (.ref 45)] [] (wR (wnew (46, A, L, I, J, R)) 45 1 (some 47)) 2 8
  rw [wn_eq (n := 46) (o := 45) (j := 1) h]
  exact hn
theorem st0_2 (hK : am_cl sc (Ct sc d) 0 Q K) (h : A 48 = (fun _ => 0) ∧ L 48 = (fun _ => 0) ∧ I 48 = (fun _ => 0) ∧ J 48 = (fun _ => 0) ∧ ∀ b, R 48 b = none) (hn : K 25 [some (.ref 45)] [] (48, A, L, I, J, uR R 45 2 (some 48)) 3 12) : K 18 [some (.ref 45)] [] (47, A, L, I, J, R) 2 8 := by
  refine am_go hK si0 20 ?_
  (conv => whnf)
  refine And.intro rfl ?_
  (conv => whnf)
  show K 25 [some (.ref 45)] [] (wR (wnew (47, A, L, I, J, R)) 45 2 (some 48)) 3 12
  rw [wn_eq (n := 47) (o := 45) (j := 2) h]
  exact hn
theorem st0_3 (hK : am_cl sc (Ct sc d) 0 Q K) (h : A 49 = (fun _ => 0) ∧ L 49 = (fun _ => 0) ∧ I 49 = (fun _ => 0) ∧ J 49 = (fun _ => 0) ∧ ∀ b, R 49 b = none) (hn : K 32 [some (.ref 45)] [] (49, A, L, I, J, uR R 45 3 (some 49)) 4 16) : K 25 [some (.ref 45)] [] (48, A, L, I, J, R) 3 12 := by
  refine am_go hK si0 20 ?_
  (conv => whnf)
  refine And.intro rfl ?_
  (conv => whnf)
  show K 32 [some (.ref 45)] [] (wR (wnew (48, A, L, I, J, R)) 45 3 (some 49)) 4 16
  rw [wn_eq (n := 48) (o := 45) (j := 3) h]
  exact hn
theorem st0_4 (hK : am_cl sc (Ct sc d) 0 Q K) (h : A 50 = (fun _ => 0) ∧ L 50 = (fun _ => 0) ∧ I 50 = (fun _ => 0) ∧ J 50 = (fun _ => 0) ∧ ∀ b, R 50 b = none) (hn : K 41 [some (.ref 45)] [] (50, A, L, I, J, uR R 45 4 (some 50)) 5 160) : K 32 [some (.ref 45)] [] (49, A, L, I, J, R) 4 16 := by
  refine am_go hK si0 20 ?_
  (conv => whnf)
  refine And.intro rfl ?_
  (conv => whnf)
  show K 41 [some (.ref 45)] [] (wR (wnew (49, A, L, I, J, R)) 45 4 (some 50)) 5 160
  rw [wn_eq (n := 49) (o := 45) (j := 4) h]
  exact hn
def si23 (pc : Nat) : Option (List Bool) := bif List.contains [4, 12, 20, 28, 36] pc then some [true, false] else none
theorem st23_0 (hK : am_cl sc (Ct sc d) 23 Q K) (h : A 52 = (fun _ => 0) ∧ L 52 = (fun _ => 0) ∧ I 52 = (fun _ => 0) ∧ J 52 = (fun _ => 0) ∧ ∀ b, R 52 b = none) (hn : K 12 [some (.ref 51), none] [] (52, A, L, I, J, uR R 51 0 (some 52)) 1 16) : K 4 [some (.ref 51), none] [] (51, A, L, I, J, R) 0 0 := by
  refine am_go hK si23 20 ?_
  (conv => whnf)
  refine And.intro rfl ?_
  (conv => whnf)
  show K 12 [some (.ref 51), none] [] (wR (wnew (51, A, L, I, J, R)) 51 0 (some 52)) 1 16
  rw [wn_eq (n := 51) (o := 51) (j := 0) h]
  exact hn
theorem st23_1 (hK : am_cl sc (Ct sc d) 23 Q K) (h : A 53 = (fun _ => 0) ∧ L 53 = (fun _ => 0) ∧ I 53 = (fun _ => 0) ∧ J 53 = (fun _ => 0) ∧ ∀ b, R 53 b = none) (hn : K 20 [some (.ref 51), none] [] (53, A, L, I, J, uR R 51 1 (some 53)) 2 32) : K 12 [some (.ref 51), none] [] (52, A, L, I, J, R) 1 16 := by
  refine am_go hK si23 20 ?_
  (conv => whnf)
  refine And.intro rfl ?_
  (conv => whnf)
  show K 20 [some (.ref 51), none] [] (wR (wnew (52, A, L, I, J, R)) 51 1 (some 53)) 2 32
  rw [wn_eq (n := 52) (o := 51) (j := 1) h]
  exact hn
theorem st23_2 (hK : am_cl sc (Ct sc d) 23 Q K) (h : A 54 = (fun _ => 0) ∧ L 54 = (fun _ => 0) ∧ I 54 = (fun _ => 0) ∧ J 54 = (fun _ => 0) ∧ ∀ b, R 54 b = none) (hn : K 28 [some (.ref 51), none] [] (54, A, L, I, J, uR R 51 2 (some 54)) 3 48) : K 20 [some (.ref 51), none] [] (53, A, L, I, J, R) 2 32 := by
  refine am_go hK si23 20 ?_
  (conv => whnf)
  refine And.intro rfl ?_
  (conv => whnf)
  show K 28 [some (.ref 51), none] [] (wR (wnew (53, A, L, I, J, R)) 51 2 (some 54)) 3 48
  rw [wn_eq (n := 53) (o := 51) (j := 2) h]
  exact hn
theorem st23_3 (hK : am_cl sc (Ct sc d) 23 Q K) (h : A 55 = (fun _ => 0) ∧ L 55 = (fun _ => 0) ∧ I 55 = (fun _ => 0) ∧ J 55 = (fun _ => 0) ∧ ∀ b, R 55 b = none) (hn : K 36 [some (.ref 51), none] [] (55, A, L, I, J, uR R 51 3 (some 55)) 4 64) : K 28 [some (.ref 51), none] [] (54, A, L, I, J, R) 3 48 := by
  refine am_go hK si23 20 ?_
  (conv => whnf)
  refine And.intro rfl ?_
  (conv => whnf)
  show K 36 [some (.ref 51), none] [] (wR (wnew (54, A, L, I, J, R)) 51 3 (some 55)) 4 64
  rw [wn_eq (n := 54) (o := 51) (j := 3) h]
  exact hn
def si14 (pc : Nat) : Option (List Bool) := bif List.contains [4, 12, 20, 28, 35, 42] pc then some [true] else none
theorem st14_0 (hK : am_cl sc (Ct sc d) 14 Q K) (h : A 57 = (fun _ => 0) ∧ L 57 = (fun _ => 0) ∧ I 57 = (fun _ => 0) ∧ J 57 = (fun _ => 0) ∧ ∀ b, R 57 b = none) (hn : K 12 [some (.ref 56)] [] (57, A, L, I, J, uR R 56 0 (some 57)) 1 6) : K 4 [some (.ref 56)] [] (56, A, L, I, J, R) 0 0 := by
  refine am_go hK si14 20 ?_
  (conv => whnf)
  refine And.intro rfl ?_
  (conv => whnf)
  show K 12 [some (.ref 56)] [] (wR (wnew (56, A, L, I, J, R)) 56 0 (some 57)) 1 6
  rw [wn_eq (n := 56) (o := 56) (j := 0) h]
  exact hn
theorem st14_1 (hK : am_cl sc (Ct sc d) 14 Q K) (h : A 58 = (fun _ => 0) ∧ L 58 = (fun _ => 0) ∧ I 58 = (fun _ => 0) ∧ J 58 = (fun _ => 0) ∧ ∀ b, R 58 b = none) (hn : K 20 [some (.ref 56)] [] (58, A, L, I, J, uR R 56 1 (some 58)) 2 12) : K 12 [some (.ref 56)] [] (57, A, L, I, J, R) 1 6 := by
  refine am_go hK si14 20 ?_
  (conv => whnf)
  refine And.intro rfl ?_
  (conv => whnf)
  show K 20 [some (.ref 56)] [] (wR (wnew (57, A, L, I, J, R)) 56 1 (some 58)) 2 12
  rw [wn_eq (n := 57) (o := 56) (j := 1) h]
  exact hn
theorem st14_2 (hK : am_cl sc (Ct sc d) 14 Q K) (h : A 59 = (fun _ => 0) ∧ L 59 = (fun _ => 0) ∧ I 59 = (fun _ => 0) ∧ J 59 = (fun _ => 0) ∧ ∀ b, R 59 b = none) (hn : K 28 [some (.ref 56)] [] (59, A, L, I, J, uR R 56 2 (some 59)) 3 18) : K 20 [some (.ref 56)] [] (58, A, L, I, J, R) 2 12 := by
  refine am_go hK si14 20 ?_
  (conv => whnf)
  refine And.intro rfl ?_
  (conv => whnf)
  show K 28 [some (.ref 56)] [] (wR (wnew (58, A, L, I, J, R)) 56 2 (some 59)) 3 18
  rw [wn_eq (n := 58) (o := 56) (j := 2) h]
  exact hn
theorem st14_3 (hK : am_cl sc (Ct sc d) 14 Q K) (h : A 60 = (fun _ => 0) ∧ L 60 = (fun _ => 0) ∧ I 60 = (fun _ => 0) ∧ J 60 = (fun _ => 0) ∧ ∀ b, R 60 b = none) (hn : K 35 [some (.ref 56)] [] (60, A, L, I, J, uR R 56 3 (some 60)) 4 21) : K 28 [some (.ref 56)] [] (59, A, L, I, J, R) 3 18 := by
  refine am_go hK si14 20 ?_
  (conv => whnf)
  refine And.intro rfl ?_
  (conv => whnf)
  show K 35 [some (.ref 56)] [] (wR (wnew (59, A, L, I, J, R)) 56 3 (some 60)) 4 21
  rw [wn_eq (n := 59) (o := 56) (j := 3) h]
  exact hn
theorem st14_4 (hK : am_cl sc (Ct sc d) 14 Q K) (h : A 61 = (fun _ => 0) ∧ L 61 = (fun _ => 0) ∧ I 61 = (fun _ => 0) ∧ J 61 = (fun _ => 0) ∧ ∀ b, R 61 b = none) (hn : K 42 [some (.ref 56)] [] (61, A, L, I, J, uR R 56 4 (some 61)) 5 24) : K 35 [some (.ref 56)] [] (60, A, L, I, J, R) 4 21 := by
  refine am_go hK si14 20 ?_
  (conv => whnf)
  refine And.intro rfl ?_
  (conv => whnf)
  show K 42 [some (.ref 56)] [] (wR (wnew (60, A, L, I, J, R)) 56 4 (some 61)) 5 24
  rw [wn_eq (n := 60) (o := 56) (j := 4) h]
  exact hn
def si83 (pc : Nat) : Option (List Bool) := bif List.contains [4, 12] pc then some [true] else none
theorem st83_0 (hK : am_cl sc (Ct sc d) 83 Q K) (h : A 63 = (fun _ => 0) ∧ L 63 = (fun _ => 0) ∧ I 63 = (fun _ => 0) ∧ J 63 = (fun _ => 0) ∧ ∀ b, R 63 b = none) (hn : K 12 [some (.ref 62)] [] (63, A, L, I, J, uR R 62 0 (some 63)) 1 10) : K 4 [some (.ref 62)] [] (62, A, L, I, J, R) 0 0 := by
  refine am_go hK si83 20 ?_
  (conv => whnf)
  refine And.intro rfl ?_
  (conv => whnf)
  show K 12 [some (.ref 62)] [] (wR (wnew (62, A, L, I, J, R)) 62 0 (some 63)) 1 10
  rw [wn_eq (n := 62) (o := 62) (j := 0) h]
  exact hn
def si218 (pc : Nat) : Option (List Bool) := bif List.contains [4, 12, 20, 28, 36, 44, 52, 60, 68, 76, 84, 92, 100, 108, 116, 124, 132, 140, 147, 154, 161, 169, 177, 185, 193, 201, 209, 217, 225, 233, 240, 248, 256, 265, 273, 282, 291, 298, 305, 313, 321, 329, 337, 344, 351, 358, 365, 374, 382, 390, 398, 406, 414, 421, 428, 437, 445] pc then some [true, false] else none
theorem st218_0 (hK : am_cl sc (Ct sc d) 218 Q K) (h : A 65 = (fun _ => 0) ∧ L 65 = (fun _ => 0) ∧ I 65 = (fun _ => 0) ∧ J 65 = (fun _ => 0) ∧ ∀ b, R 65 b = none) (hn : K 12 [some (.ref 64), none] [] (65, A, L, I, J, uR R 64 2 (some 65)) 1 16) : K 4 [some (.ref 64), none] [] (64, A, L, I, J, R) 0 0 := by
  refine am_go hK si218 20 ?_
  (conv => whnf)
  refine And.intro rfl ?_
  (conv => whnf)
  show K 12 [some (.ref 64), none] [] (wR (wnew (64, A, L, I, J, R)) 64 2 (some 65)) 1 16
  rw [wn_eq (n := 64) (o := 64) (j := 2) h]
  exact hn
theorem st218_1 (hK : am_cl sc (Ct sc d) 218 Q K) (h : A 66 = (fun _ => 0) ∧ L 66 = (fun _ => 0) ∧ I 66 = (fun _ => 0) ∧ J 66 = (fun _ => 0) ∧ ∀ b, R 66 b = none) (hn : K 20 [some (.ref 64), none] [] (66, A, L, I, J, uR R 64 3 (some 66)) 2 32) : K 12 [some (.ref 64), none] [] (65, A, L, I, J, R) 1 16 := by
  refine am_go hK si218 20 ?_
  (conv => whnf)
  refine And.intro rfl ?_
  (conv => whnf)
  show K 20 [some (.ref 64), none] [] (wR (wnew (65, A, L, I, J, R)) 64 3 (some 66)) 2 32
  rw [wn_eq (n := 65) (o := 64) (j := 3) h]
  exact hn
theorem st218_2 (hK : am_cl sc (Ct sc d) 218 Q K) (h : A 67 = (fun _ => 0) ∧ L 67 = (fun _ => 0) ∧ I 67 = (fun _ => 0) ∧ J 67 = (fun _ => 0) ∧ ∀ b, R 67 b = none) (hn : K 28 [some (.ref 64), none] [] (67, A, L, I, J, uR R 64 4 (some 67)) 3 48) : K 20 [some (.ref 64), none] [] (66, A, L, I, J, R) 2 32 := by
  refine am_go hK si218 20 ?_
  (conv => whnf)
  refine And.intro rfl ?_
  (conv => whnf)
  show K 28 [some (.ref 64), none] [] (wR (wnew (66, A, L, I, J, R)) 64 4 (some 67)) 3 48
  rw [wn_eq (n := 66) (o := 64) (j := 4) h]
  exact hn
theorem st218_3 (hK : am_cl sc (Ct sc d) 218 Q K) (h : A 68 = (fun _ => 0) ∧ L 68 = (fun _ => 0) ∧ I 68 = (fun _ => 0) ∧ J 68 = (fun _ => 0) ∧ ∀ b, R 68 b = none) (hn : K 36 [some (.ref 64), none] [] (68, A, L, I, J, uR R 64 5 (some 68)) 4 112) : K 28 [some (.ref 64), none] [] (67, A, L, I, J, R) 3 48 := by
  refine am_go hK si218 20 ?_
  (conv => whnf)
  refine And.intro rfl ?_
  (conv => whnf)
  show K 36 [some (.ref 64), none] [] (wR (wnew (67, A, L, I, J, R)) 64 5 (some 68)) 4 112
  rw [wn_eq (n := 67) (o := 64) (j := 5) h]
  exact hn
theorem st218_4 (hK : am_cl sc (Ct sc d) 218 Q K) (h : A 69 = (fun _ => 0) ∧ L 69 = (fun _ => 0) ∧ I 69 = (fun _ => 0) ∧ J 69 = (fun _ => 0) ∧ ∀ b, R 69 b = none) (hn : K 44 [some (.ref 64), none] [] (69, A, L, I, J, uR R 64 6 (some 69)) 5 128) : K 36 [some (.ref 64), none] [] (68, A, L, I, J, R) 4 112 := by
  refine am_go hK si218 20 ?_
  (conv => whnf)
  refine And.intro rfl ?_
  (conv => whnf)
  show K 44 [some (.ref 64), none] [] (wR (wnew (68, A, L, I, J, R)) 64 6 (some 69)) 5 128
  rw [wn_eq (n := 68) (o := 64) (j := 6) h]
  exact hn
theorem st218_5 (hK : am_cl sc (Ct sc d) 218 Q K) (h : A 70 = (fun _ => 0) ∧ L 70 = (fun _ => 0) ∧ I 70 = (fun _ => 0) ∧ J 70 = (fun _ => 0) ∧ ∀ b, R 70 b = none) (hn : K 52 [some (.ref 64), none] [] (70, A, L, I, J, uR R 64 7 (some 70)) 6 144) : K 44 [some (.ref 64), none] [] (69, A, L, I, J, R) 5 128 := by
  refine am_go hK si218 20 ?_
  (conv => whnf)
  refine And.intro rfl ?_
  (conv => whnf)
  show K 52 [some (.ref 64), none] [] (wR (wnew (69, A, L, I, J, R)) 64 7 (some 70)) 6 144
  rw [wn_eq (n := 69) (o := 64) (j := 7) h]
  exact hn
theorem st218_6 (hK : am_cl sc (Ct sc d) 218 Q K) (h : A 71 = (fun _ => 0) ∧ L 71 = (fun _ => 0) ∧ I 71 = (fun _ => 0) ∧ J 71 = (fun _ => 0) ∧ ∀ b, R 71 b = none) (hn : K 60 [some (.ref 64), none] [] (71, A, L, I, J, uR R 64 9 (some 71)) 7 152) : K 52 [some (.ref 64), none] [] (70, A, L, I, J, R) 6 144 := by
  refine am_go hK si218 20 ?_
  (conv => whnf)
  refine And.intro rfl ?_
  (conv => whnf)
  show K 60 [some (.ref 64), none] [] (wR (wnew (70, A, L, I, J, R)) 64 9 (some 71)) 7 152
  rw [wn_eq (n := 70) (o := 64) (j := 9) h]
  exact hn
theorem st218_7 (hK : am_cl sc (Ct sc d) 218 Q K) (h : A 72 = (fun _ => 0) ∧ L 72 = (fun _ => 0) ∧ I 72 = (fun _ => 0) ∧ J 72 = (fun _ => 0) ∧ ∀ b, R 72 b = none) (hn : K 68 [some (.ref 64), none] [] (72, A, L, I, J, uR R 64 10 (some 72)) 8 160) : K 60 [some (.ref 64), none] [] (71, A, L, I, J, R) 7 152 := by
  refine am_go hK si218 20 ?_
  (conv => whnf)
  refine And.intro rfl ?_
  (conv => whnf)
  show K 68 [some (.ref 64), none] [] (wR (wnew (71, A, L, I, J, R)) 64 10 (some 72)) 8 160
  rw [wn_eq (n := 71) (o := 64) (j := 10) h]
  exact hn
theorem st218_8 (hK : am_cl sc (Ct sc d) 218 Q K) (h : A 73 = (fun _ => 0) ∧ L 73 = (fun _ => 0) ∧ I 73 = (fun _ => 0) ∧ J 73 = (fun _ => 0) ∧ ∀ b, R 73 b = none) (hn : K 76 [some (.ref 64), none] [] (73, A, L, I, J, uR R 64 11 (some 73)) 9 168) : K 68 [some (.ref 64), none] [] (72, A, L, I, J, R) 8 160 := by
  refine am_go hK si218 20 ?_
  (conv => whnf)
  refine And.intro rfl ?_
  (conv => whnf)
  show K 76 [some (.ref 64), none] [] (wR (wnew (72, A, L, I, J, R)) 64 11 (some 73)) 9 168
  rw [wn_eq (n := 72) (o := 64) (j := 11) h]
  exact hn
theorem st218_9 (hK : am_cl sc (Ct sc d) 218 Q K) (h : A 74 = (fun _ => 0) ∧ L 74 = (fun _ => 0) ∧ I 74 = (fun _ => 0) ∧ J 74 = (fun _ => 0) ∧ ∀ b, R 74 b = none) (hn : K 84 [some (.ref 64), none] [] (74, A, L, I, J, uR R 64 12 (some 74)) 10 200) : K 76 [some (.ref 64), none] [] (73, A, L, I, J, R) 9 168 := by
  refine am_go hK si218 20 ?_
  (conv => whnf)
  refine And.intro rfl ?_
  (conv => whnf)
  show K 84 [some (.ref 64), none] [] (wR (wnew (73, A, L, I, J, R)) 64 12 (some 74)) 10 200
  rw [wn_eq (n := 73) (o := 64) (j := 12) h]
  exact hn
theorem st218_10 (hK : am_cl sc (Ct sc d) 218 Q K) (h : A 75 = (fun _ => 0) ∧ L 75 = (fun _ => 0) ∧ I 75 = (fun _ => 0) ∧ J 75 = (fun _ => 0) ∧ ∀ b, R 75 b = none) (hn : K 92 [some (.ref 64), none] [] (75, A, L, I, J, uR R 64 14 (some 75)) 11 210) : K 84 [some (.ref 64), none] [] (74, A, L, I, J, R) 10 200 := by
  refine am_go hK si218 20 ?_
  (conv => whnf)
  refine And.intro rfl ?_
  (conv => whnf)
  show K 92 [some (.ref 64), none] [] (wR (wnew (74, A, L, I, J, R)) 64 14 (some 75)) 11 210
  rw [wn_eq (n := 74) (o := 64) (j := 14) h]
  exact hn
theorem st218_11 (hK : am_cl sc (Ct sc d) 218 Q K) (h : A 76 = (fun _ => 0) ∧ L 76 = (fun _ => 0) ∧ I 76 = (fun _ => 0) ∧ J 76 = (fun _ => 0) ∧ ∀ b, R 76 b = none) (hn : K 100 [some (.ref 64), none] [] (76, A, L, I, J, uR R 64 15 (some 76)) 12 220) : K 92 [some (.ref 64), none] [] (75, A, L, I, J, R) 11 210 := by
  refine am_go hK si218 20 ?_
  (conv => whnf)
  refine And.intro rfl ?_
  (conv => whnf)
  show K 100 [some (.ref 64), none] [] (wR (wnew (75, A, L, I, J, R)) 64 15 (some 76)) 12 220
  rw [wn_eq (n := 75) (o := 64) (j := 15) h]
  exact hn
theorem st218_12 (hK : am_cl sc (Ct sc d) 218 Q K) (h : A 77 = (fun _ => 0) ∧ L 77 = (fun _ => 0) ∧ I 77 = (fun _ => 0) ∧ J 77 = (fun _ => 0) ∧ ∀ b, R 77 b = none) (hn : K 108 [some (.ref 64), none] [] (77, A, L, I, J, uR R 64 16 (some 77)) 13 230) : K 100 [some (.ref 64), none] [] (76, A, L, I, J, R) 12 220 := by
  refine am_go hK si218 20 ?_
  (conv => whnf)
  refine And.intro rfl ?_
  (conv => whnf)
  show K 108 [some (.ref 64), none] [] (wR (wnew (76, A, L, I, J, R)) 64 16 (some 77)) 13 230
  rw [wn_eq (n := 76) (o := 64) (j := 16) h]
  exact hn
theorem st218_13 (hK : am_cl sc (Ct sc d) 218 Q K) (h : A 78 = (fun _ => 0) ∧ L 78 = (fun _ => 0) ∧ I 78 = (fun _ => 0) ∧ J 78 = (fun _ => 0) ∧ ∀ b, R 78 b = none) (hn : K 116 [some (.ref 64), none] [] (78, A, L, I, J, uR R 64 17 (some 78)) 14 240) : K 108 [some (.ref 64), none] [] (77, A, L, I, J, R) 13 230 := by
  refine am_go hK si218 20 ?_
  (conv => whnf)
  refine And.intro rfl ?_
  (conv => whnf)
  show K 116 [some (.ref 64), none] [] (wR (wnew (77, A, L, I, J, R)) 64 17 (some 78)) 14 240
  rw [wn_eq (n := 77) (o := 64) (j := 17) h]
  exact hn
theorem st218_14 (hK : am_cl sc (Ct sc d) 218 Q K) (h : A 79 = (fun _ => 0) ∧ L 79 = (fun _ => 0) ∧ I 79 = (fun _ => 0) ∧ J 79 = (fun _ => 0) ∧ ∀ b, R 79 b = none) (hn : K 124 [some (.ref 64), none] [] (79, A, L, I, J, uR R 64 18 (some 79)) 15 280) : K 116 [some (.ref 64), none] [] (78, A, L, I, J, R) 14 240 := by
  refine am_go hK si218 20 ?_
  (conv => whnf)
  refine And.intro rfl ?_
  (conv => whnf)
  show K 124 [some (.ref 64), none] [] (wR (wnew (78, A, L, I, J, R)) 64 18 (some 79)) 15 280
  rw [wn_eq (n := 78) (o := 64) (j := 18) h]
  exact hn
theorem st218_15 (hK : am_cl sc (Ct sc d) 218 Q K) (h : A 80 = (fun _ => 0) ∧ L 80 = (fun _ => 0) ∧ I 80 = (fun _ => 0) ∧ J 80 = (fun _ => 0) ∧ ∀ b, R 80 b = none) (hn : K 132 [some (.ref 64), none] [] (80, A, L, I, J, uR R 64 19 (some 80)) 16 320) : K 124 [some (.ref 64), none] [] (79, A, L, I, J, R) 15 280 := by
  refine am_go hK si218 20 ?_
  (conv => whnf)
  refine And.intro rfl ?_
  (conv => whnf)
  show K 132 [some (.ref 64), none] [] (wR (wnew (79, A, L, I, J, R)) 64 19 (some 80)) 16 320
  rw [wn_eq (n := 79) (o := 64) (j := 19) h]
  exact hn
theorem st218_16 (hK : am_cl sc (Ct sc d) 218 Q K) (h : A 81 = (fun _ => 0) ∧ L 81 = (fun _ => 0) ∧ I 81 = (fun _ => 0) ∧ J 81 = (fun _ => 0) ∧ ∀ b, R 81 b = none) (hn : K 140 [some (.ref 64), none] [] (81, A, L, I, J, uR R 64 20 (some 81)) 17 360) : K 132 [some (.ref 64), none] [] (80, A, L, I, J, R) 16 320 := by
  refine am_go hK si218 20 ?_
  (conv => whnf)
  refine And.intro rfl ?_
  (conv => whnf)
  show K 140 [some (.ref 64), none] [] (wR (wnew (80, A, L, I, J, R)) 64 20 (some 81)) 17 360
  rw [wn_eq (n := 80) (o := 64) (j := 20) h]
  exact hn
theorem st218_17 (hK : am_cl sc (Ct sc d) 218 Q K) (h : A 82 = (fun _ => 0) ∧ L 82 = (fun _ => 0) ∧ I 82 = (fun _ => 0) ∧ J 82 = (fun _ => 0) ∧ ∀ b, R 82 b = none) (hn : K 147 [some (.ref 64), none] [] (82, A, L, I, J, uR R 64 22 (some 82)) 18 365) : K 140 [some (.ref 64), none] [] (81, A, L, I, J, R) 17 360 := by
  refine am_go hK si218 20 ?_
  (conv => whnf)
  refine And.intro rfl ?_
  (conv => whnf)
  show K 147 [some (.ref 64), none] [] (wR (wnew (81, A, L, I, J, R)) 64 22 (some 82)) 18 365
  rw [wn_eq (n := 81) (o := 64) (j := 22) h]
  exact hn
theorem st218_18 (hK : am_cl sc (Ct sc d) 218 Q K) (h : A 83 = (fun _ => 0) ∧ L 83 = (fun _ => 0) ∧ I 83 = (fun _ => 0) ∧ J 83 = (fun _ => 0) ∧ ∀ b, R 83 b = none) (hn : K 154 [some (.ref 64), none] [] (83, A, L, I, J, uR R 64 23 (some 83)) 19 370) : K 147 [some (.ref 64), none] [] (82, A, L, I, J, R) 18 365 := by
  refine am_go hK si218 20 ?_
  (conv => whnf)
  refine And.intro rfl ?_
  (conv => whnf)
  show K 154 [some (.ref 64), none] [] (wR (wnew (82, A, L, I, J, R)) 64 23 (some 83)) 19 370
  rw [wn_eq (n := 82) (o := 64) (j := 23) h]
  exact hn
theorem st218_19 (hK : am_cl sc (Ct sc d) 218 Q K) (h : A 84 = (fun _ => 0) ∧ L 84 = (fun _ => 0) ∧ I 84 = (fun _ => 0) ∧ J 84 = (fun _ => 0) ∧ ∀ b, R 84 b = none) (hn : K 161 [some (.ref 64), none] [] (84, A, L, I, J, uR R 64 24 (some 84)) 20 375) : K 154 [some (.ref 64), none] [] (83, A, L, I, J, R) 19 370 := by
  refine am_go hK si218 20 ?_
  (conv => whnf)
  refine And.intro rfl ?_
  (conv => whnf)
  show K 161 [some (.ref 64), none] [] (wR (wnew (83, A, L, I, J, R)) 64 24 (some 84)) 20 375
  rw [wn_eq (n := 83) (o := 64) (j := 24) h]
  exact hn
theorem st218_20 (hK : am_cl sc (Ct sc d) 218 Q K) (h : A 85 = (fun _ => 0) ∧ L 85 = (fun _ => 0) ∧ I 85 = (fun _ => 0) ∧ J 85 = (fun _ => 0) ∧ ∀ b, R 85 b = none) (hn : K 169 [some (.ref 64), none] [] (85, A, L, I, J, uR R 64 28 (some 85)) 21 395) : K 161 [some (.ref 64), none] [] (84, A, L, I, J, R) 20 375 := by
  refine am_go hK si218 20 ?_
  (conv => whnf)
  refine And.intro rfl ?_
  (conv => whnf)
  show K 169 [some (.ref 64), none] [] (wR (wnew (84, A, L, I, J, R)) 64 28 (some 85)) 21 395
  rw [wn_eq (n := 84) (o := 64) (j := 28) h]
  exact hn
theorem st218_21 (hK : am_cl sc (Ct sc d) 218 Q K) (h : A 86 = (fun _ => 0) ∧ L 86 = (fun _ => 0) ∧ I 86 = (fun _ => 0) ∧ J 86 = (fun _ => 0) ∧ ∀ b, R 86 b = none) (hn : K 177 [some (.ref 64), none] [] (86, A, L, I, J, uR R 64 29 (some 86)) 22 479) : K 169 [some (.ref 64), none] [] (85, A, L, I, J, R) 21 395 := by
  refine am_go hK si218 20 ?_
  (conv => whnf)
  refine And.intro rfl ?_
  (conv => whnf)
  show K 177 [some (.ref 64), none] [] (wR (wnew (85, A, L, I, J, R)) 64 29 (some 86)) 22 479
  rw [wn_eq (n := 85) (o := 64) (j := 29) h]
  exact hn
theorem st218_22 (hK : am_cl sc (Ct sc d) 218 Q K) (h : A 87 = (fun _ => 0) ∧ L 87 = (fun _ => 0) ∧ I 87 = (fun _ => 0) ∧ J 87 = (fun _ => 0) ∧ ∀ b, R 87 b = none) (hn : K 185 [some (.ref 64), none] [] (87, A, L, I, J, uR R 64 32 (some 87)) 23 491) : K 177 [some (.ref 64), none] [] (86, A, L, I, J, R) 22 479 := by
  refine am_go hK si218 20 ?_
  (conv => whnf)
  refine And.intro rfl ?_
  (conv => whnf)
  show K 185 [some (.ref 64), none] [] (wR (wnew (86, A, L, I, J, R)) 64 32 (some 87)) 23 491
  rw [wn_eq (n := 86) (o := 64) (j := 32) h]
  exact hn
theorem st218_23 (hK : am_cl sc (Ct sc d) 218 Q K) (h : A 88 = (fun _ => 0) ∧ L 88 = (fun _ => 0) ∧ I 88 = (fun _ => 0) ∧ J 88 = (fun _ => 0) ∧ ∀ b, R 88 b = none) (hn : K 193 [some (.ref 64), none] [] (88, A, L, I, J, uR R 64 33 (some 88)) 24 555) : K 185 [some (.ref 64), none] [] (87, A, L, I, J, R) 23 491 := by
  refine am_go hK si218 20 ?_
  (conv => whnf)
  refine And.intro rfl ?_
  (conv => whnf)
  show K 193 [some (.ref 64), none] [] (wR (wnew (87, A, L, I, J, R)) 64 33 (some 88)) 24 555
  rw [wn_eq (n := 87) (o := 64) (j := 33) h]
  exact hn
theorem st218_24 (hK : am_cl sc (Ct sc d) 218 Q K) (h : A 89 = (fun _ => 0) ∧ L 89 = (fun _ => 0) ∧ I 89 = (fun _ => 0) ∧ J 89 = (fun _ => 0) ∧ ∀ b, R 89 b = none) (hn : K 201 [some (.ref 64), none] [] (89, A, L, I, J, uR R 64 34 (some 89)) 25 619) : K 193 [some (.ref 64), none] [] (88, A, L, I, J, R) 24 555 := by
  refine am_go hK si218 20 ?_
  (conv => whnf)
  refine And.intro rfl ?_
  (conv => whnf)
  show K 201 [some (.ref 64), none] [] (wR (wnew (88, A, L, I, J, R)) 64 34 (some 89)) 25 619
  rw [wn_eq (n := 88) (o := 64) (j := 34) h]
  exact hn
theorem st218_25 (hK : am_cl sc (Ct sc d) 218 Q K) (h : A 90 = (fun _ => 0) ∧ L 90 = (fun _ => 0) ∧ I 90 = (fun _ => 0) ∧ J 90 = (fun _ => 0) ∧ ∀ b, R 90 b = none) (hn : K 209 [some (.ref 64), none] [] (90, A, L, I, J, uR R 64 36 (some 90)) 26 629) : K 201 [some (.ref 64), none] [] (89, A, L, I, J, R) 25 619 := by
  refine am_go hK si218 20 ?_
  (conv => whnf)
  refine And.intro rfl ?_
  (conv => whnf)
  show K 209 [some (.ref 64), none] [] (wR (wnew (89, A, L, I, J, R)) 64 36 (some 90)) 26 629
  rw [wn_eq (n := 89) (o := 64) (j := 36) h]
  exact hn
theorem st218_26 (hK : am_cl sc (Ct sc d) 218 Q K) (h : A 91 = (fun _ => 0) ∧ L 91 = (fun _ => 0) ∧ I 91 = (fun _ => 0) ∧ J 91 = (fun _ => 0) ∧ ∀ b, R 91 b = none) (hn : K 217 [some (.ref 64), none] [] (91, A, L, I, J, uR R 64 37 (some 91)) 27 669) : K 209 [some (.ref 64), none] [] (90, A, L, I, J, R) 26 629 := by
  refine am_go hK si218 20 ?_
  (conv => whnf)
  refine And.intro rfl ?_
  (conv => whnf)
  show K 217 [some (.ref 64), none] [] (wR (wnew (90, A, L, I, J, R)) 64 37 (some 91)) 27 669
  rw [wn_eq (n := 90) (o := 64) (j := 37) h]
  exact hn
theorem st218_27 (hK : am_cl sc (Ct sc d) 218 Q K) (h : A 92 = (fun _ => 0) ∧ L 92 = (fun _ => 0) ∧ I 92 = (fun _ => 0) ∧ J 92 = (fun _ => 0) ∧ ∀ b, R 92 b = none) (hn : K 225 [some (.ref 64), none] [] (92, A, L, I, J, uR R 64 38 (some 92)) 28 709) : K 217 [some (.ref 64), none] [] (91, A, L, I, J, R) 27 669 := by
  refine am_go hK si218 20 ?_
  (conv => whnf)
  refine And.intro rfl ?_
  (conv => whnf)
  show K 225 [some (.ref 64), none] [] (wR (wnew (91, A, L, I, J, R)) 64 38 (some 92)) 28 709
  rw [wn_eq (n := 91) (o := 64) (j := 38) h]
  exact hn
theorem st218_28 (hK : am_cl sc (Ct sc d) 218 Q K) (h : A 93 = (fun _ => 0) ∧ L 93 = (fun _ => 0) ∧ I 93 = (fun _ => 0) ∧ J 93 = (fun _ => 0) ∧ ∀ b, R 93 b = none) (hn : K 233 [some (.ref 64), none] [] (93, A, L, I, J, uR R 64 39 (some 93)) 29 749) : K 225 [some (.ref 64), none] [] (92, A, L, I, J, R) 28 709 := by
  refine am_go hK si218 20 ?_
  (conv => whnf)
  refine And.intro rfl ?_
  (conv => whnf)
  show K 233 [some (.ref 64), none] [] (wR (wnew (92, A, L, I, J, R)) 64 39 (some 93)) 29 749
  rw [wn_eq (n := 92) (o := 64) (j := 39) h]
  exact hn
theorem st218_29 (hK : am_cl sc (Ct sc d) 218 Q K) (h : A 94 = (fun _ => 0) ∧ L 94 = (fun _ => 0) ∧ I 94 = (fun _ => 0) ∧ J 94 = (fun _ => 0) ∧ ∀ b, R 94 b = none) (hn : K 240 [some (.ref 64), none] [] (94, A, L, I, J, uR R 64 41 (some 94)) 30 752) : K 233 [some (.ref 64), none] [] (93, A, L, I, J, R) 29 749 := by
  refine am_go hK si218 20 ?_
  (conv => whnf)
  refine And.intro rfl ?_
  (conv => whnf)
  show K 240 [some (.ref 64), none] [] (wR (wnew (93, A, L, I, J, R)) 64 41 (some 94)) 30 752
  rw [wn_eq (n := 93) (o := 64) (j := 41) h]
  exact hn
theorem st218_30 (hK : am_cl sc (Ct sc d) 218 Q K) (h : A 95 = (fun _ => 0) ∧ L 95 = (fun _ => 0) ∧ I 95 = (fun _ => 0) ∧ J 95 = (fun _ => 0) ∧ ∀ b, R 95 b = none) (hn : K 248 [some (.ref 64), none] [] (95, A, L, I, J, uR R 64 43 (some 95)) 31 764) : K 240 [some (.ref 64), none] [] (94, A, L, I, J, R) 30 752 := by
  refine am_go hK si218 20 ?_
  (conv => whnf)
  refine And.intro rfl ?_
  (conv => whnf)
  show K 248 [some (.ref 64), none] [] (wR (wnew (94, A, L, I, J, R)) 64 43 (some 95)) 31 764
  rw [wn_eq (n := 94) (o := 64) (j := 43) h]
  exact hn
theorem st218_31 (hK : am_cl sc (Ct sc d) 218 Q K) (h : A 96 = (fun _ => 0) ∧ L 96 = (fun _ => 0) ∧ I 96 = (fun _ => 0) ∧ J 96 = (fun _ => 0) ∧ ∀ b, R 96 b = none) (hn : K 256 [some (.ref 64), none] [] (96, A, L, I, J, uR R 64 44 (some 96)) 32 828) : K 248 [some (.ref 64), none] [] (95, A, L, I, J, R) 31 764 := by
  refine am_go hK si218 20 ?_
  (conv => whnf)
  refine And.intro rfl ?_
  (conv => whnf)
  show K 256 [some (.ref 64), none] [] (wR (wnew (95, A, L, I, J, R)) 64 44 (some 96)) 32 828
  rw [wn_eq (n := 95) (o := 64) (j := 44) h]
  exact hn
theorem st218_32 (hK : am_cl sc (Ct sc d) 218 Q K) (h : A 97 = (fun _ => 0) ∧ L 97 = (fun _ => 0) ∧ I 97 = (fun _ => 0) ∧ J 97 = (fun _ => 0) ∧ ∀ b, R 97 b = none) (hn : K 265 [some (.ref 64), none] [] (97, A, L, I, J, uR R 64 45 (some 97)) 33 1084) : K 256 [some (.ref 64), none] [] (96, A, L, I, J, R) 32 828 := by
  refine am_go hK si218 20 ?_
  (conv => whnf)
  refine And.intro rfl ?_
  (conv => whnf)
  show K 265 [some (.ref 64), none] [] (wR (wnew (96, A, L, I, J, R)) 64 45 (some 97)) 33 1084
  rw [wn_eq (n := 96) (o := 64) (j := 45) h]
  exact hn
theorem st218_33 (hK : am_cl sc (Ct sc d) 218 Q K) (h : A 98 = (fun _ => 0) ∧ L 98 = (fun _ => 0) ∧ I 98 = (fun _ => 0) ∧ J 98 = (fun _ => 0) ∧ ∀ b, R 98 b = none) (hn : K 273 [some (.ref 64), none] [] (98, A, L, I, J, uR R 64 46 (some 98)) 34 1096) : K 265 [some (.ref 64), none] [] (97, A, L, I, J, R) 33 1084 := by
  refine am_go hK si218 20 ?_
  (conv => whnf)
  refine And.intro rfl ?_
  (conv => whnf)
  show K 273 [some (.ref 64), none] [] (wR (wnew (97, A, L, I, J, R)) 64 46 (some 98)) 34 1096
  rw [wn_eq (n := 97) (o := 64) (j := 46) h]
  exact hn
theorem st218_34 (hK : am_cl sc (Ct sc d) 218 Q K) (h : A 99 = (fun _ => 0) ∧ L 99 = (fun _ => 0) ∧ I 99 = (fun _ => 0) ∧ J 99 = (fun _ => 0) ∧ ∀ b, R 99 b = none) (hn : K 282 [some (.ref 64), none] [] (99, A, L, I, J, uR R 64 47 (some 99)) 35 1288) : K 273 [some (.ref 64), none] [] (98, A, L, I, J, R) 34 1096 := by
  refine am_go hK si218 20 ?_
  (conv => whnf)
  refine And.intro rfl ?_
  (conv => whnf)
  show K 282 [some (.ref 64), none] [] (wR (wnew (98, A, L, I, J, R)) 64 47 (some 99)) 35 1288
  rw [wn_eq (n := 98) (o := 64) (j := 47) h]
  exact hn
theorem st218_35 (hK : am_cl sc (Ct sc d) 218 Q K) (h : A 100 = (fun _ => 0) ∧ L 100 = (fun _ => 0) ∧ I 100 = (fun _ => 0) ∧ J 100 = (fun _ => 0) ∧ ∀ b, R 100 b = none) (hn : K 291 [some (.ref 64), none] [] (100, A, L, I, J, uR R 64 48 (some 100)) 36 1480) : K 282 [some (.ref 64), none] [] (99, A, L, I, J, R) 35 1288 := by
  refine am_go hK si218 20 ?_
  (conv => whnf)
  refine And.intro rfl ?_
  (conv => whnf)
  show K 291 [some (.ref 64), none] [] (wR (wnew (99, A, L, I, J, R)) 64 48 (some 100)) 36 1480
  rw [wn_eq (n := 99) (o := 64) (j := 48) h]
  exact hn
theorem st218_36 (hK : am_cl sc (Ct sc d) 218 Q K) (h : A 101 = (fun _ => 0) ∧ L 101 = (fun _ => 0) ∧ I 101 = (fun _ => 0) ∧ J 101 = (fun _ => 0) ∧ ∀ b, R 101 b = none) (hn : K 298 [some (.ref 64), none] [] (101, A, L, I, J, uR R 64 51 (some 101)) 37 1484) : K 291 [some (.ref 64), none] [] (100, A, L, I, J, R) 36 1480 := by
  refine am_go hK si218 20 ?_
  (conv => whnf)
  refine And.intro rfl ?_
  (conv => whnf)
  show K 298 [some (.ref 64), none] [] (wR (wnew (100, A, L, I, J, R)) 64 51 (some 101)) 37 1484
  rw [wn_eq (n := 100) (o := 64) (j := 51) h]
  exact hn
theorem st218_37 (hK : am_cl sc (Ct sc d) 218 Q K) (h : A 102 = (fun _ => 0) ∧ L 102 = (fun _ => 0) ∧ I 102 = (fun _ => 0) ∧ J 102 = (fun _ => 0) ∧ ∀ b, R 102 b = none) (hn : K 305 [some (.ref 64), none] [] (102, A, L, I, J, uR R 64 52 (some 102)) 38 1488) : K 298 [some (.ref 64), none] [] (101, A, L, I, J, R) 37 1484 := by
  refine am_go hK si218 20 ?_
  (conv => whnf)
  refine And.intro rfl ?_
  (conv => whnf)
  show K 305 [some (.ref 64), none] [] (wR (wnew (101, A, L, I, J, R)) 64 52 (some 102)) 38 1488
  rw [wn_eq (n := 101) (o := 64) (j := 52) h]
  exact hn
theorem st218_38 (hK : am_cl sc (Ct sc d) 218 Q K) (h : A 103 = (fun _ => 0) ∧ L 103 = (fun _ => 0) ∧ I 103 = (fun _ => 0) ∧ J 103 = (fun _ => 0) ∧ ∀ b, R 103 b = none) (hn : K 313 [some (.ref 64), none] [] (103, A, L, I, J, uR R 64 53 (some 103)) 39 1513) : K 305 [some (.ref 64), none] [] (102, A, L, I, J, R) 38 1488 := by
  refine am_go hK si218 20 ?_
  (conv => whnf)
  refine And.intro rfl ?_
  (conv => whnf)
  show K 313 [some (.ref 64), none] [] (wR (wnew (102, A, L, I, J, R)) 64 53 (some 103)) 39 1513
  rw [wn_eq (n := 102) (o := 64) (j := 53) h]
  exact hn
theorem st218_39 (hK : am_cl sc (Ct sc d) 218 Q K) (h : A 104 = (fun _ => 0) ∧ L 104 = (fun _ => 0) ∧ I 104 = (fun _ => 0) ∧ J 104 = (fun _ => 0) ∧ ∀ b, R 104 b = none) (hn : K 321 [some (.ref 64), none] [] (104, A, L, I, J, uR R 64 56 (some 104)) 40 1519) : K 313 [some (.ref 64), none] [] (103, A, L, I, J, R) 39 1513 := by
  refine am_go hK si218 20 ?_
  (conv => whnf)
  refine And.intro rfl ?_
  (conv => whnf)
  show K 321 [some (.ref 64), none] [] (wR (wnew (103, A, L, I, J, R)) 64 56 (some 104)) 40 1519
  rw [wn_eq (n := 103) (o := 64) (j := 56) h]
  exact hn
theorem st218_40 (hK : am_cl sc (Ct sc d) 218 Q K) (h : A 105 = (fun _ => 0) ∧ L 105 = (fun _ => 0) ∧ I 105 = (fun _ => 0) ∧ J 105 = (fun _ => 0) ∧ ∀ b, R 105 b = none) (hn : K 329 [some (.ref 64), none] [] (105, A, L, I, J, uR R 64 57 (some 105)) 41 1525) : K 321 [some (.ref 64), none] [] (104, A, L, I, J, R) 40 1519 := by
  refine am_go hK si218 20 ?_
  (conv => whnf)
  refine And.intro rfl ?_
  (conv => whnf)
  show K 329 [some (.ref 64), none] [] (wR (wnew (104, A, L, I, J, R)) 64 57 (some 105)) 41 1525
  rw [wn_eq (n := 104) (o := 64) (j := 57) h]
  exact hn
theorem st218_41 (hK : am_cl sc (Ct sc d) 218 Q K) (h : A 106 = (fun _ => 0) ∧ L 106 = (fun _ => 0) ∧ I 106 = (fun _ => 0) ∧ J 106 = (fun _ => 0) ∧ ∀ b, R 106 b = none) (hn : K 337 [some (.ref 64), none] [] (106, A, L, I, J, uR R 64 59 (some 106)) 42 1531) : K 329 [some (.ref 64), none] [] (105, A, L, I, J, R) 41 1525 := by
  refine am_go hK si218 20 ?_
  (conv => whnf)
  refine And.intro rfl ?_
  (conv => whnf)
  show K 337 [some (.ref 64), none] [] (wR (wnew (105, A, L, I, J, R)) 64 59 (some 106)) 42 1531
  rw [wn_eq (n := 105) (o := 64) (j := 59) h]
  exact hn
theorem st218_42 (hK : am_cl sc (Ct sc d) 218 Q K) (h : A 107 = (fun _ => 0) ∧ L 107 = (fun _ => 0) ∧ I 107 = (fun _ => 0) ∧ J 107 = (fun _ => 0) ∧ ∀ b, R 107 b = none) (hn : K 344 [some (.ref 64), none] [] (107, A, L, I, J, uR R 64 61 (some 107)) 43 1535) : K 337 [some (.ref 64), none] [] (106, A, L, I, J, R) 42 1531 := by
  refine am_go hK si218 20 ?_
  (conv => whnf)
  refine And.intro rfl ?_
  (conv => whnf)
  show K 344 [some (.ref 64), none] [] (wR (wnew (106, A, L, I, J, R)) 64 61 (some 107)) 43 1535
  rw [wn_eq (n := 106) (o := 64) (j := 61) h]
  exact hn
theorem st218_43 (hK : am_cl sc (Ct sc d) 218 Q K) (h : A 108 = (fun _ => 0) ∧ L 108 = (fun _ => 0) ∧ I 108 = (fun _ => 0) ∧ J 108 = (fun _ => 0) ∧ ∀ b, R 108 b = none) (hn : K 351 [some (.ref 64), none] [] (108, A, L, I, J, uR R 64 62 (some 108)) 44 1539) : K 344 [some (.ref 64), none] [] (107, A, L, I, J, R) 43 1535 := by
  refine am_go hK si218 20 ?_
  (conv => whnf)
  refine And.intro rfl ?_
  (conv => whnf)
  show K 351 [some (.ref 64), none] [] (wR (wnew (107, A, L, I, J, R)) 64 62 (some 108)) 44 1539
  rw [wn_eq (n := 107) (o := 64) (j := 62) h]
  exact hn
theorem st218_44 (hK : am_cl sc (Ct sc d) 218 Q K) (h : A 109 = (fun _ => 0) ∧ L 109 = (fun _ => 0) ∧ I 109 = (fun _ => 0) ∧ J 109 = (fun _ => 0) ∧ ∀ b, R 109 b = none) (hn : K 358 [some (.ref 64), none] [] (109, A, L, I, J, uR R 64 63 (some 109)) 45 1543) : K 351 [some (.ref 64), none] [] (108, A, L, I, J, R) 44 1539 := by
  refine am_go hK si218 20 ?_
  (conv => whnf)
  refine And.intro rfl ?_
  (conv => whnf)
  show K 358 [some (.ref 64), none] [] (wR (wnew (108, A, L, I, J, R)) 64 63 (some 109)) 45 1543
  rw [wn_eq (n := 108) (o := 64) (j := 63) h]
  exact hn
theorem st218_45 (hK : am_cl sc (Ct sc d) 218 Q K) (h : A 110 = (fun _ => 0) ∧ L 110 = (fun _ => 0) ∧ I 110 = (fun _ => 0) ∧ J 110 = (fun _ => 0) ∧ ∀ b, R 110 b = none) (hn : K 365 [some (.ref 64), none] [] (110, A, L, I, J, uR R 64 64 (some 110)) 46 1547) : K 358 [some (.ref 64), none] [] (109, A, L, I, J, R) 45 1543 := by
  refine am_go hK si218 20 ?_
  (conv => whnf)
  refine And.intro rfl ?_
  (conv => whnf)
  show K 365 [some (.ref 64), none] [] (wR (wnew (109, A, L, I, J, R)) 64 64 (some 110)) 46 1547
  rw [wn_eq (n := 109) (o := 64) (j := 64) h]
  exact hn
theorem st218_46 (hK : am_cl sc (Ct sc d) 218 Q K) (h : A 111 = (fun _ => 0) ∧ L 111 = (fun _ => 0) ∧ I 111 = (fun _ => 0) ∧ J 111 = (fun _ => 0) ∧ ∀ b, R 111 b = none) (hn : K 374 [some (.ref 64), none] [] (111, A, L, I, J, uR R 64 65 (some 111)) 47 1691) : K 365 [some (.ref 64), none] [] (110, A, L, I, J, R) 46 1547 := by
  refine am_go hK si218 20 ?_
  (conv => whnf)
  refine And.intro rfl ?_
  (conv => whnf)
  show K 374 [some (.ref 64), none] [] (wR (wnew (110, A, L, I, J, R)) 64 65 (some 111)) 47 1691
  rw [wn_eq (n := 110) (o := 64) (j := 65) h]
  exact hn
theorem st218_47 (hK : am_cl sc (Ct sc d) 218 Q K) (h : A 112 = (fun _ => 0) ∧ L 112 = (fun _ => 0) ∧ I 112 = (fun _ => 0) ∧ J 112 = (fun _ => 0) ∧ ∀ b, R 112 b = none) (hn : K 382 [some (.ref 64), none] [] (112, A, L, I, J, uR R 64 67 (some 112)) 48 1699) : K 374 [some (.ref 64), none] [] (111, A, L, I, J, R) 47 1691 := by
  refine am_go hK si218 20 ?_
  (conv => whnf)
  refine And.intro rfl ?_
  (conv => whnf)
  show K 382 [some (.ref 64), none] [] (wR (wnew (111, A, L, I, J, R)) 64 67 (some 112)) 48 1699
  rw [wn_eq (n := 111) (o := 64) (j := 67) h]
  exact hn
theorem st218_48 (hK : am_cl sc (Ct sc d) 218 Q K) (h : A 113 = (fun _ => 0) ∧ L 113 = (fun _ => 0) ∧ I 113 = (fun _ => 0) ∧ J 113 = (fun _ => 0) ∧ ∀ b, R 113 b = none) (hn : K 390 [some (.ref 64), none] [] (113, A, L, I, J, uR R 64 68 (some 113)) 49 1707) : K 382 [some (.ref 64), none] [] (112, A, L, I, J, R) 48 1699 := by
  refine am_go hK si218 20 ?_
  (conv => whnf)
  refine And.intro rfl ?_
  (conv => whnf)
  show K 390 [some (.ref 64), none] [] (wR (wnew (112, A, L, I, J, R)) 64 68 (some 113)) 49 1707
  rw [wn_eq (n := 112) (o := 64) (j := 68) h]
  exact hn
theorem st218_49 (hK : am_cl sc (Ct sc d) 218 Q K) (h : A 114 = (fun _ => 0) ∧ L 114 = (fun _ => 0) ∧ I 114 = (fun _ => 0) ∧ J 114 = (fun _ => 0) ∧ ∀ b, R 114 b = none) (hn : K 398 [some (.ref 64), none] [] (114, A, L, I, J, uR R 64 70 (some 114)) 50 1713) : K 390 [some (.ref 64), none] [] (113, A, L, I, J, R) 49 1707 := by
  refine am_go hK si218 20 ?_
  (conv => whnf)
  refine And.intro rfl ?_
  (conv => whnf)
  show K 398 [some (.ref 64), none] [] (wR (wnew (113, A, L, I, J, R)) 64 70 (some 114)) 50 1713
  rw [wn_eq (n := 113) (o := 64) (j := 70) h]
  exact hn
theorem st218_50 (hK : am_cl sc (Ct sc d) 218 Q K) (h : A 115 = (fun _ => 0) ∧ L 115 = (fun _ => 0) ∧ I 115 = (fun _ => 0) ∧ J 115 = (fun _ => 0) ∧ ∀ b, R 115 b = none) (hn : K 406 [some (.ref 64), none] [] (115, A, L, I, J, uR R 64 73 (some 115)) 51 1723) : K 398 [some (.ref 64), none] [] (114, A, L, I, J, R) 50 1713 := by
  refine am_go hK si218 20 ?_
  (conv => whnf)
  refine And.intro rfl ?_
  (conv => whnf)
  show K 406 [some (.ref 64), none] [] (wR (wnew (114, A, L, I, J, R)) 64 73 (some 115)) 51 1723
  rw [wn_eq (n := 114) (o := 64) (j := 73) h]
  exact hn
theorem st218_51 (hK : am_cl sc (Ct sc d) 218 Q K) (h : A 116 = (fun _ => 0) ∧ L 116 = (fun _ => 0) ∧ I 116 = (fun _ => 0) ∧ J 116 = (fun _ => 0) ∧ ∀ b, R 116 b = none) (hn : K 414 [some (.ref 64), none] [] (116, A, L, I, J, uR R 64 75 (some 116)) 52 1733) : K 406 [some (.ref 64), none] [] (115, A, L, I, J, R) 51 1723 := by
  refine am_go hK si218 20 ?_
  (conv => whnf)
  refine And.intro rfl ?_
  (conv => whnf)
  show K 414 [some (.ref 64), none] [] (wR (wnew (115, A, L, I, J, R)) 64 75 (some 116)) 52 1733
  rw [wn_eq (n := 115) (o := 64) (j := 75) h]
  exact hn
theorem st218_52 (hK : am_cl sc (Ct sc d) 218 Q K) (h : A 117 = (fun _ => 0) ∧ L 117 = (fun _ => 0) ∧ I 117 = (fun _ => 0) ∧ J 117 = (fun _ => 0) ∧ ∀ b, R 117 b = none) (hn : K 421 [some (.ref 64), none] [] (117, A, L, I, J, uR R 64 76 (some 117)) 53 1737) : K 414 [some (.ref 64), none] [] (116, A, L, I, J, R) 52 1733 := by
  refine am_go hK si218 20 ?_
  (conv => whnf)
  refine And.intro rfl ?_
  (conv => whnf)
  show K 421 [some (.ref 64), none] [] (wR (wnew (116, A, L, I, J, R)) 64 76 (some 117)) 53 1737
  rw [wn_eq (n := 116) (o := 64) (j := 76) h]
  exact hn
theorem st218_53 (hK : am_cl sc (Ct sc d) 218 Q K) (h : A 118 = (fun _ => 0) ∧ L 118 = (fun _ => 0) ∧ I 118 = (fun _ => 0) ∧ J 118 = (fun _ => 0) ∧ ∀ b, R 118 b = none) (hn : K 428 [some (.ref 64), none] [] (118, A, L, I, J, uR R 64 77 (some 118)) 54 1741) : K 421 [some (.ref 64), none] [] (117, A, L, I, J, R) 53 1737 := by
  refine am_go hK si218 20 ?_
  (conv => whnf)
  refine And.intro rfl ?_
  (conv => whnf)
  show K 428 [some (.ref 64), none] [] (wR (wnew (117, A, L, I, J, R)) 64 77 (some 118)) 54 1741
  rw [wn_eq (n := 117) (o := 64) (j := 77) h]
  exact hn
theorem st218_54 (hK : am_cl sc (Ct sc d) 218 Q K) (h : A 119 = (fun _ => 0) ∧ L 119 = (fun _ => 0) ∧ I 119 = (fun _ => 0) ∧ J 119 = (fun _ => 0) ∧ ∀ b, R 119 b = none) (hn : K 437 [some (.ref 64), none] [] (119, A, L, I, J, uR R 64 78 (some 119)) 55 1981) : K 428 [some (.ref 64), none] [] (118, A, L, I, J, R) 54 1741 := by
  refine am_go hK si218 20 ?_
  (conv => whnf)
  refine And.intro rfl ?_
  (conv => whnf)
  show K 437 [some (.ref 64), none] [] (wR (wnew (118, A, L, I, J, R)) 64 78 (some 119)) 55 1981
  rw [wn_eq (n := 118) (o := 64) (j := 78) h]
  exact hn
theorem st218_55 (hK : am_cl sc (Ct sc d) 218 Q K) (h : A 120 = (fun _ => 0) ∧ L 120 = (fun _ => 0) ∧ I 120 = (fun _ => 0) ∧ J 120 = (fun _ => 0) ∧ ∀ b, R 120 b = none) (hn : K 445 [some (.ref 64), none] [] (120, A, L, I, J, uR R 64 79 (some 120)) 56 2041) : K 437 [some (.ref 64), none] [] (119, A, L, I, J, R) 55 1981 := by
  refine am_go hK si218 20 ?_
  (conv => whnf)
  refine And.intro rfl ?_
  (conv => whnf)
  show K 445 [some (.ref 64), none] [] (wR (wnew (119, A, L, I, J, R)) 64 79 (some 120)) 56 2041
  rw [wn_eq (n := 119) (o := 64) (j := 79) h]
  exact hn
theorem fi_146 (hc : Cl 2 A I L J R) (hq : Q none (11, A, L, (u2 (u2 I 2 9 0) 2 10 0), J, (uR (uR (uR (uR (uR (uR (uR (uR (uR R 2 0 (some 3)) 2 1 (some 4)) 2 2 (some 5)) 2 3 (some 6)) 2 4 (some 7)) 2 5 (some 8)) 2 6 (some 9)) 2 7 (some 10)) 2 8 (some 11)))) : Ct sc (d + 1) 146 [.ref 2] (2, A, L, I, J, R) Q := by
  intro K hK
  refine am_go hK si146 5 ?_
  (conv => whnf)
  refine st146_0 hK (hc 3 (by omega)) ?_
  refine st146_1 hK (hc 4 (by omega)) ?_
  refine st146_2 hK (hc 5 (by omega)) ?_
  refine st146_3 hK (hc 6 (by omega)) ?_
  refine st146_4 hK (hc 7 (by omega)) ?_
  refine st146_5 hK (hc 8 (by omega)) ?_
  refine st146_6 hK (hc 9 (by omega)) ?_
  refine st146_7 hK (hc 10 (by omega)) ?_
  refine st146_8 hK (hc 11 (by omega)) ?_
  refine am_go hK sp0 30 ?_
  (conv => whnf)
  exact hq
theorem fi_138 (hc : Cl 12 A I L J R) (hq : Q none (14, A, L, I, J, (uR (uR (uR R 12 1 (some 13)) 12 2 (some 14)) 12 0 (some 2)))) : Ct sc (d + 1) 138 [.ref 12, .ref 2] (12, A, L, I, J, R) Q := by
  intro K hK
  refine am_go hK si138 5 ?_
  (conv => whnf)
  refine st138_0 hK (hc 13 (by omega)) ?_
  refine st138_1 hK (hc 14 (by omega)) ?_
  refine am_go hK sp0 30 ?_
  (conv => whnf)
  exact hq
theorem fi_119 (hc : Cl 15 A I L J R) (hq : Q none (17, A, L, I, (u2 J 15 5 (lkc 20)), (uR (uR (uR R 15 1 (some 16)) 15 2 (some 17)) 15 0 (some 2)))) : Ct sc (d + 1) 119 [.ref 15, .ref 2] (15, A, L, I, J, R) Q := by
  intro K hK
  refine am_go hK si119 5 ?_
  (conv => whnf)
  refine st119_0 hK (hc 16 (by omega)) ?_
  refine st119_1 hK (hc 17 (by omega)) ?_
  refine am_go hK sp0 30 ?_
  (conv => whnf)
  exact hq
theorem fi_57 (hc : Cl 38 A I L J R) (hq : Q none (44, A, L, (u2 I 38 8 2), J, (uR (uR (uR (uR (uR (uR R 38 0 (some 39)) 38 1 (some 40)) 38 2 (some 41)) 38 3 (some 42)) 38 4 (some 43)) 38 5 (some 44)))) : Ct sc (d + 1) 57 [.ref 38] (38, A, L, I, J, R) Q := by
  intro K hK
  refine am_go hK si57 5 ?_
  (conv => whnf)
  refine st57_0 hK (hc 39 (by omega)) ?_
  refine st57_1 hK (hc 40 (by omega)) ?_
  refine st57_2 hK (hc 41 (by omega)) ?_
  refine st57_3 hK (hc 42 (by omega)) ?_
  refine st57_4 hK (hc 43 (by omega)) ?_
  refine st57_5 hK (hc 44 (by omega)) ?_
  refine am_go hK sp0 30 ?_
  (conv => whnf)
  exact hq
theorem fi_0 (hc : Cl 45 A I L J R) (hq : Q none (50, A, L, (u2 I 45 5 0), J, (uR (uR (uR (uR (uR R 45 0 (some 46)) 45 1 (some 47)) 45 2 (some 48)) 45 3 (some 49)) 45 4 (some 50)))) : Ct sc (d + 1) 0 [.ref 45] (45, A, L, I, J, R) Q := by
  intro K hK
  refine am_go hK si0 5 ?_
  (conv => whnf)
  refine st0_0 hK (hc 46 (by omega)) ?_
  refine st0_1 hK (hc 47 (by omega)) ?_
  refine st0_2 hK (hc 48 (by omega)) ?_
  refine st0_3 hK (hc 49 (by omega)) ?_
  refine st0_4 hK (hc 50 (by omega)) ?_
  refine am_go hK sp0 30 ?_
  (conv => whnf)
  exact hq
theorem fi_14 (hc : Cl 56 A I L J R) (hq : Q none (61, A, L, (u2 (u2 I 56 6 2) 56 7 2), J, (uR (uR (uR (uR (uR R 56 0 (some 57)) 56 1 (some 58)) 56 2 (some 59)) 56 3 (some 60)) 56 4 (some 61)))) : Ct sc (d + 1) 14 [.ref 56] (56, A, L, I, J, R) Q := by
  intro K hK
  refine am_go hK si14 5 ?_
  (conv => whnf)
  refine st14_0 hK (hc 57 (by omega)) ?_
  refine st14_1 hK (hc 58 (by omega)) ?_
  refine st14_2 hK (hc 59 (by omega)) ?_
  refine st14_3 hK (hc 60 (by omega)) ?_
  refine st14_4 hK (hc 61 (by omega)) ?_
  refine am_go hK sp0 30 ?_
  (conv => whnf)
  exact hq
theorem fi_83 (hc : Cl 62 A I L J R) (hq : Q none (63, A, L, (u2 (u2 I 62 1 0) 62 2 0), J, (uR R 62 0 (some 63)))) : Ct sc (d + 1) 83 [.ref 62] (62, A, L, I, J, R) Q := by
  intro K hK
  refine am_go hK si83 5 ?_
  (conv => whnf)
  refine st83_0 hK (hc 63 (by omega)) ?_
  refine am_go hK sp0 30 ?_
  (conv => whnf)
  exact hq
theorem fi_104 (hc : Cl 18 A I L J R) (hq : ∀ f : Nat → Int32, (∀ k, k < 4 → f k = -1) → Q none (21, u1 A 21 f, L, I, J, (uR (uR (uR R 18 0 (some 19)) 18 1 (some 20)) 18 2 (some 21)))) : Ct sc (d + 1) 104 [.ref 18] (18, A, L, I, J, R) Q := by
  intro K hK
  refine am_go hK si104 5 ?_
  (conv => whnf)
  refine st104_0 hK (hc 19 (by omega)) ?_
  refine st104_1 hK (hc 20 (by omega)) ?_
  refine st104_2 hK (hc 21 (by omega)) ?_
  have key := li_104 (A := A) (L := L) (I := I) (J := J) (R := (uR (uR (uR R 18 0 (some 19)) 18 1 (some 20)) 18 2 (some 21))) (g := 3) (h := 248) hK rfl hq 0 (by omega) (A 21) (fun k hk => absurd hk (by omega))
  rw [u1_id] at key
  refine am_go hK sp104 30 ?_
  (conv => whnf)
  exact key
theorem fi_91 (hc : Cl 22 A I L J R) (hq : ∀ f : Nat → Int32, (∀ k, k < 16 → f k = -9) → Q none (28, u1 A 28 f, L, I, J, (uR (uR (uR (uR (uR (uR R 22 0 (some 23)) 22 1 (some 24)) 22 2 (some 25)) 22 3 (some 26)) 22 4 (some 27)) 22 5 (some 28)))) : Ct sc (d + 1) 91 [.ref 22] (22, A, L, I, J, R) Q := by
  intro K hK
  refine am_go hK si91 5 ?_
  (conv => whnf)
  refine st91_0 hK (hc 23 (by omega)) ?_
  refine st91_1 hK (hc 24 (by omega)) ?_
  refine st91_2 hK (hc 25 (by omega)) ?_
  refine st91_3 hK (hc 26 (by omega)) ?_
  refine st91_4 hK (hc 27 (by omega)) ?_
  refine st91_5 hK (hc 28 (by omega)) ?_
  have key := li_91 (A := A) (L := L) (I := I) (J := J) (R := (uR (uR (uR (uR (uR (uR R 22 0 (some 23)) 22 1 (some 24)) 22 2 (some 25)) 22 3 (some 26)) 22 4 (some 27)) 22 5 (some 28))) (g := 6) (h := 101) hK rfl hq 0 (by omega) (A 28) (fun k hk => absurd hk (by omega))
  rw [u1_id] at key
  refine am_go hK sp91 30 ?_
  (conv => whnf)
  exact key
theorem fi_23 (hc : Cl 51 A I L J R) (hq : ∀ f : Nat → Int32, (∀ k, k < 16 → f k = -9) → Q none (55, u1 A 53 f, L, I, J, (uR (uR (uR (uR R 51 0 (some 52)) 51 1 (some 53)) 51 2 (some 54)) 51 3 (some 55)))) : Ct sc (d + 1) 23 [.ref 51] (51, A, L, I, J, R) Q := by
  intro K hK
  refine am_go hK si23 5 ?_
  (conv => whnf)
  refine st23_0 hK (hc 52 (by omega)) ?_
  refine st23_1 hK (hc 53 (by omega)) ?_
  refine st23_2 hK (hc 54 (by omega)) ?_
  refine st23_3 hK (hc 55 (by omega)) ?_
  have key := li_23 (A := A) (L := L) (I := I) (J := J) (R := (uR (uR (uR (uR R 51 0 (some 52)) 51 1 (some 53)) 51 2 (some 54)) 51 3 (some 55))) (g := 4) (h := 64) hK rfl hq 0 (by omega) (A 53) (fun k hk => absurd hk (by omega))
  rw [u1_id] at key
  refine am_go hK sp23 30 ?_
  (conv => whnf)
  exact key
theorem fi_40 (hc : Cl 29 A I L J R) (hq : ∀ f g : Nat → Int32, (∀ k, k < 64 → f k = 65535) → wlO g 969 → Q none (37, u1 (u1 A 31 f) 34 g, L, I, J, (uR (uR (uR (uR (uR (uR (uR (uR R 29 0 (some 30)) 29 1 (some 31)) 29 2 (some 32)) 29 3 (some 33)) 29 4 (some 34)) 29 5 (some 35)) 29 6 (some 36)) 29 7 (some 37)))) : Ct sc (d + 2) 40 [.ref 29] (29, A, L, I, J, R) Q := by
  intro K hK
  refine am_go hK si40 5 ?_
  (conv => whnf)
  refine st40_0 hK (hc 30 (by omega)) ?_
  refine st40_1 hK (hc 31 (by omega)) ?_
  refine st40_2 hK (hc 32 (by omega)) ?_
  refine st40_3 hK (hc 33 (by omega)) ?_
  refine st40_4 hK (hc 34 (by omega)) ?_
  refine st40_5 hK (hc 35 (by omega)) ?_
  refine st40_6 hK (hc 36 (by omega)) ?_
  refine st40_7 hK (hc 37 (by omega)) ?_
  have k1 : ∀ f : Nat → Int32, (∀ k, k < 64 → f k = 65535) → K 93 [some (.ref 29), some (.int (nI 1)), some (.int (nI 0)), none, none] [] (37, u1 A 31 f, L, I, J, (uR (uR (uR (uR (uR (uR (uR (uR R 29 0 (some 30)) 29 1 (some 31)) 29 2 (some 32)) 29 3 (some 33)) 29 4 (some 34)) 29 5 (some 35)) 29 6 (some 36)) 29 7 (some 37))) 8 1239 := by
    intro f hf
    have k2 := li_40b (A := u1 A 31 f) (L := L) (I := I) (J := J) (R := (uR (uR (uR (uR (uR (uR (uR (uR R 29 0 (some 30)) 29 1 (some 31)) 29 2 (some 32)) 29 3 (some 33)) 29 4 (some 34)) 29 5 (some 35)) 29 6 (some 36)) 29 7 (some 37))) hK rfl (fun g hg => li_40c hK rfl (fun g hg => li_40e hK rfl (fun g hg => hq f g hf hg) 0 (by omega) g hg) 0 (by omega) g hg) 0 (by omega) (u1 A 31 f 34) (fun N hN => by
      rw [show N = 0 by omega, u1_ne (by omega), (hc 34 (by omega)).1]
      decide)
    rw [u1_id] at k2
    exact k2
  have key := li_40a (A := A) (L := L) (I := I) (J := J) (R := (uR (uR (uR (uR (uR (uR (uR (uR R 29 0 (some 30)) 29 1 (some 31)) 29 2 (some 32)) 29 3 (some 33)) 29 4 (some 34)) 29 5 (some 35)) 29 6 (some 36)) 29 7 (some 37))) hK rfl k1 0 (by omega) (A 31) (fun k hk => absurd hk (by omega))
  rw [u1_id] at key
  refine am_go hK sp40 30 ?_
  (conv => whnf)
  exact key
theorem fi_218 (hc : Cl 64 A I L J R) (hq : ∀ f g : Nat → Int32, (∀ k, k < 16 → f k = -9) → (∀ k, k < 4 → g k = -1) → Q none (120, u1 (u1 A 70 f) 117 g, L, u2 (u2 (u2 I 64 58 2) 64 71 2) 64 72 2, J, (uR (uR (uR (uR (uR (uR (uR (uR (uR (uR (uR (uR (uR (uR (uR (uR (uR (uR (uR (uR (uR (uR (uR (uR (uR (uR (uR (uR (uR (uR (uR (uR (uR (uR (uR (uR (uR (uR (uR (uR (uR (uR (uR (uR (uR (uR (uR (uR (uR (uR (uR (uR (uR (uR (uR (uR R 64 2 (some 65)) 64 3 (some 66)) 64 4 (some 67)) 64 5 (some 68)) 64 6 (some 69)) 64 7 (some 70)) 64 9 (some 71)) 64 10 (some 72)) 64 11 (some 73)) 64 12 (some 74)) 64 14 (some 75)) 64 15 (some 76)) 64 16 (some 77)) 64 17 (some 78)) 64 18 (some 79)) 64 19 (some 80)) 64 20 (some 81)) 64 22 (some 82)) 64 23 (some 83)) 64 24 (some 84)) 64 28 (some 85)) 64 29 (some 86)) 64 32 (some 87)) 64 33 (some 88)) 64 34 (some 89)) 64 36 (some 90)) 64 37 (some 91)) 64 38 (some 92)) 64 39 (some 93)) 64 41 (some 94)) 64 43 (some 95)) 64 44 (some 96)) 64 45 (some 97)) 64 46 (some 98)) 64 47 (some 99)) 64 48 (some 100)) 64 51 (some 101)) 64 52 (some 102)) 64 53 (some 103)) 64 56 (some 104)) 64 57 (some 105)) 64 59 (some 106)) 64 61 (some 107)) 64 62 (some 108)) 64 63 (some 109)) 64 64 (some 110)) 64 65 (some 111)) 64 67 (some 112)) 64 68 (some 113)) 64 70 (some 114)) 64 73 (some 115)) 64 75 (some 116)) 64 76 (some 117)) 64 77 (some 118)) 64 78 (some 119)) 64 79 (some 120)))) : Ct sc (d + 1) 218 [.ref 64] (64, A, L, I, J, R) Q := by
  intro K hK
  refine am_go hK si218 5 ?_
  (conv => whnf)
  refine st218_0 hK (hc 65 (by omega)) ?_
  refine st218_1 hK (hc 66 (by omega)) ?_
  refine st218_2 hK (hc 67 (by omega)) ?_
  refine st218_3 hK (hc 68 (by omega)) ?_
  refine st218_4 hK (hc 69 (by omega)) ?_
  refine st218_5 hK (hc 70 (by omega)) ?_
  refine st218_6 hK (hc 71 (by omega)) ?_
  refine st218_7 hK (hc 72 (by omega)) ?_
  refine st218_8 hK (hc 73 (by omega)) ?_
  refine st218_9 hK (hc 74 (by omega)) ?_
  refine st218_10 hK (hc 75 (by omega)) ?_
  refine st218_11 hK (hc 76 (by omega)) ?_
  refine st218_12 hK (hc 77 (by omega)) ?_
  refine st218_13 hK (hc 78 (by omega)) ?_
  refine st218_14 hK (hc 79 (by omega)) ?_
  refine st218_15 hK (hc 80 (by omega)) ?_
  refine st218_16 hK (hc 81 (by omega)) ?_
  refine st218_17 hK (hc 82 (by omega)) ?_
  refine st218_18 hK (hc 83 (by omega)) ?_
  refine st218_19 hK (hc 84 (by omega)) ?_
  refine st218_20 hK (hc 85 (by omega)) ?_
  refine st218_21 hK (hc 86 (by omega)) ?_
  refine st218_22 hK (hc 87 (by omega)) ?_
  refine st218_23 hK (hc 88 (by omega)) ?_
  refine st218_24 hK (hc 89 (by omega)) ?_
  refine st218_25 hK (hc 90 (by omega)) ?_
  refine st218_26 hK (hc 91 (by omega)) ?_
  refine st218_27 hK (hc 92 (by omega)) ?_
  refine st218_28 hK (hc 93 (by omega)) ?_
  refine st218_29 hK (hc 94 (by omega)) ?_
  refine st218_30 hK (hc 95 (by omega)) ?_
  refine st218_31 hK (hc 96 (by omega)) ?_
  refine st218_32 hK (hc 97 (by omega)) ?_
  refine st218_33 hK (hc 98 (by omega)) ?_
  refine st218_34 hK (hc 99 (by omega)) ?_
  refine st218_35 hK (hc 100 (by omega)) ?_
  refine st218_36 hK (hc 101 (by omega)) ?_
  refine st218_37 hK (hc 102 (by omega)) ?_
  refine st218_38 hK (hc 103 (by omega)) ?_
  refine st218_39 hK (hc 104 (by omega)) ?_
  refine st218_40 hK (hc 105 (by omega)) ?_
  refine st218_41 hK (hc 106 (by omega)) ?_
  refine st218_42 hK (hc 107 (by omega)) ?_
  refine st218_43 hK (hc 108 (by omega)) ?_
  refine st218_44 hK (hc 109 (by omega)) ?_
  refine st218_45 hK (hc 110 (by omega)) ?_
  refine st218_46 hK (hc 111 (by omega)) ?_
  refine st218_47 hK (hc 112 (by omega)) ?_
  refine st218_48 hK (hc 113 (by omega)) ?_
  refine st218_49 hK (hc 114 (by omega)) ?_
  refine st218_50 hK (hc 115 (by omega)) ?_
  refine st218_51 hK (hc 116 (by omega)) ?_
  refine st218_52 hK (hc 117 (by omega)) ?_
  refine st218_53 hK (hc 118 (by omega)) ?_
  refine st218_54 hK (hc 119 (by omega)) ?_
  refine st218_55 hK (hc 120 (by omega)) ?_
  have k1 : ∀ f : Nat → Int32, (∀ k, k < 16 → f k = -9) → K 484 [some (.ref 64), some (.int (nI 0))] [] (120, u1 A 70 f, L, u2 (u2 (u2 I 64 58 2) 64 71 2) 64 72 2, J, (uR (uR (uR (uR (uR (uR (uR (uR (uR (uR (uR (uR (uR (uR (uR (uR (uR (uR (uR (uR (uR (uR (uR (uR (uR (uR (uR (uR (uR (uR (uR (uR (uR (uR (uR (uR (uR (uR (uR (uR (uR (uR (uR (uR (uR (uR (uR (uR (uR (uR (uR (uR (uR (uR (uR (uR R 64 2 (some 65)) 64 3 (some 66)) 64 4 (some 67)) 64 5 (some 68)) 64 6 (some 69)) 64 7 (some 70)) 64 9 (some 71)) 64 10 (some 72)) 64 11 (some 73)) 64 12 (some 74)) 64 14 (some 75)) 64 15 (some 76)) 64 16 (some 77)) 64 17 (some 78)) 64 18 (some 79)) 64 19 (some 80)) 64 20 (some 81)) 64 22 (some 82)) 64 23 (some 83)) 64 24 (some 84)) 64 28 (some 85)) 64 29 (some 86)) 64 32 (some 87)) 64 33 (some 88)) 64 34 (some 89)) 64 36 (some 90)) 64 37 (some 91)) 64 38 (some 92)) 64 39 (some 93)) 64 41 (some 94)) 64 43 (some 95)) 64 44 (some 96)) 64 45 (some 97)) 64 46 (some 98)) 64 47 (some 99)) 64 48 (some 100)) 64 51 (some 101)) 64 52 (some 102)) 64 53 (some 103)) 64 56 (some 104)) 64 57 (some 105)) 64 59 (some 106)) 64 61 (some 107)) 64 62 (some 108)) 64 63 (some 109)) 64 64 (some 110)) 64 65 (some 111)) 64 67 (some 112)) 64 68 (some 113)) 64 70 (some 114)) 64 73 (some 115)) 64 75 (some 116)) 64 76 (some 117)) 64 77 (some 118)) 64 78 (some 119)) 64 79 (some 120))) 56 2041 := by
    intro f hf
    have k2 := li_218b (A := u1 A 70 f) (L := L) (I := u2 (u2 (u2 I 64 58 2) 64 71 2) 64 72 2) (J := J) (R := (uR (uR (uR (uR (uR (uR (uR (uR (uR (uR (uR (uR (uR (uR (uR (uR (uR (uR (uR (uR (uR (uR (uR (uR (uR (uR (uR (uR (uR (uR (uR (uR (uR (uR (uR (uR (uR (uR (uR (uR (uR (uR (uR (uR (uR (uR (uR (uR (uR (uR (uR (uR (uR (uR (uR (uR R 64 2 (some 65)) 64 3 (some 66)) 64 4 (some 67)) 64 5 (some 68)) 64 6 (some 69)) 64 7 (some 70)) 64 9 (some 71)) 64 10 (some 72)) 64 11 (some 73)) 64 12 (some 74)) 64 14 (some 75)) 64 15 (some 76)) 64 16 (some 77)) 64 17 (some 78)) 64 18 (some 79)) 64 19 (some 80)) 64 20 (some 81)) 64 22 (some 82)) 64 23 (some 83)) 64 24 (some 84)) 64 28 (some 85)) 64 29 (some 86)) 64 32 (some 87)) 64 33 (some 88)) 64 34 (some 89)) 64 36 (some 90)) 64 37 (some 91)) 64 38 (some 92)) 64 39 (some 93)) 64 41 (some 94)) 64 43 (some 95)) 64 44 (some 96)) 64 45 (some 97)) 64 46 (some 98)) 64 47 (some 99)) 64 48 (some 100)) 64 51 (some 101)) 64 52 (some 102)) 64 53 (some 103)) 64 56 (some 104)) 64 57 (some 105)) 64 59 (some 106)) 64 61 (some 107)) 64 62 (some 108)) 64 63 (some 109)) 64 64 (some 110)) 64 65 (some 111)) 64 67 (some 112)) 64 68 (some 113)) 64 70 (some 114)) 64 73 (some 115)) 64 75 (some 116)) 64 76 (some 117)) 64 77 (some 118)) 64 78 (some 119)) 64 79 (some 120))) (g := 56) (h := 2041) hK rfl (fun g hg => hq f g hf hg) 0 (by omega) (u1 A 70 f 117) (fun k hk => absurd hk (by omega))
    rw [u1_id] at k2
    exact k2
  have key := li_218a (A := A) (L := L) (I := u2 (u2 (u2 I 64 58 2) 64 71 2) 64 72 2) (J := J) (R := (uR (uR (uR (uR (uR (uR (uR (uR (uR (uR (uR (uR (uR (uR (uR (uR (uR (uR (uR (uR (uR (uR (uR (uR (uR (uR (uR (uR (uR (uR (uR (uR (uR (uR (uR (uR (uR (uR (uR (uR (uR (uR (uR (uR (uR (uR (uR (uR (uR (uR (uR (uR (uR (uR (uR (uR R 64 2 (some 65)) 64 3 (some 66)) 64 4 (some 67)) 64 5 (some 68)) 64 6 (some 69)) 64 7 (some 70)) 64 9 (some 71)) 64 10 (some 72)) 64 11 (some 73)) 64 12 (some 74)) 64 14 (some 75)) 64 15 (some 76)) 64 16 (some 77)) 64 17 (some 78)) 64 18 (some 79)) 64 19 (some 80)) 64 20 (some 81)) 64 22 (some 82)) 64 23 (some 83)) 64 24 (some 84)) 64 28 (some 85)) 64 29 (some 86)) 64 32 (some 87)) 64 33 (some 88)) 64 34 (some 89)) 64 36 (some 90)) 64 37 (some 91)) 64 38 (some 92)) 64 39 (some 93)) 64 41 (some 94)) 64 43 (some 95)) 64 44 (some 96)) 64 45 (some 97)) 64 46 (some 98)) 64 47 (some 99)) 64 48 (some 100)) 64 51 (some 101)) 64 52 (some 102)) 64 53 (some 103)) 64 56 (some 104)) 64 57 (some 105)) 64 59 (some 106)) 64 61 (some 107)) 64 62 (some 108)) 64 63 (some 109)) 64 64 (some 110)) 64 65 (some 111)) 64 67 (some 112)) 64 68 (some 113)) 64 70 (some 114)) 64 73 (some 115)) 64 75 (some 116)) 64 76 (some 117)) 64 77 (some 118)) 64 78 (some 119)) 64 79 (some 120))) (g := 56) (h := 2041) hK rfl k1 0 (by omega) (A 70) (fun k hk => absurd hk (by omega))
  rw [u1_id] at key
  refine am_go hK sp218 30 ?_
  (conv => whnf)
  exact key
end
