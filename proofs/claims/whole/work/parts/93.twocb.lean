section
variable (fol : Nat → Nat → Bool) (af : Nat → Nat) (lt : Nat → List Nat)
/-- rows of the table that were gone on from: of fewer letters than n, or of n by a wider gap, or by the gap g at one of the first k places -/
def ErS (n g k i : Nat) (R : List Nat) : Prop := R.length < n ∨ (R.length = n ∧ (g < xG i ∨ (xG i = g ∧ i % 576 < k)))
def PrS (F : Nat → Option (List Nat)) (S n g k : Nat) : Prop := ∀ i R, i < 1728 → F i = some R → ErS n g k i R → ClS fol af lt F S (xP i) (xG i) (xC i) (xF i) (xL i) 99 R 24
def VdA (F : Nat → Option (List Nat)) : Prop := ∀ i R, i < 1728 → F i = some R → VdS fol af lt i R
def SpC (F : Nat → Option (List Nat)) (S : Nat) (hd : List Nat) (k left : Nat) : Prop := ∀ p, fol k p = true → ClS fol af lt F S p (lt p).length k false (left - 1) p (hd ++ lt p) 24
def TwK (S : Nat) : Prop := S = 14987979559889010688 ∨ ∃ row, TwS fol af lt row ∧ S = rKy row
end
section
variable {fol : Nat → Nat → Bool} {af : Nat → Nat} {lt : Nat → List Nat} {F F' : Nat → Option (List Nat)} {S S' n g k i0 p gs cb left but j : Nat} {fi : Bool} {R hd row : List Nat}
theorem pr_go (h : PrS fol af lt F S n g k) (hi : i0 < 1728) (h0 : F i0 = some R) (hR : R.length = n) (hg : xG i0 = g) (hk : i0 % 576 = k) (hgo : GoR fol af lt F S F' S' (xP i0) g (xC i0) (xF i0) (xL i0) 99 R 24) : PrS fol af lt F' S' n g (k + 1) := by
  intro i R1 hi1 h1 he
  rcases hgo.2.2.2.1 i R1 hi1 h1 with z | ⟨_, z⟩
  · by_cases e : i = i0
    · subst e
      rw [h0] at z
      have z := Option.some.inj z
      subst z
      rw [hg]
      exact hgo.2.2.1
    · refine ClS_m (h i R1 hi1 z ?_) hgo.2.1 hgo.1
      rcases he with y | ⟨y1, y | ⟨y2, y3⟩⟩
      · exact Or.inl y
      · exact Or.inr ⟨y1, Or.inl y⟩
      · refine Or.inr ⟨y1, Or.inr ⟨y2, ?_⟩⟩
        unfold xG at y2 hg
        omega
  · exfalso
    unfold ErS at he
    omega
theorem pr_sk (h : PrS fol af lt F S n g k) (g1 : 1 ≤ g) (hk : k < 576) (hs : ∀ R, F ((g - 1) * 576 + k) = some R → R.length ≠ n) : PrS fol af lt F S n g (k + 1) := by
  intro i R1 hi1 h1 he
  refine h i R1 hi1 h1 ?_
  rcases he with y | ⟨y1, y | ⟨y2, y3⟩⟩
  · exact Or.inl y
  · exact Or.inr ⟨y1, Or.inl y⟩
  · refine Or.inr ⟨y1, Or.inr ⟨y2, ?_⟩⟩
    rcases Nat.lt_or_ge (i % 576) k with z | z
    · exact z
    · exfalso
      have e : i = (g - 1) * 576 + k := by unfold xG at y2; omega
      exact hs R1 (by rw [← e]; exact h1) y1
theorem pr_g (h : PrS fol af lt F S n g 576) (g1 : 1 ≤ g) : PrS fol af lt F S n (g - 1) 0 := by
  intro i R1 hi1 h1 he
  refine h i R1 hi1 h1 ?_
  have : i % 576 < 576 := Nat.mod_lt _ (by omega)
  unfold ErS at he ⊢
  omega
theorem pr_n (h : PrS fol af lt F S n 0 0) : PrS fol af lt F S (n + 1) 3 0 := by
  intro i R1 hi1 h1 he
  refine h i R1 hi1 h1 ?_
  unfold ErS xG at he ⊢
  omega
theorem pr_0 (h : VdA fol af lt F) : PrS fol af lt F S 1 3 0 := by
  intro i R1 hi1 h1 he
  exfalso
  have := (h i R1 hi1 h1).2.1
  unfold ErS xG at he
  omega
theorem vd_go (h : VdA fol af lt F) (hgo : GoR fol af lt F S F' S' p gs cb fi left but R n) : VdA fol af lt F' := fun i R1 hi h1 => by
  rcases hgo.2.2.2.1 i R1 hi h1 with z | z
  · exact h i R1 hi z
  · exact z.1
theorem tk_go (h : TwK fol af lt S) (hgo : GoR fol af lt F S F' S' p gs cb fi left but R n) : TwK fol af lt S' := by
  rcases hgo.2.2.2.2 with z | z
  · rw [z]; exact h
  · exact Or.inr z
theorem sp_m (h : SpC fol af lt F S hd k left) (hF : Fle F F') (hS : S' ≤ S) : SpC fol af lt F' S' hd k left := fun p hp => ClS_m (h p hp) hF hS
/-- a row that may stand there, as one goes on from it -/
theorem vd_0 (hi : i0 < 1728) (h : VdS fol af lt i0 R) : Vd0 fol af lt (xP i0) (xG i0) (xC i0) (xF i0) (xL i0) 99 R := by
  obtain ⟨v1, v2, v3, v4, v5, v6, v7⟩ := h
  refine ⟨v1, v2, v3, v4, ?_, v5, ?_, Nat.le_of_lt v6, ?_, v7⟩
  · unfold xL; omega
  · unfold xG; omega
  · unfold xC; omega
theorem vd_12 (hV : Vd0 fol af lt p gs cb fi left but R) (g4 : gs ≤ 4) (hg : fi = true → gs ≤ 3) : R.length ≤ 12 := by
  obtain ⟨v1, v2, v3, v4, v5, v6⟩ := hV
  cases fi
  · simp only [cond_false] at v3
    omega
  · have := v4 rfl
    have := hg rfl
    simp only [cond_true] at v3
    omega
/-- a split behind a head, once all is gone through -/
theorem sp_end (hP : PtH fol af lt) (hV : VdA fol af lt F) (hE : ∀ i R, i < 1728 → F i = some R → R.length < n ∨ S ≤ rKy R) (hPr : PrS fol af lt F S n 3 0) (hS : SpC fol af lt F S hd k left) (hl : left ≤ 3) (hR : lR hd) (h : SpS fol af lt hd k left row) : S ≤ rKy row := by
  obtain ⟨p, hp, b, bt, as, h⟩ := h
  obtain ⟨p1, p2, p3, p4, p5⟩ := hP _ _ hp
  refine cl_end hP hV (fun i R hi hR => ?_) (bt.length + as.length + 1) bt as (by omega) p (lt p).length k false (left - 1) p (hd ++ lt p) b row ⟨k, hp⟩ p4 (Nat.le_refl _) (by omega) (lR_a hR p3) (Or.inr (hS p hp)) (by rw [gp_all]; exact h)
  rcases hE i R hi hR with z | z
  · exact Or.inr (hPr i R hi hR (Or.inl z))
  · exact Or.inl z
end
