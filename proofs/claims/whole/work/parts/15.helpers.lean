theorem l_pred {n : Nat} (h : n ≤ 1000) : ((nI n).toInt64 - lkc 3).toInt = (n : Int) - 1 := by
  rw [nI_l (by omega), Int64.toInt_sub, lN_toInt (by omega), lkT3]
  have : ((n : Int) - 1).bmod (2 ^ 64) = (n : Int) - 1 := by
    apply Int.bmod_eq_of_le <;> omega
  exact this
theorem nl_T {n : Nat} (h : n < 2 ^ 31) : (nI n).toInt64.toInt = (n : Int) := by rw [Int32.toInt_toInt64, nI_toInt h]
section
variable {sc : Sc} {d : Nat} {A : Nat → Nat → Int32} {L : Nat → Nat → Int64} {I : Nat → Nat → Int32} {J : Nat → Nat → Int64} {R : St Prop} {Q : Option Value → Wd → Prop} {w : Wd}
/-- in(x, lo, hi) of an int -/
theorem s_in_T {x : Int32} {lo hi : Int64} (h1 : lo.toInt ≤ x.toInt) (h2 : x.toInt ≤ hi.toInt) (h : Q (some (.int 1)) w) : Ct sc (d + 1) 219 [.long x.toInt64, .long lo, .long hi] w Q :=
  s_in _ _ _ (fun _ _ => h) (fun c => absurd ⟨by rw [Int32.toInt_toInt64]; exact h1, by rw [Int32.toInt_toInt64]; exact h2⟩ c)
theorem s_in_F {x : Int32} {lo hi : Int64} (h1 : ¬ (lo.toInt ≤ x.toInt ∧ x.toInt ≤ hi.toInt)) (h : Q (some (.int 0)) w) : Ct sc (d + 1) 219 [.long x.toInt64, .long lo, .long hi] w Q :=
  s_in _ _ _ (fun c1 c2 => by rw [Int32.toInt_toInt64] at c1 c2; exact absurd ⟨c1, c2⟩ h1) (fun _ => h)
theorem sx_isPerson_T {n j : Nat} (e : I 38 6 = nI n) (hn : n ≤ 12) (hj : j < n) (h : Q (some (.int 1)) (wd A L I J)) : Ct sc (d + 1) 61 [.ref 38, .int (nI j)] (wd A L I J) Q := by
  refine Ct_run 40 (fun _ => ?_)
  refine ⟨fun c => absurd c (nI_pos (by omega)), fun _ => ⟨fun c => ?_, fun _ => ⟨Or.inr rfl, h⟩⟩⟩
  have c : I 38 6 ≤ nI j := c
  rw [e] at c
  exact absurd c (nI_ge hj (by omega))
theorem sx_isPerson_F {n : Nat} {p : Int32} (e : I 38 6 = nI n) (hn : n ≤ 12) (hp : ¬ (0 ≤ p.toInt ∧ p.toInt < (n : Int))) (h : Q (some (.int 0)) (wd A L I J)) : Ct sc (d + 1) 61 [.ref 38, .int p] (wd A L I J) Q := by
  refine Ct_run 40 (fun _ => ?_)
  refine ⟨fun c => ⟨Or.inl rfl, h⟩, fun c => ⟨fun _ => ⟨Or.inl rfl, h⟩, fun c2 => ?_⟩⟩
  exfalso
  have c2 : ¬ I 38 6 ≤ p := c2
  rw [e, Int32.le_iff_toInt_le, nI_toInt (by omega)] at c2
  rw [Int32.lt_iff_toInt_lt] at c
  simp at c
  omega
theorem sm_noPerson_T {n j : Nat} (e : I 64 42 = nI n) (hn : n ≤ 12) (hj : j < n) (h : Q (some (.int 0)) (wd A L I J)) : Ct sc (d + 2) 272 [.ref 64, .int (nI j)] (wd A L I J) Q := by
  refine Ct_run 40 (fun _ => ?_)
  refine And.intro (s_in_T ?_ ?_ ?_) trivial
  · rw [nI_toInt (by omega), lkT2]; omega
  · show _ ≤ ((I 64 42).toInt64 - lkc 3).toInt
    rw [e, l_pred (by omega), nI_toInt (by omega)]; omega
  · exact ⟨fun _ => ⟨Or.inl rfl, h⟩, fun c => absurd c (by decide)⟩
theorem sm_noPerson_F {n : Nat} {p : Int32} (e : I 64 42 = nI n) (hn : n ≤ 12) (hp : ¬ (0 ≤ p.toInt ∧ p.toInt < (n : Int))) (h : Q (some (.int 1)) (wd A L I J)) : Ct sc (d + 2) 272 [.ref 64, .int p] (wd A L I J) Q := by
  refine Ct_run 40 (fun _ => ?_)
  refine And.intro (s_in_F (fun c => hp ?_) ?_) trivial
  · have c2 : p.toInt ≤ ((I 64 42).toInt64 - lkc 3).toInt := c.2
    rw [e, l_pred (by omega)] at c2
    have c1 := c.1
    rw [lkT2] at c1
    omega
  · exact ⟨fun c => absurd c (by decide), fun _ => ⟨Or.inr rfl, h⟩⟩
theorem sx_isRoot_T {n j : Nat} (e : I 2 9 = nI n) (hn : n ≤ 16) (hj : j < n) (h : Q (some (.int 1)) (wd A L I J)) : Ct sc (d + 1) 45 [.ref 2, .int (nI j)] (wd A L I J) Q := by
  refine Ct_run 40 (fun _ => ?_)
  refine ⟨fun c => absurd c (nI_pos (by omega)), fun _ => ⟨fun c => ?_, fun _ => ⟨Or.inr rfl, h⟩⟩⟩
  have c : I 2 9 ≤ nI j := c
  rw [e] at c
  exact absurd c (nI_ge hj (by omega))
theorem sx_isRoot_F {n : Nat} {p : Int32} (e : I 2 9 = nI n) (hn : n ≤ 16) (hp : ¬ (0 ≤ p.toInt ∧ p.toInt < (n : Int))) (h : Q (some (.int 0)) (wd A L I J)) : Ct sc (d + 1) 45 [.ref 2, .int p] (wd A L I J) Q := by
  refine Ct_run 40 (fun _ => ?_)
  refine ⟨fun c => ⟨Or.inl rfl, h⟩, fun c => ⟨fun _ => ⟨Or.inl rfl, h⟩, fun c2 => ?_⟩⟩
  exfalso
  have c2 : ¬ I 2 9 ≤ p := c2
  rw [e, Int32.le_iff_toInt_le, nI_toInt (by omega)] at c2
  rw [Int32.lt_iff_toInt_lt] at c
  simp at c
  omega
theorem sm_noRoot_T {n j : Nat} (e : I 64 1 = nI n) (hn : n ≤ 16) (hj : j < n) (h : Q (some (.int 0)) (wd A L I J)) : Ct sc (d + 2) 230 [.ref 64, .int (nI j)] (wd A L I J) Q := by
  refine Ct_run 40 (fun _ => ?_)
  refine And.intro (s_in_T ?_ ?_ ?_) trivial
  · rw [nI_toInt (by omega), lkT2]; omega
  · show _ ≤ ((I 64 1).toInt64 - lkc 3).toInt
    rw [e, l_pred (by omega), nI_toInt (by omega)]; omega
  · exact ⟨fun _ => ⟨Or.inl rfl, h⟩, fun c => absurd c (by decide)⟩
theorem sm_noRoot_F {n : Nat} {p : Int32} (e : I 64 1 = nI n) (hn : n ≤ 16) (hp : ¬ (0 ≤ p.toInt ∧ p.toInt < (n : Int))) (h : Q (some (.int 1)) (wd A L I J)) : Ct sc (d + 2) 230 [.ref 64, .int p] (wd A L I J) Q := by
  refine Ct_run 40 (fun _ => ?_)
  refine And.intro (s_in_F (fun c => hp ?_) ?_) trivial
  · have c2 : p.toInt ≤ ((I 64 1).toInt64 - lkc 3).toInt := c.2
    rw [e, l_pred (by omega)] at c2
    have c1 := c.1
    rw [lkT2] at c1
    omega
  · exact ⟨fun c => absurd c (by decide), fun _ => ⟨Or.inr rfl, h⟩⟩
theorem sx_isSentence_T {n j : Nat} (e : I 29 8 = nI n) (hn : n ≤ 10) (hj : j < n) (h : Q (some (.int 1)) (wd A L I J)) : Ct sc (d + 1) 48 [.ref 29, .int (nI j)] (wd A L I J) Q := by
  refine Ct_run 40 (fun _ => ?_)
  refine ⟨fun c => absurd c (nI_pos (by omega)), fun _ => ⟨fun c => ?_, fun _ => ⟨Or.inr rfl, h⟩⟩⟩
  have c : I 29 8 ≤ nI j := c
  rw [e] at c
  exact absurd c (nI_ge hj (by omega))
theorem sx_isSentence_F {n : Nat} {p : Int32} (e : I 29 8 = nI n) (hn : n ≤ 10) (hp : ¬ (0 ≤ p.toInt ∧ p.toInt < (n : Int))) (h : Q (some (.int 0)) (wd A L I J)) : Ct sc (d + 1) 48 [.ref 29, .int p] (wd A L I J) Q := by
  refine Ct_run 40 (fun _ => ?_)
  refine ⟨fun c => ⟨Or.inl rfl, h⟩, fun c => ⟨fun _ => ⟨Or.inl rfl, h⟩, fun c2 => ?_⟩⟩
  exfalso
  have c2 : ¬ I 29 8 ≤ p := c2
  rw [e, Int32.le_iff_toInt_le, nI_toInt (by omega)] at c2
  rw [Int32.lt_iff_toInt_lt] at c
  simp at c
  omega
theorem sm_noSentence_T {n j : Nat} (e : I 64 35 = nI n) (hn : n ≤ 10) (hj : j < n) (h : Q (some (.int 0)) (wd A L I J)) : Ct sc (d + 2) 268 [.ref 64, .int (nI j)] (wd A L I J) Q := by
  refine Ct_run 40 (fun _ => ?_)
  refine And.intro (s_in_T ?_ ?_ ?_) trivial
  · rw [nI_toInt (by omega), lkT2]; omega
  · show _ ≤ ((I 64 35).toInt64 - lkc 3).toInt
    rw [e, l_pred (by omega), nI_toInt (by omega)]; omega
  · exact ⟨fun _ => ⟨Or.inl rfl, h⟩, fun c => absurd c (by decide)⟩
theorem sm_noSentence_F {n : Nat} {p : Int32} (e : I 64 35 = nI n) (hn : n ≤ 10) (hp : ¬ (0 ≤ p.toInt ∧ p.toInt < (n : Int))) (h : Q (some (.int 1)) (wd A L I J)) : Ct sc (d + 2) 268 [.ref 64, .int p] (wd A L I J) Q := by
  refine Ct_run 40 (fun _ => ?_)
  refine And.intro (s_in_F (fun c => hp ?_) ?_) trivial
  · have c2 : p.toInt ≤ ((I 64 35).toInt64 - lkc 3).toInt := c.2
    rw [e, l_pred (by omega)] at c2
    have c1 := c.1
    rw [lkT2] at c1
    omega
  · exact ⟨fun c => absurd c (by decide), fun _ => ⟨Or.inr rfl, h⟩⟩
theorem sx_isBody_T {n j : Nat} (e : I 45 5 = nI n) (hn : n ≤ 4) (hj : j < n) (h : Q (some (.int 1)) (wd A L I J)) : Ct sc (d + 1) 2 [.ref 45, .int (nI j)] (wd A L I J) Q := by
  refine Ct_run 40 (fun _ => ?_)
  refine ⟨fun c => absurd c (nI_pos (by omega)), fun _ => ⟨fun c => ?_, fun _ => ⟨Or.inr rfl, h⟩⟩⟩
  have c : I 45 5 ≤ nI j := c
  rw [e] at c
  exact absurd c (nI_ge hj (by omega))
theorem sx_isBody_F {n : Nat} {p : Int32} (e : I 45 5 = nI n) (hn : n ≤ 4) (hp : ¬ (0 ≤ p.toInt ∧ p.toInt < (n : Int))) (h : Q (some (.int 0)) (wd A L I J)) : Ct sc (d + 1) 2 [.ref 45, .int p] (wd A L I J) Q := by
  refine Ct_run 40 (fun _ => ?_)
  refine ⟨fun c => ⟨Or.inl rfl, h⟩, fun c => ⟨fun _ => ⟨Or.inl rfl, h⟩, fun c2 => ?_⟩⟩
  exfalso
  have c2 : ¬ I 45 5 ≤ p := c2
  rw [e, Int32.le_iff_toInt_le, nI_toInt (by omega)] at c2
  rw [Int32.lt_iff_toInt_lt] at c
  simp at c
  omega
theorem sm_noBody_T {n j : Nat} (e : I 64 60 = nI n) (hn : n ≤ 4) (hj : j < n) (h : Q (some (.int 0)) (wd A L I J)) : Ct sc (d + 2) 291 [.ref 64, .int (nI j)] (wd A L I J) Q := by
  refine Ct_run 40 (fun _ => ?_)
  refine And.intro (s_in_T ?_ ?_ ?_) trivial
  · rw [nI_toInt (by omega), lkT2]; omega
  · show _ ≤ ((I 64 60).toInt64 - lkc 3).toInt
    rw [e, l_pred (by omega), nI_toInt (by omega)]; omega
  · exact ⟨fun _ => ⟨Or.inl rfl, h⟩, fun c => absurd c (by decide)⟩
theorem sm_noBody_F {n : Nat} {p : Int32} (e : I 64 60 = nI n) (hn : n ≤ 4) (hp : ¬ (0 ≤ p.toInt ∧ p.toInt < (n : Int))) (h : Q (some (.int 1)) (wd A L I J)) : Ct sc (d + 2) 291 [.ref 64, .int p] (wd A L I J) Q := by
  refine Ct_run 40 (fun _ => ?_)
  refine And.intro (s_in_F (fun c => hp ?_) ?_) trivial
  · have c2 : p.toInt ≤ ((I 64 60).toInt64 - lkc 3).toInt := c.2
    rw [e, l_pred (by omega)] at c2
    have c1 := c.1
    rw [lkT2] at c1
    omega
  · exact ⟨fun c => absurd c (by decide), fun _ => ⟨Or.inr rfl, h⟩⟩
theorem sx_isSheet_T {j : Nat} (hj : j < 4) (h : Q (some (.int 1)) w) : Ct sc (d + 1) 105 [.int (nI j)] w Q := by
  refine Ct_run 40 (fun _ => ?_)
  refine ⟨fun c => absurd c (nI_pos (by omega)), fun _ => ⟨fun c => ?_, fun _ => ⟨Or.inr rfl, h⟩⟩⟩
  first
    | exact absurd c (nI_ge (b := 4) hj (by omega))
    | exact absurd c (nI_nlt (a := 3) (by omega) (by omega))
theorem sx_isSheet_F {p : Int32} (hp : ¬ (0 ≤ p.toInt ∧ p.toInt < (4 : Nat))) (h : Q (some (.int 0)) w) : Ct sc (d + 1) 105 [.int p] w Q := by
  refine Ct_run 40 (fun _ => ?_)
  refine ⟨fun c => ⟨Or.inl rfl, h⟩, fun c => ⟨fun _ => ⟨Or.inl rfl, h⟩, fun c2 => ?_⟩⟩
  exfalso
  simp only [Int32.lt_iff_toInt_lt, Int32.le_iff_toInt_le] at c c2
  simp at c c2 hp
  omega
theorem sx_isLane_T {j : Nat} (hj : j < 3) (h : Q (some (.int 1)) w) : Ct sc (d + 1) 106 [.int (nI j)] w Q := by
  refine Ct_run 40 (fun _ => ?_)
  refine ⟨fun c => absurd c (nI_pos (by omega)), fun _ => ⟨fun c => ?_, fun _ => ⟨Or.inr rfl, h⟩⟩⟩
  first
    | exact absurd c (nI_ge (b := 3) hj (by omega))
    | exact absurd c (nI_nlt (a := 2) (by omega) (by omega))
theorem sx_isLane_F {p : Int32} (hp : ¬ (0 ≤ p.toInt ∧ p.toInt < (3 : Nat))) (h : Q (some (.int 0)) w) : Ct sc (d + 1) 106 [.int p] w Q := by
  refine Ct_run 40 (fun _ => ?_)
  refine ⟨fun c => ⟨Or.inl rfl, h⟩, fun c => ⟨fun _ => ⟨Or.inl rfl, h⟩, fun c2 => ?_⟩⟩
  exfalso
  simp only [Int32.lt_iff_toInt_lt, Int32.le_iff_toInt_le] at c c2
  simp at c c2 hp
  omega
theorem sx_isClass_T {j : Nat} (hj : j < 4) (h : Q (some (.int 1)) w) : Ct sc (d + 1) 154 [.int (nI j)] w Q := by
  refine Ct_run 40 (fun _ => ?_)
  refine ⟨fun c => absurd c (nI_pos (by omega)), fun _ => ⟨fun c => ?_, fun _ => ⟨Or.inr rfl, h⟩⟩⟩
  first
    | exact absurd c (nI_ge (b := 4) hj (by omega))
    | exact absurd c (nI_nlt (a := 3) (by omega) (by omega))
theorem sx_isClass_F {p : Int32} (hp : ¬ (0 ≤ p.toInt ∧ p.toInt < (4 : Nat))) (h : Q (some (.int 0)) w) : Ct sc (d + 1) 154 [.int p] w Q := by
  refine Ct_run 40 (fun _ => ?_)
  refine ⟨fun c => ⟨Or.inl rfl, h⟩, fun c => ⟨fun _ => ⟨Or.inl rfl, h⟩, fun c2 => ?_⟩⟩
  exfalso
  simp only [Int32.lt_iff_toInt_lt, Int32.le_iff_toInt_le] at c c2
  simp at c c2 hp
  omega
theorem sx_isClub_T {j : Nat} (hj : j < 4) (h : Q (some (.int 1)) w) : Ct sc (d + 1) 162 [.int (nI j)] w Q := by
  refine Ct_run 40 (fun _ => ?_)
  refine ⟨fun c => absurd c (nI_pos (by omega)), fun _ => ⟨fun c => ?_, fun _ => ⟨Or.inr rfl, h⟩⟩⟩
  first
    | exact absurd c (nI_ge (b := 4) hj (by omega))
    | exact absurd c (nI_nlt (a := 3) (by omega) (by omega))
theorem sx_isClub_F {p : Int32} (hp : ¬ (0 ≤ p.toInt ∧ p.toInt < (4 : Nat))) (h : Q (some (.int 0)) w) : Ct sc (d + 1) 162 [.int p] w Q := by
  refine Ct_run 40 (fun _ => ?_)
  refine ⟨fun c => ⟨Or.inl rfl, h⟩, fun c => ⟨fun _ => ⟨Or.inl rfl, h⟩, fun c2 => ?_⟩⟩
  exfalso
  simp only [Int32.lt_iff_toInt_lt, Int32.le_iff_toInt_le] at c c2
  simp at c c2 hp
  omega
theorem sx_isYear_T {j : Nat} (hj : j < 1000) (h : Q (some (.int 1)) w) : Ct sc (d + 1) 160 [.int (nI j)] w Q := by
  refine Ct_run 40 (fun _ => ?_)
  refine ⟨fun c => absurd c (nI_pos (by omega)), fun _ => ⟨fun c => ?_, fun _ => ⟨Or.inr rfl, h⟩⟩⟩
  first
    | exact absurd c (nI_ge (b := 1000) hj (by omega))
    | exact absurd c (nI_nlt (a := 999) (by omega) (by omega))
theorem sx_isYear_F {p : Int32} (hp : ¬ (0 ≤ p.toInt ∧ p.toInt < (1000 : Nat))) (h : Q (some (.int 0)) w) : Ct sc (d + 1) 160 [.int p] w Q := by
  refine Ct_run 40 (fun _ => ?_)
  refine ⟨fun c => ⟨Or.inl rfl, h⟩, fun c => ⟨fun _ => ⟨Or.inl rfl, h⟩, fun c2 => ?_⟩⟩
  exfalso
  simp only [Int32.lt_iff_toInt_lt, Int32.le_iff_toInt_le] at c c2
  simp at c c2 hp
  omega
theorem sx_isTongue_T {j : Nat} (hj : j < 4) (h : Q (some (.int 1)) w) : Ct sc (d + 1) 147 [.int (nI j)] w Q := by
  refine Ct_run 40 (fun _ => ?_)
  refine ⟨fun c => absurd c (nI_pos (by omega)), fun _ => ⟨fun c => ?_, fun _ => ⟨Or.inr rfl, h⟩⟩⟩
  first
    | exact absurd c (nI_ge (b := 4) hj (by omega))
    | exact absurd c (nI_nlt (a := 3) (by omega) (by omega))
theorem sx_isTongue_F {p : Int32} (hp : ¬ (0 ≤ p.toInt ∧ p.toInt < (4 : Nat))) (h : Q (some (.int 0)) w) : Ct sc (d + 1) 147 [.int p] w Q := by
  refine Ct_run 40 (fun _ => ?_)
  refine ⟨fun c => ⟨Or.inl rfl, h⟩, fun c => ⟨fun _ => ⟨Or.inl rfl, h⟩, fun c2 => ?_⟩⟩
  exfalso
  simp only [Int32.lt_iff_toInt_lt, Int32.le_iff_toInt_le] at c c2
  simp at c c2 hp
  omega
theorem sx_isPost_T {j : Nat} (hj : j < 10) (h : Q (some (.int 1)) w) : Ct sc (d + 1) 84 [.int (nI j)] w Q := by
  refine Ct_run 40 (fun _ => ?_)
  refine ⟨fun c => absurd c (nI_pos (by omega)), fun _ => ⟨fun c => ?_, fun _ => ⟨Or.inr rfl, h⟩⟩⟩
  first
    | exact absurd c (nI_ge (b := 10) hj (by omega))
    | exact absurd c (nI_nlt (a := 9) (by omega) (by omega))
theorem sx_isPost_F {p : Int32} (hp : ¬ (0 ≤ p.toInt ∧ p.toInt < (10 : Nat))) (h : Q (some (.int 0)) w) : Ct sc (d + 1) 84 [.int p] w Q := by
  refine Ct_run 40 (fun _ => ?_)
  refine ⟨fun c => ⟨Or.inl rfl, h⟩, fun c => ⟨fun _ => ⟨Or.inl rfl, h⟩, fun c2 => ?_⟩⟩
  exfalso
  simp only [Int32.lt_iff_toInt_lt, Int32.le_iff_toInt_le] at c c2
  simp at c c2 hp
  omega
theorem sx_isFeatures_T {j : Nat} (hj : j < 16) (h : Q (some (.int 1)) w) : Ct sc (d + 1) 41 [.int (nI j)] w Q := by
  refine Ct_run 40 (fun _ => ?_)
  refine ⟨fun c => absurd c (nI_pos (by omega)), fun _ => ⟨fun c => ?_, fun _ => ⟨Or.inr rfl, h⟩⟩⟩
  first
    | exact absurd c (nI_ge (b := 16) hj (by omega))
    | exact absurd c (nI_nlt (a := 15) (by omega) (by omega))
theorem sx_isFeatures_F {p : Int32} (hp : ¬ (0 ≤ p.toInt ∧ p.toInt < (16 : Nat))) (h : Q (some (.int 0)) w) : Ct sc (d + 1) 41 [.int p] w Q := by
  refine Ct_run 40 (fun _ => ?_)
  refine ⟨fun c => ⟨Or.inl rfl, h⟩, fun c => ⟨fun _ => ⟨Or.inl rfl, h⟩, fun c2 => ?_⟩⟩
  exfalso
  simp only [Int32.lt_iff_toInt_lt, Int32.le_iff_toInt_le] at c c2
  simp at c c2 hp
  omega
theorem sx_isWorld_T {j : Nat} (hj : j < 969) (h : Q (some (.int 1)) w) : Ct sc (d + 1) 42 [.int (nI j)] w Q := by
  refine Ct_run 40 (fun _ => ?_)
  refine ⟨fun c => absurd c (nI_pos (by omega)), fun _ => ⟨fun c => ?_, fun _ => ⟨Or.inr rfl, h⟩⟩⟩
  first
    | exact absurd c (nI_ge (b := 969) hj (by omega))
    | exact absurd c (nI_nlt (a := 968) (by omega) (by omega))
theorem sx_isWorld_F {p : Int32} (hp : ¬ (0 ≤ p.toInt ∧ p.toInt < (969 : Nat))) (h : Q (some (.int 0)) w) : Ct sc (d + 1) 42 [.int p] w Q := by
  refine Ct_run 40 (fun _ => ?_)
  refine ⟨fun c => ⟨Or.inl rfl, h⟩, fun c => ⟨fun _ => ⟨Or.inl rfl, h⟩, fun c2 => ?_⟩⟩
  exfalso
  simp only [Int32.lt_iff_toInt_lt, Int32.le_iff_toInt_le] at c c2
  simp at c c2 hp
  omega
theorem sm_noSheet_T {j : Nat} (hj : j < 4) (h : Q (some (.int 0)) w) : Ct sc (d + 2) 233 [.int (nI j)] w Q := by
  refine Ct_run 40 (fun _ => ?_)
  refine And.intro (s_in_T ?_ ?_ ?_) trivial
  · rw [nI_toInt (by omega), lkT2]; omega
  · rw [nI_toInt (by omega), lkT5]; omega
  · exact ⟨fun _ => ⟨Or.inl rfl, h⟩, fun c => absurd c (by decide)⟩
theorem sm_noSheet_F {p : Int32} (hp : ¬ (0 ≤ p.toInt ∧ p.toInt < (4 : Nat))) (h : Q (some (.int 1)) w) : Ct sc (d + 2) 233 [.int p] w Q := by
  refine Ct_run 40 (fun _ => ?_)
  refine And.intro (s_in_F (fun c => hp ?_) ?_) trivial
  · rw [lkT2, lkT5] at c
    have := c.1
    have := c.2
    omega
  · exact ⟨fun c => absurd c (by decide), fun _ => ⟨Or.inr rfl, h⟩⟩
theorem sm_isClass_T {j : Nat} (hj : j < 4) (h : Q (some (.int 1)) w) : Ct sc (d + 2) 231 [.int (nI j)] w Q := by
  refine Ct_run 40 (fun _ => ?_)
  refine And.intro (s_in_T ?_ ?_ ?_) trivial
  · rw [nI_toInt (by omega), lkT2]; omega
  · rw [nI_toInt (by omega), lkT5]; omega
  · exact ⟨Or.inr rfl, h⟩
theorem sm_isClass_F {p : Int32} (hp : ¬ (0 ≤ p.toInt ∧ p.toInt < (4 : Nat))) (h : Q (some (.int 0)) w) : Ct sc (d + 2) 231 [.int p] w Q := by
  refine Ct_run 40 (fun _ => ?_)
  refine And.intro (s_in_F (fun c => hp ?_) ?_) trivial
  · rw [lkT2, lkT5] at c
    have := c.1
    have := c.2
    omega
  · exact ⟨Or.inl rfl, h⟩
theorem sm_isClub_T {j : Nat} (hj : j < 4) (h : Q (some (.int 1)) w) : Ct sc (d + 2) 259 [.int (nI j)] w Q := by
  refine Ct_run 40 (fun _ => ?_)
  refine And.intro (s_in_T ?_ ?_ ?_) trivial
  · rw [nI_toInt (by omega), lkT2]; omega
  · rw [nI_toInt (by omega), lkT5]; omega
  · exact ⟨Or.inr rfl, h⟩
theorem sm_isClub_F {p : Int32} (hp : ¬ (0 ≤ p.toInt ∧ p.toInt < (4 : Nat))) (h : Q (some (.int 0)) w) : Ct sc (d + 2) 259 [.int p] w Q := by
  refine Ct_run 40 (fun _ => ?_)
  refine And.intro (s_in_F (fun c => hp ?_) ?_) trivial
  · rw [lkT2, lkT5] at c
    have := c.1
    have := c.2
    omega
  · exact ⟨Or.inl rfl, h⟩
theorem sm_noPost_T {j : Nat} (hj : j < 10) (h : Q (some (.int 0)) w) : Ct sc (d + 2) 311 [.int (nI j)] w Q := by
  refine Ct_run 40 (fun _ => ?_)
  refine And.intro (s_in_T ?_ ?_ ?_) trivial
  · rw [nI_toInt (by omega), lkT2]; omega
  · rw [nI_toInt (by omega), lkT9]; omega
  · exact ⟨fun _ => ⟨Or.inl rfl, h⟩, fun c => absurd c (by decide)⟩
theorem sm_noPost_F {p : Int32} (hp : ¬ (0 ≤ p.toInt ∧ p.toInt < (10 : Nat))) (h : Q (some (.int 1)) w) : Ct sc (d + 2) 311 [.int p] w Q := by
  refine Ct_run 40 (fun _ => ?_)
  refine And.intro (s_in_F (fun c => hp ?_) ?_) trivial
  · rw [lkT2, lkT9] at c
    have := c.1
    have := c.2
    omega
  · exact ⟨fun c => absurd c (by decide), fun _ => ⟨Or.inr rfl, h⟩⟩
end
