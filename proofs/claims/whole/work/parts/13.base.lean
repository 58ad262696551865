abbrev wd (A : Nat → Nat → Int32) (L : Nat → Nat → Int64) (I : Nat → Nat → Int32) (J : Nat → Nat → Int64) : Wd := (120, A, L, I, J, rfc)
/-- a number within bounds -/
def iR (lo hi : Int) (x : Int32) : Prop := lo ≤ x.toInt ∧ x.toInt ≤ hi
theorem lkT0 : (lkc 0).toInt = -9223372036854775808 := by decide
theorem lkT1 : (lkc 1).toInt = -1 := by decide
theorem lkT2 : (lkc 2).toInt = 0 := by decide
theorem lkT3 : (lkc 3).toInt = 1 := by decide
theorem lkT4 : (lkc 4).toInt = 2 := by decide
theorem lkT5 : (lkc 5).toInt = 3 := by decide
theorem lkT6 : (lkc 6).toInt = 4 := by decide
theorem lkT7 : (lkc 7).toInt = 5 := by decide
theorem lkT8 : (lkc 8).toInt = 7 := by decide
theorem lkT9 : (lkc 9).toInt = 9 := by decide
theorem lkT10 : (lkc 10).toInt = 10 := by decide
theorem lkT11 : (lkc 11).toInt = 11 := by decide
theorem lkT12 : (lkc 12).toInt = 15 := by decide
theorem lkT13 : (lkc 13).toInt = 19 := by decide
theorem lkT14 : (lkc 14).toInt = 20 := by decide
theorem lkT15 : (lkc 15).toInt = 26 := by decide
theorem lkT16 : (lkc 16).toInt = 99 := by decide
theorem lkT17 : (lkc 17).toInt = 968 := by decide
theorem lkT18 : (lkc 18).toInt = 999 := by decide
theorem lkT19 : (lkc 19).toInt = 1023 := by decide
theorem lkT20 : (lkc 20).toInt = 1152921504606846976 := by decide
theorem lg_lt0 (x y : Int64) : lg_cmp x y < 0 ↔ x.toInt < y.toInt := by
  unfold lg_cmp
  simp only [gt_iff_lt, Int64.lt_iff_toInt_lt, ← Int64.toInt_inj]
  split
  · constructor
    · intro h; exact absurd h (by decide)
    · intro h; omega
  · split
    · constructor
      · intro h; exact absurd h (by decide)
      · intro h; omega
    · constructor
      · intro _; omega
      · intro _; decide
theorem lg_gt0 (x y : Int64) : 0 < lg_cmp x y ↔ y.toInt < x.toInt := by
  unfold lg_cmp
  simp only [gt_iff_lt, Int64.lt_iff_toInt_lt, ← Int64.toInt_inj]
  split
  · constructor
    · intro _; assumption
    · intro _; decide
  · split
    · constructor
      · intro h; exact absurd h (by decide)
      · intro h; omega
    · constructor
      · intro h; exact absurd h (by decide)
      · intro h; omega
theorem lg_le0 (x y : Int64) : lg_cmp x y ≤ 0 ↔ x.toInt ≤ y.toInt := by
  unfold lg_cmp
  simp only [gt_iff_lt, Int64.lt_iff_toInt_lt, ← Int64.toInt_inj]
  split
  · constructor
    · intro h; exact absurd h (by decide)
    · intro h; omega
  · split
    · constructor
      · intro _; omega
      · intro _; decide
    · constructor
      · intro _; omega
      · intro _; decide
theorem lg_ge0 (x y : Int64) : 0 ≤ lg_cmp x y ↔ y.toInt ≤ x.toInt := by
  unfold lg_cmp
  simp only [gt_iff_lt, Int64.lt_iff_toInt_lt, ← Int64.toInt_inj]
  split
  · constructor
    · intro _; omega
    · intro _; decide
  · split
    · constructor
      · intro _; omega
      · intro _; decide
    · constructor
      · intro h; exact absurd h (by decide)
      · intro h; omega
section
variable {sc : Sc} {d : Nat} {w : Wd} {Q : Option Value → Wd → Prop}
theorem s_in (v lo hi : Int64) (hT : lo.toInt ≤ v.toInt → v.toInt ≤ hi.toInt → Q (some (.int 1)) w) (hF : ¬ (lo.toInt ≤ v.toInt ∧ v.toInt ≤ hi.toInt) → Q (some (.int 0)) w) : Ct sc (d + 1) 219 [.long v, .long lo, .long hi] w Q := by
  intro K hK
  refine am_go hK sp0 40 ?_
  refine ⟨fun c => ⟨Or.inl rfl, hF ?_⟩, fun c => ⟨fun c2 => ⟨Or.inl rfl, hF ?_⟩, fun c2 => ⟨Or.inr rfl, hT ?_ ?_⟩⟩⟩
  · rw [lg_lt0] at c; omega
  · rw [lg_gt0] at c2; omega
  · rw [lg_lt0] at c; omega
  · rw [lg_gt0] at c2; omega
end
abbrev St (α : Type) : Type := (Nat → Nat → Int32) → (Nat → Nat → Int64) → (Nat → Nat → Int32) → (Nat → Nat → Int64) → α
/-- class and reference, one call behind the other: they answer alike, and R holds behind them -/
def PairI (sc : Sc) (d yx ym : Nat) (av : List Value) (A : Nat → Nat → Int32) (L : Nat → Nat → Int64) (I : Nat → Nat → Int32) (J : Nat → Nat → Int64) (R : St Prop) : Prop :=
  Ct sc d yx (.ref 1 :: av) (wd A L I J) (fun v w => ∃ r : Int32, v = some (.int r) ∧ Ct sc d ym (.ref 64 :: av) w (fun v' w' => v' = some (.int r) ∧ ∃ A' L' I' J', w' = wd A' L' I' J' ∧ R A' L' I' J'))
def PairL (sc : Sc) (d yx ym : Nat) (av : List Value) (A : Nat → Nat → Int32) (L : Nat → Nat → Int64) (I : Nat → Nat → Int32) (J : Nat → Nat → Int64) (R : St Prop) : Prop :=
  Ct sc d yx (.ref 1 :: av) (wd A L I J) (fun v w => ∃ r : Int64, v = some (.long r) ∧ Ct sc d ym (.ref 64 :: av) w (fun v' w' => v' = some (.long r) ∧ ∃ A' L' I' J', w' = wd A' L' I' J' ∧ R A' L' I' J'))
/-- a call whose code runs through without a loop -/
theorem Ct_run {sc : Sc} {d y : Nat} {av : List Value} {w : Wd} {Q : Option Value → Wd → Prop} (n : Nat) (h : ∀ K : Kt, am_run sc (Ct sc d) y Q K sp0 n 0 (q_pad (mxl y) (q_ent av)) [] w 0 0) : Ct sc (d + 1) y av w Q := fun K hK => am_go hK sp0 n (h K)
theorem vi {a b : Int32} (h : a = b) : some (Value.int a) = some (Value.int b) := by rw [h]
theorem i_pm (x : Int32) : x + 1 - 1 = x := by simp
/-- a number is one of the first n, or none of them -/
theorem rng (p : Int32) (n : Nat) (hn : n < 2 ^ 31) : (∃ j, j < n ∧ p = nI j) ∨ ¬ (0 ≤ p.toInt ∧ p.toInt < (n : Int)) := by
  by_cases h : 0 ≤ p.toInt ∧ p.toInt < (n : Int)
  · exact Or.inl (vp_in_of (vp_in_iff.mpr h) hn)
  · exact Or.inr h
