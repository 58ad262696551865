abbrev wd (A : Nat → Nat → Int32) (L : Nat → Nat → Int64) (I : Nat → Nat → Int32) (J : Nat → Nat → Int64) : Wd := (120, A, L, I, J, rfc)
/-- a number within bounds -/
def iR (lo hi : Int) (x : Int32) : Prop := lo ≤ x.toInt ∧ x.toInt ≤ hi
theorem lkT0 : (lkc 0).toInt = -9223372036854775808 := by decide
theorem lkT1 : (lkc 1).toInt = -1 := by decide
theorem lkT2 : (lkc 2).toInt = 0 := by decide
theorem lkT3 : (lkc 3).toInt = 1 := by decide
theorem lkT4 : (lkc 4).toInt = 2 := by decide
theorem lkT5 : (lkc 5).toInt = 3 := by decide
theorem lkT6 : (lkc 6).toInt = 4 := by decide
theorem lkT7 : (lkc 7).toInt = 5 := by decide
theorem lkT8 : (lkc 8).toInt = 7 := by decide
theorem lkT9 : (lkc 9).toInt = 9 := by decide
theorem lkT10 : (lkc 10).toInt = 10 := by decide
theorem lkT11 : (lkc 11).toInt = 11 := by decide
theorem lkT12 : (lkc 12).toInt = 15 := by decide
theorem lkT13 : (lkc 13).toInt = 19 := by decide
theorem lkT14 : (lkc 14).toInt = 20 := by decide
theorem lkT15 : (lkc 15).toInt = 26 := by decide
theorem lkT16 : (lkc 16).toInt = 99 := by decide
theorem lkT17 : (lkc 17).toInt = 968 := by decide
theorem lkT18 : (lkc 18).toInt = 999 := by decide
theorem lkT19 : (lkc 19).toInt = 1023 := by decide
theorem lkT20 : (lkc 20).toInt = 1152921504606846976 := by decide
theorem lg_lt0 (x y : Int64) : lg_cmp x y < 0 ↔ x.toInt < y.toInt := by
  unfold lg_cmp
  simp only [gt_iff_lt, Int64.lt_iff_toInt_lt, ← Int64.toInt_inj]
  split
  · constructor
    · intro h; exact absurd h (by decide)
    · intro h; omega
  · split
    · constructor
      · intro h; exact absurd h (by decide)
      · intro h; omega
    · constructor
      · intro _; omega
      · intro _; decide
theorem lg_gt0 (x y : Int64) : 0 < lg_cmp x y ↔ y.toInt < x.toInt := by
  unfold lg_cmp
  simp only [gt_iff_lt, Int64.lt_iff_toInt_lt, ← Int64.toInt_inj]
  split
  · constructor
    · intro _; assumption
    · intro _; decide
  · split
    · constructor
      · intro h; exact absurd h (by decide)
      · intro h; omega
    · constructor
      · intro h; exact absurd h (by decide)
      · intro h; omega
theorem lg_le0 (x y : Int64) : lg_cmp x y ≤ 0 ↔ x.toInt ≤ y.toInt := by
  unfold lg_cmp
  simp only [gt_iff_lt, Int64.lt_iff_toInt_lt, ← Int64.toInt_inj]
  split
  · constructor
    · intro h; exact absurd h (by decide)
    · intro h; omega
  · split
    · constructor
      · intro _; omega
      · intro _; decide
    · constructor
      · intro _; omega
      · intro _; decide
theorem lg_ge0 (x y : Int64) : 0 ≤ lg_cmp x y ↔ y.toInt ≤ x.toInt := by
  unfold lg_cmp
  simp only [gt_iff_lt, Int64.lt_iff_toInt_lt, ← Int64.toInt_inj]
  split
  · constructor
    · intro _; omega
    · intro _; decide
  · split
    · constructor
      · intro _; omega
      · intro _; decide
    · constructor
      · intro h; exact absurd h (by decide)
      · intro h; omega
section
variable {sc : Sc} {d : Nat} {w : Wd} {Q : Option Value → Wd → Prop}
theorem s_in (v lo hi : Int64) (hT : lo.toInt ≤ v.toInt → v.toInt ≤ hi.toInt → Q (some (.int 1)) w) (hF : ¬ (lo.toInt ≤ v.toInt ∧ v.toInt ≤ hi.toInt) → Q (some (.int 0)) w) : Ct sc (d + 1) 219 [.long v, .long lo, .long hi] w Q := by
  intro K hK
  refine am_go hK sp0 40 ?_
  refine ⟨fun c => ⟨Or.inl rfl, hF ?_⟩, fun c => ⟨fun c2 => ⟨Or.inl rfl, hF ?_⟩, fun c2 => ⟨Or.inr rfl, hT ?_ ?_⟩⟩⟩
  · rw [lg_lt0] at c; omega
  · rw [lg_gt0] at c2; omega
  · rw [lg_lt0] at c; omega
  · rw [lg_gt0] at c2; omega
end
abbrev St (α : Type) : Type := (Nat → Nat → Int32) → (Nat → Nat → Int64) → (Nat → Nat → Int32) → (Nat → Nat → Int64) → α
/-- class and reference, one call behind the other: they answer alike, and R holds behind them -/
def PairI (sc : Sc) (d yx ym : Nat) (av : List Value) (A : Nat → Nat → Int32) (L : Nat → Nat → Int64) (I : Nat → Nat → Int32) (J : Nat → Nat → Int64) (R : St Prop) : Prop :=
  Ct sc d yx (.ref 1 :: av) (wd A L I J) (fun v w => ∃ r : Int32, v = some (.int r) ∧ Ct sc d ym (.ref 64 :: av) w (fun v' w' => v' = some (.int r) ∧ ∃ A' L' I' J', w' = wd A' L' I' J' ∧ R A' L' I' J'))
def PairL (sc : Sc) (d yx ym : Nat) (av : List Value) (A : Nat → Nat → Int32) (L : Nat → Nat → Int64) (I : Nat → Nat → Int32) (J : Nat → Nat → Int64) (R : St Prop) : Prop :=
  Ct sc d yx (.ref 1 :: av) (wd A L I J) (fun v w => ∃ r : Int64, v = some (.long r) ∧ Ct sc d ym (.ref 64 :: av) w (fun v' w' => v' = some (.long r) ∧ ∃ A' L' I' J', w' = wd A' L' I' J' ∧ R A' L' I' J'))
/-- a call whose code runs through without a loop -/
theorem Ct_run {sc : Sc} {d y : Nat} {av : List Value} {w : Wd} {Q : Option Value → Wd → Prop} (n : Nat) (h : ∀ K : Kt, am_run sc (Ct sc d) y Q K sp0 n 0 (q_pad (mxl y) (q_ent av)) [] w 0 0) : Ct sc (d + 1) y av w Q := fun K hK => am_go hK sp0 n (h K)
theorem vi {a b : Int32} (h : a = b) : some (Value.int a) = some (Value.int b) := by rw [h]
theorem i_pm (x : Int32) : x + 1 - 1 = x := by simp
/-- a number is one of the first n, or none of them -/
theorem rng (p : Int32) (n : Nat) (hn : n < 2 ^ 31) : (∃ j, j < n ∧ p = nI j) ∨ ¬ (0 ≤ p.toInt ∧ p.toInt < (n : Int)) := by
  by_cases h : 0 ≤ p.toInt ∧ p.toInt < (n : Int)
  · exact Or.inl (vp_in_of (vp_in_iff.mpr h) hn)
  · exact Or.inr h
theorem ln3 : ln 3 = 16 := rfl
theorem ln4 : ln 4 = 24 := rfl
theorem ln5 : ln 5 = 24 := rfl
theorem ln6 : ln 6 = 24 := rfl
theorem ln7 : ln 7 = 24 := rfl
theorem ln8 : ln 8 = 16 := rfl
theorem ln9 : ln 9 = 64 := rfl
theorem ln10 : ln 10 = 64 := rfl
theorem ln11 : ln 11 = 5 := rfl
theorem ln13 : ln 13 = 20 := rfl
theorem ln14 : ln 14 = 84 := rfl
theorem ln16 : ln 16 = 8 := rfl
theorem ln17 : ln 17 = 1728 := rfl
theorem ln19 : ln 19 = 240 := rfl
theorem ln20 : ln 20 = 4 := rfl
theorem ln21 : ln 21 = 4 := rfl
theorem ln23 : ln 23 = 44 := rfl
theorem ln24 : ln 24 = 11 := rfl
theorem ln25 : ln 25 = 10 := rfl
theorem ln26 : ln 26 = 10 := rfl
theorem ln27 : ln 27 = 10 := rfl
theorem ln28 : ln 28 = 16 := rfl
theorem ln30 : ln 30 = 64 := rfl
theorem ln31 : ln 31 = 64 := rfl
theorem ln32 : ln 32 = 120 := rfl
theorem ln33 : ln 33 = 10 := rfl
theorem ln34 : ln 34 = 969 := rfl
theorem ln35 : ln 35 = 2 := rfl
theorem ln36 : ln 36 = 8 := rfl
theorem ln37 : ln 37 = 2 := rfl
theorem ln39 : ln 39 = 12 := rfl
theorem ln40 : ln 40 = 12 := rfl
theorem ln41 : ln 41 = 192 := rfl
theorem ln42 : ln 42 = 192 := rfl
theorem ln43 : ln 43 = 6 := rfl
theorem ln44 : ln 44 = 6 := rfl
theorem ln46 : ln 46 = 4 := rfl
theorem ln47 : ln 47 = 4 := rfl
theorem ln48 : ln 48 = 4 := rfl
theorem ln49 : ln 49 = 4 := rfl
theorem ln50 : ln 50 = 144 := rfl
theorem ln52 : ln 52 = 16 := rfl
theorem ln53 : ln 53 = 16 := rfl
theorem ln54 : ln 54 = 16 := rfl
theorem ln55 : ln 55 = 16 := rfl
theorem ln57 : ln 57 = 6 := rfl
theorem ln58 : ln 58 = 6 := rfl
theorem ln59 : ln 59 = 6 := rfl
theorem ln60 : ln 60 = 3 := rfl
theorem ln61 : ln 61 = 3 := rfl
theorem ln63 : ln 63 = 10 := rfl
theorem ln65 : ln 65 = 16 := rfl
theorem ln66 : ln 66 = 16 := rfl
theorem ln67 : ln 67 = 16 := rfl
theorem ln68 : ln 68 = 64 := rfl
theorem ln69 : ln 69 = 16 := rfl
theorem ln70 : ln 70 = 16 := rfl
theorem ln71 : ln 71 = 8 := rfl
theorem ln72 : ln 72 = 8 := rfl
theorem ln73 : ln 73 = 8 := rfl
theorem ln74 : ln 74 = 32 := rfl
theorem ln75 : ln 75 = 10 := rfl
theorem ln76 : ln 76 = 10 := rfl
theorem ln77 : ln 77 = 10 := rfl
theorem ln78 : ln 78 = 10 := rfl
theorem ln79 : ln 79 = 40 := rfl
theorem ln80 : ln 80 = 40 := rfl
theorem ln81 : ln 81 = 40 := rfl
theorem ln82 : ln 82 = 5 := rfl
theorem ln83 : ln 83 = 5 := rfl
theorem ln84 : ln 84 = 5 := rfl
theorem ln85 : ln 85 = 20 := rfl
theorem ln86 : ln 86 = 84 := rfl
theorem ln87 : ln 87 = 12 := rfl
theorem ln88 : ln 88 = 64 := rfl
theorem ln89 : ln 89 = 64 := rfl
theorem ln90 : ln 90 = 10 := rfl
theorem ln91 : ln 91 = 40 := rfl
theorem ln92 : ln 92 = 40 := rfl
theorem ln93 : ln 93 = 40 := rfl
theorem ln94 : ln 94 = 3 := rfl
theorem ln95 : ln 95 = 12 := rfl
theorem ln96 : ln 96 = 64 := rfl
theorem ln97 : ln 97 = 256 := rfl
theorem ln98 : ln 98 = 12 := rfl
theorem ln99 : ln 99 = 192 := rfl
theorem ln100 : ln 100 = 192 := rfl
theorem ln101 : ln 101 = 4 := rfl
theorem ln102 : ln 102 = 4 := rfl
theorem ln103 : ln 103 = 25 := rfl
theorem ln104 : ln 104 = 6 := rfl
theorem ln105 : ln 105 = 6 := rfl
theorem ln106 : ln 106 = 6 := rfl
theorem ln107 : ln 107 = 4 := rfl
theorem ln108 : ln 108 = 4 := rfl
theorem ln109 : ln 109 = 4 := rfl
theorem ln110 : ln 110 = 4 := rfl
theorem ln111 : ln 111 = 144 := rfl
theorem ln112 : ln 112 = 8 := rfl
theorem ln113 : ln 113 = 8 := rfl
theorem ln114 : ln 114 = 6 := rfl
theorem ln115 : ln 115 = 10 := rfl
theorem ln116 : ln 116 = 10 := rfl
theorem ln117 : ln 117 = 4 := rfl
theorem ln118 : ln 118 = 4 := rfl
theorem ln119 : ln 119 = 240 := rfl
theorem ln120 : ln 120 = 60 := rfl
theorem tT {x : Int32} {n : Nat} (e : x = nI n) (h : n ≤ 100000) : x.toInt = (n : Int) := by rw [e]; exact nI_toInt (by omega)
theorem tC {x : Int32} {n : Nat} (e : x = nI n) (h : n ≤ 100000) : x.toNatClampNeg = n := by rw [e]; exact nI_clamp (by omega)
theorem t1 {x : Int32} {n : Nat} (e : x = nI n) : x + 1 = nI (n + 1) := by rw [e]; exact nI_1 n
theorem vq_nI {j N : Nat} (h : j < N) (hN : N ≤ 100000) : vq (nI j) N := by
  unfold vq
  rw [nI_toInt (by omega)]
  omega
theorem vq_e {x : Int32} {j N : Nat} (e : x = nI j) (h : j < N) (hN : N ≤ 100000) : vq x N := by rw [e]; exact vq_nI h hN
theorem nTm100 : Int32.toInt (-100) = -100 := by decide
theorem nTm10 : Int32.toInt (-10) = -10 := by decide
theorem nTm9 : Int32.toInt (-9) = -9 := by decide
theorem nTm8 : Int32.toInt (-8) = -8 := by decide
theorem nTm7 : Int32.toInt (-7) = -7 := by decide
theorem nTm6 : Int32.toInt (-6) = -6 := by decide
theorem nTm5 : Int32.toInt (-5) = -5 := by decide
theorem nTm4 : Int32.toInt (-4) = -4 := by decide
theorem nTm3 : Int32.toInt (-3) = -3 := by decide
theorem nTm2 : Int32.toInt (-2) = -2 := by decide
theorem nTm1 : Int32.toInt (-1) = -1 := by decide
theorem nT0 : Int32.toInt 0 = 0 := by decide
theorem nT1 : Int32.toInt 1 = 1 := by decide
theorem nT2 : Int32.toInt 2 = 2 := by decide
theorem nT3 : Int32.toInt 3 = 3 := by decide
theorem nT4 : Int32.toInt 4 = 4 := by decide
theorem nT5 : Int32.toInt 5 = 5 := by decide
theorem nT6 : Int32.toInt 6 = 6 := by decide
theorem nT7 : Int32.toInt 7 = 7 := by decide
theorem nT8 : Int32.toInt 8 = 8 := by decide
theorem nT9 : Int32.toInt 9 = 9 := by decide
theorem nT10 : Int32.toInt 10 = 10 := by decide
theorem nT11 : Int32.toInt 11 = 11 := by decide
theorem nT12 : Int32.toInt 12 = 12 := by decide
theorem nT13 : Int32.toInt 13 = 13 := by decide
theorem nT14 : Int32.toInt 14 = 14 := by decide
theorem nT15 : Int32.toInt 15 = 15 := by decide
theorem nT16 : Int32.toInt 16 = 16 := by decide
theorem nT17 : Int32.toInt 17 = 17 := by decide
theorem nT18 : Int32.toInt 18 = 18 := by decide
theorem nT19 : Int32.toInt 19 = 19 := by decide
theorem nT20 : Int32.toInt 20 = 20 := by decide
theorem nT24 : Int32.toInt 24 = 24 := by decide
theorem nT25 : Int32.toInt 25 = 25 := by decide
theorem nT26 : Int32.toInt 26 = 26 := by decide
theorem nT28 : Int32.toInt 28 = 28 := by decide
theorem nT30 : Int32.toInt 30 = 30 := by decide
theorem nT31 : Int32.toInt 31 = 31 := by decide
theorem nT32 : Int32.toInt 32 = 32 := by decide
theorem nT33 : Int32.toInt 33 = 33 := by decide
theorem nT40 : Int32.toInt 40 = 40 := by decide
theorem nT43 : Int32.toInt 43 = 43 := by decide
theorem nT44 : Int32.toInt 44 = 44 := by decide
theorem nT60 : Int32.toInt 60 = 60 := by decide
theorem nT63 : Int32.toInt 63 = 63 := by decide
theorem nT64 : Int32.toInt 64 = 64 := by decide
theorem nT70 : Int32.toInt 70 = 70 := by decide
theorem nT84 : Int32.toInt 84 = 84 := by decide
theorem nT97 : Int32.toInt 97 = 97 := by decide
theorem nT99 : Int32.toInt 99 = 99 := by decide
theorem nT100 : Int32.toInt 100 = 100 := by decide
theorem nT110 : Int32.toInt 110 = 110 := by decide
theorem nT111 : Int32.toInt 111 = 111 := by decide
theorem nT118 : Int32.toInt 118 = 118 := by decide
theorem nT120 : Int32.toInt 120 = 120 := by decide
theorem nT144 : Int32.toInt 144 = 144 := by decide
theorem nT153 : Int32.toInt 153 = 153 := by decide
theorem nT192 : Int32.toInt 192 = 192 := by decide
theorem nT240 : Int32.toInt 240 = 240 := by decide
theorem nT256 : Int32.toInt 256 = 256 := by decide
theorem nT969 : Int32.toInt 969 = 969 := by decide
theorem nT999 : Int32.toInt 999 = 999 := by decide
theorem nT1000 : Int32.toInt 1000 = 1000 := by decide
theorem nT1024 : Int32.toInt 1024 = 1024 := by decide
theorem nT14400 : Int32.toInt 14400 = 14400 := by decide
theorem nT65535 : Int32.toInt 65535 = 65535 := by decide
theorem nT1000000 : Int32.toInt 1000000 = 1000000 := by decide
theorem nT1048575 : Int32.toInt 1048575 = 1048575 := by decide
theorem nT252645135 : Int32.toInt 252645135 = 252645135 := by decide
theorem nT858993459 : Int32.toInt 858993459 = 858993459 := by decide
theorem nT1431655765 : Int32.toInt 1431655765 = 1431655765 := by decide
