set_option maxRecDepth 100000 in
theorem sh5 : ∀ n, n ≤ 16 → (((nI n).toUInt32 &&& Int32.toUInt32 31).toBitVec % 32).toNat = n := by decide
set_option maxRecDepth 100000 in
theorem sh6 : ∀ n, n ≤ 16 → (lkc 3 <<< ((nI n).toInt64 &&& 63) - lkc 3).toInt = 2 ^ n - 1 := by decide
theorem bvI (x : Int32) : x = nI x.toBitVec.toNat := by
  unfold nI
  apply Int32.toBitVec_inj.mp
  simp [Int32.ofNat]
theorem set_in {x : Int32} {n : Nat} (hn : n ≤ 16) : (0 ≤ x.toInt ∧ x.toInt < ((2 ^ n : Nat) : Int)) ↔ x.toBitVec.toNat < 2 ^ n := by
  have h16 : 2 ^ n ≤ 2 ^ 16 := Nat.pow_le_pow_right (by omega) hn
  have hx : x.toInt = x.toBitVec.toInt := rfl
  have hlt := x.toBitVec.isLt
  rw [hx, BitVec.toInt_eq_toNat_cond]
  split <;> omega
section
variable {sc : Sc} {d : Nat} {A : Nat → Nat → Int32} {L : Nat → Nat → Int64} {I : Nat → Nat → Int32} {J : Nat → Nat → Int64} {R : St Prop} {Q : Option Value → Wd → Prop} {n : Nat}
theorem sx_persons_T {s : Nat} (e : I 38 6 = nI n) (hn : n ≤ 12) (hs : s < 2 ^ n) (h : Q (some (.int 1)) (wd A L I J)) : Ct sc (d + 1) 62 [.ref 38, .int (nI s)] (wd A L I J) Q := by
  have h16 : 2 ^ n ≤ 2 ^ 12 := Nat.pow_le_pow_right (by omega) hn
  refine Ct_run 40 (fun _ => ?_)
  have hv : ((nI s).toUInt32 >>> ((I 38 6).toUInt32 &&& Int32.toUInt32 31)).toInt32 = 0 := by
    rw [e, pk_ushrN (by omega) (nI n) n (sh5 n (by omega)), Nat.div_eq_of_lt hs]; rfl
  refine ⟨fun c => absurd hv c, fun _ => ⟨Or.inr rfl, h⟩⟩
theorem sx_persons_F {x : Int32} (e : I 38 6 = nI n) (hn : n ≤ 12) (hs : ¬ (0 ≤ x.toInt ∧ x.toInt < ((2 ^ n : Nat) : Int))) (h : Q (some (.int 0)) (wd A L I J)) : Ct sc (d + 1) 62 [.ref 38, .int x] (wd A L I J) Q := by
  rw [set_in (by omega)] at hs
  refine Ct_run 40 (fun _ => ?_)
  refine ⟨fun _ => ⟨Or.inl rfl, h⟩, fun c => ?_⟩
  exfalso
  have c : (x.toUInt32 >>> ((I 38 6).toUInt32 &&& Int32.toUInt32 31)).toInt32 = 0 := c
  have h2 := pk_ushr x (nI n) n (sh5 n (by omega))
  rw [e] at c
  rw [c] at h2
  have h3 : (0 : Int32).toBitVec.toNat = 0 := rfl
  rw [h3] at h2
  have := Nat.div_eq_zero_iff.mp h2.symm
  have : 0 < 2 ^ n := Nat.two_pow_pos n
  omega
theorem sm_persons_T {s : Nat} (e : I 64 42 = nI n) (hn : n ≤ 12) (hs : s < 2 ^ n) (h : Q (some (.int 1)) (wd A L I J)) : Ct sc (d + 2) 273 [.ref 64, .int (nI s)] (wd A L I J) Q := by
  have h16 : 2 ^ n ≤ 2 ^ 12 := Nat.pow_le_pow_right (by omega) hn
  refine Ct_run 40 (fun _ => ?_)
  refine And.intro (s_in_T ?_ ?_ ⟨Or.inr rfl, h⟩) trivial
  · rw [nI_toInt (by omega), lkT2]; omega
  · show _ ≤ (lkc 3 <<< ((I 64 42).toInt64 &&& 63) - lkc 3).toInt
    rw [e, sh6 n (by omega), nI_toInt (by omega)]
    have : ((2 ^ n : Nat) : Int) = 2 ^ n := by simp
    omega
theorem sm_persons_F {x : Int32} (e : I 64 42 = nI n) (hn : n ≤ 12) (hs : ¬ (0 ≤ x.toInt ∧ x.toInt < ((2 ^ n : Nat) : Int))) (h : Q (some (.int 0)) (wd A L I J)) : Ct sc (d + 2) 273 [.ref 64, .int x] (wd A L I J) Q := by
  refine Ct_run 40 (fun _ => ?_)
  refine And.intro (s_in_F (fun c => hs ?_) ⟨Or.inl rfl, h⟩) trivial
  have c2 : x.toInt ≤ (lkc 3 <<< ((I 64 42).toInt64 &&& 63) - lkc 3).toInt := c.2
  have c1 := c.1
  rw [lkT2] at c1
  rw [e, sh6 n (by omega)] at c2
  have : ((2 ^ n : Nat) : Int) = 2 ^ n := by simp
  omega
end
