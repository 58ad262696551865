/-- letters as one number, five bits each, the first highest -/
def cdN (g : Nat → Nat) : Nat → Nat
  | 0 => 0
  | k + 1 => cdN g k + g k * 32 ^ (3 - k)
theorem nI_or (a b : Nat) : nI a ||| nI b = nI (a ||| b) := by
  apply Int32.toBitVec_inj.mp
  show BitVec.ofNat 32 a ||| BitVec.ofNat 32 b = BitVec.ofNat 32 (a ||| b)
  exact (BitVec.ofNat_or ..).symm
theorem cd_step {g : Nat → Nat} {k : Nat} (hk : k < 4) (hg : ∀ j, j ≤ k → g j < 32) : nI (cdN g k) ||| (nI (g k) <<< (nI ((3 - k) * 5) &&& 31)) = nI (cdN g (k + 1)) := by
  have h0 := hg k (by omega)
  have hsh : nI (g k) <<< (nI ((3 - k) * 5) &&& 31) = nI (g k * 32 ^ (3 - k)) := by
    rw [pk_shlN _ ((3 - k) * 5) (sm32 _ (by omega)) ?_]
    · congr 2
      rw [show (32 : Nat) = 2 ^ 5 from rfl, ← Nat.pow_mul, Nat.mul_comm 5]
    · have : 2 ^ ((3 - k) * 5) ≤ 2 ^ 15 := Nat.pow_le_pow_right (by omega) (by omega)
      have h2 : g k * 2 ^ ((3 - k) * 5) ≤ 32 * 2 ^ 15 := Nat.mul_le_mul (by omega) this
      omega
  rw [hsh, nI_or]
  congr 1
  show _ = cdN g k + g k * 32 ^ (3 - k)
  have hlt : g k * 32 ^ (3 - k) < 2 ^ ((4 - k) * 5) := by
    rw [show (4 - k) * 5 = 5 + (3 - k) * 5 by omega, Nat.pow_add, show (32 : Nat) ^ (3 - k) = 2 ^ ((3 - k) * 5) by rw [show (32 : Nat) = 2 ^ 5 from rfl, ← Nat.pow_mul, Nat.mul_comm 5]]
    exact Nat.mul_lt_mul_of_pos_right (by omega) (Nat.two_pow_pos _)
  have hdiv : ∃ c, cdN g k = 2 ^ ((4 - k) * 5) * c := by
    rcases (show k = 0 ∨ k = 1 ∨ k = 2 ∨ k = 3 by omega) with rfl | rfl | rfl | rfl
    · exact ⟨0, rfl⟩
    · exact ⟨g 0, by simp [cdN]; omega⟩
    · exact ⟨g 0 * 32 + g 1, by simp [cdN]; omega⟩
    · exact ⟨g 0 * 1024 + g 1 * 32 + g 2, by simp [cdN]; omega⟩
  obtain ⟨c, hc⟩ := hdiv
  rw [hc]
  exact (Nat.two_pow_add_eq_or_of_lt hlt c).symm
theorem cd_bound {g : Nat → Nat} {m : Nat} (hm : m ≤ 4) (hg : ∀ j, j < m → g j < 32) : cdN g m < 1048576 := by
  rcases (show m = 0 ∨ m = 1 ∨ m = 2 ∨ m = 3 ∨ m = 4 by omega) with rfl | rfl | rfl | rfl | rfl
  · simp [cdN]
  · have := hg 0 (by omega); simp [cdN]; omega
  · have := hg 0 (by omega); have := hg 1 (by omega); simp [cdN]; omega
  · have := hg 0 (by omega); have := hg 1 (by omega); have := hg 2 (by omega); simp [cdN]; omega
  · have := hg 0 (by omega); have := hg 1 (by omega); have := hg 2 (by omega); have := hg 3 (by omega); simp [cdN]; omega
/-- the letter at a place of a code; 0 behind the last -/
theorem cd_at {g : Nat → Nat} {m p : Nat} (hm : m ≤ 4) (hp : p < 4) (hg : ∀ j, j < m → g j < 32) : cdN g m / 32 ^ (3 - p) % 32 = if p < m then g p else 0 := by
  rcases (show m = 0 ∨ m = 1 ∨ m = 2 ∨ m = 3 ∨ m = 4 by omega) with rfl | rfl | rfl | rfl | rfl
  · simp [cdN]
  · have h0 := hg 0 (by omega)
    rcases (show p = 0 ∨ p = 1 ∨ p = 2 ∨ p = 3 by omega) with rfl | rfl | rfl | rfl <;> simp [cdN] <;> omega
  · have h0 := hg 0 (by omega); have h1 := hg 1 (by omega)
    rcases (show p = 0 ∨ p = 1 ∨ p = 2 ∨ p = 3 by omega) with rfl | rfl | rfl | rfl <;> simp [cdN] <;> omega
  · have h0 := hg 0 (by omega); have h1 := hg 1 (by omega); have h2 := hg 2 (by omega)
    rcases (show p = 0 ∨ p = 1 ∨ p = 2 ∨ p = 3 by omega) with rfl | rfl | rfl | rfl <;> simp [cdN] <;> omega
  · have h0 := hg 0 (by omega); have h1 := hg 1 (by omega); have h2 := hg 2 (by omega); have h3 := hg 3 (by omega)
    rcases (show p = 0 ∨ p = 1 ∨ p = 2 ∨ p = 3 by omega) with rfl | rfl | rfl | rfl <;> simp [cdN] <;> omega
/-- codes of letters are alike just where the letters are -/
theorem cd_inj {g h : Nat → Nat} {m n : Nat} (hm : m ≤ 4) (hn : n ≤ 4) (hg : ∀ j, j < m → 1 ≤ g j ∧ g j < 32) (hh : ∀ j, j < n → 1 ≤ h j ∧ h j < 32) (e : cdN g m = cdN h n) : m = n ∧ ∀ j, j < m → g j = h j := by
  have key : ∀ p, p < 4 → (if p < m then g p else 0) = (if p < n then h p else 0) := by
    intro p hp
    rw [← cd_at hm hp (fun j hj => (hg j hj).2), ← cd_at hn hp (fun j hj => (hh j hj).2), e]
  have hmn : m = n := by
    rcases Nat.lt_trichotomy m n with hlt | heq | hgt
    · have k1 := key m (by omega)
      rw [if_neg (by omega), if_pos hlt] at k1
      have := (hh m hlt).1
      omega
    · exact heq
    · have k1 := key n (by omega)
      rw [if_pos hgt, if_neg (by omega)] at k1
      have := (hg n hgt).1
      omega
  subst hmn
  refine ⟨rfl, fun j hj => ?_⟩
  have k1 := key j (by omega)
  rw [if_pos hj, if_pos hj] at k1
  exact k1
