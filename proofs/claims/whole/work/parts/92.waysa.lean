/-- parts: roots 0 .. 15, endings 16 .. 23 -/
def ptT (r q p : Nat) : Bool := if p < 16 then decide (p < r) else decide (p < 16 + q)
def ptN (A : Nat → Nat → Int32) (p : Nat) : Nat := if p < 16 then (A 67 p).toNatClampNeg else (A 73 (p - 16)).toNatClampNeg
def ptC (A : Nat → Nat → Int32) (p : Nat) : Nat := if p < 16 then (A 66 p).toNatClampNeg else (A 72 (p - 16)).toNatClampNeg
def ptB (A : Nat → Nat → Int32) (p : Nat) : Nat := (A 71 (p - 16)).toNatClampNeg
def ptL (A : Nat → Nat → Int32) (p j : Nat) : Nat := if p < 16 then gl (A 68) (4 * p) j else gl (A 74) (4 * (p - 16)) j
/-- p may come behind class k (4: as the first part) -/
def ptF (A : Nat → Nat → Int32) (r q : Nat) (jn : Int32) (k p : Nat) : Bool := decide (p < 24) && ptT r q p && (if p < 16 then decide (k = 4) || bt jn (4 * k + ptC A p) else decide (ptB A p = k))
/-- roots and endings of class and reference -/
def IWo (A I : Nat → Nat → Int32) (r q : Nat) : Prop := r ≤ 16 ∧ q ≤ 8 ∧ I 2 9 = nI r ∧ I 64 1 = nI r ∧ I 2 10 = nI q ∧ I 64 8 = nI q ∧
  (∀ x, x < r → WO (A 68) (4 * x) (A 67 x) 1 4 ∧ (∃ k, k < 4 ∧ A 66 x = nI k) ∧ A 5 x = A 67 x ∧ A 7 x = A 66 x ∧ A 4 x = cdW (A 68) (4 * x) (A 67 x)) ∧
  ∀ e, e < q → WO (A 74) (4 * e) (A 73 e) 1 2 ∧ (∃ k, k < 4 ∧ A 71 e = nI k) ∧ (∃ k, k < 4 ∧ A 72 e = nI k) ∧ A 5 (16 + e) = A 73 e ∧ A 6 (16 + e) = A 71 e ∧ A 7 (16 + e) = A 72 e ∧ A 4 (16 + e) = cdW (A 74) (4 * e) (A 73 e)
/-- what is known of a part that is there -/
def PtK (A : Nat → Nat → Int32) (r q p : Nat) : Prop := 1 ≤ ptN A p ∧ ptN A p ≤ 4 ∧ ptC A p < 4 ∧ A 5 p = nI (ptN A p) ∧ A 7 p = nI (ptC A p) ∧ A 4 p = nI (cdN (ptL A p) (ptN A p)) ∧ (∀ j, j < ptN A p → 1 ≤ ptL A p j ∧ ptL A p j ≤ 26) ∧
  (p < 16 → p < r ∧ A 67 p = nI (ptN A p) ∧ A 66 p = nI (ptC A p) ∧ ∀ j, j < ptN A p → A 68 (4 * p + j) = nI (ptL A p j)) ∧
  (16 ≤ p → p < 16 + q ∧ ptN A p ≤ 2 ∧ ptB A p < 4 ∧ A 6 p = nI (ptB A p) ∧ A 71 (p - 16) = nI (ptB A p) ∧ A 73 (p - 16) = nI (ptN A p) ∧ A 72 (p - 16) = nI (ptC A p) ∧ ∀ j, j < ptN A p → A 74 (4 * (p - 16) + j) = nI (ptL A p j))
section
variable {A : Nat → Nat → Int32} {r q p : Nat}
theorem PtK.n1 (P : PtK A r q p) : 1 ≤ ptN A p := P.1
theorem PtK.n4 (P : PtK A r q p) : ptN A p ≤ 4 := P.2.1
theorem PtK.c4 (P : PtK A r q p) : ptC A p < 4 := P.2.2.1
theorem PtK.a5 (P : PtK A r q p) : A 5 p = nI (ptN A p) := P.2.2.2.1
theorem PtK.a7 (P : PtK A r q p) : A 7 p = nI (ptC A p) := P.2.2.2.2.1
theorem PtK.a4 (P : PtK A r q p) : A 4 p = nI (cdN (ptL A p) (ptN A p)) := P.2.2.2.2.2.1
theorem PtK.lt (P : PtK A r q p) : ∀ j, j < ptN A p → 1 ≤ ptL A p j ∧ ptL A p j ≤ 26 := P.2.2.2.2.2.2.1
theorem PtK.ro (P : PtK A r q p) : p < 16 → p < r ∧ A 67 p = nI (ptN A p) ∧ A 66 p = nI (ptC A p) ∧ ∀ j, j < ptN A p → A 68 (4 * p + j) = nI (ptL A p j) := P.2.2.2.2.2.2.2.1
theorem PtK.en (P : PtK A r q p) : 16 ≤ p → p < 16 + q ∧ ptN A p ≤ 2 ∧ ptB A p < 4 ∧ A 6 p = nI (ptB A p) ∧ A 71 (p - 16) = nI (ptB A p) ∧ A 73 (p - 16) = nI (ptN A p) ∧ A 72 (p - 16) = nI (ptC A p) ∧ ∀ j, j < ptN A p → A 74 (4 * (p - 16) + j) = nI (ptL A p j) := P.2.2.2.2.2.2.2.2
end
theorem cl_nI {v : Int32} {k : Nat} (h : v = nI k) (hk : k < 2 ^ 31) : v = nI v.toNatClampNeg ∧ v.toNatClampNeg = k := by
  rw [h, nI_clamp hk]; exact ⟨rfl, rfl⟩
theorem pt_K {A I : Nat → Nat → Int32} {r q p : Nat} (h : IWo A I r q) (hp : p < 24) (ht : ptT r q p = true) : PtK A r q p := by
  unfold PtK
  obtain ⟨h1, h2, h3, h4, h5, h6, h7, h8⟩ := h
  unfold ptT at ht
  by_cases e : p < 16
  · rw [if_pos e] at ht
    have hr := of_decide_eq_true ht
    obtain ⟨w, ⟨k, hk, k1⟩, w2, w3, w4⟩ := h7 p hr
    obtain ⟨m, m1, m2, m3, m4, m5, m6⟩ := WO_u w (by omega)
    have eN : ptN A p = m := by unfold ptN; rw [if_pos e]; exact m4
    have eC : ptC A p = k := by unfold ptC; rw [if_pos e]; exact (cl_nI k1 (by omega)).2
    have eL : ∀ j, ptL A p j = gl (A 68) (4 * p) j := fun j => by unfold ptL; rw [if_pos e]
    have eL2 : ptL A p = gl (A 68) (4 * p) := funext eL
    refine ⟨by omega, by omega, by omega, by rw [w2, eN, m3], by rw [w3, eC, k1], ?_, fun j hj => ?_, fun _ => ⟨hr, by rw [eN, m3], by rw [eC, k1], fun j hj => ?_⟩, fun z => absurd z (by omega)⟩
    · rw [w4, eN, eL2]; unfold cdW; rw [m4]
    · rw [eL]; exact m5 j (by omega)
    · rw [eL]; exact m6 j (by omega)
  · rw [if_neg e] at ht
    have hr := of_decide_eq_true ht
    obtain ⟨w, ⟨k, hk, k1⟩, ⟨l, hl, l1⟩, w2, w3, w4, w5⟩ := h8 (p - 16) (by omega)
    rw [show 16 + (p - 16) = p by omega] at w2 w3 w4 w5
    obtain ⟨m, m1, m2, m3, m4, m5, m6⟩ := WO_u w (by omega)
    have eN : ptN A p = m := by unfold ptN; rw [if_neg e]; exact m4
    have eC : ptC A p = l := by unfold ptC; rw [if_neg e]; exact (cl_nI l1 (by omega)).2
    have eB : ptB A p = k := (cl_nI k1 (by omega)).2
    have eL : ∀ j, ptL A p j = gl (A 74) (4 * (p - 16)) j := fun j => by unfold ptL; rw [if_neg e]
    have eL2 : ptL A p = gl (A 74) (4 * (p - 16)) := funext eL
    refine ⟨by omega, by omega, by omega, by rw [w2, eN, m3], by rw [w4, eC, l1], ?_, fun j hj => ?_, fun z => absurd z (by omega), fun _ => ⟨hr, by omega, by omega, by rw [w3, eB, k1], by rw [eB, k1], by rw [eN, m3], by rw [eC, l1], fun j hj => ?_⟩⟩
    · rw [w5, eN, eL2]; unfold cdW; rw [m4]
    · rw [eL]; exact m5 j (by omega)
    · rw [eL]; exact m6 j (by omega)
theorem and_hi {x k : Nat} (h : x < 2 ^ 20) (hk : k ≤ 20) : x &&& (2 ^ 20 - 2 ^ k) = x / 2 ^ k * 2 ^ k := by
  apply Nat.eq_of_testBit_eq
  intro i
  rw [Nat.testBit_and, Nat.mul_comm, Nat.testBit_two_pow_mul, Nat.testBit_div_two_pow]
  have e : 2 ^ 20 - 2 ^ k = 2 ^ k * (2 ^ (20 - k) - 1) := by rw [Nat.mul_sub, ← Nat.pow_add, show k + (20 - k) = 20 by omega, Nat.mul_one]
  rw [e, Nat.testBit_two_pow_mul, Nat.testBit_two_pow_sub_one]
  by_cases h1 : k ≤ i
  · rw [show i - k + k = i by omega]
    by_cases h2 : i < 20
    · simp [h1, show i - k < 20 - k by omega]
    · have : x.testBit i = false := Nat.testBit_lt_two_pow (Nat.lt_of_lt_of_le h (Nat.pow_le_pow_right (by omega) (by omega)))
      simp [this]
  · simp [h1]
theorem nI_and (a b : Nat) : nI a &&& nI b = nI (a &&& b) := by
  apply Int32.toBitVec_inj.mp
  show BitVec.ofNat 32 a &&& BitVec.ofNat 32 b = BitVec.ofNat 32 (a &&& b)
  exact (BitVec.ofNat_and ..).symm
theorem mask_E {s : Nat} (h1 : 1 ≤ s) (h4 : s ≤ 4) : ((1048575 : Int32) <<< (((4 : Int32) - nI s) * 5 &&& 31)) &&& 1048575 = nI (2 ^ 20 - 2 ^ ((4 - s) * 5)) := by
  rcases (show s = 1 ∨ s = 2 ∨ s = 3 ∨ s = 4 by omega) with rfl | rfl | rfl | rfl <;> decide
theorem cd_cut {g : Nat → Nat} {m s : Nat} (hm : m ≤ 4) (hg : ∀ j, j < m → g j < 32) (hs : s ≤ m) : cdN g m / 2 ^ ((4 - s) * 5) * 2 ^ ((4 - s) * 5) = cdN g s := by
  rcases (show m = 0 ∨ m = 1 ∨ m = 2 ∨ m = 3 ∨ m = 4 by omega) with rfl | rfl | rfl | rfl | rfl
  · have : s = 0 := by omega
    subst this; simp [cdN]
  · have h0 := hg 0 (by omega)
    rcases (show s = 0 ∨ s = 1 by omega) with rfl | rfl <;> simp [cdN] <;> omega
  · have h0 := hg 0 (by omega); have h1 := hg 1 (by omega)
    rcases (show s = 0 ∨ s = 1 ∨ s = 2 by omega) with rfl | rfl | rfl <;> simp [cdN] <;> omega
  · have h0 := hg 0 (by omega); have h1 := hg 1 (by omega); have h2 := hg 2 (by omega)
    rcases (show s = 0 ∨ s = 1 ∨ s = 2 ∨ s = 3 by omega) with rfl | rfl | rfl | rfl <;> simp [cdN] <;> omega
  · have h0 := hg 0 (by omega); have h1 := hg 1 (by omega); have h2 := hg 2 (by omega); have h3 := hg 3 (by omega)
    rcases (show s = 0 ∨ s = 1 ∨ s = 2 ∨ s = 3 ∨ s = 4 by omega) with rfl | rfl | rfl | rfl | rfl <;> simp [cdN] <;> omega
theorem cd_mask {g : Nat → Nat} {m s : Nat} (hm : m ≤ 4) (hg : ∀ j, j < m → g j < 32) (h1 : 1 ≤ s) (hs : s ≤ m) : nI (cdN g m) &&& (((1048575 : Int32) <<< (((4 : Int32) - nI s) * 5 &&& 31)) &&& 1048575) = nI (cdN g s) := by
  rw [mask_E h1 (by omega), nI_and, and_hi (cd_bound hm hg) (by omega), cd_cut hm hg hs]
theorem cd_eq {g h : Nat → Nat} {m : Nat} (hm : m ≤ 4) (hg : ∀ j, j < m → g j < 32) (hh : ∀ j, j < m → h j < 32) : cdN g m = cdN h m ↔ ∀ j, j < m → g j = h j := by
  constructor
  · intro e p hp
    have := cd_at (p := p) hm (by omega) hg
    rw [e, cd_at hm (by omega) hh, if_pos hp, if_pos hp] at this
    exact this.symm
  · intro e
    have : ∀ k, k ≤ m → cdN g k = cdN h k := by
      intro k
      induction k with
      | zero => intro _; rfl
      | succ k ih => intro hk; show cdN g k + g k * _ = cdN h k + h k * _; rw [ih (by omega), e k (by omega)]
    exact this m (Nat.le_refl _)
/-- four letters from a place on; 0 behind the end -/
def ahL (g : Nat → Nat) (n at' j : Nat) : Nat := if at' + j < n then g (at' + j) else 0
/-- a part stands at a place of a row -/
def ptS (A : Nat → Nat → Int32) (g : Nat → Nat) (n p at' : Nat) : Prop := at' + ptN A p ≤ n ∧ ∀ j, j < ptN A p → g (at' + j) = ptL A p j
theorem ah_s {g : Nat → Nat} {n at' : Nat} (h : at' < n) (hg : ∀ j, j < n → g j < 32) : cdN (ahL g n at') 4 = cdN (ahL g n (at' + 1)) 4 / 32 + g at' * 32768 := by
  have b : ∀ j, ahL g n (at' + 1) j < 32 := fun j => by
    unfold ahL; split
    · exact hg _ (by assumption)
    · omega
  have e0 : ahL g n at' 0 = g at' := by unfold ahL; rw [Nat.add_zero, if_pos h]
  have e : ∀ j, ahL g n at' (j + 1) = ahL g n (at' + 1) j := fun j => by unfold ahL; rw [show at' + (j + 1) = at' + 1 + j by omega]
  have b0 := b 0; have b1 := b 1; have b2 := b 2; have b3 := b 3
  have e1 := e 0; have e2 := e 1; have e3 := e 2
  simp only [Nat.zero_add] at e1
  simp [cdN]
  rw [e0, e1, e2, e3]
  omega
theorem pt_beg {A : Nat → Nat → Int32} {r q p : Nat} {g : Nat → Nat} {n at' : Nat} (h : PtK A r q p) (hg : ∀ j, j < n → g j < 32) : cdN (ahL g n at') (ptN A p) = cdN (ptL A p) (ptN A p) ↔ ptS A g n p at' := by
  have b : ∀ j, ahL g n at' j < 32 := fun j => by
    unfold ahL; split
    · exact hg _ (by assumption)
    · omega
  rw [cd_eq h.n4 (fun j _ => b j) (fun j hj => by have := (h.lt j hj).2; omega)]
  constructor
  · intro e
    have k : ∀ j, j < ptN A p → at' + j < n := fun j hj => by
      have h1 := e j hj
      have h2 := (h.lt j hj).1
      unfold ahL at h1
      by_cases z : at' + j < n
      · exact z
      · rw [if_neg z] at h1; omega
    refine ⟨?_, fun j hj => ?_⟩
    · have := k (ptN A p - 1) (by have := h.n1; omega)
      have := h.n1
      omega
    · have h1 := e j hj
      unfold ahL at h1
      rw [if_pos (k j hj)] at h1
      exact h1
  · intro ⟨e1, e2⟩ j hj
    unfold ahL
    rw [if_pos (by omega)]
    exact e2 j hj
