theorem lN_T {n : Nat} (h : n < 2 ^ 63) : (lN n).toInt = (n : Int) := by
  exact Int64.toInt_ofNat_of_lt h
theorem lN_or (a b : Nat) : lN a ||| lN b = lN (a ||| b) := by
  apply Int64.toBitVec_inj.mp
  show BitVec.ofNat 64 a ||| BitVec.ofNat 64 b = BitVec.ofNat 64 (a ||| b)
  exact (BitVec.ofNat_or ..).symm
set_option maxRecDepth 100000 in
theorem sm64 : ∀ k, k < 64 → ((lN k &&& 63).toBitVec.smod 64).toNat = k := by decide +kernel
theorem lN_shl (a : Nat) {k : Nat} (hk : k < 64) : lN a <<< (lN k &&& 63) = lN (a * 2 ^ k) := by
  apply Int64.toBitVec_inj.mp
  show BitVec.ofNat 64 a <<< ((lN k &&& 63).toBitVec.smod 64).toNat = BitVec.ofNat 64 (a * 2 ^ k)
  rw [sm64 k hk]
  apply BitVec.eq_of_toNat_eq
  rw [BitVec.toNat_shiftLeft, BitVec.toNat_ofNat, BitVec.toNat_ofNat, Nat.shiftLeft_eq]
  exact Nat.mod_mul_mod _ _ _
theorem lN_shr {a : Nat} (ha : a < 2 ^ 63) {k : Nat} (hk : k < 64) : lN a >>> (lN k &&& 63) = lN (a / 2 ^ k) := by
  apply Int64.toBitVec_inj.mp
  show (BitVec.ofNat 64 a).sshiftRight ((lN k &&& 63).toBitVec.smod 64).toNat = BitVec.ofNat 64 (a / 2 ^ k)
  rw [sm64 k hk]
  have hm : (BitVec.ofNat 64 a).msb = false := by
    rw [BitVec.msb_eq_decide, BitVec.toNat_ofNat, Nat.mod_eq_of_lt (by omega)]
    simp
    omega
  rw [BitVec.sshiftRight_eq_of_msb_false hm]
  apply BitVec.eq_of_toNat_eq
  rw [BitVec.toNat_ushiftRight, BitVec.toNat_ofNat, BitVec.toNat_ofNat, Nat.mod_eq_of_lt (by omega), Nat.shiftRight_eq_div_pow, Nat.mod_eq_of_lt]
  have := Nat.div_le_self a (2 ^ k)
  omega
theorem lN_31 {a : Nat} (h : a < 2 ^ 63) : (lN a).toInt32 &&& 31 = nI (a % 32) := by
  apply Int32.toBitVec_inj.mp
  show (BitVec.ofNat 64 a).signExtend 32 &&& 31#32 = BitVec.ofNat 32 (a % 32)
  apply BitVec.eq_of_getLsbD_eq
  intro i hi
  rw [BitVec.getLsbD_and, BitVec.getLsbD_signExtend]
  simp only [BitVec.getLsbD_ofNat]
  have e31 : (31 : Nat) = 2 ^ 5 - 1 := rfl
  rw [show (31 : Nat).testBit i = decide (i < 5) by rw [e31, Nat.testBit_two_pow_sub_one]]
  rw [show a % 32 = a % 2 ^ 5 from rfl, Nat.testBit_mod_two_pow]
  by_cases h5 : i < 5 <;> simp [h5, hi, show i < 64 by omega]
theorem lg_E {a b : Nat} (ha : a < 2 ^ 63) (hb : b < 2 ^ 63) : lg_cmp (lN a) (lN b) = if b < a then 1 else if a = b then 0 else -1 := by
  unfold lg_cmp
  simp only [gt_iff_lt, Int64.lt_iff_toInt_lt, ← Int64.toInt_inj, lN_T ha, lN_T hb]
  by_cases h1 : b < a
  · rw [if_pos h1, if_pos (by omega)]
  · rw [if_neg h1, if_neg (by omega)]
    by_cases h2 : a = b
    · rw [if_pos h2, if_pos (by omega)]
    · rw [if_neg h2, if_neg (by omega)]
/-- letters -/
def lR (l : List Nat) : Prop := ∀ x, x ∈ l → 1 ≤ x ∧ x ≤ 26
theorem lR_ok {l : List Nat} (h : lR l) : rOk l := fun x hx => by have := h x hx; omega
theorem lR_a {l m : List Nat} (h1 : lR l) (h2 : lR m) : lR (l ++ m) := fun x hx => by
  rcases List.mem_append.mp hx with h | h
  · exact h1 x h
  · exact h2 x h
theorem lR_l {l m : List Nat} (h : lR (l ++ m)) : lR l ∧ lR m := ⟨fun x hx => h x (List.mem_append.mpr (Or.inl hx)), fun x hx => h x (List.mem_append.mpr (Or.inr hx))⟩
/-- their code -/
def cdL (l : List Nat) : Nat := rNm l * 32 ^ (4 - l.length)
theorem rNm_b {l : List Nat} (h : lR l) : rNm l < 32 ^ l.length := rNm_lt l (lR_ok h)
theorem p20 : (32 : Nat) ^ 4 = 1048576 := rfl
theorem p32 {a b : Nat} : (32 : Nat) ^ (a + b) = 32 ^ a * 32 ^ b := Nat.pow_add 32 a b
theorem p2 (k : Nat) : (2 : Nat) ^ (k * 5) = 32 ^ k := by rw [show (32 : Nat) = 2 ^ 5 from rfl, ← Nat.pow_mul, Nat.mul_comm]
theorem cdL_b {l : List Nat} (h : lR l) (h4 : l.length ≤ 4) : cdL l < 1048576 := by
  unfold cdL
  have h1 := rNm_b h
  have h2 : rNm l * 32 ^ (4 - l.length) < 32 ^ l.length * 32 ^ (4 - l.length) := Nat.mul_lt_mul_of_pos_right h1 (Nat.pow_pos (by omega))
  rw [← p32, show l.length + (4 - l.length) = 4 by omega, p20] at h2
  exact h2
set_option maxRecDepth 8192 in
theorem cdL_N {g : Nat → Nat} {n : Nat} (hn : n ≤ 4) : cdL ((List.range n).map g) = cdN g n := by
  rcases (show n = 0 ∨ n = 1 ∨ n = 2 ∨ n = 3 ∨ n = 4 by omega) with rfl | rfl | rfl | rfl | rfl
  · simp [cdL, rNm, cdN]
  · show (0 * 32 + g 0) * 32768 = 0 + g 0 * 32768; omega
  · show ((0 * 32 + g 0) * 32 + g 1) * 1024 = 0 + g 0 * 32768 + g 1 * 1024; omega
  · show (((0 * 32 + g 0) * 32 + g 1) * 32 + g 2) * 32 = 0 + g 0 * 32768 + g 1 * 1024 + g 2 * 32; omega
  · show ((((0 * 32 + g 0) * 32 + g 1) * 32 + g 2) * 32 + g 3) * 1 = 0 + g 0 * 32768 + g 1 * 1024 + g 2 * 32 + g 3 * 1; omega
theorem l_rg (l : List Nat) : l = (List.range l.length).map (fun j => l.getD j 0) := by
  apply List.ext_getElem
  · simp
  · intro i h1 h2
    simp [h1]
theorem cdL_cd {l : List Nat} (h4 : l.length ≤ 4) : cdL l = cdN (fun j => l.getD j 0) l.length := by
  conv => lhs; rw [l_rg l]
  exact cdL_N h4
/-- a part's letters -/
def ptW (A : Nat → Nat → Int32) (p : Nat) : List Nat := (List.range (ptN A p)).map (ptL A p)
section
variable {A I : Nat → Nat → Int32} {r q p : Nat}
theorem ptW_l : (ptW A p).length = ptN A p := by simp [ptW]
theorem ptW_R (P : PtK A r q p) : lR (ptW A p) := fun x hx => by
  unfold ptW at hx
  obtain ⟨j, hj, e⟩ := List.mem_map.mp hx
  rw [← e]
  exact P.lt j (List.mem_range.mp hj)
theorem ptW_c (P : PtK A r q p) : A 4 p = nI (cdL (ptW A p)) := by rw [P.a4, ← cdL_N P.n4]; rfl
theorem ptW_n (P : PtK A r q p) : ptW A p ≠ [] := fun z => by
  have := ptW_l (A := A) (p := p)
  rw [z] at this
  have := P.n1
  simp at *
  omega
end
/-- the front of a code -/
theorem cdL_fr {x y : List Nat} (hx : lR (x ++ y)) (h4 : (x ++ y).length ≤ 4) : cdL (x ++ y) / 32 ^ (4 - x.length) = rNm x := by
  have hy := rNm_b (lR_l hx).2
  rw [List.length_append] at h4
  unfold cdL
  rw [rNm_app, List.length_append, show 4 - x.length = y.length + (4 - (x.length + y.length)) by omega, p32, Nat.add_mul, Nat.mul_assoc]
  have e : rNm y * 32 ^ (4 - (x.length + y.length)) < 32 ^ y.length * 32 ^ (4 - (x.length + y.length)) := Nat.mul_lt_mul_of_pos_right hy (Nat.pow_pos (by omega))
  rw [Nat.mul_comm (rNm x), Nat.mul_add_div (Nat.mul_pos (Nat.pow_pos (by omega)) (Nat.pow_pos (by omega))), Nat.div_eq_of_lt e, Nat.add_zero]
/-- what is left of a code -/
theorem cdL_bk {x y : List Nat} (hx : lR (x ++ y)) (h4 : (x ++ y).length ≤ 4) : cdL (x ++ y) * 32 ^ x.length % 1048576 = cdL y := by
  have hy := cdL_b (lR_l hx).2 (by rw [List.length_append] at h4; omega)
  rw [List.length_append] at h4
  unfold cdL at *
  rw [rNm_app, List.length_append, Nat.mul_assoc, ← p32, show 4 - (x.length + y.length) + x.length = 4 - y.length by omega, Nat.add_mul, Nat.mul_assoc, ← p32, show y.length + (4 - y.length) = 4 by omega, p20, Nat.mul_comm, Nat.mul_add_mod]
  exact Nat.mod_eq_of_lt hy
theorem rNm_inj : ∀ {x y : List Nat}, lR x → lR y → x.length = y.length → rNm x = rNm y → x = y := by
  intro x
  induction x with
  | nil => intro y _ _ h _; exact (List.eq_nil_of_length_eq_zero h.symm).symm
  | cons a x ih =>
    intro y hx hy hl he
    cases y with
    | nil => simp at hl
    | cons b y =>
      have hl : x.length = y.length := by simpa using hl
      have h1 := rNm_b (l := x) (fun z hz => hx z (List.mem_cons_of_mem _ hz))
      have h2 := rNm_b (l := y) (fun z hz => hy z (List.mem_cons_of_mem _ hz))
      rw [rNm_c, rNm_c, hl] at he
      rw [hl] at h1
      have ha : a = b := by
        have this : (a * 32 ^ y.length + rNm x) / 32 ^ y.length = (b * 32 ^ y.length + rNm y) / 32 ^ y.length := by rw [he]
        rw [Nat.mul_comm, Nat.mul_add_div (Nat.pow_pos (by omega)), Nat.div_eq_of_lt h1, Nat.mul_comm b, Nat.mul_add_div (Nat.pow_pos (by omega)), Nat.div_eq_of_lt h2] at this
        simpa using this
      subst ha
      have hl2 : x.length = y.length := by assumption
      rw [ih (fun z hz => hx z (List.mem_cons_of_mem _ hz)) (fun z hz => hy z (List.mem_cons_of_mem _ hz)) hl2 (by omega)]
theorem xor_div (a b k : Nat) : (a ^^^ b) / 2 ^ k = a / 2 ^ k ^^^ b / 2 ^ k := by
  apply Nat.eq_of_testBit_eq
  intro i
  rw [Nat.testBit_div_two_pow, Nat.testBit_xor, Nat.testBit_xor, Nat.testBit_div_two_pow, Nat.testBit_div_two_pow]
theorem nI_xor (a b : Nat) : nI a ^^^ nI b = nI (a ^^^ b) := by
  apply Int32.toBitVec_inj.mp
  show BitVec.ofNat 32 a ^^^ BitVec.ofNat 32 b = BitVec.ofNat 32 (a ^^^ b)
  exact (BitVec.ofNat_xor ..).symm
theorem xor_z {a b : Nat} : a ^^^ b = 0 ↔ a = b := by
  constructor
  · intro h
    have := congrArg (fun t => t ^^^ b) h
    simpa [Nat.xor_assoc] using this
  · intro h; rw [h, Nat.xor_self]
theorem lR_t {l : List Nat} (h : lR l) (k : Nat) : lR (l.take k) ∧ lR (l.drop k) := ⟨fun x hx => h x (List.mem_of_mem_take hx), fun x hx => h x (List.mem_of_mem_drop hx)⟩
/-- two codes compared at their first s letters -/
theorem cd_cmp {x y : List Nat} {s : Nat} (hx : lR x) (hy : lR y) (hx4 : x.length ≤ 4) (hy4 : y.length ≤ 4) (h1 : 1 ≤ s) (hsx : s ≤ x.length) (hsy : s ≤ y.length) : (nI (cdL x) ^^^ nI (cdL y)) &&& (((1048575 : Int32) <<< (((4 : Int32) - nI s) * 5 &&& 31)) &&& 1048575) = (if x.take s = y.take s then 0 else nI ((cdL x ^^^ cdL y) / 2 ^ ((4 - s) * 5) * 2 ^ ((4 - s) * 5))) ∧ (¬ x.take s = y.take s → 0 < (cdL x ^^^ cdL y) / 2 ^ ((4 - s) * 5) * 2 ^ ((4 - s) * 5) ∧ (cdL x ^^^ cdL y) / 2 ^ ((4 - s) * 5) * 2 ^ ((4 - s) * 5) < 1048576) := by
  have bx := cdL_b hx hx4
  have by' := cdL_b hy hy4
  have bxy : cdL x ^^^ cdL y < 2 ^ 20 := Nat.xor_lt_two_pow bx by'
  have fx : cdL x / 2 ^ ((4 - s) * 5) = rNm (x.take s) := by
    have e : x = x.take s ++ x.drop s := (List.take_append_drop s x).symm
    have := cdL_fr (x := x.take s) (y := x.drop s) (by rw [← e]; exact hx) (by rw [← e]; exact hx4)
    rw [← e, List.length_take, Nat.min_eq_left hsx] at this
    rw [p2]; exact this
  have fy : cdL y / 2 ^ ((4 - s) * 5) = rNm (y.take s) := by
    have e : y = y.take s ++ y.drop s := (List.take_append_drop s y).symm
    have := cdL_fr (x := y.take s) (y := y.drop s) (by rw [← e]; exact hy) (by rw [← e]; exact hy4)
    rw [← e, List.length_take, Nat.min_eq_left hsy] at this
    rw [p2]; exact this
  have key : (cdL x ^^^ cdL y) / 2 ^ ((4 - s) * 5) = 0 ↔ x.take s = y.take s := by
    rw [xor_div, fx, fy, xor_z]
    constructor
    · exact rNm_inj (lR_t hx s).1 (lR_t hy s).1 (by rw [List.length_take, List.length_take]; omega)
    · intro h; rw [h]
  have hE : nI (cdL x) ^^^ nI (cdL y) = nI (cdL x ^^^ cdL y) := nI_xor _ _
  rw [hE, mask_E h1 (by omega), nI_and, and_hi bxy (by omega)]
  refine ⟨?_, fun h => ⟨?_, ?_⟩⟩
  · by_cases e : x.take s = y.take s
    · rw [if_pos e, key.mpr e, Nat.zero_mul]; rfl
    · rw [if_neg e]
  · have : ¬ (cdL x ^^^ cdL y) / 2 ^ ((4 - s) * 5) = 0 := fun z => h (key.mp z)
    exact Nat.mul_pos (Nat.pos_of_ne_zero this) (Nat.two_pow_pos _)
  · have := Nat.div_mul_le_self (cdL x ^^^ cdL y) (2 ^ ((4 - s) * 5))
    omega
