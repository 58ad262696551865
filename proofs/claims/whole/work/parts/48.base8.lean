theorem u2_nj {α : Type} {f : Nat → Nat → α} {k j i : Nat} {v : α} (h : i ≠ j) : u2 f k j v k i = f k i := by unfold u2; rw [if_pos rfl, if_neg h]
theorem sb1 {a : Nat} (h : 1 ≤ a) : nI a - 1 = nI (a - 1) := pk_sub (b := 1) h
theorem cl0 : Int32.toNatClampNeg 0 = 0 := rfl
theorem cl1 : Int32.toNatClampNeg 1 = 1 := rfl
theorem cl2 : Int32.toNatClampNeg 2 = 2 := rfl
theorem nI_inj {x : Int32} {n : Nat} (h : x.toInt = (n : Int)) (hn : n < 2 ^ 31) : x = nI n := Int32.toInt_inj.mp (by rw [h, nI_toInt hn])
theorem bt_or (v w : Int32) (k : Nat) : bt (v ||| w) k = (bt v k || bt w k) := by
  unfold bt
  show (v.toBitVec ||| w.toBitVec).getLsbD k = _
  rw [BitVec.getLsbD_or]
theorem bt_and (v w : Int32) (k : Nat) : bt (v &&& w) k = (bt v k && bt w k) := by
  unfold bt
  show (v.toBitVec &&& w.toBitVec).getLsbD k = _
  rw [BitVec.getLsbD_and]
theorem bt_xor (v w : Int32) (k : Nat) : bt (v ^^^ w) k = (bt v k ^^ bt w k) := by
  unfold bt
  show (v.toBitVec ^^^ w.toBitVec).getLsbD k = _
  rw [BitVec.getLsbD_xor]
set_option maxRecDepth 100000 in
theorem bt_m1 : ∀ k, k < 32 → bt (-1) k = true := by decide
set_option maxRecDepth 100000 in
theorem bt_1 : ∀ k, k < 32 → bt 1 k = decide (k = 0) := by decide
theorem bt_0 (k : Nat) : bt 0 k = false := by
  unfold bt
  show (0#32).getLsbD k = false
  simp
theorem shl_bv (v : Int32) (k : Nat) (hk : k < 32) : (v <<< (nI k &&& 31)).toBitVec = v.toBitVec <<< k := by
  have h := sm32 k hk
  show v.toBitVec <<< ((nI k &&& 31).toBitVec.smod 32) = _
  show v.toBitVec <<< ((nI k &&& 31).toBitVec.smod 32).toNat = _
  rw [h]
theorem bt_sh {k j : Nat} (hk : k < 32) (hj : j < 32) : bt (1 <<< (nI k &&& 31)) j = decide (j = k) := by
  unfold bt
  rw [shl_bv _ _ hk]
  show ((1#32) <<< k).getLsbD j = _
  rw [BitVec.getLsbD_shiftLeft]
  by_cases e : j = k
  · subst e; simp [hj]
  · rcases Nat.lt_or_ge j k with h | h
    · simp [h, e]
    · have h2 : (1#32).getLsbD (j - k) = false := by
        rw [BitVec.getLsbD_one]
        simp only [decide_eq_true_eq, Bool.and_eq_false_imp, decide_eq_false_iff_not]
        intro _
        omega
      rw [h2]
      simp [e]
/-- a set without high bits is known by its low ones -/
theorem bt_ext {v w : Int32} (h : ∀ k, k < 32 → bt v k = bt w k) : v = w := by
  apply Int32.toBitVec_inj.mp
  apply BitVec.eq_of_getLsbD_eq
  intro i hi
  exact h i hi
theorem bt_nz {v : Int32} {k : Nat} (h : bt v k = true) : ¬ v = 0 := by
  intro e
  rw [e, bt_0] at h
  exact absurd h (by decide)
theorem bt_z {v : Int32} (h : ∀ k, k < 32 → bt v k = false) : v = 0 := bt_ext fun k hk => by rw [h k hk, bt_0]
theorem bt_ex {v : Int32} (h : ¬ v = 0) : ∃ k, k < 32 ∧ bt v k = true := by
  apply Classical.byContradiction
  intro g
  apply h
  apply bt_z
  intro k hk
  cases e : bt v k
  · rfl
  · exact absurd ⟨k, hk, e⟩ g
theorem qc_i (x : Int32) : q_cut (some (.int x)) = some (.int x) := rfl
theorem qc_r (x : Nat) : q_cut (some (.ref x)) = some (.ref x) := rfl
theorem qc_l (x : Int64) : q_cut (some (.long x)) = none := rfl
theorem qc_n : q_cut none = none := rfl
