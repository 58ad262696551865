/-- letters across a parting, by the lower of two -/
def pcF (W : Nat → Nat → Nat) (n s p : Nat) : Nat := smF (fun q => if p < q ∧ s.testBit p ≠ s.testBit q then W p q else 0) n
def coF (W : Nat → Nat → Nat) (n s : Nat) : Nat := smF (pcF W n s) n
/-- those of persons from P on -/
def suF (W : Nat → Nat → Nat) (n P s : Nat) : Nat := smF (fun p => if P ≤ p then pcF W n s p else 0) n
def tsF (W : Nat → Nat → Nat) (s p : Nat) (v : Bool) (q : Nat) : Nat := smF (fun q => if p < q ∧ s.testBit q = v then W p q else 0) q
theorem smF_le {f g : Nat → Nat} : ∀ n, (∀ j, j < n → f j ≤ g j) → smF f n ≤ smF g n := by
  intro n
  induction n with
  | zero => intro _; exact Nat.le_refl _
  | succ n ih => intro h; unfold smF; have := ih (fun j hj => h j (by omega)); have := h n (by omega); omega
theorem smF_z {f : Nat → Nat} : ∀ n, (∀ j, j < n → f j = 0) → smF f n = 0 := by
  intro n
  induction n with
  | zero => intro _; rfl
  | succ n ih => intro h; unfold smF; rw [ih (fun j hj => h j (by omega)), h n (by omega)]
theorem smF_a (f g : Nat → Nat) : ∀ n, smF (fun j => f j + g j) n = smF f n + smF g n := by
  intro n
  induction n with
  | zero => rfl
  | succ n ih => unfold smF; rw [ih]; omega
theorem smF_1 {f : Nat → Nat} {k : Nat} : ∀ n, k < n → smF (fun j => if k ≤ j then f j else 0) n = f k + smF (fun j => if k + 1 ≤ j then f j else 0) n := by
  intro n
  induction n with
  | zero => intro h; omega
  | succ n ih =>
    intro h
    unfold smF
    rcases Nat.lt_or_ge k n with h1 | h1
    · rw [ih h1, if_pos (by omega), if_pos (by omega)]; omega
    · have : k = n := by omega
      subst this
      rw [if_pos (by omega), if_neg (by omega), smF_z k (fun j hj => if_neg (by omega)), smF_z k (fun j hj => if_neg (by omega))]
      omega
section
variable {W : Nat → Nat → Nat} {n s t P p a b : Nat}
theorem pc_c (h : ∀ q, p ≤ q → s.testBit q = t.testBit q) : pcF W n s p = pcF W n t p := smF_c n fun q _ => by
  by_cases e : p < q
  · rw [h p (by omega), h q (by omega)]
  · rw [if_neg (fun z => e z.1), if_neg (fun z => e z.1)]
theorem su_c (h : ∀ q, P ≤ q → s.testBit q = t.testBit q) : suF W n P s = suF W n P t := smF_c n fun p _ => by
  by_cases e : P ≤ p
  · rw [if_pos e, if_pos e]; exact pc_c (fun q hq => h q (by omega))
  · rw [if_neg e, if_neg e]
theorem su_0 : suF W n 0 s = coF W n s := smF_c n fun p _ => if_pos (by omega)
theorem su_s (h : p < n) : suF W n p s = suF W n (p + 1) s + pcF W n s p := by
  unfold suF
  rw [smF_1 n h]; omega
theorem su_le : suF W n P s ≤ coF W n s := smF_le n fun p _ => by
  by_cases e : P ≤ p
  · rw [if_pos e]; exact Nat.le_refl _
  · rw [if_neg e]; exact Nat.zero_le _
theorem pc_ts {v : Bool} (h : s.testBit p = v) : pcF W n s p = tsF W s p (!v) n := smF_c n fun q _ => by
  rw [h]
  cases v <;> cases s.testBit q <;> simp
theorem ts_c {v : Bool} (h : ∀ q, p < q → s.testBit q = t.testBit q) : tsF W s p v n = tsF W t p v n := smF_c n fun q _ => by
  by_cases e : p < q
  · rw [h q e]
  · rw [if_neg (fun z => e z.1), if_neg (fun z => e z.1)]
theorem ts_1 {v : Bool} : tsF W s p v (p + 1) = 0 := smF_z _ fun j hj => if_neg (fun z => by omega)
theorem ts_b {v : Bool} (hW : ∀ p q, p < 12 → q < 12 → W p q ≤ 99) (hp : p < 12) : ∀ q, q ≤ 12 → tsF W s p v q ≤ q * 99 := fun q hq => smF_b q fun j hj => by
  have := hW p j hp (by omega)
  split <;> omega
theorem co_b (hW : ∀ p q, p < 12 → q < 12 → W p q ≤ 99) (hn : n ≤ 12) : coF W n s ≤ 14256 := by
  have h1 : coF W n s ≤ n * 1188 := smF_b n fun p hp => by
    have : pcF W n s p ≤ n * 99 := smF_b n fun q hq => by
      have := hW p q (by omega) (by omega)
      split <;> omega
    omega
  omega
/-- bits of a set to which lower ones are added -/
theorem tb_hi {k i q : Nat} (hk : k < 2 ^ i) (hq : i ≤ q) : (2 ^ i * t + k).testBit q = (2 ^ i * t).testBit q := by
  rw [Nat.testBit_two_pow_mul_add _ hk, Nat.testBit_two_pow_mul]
  rw [if_neg (by omega)]
  simp [hq]
end
/-- what may come of a set whose bits from P on are chosen -/
def PaV (n a b P set s : Nat) : Prop := s / 2 ^ P = set / 2 ^ P ∧ s.testBit a = true ∧ s.testBit b = false
section
variable {sc : Sc} {d : Nat} {A : Nat → Nat → Int32} {L : Nat → Nat → Int64} {I : Nat → Nat → Int32} {J : Nat → Nat → Int64} {R : St Prop} {Q : Option Value → Wd → Prop} {K : Kt} {w : Wd} {n s t P p a b set sum ls lm : Nat} {W : Nat → Nat → Nat}
set_option maxHeartbeats 8000000 in
theorem lx_place (hK : am_cl sc (Ct sc d) 12 Q K) (hp : p < n) (hn : n ≤ 12) (hs : set < 4096) (e6 : I 45 6 = nI n) (hW : ∀ p q, p < 12 → q < 12 → W p q ≤ 99 ∧ A 50 (12 * p + q) = nI (W p q))
    (hX : K 35 [some (.ref 45), some (.int (nI p)), some (.int (nI set)), some (.int (nI sum)), some (.int (nI (tsF W set p true n))), some (.int (nI (tsF W set p false n))), some (.int (nI n)), none] [] (wd A L I J) 0 0) :
    ∀ q, q ≤ n → p < q → K 35 [some (.ref 45), some (.int (nI p)), some (.int (nI set)), some (.int (nI sum)), some (.int (nI (tsF W set p true q))), some (.int (nI (tsF W set p false q))), some (.int (nI q)), none] [] (wd A L I J) 0 0 := by
  refine upI fun q hq ih hpq => ?_
  rcases Nat.lt_or_ge q n with hq2 | hq2
  · have hi := ih hq2 (by omega)
    have hw := hW p q (by omega) (by omega)
    have eb := bitE (nI set) q (by omega)
    rw [bt_nI _ (by omega)] at eb
    have f1 : ∀ v, tsF W set p v (q + 1) = tsF W set p v q + if p < q ∧ set.testBit q = v then W p q else 0 := fun v => rfl
    have b1 := ts_b (W := W) (s := set) (p := p) (v := true) (fun p q h1 h2 => (hW p q h1 h2).1) (by omega) q (by omega)
    have b2 := ts_b (W := W) (s := set) (p := p) (v := false) (fun p q h1 h2 => (hW p q h1 h2).1) (by omega) q (by omega)
    rw [f1, f1] at hi
    refine am_go hK sp12 300 ?_
    cases z : set.testBit q
    · rw [z, if_neg Bool.false_ne_true] at eb
      rw [z, if_neg (fun h => Bool.false_ne_true h.2), if_pos ⟨hpq, rfl⟩] at hi
      repeat' ((conv => whnf); first | (show Ct _ _ _ _ _ _ ∧ True; first | (show Ct _ _ 219 _ _ _ ∧ True; (refine And.intro (s_in _ _ _ (fun c c2 => ?_) (fun c => ?_)) trivial <;> (try simp (disch := omega) only [Nat.reduceAdd, qc_i, qc_r, qc_n, qc_l, wd, wA, wI, wL, wJ, u2_rd, u2_ne, u2_nj, u1_eq, u1_ne, mT2, mS2, mT3, mS3, mT4, mS4, mT5, mS5, mT12, mS12, mT16, mS16, mT60, mS60, nI_add, nI_1, sb1, nI_clamp, cl0, cl1, cl2, not_true_eq_false, not_false_eq_true, Int32.lt_iff_toInt_lt, Int32.le_iff_toInt_le, ← Int32.toInt_inj, nI_toInt, nTm100, nTm10, nTm9, nTm4, nTm3, nTm2, nTm1, nT0, nT1, nT2, nT3, nT4, nT5, nT6, nT8, nT9, nT10, nT12, nT16, nT20, nT24, e6, eb, hw.2, Int32.toInt_toInt64, lkT0, lkT1, lkT2, lkT3, lkT4, lkT5, lkT6, lkT7, lkT8, lkT9, lkT10, lkT11, lkT12, lkT13, lkT14, lkT15, lkT16, lkT17, lkT18, lkT19] at c) <;> (try simp (disch := omega) only [Nat.reduceAdd, qc_i, qc_r, qc_n, qc_l, wd, wA, wI, wL, wJ, u2_rd, u2_ne, u2_nj, u1_eq, u1_ne, mT2, mS2, mT3, mS3, mT4, mS4, mT5, mS5, mT12, mS12, mT16, mS16, mT60, mS60, nI_add, nI_1, sb1, nI_clamp, cl0, cl1, cl2, not_true_eq_false, not_false_eq_true, Int32.lt_iff_toInt_lt, Int32.le_iff_toInt_le, ← Int32.toInt_inj, nI_toInt, nTm100, nTm10, nTm9, nTm4, nTm3, nTm2, nTm1, nT0, nT1, nT2, nT3, nT4, nT5, nT6, nT8, nT9, nT10, nT12, nT16, nT20, nT24, e6, eb, hw.2, Int32.toInt_toInt64, lkT0, lkT1, lkT2, lkT3, lkT4, lkT5, lkT6, lkT7, lkT8, lkT9, lkT10, lkT11, lkT12, lkT13, lkT14, lkT15, lkT16, lkT17, lkT18, lkT19] at c2) <;> try (exfalso; omega))) | (refine And.intro (Ct_rn rfl (fun _ => ?_)) trivial)) | (refine And.intro (fun c => absurd c i10) (fun _ => ?_)) | (refine And.intro (fun _ => ?_) (fun c => absurd c i10)) | (refine And.intro (fun c => absurd rfl c) (fun _ => ?_)) | (refine And.intro (fun _ => ?_) (fun c => absurd rfl c)) | (refine And.intro (fun c => absurd c i01) (fun _ => ?_)) | (refine And.intro (fun _ => ?_) (fun c => absurd c i01)) | (refine And.intro (fun c => ?_) (fun c => ?_) <;> (try simp (disch := omega) only [Nat.reduceAdd, qc_i, qc_r, qc_n, qc_l, wd, wA, wI, wL, wJ, u2_rd, u2_ne, u2_nj, u1_eq, u1_ne, mT2, mS2, mT3, mS3, mT4, mS4, mT5, mS5, mT12, mS12, mT16, mS16, mT60, mS60, nI_add, nI_1, sb1, nI_clamp, cl0, cl1, cl2, not_true_eq_false, not_false_eq_true, Int32.lt_iff_toInt_lt, Int32.le_iff_toInt_le, ← Int32.toInt_inj, nI_toInt, nTm100, nTm10, nTm9, nTm4, nTm3, nTm2, nTm1, nT0, nT1, nT2, nT3, nT4, nT5, nT6, nT8, nT9, nT10, nT12, nT16, nT20, nT24, e6, eb, hw.2] at c) <;> try (first | exact absurd rfl c | (exfalso; omega))) | (refine And.intro (a := vq _ _) (by unfold vq; (conv => rhs; rhs; arg 1; whnf); (try simp (disch := omega) only [Nat.reduceAdd, qc_i, qc_r, qc_n, qc_l, wd, wA, wI, wL, wJ, u2_rd, u2_ne, u2_nj, u1_eq, u1_ne, mT2, mS2, mT3, mS3, mT4, mS4, mT5, mS5, mT12, mS12, mT16, mS16, mT60, mS60, nI_add, nI_1, sb1, nI_clamp, cl0, cl1, cl2, not_true_eq_false, not_false_eq_true, Int32.lt_iff_toInt_lt, Int32.le_iff_toInt_le, ← Int32.toInt_inj, nI_toInt, nTm100, nTm10, nTm9, nTm4, nTm3, nTm2, nTm1, nT0, nT1, nT2, nT3, nT4, nT5, nT6, nT8, nT9, nT10, nT12, nT16, nT20, nT24, e6, eb, hw.2]); omega) ?_) | (refine And.intro (Or.inl rfl) ?_) | (refine And.intro (Or.inr rfl) ?_) | (refine And.intro (And.intro (by decide) trivial) ?_) | fail); all_goals (try (conv => whnf))
      simp (disch := omega) only [Nat.reduceAdd, qc_i, qc_r, qc_n, qc_l, wd, wA, wI, wL, wJ, u2_rd, u2_ne, u2_nj, u1_eq, u1_ne, mT2, mS2, mT3, mS3, mT4, mS4, mT5, mS5, mT12, mS12, mT16, mS16, mT60, mS60, nI_add, nI_1, sb1, nI_clamp, cl0, cl1, cl2, hw.2]
      exact hi
    · rw [z, if_pos rfl] at eb
      rw [z, if_pos ⟨hpq, rfl⟩, if_neg (fun h => Bool.false_ne_true h.2.symm)] at hi
      repeat' ((conv => whnf); first | (show Ct _ _ _ _ _ _ ∧ True; first | (show Ct _ _ 219 _ _ _ ∧ True; (refine And.intro (s_in _ _ _ (fun c c2 => ?_) (fun c => ?_)) trivial <;> (try simp (disch := omega) only [Nat.reduceAdd, qc_i, qc_r, qc_n, qc_l, wd, wA, wI, wL, wJ, u2_rd, u2_ne, u2_nj, u1_eq, u1_ne, mT2, mS2, mT3, mS3, mT4, mS4, mT5, mS5, mT12, mS12, mT16, mS16, mT60, mS60, nI_add, nI_1, sb1, nI_clamp, cl0, cl1, cl2, not_true_eq_false, not_false_eq_true, Int32.lt_iff_toInt_lt, Int32.le_iff_toInt_le, ← Int32.toInt_inj, nI_toInt, nTm100, nTm10, nTm9, nTm4, nTm3, nTm2, nTm1, nT0, nT1, nT2, nT3, nT4, nT5, nT6, nT8, nT9, nT10, nT12, nT16, nT20, nT24, e6, eb, hw.2, Int32.toInt_toInt64, lkT0, lkT1, lkT2, lkT3, lkT4, lkT5, lkT6, lkT7, lkT8, lkT9, lkT10, lkT11, lkT12, lkT13, lkT14, lkT15, lkT16, lkT17, lkT18, lkT19] at c) <;> (try simp (disch := omega) only [Nat.reduceAdd, qc_i, qc_r, qc_n, qc_l, wd, wA, wI, wL, wJ, u2_rd, u2_ne, u2_nj, u1_eq, u1_ne, mT2, mS2, mT3, mS3, mT4, mS4, mT5, mS5, mT12, mS12, mT16, mS16, mT60, mS60, nI_add, nI_1, sb1, nI_clamp, cl0, cl1, cl2, not_true_eq_false, not_false_eq_true, Int32.lt_iff_toInt_lt, Int32.le_iff_toInt_le, ← Int32.toInt_inj, nI_toInt, nTm100, nTm10, nTm9, nTm4, nTm3, nTm2, nTm1, nT0, nT1, nT2, nT3, nT4, nT5, nT6, nT8, nT9, nT10, nT12, nT16, nT20, nT24, e6, eb, hw.2, Int32.toInt_toInt64, lkT0, lkT1, lkT2, lkT3, lkT4, lkT5, lkT6, lkT7, lkT8, lkT9, lkT10, lkT11, lkT12, lkT13, lkT14, lkT15, lkT16, lkT17, lkT18, lkT19] at c2) <;> try (exfalso; omega))) | (refine And.intro (Ct_rn rfl (fun _ => ?_)) trivial)) | (refine And.intro (fun c => absurd c i10) (fun _ => ?_)) | (refine And.intro (fun _ => ?_) (fun c => absurd c i10)) | (refine And.intro (fun c => absurd rfl c) (fun _ => ?_)) | (refine And.intro (fun _ => ?_) (fun c => absurd rfl c)) | (refine And.intro (fun c => absurd c i01) (fun _ => ?_)) | (refine And.intro (fun _ => ?_) (fun c => absurd c i01)) | (refine And.intro (fun c => ?_) (fun c => ?_) <;> (try simp (disch := omega) only [Nat.reduceAdd, qc_i, qc_r, qc_n, qc_l, wd, wA, wI, wL, wJ, u2_rd, u2_ne, u2_nj, u1_eq, u1_ne, mT2, mS2, mT3, mS3, mT4, mS4, mT5, mS5, mT12, mS12, mT16, mS16, mT60, mS60, nI_add, nI_1, sb1, nI_clamp, cl0, cl1, cl2, not_true_eq_false, not_false_eq_true, Int32.lt_iff_toInt_lt, Int32.le_iff_toInt_le, ← Int32.toInt_inj, nI_toInt, nTm100, nTm10, nTm9, nTm4, nTm3, nTm2, nTm1, nT0, nT1, nT2, nT3, nT4, nT5, nT6, nT8, nT9, nT10, nT12, nT16, nT20, nT24, e6, eb, hw.2] at c) <;> try (first | exact absurd rfl c | (exfalso; omega))) | (refine And.intro (a := vq _ _) (by unfold vq; (conv => rhs; rhs; arg 1; whnf); (try simp (disch := omega) only [Nat.reduceAdd, qc_i, qc_r, qc_n, qc_l, wd, wA, wI, wL, wJ, u2_rd, u2_ne, u2_nj, u1_eq, u1_ne, mT2, mS2, mT3, mS3, mT4, mS4, mT5, mS5, mT12, mS12, mT16, mS16, mT60, mS60, nI_add, nI_1, sb1, nI_clamp, cl0, cl1, cl2, not_true_eq_false, not_false_eq_true, Int32.lt_iff_toInt_lt, Int32.le_iff_toInt_le, ← Int32.toInt_inj, nI_toInt, nTm100, nTm10, nTm9, nTm4, nTm3, nTm2, nTm1, nT0, nT1, nT2, nT3, nT4, nT5, nT6, nT8, nT9, nT10, nT12, nT16, nT20, nT24, e6, eb, hw.2]); omega) ?_) | (refine And.intro (Or.inl rfl) ?_) | (refine And.intro (Or.inr rfl) ?_) | (refine And.intro (And.intro (by decide) trivial) ?_) | fail); all_goals (try (conv => whnf))
      simp (disch := omega) only [Nat.reduceAdd, qc_i, qc_r, qc_n, qc_l, wd, wA, wI, wL, wJ, u2_rd, u2_ne, u2_nj, u1_eq, u1_ne, mT2, mS2, mT3, mS3, mT4, mS4, mT5, mS5, mT12, mS12, mT16, mS16, mT60, mS60, nI_add, nI_1, sb1, nI_clamp, cl0, cl1, cl2, hw.2]
      exact hi
  · have : q = n := by omega
    subst this
    exact hX
end
