theorem nI_shl (a : Nat) {k : Nat} (hk : k < 32) : nI a <<< (nI k &&& 31) = nI (a * 2 ^ k) := by
  apply Int32.toBitVec_inj.mp
  rw [shl_bv _ _ hk]
  show BitVec.ofNat 32 a <<< k = BitVec.ofNat 32 (a * 2 ^ k)
  apply BitVec.eq_of_toNat_eq
  rw [BitVec.toNat_shiftLeft, BitVec.toNat_ofNat, BitVec.toNat_ofNat, Nat.shiftLeft_eq]
  exact Nat.mod_mul_mod _ _ _
section
variable {x y l Rw : List Nat}
theorem bk_E (h : lR (x ++ y)) (h4 : (x ++ y).length ≤ 4) : (nI (cdL (x ++ y)) <<< (nI x.length * 5 &&& 31)) &&& 1048575 = nI (cdL y) := by
  have hl : x.length ≤ 4 := by rw [List.length_append] at h4; omega
  rw [mT5, nI_shl _ (by omega), show (1048575 : Int32) = nI (2 ^ 20 - 1) from rfl, nI_and, Nat.and_two_pow_sub_one_eq_mod, show 5 * x.length = x.length * 5 by omega, p2, show (2 : Nat) ^ 20 = 1048576 from rfl, cdL_bk h h4]
theorem jrow_E (hR : lR Rw) (hl : lR l) (h4 : l.length ≤ 4) (h12 : (Rw ++ l).length ≤ 12) : (lN (rNm Rw) <<< ((nI l.length * 5).toInt64 &&& 63)) ||| (nI (cdL l) >>> (((4 : Int32) - nI l.length) * 5 &&& 31)).toInt64 = lN (rNm (Rw ++ l)) := by
  have hb := rNm_b hl
  have hc := cdL_b hl h4
  have hb4 : 32 ^ l.length ≤ 32 ^ 4 := Nat.pow_le_pow_right (by omega) h4
  rw [p20] at hb4
  have e1 : cdL l / 2 ^ (5 * (4 - l.length)) = rNm l := by
    rw [Nat.mul_comm 5, p2]
    exact Nat.mul_div_cancel _ (Nat.pow_pos (by omega))
  have e2 : 2 ^ (5 * l.length) = 32 ^ l.length := by rw [Nat.mul_comm 5, p2]
  rw [show (4 : Int32) - nI l.length = nI (4 - l.length) from pk_sub (a := 4) h4, mT5, mT5, pk_shrN (by omega) _ (5 * (4 - l.length)) (sm32 _ (by omega)), e1, nI_l (by omega), nI_l (by omega), lN_shl _ (by omega), lN_or, rNm_app, ← e2]
  congr 1
  rw [Nat.mul_comm (rNm Rw)]
  exact (Nat.two_pow_add_eq_or_of_lt (by rw [e2]; exact hb) _).symm
end
section
variable {sc : Sc} {d : Nat} {w : Wd} {Q : Option Value → Wd → Prop} {x y l Rw : List Nat}
set_option maxHeartbeats 8000000 in
theorem sx_jrow (hR : lR Rw) (hl : lR l) (h4 : l.length ≤ 4) (h12 : (Rw ++ l).length ≤ 12) (hq : Q (some (.long (lN (rNm (Rw ++ l))))) w) : Ct sc (d + 1) 126 [.long (lN (rNm Rw)), .int (nI (cdL l)), .int (nI l.length)] w Q := by
  rw [← jrow_E hR hl h4 h12] at hq
  all_goals (refine Ct_run 300 (fun _ => ?_)); repeat' ((conv => whnf); first | (show Ct _ _ _ _ _ _ ∧ True; first | (show Ct _ _ 219 _ _ _ ∧ True; (refine And.intro (s_in _ _ _ (fun c c2 => ?_) (fun c => ?_)) trivial <;> (try simp (disch := omega) only [Nat.reduceAdd, qc_i, qc_r, qc_n, qc_l, wd, wA, wI, wL, wJ, u2_rd, u2_ne, u2_nj, u1_eq, u1_ne, mT2, mS2, mT3, mS3, mT4, mS4, mT5, mS5, mT12, mS12, mT16, mS16, mT60, mS60, nI_add, nI_1, sb1, nI_clamp, cl0, cl1, cl2, not_true_eq_false, not_false_eq_true, Int32.lt_iff_toInt_lt, Int32.le_iff_toInt_le, ← Int32.toInt_inj, nI_toInt, nTm100, nTm10, nTm9, nTm4, nTm3, nTm2, nTm1, nT0, nT1, nT2, nT3, nT4, nT5, nT6, nT8, nT9, nT10, nT12, nT16, nT20, nT24, Int32.toInt_toInt64, lkT0, lkT1, lkT2, lkT3, lkT4, lkT5, lkT6, lkT7, lkT8, lkT9, lkT10, lkT11, lkT12, lkT13, lkT14, lkT15, lkT16, lkT17, lkT18, lkT19] at c) <;> (try simp (disch := omega) only [Nat.reduceAdd, qc_i, qc_r, qc_n, qc_l, wd, wA, wI, wL, wJ, u2_rd, u2_ne, u2_nj, u1_eq, u1_ne, mT2, mS2, mT3, mS3, mT4, mS4, mT5, mS5, mT12, mS12, mT16, mS16, mT60, mS60, nI_add, nI_1, sb1, nI_clamp, cl0, cl1, cl2, not_true_eq_false, not_false_eq_true, Int32.lt_iff_toInt_lt, Int32.le_iff_toInt_le, ← Int32.toInt_inj, nI_toInt, nTm100, nTm10, nTm9, nTm4, nTm3, nTm2, nTm1, nT0, nT1, nT2, nT3, nT4, nT5, nT6, nT8, nT9, nT10, nT12, nT16, nT20, nT24, Int32.toInt_toInt64, lkT0, lkT1, lkT2, lkT3, lkT4, lkT5, lkT6, lkT7, lkT8, lkT9, lkT10, lkT11, lkT12, lkT13, lkT14, lkT15, lkT16, lkT17, lkT18, lkT19] at c2) <;> try (exfalso; omega))) | (refine And.intro (Ct_rn rfl (fun _ => ?_)) trivial)) | (refine And.intro (fun c => absurd c i10) (fun _ => ?_)) | (refine And.intro (fun _ => ?_) (fun c => absurd c i10)) | (refine And.intro (fun c => absurd rfl c) (fun _ => ?_)) | (refine And.intro (fun _ => ?_) (fun c => absurd rfl c)) | (refine And.intro (fun c => absurd c i01) (fun _ => ?_)) | (refine And.intro (fun _ => ?_) (fun c => absurd c i01)) | (refine And.intro (fun c => ?_) (fun c => ?_) <;> (try simp (disch := omega) only [Nat.reduceAdd, qc_i, qc_r, qc_n, qc_l, wd, wA, wI, wL, wJ, u2_rd, u2_ne, u2_nj, u1_eq, u1_ne, mT2, mS2, mT3, mS3, mT4, mS4, mT5, mS5, mT12, mS12, mT16, mS16, mT60, mS60, nI_add, nI_1, sb1, nI_clamp, cl0, cl1, cl2, not_true_eq_false, not_false_eq_true, Int32.lt_iff_toInt_lt, Int32.le_iff_toInt_le, ← Int32.toInt_inj, nI_toInt, nTm100, nTm10, nTm9, nTm4, nTm3, nTm2, nTm1, nT0, nT1, nT2, nT3, nT4, nT5, nT6, nT8, nT9, nT10, nT12, nT16, nT20, nT24] at c) <;> try (first | exact absurd rfl c | (exfalso; omega))) | (refine And.intro (a := vq _ _) (by unfold vq; (conv => rhs; rhs; arg 1; whnf); (try simp (disch := omega) only [Nat.reduceAdd, qc_i, qc_r, qc_n, qc_l, wd, wA, wI, wL, wJ, u2_rd, u2_ne, u2_nj, u1_eq, u1_ne, mT2, mS2, mT3, mS3, mT4, mS4, mT5, mS5, mT12, mS12, mT16, mS16, mT60, mS60, nI_add, nI_1, sb1, nI_clamp, cl0, cl1, cl2, not_true_eq_false, not_false_eq_true, Int32.lt_iff_toInt_lt, Int32.le_iff_toInt_le, ← Int32.toInt_inj, nI_toInt, nTm100, nTm10, nTm9, nTm4, nTm3, nTm2, nTm1, nT0, nT1, nT2, nT3, nT4, nT5, nT6, nT8, nT9, nT10, nT12, nT16, nT20, nT24]); omega) ?_) | (refine And.intro (Or.inl rfl) ?_) | (refine And.intro (Or.inr rfl) ?_) | (refine And.intro (And.intro (by decide) trivial) ?_) | fail); all_goals (try (conv => whnf))
  exact hq
set_option maxHeartbeats 8000000 in
theorem sx_bk (h : lR (x ++ y)) (h4 : (x ++ y).length ≤ 4) (hq : Q (some (.int (nI (cdL y)))) w) : Ct sc (d + 1) 134 [.int (nI (cdL (x ++ y))), .int (nI x.length)] w Q := by
  rw [← bk_E h h4] at hq
  all_goals (refine Ct_run 300 (fun _ => ?_)); repeat' ((conv => whnf); first | (show Ct _ _ _ _ _ _ ∧ True; first | (show Ct _ _ 219 _ _ _ ∧ True; (refine And.intro (s_in _ _ _ (fun c c2 => ?_) (fun c => ?_)) trivial <;> (try simp (disch := omega) only [Nat.reduceAdd, qc_i, qc_r, qc_n, qc_l, wd, wA, wI, wL, wJ, u2_rd, u2_ne, u2_nj, u1_eq, u1_ne, mT2, mS2, mT3, mS3, mT4, mS4, mT5, mS5, mT12, mS12, mT16, mS16, mT60, mS60, nI_add, nI_1, sb1, nI_clamp, cl0, cl1, cl2, not_true_eq_false, not_false_eq_true, Int32.lt_iff_toInt_lt, Int32.le_iff_toInt_le, ← Int32.toInt_inj, nI_toInt, nTm100, nTm10, nTm9, nTm4, nTm3, nTm2, nTm1, nT0, nT1, nT2, nT3, nT4, nT5, nT6, nT8, nT9, nT10, nT12, nT16, nT20, nT24, Int32.toInt_toInt64, lkT0, lkT1, lkT2, lkT3, lkT4, lkT5, lkT6, lkT7, lkT8, lkT9, lkT10, lkT11, lkT12, lkT13, lkT14, lkT15, lkT16, lkT17, lkT18, lkT19] at c) <;> (try simp (disch := omega) only [Nat.reduceAdd, qc_i, qc_r, qc_n, qc_l, wd, wA, wI, wL, wJ, u2_rd, u2_ne, u2_nj, u1_eq, u1_ne, mT2, mS2, mT3, mS3, mT4, mS4, mT5, mS5, mT12, mS12, mT16, mS16, mT60, mS60, nI_add, nI_1, sb1, nI_clamp, cl0, cl1, cl2, not_true_eq_false, not_false_eq_true, Int32.lt_iff_toInt_lt, Int32.le_iff_toInt_le, ← Int32.toInt_inj, nI_toInt, nTm100, nTm10, nTm9, nTm4, nTm3, nTm2, nTm1, nT0, nT1, nT2, nT3, nT4, nT5, nT6, nT8, nT9, nT10, nT12, nT16, nT20, nT24, Int32.toInt_toInt64, lkT0, lkT1, lkT2, lkT3, lkT4, lkT5, lkT6, lkT7, lkT8, lkT9, lkT10, lkT11, lkT12, lkT13, lkT14, lkT15, lkT16, lkT17, lkT18, lkT19] at c2) <;> try (exfalso; omega))) | (refine And.intro (Ct_rn rfl (fun _ => ?_)) trivial)) | (refine And.intro (fun c => absurd c i10) (fun _ => ?_)) | (refine And.intro (fun _ => ?_) (fun c => absurd c i10)) | (refine And.intro (fun c => absurd rfl c) (fun _ => ?_)) | (refine And.intro (fun _ => ?_) (fun c => absurd rfl c)) | (refine And.intro (fun c => absurd c i01) (fun _ => ?_)) | (refine And.intro (fun _ => ?_) (fun c => absurd c i01)) | (refine And.intro (fun c => ?_) (fun c => ?_) <;> (try simp (disch := omega) only [Nat.reduceAdd, qc_i, qc_r, qc_n, qc_l, wd, wA, wI, wL, wJ, u2_rd, u2_ne, u2_nj, u1_eq, u1_ne, mT2, mS2, mT3, mS3, mT4, mS4, mT5, mS5, mT12, mS12, mT16, mS16, mT60, mS60, nI_add, nI_1, sb1, nI_clamp, cl0, cl1, cl2, not_true_eq_false, not_false_eq_true, Int32.lt_iff_toInt_lt, Int32.le_iff_toInt_le, ← Int32.toInt_inj, nI_toInt, nTm100, nTm10, nTm9, nTm4, nTm3, nTm2, nTm1, nT0, nT1, nT2, nT3, nT4, nT5, nT6, nT8, nT9, nT10, nT12, nT16, nT20, nT24] at c) <;> try (first | exact absurd rfl c | (exfalso; omega))) | (refine And.intro (a := vq _ _) (by unfold vq; (conv => rhs; rhs; arg 1; whnf); (try simp (disch := omega) only [Nat.reduceAdd, qc_i, qc_r, qc_n, qc_l, wd, wA, wI, wL, wJ, u2_rd, u2_ne, u2_nj, u1_eq, u1_ne, mT2, mS2, mT3, mS3, mT4, mS4, mT5, mS5, mT12, mS12, mT16, mS16, mT60, mS60, nI_add, nI_1, sb1, nI_clamp, cl0, cl1, cl2, not_true_eq_false, not_false_eq_true, Int32.lt_iff_toInt_lt, Int32.le_iff_toInt_le, ← Int32.toInt_inj, nI_toInt, nTm100, nTm10, nTm9, nTm4, nTm3, nTm2, nTm1, nT0, nT1, nT2, nT3, nT4, nT5, nT6, nT8, nT9, nT10, nT12, nT16, nT20, nT24]); omega) ?_) | (refine And.intro (Or.inl rfl) ?_) | (refine And.intro (Or.inr rfl) ?_) | (refine And.intro (And.intro (by decide) trivial) ?_) | fail); all_goals (try (conv => whnf))
  exact hq
end
/-- how many letters a number has -/
def LtO (n s : Nat) : Prop := s ≤ 12 ∧ (∀ t, t < s → 32 ^ t ≤ n) ∧ (s = 12 ∨ n < 32 ^ s)
theorem p32_le {a b : Nat} (h : a ≤ b) : (32 : Nat) ^ a ≤ 32 ^ b := Nat.pow_le_pow_right (by omega) h
theorem rNm_ge {l : List Nat} (h : lR l) (h1 : 1 ≤ l.length) : 32 ^ (l.length - 1) ≤ rNm l := by
  cases l with
  | nil => simp at h1
  | cons x m =>
    have hx := (h x List.mem_cons_self).1
    rw [rNm_c, List.length_cons, Nat.add_sub_cancel]
    have : 1 * 32 ^ m.length ≤ x * 32 ^ m.length := Nat.mul_le_mul_right _ hx
    omega
theorem LtO_r {l : List Nat} {s : Nat} (h : lR l) (h1 : 1 ≤ l.length) (h12 : l.length ≤ 12) (hs : LtO (rNm l) s) : s = l.length := by
  obtain ⟨a1, a2, a3⟩ := hs
  have b1 := rNm_ge h h1
  have b2 := rNm_b h
  rcases Nat.lt_trichotomy s l.length with hlt | heq | hgt
  · exfalso
    rcases a3 with e | e
    · omega
    · have := p32_le (a := s) (b := l.length - 1) (by omega)
      omega
  · exact heq
  · exfalso
    have := a2 l.length hgt
    omega
/-- rows in order are numbers in order -/
theorem kyN {a b : List Nat} (ha : lR a) (hb : lR b) (ha1 : 1 ≤ a.length) (hb1 : 1 ≤ b.length) (ha2 : a.length ≤ 12) (hb2 : b.length ≤ 12) : rNm a < rNm b ↔ rKy a < rKy b := by
  have a1 := rNm_ge ha ha1
  have a2 := rNm_b ha
  have b1 := rNm_ge hb hb1
  have b2 := rNm_b hb
  have a3 := rNm_60 (lR_ok ha) ha2
  have b3 := rNm_60 (lR_ok hb) hb2
  have ka : rKy a = a.length * 1152921504606846976 + rNm a := rfl
  have kb : rKy b = b.length * 1152921504606846976 + rNm b := rfl
  rcases Nat.lt_trichotomy a.length b.length with hlt | heq | hgt
  · have h1 := p32_le (a := a.length) (b := b.length - 1) (by omega)
    have h2 : (a.length + 1) * 1152921504606846976 ≤ b.length * 1152921504606846976 := Nat.mul_le_mul_right _ hlt
    exact ⟨fun _ => by omega, fun _ => by omega⟩
  · rw [heq] at ka
    exact ⟨fun _ => by omega, fun _ => by omega⟩
  · have h1 := p32_le (a := b.length) (b := a.length - 1) (by omega)
    have h2 : (b.length + 1) * 1152921504606846976 ≤ a.length * 1152921504606846976 := Nat.mul_le_mul_right _ hgt
    exact ⟨fun _ => by omega, fun _ => by omega⟩
theorem lNl {a b : Nat} (ha : a < 2 ^ 63) (hb : b < 2 ^ 63) : lN a < lN b ↔ a < b := by
  rw [Int64.lt_iff_toInt_lt, lN_T ha, lN_T hb]
  exact ⟨fun _ => by omega, fun _ => by omega⟩
theorem mnL {a b : Nat} (ha : a < 2 ^ 63) (hb : b < 2 ^ 63) : (if lN b < lN a then lN b else lN a) = lN (if b < a then b else a) := by
  by_cases h : b < a
  · rw [if_pos h, if_pos ((lNl hb ha).mpr h)]
  · rw [if_neg h, if_neg (fun z => h ((lNl hb ha).mp z))]
theorem mxL {a b : Nat} (ha : a < 2 ^ 63) (hb : b < 2 ^ 63) : (if lN b < lN a then lN a else lN b) = lN (if b < a then a else b) := by
  by_cases h : b < a
  · rw [if_pos h, if_pos ((lNl hb ha).mpr h)]
  · rw [if_neg h, if_neg (fun z => h ((lNl hb ha).mp z))]
section
variable {sc : Sc} {d : Nat} {w : Wd} {Q : Option Value → Wd → Prop} {K : Kt} {n : Nat}
set_option maxHeartbeats 8000000 in
theorem lx_lof (hK : am_cl sc (Ct sc d) 331 Q K) (hn : n < 2 ^ 63) (hq : ∀ s, LtO n s → Q (some (.int (nI s))) w) : ∀ s, s ≤ 12 → (∀ t, t < s → 32 ^ t ≤ n) → K 2 [some (.long (lN n)), none, some (.int (nI s))] [] w 0 0 := by
  refine upI fun s hs ih h => ?_
  refine am_go hK sp331 300 ?_
  rcases Nat.lt_or_ge s 12 with hs2 | hs2
  · have e : lN n >>> ((nI (5 * s)).toInt64 &&& 63) = lN (n / 32 ^ s) := by
      rw [nI_l (by omega), lN_shr hn (by omega), Nat.mul_comm 5, p2]
    have hdv := Nat.div_le_self n (32 ^ s)
    have lg := lg_E (a := n / 32 ^ s) (b := 0) (by omega) (by omega)
    by_cases hc : 32 ^ s ≤ n
    · have hpos : 0 < n / 32 ^ s := Nat.div_pos hc (Nat.pow_pos (by omega))
      rw [if_pos hpos] at lg
      have lg : lg_cmp (lN (n / 32 ^ s)) (lkc 2) = 1 := lg
      have ih := ih hs2 (fun t ht => by
        by_cases e : t = s
        · rw [e]; exact hc
        · exact h t (by omega))
      repeat' ((conv => whnf); first | (show Ct _ _ _ _ _ _ ∧ True; first | (show Ct _ _ 219 _ _ _ ∧ True; (refine And.intro (s_in _ _ _ (fun c c2 => ?_) (fun c => ?_)) trivial <;> (try simp (disch := omega) only [Nat.reduceAdd, qc_i, qc_r, qc_n, qc_l, wd, wA, wI, wL, wJ, u2_rd, u2_ne, u2_nj, u1_eq, u1_ne, mT2, mS2, mT3, mS3, mT4, mS4, mT5, mS5, mT12, mS12, mT16, mS16, mT60, mS60, nI_add, nI_1, sb1, nI_clamp, cl0, cl1, cl2, not_true_eq_false, not_false_eq_true, Int32.lt_iff_toInt_lt, Int32.le_iff_toInt_le, ← Int32.toInt_inj, nI_toInt, nTm100, nTm10, nTm9, nTm4, nTm3, nTm2, nTm1, nT0, nT1, nT2, nT3, nT4, nT5, nT6, nT8, nT9, nT10, nT12, nT16, nT20, nT24, e, lg, Int32.toInt_toInt64, lkT0, lkT1, lkT2, lkT3, lkT4, lkT5, lkT6, lkT7, lkT8, lkT9, lkT10, lkT11, lkT12, lkT13, lkT14, lkT15, lkT16, lkT17, lkT18, lkT19] at c) <;> (try simp (disch := omega) only [Nat.reduceAdd, qc_i, qc_r, qc_n, qc_l, wd, wA, wI, wL, wJ, u2_rd, u2_ne, u2_nj, u1_eq, u1_ne, mT2, mS2, mT3, mS3, mT4, mS4, mT5, mS5, mT12, mS12, mT16, mS16, mT60, mS60, nI_add, nI_1, sb1, nI_clamp, cl0, cl1, cl2, not_true_eq_false, not_false_eq_true, Int32.lt_iff_toInt_lt, Int32.le_iff_toInt_le, ← Int32.toInt_inj, nI_toInt, nTm100, nTm10, nTm9, nTm4, nTm3, nTm2, nTm1, nT0, nT1, nT2, nT3, nT4, nT5, nT6, nT8, nT9, nT10, nT12, nT16, nT20, nT24, e, lg, Int32.toInt_toInt64, lkT0, lkT1, lkT2, lkT3, lkT4, lkT5, lkT6, lkT7, lkT8, lkT9, lkT10, lkT11, lkT12, lkT13, lkT14, lkT15, lkT16, lkT17, lkT18, lkT19] at c2) <;> try (exfalso; omega))) | (refine And.intro (Ct_rn rfl (fun _ => ?_)) trivial)) | (refine And.intro (fun c => absurd c i10) (fun _ => ?_)) | (refine And.intro (fun _ => ?_) (fun c => absurd c i10)) | (refine And.intro (fun c => absurd rfl c) (fun _ => ?_)) | (refine And.intro (fun _ => ?_) (fun c => absurd rfl c)) | (refine And.intro (fun c => absurd c i01) (fun _ => ?_)) | (refine And.intro (fun _ => ?_) (fun c => absurd c i01)) | (refine And.intro (fun c => ?_) (fun c => ?_) <;> (try simp (disch := omega) only [Nat.reduceAdd, qc_i, qc_r, qc_n, qc_l, wd, wA, wI, wL, wJ, u2_rd, u2_ne, u2_nj, u1_eq, u1_ne, mT2, mS2, mT3, mS3, mT4, mS4, mT5, mS5, mT12, mS12, mT16, mS16, mT60, mS60, nI_add, nI_1, sb1, nI_clamp, cl0, cl1, cl2, not_true_eq_false, not_false_eq_true, Int32.lt_iff_toInt_lt, Int32.le_iff_toInt_le, ← Int32.toInt_inj, nI_toInt, nTm100, nTm10, nTm9, nTm4, nTm3, nTm2, nTm1, nT0, nT1, nT2, nT3, nT4, nT5, nT6, nT8, nT9, nT10, nT12, nT16, nT20, nT24, e, lg] at c) <;> try (first | exact absurd rfl c | (exfalso; omega))) | (refine And.intro (a := vq _ _) (by unfold vq; (conv => rhs; rhs; arg 1; whnf); (try simp (disch := omega) only [Nat.reduceAdd, qc_i, qc_r, qc_n, qc_l, wd, wA, wI, wL, wJ, u2_rd, u2_ne, u2_nj, u1_eq, u1_ne, mT2, mS2, mT3, mS3, mT4, mS4, mT5, mS5, mT12, mS12, mT16, mS16, mT60, mS60, nI_add, nI_1, sb1, nI_clamp, cl0, cl1, cl2, not_true_eq_false, not_false_eq_true, Int32.lt_iff_toInt_lt, Int32.le_iff_toInt_le, ← Int32.toInt_inj, nI_toInt, nTm100, nTm10, nTm9, nTm4, nTm3, nTm2, nTm1, nT0, nT1, nT2, nT3, nT4, nT5, nT6, nT8, nT9, nT10, nT12, nT16, nT20, nT24, e, lg]); omega) ?_) | (refine And.intro (Or.inl rfl) ?_) | (refine And.intro (Or.inr rfl) ?_) | (refine And.intro (And.intro (by decide) trivial) ?_) | fail); all_goals (try (conv => whnf))
      simp (disch := omega) only [Nat.reduceAdd, qc_i, qc_r, qc_n, qc_l, wd, wA, wI, wL, wJ, u2_rd, u2_ne, u2_nj, u1_eq, u1_ne, mT2, mS2, mT3, mS3, mT4, mS4, mT5, mS5, mT12, mS12, mT16, mS16, mT60, mS60, nI_add, nI_1, sb1, nI_clamp, cl0, cl1, cl2]
      exact ih
    · have hz : n / 32 ^ s = 0 := Nat.div_eq_of_lt (by omega)
      have lg : lg_cmp (lN (n / 32 ^ s)) (lkc 2) = 0 := by
        rw [hz] at lg ⊢
        exact lg
      have hq := hq s ⟨hs, h, Or.inr (by omega)⟩
      repeat' ((conv => whnf); first | (show Ct _ _ _ _ _ _ ∧ True; first | (show Ct _ _ 219 _ _ _ ∧ True; (refine And.intro (s_in _ _ _ (fun c c2 => ?_) (fun c => ?_)) trivial <;> (try simp (disch := omega) only [Nat.reduceAdd, qc_i, qc_r, qc_n, qc_l, wd, wA, wI, wL, wJ, u2_rd, u2_ne, u2_nj, u1_eq, u1_ne, mT2, mS2, mT3, mS3, mT4, mS4, mT5, mS5, mT12, mS12, mT16, mS16, mT60, mS60, nI_add, nI_1, sb1, nI_clamp, cl0, cl1, cl2, not_true_eq_false, not_false_eq_true, Int32.lt_iff_toInt_lt, Int32.le_iff_toInt_le, ← Int32.toInt_inj, nI_toInt, nTm100, nTm10, nTm9, nTm4, nTm3, nTm2, nTm1, nT0, nT1, nT2, nT3, nT4, nT5, nT6, nT8, nT9, nT10, nT12, nT16, nT20, nT24, e, lg, Int32.toInt_toInt64, lkT0, lkT1, lkT2, lkT3, lkT4, lkT5, lkT6, lkT7, lkT8, lkT9, lkT10, lkT11, lkT12, lkT13, lkT14, lkT15, lkT16, lkT17, lkT18, lkT19] at c) <;> (try simp (disch := omega) only [Nat.reduceAdd, qc_i, qc_r, qc_n, qc_l, wd, wA, wI, wL, wJ, u2_rd, u2_ne, u2_nj, u1_eq, u1_ne, mT2, mS2, mT3, mS3, mT4, mS4, mT5, mS5, mT12, mS12, mT16, mS16, mT60, mS60, nI_add, nI_1, sb1, nI_clamp, cl0, cl1, cl2, not_true_eq_false, not_false_eq_true, Int32.lt_iff_toInt_lt, Int32.le_iff_toInt_le, ← Int32.toInt_inj, nI_toInt, nTm100, nTm10, nTm9, nTm4, nTm3, nTm2, nTm1, nT0, nT1, nT2, nT3, nT4, nT5, nT6, nT8, nT9, nT10, nT12, nT16, nT20, nT24, e, lg, Int32.toInt_toInt64, lkT0, lkT1, lkT2, lkT3, lkT4, lkT5, lkT6, lkT7, lkT8, lkT9, lkT10, lkT11, lkT12, lkT13, lkT14, lkT15, lkT16, lkT17, lkT18, lkT19] at c2) <;> try (exfalso; omega))) | (refine And.intro (Ct_rn rfl (fun _ => ?_)) trivial)) | (refine And.intro (fun c => absurd c i10) (fun _ => ?_)) | (refine And.intro (fun _ => ?_) (fun c => absurd c i10)) | (refine And.intro (fun c => absurd rfl c) (fun _ => ?_)) | (refine And.intro (fun _ => ?_) (fun c => absurd rfl c)) | (refine And.intro (fun c => absurd c i01) (fun _ => ?_)) | (refine And.intro (fun _ => ?_) (fun c => absurd c i01)) | (refine And.intro (fun c => ?_) (fun c => ?_) <;> (try simp (disch := omega) only [Nat.reduceAdd, qc_i, qc_r, qc_n, qc_l, wd, wA, wI, wL, wJ, u2_rd, u2_ne, u2_nj, u1_eq, u1_ne, mT2, mS2, mT3, mS3, mT4, mS4, mT5, mS5, mT12, mS12, mT16, mS16, mT60, mS60, nI_add, nI_1, sb1, nI_clamp, cl0, cl1, cl2, not_true_eq_false, not_false_eq_true, Int32.lt_iff_toInt_lt, Int32.le_iff_toInt_le, ← Int32.toInt_inj, nI_toInt, nTm100, nTm10, nTm9, nTm4, nTm3, nTm2, nTm1, nT0, nT1, nT2, nT3, nT4, nT5, nT6, nT8, nT9, nT10, nT12, nT16, nT20, nT24, e, lg] at c) <;> try (first | exact absurd rfl c | (exfalso; omega))) | (refine And.intro (a := vq _ _) (by unfold vq; (conv => rhs; rhs; arg 1; whnf); (try simp (disch := omega) only [Nat.reduceAdd, qc_i, qc_r, qc_n, qc_l, wd, wA, wI, wL, wJ, u2_rd, u2_ne, u2_nj, u1_eq, u1_ne, mT2, mS2, mT3, mS3, mT4, mS4, mT5, mS5, mT12, mS12, mT16, mS16, mT60, mS60, nI_add, nI_1, sb1, nI_clamp, cl0, cl1, cl2, not_true_eq_false, not_false_eq_true, Int32.lt_iff_toInt_lt, Int32.le_iff_toInt_le, ← Int32.toInt_inj, nI_toInt, nTm100, nTm10, nTm9, nTm4, nTm3, nTm2, nTm1, nT0, nT1, nT2, nT3, nT4, nT5, nT6, nT8, nT9, nT10, nT12, nT16, nT20, nT24, e, lg]); omega) ?_) | (refine And.intro (Or.inl rfl) ?_) | (refine And.intro (Or.inr rfl) ?_) | (refine And.intro (And.intro (by decide) trivial) ?_) | fail); all_goals (try (conv => whnf))
      exact hq
  · have : s = 12 := by omega
    subst this
    have hq := hq 12 ⟨hs, h, Or.inl rfl⟩
    repeat' ((conv => whnf); first | (show Ct _ _ _ _ _ _ ∧ True; first | (show Ct _ _ 219 _ _ _ ∧ True; (refine And.intro (s_in _ _ _ (fun c c2 => ?_) (fun c => ?_)) trivial <;> (try simp (disch := omega) only [Nat.reduceAdd, qc_i, qc_r, qc_n, qc_l, wd, wA, wI, wL, wJ, u2_rd, u2_ne, u2_nj, u1_eq, u1_ne, mT2, mS2, mT3, mS3, mT4, mS4, mT5, mS5, mT12, mS12, mT16, mS16, mT60, mS60, nI_add, nI_1, sb1, nI_clamp, cl0, cl1, cl2, not_true_eq_false, not_false_eq_true, Int32.lt_iff_toInt_lt, Int32.le_iff_toInt_le, ← Int32.toInt_inj, nI_toInt, nTm100, nTm10, nTm9, nTm4, nTm3, nTm2, nTm1, nT0, nT1, nT2, nT3, nT4, nT5, nT6, nT8, nT9, nT10, nT12, nT16, nT20, nT24, Int32.toInt_toInt64, lkT0, lkT1, lkT2, lkT3, lkT4, lkT5, lkT6, lkT7, lkT8, lkT9, lkT10, lkT11, lkT12, lkT13, lkT14, lkT15, lkT16, lkT17, lkT18, lkT19] at c) <;> (try simp (disch := omega) only [Nat.reduceAdd, qc_i, qc_r, qc_n, qc_l, wd, wA, wI, wL, wJ, u2_rd, u2_ne, u2_nj, u1_eq, u1_ne, mT2, mS2, mT3, mS3, mT4, mS4, mT5, mS5, mT12, mS12, mT16, mS16, mT60, mS60, nI_add, nI_1, sb1, nI_clamp, cl0, cl1, cl2, not_true_eq_false, not_false_eq_true, Int32.lt_iff_toInt_lt, Int32.le_iff_toInt_le, ← Int32.toInt_inj, nI_toInt, nTm100, nTm10, nTm9, nTm4, nTm3, nTm2, nTm1, nT0, nT1, nT2, nT3, nT4, nT5, nT6, nT8, nT9, nT10, nT12, nT16, nT20, nT24, Int32.toInt_toInt64, lkT0, lkT1, lkT2, lkT3, lkT4, lkT5, lkT6, lkT7, lkT8, lkT9, lkT10, lkT11, lkT12, lkT13, lkT14, lkT15, lkT16, lkT17, lkT18, lkT19] at c2) <;> try (exfalso; omega))) | (refine And.intro (Ct_rn rfl (fun _ => ?_)) trivial)) | (refine And.intro (fun c => absurd c i10) (fun _ => ?_)) | (refine And.intro (fun _ => ?_) (fun c => absurd c i10)) | (refine And.intro (fun c => absurd rfl c) (fun _ => ?_)) | (refine And.intro (fun _ => ?_) (fun c => absurd rfl c)) | (refine And.intro (fun c => absurd c i01) (fun _ => ?_)) | (refine And.intro (fun _ => ?_) (fun c => absurd c i01)) | (refine And.intro (fun c => ?_) (fun c => ?_) <;> (try simp (disch := omega) only [Nat.reduceAdd, qc_i, qc_r, qc_n, qc_l, wd, wA, wI, wL, wJ, u2_rd, u2_ne, u2_nj, u1_eq, u1_ne, mT2, mS2, mT3, mS3, mT4, mS4, mT5, mS5, mT12, mS12, mT16, mS16, mT60, mS60, nI_add, nI_1, sb1, nI_clamp, cl0, cl1, cl2, not_true_eq_false, not_false_eq_true, Int32.lt_iff_toInt_lt, Int32.le_iff_toInt_le, ← Int32.toInt_inj, nI_toInt, nTm100, nTm10, nTm9, nTm4, nTm3, nTm2, nTm1, nT0, nT1, nT2, nT3, nT4, nT5, nT6, nT8, nT9, nT10, nT12, nT16, nT20, nT24] at c) <;> try (first | exact absurd rfl c | (exfalso; omega))) | (refine And.intro (a := vq _ _) (by unfold vq; (conv => rhs; rhs; arg 1; whnf); (try simp (disch := omega) only [Nat.reduceAdd, qc_i, qc_r, qc_n, qc_l, wd, wA, wI, wL, wJ, u2_rd, u2_ne, u2_nj, u1_eq, u1_ne, mT2, mS2, mT3, mS3, mT4, mS4, mT5, mS5, mT12, mS12, mT16, mS16, mT60, mS60, nI_add, nI_1, sb1, nI_clamp, cl0, cl1, cl2, not_true_eq_false, not_false_eq_true, Int32.lt_iff_toInt_lt, Int32.le_iff_toInt_le, ← Int32.toInt_inj, nI_toInt, nTm100, nTm10, nTm9, nTm4, nTm3, nTm2, nTm1, nT0, nT1, nT2, nT3, nT4, nT5, nT6, nT8, nT9, nT10, nT12, nT16, nT20, nT24]); omega) ?_) | (refine And.intro (Or.inl rfl) ?_) | (refine And.intro (Or.inr rfl) ?_) | (refine And.intro (And.intro (by decide) trivial) ?_) | fail); all_goals (try (conv => whnf))
    exact hq
theorem sx_lof (hn : n < 2 ^ 63) (hq : ∀ s, LtO n s → Q (some (.int (nI s))) w) : Ct sc (d + 1) 331 [.long (lN n)] w Q := by
  intro K hK
  refine am_go hK sp331 300 ?_
  (conv => whnf)
  exact lx_lof hK hn hq 0 (by omega) (fun t ht => absurd ht (by omega))
end
