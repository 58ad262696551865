def buI (b : Nat) : Int32 := if b = 99 then -1 else nI b
/-- the least row found so far, by its key -/
def TsO (J : Nat → Nat → Int64) (S : Nat) : Prop := (S = 14987979559889010688 ∧ J 15 5 = lN 1152921504606846976) ∨ ∃ R, lR R ∧ 1 ≤ R.length ∧ R.length ≤ 12 ∧ S = rKy R ∧ J 15 5 = lN (rNm R)
/-- the table as it is held, and the greatest row of it -/
def TwO (L J : Nat → Nat → Int64) (F : Nat → Option (List Nat)) (S fa : Nat) : Prop := (∀ i, i < 1728 → (F i = none ∧ L 17 i = lN 1152921504606846976) ∨ ∃ R, F i = some R ∧ lR R ∧ 1 ≤ R.length ∧ R.length ≤ 12 ∧ rNm R ≤ fa ∧ L 17 i = lN (rNm R)) ∧ fa < 1152921504606846976 ∧ J 15 4 = lN fa ∧ TsO J S
def LF (L L' : Nat → Nat → Int64) : Prop := ∀ k, k ≠ 17 → L' k = L k
theorem mT24 (a : Nat) : nI a * 24 = nI (24 * a) := by rw [show (24 : Int32) = nI 24 from rfl, pk_mul, Nat.mul_comm]
theorem mT576 (a : Nat) : nI a * 576 = nI (576 * a) := by rw [show (576 : Int32) = nI 576 from rfl, pk_mul, Nat.mul_comm]
section
variable {L J : Nat → Nat → Int64} {F : Nat → Option (List Nat)} {S fa i : Nat} {R : List Nat}
theorem tw_off (hO : TwO L J F S fa) (hR : lR R) (h1 : 1 ≤ R.length) (h12 : R.length ≤ 12) (hi : i < 1728) : TwO (u2 L 17 i (if lN (rNm R) < L 17 i then lN (rNm R) else L 17 i)) (u2 J 15 4 (if lN (rNm R) < J 15 4 then J 15 4 else lN (rNm R))) (offH F i R) S (if rNm R < fa then fa else rNm R) := by
  obtain ⟨o1, o2, o3, o4⟩ := hO
  have hb := rNm_60 (lR_ok hR) h12
  have hfa : fa ≤ (if rNm R < fa then fa else rNm R) ∧ rNm R ≤ (if rNm R < fa then fa else rNm R) := by
    by_cases h : rNm R < fa
    · rw [if_pos h]; omega
    · rw [if_neg h]; omega
  refine ⟨fun j hj => ?_, ?_, ?_, ?_⟩
  · by_cases e : j = i
    · subst e
      rw [u2_rd]
      rcases o1 j hj with ⟨a1, a2⟩ | ⟨o, a1, a2, a3, a4, a5, a6⟩
      · rw [off_N a1, u1_eq, a2, mnL (by omega) (by omega), if_pos hb]
        exact Or.inr ⟨R, rfl, hR, h1, h12, hfa.2, rfl⟩
      · have bo := rNm_60 (lR_ok a2) a4
        have hk := kyN hR a2 h1 a3 h12 a4
        rw [off_S a1, a6, mnL (by omega) (by omega)]
        by_cases h : rNm R < rNm o
        · rw [if_pos h, if_pos (hk.mp h), u1_eq]
          exact Or.inr ⟨R, rfl, hR, h1, h12, hfa.2, rfl⟩
        · rw [if_neg h, if_neg (fun z => h (hk.mpr z))]
          exact Or.inr ⟨o, a1, a2, a3, a4, Nat.le_trans a5 hfa.1, rfl⟩
    · rw [off_ne e, u2_nj e]
      rcases o1 j hj with z | ⟨o, a1, a2, a3, a4, a5, a6⟩
      · exact Or.inl z
      · exact Or.inr ⟨o, a1, a2, a3, a4, Nat.le_trans a5 hfa.1, a6⟩
  · by_cases h : rNm R < fa
    · rw [if_pos h]; exact o2
    · rw [if_neg h]; exact hb
  · rw [u2_rd, o3, mxL (by omega) (by omega)]
  · unfold TsO
    rw [u2_nj (by omega)]
    exact o4
theorem tw_meet (hO : TwO L J F S fa) (hR : lR R) (h1 : 1 ≤ R.length) (h12 : R.length ≤ 12) : ∃ S2, TwO L (u2 J 15 5 (if lN (rNm R) < J 15 5 then lN (rNm R) else J 15 5)) F S2 fa ∧ S2 ≤ S ∧ S2 ≤ rKy R ∧ (S2 = S ∨ S2 = rKy R) := by
  obtain ⟨o1, o2, o3, o4⟩ := hO
  have hb := rNm_60 (lR_ok hR) h12
  have hk : rKy R = R.length * 1152921504606846976 + rNm R := rfl
  have o3' : ∀ v, u2 J 15 5 v 15 4 = lN fa := fun v => by rw [u2_nj (by omega)]; exact o3
  rcases o4 with ⟨a1, a2⟩ | ⟨o, a2, a3, a4, a5, a6⟩
  · refine ⟨rKy R, ⟨o1, o2, o3' _, Or.inr ⟨R, hR, h1, h12, rfl, ?_⟩⟩, by omega, Nat.le_refl _, Or.inr rfl⟩
    rw [u2_rd, a2, mnL (by omega) (by omega), if_pos hb]
  · have bo := rNm_60 (lR_ok a2) a4
    have hk := kyN hR a2 h1 a3 h12 a4
    by_cases h : rNm R < rNm o
    · refine ⟨rKy R, ⟨o1, o2, o3' _, Or.inr ⟨R, hR, h1, h12, rfl, ?_⟩⟩, by have := hk.mp h; omega, Nat.le_refl _, Or.inr rfl⟩
      rw [u2_rd, a6, mnL (by omega) (by omega), if_pos h]
    · refine ⟨S, ⟨o1, o2, o3' _, Or.inr ⟨o, a2, a3, a4, a5, ?_⟩⟩, Nat.le_refl _, ?_, Or.inl rfl⟩
      · rw [u2_rd, a6, mnL (by omega) (by omega), if_neg h]
      · have := Nat.le_of_not_lt (fun z => h (hk.mpr z))
        omega
end
section
variable {sc : Sc} {d : Nat} {A : Nat → Nat → Int32} {L : Nat → Nat → Int64} {I : Nat → Nat → Int32} {J : Nat → Nat → Int64} {Q : Option Value → Wd → Prop} {F : Nat → Option (List Nat)} {S fa p gs cb lf : Nat} {fi : Bool} {R : List Nat}
set_option maxHeartbeats 8000000 in
theorem sx_rch (hO : TwO L J F S fa) (hR : lR R) (h1 : 1 ≤ R.length) (h12 : R.length ≤ 12) (g1 : 1 ≤ gs) (g3 : gs ≤ 3) (hl : lf < 3) (hc : cb < 4) (hp : p < 24) (hq0 : fi = true ∧ lf = 0 → Q none (wd A L I J))
    (hq : ¬ (fi = true ∧ lf = 0) → ∀ L' J' fa', LF L L' → TwO L' J' (offH F (ixS gs lf fi cb p) R) S fa' → Q none (wd A L' I J')) :
    Ct sc (d + 1) 133 [.ref 15, .long (lN (rNm R)), .int (nI p), .int (nI gs), .int (nI cb), .int (bI fi), .int (nI lf)] (wd A L I J) Q := by
  obtain ⟨i1, i2⟩ := ix_s (gs := gs) (lf := lf) (fi := fi) (cb := cb) (p := p) g1 g3 hl hc hp
  cases fi
  · have e : ixS gs lf false cb p = 576 * (gs - 1) + 24 * (3 * cb + lf) + p := by
      simp only [ixS, cond_false]
      omega
    rw [e] at hq i1
    have hq := hq (fun z => absurd z.1 Bool.false_ne_true) _ _ _ (fun k hk => by rw [u2_ne hk]) (tw_off hO hR h1 h12 i1)
    all_goals (refine Ct_run 300 (fun _ => ?_)); repeat' ((conv => whnf); first | (show Ct _ _ _ _ _ _ ∧ True; first | (show Ct _ _ 219 _ _ _ ∧ True; (refine And.intro (s_in _ _ _ (fun c c2 => ?_) (fun c => ?_)) trivial <;> (try simp (disch := omega) only [Nat.reduceAdd, qc_i, qc_r, qc_n, qc_l, wd, wA, wI, wL, wJ, u2_rd, u2_ne, u2_nj, u1_eq, u1_ne, mT2, mS2, mT3, mS3, mT4, mS4, mT5, mS5, mT12, mS12, mT16, mS16, mT60, mS60, nI_add, nI_1, sb1, nI_clamp, cl0, cl1, cl2, not_true_eq_false, not_false_eq_true, Int32.lt_iff_toInt_lt, Int32.le_iff_toInt_le, ← Int32.toInt_inj, nI_toInt, nTm100, nTm10, nTm9, nTm4, nTm3, nTm2, nTm1, nT0, nT1, nT2, nT3, nT4, nT5, nT6, nT8, nT9, nT10, nT12, nT16, nT20, nT24, show bI false = 0 from rfl, mT24, mT576, Int32.toInt_toInt64, lkT0, lkT1, lkT2, lkT3, lkT4, lkT5, lkT6, lkT7, lkT8, lkT9, lkT10, lkT11, lkT12, lkT13, lkT14, lkT15, lkT16, lkT17, lkT18, lkT19] at c) <;> (try simp (disch := omega) only [Nat.reduceAdd, qc_i, qc_r, qc_n, qc_l, wd, wA, wI, wL, wJ, u2_rd, u2_ne, u2_nj, u1_eq, u1_ne, mT2, mS2, mT3, mS3, mT4, mS4, mT5, mS5, mT12, mS12, mT16, mS16, mT60, mS60, nI_add, nI_1, sb1, nI_clamp, cl0, cl1, cl2, not_true_eq_false, not_false_eq_true, Int32.lt_iff_toInt_lt, Int32.le_iff_toInt_le, ← Int32.toInt_inj, nI_toInt, nTm100, nTm10, nTm9, nTm4, nTm3, nTm2, nTm1, nT0, nT1, nT2, nT3, nT4, nT5, nT6, nT8, nT9, nT10, nT12, nT16, nT20, nT24, show bI false = 0 from rfl, mT24, mT576, Int32.toInt_toInt64, lkT0, lkT1, lkT2, lkT3, lkT4, lkT5, lkT6, lkT7, lkT8, lkT9, lkT10, lkT11, lkT12, lkT13, lkT14, lkT15, lkT16, lkT17, lkT18, lkT19] at c2) <;> try (exfalso; omega))) | (refine And.intro (Ct_rn rfl (fun _ => ?_)) trivial)) | (refine And.intro (fun c => absurd c i10) (fun _ => ?_)) | (refine And.intro (fun _ => ?_) (fun c => absurd c i10)) | (refine And.intro (fun c => absurd rfl c) (fun _ => ?_)) | (refine And.intro (fun _ => ?_) (fun c => absurd rfl c)) | (refine And.intro (fun c => absurd c i01) (fun _ => ?_)) | (refine And.intro (fun _ => ?_) (fun c => absurd c i01)) | (refine And.intro (fun c => ?_) (fun c => ?_) <;> (try simp (disch := omega) only [Nat.reduceAdd, qc_i, qc_r, qc_n, qc_l, wd, wA, wI, wL, wJ, u2_rd, u2_ne, u2_nj, u1_eq, u1_ne, mT2, mS2, mT3, mS3, mT4, mS4, mT5, mS5, mT12, mS12, mT16, mS16, mT60, mS60, nI_add, nI_1, sb1, nI_clamp, cl0, cl1, cl2, not_true_eq_false, not_false_eq_true, Int32.lt_iff_toInt_lt, Int32.le_iff_toInt_le, ← Int32.toInt_inj, nI_toInt, nTm100, nTm10, nTm9, nTm4, nTm3, nTm2, nTm1, nT0, nT1, nT2, nT3, nT4, nT5, nT6, nT8, nT9, nT10, nT12, nT16, nT20, nT24, show bI false = 0 from rfl, mT24, mT576] at c) <;> try (first | exact absurd rfl c | (exfalso; omega))) | (refine And.intro (a := vq _ _) (by unfold vq; (conv => rhs; rhs; arg 1; whnf); (try simp (disch := omega) only [Nat.reduceAdd, qc_i, qc_r, qc_n, qc_l, wd, wA, wI, wL, wJ, u2_rd, u2_ne, u2_nj, u1_eq, u1_ne, mT2, mS2, mT3, mS3, mT4, mS4, mT5, mS5, mT12, mS12, mT16, mS16, mT60, mS60, nI_add, nI_1, sb1, nI_clamp, cl0, cl1, cl2, not_true_eq_false, not_false_eq_true, Int32.lt_iff_toInt_lt, Int32.le_iff_toInt_le, ← Int32.toInt_inj, nI_toInt, nTm100, nTm10, nTm9, nTm4, nTm3, nTm2, nTm1, nT0, nT1, nT2, nT3, nT4, nT5, nT6, nT8, nT9, nT10, nT12, nT16, nT20, nT24, show bI false = 0 from rfl, mT24, mT576]); omega) ?_) | (refine And.intro (Or.inl rfl) ?_) | (refine And.intro (Or.inr rfl) ?_) | (refine And.intro (And.intro (by decide) trivial) ?_) | fail); all_goals (try (conv => whnf))
    simp (disch := omega) only [Nat.reduceAdd, qc_i, qc_r, qc_n, qc_l, wd, wA, wI, wL, wJ, u2_rd, u2_ne, u2_nj, u1_eq, u1_ne, mT2, mS2, mT3, mS3, mT4, mS4, mT5, mS5, mT12, mS12, mT16, mS16, mT60, mS60, nI_add, nI_1, sb1, nI_clamp, cl0, cl1, cl2, mT24, mT576]
    exact hq
  · rcases Nat.eq_zero_or_pos lf with hz | hz
    · have hqz := hq0 ⟨rfl, hz⟩
      clear hq0 hq
      subst hz
      all_goals (refine Ct_run 300 (fun _ => ?_)); repeat' ((conv => whnf); first | (show Ct _ _ _ _ _ _ ∧ True; first | (show Ct _ _ 219 _ _ _ ∧ True; (refine And.intro (s_in _ _ _ (fun c c2 => ?_) (fun c => ?_)) trivial <;> (try simp (disch := omega) only [Nat.reduceAdd, qc_i, qc_r, qc_n, qc_l, wd, wA, wI, wL, wJ, u2_rd, u2_ne, u2_nj, u1_eq, u1_ne, mT2, mS2, mT3, mS3, mT4, mS4, mT5, mS5, mT12, mS12, mT16, mS16, mT60, mS60, nI_add, nI_1, sb1, nI_clamp, cl0, cl1, cl2, not_true_eq_false, not_false_eq_true, Int32.lt_iff_toInt_lt, Int32.le_iff_toInt_le, ← Int32.toInt_inj, nI_toInt, nTm100, nTm10, nTm9, nTm4, nTm3, nTm2, nTm1, nT0, nT1, nT2, nT3, nT4, nT5, nT6, nT8, nT9, nT10, nT12, nT16, nT20, nT24, show bI true = 1 from rfl, Int32.toInt_toInt64, lkT0, lkT1, lkT2, lkT3, lkT4, lkT5, lkT6, lkT7, lkT8, lkT9, lkT10, lkT11, lkT12, lkT13, lkT14, lkT15, lkT16, lkT17, lkT18, lkT19] at c) <;> (try simp (disch := omega) only [Nat.reduceAdd, qc_i, qc_r, qc_n, qc_l, wd, wA, wI, wL, wJ, u2_rd, u2_ne, u2_nj, u1_eq, u1_ne, mT2, mS2, mT3, mS3, mT4, mS4, mT5, mS5, mT12, mS12, mT16, mS16, mT60, mS60, nI_add, nI_1, sb1, nI_clamp, cl0, cl1, cl2, not_true_eq_false, not_false_eq_true, Int32.lt_iff_toInt_lt, Int32.le_iff_toInt_le, ← Int32.toInt_inj, nI_toInt, nTm100, nTm10, nTm9, nTm4, nTm3, nTm2, nTm1, nT0, nT1, nT2, nT3, nT4, nT5, nT6, nT8, nT9, nT10, nT12, nT16, nT20, nT24, show bI true = 1 from rfl, Int32.toInt_toInt64, lkT0, lkT1, lkT2, lkT3, lkT4, lkT5, lkT6, lkT7, lkT8, lkT9, lkT10, lkT11, lkT12, lkT13, lkT14, lkT15, lkT16, lkT17, lkT18, lkT19] at c2) <;> try (exfalso; omega))) | (refine And.intro (Ct_rn rfl (fun _ => ?_)) trivial)) | (refine And.intro (fun c => absurd c i10) (fun _ => ?_)) | (refine And.intro (fun _ => ?_) (fun c => absurd c i10)) | (refine And.intro (fun c => absurd rfl c) (fun _ => ?_)) | (refine And.intro (fun _ => ?_) (fun c => absurd rfl c)) | (refine And.intro (fun c => absurd c i01) (fun _ => ?_)) | (refine And.intro (fun _ => ?_) (fun c => absurd c i01)) | (refine And.intro (fun c => ?_) (fun c => ?_) <;> (try simp (disch := omega) only [Nat.reduceAdd, qc_i, qc_r, qc_n, qc_l, wd, wA, wI, wL, wJ, u2_rd, u2_ne, u2_nj, u1_eq, u1_ne, mT2, mS2, mT3, mS3, mT4, mS4, mT5, mS5, mT12, mS12, mT16, mS16, mT60, mS60, nI_add, nI_1, sb1, nI_clamp, cl0, cl1, cl2, not_true_eq_false, not_false_eq_true, Int32.lt_iff_toInt_lt, Int32.le_iff_toInt_le, ← Int32.toInt_inj, nI_toInt, nTm100, nTm10, nTm9, nTm4, nTm3, nTm2, nTm1, nT0, nT1, nT2, nT3, nT4, nT5, nT6, nT8, nT9, nT10, nT12, nT16, nT20, nT24, show bI true = 1 from rfl] at c) <;> try (first | exact absurd rfl c | (exfalso; omega))) | (refine And.intro (a := vq _ _) (by unfold vq; (conv => rhs; rhs; arg 1; whnf); (try simp (disch := omega) only [Nat.reduceAdd, qc_i, qc_r, qc_n, qc_l, wd, wA, wI, wL, wJ, u2_rd, u2_ne, u2_nj, u1_eq, u1_ne, mT2, mS2, mT3, mS3, mT4, mS4, mT5, mS5, mT12, mS12, mT16, mS16, mT60, mS60, nI_add, nI_1, sb1, nI_clamp, cl0, cl1, cl2, not_true_eq_false, not_false_eq_true, Int32.lt_iff_toInt_lt, Int32.le_iff_toInt_le, ← Int32.toInt_inj, nI_toInt, nTm100, nTm10, nTm9, nTm4, nTm3, nTm2, nTm1, nT0, nT1, nT2, nT3, nT4, nT5, nT6, nT8, nT9, nT10, nT12, nT16, nT20, nT24, show bI true = 1 from rfl]); omega) ?_) | (refine And.intro (Or.inl rfl) ?_) | (refine And.intro (Or.inr rfl) ?_) | (refine And.intro (And.intro (by decide) trivial) ?_) | fail); all_goals (try (conv => whnf))
      exact hqz
    · have e : ixS gs lf true cb p = 576 * (gs - 1) + 24 * (3 * (4 + cb) + lf) + p := by
        simp only [ixS, cond_true]
        omega
      have e4 : 4 + nI cb = nI (4 + cb) := nI_add 4 cb
      rw [e] at hq i1
      have hq := hq (fun z => absurd z.2 (by omega)) _ _ _ (fun k hk => by rw [u2_ne hk]) (tw_off hO hR h1 h12 i1)
      all_goals (refine Ct_run 300 (fun _ => ?_)); repeat' ((conv => whnf); first | (show Ct _ _ _ _ _ _ ∧ True; first | (show Ct _ _ 219 _ _ _ ∧ True; (refine And.intro (s_in _ _ _ (fun c c2 => ?_) (fun c => ?_)) trivial <;> (try simp (disch := omega) only [Nat.reduceAdd, qc_i, qc_r, qc_n, qc_l, wd, wA, wI, wL, wJ, u2_rd, u2_ne, u2_nj, u1_eq, u1_ne, mT2, mS2, mT3, mS3, mT4, mS4, mT5, mS5, mT12, mS12, mT16, mS16, mT60, mS60, nI_add, nI_1, sb1, nI_clamp, cl0, cl1, cl2, not_true_eq_false, not_false_eq_true, Int32.lt_iff_toInt_lt, Int32.le_iff_toInt_le, ← Int32.toInt_inj, nI_toInt, nTm100, nTm10, nTm9, nTm4, nTm3, nTm2, nTm1, nT0, nT1, nT2, nT3, nT4, nT5, nT6, nT8, nT9, nT10, nT12, nT16, nT20, nT24, show bI true = 1 from rfl, mT24, mT576, e4, Int32.toInt_toInt64, lkT0, lkT1, lkT2, lkT3, lkT4, lkT5, lkT6, lkT7, lkT8, lkT9, lkT10, lkT11, lkT12, lkT13, lkT14, lkT15, lkT16, lkT17, lkT18, lkT19] at c) <;> (try simp (disch := omega) only [Nat.reduceAdd, qc_i, qc_r, qc_n, qc_l, wd, wA, wI, wL, wJ, u2_rd, u2_ne, u2_nj, u1_eq, u1_ne, mT2, mS2, mT3, mS3, mT4, mS4, mT5, mS5, mT12, mS12, mT16, mS16, mT60, mS60, nI_add, nI_1, sb1, nI_clamp, cl0, cl1, cl2, not_true_eq_false, not_false_eq_true, Int32.lt_iff_toInt_lt, Int32.le_iff_toInt_le, ← Int32.toInt_inj, nI_toInt, nTm100, nTm10, nTm9, nTm4, nTm3, nTm2, nTm1, nT0, nT1, nT2, nT3, nT4, nT5, nT6, nT8, nT9, nT10, nT12, nT16, nT20, nT24, show bI true = 1 from rfl, mT24, mT576, e4, Int32.toInt_toInt64, lkT0, lkT1, lkT2, lkT3, lkT4, lkT5, lkT6, lkT7, lkT8, lkT9, lkT10, lkT11, lkT12, lkT13, lkT14, lkT15, lkT16, lkT17, lkT18, lkT19] at c2) <;> try (exfalso; omega))) | (refine And.intro (Ct_rn rfl (fun _ => ?_)) trivial)) | (refine And.intro (fun c => absurd c i10) (fun _ => ?_)) | (refine And.intro (fun _ => ?_) (fun c => absurd c i10)) | (refine And.intro (fun c => absurd rfl c) (fun _ => ?_)) | (refine And.intro (fun _ => ?_) (fun c => absurd rfl c)) | (refine And.intro (fun c => absurd c i01) (fun _ => ?_)) | (refine And.intro (fun _ => ?_) (fun c => absurd c i01)) | (refine And.intro (fun c => ?_) (fun c => ?_) <;> (try simp (disch := omega) only [Nat.reduceAdd, qc_i, qc_r, qc_n, qc_l, wd, wA, wI, wL, wJ, u2_rd, u2_ne, u2_nj, u1_eq, u1_ne, mT2, mS2, mT3, mS3, mT4, mS4, mT5, mS5, mT12, mS12, mT16, mS16, mT60, mS60, nI_add, nI_1, sb1, nI_clamp, cl0, cl1, cl2, not_true_eq_false, not_false_eq_true, Int32.lt_iff_toInt_lt, Int32.le_iff_toInt_le, ← Int32.toInt_inj, nI_toInt, nTm100, nTm10, nTm9, nTm4, nTm3, nTm2, nTm1, nT0, nT1, nT2, nT3, nT4, nT5, nT6, nT8, nT9, nT10, nT12, nT16, nT20, nT24, show bI true = 1 from rfl, mT24, mT576, e4] at c) <;> try (first | exact absurd rfl c | (exfalso; omega))) | (refine And.intro (a := vq _ _) (by unfold vq; (conv => rhs; rhs; arg 1; whnf); (try simp (disch := omega) only [Nat.reduceAdd, qc_i, qc_r, qc_n, qc_l, wd, wA, wI, wL, wJ, u2_rd, u2_ne, u2_nj, u1_eq, u1_ne, mT2, mS2, mT3, mS3, mT4, mS4, mT5, mS5, mT12, mS12, mT16, mS16, mT60, mS60, nI_add, nI_1, sb1, nI_clamp, cl0, cl1, cl2, not_true_eq_false, not_false_eq_true, Int32.lt_iff_toInt_lt, Int32.le_iff_toInt_le, ← Int32.toInt_inj, nI_toInt, nTm100, nTm10, nTm9, nTm4, nTm3, nTm2, nTm1, nT0, nT1, nT2, nT3, nT4, nT5, nT6, nT8, nT9, nT10, nT12, nT16, nT20, nT24, show bI true = 1 from rfl, mT24, mT576, e4]); omega) ?_) | (refine And.intro (Or.inl rfl) ?_) | (refine And.intro (Or.inr rfl) ?_) | (refine And.intro (And.intro (by decide) trivial) ?_) | fail); all_goals (try (conv => whnf))
      simp (disch := omega) only [Nat.reduceAdd, qc_i, qc_r, qc_n, qc_l, wd, wA, wI, wL, wJ, u2_rd, u2_ne, u2_nj, u1_eq, u1_ne, mT2, mS2, mT3, mS3, mT4, mS4, mT5, mS5, mT12, mS12, mT16, mS16, mT60, mS60, nI_add, nI_1, sb1, nI_clamp, cl0, cl1, cl2, mT24, mT576, e4]
      exact hq
end
