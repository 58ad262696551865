def siF (f : Nat → Int32) : Nat → Int32
  | 0 => 0
  | k + 1 => siF f k + f k
theorem siF_c {f g : Nat → Int32} : ∀ n, (∀ j, j < n → f j = g j) → siF f n = siF g n := by
  intro n
  induction n with
  | zero => intro _; rfl
  | succ n ih => intro h; unfold siF; rw [ih (fun j hj => h j (by omega)), h n (by omega)]
/-- which root of pair k is kept, and which is not -/
def kpK (px py : Nat → Nat) (s k : Nat) : Nat := if s.testBit k = true then py k else px k
def kpN (px py : Nat → Nat) (s k : Nat) : Nat := if s.testBit k = true then px k else py k
/-- no two of the first k are near -/
def apB (nr : Nat → Nat → Bool) (kp : Nat → Nat) : Nat → Bool
  | 0 => true
  | k + 1 => apB nr kp k && !anyB (fun j => nr (kp k) (kp j)) k
theorem apB_c {nr nr' : Nat → Nat → Bool} {kp : Nat → Nat} : ∀ k, (∀ i j, i < k → j < k → nr (kp i) (kp j) = nr' (kp i) (kp j)) → apB nr kp k = apB nr' kp k := by
  intro k
  induction k with
  | zero => intro _; rfl
  | succ k ih => intro h; unfold apB; rw [ih (fun i j hi hj => h i j (by omega) (by omega)), anyB_c k (fun j hj => h k j (by omega) (by omega))]
/-- the best of the sets below s -/
def kpF (ap : Nat → Bool) (co : Nat → Int32) : Nat → Option (Nat × Int32)
  | 0 => none
  | s + 1 => if ap s = true then (match kpF ap co s with | none => some (s, co s) | some x => if (co s).toInt < x.2.toInt then some (s, co s) else some x) else kpF ap co s
theorem kpF_lt {ap : Nat → Bool} {co : Nat → Int32} : ∀ s x, kpF ap co s = some x → x.1 < s := by
  intro s
  induction s with
  | zero => intro x h; cases h
  | succ s ih =>
    intro x h
    unfold kpF at h
    split at h
    · split at h
      · injection h with h; rw [← h]; exact Nat.lt_succ_self s
      · rename_i y hy
        split at h
        · injection h with h; rw [← h]; exact Nat.lt_succ_self s
        · injection h with h; rw [← h]; exact Nat.lt_succ_of_lt (ih y hy)
    · exact Nat.lt_succ_of_lt (ih x h)
theorem kpF_c {ap ap' : Nat → Bool} {co co' : Nat → Int32} : ∀ s, (∀ j, j < s → ap j = ap' j ∧ co j = co' j) → kpF ap co s = kpF ap' co' s := by
  intro s
  induction s with
  | zero => intro _; rfl
  | succ s ih => intro h; unfold kpF; rw [ih (fun j hj => h j (by omega)), (h s (by omega)).1, (h s (by omega)).2]
def kbI : Option (Nat × Int32) → Int32
  | none => -9
  | some x => nI x.1
def ksI : Option (Nat × Int32) → Int32
  | none => -9
  | some x => x.2
def klI : Option (Nat × Int32) → Int32
  | none => 0
  | some x => x.2
theorem ad0 (x : Int32) : x + 0 = x := by simp
set_option maxRecDepth 100000 in
theorem xor1 : ∀ a, a < 16 → nI a ^^^ 1 = nI (if a % 2 = 0 then a + 1 else a - 1) := by decide
/-- months of a root, over those who do not know it -/
def mtI (kn : Nat → Int32) (M : Nat → Nat → Int32) (n x : Nat) : Int32 := siF (fun p => if bt (kn p) x = true then 0 else M p x) n
section
variable {sc : Sc} {d : Nat} {A : Nat → Nat → Int32} {L : Nat → Nat → Int64} {I : Nat → Nat → Int32} {J : Nat → Nat → Int64} {R : St Prop} {Q : Option Value → Wd → Prop} {K : Kt} {w : Wd} {n m r s k x : Nat} {px py t : Nat → Nat}
set_option maxHeartbeats 8000000 in
theorem lx_mtc (hK : am_cl sc (Ct sc (d + 1)) 33 Q K) (e : I 38 6 = nI n) (hn : n ≤ 12) (hx : x < 16) (ht : ∀ p, p < n → t p < 4 ∧ A 39 p = nI (t p)) (hq : Q (some (.int (mtI (A 40) (fun p x => A 10 (16 * t p + x)) n x))) (wd A L I J)) :
    ∀ p, p ≤ n → K 5 [some (.ref 38), some (.ref 2), some (.int (nI x)), some (.int (mtI (A 40) (fun p x => A 10 (16 * t p + x)) p x)), some (.int (nI p))] [] (wd A L I J) 0 0 := by
  refine upI fun p hp ih => ?_
  refine am_go hK sp33 300 ?_
  rcases Nat.lt_or_ge p n with hp2 | hp2
  · have hi := ih hp2
    have htp := ht p hp2
    rw [show mtI (A 40) (fun p x => A 10 (16 * t p + x)) (p + 1) x = mtI (A 40) (fun p x => A 10 (16 * t p + x)) p x + (if bt (A 40 p) x = true then 0 else A 10 (16 * t p + x)) from rfl] at hi
    cases z : bt (A 40 p) x <;> rw [z] at hi
    · rw [if_neg Bool.false_ne_true] at hi
      repeat' ((conv => whnf); first | (show Ct _ _ _ _ _ _ ∧ True; first | (show Ct _ _ 31 _ _ _ ∧ True; first | (refine And.intro (sx_isKnown_F (by omega) (by omega) z ?_) trivial)) | (show Ct _ _ 219 _ _ _ ∧ True; (refine And.intro (s_in _ _ _ (fun c c2 => ?_) (fun c => ?_)) trivial <;> (try simp (disch := omega) only [Nat.reduceAdd, qc_i, qc_r, qc_n, qc_l, wd, wA, wI, wL, wJ, u2_rd, u2_ne, u2_nj, u1_eq, u1_ne, mT2, mS2, mT3, mS3, mT4, mS4, mT5, mS5, mT12, mS12, mT16, mS16, mT60, mS60, nI_add, nI_1, sb1, nI_clamp, cl0, cl1, cl2, not_true_eq_false, not_false_eq_true, Int32.lt_iff_toInt_lt, Int32.le_iff_toInt_le, ← Int32.toInt_inj, nI_toInt, nTm100, nTm10, nTm9, nTm4, nTm3, nTm2, nTm1, nT0, nT1, nT2, nT3, nT4, nT5, nT6, nT8, nT9, nT10, nT12, nT16, nT20, nT24, e, htp.2, Int32.toInt_toInt64, lkT0, lkT1, lkT2, lkT3, lkT4, lkT5, lkT6, lkT7, lkT8, lkT9, lkT10, lkT11, lkT12, lkT13, lkT14, lkT15, lkT16, lkT17, lkT18, lkT19] at c) <;> (try simp (disch := omega) only [Nat.reduceAdd, qc_i, qc_r, qc_n, qc_l, wd, wA, wI, wL, wJ, u2_rd, u2_ne, u2_nj, u1_eq, u1_ne, mT2, mS2, mT3, mS3, mT4, mS4, mT5, mS5, mT12, mS12, mT16, mS16, mT60, mS60, nI_add, nI_1, sb1, nI_clamp, cl0, cl1, cl2, not_true_eq_false, not_false_eq_true, Int32.lt_iff_toInt_lt, Int32.le_iff_toInt_le, ← Int32.toInt_inj, nI_toInt, nTm100, nTm10, nTm9, nTm4, nTm3, nTm2, nTm1, nT0, nT1, nT2, nT3, nT4, nT5, nT6, nT8, nT9, nT10, nT12, nT16, nT20, nT24, e, htp.2, Int32.toInt_toInt64, lkT0, lkT1, lkT2, lkT3, lkT4, lkT5, lkT6, lkT7, lkT8, lkT9, lkT10, lkT11, lkT12, lkT13, lkT14, lkT15, lkT16, lkT17, lkT18, lkT19] at c2) <;> try (exfalso; omega))) | (refine And.intro (Ct_rn rfl (fun _ => ?_)) trivial)) | (refine And.intro (fun c => absurd c i10) (fun _ => ?_)) | (refine And.intro (fun _ => ?_) (fun c => absurd c i10)) | (refine And.intro (fun c => absurd rfl c) (fun _ => ?_)) | (refine And.intro (fun _ => ?_) (fun c => absurd rfl c)) | (refine And.intro (fun c => absurd c i01) (fun _ => ?_)) | (refine And.intro (fun _ => ?_) (fun c => absurd c i01)) | (refine And.intro (fun c => ?_) (fun c => ?_) <;> (try simp (disch := omega) only [Nat.reduceAdd, qc_i, qc_r, qc_n, qc_l, wd, wA, wI, wL, wJ, u2_rd, u2_ne, u2_nj, u1_eq, u1_ne, mT2, mS2, mT3, mS3, mT4, mS4, mT5, mS5, mT12, mS12, mT16, mS16, mT60, mS60, nI_add, nI_1, sb1, nI_clamp, cl0, cl1, cl2, not_true_eq_false, not_false_eq_true, Int32.lt_iff_toInt_lt, Int32.le_iff_toInt_le, ← Int32.toInt_inj, nI_toInt, nTm100, nTm10, nTm9, nTm4, nTm3, nTm2, nTm1, nT0, nT1, nT2, nT3, nT4, nT5, nT6, nT8, nT9, nT10, nT12, nT16, nT20, nT24, e, htp.2] at c) <;> try (first | exact absurd rfl c | (exfalso; omega))) | (refine And.intro (a := vq _ _) (by unfold vq; (conv => rhs; rhs; arg 1; whnf); (try simp (disch := omega) only [Nat.reduceAdd, qc_i, qc_r, qc_n, qc_l, wd, wA, wI, wL, wJ, u2_rd, u2_ne, u2_nj, u1_eq, u1_ne, mT2, mS2, mT3, mS3, mT4, mS4, mT5, mS5, mT12, mS12, mT16, mS16, mT60, mS60, nI_add, nI_1, sb1, nI_clamp, cl0, cl1, cl2, not_true_eq_false, not_false_eq_true, Int32.lt_iff_toInt_lt, Int32.le_iff_toInt_le, ← Int32.toInt_inj, nI_toInt, nTm100, nTm10, nTm9, nTm4, nTm3, nTm2, nTm1, nT0, nT1, nT2, nT3, nT4, nT5, nT6, nT8, nT9, nT10, nT12, nT16, nT20, nT24, e, htp.2]); omega) ?_) | (refine And.intro (Or.inl rfl) ?_) | (refine And.intro (Or.inr rfl) ?_) | (refine And.intro (And.intro (by decide) trivial) ?_) | fail); all_goals (try (conv => whnf))
      simp (disch := omega) only [Nat.reduceAdd, qc_i, qc_r, qc_n, qc_l, wd, wA, wI, wL, wJ, u2_rd, u2_ne, u2_nj, u1_eq, u1_ne, mT2, mS2, mT3, mS3, mT4, mS4, mT5, mS5, mT12, mS12, mT16, mS16, mT60, mS60, nI_add, nI_1, sb1, nI_clamp, cl0, cl1, cl2, htp.2]
      exact hi
    · rw [if_pos rfl, ad0] at hi
      repeat' ((conv => whnf); first | (show Ct _ _ _ _ _ _ ∧ True; first | (show Ct _ _ 31 _ _ _ ∧ True; first | (refine And.intro (sx_isKnown_T (by omega) (by omega) z ?_) trivial)) | (show Ct _ _ 219 _ _ _ ∧ True; (refine And.intro (s_in _ _ _ (fun c c2 => ?_) (fun c => ?_)) trivial <;> (try simp (disch := omega) only [Nat.reduceAdd, qc_i, qc_r, qc_n, qc_l, wd, wA, wI, wL, wJ, u2_rd, u2_ne, u2_nj, u1_eq, u1_ne, mT2, mS2, mT3, mS3, mT4, mS4, mT5, mS5, mT12, mS12, mT16, mS16, mT60, mS60, nI_add, nI_1, sb1, nI_clamp, cl0, cl1, cl2, not_true_eq_false, not_false_eq_true, Int32.lt_iff_toInt_lt, Int32.le_iff_toInt_le, ← Int32.toInt_inj, nI_toInt, nTm100, nTm10, nTm9, nTm4, nTm3, nTm2, nTm1, nT0, nT1, nT2, nT3, nT4, nT5, nT6, nT8, nT9, nT10, nT12, nT16, nT20, nT24, e, Int32.toInt_toInt64, lkT0, lkT1, lkT2, lkT3, lkT4, lkT5, lkT6, lkT7, lkT8, lkT9, lkT10, lkT11, lkT12, lkT13, lkT14, lkT15, lkT16, lkT17, lkT18, lkT19] at c) <;> (try simp (disch := omega) only [Nat.reduceAdd, qc_i, qc_r, qc_n, qc_l, wd, wA, wI, wL, wJ, u2_rd, u2_ne, u2_nj, u1_eq, u1_ne, mT2, mS2, mT3, mS3, mT4, mS4, mT5, mS5, mT12, mS12, mT16, mS16, mT60, mS60, nI_add, nI_1, sb1, nI_clamp, cl0, cl1, cl2, not_true_eq_false, not_false_eq_true, Int32.lt_iff_toInt_lt, Int32.le_iff_toInt_le, ← Int32.toInt_inj, nI_toInt, nTm100, nTm10, nTm9, nTm4, nTm3, nTm2, nTm1, nT0, nT1, nT2, nT3, nT4, nT5, nT6, nT8, nT9, nT10, nT12, nT16, nT20, nT24, e, Int32.toInt_toInt64, lkT0, lkT1, lkT2, lkT3, lkT4, lkT5, lkT6, lkT7, lkT8, lkT9, lkT10, lkT11, lkT12, lkT13, lkT14, lkT15, lkT16, lkT17, lkT18, lkT19] at c2) <;> try (exfalso; omega))) | (refine And.intro (Ct_rn rfl (fun _ => ?_)) trivial)) | (refine And.intro (fun c => absurd c i10) (fun _ => ?_)) | (refine And.intro (fun _ => ?_) (fun c => absurd c i10)) | (refine And.intro (fun c => absurd rfl c) (fun _ => ?_)) | (refine And.intro (fun _ => ?_) (fun c => absurd rfl c)) | (refine And.intro (fun c => absurd c i01) (fun _ => ?_)) | (refine And.intro (fun _ => ?_) (fun c => absurd c i01)) | (refine And.intro (fun c => ?_) (fun c => ?_) <;> (try simp (disch := omega) only [Nat.reduceAdd, qc_i, qc_r, qc_n, qc_l, wd, wA, wI, wL, wJ, u2_rd, u2_ne, u2_nj, u1_eq, u1_ne, mT2, mS2, mT3, mS3, mT4, mS4, mT5, mS5, mT12, mS12, mT16, mS16, mT60, mS60, nI_add, nI_1, sb1, nI_clamp, cl0, cl1, cl2, not_true_eq_false, not_false_eq_true, Int32.lt_iff_toInt_lt, Int32.le_iff_toInt_le, ← Int32.toInt_inj, nI_toInt, nTm100, nTm10, nTm9, nTm4, nTm3, nTm2, nTm1, nT0, nT1, nT2, nT3, nT4, nT5, nT6, nT8, nT9, nT10, nT12, nT16, nT20, nT24, e] at c) <;> try (first | exact absurd rfl c | (exfalso; omega))) | (refine And.intro (a := vq _ _) (by unfold vq; (conv => rhs; rhs; arg 1; whnf); (try simp (disch := omega) only [Nat.reduceAdd, qc_i, qc_r, qc_n, qc_l, wd, wA, wI, wL, wJ, u2_rd, u2_ne, u2_nj, u1_eq, u1_ne, mT2, mS2, mT3, mS3, mT4, mS4, mT5, mS5, mT12, mS12, mT16, mS16, mT60, mS60, nI_add, nI_1, sb1, nI_clamp, cl0, cl1, cl2, not_true_eq_false, not_false_eq_true, Int32.lt_iff_toInt_lt, Int32.le_iff_toInt_le, ← Int32.toInt_inj, nI_toInt, nTm100, nTm10, nTm9, nTm4, nTm3, nTm2, nTm1, nT0, nT1, nT2, nT3, nT4, nT5, nT6, nT8, nT9, nT10, nT12, nT16, nT20, nT24, e]); omega) ?_) | (refine And.intro (Or.inl rfl) ?_) | (refine And.intro (Or.inr rfl) ?_) | (refine And.intro (And.intro (by decide) trivial) ?_) | fail); all_goals (try (conv => whnf))
      simp (disch := omega) only [Nat.reduceAdd, qc_i, qc_r, qc_n, qc_l, wd, wA, wI, wL, wJ, u2_rd, u2_ne, u2_nj, u1_eq, u1_ne, mT2, mS2, mT3, mS3, mT4, mS4, mT5, mS5, mT12, mS12, mT16, mS16, mT60, mS60, nI_add, nI_1, sb1, nI_clamp, cl0, cl1, cl2]
      exact hi
  · have : p = n := by omega
    subst this
    repeat' ((conv => whnf); first | (show Ct _ _ _ _ _ _ ∧ True; first | (show Ct _ _ 219 _ _ _ ∧ True; (refine And.intro (s_in _ _ _ (fun c c2 => ?_) (fun c => ?_)) trivial <;> (try simp (disch := omega) only [Nat.reduceAdd, qc_i, qc_r, qc_n, qc_l, wd, wA, wI, wL, wJ, u2_rd, u2_ne, u2_nj, u1_eq, u1_ne, mT2, mS2, mT3, mS3, mT4, mS4, mT5, mS5, mT12, mS12, mT16, mS16, mT60, mS60, nI_add, nI_1, sb1, nI_clamp, cl0, cl1, cl2, not_true_eq_false, not_false_eq_true, Int32.lt_iff_toInt_lt, Int32.le_iff_toInt_le, ← Int32.toInt_inj, nI_toInt, nTm100, nTm10, nTm9, nTm4, nTm3, nTm2, nTm1, nT0, nT1, nT2, nT3, nT4, nT5, nT6, nT8, nT9, nT10, nT12, nT16, nT20, nT24, e, Int32.toInt_toInt64, lkT0, lkT1, lkT2, lkT3, lkT4, lkT5, lkT6, lkT7, lkT8, lkT9, lkT10, lkT11, lkT12, lkT13, lkT14, lkT15, lkT16, lkT17, lkT18, lkT19] at c) <;> (try simp (disch := omega) only [Nat.reduceAdd, qc_i, qc_r, qc_n, qc_l, wd, wA, wI, wL, wJ, u2_rd, u2_ne, u2_nj, u1_eq, u1_ne, mT2, mS2, mT3, mS3, mT4, mS4, mT5, mS5, mT12, mS12, mT16, mS16, mT60, mS60, nI_add, nI_1, sb1, nI_clamp, cl0, cl1, cl2, not_true_eq_false, not_false_eq_true, Int32.lt_iff_toInt_lt, Int32.le_iff_toInt_le, ← Int32.toInt_inj, nI_toInt, nTm100, nTm10, nTm9, nTm4, nTm3, nTm2, nTm1, nT0, nT1, nT2, nT3, nT4, nT5, nT6, nT8, nT9, nT10, nT12, nT16, nT20, nT24, e, Int32.toInt_toInt64, lkT0, lkT1, lkT2, lkT3, lkT4, lkT5, lkT6, lkT7, lkT8, lkT9, lkT10, lkT11, lkT12, lkT13, lkT14, lkT15, lkT16, lkT17, lkT18, lkT19] at c2) <;> try (exfalso; omega))) | (refine And.intro (Ct_rn rfl (fun _ => ?_)) trivial)) | (refine And.intro (fun c => absurd c i10) (fun _ => ?_)) | (refine And.intro (fun _ => ?_) (fun c => absurd c i10)) | (refine And.intro (fun c => absurd rfl c) (fun _ => ?_)) | (refine And.intro (fun _ => ?_) (fun c => absurd rfl c)) | (refine And.intro (fun c => absurd c i01) (fun _ => ?_)) | (refine And.intro (fun _ => ?_) (fun c => absurd c i01)) | (refine And.intro (fun c => ?_) (fun c => ?_) <;> (try simp (disch := omega) only [Nat.reduceAdd, qc_i, qc_r, qc_n, qc_l, wd, wA, wI, wL, wJ, u2_rd, u2_ne, u2_nj, u1_eq, u1_ne, mT2, mS2, mT3, mS3, mT4, mS4, mT5, mS5, mT12, mS12, mT16, mS16, mT60, mS60, nI_add, nI_1, sb1, nI_clamp, cl0, cl1, cl2, not_true_eq_false, not_false_eq_true, Int32.lt_iff_toInt_lt, Int32.le_iff_toInt_le, ← Int32.toInt_inj, nI_toInt, nTm100, nTm10, nTm9, nTm4, nTm3, nTm2, nTm1, nT0, nT1, nT2, nT3, nT4, nT5, nT6, nT8, nT9, nT10, nT12, nT16, nT20, nT24, e] at c) <;> try (first | exact absurd rfl c | (exfalso; omega))) | (refine And.intro (a := vq _ _) (by unfold vq; (conv => rhs; rhs; arg 1; whnf); (try simp (disch := omega) only [Nat.reduceAdd, qc_i, qc_r, qc_n, qc_l, wd, wA, wI, wL, wJ, u2_rd, u2_ne, u2_nj, u1_eq, u1_ne, mT2, mS2, mT3, mS3, mT4, mS4, mT5, mS5, mT12, mS12, mT16, mS16, mT60, mS60, nI_add, nI_1, sb1, nI_clamp, cl0, cl1, cl2, not_true_eq_false, not_false_eq_true, Int32.lt_iff_toInt_lt, Int32.le_iff_toInt_le, ← Int32.toInt_inj, nI_toInt, nTm100, nTm10, nTm9, nTm4, nTm3, nTm2, nTm1, nT0, nT1, nT2, nT3, nT4, nT5, nT6, nT8, nT9, nT10, nT12, nT16, nT20, nT24, e]); omega) ?_) | (refine And.intro (Or.inl rfl) ?_) | (refine And.intro (Or.inr rfl) ?_) | (refine And.intro (And.intro (by decide) trivial) ?_) | fail); all_goals (try (conv => whnf))
    exact hq
theorem sx_mtc (e : I 38 6 = nI n) (hn : n ≤ 12) (hx : x < 16) (ht : ∀ p, p < n → t p < 4 ∧ A 39 p = nI (t p)) {v : Int32} (hv : v = nI x) (hq : Q (some (.int (mtI (A 40) (fun p x => A 10 (16 * t p + x)) n x))) (wd A L I J)) : Ct sc (d + 2) 33 [.ref 38, .ref 2, .int v] (wd A L I J) Q := by
  subst hv
  intro K hK
  refine am_go hK sp33 300 ?_
  (conv => whnf)
  exact lx_mtc hK e hn hx ht hq 0 (by omega)
set_option maxHeartbeats 8000000 in
theorem lx_stand (hK : am_cl sc (Ct sc (d + 1)) 36 Q K) (e : I 51 4 = nI m) (hm : m ≤ 8) (h2 : ∀ k, k < m → px k < 16 ∧ py k < 16 ∧ A 54 (2 * k) = nI (px k) ∧ A 54 (2 * k + 1) = nI (py k)) (hq : Q (some (.int (bI (apB (fun x y => bt (A 8 x) y) (kpK px py s) m)))) (wd A L I J)) :
    ∀ k, k ≤ m → ∀ v : Int32, (∀ y, y < 32 → bt v y = anyB (fun j => decide (kpK px py s j = y)) k) → apB (fun x y => bt (A 8 x) y) (kpK px py s) k = true → K 5 [some (.ref 51), some (.ref 2), some (.int (nI s)), some (.int v), some (.int (nI k)), none] [] (wd A L I J) 0 0 := by
  have hk16 : ∀ j, j < m → kpK px py s j < 16 := fun j hj => by
    have := h2 j hj
    unfold kpK
    split <;> omega
  refine upI fun k hk ih v hv hap => ?_
  refine am_go hK sp36 300 ?_
  rcases Nat.lt_or_ge k m with hk2 | hk2
  · obtain ⟨p1, p2, p3, p4⟩ := h2 k hk2
    have hkk := hk16 k hk2
    have eb := bitE (nI s) k (by omega)
    rw [bt_nI _ (by omega)] at eb
    have key : (A 8 (kpK px py s k) &&& v = 0) ↔ anyB (fun j => bt (A 8 (kpK px py s k)) (kpK px py s j)) k = false := by
      rw [anyB_F]
      constructor
      · intro h j hj
        have h3 : bt (A 8 (kpK px py s k) &&& v) (kpK px py s j) = false := by rw [h, bt_0]
        have hj2 := hk16 j (by omega)
        rw [bt_and, hv _ (by omega)] at h3
        have h4 : anyB (fun i => decide (kpK px py s i = kpK px py s j)) k = true := by
          cases z : anyB (fun i => decide (kpK px py s i = kpK px py s j)) k
          · have := (anyB_F k).mp z j hj
            simp at this
          · rfl
        rw [h4, Bool.and_true] at h3
        exact h3
      · intro h
        apply bt_z
        intro y hy
        rw [bt_and, hv y hy]
        cases z : anyB (fun i => decide (kpK px py s i = y)) k
        · rw [Bool.and_false]
        · rw [Bool.and_true]
          apply Classical.byContradiction
          intro hne
          have : anyB (fun i => decide (kpK px py s i = y)) k = false := (anyB_F k).mpr fun j hj => by
            apply decide_eq_false
            intro e
            apply hne
            rw [← e]; exact h j hj
          rw [this] at z
          exact Bool.false_ne_true z
    have es : apB (fun x y => bt (A 8 x) y) (kpK px py s) (k + 1) = (apB (fun x y => bt (A 8 x) y) (kpK px py s) k && !anyB (fun j => bt (A 8 (kpK px py s k)) (kpK px py s j)) k) := rfl
    have mono : ∀ i, apB (fun x y => bt (A 8 x) y) (kpK px py s) (k + 1) = false → k + 1 ≤ i → apB (fun x y => bt (A 8 x) y) (kpK px py s) i = false := by
      intro i h1
      induction i with
      | zero => intro h; omega
      | succ i ihi =>
        intro h
        rcases Nat.lt_or_ge k i with h3 | h3
        · unfold apB; rw [ihi (by omega), Bool.false_and]
        · rw [show i = k by omega]; exact h1
    have ix : ∀ v2 : Int32, v2 = nI (kpK px py s k) → (1 : Int32) <<< (v2 &&& 31) = 1 <<< (nI (kpK px py s k) &&& 31) := fun v2 h => by rw [h]
    have step : ∀ y, y < 32 → bt (v ||| (1 <<< (nI (kpK px py s k) &&& 31))) y = anyB (fun j => decide (kpK px py s j = y)) (k + 1) := by
      intro y hy
      rw [bt_or, hv y hy, bt_sh (by omega) hy]
      show _ = (anyB (fun j => decide (kpK px py s j = y)) k || decide (kpK px py s k = y))
      congr 1
      rw [decide_eq_decide]
      exact eq_comm
    have side : A 54 (2 * k + (if s.testBit k = true then 1 else 0)) = nI (kpK px py s k) := by
      unfold kpK
      split
      · exact p4
      · exact p3
    by_cases hz : A 8 (kpK px py s k) &&& v = 0
    · have hap2 : apB (fun x y => bt (A 8 x) y) (kpK px py s) (k + 1) = true := by rw [es, hap, key.mp hz]; rfl
      have hi := ih hk2 _ step hap2
      cases z : s.testBit k <;> rw [z] at side eb
      · simp only [Bool.false_eq_true, if_false, Nat.add_zero] at side
        rw [if_neg Bool.false_ne_true] at eb
        repeat' ((conv => whnf); first | (show Ct _ _ _ _ _ _ ∧ True; first | (show Ct _ _ 219 _ _ _ ∧ True; (refine And.intro (s_in _ _ _ (fun c c2 => ?_) (fun c => ?_)) trivial <;> (try simp (disch := omega) only [Nat.reduceAdd, qc_i, qc_r, qc_n, qc_l, wd, wA, wI, wL, wJ, u2_rd, u2_ne, u2_nj, u1_eq, u1_ne, mT2, mS2, mT3, mS3, mT4, mS4, mT5, mS5, mT12, mS12, mT16, mS16, mT60, mS60, nI_add, nI_1, sb1, nI_clamp, cl0, cl1, cl2, not_true_eq_false, not_false_eq_true, Int32.lt_iff_toInt_lt, Int32.le_iff_toInt_le, ← Int32.toInt_inj, nI_toInt, nTm100, nTm10, nTm9, nTm4, nTm3, nTm2, nTm1, nT0, nT1, nT2, nT3, nT4, nT5, nT6, nT8, nT9, nT10, nT12, nT16, nT20, nT24, e, eb, ad0, side, hz, Int32.toInt_toInt64, lkT0, lkT1, lkT2, lkT3, lkT4, lkT5, lkT6, lkT7, lkT8, lkT9, lkT10, lkT11, lkT12, lkT13, lkT14, lkT15, lkT16, lkT17, lkT18, lkT19] at c) <;> (try simp (disch := omega) only [Nat.reduceAdd, qc_i, qc_r, qc_n, qc_l, wd, wA, wI, wL, wJ, u2_rd, u2_ne, u2_nj, u1_eq, u1_ne, mT2, mS2, mT3, mS3, mT4, mS4, mT5, mS5, mT12, mS12, mT16, mS16, mT60, mS60, nI_add, nI_1, sb1, nI_clamp, cl0, cl1, cl2, not_true_eq_false, not_false_eq_true, Int32.lt_iff_toInt_lt, Int32.le_iff_toInt_le, ← Int32.toInt_inj, nI_toInt, nTm100, nTm10, nTm9, nTm4, nTm3, nTm2, nTm1, nT0, nT1, nT2, nT3, nT4, nT5, nT6, nT8, nT9, nT10, nT12, nT16, nT20, nT24, e, eb, ad0, side, hz, Int32.toInt_toInt64, lkT0, lkT1, lkT2, lkT3, lkT4, lkT5, lkT6, lkT7, lkT8, lkT9, lkT10, lkT11, lkT12, lkT13, lkT14, lkT15, lkT16, lkT17, lkT18, lkT19] at c2) <;> try (exfalso; omega))) | (refine And.intro (Ct_rn rfl (fun _ => ?_)) trivial)) | (refine And.intro (fun c => absurd c i10) (fun _ => ?_)) | (refine And.intro (fun _ => ?_) (fun c => absurd c i10)) | (refine And.intro (fun c => absurd rfl c) (fun _ => ?_)) | (refine And.intro (fun _ => ?_) (fun c => absurd rfl c)) | (refine And.intro (fun c => absurd c i01) (fun _ => ?_)) | (refine And.intro (fun _ => ?_) (fun c => absurd c i01)) | (refine And.intro (fun c => ?_) (fun c => ?_) <;> (try simp (disch := omega) only [Nat.reduceAdd, qc_i, qc_r, qc_n, qc_l, wd, wA, wI, wL, wJ, u2_rd, u2_ne, u2_nj, u1_eq, u1_ne, mT2, mS2, mT3, mS3, mT4, mS4, mT5, mS5, mT12, mS12, mT16, mS16, mT60, mS60, nI_add, nI_1, sb1, nI_clamp, cl0, cl1, cl2, not_true_eq_false, not_false_eq_true, Int32.lt_iff_toInt_lt, Int32.le_iff_toInt_le, ← Int32.toInt_inj, nI_toInt, nTm100, nTm10, nTm9, nTm4, nTm3, nTm2, nTm1, nT0, nT1, nT2, nT3, nT4, nT5, nT6, nT8, nT9, nT10, nT12, nT16, nT20, nT24, e, eb, ad0, side, hz] at c) <;> try (first | exact absurd rfl c | (exfalso; omega))) | (refine And.intro (a := vq _ _) (by unfold vq; (conv => rhs; rhs; arg 1; whnf); (try simp (disch := omega) only [Nat.reduceAdd, qc_i, qc_r, qc_n, qc_l, wd, wA, wI, wL, wJ, u2_rd, u2_ne, u2_nj, u1_eq, u1_ne, mT2, mS2, mT3, mS3, mT4, mS4, mT5, mS5, mT12, mS12, mT16, mS16, mT60, mS60, nI_add, nI_1, sb1, nI_clamp, cl0, cl1, cl2, not_true_eq_false, not_false_eq_true, Int32.lt_iff_toInt_lt, Int32.le_iff_toInt_le, ← Int32.toInt_inj, nI_toInt, nTm100, nTm10, nTm9, nTm4, nTm3, nTm2, nTm1, nT0, nT1, nT2, nT3, nT4, nT5, nT6, nT8, nT9, nT10, nT12, nT16, nT20, nT24, e, eb, ad0, side, hz]); omega) ?_) | (refine And.intro (Or.inl rfl) ?_) | (refine And.intro (Or.inr rfl) ?_) | (refine And.intro (And.intro (by decide) trivial) ?_) | fail); all_goals (try (conv => whnf))
        simp (disch := omega) only [Nat.reduceAdd, qc_i, qc_r, qc_n, qc_l, wd, wA, wI, wL, wJ, u2_rd, u2_ne, u2_nj, u1_eq, u1_ne, mT2, mS2, mT3, mS3, mT4, mS4, mT5, mS5, mT12, mS12, mT16, mS16, mT60, mS60, nI_add, nI_1, sb1, nI_clamp, cl0, cl1, cl2, eb, ad0, side]
        exact hi
      · simp only [if_true] at side
        rw [if_pos rfl] at eb
        repeat' ((conv => whnf); first | (show Ct _ _ _ _ _ _ ∧ True; first | (show Ct _ _ 219 _ _ _ ∧ True; (refine And.intro (s_in _ _ _ (fun c c2 => ?_) (fun c => ?_)) trivial <;> (try simp (disch := omega) only [Nat.reduceAdd, qc_i, qc_r, qc_n, qc_l, wd, wA, wI, wL, wJ, u2_rd, u2_ne, u2_nj, u1_eq, u1_ne, mT2, mS2, mT3, mS3, mT4, mS4, mT5, mS5, mT12, mS12, mT16, mS16, mT60, mS60, nI_add, nI_1, sb1, nI_clamp, cl0, cl1, cl2, not_true_eq_false, not_false_eq_true, Int32.lt_iff_toInt_lt, Int32.le_iff_toInt_le, ← Int32.toInt_inj, nI_toInt, nTm100, nTm10, nTm9, nTm4, nTm3, nTm2, nTm1, nT0, nT1, nT2, nT3, nT4, nT5, nT6, nT8, nT9, nT10, nT12, nT16, nT20, nT24, e, eb, side, hz, Int32.toInt_toInt64, lkT0, lkT1, lkT2, lkT3, lkT4, lkT5, lkT6, lkT7, lkT8, lkT9, lkT10, lkT11, lkT12, lkT13, lkT14, lkT15, lkT16, lkT17, lkT18, lkT19] at c) <;> (try simp (disch := omega) only [Nat.reduceAdd, qc_i, qc_r, qc_n, qc_l, wd, wA, wI, wL, wJ, u2_rd, u2_ne, u2_nj, u1_eq, u1_ne, mT2, mS2, mT3, mS3, mT4, mS4, mT5, mS5, mT12, mS12, mT16, mS16, mT60, mS60, nI_add, nI_1, sb1, nI_clamp, cl0, cl1, cl2, not_true_eq_false, not_false_eq_true, Int32.lt_iff_toInt_lt, Int32.le_iff_toInt_le, ← Int32.toInt_inj, nI_toInt, nTm100, nTm10, nTm9, nTm4, nTm3, nTm2, nTm1, nT0, nT1, nT2, nT3, nT4, nT5, nT6, nT8, nT9, nT10, nT12, nT16, nT20, nT24, e, eb, side, hz, Int32.toInt_toInt64, lkT0, lkT1, lkT2, lkT3, lkT4, lkT5, lkT6, lkT7, lkT8, lkT9, lkT10, lkT11, lkT12, lkT13, lkT14, lkT15, lkT16, lkT17, lkT18, lkT19] at c2) <;> try (exfalso; omega))) | (refine And.intro (Ct_rn rfl (fun _ => ?_)) trivial)) | (refine And.intro (fun c => absurd c i10) (fun _ => ?_)) | (refine And.intro (fun _ => ?_) (fun c => absurd c i10)) | (refine And.intro (fun c => absurd rfl c) (fun _ => ?_)) | (refine And.intro (fun _ => ?_) (fun c => absurd rfl c)) | (refine And.intro (fun c => absurd c i01) (fun _ => ?_)) | (refine And.intro (fun _ => ?_) (fun c => absurd c i01)) | (refine And.intro (fun c => ?_) (fun c => ?_) <;> (try simp (disch := omega) only [Nat.reduceAdd, qc_i, qc_r, qc_n, qc_l, wd, wA, wI, wL, wJ, u2_rd, u2_ne, u2_nj, u1_eq, u1_ne, mT2, mS2, mT3, mS3, mT4, mS4, mT5, mS5, mT12, mS12, mT16, mS16, mT60, mS60, nI_add, nI_1, sb1, nI_clamp, cl0, cl1, cl2, not_true_eq_false, not_false_eq_true, Int32.lt_iff_toInt_lt, Int32.le_iff_toInt_le, ← Int32.toInt_inj, nI_toInt, nTm100, nTm10, nTm9, nTm4, nTm3, nTm2, nTm1, nT0, nT1, nT2, nT3, nT4, nT5, nT6, nT8, nT9, nT10, nT12, nT16, nT20, nT24, e, eb, side, hz] at c) <;> try (first | exact absurd rfl c | (exfalso; omega))) | (refine And.intro (a := vq _ _) (by unfold vq; (conv => rhs; rhs; arg 1; whnf); (try simp (disch := omega) only [Nat.reduceAdd, qc_i, qc_r, qc_n, qc_l, wd, wA, wI, wL, wJ, u2_rd, u2_ne, u2_nj, u1_eq, u1_ne, mT2, mS2, mT3, mS3, mT4, mS4, mT5, mS5, mT12, mS12, mT16, mS16, mT60, mS60, nI_add, nI_1, sb1, nI_clamp, cl0, cl1, cl2, not_true_eq_false, not_false_eq_true, Int32.lt_iff_toInt_lt, Int32.le_iff_toInt_le, ← Int32.toInt_inj, nI_toInt, nTm100, nTm10, nTm9, nTm4, nTm3, nTm2, nTm1, nT0, nT1, nT2, nT3, nT4, nT5, nT6, nT8, nT9, nT10, nT12, nT16, nT20, nT24, e, eb, side, hz]); omega) ?_) | (refine And.intro (Or.inl rfl) ?_) | (refine And.intro (Or.inr rfl) ?_) | (refine And.intro (And.intro (by decide) trivial) ?_) | fail); all_goals (try (conv => whnf))
        simp (disch := omega) only [Nat.reduceAdd, qc_i, qc_r, qc_n, qc_l, wd, wA, wI, wL, wJ, u2_rd, u2_ne, u2_nj, u1_eq, u1_ne, mT2, mS2, mT3, mS3, mT4, mS4, mT5, mS5, mT12, mS12, mT16, mS16, mT60, mS60, nI_add, nI_1, sb1, nI_clamp, cl0, cl1, cl2, eb, side]
        exact hi
    · have hz2 : ¬ (A 8 (kpK px py s k) &&& v).toInt = 0 := fun h => hz (Int32.toInt_inj.mp h)
      have hap2 : apB (fun x y => bt (A 8 x) y) (kpK px py s) (k + 1) = false := by
        rw [es, hap]
        cases z : anyB (fun j => bt (A 8 (kpK px py s k)) (kpK px py s j)) k
        · exact absurd (key.mpr z) hz
        · rfl
      rw [mono m hap2 (by omega)] at hq
      cases z : s.testBit k <;> rw [z] at side eb
      · simp only [Bool.false_eq_true, if_false, Nat.add_zero] at side
        rw [if_neg Bool.false_ne_true] at eb
        repeat' ((conv => whnf); first | (show Ct _ _ _ _ _ _ ∧ True; first | (show Ct _ _ 219 _ _ _ ∧ True; (refine And.intro (s_in _ _ _ (fun c c2 => ?_) (fun c => ?_)) trivial <;> (try simp (disch := omega) only [Nat.reduceAdd, qc_i, qc_r, qc_n, qc_l, wd, wA, wI, wL, wJ, u2_rd, u2_ne, u2_nj, u1_eq, u1_ne, mT2, mS2, mT3, mS3, mT4, mS4, mT5, mS5, mT12, mS12, mT16, mS16, mT60, mS60, nI_add, nI_1, sb1, nI_clamp, cl0, cl1, cl2, not_true_eq_false, not_false_eq_true, Int32.lt_iff_toInt_lt, Int32.le_iff_toInt_le, ← Int32.toInt_inj, nI_toInt, nTm100, nTm10, nTm9, nTm4, nTm3, nTm2, nTm1, nT0, nT1, nT2, nT3, nT4, nT5, nT6, nT8, nT9, nT10, nT12, nT16, nT20, nT24, e, eb, ad0, side, Int32.toInt_toInt64, lkT0, lkT1, lkT2, lkT3, lkT4, lkT5, lkT6, lkT7, lkT8, lkT9, lkT10, lkT11, lkT12, lkT13, lkT14, lkT15, lkT16, lkT17, lkT18, lkT19] at c) <;> (try simp (disch := omega) only [Nat.reduceAdd, qc_i, qc_r, qc_n, qc_l, wd, wA, wI, wL, wJ, u2_rd, u2_ne, u2_nj, u1_eq, u1_ne, mT2, mS2, mT3, mS3, mT4, mS4, mT5, mS5, mT12, mS12, mT16, mS16, mT60, mS60, nI_add, nI_1, sb1, nI_clamp, cl0, cl1, cl2, not_true_eq_false, not_false_eq_true, Int32.lt_iff_toInt_lt, Int32.le_iff_toInt_le, ← Int32.toInt_inj, nI_toInt, nTm100, nTm10, nTm9, nTm4, nTm3, nTm2, nTm1, nT0, nT1, nT2, nT3, nT4, nT5, nT6, nT8, nT9, nT10, nT12, nT16, nT20, nT24, e, eb, ad0, side, Int32.toInt_toInt64, lkT0, lkT1, lkT2, lkT3, lkT4, lkT5, lkT6, lkT7, lkT8, lkT9, lkT10, lkT11, lkT12, lkT13, lkT14, lkT15, lkT16, lkT17, lkT18, lkT19] at c2) <;> try (exfalso; omega))) | (refine And.intro (Ct_rn rfl (fun _ => ?_)) trivial)) | (refine And.intro (fun c => absurd c i10) (fun _ => ?_)) | (refine And.intro (fun _ => ?_) (fun c => absurd c i10)) | (refine And.intro (fun c => absurd rfl c) (fun _ => ?_)) | (refine And.intro (fun _ => ?_) (fun c => absurd rfl c)) | (refine And.intro (fun c => absurd c i01) (fun _ => ?_)) | (refine And.intro (fun _ => ?_) (fun c => absurd c i01)) | (refine And.intro (fun c => ?_) (fun c => ?_) <;> (try simp (disch := omega) only [Nat.reduceAdd, qc_i, qc_r, qc_n, qc_l, wd, wA, wI, wL, wJ, u2_rd, u2_ne, u2_nj, u1_eq, u1_ne, mT2, mS2, mT3, mS3, mT4, mS4, mT5, mS5, mT12, mS12, mT16, mS16, mT60, mS60, nI_add, nI_1, sb1, nI_clamp, cl0, cl1, cl2, not_true_eq_false, not_false_eq_true, Int32.lt_iff_toInt_lt, Int32.le_iff_toInt_le, ← Int32.toInt_inj, nI_toInt, nTm100, nTm10, nTm9, nTm4, nTm3, nTm2, nTm1, nT0, nT1, nT2, nT3, nT4, nT5, nT6, nT8, nT9, nT10, nT12, nT16, nT20, nT24, e, eb, ad0, side] at c) <;> try (first | exact absurd rfl c | (exfalso; omega))) | (refine And.intro (a := vq _ _) (by unfold vq; (conv => rhs; rhs; arg 1; whnf); (try simp (disch := omega) only [Nat.reduceAdd, qc_i, qc_r, qc_n, qc_l, wd, wA, wI, wL, wJ, u2_rd, u2_ne, u2_nj, u1_eq, u1_ne, mT2, mS2, mT3, mS3, mT4, mS4, mT5, mS5, mT12, mS12, mT16, mS16, mT60, mS60, nI_add, nI_1, sb1, nI_clamp, cl0, cl1, cl2, not_true_eq_false, not_false_eq_true, Int32.lt_iff_toInt_lt, Int32.le_iff_toInt_le, ← Int32.toInt_inj, nI_toInt, nTm100, nTm10, nTm9, nTm4, nTm3, nTm2, nTm1, nT0, nT1, nT2, nT3, nT4, nT5, nT6, nT8, nT9, nT10, nT12, nT16, nT20, nT24, e, eb, ad0, side]); omega) ?_) | (refine And.intro (Or.inl rfl) ?_) | (refine And.intro (Or.inr rfl) ?_) | (refine And.intro (And.intro (by decide) trivial) ?_) | fail); all_goals (try (conv => whnf))
        exact hq
      · simp only [if_true] at side
        rw [if_pos rfl] at eb
        repeat' ((conv => whnf); first | (show Ct _ _ _ _ _ _ ∧ True; first | (show Ct _ _ 219 _ _ _ ∧ True; (refine And.intro (s_in _ _ _ (fun c c2 => ?_) (fun c => ?_)) trivial <;> (try simp (disch := omega) only [Nat.reduceAdd, qc_i, qc_r, qc_n, qc_l, wd, wA, wI, wL, wJ, u2_rd, u2_ne, u2_nj, u1_eq, u1_ne, mT2, mS2, mT3, mS3, mT4, mS4, mT5, mS5, mT12, mS12, mT16, mS16, mT60, mS60, nI_add, nI_1, sb1, nI_clamp, cl0, cl1, cl2, not_true_eq_false, not_false_eq_true, Int32.lt_iff_toInt_lt, Int32.le_iff_toInt_le, ← Int32.toInt_inj, nI_toInt, nTm100, nTm10, nTm9, nTm4, nTm3, nTm2, nTm1, nT0, nT1, nT2, nT3, nT4, nT5, nT6, nT8, nT9, nT10, nT12, nT16, nT20, nT24, e, eb, side, Int32.toInt_toInt64, lkT0, lkT1, lkT2, lkT3, lkT4, lkT5, lkT6, lkT7, lkT8, lkT9, lkT10, lkT11, lkT12, lkT13, lkT14, lkT15, lkT16, lkT17, lkT18, lkT19] at c) <;> (try simp (disch := omega) only [Nat.reduceAdd, qc_i, qc_r, qc_n, qc_l, wd, wA, wI, wL, wJ, u2_rd, u2_ne, u2_nj, u1_eq, u1_ne, mT2, mS2, mT3, mS3, mT4, mS4, mT5, mS5, mT12, mS12, mT16, mS16, mT60, mS60, nI_add, nI_1, sb1, nI_clamp, cl0, cl1, cl2, not_true_eq_false, not_false_eq_true, Int32.lt_iff_toInt_lt, Int32.le_iff_toInt_le, ← Int32.toInt_inj, nI_toInt, nTm100, nTm10, nTm9, nTm4, nTm3, nTm2, nTm1, nT0, nT1, nT2, nT3, nT4, nT5, nT6, nT8, nT9, nT10, nT12, nT16, nT20, nT24, e, eb, side, Int32.toInt_toInt64, lkT0, lkT1, lkT2, lkT3, lkT4, lkT5, lkT6, lkT7, lkT8, lkT9, lkT10, lkT11, lkT12, lkT13, lkT14, lkT15, lkT16, lkT17, lkT18, lkT19] at c2) <;> try (exfalso; omega))) | (refine And.intro (Ct_rn rfl (fun _ => ?_)) trivial)) | (refine And.intro (fun c => absurd c i10) (fun _ => ?_)) | (refine And.intro (fun _ => ?_) (fun c => absurd c i10)) | (refine And.intro (fun c => absurd rfl c) (fun _ => ?_)) | (refine And.intro (fun _ => ?_) (fun c => absurd rfl c)) | (refine And.intro (fun c => absurd c i01) (fun _ => ?_)) | (refine And.intro (fun _ => ?_) (fun c => absurd c i01)) | (refine And.intro (fun c => ?_) (fun c => ?_) <;> (try simp (disch := omega) only [Nat.reduceAdd, qc_i, qc_r, qc_n, qc_l, wd, wA, wI, wL, wJ, u2_rd, u2_ne, u2_nj, u1_eq, u1_ne, mT2, mS2, mT3, mS3, mT4, mS4, mT5, mS5, mT12, mS12, mT16, mS16, mT60, mS60, nI_add, nI_1, sb1, nI_clamp, cl0, cl1, cl2, not_true_eq_false, not_false_eq_true, Int32.lt_iff_toInt_lt, Int32.le_iff_toInt_le, ← Int32.toInt_inj, nI_toInt, nTm100, nTm10, nTm9, nTm4, nTm3, nTm2, nTm1, nT0, nT1, nT2, nT3, nT4, nT5, nT6, nT8, nT9, nT10, nT12, nT16, nT20, nT24, e, eb, side] at c) <;> try (first | exact absurd rfl c | (exfalso; omega))) | (refine And.intro (a := vq _ _) (by unfold vq; (conv => rhs; rhs; arg 1; whnf); (try simp (disch := omega) only [Nat.reduceAdd, qc_i, qc_r, qc_n, qc_l, wd, wA, wI, wL, wJ, u2_rd, u2_ne, u2_nj, u1_eq, u1_ne, mT2, mS2, mT3, mS3, mT4, mS4, mT5, mS5, mT12, mS12, mT16, mS16, mT60, mS60, nI_add, nI_1, sb1, nI_clamp, cl0, cl1, cl2, not_true_eq_false, not_false_eq_true, Int32.lt_iff_toInt_lt, Int32.le_iff_toInt_le, ← Int32.toInt_inj, nI_toInt, nTm100, nTm10, nTm9, nTm4, nTm3, nTm2, nTm1, nT0, nT1, nT2, nT3, nT4, nT5, nT6, nT8, nT9, nT10, nT12, nT16, nT20, nT24, e, eb, side]); omega) ?_) | (refine And.intro (Or.inl rfl) ?_) | (refine And.intro (Or.inr rfl) ?_) | (refine And.intro (And.intro (by decide) trivial) ?_) | fail); all_goals (try (conv => whnf))
        exact hq
  · have : k = m := by omega
    subst this
    rw [hap] at hq
    repeat' ((conv => whnf); first | (show Ct _ _ _ _ _ _ ∧ True; first | (show Ct _ _ 219 _ _ _ ∧ True; (refine And.intro (s_in _ _ _ (fun c c2 => ?_) (fun c => ?_)) trivial <;> (try simp (disch := omega) only [Nat.reduceAdd, qc_i, qc_r, qc_n, qc_l, wd, wA, wI, wL, wJ, u2_rd, u2_ne, u2_nj, u1_eq, u1_ne, mT2, mS2, mT3, mS3, mT4, mS4, mT5, mS5, mT12, mS12, mT16, mS16, mT60, mS60, nI_add, nI_1, sb1, nI_clamp, cl0, cl1, cl2, not_true_eq_false, not_false_eq_true, Int32.lt_iff_toInt_lt, Int32.le_iff_toInt_le, ← Int32.toInt_inj, nI_toInt, nTm100, nTm10, nTm9, nTm4, nTm3, nTm2, nTm1, nT0, nT1, nT2, nT3, nT4, nT5, nT6, nT8, nT9, nT10, nT12, nT16, nT20, nT24, e, Int32.toInt_toInt64, lkT0, lkT1, lkT2, lkT3, lkT4, lkT5, lkT6, lkT7, lkT8, lkT9, lkT10, lkT11, lkT12, lkT13, lkT14, lkT15, lkT16, lkT17, lkT18, lkT19] at c) <;> (try simp (disch := omega) only [Nat.reduceAdd, qc_i, qc_r, qc_n, qc_l, wd, wA, wI, wL, wJ, u2_rd, u2_ne, u2_nj, u1_eq, u1_ne, mT2, mS2, mT3, mS3, mT4, mS4, mT5, mS5, mT12, mS12, mT16, mS16, mT60, mS60, nI_add, nI_1, sb1, nI_clamp, cl0, cl1, cl2, not_true_eq_false, not_false_eq_true, Int32.lt_iff_toInt_lt, Int32.le_iff_toInt_le, ← Int32.toInt_inj, nI_toInt, nTm100, nTm10, nTm9, nTm4, nTm3, nTm2, nTm1, nT0, nT1, nT2, nT3, nT4, nT5, nT6, nT8, nT9, nT10, nT12, nT16, nT20, nT24, e, Int32.toInt_toInt64, lkT0, lkT1, lkT2, lkT3, lkT4, lkT5, lkT6, lkT7, lkT8, lkT9, lkT10, lkT11, lkT12, lkT13, lkT14, lkT15, lkT16, lkT17, lkT18, lkT19] at c2) <;> try (exfalso; omega))) | (refine And.intro (Ct_rn rfl (fun _ => ?_)) trivial)) | (refine And.intro (fun c => absurd c i10) (fun _ => ?_)) | (refine And.intro (fun _ => ?_) (fun c => absurd c i10)) | (refine And.intro (fun c => absurd rfl c) (fun _ => ?_)) | (refine And.intro (fun _ => ?_) (fun c => absurd rfl c)) | (refine And.intro (fun c => absurd c i01) (fun _ => ?_)) | (refine And.intro (fun _ => ?_) (fun c => absurd c i01)) | (refine And.intro (fun c => ?_) (fun c => ?_) <;> (try simp (disch := omega) only [Nat.reduceAdd, qc_i, qc_r, qc_n, qc_l, wd, wA, wI, wL, wJ, u2_rd, u2_ne, u2_nj, u1_eq, u1_ne, mT2, mS2, mT3, mS3, mT4, mS4, mT5, mS5, mT12, mS12, mT16, mS16, mT60, mS60, nI_add, nI_1, sb1, nI_clamp, cl0, cl1, cl2, not_true_eq_false, not_false_eq_true, Int32.lt_iff_toInt_lt, Int32.le_iff_toInt_le, ← Int32.toInt_inj, nI_toInt, nTm100, nTm10, nTm9, nTm4, nTm3, nTm2, nTm1, nT0, nT1, nT2, nT3, nT4, nT5, nT6, nT8, nT9, nT10, nT12, nT16, nT20, nT24, e] at c) <;> try (first | exact absurd rfl c | (exfalso; omega))) | (refine And.intro (a := vq _ _) (by unfold vq; (conv => rhs; rhs; arg 1; whnf); (try simp (disch := omega) only [Nat.reduceAdd, qc_i, qc_r, qc_n, qc_l, wd, wA, wI, wL, wJ, u2_rd, u2_ne, u2_nj, u1_eq, u1_ne, mT2, mS2, mT3, mS3, mT4, mS4, mT5, mS5, mT12, mS12, mT16, mS16, mT60, mS60, nI_add, nI_1, sb1, nI_clamp, cl0, cl1, cl2, not_true_eq_false, not_false_eq_true, Int32.lt_iff_toInt_lt, Int32.le_iff_toInt_le, ← Int32.toInt_inj, nI_toInt, nTm100, nTm10, nTm9, nTm4, nTm3, nTm2, nTm1, nT0, nT1, nT2, nT3, nT4, nT5, nT6, nT8, nT9, nT10, nT12, nT16, nT20, nT24, e]); omega) ?_) | (refine And.intro (Or.inl rfl) ?_) | (refine And.intro (Or.inr rfl) ?_) | (refine And.intro (And.intro (by decide) trivial) ?_) | fail); all_goals (try (conv => whnf))
    exact hq
end
