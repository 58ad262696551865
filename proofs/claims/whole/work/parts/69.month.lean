theorem any_ct (f : Nat → Bool) : ∀ n, anyB f n = decide (0 < ctF f n) := by
  intro n
  induction n with
  | zero => rfl
  | succ n ih =>
    unfold anyB ctF
    rw [ih]
    cases f n
    · simp
    · simp
theorem smF_lin {f g h : Nat → Nat} : ∀ n, (∀ j, j < n → f j = g j + 1000 * h j) → smF f n = smF g n + 1000 * smF h n := by
  intro n
  induction n with
  | zero => intro _; rfl
  | succ n ih =>
    intro hf
    unfold smF
    rw [ih (fun j hj => hf j (by omega)), hf n (by omega)]
    omega
theorem ctF_0 (n : Nat) : ctF (fun _ => false) n = 0 := by
  induction n with
  | zero => rfl
  | succ n ih => unfold ctF; rw [ih]; rfl
section
variable {sc : Sc} {d : Nat} {A B C : Nat → Nat → Int32} {L : Nat → Nat → Int64} {I : Nat → Nat → Int32} {J : Nat → Nat → Int64} {R : St Prop} {Q : Option Value → Wd → Prop} {K : Kt} {w : Wd} {n r p x jn : Nat} {ch D : Nat → Nat → Bool} {t' l' : Nat → Nat → Int32}
set_option maxHeartbeats 8000000 in

theorem p_month (e : I 38 6 = nI n) (e' : I 64 42 = nI n) (hn : n ≤ 12) (er : I 2 9 = nI r) (er' : I 64 1 = nI r) (hr : r ≤ 16) (ej : I 38 7 = nI jn) (ej' : I 64 55 = nI jn) (hj : jn ≤ 6) (e8 : I 38 8 = I 64 58) (e9 : I 38 9 = I 64 54)
    (a43 : A 43 = A 104) (a44 : A 44 = A 105) (a40 : A 40 = A 98) (a41 : A 41 = A 99) (hl : ∀ p x, p < 12 → x < 16 → bt (A 40 p) x = true → A 42 (16 * p + x) = A 100 (16 * p + x))
    (hz : ∀ p x, p < 12 → x < 16 → bt (A 40 p) x = true → A 41 (16 * p + x) = 0)
    (h1 : ∀ C : Nat → Nat → Int32, (∀ k, k ≠ 40 → k ≠ 41 → k ≠ 42 → k ≠ 98 → k ≠ 99 → k ≠ 100 → k ≠ 106 → C k = A k) → (∀ p, p < 12 → C 40 p = C 98 p) → (∀ p x, p < 12 → x < 16 → C 41 (16 * p + x) = C 99 (16 * p + x)) → (∀ p x, p < 12 → x < 16 → bt (C 40 p) x = true → C 42 (16 * p + x) = C 100 (16 * p + x) ∧ C 41 (16 * p + x) = 0) → (∀ p x, p < 12 → x < 32 → bt (C 40 p) x = true → (p < n ∧ x < r) ∨ bt (A 40 p) x = true) → R C L (u2 (u2 I 38 9 (I 38 9 + 1)) 64 54 (I 64 54 + 1)) J) : PairI sc (d + 9) 184 288 [] A L I J R := by
  have hc1 : ∀ Q' : Option Value → Wd → Prop, _ → Ct sc (d + 8) 82 [.ref 38, .int (I 2 9)] (wd A L I J) Q' := fun Q' hq => by
    rw [er]
    exact sx_month (Q := Q') e hn hr ej hj hq
  all_goals (refine Ct_run 300 (fun _ => ?_)); repeat' ((conv => whnf); first | (show Ct _ _ _ _ _ _ ∧ True; first | (show Ct _ _ 82 _ _ _ ∧ True; first | (refine And.intro (hc1 _ fun wr B C ch hwr hB hch hC => ?_) trivial)) | (show Ct _ _ 219 _ _ _ ∧ True; (refine And.intro (s_in _ _ _ (fun c c2 => ?_) (fun c => ?_)) trivial <;> (try simp (disch := omega) only [Nat.reduceAdd, qc_i, qc_r, qc_n, qc_l, wd, wA, wI, wL, wJ, u2_rd, u2_ne, u2_nj, u1_eq, u1_ne, mT2, mS2, mT3, mS3, mT4, mS4, mT5, mS5, mT12, mS12, mT16, mS16, mT60, mS60, nI_add, nI_1, sb1, nI_clamp, cl0, cl1, cl2, not_true_eq_false, not_false_eq_true, Int32.lt_iff_toInt_lt, Int32.le_iff_toInt_le, ← Int32.toInt_inj, nI_toInt, nTm100, nTm10, nTm9, nTm4, nTm3, nTm2, nTm1, nT0, nT1, nT2, nT3, nT4, nT5, nT6, nT8, nT9, nT10, nT12, nT16, nT20, nT24, Int32.toInt_toInt64, lkT0, lkT1, lkT2, lkT3, lkT4, lkT5, lkT6, lkT7, lkT8, lkT9, lkT10, lkT11, lkT12, lkT13, lkT14, lkT15, lkT16, lkT17, lkT18, lkT19] at c) <;> (try simp (disch := omega) only [Nat.reduceAdd, qc_i, qc_r, qc_n, qc_l, wd, wA, wI, wL, wJ, u2_rd, u2_ne, u2_nj, u1_eq, u1_ne, mT2, mS2, mT3, mS3, mT4, mS4, mT5, mS5, mT12, mS12, mT16, mS16, mT60, mS60, nI_add, nI_1, sb1, nI_clamp, cl0, cl1, cl2, not_true_eq_false, not_false_eq_true, Int32.lt_iff_toInt_lt, Int32.le_iff_toInt_le, ← Int32.toInt_inj, nI_toInt, nTm100, nTm10, nTm9, nTm4, nTm3, nTm2, nTm1, nT0, nT1, nT2, nT3, nT4, nT5, nT6, nT8, nT9, nT10, nT12, nT16, nT20, nT24, Int32.toInt_toInt64, lkT0, lkT1, lkT2, lkT3, lkT4, lkT5, lkT6, lkT7, lkT8, lkT9, lkT10, lkT11, lkT12, lkT13, lkT14, lkT15, lkT16, lkT17, lkT18, lkT19] at c2) <;> try (exfalso; omega))) | (refine And.intro (Ct_rn rfl (fun _ => ?_)) trivial)) | (refine And.intro (fun c => absurd c i10) (fun _ => ?_)) | (refine And.intro (fun _ => ?_) (fun c => absurd c i10)) | (refine And.intro (fun c => absurd rfl c) (fun _ => ?_)) | (refine And.intro (fun _ => ?_) (fun c => absurd rfl c)) | (refine And.intro (fun c => absurd c i01) (fun _ => ?_)) | (refine And.intro (fun _ => ?_) (fun c => absurd c i01)) | (refine And.intro (fun c => ?_) (fun c => ?_) <;> (try simp (disch := omega) only [Nat.reduceAdd, qc_i, qc_r, qc_n, qc_l, wd, wA, wI, wL, wJ, u2_rd, u2_ne, u2_nj, u1_eq, u1_ne, mT2, mS2, mT3, mS3, mT4, mS4, mT5, mS5, mT12, mS12, mT16, mS16, mT60, mS60, nI_add, nI_1, sb1, nI_clamp, cl0, cl1, cl2, not_true_eq_false, not_false_eq_true, Int32.lt_iff_toInt_lt, Int32.le_iff_toInt_le, ← Int32.toInt_inj, nI_toInt, nTm100, nTm10, nTm9, nTm4, nTm3, nTm2, nTm1, nT0, nT1, nT2, nT3, nT4, nT5, nT6, nT8, nT9, nT10, nT12, nT16, nT20, nT24] at c) <;> try (first | exact absurd rfl c | (exfalso; omega))) | (refine And.intro (a := vq _ _) (by unfold vq; (conv => rhs; rhs; arg 1; whnf); (try simp (disch := omega) only [Nat.reduceAdd, qc_i, qc_r, qc_n, qc_l, wd, wA, wI, wL, wJ, u2_rd, u2_ne, u2_nj, u1_eq, u1_ne, mT2, mS2, mT3, mS3, mT4, mS4, mT5, mS5, mT12, mS12, mT16, mS16, mT60, mS60, nI_add, nI_1, sb1, nI_clamp, cl0, cl1, cl2, not_true_eq_false, not_false_eq_true, Int32.lt_iff_toInt_lt, Int32.le_iff_toInt_le, ← Int32.toInt_inj, nI_toInt, nTm100, nTm10, nTm9, nTm4, nTm3, nTm2, nTm1, nT0, nT1, nT2, nT3, nT4, nT5, nT6, nT8, nT9, nT10, nT12, nT16, nT20, nT24]); omega) ?_) | (refine And.intro (Or.inl rfl) ?_) | (refine And.intro (Or.inr rfl) ?_) | (refine And.intro (And.intro (by decide) trivial) ?_) | fail); all_goals (try (conv => whnf))
  refine ⟨_, rfl, ?_⟩
  have b40 : B 40 = A 40 := hB.1 40 (by omega) (by omega)
  have cA : ∀ k, k ≠ 40 → k ≠ 41 → k ≠ 42 → C k = A k := fun k k1 k2 k3 => by rw [hC.1 k k1 k2 k3]; exact hB.1 k k2 k3
  have c98 : C 98 = A 40 := by rw [cA 98 (by omega) (by omega) (by omega), a40]
  have c99 : C 99 = A 41 := by rw [cA 99 (by omega) (by omega) (by omega), a41]
  have c100 : C 100 = A 100 := cA 100 (by omega) (by omega) (by omega)
  have c104 : C 104 = A 43 := by rw [cA 104 (by omega) (by omega) (by omega), a43]
  have c105 : C 105 = A 44 := by rw [cA 105 (by omega) (by omega) (by omega), a44]
  have i1 : (u2 I 38 9 (I 38 9 + 1)) 64 42 = nI n := by rw [u2_ne (by omega)]; exact e'
  have i2 : (u2 I 38 9 (I 38 9 + 1)) 64 1 = nI r := by rw [u2_ne (by omega)]; exact er'
  have i3 : (u2 I 38 9 (I 38 9 + 1)) 64 55 = nI jn := by rw [u2_ne (by omega)]; exact ej'
  have i4 : (u2 I 38 9 (I 38 9 + 1)) 64 54 = I 38 9 := by rw [u2_ne (by omega), e9]
  have i5 : (u2 I 38 9 (I 38 9 + 1)) 64 58 = I 38 8 := by rw [u2_ne (by omega), e8]
  refine sm_month i1 hn i2 hr i3 hj fun f E m t' l' cm hm ht hl' hcm hE => ?_
  rw [i4] at hE hcm hl'
  rw [i5] at hcm
  simp only [c98, c99, c100, c104, c105] at hm ht hl' hcm
  rw [c98]
  have hh : ∀ p x, p < n → x < r → hrB (A 43) (A 44) (A 40) n r p x = fun j => bt (A 44 j) p && bt (tdF (A 43 j) (A 40) n) x := by
    intro p x hp hx
    funext j
    unfold hrB
    simp [hp, hx]
  have h0 : ∀ p x, ¬ (p < n ∧ x < r) → hrB (A 43) (A 44) (A 40) n r p x = fun _ => false := by
    intro p x hpx
    funext j
    unfold hrB
    by_cases hp : p < n
    · have hx : ¬ x < r := fun z => hpx ⟨hp, z⟩
      simp [hx]
    · simp [hp]
  have b41 : ∀ p x, p < n → x < r → B 41 (16 * p + x) = t' p x := by
    intro p x hp hx
    rw [(hB.2 p x (by omega) (by omega)).2, ht, hm, hh p x hp hx]
  have chE : ∀ p x, p < n → x < r → ch p x = cm p x := by
    intro p x hp hx
    rw [hch, hcm]
    unfold mcB
    rw [b40, b41 p x hp hx, (hB.2 p x (by omega) (by omega)).1, hwr p (by omega), hh p x hp hx, any_ct (fun j => bt (A 44 j) p && bt (tdF (A 43 j) (A 40) n) x) jn, hl', hm]
    cases z : bt (A 40 p) x
    · rw [if_neg Bool.false_ne_true, if_neg Bool.false_ne_true]
    · rw [if_pos rfl, if_pos rfl, hl p x (by omega) (by omega) z]
      by_cases hq : 0 < ctF (fun j => bt (A 44 j) p && bt (tdF (A 43 j) (A 40) n) x) jn
      · rw [decide_eq_true hq, if_pos rfl, if_pos hq]
      · rw [decide_eq_false hq, if_neg Bool.false_ne_true, if_neg hq]
  have bits : ∀ p x, p < 12 → x < 32 → bt (E 98 p) x = bt (C 40 p) x := by
    intro p x hp hx
    rw [hE.2.1 p x hp hx, hC.2.1 p x hp hx, u1_ne (by omega), c98, b40]
    by_cases hpx : p < n ∧ x < r
    · rw [chE p x hpx.1 hpx.2]
    · have : (decide (p < n) && decide (x < r)) = false := by
        cases z : (decide (p < n) && decide (x < r))
        · rfl
        · rw [Bool.and_eq_true, decide_eq_true_iff, decide_eq_true_iff] at z; exact absurd z hpx
      dsimp only
      rw [this]; simp
  have eC : ∀ k, k ≠ 98 → k ≠ 99 → k ≠ 100 → k ≠ 106 → E k = C k := fun k k1 k2 k3 k4 => by rw [hE.1 k k1 k2 k3, u1_ne k4]
  refine ⟨vi ?_, _, _, _, _, rfl, ?_⟩
  · congr 1
    refine (smF_lin n fun p hp => ?_).symm
    refine smF_lin r fun x hx => ?_
    unfold vlN cmN wnN
    rw [b40, chE p x hp hx]
    cases cm p x <;> cases bt (A 40 p) x <;> simp
  · rw [i4, e9]
    rw [e9] at h1
    refine h1 E (fun k k1 k2 k3 k4 k5 k6 k7 => ?_) (fun p hp => ?_) (fun p x hp hx => ?_) (fun p x hp hx hk => ?_) (fun p x hp hx hk => ?_)
    · rw [eC k k4 k5 k6 k7, cA k k1 k2 k3]
    · rw [eC 40 (by omega) (by omega) (by omega) (by omega)]
      exact bt_ext fun x hx => (bits p x hp hx).symm
    · rw [eC 41 (by omega) (by omega) (by omega) (by omega), (hC.2.2 p x hp hx).1, (hE.2.2 p x hp hx).1, u1_ne (by omega), c99]
      dsimp only
      by_cases hpx : p < n ∧ x < r
      · rw [chE p x hpx.1 hpx.2, b41 p x hpx.1 hpx.2]
        simp [hpx.1, hpx.2]
      · have : (decide (p < n) && decide (x < r)) = false := by
          cases z : (decide (p < n) && decide (x < r))
          · rfl
          · rw [Bool.and_eq_true, decide_eq_true_iff, decide_eq_true_iff] at z; exact absurd z hpx
        simp only [this, Bool.false_and, Bool.false_eq_true, if_false]
        rw [(hB.2 p x hp hx).2, h0 p x hpx, ctF_0, nI_0]
        simp
    · rw [eC 40 (by omega) (by omega) (by omega) (by omega)] at hk
      rw [eC 41 (by omega) (by omega) (by omega) (by omega), eC 42 (by omega) (by omega) (by omega) (by omega), (hC.2.2 p x hp hx).1, (hC.2.2 p x hp hx).2, (hE.2.2 p x hp hx).2, show (u1 C 106 f) 98 = A 40 from by rw [u1_ne (by omega)]; exact c98, show (u1 C 106 f) 100 = A 100 from by rw [u1_ne (by omega)]; exact c100]
      rw [hC.2.1 p x hp (by omega), b40] at hk
      dsimp only at hk ⊢
      by_cases hpx : p < n ∧ x < r
      · simp only [hpx.1, hpx.2, decide_true, Bool.true_and, Bool.and_self] at hk ⊢
        rw [chE p x hpx.1 hpx.2] at hk ⊢
        rw [(hB.2 p x hp hx).1, hh p x hpx.1 hpx.2, any_ct, hl', hm, b41 p x hpx.1 hpx.2, ht]
        cases z1 : cm p x <;> cases z2 : bt (A 40 p) x <;> rw [z1, z2] at hk <;> simp at hk
        · simp [hl p x hp hx z2, hz p x hp hx z2]
        · simp
      · have : (decide (p < n) && decide (x < r)) = false := by
          cases z : (decide (p < n) && decide (x < r))
          · rfl
          · rw [Bool.and_eq_true, decide_eq_true_iff, decide_eq_true_iff] at z; exact absurd z hpx
        simp only [this, Bool.false_and, Bool.xor_false] at hk
        simp only [this, Bool.false_and, Bool.false_eq_true, if_false]
        rw [(hB.2 p x hp hx).1, (hB.2 p x hp hx).2, h0 p x hpx, any_ct, ctF_0, hk]
        simp [hl p x hp hx hk, hz p x hp hx hk]
    · rw [eC 40 (by omega) (by omega) (by omega) (by omega), hC.2.1 p x hp hx, b40] at hk
      by_cases hpx : p < n ∧ x < r
      · exact Or.inl hpx
      · right
        have : (decide (p < n) && decide (x < r)) = false := by
          cases z : (decide (p < n) && decide (x < r))
          · rfl
          · rw [Bool.and_eq_true, decide_eq_true_iff, decide_eq_true_iff] at z; exact absurd z hpx
        dsimp only at hk
        rw [this] at hk
        simp at hk
        exact hk
end
