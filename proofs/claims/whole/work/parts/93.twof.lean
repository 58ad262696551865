/-- what may be the least word that is two: its key -/
def MinS (A : Nat → Nat → Int32) (r q : Nat) (jn : Int32) (S : Nat) : Prop := (∀ row, TwS (ptF A r q jn) (ptC A) (ptW A) row → S ≤ rKy row) ∧ (S = 14987979559889010688 ∨ ∃ row, TwS (ptF A r q jn) (ptC A) (ptW A) row ∧ S = rKy row)
def lfN (i : Nat) : Nat := if i < 4 then 2 else 1
/-- splits behind no head, and behind the first i heads -/
def Lk (A : Nat → Nat → Int32) (r q : Nat) (jn : Int32) (hd : Nat → Option (List Nat)) (i S : Nat) : Prop := (∀ row, SpS (ptF A r q jn) (ptC A) (ptW A) [] 4 3 row → S ≤ rKy row) ∧ (∀ j, j < i → ∀ l, hd j = some l → ∀ row, SpS (ptF A r q jn) (ptC A) (ptW A) l (j % 4) (lfN j) row → S ≤ rKy row) ∧ (S = 14987979559889010688 ∨ ∃ row, TwS (ptF A r q jn) (ptC A) (ptW A) row ∧ S = rKy row)
section
variable {A I : Nat → Nat → Int32} {r q i S S' : Nat} {jn : Int32} {hd : Nat → Option (List Nat)}
theorem hd_tw (hW : IWo A I r q) (h2 : H2 A r q jn 4 0 hd) (hi : i < 8) {l row : List Nat} (hl : hd i = some l) (h : SpS (ptF A r q jn) (ptC A) (ptW A) l (i % 4) (lfN i) row) : TwS (ptF A r q jn) (ptC A) (ptW A) row := by
  by_cases h4 : i < 4
  · obtain ⟨y, y1, y2, y3⟩ := (h2.1 i h4).2 l hl
    have el : l = wRw (ptW A) [y] := by rw [y3]; show _ = ptW A y ++ []; rw [List.append_nil]
    rw [el] at h
    refine sp_tw (H := [y]) ⟨pF_r4 y1 hW.1, trivial⟩ ?_ ?_ ?_ h
    · show ptC A y = i % 4; omega
    · show 1 + (if i < 4 then 2 else 1) ≤ 3; rw [if_pos h4]; omega
    · show 1 ≤ (if i < 4 then 2 else 1); rw [if_pos h4]; omega
  · obtain ⟨k', y, l1, a1, a2, a3, a4, a5⟩ := (h2.2 (i - 4) (by omega)).2 l (by rw [show 4 + (i - 4) = i by omega]; exact hl)
    obtain ⟨x, x1, x2, x3⟩ := (h2.1 k' a1).2 l1 a2
    have el : l = wRw (ptW A) [x, y] := by rw [a5, x3]; show _ = ptW A x ++ (ptW A y ++ []); rw [List.append_nil]
    rw [el] at h
    refine sp_tw (H := [x, y]) ⟨pF_r4 x1 hW.1, by rw [x2]; exact a3, trivial⟩ ?_ ?_ ?_ h
    · show ptC A y = i % 4; omega
    · show 2 + (if i < 4 then 2 else 1) ≤ 3; rw [if_neg h4]; omega
    · show 1 ≤ (if i < 4 then 2 else 1); rw [if_neg h4]; omega
theorem Lk_s (hW : IWo A I r q) (h2 : H2 A r q jn 4 0 hd) (hi : i < 8) {l : List Nat} (hl : hd i = some l) (h : Lk A r q jn hd i S) (hs : LpS (SpB A r q jn l (i % 4) (lfN i)) S 24 S') : Lk A r q jn hd (i + 1) S' := by
  have key : ∀ row, SpS (ptF A r q jn) (ptC A) (ptW A) l (i % 4) (lfN i) row → S' ≤ rKy row := by
    intro row ⟨p, p1, p2⟩
    exact hs.2.1 p (pF_T p1).1 row ⟨p1, p2⟩
  refine ⟨fun row hr => Nat.le_trans hs.1 (h.1 row hr), fun j hj l' hl' row hr => ?_, ?_⟩
  · by_cases e : j = i
    · subst e
      rw [hl] at hl'
      have := Option.some.inj hl'
      subst this
      exact key row hr
    · exact Nat.le_trans hs.1 (h.2.1 j (by omega) l' hl' row hr)
  · rcases hs.2.2 with z | ⟨b, row, hr, z⟩
    · rw [z]; exact h.2.2
    · exact Or.inr ⟨row, hd_tw hW h2 hi hl ⟨b, hr.1, hr.2⟩, z⟩
theorem Lk_n (hl : hd i = none) (h : Lk A r q jn hd i S) : Lk A r q jn hd (i + 1) S := by
  refine ⟨h.1, fun j hj l' hl' row hr => ?_, h.2.2⟩
  by_cases e : j = i
  · rw [e, hl] at hl'; cases hl'
  · exact h.2.1 j (by omega) l' hl' row hr
theorem Lk_0 (h : LpS (SpB A r q jn [] 4 3) 14987979559889010688 24 S) : Lk A r q jn hd 0 S := by
  refine ⟨fun row ⟨p, p1, p2⟩ => h.2.1 p (pF_T p1).1 row ⟨p1, p2⟩, fun j hj => absurd hj (by omega), ?_⟩
  rcases h.2.2 with z | ⟨b, row, hr, z⟩
  · exact Or.inl z
  · exact Or.inr ⟨row, sp_tw (H := []) trivial rfl (by simp) (by omega) ⟨b, hr.1, hr.2⟩, z⟩
theorem Lk_m (hW : IWo A I r q) (h2 : H2 A r q jn 4 0 hd) (h : Lk A r q jn hd 8 S) : MinS A r q jn S := by
  refine ⟨fun row hr => ?_, h.2.2⟩
  have K : ∀ k p, ptF A r q jn k p = true → PtK A r q p := fun k p hf => pt_K hW (pF_T hf).1 (pF_T hf).2
  have h4 : ∀ k p, ptF A r q jn k p = true → (ptW A p).length ≤ 4 := fun k p hf => by rw [ptW_l]; exact (K k p hf).n4
  have h32 : ∀ k p, ptF A r q jn k p = true → rOk (ptW A p) := fun k p hf => lR_ok (ptW_R (K k p hf))
  refine tw_1 (d1 := hd) (d2 := fun k => hd (4 + k)) h4 h32 (fun k p hf => ptW_n (K k p hf)) (fun k p hf => (K k p hf).c4) (fun k hk => ⟨fun x hx hxc => (h2.1 k hk).1 x (pF_4 hW hx) hxc, fun l hl => ?_⟩) (fun k hk => ⟨fun x y hx hy hyc => ?_, fun l hl => ?_⟩) h.1 (fun k l hk hl row hr => h.2.1 k (by omega) l hl row ?_) (fun k l hk hl row hr => h.2.1 (4 + k) (by omega) l hl row ?_) hr
  · obtain ⟨y, y1, y2, y3⟩ := (h2.1 k hk).2 l hl
    exact ⟨y, pF_r4 y1 hW.1, y2, y3⟩
  · obtain ⟨l1, m1, m2⟩ := (h2.1 (ptC A x) (K _ _ hx).c4).1 x (pF_4 hW hx) rfl
    obtain ⟨x', n1, n2, n3⟩ := (h2.1 (ptC A x) (K _ _ hx).c4).2 l1 m1
    obtain ⟨l, o1, o2⟩ := (h2.2 k hk).1 (ptC A x) y (K _ _ hx).c4 (Or.inl (K _ _ hx).c4) l1 m1 hy hyc
    refine ⟨l, o1, Nat.le_trans o2 (rKy_sub (by rw [n3]; exact h32 4 x' (pF_r4 n1 hW.1)) (h32 _ _ hy) m2 (h32 _ _ hx) ?_)⟩
    have := h4 _ _ hx
    have := h4 _ _ hy
    rw [List.length_append]; omega
  · obtain ⟨k', y, l1, a1, a2, a3, a4, a5⟩ := (h2.2 k hk).2 l hl
    obtain ⟨x, x1, x2, x3⟩ := (h2.1 k' a1).2 l1 a2
    exact ⟨x, y, pF_r4 x1 hW.1, by rw [x2]; exact a3, a4, by rw [a5, x3]⟩
  · rw [show k % 4 = k by omega, show lfN k = 2 from if_pos hk]; exact hr
  · rw [show (4 + k) % 4 = k by omega, show lfN (4 + k) = 1 from if_neg (by omega)]; exact hr
end
section
variable {sc : Sc} {d : Nat} {A B : Nat → Nat → Int32} {L : Nat → Nat → Int64} {I : Nat → Nat → Int32} {J : Nat → Nat → Int64} {Q : Option Value → Wd → Prop} {K : Kt} {r q : Nat} {jn : Int32} {hd : Nat → Option (List Nat)}
set_option maxHeartbeats 64000000 in
theorem lx_look (hK : am_cl sc (Ct sc (d + 36)) 137 Q K) (hW : IWo A I r q) (e3 : I 15 3 = jn) (hH : HdO A L hd) (h2 : H2 A r q jn 4 0 hd)
    (hq : ∀ I' J' S, SpF I I' → JpF J J' → TsO I' J' S → Lk A r q jn hd 8 S → Q none (wd A L I' J')) :
    ∀ i, i ≤ 8 → ∀ I1 J1 S1, SpF I I1 → JpF J J1 → TsO I1 J1 S1 → Lk A r q jn hd i S1 → K 106 [some (.ref 15), none, none, some (.int (nI i)), none] [] (wd A L I1 J1) 0 0 := by
  refine upI fun i hi ih I1 J1 S1 hF hJ hS1 hL => ?_
  refine am_go hK sp137 300 ?_
  rcases Nat.lt_or_ge i 8 with hi2 | hi2
  · have ih := ih hi2
    rcases hH i hi2 with ⟨z1, z2⟩ | ⟨l, z1, z2, z3, z4, z5, z6⟩
    · have hi := ih I1 J1 S1 hF hJ hS1 (Lk_n z1 hL)
      repeat' ((conv => whnf); first | (show Ct _ _ _ _ _ _ ∧ True; first | (show Ct _ _ 219 _ _ _ ∧ True; (refine And.intro (s_in _ _ _ (fun c c2 => ?_) (fun c => ?_)) trivial <;> (try simp (disch := omega) only [Nat.reduceAdd, qc_i, qc_r, qc_n, qc_l, wd, wA, wI, wL, wJ, u2_rd, u2_ne, u2_nj, u1_eq, u1_ne, mT2, mS2, mT3, mS3, mT4, mS4, mT5, mS5, mT12, mS12, mT16, mS16, mT60, mS60, nI_add, nI_1, sb1, nI_clamp, cl0, cl1, cl2, not_true_eq_false, not_false_eq_true, Int32.lt_iff_toInt_lt, Int32.le_iff_toInt_le, ← Int32.toInt_inj, nI_toInt, nTm100, nTm10, nTm9, nTm4, nTm3, nTm2, nTm1, nT0, nT1, nT2, nT3, nT4, nT5, nT6, nT8, nT9, nT10, nT12, nT16, nT20, nT24, z2, Int32.toInt_toInt64, lkT0, lkT1, lkT2, lkT3, lkT4, lkT5, lkT6, lkT7, lkT8, lkT9, lkT10, lkT11, lkT12, lkT13, lkT14, lkT15, lkT16, lkT17, lkT18, lkT19] at c) <;> (try simp (disch := omega) only [Nat.reduceAdd, qc_i, qc_r, qc_n, qc_l, wd, wA, wI, wL, wJ, u2_rd, u2_ne, u2_nj, u1_eq, u1_ne, mT2, mS2, mT3, mS3, mT4, mS4, mT5, mS5, mT12, mS12, mT16, mS16, mT60, mS60, nI_add, nI_1, sb1, nI_clamp, cl0, cl1, cl2, not_true_eq_false, not_false_eq_true, Int32.lt_iff_toInt_lt, Int32.le_iff_toInt_le, ← Int32.toInt_inj, nI_toInt, nTm100, nTm10, nTm9, nTm4, nTm3, nTm2, nTm1, nT0, nT1, nT2, nT3, nT4, nT5, nT6, nT8, nT9, nT10, nT12, nT16, nT20, nT24, z2, Int32.toInt_toInt64, lkT0, lkT1, lkT2, lkT3, lkT4, lkT5, lkT6, lkT7, lkT8, lkT9, lkT10, lkT11, lkT12, lkT13, lkT14, lkT15, lkT16, lkT17, lkT18, lkT19] at c2) <;> try (exfalso; omega))) | (refine And.intro (Ct_rn rfl (fun _ => ?_)) trivial)) | (refine And.intro (fun c => absurd c i10) (fun _ => ?_)) | (refine And.intro (fun _ => ?_) (fun c => absurd c i10)) | (refine And.intro (fun c => absurd rfl c) (fun _ => ?_)) | (refine And.intro (fun _ => ?_) (fun c => absurd rfl c)) | (refine And.intro (fun c => absurd c i01) (fun _ => ?_)) | (refine And.intro (fun _ => ?_) (fun c => absurd c i01)) | (refine And.intro (fun c => ?_) (fun c => ?_) <;> (try simp (disch := omega) only [Nat.reduceAdd, qc_i, qc_r, qc_n, qc_l, wd, wA, wI, wL, wJ, u2_rd, u2_ne, u2_nj, u1_eq, u1_ne, mT2, mS2, mT3, mS3, mT4, mS4, mT5, mS5, mT12, mS12, mT16, mS16, mT60, mS60, nI_add, nI_1, sb1, nI_clamp, cl0, cl1, cl2, not_true_eq_false, not_false_eq_true, Int32.lt_iff_toInt_lt, Int32.le_iff_toInt_le, ← Int32.toInt_inj, nI_toInt, nTm100, nTm10, nTm9, nTm4, nTm3, nTm2, nTm1, nT0, nT1, nT2, nT3, nT4, nT5, nT6, nT8, nT9, nT10, nT12, nT16, nT20, nT24, z2] at c) <;> try (first | exact absurd rfl c | (exfalso; omega))) | (refine And.intro (a := vq _ _) (by unfold vq; (conv => rhs; rhs; arg 1; whnf); (try simp (disch := omega) only [Nat.reduceAdd, qc_i, qc_r, qc_n, qc_l, wd, wA, wI, wL, wJ, u2_rd, u2_ne, u2_nj, u1_eq, u1_ne, mT2, mS2, mT3, mS3, mT4, mS4, mT5, mS5, mT12, mS12, mT16, mS16, mT60, mS60, nI_add, nI_1, sb1, nI_clamp, cl0, cl1, cl2, not_true_eq_false, not_false_eq_true, Int32.lt_iff_toInt_lt, Int32.le_iff_toInt_le, ← Int32.toInt_inj, nI_toInt, nTm100, nTm10, nTm9, nTm4, nTm3, nTm2, nTm1, nT0, nT1, nT2, nT3, nT4, nT5, nT6, nT8, nT9, nT10, nT12, nT16, nT20, nT24, z2]); omega) ?_) | (refine And.intro (Or.inl rfl) ?_) | (refine And.intro (Or.inr rfl) ?_) | (refine And.intro (And.intro (by decide) trivial) ?_) | fail); all_goals (try (conv => whnf))
      all_goals (simp (disch := omega) only [Nat.reduceAdd, qc_i, qc_r, qc_n, qc_l, wd, wA, wI, wL, wJ, u2_rd, u2_ne, u2_nj, u1_eq, u1_ne, mT2, mS2, mT3, mS3, mT4, mS4, mT5, mS5, mT12, mS12, mT16, mS16, mT60, mS60, nI_add, nI_1, sb1, nI_clamp, cl0, cl1, cl2])
      all_goals (exact hi)
    · have i3 : I1 15 3 = jn := by rw [hF 15 3 (by omega)]; exact e3
      have hW1 : IWo A I1 r q := IWo_i hW (hF _ _ (by omega)) (hF _ _ (by omega)) (hF _ _ (by omega)) (hF _ _ (by omega))
      have hr : nI i - nI i / 4 * 4 = nI (i % 4) := pk_rem (d := 4) (by omega) (by omega) (by omega)
      have R1 := fun Q' => sx_split (sc := sc) (d := d) (A := A) (L := L) (r := r) (q := q) (jn := jn) (Q := Q') (k := i % 4) (left := lfN i) (hd := l) (S := S1) (J := J1) (by omega) (by unfold lfN; split <;> omega) (by unfold lfN; split <;> omega) z2 z4 hW1 i3 hS1
      rw [show kI (i % 4) = nI (i % 4) from if_neg (by omega)] at R1
      have fin : ∀ I2 J2 S2, SpF I1 I2 → JpF J1 J2 → TsO I2 J2 S2 → LpS (SpB A r q jn l (i % 4) (lfN i)) S1 24 S2 → K 106 [some (.ref 15), none, none, some (.int (nI (i + 1))), none] [] (wd A L I2 J2) 0 0 := fun I2 J2 S2 k1 k2 k3 k4 => ih I2 J2 S2 (fun a b hab => by rw [k1 a b hab]; exact hF a b hab) (fun a b hab => by rw [k2 a b hab]; exact hJ a b hab) k3 (Lk_s hW h2 hi2 z1 hL k4)
      by_cases h4 : i < 4
      · rw [show lfN i = 2 from if_pos h4] at R1 fin
        repeat' ((conv => whnf); first | (show Ct _ _ _ _ _ _ ∧ True; first | (show Ct _ _ 219 _ _ _ ∧ True; (refine And.intro (s_in _ _ _ (fun c c2 => ?_) (fun c => ?_)) trivial <;> (try simp (disch := omega) only [Nat.reduceAdd, qc_i, qc_r, qc_n, qc_l, wd, wA, wI, wL, wJ, u2_rd, u2_ne, u2_nj, u1_eq, u1_ne, mT2, mS2, mT3, mS3, mT4, mS4, mT5, mS5, mT12, mS12, mT16, mS16, mT60, mS60, nI_add, nI_1, sb1, nI_clamp, cl0, cl1, cl2, not_true_eq_false, not_false_eq_true, Int32.lt_iff_toInt_lt, Int32.le_iff_toInt_le, ← Int32.toInt_inj, nI_toInt, nTm100, nTm10, nTm9, nTm4, nTm3, nTm2, nTm1, nT0, nT1, nT2, nT3, nT4, nT5, nT6, nT8, nT9, nT10, nT12, nT16, nT20, nT24, z5, Int32.toInt_toInt64, lkT0, lkT1, lkT2, lkT3, lkT4, lkT5, lkT6, lkT7, lkT8, lkT9, lkT10, lkT11, lkT12, lkT13, lkT14, lkT15, lkT16, lkT17, lkT18, lkT19] at c) <;> (try simp (disch := omega) only [Nat.reduceAdd, qc_i, qc_r, qc_n, qc_l, wd, wA, wI, wL, wJ, u2_rd, u2_ne, u2_nj, u1_eq, u1_ne, mT2, mS2, mT3, mS3, mT4, mS4, mT5, mS5, mT12, mS12, mT16, mS16, mT60, mS60, nI_add, nI_1, sb1, nI_clamp, cl0, cl1, cl2, not_true_eq_false, not_false_eq_true, Int32.lt_iff_toInt_lt, Int32.le_iff_toInt_le, ← Int32.toInt_inj, nI_toInt, nTm100, nTm10, nTm9, nTm4, nTm3, nTm2, nTm1, nT0, nT1, nT2, nT3, nT4, nT5, nT6, nT8, nT9, nT10, nT12, nT16, nT20, nT24, z5, Int32.toInt_toInt64, lkT0, lkT1, lkT2, lkT3, lkT4, lkT5, lkT6, lkT7, lkT8, lkT9, lkT10, lkT11, lkT12, lkT13, lkT14, lkT15, lkT16, lkT17, lkT18, lkT19] at c2) <;> try (exfalso; omega))) | (refine And.intro (Ct_rn rfl (fun _ => ?_)) trivial)) | (refine And.intro (fun c => absurd c i10) (fun _ => ?_)) | (refine And.intro (fun _ => ?_) (fun c => absurd c i10)) | (refine And.intro (fun c => absurd rfl c) (fun _ => ?_)) | (refine And.intro (fun _ => ?_) (fun c => absurd rfl c)) | (refine And.intro (fun c => absurd c i01) (fun _ => ?_)) | (refine And.intro (fun _ => ?_) (fun c => absurd c i01)) | (refine And.intro (fun c => ?_) (fun c => ?_) <;> (try simp (disch := omega) only [Nat.reduceAdd, qc_i, qc_r, qc_n, qc_l, wd, wA, wI, wL, wJ, u2_rd, u2_ne, u2_nj, u1_eq, u1_ne, mT2, mS2, mT3, mS3, mT4, mS4, mT5, mS5, mT12, mS12, mT16, mS16, mT60, mS60, nI_add, nI_1, sb1, nI_clamp, cl0, cl1, cl2, not_true_eq_false, not_false_eq_true, Int32.lt_iff_toInt_lt, Int32.le_iff_toInt_le, ← Int32.toInt_inj, nI_toInt, nTm100, nTm10, nTm9, nTm4, nTm3, nTm2, nTm1, nT0, nT1, nT2, nT3, nT4, nT5, nT6, nT8, nT9, nT10, nT12, nT16, nT20, nT24, z5] at c) <;> try (first | exact absurd rfl c | (exfalso; omega))) | (refine And.intro (a := vq _ _) (by unfold vq; (conv => rhs; rhs; arg 1; whnf); (try simp (disch := omega) only [Nat.reduceAdd, qc_i, qc_r, qc_n, qc_l, wd, wA, wI, wL, wJ, u2_rd, u2_ne, u2_nj, u1_eq, u1_ne, mT2, mS2, mT3, mS3, mT4, mS4, mT5, mS5, mT12, mS12, mT16, mS16, mT60, mS60, nI_add, nI_1, sb1, nI_clamp, cl0, cl1, cl2, not_true_eq_false, not_false_eq_true, Int32.lt_iff_toInt_lt, Int32.le_iff_toInt_le, ← Int32.toInt_inj, nI_toInt, nTm100, nTm10, nTm9, nTm4, nTm3, nTm2, nTm1, nT0, nT1, nT2, nT3, nT4, nT5, nT6, nT8, nT9, nT10, nT12, nT16, nT20, nT24, z5]); omega) ?_) | (refine And.intro (Or.inl rfl) ?_) | (refine And.intro (Or.inr rfl) ?_) | (refine And.intro (And.intro (by decide) trivial) ?_) | fail); all_goals (try (conv => whnf))
        refine And.intro (Ct_e (av' := [.ref 15, .long (lN (rNm l)), .int (nI l.length), .int (nI (i % 4)), .int (nI 2)]) (w' := wd A L I1 J1) ?_ rfl (R1 _ fun I2 J2 S2 k1 k2 k3 k4 => ?_)) trivial
        · simp (disch := omega) only [Nat.reduceAdd, qc_i, qc_r, qc_n, qc_l, wd, wA, wI, wL, wJ, u2_rd, u2_ne, u2_nj, u1_eq, u1_ne, mT2, mS2, mT3, mS3, mT4, mS4, mT5, mS5, mT12, mS12, mT16, mS16, mT60, mS60, nI_add, nI_1, sb1, nI_clamp, cl0, cl1, cl2, z5, z6, hr]
          rfl
        have fin := fin I2 J2 S2 k1 k2 k3 k4
        (conv => whnf)
        simp (disch := omega) only [Nat.reduceAdd, qc_i, qc_r, qc_n, qc_l, wd, wA, wI, wL, wJ, u2_rd, u2_ne, u2_nj, u1_eq, u1_ne, mT2, mS2, mT3, mS3, mT4, mS4, mT5, mS5, mT12, mS12, mT16, mS16, mT60, mS60, nI_add, nI_1, sb1, nI_clamp, cl0, cl1, cl2]
        exact fin
      · rw [show lfN i = 1 from if_neg h4] at R1 fin
        repeat' ((conv => whnf); first | (show Ct _ _ _ _ _ _ ∧ True; first | (show Ct _ _ 219 _ _ _ ∧ True; (refine And.intro (s_in _ _ _ (fun c c2 => ?_) (fun c => ?_)) trivial <;> (try simp (disch := omega) only [Nat.reduceAdd, qc_i, qc_r, qc_n, qc_l, wd, wA, wI, wL, wJ, u2_rd, u2_ne, u2_nj, u1_eq, u1_ne, mT2, mS2, mT3, mS3, mT4, mS4, mT5, mS5, mT12, mS12, mT16, mS16, mT60, mS60, nI_add, nI_1, sb1, nI_clamp, cl0, cl1, cl2, not_true_eq_false, not_false_eq_true, Int32.lt_iff_toInt_lt, Int32.le_iff_toInt_le, ← Int32.toInt_inj, nI_toInt, nTm100, nTm10, nTm9, nTm4, nTm3, nTm2, nTm1, nT0, nT1, nT2, nT3, nT4, nT5, nT6, nT8, nT9, nT10, nT12, nT16, nT20, nT24, z5, Int32.toInt_toInt64, lkT0, lkT1, lkT2, lkT3, lkT4, lkT5, lkT6, lkT7, lkT8, lkT9, lkT10, lkT11, lkT12, lkT13, lkT14, lkT15, lkT16, lkT17, lkT18, lkT19] at c) <;> (try simp (disch := omega) only [Nat.reduceAdd, qc_i, qc_r, qc_n, qc_l, wd, wA, wI, wL, wJ, u2_rd, u2_ne, u2_nj, u1_eq, u1_ne, mT2, mS2, mT3, mS3, mT4, mS4, mT5, mS5, mT12, mS12, mT16, mS16, mT60, mS60, nI_add, nI_1, sb1, nI_clamp, cl0, cl1, cl2, not_true_eq_false, not_false_eq_true, Int32.lt_iff_toInt_lt, Int32.le_iff_toInt_le, ← Int32.toInt_inj, nI_toInt, nTm100, nTm10, nTm9, nTm4, nTm3, nTm2, nTm1, nT0, nT1, nT2, nT3, nT4, nT5, nT6, nT8, nT9, nT10, nT12, nT16, nT20, nT24, z5, Int32.toInt_toInt64, lkT0, lkT1, lkT2, lkT3, lkT4, lkT5, lkT6, lkT7, lkT8, lkT9, lkT10, lkT11, lkT12, lkT13, lkT14, lkT15, lkT16, lkT17, lkT18, lkT19] at c2) <;> try (exfalso; omega))) | (refine And.intro (Ct_rn rfl (fun _ => ?_)) trivial)) | (refine And.intro (fun c => absurd c i10) (fun _ => ?_)) | (refine And.intro (fun _ => ?_) (fun c => absurd c i10)) | (refine And.intro (fun c => absurd rfl c) (fun _ => ?_)) | (refine And.intro (fun _ => ?_) (fun c => absurd rfl c)) | (refine And.intro (fun c => absurd c i01) (fun _ => ?_)) | (refine And.intro (fun _ => ?_) (fun c => absurd c i01)) | (refine And.intro (fun c => ?_) (fun c => ?_) <;> (try simp (disch := omega) only [Nat.reduceAdd, qc_i, qc_r, qc_n, qc_l, wd, wA, wI, wL, wJ, u2_rd, u2_ne, u2_nj, u1_eq, u1_ne, mT2, mS2, mT3, mS3, mT4, mS4, mT5, mS5, mT12, mS12, mT16, mS16, mT60, mS60, nI_add, nI_1, sb1, nI_clamp, cl0, cl1, cl2, not_true_eq_false, not_false_eq_true, Int32.lt_iff_toInt_lt, Int32.le_iff_toInt_le, ← Int32.toInt_inj, nI_toInt, nTm100, nTm10, nTm9, nTm4, nTm3, nTm2, nTm1, nT0, nT1, nT2, nT3, nT4, nT5, nT6, nT8, nT9, nT10, nT12, nT16, nT20, nT24, z5] at c) <;> try (first | exact absurd rfl c | (exfalso; omega))) | (refine And.intro (a := vq _ _) (by unfold vq; (conv => rhs; rhs; arg 1; whnf); (try simp (disch := omega) only [Nat.reduceAdd, qc_i, qc_r, qc_n, qc_l, wd, wA, wI, wL, wJ, u2_rd, u2_ne, u2_nj, u1_eq, u1_ne, mT2, mS2, mT3, mS3, mT4, mS4, mT5, mS5, mT12, mS12, mT16, mS16, mT60, mS60, nI_add, nI_1, sb1, nI_clamp, cl0, cl1, cl2, not_true_eq_false, not_false_eq_true, Int32.lt_iff_toInt_lt, Int32.le_iff_toInt_le, ← Int32.toInt_inj, nI_toInt, nTm100, nTm10, nTm9, nTm4, nTm3, nTm2, nTm1, nT0, nT1, nT2, nT3, nT4, nT5, nT6, nT8, nT9, nT10, nT12, nT16, nT20, nT24, z5]); omega) ?_) | (refine And.intro (Or.inl rfl) ?_) | (refine And.intro (Or.inr rfl) ?_) | (refine And.intro (And.intro (by decide) trivial) ?_) | fail); all_goals (try (conv => whnf))
        refine And.intro (Ct_e (av' := [.ref 15, .long (lN (rNm l)), .int (nI l.length), .int (nI (i % 4)), .int (nI 1)]) (w' := wd A L I1 J1) ?_ rfl (R1 _ fun I2 J2 S2 k1 k2 k3 k4 => ?_)) trivial
        · simp (disch := omega) only [Nat.reduceAdd, qc_i, qc_r, qc_n, qc_l, wd, wA, wI, wL, wJ, u2_rd, u2_ne, u2_nj, u1_eq, u1_ne, mT2, mS2, mT3, mS3, mT4, mS4, mT5, mS5, mT12, mS12, mT16, mS16, mT60, mS60, nI_add, nI_1, sb1, nI_clamp, cl0, cl1, cl2, z5, z6, hr]
          rfl
        have fin := fin I2 J2 S2 k1 k2 k3 k4
        (conv => whnf)
        simp (disch := omega) only [Nat.reduceAdd, qc_i, qc_r, qc_n, qc_l, wd, wA, wI, wL, wJ, u2_rd, u2_ne, u2_nj, u1_eq, u1_ne, mT2, mS2, mT3, mS3, mT4, mS4, mT5, mS5, mT12, mS12, mT16, mS16, mT60, mS60, nI_add, nI_1, sb1, nI_clamp, cl0, cl1, cl2]
        exact fin
  · have : i = 8 := by omega
    subst this
    have hq := hq I1 J1 S1 hF hJ hS1 hL
    repeat' ((conv => whnf); first | (show Ct _ _ _ _ _ _ ∧ True; first | (show Ct _ _ 219 _ _ _ ∧ True; (refine And.intro (s_in _ _ _ (fun c c2 => ?_) (fun c => ?_)) trivial <;> (try simp (disch := omega) only [Nat.reduceAdd, qc_i, qc_r, qc_n, qc_l, wd, wA, wI, wL, wJ, u2_rd, u2_ne, u2_nj, u1_eq, u1_ne, mT2, mS2, mT3, mS3, mT4, mS4, mT5, mS5, mT12, mS12, mT16, mS16, mT60, mS60, nI_add, nI_1, sb1, nI_clamp, cl0, cl1, cl2, not_true_eq_false, not_false_eq_true, Int32.lt_iff_toInt_lt, Int32.le_iff_toInt_le, ← Int32.toInt_inj, nI_toInt, nTm100, nTm10, nTm9, nTm4, nTm3, nTm2, nTm1, nT0, nT1, nT2, nT3, nT4, nT5, nT6, nT8, nT9, nT10, nT12, nT16, nT20, nT24, Int32.toInt_toInt64, lkT0, lkT1, lkT2, lkT3, lkT4, lkT5, lkT6, lkT7, lkT8, lkT9, lkT10, lkT11, lkT12, lkT13, lkT14, lkT15, lkT16, lkT17, lkT18, lkT19] at c) <;> (try simp (disch := omega) only [Nat.reduceAdd, qc_i, qc_r, qc_n, qc_l, wd, wA, wI, wL, wJ, u2_rd, u2_ne, u2_nj, u1_eq, u1_ne, mT2, mS2, mT3, mS3, mT4, mS4, mT5, mS5, mT12, mS12, mT16, mS16, mT60, mS60, nI_add, nI_1, sb1, nI_clamp, cl0, cl1, cl2, not_true_eq_false, not_false_eq_true, Int32.lt_iff_toInt_lt, Int32.le_iff_toInt_le, ← Int32.toInt_inj, nI_toInt, nTm100, nTm10, nTm9, nTm4, nTm3, nTm2, nTm1, nT0, nT1, nT2, nT3, nT4, nT5, nT6, nT8, nT9, nT10, nT12, nT16, nT20, nT24, Int32.toInt_toInt64, lkT0, lkT1, lkT2, lkT3, lkT4, lkT5, lkT6, lkT7, lkT8, lkT9, lkT10, lkT11, lkT12, lkT13, lkT14, lkT15, lkT16, lkT17, lkT18, lkT19] at c2) <;> try (exfalso; omega))) | (refine And.intro (Ct_rn rfl (fun _ => ?_)) trivial)) | (refine And.intro (fun c => absurd c i10) (fun _ => ?_)) | (refine And.intro (fun _ => ?_) (fun c => absurd c i10)) | (refine And.intro (fun c => absurd rfl c) (fun _ => ?_)) | (refine And.intro (fun _ => ?_) (fun c => absurd rfl c)) | (refine And.intro (fun c => absurd c i01) (fun _ => ?_)) | (refine And.intro (fun _ => ?_) (fun c => absurd c i01)) | (refine And.intro (fun c => ?_) (fun c => ?_) <;> (try simp (disch := omega) only [Nat.reduceAdd, qc_i, qc_r, qc_n, qc_l, wd, wA, wI, wL, wJ, u2_rd, u2_ne, u2_nj, u1_eq, u1_ne, mT2, mS2, mT3, mS3, mT4, mS4, mT5, mS5, mT12, mS12, mT16, mS16, mT60, mS60, nI_add, nI_1, sb1, nI_clamp, cl0, cl1, cl2, not_true_eq_false, not_false_eq_true, Int32.lt_iff_toInt_lt, Int32.le_iff_toInt_le, ← Int32.toInt_inj, nI_toInt, nTm100, nTm10, nTm9, nTm4, nTm3, nTm2, nTm1, nT0, nT1, nT2, nT3, nT4, nT5, nT6, nT8, nT9, nT10, nT12, nT16, nT20, nT24] at c) <;> try (first | exact absurd rfl c | (exfalso; omega))) | (refine And.intro (a := vq _ _) (by unfold vq; (conv => rhs; rhs; arg 1; whnf); (try simp (disch := omega) only [Nat.reduceAdd, qc_i, qc_r, qc_n, qc_l, wd, wA, wI, wL, wJ, u2_rd, u2_ne, u2_nj, u1_eq, u1_ne, mT2, mS2, mT3, mS3, mT4, mS4, mT5, mS5, mT12, mS12, mT16, mS16, mT60, mS60, nI_add, nI_1, sb1, nI_clamp, cl0, cl1, cl2, not_true_eq_false, not_false_eq_true, Int32.lt_iff_toInt_lt, Int32.le_iff_toInt_le, ← Int32.toInt_inj, nI_toInt, nTm100, nTm10, nTm9, nTm4, nTm3, nTm2, nTm1, nT0, nT1, nT2, nT3, nT4, nT5, nT6, nT8, nT9, nT10, nT12, nT16, nT20, nT24]); omega) ?_) | (refine And.intro (Or.inl rfl) ?_) | (refine And.intro (Or.inr rfl) ?_) | (refine And.intro (And.intro (by decide) trivial) ?_) | fail); all_goals (try (conv => whnf))
    exact hq
theorem pt_17 (hB : ∀ k, k ≠ 17 → B k = A k) : ptF B r q jn = ptF A r q jn ∧ ptC B = ptC A ∧ ptW B = ptW A := by
  have eC : ptC B = ptC A := funext fun p => by unfold ptC; rw [hB 66 (by omega), hB 72 (by omega)]
  have eB : ptB B = ptB A := funext fun p => by unfold ptB; rw [hB 71 (by omega)]
  have eN : ptN B = ptN A := funext fun p => by unfold ptN; rw [hB 67 (by omega), hB 73 (by omega)]
  have eL : ptL B = ptL A := funext fun p => funext fun j => by unfold ptL; rw [hB 68 (by omega), hB 74 (by omega)]
  refine ⟨funext fun k => funext fun p => ?_, eC, funext fun p => ?_⟩
  · unfold ptF; rw [eC, eB]
  · unfold ptW; rw [eN, eL]
theorem IWo_17 (hB : ∀ k, k ≠ 17 → B k = A k) (h : IWo A I r q) : IWo B I r q := by
  obtain ⟨g1, g2, g3, g4, g5, g6, g7, g8⟩ := h
  refine ⟨g1, g2, g3, g4, g5, g6, ?_, ?_⟩
  · rw [hB 68 (by omega), hB 67 (by omega), hB 66 (by omega), hB 5 (by omega), hB 7 (by omega), hB 4 (by omega)]; exact g7
  · rw [hB 74 (by omega), hB 73 (by omega), hB 71 (by omega), hB 72 (by omega), hB 5 (by omega), hB 6 (by omega), hB 7 (by omega), hB 4 (by omega)]; exact g8
set_option maxHeartbeats 64000000 in
theorem sx_look (hW : IWo A I r q) (hn : ¬ ((I 15 3).toInt = jn.toInt ∧ (I 15 9).toInt = (r : Int) ∧ (I 15 10).toInt = (q : Int)))
    (hq : ∀ B L' I' J' S, (∀ k, k ≠ 17 → B k = A k) → (∀ k j, k ≠ 15 → I' k j = I k j) → (∀ k j, k ≠ 15 → J' k j = J k j) → I' 15 3 = jn → I' 15 9 = nI r → I' 15 10 = nI q → TsO I' J' S → MinS A r q jn S → Q none (wd B L' I' J')) : Ct sc (d + 37) 137 [.ref 15, .int jn] (wd A L I J) Q := by
  have hr := hW.1
  have hq8 := hW.2.1
  have e9 := hW.2.2.1
  have e10 := hW.2.2.2.2.1
  have hW1 : IWo A (u2 (u2 (u2 (u2 (u2 I 15 3 jn) 15 9 (nI r)) 15 10 (nI q)) 15 8 0) 15 7 12) r q := IWo_i hW rfl rfl rfl rfl
  have hS0 : TsO (u2 (u2 (u2 (u2 (u2 I 15 3 jn) 15 9 (nI r)) 15 10 (nI q)) 15 8 0) 15 7 12) (u2 J 15 6 (lkc 20)) 14987979559889010688 := ⟨12, 1152921504606846976, by omega, by omega, by omega, u2_rd, by rw [u2_rd]; decide, Or.inr ⟨rfl, rfl, by rw [u2_nj (by omega), u2_rd]⟩⟩
  have hfin : ∀ B, (∀ k, k ≠ 17 → B k = A k) → ∀ L' I' J' S, SpF (u2 (u2 (u2 (u2 (u2 I 15 3 jn) 15 9 (nI r)) 15 10 (nI q)) 15 8 0) 15 7 12) I' → JpF (u2 J 15 6 (lkc 20)) J' → TsO I' J' S → MinS B r q jn S → Q none (wd B L' I' J') := by
    intro B hB L' I' J' S k1 k2 k3 k4
    obtain ⟨p1, p2, p3⟩ := pt_17 (r := r) (q := q) (jn := jn) hB
    have k5 : MinS A r q jn S := by
      unfold MinS at k4 ⊢
      rw [p1, p2, p3] at k4
      exact k4
    refine hq B L' I' J' S hB (fun k j hk => ?_) (fun k j hk => ?_) ?_ ?_ ?_ k3 k5
    · rw [k1 k j (by omega), u2_ne hk, u2_ne hk, u2_ne hk, u2_ne hk, u2_ne hk]
    · rw [k2 k j (by omega), u2_ne hk]
    · rw [k1 15 3 (by omega)]; rfl
    · rw [k1 15 9 (by omega)]; rfl
    · rw [k1 15 10 (by omega)]; rfl
  intro K hK
  refine am_go hK sp137 300 ?_
  repeat' ((conv => whnf); first | (show Ct _ _ _ _ _ _ ∧ True; first | (show Ct _ _ 219 _ _ _ ∧ True; (refine And.intro (s_in _ _ _ (fun c c2 => ?_) (fun c => ?_)) trivial <;> (try simp (disch := omega) only [Nat.reduceAdd, qc_i, qc_r, qc_n, qc_l, wd, wA, wI, wL, wJ, u2_rd, u2_ne, u2_nj, u1_eq, u1_ne, mT2, mS2, mT3, mS3, mT4, mS4, mT5, mS5, mT12, mS12, mT16, mS16, mT60, mS60, nI_add, nI_1, sb1, nI_clamp, cl0, cl1, cl2, not_true_eq_false, not_false_eq_true, Int32.lt_iff_toInt_lt, Int32.le_iff_toInt_le, ← Int32.toInt_inj, nI_toInt, nTm100, nTm10, nTm9, nTm4, nTm3, nTm2, nTm1, nT0, nT1, nT2, nT3, nT4, nT5, nT6, nT8, nT9, nT10, nT12, nT16, nT20, nT24, e9, e10, Int32.toInt_toInt64, lkT0, lkT1, lkT2, lkT3, lkT4, lkT5, lkT6, lkT7, lkT8, lkT9, lkT10, lkT11, lkT12, lkT13, lkT14, lkT15, lkT16, lkT17, lkT18, lkT19] at c) <;> (try simp (disch := omega) only [Nat.reduceAdd, qc_i, qc_r, qc_n, qc_l, wd, wA, wI, wL, wJ, u2_rd, u2_ne, u2_nj, u1_eq, u1_ne, mT2, mS2, mT3, mS3, mT4, mS4, mT5, mS5, mT12, mS12, mT16, mS16, mT60, mS60, nI_add, nI_1, sb1, nI_clamp, cl0, cl1, cl2, not_true_eq_false, not_false_eq_true, Int32.lt_iff_toInt_lt, Int32.le_iff_toInt_le, ← Int32.toInt_inj, nI_toInt, nTm100, nTm10, nTm9, nTm4, nTm3, nTm2, nTm1, nT0, nT1, nT2, nT3, nT4, nT5, nT6, nT8, nT9, nT10, nT12, nT16, nT20, nT24, e9, e10, Int32.toInt_toInt64, lkT0, lkT1, lkT2, lkT3, lkT4, lkT5, lkT6, lkT7, lkT8, lkT9, lkT10, lkT11, lkT12, lkT13, lkT14, lkT15, lkT16, lkT17, lkT18, lkT19] at c2) <;> try (exfalso; omega))) | (refine And.intro (Ct_rn rfl (fun _ => ?_)) trivial)) | (refine And.intro (fun c => absurd c i10) (fun _ => ?_)) | (refine And.intro (fun _ => ?_) (fun c => absurd c i10)) | (refine And.intro (fun c => absurd rfl c) (fun _ => ?_)) | (refine And.intro (fun _ => ?_) (fun c => absurd rfl c)) | (refine And.intro (fun c => absurd c i01) (fun _ => ?_)) | (refine And.intro (fun _ => ?_) (fun c => absurd c i01)) | (refine And.intro (fun c => ?_) (fun c => ?_) <;> (try simp (disch := omega) only [Nat.reduceAdd, qc_i, qc_r, qc_n, qc_l, wd, wA, wI, wL, wJ, u2_rd, u2_ne, u2_nj, u1_eq, u1_ne, mT2, mS2, mT3, mS3, mT4, mS4, mT5, mS5, mT12, mS12, mT16, mS16, mT60, mS60, nI_add, nI_1, sb1, nI_clamp, cl0, cl1, cl2, not_true_eq_false, not_false_eq_true, Int32.lt_iff_toInt_lt, Int32.le_iff_toInt_le, ← Int32.toInt_inj, nI_toInt, nTm100, nTm10, nTm9, nTm4, nTm3, nTm2, nTm1, nT0, nT1, nT2, nT3, nT4, nT5, nT6, nT8, nT9, nT10, nT12, nT16, nT20, nT24, e9, e10] at c) <;> try (first | exact absurd rfl c | (exfalso; omega))) | (refine And.intro (a := vq _ _) (by unfold vq; (conv => rhs; rhs; arg 1; whnf); (try simp (disch := omega) only [Nat.reduceAdd, qc_i, qc_r, qc_n, qc_l, wd, wA, wI, wL, wJ, u2_rd, u2_ne, u2_nj, u1_eq, u1_ne, mT2, mS2, mT3, mS3, mT4, mS4, mT5, mS5, mT12, mS12, mT16, mS16, mT60, mS60, nI_add, nI_1, sb1, nI_clamp, cl0, cl1, cl2, not_true_eq_false, not_false_eq_true, Int32.lt_iff_toInt_lt, Int32.le_iff_toInt_le, ← Int32.toInt_inj, nI_toInt, nTm100, nTm10, nTm9, nTm4, nTm3, nTm2, nTm1, nT0, nT1, nT2, nT3, nT4, nT5, nT6, nT8, nT9, nT10, nT12, nT16, nT20, nT24, e9, e10]); omega) ?_) | (refine And.intro (Or.inl rfl) ?_) | (refine And.intro (Or.inr rfl) ?_) | (refine And.intro (And.intro (by decide) trivial) ?_) | fail); all_goals (try (conv => whnf))
  all_goals (refine And.intro (Ct_e (av' := [.ref 15]) (w' := wd A L (u2 (u2 (u2 (u2 (u2 I 15 3 jn) 15 9 (nI r)) 15 10 (nI q)) 15 8 0) 15 7 12) (u2 J 15 6 (lkc 20))) rfl ?_ (sx_mk hW1 rfl fun B L' hd b1 b2 b3 => ?_)) trivial)
  all_goals (first | (simp (disch := omega) only [Nat.reduceAdd, qc_i, qc_r, qc_n, qc_l, wd, wA, wI, wL, wJ, u2_rd, u2_ne, u2_nj, u1_eq, u1_ne, mT2, mS2, mT3, mS3, mT4, mS4, mT5, mS5, mT12, mS12, mT16, mS16, mT60, mS60, nI_add, nI_1, sb1, nI_clamp, cl0, cl1, cl2, e9, e10]; done) | skip)
  all_goals (
    have hWB := IWo_17 b1 hW1
    obtain ⟨p1, p2, p3⟩ := pt_17 (r := r) (q := q) (jn := jn) b1
    have b4 : H2 B r q jn 4 0 hd := by
      unfold H2 at b3 ⊢
      rw [p1, p2, p3]
      exact b3
    (conv => whnf)
    refine And.intro (Ct_e (av' := [.ref 15, .long (lN (rNm [])), .int (nI ([] : List Nat).length), .int (kI 4), .int (nI 3)]) (w' := wd B L' (u2 (u2 (u2 (u2 (u2 I 15 3 jn) 15 9 (nI r)) 15 10 (nI q)) 15 8 0) 15 7 12) (u2 J 15 6 (lkc 20))) rfl rfl (sx_split (r := r) (q := q) (jn := jn) (S := 14987979559889010688) (by omega) (by omega) (by omega) (fun z hz => by cases hz) (by simp) hWB rfl hS0 fun I2 J2 S2 k1 k2 k3 k4 => ?_)) trivial
    have key := lx_look hK hWB rfl b2 b4 (fun I3 J3 S3 m1 m2 m3 m4 => hfin B b1 L' I3 J3 S3 m1 m2 m3 (Lk_m hWB b4 m4)) 0 (by omega) I2 J2 S2 k1 k2 k3 (Lk_0 k4)
    (conv => whnf)
    exact key)
theorem sx_lookS (hW : IWo A I r q) (h1 : I 15 3 = jn) (h2 : I 15 9 = nI r) (h3 : I 15 10 = nI q) (hq : Q none (wd A L I J)) : Ct sc (d + 37) 137 [.ref 15, .int jn] (wd A L I J) Q := by
  have hr := hW.1
  have hq8 := hW.2.1
  have e9 := hW.2.2.1
  have e10 := hW.2.2.2.2.1
  intro K hK
  refine am_go hK sp137 300 ?_
  repeat' ((conv => whnf); first | (show Ct _ _ _ _ _ _ ∧ True; first | (show Ct _ _ 219 _ _ _ ∧ True; (refine And.intro (s_in _ _ _ (fun c c2 => ?_) (fun c => ?_)) trivial <;> (try simp (disch := omega) only [Nat.reduceAdd, qc_i, qc_r, qc_n, qc_l, wd, wA, wI, wL, wJ, u2_rd, u2_ne, u2_nj, u1_eq, u1_ne, mT2, mS2, mT3, mS3, mT4, mS4, mT5, mS5, mT12, mS12, mT16, mS16, mT60, mS60, nI_add, nI_1, sb1, nI_clamp, cl0, cl1, cl2, not_true_eq_false, not_false_eq_true, Int32.lt_iff_toInt_lt, Int32.le_iff_toInt_le, ← Int32.toInt_inj, nI_toInt, nTm100, nTm10, nTm9, nTm4, nTm3, nTm2, nTm1, nT0, nT1, nT2, nT3, nT4, nT5, nT6, nT8, nT9, nT10, nT12, nT16, nT20, nT24, e9, e10, h1, h2, h3, Int32.toInt_toInt64, lkT0, lkT1, lkT2, lkT3, lkT4, lkT5, lkT6, lkT7, lkT8, lkT9, lkT10, lkT11, lkT12, lkT13, lkT14, lkT15, lkT16, lkT17, lkT18, lkT19] at c) <;> (try simp (disch := omega) only [Nat.reduceAdd, qc_i, qc_r, qc_n, qc_l, wd, wA, wI, wL, wJ, u2_rd, u2_ne, u2_nj, u1_eq, u1_ne, mT2, mS2, mT3, mS3, mT4, mS4, mT5, mS5, mT12, mS12, mT16, mS16, mT60, mS60, nI_add, nI_1, sb1, nI_clamp, cl0, cl1, cl2, not_true_eq_false, not_false_eq_true, Int32.lt_iff_toInt_lt, Int32.le_iff_toInt_le, ← Int32.toInt_inj, nI_toInt, nTm100, nTm10, nTm9, nTm4, nTm3, nTm2, nTm1, nT0, nT1, nT2, nT3, nT4, nT5, nT6, nT8, nT9, nT10, nT12, nT16, nT20, nT24, e9, e10, h1, h2, h3, Int32.toInt_toInt64, lkT0, lkT1, lkT2, lkT3, lkT4, lkT5, lkT6, lkT7, lkT8, lkT9, lkT10, lkT11, lkT12, lkT13, lkT14, lkT15, lkT16, lkT17, lkT18, lkT19] at c2) <;> try (exfalso; omega))) | (refine And.intro (Ct_rn rfl (fun _ => ?_)) trivial)) | (refine And.intro (fun c => absurd c i10) (fun _ => ?_)) | (refine And.intro (fun _ => ?_) (fun c => absurd c i10)) | (refine And.intro (fun c => absurd rfl c) (fun _ => ?_)) | (refine And.intro (fun _ => ?_) (fun c => absurd rfl c)) | (refine And.intro (fun c => absurd c i01) (fun _ => ?_)) | (refine And.intro (fun _ => ?_) (fun c => absurd c i01)) | (refine And.intro (fun c => ?_) (fun c => ?_) <;> (try simp (disch := omega) only [Nat.reduceAdd, qc_i, qc_r, qc_n, qc_l, wd, wA, wI, wL, wJ, u2_rd, u2_ne, u2_nj, u1_eq, u1_ne, mT2, mS2, mT3, mS3, mT4, mS4, mT5, mS5, mT12, mS12, mT16, mS16, mT60, mS60, nI_add, nI_1, sb1, nI_clamp, cl0, cl1, cl2, not_true_eq_false, not_false_eq_true, Int32.lt_iff_toInt_lt, Int32.le_iff_toInt_le, ← Int32.toInt_inj, nI_toInt, nTm100, nTm10, nTm9, nTm4, nTm3, nTm2, nTm1, nT0, nT1, nT2, nT3, nT4, nT5, nT6, nT8, nT9, nT10, nT12, nT16, nT20, nT24, e9, e10, h1, h2, h3] at c) <;> try (first | exact absurd rfl c | (exfalso; omega))) | (refine And.intro (a := vq _ _) (by unfold vq; (conv => rhs; rhs; arg 1; whnf); (try simp (disch := omega) only [Nat.reduceAdd, qc_i, qc_r, qc_n, qc_l, wd, wA, wI, wL, wJ, u2_rd, u2_ne, u2_nj, u1_eq, u1_ne, mT2, mS2, mT3, mS3, mT4, mS4, mT5, mS5, mT12, mS12, mT16, mS16, mT60, mS60, nI_add, nI_1, sb1, nI_clamp, cl0, cl1, cl2, not_true_eq_false, not_false_eq_true, Int32.lt_iff_toInt_lt, Int32.le_iff_toInt_le, ← Int32.toInt_inj, nI_toInt, nTm100, nTm10, nTm9, nTm4, nTm3, nTm2, nTm1, nT0, nT1, nT2, nT3, nT4, nT5, nT6, nT8, nT9, nT10, nT12, nT16, nT20, nT24, e9, e10, h1, h2, h3]); omega) ?_) | (refine And.intro (Or.inl rfl) ?_) | (refine And.intro (Or.inr rfl) ?_) | (refine And.intro (And.intro (by decide) trivial) ?_) | fail); all_goals (try (conv => whnf))
  all_goals (exact hq)
end
