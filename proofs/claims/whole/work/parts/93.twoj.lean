/-- the number that the reference gives a part -/
def nuN (r p : Nat) : Nat := if p < 16 then p else r + (p - 16)
section
variable {A I : Nat → Nat → Int32} {r q p k m : Nat} {jn : Int32}
theorem nu_lt (hW : IWo A I r q) (h : ptF A r q jn k p = true) : nuN r p < r + q ∧ pmN r (nuN r p) = p := by
  have P := pt_K hW (pF_T h).1 (pF_T h).2
  have hr := hW.1
  unfold nuN pmN
  by_cases e : p < 16
  · have := (P.ro e).1
    rw [if_pos e, if_pos this]; omega
  · have := (P.en (by omega)).1
    rw [if_neg e, if_neg (by omega)]; omega
end
/-- a way of three parts at most -/
def wV (A : Nat → Nat → Int32) (r q : Nat) (jn : Int32) (ps : List Nat) : Prop := wOk (ptF A r q jn) (ptC A) 4 ps ∧ ps.length ≤ 3
/-- the least key of the ways that were tried -/
def TrS (A : Nat → Nat → Int32) (r q : Nat) (jn : Int32) (D : List Nat → Prop) (S : Nat) : Prop := (∀ ps, wV A r q jn ps → D ps → Tw2 A r q jn (wRw (ptW A) ps) → S ≤ rKy (wRw (ptW A) ps)) ∧ (S = 14987979559889010688 ∨ ∃ ps, wV A r q jn ps ∧ Tw2 A r q jn (wRw (ptW A) ps) ∧ S = rKy (wRw (ptW A) ps))
def D30 (x : Nat) (ps : List Nat) : Prop := ∃ y t, ps = y :: t ∧ y < x
def D60 (r x m : Nat) (ps : List Nat) : Prop := ∃ y t, ps = y :: t ∧ (y < x ∨ (y = x ∧ (t = [] ∨ ∃ p t', t = p :: t' ∧ nuN r p < m)))
def D103 (r x m m2 : Nat) (ps : List Nat) : Prop := ∃ y t, ps = y :: t ∧ (y < x ∨ (y = x ∧ (t = [] ∨ ∃ p t', t = p :: t' ∧ (nuN r p < m ∨ (nuN r p = m ∧ (t' = [] ∨ ∃ p2 t2, t' = p2 :: t2 ∧ nuN r p2 < m2))))))
section
variable {A I : Nat → Nat → Int32} {r q x m m2 S S2 : Nat} {jn : Int32} {D D' : List Nat → Prop} {ps : List Nat}
theorem Tr_m (h : TrS A r q jn D S) (hd : ∀ ps, wV A r q jn ps → D' ps → D ps) : TrS A r q jn D' S := ⟨fun ps hv hp => h.1 ps hv (hd ps hv hp), h.2⟩
theorem Tr_a (h : TrS A r q jn D S) (hv : wV A r q jn ps) {l : List Nat} (hl : wRw (ptW A) ps = l) (h1 : S2 ≤ S) (h2 : Tw2 A r q jn l → S2 ≤ rKy l) (h3 : S2 = S ∨ (Tw2 A r q jn l ∧ S2 = rKy l)) (hd : ∀ z, wV A r q jn z → D' z → D z ∨ z = ps) : TrS A r q jn D' S2 := by
  subst hl
  refine ⟨fun z hz hD hw => ?_, ?_⟩
  · rcases hd z hz hD with e | e
    · exact Nat.le_trans h1 (h.1 z hz e hw)
    · rw [e] at hw ⊢; exact h2 hw
  · rcases h3 with e | ⟨e1, e2⟩
    · rw [e]; exact h.2
    · exact Or.inr ⟨ps, hv, e1, e2⟩
theorem D_60 (ps : List Nat) (h : D60 r x 0 ps) : D30 x ps ∨ ps = [x] := by
  obtain ⟨y, t, e, h⟩ := h
  rcases h with h | ⟨h1, h | ⟨p, t', _, h⟩⟩
  · exact Or.inl ⟨y, t, e, h⟩
  · right; rw [e, h1, h]
  · omega
theorem D_60s (hW : IWo A I r q) {z : List Nat} (hv : wV A r q jn z) (hf : ptF A r q jn (ptC A x) (pmN r m) = false) (h : D60 r x (m + 1) z) : D60 r x m z := by
  obtain ⟨y, t, e, h⟩ := h
  refine ⟨y, t, e, ?_⟩
  rcases h with h | ⟨h1, h | ⟨p, t', e2, h⟩⟩
  · exact Or.inl h
  · exact Or.inr ⟨h1, Or.inl h⟩
  · refine Or.inr ⟨h1, Or.inr ⟨p, t', e2, ?_⟩⟩
    have hfo : ptF A r q jn (ptC A x) p = true := by
      have := hv.1
      rw [e, e2, h1] at this
      exact this.2.1
    have nu := nu_lt hW hfo
    have : nuN r p ≠ m := fun z => by
      rw [← nu.2, z, hf] at hfo
      exact Bool.false_ne_true hfo
    omega
theorem D_103 (hW : IWo A I r q) {z : List Nat} (hv : wV A r q jn z) (h : D103 r x m 0 z) : D60 r x m z ∨ z = [x, pmN r m] := by
  obtain ⟨y, t, e, h⟩ := h
  rcases h with h | ⟨h1, h | ⟨p, t', e2, h | ⟨h, h3 | ⟨p2, t2, _, h3⟩⟩⟩⟩
  · exact Or.inl ⟨y, t, e, Or.inl h⟩
  · exact Or.inl ⟨y, t, e, Or.inr ⟨h1, Or.inl h⟩⟩
  · exact Or.inl ⟨y, t, e, Or.inr ⟨h1, Or.inr ⟨p, t', e2, h⟩⟩⟩
  · right
    have hfo : ptF A r q jn (ptC A x) p = true := by
      have := hv.1
      rw [e, e2, h1] at this
      exact this.2.1
    have nu := nu_lt hW hfo
    rw [e, e2, h1, h3, ← nu.2, h]
  · omega
theorem D_103s (hW : IWo A I r q) {z : List Nat} (hv : wV A r q jn z) (h : D103 r x m (m2 + 1) z) : D103 r x m m2 z ∨ (z = [x, pmN r m, pmN r m2] ∧ ptF A r q jn (ptC A (pmN r m)) (pmN r m2) = true) := by
  obtain ⟨y, t, e, h⟩ := h
  rcases h with h | ⟨h1, h | ⟨p, t', e2, h | ⟨h, h3 | ⟨p2, t2, e3, h3⟩⟩⟩⟩
  · exact Or.inl ⟨y, t, e, Or.inl h⟩
  · exact Or.inl ⟨y, t, e, Or.inr ⟨h1, Or.inl h⟩⟩
  · exact Or.inl ⟨y, t, e, Or.inr ⟨h1, Or.inr ⟨p, t', e2, Or.inl h⟩⟩⟩
  · exact Or.inl ⟨y, t, e, Or.inr ⟨h1, Or.inr ⟨p, t', e2, Or.inr ⟨h, Or.inl h3⟩⟩⟩⟩
  · by_cases e4 : nuN r p2 = m2
    · right
      have hl := hv.2
      have hw := hv.1
      rw [e, e2, e3] at hl
      rw [e, e2, e3, h1] at hw
      have hl2 : t2.length + 1 + 1 + 1 ≤ 3 := hl
      have ht2 : t2 = [] := List.eq_nil_of_length_eq_zero (by omega)
      have hfo : ptF A r q jn (ptC A x) p = true := hw.2.1
      have hfo2 : ptF A r q jn (ptC A p) p2 = true := hw.2.2.1
      have nu := nu_lt hW hfo
      have nu2 := nu_lt hW hfo2
      have ep : pmN r m = p := by rw [← h]; exact nu.2
      have ep2 : pmN r m2 = p2 := by rw [← e4]; exact nu2.2
      refine ⟨by rw [e, e2, e3, h1, ht2, ep, ep2], by rw [ep, ep2]; exact hfo2⟩
    · exact Or.inl ⟨y, t, e, Or.inr ⟨h1, Or.inr ⟨p, t', e2, Or.inr ⟨h, Or.inr ⟨p2, t2, e3, by omega⟩⟩⟩⟩⟩
theorem D_60e (hW : IWo A I r q) {z : List Nat} (hv : wV A r q jn z) (h : D60 r x (m + 1) z) : D103 r x m (r + q) z := by
  obtain ⟨y, t, e, h⟩ := h
  refine ⟨y, t, e, ?_⟩
  rcases h with h | ⟨h1, h | ⟨p, t', e2, h⟩⟩
  · exact Or.inl h
  · exact Or.inr ⟨h1, Or.inl h⟩
  · refine Or.inr ⟨h1, Or.inr ⟨p, t', e2, ?_⟩⟩
    rcases Nat.lt_or_ge (nuN r p) m with h2 | h2
    · exact Or.inl h2
    · refine Or.inr ⟨by omega, ?_⟩
      cases t' with
      | nil => exact Or.inl rfl
      | cons p2 t2 =>
        refine Or.inr ⟨p2, t2, rfl, ?_⟩
        have hw := hv.1
        rw [e, e2] at hw
        exact (nu_lt hW hw.2.2.1).1
theorem D_30e (hW : IWo A I r q) {z : List Nat} (hv : wV A r q jn z) (h : D30 (x + 1) z) : D60 r x (r + q) z := by
  obtain ⟨y, t, e, h⟩ := h
  refine ⟨y, t, e, ?_⟩
  rcases Nat.lt_or_ge y x with h2 | h2
  · exact Or.inl h2
  · refine Or.inr ⟨by omega, ?_⟩
    cases t with
    | nil => exact Or.inl rfl
    | cons p t' =>
      refine Or.inr ⟨p, t', rfl, ?_⟩
      have hw := hv.1
      rw [e] at hw
      exact (nu_lt hW hw.2.1).1
theorem Tr_e (hW : IWo A I r q) (h : TrS A r q jn (D30 r) S) : MinS A r q jn S := by
  refine ⟨fun row ⟨ps, qs, h1, h2, h3, h4, h5, h6⟩ => ?_, ?_⟩
  · have hT : Tw2 A r q jn (wRw (ptW A) ps) := ⟨ps, qs, h3, ⟨h1, rfl⟩, ⟨h2, by rw [h6, h5]⟩⟩
    cases ps with
    | nil =>
      exfalso
      cases qs with
      | nil => exact h3 rfl
      | cons p x =>
        have h6 : ptW A p ++ wRw (ptW A) x = row := h6
        rw [← h5] at h6
        exact ptW_n (pt_K hW (pF_T h2.1).1 (pF_T h2.1).2) (List.append_eq_nil_iff.mp h6).1
    | cons y t =>
      have := h.1 (y :: t) ⟨h1, h4⟩ ⟨y, t, rfl, pF_4 hW h1.1⟩ hT
      rw [h5] at this
      exact this
  · rcases h.2 with e | ⟨ps, hv, ⟨x, y, hne, ⟨x1, x2⟩, ⟨y1, y2⟩⟩, e⟩
    · exact Or.inl e
    · right
      refine ⟨_, ?_, e⟩
      by_cases ex : x = ps
      · exact ⟨ps, y, hv.1, y1, fun z => hne (by rw [ex, z]), hv.2, rfl, y2⟩
      · exact ⟨ps, x, hv.1, x1, fun z => ex z.symm, hv.2, rfl, x2⟩
end
section
variable {sc : Sc} {d : Nat} {A C : Nat → Nat → Int32} {L : Nat → Nat → Int64} {I I' : Nat → Nat → Int32} {J : Nat → Nat → Int64} {Q : Option Value → Wd → Prop} {K : Kt} {r q x k u S mx my : Nat} {jn : Int32} {l : List Nat} {cl m : Nat → Nat}
theorem sT_85 {D : Nat → Nat → Int32} (h : sT A C) (h2 : ∀ k, k ≠ 85 → D k = C k) : sT A D := fun k hk hk2 => by rw [h2 k (fun z => by rw [z] at hk; exact absurd hk (by decide))]; exact h k hk hk2
theorem sTI_27 {v : Int32} (h : sTI I I') : sTI I (u2 I' 64 27 v) := fun k j hk hk2 => by
  unfold u2
  by_cases e1 : k = 64
  · rw [if_pos e1, if_neg (fun z => by rw [e1, z] at hk; exact absurd hk (by decide))]; exact h k j hk hk2
  · rw [if_neg e1]; exact h k j hk hk2
theorem RmS_f {D I2 : Nat → Nat → Int32} (h : RmS C I' S) (h1 : D 87 = C 87) (h2 : I2 64 31 = I' 64 31) : RmS D I2 S := by
  rcases h with ⟨z1, z2⟩ | ⟨tw, z1, z2, z3, z4, z5, z6⟩
  · exact Or.inl ⟨by rw [h2]; exact z1, z2⟩
  · exact Or.inr ⟨tw, z1, z2, z3, by rw [h2]; exact z4, by rw [h1]; exact z5, z6⟩
theorem sm_adT (hT : sT A C) (hTI : sTI I I') (hW : IWo A I r q) (hR : IRu A I u cl m) (hSt : ISt A I u cl m) (hjn : I 22 9 = jn) (hm : mx < r + q) (hk : k < 4) (h8 : l.length ≤ 8) (e27 : I' 64 27 = nI l.length) (hr : rowO C l) (hf : ptF A r q jn k (pmN r mx) = true)
    (hq : ∀ D, (∀ k, k ≠ 85 → D k = C k) → rowO D (l ++ ptW A (pmN r mx)) → Q (some (.int (nI (ptC A (pmN r mx))))) (wd D L (u2 I' 64 27 (nI (l ++ ptW A (pmN r mx)).length)) J)) : Ct sc (d + 4) 254 [.ref 64, .int (nI mx), .int (nI k)] (wd C L I' J) Q := by
  obtain ⟨e1, e2, e3⟩ := pt_T (r := r) (q := q) (jn := jn) hT
  refine sm_adP (jn := jn) (IWo_T hT hTI hW) (IRu_T hT hTI hR) (ISt_T hT hTI hSt) (by rw [hTI 22 9 rfl (by omega)]; exact hjn) hm hk h8 e27 hr (fun _ => by rw [e2, e3]; exact hq) (fun z => ?_)
  rw [e1, hf] at z
  exact absurd z.symm Bool.false_ne_true
theorem sm_adF (hT : sT A C) (hTI : sTI I I') (hW : IWo A I r q) (hR : IRu A I u cl m) (hSt : ISt A I u cl m) (hjn : I 22 9 = jn) (hm : mx < r + q) (hk : k < 4) (h8 : l.length ≤ 8) (e27 : I' 64 27 = nI l.length) (hr : rowO C l) (hf : ptF A r q jn k (pmN r mx) = false)
    (hq : Q (some (.int (-1))) (wd C L I' J)) : Ct sc (d + 4) 254 [.ref 64, .int (nI mx), .int (nI k)] (wd C L I' J) Q := by
  obtain ⟨e1, e2, e3⟩ := pt_T (r := r) (q := q) (jn := jn) hT
  refine sm_adP (jn := jn) (IWo_T hT hTI hW) (IRu_T hT hTI hR) (ISt_T hT hTI hSt) (by rw [hTI 22 9 rfl (by omega)]; exact hjn) hm hk h8 e27 hr (fun z => ?_) (fun _ => hq)
  rw [e1, hf] at z
  exact absurd z Bool.false_ne_true
/-- what holds of the worlds while rows are tried -/
def lyO (A I C I' : Nat → Nat → Int32) (S : Nat) : Prop := sT A C ∧ sTI I I' ∧ I' 64 30 = 1 ∧ RmS C I' S
set_option maxHeartbeats 64000000 in
theorem lm_l3 (hK : am_cl sc (Ct sc (d + 6)) 257 Q K) (hW : IWo A I r q) (hR : IRu A I u cl m) (hSt : ISt A I u cl m) (hjn : I 22 9 = jn) (hx : x < r) (hmx : mx < r + q) (hf : ptF A r q jn (ptC A x) (pmN r mx) = true)
    (hX : ∀ C I' S, lyO A I C I' S → rowO C (ptW A x) → TrS A r q jn (D60 r x (mx + 1)) S → K 60 [some (.ref 64), some (.int (nI (r + q))), some (.int (nI x)), some (.int (nI (ptW A x).length)), some (.int (nI (mx + 1))), none, none, none] [] (wd C L I' J) 0 0) :
    ∀ my, my ≤ r + q → ∀ C I' S, lyO A I C I' S → rowO C (ptW A x) → TrS A r q jn (D103 r x mx my) S → K 103 [some (.ref 64), some (.int (nI (r + q))), some (.int (nI x)), some (.int (nI (ptW A x).length)), some (.int (nI mx)), some (.int (nI (ptC A (pmN r mx)))), some (.int (nI (ptW A x ++ ptW A (pmN r mx)).length)), some (.int (nI my))] [] (wd C L I' J) 0 0 := by
  have hr16 := hW.1
  have hq8 := hW.2.1
  have Px := pt_K hW (p := x) (by omega) (pT_r hx hr16)
  have Pm := pt_K hW (pF_T hf).1 (pF_T hf).2
  have lx := ptW_l (A := A) (p := x)
  have lm := ptW_l (A := A) (p := pmN r mx)
  have nx := Px.n4
  have nm := Pm.n4
  have cx := Px.c4
  have cm := Pm.c4
  have n1x := Px.n1
  obtain ⟨_, _, a66, _⟩ := Px.ro (by omega)
  have l2 : (ptW A x ++ ptW A (pmN r mx)).length ≤ 8 := by rw [List.length_append]; omega
  refine upI fun my hmy ih C I' S hly hr1 hTr => ?_
  obtain ⟨hT, hTI, h30, hRm⟩ := hly
  refine am_go hK sp257 300 ?_
  rcases Nat.lt_or_ge my (r + q) with hmy2 | hmy2
  · have c66 : C 66 x = nI (ptC A x) := by rw [hT 66 rfl (by omega)]; exact a66
    have R1 : ∀ Q' : Option Value → Wd → Prop, (∀ D, (∀ k, k ≠ 85 → D k = C k) → rowO D (ptW A x ++ ptW A (pmN r mx)) → Q' (some (.int (nI (ptC A (pmN r mx))))) (wd D L (u2 (u2 I' 64 27 (nI (ptW A x).length)) 64 27 (nI (ptW A x ++ ptW A (pmN r mx)).length)) J)) → Ct sc (d + 6) 254 [.ref 64, .int (nI mx), .int (C 66 (nI x).toNatClampNeg)] (wd C L (u2 I' 64 27 (nI (ptW A x).length)) J) Q' := by
      intro Q' h
      rw [nI_clamp (by omega), c66]
      exact sm_adT hT (sTI_27 hTI) hW hR hSt hjn hmx cx (by omega) u2_rd hr1 hf h
    cases hf2 : ptF A r q jn (ptC A (pmN r mx)) (pmN r my)
    · have R2 : ∀ D, (∀ k, k ≠ 85 → D k = C k) → rowO D (ptW A x ++ ptW A (pmN r mx)) → ∀ Q' : Option Value → Wd → Prop, Q' (some (.int (-1))) (wd D L (u2 (u2 (u2 I' 64 27 (nI (ptW A x).length)) 64 27 (nI (ptW A x ++ ptW A (pmN r mx)).length)) 64 27 (nI (ptW A x ++ ptW A (pmN r mx)).length)) J) → Ct sc (d + 6) 254 [.ref 64, .int (nI my), .int (nI (ptC A (pmN r mx)))] (wd D L (u2 (u2 (u2 I' 64 27 (nI (ptW A x).length)) 64 27 (nI (ptW A x ++ ptW A (pmN r mx)).length)) 64 27 (nI (ptW A x ++ ptW A (pmN r mx)).length)) J) Q' := fun D d1 d2 Q' h => sm_adF (sT_85 hT d1) (sTI_27 (sTI_27 (sTI_27 hTI))) hW hR hSt hjn hmy2 cm l2 u2_rd d2 hf2 h
      repeat' ((conv => whnf); first | (show Ct _ _ _ _ _ _ ∧ True; first | (show Ct _ _ 254 _ _ _ ∧ True; first | (refine And.intro (R1 _ fun D d1 d2 => ?_) trivial) | (refine And.intro (R2 D d1 d2 _ ?_) trivial)) | (show Ct _ _ 219 _ _ _ ∧ True; (refine And.intro (s_in _ _ _ (fun c c2 => ?_) (fun c => ?_)) trivial <;> (try simp (disch := omega) only [Nat.reduceAdd, qc_i, qc_r, qc_n, qc_l, wd, wA, wI, wL, wJ, u2_rd, u2_ne, u2_nj, u1_eq, u1_ne, mT2, mS2, mT3, mS3, mT4, mS4, mT5, mS5, mT12, mS12, mT16, mS16, mT60, mS60, nI_add, nI_1, sb1, nI_clamp, cl0, cl1, cl2, not_true_eq_false, not_false_eq_true, Int32.lt_iff_toInt_lt, Int32.le_iff_toInt_le, ← Int32.toInt_inj, nI_toInt, nTm100, nTm10, nTm9, nTm4, nTm3, nTm2, nTm1, nT0, nT1, nT2, nT3, nT4, nT5, nT6, nT8, nT9, nT10, nT12, nT16, nT20, nT24, Int32.toInt_toInt64, lkT0, lkT1, lkT2, lkT3, lkT4, lkT5, lkT6, lkT7, lkT8, lkT9, lkT10, lkT11, lkT12, lkT13, lkT14, lkT15, lkT16, lkT17, lkT18, lkT19] at c) <;> (try simp (disch := omega) only [Nat.reduceAdd, qc_i, qc_r, qc_n, qc_l, wd, wA, wI, wL, wJ, u2_rd, u2_ne, u2_nj, u1_eq, u1_ne, mT2, mS2, mT3, mS3, mT4, mS4, mT5, mS5, mT12, mS12, mT16, mS16, mT60, mS60, nI_add, nI_1, sb1, nI_clamp, cl0, cl1, cl2, not_true_eq_false, not_false_eq_true, Int32.lt_iff_toInt_lt, Int32.le_iff_toInt_le, ← Int32.toInt_inj, nI_toInt, nTm100, nTm10, nTm9, nTm4, nTm3, nTm2, nTm1, nT0, nT1, nT2, nT3, nT4, nT5, nT6, nT8, nT9, nT10, nT12, nT16, nT20, nT24, Int32.toInt_toInt64, lkT0, lkT1, lkT2, lkT3, lkT4, lkT5, lkT6, lkT7, lkT8, lkT9, lkT10, lkT11, lkT12, lkT13, lkT14, lkT15, lkT16, lkT17, lkT18, lkT19] at c2) <;> try (exfalso; omega))) | (refine And.intro (Ct_rn rfl (fun _ => ?_)) trivial)) | (refine And.intro (fun c => absurd c i10) (fun _ => ?_)) | (refine And.intro (fun _ => ?_) (fun c => absurd c i10)) | (refine And.intro (fun c => absurd rfl c) (fun _ => ?_)) | (refine And.intro (fun _ => ?_) (fun c => absurd rfl c)) | (refine And.intro (fun c => absurd c i01) (fun _ => ?_)) | (refine And.intro (fun _ => ?_) (fun c => absurd c i01)) | (refine And.intro (fun c => ?_) (fun c => ?_) <;> (try simp (disch := omega) only [Nat.reduceAdd, qc_i, qc_r, qc_n, qc_l, wd, wA, wI, wL, wJ, u2_rd, u2_ne, u2_nj, u1_eq, u1_ne, mT2, mS2, mT3, mS3, mT4, mS4, mT5, mS5, mT12, mS12, mT16, mS16, mT60, mS60, nI_add, nI_1, sb1, nI_clamp, cl0, cl1, cl2, not_true_eq_false, not_false_eq_true, Int32.lt_iff_toInt_lt, Int32.le_iff_toInt_le, ← Int32.toInt_inj, nI_toInt, nTm100, nTm10, nTm9, nTm4, nTm3, nTm2, nTm1, nT0, nT1, nT2, nT3, nT4, nT5, nT6, nT8, nT9, nT10, nT12, nT16, nT20, nT24] at c) <;> try (first | exact absurd rfl c | (exfalso; omega))) | (refine And.intro (a := vq _ _) (by unfold vq; (conv => rhs; rhs; arg 1; whnf); (try simp (disch := omega) only [Nat.reduceAdd, qc_i, qc_r, qc_n, qc_l, wd, wA, wI, wL, wJ, u2_rd, u2_ne, u2_nj, u1_eq, u1_ne, mT2, mS2, mT3, mS3, mT4, mS4, mT5, mS5, mT12, mS12, mT16, mS16, mT60, mS60, nI_add, nI_1, sb1, nI_clamp, cl0, cl1, cl2, not_true_eq_false, not_false_eq_true, Int32.lt_iff_toInt_lt, Int32.le_iff_toInt_le, ← Int32.toInt_inj, nI_toInt, nTm100, nTm10, nTm9, nTm4, nTm3, nTm2, nTm1, nT0, nT1, nT2, nT3, nT4, nT5, nT6, nT8, nT9, nT10, nT12, nT16, nT20, nT24]); omega) ?_) | (refine And.intro (Or.inl rfl) ?_) | (refine And.intro (Or.inr rfl) ?_) | (refine And.intro (And.intro (by decide) trivial) ?_) | fail); all_goals (try (conv => whnf))
      simp (disch := omega) only [Nat.reduceAdd, qc_i, qc_r, qc_n, qc_l, wd, wA, wI, wL, wJ, u2_rd, u2_ne, u2_nj, u1_eq, u1_ne, mT2, mS2, mT3, mS3, mT4, mS4, mT5, mS5, mT12, mS12, mT16, mS16, mT60, mS60, nI_add, nI_1, sb1, nI_clamp, cl0, cl1, cl2]
      refine ih hmy2 D _ S ⟨sT_85 hT d1, sTI_27 (sTI_27 (sTI_27 hTI)), h30, RmS_f hRm (d1 87 (by omega)) rfl⟩ (fun j hj => by rw [d2 j (by rw [List.length_append]; omega), gD_app, if_pos hj]) (Tr_m hTr (fun z hz hD => ?_))
      rcases D_103s hW hz hD with g | ⟨g1, g2⟩
      · exact g
      · rw [hf2] at g2; exact absurd g2 Bool.false_ne_true
    · have Py := pt_K hW (pF_T hf2).1 (pF_T hf2).2
      have ny := Py.n4
      have cy := Py.c4
      have ly := ptW_l (A := A) (p := pmN r my)
      have R2 : ∀ D, (∀ k, k ≠ 85 → D k = C k) → rowO D (ptW A x ++ ptW A (pmN r mx)) → ∀ Q' : Option Value → Wd → Prop, (∀ E, (∀ k, k ≠ 85 → E k = D k) → rowO E ((ptW A x ++ ptW A (pmN r mx)) ++ ptW A (pmN r my)) → Q' (some (.int (nI (ptC A (pmN r my))))) (wd E L (u2 (u2 (u2 (u2 I' 64 27 (nI (ptW A x).length)) 64 27 (nI (ptW A x ++ ptW A (pmN r mx)).length)) 64 27 (nI (ptW A x ++ ptW A (pmN r mx)).length)) 64 27 (nI ((ptW A x ++ ptW A (pmN r mx)) ++ ptW A (pmN r my)).length)) J)) → Ct sc (d + 6) 254 [.ref 64, .int (nI my), .int (nI (ptC A (pmN r mx)))] (wd D L (u2 (u2 (u2 I' 64 27 (nI (ptW A x).length)) 64 27 (nI (ptW A x ++ ptW A (pmN r mx)).length)) 64 27 (nI (ptW A x ++ ptW A (pmN r mx)).length)) J) Q' := fun D d1 d2 Q' h => sm_adT (sT_85 hT d1) (sTI_27 (sTI_27 (sTI_27 hTI))) hW hR hSt hjn hmy2 cm l2 u2_rd d2 hf2 h
      repeat' ((conv => whnf); first | (show Ct _ _ _ _ _ _ ∧ True; first | (show Ct _ _ 254 _ _ _ ∧ True; first | (refine And.intro (R1 _ fun D d1 d2 => ?_) trivial) | (refine And.intro (R2 D d1 d2 _ fun E e1 e2 => ?_) trivial)) | (show Ct _ _ 219 _ _ _ ∧ True; (refine And.intro (s_in _ _ _ (fun c c2 => ?_) (fun c => ?_)) trivial <;> (try simp (disch := omega) only [Nat.reduceAdd, qc_i, qc_r, qc_n, qc_l, wd, wA, wI, wL, wJ, u2_rd, u2_ne, u2_nj, u1_eq, u1_ne, mT2, mS2, mT3, mS3, mT4, mS4, mT5, mS5, mT12, mS12, mT16, mS16, mT60, mS60, nI_add, nI_1, sb1, nI_clamp, cl0, cl1, cl2, not_true_eq_false, not_false_eq_true, Int32.lt_iff_toInt_lt, Int32.le_iff_toInt_le, ← Int32.toInt_inj, nI_toInt, nTm100, nTm10, nTm9, nTm4, nTm3, nTm2, nTm1, nT0, nT1, nT2, nT3, nT4, nT5, nT6, nT8, nT9, nT10, nT12, nT16, nT20, nT24, Int32.toInt_toInt64, lkT0, lkT1, lkT2, lkT3, lkT4, lkT5, lkT6, lkT7, lkT8, lkT9, lkT10, lkT11, lkT12, lkT13, lkT14, lkT15, lkT16, lkT17, lkT18, lkT19] at c) <;> (try simp (disch := omega) only [Nat.reduceAdd, qc_i, qc_r, qc_n, qc_l, wd, wA, wI, wL, wJ, u2_rd, u2_ne, u2_nj, u1_eq, u1_ne, mT2, mS2, mT3, mS3, mT4, mS4, mT5, mS5, mT12, mS12, mT16, mS16, mT60, mS60, nI_add, nI_1, sb1, nI_clamp, cl0, cl1, cl2, not_true_eq_false, not_false_eq_true, Int32.lt_iff_toInt_lt, Int32.le_iff_toInt_le, ← Int32.toInt_inj, nI_toInt, nTm100, nTm10, nTm9, nTm4, nTm3, nTm2, nTm1, nT0, nT1, nT2, nT3, nT4, nT5, nT6, nT8, nT9, nT10, nT12, nT16, nT20, nT24, Int32.toInt_toInt64, lkT0, lkT1, lkT2, lkT3, lkT4, lkT5, lkT6, lkT7, lkT8, lkT9, lkT10, lkT11, lkT12, lkT13, lkT14, lkT15, lkT16, lkT17, lkT18, lkT19] at c2) <;> try (exfalso; omega))) | (refine And.intro (Ct_rn rfl (fun _ => ?_)) trivial)) | (refine And.intro (fun c => absurd c i10) (fun _ => ?_)) | (refine And.intro (fun _ => ?_) (fun c => absurd c i10)) | (refine And.intro (fun c => absurd rfl c) (fun _ => ?_)) | (refine And.intro (fun _ => ?_) (fun c => absurd rfl c)) | (refine And.intro (fun c => absurd c i01) (fun _ => ?_)) | (refine And.intro (fun _ => ?_) (fun c => absurd c i01)) | (refine And.intro (fun c => ?_) (fun c => ?_) <;> (try simp (disch := omega) only [Nat.reduceAdd, qc_i, qc_r, qc_n, qc_l, wd, wA, wI, wL, wJ, u2_rd, u2_ne, u2_nj, u1_eq, u1_ne, mT2, mS2, mT3, mS3, mT4, mS4, mT5, mS5, mT12, mS12, mT16, mS16, mT60, mS60, nI_add, nI_1, sb1, nI_clamp, cl0, cl1, cl2, not_true_eq_false, not_false_eq_true, Int32.lt_iff_toInt_lt, Int32.le_iff_toInt_le, ← Int32.toInt_inj, nI_toInt, nTm100, nTm10, nTm9, nTm4, nTm3, nTm2, nTm1, nT0, nT1, nT2, nT3, nT4, nT5, nT6, nT8, nT9, nT10, nT12, nT16, nT20, nT24] at c) <;> try (first | exact absurd rfl c | (exfalso; omega))) | (refine And.intro (a := vq _ _) (by unfold vq; (conv => rhs; rhs; arg 1; whnf); (try simp (disch := omega) only [Nat.reduceAdd, qc_i, qc_r, qc_n, qc_l, wd, wA, wI, wL, wJ, u2_rd, u2_ne, u2_nj, u1_eq, u1_ne, mT2, mS2, mT3, mS3, mT4, mS4, mT5, mS5, mT12, mS12, mT16, mS16, mT60, mS60, nI_add, nI_1, sb1, nI_clamp, cl0, cl1, cl2, not_true_eq_false, not_false_eq_true, Int32.lt_iff_toInt_lt, Int32.le_iff_toInt_le, ← Int32.toInt_inj, nI_toInt, nTm100, nTm10, nTm9, nTm4, nTm3, nTm2, nTm1, nT0, nT1, nT2, nT3, nT4, nT5, nT6, nT8, nT9, nT10, nT12, nT16, nT20, nT24]); omega) ?_) | (refine And.intro (Or.inl rfl) ?_) | (refine And.intro (Or.inr rfl) ?_) | (refine And.intro (And.intro (by decide) trivial) ?_) | fail); all_goals (try (conv => whnf))
      have hTE := sT_85 (sT_85 hT d1) e1
      refine And.intro (sm_try (l := (ptW A x ++ ptW A (pmN r mx)) ++ ptW A (pmN r my)) (S := S) hTE (sTI_27 (sTI_27 (sTI_27 (sTI_27 hTI)))) hW hR hSt hjn (lR_a (lR_a (ptW_R Px) (ptW_R Pm)) (ptW_R Py)) (by rw [List.length_append, List.length_append]; omega) (by rw [List.length_append]; omega) u2_rd e2 (RmS_f hRm (by rw [e1 87 (by omega), d1 87 (by omega)]) rfl) fun F I2 S2 f1 f2 f3 f4 f5 f6 f7 f8 => ?_) trivial
      have hi := ih hmy2 F I2 S2 ⟨f1, f2, by rw [f3]; exact h30, f5⟩ (fun j hj => by rw [f4 j (by rw [List.length_append, List.length_append]; omega), gD_app, if_pos (by rw [List.length_append]; omega), gD_app, if_pos hj]) (Tr_a (ps := [x, pmN r mx, pmN r my]) hTr ⟨⟨pF_r4 hx hr16, hf, hf2, trivial⟩, by simp⟩ (by show ptW A x ++ (ptW A (pmN r mx) ++ (ptW A (pmN r my) ++ [])) = _; rw [List.append_nil, List.append_assoc]) f6 f7 f8 (fun z hz hD => by
        rcases D_103s hW hz hD with g | ⟨g1, g2⟩
        · exact Or.inl g
        · exact Or.inr g1))
      (conv => whnf)
      simp (disch := omega) only [Nat.reduceAdd, qc_i, qc_r, qc_n, qc_l, wd, wA, wI, wL, wJ, u2_rd, u2_ne, u2_nj, u1_eq, u1_ne, mT2, mS2, mT3, mS3, mT4, mS4, mT5, mS5, mT12, mS12, mT16, mS16, mT60, mS60, nI_add, nI_1, sb1, nI_clamp, cl0, cl1, cl2]
      exact hi
  · have : my = r + q := by omega
    subst this
    have hX := hX C I' S ⟨hT, hTI, h30, hRm⟩ hr1 (Tr_m hTr (fun z hz hD => D_60e hW hz hD))
    repeat' ((conv => whnf); first | (show Ct _ _ _ _ _ _ ∧ True; first | (show Ct _ _ 219 _ _ _ ∧ True; (refine And.intro (s_in _ _ _ (fun c c2 => ?_) (fun c => ?_)) trivial <;> (try simp (disch := omega) only [Nat.reduceAdd, qc_i, qc_r, qc_n, qc_l, wd, wA, wI, wL, wJ, u2_rd, u2_ne, u2_nj, u1_eq, u1_ne, mT2, mS2, mT3, mS3, mT4, mS4, mT5, mS5, mT12, mS12, mT16, mS16, mT60, mS60, nI_add, nI_1, sb1, nI_clamp, cl0, cl1, cl2, not_true_eq_false, not_false_eq_true, Int32.lt_iff_toInt_lt, Int32.le_iff_toInt_le, ← Int32.toInt_inj, nI_toInt, nTm100, nTm10, nTm9, nTm4, nTm3, nTm2, nTm1, nT0, nT1, nT2, nT3, nT4, nT5, nT6, nT8, nT9, nT10, nT12, nT16, nT20, nT24, Int32.toInt_toInt64, lkT0, lkT1, lkT2, lkT3, lkT4, lkT5, lkT6, lkT7, lkT8, lkT9, lkT10, lkT11, lkT12, lkT13, lkT14, lkT15, lkT16, lkT17, lkT18, lkT19] at c) <;> (try simp (disch := omega) only [Nat.reduceAdd, qc_i, qc_r, qc_n, qc_l, wd, wA, wI, wL, wJ, u2_rd, u2_ne, u2_nj, u1_eq, u1_ne, mT2, mS2, mT3, mS3, mT4, mS4, mT5, mS5, mT12, mS12, mT16, mS16, mT60, mS60, nI_add, nI_1, sb1, nI_clamp, cl0, cl1, cl2, not_true_eq_false, not_false_eq_true, Int32.lt_iff_toInt_lt, Int32.le_iff_toInt_le, ← Int32.toInt_inj, nI_toInt, nTm100, nTm10, nTm9, nTm4, nTm3, nTm2, nTm1, nT0, nT1, nT2, nT3, nT4, nT5, nT6, nT8, nT9, nT10, nT12, nT16, nT20, nT24, Int32.toInt_toInt64, lkT0, lkT1, lkT2, lkT3, lkT4, lkT5, lkT6, lkT7, lkT8, lkT9, lkT10, lkT11, lkT12, lkT13, lkT14, lkT15, lkT16, lkT17, lkT18, lkT19] at c2) <;> try (exfalso; omega))) | (refine And.intro (Ct_rn rfl (fun _ => ?_)) trivial)) | (refine And.intro (fun c => absurd c i10) (fun _ => ?_)) | (refine And.intro (fun _ => ?_) (fun c => absurd c i10)) | (refine And.intro (fun c => absurd rfl c) (fun _ => ?_)) | (refine And.intro (fun _ => ?_) (fun c => absurd rfl c)) | (refine And.intro (fun c => absurd c i01) (fun _ => ?_)) | (refine And.intro (fun _ => ?_) (fun c => absurd c i01)) | (refine And.intro (fun c => ?_) (fun c => ?_) <;> (try simp (disch := omega) only [Nat.reduceAdd, qc_i, qc_r, qc_n, qc_l, wd, wA, wI, wL, wJ, u2_rd, u2_ne, u2_nj, u1_eq, u1_ne, mT2, mS2, mT3, mS3, mT4, mS4, mT5, mS5, mT12, mS12, mT16, mS16, mT60, mS60, nI_add, nI_1, sb1, nI_clamp, cl0, cl1, cl2, not_true_eq_false, not_false_eq_true, Int32.lt_iff_toInt_lt, Int32.le_iff_toInt_le, ← Int32.toInt_inj, nI_toInt, nTm100, nTm10, nTm9, nTm4, nTm3, nTm2, nTm1, nT0, nT1, nT2, nT3, nT4, nT5, nT6, nT8, nT9, nT10, nT12, nT16, nT20, nT24] at c) <;> try (first | exact absurd rfl c | (exfalso; omega))) | (refine And.intro (a := vq _ _) (by unfold vq; (conv => rhs; rhs; arg 1; whnf); (try simp (disch := omega) only [Nat.reduceAdd, qc_i, qc_r, qc_n, qc_l, wd, wA, wI, wL, wJ, u2_rd, u2_ne, u2_nj, u1_eq, u1_ne, mT2, mS2, mT3, mS3, mT4, mS4, mT5, mS5, mT12, mS12, mT16, mS16, mT60, mS60, nI_add, nI_1, sb1, nI_clamp, cl0, cl1, cl2, not_true_eq_false, not_false_eq_true, Int32.lt_iff_toInt_lt, Int32.le_iff_toInt_le, ← Int32.toInt_inj, nI_toInt, nTm100, nTm10, nTm9, nTm4, nTm3, nTm2, nTm1, nT0, nT1, nT2, nT3, nT4, nT5, nT6, nT8, nT9, nT10, nT12, nT16, nT20, nT24]); omega) ?_) | (refine And.intro (Or.inl rfl) ?_) | (refine And.intro (Or.inr rfl) ?_) | (refine And.intro (And.intro (by decide) trivial) ?_) | fail); all_goals (try (conv => whnf))
    simp (disch := omega) only [Nat.reduceAdd, qc_i, qc_r, qc_n, qc_l, wd, wA, wI, wL, wJ, u2_rd, u2_ne, u2_nj, u1_eq, u1_ne, mT2, mS2, mT3, mS3, mT4, mS4, mT5, mS5, mT12, mS12, mT16, mS16, mT60, mS60, nI_add, nI_1, sb1, nI_clamp, cl0, cl1, cl2]
    exact hX
set_option maxHeartbeats 64000000 in
theorem lm_l2 (hK : am_cl sc (Ct sc (d + 6)) 257 Q K) (hW : IWo A I r q) (hR : IRu A I u cl m) (hSt : ISt A I u cl m) (hjn : I 22 9 = jn) (hx : x < r)
    (hX : ∀ C I' S, lyO A I C I' S → TrS A r q jn (D30 (x + 1)) S → K 30 [some (.ref 64), some (.int (nI (r + q))), some (.int (nI (x + 1))), none, none, none, none, none] [] (wd C L I' J) 0 0) :
    ∀ mx, mx ≤ r + q → ∀ C I' S, lyO A I C I' S → rowO C (ptW A x) → TrS A r q jn (D60 r x mx) S → K 60 [some (.ref 64), some (.int (nI (r + q))), some (.int (nI x)), some (.int (nI (ptW A x).length)), some (.int (nI mx)), none, none, none] [] (wd C L I' J) 0 0 := by
  have hr16 := hW.1
  have hq8 := hW.2.1
  have Px := pt_K hW (p := x) (by omega) (pT_r hx hr16)
  have lx := ptW_l (A := A) (p := x)
  have nx := Px.n4
  have cx := Px.c4
  have n1x := Px.n1
  obtain ⟨_, _, a66, _⟩ := Px.ro (by omega)
  refine upI fun mx hmx ih C I' S hly hr1 hTr => ?_
  obtain ⟨hT, hTI, h30, hRm⟩ := hly
  refine am_go hK sp257 300 ?_
  rcases Nat.lt_or_ge mx (r + q) with hmx2 | hmx2
  · have c66 : C 66 x = nI (ptC A x) := by rw [hT 66 rfl (by omega)]; exact a66
    cases hf : ptF A r q jn (ptC A x) (pmN r mx)
    · have R1 : ∀ Q' : Option Value → Wd → Prop, Q' (some (.int (-1))) (wd C L (u2 I' 64 27 (nI (ptW A x).length)) J) → Ct sc (d + 6) 254 [.ref 64, .int (nI mx), .int (C 66 (nI x).toNatClampNeg)] (wd C L (u2 I' 64 27 (nI (ptW A x).length)) J) Q' := by
        intro Q' h
        rw [nI_clamp (by omega), c66]
        exact sm_adF hT (sTI_27 hTI) hW hR hSt hjn hmx2 cx (by omega) u2_rd hr1 hf h
      have hi := ih hmx2 C (u2 I' 64 27 (nI (ptW A x).length)) S ⟨hT, sTI_27 hTI, h30, RmS_f hRm rfl rfl⟩ hr1 (Tr_m hTr (fun z hz hD => D_60s hW hz hf hD))
      repeat' ((conv => whnf); first | (show Ct _ _ _ _ _ _ ∧ True; first | (show Ct _ _ 254 _ _ _ ∧ True; first | (refine And.intro (R1 _ ?_) trivial)) | (show Ct _ _ 219 _ _ _ ∧ True; (refine And.intro (s_in _ _ _ (fun c c2 => ?_) (fun c => ?_)) trivial <;> (try simp (disch := omega) only [Nat.reduceAdd, qc_i, qc_r, qc_n, qc_l, wd, wA, wI, wL, wJ, u2_rd, u2_ne, u2_nj, u1_eq, u1_ne, mT2, mS2, mT3, mS3, mT4, mS4, mT5, mS5, mT12, mS12, mT16, mS16, mT60, mS60, nI_add, nI_1, sb1, nI_clamp, cl0, cl1, cl2, not_true_eq_false, not_false_eq_true, Int32.lt_iff_toInt_lt, Int32.le_iff_toInt_le, ← Int32.toInt_inj, nI_toInt, nTm100, nTm10, nTm9, nTm4, nTm3, nTm2, nTm1, nT0, nT1, nT2, nT3, nT4, nT5, nT6, nT8, nT9, nT10, nT12, nT16, nT20, nT24, Int32.toInt_toInt64, lkT0, lkT1, lkT2, lkT3, lkT4, lkT5, lkT6, lkT7, lkT8, lkT9, lkT10, lkT11, lkT12, lkT13, lkT14, lkT15, lkT16, lkT17, lkT18, lkT19] at c) <;> (try simp (disch := omega) only [Nat.reduceAdd, qc_i, qc_r, qc_n, qc_l, wd, wA, wI, wL, wJ, u2_rd, u2_ne, u2_nj, u1_eq, u1_ne, mT2, mS2, mT3, mS3, mT4, mS4, mT5, mS5, mT12, mS12, mT16, mS16, mT60, mS60, nI_add, nI_1, sb1, nI_clamp, cl0, cl1, cl2, not_true_eq_false, not_false_eq_true, Int32.lt_iff_toInt_lt, Int32.le_iff_toInt_le, ← Int32.toInt_inj, nI_toInt, nTm100, nTm10, nTm9, nTm4, nTm3, nTm2, nTm1, nT0, nT1, nT2, nT3, nT4, nT5, nT6, nT8, nT9, nT10, nT12, nT16, nT20, nT24, Int32.toInt_toInt64, lkT0, lkT1, lkT2, lkT3, lkT4, lkT5, lkT6, lkT7, lkT8, lkT9, lkT10, lkT11, lkT12, lkT13, lkT14, lkT15, lkT16, lkT17, lkT18, lkT19] at c2) <;> try (exfalso; omega))) | (refine And.intro (Ct_rn rfl (fun _ => ?_)) trivial)) | (refine And.intro (fun c => absurd c i10) (fun _ => ?_)) | (refine And.intro (fun _ => ?_) (fun c => absurd c i10)) | (refine And.intro (fun c => absurd rfl c) (fun _ => ?_)) | (refine And.intro (fun _ => ?_) (fun c => absurd rfl c)) | (refine And.intro (fun c => absurd c i01) (fun _ => ?_)) | (refine And.intro (fun _ => ?_) (fun c => absurd c i01)) | (refine And.intro (fun c => ?_) (fun c => ?_) <;> (try simp (disch := omega) only [Nat.reduceAdd, qc_i, qc_r, qc_n, qc_l, wd, wA, wI, wL, wJ, u2_rd, u2_ne, u2_nj, u1_eq, u1_ne, mT2, mS2, mT3, mS3, mT4, mS4, mT5, mS5, mT12, mS12, mT16, mS16, mT60, mS60, nI_add, nI_1, sb1, nI_clamp, cl0, cl1, cl2, not_true_eq_false, not_false_eq_true, Int32.lt_iff_toInt_lt, Int32.le_iff_toInt_le, ← Int32.toInt_inj, nI_toInt, nTm100, nTm10, nTm9, nTm4, nTm3, nTm2, nTm1, nT0, nT1, nT2, nT3, nT4, nT5, nT6, nT8, nT9, nT10, nT12, nT16, nT20, nT24] at c) <;> try (first | exact absurd rfl c | (exfalso; omega))) | (refine And.intro (a := vq _ _) (by unfold vq; (conv => rhs; rhs; arg 1; whnf); (try simp (disch := omega) only [Nat.reduceAdd, qc_i, qc_r, qc_n, qc_l, wd, wA, wI, wL, wJ, u2_rd, u2_ne, u2_nj, u1_eq, u1_ne, mT2, mS2, mT3, mS3, mT4, mS4, mT5, mS5, mT12, mS12, mT16, mS16, mT60, mS60, nI_add, nI_1, sb1, nI_clamp, cl0, cl1, cl2, not_true_eq_false, not_false_eq_true, Int32.lt_iff_toInt_lt, Int32.le_iff_toInt_le, ← Int32.toInt_inj, nI_toInt, nTm100, nTm10, nTm9, nTm4, nTm3, nTm2, nTm1, nT0, nT1, nT2, nT3, nT4, nT5, nT6, nT8, nT9, nT10, nT12, nT16, nT20, nT24]); omega) ?_) | (refine And.intro (Or.inl rfl) ?_) | (refine And.intro (Or.inr rfl) ?_) | (refine And.intro (And.intro (by decide) trivial) ?_) | fail); all_goals (try (conv => whnf))
      refine am_go hK sp257 300 ?_
      repeat' ((conv => whnf); first | (show Ct _ _ _ _ _ _ ∧ True; first | (show Ct _ _ 219 _ _ _ ∧ True; (refine And.intro (s_in _ _ _ (fun c c2 => ?_) (fun c => ?_)) trivial <;> (try simp (disch := omega) only [Nat.reduceAdd, qc_i, qc_r, qc_n, qc_l, wd, wA, wI, wL, wJ, u2_rd, u2_ne, u2_nj, u1_eq, u1_ne, mT2, mS2, mT3, mS3, mT4, mS4, mT5, mS5, mT12, mS12, mT16, mS16, mT60, mS60, nI_add, nI_1, sb1, nI_clamp, cl0, cl1, cl2, not_true_eq_false, not_false_eq_true, Int32.lt_iff_toInt_lt, Int32.le_iff_toInt_le, ← Int32.toInt_inj, nI_toInt, nTm100, nTm10, nTm9, nTm4, nTm3, nTm2, nTm1, nT0, nT1, nT2, nT3, nT4, nT5, nT6, nT8, nT9, nT10, nT12, nT16, nT20, nT24, Int32.toInt_toInt64, lkT0, lkT1, lkT2, lkT3, lkT4, lkT5, lkT6, lkT7, lkT8, lkT9, lkT10, lkT11, lkT12, lkT13, lkT14, lkT15, lkT16, lkT17, lkT18, lkT19] at c) <;> (try simp (disch := omega) only [Nat.reduceAdd, qc_i, qc_r, qc_n, qc_l, wd, wA, wI, wL, wJ, u2_rd, u2_ne, u2_nj, u1_eq, u1_ne, mT2, mS2, mT3, mS3, mT4, mS4, mT5, mS5, mT12, mS12, mT16, mS16, mT60, mS60, nI_add, nI_1, sb1, nI_clamp, cl0, cl1, cl2, not_true_eq_false, not_false_eq_true, Int32.lt_iff_toInt_lt, Int32.le_iff_toInt_le, ← Int32.toInt_inj, nI_toInt, nTm100, nTm10, nTm9, nTm4, nTm3, nTm2, nTm1, nT0, nT1, nT2, nT3, nT4, nT5, nT6, nT8, nT9, nT10, nT12, nT16, nT20, nT24, Int32.toInt_toInt64, lkT0, lkT1, lkT2, lkT3, lkT4, lkT5, lkT6, lkT7, lkT8, lkT9, lkT10, lkT11, lkT12, lkT13, lkT14, lkT15, lkT16, lkT17, lkT18, lkT19] at c2) <;> try (exfalso; omega))) | (refine And.intro (Ct_rn rfl (fun _ => ?_)) trivial)) | (refine And.intro (fun c => absurd c i10) (fun _ => ?_)) | (refine And.intro (fun _ => ?_) (fun c => absurd c i10)) | (refine And.intro (fun c => absurd rfl c) (fun _ => ?_)) | (refine And.intro (fun _ => ?_) (fun c => absurd rfl c)) | (refine And.intro (fun c => absurd c i01) (fun _ => ?_)) | (refine And.intro (fun _ => ?_) (fun c => absurd c i01)) | (refine And.intro (fun c => ?_) (fun c => ?_) <;> (try simp (disch := omega) only [Nat.reduceAdd, qc_i, qc_r, qc_n, qc_l, wd, wA, wI, wL, wJ, u2_rd, u2_ne, u2_nj, u1_eq, u1_ne, mT2, mS2, mT3, mS3, mT4, mS4, mT5, mS5, mT12, mS12, mT16, mS16, mT60, mS60, nI_add, nI_1, sb1, nI_clamp, cl0, cl1, cl2, not_true_eq_false, not_false_eq_true, Int32.lt_iff_toInt_lt, Int32.le_iff_toInt_le, ← Int32.toInt_inj, nI_toInt, nTm100, nTm10, nTm9, nTm4, nTm3, nTm2, nTm1, nT0, nT1, nT2, nT3, nT4, nT5, nT6, nT8, nT9, nT10, nT12, nT16, nT20, nT24] at c) <;> try (first | exact absurd rfl c | (exfalso; omega))) | (refine And.intro (a := vq _ _) (by unfold vq; (conv => rhs; rhs; arg 1; whnf); (try simp (disch := omega) only [Nat.reduceAdd, qc_i, qc_r, qc_n, qc_l, wd, wA, wI, wL, wJ, u2_rd, u2_ne, u2_nj, u1_eq, u1_ne, mT2, mS2, mT3, mS3, mT4, mS4, mT5, mS5, mT12, mS12, mT16, mS16, mT60, mS60, nI_add, nI_1, sb1, nI_clamp, cl0, cl1, cl2, not_true_eq_false, not_false_eq_true, Int32.lt_iff_toInt_lt, Int32.le_iff_toInt_le, ← Int32.toInt_inj, nI_toInt, nTm100, nTm10, nTm9, nTm4, nTm3, nTm2, nTm1, nT0, nT1, nT2, nT3, nT4, nT5, nT6, nT8, nT9, nT10, nT12, nT16, nT20, nT24]); omega) ?_) | (refine And.intro (Or.inl rfl) ?_) | (refine And.intro (Or.inr rfl) ?_) | (refine And.intro (And.intro (by decide) trivial) ?_) | fail); all_goals (try (conv => whnf))
      all_goals (simp (disch := omega) only [Nat.reduceAdd, qc_i, qc_r, qc_n, qc_l, wd, wA, wI, wL, wJ, u2_rd, u2_ne, u2_nj, u1_eq, u1_ne, mT2, mS2, mT3, mS3, mT4, mS4, mT5, mS5, mT12, mS12, mT16, mS16, mT60, mS60, nI_add, nI_1, sb1, nI_clamp, cl0, cl1, cl2])
      all_goals (exact hi)
    · have Pm := pt_K hW (pF_T hf).1 (pF_T hf).2
      have lm := ptW_l (A := A) (p := pmN r mx)
      have nm := Pm.n4
      have cm := Pm.c4
      have R1 : ∀ Q' : Option Value → Wd → Prop, (∀ D, (∀ k, k ≠ 85 → D k = C k) → rowO D (ptW A x ++ ptW A (pmN r mx)) → Q' (some (.int (nI (ptC A (pmN r mx))))) (wd D L (u2 (u2 I' 64 27 (nI (ptW A x).length)) 64 27 (nI (ptW A x ++ ptW A (pmN r mx)).length)) J)) → Ct sc (d + 6) 254 [.ref 64, .int (nI mx), .int (C 66 (nI x).toNatClampNeg)] (wd C L (u2 I' 64 27 (nI (ptW A x).length)) J) Q' := by
        intro Q' h
        rw [nI_clamp (by omega), c66]
        exact sm_adT hT (sTI_27 hTI) hW hR hSt hjn hmx2 cx (by omega) u2_rd hr1 hf h
      repeat' ((conv => whnf); first | (show Ct _ _ _ _ _ _ ∧ True; first | (show Ct _ _ 254 _ _ _ ∧ True; first | (refine And.intro (R1 _ fun D d1 d2 => ?_) trivial)) | (show Ct _ _ 219 _ _ _ ∧ True; (refine And.intro (s_in _ _ _ (fun c c2 => ?_) (fun c => ?_)) trivial <;> (try simp (disch := omega) only [Nat.reduceAdd, qc_i, qc_r, qc_n, qc_l, wd, wA, wI, wL, wJ, u2_rd, u2_ne, u2_nj, u1_eq, u1_ne, mT2, mS2, mT3, mS3, mT4, mS4, mT5, mS5, mT12, mS12, mT16, mS16, mT60, mS60, nI_add, nI_1, sb1, nI_clamp, cl0, cl1, cl2, not_true_eq_false, not_false_eq_true, Int32.lt_iff_toInt_lt, Int32.le_iff_toInt_le, ← Int32.toInt_inj, nI_toInt, nTm100, nTm10, nTm9, nTm4, nTm3, nTm2, nTm1, nT0, nT1, nT2, nT3, nT4, nT5, nT6, nT8, nT9, nT10, nT12, nT16, nT20, nT24, Int32.toInt_toInt64, lkT0, lkT1, lkT2, lkT3, lkT4, lkT5, lkT6, lkT7, lkT8, lkT9, lkT10, lkT11, lkT12, lkT13, lkT14, lkT15, lkT16, lkT17, lkT18, lkT19] at c) <;> (try simp (disch := omega) only [Nat.reduceAdd, qc_i, qc_r, qc_n, qc_l, wd, wA, wI, wL, wJ, u2_rd, u2_ne, u2_nj, u1_eq, u1_ne, mT2, mS2, mT3, mS3, mT4, mS4, mT5, mS5, mT12, mS12, mT16, mS16, mT60, mS60, nI_add, nI_1, sb1, nI_clamp, cl0, cl1, cl2, not_true_eq_false, not_false_eq_true, Int32.lt_iff_toInt_lt, Int32.le_iff_toInt_le, ← Int32.toInt_inj, nI_toInt, nTm100, nTm10, nTm9, nTm4, nTm3, nTm2, nTm1, nT0, nT1, nT2, nT3, nT4, nT5, nT6, nT8, nT9, nT10, nT12, nT16, nT20, nT24, Int32.toInt_toInt64, lkT0, lkT1, lkT2, lkT3, lkT4, lkT5, lkT6, lkT7, lkT8, lkT9, lkT10, lkT11, lkT12, lkT13, lkT14, lkT15, lkT16, lkT17, lkT18, lkT19] at c2) <;> try (exfalso; omega))) | (refine And.intro (Ct_rn rfl (fun _ => ?_)) trivial)) | (refine And.intro (fun c => absurd c i10) (fun _ => ?_)) | (refine And.intro (fun _ => ?_) (fun c => absurd c i10)) | (refine And.intro (fun c => absurd rfl c) (fun _ => ?_)) | (refine And.intro (fun _ => ?_) (fun c => absurd rfl c)) | (refine And.intro (fun c => absurd c i01) (fun _ => ?_)) | (refine And.intro (fun _ => ?_) (fun c => absurd c i01)) | (refine And.intro (fun c => ?_) (fun c => ?_) <;> (try simp (disch := omega) only [Nat.reduceAdd, qc_i, qc_r, qc_n, qc_l, wd, wA, wI, wL, wJ, u2_rd, u2_ne, u2_nj, u1_eq, u1_ne, mT2, mS2, mT3, mS3, mT4, mS4, mT5, mS5, mT12, mS12, mT16, mS16, mT60, mS60, nI_add, nI_1, sb1, nI_clamp, cl0, cl1, cl2, not_true_eq_false, not_false_eq_true, Int32.lt_iff_toInt_lt, Int32.le_iff_toInt_le, ← Int32.toInt_inj, nI_toInt, nTm100, nTm10, nTm9, nTm4, nTm3, nTm2, nTm1, nT0, nT1, nT2, nT3, nT4, nT5, nT6, nT8, nT9, nT10, nT12, nT16, nT20, nT24] at c) <;> try (first | exact absurd rfl c | (exfalso; omega))) | (refine And.intro (a := vq _ _) (by unfold vq; (conv => rhs; rhs; arg 1; whnf); (try simp (disch := omega) only [Nat.reduceAdd, qc_i, qc_r, qc_n, qc_l, wd, wA, wI, wL, wJ, u2_rd, u2_ne, u2_nj, u1_eq, u1_ne, mT2, mS2, mT3, mS3, mT4, mS4, mT5, mS5, mT12, mS12, mT16, mS16, mT60, mS60, nI_add, nI_1, sb1, nI_clamp, cl0, cl1, cl2, not_true_eq_false, not_false_eq_true, Int32.lt_iff_toInt_lt, Int32.le_iff_toInt_le, ← Int32.toInt_inj, nI_toInt, nTm100, nTm10, nTm9, nTm4, nTm3, nTm2, nTm1, nT0, nT1, nT2, nT3, nT4, nT5, nT6, nT8, nT9, nT10, nT12, nT16, nT20, nT24]); omega) ?_) | (refine And.intro (Or.inl rfl) ?_) | (refine And.intro (Or.inr rfl) ?_) | (refine And.intro (And.intro (by decide) trivial) ?_) | fail); all_goals (try (conv => whnf))
      refine And.intro (sm_try (l := ptW A x ++ ptW A (pmN r mx)) (S := S) (sT_85 hT d1) (sTI_27 (sTI_27 hTI)) hW hR hSt hjn (lR_a (ptW_R Px) (ptW_R Pm)) (by rw [List.length_append]; omega) (by rw [List.length_append]; omega) u2_rd d2 (RmS_f hRm (d1 87 (by omega)) rfl) fun F I2 S2 f1 f2 f3 f4 f5 f6 f7 f8 => ?_) trivial
      have key := lm_l3 (L := L) (J := J) hK hW hR hSt hjn hx hmx2 hf (fun C I' S g1 g2 g3 => ih hmx2 C I' S g1 g2 g3) 0 (by omega) F I2 S2 ⟨f1, f2, by rw [f3]; exact h30, f5⟩ (fun j hj => by rw [f4 j (by rw [List.length_append]; omega), gD_app, if_pos hj]) (Tr_a (ps := [x, pmN r mx]) hTr ⟨⟨pF_r4 hx hr16, hf, trivial⟩, by simp⟩ (by show ptW A x ++ (ptW A (pmN r mx) ++ []) = _; rw [List.append_nil]) f6 f7 f8 (fun z hz hD => D_103 hW hz hD))
      (conv => whnf)
      simp (disch := omega) only [Nat.reduceAdd, qc_i, qc_r, qc_n, qc_l, wd, wA, wI, wL, wJ, u2_rd, u2_ne, u2_nj, u1_eq, u1_ne, mT2, mS2, mT3, mS3, mT4, mS4, mT5, mS5, mT12, mS12, mT16, mS16, mT60, mS60, nI_add, nI_1, sb1, nI_clamp, cl0, cl1, cl2]
      exact key
  · have : mx = r + q := by omega
    subst this
    have hX := hX C I' S ⟨hT, hTI, h30, hRm⟩ (Tr_m hTr (fun z hz hD => D_30e hW hz hD))
    repeat' ((conv => whnf); first | (show Ct _ _ _ _ _ _ ∧ True; first | (show Ct _ _ 219 _ _ _ ∧ True; (refine And.intro (s_in _ _ _ (fun c c2 => ?_) (fun c => ?_)) trivial <;> (try simp (disch := omega) only [Nat.reduceAdd, qc_i, qc_r, qc_n, qc_l, wd, wA, wI, wL, wJ, u2_rd, u2_ne, u2_nj, u1_eq, u1_ne, mT2, mS2, mT3, mS3, mT4, mS4, mT5, mS5, mT12, mS12, mT16, mS16, mT60, mS60, nI_add, nI_1, sb1, nI_clamp, cl0, cl1, cl2, not_true_eq_false, not_false_eq_true, Int32.lt_iff_toInt_lt, Int32.le_iff_toInt_le, ← Int32.toInt_inj, nI_toInt, nTm100, nTm10, nTm9, nTm4, nTm3, nTm2, nTm1, nT0, nT1, nT2, nT3, nT4, nT5, nT6, nT8, nT9, nT10, nT12, nT16, nT20, nT24, Int32.toInt_toInt64, lkT0, lkT1, lkT2, lkT3, lkT4, lkT5, lkT6, lkT7, lkT8, lkT9, lkT10, lkT11, lkT12, lkT13, lkT14, lkT15, lkT16, lkT17, lkT18, lkT19] at c) <;> (try simp (disch := omega) only [Nat.reduceAdd, qc_i, qc_r, qc_n, qc_l, wd, wA, wI, wL, wJ, u2_rd, u2_ne, u2_nj, u1_eq, u1_ne, mT2, mS2, mT3, mS3, mT4, mS4, mT5, mS5, mT12, mS12, mT16, mS16, mT60, mS60, nI_add, nI_1, sb1, nI_clamp, cl0, cl1, cl2, not_true_eq_false, not_false_eq_true, Int32.lt_iff_toInt_lt, Int32.le_iff_toInt_le, ← Int32.toInt_inj, nI_toInt, nTm100, nTm10, nTm9, nTm4, nTm3, nTm2, nTm1, nT0, nT1, nT2, nT3, nT4, nT5, nT6, nT8, nT9, nT10, nT12, nT16, nT20, nT24, Int32.toInt_toInt64, lkT0, lkT1, lkT2, lkT3, lkT4, lkT5, lkT6, lkT7, lkT8, lkT9, lkT10, lkT11, lkT12, lkT13, lkT14, lkT15, lkT16, lkT17, lkT18, lkT19] at c2) <;> try (exfalso; omega))) | (refine And.intro (Ct_rn rfl (fun _ => ?_)) trivial)) | (refine And.intro (fun c => absurd c i10) (fun _ => ?_)) | (refine And.intro (fun _ => ?_) (fun c => absurd c i10)) | (refine And.intro (fun c => absurd rfl c) (fun _ => ?_)) | (refine And.intro (fun _ => ?_) (fun c => absurd rfl c)) | (refine And.intro (fun c => absurd c i01) (fun _ => ?_)) | (refine And.intro (fun _ => ?_) (fun c => absurd c i01)) | (refine And.intro (fun c => ?_) (fun c => ?_) <;> (try simp (disch := omega) only [Nat.reduceAdd, qc_i, qc_r, qc_n, qc_l, wd, wA, wI, wL, wJ, u2_rd, u2_ne, u2_nj, u1_eq, u1_ne, mT2, mS2, mT3, mS3, mT4, mS4, mT5, mS5, mT12, mS12, mT16, mS16, mT60, mS60, nI_add, nI_1, sb1, nI_clamp, cl0, cl1, cl2, not_true_eq_false, not_false_eq_true, Int32.lt_iff_toInt_lt, Int32.le_iff_toInt_le, ← Int32.toInt_inj, nI_toInt, nTm100, nTm10, nTm9, nTm4, nTm3, nTm2, nTm1, nT0, nT1, nT2, nT3, nT4, nT5, nT6, nT8, nT9, nT10, nT12, nT16, nT20, nT24] at c) <;> try (first | exact absurd rfl c | (exfalso; omega))) | (refine And.intro (a := vq _ _) (by unfold vq; (conv => rhs; rhs; arg 1; whnf); (try simp (disch := omega) only [Nat.reduceAdd, qc_i, qc_r, qc_n, qc_l, wd, wA, wI, wL, wJ, u2_rd, u2_ne, u2_nj, u1_eq, u1_ne, mT2, mS2, mT3, mS3, mT4, mS4, mT5, mS5, mT12, mS12, mT16, mS16, mT60, mS60, nI_add, nI_1, sb1, nI_clamp, cl0, cl1, cl2, not_true_eq_false, not_false_eq_true, Int32.lt_iff_toInt_lt, Int32.le_iff_toInt_le, ← Int32.toInt_inj, nI_toInt, nTm100, nTm10, nTm9, nTm4, nTm3, nTm2, nTm1, nT0, nT1, nT2, nT3, nT4, nT5, nT6, nT8, nT9, nT10, nT12, nT16, nT20, nT24]); omega) ?_) | (refine And.intro (Or.inl rfl) ?_) | (refine And.intro (Or.inr rfl) ?_) | (refine And.intro (And.intro (by decide) trivial) ?_) | fail); all_goals (try (conv => whnf))
    simp (disch := omega) only [Nat.reduceAdd, qc_i, qc_r, qc_n, qc_l, wd, wA, wI, wL, wJ, u2_rd, u2_ne, u2_nj, u1_eq, u1_ne, mT2, mS2, mT3, mS3, mT4, mS4, mT5, mS5, mT12, mS12, mT16, mS16, mT60, mS60, nI_add, nI_1, sb1, nI_clamp, cl0, cl1, cl2]
    exact hX
set_option maxHeartbeats 64000000 in
theorem lm_l1 (hK : am_cl sc (Ct sc (d + 6)) 257 Q K) (hW : IWo A I r q) (hR : IRu A I u cl m) (hSt : ISt A I u cl m) (hjn : I 22 9 = jn)
    (hq : ∀ C I' S, lyO A I C I' S → MinS A r q jn S → Q none (wd C L I' J)) :
    ∀ x, x ≤ r → ∀ C I' S, lyO A I C I' S → TrS A r q jn (D30 x) S → K 30 [some (.ref 64), some (.int (nI (r + q))), some (.int (nI x)), none, none, none, none, none] [] (wd C L I' J) 0 0 := by
  have hr16 := hW.1
  have hq8 := hW.2.1
  refine upI fun x hx ih C I' S hly hTr => ?_
  obtain ⟨hT, hTI, h30, hRm⟩ := hly
  have e1 : I' 64 1 = nI r := by rw [hTI 64 1 rfl (by omega)]; exact hW.2.2.2.1
  refine am_go hK sp257 300 ?_
  rcases Nat.lt_or_ge x r with hx2 | hx2
  · have Px := pt_K hW (p := x) (by omega) (pT_r hx2 hr16)
    have lx := ptW_l (A := A) (p := x)
    have nx := Px.n4
    have n1x := Px.n1
    obtain ⟨e1', e2', e3'⟩ := pt_T (r := r) (q := q) (jn := jn) hT
    have PC := pt_K (IWo_T hT (sTI_27 (v := 0) hTI) hW) (p := x) (by omega) (pT_r hx2 hr16)
    have eN : ptN C x = ptN A x := by
      have := ptW_l (A := C) (p := x)
      rw [e3'] at this
      rw [← this]; exact lx
    have R1 : ∀ Q' : Option Value → Wd → Prop, (∀ D, (∀ k, k ≠ 85 → D k = C k) → rowO D (ptW A x) → Q' none (wd D L (u2 (u2 I' 64 27 0) 64 27 (nI (ptW A x).length)) J)) → Ct sc (d + 6) 253 [.ref 64, .int (nI x)] (wd C L (u2 I' 64 27 0) J) Q' := by
      intro Q' h
      refine sm_adR (l := []) PC (by omega) (by rw [eN]; simp; omega) u2_rd (fun j hj => absurd hj (by simp)) (fun D d1 d2 => ?_)
      rw [List.nil_append, e3'] at d2 ⊢
      exact h D d1 d2
    repeat' ((conv => whnf); first | (show Ct _ _ _ _ _ _ ∧ True; first | (show Ct _ _ 253 _ _ _ ∧ True; first | (refine And.intro (R1 _ fun D d1 d2 => ?_) trivial)) | (show Ct _ _ 219 _ _ _ ∧ True; (refine And.intro (s_in _ _ _ (fun c c2 => ?_) (fun c => ?_)) trivial <;> (try simp (disch := omega) only [Nat.reduceAdd, qc_i, qc_r, qc_n, qc_l, wd, wA, wI, wL, wJ, u2_rd, u2_ne, u2_nj, u1_eq, u1_ne, mT2, mS2, mT3, mS3, mT4, mS4, mT5, mS5, mT12, mS12, mT16, mS16, mT60, mS60, nI_add, nI_1, sb1, nI_clamp, cl0, cl1, cl2, not_true_eq_false, not_false_eq_true, Int32.lt_iff_toInt_lt, Int32.le_iff_toInt_le, ← Int32.toInt_inj, nI_toInt, nTm100, nTm10, nTm9, nTm4, nTm3, nTm2, nTm1, nT0, nT1, nT2, nT3, nT4, nT5, nT6, nT8, nT9, nT10, nT12, nT16, nT20, nT24, e1, Int32.toInt_toInt64, lkT0, lkT1, lkT2, lkT3, lkT4, lkT5, lkT6, lkT7, lkT8, lkT9, lkT10, lkT11, lkT12, lkT13, lkT14, lkT15, lkT16, lkT17, lkT18, lkT19] at c) <;> (try simp (disch := omega) only [Nat.reduceAdd, qc_i, qc_r, qc_n, qc_l, wd, wA, wI, wL, wJ, u2_rd, u2_ne, u2_nj, u1_eq, u1_ne, mT2, mS2, mT3, mS3, mT4, mS4, mT5, mS5, mT12, mS12, mT16, mS16, mT60, mS60, nI_add, nI_1, sb1, nI_clamp, cl0, cl1, cl2, not_true_eq_false, not_false_eq_true, Int32.lt_iff_toInt_lt, Int32.le_iff_toInt_le, ← Int32.toInt_inj, nI_toInt, nTm100, nTm10, nTm9, nTm4, nTm3, nTm2, nTm1, nT0, nT1, nT2, nT3, nT4, nT5, nT6, nT8, nT9, nT10, nT12, nT16, nT20, nT24, e1, Int32.toInt_toInt64, lkT0, lkT1, lkT2, lkT3, lkT4, lkT5, lkT6, lkT7, lkT8, lkT9, lkT10, lkT11, lkT12, lkT13, lkT14, lkT15, lkT16, lkT17, lkT18, lkT19] at c2) <;> try (exfalso; omega))) | (refine And.intro (Ct_rn rfl (fun _ => ?_)) trivial)) | (refine And.intro (fun c => absurd c i10) (fun _ => ?_)) | (refine And.intro (fun _ => ?_) (fun c => absurd c i10)) | (refine And.intro (fun c => absurd rfl c) (fun _ => ?_)) | (refine And.intro (fun _ => ?_) (fun c => absurd rfl c)) | (refine And.intro (fun c => absurd c i01) (fun _ => ?_)) | (refine And.intro (fun _ => ?_) (fun c => absurd c i01)) | (refine And.intro (fun c => ?_) (fun c => ?_) <;> (try simp (disch := omega) only [Nat.reduceAdd, qc_i, qc_r, qc_n, qc_l, wd, wA, wI, wL, wJ, u2_rd, u2_ne, u2_nj, u1_eq, u1_ne, mT2, mS2, mT3, mS3, mT4, mS4, mT5, mS5, mT12, mS12, mT16, mS16, mT60, mS60, nI_add, nI_1, sb1, nI_clamp, cl0, cl1, cl2, not_true_eq_false, not_false_eq_true, Int32.lt_iff_toInt_lt, Int32.le_iff_toInt_le, ← Int32.toInt_inj, nI_toInt, nTm100, nTm10, nTm9, nTm4, nTm3, nTm2, nTm1, nT0, nT1, nT2, nT3, nT4, nT5, nT6, nT8, nT9, nT10, nT12, nT16, nT20, nT24, e1] at c) <;> try (first | exact absurd rfl c | (exfalso; omega))) | (refine And.intro (a := vq _ _) (by unfold vq; (conv => rhs; rhs; arg 1; whnf); (try simp (disch := omega) only [Nat.reduceAdd, qc_i, qc_r, qc_n, qc_l, wd, wA, wI, wL, wJ, u2_rd, u2_ne, u2_nj, u1_eq, u1_ne, mT2, mS2, mT3, mS3, mT4, mS4, mT5, mS5, mT12, mS12, mT16, mS16, mT60, mS60, nI_add, nI_1, sb1, nI_clamp, cl0, cl1, cl2, not_true_eq_false, not_false_eq_true, Int32.lt_iff_toInt_lt, Int32.le_iff_toInt_le, ← Int32.toInt_inj, nI_toInt, nTm100, nTm10, nTm9, nTm4, nTm3, nTm2, nTm1, nT0, nT1, nT2, nT3, nT4, nT5, nT6, nT8, nT9, nT10, nT12, nT16, nT20, nT24, e1]); omega) ?_) | (refine And.intro (Or.inl rfl) ?_) | (refine And.intro (Or.inr rfl) ?_) | (refine And.intro (And.intro (by decide) trivial) ?_) | fail); all_goals (try (conv => whnf))
    refine And.intro (sm_try (l := ptW A x) (S := S) (sT_85 hT d1) (sTI_27 (sTI_27 hTI)) hW hR hSt hjn (ptW_R Px) (by omega) (by omega) u2_rd d2 (RmS_f hRm (d1 87 (by omega)) rfl) fun F I2 S2 f1 f2 f3 f4 f5 f6 f7 f8 => ?_) trivial
    have key := lm_l2 (L := L) (J := J) hK hW hR hSt hjn hx2 (fun C I' S g1 g2 => ih hx2 C I' S g1 g2) 0 (by omega) F I2 S2 ⟨f1, f2, by rw [f3]; exact h30, f5⟩ f4 (Tr_a (ps := [x]) hTr ⟨⟨pF_r4 hx2 hr16, trivial⟩, by simp⟩ (by show ptW A x ++ [] = _; rw [List.append_nil]) f6 f7 f8 (fun z hz hD => D_60 z hD))
    (conv => whnf)
    simp (disch := omega) only [Nat.reduceAdd, qc_i, qc_r, qc_n, qc_l, wd, wA, wI, wL, wJ, u2_rd, u2_ne, u2_nj, u1_eq, u1_ne, mT2, mS2, mT3, mS3, mT4, mS4, mT5, mS5, mT12, mS12, mT16, mS16, mT60, mS60, nI_add, nI_1, sb1, nI_clamp, cl0, cl1, cl2]
    exact key
  · have : x = r := by omega
    subst this
    have hq := hq C I' S ⟨hT, hTI, h30, hRm⟩ (Tr_e hW hTr)
    repeat' ((conv => whnf); first | (show Ct _ _ _ _ _ _ ∧ True; first | (show Ct _ _ 219 _ _ _ ∧ True; (refine And.intro (s_in _ _ _ (fun c c2 => ?_) (fun c => ?_)) trivial <;> (try simp (disch := omega) only [Nat.reduceAdd, qc_i, qc_r, qc_n, qc_l, wd, wA, wI, wL, wJ, u2_rd, u2_ne, u2_nj, u1_eq, u1_ne, mT2, mS2, mT3, mS3, mT4, mS4, mT5, mS5, mT12, mS12, mT16, mS16, mT60, mS60, nI_add, nI_1, sb1, nI_clamp, cl0, cl1, cl2, not_true_eq_false, not_false_eq_true, Int32.lt_iff_toInt_lt, Int32.le_iff_toInt_le, ← Int32.toInt_inj, nI_toInt, nTm100, nTm10, nTm9, nTm4, nTm3, nTm2, nTm1, nT0, nT1, nT2, nT3, nT4, nT5, nT6, nT8, nT9, nT10, nT12, nT16, nT20, nT24, e1, Int32.toInt_toInt64, lkT0, lkT1, lkT2, lkT3, lkT4, lkT5, lkT6, lkT7, lkT8, lkT9, lkT10, lkT11, lkT12, lkT13, lkT14, lkT15, lkT16, lkT17, lkT18, lkT19] at c) <;> (try simp (disch := omega) only [Nat.reduceAdd, qc_i, qc_r, qc_n, qc_l, wd, wA, wI, wL, wJ, u2_rd, u2_ne, u2_nj, u1_eq, u1_ne, mT2, mS2, mT3, mS3, mT4, mS4, mT5, mS5, mT12, mS12, mT16, mS16, mT60, mS60, nI_add, nI_1, sb1, nI_clamp, cl0, cl1, cl2, not_true_eq_false, not_false_eq_true, Int32.lt_iff_toInt_lt, Int32.le_iff_toInt_le, ← Int32.toInt_inj, nI_toInt, nTm100, nTm10, nTm9, nTm4, nTm3, nTm2, nTm1, nT0, nT1, nT2, nT3, nT4, nT5, nT6, nT8, nT9, nT10, nT12, nT16, nT20, nT24, e1, Int32.toInt_toInt64, lkT0, lkT1, lkT2, lkT3, lkT4, lkT5, lkT6, lkT7, lkT8, lkT9, lkT10, lkT11, lkT12, lkT13, lkT14, lkT15, lkT16, lkT17, lkT18, lkT19] at c2) <;> try (exfalso; omega))) | (refine And.intro (Ct_rn rfl (fun _ => ?_)) trivial)) | (refine And.intro (fun c => absurd c i10) (fun _ => ?_)) | (refine And.intro (fun _ => ?_) (fun c => absurd c i10)) | (refine And.intro (fun c => absurd rfl c) (fun _ => ?_)) | (refine And.intro (fun _ => ?_) (fun c => absurd rfl c)) | (refine And.intro (fun c => absurd c i01) (fun _ => ?_)) | (refine And.intro (fun _ => ?_) (fun c => absurd c i01)) | (refine And.intro (fun c => ?_) (fun c => ?_) <;> (try simp (disch := omega) only [Nat.reduceAdd, qc_i, qc_r, qc_n, qc_l, wd, wA, wI, wL, wJ, u2_rd, u2_ne, u2_nj, u1_eq, u1_ne, mT2, mS2, mT3, mS3, mT4, mS4, mT5, mS5, mT12, mS12, mT16, mS16, mT60, mS60, nI_add, nI_1, sb1, nI_clamp, cl0, cl1, cl2, not_true_eq_false, not_false_eq_true, Int32.lt_iff_toInt_lt, Int32.le_iff_toInt_le, ← Int32.toInt_inj, nI_toInt, nTm100, nTm10, nTm9, nTm4, nTm3, nTm2, nTm1, nT0, nT1, nT2, nT3, nT4, nT5, nT6, nT8, nT9, nT10, nT12, nT16, nT20, nT24, e1] at c) <;> try (first | exact absurd rfl c | (exfalso; omega))) | (refine And.intro (a := vq _ _) (by unfold vq; (conv => rhs; rhs; arg 1; whnf); (try simp (disch := omega) only [Nat.reduceAdd, qc_i, qc_r, qc_n, qc_l, wd, wA, wI, wL, wJ, u2_rd, u2_ne, u2_nj, u1_eq, u1_ne, mT2, mS2, mT3, mS3, mT4, mS4, mT5, mS5, mT12, mS12, mT16, mS16, mT60, mS60, nI_add, nI_1, sb1, nI_clamp, cl0, cl1, cl2, not_true_eq_false, not_false_eq_true, Int32.lt_iff_toInt_lt, Int32.le_iff_toInt_le, ← Int32.toInt_inj, nI_toInt, nTm100, nTm10, nTm9, nTm4, nTm3, nTm2, nTm1, nT0, nT1, nT2, nT3, nT4, nT5, nT6, nT8, nT9, nT10, nT12, nT16, nT20, nT24, e1]); omega) ?_) | (refine And.intro (Or.inl rfl) ?_) | (refine And.intro (Or.inr rfl) ?_) | (refine And.intro (And.intro (by decide) trivial) ?_) | fail); all_goals (try (conv => whnf))
    exact hq
theorem sm_lay2 (hW : IWo A I r q) (hR : IRu A I u cl m) (hSt : ISt A I u cl m) (hjn : I 22 9 = jn) (h30 : I 64 30 = 0)
    (hq : ∀ C I' S, lyO A I C I' S → MinS A r q jn S → Q none (wd C L I' J)) : Ct sc (d + 7) 257 [.ref 64] (wd A L I J) Q := by
  have e1 := hW.2.2.2.1
  have e8 := hW.2.2.2.2.2.1
  intro K hK
  have key := lm_l1 (L := L) (J := J) hK hW hR hSt hjn hq 0 (by omega) A (u2 (u2 I 64 30 1) 64 31 0) 14987979559889010688 ⟨fun _ _ _ => rfl, fun k j hk hk2 => by
    unfold u2
    by_cases z1 : k = 64
    · rw [if_pos z1, if_neg (fun z => hk2 ⟨z1, Or.inr z⟩), if_pos z1, if_neg (fun z => hk2 ⟨z1, Or.inl z⟩)]
    · rw [if_neg z1, if_neg z1], by rw [u2_nj (by omega), u2_rd], Or.inl ⟨u2_rd, rfl⟩⟩ ⟨fun ps _ ⟨y, t, _, h⟩ => absurd h (by omega), Or.inl rfl⟩
  refine am_go hK sp257 300 ?_
  repeat' ((conv => whnf); first | (show Ct _ _ _ _ _ _ ∧ True; first | (show Ct _ _ 219 _ _ _ ∧ True; (refine And.intro (s_in _ _ _ (fun c c2 => ?_) (fun c => ?_)) trivial <;> (try simp (disch := omega) only [Nat.reduceAdd, qc_i, qc_r, qc_n, qc_l, wd, wA, wI, wL, wJ, u2_rd, u2_ne, u2_nj, u1_eq, u1_ne, mT2, mS2, mT3, mS3, mT4, mS4, mT5, mS5, mT12, mS12, mT16, mS16, mT60, mS60, nI_add, nI_1, sb1, nI_clamp, cl0, cl1, cl2, not_true_eq_false, not_false_eq_true, Int32.lt_iff_toInt_lt, Int32.le_iff_toInt_le, ← Int32.toInt_inj, nI_toInt, nTm100, nTm10, nTm9, nTm4, nTm3, nTm2, nTm1, nT0, nT1, nT2, nT3, nT4, nT5, nT6, nT8, nT9, nT10, nT12, nT16, nT20, nT24, h30, Int32.toInt_toInt64, lkT0, lkT1, lkT2, lkT3, lkT4, lkT5, lkT6, lkT7, lkT8, lkT9, lkT10, lkT11, lkT12, lkT13, lkT14, lkT15, lkT16, lkT17, lkT18, lkT19] at c) <;> (try simp (disch := omega) only [Nat.reduceAdd, qc_i, qc_r, qc_n, qc_l, wd, wA, wI, wL, wJ, u2_rd, u2_ne, u2_nj, u1_eq, u1_ne, mT2, mS2, mT3, mS3, mT4, mS4, mT5, mS5, mT12, mS12, mT16, mS16, mT60, mS60, nI_add, nI_1, sb1, nI_clamp, cl0, cl1, cl2, not_true_eq_false, not_false_eq_true, Int32.lt_iff_toInt_lt, Int32.le_iff_toInt_le, ← Int32.toInt_inj, nI_toInt, nTm100, nTm10, nTm9, nTm4, nTm3, nTm2, nTm1, nT0, nT1, nT2, nT3, nT4, nT5, nT6, nT8, nT9, nT10, nT12, nT16, nT20, nT24, h30, Int32.toInt_toInt64, lkT0, lkT1, lkT2, lkT3, lkT4, lkT5, lkT6, lkT7, lkT8, lkT9, lkT10, lkT11, lkT12, lkT13, lkT14, lkT15, lkT16, lkT17, lkT18, lkT19] at c2) <;> try (exfalso; omega))) | (refine And.intro (Ct_rn rfl (fun _ => ?_)) trivial)) | (refine And.intro (fun c => absurd c i10) (fun _ => ?_)) | (refine And.intro (fun _ => ?_) (fun c => absurd c i10)) | (refine And.intro (fun c => absurd rfl c) (fun _ => ?_)) | (refine And.intro (fun _ => ?_) (fun c => absurd rfl c)) | (refine And.intro (fun c => absurd c i01) (fun _ => ?_)) | (refine And.intro (fun _ => ?_) (fun c => absurd c i01)) | (refine And.intro (fun c => ?_) (fun c => ?_) <;> (try simp (disch := omega) only [Nat.reduceAdd, qc_i, qc_r, qc_n, qc_l, wd, wA, wI, wL, wJ, u2_rd, u2_ne, u2_nj, u1_eq, u1_ne, mT2, mS2, mT3, mS3, mT4, mS4, mT5, mS5, mT12, mS12, mT16, mS16, mT60, mS60, nI_add, nI_1, sb1, nI_clamp, cl0, cl1, cl2, not_true_eq_false, not_false_eq_true, Int32.lt_iff_toInt_lt, Int32.le_iff_toInt_le, ← Int32.toInt_inj, nI_toInt, nTm100, nTm10, nTm9, nTm4, nTm3, nTm2, nTm1, nT0, nT1, nT2, nT3, nT4, nT5, nT6, nT8, nT9, nT10, nT12, nT16, nT20, nT24, h30] at c) <;> try (first | exact absurd rfl c | (exfalso; omega))) | (refine And.intro (a := vq _ _) (by unfold vq; (conv => rhs; rhs; arg 1; whnf); (try simp (disch := omega) only [Nat.reduceAdd, qc_i, qc_r, qc_n, qc_l, wd, wA, wI, wL, wJ, u2_rd, u2_ne, u2_nj, u1_eq, u1_ne, mT2, mS2, mT3, mS3, mT4, mS4, mT5, mS5, mT12, mS12, mT16, mS16, mT60, mS60, nI_add, nI_1, sb1, nI_clamp, cl0, cl1, cl2, not_true_eq_false, not_false_eq_true, Int32.lt_iff_toInt_lt, Int32.le_iff_toInt_le, ← Int32.toInt_inj, nI_toInt, nTm100, nTm10, nTm9, nTm4, nTm3, nTm2, nTm1, nT0, nT1, nT2, nT3, nT4, nT5, nT6, nT8, nT9, nT10, nT12, nT16, nT20, nT24, h30]); omega) ?_) | (refine And.intro (Or.inl rfl) ?_) | (refine And.intro (Or.inr rfl) ?_) | (refine And.intro (And.intro (by decide) trivial) ?_) | fail); all_goals (try (conv => whnf))
  simp (disch := omega) only [Nat.reduceAdd, qc_i, qc_r, qc_n, qc_l, wd, wA, wI, wL, wJ, u2_rd, u2_ne, u2_nj, u1_eq, u1_ne, mT2, mS2, mT3, mS3, mT4, mS4, mT5, mS5, mT12, mS12, mT16, mS16, mT60, mS60, nI_add, nI_1, sb1, nI_clamp, cl0, cl1, cl2, e1, e8]
  exact key
end
