/-! TWO by states: which part is ahead, by how many letters, who is behind and with what, how many parts the first way has left -/
def ixS (gs lf : Nat) (fi : Bool) (cb p : Nat) : Nat := (gs - 1) * 576 + ((bif fi then 4 + cb else cb) * 3 + lf) * 24 + p
def xG (i : Nat) : Nat := i / 576 + 1
def xP (i : Nat) : Nat := i % 24
def xL (i : Nat) : Nat := i / 24 % 3
def xC (i : Nat) : Nat := i / 72 % 4
def xF (i : Nat) : Bool := decide (4 ≤ i / 72 % 8)
theorem ix_s {gs lf cb p : Nat} {fi : Bool} (h1 : 1 ≤ gs) (h3 : gs ≤ 3) (hl : lf < 3) (hc : cb < 4) (hp : p < 24) : ixS gs lf fi cb p < 1728 ∧ xG (ixS gs lf fi cb p) = gs ∧ xP (ixS gs lf fi cb p) = p ∧ xL (ixS gs lf fi cb p) = lf ∧ xC (ixS gs lf fi cb p) = cb ∧ xF (ixS gs lf fi cb p) = fi := by
  cases fi
  · simp only [ixS, xG, xP, xL, xC, xF, cond_false]
    refine ⟨by omega, by omega, by omega, by omega, by omega, decide_eq_false (by omega)⟩
  · simp only [ixS, xG, xP, xL, xC, xF, cond_true]
    refine ⟨by omega, by omega, by omega, by omega, by omega, decide_eq_true (by omega)⟩
/-- the last letters of a part -/
def gpL (lt : Nat → List Nat) (p gs : Nat) : List Nat := (lt p).drop ((lt p).length - gs)
section
variable {lt : Nat → List Nat} {p b gs : Nat} {g x : List Nat}
theorem gp_len (h : gs ≤ (lt p).length) : (gpL lt p gs).length = gs := by
  unfold gpL
  rw [List.length_drop]
  omega
theorem gp_lt (h : gs ≤ (lt p).length) (e : gpL lt p gs = x ++ g) : gpL lt p g.length = g := by
  have hl := gp_len h
  rw [e, List.length_append] at hl
  unfold gpL at e ⊢
  have h2 := congrArg (List.drop x.length) e
  rw [List.drop_drop, List.drop_left] at h2
  rw [show (lt p).length - g.length = (lt p).length - gs + x.length by omega]
  exact h2
theorem gp_gt (e : lt b = x ++ g) : gpL lt b g.length = g := by
  unfold gpL
  rw [e, List.length_append, Nat.add_sub_cancel, List.drop_left]
theorem gp_all : gpL lt p (lt p).length = lt p := by
  unfold gpL
  rw [Nat.sub_self, List.drop_zero]
end
/-- a row at a place of a table, if it is less than what is there -/
def offH (hd : Nat → Option (List Nat)) (i : Nat) (l : List Nat) : Nat → Option (List Nat) := match hd i with
  | none => u1 hd i (some l)
  | some o => if rKy l < rKy o then u1 hd i (some l) else hd
theorem off_N {hd : Nat → Option (List Nat)} {i : Nat} {l : List Nat} (h : hd i = none) : offH hd i l = u1 hd i (some l) := by
  unfold offH
  rw [h]
theorem off_S {hd : Nat → Option (List Nat)} {i : Nat} {l o : List Nat} (h : hd i = some o) : offH hd i l = if rKy l < rKy o then u1 hd i (some l) else hd := by
  unfold offH
  rw [h]
theorem off_ne {hd : Nat → Option (List Nat)} {i j : Nat} {l : List Nat} (h : j ≠ i) : offH hd i l j = hd j := by
  cases e : hd i with
  | none => rw [off_N e, u1_ne h]
  | some o =>
    rw [off_S e]
    by_cases g : rKy l < rKy o
    · rw [if_pos g, u1_ne h]
    · rw [if_neg g]
theorem off_eq {hd : Nat → Option (List Nat)} {i : Nat} {l : List Nat} : ∃ o, offH hd i l i = some o ∧ rKy o ≤ rKy l ∧ (∀ old, hd i = some old → rKy o ≤ rKy old) ∧ (o = l ∨ hd i = some o) := by
  cases e : hd i with
  | none => exact ⟨l, by rw [off_N e, u1_eq], Nat.le_refl _, fun old h => (by cases h), Or.inl rfl⟩
  | some o =>
    by_cases h : rKy l < rKy o
    · exact ⟨l, by rw [off_S e, if_pos h, u1_eq], Nat.le_refl _, fun old h2 => (by injection h2 with h2; rw [← h2]; omega), Or.inl rfl⟩
    · exact ⟨o, by rw [off_S e, if_neg h, e], by omega, fun old h2 => (by injection h2 with h2; rw [h2]; omega), Or.inr rfl⟩
/-- rows become less, none goes -/
def Fle (F F' : Nat → Option (List Nat)) : Prop := ∀ i R0, F i = some R0 → ∃ R1, F' i = some R1 ∧ rKy R1 ≤ rKy R0
theorem Fle_r (F : Nat → Option (List Nat)) : Fle F F := fun _ R0 h => ⟨R0, h, Nat.le_refl _⟩
theorem Fle_t {F F1 F2 : Nat → Option (List Nat)} (h : Fle F F1) (h2 : Fle F1 F2) : Fle F F2 := fun i R0 h0 => by
  obtain ⟨R1, a1, a2⟩ := h i R0 h0
  obtain ⟨R2, b1, b2⟩ := h2 i R1 a1
  exact ⟨R2, b1, Nat.le_trans b2 a2⟩
theorem Fle_o {F : Nat → Option (List Nat)} {i : Nat} {R : List Nat} : Fle F (offH F i R) := fun j R0 h => by
  by_cases e : j = i
  · subst e
    obtain ⟨o, o1, o2, o3, o4⟩ := off_eq (hd := F) (i := j) (l := R)
    exact ⟨o, o1, o3 R0 h⟩
  · exact ⟨R0, by rw [off_ne e]; exact h, Nat.le_refl _⟩
theorem off_w {F : Nat → Option (List Nat)} {i j : Nat} {R R1 : List Nat} (h : offH F i R j = some R1) : F j = some R1 ∨ (j = i ∧ R1 = R) := by
  by_cases e : j = i
  · subst e
    obtain ⟨o, o1, o2, o3, o4⟩ := off_eq (hd := F) (i := j) (l := R)
    rw [o1] at h
    have h := Option.some.inj h
    subst h
    rcases o4 with z | z
    · exact Or.inr ⟨rfl, z⟩
    · exact Or.inl z
  · rw [off_ne e] at h
    exact Or.inl h
section
variable (fol : Nat → Nat → Bool) (af : Nat → Nat) (lt : Nat → List Nat)
/-- two ways that meet, told with their parts -/
def CmW (cb ca : Nat) (fi : Bool) (left : Nat) (gap : List Nat) (but : Nat) (R : List Nat) (b : Nat) (bt as row : List Nat) : Prop :=
  fol cb b = true ∧ b ≠ but ∧ wOk fol af (af b) bt ∧ wOk fol af ca as ∧ lt b ++ wRw lt bt = gap ++ wRw lt as ∧ row = R ++ wRw lt as ∧ row.length ≤ 12 ∧ (bif fi then bt.length + 1 else as.length) ≤ left
/-- what a part, taken by the one behind, comes to is held -/
def Cl1 (F : Nat → Option (List Nat)) (S p gs : Nat) (fi : Bool) (left : Nat) (R : List Nat) (b : Nat) : Prop :=
    (lt b = gpL lt p gs → S ≤ rKy R) ∧
    (∀ g, g ≠ [] → gpL lt p gs = lt b ++ g → (fi = true ∧ (bif fi then left - 1 else left) = 0) ∨ ∃ R', F (ixS g.length (bif fi then left - 1 else left) fi (af b) p) = some R' ∧ rKy R' ≤ rKy R) ∧
    (∀ g, g ≠ [] → lt b = gpL lt p gs ++ g → (fi = false ∧ (bif fi then left - 1 else left) = 0) ∨ ∃ R', F (ixS g.length (bif fi then left - 1 else left) (!fi) (af p) b) = some R' ∧ rKy R' ≤ rKy (R ++ g))
/-- and of the first n parts -/
def ClS (F : Nat → Option (List Nat)) (S p gs cb : Nat) (fi : Bool) (left but : Nat) (R : List Nat) (n : Nat) : Prop := ∀ b, b < n → fol cb b = true → b ≠ but → Cl1 af lt F S p gs fi left R b
/-- parts as they are -/
def PtH : Prop := ∀ k p, fol k p = true → p < 24 ∧ (lt p).length ≤ 4 ∧ lR (lt p) ∧ 1 ≤ (lt p).length ∧ af p < 4
/-- a row that may stand at a place of the table -/
def VdS (i : Nat) (R : List Nat) : Prop := lR R ∧ 1 ≤ R.length ∧ R.length ≤ (bif xF i then xG i else 0) + 4 * (3 - xL i) ∧ (xF i = true → 1 ≤ xL i) ∧ (∃ k, k ≤ 4 ∧ fol k (xP i) = true) ∧ xG i < (lt (xP i)).length ∧ ∀ row, Cmp fol af lt (xC i) (af (xP i)) (xF i) (xL i) (gpL lt (xP i) (xG i)) 99 R row → TwS fol af lt row
/-- and what one goes on from -/
def Vd0 (p gs cb : Nat) (fi : Bool) (left but : Nat) (R : List Nat) : Prop := lR R ∧ 1 ≤ R.length ∧ R.length ≤ (bif fi then gs else 0) + 4 * (3 - left) ∧ (fi = true → 1 ≤ left) ∧ left ≤ 2 ∧ (∃ k, k ≤ 4 ∧ fol k p = true) ∧ 1 ≤ gs ∧ gs ≤ (lt p).length ∧ cb ≤ 4 ∧ ∀ row, Cmp fol af lt cb (af p) fi left (gpL lt p gs) but R row → TwS fol af lt row
/-- behind the first n parts -/
def GoR (F : Nat → Option (List Nat)) (S : Nat) (F' : Nat → Option (List Nat)) (S' p gs cb : Nat) (fi : Bool) (left but : Nat) (R : List Nat) (n : Nat) : Prop :=
  S' ≤ S ∧ Fle F F' ∧ ClS fol af lt F' S' p gs cb fi left but R n ∧ (∀ i R1, i < 1728 → F' i = some R1 → F i = some R1 ∨ (VdS fol af lt i R1 ∧ (R.length < R1.length ∨ (R1.length = R.length ∧ xG i < gs)))) ∧ (S' = S ∨ ∃ row, TwS fol af lt row ∧ S' = rKy row)
end
section
variable {fol : Nat → Nat → Bool} {af : Nat → Nat} {lt : Nat → List Nat} {F F' F2 : Nat → Option (List Nat)} {S S' S2 p gs cb ca left but b n : Nat} {fi : Bool} {R row bt as gap g : List Nat}
theorem cw_lt (hg : gap = lt b ++ g) (hg0 : g ≠ []) (h24 : ∀ k p, fol k p = true → p < 24) (h : CmW fol af lt cb ca fi left gap but R b bt as row) : ∃ b2 bt2, bt = b2 :: bt2 ∧ CmW fol af lt (af b) ca fi (bif fi then left - 1 else left) g 99 R b2 bt2 as row := by
  obtain ⟨h1, h2, h3, h4, h5, h6, h7, h8⟩ := h
  rw [hg, List.append_assoc] at h5
  have h5 := List.append_cancel_left h5
  cases bt with
  | nil =>
    exfalso
    have := congrArg List.length h5
    rw [List.length_append] at this
    simp only [wRw, List.length_nil] at this
    exact hg0 (List.eq_nil_of_length_eq_zero (by omega))
  | cons b2 bt =>
    refine ⟨b2, bt, rfl, h3.1, ?_, h3.2, h4, h5, h6, h7, ?_⟩
    · have := h24 _ _ h3.1; omega
    · cases fi with
      | false => exact h8
      | true =>
        simp only [cond_true, List.length_cons] at h8 ⊢
        omega
theorem cw_gt (hg : lt b = gap ++ g) (hg0 : g ≠ []) (h24 : ∀ k p, fol k p = true → p < 24) (h : CmW fol af lt cb ca fi left gap but R b bt as row) : ∃ a as2, as = a :: as2 ∧ CmW fol af lt ca (af b) (!fi) (bif fi then left - 1 else left) g 99 (R ++ g) a as2 bt row := by
  obtain ⟨h1, h2, h3, h4, h5, h6, h7, h8⟩ := h
  rw [hg, List.append_assoc] at h5
  have h5 := (List.append_cancel_left h5).symm
  cases as with
  | nil =>
    exfalso
    have := congrArg List.length h5
    rw [List.length_append] at this
    simp only [wRw, List.length_nil] at this
    exact hg0 (List.eq_nil_of_length_eq_zero (by omega))
  | cons a as =>
    have h5' : lt a ++ wRw lt as = g ++ wRw lt bt := h5
    refine ⟨a, as, rfl, h4.1, ?_, h4.2, h3, h5', ?_, h7, ?_⟩
    · have := h24 _ _ h4.1; omega
    · rw [h6, List.append_assoc, ← h5']; rfl
    · cases fi with
      | false => simp only [Bool.not_false, cond_true, cond_false, List.length_cons] at h8 ⊢; omega
      | true => simp only [Bool.not_true, cond_true, cond_false] at h8 ⊢; omega
theorem cw_pre (h : CmW fol af lt cb ca fi left gap but R b bt as row) : (lt b).take (min (lt b).length gap.length) = gap.take (min (lt b).length gap.length) :=
  cq_pre (fol := fol) (af := af) (lt := lt) (cb := cb) (ca := ca) (first := fi) (left := left) (but := but) (R := R) (row := row) ⟨bt, as, h⟩
theorem ClS_m (h : ClS fol af lt F S p gs cb fi left but R n) (hF : Fle F F') (hS : S' ≤ S) : ClS fol af lt F' S' p gs cb fi left but R n := by
  intro b hb hf hne
  obtain ⟨h1, h2, h3⟩ := h b hb hf hne
  refine ⟨fun e => Nat.le_trans hS (h1 e), fun g g0 e => ?_, fun g g0 e => ?_⟩
  · rcases h2 g g0 e with z | ⟨R1, z1, z2⟩
    · exact Or.inl z
    · obtain ⟨R2, y1, y2⟩ := hF _ _ z1
      exact Or.inr ⟨R2, y1, Nat.le_trans y2 z2⟩
  · rcases h3 g g0 e with z | ⟨R1, z1, z2⟩
    · exact Or.inl z
    · obtain ⟨R2, y1, y2⟩ := hF _ _ z1
      exact Or.inr ⟨R2, y1, Nat.le_trans y2 z2⟩
theorem rKy_l {a b : List Nat} (hb : rOk b) (hb2 : b.length ≤ 12) (h : rKy a ≤ rKy b) : a.length ≤ b.length := by
  have := rNm_60 hb hb2
  unfold rKy at h
  omega
/-- whatever is come to, no row less than what was found -/
theorem cl_end (hP : PtH fol af lt) (hV : ∀ i R, i < 1728 → F i = some R → VdS fol af lt i R) (hC : ∀ i R, i < 1728 → F i = some R → S ≤ rKy R ∨ ClS fol af lt F S (xP i) (xG i) (xC i) (xF i) (xL i) 99 R 24) :
    ∀ n bt as, bt.length + as.length < n → ∀ p gs cb fi left but R b row, (∃ k, fol k p = true) → 1 ≤ gs → gs ≤ (lt p).length → left ≤ 2 → lR R → (S ≤ rKy R ∨ ClS fol af lt F S p gs cb fi left but R 24) → CmW fol af lt cb (af p) fi left (gpL lt p gs) but R b bt as row → S ≤ rKy row := by
  intro n
  induction n with
  | zero =>
    intro bt as hn
    omega
  | succ n ih =>
    intro bt as hn p gs cb fi left but R b row hp g1 g4 hlf hR hcl h
    have h24 : ∀ k p, fol k p = true → p < 24 := fun k p hf => (hP k p hf).1
    have hrow : row = R ++ wRw lt as := h.2.2.2.2.2.1
    have h12 : row.length ≤ 12 := h.2.2.2.2.2.2.1
    have hRl : R.length ≤ 12 := by rw [hrow, List.length_append] at h12; omega
    have base : S ≤ rKy R → S ≤ rKy row := fun z => Nat.le_trans z (by rw [hrow]; exact rKy_app (lR_ok hR) hRl)
    rcases hcl with z | hcl
    · exact base z
    obtain ⟨b1, b2, b3, b4, b5⟩ := hP _ _ h.1
    obtain ⟨c1, c2, c3⟩ := hcl b b1 h.1 h.2.1
    have hgl := gp_len g4
    have htk := cw_pre h
    obtain ⟨kp, hkp⟩ := hp
    obtain ⟨q1, q2, q3, q4, q5⟩ := hP _ _ hkp
    rcases Nat.lt_trichotomy (lt b).length (gpL lt p gs).length with hlt | heq | hgt
    · obtain ⟨g, hg⟩ : ∃ g, gpL lt p gs = lt b ++ g := ⟨_, tk_lt htk (by omega)⟩
      have hgl2 : (gpL lt p gs).length = (lt b).length + g.length := by rw [hg, List.length_append]
      have hg1 : 1 ≤ g.length := by omega
      have hgn : g ≠ [] := fun z => by rw [z] at hg1; simp at hg1
      obtain ⟨b2', bt2, e1, h'⟩ := cw_lt hg hgn h24 h
      subst e1
      have ras : rOk (wRw lt as) := wRw_ok (fun k p hf => lR_ok (hP k p hf).2.2.1) as _ h.2.2.2.1
      rcases c2 g hgn hg with ⟨z1, z2⟩ | ⟨R', z1, z2⟩
      · exfalso
        have h8 := h'.2.2.2.2.2.2.2
        rw [z2, z1] at h8
        simp at h8
      · obtain ⟨i1, i2, i3, i4, i5, i6⟩ := ix_s (gs := g.length) (lf := bif fi then left - 1 else left) (fi := fi) (cb := af b) (p := p) hg1 (by omega) (by cases fi <;> simp <;> omega) b5 q1
        have v := hV _ _ i1 z1
        have c := hC _ _ i1 z1
        rw [i2, i3, i4, i5, i6] at c
        have hle := rKy_l (lR_ok hR) hRl z2
        have key := ih bt2 as (by simp only [List.length_cons] at hn; omega) p g.length (af b) fi (bif fi then left - 1 else left) 99 R' b2' (R' ++ wRw lt as) ⟨kp, hkp⟩ hg1 (by omega) (by cases fi <;> simp <;> omega) v.1 c (by
          rw [gp_lt g4 hg]
          refine ⟨h'.1, h'.2.1, h'.2.2.1, h'.2.2.2.1, h'.2.2.2.2.1, rfl, ?_, h'.2.2.2.2.2.2.2⟩
          rw [hrow, List.length_append] at h12
          rw [List.length_append]
          omega)
        refine Nat.le_trans key ?_
        rw [hrow]
        exact rKy_sub (lR_ok v.1) ras z2 (lR_ok hR) (by rw [← hrow]; exact h12)
    · exact base (c1 (tk_eq htk heq))
    · obtain ⟨g, hg⟩ : ∃ g, lt b = gpL lt p gs ++ g := ⟨_, tk_lt (by rw [Nat.min_comm]; exact htk.symm) (by omega)⟩
      have hgl2 : (lt b).length = (gpL lt p gs).length + g.length := by rw [hg, List.length_append]
      have hg1 : 1 ≤ g.length := by omega
      have hgn : g ≠ [] := fun z => by rw [z] at hg1; simp at hg1
      obtain ⟨a, as2, e1, h'⟩ := cw_gt hg hgn h24 h
      subst e1
      have ras : rOk (wRw lt bt) := wRw_ok (fun k p hf => lR_ok (hP k p hf).2.2.1) bt _ h.2.2.1
      rcases c3 g hgn hg with ⟨z1, z2⟩ | ⟨R', z1, z2⟩
      · exfalso
        have h8 := h.2.2.2.2.2.2.2
        subst z1
        simp only [cond_false, List.length_cons] at h8 z2
        omega
      · obtain ⟨i1, i2, i3, i4, i5, i6⟩ := ix_s (gs := g.length) (lf := bif fi then left - 1 else left) (fi := !fi) (cb := af p) (p := b) hg1 (by omega) (by cases fi <;> simp <;> omega) q5 b1
        have v := hV _ _ i1 z1
        have c := hC _ _ i1 z1
        rw [i2, i3, i4, i5, i6] at c
        have hRg : lR (R ++ g) := lR_a hR (lR_l (by rw [← hg]; exact b3)).2
        have hrow' : row = (R ++ g) ++ wRw lt bt := h'.2.2.2.2.2.1
        have hRgl : (R ++ g).length ≤ 12 := by rw [hrow', List.length_append] at h12; omega
        have hle := rKy_l (lR_ok hRg) hRgl z2
        have key := ih as2 bt (by simp only [List.length_cons] at hn; omega) b g.length (af p) (!fi) (bif fi then left - 1 else left) 99 R' a (R' ++ wRw lt bt) ⟨cb, h.1⟩ hg1 (by omega) (by cases fi <;> simp <;> omega) v.1 c (by
          rw [gp_gt hg]
          refine ⟨h'.1, h'.2.1, h'.2.2.1, h'.2.2.2.1, h'.2.2.2.2.1, rfl, ?_, h'.2.2.2.2.2.2.2⟩
          rw [hrow', List.length_append] at h12
          rw [List.length_append]
          omega)
        refine Nat.le_trans key ?_
        rw [hrow']
        exact rKy_sub (lR_ok v.1) ras z2 (lR_ok hRg) (by rw [← hrow']; exact h12)
theorem go_0 : GoR fol af lt F S F S p gs cb fi left but R 0 := ⟨Nat.le_refl _, Fle_r F, fun b hb => absurd hb (by omega), fun i R1 _ h => Or.inl h, Or.inl rfl⟩
theorem go_s (h : GoR fol af lt F S F' S' p gs cb fi left but R n) (hF : Fle F' F2) (hS : S2 ≤ S') (hb : fol cb n = true → n ≠ but → Cl1 af lt F2 S2 p gs fi left R n)
    (hN : ∀ i R1, i < 1728 → F2 i = some R1 → F' i = some R1 ∨ (VdS fol af lt i R1 ∧ (R.length < R1.length ∨ (R1.length = R.length ∧ xG i < gs))))
    (hT : S2 = S' ∨ ∃ row, TwS fol af lt row ∧ S2 = rKy row) : GoR fol af lt F S F2 S2 p gs cb fi left but R (n + 1) := by
  obtain ⟨h1, h2, h3, h4, h5⟩ := h
  refine ⟨Nat.le_trans hS h1, Fle_t h2 hF, fun b hbn hf hne => ?_, fun i R1 hi hi1 => ?_, ?_⟩
  · by_cases e : b = n
    · subst e
      exact hb hf hne
    · exact ClS_m h3 hF hS b (by omega) hf hne
  · rcases hN i R1 hi hi1 with z | z
    · exact h4 i R1 hi z
    · exact Or.inr z
  · rcases hT with z | z
    · rw [z]; exact h5
    · exact Or.inr z
/-- a part that isn't taken -/
theorem go_k (h : GoR fol af lt F S F' S' p gs cb fi left but R n) (hb : fol cb n = true → n ≠ but → Cl1 af lt F' S' p gs fi left R n) : GoR fol af lt F S F' S' p gs cb fi left but R (n + 1) :=
  go_s h (Fle_r _) (Nat.le_refl _) hb (fun _ _ _ z => Or.inl z) (Or.inl rfl)
theorem c1_no (hx : ¬ (lt n).take (min (lt n).length (gpL lt p gs).length) = (gpL lt p gs).take (min (lt n).length (gpL lt p gs).length)) : Cl1 af lt F' S' p gs fi left R n := by
  refine ⟨fun e => absurd ?_ hx, fun g _ e => absurd ?_ hx, fun g _ e => absurd ?_ hx⟩
  · rw [e]
  · rw [e, List.take_append_of_le_length (by omega)]
  · rw [e, List.take_append_of_le_length (by omega)]
/-- they meet -/
theorem go_m (hV : Vd0 fol af lt p gs cb fi left but R) (h : GoR fol af lt F S F' S' p gs cb fi left but R n) (hf : fol cb n = true) (hne : n ≠ but) (e : lt n = gpL lt p gs) (h12 : R.length ≤ 12) (s1 : S2 ≤ S') (s2 : S2 ≤ rKy R) (s3 : S2 = S' ∨ S2 = rKy R) : GoR fol af lt F S F' S2 p gs cb fi left but R (n + 1) := by
  obtain ⟨v1, v2, v3, v4, v5, v6, v8, v9, v10, v11⟩ := hV
  refine go_s h (Fle_r _) s1 (fun _ _ => ⟨fun _ => s2, fun g g0 z => ?_, fun g g0 z => ?_⟩) (fun _ _ _ z => Or.inl z) ?_
  · exfalso
    rw [← e] at z
    exact g0 (List.append_right_eq_self.mp z.symm)
  · exfalso
    rw [← e] at z
    exact g0 (List.append_right_eq_self.mp z.symm)
  · rcases s3 with z | z
    · exact Or.inl z
    · exact Or.inr ⟨R, v11 R ⟨n, cq_meet hf hne e h12 v4⟩, z⟩
/-- the one behind stays behind -/
theorem go_l (hP : PtH fol af lt) (hV : Vd0 fol af lt p gs cb fi left but R) (h : GoR fol af lt F S F' S' p gs cb fi left but R n) (hf : fol cb n = true) (hne : n ≠ but) (hg : gpL lt p gs = lt n ++ g) (hg0 : g ≠ []) : (fi = true ∧ (bif fi then left - 1 else left) = 0 → GoR fol af lt F S F' S' p gs cb fi left but R (n + 1)) ∧ (¬ (fi = true ∧ (bif fi then left - 1 else left) = 0) → GoR fol af lt F S (offH F' (ixS g.length (bif fi then left - 1 else left) fi (af n) p) R) S' p gs cb fi left but R (n + 1)) := by
  obtain ⟨v1, v2, v3, v4, v5, ⟨k, v6, v7⟩, v8, v9, v10, v11⟩ := hV
  obtain ⟨p1, p2, p3, p4, p5⟩ := hP _ _ hf
  obtain ⟨q1, q2, q3, q4, q5⟩ := hP _ _ v7
  have hl := gp_len v9
  rw [hg, List.length_append] at hl
  have hg1 : 1 ≤ g.length := by
    cases g with
    | nil => exact absurd rfl hg0
    | cons a b => simp
  have c1 : ¬ lt n = gpL lt p gs := fun e => by
    have := congrArg List.length e
    rw [hg, List.length_append] at this
    omega
  have c3 : ∀ g', ¬ lt n = gpL lt p gs ++ g' := fun g' e => by
    have := congrArg List.length e
    rw [hg, List.length_append, List.length_append] at this
    omega
  have c2 : ∀ g', gpL lt p gs = lt n ++ g' → g' = g := fun g' e => (List.append_cancel_left (hg.symm.trans e)).symm
  obtain ⟨i1, i2, i3, i4, i5, i6⟩ := ix_s (gs := g.length) (lf := bif fi then left - 1 else left) (fi := fi) (cb := af n) (p := p) hg1 (by omega) (by cases fi <;> simp <;> omega) p5 q1
  constructor
  · intro hz
    exact go_k h (fun _ _ => ⟨fun e => absurd e c1, fun g' _ _ => Or.inl hz, fun g' _ e => absurd e (c3 g')⟩)
  · intro hz
    refine go_s h Fle_o (Nat.le_refl _) (fun _ _ => ⟨fun e => absurd e c1, fun g' _ e => ?_, fun g' _ e => absurd e (c3 g')⟩) (fun i R1 hi h1 => ?_) (Or.inl rfl)
    · rw [c2 g' e]
      obtain ⟨o, o1, o2, o3, o4⟩ := off_eq (hd := F') (i := ixS g.length (bif fi then left - 1 else left) fi (af n) p) (l := R)
      exact Or.inr ⟨o, o1, o2⟩
    · rcases off_w h1 with z | ⟨z1, z2⟩
      · exact Or.inl z
      · subst z1 z2
        refine Or.inr ⟨⟨v1, v2, ?_, ?_, ?_, ?_, ?_⟩, Or.inr ⟨rfl, by rw [i2]; omega⟩⟩
        · rw [i2, i4, i6]
          cases fi
          · exact v3
          · have := v4 rfl
            simp only [cond_true] at v3 ⊢
            omega
        · rw [i4, i6]
          intro z
          rcases Nat.eq_zero_or_pos (bif fi then left - 1 else left) with y | y
          · exact absurd ⟨z, y⟩ hz
          · exact y
        · rw [i3]; exact ⟨k, v6, v7⟩
        · rw [i2, i3]; omega
        · rw [i2, i3, i4, i5, i6, gp_lt v9 hg]
          intro row hr
          exact v11 row ⟨n, cq_lt2 hg hf hne v4 hr⟩
/-- the other one is behind then -/
theorem go_g (hP : PtH fol af lt) (hV : Vd0 fol af lt p gs cb fi left but R) (h : GoR fol af lt F S F' S' p gs cb fi left but R n) (hf : fol cb n = true) (hne : n ≠ but) (hg : lt n = gpL lt p gs ++ g) (hg0 : g ≠ []) : (fi = false ∧ (bif fi then left - 1 else left) = 0 → GoR fol af lt F S F' S' p gs cb fi left but R (n + 1)) ∧ (¬ (fi = false ∧ (bif fi then left - 1 else left) = 0) → GoR fol af lt F S (offH F' (ixS g.length (bif fi then left - 1 else left) (!fi) (af p) n) (R ++ g)) S' p gs cb fi left but R (n + 1)) := by
  obtain ⟨v1, v2, v3, v4, v5, ⟨k, v6, v7⟩, v8, v9, v10, v11⟩ := hV
  obtain ⟨p1, p2, p3, p4, p5⟩ := hP _ _ hf
  obtain ⟨q1, q2, q3, q4, q5⟩ := hP _ _ v7
  have hl := gp_len v9
  have hl2 : (lt n).length = gs + g.length := by rw [hg, List.length_append, hl]
  have hg1 : 1 ≤ g.length := by
    cases g with
    | nil => exact absurd rfl hg0
    | cons a b => simp
  have c1 : ¬ lt n = gpL lt p gs := fun e => by
    have := congrArg List.length e
    omega
  have c2 : ∀ g', ¬ gpL lt p gs = lt n ++ g' := fun g' e => by
    have := congrArg List.length e
    rw [List.length_append] at this
    omega
  have c3 : ∀ g', lt n = gpL lt p gs ++ g' → g' = g := fun g' e => (List.append_cancel_left (hg.symm.trans e)).symm
  obtain ⟨i1, i2, i3, i4, i5, i6⟩ := ix_s (gs := g.length) (lf := bif fi then left - 1 else left) (fi := !fi) (cb := af p) (p := n) hg1 (by omega) (by cases fi <;> simp <;> omega) q5 p1
  constructor
  · intro hz
    exact go_k h (fun _ _ => ⟨fun e => absurd e c1, fun g' _ e => absurd e (c2 g'), fun g' _ _ => Or.inl hz⟩)
  · intro hz
    refine go_s h Fle_o (Nat.le_refl _) (fun _ _ => ⟨fun e => absurd e c1, fun g' _ e => absurd e (c2 g'), fun g' _ e => ?_⟩) (fun i R1 hi h1 => ?_) (Or.inl rfl)
    · rw [c3 g' e]
      obtain ⟨o, o1, o2, o3, o4⟩ := off_eq (hd := F') (i := ixS g.length (bif fi then left - 1 else left) (!fi) (af p) n) (l := R ++ g)
      exact Or.inr ⟨o, o1, o2⟩
    · rcases off_w h1 with z | ⟨z1, z2⟩
      · exact Or.inl z
      · subst z1 z2
        have hgR : lR g := (lR_l (by rw [← hg]; exact p3)).2
        refine Or.inr ⟨⟨lR_a v1 hgR, by rw [List.length_append]; omega, ?_, ?_, ?_, ?_, ?_⟩, Or.inl (by rw [List.length_append]; omega)⟩
        · rw [i2, i4, i6, List.length_append]
          cases fi
          · simp only [cond_false, cond_true, Bool.not_false] at v3 ⊢
            omega
          · have := v4 rfl
            simp only [cond_false, cond_true, Bool.not_true] at v3 ⊢
            omega
        · rw [i4, i6]
          intro z
          rcases Nat.eq_zero_or_pos (bif fi then left - 1 else left) with y | y
          · exact absurd ⟨by cases fi <;> simp_all, y⟩ hz
          · exact y
        · rw [i3]; exact ⟨cb, v10, hf⟩
        · rw [i2, i3]; omega
        · rw [i2, i3, i4, i5, i6, gp_gt hg]
          intro row hr
          exact v11 row ⟨n, cq_gt2 hg hf hne v4 hr⟩
end
