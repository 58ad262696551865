/-- a way: parts, each of which follows the class had so far -/
def wOk (fol : Nat → Nat → Bool) (af : Nat → Nat) : Nat → List Nat → Prop
  | _, [] => True
  | k, p :: ps => fol k p = true ∧ wOk fol af (af p) ps
/-- its letters -/
def wRw (lt : Nat → List Nat) : List Nat → List Nat
  | [] => []
  | p :: ps => lt p ++ wRw lt ps
/-- a row as a number, and by length first -/
def rNm (l : List Nat) : Nat := l.foldl (fun a x => a * 32 + x) 0
def rKy (l : List Nat) : Nat := l.length * 1152921504606846976 + rNm l
def rOk (l : List Nat) : Prop := ∀ x, x ∈ l → x < 32
theorem rNm_go : ∀ (m : List Nat) (a : Nat), m.foldl (fun a x => a * 32 + x) a = a * 32 ^ m.length + rNm m := by
  intro m
  induction m with
  | nil => intro a; simp [rNm]
  | cons x m ih =>
    intro a
    have h3 : rNm (x :: m) = x * 32 ^ m.length + rNm m := by
      show (x :: m).foldl (fun a x => a * 32 + x) 0 = _
      rw [List.foldl_cons, Nat.zero_mul, Nat.zero_add]
      exact ih x
    rw [List.foldl_cons, ih (a * 32 + x), h3, List.length_cons, Nat.pow_succ, Nat.add_mul, Nat.mul_assoc, Nat.mul_comm 32 (32 ^ m.length), Nat.add_assoc]
theorem rNm_c (x : Nat) (m : List Nat) : rNm (x :: m) = x * 32 ^ m.length + rNm m := by
  show (x :: m).foldl (fun a x => a * 32 + x) 0 = _
  rw [List.foldl_cons, Nat.zero_mul, Nat.zero_add]
  exact rNm_go m x
theorem rNm_app (l m : List Nat) : rNm (l ++ m) = rNm l * 32 ^ m.length + rNm m := by
  show (l ++ m).foldl (fun a x => a * 32 + x) 0 = _
  rw [List.foldl_append]
  exact rNm_go m _
theorem rNm_lt : ∀ l : List Nat, rOk l → rNm l < 32 ^ l.length := by
  intro l
  induction l with
  | nil => intro _; simp [rNm]
  | cons x m ih =>
    intro h
    have h1 := ih (fun y hy => h y (List.mem_cons_of_mem _ hy))
    have h2 : x < 32 := h x List.mem_cons_self
    rw [rNm_c, List.length_cons, Nat.pow_succ]
    have h3 : x * 32 ^ m.length ≤ 31 * 32 ^ m.length := Nat.mul_le_mul_right _ (by omega)
    omega
theorem rNm_60 {l : List Nat} (h : rOk l) (h2 : l.length ≤ 12) : rNm l < 1152921504606846976 := by
  have h1 := rNm_lt l h
  have h3 : 32 ^ l.length ≤ 32 ^ 12 := Nat.pow_le_pow_right (by omega) h2
  have h4 : (32 : Nat) ^ 12 = 1152921504606846976 := rfl
  omega
theorem rOk_a {l m : List Nat} (h1 : rOk l) (h2 : rOk m) : rOk (l ++ m) := fun x hx => by
  rcases List.mem_append.mp hx with h | h
  · exact h1 x h
  · exact h2 x h
theorem rKy_app {l m : List Nat} (hl : rOk l) (h12 : l.length ≤ 12) : rKy l ≤ rKy (l ++ m) := by
  cases m with
  | nil => rw [List.append_nil]; exact Nat.le_refl _
  | cons x m =>
    have h1 := rNm_60 hl h12
    unfold rKy
    rw [List.length_append, List.length_cons]
    omega
theorem rKy_sub {a b m : List Nat} (ha : rOk a) (hm : rOk m) (h : rKy a ≤ rKy b) (hb : rOk b) (h12 : (b ++ m).length ≤ 12) : rKy (a ++ m) ≤ rKy (b ++ m) := by
  have hb2 : b.length ≤ 12 := by rw [List.length_append] at h12; omega
  have h1 := rNm_60 hb hb2
  have hab : a.length ≤ b.length := by unfold rKy at h; omega
  rcases Nat.lt_or_ge a.length b.length with hlt | hge
  · have h2 : rNm (a ++ m) < 1152921504606846976 := rNm_60 (rOk_a ha hm) (by rw [List.length_append] at h12 ⊢; omega)
    unfold rKy
    rw [List.length_append, List.length_append]
    omega
  · have e : a.length = b.length := by omega
    have h2 : rNm a ≤ rNm b := by unfold rKy at h; omega
    unfold rKy
    rw [List.length_append, List.length_append, rNm_app, rNm_app, e]
    have := Nat.mul_le_mul_right (32 ^ m.length) h2
    omega
section
variable (fol : Nat → Nat → Bool) (af : Nat → Nat) (lt : Nat → List Nat)
/-- what may come of a chase whose first step is b: two ways that meet -/
def CmB (cb ca : Nat) (first : Bool) (left : Nat) (gap : List Nat) (but : Nat) (R : List Nat) (b : Nat) (row : List Nat) : Prop :=
  ∃ bt as, fol cb b = true ∧ b ≠ but ∧ wOk fol af (af b) bt ∧ wOk fol af ca as ∧ lt b ++ wRw lt bt = gap ++ wRw lt as ∧ row = R ++ wRw lt as ∧ row.length ≤ 12 ∧ (bif first then bt.length + 1 else as.length) ≤ left
def Cmp (cb ca : Nat) (first : Bool) (left : Nat) (gap : List Nat) (but : Nat) (R row : List Nat) : Prop := ∃ b, CmB fol af lt cb ca first left gap but R b row
end
section
variable {fol : Nat → Nat → Bool} {af : Nat → Nat} {lt : Nat → List Nat} {cb ca : Nat} {first : Bool} {left : Nat} {gap : List Nat} {but : Nat} {R : List Nat} {b : Nat} {row : List Nat}
theorem cq_eq (h : CmB fol af lt cb ca first left gap but R b row) (hR : rOk R) (h12 : R.length ≤ 12) : rKy R ≤ rKy row := by
  obtain ⟨bt, as, _, _, _, _, _, h6, _, _⟩ := h
  rw [h6]
  exact rKy_app hR h12
theorem cq_meet (hf : fol cb b = true) (hb : b ≠ but) (e : lt b = gap) (h12 : R.length ≤ 12) (hl : first = true → 1 ≤ left) : CmB fol af lt cb ca first left gap but R b R := by
  refine ⟨[], [], hf, hb, trivial, trivial, ?_, ?_, h12, ?_⟩
  · rw [e]
  · simp [wRw]
  · cases first with
    | false => exact Nat.zero_le _
    | true => exact hl rfl
theorem cq_lt1 {g : List Nat} (hg : gap = lt b ++ g) (hg0 : g ≠ []) (h24 : ∀ k p, fol k p = true → p < 24) (h : CmB fol af lt cb ca first left gap but R b row) : Cmp fol af lt (af b) ca first (bif first then left - 1 else left) g 99 R row := by
  obtain ⟨bt, as, h1, h2, h3, h4, h5, h6, h7, h8⟩ := h
  rw [hg, List.append_assoc] at h5
  have h5 := List.append_cancel_left h5
  cases bt with
  | nil =>
    exfalso
    have := congrArg List.length h5
    rw [List.length_append] at this
    simp only [wRw, List.length_nil] at this
    exact hg0 (List.eq_nil_of_length_eq_zero (by omega))
  | cons b2 bt =>
    refine ⟨b2, bt, as, h3.1, ?_, h3.2, h4, h5, h6, h7, ?_⟩
    · have := h24 _ _ h3.1; omega
    · cases first with
      | false => exact h8
      | true =>
        simp only [cond_true, List.length_cons] at h8 ⊢
        omega
theorem cq_lt2 {g : List Nat} (hg : gap = lt b ++ g) (hf : fol cb b = true) (hb : b ≠ but) (hl : first = true → 1 ≤ left) (h : Cmp fol af lt (af b) ca first (bif first then left - 1 else left) g 99 R row) : CmB fol af lt cb ca first left gap but R b row := by
  obtain ⟨b2, bt, as, h1, h2, h3, h4, h5, h6, h7, h8⟩ := h
  refine ⟨b2 :: bt, as, hf, hb, ⟨h1, h3⟩, h4, ?_, h6, h7, ?_⟩
  · rw [hg, List.append_assoc, ← h5]; rfl
  · cases first with
    | false => exact h8
    | true =>
      have := hl rfl
      simp only [cond_true, List.length_cons] at h8 ⊢
      omega
theorem cq_gt1 {g : List Nat} (hg : lt b = gap ++ g) (hg0 : g ≠ []) (h24 : ∀ k p, fol k p = true → p < 24) (h : CmB fol af lt cb ca first left gap but R b row) : Cmp fol af lt ca (af b) (!first) (bif first then left - 1 else left) g 99 (R ++ g) row := by
  obtain ⟨bt, as, h1, h2, h3, h4, h5, h6, h7, h8⟩ := h
  rw [hg, List.append_assoc] at h5
  have h5 := (List.append_cancel_left h5).symm
  cases as with
  | nil =>
    exfalso
    have := congrArg List.length h5
    rw [List.length_append] at this
    simp only [wRw, List.length_nil] at this
    exact hg0 (List.eq_nil_of_length_eq_zero (by omega))
  | cons a as =>
    have h5' : lt a ++ wRw lt as = g ++ wRw lt bt := h5
    refine ⟨a, as, bt, h4.1, ?_, h4.2, h3, h5', ?_, h7, ?_⟩
    · have := h24 _ _ h4.1; omega
    · rw [h6, List.append_assoc, ← h5']; rfl
    · cases first with
      | false => simp only [Bool.not_false, cond_true, cond_false, List.length_cons] at h8 ⊢; omega
      | true => simp only [Bool.not_true, cond_true, cond_false] at h8 ⊢; omega
theorem cq_gt2 {g : List Nat} (hg : lt b = gap ++ g) (hf : fol cb b = true) (hb : b ≠ but) (hl : first = true → 1 ≤ left) (h : Cmp fol af lt ca (af b) (!first) (bif first then left - 1 else left) g 99 (R ++ g) row) : CmB fol af lt cb ca first left gap but R b row := by
  obtain ⟨a, as, bt, h1, h2, h3, h4, h5, h6, h7, h8⟩ := h
  refine ⟨bt, a :: as, hf, hb, h4, ⟨h1, h3⟩, ?_, ?_, h7, ?_⟩
  · rw [hg, List.append_assoc, ← h5]; rfl
  · rw [h6, List.append_assoc, ← h5]; rfl
  · cases first with
    | false => simp only [Bool.not_false, cond_true, cond_false, List.length_cons] at h8 ⊢; omega
    | true =>
      have := hl rfl
      simp only [Bool.not_true, cond_true, cond_false] at h8 ⊢; omega
/-- the shorter one of part and gap begins the longer one -/
theorem cq_pre (h : CmB fol af lt cb ca first left gap but R b row) : (lt b).take (min (lt b).length gap.length) = gap.take (min (lt b).length gap.length) := by
  obtain ⟨bt, as, _, _, _, _, h5, _, _, _⟩ := h
  have := congrArg (List.take (min (lt b).length gap.length)) h5
  rw [List.take_append_of_le_length (by omega), List.take_append_of_le_length (by omega)] at this
  exact this
theorem tk_eq {x y : List Nat} (h : x.take (min x.length y.length) = y.take (min x.length y.length)) (e : x.length = y.length) : x = y := by
  rw [e, Nat.min_self, List.take_length, ← e, List.take_length] at h
  exact h
theorem tk_lt {x y : List Nat} (h : x.take (min x.length y.length) = y.take (min x.length y.length)) (e : x.length ≤ y.length) : y = x ++ y.drop x.length := by
  rw [Nat.min_eq_left e, List.take_length] at h
  conv => lhs; rw [← List.take_append_drop x.length y]
  rw [← h]
theorem wOk_a : ∀ (H : List Nat) (k : Nat) (x : List Nat), wOk fol af k (H ++ x) → wOk fol af k H ∧ wOk fol af (H.foldl (fun _ p => af p) k) x := by
  intro H
  induction H with
  | nil => intro k x h; exact ⟨trivial, h⟩
  | cons p H ih =>
    intro k x h
    obtain ⟨h1, h2⟩ := h
    have := ih (af p) x h2
    exact ⟨⟨h1, this.1⟩, this.2⟩
theorem wRw_a (H x : List Nat) : wRw lt (H ++ x) = wRw lt H ++ wRw lt x := by
  induction H with
  | nil => rfl
  | cons p H ih => show lt p ++ wRw lt (H ++ x) = lt p ++ wRw lt H ++ wRw lt x; rw [ih, List.append_assoc]
/-- two ways part somewhere -/
theorem w_part (h0 : ∀ k p, fol k p = true → lt p ≠ []) : ∀ (ps qs : List Nat) (k : Nat), wOk fol af k ps → wOk fol af k qs → ps ≠ qs → wRw lt ps = wRw lt qs → ∃ H p as q bs, ps = H ++ p :: as ∧ qs = H ++ q :: bs ∧ p ≠ q := by
  intro ps
  induction ps with
  | nil =>
    intro qs k _ h2 h3 h4
    cases qs with
    | nil => exact absurd rfl h3
    | cons q qs =>
      exfalso
      have h4 : ([] : List Nat) = lt q ++ wRw lt qs := h4
      exact h0 _ _ h2.1 (List.append_eq_nil_iff.mp h4.symm).1
  | cons p ps ih =>
    intro qs k h1 h2 h3 h4
    cases qs with
    | nil =>
      exfalso
      have h4 : lt p ++ wRw lt ps = [] := h4
      exact h0 _ _ h1.1 (List.append_eq_nil_iff.mp h4).1
    | cons q qs =>
      by_cases e : p = q
      · subst e
        have h4 : lt p ++ wRw lt ps = lt p ++ wRw lt qs := h4
        obtain ⟨H, p', as, q', bs, e1, e2, e3⟩ := ih qs (af p) h1.2 h2.2 (fun z => h3 (by rw [z])) (List.append_cancel_left h4)
        exact ⟨p :: H, p', as, q', bs, by rw [e1]; rfl, by rw [e2]; rfl, e3⟩
      · exact ⟨[], p, ps, q, qs, rfl, rfl, e⟩
end
section
variable (fol : Nat → Nat → Bool) (af : Nat → Nat) (lt : Nat → List Nat)
/-- rows with a way of three parts at most and another way -/
def TwS (row : List Nat) : Prop := ∃ ps qs, wOk fol af 4 ps ∧ wOk fol af 4 qs ∧ ps ≠ qs ∧ ps.length ≤ 3 ∧ wRw lt ps = row ∧ wRw lt qs = row
/-- what a split behind a head gives -/
def SpS (head : List Nat) (k left : Nat) (row : List Nat) : Prop := ∃ p, fol k p = true ∧ Cmp fol af lt k (af p) false (left - 1) (lt p) p (head ++ lt p) row
/-- the least head of one part -/
def Hd1 (k : Nat) (h : Option (List Nat)) : Prop := (∀ x, fol 4 x = true → af x = k → ∃ l, h = some l ∧ rKy l ≤ rKy (lt x)) ∧ ∀ l, h = some l → ∃ x, fol 4 x = true ∧ af x = k ∧ l = lt x
def Hd2 (k : Nat) (h : Option (List Nat)) : Prop := (∀ x y, fol 4 x = true → fol (af x) y = true → af y = k → ∃ l, h = some l ∧ rKy l ≤ rKy (lt x ++ lt y)) ∧ ∀ l, h = some l → ∃ x y, fol 4 x = true ∧ fol (af x) y = true ∧ af y = k ∧ l = lt x ++ lt y
end
section
variable {fol : Nat → Nat → Bool} {af : Nat → Nat} {lt : Nat → List Nat}
theorem wRw_len (h4 : ∀ k p, fol k p = true → (lt p).length ≤ 4) : ∀ (ps : List Nat) (k : Nat), wOk fol af k ps → (wRw lt ps).length ≤ 4 * ps.length := by
  intro ps
  induction ps with
  | nil => intro k _; exact Nat.zero_le _
  | cons p ps ih =>
    intro k h
    have h1 := ih (af p) h.2
    have h2 := h4 _ _ h.1
    show (lt p ++ wRw lt ps).length ≤ _
    rw [List.length_append, List.length_cons]
    omega
theorem wRw_ok (h32 : ∀ k p, fol k p = true → rOk (lt p)) : ∀ (ps : List Nat) (k : Nat), wOk fol af k ps → rOk (wRw lt ps) := by
  intro ps
  induction ps with
  | nil => intro k _ x hx; cases hx
  | cons p ps ih => intro k h; exact rOk_a (h32 _ _ h.1) (ih _ h.2)
theorem tw_1 (h4 : ∀ k p, fol k p = true → (lt p).length ≤ 4) (h32 : ∀ k p, fol k p = true → rOk (lt p)) (h0 : ∀ k p, fol k p = true → lt p ≠ []) (haf : ∀ k p, fol k p = true → af p < 4) {S : Nat} {d1 d2 : Nat → Option (List Nat)} (H1 : ∀ k, k < 4 → Hd1 fol af lt k (d1 k)) (H2 : ∀ k, k < 4 → Hd2 fol af lt k (d2 k))
    (s0 : ∀ row, SpS fol af lt [] 4 3 row → S ≤ rKy row) (s1 : ∀ k l, k < 4 → d1 k = some l → ∀ row, SpS fol af lt l k 2 row → S ≤ rKy row) (s2 : ∀ k l, k < 4 → d2 k = some l → ∀ row, SpS fol af lt l k 1 row → S ≤ rKy row) {row : List Nat} (h : TwS fol af lt row) : S ≤ rKy row := by
  obtain ⟨ps, qs, h1, h2, h3, hl, e1, e2⟩ := h
  have h12 : row.length ≤ 12 := by have := wRw_len h4 ps 4 h1; rw [e1] at this; omega
  obtain ⟨H, p, as, q, bs, f1, f2, f3⟩ := w_part h0 ps qs 4 h1 h2 h3 (by rw [e1, e2])
  subst f1 f2
  rw [List.length_append, List.length_cons] at hl
  have w1 := wOk_a H 4 _ h1
  have w2 := wOk_a H 4 _ h2
  rw [wRw_a] at e1 e2
  have e12 : wRw lt (p :: as) = wRw lt (q :: bs) := List.append_cancel_left (e1.trans e2.symm)
  have g1 : rOk (wRw lt (p :: as)) := wRw_ok h32 _ _ w1.2
  rcases H with _ | ⟨x, H⟩
  · refine s0 row ⟨p, w1.2.1, q, bs, as, w2.2.1, fun z => f3 z.symm, w2.2.2, w1.2.2, e12.symm, ?_, h12, ?_⟩
    · rw [← e1]; rfl
    · simp only [cond_false]; simp only [List.length_nil] at hl; omega
  · rcases H with _ | ⟨y, H⟩
    · have hx := w1.1.1
      obtain ⟨l, l1, l2⟩ := (H1 (af x) (haf _ _ hx)).1 x hx rfl
      obtain ⟨x', x1, x2, x3⟩ := (H1 (af x) (haf _ _ hx)).2 l l1
      have e1' : row = lt x ++ wRw lt (p :: as) := by rw [← e1]; show (lt x ++ []) ++ _ = _; rw [List.append_nil]
      rw [e1'] at h12 ⊢
      refine Nat.le_trans (s1 _ l (haf _ _ hx) l1 (l ++ wRw lt (p :: as)) ⟨p, w1.2.1, q, bs, as, w2.2.1, fun z => f3 z.symm, w2.2.2, w1.2.2, e12.symm, ?_, ?_, ?_⟩) (rKy_sub (by rw [x3]; exact h32 _ _ x1) g1 l2 (h32 _ _ hx) h12)
      · show l ++ (lt p ++ wRw lt as) = _; rw [List.append_assoc]
      · have hle : l.length ≤ (lt x).length := by
          have := rNm_60 (h32 _ _ hx) (by have := h4 _ _ hx; omega)
          unfold rKy at l2; omega
        rw [List.length_append] at h12 ⊢; omega
      · simp only [cond_false]; simp only [List.length_cons, List.length_nil] at hl; omega
    · rcases H with _ | ⟨z, H⟩
      · have hx := w1.1.1
        have hy := w1.1.2.1
        obtain ⟨l, l1, l2⟩ := (H2 (af y) (haf _ _ hy)).1 x y hx hy rfl
        obtain ⟨x', y', x1, y1, x2, x3⟩ := (H2 (af y) (haf _ _ hy)).2 l l1
        have e1' : row = (lt x ++ lt y) ++ wRw lt (p :: as) := by rw [← e1]; show (lt x ++ (lt y ++ [])) ++ _ = _; rw [List.append_nil]
        rw [e1'] at h12 ⊢
        have hxy : rOk (lt x ++ lt y) := rOk_a (h32 _ _ hx) (h32 _ _ hy)
        refine Nat.le_trans (s2 _ l (haf _ _ hy) l1 (l ++ wRw lt (p :: as)) ⟨p, w1.2.1, q, bs, as, w2.2.1, fun z => f3 z.symm, w2.2.2, w1.2.2, e12.symm, ?_, ?_, ?_⟩) (rKy_sub (by rw [x3]; exact rOk_a (h32 _ _ x1) (h32 _ _ y1)) g1 l2 hxy h12)
        · show l ++ (lt p ++ wRw lt as) = _; rw [List.append_assoc]
        · have hle : l.length ≤ (lt x ++ lt y).length := by
            have := rNm_60 hxy (by have := h4 _ _ hx; have := h4 _ _ hy; rw [List.length_append]; omega)
            unfold rKy at l2; omega
          rw [List.length_append] at h12 ⊢; omega
        · simp only [cond_false]; simp only [List.length_cons, List.length_nil] at hl; omega
      · exfalso
        simp only [List.length_cons] at hl
        omega
theorem sp_tw {H : List Nat} {k left : Nat} (hH : wOk fol af 4 H) (hk : H.foldl (fun _ p => af p) 4 = k) (hl : H.length + left ≤ 3) (h1 : 1 ≤ left) {row : List Nat} (h : SpS fol af lt (wRw lt H) k left row) : TwS fol af lt row := by
  obtain ⟨p, hp, b, bt, as, h1, h2, h3, h4, h5, h6, h7, h8⟩ := h
  have key : ∀ x, wOk fol af k x → wOk fol af 4 (H ++ x) := by
    intro x hx
    have gen : ∀ (H : List Nat) (k0 : Nat), wOk fol af k0 H → wOk fol af (H.foldl (fun _ p => af p) k0) x → wOk fol af k0 (H ++ x) := by
      intro H
      induction H with
      | nil => intro k0 _ h; exact h
      | cons y H ih => intro k0 h h'; exact ⟨h.1, ih (af y) h.2 h'⟩
    exact gen H 4 hH (by rw [hk]; exact hx)
  refine ⟨H ++ p :: as, H ++ b :: bt, key _ ⟨hp, h4⟩, key _ ⟨h1, h3⟩, ?_, ?_, ?_, ?_⟩
  · intro z
    have z := List.append_cancel_left z
    injection z with z1 z2
    exact h2 z1.symm
  · rw [List.length_append, List.length_cons]
    simp only [cond_false] at h8
    omega
  · rw [wRw_a, h6, List.append_assoc]; rfl
  · rw [wRw_a]
    show wRw lt H ++ (lt b ++ wRw lt bt) = row
    rw [h5, h6, List.append_assoc]
end
