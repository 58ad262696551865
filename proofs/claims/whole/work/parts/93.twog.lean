theorem acS_w {F : Nat → Nat} {G : Nat → List Nat → Prop} : ∀ N, (∀ p, p < N → (1 ≤ F p ↔ ∃ x, G p x) ∧ (2 ≤ F p ↔ ∃ x y, x ≠ y ∧ G p x ∧ G p y)) →
    (1 ≤ acS F N ↔ ∃ p x, p < N ∧ G p x) ∧ (2 ≤ acS F N ↔ ∃ p x p' y, p < N ∧ p' < N ∧ p :: x ≠ p' :: y ∧ G p x ∧ G p' y) := by
  intro N
  induction N with
  | zero =>
    intro _
    have z : acS F 0 = 0 := rfl
    rw [z]
    exact ⟨⟨fun h => absurd h (by omega), fun ⟨p, x, h, _⟩ => absurd h (by omega)⟩, ⟨fun h => absurd h (by omega), fun ⟨p, x, p', y, h, _⟩ => absurd h (by omega)⟩⟩
  | succ N ih =>
    intro h
    obtain ⟨i1, i2⟩ := ih (fun p hp => h p (by omega))
    obtain ⟨n1, n2⟩ := h N (by omega)
    have e : ∀ t, t ≤ 2 → (t ≤ acS F (N + 1) ↔ t ≤ acS F N + F N) := by
      intro t ht
      show t ≤ cpM (acS F N + F N) ↔ _
      unfold cpM
      split <;> omega
    constructor
    · rw [e 1 (by omega)]
      constructor
      · intro h1
        by_cases z : 1 ≤ acS F N
        · obtain ⟨p, x, hp, hx⟩ := i1.mp z
          exact ⟨p, x, by omega, hx⟩
        · obtain ⟨x, hx⟩ := n1.mp (by omega)
          exact ⟨N, x, by omega, hx⟩
      · intro ⟨p, x, hp, hx⟩
        by_cases e : p = N
        · subst e
          have := n1.mpr ⟨x, hx⟩
          omega
        · have := i1.mpr ⟨p, x, by omega, hx⟩
          omega
    · rw [e 2 (by omega)]
      constructor
      · intro h2
        by_cases z : 2 ≤ acS F N
        · obtain ⟨p, x, p', y, hp, hp', hne, hx, hy⟩ := i2.mp z
          exact ⟨p, x, p', y, by omega, by omega, hne, hx, hy⟩
        · by_cases z2 : 2 ≤ F N
          · obtain ⟨x, y, hne, hx, hy⟩ := n2.mp z2
            exact ⟨N, x, N, y, by omega, by omega, fun g => hne (List.cons.inj g).2, hx, hy⟩
          · obtain ⟨p, x, hp, hx⟩ := i1.mp (by omega)
            obtain ⟨y, hy⟩ := n1.mp (by omega)
            exact ⟨p, x, N, y, by omega, by omega, fun g => by have := (List.cons.inj g).1; omega, hx, hy⟩
      · intro ⟨p, x, p', y, hp, hp', hne, hx, hy⟩
        by_cases e1 : p = N
        · by_cases e2 : p' = N
          · subst e1
            subst e2
            have := n2.mpr ⟨x, y, fun z => hne (by rw [z]), hx, hy⟩
            omega
          · subst e1
            have h1 := n1.mpr ⟨x, hx⟩
            have h2 := i1.mpr ⟨p', y, by omega, hy⟩
            omega
        · by_cases e2 : p' = N
          · subst e2
            have h1 := n1.mpr ⟨y, hy⟩
            have h2 := i1.mpr ⟨p, x, by omega, hx⟩
            omega
          · have := i2.mpr ⟨p, x, p', y, by omega, by omega, hne, hx, hy⟩
            omega
section
variable {A I : Nat → Nat → Int32} {r q : Nat} {jn : Int32} {rw' : List Nat} {X : Nat → Nat} {at' k p : Nat}
/-- a part stands in a row as its letters do -/
theorem st_l (P : PtK A r q p) (ha : at' ≤ rw'.length) : ptS A (fun j => rw'.getD j 0) rw'.length p at' ↔ ∃ m, rw'.drop at' = ptW A p ++ m := by
  have wl := ptW_l (A := A) (p := p)
  constructor
  · intro ⟨h1, h2⟩
    refine ⟨(rw'.drop at').drop (ptN A p), ?_⟩
    conv => lhs; rw [← List.take_append_drop (ptN A p) (rw'.drop at')]
    congr 1
    apply List.ext_getElem
    · rw [List.length_take, List.length_drop, wl]; omega
    · intro i g1 g2
      rw [List.getElem_take, List.getElem_drop]
      have h3 := h2 i (by omega)
      have e : (ptW A p)[i] = ptL A p i := by simp [ptW]
      have : at' + i < rw'.length := by omega
      have h4 : rw'.getD (at' + i) 0 = rw'[at' + i] := by simp [this]
      have h3 : rw'.getD (at' + i) 0 = ptL A p i := h3
      rw [e, ← h3, h4]
  · intro ⟨m, h⟩
    have hl := congrArg List.length h
    rw [List.length_drop, List.length_append, wl] at hl
    have n1 := P.n1
    refine ⟨by omega, fun j hj => ?_⟩
    have h1 : at' + j < rw'.length := by omega
    have e : (rw'.drop at').getD j 0 = (ptW A p ++ m).getD j 0 := by rw [h]
    have e1 : (rw'.drop at').getD j 0 = rw'.getD (at' + j) 0 := by simp [List.getD_eq_getElem?_getD, List.getElem?_drop]
    have e2 : (ptW A p ++ m).getD j 0 = ptL A p j := by
      rw [List.getD_eq_getElem?_getD, List.getElem?_append_left (by omega)]
      unfold ptW
      simp [hj]
    show rw'.getD (at' + j) 0 = _
    rw [← e1, e, e2]
theorem st_d (P : PtK A r q p) (ha : at' ≤ rw'.length) {m : List Nat} (h : rw'.drop at' = ptW A p ++ m) : m = rw'.drop (at' + ptN A p) := by
  have wl := ptW_l (A := A) (p := p)
  have := congrArg (List.drop (ptN A p)) h
  rw [List.drop_drop, List.drop_append_of_le_length (by omega), ← wl, List.drop_length, List.nil_append, wl] at this
  exact this.symm
/-- ways from a place on, as lists -/
theorem w_l (hW : IWo A I r q) (hX : IsW A r q jn (fun j => rw'.getD j 0) rw'.length 1 X) : ∀ t a, a + t = rw'.length → 1 ≤ a → ∀ k, k < 4 →
    (1 ≤ X (4 * a + k) ↔ ∃ x, wOk (ptF A r q jn) (ptC A) k x ∧ wRw (ptW A) x = rw'.drop a) ∧ (2 ≤ X (4 * a + k) ↔ ∃ x y, x ≠ y ∧ (wOk (ptF A r q jn) (ptC A) k x ∧ wRw (ptW A) x = rw'.drop a) ∧ (wOk (ptF A r q jn) (ptC A) k y ∧ wRw (ptW A) y = rw'.drop a)) := by
  have nn : ∀ k p, ptF A r q jn k p = true → ptW A p ≠ [] := fun k p h => ptW_n (pt_K hW (pF_T h).1 (pF_T h).2)
  intro t
  induction t using Nat.strongRecOn with
  | _ t ih =>
    intro a ha h1 k hk
    rcases Nat.lt_or_ge a rw'.length with hlt | hge
    · rw [hX.2 a h1 hlt k hk]
      have base := acS_w (F := wsC A r q jn (fun j => rw'.getD j 0) rw'.length X a k) (G := fun p x => ptF A r q jn k p = true ∧ ptS A (fun j => rw'.getD j 0) rw'.length p a ∧ wOk (ptF A r q jn) (ptC A) (ptC A p) x ∧ wRw (ptW A) x = rw'.drop (a + ptN A p)) 24 (fun p hp => by
        by_cases e : ptF A r q jn k p = true ∧ ptS A (fun j => rw'.getD j 0) rw'.length p a
        · have P := pt_K hW hp (pF_T e.1).2
          have n1 := P.n1
          have hle := e.2.1
          rw [ws_T e.1 e.2]
          obtain ⟨j1, j2⟩ := ih (rw'.length - (a + ptN A p)) (by omega) (a + ptN A p) (by omega) (by omega) (ptC A p) P.c4
          constructor
          · rw [j1]
            exact ⟨fun ⟨x, h⟩ => ⟨x, e.1, e.2, h⟩, fun ⟨x, _, _, h⟩ => ⟨x, h⟩⟩
          · rw [j2]
            exact ⟨fun ⟨x, y, h0, h1, h2⟩ => ⟨x, y, h0, ⟨e.1, e.2, h1⟩, ⟨e.1, e.2, h2⟩⟩, fun ⟨x, y, h0, ⟨_, _, h1⟩, ⟨_, _, h2⟩⟩ => ⟨x, y, h0, h1, h2⟩⟩
        · rw [ws_F e]
          exact ⟨⟨fun z => absurd z (by omega), fun ⟨x, z1, z2, _⟩ => absurd ⟨z1, z2⟩ e⟩, ⟨fun z => absurd z (by omega), fun ⟨x, y, _, ⟨z1, z2, _⟩, _⟩ => absurd ⟨z1, z2⟩ e⟩⟩)
      have conv : ∀ z, (wOk (ptF A r q jn) (ptC A) k z ∧ wRw (ptW A) z = rw'.drop a) ↔ ∃ p x, z = p :: x ∧ p < 24 ∧ ptF A r q jn k p = true ∧ ptS A (fun j => rw'.getD j 0) rw'.length p a ∧ wOk (ptF A r q jn) (ptC A) (ptC A p) x ∧ wRw (ptW A) x = rw'.drop (a + ptN A p) := by
        intro z
        constructor
        · intro ⟨z1, z2⟩
          cases z with
          | nil =>
            exfalso
            have := congrArg List.length z2
            rw [List.length_drop] at this
            simp [wRw] at this
            omega
          | cons p x =>
            have P := pt_K hW (pF_T z1.1).1 (pF_T z1.1).2
            have z2 : ptW A p ++ wRw (ptW A) x = rw'.drop a := z2
            exact ⟨p, x, rfl, (pF_T z1.1).1, z1.1, (st_l P (by omega)).mpr ⟨_, z2.symm⟩, z1.2, st_d P (by omega) z2.symm⟩
        · intro ⟨p, x, e, hp, z1, z2, z3, z4⟩
          have P := pt_K hW hp (pF_T z1).2
          obtain ⟨m, hm⟩ := (st_l P (by omega)).mp z2
          rw [e]
          refine ⟨⟨z1, z3⟩, ?_⟩
          show ptW A p ++ wRw (ptW A) x = rw'.drop a
          rw [z4, hm, ← st_d P (by omega) hm]
      constructor
      · rw [base.1]
        constructor
        · intro ⟨p, x, hp, h⟩
          exact ⟨p :: x, (conv _).mpr ⟨p, x, rfl, hp, h⟩⟩
        · intro ⟨z, hz⟩
          obtain ⟨p, x, e, hp, h⟩ := (conv z).mp hz
          exact ⟨p, x, hp, h⟩
      · rw [base.2]
        constructor
        · intro ⟨p, x, p', y, hp, hp', hne, hx, hy⟩
          exact ⟨p :: x, p' :: y, hne, (conv _).mpr ⟨p, x, rfl, hp, hx⟩, (conv _).mpr ⟨p', y, rfl, hp', hy⟩⟩
        · intro ⟨z, z', hne, hz, hz'⟩
          obtain ⟨p, x, e, hp, h⟩ := (conv z).mp hz
          obtain ⟨p', y, e', hp', h'⟩ := (conv z').mp hz'
          exact ⟨p, x, p', y, hp, hp', by rw [← e, ← e']; exact hne, h, h'⟩
    · have e : a = rw'.length := by omega
      rw [e, hX.1 k hk, List.drop_length]
      have only : ∀ x, wOk (ptF A r q jn) (ptC A) k x ∧ wRw (ptW A) x = [] → x = [] := by
        intro x ⟨z1, z2⟩
        cases x with
        | nil => rfl
        | cons p x =>
          exfalso
          have z2 : ptW A p ++ wRw (ptW A) x = [] := z2
          exact nn _ _ z1.1 (List.append_eq_nil_iff.mp z2).1
      refine ⟨⟨fun _ => ⟨[], trivial, rfl⟩, fun _ => by omega⟩, ⟨fun z => absurd z (by omega), fun ⟨x, y, h0, h1, h2⟩ => absurd ((only x h1).trans (only y h2).symm) h0⟩⟩
/-- two ways -/
def Tw2 (A : Nat → Nat → Int32) (r q : Nat) (jn : Int32) (row : List Nat) : Prop := ∃ x y, x ≠ y ∧ (wOk (ptF A r q jn) (ptC A) 4 x ∧ wRw (ptW A) x = row) ∧ (wOk (ptF A r q jn) (ptC A) 4 y ∧ wRw (ptW A) y = row)
theorem lay_2 (hW : IWo A I r q) (hX : IsW A r q jn (fun j => rw'.getD j 0) rw'.length 1 X) (h1 : 1 ≤ rw'.length) : 2 ≤ acS (wsP A r q (fun j => rw'.getD j 0) rw'.length X 0) r ↔ Tw2 A r q jn rw' := by
  have hr := hW.1
  have base := acS_w (F := wsP A r q (fun j => rw'.getD j 0) rw'.length X 0) (G := fun p x => p < r ∧ ptS A (fun j => rw'.getD j 0) rw'.length p 0 ∧ wOk (ptF A r q jn) (ptC A) (ptC A p) x ∧ wRw (ptW A) x = rw'.drop (0 + ptN A p)) r (fun p hp => by
    have hT := pT_r (q := q) hp hr
    by_cases e : ptS A (fun j => rw'.getD j 0) rw'.length p 0
    · have P := pt_K hW (by omega) hT
      have n1 := P.n1
      have hle := e.1
      rw [wp_T hT e]
      obtain ⟨j1, j2⟩ := w_l hW hX (rw'.length - (0 + ptN A p)) (0 + ptN A p) (by omega) (by omega) (ptC A p) P.c4
      constructor
      · rw [j1]
        exact ⟨fun ⟨x, h⟩ => ⟨x, hp, e, h⟩, fun ⟨x, _, _, h⟩ => ⟨x, h⟩⟩
      · rw [j2]
        exact ⟨fun ⟨x, y, h0, h1, h2⟩ => ⟨x, y, h0, ⟨hp, e, h1⟩, ⟨hp, e, h2⟩⟩, fun ⟨x, y, h0, ⟨_, _, h1⟩, ⟨_, _, h2⟩⟩ => ⟨x, y, h0, h1, h2⟩⟩
    · rw [wp_F (fun z => e z.2)]
      exact ⟨⟨fun z => absurd z (by omega), fun ⟨x, _, z2, _⟩ => absurd z2 e⟩, ⟨fun z => absurd z (by omega), fun ⟨x, y, _, ⟨_, z2, _⟩, _⟩ => absurd z2 e⟩⟩)
  have conv : ∀ z, (wOk (ptF A r q jn) (ptC A) 4 z ∧ wRw (ptW A) z = rw') ↔ ∃ p x, z = p :: x ∧ p < r ∧ ptS A (fun j => rw'.getD j 0) rw'.length p 0 ∧ wOk (ptF A r q jn) (ptC A) (ptC A p) x ∧ wRw (ptW A) x = rw'.drop (0 + ptN A p) := by
    intro z
    constructor
    · intro ⟨z1, z2⟩
      cases z with
      | nil =>
        exfalso
        have := congrArg List.length z2
        simp [wRw] at this
        omega
      | cons p x =>
        have P := pt_K hW (pF_T z1.1).1 (pF_T z1.1).2
        have z2 : ptW A p ++ wRw (ptW A) x = rw'.drop 0 := z2
        exact ⟨p, x, rfl, pF_4 hW z1.1, (st_l P (by omega)).mpr ⟨_, z2.symm⟩, z1.2, st_d P (by omega) z2.symm⟩
    · intro ⟨p, x, e, hp, z2, z3, z4⟩
      have P := pt_K hW (p := p) (by omega) (pT_r hp hr)
      obtain ⟨m, hm⟩ := (st_l P (by omega)).mp z2
      rw [e]
      refine ⟨⟨pF_r4 hp hr, z3⟩, ?_⟩
      show ptW A p ++ wRw (ptW A) x = rw'
      rw [z4, ← st_d P (by omega) hm, ← hm]; rfl
  rw [base.2]
  constructor
  · intro ⟨p, x, p', y, hp, hp', hne, hx, hy⟩
    exact ⟨p :: x, p' :: y, hne, (conv _).mpr ⟨p, x, rfl, hx⟩, (conv _).mpr ⟨p', y, rfl, hy⟩⟩
  · intro ⟨z, z', hne, hz, hz'⟩
    obtain ⟨p, x, e, h⟩ := (conv z).mp hz
    obtain ⟨p', y, e', h'⟩ := (conv z').mp hz'
    exact ⟨p, x, p', y, h.1, h'.1, by rw [← e, ← e']; exact hne, h, h'⟩
end
/-- rows of one length by their first difference -/
theorem rNm_d : ∀ {x y : List Nat} {k : Nat}, lR x → lR y → x.length = y.length → k < x.length → x.take k = y.take k → x.getD k 0 < y.getD k 0 → rNm x < rNm y := by
  intro x y k hx hy hl hk ht hlt
  have ex : x = x.take k ++ x.getD k 0 :: x.drop (k + 1) := by
    have h1 : x.getD k 0 = x[k] := by simp [hk]
    rw [h1, List.getElem_cons_drop, List.take_append_drop]
  have ey : y = y.take k ++ y.getD k 0 :: y.drop (k + 1) := by
    have h1 : y.getD k 0 = y[k] := by simp [show k < y.length by omega]
    rw [h1, List.getElem_cons_drop, List.take_append_drop]
  have bx := rNm_b (lR_t hx (k + 1)).2
  have ll : (x.drop (k + 1)).length = (y.drop (k + 1)).length := by rw [List.length_drop, List.length_drop, hl]
  rw [ex, ey, ← ht, rNm_app, rNm_app, rNm_c, rNm_c, List.length_cons, List.length_cons, ← ll]
  have h2 : (x.getD k 0 + 1) * 32 ^ (x.drop (k + 1)).length ≤ y.getD k 0 * 32 ^ (x.drop (k + 1)).length := Nat.mul_le_mul_right _ hlt
  rw [Nat.add_mul, Nat.one_mul] at h2
  omega
