/-- a sum that stays at a million -/
def cpM (a : Nat) : Nat := if 1000000 < a then 1000000 else a
def acS (f : Nat → Nat) : Nat → Nat
  | 0 => 0
  | p + 1 => cpM (acS f p + f p)
theorem acS_b (f : Nat → Nat) : ∀ p, acS f p ≤ 1000000 := by
  intro p
  induction p with
  | zero => exact Nat.zero_le _
  | succ p ih => unfold acS cpM; split <;> omega
theorem acS_0 {f : Nat → Nat} {p : Nat} (h : f p = 0) : acS f (p + 1) = acS f p := by
  have := acS_b f p
  show cpM (acS f p + f p) = _
  rw [h, Nat.add_zero]
  exact if_neg (by omega)
theorem acS_z {f : Nat → Nat} {p : Nat} : ∀ t, (∀ i, p ≤ i → i < p + t → f i = 0) → acS f (p + t) = acS f p := by
  intro t
  induction t with
  | zero => intro _; rfl
  | succ t ih => intro h; rw [← Nat.add_assoc, acS_0 (h (p + t) (by omega) (by omega)), ih (fun i h1 h2 => h i h1 (by omega))]
theorem acS_c {f g : Nat → Nat} : ∀ p, (∀ i, i < p → f i = g i) → acS f p = acS g p := by
  intro p
  induction p with
  | zero => intro _; rfl
  | succ p ih => intro h; show cpM _ = cpM _; rw [ih (fun i hi => h i (by omega)), h p (by omega)]
theorem acS_pos {f : Nat → Nat} : ∀ p, 0 < acS f p → ∃ i, i < p ∧ 0 < f i := by
  intro p
  induction p with
  | zero => intro h; exact absurd h (Nat.lt_irrefl 0)
  | succ p ih =>
    intro h
    by_cases e : 0 < f p
    · exact ⟨p, by omega, e⟩
    · rw [acS_0 (by omega)] at h
      obtain ⟨i, h1, h2⟩ := ih h
      exact ⟨i, by omega, h2⟩
theorem acS_m {f : Nat → Nat} {p : Nat} : ∀ t, acS f p ≤ acS f (p + t) := by
  intro t
  induction t with
  | zero => exact Nat.le_refl _
  | succ t ih =>
    have h1 := acS_b f p
    show _ ≤ cpM (acS f (p + t) + f (p + t))
    unfold cpM
    split <;> omega
theorem acS_ge {f : Nat → Nat} {p i : Nat} (hi : i < p) : cpM (f i) ≤ acS f p := by
  have h1 := acS_m (f := f) (p := i + 1) (p - (i + 1))
  rw [show i + 1 + (p - (i + 1)) = p by omega] at h1
  have h2 : acS f (i + 1) = cpM (acS f i + f i) := rfl
  rw [h2] at h1
  have : cpM (f i) ≤ cpM (acS f i + f i) := by unfold cpM; split <;> split <;> omega
  omega
theorem cpI {a : Nat} (h : a ≤ 3000000) : (if (1000000 : Int32) < nI a then (1000000 : Int32) else nI a) = nI (cpM a) := by
  unfold cpM
  by_cases e : 1000000 < a
  · rw [if_pos e, if_pos (by rw [Int32.lt_iff_toInt_lt, nI_toInt (by omega), nT1000000]; omega)]; rfl
  · rw [if_neg e, if_neg (by rw [Int32.lt_iff_toInt_lt, nI_toInt (by omega), nT1000000]; omega)]
section
variable (A : Nat → Nat → Int32) (r q : Nat) (jn : Int32) (g : Nat → Nat) (n : Nat)
/-- ways that go on by part p from a place and a class -/
noncomputable def wsC (X : Nat → Nat) (at' k p : Nat) : Nat := @ite _ (ptF A r q jn k p = true ∧ ptS A g n p at') (Classical.propDecidable _) (X (4 * (at' + ptN A p) + ptC A p)) 0
/-- by which p stands, whatever was before -/
noncomputable def wsP (X : Nat → Nat) (at' p : Nat) : Nat := @ite _ (ptT r q p = true ∧ ptS A g n p at') (Classical.propDecidable _) (X (4 * (at' + ptN A p) + ptC A p)) 0
/-- a table of ways from place lo on -/
def IsW (lo : Nat) (X : Nat → Nat) : Prop := (∀ k, k < 4 → X (4 * n + k) = 1) ∧ ∀ at', lo ≤ at' → at' < n → ∀ k, k < 4 → X (4 * at' + k) = acS (wsC A r q jn g n X at' k) 24
end
section
variable {A I : Nat → Nat → Int32} {r q : Nat} {jn : Int32} {g : Nat → Nat} {n : Nat} {X Y : Nat → Nat} {at' k p lo : Nat}
theorem ws_T (h1 : ptF A r q jn k p = true) (h2 : ptS A g n p at') : wsC A r q jn g n X at' k p = X (4 * (at' + ptN A p) + ptC A p) := if_pos ⟨h1, h2⟩
theorem ws_F (h : ¬ (ptF A r q jn k p = true ∧ ptS A g n p at')) : wsC A r q jn g n X at' k p = 0 := if_neg h
theorem wp_T (h1 : ptT r q p = true) (h2 : ptS A g n p at') : wsP A r q g n X at' p = X (4 * (at' + ptN A p) + ptC A p) := if_pos ⟨h1, h2⟩
theorem wp_F (h : ¬ (ptT r q p = true ∧ ptS A g n p at')) : wsP A r q g n X at' p = 0 := if_neg h
theorem pF_T (h : ptF A r q jn k p = true) : p < 24 ∧ ptT r q p = true := by
  unfold ptF at h
  rw [Bool.and_eq_true, Bool.and_eq_true] at h
  exact ⟨of_decide_eq_true h.1.1, h.1.2⟩
theorem ws_P : wsC A r q jn g n X at' k p = if ptF A r q jn k p = true then wsP A r q g n X at' p else 0 := by
  by_cases h1 : ptF A r q jn k p = true
  · rw [if_pos h1]
    by_cases h2 : ptS A g n p at'
    · rw [ws_T h1 h2, wp_T (pF_T h1).2 h2]
    · rw [ws_F (fun z => h2 z.2), wp_F (fun z => h2 z.2)]
  · rw [if_neg h1, ws_F (fun z => h1 z.1)]
theorem w_b (hW : IsW A r q jn g n lo X) : ∀ a, lo ≤ a → a ≤ n → ∀ k, k < 4 → X (4 * a + k) ≤ 1000000 := by
  intro a h1 h2 k hk
  rcases Nat.lt_or_ge a n with h | h
  · rw [hW.2 a h1 h k hk]; exact acS_b _ _
  · rw [show a = n by omega, hW.1 k hk]; omega
theorem wp_b (h : IWo A I r q) (hW : IsW A r q jn g n lo X) (hp : p < 24) (ha : lo ≤ at' + 1) : wsP A r q g n X at' p ≤ 1000000 := by
  by_cases e : ptT r q p = true ∧ ptS A g n p at'
  · rw [wp_T e.1 e.2]
    have P := pt_K h hp e.1
    have := P.n1
    exact w_b hW _ (by omega) e.2.1 _ P.c4
  · rw [wp_F e]; omega
theorem w_u (h : IWo A I r q) (hX : IsW A r q jn g n lo X) (hY : IsW A r q jn g n lo Y) : ∀ t a, a + t = n → lo ≤ a → ∀ k, k < 4 → X (4 * a + k) = Y (4 * a + k) := by
  intro t
  induction t using Nat.strongRecOn with
  | _ t ih =>
    intro a ha hl k hk
    rcases Nat.lt_or_ge a n with h1 | h1
    · rw [hX.2 a hl h1 k hk, hY.2 a hl h1 k hk]
      refine acS_c 24 fun p hp => ?_
      by_cases e : ptF A r q jn k p = true ∧ ptS A g n p a
      · rw [ws_T e.1 e.2, ws_T e.1 e.2]
        have P := pt_K h hp (pF_T e.1).2
        have n1 := P.n1
        have := e.2.1
        exact ih (n - (a + ptN A p)) (by omega) (a + ptN A p) (by omega) (by omega) _ P.c4
      · rw [ws_F e, ws_F e]
    · rw [show a = n by omega, hX.1 k hk, hY.1 k hk]
theorem w_u2 (h : IWo A I r q) (hX : IsW A r q jn g n lo X) (hY : IsW A r q jn g n lo Y) {a : Nat} (hl : lo ≤ a) (ha : a ≤ n) (hk : k < 4) : X (4 * a + k) = Y (4 * a + k) := w_u h hX hY (n - a) a (by omega) hl k hk
theorem wp_u (h : IWo A I r q) (hX : IsW A r q jn g n lo X) (hY : IsW A r q jn g n lo Y) (hp : p < 24) (ha : lo ≤ at' + 1) : wsP A r q g n X at' p = wsP A r q g n Y at' p := by
  by_cases e : ptT r q p = true ∧ ptS A g n p at'
  · rw [wp_T e.1 e.2, wp_T e.1 e.2]
    have P := pt_K h hp e.1
    have := P.n1
    exact w_u2 h hX hY (by omega) e.2.1 P.c4
  · rw [wp_F e, wp_F e]
/-- a table goes on to the place before -/
theorem w_s (h : IWo A I r q) (hX : IsW A r q jn g n (at' + 1) X) (he : ∀ a k, at' < a → a ≤ n → k < 4 → Y (4 * a + k) = X (4 * a + k)) (hn : ∀ k, k < 4 → Y (4 * at' + k) = acS (wsC A r q jn g n X at' k) 24) (ha : at' < n) : IsW A r q jn g n at' Y := by
  have key : ∀ a k, at' ≤ a → a < n → acS (wsC A r q jn g n X a k) 24 = acS (wsC A r q jn g n Y a k) 24 := by
    intro a k h1 h2
    refine acS_c 24 fun p hp => ?_
    by_cases e : ptF A r q jn k p = true ∧ ptS A g n p a
    · rw [ws_T e.1 e.2, ws_T e.1 e.2]
      have P := pt_K h hp (pF_T e.1).2
      have n1 := P.n1
      have := e.2.1
      exact (he _ _ (by omega) (by omega) P.c4).symm
    · rw [ws_F e, ws_F e]
  refine ⟨fun k hk => by rw [he n k ha (Nat.le_refl _) hk]; exact hX.1 k hk, fun a h1 h2 k hk => ?_⟩
  rcases Nat.lt_or_ge at' a with h3 | h3
  · rw [he a k h3 (by omega) hk, hX.2 a h3 h2 k hk, key a k h1 h2]
  · have : a = at' := by omega
    subst this
    rw [hn k hk, key a k h1 h2]
end
