def anyB (f : Nat → Bool) : Nat → Bool
  | 0 => false
  | n + 1 => anyB f n || f n
theorem anyB_F {f : Nat → Bool} : ∀ n, anyB f n = false ↔ ∀ j, j < n → f j = false := by
  intro n
  induction n with
  | zero => simp [anyB]
  | succ n ih =>
    unfold anyB
    rw [Bool.or_eq_false_iff, ih]
    constructor
    · rintro ⟨h1, h2⟩ j hj
      rcases Nat.lt_or_ge j n with h | h
      · exact h1 j h
      · rw [show j = n by omega]; exact h2
    · intro h
      exact ⟨fun j hj => h j (by omega), h n (by omega)⟩
theorem anyB_c {f g : Nat → Bool} (n : Nat) (h : ∀ j, j < n → f j = g j) : anyB f n = anyB g n := by
  induction n with
  | zero => rfl
  | succ n ih => unfold anyB; rw [ih (fun j hj => h j (by omega)), h n (by omega)]
theorem ctF_c {f g : Nat → Bool} : ∀ n, (∀ j, j < n → f j = g j) → ctF f n = ctF g n := by
  intro n
  induction n with
  | zero => intro _; rfl
  | succ n ih => intro h; unfold ctF; rw [ih (fun j hj => h j (by omega)), h n (by omega)]
theorem ctF_all {f : Nat → Bool} : ∀ n, n ≤ ctF f n → ∀ j, j < n → f j = true := by
  intro n
  induction n with
  | zero => intro _ j hj; omega
  | succ n ih =>
    intro h j hj
    have h1 := ctF_le f n
    unfold ctF at h
    cases e : f n
    · rw [e] at h; simp at h; omega
    · rw [e] at h
      rcases Nat.lt_or_ge j n with h2 | h2
      · exact ih (by simp at h; omega) j h2
      · rw [show j = n by omega]; exact e
theorem ctF_mono {f g : Nat → Bool} : ∀ n, (∀ j, j < n → f j = true → g j = true) → ctF f n ≤ ctF g n := by
  intro n
  induction n with
  | zero => intro _; exact Nat.le_refl _
  | succ n ih =>
    intro h
    have h1 := ih (fun j hj => h j (by omega))
    have h2 := h n (by omega)
    unfold ctF
    cases e : f n
    · simp; omega
    · rw [h2 e]; simp; omega
theorem ctF_lt {f g : Nat → Bool} : ∀ n, (∀ j, j < n → f j = true → g j = true) → (∃ j, j < n ∧ f j = false ∧ g j = true) → ctF f n < ctF g n := by
  intro n
  induction n with
  | zero => rintro _ ⟨j, hj, _⟩; omega
  | succ n ih =>
    rintro h ⟨j, hj, h1, h2⟩
    have hm := ctF_mono (f := f) (g := g) n (fun j hj => h j (by omega))
    unfold ctF
    rcases Nat.lt_or_ge j n with h3 | h3
    · have := ih (fun j hj => h j (by omega)) ⟨j, h3, h1, h2⟩
      have h4 := h n (by omega)
      cases e : f n
      · simp; omega
      · rw [h4 e]; simp; omega
    · rw [show j = n by omega] at h1 h2
      rw [h1, h2]; simp; omega
/-- reached and at the edge, after n steps -/
def psS (g : Nat → Nat → Bool) (fb : Nat → Bool) (a : Nat) : Nat → (Nat → Bool) × (Nat → Bool)
  | 0 => (fun k => decide (k = a), fun k => decide (k = a))
  | n + 1 => (fun k => (psS g fb a n).1 k || (anyB (fun b => (psS g fb a n).2 b && g b k) 10 && !(psS g fb a n).1 k), fun k => (anyB (fun b => (psS g fb a n).2 b && g b k) 10 && !(psS g fb a n).1 k) && !fb k)
/-- how far, as far as is known after n rounds -/
def psD (g : Nat → Nat → Bool) (fb : Nat → Bool) (a : Nat) : Nat → Nat → Int32
  | 0, k => if k = a then 0 else -9
  | n + 1, k => if (psS g fb a n).1 k = true then psD g fb a n k else if (psS g fb a (n + 1)).1 k = true then nI (n + 1) else -9
section
variable {g : Nat → Nat → Bool} {fb : Nat → Bool} {a : Nat}
theorem ps_mono {n k : Nat} (h : (psS g fb a n).1 k = true) : (psS g fb a (n + 1)).1 k = true := by
  show ((psS g fb a n).1 k || _) = true
  rw [h, Bool.true_or]
theorem ps_D : ∀ n k, ((psS g fb a n).1 k = true → ∃ m, m ≤ n ∧ psD g fb a n k = nI m) ∧ ((psS g fb a n).1 k = false → psD g fb a n k = -9) := by
  intro n
  induction n with
  | zero =>
    intro k
    unfold psD psS
    by_cases e : k = a
    · simp [e]; exact nI_0.symm
    · simp [e]
  | succ n ih =>
    intro k
    unfold psD
    cases e : (psS g fb a n).1 k
    · rw [if_neg Bool.false_ne_true]
      cases e2 : (psS g fb a (n + 1)).1 k
      · rw [if_neg Bool.false_ne_true]; exact ⟨fun h => absurd h Bool.false_ne_true, fun _ => rfl⟩
      · rw [if_pos rfl]; exact ⟨fun _ => ⟨n + 1, by omega, rfl⟩, fun h => absurd h.symm Bool.false_ne_true⟩
    · rw [if_pos rfl, ps_mono e]
      obtain ⟨m, m1, m2⟩ := (ih k).1 e
      exact ⟨fun _ => ⟨m, by omega, m2⟩, fun h => absurd h.symm Bool.false_ne_true⟩
/-- who goes on in round n -/
theorem ps_go : ∀ n k, k < 10 → n ≤ 10 → ((psD g fb a n k).toInt = (n : Int) ∧ (k = a ∨ fb k = false) ↔ (psS g fb a n).2 k = true) := by
  have h0 : ∀ n, psD g fb a n a = 0 ∧ (psS g fb a n).1 a = true := by
    intro n
    induction n with
    | zero => unfold psD psS; simp
    | succ n ih =>
      refine ⟨?_, ps_mono ih.2⟩
      unfold psD
      rw [if_pos ih.2]; exact ih.1
  intro n k hk hn
  cases n with
  | zero =>
    unfold psD psS
    by_cases e : k = a
    · subst e; simp
    · simp [e]
  | succ n =>
    show _ ↔ ((anyB (fun b => (psS g fb a n).2 b && g b k) 10 && !(psS g fb a n).1 k) && !fb k) = true
    cases e : (psS g fb a n).1 k
    · have e1 : (psS g fb a (n + 1)).1 k = anyB (fun b => (psS g fb a n).2 b && g b k) 10 := by
        show ((psS g fb a n).1 k || (anyB (fun b => (psS g fb a n).2 b && g b k) 10 && !(psS g fb a n).1 k)) = _
        rw [e]; simp
      have ka : ¬ k = a := fun z => by rw [z, (h0 n).2] at e; exact absurd e.symm Bool.false_ne_true
      unfold psD
      rw [e, if_neg Bool.false_ne_true, e1]
      cases anyB (fun b => (psS g fb a n).2 b && g b k) 10
      · simp; intro h; omega
      · simp [ka]
        intro _
        rw [nI_toInt (by omega)]; omega
    · obtain ⟨m, m1, m2⟩ := (ps_D (g := g) (fb := fb) (a := a) n k).1 e
      unfold psD
      rw [e, if_pos rfl, m2, nI_toInt (by omega)]
      simp
      omega
theorem ps_pig : ∀ n, (∀ m, n ≤ m → ∀ k, k < 10 → (psS g fb a m).1 k = (psS g fb a n).1 k) ∨ (a < 10 → n + 1 ≤ ctF (psS g fb a n).1 10) := by
  intro n
  induction n with
  | zero =>
    right
    intro ha
    have : ctF (fun _ => false) 10 < ctF (psS g fb a 0).1 10 := ctF_lt 10 (fun j _ h => absurd h Bool.false_ne_true) ⟨a, ha, rfl, by unfold psS; simp⟩
    have h0 : ctF (fun _ => false) 10 = 0 := rfl
    omega
  | succ n ih =>
    rcases ih with h | h
    · left
      intro m hm k hk
      rw [h m (by omega) k hk, h (n + 1) (by omega) k hk]
    · by_cases hx : ∃ j, j < 10 ∧ (psS g fb a n).1 j = false ∧ (psS g fb a (n + 1)).1 j = true
      · right
        intro ha
        have := ctF_lt (f := (psS g fb a n).1) (g := (psS g fb a (n + 1)).1) 10 (fun j _ h => ps_mono h) hx
        have := h ha
        omega
      · left
        have he : ∀ k, k < 10 → (psS g fb a (n + 1)).2 k = false := by
          intro k hk
          cases e : (psS g fb a (n + 1)).2 k
          · rfl
          · exfalso
            have e' : ((anyB (fun b => (psS g fb a n).2 b && g b k) 10 && !(psS g fb a n).1 k) && !fb k) = true := e
            have e2 : (psS g fb a n).1 k = false := by cases z : (psS g fb a n).1 k <;> simp_all
            refine hx ⟨k, hk, e2, ?_⟩
            show ((psS g fb a n).1 k || (anyB (fun b => (psS g fb a n).2 b && g b k) 10 && !(psS g fb a n).1 k)) = true
            simp_all
        have hs : ∀ t, (∀ k, k < 10 → (psS g fb a (n + 1 + t)).1 k = (psS g fb a (n + 1)).1 k) ∧ ∀ k, k < 10 → (psS g fb a (n + 1 + t)).2 k = false := by
          intro t
          induction t with
          | zero => exact ⟨fun k _ => rfl, he⟩
          | succ t iht =>
            have z : ∀ k, anyB (fun b => (psS g fb a (n + 1 + t)).2 b && g b k) 10 = false := fun k => (anyB_F 10).mpr (fun j hj => by rw [iht.2 j hj, Bool.false_and])
            refine ⟨fun k hk => ?_, fun k hk => ?_⟩
            · show ((psS g fb a (n + 1 + t)).1 k || (anyB (fun b => (psS g fb a (n + 1 + t)).2 b && g b k) 10 && !(psS g fb a (n + 1 + t)).1 k)) = _
              rw [z k, iht.1 k hk]; simp
            · show ((anyB (fun b => (psS g fb a (n + 1 + t)).2 b && g b k) 10 && !(psS g fb a (n + 1 + t)).1 k) && !fb k) = false
              rw [z k]; simp
        intro m hm k hk
        have := (hs (m - (n + 1))).1 k hk
        rw [show n + 1 + (m - (n + 1)) = m by omega] at this
        exact this
theorem ps_10 (ha : a < 10) {k : Nat} (hk : k < 10) : (psS g fb a 10).1 k = (psS g fb a 9).1 k := by
  rcases ps_pig (g := g) (fb := fb) (a := a) 9 with h | h
  · exact h 10 (by omega) k hk
  · have := ctF_all 10 (h ha) k hk
    rw [this]; exact ps_mono this
theorem ps_ls (k : Nat) : ∀ n s, (∀ m, m < s → (psS g fb a m).1 k = false) → lsF (fun m => (psS g fb a m).1 k) (n + 1) s = psD g fb a (s + n) k := by
  intro n
  induction n with
  | zero =>
    intro s hs
    show (if (psS g fb a s).1 k = true then nI s else -9) = _
    cases s with
    | zero => unfold psS psD; by_cases e : k = a <;> simp [e]; rfl
    | succ s =>
      unfold psD
      rw [hs s (by omega), if_neg Bool.false_ne_true]
  | succ n ih =>
    intro s hs
    show (if (psS g fb a s).1 k = true then nI s else lsF (fun m => (psS g fb a m).1 k) (n + 1) (s + 1)) = _
    cases e : (psS g fb a s).1 k
    · rw [if_neg Bool.false_ne_true, ih (s + 1) (fun m hm => by
        rcases Nat.lt_or_ge m s with h | h
        · exact hs m h
        · rw [show m = s by omega]; exact e)]
      congr 1
      omega
    · rw [if_pos rfl]
      have hd : ∀ t, psD g fb a (s + t) k = nI s ∧ (psS g fb a (s + t)).1 k = true := by
        intro t
        induction t with
        | zero =>
          refine ⟨?_, e⟩
          cases s with
          | zero => have : k = a := by unfold psS at e; exact of_decide_eq_true e
                    show psD g fb a 0 k = nI 0
                    unfold psD; rw [if_pos this]; rfl
          | succ s =>
            show psD g fb a (s + 1) k = _
            unfold psD
            rw [hs s (by omega), if_neg Bool.false_ne_true, e, if_pos rfl]
        | succ t iht =>
          refine ⟨?_, ps_mono iht.2⟩
          show psD g fb a (s + t + 1) k = _
          unfold psD
          rw [iht.2, if_pos rfl]; exact iht.1
      exact (hd (n + 1)).1.symm
/-- class and reference find the same -/
theorem ps_fin (ha : a < 10) {k : Nat} (hk : k < 10) : lsF (fun m => (psS g fb a m).1 k) 10 0 = psD g fb a 10 k := by
  rw [ps_ls k 9 0 (fun m hm => by omega)]
  show psD g fb a 9 k = psD g fb a 10 k
  have h10 := ps_10 (g := g) (fb := fb) ha hk
  have : psD g fb a 10 k = if (psS g fb a 9).1 k = true then psD g fb a 9 k else if (psS g fb a 10).1 k = true then nI 10 else -9 := rfl
  rw [this]
  cases e : (psS g fb a 9).1 k
  · rw [if_neg Bool.false_ne_true, h10, e, if_neg Bool.false_ne_true]
    exact (ps_D 9 k).2 e
  · rw [if_pos rfl]
end
