/-- a text as far as it is read: state, clauses made, the clause under way, the clauses -/
abbrev RdT : Type := Nat × Nat × Nat × (Nat → Nat)
def rdC (s : RdT) (v : Int32) : Nat := if rdS s.1 v = 2 then (if rdS s.1 v = 1 then 16 else if s.1 = 0 then 0 else s.2.2.1) + 4 * kN v else if rdS s.1 v = 1 then 16 else if s.1 = 0 then 0 else s.2.2.1
def rdG (s : RdT) (v : Int32) : RdT := if rdS s.1 v = 4 then (4, s.2.1 + 1, rdC s v, u1 s.2.2.2 s.2.1 (rdC s v + kN v)) else (rdS s.1 v, s.2.1, rdC s v, s.2.2.2)
def rdR (S : Nat → Int32) (F : Nat) : Nat → Option RdT
  | 0 => some (0, 0, 0, fun _ => 0)
  | b + 1 => match rdR S F b with
    | none => none
    | some s => if s.2.1 = 4 ∨ rdS s.1 (S (F + b)) = 9 then none else some (rdG s (S (F + b)))
/-- what holds of a text that is read -/
def rdI (s : RdT) : Prop := s.1 ≤ 4 ∧ s.2.1 ≤ 4 ∧ (s.1 = 1 → s.2.2.1 = 16) ∧ (s.1 = 2 ∨ s.1 = 3 → s.2.2.1 % 4 = 0 ∧ s.2.2.1 ≤ 28) ∧ s.2.2.1 ≤ 28 ∧ (s.1 = 4 → 1 ≤ s.2.1) ∧ (s.2.1 = 4 → s.1 = 4) ∧ ∀ j, j < s.2.1 → s.2.2.2 j < 32
theorem rdS_c (st : Nat) (v : Int32) (h : st ≤ 4) : (st = 0 ∧ v = 33 ∧ rdS st v = 1) ∨ (st ≤ 1 ∧ ¬ (st = 0 ∧ v = 33) ∧ kN v < 4 ∧ rdS st v = 2) ∨ (st = 2 ∧ v = 43 ∧ rdS st v = 3) ∨ (st = 3 ∧ kN v < 4 ∧ rdS st v = 4) ∨ (st = 4 ∧ v = 44 ∧ rdS st v = 0) ∨ rdS st v = 9 := by
  rcases (show st = 0 ∨ st = 1 ∨ st = 2 ∨ st = 3 ∨ st = 4 by omega) with rfl | rfl | rfl | rfl | rfl
  · rw [show rdS 0 v = if v = 33 then 1 else if kN v = 9 then 9 else 2 from rfl]
    by_cases h33 : v = 33
    · simp [h33]
    · rcases kN_b v with hk | hk
      · simp [h33, hk, show ¬ kN v = 9 by omega]
      · simp [h33, hk]
  · rw [show rdS 1 v = if kN v = 9 then 9 else 2 from rfl]
    rcases kN_b v with hk | hk
    · simp [hk, show ¬ kN v = 9 by omega]
    · simp [hk]
  · rw [show rdS 2 v = if v = 43 then 3 else 9 from rfl]
    by_cases h43 : v = 43
    · simp [h43]
    · simp [h43]
  · rw [show rdS 3 v = if kN v = 9 then 9 else 4 from rfl]
    rcases kN_b v with hk | hk
    · simp [hk, show ¬ kN v = 9 by omega]
    · simp [hk]
  · rw [show rdS 4 v = if v = 44 then 0 else 9 from rfl]
    by_cases h44 : v = 44
    · simp [h44]
    · simp [h44]
theorem rdG_1 {s : RdT} {v : Int32} (h : s.1 = 0 ∧ v = 33 ∧ rdS s.1 v = 1) : rdG s v = (1, s.2.1, 16, s.2.2.2) := by
  unfold rdG rdC
  rw [h.2.2]
  simp
theorem rdG_2 {s : RdT} {v : Int32} (h : rdS s.1 v = 2) : rdG s v = (2, s.2.1, (if s.1 = 0 then 0 else s.2.2.1) + 4 * kN v, s.2.2.2) := by
  unfold rdG rdC
  rw [h]
  simp
theorem rdG_3 {s : RdT} {v : Int32} (h : s.1 = 2 ∧ rdS s.1 v = 3) : rdG s v = (3, s.2.1, s.2.2.1, s.2.2.2) := by
  unfold rdG rdC
  rw [h.2]
  simp [h.1]
theorem rdG_4 {s : RdT} {v : Int32} (h : s.1 = 3 ∧ rdS s.1 v = 4) : rdG s v = (4, s.2.1 + 1, s.2.2.1, u1 s.2.2.2 s.2.1 (s.2.2.1 + kN v)) := by
  unfold rdG rdC
  rw [h.2]
  simp [h.1]
theorem rdG_0 {s : RdT} {v : Int32} (h : s.1 = 4 ∧ rdS s.1 v = 0) : rdG s v = (0, s.2.1, s.2.2.1, s.2.2.2) := by
  unfold rdG rdC
  rw [h.2]
  simp [h.1]
theorem rdG_I {s : RdT} {v : Int32} (h : rdI s) (hm : ¬ s.2.1 = 4) (hv : ¬ rdS s.1 v = 9) : rdI (rdG s v) := by
  obtain ⟨h1, h2, h3, h4, h5, h6, h7, h8⟩ := h
  rcases rdS_c s.1 v h1 with c | c | c | c | c | c
  · rw [rdG_1 c]
    exact ⟨by simp, h2, fun _ => rfl, fun z => by simp at z, by simp, fun z => by simp at z, fun z => absurd z hm, h8⟩
  · rw [rdG_2 c.2.2.2]
    have hk := c.2.2.1
    have hc : (if s.1 = 0 then 0 else s.2.2.1) = 0 ∨ (if s.1 = 0 then 0 else s.2.2.1) = 16 := by
      by_cases e : s.1 = 0
      · rw [if_pos e]; exact Or.inl rfl
      · rw [if_neg e]; exact Or.inr (h3 (by omega))
    refine ⟨by simp, h2, fun z => by simp at z, fun _ => ?_, ?_, fun z => by simp at z, fun z => absurd z hm, h8⟩
    · dsimp only; omega
    · dsimp only; omega
  · rw [rdG_3 ⟨c.1, c.2.2⟩]
    exact ⟨by simp, h2, fun z => by simp at z, fun _ => h4 (Or.inl c.1), h5, fun z => by simp at z, fun z => absurd z hm, h8⟩
  · rw [rdG_4 ⟨c.1, c.2.2⟩]
    have hk := c.2.1
    have h9 := h4 (Or.inr c.1)
    refine ⟨by simp, by dsimp only; omega, fun z => by simp at z, fun z => by simp at z, h5, fun _ => by dsimp only; omega, fun _ => rfl, fun j hj => ?_⟩
    dsimp only at hj ⊢
    by_cases e : j = s.2.1
    · rw [e, u1_eq]; omega
    · rw [u1_ne e]; exact h8 j (by omega)
  · rw [rdG_0 ⟨c.1, c.2.2⟩]
    exact ⟨by simp, h2, fun z => by simp at z, fun z => by simp at z, h5, fun z => by simp at z, fun z => absurd z hm, h8⟩
  · exact absurd c hv
