/-- the rows as the constructors leave them -/
def A0 : Nat → Nat → Int32 := u1 (u1 (u1 (u1 (u1 (u1 (u1 (fun _ _ => 0) 21 (fun _ => -1)) 28 (fun _ => -9)) 31 (fun _ => 65535)) 34 (fun i => nI (wPk i))) 53 (fun _ => -9)) 70 (fun _ => -9)) 117 (fun _ => -1)
def I0 : Nat → Nat → Int32 := u2 (u2 (u2 (Ic (fun _ _ => 0)) 64 58 2) 64 71 2) 64 72 2
theorem two_z {A : Nat → Nat → Int32} {jn : Int32} {row : List Nat} (h : TwS (ptF A 0 0 jn) (ptC A) (ptW A) row) : False := by
  obtain ⟨ps, qs, h1, h2, h3, -⟩ := h
  have no : ∀ k p, ptF A 0 0 jn k p = true → False := by
    intro k p h
    have : ptT 0 0 p = true := by
      unfold ptF at h
      simp only [Bool.and_eq_true] at h
      exact h.1.2
    unfold ptT at this
    by_cases e : p < 16
    · rw [if_pos e] at this; simp at this
    · rw [if_neg e] at this; simp at this; omega
  cases ps with
  | cons p ps => exact no _ _ h1.1
  | nil =>
    cases qs with
    | cons p ps => exact no _ _ h2.1
    | nil => exact h3 rfl
def J0 : Nat → Nat → Int64 := u2 (fun _ _ => 0) 15 5 (lkc 20)
theorem inv0 : Inv A0 I0 J0 0 0 0 := by
  refine ⟨⟨rfl, rfl, rfl, fun k _ => Or.inl rfl⟩, ⟨rfl, rfl⟩, ⟨by omega, by omega, rfl, rfl, rfl, rfl, fun x hx => absurd hx (by omega), fun x hx => absurd hx (by omega)⟩, ⟨rfl, fun x hx => absurd hx (by omega)⟩, ⟨fun x y hx => absurd hx (by omega), fun y z _ _ _ => bt_0 z⟩, ⟨fun x hx => absurd hx (by omega), fun _ _ _ _ _ => rfl⟩, ⟨rfl, rfl, fun _ _ => Or.inl rfl, 0, fun _ => 0, fun _ => 0, by omega, rfl, rfl, fun x hx => absurd hx (by omega)⟩, ?_, ?_, ?_, ?_, ?_, ?_, ?_⟩
  · refine ⟨0, fun _ => 0, fun _ => 0, ⟨by omega, rfl, rfl, fun x hx => absurd hx (by omega), fun x _ hx => absurd hx (by omega), rfl, rfl, rfl, rfl, rfl⟩, fun xy _ => ⟨rfl, bt_0 xy⟩⟩
  · refine ⟨fun _ _ => by show (0 : Int32) = 16 * 0 + 0; decide, fun _ _ _ _ => by show (65535 : Int32) = tkF 0 0 16; decide, fun _ _ => rfl, 0, fun _ => 0, fun _ => 0, fun _ => 0, fun _ => 0, ⟨by omega, rfl, rfl, fun x hx => absurd hx (by omega), fun x _ hx => absurd hx (by omega)⟩⟩
  · refine ⟨rfl, rfl, by omega, rfl, ⟨fun _ => 0, ⟨by omega, rfl, fun x hx => absurd hx (by omega)⟩⟩, rfl, rfl, fun _ _ _ _ _ => ⟨rfl, rfl⟩, ⟨0, by omega, rfl, rfl⟩, rfl, rfl, rfl, rfl⟩
  · refine ⟨⟨0, by omega, rfl, rfl, fun x hx => absurd hx (by omega)⟩, rfl, rfl, rfl, rfl, rfl, fun _ _ _ _ => ⟨0, by omega, rfl⟩, fun _ _ _ _ => rfl⟩
  · refine ⟨rfl, 0, 2, 2, by omega, by omega, by omega, by omega, by omega, rfl, rfl, rfl, rfl, rfl, rfl, fun x hx => absurd hx (by omega)⟩
  · refine ⟨rfl, rfl, fun _ _ k _ _ => bt_0 k, fun a b _ _ => (bt_0 b).trans (bt_0 a).symm, 0, rfl, ?_⟩
    refine smF_z 10 (fun b _ => ?_)
    exact (ctF_c 16 (fun j _ => bt_0 j)).trans (ctF_0 16)
  · exact ⟨⟨0, 0, 14987979559889010688, by omega, by omega, rfl, rfl, Or.inl ⟨rfl, lk20⟩, fun row h => (two_z h).elim, Or.inl rfl⟩, Or.inl rfl⟩
