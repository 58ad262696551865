/-- the sheets -/
def gS (A : Nat → Nat → Int32) : Prop := A 19 = A 119 ∧ A 20 = A 118 ∧ A 21 = A 117 ∧ ∀ k, k < 4 → A 21 k = -1 ∨ ∃ m, m ≤ 60 ∧ A 21 k = nI m
/-- fault and trace -/
def gF (I : Nat → Nat → Int32) : Prop := I 1 11 = I 64 0 ∧ I 1 12 = I 64 80
/-- kinds -/
def gK (A : Nat → Nat → Int32) (r : Nat) : Prop := A 3 = A 65 ∧ ∀ j, j < r → ∃ m, m ≤ 2 ∧ A 3 j = nI m
/-- roots that are near -/
def gN (A : Nat → Nat → Int32) (r : Nat) : Prop := (∀ x y, x < r → y < r → bt (A 8 x) y = decide (lvR A x y = 1)) ∧ ∀ y z, y < 16 → z < 32 → (r ≤ y ∨ r ≤ z) → bt (A 8 y) z = false
/-- words of tongues -/
def gA (A : Nat → Nat → Int32) (r : Nat) : Prop := (∀ x, x < r → IAb A x) ∧ ∀ t x, t < 4 → r ≤ x → x < 16 → A 96 (16 * t + x) = 0
/-- doubles -/
def gD (A I : Nat → Nat → Int32) (r : Nat) : Prop := A 52 = A 69 ∧ A 53 = A 70 ∧ (∀ j, j < 16 → A 53 j = -9 ∨ ∃ k, k < 8 ∧ A 53 j = nI k) ∧ ∃ (m : Nat) (px py : Nat → Nat), m ≤ 8 ∧ I 51 4 = nI m ∧ I 64 66 = nI m ∧ ∀ k, k < m → px k < r ∧ py k < r ∧ A 112 k = nI (px k) ∧ A 113 k = nI (py k) ∧ A 54 (2 * k) = nI (px k) ∧ A 54 (2 * k + 1) = nI (py k)
/-- rules and the stand -/
def gRu (A I : Nat → Nat → Int32) : Prop := ∃ u cl mr, IRu A I u cl mr ∧ ISt A I u cl mr
/-- meanings -/
def gM (A I : Nat → Nat → Int32) : Prop := (∀ q, q < 64 → A 30 q = 16 * A 88 q + A 89 q) ∧ IMe A ∧ (∀ N, N < 969 → A 34 N = nI (wPk N)) ∧ ∃ s sn so sx sy, ISe A I s sn so sx sy
/-- persons and journals -/
def gP (A I : Nat → Nat → Int32) (n : Nat) : Prop := I 38 6 = nI n ∧ I 64 42 = nI n ∧ n ≤ 12 ∧ A 39 = A 95 ∧ (∃ tt, IPe A I n tt) ∧ A 40 = A 98 ∧ A 41 = A 99 ∧ (∀ p x, p < 12 → x < 16 → bt (A 40 p) x = true → A 41 (16 * p + x) = 0 ∧ A 42 (16 * p + x) = A 100 (16 * p + x)) ∧ (∃ j, j ≤ 6 ∧ I 38 7 = nI j ∧ I 64 55 = nI j) ∧ A 43 = A 104 ∧ A 44 = A 105 ∧ I 38 8 = I 64 58 ∧ I 38 9 = I 64 54
/-- bodies and letters -/
def gB (A I : Nat → Nat → Int32) : Prop := (∃ b, b ≤ 4 ∧ I 45 5 = nI b ∧ I 64 60 = nI b ∧ ∀ i, i < b → ∃ m, m < 4096 ∧ A 46 i = nI m) ∧ A 46 = A 107 ∧ A 47 = A 108 ∧ A 48 = A 109 ∧ A 49 = A 110 ∧ A 50 = A 111 ∧ (∀ p q, p < 12 → q < 12 → ∃ k, k ≤ 99 ∧ A 111 (12 * p + q) = nI k) ∧ ∀ p q, p < 12 → q < 12 → A 111 (12 * p + q) = A 111 (12 * q + p)
/-- the congress -/
def gC (A I : Nat → Nat → Int32) : Prop := A 57 = A 114 ∧ ∃ s tn rn, s ≤ 6 ∧ 1 ≤ tn ∧ tn ≤ 3 ∧ 1 ≤ rn ∧ rn ≤ 4 ∧ I 56 5 = nI s ∧ I 64 69 = nI s ∧ I 56 6 = nI tn ∧ I 64 71 = nI tn ∧ I 56 7 = nI rn ∧ I 64 72 = nI rn ∧ ∀ i, i < s → ∀ k, 12 ≤ k → k < 32 → bt (A 57 i) k = false
/-- posts -/
def gO (A I : Nat → Nat → Int32) : Prop := A 63 = A 115 ∧ I 62 1 = I 64 74 ∧ (∀ b, b < 10 → ∀ k, 10 ≤ k → k < 32 → bt (A 63 b) k = false) ∧ (∀ a b, a < 10 → b < 10 → bt (A 63 a) b = bt (A 63 b) a) ∧ ∃ k, I 62 2 = nI k ∧ smF (fun b => ctF (fun j => bt (A 63 b) j) 16) 10 = 2 * k
/-- the least word that is two -/
def gT (A I : Nat → Nat → Int32) (J : Nat → Nat → Int64) (r q : Nat) : Prop := (∃ r0 q0 S, r0 ≤ r ∧ q0 ≤ q ∧ I 15 6 = nI r0 ∧ I 15 7 = nI q0 ∧ TsO J S ∧ MinS A r0 q0 (I 15 3) S) ∧ (I 64 30 = 0 ∨ (I 64 30 = 1 ∧ ∃ S, RmS A I S ∧ MinS A r q (I 22 9) S))
/-- what holds between calls -/
def Inv (A I : Nat → Nat → Int32) (J : Nat → Nat → Int64) (r q n : Nat) : Prop := gS A ∧ gF I ∧ IWo A I r q ∧ gK A r ∧ gN A r ∧ gA A r ∧ gD A I r ∧ gRu A I ∧ gM A I ∧ gP A I n ∧ gB A I ∧ gC A I ∧ gO A I ∧ gT A I J r q
/-- worlds that are one as far as arrays go -/
def InvW : St Prop := fun A _ I J => ∃ A' : Nat → Nat → Int32, (∀ k, 1 ≤ k → k ≤ 120 → ∀ i, i < ln k → A k i = A' k i) ∧ ∃ r q n, Inv A' I J r q n
section
variable {A B I I' : Nat → Nat → Int32} {L : Nat → Nat → Int64} {J : Nat → Nat → Int64} {r q n : Nat}
theorem mkI (h1 : gS A) (h2 : gF I) (h3 : IWo A I r q) (h4 : gK A r) (h5 : gN A r) (h6 : gA A r) (h7 : gD A I r) (h8 : gRu A I) (h9 : gM A I) (h10 : gP A I n) (h11 : gB A I) (h12 : gC A I) (h13 : gO A I) (h14 : gT A I J r q) : InvW A L I J :=
  ⟨A, fun _ _ _ _ _ => rfl, r, q, n, h1, h2, h3, h4, h5, h6, h7, h8, h9, h10, h11, h12, h13, h14⟩
theorem MinS_s (h : sA A B) {jn : Int32} {S : Nat} (hm : MinS A r q jn S) : MinS B r q jn S := by
  obtain ⟨e1, e2, e3⟩ := pt_T (A := A) (C := B) (r := r) (q := q) (jn := jn) (fun k hk _ => h k hk)
  unfold MinS at hm ⊢
  rw [e1, e2, e3]
  exact hm
/-- scratch cells don't count -/
theorem Inv_s (h : Inv A I J r q n) (hA : sA A B) (hI : sI I I') : InvW B L I' J := by
  obtain ⟨h1, h2, h3, h4, h5, h6, h7, h8, h9, h10, h11, h12, h13, h14⟩ := h
  refine mkI (r := r) (q := q) (n := n) ?_ ?_ ?_ ?_ ?_ ?_ ?_ ?_ ?_ ?_ ?_ ?_ ?_ ?_
  · unfold gS; rw [hA 19 rfl, hA 119 rfl, hA 20 rfl, hA 118 rfl, hA 21 rfl, hA 117 rfl]; exact h1
  · unfold gF; rw [hI 1 11 rfl, hI 64 0 rfl, hI 1 12 rfl, hI 64 80 rfl]; exact h2
  · exact IWo_T (fun k hk _ => hA k hk) (fun k j hk _ => hI k j hk) h3
  · unfold gK; rw [hA 3 rfl, hA 65 rfl]; exact h4
  · unfold gN
    rw [hA 8 rfl]
    exact ⟨fun x y hx hy => by rw [lvR_s hA]; exact h5.1 x y hx hy, h5.2⟩
  · unfold gA
    rw [hA 96 rfl]
    refine ⟨fun x hx => ?_, h6.2⟩
    intro t ht
    have := h6.1 x hx t ht
    rw [hA 97 rfl, hA 96 rfl, hA 9 rfl, hA 10 rfl, lvT_s hA]
    exact this
  · unfold gD; rw [hA 52 rfl, hA 69 rfl, hA 53 rfl, hA 70 rfl, hA 112 rfl, hA 113 rfl, hA 54 rfl, hI 51 4 rfl, hI 64 66 rfl]; exact h7
  · obtain ⟨u, cl, mr, a, b⟩ := h8
    exact ⟨u, cl, mr, IRu_f a hA hI, ISt_T (fun k hk _ => hA k hk) (fun k j hk _ => hI k j hk) b⟩
  · obtain ⟨a1, a2, a3, s, sn, so, sx, sy, a4⟩ := h9
    refine ⟨?_, ?_, ?_, s, sn, so, sx, sy, ?_⟩
    · rw [hA 30 rfl, hA 88 rfl, hA 89 rfl]; exact a1
    · unfold IMe; rw [hA 31 rfl, hA 88 rfl, hA 89 rfl]; exact a2
    · rw [hA 34 rfl]; exact a3
    · unfold ISe; rw [hI 29 8 rfl, hI 64 35 rfl, hA 33 rfl, hA 90 rfl, hA 32 rfl, hA 91 rfl, hA 92 rfl, hA 93 rfl]; exact a4
  · unfold gP IPe
    rw [hI 38 6 rfl, hI 64 42 rfl, hA 39 rfl, hA 95 rfl, hA 40 rfl, hA 98 rfl, hA 41 rfl, hA 99 rfl, hA 42 rfl, hA 100 rfl, hI 38 7 rfl, hI 64 55 rfl, hA 43 rfl, hA 104 rfl, hA 44 rfl, hA 105 rfl, hI 38 8 rfl, hI 64 58 rfl, hI 38 9 rfl, hI 64 54 rfl]
    exact h10
  · unfold gB
    rw [hI 45 5 rfl, hI 64 60 rfl, hA 46 rfl, hA 107 rfl, hA 47 rfl, hA 108 rfl, hA 48 rfl, hA 109 rfl, hA 49 rfl, hA 110 rfl, hA 50 rfl, hA 111 rfl]
    exact h11
  · unfold gC
    rw [hA 57 rfl, hA 114 rfl, hI 56 5 rfl, hI 64 69 rfl, hI 56 6 rfl, hI 64 71 rfl, hI 56 7 rfl, hI 64 72 rfl]
    exact h12
  · unfold gO
    rw [hA 63 rfl, hA 115 rfl, hI 62 1 rfl, hI 64 74 rfl, hI 62 2 rfl]
    exact h13
  · obtain ⟨⟨r0, q0, S, a1, a2, a3, a4, a5, a6⟩, a7⟩ := h14
    refine ⟨⟨r0, q0, S, a1, a2, by rw [hI 15 6 rfl]; exact a3, by rw [hI 15 7 rfl]; exact a4, a5, by rw [hI 15 3 rfl]; exact MinS_s hA a6⟩, ?_⟩
    · rw [hI 64 30 rfl, hI 22 9 rfl]
      rcases a7 with z | ⟨z1, S, z2, z3⟩
      · exact Or.inl z
      · exact Or.inr ⟨z1, S, RmS_f z2 (hA 87 rfl) (hI 64 31 rfl), MinS_s hA z3⟩
/-- a call that sets the fault alone -/
theorem Inv_f (h : Inv A I J r q n) (t : Int32) : Inv A (u2 (u2 I 1 11 t) 64 0 t) J r q n := by
  obtain ⟨h1, h2, h3, h4, h5, h6, h7, h8, h9, h10, h11, h12, h13, h14⟩ := h
  exact ⟨h1, ⟨rfl, h2.2⟩, h3, h4, h5, h6, h7, h8, h9, h10, h11, h12, h13, h14⟩
theorem Inv_i (h : Inv A I J r q n) : InvW A L I J := ⟨A, fun _ _ _ _ _ => rfl, r, q, n, h⟩
end
