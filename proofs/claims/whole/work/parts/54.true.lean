def bI (b : Bool) : Int32 := bif b then 1 else 0
theorem bI_T : bI true = 1 := rfl
theorem bI_F : bI false = 0 := rfl
theorem tk_bt (h o : Int32) : ∀ n, n ≤ 16 → ∀ t, t < 32 → bt (tkF h o n) t = decide (t < n ∧ nI t &&& h = h ∧ nI t &&& o = 0) := by
  intro n
  induction n with
  | zero => intro _ t _; unfold tkF; rw [bt_0]; simp
  | succ n ih =>
    intro hn t ht
    have ih := ih (by omega) t ht
    unfold tkF
    by_cases c : nI n &&& h = h ∧ nI n &&& o = 0
    · rw [if_pos c, bt_or, ih, bt_sh (by omega) ht]
      by_cases e : t = n
      · subst e; simp [c]
      · have : (t < n + 1 ∧ nI t &&& h = h ∧ nI t &&& o = 0) ↔ (t < n ∧ nI t &&& h = h ∧ nI t &&& o = 0) := by constructor <;> (rintro ⟨h1, h2⟩; exact ⟨by omega, h2⟩)
        simp [e, this]
    · rw [if_neg c, ih]
      by_cases e : t = n
      · subst e; simp [c]
      · have : (t < n + 1 ∧ nI t &&& h = h ∧ nI t &&& o = 0) ↔ (t < n ∧ nI t &&& h = h ∧ nI t &&& o = 0) := by constructor <;> (rintro ⟨h1, h2⟩; exact ⟨by omega, h2⟩)
        simp [this]
/-- all that are x are y; some that is x is y: of the first b things -/
def alB (X Y : Int32) (th : Nat → Nat) : Nat → Bool
  | 0 => true
  | b + 1 => alB X Y th b && (!bt X (th b) || bt Y (th b))
def smB (X Y : Int32) (th : Nat → Nat) : Nat → Bool
  | 0 => false
  | b + 1 => smB X Y th b || (bt X (th b) && bt Y (th b))
def clB (s : Nat) (X Y : Int32) (th : Nat → Nat) (mn : Nat) : Bool := if s = 0 then alB X Y th mn else if s = 1 then smB X Y th mn else !smB X Y th mn
def soB (f : Nat → Bool) : Nat → Bool
  | 0 => true
  | b + 1 => soB f b && f b
def waB (W : Int32) (g : Nat → Int32) : Nat → Bool
  | 0 => true
  | b + 1 => waB W g b && !(decide (W &&& g b = 0))
def clW (W : Int32) (s : Nat) (X Y : Int32) : Bool := if s = 1 then !(decide (W &&& (X &&& Y) = 0)) else if s = 0 then decide (W &&& (X &&& (Y ^^^ (-1))) = 0) else decide (W &&& (X &&& Y) = 0)
theorem waB_c {W : Int32} {g g' : Nat → Int32} : ∀ n, (∀ j, j < n → g j = g' j) → waB W g n = waB W g' n := by
  intro n
  induction n with
  | zero => intro _; rfl
  | succ n ih => intro h; unfold waB; rw [ih (fun j hj => h j (by omega)), h n (by omega)]
theorem soB_c {f g : Nat → Bool} : ∀ n, (∀ j, j < n → f j = g j) → soB f n = soB g n := by
  intro n
  induction n with
  | zero => intro _; rfl
  | succ n ih => intro h; unfold soB; rw [ih (fun j hj => h j (by omega)), h n (by omega)]
theorem and_or0 (W a b : Int32) : decide (W &&& (a ||| b) = 0) = (decide (W &&& a = 0) && decide (W &&& b = 0)) := by
  have key : (W &&& (a ||| b) = 0) ↔ (W &&& a = 0 ∧ W &&& b = 0) := by
    constructor
    · intro h
      constructor
      · apply bt_z
        intro k hk
        have : bt (W &&& (a ||| b)) k = false := by rw [h, bt_0]
        rw [bt_and, bt_or] at this
        rw [bt_and]
        cases h1 : bt W k <;> cases h2 : bt a k <;> simp_all
      · apply bt_z
        intro k hk
        have : bt (W &&& (a ||| b)) k = false := by rw [h, bt_0]
        rw [bt_and, bt_or] at this
        rw [bt_and]
        cases h1 : bt W k <;> cases h2 : bt b k <;> simp_all
    · rintro ⟨h1, h2⟩
      apply bt_z
      intro k hk
      have e1 : bt (W &&& a) k = false := by rw [h1, bt_0]
      have e2 : bt (W &&& b) k = false := by rw [h2, bt_0]
      rw [bt_and] at e1 e2
      rw [bt_and, bt_or]
      cases h1 : bt W k <;> cases h2 : bt a k <;> cases h3 : bt b k <;> simp_all
  simp only [key, Bool.decide_and]
theorem bt_nI (n : Nat) {i : Nat} (hi : i < 32) : bt (nI n) i = n.testBit i := by
  unfold bt
  show (BitVec.ofNat 32 n).getLsbD i = _
  rw [BitVec.getLsbD_ofNat]
  simp [hi]
/-- a world has a thing of a set -/
theorem w_and {N : Nat} (hN : N < 969) {V : Int32} (hV : ∀ i, 16 ≤ i → i < 32 → bt V i = false) : (nI (wPk N) &&& V = 0) ↔ ∀ k, k < wMn N → bt V (wTh N k) = false := by
  have hm := (wMn_3 N hN).1
  constructor
  · intro h k hk
    have ht := (wTh_at N hN k (by omega)).1
    have : bt (nI (wPk N) &&& V) (wTh N k) = false := by rw [h, bt_0]
    rw [bt_and, bt_nI _ (by omega), wPk_bt N hN _ ht] at this
    rcases (show k = 0 ∨ k = 1 ∨ k = 2 by omega) with rfl | rfl | rfl <;> simp_all
  · intro h
    apply bt_z
    intro i hi
    rw [bt_and]
    rcases Nat.lt_or_ge i 16 with h16 | h16
    · rw [bt_nI _ hi, wPk_bt N hN i h16]
      by_cases e0 : 0 < wMn N ∧ wTh N 0 = i
      · rw [← e0.2, h 0 e0.1, Bool.and_false]
      · by_cases e1 : 1 < wMn N ∧ wTh N 1 = i
        · rw [← e1.2, h 1 e1.1, Bool.and_false]
        · by_cases e2 : 2 < wMn N ∧ wTh N 2 = i
          · rw [← e2.2, h 2 e2.1, Bool.and_false]
          · simp only [← Bool.decide_and, e0, e1, e2, decide_false, Bool.or_false, Bool.false_and]
    · rw [hV i h16 hi, Bool.and_false]
theorem alB_iff (X Y : Int32) (th : Nat → Nat) : ∀ n, alB X Y th n = true ↔ ∀ k, k < n → (bt X (th k) && !bt Y (th k)) = false := by
  intro n
  induction n with
  | zero => simp [alB]
  | succ n ih =>
    unfold alB
    rw [Bool.and_eq_true, ih]
    constructor
    · rintro ⟨h1, h2⟩ k hk
      rcases Nat.lt_or_ge k n with h | h
      · exact h1 k h
      · rw [show k = n by omega]
        cases hx : bt X (th n) <;> cases hy : bt Y (th n) <;> simp_all
    · intro h
      refine ⟨fun k hk => h k (by omega), ?_⟩
      have := h n (by omega)
      cases hx : bt X (th n) <;> cases hy : bt Y (th n) <;> simp_all
theorem smB_iff (X Y : Int32) (th : Nat → Nat) : ∀ n, smB X Y th n = false ↔ ∀ k, k < n → (bt X (th k) && bt Y (th k)) = false := by
  intro n
  induction n with
  | zero => simp [smB]
  | succ n ih =>
    unfold smB
    rw [Bool.or_eq_false_iff, ih]
    constructor
    · rintro ⟨h1, h2⟩ k hk
      rcases Nat.lt_or_ge k n with h | h
      · exact h1 k h
      · rw [show k = n by omega]; exact h2
    · intro h
      exact ⟨fun k hk => h k (by omega), h n (by omega)⟩
theorem cl_WB {N : Nat} (hN : N < 969) {s : Nat} {X Y : Int32} (hX : ∀ i, 16 ≤ i → i < 32 → bt X i = false) : clW (nI (wPk N)) s X Y = clB s X Y (wTh N) (wMn N) := by
  have h1 : decide (nI (wPk N) &&& (X &&& Y) = 0) = !smB X Y (wTh N) (wMn N) := by
    have e := w_and hN (V := X &&& Y) (fun i h1 h2 => by rw [bt_and, hX i h1 h2, Bool.false_and])
    cases hs : smB X Y (wTh N) (wMn N)
    · rw [smB_iff] at hs
      rw [Bool.not_false, decide_eq_true_iff, e]
      intro k hk
      rw [bt_and]; exact hs k hk
    · rw [Bool.not_true, decide_eq_false_iff_not, e]
      intro h
      have : smB X Y (wTh N) (wMn N) = false := (smB_iff _ _ _ _).mpr (fun k hk => by rw [← bt_and]; exact h k hk)
      rw [this] at hs
      exact absurd hs (by decide)
  have h2 : decide (nI (wPk N) &&& (X &&& (Y ^^^ (-1))) = 0) = alB X Y (wTh N) (wMn N) := by
    have e := w_and hN (V := X &&& (Y ^^^ (-1))) (fun i h1 h2 => by rw [bt_and, hX i h1 h2, Bool.false_and])
    have hm := (wMn_3 N hN).1
    have q : ∀ k, k < wMn N → bt (X &&& (Y ^^^ (-1))) (wTh N k) = (bt X (wTh N k) && !bt Y (wTh N k)) := by
      intro k hk
      have ht := (wTh_at N hN k (by omega)).1
      rw [bt_and, bt_xor, bt_m1 _ (by omega), Bool.xor_true]
    cases hs : alB X Y (wTh N) (wMn N)
    · rw [decide_eq_false_iff_not, e]
      intro h
      have : alB X Y (wTh N) (wMn N) = true := (alB_iff _ _ _ _).mpr (fun k hk => by rw [← q k hk]; exact h k hk)
      rw [this] at hs
      exact absurd hs (by decide)
    · rw [alB_iff] at hs
      rw [decide_eq_true_iff, e]
      intro k hk
      rw [q k hk]; exact hs k hk
  unfold clW clB
  by_cases s1 : s = 1
  · rw [if_pos s1, if_neg (by omega), if_pos s1, h1, Bool.not_not]
  · by_cases s0 : s = 0
    · rw [if_neg s1, if_pos s0, if_pos s0, h2]
    · rw [if_neg s1, if_neg s0, if_neg s0, if_neg s1, h1]
