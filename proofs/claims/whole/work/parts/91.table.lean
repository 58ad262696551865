/-- the turn of session i in a table of s sessions -/
def dgT (tn s P i : Nat) : Nat := P / tn ^ (s - 1 - i) % tn
/-- who hears in a turn, and how many sessions it has -/
def uH (W : Nat → Int32) (t : Nat → Nat) (j : Nat) : Nat → Int32
  | 0 => 0
  | s + 1 => if t s = j then uH W t j s ||| W s else uH W t j s
def uT (t : Nat → Nat) (j : Nat) : Nat → Nat
  | 0 => 0
  | s + 1 => uT t j s + if t s = j then 1 else 0
def ct12 (v : Int32) : Nat := ctF (fun j => bt v j) 12
def hS (W : Nat → Int32) (t : Nat → Nat) (tn s : Nat) : Nat := smF (fun j => ct12 (uH W t j s)) tn
def okT (t : Nat → Nat) (tn rn s : Nat) : Prop := ∀ j, j < tn → uT t j s ≤ rn
/-- the best of the first tables -/
noncomputable def stT (W : Nat → Int32) (tn rn cN : Nat) : Nat → Option Nat
  | 0 => none
  | T + 1 => match stT W tn rn cN T with
    | none => @ite _ (okT (dgT tn cN T) tn rn cN) (Classical.propDecidable _) (some T) none
    | some b => @ite _ (okT (dgT tn cN T) tn rn cN ∧ hS W (dgT tn cN b) tn cN < hS W (dgT tn cN T) tn cN) (Classical.propDecidable _) (some T) (some b)
theorem dg_pre {tn s cN T i : Nat} (hi : i < s) (hs : s ≤ cN) : dgT tn cN T i = dgT tn s (T / tn ^ (cN - s)) i := by
  unfold dgT
  rw [Nat.div_div_eq_div_mul, ← Nat.pow_add, show cN - s + (s - 1 - i) = cN - 1 - i by omega]
theorem dg_s {tn s P j i : Nat} (hj : j < tn) (hi : i < s) : dgT tn (s + 1) (P * tn + j) i = dgT tn s P i := by
  rw [dg_pre hi (by omega), show s + 1 - s = 1 by omega, Nat.pow_one]
  congr 1
  rw [Nat.mul_comm, Nat.mul_add_div (by omega), Nat.div_eq_of_lt hj]; rfl
theorem dg_n {tn s P j : Nat} (hj : j < tn) : dgT tn (s + 1) (P * tn + j) s = j := by
  unfold dgT
  rw [show s + 1 - 1 - s = 0 by omega, Nat.pow_zero, Nat.div_one, Nat.mul_comm, Nat.mul_add_mod, Nat.mod_eq_of_lt hj]
theorem uH_c {W : Nat → Int32} {t t' : Nat → Nat} {j : Nat} : ∀ s, (∀ i, i < s → t i = t' i) → uH W t j s = uH W t' j s := by
  intro s
  induction s with
  | zero => intro _; rfl
  | succ s ih => intro h; unfold uH; rw [ih (fun i hi => h i (by omega)), h s (by omega)]
theorem uT_c {t t' : Nat → Nat} {j : Nat} : ∀ s, (∀ i, i < s → t i = t' i) → uT t j s = uT t' j s := by
  intro s
  induction s with
  | zero => intro _; rfl
  | succ s ih => intro h; unfold uT; rw [ih (fun i hi => h i (by omega)), h s (by omega)]
theorem uT_m {t : Nat → Nat} {j s : Nat} : ∀ r, uT t j s ≤ uT t j (s + r) := by
  intro r
  induction r with
  | zero => exact Nat.le_refl _
  | succ r ih =>
    show _ ≤ uT t j (s + r) + (if t (s + r) = j then 1 else 0)
    omega
theorem uT_b {t : Nat → Nat} {j : Nat} : ∀ s, uT t j s ≤ s := by
  intro s
  induction s with
  | zero => exact Nat.le_refl _
  | succ s ih => unfold uT; split <;> omega
theorem uH_z {W : Nat → Int32} {t : Nat → Nat} {j k : Nat} (hW : ∀ s, bt (W s) k = false) : ∀ s, bt (uH W t j s) k = false := by
  intro s
  induction s with
  | zero => exact bt_0 k
  | succ s ih =>
    unfold uH
    split
    · rw [bt_or, ih, hW]; rfl
    · exact ih
theorem uH_zc {W : Nat → Int32} {t : Nat → Nat} {j k : Nat} : ∀ s, (∀ i, i < s → bt (W i) k = false) → bt (uH W t j s) k = false := by
  intro s
  induction s with
  | zero => intro _; exact bt_0 k
  | succ s ih =>
    intro hW
    unfold uH
    split
    · rw [bt_or, ih (fun i hi => hW i (by omega)), hW s (by omega)]; rfl
    · exact ih (fun i hi => hW i (by omega))
theorem ct12_b (v : Int32) : ct12 v ≤ 12 := ctF_le _ 12
theorem hS_b {W : Nat → Int32} {t : Nat → Nat} {tn s : Nat} : hS W t tn s ≤ tn * 12 := smF_b tn fun j _ => ct12_b _
theorem ctF_or (f g : Nat → Bool) : ∀ n, ctF (fun j => f j || g j) n = ctF f n + ctF (fun j => g j && !f j) n := by
  intro n
  induction n with
  | zero => rfl
  | succ n ih =>
    unfold ctF
    rw [ih]
    cases f n <;> cases g n <;> simp <;> omega
theorem ct_or (v w : Int32) : ct12 (v ||| w) = ct12 v + ct12 (w &&& (v ^^^ (-1))) := by
  unfold ct12
  rw [ctF_c (g := fun j => bt v j || bt w j) 12 (fun j _ => bt_or v w j), ctF_or, ctF_c (f := fun j => bt (w &&& (v ^^^ (-1))) j) (g := fun j => bt w j && !bt v j) 12 (fun j hj => by
    show bt (w &&& (v ^^^ (-1))) j = _
    rw [bt_and, bt_xor, bt_m1 j (by omega), Bool.xor_true])]
theorem smF_u {f g : Nat → Nat} {j x : Nat} : ∀ n, j < n → (∀ i, i < n → i ≠ j → g i = f i) → g j = f j + x → smF g n = smF f n + x := by
  intro n
  induction n with
  | zero => intro h; omega
  | succ n ih =>
    intro h h1 h2
    unfold smF
    by_cases e : j = n
    · subst e
      rw [smF_c j (fun i hi => h1 i (by omega) (by omega)), h2]; omega
    · rw [ih (by omega) (fun i hi => h1 i (by omega)) h2, h1 n (by omega) (fun z => e z.symm)]; omega
section
variable {W : Nat → Int32} {tn rn cN s P j q T : Nat}
theorem uH_s (hj : j < tn) : uH W (dgT tn (s + 1) (P * tn + j)) q (s + 1) = if j = q then uH W (dgT tn s P) q s ||| W s else uH W (dgT tn s P) q s := by
  rw [show uH W (dgT tn (s + 1) (P * tn + j)) q (s + 1) = if dgT tn (s + 1) (P * tn + j) s = q then uH W (dgT tn (s + 1) (P * tn + j)) q s ||| W s else uH W (dgT tn (s + 1) (P * tn + j)) q s from rfl, dg_n hj, uH_c s (fun i hi => dg_s hj hi)]
theorem uT_s (hj : j < tn) : uT (dgT tn (s + 1) (P * tn + j)) q (s + 1) = uT (dgT tn s P) q s + if j = q then 1 else 0 := by
  rw [show uT (dgT tn (s + 1) (P * tn + j)) q (s + 1) = uT (dgT tn (s + 1) (P * tn + j)) q s + if dgT tn (s + 1) (P * tn + j) s = q then 1 else 0 from rfl, dg_n hj, uT_c s (fun i hi => dg_s hj hi)]
theorem hS_s (hj : j < tn) : hS W (dgT tn (s + 1) (P * tn + j)) tn (s + 1) = hS W (dgT tn s P) tn s + ct12 (W s &&& (uH W (dgT tn s P) j s ^^^ (-1))) := by
  refine smF_u (j := j) tn hj (fun i hi he => ?_) ?_
  · rw [uH_s hj, if_neg (fun z => he z.symm)]
  · rw [uH_s hj, if_pos rfl, ct_or]
theorem okT_s (hj : j < tn) (h : okT (dgT tn s P) tn rn s) (hr : uT (dgT tn s P) j s < rn) : okT (dgT tn (s + 1) (P * tn + j)) tn rn (s + 1) := by
  intro q hq
  rw [uT_s hj]
  by_cases e : j = q
  · subst e; rw [if_pos rfl]; omega
  · rw [if_neg e]; exact h q hq
/-- a table whose first turns are too full is none -/
theorem ok_no (hs : s ≤ cN) (hT : T / tn ^ (cN - s) = P) (hj : j < tn) (h : rn < uT (dgT tn s P) j s) : ¬ okT (dgT tn cN T) tn rn cN := by
  intro h2
  have h3 := h2 j hj
  have h4 := uT_m (t := dgT tn cN T) (j := j) (s := s) (cN - s)
  rw [show s + (cN - s) = cN by omega] at h4
  rw [uT_c (t' := dgT tn s (T / tn ^ (cN - s))) s (fun i hi => dg_pre hi hs), hT] at h4
  omega
theorem st_no (h : ¬ okT (dgT tn cN T) tn rn cN) : stT W tn rn cN (T + 1) = stT W tn rn cN T := by
  rw [show stT W tn rn cN (T + 1) = (match stT W tn rn cN T with
    | none => @ite _ (okT (dgT tn cN T) tn rn cN) (Classical.propDecidable _) (some T) none
    | some b => @ite _ (okT (dgT tn cN T) tn rn cN ∧ hS W (dgT tn cN b) tn cN < hS W (dgT tn cN T) tn cN) (Classical.propDecidable _) (some T) (some b)) from rfl]
  cases e : stT W tn rn cN T with
  | none => exact if_neg h
  | some b => exact if_neg (fun z => h z.1)
theorem st_no2 (h : okT (dgT tn cN T) tn rn cN) (h2 : stT W tn rn cN T = none) : stT W tn rn cN (T + 1) = some T := by
  rw [show stT W tn rn cN (T + 1) = (match stT W tn rn cN T with
    | none => @ite _ (okT (dgT tn cN T) tn rn cN) (Classical.propDecidable _) (some T) none
    | some b => @ite _ (okT (dgT tn cN T) tn rn cN ∧ hS W (dgT tn cN b) tn cN < hS W (dgT tn cN T) tn cN) (Classical.propDecidable _) (some T) (some b)) from rfl, h2]
  exact if_pos h
theorem st_some {b : Nat} (h : okT (dgT tn cN T) tn rn cN) (h2 : stT W tn rn cN T = some b) : stT W tn rn cN (T + 1) = if hS W (dgT tn cN b) tn cN < hS W (dgT tn cN T) tn cN then some T else some b := by
  rw [show stT W tn rn cN (T + 1) = (match stT W tn rn cN T with
    | none => @ite _ (okT (dgT tn cN T) tn rn cN) (Classical.propDecidable _) (some T) none
    | some b => @ite _ (okT (dgT tn cN T) tn rn cN ∧ hS W (dgT tn cN b) tn cN < hS W (dgT tn cN T) tn cN) (Classical.propDecidable _) (some T) (some b)) from rfl, h2]
  by_cases e : hS W (dgT tn cN b) tn cN < hS W (dgT tn cN T) tn cN
  · rw [if_pos e]; exact if_pos ⟨h, e⟩
  · rw [if_neg e]; exact if_neg (fun z => e z.2)
theorem st_skip (hs : s ≤ cN) (ht : 0 < tn) (hj : j < tn) (h : rn < uT (dgT tn s P) j s) : stT W tn rn cN ((P + 1) * tn ^ (cN - s)) = stT W tn rn cN (P * tn ^ (cN - s)) := by
  have hp : 0 < tn ^ (cN - s) := Nat.pow_pos ht
  have : ∀ r, r ≤ tn ^ (cN - s) → stT W tn rn cN (P * tn ^ (cN - s) + r) = stT W tn rn cN (P * tn ^ (cN - s)) := by
    intro r
    induction r with
    | zero => intro _; rfl
    | succ r ih =>
      intro hr
      rw [← ih (by omega), ← Nat.add_assoc]
      refine st_no (ok_no hs ?_ hj h)
      rw [Nat.mul_comm, Nat.mul_add_div hp, Nat.div_eq_of_lt (by omega)]; rfl
  have h2 := this _ (Nat.le_refl _)
  rw [Nat.add_mul, Nat.one_mul]
  exact h2
theorem st_b : ∀ {T b : Nat}, stT W tn rn cN T = some b → b < T := by
  intro T
  induction T with
  | zero => intro b h; cases h
  | succ T ih =>
    intro b h
    by_cases ok : okT (dgT tn cN T) tn rn cN
    · cases e : stT W tn rn cN T with
      | none => rw [st_no2 ok e] at h; injection h with h; omega
      | some b0 =>
        rw [st_some ok e] at h
        have := ih e
        split at h <;> injection h with h <;> omega
    · rw [st_no ok] at h
      have := ih h
      omega
end
def bsI : Option Nat → Int32
  | none => -9
  | some b => nI b
noncomputable def msI (W : Nat → Int32) (tn cN : Nat) : Option Nat → Int32
  | none => -9
  | some b => nI (hS W (dgT tn cN b) tn cN)
def tuI (tn cN s : Nat) : Option Nat → Int32
  | none => -9
  | some b => nI (dgT tn cN b s)
