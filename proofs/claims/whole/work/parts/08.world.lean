/-! THE WORLD IN THE HEAP: cell k of the world lies at base + k; reference 0 is the script, at b -/
def adr (b base r : Nat) : Nat := if r = 0 then b else base + r
def tv (b base : Nat) (v : Value) : Value := match v with | .ref r => .ref (adr b base r) | x => x
theorem tv_cat (b base : Nat) (v : Value) : (tv b base v).category = v.category := by cases v <;> rfl
theorem tv_pos {b base k : Nat} (h : 1 ≤ k) : tv b base (.ref k) = .ref (base + k) := by
  show Value.ref (adr b base k) = _
  unfold adr
  rw [if_neg (by omega)]
def fvl (b base : Nat) (w : Wd) (k j : Nat) : Value := match ft (kd k) j with
  | 1 => .long (w.2.2.2.2.1 k j)
  | 2 => (match w.2.2.2.2.2 k j with | none => .null | some q => .ref (adr b base q))
  | _ => .int (w.2.2.2.1 k j)
def ent (cI cJ cZ : ClassId) (b base : Nat) (w : Wd) (k : Nat) : va_E :=
  if kd k < 13 then .inr (kd k, (List.range (nf (kd k))).map (fvl b base w k))
  else if kd k = 13 then .inl (cI, ln k, .inl (w.2.1 k))
  else if kd k = 14 then .inl (cJ, ln k, .inr (.inl (w.2.2.1 k)))
  else .inl (cZ, ln k, .inl (w.2.1 k))
def RW (D : va_G) (cI cJ cZ : ClassId) (b base : Nat) (w : Wd) (H : Heap) : Prop := (w.1 < 120 → H.size = base + 1 + w.1) ∧ ∀ k, 1 ≤ k → k ≤ w.1 → va_at D vwCl (base + k, ent cI cJ cZ b base w k) H
section
variable {D : va_G} {cI cJ cZ : ClassId} {b base : Nat} {w w' : Wd} {H H1 : Heap}
theorem ent_obj {k : Nat} (h : kd k < 13) : ent cI cJ cZ b base w k = .inr (kd k, (List.range (nf (kd k))).map (fvl b base w k)) := if_pos h
theorem ent_I {k : Nat} (h : kd k = 13) : ent cI cJ cZ b base w k = .inl (cI, ln k, .inl (w.2.1 k)) := by unfold ent; rw [if_neg (by omega), if_pos h]
theorem ent_J {k : Nat} (h : kd k = 14) : ent cI cJ cZ b base w k = .inl (cJ, ln k, .inr (.inl (w.2.2.1 k))) := by unfold ent; rw [if_neg (by omega), if_neg (by omega), if_pos h]
theorem ent_Z {k : Nat} (h : kd k = 15) : ent cI cJ cZ b base w k = .inl (cZ, ln k, .inl (w.2.1 k)) := by unfold ent; rw [if_neg (by omega), if_neg (by omega), if_neg (by omega)]
theorem ent_c {k : Nat} (h1 : w'.2.1 k = w.2.1 k) (h2 : w'.2.2.1 k = w.2.2.1 k) (h3 : w'.2.2.2.1 k = w.2.2.2.1 k) (h4 : w'.2.2.2.2.1 k = w.2.2.2.2.1 k) (h5 : w'.2.2.2.2.2 k = w.2.2.2.2.2 k) : ent cI cJ cZ b base w' k = ent cI cJ cZ b base w k := by
  have hf : fvl b base w' k = fvl b base w k := by
    funext j
    unfold fvl
    rw [h3, h4, h5]
  unfold ent
  rw [h1, h2, hf]
theorem u2_ne {α : Type} {f : Nat → Nat → α} {k j a : Nat} {v : α} (h : a ≠ k) : u2 f k j v a = f a := by funext q; unfold u2; rw [if_neg h]
theorem u2_eq {α : Type} {f : Nat → Nat → α} {k j : Nat} {v : α} : u2 f k j v k = fun q => if q = j then v else f k q := by funext q; unfold u2; rw [if_pos rfl]
theorem u1_ne {α : Type} {f : Nat → α} {k a : Nat} {v : α} (h : a ≠ k) : u1 f k v a = f a := by unfold u1; rw [if_neg h]
theorem u1_eq {α : Type} {f : Nat → α} {k : Nat} {v : α} : u1 f k v k = v := by unfold u1; rw [if_pos rfl]
theorem nbeq_ne {a k : Nat} (h : a ≠ k) : Nat.beq a k = false := by
  cases hb : Nat.beq a k with
  | false => rfl
  | true => exact absurd (Nat.eq_of_beq_eq_true hb) h
theorem uR_ne {f : Nat → Nat → Option Nat} {k j a : Nat} {v : Option Nat} (h : a ≠ k) : uR f k j v a = f a := by funext q; unfold uR; rw [nbeq_ne h]; rfl
theorem uR_eq {f : Nat → Nat → Option Nat} {k j : Nat} {v : Option Nat} : uR f k j v k = fun q => if q = j then v else f k q := by
  funext q
  unfold uR
  rw [Nat.beq_refl]
  by_cases h : q = j
  · subst h; rw [Nat.beq_refl, if_pos rfl]; rfl
  · rw [nbeq_ne h, if_neg h]; rfl
theorem RW.one (h : RW D cI cJ cZ b base w H) {k : Nat} (h1 : 1 ≤ k) (h2 : k ≤ w.1) : va_P D vwCl [(base + k, ent cI cJ cZ b base w k)] H := by
  intro i q hi
  cases i with
  | zero => cases hi; exact h.2 k h1 h2
  | succ i => cases hi
theorem RW.upd (h : RW D cI cJ cZ b base w H) (hn : w'.1 = w.1) {k : Nat} (ho : ∀ j, j ≠ k → ent cI cJ cZ b base w' j = ent cI cJ cZ b base w j) (hz : H1.size = H.size) (hq : ∀ q, q ≠ base + k → H1[q]? = H[q]?) (hk : va_at D vwCl (base + k, ent cI cJ cZ b base w' k) H1) : RW D cI cJ cZ b base w' H1 := by
  refine ⟨fun hlt => by rw [hz, hn]; exact h.1 (by omega), fun j h1 h2 => ?_⟩
  by_cases hj : j = k
  · subst hj; exact hk
  · rw [ho j hj]
    exact (h.2 j h1 (by omega)).kept (hq _ (by show base + j ≠ base + k; omega))
theorem RW.new (h : RW D cI cJ cZ b base w H) (hlt : w.1 < 120) (hz : H1.size = H.size + 1) (hq : ∀ q, q < H.size → H1[q]? = H[q]?) (hk : va_at D vwCl (base + (w.1 + 1), ent cI cJ cZ b base (wnew w) (w.1 + 1)) H1) : RW D cI cJ cZ b base (wnew w) H1 := by
  refine ⟨fun _ => by rw [hz, h.1 hlt]; show _ = base + 1 + (w.1 + 1); omega, fun j h1 h2 => ?_⟩
  by_cases hj : j = w.1 + 1
  · subst hj; exact hk
  · have h2 : j ≤ w.1 + 1 := h2
    rw [ent_c (w := w) (w' := wnew w) (u1_ne hj) (u1_ne hj) (u1_ne hj) (u1_ne hj) (by funext q; show (bif Nat.beq j (w.1 + 1) then none else w.2.2.2.2.2 j q) = _; rw [nbeq_ne hj]; rfl)]
    have hat := h.2 j h1 (by omega)
    exact hat.kept (hq _ hat.lt)
/-- the whole world as a list -/
def wls (cI cJ cZ : ClassId) (b base : Nat) (w : Wd) : va_W := (List.range w.1).map (fun k => (base + (k + 1), ent cI cJ cZ b base w (k + 1)))
theorem wls_at {k : Nat} (h1 : 1 ≤ k) (h2 : k ≤ w.1) : (wls cI cJ cZ b base w)[k - 1]? = some (base + k, ent cI cJ cZ b base w k) := by
  unfold wls
  rw [List.getElem?_map, List.getElem?_range (by omega)]
  show some (base + (k - 1 + 1), ent cI cJ cZ b base w (k - 1 + 1)) = _
  rw [show k - 1 + 1 = k by omega]
theorem wls_k {i : Nat} {q : Nat × va_E} (h : (wls cI cJ cZ b base w)[i]? = some q) : i < w.1 ∧ q = (base + (i + 1), ent cI cJ cZ b base w (i + 1)) := by
  have hi := (List.getElem?_eq_some_iff.mp h).1
  unfold wls at h hi
  rw [List.length_map, List.length_range] at hi
  rw [List.getElem?_map, List.getElem?_range hi] at h
  exact ⟨hi, (Option.some.inj h).symm⟩
theorem RW.P (h : RW D cI cJ cZ b base w H) : va_P D vwCl (wls cI cJ cZ b base w) H := by
  intro i q hq
  obtain ⟨hi, rfl⟩ := wls_k hq
  exact h.2 _ (by omega) (by omega)
theorem wls_D : va_D (fun q => base < q) (wls cI cJ cZ b base w) := by
  refine ⟨fun i j x y hi hj hxy => ?_, fun k q hk => ?_⟩
  · obtain ⟨-, rfl⟩ := wls_k hi
    obtain ⟨-, rfl⟩ := wls_k hj
    have : base + (i + 1) = base + (j + 1) := hxy
    omega
  · obtain ⟨-, rfl⟩ := wls_k hk
    show base < base + (k + 1)
    omega
theorem RW.ofset {k : Nat} (h1 : 1 ≤ k) (h2 : k ≤ w.1) (hn : w'.1 = w.1) (hbig : 120 ≤ w.1) (ho : ∀ j, j ≠ k → ent cI cJ cZ b base w' j = ent cI cJ cZ b base w j) {x : va_E} (hx : ent cI cJ cZ b base w' k = x) (hP : va_P D vwCl ((wls cI cJ cZ b base w).set (k - 1) (base + k, x)) H) : RW D cI cJ cZ b base w' H := by
  refine ⟨fun hlt => absurd hlt (by omega), fun j g1 g2 => ?_⟩
  have hlen : (wls cI cJ cZ b base w).length = w.1 := by unfold wls; rw [List.length_map, List.length_range]
  by_cases hj : j = k
  · subst hj
    rw [hx]
    exact hP (j - 1) _ (List.getElem?_set_self (by omega))
  · rw [ho j hj]
    refine hP (j - 1) _ ?_
    rw [List.getElem?_set_ne (by omega)]
    exact wls_at g1 (by omega)
theorem arrV_c {cA : ClassId} {N : Nat} {f g : Nat → Value} (h : ∀ j, j < N → f j = g j) : arrV cA N f = arrV cA N g := by
  unfold arrV
  congr 1
  congr 1
  funext j
  exact h j.1 j.2
theorem cell_i {cA : ClassId} {N : Nat} {f g : Nat → Int32} (h : ∀ j, j < N → f j = g j) : vp_cell cA (N, .inl f) = vp_cell cA (N, .inl g) := arrV_c (f := fun j => .int (f j)) (g := fun j => .int (g j)) (fun j hj => by rw [h j hj])
theorem cell_l {cA : ClassId} {N : Nat} {f g : Nat → Int64} (h : ∀ j, j < N → f j = g j) : vp_cell cA (N, .inr (.inl f)) = vp_cell cA (N, .inr (.inl g)) := arrV_c (f := fun j => .long (f j)) (g := fun j => .long (g j)) (fun j hj => by rw [h j hj])
theorem RW.weq (h : RW D cI cJ cZ b base w H) (e : w_eq w w') : RW D cI cJ cZ b base w' H := by
  refine ⟨fun hlt => by rw [← e.1]; exact h.1 (by rw [e.1]; exact hlt), fun k h1 h2 => ?_⟩
  have h2' : k ≤ w.1 := by rw [e.1]; exact h2
  obtain ⟨ea, ef⟩ := e.2 k h1 h2'
  have hat := h.2 k h1 h2'
  by_cases hk : kd k < 13
  · rw [ent_obj hk] at hat ⊢
    have : (List.range (nf (kd k))).map (fvl b base w k) = (List.range (nf (kd k))).map (fvl b base w' k) := by
      refine List.map_congr_left fun j hj => ?_
      obtain ⟨e1, e2, e3⟩ := ef j (List.mem_range.mp hj)
      unfold fvl
      rw [e1, e2, e3]
    rw [← this]
    exact hat
  · by_cases hk3 : kd k = 13
    · rw [ent_I hk3] at hat ⊢
      exact hat.trans (congrArg some (cell_i (fun j hj => (ea j hj).1)))
    · by_cases hk4 : kd k = 14
      · rw [ent_J hk4] at hat ⊢
        exact hat.trans (congrArg some (cell_l (fun j hj => (ea j hj).2)))
      · have hz : ∀ w : Wd, ent cI cJ cZ b base w k = .inl (cZ, ln k, .inl (w.2.1 k)) := fun w => by unfold ent; rw [if_neg hk, if_neg hk3, if_neg hk4]
        rw [hz] at hat ⊢
        exact hat.trans (congrArg some (cell_i (fun j hj => (ea j hj).1)))
end
/-- the locals -/
def LR (b base n : Nat) (ls : Lo) (lsm : Array Slot) : Prop := lsm.size = n ∧ lv_wf lsm ∧ ls.length = n ∧ ∀ (i : Nat) (v : Value), ls[i]? = some (some v) → lsm[i]? = some (.val (tv b base v))
def lol (b base : Nat) (ls : Lo) : List (Nat × Value) := (List.range ls.length).filterMap (fun i => match ls[i]? with | some (some v) => some (i, tv b base v) | _ => none)
theorem lol_in {b base : Nat} {ls : Lo} {i : Nat} {v : Value} (h : ls[i]? = some (some v)) : (i, tv b base v) ∈ lol b base ls := by
  refine List.mem_filterMap.mpr ⟨i, List.mem_range.mpr (List.getElem?_eq_some_iff.mp h).1, ?_⟩
  rw [h]
theorem LR.has {b base n : Nat} {ls : Lo} {lsm : Array Slot} (h : LR b base n ls lsm) : lv_has lsm n (lol b base ls) := by
  refine ⟨h.1, h.2.1, fun q hq => ?_⟩
  obtain ⟨i, -, hi⟩ := List.mem_filterMap.mp hq
  cases hl : ls[i]? with
  | none => rw [hl] at hi; cases hi
  | some o =>
    cases o with
    | none => rw [hl] at hi; cases hi
    | some v =>
      rw [hl] at hi
      cases hi
      exact h.2.2.2 i v hl
theorem q_loc_s {k : Value → Prop} : ∀ (ls : Lo) (i : Nat), q_loc ls i k → ∃ v, ls[i]? = some (some v) ∧ k v
  | [], 0, h => h.elim
  | [], _ + 1, h => h.elim
  | none :: _, 0, h => h.elim
  | some v :: _, 0, h => ⟨v, rfl, h⟩
  | none :: r, i + 1, h => q_loc_s r i h
  | some _ :: r, i + 1, h => q_loc_s r i h
theorem q_st1_s {v : Value} : ∀ (ls : Lo) (i : Nat) {k : Lo → Prop}, q_st1 ls i v k → ∃ t, k t ∧ i < ls.length ∧ t.length = ls.length ∧ ∀ (j : Nat) (u : Value), t[j]? = some (some u) → (j = i ∧ u = v) ∨ (j ≠ i ∧ ls[j]? = some (some u) ∧ ¬ (j + 1 = i ∧ u.category = 2))
  | [], 0, _, h => h.elim
  | [], _ + 1, _, h => h.elim
  | x :: r, 0, _, h => ⟨some v :: r, h, by simp, by simp, fun j u hu => by
      cases j with
      | zero => cases hu; exact Or.inl ⟨rfl, rfl⟩
      | succ j => exact Or.inr ⟨by omega, hu, by omega⟩⟩
  | x :: r, 1, _, h => by
    obtain ⟨t, h1, h2, h3, h4⟩ := q_st1_s r 0 h
    refine ⟨q_cut x :: t, h1, by simp at h2 ⊢; omega, by simp [h3], fun j u hu => ?_⟩
    cases j with
    | zero =>
      have hu : q_cut x = some u := Option.some.inj hu
      refine Or.inr ⟨by omega, ?_, fun hc => ?_⟩
      · unfold q_cut at hu
        split at hu
        · cases hu
        · cases hu
        · rw [← hu]; rfl
      · unfold q_cut at hu
        split at hu
        · cases hu
        · cases hu
        · rename_i n1 n2
          subst hu
          have := hc.2
          cases u <;> first | exact absurd rfl (n1 _) | exact absurd rfl (n2 _) | cases this
    | succ j =>
      rcases h4 j u hu with ⟨a1, a2⟩ | ⟨a1, a2, -⟩
      · exact Or.inl ⟨by omega, a2⟩
      · exact Or.inr ⟨by omega, a2, by omega⟩
  | x :: r, i + 2, _, h => by
    obtain ⟨t, h1, h2, h3, h4⟩ := q_st1_s r (i + 1) h
    refine ⟨x :: t, h1, by simp at h2 ⊢; omega, by simp [h3], fun j u hu => ?_⟩
    cases j with
    | zero => exact Or.inr ⟨by omega, hu, by omega⟩
    | succ j =>
      rcases h4 j u hu with ⟨a1, a2⟩ | ⟨a1, a2, a3⟩
      · exact Or.inl ⟨by omega, a2⟩
      · exact Or.inr ⟨by omega, a2, fun z => a3 ⟨by omega, z.2⟩⟩
theorem q_st2_s {v : Value} : ∀ (ls : Lo) (i : Nat) {k : Lo → Prop}, q_st2 ls i v k → ∃ t, k t ∧ i + 1 < ls.length ∧ t.length = ls.length ∧ ∀ (j : Nat) (u : Value), t[j]? = some (some u) → (j = i ∧ u = v) ∨ (j ≠ i ∧ j ≠ i + 1 ∧ ls[j]? = some (some u) ∧ ¬ (j + 1 = i ∧ u.category = 2))
  | [], 0, _, h => h.elim
  | [], _ + 1, _, h => h.elim
  | [_], 0, _, h => h.elim
  | x :: x2 :: r, 0, _, h => ⟨some v :: none :: r, h, by simp, by simp, fun j u hu => by
      cases j with
      | zero => cases hu; exact Or.inl ⟨rfl, rfl⟩
      | succ j =>
        cases j with
        | zero => cases hu
        | succ j => exact Or.inr ⟨by omega, by omega, hu, by omega⟩⟩
  | x :: r, 1, _, h => by
    obtain ⟨t, h1, h2, h3, h4⟩ := q_st2_s r 0 h
    refine ⟨q_cut x :: t, h1, by simp at h2 ⊢; omega, by simp [h3], fun j u hu => ?_⟩
    cases j with
    | zero =>
      have hu : q_cut x = some u := Option.some.inj hu
      refine Or.inr ⟨by omega, by omega, ?_, fun hc => ?_⟩
      · unfold q_cut at hu
        split at hu
        · cases hu
        · cases hu
        · rw [← hu]; rfl
      · unfold q_cut at hu
        split at hu
        · cases hu
        · cases hu
        · rename_i n1 n2
          subst hu
          have := hc.2
          cases u <;> first | exact absurd rfl (n1 _) | exact absurd rfl (n2 _) | cases this
    | succ j =>
      rcases h4 j u hu with ⟨a1, a2⟩ | ⟨a1, a2, a3, -⟩
      · exact Or.inl ⟨by omega, a2⟩
      · exact Or.inr ⟨by omega, by omega, a3, by omega⟩
  | x :: r, i + 2, _, h => by
    obtain ⟨t, h1, h2, h3, h4⟩ := q_st2_s r (i + 1) h
    refine ⟨x :: t, h1, by simp at h2 ⊢; omega, by simp [h3], fun j u hu => ?_⟩
    cases j with
    | zero => exact Or.inr ⟨by omega, by omega, hu, by omega⟩
    | succ j =>
      rcases h4 j u hu with ⟨a1, a2⟩ | ⟨a1, a2, a3, a4⟩
      · exact Or.inl ⟨by omega, a2⟩
      · exact Or.inr ⟨by omega, by omega, a3, fun z => a4 ⟨by omega, z.2⟩⟩
theorem LR.st1 {b base n i : Nat} {ls t : Lo} {lsm lsm' : Array Slot} {v : Value} (h : LR b base n ls lsm) (ht : t.length = ls.length) (hs : ∀ (j : Nat) (u : Value), t[j]? = some (some u) → (j = i ∧ u = v) ∨ (j ≠ i ∧ ls[j]? = some (some u) ∧ ¬ (j + 1 = i ∧ u.category = 2)))
    (g : lv_has lsm' n ((i, tv b base v) :: (lol b base ls).filter (fun q => !(q.1 == i) && !(q.1 + 1 == i && q.2.category == 2)))) : LR b base n t lsm' := by
  refine ⟨g.1, g.2.1, ht.trans h.2.2.1, fun j u hu => ?_⟩
  rcases hs j u hu with ⟨rfl, rfl⟩ | ⟨h1, h2, h3⟩
  · exact g.2.2 _ List.mem_cons_self
  · refine g.2.2 (j, tv b base u) (List.mem_cons_of_mem _ (List.mem_filter.mpr ⟨lol_in h2, ?_⟩))
    simp only [tv_cat, Bool.and_eq_true, Bool.not_eq_true', beq_eq_false_iff_ne, ne_eq, Bool.and_eq_false_iff]
    refine ⟨h1, ?_⟩
    by_cases hj : j + 1 = i
    · exact Or.inr fun z => h3 ⟨hj, z⟩
    · exact Or.inl hj
theorem LR.st2 {b base n i : Nat} {ls t : Lo} {lsm lsm' : Array Slot} {v : Value} (h : LR b base n ls lsm) (ht : t.length = ls.length) (hs : ∀ (j : Nat) (u : Value), t[j]? = some (some u) → (j = i ∧ u = v) ∨ (j ≠ i ∧ j ≠ i + 1 ∧ ls[j]? = some (some u) ∧ ¬ (j + 1 = i ∧ u.category = 2)))
    (g : lv_has lsm' n ((i, tv b base v) :: (lol b base ls).filter (fun q => !(q.1 == i) && (!(q.1 == i + 1) && !(q.1 + 1 == i && q.2.category == 2))))) : LR b base n t lsm' := by
  refine ⟨g.1, g.2.1, ht.trans h.2.2.1, fun j u hu => ?_⟩
  rcases hs j u hu with ⟨rfl, rfl⟩ | ⟨h1, h1', h2, h3⟩
  · exact g.2.2 _ List.mem_cons_self
  · refine g.2.2 (j, tv b base u) (List.mem_cons_of_mem _ (List.mem_filter.mpr ⟨lol_in h2, ?_⟩))
    simp only [tv_cat, Bool.and_eq_true, Bool.not_eq_true', beq_eq_false_iff_ne, ne_eq, Bool.and_eq_false_iff]
    refine ⟨h1, h1', ?_⟩
    by_cases hj : j + 1 = i
    · exact Or.inr fun z => h3 ⟨hj, z⟩
    · exact Or.inl hj
theorem LR.le {b base n : Nat} {ls t : Lo} {lsm : Array Slot} (h : LR b base n ls lsm) (hl : lo_le t ls) : LR b base n t lsm := ⟨h.1, h.2.1, hl.1.trans h.2.2.1, fun i v hi => h.2.2.2 i v (hl.2 i v hi)⟩
/-- the locals at a method's start -/
theorem q_ent_at (b base : Nat) : ∀ (av : List Value) (o i : Nat) (v : Value), (q_ent av)[i]? = some (some v) → (o + i, tv b base v) ∈ lv_args o (av.map (tv b base))
  | [], _, i, v, h => by cases i <;> cases h
  | .long x :: r, o, i, v, h => by
    cases i with
    | zero => cases h; exact List.mem_cons_self
    | succ i =>
      cases i with
      | zero => cases h
      | succ i =>
        have := q_ent_at b base r (o + 2) i v h
        rw [show o + (i + 1 + 1) = o + 2 + i by omega]
        exact List.mem_cons_of_mem _ this
  | .double x :: r, o, i, v, h => by
    cases i with
    | zero => cases h; exact List.mem_cons_self
    | succ i =>
      cases i with
      | zero => cases h
      | succ i =>
        have := q_ent_at b base r (o + 2) i v h
        rw [show o + (i + 1 + 1) = o + 2 + i by omega]
        exact List.mem_cons_of_mem _ this
  | .int x :: r, o, i, v, h => by
    cases i with
    | zero => cases h; exact List.mem_cons_self
    | succ i =>
      have := q_ent_at b base r (o + 1) i v h
      rw [show o + (i + 1) = o + 1 + i by omega]
      exact List.mem_cons_of_mem _ this
  | .float x :: r, o, i, v, h => by
    cases i with
    | zero => cases h; exact List.mem_cons_self
    | succ i =>
      have := q_ent_at b base r (o + 1) i v h
      rw [show o + (i + 1) = o + 1 + i by omega]
      exact List.mem_cons_of_mem _ this
  | .null :: r, o, i, v, h => by
    cases i with
    | zero => cases h; exact List.mem_cons_self
    | succ i =>
      have := q_ent_at b base r (o + 1) i v h
      rw [show o + (i + 1) = o + 1 + i by omega]
      exact List.mem_cons_of_mem _ this
  | .ref x :: r, o, i, v, h => by
    cases i with
    | zero => cases h; exact List.mem_cons_self
    | succ i =>
      have := q_ent_at b base r (o + 1) i v h
      rw [show o + (i + 1) = o + 1 + i by omega]
      exact List.mem_cons_of_mem _ this
  | .retAddr x :: r, o, i, v, h => by
    cases i with
    | zero => cases h; exact List.mem_cons_self
    | succ i =>
      have := q_ent_at b base r (o + 1) i v h
      rw [show o + (i + 1) = o + 1 + i by omega]
      exact List.mem_cons_of_mem _ this
theorem q_pad_len : ∀ (n : Nat) (l : Lo), l.length ≤ n → (q_pad n l).length = n
  | 0, [], _ => rfl
  | 0, _ :: _, h => absurd h (by simp)
  | n + 1, [], _ => by show (none :: q_pad n []).length = _; rw [List.length_cons, q_pad_len n [] (by simp)]
  | n + 1, x :: r, h => by show (x :: q_pad n r).length = _; rw [List.length_cons, q_pad_len n r (by simp at h; omega)]
theorem q_pad_at : ∀ (n : Nat) (l : Lo) (i : Nat) (v : Value), (q_pad n l)[i]? = some (some v) → l[i]? = some (some v)
  | 0, _, _, _, h => h
  | n + 1, [], i, v, h => by
    cases i with
    | zero => cases h
    | succ i => have := q_pad_at n [] i v h; cases this
  | n + 1, x :: r, i, v, h => by
    cases i with
    | zero => exact h
    | succ i => exact q_pad_at n r i v h
theorem q_ent_len (b base : Nat) : ∀ (av : List Value), (q_ent av).length = (lg_sl (av.map (tv b base))).length
  | [] => rfl
  | .long x :: r => by simp [q_ent, lg_sl, tv, q_ent_len b base r, Value.category]
  | .double x :: r => by simp [q_ent, lg_sl, tv, q_ent_len b base r, Value.category]
  | .int x :: r => by simp [q_ent, lg_sl, tv, q_ent_len b base r, Value.category]
  | .float x :: r => by simp [q_ent, lg_sl, tv, q_ent_len b base r, Value.category]
  | .null :: r => by simp [q_ent, lg_sl, tv, q_ent_len b base r, Value.category]
  | .ref x :: r => by simp [q_ent, lg_sl, tv, q_ent_len b base r, Value.category]
  | .retAddr x :: r => by simp [q_ent, lg_sl, tv, q_ent_len b base r, Value.category]
