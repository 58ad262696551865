/-- what may be the least word that is two: its key -/
def MinS (A : Nat → Nat → Int32) (r q : Nat) (jn : Int32) (S : Nat) : Prop := (∀ row, TwS (ptF A r q jn) (ptC A) (ptW A) row → S ≤ rKy row) ∧ (S = 14987979559889010688 ∨ ∃ row, TwS (ptF A r q jn) (ptC A) (ptW A) row ∧ S = rKy row)
def lfN (i : Nat) : Nat := if i < 4 then 2 else 1
/-- splits behind no head, and behind the first i heads -/
def Lk (A : Nat → Nat → Int32) (r q : Nat) (jn : Int32) (hd : Nat → Option (List Nat)) (i S : Nat) : Prop := (∀ row, SpS (ptF A r q jn) (ptC A) (ptW A) [] 4 3 row → S ≤ rKy row) ∧ (∀ j, j < i → ∀ l, hd j = some l → ∀ row, SpS (ptF A r q jn) (ptC A) (ptW A) l (j % 4) (lfN j) row → S ≤ rKy row) ∧ (S = 14987979559889010688 ∨ ∃ row, TwS (ptF A r q jn) (ptC A) (ptW A) row ∧ S = rKy row)
section
variable {A I : Nat → Nat → Int32} {r q i S S' : Nat} {jn : Int32} {hd : Nat → Option (List Nat)}
theorem hd_tw (hW : IWo A I r q) (h2 : H2 A r q jn 4 0 hd) (hi : i < 8) {l row : List Nat} (hl : hd i = some l) (h : SpS (ptF A r q jn) (ptC A) (ptW A) l (i % 4) (lfN i) row) : TwS (ptF A r q jn) (ptC A) (ptW A) row := by
  by_cases h4 : i < 4
  · obtain ⟨y, y1, y2, y3⟩ := (h2.1 i h4).2 l hl
    have el : l = wRw (ptW A) [y] := by rw [y3]; show _ = ptW A y ++ []; rw [List.append_nil]
    rw [el] at h
    refine sp_tw (H := [y]) ⟨pF_r4 y1 hW.1, trivial⟩ ?_ ?_ ?_ h
    · show ptC A y = i % 4; omega
    · show 1 + (if i < 4 then 2 else 1) ≤ 3; rw [if_pos h4]; omega
    · show 1 ≤ (if i < 4 then 2 else 1); rw [if_pos h4]; omega
  · obtain ⟨k', y, l1, a1, a2, a3, a4, a5⟩ := (h2.2 (i - 4) (by omega)).2 l (by rw [show 4 + (i - 4) = i by omega]; exact hl)
    obtain ⟨x, x1, x2, x3⟩ := (h2.1 k' a1).2 l1 a2
    have el : l = wRw (ptW A) [x, y] := by rw [a5, x3]; show _ = ptW A x ++ (ptW A y ++ []); rw [List.append_nil]
    rw [el] at h
    refine sp_tw (H := [x, y]) ⟨pF_r4 x1 hW.1, by rw [x2]; exact a3, trivial⟩ ?_ ?_ ?_ h
    · show ptC A y = i % 4; omega
    · show 2 + (if i < 4 then 2 else 1) ≤ 3; rw [if_neg h4]; omega
    · show 1 ≤ (if i < 4 then 2 else 1); rw [if_neg h4]; omega
theorem Lk_m (hW : IWo A I r q) (h2 : H2 A r q jn 4 0 hd) (h : Lk A r q jn hd 8 S) : MinS A r q jn S := by
  refine ⟨fun row hr => ?_, h.2.2⟩
  have K : ∀ k p, ptF A r q jn k p = true → PtK A r q p := fun k p hf => pt_K hW (pF_T hf).1 (pF_T hf).2
  have h4 : ∀ k p, ptF A r q jn k p = true → (ptW A p).length ≤ 4 := fun k p hf => by rw [ptW_l]; exact (K k p hf).n4
  have h32 : ∀ k p, ptF A r q jn k p = true → rOk (ptW A p) := fun k p hf => lR_ok (ptW_R (K k p hf))
  refine tw_1 (d1 := hd) (d2 := fun k => hd (4 + k)) h4 h32 (fun k p hf => ptW_n (K k p hf)) (fun k p hf => (K k p hf).c4) (fun k hk => ⟨fun x hx hxc => (h2.1 k hk).1 x (pF_4 hW hx) hxc, fun l hl => ?_⟩) (fun k hk => ⟨fun x y hx hy hyc => ?_, fun l hl => ?_⟩) h.1 (fun k l hk hl row hr => h.2.1 k (by omega) l hl row ?_) (fun k l hk hl row hr => h.2.1 (4 + k) (by omega) l hl row ?_) hr
  · obtain ⟨y, y1, y2, y3⟩ := (h2.1 k hk).2 l hl
    exact ⟨y, pF_r4 y1 hW.1, y2, y3⟩
  · obtain ⟨l1, m1, m2⟩ := (h2.1 (ptC A x) (K _ _ hx).c4).1 x (pF_4 hW hx) rfl
    obtain ⟨x', n1, n2, n3⟩ := (h2.1 (ptC A x) (K _ _ hx).c4).2 l1 m1
    obtain ⟨l, o1, o2⟩ := (h2.2 k hk).1 (ptC A x) y (K _ _ hx).c4 (Or.inl (K _ _ hx).c4) l1 m1 hy hyc
    refine ⟨l, o1, Nat.le_trans o2 (rKy_sub (by rw [n3]; exact h32 4 x' (pF_r4 n1 hW.1)) (h32 _ _ hy) m2 (h32 _ _ hx) ?_)⟩
    have := h4 _ _ hx
    have := h4 _ _ hy
    rw [List.length_append]; omega
  · obtain ⟨k', y, l1, a1, a2, a3, a4, a5⟩ := (h2.2 k hk).2 l hl
    obtain ⟨x, x1, x2, x3⟩ := (h2.1 k' a1).2 l1 a2
    exact ⟨x, y, pF_r4 x1 hW.1, by rw [x2]; exact a3, a4, by rw [a5, x3]⟩
  · rw [show k % 4 = k by omega, show lfN k = 2 from if_pos hk]; exact hr
  · rw [show (4 + k) % 4 = k by omega, show lfN (4 + k) = 1 from if_neg (by omega)]; exact hr
end
/-- what holds of the table behind the splits -/
def LkQ (A : Nat → Nat → Int32) (r q : Nat) (jn : Int32) (hd F : Nat → Option (List Nat)) (S n : Nat) : Prop := VdA (ptF A r q jn) (ptC A) (ptW A) F ∧ TwK (ptF A r q jn) (ptC A) (ptW A) S ∧ SpC (ptF A r q jn) (ptC A) (ptW A) F S [] 4 3 ∧ ∀ i, i < n → ∀ l, hd i = some l → SpC (ptF A r q jn) (ptC A) (ptW A) F S l (i % 4) (lfN i)
section
variable {A I : Nat → Nat → Int32} {L J : Nat → Nat → Int64} {r q S S' n fa le s : Nat} {jn : Int32} {hd F F' : Nat → Option (List Nat)}
theorem lq_m (h : LkQ A r q jn hd F S n) (hr : SpR (ptF A r q jn) (ptC A) (ptW A) F S F' S') : LkQ A r q jn hd F' S' n := ⟨hr.2.2.1, hr.2.2.2, sp_m h.2.2.1 hr.1 hr.2.1, fun i hi l hl => sp_m (h.2.2.2 i hi l hl) hr.1 hr.2.1⟩
theorem lq_end (hW : IWo A I r q) (h2 : H2 A r q jn 4 0 hd) (hH : HdO L hd) (h : LkQ A r q jn hd F S 8) (hE : ∀ i R, i < 1728 → F i = some R → R.length < n ∨ S ≤ rKy R) (hPr : PrS (ptF A r q jn) (ptC A) (ptW A) F S n 3 0) : MinS A r q jn S := by
  have hP := pt_H (jn := jn) hW
  refine Lk_m hW h2 ⟨fun row hr => sp_end hP h.1 hE hPr h.2.2.1 (by omega) (fun z hz => by cases hz) hr, fun j hj l hl row hr => ?_, h.2.1⟩
  have hlR : lR l := by
    rcases hH j hj with ⟨z, _⟩ | ⟨o, z1, z2, _⟩
    · rw [z] at hl; cases hl
    · rw [z1] at hl
      have := Option.some.inj hl
      rw [← this]; exact z2
  exact sp_end hP h.1 hE hPr (h.2.2.2 j hj l hl) (by unfold lfN; split <;> omega) hlR hr
theorem ts_le (h : TsO J S) : ∃ le, le ≤ 1152921504606846976 ∧ J 15 5 = lN le ∧ (le < 1152921504606846976 → ∃ R, lR R ∧ 1 ≤ R.length ∧ R.length ≤ 12 ∧ S = rKy R ∧ le = rNm R) := by
  rcases h with ⟨h1, h2⟩ | ⟨R, h1, h2, h3, h4, h5⟩
  · exact ⟨_, Nat.le_refl _, h2, fun z => absurd z (by omega)⟩
  · have := rNm_60 (lR_ok h1) h3
    exact ⟨rNm R, by omega, h5, fun _ => ⟨R, h1, h2, h3, h4, rfl⟩⟩
/-- rows that are not gone on from are no less -/
theorem lt_E (hO : TwO L J F S fa) (hle : le < 1152921504606846976 → ∃ R, lR R ∧ 1 ≤ R.length ∧ R.length ≤ 12 ∧ S = rKy R ∧ le = rNm R) (hs : LtO (if fa < le then fa else le) s) (hn : s < n) (h12 : n ≤ 12) : ∀ i R, i < 1728 → F i = some R → R.length < n ∨ S ≤ rKy R := by
  intro i R hi hR
  rcases Nat.lt_or_ge R.length n with z | z
  · exact Or.inl z
  refine Or.inr ?_
  rcases hO.1 i hi with ⟨a1, _⟩ | ⟨R1, a1, a2, a3, a4, a5, a6⟩
  · rw [a1] at hR; cases hR
  rw [a1] at hR
  have e := Option.some.inj hR
  subst e
  obtain ⟨s1, s2, s3⟩ := hs
  have b1 := rNm_ge a2 a3
  have b2 := p32_le (a := s) (b := R1.length - 1) (by omega)
  have b3 := p32_le (a := s) (b := 11) (by omega)
  have b4 : (32 : Nat) ^ 11 = 36028797018963968 := rfl
  rcases s3 with s3 | s3
  · omega
  by_cases hf : fa < le
  · rw [if_pos hf] at s3
    omega
  · rw [if_neg hf] at s3
    obtain ⟨o, o1, o2, o3, o4, o5⟩ := hle (by omega)
    have := (kyN o1 a2 o2 a3 o3 a4).mp (by omega)
    omega
theorem rl_12 (hO : TwO L J F S fa) : ∀ i R, i < 1728 → F i = some R → R.length < 13 ∨ S ≤ rKy R := by
  intro i R hi hR
  rcases hO.1 i hi with ⟨a1, _⟩ | ⟨R1, a1, a2, a3, a4, a5, a6⟩
  · rw [a1] at hR; cases hR
  · rw [a1] at hR
    have e := Option.some.inj hR
    subst e
    exact Or.inl (by omega)
end
