/-- the empty world -/
def w00 : Wd := (0, fun _ _ => 0, fun _ _ => 0, fun _ _ => 0, fun _ _ => 0, fun _ _ => none)
/-- all references -/
def R0 : Nat → Nat → Option Nat := (uR (uR (uR (uR (uR (uR (uR (uR (uR (uR (uR (uR (uR (uR (uR (uR (uR (uR (uR (uR (uR (uR (uR (uR (uR (uR (uR (uR (uR (uR (uR (uR (uR (uR (uR (uR (uR (uR (uR (uR (uR (uR (uR (uR (uR (uR (uR (uR (uR (uR (uR (uR (uR (uR (uR (uR (Rc (fun _ _ => none)) 64 2 (some 65)) 64 3 (some 66)) 64 4 (some 67)) 64 5 (some 68)) 64 6 (some 69)) 64 7 (some 70)) 64 9 (some 71)) 64 10 (some 72)) 64 11 (some 73)) 64 12 (some 74)) 64 14 (some 75)) 64 15 (some 76)) 64 16 (some 77)) 64 17 (some 78)) 64 18 (some 79)) 64 19 (some 80)) 64 20 (some 81)) 64 22 (some 82)) 64 23 (some 83)) 64 24 (some 84)) 64 28 (some 85)) 64 29 (some 86)) 64 32 (some 87)) 64 33 (some 88)) 64 34 (some 89)) 64 36 (some 90)) 64 37 (some 91)) 64 38 (some 92)) 64 39 (some 93)) 64 41 (some 94)) 64 43 (some 95)) 64 44 (some 96)) 64 45 (some 97)) 64 46 (some 98)) 64 47 (some 99)) 64 48 (some 100)) 64 51 (some 101)) 64 52 (some 102)) 64 53 (some 103)) 64 56 (some 104)) 64 57 (some 105)) 64 59 (some 106)) 64 61 (some 107)) 64 62 (some 108)) 64 63 (some 109)) 64 64 (some 110)) 64 65 (some 111)) 64 67 (some 112)) 64 68 (some 113)) 64 70 (some 114)) 64 73 (some 115)) 64 75 (some 116)) 64 76 (some 117)) 64 77 (some 118)) 64 78 (some 119)) 64 79 (some 120))
theorem R0_eq : ∀ k, k < 120 → ∀ j, j < nf (kd (k + 1)) → R0 (k + 1) j = rfc (k + 1) j := by decide +kernel
theorem A0_eq {f1 f2 f3 f4 f5 f g : Nat → Int32} (h1 : ∀ k, k < 4 → f1 k = -1) (h2 : ∀ k, k < 16 → f2 k = -9) (h3 : ∀ k, k < 64 → f3 k = 65535) (h4 : wlO f4 969) (h5 : ∀ k, k < 16 → f5 k = -9) (h6 : ∀ k, k < 16 → f k = -9) (h7 : ∀ k, k < 4 → g k = -1) (k i : Nat) (hi : i < ln k) : u1 (u1 (u1 (u1 (u1 (u1 (u1 (fun _ _ => 0) 21 f1) 28 f2) 31 f3) 34 f4) 53 f5) 70 f) 117 g k i = A0 k i := by
  unfold A0
  by_cases e : k = 117
  · subst e; rw [u1_eq, u1_eq]; exact h7 i hi
  rw [u1_ne e, u1_ne e]
  by_cases e : k = 70
  · subst e; rw [u1_eq, u1_eq]; exact h6 i hi
  rw [u1_ne e, u1_ne e]
  by_cases e : k = 53
  · subst e; rw [u1_eq, u1_eq]; exact h5 i hi
  rw [u1_ne e, u1_ne e]
  by_cases e : k = 34
  · subst e; rw [u1_eq, u1_eq]; exact h4 i hi
  rw [u1_ne e, u1_ne e]
  by_cases e : k = 31
  · subst e; rw [u1_eq, u1_eq]; exact h3 i hi
  rw [u1_ne e, u1_ne e]
  by_cases e : k = 28
  · subst e; rw [u1_eq, u1_eq]; exact h2 i hi
  rw [u1_ne e, u1_ne e]
  by_cases e : k = 21
  · subst e; rw [u1_eq, u1_eq]; exact h1 i hi
  rw [u1_ne e, u1_ne e]
theorem law_ct (L : Nat) (xs : Nat → Int32) (hL : L ≤ 4096) : Ct (L, xs) 61 333 [.ref 0] w00 (fun v _ => v = some (.int 1)) := by
  intro K hK
  refine am_go hK spL 30 ?_
  (conv => whnf)
  have h0 : Cl 0 (fun _ _ => 0) (fun _ _ => 0) (fun _ _ => 0) (fun _ _ => 0) (fun _ _ => none) := fun k _ => ⟨rfl, rfl, rfl, rfl, fun _ => rfl⟩
  refine And.intro (Ct_e rfl (wn_eq (n := 0) (o := 0) (j := 0) (h0 1 (by omega))) (fi_153 (d := 57) (Cl_m h0 (by omega)) ?_)) trivial
  intro f1 f2 f3 f4 f5 h1 h2 h3 h4 h5 hc
  (conv => whnf)
  refine And.intro (Ct_e rfl (wn_eq (n := 63) (o := 0) (j := 0) (hc 64 (by omega))) (fi_218 (d := 59) (Cl_m hc (by omega)) ?_)) trivial
  intro f g h6 h7
  (conv => whnf)
  refine hK.2.2 _ _ _ _ (wd (u1 (u1 (u1 (u1 (u1 (u1 (u1 (fun _ _ => 0) 21 f1) 28 f2) 31 f3) 34 f4) 53 f5) 70 f) 117 g) (fun _ _ => 0) I0 J0) _ _ ⟨rfl, fun k a b => ⟨fun i hi => ⟨rfl, rfl⟩, fun j hj => ⟨rfl, rfl, ?_⟩⟩⟩ ?_
  · obtain ⟨k, rfl⟩ : ∃ k', k = k' + 1 := ⟨k - 1, by omega⟩
    exact R0_eq k (Nat.lt_of_succ_le b) j hj
  · exact lw_loop hK hL (fun _ => rfl) 0 (Nat.zero_le _) _ _ _ _ ⟨A0, fun k _ _ i hi => A0_eq h1 h2 h3 h4 h5 h6 h7 k i hi, 0, 0, 0, inv0⟩
