/-! SOUNDNESS: what the abstract machine asks is enough for the machine itself -/
set_option maxRecDepth 100000 in
theorem md_4 : ∀ y, y < 333 → mini y = true → mrt y = none := by decide +kernel
abbrev tysW (cI cJ cZ : ClassId) : List (ClassId × FieldType) := [(cI, .int), (cJ, .long), (cZ, .boolean)]
def rmd (d y : Nat) : Room := { frames := d, cells := mgc y, slots := mgs y, locals := 64 * d }
def Pcx (D : va_G) (cI cJ cZ : ClassId) (b base : Nat) (sc : Sc) (w : Wd) (av : List Value) : Array Value → State → Prop := fun v U => v = (av.map (tv b base)).toArray ∧ RW D cI cJ cZ b base w U.heap ∧ va_K D vwCl (tysW cI cJ cZ) U ∧ va_X b sc.1 sc.2 U U.heap
def Qcx (D : va_G) (cI cJ cZ : ClassId) (b base : Nat) (Q : Option Value → Wd → Prop) : Array Value → State → Outcome → State → Prop := fun _ st oc t => (∃ (v : Option Value) (w' : Wd), Q v w' ∧ oc = .returned (v.map (tv b base)) ∧ RW D cI cJ cZ b base w' t.heap) ∧ va_F (fun q => base < q) st t
theorem Pcx_blind {D : va_G} {cI cJ cZ : ClassId} {b base : Nat} {sc : Sc} {w : Wd} {av : List Value} : FrameBlind (Pcx D cI cJ cZ b base sc w av) := fun a U g mk h =>
  ⟨h.1, h.2.1, va_K.moved (u := U) (U := U.calling g mk a) (Vm.Alike.refl U.vm) h.2.2.1, va_X.moved (u := U) (U := U.calling g mk a) (Vm.Alike.refl U.vm) h.2.2.2⟩
theorem q_pop_s {st : List Value} {k : Value → List Value → Prop} (h : q_pop st k) : ∃ x r, st = x :: r ∧ k x r := by
  cases st with
  | nil => exact h.elim
  | cons x r => exact ⟨x, r, rfl, h⟩
theorem q_popi_s {st : List Value} {k : Int32 → List Value → Prop} (h : q_popi st k) : ∃ x r, st = .int x :: r ∧ k x r := by
  cases st with
  | nil => exact h.elim
  | cons x r => cases x <;> first | exact ⟨_, r, rfl, h⟩ | exact h.elim
theorem q_popl_s {st : List Value} {k : Int64 → List Value → Prop} (h : q_popl st k) : ∃ x r, st = .long x :: r ∧ k x r := by
  cases st with
  | nil => exact h.elim
  | cons x r => cases x <;> first | exact ⟨_, r, rfl, h⟩ | exact h.elim
theorem q_popr_s {st : List Value} {k : Nat → List Value → Prop} (h : q_popr st k) : ∃ x r, st = .ref x :: r ∧ k x r := by
  cases st with
  | nil => exact h.elim
  | cons x r => cases x <;> first | exact ⟨_, r, rfl, h⟩ | exact h.elim
theorem q_int_s {x : Value} {k : Int32 → Prop} (h : q_int x k) : ∃ a, x = .int a ∧ k a := by
  cases x <;> first | exact ⟨_, rfl, h⟩ | exact h.elim
theorem q_long_s {x : Value} {k : Int64 → Prop} (h : q_long x k) : ∃ a, x = .long a ∧ k a := by
  cases x <;> first | exact ⟨_, rfl, h⟩ | exact h.elim
theorem q_ref_s {x : Value} {k : Nat → Prop} (h : q_ref x k) : ∃ a, x = .ref a ∧ k a := by
  cases x <;> first | exact ⟨_, rfl, h⟩ | exact h.elim
theorem q_ref1_s {st : List Value} {k : Nat → Prop} (h : q_ref1 st k) : ∃ x r, st = .ref x :: r ∧ k x := by
  cases st with
  | nil => exact h.elim
  | cons x r => cases x <;> first | exact ⟨_, r, rfl, h⟩ | exact h.elim
theorem q_when_s {c : Bool} {k : Prop} (h : q_when c k) : c = true ∧ k := by
  cases c
  · exact h.elim
  · exact ⟨rfl, h⟩
theorem q_take_s : ∀ (n : Nat) (st acc : List Value) {k : List Value → List Value → Prop}, q_take n st acc k → ∃ pre r, st = pre ++ r ∧ pre.length = n ∧ k (pre.reverse ++ acc) r
  | 0, st, acc, k, h => ⟨[], st, rfl, rfl, h⟩
  | n + 1, x :: r, acc, k, h => by
    obtain ⟨pre, r', h1, h2, h3⟩ := q_take_s n r (x :: acc) h
    refine ⟨x :: pre, r', by rw [h1]; rfl, by rw [List.length_cons, h2], ?_⟩
    rw [List.reverse_cons, List.append_assoc]
    exact h3
  | _ + 1, [], _, _, h => h.elim
theorem q_cats_eq (b base : Nat) : ∀ (r : List Value), ((r.map (tv b base)).map fun v => v.category).sum = q_cats r
  | [] => rfl
  | .long _ :: r => by show 2 + ((r.map (tv b base)).map fun v => v.category).sum = q_cats r + 2; rw [q_cats_eq b base r]; omega
  | .double _ :: r => by show 2 + ((r.map (tv b base)).map fun v => v.category).sum = q_cats r + 2; rw [q_cats_eq b base r]; omega
  | .int _ :: r => by show 1 + ((r.map (tv b base)).map fun v => v.category).sum = q_cats r + 1; rw [q_cats_eq b base r]; omega
  | .float _ :: r => by show 1 + ((r.map (tv b base)).map fun v => v.category).sum = q_cats r + 1; rw [q_cats_eq b base r]; omega
  | .null :: r => by show 1 + ((r.map (tv b base)).map fun v => v.category).sum = q_cats r + 1; rw [q_cats_eq b base r]; omega
  | .ref _ :: r => by show 1 + ((r.map (tv b base)).map fun v => v.category).sum = q_cats r + 1; rw [q_cats_eq b base r]; omega
  | .retAddr _ :: r => by show 1 + ((r.map (tv b base)).map fun v => v.category).sum = q_cats r + 1; rw [q_cats_eq b base r]; omega
theorem dc {cc : ByteArray} {pc nx k : Nat} {i : Instr} (hd : decode cc pc = .ok (i, nx - pc)) (hl : ck_len pc nx k = true) : nx = pc + k ∧ decode cc pc = .ok (i, k) := by
  have h : nx = pc + k := Nat.eq_of_beq_eq_true hl
  subst h
  rw [Nat.add_sub_cancel_left] at hd
  exact ⟨rfl, hd⟩
theorem and_s {a c : Bool} (h : (a && c) = true) : a = true ∧ c = true := by
  cases a
  · cases h
  · exact ⟨rfl, h⟩
theorem mrs {N j : Nat} {f f' : Nat → Value} {v : Value} (hj : j < N) (h1 : f' j = v) (h2 : ∀ i, i < N → i ≠ j → f' i = f i) : (List.range N).map f' = ((List.range N).map f).set j v := by
  apply List.ext_getElem?
  intro i
  by_cases hi : i < N
  · by_cases hij : i = j
    · subst hij
      rw [List.getElem?_set_self (by simp [hi]), List.getElem?_map, List.getElem?_range hi, ← h1]
      rfl
    · rw [List.getElem?_set_ne (fun q => hij q.symm), List.getElem?_map, List.getElem?_map, List.getElem?_range hi]
      show some (f' i) = some (f i)
      rw [h2 i hi hij]
  · rw [List.getElem?_eq_none (by simp; omega), List.getElem?_eq_none (by simp; omega)]
theorem ofNat_cl {n : Nat} (h : n ≤ 2000) : ¬ Int32.ofNat n < 0 ∧ (Int32.ofNat n).toNatClampNeg = n := ⟨nI_pos (n := n) (by omega), nI_clamp (n := n) (by omega)⟩
section SOUND
variable {p : Program} {l : Launch} {e : Env} {R : Room} {s : State} {m : MethodId} {args : Array Value} {below : List Frame} {meth : Method} {c : Code} {H : Heap} {locs : List Loc} {cells slots : Nat} {Qf : State → Prop} {D : va_G} {cI cJ cZ : ClassId} {b base : Nat} {w : Wd} {pc : Nat} {lsm : Array Slot} {rest : List Value} {cc : ByteArray}
/-- a field is written -/
theorem am_put (hx : p.tables.exec = Jvm.exec) (hb : c.code = cc) (hts : ∀ z ∈ tbg, z.before args s = true) {o : Nat} (hown : s.vm.findClass (cn o) = some m.cls) (hK : va_K D vwCl (tysW cI cJ cZ) s) (hR : RW D cI cJ cZ b base w H) (hS : va_S (fun q => base < q) s.heap H locs)
    {k j idx : Nat} (h1 : 1 ≤ k) (h2 : k ≤ w.1) (hk : kd k < 13) (hj : j < nf (kd k)) (hl : ck_fl o idx (kd k) j = true) (hf : fin (kd k) j = true → meth.name = "<init>" ∧ o = kd k) {v : Value} (hn : narrow (cty (kd k) j) v = v) (hfit : fits (cty (kd k) j) v = true) (hdg : decode cc pc = .ok (.putfield idx, 3))
    {w' : Wd} (e1 : w'.1 = w.1) (e2 : ∀ i, i ≠ k → ent cI cJ cZ b base w' i = ent cI cJ cZ b base w i) (e3 : fvl b base w' k j = v) (e4 : ∀ i, i ≠ j → fvl b base w' k i = fvl b base w k i)
    (kk : ∀ (H1 : Heap) (locs1 : List Loc), RW D cI cJ cZ b base w' H1 → va_S (fun q => base < q) s.heap H1 locs1 → W p l e R s m args below meth c H1 locs1 cells slots Qf (F0 m (pc + 3) lsm rest)) : W p l e R s m args below meth c H locs cells slots Qf (F0 m pc lsm (v :: .ref (base + k) :: rest)) := by
  have hc := vw_at _ hk
  have hat := hR.2 k h1 h2
  rw [ent_obj hk] at hat
  obtain ⟨r, hr1, cell, q1, q2, q3, q4⟩ := hat
  have hr : r = (cn (kd k), cT (kd k), nf (kd k)) := Option.some.inj (hr1.symm.trans hc)
  subst hr
  have hap := va_apart (own := cn o) hts (wd_us hk) (cty (kd k)) (cd_ty _ hk) (cd_nm _ hk) hK hc
  obtain ⟨hSl, hfc, kC, hkC, hkind⟩ := hK.1 _ _ hc
  obtain ⟨cf, kf, fi, f, hi, hsl⟩ := hSl j hj
  have hlay := hts _ (wd_us hk _ (u_in_lay hj))
  unfold u_lay at hlay
  have hst := (u_facts hfc hkC (u_lays hts (wd_us hk) hj) hi).1
  have hfin := (cd_ft _ hk j hj).2.1
  have hdecl := (cd_ft _ hk j hj).2.2
  have hlink : (Jvm.Cond.fieldLink (cn o) idx (cn (kd k)) (cT (kd k) j).2.1 (cT (kd k) j).2.2.1).before args s = true := hts _ (lk_fl hl)
  have hi2 : s.fieldFound? (cn (kd k)) (cT (kd k) j).2.1 (cT (kd k) j).2.2.1 = some (cf, kf, fi, f) := by rw [← hdecl]; exact hi
  have hd := cd_ty _ hk j hj
  have hlen : j < ((List.range (nf (kd k))).map (fvl b base w k)).length := by simp [hj]
  have fins : ∀ H' : Heap, H'[base + k]? = some (cell.setSlot f.slot v) → H'.size = H.size → (∀ q, q ≠ base + k → H'[q]? = H[q]?) → W p l e R s m args below meth c H' (locs ++ [⟨base + k, f.slot⟩]) cells slots Qf (F0 m (pc + 3) lsm rest) := by
    intro H' g1 g2 g3
    rw [hsl] at g1 ⊢
    refine kk H' _ (hR.upd e1 e2 g2 g3 ?_) (hS.put g2 g3 (show base < base + k by omega))
    rw [ent_obj hk, mrs hj e3 (fun i _ hne => e4 i hne)]
    exact ⟨_, hc, t_OB.to (V := updV (vp_V ((List.range (nf (kd k))).map (fvl b base w k))) j v) ⟨_, g1, q2, q3, t_set q4 hap hj v⟩ (fun i _ => vp_updV_set hlen v i)⟩
  cases hfi : fin (kd k) j with
  | false =>
    rw [if_neg (by rw [hfin, hfi]; decide)] at hlay
    have h6 := u_store hfc hkC hkind hlay hi hd hn hfit
    exact W.putK hx hb (f := f) ⟨hown, hlink, ⟨_, _, _, hi2⟩, hst⟩ (by rw [q2]; exact h6) q1 q3 (by rw [hsl]; exact k2_hasslot (q4 j hj)) rfl rfl hdg fins
  | true =>
    rw [if_pos (by rw [hfin, hfi])] at hlay
    obtain ⟨hin2, rfl⟩ := hf hfi
    have hcf : m.cls = cf := by
      obtain ⟨_, _, c', _, _, _, -, -, hf', -, -, -, hown2, -⟩ := Cond.laysFinal_spec hlay
      have g1 : c' = cf := by have := hi.symm.trans hf'; simp at this; exact this.1.symm
      rw [hdecl] at hown2
      rw [← g1]; exact Option.some.inj (hown.symm.trans hown2)
    have h6 := u_fits hfc hkC hkind (Or.inr hlay) hi hd hn hfit
    exact W.putFinK hx hb hown hlink hi2 hst hcf hin2 (by rw [q2]; exact h6) q1 q3 (by rw [hsl]; exact k2_hasslot (q4 j hj)) rfl rfl hdg fins
theorem am_iast (hx : p.tables.exec = Jvm.exec) (hb : c.code = cc) (hK : va_K D vwCl (tysW cI cJ cZ) s) (hR : RW D cI cJ cZ b base w H) (hS : va_S (fun q => base < q) s.heap H locs) {k : Nat} (h1 : 1 ≤ k) (h2 : k ≤ w.1) (hk : kd k = 13) {i x : Int32} (hin : vp_in i (ln k)) (hdg : decode cc pc = .ok (.iastore, 1))
    (kk : ∀ (H1 : Heap) (locs1 : List Loc), RW D cI cJ cZ b base (wA w k i.toNatClampNeg x) H1 → va_S (fun q => base < q) s.heap H1 locs1 → W p l e R s m args below meth c H1 locs1 cells slots Qf (F0 m (pc + 1) lsm rest)) : W p l e R s m args below meth c H locs cells slots Qf (F0 m pc lsm (.int x :: .int i :: .ref (base + k) :: rest)) := by
  have hat := hR.2 k h1 h2
  rw [ent_I hk] at hat
  refine W.iast hx hb hat ((hK.2 0 _ rfl).1 (ln k) (fun j => .int (w.2.1 k j))) (fun q => by cases q) (by show ¬ (i < 0 ∨ (arrV _ _ _).slots.size ≤ _); rw [arrV_size]; exact hin) rfl rfl hdg fun H1 e1 z oq => ?_
  refine kk H1 _ (hR.upd rfl (fun j hj => ent_c (u2_ne hj) rfl rfl rfl rfl) z oq ?_) (hS.put z oq (show base < base + k by omega))
  rw [ent_I hk]
  show H1[base + k]? = some (vp_cell _ _)
  rw [e1]
  show some ((arrV cI (ln k) (fun j => .int (w.2.1 k j))).setSlot i.toNatClampNeg (.int x)) = some (arrV cI (ln k) (fun j => .int (u2 w.2.1 k i.toNatClampNeg x k j)))
  rw [arrV_store]
  refine congrArg some (arrV_c fun q _ => ?_)
  show updV _ _ _ q = Value.int (u2 w.2.1 k i.toNatClampNeg x k q)
  rw [u2_eq]
  unfold updV
  dsimp only
  split <;> rfl
theorem am_last (hx : p.tables.exec = Jvm.exec) (hb : c.code = cc) (hK : va_K D vwCl (tysW cI cJ cZ) s) (hR : RW D cI cJ cZ b base w H) (hS : va_S (fun q => base < q) s.heap H locs) {k : Nat} (h1 : 1 ≤ k) (h2 : k ≤ w.1) (hk : kd k = 14) {i : Int32} {x : Int64} (hin : vp_in i (ln k)) (hdg : decode cc pc = .ok (.lastore, 1))
    (kk : ∀ (H1 : Heap) (locs1 : List Loc), RW D cI cJ cZ b base (wL w k i.toNatClampNeg x) H1 → va_S (fun q => base < q) s.heap H1 locs1 → W p l e R s m args below meth c H1 locs1 cells slots Qf (F0 m (pc + 1) lsm rest)) : W p l e R s m args below meth c H locs cells slots Qf (F0 m pc lsm (.long x :: .int i :: .ref (base + k) :: rest)) := by
  have hat := hR.2 k h1 h2
  rw [ent_J hk] at hat
  refine W.last hx hb hat ((hK.2 1 _ rfl).1 (ln k) (fun j => .long (w.2.2.1 k j))) (fun q => by cases q) (by show ¬ (i < 0 ∨ (arrV _ _ _).slots.size ≤ _); rw [arrV_size]; exact hin) rfl rfl hdg fun H1 e1 z oq => ?_
  refine kk H1 _ (hR.upd rfl (fun j hj => ent_c rfl (u2_ne hj) rfl rfl rfl) z oq ?_) (hS.put z oq (show base < base + k by omega))
  rw [ent_J hk]
  show H1[base + k]? = some (vp_cell _ _)
  rw [e1]
  show some ((arrV cJ (ln k) (fun j => .long (w.2.2.1 k j))).setSlot i.toNatClampNeg (.long x)) = some (arrV cJ (ln k) (fun j => .long (u2 w.2.2.1 k i.toNatClampNeg x k j)))
  rw [arrV_store]
  refine congrArg some (arrV_c fun q _ => ?_)
  show updV _ _ _ q = Value.long (u2 w.2.2.1 k i.toNatClampNeg x k q)
  rw [u2_eq]
  unfold updV
  dsimp only
  split <;> rfl
theorem nar_z {x : Int32} (h : x = 0 ∨ x = 1) : narrow .boolean (.int x) = .int x ∧ fits .boolean (.int x) = true := by
  rcases h with rfl | rfl <;> exact ⟨rfl, rfl⟩
theorem am_zast (hx : p.tables.exec = Jvm.exec) (hb : c.code = cc) (hK : va_K D vwCl (tysW cI cJ cZ) s) (hR : RW D cI cJ cZ b base w H) (hS : va_S (fun q => base < q) s.heap H locs) {k : Nat} (h1 : 1 ≤ k) (h2 : k ≤ w.1) (hk : kd k = 15) {i x : Int32} (hz : x = 0 ∨ x = 1) (hin : vp_in i (ln k)) (hdg : decode cc pc = .ok (.bastore, 1))
    (kk : ∀ (H1 : Heap) (locs1 : List Loc), RW D cI cJ cZ b base (wA w k i.toNatClampNeg x) H1 → va_S (fun q => base < q) s.heap H1 locs1 → W p l e R s m args below meth c H1 locs1 cells slots Qf (F0 m (pc + 1) lsm rest)) : W p l e R s m args below meth c H locs cells slots Qf (F0 m pc lsm (.int x :: .int i :: .ref (base + k) :: rest)) := by
  have hat := hR.2 k h1 h2
  rw [ent_Z hk] at hat
  refine W.zast hx hb hat ((hK.2 2 _ rfl).1 (ln k) (fun j => .int (w.2.1 k j))) (fun q => by cases q) (by show ¬ (i < 0 ∨ (arrV _ _ _).slots.size ≤ _); rw [arrV_size]; exact hin) rfl rfl hdg fun H1 e1 z oq => ?_
  refine kk H1 _ (hR.upd rfl (fun j hj => ent_c (u2_ne hj) rfl rfl rfl rfl) z oq ?_) (hS.put z oq (show base < base + k by omega))
  rw [ent_Z hk]
  show H1[base + k]? = some (vp_cell _ _)
  rw [e1, (nar_z hz).1]
  show some ((arrV cZ (ln k) (fun j => .int (w.2.1 k j))).setSlot i.toNatClampNeg (.int x)) = some (arrV cZ (ln k) (fun j => .int (u2 w.2.1 k i.toNatClampNeg x k j)))
  rw [arrV_store]
  refine congrArg some (arrV_c fun q _ => ?_)
  show updV _ _ _ q = Value.int (u2 w.2.1 k i.toNatClampNeg x k q)
  rw [u2_eq]
  unfold updV
  dsimp only
  split <;> rfl
/-- behind a call -/
theorem am_call {y' : Nat} {Q' : Option Value → Wd → Prop} {va : Array Value} {st0 : List Value} (hrun : va_Run p l e R s m args below meth c H locs cells slots (mgc y') (mgs y') (F0 m pc lsm st0) rest (Qcx D cI cJ cZ b base Q' va) (fun q => base < q)) (hS : va_S (fun q => base < q) s.heap H locs)
    (kk : ∀ (v : Option Value) (w' : Wd) (H1 : Heap) (locs1 : List Loc), Q' v w' → RW D cI cJ cZ b base w' H1 → va_S (fun q => base < q) s.heap H1 locs1 → W p l e R s m args below meth c H1 locs1 (cells + mgc y') (slots + mgs y') Qf (F0 m (pc + 3) lsm ((v.map (tv b base)).toList ++ rest))) : W p l e R s m args below meth c H locs cells slots Qf (F0 m pc lsm st0) := by
  intro T hT X
  obtain ⟨v, st₀, t, T', L, h0, X', hL, e1, e2, ⟨⟨v', w', hq, hv, hr⟩, hz, hk⟩, st⟩ := hrun T hT X
  have hv : v = v'.map (tv b base) := by cases hv; rfl
  subst hv
  rw [h0] at hz hk
  obtain ⟨t2, a1, b1⟩ := kk v' w' T'.heap (locs ++ L) hq (by rw [e1]; exact hr)
    ⟨Nat.le_trans hS.1 (by rw [e1]; exact hz), fun q h1 h2 => by rw [e1, hk q (Nat.lt_of_lt_of_le h1 hS.1) h2]; exact hS.2.1 q h1 h2, fun q hq => by
      rcases List.mem_append.mp hq with h | h
      · exact hS.2.2 q h
      · exact hL q h⟩ T' rfl X'
  exact ⟨t2, st t2 a1, b1⟩
end SOUND
