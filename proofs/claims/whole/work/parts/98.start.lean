def R_law : String := "MadeTongueLaw"
def lw_P (b : Addr) (xs : List Int32) (args : Array Value) (s : State) : Prop := args = #[.ref b] ∧ s.IntsAt b xs ∧ xs.length ≤ 4096 ∧ (Jvm.Cond.and given_1 narrow_1).before args s = true
def lw_Q (_ : Array Value) (s : State) (o : Outcome) (t : State) : Prop := o = .returned (some (.int 1)) ∧ Framed s o t [] 600000 7302250
def lw_Z (below : List Frame) (a : Array Value) (s : State) : State → Prop := fun t => ∃ o, t.status = .running ∧ Ended t below o ∧ lw_Q a s o t
/-- the law's own end, with 1 on the stack, nothing written that was there before, its room as the claim has it -/
theorem lw_ret {p : Program} {l : Launch} {e : Env} {s : State} {m : MethodId} {below : List Frame} {meth : Method} {c : Code} {b : Nat} (hx : p.tables.exec = Jvm.exec) (hb : c.code = code) (hr : meth.sig.returnType = ret) (hlocks : meth.locks = false) {pc : Nat} {H : Heap} {ls : Array Slot} (hdg : decode code pc = .ok (.ireturn, 1)) : W p l e room_1 s m #[Value.ref b] below meth c H [] 600000 7302250 (lw_Z below #[Value.ref b] s) (F0 m pc ls [.int 1]) := by
  intro T hT X
  obtain ⟨fs, hret, hrun, hended, hW, hframe⟩ := X.leave (v := some (.int 1)) (hlocks := hlocks) (fun h => by rw [hr] at h; cases h)
  have hmeth' : T.vm.method? m = some meth := X.method'
  refine ⟨T.setFrames fs, ?_, .returned (some (.int 1)), hrun, hended, rfl, ⟨_, rfl⟩, hW, hframe⟩
  jvm_step X.here [X.here.top, hx, hb, hdg, hmeth', hr, ret, narrow_b1]
  (try refine ⟨rfl, ?_⟩); (try refine ⟨rfl, ?_⟩)
  first | (intro acts; rw [hret _ acts rfl rfl rfl]) | rw [hret _ _ rfl rfl rfl]
  exact Steps.refl _
/-- what holds at the law's entry: the machine, the code, the tables' words (any of lw_tbl by 'hts w (by decide +kernel)'), the script of L ints xs at the cell b, what the Statement gives of the start (any of its parts by flat_of_before) -/
def lw_At (p : Program) (s : State) (m : MethodId) (meth : Method) (c : Code) (b L : Nat) (xs : Nat → Int32) : Prop :=
  p.tables.exec = Jvm.exec ∧ c.code = code ∧ meth.sig.returnType = ret ∧ c.maxLocals = 4 ∧ s.vm.findClass R_law = some m.cls ∧ (∀ w ∈ lw_tbl, w.before #[Value.ref b] s = true) ∧ va_X b L xs s s.heap ∧ b < s.heap.size ∧ meth.locks = false ∧ (Jvm.Cond.and given_1 narrow_1).before #[Value.ref b] s = true
theorem whole_open (hlaw : ∀ (L : Nat) (xs : Nat → Int32), L ≤ 4096 → Ct (L, xs) 61 333 [.ref 0] w00 (fun v _ => v = some (.int 1))) {p : Program} {e : Env} {s : State} {m : MethodId} {below : List Frame} {meth : Method} {c : Code} (l : Launch) {b L : Nat} {xs : Nat → Int32} (hL : L ≤ 4096) (C0 : lw_At p s m meth c b L xs) : W p l e room_1 s m #[Value.ref b] below meth c s.heap [] 0 0 (lw_Z below #[Value.ref b] s) (entryFrame m ([Value.ref b] : List Value).toArray 4) := by
  obtain ⟨hx, hb, hr, hml, hown, hts, hX, hbl, hlocks, hgv⟩ := C0
  have htg : ∀ z ∈ tbg, z.before #[Value.ref b] s = true := fun z hz => hts z (List.mem_filter.mp hz).1
  have hex : ∀ ci, ci < 13 → ∃ (cC : ClassId) (iS : Nat → Nat), u_Kn s (cn ci) (cT ci) (nf ci) cC iS := fun ci h => u_known htg (wd_us h) (htg _ (wd_g (wd_mk ci h) rfl))
  obtain ⟨D, hD⟩ : ∃ D : va_G, ∀ ci, ci < 13 → u_Kn s (cn ci) (cT ci) (nf ci) (D.1 ci) (D.2 ci) := by
    refine ⟨(fun ci => if h : ci < 13 then (hex ci h).choose else (hex 0 (by decide)).choose, fun ci => if h : ci < 13 then (hex ci h).choose_spec.choose else fun _ => 0), fun ci h => ?_⟩
    simp only [dif_pos h]
    exact (hex ci h).choose_spec.choose_spec
  obtain ⟨cI, kI, compI, fI1, fI2, fI3⟩ := Cond.arrayClass_spec (htg _ (wd_g wd_arI rfl))
  obtain ⟨cJ, kJ, compJ, fJ1, fJ2, fJ3⟩ := Cond.arrayClass_spec (htg _ (wd_g wd_arJ rfl))
  obtain ⟨cZ, kZ, compZ, fZ1, fZ2, fZ3⟩ := Cond.arrayClass_spec (htg _ (wd_g wd_arZ rfl))
  have hK : va_K D vwCl (tysW cI cJ cZ) s := by
    refine ⟨fun ci q hq => ?_, fun k q hk => ?_⟩
    · have hlt : ci < 13 := (List.getElem?_eq_some_iff.mp hq).1
      have := (vw_at ci hlt).symm.trans hq
      cases this
      exact hD ci hlt
    · match k, hk with
      | 0, hk => cases hk; exact ⟨fun n z => ⟨fun k h => (by cases h), kI, fI2, compI, fI3⟩, fI1⟩
      | 1, hk => cases hk; exact ⟨fun n z => ⟨fun k h => (by cases h), kJ, fJ2, compJ, fJ3⟩, fJ1⟩
      | 2, hk => cases hk; exact ⟨fun n z => ⟨fun k h => (by cases h), kZ, fZ2, compZ, fZ3⟩, fZ1⟩
      | n + 3, hk => cases hk
  obtain ⟨base, hbase⟩ : ∃ base, base + 1 = s.heap.size := ⟨s.heap.size - 1, by omega⟩
  have hbb : b ≤ base := by omega
  have hR : RW D cI cJ cZ b base w00 s.heap := ⟨fun _ => by show s.heap.size = base + 1 + 0; omega, fun k h1 h2 => absurd h2 (by show ¬ k ≤ 0; omega)⟩
  have hcl := sound_cl (p := p) (l := l) (e := e) (R := room_1) (s := s) (m := m) (args := #[Value.ref b]) (below := below) (meth := meth) (c := c) (D := D) (cI := cI) (cJ := cJ) (cZ := cZ) (b := b) (base := base) (y := 333) (d := 60) (sc := (L, xs)) (Qf := lw_Z below #[Value.ref b] s) (Q := fun v _ => v = some (.int 1)) (by decide) hx hb hml htg hown (fun h => by cases h) hK hX hbb (by omega) (by decide) (by decide) (by decide) (by decide) (fun y' av w Q' h1 h2 h3 => sound hbb 60 y' av w Q' h1 h2 h3)
    (fun x w H locs lsm pc gc gs hdg hrc hQ hgc hgs hR hS => by
      have hx1 : x = 1 := by cases hQ; rfl
      subst hx1
      refine W.widen (k := 600000) (n := 7302250) (Nat.le_trans hgc (by decide)) (Nat.le_trans hgs (by decide)) ?_
      refine va_forget (fun q hq => ?_) (lw_ret hx hb hr hlocks hdg)
      have : base < q.base := hS.2.2 q hq
      omega)
    (fun x w H locs lsm pc gc gs hdg hrc => absurd hrc (by decide))
    (fun w H locs lsm pc gc gs hdg hrc => absurd hrc (by decide))
  have hmap : ([Value.ref 0] : List Value).map (tv b base) = [Value.ref b] := rfl
  have hl := lv_entry ([Value.ref b]) (n := 4) (Nat.le_of_ble_eq_true rfl)
  rw [lg_entry_eq]
  generalize (lg_sl ([Value.ref b]) ++ List.replicate (4 - (lg_sl ([Value.ref b])).length) Slot.unset).toArray = lsm at hl ⊢
  exact hlaw L xs hL _ hcl (Nat.zero_le _) (Nat.zero_le _) s.heap [] lsm hR va_S.rf (LR_entry (y := 333) (av := [.ref 0]) (by decide) hl)
theorem whole_start {p : Program} {e : Env} {s : State} {m : MethodId} {below : List Frame} {meth : Method} {c : Code} (l : Launch) {b L : Nat} {xs : Nat → Int32} (hL : L ≤ 4096) (C0 : lw_At p s m meth c b L xs) : W p l e room_1 s m #[Value.ref b] below meth c s.heap [] 0 0 (lw_Z below #[Value.ref b] s) (entryFrame m ([Value.ref b] : List Value).toArray 4) :=
  whole_open law_ct l hL C0
