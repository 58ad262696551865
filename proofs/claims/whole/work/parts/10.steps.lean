/-- the machine at a place, as the abstract one has it -/
def Kw (p : Program) (l : Launch) (e : Env) (R : Room) (s : State) (m : MethodId) (args : Array Value) (below : List Frame) (meth : Method) (c : Code) (D : va_G) (cI cJ cZ : ClassId) (b base y : Nat) (Qf : State → Prop) : Kt := fun pc ls st w gc gs =>
  gc ≤ mgc y → gs ≤ mgs y → ∀ (H : Heap) (locs : List Loc) (lsm : Array Slot), RW D cI cJ cZ b base w H → va_S (fun q => base < q) s.heap H locs → LR b base (mxl y) ls lsm → W p l e R s m args below meth c H locs gc gs Qf (F0 m pc lsm (st.map (tv b base)))
/-- the switches -/
theorem sw_go {K : Nat → Prop} {x : Int32} {d : Nat} : ∀ (l : List (Int32 × Nat)), q_sw x K d l → (∃ q ∈ l, x = q.1 ∧ K q.2 ∧ ∃ i : Nat, l[i]? = some q ∧ ∀ (j : Nat) (q' : Int32 × Nat), j < i → l[j]? = some q' → x ≠ q'.1) ∨ ((∀ q ∈ l, x ≠ q.1) ∧ K d)
  | [], h => Or.inr ⟨fun _ hq => absurd hq List.not_mem_nil, h⟩
  | (a, t) :: r, h => by
    by_cases hx : x = a
    · exact Or.inl ⟨(a, t), List.mem_cons_self, hx, h.1 hx, 0, rfl, fun j _ hj => absurd hj (Nat.not_lt_zero _)⟩
    · rcases sw_go r (h.2 hx) with ⟨q, hq, e1, e2, i, e3, e4⟩ | ⟨e1, e2⟩
      · refine Or.inl ⟨q, List.mem_cons_of_mem _ hq, e1, e2, i + 1, e3, fun j q' hj hq' => ?_⟩
        cases j with
        | zero => cases hq'; exact hx
        | succ j => exact e4 j q' (by omega) hq'
      · exact Or.inr ⟨fun q hq => by
          rcases List.mem_cons.mp hq with rfl | hq
          · exact hx
          · exact e1 q hq, e2⟩
theorem lsw_go {K : Nat → Prop} {x : Int32} {pc dn : Nat} {d : Int} (hd : (pc : Int) + d = (dn : Int)) : ∀ (ps : List (Int × Int)) (l : List (Int32 × Nat)), ps.map (fun q => (q.1, (pc : Int) + q.2)) = l.map (fun q => (q.1.toInt, (q.2 : Int))) → q_sw x K dn l → ∃ t : Nat, (pc : Int) + Op.lookupswitch.offset ps d x.toInt = (t : Int) ∧ K t
  | [], [], _, h => ⟨dn, by rw [show Op.lookupswitch.offset [] d x.toInt = d from rfl]; exact hd, h⟩
  | [], _ :: _, h, _ => by cases h
  | _ :: _, [], h, _ => by cases h
  | (a, o) :: ps, (k, t) :: l, h, hk => by
    have h0 := (List.cons.inj h).1
    have h1 := (List.cons.inj h).2
    have ha : a = k.toInt := congrArg Prod.fst h0
    have ho : (pc : Int) + o = (t : Int) := congrArg Prod.snd h0
    by_cases hx : x = k
    · subst hx
      refine ⟨t, ?_, hk.1 rfl⟩
      rw [← ho, ha]
      simp [Op.lookupswitch.offset]
    · obtain ⟨t', e1, e2⟩ := lsw_go hd ps l h1 (hk.2 hx)
      refine ⟨t', ?_, e2⟩
      rw [lv_osw hx ha.symm]
      exact e1
set_option maxHeartbeats 16000000 in
set_option maxRecDepth 100000 in
theorem sound_do {p : Program} {l : Launch} {e : Env} {R : Room} {s : State} {m : MethodId} {args : Array Value} {below : List Frame} {meth : Method} {c : Code} {D : va_G} {cI cJ cZ : ClassId} {b base y d : Nat} {sc : Sc} {Qf : State → Prop} {Q : Option Value → Wd → Prop}
    (hx : p.tables.exec = Jvm.exec) (hb : c.code = mby y) (hml : c.maxLocals = mxl y) (hts : ∀ z ∈ tbg, z.before args s = true) (hown : s.vm.findClass (cn (mown y)) = some m.cls) (hin : mini y = true → meth.name = "<init>") (hK : va_K D vwCl (tysW cI cJ cZ) s) (hX : va_X b sc.1 sc.2 s s.heap) (hbb : b ≤ base) (hbs : base < s.heap.size)
    (hRf : d + 1 ≤ R.frames) (hRl : 64 * (d + 1) ≤ R.locals) (hRc : mgc y ≤ R.cells) (hRs : mgs y ≤ R.slots)
    (IH : ∀ y' av w Q', y' < 333 → (q_ent av).length ≤ mxl y' → Ct sc d y' av w Q' → Met l (mnm y') (mws y') (rmd d y') (Pcx D cI cJ cZ b base sc w av) (Qcx D cI cJ cZ b base Q') (mgc y') (mgs y') (fun q => base < q))
    (hri : ∀ x w H locs lsm pc gc gs, decode (mby y) pc = .ok (.ireturn, 1) → (mrc y = 1 ∨ mrc y = 2 ∧ (x = 0 ∨ x = 1)) → Q (some (.int x)) w → gc ≤ mgc y → gs ≤ mgs y → RW D cI cJ cZ b base w H → va_S (fun q => base < q) s.heap H locs → W p l e R s m args below meth c H locs gc gs Qf (F0 m pc lsm [.int x]))
    (hrl : ∀ x w H locs lsm pc gc gs, decode (mby y) pc = .ok (.lreturn, 1) → mrc y = 3 → Q (some (.long x)) w → gc ≤ mgc y → gs ≤ mgs y → RW D cI cJ cZ b base w H → va_S (fun q => base < q) s.heap H locs → W p l e R s m args below meth c H locs gc gs Qf (F0 m pc lsm [.long x]))
    (hrv : ∀ w H locs lsm pc gc gs, decode (mby y) pc = .ok (.return_, 1) → mrc y = 0 → Q none w → gc ≤ mgc y → gs ≤ mgs y → RW D cI cJ cZ b base w H → va_S (fun q => base < q) s.heap H locs → W p l e R s m args below meth c H locs gc gs Qf (F0 m pc lsm []))
    {pc nx a bb : Nat} {v : Int32} (i : Instr) (hd : decode (mby y) pc = .ok (i, nx - pc)) (hc : ck_i y pc nx a bb v i = true) {ls : Lo} {st : List Value} {w : Wd} {gc gs : Nat}
    (h : am_do sc (Ct sc d) y Q (Kw p l e R s m args below meth c D cI cJ cZ b base y Qf) nx a bb v ls st w gc gs i) : Kw p l e R s m args below meth c D cI cJ cZ b base y Qf pc ls st w gc gs := by
  intro hgc hgs H locs lsm hR hS hL
  have hnA : ∀ q, s.heap.size ≤ q → base < q := fun q hq => by omega
  cases i
  case iconst n =>
    obtain ⟨hl, hv⟩ := and_s hc
    obtain ⟨rfl, hdg⟩ := dc hd hl
    exact lv_iconst hx hb hdg (of_decide_eq_true hv) (h hgc hgs H locs lsm hR hS hL)
  case bipush n =>
    obtain ⟨hl, hv⟩ := and_s hc
    obtain ⟨rfl, hdg⟩ := dc hd hl
    exact lv_bipush hx hb hdg (of_decide_eq_true hv) (h hgc hgs H locs lsm hR hS hL)
  case sipush n =>
    obtain ⟨hl, hv⟩ := and_s hc
    obtain ⟨rfl, hdg⟩ := dc hd hl
    exact lv_sipush hx hb hdg (of_decide_eq_true hv) (h hgc hgs H locs lsm hR hS hL)
  case ldc n =>
    obtain ⟨hl, hv⟩ := and_s hc
    obtain ⟨rfl, hdg⟩ := dc hd hl
    exact lv_ldc hx hb hown (hts _ (lk_ki hv)) hdg (h hgc hgs H locs lsm hR hS hL)
  case ldc_w n =>
    obtain ⟨hl, hv⟩ := and_s hc
    obtain ⟨rfl, hdg⟩ := dc hd hl
    exact lv_ldcw hx hb hown (hts _ (lk_ki hv)) hdg (h hgc hgs H locs lsm hR hS hL)
  case lconst n =>
    obtain ⟨hl, hv⟩ := and_s hc
    obtain ⟨rfl, hdg⟩ := dc hd hl
    exact lv_lconst hx hb hdg (of_decide_eq_true hv) (h hgc hgs H locs lsm hR hS hL)
  case ldc2_w n =>
    obtain ⟨hl, hv⟩ := and_s hc
    obtain ⟨rfl, hdg⟩ := dc hd hl
    exact lv_ldc2 hx hb hown (hts _ (lk_kl hv)) hdg (h hgc hgs H locs lsm hR hS hL)
  case iload n =>
    obtain ⟨hl, hv⟩ := and_s hc
    obtain ⟨rfl, hdg⟩ := dc hd hl
    obtain rfl := Nat.eq_of_beq_eq_true hv
    obtain ⟨x, hx1, h⟩ := q_loc_s _ _ h
    obtain ⟨z, rfl, h⟩ := q_int_s h
    exact lv_iload hx hb hdg (hL.2.2.2 _ _ hx1) (h hgc hgs H locs lsm hR hS hL)
  case iload_n n =>
    obtain ⟨hl, hv⟩ := and_s hc
    obtain ⟨rfl, hdg⟩ := dc hd hl
    replace hv := Nat.eq_of_beq_eq_true hv
    obtain ⟨x, hx1, h⟩ := q_loc_s _ _ h
    obtain ⟨z, rfl, h⟩ := q_int_s h
    exact lv_iload_n hx hb hdg hv (hL.2.2.2 _ _ hx1) (h hgc hgs H locs lsm hR hS hL)
  case lload n =>
    obtain ⟨hl, hv⟩ := and_s hc
    obtain ⟨rfl, hdg⟩ := dc hd hl
    obtain rfl := Nat.eq_of_beq_eq_true hv
    obtain ⟨x, hx1, h⟩ := q_loc_s _ _ h
    obtain ⟨z, rfl, h⟩ := q_long_s h
    exact lv_lload hx hb hdg (hL.2.2.2 _ _ hx1) (h hgc hgs H locs lsm hR hS hL)
  case lload_n n =>
    obtain ⟨hl, hv⟩ := and_s hc
    obtain ⟨rfl, hdg⟩ := dc hd hl
    replace hv := Nat.eq_of_beq_eq_true hv
    obtain ⟨x, hx1, h⟩ := q_loc_s _ _ h
    obtain ⟨z, rfl, h⟩ := q_long_s h
    exact lv_lload_n hx hb hdg hv (hL.2.2.2 _ _ hx1) (h hgc hgs H locs lsm hR hS hL)
  case aload n =>
    obtain ⟨hl, hv⟩ := and_s hc
    obtain ⟨rfl, hdg⟩ := dc hd hl
    obtain rfl := Nat.eq_of_beq_eq_true hv
    obtain ⟨x, hx1, h⟩ := q_loc_s _ _ h
    obtain ⟨z, rfl, h⟩ := q_ref_s h
    exact lv_aload hx hb hdg (hL.2.2.2 _ _ hx1) (h hgc hgs H locs lsm hR hS hL)
  case aload_n n =>
    obtain ⟨hl, hv⟩ := and_s hc
    obtain ⟨rfl, hdg⟩ := dc hd hl
    replace hv := Nat.eq_of_beq_eq_true hv
    obtain ⟨x, hx1, h⟩ := q_loc_s _ _ h
    obtain ⟨z, rfl, h⟩ := q_ref_s h
    exact lv_aload_n hx hb hdg hv (hL.2.2.2 _ _ hx1) (h hgc hgs H locs lsm hR hS hL)
  case istore n =>
    obtain ⟨hl, hv⟩ := and_s hc
    obtain ⟨rfl, hdg⟩ := dc hd hl
    obtain rfl := Nat.eq_of_beq_eq_true hv
    obtain ⟨z, r, rfl, h⟩ := q_popi_s h
    obtain ⟨t, h, h2, h3, h4⟩ := q_st1_s _ _ h
    exact lv_istore hx hb hdg hL.has (by rw [← hL.2.2.1]; exact h2) rfl (fun ls' hl' => h hgc hgs H locs ls' hR hS (hL.st1 h3 h4 hl'))
  case istore_n n =>
    obtain ⟨hl, hv⟩ := and_s hc
    obtain ⟨rfl, hdg⟩ := dc hd hl
    replace hv := Nat.eq_of_beq_eq_true hv
    obtain ⟨z, r, rfl, h⟩ := q_popi_s h
    obtain ⟨t, h, h2, h3, h4⟩ := q_st1_s _ _ h
    exact lv_istore_n hx hb hdg hv hL.has (by rw [← hL.2.2.1]; exact h2) rfl (fun ls' hl' => h hgc hgs H locs ls' hR hS (hL.st1 h3 h4 hl'))
  case lstore n =>
    obtain ⟨hl, hv⟩ := and_s hc
    obtain ⟨rfl, hdg⟩ := dc hd hl
    obtain rfl := Nat.eq_of_beq_eq_true hv
    obtain ⟨z, r, rfl, h⟩ := q_popl_s h
    obtain ⟨t, h, h2, h3, h4⟩ := q_st2_s _ _ h
    exact lv_lstore hx hb hdg hL.has (by rw [← hL.2.2.1]; exact h2) rfl (fun ls' hl' => h hgc hgs H locs ls' hR hS (hL.st2 h3 h4 hl'))
  case lstore_n n =>
    obtain ⟨hl, hv⟩ := and_s hc
    obtain ⟨rfl, hdg⟩ := dc hd hl
    replace hv := Nat.eq_of_beq_eq_true hv
    obtain ⟨z, r, rfl, h⟩ := q_popl_s h
    obtain ⟨t, h, h2, h3, h4⟩ := q_st2_s _ _ h
    exact lv_lstore_n hx hb hdg hv hL.has (by rw [← hL.2.2.1]; exact h2) rfl (fun ls' hl' => h hgc hgs H locs ls' hR hS (hL.st2 h3 h4 hl'))
  case astore n =>
    obtain ⟨hl, hv⟩ := and_s hc
    obtain ⟨rfl, hdg⟩ := dc hd hl
    obtain rfl := Nat.eq_of_beq_eq_true hv
    obtain ⟨z, r, rfl, h⟩ := q_popr_s h
    obtain ⟨t, h, h2, h3, h4⟩ := q_st1_s _ _ h
    exact lv_astore hx hb hdg hL.has (by rw [← hL.2.2.1]; exact h2) rfl (fun ls' hl' => h hgc hgs H locs ls' hR hS (hL.st1 h3 h4 hl'))
  case astore_n n =>
    obtain ⟨hl, hv⟩ := and_s hc
    obtain ⟨rfl, hdg⟩ := dc hd hl
    replace hv := Nat.eq_of_beq_eq_true hv
    obtain ⟨z, r, rfl, h⟩ := q_popr_s h
    obtain ⟨t, h, h2, h3, h4⟩ := q_st1_s _ _ h
    exact lv_astore_n hx hb hdg hv hL.has (by rw [← hL.2.2.1]; exact h2) rfl (fun ls' hl' => h hgc hgs H locs ls' hR hS (hL.st1 h3 h4 hl'))
  case iinc n q =>
    obtain ⟨hl, hv⟩ := and_s hc
    obtain ⟨hv, hq⟩ := and_s hv
    obtain ⟨rfl, hdg⟩ := dc hd hl
    obtain rfl := Nat.eq_of_beq_eq_true hv
    obtain rfl := of_decide_eq_true hq
    obtain ⟨x, hx1, h⟩ := q_loc_s _ _ h
    obtain ⟨z, rfl, h⟩ := q_int_s h
    obtain ⟨t, h, h2, h3, h4⟩ := q_st1_s _ _ h
    obtain ⟨k, hk⟩ := List.getElem?_of_mem (lol_in (b := b) (base := base) hx1)
    exact lv_iinc (k := k) hx hb hdg hL.has hk rfl (by rw [← hL.2.2.1]; exact h2) rfl (fun ls' hl' => h hgc hgs H locs ls' hR hS (hL.st1 h3 h4 hl'))
  case iadd =>
    obtain ⟨rfl, hdg⟩ := dc hd hc
    obtain ⟨z, r, rfl, h⟩ := q_popi_s h
    obtain ⟨x, r, rfl, h⟩ := q_popi_s h
    exact lv_iadd hx hb hdg (h hgc hgs H locs lsm hR hS hL)
  case isub =>
    obtain ⟨rfl, hdg⟩ := dc hd hc
    obtain ⟨z, r, rfl, h⟩ := q_popi_s h
    obtain ⟨x, r, rfl, h⟩ := q_popi_s h
    exact lv_isub hx hb hdg (h hgc hgs H locs lsm hR hS hL)
  case imul =>
    obtain ⟨rfl, hdg⟩ := dc hd hc
    obtain ⟨z, r, rfl, h⟩ := q_popi_s h
    obtain ⟨x, r, rfl, h⟩ := q_popi_s h
    exact lv_imul hx hb hdg (h hgc hgs H locs lsm hR hS hL)
  case iand =>
    obtain ⟨rfl, hdg⟩ := dc hd hc
    obtain ⟨z, r, rfl, h⟩ := q_popi_s h
    obtain ⟨x, r, rfl, h⟩ := q_popi_s h
    exact lv_iand hx hb hdg (h hgc hgs H locs lsm hR hS hL)
  case ior =>
    obtain ⟨rfl, hdg⟩ := dc hd hc
    obtain ⟨z, r, rfl, h⟩ := q_popi_s h
    obtain ⟨x, r, rfl, h⟩ := q_popi_s h
    exact lv_ior hx hb hdg (h hgc hgs H locs lsm hR hS hL)
  case ixor =>
    obtain ⟨rfl, hdg⟩ := dc hd hc
    obtain ⟨z, r, rfl, h⟩ := q_popi_s h
    obtain ⟨x, r, rfl, h⟩ := q_popi_s h
    exact lv_ixor hx hb hdg (h hgc hgs H locs lsm hR hS hL)
  case ishl =>
    obtain ⟨rfl, hdg⟩ := dc hd hc
    obtain ⟨z, r, rfl, h⟩ := q_popi_s h
    obtain ⟨x, r, rfl, h⟩ := q_popi_s h
    exact lv_ishl hx hb hdg (h hgc hgs H locs lsm hR hS hL)
  case ishr =>
    obtain ⟨rfl, hdg⟩ := dc hd hc
    obtain ⟨z, r, rfl, h⟩ := q_popi_s h
    obtain ⟨x, r, rfl, h⟩ := q_popi_s h
    exact lv_ishr hx hb hdg (h hgc hgs H locs lsm hR hS hL)
  case iushr =>
    obtain ⟨rfl, hdg⟩ := dc hd hc
    obtain ⟨z, r, rfl, h⟩ := q_popi_s h
    obtain ⟨x, r, rfl, h⟩ := q_popi_s h
    exact lv_iushr hx hb hdg rfl (h hgc hgs H locs lsm hR hS hL)
  case idiv =>
    obtain ⟨rfl, hdg⟩ := dc hd hc
    obtain ⟨z, r, rfl, h⟩ := q_popi_s h
    obtain ⟨x, r, rfl, hz, h⟩ := q_popi_s h
    exact lv_idiv hx hb hdg hz.1 (h hgc hgs H locs lsm hR hS hL)
  case irem =>
    obtain ⟨rfl, hdg⟩ := dc hd hc
    obtain ⟨z, r, rfl, h⟩ := q_popi_s h
    obtain ⟨x, r, rfl, hz, h⟩ := q_popi_s h
    exact lv_irem hx hb hdg hz.1 (h hgc hgs H locs lsm hR hS hL)
  case ladd =>
    obtain ⟨rfl, hdg⟩ := dc hd hc
    obtain ⟨z, r, rfl, h⟩ := q_popl_s h
    obtain ⟨x, r, rfl, h⟩ := q_popl_s h
    exact lv_ladd hx hb hdg (h hgc hgs H locs lsm hR hS hL)
  case lsub =>
    obtain ⟨rfl, hdg⟩ := dc hd hc
    obtain ⟨z, r, rfl, h⟩ := q_popl_s h
    obtain ⟨x, r, rfl, h⟩ := q_popl_s h
    exact lv_lsub hx hb hdg (h hgc hgs H locs lsm hR hS hL)
  case lmul =>
    obtain ⟨rfl, hdg⟩ := dc hd hc
    obtain ⟨z, r, rfl, h⟩ := q_popl_s h
    obtain ⟨x, r, rfl, h⟩ := q_popl_s h
    exact lv_lmul hx hb hdg (h hgc hgs H locs lsm hR hS hL)
  case lor =>
    obtain ⟨rfl, hdg⟩ := dc hd hc
    obtain ⟨z, r, rfl, h⟩ := q_popl_s h
    obtain ⟨x, r, rfl, h⟩ := q_popl_s h
    exact lv_lor hx hb hdg (h hgc hgs H locs lsm hR hS hL)
  case lshl =>
    obtain ⟨rfl, hdg⟩ := dc hd hc
    obtain ⟨z, r, rfl, h⟩ := q_popi_s h
    obtain ⟨x, r, rfl, h⟩ := q_popl_s h
    exact lv_lshl hx hb hdg rfl (h hgc hgs H locs lsm hR hS hL)
  case lshr =>
    obtain ⟨rfl, hdg⟩ := dc hd hc
    obtain ⟨z, r, rfl, h⟩ := q_popi_s h
    obtain ⟨x, r, rfl, h⟩ := q_popl_s h
    exact lv_lshr hx hb hdg rfl (h hgc hgs H locs lsm hR hS hL)
  case lcmp =>
    obtain ⟨rfl, hdg⟩ := dc hd hc
    obtain ⟨z, r, rfl, h⟩ := q_popl_s h
    obtain ⟨x, r, rfl, h⟩ := q_popl_s h
    exact W.lcmp hx hb hdg (h hgc hgs H locs lsm hR hS hL)
  case ineg =>
    obtain ⟨rfl, hdg⟩ := dc hd hc
    obtain ⟨z, r, rfl, h⟩ := q_popi_s h
    exact lv_ineg hx hb hdg (h hgc hgs H locs lsm hR hS hL)
  case i2l =>
    obtain ⟨rfl, hdg⟩ := dc hd hc
    obtain ⟨z, r, rfl, h⟩ := q_popi_s h
    exact lv_i2l hx hb hdg rfl (h hgc hgs H locs lsm hR hS hL)
  case l2i =>
    obtain ⟨rfl, hdg⟩ := dc hd hc
    obtain ⟨z, r, rfl, h⟩ := q_popl_s h
    exact lv_l2i hx hb hdg rfl (h hgc hgs H locs lsm hR hS hL)
  case i2b =>
    obtain ⟨rfl, hdg⟩ := dc hd hc
    obtain ⟨z, r, rfl, h⟩ := q_popi_s h
    exact lv_i2b hx hb hdg rfl (h hgc hgs H locs lsm hR hS hL)
  case i2s =>
    obtain ⟨rfl, hdg⟩ := dc hd hc
    obtain ⟨z, r, rfl, h⟩ := q_popi_s h
    exact lv_i2s hx hb hdg rfl (h hgc hgs H locs lsm hR hS hL)
  case dup =>
    obtain ⟨rfl, hdg⟩ := dc hd hc
    obtain ⟨x, r, rfl, h⟩ := q_pop_s h
    obtain ⟨hcat, h⟩ := q_when_s h
    exact lv_dup hx hb hdg ((tv_cat b base x).trans (Nat.eq_of_beq_eq_true hcat)) (h hgc hgs H locs lsm hR hS hL)
  case dup2 =>
    obtain ⟨rfl, hdg⟩ := dc hd hc
    obtain ⟨x, r, rfl, h⟩ := q_pop_s h
    obtain ⟨z, r, rfl, h⟩ := q_pop_s h
    obtain ⟨hcat, h⟩ := q_when_s h
    obtain ⟨hc1, hc2⟩ := and_s hcat
    exact lv_dup2_11 hx hb hdg ((tv_cat b base x).trans (Nat.eq_of_beq_eq_true hc1)) ((tv_cat b base z).trans (Nat.eq_of_beq_eq_true hc2)) (h hgc hgs H locs lsm hR hS hL)
  case pop =>
    obtain ⟨rfl, hdg⟩ := dc hd hc
    obtain ⟨x, r, rfl, h⟩ := q_pop_s h
    obtain ⟨hcat, h⟩ := q_when_s h
    exact lv_pop hx hb hdg ((tv_cat b base x).trans (Nat.eq_of_beq_eq_true hcat)) (h hgc hgs H locs lsm hR hS hL)
  case ifCond cd off =>
    obtain ⟨hl, hv⟩ := and_s hc
    obtain ⟨rfl, hdg⟩ := dc hd hl
    have ht := of_decide_eq_true hv
    obtain ⟨x, r, rfl, h⟩ := q_popi_s h
    cases cd
    · exact lv_if_eq hx hb hdg ht (fun z => h.1 z hgc hgs H locs lsm hR hS hL) (fun z => h.2 z hgc hgs H locs lsm hR hS hL)
    · exact lv_if_ne hx hb hdg ht (fun z => h.1 z hgc hgs H locs lsm hR hS hL) (fun z => h.2 z hgc hgs H locs lsm hR hS hL)
    · exact lv_if_lt hx hb hdg ht (fun z => h.1 z hgc hgs H locs lsm hR hS hL) (fun z => h.2 z hgc hgs H locs lsm hR hS hL)
    · exact lv_if_ge hx hb hdg ht (fun z => h.1 z hgc hgs H locs lsm hR hS hL) (fun z => h.2 z hgc hgs H locs lsm hR hS hL)
    · exact lv_if_gt hx hb hdg ht (fun z => h.1 z hgc hgs H locs lsm hR hS hL) (fun z => h.2 z hgc hgs H locs lsm hR hS hL)
    · exact lv_if_le hx hb hdg ht (fun z => h.1 z hgc hgs H locs lsm hR hS hL) (fun z => h.2 z hgc hgs H locs lsm hR hS hL)
  case if_icmp cd off =>
    obtain ⟨hl, hv⟩ := and_s hc
    obtain ⟨rfl, hdg⟩ := dc hd hl
    have ht := of_decide_eq_true hv
    obtain ⟨z, r, rfl, h⟩ := q_popi_s h
    obtain ⟨x, r, rfl, h⟩ := q_popi_s h
    cases cd
    · exact lv_icmp_eq hx hb hdg ht (fun z => h.1 z hgc hgs H locs lsm hR hS hL) (fun z => h.2 z hgc hgs H locs lsm hR hS hL)
    · exact lv_icmp_ne hx hb hdg ht (fun z => h.1 z hgc hgs H locs lsm hR hS hL) (fun z => h.2 z hgc hgs H locs lsm hR hS hL)
    · exact lv_icmp_lt hx hb hdg ht (fun z => h.1 z hgc hgs H locs lsm hR hS hL) (fun z => h.2 z hgc hgs H locs lsm hR hS hL)
    · exact lv_icmp_ge hx hb hdg ht (fun z => h.1 z hgc hgs H locs lsm hR hS hL) (fun z => h.2 z hgc hgs H locs lsm hR hS hL)
    · exact lv_icmp_gt hx hb hdg ht (fun z => h.1 z hgc hgs H locs lsm hR hS hL) (fun z => h.2 z hgc hgs H locs lsm hR hS hL)
    · exact lv_icmp_le hx hb hdg ht (fun z => h.1 z hgc hgs H locs lsm hR hS hL) (fun z => h.2 z hgc hgs H locs lsm hR hS hL)
  case goto off =>
    obtain ⟨hl, hv⟩ := and_s hc
    obtain ⟨rfl, hdg⟩ := dc hd hl
    exact lv_goto hx hb hdg (of_decide_eq_true hv) (h hgc hgs H locs lsm hR hS hL)
  case tableswitch df lo hi offs =>
    obtain ⟨x, r, rfl, h⟩ := q_popi_s h
    obtain ⟨c1, hc⟩ := and_s hc
    obtain ⟨c2, hc⟩ := and_s hc
    obtain ⟨c3, c4⟩ := and_s hc
    replace c1 := of_decide_eq_true c1
    replace c2 := of_decide_eq_true c2
    replace c3 := of_decide_eq_true c3
    have keys : ∀ (j : Nat) (q : Int32 × Nat), (sww a).2[j]? = some q → q.1.toInt = lo + (j : Int) ∧ ∃ o, offs[j]? = some o ∧ (pc : Int) + o = (q.2 : Int) := by
      intro j q hq
      have hj := (List.getElem?_eq_some_iff.mp hq).1
      obtain ⟨g1, g2⟩ := and_s (List.all_eq_true.mp c4 j (List.mem_range.mpr hj))
      replace g1 := of_decide_eq_true g1
      replace g2 := of_decide_eq_true g2
      rw [List.getD_eq_getElem?_getD, hq] at g1
      rw [List.getD_eq_getElem?_getD (l := (sww a).2), hq] at g2
      refine ⟨g1, (offs.toList.getD j 0), ?_, g2⟩
      have hjo : j < offs.toList.length := by omega
      rw [← Array.getElem?_toList, List.getD_eq_getElem?_getD, List.getElem?_eq_getElem hjo]
      rfl
    rcases sw_go _ h with ⟨q, hq, e1, e2, i, e3, e4⟩ | ⟨e1, e2⟩
    · obtain ⟨k1, o, k2, k3⟩ := keys i q e3
      have hi' := (List.getElem?_eq_some_iff.mp e3).1
      rw [← e1] at k1
      exact lv_tableIn hx hb hd (by omega) (by omega) (by rw [show (x.toInt - lo).toNat = i by omega]; exact k2) k3 (e2 hgc hgs H locs lsm hR hS hL)
    · refine lv_tableOut hx hb hd ?_ c1 (e2 hgc hgs H locs lsm hR hS hL)
      by_cases g1 : x.toInt < lo
      · exact Or.inl g1
      · refine Or.inr ?_
        by_cases g2 : hi < x.toInt
        · exact g2
        · exfalso
          have hj : (x.toInt - lo).toNat < (sww a).2.length := by omega
          have hq := List.getElem?_eq_getElem hj
          obtain ⟨k1, -⟩ := keys _ _ hq
          exact e1 _ (List.getElem_mem hj) (Int32.toInt_inj.mp (by rw [k1]; omega))
  case lookupswitch df ps =>
    obtain ⟨x, r, rfl, h⟩ := q_popi_s h
    obtain ⟨c1, hc⟩ := and_s hc
    obtain ⟨c2, c3⟩ := and_s hc
    obtain ⟨t, k1, k2⟩ := lsw_go (of_decide_eq_true c1) _ _ (of_decide_eq_true c2) h
    exact lv_lookup hx hb hd c3 rfl k1 (k2 hgc hgs H locs lsm hR hS hL)
  case getfield k =>
    obtain ⟨hl, hc⟩ := and_s hc
    obtain ⟨hfl, hc⟩ := and_s hc
    obtain ⟨ha, hj⟩ := and_s hc
    obtain ⟨rfl, hdg⟩ := dc hd hl
    obtain ⟨q, r, rfl, h⟩ := q_popr_s h
    obtain ⟨hw, h⟩ := q_when_s h
    obtain ⟨h1, hw⟩ := and_s hw
    obtain ⟨h2, h3⟩ := and_s hw
    replace h1 := Nat.le_of_ble_eq_true h1
    replace h2 := Nat.le_of_ble_eq_true h2
    obtain rfl := Nat.eq_of_beq_eq_true h3
    replace ha : kd q < 13 := Nat.le_of_ble_eq_true ha
    replace hj : bb < nf (kd q) := Nat.le_of_ble_eq_true hj
    show W p l e R s m args below meth c H locs gc gs Qf (F0 m pc lsm (tv b base (.ref q) :: r.map (tv b base)))
    rw [tv_pos h1]
    refine va_get (D := D) (ci := kd q) (v := fvl b base w q bb) (C := cn (kd q)) (T := cT (kd q)) (N := nf (kd q)) (fs := (List.range (nf (kd q))).map (fvl b base w q)) hx hb hts (wd_us ha) hown hK (hR.one h1 h2) 0 (by rw [ent_obj ha]; rfl) (vw_at _ ha) bb hj (hts _ (lk_fl hfl)) (fun z h9 => by rw [(cd_ft _ ha bb hj).2.2] at h9; exact h9) (by rw [List.getElem?_map, List.getElem?_range hj]; rfl) hdg ?_
    have e0 : ∀ X : Value, tv b base X = fvl b base w q bb → Kw p l e R s m args below meth c D cI cJ cZ b base y Qf (pc + 3) ls (X :: r) w gc gs → W p l e R s m args below meth c H locs gc gs Qf (F0 m (pc + 3) lsm (fvl b base w q bb :: r.map (tv b base))) := by
      intro X hX hk
      rw [← hX]
      exact hk hgc hgs H locs lsm hR hS hL
    split at h
    · rename_i hf
      exact e0 _ (by unfold fvl; rw [hf]; rfl) h
    · rename_i hf
      split at h
      · rename_i qq hqq
        exact e0 _ (by unfold fvl; rw [hf]; show _ = (match w.2.2.2.2.2 q bb with | none => Value.null | some q => .ref (adr b base q)); rw [hqq]; rfl) h
      · exact h.elim
    · rename_i hf1 hf2
      refine e0 _ ?_ h
      unfold fvl
      split
      · rename_i hf; exact absurd hf hf1
      · rename_i hf; exact absurd hf hf2
      · rfl
  case putfield k =>
    obtain ⟨hl, hc⟩ := and_s hc
    obtain ⟨hfl, hc⟩ := and_s hc
    obtain ⟨ha, hc⟩ := and_s hc
    obtain ⟨hj, hfi⟩ := and_s hc
    obtain ⟨rfl, hdg⟩ := dc hd hl
    replace ha : a < 13 := Nat.le_of_ble_eq_true ha
    replace hj : bb < nf a := Nat.le_of_ble_eq_true hj
    have hft := (cd_ft a ha bb hj).1
    have hfin : fin a bb = true → meth.name = "<init>" ∧ mown y = a := by
      intro hf
      rw [hf] at hfi
      obtain ⟨g1, g2⟩ := and_s (show (mini y && Nat.beq (mown y) a) = true from hfi)
      exact ⟨hin g1, Nat.eq_of_beq_eq_true g2⟩
    unfold am_do at h
    dsimp only at h
    split at h
    · rename_i hf
      obtain ⟨x, r, rfl, h_1⟩ := q_popl_s h
      obtain ⟨q, r, rfl, h_2⟩ := q_popr_s h_1
      obtain ⟨hw, h_3⟩ := q_when_s h_2
      obtain ⟨h1, hw⟩ := and_s hw
      obtain ⟨h2, h3⟩ := and_s hw
      replace h1 := Nat.le_of_ble_eq_true h1
      replace h2 := Nat.le_of_ble_eq_true h2
      obtain rfl := Nat.eq_of_beq_eq_true h3
      have hty : cty (kd q) bb = .long := by
        rw [hf] at hft
        cases hct : cty (kd q) bb <;> rw [hct] at hft <;> first | rfl | cases hft
      show W p l e R s m args below meth c H locs gc gs Qf (F0 m pc lsm (.long x :: tv b base (.ref q) :: r.map (tv b base)))
      rw [tv_pos h1]
      refine am_put (w' := wJ w q bb x) hx hb hts hown hK hR hS h1 h2 ha hj hfl hfin (by rw [hty]; rfl) (by rw [hty]; rfl) hdg rfl (fun i hi => ent_c rfl rfl rfl (u2_ne hi) rfl) ?_ (fun i hi => ?_) (fun H1 locs1 g1 g2 => h_3 hgc hgs H1 locs1 lsm g1 g2 hL)
      · unfold fvl; rw [hf]; show Value.long (u2 _ _ _ _ _ _) = _; rw [u2_eq]; simp
      · unfold fvl; show (match ft (kd q) i with | 1 => Value.long (u2 w.2.2.2.2.1 q bb x q i) | 2 => _ | _ => _) = _; rw [u2_eq]; simp [hi]; rfl
    · rename_i hf
      obtain ⟨x, r, rfl, h_4⟩ := q_popr_s h
      obtain ⟨q, r, rfl, h_5⟩ := q_popr_s h_4
      obtain ⟨hw, h_6⟩ := q_when_s h_5
      obtain ⟨h1, hw⟩ := and_s hw
      obtain ⟨h2, h3⟩ := and_s hw
      replace h1 := Nat.le_of_ble_eq_true h1
      replace h2 := Nat.le_of_ble_eq_true h2
      obtain rfl := Nat.eq_of_beq_eq_true h3
      have hty : ∀ z, narrow (cty (kd q) bb) (.ref z) = .ref z ∧ fits (cty (kd q) bb) (.ref z) = true := by
        intro z
        rw [hf] at hft
        cases hct : cty (kd q) bb <;> rw [hct] at hft <;> first | exact ⟨rfl, rfl⟩ | cases hft
      show W p l e R s m args below meth c H locs gc gs Qf (F0 m pc lsm (.ref (adr b base x) :: tv b base (.ref q) :: r.map (tv b base)))
      rw [tv_pos h1]
      refine am_put (w' := wR w q bb (some x)) hx hb hts hown hK hR hS h1 h2 ha hj hfl hfin (hty _).1 (hty _).2 hdg rfl (fun i hi => ent_c rfl rfl rfl rfl (uR_ne hi)) ?_ (fun i hi => ?_) (fun H1 locs1 g1 g2 => h_6 hgc hgs H1 locs1 lsm g1 g2 hL)
      · unfold fvl; rw [hf]; show (match uR w.2.2.2.2.2 q bb (some x) q bb with | none => Value.null | some q => .ref (adr b base q)) = _; rw [uR_eq]; simp
      · unfold fvl; show (match ft (kd q) i with | 1 => _ | 2 => (match uR w.2.2.2.2.2 q bb (some x) q i with | none => Value.null | some q => .ref (adr b base q)) | _ => _) = _; rw [uR_eq]; simp [hi]; rfl
    · rename_i hf
      obtain ⟨x, r, rfl, h_7⟩ := q_popi_s h
      obtain ⟨q, r, rfl, h_8⟩ := q_popr_s h_7
      obtain ⟨hw, hz, h_9⟩ := q_when_s h_8
      obtain ⟨h1, hw⟩ := and_s hw
      obtain ⟨h2, h3⟩ := and_s hw
      replace h1 := Nat.le_of_ble_eq_true h1
      replace h2 := Nat.le_of_ble_eq_true h2
      obtain rfl := Nat.eq_of_beq_eq_true h3
      have hty : cty (kd q) bb = .boolean := by
        rw [hf] at hft
        cases hct : cty (kd q) bb <;> rw [hct] at hft <;> first | rfl | cases hft
      show W p l e R s m args below meth c H locs gc gs Qf (F0 m pc lsm (.int x :: tv b base (.ref q) :: r.map (tv b base)))
      rw [tv_pos h1]
      refine am_put (w' := wI w q bb x) hx hb hts hown hK hR hS h1 h2 ha hj hfl hfin (by rw [hty]; exact (nar_z hz).1) (by rw [hty]; exact (nar_z hz).2) hdg rfl (fun i hi => ent_c rfl rfl (u2_ne hi) rfl rfl) ?_ (fun i hi => ?_) (fun H1 locs1 g1 g2 => h_9 hgc hgs H1 locs1 lsm g1 g2 hL)
      · unfold fvl; rw [hf]; show Value.int (u2 _ _ _ _ _ _) = _; rw [u2_eq]; simp
      · unfold fvl; show (match ft (kd q) i with | 1 => _ | 2 => _ | _ => Value.int (u2 w.2.2.2.1 q bb x q i)) = _; rw [u2_eq]; simp [hi]; rfl
    · rename_i hf1 hf2 hf3
      obtain ⟨x, r, rfl, h_10⟩ := q_popi_s h
      obtain ⟨q, r, rfl, h_11⟩ := q_popr_s h_10
      obtain ⟨hw, h_12⟩ := q_when_s h_11
      obtain ⟨h1, hw⟩ := and_s hw
      obtain ⟨h2, h3⟩ := and_s hw
      replace h1 := Nat.le_of_ble_eq_true h1
      replace h2 := Nat.le_of_ble_eq_true h2
      obtain rfl := Nat.eq_of_beq_eq_true h3
      have hf0 : ft (kd q) bb = 0 ∧ cty (kd q) bb = .int := by
        generalize ft (kd q) bb = n at hft hf1 hf2 hf3
        generalize cty (kd q) bb = t at hft
        unfold ft_ok at hft
        split at hft <;> first | exact ⟨rfl, rfl⟩ | exact absurd rfl hf1 | exact absurd rfl hf2 | exact absurd rfl hf3 | cases hft
      obtain ⟨hf, hty⟩ := hf0
      show W p l e R s m args below meth c H locs gc gs Qf (F0 m pc lsm (.int x :: tv b base (.ref q) :: r.map (tv b base)))
      rw [tv_pos h1]
      refine am_put (w' := wI w q bb x) hx hb hts hown hK hR hS h1 h2 ha hj hfl hfin (by rw [hty]; rfl) (by rw [hty]; rfl) hdg rfl (fun i hi => ent_c rfl rfl (u2_ne hi) rfl rfl) ?_ (fun i hi => ?_) (fun H1 locs1 g1 g2 => h_12 hgc hgs H1 locs1 lsm g1 g2 hL)
      · unfold fvl; rw [hf]; show Value.int (u2 _ _ _ _ _ _) = _; rw [u2_eq]; simp
      · unfold fvl; show (match ft (kd q) i with | 1 => _ | 2 => _ | _ => Value.int (u2 w.2.2.2.1 q bb x q i)) = _; rw [u2_eq]; simp [hi]; rfl
  case iaload =>
    obtain ⟨rfl, hdg⟩ := dc hd hc
    obtain ⟨j, r, rfl, h⟩ := q_popi_s h
    obtain ⟨q, r, rfl, h⟩ := q_popr_s h
    cases q with
    | zero => exact va_sld (A := fun q => base < q) hx hb hX (by omega) (by show ¬ base < b; omega) hS (vp_in_iff.mpr h.1) hdg (h.2 hgc hgs H locs lsm hR hS hL)
    | succ q =>
      obtain ⟨hw, hj, h⟩ := q_when_s h
      obtain ⟨h2, h3⟩ := and_s hw
      replace h2 := Nat.le_of_ble_eq_true h2
      replace h3 := Nat.eq_of_beq_eq_true h3
      show W p l e R s m args below meth c H locs gc gs Qf (F0 m pc lsm (.int j :: tv b base (.ref (q + 1)) :: r.map (tv b base)))
      rw [tv_pos (by omega)]
      exact va_iald hx hb hK (hR.one (by omega) h2) 0 0 (by rw [ent_I h3]; rfl) rfl (vp_in_iff.mpr hj) hdg (h hgc hgs H locs lsm hR hS hL)
  case laload =>
    obtain ⟨rfl, hdg⟩ := dc hd hc
    obtain ⟨j, r, rfl, h⟩ := q_popi_s h
    obtain ⟨q, r, rfl, h⟩ := q_popr_s h
    obtain ⟨hw, hj, h⟩ := q_when_s h
    obtain ⟨h1, hw⟩ := and_s hw
    obtain ⟨h2, h3⟩ := and_s hw
    replace h1 := Nat.le_of_ble_eq_true h1
    replace h2 := Nat.le_of_ble_eq_true h2
    replace h3 := Nat.eq_of_beq_eq_true h3
    show W p l e R s m args below meth c H locs gc gs Qf (F0 m pc lsm (.int j :: tv b base (.ref q) :: r.map (tv b base)))
    rw [tv_pos h1]
    exact va_lald hx hb hK (hR.one h1 h2) 0 1 (by rw [ent_J h3]; rfl) rfl (vp_in_iff.mpr hj) hdg (h hgc hgs H locs lsm hR hS hL)
  case baload =>
    obtain ⟨rfl, hdg⟩ := dc hd hc
    obtain ⟨j, r, rfl, h⟩ := q_popi_s h
    obtain ⟨q, r, rfl, h⟩ := q_popr_s h
    obtain ⟨hw, hj, h⟩ := q_when_s h
    obtain ⟨h1, hw⟩ := and_s hw
    obtain ⟨h2, h3⟩ := and_s hw
    replace h1 := Nat.le_of_ble_eq_true h1
    replace h2 := Nat.le_of_ble_eq_true h2
    replace h3 := Nat.eq_of_beq_eq_true h3
    show W p l e R s m args below meth c H locs gc gs Qf (F0 m pc lsm (.int j :: tv b base (.ref q) :: r.map (tv b base)))
    rw [tv_pos h1]
    exact va_zald hx hb hK (hR.one h1 h2) 0 2 (by rw [ent_Z h3]; rfl) rfl (vp_in_iff.mpr hj) hdg (h hgc hgs H locs lsm hR hS hL)
  case iastore =>
    obtain ⟨rfl, hdg⟩ := dc hd hc
    obtain ⟨x, r, rfl, h⟩ := q_popi_s h
    obtain ⟨j, r, rfl, h⟩ := q_popi_s h
    obtain ⟨q, r, rfl, h⟩ := q_popr_s h
    obtain ⟨hw, hj, h⟩ := q_when_s h
    obtain ⟨h1, hw⟩ := and_s hw
    obtain ⟨h2, h3⟩ := and_s hw
    replace h1 := Nat.le_of_ble_eq_true h1
    replace h2 := Nat.le_of_ble_eq_true h2
    replace h3 := Nat.eq_of_beq_eq_true h3
    show W p l e R s m args below meth c H locs gc gs Qf (F0 m pc lsm (.int x :: .int j :: tv b base (.ref q) :: r.map (tv b base)))
    rw [tv_pos h1]
    exact am_iast hx hb hK hR hS h1 h2 h3 (vp_in_iff.mpr hj) hdg (fun H1 locs1 g1 g2 => h hgc hgs H1 locs1 lsm g1 g2 hL)
  case lastore =>
    obtain ⟨rfl, hdg⟩ := dc hd hc
    obtain ⟨x, r, rfl, h⟩ := q_popl_s h
    obtain ⟨j, r, rfl, h⟩ := q_popi_s h
    obtain ⟨q, r, rfl, h⟩ := q_popr_s h
    obtain ⟨hw, hj, h⟩ := q_when_s h
    obtain ⟨h1, hw⟩ := and_s hw
    obtain ⟨h2, h3⟩ := and_s hw
    replace h1 := Nat.le_of_ble_eq_true h1
    replace h2 := Nat.le_of_ble_eq_true h2
    replace h3 := Nat.eq_of_beq_eq_true h3
    show W p l e R s m args below meth c H locs gc gs Qf (F0 m pc lsm (.long x :: .int j :: tv b base (.ref q) :: r.map (tv b base)))
    rw [tv_pos h1]
    exact am_last hx hb hK hR hS h1 h2 h3 (vp_in_iff.mpr hj) hdg (fun H1 locs1 g1 g2 => h hgc hgs H1 locs1 lsm g1 g2 hL)
  case bastore =>
    obtain ⟨rfl, hdg⟩ := dc hd hc
    obtain ⟨x, r, rfl, h⟩ := q_popi_s h
    obtain ⟨j, r, rfl, h⟩ := q_popi_s h
    obtain ⟨q, r, rfl, h⟩ := q_popr_s h
    obtain ⟨hw, hz, hj, h⟩ := q_when_s h
    obtain ⟨h1, hw⟩ := and_s hw
    obtain ⟨h2, h3⟩ := and_s hw
    replace h1 := Nat.le_of_ble_eq_true h1
    replace h2 := Nat.le_of_ble_eq_true h2
    replace h3 := Nat.eq_of_beq_eq_true h3
    show W p l e R s m args below meth c H locs gc gs Qf (F0 m pc lsm (.int x :: .int j :: tv b base (.ref q) :: r.map (tv b base)))
    rw [tv_pos h1]
    exact am_zast hx hb hK hR hS h1 h2 h3 hz (vp_in_iff.mpr hj) hdg (fun H1 locs1 g1 g2 => h hgc hgs H1 locs1 lsm g1 g2 hL)
  case arraylength =>
    obtain ⟨rfl, hdg⟩ := dc hd hc
    obtain ⟨q, r, rfl, h⟩ := q_popr_s h
    cases q with
    | zero =>
      show W p l e R s m args below meth c H locs gc gs Qf (F0 m pc lsm (.ref b :: r.map (tv b base)))
      exact va_slen (A := fun q => base < q) hx hb hX (by omega) (by show ¬ base < b; omega) hS hdg (h hgc hgs H locs lsm hR hS hL)
    | succ q => exact h.elim
  case new k =>
    obtain ⟨hl, hc⟩ := and_s hc
    obtain ⟨hcl, ha⟩ := and_s hc
    obtain ⟨rfl, hdg⟩ := dc hd hl
    replace ha : a < 13 := Nat.le_of_ble_eq_true ha
    obtain ⟨hw, h_1⟩ := q_when_s h
    obtain ⟨hlt, hw⟩ := and_s hw
    replace hlt : w.1 < 120 := Nat.le_of_ble_eq_true hlt
    obtain ⟨h1, hw⟩ := and_s hw
    obtain ⟨h2, h3⟩ := and_s hw
    obtain rfl := Nat.eq_of_beq_eq_true h1
    replace h2 := Nat.le_of_ble_eq_true h2
    replace h3 := Nat.le_of_ble_eq_true h3
    have hc0 := vw_at _ ha
    have hKn := hK.1 _ _ hc0
    have hsz : H.size = base + (w.1 + 1) := by rw [hR.1 hlt]; omega
    refine W.newcK hx hb hown (hts _ (lk_cl hcl)) (hts _ (wd_g (wd_mk _ ha) rfl)) (hts _ (wd_g (wd_ini _ (by omega)) rfl)) rfl hdg (by omega) (by omega) hKn.2.1 hsz fun H1 kC hkC e1 z1 o1 => ?_
    have hR1 : RW D cI cJ cZ b base (wnew w) H1 := by
      refine hR.new hlt (by rw [z1, hsz]) (fun q hq => o1 q (by omega)) ?_
      rw [ent_obj ha]
      refine ⟨_, hc0, (u_born (cty (kd (w.1 + 1))) hts (wd_us ha) hKn hkC e1 (cd_ty _ ha)).to (fun j hj => ?_)⟩
      have hft := (cd_ft _ ha j hj).1
      unfold vp_V
      rw [List.getD_eq_getElem?_getD, List.getElem?_map, List.getElem?_range hj]
      show defaultValue _ = fvl b base (wnew w) (w.1 + 1) j
      unfold fvl
      show defaultValue _ = (match ft (kd (w.1 + 1)) j with | 1 => Value.long (u1 w.2.2.2.2.1 (w.1 + 1) (fun _ => 0) (w.1 + 1) j) | 2 => (match (bif Nat.beq (w.1 + 1) (w.1 + 1) then none else w.2.2.2.2.2 (w.1 + 1) j) with | none => .null | some q => .ref (adr b base q)) | _ => .int (u1 w.2.2.2.1 (w.1 + 1) (fun _ => 0) (w.1 + 1) j))
      rw [u1_eq, u1_eq, Nat.beq_refl]
      generalize ft (kd (w.1 + 1)) j = n at hft
      generalize cty (kd (w.1 + 1)) j = t at hft
      unfold ft_ok at hft
      split at hft <;> first | rfl | cases hft
    refine W.eq (g2 := F0 m (pc + 3) lsm ((Value.ref (w.1 + 1) :: st).map (tv b base))) (by show _ = F0 m (pc + 3) lsm (tv b base (.ref (w.1 + 1)) :: st.map (tv b base)); rw [tv_pos (by omega)]) ?_
    exact h_1 (by omega) (by omega) H1 locs lsm hR1 ⟨Nat.le_trans hS.1 (by omega), fun q g1 g2 => (o1 q (by have := hS.1; omega)).trans (hS.2.1 q g1 g2), hS.2.2⟩ hL
  case newarray t =>
    obtain ⟨hl, ht⟩ := and_s hc
    obtain ⟨rfl, hdg⟩ := dc hd hl
    obtain ⟨x, r, rfl, h_1⟩ := q_popi_s h
    obtain ⟨hw, rfl, h_2⟩ := q_when_s h_1
    obtain ⟨hlt, hw⟩ := and_s hw
    replace hlt : w.1 < 120 := Nat.le_of_ble_eq_true hlt
    obtain ⟨h1, hw⟩ := and_s hw
    obtain ⟨h0, hw⟩ := and_s hw
    obtain ⟨h2, h3⟩ := and_s hw
    replace h1 := Nat.eq_of_beq_eq_true h1
    replace h0 := Nat.le_of_ble_eq_true h0
    replace h2 := Nat.le_of_ble_eq_true h2
    replace h3 := Nat.le_of_ble_eq_true h3
    have hsz : H.size = base + (w.1 + 1) := by rw [hR.1 hlt]; omega
    obtain ⟨hn1, hn2⟩ := ofNat_cl h0
    have hgo : ∀ H1 : Heap, RW D cI cJ cZ b base (wnew w) H1 → H1.size = base + (w.1 + 1) + 1 → (∀ q, q < base + (w.1 + 1) → H1[q]? = H[q]?) → W p l e R s m args below meth c H1 locs (gc + 1) (gs + ln (w.1 + 1)) Qf { F0 m pc lsm (.int (Int32.ofNat (ln (w.1 + 1))) :: r.map (tv b base)) with pc := (F0 m pc lsm (.int (Int32.ofNat (ln (w.1 + 1))) :: r.map (tv b base))).pc + 2, stack := .ref (base + (w.1 + 1)) :: r.map (tv b base) } := by
      intro H1 hR1 z1 o1
      refine W.eq (g2 := F0 m (pc + 2) lsm ((Value.ref (w.1 + 1) :: r).map (tv b base))) (by show _ = F0 m (pc + 2) lsm (tv b base (.ref (w.1 + 1)) :: r.map (tv b base)); rw [tv_pos (by omega)]) ?_
      exact h_2 (by omega) (by omega) H1 locs lsm hR1 ⟨Nat.le_trans hS.1 (by omega), fun q g1 g2 => (o1 q (by have := hS.1; omega)).trans (hS.2.1 q g1 g2), hS.2.2⟩ hL
    cases t <;> first | cases ht | skip
    · refine va_newaK hx hb (hts _ (wd_g wd_arZ rfl)) rfl hdg rfl hn1 hn2 (by show ln (w.1 + 1) * 1 ≤ _; omega) (by omega) (by omega) hsz fun H1 cA e1 z1 o1 hAr hNm => hgo H1 (hR.new hlt (by rw [z1, hsz]) (fun q hq => o1 q (by omega)) ?_) z1 o1
      have hcA : cA = cZ := Option.some.inj (hNm.symm.trans (hK.2 2 _ rfl).2)
      subst hcA
      rw [ent_Z h1]
      refine e1.trans (congrArg some ?_)
      show _ = arrV cA (ln (w.1 + 1)) (fun j => .int (u1 w.2.1 (w.1 + 1) (fun _ => 0) (w.1 + 1) j))
      rw [u1_eq]; rfl
    · refine va_newaK hx hb (hts _ (wd_g wd_arI rfl)) rfl hdg rfl hn1 hn2 (by show ln (w.1 + 1) * 4 ≤ _; omega) (by omega) (by omega) hsz fun H1 cA e1 z1 o1 hAr hNm => hgo H1 (hR.new hlt (by rw [z1, hsz]) (fun q hq => o1 q (by omega)) ?_) z1 o1
      have hcA : cA = cI := Option.some.inj (hNm.symm.trans (hK.2 0 _ rfl).2)
      subst hcA
      rw [ent_I h1]
      refine e1.trans (congrArg some ?_)
      show _ = arrV cA (ln (w.1 + 1)) (fun j => .int (u1 w.2.1 (w.1 + 1) (fun _ => 0) (w.1 + 1) j))
      rw [u1_eq]; rfl
    · refine va_newaK hx hb (hts _ (wd_g wd_arJ rfl)) rfl hdg rfl hn1 hn2 (by show ln (w.1 + 1) * 8 ≤ _; omega) (by omega) (by omega) hsz fun H1 cA e1 z1 o1 hAr hNm => hgo H1 (hR.new hlt (by rw [z1, hsz]) (fun q hq => o1 q (by omega)) ?_) z1 o1
      have hcA : cA = cJ := Option.some.inj (hNm.symm.trans (hK.2 1 _ rfl).2)
      subst hcA
      rw [ent_J h1]
      refine e1.trans (congrArg some ?_)
      show _ = arrV cA (ln (w.1 + 1)) (fun j => .long (u1 w.2.2.1 (w.1 + 1) (fun _ => 0) (w.1 + 1) j))
      rw [u1_eq]; rfl
  case invokevirtual k =>
    obtain ⟨hl, hc⟩ := and_s hc
    obtain ⟨hml2, hc⟩ := and_s hc
    obtain ⟨ha, hc⟩ := and_s hc
    obtain ⟨hst, hc⟩ := and_s hc
    obtain ⟨hini, hc⟩ := and_s hc
    obtain ⟨hbar, hcls⟩ := and_s hc
    obtain ⟨rfl, hdg⟩ := dc hd hl
    replace ha : a < 333 := Nat.le_of_ble_eq_true ha
    have hst : mst a = false := by cases hq : mst a <;> rw [hq] at hst <;> first | rfl | cases hst
    have hini : mini a = false := by cases hq : mini a <;> rw [hq] at hini <;> first | rfl | cases hini
    replace hcls : mown a < 13 := Nat.le_of_ble_eq_true hcls
    obtain rfl := Nat.eq_of_beq_eq_true hbar
    obtain ⟨pre, r, rfl, hpl, h_1⟩ := q_take_s _ _ _ h
    rw [List.append_nil] at h_1
    obtain ⟨hw, h_2⟩ := q_when_s h_1
    obtain ⟨hcat, hw⟩ := and_s hw
    obtain ⟨hel, hw⟩ := and_s hw
    obtain ⟨hg1, hg2⟩ := and_s hw
    replace hcat := Nat.le_of_ble_eq_true hcat
    replace hel := Nat.le_of_ble_eq_true hel
    replace hg1 := Nat.le_of_ble_eq_true hg1
    replace hg2 := Nat.le_of_ble_eq_true hg2
    obtain ⟨q, As, hav, h_3⟩ := q_ref1_s h_2
    obtain ⟨hw, h_4⟩ := q_when_s h_3
    obtain ⟨h1, hw⟩ := and_s hw
    obtain ⟨h2, h3⟩ := and_s hw
    replace h1 := Nat.le_of_ble_eq_true h1
    replace h2 := Nat.le_of_ble_eq_true h2
    replace h3 := Nat.eq_of_beq_eq_true h3
    rw [hav] at h_4 hel
    have hpre : pre = As.reverse ++ [.ref q] := by rw [← List.reverse_reverse pre, hav, List.reverse_cons]
    subst hpre
    obtain ⟨m1, m2, m3, m4⟩ := md_1 a ha
    obtain ⟨m5, m6, m7⟩ := md_3 _ m2
    obtain ⟨m8, m9⟩ := md_2 a ha
    rw [hst] at m8
    have hinst := wd_inst a ha
    rw [hst] at hinst
    have hsel := wd_sel a ha hst hini
    have hM := IH a (.ref q :: As) w _ ha hel h_4.1
    have hAsl : (As.map (tv b base)).length = mar a - 1 := by
      have := hpl
      simp at this
      simp; omega
    have hk13 : kd q < 13 := by omega
    obtain ⟨cellB, hB1, hB2, hB3⟩ := va_recv hK (hR.one h1 h2) (vw_at _ hk13) (show [(base + q, ent cI cJ cZ b base w q)][0]? = _ by rw [ent_obj hk13]; rfl)
    refine am_call (rest := r.map (tv b base)) (va_runV (C := cn (mown a)) (b := base + q) (As := As.map (tv b base)) (n := mar a - 1) (bytes := mby a) (maxL := mxl a) (ret := mrt a) ⟨hx, hb, hml, hown, hts⟩ hM
      ⟨callB_of (mar a - 1) hts (tbg_in ha) rfl rfl rfl (by rw [m1]; exact hts _ (wd_g (wd_ini _ m2) rfl)) (hts _ (lk_ml hml2)) ⟨by rw [m1]; exact m5, by rw [m1]; exact m6, m8⟩ ⟨hRf, by show 8 + (mxl a + 11) + 64 * d ≤ _; omega⟩, hts _ (wd_g hinst rfl), hts _ (wd_g hsel rfl)⟩
      ⟨Pcx_blind, ⟨cellB, hB1, hB2, by rw [← h3]; exact hB3⟩, fun U hU hW => ⟨by show _ = (tv b base (.ref q) :: As.map (tv b base)).toArray; rw [tv_pos h1], by rw [hU]; exact hR, va_K.moved hW.alike hK, by rw [hU]; exact (va_X.kept (va_X.moved hW.alike hX) (hS.2.1 b (by omega) (by show ¬ base < b; omega)))⟩⟩
      rfl hAsl hL.1 (by show List.map (tv b base) ((As.reverse ++ [Value.ref q]) ++ r) = _; rw [List.map_append, List.map_append, List.map_reverse, List.append_assoc]; show _ ++ (tv b base (.ref q) :: _) = _; rw [tv_pos h1]; rfl) (lv_room (by rw [q_cats_eq]; exact hcat)) hdg ⟨by omega, by omega⟩) hS (fun v' w' H1 locs1 hQ hR1 hS1 => ?_)
    have := hQ (by omega) (by omega) H1 locs1 lsm hR1 hS1 hL
    cases v' <;> exact this
  case invokestatic k =>
    obtain ⟨hl, hc2⟩ := and_s hc
    clear hc
    obtain ⟨rfl, hdg⟩ := dc hd hl
    unfold am_do at h
    dsimp only at h
    split at h
    · rename_i ha
      rw [ha] at hc2
      obtain ⟨g1, g2⟩ := and_s (show (Nat.beq (mown y) 7 && Nat.beq k 25) = true from hc2)
      replace g1 := Nat.eq_of_beq_eq_true g1
      obtain rfl := Nat.eq_of_beq_eq_true g2
      rw [g1] at hown
      obtain ⟨n, r, rfl, h_1⟩ := q_popi_s h
      obtain ⟨dp, r, rfl, h_2⟩ := q_popi_s h_1
      obtain ⟨k1, r, rfl, h_3⟩ := q_popr_s h_2
      obtain ⟨sp, r, rfl, h_4⟩ := q_popi_s h_3
      obtain ⟨k0, r, rfl, h_5⟩ := q_popr_s h_4
      obtain ⟨hw, n1, n2, n3, n4, n5, h_6⟩ := q_when_s h_5
      obtain ⟨hcat, hw⟩ := and_s hw
      obtain ⟨hbig, hcat⟩ := and_s hcat
      replace hbig := Nat.le_of_ble_eq_true hbig
      obtain ⟨w1, hw⟩ := and_s hw
      obtain ⟨w2, hw⟩ := and_s hw
      obtain ⟨w3, hw⟩ := and_s hw
      obtain ⟨w4, hw⟩ := and_s hw
      obtain ⟨w5, w6⟩ := and_s hw
      replace hcat := Nat.le_of_ble_eq_true hcat
      replace w1 := Nat.le_of_ble_eq_true w1
      replace w2 := Nat.le_of_ble_eq_true w2
      replace w3 := Nat.le_of_ble_eq_true w3
      replace w4 := Nat.le_of_ble_eq_true w4
      replace w5 := Nat.eq_of_beq_eq_true w5
      replace w6 := Nat.eq_of_beq_eq_true w6
      show W p l e R s m args below meth c H locs gc gs Qf (F0 m pc lsm (.int n :: .int dp :: tv b base (.ref k1) :: .int sp :: tv b base (.ref k0) :: r.map (tv b base)))
      rw [tv_pos w1, tv_pos w2]
      refine va_copyi hx hb (by rw [hml]; exact hL.1.symm) hown (hts _ (wd_g wd_acl rfl)) (hts _ (wd_g wd_acn rfl)) (hts _ (wd_g wd_acs rfl)) (hts _ (wd_g wd_aci rfl)) hK hR.P wls_D hS (k0 - 1) (k1 - 1) 0 0 (by rw [wls_at w1 w3, ent_I w5]) (by rw [wls_at w2 w4, ent_I w6]) rfl rfl rfl n1 n2 n3 n4 n5 (fun _ _ => rfl) (by omega) (by rw [q_cats_eq]; show _ + (7 + 11) ≤ _; omega) hdg (fun H1 locs1 g3 g4 g5 => ?_)
      refine h_6 hgc hgs H1 locs1 lsm (RW.ofset (w := w) w2 w4 rfl hbig (fun j hj => ent_c (u1_ne hj) rfl rfl rfl rfl) ?_ g3) g5 hL
      rw [ent_I w6]
      show (Sum.inl (cI, ln k1, Sum.inl (u1 w.2.1 k1 (va_cpy (w.2.1 k0) (w.2.1 k1) sp.toNatClampNeg dp.toNatClampNeg n.toNatClampNeg) k1)) : va_E) = _
      rw [u1_eq]
    · split at h
      · rename_i x1 ha1 x2 ha
        rw [ha1] at hc2
        rw [ha] at hc2
        obtain ⟨z, r, rfl, h_7⟩ := q_popi_s h
        obtain ⟨x, r, rfl, h_8⟩ := q_popi_s h_7
        obtain ⟨hcat, h_9⟩ := q_when_s h_8
        replace hcat := Nat.le_of_ble_eq_true hcat
        exact va_mmin hx hb (by rw [hml]; exact hL.1.symm) hown (hts _ (lk_nl hc2)) (hts _ (wd_g wd_mms rfl)) (hts _ (wd_g wd_mmi rfl)) (hts _ (wd_g wd_mmc rfl)) (by omega) (by rw [q_cats_eq]; omega) (by omega) (by omega) hdg (h_9 hgc hgs H locs lsm hR hS hL)
      · split at h
        · rename_i x1 ha1 x2 ha2 x3 ha3
          rw [ha1] at hc2
          rw [ha2] at hc2
          rw [ha3] at hc2
          skip
          obtain ⟨z, r, rfl, h_7⟩ := q_popl_s h
          obtain ⟨x, r, rfl, h_8⟩ := q_popl_s h_7
          obtain ⟨hcat, h_9⟩ := q_when_s h_8
          replace hcat := Nat.le_of_ble_eq_true hcat
          exact va_mmin_long hx hb (by rw [hml]; exact hL.1.symm) hown (hts _ (lk_nl3 hc2)) (hts _ (wd_g wd_m3s rfl)) (hts _ (wd_g wd_mmi rfl)) (hts _ (wd_g wd_m3c rfl)) (by omega) (by rw [q_cats_eq]; omega) (by omega) (by omega) hdg (h_9 hgc hgs H locs lsm hR hS hL)
        · split at h
          · rename_i x1 ha1 x2 ha2 x3 ha3 x4 ha4
            rw [ha1] at hc2
            rw [ha2] at hc2
            rw [ha3] at hc2
            rw [ha4] at hc2
            obtain ⟨z, r, rfl, h_7⟩ := q_popl_s h
            obtain ⟨x, r, rfl, h_8⟩ := q_popl_s h_7
            obtain ⟨hcat, h_9⟩ := q_when_s h_8
            replace hcat := Nat.le_of_ble_eq_true hcat
            exact va_mmax_long hx hb (by rw [hml]; exact hL.1.symm) hown (hts _ (lk_nl4 hc2)) (hts _ (wd_g wd_m4s rfl)) (hts _ (wd_g wd_mmi rfl)) (hts _ (wd_g wd_m4c rfl)) (by omega) (by rw [q_cats_eq]; omega) (by omega) (by omega) hdg (h_9 hgc hgs H locs lsm hR hS hL)
          · rename_i x1 ha1 x2 ha2 x3 ha3 x4 ha4
            rw [ha1] at hc2
            rw [ha2] at hc2
            rw [ha3] at hc2
            rw [ha4] at hc2
            obtain ⟨hml2, hc⟩ := and_s (show (ck_ml (mown y) k a && (Nat.blt a 333 && (mst a && Nat.beq bb (mar a)))) = true from hc2)
            obtain ⟨ha, hc⟩ := and_s hc
            obtain ⟨hst, hbar⟩ := and_s hc
            replace ha : a < 333 := Nat.le_of_ble_eq_true ha
            obtain rfl := Nat.eq_of_beq_eq_true hbar
            obtain ⟨pre, r, rfl, hpl, h_10⟩ := q_take_s _ _ _ h
            rw [List.append_nil] at h_10
            obtain ⟨hw, h_11⟩ := q_when_s h_10
            obtain ⟨hcat, hw⟩ := and_s hw
            obtain ⟨hel, hw⟩ := and_s hw
            obtain ⟨hg1, hg2⟩ := and_s hw
            replace hcat := Nat.le_of_ble_eq_true hcat
            replace hel := Nat.le_of_ble_eq_true hel
            replace hg1 := Nat.le_of_ble_eq_true hg1
            replace hg2 := Nat.le_of_ble_eq_true hg2
            obtain ⟨m1, m2, m3, m4⟩ := md_1 a ha
            obtain ⟨m5, m6, m7⟩ := md_3 _ m2
            obtain ⟨m8, m9⟩ := md_2 a ha
            rw [hst] at m8
            have hinst := wd_inst a ha
            rw [hst] at hinst
            have hM := IH a pre.reverse w _ ha hel h_11.1
            refine am_call (rest := r.map (tv b base)) (va_runS (As := pre.reverse.map (tv b base)) (n := mar a) (bytes := mby a) (maxL := mxl a) (ret := mrt a) ⟨hx, hb, hml, hown, hts⟩ hM
              ⟨callB_of (mar a) hts (tbg_in ha) rfl rfl rfl (by rw [m1]; exact hts _ (wd_g (wd_ini _ m2) rfl)) (hts _ (lk_ml hml2)) ⟨by rw [m1]; exact m5, by rw [m1]; exact m6, m8⟩ ⟨hRf, by show 8 + (mxl a + 11) + 64 * d ≤ _; omega⟩, hts _ (wd_g hinst rfl)⟩
              ⟨Pcx_blind, fun U hU hW => ⟨rfl, by rw [hU]; exact hR, va_K.moved hW.alike hK, by rw [hU]; exact (va_X.kept (va_X.moved hW.alike hX) (hS.2.1 b (by omega) (by show ¬ base < b; omega)))⟩⟩
              rfl (by simp [hpl]) hL.1 (by show List.map (tv b base) (pre ++ r) = _; rw [List.map_append, List.map_reverse, List.reverse_reverse]) (lv_room (by rw [q_cats_eq]; exact hcat)) hdg ⟨by omega, by omega⟩) hS (fun v' w' H1 locs1 hQ hR1 hS1 => ?_)
            have := hQ (by omega) (by omega) H1 locs1 lsm hR1 hS1 hL
            cases v' <;> exact this
  case invokespecial k =>
    obtain ⟨hl, hc2⟩ := and_s hc
    clear hc
    obtain ⟨rfl, hdg⟩ := dc hd hl
    unfold am_do at h
    dsimp only at h
    split at h
    · rename_i ha
      rw [ha] at hc2
      obtain ⟨q, r, rfl, h_1⟩ := q_popr_s h
      obtain ⟨hcat, h_2⟩ := q_when_s h_1
      replace hcat := Nat.le_of_ble_eq_true hcat
      refine W.objInit hx hb hown (hts _ (lk_ol hc2)) (hts _ (wd_g wd_oi rfl)) (hts _ (wd_g wd_oc rfl)) rfl (by rw [hml]; exact hL.1) rfl hdg (by omega) ?_ (h_2 hgc hgs H locs lsm hR hS hL)
      have := lv_room (m := m) (pc := pc) (ls := lsm) (rest := List.map (tv b base) (Value.ref q :: r)) (st := r.map (tv b base)) (by rw [q_cats_eq]; exact hcat)
      omega
    · rename_i ha1
      rw [ha1] at hc2
      obtain ⟨hml2, hc⟩ := and_s (show (ck_ml (mown y) k a && (Nat.blt a 333 && (!(mst a) && (mini a && (Nat.beq bb (mar a) && Nat.blt (mown a) 13))))) = true from hc2)
      obtain ⟨ha, hc⟩ := and_s hc
      obtain ⟨hst, hc⟩ := and_s hc
      obtain ⟨hini, hc⟩ := and_s hc
      obtain ⟨hbar, hcls⟩ := and_s hc
      replace ha : a < 333 := Nat.le_of_ble_eq_true ha
      have hst : mst a = false := by cases hq : mst a <;> rw [hq] at hst <;> first | rfl | cases hst
      obtain rfl := Nat.eq_of_beq_eq_true hbar
      obtain ⟨pre, r, rfl, hpl, h_3⟩ := q_take_s _ _ _ h
      rw [List.append_nil] at h_3
      obtain ⟨hw, h_4⟩ := q_when_s h_3
      obtain ⟨hcat, hw⟩ := and_s hw
      obtain ⟨hel, hw⟩ := and_s hw
      obtain ⟨hg1, hg2⟩ := and_s hw
      replace hcat := Nat.le_of_ble_eq_true hcat
      replace hel := Nat.le_of_ble_eq_true hel
      replace hg1 := Nat.le_of_ble_eq_true hg1
      replace hg2 := Nat.le_of_ble_eq_true hg2
      obtain ⟨q, As, hav, h_5⟩ := q_ref1_s h_4
      obtain ⟨hw, h_6⟩ := q_when_s h_5
      obtain ⟨h1, hw⟩ := and_s hw
      replace h1 := Nat.le_of_ble_eq_true h1
      rw [hav] at h_6 hel
      have hpre : pre = As.reverse ++ [.ref q] := by rw [← List.reverse_reverse pre, hav, List.reverse_cons]
      subst hpre
      obtain ⟨m1, m2, m3, m4⟩ := md_1 a ha
      obtain ⟨m5, m6, m7⟩ := md_3 _ m2
      obtain ⟨m8, m9⟩ := md_2 a ha
      rw [hst] at m8
      have hinst := wd_inst a ha
      rw [hst] at hinst
      have hM := IH a (.ref q :: As) w _ ha hel h_6.1
      have hAsl : (As.map (tv b base)).length = mar a - 1 := by
        have := hpl
        simp at this
        simp; omega
      have hrt : mrt a = none := md_4 a ha hini
      refine am_call (rest := r.map (tv b base)) (va_runI (b := base + q) (As := As.map (tv b base)) (n := mar a - 1) (bytes := mby a) (maxL := mxl a) ⟨hx, hb, hml, hown, hts⟩ hM
        ⟨callB_of (mar a - 1) hts (tbg_in ha) (by unfold mws; rw [hrt]) rfl rfl (by rw [m1]; exact hts _ (wd_g (wd_ini _ m2) rfl)) (hts _ (lk_ml hml2)) ⟨by rw [m1]; exact m5, by rw [m1]; exact m6, m8⟩ ⟨hRf, by show 8 + (mxl a + 11) + 64 * d ≤ _; omega⟩, m3 hini, hts _ (wd_g hinst rfl)⟩
        ⟨Pcx_blind, fun U hU hW => ⟨by show _ = (tv b base (.ref q) :: As.map (tv b base)).toArray; rw [tv_pos h1], by rw [hU]; exact hR, va_K.moved hW.alike hK, by rw [hU]; exact (va_X.kept (va_X.moved hW.alike hX) (hS.2.1 b (by omega) (by show ¬ base < b; omega)))⟩⟩
        rfl hAsl hL.1 (by show List.map (tv b base) ((As.reverse ++ [Value.ref q]) ++ r) = _; rw [List.map_append, List.map_append, List.map_reverse, List.append_assoc]; show _ ++ (tv b base (.ref q) :: _) = _; rw [tv_pos h1]; rfl) (lv_room (by rw [q_cats_eq]; exact hcat)) hdg ⟨by omega, by omega⟩) hS (fun v' w' H1 locs1 hQ hR1 hS1 => ?_)
      have := hQ (by omega) (by omega) H1 locs1 lsm hR1 hS1 hL
      cases v' <;> exact this
  case ireturn =>
    obtain ⟨rfl, hdg⟩ := dc hd hc
    unfold am_do at h
    dsimp only at h
    split at h
    · split at h
      · rename_i hr
        exact hri _ _ _ _ _ _ _ _ hdg (Or.inl hr) h hgc hgs hR hS
      · rename_i hr
        exact hri _ _ _ _ _ _ _ _ hdg (Or.inr ⟨hr, h.1⟩) h.2 hgc hgs hR hS
      · exact h.elim
    · exact h.elim
  case lreturn =>
    obtain ⟨rfl, hdg⟩ := dc hd hc
    unfold am_do at h
    dsimp only at h
    split at h
    · split at h
      · rename_i hr
        exact hrl _ _ _ _ _ _ _ _ hdg hr h hgc hgs hR hS
      · exact h.elim
    · exact h.elim
  case return_ =>
    obtain ⟨rfl, hdg⟩ := dc hd hc
    unfold am_do at h
    dsimp only at h
    split at h
    · split at h
      · rename_i hr
        exact hrv _ _ _ _ _ _ _ hdg hr h hgc hgs hR hS
      · exact h.elim
    · exact h.elim
  all_goals exact h.elim
