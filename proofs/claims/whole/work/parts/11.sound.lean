theorem RW.lt {D : va_G} {cI cJ cZ : ClassId} {b base : Nat} {w : Wd} {H : Heap} (h : RW D cI cJ cZ b base w H) : base < H.size := by
  by_cases hlt : w.1 < 120
  · rw [h.1 hlt]; omega
  · have := (h.2 1 (by omega) (by omega)).lt
    have : base + 1 < H.size := this
    omega
theorem sound_cl {p : Program} {l : Launch} {e : Env} {R : Room} {s : State} {m : MethodId} {args : Array Value} {below : List Frame} {meth : Method} {c : Code} {D : va_G} {cI cJ cZ : ClassId} {b base y d : Nat} {sc : Sc} {Qf : State → Prop} {Q : Option Value → Wd → Prop} (hy : y < 334)
    (hx : p.tables.exec = Jvm.exec) (hb : c.code = mby y) (hml : c.maxLocals = mxl y) (hts : ∀ z ∈ tbg, z.before args s = true) (hown : s.vm.findClass (cn (mown y)) = some m.cls) (hin : mini y = true → meth.name = "<init>") (hK : va_K D vwCl (tysW cI cJ cZ) s) (hX : va_X b sc.1 sc.2 s s.heap) (hbb : b ≤ base) (hbs : base < s.heap.size)
    (hRf : d + 1 ≤ R.frames) (hRl : 64 * (d + 1) ≤ R.locals) (hRc : mgc y ≤ R.cells) (hRs : mgs y ≤ R.slots)
    (IH : ∀ y' av w Q', y' < 333 → (q_ent av).length ≤ mxl y' → Ct sc d y' av w Q' → Met l (mnm y') (mws y') (rmd d y') (Pcx D cI cJ cZ b base sc w av) (Qcx D cI cJ cZ b base Q') (mgc y') (mgs y') (fun q => base < q))
    (hri : ∀ x w H locs lsm pc gc gs, decode (mby y) pc = .ok (.ireturn, 1) → (mrc y = 1 ∨ mrc y = 2 ∧ (x = 0 ∨ x = 1)) → Q (some (.int x)) w → gc ≤ mgc y → gs ≤ mgs y → RW D cI cJ cZ b base w H → va_S (fun q => base < q) s.heap H locs → W p l e R s m args below meth c H locs gc gs Qf (F0 m pc lsm [.int x]))
    (hrl : ∀ x w H locs lsm pc gc gs, decode (mby y) pc = .ok (.lreturn, 1) → mrc y = 3 → Q (some (.long x)) w → gc ≤ mgc y → gs ≤ mgs y → RW D cI cJ cZ b base w H → va_S (fun q => base < q) s.heap H locs → W p l e R s m args below meth c H locs gc gs Qf (F0 m pc lsm [.long x]))
    (hrv : ∀ w H locs lsm pc gc gs, decode (mby y) pc = .ok (.return_, 1) → mrc y = 0 → Q none w → gc ≤ mgc y → gs ≤ mgs y → RW D cI cJ cZ b base w H → va_S (fun q => base < q) s.heap H locs → W p l e R s m args below meth c H locs gc gs Qf (F0 m pc lsm [])) :
    am_cl sc (Ct sc d) y Q (Kw p l e R s m args below meth c D cI cJ cZ b base y Qf) := by
  refine ⟨fun pc ls st w gc gs h => ?_, fun pc ls ls' st w gc gs hle h hgc hgs H locs lsm hR hS hL => h hgc hgs H locs lsm hR hS (hL.le hle), fun pc ls st w w' gc gs heq h hgc hgs H locs lsm hR hS hL => h hgc hgs H locs lsm (hR.weq heq) hS hL⟩
  unfold am_step at h
  cases he : pg y pc with
  | none => rw [he] at h; exact h.elim
  | some q =>
    rw [he] at h
    obtain ⟨i, nx, a, bb, v⟩ := q
    obtain ⟨c1, c2⟩ := and_s (ck_ok hy he)
    exact sound_do hx hb hml hts hown hin hK hX hbb hbs hRf hRl hRc hRs IH hri hrl hrv i (of_decide_eq_true c1) c2 h
theorem LR_entry {b base y : Nat} {av : List Value} {lsm : Array Slot} (hlen : (q_ent av).length ≤ mxl y) (hl : lv_has lsm (mxl y) (lv_args 0 (av.map (tv b base)))) : LR b base (mxl y) (q_pad (mxl y) (q_ent av)) lsm := by
  refine ⟨hl.1, hl.2.1, q_pad_len _ _ hlen, fun i v hi => ?_⟩
  have := q_ent_at b base av 0 i v (q_pad_at _ _ _ _ hi)
  rw [Nat.zero_add] at this
  exact hl.2.2 (i, tv b base v) this
/-- what the abstract machine says of a call, the machine does -/
theorem sound {l : Launch} {D : va_G} {cI cJ cZ : ClassId} {b base : Nat} {sc : Sc} (hbb : b ≤ base) : ∀ (d y : Nat) (av : List Value) (w : Wd) (Q : Option Value → Wd → Prop), y < 333 → (q_ent av).length ≤ mxl y → Ct sc d y av w Q → Met l (mnm y) (mws y) (rmd d y) (Pcx D cI cJ cZ b base sc w av) (Qcx D cI cJ cZ b base Q) (mgc y) (mgs y) (fun q => base < q) := by
  intro d
  induction d with
  | zero => intro y av w Q _ _ h; exact h.elim
  | succ d ih =>
    intro y av w Q hy hlen h
    obtain ⟨m1, m2, m3, m4⟩ := md_1 y hy
    refine Met.ofW (cc := mby y) (maxL := mxl y) (ret := mrt y) (by rw [m1]; exact (md_3 _ m2).2.2) rfl ?_
    intro p e s m args below meth c s₁ B hml hv
    obtain ⟨rfl, hR, hK, hX⟩ := hv
    have hx := B.exec
    have hb := B.bytes
    have hr := B.returns
    have hts0 := atoms_spec (ws := mws y) B.pre
    have hts : ∀ z ∈ tbg, z.before (av.map (tv b base)).toArray s = true := fun z hz => hts0 z (List.mem_cons_of_mem _ hz)
    have hown : s.vm.findClass (cn (mown y)) = some m.cls := by rw [← m1]; exact findClass_of_methodNamed B.named
    have hlocks := B.notSynchronized
    have hl := lv_entry (av.map (tv b base)) (n := mxl y) (by rw [← q_ent_len]; exact hlen)
    rw [lg_entry_eq]
    generalize (lg_sl (av.map (tv b base)) ++ List.replicate (mxl y - (lg_sl (av.map (tv b base))).length) Slot.unset).toArray = lsm at hl ⊢
    have hcl := sound_cl (p := p) (l := l) (e := e) (R := rmd (d + 1) y) (s := s) (m := m) (args := (av.map (tv b base)).toArray) (below := below) (meth := meth) (c := c) (D := D) (cI := cI) (cJ := cJ) (cZ := cZ) (b := b) (base := base) (y := y) (d := d) (sc := sc) (Qf := MQ below (Qcx D cI cJ cZ b base Q) (av.map (tv b base)).toArray s (mgc y) (mgs y) (fun q => base < q)) (Q := Q) (by omega) hx hb hml hts hown (fun hm => by rw [← m3 hm]; exact (name_of_methodNamed B.named B.method).1) hK hX hbb hR.lt (Nat.le_refl _) (Nat.le_refl _) (Nat.le_refl _) (Nat.le_refl _) ih
      (fun x w H locs lsm pc gc gs hdg hrc hQ hgc hgs hR hS => by
        refine W.widen (k := mgc y) (n := mgs y) hgc hgs ?_
        have hq : ∀ t : State, t.heap = H → s.WarmedH t.vm → Qcx D cI cJ cZ b base Q (av.map (tv b base)).toArray s (.returned (some (.int x))) t := fun t ht hW => ⟨⟨some (.int x), w, hQ, rfl, by rw [ht]; exact hR⟩, hS.F ht⟩
        rcases hrc with hrc | ⟨hrc, hz⟩
        · exact W.zret (ty := .int) hx hb (hr.trans (by unfold mrt; rw [hrc]; rfl)) rfl hq hS.2.2 hdg
        · exact W.zret (ty := .boolean) hx hb (hr.trans (by unfold mrt; rw [hrc]; rfl)) (nar_z hz).1 hq hS.2.2 hdg)
      (fun x w H locs lsm pc gc gs hdg hrc hQ hgc hgs hR hS => by
        refine W.widen (k := mgc y) (n := mgs y) hgc hgs ?_
        exact W.lret hx hb (hr.trans (by unfold mrt; rw [hrc]; rfl)) (fun t ht hW => ⟨⟨some (.long x), w, hQ, rfl, by rw [ht]; exact hR⟩, hS.F ht⟩) hS.2.2 hdg)
      (fun w H locs lsm pc gc gs hdg hrc hQ hgc hgs hR hS => by
        refine W.widen (k := mgc y) (n := mgs y) hgc hgs ?_
        exact W.vret hx hb (hr.trans (by unfold mrt; rw [hrc]; rfl)) (fun t ht hW => ⟨⟨none, w, hQ, rfl, by rw [ht]; exact hR⟩, hS.F ht⟩) hS.2.2 hdg)
    exact h _ hcl (Nat.zero_le _) (Nat.zero_le _) s.heap [] lsm hR va_S.rf (LR_entry hlen hl)
