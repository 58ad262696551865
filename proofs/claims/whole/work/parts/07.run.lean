theorem q_int_m {x : Value} {k k' : Int32 → Prop} (h : ∀ a, k a → k' a) : q_int x k → q_int x k' := by
  unfold q_int; cases x <;> first | exact h _ | exact id
theorem q_long_m {x : Value} {k k' : Int64 → Prop} (h : ∀ a, k a → k' a) : q_long x k → q_long x k' := by
  unfold q_long; cases x <;> first | exact h _ | exact id
theorem q_ref_m {x : Value} {k k' : Nat → Prop} (h : ∀ a, k a → k' a) : q_ref x k → q_ref x k' := by
  unfold q_ref; cases x <;> first | exact h _ | exact id
theorem q_pop_m {st : List Value} {k k' : Value → List Value → Prop} (h : ∀ a r, k a r → k' a r) : q_pop st k → q_pop st k' := by
  unfold q_pop; cases st with
  | nil => exact id
  | cons x r => exact h _ _
theorem q_popi_m {st : List Value} {k k' : Int32 → List Value → Prop} (h : ∀ a r, k a r → k' a r) : q_popi st k → q_popi st k' := by
  unfold q_popi; cases st with
  | nil => exact id
  | cons x r => cases x <;> first | exact h _ _ | exact id
theorem q_popl_m {st : List Value} {k k' : Int64 → List Value → Prop} (h : ∀ a r, k a r → k' a r) : q_popl st k → q_popl st k' := by
  unfold q_popl; cases st with
  | nil => exact id
  | cons x r => cases x <;> first | exact h _ _ | exact id
theorem q_popr_m {st : List Value} {k k' : Nat → List Value → Prop} (h : ∀ a r, k a r → k' a r) : q_popr st k → q_popr st k' := by
  unfold q_popr; cases st with
  | nil => exact id
  | cons x r => cases x <;> first | exact h _ _ | exact id
theorem q_loc_m {k k' : Value → Prop} (h : ∀ a, k a → k' a) : ∀ (ls : Lo) (i : Nat), q_loc ls i k → q_loc ls i k'
  | [], 0 => id
  | [], _ + 1 => id
  | none :: _, 0 => id
  | some v :: _, 0 => h v
  | none :: r, i + 1 => q_loc_m h r i
  | some _ :: r, i + 1 => q_loc_m h r i
theorem q_st1_m {v : Value} : ∀ (ls : Lo) (i : Nat) {k k' : Lo → Prop}, (∀ a, k a → k' a) → q_st1 ls i v k → q_st1 ls i v k'
  | [], 0, _, _, _ => id
  | [], _ + 1, _, _, _ => id
  | _ :: _, 0, _, _, h => h _
  | _ :: r, 1, _, _, h => q_st1_m r 0 (fun _ => h _)
  | _ :: r, i + 2, _, _, h => q_st1_m r (i + 1) (fun _ => h _)
theorem q_st2_m {v : Value} : ∀ (ls : Lo) (i : Nat) {k k' : Lo → Prop}, (∀ a, k a → k' a) → q_st2 ls i v k → q_st2 ls i v k'
  | [], 0, _, _, _ => id
  | [], _ + 1, _, _, _ => id
  | [_], 0, _, _, _ => id
  | _ :: _ :: _, 0, _, _, h => h _
  | _ :: r, 1, _, _, h => q_st2_m r 0 (fun _ => h _)
  | _ :: r, i + 2, _, _, h => q_st2_m r (i + 1) (fun _ => h _)
theorem q_and_m {a b a' b' : Prop} (h1 : a → a') (h2 : b → b') : a ∧ b → a' ∧ b' := fun h => ⟨h1 h.1, h2 h.2⟩
theorem q_c1_m {c : ClassFile.Cond} {x : Int32} {t f t' f' : Prop} (h1 : t → t') (h2 : f → f') : q_c1 c x t f → q_c1 c x t' f' := by
  unfold q_c1; cases c <;> exact q_and_m (fun h z => h1 (h z)) (fun h z => h2 (h z))
theorem q_c2_m {c : ClassFile.Cond} {x y : Int32} {t f t' f' : Prop} (h1 : t → t') (h2 : f → f') : q_c2 c x y t f → q_c2 c x y t' f' := by
  unfold q_c2; cases c <;> exact q_and_m (fun h z => h1 (h z)) (fun h z => h2 (h z))
theorem q_sw_m {x : Int32} {k k' : Nat → Prop} {d : Nat} (h : ∀ a, k a → k' a) : ∀ (l : List (Int32 × Nat)), q_sw x k d l → q_sw x k' d l
  | [] => h _
  | (_, _) :: r => q_and_m (fun g z => h _ (g z)) (fun g z => q_sw_m h r (g z))
theorem q_when_m {b : Bool} {k k' : Prop} (h : k → k') : q_when b k → q_when b k' := by cases b <;> first | exact id | exact h
theorem q_take_m : ∀ (n : Nat) (st acc : List Value) {k k' : List Value → List Value → Prop}, (∀ a r, k a r → k' a r) → q_take n st acc k → q_take n st acc k'
  | 0, _, _, _, _, h => h _ _
  | n + 1, _ :: r, acc, _, _, h => q_take_m n r _ h
  | _ + 1, [], _, _, _, _ => id
theorem q_ref1_m {st : List Value} {k k' : Nat → Prop} (h : ∀ a, k a → k' a) : q_ref1 st k → q_ref1 st k' := by
  unfold q_ref1; cases st with
  | nil => exact id
  | cons x r => cases x <;> first | exact h _ | exact id
set_option maxHeartbeats 4000000 in
theorem am_do_m {sc : Sc} {CL CL' : Nat → List Value → Wd → (Option Value → Wd → Prop) → Prop} {y : Nat} {Q Q' : Option Value → Wd → Prop} {K K' : Kt}
    (hC : ∀ a av w P P', (∀ v w, P v w → P' v w) → CL a av w P → CL' a av w P') (hQ : ∀ v w, Q v w → Q' v w) (hK : ∀ pc ls st w gc gs, K pc ls st w gc gs → K' pc ls st w gc gs)
    {nx a b : Nat} {v : Int32} {ls : Lo} {st : List Value} {w : Wd} {gc gs : Nat} (i : Instr) : am_do sc CL y Q K nx a b v ls st w gc gs i → am_do sc CL' y Q' K' nx a b v ls st w gc gs i := by
  have hk : ∀ {pc ls st w gc gs}, K pc ls st w gc gs → K' pc ls st w gc gs := fun {pc ls st w gc gs} => hK pc ls st w gc gs
  cases i
  case iconst => exact hk
  case bipush => exact hk
  case sipush => exact hk
  case ldc => exact hk
  case ldc_w => exact hk
  case lconst => exact hk
  case ldc2_w => exact hk
  case iload => exact q_loc_m (fun _ => q_int_m fun _ => hk) _ _
  case iload_n => exact q_loc_m (fun _ => q_int_m fun _ => hk) _ _
  case lload => exact q_loc_m (fun _ => q_long_m fun _ => hk) _ _
  case lload_n => exact q_loc_m (fun _ => q_long_m fun _ => hk) _ _
  case aload => exact q_loc_m (fun _ => q_ref_m fun _ => hk) _ _
  case aload_n => exact q_loc_m (fun _ => q_ref_m fun _ => hk) _ _
  case istore => exact q_popi_m fun _ _ => q_st1_m _ _ fun _ => hk
  case istore_n => exact q_popi_m fun _ _ => q_st1_m _ _ fun _ => hk
  case lstore => exact q_popl_m fun _ _ => q_st2_m _ _ fun _ => hk
  case lstore_n => exact q_popl_m fun _ _ => q_st2_m _ _ fun _ => hk
  case astore => exact q_popr_m fun _ _ => q_st1_m _ _ fun _ => hk
  case astore_n => exact q_popr_m fun _ _ => q_st1_m _ _ fun _ => hk
  case iinc => exact q_loc_m (fun _ => q_int_m fun _ => q_st1_m _ _ fun _ => hk) _ _
  case iadd => exact q_popi_m fun _ _ => q_popi_m fun _ _ => hk
  case isub => exact q_popi_m fun _ _ => q_popi_m fun _ _ => hk
  case imul => exact q_popi_m fun _ _ => q_popi_m fun _ _ => hk
  case iand => exact q_popi_m fun _ _ => q_popi_m fun _ _ => hk
  case ior => exact q_popi_m fun _ _ => q_popi_m fun _ _ => hk
  case ixor => exact q_popi_m fun _ _ => q_popi_m fun _ _ => hk
  case ineg => exact q_popi_m fun _ _ => hk
  case ishl => exact q_popi_m fun _ _ => q_popi_m fun _ _ => hk
  case ishr => exact q_popi_m fun _ _ => q_popi_m fun _ _ => hk
  case iushr => exact q_popi_m fun _ _ => q_popi_m fun _ _ => hk
  case idiv => exact q_popi_m fun _ _ => q_popi_m fun _ _ => q_and_m id hk
  case irem => exact q_popi_m fun _ _ => q_popi_m fun _ _ => q_and_m id hk
  case ladd => exact q_popl_m fun _ _ => q_popl_m fun _ _ => hk
  case lsub => exact q_popl_m fun _ _ => q_popl_m fun _ _ => hk
  case lmul => exact q_popl_m fun _ _ => q_popl_m fun _ _ => hk
  case lor => exact q_popl_m fun _ _ => q_popl_m fun _ _ => hk
  case lshl => exact q_popi_m fun _ _ => q_popl_m fun _ _ => hk
  case lshr => exact q_popi_m fun _ _ => q_popl_m fun _ _ => hk
  case lcmp => exact q_popl_m fun _ _ => q_popl_m fun _ _ => hk
  case i2l => exact q_popi_m fun _ _ => hk
  case l2i => exact q_popl_m fun _ _ => hk
  case i2b => exact q_popi_m fun _ _ => hk
  case i2s => exact q_popi_m fun _ _ => hk
  case dup => exact q_pop_m fun _ _ => q_when_m hk
  case dup2 => exact q_pop_m fun _ _ => q_pop_m fun _ _ => q_when_m hk
  case pop => exact q_pop_m fun _ _ => q_when_m hk
  case ifCond => exact q_popi_m fun _ _ => q_c1_m hk hk
  case if_icmp => exact q_popi_m fun _ _ => q_popi_m fun _ _ => q_c2_m hk hk
  case goto => exact hk
  case tableswitch => exact q_popi_m fun _ _ => q_sw_m (fun _ => hk) _
  case lookupswitch => exact q_popi_m fun _ _ => q_sw_m (fun _ => hk) _
  case getfield =>
    refine q_popr_m fun k r => q_when_m ?_
    split
    · exact hk
    · split
      · exact hk
      · exact id
    · exact hk
  case putfield =>
    unfold am_do
    dsimp only
    split
    · exact q_popl_m fun _ _ => q_popr_m fun _ _ => q_when_m hk
    · exact q_popr_m fun _ _ => q_popr_m fun _ _ => q_when_m hk
    · exact q_popi_m fun _ _ => q_popr_m fun _ _ => q_when_m (q_and_m id hk)
    · exact q_popi_m fun _ _ => q_popr_m fun _ _ => q_when_m hk
  case iaload =>
    refine q_popi_m fun _ _ => q_popr_m fun k _ => ?_
    cases k with
    | zero => exact q_and_m id hk
    | succ k => exact q_when_m (q_and_m id hk)
  case laload => exact q_popi_m fun _ _ => q_popr_m fun _ _ => q_when_m (q_and_m id hk)
  case baload => exact q_popi_m fun _ _ => q_popr_m fun _ _ => q_when_m (q_and_m id hk)
  case iastore => exact q_popi_m fun _ _ => q_popi_m fun _ _ => q_popr_m fun _ _ => q_when_m (q_and_m id hk)
  case lastore => exact q_popl_m fun _ _ => q_popi_m fun _ _ => q_popr_m fun _ _ => q_when_m (q_and_m id hk)
  case bastore => exact q_popi_m fun _ _ => q_popi_m fun _ _ => q_popr_m fun _ _ => q_when_m (q_and_m id (q_and_m id hk))
  case arraylength =>
    refine q_popr_m fun k _ => ?_
    cases k with
    | zero => exact hk
    | succ k => exact id
  case new => exact q_when_m hk
  case newarray => exact q_popi_m fun _ _ => q_when_m (q_and_m id hk)
  case invokevirtual => exact q_take_m _ _ _ fun _ _ => q_when_m (q_ref1_m fun _ => q_when_m (q_and_m (hC _ _ _ _ _ fun _ _ => hk) id))
  case invokestatic =>
    unfold am_do
    dsimp only
    split
    · exact q_popi_m fun _ _ => q_popi_m fun _ _ => q_popr_m fun _ _ => q_popi_m fun _ _ => q_popr_m fun _ _ => q_when_m (q_and_m id (q_and_m id (q_and_m id (q_and_m id (q_and_m id hk)))))
    · split
      · exact q_popi_m fun _ _ => q_popi_m fun _ _ => q_when_m hk
      · split
        · exact q_popl_m fun _ _ => q_popl_m fun _ _ => q_when_m hk
        · split
          · exact q_popl_m fun _ _ => q_popl_m fun _ _ => q_when_m hk
          · exact q_take_m _ _ _ fun _ _ => q_when_m (q_and_m (hC _ _ _ _ _ fun _ _ => hk) id)
  case invokespecial =>
    unfold am_do
    dsimp only
    split
    · exact q_popr_m fun _ _ => q_when_m hk
    · exact q_take_m _ _ _ fun _ _ => q_when_m (q_ref1_m fun _ => q_when_m (q_and_m (hC _ _ _ _ _ fun _ _ => hk) id))
  case ireturn =>
    unfold am_do
    dsimp only
    split
    · split
      · exact hQ _ _
      · exact q_and_m id (hQ _ _)
      · exact id
    · exact id
  case lreturn =>
    unfold am_do
    dsimp only
    split
    · split
      · exact hQ _ _
      · exact id
    · exact id
  case return_ =>
    unfold am_do
    dsimp only
    split
    · split
      · exact hQ _ _
      · exact id
    · exact id
  all_goals exact id
theorem am_step_m {sc : Sc} {CL CL' : Nat → List Value → Wd → (Option Value → Wd → Prop) → Prop} {y : Nat} {Q Q' : Option Value → Wd → Prop} {K K' : Kt}
    (hC : ∀ a av w P P', (∀ v w, P v w → P' v w) → CL a av w P → CL' a av w P') (hQ : ∀ v w, Q v w → Q' v w) (hK : ∀ pc ls st w gc gs, K pc ls st w gc gs → K' pc ls st w gc gs)
    {pc : Nat} {ls : Lo} {st : List Value} {w : Wd} {gc gs : Nat} : am_step sc CL y Q K pc ls st w gc gs → am_step sc CL' y Q' K' pc ls st w gc gs := by
  unfold am_step
  cases pg y pc with
  | none => exact id
  | some e => exact am_do_m hC hQ hK _
theorem am_cl_m {sc : Sc} {CL CL' : Nat → List Value → Wd → (Option Value → Wd → Prop) → Prop} {y : Nat} {Q Q' : Option Value → Wd → Prop} {K : Kt}
    (hC : ∀ a av w P P', (∀ v w, P v w → P' v w) → CL a av w P → CL' a av w P') (hQ : ∀ v w, Q v w → Q' v w) (h : am_cl sc CL' y Q' K) : am_cl sc CL y Q K :=
  ⟨fun pc ls st w gc gs g => h.1 _ _ _ _ _ _ (am_step_m hC hQ (fun _ _ _ _ _ _ z => z) g), h.2.1, h.2.2⟩
/-- a call's end may be weakened, its depth grow -/
theorem Ct_m {sc : Sc} : ∀ {d d' : Nat} {y : Nat} {av : List Value} {w : Wd} {Q Q' : Option Value → Wd → Prop}, d ≤ d' → (∀ v w, Q v w → Q' v w) → Ct sc d y av w Q → Ct sc d' y av w Q'
  | 0, _, _, _, _, _, _, _, _, h => h.elim
  | _ + 1, 0, _, _, _, _, _, hd, _, _ => absurd hd (Nat.not_succ_le_zero _)
  | d + 1, d' + 1, _, _, _, _, _, hd, hQ, h => fun K hK => h K (am_cl_m (fun _ _ _ _ _ g z => Ct_m (Nat.le_of_succ_le_succ hd) g z) hQ hK)
theorem Ct_q {sc : Sc} {d y : Nat} {av : List Value} {w : Wd} {Q Q' : Option Value → Wd → Prop} (h : Ct sc d y av w Q) (hQ : ∀ v w, Q v w → Q' v w) : Ct sc d y av w Q' := Ct_m (Nat.le_refl _) hQ h
/-- the known locals, cut down to those that are marked -/
def q_mask : List Bool → Lo → (Lo → Prop) → Prop
  | true :: m, x :: r, k => q_mask m r (fun t => k (x :: t))
  | false :: m, _ :: r, k => q_mask m r (fun t => k (none :: t))
  | [], [], k => k []
  | _, _, _ => False
/-- a run of at most n instructions, which stops at the marked places -/
def am_run (sc : Sc) (CL : Nat → List Value → Wd → (Option Value → Wd → Prop) → Prop) (y : Nat) (Q : Option Value → Wd → Prop) (K : Kt) (sp : Nat → Option (List Bool)) : Nat → Kt
  | 0 => K
  | n + 1 => am_step sc CL y Q (fun pc ls st w gc gs => match sp pc with
      | none => am_run sc CL y Q K sp n pc ls st w gc gs
      | some m => q_mask m ls (fun t => K pc t st w gc gs))
theorem q_mask_le : ∀ (m : List Bool) (ls : Lo) {k : Lo → Prop}, q_mask m ls k → ∃ t, lo_le t ls ∧ k t
  | true :: m, x :: r, k, h => by
    obtain ⟨t, ⟨h1, h2⟩, h3⟩ := q_mask_le m r h
    exact ⟨x :: t, ⟨by simp [h1], fun i v hi => by cases i with | zero => exact hi | succ i => exact h2 i v hi⟩, h3⟩
  | false :: m, x :: r, k, h => by
    obtain ⟨t, ⟨h1, h2⟩, h3⟩ := q_mask_le m r h
    exact ⟨none :: t, ⟨by simp [h1], fun i v hi => by cases i with | zero => cases hi | succ i => exact h2 i v hi⟩, h3⟩
  | [], [], k, h => ⟨[], ⟨rfl, fun i v hi => by cases hi⟩, h⟩
  | [], _ :: _, _, h => h.elim
  | true :: _, [], _, h => h.elim
  | false :: _, [], _, h => h.elim
theorem am_go {sc : Sc} {d : Nat} {y : Nat} {Q : Option Value → Wd → Prop} {K : Kt} (hK : am_cl sc (Ct sc d) y Q K) (sp : Nat → Option (List Bool)) : ∀ (n : Nat) {pc : Nat} {ls : Lo} {st : List Value} {w : Wd} {gc gs : Nat}, am_run sc (Ct sc d) y Q K sp n pc ls st w gc gs → K pc ls st w gc gs := by
  intro n
  induction n with
  | zero => intro _ _ _ _ _ _ h; exact h
  | succ n ih =>
    intro pc ls st w gc gs h
    have h' : am_step sc (Ct sc d) y Q (fun pc ls st w gc gs => match sp pc with
      | none => am_run sc (Ct sc d) y Q K sp n pc ls st w gc gs
      | some m => q_mask m ls (fun t => K pc t st w gc gs)) pc ls st w gc gs := h
    refine hK.1 _ _ _ _ _ _ (am_step_m (CL := Ct sc d) (CL' := Ct sc d) (fun _ _ _ _ _ g z => Ct_q z g) (fun _ _ z => z) (fun pc ls st w gc gs z => ?_) h')
    revert z
    cases sp pc with
    | none => exact fun z => ih z
    | some m =>
      intro z
      obtain ⟨t, h1, h2⟩ := q_mask_le m ls z
      exact hK.2.1 _ _ _ _ _ _ _ h1 h2
