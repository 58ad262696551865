set_option maxHeartbeats 4000000 in
theorem am_do_g {sc : Sc} {CL CL' : Nat → List Value → Wd → (Option Value → Wd → Prop) → Prop} {y : Nat} {Q Q' : Option Value → Wd → Prop} {K K' : Kt} {w : Wd}
    (hC : ∀ a av P P', (∀ v w', w.1 ≤ w'.1 → P v w' → P' v w') → CL a av w P → CL' a av w P') (hQ : ∀ v, Q v w → Q' v w) (hK : ∀ pc ls st w' gc gs, w.1 ≤ w'.1 → K pc ls st w' gc gs → K' pc ls st w' gc gs)
    {nx a b : Nat} {v : Int32} {ls : Lo} {st : List Value} {gc gs : Nat} (i : Instr) : am_do sc CL y Q K nx a b v ls st w gc gs i → am_do sc CL' y Q' K' nx a b v ls st w gc gs i := by
  have hk : ∀ {pc ls st w' gc gs}, w.1 ≤ w'.1 → K pc ls st w' gc gs → K' pc ls st w' gc gs := fun {pc ls st w' gc gs} => hK pc ls st w' gc gs
  cases i
  case iconst => exact (hk (Nat.le_refl _))
  case bipush => exact (hk (Nat.le_refl _))
  case sipush => exact (hk (Nat.le_refl _))
  case ldc => exact (hk (Nat.le_refl _))
  case ldc_w => exact (hk (Nat.le_refl _))
  case lconst => exact (hk (Nat.le_refl _))
  case ldc2_w => exact (hk (Nat.le_refl _))
  case iload => exact q_loc_m (fun _ => q_int_m fun _ => (hk (Nat.le_refl _))) _ _
  case iload_n => exact q_loc_m (fun _ => q_int_m fun _ => (hk (Nat.le_refl _))) _ _
  case lload => exact q_loc_m (fun _ => q_long_m fun _ => (hk (Nat.le_refl _))) _ _
  case lload_n => exact q_loc_m (fun _ => q_long_m fun _ => (hk (Nat.le_refl _))) _ _
  case aload => exact q_loc_m (fun _ => q_ref_m fun _ => (hk (Nat.le_refl _))) _ _
  case aload_n => exact q_loc_m (fun _ => q_ref_m fun _ => (hk (Nat.le_refl _))) _ _
  case istore => exact q_popi_m fun _ _ => q_st1_m _ _ fun _ => (hk (Nat.le_refl _))
  case istore_n => exact q_popi_m fun _ _ => q_st1_m _ _ fun _ => (hk (Nat.le_refl _))
  case lstore => exact q_popl_m fun _ _ => q_st2_m _ _ fun _ => (hk (Nat.le_refl _))
  case lstore_n => exact q_popl_m fun _ _ => q_st2_m _ _ fun _ => (hk (Nat.le_refl _))
  case astore => exact q_popr_m fun _ _ => q_st1_m _ _ fun _ => (hk (Nat.le_refl _))
  case astore_n => exact q_popr_m fun _ _ => q_st1_m _ _ fun _ => (hk (Nat.le_refl _))
  case iinc => exact q_loc_m (fun _ => q_int_m fun _ => q_st1_m _ _ fun _ => (hk (Nat.le_refl _))) _ _
  case iadd => exact q_popi_m fun _ _ => q_popi_m fun _ _ => (hk (Nat.le_refl _))
  case isub => exact q_popi_m fun _ _ => q_popi_m fun _ _ => (hk (Nat.le_refl _))
  case imul => exact q_popi_m fun _ _ => q_popi_m fun _ _ => (hk (Nat.le_refl _))
  case iand => exact q_popi_m fun _ _ => q_popi_m fun _ _ => (hk (Nat.le_refl _))
  case ior => exact q_popi_m fun _ _ => q_popi_m fun _ _ => (hk (Nat.le_refl _))
  case ixor => exact q_popi_m fun _ _ => q_popi_m fun _ _ => (hk (Nat.le_refl _))
  case ineg => exact q_popi_m fun _ _ => (hk (Nat.le_refl _))
  case ishl => exact q_popi_m fun _ _ => q_popi_m fun _ _ => (hk (Nat.le_refl _))
  case ishr => exact q_popi_m fun _ _ => q_popi_m fun _ _ => (hk (Nat.le_refl _))
  case iushr => exact q_popi_m fun _ _ => q_popi_m fun _ _ => (hk (Nat.le_refl _))
  case idiv => exact q_popi_m fun _ _ => q_popi_m fun _ _ => q_and_m id (hk (Nat.le_refl _))
  case irem => exact q_popi_m fun _ _ => q_popi_m fun _ _ => q_and_m id (hk (Nat.le_refl _))
  case ladd => exact q_popl_m fun _ _ => q_popl_m fun _ _ => (hk (Nat.le_refl _))
  case lsub => exact q_popl_m fun _ _ => q_popl_m fun _ _ => (hk (Nat.le_refl _))
  case lmul => exact q_popl_m fun _ _ => q_popl_m fun _ _ => (hk (Nat.le_refl _))
  case lor => exact q_popl_m fun _ _ => q_popl_m fun _ _ => (hk (Nat.le_refl _))
  case lshl => exact q_popi_m fun _ _ => q_popl_m fun _ _ => (hk (Nat.le_refl _))
  case lshr => exact q_popi_m fun _ _ => q_popl_m fun _ _ => (hk (Nat.le_refl _))
  case lcmp => exact q_popl_m fun _ _ => q_popl_m fun _ _ => (hk (Nat.le_refl _))
  case i2l => exact q_popi_m fun _ _ => (hk (Nat.le_refl _))
  case l2i => exact q_popl_m fun _ _ => (hk (Nat.le_refl _))
  case i2b => exact q_popi_m fun _ _ => (hk (Nat.le_refl _))
  case i2s => exact q_popi_m fun _ _ => (hk (Nat.le_refl _))
  case dup => exact q_pop_m fun _ _ => q_when_m (hk (Nat.le_refl _))
  case dup2 => exact q_pop_m fun _ _ => q_pop_m fun _ _ => q_when_m (hk (Nat.le_refl _))
  case pop => exact q_pop_m fun _ _ => q_when_m (hk (Nat.le_refl _))
  case ifCond => exact q_popi_m fun _ _ => q_c1_m (hk (Nat.le_refl _)) (hk (Nat.le_refl _))
  case if_icmp => exact q_popi_m fun _ _ => q_popi_m fun _ _ => q_c2_m (hk (Nat.le_refl _)) (hk (Nat.le_refl _))
  case goto => exact (hk (Nat.le_refl _))
  case tableswitch => exact q_popi_m fun _ _ => q_sw_m (fun _ => (hk (Nat.le_refl _))) _
  case lookupswitch => exact q_popi_m fun _ _ => q_sw_m (fun _ => (hk (Nat.le_refl _))) _
  case getfield =>
    refine q_popr_m fun k r => q_when_m ?_
    split
    · exact (hk (Nat.le_refl _))
    · split
      · exact (hk (Nat.le_refl _))
      · exact id
    · exact (hk (Nat.le_refl _))
  case putfield =>
    unfold am_do
    dsimp only
    split
    · exact q_popl_m fun _ _ => q_popr_m fun _ _ => q_when_m (hk (Nat.le_refl _))
    · exact q_popr_m fun _ _ => q_popr_m fun _ _ => q_when_m (hk (Nat.le_refl _))
    · exact q_popi_m fun _ _ => q_popr_m fun _ _ => q_when_m (q_and_m id (hk (Nat.le_refl _)))
    · exact q_popi_m fun _ _ => q_popr_m fun _ _ => q_when_m (hk (Nat.le_refl _))
  case iaload =>
    refine q_popi_m fun _ _ => q_popr_m fun k _ => ?_
    cases k with
    | zero => exact q_and_m id (hk (Nat.le_refl _))
    | succ k => exact q_when_m (q_and_m id (hk (Nat.le_refl _)))
  case laload => exact q_popi_m fun _ _ => q_popr_m fun _ _ => q_when_m (q_and_m id (hk (Nat.le_refl _)))
  case baload => exact q_popi_m fun _ _ => q_popr_m fun _ _ => q_when_m (q_and_m id (hk (Nat.le_refl _)))
  case iastore => exact q_popi_m fun _ _ => q_popi_m fun _ _ => q_popr_m fun _ _ => q_when_m (q_and_m id (hk (Nat.le_refl _)))
  case lastore => exact q_popl_m fun _ _ => q_popi_m fun _ _ => q_popr_m fun _ _ => q_when_m (q_and_m id (hk (Nat.le_refl _)))
  case bastore => exact q_popi_m fun _ _ => q_popi_m fun _ _ => q_popr_m fun _ _ => q_when_m (q_and_m id (q_and_m id (hk (Nat.le_refl _))))
  case arraylength =>
    refine q_popr_m fun k _ => ?_
    cases k with
    | zero => exact (hk (Nat.le_refl _))
    | succ k => exact id
  case new => exact q_when_m (hk (Nat.le_succ _))
  case newarray => exact q_popi_m fun _ _ => q_when_m (q_and_m id (hk (Nat.le_succ _)))
  case invokevirtual => exact q_take_m _ _ _ fun _ _ => q_when_m (q_ref1_m fun _ => q_when_m (q_and_m (hC _ _ _ _ fun _ _ hw => hk hw) id))
  case invokestatic =>
    unfold am_do
    dsimp only
    split
    · exact q_popi_m fun _ _ => q_popi_m fun _ _ => q_popr_m fun _ _ => q_popi_m fun _ _ => q_popr_m fun _ _ => q_when_m (q_and_m id (q_and_m id (q_and_m id (q_and_m id (q_and_m id (hk (Nat.le_refl _)))))))
    · split
      · exact q_popi_m fun _ _ => q_popi_m fun _ _ => q_when_m (hk (Nat.le_refl _))
      · split
        · exact q_popl_m fun _ _ => q_popl_m fun _ _ => q_when_m (hk (Nat.le_refl _))
        · split
          · exact q_popl_m fun _ _ => q_popl_m fun _ _ => q_when_m (hk (Nat.le_refl _))
          · exact q_take_m _ _ _ fun _ _ => q_when_m (q_and_m (hC _ _ _ _ fun _ _ hw => hk hw) id)
  case invokespecial =>
    unfold am_do
    dsimp only
    split
    · exact q_popr_m fun _ _ => q_when_m (hk (Nat.le_refl _))
    · exact q_take_m _ _ _ fun _ _ => q_when_m (q_ref1_m fun _ => q_when_m (q_and_m (hC _ _ _ _ fun _ _ hw => hk hw) id))
  case ireturn =>
    unfold am_do
    dsimp only
    split
    · split
      · exact hQ _
      · exact q_and_m id (hQ _)
      · exact id
    · exact id
  case lreturn =>
    unfold am_do
    dsimp only
    split
    · split
      · exact hQ _
      · exact id
    · exact id
  case return_ =>
    unfold am_do
    dsimp only
    split
    · split
      · exact hQ _
      · exact id
    · exact id
  all_goals exact id
theorem am_step_g {sc : Sc} {CL CL' : Nat → List Value → Wd → (Option Value → Wd → Prop) → Prop} {y : Nat} {Q Q' : Option Value → Wd → Prop} {K K' : Kt} {w : Wd}
    (hC : ∀ a av P P', (∀ v w', w.1 ≤ w'.1 → P v w' → P' v w') → CL a av w P → CL' a av w P') (hQ : ∀ v, Q v w → Q' v w) (hK : ∀ pc ls st w' gc gs, w.1 ≤ w'.1 → K pc ls st w' gc gs → K' pc ls st w' gc gs)
    {pc : Nat} {ls : Lo} {st : List Value} {gc gs : Nat} : am_step sc CL y Q K pc ls st w gc gs → am_step sc CL' y Q' K' pc ls st w gc gs := by
  unfold am_step
  cases pg y pc with
  | none => exact id
  | some e => exact am_do_g hC hQ hK _
theorem Ct_g {sc : Sc} : ∀ (d : Nat) {y : Nat} {av : List Value} {w : Wd} {Q : Option Value → Wd → Prop}, Ct sc d y av w Q → Ct sc d y av w (fun v w' => Q v w' ∧ w.1 ≤ w'.1)
  | 0, _, _, _, _, h => h.elim
  | d + 1, y, av, w0, Q, h => fun K hK => by
    have h1 : am_cl sc (Ct sc d) y Q (fun pc ls st w gc gs => w0.1 ≤ w.1 → K pc ls st w gc gs) := by
      refine ⟨fun pc ls st w gc gs g hw => ?_, fun pc ls ls' st w gc gs e g hw => hK.2.1 _ _ _ _ _ _ _ e (g hw), fun pc ls st w w' gc gs e g hw => hK.2.2 _ _ _ _ _ _ _ e (g (by rw [← e.1]; exact hw))⟩
      refine hK.1 _ _ _ _ _ _ (am_step_g (fun a av P P' hP z => Ct_q (Ct_g d z) (fun v w' h => hP v w' h.2 h.1)) (fun v z => ⟨z, hw⟩) (fun pc ls st w' gc gs hle z => z (Nat.le_trans hw hle)) g)
    exact h _ h1 (Nat.le_refl _)
