/-! THE ABSTRACT MACHINE: one instruction as a transformer of conditions. A world: how many cells are made; ints of the arrays; longs of the arrays; int fields; long fields; references. -/
abbrev Wd : Type := Nat × (Nat → Nat → Int32) × (Nat → Nat → Int64) × (Nat → Nat → Int32) × (Nat → Nat → Int64) × (Nat → Nat → Option Nat)
abbrev Lo : Type := List (Option Value)
/-- a place of the machine: pc, locals, stack, world, cells and slots made so far in this frame -/
abbrev Kt : Type := Nat → Lo → List Value → Wd → Nat → Nat → Prop
def u1 {α : Type} (f : Nat → α) (k : Nat) (v : α) : Nat → α := fun a => if a = k then v else f a
def u2 {α : Type} (f : Nat → Nat → α) (k j : Nat) (v : α) : Nat → Nat → α := fun a b => if a = k then (if b = j then v else f a b) else f a b
def uR (f : Nat → Nat → Option Nat) (k j : Nat) (v : Option Nat) : Nat → Nat → Option Nat := fun a b => bif Nat.beq a k then (bif Nat.beq b j then v else f a b) else f a b
def q_int (x : Value) (k : Int32 → Prop) : Prop := match x with | .int a => k a | _ => False
def q_long (x : Value) (k : Int64 → Prop) : Prop := match x with | .long a => k a | _ => False
def q_ref (x : Value) (k : Nat → Prop) : Prop := match x with | .ref a => k a | _ => False
def q_pop (st : List Value) (k : Value → List Value → Prop) : Prop := match st with | x :: r => k x r | [] => False
def q_popi (st : List Value) (k : Int32 → List Value → Prop) : Prop := match st with | .int x :: r => k x r | _ => False
def q_popl (st : List Value) (k : Int64 → List Value → Prop) : Prop := match st with | .long x :: r => k x r | _ => False
def q_popr (st : List Value) (k : Nat → List Value → Prop) : Prop := match st with | .ref x :: r => k x r | _ => False
def q_loc : Lo → Nat → (Value → Prop) → Prop
  | some v :: _, 0, k => k v
  | _ :: r, i + 1, k => q_loc r i k
  | _, _, _ => False
/-- forgets a long whose second half is overwritten -/
def q_cut (x : Option Value) : Option Value := match x with | some (.long _) => none | some (.double _) => none | y => y
def q_st1 : Lo → Nat → Value → (Lo → Prop) → Prop
  | _ :: r, 0, v, k => k (some v :: r)
  | x :: r, 1, v, k => q_st1 r 0 v (fun t => k (q_cut x :: t))
  | x :: r, i + 2, v, k => q_st1 r (i + 1) v (fun t => k (x :: t))
  | [], _, _, _ => False
def q_st2 : Lo → Nat → Value → (Lo → Prop) → Prop
  | _ :: r, 0, v, k => (match r with | _ :: r2 => k (some v :: none :: r2) | [] => False)
  | x :: r, 1, v, k => q_st2 r 0 v (fun t => k (q_cut x :: t))
  | x :: r, i + 2, v, k => q_st2 r (i + 1) v (fun t => k (x :: t))
  | [], _, _, _ => False
def q_br (c t f : Prop) : Prop := (c → t) ∧ (¬ c → f)
def q_c1 (c : ClassFile.Cond) (x : Int32) (t f : Prop) : Prop := match c with
  | .eq => (x = 0 → t) ∧ (¬ x = 0 → f)
  | .ne => (¬ x = 0 → t) ∧ (x = 0 → f)
  | .lt => (x < 0 → t) ∧ (¬ x < 0 → f)
  | .ge => (0 ≤ x → t) ∧ (¬ 0 ≤ x → f)
  | .gt => (0 < x → t) ∧ (¬ 0 < x → f)
  | .le => (x ≤ 0 → t) ∧ (¬ x ≤ 0 → f)
def q_c2 (c : ClassFile.Cond) (x y : Int32) (t f : Prop) : Prop := match c with
  | .eq => (x = y → t) ∧ (¬ x = y → f)
  | .ne => (¬ x = y → t) ∧ (x = y → f)
  | .lt => (x < y → t) ∧ (¬ x < y → f)
  | .ge => (y ≤ x → t) ∧ (¬ y ≤ x → f)
  | .gt => (y < x → t) ∧ (¬ y < x → f)
  | .le => (x ≤ y → t) ∧ (¬ x ≤ y → f)
/-- an index within bounds -/
def vq (j : Int32) (n : Nat) : Prop := 0 ≤ j.toInt ∧ j.toInt < (n : Int)
def q_nz (z : Int32) : Prop := ¬ z = 0 ∧ True
def q_sw (x : Int32) (k : Nat → Prop) (d : Nat) : List (Int32 × Nat) → Prop
  | [] => k d
  | (a, t) :: r => (x = a → k t) ∧ (¬ x = a → q_sw x k d r)
def q_when (b : Bool) (k : Prop) : Prop := match b with | true => k | false => False
def q_cats (st : List Value) : Nat := match st with | [] => 0 | .long _ :: r => q_cats r + 2 | .double _ :: r => q_cats r + 2 | _ :: r => q_cats r + 1
/-- the last n of the stack, in the order in which they were pushed, and the rest -/
def q_take : Nat → List Value → List Value → (List Value → List Value → Prop) → Prop
  | 0, st, acc, k => k acc st
  | n + 1, x :: r, acc, k => q_take n r (x :: acc) k
  | _ + 1, [], _, _ => False
/-- the locals at a method's start -/
def q_ent : List Value → Lo
  | [] => []
  | .long v :: r => some (.long v) :: none :: q_ent r
  | .double v :: r => some (.double v) :: none :: q_ent r
  | v :: r => some v :: q_ent r
def q_pad (n : Nat) (l : Lo) : Lo := match n, l with | 0, l => l | n + 1, x :: r => x :: q_pad n r | n + 1, [] => none :: q_pad n []
def q_push (v : Option Value) (st : List Value) : List Value := match v with | some x => x :: st | none => st
def q_ref1 (st : List Value) (k : Nat → Prop) : Prop := match st with | .ref r :: _ => k r | _ => False
/-- a new cell: all that it holds is 0 or nothing -/
def wnew (w : Wd) : Wd := (w.1 + 1, u1 w.2.1 (w.1 + 1) (fun _ => 0), u1 w.2.2.1 (w.1 + 1) (fun _ => 0), u1 w.2.2.2.1 (w.1 + 1) (fun _ => 0), u1 w.2.2.2.2.1 (w.1 + 1) (fun _ => 0), fun a b => bif Nat.beq a (w.1 + 1) then none else w.2.2.2.2.2 a b)
def wA (w : Wd) (k : Nat) (i : Nat) (x : Int32) : Wd := (w.1, u2 w.2.1 k i x, w.2.2)
def wL (w : Wd) (k : Nat) (i : Nat) (x : Int64) : Wd := (w.1, w.2.1, u2 w.2.2.1 k i x, w.2.2.2)
def wI (w : Wd) (k : Nat) (j : Nat) (x : Int32) : Wd := (w.1, w.2.1, w.2.2.1, u2 w.2.2.2.1 k j x, w.2.2.2.2)
def wJ (w : Wd) (k : Nat) (j : Nat) (x : Int64) : Wd := (w.1, w.2.1, w.2.2.1, w.2.2.2.1, u2 w.2.2.2.2.1 k j x, w.2.2.2.2.2)
def wR (w : Wd) (k : Nat) (j : Nat) (x : Option Nat) : Wd := (w.1, w.2.1, w.2.2.1, w.2.2.2.1, w.2.2.2.2.1, uR w.2.2.2.2.2 k j x)
/-- a copy of n cells of an array (System.arraycopy) -/
def wC (w : Wd) (k0 k1 sp dp n : Nat) : Wd := (w.1, u1 w.2.1 k1 (va_cpy (w.2.1 k0) (w.2.1 k1) sp dp n), w.2.2)
abbrev Sc : Type := Nat × (Nat → Int32)
/-- what one instruction asks, so that K holds behind it. CL: what a call gives; y: the method; Q: what must hold of its answer -/
def am_do (sc : Sc) (CL : Nat → List Value → Wd → (Option Value → Wd → Prop) → Prop) (y : Nat) (Q : Option Value → Wd → Prop) (K : Kt) (nx a b : Nat) (v : Int32) (ls : Lo) (st : List Value) (w : Wd) (gc gs : Nat) (i : Instr) : Prop :=
  match i with
  | .iconst _ => K nx ls (.int v :: st) w gc gs
  | .bipush _ => K nx ls (.int v :: st) w gc gs
  | .sipush _ => K nx ls (.int v :: st) w gc gs
  | .ldc _ => K nx ls (.int v :: st) w gc gs
  | .ldc_w _ => K nx ls (.int v :: st) w gc gs
  | .lconst _ => K nx ls (.long (lkc a) :: st) w gc gs
  | .ldc2_w _ => K nx ls (.long (lkc a) :: st) w gc gs
  | .iload _ => q_loc ls a (fun x => q_int x (fun z => K nx ls (.int z :: st) w gc gs))
  | .iload_n _ => q_loc ls a (fun x => q_int x (fun z => K nx ls (.int z :: st) w gc gs))
  | .lload _ => q_loc ls a (fun x => q_long x (fun z => K nx ls (.long z :: st) w gc gs))
  | .lload_n _ => q_loc ls a (fun x => q_long x (fun z => K nx ls (.long z :: st) w gc gs))
  | .aload _ => q_loc ls a (fun x => q_ref x (fun z => K nx ls (.ref z :: st) w gc gs))
  | .aload_n _ => q_loc ls a (fun x => q_ref x (fun z => K nx ls (.ref z :: st) w gc gs))
  | .istore _ => q_popi st (fun z r => q_st1 ls a (.int z) (fun t => K nx t r w gc gs))
  | .istore_n _ => q_popi st (fun z r => q_st1 ls a (.int z) (fun t => K nx t r w gc gs))
  | .lstore _ => q_popl st (fun z r => q_st2 ls a (.long z) (fun t => K nx t r w gc gs))
  | .lstore_n _ => q_popl st (fun z r => q_st2 ls a (.long z) (fun t => K nx t r w gc gs))
  | .astore _ => q_popr st (fun z r => q_st1 ls a (.ref z) (fun t => K nx t r w gc gs))
  | .astore_n _ => q_popr st (fun z r => q_st1 ls a (.ref z) (fun t => K nx t r w gc gs))
  | .iinc _ _ => q_loc ls a (fun x => q_int x (fun z => q_st1 ls a (.int (z + v)) (fun t => K nx t st w gc gs)))
  | .iadd => q_popi st (fun z r => q_popi r (fun x r => K nx ls (.int (x + z) :: r) w gc gs))
  | .isub => q_popi st (fun z r => q_popi r (fun x r => K nx ls (.int (x - z) :: r) w gc gs))
  | .imul => q_popi st (fun z r => q_popi r (fun x r => K nx ls (.int (x * z) :: r) w gc gs))
  | .iand => q_popi st (fun z r => q_popi r (fun x r => K nx ls (.int (x &&& z) :: r) w gc gs))
  | .ior => q_popi st (fun z r => q_popi r (fun x r => K nx ls (.int (x ||| z) :: r) w gc gs))
  | .ixor => q_popi st (fun z r => q_popi r (fun x r => K nx ls (.int (x ^^^ z) :: r) w gc gs))
  | .ineg => q_popi st (fun z r => K nx ls (.int (-z) :: r) w gc gs)
  | .ishl => q_popi st (fun z r => q_popi r (fun x r => K nx ls (.int (x <<< (z &&& 31)) :: r) w gc gs))
  | .ishr => q_popi st (fun z r => q_popi r (fun x r => K nx ls (.int (x >>> (z &&& 31)) :: r) w gc gs))
  | .iushr => q_popi st (fun z r => q_popi r (fun x r => K nx ls (.int (x.toUInt32 >>> (z.toUInt32 &&& Int32.toUInt32 31)).toInt32 :: r) w gc gs))
  | .idiv => q_popi st (fun z r => q_popi r (fun x r => q_nz z ∧ K nx ls (.int (x / z) :: r) w gc gs))
  | .irem => q_popi st (fun z r => q_popi r (fun x r => q_nz z ∧ K nx ls (.int (x - x / z * z) :: r) w gc gs))
  | .ladd => q_popl st (fun z r => q_popl r (fun x r => K nx ls (.long (x + z) :: r) w gc gs))
  | .lsub => q_popl st (fun z r => q_popl r (fun x r => K nx ls (.long (x - z) :: r) w gc gs))
  | .lmul => q_popl st (fun z r => q_popl r (fun x r => K nx ls (.long (x * z) :: r) w gc gs))
  | .lor => q_popl st (fun z r => q_popl r (fun x r => K nx ls (.long (x ||| z) :: r) w gc gs))
  | .lshl => q_popi st (fun z r => q_popl r (fun x r => K nx ls (.long (x <<< (z.toInt64 &&& 63)) :: r) w gc gs))
  | .lshr => q_popi st (fun z r => q_popl r (fun x r => K nx ls (.long (x >>> (z.toInt64 &&& 63)) :: r) w gc gs))
  | .lcmp => q_popl st (fun z r => q_popl r (fun x r => K nx ls (.int (lg_cmp x z) :: r) w gc gs))
  | .i2l => q_popi st (fun z r => K nx ls (.long z.toInt64 :: r) w gc gs)
  | .l2i => q_popl st (fun z r => K nx ls (.int z.toInt32 :: r) w gc gs)
  | .i2b => q_popi st (fun z r => K nx ls (.int z.toInt8.toInt32 :: r) w gc gs)
  | .i2s => q_popi st (fun z r => K nx ls (.int z.toInt16.toInt32 :: r) w gc gs)
  | .dup => q_pop st (fun x r => q_when (Nat.beq x.category 1) (K nx ls (x :: x :: r) w gc gs))
  | .dup2 => q_pop st (fun x r => q_pop r (fun z r => q_when (Nat.beq x.category 1 && Nat.beq z.category 1) (K nx ls (x :: z :: x :: z :: r) w gc gs)))
  | .pop => q_pop st (fun x r => q_when (Nat.beq x.category 1) (K nx ls r w gc gs))
  | .ifCond c _ => q_popi st (fun x r => q_c1 c x (K a ls r w gc gs) (K nx ls r w gc gs))
  | .if_icmp c _ => q_popi st (fun z r => q_popi r (fun x r => q_c2 c x z (K a ls r w gc gs) (K nx ls r w gc gs)))
  | .goto _ => K a ls st w gc gs
  | .tableswitch _ _ _ _ => q_popi st (fun x r => q_sw x (fun t => K t ls r w gc gs) (sww a).1 (sww a).2)
  | .lookupswitch _ _ => q_popi st (fun x r => q_sw x (fun t => K t ls r w gc gs) (sww a).1 (sww a).2)
  | .getfield _ => q_popr st (fun k r => q_when (Nat.ble 1 k && (Nat.ble k w.1 && Nat.beq (kd k) a)) (match ft a b with
      | 1 => K nx ls (.long (w.2.2.2.2.1 k b) :: r) w gc gs
      | 2 => match w.2.2.2.2.2 k b with | some q => K nx ls (.ref q :: r) w gc gs | none => False
      | _ => K nx ls (.int (w.2.2.2.1 k b) :: r) w gc gs))
  | .putfield _ => (match ft a b with
      | 1 => q_popl st (fun x r => q_popr r (fun k r => q_when (Nat.ble 1 k && (Nat.ble k w.1 && Nat.beq (kd k) a)) (K nx ls r (wJ w k b x) gc gs)))
      | 2 => q_popr st (fun x r => q_popr r (fun k r => q_when (Nat.ble 1 k && (Nat.ble k w.1 && Nat.beq (kd k) a)) (K nx ls r (wR w k b (some x)) gc gs)))
      | 3 => q_popi st (fun x r => q_popr r (fun k r => q_when (Nat.ble 1 k && (Nat.ble k w.1 && Nat.beq (kd k) a)) ((x = 0 ∨ x = 1) ∧ K nx ls r (wI w k b x) gc gs)))
      | _ => q_popi st (fun x r => q_popr r (fun k r => q_when (Nat.ble 1 k && (Nat.ble k w.1 && Nat.beq (kd k) a)) (K nx ls r (wI w k b x) gc gs))))
  | .iaload => q_popi st (fun j r => q_popr r (fun k r => match k with
      | 0 => vq j sc.1 ∧ K nx ls (.int (sc.2 j.toNatClampNeg) :: r) w gc gs
      | k + 1 => q_when (Nat.ble (k + 1) w.1 && Nat.beq (kd (k + 1)) 13) (vq j (ln (k + 1)) ∧ K nx ls (.int (w.2.1 (k + 1) j.toNatClampNeg) :: r) w gc gs)))
  | .laload => q_popi st (fun j r => q_popr r (fun k r => q_when (Nat.ble 1 k && (Nat.ble k w.1 && Nat.beq (kd k) 14)) (vq j (ln k) ∧ K nx ls (.long (w.2.2.1 k j.toNatClampNeg) :: r) w gc gs)))
  | .baload => q_popi st (fun j r => q_popr r (fun k r => q_when (Nat.ble 1 k && (Nat.ble k w.1 && Nat.beq (kd k) 15)) (vq j (ln k) ∧ K nx ls (.int (w.2.1 k j.toNatClampNeg) :: r) w gc gs)))
  | .iastore => q_popi st (fun x r => q_popi r (fun j r => q_popr r (fun k r => q_when (Nat.ble 1 k && (Nat.ble k w.1 && Nat.beq (kd k) 13)) (vq j (ln k) ∧ K nx ls r (wA w k j.toNatClampNeg x) gc gs))))
  | .lastore => q_popl st (fun x r => q_popi r (fun j r => q_popr r (fun k r => q_when (Nat.ble 1 k && (Nat.ble k w.1 && Nat.beq (kd k) 14)) (vq j (ln k) ∧ K nx ls r (wL w k j.toNatClampNeg x) gc gs))))
  | .bastore => q_popi st (fun x r => q_popi r (fun j r => q_popr r (fun k r => q_when (Nat.ble 1 k && (Nat.ble k w.1 && Nat.beq (kd k) 15)) ((x = 0 ∨ x = 1) ∧ vq j (ln k) ∧ K nx ls r (wA w k j.toNatClampNeg x) gc gs))))
  | .arraylength => q_popr st (fun k r => match k with
      | 0 => K nx ls (.int (Int32.ofNat sc.1) :: r) w gc gs
      | _ + 1 => False)
  | .new _ => q_when (Nat.blt w.1 120 && (Nat.beq (kd (w.1 + 1)) a && (Nat.ble (gc + 1) (mgc y) && Nat.ble (gs + nf a) (mgs y)))) (K nx ls (.ref (w.1 + 1) :: st) (wnew w) (gc + 1) (gs + nf a))
  | .newarray t => q_popi st (fun x r => q_when (Nat.blt w.1 120 && (Nat.beq (kd (w.1 + 1)) (match t with | .int => 13 | .long => 14 | .boolean => 15 | _ => 99) && (Nat.ble (ln (w.1 + 1)) 2000 && (Nat.ble (gc + 1) (mgc y) && Nat.ble (gs + ln (w.1 + 1)) (mgs y))))) (x = Int32.ofNat (ln (w.1 + 1)) ∧ K nx ls (.ref (w.1 + 1) :: r) (wnew w) (gc + 1) (gs + ln (w.1 + 1))))
  | .invokevirtual _ => q_take b st [] (fun av r => q_when (Nat.ble (q_cats r) 8 && (Nat.ble (q_ent av).length (mxl a) && (Nat.ble (gc + mgc a) (mgc y) && Nat.ble (gs + mgs a) (mgs y)))) (q_ref1 av (fun k => q_when (Nat.ble 1 k && (Nat.ble k w.1 && Nat.beq (kd k) (mown a))) (CL a av w (fun z w' => K nx ls (q_push z r) w' (gc + mgc a) (gs + mgs a)) ∧ True))))
  | .invokestatic _ => (match Nat.beq a 1001 with
      | true => q_popi st (fun n r => q_popi r (fun dp r => q_popr r (fun k1 r => q_popi r (fun sp r => q_popr r (fun k0 r => q_when (Nat.ble 120 w.1 && Nat.ble (q_cats r) 8 && (Nat.ble 1 k0 && (Nat.ble 1 k1 && (Nat.ble k0 w.1 && (Nat.ble k1 w.1 && (Nat.beq (kd k0) 13 && Nat.beq (kd k1) 13))))))
          (¬ sp < 0 ∧ ¬ dp < 0 ∧ ¬ n < 0 ∧ sp.toNatClampNeg + n.toNatClampNeg ≤ ln k0 ∧ dp.toNatClampNeg + n.toNatClampNeg ≤ ln k1 ∧ K nx ls r (wC w k0 k1 sp.toNatClampNeg dp.toNatClampNeg n.toNatClampNeg) gc gs))))))
      | false => (match Nat.beq a 1002 with
        | true => q_popi st (fun z r => q_popi r (fun x r => q_when (Nat.ble (q_cats r) 8) (K nx ls (.int (if z < x then z else x) :: r) w gc gs)))
        | false => (match Nat.beq a 1003 with
          | true => q_popl st (fun z r => q_popl r (fun x r => q_when (Nat.ble (q_cats r) 8) (K nx ls (.long (if z < x then z else x) :: r) w gc gs)))
          | false => (match Nat.beq a 1004 with
            | true => q_popl st (fun z r => q_popl r (fun x r => q_when (Nat.ble (q_cats r) 8) (K nx ls (.long (if z < x then x else z) :: r) w gc gs)))
            | false => q_take b st [] (fun av r => q_when (Nat.ble (q_cats r) 8 && (Nat.ble (q_ent av).length (mxl a) && (Nat.ble (gc + mgc a) (mgc y) && Nat.ble (gs + mgs a) (mgs y)))) (CL a av w (fun z w' => K nx ls (q_push z r) w' (gc + mgc a) (gs + mgs a)) ∧ True))))))
  | .invokespecial _ => (match Nat.beq a 1000 with
      | true => q_popr st (fun _ r => q_when (Nat.ble (q_cats r) 8) (K nx ls r w gc gs))
      | false => q_take b st [] (fun av r => q_when (Nat.ble (q_cats r) 8 && (Nat.ble (q_ent av).length (mxl a) && (Nat.ble (gc + mgc a) (mgc y) && Nat.ble (gs + mgs a) (mgs y)))) (q_ref1 av (fun k => q_when (Nat.ble 1 k && (Nat.ble k w.1 && Nat.beq (kd k) (mown a))) (CL a av w (fun z w' => K nx ls (q_push z r) w' (gc + mgc a) (gs + mgs a)) ∧ True)))))
  | .ireturn => (match st with
      | [.int x] => (match mrc y with | 1 => Q (some (.int x)) w | 2 => (x = 0 ∨ x = 1) ∧ Q (some (.int x)) w | _ => False)
      | _ => False)
  | .lreturn => (match st with
      | [.long x] => (match mrc y with | 3 => Q (some (.long x)) w | _ => False)
      | _ => False)
  | .return_ => (match st with
      | [] => (match mrc y with | 0 => Q none w | _ => False)
      | _ => False)
  | _ => False
def am_step (sc : Sc) (CL : Nat → List Value → Wd → (Option Value → Wd → Prop) → Prop) (y : Nat) (Q : Option Value → Wd → Prop) (K : Kt) : Kt := fun pc ls st w gc gs =>
  match pg y pc with
  | none => False
  | some (i, nx, a, b, v) => am_do sc CL y Q K nx a b v ls st w gc gs i
/-- fewer locals are known -/
def lo_le (l' l : Lo) : Prop := l'.length = l.length ∧ ∀ (i : Nat) (v : Value), l'[i]? = some (some v) → l[i]? = some (some v)
/-- two worlds are one, as far as cells are made -/
def w_eq (w w' : Wd) : Prop := w.1 = w'.1 ∧ ∀ k, 1 ≤ k → k ≤ w.1 → (∀ i, i < ln k → w.2.1 k i = w'.2.1 k i ∧ w.2.2.1 k i = w'.2.2.1 k i) ∧ ∀ j, j < nf (kd k) → w.2.2.2.1 k j = w'.2.2.2.1 k j ∧ w.2.2.2.2.1 k j = w'.2.2.2.2.1 k j ∧ w.2.2.2.2.2 k j = w'.2.2.2.2.2 k j
def am_cl (sc : Sc) (CL : Nat → List Value → Wd → (Option Value → Wd → Prop) → Prop) (y : Nat) (Q : Option Value → Wd → Prop) (K : Kt) : Prop :=
  (∀ pc ls st w gc gs, am_step sc CL y Q K pc ls st w gc gs → K pc ls st w gc gs) ∧ (∀ pc ls ls' st w gc gs, lo_le ls' ls → K pc ls' st w gc gs → K pc ls st w gc gs) ∧ ∀ pc ls st w w' gc gs, w_eq w w' → K pc ls st w' gc gs → K pc ls st w gc gs
/-- a call of method y at depth d: it returns, and Q holds of its answer and of the world behind it -/
def Ct (sc : Sc) : Nat → Nat → List Value → Wd → (Option Value → Wd → Prop) → Prop
  | 0 => fun _ _ _ _ => False
  | d + 1 => fun y av w Q => ∀ K : Kt, am_cl sc (Ct sc d) y Q K → K 0 (q_pad (mxl y) (q_ent av)) [] w 0 0
