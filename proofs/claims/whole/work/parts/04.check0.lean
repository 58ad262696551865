/-- the rows of the program against the code and the words -/
def ck_len (pc nx k : Nat) : Bool := Nat.beq nx (pc + k)
def ck_fl (o i a b : Nat) : Bool := tfl.any (fun q => Nat.beq q.1 o && (Nat.beq q.2.1 i && (Nat.beq q.2.2.1 a && Nat.beq q.2.2.2.1 b)))
def ck_ml (o i a : Nat) : Bool := tml.any (fun q => Nat.beq q.1 o && (Nat.beq q.2.1 i && Nat.beq q.2.2.1 a))
def ck_ol (o i : Nat) : Bool := tol.any (fun q => Nat.beq q.1 o && Nat.beq q.2.1 i)
def ck_nl (o i : Nat) : Bool := tnl.any (fun q => Nat.beq q.1 o && Nat.beq q.2.1 i)
def ck_nl3 (o i : Nat) : Bool := tnl1003.any (fun q => Nat.beq q.1 o && Nat.beq q.2.1 i)
def ck_nl4 (o i : Nat) : Bool := tnl1004.any (fun q => Nat.beq q.1 o && Nat.beq q.2.1 i)
def ck_cl (o i a : Nat) : Bool := tcl.any (fun q => Nat.beq q.1 o && (Nat.beq q.2.1 i && Nat.beq q.2.2.1 a))
def ck_ki (o i : Nat) (v : Int32) : Bool := tki.any (fun q => Nat.beq q.1 o && (Nat.beq q.2.1 i && decide (q.2.2.1 = v)))
def ck_kl (o i a : Nat) : Bool := tkl.any (fun q => Nat.beq q.1 o && (Nat.beq q.2.1 i && Nat.beq q.2.2.1 a))
def ck_ts (pc : Nat) (d lo hi : Int) (offs : Array Int) (s : Nat × List (Int32 × Nat)) : Bool := decide ((pc : Int) + d = (s.1 : Int)) && (decide (offs.toList.length = s.2.length) && (decide (hi = lo + (s.2.length : Int) - 1) && (List.range s.2.length).all (fun j => decide ((s.2.getD j (0, 0)).1.toInt = lo + (j : Int)) && decide ((pc : Int) + offs.toList.getD j 0 = ((s.2.getD j (0, 0)).2 : Int)))))
def ck_ls (pc : Nat) (d : Int) (ps : Array (Int × Int)) (s : Nat × List (Int32 × Nat)) : Bool := decide ((pc : Int) + d = (s.1 : Int)) && (decide (ps.toList.map (fun q => (q.1, (pc : Int) + q.2)) = s.2.map (fun q => (q.1.toInt, (q.2 : Int)))) && (ps.toList.zip (ps.toList.drop 1)).all (fun (a, next) => a.1 < next.1))
def ck_i (y pc nx a b : Nat) (v : Int32) (i : Instr) : Bool := match i with
  | .iconst n => ck_len pc nx 1 && decide (Int32.ofInt n = v)
  | .bipush n => ck_len pc nx 2 && decide ((Int8.ofInt n).toInt32 = v)
  | .sipush n => ck_len pc nx 3 && decide ((Int16.ofInt n).toInt32 = v)
  | .ldc k => ck_len pc nx 2 && ck_ki (mown y) k v
  | .ldc_w k => ck_len pc nx 3 && ck_ki (mown y) k v
  | .lconst n => ck_len pc nx 1 && decide (Int64.ofNat (n : Nat) = lkc a)
  | .ldc2_w k => ck_len pc nx 3 && ck_kl (mown y) k a
  | .iload k => ck_len pc nx 2 && Nat.beq k a
  | .iload_n k => ck_len pc nx 1 && Nat.beq k a
  | .lload k => ck_len pc nx 2 && Nat.beq k a
  | .lload_n k => ck_len pc nx 1 && Nat.beq k a
  | .aload k => ck_len pc nx 2 && Nat.beq k a
  | .aload_n k => ck_len pc nx 1 && Nat.beq k a
  | .istore k => ck_len pc nx 2 && Nat.beq k a
  | .istore_n k => ck_len pc nx 1 && Nat.beq k a
  | .lstore k => ck_len pc nx 2 && Nat.beq k a
  | .lstore_n k => ck_len pc nx 1 && Nat.beq k a
  | .astore k => ck_len pc nx 2 && Nat.beq k a
  | .astore_n k => ck_len pc nx 1 && Nat.beq k a
  | .iinc k n => ck_len pc nx 3 && (Nat.beq k a && decide (Int32.ofInt n = v))
  | .ifCond _ off => ck_len pc nx 3 && decide ((pc : Int) + off = (a : Int))
  | .if_icmp _ off => ck_len pc nx 3 && decide ((pc : Int) + off = (a : Int))
  | .goto off => ck_len pc nx 3 && decide ((pc : Int) + off = (a : Int))
  | .tableswitch d lo hi offs => ck_ts pc d lo hi offs (sww a)
  | .lookupswitch d ps => ck_ls pc d ps (sww a)
  | .getfield k => ck_len pc nx 3 && (ck_fl (mown y) k a b && (Nat.blt a 13 && Nat.blt b (nf a)))
  | .putfield k => ck_len pc nx 3 && (ck_fl (mown y) k a b && (Nat.blt a 13 && (Nat.blt b (nf a) && (!(fin a b) || (mini y && Nat.beq (mown y) a)))))
  | .new k => ck_len pc nx 3 && (ck_cl (mown y) k a && Nat.blt a 13)
  | .newarray t => ck_len pc nx 2 && (match t with | .int => true | .long => true | .boolean => true | _ => false)
  | .invokevirtual k => ck_len pc nx 3 && (ck_ml (mown y) k a && (Nat.blt a 333 && (!(mst a) && (!(mini a) && (Nat.beq b (mar a) && Nat.blt (mown a) 13)))))
  | .invokestatic k => ck_len pc nx 3 && (match Nat.beq a 1001 with | true => Nat.beq (mown y) 7 && Nat.beq k 25 | false => (match Nat.beq a 1002 with | true => ck_nl (mown y) k | false => (match Nat.beq a 1003 with | true => ck_nl3 (mown y) k | false => (match Nat.beq a 1004 with | true => ck_nl4 (mown y) k | false => ck_ml (mown y) k a && (Nat.blt a 333 && (mst a && Nat.beq b (mar a)))))))
  | .invokespecial k => ck_len pc nx 3 && (match Nat.beq a 1000 with | true => ck_ol (mown y) k | false => ck_ml (mown y) k a && (Nat.blt a 333 && (!(mst a) && (mini a && (Nat.beq b (mar a) && Nat.blt (mown a) 13)))))
  | _ => ck_len pc nx 1
def ck_e (y pc : Nat) (e : pgE) : Bool := decide (decode (mby y) pc = .ok (e.1, e.2.1 - pc)) && ck_i y pc e.2.1 e.2.2.1 e.2.2.2.1 e.2.2.2.2 e.1
def ck_m (y : Nat) : Bool := (List.range (mlen y + 1)).all (fun pc => match pgT y pc with | none => true | some e => ck_e y pc e)
def lw_at (i : Nat) (c : Jvm.Cond) : Prop := lw_tbl[i]? = some c
