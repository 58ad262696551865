def ushr (x k : Int32) : Int32 := (x.toUInt32 >>> (k.toUInt32 &&& Int32.toUInt32 31)).toInt32
/-- the JDK's bitCount -/
def bcE (i : Int32) : Int32 :=
  let a := i - (ushr i 1 &&& 1431655765)
  let b := (a &&& 858993459) + (ushr a 2 &&& 858993459)
  let c := (b + ushr b 4) &&& 252645135
  let e := c + ushr c 8
  let f := e + ushr e 16
  f &&& 63
/-- the reference's count -/
def cntF (v : Int32) : Nat → Int32
  | 0 => 0
  | k + 1 => cntF v k + ((v >>> (nI k &&& 31)) &&& 1)
set_option maxRecDepth 100000 in
theorem bc_cnt : ∀ x, x < 4096 → bcE (nI x) = cntF (nI x) 16 := by decide +kernel
set_option maxRecDepth 100000 in
theorem cnt_le : ∀ x, x < 4096 → (cntF (nI x) 16).toInt ≤ 12 ∧ 0 ≤ (cntF (nI x) 16).toInt := by decide +kernel
section
variable {sc : Sc} {d : Nat} {A : Nat → Nat → Int32} {L : Nat → Nat → Int64} {I : Nat → Nat → Int32} {J : Nat → Nat → Int64} {R : St Prop} {Q : Option Value → Wd → Prop} {n : Nat} {K : Kt} {w : Wd}
theorem sj_bitCount {x : Int32} (h : Q (some (.int (bcE x))) w) : Ct sc (d + 1) 6 [.int x] w Q := by
  refine Ct_run 60 (fun _ => ?_)
  exact h
theorem lm_count {v : Int32} (hK : am_cl sc (Ct sc d) 222 Q K) (h : Q (some (.int (cntF v 16))) w) : ∀ (k b : Nat) (x z : Int32), b + k = 16 → z = nI b → x = cntF v b → K 4 [some (.int v), some (.int x), some (.int z)] [] w 0 0 := by
  intro k
  induction k with
  | zero =>
    intro b x z hb hz hx
    have g2 := tT hz (by omega)
    refine am_go hK sp222 100 ?_
    conv => whnf
    refine ⟨fun _ => ?_, fun c => ?_⟩
    · rw [hx, show b = 16 by omega]
      exact h
    · exfalso; ((try clear h0); (try clear h1); (try clear h2); (try clear h3); (try simp only [wI, wA, wL, wJ, wd, u2, reduceIte, Nat.reduceEqDiff, Nat.reduceAdd] at *); (try simp only [iR, vq, Int32.lt_iff_toInt_lt, Int32.le_iff_toInt_le, ← Int32.toInt_inj, Int32.toInt_toInt64, lkT0, lkT1, lkT2, lkT3, lkT4, lkT5, lkT6, lkT7, lkT8, lkT9, lkT10, lkT11, lkT12, lkT13, lkT14, lkT15, lkT16, lkT17, lkT18, lkT19, lkT20, nTm100, nTm10, nTm9, nTm8, nTm7, nTm6, nTm5, nTm4, nTm3, nTm2, nTm1, nT0, nT1, nT2, nT3, nT4, nT5, nT6, nT7, nT8, nT9, nT10, nT11, nT12, nT13, nT14, nT15, nT16, nT17, nT18, nT19, nT20, nT24, nT25, nT26, nT28, nT30, nT31, nT32, nT33, nT40, nT43, nT44, nT60, nT63, nT64, nT70, nT84, nT97, nT99, nT100, nT110, nT111, nT118, nT120, nT144, nT153, nT192, nT240, nT256, nT969, nT999, nT1000, nT1024, nT14400, nT65535, nT1000000, nT1048575, nT252645135, nT858993459, nT1431655765] at *); omega)
  | succ k ih =>
    intro b x z hb hz hx
    have g2 := tT hz (by omega)
    refine am_go hK sp222 100 ?_
    conv => whnf
    refine ⟨fun c => ?_, fun _ => ?_⟩
    · exfalso; ((try clear h0); (try clear h1); (try clear h2); (try clear h3); (try simp only [wI, wA, wL, wJ, wd, u2, reduceIte, Nat.reduceEqDiff, Nat.reduceAdd] at *); (try simp only [iR, vq, Int32.lt_iff_toInt_lt, Int32.le_iff_toInt_le, ← Int32.toInt_inj, Int32.toInt_toInt64, lkT0, lkT1, lkT2, lkT3, lkT4, lkT5, lkT6, lkT7, lkT8, lkT9, lkT10, lkT11, lkT12, lkT13, lkT14, lkT15, lkT16, lkT17, lkT18, lkT19, lkT20, nTm100, nTm10, nTm9, nTm8, nTm7, nTm6, nTm5, nTm4, nTm3, nTm2, nTm1, nT0, nT1, nT2, nT3, nT4, nT5, nT6, nT7, nT8, nT9, nT10, nT11, nT12, nT13, nT14, nT15, nT16, nT17, nT18, nT19, nT20, nT24, nT25, nT26, nT28, nT30, nT31, nT32, nT33, nT40, nT43, nT44, nT60, nT63, nT64, nT70, nT84, nT97, nT99, nT100, nT110, nT111, nT118, nT120, nT144, nT153, nT192, nT240, nT256, nT969, nT999, nT1000, nT1024, nT14400, nT65535, nT1000000, nT1048575, nT252645135, nT858993459, nT1431655765] at *); omega)
    · conv => whnf
      exact ih (b + 1) _ _ (by omega) (t1 hz) (by rw [hx, hz]; rfl)
theorem sm_count {v : Int32} (h : Q (some (.int (cntF v 16))) w) : Ct sc (d + 1) 222 [.int v] w Q := by
  intro K hK
  refine am_go hK sp222 100 ?_
  conv => whnf
  exact lm_count hK h 16 0 _ _ rfl nI_0.symm rfl
end
