/-- once, twice: over the first b rows -/
def stF (m : Nat → Int32) : Nat → Int32 × Int32
  | 0 => (0, 0)
  | b + 1 => ((stF m b).1 ||| m b, (stF m b).2 ||| ((stF m b).1 &&& m b))
section
variable {sc : Sc} {d : Nat} {A : Nat → Nat → Int32} {L : Nat → Nat → Int64} {I : Nat → Nat → Int32} {J : Nat → Nat → Int64} {R : St Prop} {Q : Option Value → Wd → Prop} {n : Nat} {K : Kt}
theorem lx_seats (hK : am_cl sc (Ct sc d) 8 Q K) (e : I 45 5 = nI n) (hn : n ≤ 4) (h : Q (some (.int (stF (A 46) n).2)) (wd A L I J)) : ∀ (k b : Nat) (x y z : Int32), b + k = n → z = nI b → x = (stF (A 46) b).1 → y = (stF (A 46) b).2 → K 6 [some (.ref 45), some (.int x), some (.int y), some (.int z)] [] (wd A L I J) 0 0 := by
  have g1 := tT e (by omega)
  intro k
  induction k with
  | zero =>
    intro b x y z hb hz hx hy
    have g2 := tT hz (by omega)
    refine am_go hK sp8 100 ?_
    conv => whnf
    refine ⟨fun _ => ?_, fun c => ?_⟩
    · rw [hy, show b = n by omega]
      exact h
    · exfalso; ((try clear h0); (try clear h1); (try clear h2); (try clear h3); (try simp only [wI, wA, wL, wJ, wd, u2, reduceIte, Nat.reduceEqDiff, Nat.reduceAdd] at *); (try simp only [iR, vq, Int32.lt_iff_toInt_lt, Int32.le_iff_toInt_le, ← Int32.toInt_inj, Int32.toInt_toInt64, lkT0, lkT1, lkT2, lkT3, lkT4, lkT5, lkT6, lkT7, lkT8, lkT9, lkT10, lkT11, lkT12, lkT13, lkT14, lkT15, lkT16, lkT17, lkT18, lkT19, lkT20, nTm100, nTm10, nTm9, nTm8, nTm7, nTm6, nTm5, nTm4, nTm3, nTm2, nTm1, nT0, nT1, nT2, nT3, nT4, nT5, nT6, nT7, nT8, nT9, nT10, nT11, nT12, nT13, nT14, nT15, nT16, nT17, nT18, nT19, nT20, nT24, nT25, nT26, nT28, nT30, nT31, nT32, nT33, nT40, nT43, nT44, nT60, nT63, nT64, nT70, nT84, nT97, nT99, nT100, nT110, nT111, nT118, nT120, nT144, nT153, nT192, nT240, nT256, nT969, nT999, nT1000, nT1024, nT14400, nT65535, nT1000000, nT1048575, nT252645135, nT858993459, nT1431655765] at *); omega)
  | succ k ih =>
    intro b x y z hb hz hx hy
    have g2 := tT hz (by omega)
    refine am_go hK sp8 100 ?_
    conv => whnf
    refine ⟨fun c => ?_, fun _ => ?_⟩
    · exfalso; ((try clear h0); (try clear h1); (try clear h2); (try clear h3); (try simp only [wI, wA, wL, wJ, wd, u2, reduceIte, Nat.reduceEqDiff, Nat.reduceAdd] at *); (try simp only [iR, vq, Int32.lt_iff_toInt_lt, Int32.le_iff_toInt_le, ← Int32.toInt_inj, Int32.toInt_toInt64, lkT0, lkT1, lkT2, lkT3, lkT4, lkT5, lkT6, lkT7, lkT8, lkT9, lkT10, lkT11, lkT12, lkT13, lkT14, lkT15, lkT16, lkT17, lkT18, lkT19, lkT20, nTm100, nTm10, nTm9, nTm8, nTm7, nTm6, nTm5, nTm4, nTm3, nTm2, nTm1, nT0, nT1, nT2, nT3, nT4, nT5, nT6, nT7, nT8, nT9, nT10, nT11, nT12, nT13, nT14, nT15, nT16, nT17, nT18, nT19, nT20, nT24, nT25, nT26, nT28, nT30, nT31, nT32, nT33, nT40, nT43, nT44, nT60, nT63, nT64, nT70, nT84, nT97, nT99, nT100, nT110, nT111, nT118, nT120, nT144, nT153, nT192, nT240, nT256, nT969, nT999, nT1000, nT1024, nT14400, nT65535, nT1000000, nT1048575, nT252645135, nT858993459, nT1431655765] at *); omega)
    · conv => whnf
      (refine And.intro (a := vq _ _) (by simp only [Nat.reduceAdd, ln3, ln4, ln5, ln6, ln7, ln8, ln9, ln10, ln11, ln13, ln14, ln16, ln17, ln19, ln20, ln21, ln23, ln24, ln25, ln26, ln27, ln28, ln30, ln31, ln32, ln33, ln34, ln35, ln36, ln37, ln39, ln40, ln41, ln42, ln43, ln44, ln46, ln47, ln48, ln49, ln50, ln52, ln53, ln54, ln55, ln57, ln58, ln59, ln60, ln61, ln63, ln65, ln66, ln67, ln68, ln69, ln70, ln71, ln72, ln73, ln74, ln75, ln76, ln77, ln78, ln79, ln80, ln81, ln82, ln83, ln84, ln85, ln86, ln87, ln88, ln89, ln90, ln91, ln92, ln93, ln94, ln95, ln96, ln97, ln98, ln99, ln100, ln101, ln102, ln103, ln104, ln105, ln106, ln107, ln108, ln109, ln110, ln111, ln112, ln113, ln114, ln115, ln116, ln117, ln118, ln119, ln120]; first | exact vq_nI (by omega) (by omega) | exact vq_e (by assumption) (by omega) (by omega) | (unfold vq; ((try clear h0); (try clear h1); (try clear h2); (try clear h3); (try simp only [wI, wA, wL, wJ, wd, u2, reduceIte, Nat.reduceEqDiff, Nat.reduceAdd] at *); (try simp only [iR, vq, Int32.lt_iff_toInt_lt, Int32.le_iff_toInt_le, ← Int32.toInt_inj, Int32.toInt_toInt64, lkT0, lkT1, lkT2, lkT3, lkT4, lkT5, lkT6, lkT7, lkT8, lkT9, lkT10, lkT11, lkT12, lkT13, lkT14, lkT15, lkT16, lkT17, lkT18, lkT19, lkT20, nTm100, nTm10, nTm9, nTm8, nTm7, nTm6, nTm5, nTm4, nTm3, nTm2, nTm1, nT0, nT1, nT2, nT3, nT4, nT5, nT6, nT7, nT8, nT9, nT10, nT11, nT12, nT13, nT14, nT15, nT16, nT17, nT18, nT19, nT20, nT24, nT25, nT26, nT28, nT30, nT31, nT32, nT33, nT40, nT43, nT44, nT60, nT63, nT64, nT70, nT84, nT97, nT99, nT100, nT110, nT111, nT118, nT120, nT144, nT153, nT192, nT240, nT256, nT969, nT999, nT1000, nT1024, nT14400, nT65535, nT1000000, nT1048575, nT252645135, nT858993459, nT1431655765] at *); omega))) ?_)
      conv => whnf
      (refine And.intro (a := vq _ _) (by simp only [Nat.reduceAdd, ln3, ln4, ln5, ln6, ln7, ln8, ln9, ln10, ln11, ln13, ln14, ln16, ln17, ln19, ln20, ln21, ln23, ln24, ln25, ln26, ln27, ln28, ln30, ln31, ln32, ln33, ln34, ln35, ln36, ln37, ln39, ln40, ln41, ln42, ln43, ln44, ln46, ln47, ln48, ln49, ln50, ln52, ln53, ln54, ln55, ln57, ln58, ln59, ln60, ln61, ln63, ln65, ln66, ln67, ln68, ln69, ln70, ln71, ln72, ln73, ln74, ln75, ln76, ln77, ln78, ln79, ln80, ln81, ln82, ln83, ln84, ln85, ln86, ln87, ln88, ln89, ln90, ln91, ln92, ln93, ln94, ln95, ln96, ln97, ln98, ln99, ln100, ln101, ln102, ln103, ln104, ln105, ln106, ln107, ln108, ln109, ln110, ln111, ln112, ln113, ln114, ln115, ln116, ln117, ln118, ln119, ln120]; first | exact vq_nI (by omega) (by omega) | exact vq_e (by assumption) (by omega) (by omega) | (unfold vq; ((try clear h0); (try clear h1); (try clear h2); (try clear h3); (try simp only [wI, wA, wL, wJ, wd, u2, reduceIte, Nat.reduceEqDiff, Nat.reduceAdd] at *); (try simp only [iR, vq, Int32.lt_iff_toInt_lt, Int32.le_iff_toInt_le, ← Int32.toInt_inj, Int32.toInt_toInt64, lkT0, lkT1, lkT2, lkT3, lkT4, lkT5, lkT6, lkT7, lkT8, lkT9, lkT10, lkT11, lkT12, lkT13, lkT14, lkT15, lkT16, lkT17, lkT18, lkT19, lkT20, nTm100, nTm10, nTm9, nTm8, nTm7, nTm6, nTm5, nTm4, nTm3, nTm2, nTm1, nT0, nT1, nT2, nT3, nT4, nT5, nT6, nT7, nT8, nT9, nT10, nT11, nT12, nT13, nT14, nT15, nT16, nT17, nT18, nT19, nT20, nT24, nT25, nT26, nT28, nT30, nT31, nT32, nT33, nT40, nT43, nT44, nT60, nT63, nT64, nT70, nT84, nT97, nT99, nT100, nT110, nT111, nT118, nT120, nT144, nT153, nT192, nT240, nT256, nT969, nT999, nT1000, nT1024, nT14400, nT65535, nT1000000, nT1048575, nT252645135, nT858993459, nT1431655765] at *); omega))) ?_)
      conv => whnf
      refine ih (b + 1) _ _ _ (by omega) (t1 hz) ?_ ?_
      · show x ||| A 46 z.toNatClampNeg = _
        rw [tC hz (by omega), hx]; rfl
      · show y ||| (x &&& A 46 z.toNatClampNeg) = _
        rw [tC hz (by omega), hx, hy]; rfl
theorem sx_seats (e : I 45 5 = nI n) (hn : n ≤ 4) (h : Q (some (.int (stF (A 46) n).2)) (wd A L I J)) : Ct sc (d + 1) 8 [.ref 45] (wd A L I J) Q := by
  intro K hK
  refine am_go hK sp8 100 ?_
  conv => whnf
  exact lx_seats hK e hn h n 0 _ _ _ (by omega) nI_0.symm rfl rfl
end
section
variable {sc : Sc} {d : Nat} {A : Nat → Nat → Int32} {L : Nat → Nat → Int64} {I : Nat → Nat → Int32} {J : Nat → Nat → Int64} {R : St Prop} {Q : Option Value → Wd → Prop} {n : Nat} {K : Kt}
theorem lm_seats (hK : am_cl sc (Ct sc d) 295 Q K) (e : I 64 60 = nI n) (hn : n ≤ 4) (h : Q (some (.int (stF (A 107) n).2)) (wd A L I J)) : ∀ (k b : Nat) (x y z : Int32), b + k = n → z = nI b → x = (stF (A 107) b).1 → y = (stF (A 107) b).2 → K 6 [some (.ref 64), some (.int x), some (.int y), some (.int z)] [] (wd A L I J) 0 0 := by
  have g1 := tT e (by omega)
  intro k
  induction k with
  | zero =>
    intro b x y z hb hz hx hy
    have g2 := tT hz (by omega)
    refine am_go hK sp295 100 ?_
    conv => whnf
    refine ⟨fun _ => ?_, fun c => ?_⟩
    · rw [hy, show b = n by omega]
      exact h
    · exfalso; ((try clear h0); (try clear h1); (try clear h2); (try clear h3); (try simp only [wI, wA, wL, wJ, wd, u2, reduceIte, Nat.reduceEqDiff, Nat.reduceAdd] at *); (try simp only [iR, vq, Int32.lt_iff_toInt_lt, Int32.le_iff_toInt_le, ← Int32.toInt_inj, Int32.toInt_toInt64, lkT0, lkT1, lkT2, lkT3, lkT4, lkT5, lkT6, lkT7, lkT8, lkT9, lkT10, lkT11, lkT12, lkT13, lkT14, lkT15, lkT16, lkT17, lkT18, lkT19, lkT20, nTm100, nTm10, nTm9, nTm8, nTm7, nTm6, nTm5, nTm4, nTm3, nTm2, nTm1, nT0, nT1, nT2, nT3, nT4, nT5, nT6, nT7, nT8, nT9, nT10, nT11, nT12, nT13, nT14, nT15, nT16, nT17, nT18, nT19, nT20, nT24, nT25, nT26, nT28, nT30, nT31, nT32, nT33, nT40, nT43, nT44, nT60, nT63, nT64, nT70, nT84, nT97, nT99, nT100, nT110, nT111, nT118, nT120, nT144, nT153, nT192, nT240, nT256, nT969, nT999, nT1000, nT1024, nT14400, nT65535, nT1000000, nT1048575, nT252645135, nT858993459, nT1431655765] at *); omega)
  | succ k ih =>
    intro b x y z hb hz hx hy
    have g2 := tT hz (by omega)
    refine am_go hK sp295 100 ?_
    conv => whnf
    refine ⟨fun c => ?_, fun _ => ?_⟩
    · exfalso; ((try clear h0); (try clear h1); (try clear h2); (try clear h3); (try simp only [wI, wA, wL, wJ, wd, u2, reduceIte, Nat.reduceEqDiff, Nat.reduceAdd] at *); (try simp only [iR, vq, Int32.lt_iff_toInt_lt, Int32.le_iff_toInt_le, ← Int32.toInt_inj, Int32.toInt_toInt64, lkT0, lkT1, lkT2, lkT3, lkT4, lkT5, lkT6, lkT7, lkT8, lkT9, lkT10, lkT11, lkT12, lkT13, lkT14, lkT15, lkT16, lkT17, lkT18, lkT19, lkT20, nTm100, nTm10, nTm9, nTm8, nTm7, nTm6, nTm5, nTm4, nTm3, nTm2, nTm1, nT0, nT1, nT2, nT3, nT4, nT5, nT6, nT7, nT8, nT9, nT10, nT11, nT12, nT13, nT14, nT15, nT16, nT17, nT18, nT19, nT20, nT24, nT25, nT26, nT28, nT30, nT31, nT32, nT33, nT40, nT43, nT44, nT60, nT63, nT64, nT70, nT84, nT97, nT99, nT100, nT110, nT111, nT118, nT120, nT144, nT153, nT192, nT240, nT256, nT969, nT999, nT1000, nT1024, nT14400, nT65535, nT1000000, nT1048575, nT252645135, nT858993459, nT1431655765] at *); omega)
    · conv => whnf
      (refine And.intro (a := vq _ _) (by simp only [Nat.reduceAdd, ln3, ln4, ln5, ln6, ln7, ln8, ln9, ln10, ln11, ln13, ln14, ln16, ln17, ln19, ln20, ln21, ln23, ln24, ln25, ln26, ln27, ln28, ln30, ln31, ln32, ln33, ln34, ln35, ln36, ln37, ln39, ln40, ln41, ln42, ln43, ln44, ln46, ln47, ln48, ln49, ln50, ln52, ln53, ln54, ln55, ln57, ln58, ln59, ln60, ln61, ln63, ln65, ln66, ln67, ln68, ln69, ln70, ln71, ln72, ln73, ln74, ln75, ln76, ln77, ln78, ln79, ln80, ln81, ln82, ln83, ln84, ln85, ln86, ln87, ln88, ln89, ln90, ln91, ln92, ln93, ln94, ln95, ln96, ln97, ln98, ln99, ln100, ln101, ln102, ln103, ln104, ln105, ln106, ln107, ln108, ln109, ln110, ln111, ln112, ln113, ln114, ln115, ln116, ln117, ln118, ln119, ln120]; first | exact vq_nI (by omega) (by omega) | exact vq_e (by assumption) (by omega) (by omega) | (unfold vq; ((try clear h0); (try clear h1); (try clear h2); (try clear h3); (try simp only [wI, wA, wL, wJ, wd, u2, reduceIte, Nat.reduceEqDiff, Nat.reduceAdd] at *); (try simp only [iR, vq, Int32.lt_iff_toInt_lt, Int32.le_iff_toInt_le, ← Int32.toInt_inj, Int32.toInt_toInt64, lkT0, lkT1, lkT2, lkT3, lkT4, lkT5, lkT6, lkT7, lkT8, lkT9, lkT10, lkT11, lkT12, lkT13, lkT14, lkT15, lkT16, lkT17, lkT18, lkT19, lkT20, nTm100, nTm10, nTm9, nTm8, nTm7, nTm6, nTm5, nTm4, nTm3, nTm2, nTm1, nT0, nT1, nT2, nT3, nT4, nT5, nT6, nT7, nT8, nT9, nT10, nT11, nT12, nT13, nT14, nT15, nT16, nT17, nT18, nT19, nT20, nT24, nT25, nT26, nT28, nT30, nT31, nT32, nT33, nT40, nT43, nT44, nT60, nT63, nT64, nT70, nT84, nT97, nT99, nT100, nT110, nT111, nT118, nT120, nT144, nT153, nT192, nT240, nT256, nT969, nT999, nT1000, nT1024, nT14400, nT65535, nT1000000, nT1048575, nT252645135, nT858993459, nT1431655765] at *); omega))) ?_)
      conv => whnf
      (refine And.intro (a := vq _ _) (by simp only [Nat.reduceAdd, ln3, ln4, ln5, ln6, ln7, ln8, ln9, ln10, ln11, ln13, ln14, ln16, ln17, ln19, ln20, ln21, ln23, ln24, ln25, ln26, ln27, ln28, ln30, ln31, ln32, ln33, ln34, ln35, ln36, ln37, ln39, ln40, ln41, ln42, ln43, ln44, ln46, ln47, ln48, ln49, ln50, ln52, ln53, ln54, ln55, ln57, ln58, ln59, ln60, ln61, ln63, ln65, ln66, ln67, ln68, ln69, ln70, ln71, ln72, ln73, ln74, ln75, ln76, ln77, ln78, ln79, ln80, ln81, ln82, ln83, ln84, ln85, ln86, ln87, ln88, ln89, ln90, ln91, ln92, ln93, ln94, ln95, ln96, ln97, ln98, ln99, ln100, ln101, ln102, ln103, ln104, ln105, ln106, ln107, ln108, ln109, ln110, ln111, ln112, ln113, ln114, ln115, ln116, ln117, ln118, ln119, ln120]; first | exact vq_nI (by omega) (by omega) | exact vq_e (by assumption) (by omega) (by omega) | (unfold vq; ((try clear h0); (try clear h1); (try clear h2); (try clear h3); (try simp only [wI, wA, wL, wJ, wd, u2, reduceIte, Nat.reduceEqDiff, Nat.reduceAdd] at *); (try simp only [iR, vq, Int32.lt_iff_toInt_lt, Int32.le_iff_toInt_le, ← Int32.toInt_inj, Int32.toInt_toInt64, lkT0, lkT1, lkT2, lkT3, lkT4, lkT5, lkT6, lkT7, lkT8, lkT9, lkT10, lkT11, lkT12, lkT13, lkT14, lkT15, lkT16, lkT17, lkT18, lkT19, lkT20, nTm100, nTm10, nTm9, nTm8, nTm7, nTm6, nTm5, nTm4, nTm3, nTm2, nTm1, nT0, nT1, nT2, nT3, nT4, nT5, nT6, nT7, nT8, nT9, nT10, nT11, nT12, nT13, nT14, nT15, nT16, nT17, nT18, nT19, nT20, nT24, nT25, nT26, nT28, nT30, nT31, nT32, nT33, nT40, nT43, nT44, nT60, nT63, nT64, nT70, nT84, nT97, nT99, nT100, nT110, nT111, nT118, nT120, nT144, nT153, nT192, nT240, nT256, nT969, nT999, nT1000, nT1024, nT14400, nT65535, nT1000000, nT1048575, nT252645135, nT858993459, nT1431655765] at *); omega))) ?_)
      conv => whnf
      refine ih (b + 1) _ _ _ (by omega) (t1 hz) ?_ ?_
      · show x ||| A 107 z.toNatClampNeg = _
        rw [tC hz (by omega), hx]; rfl
      · show y ||| (x &&& A 107 z.toNatClampNeg) = _
        rw [tC hz (by omega), hx, hy]; rfl
theorem p_seats (e : I 45 5 = nI n) (e' : I 64 60 = nI n) (hn : n ≤ 4) (ea : A 46 = A 107) (h0 : R A L I J) : PairI sc (d + 9) 190 295 [] A L I J R := by
  refine Ct_run 100 (fun _ => ?_)
  conv => whnf
  refine And.intro (sx_seats e hn ?_) trivial
  conv => whnf
  refine ⟨_, rfl, ?_⟩
  intro K hK
  refine am_go hK sp295 100 ?_
  conv => whnf
  refine lm_seats hK e' hn ?_ n 0 _ _ _ (by omega) nI_0.symm rfl rfl
  exact ⟨vi (by rw [ea]), _, _, _, _, rfl, h0⟩
end
