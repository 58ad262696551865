/-- n cells from b on are 0 -/
def zf (f : Nat → Int32) (b n : Nat) : Nat → Int32 := fun q => if b ≤ q ∧ q < b + n then 0 else f q
theorem zf_0 (f : Nat → Int32) (b : Nat) : zf f b 0 = f := by
  funext q
  unfold zf
  rw [if_neg (by omega)]
theorem u1_id {α : Type} (f : Nat → α) (k : Nat) : u1 f k (f k) = f := by
  funext a
  unfold u1
  split
  · rename_i h; rw [h]
  · rfl
theorem zf_s (A : Nat → Nat → Int32) (g : Nat → Int32) (c b i : Nat) : u2 (u1 A c (zf g b i)) c (b + i) 0 = u1 A c (zf g b (i + 1)) := by
  funext a q
  unfold u2 u1
  by_cases ha : a = c
  · subst ha
    rw [if_pos rfl, if_pos rfl, if_pos rfl]
    unfold zf
    by_cases hq : q = b + i
    · rw [if_pos hq, if_pos (by omega)]
    · rw [if_neg hq]
      by_cases h2 : b ≤ q ∧ q < b + i
      · rw [if_pos h2, if_pos (by omega)]
      · rw [if_neg h2, if_neg (by omega)]
  · rw [if_neg ha, if_neg ha, if_neg ha]
section
variable {sc : Sc} {d : Nat} {A : Nat → Nat → Int32} {L : Nat → Nat → Int64} {I : Nat → Nat → Int32} {J : Nat → Nat → Int64} {R : St Prop} {Q : Option Value → Wd → Prop} {K : Kt} {k n l : Nat}
theorem lx_lay (hK : am_cl sc (Ct sc d) 111 Q K) (hk : k < 4) (hn : n ≤ 60) (g : Nat → Int32) (h : Q none (wd (u1 A 19 (zf g (60 * k) n)) L I J)) : ∀ (t i : Nat) (z : Int32) (B : Nat → Nat → Int32), i + t = n → z = nI i → B = u1 A 19 (zf g (60 * k) i) → K 17 [some (.ref 18), some (.int (nI k)), none, some (.int (nI n)), some (.int z)] [] (wd B L I J) 0 0 := by
  have g1 : (nI n).toInt = (n : Int) := nI_toInt (by omega)
  intro t
  induction t with
  | zero =>
    intro i z B hi hz hB
    have g2 := tT hz (by omega)
    refine am_go hK sp111 100 ?_
    conv => whnf
    refine ⟨fun _ => ?_, fun c => ?_⟩
    · rw [hB, show i = n by omega]
      exact h
    · exfalso; ((try clear h0); (try clear h1); (try clear h2); (try clear h3); (try simp only [wI, wA, wL, wJ, wd, u2, reduceIte, Nat.reduceEqDiff, Nat.reduceAdd] at *); (try simp only [iR, vq, Int32.lt_iff_toInt_lt, Int32.le_iff_toInt_le, ← Int32.toInt_inj, Int32.toInt_toInt64, lkT0, lkT1, lkT2, lkT3, lkT4, lkT5, lkT6, lkT7, lkT8, lkT9, lkT10, lkT11, lkT12, lkT13, lkT14, lkT15, lkT16, lkT17, lkT18, lkT19, lkT20, nTm100, nTm10, nTm9, nTm8, nTm7, nTm6, nTm5, nTm4, nTm3, nTm2, nTm1, nT0, nT1, nT2, nT3, nT4, nT5, nT6, nT7, nT8, nT9, nT10, nT11, nT12, nT13, nT14, nT15, nT16, nT17, nT18, nT19, nT20, nT24, nT25, nT26, nT28, nT30, nT31, nT32, nT33, nT40, nT43, nT44, nT60, nT63, nT64, nT70, nT84, nT97, nT99, nT100, nT110, nT111, nT118, nT120, nT144, nT153, nT192, nT240, nT256, nT969, nT999, nT1000, nT1024, nT14400, nT65535, nT1000000, nT1048575, nT252645135, nT858993459, nT1431655765] at *); omega)
  | succ t ih =>
    intro i z B hi hz hB
    have g2 := tT hz (by omega)
    have ix := ix60 k i
    rw [← hz] at ix
    refine am_go hK sp111 100 ?_
    conv => whnf
    refine ⟨fun c => ?_, fun _ => ?_⟩
    · exfalso; ((try clear h0); (try clear h1); (try clear h2); (try clear h3); (try simp only [wI, wA, wL, wJ, wd, u2, reduceIte, Nat.reduceEqDiff, Nat.reduceAdd] at *); (try simp only [iR, vq, Int32.lt_iff_toInt_lt, Int32.le_iff_toInt_le, ← Int32.toInt_inj, Int32.toInt_toInt64, lkT0, lkT1, lkT2, lkT3, lkT4, lkT5, lkT6, lkT7, lkT8, lkT9, lkT10, lkT11, lkT12, lkT13, lkT14, lkT15, lkT16, lkT17, lkT18, lkT19, lkT20, nTm100, nTm10, nTm9, nTm8, nTm7, nTm6, nTm5, nTm4, nTm3, nTm2, nTm1, nT0, nT1, nT2, nT3, nT4, nT5, nT6, nT7, nT8, nT9, nT10, nT11, nT12, nT13, nT14, nT15, nT16, nT17, nT18, nT19, nT20, nT24, nT25, nT26, nT28, nT30, nT31, nT32, nT33, nT40, nT43, nT44, nT60, nT63, nT64, nT70, nT84, nT97, nT99, nT100, nT110, nT111, nT118, nT120, nT144, nT153, nT192, nT240, nT256, nT969, nT999, nT1000, nT1024, nT14400, nT65535, nT1000000, nT1048575, nT252645135, nT858993459, nT1431655765] at *); omega)
    · conv => whnf
      (refine And.intro (a := vq _ _) (by simp only [Nat.reduceAdd, ln3, ln4, ln5, ln6, ln7, ln8, ln9, ln10, ln11, ln13, ln14, ln16, ln17, ln19, ln20, ln21, ln23, ln24, ln25, ln26, ln27, ln28, ln30, ln31, ln32, ln33, ln34, ln35, ln36, ln37, ln39, ln40, ln41, ln42, ln43, ln44, ln46, ln47, ln48, ln49, ln50, ln52, ln53, ln54, ln55, ln57, ln58, ln59, ln60, ln61, ln63, ln65, ln66, ln67, ln68, ln69, ln70, ln71, ln72, ln73, ln74, ln75, ln76, ln77, ln78, ln79, ln80, ln81, ln82, ln83, ln84, ln85, ln86, ln87, ln88, ln89, ln90, ln91, ln92, ln93, ln94, ln95, ln96, ln97, ln98, ln99, ln100, ln101, ln102, ln103, ln104, ln105, ln106, ln107, ln108, ln109, ln110, ln111, ln112, ln113, ln114, ln115, ln116, ln117, ln118, ln119, ln120]; first | exact vq_nI (by omega) (by omega) | exact vq_e (by assumption) (by omega) (by omega) | (simp only [wI, wA, wL, wJ, wd, u2, reduceIte, Nat.reduceEqDiff, Nat.reduceAdd, iR, vq, Int32.lt_iff_toInt_lt, Int32.le_iff_toInt_le, ← Int32.toInt_inj, Int32.toInt_toInt64, lkT0, lkT1, lkT2, lkT3, lkT4, lkT5, lkT6, lkT7, lkT8, lkT9, lkT10, lkT11, lkT12, lkT13, lkT14, lkT15, lkT16, lkT17, lkT18, lkT19, lkT20, nTm100, nTm10, nTm9, nTm8, nTm7, nTm6, nTm5, nTm4, nTm3, nTm2, nTm1, nT0, nT1, nT2, nT3, nT4, nT5, nT6, nT7, nT8, nT9, nT10, nT11, nT12, nT13, nT14, nT15, nT16, nT17, nT18, nT19, nT20, nT24, nT25, nT26, nT28, nT30, nT31, nT32, nT33, nT40, nT43, nT44, nT60, nT63, nT64, nT70, nT84, nT97, nT99, nT100, nT110, nT111, nT118, nT120, nT144, nT153, nT192, nT240, nT256, nT969, nT999, nT1000, nT1024, nT14400, nT65535, nT1000000, nT1048575, nT252645135, nT858993459, nT1431655765, nTm11, nTm12, nTm13, nTm14]; omega)) ?_)
      conv => whnf
      refine ih (i + 1) _ _ (by omega) (t1 hz) ?_
      show u2 B 19 (nI k * 60 + z).toNatClampNeg 0 = _
      rw [ix, nI_clamp (by omega), hB, zf_s]
theorem lm_sheet (hK : am_cl sc (Ct sc (d + 1)) 317 Q K) (hk : k < 4) (hn : n ≤ 60) (g : Nat → Int32) (h : Q (some (.int 1)) (wd (u1 A 119 (zf g (60 * k) n)) L (u2 I 64 0 0) J)) : ∀ (t i : Nat) (z : Int32) (B : Nat → Nat → Int32), i + t = n → z = nI i → B = u1 A 119 (zf g (60 * k) i) → K 65 [some (.ref 64), some (.int (nI k)), none, some (.int (nI n)), some (.int z)] [] (wd B L I J) 0 0 := by
  have g1 : (nI n).toInt = (n : Int) := nI_toInt (by omega)
  intro t
  induction t with
  | zero =>
    intro i z B hi hz hB
    have g2 := tT hz (by omega)
    refine am_go hK sp317 100 ?_
    conv => whnf
    refine ⟨fun _ => ?_, fun c => ?_⟩
    · conv => whnf
      refine And.intro (Ct_run 100 (fun _ => ?_)) trivial
      rw [hB, show i = n by omega]
      exact h
    · exfalso; ((try clear h0); (try clear h1); (try clear h2); (try clear h3); (try simp only [wI, wA, wL, wJ, wd, u2, reduceIte, Nat.reduceEqDiff, Nat.reduceAdd] at *); (try simp only [iR, vq, Int32.lt_iff_toInt_lt, Int32.le_iff_toInt_le, ← Int32.toInt_inj, Int32.toInt_toInt64, lkT0, lkT1, lkT2, lkT3, lkT4, lkT5, lkT6, lkT7, lkT8, lkT9, lkT10, lkT11, lkT12, lkT13, lkT14, lkT15, lkT16, lkT17, lkT18, lkT19, lkT20, nTm100, nTm10, nTm9, nTm8, nTm7, nTm6, nTm5, nTm4, nTm3, nTm2, nTm1, nT0, nT1, nT2, nT3, nT4, nT5, nT6, nT7, nT8, nT9, nT10, nT11, nT12, nT13, nT14, nT15, nT16, nT17, nT18, nT19, nT20, nT24, nT25, nT26, nT28, nT30, nT31, nT32, nT33, nT40, nT43, nT44, nT60, nT63, nT64, nT70, nT84, nT97, nT99, nT100, nT110, nT111, nT118, nT120, nT144, nT153, nT192, nT240, nT256, nT969, nT999, nT1000, nT1024, nT14400, nT65535, nT1000000, nT1048575, nT252645135, nT858993459, nT1431655765] at *); omega)
  | succ t ih =>
    intro i z B hi hz hB
    have g2 := tT hz (by omega)
    have ix := ix60' k i
    rw [← hz] at ix
    refine am_go hK sp317 100 ?_
    conv => whnf
    refine ⟨fun c => ?_, fun _ => ?_⟩
    · exfalso; ((try clear h0); (try clear h1); (try clear h2); (try clear h3); (try simp only [wI, wA, wL, wJ, wd, u2, reduceIte, Nat.reduceEqDiff, Nat.reduceAdd] at *); (try simp only [iR, vq, Int32.lt_iff_toInt_lt, Int32.le_iff_toInt_le, ← Int32.toInt_inj, Int32.toInt_toInt64, lkT0, lkT1, lkT2, lkT3, lkT4, lkT5, lkT6, lkT7, lkT8, lkT9, lkT10, lkT11, lkT12, lkT13, lkT14, lkT15, lkT16, lkT17, lkT18, lkT19, lkT20, nTm100, nTm10, nTm9, nTm8, nTm7, nTm6, nTm5, nTm4, nTm3, nTm2, nTm1, nT0, nT1, nT2, nT3, nT4, nT5, nT6, nT7, nT8, nT9, nT10, nT11, nT12, nT13, nT14, nT15, nT16, nT17, nT18, nT19, nT20, nT24, nT25, nT26, nT28, nT30, nT31, nT32, nT33, nT40, nT43, nT44, nT60, nT63, nT64, nT70, nT84, nT97, nT99, nT100, nT110, nT111, nT118, nT120, nT144, nT153, nT192, nT240, nT256, nT969, nT999, nT1000, nT1024, nT14400, nT65535, nT1000000, nT1048575, nT252645135, nT858993459, nT1431655765] at *); omega)
    · conv => whnf
      (refine And.intro (a := vq _ _) (by simp only [Nat.reduceAdd, ln3, ln4, ln5, ln6, ln7, ln8, ln9, ln10, ln11, ln13, ln14, ln16, ln17, ln19, ln20, ln21, ln23, ln24, ln25, ln26, ln27, ln28, ln30, ln31, ln32, ln33, ln34, ln35, ln36, ln37, ln39, ln40, ln41, ln42, ln43, ln44, ln46, ln47, ln48, ln49, ln50, ln52, ln53, ln54, ln55, ln57, ln58, ln59, ln60, ln61, ln63, ln65, ln66, ln67, ln68, ln69, ln70, ln71, ln72, ln73, ln74, ln75, ln76, ln77, ln78, ln79, ln80, ln81, ln82, ln83, ln84, ln85, ln86, ln87, ln88, ln89, ln90, ln91, ln92, ln93, ln94, ln95, ln96, ln97, ln98, ln99, ln100, ln101, ln102, ln103, ln104, ln105, ln106, ln107, ln108, ln109, ln110, ln111, ln112, ln113, ln114, ln115, ln116, ln117, ln118, ln119, ln120]; first | exact vq_nI (by omega) (by omega) | exact vq_e (by assumption) (by omega) (by omega) | (simp only [wI, wA, wL, wJ, wd, u2, reduceIte, Nat.reduceEqDiff, Nat.reduceAdd, iR, vq, Int32.lt_iff_toInt_lt, Int32.le_iff_toInt_le, ← Int32.toInt_inj, Int32.toInt_toInt64, lkT0, lkT1, lkT2, lkT3, lkT4, lkT5, lkT6, lkT7, lkT8, lkT9, lkT10, lkT11, lkT12, lkT13, lkT14, lkT15, lkT16, lkT17, lkT18, lkT19, lkT20, nTm100, nTm10, nTm9, nTm8, nTm7, nTm6, nTm5, nTm4, nTm3, nTm2, nTm1, nT0, nT1, nT2, nT3, nT4, nT5, nT6, nT7, nT8, nT9, nT10, nT11, nT12, nT13, nT14, nT15, nT16, nT17, nT18, nT19, nT20, nT24, nT25, nT26, nT28, nT30, nT31, nT32, nT33, nT40, nT43, nT44, nT60, nT63, nT64, nT70, nT84, nT97, nT99, nT100, nT110, nT111, nT118, nT120, nT144, nT153, nT192, nT240, nT256, nT969, nT999, nT1000, nT1024, nT14400, nT65535, nT1000000, nT1048575, nT252645135, nT858993459, nT1431655765, nTm11, nTm12, nTm13, nTm14]; omega)) ?_)
      conv => whnf
      refine ih (i + 1) _ _ (by omega) (t1 hz) ?_
      show u2 B 119 (60 * nI k + z).toNatClampNeg 0 = _
      rw [ix, nI_clamp (by omega), hB, zf_s]
end
