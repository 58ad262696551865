section
variable {sc : Sc} {d : Nat} {A : Nat → Nat → Int32} {L : Nat → Nat → Int64} {I : Nat → Nat → Int32} {J : Nat → Nat → Int64} {R : St Prop} {Q : Option Value → Wd → Prop} {K : Kt} {k o i j n : Nat}
theorem sx_move (hk : k < 4) (ho : o < 4) (hi : i + n ≤ 60) (hj : j + n ≤ 60) (h : Q none (wd (u1 A 19 (va_cpy (A 19) (A 19) (60 * k + i) (60 * o + j) n)) L I J)) : Ct sc (d + 1) 115 [.ref 18, .int (nI k), .int (nI i), .int (nI o), .int (nI j), .int (nI n)] (wd A L I J) Q := by
  refine Ct_run 100 (fun _ => ?_)
  conv => whnf
  rw [ix60, ix60, nI_clamp (by omega), nI_clamp (by omega), nI_clamp (by omega)]
  exact ⟨nI_pos (by omega), nI_pos (by omega), nI_pos (by omega), by show _ ≤ 240; omega, by show _ ≤ 240; omega, h⟩
/-- the first n of f from b on -/
def hf (f g : Nat → Int32) (b n : Nat) : Nat → Int32 := fun q => if q < n then f (b + q) else g q
theorem hf_s (A : Nat → Nat → Int32) (f g : Nat → Int32) (c b i : Nat) : u2 (u1 A c (hf f g b i)) c i (f (b + i)) = u1 A c (hf f g b (i + 1)) := by
  funext a q
  unfold u2 u1
  by_cases ha : a = c
  · subst ha
    rw [if_pos rfl, if_pos rfl, if_pos rfl]
    unfold hf
    by_cases hq : q = i
    · rw [if_pos hq, if_pos (by omega), hq]
    · rw [if_neg hq]
      by_cases h2 : q < i
      · rw [if_pos h2, if_pos (by omega)]
      · rw [if_neg h2, if_neg (by omega)]
  · rw [if_neg ha, if_neg ha, if_neg ha]
theorem hf_0 (f g : Nat → Int32) (b : Nat) : hf f g b 0 = g := by
  funext q
  unfold hf
  rw [if_neg (by omega)]
theorem cpy_s (A : Nat → Nat → Int32) (f g : Nat → Int32) (c sp dp i : Nat) : u2 (u1 A c (va_cpy f g sp dp i)) c (dp + i) (f (sp + i)) = u1 A c (va_cpy f g sp dp (i + 1)) := by
  funext a q
  unfold u2 u1
  by_cases ha : a = c
  · subst ha
    rw [if_pos rfl, if_pos rfl, if_pos rfl]
    unfold va_cpy
    by_cases hq : q = dp + i
    · rw [if_pos hq, if_pos (by omega), hq, show dp + i - dp = i by omega]
    · rw [if_neg hq]
      by_cases h2 : dp ≤ q ∧ q < dp + i
      · rw [if_pos h2, if_pos (by omega)]
      · rw [if_neg h2, if_neg (by omega)]
  · rw [if_neg ha, if_neg ha, if_neg ha]
theorem cpy_0 (f g : Nat → Int32) (sp dp : Nat) : va_cpy f g sp dp 0 = g := by
  funext q
  unfold va_cpy
  rw [if_neg (by omega)]
theorem lm_copy2 (hK : am_cl sc (Ct sc (d + 1)) 322 Q K) (ho : o < 4) (hj : j + n ≤ 60) (f g : Nat → Int32) (sp : Nat) (hh : ∀ q, q < n → A 120 q = f (sp + q)) (h : Q (some (.int (nI n))) (wd (u1 A 119 (va_cpy f g sp (60 * o + j) n)) L (u2 I 64 0 0) J)) : ∀ (t s : Nat) (z : Int32) (B : Nat → Nat → Int32), s + t = n → z = nI s → B = u1 A 119 (va_cpy f g sp (60 * o + j) s) → K 144 [some (.ref 64), none, none, some (.int (nI o)), some (.int (nI j)), some (.int (nI n)), some (.int z)] [] (wd B L I J) 0 0 := by
  have g1 : (nI n).toInt = (n : Int) := nI_toInt (by omega)
  intro t
  induction t with
  | zero =>
    intro s z B hs hz hB
    have g2 := tT hz (by omega)
    refine am_go hK sp322 100 ?_
    conv => whnf
    refine ⟨fun _ => ?_, fun c => ?_⟩
    · conv => whnf
      refine And.intro (Ct_run 100 (fun _ => ?_)) trivial
      rw [hB, show s = n by omega]
      exact h
    · exfalso; ((try clear h0); (try clear h1); (try clear h2); (try clear h3); (try simp only [wI, wA, wL, wJ, wd, u2, reduceIte, Nat.reduceEqDiff, Nat.reduceAdd] at *); (try simp only [iR, vq, Int32.lt_iff_toInt_lt, Int32.le_iff_toInt_le, ← Int32.toInt_inj, Int32.toInt_toInt64, lkT0, lkT1, lkT2, lkT3, lkT4, lkT5, lkT6, lkT7, lkT8, lkT9, lkT10, lkT11, lkT12, lkT13, lkT14, lkT15, lkT16, lkT17, lkT18, lkT19, lkT20, nTm100, nTm10, nTm9, nTm8, nTm7, nTm6, nTm5, nTm4, nTm3, nTm2, nTm1, nT0, nT1, nT2, nT3, nT4, nT5, nT6, nT7, nT8, nT9, nT10, nT11, nT12, nT13, nT14, nT15, nT16, nT17, nT18, nT19, nT20, nT24, nT25, nT26, nT28, nT30, nT31, nT32, nT33, nT40, nT43, nT44, nT60, nT63, nT64, nT70, nT84, nT97, nT99, nT100, nT110, nT111, nT118, nT120, nT144, nT153, nT192, nT240, nT256, nT969, nT999, nT1000, nT1024, nT14400, nT65535, nT1000000, nT1048575, nT252645135, nT858993459, nT1431655765] at *); omega)
  | succ t ih =>
    intro s z B hs hz hB
    have g2 := tT hz (by omega)
    have ix : 60 * nI o + nI j + z = nI (60 * o + j + s) := by rw [ix60', hz, nI_add]
    refine am_go hK sp322 100 ?_
    conv => whnf
    refine ⟨fun c => ?_, fun _ => ?_⟩
    · exfalso; ((try clear h0); (try clear h1); (try clear h2); (try clear h3); (try simp only [wI, wA, wL, wJ, wd, u2, reduceIte, Nat.reduceEqDiff, Nat.reduceAdd] at *); (try simp only [iR, vq, Int32.lt_iff_toInt_lt, Int32.le_iff_toInt_le, ← Int32.toInt_inj, Int32.toInt_toInt64, lkT0, lkT1, lkT2, lkT3, lkT4, lkT5, lkT6, lkT7, lkT8, lkT9, lkT10, lkT11, lkT12, lkT13, lkT14, lkT15, lkT16, lkT17, lkT18, lkT19, lkT20, nTm100, nTm10, nTm9, nTm8, nTm7, nTm6, nTm5, nTm4, nTm3, nTm2, nTm1, nT0, nT1, nT2, nT3, nT4, nT5, nT6, nT7, nT8, nT9, nT10, nT11, nT12, nT13, nT14, nT15, nT16, nT17, nT18, nT19, nT20, nT24, nT25, nT26, nT28, nT30, nT31, nT32, nT33, nT40, nT43, nT44, nT60, nT63, nT64, nT70, nT84, nT97, nT99, nT100, nT110, nT111, nT118, nT120, nT144, nT153, nT192, nT240, nT256, nT969, nT999, nT1000, nT1024, nT14400, nT65535, nT1000000, nT1048575, nT252645135, nT858993459, nT1431655765] at *); omega)
    · conv => whnf
      (refine And.intro (a := vq _ _) (by simp only [Nat.reduceAdd, ln3, ln4, ln5, ln6, ln7, ln8, ln9, ln10, ln11, ln13, ln14, ln16, ln17, ln19, ln20, ln21, ln23, ln24, ln25, ln26, ln27, ln28, ln30, ln31, ln32, ln33, ln34, ln35, ln36, ln37, ln39, ln40, ln41, ln42, ln43, ln44, ln46, ln47, ln48, ln49, ln50, ln52, ln53, ln54, ln55, ln57, ln58, ln59, ln60, ln61, ln63, ln65, ln66, ln67, ln68, ln69, ln70, ln71, ln72, ln73, ln74, ln75, ln76, ln77, ln78, ln79, ln80, ln81, ln82, ln83, ln84, ln85, ln86, ln87, ln88, ln89, ln90, ln91, ln92, ln93, ln94, ln95, ln96, ln97, ln98, ln99, ln100, ln101, ln102, ln103, ln104, ln105, ln106, ln107, ln108, ln109, ln110, ln111, ln112, ln113, ln114, ln115, ln116, ln117, ln118, ln119, ln120]; first | exact vq_nI (by omega) (by omega) | exact vq_e (by assumption) (by omega) (by omega) | (simp only [wI, wA, wL, wJ, wd, u2, reduceIte, Nat.reduceEqDiff, Nat.reduceAdd, iR, vq, Int32.lt_iff_toInt_lt, Int32.le_iff_toInt_le, ← Int32.toInt_inj, Int32.toInt_toInt64, lkT0, lkT1, lkT2, lkT3, lkT4, lkT5, lkT6, lkT7, lkT8, lkT9, lkT10, lkT11, lkT12, lkT13, lkT14, lkT15, lkT16, lkT17, lkT18, lkT19, lkT20, nTm100, nTm10, nTm9, nTm8, nTm7, nTm6, nTm5, nTm4, nTm3, nTm2, nTm1, nT0, nT1, nT2, nT3, nT4, nT5, nT6, nT7, nT8, nT9, nT10, nT11, nT12, nT13, nT14, nT15, nT16, nT17, nT18, nT19, nT20, nT24, nT25, nT26, nT28, nT30, nT31, nT32, nT33, nT40, nT43, nT44, nT60, nT63, nT64, nT70, nT84, nT97, nT99, nT100, nT110, nT111, nT118, nT120, nT144, nT153, nT192, nT240, nT256, nT969, nT999, nT1000, nT1024, nT14400, nT65535, nT1000000, nT1048575, nT252645135, nT858993459, nT1431655765, nTm11, nTm12, nTm13, nTm14]; omega)) ?_)
      conv => whnf
      (refine And.intro (a := vq _ _) (by simp only [Nat.reduceAdd, ln3, ln4, ln5, ln6, ln7, ln8, ln9, ln10, ln11, ln13, ln14, ln16, ln17, ln19, ln20, ln21, ln23, ln24, ln25, ln26, ln27, ln28, ln30, ln31, ln32, ln33, ln34, ln35, ln36, ln37, ln39, ln40, ln41, ln42, ln43, ln44, ln46, ln47, ln48, ln49, ln50, ln52, ln53, ln54, ln55, ln57, ln58, ln59, ln60, ln61, ln63, ln65, ln66, ln67, ln68, ln69, ln70, ln71, ln72, ln73, ln74, ln75, ln76, ln77, ln78, ln79, ln80, ln81, ln82, ln83, ln84, ln85, ln86, ln87, ln88, ln89, ln90, ln91, ln92, ln93, ln94, ln95, ln96, ln97, ln98, ln99, ln100, ln101, ln102, ln103, ln104, ln105, ln106, ln107, ln108, ln109, ln110, ln111, ln112, ln113, ln114, ln115, ln116, ln117, ln118, ln119, ln120]; first | exact vq_nI (by omega) (by omega) | exact vq_e (by assumption) (by omega) (by omega) | (simp only [wI, wA, wL, wJ, wd, u2, reduceIte, Nat.reduceEqDiff, Nat.reduceAdd, iR, vq, Int32.lt_iff_toInt_lt, Int32.le_iff_toInt_le, ← Int32.toInt_inj, Int32.toInt_toInt64, lkT0, lkT1, lkT2, lkT3, lkT4, lkT5, lkT6, lkT7, lkT8, lkT9, lkT10, lkT11, lkT12, lkT13, lkT14, lkT15, lkT16, lkT17, lkT18, lkT19, lkT20, nTm100, nTm10, nTm9, nTm8, nTm7, nTm6, nTm5, nTm4, nTm3, nTm2, nTm1, nT0, nT1, nT2, nT3, nT4, nT5, nT6, nT7, nT8, nT9, nT10, nT11, nT12, nT13, nT14, nT15, nT16, nT17, nT18, nT19, nT20, nT24, nT25, nT26, nT28, nT30, nT31, nT32, nT33, nT40, nT43, nT44, nT60, nT63, nT64, nT70, nT84, nT97, nT99, nT100, nT110, nT111, nT118, nT120, nT144, nT153, nT192, nT240, nT256, nT969, nT999, nT1000, nT1024, nT14400, nT65535, nT1000000, nT1048575, nT252645135, nT858993459, nT1431655765, nTm11, nTm12, nTm13, nTm14]; omega)) ?_)
      conv => whnf
      refine ih (s + 1) _ _ (by omega) (t1 hz) ?_
      show u2 B 119 (60 * nI o + nI j + z).toNatClampNeg (B 120 z.toNatClampNeg) = _
      rw [ix, nI_clamp (by omega), tC hz (by omega), hB]
      have e2 : u1 A 119 (va_cpy f g sp (60 * o + j) s) 120 s = f (sp + s) := by rw [u1_ne (by omega)]; exact hh s (by omega)
      rw [e2, cpy_s]
theorem lm_copy1 (hK : am_cl sc (Ct sc (d + 1)) 322 Q K) (hk : k < 4) (hi : i + n ≤ 60) (ho : o < 4) (hj : j + n ≤ 60) (g : Nat → Int32) (h : Q (some (.int (nI n))) (wd (u1 (u1 A 120 (hf (A 119) g (60 * k + i) n)) 119 (va_cpy (A 119) (A 119) (60 * k + i) (60 * o + j) n)) L (u2 I 64 0 0) J)) : ∀ (t s : Nat) (z : Int32) (B : Nat → Nat → Int32), s + t = n → z = nI s → B = u1 A 120 (hf (A 119) g (60 * k + i) s) → K 107 [some (.ref 64), some (.int (nI k)), some (.int (nI i)), some (.int (nI o)), some (.int (nI j)), some (.int (nI n)), some (.int z)] [] (wd B L I J) 0 0 := by
  have g1 : (nI n).toInt = (n : Int) := nI_toInt (by omega)
  intro t
  induction t with
  | zero =>
    intro s z B hs hz hB
    have g2 := tT hz (by omega)
    refine am_go hK sp322 100 ?_
    conv => whnf
    refine ⟨fun _ => ?_, fun c => ?_⟩
    · conv => whnf
      refine lm_copy2 (A := B) (n := n) hK ho hj (A 119) (A 119) (60 * k + i) ?_ ?_ n 0 _ _ (by omega) nI_0.symm ?_
      · intro q hq
        rw [hB, u1_eq]
        unfold hf
        rw [if_pos (by omega)]
      · rw [hB, show s = n by omega]
        exact h
      · rw [cpy_0]
        have : B 119 = A 119 := by rw [hB, u1_ne (by omega)]
        rw [← this, u1_id]
    · exfalso; ((try clear h0); (try clear h1); (try clear h2); (try clear h3); (try simp only [wI, wA, wL, wJ, wd, u2, reduceIte, Nat.reduceEqDiff, Nat.reduceAdd] at *); (try simp only [iR, vq, Int32.lt_iff_toInt_lt, Int32.le_iff_toInt_le, ← Int32.toInt_inj, Int32.toInt_toInt64, lkT0, lkT1, lkT2, lkT3, lkT4, lkT5, lkT6, lkT7, lkT8, lkT9, lkT10, lkT11, lkT12, lkT13, lkT14, lkT15, lkT16, lkT17, lkT18, lkT19, lkT20, nTm100, nTm10, nTm9, nTm8, nTm7, nTm6, nTm5, nTm4, nTm3, nTm2, nTm1, nT0, nT1, nT2, nT3, nT4, nT5, nT6, nT7, nT8, nT9, nT10, nT11, nT12, nT13, nT14, nT15, nT16, nT17, nT18, nT19, nT20, nT24, nT25, nT26, nT28, nT30, nT31, nT32, nT33, nT40, nT43, nT44, nT60, nT63, nT64, nT70, nT84, nT97, nT99, nT100, nT110, nT111, nT118, nT120, nT144, nT153, nT192, nT240, nT256, nT969, nT999, nT1000, nT1024, nT14400, nT65535, nT1000000, nT1048575, nT252645135, nT858993459, nT1431655765] at *); omega)
  | succ t ih =>
    intro s z B hs hz hB
    have g2 := tT hz (by omega)
    have ix : 60 * nI k + nI i + z = nI (60 * k + i + s) := by rw [ix60', hz, nI_add]
    refine am_go hK sp322 100 ?_
    conv => whnf
    refine ⟨fun c => ?_, fun _ => ?_⟩
    · exfalso; ((try clear h0); (try clear h1); (try clear h2); (try clear h3); (try simp only [wI, wA, wL, wJ, wd, u2, reduceIte, Nat.reduceEqDiff, Nat.reduceAdd] at *); (try simp only [iR, vq, Int32.lt_iff_toInt_lt, Int32.le_iff_toInt_le, ← Int32.toInt_inj, Int32.toInt_toInt64, lkT0, lkT1, lkT2, lkT3, lkT4, lkT5, lkT6, lkT7, lkT8, lkT9, lkT10, lkT11, lkT12, lkT13, lkT14, lkT15, lkT16, lkT17, lkT18, lkT19, lkT20, nTm100, nTm10, nTm9, nTm8, nTm7, nTm6, nTm5, nTm4, nTm3, nTm2, nTm1, nT0, nT1, nT2, nT3, nT4, nT5, nT6, nT7, nT8, nT9, nT10, nT11, nT12, nT13, nT14, nT15, nT16, nT17, nT18, nT19, nT20, nT24, nT25, nT26, nT28, nT30, nT31, nT32, nT33, nT40, nT43, nT44, nT60, nT63, nT64, nT70, nT84, nT97, nT99, nT100, nT110, nT111, nT118, nT120, nT144, nT153, nT192, nT240, nT256, nT969, nT999, nT1000, nT1024, nT14400, nT65535, nT1000000, nT1048575, nT252645135, nT858993459, nT1431655765] at *); omega)
    · conv => whnf
      (refine And.intro (a := vq _ _) (by simp only [Nat.reduceAdd, ln3, ln4, ln5, ln6, ln7, ln8, ln9, ln10, ln11, ln13, ln14, ln16, ln17, ln19, ln20, ln21, ln23, ln24, ln25, ln26, ln27, ln28, ln30, ln31, ln32, ln33, ln34, ln35, ln36, ln37, ln39, ln40, ln41, ln42, ln43, ln44, ln46, ln47, ln48, ln49, ln50, ln52, ln53, ln54, ln55, ln57, ln58, ln59, ln60, ln61, ln63, ln65, ln66, ln67, ln68, ln69, ln70, ln71, ln72, ln73, ln74, ln75, ln76, ln77, ln78, ln79, ln80, ln81, ln82, ln83, ln84, ln85, ln86, ln87, ln88, ln89, ln90, ln91, ln92, ln93, ln94, ln95, ln96, ln97, ln98, ln99, ln100, ln101, ln102, ln103, ln104, ln105, ln106, ln107, ln108, ln109, ln110, ln111, ln112, ln113, ln114, ln115, ln116, ln117, ln118, ln119, ln120]; first | exact vq_nI (by omega) (by omega) | exact vq_e (by assumption) (by omega) (by omega) | (simp only [wI, wA, wL, wJ, wd, u2, reduceIte, Nat.reduceEqDiff, Nat.reduceAdd, iR, vq, Int32.lt_iff_toInt_lt, Int32.le_iff_toInt_le, ← Int32.toInt_inj, Int32.toInt_toInt64, lkT0, lkT1, lkT2, lkT3, lkT4, lkT5, lkT6, lkT7, lkT8, lkT9, lkT10, lkT11, lkT12, lkT13, lkT14, lkT15, lkT16, lkT17, lkT18, lkT19, lkT20, nTm100, nTm10, nTm9, nTm8, nTm7, nTm6, nTm5, nTm4, nTm3, nTm2, nTm1, nT0, nT1, nT2, nT3, nT4, nT5, nT6, nT7, nT8, nT9, nT10, nT11, nT12, nT13, nT14, nT15, nT16, nT17, nT18, nT19, nT20, nT24, nT25, nT26, nT28, nT30, nT31, nT32, nT33, nT40, nT43, nT44, nT60, nT63, nT64, nT70, nT84, nT97, nT99, nT100, nT110, nT111, nT118, nT120, nT144, nT153, nT192, nT240, nT256, nT969, nT999, nT1000, nT1024, nT14400, nT65535, nT1000000, nT1048575, nT252645135, nT858993459, nT1431655765, nTm11, nTm12, nTm13, nTm14]; omega)) ?_)
      conv => whnf
      (refine And.intro (a := vq _ _) (by simp only [Nat.reduceAdd, ln3, ln4, ln5, ln6, ln7, ln8, ln9, ln10, ln11, ln13, ln14, ln16, ln17, ln19, ln20, ln21, ln23, ln24, ln25, ln26, ln27, ln28, ln30, ln31, ln32, ln33, ln34, ln35, ln36, ln37, ln39, ln40, ln41, ln42, ln43, ln44, ln46, ln47, ln48, ln49, ln50, ln52, ln53, ln54, ln55, ln57, ln58, ln59, ln60, ln61, ln63, ln65, ln66, ln67, ln68, ln69, ln70, ln71, ln72, ln73, ln74, ln75, ln76, ln77, ln78, ln79, ln80, ln81, ln82, ln83, ln84, ln85, ln86, ln87, ln88, ln89, ln90, ln91, ln92, ln93, ln94, ln95, ln96, ln97, ln98, ln99, ln100, ln101, ln102, ln103, ln104, ln105, ln106, ln107, ln108, ln109, ln110, ln111, ln112, ln113, ln114, ln115, ln116, ln117, ln118, ln119, ln120]; first | exact vq_nI (by omega) (by omega) | exact vq_e (by assumption) (by omega) (by omega) | (simp only [wI, wA, wL, wJ, wd, u2, reduceIte, Nat.reduceEqDiff, Nat.reduceAdd, iR, vq, Int32.lt_iff_toInt_lt, Int32.le_iff_toInt_le, ← Int32.toInt_inj, Int32.toInt_toInt64, lkT0, lkT1, lkT2, lkT3, lkT4, lkT5, lkT6, lkT7, lkT8, lkT9, lkT10, lkT11, lkT12, lkT13, lkT14, lkT15, lkT16, lkT17, lkT18, lkT19, lkT20, nTm100, nTm10, nTm9, nTm8, nTm7, nTm6, nTm5, nTm4, nTm3, nTm2, nTm1, nT0, nT1, nT2, nT3, nT4, nT5, nT6, nT7, nT8, nT9, nT10, nT11, nT12, nT13, nT14, nT15, nT16, nT17, nT18, nT19, nT20, nT24, nT25, nT26, nT28, nT30, nT31, nT32, nT33, nT40, nT43, nT44, nT60, nT63, nT64, nT70, nT84, nT97, nT99, nT100, nT110, nT111, nT118, nT120, nT144, nT153, nT192, nT240, nT256, nT969, nT999, nT1000, nT1024, nT14400, nT65535, nT1000000, nT1048575, nT252645135, nT858993459, nT1431655765, nTm11, nTm12, nTm13, nTm14]; omega)) ?_)
      conv => whnf
      refine ih (s + 1) _ _ (by omega) (t1 hz) ?_
      show u2 B 120 z.toNatClampNeg (B 119 (60 * nI k + nI i + z).toNatClampNeg) = _
      rw [ix, nI_clamp (by omega), tC hz (by omega), hB]
      have e2 : u1 A 120 (hf (A 119) g (60 * k + i) s) 119 = A 119 := by rw [u1_ne (by omega)]
      rw [e2, hf_s]
end
