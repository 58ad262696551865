theorem mT2 (a : Nat) : nI a * 2 = nI (2 * a) := by rw [show (2 : Int32) = nI 2 from rfl, pk_mul, Nat.mul_comm]
theorem mS2 (a : Nat) : 2 * nI a = nI (2 * a) := by rw [show (2 : Int32) = nI 2 from rfl, pk_mul]
theorem mT3 (a : Nat) : nI a * 3 = nI (3 * a) := by rw [show (3 : Int32) = nI 3 from rfl, pk_mul, Nat.mul_comm]
theorem mS3 (a : Nat) : 3 * nI a = nI (3 * a) := by rw [show (3 : Int32) = nI 3 from rfl, pk_mul]
theorem mT4 (a : Nat) : nI a * 4 = nI (4 * a) := by rw [show (4 : Int32) = nI 4 from rfl, pk_mul, Nat.mul_comm]
theorem mS4 (a : Nat) : 4 * nI a = nI (4 * a) := by rw [show (4 : Int32) = nI 4 from rfl, pk_mul]
theorem mT5 (a : Nat) : nI a * 5 = nI (5 * a) := by rw [show (5 : Int32) = nI 5 from rfl, pk_mul, Nat.mul_comm]
theorem mS5 (a : Nat) : 5 * nI a = nI (5 * a) := by rw [show (5 : Int32) = nI 5 from rfl, pk_mul]
theorem mT12 (a : Nat) : nI a * 12 = nI (12 * a) := by rw [show (12 : Int32) = nI 12 from rfl, pk_mul, Nat.mul_comm]
theorem mS12 (a : Nat) : 12 * nI a = nI (12 * a) := by rw [show (12 : Int32) = nI 12 from rfl, pk_mul]
theorem mT16 (a : Nat) : nI a * 16 = nI (16 * a) := by rw [show (16 : Int32) = nI 16 from rfl, pk_mul, Nat.mul_comm]
theorem mS16 (a : Nat) : 16 * nI a = nI (16 * a) := by rw [show (16 : Int32) = nI 16 from rfl, pk_mul]
theorem mT60 (a : Nat) : nI a * 60 = nI (60 * a) := by rw [show (60 : Int32) = nI 60 from rfl, pk_mul, Nat.mul_comm]
theorem mS60 (a : Nat) : 60 * nI a = nI (60 * a) := by rw [show (60 : Int32) = nI 60 from rfl, pk_mul]
/-- a loop that counts up -/
theorem upI {n : Nat} {P : Nat → Prop} (hs : ∀ b, b ≤ n → (b < n → P (b + 1)) → P b) : ∀ b, b ≤ n → P b := by
  intro b hb
  obtain ⟨t, ht⟩ : ∃ t, b + t = n := ⟨n - b, by omega⟩
  induction t generalizing b with
  | zero => exact hs b hb (fun h => absurd h (by omega))
  | succ t ih => exact hs b hb (fun h => ih (b + 1) (by omega) (by omega))
/-- a loop that counts down -/
theorem dnI {P : Nat → Prop} (hs : ∀ b, (0 < b → P (b - 1)) → P b) : ∀ b, P b := by
  intro b
  induction b with
  | zero => exact hs 0 (fun h => absurd h (by omega))
  | succ t ih => exact hs (t + 1) (fun _ => ih)
/-- the cells from b on are letters -/
def okL (f : Nat → Int32) (b n : Nat) : Prop := ∀ j, j < n → 1 ≤ (f (b + j)).toInt ∧ (f (b + j)).toInt ≤ 26
section
variable {sc : Sc} {d : Nat} {A : Nat → Nat → Int32} {L : Nat → Nat → Int64} {I : Nat → Nat → Int32} {J : Nat → Nat → Int64} {R : St Prop} {Q : Option Value → Wd → Prop} {K : Kt} {k i n r : Nat}
set_option maxHeartbeats 4000000 in
theorem lx_areL (hK : am_cl sc (Ct sc (d + 1)) 117 Q K) (hk : k < 4) (hi : i + n ≤ 60) (hT : okL (A 19) (60 * k + i) n → Q (some (.int 1)) (wd A L I J)) (hF : ¬ okL (A 19) (60 * k + i) n → Q (some (.int 0)) (wd A L I J)) : ∀ b, b ≤ n → ∀ z : Int32, z = nI b → okL (A 19) (60 * k + i) b → K 3 [some (.ref 18), some (.int (nI k)), some (.int (nI i)), some (.int (nI n)), some (.int z), none] [] (wd A L I J) 0 0 := by
  refine upI fun b hb ih z hz hp => ?_
  subst hz
  have gn : (nI n).toInt = (n : Int) := nI_toInt (by omega)
  have gb : (nI b).toInt = (b : Int) := nI_toInt (by omega)
  have ix : nI k * 60 + (nI i + nI b) = nI (60 * k + i + b) := by simp only [mT60, nI_add, Nat.add_assoc]
  have cx : (nI k * 60 + (nI i + nI b)).toNatClampNeg = 60 * k + i + b := by rw [ix]; exact nI_clamp (by omega)
  refine am_go hK sp117 300 ?_
  repeat' ((conv => whnf); first | (refine And.intro (fun c => absurd c i10) (fun _ => ?_)) | (refine And.intro (fun _ => ?_) (fun c => absurd c i10)) | (refine And.intro (fun c => absurd rfl c) (fun _ => ?_)) | (refine And.intro (fun _ => ?_) (fun c => absurd rfl c)) | (refine And.intro (fun c => absurd c i01) (fun _ => ?_)) | (refine And.intro (fun _ => ?_) (fun c => absurd c i01)) | (refine And.intro ((no_such) ?_) trivial) | (refine And.intro (fun c => ?_) (fun c => ?_) <;> (try simp only [wI, wA, wL, wJ, wd, u2, reduceIte, Nat.reduceEqDiff, Nat.reduceAdd, iR, vq, Int32.lt_iff_toInt_lt, Int32.le_iff_toInt_le, ← Int32.toInt_inj, Int32.toInt_toInt64, lkT0, lkT1, lkT2, lkT3, lkT4, lkT5, lkT6, lkT7, lkT8, lkT9, lkT10, lkT11, lkT12, lkT13, lkT14, lkT15, lkT16, lkT17, lkT18, lkT19, lkT20, nTm100, nTm10, nTm9, nTm8, nTm7, nTm6, nTm5, nTm4, nTm3, nTm2, nTm1, nT0, nT1, nT2, nT3, nT4, nT5, nT6, nT7, nT8, nT9, nT10, nT11, nT12, nT13, nT14, nT15, nT16, nT17, nT18, nT19, nT20, nT24, nT25, nT26, nT28, nT30, nT31, nT32, nT33, nT40, nT43, nT44, nT60, nT63, nT64, nT70, nT84, nT97, nT99, nT100, nT110, nT111, nT118, nT120, nT144, nT153, nT192, nT240, nT256, nT969, nT999, nT1000, nT1024, nT14400, nT65535, nT1000000, nT1048575, nT252645135, nT858993459, nT1431655765, nTm11, nTm12, nTm13, nTm14, u1] at c) <;> try (first | exact absurd rfl c | (exfalso; omega))) | (refine And.intro (a := vq _ _) (by simp only [Nat.reduceAdd, ln3, ln4, ln5, ln6, ln7, ln8, ln9, ln10, ln11, ln13, ln14, ln16, ln17, ln19, ln20, ln21, ln23, ln24, ln25, ln26, ln27, ln28, ln30, ln31, ln32, ln33, ln34, ln35, ln36, ln37, ln39, ln40, ln41, ln42, ln43, ln44, ln46, ln47, ln48, ln49, ln50, ln52, ln53, ln54, ln55, ln57, ln58, ln59, ln60, ln61, ln63, ln65, ln66, ln67, ln68, ln69, ln70, ln71, ln72, ln73, ln74, ln75, ln76, ln77, ln78, ln79, ln80, ln81, ln82, ln83, ln84, ln85, ln86, ln87, ln88, ln89, ln90, ln91, ln92, ln93, ln94, ln95, ln96, ln97, ln98, ln99, ln100, ln101, ln102, ln103, ln104, ln105, ln106, ln107, ln108, ln109, ln110, ln111, ln112, ln113, ln114, ln115, ln116, ln117, ln118, ln119, ln120]; first | exact vq_nI (by omega) (by omega) | exact vq_e (by assumption) (by omega) (by omega) | (simp (disch := omega) only [wA, wI, wL, wJ, wd, mT2, mS2, mT3, mS3, mT4, mS4, mT5, mS5, mT12, mS12, mT16, mS16, mT60, mS60, nI_add, nI_1, nI_clamp]; exact vq_nI (by omega) (by omega)) | (simp only [wI, wA, wL, wJ, wd, u2, reduceIte, Nat.reduceEqDiff, Nat.reduceAdd, iR, vq, Int32.lt_iff_toInt_lt, Int32.le_iff_toInt_le, ← Int32.toInt_inj, Int32.toInt_toInt64, lkT0, lkT1, lkT2, lkT3, lkT4, lkT5, lkT6, lkT7, lkT8, lkT9, lkT10, lkT11, lkT12, lkT13, lkT14, lkT15, lkT16, lkT17, lkT18, lkT19, lkT20, nTm100, nTm10, nTm9, nTm8, nTm7, nTm6, nTm5, nTm4, nTm3, nTm2, nTm1, nT0, nT1, nT2, nT3, nT4, nT5, nT6, nT7, nT8, nT9, nT10, nT11, nT12, nT13, nT14, nT15, nT16, nT17, nT18, nT19, nT20, nT24, nT25, nT26, nT28, nT30, nT31, nT32, nT33, nT40, nT43, nT44, nT60, nT63, nT64, nT70, nT84, nT97, nT99, nT100, nT110, nT111, nT118, nT120, nT144, nT153, nT192, nT240, nT256, nT969, nT999, nT1000, nT1024, nT14400, nT65535, nT1000000, nT1048575, nT252645135, nT858993459, nT1431655765, nTm11, nTm12, nTm13, nTm14, u1]; omega)) ?_) | (refine And.intro (s_in_T (by simp only [wI, wA, wL, wJ, wd, u2, reduceIte, Nat.reduceEqDiff, Nat.reduceAdd, iR, vq, Int32.lt_iff_toInt_lt, Int32.le_iff_toInt_le, ← Int32.toInt_inj, Int32.toInt_toInt64, lkT0, lkT1, lkT2, lkT3, lkT4, lkT5, lkT6, lkT7, lkT8, lkT9, lkT10, lkT11, lkT12, lkT13, lkT14, lkT15, lkT16, lkT17, lkT18, lkT19, lkT20, nTm100, nTm10, nTm9, nTm8, nTm7, nTm6, nTm5, nTm4, nTm3, nTm2, nTm1, nT0, nT1, nT2, nT3, nT4, nT5, nT6, nT7, nT8, nT9, nT10, nT11, nT12, nT13, nT14, nT15, nT16, nT17, nT18, nT19, nT20, nT24, nT25, nT26, nT28, nT30, nT31, nT32, nT33, nT40, nT43, nT44, nT60, nT63, nT64, nT70, nT84, nT97, nT99, nT100, nT110, nT111, nT118, nT120, nT144, nT153, nT192, nT240, nT256, nT969, nT999, nT1000, nT1024, nT14400, nT65535, nT1000000, nT1048575, nT252645135, nT858993459, nT1431655765, nTm11, nTm12, nTm13, nTm14, u1]; omega) (by simp only [wI, wA, wL, wJ, wd, u2, reduceIte, Nat.reduceEqDiff, Nat.reduceAdd, iR, vq, Int32.lt_iff_toInt_lt, Int32.le_iff_toInt_le, ← Int32.toInt_inj, Int32.toInt_toInt64, lkT0, lkT1, lkT2, lkT3, lkT4, lkT5, lkT6, lkT7, lkT8, lkT9, lkT10, lkT11, lkT12, lkT13, lkT14, lkT15, lkT16, lkT17, lkT18, lkT19, lkT20, nTm100, nTm10, nTm9, nTm8, nTm7, nTm6, nTm5, nTm4, nTm3, nTm2, nTm1, nT0, nT1, nT2, nT3, nT4, nT5, nT6, nT7, nT8, nT9, nT10, nT11, nT12, nT13, nT14, nT15, nT16, nT17, nT18, nT19, nT20, nT24, nT25, nT26, nT28, nT30, nT31, nT32, nT33, nT40, nT43, nT44, nT60, nT63, nT64, nT70, nT84, nT97, nT99, nT100, nT110, nT111, nT118, nT120, nT144, nT153, nT192, nT240, nT256, nT969, nT999, nT1000, nT1024, nT14400, nT65535, nT1000000, nT1048575, nT252645135, nT858993459, nT1431655765, nTm11, nTm12, nTm13, nTm14, u1]; omega) ?_) trivial) | (refine And.intro (s_in_F (by simp only [wI, wA, wL, wJ, wd, u2, reduceIte, Nat.reduceEqDiff, Nat.reduceAdd, iR, vq, Int32.lt_iff_toInt_lt, Int32.le_iff_toInt_le, ← Int32.toInt_inj, Int32.toInt_toInt64, lkT0, lkT1, lkT2, lkT3, lkT4, lkT5, lkT6, lkT7, lkT8, lkT9, lkT10, lkT11, lkT12, lkT13, lkT14, lkT15, lkT16, lkT17, lkT18, lkT19, lkT20, nTm100, nTm10, nTm9, nTm8, nTm7, nTm6, nTm5, nTm4, nTm3, nTm2, nTm1, nT0, nT1, nT2, nT3, nT4, nT5, nT6, nT7, nT8, nT9, nT10, nT11, nT12, nT13, nT14, nT15, nT16, nT17, nT18, nT19, nT20, nT24, nT25, nT26, nT28, nT30, nT31, nT32, nT33, nT40, nT43, nT44, nT60, nT63, nT64, nT70, nT84, nT97, nT99, nT100, nT110, nT111, nT118, nT120, nT144, nT153, nT192, nT240, nT256, nT969, nT999, nT1000, nT1024, nT14400, nT65535, nT1000000, nT1048575, nT252645135, nT858993459, nT1431655765, nTm11, nTm12, nTm13, nTm14, u1]; omega) ?_) trivial) | (refine And.intro (s_in _ _ _ (fun c1 c2 => ?_) (fun c => ?_)) trivial) | (refine And.intro (Ct_run 300 (fun _ => ?_)) trivial) | (refine And.intro (Or.inl rfl) ?_) | (refine And.intro (Or.inr rfl) ?_) | fail)
  · rw [show b = n by omega] at hp
    exact hT hp
  · refine hF fun h => ?_
    have := h b (by omega)
    rw [← cx] at this
    omega
  · refine ih (by omega) _ (nI_1 b) fun j hj => ?_
    rcases Nat.lt_or_ge j b with h | h
    · exact hp j h
    · have : j = b := by omega
      rw [this, ← cx]
      constructor <;> omega
  · refine hF fun h => ?_
    have := h b (by omega)
    rw [← cx] at this
    omega
end
