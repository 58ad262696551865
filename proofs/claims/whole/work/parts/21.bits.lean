theorem and1 (x : Int32) : x &&& 1 = if x.toBitVec.getLsbD 0 = true then 1 else 0 := by
  apply Int32.toBitVec_inj.mp
  apply BitVec.eq_of_getLsbD_eq
  intro i hi
  have h1 : (x &&& 1).toBitVec.getLsbD i = (x.toBitVec.getLsbD i && (1#32).getLsbD i) := by
    show (x.toBitVec &&& (1#32)).getLsbD i = _
    rw [BitVec.getLsbD_and]
  rw [h1]
  cases hx : x.toBitVec.getLsbD 0
  · show _ = (0#32).getLsbD i
    cases i with
    | zero => rw [hx]; rfl
    | succ i => simp
  · show _ = (1#32).getLsbD i
    cases i with
    | zero => rw [hx]; rfl
    | succ i => simp
set_option maxRecDepth 100000 in
theorem sm32 : ∀ k, k < 32 → ((nI k &&& 31).toBitVec.smod 32).toNat = k := by decide
/-- bit k of a set -/
def bt (v : Int32) (k : Nat) : Bool := v.toBitVec.getLsbD k
theorem shr_bv (v : Int32) (k : Nat) (hk : k < 32) : (v >>> (nI k &&& 31)).toBitVec = v.toBitVec.sshiftRight k := by
  have h := sm32 k hk
  show v.toBitVec.sshiftRight' ((nI k &&& 31).toBitVec.smod 32) = _
  unfold BitVec.sshiftRight'
  rw [h]
theorem bitE (v : Int32) (k : Nat) (hk : k < 32) : (v >>> (nI k &&& 31)) &&& 1 = if bt v k = true then 1 else 0 := by
  rw [and1, shr_bv v k hk]
  have : (v.toBitVec.sshiftRight k).getLsbD 0 = bt v k := by
    rw [BitVec.getLsbD_sshiftRight]
    unfold bt
    simp [hk]
  rw [this]
section
variable {sc : Sc} {d : Nat} {A : Nat → Nat → Int32} {L : Nat → Nat → Int64} {I : Nat → Nat → Int32} {J : Nat → Nat → Int64} {R : St Prop} {Q : Option Value → Wd → Prop} {n : Nat} {K : Kt} {w : Wd}
theorem sm_hasBit_T {v : Int32} {k : Nat} (hk : k < 32) (hb : bt v k = true) (h : Q (some (.int 1)) w) : Ct sc (d + 1) 221 [.int v, .int (nI k)] w Q := by
  have e := bitE v k hk
  rw [if_pos hb] at e
  refine Ct_run 40 (fun _ => ?_)
  exact ⟨fun c => absurd e c, fun _ => ⟨Or.inr rfl, h⟩⟩
theorem sm_hasBit_F {v : Int32} {k : Nat} (hk : k < 32) (hb : bt v k = false) (h : Q (some (.int 0)) w) : Ct sc (d + 1) 221 [.int v, .int (nI k)] w Q := by
  have e := bitE v k hk
  rw [if_neg (by rw [hb]; decide)] at e
  refine Ct_run 40 (fun _ => ?_)
  refine ⟨fun _ => ⟨Or.inl rfl, h⟩, fun c => ?_⟩
  rw [e] at c
  exact absurd c (by decide)
theorem sx_isKnown_T {p x : Nat} (hp : p < 12) (hx : x < 32) (hb : bt (A 40 p) x = true) (h : Q (some (.int 1)) (wd A L I J)) : Ct sc (d + 1) 31 [.ref 38, .int (nI p), .int (nI x)] (wd A L I J) Q := by
  have e := bitE (A 40 p) x hx
  rw [if_pos hb] at e
  refine Ct_run 40 (fun _ => ?_)
  conv => whnf
  (refine And.intro (a := vq _ _) (by simp only [Nat.reduceAdd, ln3, ln4, ln5, ln6, ln7, ln8, ln9, ln10, ln11, ln13, ln14, ln16, ln17, ln19, ln20, ln21, ln23, ln24, ln25, ln26, ln27, ln28, ln30, ln31, ln32, ln33, ln34, ln35, ln36, ln37, ln39, ln40, ln41, ln42, ln43, ln44, ln46, ln47, ln48, ln49, ln50, ln52, ln53, ln54, ln55, ln57, ln58, ln59, ln60, ln61, ln63, ln65, ln66, ln67, ln68, ln69, ln70, ln71, ln72, ln73, ln74, ln75, ln76, ln77, ln78, ln79, ln80, ln81, ln82, ln83, ln84, ln85, ln86, ln87, ln88, ln89, ln90, ln91, ln92, ln93, ln94, ln95, ln96, ln97, ln98, ln99, ln100, ln101, ln102, ln103, ln104, ln105, ln106, ln107, ln108, ln109, ln110, ln111, ln112, ln113, ln114, ln115, ln116, ln117, ln118, ln119, ln120]; first | exact vq_nI (by omega) (by omega) | exact vq_e (by assumption) (by omega) (by omega) | (unfold vq; ((try clear h0); (try clear h1); (try clear h2); (try clear h3); (try simp only [wI, wA, wL, wJ, wd, u2, reduceIte, Nat.reduceEqDiff, Nat.reduceAdd] at *); (try simp only [iR, vq, Int32.lt_iff_toInt_lt, Int32.le_iff_toInt_le, ← Int32.toInt_inj, Int32.toInt_toInt64, lkT0, lkT1, lkT2, lkT3, lkT4, lkT5, lkT6, lkT7, lkT8, lkT9, lkT10, lkT11, lkT12, lkT13, lkT14, lkT15, lkT16, lkT17, lkT18, lkT19, lkT20, nTm100, nTm10, nTm9, nTm8, nTm7, nTm6, nTm5, nTm4, nTm3, nTm2, nTm1, nT0, nT1, nT2, nT3, nT4, nT5, nT6, nT7, nT8, nT9, nT10, nT11, nT12, nT13, nT14, nT15, nT16, nT17, nT18, nT19, nT20, nT24, nT25, nT26, nT28, nT30, nT31, nT32, nT33, nT40, nT43, nT44, nT60, nT63, nT64, nT70, nT84, nT97, nT99, nT100, nT110, nT111, nT118, nT120, nT144, nT153, nT192, nT240, nT256, nT969, nT999, nT1000, nT1024, nT14400, nT65535, nT1000000, nT1048575, nT252645135, nT858993459, nT1431655765] at *); omega))) ?_)
  refine ⟨fun c => ?_, fun _ => ⟨Or.inr rfl, h⟩⟩
  have c : (A 40 (nI p).toNatClampNeg >>> (nI x &&& 31)) &&& 1 = 0 := c
  rw [nI_clamp (by omega), e] at c
  exact absurd c (by decide)
theorem sx_isKnown_F {p x : Nat} (hp : p < 12) (hx : x < 32) (hb : bt (A 40 p) x = false) (h : Q (some (.int 0)) (wd A L I J)) : Ct sc (d + 1) 31 [.ref 38, .int (nI p), .int (nI x)] (wd A L I J) Q := by
  have e := bitE (A 40 p) x hx
  rw [if_neg (by rw [hb]; decide)] at e
  refine Ct_run 40 (fun _ => ?_)
  conv => whnf
  (refine And.intro (a := vq _ _) (by simp only [Nat.reduceAdd, ln3, ln4, ln5, ln6, ln7, ln8, ln9, ln10, ln11, ln13, ln14, ln16, ln17, ln19, ln20, ln21, ln23, ln24, ln25, ln26, ln27, ln28, ln30, ln31, ln32, ln33, ln34, ln35, ln36, ln37, ln39, ln40, ln41, ln42, ln43, ln44, ln46, ln47, ln48, ln49, ln50, ln52, ln53, ln54, ln55, ln57, ln58, ln59, ln60, ln61, ln63, ln65, ln66, ln67, ln68, ln69, ln70, ln71, ln72, ln73, ln74, ln75, ln76, ln77, ln78, ln79, ln80, ln81, ln82, ln83, ln84, ln85, ln86, ln87, ln88, ln89, ln90, ln91, ln92, ln93, ln94, ln95, ln96, ln97, ln98, ln99, ln100, ln101, ln102, ln103, ln104, ln105, ln106, ln107, ln108, ln109, ln110, ln111, ln112, ln113, ln114, ln115, ln116, ln117, ln118, ln119, ln120]; first | exact vq_nI (by omega) (by omega) | exact vq_e (by assumption) (by omega) (by omega) | (unfold vq; ((try clear h0); (try clear h1); (try clear h2); (try clear h3); (try simp only [wI, wA, wL, wJ, wd, u2, reduceIte, Nat.reduceEqDiff, Nat.reduceAdd] at *); (try simp only [iR, vq, Int32.lt_iff_toInt_lt, Int32.le_iff_toInt_le, ← Int32.toInt_inj, Int32.toInt_toInt64, lkT0, lkT1, lkT2, lkT3, lkT4, lkT5, lkT6, lkT7, lkT8, lkT9, lkT10, lkT11, lkT12, lkT13, lkT14, lkT15, lkT16, lkT17, lkT18, lkT19, lkT20, nTm100, nTm10, nTm9, nTm8, nTm7, nTm6, nTm5, nTm4, nTm3, nTm2, nTm1, nT0, nT1, nT2, nT3, nT4, nT5, nT6, nT7, nT8, nT9, nT10, nT11, nT12, nT13, nT14, nT15, nT16, nT17, nT18, nT19, nT20, nT24, nT25, nT26, nT28, nT30, nT31, nT32, nT33, nT40, nT43, nT44, nT60, nT63, nT64, nT70, nT84, nT97, nT99, nT100, nT110, nT111, nT118, nT120, nT144, nT153, nT192, nT240, nT256, nT969, nT999, nT1000, nT1024, nT14400, nT65535, nT1000000, nT1048575, nT252645135, nT858993459, nT1431655765] at *); omega))) ?_)
  refine ⟨fun _ => ⟨Or.inl rfl, h⟩, fun c => ?_⟩
  exfalso
  apply c
  show (A 40 (nI p).toNatClampNeg >>> (nI x &&& 31)) &&& 1 = 0
  rw [nI_clamp (by omega), e]
end
