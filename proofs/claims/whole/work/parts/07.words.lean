theorem wd_in {i : Nat} {c : Jvm.Cond} (h : lw_tbl[i]? = some c) : c ∈ lw_tbl := List.mem_of_getElem? h
set_option maxRecDepth 100000 in
theorem wd_lay : ∀ ci, ci < 13 → ∀ j, j < nf ci → lw_tbl[xlay ci j]? = some (u_lay (cn ci) (cT ci) j) := by decide +kernel
set_option maxRecDepth 100000 in
theorem wd_code : ∀ y, y < 332 → lw_tbl[xcode y]? = some (.code (mnm y) (mby y) (mxl y) (mrt y)) := by decide +kernel
set_option maxRecDepth 100000 in
theorem wd_inst : ∀ y, y < 332 → lw_tbl[xinst y]? = some (bif mst y then .static (mnm y) else .instanceMethod (mnm y)) := by decide +kernel
set_option maxRecDepth 100000 in
theorem wd_sel : ∀ y, y < 332 → mst y = false → mini y = false → lw_tbl[xsel y]? = some (.selects (cn (mown y)) (mnm y) (mnm y)) := by decide +kernel
set_option maxRecDepth 100000 in
theorem wd_ini : ∀ i, i < 16 → lw_tbl[xini i]? = some (.initialized (cn i)) := by decide +kernel
set_option maxRecDepth 100000 in
theorem wd_mk : ∀ i, i < 13 → lw_tbl[xmk i]? = some (.instantiable (cn i) (nf i)) := by decide +kernel
set_option maxRecDepth 100000 in
theorem wd_fl : ∀ q ∈ tfl, lw_tbl[q.2.2.2.2]? = some (.fieldLink (cn q.1) q.2.1 (cn q.2.2.1) (cT q.2.2.1 q.2.2.2.1).2.1 (cT q.2.2.1 q.2.2.2.1).2.2.1) := by decide +kernel
set_option maxRecDepth 100000 in
theorem wd_ml : ∀ q ∈ tml, lw_tbl[q.2.2.2]? = some (.methodLink (cn q.1) q.2.1 (mnm q.2.2.1)) := by decide +kernel
set_option maxRecDepth 100000 in
theorem wd_ol : ∀ q ∈ tol, lw_tbl[q.2.2]? = some (.methodLink (cn q.1) q.2.1 objectInit) := by decide +kernel
set_option maxRecDepth 100000 in
theorem wd_cl : ∀ q ∈ tcl, lw_tbl[q.2.2.2]? = some (.classLink (cn q.1) q.2.1 (cn q.2.2.1)) := by decide +kernel
set_option maxRecDepth 100000 in
theorem wd_ki : ∀ q ∈ tki, lw_tbl[q.2.2.2]? = some (.constant (cn q.1) q.2.1 q.2.2.1) := by decide +kernel
set_option maxRecDepth 100000 in
theorem wd_kl : ∀ q ∈ tkl, lw_tbl[q.2.2.2]? = some (.constantLong (cn q.1) q.2.1 (lkc q.2.2.1)) := by decide +kernel
set_option maxRecDepth 100000 in
theorem wd_oi : lw_tbl[100]? = some (.instanceMethod objectInit) := by decide +kernel
set_option maxRecDepth 100000 in
theorem wd_oc : lw_tbl[101]? = some (.code objectInit ⟨#[0xb1]⟩ 1 none) := by decide +kernel
set_option maxRecDepth 100000 in
theorem wd_arI : lw_tbl[142]? = some (.arrayClass .int) := by decide +kernel
set_option maxRecDepth 100000 in
theorem wd_arJ : lw_tbl[205]? = some (.arrayClass .long) := by decide +kernel
set_option maxRecDepth 100000 in
theorem wd_arZ : lw_tbl[1584]? = some (.arrayClass .boolean) := by decide +kernel
set_option maxRecDepth 100000 in
theorem wd_acl : lw_tbl[1279]? = some (.methodLink (cn 7) 25 arraycopyName) := by decide +kernel
set_option maxRecDepth 100000 in
theorem wd_acn : lw_tbl[1281]? = some (.native arraycopyName) := by decide +kernel
set_option maxRecDepth 100000 in
theorem wd_acs : lw_tbl[1280]? = some (.static arraycopyName) := by decide +kernel
set_option maxRecDepth 100000 in
theorem wd_aci : lw_tbl[93]? = some (.initialized "java/lang/System") := by decide +kernel
set_option maxRecDepth 100000 in
theorem wd_good : lw_tbl.all goodWord = true := by decide +kernel
set_option maxRecDepth 100000 in
theorem md_1 : ∀ y, y < 332 → (mnm y).cls = cn (mown y) ∧ mown y < 16 ∧ (mnm y).cls ≠ "java/lang/invoke/MethodHandle" ∧ (mnm y).cls ≠ "java/lang/invoke/VarHandle" ∧ plainName (mnm y).cls = true ∧ (mini y = true → (mnm y).name = "<init>") ∧ mxl y ≤ 18 := by decide +kernel
set_option maxRecDepth 100000 in
theorem md_2 : ∀ y, y < 332 → (parseMethodDescriptor (mnm y).desc).map (fun d => d.parameters.length) = some (mar y - (bif mst y then 0 else 1)) ∧ (mst y = false → 1 ≤ mar y) := by decide +kernel
theorem vw_at : ∀ ci, ci < 13 → vwCl[ci]? = some (cn ci, cT ci, nf ci)
  | 0, _ => rfl | 1, _ => rfl | 2, _ => rfl | 3, _ => rfl | 4, _ => rfl | 5, _ => rfl | 6, _ => rfl | 7, _ => rfl | 8, _ => rfl | 9, _ => rfl | 10, _ => rfl | 11, _ => rfl | 12, _ => rfl
  | n + 13, h => absurd h (by omega)
set_option maxRecDepth 100000 in
theorem cd_ty : ∀ ci, ci < 13 → ∀ k, k < nf ci → parseFieldDescriptor (cT ci k).2.2.1 = some (cty ci k) := by decide +kernel
theorem cd_nm : ∀ ci, ci < 13 → ∀ a, a < nf ci → ∀ b, b < nf ci → a ≠ b → (cT ci a).2.1 ≠ (cT ci b).2.1
  | 0, _ => nmX0 | 1, _ => nmX1 | 2, _ => nmX2 | 3, _ => nmX3 | 4, _ => nmX4 | 5, _ => nmX5 | 6, _ => nmX6 | 7, _ => nmX7 | 8, _ => nmX8 | 9, _ => nmX9 | 10, _ => nmX10 | 11, _ => nmX11 | 12, _ => nmX12
  | n + 13, h => absurd h (by omega)
/-- a field's type by its sort -/
def ft_ok (n : Nat) (t : FieldType) : Bool := match n, t with
  | 0, .int => true
  | 1, .long => true
  | 2, .object _ => true
  | 2, .array _ => true
  | 3, .boolean => true
  | _, _ => false
set_option maxRecDepth 100000 in
theorem cd_ft : ∀ ci, ci < 13 → ∀ k, k < nf ci → ft_ok (ft ci k) (cty ci k) = true ∧ (cT ci k).2.2.2 = fin ci k ∧ (cT ci k).1 = cn ci := by decide +kernel
theorem wd_us {ci : Nat} (h : ci < 13) : ∀ w ∈ u_ws (cn ci) (cT ci) (nf ci), w ∈ lw_tbl := by
  intro w hw
  obtain ⟨j, hj, rfl⟩ := List.mem_map.mp hw
  exact wd_in (wd_lay ci h j (List.mem_range.mp hj))
theorem ck_any {α : Type} {l : List α} {f : α → Bool} (h : l.any f = true) : ∃ q ∈ l, f q = true := List.any_eq_true.mp h
theorem lk_fl {o i a b : Nat} (h : ck_fl o i a b = true) : Jvm.Cond.fieldLink (cn o) i (cn a) (cT a b).2.1 (cT a b).2.2.1 ∈ lw_tbl := by
  obtain ⟨q, hq, hf⟩ := ck_any h
  simp only [Bool.and_eq_true, Nat.beq_eq_true_eq] at hf
  obtain ⟨rfl, rfl, rfl, rfl⟩ := hf
  exact wd_in (wd_fl q hq)
theorem lk_ml {o i a : Nat} (h : ck_ml o i a = true) : Jvm.Cond.methodLink (cn o) i (mnm a) ∈ lw_tbl := by
  obtain ⟨q, hq, hf⟩ := ck_any h
  simp only [Bool.and_eq_true, Nat.beq_eq_true_eq] at hf
  obtain ⟨rfl, rfl, rfl⟩ := hf
  exact wd_in (wd_ml q hq)
theorem lk_ol {o i : Nat} (h : ck_ol o i = true) : Jvm.Cond.methodLink (cn o) i objectInit ∈ lw_tbl := by
  obtain ⟨q, hq, hf⟩ := ck_any h
  simp only [Bool.and_eq_true, Nat.beq_eq_true_eq] at hf
  obtain ⟨rfl, rfl⟩ := hf
  exact wd_in (wd_ol q hq)
theorem lk_cl {o i a : Nat} (h : ck_cl o i a = true) : Jvm.Cond.classLink (cn o) i (cn a) ∈ lw_tbl := by
  obtain ⟨q, hq, hf⟩ := ck_any h
  simp only [Bool.and_eq_true, Nat.beq_eq_true_eq] at hf
  obtain ⟨rfl, rfl, rfl⟩ := hf
  exact wd_in (wd_cl q hq)
theorem lk_ki {o i : Nat} {v : Int32} (h : ck_ki o i v = true) : Jvm.Cond.constant (cn o) i v ∈ lw_tbl := by
  obtain ⟨q, hq, hf⟩ := ck_any h
  simp only [Bool.and_eq_true, Nat.beq_eq_true_eq, decide_eq_true_eq] at hf
  obtain ⟨rfl, rfl, rfl⟩ := hf
  exact wd_in (wd_ki q hq)
theorem lk_kl {o i a : Nat} (h : ck_kl o i a = true) : Jvm.Cond.constantLong (cn o) i (lkc a) ∈ lw_tbl := by
  obtain ⟨q, hq, hf⟩ := ck_any h
  simp only [Bool.and_eq_true, Nat.beq_eq_true_eq] at hf
  obtain ⟨rfl, rfl, rfl⟩ := hf
  exact wd_in (wd_kl q hq)
/-- a method's words: its code, and all words of the tables -/
def mws (y : Nat) : List Jvm.Cond := .code (mnm y) (mby y) (mxl y) (mrt y) :: lw_tbl
theorem mws_good {y y' : Nat} (h : y' < 332) : GoodIn (mws y) (mws y') := by
  intro c hc
  have hc : c ∈ lw_tbl := by
    rcases List.mem_cons.mp hc with rfl | hc
    · exact wd_in (wd_code y' h)
    · exact hc
  exact ⟨List.mem_cons_of_mem _ hc, good_of_word (List.all_eq_true.mp wd_good c hc)⟩
theorem tbl_good {y' : Nat} (h : y' < 332) : GoodIn lw_tbl (mws y') := by
  intro c hc
  have hc : c ∈ lw_tbl := by
    rcases List.mem_cons.mp hc with rfl | hc
    · exact wd_in (wd_code y' h)
    · exact hc
  exact ⟨hc, good_of_word (List.all_eq_true.mp wd_good c hc)⟩
