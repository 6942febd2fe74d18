/-! ===== the reference's fineOf, fine, broken, partOn ===== -/
def rmC (I : mI) (a : Nat) : Nat := (I 37 a).toNatClampNeg
def crC (I : mI) (p : Nat) : Nat := (I 49 p).toNatClampNeg
def cwC (I : mI) (p : Nat) : Nat := (I 52 p).toNatClampNeg
/-- what the reference's memory is like -/
def MJ (sh : Nat → Option mSh) (I : mI) (P : mP) (n ng nl nf : Nat) : Prop := MW sh P ∧ (I 35 0 = nI n ∧ n ≤ 12) ∧ (I 35 32 = nI ng ∧ ng ≤ 40) ∧ (I 35 33 = nI nl ∧ nl ≤ 30 ∧ LkOk I nl) ∧ (I 35 31 = nI nf ∧ nf ≤ 20) ∧ (∀ a, a < n → I 37 a = nI (rmC I a) ∧ rmC I a ≤ 12 ∧ ∀ r, r < rmC I a → ∃ w, w < 8 ∧ I 41 (12 * a + r) = nI w) ∧ (∀ g, g < ng → ∃ s, s < 16 ∧ I 58 g = nI s) ∧ (∀ p, p < 30 → I 49 p = nI (crC I p) ∧ crC I p ≤ 12 ∧ I 52 p = nI (cwC I p) ∧ cwC I p ≤ 4)
def pRk (I : mI) (p : Nat) (day : Int32) : Int32 := mRk I (crC I p) p day
def pOc (I : mI) (nf p : Nat) (day : Int32) : Int32 := mOcc I (cwC I p) nf p day
def pBo (I : mI) (n nl a : Nat) (rank occ : Int32) (g : Nat) (day : Int32) : Int32 := qBo I n nl a rank occ g day (rmC I a)
def pFs (I : mI) (a : Nat) (set : Int32) (r : Nat) : Int32 := if bit set r then I 46 (12 * a + r) else 0
def pPn (I : mI) (n nl a : Nat) (rank occ : Int32) (g : Nat) (day : Int32) : Int32 := sumF (pFs I a (pBo I n nl a rank occ g day)) (rmC I a)
def pFi (I : mI) (n nl nf p g : Nat) (day : Int32) : Int32 := sumF (fun a => pPn I n nl a (pRk I p day) (pOc I nf p day) g day) n * minF 5 (1 + I 64 p)
def pPt (I : mI) (n : Nat) (day : Int32) : Nat → Int32 := ptF (qInF I n day) (I 39)
theorem and1_c (x : Int32) : x &&& 1 = 0 ∨ x &&& 1 = 1 := by
  have h : (x &&& 1).toBitVec = (BitVec.ofBool (x.toBitVec.getLsbD 0)).setWidth 32 := by
    rw [Int32.toBitVec_and]; exact BitVec.and_one_eq_setWidth_ofBool_getLsbD
  rw [← Int32.toBitVec_inj, ← Int32.toBitVec_inj, h]
  cases x.toBitVec.getLsbD 0 <;> decide
theorem shr0_bit {x : Int32} {j : Nat} (h : j < 32) : (x >>> (nI j &&& 31)) &&& 1 = 0 ↔ bit x j = false := by
  cases hb : bit x j with
  | true => rw [(shr_bit h).mpr hb]; exact ⟨(fun h => absurd h (by decide)), (fun h => absurd h (by decide))⟩
  | false =>
    refine ⟨fun _ => rfl, fun _ => ?_⟩
    rcases and1_c (x >>> (nI j &&& 31)) with e | e
    · exact e
    · rw [(shr_bit h).mp e] at hb; cases hb
theorem shr_mul {x y : Int32} {r : Nat} (h : r < 32) : ((x >>> (nI r &&& 31)) &&& 1) * y = if bit x r then y else 0 := by
  cases hb : bit x r with
  | true => rw [(shr_bit h).mpr hb, Int32.one_mul]; rfl
  | false => rw [(shr0_bit h).mpr hb, Int32.zero_mul]; rfl
section MI
variable {X : mX} {B nx : Nat} {sh : Nat → Option mSh} {I : mI} {P : mP} {n ng nl nf : Nat}
theorem x_rankOf {p : Nat} {day : Int32} (hJ : MJ sh I P n ng nl nf) (hp : p < 30) : Ev X B mdX12_rankOf 0 0 [.ref (B + 35), .int (nI p), .int day] nx sh I P (mDet (some (.int (pRk I p day))) nx sh I P) := by
  obtain ⟨hV, -, -, -, -, -, -, h⟩ := hJ
  exact e_X12_rankOf hV hp (h p hp).1 (h p hp).2.1
theorem x_occasionOf {p : Nat} {day : Int32} (hJ : MJ sh I P n ng nl nf) (hp : p < 30) : Ev X B mdX12_occasionOf 0 0 [.ref (B + 35), .int (nI p), .int day] nx sh I P (mDet (some (.int (pOc I nf p day))) nx sh I P) := by
  obtain ⟨hV, -, -, -, h5, -, -, h⟩ := hJ
  exact e_X12_occasionOf hV h5.1 h5.2 hp (h p hp).2.2.1 (h p hp).2.2.2
theorem x_brokenOf {a g : Nat} {rank occ day : Int32} (hJ : MJ sh I P n ng nl nf) (ha : a < n) (hg : g < ng) : Ev X B mdX12_brokenOf 0 0 [.ref (B + 35), .int (nI a), .int rank, .int occ, .int (nI g), .int day] nx sh I P (mDet (some (.int (pBo I n nl a rank occ g day))) nx sh I P) := by
  obtain ⟨hV, h2, h3, h4, -, h6, h7, -⟩ := hJ
  obtain ⟨s, s1, s2⟩ := h7 g hg
  exact e_X12_brokenOf hV h2.1 h2.2 h4.1 h4.2.1 h4.2.2 ha (h6 a ha).1 (h6 a ha).2.1 (h6 a ha).2.2 (by omega) s2 s1
theorem x_binds {a r g : Nat} {rank occ day : Int32} (hJ : MJ sh I P n ng nl nf) (ha : a < n) (hr : r < 12) (hg : g < ng) : Ev X B mdX12_binds 0 0 [.ref (B + 35), .int (nI a), .int (nI r), .int rank, .int occ, .int (nI g), .int day] nx sh I P (mDet (some (.int (bI (qBi I n a (12 * a + r) rank occ g day)))) nx sh I P) := by
  obtain ⟨hV, h2, h3, -⟩ := hJ
  exact e_X12_binds hV h2.1 h2.2 ha hr (by omega)
theorem x_isCase {p g d : Int32} (hJ : MJ sh I P n ng nl nf) : Ev X B mdX12_isCase 0 0 [.ref (B + 35), .int p, .int g, .int d] nx sh I P (mDet (some (.int (bI (inB p 30 && inB g ng && inB d 10000)))) nx sh I P) := e_X12_isCase hJ.1 hJ.2.2.1.1 (by have := hJ.2.2.1.2; omega)
theorem l2_X12_fineOf {G : mG} {p g i : Nat} {day s : Int32} (hJ : MJ sh I P n ng nl nf) (hi : i < n) (set : Int32)
    (next : ∀ x7 : Option Value, V X B RX12 cX12_fineOf G 0 0 nx sh I P 6 [some (.ref (B + 35)), some (.int (nI p)), some (.int (nI g)), some (.int day), some (.int (s + sumF (pFs I i set) (rmC I i))), some (.int (nI (i + 1))), some (.int set), x7] []) : ∀ (z r : Nat), r ≤ rmC I i → rmC I i - r < z → V X B RX12 cX12_fineOf G 0 0 nx sh I P 40 [some (.ref (B + 35)), some (.int (nI p)), some (.int (nI g)), some (.int day), some (.int (s + sumF (pFs I i set) r)), some (.int (nI i)), some (.int set), some (.int (nI r))] [] := by
  have hV := hJ.1
  have hn2 := hJ.2.1.2
  obtain ⟨hm, hm2, -⟩ := hJ.2.2.2.2.2.1 i hi
  have s35 : sh 35 = some (.inl 12) := hV.1 35 _ rfl
  have s_ruleMany : sh 37 = some (.inr (0, 13)) := hV.1 37 _ rfl
  have p_ruleMany : P 35 2 = some 37 := hV.2 2 37 rfl
  have s_fine : sh 46 = some (.inr (0, 156)) := hV.1 46 _ rfl
  have p_fine : P 35 11 = some 46 := hV.2 11 46 rfl
  intro z
  induction z with
  | zero => intro r _ h; omega
  | succ z ih =>
    intro r hr hz
    refine V_il dX12_fineOf_40 rfl ?_
    refine V_aln dX12_fineOf_42 rfl ?_
    refine V_getR dX12_fineOf_43 flX12_88 (by assumption) rfl (by assumption) ?_
    refine V_il dX12_fineOf_46 rfl ?_
    refine V_ialdNv dX12_fineOf_48 (by assumption) (by omega) (by omega) (hm) ?_
    refine V_icmp_ge (tgt := 84) dX12_fineOf_49 rfl (fun c49 => ?_) (fun c49 => ?_)
    · have c49 := nN_le c49 (by omega) (by omega)
      obtain rfl : r = rmC I i := by omega
      refine V_inc5 dX12_fineOf_84 ?_
      refine V_goto (tgt := 6) dX12_fineOf_87 rfl ?_
      rw [nI_inc]
      exact next _
    · have c49 := nN_nle c49 (by omega) (by omega)
      refine V_il dX12_fineOf_52 rfl ?_
      refine V_il dX12_fineOf_54 rfl ?_
      refine V_il dX12_fineOf_56 rfl ?_
      refine V_ishr dX12_fineOf_58 ?_
      refine V_iconst (v := 1) rfl dX12_fineOf_59 ?_
      refine V_iand dX12_fineOf_60 ?_
      refine V_aln dX12_fineOf_61 rfl ?_
      refine V_getR dX12_fineOf_62 flX12_161 (by assumption) rfl (by assumption) ?_
      refine V_bipush (v := 12) rfl dX12_fineOf_65 ?_
      refine V_il dX12_fineOf_67 rfl ?_
      refine V_imul dX12_fineOf_69 ?_
      refine V_il dX12_fineOf_70 rfl ?_
      refine V_iadd dX12_fineOf_72 ?_
      refine V_top (nI_12 i r) ?_
      refine V_ialdN dX12_fineOf_73 (by assumption) (by omega) (by omega) ?_
      refine V_imul dX12_fineOf_74 ?_
      refine V_top (shr_mul (by omega)) ?_
      refine V_iadd dX12_fineOf_75 ?_
      refine V_is4 dX12_fineOf_76 ?_
      refine V_inc7 dX12_fineOf_78 ?_
      refine V_goto (tgt := 40) dX12_fineOf_81 rfl ?_
      refine V_ls ?_ (ih (r + 1) (by omega) (by omega))
      rw [nI_inc, sumF, ← Int32.add_assoc]
      rfl
theorem l_X12_fineOf {G : mG} {p g : Nat} {day : Int32} (hJ : MJ sh I P n ng nl nf) (hp : p < 30) (hg : g < ng) (hM : mM X B "fineOf" (some .int) 3 79 0 0 (mDet (some (.int (pFi I n nl nf p g day))) nx sh I P) G) : ∀ (z i : Nat) (x6 x7 : Option Value), i ≤ n → n - i < z → V X B RX12 cX12_fineOf G 0 0 nx sh I P 6 [some (.ref (B + 35)), some (.int (nI p)), some (.int (nI g)), some (.int day), some (.int (sumF (fun a => pPn I n nl a (pRk I p day) (pOc I nf p day) g day) i)), some (.int (nI i)), x6, x7] [] := by
  have hV := hJ.1
  have hn := hJ.2.1.1
  have hn2 := hJ.2.1.2
  have s35 : sh 35 = some (.inl 12) := hV.1 35 _ rfl
  have s_convicted : sh 64 = some (.inr (0, 30)) := hV.1 64 _ rfl
  have p_convicted : P 35 41 = some 64 := hV.2 41 64 rfl
  intro z
  induction z with
  | zero => intro i _ _ _ h; omega
  | succ z ih =>
    intro i x6 x7 hi hz
    refine V_il dX12_fineOf_6 rfl ?_
    refine V_aln dX12_fineOf_8 rfl ?_
    refine V_getIv dX12_fineOf_9 flX12_118 (by assumption) rfl (hn) ?_
    refine V_icmp_ge (tgt := 90) dX12_fineOf_12 rfl (fun c12 => ?_) (fun c12 => ?_)
    · have c12 := nN_le c12 (by omega) (by omega)
      obtain rfl : i = n := by omega
      refine V_il dX12_fineOf_90 rfl ?_
      refine V_iconst (v := 5) rfl dX12_fineOf_92 ?_
      refine V_iconst (v := 1) rfl dX12_fineOf_93 ?_
      refine V_aln dX12_fineOf_94 rfl ?_
      refine V_getR dX12_fineOf_95 flX12_217 (by assumption) rfl (by assumption) ?_
      refine V_iln dX12_fineOf_98 rfl ?_
      refine V_ialdN dX12_fineOf_99 (by assumption) (by omega) (by omega) ?_
      refine V_iadd dX12_fineOf_100 ?_
      refine V_min hM lkX12_324 wM1_min wM3 wM2_min (Nat.le_of_ble_eq_true rfl) (Nat.le_of_ble_eq_true rfl) (Nat.le_of_ble_eq_true rfl) (Nat.le_of_ble_eq_true rfl) dX12_fineOf_101 ?_
      refine V_imul dX12_fineOf_104 ?_
      exact V_iret hM dX12_fineOf_105 (mDet.rf)
    · have c12 := nN_nle c12 (by omega) (by omega)
      refine V_aln dX12_fineOf_15 rfl ?_
      refine V_il dX12_fineOf_16 rfl ?_
      refine V_aln dX12_fineOf_18 rfl ?_
      refine V_iln dX12_fineOf_19 rfl ?_
      refine V_iln dX12_fineOf_20 rfl ?_
      refine V_cV2d hM cvX12_285 (by assumption) rfl (x_rankOf hJ hp) ⟨Nat.le_of_ble_eq_true rfl, Nat.le_of_ble_eq_true rfl, Nat.le_of_ble_eq_true rfl, Nat.le_of_ble_eq_true rfl⟩ (Nat.le_of_ble_eq_true rfl) dX12_fineOf_21 ?_
      refine V_aln dX12_fineOf_24 rfl ?_
      refine V_iln dX12_fineOf_25 rfl ?_
      refine V_iln dX12_fineOf_26 rfl ?_
      refine V_cV2d hM cvX12_288 (by assumption) rfl (x_occasionOf hJ hp) ⟨Nat.le_of_ble_eq_true rfl, Nat.le_of_ble_eq_true rfl, Nat.le_of_ble_eq_true rfl, Nat.le_of_ble_eq_true rfl⟩ (Nat.le_of_ble_eq_true rfl) dX12_fineOf_27 ?_
      refine V_iln dX12_fineOf_30 rfl ?_
      refine V_iln dX12_fineOf_31 rfl ?_
      refine V_cV5d hM cvX12_320 (by assumption) rfl (x_brokenOf hJ c12 hg) ⟨Nat.le_of_ble_eq_true rfl, Nat.le_of_ble_eq_true rfl, Nat.le_of_ble_eq_true rfl, Nat.le_of_ble_eq_true rfl⟩ (Nat.le_of_ble_eq_true rfl) dX12_fineOf_32 ?_
      refine V_is6 dX12_fineOf_35 ?_
      refine V_iconst (v := 0) rfl dX12_fineOf_37 ?_
      refine V_is7 dX12_fineOf_38 ?_
      refine V_ls ?_ (l2_X12_fineOf hJ c12 (pBo I n nl i (pRk I p day) (pOc I nf p day) g day) (fun x7 => ih (i + 1) _ x7 (by omega) (by omega)) (rmC I i + 1) 0 (by omega) (by omega))
      rw [show sumF (pFs I i (pBo I n nl i (pRk I p day) (pOc I nf p day) g day)) 0 = 0 from rfl, Int32.add_zero]
      rfl
theorem x_fineOf {p g : Nat} {day : Int32} (hJ : MJ sh I P n ng nl nf) (hp : p < 30) (hg : g < ng) : Ev X B mdX12_fineOf 0 0 [.ref (B + 35), .int (nI p), .int (nI g), .int day] nx sh I P (mDet (some (.int (pFi I n nl nf p g day))) nx sh I P) := by
  refine Ev.of (by decide) (by simp [Value.category]) (by simp) (fun G hM => ?_)
  have hM : mM X B "fineOf" (some FieldType.int) 3 79 0 0 _ G := hM
  show V X B RX12 cX12_fineOf G 0 0 nx sh I P 0 [some (.ref (B + 35)), some (.int (nI p)), some (.int (nI g)), some (.int day), none, none, none, none] []
  refine V_iconst (v := 0) rfl dX12_fineOf_0 ?_
  refine V_is4 dX12_fineOf_1 ?_
  refine V_iconst (v := 0) rfl dX12_fineOf_3 ?_
  refine V_is5 dX12_fineOf_4 ?_
  exact l_X12_fineOf hJ hp hg hM (n + 1) 0 _ _ (by omega) (by omega)
theorem x_fine {p g : Nat} {day : Int32} (hJ : MJ sh I P n ng nl nf) (hp : p < 30) (hg : g < ng) (hd : inB day 10000 = true) : Ev X B mdX12_fine 0 0 [.ref (B + 35), .int (nI p), .int (nI g), .int day] nx sh I P (mDet (some (.int (pFi I n nl nf p g day))) nx sh I P) := by
  have hV := hJ.1
  have hg2 := hJ.2.2.1.2
  have s35 : sh 35 = some (.inl 12) := hV.1 35 _ rfl
  refine Ev.of (by decide) (by simp [Value.category]) (by simp) (fun G hM => ?_)
  have hM : mM X B "fine" (some FieldType.int) 4 106 0 0 _ G := hM
  show V X B RX12 cX12_fine G 0 0 nx sh I P 0 [some (.ref (B + 35)), some (.int (nI p)), some (.int (nI g)), some (.int day)] []
  refine V_aln dX12_fine_0 rfl ?_
  refine V_iln dX12_fine_1 rfl ?_
  refine V_iln dX12_fine_2 rfl ?_
  refine V_iln dX12_fine_3 rfl ?_
  refine V_cV3d hM cvX12_329 (by assumption) rfl (x_isCase hJ) ⟨Nat.le_of_ble_eq_true rfl, Nat.le_of_ble_eq_true rfl, Nat.le_of_ble_eq_true rfl, Nat.le_of_ble_eq_true rfl⟩ (Nat.le_of_ble_eq_true rfl) dX12_fine_4 ?_
  rw [inB_of hp (by omega), inB_of hg (by omega), hd]
  refine V_ifeq_b (tgt := 20) dX12_fine_7 rfl (fun c7 => ?_) (fun c7 => ?_)
  · exact absurd c7 (by decide) --done
  · refine V_aln dX12_fine_10 rfl ?_
    refine V_iln dX12_fine_11 rfl ?_
    refine V_iln dX12_fine_12 rfl ?_
    refine V_iln dX12_fine_13 rfl ?_
    refine V_cV3d hM cvX12_333 (by assumption) rfl (x_fineOf hJ hp hg) ⟨Nat.le_of_ble_eq_true rfl, Nat.le_of_ble_eq_true rfl, Nat.le_of_ble_eq_true rfl, Nat.le_of_ble_eq_true rfl⟩ (Nat.le_of_ble_eq_true rfl) dX12_fine_14 ?_
    refine V_goto (tgt := 22) dX12_fine_17 rfl ?_
    exact V_iret hM dX12_fine_22 (mDet.rf)
theorem x_fineN {p g day : Int32} (hJ : MJ sh I P n ng nl nf) (hx : (inB p 30 && inB g ng && inB day 10000) = false) : Ev X B mdX12_fine 0 0 [.ref (B + 35), .int p, .int g, .int day] nx sh I P (mDet (some (.int (-2))) nx sh I P) := by
  have hV := hJ.1
  have s35 : sh 35 = some (.inl 12) := hV.1 35 _ rfl
  refine Ev.of (by decide) (by simp [Value.category]) (by simp) (fun G hM => ?_)
  have hM : mM X B "fine" (some FieldType.int) 4 106 0 0 _ G := hM
  show V X B RX12 cX12_fine G 0 0 nx sh I P 0 [some (.ref (B + 35)), some (.int p), some (.int g), some (.int day)] []
  refine V_aln dX12_fine_0 rfl ?_
  refine V_iln dX12_fine_1 rfl ?_
  refine V_iln dX12_fine_2 rfl ?_
  refine V_iln dX12_fine_3 rfl ?_
  refine V_cV3d hM cvX12_329 (by assumption) rfl (x_isCase hJ) ⟨Nat.le_of_ble_eq_true rfl, Nat.le_of_ble_eq_true rfl, Nat.le_of_ble_eq_true rfl, Nat.le_of_ble_eq_true rfl⟩ (Nat.le_of_ble_eq_true rfl) dX12_fine_4 ?_
  rw [hx]
  refine V_ifeq_b (tgt := 20) dX12_fine_7 rfl (fun c7 => ?_) (fun c7 => ?_)
  · refine V_bipush (v := -2) rfl dX12_fine_20 ?_
    exact V_iret hM dX12_fine_22 (mDet.rf)
  · exact absurd c7 (by decide) --done
theorem x_broken {p g a : Nat} {day : Int32} (hJ : MJ sh I P n ng nl nf) (hp : p < 30) (hg : g < ng) (hd : inB day 10000 = true) (ha : a < n) : Ev X B mdX12_broken 0 0 [.ref (B + 35), .int (nI p), .int (nI g), .int day, .int (nI a)] nx sh I P (mDet (some (.int (pBo I n nl a (pRk I p day) (pOc I nf p day) g day))) nx sh I P) := by
  have hV := hJ.1
  have hg2 := hJ.2.2.1.2
  have hn2 := hJ.2.1.2
  have s35 : sh 35 = some (.inl 12) := hV.1 35 _ rfl
  refine Ev.of (by decide) (by simp [Value.category]) (by simp) (fun G hM => ?_)
  have hM : mM X B "broken" (some FieldType.int) 3 79 0 0 _ G := hM
  show V X B RX12 cX12_broken G 0 0 nx sh I P 0 [some (.ref (B + 35)), some (.int (nI p)), some (.int (nI g)), some (.int day), some (.int (nI a))] []
  refine V_aln dX12_broken_0 rfl ?_
  refine V_iln dX12_broken_1 rfl ?_
  refine V_iln dX12_broken_2 rfl ?_
  refine V_iln dX12_broken_3 rfl ?_
  refine V_cV3d hM cvX12_329 (by assumption) rfl (x_isCase hJ) ⟨Nat.le_of_ble_eq_true rfl, Nat.le_of_ble_eq_true rfl, Nat.le_of_ble_eq_true rfl, Nat.le_of_ble_eq_true rfl⟩ (Nat.le_of_ble_eq_true rfl) dX12_broken_4 ?_
  rw [inB_of hp (by omega), inB_of hg (by omega), hd]
  refine V_ifeq_b (tgt := 42) dX12_broken_7 rfl (fun c7 => ?_) (fun c7 => ?_)
  · exact absurd c7 (by decide) --done
  · refine V_aln dX12_broken_10 rfl ?_
    refine V_il dX12_broken_11 rfl ?_
    refine V_cV1d hM cvX12_265 (by assumption) rfl (e_X12_isAct hV hJ.2.1.1 (by omega)) ⟨Nat.le_of_ble_eq_true rfl, Nat.le_of_ble_eq_true rfl, Nat.le_of_ble_eq_true rfl, Nat.le_of_ble_eq_true rfl⟩ (Nat.le_of_ble_eq_true rfl) dX12_broken_13 ?_
    rw [inB_of ha (by omega)]
    refine V_ifeq_b (tgt := 42) dX12_broken_16 rfl (fun c16 => ?_) (fun c16 => ?_)
    · exact absurd c16 (by decide) --done
    · refine V_aln dX12_broken_19 rfl ?_
      refine V_il dX12_broken_20 rfl ?_
      refine V_aln dX12_broken_22 rfl ?_
      refine V_iln dX12_broken_23 rfl ?_
      refine V_iln dX12_broken_24 rfl ?_
      refine V_cV2d hM cvX12_285 (by assumption) rfl (x_rankOf hJ hp) ⟨Nat.le_of_ble_eq_true rfl, Nat.le_of_ble_eq_true rfl, Nat.le_of_ble_eq_true rfl, Nat.le_of_ble_eq_true rfl⟩ (Nat.le_of_ble_eq_true rfl) dX12_broken_25 ?_
      refine V_aln dX12_broken_28 rfl ?_
      refine V_iln dX12_broken_29 rfl ?_
      refine V_iln dX12_broken_30 rfl ?_
      refine V_cV2d hM cvX12_288 (by assumption) rfl (x_occasionOf hJ hp) ⟨Nat.le_of_ble_eq_true rfl, Nat.le_of_ble_eq_true rfl, Nat.le_of_ble_eq_true rfl, Nat.le_of_ble_eq_true rfl⟩ (Nat.le_of_ble_eq_true rfl) dX12_broken_31 ?_
      refine V_iln dX12_broken_34 rfl ?_
      refine V_iln dX12_broken_35 rfl ?_
      refine V_cV5d hM cvX12_320 (by assumption) rfl (x_brokenOf hJ ha hg) ⟨Nat.le_of_ble_eq_true rfl, Nat.le_of_ble_eq_true rfl, Nat.le_of_ble_eq_true rfl, Nat.le_of_ble_eq_true rfl⟩ (Nat.le_of_ble_eq_true rfl) dX12_broken_36 ?_
      refine V_goto (tgt := 44) dX12_broken_39 rfl ?_
      exact V_iret hM dX12_broken_44 (mDet.rf)
theorem x_brokenN {p g a day : Int32} (hJ : MJ sh I P n ng nl nf) (hx : (inB p 30 && inB g ng && inB day 10000 && inB a n) = false) : Ev X B mdX12_broken 0 0 [.ref (B + 35), .int p, .int g, .int day, .int a] nx sh I P (mDet (some (.int (-2))) nx sh I P) := by
  have hV := hJ.1
  have hn2 := hJ.2.1.2
  have s35 : sh 35 = some (.inl 12) := hV.1 35 _ rfl
  refine Ev.of (by decide) (by simp [Value.category]) (by simp) (fun G hM => ?_)
  have hM : mM X B "broken" (some FieldType.int) 3 79 0 0 _ G := hM
  show V X B RX12 cX12_broken G 0 0 nx sh I P 0 [some (.ref (B + 35)), some (.int p), some (.int g), some (.int day), some (.int a)] []
  refine V_aln dX12_broken_0 rfl ?_
  refine V_iln dX12_broken_1 rfl ?_
  refine V_iln dX12_broken_2 rfl ?_
  refine V_iln dX12_broken_3 rfl ?_
  refine V_cV3d hM cvX12_329 (by assumption) rfl (x_isCase hJ) ⟨Nat.le_of_ble_eq_true rfl, Nat.le_of_ble_eq_true rfl, Nat.le_of_ble_eq_true rfl, Nat.le_of_ble_eq_true rfl⟩ (Nat.le_of_ble_eq_true rfl) dX12_broken_4 ?_
  refine V_ifeq_b (tgt := 42) dX12_broken_7 rfl (fun c7 => ?_) (fun c7 => ?_)
  · refine V_bipush (v := -2) rfl dX12_broken_42 ?_
    exact V_iret hM dX12_broken_44 (mDet.rf)
  · refine V_aln dX12_broken_10 rfl ?_
    refine V_il dX12_broken_11 rfl ?_
    refine V_cV1d hM cvX12_265 (by assumption) rfl (e_X12_isAct hV hJ.2.1.1 (by omega)) ⟨Nat.le_of_ble_eq_true rfl, Nat.le_of_ble_eq_true rfl, Nat.le_of_ble_eq_true rfl, Nat.le_of_ble_eq_true rfl⟩ (Nat.le_of_ble_eq_true rfl) dX12_broken_13 ?_
    refine V_ifeq_b (tgt := 42) dX12_broken_16 rfl (fun c16 => ?_) (fun c16 => ?_)
    · refine V_bipush (v := -2) rfl dX12_broken_42 ?_
      exact V_iret hM dX12_broken_44 (mDet.rf)
    · exact absurd hx (by rw [c7, c16]; decide) --done
theorem l_X12_partOn {G : mG} {day : Int32} (hJ : MJ sh I P n ng nl nf) (hM : mM X B "partOn" (some .int) 1 23 0 0 (mDet (some (.int (pPt I n day n))) nx sh I P) G) : ∀ (z i : Nat), i ≤ n → n - i < z → V X B RX12 cX12_partOn G 0 0 nx sh I P 4 [some (.ref (B + 35)), some (.int day), some (.int (pPt I n day i)), some (.int (nI i))] [] := by
  have hV := hJ.1
  have hn := hJ.2.1.1
  have hn2 := hJ.2.1.2
  have s35 : sh 35 = some (.inl 12) := hV.1 35 _ rfl
  have s_part : sh 39 = some (.inr (0, 13)) := hV.1 39 _ rfl
  have p_part : P 35 4 = some 39 := hV.2 4 39 rfl
  intro z
  induction z with
  | zero => intro i _ h; omega
  | succ z ih =>
    intro i hi hz
    refine V_iln dX12_partOn_4 rfl ?_
    refine V_aln dX12_partOn_5 rfl ?_
    refine V_getIv dX12_partOn_6 flX12_118 (by assumption) rfl (hn) ?_
    refine V_icmp_ge (tgt := 44) dX12_partOn_9 rfl (fun c9 => ?_) (fun c9 => ?_)
    · have c9 := nN_le c9 (by omega) (by omega)
      obtain rfl : i = n := by omega
      refine V_iln dX12_partOn_44 rfl ?_
      exact V_iret hM dX12_partOn_45 (mDet.rf)
    · have c9 := nN_nle c9 (by omega) (by omega)
      refine V_aln dX12_partOn_12 rfl ?_
      refine V_getR dX12_partOn_13 flX12_95 (by assumption) rfl (by assumption) ?_
      refine V_iln dX12_partOn_16 rfl ?_
      refine V_ialdN dX12_partOn_17 (by assumption) (by omega) (by omega) ?_
      refine V_iconst (v := -1) rfl dX12_partOn_18 ?_
      refine V_icmp_eq (tgt := 38) dX12_partOn_19 rfl (fun c19 => ?_) (fun c19 => ?_)
      · refine V_inc3 dX12_partOn_38 ?_
        refine V_goto (tgt := 4) dX12_partOn_41 rfl ?_
        refine V_ls ?_ (ih (i + 1) (by omega) (by omega))
        simp [nI_inc, nI_inc', pPt, ptF, c9, c19]
      · refine V_aln dX12_partOn_22 rfl ?_
        refine V_iln dX12_partOn_23 rfl ?_
        refine V_iln dX12_partOn_24 rfl ?_
        refine V_cV2d hM cvX12_268 (by assumption) rfl (e_X12_isInForce hV hn hn2 (by omega)) ⟨Nat.le_of_ble_eq_true rfl, Nat.le_of_ble_eq_true rfl, Nat.le_of_ble_eq_true rfl, Nat.le_of_ble_eq_true rfl⟩ (Nat.le_of_ble_eq_true rfl) dX12_partOn_25 ?_
        refine V_ifeq_b (tgt := 38) dX12_partOn_28 rfl (fun c28 => ?_) (fun c28 => ?_)
        · refine V_inc3 dX12_partOn_38 ?_
          refine V_goto (tgt := 4) dX12_partOn_41 rfl ?_
          refine V_ls ?_ (ih (i + 1) (by omega) (by omega))
          simp [nI_inc, nI_inc', pPt, ptF, c9, c19, c28]
        · refine V_aln dX12_partOn_31 rfl ?_
          refine V_getR dX12_partOn_32 flX12_95 (by assumption) rfl (by assumption) ?_
          refine V_iln dX12_partOn_35 rfl ?_
          refine V_ialdN dX12_partOn_36 (by assumption) (by omega) (by omega) ?_
          refine V_is2 dX12_partOn_37 ?_
          refine V_inc3 dX12_partOn_38 ?_
          refine V_goto (tgt := 4) dX12_partOn_41 rfl ?_
          refine V_ls ?_ (ih (i + 1) (by omega) (by omega))
          simp [nI_inc, nI_inc', pPt, ptF, c9, c19, c28]
theorem x_partOn {day : Int32} (hJ : MJ sh I P n ng nl nf) : Ev X B mdX12_partOn 0 0 [.ref (B + 35), .int day] nx sh I P (mDet (some (.int (pPt I n day n))) nx sh I P) := by
  refine Ev.of (by decide) (by simp [Value.category]) (by simp) (fun G hM => ?_)
  have hM : mM X B "partOn" (some FieldType.int) 1 23 0 0 _ G := hM
  show V X B RX12 cX12_partOn G 0 0 nx sh I P 0 [some (.ref (B + 35)), some (.int day), none, none] []
  refine V_iconst (v := 0) rfl dX12_partOn_0 ?_
  refine V_is2 dX12_partOn_1 ?_
  refine V_iconst (v := 0) rfl dX12_partOn_2 ?_
  refine V_is3 dX12_partOn_3 ?_
  exact l_X12_partOn hJ hM (n + 1) 0 (by omega) (by omega)
end MI
