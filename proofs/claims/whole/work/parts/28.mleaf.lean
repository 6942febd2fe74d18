/-! ===== the reference's leaves ===== -/
theorem spJ {a b : Int32} {c : Int64} (h : c.toInt = 9999) (ha : inB a 10000 = true) : (decide (a.toInt64 ≤ b.toInt64) && decide (b.toInt64 ≤ c)) = (inB b 10000 && decide (a ≤ b)) := by
  have h1 := inB_iff.mp ha
  have e1 : decide (a.toInt64 ≤ b.toInt64) = decide (a ≤ b) := decide_eq_decide.mpr (i64_le a b)
  rw [e1]
  by_cases hl : a ≤ b
  · have hl2 := Int32.le_iff_toInt_le.mp hl
    rw [decide_eq_true hl, Bool.true_and, Bool.and_true]
    unfold inB
    rw [decide_eq_true (show 0 ≤ b.toInt by omega), Bool.true_and, decide_eq_decide, Int64.le_iff_toInt_le, Int32.toInt_toInt64, h]
    omega
  · rw [decide_eq_false hl, Bool.false_and, Bool.and_false]
def wrM (I : mI) (k : Int32) : mI := mUp (mUp I 35 20 k) 35 21 (I 35 16)
/-- the byte at a place, 0 outside -/
def t0B (f : Nat → Int32) (m i : Nat) : Int32 := if i < m then f i &&& 255 else 0
section MF
variable {X : mX} {B nx : Nat} {sh : Nat → Option mSh} {I : mI} {P : mP}
theorem e_X12_isDay {d : Int32} : Ev X B mdX12_isDay 0 0 [.int d] nx sh I P (mDet (some (.int (bI (inB d 10000)))) nx sh I P) := by
  refine Ev.of (by decide) (by simp [Value.category]) (by simp) (fun G hM => ?_)
  have hM : mM X B "isDay" (some FieldType.boolean) 1 25 0 0 _ G := hM
  show V X B RX12 cX12_isDay G 0 0 nx sh I P 0 [some (.int d)] []
  refine V_iln dX12_isDay_0 rfl ?_
  refine V_i2l dX12_isDay_1 ?_
  refine V_lconst (v := 0) rfl dX12_isDay_2 ?_
  refine V_ldc2 kjX12_3 dX12_isDay_3 ?_
  refine V_cS3d hM cvX12_5 (e_X12_in) ⟨Nat.le_of_ble_eq_true rfl, Nat.le_of_ble_eq_true rfl, Nat.le_of_ble_eq_true rfl, Nat.le_of_ble_eq_true rfl⟩ (Nat.le_of_ble_eq_true rfl) dX12_isDay_6 ?_
  rw [inJ (n := 10000) (by decide)]
  exact V_zret hM (by first | exact Or.inl rfl | exact Or.inr rfl | exact bI_01 _) dX12_isDay_9 (mDet.rf)
theorem e_X12_isPerson {d : Int32} : Ev X B mdX12_isPerson 0 0 [.int d] nx sh I P (mDet (some (.int (bI (inB d 30)))) nx sh I P) := by
  refine Ev.of (by decide) (by simp [Value.category]) (by simp) (fun G hM => ?_)
  have hM : mM X B "isPerson" (some FieldType.boolean) 1 25 0 0 _ G := hM
  show V X B RX12 cX12_isPerson G 0 0 nx sh I P 0 [some (.int d)] []
  refine V_iln dX12_isPerson_0 rfl ?_
  refine V_i2l dX12_isPerson_1 ?_
  refine V_lconst (v := 0) rfl dX12_isPerson_2 ?_
  refine V_ldc2 kjX12_272 dX12_isPerson_3 ?_
  refine V_cS3d hM cvX12_5 (e_X12_in) ⟨Nat.le_of_ble_eq_true rfl, Nat.le_of_ble_eq_true rfl, Nat.le_of_ble_eq_true rfl, Nat.le_of_ble_eq_true rfl⟩ (Nat.le_of_ble_eq_true rfl) dX12_isPerson_6 ?_
  rw [inJ (n := 30) (by decide)]
  exact V_zret hM (by first | exact Or.inl rfl | exact Or.inr rfl | exact bI_01 _) dX12_isPerson_9 (mDet.rf)
theorem e_X12_isStuff {d : Int32} : Ev X B mdX12_isStuff 0 0 [.int d] nx sh I P (mDet (some (.int (bI (inB d 16)))) nx sh I P) := by
  refine Ev.of (by decide) (by simp [Value.category]) (by simp) (fun G hM => ?_)
  have hM : mM X B "isStuff" (some FieldType.boolean) 1 25 0 0 _ G := hM
  show V X B RX12 cX12_isStuff G 0 0 nx sh I P 0 [some (.int d)] []
  refine V_iln dX12_isStuff_0 rfl ?_
  refine V_i2l dX12_isStuff_1 ?_
  refine V_lconst (v := 0) rfl dX12_isStuff_2 ?_
  refine V_ldc2 kjX12_291 dX12_isStuff_3 ?_
  refine V_cS3d hM cvX12_5 (e_X12_in) ⟨Nat.le_of_ble_eq_true rfl, Nat.le_of_ble_eq_true rfl, Nat.le_of_ble_eq_true rfl, Nat.le_of_ble_eq_true rfl⟩ (Nat.le_of_ble_eq_true rfl) dX12_isStuff_6 ?_
  rw [inJ (n := 16) (by decide)]
  exact V_zret hM (by first | exact Or.inl rfl | exact Or.inr rfl | exact bI_01 _) dX12_isStuff_9 (mDet.rf)
theorem e_X12_isAct {n : Nat} {d : Int32} (hV : MW sh P) (hn : I 35 0 = nI n) (hn2 : n < 2 ^ 31) : Ev X B mdX12_isAct 0 0 [.ref (B + 35), .int d] nx sh I P (mDet (some (.int (bI (inB d n)))) nx sh I P) := by
  have s35 : sh 35 = some (.inl 12) := hV.1 35 _ rfl
  refine Ev.of (by decide) (by simp [Value.category]) (by simp) (fun G hM => ?_)
  have hM : mM X B "isAct" (some FieldType.boolean) 1 25 0 0 _ G := hM
  show V X B RX12 cX12_isAct G 0 0 nx sh I P 0 [some (.ref (B + 35)), some (.int d)] []
  refine V_iln dX12_isAct_0 rfl ?_
  refine V_i2l dX12_isAct_1 ?_
  refine V_lconst (v := 0) rfl dX12_isAct_2 ?_
  refine V_aln dX12_isAct_3 rfl ?_
  refine V_getIv dX12_isAct_4 flX12_118 (by assumption) rfl (hn) ?_
  refine V_i2l dX12_isAct_7 ?_
  refine V_lconst (v := 1) rfl dX12_isAct_8 ?_
  refine V_lsub dX12_isAct_9 ?_
  refine V_cS3d hM cvX12_5 (e_X12_in) ⟨Nat.le_of_ble_eq_true rfl, Nat.le_of_ble_eq_true rfl, Nat.le_of_ble_eq_true rfl, Nat.le_of_ble_eq_true rfl⟩ (Nat.le_of_ble_eq_true rfl) dX12_isAct_10 ?_
  rw [inJ (n64 hn2)]
  exact V_zret hM (by first | exact Or.inl rfl | exact Or.inr rfl | exact bI_01 _) dX12_isAct_13 (mDet.rf)
theorem e_X12_isGown {n : Nat} {d : Int32} (hV : MW sh P) (hn : I 35 32 = nI n) (hn2 : n < 2 ^ 31) : Ev X B mdX12_isGown 0 0 [.ref (B + 35), .int d] nx sh I P (mDet (some (.int (bI (inB d n)))) nx sh I P) := by
  have s35 : sh 35 = some (.inl 12) := hV.1 35 _ rfl
  refine Ev.of (by decide) (by simp [Value.category]) (by simp) (fun G hM => ?_)
  have hM : mM X B "isGown" (some FieldType.boolean) 1 25 0 0 _ G := hM
  show V X B RX12 cX12_isGown G 0 0 nx sh I P 0 [some (.ref (B + 35)), some (.int d)] []
  refine V_iln dX12_isGown_0 rfl ?_
  refine V_i2l dX12_isGown_1 ?_
  refine V_lconst (v := 0) rfl dX12_isGown_2 ?_
  refine V_aln dX12_isGown_3 rfl ?_
  refine V_getIv dX12_isGown_4 flX12_295 (by assumption) rfl (hn) ?_
  refine V_i2l dX12_isGown_7 ?_
  refine V_lconst (v := 1) rfl dX12_isGown_8 ?_
  refine V_lsub dX12_isGown_9 ?_
  refine V_cS3d hM cvX12_5 (e_X12_in) ⟨Nat.le_of_ble_eq_true rfl, Nat.le_of_ble_eq_true rfl, Nat.le_of_ble_eq_true rfl, Nat.le_of_ble_eq_true rfl⟩ (Nat.le_of_ble_eq_true rfl) dX12_isGown_10 ?_
  rw [inJ (n64 hn2)]
  exact V_zret hM (by first | exact Or.inl rfl | exact Or.inr rfl | exact bI_01 _) dX12_isGown_13 (mDet.rf)
theorem e_X12_isLetterOf {n : Nat} {d : Int32} (hV : MW sh P) (hn : I 35 45 = nI n) (hn2 : n < 2 ^ 31) : Ev X B mdX12_isLetterOf 0 0 [.ref (B + 35), .int d] nx sh I P (mDet (some (.int (bI (inB d n)))) nx sh I P) := by
  have s35 : sh 35 = some (.inl 12) := hV.1 35 _ rfl
  refine Ev.of (by decide) (by simp [Value.category]) (by simp) (fun G hM => ?_)
  have hM : mM X B "isLetterOf" (some FieldType.boolean) 1 25 0 0 _ G := hM
  show V X B RX12 cX12_isLetterOf G 0 0 nx sh I P 0 [some (.ref (B + 35)), some (.int d)] []
  refine V_iln dX12_isLetterOf_0 rfl ?_
  refine V_i2l dX12_isLetterOf_1 ?_
  refine V_lconst (v := 0) rfl dX12_isLetterOf_2 ?_
  refine V_aln dX12_isLetterOf_3 rfl ?_
  refine V_getIv dX12_isLetterOf_4 flX12_337 (by assumption) rfl (hn) ?_
  refine V_i2l dX12_isLetterOf_7 ?_
  refine V_lconst (v := 1) rfl dX12_isLetterOf_8 ?_
  refine V_lsub dX12_isLetterOf_9 ?_
  refine V_cS3d hM cvX12_5 (e_X12_in) ⟨Nat.le_of_ble_eq_true rfl, Nat.le_of_ble_eq_true rfl, Nat.le_of_ble_eq_true rfl, Nat.le_of_ble_eq_true rfl⟩ (Nat.le_of_ble_eq_true rfl) dX12_isLetterOf_10 ?_
  rw [inJ (n64 hn2)]
  exact V_zret hM (by first | exact Or.inl rfl | exact Or.inr rfl | exact bI_01 _) dX12_isLetterOf_13 (mDet.rf)
theorem e_X12_areDays {a b : Int32} : Ev X B mdX12_areDays 0 0 [.int a, .int b] nx sh I P (mDet (some (.int (bI (inB a 10000 && inB b 10000 && decide (a ≤ b))))) nx sh I P) := by
  refine Ev.of (by decide) (by simp [Value.category]) (by simp) (fun G hM => ?_)
  have hM : mM X B "areDays" (some FieldType.boolean) 2 45 0 0 _ G := hM
  show V X B RX12 cX12_areDays G 0 0 nx sh I P 0 [some (.int a), some (.int b)] []
  refine V_iln dX12_areDays_0 rfl ?_
  refine V_cS1d hM cvX12_259 (e_X12_isDay) ⟨Nat.le_of_ble_eq_true rfl, Nat.le_of_ble_eq_true rfl, Nat.le_of_ble_eq_true rfl, Nat.le_of_ble_eq_true rfl⟩ (Nat.le_of_ble_eq_true rfl) dX12_areDays_1 ?_
  refine V_ifeq_b (tgt := 24) dX12_areDays_4 rfl (fun c4 => ?_) (fun c4 => ?_)
  · refine V_iconst (v := 0) rfl dX12_areDays_24 ?_
    exact V_zret hM (by first | exact Or.inl rfl | exact Or.inr rfl | exact bI_01 _) dX12_areDays_25 (⟨by first | (rw [Bool.and_assoc, c4, c17]; rfl) | (rw [Bool.and_assoc, c4]; rfl), rfl, rfl, rfl, rfl⟩)
  · refine V_iln dX12_areDays_7 rfl ?_
    refine V_i2l dX12_areDays_8 ?_
    refine V_iln dX12_areDays_9 rfl ?_
    refine V_i2l dX12_areDays_10 ?_
    refine V_ldc2 kjX12_3 dX12_areDays_11 ?_
    refine V_cS3d hM cvX12_5 (e_X12_in) ⟨Nat.le_of_ble_eq_true rfl, Nat.le_of_ble_eq_true rfl, Nat.le_of_ble_eq_true rfl, Nat.le_of_ble_eq_true rfl⟩ (Nat.le_of_ble_eq_true rfl) dX12_areDays_14 ?_
    rw [spJ (by decide) (by first | exact c4 | simpa using c4)]
    refine V_ifeq_b (tgt := 24) dX12_areDays_17 rfl (fun c17 => ?_) (fun c17 => ?_)
    · have c17 : (inB b 10000 && decide (a ≤ b)) = false := by first | exact c17 | simpa using c17
      refine V_iconst (v := 0) rfl dX12_areDays_24 ?_
      exact V_zret hM (by first | exact Or.inl rfl | exact Or.inr rfl | exact bI_01 _) dX12_areDays_25 (⟨by first | (rw [Bool.and_assoc, c4, c17]; rfl) | (rw [Bool.and_assoc, c4]; rfl), rfl, rfl, rfl, rfl⟩)
    · have c17 : (inB b 10000 && decide (a ≤ b)) = true := by first | exact c17 | simpa using c17
      refine V_iconst (v := 1) rfl dX12_areDays_20 ?_
      refine V_goto (tgt := 25) dX12_areDays_21 rfl ?_
      exact V_zret hM (by first | exact Or.inl rfl | exact Or.inr rfl | exact bI_01 _) dX12_areDays_25 (⟨by first | (rw [Bool.and_assoc, c4, c17]; rfl) | (rw [Bool.and_assoc, c4]; rfl), rfl, rfl, rfl, rfl⟩)
theorem e_X12_isCase {n : Nat} {p g d : Int32} (hV : MW sh P) (hn : I 35 32 = nI n) (hn2 : n < 2 ^ 31) : Ev X B mdX12_isCase 0 0 [.ref (B + 35), .int p, .int g, .int d] nx sh I P (mDet (some (.int (bI (inB p 30 && inB g n && inB d 10000)))) nx sh I P) := by
  have s35 : sh 35 = some (.inl 12) := hV.1 35 _ rfl
  refine Ev.of (by decide) (by simp [Value.category]) (by simp) (fun G hM => ?_)
  have hM : mM X B "isCase" (some FieldType.boolean) 2 46 0 0 _ G := hM
  show V X B RX12 cX12_isCase G 0 0 nx sh I P 0 [some (.ref (B + 35)), some (.int p), some (.int g), some (.int d)] []
  refine V_iln dX12_isCase_0 rfl ?_
  refine V_cS1d hM cvX12_274 (e_X12_isPerson) ⟨Nat.le_of_ble_eq_true rfl, Nat.le_of_ble_eq_true rfl, Nat.le_of_ble_eq_true rfl, Nat.le_of_ble_eq_true rfl⟩ (Nat.le_of_ble_eq_true rfl) dX12_isCase_1 ?_
  refine V_ifeq_b (tgt := 26) dX12_isCase_4 rfl (fun c4 => ?_) (fun c4 => ?_)
  · refine V_iconst (v := 0) rfl dX12_isCase_26 ?_
    exact V_zret hM (by first | exact Or.inl rfl | exact Or.inr rfl | exact bI_01 _) dX12_isCase_27 (⟨by simp [bI, c4], rfl, rfl, rfl, rfl⟩)
  · refine V_aln dX12_isCase_7 rfl ?_
    refine V_iln dX12_isCase_8 rfl ?_
    refine V_cV1d hM cvX12_298 (by assumption) rfl (e_X12_isGown hV hn hn2) ⟨Nat.le_of_ble_eq_true rfl, Nat.le_of_ble_eq_true rfl, Nat.le_of_ble_eq_true rfl, Nat.le_of_ble_eq_true rfl⟩ (Nat.le_of_ble_eq_true rfl) dX12_isCase_9 ?_
    refine V_ifeq_b (tgt := 26) dX12_isCase_12 rfl (fun c12 => ?_) (fun c12 => ?_)
    · refine V_iconst (v := 0) rfl dX12_isCase_26 ?_
      exact V_zret hM (by first | exact Or.inl rfl | exact Or.inr rfl | exact bI_01 _) dX12_isCase_27 (⟨by simp [bI, c4, c12], rfl, rfl, rfl, rfl⟩)
    · refine V_iln dX12_isCase_15 rfl ?_
      refine V_cS1d hM cvX12_259 (e_X12_isDay) ⟨Nat.le_of_ble_eq_true rfl, Nat.le_of_ble_eq_true rfl, Nat.le_of_ble_eq_true rfl, Nat.le_of_ble_eq_true rfl⟩ (Nat.le_of_ble_eq_true rfl) dX12_isCase_16 ?_
      refine V_ifeq_b (tgt := 26) dX12_isCase_19 rfl (fun c19 => ?_) (fun c19 => ?_)
      · refine V_iconst (v := 0) rfl dX12_isCase_26 ?_
        exact V_zret hM (by first | exact Or.inl rfl | exact Or.inr rfl | exact bI_01 _) dX12_isCase_27 (⟨by simp [bI, c4, c12, c19], rfl, rfl, rfl, rfl⟩)
      · refine V_iconst (v := 1) rfl dX12_isCase_22 ?_
        refine V_goto (tgt := 27) dX12_isCase_23 rfl ?_
        exact V_zret hM (by first | exact Or.inl rfl | exact Or.inr rfl | exact bI_01 _) dX12_isCase_27 (⟨by simp [bI, c4, c12, c19], rfl, rfl, rfl, rfl⟩)
theorem e_X12_wrong {k : Int32} (hV : MW sh P) : Ev X B mdX12_wrong 0 0 [.ref (B + 35), .int k] nx sh I P (mDet (some (.ref (B + 47))) nx sh (wrM I k) P) := by
  have s35 : sh 35 = some (.inl 12) := hV.1 35 _ rfl
  have s_stop : sh 47 = some (.inl 11) := hV.1 47 _ rfl
  have p_stop : P 35 12 = some 47 := hV.2 12 47 rfl
  refine Ev.of (by decide) (by simp [Value.category]) (by simp) (fun G hM => ?_)
  have hM : mM X B "wrong" (some (FieldType.object "GownCourtModel$Stop")) 0 0 0 0 _ G := hM
  show V X B RX12 cX12_wrong G 0 0 nx sh I P 0 [some (.ref (B + 35)), some (.int k)] []
  refine V_aln dX12_wrong_0 rfl ?_
  refine V_iln dX12_wrong_1 rfl ?_
  refine V_putI dX12_wrong_2 flX12_9 (by assumption) rfl rfl ?_
  refine V_aln dX12_wrong_5 rfl ?_
  refine V_aln dX12_wrong_6 rfl ?_
  refine V_getIv dX12_wrong_7 flX12_13 (by assumption) rfl (mUp_k (by decide)) ?_
  refine V_putI dX12_wrong_10 flX12_16 (by assumption) rfl rfl ?_
  refine V_aln dX12_wrong_13 rfl ?_
  refine V_getR dX12_wrong_14 flX12_19 (by assumption) rfl (by assumption) ?_
  exact V_aret hM (by first | exact Or.inl ⟨_, rfl⟩ | exact Or.inr ⟨_, rfl⟩) (by first | exact Or.inl rfl | exact Or.inr ⟨_, rfl⟩) dX12_wrong_17 (mDet.rf)
theorem e_X12_isLetter {b : Int32} : Ev X B mdX12_isLetter 0 0 [.int b] nx sh I P (mDet (some (.int (bI (pL b)))) nx sh I P) := by
  refine Ev.of (by decide) (by simp [Value.category]) (by simp) (fun G hM => ?_)
  have hM : mM X B "isLetter" (some FieldType.boolean) 0 0 0 0 _ G := hM
  show V X B RX12 cX12_isLetter G 0 0 nx sh I P 0 [some (.int b)] []
  refine V_iln dX12_isLetter_0 rfl ?_
  refine V_bipush (v := 97) rfl dX12_isLetter_1 ?_
  refine V_icmp_lt (tgt := 16) dX12_isLetter_3 rfl (fun c3 => ?_) (fun c3 => ?_)
  · have c3 := i_lt_nle c3
    refine V_iconst (v := 0) rfl dX12_isLetter_16 ?_
    exact V_zret hM (by first | exact Or.inl rfl | exact Or.inr rfl | exact bI_01 _) dX12_isLetter_17 (⟨by simp [pL, bI, c3], rfl, rfl, rfl, rfl⟩)
  · have c3 := i_nlt c3
    refine V_iln dX12_isLetter_6 rfl ?_
    refine V_bipush (v := 122) rfl dX12_isLetter_7 ?_
    refine V_icmp_gt (tgt := 16) dX12_isLetter_9 rfl (fun c9 => ?_) (fun c9 => ?_)
    · have c9 := i_lt_nle c9
      refine V_iconst (v := 0) rfl dX12_isLetter_16 ?_
      exact V_zret hM (by first | exact Or.inl rfl | exact Or.inr rfl | exact bI_01 _) dX12_isLetter_17 (⟨by simp [pL, bI, c3, c9], rfl, rfl, rfl, rfl⟩)
    · have c9 := i_nlt c9
      refine V_iconst (v := 1) rfl dX12_isLetter_12 ?_
      refine V_goto (tgt := 17) dX12_isLetter_13 rfl ?_
      exact V_zret hM (by first | exact Or.inl rfl | exact Or.inr rfl | exact bI_01 _) dX12_isLetter_17 (⟨by simp [pL, bI, c3, c9], rfl, rfl, rfl, rfl⟩)
theorem e_X12_isDigit {b : Int32} : Ev X B mdX12_isDigit 0 0 [.int b] nx sh I P (mDet (some (.int (bI (pD b)))) nx sh I P) := by
  refine Ev.of (by decide) (by simp [Value.category]) (by simp) (fun G hM => ?_)
  have hM : mM X B "isDigit" (some FieldType.boolean) 0 0 0 0 _ G := hM
  show V X B RX12 cX12_isDigit G 0 0 nx sh I P 0 [some (.int b)] []
  refine V_iln dX12_isDigit_0 rfl ?_
  refine V_bipush (v := 48) rfl dX12_isDigit_1 ?_
  refine V_icmp_lt (tgt := 16) dX12_isDigit_3 rfl (fun c3 => ?_) (fun c3 => ?_)
  · have c3 := i_lt_nle c3
    refine V_iconst (v := 0) rfl dX12_isDigit_16 ?_
    exact V_zret hM (by first | exact Or.inl rfl | exact Or.inr rfl | exact bI_01 _) dX12_isDigit_17 (⟨by simp [pD, bI, c3], rfl, rfl, rfl, rfl⟩)
  · have c3 := i_nlt c3
    refine V_iln dX12_isDigit_6 rfl ?_
    refine V_bipush (v := 57) rfl dX12_isDigit_7 ?_
    refine V_icmp_gt (tgt := 16) dX12_isDigit_9 rfl (fun c9 => ?_) (fun c9 => ?_)
    · have c9 := i_lt_nle c9
      refine V_iconst (v := 0) rfl dX12_isDigit_16 ?_
      exact V_zret hM (by first | exact Or.inl rfl | exact Or.inr rfl | exact bI_01 _) dX12_isDigit_17 (⟨by simp [pD, bI, c3, c9], rfl, rfl, rfl, rfl⟩)
    · have c9 := i_nlt c9
      refine V_iconst (v := 1) rfl dX12_isDigit_12 ?_
      refine V_goto (tgt := 17) dX12_isDigit_13 rfl ?_
      exact V_zret hM (by first | exact Or.inl rfl | exact Or.inr rfl | exact bI_01 _) dX12_isDigit_17 (⟨by simp [pD, bI, c3, c9], rfl, rfl, rfl, rfl⟩)
theorem e_X12_byteAt {m i : Nat} (hV : MW sh P) (hm : I 35 15 = nI m) (hm8 : m ≤ 800) (hi : i < 2000) : Ev X B mdX12_byteAt 0 0 [.ref (B + 35), .int (nI i)] nx sh I P (mDet (some (.int (t0B (I 48) m i))) nx sh I P) := by
  have s35 : sh 35 = some (.inl 12) := hV.1 35 _ rfl
  have s_tape : sh 48 = some (.inr (1, 800)) := hV.1 48 _ rfl
  have p_tape : P 35 13 = some 48 := hV.2 13 48 rfl
  refine Ev.of (by decide) (by simp [Value.category]) (by simp) (fun G hM => ?_)
  have hM : mM X B "byteAt" (some FieldType.int) 0 0 0 0 _ G := hM
  show V X B RX12 cX12_byteAt G 0 0 nx sh I P 0 [some (.ref (B + 35)), some (.int (nI i))] []
  refine V_iln dX12_byteAt_0 rfl ?_
  refine V_aln dX12_byteAt_1 rfl ?_
  refine V_getIv dX12_byteAt_2 flX12_23 (by assumption) rfl (hm) ?_
  refine V_icmp_ge (tgt := 21) dX12_byteAt_5 rfl (fun c5 => ?_) (fun c5 => ?_)
  · have c5 := nN_le c5 (by omega) (by omega)
    refine V_iconst (v := 0) rfl dX12_byteAt_21 ?_
    exact V_iret hM dX12_byteAt_22 (⟨by first | (rw [t0B, if_pos c5]; done) | (rw [t0B, if_neg (by omega)]), rfl, rfl, rfl, rfl⟩)
  · have c5 := nN_nle c5 (by omega) (by omega)
    refine V_aln dX12_byteAt_8 rfl ?_
    refine V_getR dX12_byteAt_9 flX12_26 (by assumption) rfl (by assumption) ?_
    refine V_iln dX12_byteAt_12 rfl ?_
    refine V_baldN dX12_byteAt_13 (by assumption) (by omega) (by omega) ?_
    refine V_sipush (v := 255) rfl dX12_byteAt_14 ?_
    refine V_iand dX12_byteAt_17 ?_
    refine V_goto (tgt := 22) dX12_byteAt_18 rfl ?_
    exact V_iret hM dX12_byteAt_22 (⟨by first | (rw [t0B, if_pos c5]; done) | (rw [t0B, if_neg (by omega)]), rfl, rfl, rfl, rfl⟩)
end MF
