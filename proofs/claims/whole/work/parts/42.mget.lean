/-! ===== the reference's getters ===== -/
section MG
variable {X : mX} {B nx : Nat} {sh : Nat → Option mSh} {I : mI} {P : mP}
def mCntF (I : mI) (w : Int32) : Int32 := if w = 0 then I 35 0 else if w = 1 then I 35 32 else if w = 2 then I 35 45 else if w = 3 then I 35 46 else if w = 4 then I 35 33 else if w = 5 then I 35 31 else if w = 6 then I 35 14 else -1
theorem e_X12_count {w : Int32} (hV : MW sh P) : Ev X B mdX12_count 0 0 [.ref (B + 35), .int w] nx sh I P (mDet (some (.int (mCntF I w))) nx sh I P) := by
  have s35 : sh 35 = some (.inl 12) := hV.1 35 _ rfl
  refine Ev.of (by decide) (by simp [Value.category]) (by simp) (fun G hM => ?_)
  have hM : mM X B "count" (some FieldType.int) 0 0 0 0 _ G := hM
  show V X B RX12 cX12_count G 0 0 nx sh I P 0 [some (.ref (B + 35)), some (.int w)] []
  refine V_iln dX12_count_0 rfl ?_
  refine V_tsw_0_6 (td := 79) (t0 := 44) (t1 := 49) (t2 := 54) (t3 := 59) (t4 := 64) (t5 := 69) (t6 := 74) dX12_count_1 rfl rfl rfl rfl rfl rfl rfl rfl (fun c1 => ?_) (fun c1 => ?_) (fun c1 => ?_) (fun c1 => ?_) (fun c1 => ?_) (fun c1 => ?_) (fun c1 => ?_) (fun c1 => ?_)
  · refine V_iconst (v := -1) rfl dX12_count_79 ?_
    exact V_iret hM dX12_count_80 (⟨by have e0 : ¬ w = 0 := sw_0 (n := 6) 0 (by omega) (by omega) c1; have e1 : ¬ w = 1 := sw_0 (n := 6) 1 (by omega) (by omega) c1; have e2 : ¬ w = 2 := sw_0 (n := 6) 2 (by omega) (by omega) c1; have e3 : ¬ w = 3 := sw_0 (n := 6) 3 (by omega) (by omega) c1; have e4 : ¬ w = 4 := sw_0 (n := 6) 4 (by omega) (by omega) c1; have e5 : ¬ w = 5 := sw_0 (n := 6) 5 (by omega) (by omega) c1; have e6 : ¬ w = 6 := sw_0 (n := 6) 6 (by omega) (by omega) c1; rw [mCntF, if_neg e0, if_neg e1, if_neg e2, if_neg e3, if_neg e4, if_neg e5, if_neg e6], rfl, rfl, rfl, rfl⟩)
  · refine V_aln dX12_count_44 rfl ?_
    refine V_getI dX12_count_45 flX12_118 (by assumption) rfl ?_
    exact V_iret hM dX12_count_48 (⟨by simp [mCntF, c1], rfl, rfl, rfl, rfl⟩)
  · refine V_aln dX12_count_49 rfl ?_
    refine V_getI dX12_count_50 flX12_295 (by assumption) rfl ?_
    exact V_iret hM dX12_count_53 (⟨by simp [mCntF, c1], rfl, rfl, rfl, rfl⟩)
  · refine V_aln dX12_count_54 rfl ?_
    refine V_getI dX12_count_55 flX12_337 (by assumption) rfl ?_
    exact V_iret hM dX12_count_58 (⟨by simp [mCntF, c1], rfl, rfl, rfl, rfl⟩)
  · refine V_aln dX12_count_59 rfl ?_
    refine V_getI dX12_count_60 flX12_343 (by assumption) rfl ?_
    exact V_iret hM dX12_count_63 (⟨by simp [mCntF, c1], rfl, rfl, rfl, rfl⟩)
  · refine V_aln dX12_count_64 rfl ?_
    refine V_getI dX12_count_65 flX12_306 (by assumption) rfl ?_
    exact V_iret hM dX12_count_68 (⟨by simp [mCntF, c1], rfl, rfl, rfl, rfl⟩)
  · refine V_aln dX12_count_69 rfl ?_
    refine V_getI dX12_count_70 flX12_282 (by assumption) rfl ?_
    exact V_iret hM dX12_count_73 (⟨by simp [mCntF, c1], rfl, rfl, rfl, rfl⟩)
  · refine V_aln dX12_count_74 rfl ?_
    refine V_getI dX12_count_75 flX12_253 (by assumption) rfl ?_
    exact V_iret hM dX12_count_78 (⟨by simp [mCntF, c1], rfl, rfl, rfl, rfl⟩)
def mTldF (I : mI) (j : Nat) (w : Int32) : Int32 := if w = 0 then I 36 j else if w = 1 then I 37 j else if w = 2 then I 38 j else if w = 3 then I 39 j else if w = 4 then I 40 j else -9
theorem e_X12_told {n j : Nat} {w : Int32} (hV : MW sh P) (hn : I 35 0 = nI n) (hn2 : n ≤ 12) (hj : j < n) : Ev X B mdX12_told 0 0 [.ref (B + 35), .int (nI j), .int w] nx sh I P (mDet (some (.int (mTldF I j w))) nx sh I P) := by
  have s35 : sh 35 = some (.inl 12) := hV.1 35 _ rfl
  have s_firstDay : sh 36 = some (.inr (0, 13)) := hV.1 36 _ rfl
  have p_firstDay : P 35 1 = some 36 := hV.2 1 36 rfl
  have s_ruleMany : sh 37 = some (.inr (0, 13)) := hV.1 37 _ rfl
  have p_ruleMany : P 35 2 = some 37 := hV.2 2 37 rfl
  have s_seal : sh 38 = some (.inr (0, 13)) := hV.1 38 _ rfl
  have p_seal : P 35 3 = some 38 := hV.2 3 38 rfl
  have s_part : sh 39 = some (.inr (0, 13)) := hV.1 39 _ rfl
  have p_part : P 35 4 = some 39 := hV.2 4 39 rfl
  have s_repeals : sh 40 = some (.inr (0, 13)) := hV.1 40 _ rfl
  have p_repeals : P 35 5 = some 40 := hV.2 5 40 rfl
  refine Ev.of (by decide) (by simp [Value.category]) (by simp) (fun G hM => ?_)
  have hM : mM X B "told" (some FieldType.int) 2 46 0 0 _ G := hM
  show V X B RX12 cX12_told G 0 0 nx sh I P 0 [some (.ref (B + 35)), some (.int (nI j)), some (.int w)] []
  refine V_aln dX12_told_0 rfl ?_
  refine V_iln dX12_told_1 rfl ?_
  refine V_cV1d hM cvX12_265 (by assumption) rfl (e_X12_isAct hV hn (by omega)) ⟨Nat.le_of_ble_eq_true rfl, Nat.le_of_ble_eq_true rfl, Nat.le_of_ble_eq_true rfl, Nat.le_of_ble_eq_true rfl⟩ (Nat.le_of_ble_eq_true rfl) dX12_told_2 ?_
  rw [inB_of hj (by omega)]
  refine V_ifne_b (tgt := 11) dX12_told_5 rfl (fun c5 => ?_) (fun c5 => ?_)
  · refine V_iln dX12_told_11 rfl ?_
    refine V_tsw_0_4 (td := 83) (t0 := 48) (t1 := 55) (t2 := 62) (t3 := 69) (t4 := 76) dX12_told_12 rfl rfl rfl rfl rfl rfl (fun c12 => ?_) (fun c12 => ?_) (fun c12 => ?_) (fun c12 => ?_) (fun c12 => ?_) (fun c12 => ?_)
    · refine V_bipush (v := -9) rfl dX12_told_83 ?_
      exact V_iret hM dX12_told_85 (⟨by have e0 : ¬ w = 0 := sw_0 (n := 4) 0 (by omega) (by omega) c12; have e1 : ¬ w = 1 := sw_0 (n := 4) 1 (by omega) (by omega) c12; have e2 : ¬ w = 2 := sw_0 (n := 4) 2 (by omega) (by omega) c12; have e3 : ¬ w = 3 := sw_0 (n := 4) 3 (by omega) (by omega) c12; have e4 : ¬ w = 4 := sw_0 (n := 4) 4 (by omega) (by omega) c12; rw [mTldF, if_neg e0, if_neg e1, if_neg e2, if_neg e3, if_neg e4], rfl, rfl, rfl, rfl⟩)
    · refine V_aln dX12_told_48 rfl ?_
      refine V_getR dX12_told_49 flX12_168 (by assumption) rfl (by assumption) ?_
      refine V_iln dX12_told_52 rfl ?_
      refine V_ialdNv dX12_told_53 (by assumption) (by omega) (by omega) (rfl) ?_
      exact V_iret hM dX12_told_54 (⟨by simp [mTldF, c5, c12], rfl, rfl, rfl, rfl⟩)
    · refine V_aln dX12_told_55 rfl ?_
      refine V_getR dX12_told_56 flX12_88 (by assumption) rfl (by assumption) ?_
      refine V_iln dX12_told_59 rfl ?_
      refine V_ialdNv dX12_told_60 (by assumption) (by omega) (by omega) (rfl) ?_
      exact V_iret hM dX12_told_61 (⟨by simp [mTldF, c5, c12], rfl, rfl, rfl, rfl⟩)
    · refine V_aln dX12_told_62 rfl ?_
      refine V_getR dX12_told_63 flX12_92 (by assumption) rfl (by assumption) ?_
      refine V_iln dX12_told_66 rfl ?_
      refine V_ialdNv dX12_told_67 (by assumption) (by omega) (by omega) (rfl) ?_
      exact V_iret hM dX12_told_68 (⟨by simp [mTldF, c5, c12], rfl, rfl, rfl, rfl⟩)
    · refine V_aln dX12_told_69 rfl ?_
      refine V_getR dX12_told_70 flX12_95 (by assumption) rfl (by assumption) ?_
      refine V_iln dX12_told_73 rfl ?_
      refine V_ialdNv dX12_told_74 (by assumption) (by omega) (by omega) (rfl) ?_
      exact V_iret hM dX12_told_75 (⟨by simp [mTldF, c5, c12], rfl, rfl, rfl, rfl⟩)
    · refine V_aln dX12_told_76 rfl ?_
      refine V_getR dX12_told_77 flX12_98 (by assumption) rfl (by assumption) ?_
      refine V_iln dX12_told_80 rfl ?_
      refine V_ialdNv dX12_told_81 (by assumption) (by omega) (by omega) (rfl) ?_
      exact V_iret hM dX12_told_82 (⟨by simp [mTldF, c5, c12], rfl, rfl, rfl, rfl⟩)
  · exact absurd c5 (by decide) --done
theorem e_X12_toldN {n : Nat} {a w : Int32} (hV : MW sh P) (hn : I 35 0 = nI n) (hn2 : n ≤ 12) (ha : inB a n = false) : Ev X B mdX12_told 0 0 [.ref (B + 35), .int a, .int w] nx sh I P (mDet (some (.int (-9))) nx sh I P) := by
  have s35 : sh 35 = some (.inl 12) := hV.1 35 _ rfl
  refine Ev.of (by decide) (by simp [Value.category]) (by simp) (fun G hM => ?_)
  have hM : mM X B "told" (some FieldType.int) 2 46 0 0 _ G := hM
  show V X B RX12 cX12_told G 0 0 nx sh I P 0 [some (.ref (B + 35)), some (.int a), some (.int w)] []
  refine V_aln dX12_told_0 rfl ?_
  refine V_iln dX12_told_1 rfl ?_
  refine V_cV1d hM cvX12_265 (by assumption) rfl (e_X12_isAct hV hn (by omega)) ⟨Nat.le_of_ble_eq_true rfl, Nat.le_of_ble_eq_true rfl, Nat.le_of_ble_eq_true rfl, Nat.le_of_ble_eq_true rfl⟩ (Nat.le_of_ble_eq_true rfl) dX12_told_2 ?_
  rw [ha]
  refine V_ifne_b (tgt := 11) dX12_told_5 rfl (fun c5 => ?_) (fun c5 => ?_)
  · exact absurd c5 (by decide) --done
  · refine V_bipush (v := -9) rfl dX12_told_8 ?_
    exact V_iret hM dX12_told_10 (mDet.rf)
def mLtrF (I : mI) (j : Nat) (w : Int32) : Int32 := if w = 0 then I 68 j else if w = 1 then I 69 j else if w = 2 then I 70 j else if w = 3 then I 71 j else if w = 4 then I 72 j else if w = 5 then I 73 j else if w = 6 then I 74 j else -9
theorem e_X12_lettered {n j : Nat} {w : Int32} (hV : MW sh P) (hn : I 35 45 = nI n) (hn2 : n ≤ 60) (hj : j < n) : Ev X B mdX12_lettered 0 0 [.ref (B + 35), .int (nI j), .int w] nx sh I P (mDet (some (.int (mLtrF I j w))) nx sh I P) := by
  have s35 : sh 35 = some (.inl 12) := hV.1 35 _ rfl
  have s_by : sh 68 = some (.inr (0, 60)) := hV.1 68 _ rfl
  have p_by : P 35 47 = some 68 := hV.2 47 68 rfl
  have s_accused : sh 69 = some (.inr (0, 60)) := hV.1 69 _ rfl
  have p_accused : P 35 48 = some 69 := hV.2 48 69 rfl
  have s_inGown : sh 70 = some (.inr (0, 60)) := hV.1 70 _ rfl
  have p_inGown : P 35 49 = some 70 := hV.2 49 70 rfl
  have s_onDay : sh 71 = some (.inr (0, 60)) := hV.1 71 _ rfl
  have p_onDay : P 35 50 = some 71 := hV.2 50 71 rfl
  have s_state : sh 72 = some (.inr (0, 60)) := hV.1 72 _ rfl
  have p_state : P 35 51 = some 72 := hV.2 51 72 rfl
  have s_fined : sh 73 = some (.inr (0, 60)) := hV.1 73 _ rfl
  have p_fined : P 35 52 = some 73 := hV.2 52 73 rfl
  have s_shared : sh 74 = some (.inr (0, 60)) := hV.1 74 _ rfl
  have p_shared : P 35 53 = some 74 := hV.2 53 74 rfl
  refine Ev.of (by decide) (by simp [Value.category]) (by simp) (fun G hM => ?_)
  have hM : mM X B "lettered" (some FieldType.int) 2 46 0 0 _ G := hM
  show V X B RX12 cX12_lettered G 0 0 nx sh I P 0 [some (.ref (B + 35)), some (.int (nI j)), some (.int w)] []
  refine V_aln dX12_lettered_0 rfl ?_
  refine V_iln dX12_lettered_1 rfl ?_
  refine V_cV1d hM cvX12_340 (by assumption) rfl (e_X12_isLetterOf hV hn (by omega)) ⟨Nat.le_of_ble_eq_true rfl, Nat.le_of_ble_eq_true rfl, Nat.le_of_ble_eq_true rfl, Nat.le_of_ble_eq_true rfl⟩ (Nat.le_of_ble_eq_true rfl) dX12_lettered_2 ?_
  rw [inB_of hj (by omega)]
  refine V_ifne_b (tgt := 11) dX12_lettered_5 rfl (fun c5 => ?_) (fun c5 => ?_)
  · refine V_iln dX12_lettered_11 rfl ?_
    refine V_tsw_0_6 (td := 105) (t0 := 56) (t1 := 63) (t2 := 70) (t3 := 77) (t4 := 84) (t5 := 91) (t6 := 98) dX12_lettered_12 rfl rfl rfl rfl rfl rfl rfl rfl (fun c12 => ?_) (fun c12 => ?_) (fun c12 => ?_) (fun c12 => ?_) (fun c12 => ?_) (fun c12 => ?_) (fun c12 => ?_) (fun c12 => ?_)
    · refine V_bipush (v := -9) rfl dX12_lettered_105 ?_
      exact V_iret hM dX12_lettered_107 (⟨by have e0 : ¬ w = 0 := sw_0 (n := 6) 0 (by omega) (by omega) c12; have e1 : ¬ w = 1 := sw_0 (n := 6) 1 (by omega) (by omega) c12; have e2 : ¬ w = 2 := sw_0 (n := 6) 2 (by omega) (by omega) c12; have e3 : ¬ w = 3 := sw_0 (n := 6) 3 (by omega) (by omega) c12; have e4 : ¬ w = 4 := sw_0 (n := 6) 4 (by omega) (by omega) c12; have e5 : ¬ w = 5 := sw_0 (n := 6) 5 (by omega) (by omega) c12; have e6 : ¬ w = 6 := sw_0 (n := 6) 6 (by omega) (by omega) c12; rw [mLtrF, if_neg e0, if_neg e1, if_neg e2, if_neg e3, if_neg e4, if_neg e5, if_neg e6], rfl, rfl, rfl, rfl⟩)
    · refine V_aln dX12_lettered_56 rfl ?_
      refine V_getR dX12_lettered_57 flX12_229 (by assumption) rfl (by assumption) ?_
      refine V_iln dX12_lettered_60 rfl ?_
      refine V_ialdNv dX12_lettered_61 (by assumption) (by omega) (by omega) (rfl) ?_
      exact V_iret hM dX12_lettered_62 (⟨by simp [mLtrF, c5, c12], rfl, rfl, rfl, rfl⟩)
    · refine V_aln dX12_lettered_63 rfl ?_
      refine V_getR dX12_lettered_64 flX12_232 (by assumption) rfl (by assumption) ?_
      refine V_iln dX12_lettered_67 rfl ?_
      refine V_ialdNv dX12_lettered_68 (by assumption) (by omega) (by omega) (rfl) ?_
      exact V_iret hM dX12_lettered_69 (⟨by simp [mLtrF, c5, c12], rfl, rfl, rfl, rfl⟩)
    · refine V_aln dX12_lettered_70 rfl ?_
      refine V_getR dX12_lettered_71 flX12_235 (by assumption) rfl (by assumption) ?_
      refine V_iln dX12_lettered_74 rfl ?_
      refine V_ialdNv dX12_lettered_75 (by assumption) (by omega) (by omega) (rfl) ?_
      exact V_iret hM dX12_lettered_76 (⟨by simp [mLtrF, c5, c12], rfl, rfl, rfl, rfl⟩)
    · refine V_aln dX12_lettered_77 rfl ?_
      refine V_getR dX12_lettered_78 flX12_238 (by assumption) rfl (by assumption) ?_
      refine V_iln dX12_lettered_81 rfl ?_
      refine V_ialdNv dX12_lettered_82 (by assumption) (by omega) (by omega) (rfl) ?_
      exact V_iret hM dX12_lettered_83 (⟨by simp [mLtrF, c5, c12], rfl, rfl, rfl, rfl⟩)
    · refine V_aln dX12_lettered_84 rfl ?_
      refine V_getR dX12_lettered_85 flX12_241 (by assumption) rfl (by assumption) ?_
      refine V_iln dX12_lettered_88 rfl ?_
      refine V_ialdNv dX12_lettered_89 (by assumption) (by omega) (by omega) (rfl) ?_
      exact V_iret hM dX12_lettered_90 (⟨by simp [mLtrF, c5, c12], rfl, rfl, rfl, rfl⟩)
    · refine V_aln dX12_lettered_91 rfl ?_
      refine V_getR dX12_lettered_92 flX12_244 (by assumption) rfl (by assumption) ?_
      refine V_iln dX12_lettered_95 rfl ?_
      refine V_ialdNv dX12_lettered_96 (by assumption) (by omega) (by omega) (rfl) ?_
      exact V_iret hM dX12_lettered_97 (⟨by simp [mLtrF, c5, c12], rfl, rfl, rfl, rfl⟩)
    · refine V_aln dX12_lettered_98 rfl ?_
      refine V_getR dX12_lettered_99 flX12_247 (by assumption) rfl (by assumption) ?_
      refine V_iln dX12_lettered_102 rfl ?_
      refine V_ialdNv dX12_lettered_103 (by assumption) (by omega) (by omega) (rfl) ?_
      exact V_iret hM dX12_lettered_104 (⟨by simp [mLtrF, c5, c12], rfl, rfl, rfl, rfl⟩)
  · exact absurd c5 (by decide) --done
theorem e_X12_letteredN {n : Nat} {a w : Int32} (hV : MW sh P) (hn : I 35 45 = nI n) (hn2 : n ≤ 60) (ha : inB a n = false) : Ev X B mdX12_lettered 0 0 [.ref (B + 35), .int a, .int w] nx sh I P (mDet (some (.int (-9))) nx sh I P) := by
  have s35 : sh 35 = some (.inl 12) := hV.1 35 _ rfl
  refine Ev.of (by decide) (by simp [Value.category]) (by simp) (fun G hM => ?_)
  have hM : mM X B "lettered" (some FieldType.int) 2 46 0 0 _ G := hM
  show V X B RX12 cX12_lettered G 0 0 nx sh I P 0 [some (.ref (B + 35)), some (.int a), some (.int w)] []
  refine V_aln dX12_lettered_0 rfl ?_
  refine V_iln dX12_lettered_1 rfl ?_
  refine V_cV1d hM cvX12_340 (by assumption) rfl (e_X12_isLetterOf hV hn (by omega)) ⟨Nat.le_of_ble_eq_true rfl, Nat.le_of_ble_eq_true rfl, Nat.le_of_ble_eq_true rfl, Nat.le_of_ble_eq_true rfl⟩ (Nat.le_of_ble_eq_true rfl) dX12_lettered_2 ?_
  rw [ha]
  refine V_ifne_b (tgt := 11) dX12_lettered_5 rfl (fun c5 => ?_) (fun c5 => ?_)
  · exact absurd c5 (by decide) --done
  · refine V_bipush (v := -9) rfl dX12_lettered_8 ?_
    exact V_iret hM dX12_lettered_10 (mDet.rf)
end MG
