/-! ===== the reader: its step ===== -/
def ruI (I : mI) (o : Nat) (k l a b w p : Int32) : mI := mUp (mUp (mUp (mUp (mUp (mUp I o 0 k) o 1 l) o 2 a) o 3 b) o 4 w) o 5 p
section SP
variable {X : mX} {B nx : Nat} {sh : Nat → Option mSh} {I : mI} {P : mP}
theorem e_X5_scan {m e : Nat} (hW : CW sh P) (hm : I 2 1 = nI m) (hm8 : m ≤ 800) (h8 : I 1 8 = nI e) (he : e ≤ m) : Ev X B mdX5_scan 0 0 [.ref (B + 1)] nx sh I P (mDet none nx sh (scnM I m e) P) := by
  have s1 : sh 1 = some (.inl 5) := hW.1 1 _ rfl
  refine Ev.of (by decide) (by simp [Value.category]) (by simp) (fun G hM => ?_)
  have hM : mM X B "scan" none 2 42 0 0 _ G := hM
  show V X B RX5 cX5_scan G 0 0 nx sh I P 0 [some (.ref (B + 1)), none] []
  refine V_aln dX5_scan_0 rfl ?_
  refine V_aln dX5_scan_1 rfl ?_
  refine V_getIv dX5_scan_2 flX5_44 (by assumption) rfl (h8) ?_
  refine V_putI dX5_scan_5 flX5_41 (by assumption) rfl rfl ?_
  exact l_X5_scan hW hm hm8 hM (m + 1) e he (by omega) rfl
theorem e_X5_blame {k : Int32} (s1 : sh 1 = some (.inl 5)) : Ev X B mdX5_blame 0 0 [.ref (B + 1), .int k] nx sh I P (mDet none nx sh (blameM I k) P) := by
  refine Ev.of (by decide) (by simp [Value.category]) (by simp) (fun G hM => ?_)
  have hM : mM X B "blame" none 0 0 0 0 _ G := hM
  show V X B RX5 cX5_blame G 0 0 nx sh I P 0 [some (.ref (B + 1)), some (.int k)] []
  refine V_aln dX5_blame_0 rfl ?_
  refine V_iln dX5_blame_1 rfl ?_
  refine V_putI dX5_blame_2 flX5_29 (by assumption) rfl rfl ?_
  refine V_aln dX5_blame_5 rfl ?_
  refine V_aln dX5_blame_6 rfl ?_
  refine V_getIv dX5_blame_7 flX5_41 (by assumption) rfl (mUp_k (by decide)) ?_
  refine V_putI dX5_blame_10 flX5_32 (by assumption) rfl rfl ?_
  exact V_vret hM dX5_blame_13 (mDet.rf)
theorem e_X5_goOn {f t : Int32} (s1 : sh 1 = some (.inl 5)) : Ev X B mdX5_goOn 0 0 [.ref (B + 1), .int f, .int t] nx sh I P (mDet none nx sh (goOnM I f t) P) := by
  refine Ev.of (by decide) (by simp [Value.category]) (by simp) (fun G hM => ?_)
  have hM : mM X B "goOn" none 1 21 0 0 _ G := hM
  show V X B RX5 cX5_goOn G 0 0 nx sh I P 0 [some (.ref (B + 1)), some (.int f), some (.int t)] []
  refine V_iln dX5_goOn_0 rfl ?_
  refine V_if_eq (tgt := 12) dX5_goOn_1 rfl (fun c1 => ?_) (fun c1 => ?_)
  · refine V_aln dX5_goOn_12 rfl ?_
    refine V_iln dX5_goOn_13 rfl ?_
    refine V_putI dX5_goOn_14 flX5_35 (by assumption) rfl rfl ?_
    exact V_vret hM dX5_goOn_17 (⟨rfl, rfl, rfl, by simp [goOnM, c1], rfl⟩)
  · refine V_aln dX5_goOn_4 rfl ?_
    refine V_iln dX5_goOn_5 rfl ?_
    refine V_cV1n hM cvX5_156 (by assumption) rfl (e_X5_blame s1) ⟨Nat.le_of_ble_eq_true rfl, Nat.le_of_ble_eq_true rfl, Nat.le_of_ble_eq_true rfl, Nat.le_of_ble_eq_true rfl⟩ (Nat.le_of_ble_eq_true rfl) dX5_goOn_6 ?_
    refine V_goto (tgt := 17) dX5_goOn_9 rfl ?_
    exact V_vret hM dX5_goOn_17 (⟨rfl, rfl, rfl, by simp [goOnM, c1], rfl⟩)
theorem e_X5_takeNumber {lo hi t : Int32} (s1 : sh 1 = some (.inl 5)) : Ev X B mdX5_takeNumber 0 0 [.ref (B + 1), .int lo, .int hi, .int t] nx sh I P (mDet (some (.int (tkV I lo hi))) nx sh (tkM I lo hi t) P) := by
  refine Ev.of (by decide) (by simp [Value.category]) (by simp) (fun G hM => ?_)
  have hM : mM X B "takeNumber" (some FieldType.int) 1 21 0 0 _ G := hM
  show V X B RX5 cX5_takeNumber G 0 0 nx sh I P 0 [some (.ref (B + 1)), some (.int lo), some (.int hi), some (.int t)] []
  refine V_aln dX5_takeNumber_0 rfl ?_
  refine V_getI dX5_takeNumber_1 flX5_38 (by assumption) rfl ?_
  refine V_iconst (v := 2) rfl dX5_takeNumber_4 ?_
  refine V_icmp_eq (tgt := 15) dX5_takeNumber_5 rfl (fun c5 => ?_) (fun c5 => ?_)
  · refine V_aln dX5_takeNumber_15 rfl ?_
    refine V_getI dX5_takeNumber_16 flX5_47 (by assumption) rfl ?_
    refine V_iln dX5_takeNumber_19 rfl ?_
    refine V_icmp_lt (tgt := 31) dX5_takeNumber_20 rfl (fun c20 => ?_) (fun c20 => ?_)
    · refine V_aln dX5_takeNumber_31 rfl ?_
      refine V_iconst (v := 2) rfl dX5_takeNumber_32 ?_
      refine V_cV1n hM cvX5_156 (by assumption) rfl (e_X5_blame s1) ⟨Nat.le_of_ble_eq_true rfl, Nat.le_of_ble_eq_true rfl, Nat.le_of_ble_eq_true rfl, Nat.le_of_ble_eq_true rfl⟩ (Nat.le_of_ble_eq_true rfl) dX5_takeNumber_33 ?_
      refine V_iconst (v := 0) rfl dX5_takeNumber_36 ?_
      exact V_iret hM dX5_takeNumber_37 (⟨by simp [tkV, c5, c20], rfl, rfl, by simp [tkM, c5, c20], rfl⟩)
    · refine V_aln dX5_takeNumber_23 rfl ?_
      refine V_getI dX5_takeNumber_24 flX5_47 (by assumption) rfl ?_
      refine V_iln dX5_takeNumber_27 rfl ?_
      refine V_icmp_le (tgt := 38) dX5_takeNumber_28 rfl (fun c28 => ?_) (fun c28 => ?_)
      · have c28 := i_le_nlt c28
        refine V_aln dX5_takeNumber_38 rfl ?_
        refine V_iln dX5_takeNumber_39 rfl ?_
        refine V_putI dX5_takeNumber_40 flX5_35 (by assumption) rfl rfl ?_
        refine V_aln dX5_takeNumber_43 rfl ?_
        refine V_getIv dX5_takeNumber_44 flX5_47 (by assumption) rfl (mUp_k (by decide)) ?_
        exact V_iret hM dX5_takeNumber_47 (⟨by simp [tkV, c5, c20, c28], rfl, rfl, by simp [tkM, c5, c20, c28], rfl⟩)
      · have c28 := i_nle c28
        refine V_aln dX5_takeNumber_31 rfl ?_
        refine V_iconst (v := 2) rfl dX5_takeNumber_32 ?_
        refine V_cV1n hM cvX5_156 (by assumption) rfl (e_X5_blame s1) ⟨Nat.le_of_ble_eq_true rfl, Nat.le_of_ble_eq_true rfl, Nat.le_of_ble_eq_true rfl, Nat.le_of_ble_eq_true rfl⟩ (Nat.le_of_ble_eq_true rfl) dX5_takeNumber_33 ?_
        refine V_iconst (v := 0) rfl dX5_takeNumber_36 ?_
        exact V_iret hM dX5_takeNumber_37 (⟨by simp [tkV, c5, c20, c28], rfl, rfl, by simp [tkM, c5, c20, c28], rfl⟩)
  · refine V_aln dX5_takeNumber_8 rfl ?_
    refine V_iconst (v := 1) rfl dX5_takeNumber_9 ?_
    refine V_cV1n hM cvX5_156 (by assumption) rfl (e_X5_blame s1) ⟨Nat.le_of_ble_eq_true rfl, Nat.le_of_ble_eq_true rfl, Nat.le_of_ble_eq_true rfl, Nat.le_of_ble_eq_true rfl⟩ (Nat.le_of_ble_eq_true rfl) dX5_takeNumber_10 ?_
    refine V_iconst (v := 0) rfl dX5_takeNumber_13 ?_
    exact V_iret hM dX5_takeNumber_14 (⟨by simp [tkV, c5], rfl, rfl, by simp [tkM, c5], rfl⟩)
theorem e_X5_takeWord {m s i : Nat} {t : Int32} (hW : CW sh P) (hm : I 2 1 = nI m) (hm8 : m ≤ 800) (h7 : I 1 7 = nI s) (hs : s ≤ 900) (hi : i < mNT) : Ev X B mdX5_takeWord 0 0 [.ref (B + 1), .ref (X.2.2.2.1 i), .int t] nx sh I P (mDet none nx sh (goOnM I (if wdB I m i then 0 else 1) t) P) := by
  have s1 : sh 1 = some (.inl 5) := hW.1 1 _ rfl
  refine Ev.of (by decide) (by simp [Value.category]) (by simp) (fun G hM => ?_)
  have hM : mM X B "takeWord" none 6 128 0 0 _ G := hM
  show V X B RX5 cX5_takeWord G 0 0 nx sh I P 0 [some (.ref (B + 1)), some (.ref (X.2.2.2.1 i)), some (.int t)] []
  refine V_aln dX5_takeWord_0 rfl ?_
  refine V_aln dX5_takeWord_1 rfl ?_
  refine V_aln dX5_takeWord_2 rfl ?_
  refine V_cV1d hM cvX5_150 (by assumption) rfl (e_X5_isWord hW hm hm8 h7 hs hi) ⟨Nat.le_of_ble_eq_true rfl, Nat.le_of_ble_eq_true rfl, Nat.le_of_ble_eq_true rfl, Nat.le_of_ble_eq_true rfl⟩ (Nat.le_of_ble_eq_true rfl) dX5_takeWord_3 ?_
  refine V_ifeq_b (tgt := 13) dX5_takeWord_6 rfl (fun c6 => ?_) (fun c6 => ?_)
  · refine V_iconst (v := 1) rfl dX5_takeWord_13 ?_
    refine V_iln dX5_takeWord_14 rfl ?_
    refine V_cV2n hM cvX5_144 (by assumption) rfl (e_X5_goOn s1) ⟨Nat.le_of_ble_eq_true rfl, Nat.le_of_ble_eq_true rfl, Nat.le_of_ble_eq_true rfl, Nat.le_of_ble_eq_true rfl⟩ (Nat.le_of_ble_eq_true rfl) dX5_takeWord_15 ?_
    exact V_vret hM dX5_takeWord_18 (⟨rfl, rfl, rfl, by simp [c6], rfl⟩)
  · refine V_iconst (v := 0) rfl dX5_takeWord_9 ?_
    refine V_goto (tgt := 14) dX5_takeWord_10 rfl ?_
    refine V_iln dX5_takeWord_14 rfl ?_
    refine V_cV2n hM cvX5_144 (by assumption) rfl (e_X5_goOn s1) ⟨Nat.le_of_ble_eq_true rfl, Nat.le_of_ble_eq_true rfl, Nat.le_of_ble_eq_true rfl, Nat.le_of_ble_eq_true rfl⟩ (Nat.le_of_ble_eq_true rfl) dX5_takeWord_15 ?_
    exact V_vret hM dX5_takeWord_18 (⟨rfl, rfl, rfl, by simp [c6], rfl⟩)
theorem e_X5_topLimit (s1 : sh 1 = some (.inl 5)) : Ev X B mdX5_topLimit 0 0 [.ref (B + 1)] nx sh I P (mDet (some (.int (tlF (I 1 10)))) nx sh I P) := by
  refine Ev.of (by decide) (by simp [Value.category]) (by simp) (fun G hM => ?_)
  have hM : mM X B "topLimit" (some FieldType.int) 0 0 0 0 _ G := hM
  show V X B RX5 cX5_topLimit G 0 0 nx sh I P 0 [some (.ref (B + 1))] []
  refine V_aln dX5_topLimit_0 rfl ?_
  refine V_getI dX5_topLimit_1 flX5_50 (by assumption) rfl ?_
  refine V_tsw_5_7 (td := 41) (t0 := 32) (t1 := 35) (t2 := 38) dX5_topLimit_4 rfl rfl rfl rfl (fun c4 => ?_) (fun c4 => ?_) (fun c4 => ?_) (fun c4 => ?_)
  · refine V_sipush (v := 9999) rfl dX5_topLimit_41 ?_
    exact V_iret hM dX5_topLimit_44 (⟨by first | (simp [tlF, c4]; done) | (obtain ⟨e1, e2, e3⟩ := sw_5_7 c4; simp [tlF, e1, e2, e3]), rfl, rfl, rfl, rfl⟩)
  · refine V_bipush (v := 15) rfl dX5_topLimit_32 ?_
    exact V_iret hM dX5_topLimit_34 (⟨by first | (simp [tlF, c4]; done) | (obtain ⟨e1, e2, e3⟩ := sw_5_7 c4; simp [tlF, e1, e2, e3]), rfl, rfl, rfl, rfl⟩)
  · refine V_bipush (v := 7) rfl dX5_topLimit_35 ?_
    exact V_iret hM dX5_topLimit_37 (⟨by first | (simp [tlF, c4]; done) | (obtain ⟨e1, e2, e3⟩ := sw_5_7 c4; simp [tlF, e1, e2, e3]), rfl, rfl, rfl, rfl⟩)
  · refine V_bipush (v := 7) rfl dX5_topLimit_38 ?_
    exact V_iret hM dX5_topLimit_40 (⟨by first | (simp [tlF, c4]; done) | (obtain ⟨e1, e2, e3⟩ := sw_5_7 c4; simp [tlF, e1, e2, e3]), rfl, rfl, rfl, rfl⟩)
theorem e_X5_ruleKind {m s : Nat} (hW : CW sh P) (hm : I 2 1 = nI m) (hm8 : m ≤ 800) (h7 : I 1 7 = nI s) (hs : s ≤ 900) : Ev X B mdX5_ruleKind 0 0 [.ref (B + 1)] nx sh I P (mDet (some (.int (rkF (wdB I m)))) nx sh I P) := by
  have s1 : sh 1 = some (.inl 5) := hW.1 1 _ rfl
  refine Ev.of (by decide) (by simp [Value.category]) (by simp) (fun G hM => ?_)
  have hM : mM X B "ruleKind" (some FieldType.int) 6 128 0 0 _ G := hM
  show V X B RX5 cX5_ruleKind G 0 0 nx sh I P 0 [some (.ref (B + 1))] []
  refine V_aln dX5_ruleKind_0 rfl ?_
  refine V_ldcS (i := 0) rfl dX5_ruleKind_1 ?_
  refine V_cV1d hM cvX5_150 (by assumption) rfl (e_X5_isWord hW hm hm8 h7 hs (by decide : 0 < mNT)) ⟨Nat.le_of_ble_eq_true rfl, Nat.le_of_ble_eq_true rfl, Nat.le_of_ble_eq_true rfl, Nat.le_of_ble_eq_true rfl⟩ (Nat.le_of_ble_eq_true rfl) dX5_ruleKind_3 ?_
  refine V_ifeq_b (tgt := 11) dX5_ruleKind_6 rfl (fun c6 => ?_) (fun c6 => ?_)
  · refine V_aln dX5_ruleKind_11 rfl ?_
    refine V_ldcS (i := 1) rfl dX5_ruleKind_12 ?_
    refine V_cV1d hM cvX5_150 (by assumption) rfl (e_X5_isWord hW hm hm8 h7 hs (by decide : 1 < mNT)) ⟨Nat.le_of_ble_eq_true rfl, Nat.le_of_ble_eq_true rfl, Nat.le_of_ble_eq_true rfl, Nat.le_of_ble_eq_true rfl⟩ (Nat.le_of_ble_eq_true rfl) dX5_ruleKind_14 ?_
    refine V_ifeq_b (tgt := 22) dX5_ruleKind_17 rfl (fun c17 => ?_) (fun c17 => ?_)
    · refine V_aln dX5_ruleKind_22 rfl ?_
      refine V_ldcS (i := 2) rfl dX5_ruleKind_23 ?_
      refine V_cV1d hM cvX5_150 (by assumption) rfl (e_X5_isWord hW hm hm8 h7 hs (by decide : 2 < mNT)) ⟨Nat.le_of_ble_eq_true rfl, Nat.le_of_ble_eq_true rfl, Nat.le_of_ble_eq_true rfl, Nat.le_of_ble_eq_true rfl⟩ (Nat.le_of_ble_eq_true rfl) dX5_ruleKind_25 ?_
      refine V_ifeq_b (tgt := 33) dX5_ruleKind_28 rfl (fun c28 => ?_) (fun c28 => ?_)
      · refine V_aln dX5_ruleKind_33 rfl ?_
        refine V_ldcS (i := 3) rfl dX5_ruleKind_34 ?_
        refine V_cV1d hM cvX5_150 (by assumption) rfl (e_X5_isWord hW hm hm8 h7 hs (by decide : 3 < mNT)) ⟨Nat.le_of_ble_eq_true rfl, Nat.le_of_ble_eq_true rfl, Nat.le_of_ble_eq_true rfl, Nat.le_of_ble_eq_true rfl⟩ (Nat.le_of_ble_eq_true rfl) dX5_ruleKind_36 ?_
        refine V_ifeq_b (tgt := 44) dX5_ruleKind_39 rfl (fun c39 => ?_) (fun c39 => ?_)
        · refine V_aln dX5_ruleKind_44 rfl ?_
          refine V_ldcS (i := 4) rfl dX5_ruleKind_45 ?_
          refine V_cV1d hM cvX5_150 (by assumption) rfl (e_X5_isWord hW hm hm8 h7 hs (by decide : 4 < mNT)) ⟨Nat.le_of_ble_eq_true rfl, Nat.le_of_ble_eq_true rfl, Nat.le_of_ble_eq_true rfl, Nat.le_of_ble_eq_true rfl⟩ (Nat.le_of_ble_eq_true rfl) dX5_ruleKind_47 ?_
          refine V_ifeq_b (tgt := 55) dX5_ruleKind_50 rfl (fun c50 => ?_) (fun c50 => ?_)
          · refine V_aln dX5_ruleKind_55 rfl ?_
            refine V_ldcS (i := 5) rfl dX5_ruleKind_56 ?_
            refine V_cV1d hM cvX5_150 (by assumption) rfl (e_X5_isWord hW hm hm8 h7 hs (by decide : 5 < mNT)) ⟨Nat.le_of_ble_eq_true rfl, Nat.le_of_ble_eq_true rfl, Nat.le_of_ble_eq_true rfl, Nat.le_of_ble_eq_true rfl⟩ (Nat.le_of_ble_eq_true rfl) dX5_ruleKind_58 ?_
            refine V_ifeq_b (tgt := 66) dX5_ruleKind_61 rfl (fun c61 => ?_) (fun c61 => ?_)
            · refine V_aln dX5_ruleKind_66 rfl ?_
              refine V_ldcS (i := 6) rfl dX5_ruleKind_67 ?_
              refine V_cV1d hM cvX5_150 (by assumption) rfl (e_X5_isWord hW hm hm8 h7 hs (by decide : 6 < mNT)) ⟨Nat.le_of_ble_eq_true rfl, Nat.le_of_ble_eq_true rfl, Nat.le_of_ble_eq_true rfl, Nat.le_of_ble_eq_true rfl⟩ (Nat.le_of_ble_eq_true rfl) dX5_ruleKind_69 ?_
              refine V_ifeq_b (tgt := 78) dX5_ruleKind_72 rfl (fun c72 => ?_) (fun c72 => ?_)
              · refine V_aln dX5_ruleKind_78 rfl ?_
                refine V_ldcS (i := 7) rfl dX5_ruleKind_79 ?_
                refine V_cV1d hM cvX5_150 (by assumption) rfl (e_X5_isWord hW hm hm8 h7 hs (by decide : 7 < mNT)) ⟨Nat.le_of_ble_eq_true rfl, Nat.le_of_ble_eq_true rfl, Nat.le_of_ble_eq_true rfl, Nat.le_of_ble_eq_true rfl⟩ (Nat.le_of_ble_eq_true rfl) dX5_ruleKind_81 ?_
                refine V_ifeq_b (tgt := 92) dX5_ruleKind_84 rfl (fun c84 => ?_) (fun c84 => ?_)
                · refine V_iconst (v := -1) rfl dX5_ruleKind_92 ?_
                  exact V_iret hM dX5_ruleKind_93 (⟨by simp [rkF, c6, c17, c28, c39, c50, c61, c72, c84], rfl, rfl, rfl, rfl⟩)
                · refine V_bipush (v := 7) rfl dX5_ruleKind_87 ?_
                  refine V_goto (tgt := 93) dX5_ruleKind_89 rfl ?_
                  exact V_iret hM dX5_ruleKind_93 (⟨by simp [rkF, c6, c17, c28, c39, c50, c61, c72, c84], rfl, rfl, rfl, rfl⟩)
              · refine V_bipush (v := 6) rfl dX5_ruleKind_75 ?_
                exact V_iret hM dX5_ruleKind_77 (⟨by simp [rkF, c6, c17, c28, c39, c50, c61, c72], rfl, rfl, rfl, rfl⟩)
            · refine V_iconst (v := 5) rfl dX5_ruleKind_64 ?_
              exact V_iret hM dX5_ruleKind_65 (⟨by simp [rkF, c6, c17, c28, c39, c50, c61], rfl, rfl, rfl, rfl⟩)
          · refine V_iconst (v := 4) rfl dX5_ruleKind_53 ?_
            exact V_iret hM dX5_ruleKind_54 (⟨by simp [rkF, c6, c17, c28, c39, c50], rfl, rfl, rfl, rfl⟩)
        · refine V_iconst (v := 3) rfl dX5_ruleKind_42 ?_
          exact V_iret hM dX5_ruleKind_43 (⟨by simp [rkF, c6, c17, c28, c39], rfl, rfl, rfl, rfl⟩)
      · refine V_iconst (v := 2) rfl dX5_ruleKind_31 ?_
        exact V_iret hM dX5_ruleKind_32 (⟨by simp [rkF, c6, c17, c28], rfl, rfl, rfl, rfl⟩)
    · refine V_iconst (v := 1) rfl dX5_ruleKind_20 ?_
      exact V_iret hM dX5_ruleKind_21 (⟨by simp [rkF, c6, c17], rfl, rfl, rfl, rfl⟩)
  · refine V_iconst (v := 0) rfl dX5_ruleKind_9 ?_
    exact V_iret hM dX5_ruleKind_10 (⟨by simp [rkF, c6], rfl, rfl, rfl, rfl⟩)
theorem e_X5_whenWord {m s : Nat} (hW : CW sh P) (hm : I 2 1 = nI m) (hm8 : m ≤ 800) (h7 : I 1 7 = nI s) (hs : s ≤ 900) : Ev X B mdX5_whenWord 0 0 [.ref (B + 1)] nx sh I P (mDet (some (.int (wwF (wdB I m)))) nx sh I P) := by
  have s1 : sh 1 = some (.inl 5) := hW.1 1 _ rfl
  refine Ev.of (by decide) (by simp [Value.category]) (by simp) (fun G hM => ?_)
  have hM : mM X B "whenWord" (some FieldType.int) 6 128 0 0 _ G := hM
  show V X B RX5 cX5_whenWord G 0 0 nx sh I P 0 [some (.ref (B + 1))] []
  refine V_aln dX5_whenWord_0 rfl ?_
  refine V_ldcS (i := 14) rfl dX5_whenWord_1 ?_
  refine V_cV1d hM cvX5_150 (by assumption) rfl (e_X5_isWord hW hm hm8 h7 hs (by decide : 14 < mNT)) ⟨Nat.le_of_ble_eq_true rfl, Nat.le_of_ble_eq_true rfl, Nat.le_of_ble_eq_true rfl, Nat.le_of_ble_eq_true rfl⟩ (Nat.le_of_ble_eq_true rfl) dX5_whenWord_3 ?_
  refine V_ifeq_b (tgt := 11) dX5_whenWord_6 rfl (fun c6 => ?_) (fun c6 => ?_)
  · refine V_aln dX5_whenWord_11 rfl ?_
    refine V_ldcS (i := 15) rfl dX5_whenWord_12 ?_
    refine V_cV1d hM cvX5_150 (by assumption) rfl (e_X5_isWord hW hm hm8 h7 hs (by decide : 15 < mNT)) ⟨Nat.le_of_ble_eq_true rfl, Nat.le_of_ble_eq_true rfl, Nat.le_of_ble_eq_true rfl, Nat.le_of_ble_eq_true rfl⟩ (Nat.le_of_ble_eq_true rfl) dX5_whenWord_14 ?_
    refine V_ifeq_b (tgt := 22) dX5_whenWord_17 rfl (fun c17 => ?_) (fun c17 => ?_)
    · refine V_aln dX5_whenWord_22 rfl ?_
      refine V_ldcS (i := 16) rfl dX5_whenWord_23 ?_
      refine V_cV1d hM cvX5_150 (by assumption) rfl (e_X5_isWord hW hm hm8 h7 hs (by decide : 16 < mNT)) ⟨Nat.le_of_ble_eq_true rfl, Nat.le_of_ble_eq_true rfl, Nat.le_of_ble_eq_true rfl, Nat.le_of_ble_eq_true rfl⟩ (Nat.le_of_ble_eq_true rfl) dX5_whenWord_25 ?_
      refine V_ifeq_b (tgt := 33) dX5_whenWord_28 rfl (fun c28 => ?_) (fun c28 => ?_)
      · refine V_aln dX5_whenWord_33 rfl ?_
        refine V_ldcS (i := 17) rfl dX5_whenWord_34 ?_
        refine V_cV1d hM cvX5_150 (by assumption) rfl (e_X5_isWord hW hm hm8 h7 hs (by decide : 17 < mNT)) ⟨Nat.le_of_ble_eq_true rfl, Nat.le_of_ble_eq_true rfl, Nat.le_of_ble_eq_true rfl, Nat.le_of_ble_eq_true rfl⟩ (Nat.le_of_ble_eq_true rfl) dX5_whenWord_36 ?_
        refine V_ifeq_b (tgt := 46) dX5_whenWord_39 rfl (fun c39 => ?_) (fun c39 => ?_)
        · refine V_iconst (v := -1) rfl dX5_whenWord_46 ?_
          exact V_iret hM dX5_whenWord_47 (⟨by simp [wwF, c6, c17, c28, c39], rfl, rfl, rfl, rfl⟩)
        · refine V_iconst (v := 3) rfl dX5_whenWord_42 ?_
          refine V_goto (tgt := 47) dX5_whenWord_43 rfl ?_
          exact V_iret hM dX5_whenWord_47 (⟨by simp [wwF, c6, c17, c28, c39], rfl, rfl, rfl, rfl⟩)
      · refine V_iconst (v := 2) rfl dX5_whenWord_31 ?_
        exact V_iret hM dX5_whenWord_32 (⟨by simp [wwF, c6, c17, c28], rfl, rfl, rfl, rfl⟩)
    · refine V_iconst (v := 1) rfl dX5_whenWord_20 ?_
      exact V_iret hM dX5_whenWord_21 (⟨by simp [wwF, c6, c17], rfl, rfl, rfl, rfl⟩)
  · refine V_iconst (v := 0) rfl dX5_whenWord_9 ?_
    exact V_iret hM dX5_whenWord_10 (⟨by simp [wwF, c6], rfl, rfl, rfl, rfl⟩)
theorem e_X5_startLine {m s dr : Nat} (hW : CW sh P) (hm : I 2 1 = nI m) (hm8 : m ≤ 800) (h7 : I 1 7 = nI s) (hs : s ≤ 900) (hdr : P 1 1 = some dr) (sdr : sh dr = some (.inl 0)) : Ev X B mdX5_startLine 0 0 [.ref (B + 1)] nx sh I P (mDet none nx sh (slM I m dr) P) := by
  have s1 : sh 1 = some (.inl 5) := hW.1 1 _ rfl
  have nd : dr ≠ 1 := sh_ne sdr s1 (by decide)
  refine Ev.of (by decide) (by simp [Value.category]) (by simp) (fun G hM => ?_)
  have hM : mM X B "startLine" none 7 148 0 0 _ G := hM
  show V X B RX5 cX5_startLine G 0 0 nx sh I P 0 [some (.ref (B + 1)), none] []
  refine V_aln dX5_startLine_0 rfl ?_
  refine V_cV0d hM cvX5_138 (by assumption) rfl (e_X5_ruleKind hW hm hm8 h7 hs) ⟨Nat.le_of_ble_eq_true rfl, Nat.le_of_ble_eq_true rfl, Nat.le_of_ble_eq_true rfl, Nat.le_of_ble_eq_true rfl⟩ (Nat.le_of_ble_eq_true rfl) dX5_startLine_1 ?_
  refine V_is1 dX5_startLine_4 ?_
  refine V_iln dX5_startLine_5 rfl ?_
  refine V_iconst (v := -1) rfl dX5_startLine_6 ?_
  refine V_icmp_eq (tgt := 40) dX5_startLine_7 rfl (fun c7 => ?_) (fun c7 => ?_)
  · refine V_aln dX5_startLine_40 rfl ?_
    refine V_ldcS (i := 8) rfl dX5_startLine_41 ?_
    refine V_cV1d hM cvX5_150 (by assumption) rfl (e_X5_isWord hW hm hm8 h7 hs (by decide : 8 < mNT)) ⟨Nat.le_of_ble_eq_true rfl, Nat.le_of_ble_eq_true rfl, Nat.le_of_ble_eq_true rfl, Nat.le_of_ble_eq_true rfl⟩ (Nat.le_of_ble_eq_true rfl) dX5_startLine_43 ?_
    refine V_ifeq_b (tgt := 59) dX5_startLine_46 rfl (fun c46 => ?_) (fun c46 => ?_)
    · refine V_aln dX5_startLine_59 rfl ?_
      refine V_ldcS (i := 9) rfl dX5_startLine_60 ?_
      refine V_cV1d hM cvX5_150 (by assumption) rfl (e_X5_isWord hW hm hm8 h7 hs (by decide : 9 < mNT)) ⟨Nat.le_of_ble_eq_true rfl, Nat.le_of_ble_eq_true rfl, Nat.le_of_ble_eq_true rfl, Nat.le_of_ble_eq_true rfl⟩ (Nat.le_of_ble_eq_true rfl) dX5_startLine_62 ?_
      refine V_ifeq_b (tgt := 93) dX5_startLine_65 rfl (fun c65 => ?_) (fun c65 => ?_)
      · refine V_aln dX5_startLine_93 rfl ?_
        refine V_ldcS (i := 10) rfl dX5_startLine_94 ?_
        refine V_cV1d hM cvX5_150 (by assumption) rfl (e_X5_isWord hW hm hm8 h7 hs (by decide : 10 < mNT)) ⟨Nat.le_of_ble_eq_true rfl, Nat.le_of_ble_eq_true rfl, Nat.le_of_ble_eq_true rfl, Nat.le_of_ble_eq_true rfl⟩ (Nat.le_of_ble_eq_true rfl) dX5_startLine_96 ?_
        refine V_ifeq_b (tgt := 127) dX5_startLine_99 rfl (fun c99 => ?_) (fun c99 => ?_)
        · refine V_aln dX5_startLine_127 rfl ?_
          refine V_iconst (v := 1) rfl dX5_startLine_128 ?_
          refine V_cV1n hM cvX5_156 (by assumption) rfl (e_X5_blame s1) ⟨Nat.le_of_ble_eq_true rfl, Nat.le_of_ble_eq_true rfl, Nat.le_of_ble_eq_true rfl, Nat.le_of_ble_eq_true rfl⟩ (Nat.le_of_ble_eq_true rfl) dX5_startLine_129 ?_
          exact V_vret hM dX5_startLine_132 (⟨rfl, rfl, rfl, by simp [slM, c7, c46, c65, c99], rfl⟩)
        · refine V_aln dX5_startLine_102 rfl ?_
          refine V_aln dX5_startLine_103 rfl ?_
          refine V_getR dX5_startLine_104 flX5_21 (by assumption) rfl (by assumption) ?_
          refine V_getI dX5_startLine_107 flX5_132 (by assumption) rfl ?_
          refine V_iconst (v := -1) rfl dX5_startLine_110 ?_
          refine V_icmp_eq (tgt := 118) dX5_startLine_111 rfl (fun c111 => ?_) (fun c111 => ?_)
          · refine V_iconst (v := 0) rfl dX5_startLine_118 ?_
            refine V_bipush (v := 11) rfl dX5_startLine_119 ?_
            refine V_cV2n hM cvX5_144 (by assumption) rfl (e_X5_goOn s1) ⟨Nat.le_of_ble_eq_true rfl, Nat.le_of_ble_eq_true rfl, Nat.le_of_ble_eq_true rfl, Nat.le_of_ble_eq_true rfl⟩ (Nat.le_of_ble_eq_true rfl) dX5_startLine_121 ?_
            refine V_goto (tgt := 132) dX5_startLine_124 rfl ?_
            exact V_vret hM dX5_startLine_132 (⟨rfl, rfl, rfl, by simp [slM, c7, c46, c65, c99, c111], rfl⟩)
          · refine V_iconst (v := 3) rfl dX5_startLine_114 ?_
            refine V_goto (tgt := 119) dX5_startLine_115 rfl ?_
            refine V_bipush (v := 11) rfl dX5_startLine_119 ?_
            refine V_cV2n hM cvX5_144 (by assumption) rfl (e_X5_goOn s1) ⟨Nat.le_of_ble_eq_true rfl, Nat.le_of_ble_eq_true rfl, Nat.le_of_ble_eq_true rfl, Nat.le_of_ble_eq_true rfl⟩ (Nat.le_of_ble_eq_true rfl) dX5_startLine_121 ?_
            refine V_goto (tgt := 132) dX5_startLine_124 rfl ?_
            exact V_vret hM dX5_startLine_132 (⟨rfl, rfl, rfl, by simp [slM, c7, c46, c65, c99, c111], rfl⟩)
      · refine V_aln dX5_startLine_68 rfl ?_
        refine V_aln dX5_startLine_69 rfl ?_
        refine V_getR dX5_startLine_70 flX5_21 (by assumption) rfl (by assumption) ?_
        refine V_getI dX5_startLine_73 flX5_129 (by assumption) rfl ?_
        refine V_iconst (v := -1) rfl dX5_startLine_76 ?_
        refine V_icmp_eq (tgt := 84) dX5_startLine_77 rfl (fun c77 => ?_) (fun c77 => ?_)
        · refine V_iconst (v := 0) rfl dX5_startLine_84 ?_
          refine V_bipush (v := 10) rfl dX5_startLine_85 ?_
          refine V_cV2n hM cvX5_144 (by assumption) rfl (e_X5_goOn s1) ⟨Nat.le_of_ble_eq_true rfl, Nat.le_of_ble_eq_true rfl, Nat.le_of_ble_eq_true rfl, Nat.le_of_ble_eq_true rfl⟩ (Nat.le_of_ble_eq_true rfl) dX5_startLine_87 ?_
          refine V_goto (tgt := 132) dX5_startLine_90 rfl ?_
          exact V_vret hM dX5_startLine_132 (⟨rfl, rfl, rfl, by simp [slM, c7, c46, c65, c77], rfl⟩)
        · refine V_iconst (v := 3) rfl dX5_startLine_80 ?_
          refine V_goto (tgt := 85) dX5_startLine_81 rfl ?_
          refine V_bipush (v := 10) rfl dX5_startLine_85 ?_
          refine V_cV2n hM cvX5_144 (by assumption) rfl (e_X5_goOn s1) ⟨Nat.le_of_ble_eq_true rfl, Nat.le_of_ble_eq_true rfl, Nat.le_of_ble_eq_true rfl, Nat.le_of_ble_eq_true rfl⟩ (Nat.le_of_ble_eq_true rfl) dX5_startLine_87 ?_
          refine V_goto (tgt := 132) dX5_startLine_90 rfl ?_
          exact V_vret hM dX5_startLine_132 (⟨rfl, rfl, rfl, by simp [slM, c7, c46, c65, c77], rfl⟩)
    · refine V_aln dX5_startLine_49 rfl ?_
      refine V_iconst (v := 0) rfl dX5_startLine_50 ?_
      refine V_bipush (v := 9) rfl dX5_startLine_51 ?_
      refine V_cV2n hM cvX5_144 (by assumption) rfl (e_X5_goOn s1) ⟨Nat.le_of_ble_eq_true rfl, Nat.le_of_ble_eq_true rfl, Nat.le_of_ble_eq_true rfl, Nat.le_of_ble_eq_true rfl⟩ (Nat.le_of_ble_eq_true rfl) dX5_startLine_53 ?_
      refine V_goto (tgt := 132) dX5_startLine_56 rfl ?_
      exact V_vret hM dX5_startLine_132 (⟨rfl, rfl, rfl, by simp [slM, c7, c46], rfl⟩)
  · refine V_aln dX5_startLine_10 rfl ?_
    refine V_iln dX5_startLine_11 rfl ?_
    refine V_putI dX5_startLine_12 flX5_50 (by assumption) rfl rfl ?_
    refine V_aln dX5_startLine_15 rfl ?_
    refine V_aln dX5_startLine_16 rfl ?_
    refine V_getR dX5_startLine_17 flX5_21 (by assumption) rfl (by assumption) ?_
    refine V_getIv dX5_startLine_20 flX5_141 (by assumption) rfl (mUp_c nd) ?_
    refine V_bipush (v := 12) rfl dX5_startLine_23 ?_
    refine V_icmp_lt (tgt := 32) dX5_startLine_25 rfl (fun c25 => ?_) (fun c25 => ?_)
    · refine V_iconst (v := 0) rfl dX5_startLine_32 ?_
      refine V_iconst (v := 1) rfl dX5_startLine_33 ?_
      refine V_cV2n hM cvX5_144 (by assumption) rfl (e_X5_goOn s1) ⟨Nat.le_of_ble_eq_true rfl, Nat.le_of_ble_eq_true rfl, Nat.le_of_ble_eq_true rfl, Nat.le_of_ble_eq_true rfl⟩ (Nat.le_of_ble_eq_true rfl) dX5_startLine_34 ?_
      refine V_goto (tgt := 132) dX5_startLine_37 rfl ?_
      exact V_vret hM dX5_startLine_132 (⟨rfl, rfl, rfl, by simp [slM, c7, c25], rfl⟩)
    · refine V_iconst (v := 4) rfl dX5_startLine_28 ?_
      refine V_goto (tgt := 33) dX5_startLine_29 rfl ?_
      refine V_iconst (v := 1) rfl dX5_startLine_33 ?_
      refine V_cV2n hM cvX5_144 (by assumption) rfl (e_X5_goOn s1) ⟨Nat.le_of_ble_eq_true rfl, Nat.le_of_ble_eq_true rfl, Nat.le_of_ble_eq_true rfl, Nat.le_of_ble_eq_true rfl⟩ (Nat.le_of_ble_eq_true rfl) dX5_startLine_34 ?_
      refine V_goto (tgt := 132) dX5_startLine_37 rfl ?_
      exact V_vret hM dX5_startLine_132 (⟨rfl, rfl, rfl, by simp [slM, c7, c25], rfl⟩)
theorem e_X5_readWho {m s : Nat} (hW : CW sh P) (hm : I 2 1 = nI m) (hm8 : m ≤ 800) (h7 : I 1 7 = nI s) (hs : s ≤ 900) : Ev X B mdX5_readWho 0 0 [.ref (B + 1)] nx sh I P (mDet none nx sh (whoM I m) P) := by
  have s1 : sh 1 = some (.inl 5) := hW.1 1 _ rfl
  refine Ev.of (by decide) (by simp [Value.category]) (by simp) (fun G hM => ?_)
  have hM : mM X B "readWho" none 7 150 0 0 _ G := hM
  show V X B RX5 cX5_readWho G 0 0 nx sh I P 0 [some (.ref (B + 1))] []
  refine V_aln dX5_readWho_0 rfl ?_
  refine V_ldcS (i := 11) rfl dX5_readWho_1 ?_
  refine V_cV1d hM cvX5_150 (by assumption) rfl (e_X5_isWord hW hm hm8 h7 hs (by decide : 11 < mNT)) ⟨Nat.le_of_ble_eq_true rfl, Nat.le_of_ble_eq_true rfl, Nat.le_of_ble_eq_true rfl, Nat.le_of_ble_eq_true rfl⟩ (Nat.le_of_ble_eq_true rfl) dX5_readWho_3 ?_
  refine V_ifeq_b (tgt := 29) dX5_readWho_6 rfl (fun c6 => ?_) (fun c6 => ?_)
  · refine V_aln dX5_readWho_29 rfl ?_
    refine V_ldcS (i := 12) rfl dX5_readWho_30 ?_
    refine V_iconst (v := 3) rfl dX5_readWho_32 ?_
    refine V_cV2n hM cvX5_113 (by assumption) rfl (e_X5_takeWord hW hm hm8 h7 hs (by decide : 12 < mNT)) ⟨Nat.le_of_ble_eq_true rfl, Nat.le_of_ble_eq_true rfl, Nat.le_of_ble_eq_true rfl, Nat.le_of_ble_eq_true rfl⟩ (Nat.le_of_ble_eq_true rfl) dX5_readWho_33 ?_
    exact V_vret hM dX5_readWho_36 (⟨rfl, rfl, rfl, by simp [whoM, c6], rfl⟩)
  · refine V_aln dX5_readWho_9 rfl ?_
    refine V_iconst (v := 0) rfl dX5_readWho_10 ?_
    refine V_putI dX5_readWho_11 flX5_56 (by assumption) rfl rfl ?_
    refine V_aln dX5_readWho_14 rfl ?_
    refine V_bipush (v := 9) rfl dX5_readWho_15 ?_
    refine V_putI dX5_readWho_17 flX5_59 (by assumption) rfl rfl ?_
    refine V_aln dX5_readWho_20 rfl ?_
    refine V_bipush (v := 6) rfl dX5_readWho_21 ?_
    refine V_putI dX5_readWho_23 flX5_35 (by assumption) rfl rfl ?_
    refine V_goto (tgt := 36) dX5_readWho_26 rfl ?_
    exact V_vret hM dX5_readWho_36 (⟨rfl, rfl, rfl, by simp [whoM, c6], rfl⟩)
theorem e_X5_readWhen {m s : Nat} (hW : CW sh P) (hm : I 2 1 = nI m) (hm8 : m ≤ 800) (h7 : I 1 7 = nI s) (hs : s ≤ 900) : Ev X B mdX5_readWhen 0 0 [.ref (B + 1)] nx sh I P (mDet none nx sh (whnM I m) P) := by
  have s1 : sh 1 = some (.inl 5) := hW.1 1 _ rfl
  refine Ev.of (by decide) (by simp [Value.category]) (by simp) (fun G hM => ?_)
  have hM : mM X B "readWhen" none 7 148 0 0 _ G := hM
  show V X B RX5 cX5_readWhen G 0 0 nx sh I P 0 [some (.ref (B + 1))] []
  refine V_aln dX5_readWhen_0 rfl ?_
  refine V_aln dX5_readWhen_1 rfl ?_
  refine V_cV0d hM cvX5_179 (by assumption) rfl (e_X5_whenWord hW hm hm8 h7 hs) ⟨Nat.le_of_ble_eq_true rfl, Nat.le_of_ble_eq_true rfl, Nat.le_of_ble_eq_true rfl, Nat.le_of_ble_eq_true rfl⟩ (Nat.le_of_ble_eq_true rfl) dX5_readWhen_2 ?_
  refine V_putI dX5_readWhen_5 flX5_62 (by assumption) rfl rfl ?_
  refine V_aln dX5_readWhen_8 rfl ?_
  refine V_aln dX5_readWhen_9 rfl ?_
  refine V_getIv dX5_readWhen_10 flX5_62 (by assumption) rfl (mUp_s) ?_
  refine V_iconst (v := -1) rfl dX5_readWhen_13 ?_
  refine V_icmp_ne (tgt := 21) dX5_readWhen_14 rfl (fun c14 => ?_) (fun c14 => ?_)
  · refine V_iconst (v := 0) rfl dX5_readWhen_21 ?_
    refine V_bipush (v := 7) rfl dX5_readWhen_22 ?_
    refine V_cV2n hM cvX5_144 (by assumption) rfl (e_X5_goOn s1) ⟨Nat.le_of_ble_eq_true rfl, Nat.le_of_ble_eq_true rfl, Nat.le_of_ble_eq_true rfl, Nat.le_of_ble_eq_true rfl⟩ (Nat.le_of_ble_eq_true rfl) dX5_readWhen_24 ?_
    exact V_vret hM dX5_readWhen_27 (⟨rfl, rfl, rfl, by simp [whnM, c14], rfl⟩)
  · refine V_iconst (v := 1) rfl dX5_readWhen_17 ?_
    refine V_goto (tgt := 22) dX5_readWhen_18 rfl ?_
    refine V_bipush (v := 7) rfl dX5_readWhen_22 ?_
    refine V_cV2n hM cvX5_144 (by assumption) rfl (e_X5_goOn s1) ⟨Nat.le_of_ble_eq_true rfl, Nat.le_of_ble_eq_true rfl, Nat.le_of_ble_eq_true rfl, Nat.le_of_ble_eq_true rfl⟩ (Nat.le_of_ble_eq_true rfl) dX5_readWhen_24 ?_
    exact V_vret hM dX5_readWhen_27 (⟨rfl, rfl, rfl, by simp [whnM, c14], rfl⟩)
theorem e_X5_endLine (s1 : sh 1 = some (.inl 5)) : Ev X B mdX5_endLine 0 0 [.ref (B + 1)] nx sh I P (mDet none nx sh (goOnM I (if I 1 6 = 3 then 0 else 1) 0) P) := by
  refine Ev.of (by decide) (by simp [Value.category]) (by simp) (fun G hM => ?_)
  have hM : mM X B "endLine" none 2 43 0 0 _ G := hM
  show V X B RX5 cX5_endLine G 0 0 nx sh I P 0 [some (.ref (B + 1))] []
  refine V_aln dX5_endLine_0 rfl ?_
  refine V_aln dX5_endLine_1 rfl ?_
  refine V_getI dX5_endLine_2 flX5_38 (by assumption) rfl ?_
  refine V_iconst (v := 3) rfl dX5_endLine_5 ?_
  refine V_icmp_ne (tgt := 13) dX5_endLine_6 rfl (fun c6 => ?_) (fun c6 => ?_)
  · refine V_iconst (v := 1) rfl dX5_endLine_13 ?_
    refine V_iconst (v := 0) rfl dX5_endLine_14 ?_
    refine V_cV2n hM cvX5_144 (by assumption) rfl (e_X5_goOn s1) ⟨Nat.le_of_ble_eq_true rfl, Nat.le_of_ble_eq_true rfl, Nat.le_of_ble_eq_true rfl, Nat.le_of_ble_eq_true rfl⟩ (Nat.le_of_ble_eq_true rfl) dX5_endLine_15 ?_
    exact V_vret hM dX5_endLine_18 (⟨rfl, rfl, rfl, by simp [c6], rfl⟩)
  · refine V_iconst (v := 0) rfl dX5_endLine_9 ?_
    refine V_goto (tgt := 14) dX5_endLine_10 rfl ?_
    refine V_iconst (v := 0) rfl dX5_endLine_14 ?_
    refine V_cV2n hM cvX5_144 (by assumption) rfl (e_X5_goOn s1) ⟨Nat.le_of_ble_eq_true rfl, Nat.le_of_ble_eq_true rfl, Nat.le_of_ble_eq_true rfl, Nat.le_of_ble_eq_true rfl⟩ (Nat.le_of_ble_eq_true rfl) dX5_endLine_15 ?_
    exact V_vret hM dX5_endLine_18 (⟨rfl, rfl, rfl, by simp [c6], rfl⟩)
theorem goOnM_o {f t : Int32} {c k : Nat} (h : c ≠ 1) : goOnM I f t c k = I c k := by
  unfold goOnM blameM
  split
  · exact mUp_c h
  · rw [mUp_c h, mUp_c h]
theorem tkM_o {lo hi t : Int32} {c k : Nat} (h : c ≠ 1) : tkM I lo hi t c k = I c k := by
  unfold tkM blameM
  split
  · split
    · rw [mUp_c h, mUp_c h]
    · exact mUp_c h
  · rw [mUp_c h, mUp_c h]
theorem e_X5_readRepeal {dr : Nat} (hW : CW sh P) (hdr : P 1 1 = some dr) (sdr : sh dr = some (.inl 0)) (h33 : I 1 3 = 0) : Ev X B mdX5_readRepeal 0 0 [.ref (B + 1)] nx sh I P (mDet none nx sh (repM I dr) P) := by
  have s1 : sh 1 = some (.inl 5) := hW.1 1 _ rfl
  have nd : dr ≠ 1 := sh_ne sdr s1 (by decide)
  refine Ev.of (by decide) (by simp [Value.category]) (by simp) (fun G hM => ?_)
  have hM : mM X B "readRepeal" none 2 44 0 0 _ G := hM
  show V X B RX5 cX5_readRepeal G 0 0 nx sh I P 0 [some (.ref (B + 1)), none] []
  refine V_iconst (v := 1) rfl dX5_readRepeal_0 ?_
  refine V_aln dX5_readRepeal_1 rfl ?_
  refine V_iconst (v := 0) rfl dX5_readRepeal_2 ?_
  refine V_aln dX5_readRepeal_3 rfl ?_
  refine V_getI dX5_readRepeal_4 flX5_25 (by assumption) rfl ?_
  refine V_iconst (v := 1) rfl dX5_readRepeal_7 ?_
  refine V_isub dX5_readRepeal_8 ?_
  refine V_bipush (v := 12) rfl dX5_readRepeal_9 ?_
  refine V_cV3d hM cvX5_104 (by assumption) rfl (e_X5_takeNumber s1) ⟨Nat.le_of_ble_eq_true rfl, Nat.le_of_ble_eq_true rfl, Nat.le_of_ble_eq_true rfl, Nat.le_of_ble_eq_true rfl⟩ (Nat.le_of_ble_eq_true rfl) dX5_readRepeal_11 ?_
  refine V_ishl dX5_readRepeal_14 ?_
  refine V_is1 dX5_readRepeal_15 ?_
  refine V_aln dX5_readRepeal_16 rfl ?_
  refine V_getI dX5_readRepeal_17 flX5_29 (by assumption) rfl ?_
  refine V_if_ne (tgt := 59) dX5_readRepeal_20 rfl (fun c20 => ?_) (fun c20 => ?_)
  · exact V_vret hM dX5_readRepeal_59 (⟨rfl, rfl, rfl, by simp only [repM]; first | (rw [if_neg c20]; done) | (rw [if_pos (by first | exact c20 | exact Classical.not_not.mp c20)]; first | (rw [if_pos c33]; done) | (rw [if_neg c33]; done)), rfl⟩)
  · refine V_aln dX5_readRepeal_23 rfl ?_
    refine V_aln dX5_readRepeal_24 rfl ?_
    refine V_getR dX5_readRepeal_25 flX5_21 (by assumption) rfl (by assumption) ?_
    refine V_getIv dX5_readRepeal_28 flX5_199 (by assumption) rfl (tkM_o nd) ?_
    refine V_iln dX5_readRepeal_31 rfl ?_
    refine V_iand dX5_readRepeal_32 ?_
    refine V_if_eq (tgt := 40) dX5_readRepeal_33 rfl (fun c33 => ?_) (fun c33 => ?_)
    · refine V_iconst (v := 0) rfl dX5_readRepeal_40 ?_
      refine V_bipush (v := 12) rfl dX5_readRepeal_41 ?_
      refine V_cV2n hM cvX5_144 (by assumption) rfl (e_X5_goOn s1) ⟨Nat.le_of_ble_eq_true rfl, Nat.le_of_ble_eq_true rfl, Nat.le_of_ble_eq_true rfl, Nat.le_of_ble_eq_true rfl⟩ (Nat.le_of_ble_eq_true rfl) dX5_readRepeal_43 ?_
      refine V_aln dX5_readRepeal_46 rfl ?_
      refine V_getR dX5_readRepeal_47 flX5_21 (by assumption) rfl (by assumption) ?_
      refine V_dup rfl dX5_readRepeal_50 ?_
      refine V_getIv dX5_readRepeal_51 flX5_199 (by assumption) rfl ((goOnM_o nd).trans (tkM_o nd)) ?_
      refine V_iln dX5_readRepeal_54 rfl ?_
      refine V_ior dX5_readRepeal_55 ?_
      refine V_putI dX5_readRepeal_56 flX5_199 (by assumption) rfl rfl ?_
      exact V_vret hM dX5_readRepeal_59 (⟨rfl, rfl, rfl, by simp only [repM]; first | (rw [if_neg c20]; done) | (rw [if_pos (by first | exact c20 | exact Classical.not_not.mp c20)]; first | (rw [if_pos c33]; done) | (rw [if_neg c33]; done)), rfl⟩)
    · refine V_iconst (v := 3) rfl dX5_readRepeal_36 ?_
      refine V_goto (tgt := 41) dX5_readRepeal_37 rfl ?_
      refine V_bipush (v := 12) rfl dX5_readRepeal_41 ?_
      refine V_cV2n hM cvX5_144 (by assumption) rfl (e_X5_goOn s1) ⟨Nat.le_of_ble_eq_true rfl, Nat.le_of_ble_eq_true rfl, Nat.le_of_ble_eq_true rfl, Nat.le_of_ble_eq_true rfl⟩ (Nat.le_of_ble_eq_true rfl) dX5_readRepeal_43 ?_
      refine V_aln dX5_readRepeal_46 rfl ?_
      refine V_getR dX5_readRepeal_47 flX5_21 (by assumption) rfl (by assumption) ?_
      refine V_dup rfl dX5_readRepeal_50 ?_
      refine V_getIv dX5_readRepeal_51 flX5_199 (by assumption) rfl ((goOnM_o nd).trans (tkM_o nd)) ?_
      refine V_iln dX5_readRepeal_54 rfl ?_
      refine V_ior dX5_readRepeal_55 ?_
      refine V_putI dX5_readRepeal_56 flX5_199 (by assumption) rfl rfl ?_
      exact V_vret hM dX5_readRepeal_59 (⟨rfl, rfl, rfl, by simp only [repM]; first | (rw [if_neg c20]; done) | (rw [if_pos (by first | exact c20 | exact Classical.not_not.mp c20)]; first | (rw [if_pos c33]; done) | (rw [if_neg c33]; done)), rfl⟩)
theorem e_X7_init {o : Nat} {k l a b w p : Int32} (h1 : sh o = some (.inl 7)) : Ev X B mdX7_init 0 0 [.ref (B + o), .int k, .int l, .int a, .int b, .int w, .int p] nx sh I P (mDet none nx sh (ruI I o k l a b w p) P) := by
  refine Ev.of (by decide) (by simp [Value.category]) (by simp) (fun G hM => ?_)
  have hM : mM X B "<init>" none 1 20 0 0 _ G := hM
  show V X B RX7 cX7_init G 0 0 nx sh I P 0 [some (.ref (B + o)), some (.int k), some (.int l), some (.int a), some (.int b), some (.int w), some (.int p)] []
  refine V_aln dX7_init_0 rfl ?_
  refine V_obj hM lkX7_3 wO1 wO2 (Nat.le_of_ble_eq_true rfl) (Nat.le_of_ble_eq_true rfl) dX7_init_1 ?_
  refine V_aln dX7_init_4 rfl ?_
  refine V_iln dX7_init_5 rfl ?_
  refine V_putIF hM dX7_init_6 flX7_9 (by assumption) rfl rfl rfl ?_
  refine V_aln dX7_init_9 rfl ?_
  refine V_iln dX7_init_10 rfl ?_
  refine V_putIF hM dX7_init_11 flX7_15 (by assumption) rfl rfl rfl ?_
  refine V_aln dX7_init_14 rfl ?_
  refine V_iln dX7_init_15 rfl ?_
  refine V_putIF hM dX7_init_16 flX7_18 (by assumption) rfl rfl rfl ?_
  refine V_aln dX7_init_19 rfl ?_
  refine V_il dX7_init_20 rfl ?_
  refine V_putIF hM dX7_init_22 flX7_21 (by assumption) rfl rfl rfl ?_
  refine V_aln dX7_init_25 rfl ?_
  refine V_il dX7_init_26 rfl ?_
  refine V_putIF hM dX7_init_28 flX7_24 (by assumption) rfl rfl rfl ?_
  refine V_aln dX7_init_31 rfl ?_
  refine V_il dX7_init_32 rfl ?_
  refine V_putIF hM dX7_init_34 flX7_27 (by assumption) rfl rfl rfl ?_
  exact V_vret hM dX7_init_37 (mDet.rf)
/-- a rule more, whatever the others are -/
theorem fin_add {o rl m u : Nat} (h1 : sh o = some (.inl 0)) (h2 : P o 1 = some rl) (h3 : sh rl = some (.inr (5, 12))) (h4 : I o 2 = nI m) (hm : m < 12) (hu : sh u = some (.inl 7)) : Ev X B mdX0_add 0 0 [.ref (B + o), .ref (B + u)] nx sh I P (mDet none nx sh (mUp I o 2 (nI (m + 1))) (mUp P rl m (some u))) := by
  refine Ev.of (by decide) (by simp [Value.category]) (by simp) (fun G hM => ?_)
  have hM : mM X B "add" none 0 0 0 0 _ G := hM
  show V X B RX0 cX0_add G 0 0 nx sh I P 0 [some (.ref (B + o)), some (.ref (B + u))] []
  refine V_aln dX0_add_0 rfl ?_
  refine V_getIv dX0_add_1 flX0_21 (by assumption) rfl (h4) ?_
  refine V_aln dX0_add_4 rfl ?_
  refine V_getR dX0_add_5 flX0_17 (by assumption) rfl (by assumption) ?_
  refine V_alen dX0_add_8 (by assumption) rfl ?_
  refine V_icmp_ge (tgt := 32) dX0_add_9 rfl (fun c9 => ?_) (fun c9 => ?_)
  · exact absurd (nN_le c9 (by omega) (by omega)) (by omega) --done
  · refine V_aln dX0_add_12 rfl ?_
    refine V_getR dX0_add_13 flX0_17 (by assumption) rfl (by assumption) ?_
    refine V_aln dX0_add_16 rfl ?_
    refine V_getIv dX0_add_17 flX0_21 (by assumption) rfl (h4) ?_
    refine V_aln dX0_add_20 rfl ?_
    refine V_aastN dX0_add_21 (by assumption) (by decide) (by assumption) (by omega) (by omega) ?_
    refine V_aln dX0_add_22 rfl ?_
    refine V_dup rfl dX0_add_23 ?_
    refine V_getIv dX0_add_24 flX0_21 (by assumption) rfl (h4) ?_
    refine V_iconst (v := 1) rfl dX0_add_27 ?_
    refine V_iadd dX0_add_28 ?_
    refine V_top (nI_inc' m) ?_
    refine V_putI dX0_add_29 flX0_21 (by assumption) rfl rfl ?_
    exact V_vret hM dX0_add_32 (mDet.rf)
def finI (I : mI) (nx dr n : Nat) (p : Int32) : mI := mUp (ruI (mNI I nx) nx (I 1 10) (I 1 11) (I 1 12) (I 1 13) (I 1 14) p) dr 2 (nI (n + 1))
def finP (P : mP) (nx rl n : Nat) : mP := mUp (mNP P nx) rl n (some nx)
theorem e_X5_finishRule {dr rl n : Nat} {p : Int32} (hW : CW sh P) (hdr : P 1 1 = some dr) (sdr : sh dr = some (.inl 0)) (hrl : P dr 1 = some rl) (srl : sh rl = some (.inr (5, 12))) (h33 : I 1 3 = 0) (hn : I dr 2 = nI n) (hn2 : n < 12) (h100 : 76 ≤ nx) (ndr : dr < nx) (nrl : rl < nx) : Ev X B mdX5_finishRule 1 6 [.ref (B + 1), .int p] nx sh I P (mDet none (nx + 1) (mUs sh nx (.inl 7)) (finI I nx dr n p) (finP P nx rl n)) := by
  have s1 : sh 1 = some (.inl 5) := hW.1 1 _ rfl
  have nd : dr ≠ 1 := sh_ne sdr s1 (by decide)
  have t0 : mUs sh nx (.inl 7) nx = some (.inl 7) := by simp [mUs]
  have t1 : mUs sh nx (.inl 7) dr = some (.inl 0) := by unfold mUs; rw [if_neg (by omega)]; exact sdr
  have t2 : mUs sh nx (.inl 7) rl = some (.inr (5, 12)) := by unfold mUs; rw [if_neg (by omega)]; exact srl
  have t3 : mUs sh nx (.inl 7) 1 = some (.inl 5) := by unfold mUs; rw [if_neg (by omega)]; exact s1
  have v3 : ∀ k, mNI I nx 1 k = I 1 k := fun k => by unfold mNI; rw [if_neg (by omega)]
  have hd2 : ruI (mNI I nx) nx (I 1 10) (I 1 11) (I 1 12) (I 1 13) (I 1 14) p dr 2 = nI n := by
    rw [← hn]
    have : dr ≠ nx := by omega
    simp [ruI, mUp, mNI, this]
  have hp2 : mNP P nx dr 1 = some rl := by unfold mNP; rw [if_neg (by omega)]; exact hrl
  refine Ev.of (by decide) (by simp [Value.category]) (by simp) (fun G hM => ?_)
  have hM : mM X B "finishRule" none 2 46 1 6 _ G := hM
  show V X B RX5 cX5_finishRule G 0 0 nx sh I P 0 [some (.ref (B + 1)), some (.int p)] []
  refine V_aln dX5_finishRule_0 rfl ?_
  refine V_getI dX5_finishRule_1 flX5_29 (by assumption) rfl ?_
  refine V_if_ne (tgt := 42) dX5_finishRule_4 rfl (fun c4 => ?_) (fun c4 => ?_)
  · exact absurd h33 c4 --done
  · refine V_aln dX5_finishRule_7 rfl ?_
    refine V_getR dX5_finishRule_8 flX5_21 (by assumption) rfl (by assumption) ?_
    refine V_new (ci := 7) hM (by decide) klX5_190 kt7 ki7 (fun _ => df7) (Nat.le_of_ble_eq_true rfl) (Nat.le_of_ble_eq_true rfl) dX5_finishRule_11 ?_
    refine V_dup rfl dX5_finishRule_14 ?_
    refine V_aln dX5_finishRule_15 rfl ?_
    refine V_getIv dX5_finishRule_16 flX5_50 (by assumption) rfl (v3 10) ?_
    refine V_aln dX5_finishRule_19 rfl ?_
    refine V_getIv dX5_finishRule_20 flX5_53 (by assumption) rfl (v3 11) ?_
    refine V_aln dX5_finishRule_23 rfl ?_
    refine V_getIv dX5_finishRule_24 flX5_56 (by assumption) rfl (v3 12) ?_
    refine V_aln dX5_finishRule_27 rfl ?_
    refine V_getIv dX5_finishRule_28 flX5_59 (by assumption) rfl (v3 13) ?_
    refine V_aln dX5_finishRule_31 rfl ?_
    refine V_getIv dX5_finishRule_32 flX5_62 (by assumption) rfl (v3 14) ?_
    refine V_iln dX5_finishRule_35 rfl ?_
    refine V_cI6n hM cvX5_192 (e_X7_init t0) ⟨Nat.le_of_ble_eq_true rfl, Nat.le_of_ble_eq_true rfl, Nat.le_of_ble_eq_true rfl, Nat.le_of_ble_eq_true rfl⟩ (Nat.le_of_ble_eq_true rfl) dX5_finishRule_36 ?_
    refine V_cV1n hM cvX5_195 (by assumption) rfl (fin_add t1 hp2 t2 hd2 hn2 t0) ⟨Nat.le_of_ble_eq_true rfl, Nat.le_of_ble_eq_true rfl, Nat.le_of_ble_eq_true rfl, Nat.le_of_ble_eq_true rfl⟩ (Nat.le_of_ble_eq_true rfl) dX5_finishRule_39 ?_
    exact V_vret hM dX5_finishRule_42 (mDet.rf)
theorem e_X5_finishRuleN {p : Int32} (s1 : sh 1 = some (.inl 5)) (h33 : ¬ I 1 3 = 0) : Ev X B mdX5_finishRule 1 6 [.ref (B + 1), .int p] nx sh I P (mDet none nx sh I P) := by
  refine Ev.of (by decide) (by simp [Value.category]) (by simp) (fun G hM => ?_)
  have hM : mM X B "finishRule" none 2 46 1 6 _ G := hM
  show V X B RX5 cX5_finishRule G 0 0 nx sh I P 0 [some (.ref (B + 1)), some (.int p)] []
  refine V.widen (a := 1) (b := 6) (by omega) (by omega) ?_
  refine V_aln dX5_finishRule_0 rfl ?_
  refine V_getI dX5_finishRule_1 flX5_29 (by assumption) rfl ?_
  refine V_if_ne (tgt := 42) dX5_finishRule_4 rfl (fun c4 => ?_) (fun c4 => ?_)
  · exact V_vret hM dX5_finishRule_42 (mDet.rf)
  · exact absurd (by first | exact c4 | exact Classical.not_not.mp c4) h33 --done
theorem e_X5_step0 {m s dr : Nat} (hW : CW sh P) (hm : I 2 1 = nI m) (hm8 : m ≤ 800) (h7 : I 1 7 = nI s) (hs : s ≤ 900) (hdr : P 1 1 = some dr) (sdr : sh dr = some (.inl 0)) (h33 : I 1 3 = 0) (h5 : I 1 5 = 0) : Ev X B mdX5_step 1 6 [.ref (B + 1)] nx sh I P (mDet none nx sh (slM I m dr) P) := by
  have s1 : sh 1 = some (.inl 5) := hW.1 1 _ rfl
  refine Ev.of (by decide) (by simp [Value.category]) (by simp) (fun G hM => ?_)
  have hM : mM X B "step" none 8 170 1 6 _ G := hM
  show V X B RX5 cX5_step G 0 0 nx sh I P 0 [some (.ref (B + 1))] []
  refine V.widen (a := 1) (b := 6) (by omega) (by omega) ?_
  refine V_aln dX5_step_0 rfl ?_
  refine V_getI dX5_step_1 flX5_35 (by assumption) rfl ?_
  refine V_tsw_0_11 (td := 224) (t0 := 68) (t1 := 75) (t2 := 92) (t3 := 99) (t4 := 114) (t5 := 124) (t6 := 143) (t7 := 150) (t8 := 161) (t9 := 178) (t10 := 185) (t11 := 205) dX5_step_4 rfl rfl rfl rfl rfl rfl rfl rfl rfl rfl rfl rfl rfl (fun c4 => ?_) (fun c4 => ?_) (fun c4 => ?_) (fun c4 => ?_) (fun c4 => ?_) (fun c4 => ?_) (fun c4 => ?_) (fun c4 => ?_) (fun c4 => ?_) (fun c4 => ?_) (fun c4 => ?_) (fun c4 => ?_) (fun c4 => ?_)
  · exfalso; rw [h5] at c4; revert c4; decide --done
  · refine V_aln dX5_step_68 rfl ?_
    refine V_cV0n hM cvX5_98 (by assumption) rfl (e_X5_startLine hW hm hm8 h7 hs hdr sdr) ⟨Nat.le_of_ble_eq_true rfl, Nat.le_of_ble_eq_true rfl, Nat.le_of_ble_eq_true rfl, Nat.le_of_ble_eq_true rfl⟩ (Nat.le_of_ble_eq_true rfl) dX5_step_69 ?_
    refine V_goto (tgt := 228) dX5_step_72 rfl ?_
    exact V_vret hM dX5_step_228 (mDet.rf)
  · exact absurd (h5.symm.trans c4) (by decide) --done
  · exact absurd (h5.symm.trans c4) (by decide) --done
  · exact absurd (h5.symm.trans c4) (by decide) --done
  · exact absurd (h5.symm.trans c4) (by decide) --done
  · exact absurd (h5.symm.trans c4) (by decide) --done
  · exact absurd (h5.symm.trans c4) (by decide) --done
  · exact absurd (h5.symm.trans c4) (by decide) --done
  · exact absurd (h5.symm.trans c4) (by decide) --done
  · exact absurd (h5.symm.trans c4) (by decide) --done
  · exact absurd (h5.symm.trans c4) (by decide) --done
  · exact absurd (h5.symm.trans c4) (by decide) --done
theorem e_X5_step1 {m s dr : Nat} (hW : CW sh P) (hm : I 2 1 = nI m) (hm8 : m ≤ 800) (h7 : I 1 7 = nI s) (hs : s ≤ 900) (hdr : P 1 1 = some dr) (sdr : sh dr = some (.inl 0)) (h33 : I 1 3 = 0) (h5 : I 1 5 = 1) : Ev X B mdX5_step 1 6 [.ref (B + 1)] nx sh I P (mDet none nx sh (mUp (tkM I 0 (tlF (I 1 10)) 2) 1 11 (tkV I 0 (tlF (I 1 10)))) P) := by
  have s1 : sh 1 = some (.inl 5) := hW.1 1 _ rfl
  refine Ev.of (by decide) (by simp [Value.category]) (by simp) (fun G hM => ?_)
  have hM : mM X B "step" none 8 170 1 6 _ G := hM
  show V X B RX5 cX5_step G 0 0 nx sh I P 0 [some (.ref (B + 1))] []
  refine V.widen (a := 1) (b := 6) (by omega) (by omega) ?_
  refine V_aln dX5_step_0 rfl ?_
  refine V_getI dX5_step_1 flX5_35 (by assumption) rfl ?_
  refine V_tsw_0_11 (td := 224) (t0 := 68) (t1 := 75) (t2 := 92) (t3 := 99) (t4 := 114) (t5 := 124) (t6 := 143) (t7 := 150) (t8 := 161) (t9 := 178) (t10 := 185) (t11 := 205) dX5_step_4 rfl rfl rfl rfl rfl rfl rfl rfl rfl rfl rfl rfl rfl (fun c4 => ?_) (fun c4 => ?_) (fun c4 => ?_) (fun c4 => ?_) (fun c4 => ?_) (fun c4 => ?_) (fun c4 => ?_) (fun c4 => ?_) (fun c4 => ?_) (fun c4 => ?_) (fun c4 => ?_) (fun c4 => ?_) (fun c4 => ?_)
  · exfalso; rw [h5] at c4; revert c4; decide --done
  · exact absurd (h5.symm.trans c4) (by decide) --done
  · refine V_aln dX5_step_75 rfl ?_
    refine V_aln dX5_step_76 rfl ?_
    refine V_iconst (v := 0) rfl dX5_step_77 ?_
    refine V_aln dX5_step_78 rfl ?_
    refine V_cV0d hM cvX5_101 (by assumption) rfl (e_X5_topLimit s1) ⟨Nat.le_of_ble_eq_true rfl, Nat.le_of_ble_eq_true rfl, Nat.le_of_ble_eq_true rfl, Nat.le_of_ble_eq_true rfl⟩ (Nat.le_of_ble_eq_true rfl) dX5_step_79 ?_
    refine V_iconst (v := 2) rfl dX5_step_82 ?_
    refine V_cV3d hM cvX5_104 (by assumption) rfl (e_X5_takeNumber s1) ⟨Nat.le_of_ble_eq_true rfl, Nat.le_of_ble_eq_true rfl, Nat.le_of_ble_eq_true rfl, Nat.le_of_ble_eq_true rfl⟩ (Nat.le_of_ble_eq_true rfl) dX5_step_83 ?_
    refine V_putI dX5_step_86 flX5_53 (by assumption) rfl rfl ?_
    refine V_goto (tgt := 228) dX5_step_89 rfl ?_
    exact V_vret hM dX5_step_228 (mDet.rf)
  · exact absurd (h5.symm.trans c4) (by decide) --done
  · exact absurd (h5.symm.trans c4) (by decide) --done
  · exact absurd (h5.symm.trans c4) (by decide) --done
  · exact absurd (h5.symm.trans c4) (by decide) --done
  · exact absurd (h5.symm.trans c4) (by decide) --done
  · exact absurd (h5.symm.trans c4) (by decide) --done
  · exact absurd (h5.symm.trans c4) (by decide) --done
  · exact absurd (h5.symm.trans c4) (by decide) --done
  · exact absurd (h5.symm.trans c4) (by decide) --done
  · exact absurd (h5.symm.trans c4) (by decide) --done
theorem e_X5_step2 {m s dr : Nat} (hW : CW sh P) (hm : I 2 1 = nI m) (hm8 : m ≤ 800) (h7 : I 1 7 = nI s) (hs : s ≤ 900) (hdr : P 1 1 = some dr) (sdr : sh dr = some (.inl 0)) (h33 : I 1 3 = 0) (h5 : I 1 5 = 2) : Ev X B mdX5_step 1 6 [.ref (B + 1)] nx sh I P (mDet none nx sh (whoM I m) P) := by
  have s1 : sh 1 = some (.inl 5) := hW.1 1 _ rfl
  refine Ev.of (by decide) (by simp [Value.category]) (by simp) (fun G hM => ?_)
  have hM : mM X B "step" none 8 170 1 6 _ G := hM
  show V X B RX5 cX5_step G 0 0 nx sh I P 0 [some (.ref (B + 1))] []
  refine V.widen (a := 1) (b := 6) (by omega) (by omega) ?_
  refine V_aln dX5_step_0 rfl ?_
  refine V_getI dX5_step_1 flX5_35 (by assumption) rfl ?_
  refine V_tsw_0_11 (td := 224) (t0 := 68) (t1 := 75) (t2 := 92) (t3 := 99) (t4 := 114) (t5 := 124) (t6 := 143) (t7 := 150) (t8 := 161) (t9 := 178) (t10 := 185) (t11 := 205) dX5_step_4 rfl rfl rfl rfl rfl rfl rfl rfl rfl rfl rfl rfl rfl (fun c4 => ?_) (fun c4 => ?_) (fun c4 => ?_) (fun c4 => ?_) (fun c4 => ?_) (fun c4 => ?_) (fun c4 => ?_) (fun c4 => ?_) (fun c4 => ?_) (fun c4 => ?_) (fun c4 => ?_) (fun c4 => ?_) (fun c4 => ?_)
  · exfalso; rw [h5] at c4; revert c4; decide --done
  · exact absurd (h5.symm.trans c4) (by decide) --done
  · exact absurd (h5.symm.trans c4) (by decide) --done
  · refine V_aln dX5_step_92 rfl ?_
    refine V_cV0n hM cvX5_108 (by assumption) rfl (e_X5_readWho hW hm hm8 h7 hs) ⟨Nat.le_of_ble_eq_true rfl, Nat.le_of_ble_eq_true rfl, Nat.le_of_ble_eq_true rfl, Nat.le_of_ble_eq_true rfl⟩ (Nat.le_of_ble_eq_true rfl) dX5_step_93 ?_
    refine V_goto (tgt := 228) dX5_step_96 rfl ?_
    exact V_vret hM dX5_step_228 (mDet.rf)
  · exact absurd (h5.symm.trans c4) (by decide) --done
  · exact absurd (h5.symm.trans c4) (by decide) --done
  · exact absurd (h5.symm.trans c4) (by decide) --done
  · exact absurd (h5.symm.trans c4) (by decide) --done
  · exact absurd (h5.symm.trans c4) (by decide) --done
  · exact absurd (h5.symm.trans c4) (by decide) --done
  · exact absurd (h5.symm.trans c4) (by decide) --done
  · exact absurd (h5.symm.trans c4) (by decide) --done
  · exact absurd (h5.symm.trans c4) (by decide) --done
theorem e_X5_step3 {m s dr : Nat} (hW : CW sh P) (hm : I 2 1 = nI m) (hm8 : m ≤ 800) (h7 : I 1 7 = nI s) (hs : s ≤ 900) (hdr : P 1 1 = some dr) (sdr : sh dr = some (.inl 0)) (h33 : I 1 3 = 0) (h5 : I 1 5 = 3) : Ev X B mdX5_step 1 6 [.ref (B + 1)] nx sh I P (mDet none nx sh (mUp (tkM I 0 9 4) 1 12 (tkV I 0 9)) P) := by
  have s1 : sh 1 = some (.inl 5) := hW.1 1 _ rfl
  refine Ev.of (by decide) (by simp [Value.category]) (by simp) (fun G hM => ?_)
  have hM : mM X B "step" none 8 170 1 6 _ G := hM
  show V X B RX5 cX5_step G 0 0 nx sh I P 0 [some (.ref (B + 1))] []
  refine V.widen (a := 1) (b := 6) (by omega) (by omega) ?_
  refine V_aln dX5_step_0 rfl ?_
  refine V_getI dX5_step_1 flX5_35 (by assumption) rfl ?_
  refine V_tsw_0_11 (td := 224) (t0 := 68) (t1 := 75) (t2 := 92) (t3 := 99) (t4 := 114) (t5 := 124) (t6 := 143) (t7 := 150) (t8 := 161) (t9 := 178) (t10 := 185) (t11 := 205) dX5_step_4 rfl rfl rfl rfl rfl rfl rfl rfl rfl rfl rfl rfl rfl (fun c4 => ?_) (fun c4 => ?_) (fun c4 => ?_) (fun c4 => ?_) (fun c4 => ?_) (fun c4 => ?_) (fun c4 => ?_) (fun c4 => ?_) (fun c4 => ?_) (fun c4 => ?_) (fun c4 => ?_) (fun c4 => ?_) (fun c4 => ?_)
  · exfalso; rw [h5] at c4; revert c4; decide --done
  · exact absurd (h5.symm.trans c4) (by decide) --done
  · exact absurd (h5.symm.trans c4) (by decide) --done
  · exact absurd (h5.symm.trans c4) (by decide) --done
  · refine V_aln dX5_step_99 rfl ?_
    refine V_aln dX5_step_100 rfl ?_
    refine V_iconst (v := 0) rfl dX5_step_101 ?_
    refine V_bipush (v := 9) rfl dX5_step_102 ?_
    refine V_iconst (v := 4) rfl dX5_step_104 ?_
    refine V_cV3d hM cvX5_104 (by assumption) rfl (e_X5_takeNumber s1) ⟨Nat.le_of_ble_eq_true rfl, Nat.le_of_ble_eq_true rfl, Nat.le_of_ble_eq_true rfl, Nat.le_of_ble_eq_true rfl⟩ (Nat.le_of_ble_eq_true rfl) dX5_step_105 ?_
    refine V_putI dX5_step_108 flX5_56 (by assumption) rfl rfl ?_
    refine V_goto (tgt := 228) dX5_step_111 rfl ?_
    exact V_vret hM dX5_step_228 (mDet.rf)
  · exact absurd (h5.symm.trans c4) (by decide) --done
  · exact absurd (h5.symm.trans c4) (by decide) --done
  · exact absurd (h5.symm.trans c4) (by decide) --done
  · exact absurd (h5.symm.trans c4) (by decide) --done
  · exact absurd (h5.symm.trans c4) (by decide) --done
  · exact absurd (h5.symm.trans c4) (by decide) --done
  · exact absurd (h5.symm.trans c4) (by decide) --done
  · exact absurd (h5.symm.trans c4) (by decide) --done
theorem e_X5_step4 {m s dr : Nat} (hW : CW sh P) (hm : I 2 1 = nI m) (hm8 : m ≤ 800) (h7 : I 1 7 = nI s) (hs : s ≤ 900) (hdr : P 1 1 = some dr) (sdr : sh dr = some (.inl 0)) (h33 : I 1 3 = 0) (h5 : I 1 5 = 4) : Ev X B mdX5_step 1 6 [.ref (B + 1)] nx sh I P (mDet none nx sh (goOnM I (if wdB I m 13 then 0 else 1) 5) P) := by
  have s1 : sh 1 = some (.inl 5) := hW.1 1 _ rfl
  refine Ev.of (by decide) (by simp [Value.category]) (by simp) (fun G hM => ?_)
  have hM : mM X B "step" none 8 170 1 6 _ G := hM
  show V X B RX5 cX5_step G 0 0 nx sh I P 0 [some (.ref (B + 1))] []
  refine V.widen (a := 1) (b := 6) (by omega) (by omega) ?_
  refine V_aln dX5_step_0 rfl ?_
  refine V_getI dX5_step_1 flX5_35 (by assumption) rfl ?_
  refine V_tsw_0_11 (td := 224) (t0 := 68) (t1 := 75) (t2 := 92) (t3 := 99) (t4 := 114) (t5 := 124) (t6 := 143) (t7 := 150) (t8 := 161) (t9 := 178) (t10 := 185) (t11 := 205) dX5_step_4 rfl rfl rfl rfl rfl rfl rfl rfl rfl rfl rfl rfl rfl (fun c4 => ?_) (fun c4 => ?_) (fun c4 => ?_) (fun c4 => ?_) (fun c4 => ?_) (fun c4 => ?_) (fun c4 => ?_) (fun c4 => ?_) (fun c4 => ?_) (fun c4 => ?_) (fun c4 => ?_) (fun c4 => ?_) (fun c4 => ?_)
  · exfalso; rw [h5] at c4; revert c4; decide --done
  · exact absurd (h5.symm.trans c4) (by decide) --done
  · exact absurd (h5.symm.trans c4) (by decide) --done
  · exact absurd (h5.symm.trans c4) (by decide) --done
  · exact absurd (h5.symm.trans c4) (by decide) --done
  · refine V_aln dX5_step_114 rfl ?_
    refine V_ldcS (i := 13) rfl dX5_step_115 ?_
    refine V_iconst (v := 5) rfl dX5_step_117 ?_
    refine V_cV2n hM cvX5_113 (by assumption) rfl (e_X5_takeWord hW hm hm8 h7 hs (by decide : 13 < mNT)) ⟨Nat.le_of_ble_eq_true rfl, Nat.le_of_ble_eq_true rfl, Nat.le_of_ble_eq_true rfl, Nat.le_of_ble_eq_true rfl⟩ (Nat.le_of_ble_eq_true rfl) dX5_step_118 ?_
    refine V_goto (tgt := 228) dX5_step_121 rfl ?_
    exact V_vret hM dX5_step_228 (mDet.rf)
  · exact absurd (h5.symm.trans c4) (by decide) --done
  · exact absurd (h5.symm.trans c4) (by decide) --done
  · exact absurd (h5.symm.trans c4) (by decide) --done
  · exact absurd (h5.symm.trans c4) (by decide) --done
  · exact absurd (h5.symm.trans c4) (by decide) --done
  · exact absurd (h5.symm.trans c4) (by decide) --done
  · exact absurd (h5.symm.trans c4) (by decide) --done
theorem e_X5_step5 {m s dr : Nat} (hW : CW sh P) (hm : I 2 1 = nI m) (hm8 : m ≤ 800) (h7 : I 1 7 = nI s) (hs : s ≤ 900) (hdr : P 1 1 = some dr) (sdr : sh dr = some (.inl 0)) (h33 : I 1 3 = 0) (h5 : I 1 5 = 5) : Ev X B mdX5_step 1 6 [.ref (B + 1)] nx sh I P (mDet none nx sh (mUp (tkM I (I 1 12) 9 6) 1 13 (tkV I (I 1 12) 9)) P) := by
  have s1 : sh 1 = some (.inl 5) := hW.1 1 _ rfl
  refine Ev.of (by decide) (by simp [Value.category]) (by simp) (fun G hM => ?_)
  have hM : mM X B "step" none 8 170 1 6 _ G := hM
  show V X B RX5 cX5_step G 0 0 nx sh I P 0 [some (.ref (B + 1))] []
  refine V.widen (a := 1) (b := 6) (by omega) (by omega) ?_
  refine V_aln dX5_step_0 rfl ?_
  refine V_getI dX5_step_1 flX5_35 (by assumption) rfl ?_
  refine V_tsw_0_11 (td := 224) (t0 := 68) (t1 := 75) (t2 := 92) (t3 := 99) (t4 := 114) (t5 := 124) (t6 := 143) (t7 := 150) (t8 := 161) (t9 := 178) (t10 := 185) (t11 := 205) dX5_step_4 rfl rfl rfl rfl rfl rfl rfl rfl rfl rfl rfl rfl rfl (fun c4 => ?_) (fun c4 => ?_) (fun c4 => ?_) (fun c4 => ?_) (fun c4 => ?_) (fun c4 => ?_) (fun c4 => ?_) (fun c4 => ?_) (fun c4 => ?_) (fun c4 => ?_) (fun c4 => ?_) (fun c4 => ?_) (fun c4 => ?_)
  · exfalso; rw [h5] at c4; revert c4; decide --done
  · exact absurd (h5.symm.trans c4) (by decide) --done
  · exact absurd (h5.symm.trans c4) (by decide) --done
  · exact absurd (h5.symm.trans c4) (by decide) --done
  · exact absurd (h5.symm.trans c4) (by decide) --done
  · exact absurd (h5.symm.trans c4) (by decide) --done
  · refine V_aln dX5_step_124 rfl ?_
    refine V_aln dX5_step_125 rfl ?_
    refine V_aln dX5_step_126 rfl ?_
    refine V_getI dX5_step_127 flX5_56 (by assumption) rfl ?_
    refine V_bipush (v := 9) rfl dX5_step_130 ?_
    refine V_bipush (v := 6) rfl dX5_step_132 ?_
    refine V_cV3d hM cvX5_104 (by assumption) rfl (e_X5_takeNumber s1) ⟨Nat.le_of_ble_eq_true rfl, Nat.le_of_ble_eq_true rfl, Nat.le_of_ble_eq_true rfl, Nat.le_of_ble_eq_true rfl⟩ (Nat.le_of_ble_eq_true rfl) dX5_step_134 ?_
    refine V_putI dX5_step_137 flX5_59 (by assumption) rfl rfl ?_
    refine V_goto (tgt := 228) dX5_step_140 rfl ?_
    exact V_vret hM dX5_step_228 (mDet.rf)
  · exact absurd (h5.symm.trans c4) (by decide) --done
  · exact absurd (h5.symm.trans c4) (by decide) --done
  · exact absurd (h5.symm.trans c4) (by decide) --done
  · exact absurd (h5.symm.trans c4) (by decide) --done
  · exact absurd (h5.symm.trans c4) (by decide) --done
  · exact absurd (h5.symm.trans c4) (by decide) --done
theorem e_X5_step6 {m s dr : Nat} (hW : CW sh P) (hm : I 2 1 = nI m) (hm8 : m ≤ 800) (h7 : I 1 7 = nI s) (hs : s ≤ 900) (hdr : P 1 1 = some dr) (sdr : sh dr = some (.inl 0)) (h33 : I 1 3 = 0) (h5 : I 1 5 = 6) : Ev X B mdX5_step 1 6 [.ref (B + 1)] nx sh I P (mDet none nx sh (whnM I m) P) := by
  have s1 : sh 1 = some (.inl 5) := hW.1 1 _ rfl
  refine Ev.of (by decide) (by simp [Value.category]) (by simp) (fun G hM => ?_)
  have hM : mM X B "step" none 8 170 1 6 _ G := hM
  show V X B RX5 cX5_step G 0 0 nx sh I P 0 [some (.ref (B + 1))] []
  refine V.widen (a := 1) (b := 6) (by omega) (by omega) ?_
  refine V_aln dX5_step_0 rfl ?_
  refine V_getI dX5_step_1 flX5_35 (by assumption) rfl ?_
  refine V_tsw_0_11 (td := 224) (t0 := 68) (t1 := 75) (t2 := 92) (t3 := 99) (t4 := 114) (t5 := 124) (t6 := 143) (t7 := 150) (t8 := 161) (t9 := 178) (t10 := 185) (t11 := 205) dX5_step_4 rfl rfl rfl rfl rfl rfl rfl rfl rfl rfl rfl rfl rfl (fun c4 => ?_) (fun c4 => ?_) (fun c4 => ?_) (fun c4 => ?_) (fun c4 => ?_) (fun c4 => ?_) (fun c4 => ?_) (fun c4 => ?_) (fun c4 => ?_) (fun c4 => ?_) (fun c4 => ?_) (fun c4 => ?_) (fun c4 => ?_)
  · exfalso; rw [h5] at c4; revert c4; decide --done
  · exact absurd (h5.symm.trans c4) (by decide) --done
  · exact absurd (h5.symm.trans c4) (by decide) --done
  · exact absurd (h5.symm.trans c4) (by decide) --done
  · exact absurd (h5.symm.trans c4) (by decide) --done
  · exact absurd (h5.symm.trans c4) (by decide) --done
  · exact absurd (h5.symm.trans c4) (by decide) --done
  · refine V_aln dX5_step_143 rfl ?_
    refine V_cV0n hM cvX5_117 (by assumption) rfl (e_X5_readWhen hW hm hm8 h7 hs) ⟨Nat.le_of_ble_eq_true rfl, Nat.le_of_ble_eq_true rfl, Nat.le_of_ble_eq_true rfl, Nat.le_of_ble_eq_true rfl⟩ (Nat.le_of_ble_eq_true rfl) dX5_step_144 ?_
    refine V_goto (tgt := 228) dX5_step_147 rfl ?_
    exact V_vret hM dX5_step_228 (mDet.rf)
  · exact absurd (h5.symm.trans c4) (by decide) --done
  · exact absurd (h5.symm.trans c4) (by decide) --done
  · exact absurd (h5.symm.trans c4) (by decide) --done
  · exact absurd (h5.symm.trans c4) (by decide) --done
  · exact absurd (h5.symm.trans c4) (by decide) --done
theorem e_X5_step7 {m s dr : Nat} (hW : CW sh P) (hm : I 2 1 = nI m) (hm8 : m ≤ 800) (h7 : I 1 7 = nI s) (hs : s ≤ 900) (hdr : P 1 1 = some dr) (sdr : sh dr = some (.inl 0)) (h33 : I 1 3 = 0) (h5 : I 1 5 = 7) : Ev X B mdX5_step 1 6 [.ref (B + 1)] nx sh I P (mDet none nx sh (goOnM I (if wdB I m 18 then 0 else 1) 8) P) := by
  have s1 : sh 1 = some (.inl 5) := hW.1 1 _ rfl
  refine Ev.of (by decide) (by simp [Value.category]) (by simp) (fun G hM => ?_)
  have hM : mM X B "step" none 8 170 1 6 _ G := hM
  show V X B RX5 cX5_step G 0 0 nx sh I P 0 [some (.ref (B + 1))] []
  refine V.widen (a := 1) (b := 6) (by omega) (by omega) ?_
  refine V_aln dX5_step_0 rfl ?_
  refine V_getI dX5_step_1 flX5_35 (by assumption) rfl ?_
  refine V_tsw_0_11 (td := 224) (t0 := 68) (t1 := 75) (t2 := 92) (t3 := 99) (t4 := 114) (t5 := 124) (t6 := 143) (t7 := 150) (t8 := 161) (t9 := 178) (t10 := 185) (t11 := 205) dX5_step_4 rfl rfl rfl rfl rfl rfl rfl rfl rfl rfl rfl rfl rfl (fun c4 => ?_) (fun c4 => ?_) (fun c4 => ?_) (fun c4 => ?_) (fun c4 => ?_) (fun c4 => ?_) (fun c4 => ?_) (fun c4 => ?_) (fun c4 => ?_) (fun c4 => ?_) (fun c4 => ?_) (fun c4 => ?_) (fun c4 => ?_)
  · exfalso; rw [h5] at c4; revert c4; decide --done
  · exact absurd (h5.symm.trans c4) (by decide) --done
  · exact absurd (h5.symm.trans c4) (by decide) --done
  · exact absurd (h5.symm.trans c4) (by decide) --done
  · exact absurd (h5.symm.trans c4) (by decide) --done
  · exact absurd (h5.symm.trans c4) (by decide) --done
  · exact absurd (h5.symm.trans c4) (by decide) --done
  · exact absurd (h5.symm.trans c4) (by decide) --done
  · refine V_aln dX5_step_150 rfl ?_
    refine V_ldcS (i := 18) rfl dX5_step_151 ?_
    refine V_bipush (v := 8) rfl dX5_step_153 ?_
    refine V_cV2n hM cvX5_113 (by assumption) rfl (e_X5_takeWord hW hm hm8 h7 hs (by decide : 18 < mNT)) ⟨Nat.le_of_ble_eq_true rfl, Nat.le_of_ble_eq_true rfl, Nat.le_of_ble_eq_true rfl, Nat.le_of_ble_eq_true rfl⟩ (Nat.le_of_ble_eq_true rfl) dX5_step_155 ?_
    refine V_goto (tgt := 228) dX5_step_158 rfl ?_
    exact V_vret hM dX5_step_228 (mDet.rf)
  · exact absurd (h5.symm.trans c4) (by decide) --done
  · exact absurd (h5.symm.trans c4) (by decide) --done
  · exact absurd (h5.symm.trans c4) (by decide) --done
  · exact absurd (h5.symm.trans c4) (by decide) --done
theorem e_X5_step9 {m s dr : Nat} (hW : CW sh P) (hm : I 2 1 = nI m) (hm8 : m ≤ 800) (h7 : I 1 7 = nI s) (hs : s ≤ 900) (hdr : P 1 1 = some dr) (sdr : sh dr = some (.inl 0)) (h33 : I 1 3 = 0) (h5 : I 1 5 = 9) : Ev X B mdX5_step 1 6 [.ref (B + 1)] nx sh I P (mDet none nx sh (repM I dr) P) := by
  have s1 : sh 1 = some (.inl 5) := hW.1 1 _ rfl
  refine Ev.of (by decide) (by simp [Value.category]) (by simp) (fun G hM => ?_)
  have hM : mM X B "step" none 8 170 1 6 _ G := hM
  show V X B RX5 cX5_step G 0 0 nx sh I P 0 [some (.ref (B + 1))] []
  refine V.widen (a := 1) (b := 6) (by omega) (by omega) ?_
  refine V_aln dX5_step_0 rfl ?_
  refine V_getI dX5_step_1 flX5_35 (by assumption) rfl ?_
  refine V_tsw_0_11 (td := 224) (t0 := 68) (t1 := 75) (t2 := 92) (t3 := 99) (t4 := 114) (t5 := 124) (t6 := 143) (t7 := 150) (t8 := 161) (t9 := 178) (t10 := 185) (t11 := 205) dX5_step_4 rfl rfl rfl rfl rfl rfl rfl rfl rfl rfl rfl rfl rfl (fun c4 => ?_) (fun c4 => ?_) (fun c4 => ?_) (fun c4 => ?_) (fun c4 => ?_) (fun c4 => ?_) (fun c4 => ?_) (fun c4 => ?_) (fun c4 => ?_) (fun c4 => ?_) (fun c4 => ?_) (fun c4 => ?_) (fun c4 => ?_)
  · exfalso; rw [h5] at c4; revert c4; decide --done
  · exact absurd (h5.symm.trans c4) (by decide) --done
  · exact absurd (h5.symm.trans c4) (by decide) --done
  · exact absurd (h5.symm.trans c4) (by decide) --done
  · exact absurd (h5.symm.trans c4) (by decide) --done
  · exact absurd (h5.symm.trans c4) (by decide) --done
  · exact absurd (h5.symm.trans c4) (by decide) --done
  · exact absurd (h5.symm.trans c4) (by decide) --done
  · exact absurd (h5.symm.trans c4) (by decide) --done
  · exact absurd (h5.symm.trans c4) (by decide) --done
  · refine V_aln dX5_step_178 rfl ?_
    refine V_cV0n hM cvX5_126 (by assumption) rfl (e_X5_readRepeal hW hdr sdr h33) ⟨Nat.le_of_ble_eq_true rfl, Nat.le_of_ble_eq_true rfl, Nat.le_of_ble_eq_true rfl, Nat.le_of_ble_eq_true rfl⟩ (Nat.le_of_ble_eq_true rfl) dX5_step_179 ?_
    refine V_goto (tgt := 228) dX5_step_182 rfl ?_
    exact V_vret hM dX5_step_228 (mDet.rf)
  · exact absurd (h5.symm.trans c4) (by decide) --done
  · exact absurd (h5.symm.trans c4) (by decide) --done
theorem e_X5_step10 {m s dr : Nat} (hW : CW sh P) (hm : I 2 1 = nI m) (hm8 : m ≤ 800) (h7 : I 1 7 = nI s) (hs : s ≤ 900) (hdr : P 1 1 = some dr) (sdr : sh dr = some (.inl 0)) (h33 : I 1 3 = 0) (h5 : I 1 5 = 10) : Ev X B mdX5_step 1 6 [.ref (B + 1)] nx sh I P (mDet none nx sh (mUp (tkM I 0 9999 12) dr 3 (tkV I 0 9999)) P) := by
  have s1 : sh 1 = some (.inl 5) := hW.1 1 _ rfl
  refine Ev.of (by decide) (by simp [Value.category]) (by simp) (fun G hM => ?_)
  have hM : mM X B "step" none 8 170 1 6 _ G := hM
  show V X B RX5 cX5_step G 0 0 nx sh I P 0 [some (.ref (B + 1))] []
  refine V.widen (a := 1) (b := 6) (by omega) (by omega) ?_
  refine V_aln dX5_step_0 rfl ?_
  refine V_getI dX5_step_1 flX5_35 (by assumption) rfl ?_
  refine V_tsw_0_11 (td := 224) (t0 := 68) (t1 := 75) (t2 := 92) (t3 := 99) (t4 := 114) (t5 := 124) (t6 := 143) (t7 := 150) (t8 := 161) (t9 := 178) (t10 := 185) (t11 := 205) dX5_step_4 rfl rfl rfl rfl rfl rfl rfl rfl rfl rfl rfl rfl rfl (fun c4 => ?_) (fun c4 => ?_) (fun c4 => ?_) (fun c4 => ?_) (fun c4 => ?_) (fun c4 => ?_) (fun c4 => ?_) (fun c4 => ?_) (fun c4 => ?_) (fun c4 => ?_) (fun c4 => ?_) (fun c4 => ?_) (fun c4 => ?_)
  · exfalso; rw [h5] at c4; revert c4; decide --done
  · exact absurd (h5.symm.trans c4) (by decide) --done
  · exact absurd (h5.symm.trans c4) (by decide) --done
  · exact absurd (h5.symm.trans c4) (by decide) --done
  · exact absurd (h5.symm.trans c4) (by decide) --done
  · exact absurd (h5.symm.trans c4) (by decide) --done
  · exact absurd (h5.symm.trans c4) (by decide) --done
  · exact absurd (h5.symm.trans c4) (by decide) --done
  · exact absurd (h5.symm.trans c4) (by decide) --done
  · exact absurd (h5.symm.trans c4) (by decide) --done
  · exact absurd (h5.symm.trans c4) (by decide) --done
  · refine V_aln dX5_step_185 rfl ?_
    refine V_getR dX5_step_186 flX5_21 (by assumption) rfl (by assumption) ?_
    refine V_aln dX5_step_189 rfl ?_
    refine V_iconst (v := 0) rfl dX5_step_190 ?_
    refine V_sipush (v := 9999) rfl dX5_step_191 ?_
    refine V_bipush (v := 12) rfl dX5_step_194 ?_
    refine V_cV3d hM cvX5_104 (by assumption) rfl (e_X5_takeNumber s1) ⟨Nat.le_of_ble_eq_true rfl, Nat.le_of_ble_eq_true rfl, Nat.le_of_ble_eq_true rfl, Nat.le_of_ble_eq_true rfl⟩ (Nat.le_of_ble_eq_true rfl) dX5_step_196 ?_
    refine V_putI dX5_step_199 flX5_129 (by assumption) rfl rfl ?_
    refine V_goto (tgt := 228) dX5_step_202 rfl ?_
    exact V_vret hM dX5_step_228 (mDet.rf)
  · exact absurd (h5.symm.trans c4) (by decide) --done
theorem e_X5_step11 {m s dr : Nat} (hW : CW sh P) (hm : I 2 1 = nI m) (hm8 : m ≤ 800) (h7 : I 1 7 = nI s) (hs : s ≤ 900) (hdr : P 1 1 = some dr) (sdr : sh dr = some (.inl 0)) (h33 : I 1 3 = 0) (h5 : I 1 5 = 11) : Ev X B mdX5_step 1 6 [.ref (B + 1)] nx sh I P (mDet none nx sh (mUp (tkM I 0 100 12) dr 4 (tkV I 0 100)) P) := by
  have s1 : sh 1 = some (.inl 5) := hW.1 1 _ rfl
  refine Ev.of (by decide) (by simp [Value.category]) (by simp) (fun G hM => ?_)
  have hM : mM X B "step" none 8 170 1 6 _ G := hM
  show V X B RX5 cX5_step G 0 0 nx sh I P 0 [some (.ref (B + 1))] []
  refine V.widen (a := 1) (b := 6) (by omega) (by omega) ?_
  refine V_aln dX5_step_0 rfl ?_
  refine V_getI dX5_step_1 flX5_35 (by assumption) rfl ?_
  refine V_tsw_0_11 (td := 224) (t0 := 68) (t1 := 75) (t2 := 92) (t3 := 99) (t4 := 114) (t5 := 124) (t6 := 143) (t7 := 150) (t8 := 161) (t9 := 178) (t10 := 185) (t11 := 205) dX5_step_4 rfl rfl rfl rfl rfl rfl rfl rfl rfl rfl rfl rfl rfl (fun c4 => ?_) (fun c4 => ?_) (fun c4 => ?_) (fun c4 => ?_) (fun c4 => ?_) (fun c4 => ?_) (fun c4 => ?_) (fun c4 => ?_) (fun c4 => ?_) (fun c4 => ?_) (fun c4 => ?_) (fun c4 => ?_) (fun c4 => ?_)
  · exfalso; rw [h5] at c4; revert c4; decide --done
  · exact absurd (h5.symm.trans c4) (by decide) --done
  · exact absurd (h5.symm.trans c4) (by decide) --done
  · exact absurd (h5.symm.trans c4) (by decide) --done
  · exact absurd (h5.symm.trans c4) (by decide) --done
  · exact absurd (h5.symm.trans c4) (by decide) --done
  · exact absurd (h5.symm.trans c4) (by decide) --done
  · exact absurd (h5.symm.trans c4) (by decide) --done
  · exact absurd (h5.symm.trans c4) (by decide) --done
  · exact absurd (h5.symm.trans c4) (by decide) --done
  · exact absurd (h5.symm.trans c4) (by decide) --done
  · exact absurd (h5.symm.trans c4) (by decide) --done
  · refine V_aln dX5_step_205 rfl ?_
    refine V_getR dX5_step_206 flX5_21 (by assumption) rfl (by assumption) ?_
    refine V_aln dX5_step_209 rfl ?_
    refine V_iconst (v := 0) rfl dX5_step_210 ?_
    refine V_bipush (v := 100) rfl dX5_step_211 ?_
    refine V_bipush (v := 12) rfl dX5_step_213 ?_
    refine V_cV3d hM cvX5_104 (by assumption) rfl (e_X5_takeNumber s1) ⟨Nat.le_of_ble_eq_true rfl, Nat.le_of_ble_eq_true rfl, Nat.le_of_ble_eq_true rfl, Nat.le_of_ble_eq_true rfl⟩ (Nat.le_of_ble_eq_true rfl) dX5_step_215 ?_
    refine V_putI dX5_step_218 flX5_132 (by assumption) rfl rfl ?_
    refine V_goto (tgt := 228) dX5_step_221 rfl ?_
    exact V_vret hM dX5_step_228 (mDet.rf)
theorem e_X5_step12 {m s dr : Nat} (hW : CW sh P) (hm : I 2 1 = nI m) (hm8 : m ≤ 800) (h7 : I 1 7 = nI s) (hs : s ≤ 900) (hdr : P 1 1 = some dr) (sdr : sh dr = some (.inl 0)) (h33 : I 1 3 = 0) (h5 : I 1 5 = 12) : Ev X B mdX5_step 1 6 [.ref (B + 1)] nx sh I P (mDet none nx sh (goOnM I (if I 1 6 = 3 then 0 else 1) 0) P) := by
  have s1 : sh 1 = some (.inl 5) := hW.1 1 _ rfl
  refine Ev.of (by decide) (by simp [Value.category]) (by simp) (fun G hM => ?_)
  have hM : mM X B "step" none 8 170 1 6 _ G := hM
  show V X B RX5 cX5_step G 0 0 nx sh I P 0 [some (.ref (B + 1))] []
  refine V.widen (a := 1) (b := 6) (by omega) (by omega) ?_
  refine V_aln dX5_step_0 rfl ?_
  refine V_getI dX5_step_1 flX5_35 (by assumption) rfl ?_
  refine V_tsw_0_11 (td := 224) (t0 := 68) (t1 := 75) (t2 := 92) (t3 := 99) (t4 := 114) (t5 := 124) (t6 := 143) (t7 := 150) (t8 := 161) (t9 := 178) (t10 := 185) (t11 := 205) dX5_step_4 rfl rfl rfl rfl rfl rfl rfl rfl rfl rfl rfl rfl rfl (fun c4 => ?_) (fun c4 => ?_) (fun c4 => ?_) (fun c4 => ?_) (fun c4 => ?_) (fun c4 => ?_) (fun c4 => ?_) (fun c4 => ?_) (fun c4 => ?_) (fun c4 => ?_) (fun c4 => ?_) (fun c4 => ?_) (fun c4 => ?_)
  · refine V_aln dX5_step_224 rfl ?_
    refine V_cV0n hM cvX5_135 (by assumption) rfl (e_X5_endLine s1) ⟨Nat.le_of_ble_eq_true rfl, Nat.le_of_ble_eq_true rfl, Nat.le_of_ble_eq_true rfl, Nat.le_of_ble_eq_true rfl⟩ (Nat.le_of_ble_eq_true rfl) dX5_step_225 ?_
    exact V_vret hM dX5_step_228 (mDet.rf)
  · exact absurd (h5.symm.trans c4) (by decide) --done
  · exact absurd (h5.symm.trans c4) (by decide) --done
  · exact absurd (h5.symm.trans c4) (by decide) --done
  · exact absurd (h5.symm.trans c4) (by decide) --done
  · exact absurd (h5.symm.trans c4) (by decide) --done
  · exact absurd (h5.symm.trans c4) (by decide) --done
  · exact absurd (h5.symm.trans c4) (by decide) --done
  · exact absurd (h5.symm.trans c4) (by decide) --done
  · exact absurd (h5.symm.trans c4) (by decide) --done
  · exact absurd (h5.symm.trans c4) (by decide) --done
  · exact absurd (h5.symm.trans c4) (by decide) --done
  · exact absurd (h5.symm.trans c4) (by decide) --done
theorem e_X5_step8 {dr rl n : Nat} (hW : CW sh P) (hdr : P 1 1 = some dr) (sdr : sh dr = some (.inl 0)) (hrl : P dr 1 = some rl) (srl : sh rl = some (.inr (5, 12))) (h33 : I 1 3 = 0) (h5 : I 1 5 = 8) (hn : I dr 2 = nI n) (hn2 : n < 12) (h100 : 76 ≤ nx) (ndr : dr < nx) (nrl : rl < nx) (hk : I 1 6 = 2) (hr : ¬ (I 1 9 < 0 ∨ 9999 < I 1 9)) : Ev X B mdX5_step 1 6 [.ref (B + 1)] nx sh I P (mDet none (nx + 1) (mUs sh nx (.inl 7)) (finI (mUp I 1 5 12) nx dr n (I 1 9)) (finP P nx rl n)) := by
  have s1 : sh 1 = some (.inl 5) := hW.1 1 _ rfl
  have nd : dr ≠ 1 := sh_ne sdr s1 (by decide)
  have eM : tkM I 0 9999 12 = mUp I 1 5 12 := by rw [tkM, if_pos hk, if_neg hr]
  have eV : tkV I 0 9999 = I 1 9 := by rw [tkV, if_pos hk, if_neg hr]
  refine Ev.of (by decide) (by simp [Value.category]) (by simp) (fun G hM => ?_)
  have hM : mM X B "step" none 8 170 1 6 _ G := hM
  show V X B RX5 cX5_step G 0 0 nx sh I P 0 [some (.ref (B + 1))] []
  refine V_aln dX5_step_0 rfl ?_
  refine V_getI dX5_step_1 flX5_35 (by assumption) rfl ?_
  refine V_tsw_0_11 (td := 224) (t0 := 68) (t1 := 75) (t2 := 92) (t3 := 99) (t4 := 114) (t5 := 124) (t6 := 143) (t7 := 150) (t8 := 161) (t9 := 178) (t10 := 185) (t11 := 205) dX5_step_4 rfl rfl rfl rfl rfl rfl rfl rfl rfl rfl rfl rfl rfl (fun c4 => ?_) (fun c4 => ?_) (fun c4 => ?_) (fun c4 => ?_) (fun c4 => ?_) (fun c4 => ?_) (fun c4 => ?_) (fun c4 => ?_) (fun c4 => ?_) (fun c4 => ?_) (fun c4 => ?_) (fun c4 => ?_) (fun c4 => ?_)
  · exfalso; rw [h5] at c4; revert c4; decide --done
  · exact absurd (h5.symm.trans c4) (by decide) --done
  · exact absurd (h5.symm.trans c4) (by decide) --done
  · exact absurd (h5.symm.trans c4) (by decide) --done
  · exact absurd (h5.symm.trans c4) (by decide) --done
  · exact absurd (h5.symm.trans c4) (by decide) --done
  · exact absurd (h5.symm.trans c4) (by decide) --done
  · exact absurd (h5.symm.trans c4) (by decide) --done
  · exact absurd (h5.symm.trans c4) (by decide) --done
  · refine V_aln dX5_step_161 rfl ?_
    refine V_aln dX5_step_162 rfl ?_
    refine V_iconst (v := 0) rfl dX5_step_163 ?_
    refine V_sipush (v := 9999) rfl dX5_step_164 ?_
    refine V_bipush (v := 12) rfl dX5_step_167 ?_
    refine V_cV3d hM cvX5_104 (by assumption) rfl (e_X5_takeNumber s1) ⟨Nat.le_of_ble_eq_true rfl, Nat.le_of_ble_eq_true rfl, Nat.le_of_ble_eq_true rfl, Nat.le_of_ble_eq_true rfl⟩ (Nat.le_of_ble_eq_true rfl) dX5_step_169 ?_
    rw [eM, eV]
    refine V_cV1n hM cvX5_122 (by assumption) rfl (e_X5_finishRule hW hdr sdr hrl srl (by simp [mUp, h33]) (by rw [mUp_c nd]; exact hn) hn2 h100 ndr nrl) ⟨Nat.le_of_ble_eq_true rfl, Nat.le_of_ble_eq_true rfl, Nat.le_of_ble_eq_true rfl, Nat.le_of_ble_eq_true rfl⟩ (Nat.le_of_ble_eq_true rfl) dX5_step_172 ?_
    refine V_goto (tgt := 228) dX5_step_175 rfl ?_
    exact V_vret hM dX5_step_228 (mDet.rf)
  · exact absurd (h5.symm.trans c4) (by decide) --done
  · exact absurd (h5.symm.trans c4) (by decide) --done
  · exact absurd (h5.symm.trans c4) (by decide) --done
theorem e_X5_step8N (hW : CW sh P) (h33 : I 1 3 = 0) (h5 : I 1 5 = 8) (hk : ¬ (I 1 6 = 2 ∧ ¬ (I 1 9 < 0 ∨ 9999 < I 1 9))) : Ev X B mdX5_step 1 6 [.ref (B + 1)] nx sh I P (mDet none nx sh (tkM I 0 9999 12) P) := by
  have s1 : sh 1 = some (.inl 5) := hW.1 1 _ rfl
  have eM : ¬ tkM I 0 9999 12 1 3 = 0 := by
    unfold tkM blameM
    by_cases h1 : I 1 6 = 2
    · by_cases h2 : I 1 9 < 0 ∨ 9999 < I 1 9
      · rw [if_pos h1, if_pos h2]; simp [mUp]
      · exact absurd ⟨h1, h2⟩ hk
    · rw [if_neg h1]; simp [mUp]
  refine Ev.of (by decide) (by simp [Value.category]) (by simp) (fun G hM => ?_)
  have hM : mM X B "step" none 8 170 1 6 _ G := hM
  show V X B RX5 cX5_step G 0 0 nx sh I P 0 [some (.ref (B + 1))] []
  refine V_aln dX5_step_0 rfl ?_
  refine V_getI dX5_step_1 flX5_35 (by assumption) rfl ?_
  refine V_tsw_0_11 (td := 224) (t0 := 68) (t1 := 75) (t2 := 92) (t3 := 99) (t4 := 114) (t5 := 124) (t6 := 143) (t7 := 150) (t8 := 161) (t9 := 178) (t10 := 185) (t11 := 205) dX5_step_4 rfl rfl rfl rfl rfl rfl rfl rfl rfl rfl rfl rfl rfl (fun c4 => ?_) (fun c4 => ?_) (fun c4 => ?_) (fun c4 => ?_) (fun c4 => ?_) (fun c4 => ?_) (fun c4 => ?_) (fun c4 => ?_) (fun c4 => ?_) (fun c4 => ?_) (fun c4 => ?_) (fun c4 => ?_) (fun c4 => ?_)
  · exfalso; rw [h5] at c4; revert c4; decide --done
  · exact absurd (h5.symm.trans c4) (by decide) --done
  · exact absurd (h5.symm.trans c4) (by decide) --done
  · exact absurd (h5.symm.trans c4) (by decide) --done
  · exact absurd (h5.symm.trans c4) (by decide) --done
  · exact absurd (h5.symm.trans c4) (by decide) --done
  · exact absurd (h5.symm.trans c4) (by decide) --done
  · exact absurd (h5.symm.trans c4) (by decide) --done
  · exact absurd (h5.symm.trans c4) (by decide) --done
  · refine V_aln dX5_step_161 rfl ?_
    refine V_aln dX5_step_162 rfl ?_
    refine V_iconst (v := 0) rfl dX5_step_163 ?_
    refine V_sipush (v := 9999) rfl dX5_step_164 ?_
    refine V_bipush (v := 12) rfl dX5_step_167 ?_
    refine V_cV3d hM cvX5_104 (by assumption) rfl (e_X5_takeNumber s1) ⟨Nat.le_of_ble_eq_true rfl, Nat.le_of_ble_eq_true rfl, Nat.le_of_ble_eq_true rfl, Nat.le_of_ble_eq_true rfl⟩ (Nat.le_of_ble_eq_true rfl) dX5_step_169 ?_
    refine V_cV1n hM cvX5_122 (by assumption) rfl (e_X5_finishRuleN s1 eM) ⟨Nat.le_of_ble_eq_true rfl, Nat.le_of_ble_eq_true rfl, Nat.le_of_ble_eq_true rfl, Nat.le_of_ble_eq_true rfl⟩ (Nat.le_of_ble_eq_true rfl) dX5_step_172 ?_
    refine V_goto (tgt := 228) dX5_step_175 rfl ?_
    exact V_vret hM dX5_step_228 (mDet.rf)
  · exact absurd (h5.symm.trans c4) (by decide) --done
  · exact absurd (h5.symm.trans c4) (by decide) --done
  · exact absurd (h5.symm.trans c4) (by decide) --done
end SP
