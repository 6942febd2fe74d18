/-! ===== the reference's rule and force ===== -/
section MO
variable {X : mX} {B nx : Nat} {sh : Nat → Option mSh} {I : mI} {P : mP}
def mRulF (I : mI) (k : Nat) (w : Int32) : Int32 := if w = 0 then I 41 k else if w = 1 then I 42 k else if w = 2 then I 43 k else if w = 3 then I 44 k else if w = 4 then I 45 k else if w = 5 then I 46 k else -9
theorem e_X12_rule {n a r m : Nat} {w : Int32} (hV : MW sh P) (hn : I 35 0 = nI n) (hn2 : n ≤ 12) (ha : a < n) (hm : I 37 a = nI m) (hm2 : m ≤ 12) (hr : r < m) : Ev X B mdX12_rule 0 0 [.ref (B + 35), .int (nI a), .int (nI r), .int w] nx sh I P (mDet (some (.int (mRulF I (12 * a + r) w))) nx sh I P) := by
  have s35 : sh 35 = some (.inl 12) := hV.1 35 _ rfl
  have s_ruleMany : sh 37 = some (.inr (0, 13)) := hV.1 37 _ rfl
  have p_ruleMany : P 35 2 = some 37 := hV.2 2 37 rfl
  have s_what : sh 41 = some (.inr (0, 156)) := hV.1 41 _ rfl
  have p_what : P 35 6 = some 41 := hV.2 6 41 rfl
  have s_number : sh 42 = some (.inr (0, 156)) := hV.1 42 _ rfl
  have p_number : P 35 7 = some 42 := hV.2 7 42 rfl
  have s_fromRank : sh 43 = some (.inr (0, 156)) := hV.1 43 _ rfl
  have p_fromRank : P 35 8 = some 43 := hV.2 8 43 rfl
  have s_toRank : sh 44 = some (.inr (0, 156)) := hV.1 44 _ rfl
  have p_toRank : P 35 9 = some 44 := hV.2 9 44 rfl
  have s_when : sh 45 = some (.inr (0, 156)) := hV.1 45 _ rfl
  have p_when : P 35 10 = some 45 := hV.2 10 45 rfl
  have s_fine : sh 46 = some (.inr (0, 156)) := hV.1 46 _ rfl
  have p_fine : P 35 11 = some 46 := hV.2 11 46 rfl
  refine Ev.of (by decide) (by simp [Value.category]) (by simp) (fun G hM => ?_)
  have hM : mM X B "rule" (some FieldType.int) 2 46 0 0 _ G := hM
  show V X B RX12 cX12_rule G 0 0 nx sh I P 0 [some (.ref (B + 35)), some (.int (nI a)), some (.int (nI r)), some (.int w), none] []
  refine V_aln dX12_rule_0 rfl ?_
  refine V_iln dX12_rule_1 rfl ?_
  refine V_cV1d hM cvX12_265 (by assumption) rfl (e_X12_isAct hV hn (by omega)) ⟨Nat.le_of_ble_eq_true rfl, Nat.le_of_ble_eq_true rfl, Nat.le_of_ble_eq_true rfl, Nat.le_of_ble_eq_true rfl⟩ (Nat.le_of_ble_eq_true rfl) dX12_rule_2 ?_
  rw [inB_of ha (by omega)]
  refine V_ifeq_b (tgt := 26) dX12_rule_5 rfl (fun c5 => ?_) (fun c5 => ?_)
  · exact absurd c5 (by decide) --done
  · refine V_iln dX12_rule_8 rfl ?_
    refine V_i2l dX12_rule_9 ?_
    refine V_lconst (v := 0) rfl dX12_rule_10 ?_
    refine V_aln dX12_rule_11 rfl ?_
    refine V_getR dX12_rule_12 flX12_88 (by assumption) rfl (by assumption) ?_
    refine V_iln dX12_rule_15 rfl ?_
    refine V_ialdNv dX12_rule_16 (by assumption) (by omega) (by omega) (hm) ?_
    refine V_i2l dX12_rule_17 ?_
    refine V_lconst (v := 1) rfl dX12_rule_18 ?_
    refine V_lsub dX12_rule_19 ?_
    refine V_cS3d hM cvX12_5 (e_X12_in) ⟨Nat.le_of_ble_eq_true rfl, Nat.le_of_ble_eq_true rfl, Nat.le_of_ble_eq_true rfl, Nat.le_of_ble_eq_true rfl⟩ (Nat.le_of_ble_eq_true rfl) dX12_rule_20 ?_
    rw [inJ (n64 (by omega)), inB_of hr (by omega)]
    refine V_ifne_b (tgt := 29) dX12_rule_23 rfl (fun c23 => ?_) (fun c23 => ?_)
    · refine V_bipush (v := 12) rfl dX12_rule_29 ?_
      refine V_iln dX12_rule_31 rfl ?_
      refine V_imul dX12_rule_32 ?_
      refine V_iln dX12_rule_33 rfl ?_
      refine V_iadd dX12_rule_34 ?_
      refine V_top (nI_12 a r) ?_
      refine V_is4 dX12_rule_35 ?_
      refine V_iln dX12_rule_37 rfl ?_
      refine V_tsw_0_5 (td := 124) (t0 := 76) (t1 := 84) (t2 := 92) (t3 := 100) (t4 := 108) (t5 := 116) dX12_rule_38 rfl rfl rfl rfl rfl rfl rfl (fun c38 => ?_) (fun c38 => ?_) (fun c38 => ?_) (fun c38 => ?_) (fun c38 => ?_) (fun c38 => ?_) (fun c38 => ?_)
      · refine V_bipush (v := -9) rfl dX12_rule_124 ?_
        exact V_iret hM dX12_rule_126 (⟨by have e0 : ¬ w = 0 := sw_0 (n := 5) 0 (by omega) (by omega) c38; have e1 : ¬ w = 1 := sw_0 (n := 5) 1 (by omega) (by omega) c38; have e2 : ¬ w = 2 := sw_0 (n := 5) 2 (by omega) (by omega) c38; have e3 : ¬ w = 3 := sw_0 (n := 5) 3 (by omega) (by omega) c38; have e4 : ¬ w = 4 := sw_0 (n := 5) 4 (by omega) (by omega) c38; have e5 : ¬ w = 5 := sw_0 (n := 5) 5 (by omega) (by omega) c38; rw [mRulF, if_neg e0, if_neg e1, if_neg e2, if_neg e3, if_neg e4, if_neg e5], rfl, rfl, rfl, rfl⟩)
      · refine V_aln dX12_rule_76 rfl ?_
        refine V_getR dX12_rule_77 flX12_127 (by assumption) rfl (by assumption) ?_
        refine V_il dX12_rule_80 rfl ?_
        refine V_ialdN dX12_rule_82 (by assumption) (by omega) (by omega) ?_
        exact V_iret hM dX12_rule_83 (⟨by simp [mRulF, c5, c23, c38], rfl, rfl, rfl, rfl⟩)
      · refine V_aln dX12_rule_84 rfl ?_
        refine V_getR dX12_rule_85 flX12_130 (by assumption) rfl (by assumption) ?_
        refine V_il dX12_rule_88 rfl ?_
        refine V_ialdN dX12_rule_90 (by assumption) (by omega) (by omega) ?_
        exact V_iret hM dX12_rule_91 (⟨by simp [mRulF, c5, c23, c38], rfl, rfl, rfl, rfl⟩)
      · refine V_aln dX12_rule_92 rfl ?_
        refine V_getR dX12_rule_93 flX12_132 (by assumption) rfl (by assumption) ?_
        refine V_il dX12_rule_96 rfl ?_
        refine V_ialdN dX12_rule_98 (by assumption) (by omega) (by omega) ?_
        exact V_iret hM dX12_rule_99 (⟨by simp [mRulF, c5, c23, c38], rfl, rfl, rfl, rfl⟩)
      · refine V_aln dX12_rule_100 rfl ?_
        refine V_getR dX12_rule_101 flX12_135 (by assumption) rfl (by assumption) ?_
        refine V_il dX12_rule_104 rfl ?_
        refine V_ialdN dX12_rule_106 (by assumption) (by omega) (by omega) ?_
        exact V_iret hM dX12_rule_107 (⟨by simp [mRulF, c5, c23, c38], rfl, rfl, rfl, rfl⟩)
      · refine V_aln dX12_rule_108 rfl ?_
        refine V_getR dX12_rule_109 flX12_148 (by assumption) rfl (by assumption) ?_
        refine V_il dX12_rule_112 rfl ?_
        refine V_ialdN dX12_rule_114 (by assumption) (by omega) (by omega) ?_
        exact V_iret hM dX12_rule_115 (⟨by simp [mRulF, c5, c23, c38], rfl, rfl, rfl, rfl⟩)
      · refine V_aln dX12_rule_116 rfl ?_
        refine V_getR dX12_rule_117 flX12_161 (by assumption) rfl (by assumption) ?_
        refine V_il dX12_rule_120 rfl ?_
        refine V_ialdN dX12_rule_122 (by assumption) (by omega) (by omega) ?_
        exact V_iret hM dX12_rule_123 (⟨by simp [mRulF, c5, c23, c38], rfl, rfl, rfl, rfl⟩)
    · exact absurd c23 (by decide) --done
theorem e_X12_ruleN {n a m : Nat} {r w : Int32} (hV : MW sh P) (hn : I 35 0 = nI n) (hn2 : n ≤ 12) (ha : a < n) (hm : I 37 a = nI m) (hm2 : m ≤ 12) (hr : inB r m = false) : Ev X B mdX12_rule 0 0 [.ref (B + 35), .int (nI a), .int r, .int w] nx sh I P (mDet (some (.int (-9))) nx sh I P) := by
  have s35 : sh 35 = some (.inl 12) := hV.1 35 _ rfl
  have s_ruleMany : sh 37 = some (.inr (0, 13)) := hV.1 37 _ rfl
  have p_ruleMany : P 35 2 = some 37 := hV.2 2 37 rfl
  refine Ev.of (by decide) (by simp [Value.category]) (by simp) (fun G hM => ?_)
  have hM : mM X B "rule" (some FieldType.int) 2 46 0 0 _ G := hM
  show V X B RX12 cX12_rule G 0 0 nx sh I P 0 [some (.ref (B + 35)), some (.int (nI a)), some (.int r), some (.int w), none] []
  refine V_aln dX12_rule_0 rfl ?_
  refine V_iln dX12_rule_1 rfl ?_
  refine V_cV1d hM cvX12_265 (by assumption) rfl (e_X12_isAct hV hn (by omega)) ⟨Nat.le_of_ble_eq_true rfl, Nat.le_of_ble_eq_true rfl, Nat.le_of_ble_eq_true rfl, Nat.le_of_ble_eq_true rfl⟩ (Nat.le_of_ble_eq_true rfl) dX12_rule_2 ?_
  rw [inB_of ha (by omega)]
  refine V_ifeq_b (tgt := 26) dX12_rule_5 rfl (fun c5 => ?_) (fun c5 => ?_)
  · exact absurd c5 (by decide) --done
  · refine V_iln dX12_rule_8 rfl ?_
    refine V_i2l dX12_rule_9 ?_
    refine V_lconst (v := 0) rfl dX12_rule_10 ?_
    refine V_aln dX12_rule_11 rfl ?_
    refine V_getR dX12_rule_12 flX12_88 (by assumption) rfl (by assumption) ?_
    refine V_iln dX12_rule_15 rfl ?_
    refine V_ialdNv dX12_rule_16 (by assumption) (by omega) (by omega) (hm) ?_
    refine V_i2l dX12_rule_17 ?_
    refine V_lconst (v := 1) rfl dX12_rule_18 ?_
    refine V_lsub dX12_rule_19 ?_
    refine V_cS3d hM cvX12_5 (e_X12_in) ⟨Nat.le_of_ble_eq_true rfl, Nat.le_of_ble_eq_true rfl, Nat.le_of_ble_eq_true rfl, Nat.le_of_ble_eq_true rfl⟩ (Nat.le_of_ble_eq_true rfl) dX12_rule_20 ?_
    rw [inJ (n64 (by omega)), hr]
    refine V_ifne_b (tgt := 29) dX12_rule_23 rfl (fun c23 => ?_) (fun c23 => ?_)
    · exact absurd c23 (by decide) --done
    · refine V_bipush (v := -9) rfl dX12_rule_26 ?_
      exact V_iret hM dX12_rule_28 (mDet.rf)
theorem e_X12_ruleA {n : Nat} {a r w : Int32} (hV : MW sh P) (hn : I 35 0 = nI n) (hn2 : n ≤ 12) (ha : inB a n = false) : Ev X B mdX12_rule 0 0 [.ref (B + 35), .int a, .int r, .int w] nx sh I P (mDet (some (.int (-9))) nx sh I P) := by
  have s35 : sh 35 = some (.inl 12) := hV.1 35 _ rfl
  have s_ruleMany : sh 37 = some (.inr (0, 13)) := hV.1 37 _ rfl
  have p_ruleMany : P 35 2 = some 37 := hV.2 2 37 rfl
  refine Ev.of (by decide) (by simp [Value.category]) (by simp) (fun G hM => ?_)
  have hM : mM X B "rule" (some FieldType.int) 2 46 0 0 _ G := hM
  show V X B RX12 cX12_rule G 0 0 nx sh I P 0 [some (.ref (B + 35)), some (.int a), some (.int r), some (.int w), none] []
  refine V_aln dX12_rule_0 rfl ?_
  refine V_iln dX12_rule_1 rfl ?_
  refine V_cV1d hM cvX12_265 (by assumption) rfl (e_X12_isAct hV hn (by omega)) ⟨Nat.le_of_ble_eq_true rfl, Nat.le_of_ble_eq_true rfl, Nat.le_of_ble_eq_true rfl, Nat.le_of_ble_eq_true rfl⟩ (Nat.le_of_ble_eq_true rfl) dX12_rule_2 ?_
  rw [ha]
  refine V_ifeq_b (tgt := 26) dX12_rule_5 rfl (fun c5 => ?_) (fun c5 => ?_)
  · refine V_bipush (v := -9) rfl dX12_rule_26 ?_
    exact V_iret hM dX12_rule_28 (mDet.rf)
  · exact absurd c5 (by decide) --done
/-- whether act a is in force on a day -/
def qRp (I : mI) (day : Int32) (a o : Nat) : Bool := decide (I 36 o ≤ day) && bit (I 40 o) a
def qInF (I : mI) (n : Nat) (day : Int32) (a : Nat) : Bool := decide (I 36 a ≤ day) && !anyR (qRp I day a) n
theorem l_X12_isInForce {G : mG} {n a : Nat} {day : Int32} (hV : MW sh P) (hn : I 35 0 = nI n) (hn2 : n ≤ 12) (ha : a < 13) (h0 : I 36 a ≤ day) (hM : mM X B "isInForce" (some .boolean) 0 0 0 0 (mDet (some (.int (bI (qInF I n day a)))) nx sh I P) G) : ∀ (z i : Nat), i ≤ n → n - i < z → (∀ j, j < i → qRp I day a j = false) → V X B RX12 cX12_isInForce G 0 0 nx sh I P 14 [some (.ref (B + 35)), some (.int (nI a)), some (.int day), some (.int (nI i))] [] := by
  have s35 : sh 35 = some (.inl 12) := hV.1 35 _ rfl
  have s_firstDay : sh 36 = some (.inr (0, 13)) := hV.1 36 _ rfl
  have p_firstDay : P 35 1 = some 36 := hV.2 1 36 rfl
  have s_repeals : sh 40 = some (.inr (0, 13)) := hV.1 40 _ rfl
  have p_repeals : P 35 5 = some 40 := hV.2 5 40 rfl
  intro z
  induction z with
  | zero => intro i _ h; omega
  | succ z ih =>
    intro i hi hz hin
    refine V_iln dX12_isInForce_14 rfl ?_
    refine V_aln dX12_isInForce_15 rfl ?_
    refine V_getIv dX12_isInForce_16 flX12_118 (by assumption) rfl (hn) ?_
    refine V_icmp_ge (tgt := 54) dX12_isInForce_19 rfl (fun c19 => ?_) (fun c19 => ?_)
    · have c19 := nN_le c19 (by omega) (by omega)
      obtain rfl : i = n := by omega
      refine V_iconst (v := 1) rfl dX12_isInForce_54 ?_
      exact V_zret hM (by first | exact Or.inl rfl | exact Or.inr rfl | exact bI_01 _) dX12_isInForce_55 (⟨by rw [qInF, anyR_f hin, decide_eq_true h0]; rfl, rfl, rfl, rfl, rfl⟩)
    · have c19 := nN_nle c19 (by omega) (by omega)
      refine V_aln dX12_isInForce_22 rfl ?_
      refine V_getR dX12_isInForce_23 flX12_168 (by assumption) rfl (by assumption) ?_
      refine V_iln dX12_isInForce_26 rfl ?_
      refine V_ialdN dX12_isInForce_27 (by assumption) (by omega) (by omega) ?_
      refine V_iln dX12_isInForce_28 rfl ?_
      refine V_icmp_gt (tgt := 48) dX12_isInForce_29 rfl (fun c29 => ?_) (fun c29 => ?_)
      · have c29 := i_lt_nle c29
        refine V_inc3 dX12_isInForce_48 ?_
        refine V_goto (tgt := 14) dX12_isInForce_51 rfl ?_
        rw [nI_inc]
        exact ih (i + 1) (by omega) (by omega) (lt_s' hin (by simp [qRp, c19, c29]))
      · have c29 := i_nlt c29
        refine V_aln dX12_isInForce_32 rfl ?_
        refine V_getR dX12_isInForce_33 flX12_98 (by assumption) rfl (by assumption) ?_
        refine V_iln dX12_isInForce_36 rfl ?_
        refine V_ialdN dX12_isInForce_37 (by assumption) (by omega) (by omega) ?_
        refine V_iln dX12_isInForce_38 rfl ?_
        refine V_ishr dX12_isInForce_39 ?_
        refine V_iconst (v := 1) rfl dX12_isInForce_40 ?_
        refine V_iand dX12_isInForce_41 ?_
        refine V_iconst (v := 1) rfl dX12_isInForce_42 ?_
        refine V_icmp_ne (tgt := 48) dX12_isInForce_43 rfl (fun c43 => ?_) (fun c43 => ?_)
        · have c43 : bit (I 40 i) a = false := by cases hb : bit (I 40 i) a with
            | false => rfl
            | true => exact absurd ((shr_bit (by omega)).mpr hb) c43
          refine V_inc3 dX12_isInForce_48 ?_
          refine V_goto (tgt := 14) dX12_isInForce_51 rfl ?_
          rw [nI_inc]
          exact ih (i + 1) (by omega) (by omega) (lt_s' hin (by simp [qRp, c19, c29, c43]))
        · have c43 := (shr_bit (by omega)).mp c43
          refine V_iconst (v := 0) rfl dX12_isInForce_46 ?_
          exact V_zret hM (by first | exact Or.inl rfl | exact Or.inr rfl | exact bI_01 _) dX12_isInForce_47 (⟨by rw [qInF, anyR_t (i := i) c19 (by simp [qRp, c19, c29, c43])]; simp [bI], rfl, rfl, rfl, rfl⟩)
theorem e_X12_isInForce {n a : Nat} {day : Int32} (hV : MW sh P) (hn : I 35 0 = nI n) (hn2 : n ≤ 12) (ha : a < 13) : Ev X B mdX12_isInForce 0 0 [.ref (B + 35), .int (nI a), .int day] nx sh I P (mDet (some (.int (bI (qInF I n day a)))) nx sh I P) := by
  have s35 : sh 35 = some (.inl 12) := hV.1 35 _ rfl
  have s_firstDay : sh 36 = some (.inr (0, 13)) := hV.1 36 _ rfl
  have p_firstDay : P 35 1 = some 36 := hV.2 1 36 rfl
  have s_repeals : sh 40 = some (.inr (0, 13)) := hV.1 40 _ rfl
  have p_repeals : P 35 5 = some 40 := hV.2 5 40 rfl
  refine Ev.of (by decide) (by simp [Value.category]) (by simp) (fun G hM => ?_)
  have hM : mM X B "isInForce" (some FieldType.boolean) 0 0 0 0 _ G := hM
  show V X B RX12 cX12_isInForce G 0 0 nx sh I P 0 [some (.ref (B + 35)), some (.int (nI a)), some (.int day), none] []
  refine V_aln dX12_isInForce_0 rfl ?_
  refine V_getR dX12_isInForce_1 flX12_168 (by assumption) rfl (by assumption) ?_
  refine V_iln dX12_isInForce_4 rfl ?_
  refine V_ialdN dX12_isInForce_5 (by assumption) (by omega) (by omega) ?_
  refine V_iln dX12_isInForce_6 rfl ?_
  refine V_icmp_le (tgt := 12) dX12_isInForce_7 rfl (fun c7 => ?_) (fun c7 => ?_)
  · refine V_iconst (v := 0) rfl dX12_isInForce_12 ?_
    refine V_is3 dX12_isInForce_13 ?_
    exact l_X12_isInForce hV hn hn2 ha c7 hM (n + 1) 0 (by omega) (by omega) (fun j h => by omega)
  · refine V_iconst (v := 0) rfl dX12_isInForce_10 ?_
    exact V_zret hM (by first | exact Or.inl rfl | exact Or.inr rfl | exact bI_01 _) dX12_isInForce_11 (⟨by rw [qInF, decide_eq_false c7]; rfl, rfl, rfl, rfl, rfl⟩)
theorem l_X12_force {G : mG} {n : Nat} {day : Int32} (hV : MW sh P) (hn : I 35 0 = nI n) (hn2 : n ≤ 12) (hM : mM X B "force" (some .int) 2 45 0 0 (mDet (some (.int (bitsF (qInF I n day) n))) nx sh I P) G) : ∀ (z i : Nat), i ≤ n → n - i < z → V X B RX12 cX12_force G 0 0 nx sh I P 14 [some (.ref (B + 35)), some (.int day), some (.int (bitsF (qInF I n day) i)), some (.int (nI i))] [] := by
  have s35 : sh 35 = some (.inl 12) := hV.1 35 _ rfl
  intro z
  induction z with
  | zero => intro i _ h; omega
  | succ z ih =>
    intro i hi hz
    refine V_iln dX12_force_14 rfl ?_
    refine V_aln dX12_force_15 rfl ?_
    refine V_getIv dX12_force_16 flX12_118 (by assumption) rfl (hn) ?_
    refine V_icmp_ge (tgt := 47) dX12_force_19 rfl (fun c19 => ?_) (fun c19 => ?_)
    · have c19 := nN_le c19 (by omega) (by omega)
      obtain rfl : i = n := by omega
      refine V_iln dX12_force_47 rfl ?_
      exact V_iret hM dX12_force_48 (mDet.rf)
    · have c19 := nN_nle c19 (by omega) (by omega)
      refine V_iln dX12_force_22 rfl ?_
      refine V_aln dX12_force_23 rfl ?_
      refine V_iln dX12_force_24 rfl ?_
      refine V_iln dX12_force_25 rfl ?_
      refine V_cV2d hM cvX12_268 (by assumption) rfl (e_X12_isInForce hV hn hn2 (by omega)) ⟨Nat.le_of_ble_eq_true rfl, Nat.le_of_ble_eq_true rfl, Nat.le_of_ble_eq_true rfl, Nat.le_of_ble_eq_true rfl⟩ (Nat.le_of_ble_eq_true rfl) dX12_force_26 ?_
      refine V_ifeq_b (tgt := 38) dX12_force_29 rfl (fun c29 => ?_) (fun c29 => ?_)
      · refine V_iconst (v := 0) rfl dX12_force_38 ?_
        refine V_ior dX12_force_39 ?_
        refine V_is2 dX12_force_40 ?_
        refine V_inc3 dX12_force_41 ?_
        refine V_goto (tgt := 14) dX12_force_44 rfl ?_
        refine V_ls ?_ (ih (i + 1) (by omega) (by omega))
        simp [nI_inc, nI_inc', bitsF, c19, c29]
      · refine V_iconst (v := 1) rfl dX12_force_32 ?_
        refine V_iln dX12_force_33 rfl ?_
        refine V_ishl dX12_force_34 ?_
        refine V_goto (tgt := 39) dX12_force_35 rfl ?_
        refine V_ior dX12_force_39 ?_
        refine V_is2 dX12_force_40 ?_
        refine V_inc3 dX12_force_41 ?_
        refine V_goto (tgt := 14) dX12_force_44 rfl ?_
        refine V_ls ?_ (ih (i + 1) (by omega) (by omega))
        simp [nI_inc, nI_inc', bitsF, c19, c29]
theorem e_X12_force {n : Nat} {day : Int32} (hV : MW sh P) (hn : I 35 0 = nI n) (hn2 : n ≤ 12) (hd : inB day 10000 = true) : Ev X B mdX12_force 0 0 [.ref (B + 35), .int day] nx sh I P (mDet (some (.int (bitsF (qInF I n day) n))) nx sh I P) := by
  refine Ev.of (by decide) (by simp [Value.category]) (by simp) (fun G hM => ?_)
  have hM : mM X B "force" (some FieldType.int) 2 45 0 0 _ G := hM
  show V X B RX12 cX12_force G 0 0 nx sh I P 0 [some (.ref (B + 35)), some (.int day), none, none] []
  refine V_iln dX12_force_0 rfl ?_
  refine V_cS1d hM cvX12_259 (e_X12_isDay) ⟨Nat.le_of_ble_eq_true rfl, Nat.le_of_ble_eq_true rfl, Nat.le_of_ble_eq_true rfl, Nat.le_of_ble_eq_true rfl⟩ (Nat.le_of_ble_eq_true rfl) dX12_force_1 ?_
  rw [hd]
  refine V_ifne_b (tgt := 10) dX12_force_4 rfl (fun c4 => ?_) (fun c4 => ?_)
  · refine V_iconst (v := 0) rfl dX12_force_10 ?_
    refine V_is2 dX12_force_11 ?_
    refine V_iconst (v := 0) rfl dX12_force_12 ?_
    refine V_is3 dX12_force_13 ?_
    exact l_X12_force hV hn hn2 hM (n + 1) 0 (by omega) (by omega)
  · exact absurd c4 (by decide) --done
theorem e_X12_forceN {day : Int32} (hd : inB day 10000 = false) : Ev X B mdX12_force 0 0 [.ref (B + 35), .int day] nx sh I P (mDet (some (.int (-2))) nx sh I P) := by
  refine Ev.of (by decide) (by simp [Value.category]) (by simp) (fun G hM => ?_)
  have hM : mM X B "force" (some FieldType.int) 2 45 0 0 _ G := hM
  show V X B RX12 cX12_force G 0 0 nx sh I P 0 [some (.ref (B + 35)), some (.int day), none, none] []
  refine V_iln dX12_force_0 rfl ?_
  refine V_cS1d hM cvX12_259 (e_X12_isDay) ⟨Nat.le_of_ble_eq_true rfl, Nat.le_of_ble_eq_true rfl, Nat.le_of_ble_eq_true rfl, Nat.le_of_ble_eq_true rfl⟩ (Nat.le_of_ble_eq_true rfl) dX12_force_1 ?_
  rw [hd]
  refine V_ifne_b (tgt := 10) dX12_force_4 rfl (fun c4 => ?_) (fun c4 => ?_)
  · exact absurd c4 (by decide) --done
  · refine V_bipush (v := -2) rfl dX12_force_7 ?_
    exact V_iret hM dX12_force_9 (mDet.rf)
end MO
