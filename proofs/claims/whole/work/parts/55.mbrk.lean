/-! ===== the reference's binds, isBroken, brokenOf ===== -/
def qBi (I : mI) (n a k : Nat) (rank occ : Int32) (g : Nat) (day : Int32) : Bool := qInF I n day a && rConc (I 43 k) (I 44 k) (I 45 k) rank occ && !letF (I 60 g) (I 36 a) day (I 38 a)
def qBr (I : mI) (nl k g : Nat) (day : Int32) : Bool := rOff (I 41 k) (I 42 k) (mCt I nl day (I 58 g)) (I 59 g) (fun j => I 57 (5 * g + j))
def qBo (I : mI) (n nl a : Nat) (rank occ : Int32) (g : Nat) (day : Int32) (m : Nat) : Int32 := bitsF (fun r => qBi I n a (12 * a + r) rank occ g day && qBr I nl (12 * a + r) g day) m
section MB
variable {X : mX} {B nx : Nat} {sh : Nat → Option mSh} {I : mI} {P : mP}
theorem e_X12_binds {n a r g : Nat} {rank occ day : Int32} (hV : MW sh P) (hn : I 35 0 = nI n) (hn2 : n ≤ 12) (ha : a < n) (hr : r < 12) (hg : g < 40) : Ev X B mdX12_binds 0 0 [.ref (B + 35), .int (nI a), .int (nI r), .int rank, .int occ, .int (nI g), .int day] nx sh I P (mDet (some (.int (bI (qBi I n a (12 * a + r) rank occ g day)))) nx sh I P) := by
  have s35 : sh 35 = some (.inl 12) := hV.1 35 _ rfl
  have s_firstDay : sh 36 = some (.inr (0, 13)) := hV.1 36 _ rfl
  have p_firstDay : P 35 1 = some 36 := hV.2 1 36 rfl
  have s_seal : sh 38 = some (.inr (0, 13)) := hV.1 38 _ rfl
  have p_seal : P 35 3 = some 38 := hV.2 3 38 rfl
  have s_fromRank : sh 43 = some (.inr (0, 156)) := hV.1 43 _ rfl
  have p_fromRank : P 35 8 = some 43 := hV.2 8 43 rfl
  have s_toRank : sh 44 = some (.inr (0, 156)) := hV.1 44 _ rfl
  have p_toRank : P 35 9 = some 44 := hV.2 9 44 rfl
  have s_when : sh 45 = some (.inr (0, 156)) := hV.1 45 _ rfl
  have p_when : P 35 10 = some 45 := hV.2 10 45 rfl
  have s_sealed : sh 60 = some (.inr (0, 40)) := hV.1 60 _ rfl
  have p_sealed : P 35 37 = some 60 := hV.2 37 60 rfl
  refine Ev.of (by decide) (by simp [Value.category]) (by simp) (fun G hM => ?_)
  have hM : mM X B "binds" (some FieldType.boolean) 1 25 0 0 _ G := hM
  show V X B RX12 cX12_binds G 0 0 nx sh I P 0 [some (.ref (B + 35)), some (.int (nI a)), some (.int (nI r)), some (.int rank), some (.int occ), some (.int (nI g)), some (.int day), none] []
  refine V_bipush (v := 12) rfl dX12_binds_0 ?_
  refine V_iln dX12_binds_2 rfl ?_
  refine V_imul dX12_binds_3 ?_
  refine V_iln dX12_binds_4 rfl ?_
  refine V_iadd dX12_binds_5 ?_
  refine V_top (nI_12 a r) ?_
  refine V_is7 dX12_binds_6 ?_
  refine V_aln dX12_binds_8 rfl ?_
  refine V_iln dX12_binds_9 rfl ?_
  refine V_il dX12_binds_10 rfl ?_
  refine V_cV2d hM cvX12_268 (by assumption) rfl (e_X12_isInForce hV hn hn2 (by omega)) ⟨Nat.le_of_ble_eq_true rfl, Nat.le_of_ble_eq_true rfl, Nat.le_of_ble_eq_true rfl, Nat.le_of_ble_eq_true rfl⟩ (Nat.le_of_ble_eq_true rfl) dX12_binds_12 ?_
  refine V_ifeq_b (tgt := 65) dX12_binds_15 rfl (fun c15 => ?_) (fun c15 => ?_)
  · refine V_iconst (v := 0) rfl dX12_binds_65 ?_
    exact V_zret hM (by first | exact Or.inl rfl | exact Or.inr rfl | exact bI_01 _) dX12_binds_66 (⟨by simp [qBi, rConc, c15, bI], rfl, rfl, rfl, rfl⟩)
  · refine V_iln dX12_binds_18 rfl ?_
    refine V_i2l dX12_binds_19 ?_
    refine V_aln dX12_binds_20 rfl ?_
    refine V_getR dX12_binds_21 flX12_132 (by assumption) rfl (by assumption) ?_
    refine V_il dX12_binds_24 rfl ?_
    refine V_ialdN dX12_binds_26 (by assumption) (by omega) (by omega) ?_
    refine V_i2l dX12_binds_27 ?_
    refine V_aln dX12_binds_28 rfl ?_
    refine V_getR dX12_binds_29 flX12_135 (by assumption) rfl (by assumption) ?_
    refine V_il dX12_binds_32 rfl ?_
    refine V_ialdN dX12_binds_34 (by assumption) (by omega) (by omega) ?_
    refine V_i2l dX12_binds_35 ?_
    refine V_cS3d hM cvX12_5 (e_X12_in) ⟨Nat.le_of_ble_eq_true rfl, Nat.le_of_ble_eq_true rfl, Nat.le_of_ble_eq_true rfl, Nat.le_of_ble_eq_true rfl⟩ (Nat.le_of_ble_eq_true rfl) dX12_binds_36 ?_
    rw [in64]
    refine V_ifeq_b (tgt := 65) dX12_binds_39 rfl (fun c39 => ?_) (fun c39 => ?_)
    · have c39 : ∀ b, (decide (I 43 (12 * a + r) ≤ rank) && decide (rank ≤ I 44 (12 * a + r)) && b) = false := fun b => by rw [c39]; rfl
      refine V_iconst (v := 0) rfl dX12_binds_65 ?_
      exact V_zret hM (by first | exact Or.inl rfl | exact Or.inr rfl | exact bI_01 _) dX12_binds_66 (⟨by simp [qBi, rConc, c15, c39, bI], rfl, rfl, rfl, rfl⟩)
    · refine V_aln dX12_binds_42 rfl ?_
      refine V_getR dX12_binds_43 flX12_148 (by assumption) rfl (by assumption) ?_
      refine V_il dX12_binds_46 rfl ?_
      refine V_ialdN dX12_binds_48 (by assumption) (by omega) (by omega) ?_
      refine V_iconst (v := 3) rfl dX12_binds_49 ?_
      refine V_icmp_eq (tgt := 67) dX12_binds_50 rfl (fun c50 => ?_) (fun c50 => ?_)
      · refine V_aln dX12_binds_67 rfl ?_
        refine V_getR dX12_binds_68 flX12_205 (by assumption) rfl (by assumption) ?_
        refine V_il dX12_binds_71 rfl ?_
        refine V_ialdN dX12_binds_73 (by assumption) (by omega) (by omega) ?_
        refine V_iconst (v := -1) rfl dX12_binds_74 ?_
        refine V_icmp_eq (tgt := 112) dX12_binds_75 rfl (fun c75 => ?_) (fun c75 => ?_)
        · refine V_iconst (v := 1) rfl dX12_binds_112 ?_
          refine V_goto (tgt := 117) dX12_binds_113 rfl ?_
          exact V_zret hM (by first | exact Or.inl rfl | exact Or.inr rfl | exact bI_01 _) dX12_binds_117 (⟨by simp [qBi, rConc, letF, c15, c39, c50, c75, bI], rfl, rfl, rfl, rfl⟩)
        · refine V_aln dX12_binds_78 rfl ?_
          refine V_getR dX12_binds_79 flX12_205 (by assumption) rfl (by assumption) ?_
          refine V_il dX12_binds_82 rfl ?_
          refine V_ialdN dX12_binds_84 (by assumption) (by omega) (by omega) ?_
          refine V_aln dX12_binds_85 rfl ?_
          refine V_getR dX12_binds_86 flX12_168 (by assumption) rfl (by assumption) ?_
          refine V_iln dX12_binds_89 rfl ?_
          refine V_ialdN dX12_binds_90 (by assumption) (by omega) (by omega) ?_
          refine V_icmp_ge (tgt := 112) dX12_binds_91 rfl (fun c91 => ?_) (fun c91 => ?_)
          · have c91 := i_le_nlt c91
            refine V_iconst (v := 1) rfl dX12_binds_112 ?_
            refine V_goto (tgt := 117) dX12_binds_113 rfl ?_
            exact V_zret hM (by first | exact Or.inl rfl | exact Or.inr rfl | exact bI_01 _) dX12_binds_117 (⟨by simp [qBi, rConc, letF, c15, c39, c50, c75, c91, bI], rfl, rfl, rfl, rfl⟩)
          · have c91 := i_nle c91
            refine V_il dX12_binds_94 rfl ?_
            refine V_aln dX12_binds_96 rfl ?_
            refine V_getR dX12_binds_97 flX12_168 (by assumption) rfl (by assumption) ?_
            refine V_iln dX12_binds_100 rfl ?_
            refine V_ialdN dX12_binds_101 (by assumption) (by omega) (by omega) ?_
            refine V_aln dX12_binds_102 rfl ?_
            refine V_getR dX12_binds_103 flX12_92 (by assumption) rfl (by assumption) ?_
            refine V_iln dX12_binds_106 rfl ?_
            refine V_ialdN dX12_binds_107 (by assumption) (by omega) (by omega) ?_
            refine V_iadd dX12_binds_108 ?_
            refine V_icmp_lt (tgt := 116) dX12_binds_109 rfl (fun c109 => ?_) (fun c109 => ?_)
            · refine V_iconst (v := 0) rfl dX12_binds_116 ?_
              exact V_zret hM (by first | exact Or.inl rfl | exact Or.inr rfl | exact bI_01 _) dX12_binds_117 (⟨by simp [qBi, rConc, letF, c15, c39, c50, c75, c91, c109, bI], rfl, rfl, rfl, rfl⟩)
            · have c109 := i_le_nlt (i_nlt c109)
              refine V_iconst (v := 1) rfl dX12_binds_112 ?_
              refine V_goto (tgt := 117) dX12_binds_113 rfl ?_
              exact V_zret hM (by first | exact Or.inl rfl | exact Or.inr rfl | exact bI_01 _) dX12_binds_117 (⟨by simp [qBi, rConc, letF, c15, c39, c50, c75, c91, c109, bI], rfl, rfl, rfl, rfl⟩)
      · refine V_aln dX12_binds_53 rfl ?_
        refine V_getR dX12_binds_54 flX12_148 (by assumption) rfl (by assumption) ?_
        refine V_il dX12_binds_57 rfl ?_
        refine V_ialdN dX12_binds_59 (by assumption) (by omega) (by omega) ?_
        refine V_il dX12_binds_60 rfl ?_
        refine V_icmp_eq (tgt := 67) dX12_binds_62 rfl (fun c62 => ?_) (fun c62 => ?_)
        · refine V_aln dX12_binds_67 rfl ?_
          refine V_getR dX12_binds_68 flX12_205 (by assumption) rfl (by assumption) ?_
          refine V_il dX12_binds_71 rfl ?_
          refine V_ialdN dX12_binds_73 (by assumption) (by omega) (by omega) ?_
          refine V_iconst (v := -1) rfl dX12_binds_74 ?_
          refine V_icmp_eq (tgt := 112) dX12_binds_75 rfl (fun c75 => ?_) (fun c75 => ?_)
          · refine V_iconst (v := 1) rfl dX12_binds_112 ?_
            refine V_goto (tgt := 117) dX12_binds_113 rfl ?_
            exact V_zret hM (by first | exact Or.inl rfl | exact Or.inr rfl | exact bI_01 _) dX12_binds_117 (⟨by simp [qBi, rConc, letF, c15, c39, c50, c62, c75, bI], rfl, rfl, rfl, rfl⟩)
          · refine V_aln dX12_binds_78 rfl ?_
            refine V_getR dX12_binds_79 flX12_205 (by assumption) rfl (by assumption) ?_
            refine V_il dX12_binds_82 rfl ?_
            refine V_ialdN dX12_binds_84 (by assumption) (by omega) (by omega) ?_
            refine V_aln dX12_binds_85 rfl ?_
            refine V_getR dX12_binds_86 flX12_168 (by assumption) rfl (by assumption) ?_
            refine V_iln dX12_binds_89 rfl ?_
            refine V_ialdN dX12_binds_90 (by assumption) (by omega) (by omega) ?_
            refine V_icmp_ge (tgt := 112) dX12_binds_91 rfl (fun c91 => ?_) (fun c91 => ?_)
            · have c91 := i_le_nlt c91
              refine V_iconst (v := 1) rfl dX12_binds_112 ?_
              refine V_goto (tgt := 117) dX12_binds_113 rfl ?_
              exact V_zret hM (by first | exact Or.inl rfl | exact Or.inr rfl | exact bI_01 _) dX12_binds_117 (⟨by simp [qBi, rConc, letF, c15, c39, c50, c62, c75, c91, bI], rfl, rfl, rfl, rfl⟩)
            · have c91 := i_nle c91
              refine V_il dX12_binds_94 rfl ?_
              refine V_aln dX12_binds_96 rfl ?_
              refine V_getR dX12_binds_97 flX12_168 (by assumption) rfl (by assumption) ?_
              refine V_iln dX12_binds_100 rfl ?_
              refine V_ialdN dX12_binds_101 (by assumption) (by omega) (by omega) ?_
              refine V_aln dX12_binds_102 rfl ?_
              refine V_getR dX12_binds_103 flX12_92 (by assumption) rfl (by assumption) ?_
              refine V_iln dX12_binds_106 rfl ?_
              refine V_ialdN dX12_binds_107 (by assumption) (by omega) (by omega) ?_
              refine V_iadd dX12_binds_108 ?_
              refine V_icmp_lt (tgt := 116) dX12_binds_109 rfl (fun c109 => ?_) (fun c109 => ?_)
              · refine V_iconst (v := 0) rfl dX12_binds_116 ?_
                exact V_zret hM (by first | exact Or.inl rfl | exact Or.inr rfl | exact bI_01 _) dX12_binds_117 (⟨by simp [qBi, rConc, letF, c15, c39, c50, c62, c75, c91, c109, bI], rfl, rfl, rfl, rfl⟩)
              · have c109 := i_le_nlt (i_nlt c109)
                refine V_iconst (v := 1) rfl dX12_binds_112 ?_
                refine V_goto (tgt := 117) dX12_binds_113 rfl ?_
                exact V_zret hM (by first | exact Or.inl rfl | exact Or.inr rfl | exact bI_01 _) dX12_binds_117 (⟨by simp [qBi, rConc, letF, c15, c39, c50, c62, c75, c91, c109, bI], rfl, rfl, rfl, rfl⟩)
        · refine V_iconst (v := 0) rfl dX12_binds_65 ?_
          exact V_zret hM (by first | exact Or.inl rfl | exact Or.inr rfl | exact bI_01 _) dX12_binds_66 (⟨by simp [qBi, rConc, c15, c39, c50, c62, bI], rfl, rfl, rfl, rfl⟩)
theorem e_X12_isBroken {nl a r g w s : Nat} {day : Int32} (hV : MW sh P) (hl : I 35 33 = nI nl) (hl2 : nl ≤ 30) (hL : LkOk I nl) (ha : a < 12) (hr : r < 12) (hg : g < 40) (hw : I 41 (12 * a + r) = nI w) (hw8 : w < 8) (hs : I 58 g = nI s) (hs16 : s < 16) : Ev X B mdX12_isBroken 0 0 [.ref (B + 35), .int (nI a), .int (nI r), .int (nI g), .int day] nx sh I P (mDet (some (.int (bI (qBr I nl (12 * a + r) g day)))) nx sh I P) := by
  have s35 : sh 35 = some (.inl 12) := hV.1 35 _ rfl
  have s_what : sh 41 = some (.inr (0, 156)) := hV.1 41 _ rfl
  have p_what : P 35 6 = some 41 := hV.2 6 41 rfl
  have s_number : sh 42 = some (.inr (0, 156)) := hV.1 42 _ rfl
  have p_number : P 35 7 = some 42 := hV.2 7 42 rfl
  have s_stuff : sh 58 = some (.inr (0, 40)) := hV.1 58 _ rfl
  have p_stuff : P 35 35 = some 58 := hV.2 35 58 rfl
  have s_colour : sh 59 = some (.inr (0, 40)) := hV.1 59 _ rfl
  have p_colour : P 35 36 = some 59 := hV.2 36 59 rfl
  have s_measure : sh 57 = some (.inr (0, 200)) := hV.1 57 _ rfl
  have p_measure : P 35 34 = some 57 := hV.2 34 57 rfl
  refine Ev.of (by decide) (by simp [Value.category]) (by simp) (fun G hM => ?_)
  have hM : mM X B "isBroken" (some FieldType.boolean) 1 25 0 0 _ G := hM
  show V X B RX12 cX12_isBroken G 0 0 nx sh I P 0 [some (.ref (B + 35)), some (.int (nI a)), some (.int (nI r)), some (.int (nI g)), some (.int day), none] []
  have hne : (nI w).toInt < 5 ∨ 7 < (nI w).toInt → w < 5 := by
    intro h
    rw [nI_toInt (by omega)] at h
    omega
  have e5 : nI w = 5 → w = 5 := fun h => nI_eqN (a := w) (b := 5) (by omega) (by decide) h
  have e6 : nI w = 6 → w = 6 := fun h => nI_eqN (a := w) (b := 6) (by omega) (by decide) h
  have e7 : nI w = 7 → w = 7 := fun h => nI_eqN (a := w) (b := 7) (by omega) (by decide) h
  refine V_bipush (v := 12) rfl dX12_isBroken_0 ?_
  refine V_iln dX12_isBroken_2 rfl ?_
  refine V_imul dX12_isBroken_3 ?_
  refine V_iln dX12_isBroken_4 rfl ?_
  refine V_iadd dX12_isBroken_5 ?_
  refine V_top (nI_12 a r) ?_
  refine V_is5 dX12_isBroken_6 ?_
  refine V_aln dX12_isBroken_8 rfl ?_
  refine V_getR dX12_isBroken_9 flX12_127 (by assumption) rfl (by assumption) ?_
  refine V_il dX12_isBroken_12 rfl ?_
  refine V_ialdNv dX12_isBroken_14 (by assumption) (by omega) (by omega) (hw) ?_
  refine V_tsw_5_7 (td := 112) (t0 := 40) (t1 := 68) (t2 := 90) dX12_isBroken_15 rfl rfl rfl rfl (fun c15 => ?_) (fun c15 => ?_) (fun c15 => ?_) (fun c15 => ?_)
  · have hw5 := hne c15
    refine V_aln dX12_isBroken_112 rfl ?_
    refine V_getR dX12_isBroken_113 flX12_198 (by assumption) rfl (by assumption) ?_
    refine V_iconst (v := 5) rfl dX12_isBroken_116 ?_
    refine V_iln dX12_isBroken_117 rfl ?_
    refine V_imul dX12_isBroken_118 ?_
    refine V_aln dX12_isBroken_119 rfl ?_
    refine V_getR dX12_isBroken_120 flX12_127 (by assumption) rfl (by assumption) ?_
    refine V_il dX12_isBroken_123 rfl ?_
    refine V_ialdNv dX12_isBroken_125 (by assumption) (by omega) (by omega) (hw) ?_
    refine V_iadd dX12_isBroken_126 ?_
    refine V_top (nI_5 g w) ?_
    refine V_ialdN dX12_isBroken_127 (by assumption) (by omega) (by omega) ?_
    refine V_aln dX12_isBroken_128 rfl ?_
    refine V_getR dX12_isBroken_129 flX12_130 (by assumption) rfl (by assumption) ?_
    refine V_il dX12_isBroken_132 rfl ?_
    refine V_ialdN dX12_isBroken_134 (by assumption) (by omega) (by omega) ?_
    refine V_icmp_le (tgt := 142) dX12_isBroken_135 rfl (fun c135 => ?_) (fun c135 => ?_)
    · have c135 := i_le_nlt c135
      refine V_iconst (v := 0) rfl dX12_isBroken_142 ?_
      exact V_zret hM (by first | exact Or.inl rfl | exact Or.inr rfl | exact bI_01 _) dX12_isBroken_143 (⟨by rw [qBr, rOff, hw, if_neg (fun h => by have := e5 h; omega), if_neg (fun h => by have := e6 h; omega), if_neg (fun h => by have := e7 h; omega), gMz, inB_of hw5 (by decide), nI_clamp (by omega)]; simp [c135, bI], rfl, rfl, rfl, rfl⟩)
    · have c135 := i_nle c135
      refine V_iconst (v := 1) rfl dX12_isBroken_138 ?_
      refine V_goto (tgt := 143) dX12_isBroken_139 rfl ?_
      exact V_zret hM (by first | exact Or.inl rfl | exact Or.inr rfl | exact bI_01 _) dX12_isBroken_143 (⟨by rw [qBr, rOff, hw, if_neg (fun h => by have := e5 h; omega), if_neg (fun h => by have := e6 h; omega), if_neg (fun h => by have := e7 h; omega), gMz, inB_of hw5 (by decide), nI_clamp (by omega)]; simp [c135, bI], rfl, rfl, rfl, rfl⟩)
  · have hcc := c15
    refine V_aln dX12_isBroken_40 rfl ?_
    refine V_aln dX12_isBroken_41 rfl ?_
    refine V_getR dX12_isBroken_42 flX12_201 (by assumption) rfl (by assumption) ?_
    refine V_iln dX12_isBroken_45 rfl ?_
    refine V_ialdNv dX12_isBroken_46 (by assumption) (by omega) (by omega) (hs) ?_
    refine V_il dX12_isBroken_47 rfl ?_
    refine V_cV2d hM cvX12_309 (by assumption) rfl (e_X12_countsAs hV hl hl2 hL hs16) ⟨Nat.le_of_ble_eq_true rfl, Nat.le_of_ble_eq_true rfl, Nat.le_of_ble_eq_true rfl, Nat.le_of_ble_eq_true rfl⟩ (Nat.le_of_ble_eq_true rfl) dX12_isBroken_49 ?_
    refine V_aln dX12_isBroken_52 rfl ?_
    refine V_getR dX12_isBroken_53 flX12_130 (by assumption) rfl (by assumption) ?_
    refine V_il dX12_isBroken_56 rfl ?_
    refine V_ialdN dX12_isBroken_58 (by assumption) (by omega) (by omega) ?_
    refine V_icmp_ne (tgt := 66) dX12_isBroken_59 rfl (fun c59 => ?_) (fun c59 => ?_)
    · refine V_iconst (v := 0) rfl dX12_isBroken_66 ?_
      exact V_zret hM (by first | exact Or.inl rfl | exact Or.inr rfl | exact bI_01 _) dX12_isBroken_67 (⟨by simp [qBr, rOff, hw, hs, c15, c59, bI], rfl, rfl, rfl, rfl⟩)
    · refine V_iconst (v := 1) rfl dX12_isBroken_62 ?_
      refine V_goto (tgt := 67) dX12_isBroken_63 rfl ?_
      exact V_zret hM (by first | exact Or.inl rfl | exact Or.inr rfl | exact bI_01 _) dX12_isBroken_67 (⟨by simp [qBr, rOff, hw, hs, c15, c59, bI], rfl, rfl, rfl, rfl⟩)
  · have hcc := c15
    refine V_aln dX12_isBroken_68 rfl ?_
    refine V_getR dX12_isBroken_69 flX12_203 (by assumption) rfl (by assumption) ?_
    refine V_iln dX12_isBroken_72 rfl ?_
    refine V_ialdN dX12_isBroken_73 (by assumption) (by omega) (by omega) ?_
    refine V_aln dX12_isBroken_74 rfl ?_
    refine V_getR dX12_isBroken_75 flX12_130 (by assumption) rfl (by assumption) ?_
    refine V_il dX12_isBroken_78 rfl ?_
    refine V_ialdN dX12_isBroken_80 (by assumption) (by omega) (by omega) ?_
    refine V_icmp_ne (tgt := 88) dX12_isBroken_81 rfl (fun c81 => ?_) (fun c81 => ?_)
    · refine V_iconst (v := 0) rfl dX12_isBroken_88 ?_
      exact V_zret hM (by first | exact Or.inl rfl | exact Or.inr rfl | exact bI_01 _) dX12_isBroken_89 (⟨by simp [qBr, rOff, hw, c15, c81, bI], rfl, rfl, rfl, rfl⟩)
    · refine V_iconst (v := 1) rfl dX12_isBroken_84 ?_
      refine V_goto (tgt := 89) dX12_isBroken_85 rfl ?_
      exact V_zret hM (by first | exact Or.inl rfl | exact Or.inr rfl | exact bI_01 _) dX12_isBroken_89 (⟨by simp [qBr, rOff, hw, c15, c81, bI], rfl, rfl, rfl, rfl⟩)
  · have hcc := c15
    refine V_aln dX12_isBroken_90 rfl ?_
    refine V_getR dX12_isBroken_91 flX12_203 (by assumption) rfl (by assumption) ?_
    refine V_iln dX12_isBroken_94 rfl ?_
    refine V_ialdN dX12_isBroken_95 (by assumption) (by omega) (by omega) ?_
    refine V_aln dX12_isBroken_96 rfl ?_
    refine V_getR dX12_isBroken_97 flX12_130 (by assumption) rfl (by assumption) ?_
    refine V_il dX12_isBroken_100 rfl ?_
    refine V_ialdN dX12_isBroken_102 (by assumption) (by omega) (by omega) ?_
    refine V_icmp_eq (tgt := 110) dX12_isBroken_103 rfl (fun c103 => ?_) (fun c103 => ?_)
    · refine V_iconst (v := 0) rfl dX12_isBroken_110 ?_
      exact V_zret hM (by first | exact Or.inl rfl | exact Or.inr rfl | exact bI_01 _) dX12_isBroken_111 (⟨by simp [qBr, rOff, hw, c15, c103, bI], rfl, rfl, rfl, rfl⟩)
    · refine V_iconst (v := 1) rfl dX12_isBroken_106 ?_
      refine V_goto (tgt := 111) dX12_isBroken_107 rfl ?_
      exact V_zret hM (by first | exact Or.inl rfl | exact Or.inr rfl | exact bI_01 _) dX12_isBroken_111 (⟨by simp [qBr, rOff, hw, c15, c103, bI], rfl, rfl, rfl, rfl⟩)
/-- what the reference's acts are like -/
def mAok (I : mI) (n : Nat) : Prop := ∀ a, a < n → ∃ m, I 37 a = nI m ∧ m ≤ 12 ∧ ∀ r, r < m → ∃ w, w < 8 ∧ I 41 (12 * a + r) = nI w
def mGok (I : mI) (ng : Nat) : Prop := ∀ g, g < ng → ∃ s, s < 16 ∧ I 58 g = nI s
theorem l_X12_brokenOf {G : mG} {n nl a g m s : Nat} {rank occ day : Int32} (hV : MW sh P) (hn : I 35 0 = nI n) (hn2 : n ≤ 12) (hl : I 35 33 = nI nl) (hl2 : nl ≤ 30) (hL : LkOk I nl) (ha : a < n) (hm : I 37 a = nI m) (hm2 : m ≤ 12) (hwk : ∀ r, r < m → ∃ w, w < 8 ∧ I 41 (12 * a + r) = nI w) (hg : g < 40) (hs : I 58 g = nI s) (hs16 : s < 16) (hM : mM X B "brokenOf" (some .int) 2 52 0 0 (mDet (some (.int (qBo I n nl a rank occ g day m))) nx sh I P) G) : ∀ (z i : Nat), i ≤ m → m - i < z → V X B RX12 cX12_brokenOf G 0 0 nx sh I P 6 [some (.ref (B + 35)), some (.int (nI a)), some (.int rank), some (.int occ), some (.int (nI g)), some (.int day), some (.int (qBo I n nl a rank occ g day i)), some (.int (nI i))] [] := by
  have s35 : sh 35 = some (.inl 12) := hV.1 35 _ rfl
  have s_ruleMany : sh 37 = some (.inr (0, 13)) := hV.1 37 _ rfl
  have p_ruleMany : P 35 2 = some 37 := hV.2 2 37 rfl
  intro z
  induction z with
  | zero => intro i _ h; omega
  | succ z ih =>
    intro i hi hz
    refine V_il dX12_brokenOf_6 rfl ?_
    refine V_aln dX12_brokenOf_8 rfl ?_
    refine V_getR dX12_brokenOf_9 flX12_88 (by assumption) rfl (by assumption) ?_
    refine V_iln dX12_brokenOf_12 rfl ?_
    refine V_ialdNv dX12_brokenOf_13 (by assumption) (by omega) (by omega) (hm) ?_
    refine V_icmp_ge (tgt := 62) dX12_brokenOf_14 rfl (fun c14 => ?_) (fun c14 => ?_)
    · have c14 := nN_le c14 (by omega) (by omega)
      obtain rfl : i = m := by omega
      refine V_il dX12_brokenOf_62 rfl ?_
      exact V_iret hM dX12_brokenOf_64 (mDet.rf)
    · have c14 := nN_nle c14 (by omega) (by omega)
      obtain ⟨w, hw8, hw⟩ := hwk i c14
      refine V_aln dX12_brokenOf_17 rfl ?_
      refine V_iln dX12_brokenOf_18 rfl ?_
      refine V_il dX12_brokenOf_19 rfl ?_
      refine V_iln dX12_brokenOf_21 rfl ?_
      refine V_iln dX12_brokenOf_22 rfl ?_
      refine V_il dX12_brokenOf_23 rfl ?_
      refine V_il dX12_brokenOf_25 rfl ?_
      refine V_cV6d hM cvX12_312 (by assumption) rfl (e_X12_binds hV hn hn2 ha (by omega) hg) ⟨Nat.le_of_ble_eq_true rfl, Nat.le_of_ble_eq_true rfl, Nat.le_of_ble_eq_true rfl, Nat.le_of_ble_eq_true rfl⟩ (Nat.le_of_ble_eq_true rfl) dX12_brokenOf_27 ?_
      refine V_ifeq_b (tgt := 56) dX12_brokenOf_30 rfl (fun c30 => ?_) (fun c30 => ?_)
      · refine V_inc7 dX12_brokenOf_56 ?_
        refine V_goto (tgt := 6) dX12_brokenOf_59 rfl ?_
        refine V_ls ?_ (ih (i + 1) (by omega) (by omega))
        simp [nI_inc, nI_inc', qBo, bitsF, c14, c30]
      · refine V_aln dX12_brokenOf_33 rfl ?_
        refine V_iln dX12_brokenOf_34 rfl ?_
        refine V_il dX12_brokenOf_35 rfl ?_
        refine V_il dX12_brokenOf_37 rfl ?_
        refine V_il dX12_brokenOf_39 rfl ?_
        refine V_cV4d hM cvX12_316 (by assumption) rfl (e_X12_isBroken hV hl hl2 hL (by omega) (by omega) hg hw hw8 hs hs16) ⟨Nat.le_of_ble_eq_true rfl, Nat.le_of_ble_eq_true rfl, Nat.le_of_ble_eq_true rfl, Nat.le_of_ble_eq_true rfl⟩ (Nat.le_of_ble_eq_true rfl) dX12_brokenOf_41 ?_
        refine V_ifeq_b (tgt := 56) dX12_brokenOf_44 rfl (fun c44 => ?_) (fun c44 => ?_)
        · refine V_inc7 dX12_brokenOf_56 ?_
          refine V_goto (tgt := 6) dX12_brokenOf_59 rfl ?_
          refine V_ls ?_ (ih (i + 1) (by omega) (by omega))
          simp [nI_inc, nI_inc', qBo, bitsF, c14, c30, c44]
        · refine V_il dX12_brokenOf_47 rfl ?_
          refine V_iconst (v := 1) rfl dX12_brokenOf_49 ?_
          refine V_il dX12_brokenOf_50 rfl ?_
          refine V_ishl dX12_brokenOf_52 ?_
          refine V_ior dX12_brokenOf_53 ?_
          refine V_is6 dX12_brokenOf_54 ?_
          refine V_inc7 dX12_brokenOf_56 ?_
          refine V_goto (tgt := 6) dX12_brokenOf_59 rfl ?_
          refine V_ls ?_ (ih (i + 1) (by omega) (by omega))
          simp [nI_inc, nI_inc', qBo, bitsF, c14, c30, c44]
theorem e_X12_brokenOf {n nl a g m s : Nat} {rank occ day : Int32} (hV : MW sh P) (hn : I 35 0 = nI n) (hn2 : n ≤ 12) (hl : I 35 33 = nI nl) (hl2 : nl ≤ 30) (hL : LkOk I nl) (ha : a < n) (hm : I 37 a = nI m) (hm2 : m ≤ 12) (hwk : ∀ r, r < m → ∃ w, w < 8 ∧ I 41 (12 * a + r) = nI w) (hg : g < 40) (hs : I 58 g = nI s) (hs16 : s < 16) : Ev X B mdX12_brokenOf 0 0 [.ref (B + 35), .int (nI a), .int rank, .int occ, .int (nI g), .int day] nx sh I P (mDet (some (.int (qBo I n nl a rank occ g day m))) nx sh I P) := by
  refine Ev.of (by decide) (by simp [Value.category]) (by simp) (fun G hM => ?_)
  have hM : mM X B "brokenOf" (some FieldType.int) 2 52 0 0 _ G := hM
  show V X B RX12 cX12_brokenOf G 0 0 nx sh I P 0 [some (.ref (B + 35)), some (.int (nI a)), some (.int rank), some (.int occ), some (.int (nI g)), some (.int day), none, none] []
  refine V_iconst (v := 0) rfl dX12_brokenOf_0 ?_
  refine V_is6 dX12_brokenOf_1 ?_
  refine V_iconst (v := 0) rfl dX12_brokenOf_3 ?_
  refine V_is7 dX12_brokenOf_4 ?_
  exact l_X12_brokenOf hV hn hn2 hl hl2 hL ha hm hm2 hwk hg hs hs16 hM (m + 1) 0 (by omega) (by omega)
end MB
