/-! ===== small methods of the class ===== -/
section LF
variable {X : mX} {B nx : Nat} {sh : Nat → Option mSh} {I : mI} {P : mP}
theorem e_X10_isPerson {p : Int32} : Ev X B mdX10_isPerson 0 0 [.int p] nx sh I P (mDet (some (.int (bI (inB p 30)))) nx sh I P) := by
  refine Ev.of (by decide) (by simp [Value.category]) (by simp) (fun G hM => ?_)
  have hM : mM X B "isPerson" (some FieldType.boolean) 0 0 0 0 _ G := hM
  show V X B RX10 cX10_isPerson G 0 0 nx sh I P 0 [some (.int p)] []
  refine V_iln dX10_isPerson_0 rfl ?_
  refine V_if_lt (tgt := 14) dX10_isPerson_1 rfl (fun c1 => ?_) (fun c1 => ?_)
  · refine V_iconst (v := 0) rfl dX10_isPerson_14 ?_
    exact V_zret hM (by first | exact Or.inl rfl | exact Or.inr rfl | exact bI_01 _) dX10_isPerson_15 (⟨by simp only [i_lt, i_le] at *; first | rw [show inB p 30 = true from inB_iff.mpr (by simp at *; omega)]; rfl | rw [inB_f (x := p) (n := 30) (by simp at *; omega)]; rfl, rfl, rfl, rfl, rfl⟩)
  · refine V_iln dX10_isPerson_4 rfl ?_
    refine V_bipush (v := 30) rfl dX10_isPerson_5 ?_
    refine V_icmp_ge (tgt := 14) dX10_isPerson_7 rfl (fun c7 => ?_) (fun c7 => ?_)
    · refine V_iconst (v := 0) rfl dX10_isPerson_14 ?_
      exact V_zret hM (by first | exact Or.inl rfl | exact Or.inr rfl | exact bI_01 _) dX10_isPerson_15 (⟨by simp only [i_lt, i_le] at *; first | rw [show inB p 30 = true from inB_iff.mpr (by simp at *; omega)]; rfl | rw [inB_f (x := p) (n := 30) (by simp at *; omega)]; rfl, rfl, rfl, rfl, rfl⟩)
    · refine V_iconst (v := 1) rfl dX10_isPerson_10 ?_
      refine V_goto (tgt := 15) dX10_isPerson_11 rfl ?_
      exact V_zret hM (by first | exact Or.inl rfl | exact Or.inr rfl | exact bI_01 _) dX10_isPerson_15 (⟨by simp only [i_lt, i_le] at *; first | rw [show inB p 30 = true from inB_iff.mpr (by simp at *; omega)]; rfl | rw [inB_f (x := p) (n := 30) (by simp at *; omega)]; rfl, rfl, rfl, rfl, rfl⟩)
theorem e_X10_isDay {p : Int32} : Ev X B mdX10_isDay 0 0 [.int p] nx sh I P (mDet (some (.int (bI (inB p 10000)))) nx sh I P) := by
  refine Ev.of (by decide) (by simp [Value.category]) (by simp) (fun G hM => ?_)
  have hM : mM X B "isDay" (some FieldType.boolean) 0 0 0 0 _ G := hM
  show V X B RX10 cX10_isDay G 0 0 nx sh I P 0 [some (.int p)] []
  refine V_iln dX10_isDay_0 rfl ?_
  refine V_if_lt (tgt := 15) dX10_isDay_1 rfl (fun c1 => ?_) (fun c1 => ?_)
  · refine V_iconst (v := 0) rfl dX10_isDay_15 ?_
    exact V_zret hM (by first | exact Or.inl rfl | exact Or.inr rfl | exact bI_01 _) dX10_isDay_16 (⟨by simp only [i_lt, i_le] at *; first | rw [show inB p 10000 = true from inB_iff.mpr (by simp at *; omega)]; rfl | rw [inB_f (x := p) (n := 10000) (by simp at *; omega)]; rfl, rfl, rfl, rfl, rfl⟩)
  · refine V_iln dX10_isDay_4 rfl ?_
    refine V_sipush (v := 9999) rfl dX10_isDay_5 ?_
    refine V_icmp_gt (tgt := 15) dX10_isDay_8 rfl (fun c8 => ?_) (fun c8 => ?_)
    · refine V_iconst (v := 0) rfl dX10_isDay_15 ?_
      exact V_zret hM (by first | exact Or.inl rfl | exact Or.inr rfl | exact bI_01 _) dX10_isDay_16 (⟨by simp only [i_lt, i_le] at *; first | rw [show inB p 10000 = true from inB_iff.mpr (by simp at *; omega)]; rfl | rw [inB_f (x := p) (n := 10000) (by simp at *; omega)]; rfl, rfl, rfl, rfl, rfl⟩)
    · refine V_iconst (v := 1) rfl dX10_isDay_11 ?_
      refine V_goto (tgt := 16) dX10_isDay_12 rfl ?_
      exact V_zret hM (by first | exact Or.inl rfl | exact Or.inr rfl | exact bI_01 _) dX10_isDay_16 (⟨by simp only [i_lt, i_le] at *; first | rw [show inB p 10000 = true from inB_iff.mpr (by simp at *; omega)]; rfl | rw [inB_f (x := p) (n := 10000) (by simp at *; omega)]; rfl, rfl, rfl, rfl, rfl⟩)
theorem e_X10_isRank {p : Int32} : Ev X B mdX10_isRank 0 0 [.int p] nx sh I P (mDet (some (.int (bI (inB p 10)))) nx sh I P) := by
  refine Ev.of (by decide) (by simp [Value.category]) (by simp) (fun G hM => ?_)
  have hM : mM X B "isRank" (some FieldType.boolean) 0 0 0 0 _ G := hM
  show V X B RX10 cX10_isRank G 0 0 nx sh I P 0 [some (.int p)] []
  refine V_iln dX10_isRank_0 rfl ?_
  refine V_if_lt (tgt := 14) dX10_isRank_1 rfl (fun c1 => ?_) (fun c1 => ?_)
  · refine V_iconst (v := 0) rfl dX10_isRank_14 ?_
    exact V_zret hM (by first | exact Or.inl rfl | exact Or.inr rfl | exact bI_01 _) dX10_isRank_15 (⟨by simp only [i_lt, i_le] at *; first | rw [show inB p 10 = true from inB_iff.mpr (by simp at *; omega)]; rfl | rw [inB_f (x := p) (n := 10) (by simp at *; omega)]; rfl, rfl, rfl, rfl, rfl⟩)
  · refine V_iln dX10_isRank_4 rfl ?_
    refine V_bipush (v := 9) rfl dX10_isRank_5 ?_
    refine V_icmp_gt (tgt := 14) dX10_isRank_7 rfl (fun c7 => ?_) (fun c7 => ?_)
    · refine V_iconst (v := 0) rfl dX10_isRank_14 ?_
      exact V_zret hM (by first | exact Or.inl rfl | exact Or.inr rfl | exact bI_01 _) dX10_isRank_15 (⟨by simp only [i_lt, i_le] at *; first | rw [show inB p 10 = true from inB_iff.mpr (by simp at *; omega)]; rfl | rw [inB_f (x := p) (n := 10) (by simp at *; omega)]; rfl, rfl, rfl, rfl, rfl⟩)
    · refine V_iconst (v := 1) rfl dX10_isRank_10 ?_
      refine V_goto (tgt := 15) dX10_isRank_11 rfl ?_
      exact V_zret hM (by first | exact Or.inl rfl | exact Or.inr rfl | exact bI_01 _) dX10_isRank_15 (⟨by simp only [i_lt, i_le] at *; first | rw [show inB p 10 = true from inB_iff.mpr (by simp at *; omega)]; rfl | rw [inB_f (x := p) (n := 10) (by simp at *; omega)]; rfl, rfl, rfl, rfl, rfl⟩)
theorem e_X10_isMeasure {p : Int32} : Ev X B mdX10_isMeasure 0 0 [.int p] nx sh I P (mDet (some (.int (bI (inB p 10000)))) nx sh I P) := by
  refine Ev.of (by decide) (by simp [Value.category]) (by simp) (fun G hM => ?_)
  have hM : mM X B "isMeasure" (some FieldType.boolean) 0 0 0 0 _ G := hM
  show V X B RX10 cX10_isMeasure G 0 0 nx sh I P 0 [some (.int p)] []
  refine V_iln dX10_isMeasure_0 rfl ?_
  refine V_if_lt (tgt := 15) dX10_isMeasure_1 rfl (fun c1 => ?_) (fun c1 => ?_)
  · refine V_iconst (v := 0) rfl dX10_isMeasure_15 ?_
    exact V_zret hM (by first | exact Or.inl rfl | exact Or.inr rfl | exact bI_01 _) dX10_isMeasure_16 (⟨by simp only [i_lt, i_le] at *; first | rw [show inB p 10000 = true from inB_iff.mpr (by simp at *; omega)]; rfl | rw [inB_f (x := p) (n := 10000) (by simp at *; omega)]; rfl, rfl, rfl, rfl, rfl⟩)
  · refine V_iln dX10_isMeasure_4 rfl ?_
    refine V_sipush (v := 9999) rfl dX10_isMeasure_5 ?_
    refine V_icmp_gt (tgt := 15) dX10_isMeasure_8 rfl (fun c8 => ?_) (fun c8 => ?_)
    · refine V_iconst (v := 0) rfl dX10_isMeasure_15 ?_
      exact V_zret hM (by first | exact Or.inl rfl | exact Or.inr rfl | exact bI_01 _) dX10_isMeasure_16 (⟨by simp only [i_lt, i_le] at *; first | rw [show inB p 10000 = true from inB_iff.mpr (by simp at *; omega)]; rfl | rw [inB_f (x := p) (n := 10000) (by simp at *; omega)]; rfl, rfl, rfl, rfl, rfl⟩)
    · refine V_iconst (v := 1) rfl dX10_isMeasure_11 ?_
      refine V_goto (tgt := 16) dX10_isMeasure_12 rfl ?_
      exact V_zret hM (by first | exact Or.inl rfl | exact Or.inr rfl | exact bI_01 _) dX10_isMeasure_16 (⟨by simp only [i_lt, i_le] at *; first | rw [show inB p 10000 = true from inB_iff.mpr (by simp at *; omega)]; rfl | rw [inB_f (x := p) (n := 10000) (by simp at *; omega)]; rfl, rfl, rfl, rfl, rfl⟩)
theorem e_X10_isStuff {p : Int32} : Ev X B mdX10_isStuff 0 0 [.int p] nx sh I P (mDet (some (.int (bI (inB p 16)))) nx sh I P) := by
  refine Ev.of (by decide) (by simp [Value.category]) (by simp) (fun G hM => ?_)
  have hM : mM X B "isStuff" (some FieldType.boolean) 0 0 0 0 _ G := hM
  show V X B RX10 cX10_isStuff G 0 0 nx sh I P 0 [some (.int p)] []
  refine V_iln dX10_isStuff_0 rfl ?_
  refine V_if_lt (tgt := 14) dX10_isStuff_1 rfl (fun c1 => ?_) (fun c1 => ?_)
  · refine V_iconst (v := 0) rfl dX10_isStuff_14 ?_
    exact V_zret hM (by first | exact Or.inl rfl | exact Or.inr rfl | exact bI_01 _) dX10_isStuff_15 (⟨by simp only [i_lt, i_le] at *; first | rw [show inB p 16 = true from inB_iff.mpr (by simp at *; omega)]; rfl | rw [inB_f (x := p) (n := 16) (by simp at *; omega)]; rfl, rfl, rfl, rfl, rfl⟩)
  · refine V_iln dX10_isStuff_4 rfl ?_
    refine V_bipush (v := 16) rfl dX10_isStuff_5 ?_
    refine V_icmp_ge (tgt := 14) dX10_isStuff_7 rfl (fun c7 => ?_) (fun c7 => ?_)
    · refine V_iconst (v := 0) rfl dX10_isStuff_14 ?_
      exact V_zret hM (by first | exact Or.inl rfl | exact Or.inr rfl | exact bI_01 _) dX10_isStuff_15 (⟨by simp only [i_lt, i_le] at *; first | rw [show inB p 16 = true from inB_iff.mpr (by simp at *; omega)]; rfl | rw [inB_f (x := p) (n := 16) (by simp at *; omega)]; rfl, rfl, rfl, rfl, rfl⟩)
    · refine V_iconst (v := 1) rfl dX10_isStuff_10 ?_
      refine V_goto (tgt := 15) dX10_isStuff_11 rfl ?_
      exact V_zret hM (by first | exact Or.inl rfl | exact Or.inr rfl | exact bI_01 _) dX10_isStuff_15 (⟨by simp only [i_lt, i_le] at *; first | rw [show inB p 16 = true from inB_iff.mpr (by simp at *; omega)]; rfl | rw [inB_f (x := p) (n := 16) (by simp at *; omega)]; rfl, rfl, rfl, rfl, rfl⟩)
theorem e_X10_isColour {p : Int32} : Ev X B mdX10_isColour 0 0 [.int p] nx sh I P (mDet (some (.int (bI (inB p 8)))) nx sh I P) := by
  refine Ev.of (by decide) (by simp [Value.category]) (by simp) (fun G hM => ?_)
  have hM : mM X B "isColour" (some FieldType.boolean) 0 0 0 0 _ G := hM
  show V X B RX10 cX10_isColour G 0 0 nx sh I P 0 [some (.int p)] []
  refine V_iln dX10_isColour_0 rfl ?_
  refine V_if_lt (tgt := 14) dX10_isColour_1 rfl (fun c1 => ?_) (fun c1 => ?_)
  · refine V_iconst (v := 0) rfl dX10_isColour_14 ?_
    exact V_zret hM (by first | exact Or.inl rfl | exact Or.inr rfl | exact bI_01 _) dX10_isColour_15 (⟨by simp only [i_lt, i_le] at *; first | rw [show inB p 8 = true from inB_iff.mpr (by simp at *; omega)]; rfl | rw [inB_f (x := p) (n := 8) (by simp at *; omega)]; rfl, rfl, rfl, rfl, rfl⟩)
  · refine V_iln dX10_isColour_4 rfl ?_
    refine V_bipush (v := 8) rfl dX10_isColour_5 ?_
    refine V_icmp_ge (tgt := 14) dX10_isColour_7 rfl (fun c7 => ?_) (fun c7 => ?_)
    · refine V_iconst (v := 0) rfl dX10_isColour_14 ?_
      exact V_zret hM (by first | exact Or.inl rfl | exact Or.inr rfl | exact bI_01 _) dX10_isColour_15 (⟨by simp only [i_lt, i_le] at *; first | rw [show inB p 8 = true from inB_iff.mpr (by simp at *; omega)]; rfl | rw [inB_f (x := p) (n := 8) (by simp at *; omega)]; rfl, rfl, rfl, rfl, rfl⟩)
    · refine V_iconst (v := 1) rfl dX10_isColour_10 ?_
      refine V_goto (tgt := 15) dX10_isColour_11 rfl ?_
      exact V_zret hM (by first | exact Or.inl rfl | exact Or.inr rfl | exact bI_01 _) dX10_isColour_15 (⟨by simp only [i_lt, i_le] at *; first | rw [show inB p 8 = true from inB_iff.mpr (by simp at *; omega)]; rfl | rw [inB_f (x := p) (n := 8) (by simp at *; omega)]; rfl, rfl, rfl, rfl, rfl⟩)
theorem e_X8_size {t : Nat} (h1 : sh t = some (.inl 8)) : Ev X B mdX8_size 0 0 [.ref (B + t)] nx sh I P (mDet (some (.int (I t 1))) nx sh I P) := by
  refine Ev.of (by decide) (by simp [Value.category]) (by simp) (fun G hM => ?_)
  have hM : mM X B "size" (some FieldType.int) 0 0 0 0 _ G := hM
  show V X B RX8 cX8_size G 0 0 nx sh I P 0 [some (.ref (B + t))] []
  refine V_aln dX8_size_0 rfl ?_
  refine V_getI dX8_size_1 flX8_15 (by assumption) rfl ?_
  exact V_iret hM dX8_size_4 (mDet.rf)
theorem e_X6_size {t : Nat} (h1 : sh t = some (.inl 6)) : Ev X B mdX6_size 0 0 [.ref (B + t)] nx sh I P (mDet (some (.int (I t 3))) nx sh I P) := by
  refine Ev.of (by decide) (by simp [Value.category]) (by simp) (fun G hM => ?_)
  have hM : mM X B "size" (some FieldType.int) 0 0 0 0 _ G := hM
  show V X B RX6 cX6_size G 0 0 nx sh I P 0 [some (.ref (B + t))] []
  refine V_aln dX6_size_0 rfl ?_
  refine V_getI dX6_size_1 flX6_9 (by assumption) rfl ?_
  exact V_iret hM dX6_size_4 (mDet.rf)
theorem e_X2_size {t : Nat} (h1 : sh t = some (.inl 2)) : Ev X B mdX2_size 0 0 [.ref (B + t)] nx sh I P (mDet (some (.int (I t 1))) nx sh I P) := by
  refine Ev.of (by decide) (by simp [Value.category]) (by simp) (fun G hM => ?_)
  have hM : mM X B "size" (some FieldType.int) 0 0 0 0 _ G := hM
  show V X B RX2 cX2_size G 0 0 nx sh I P 0 [some (.ref (B + t))] []
  refine V_aln dX2_size_0 rfl ?_
  refine V_getI dX2_size_1 flX2_17 (by assumption) rfl ?_
  exact V_iret hM dX2_size_4 (mDet.rf)
theorem e_X5_faultKind {t : Nat} (h1 : sh t = some (.inl 5)) : Ev X B mdX5_faultKind 0 0 [.ref (B + t)] nx sh I P (mDet (some (.int (I t 3))) nx sh I P) := by
  refine Ev.of (by decide) (by simp [Value.category]) (by simp) (fun G hM => ?_)
  have hM : mM X B "faultKind" (some FieldType.int) 0 0 0 0 _ G := hM
  show V X B RX5 cX5_faultKind G 0 0 nx sh I P 0 [some (.ref (B + t))] []
  refine V_aln dX5_faultKind_0 rfl ?_
  refine V_getI dX5_faultKind_1 flX5_29 (by assumption) rfl ?_
  exact V_iret hM dX5_faultKind_4 (mDet.rf)
theorem e_X5_faultPlace {t : Nat} (h1 : sh t = some (.inl 5)) : Ev X B mdX5_faultPlace 0 0 [.ref (B + t)] nx sh I P (mDet (some (.int (I t 4))) nx sh I P) := by
  refine Ev.of (by decide) (by simp [Value.category]) (by simp) (fun G hM => ?_)
  have hM : mM X B "faultPlace" (some FieldType.int) 0 0 0 0 _ G := hM
  show V X B RX5 cX5_faultPlace G 0 0 nx sh I P 0 [some (.ref (B + t))] []
  refine V_aln dX5_faultPlace_0 rfl ?_
  refine V_getI dX5_faultPlace_1 flX5_32 (by assumption) rfl ?_
  exact V_iret hM dX5_faultPlace_4 (mDet.rf)
/-- cutTo(n), n within -/
theorem e_X8_cutTo {t n m : Nat} (h1 : sh t = some (.inl 8)) (hm : I t 1 = nI m) (hn : n ≤ m) (hm2 : m ≤ 800) : Ev X B mdX8_cutTo 0 0 [.ref (B + t), .int (nI n)] nx sh I P (mDet none nx sh (mUp I t 1 (nI n)) P) := by
  refine Ev.of (by decide) (by simp [Value.category]) (by simp) (fun G hM => ?_)
  have hM : mM X B "cutTo" none 0 0 0 0 _ G := hM
  show V X B RX8 cX8_cutTo G 0 0 nx sh I P 0 [some (.ref (B + t)), some (.int (nI n))] []
  refine V_iln dX8_cutTo_0 rfl ?_
  refine V_if_lt (tgt := 17) dX8_cutTo_1 rfl (fun c1 => ?_) (fun c1 => ?_)
  · exact absurd c1 (nI_pos (by omega)) --done
  · refine V_iln dX8_cutTo_4 rfl ?_
    refine V_aln dX8_cutTo_5 rfl ?_
    refine V_getIv dX8_cutTo_6 flX8_15 (by assumption) rfl (hm) ?_
    refine V_icmp_gt (tgt := 17) dX8_cutTo_9 rfl (fun c9 => ?_) (fun c9 => ?_)
    · exact absurd c9 (nI_nlt hn (by omega)) --done
    · refine V_aln dX8_cutTo_12 rfl ?_
      refine V_iln dX8_cutTo_13 rfl ?_
      refine V_putI dX8_cutTo_14 flX8_15 (by assumption) rfl rfl ?_
      exact V_vret hM dX8_cutTo_17 (mDet.rf)
/-- the byte at a place: 0 .. 255, or -1 behind the last -/
def tpB (f : Nat → Int32) (m : Nat) (i : Nat) : Int32 := if i < m then f i &&& 255 else -1
theorem e_X8_byteAt {t b m i : Nat} (h1 : sh t = some (.inl 8)) (h2 : P t 0 = some b) (h3 : sh b = some (.inr (1, 800))) (hm : I t 1 = nI m) (hm2 : m ≤ 800) (hi : i ≤ 2000) : Ev X B mdX8_byteAt 0 0 [.ref (B + t), .int (nI i)] nx sh I P (mDet (some (.int (tpB (I b) m i))) nx sh I P) := by
  refine Ev.of (by decide) (by simp [Value.category]) (by simp) (fun G hM => ?_)
  have hM : mM X B "byteAt" (some FieldType.int) 0 0 0 0 _ G := hM
  show V X B RX8 cX8_byteAt G 0 0 nx sh I P 0 [some (.ref (B + t)), some (.int (nI i))] []
  refine V_iln dX8_byteAt_0 rfl ?_
  refine V_if_lt (tgt := 34) dX8_byteAt_1 rfl (fun c1 => ?_) (fun c1 => ?_)
  · exact absurd c1 (nI_pos (by omega)) --done
  · refine V_iln dX8_byteAt_4 rfl ?_
    refine V_aln dX8_byteAt_5 rfl ?_
    refine V_getIv dX8_byteAt_6 flX8_15 (by assumption) rfl (hm) ?_
    refine V_icmp_ge (tgt := 34) dX8_byteAt_9 rfl (fun c9 => ?_) (fun c9 => ?_)
    · have c9 := nN_le c9 (by omega) (by omega)
      refine V_iconst (v := -1) rfl dX8_byteAt_34 ?_
      exact V_iret hM dX8_byteAt_35 (⟨by first | (rw [tpB, if_pos (by omega)]; done) | rw [tpB, if_neg (by omega)], rfl, rfl, rfl, rfl⟩)
    · have c9 := nN_nle c9 (by omega) (by omega)
      refine V_iln dX8_byteAt_12 rfl ?_
      refine V_aln dX8_byteAt_13 rfl ?_
      refine V_getR dX8_byteAt_14 flX8_9 (by assumption) rfl (by assumption) ?_
      refine V_alen dX8_byteAt_17 (by assumption) rfl ?_
      refine V_icmp_ge (tgt := 34) dX8_byteAt_18 rfl (fun c18 => ?_) (fun c18 => ?_)
      · exact absurd (nN_le c18 (by omega) (by omega)) (by omega) --done
      · refine V_aln dX8_byteAt_21 rfl ?_
        refine V_getR dX8_byteAt_22 flX8_9 (by assumption) rfl (by assumption) ?_
        refine V_iln dX8_byteAt_25 rfl ?_
        refine V_baldN dX8_byteAt_26 (by assumption) (by omega) (by omega) ?_
        refine V_sipush (v := 255) rfl dX8_byteAt_27 ?_
        refine V_iand dX8_byteAt_30 ?_
        refine V_goto (tgt := 35) dX8_byteAt_31 rfl ?_
        exact V_iret hM dX8_byteAt_35 (⟨by first | (rw [tpB, if_pos (by omega)]; done) | rw [tpB, if_neg (by omega)], rfl, rfl, rfl, rfl⟩)
/-! Rows: keys, days, numbers, size -/
def rCnt (f : Nat → Int32) (key : Int32) : Nat → Int32
  | 0 => 0
  | i + 1 => if f i = key then rCnt f key i + 1 else rCnt f key i
/-- a Rows object: its three rows of ints, n of room are told -/
def RowsAt (sh : Nat → Option mSh) (I : mI) (P : mP) (a k d u room n : Nat) : Prop := sh a = some (.inl 6) ∧ P a 0 = some k ∧ P a 1 = some d ∧ P a 2 = some u ∧ sh k = some (.inr (0, room)) ∧ sh d = some (.inr (0, room)) ∧ sh u = some (.inr (0, room)) ∧ I a 3 = nI n ∧ n ≤ room ∧ room ≤ 1000
theorem l_X6_countOf {G : mG} {a k d u room n : Nat} {key : Int32} (hR : RowsAt sh I P a k d u room n) (hM : mM X B "countOf" (some .int) 0 0 0 0 (mDet (some (.int (rCnt (I k) key n))) nx sh I P) G) : ∀ (z i : Nat), i ≤ n → n - i < z → V X B RX6 cX6_countOf G 0 0 nx sh I P 4 [some (.ref (B + a)), some (.int key), some (.int (rCnt (I k) key i)), some (.int (nI i))] [] := by
  obtain ⟨h1, h2, -, -, h3, -, -, h4, h5, h6⟩ := hR
  intro z
  induction z with
  | zero => intro i _ h; omega
  | succ z ih =>
    intro i hi hz
    refine V_iln dX6_countOf_4 rfl ?_
    refine V_aln dX6_countOf_5 rfl ?_
    refine V_getIv dX6_countOf_6 flX6_9 (by assumption) rfl (h4) ?_
    refine V_icmp_ge (tgt := 31) dX6_countOf_9 rfl (fun c9 => ?_) (fun c9 => ?_)
    · have c9 := nN_le c9 (by omega) (by omega)
      obtain rfl : i = n := by omega
      refine V_iln dX6_countOf_31 rfl ?_
      exact V_iret hM dX6_countOf_32 (mDet.rf)
    · have c9 := nN_nle c9 (by omega) (by omega)
      refine V_aln dX6_countOf_12 rfl ?_
      refine V_getR dX6_countOf_13 flX6_21 (by assumption) rfl (by assumption) ?_
      refine V_iln dX6_countOf_16 rfl ?_
      refine V_ialdN dX6_countOf_17 (by assumption) (by omega) (by omega) ?_
      refine V_iln dX6_countOf_18 rfl ?_
      refine V_icmp_ne (tgt := 25) dX6_countOf_19 rfl (fun c19 => ?_) (fun c19 => ?_)
      · refine V_inc3 dX6_countOf_25 ?_
        refine V_goto (tgt := 4) dX6_countOf_28 rfl ?_
        refine V_ls ?_ (ih (i + 1) (by omega) (by omega))
        simp [nI_inc, nI_inc', rCnt, c19]
      · refine V_inc2 dX6_countOf_22 ?_
        refine V_inc3 dX6_countOf_25 ?_
        refine V_goto (tgt := 4) dX6_countOf_28 rfl ?_
        refine V_ls ?_ (ih (i + 1) (by omega) (by omega))
        simp [nI_inc, nI_inc', rCnt, c19]
theorem e_X6_countOf {a k d u room n : Nat} {key : Int32} (hR : RowsAt sh I P a k d u room n) : Ev X B mdX6_countOf 0 0 [.ref (B + a), .int key] nx sh I P (mDet (some (.int (rCnt (I k) key n))) nx sh I P) := by
  refine Ev.of (by decide) (by simp [Value.category]) (by simp) (fun G hM => ?_)
  have hM : mM X B "countOf" (some FieldType.int) 0 0 0 0 _ G := hM
  show V X B RX6 cX6_countOf G 0 0 nx sh I P 0 [some (.ref (B + a)), some (.int key), none, none] []
  refine V_iconst (v := 0) rfl dX6_countOf_0 ?_
  refine V_is2 dX6_countOf_1 ?_
  refine V_iconst (v := 0) rfl dX6_countOf_2 ?_
  refine V_is3 dX6_countOf_3 ?_
  exact l_X6_countOf hR hM (n + 1) 0 (by omega) (by omega)
end LF
