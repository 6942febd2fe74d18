/-! ===== the court's own helpers ===== -/
/-- the fixed cells of the court, and what they refer to -/
def csF (c : Nat) : Option mSh := match c with
  | 0 => some (.inl 10)
  | 1 => some (.inl 5)
  | 2 => some (.inl 8)
  | 3 => some (.inr (1, 800))
  | 6 => some (.inl 2)
  | 7 => some (.inr (4, 12))
  | 8 => some (.inl 6)
  | 9 => some (.inr (0, 360))
  | 10 => some (.inr (0, 360))
  | 11 => some (.inr (0, 360))
  | 12 => some (.inl 6)
  | 13 => some (.inr (0, 120))
  | 14 => some (.inr (0, 120))
  | 15 => some (.inr (0, 120))
  | 16 => some (.inl 6)
  | 17 => some (.inr (0, 20))
  | 18 => some (.inr (0, 20))
  | 19 => some (.inr (0, 20))
  | 20 => some (.inl 6)
  | 21 => some (.inr (0, 30))
  | 22 => some (.inr (0, 30))
  | 23 => some (.inr (0, 30))
  | 24 => some (.inr (2, 40))
  | 25 => some (.inr (3, 60))
  | 26 => some (.inr (0, 30))
  | 27 => some (.inr (0, 30))
  | 28 => some (.inr (0, 30))
  | 29 => some (.inr (0, 7))
  | 30 => some (.inl 9)
  | 33 => some (.inl 1)
  | 34 => some (.inr (0, 5))
  | _ => none
def cpF (c k : Nat) : Option Nat := match c, k with
  | 0, 0 => some 1
  | 0, 1 => some 6
  | 0, 2 => some 8
  | 0, 3 => some 12
  | 0, 4 => some 16
  | 0, 5 => some 20
  | 0, 6 => some 24
  | 0, 8 => some 25
  | 0, 10 => some 26
  | 0, 11 => some 27
  | 0, 12 => some 28
  | 0, 14 => some 29
  | 0, 15 => some 30
  | 0, 16 => some 33
  | 1, 0 => some 2
  | 2, 0 => some 3
  | 6, 0 => some 7
  | 8, 0 => some 9
  | 8, 1 => some 10
  | 8, 2 => some 11
  | 12, 0 => some 13
  | 12, 1 => some 14
  | 12, 2 => some 15
  | 16, 0 => some 17
  | 16, 1 => some 18
  | 16, 2 => some 19
  | 20, 0 => some 21
  | 20, 1 => some 22
  | 20, 2 => some 23
  | 33, 0 => some 34
  | _, _ => none
def CW (sh : Nat → Option mSh) (P : mP) : Prop := (∀ c z, csF c = some z → sh c = some z) ∧ ∀ c k b, cpF c k = some b → P c k = some b
/-- n rows told of each kind -/
def NRk (I : mI) (n : Nat) : Prop := I 8 3 = nI n ∧ n ≤ 360
def NWd (I : mI) (n : Nat) : Prop := I 12 3 = nI n ∧ n ≤ 120
def NFe (I : mI) (n : Nat) : Prop := I 16 3 = nI n ∧ n ≤ 20
def NLi (I : mI) (n : Nat) : Prop := I 20 3 = nI n ∧ n ≤ 30
theorem CW.rk {sh : Nat → Option mSh} {I : mI} {P : mP} {n : Nat} (h : CW sh P) (hn : NRk I n) : RowsAt sh I P 8 9 10 11 360 n := ⟨h.1 8 _ rfl, h.2 8 0 9 rfl, h.2 8 1 10 rfl, h.2 8 2 11 rfl, h.1 9 _ rfl, h.1 10 _ rfl, h.1 11 _ rfl, hn.1, hn.2, by decide⟩
theorem CW.wd {sh : Nat → Option mSh} {I : mI} {P : mP} {n : Nat} (h : CW sh P) (hn : NWd I n) : RowsAt sh I P 12 13 14 15 120 n := ⟨h.1 12 _ rfl, h.2 12 0 13 rfl, h.2 12 1 14 rfl, h.2 12 2 15 rfl, h.1 13 _ rfl, h.1 14 _ rfl, h.1 15 _ rfl, hn.1, hn.2, by decide⟩
theorem CW.fe {sh : Nat → Option mSh} {I : mI} {P : mP} {n : Nat} (h : CW sh P) (hn : NFe I n) : RowsAt sh I P 16 17 18 19 20 n := ⟨h.1 16 _ rfl, h.2 16 0 17 rfl, h.2 16 1 18 rfl, h.2 16 2 19 rfl, h.1 17 _ rfl, h.1 18 _ rfl, h.1 19 _ rfl, hn.1, hn.2, by decide⟩
theorem CW.li {sh : Nat → Option mSh} {I : mI} {P : mP} {n : Nat} (h : CW sh P) (hn : NLi I n) : RowsAt sh I P 20 21 22 23 30 n := ⟨h.1 20 _ rfl, h.2 20 0 21 rfl, h.2 20 1 22 rfl, h.2 20 2 23 rfl, h.1 21 _ rfl, h.1 22 _ rfl, h.1 23 _ rfl, hn.1, hn.2, by decide⟩
theorem CW.bd {sh : Nat → Option mSh} {P : mP} (h : CW sh P) : BndAt sh P 33 34 := ⟨h.1 33 _ rfl, h.2 33 0 34 rfl, h.1 34 _ rfl⟩
def GownsAt (sh : Nat → Option mSh) (I : mI) (P : mP) (n : Nat) : Prop := I 0 7 = nI n ∧ n ≤ 40 ∧ ∀ g, g < n → P 24 g = some (pg P 24 g) ∧ sh (pg P 24 g) = some (.inl 3) ∧ P (pg P 24 g) 0 = some (pg P (pg P 24 g) 0) ∧ sh (pg P (pg P 24 g) 0) = some (.inr (0, 5))
def LettsAt (sh : Nat → Option mSh) (I : mI) (P : mP) (n : Nat) : Prop := I 0 9 = nI n ∧ n ≤ 60 ∧ ∀ k, k < n → P 25 k = some (pg P 25 k) ∧ sh (pg P 25 k) = some (.inl 4)
def cRank (I : mI) (n : Nat) (p day : Int32) : Int32 := (rHeld (I 9) (I 10) (I 11) p day 5 n).1
def cOcc (I : mI) (nw nf : Nat) (p day : Int32) : Int32 := if anyR (rSpan (I 13) (I 14) (I 15) p day) nw then 2 else if anyR (rSpan (I 17) (I 18) (I 19) 0 day) nf then 1 else 0
def cHeld (I : mI) (n : Nat) (day s : Int32) : Int32 := (rHeld (I 21) (I 22) (I 23) s day s n).1
def cntA (f : Int32 → Int32) : Nat → Int32 → Int32
  | 0, s => s
  | k + 1, s => if f s = s then s else cntA f k (f s)
def cCnt (I : mI) (n : Nat) (day s : Int32) : Int32 := cntA (cHeld I n day) 16 s
section CT
variable {X : mX} {B nx : Nat} {sh : Nat → Option mSh} {I : mI} {P : mP}
theorem e_X10_isSpan {a b : Int32} : Ev X B mdX10_isSpan 0 0 [.int a, .int b] nx sh I P (mDet (some (.int (bI (inB a 10000 && inB b 10000 && decide (a ≤ b))))) nx sh I P) := by
  refine Ev.of (by decide) (by simp [Value.category]) (by simp) (fun G hM => ?_)
  have hM : mM X B "isSpan" (some FieldType.boolean) 1 20 0 0 _ G := hM
  show V X B RX10 cX10_isSpan G 0 0 nx sh I P 0 [some (.int a), some (.int b)] []
  refine V_iln dX10_isSpan_0 rfl ?_
  refine V_cS1d hM cvX10_110 (e_X10_isDay) ⟨Nat.le_of_ble_eq_true rfl, Nat.le_of_ble_eq_true rfl, Nat.le_of_ble_eq_true rfl, Nat.le_of_ble_eq_true rfl⟩ (Nat.le_of_ble_eq_true rfl) dX10_isSpan_1 ?_
  refine V_ifeq_b (tgt := 23) dX10_isSpan_4 rfl (fun c4 => ?_) (fun c4 => ?_)
  · refine V_iconst (v := 0) rfl dX10_isSpan_23 ?_
    exact V_zret hM (by first | exact Or.inl rfl | exact Or.inr rfl | exact bI_01 _) dX10_isSpan_24 (⟨by simp [bI, c4], rfl, rfl, rfl, rfl⟩)
  · refine V_iln dX10_isSpan_7 rfl ?_
    refine V_cS1d hM cvX10_110 (e_X10_isDay) ⟨Nat.le_of_ble_eq_true rfl, Nat.le_of_ble_eq_true rfl, Nat.le_of_ble_eq_true rfl, Nat.le_of_ble_eq_true rfl⟩ (Nat.le_of_ble_eq_true rfl) dX10_isSpan_8 ?_
    refine V_ifeq_b (tgt := 23) dX10_isSpan_11 rfl (fun c11 => ?_) (fun c11 => ?_)
    · refine V_iconst (v := 0) rfl dX10_isSpan_23 ?_
      exact V_zret hM (by first | exact Or.inl rfl | exact Or.inr rfl | exact bI_01 _) dX10_isSpan_24 (⟨by simp [bI, c4, c11], rfl, rfl, rfl, rfl⟩)
    · refine V_iln dX10_isSpan_14 rfl ?_
      refine V_iln dX10_isSpan_15 rfl ?_
      refine V_icmp_gt (tgt := 23) dX10_isSpan_16 rfl (fun c16 => ?_) (fun c16 => ?_)
      · have c16 := i_lt_nle c16
        refine V_iconst (v := 0) rfl dX10_isSpan_23 ?_
        exact V_zret hM (by first | exact Or.inl rfl | exact Or.inr rfl | exact bI_01 _) dX10_isSpan_24 (⟨by simp [bI, c4, c11, c16], rfl, rfl, rfl, rfl⟩)
      · have c16 := i_nlt c16
        refine V_iconst (v := 1) rfl dX10_isSpan_19 ?_
        refine V_goto (tgt := 24) dX10_isSpan_20 rfl ?_
        exact V_zret hM (by first | exact Or.inl rfl | exact Or.inr rfl | exact bI_01 _) dX10_isSpan_24 (⟨by simp [bI, c4, c11, c16], rfl, rfl, rfl, rfl⟩)
theorem e_X10_findGown {n g : Nat} (hW : CW sh P) (hG : GownsAt sh I P n) (hg : g < n) : Ev X B mdX10_findGown 0 0 [.ref (B + 0), .int (nI g)] nx sh I P (mDet (some (.ref (B + pg P 24 g))) nx sh I P) := by
  have s0 : sh 0 = some (.inl 10) := hW.1 0 _ rfl
  have p0_6 : P 0 6 = some 24 := hW.2 0 6 24 rfl
  have s24 : sh 24 = some (.inr (2, 40)) := hW.1 24 _ rfl
  obtain ⟨h4, h5, h6⟩ := hG
  have h7 := (h6 g hg).1
  refine Ev.of (by decide) (by simp [Value.category]) (by simp) (fun G hM => ?_)
  have hM : mM X B "findGown" (some (FieldType.object "GownCourt$Gown")) 0 0 0 0 _ G := hM
  show V X B RX10 cX10_findGown G 0 0 nx sh I P 0 [some (.ref (B + 0)), some (.int (nI g))] []
  refine V_iln dX10_findGown_0 rfl ?_
  refine V_if_lt (tgt := 30) dX10_findGown_1 rfl (fun c1 => ?_) (fun c1 => ?_)
  · exact absurd c1 (nI_pos (by omega)) --done
  · refine V_iln dX10_findGown_4 rfl ?_
    refine V_aln dX10_findGown_5 rfl ?_
    refine V_getIv dX10_findGown_6 flX10_47 (by assumption) rfl (h4) ?_
    refine V_icmp_ge (tgt := 30) dX10_findGown_9 rfl (fun c9 => ?_) (fun c9 => ?_)
    · exact absurd (nN_le c9 (by omega) (by omega)) (by omega) --done
    · refine V_iln dX10_findGown_12 rfl ?_
      refine V_aln dX10_findGown_13 rfl ?_
      refine V_getR dX10_findGown_14 flX10_43 (by assumption) rfl (by assumption) ?_
      refine V_alen dX10_findGown_17 (by assumption) rfl ?_
      refine V_icmp_ge (tgt := 30) dX10_findGown_18 rfl (fun c18 => ?_) (fun c18 => ?_)
      · exact absurd (nN_le c18 (by omega) (by omega)) (by omega) --done
      · refine V_aln dX10_findGown_21 rfl ?_
        refine V_getR dX10_findGown_22 flX10_43 (by assumption) rfl (by assumption) ?_
        refine V_iln dX10_findGown_25 rfl ?_
        refine V_aaldRN dX10_findGown_26 (by assumption) (by decide) (by omega) (by omega) (by assumption) ?_
        refine V_goto (tgt := 31) dX10_findGown_27 rfl ?_
        exact V_aret hM (by first | exact Or.inl ⟨_, rfl⟩ | exact Or.inr ⟨_, rfl⟩) (by first | exact Or.inl rfl | exact Or.inr ⟨_, rfl⟩) dX10_findGown_31 (mDet.rf)
theorem e_X10_findGownN {n : Nat} {x : Int32} (hW : CW sh P) (hG : GownsAt sh I P n) (hx : inB x n = false) : Ev X B mdX10_findGown 0 0 [.ref (B + 0), .int x] nx sh I P (mDet (some .null) nx sh I P) := by
  have s0 : sh 0 = some (.inl 10) := hW.1 0 _ rfl
  have p0_6 : P 0 6 = some 24 := hW.2 0 6 24 rfl
  have s24 : sh 24 = some (.inr (2, 40)) := hW.1 24 _ rfl
  obtain ⟨h4, h5, -⟩ := hG
  have hx : ¬ (0 ≤ x.toInt ∧ x.toInt < n) := fun h => by rw [inB_iff.mpr h] at hx; cases hx
  refine Ev.of (by decide) (by simp [Value.category]) (by simp) (fun G hM => ?_)
  have hM : mM X B "findGown" (some (FieldType.object "GownCourt$Gown")) 0 0 0 0 _ G := hM
  show V X B RX10 cX10_findGown G 0 0 nx sh I P 0 [some (.ref (B + 0)), some (.int x)] []
  refine V_iln dX10_findGown_0 rfl ?_
  refine V_if_lt (tgt := 30) dX10_findGown_1 rfl (fun c1 => ?_) (fun c1 => ?_)
  · refine V_null dX10_findGown_30 ?_
    exact V_aret hM (by first | exact Or.inl ⟨_, rfl⟩ | exact Or.inr ⟨_, rfl⟩) (by first | exact Or.inl rfl | exact Or.inr ⟨_, rfl⟩) dX10_findGown_31 (mDet.rf)
  · refine V_iln dX10_findGown_4 rfl ?_
    refine V_aln dX10_findGown_5 rfl ?_
    refine V_getIv dX10_findGown_6 flX10_47 (by assumption) rfl (h4) ?_
    refine V_icmp_ge (tgt := 30) dX10_findGown_9 rfl (fun c9 => ?_) (fun c9 => ?_)
    · refine V_null dX10_findGown_30 ?_
      exact V_aret hM (by first | exact Or.inl ⟨_, rfl⟩ | exact Or.inr ⟨_, rfl⟩) (by first | exact Or.inl rfl | exact Or.inr ⟨_, rfl⟩) dX10_findGown_31 (mDet.rf)
    · rw [i_le, nI_toInt (by omega)] at c9
      rw [i_lt] at c1
      exact absurd ⟨by simpa using c1, by omega⟩ hx --done
theorem e_X10_findLetter {n g : Nat} (hW : CW sh P) (hG : LettsAt sh I P n) (hg : g < n) : Ev X B mdX10_findLetter 0 0 [.ref (B + 0), .int (nI g)] nx sh I P (mDet (some (.ref (B + pg P 25 g))) nx sh I P) := by
  have s0 : sh 0 = some (.inl 10) := hW.1 0 _ rfl
  have p0_8 : P 0 8 = some 25 := hW.2 0 8 25 rfl
  have s25 : sh 25 = some (.inr (3, 60)) := hW.1 25 _ rfl
  obtain ⟨h4, h5, h6⟩ := hG
  have h7 := (h6 g hg).1
  refine Ev.of (by decide) (by simp [Value.category]) (by simp) (fun G hM => ?_)
  have hM : mM X B "findLetter" (some (FieldType.object "GownCourt$Letter")) 0 0 0 0 _ G := hM
  show V X B RX10 cX10_findLetter G 0 0 nx sh I P 0 [some (.ref (B + 0)), some (.int (nI g))] []
  refine V_iln dX10_findLetter_0 rfl ?_
  refine V_if_lt (tgt := 30) dX10_findLetter_1 rfl (fun c1 => ?_) (fun c1 => ?_)
  · exact absurd c1 (nI_pos (by omega)) --done
  · refine V_iln dX10_findLetter_4 rfl ?_
    refine V_aln dX10_findLetter_5 rfl ?_
    refine V_getIv dX10_findLetter_6 flX10_57 (by assumption) rfl (h4) ?_
    refine V_icmp_ge (tgt := 30) dX10_findLetter_9 rfl (fun c9 => ?_) (fun c9 => ?_)
    · exact absurd (nN_le c9 (by omega) (by omega)) (by omega) --done
    · refine V_iln dX10_findLetter_12 rfl ?_
      refine V_aln dX10_findLetter_13 rfl ?_
      refine V_getR dX10_findLetter_14 flX10_53 (by assumption) rfl (by assumption) ?_
      refine V_alen dX10_findLetter_17 (by assumption) rfl ?_
      refine V_icmp_ge (tgt := 30) dX10_findLetter_18 rfl (fun c18 => ?_) (fun c18 => ?_)
      · exact absurd (nN_le c18 (by omega) (by omega)) (by omega) --done
      · refine V_aln dX10_findLetter_21 rfl ?_
        refine V_getR dX10_findLetter_22 flX10_53 (by assumption) rfl (by assumption) ?_
        refine V_iln dX10_findLetter_25 rfl ?_
        refine V_aaldRN dX10_findLetter_26 (by assumption) (by decide) (by omega) (by omega) (by assumption) ?_
        refine V_goto (tgt := 31) dX10_findLetter_27 rfl ?_
        exact V_aret hM (by first | exact Or.inl ⟨_, rfl⟩ | exact Or.inr ⟨_, rfl⟩) (by first | exact Or.inl rfl | exact Or.inr ⟨_, rfl⟩) dX10_findLetter_31 (mDet.rf)
theorem e_X10_findLetterN {n : Nat} {x : Int32} (hW : CW sh P) (hG : LettsAt sh I P n) (hx : inB x n = false) : Ev X B mdX10_findLetter 0 0 [.ref (B + 0), .int x] nx sh I P (mDet (some .null) nx sh I P) := by
  have s0 : sh 0 = some (.inl 10) := hW.1 0 _ rfl
  have p0_8 : P 0 8 = some 25 := hW.2 0 8 25 rfl
  have s25 : sh 25 = some (.inr (3, 60)) := hW.1 25 _ rfl
  obtain ⟨h4, h5, -⟩ := hG
  have hx : ¬ (0 ≤ x.toInt ∧ x.toInt < n) := fun h => by rw [inB_iff.mpr h] at hx; cases hx
  refine Ev.of (by decide) (by simp [Value.category]) (by simp) (fun G hM => ?_)
  have hM : mM X B "findLetter" (some (FieldType.object "GownCourt$Letter")) 0 0 0 0 _ G := hM
  show V X B RX10 cX10_findLetter G 0 0 nx sh I P 0 [some (.ref (B + 0)), some (.int x)] []
  refine V_iln dX10_findLetter_0 rfl ?_
  refine V_if_lt (tgt := 30) dX10_findLetter_1 rfl (fun c1 => ?_) (fun c1 => ?_)
  · refine V_null dX10_findLetter_30 ?_
    exact V_aret hM (by first | exact Or.inl ⟨_, rfl⟩ | exact Or.inr ⟨_, rfl⟩) (by first | exact Or.inl rfl | exact Or.inr ⟨_, rfl⟩) dX10_findLetter_31 (mDet.rf)
  · refine V_iln dX10_findLetter_4 rfl ?_
    refine V_aln dX10_findLetter_5 rfl ?_
    refine V_getIv dX10_findLetter_6 flX10_57 (by assumption) rfl (h4) ?_
    refine V_icmp_ge (tgt := 30) dX10_findLetter_9 rfl (fun c9 => ?_) (fun c9 => ?_)
    · refine V_null dX10_findLetter_30 ?_
      exact V_aret hM (by first | exact Or.inl ⟨_, rfl⟩ | exact Or.inr ⟨_, rfl⟩) (by first | exact Or.inl rfl | exact Or.inr ⟨_, rfl⟩) dX10_findLetter_31 (mDet.rf)
    · rw [i_le, nI_toInt (by omega)] at c9
      rw [i_lt] at c1
      exact absurd ⟨by simpa using c1, by omega⟩ hx --done
theorem e_X10_rankOn {n : Nat} {p day : Int32} (hW : CW sh P) (hn : NRk I n) : Ev X B mdX10_rankOn 0 0 [.ref (B + 0), .int p, .int day] nx sh I P (mDet (some (.int (cRank I n p day))) nx sh I P) := by
  have s0 : sh 0 = some (.inl 10) := hW.1 0 _ rfl
  have p0_2 : P 0 2 = some 8 := hW.2 0 2 8 rfl
  have s8 : sh 8 = some (.inl 6) := hW.1 8 _ rfl
  refine Ev.of (by decide) (by simp [Value.category]) (by simp) (fun G hM => ?_)
  have hM : mM X B "rankOn" (some FieldType.int) 1 26 0 0 _ G := hM
  show V X B RX10 cX10_rankOn G 0 0 nx sh I P 0 [some (.ref (B + 0)), some (.int p), some (.int day)] []
  refine V_aln dX10_rankOn_0 rfl ?_
  refine V_getR dX10_rankOn_1 flX10_28 (by assumption) rfl (by assumption) ?_
  refine V_iln dX10_rankOn_4 rfl ?_
  refine V_iln dX10_rankOn_5 rfl ?_
  refine V_iconst (v := 5) rfl dX10_rankOn_6 ?_
  refine V_cV3d hM cvX10_295 (by assumption) rfl (e_X6_heldOn (hW.rk hn)) ⟨Nat.le_of_ble_eq_true rfl, Nat.le_of_ble_eq_true rfl, Nat.le_of_ble_eq_true rfl, Nat.le_of_ble_eq_true rfl⟩ (Nat.le_of_ble_eq_true rfl) dX10_rankOn_7 ?_
  exact V_iret hM dX10_rankOn_10 (mDet.rf)
theorem e_X10_occasionOn {nw nf : Nat} {p day : Int32} (hW : CW sh P) (hw : NWd I nw) (hf : NFe I nf) : Ev X B mdX10_occasionOn 0 0 [.ref (B + 0), .int p, .int day] nx sh I P (mDet (some (.int (cOcc I nw nf p day))) nx sh I P) := by
  have s0 : sh 0 = some (.inl 10) := hW.1 0 _ rfl
  have p0_3 : P 0 3 = some 12 := hW.2 0 3 12 rfl
  have s12 : sh 12 = some (.inl 6) := hW.1 12 _ rfl
  have p0_4 : P 0 4 = some 16 := hW.2 0 4 16 rfl
  have s16 : sh 16 = some (.inl 6) := hW.1 16 _ rfl
  refine Ev.of (by decide) (by simp [Value.category]) (by simp) (fun G hM => ?_)
  have hM : mM X B "occasionOn" (some FieldType.int) 1 23 0 0 _ G := hM
  show V X B RX10 cX10_occasionOn G 0 0 nx sh I P 0 [some (.ref (B + 0)), some (.int p), some (.int day)] []
  refine V_aln dX10_occasionOn_0 rfl ?_
  refine V_getR dX10_occasionOn_1 flX10_32 (by assumption) rfl (by assumption) ?_
  refine V_iln dX10_occasionOn_4 rfl ?_
  refine V_iln dX10_occasionOn_5 rfl ?_
  refine V_cV2d hM cvX10_299 (by assumption) rfl (e_X6_spanOver (hW.wd hw)) ⟨Nat.le_of_ble_eq_true rfl, Nat.le_of_ble_eq_true rfl, Nat.le_of_ble_eq_true rfl, Nat.le_of_ble_eq_true rfl⟩ (Nat.le_of_ble_eq_true rfl) dX10_occasionOn_6 ?_
  refine V_ifeq_b (tgt := 14) dX10_occasionOn_9 rfl (fun c9 => ?_) (fun c9 => ?_)
  · refine V_aln dX10_occasionOn_14 rfl ?_
    refine V_getR dX10_occasionOn_15 flX10_35 (by assumption) rfl (by assumption) ?_
    refine V_iconst (v := 0) rfl dX10_occasionOn_18 ?_
    refine V_iln dX10_occasionOn_19 rfl ?_
    refine V_cV2d hM cvX10_299 (by assumption) rfl (e_X6_spanOver (hW.fe hf)) ⟨Nat.le_of_ble_eq_true rfl, Nat.le_of_ble_eq_true rfl, Nat.le_of_ble_eq_true rfl, Nat.le_of_ble_eq_true rfl⟩ (Nat.le_of_ble_eq_true rfl) dX10_occasionOn_20 ?_
    refine V_ifeq_b (tgt := 30) dX10_occasionOn_23 rfl (fun c23 => ?_) (fun c23 => ?_)
    · refine V_iconst (v := 0) rfl dX10_occasionOn_30 ?_
      exact V_iret hM dX10_occasionOn_31 (⟨by simp [cOcc, c9, c23], rfl, rfl, rfl, rfl⟩)
    · refine V_iconst (v := 1) rfl dX10_occasionOn_26 ?_
      refine V_goto (tgt := 31) dX10_occasionOn_27 rfl ?_
      exact V_iret hM dX10_occasionOn_31 (⟨by simp [cOcc, c9, c23], rfl, rfl, rfl, rfl⟩)
  · refine V_iconst (v := 2) rfl dX10_occasionOn_12 ?_
    exact V_iret hM dX10_occasionOn_13 (⟨by simp [cOcc, c9], rfl, rfl, rfl, rfl⟩)
theorem l_X10_countsAs {G : mG} {n : Nat} {s0 day : Int32} (hW : CW sh P) (hn : NLi I n) (hM : mM X B "countsAs" (some .int) 1 26 0 0 (mDet (some (.int (cCnt I n day s0))) nx sh I P) G) : ∀ (z i : Nat) (s : Int32) (o5 : Option Value), i + z = 16 → cntA (cHeld I n day) z s = cCnt I n day s0 → V X B RX10 cX10_countsAs G 0 0 nx sh I P 5 [some (.ref (B + 0)), some (.int s0), some (.int day), some (.int s), some (.int (nI i)), o5] [] := by
  have s0 : sh 0 = some (.inl 10) := hW.1 0 _ rfl
  have p0_5 : P 0 5 = some 20 := hW.2 0 5 20 rfl
  have s20 : sh 20 = some (.inl 6) := hW.1 20 _ rfl
  intro z
  induction z with
  | zero =>
    intro i s o5 hi he
    obtain rfl : i = 16 := by omega
    refine V_il dX10_countsAs_5 rfl ?_
    refine V_bipush (v := 16) rfl dX10_countsAs_7 ?_
    refine V_icmp_ge (tgt := 41) dX10_countsAs_9 rfl (fun c9 => ?_) (fun c9 => ?_)
    · refine V_iln dX10_countsAs_41 rfl ?_
      exact V_iret hM dX10_countsAs_42 (⟨by rw [← he]; rfl, rfl, rfl, rfl, rfl⟩)
    · exact absurd (by decide) c9 --done
  | succ z ih =>
    intro i s o5 hi he
    refine V_il dX10_countsAs_5 rfl ?_
    refine V_bipush (v := 16) rfl dX10_countsAs_7 ?_
    refine V_icmp_ge (tgt := 41) dX10_countsAs_9 rfl (fun c9 => ?_) (fun c9 => ?_)
    · exact absurd (nN_le (a := 16) c9 (by omega) (by omega)) (by omega) --done
    · refine V_aln dX10_countsAs_12 rfl ?_
      refine V_getR dX10_countsAs_13 flX10_38 (by assumption) rfl (by assumption) ?_
      refine V_iln dX10_countsAs_16 rfl ?_
      refine V_iln dX10_countsAs_17 rfl ?_
      refine V_iln dX10_countsAs_18 rfl ?_
      refine V_cV3d hM cvX10_295 (by assumption) rfl (e_X6_heldOn (hW.li hn)) ⟨Nat.le_of_ble_eq_true rfl, Nat.le_of_ble_eq_true rfl, Nat.le_of_ble_eq_true rfl, Nat.le_of_ble_eq_true rfl⟩ (Nat.le_of_ble_eq_true rfl) dX10_countsAs_19 ?_
      refine V_is5 dX10_countsAs_22 ?_
      refine V_il dX10_countsAs_24 rfl ?_
      refine V_iln dX10_countsAs_26 rfl ?_
      refine V_icmp_ne (tgt := 32) dX10_countsAs_27 rfl (fun c27 => ?_) (fun c27 => ?_)
      · have c27 : ¬ cHeld I n day s = s := c27
        refine V_il dX10_countsAs_32 rfl ?_
        refine V_is3 dX10_countsAs_34 ?_
        refine V_inc4 dX10_countsAs_35 ?_
        refine V_goto (tgt := 5) dX10_countsAs_38 rfl ?_
        rw [nI_inc]
        exact ih (i + 1) (cHeld I n day s) _ (by omega) (by rw [← he]; simp [cntA, c27])
      · have c27 : cHeld I n day s = s := by first | exact c27 | exact Classical.not_not.mp c27
        refine V_iln dX10_countsAs_30 rfl ?_
        exact V_iret hM dX10_countsAs_31 (⟨by rw [← he]; simp [cntA, c27], rfl, rfl, rfl, rfl⟩)
theorem e_X10_countsAs {n : Nat} {s day : Int32} (hW : CW sh P) (hn : NLi I n) : Ev X B mdX10_countsAs 0 0 [.ref (B + 0), .int s, .int day] nx sh I P (mDet (some (.int (cCnt I n day s))) nx sh I P) := by
  refine Ev.of (by decide) (by simp [Value.category]) (by simp) (fun G hM => ?_)
  have hM : mM X B "countsAs" (some FieldType.int) 1 26 0 0 _ G := hM
  show V X B RX10 cX10_countsAs G 0 0 nx sh I P 0 [some (.ref (B + 0)), some (.int s), some (.int day), none, none, none] []
  refine V_iln dX10_countsAs_0 rfl ?_
  refine V_is3 dX10_countsAs_1 ?_
  refine V_iconst (v := 0) rfl dX10_countsAs_2 ?_
  refine V_is4 dX10_countsAs_3 ?_
  exact l_X10_countsAs hW hn hM 16 0 s none (by omega) rfl
def takeM (I : mI) (rank occ day st : Int32) : mI := mUp (mUp (mUp (mUp I 30 0 rank) 30 1 occ) 30 3 day) 30 4 st
/-- what putOn makes of the memory -/
def putM (I : mI) (P : mP) (nr nw nf nl g : Nat) (p day : Int32) : mI := takeM I (cRank I nr p day) (cOcc I nw nf p day) day (cCnt I nl day (I (pg P 24 g) 1))
theorem e_X10_putOn {nr nw nf nl n g : Nat} {p day : Int32} (hW : CW sh P) (hr : NRk I nr) (hw : NWd I nw) (hf : NFe I nf) (hl : NLi I nl) (hG : GownsAt sh I P n) (hp : inB p 30 = true) (hg : g < n) (hd : inB day 10000 = true) : Ev X B mdX10_putOn 0 0 [.ref (B + 0), .int p, .int (nI g), .int day] nx sh I P (mDet (some (.int 1)) nx sh (putM I P nr nw nf nl g p day) (mUp P 30 2 (some (pg P 24 g)))) := by
  have s0 : sh 0 = some (.inl 10) := hW.1 0 _ rfl
  have p0_15 : P 0 15 = some 30 := hW.2 0 15 30 rfl
  have s30 : sh 30 = some (.inl 9) := hW.1 30 _ rfl
  obtain ⟨g1, g2, g3⟩ := id hG
  have g4 := (g3 g hg).2.1
  refine Ev.of (by decide) (by simp [Value.category]) (by simp) (fun G hM => ?_)
  have hM : mM X B "putOn" (some FieldType.boolean) 2 51 0 0 _ G := hM
  show V X B RX10 cX10_putOn G 0 0 nx sh I P 0 [some (.ref (B + 0)), some (.int p), some (.int (nI g)), some (.int day), none] []
  refine V_aln dX10_putOn_0 rfl ?_
  refine V_iln dX10_putOn_1 rfl ?_
  refine V_cV1d hM cvX10_148 (by assumption) rfl (e_X10_findGown hW hG hg) ⟨Nat.le_of_ble_eq_true rfl, Nat.le_of_ble_eq_true rfl, Nat.le_of_ble_eq_true rfl, Nat.le_of_ble_eq_true rfl⟩ (Nat.le_of_ble_eq_true rfl) dX10_putOn_2 ?_
  refine V_as4 dX10_putOn_5 ?_
  refine V_iln dX10_putOn_7 rfl ?_
  refine V_cS1d hM cvX10_106 (e_X10_isPerson) ⟨Nat.le_of_ble_eq_true rfl, Nat.le_of_ble_eq_true rfl, Nat.le_of_ble_eq_true rfl, Nat.le_of_ble_eq_true rfl⟩ (Nat.le_of_ble_eq_true rfl) dX10_putOn_8 ?_
  refine V_ifeq_b (tgt := 26) dX10_putOn_11 rfl (fun c11 => ?_) (fun c11 => ?_)
  · rw [hp] at c11; cases c11 --done
  · refine V_al dX10_putOn_14 rfl ?_
    refine V_ifnull dX10_putOn_16 ?_
    refine V_iln dX10_putOn_19 rfl ?_
    refine V_cS1d hM cvX10_110 (e_X10_isDay) ⟨Nat.le_of_ble_eq_true rfl, Nat.le_of_ble_eq_true rfl, Nat.le_of_ble_eq_true rfl, Nat.le_of_ble_eq_true rfl⟩ (Nat.le_of_ble_eq_true rfl) dX10_putOn_20 ?_
    refine V_ifne_b (tgt := 28) dX10_putOn_23 rfl (fun c23 => ?_) (fun c23 => ?_)
    · refine V_aln dX10_putOn_28 rfl ?_
      refine V_getR dX10_putOn_29 flX10_79 (by assumption) rfl (by assumption) ?_
      refine V_aln dX10_putOn_32 rfl ?_
      refine V_iln dX10_putOn_33 rfl ?_
      refine V_iln dX10_putOn_34 rfl ?_
      refine V_cV2d hM cvX10_129 (by assumption) rfl (e_X10_rankOn hW hr) ⟨Nat.le_of_ble_eq_true rfl, Nat.le_of_ble_eq_true rfl, Nat.le_of_ble_eq_true rfl, Nat.le_of_ble_eq_true rfl⟩ (Nat.le_of_ble_eq_true rfl) dX10_putOn_35 ?_
      refine V_aln dX10_putOn_38 rfl ?_
      refine V_iln dX10_putOn_39 rfl ?_
      refine V_iln dX10_putOn_40 rfl ?_
      refine V_cV2d hM cvX10_133 (by assumption) rfl (e_X10_occasionOn hW hw hf) ⟨Nat.le_of_ble_eq_true rfl, Nat.le_of_ble_eq_true rfl, Nat.le_of_ble_eq_true rfl, Nat.le_of_ble_eq_true rfl⟩ (Nat.le_of_ble_eq_true rfl) dX10_putOn_41 ?_
      refine V_al dX10_putOn_44 rfl ?_
      refine V_iln dX10_putOn_46 rfl ?_
      refine V_aln dX10_putOn_47 rfl ?_
      refine V_al dX10_putOn_48 rfl ?_
      refine V_getI dX10_putOn_50 flX10_155 (by assumption) rfl ?_
      refine V_iln dX10_putOn_53 rfl ?_
      refine V_cV2d hM cvX10_164 (by assumption) rfl (e_X10_countsAs hW hl) ⟨Nat.le_of_ble_eq_true rfl, Nat.le_of_ble_eq_true rfl, Nat.le_of_ble_eq_true rfl, Nat.le_of_ble_eq_true rfl⟩ (Nat.le_of_ble_eq_true rfl) dX10_putOn_54 ?_
      refine V_cV5n hM cvX10_287 (by assumption) rfl (e_X9_take s30) ⟨Nat.le_of_ble_eq_true rfl, Nat.le_of_ble_eq_true rfl, Nat.le_of_ble_eq_true rfl, Nat.le_of_ble_eq_true rfl⟩ (Nat.le_of_ble_eq_true rfl) dX10_putOn_57 ?_
      refine V_iconst (v := 1) rfl dX10_putOn_60 ?_
      exact V_zret hM (by first | exact Or.inl rfl | exact Or.inr rfl | exact bI_01 _) dX10_putOn_61 (mDet.rf)
    · rw [hd] at c23; cases c23 --done
theorem e_X10_putOnN {n : Nat} {p g day : Int32} (hW : CW sh P) (hG : GownsAt sh I P n) (hx : (inB p 30 && inB g n && inB day 10000) = false) : Ev X B mdX10_putOn 0 0 [.ref (B + 0), .int p, .int g, .int day] nx sh I P (mDet (some (.int 0)) nx sh I P) := by
  have s0 : sh 0 = some (.inl 10) := hW.1 0 _ rfl
  have p0_15 : P 0 15 = some 30 := hW.2 0 15 30 rfl
  have s30 : sh 30 = some (.inl 9) := hW.1 30 _ rfl
  obtain ⟨g1, g2, g3⟩ := id hG
  refine Ev.of (by decide) (by simp [Value.category]) (by simp) (fun G hM => ?_)
  have hM : mM X B "putOn" (some FieldType.boolean) 2 51 0 0 _ G := hM
  show V X B RX10 cX10_putOn G 0 0 nx sh I P 0 [some (.ref (B + 0)), some (.int p), some (.int g), some (.int day), none] []
  by_cases hg : inB g n = true
  · obtain ⟨j, hj, rfl⟩ := inB_nI hg (by omega)
    have g4 := (g3 j hj).2.1
    refine V_aln dX10_putOn_0 rfl ?_
    refine V_iln dX10_putOn_1 rfl ?_
    refine V_cV1d hM cvX10_148 (by assumption) rfl (e_X10_findGown hW hG hj) ⟨Nat.le_of_ble_eq_true rfl, Nat.le_of_ble_eq_true rfl, Nat.le_of_ble_eq_true rfl, Nat.le_of_ble_eq_true rfl⟩ (Nat.le_of_ble_eq_true rfl) dX10_putOn_2 ?_
    refine V_as4 dX10_putOn_5 ?_
    refine V_iln dX10_putOn_7 rfl ?_
    refine V_cS1d hM cvX10_106 (e_X10_isPerson) ⟨Nat.le_of_ble_eq_true rfl, Nat.le_of_ble_eq_true rfl, Nat.le_of_ble_eq_true rfl, Nat.le_of_ble_eq_true rfl⟩ (Nat.le_of_ble_eq_true rfl) dX10_putOn_8 ?_
    refine V_ifeq_b (tgt := 26) dX10_putOn_11 rfl (fun c11 => ?_) (fun c11 => ?_)
    · refine V_iconst (v := 0) rfl dX10_putOn_26 ?_
      exact V_zret hM (by first | exact Or.inl rfl | exact Or.inr rfl | exact bI_01 _) dX10_putOn_27 (mDet.rf)
    · refine V_al dX10_putOn_14 rfl ?_
      refine V_ifnull dX10_putOn_16 ?_
      refine V_iln dX10_putOn_19 rfl ?_
      refine V_cS1d hM cvX10_110 (e_X10_isDay) ⟨Nat.le_of_ble_eq_true rfl, Nat.le_of_ble_eq_true rfl, Nat.le_of_ble_eq_true rfl, Nat.le_of_ble_eq_true rfl⟩ (Nat.le_of_ble_eq_true rfl) dX10_putOn_20 ?_
      refine V_ifne_b (tgt := 28) dX10_putOn_23 rfl (fun c23 => ?_) (fun c23 => ?_)
      · simp [hg, c11, c23] at hx --done
      · refine V_iconst (v := 0) rfl dX10_putOn_26 ?_
        exact V_zret hM (by first | exact Or.inl rfl | exact Or.inr rfl | exact bI_01 _) dX10_putOn_27 (mDet.rf)
  · refine V_aln dX10_putOn_0 rfl ?_
    refine V_iln dX10_putOn_1 rfl ?_
    refine V_cV1d hM cvX10_148 (by assumption) rfl (e_X10_findGownN hW hG (by simpa using hg)) ⟨Nat.le_of_ble_eq_true rfl, Nat.le_of_ble_eq_true rfl, Nat.le_of_ble_eq_true rfl, Nat.le_of_ble_eq_true rfl⟩ (Nat.le_of_ble_eq_true rfl) dX10_putOn_2 ?_
    refine V_an4 dX10_putOn_5 ?_
    refine V_iln dX10_putOn_7 rfl ?_
    refine V_cS1d hM cvX10_106 (e_X10_isPerson) ⟨Nat.le_of_ble_eq_true rfl, Nat.le_of_ble_eq_true rfl, Nat.le_of_ble_eq_true rfl, Nat.le_of_ble_eq_true rfl⟩ (Nat.le_of_ble_eq_true rfl) dX10_putOn_8 ?_
    refine V_ifeq_b (tgt := 26) dX10_putOn_11 rfl (fun c11 => ?_) (fun c11 => ?_)
    · refine V_iconst (v := 0) rfl dX10_putOn_26 ?_
      exact V_zret hM (by first | exact Or.inl rfl | exact Or.inr rfl | exact bI_01 _) dX10_putOn_27 (mDet.rf)
    · refine V_alN dX10_putOn_14 rfl ?_
      refine V_ifnullN (tgt := 26) dX10_putOn_16 rfl ?_
      refine V_iconst (v := 0) rfl dX10_putOn_26 ?_
      exact V_zret hM (by first | exact Or.inl rfl | exact Or.inr rfl | exact bI_01 _) dX10_putOn_27 (mDet.rf)
end CT
