/-! ===== the reader: words, numbers, one step ===== -/
def wdB (I : mI) (m i : Nat) : Bool := decide (I 1 6 = 1) && decide (I 1 8 - I 1 7 = nI (mLe.getD i 0)) && !anyR (fun j => !decide (tpB (I 3) m ((I 1 7).toNatClampNeg + j) = chF i j)) (mLe.getD i 0)
def blameM (I : mI) (k : Int32) : mI := mUp (mUp I 1 3 k) 1 4 (I 1 7)
def goOnM (I : mI) (f s : Int32) : mI := if f = 0 then mUp I 1 5 s else blameM I f
def tkV (I : mI) (lo hi : Int32) : Int32 := if I 1 6 = 2 then (if I 1 9 < lo ∨ hi < I 1 9 then 0 else I 1 9) else 0
def tkM (I : mI) (lo hi s : Int32) : mI := if I 1 6 = 2 then (if I 1 9 < lo ∨ hi < I 1 9 then blameM I 2 else mUp I 1 5 s) else blameM I 1
def tlF (k : Int32) : Int32 := if k = 5 then 15 else if k = 6 then 7 else if k = 7 then 7 else 9999
def rkF (w : Nat → Bool) : Int32 := if w 0 then 0 else if w 1 then 1 else if w 2 then 2 else if w 3 then 3 else if w 4 then 4 else if w 5 then 5 else if w 6 then 6 else if w 7 then 7 else -1
def wwF (w : Nat → Bool) : Int32 := if w 14 then 0 else if w 15 then 1 else if w 16 then 2 else if w 17 then 3 else -1
def slM (I : mI) (m dr : Nat) : mI := if rkF (wdB I m) = -1 then (if wdB I m 8 then goOnM I 0 9 else if wdB I m 9 then goOnM I (if I dr 3 = -1 then 0 else 3) 10 else if wdB I m 10 then goOnM I (if I dr 4 = -1 then 0 else 3) 11 else blameM I 1) else goOnM (mUp I 1 10 (rkF (wdB I m))) (if I dr 2 < 12 then 0 else 4) 1
def whoM (I : mI) (m : Nat) : mI := if wdB I m 11 then mUp (mUp (mUp I 1 12 0) 1 13 9) 1 5 6 else goOnM I (if wdB I m 12 then 0 else 1) 3
def whnM (I : mI) (m : Nat) : mI := goOnM (mUp I 1 14 (wwF (wdB I m))) (if wwF (wdB I m) = -1 then 1 else 0) 7
def repM (I : mI) (dr : Nat) : mI := if tkM I 0 (I 1 2 - 1) 12 1 3 = 0 then mUp (goOnM (tkM I 0 (I 1 2 - 1) 12) (if I dr 5 &&& (1 <<< (tkV I 0 (I 1 2 - 1) &&& 31)) = 0 then 0 else 3) 12) dr 5 (I dr 5 ||| (1 <<< (tkV I 0 (I 1 2 - 1) &&& 31))) else tkM I 0 (I 1 2 - 1) 12
theorem pL59 : pL 59 = false := by decide
theorem pD59 : pD 59 = false := by decide
theorem pLn1 : pL (-1) = false := by decide
theorem pDn1 : pD (-1) = false := by decide
theorem pL_nD {b : Int32} (h : pL b = true) : pD b = false := by
  simp only [pL, pD, Bool.and_eq_true, decide_eq_true_eq, i_le] at *
  have e1 : (97 : Int32).toInt = 97 := rfl
  have e2 : (57 : Int32).toInt = 57 := rfl
  rw [Bool.and_eq_false_iff]
  right
  rw [decide_eq_false_iff_not]
  omega
theorem n6789 {c k : Nat} (h : ¬ (c = 1 ∧ (k = 6 ∨ k = 7 ∨ k = 8 ∨ k = 9))) : ¬ (c = 1 ∧ k = 6) ∧ ¬ (c = 1 ∧ k = 7) ∧ ¬ (c = 1 ∧ k = 8) ∧ ¬ (c = 1 ∧ k = 9) := by omega
theorem scn_gen {I J : mI} {m e : Nat} (g6 : J 1 6 = tK (I 3) m e) (g7 : J 1 7 = nI (tS (I 3) m e)) (g8 : J 1 8 = nI (tE (I 3) m e)) (g9 : J 1 9 = tN (I 3) m e (I 1 9)) (ho : ∀ c k, ¬ (c = 1 ∧ (k = 6 ∨ k = 7 ∨ k = 8 ∨ k = 9)) → J c k = I c k) (c k : Nat) : J c k = scnM I m e c k := by
  refine mem_eq4 ?_ ?_ ?_ ?_ (fun c k h => ?_) c k
  · rw [g6]; simp [scnM, mUp]
  · rw [g7]; simp [scnM, mUp]
  · rw [g8]; simp [scnM, mUp]
  · rw [g9]; simp [scnM, mUp]
  · rw [ho c k h]
    obtain ⟨h6, h7, h8, h9⟩ := n6789 h
    simp only [scnM, mUp, if_neg h6, if_neg h7, if_neg h8, if_neg h9]
section RD
variable {X : mX} {B nx : Nat} {sh : Nat → Option mSh} {I : mI} {P : mP}
theorem l_X5_isWord {G : mG} {m s i : Nat} (hW : CW sh P) (hm : I 2 1 = nI m) (hm8 : m ≤ 800) (h7 : I 1 7 = nI s) (hs : s ≤ 900) (hi : i < mNT) (h6 : I 1 6 = 1) (h8 : I 1 8 - I 1 7 = nI (mLe.getD i 0)) (hM : mM X B "isWord" (some .boolean) 5 106 0 0 (mDet (some (.int (bI (wdB I m i)))) nx sh I P) G) : ∀ (z j : Nat), j ≤ mLe.getD i 0 → mLe.getD i 0 - j < z → (∀ k, k < j → (fun j => !decide (tpB (I 3) m ((I 1 7).toNatClampNeg + j) = chF i j)) k = false) → V X B RX5 cX5_isWord G 0 0 nx sh I P 28 [some (.ref (B + 1)), some (.ref (X.2.2.2.1 i)), some (.int (nI j))] [] := by
  have s1 : sh 1 = some (.inl 5) := hW.1 1 _ rfl
  have p1_0 : P 1 0 = some 2 := hW.2 1 0 2 rfl
  have s2 : sh 2 = some (.inl 8) := hW.1 2 _ rfl
  have p2_0 : P 2 0 = some 3 := hW.2 2 0 3 rfl
  have s3 : sh 3 = some (.inr (1, 800)) := hW.1 3 _ rfl
  have hL := mLe_lt i hi
  have e7 : (I 1 7).toNatClampNeg = s := by rw [h7, nI_clamp (by omega)]
  intro z
  induction z with
  | zero => intro i _ h; omega
  | succ z ih =>
    intro j hj hz hin
    refine V_iln dX5_isWord_28 rfl ?_
    refine V_aln dX5_isWord_29 rfl ?_
    refine V_callT hi hM cvX5_202 rfl (e_J0_length hi) rfl ⟨Nat.le_of_ble_eq_true rfl, Nat.le_of_ble_eq_true rfl, Nat.le_of_ble_eq_true rfl, Nat.le_of_ble_eq_true rfl⟩ (Nat.le_of_ble_eq_true rfl) dX5_isWord_30 rfl ?_
    refine V_icmp_ge (tgt := 65) dX5_isWord_33 rfl (fun c33 => ?_) (fun c33 => ?_)
    · have c33 := nN_le c33 (by omega) (by omega)
      obtain rfl : j = mLe.getD i 0 := by omega
      refine V_iconst (v := 1) rfl dX5_isWord_65 ?_
      exact V_zret hM (by first | exact Or.inl rfl | exact Or.inr rfl | exact bI_01 _) dX5_isWord_66 (⟨by rw [wdB, anyR_f hin]; simp only [h6, h8]; simp [bI], rfl, rfl, rfl, rfl⟩)
    · have c33 := nN_nle c33 (by omega) (by omega)
      refine V_aln dX5_isWord_36 rfl ?_
      refine V_getR dX5_isWord_37 flX5_12 (by assumption) rfl (by assumption) ?_
      refine V_aln dX5_isWord_40 rfl ?_
      refine V_getIv dX5_isWord_41 flX5_41 (by assumption) rfl (h7) ?_
      refine V_iln dX5_isWord_44 rfl ?_
      refine V_iadd dX5_isWord_45 ?_
      refine V_top (nI_add s j) ?_
      refine V_cV1d hM cvX5_78 (by assumption) rfl (e_X8_byteAt s2 p2_0 s3 hm hm8 (by omega)) ⟨Nat.le_of_ble_eq_true rfl, Nat.le_of_ble_eq_true rfl, Nat.le_of_ble_eq_true rfl, Nat.le_of_ble_eq_true rfl⟩ (Nat.le_of_ble_eq_true rfl) dX5_isWord_46 ?_
      refine V_aln dX5_isWord_49 rfl ?_
      refine V_iln dX5_isWord_50 rfl ?_
      refine V_callT hi hM cvX5_207 rfl (e_J0_charAt hi c33) rfl ⟨Nat.le_of_ble_eq_true rfl, Nat.le_of_ble_eq_true rfl, Nat.le_of_ble_eq_true rfl, Nat.le_of_ble_eq_true rfl⟩ (Nat.le_of_ble_eq_true rfl) dX5_isWord_51 rfl ?_
      refine V_icmp_eq (tgt := 59) dX5_isWord_54 rfl (fun c54 => ?_) (fun c54 => ?_)
      · have c54 : tpB (I 3) m ((I 1 7).toNatClampNeg + j) = chF i j := by rw [e7]; exact c54
        refine V_inc2 dX5_isWord_59 ?_
        refine V_goto (tgt := 28) dX5_isWord_62 rfl ?_
        rw [nI_inc]
        exact ih (j + 1) (by omega) (by omega) (lt_s' hin (by simp [c54]))
      · have c54 : ¬ tpB (I 3) m ((I 1 7).toNatClampNeg + j) = chF i j := by rw [e7]; exact c54
        refine V_iconst (v := 0) rfl dX5_isWord_57 ?_
        exact V_zret hM (by first | exact Or.inl rfl | exact Or.inr rfl | exact bI_01 _) dX5_isWord_58 (⟨by rw [wdB, anyR_t (i := j) c33 (by simp [c54])]; simp [bI], rfl, rfl, rfl, rfl⟩)
theorem e_X5_isWord {m s i : Nat} (hW : CW sh P) (hm : I 2 1 = nI m) (hm8 : m ≤ 800) (h7 : I 1 7 = nI s) (hs : s ≤ 900) (hi : i < mNT) : Ev X B mdX5_isWord 0 0 [.ref (B + 1), .ref (X.2.2.2.1 i)] nx sh I P (mDet (some (.int (bI (wdB I m i)))) nx sh I P) := by
  have s1 : sh 1 = some (.inl 5) := hW.1 1 _ rfl
  refine Ev.of (by decide) (by simp [Value.category]) (by simp) (fun G hM => ?_)
  have hM : mM X B "isWord" (some FieldType.boolean) 5 106 0 0 _ G := hM
  show V X B RX5 cX5_isWord G 0 0 nx sh I P 0 [some (.ref (B + 1)), some (.ref (X.2.2.2.1 i)), none] []
  refine V_aln dX5_isWord_0 rfl ?_
  refine V_getI dX5_isWord_1 flX5_38 (by assumption) rfl ?_
  refine V_iconst (v := 1) rfl dX5_isWord_4 ?_
  refine V_icmp_ne (tgt := 24) dX5_isWord_5 rfl (fun c5 => ?_) (fun c5 => ?_)
  · have hz : wdB I m i = false := by rw [wdB, decide_eq_false c5]; rfl
    refine V_iconst (v := 0) rfl dX5_isWord_24 ?_
    exact V_zret hM (by first | exact Or.inl rfl | exact Or.inr rfl | exact bI_01 _) dX5_isWord_25 (⟨by rw [hz]; rfl, rfl, rfl, rfl, rfl⟩)
  · have c5 : I 1 6 = 1 := by first | exact c5 | exact Classical.not_not.mp c5
    refine V_aln dX5_isWord_8 rfl ?_
    refine V_getI dX5_isWord_9 flX5_44 (by assumption) rfl ?_
    refine V_aln dX5_isWord_12 rfl ?_
    refine V_getI dX5_isWord_13 flX5_41 (by assumption) rfl ?_
    refine V_isub dX5_isWord_16 ?_
    refine V_aln dX5_isWord_17 rfl ?_
    refine V_callT hi hM cvX5_202 rfl (e_J0_length hi) rfl ⟨Nat.le_of_ble_eq_true rfl, Nat.le_of_ble_eq_true rfl, Nat.le_of_ble_eq_true rfl, Nat.le_of_ble_eq_true rfl⟩ (Nat.le_of_ble_eq_true rfl) dX5_isWord_18 rfl ?_
    refine V_icmp_eq (tgt := 26) dX5_isWord_21 rfl (fun c21 => ?_) (fun c21 => ?_)
    · refine V_iconst (v := 0) rfl dX5_isWord_26 ?_
      refine V_is2 dX5_isWord_27 ?_
      exact l_X5_isWord hW hm hm8 h7 hs hi c5 c21 hM (mLe.getD i 0 + 1) 0 (by omega) (by omega) (fun j h => by omega)
    · have hz : wdB I m i = false := by rw [wdB, decide_eq_false c21, Bool.and_false]; rfl
      refine V_iconst (v := 0) rfl dX5_isWord_24 ?_
      exact V_zret hM (by first | exact Or.inl rfl | exact Or.inr rfl | exact bI_01 _) dX5_isWord_25 (⟨by rw [hz]; rfl, rfl, rfl, rfl, rfl⟩)
theorem l_X5_scan {G : mG} {m e0 : Nat} (hW : CW sh P) (hm : I 2 1 = nI m) (hm8 : m ≤ 800) (hM : mM X B "scan" none 2 42 0 0 (mDet none nx sh (scnM I m e0) P) G) : ∀ (z i : Nat), i ≤ m → m - i < z → runE pB (I 3) m i = tS (I 3) m e0 → V X B RX5 cX5_scan G 0 0 nx sh (mUp I 1 7 (nI i)) P 8 [some (.ref (B + 1)), none] [] := by
  have s1 : sh 1 = some (.inl 5) := hW.1 1 _ rfl
  have p1_0 : P 1 0 = some 2 := hW.2 1 0 2 rfl
  have s2 : sh 2 = some (.inl 8) := hW.1 2 _ rfl
  have p2_0 : P 2 0 = some 3 := hW.2 2 0 3 rfl
  have s3 : sh 3 = some (.inr (1, 800)) := hW.1 3 _ rfl
  have hm' : ∀ i, mUp I 1 7 (nI i) 2 1 = nI m := fun i => by rw [mUp_c (by decide)]; exact hm
  have h2' : ∀ i, mUp I 1 7 (nI i) 3 = I 3 := fun i => funext fun k => mUp_c (by decide)
  intro z
  induction z with
  | zero => intro i _ h; omega
  | succ z ih =>
    intro i hi hz he
    have tail : i = tS (I 3) m e0 → V X B RX5 cX5_scan G 0 0 nx sh (mUp I 1 7 (nI i)) P 52 [some (.ref (B + 1)), none] [] := by
      intro e2
      have eC : tpB (I 3) m i = tC (I 3) m e0 := by rw [e2]; rfl
      have hM' : mUp (mUp I 1 7 (nI i)) 1 8 (nI (i + 1)) 3 = I 3 := funext fun k => by rw [mUp_c (by decide), mUp_c (by decide)]
      refine V_aln dX5_scan_52 rfl ?_
      refine V_getR dX5_scan_53 flX5_12 (by assumption) rfl (by assumption) ?_
      refine V_aln dX5_scan_56 rfl ?_
      refine V_getIv dX5_scan_57 flX5_41 (by assumption) rfl (mUp_s) ?_
      refine V_cV1d hM cvX5_78 (by assumption) rfl (e_X8_byteAt s2 p2_0 s3 (hm' i) hm8 (by omega)) ⟨Nat.le_of_ble_eq_true rfl, Nat.le_of_ble_eq_true rfl, Nat.le_of_ble_eq_true rfl, Nat.le_of_ble_eq_true rfl⟩ (Nat.le_of_ble_eq_true rfl) dX5_scan_60 ?_
      rw [h2', eC]
      refine V_is1 dX5_scan_63 ?_
      refine V_aln dX5_scan_64 rfl ?_
      refine V_aln dX5_scan_65 rfl ?_
      refine V_getIv dX5_scan_66 flX5_41 (by assumption) rfl (mUp_s) ?_
      refine V_iconst (v := 1) rfl dX5_scan_69 ?_
      refine V_iadd dX5_scan_70 ?_
      refine V_top (nI_inc' i) ?_
      refine V_putI dX5_scan_71 flX5_44 (by assumption) rfl rfl ?_
      refine V_iln dX5_scan_74 rfl ?_
      refine V_iconst (v := -1) rfl dX5_scan_75 ?_
      refine V_icmp_ne (tgt := 87) dX5_scan_76 rfl (fun c76 => ?_) (fun c76 => ?_)
      · have him : i < m := by
          rcases Nat.lt_or_ge i m with h | h
          · exact h
          · exact absurd (by rw [← eC, tpB_out (by omega)]) c76
        refine V_iln dX5_scan_87 rfl ?_
        refine V_cS1d hM cvX5_86 (e_X5_isLetter) ⟨Nat.le_of_ble_eq_true rfl, Nat.le_of_ble_eq_true rfl, Nat.le_of_ble_eq_true rfl, Nat.le_of_ble_eq_true rfl⟩ (Nat.le_of_ble_eq_true rfl) dX5_scan_88 ?_
        refine V_ifeq_b (tgt := 101) dX5_scan_91 rfl (fun c91 => ?_) (fun c91 => ?_)
        · refine V_iln dX5_scan_101 rfl ?_
          refine V_cS1d hM cvX5_92 (e_X5_isDigit) ⟨Nat.le_of_ble_eq_true rfl, Nat.le_of_ble_eq_true rfl, Nat.le_of_ble_eq_true rfl, Nat.le_of_ble_eq_true rfl⟩ (Nat.le_of_ble_eq_true rfl) dX5_scan_102 ?_
          refine V_ifeq_b (tgt := 115) dX5_scan_105 rfl (fun c105 => ?_) (fun c105 => ?_)
          · refine V_aln dX5_scan_115 rfl ?_
            refine V_iln dX5_scan_116 rfl ?_
            refine V_bipush (v := 59) rfl dX5_scan_117 ?_
            refine V_icmp_ne (tgt := 126) dX5_scan_119 rfl (fun c119 => ?_) (fun c119 => ?_)
            · refine V_iconst (v := 4) rfl dX5_scan_126 ?_
              refine V_putI dX5_scan_127 flX5_38 (by assumption) rfl rfl ?_
              exact V_vret hM dX5_scan_130 (⟨rfl, rfl, rfl, funext fun c => funext fun k => scn_gen (m := m) (e := e0) (by simp [tK, tE, snM, mUp, hM', ← e2, pL59, pD59, pLn1, pDn1, c76, c91, c105, c119]) (by simp [snM, mUp, ← e2]) (by simp [tE, snM, mUp, hM', ← e2, pL59, pD59, pLn1, pDn1, c76, c91, c105, c119]) (by first | (simp [tN, tE, snM, mUp, hM', ← e2, pL59, pD59, pLn1, pDn1, c76, c91, c105, c119]; done) | simp [tN, tE, snM, mUp, hM', ← e2, cD]) (fun c k h => by obtain ⟨h6, h7, h8, h9⟩ := n6789 h; simp only [snM, mUp, if_neg h6, if_neg h7, if_neg h8, if_neg h9]) c k, rfl⟩)
            · refine V_iconst (v := 3) rfl dX5_scan_122 ?_
              refine V_goto (tgt := 127) dX5_scan_123 rfl ?_
              refine V_putI dX5_scan_127 flX5_38 (by assumption) rfl rfl ?_
              exact V_vret hM dX5_scan_130 (⟨rfl, rfl, rfl, funext fun c => funext fun k => scn_gen (m := m) (e := e0) (by simp [tK, tE, snM, mUp, hM', ← e2, pL59, pD59, pLn1, pDn1, c76, c91, c105, c119]) (by simp [snM, mUp, ← e2]) (by simp [tE, snM, mUp, hM', ← e2, pL59, pD59, pLn1, pDn1, c76, c91, c105, c119]) (by first | (simp [tN, tE, snM, mUp, hM', ← e2, pL59, pD59, pLn1, pDn1, c76, c91, c105, c119]; done) | simp [tN, tE, snM, mUp, hM', ← e2, cD]) (fun c k h => by obtain ⟨h6, h7, h8, h9⟩ := n6789 h; simp only [snM, mUp, if_neg h6, if_neg h7, if_neg h8, if_neg h9]) c k, rfl⟩)
          · refine V_aln dX5_scan_108 rfl ?_
            refine V_cV0n hM cvX5_95 (by assumption) rfl (e_X5_scanNumber (s := i) (i := i + 1) hW (by simp [mUp, hm]) hm8 (by simp [mUp]) (by simp [mUp]) (by omega) (by omega)) ⟨Nat.le_of_ble_eq_true rfl, Nat.le_of_ble_eq_true rfl, Nat.le_of_ble_eq_true rfl, Nat.le_of_ble_eq_true rfl⟩ (Nat.le_of_ble_eq_true rfl) dX5_scan_109 ?_
            refine V_goto (tgt := 130) dX5_scan_112 rfl ?_
            exact V_vret hM dX5_scan_130 (⟨rfl, rfl, rfl, funext fun c => funext fun k => scn_gen (m := m) (e := e0) (by simp [tK, tE, snM, mUp, hM', ← e2, pL59, pD59, pLn1, pDn1, c76, c91, c105]) (by simp [snM, mUp, ← e2]) (by simp [tE, snM, mUp, hM', ← e2, pL59, pD59, pLn1, pDn1, c76, c91, c105]) (by first | (simp [tN, tE, snM, mUp, hM', ← e2, pL59, pD59, pLn1, pDn1, c76, c91, c105]; done) | simp [tN, tE, snM, mUp, hM', ← e2, cD]) (fun c k h => by obtain ⟨h6, h7, h8, h9⟩ := n6789 h; simp only [snM, mUp, if_neg h6, if_neg h7, if_neg h8, if_neg h9]) c k, rfl⟩)
        · have cD := pL_nD c91
          refine V_aln dX5_scan_94 rfl ?_
          refine V_cV0n hM cvX5_89 (by assumption) rfl (e_X5_scanWord (i := i + 1) hW (by simp [mUp, hm]) hm8 (by simp [mUp]) (by omega)) ⟨Nat.le_of_ble_eq_true rfl, Nat.le_of_ble_eq_true rfl, Nat.le_of_ble_eq_true rfl, Nat.le_of_ble_eq_true rfl⟩ (Nat.le_of_ble_eq_true rfl) dX5_scan_95 ?_
          refine V_goto (tgt := 130) dX5_scan_98 rfl ?_
          exact V_vret hM dX5_scan_130 (⟨rfl, rfl, rfl, funext fun c => funext fun k => scn_gen (m := m) (e := e0) (by simp [tK, tE, snM, mUp, hM', ← e2, pL59, pD59, pLn1, pDn1, c76, c91]) (by simp [snM, mUp, ← e2]) (by simp [tE, snM, mUp, hM', ← e2, pL59, pD59, pLn1, pDn1, c76, c91]) (by first | (simp [tN, tE, snM, mUp, hM', ← e2, pL59, pD59, pLn1, pDn1, c76, c91]; done) | simp [tN, tE, snM, mUp, hM', ← e2, cD]) (fun c k h => by obtain ⟨h6, h7, h8, h9⟩ := n6789 h; simp only [snM, mUp, if_neg h6, if_neg h7, if_neg h8, if_neg h9]) c k, rfl⟩)
      · have c76 : tC (I 3) m e0 = -1 := by first | exact c76 | exact Classical.not_not.mp c76
        refine V_aln dX5_scan_79 rfl ?_
        refine V_iconst (v := 0) rfl dX5_scan_80 ?_
        refine V_putI dX5_scan_81 flX5_38 (by assumption) rfl rfl ?_
        refine V_goto (tgt := 130) dX5_scan_84 rfl ?_
        exact V_vret hM dX5_scan_130 (⟨rfl, rfl, rfl, funext fun c => funext fun k => scn_gen (m := m) (e := e0) (by simp [tK, tE, snM, mUp, hM', ← e2, pL59, pD59, pLn1, pDn1, c76]) (by simp [snM, mUp, ← e2]) (by simp [tE, snM, mUp, hM', ← e2, pL59, pD59, pLn1, pDn1, c76]) (by first | (simp [tN, tE, snM, mUp, hM', ← e2, pL59, pD59, pLn1, pDn1, c76]; done) | simp [tN, tE, snM, mUp, hM', ← e2, cD]) (fun c k h => by obtain ⟨h6, h7, h8, h9⟩ := n6789 h; simp only [snM, mUp, if_neg h6, if_neg h7, if_neg h8, if_neg h9]) c k, rfl⟩)
    refine V_aln dX5_scan_8 rfl ?_
    refine V_getIv dX5_scan_9 flX5_41 (by assumption) rfl (mUp_s) ?_
    refine V_aln dX5_scan_12 rfl ?_
    refine V_getR dX5_scan_13 flX5_12 (by assumption) rfl (by assumption) ?_
    refine V_cV0d hM cvX5_74 (by assumption) rfl (e_X8_size s2) ⟨Nat.le_of_ble_eq_true rfl, Nat.le_of_ble_eq_true rfl, Nat.le_of_ble_eq_true rfl, Nat.le_of_ble_eq_true rfl⟩ (Nat.le_of_ble_eq_true rfl) dX5_scan_16 ?_
    rw [hm']
    refine V_icmp_ge (tgt := 52) dX5_scan_19 rfl (fun c19 => ?_) (fun c19 => ?_)
    · have c19 := nN_le c19 (by omega) (by omega)
      exact tail (by rw [← he, runE_n (by omega)]) --done
    · have c19 := nN_nle c19 (by omega) (by omega)
      refine V_aln dX5_scan_22 rfl ?_
      refine V_getR dX5_scan_23 flX5_12 (by assumption) rfl (by assumption) ?_
      refine V_aln dX5_scan_26 rfl ?_
      refine V_getIv dX5_scan_27 flX5_41 (by assumption) rfl (mUp_s) ?_
      refine V_cV1d hM cvX5_78 (by assumption) rfl (e_X8_byteAt s2 p2_0 s3 (hm' i) hm8 (by omega)) ⟨Nat.le_of_ble_eq_true rfl, Nat.le_of_ble_eq_true rfl, Nat.le_of_ble_eq_true rfl, Nat.le_of_ble_eq_true rfl⟩ (Nat.le_of_ble_eq_true rfl) dX5_scan_30 ?_
      rw [h2', tpB_in c19]
      refine V_cS1d hM cvX5_82 (e_X5_isBlank) ⟨Nat.le_of_ble_eq_true rfl, Nat.le_of_ble_eq_true rfl, Nat.le_of_ble_eq_true rfl, Nat.le_of_ble_eq_true rfl⟩ (Nat.le_of_ble_eq_true rfl) dX5_scan_33 ?_
      refine V_ifeq_b (tgt := 52) dX5_scan_36 rfl (fun c36 => ?_) (fun c36 => ?_)
      · exact tail (by rw [← he, runE_n (by rw [c36]; simp)]) --done
      · refine V_aln dX5_scan_39 rfl ?_
        refine V_dup rfl dX5_scan_40 ?_
        refine V_getIv dX5_scan_41 flX5_41 (by assumption) rfl (mUp_s) ?_
        refine V_iconst (v := 1) rfl dX5_scan_44 ?_
        refine V_iadd dX5_scan_45 ?_
        refine V_top (nI_inc' i) ?_
        refine V_putI dX5_scan_46 flX5_41 (by assumption) rfl rfl ?_
        refine V_goto (tgt := 8) dX5_scan_49 rfl ?_
        refine V_mem mUp_twice (fun _ _ => rfl) ?_
        exact ih (i + 1) (by omega) (by omega) (by rw [← runE_s c19 c36]; exact he)
end RD
