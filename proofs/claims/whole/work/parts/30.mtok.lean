/-! ===== the reference's tokens: words, numbers ===== -/
/-- a token at hand: that from e on -/
def MTk (I : mI) (m e : Nat) : Prop := I 35 15 = nI m ∧ m ≤ 800 ∧ e ≤ m ∧ (∀ k, isByte (I 48 k)) ∧ I 35 16 = nI (tS (I 48) m e) ∧ I 35 17 = nI (mE (I 48) m e) ∧ I 35 18 = tK (I 48) m e ∧ (tK (I 48) m e = 2 → I 35 19 = tN (I 48) m e 0)
/-- the next token -/
def nxM (I : mI) (m e : Nat) : mI := mc4 I (nI (tS (I 48) m e)) (nI (mE (I 48) m e)) (tK (I 48) m e) (tV (I 48) m e (I 35 19))
theorem tV_tN {f : Nat → Int32} {m e : Nat} {x : Int32} (h : tK f m e = 2) : tV f m e x = tN f m e 0 := by
  have h0 : ¬ tK f m e = 0 := by rw [h]; decide
  have hD := tK2_D h
  have hle : tE f m e - tS f m e ≤ 4 := by
    unfold tK at h
    split at h
    · cases h
    · split at h
      · cases h
      · split at h
        · assumption
        · cases h
  rw [tV, if_neg h0, if_pos hD, tN, if_pos hD, if_pos hle, Nat.min_eq_right hle]
theorem mE_b {f : Nat → Int32} {m e : Nat} (h : e ≤ m) : tS f m e ≤ mE f m e ∧ mE f m e ≤ m := by
  have h1 := tS_b (f := f) h
  unfold mE
  split
  · omega
  · rename_i hk
    have := tE_b (f := f) h hk
    omega
theorem nxM_48 {I : mI} {m e : Nat} : nxM I m e 48 = I 48 := funext fun k => mc4_c (by decide)
theorem nxM_ok {I : mI} {m e : Nat} (hm : I 35 15 = nI m) (hm8 : m ≤ 800) (he : e ≤ m) (hby : ∀ k, isByte (I 48 k)) : MTk (nxM I m e) m e := by
  unfold MTk
  rw [nxM_48]
  exact ⟨by rw [nxM, mc4_k (by omega)]; exact hm, hm8, he, hby, rfl, rfl, rfl, fun h => tV_tN h⟩
theorem chF_byte : ∀ i, i < 38 → ∀ j, j < mLe.getD i 0 → ∃ n, n < 128 ∧ chF i j = nI n := by
  have h : ((List.range 38).all fun i => (List.range (mLe.getD i 0)).all fun j => decide ((chF i j).toNatClampNeg < 128) && decide (chF i j = nI (chF i j).toNatClampNeg)) = true := by decide +kernel
  intro i hi j hj
  have h1 := List.all_eq_true.mp h i (List.mem_range.mpr hi)
  have h2 := List.all_eq_true.mp h1 j (List.mem_range.mpr hj)
  rw [Bool.and_eq_true, decide_eq_true_eq, decide_eq_true_eq] at h2
  exact ⟨_, h2.1, h2.2⟩
/-- where the reference keeps the class's text i -/
def mWi (i : Nat) : Nat := if i < 8 then i + 19 else if i < 11 then i + 27 else i + 16
theorem mWi_lt {i : Nat} (h : i < 19) : mWi i < 38 := by unfold mWi; split <;> (try split) <;> omega
theorem txt_same : ∀ i, i < 19 → mLe.getD (mWi i) 0 = mLe.getD i 0 ∧ ∀ j, j < mLe.getD i 0 → chF (mWi i) j = chF i j := by
  have h : ((List.range 19).all fun i => decide (mLe.getD (mWi i) 0 = mLe.getD i 0) && (List.range (mLe.getD i 0)).all fun j => decide (chF (mWi i) j = chF i j)) = true := by decide +kernel
  intro i hi
  have h1 := List.all_eq_true.mp h i (List.mem_range.mpr hi)
  rw [Bool.and_eq_true, decide_eq_true_eq] at h1
  exact ⟨h1.1, fun j hj => decide_eq_true_eq.mp (List.all_eq_true.mp h1.2 j (List.mem_range.mpr hj))⟩
theorem wAt_raw {f : Nat → Int32} {m e i : Nat} (hi : i < 19) (he : e ≤ m) (hm : m ≤ 800) (hby : ∀ k, isByte (f k)) (hk : tK f m e = 1) (hl : nI (mE f m e) - nI (tS f m e) = nI (mLe.getD (mWi i) 0)) : wAt f m e i = !anyR (fun j => !decide (f (tS f m e + j) = chF (mWi i) j)) (mLe.getD (mWi i) 0) := by
  have h0 : ¬ tK f m e = 0 := by rw [hk]; decide
  have eE : mE f m e = tE f m e := by rw [mE, if_neg h0]
  have hb := tE_b (f := f) he h0
  have hL := mLe_lt (mWi i) (mWi_lt hi)
  rw [eE] at hl
  have hn : tE f m e - tS f m e = mLe.getD (mWi i) 0 := nI_eqN (by omega) (by omega) ((pk_sub (by omega)).symm.trans hl)
  obtain ⟨t1, t2⟩ := txt_same i hi
  unfold wAt
  rw [hk, hl, ← t1, decide_eq_true rfl, decide_eq_true rfl, Bool.true_and, Bool.true_and]
  congr 1
  have hx : ∀ j, j < mLe.getD (mWi i) 0 → (!decide (tpB f m (tS f m e + j) = chF i j)) = !decide (f (tS f m e + j) = chF (mWi i) j) := by
    intro j hj
    rw [tpB_in (by omega), t2 j (by rw [← t1]; exact hj)]
    obtain ⟨n, n1, n2⟩ := chF_byte i (by omega) j (by rw [← t1]; exact hj)
    rw [n2]
    congr 1
    rw [decide_eq_decide]
    exact byte_eq (hby _) n1
  rw [Bool.eq_iff_iff, anyR_iff, anyR_iff]
  constructor
  · rintro ⟨j, a, b⟩
    exact ⟨j, a, by rw [← hx j a]; exact b⟩
  · rintro ⟨j, a, b⟩
    exact ⟨j, a, by rw [hx j a]; exact b⟩
theorem wAt_no {f : Nat → Int32} {m e i : Nat} (hi : i < 19) (h : ¬ (tK f m e = 1 ∧ nI (mE f m e) - nI (tS f m e) = nI (mLe.getD (mWi i) 0))) : wAt f m e i = false := by
  unfold wAt
  by_cases hk : tK f m e = 1
  · have h0 : ¬ tK f m e = 0 := by rw [hk]; decide
    have eE : mE f m e = tE f m e := by rw [mE, if_neg h0]
    rw [eE, (txt_same i hi).1] at h
    rw [decide_eq_false (fun h2 => h ⟨hk, h2⟩), Bool.and_false, Bool.false_and]
  · rw [decide_eq_false hk, Bool.false_and, Bool.false_and]
section MK
variable {X : mX} {B nx : Nat} {sh : Nat → Option mSh} {I : mI} {P : mP} {m e : Nat}
theorem x_X12_is {G : mG} {i j : Nat} (hi : i < mNT) (hM : mM X B "is" (some .boolean) 5 106 0 0 (mDet (some (.int 0)) nx sh I P) G) : V X B RX12 cX12_is G 0 0 nx sh I P 32 [some (.ref (B + 35)), some (.ref (X.2.2.2.1 i)), some (.int 0), some (.int (nI j))] [] := by
  refine V_iln dX12_is_32 rfl ?_
  refine V_aln dX12_is_33 rfl ?_
  refine V_callT hi hM cvX12_50 rfl (e_J0_length hi) rfl ⟨Nat.le_of_ble_eq_true rfl, Nat.le_of_ble_eq_true rfl, Nat.le_of_ble_eq_true rfl, Nat.le_of_ble_eq_true rfl⟩ (Nat.le_of_ble_eq_true rfl) dX12_is_34 rfl ?_
  refine V_icmp_ge (tgt := 75) dX12_is_37 rfl (fun c37 => ?_) (fun c37 => ?_)
  · refine V_iln dX12_is_75 rfl ?_
    exact V_zret hM (by first | exact Or.inl rfl | exact Or.inr rfl | exact bI_01 _) dX12_is_76 (mDet.rf)
  · refine V_iln dX12_is_40 rfl ?_
    refine V_if_eq (tgt := 75) dX12_is_41 rfl (fun c41 => ?_) (fun c41 => ?_)
    · refine V_iln dX12_is_75 rfl ?_
      exact V_zret hM (by first | exact Or.inl rfl | exact Or.inr rfl | exact bI_01 _) dX12_is_76 (mDet.rf)
    · exact absurd rfl c41 --done
theorem l_X12_is {G : mG} {i : Nat} (hV : MW sh P) (hT : MTk I m e) (hi : i < 19) (hk : tK (I 48) m e = 1) (hl : nI (mE (I 48) m e) - nI (tS (I 48) m e) = nI (mLe.getD (mWi i) 0)) (hM : mM X B "is" (some .boolean) 5 106 0 0 (mDet (some (.int (bI (wAt (I 48) m e i)))) nx sh I P) G) : ∀ (z j : Nat), j ≤ mLe.getD (mWi i) 0 → mLe.getD (mWi i) 0 - j < z → (∀ k, k < j → (fun j => !decide (I 48 (tS (I 48) m e + j) = chF (mWi i) j)) k = false) → V X B RX12 cX12_is G 0 0 nx sh I P 32 [some (.ref (B + 35)), some (.ref (X.2.2.2.1 (mWi i))), some (.int 1), some (.int (nI j))] [] := by
  have s35 : sh 35 = some (.inl 12) := hV.1 35 _ rfl
  have s_tape : sh 48 = some (.inr (1, 800)) := hV.1 48 _ rfl
  have p_tape : P 35 13 = some 48 := hV.2 13 48 rfl
  obtain ⟨hm, hm8, he, hby, h16, h17, h18, -⟩ := hT
  have hi2 : mWi i < mNT := mWi_lt hi
  have hL := mLe_lt (mWi i) hi2
  have h0 : ¬ tK (I 48) m e = 0 := by rw [hk]; decide
  have eE : mE (I 48) m e = tE (I 48) m e := by rw [mE, if_neg h0]
  have hb := tE_b (f := I 48) he h0
  have hn : tE (I 48) m e - tS (I 48) m e = mLe.getD (mWi i) 0 := nI_eqN (by omega) (by omega) ((pk_sub (by omega)).symm.trans (by rw [← eE]; exact hl))
  intro z
  induction z with
  | zero => intro i _ h; omega
  | succ z ih =>
    intro j hj hz hin
    refine V_iln dX12_is_32 rfl ?_
    refine V_aln dX12_is_33 rfl ?_
    refine V_callT hi2 hM cvX12_50 rfl (e_J0_length hi2) rfl ⟨Nat.le_of_ble_eq_true rfl, Nat.le_of_ble_eq_true rfl, Nat.le_of_ble_eq_true rfl, Nat.le_of_ble_eq_true rfl⟩ (Nat.le_of_ble_eq_true rfl) dX12_is_34 rfl ?_
    refine V_icmp_ge (tgt := 75) dX12_is_37 rfl (fun c37 => ?_) (fun c37 => ?_)
    · have c37 := nN_le c37 (by omega) (by omega)
      obtain rfl : j = mLe.getD (mWi i) 0 := by omega
      refine V_iln dX12_is_75 rfl ?_
      exact V_zret hM (by first | exact Or.inl rfl | exact Or.inr rfl | exact bI_01 _) dX12_is_76 (⟨by rw [wAt_raw hi he hm8 hby hk hl, anyR_f hin]; rfl, rfl, rfl, rfl, rfl⟩)
    · have c37 := nN_nle c37 (by omega) (by omega)
      refine V_iln dX12_is_40 rfl ?_
      refine V_if_eq (tgt := 75) dX12_is_41 rfl (fun c41 => ?_) (fun c41 => ?_)
      · exact absurd c41 (by decide) --done
      · refine V_aln dX12_is_44 rfl ?_
        refine V_getR dX12_is_45 flX12_26 (by assumption) rfl (by assumption) ?_
        refine V_aln dX12_is_48 rfl ?_
        refine V_getIv dX12_is_49 flX12_13 (by assumption) rfl (h16) ?_
        refine V_iln dX12_is_52 rfl ?_
        refine V_iadd dX12_is_53 ?_
        refine V_top (nI_add _ j) ?_
        refine V_baldN dX12_is_54 (by assumption) (by omega) (by omega) ?_
        refine V_aln dX12_is_55 rfl ?_
        refine V_iln dX12_is_56 rfl ?_
        refine V_callT hi2 hM cvX12_56 rfl (e_J0_charAt hi2 c37) rfl ⟨Nat.le_of_ble_eq_true rfl, Nat.le_of_ble_eq_true rfl, Nat.le_of_ble_eq_true rfl, Nat.le_of_ble_eq_true rfl⟩ (Nat.le_of_ble_eq_true rfl) dX12_is_57 rfl ?_
        refine V_icmp_ne (tgt := 67) dX12_is_60 rfl (fun c60 => ?_) (fun c60 => ?_)
        · refine V_iconst (v := 0) rfl dX12_is_67 ?_
          refine V_is2 dX12_is_68 ?_
          refine V_inc3 dX12_is_69 ?_
          refine V_goto (tgt := 32) dX12_is_72 rfl ?_
          rw [nI_inc]
          first | exact ih (j + 1) (by omega) (by omega) (lt_s' hin (by simp [c60])) | exact x_X12_is hi2 (by have hM2 := hM; rw [wAt_raw hi he hm8 hby hk hl, anyR_t c37 (by simp [c60])] at hM2; exact hM2)
        · have c60 : I 48 (tS (I 48) m e + j) = chF (mWi i) j := by first | exact c60 | exact Classical.not_not.mp c60
          refine V_iconst (v := 1) rfl dX12_is_63 ?_
          refine V_goto (tgt := 68) dX12_is_64 rfl ?_
          refine V_is2 dX12_is_68 ?_
          refine V_inc3 dX12_is_69 ?_
          refine V_goto (tgt := 32) dX12_is_72 rfl ?_
          rw [nI_inc]
          first | exact ih (j + 1) (by omega) (by omega) (lt_s' hin (by simp [c60])) | exact x_X12_is hi2 (by have hM2 := hM; rw [wAt_raw hi he hm8 hby hk hl, anyR_t c37 (by simp [c60])] at hM2; exact hM2)
theorem e_X12_is {i : Nat} (hV : MW sh P) (hT : MTk I m e) (hi : i < 19) : Ev X B mdX12_is 0 0 [.ref (B + 35), .ref (X.2.2.2.1 (mWi i))] nx sh I P (mDet (some (.int (bI (wAt (I 48) m e i)))) nx sh I P) := by
  have s35 : sh 35 = some (.inl 12) := hV.1 35 _ rfl
  have s_tape : sh 48 = some (.inr (1, 800)) := hV.1 48 _ rfl
  have p_tape : P 35 13 = some 48 := hV.2 13 48 rfl
  have hT0 := hT
  obtain ⟨hm, hm8, he, hby, h16, h17, h18, -⟩ := hT
  have hi2 : mWi i < mNT := mWi_lt hi
  refine Ev.of (by decide) (by simp [Value.category]) (by simp) (fun G hM => ?_)
  have hM : mM X B "is" (some FieldType.boolean) 5 106 0 0 _ G := hM
  show V X B RX12 cX12_is G 0 0 nx sh I P 0 [some (.ref (B + 35)), some (.ref (X.2.2.2.1 (mWi i))), none, none] []
  have no : ¬ (tK (I 48) m e = 1 ∧ nI (mE (I 48) m e) - nI (tS (I 48) m e) = nI (mLe.getD (mWi i) 0)) → V X B RX12 cX12_is G 0 0 nx sh I P 32 [some (.ref (B + 35)), some (.ref (X.2.2.2.1 (mWi i))), some (.int 0), some (.int (nI 0))] [] := fun h => x_X12_is hi2 (by rw [wAt_no hi h] at hM; exact hM)
  refine V_aln dX12_is_0 rfl ?_
  refine V_getIv dX12_is_1 flX12_37 (by assumption) rfl (h18) ?_
  refine V_iconst (v := 1) rfl dX12_is_4 ?_
  refine V_icmp_ne (tgt := 28) dX12_is_5 rfl (fun c5 => ?_) (fun c5 => ?_)
  · refine V_iconst (v := 0) rfl dX12_is_28 ?_
    refine V_is2 dX12_is_29 ?_
    refine V_iconst (v := 0) rfl dX12_is_30 ?_
    refine V_is3 dX12_is_31 ?_
    first | exact l_X12_is hV hT0 hi c5 c21 hM (mLe.getD (mWi i) 0 + 1) 0 (by omega) (by omega) (fun k h => by omega) | exact no (fun h => c21 h.2) | exact no (fun h => c5 h.1)
  · have c5 : tK (I 48) m e = 1 := by first | exact c5 | exact Classical.not_not.mp c5
    refine V_aln dX12_is_8 rfl ?_
    refine V_getIv dX12_is_9 flX12_30 (by assumption) rfl (h17) ?_
    refine V_aln dX12_is_12 rfl ?_
    refine V_getIv dX12_is_13 flX12_13 (by assumption) rfl (h16) ?_
    refine V_isub dX12_is_16 ?_
    refine V_aln dX12_is_17 rfl ?_
    refine V_callT hi2 hM cvX12_50 rfl (e_J0_length hi2) rfl ⟨Nat.le_of_ble_eq_true rfl, Nat.le_of_ble_eq_true rfl, Nat.le_of_ble_eq_true rfl, Nat.le_of_ble_eq_true rfl⟩ (Nat.le_of_ble_eq_true rfl) dX12_is_18 rfl ?_
    refine V_icmp_ne (tgt := 28) dX12_is_21 rfl (fun c21 => ?_) (fun c21 => ?_)
    · refine V_iconst (v := 0) rfl dX12_is_28 ?_
      refine V_is2 dX12_is_29 ?_
      refine V_iconst (v := 0) rfl dX12_is_30 ?_
      refine V_is3 dX12_is_31 ?_
      first | exact l_X12_is hV hT0 hi c5 c21 hM (mLe.getD (mWi i) 0 + 1) 0 (by omega) (by omega) (fun k h => by omega) | exact no (fun h => c21 h.2) | exact no (fun h => c5 h.1)
    · have c21 : nI (mE (I 48) m e) - nI (tS (I 48) m e) = nI (mLe.getD (mWi i) 0) := by first | exact c21 | exact Classical.not_not.mp c21
      refine V_iconst (v := 1) rfl dX12_is_24 ?_
      refine V_goto (tgt := 29) dX12_is_25 rfl ?_
      refine V_is2 dX12_is_29 ?_
      refine V_iconst (v := 0) rfl dX12_is_30 ?_
      refine V_is3 dX12_is_31 ?_
      first | exact l_X12_is hV hT0 hi c5 c21 hM (mLe.getD (mWi i) 0 + 1) 0 (by omega) (by omega) (fun k h => by omega) | exact no (fun h => c21 h.2) | exact no (fun h => c5 h.1)
/-- the token behind this one -/
theorem e_X12_next (hV : MW sh P) (hT : MTk I m e) (hk : ¬ tK (I 48) m e = 0) : Ev X B mdX12_scan 0 0 [.ref (B + 35)] nx sh I P (mDet none nx sh (nxM I m (tE (I 48) m e)) P) := by
  obtain ⟨hm, hm8, he, hby, h16, h17, h18, -⟩ := hT
  have hb := tE_b (f := I 48) he hk
  exact e_X12_scan hV hm hm8 hby hb.2.1 (by rw [h17, mE, if_neg hk])
theorem MTk.next (hT : MTk I m e) (hk : ¬ tK (I 48) m e = 0) : MTk (nxM I m (tE (I 48) m e)) m (tE (I 48) m e) := nxM_ok hT.1 hT.2.1 (tE_b (f := I 48) hT.2.2.1 hk).2.1 hT.2.2.2.1
theorem wAt_k {f : Nat → Int32} {i : Nat} (h : wAt f m e i = true) : ¬ tK f m e = 0 := by
  intro h0
  rw [wAt, h0] at h
  cases h
theorem e_X12_kindAtHand (hV : MW sh P) (hT : MTk I m e) : Ev X B mdX12_kindAtHand 0 0 [.ref (B + 35)] nx sh I P (mDet (some (.int (rkF (wAt (I 48) m e)))) nx sh I P) := by
  have s35 : sh 35 = some (.inl 12) := hV.1 35 _ rfl
  refine Ev.of (by decide) (by simp [Value.category]) (by simp) (fun G hM => ?_)
  have hM : mM X B "kindAtHand" (some FieldType.int) 6 129 0 0 _ G := hM
  show V X B RX12 cX12_kindAtHand G 0 0 nx sh I P 0 [some (.ref (B + 35))] []
  refine V_aln dX12_kindAtHand_0 rfl ?_
  refine V_ldcS (i := 19) rfl dX12_kindAtHand_1 ?_
  refine V_cV1d hM cvX12_60 (by assumption) rfl (e_X12_is (i := 0) hV hT (by decide)) ⟨Nat.le_of_ble_eq_true rfl, Nat.le_of_ble_eq_true rfl, Nat.le_of_ble_eq_true rfl, Nat.le_of_ble_eq_true rfl⟩ (Nat.le_of_ble_eq_true rfl) dX12_kindAtHand_3 ?_
  refine V_ifeq_b (tgt := 11) dX12_kindAtHand_6 rfl (fun c6 => ?_) (fun c6 => ?_)
  · refine V_aln dX12_kindAtHand_11 rfl ?_
    refine V_ldcS (i := 20) rfl dX12_kindAtHand_12 ?_
    refine V_cV1d hM cvX12_60 (by assumption) rfl (e_X12_is (i := 1) hV hT (by decide)) ⟨Nat.le_of_ble_eq_true rfl, Nat.le_of_ble_eq_true rfl, Nat.le_of_ble_eq_true rfl, Nat.le_of_ble_eq_true rfl⟩ (Nat.le_of_ble_eq_true rfl) dX12_kindAtHand_14 ?_
    refine V_ifeq_b (tgt := 22) dX12_kindAtHand_17 rfl (fun c17 => ?_) (fun c17 => ?_)
    · refine V_aln dX12_kindAtHand_22 rfl ?_
      refine V_ldcS (i := 21) rfl dX12_kindAtHand_23 ?_
      refine V_cV1d hM cvX12_60 (by assumption) rfl (e_X12_is (i := 2) hV hT (by decide)) ⟨Nat.le_of_ble_eq_true rfl, Nat.le_of_ble_eq_true rfl, Nat.le_of_ble_eq_true rfl, Nat.le_of_ble_eq_true rfl⟩ (Nat.le_of_ble_eq_true rfl) dX12_kindAtHand_25 ?_
      refine V_ifeq_b (tgt := 33) dX12_kindAtHand_28 rfl (fun c28 => ?_) (fun c28 => ?_)
      · refine V_aln dX12_kindAtHand_33 rfl ?_
        refine V_ldcS (i := 22) rfl dX12_kindAtHand_34 ?_
        refine V_cV1d hM cvX12_60 (by assumption) rfl (e_X12_is (i := 3) hV hT (by decide)) ⟨Nat.le_of_ble_eq_true rfl, Nat.le_of_ble_eq_true rfl, Nat.le_of_ble_eq_true rfl, Nat.le_of_ble_eq_true rfl⟩ (Nat.le_of_ble_eq_true rfl) dX12_kindAtHand_36 ?_
        refine V_ifeq_b (tgt := 44) dX12_kindAtHand_39 rfl (fun c39 => ?_) (fun c39 => ?_)
        · refine V_aln dX12_kindAtHand_44 rfl ?_
          refine V_ldcS (i := 23) rfl dX12_kindAtHand_45 ?_
          refine V_cV1d hM cvX12_60 (by assumption) rfl (e_X12_is (i := 4) hV hT (by decide)) ⟨Nat.le_of_ble_eq_true rfl, Nat.le_of_ble_eq_true rfl, Nat.le_of_ble_eq_true rfl, Nat.le_of_ble_eq_true rfl⟩ (Nat.le_of_ble_eq_true rfl) dX12_kindAtHand_47 ?_
          refine V_ifeq_b (tgt := 55) dX12_kindAtHand_50 rfl (fun c50 => ?_) (fun c50 => ?_)
          · refine V_aln dX12_kindAtHand_55 rfl ?_
            refine V_ldcS (i := 24) rfl dX12_kindAtHand_56 ?_
            refine V_cV1d hM cvX12_60 (by assumption) rfl (e_X12_is (i := 5) hV hT (by decide)) ⟨Nat.le_of_ble_eq_true rfl, Nat.le_of_ble_eq_true rfl, Nat.le_of_ble_eq_true rfl, Nat.le_of_ble_eq_true rfl⟩ (Nat.le_of_ble_eq_true rfl) dX12_kindAtHand_58 ?_
            refine V_ifeq_b (tgt := 66) dX12_kindAtHand_61 rfl (fun c61 => ?_) (fun c61 => ?_)
            · refine V_aln dX12_kindAtHand_66 rfl ?_
              refine V_ldcS (i := 25) rfl dX12_kindAtHand_67 ?_
              refine V_cV1d hM cvX12_60 (by assumption) rfl (e_X12_is (i := 6) hV hT (by decide)) ⟨Nat.le_of_ble_eq_true rfl, Nat.le_of_ble_eq_true rfl, Nat.le_of_ble_eq_true rfl, Nat.le_of_ble_eq_true rfl⟩ (Nat.le_of_ble_eq_true rfl) dX12_kindAtHand_69 ?_
              refine V_ifeq_b (tgt := 78) dX12_kindAtHand_72 rfl (fun c72 => ?_) (fun c72 => ?_)
              · refine V_aln dX12_kindAtHand_78 rfl ?_
                refine V_ldcS (i := 26) rfl dX12_kindAtHand_79 ?_
                refine V_cV1d hM cvX12_60 (by assumption) rfl (e_X12_is (i := 7) hV hT (by decide)) ⟨Nat.le_of_ble_eq_true rfl, Nat.le_of_ble_eq_true rfl, Nat.le_of_ble_eq_true rfl, Nat.le_of_ble_eq_true rfl⟩ (Nat.le_of_ble_eq_true rfl) dX12_kindAtHand_81 ?_
                refine V_ifeq_b (tgt := 92) dX12_kindAtHand_84 rfl (fun c84 => ?_) (fun c84 => ?_)
                · refine V_iconst (v := -1) rfl dX12_kindAtHand_92 ?_
                  exact V_iret hM dX12_kindAtHand_93 (⟨by simp [rkF, c6, c17, c28, c39, c50, c61, c72, c84], rfl, rfl, rfl, rfl⟩)
                · refine V_bipush (v := 7) rfl dX12_kindAtHand_87 ?_
                  refine V_goto (tgt := 93) dX12_kindAtHand_89 rfl ?_
                  exact V_iret hM dX12_kindAtHand_93 (⟨by simp [rkF, c6, c17, c28, c39, c50, c61, c72, c84], rfl, rfl, rfl, rfl⟩)
              · refine V_bipush (v := 6) rfl dX12_kindAtHand_75 ?_
                exact V_iret hM dX12_kindAtHand_77 (⟨by simp [rkF, c6, c17, c28, c39, c50, c61, c72], rfl, rfl, rfl, rfl⟩)
            · refine V_iconst (v := 5) rfl dX12_kindAtHand_64 ?_
              exact V_iret hM dX12_kindAtHand_65 (⟨by simp [rkF, c6, c17, c28, c39, c50, c61], rfl, rfl, rfl, rfl⟩)
          · refine V_iconst (v := 4) rfl dX12_kindAtHand_53 ?_
            exact V_iret hM dX12_kindAtHand_54 (⟨by simp [rkF, c6, c17, c28, c39, c50], rfl, rfl, rfl, rfl⟩)
        · refine V_iconst (v := 3) rfl dX12_kindAtHand_42 ?_
          exact V_iret hM dX12_kindAtHand_43 (⟨by simp [rkF, c6, c17, c28, c39], rfl, rfl, rfl, rfl⟩)
      · refine V_iconst (v := 2) rfl dX12_kindAtHand_31 ?_
        exact V_iret hM dX12_kindAtHand_32 (⟨by simp [rkF, c6, c17, c28], rfl, rfl, rfl, rfl⟩)
    · refine V_iconst (v := 1) rfl dX12_kindAtHand_20 ?_
      exact V_iret hM dX12_kindAtHand_21 (⟨by simp [rkF, c6, c17], rfl, rfl, rfl, rfl⟩)
  · refine V_iconst (v := 0) rfl dX12_kindAtHand_9 ?_
    exact V_iret hM dX12_kindAtHand_10 (⟨by simp [rkF, c6], rfl, rfl, rfl, rfl⟩)
end MK
