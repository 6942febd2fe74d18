/-! ===== the reference's numbers and words that must be there ===== -/
theorem in64 {v lo hi : Int32} : (decide (lo.toInt64 ≤ v.toInt64) && decide (v.toInt64 ≤ hi.toInt64)) = (decide (lo ≤ v) && decide (v ≤ hi)) := by
  rw [decide_eq_decide.mpr (i64_le lo v), decide_eq_decide.mpr (i64_le v hi)]
theorem nF_in {v lo hi : Int32} : nF 2 v lo hi = if (decide (lo ≤ v) && decide (v ≤ hi)) = true then 0 else 2 := by
  rw [nF, if_pos rfl]
  by_cases h1 : lo ≤ v
  · by_cases h2 : v ≤ hi
    · rw [decide_eq_true h1, decide_eq_true h2, if_neg (by rintro (h | h); exact absurd h (Int32.not_lt.mpr h1); exact absurd h (Int32.not_lt.mpr h2))]; rfl
    · rw [decide_eq_false h2, Bool.and_false, if_pos (Or.inr (Int32.not_le.mp h2))]; rfl
  · rw [decide_eq_false h1, if_pos (Or.inl (Int32.not_le.mp h1))]; rfl
section MN
variable {X : mX} {B nx : Nat} {sh : Nat → Option mSh} {I : mI} {P : mP} {m e : Nat}
theorem e_X12_number {lo hi : Int32} (hV : MW sh P) (hT : MTk I m e) (hf : nF (tK (I 48) m e) (tN (I 48) m e 0) lo hi = 0) : Ev X B mdX12_number 0 0 [.ref (B + 35), .int lo, .int hi] nx sh I P (mDet (some (.int (tN (I 48) m e 0))) nx sh (nxM I m (tE (I 48) m e)) P) := by
  have s35 : sh 35 = some (.inl 12) := hV.1 35 _ rfl
  have hk : tK (I 48) m e = 2 := by
    by_cases h : tK (I 48) m e = 2
    · exact h
    · rw [nF, if_neg h] at hf; cases hf
  have h18 := hT.2.2.2.2.2.2.1
  have h19 := hT.2.2.2.2.2.2.2 hk
  have hv : (decide (lo ≤ tN (I 48) m e 0) && decide (tN (I 48) m e 0 ≤ hi)) = true := by
    rw [hk, nF_in] at hf
    split at hf
    · assumption
    · cases hf
  refine Ev.of (by decide) (by simp [Value.category]) (by simp) (fun G hM => ?_)
  have hM : mM X B "number" (some FieldType.int) 2 42 0 0 _ G := hM
  show V X B RX12 cX12_number G 0 0 nx sh I P 0 [some (.ref (B + 35)), some (.int lo), some (.int hi), none] []
  refine V_aln dX12_number_0 rfl ?_
  refine V_getIv dX12_number_1 flX12_37 (by assumption) rfl (h18) ?_
  refine V_iconst (v := 2) rfl dX12_number_4 ?_
  refine V_icmp_eq (tgt := 14) dX12_number_5 rfl (fun c5 => ?_) (fun c5 => ?_)
  · refine V_aln dX12_number_14 rfl ?_
    refine V_getIv dX12_number_15 flX12_47 (by assumption) rfl (h19) ?_
    refine V_i2l dX12_number_18 ?_
    refine V_iln dX12_number_19 rfl ?_
    refine V_i2l dX12_number_20 ?_
    refine V_iln dX12_number_21 rfl ?_
    refine V_i2l dX12_number_22 ?_
    refine V_cS3d hM cvX12_5 (e_X12_in) ⟨Nat.le_of_ble_eq_true rfl, Nat.le_of_ble_eq_true rfl, Nat.le_of_ble_eq_true rfl, Nat.le_of_ble_eq_true rfl⟩ (Nat.le_of_ble_eq_true rfl) dX12_number_23 ?_
    rw [in64, hv]
    refine V_ifne_b (tgt := 35) dX12_number_26 rfl (fun c26 => ?_) (fun c26 => ?_)
    · refine V_aln dX12_number_35 rfl ?_
      refine V_getIv dX12_number_36 flX12_47 (by assumption) rfl (h19) ?_
      refine V_is3 dX12_number_39 ?_
      refine V_aln dX12_number_40 rfl ?_
      refine V_cV0n hM cvX12_68 (by assumption) rfl (e_X12_next hV hT (by rw [hk]; decide)) ⟨Nat.le_of_ble_eq_true rfl, Nat.le_of_ble_eq_true rfl, Nat.le_of_ble_eq_true rfl, Nat.le_of_ble_eq_true rfl⟩ (Nat.le_of_ble_eq_true rfl) dX12_number_41 ?_
      refine V_iln dX12_number_44 rfl ?_
      exact V_iret hM dX12_number_45 (mDet.rf)
    · exact absurd c26 (by decide) --done
  · exact absurd hk c5 --done
theorem e_X12_numberT {lo hi : Int32} (hV : MW sh P) (hT : MTk I m e) (hf : ¬ nF (tK (I 48) m e) (tN (I 48) m e 0) lo hi = 0) : EvT X B mdX12_number 0 0 [.ref (B + 35), .int lo, .int hi] nx sh I P (mDet (some (.ref (B + 47))) nx sh (wrM I (nF (tK (I 48) m e) (tN (I 48) m e 0) lo hi)) P) := by
  have s35 : sh 35 = some (.inl 12) := hV.1 35 _ rfl
  have h18 := hT.2.2.2.2.2.2.1
  by_cases hk : tK (I 48) m e = 2
  · have h19 := hT.2.2.2.2.2.2.2 hk
    have hv : (decide (lo ≤ tN (I 48) m e 0) && decide (tN (I 48) m e 0 ≤ hi)) = false := by
      rw [hk, nF_in] at hf
      split at hf
      · exact absurd rfl hf
      · rename_i h; simpa using h
    have eF : nF (tK (I 48) m e) (tN (I 48) m e 0) lo hi = 2 := by rw [hk, nF_in, hv]; rfl
    rw [eF]
    refine EvT.of (by decide) (by simp [Value.category]) (by simp) (fun G hM hX => ?_)
    have hM : mM X B "number" (some FieldType.int) 2 42 0 0 noPo G := hM
    show V X B RX12 cX12_number G 0 0 nx sh I P 0 [some (.ref (B + 35)), some (.int lo), some (.int hi), none] []
    refine V_aln dX12_number_0 rfl ?_
    refine V_getIv dX12_number_1 flX12_37 (by assumption) rfl (h18) ?_
    refine V_iconst (v := 2) rfl dX12_number_4 ?_
    refine V_icmp_eq (tgt := 14) dX12_number_5 rfl (fun c5 => ?_) (fun c5 => ?_)
    · refine V_aln dX12_number_14 rfl ?_
      refine V_getIv dX12_number_15 flX12_47 (by assumption) rfl (h19) ?_
      refine V_i2l dX12_number_18 ?_
      refine V_iln dX12_number_19 rfl ?_
      refine V_i2l dX12_number_20 ?_
      refine V_iln dX12_number_21 rfl ?_
      refine V_i2l dX12_number_22 ?_
      refine V_cS3d hM cvX12_5 (e_X12_in) ⟨Nat.le_of_ble_eq_true rfl, Nat.le_of_ble_eq_true rfl, Nat.le_of_ble_eq_true rfl, Nat.le_of_ble_eq_true rfl⟩ (Nat.le_of_ble_eq_true rfl) dX12_number_23 ?_
      rw [in64, hv]
      refine V_ifne_b (tgt := 35) dX12_number_26 rfl (fun c26 => ?_) (fun c26 => ?_)
      · exact absurd c26 (by decide) --done
      · refine V_aln dX12_number_29 rfl ?_
        refine V_iconst (v := 2) rfl dX12_number_30 ?_
        refine V_cV1d hM cvX12_64 (by assumption) rfl (e_X12_wrong hV) ⟨Nat.le_of_ble_eq_true rfl, Nat.le_of_ble_eq_true rfl, Nat.le_of_ble_eq_true rfl, Nat.le_of_ble_eq_true rfl⟩ (Nat.le_of_ble_eq_true rfl) dX12_number_31 ?_
        exact V_athrow hX dX12_number_34 (mDet.rf)
    · exact absurd hk c5 --done
  · have eF : nF (tK (I 48) m e) (tN (I 48) m e 0) lo hi = 1 := by rw [nF, if_neg hk]
    rw [eF]
    refine EvT.of (by decide) (by simp [Value.category]) (by simp) (fun G hM hX => ?_)
    have hM : mM X B "number" (some FieldType.int) 2 42 0 0 noPo G := hM
    show V X B RX12 cX12_number G 0 0 nx sh I P 0 [some (.ref (B + 35)), some (.int lo), some (.int hi), none] []
    refine V_aln dX12_number_0 rfl ?_
    refine V_getIv dX12_number_1 flX12_37 (by assumption) rfl (h18) ?_
    refine V_iconst (v := 2) rfl dX12_number_4 ?_
    refine V_icmp_eq (tgt := 14) dX12_number_5 rfl (fun c5 => ?_) (fun c5 => ?_)
    · exact absurd c5 hk --done
    · refine V_aln dX12_number_8 rfl ?_
      refine V_iconst (v := 1) rfl dX12_number_9 ?_
      refine V_cV1d hM cvX12_64 (by assumption) rfl (e_X12_wrong hV) ⟨Nat.le_of_ble_eq_true rfl, Nat.le_of_ble_eq_true rfl, Nat.le_of_ble_eq_true rfl, Nat.le_of_ble_eq_true rfl⟩ (Nat.le_of_ble_eq_true rfl) dX12_number_10 ?_
      exact V_athrow hX dX12_number_13 (mDet.rf)
theorem e_X12_need {i : Nat} (hV : MW sh P) (hT : MTk I m e) (hi : i < 19) (hw : wAt (I 48) m e i = true) : Ev X B mdX12_need 0 0 [.ref (B + 35), .ref (X.2.2.2.1 (mWi i))] nx sh I P (mDet none nx sh (nxM I m (tE (I 48) m e)) P) := by
  have s35 : sh 35 = some (.inl 12) := hV.1 35 _ rfl
  refine Ev.of (by decide) (by simp [Value.category]) (by simp) (fun G hM => ?_)
  have hM : mM X B "need" none 6 129 0 0 _ G := hM
  show V X B RX12 cX12_need G 0 0 nx sh I P 0 [some (.ref (B + 35)), some (.ref (X.2.2.2.1 (mWi i)))] []
  refine V_aln dX12_need_0 rfl ?_
  refine V_aln dX12_need_1 rfl ?_
  refine V_cV1d hM cvX12_60 (by assumption) rfl (e_X12_is hV hT hi) ⟨Nat.le_of_ble_eq_true rfl, Nat.le_of_ble_eq_true rfl, Nat.le_of_ble_eq_true rfl, Nat.le_of_ble_eq_true rfl⟩ (Nat.le_of_ble_eq_true rfl) dX12_need_2 ?_
  rw [hw]
  refine V_ifne_b (tgt := 14) dX12_need_5 rfl (fun c5 => ?_) (fun c5 => ?_)
  · refine V_aln dX12_need_14 rfl ?_
    refine V_cV0n hM cvX12_68 (by assumption) rfl (e_X12_next hV hT (wAt_k hw)) ⟨Nat.le_of_ble_eq_true rfl, Nat.le_of_ble_eq_true rfl, Nat.le_of_ble_eq_true rfl, Nat.le_of_ble_eq_true rfl⟩ (Nat.le_of_ble_eq_true rfl) dX12_need_15 ?_
    exact V_vret hM dX12_need_18 (mDet.rf)
  · exact absurd c5 (by decide) --done
theorem e_X12_needT {i : Nat} (hV : MW sh P) (hT : MTk I m e) (hi : i < 19) (hw : wAt (I 48) m e i = false) : EvT X B mdX12_need 0 0 [.ref (B + 35), .ref (X.2.2.2.1 (mWi i))] nx sh I P (mDet (some (.ref (B + 47))) nx sh (wrM I 1) P) := by
  have s35 : sh 35 = some (.inl 12) := hV.1 35 _ rfl
  refine EvT.of (by decide) (by simp [Value.category]) (by simp) (fun G hM hX => ?_)
  have hM : mM X B "need" none 6 129 0 0 noPo G := hM
  show V X B RX12 cX12_need G 0 0 nx sh I P 0 [some (.ref (B + 35)), some (.ref (X.2.2.2.1 (mWi i)))] []
  refine V_aln dX12_need_0 rfl ?_
  refine V_aln dX12_need_1 rfl ?_
  refine V_cV1d hM cvX12_60 (by assumption) rfl (e_X12_is hV hT hi) ⟨Nat.le_of_ble_eq_true rfl, Nat.le_of_ble_eq_true rfl, Nat.le_of_ble_eq_true rfl, Nat.le_of_ble_eq_true rfl⟩ (Nat.le_of_ble_eq_true rfl) dX12_need_2 ?_
  rw [hw]
  refine V_ifne_b (tgt := 14) dX12_need_5 rfl (fun c5 => ?_) (fun c5 => ?_)
  · exact absurd c5 (by decide) --done
  · refine V_aln dX12_need_8 rfl ?_
    refine V_iconst (v := 1) rfl dX12_need_9 ?_
    refine V_cV1d hM cvX12_64 (by assumption) rfl (e_X12_wrong hV) ⟨Nat.le_of_ble_eq_true rfl, Nat.le_of_ble_eq_true rfl, Nat.le_of_ble_eq_true rfl, Nat.le_of_ble_eq_true rfl⟩ (Nat.le_of_ble_eq_true rfl) dX12_need_10 ?_
    exact V_athrow hX dX12_need_13 (mDet.rf)
end MN
