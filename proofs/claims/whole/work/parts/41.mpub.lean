/-! ===== the reference's plain calls ===== -/
section MP
variable {X : mX} {B nx : Nat} {sh : Nat → Option mSh} {I : mI} {P : mP}
def mFltF (I : mI) (w : Int32) : Int32 := if w = 0 then I 35 20 else if w = 1 then I 35 21 else -1
theorem e_X12_fault {w : Int32} (hV : MW sh P) : Ev X B mdX12_fault 0 0 [.ref (B + 35), .int w] nx sh I P (mDet (some (.int (mFltF I w))) nx sh I P) := by
  have s35 : sh 35 = some (.inl 12) := hV.1 35 _ rfl
  refine Ev.of (by decide) (by simp [Value.category]) (by simp) (fun G hM => ?_)
  have hM : mM X B "fault" (some FieldType.int) 0 0 0 0 _ G := hM
  show V X B RX12 cX12_fault G 0 0 nx sh I P 0 [some (.ref (B + 35)), some (.int w)] []
  refine V_iln dX12_fault_0 rfl ?_
  refine V_if_ne (tgt := 11) dX12_fault_1 rfl (fun c1 => ?_) (fun c1 => ?_)
  · refine V_iln dX12_fault_11 rfl ?_
    refine V_iconst (v := 1) rfl dX12_fault_12 ?_
    refine V_icmp_ne (tgt := 23) dX12_fault_13 rfl (fun c13 => ?_) (fun c13 => ?_)
    · refine V_iconst (v := -1) rfl dX12_fault_23 ?_
      exact V_iret hM dX12_fault_24 (⟨by simp [mFltF, c1, c13], rfl, rfl, rfl, rfl⟩)
    · refine V_aln dX12_fault_16 rfl ?_
      refine V_getI dX12_fault_17 flX12_16 (by assumption) rfl ?_
      refine V_goto (tgt := 24) dX12_fault_20 rfl ?_
      exact V_iret hM dX12_fault_24 (⟨by simp [mFltF, c1, c13], rfl, rfl, rfl, rfl⟩)
  · refine V_aln dX12_fault_4 rfl ?_
    refine V_getI dX12_fault_5 flX12_9 (by assumption) rfl ?_
    refine V_goto (tgt := 24) dX12_fault_8 rfl ?_
    exact V_iret hM dX12_fault_24 (⟨by simp [mFltF, c1], rfl, rfl, rfl, rfl⟩)
theorem e_X12_end {n : Nat} {w : Int32} (hV : MW sh P) (hn : I 35 14 = nI n) (hn2 : n ≤ 800) (hw : inB w (n + 1) = true) : Ev X B mdX12_end 0 0 [.ref (B + 35), .int w] nx sh I P (mDet (some (.int w)) nx sh (mUp I 35 14 w) P) := by
  have s35 : sh 35 = some (.inl 12) := hV.1 35 _ rfl
  have hj : ((nI n).toInt64).toInt = ((n + 1 : Nat) : Int) - 1 := by rw [Int32.toInt_toInt64, nI_toInt (by omega)]; omega
  refine Ev.of (by decide) (by simp [Value.category]) (by simp) (fun G hM => ?_)
  have hM : mM X B "end" (some FieldType.int) 1 25 0 0 _ G := hM
  show V X B RX12 cX12_end G 0 0 nx sh I P 0 [some (.ref (B + 35)), some (.int w)] []
  refine V_iln dX12_end_0 rfl ?_
  refine V_i2l dX12_end_1 ?_
  refine V_lconst (v := 0) rfl dX12_end_2 ?_
  refine V_aln dX12_end_3 rfl ?_
  refine V_getIv dX12_end_4 flX12_253 (by assumption) rfl (hn) ?_
  refine V_i2l dX12_end_7 ?_
  refine V_cS3d hM cvX12_5 (e_X12_in) ⟨Nat.le_of_ble_eq_true rfl, Nat.le_of_ble_eq_true rfl, Nat.le_of_ble_eq_true rfl, Nat.le_of_ble_eq_true rfl⟩ (Nat.le_of_ble_eq_true rfl) dX12_end_8 ?_
  rw [inJ hj, hw]
  refine V_ifne_b (tgt := 16) dX12_end_11 rfl (fun c11 => ?_) (fun c11 => ?_)
  · refine V_aln dX12_end_16 rfl ?_
    refine V_iln dX12_end_17 rfl ?_
    refine V_putI dX12_end_18 flX12_253 (by assumption) rfl rfl ?_
    refine V_iln dX12_end_21 rfl ?_
    exact V_iret hM dX12_end_22 (mDet.rf)
  · exact absurd c11 (by decide) --done
theorem e_X12_endN {n : Nat} {w : Int32} (hV : MW sh P) (hn : I 35 14 = nI n) (hn2 : n ≤ 800) (hw : inB w (n + 1) = false) : Ev X B mdX12_end 0 0 [.ref (B + 35), .int w] nx sh I P (mDet (some (.int (-1))) nx sh I P) := by
  have s35 : sh 35 = some (.inl 12) := hV.1 35 _ rfl
  have hj : ((nI n).toInt64).toInt = ((n + 1 : Nat) : Int) - 1 := by rw [Int32.toInt_toInt64, nI_toInt (by omega)]; omega
  refine Ev.of (by decide) (by simp [Value.category]) (by simp) (fun G hM => ?_)
  have hM : mM X B "end" (some FieldType.int) 1 25 0 0 _ G := hM
  show V X B RX12 cX12_end G 0 0 nx sh I P 0 [some (.ref (B + 35)), some (.int w)] []
  refine V_iln dX12_end_0 rfl ?_
  refine V_i2l dX12_end_1 ?_
  refine V_lconst (v := 0) rfl dX12_end_2 ?_
  refine V_aln dX12_end_3 rfl ?_
  refine V_getIv dX12_end_4 flX12_253 (by assumption) rfl (hn) ?_
  refine V_i2l dX12_end_7 ?_
  refine V_cS3d hM cvX12_5 (e_X12_in) ⟨Nat.le_of_ble_eq_true rfl, Nat.le_of_ble_eq_true rfl, Nat.le_of_ble_eq_true rfl, Nat.le_of_ble_eq_true rfl⟩ (Nat.le_of_ble_eq_true rfl) dX12_end_8 ?_
  rw [inJ hj, hw]
  refine V_ifne_b (tgt := 16) dX12_end_11 rfl (fun c11 => ?_) (fun c11 => ?_)
  · exact absurd c11 (by decide) --done
  · refine V_iconst (v := -1) rfl dX12_end_14 ?_
    exact V_iret hM dX12_end_15 (mDet.rf)
end MP
