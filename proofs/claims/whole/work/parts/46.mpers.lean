/-! ===== the reference's person, about ===== -/
section MX3
variable {X : mX} {B nx : Nat} {sh : Nat → Option mSh} {I : mI} {P : mP}
def mPrsF (I : mI) (j : Nat) (w : Int32) : Int32 := if w = 0 then I 64 j else if w = 1 then I 65 j else I 66 j
theorem e_X12_person {j : Nat} {w : Int32} (hV : MW sh P) (hj : j < 30) (hw : inB w 3 = true) : Ev X B mdX12_person 0 0 [.ref (B + 35), .int (nI j), .int w] nx sh I P (mDet (some (.int (mPrsF I j w))) nx sh I P) := by
  have s35 : sh 35 = some (.inl 12) := hV.1 35 _ rfl
  have s_convicted : sh 64 = some (.inr (0, 30)) := hV.1 64 _ rfl
  have p_convicted : P 35 41 = some 64 := hV.2 41 64 rfl
  have s_paid : sh 65 = some (.inr (0, 30)) := hV.1 65 _ rfl
  have p_paid : P 35 42 = some 65 := hV.2 42 65 rfl
  have s_had : sh 66 = some (.inr (0, 30)) := hV.1 66 _ rfl
  have p_had : P 35 43 = some 66 := hV.2 43 66 rfl
  refine Ev.of (by decide) (by simp [Value.category]) (by simp) (fun G hM => ?_)
  have hM : mM X B "person" (some FieldType.int) 2 45 0 0 _ G := hM
  show V X B RX12 cX12_person G 0 0 nx sh I P 0 [some (.ref (B + 35)), some (.int (nI j)), some (.int w)] []
  refine V_iln dX12_person_0 rfl ?_
  refine V_cS1d hM cvX12_274 (e_X12_isPerson) ⟨Nat.le_of_ble_eq_true rfl, Nat.le_of_ble_eq_true rfl, Nat.le_of_ble_eq_true rfl, Nat.le_of_ble_eq_true rfl⟩ (Nat.le_of_ble_eq_true rfl) dX12_person_1 ?_
  rw [inB_of hj (by omega)]
  refine V_ifeq_b (tgt := 19) dX12_person_4 rfl (fun c4 => ?_) (fun c4 => ?_)
  · exact absurd c4 (by decide) --done
  · refine V_iln dX12_person_7 rfl ?_
    refine V_i2l dX12_person_8 ?_
    refine V_lconst (v := 0) rfl dX12_person_9 ?_
    refine V_ldc2 kjX12_351 dX12_person_10 ?_
    refine V_cS3d hM cvX12_5 (e_X12_in) ⟨Nat.le_of_ble_eq_true rfl, Nat.le_of_ble_eq_true rfl, Nat.le_of_ble_eq_true rfl, Nat.le_of_ble_eq_true rfl⟩ (Nat.le_of_ble_eq_true rfl) dX12_person_13 ?_
    rw [inJ (n := 3) (by decide), hw]
    refine V_ifne_b (tgt := 22) dX12_person_16 rfl (fun c16 => ?_) (fun c16 => ?_)
    · refine V_iln dX12_person_22 rfl ?_
      refine V_if_ne (tgt := 35) dX12_person_23 rfl (fun c23 => ?_) (fun c23 => ?_)
      · refine V_iln dX12_person_35 rfl ?_
        refine V_iconst (v := 1) rfl dX12_person_36 ?_
        refine V_icmp_ne (tgt := 49) dX12_person_37 rfl (fun c37 => ?_) (fun c37 => ?_)
        · refine V_aln dX12_person_49 rfl ?_
          refine V_getR dX12_person_50 flX12_223 (by assumption) rfl (by assumption) ?_
          refine V_iln dX12_person_53 rfl ?_
          refine V_ialdNv dX12_person_54 (by assumption) (by omega) (by omega) (rfl) ?_
          exact V_iret hM dX12_person_55 (⟨by simp [mPrsF, c4, c16, c23, c37], rfl, rfl, rfl, rfl⟩)
        · refine V_aln dX12_person_40 rfl ?_
          refine V_getR dX12_person_41 flX12_220 (by assumption) rfl (by assumption) ?_
          refine V_iln dX12_person_44 rfl ?_
          refine V_ialdNv dX12_person_45 (by assumption) (by omega) (by omega) (rfl) ?_
          refine V_goto (tgt := 55) dX12_person_46 rfl ?_
          exact V_iret hM dX12_person_55 (⟨by simp [mPrsF, c4, c16, c23, c37], rfl, rfl, rfl, rfl⟩)
      · refine V_aln dX12_person_26 rfl ?_
        refine V_getR dX12_person_27 flX12_217 (by assumption) rfl (by assumption) ?_
        refine V_iln dX12_person_30 rfl ?_
        refine V_ialdNv dX12_person_31 (by assumption) (by omega) (by omega) (rfl) ?_
        refine V_goto (tgt := 55) dX12_person_32 rfl ?_
        exact V_iret hM dX12_person_55 (⟨by simp [mPrsF, c4, c16, c23], rfl, rfl, rfl, rfl⟩)
    · exact absurd c16 (by decide) --done
theorem e_X12_personN {p w : Int32} (hV : MW sh P) (hx : (inB p 30 && inB w 3) = false) : Ev X B mdX12_person 0 0 [.ref (B + 35), .int p, .int w] nx sh I P (mDet (some (.int (-2))) nx sh I P) := by
  have s35 : sh 35 = some (.inl 12) := hV.1 35 _ rfl
  have s_convicted : sh 64 = some (.inr (0, 30)) := hV.1 64 _ rfl
  have p_convicted : P 35 41 = some 64 := hV.2 41 64 rfl
  have s_paid : sh 65 = some (.inr (0, 30)) := hV.1 65 _ rfl
  have p_paid : P 35 42 = some 65 := hV.2 42 65 rfl
  have s_had : sh 66 = some (.inr (0, 30)) := hV.1 66 _ rfl
  have p_had : P 35 43 = some 66 := hV.2 43 66 rfl
  refine Ev.of (by decide) (by simp [Value.category]) (by simp) (fun G hM => ?_)
  have hM : mM X B "person" (some FieldType.int) 2 45 0 0 _ G := hM
  show V X B RX12 cX12_person G 0 0 nx sh I P 0 [some (.ref (B + 35)), some (.int p), some (.int w)] []
  refine V_iln dX12_person_0 rfl ?_
  refine V_cS1d hM cvX12_274 (e_X12_isPerson) ⟨Nat.le_of_ble_eq_true rfl, Nat.le_of_ble_eq_true rfl, Nat.le_of_ble_eq_true rfl, Nat.le_of_ble_eq_true rfl⟩ (Nat.le_of_ble_eq_true rfl) dX12_person_1 ?_
  refine V_ifeq_b (tgt := 19) dX12_person_4 rfl (fun c4 => ?_) (fun c4 => ?_)
  · refine V_bipush (v := -2) rfl dX12_person_19 ?_
    exact V_iret hM dX12_person_21 (mDet.rf)
  · refine V_iln dX12_person_7 rfl ?_
    refine V_i2l dX12_person_8 ?_
    refine V_lconst (v := 0) rfl dX12_person_9 ?_
    refine V_ldc2 kjX12_351 dX12_person_10 ?_
    refine V_cS3d hM cvX12_5 (e_X12_in) ⟨Nat.le_of_ble_eq_true rfl, Nat.le_of_ble_eq_true rfl, Nat.le_of_ble_eq_true rfl, Nat.le_of_ble_eq_true rfl⟩ (Nat.le_of_ble_eq_true rfl) dX12_person_13 ?_
    rw [inJ (n := 3) (by decide)]
    refine V_ifne_b (tgt := 22) dX12_person_16 rfl (fun c16 => ?_) (fun c16 => ?_)
    · exact absurd hx (by rw [c4, c16]; decide) --done
    · refine V_bipush (v := -2) rfl dX12_person_19 ?_
      exact V_iret hM dX12_person_21 (mDet.rf)
end MX3
