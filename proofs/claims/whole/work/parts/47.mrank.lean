/-! ===== the reference's rank ===== -/
section MX5
variable {X : mX} {B nx : Nat} {sh : Nat → Option mSh} {I : mI} {P : mP}
def mRkM (I : mI) (p c : Nat) (d r : Int32) : mI := mUp (mUp (mUp I 50 (12 * p + c) d) 51 (12 * p + c) r) 49 p (nI (c + 1))
theorem nI_12 (p c : Nat) : 12 * nI p + nI c = nI (12 * p + c) := by rw [show (12 : Int32) = nI 12 from rfl, nI_mul, nI_add]
theorem e_X12_rank {p c : Nat} {d r : Int32} (hV : MW sh P) (hp : p < 30) (hc : I 49 p = nI c) (hc2 : c < 12) (hd : inB d 10000 = true) (hr : inB r 10 = true) : Ev X B mdX12_rank 0 0 [.ref (B + 35), .int (nI p), .int d, .int r] nx sh I P (mDet (some (.int (nI (c + 1)))) nx sh (mRkM I p c d r) P) := by
  have s35 : sh 35 = some (.inl 12) := hV.1 35 _ rfl
  have s_changes : sh 49 = some (.inr (0, 30)) := hV.1 49 _ rfl
  have p_changes : P 35 23 = some 49 := hV.2 23 49 rfl
  have s_changeDay : sh 50 = some (.inr (0, 360)) := hV.1 50 _ rfl
  have p_changeDay : P 35 24 = some 50 := hV.2 24 50 rfl
  have s_changeRank : sh 51 = some (.inr (0, 360)) := hV.1 51 _ rfl
  have p_changeRank : P 35 25 = some 51 := hV.2 25 51 rfl
  refine Ev.of (by decide) (by simp [Value.category]) (by simp) (fun G hM => ?_)
  have hM : mM X B "rank" (some FieldType.int) 2 45 0 0 _ G := hM
  show V X B RX12 cX12_rank G 0 0 nx sh I P 0 [some (.ref (B + 35)), some (.int (nI p)), some (.int d), some (.int r)] []
  refine V_iln dX12_rank_0 rfl ?_
  refine V_cS1d hM cvX12_274 (e_X12_isPerson) ⟨Nat.le_of_ble_eq_true rfl, Nat.le_of_ble_eq_true rfl, Nat.le_of_ble_eq_true rfl, Nat.le_of_ble_eq_true rfl⟩ (Nat.le_of_ble_eq_true rfl) dX12_rank_1 ?_
  rw [inB_of hp (by omega)]
  refine V_ifeq_b (tgt := 26) dX12_rank_4 rfl (fun c4 => ?_) (fun c4 => ?_)
  · exact absurd c4 (by decide) --done
  · refine V_iln dX12_rank_7 rfl ?_
    refine V_cS1d hM cvX12_259 (e_X12_isDay) ⟨Nat.le_of_ble_eq_true rfl, Nat.le_of_ble_eq_true rfl, Nat.le_of_ble_eq_true rfl, Nat.le_of_ble_eq_true rfl⟩ (Nat.le_of_ble_eq_true rfl) dX12_rank_8 ?_
    rw [hd]
    refine V_ifeq_b (tgt := 26) dX12_rank_11 rfl (fun c11 => ?_) (fun c11 => ?_)
    · exact absurd c11 (by decide) --done
    · refine V_iln dX12_rank_14 rfl ?_
      refine V_i2l dX12_rank_15 ?_
      refine V_lconst (v := 0) rfl dX12_rank_16 ?_
      refine V_ldc2 kjX12_277 dX12_rank_17 ?_
      refine V_cS3d hM cvX12_5 (e_X12_in) ⟨Nat.le_of_ble_eq_true rfl, Nat.le_of_ble_eq_true rfl, Nat.le_of_ble_eq_true rfl, Nat.le_of_ble_eq_true rfl⟩ (Nat.le_of_ble_eq_true rfl) dX12_rank_20 ?_
      rw [inJ (n := 10) (by decide), hr]
      refine V_ifne_b (tgt := 29) dX12_rank_23 rfl (fun c23 => ?_) (fun c23 => ?_)
      · refine V_aln dX12_rank_29 rfl ?_
        refine V_getR dX12_rank_30 flX12_174 (by assumption) rfl (by assumption) ?_
        refine V_iln dX12_rank_33 rfl ?_
        refine V_ialdNv dX12_rank_34 (by assumption) (by omega) (by omega) (hc) ?_
        refine V_bipush (v := 12) rfl dX12_rank_35 ?_
        refine V_icmp_ne (tgt := 43) dX12_rank_37 rfl (fun c37 => ?_) (fun c37 => ?_)
        · refine V_aln dX12_rank_43 rfl ?_
          refine V_getR dX12_rank_44 flX12_177 (by assumption) rfl (by assumption) ?_
          refine V_bipush (v := 12) rfl dX12_rank_47 ?_
          refine V_iln dX12_rank_49 rfl ?_
          refine V_imul dX12_rank_50 ?_
          refine V_aln dX12_rank_51 rfl ?_
          refine V_getR dX12_rank_52 flX12_174 (by assumption) rfl (by assumption) ?_
          refine V_iln dX12_rank_55 rfl ?_
          refine V_ialdNv dX12_rank_56 (by assumption) (by omega) (by omega) (hc) ?_
          refine V_iadd dX12_rank_57 ?_
          refine V_top (nI_12 p c) ?_
          refine V_iln dX12_rank_58 rfl ?_
          refine V_iastN dX12_rank_59 (by assumption) (by omega) (by omega) ?_
          refine V_aln dX12_rank_60 rfl ?_
          refine V_getR dX12_rank_61 flX12_180 (by assumption) rfl (by assumption) ?_
          refine V_bipush (v := 12) rfl dX12_rank_64 ?_
          refine V_iln dX12_rank_66 rfl ?_
          refine V_imul dX12_rank_67 ?_
          refine V_aln dX12_rank_68 rfl ?_
          refine V_getR dX12_rank_69 flX12_174 (by assumption) rfl (by assumption) ?_
          refine V_iln dX12_rank_72 rfl ?_
          refine V_ialdNv dX12_rank_73 (by assumption) (by omega) (by omega) ((mUp_c (by decide)).trans hc) ?_
          refine V_iadd dX12_rank_74 ?_
          refine V_top (nI_12 p c) ?_
          refine V_iln dX12_rank_75 rfl ?_
          refine V_iastN dX12_rank_76 (by assumption) (by omega) (by omega) ?_
          refine V_aln dX12_rank_77 rfl ?_
          refine V_getR dX12_rank_78 flX12_174 (by assumption) rfl (by assumption) ?_
          refine V_iln dX12_rank_81 rfl ?_
          refine V_dup2 rfl rfl dX12_rank_82 ?_
          refine V_ialdNv dX12_rank_83 (by assumption) (by omega) (by omega) ((mUp_c (by decide)).trans ((mUp_c (by decide)).trans hc)) ?_
          refine V_iconst (v := 1) rfl dX12_rank_84 ?_
          refine V_iadd dX12_rank_85 ?_
          refine V_top (nI_inc' c) ?_
          refine V_iastN dX12_rank_86 (by assumption) (by omega) (by omega) ?_
          refine V_aln dX12_rank_87 rfl ?_
          refine V_getR dX12_rank_88 flX12_174 (by assumption) rfl (by assumption) ?_
          refine V_iln dX12_rank_91 rfl ?_
          refine V_ialdNv dX12_rank_92 (by assumption) (by omega) (by omega) (mUp_s) ?_
          exact V_iret hM dX12_rank_93 (mDet.rf)
        · exfalso
          have := nI_eqN (a := c) (b := 12) (by omega) (by decide) (by first | exact c37 | exact Classical.not_not.mp c37)
          omega --done
      · exact absurd c23 (by decide) --done
theorem e_X12_rankF {p : Nat} {d r : Int32} (hV : MW sh P) (hp : p < 30) (hc : I 49 p = nI 12) (hd : inB d 10000 = true) (hr : inB r 10 = true) : Ev X B mdX12_rank 0 0 [.ref (B + 35), .int (nI p), .int d, .int r] nx sh I P (mDet (some (.int (-3))) nx sh I P) := by
  have s35 : sh 35 = some (.inl 12) := hV.1 35 _ rfl
  have s_changes : sh 49 = some (.inr (0, 30)) := hV.1 49 _ rfl
  have p_changes : P 35 23 = some 49 := hV.2 23 49 rfl
  have s_changeDay : sh 50 = some (.inr (0, 360)) := hV.1 50 _ rfl
  have p_changeDay : P 35 24 = some 50 := hV.2 24 50 rfl
  have s_changeRank : sh 51 = some (.inr (0, 360)) := hV.1 51 _ rfl
  have p_changeRank : P 35 25 = some 51 := hV.2 25 51 rfl
  refine Ev.of (by decide) (by simp [Value.category]) (by simp) (fun G hM => ?_)
  have hM : mM X B "rank" (some FieldType.int) 2 45 0 0 _ G := hM
  show V X B RX12 cX12_rank G 0 0 nx sh I P 0 [some (.ref (B + 35)), some (.int (nI p)), some (.int d), some (.int r)] []
  refine V_iln dX12_rank_0 rfl ?_
  refine V_cS1d hM cvX12_274 (e_X12_isPerson) ⟨Nat.le_of_ble_eq_true rfl, Nat.le_of_ble_eq_true rfl, Nat.le_of_ble_eq_true rfl, Nat.le_of_ble_eq_true rfl⟩ (Nat.le_of_ble_eq_true rfl) dX12_rank_1 ?_
  rw [inB_of hp (by omega)]
  refine V_ifeq_b (tgt := 26) dX12_rank_4 rfl (fun c4 => ?_) (fun c4 => ?_)
  · exact absurd c4 (by decide) --done
  · refine V_iln dX12_rank_7 rfl ?_
    refine V_cS1d hM cvX12_259 (e_X12_isDay) ⟨Nat.le_of_ble_eq_true rfl, Nat.le_of_ble_eq_true rfl, Nat.le_of_ble_eq_true rfl, Nat.le_of_ble_eq_true rfl⟩ (Nat.le_of_ble_eq_true rfl) dX12_rank_8 ?_
    rw [hd]
    refine V_ifeq_b (tgt := 26) dX12_rank_11 rfl (fun c11 => ?_) (fun c11 => ?_)
    · exact absurd c11 (by decide) --done
    · refine V_iln dX12_rank_14 rfl ?_
      refine V_i2l dX12_rank_15 ?_
      refine V_lconst (v := 0) rfl dX12_rank_16 ?_
      refine V_ldc2 kjX12_277 dX12_rank_17 ?_
      refine V_cS3d hM cvX12_5 (e_X12_in) ⟨Nat.le_of_ble_eq_true rfl, Nat.le_of_ble_eq_true rfl, Nat.le_of_ble_eq_true rfl, Nat.le_of_ble_eq_true rfl⟩ (Nat.le_of_ble_eq_true rfl) dX12_rank_20 ?_
      rw [inJ (n := 10) (by decide), hr]
      refine V_ifne_b (tgt := 29) dX12_rank_23 rfl (fun c23 => ?_) (fun c23 => ?_)
      · refine V_aln dX12_rank_29 rfl ?_
        refine V_getR dX12_rank_30 flX12_174 (by assumption) rfl (by assumption) ?_
        refine V_iln dX12_rank_33 rfl ?_
        refine V_ialdNv dX12_rank_34 (by assumption) (by omega) (by omega) (hc) ?_
        refine V_bipush (v := 12) rfl dX12_rank_35 ?_
        refine V_icmp_ne (tgt := 43) dX12_rank_37 rfl (fun c37 => ?_) (fun c37 => ?_)
        · exact absurd rfl c37 --done
        · refine V_bipush (v := -3) rfl dX12_rank_40 ?_
          exact V_iret hM dX12_rank_42 (mDet.rf)
      · exact absurd c23 (by decide) --done
theorem e_X12_rankN {p d r : Int32} (hV : MW sh P) (hx : (inB p 30 && inB d 10000 && inB r 10) = false) : Ev X B mdX12_rank 0 0 [.ref (B + 35), .int p, .int d, .int r] nx sh I P (mDet (some (.int (-2))) nx sh I P) := by
  have s35 : sh 35 = some (.inl 12) := hV.1 35 _ rfl
  have s_changes : sh 49 = some (.inr (0, 30)) := hV.1 49 _ rfl
  have p_changes : P 35 23 = some 49 := hV.2 23 49 rfl
  have s_changeDay : sh 50 = some (.inr (0, 360)) := hV.1 50 _ rfl
  have p_changeDay : P 35 24 = some 50 := hV.2 24 50 rfl
  have s_changeRank : sh 51 = some (.inr (0, 360)) := hV.1 51 _ rfl
  have p_changeRank : P 35 25 = some 51 := hV.2 25 51 rfl
  refine Ev.of (by decide) (by simp [Value.category]) (by simp) (fun G hM => ?_)
  have hM : mM X B "rank" (some FieldType.int) 2 45 0 0 _ G := hM
  show V X B RX12 cX12_rank G 0 0 nx sh I P 0 [some (.ref (B + 35)), some (.int p), some (.int d), some (.int r)] []
  refine V_iln dX12_rank_0 rfl ?_
  refine V_cS1d hM cvX12_274 (e_X12_isPerson) ⟨Nat.le_of_ble_eq_true rfl, Nat.le_of_ble_eq_true rfl, Nat.le_of_ble_eq_true rfl, Nat.le_of_ble_eq_true rfl⟩ (Nat.le_of_ble_eq_true rfl) dX12_rank_1 ?_
  refine V_ifeq_b (tgt := 26) dX12_rank_4 rfl (fun c4 => ?_) (fun c4 => ?_)
  · refine V_bipush (v := -2) rfl dX12_rank_26 ?_
    exact V_iret hM dX12_rank_28 (mDet.rf)
  · refine V_iln dX12_rank_7 rfl ?_
    refine V_cS1d hM cvX12_259 (e_X12_isDay) ⟨Nat.le_of_ble_eq_true rfl, Nat.le_of_ble_eq_true rfl, Nat.le_of_ble_eq_true rfl, Nat.le_of_ble_eq_true rfl⟩ (Nat.le_of_ble_eq_true rfl) dX12_rank_8 ?_
    refine V_ifeq_b (tgt := 26) dX12_rank_11 rfl (fun c11 => ?_) (fun c11 => ?_)
    · refine V_bipush (v := -2) rfl dX12_rank_26 ?_
      exact V_iret hM dX12_rank_28 (mDet.rf)
    · refine V_iln dX12_rank_14 rfl ?_
      refine V_i2l dX12_rank_15 ?_
      refine V_lconst (v := 0) rfl dX12_rank_16 ?_
      refine V_ldc2 kjX12_277 dX12_rank_17 ?_
      refine V_cS3d hM cvX12_5 (e_X12_in) ⟨Nat.le_of_ble_eq_true rfl, Nat.le_of_ble_eq_true rfl, Nat.le_of_ble_eq_true rfl, Nat.le_of_ble_eq_true rfl⟩ (Nat.le_of_ble_eq_true rfl) dX12_rank_20 ?_
      rw [inJ (n := 10) (by decide)]
      refine V_ifne_b (tgt := 29) dX12_rank_23 rfl (fun c23 => ?_) (fun c23 => ?_)
      · exact absurd hx (by rw [c4, c11, c23]; decide) --done
      · refine V_bipush (v := -2) rfl dX12_rank_26 ?_
        exact V_iret hM dX12_rank_28 (mDet.rf)
end MX5
