/-! ===== the reference's wedding ===== -/
section MX6
variable {X : mX} {B nx : Nat} {sh : Nat → Option mSh} {I : mI} {P : mP}
def mWdM (I : mI) (p c : Nat) (a b : Int32) : mI := mUp (mUp (mUp I 53 (4 * p + c) a) 54 (4 * p + c) b) 52 p (nI (c + 1))
theorem nI_4 (p c : Nat) : 4 * nI p + nI c = nI (4 * p + c) := by rw [show (4 : Int32) = nI 4 from rfl, nI_mul, nI_add]
theorem e_X12_wedding {p c : Nat} {a b : Int32} (hV : MW sh P) (hp : p < 30) (hc : I 52 p = nI c) (hc2 : c < 4) (hx : (inB a 10000 && inB b 10000 && decide (a ≤ b)) = true) : Ev X B mdX12_wedding 0 0 [.ref (B + 35), .int (nI p), .int a, .int b] nx sh I P (mDet (some (.int (nI (c + 1)))) nx sh (mWdM I p c a b) P) := by
  have s35 : sh 35 = some (.inl 12) := hV.1 35 _ rfl
  have s_weddings : sh 52 = some (.inr (0, 30)) := hV.1 52 _ rfl
  have p_weddings : P 35 26 = some 52 := hV.2 26 52 rfl
  have s_weddingFrom : sh 53 = some (.inr (0, 120)) := hV.1 53 _ rfl
  have p_weddingFrom : P 35 27 = some 53 := hV.2 27 53 rfl
  have s_weddingTo : sh 54 = some (.inr (0, 120)) := hV.1 54 _ rfl
  have p_weddingTo : P 35 28 = some 54 := hV.2 28 54 rfl
  refine Ev.of (by decide) (by simp [Value.category]) (by simp) (fun G hM => ?_)
  have hM : mM X B "wedding" (some FieldType.int) 3 66 0 0 _ G := hM
  show V X B RX12 cX12_wedding G 0 0 nx sh I P 0 [some (.ref (B + 35)), some (.int (nI p)), some (.int a), some (.int b)] []
  refine V_iln dX12_wedding_0 rfl ?_
  refine V_cS1d hM cvX12_274 (e_X12_isPerson) ⟨Nat.le_of_ble_eq_true rfl, Nat.le_of_ble_eq_true rfl, Nat.le_of_ble_eq_true rfl, Nat.le_of_ble_eq_true rfl⟩ (Nat.le_of_ble_eq_true rfl) dX12_wedding_1 ?_
  rw [inB_of hp (by omega)]
  refine V_ifeq_b (tgt := 15) dX12_wedding_4 rfl (fun c4 => ?_) (fun c4 => ?_)
  · exact absurd c4 (by decide) --done
  · refine V_iln dX12_wedding_7 rfl ?_
    refine V_iln dX12_wedding_8 rfl ?_
    refine V_cS2d hM cvX12_279 (e_X12_areDays) ⟨Nat.le_of_ble_eq_true rfl, Nat.le_of_ble_eq_true rfl, Nat.le_of_ble_eq_true rfl, Nat.le_of_ble_eq_true rfl⟩ (Nat.le_of_ble_eq_true rfl) dX12_wedding_9 ?_
    rw [hx]
    refine V_ifne_b (tgt := 18) dX12_wedding_12 rfl (fun c12 => ?_) (fun c12 => ?_)
    · refine V_aln dX12_wedding_18 rfl ?_
      refine V_getR dX12_wedding_19 flX12_183 (by assumption) rfl (by assumption) ?_
      refine V_iln dX12_wedding_22 rfl ?_
      refine V_ialdNv dX12_wedding_23 (by assumption) (by omega) (by omega) (hc) ?_
      refine V_iconst (v := 4) rfl dX12_wedding_24 ?_
      refine V_icmp_ne (tgt := 31) dX12_wedding_25 rfl (fun c25 => ?_) (fun c25 => ?_)
      · refine V_aln dX12_wedding_31 rfl ?_
        refine V_getR dX12_wedding_32 flX12_186 (by assumption) rfl (by assumption) ?_
        refine V_iconst (v := 4) rfl dX12_wedding_35 ?_
        refine V_iln dX12_wedding_36 rfl ?_
        refine V_imul dX12_wedding_37 ?_
        refine V_aln dX12_wedding_38 rfl ?_
        refine V_getR dX12_wedding_39 flX12_183 (by assumption) rfl (by assumption) ?_
        refine V_iln dX12_wedding_42 rfl ?_
        refine V_ialdNv dX12_wedding_43 (by assumption) (by omega) (by omega) (hc) ?_
        refine V_iadd dX12_wedding_44 ?_
        refine V_top (nI_4 p c) ?_
        refine V_iln dX12_wedding_45 rfl ?_
        refine V_iastN dX12_wedding_46 (by assumption) (by omega) (by omega) ?_
        refine V_aln dX12_wedding_47 rfl ?_
        refine V_getR dX12_wedding_48 flX12_189 (by assumption) rfl (by assumption) ?_
        refine V_iconst (v := 4) rfl dX12_wedding_51 ?_
        refine V_iln dX12_wedding_52 rfl ?_
        refine V_imul dX12_wedding_53 ?_
        refine V_aln dX12_wedding_54 rfl ?_
        refine V_getR dX12_wedding_55 flX12_183 (by assumption) rfl (by assumption) ?_
        refine V_iln dX12_wedding_58 rfl ?_
        refine V_ialdNv dX12_wedding_59 (by assumption) (by omega) (by omega) ((mUp_c (by decide)).trans hc) ?_
        refine V_iadd dX12_wedding_60 ?_
        refine V_top (nI_4 p c) ?_
        refine V_iln dX12_wedding_61 rfl ?_
        refine V_iastN dX12_wedding_62 (by assumption) (by omega) (by omega) ?_
        refine V_aln dX12_wedding_63 rfl ?_
        refine V_getR dX12_wedding_64 flX12_183 (by assumption) rfl (by assumption) ?_
        refine V_iln dX12_wedding_67 rfl ?_
        refine V_dup2 rfl rfl dX12_wedding_68 ?_
        refine V_ialdNv dX12_wedding_69 (by assumption) (by omega) (by omega) ((mUp_c (by decide)).trans ((mUp_c (by decide)).trans hc)) ?_
        refine V_iconst (v := 1) rfl dX12_wedding_70 ?_
        refine V_iadd dX12_wedding_71 ?_
        refine V_top (nI_inc' c) ?_
        refine V_iastN dX12_wedding_72 (by assumption) (by omega) (by omega) ?_
        refine V_aln dX12_wedding_73 rfl ?_
        refine V_getR dX12_wedding_74 flX12_183 (by assumption) rfl (by assumption) ?_
        refine V_iln dX12_wedding_77 rfl ?_
        refine V_ialdNv dX12_wedding_78 (by assumption) (by omega) (by omega) (mUp_s) ?_
        exact V_iret hM dX12_wedding_79 (mDet.rf)
      · exfalso
        have := nI_eqN (a := c) (b := 4) (by omega) (by decide) (by first | exact c25 | exact Classical.not_not.mp c25)
        omega --done
    · exact absurd c12 (by decide) --done
theorem e_X12_weddingF {p : Nat} {a b : Int32} (hV : MW sh P) (hp : p < 30) (hc : I 52 p = nI 4) (hx : (inB a 10000 && inB b 10000 && decide (a ≤ b)) = true) : Ev X B mdX12_wedding 0 0 [.ref (B + 35), .int (nI p), .int a, .int b] nx sh I P (mDet (some (.int (-3))) nx sh I P) := by
  have s35 : sh 35 = some (.inl 12) := hV.1 35 _ rfl
  have s_weddings : sh 52 = some (.inr (0, 30)) := hV.1 52 _ rfl
  have p_weddings : P 35 26 = some 52 := hV.2 26 52 rfl
  have s_weddingFrom : sh 53 = some (.inr (0, 120)) := hV.1 53 _ rfl
  have p_weddingFrom : P 35 27 = some 53 := hV.2 27 53 rfl
  have s_weddingTo : sh 54 = some (.inr (0, 120)) := hV.1 54 _ rfl
  have p_weddingTo : P 35 28 = some 54 := hV.2 28 54 rfl
  refine Ev.of (by decide) (by simp [Value.category]) (by simp) (fun G hM => ?_)
  have hM : mM X B "wedding" (some FieldType.int) 3 66 0 0 _ G := hM
  show V X B RX12 cX12_wedding G 0 0 nx sh I P 0 [some (.ref (B + 35)), some (.int (nI p)), some (.int a), some (.int b)] []
  refine V_iln dX12_wedding_0 rfl ?_
  refine V_cS1d hM cvX12_274 (e_X12_isPerson) ⟨Nat.le_of_ble_eq_true rfl, Nat.le_of_ble_eq_true rfl, Nat.le_of_ble_eq_true rfl, Nat.le_of_ble_eq_true rfl⟩ (Nat.le_of_ble_eq_true rfl) dX12_wedding_1 ?_
  rw [inB_of hp (by omega)]
  refine V_ifeq_b (tgt := 15) dX12_wedding_4 rfl (fun c4 => ?_) (fun c4 => ?_)
  · exact absurd c4 (by decide) --done
  · refine V_iln dX12_wedding_7 rfl ?_
    refine V_iln dX12_wedding_8 rfl ?_
    refine V_cS2d hM cvX12_279 (e_X12_areDays) ⟨Nat.le_of_ble_eq_true rfl, Nat.le_of_ble_eq_true rfl, Nat.le_of_ble_eq_true rfl, Nat.le_of_ble_eq_true rfl⟩ (Nat.le_of_ble_eq_true rfl) dX12_wedding_9 ?_
    rw [hx]
    refine V_ifne_b (tgt := 18) dX12_wedding_12 rfl (fun c12 => ?_) (fun c12 => ?_)
    · refine V_aln dX12_wedding_18 rfl ?_
      refine V_getR dX12_wedding_19 flX12_183 (by assumption) rfl (by assumption) ?_
      refine V_iln dX12_wedding_22 rfl ?_
      refine V_ialdNv dX12_wedding_23 (by assumption) (by omega) (by omega) (hc) ?_
      refine V_iconst (v := 4) rfl dX12_wedding_24 ?_
      refine V_icmp_ne (tgt := 31) dX12_wedding_25 rfl (fun c25 => ?_) (fun c25 => ?_)
      · exact absurd rfl c25 --done
      · refine V_bipush (v := -3) rfl dX12_wedding_28 ?_
        exact V_iret hM dX12_wedding_30 (mDet.rf)
    · exact absurd c12 (by decide) --done
theorem e_X12_weddingN {p a b : Int32} (hV : MW sh P) (hx : (inB p 30 && (inB a 10000 && inB b 10000 && decide (a ≤ b))) = false) : Ev X B mdX12_wedding 0 0 [.ref (B + 35), .int p, .int a, .int b] nx sh I P (mDet (some (.int (-2))) nx sh I P) := by
  have s35 : sh 35 = some (.inl 12) := hV.1 35 _ rfl
  have s_weddings : sh 52 = some (.inr (0, 30)) := hV.1 52 _ rfl
  have p_weddings : P 35 26 = some 52 := hV.2 26 52 rfl
  have s_weddingFrom : sh 53 = some (.inr (0, 120)) := hV.1 53 _ rfl
  have p_weddingFrom : P 35 27 = some 53 := hV.2 27 53 rfl
  have s_weddingTo : sh 54 = some (.inr (0, 120)) := hV.1 54 _ rfl
  have p_weddingTo : P 35 28 = some 54 := hV.2 28 54 rfl
  refine Ev.of (by decide) (by simp [Value.category]) (by simp) (fun G hM => ?_)
  have hM : mM X B "wedding" (some FieldType.int) 3 66 0 0 _ G := hM
  show V X B RX12 cX12_wedding G 0 0 nx sh I P 0 [some (.ref (B + 35)), some (.int p), some (.int a), some (.int b)] []
  refine V_iln dX12_wedding_0 rfl ?_
  refine V_cS1d hM cvX12_274 (e_X12_isPerson) ⟨Nat.le_of_ble_eq_true rfl, Nat.le_of_ble_eq_true rfl, Nat.le_of_ble_eq_true rfl, Nat.le_of_ble_eq_true rfl⟩ (Nat.le_of_ble_eq_true rfl) dX12_wedding_1 ?_
  refine V_ifeq_b (tgt := 15) dX12_wedding_4 rfl (fun c4 => ?_) (fun c4 => ?_)
  · refine V_bipush (v := -2) rfl dX12_wedding_15 ?_
    exact V_iret hM dX12_wedding_17 (mDet.rf)
  · refine V_iln dX12_wedding_7 rfl ?_
    refine V_iln dX12_wedding_8 rfl ?_
    refine V_cS2d hM cvX12_279 (e_X12_areDays) ⟨Nat.le_of_ble_eq_true rfl, Nat.le_of_ble_eq_true rfl, Nat.le_of_ble_eq_true rfl, Nat.le_of_ble_eq_true rfl⟩ (Nat.le_of_ble_eq_true rfl) dX12_wedding_9 ?_
    refine V_ifne_b (tgt := 18) dX12_wedding_12 rfl (fun c12 => ?_) (fun c12 => ?_)
    · exact absurd hx (by rw [c4, c12]; decide) --done
    · refine V_bipush (v := -2) rfl dX12_wedding_15 ?_
      exact V_iret hM dX12_wedding_17 (mDet.rf)
end MX6
