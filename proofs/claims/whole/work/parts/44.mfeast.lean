/-! ===== the reference's feast, like ===== -/
section MY
variable {X : mX} {B nx : Nat} {sh : Nat → Option mSh} {I : mI} {P : mP}
def mFeM (I : mI) (n : Nat) (a b : Int32) : mI := mUp (mUp (mUp I 55 n a) 56 n b) 35 31 (nI (n + 1))
theorem e_X12_feast {n : Nat} {a b : Int32} (hV : MW sh P) (hn : I 35 31 = nI n) (hn2 : n < 20) (hx : (inB a 10000 && inB b 10000 && decide (a ≤ b)) = true) : Ev X B mdX12_feast 0 0 [.ref (B + 35), .int a, .int b] nx sh I P (mDet (some (.int (nI (n + 1)))) nx sh (mFeM I n a b) P) := by
  have s35 : sh 35 = some (.inl 12) := hV.1 35 _ rfl
  have s_feastFrom : sh 55 = some (.inr (0, 20)) := hV.1 55 _ rfl
  have p_feastFrom : P 35 29 = some 55 := hV.2 29 55 rfl
  have s_feastTo : sh 56 = some (.inr (0, 20)) := hV.1 56 _ rfl
  have p_feastTo : P 35 30 = some 56 := hV.2 30 56 rfl
  refine Ev.of (by decide) (by simp [Value.category]) (by simp) (fun G hM => ?_)
  have hM : mM X B "feast" (some FieldType.int) 3 66 0 0 _ G := hM
  show V X B RX12 cX12_feast G 0 0 nx sh I P 0 [some (.ref (B + 35)), some (.int a), some (.int b)] []
  refine V_iln dX12_feast_0 rfl ?_
  refine V_iln dX12_feast_1 rfl ?_
  refine V_cS2d hM cvX12_279 (e_X12_areDays) ⟨Nat.le_of_ble_eq_true rfl, Nat.le_of_ble_eq_true rfl, Nat.le_of_ble_eq_true rfl, Nat.le_of_ble_eq_true rfl⟩ (Nat.le_of_ble_eq_true rfl) dX12_feast_2 ?_
  rw [hx]
  refine V_ifne_b (tgt := 11) dX12_feast_5 rfl (fun c5 => ?_) (fun c5 => ?_)
  · refine V_aln dX12_feast_11 rfl ?_
    refine V_getIv dX12_feast_12 flX12_282 (by assumption) rfl (hn) ?_
    refine V_bipush (v := 20) rfl dX12_feast_15 ?_
    refine V_icmp_ne (tgt := 23) dX12_feast_17 rfl (fun c17 => ?_) (fun c17 => ?_)
    · refine V_aln dX12_feast_23 rfl ?_
      refine V_getR dX12_feast_24 flX12_192 (by assumption) rfl (by assumption) ?_
      refine V_aln dX12_feast_27 rfl ?_
      refine V_getIv dX12_feast_28 flX12_282 (by assumption) rfl (hn) ?_
      refine V_iln dX12_feast_31 rfl ?_
      refine V_iastN dX12_feast_32 (by assumption) (by omega) (by omega) ?_
      refine V_aln dX12_feast_33 rfl ?_
      refine V_getR dX12_feast_34 flX12_195 (by assumption) rfl (by assumption) ?_
      refine V_aln dX12_feast_37 rfl ?_
      refine V_getIv dX12_feast_38 flX12_282 (by assumption) rfl ((mUp_c (by decide)).trans hn) ?_
      refine V_iln dX12_feast_41 rfl ?_
      refine V_iastN dX12_feast_42 (by assumption) (by omega) (by omega) ?_
      refine V_aln dX12_feast_43 rfl ?_
      refine V_dup rfl dX12_feast_44 ?_
      refine V_getIv dX12_feast_45 flX12_282 (by assumption) rfl ((mUp_c (by decide)).trans ((mUp_c (by decide)).trans hn)) ?_
      refine V_iconst (v := 1) rfl dX12_feast_48 ?_
      refine V_iadd dX12_feast_49 ?_
      refine V_top (nI_inc' n) ?_
      refine V_putI dX12_feast_50 flX12_282 (by assumption) rfl rfl ?_
      refine V_aln dX12_feast_53 rfl ?_
      refine V_getIv dX12_feast_54 flX12_282 (by assumption) rfl (mUp_s) ?_
      exact V_iret hM dX12_feast_57 (mDet.rf)
    · exfalso
      have := nI_eqN (a := n) (b := 20) (by omega) (by decide) (by first | exact c17 | exact Classical.not_not.mp c17)
      omega --done
  · exact absurd c5 (by decide) --done
theorem e_X12_feastF {a b : Int32} (hV : MW sh P) (hn : I 35 31 = nI 20) (hx : (inB a 10000 && inB b 10000 && decide (a ≤ b)) = true) : Ev X B mdX12_feast 0 0 [.ref (B + 35), .int a, .int b] nx sh I P (mDet (some (.int (-3))) nx sh I P) := by
  have s35 : sh 35 = some (.inl 12) := hV.1 35 _ rfl
  have s_feastFrom : sh 55 = some (.inr (0, 20)) := hV.1 55 _ rfl
  have p_feastFrom : P 35 29 = some 55 := hV.2 29 55 rfl
  have s_feastTo : sh 56 = some (.inr (0, 20)) := hV.1 56 _ rfl
  have p_feastTo : P 35 30 = some 56 := hV.2 30 56 rfl
  refine Ev.of (by decide) (by simp [Value.category]) (by simp) (fun G hM => ?_)
  have hM : mM X B "feast" (some FieldType.int) 3 66 0 0 _ G := hM
  show V X B RX12 cX12_feast G 0 0 nx sh I P 0 [some (.ref (B + 35)), some (.int a), some (.int b)] []
  refine V_iln dX12_feast_0 rfl ?_
  refine V_iln dX12_feast_1 rfl ?_
  refine V_cS2d hM cvX12_279 (e_X12_areDays) ⟨Nat.le_of_ble_eq_true rfl, Nat.le_of_ble_eq_true rfl, Nat.le_of_ble_eq_true rfl, Nat.le_of_ble_eq_true rfl⟩ (Nat.le_of_ble_eq_true rfl) dX12_feast_2 ?_
  rw [hx]
  refine V_ifne_b (tgt := 11) dX12_feast_5 rfl (fun c5 => ?_) (fun c5 => ?_)
  · refine V_aln dX12_feast_11 rfl ?_
    refine V_getIv dX12_feast_12 flX12_282 (by assumption) rfl (hn) ?_
    refine V_bipush (v := 20) rfl dX12_feast_15 ?_
    refine V_icmp_ne (tgt := 23) dX12_feast_17 rfl (fun c17 => ?_) (fun c17 => ?_)
    · exact absurd rfl c17 --done
    · refine V_bipush (v := -3) rfl dX12_feast_20 ?_
      exact V_iret hM dX12_feast_22 (mDet.rf)
  · exact absurd c5 (by decide) --done
theorem e_X12_feastN {a b : Int32} (hV : MW sh P) (hx : (inB a 10000 && inB b 10000 && decide (a ≤ b)) = false) : Ev X B mdX12_feast 0 0 [.ref (B + 35), .int a, .int b] nx sh I P (mDet (some (.int (-2))) nx sh I P) := by
  have s35 : sh 35 = some (.inl 12) := hV.1 35 _ rfl
  have s_feastFrom : sh 55 = some (.inr (0, 20)) := hV.1 55 _ rfl
  have p_feastFrom : P 35 29 = some 55 := hV.2 29 55 rfl
  have s_feastTo : sh 56 = some (.inr (0, 20)) := hV.1 56 _ rfl
  have p_feastTo : P 35 30 = some 56 := hV.2 30 56 rfl
  refine Ev.of (by decide) (by simp [Value.category]) (by simp) (fun G hM => ?_)
  have hM : mM X B "feast" (some FieldType.int) 3 66 0 0 _ G := hM
  show V X B RX12 cX12_feast G 0 0 nx sh I P 0 [some (.ref (B + 35)), some (.int a), some (.int b)] []
  refine V_iln dX12_feast_0 rfl ?_
  refine V_iln dX12_feast_1 rfl ?_
  refine V_cS2d hM cvX12_279 (e_X12_areDays) ⟨Nat.le_of_ble_eq_true rfl, Nat.le_of_ble_eq_true rfl, Nat.le_of_ble_eq_true rfl, Nat.le_of_ble_eq_true rfl⟩ (Nat.le_of_ble_eq_true rfl) dX12_feast_2 ?_
  rw [hx]
  refine V_ifne_b (tgt := 11) dX12_feast_5 rfl (fun c5 => ?_) (fun c5 => ?_)
  · exact absurd c5 (by decide) --done
  · refine V_bipush (v := -2) rfl dX12_feast_8 ?_
    exact V_iret hM dX12_feast_10 (mDet.rf)
end MY
