/-! ===== the reference's readRule, whole; readOther ===== -/
theorem nI_mul (a b : Nat) : nI a * nI b = nI (a * b) := by
  apply Int32.toBitVec_inj.mp
  show BitVec.ofNat 32 a * BitVec.ofNat 32 b = BitVec.ofNat 32 (a * b)
  exact (BitVec.ofNat_mul ..).symm
theorem tl_m {j : Nat} (h : j < 8) : tlF (nI j) = if nI j = 5 then 15 else if nI j < 6 then 9999 else 7 := by
  rcases (show j = 0 ∨ j = 1 ∨ j = 2 ∨ j = 3 ∨ j = 4 ∨ j = 5 ∨ j = 6 ∨ j = 7 by omega) with rfl | rfl | rfl | rfl | rfl | rfl | rfl | rfl <;> rfl
section R4
variable {X : mX} {B nx : Nat} {sh : Nat → Option mSh} {I : mI} {P : mP} {m e a : Nat} {f : Nat → Int32} {na : Int32} {q : aS}
theorem x_X12_readRule (hV : MW sh P) (ha : a ≤ 12) (hT : MTf I f m e) (hR : RdM I a q) (h0 : q.1 0 = 0) (hk : ¬ rkF (wAt f m e) = -1) : EvX X B mdX12_readRule 0 0 [.ref (B + 35), .int (nI a), .int (rkF (wAt f m e))] nx sh I P (lnR na f m a e q nx sh I P) (lnT B na f m a e q nx sh I P) := by
  have s35 : sh 35 = some (.inl 12) := hV.1 35 _ rfl
  have s_ruleMany : sh 37 = some (.inr (0, 13)) := hV.1 37 _ rfl
  have p_ruleMany : P 35 2 = some 37 := hV.2 2 37 rfl
  have s_what : sh 41 = some (.inr (0, 156)) := hV.1 41 _ rfl
  have p_what : P 35 6 = some 41 := hV.2 6 41 rfl
  have s_number : sh 42 = some (.inr (0, 156)) := hV.1 42 _ rfl
  have p_number : P 35 7 = some 42 := hV.2 7 42 rfl
  have hn12 := hR.2.1
  have hr1 := hR.1
  have hk0 := rk_k hk
  have hn0 : ¬ (tK f m e = 0 ∧ q.1 0 = 0) := fun h => hk0 h.1
  have hst := (aStep_0 (na := na) (k := tK f m e) (num := tN f m e 0) (w := wAt f m e) h0).trans (if_neg hk)
  obtain ⟨j, hj, hkj⟩ := (rkF_8 (wAt f m e)).resolve_left hk
  refine EvX.of (by decide) (by simp [Value.category]) (by simp) (fun G hM hX => ?_)
  have hM : mM X B "readRule" none 7 150 0 0 _ G := hM
  show V X B RX12 cX12_readRule G 0 0 nx sh I P 0 [some (.ref (B + 35)), some (.int (nI a)), some (.int (rkF (wAt f m e))), none] []
  refine V_aln dX12_readRule_0 rfl ?_
  refine V_getR dX12_readRule_1 flX12_88 (by assumption) rfl (by assumption) ?_
  refine V_iln dX12_readRule_4 rfl ?_
  refine V_ialdNv dX12_readRule_5 (by assumption) (by omega) (by omega) (hr1) ?_
  refine V_bipush (v := 12) rfl dX12_readRule_6 ?_
  refine V_icmp_ne (tgt := 17) dX12_readRule_8 rfl (fun c8 => ?_) (fun c8 => ?_)
  · have c8 : q.2.1 < 12 := by
      rcases Nat.lt_or_ge q.2.1 12 with h | h
      · exact h
      · exact absurd (congrArg nI (show q.2.1 = 12 by omega)) c8
    have hc1 := (Rch.rf (na := na) (f := f) (m := m) (e := e) (q := q)).step (hT.lt hk0) hn0 (hst.trans (if_pos c8))
    have T1 : MTf (mUp I 41 (12 * a + q.2.1) (rkF (wAt f m e))) f m e := hT.up (by decide) (by decide)
    refine V_bipush (v := 12) rfl dX12_readRule_17 ?_
    refine V_iln dX12_readRule_19 rfl ?_
    refine V_imul dX12_readRule_20 ?_
    refine V_aln dX12_readRule_21 rfl ?_
    refine V_getR dX12_readRule_22 flX12_88 (by assumption) rfl (by assumption) ?_
    refine V_iln dX12_readRule_25 rfl ?_
    refine V_ialdNv dX12_readRule_26 (by assumption) (by omega) (by omega) (hr1) ?_
    refine V_iadd dX12_readRule_27 ?_
    refine V_top (show 12 * nI a + nI q.2.1 = nI (12 * a + q.2.1) from by rw [show (12 : Int32) = nI 12 from rfl, nI_mul, nI_add]) ?_
    refine V_is3 dX12_readRule_28 ?_
    refine V_aln dX12_readRule_29 rfl ?_
    refine V_getR dX12_readRule_30 flX12_127 (by assumption) rfl (by assumption) ?_
    refine V_iln dX12_readRule_33 rfl ?_
    refine V_iln dX12_readRule_34 rfl ?_
    refine V_iastN dX12_readRule_35 (by assumption) (by omega) (by omega) ?_
    refine V_aln dX12_readRule_36 rfl ?_
    refine V_cV0 hM cvX12_68 (by assumption) rfl (n_scan hV T1 hk0) ⟨Nat.le_of_ble_eq_true rfl, Nat.le_of_ble_eq_true rfl, Nat.le_of_ble_eq_true rfl, Nat.le_of_ble_eq_true rfl⟩ (Nat.le_of_ble_eq_true rfl) dX12_readRule_37 (fun v nx2 sh2 J2 P2 h2 => ?_)
    obtain ⟨rfl, rfl, rfl, rfl, -, T2, F2⟩ := h2
    refine V_aln dX12_readRule_40 rfl ?_
    refine V_getR dX12_readRule_41 flX12_130 (by assumption) rfl (by assumption) ?_
    refine V_iln dX12_readRule_44 rfl ?_
    refine V_aln dX12_readRule_45 rfl ?_
    refine V_iconst (v := 0) rfl dX12_readRule_46 ?_
    refine V_iln dX12_readRule_47 rfl ?_
    refine V_iconst (v := 5) rfl dX12_readRule_48 ?_
    refine V_icmp_ne (tgt := 57) dX12_readRule_49 rfl (fun c49 => ?_) (fun c49 => ?_)
    · refine V_iln dX12_readRule_57 rfl ?_
      refine V_bipush (v := 6) rfl dX12_readRule_58 ?_
      refine V_icmp_lt (tgt := 68) dX12_readRule_60 rfl (fun c60 => ?_) (fun c60 => ?_)
      · refine V_sipush (v := 9999) rfl dX12_readRule_68 ?_
        refine V_top (y := tlF (rkF (wAt f m e))) (by rw [hkj, tl_m hj]; rw [hkj] at *; simp_all) ?_
        exact t71 (q1 := (upd (upd q.1 1 (rkF (wAt f m e))) 0 1, q.2)) hV ha hM hX T2 (RdM.rg (q := q) ((hR.up (c := 41) (by decide)).tk F2) rfl rfl rfl) ((RmF.rf.up (by omega)).tk F2) c8 rfl hc1 (by rw [F2.1 41 _ (by decide), mUp_s]; rfl)
      · refine V_bipush (v := 7) rfl dX12_readRule_63 ?_
        refine V_goto (tgt := 71) dX12_readRule_65 rfl ?_
        refine V_top (y := tlF (rkF (wAt f m e))) (by rw [hkj, tl_m hj]; rw [hkj] at *; simp_all) ?_
        exact t71 (q1 := (upd (upd q.1 1 (rkF (wAt f m e))) 0 1, q.2)) hV ha hM hX T2 (RdM.rg (q := q) ((hR.up (c := 41) (by decide)).tk F2) rfl rfl rfl) ((RmF.rf.up (by omega)).tk F2) c8 rfl hc1 (by rw [F2.1 41 _ (by decide), mUp_s]; rfl)
    · refine V_bipush (v := 15) rfl dX12_readRule_52 ?_
      refine V_goto (tgt := 71) dX12_readRule_54 rfl ?_
      refine V_top (y := tlF (rkF (wAt f m e))) (by rw [hkj, tl_m hj]; rw [hkj] at *; simp_all) ?_
      exact t71 (q1 := (upd (upd q.1 1 (rkF (wAt f m e))) 0 1, q.2)) hV ha hM hX T2 (RdM.rg (q := q) ((hR.up (c := 41) (by decide)).tk F2) rfl rfl rfl) ((RmF.rf.up (by omega)).tk F2) c8 rfl hc1 (by rw [F2.1 41 _ (by decide), mUp_s]; rfl)
  · have c8 : q.2.1 = 12 := nI_eqN (b := 12) (by omega) (by decide) (by first | exact c8 | exact Classical.not_not.mp c8)
    refine V_aln dX12_readRule_11 rfl ?_
    refine V_iconst (v := 4) rfl dX12_readRule_12 ?_
    refine V_cV1d hM cvX12_64 (by assumption) rfl (e_X12_wrong hV) ⟨Nat.le_of_ble_eq_true rfl, Nat.le_of_ble_eq_true rfl, Nat.le_of_ble_eq_true rfl, Nat.le_of_ble_eq_true rfl⟩ (Nat.le_of_ble_eq_true rfl) dX12_readRule_13 ?_
    exact V_athrow hX dX12_readRule_16 (lnT_of (wrM_tkT hT trivial) RmF.rf (fun _ => by decide) (fun _ => Rch.rf.no hn0 (hst.trans (if_neg (by omega)))))
end R4
