/-! ===== the reference's readAct ===== -/
def raR (na : Int32) (f : Nat → Int32) (m a e : Nat) (q : aS) (nx : Nat) (sh : Nat → Option mSh) (I : mI) (P : mP) : mPo := fun v nx' sh' I' P' => v = none ∧ nx = nx' ∧ sh = sh' ∧ P = P' ∧ RmF a I I' ∧ ∃ (d : Nat) (q' : aS), RdM I' a q' ∧ ∀ z, aRun na f m (z + d) e q = .inl q'
section RA
variable {X : mX} {B nx : Nat} {sh : Nat → Option mSh} {I : mI} {P : mP} {m e a n : Nat} {f : Nat → Int32} {q : aS}
theorem RmF.trans {J K : mI} (h : RmF a I J) (k : RmF a J K) : RmF a I K := ⟨fun i hi => (k.1 i hi).trans (h.1 i hi), fun c i hc h1 h2 => (k.2 c i hc h1 h2).trans (h.2 c i hc h1 h2)⟩
theorem RmF.transG {J K : mI} (h : RmF a I J) (k : RmG a J K) : RmG a I K := ⟨fun i hi => (k.1 i hi).trans (h.1 i (by omega)), fun c i hc h1 h2 => (k.2 c i hc h1 h2).trans (h.2 c i hc h1 h2)⟩
theorem Rch.trans {na : Int32} {d d' e' e'' : Nat} {q' q'' : aS} (h : Rch na f m e q d e' q') (k : Rch na f m e' q' d' e'' q'') : Rch na f m e q (d' + d) e'' q'' := ⟨fun z => by rw [← Nat.add_assoc, h.1, k.1], by have := h.2; have := k.2; omega⟩
theorem Rch.transN {na : Int32} {d d' e' : Nat} {q' : aS} {k : Int32} {t : Nat} (h : Rch na f m e q d e' q') (j : Rno na f m e' q' d' k t) : Rno na f m e q (d' + d) k t := fun z => by rw [← Nat.add_assoc, h.1, j]
theorem lnT.of {na : Int32} {d e1 : Nat} {q1 : aS} {J : mI} {v : Option Value} {nx' : Nat} {sh' : Nat → Option mSh} {I' : mI} {P' : mP} (hc : Rch na f m e q d e1 q1) (hF : RmF a I J) (h : lnT B na f m a e1 q1 nx sh J P v nx' sh' I' P') : lnT B na f m a e q nx sh I P v nx' sh' I' P' := by
  obtain ⟨h1, h2, h3, h4, h5, k, t, d', h6, h7, h8, h9⟩ := h
  exact ⟨h1, h2, h3, h4, hF.transG h5, k, t, d' + d, h6, h7, h8, hc.transN h9⟩
theorem l_X12_readAct {G : mG} (hV : MW sh P) (ha : a ≤ 12) (hn : n ≤ 12) (hM : mM X B "readAct" none 8 173 0 0 (raR (nI n) f m a e q nx sh I P) G) (hX : mT X B 0 0 (lnT B (nI n) f m a e q nx sh I P) G) : ∀ (z d e1 : Nat) (q1 : aS) (J : mI) (x : Option Value), m - e1 < z → MTf J f m e1 → RdM J a q1 → RmF a I J → q1.1 0 = 0 → J 35 0 = nI n → Rch (nI n) f m e q d e1 q1 → V X B RX12 cX12_readAct G 0 0 nx sh J P 33 [some (.ref (B + 35)), some (.int (nI a)), x] [] := by
  have s35 : sh 35 = some (.inl 12) := hV.1 35 _ rfl
  intro z
  induction z with
  | zero => intro d e1 q1 J x h; omega
  | succ z ih =>
    intro d e1 q1 J x hz hT hR hF h0 hna hc
    have tail : ∀ (k : Int32) (J2 : mI) (h : lnR (nI n) f m a e1 q1 nx sh J P none nx sh J2 P), V X B RX12 cX12_readAct G 0 0 nx sh J2 P 64 [some (.ref (B + 35)), some (.int (nI a)), some (.int k)] [] := by
      intro k J2 h
      obtain ⟨-, -, -, -, F2, d2, e2, q2, hd, T2, R2, h2, hc2⟩ := h
      have hcc := hc.trans hc2
      have hna2 : J2 35 0 = nI n := by rw [F2.1 0 (by omega)]; exact hna
      have hn2 : ¬ (tK f m e2 = 0 ∧ q2.1 0 = 0) := st_0k (s := 12) h2 (by decide)
      have hle := hc2.2
      refine V_aln dX12_readAct_64 rfl ?_
      refine V_getIv dX12_readAct_65 flX12_37 (by assumption) rfl (T2.h18) ?_
      refine V_iconst (v := 3) rfl dX12_readAct_68 ?_
      refine V_icmp_eq (tgt := 78) dX12_readAct_69 rfl (fun c69 => ?_) (fun c69 => ?_)
      · have hk3 : ¬ tK f m e2 = 0 := by rw [c69]; decide
        have hc3 := hcc.step (T2.lt hk3) hn2 ((aStep_12 h2).trans (if_pos c69))
        have hl3 := T2.lt hk3
        refine V_aln dX12_readAct_78 rfl ?_
        refine V_cV0 hM cvX12_68 (by assumption) rfl (n_scan hV T2 hk3) ⟨Nat.le_of_ble_eq_true rfl, Nat.le_of_ble_eq_true rfl, Nat.le_of_ble_eq_true rfl, Nat.le_of_ble_eq_true rfl⟩ (Nat.le_of_ble_eq_true rfl) dX12_readAct_79 (fun v nx3 sh3 J3 P3 h3 => ?_)
        obtain ⟨rfl, rfl, rfl, rfl, -, T3, F3⟩ := h3
        have hle3 := T3.le
        refine V_goto (tgt := 33) dX12_readAct_82 rfl ?_
        exact ih _ _ (upd q2.1 0 0, q2.2) J3 _ (by omega) T3 ((R2.tk F3).rg rfl rfl rfl) ((hF.trans F2).tk F3) rfl (by rw [F3.2 0 (by omega)]; exact hna2) hc3
      · refine V_aln dX12_readAct_72 rfl ?_
        refine V_iconst (v := 1) rfl dX12_readAct_73 ?_
        refine V_cV1d hM cvX12_64 (by assumption) rfl (e_X12_wrong hV) ⟨Nat.le_of_ble_eq_true rfl, Nat.le_of_ble_eq_true rfl, Nat.le_of_ble_eq_true rfl, Nat.le_of_ble_eq_true rfl⟩ (Nat.le_of_ble_eq_true rfl) dX12_readAct_74 ?_
        exact V_athrow hX dX12_readAct_77 (lnT_of (wrM_tkT T2 trivial) (hF.trans F2) (fun _ => by decide) (fun _ => hcc.no hn2 ((aStep_12 h2).trans (if_neg c69))))
    refine V_aln dX12_readAct_33 rfl ?_
    refine V_getIv dX12_readAct_34 flX12_37 (by assumption) rfl (hT.h18) ?_
    refine V_if_eq (tgt := 85) dX12_readAct_37 rfl (fun c37 => ?_) (fun c37 => ?_)
    · have hfin : ∀ z, aRun (nI n) f m (z + 1 + d) e q = .inl q1 := fun z => by rw [hc.1 (z + 1), aRun, if_pos ⟨c37, h0⟩]
      exact V_vret hM dX12_readAct_85 (⟨rfl, rfl, rfl, rfl, hF, 1 + d, q1, hR, fun z => by rw [← Nat.add_assoc]; exact hfin z⟩)
    · refine V_aln dX12_readAct_40 rfl ?_
      refine V_cV0d hM cvX12_105 (by assumption) rfl (n_kind hV hT) ⟨Nat.le_of_ble_eq_true rfl, Nat.le_of_ble_eq_true rfl, Nat.le_of_ble_eq_true rfl, Nat.le_of_ble_eq_true rfl⟩ (Nat.le_of_ble_eq_true rfl) dX12_readAct_41 ?_
      refine V_is2 dX12_readAct_44 ?_
      refine V_iln dX12_readAct_45 rfl ?_
      refine V_iconst (v := -1) rfl dX12_readAct_46 ?_
      refine V_icmp_eq (tgt := 59) dX12_readAct_47 rfl (fun c47 => ?_) (fun c47 => ?_)
      · refine V_aln dX12_readAct_59 rfl ?_
        refine V_iln dX12_readAct_60 rfl ?_
        refine V_callX hM hX cvX12_112 (by assumption) rfl (x_X12_readOther hV ha hT hR hna hn h0 c37 c47) rfl ⟨Nat.le_of_ble_eq_true rfl, Nat.le_of_ble_eq_true rfl, Nat.le_of_ble_eq_true rfl, Nat.le_of_ble_eq_true rfl⟩ rfl rfl (Nat.le_of_ble_eq_true rfl) dX12_readAct_61 rfl (fun _ _ _ _ _ h => lnT.of hc hF h) ((fun v nx2 sh2 J2 P2 h2 => ?_))
        obtain ⟨rfl, rfl, rfl, rfl, h2⟩ := h2
        exact tail _ J2 ⟨rfl, rfl, rfl, rfl, h2⟩
      · refine V_aln dX12_readAct_50 rfl ?_
        refine V_iln dX12_readAct_51 rfl ?_
        refine V_iln dX12_readAct_52 rfl ?_
        refine V_callX hM hX cvX12_108 (by assumption) rfl (x_X12_readRule (na := nI n) hV ha hT hR h0 c47) rfl ⟨Nat.le_of_ble_eq_true rfl, Nat.le_of_ble_eq_true rfl, Nat.le_of_ble_eq_true rfl, Nat.le_of_ble_eq_true rfl⟩ rfl rfl (Nat.le_of_ble_eq_true rfl) dX12_readAct_53 rfl (fun _ _ _ _ _ h => lnT.of hc hF h) ((fun v nx2 sh2 J2 P2 h2 => ?_))
        obtain ⟨rfl, rfl, rfl, rfl, h2⟩ := h2
        refine V_goto (tgt := 64) dX12_readAct_56 rfl ?_
        exact tail _ J2 ⟨rfl, rfl, rfl, rfl, h2⟩
theorem x_X12_readAct (hV : MW sh P) (ha : a ≤ 12) (hn : n ≤ 12) (hT : MTf I f m e) (hna : I 35 0 = nI n) (h0 : q.1 0 = 0) (h6 : q.1 6 = -1) (h7 : q.1 7 = -1) (h8 : q.1 8 = 0) (hq : q.2.1 = 0) : EvX X B mdX12_readAct 0 0 [.ref (B + 35), .int (nI a)] nx sh I P (raR (nI n) f m a e q nx sh I P) (lnT B (nI n) f m a e q nx sh I P) := by
  have s35 : sh 35 = some (.inl 12) := hV.1 35 _ rfl
  have s_ruleMany : sh 37 = some (.inr (0, 13)) := hV.1 37 _ rfl
  have p_ruleMany : P 35 2 = some 37 := hV.2 2 37 rfl
  have s_seal : sh 38 = some (.inr (0, 13)) := hV.1 38 _ rfl
  have p_seal : P 35 3 = some 38 := hV.2 3 38 rfl
  have s_part : sh 39 = some (.inr (0, 13)) := hV.1 39 _ rfl
  have p_part : P 35 4 = some 39 := hV.2 4 39 rfl
  have s_repeals : sh 40 = some (.inr (0, 13)) := hV.1 40 _ rfl
  have p_repeals : P 35 5 = some 40 := hV.2 5 40 rfl
  refine EvX.of (by decide) (by simp [Value.category]) (by simp) (fun G hM hX => ?_)
  have hM : mM X B "readAct" none 8 173 0 0 _ G := hM
  show V X B RX12 cX12_readAct G 0 0 nx sh I P 0 [some (.ref (B + 35)), some (.int (nI a)), none] []
  refine V_aln dX12_readAct_0 rfl ?_
  refine V_getR dX12_readAct_1 flX12_88 (by assumption) rfl (by assumption) ?_
  refine V_iln dX12_readAct_4 rfl ?_
  refine V_iconst (v := 0) rfl dX12_readAct_5 ?_
  refine V_iastN dX12_readAct_6 (by assumption) (by omega) (by omega) ?_
  refine V_aln dX12_readAct_7 rfl ?_
  refine V_getR dX12_readAct_8 flX12_92 (by assumption) rfl (by assumption) ?_
  refine V_iln dX12_readAct_11 rfl ?_
  refine V_iconst (v := 0) rfl dX12_readAct_12 ?_
  refine V_iastN dX12_readAct_13 (by assumption) (by omega) (by omega) ?_
  refine V_aln dX12_readAct_14 rfl ?_
  refine V_getR dX12_readAct_15 flX12_95 (by assumption) rfl (by assumption) ?_
  refine V_iln dX12_readAct_18 rfl ?_
  refine V_iconst (v := -1) rfl dX12_readAct_19 ?_
  refine V_iastN dX12_readAct_20 (by assumption) (by omega) (by omega) ?_
  refine V_aln dX12_readAct_21 rfl ?_
  refine V_getR dX12_readAct_22 flX12_98 (by assumption) rfl (by assumption) ?_
  refine V_iln dX12_readAct_25 rfl ?_
  refine V_iconst (v := 0) rfl dX12_readAct_26 ?_
  refine V_iastN dX12_readAct_27 (by assumption) (by omega) (by omega) ?_
  refine V_aln dX12_readAct_28 rfl ?_
  refine V_iconst (v := 0) rfl dX12_readAct_29 ?_
  refine V_putZ dX12_readAct_30 flX12_101 (by assumption) rfl rfl (by first | exact Or.inl rfl | exact Or.inr rfl) ?_
  refine l_X12_readAct hV ha hn hM hX (m + 1) 0 e q _ none (by omega) ?_ ?_ ?_ h0 ?_ Rch.rf
  · exact ((((hT.up (by decide) (by decide)).up (by decide) (by decide)).up (by decide) (by decide)).up (by decide) (by decide)).up35 (by omega)
  · refine ⟨?_, by omega, ?_, ?_, ?_, ?_, fun r hr => by omega⟩
    · rw [hq]; simp [mUp]; rfl
    · rw [mUp_s, h6]; rfl
    · rw [h6]; simp [mUp]; rfl
    · rw [h7]; simp [mUp]
    · rw [h8]; simp [mUp]
  · exact ((((RmF.rf.up (by omega)).up (by omega)).up (by omega)).up (by omega)).up22
  · simp [mUp]; exact hna
end RA
