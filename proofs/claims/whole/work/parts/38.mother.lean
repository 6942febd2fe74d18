/-! ===== the reference's readOther ===== -/
theorem nF_ge {k v hi : Int32} (h : nF k v 0 hi = 0) : k = 2 ∧ ¬ v < 0 ∧ ¬ hi < v := by
  unfold nF at h
  split at h
  · split at h
    · cases h
    · rename_i h1 h2
      exact ⟨h1, fun h => h2 (Or.inl h), fun h => h2 (Or.inr h)⟩
  · cases h
theorem MTf.h18 {J : mI} {f : Nat → Int32} {m e : Nat} (h : MTf J f m e) : J 35 18 = tK f m e := by rw [h.2.2.2.2.2.2.2.1, h.1]
theorem MTf.h19 {J : mI} {f : Nat → Int32} {m e : Nat} (h : MTf J f m e) (hk : tK f m e = 2) : J 35 19 = tN f m e 0 := by rw [h.2.2.2.2.2.2.2.2 (by rw [h.1]; exact hk), h.1]
theorem MTf.le {J : mI} {f : Nat → Int32} {m e : Nat} (h : MTf J f m e) : e ≤ m := h.2.2.2.1
theorem bI_0 {b : Bool} (h : bI b = 0) : b = false := by cases b; rfl; cases h
theorem bI_n0 {b : Bool} (h : ¬ bI b = 0) : b = true := by cases b; exact absurd rfl h; rfl
section OT
variable {X : mX} {B nx : Nat} {sh : Nat → Option mSh} {I J : mI} {P : mP} {m e a n d e1 : Nat} {f : Nat → Int32} {q q9 : aS} {G : mG}
theorem RdM_seal {K : mI} {v : Int32} (hR : RdM J a q) (hv : ¬ v < 0) (h22 : K 35 22 = 1) (hK : ∀ c k, c ≠ 35 → K c k = J c k) : RdM (mUp K 38 a v) a (upd (upd (upd q.1 0 10) 0 12) 6 v, q.2) := by
  obtain ⟨r1, r2, r3, r4, r5, r6, r7⟩ := hR
  have hv1 : ¬ v = -1 := fun h => hv (by rw [h]; decide)
  have hsd : sdF v = v := by
    unfold sdF
    split
    · rfl
    · rename_i h
      apply Int32.toInt_inj.mp
      simp only [i_lt] at h hv
      have e0 : (0 : Int32).toInt = 0 := rfl
      omega
  refine ⟨by rw [mUp_c (by decide), hK _ _ (by decide)]; exact r1, r2, ?_, ?_, ?_, ?_, fun r hr j hj => by rw [mUp_c (by omega), hK _ _ (by omega)]; exact r7 r hr j hj⟩
  · rw [mUp_c (by decide), h22]
    show 1 = bI (!decide (v = -1))
    rw [decide_eq_false hv1]
    rfl
  · rw [mUp_s]
    exact hsd.symm
  · rw [mUp_c (by decide), hK _ _ (by decide)]; exact r5
  · rw [mUp_c (by decide), hK _ _ (by decide)]; exact r6
theorem tPart (hV : MW sh P) (ha : a ≤ 12) (hT : MTf I f m e) (hR : RdM I a q) (h0 : q.1 0 = 0) (hk0 : ¬ tK f m e = 0) (hk : rkF (wAt f m e) = -1) (w8 : wAt f m e 8 = false) (w9 : wAt f m e 9 = false) (w10 : wAt f m e 10 = true) (hM : mM X B "readOther" none 6 129 0 0 (lnR (nI n) f m a e q nx sh I P) G) (hX : mT X B 0 0 (lnT B (nI n) f m a e q nx sh I P) G) : V X B RX12 cX12_readOther G 0 0 nx sh I P 139 [some (.ref (B + 35)), some (.int (nI a)), none] [] := by
  have s35 : sh 35 = some (.inl 12) := hV.1 35 _ rfl
  have s_part : sh 39 = some (.inr (0, 13)) := hV.1 39 _ rfl
  have p_part : P 35 4 = some 39 := hV.2 4 39 rfl
  have hn0 : ¬ (tK f m e = 0 ∧ q.1 0 = 0) := fun h => hk0 h.1
  have hst := (aStep_0 (na := nI n) (k := tK f m e) (num := tN f m e 0) (w := wAt f m e) h0).trans (if_pos hk)
  rw [w8, w9, w10] at hst
  have hst : aStep (nI n) (tK f m e) (tN f m e 0) (wAt f m e) q = if q.1 7 = -1 then .inl (upd q.1 0 11, q.2) else .inr 3 := hst
  obtain ⟨r1, r2, r3, r4, r5, r6, r7⟩ := id hR
  refine V_aln dX12_readOther_139 rfl ?_
  refine V_getR dX12_readOther_140 flX12_95 (by assumption) rfl (by assumption) ?_
  refine V_iln dX12_readOther_143 rfl ?_
  refine V_ialdNv dX12_readOther_144 (by assumption) (by omega) (by omega) (r5) ?_
  refine V_iconst (v := -1) rfl dX12_readOther_145 ?_
  refine V_icmp_eq (tgt := 155) dX12_readOther_146 rfl (fun c146 => ?_) (fun c146 => ?_)
  · have hc1 := (Rch.rf (na := nI n) (f := f) (m := m) (e := e) (q := q)).step (hT.lt hk0) hn0 (hst.trans (if_pos c146))
    have h11 : (upd q.1 0 11) 0 = nI 11 := rfl
    refine V_aln dX12_readOther_155 rfl ?_
    refine V_cV0 hM cvX12_68 (by assumption) rfl (n_scan hV hT hk0) ⟨Nat.le_of_ble_eq_true rfl, Nat.le_of_ble_eq_true rfl, Nat.le_of_ble_eq_true rfl, Nat.le_of_ble_eq_true rfl⟩ (Nat.le_of_ble_eq_true rfl) dX12_readOther_156 (fun v nx2 sh2 J2 P2 h2 => ?_)
    obtain ⟨rfl, rfl, rfl, rfl, -, T2, F2⟩ := h2
    refine V_aln dX12_readOther_159 rfl ?_
    refine V_getR dX12_readOther_160 flX12_95 (by assumption) rfl (by assumption) ?_
    refine V_iln dX12_readOther_163 rfl ?_
    refine V_aln dX12_readOther_164 rfl ?_
    refine V_iconst (v := 0) rfl dX12_readOther_165 ?_
    refine V_bipush (v := 100) rfl dX12_readOther_166 ?_
    refine V_callX hM hX cvX12_121 (by assumption) rfl (n_number hV T2) rfl ⟨Nat.le_of_ble_eq_true rfl, Nat.le_of_ble_eq_true rfl, Nat.le_of_ble_eq_true rfl, Nat.le_of_ble_eq_true rfl⟩ rfl rfl (Nat.le_of_ble_eq_true rfl) dX12_readOther_168 rfl (fun _ _ _ _ _ h => lnT_of h (RmF.rf.tk F2) (fun hw => hw) (fun hw => hc1.no (st_0k (s := 11) h11 (by decide)) ((aStep_11 h11).trans (by rw [aN]; exact if_neg hw)))) ((fun v nx3 sh3 J3 P3 h3 => ?_))
    obtain ⟨rfl, rfl, rfl, rfl, w3, T3, F3⟩ := h3
    have hc2 := hc1.step (T2.lt (nF_k w3)) (st_0k (s := 11) h11 (by decide)) ((aStep_11 h11).trans (by rw [aN]; exact if_pos w3))
    obtain ⟨s1, s2, s3, s4, s5, s6, s7⟩ := (hR.tk F2).tk F3
    refine V_iastN dX12_readOther_171 (by assumption) (by omega) (by omega) ?_
    refine V_goto (tgt := 181) dX12_readOther_172 rfl ?_
    exact V_vret hM dX12_readOther_181 (⟨rfl, rfl, rfl, rfl, ((RmF.rf.tk F2).tk F3).up (by omega), _, _, (upd (upd (upd q.1 0 11) 0 12) 7 (tN f m (tE f m e) 0), q.2), Nat.succ_pos _, T3.up (by decide) (by decide), ⟨by rw [mUp_c (by decide)]; exact s1, s2, by rw [mUp_c (by decide)]; exact s3, by rw [mUp_c (by decide)]; exact s4, by rw [mUp_s]; rfl, by rw [mUp_c (by decide)]; exact s6, fun r hr j hj => by rw [mUp_c (by omega)]; exact s7 r hr j hj⟩, rfl, hc2⟩)
  · refine V_aln dX12_readOther_149 rfl ?_
    refine V_iconst (v := 3) rfl dX12_readOther_150 ?_
    refine V_cV1d hM cvX12_64 (by assumption) rfl (e_X12_wrong hV) ⟨Nat.le_of_ble_eq_true rfl, Nat.le_of_ble_eq_true rfl, Nat.le_of_ble_eq_true rfl, Nat.le_of_ble_eq_true rfl⟩ (Nat.le_of_ble_eq_true rfl) dX12_readOther_151 ?_
    exact V_athrow hX dX12_readOther_154 (lnT_of (wrM_tkT hT trivial) RmF.rf (fun _ => by decide) (fun _ => Rch.rf.no hn0 (hst.trans (if_neg c146))))
theorem tSeal (hV : MW sh P) (ha : a ≤ 12) (hT : MTf I f m e) (hR : RdM I a q) (h0 : q.1 0 = 0) (hk0 : ¬ tK f m e = 0) (hk : rkF (wAt f m e) = -1) (w8 : wAt f m e 8 = false) (w9 : wAt f m e 9 = true) (hM : mM X B "readOther" none 6 129 0 0 (lnR (nI n) f m a e q nx sh I P) G) (hX : mT X B 0 0 (lnT B (nI n) f m a e q nx sh I P) G) : V X B RX12 cX12_readOther G 0 0 nx sh I P 91 [some (.ref (B + 35)), some (.int (nI a)), none] [] := by
  have s35 : sh 35 = some (.inl 12) := hV.1 35 _ rfl
  have s_seal : sh 38 = some (.inr (0, 13)) := hV.1 38 _ rfl
  have p_seal : P 35 3 = some 38 := hV.2 3 38 rfl
  have hn0 : ¬ (tK f m e = 0 ∧ q.1 0 = 0) := fun h => hk0 h.1
  have hst := (aStep_0 (na := nI n) (k := tK f m e) (num := tN f m e 0) (w := wAt f m e) h0).trans (if_pos hk)
  rw [w8, w9] at hst
  have hst : aStep (nI n) (tK f m e) (tN f m e 0) (wAt f m e) q = if q.1 6 = -1 then .inl (upd q.1 0 10, q.2) else .inr 3 := hst
  have r3 := hR.2.2.1
  refine V_aln dX12_readOther_91 rfl ?_
  refine V_getIv dX12_readOther_92 flX12_101 (by assumption) rfl (r3) ?_
  refine V_if_eq (tgt := 104) dX12_readOther_95 rfl (fun c95 => ?_) (fun c95 => ?_)
  · have c95 : q.1 6 = -1 := by have := bI_0 c95; simpa using this
    have hc1 := (Rch.rf (na := nI n) (f := f) (m := m) (e := e) (q := q)).step (hT.lt hk0) hn0 (hst.trans (if_pos c95))
    have h10 : (upd q.1 0 10) 0 = nI 10 := rfl
    have T1 : MTf (mUp I 35 22 1) f m e := hT.up35 (by omega)
    refine V_aln dX12_readOther_104 rfl ?_
    refine V_iconst (v := 1) rfl dX12_readOther_105 ?_
    refine V_putZ dX12_readOther_106 flX12_101 (by assumption) rfl rfl (by first | exact Or.inl rfl | exact Or.inr rfl) ?_
    refine V_aln dX12_readOther_109 rfl ?_
    refine V_cV0 hM cvX12_68 (by assumption) rfl (n_scan hV T1 hk0) ⟨Nat.le_of_ble_eq_true rfl, Nat.le_of_ble_eq_true rfl, Nat.le_of_ble_eq_true rfl, Nat.le_of_ble_eq_true rfl⟩ (Nat.le_of_ble_eq_true rfl) dX12_readOther_110 (fun v nx2 sh2 J2 P2 h2 => ?_)
    obtain ⟨rfl, rfl, rfl, rfl, -, T2, F2⟩ := h2
    refine V_aln dX12_readOther_113 rfl ?_
    refine V_getR dX12_readOther_114 flX12_92 (by assumption) rfl (by assumption) ?_
    refine V_iln dX12_readOther_117 rfl ?_
    refine V_aln dX12_readOther_118 rfl ?_
    refine V_iconst (v := 0) rfl dX12_readOther_119 ?_
    refine V_sipush (v := 9999) rfl dX12_readOther_120 ?_
    refine V_callX hM hX cvX12_121 (by assumption) rfl (n_number hV T2) rfl ⟨Nat.le_of_ble_eq_true rfl, Nat.le_of_ble_eq_true rfl, Nat.le_of_ble_eq_true rfl, Nat.le_of_ble_eq_true rfl⟩ rfl rfl (Nat.le_of_ble_eq_true rfl) dX12_readOther_123 rfl (fun _ _ _ _ _ h => lnT_of h ((RmF.rf.up22).tk F2) (fun hw => hw) (fun hw => hc1.no (st_0k (s := 10) h10 (by decide)) ((aStep_10 h10).trans (by rw [aN]; exact if_neg hw)))) ((fun v nx3 sh3 J3 P3 h3 => ?_))
    obtain ⟨rfl, rfl, rfl, rfl, w3, T3, F3⟩ := h3
    have hc2 := hc1.step (T2.lt (nF_k w3)) (st_0k (s := 10) h10 (by decide)) ((aStep_10 h10).trans (by rw [aN]; exact if_pos w3))
    refine V_iastN dX12_readOther_126 (by assumption) (by omega) (by omega) ?_
    refine V_goto (tgt := 181) dX12_readOther_127 rfl ?_
    exact V_vret hM dX12_readOther_181 (⟨rfl, rfl, rfl, rfl, (((RmF.rf.up22).tk F2).tk F3).up (by omega), _, _, _, Nat.succ_pos _, T3.up (by decide) (by decide), RdM_seal hR (nF_ge w3).2.1 (by rw [F3.2 22 (by omega), F2.2 22 (by omega), mUp_s]) (fun c k hc => by rw [F3.1 c k hc, F2.1 c k hc, mUp_c hc]), rfl, hc2⟩)
  · have c95 : ¬ q.1 6 = -1 := by have := bI_n0 c95; simpa using this
    refine V_aln dX12_readOther_98 rfl ?_
    refine V_iconst (v := 3) rfl dX12_readOther_99 ?_
    refine V_cV1d hM cvX12_64 (by assumption) rfl (e_X12_wrong hV) ⟨Nat.le_of_ble_eq_true rfl, Nat.le_of_ble_eq_true rfl, Nat.le_of_ble_eq_true rfl, Nat.le_of_ble_eq_true rfl⟩ (Nat.le_of_ble_eq_true rfl) dX12_readOther_100 ?_
    exact V_athrow hX dX12_readOther_103 (lnT_of (wrM_tkT hT trivial) RmF.rf (fun _ => by decide) (fun _ => Rch.rf.no hn0 (hst.trans (if_neg c95))))
theorem t55 {v : Nat} (hV : MW sh P) (ha : a ≤ 12) (hna : J 35 0 = nI n) (hT : MTf J f m e1) (hR : RdM J a q) (hF : RmF a I J) (hc : Rch (nI n) f m e q d e1 (upd q.1 0 9, q.2)) (hfree : nF (tK f m e1) (tN f m e1 0) 0 (nI n - 1) = 0 → q.1 8 &&& bt (tN f m e1 0) = 0) (hM : mM X B "readOther" none 6 129 0 0 (lnR (nI n) f m a e q nx sh I P) G) (hX : mT X B 0 0 (lnT B (nI n) f m a e q nx sh I P) G) : V X B RX12 cX12_readOther G 0 0 nx sh J P 55 [some (.ref (B + 35)), some (.int (nI a)), none] [] := by
  have s35 : sh 35 = some (.inl 12) := hV.1 35 _ rfl
  have s_repeals : sh 40 = some (.inr (0, 13)) := hV.1 40 _ rfl
  have p_repeals : P 35 5 = some 40 := hV.2 5 40 rfl
  have h9 : (upd q.1 0 9) 0 = nI 9 := rfl
  refine V_aln dX12_readOther_55 rfl ?_
  refine V_iconst (v := 0) rfl dX12_readOther_56 ?_
  refine V_aln dX12_readOther_57 rfl ?_
  refine V_getIv dX12_readOther_58 flX12_118 (by assumption) rfl (hna) ?_
  refine V_iconst (v := 1) rfl dX12_readOther_61 ?_
  refine V_isub dX12_readOther_62 ?_
  refine V_callX hM hX cvX12_121 (by assumption) rfl (n_number hV hT) rfl ⟨Nat.le_of_ble_eq_true rfl, Nat.le_of_ble_eq_true rfl, Nat.le_of_ble_eq_true rfl, Nat.le_of_ble_eq_true rfl⟩ rfl rfl (Nat.le_of_ble_eq_true rfl) dX12_readOther_63 rfl (fun _ _ _ _ _ h => lnT_of h hF (fun hw => hw) (fun hw => hc.no (st_0k (s := 9) h9 (by decide)) ((aStep_9 h9).trans (if_neg hw)))) ((fun v nx3 sh3 J3 P3 h3 => ?_))
  obtain ⟨rfl, rfl, rfl, rfl, w3, T3, F3⟩ := h3
  have hc2 := hc.step (hT.lt (nF_k w3)) (st_0k (s := 9) h9 (by decide)) ((aStep_9 h9).trans ((if_pos w3).trans (if_pos (hfree w3))))
  obtain ⟨s1, s2, s3, s4, s5, s6, s7⟩ := hR.tk F3
  refine V_is2 dX12_readOther_66 ?_
  refine V_aln dX12_readOther_67 rfl ?_
  refine V_getR dX12_readOther_68 flX12_98 (by assumption) rfl (by assumption) ?_
  refine V_iln dX12_readOther_71 rfl ?_
  refine V_dup2 rfl rfl dX12_readOther_72 ?_
  refine V_ialdNv dX12_readOther_73 (by assumption) (by omega) (by omega) (s6) ?_
  refine V_iconst (v := 1) rfl dX12_readOther_74 ?_
  refine V_iln dX12_readOther_75 rfl ?_
  refine V_ishl dX12_readOther_76 ?_
  refine V_ior dX12_readOther_77 ?_
  refine V_iastN dX12_readOther_78 (by assumption) (by omega) (by omega) ?_
  refine V_goto (tgt := 181) dX12_readOther_79 rfl ?_
  exact V_vret hM dX12_readOther_181 (⟨rfl, rfl, rfl, rfl, (hF.tk F3).up (by omega), _, _, (upd (upd (upd q.1 0 9) 0 12) 8 (q.1 8 ||| bt (tN f m e1 0)), q.2), Nat.succ_pos _, T3.up (by decide) (by decide), ⟨by rw [mUp_c (by decide)]; exact s1, s2, by rw [mUp_c (by decide)]; exact s3, by rw [mUp_c (by decide)]; exact s4, by rw [mUp_c (by decide)]; exact s5, by rw [mUp_s]; rfl, fun r hr j hj => by rw [mUp_c (by omega)]; exact s7 r hr j hj⟩, rfl, hc2⟩)
theorem tRep (hV : MW sh P) (ha : a ≤ 12) (hna : I 35 0 = nI n) (hn : n ≤ 12) (hT : MTf I f m e) (hR : RdM I a q) (h0 : q.1 0 = 0) (hk0 : ¬ tK f m e = 0) (hk : rkF (wAt f m e) = -1) (w8 : wAt f m e 8 = true) (hM : mM X B "readOther" none 6 129 0 0 (lnR (nI n) f m a e q nx sh I P) G) (hX : mT X B 0 0 (lnT B (nI n) f m a e q nx sh I P) G) : V X B RX12 cX12_readOther G 0 0 nx sh I P 9 [some (.ref (B + 35)), some (.int (nI a)), none] [] := by
  have s35 : sh 35 = some (.inl 12) := hV.1 35 _ rfl
  have s_repeals : sh 40 = some (.inr (0, 13)) := hV.1 40 _ rfl
  have p_repeals : P 35 5 = some 40 := hV.2 5 40 rfl
  have hn0 : ¬ (tK f m e = 0 ∧ q.1 0 = 0) := fun h => hk0 h.1
  have hst := (aStep_0 (na := nI n) (k := tK f m e) (num := tN f m e 0) (w := wAt f m e) h0).trans (if_pos hk)
  rw [w8] at hst
  have hc1 := (Rch.rf (na := nI n) (f := f) (m := m) (e := e) (q := q)).step (hT.lt hk0) hn0 hst
  have h9 : (upd q.1 0 9) 0 = nI 9 := rfl
  refine V_aln dX12_readOther_9 rfl ?_
  refine V_cV0 hM cvX12_68 (by assumption) rfl (n_scan hV hT hk0) ⟨Nat.le_of_ble_eq_true rfl, Nat.le_of_ble_eq_true rfl, Nat.le_of_ble_eq_true rfl, Nat.le_of_ble_eq_true rfl⟩ (Nat.le_of_ble_eq_true rfl) dX12_readOther_10 (fun v nx2 sh2 J2 P2 h2 => ?_)
  obtain ⟨rfl, rfl, rfl, rfl, -, T2, F2⟩ := h2
  have hna2 : J2 35 0 = nI n := by rw [F2.2 0 (by omega)]; exact hna
  have R2 := hR.tk F2
  have g18 := T2.h18
  have go : (nF (tK f m (tE f m e)) (tN f m (tE f m e) 0) 0 (nI n - 1) = 0 → q.1 8 &&& bt (tN f m (tE f m e) 0) = 0) → V X B RX12 cX12_readOther G 0 0 nx sh J2 P 55 [some (.ref (B + 35)), some (.int (nI a)), none] [] := fun hf => t55 (v := 0) hV ha hna2 T2 R2 (RmF.rf.tk F2) hc1 hf hM hX
  refine V_aln dX12_readOther_13 rfl ?_
  refine V_getIv dX12_readOther_14 flX12_37 (by assumption) rfl (g18) ?_
  refine V_iconst (v := 2) rfl dX12_readOther_17 ?_
  refine V_icmp_ne (tgt := 55) dX12_readOther_18 rfl (fun c18 => ?_) (fun c18 => ?_)
  · exact go (fun h => absurd (nF_ge h).1 c18) --done
  · have c18 : tK f m (tE f m e) = 2 := by first | exact c18 | exact Classical.not_not.mp c18
    have g19 := T2.h19 c18
    obtain ⟨v, v1, v2⟩ := tN_nat T2.le c18
    rw [v2] at g19
    refine V_aln dX12_readOther_21 rfl ?_
    refine V_getIv dX12_readOther_22 flX12_47 (by assumption) rfl (g19) ?_
    refine V_aln dX12_readOther_25 rfl ?_
    refine V_getIv dX12_readOther_26 flX12_118 (by assumption) rfl (hna2) ?_
    refine V_icmp_ge (tgt := 55) dX12_readOther_29 rfl (fun c29 => ?_) (fun c29 => ?_)
    · have c29 := nN_le c29 (by omega) (by omega)
      exact go (fun h => by
        exfalso
        rw [v2] at h
        have h2 := (nF_ge h).2.2
        rcases Nat.eq_zero_or_pos n with rfl | hp
        · exact h2 (by rw [show nI 0 - 1 = -1 from rfl]; simp only [i_lt]; rw [nI_toInt (by omega)]; have : (-1 : Int32).toInt = -1 := rfl; omega)
        · exact h2 (by rw [show nI n - 1 = nI (n - 1) from pk_sub hp]; exact (nI_ltI (by omega) (by omega)).mpr (by omega))) --done
    · have c29 := nN_nle c29 (by omega) (by omega)
      have hp : 0 < n := by omega
      have hnf : nF (tK f m (tE f m e)) (tN f m (tE f m e) 0) 0 (nI n - 1) = 0 := by
        rw [c18, v2, nF, if_pos rfl, if_neg]
        rintro (h | h)
        · simp only [i_lt] at h; rw [nI_toInt (by omega)] at h; have : (0 : Int32).toInt = 0 := rfl; omega
        · rw [show nI n - 1 = nI (n - 1) from pk_sub hp] at h; have := (nI_ltI (by omega) (by omega)).mp h; omega
      refine V_aln dX12_readOther_32 rfl ?_
      refine V_getR dX12_readOther_33 flX12_98 (by assumption) rfl (by assumption) ?_
      refine V_iln dX12_readOther_36 rfl ?_
      refine V_ialdNv dX12_readOther_37 (by assumption) (by omega) (by omega) (R2.2.2.2.2.2.1) ?_
      refine V_aln dX12_readOther_38 rfl ?_
      refine V_getIv dX12_readOther_39 flX12_47 (by assumption) rfl (g19) ?_
      refine V_ishr dX12_readOther_42 ?_
      refine V_iconst (v := 1) rfl dX12_readOther_43 ?_
      refine V_iand dX12_readOther_44 ?_
      refine V_iconst (v := 1) rfl dX12_readOther_45 ?_
      refine V_icmp_ne (tgt := 55) dX12_readOther_46 rfl (fun c46 => ?_) (fun c46 => ?_)
      · exact go (fun _ => by
          rw [v2, bt, and_bt (by omega)]
          cases hb : bit (q.1 8) v with
          | false => rfl
          | true => exact absurd ((shr_bit (by omega)).mpr hb) c46) --done
      · have c46 := (shr_bit (x := q.1 8) (j := v) (by omega)).mp (by first | exact c46 | exact Classical.not_not.mp c46)
        have hz : ¬ q.1 8 &&& bt (tN f m (tE f m e) 0) = 0 := by rw [v2, bt, and_bt (by omega), c46]; decide
        refine V_aln dX12_readOther_49 rfl ?_
        refine V_iconst (v := 3) rfl dX12_readOther_50 ?_
        refine V_cV1d hM cvX12_64 (by assumption) rfl (e_X12_wrong hV) ⟨Nat.le_of_ble_eq_true rfl, Nat.le_of_ble_eq_true rfl, Nat.le_of_ble_eq_true rfl, Nat.le_of_ble_eq_true rfl⟩ (Nat.le_of_ble_eq_true rfl) dX12_readOther_51 ?_
        exact V_athrow hX dX12_readOther_54 (lnT_of (wrM_tkT T2 trivial) (RmF.rf.tk F2) (fun _ => by decide) (fun _ => hc1.no (st_0k (s := 9) h9 (by decide)) ((aStep_9 h9).trans ((if_pos hnf).trans (if_neg hz)))))
theorem x_X12_readOther (hV : MW sh P) (ha : a ≤ 12) (hT : MTf I f m e) (hR : RdM I a q) (hna : I 35 0 = nI n) (hn : n ≤ 12) (h0 : q.1 0 = 0) (hk0 : ¬ tK f m e = 0) (hk : rkF (wAt f m e) = -1) : EvX X B mdX12_readOther 0 0 [.ref (B + 35), .int (nI a)] nx sh I P (lnR (nI n) f m a e q nx sh I P) (lnT B (nI n) f m a e q nx sh I P) := by
  have s35 : sh 35 = some (.inl 12) := hV.1 35 _ rfl
  have hn0 : ¬ (tK f m e = 0 ∧ q.1 0 = 0) := fun h => hk0 h.1
  have hst := (aStep_0 (na := nI n) (k := tK f m e) (num := tN f m e 0) (w := wAt f m e) h0).trans (if_pos hk)
  refine EvX.of (by decide) (by simp [Value.category]) (by simp) (fun G hM hX => ?_)
  have hM : mM X B "readOther" none 6 129 0 0 _ G := hM
  show V X B RX12 cX12_readOther G 0 0 nx sh I P 0 [some (.ref (B + 35)), some (.int (nI a)), none] []
  refine V_aln dX12_readOther_0 rfl ?_
  refine V_ldcS (i := 35) rfl dX12_readOther_1 ?_
  refine V_cV1d hM cvX12_60 (by assumption) rfl (n_is (i := 8) hV hT (by decide)) ⟨Nat.le_of_ble_eq_true rfl, Nat.le_of_ble_eq_true rfl, Nat.le_of_ble_eq_true rfl, Nat.le_of_ble_eq_true rfl⟩ (Nat.le_of_ble_eq_true rfl) dX12_readOther_3 ?_
  refine V_ifeq_b (tgt := 82) dX12_readOther_6 rfl (fun c6 => ?_) (fun c6 => ?_)
  · refine V_aln dX12_readOther_82 rfl ?_
    refine V_ldcS (i := 36) rfl dX12_readOther_83 ?_
    refine V_cV1d hM cvX12_60 (by assumption) rfl (n_is (i := 9) hV hT (by decide)) ⟨Nat.le_of_ble_eq_true rfl, Nat.le_of_ble_eq_true rfl, Nat.le_of_ble_eq_true rfl, Nat.le_of_ble_eq_true rfl⟩ (Nat.le_of_ble_eq_true rfl) dX12_readOther_85 ?_
    refine V_ifeq_b (tgt := 130) dX12_readOther_88 rfl (fun c88 => ?_) (fun c88 => ?_)
    · refine V_aln dX12_readOther_130 rfl ?_
      refine V_ldcS (i := 37) rfl dX12_readOther_131 ?_
      refine V_cV1d hM cvX12_60 (by assumption) rfl (n_is (i := 10) hV hT (by decide)) ⟨Nat.le_of_ble_eq_true rfl, Nat.le_of_ble_eq_true rfl, Nat.le_of_ble_eq_true rfl, Nat.le_of_ble_eq_true rfl⟩ (Nat.le_of_ble_eq_true rfl) dX12_readOther_133 ?_
      refine V_ifeq_b (tgt := 175) dX12_readOther_136 rfl (fun c136 => ?_) (fun c136 => ?_)
      · refine V_aln dX12_readOther_175 rfl ?_
        refine V_iconst (v := 1) rfl dX12_readOther_176 ?_
        refine V_cV1d hM cvX12_64 (by assumption) rfl (e_X12_wrong hV) ⟨Nat.le_of_ble_eq_true rfl, Nat.le_of_ble_eq_true rfl, Nat.le_of_ble_eq_true rfl, Nat.le_of_ble_eq_true rfl⟩ (Nat.le_of_ble_eq_true rfl) dX12_readOther_177 ?_
        exact V_athrow hX dX12_readOther_180 (lnT_of (wrM_tkT hT trivial) RmF.rf (fun _ => by decide) (fun _ => Rch.rf.no hn0 (hst.trans (by rw [c6, c88, c136]; rfl))))
      · exact tPart hV ha hT hR h0 hk0 hk c6 c88 c136 hM hX
    · exact tSeal hV ha hT hR h0 hk0 hk c6 c88 hM hX
  · exact tRep hV ha hna hn hT hR h0 hk0 hk c6 hM hX
end OT
