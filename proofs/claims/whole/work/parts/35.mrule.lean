/-! ===== the reference's readRule ===== -/
theorem st_0k {q : aS} {e : Nat} {f : Nat → Int32} {m s : Nat} (h : q.1 0 = nI s) (hs : 0 < s ∧ s < 20) : ¬ (tK f m e = 0 ∧ q.1 0 = 0) := by
  rintro ⟨-, h2⟩
  have := nI_eqN (a := s) (b := 0) (by omega) (by decide) (h.symm.trans h2)
  omega
theorem ww_k {f : Nat → Int32} {m e : Nat} (h : ¬ wwF (wAt f m e) = -1) : ¬ tK f m e = 0 := by
  intro h0
  have hw : ∀ i, wAt f m e i = false := fun i => by rw [wAt, h0]; rfl
  exact h (by simp [wwF, hw])
/-- a rule more -/
def q12F (q : aS) (num : Int32) : aS := (upd q.1 0 12, q.2.1 + 1, fun r j => if r = q.2.1 then aFld q.1 num j else q.2.2 r j)
theorem RdM_add {J : mI} {a : Nat} {q : aS} {num : Int32} (hR : RdM J a q) (hn : q.2.1 < 12) (c1 : J 41 (12 * a + q.2.1) = q.1 1) (c2 : J 42 (12 * a + q.2.1) = q.1 2) (c3 : J 43 (12 * a + q.2.1) = q.1 3) (c4 : J 44 (12 * a + q.2.1) = q.1 4) (c5 : J 45 (12 * a + q.2.1) = q.1 5) : RdM (mUp (mUp J 46 (12 * a + q.2.1) num) 37 a (nI (q.2.1 + 1))) a (q12F q num) := by
  obtain ⟨h1, h2, h3, h4, h5, h6, h7⟩ := hR
  refine ⟨by rw [mUp_s]; rfl, by show q.2.1 + 1 ≤ 12; omega, by rw [mUp_c (by decide), mUp_c (by decide)]; exact h3, by rw [mUp_c (by decide), mUp_c (by decide)]; exact h4, by rw [mUp_c (by decide), mUp_c (by decide)]; exact h5, by rw [mUp_c (by decide), mUp_c (by decide)]; exact h6, fun r hr j hj => ?_⟩
  have hr : r < q.2.1 + 1 := hr
  rw [mUp_c (by omega)]
  show _ = (if r = q.2.1 then aFld q.1 num j else q.2.2 r j)
  by_cases hr2 : r = q.2.1
  · subst hr2
    rw [if_pos rfl]
    rcases (show j = 0 ∨ j = 1 ∨ j = 2 ∨ j = 3 ∨ j = 4 ∨ j = 5 by omega) with rfl | rfl | rfl | rfl | rfl | rfl
    · rw [mUp_c (by decide)]; exact c1
    · rw [mUp_c (by decide)]; exact c2
    · rw [mUp_c (by decide)]; exact c3
    · rw [mUp_c (by decide)]; exact c4
    · rw [mUp_c (by decide)]; exact c5
    · exact mUp_s
  · rw [if_neg hr2, mUp_k (by omega)]
    exact h7 r (by omega) j hj
section RR
variable {X : mX} {B nx : Nat} {sh : Nat → Option mSh} {I J : mI} {P : mP} {m e a d e3 : Nat} {f : Nat → Int32} {na k : Int32} {q q6 : aS} {G : mG}
/-- the line's end: its occasion is known -/
theorem t207 (hV : MW sh P) (ha : a ≤ 12) (hM : mM X B "readRule" none 7 150 0 0 (lnR na f m a e q nx sh I P) G) (hX : mT X B 0 0 (lnT B na f m a e q nx sh I P) G) (hT : MTf J f m e3) (hR : RdM J a q6) (hF : RmF a I J) (hn : q6.2.1 < 12) (h0 : q6.1 0 = 6) (hc : Rch na f m e q d e3 q6) (c1 : J 41 (12 * a + q6.2.1) = q6.1 1) (c2 : J 42 (12 * a + q6.2.1) = q6.1 2) (c3 : J 43 (12 * a + q6.2.1) = q6.1 3) (c4 : J 44 (12 * a + q6.2.1) = q6.1 4) : V X B RX12 cX12_readRule G 0 0 nx sh J P 207 [some (.ref (B + 35)), some (.int (nI a)), some (.int k), some (.int (nI (12 * a + q6.2.1)))] [.int (wwF (wAt f m e3)), .int (nI (12 * a + q6.2.1)), .ref (B + 45)] := by
  have s35 : sh 35 = some (.inl 12) := hV.1 35 _ rfl
  have s_when : sh 45 = some (.inr (0, 156)) := hV.1 45 _ rfl
  have p_when : P 35 10 = some 45 := hV.2 10 45 rfl
  have s_fine : sh 46 = some (.inr (0, 156)) := hV.1 46 _ rfl
  have p_fine : P 35 11 = some 46 := hV.2 11 46 rfl
  have s_ruleMany : sh 37 = some (.inr (0, 13)) := hV.1 37 _ rfl
  have p_ruleMany : P 35 2 = some 37 := hV.2 2 37 rfl
  have hst := aStep_6 (na := na) (k := tK f m e3) (num := tN f m e3 0) (w := wAt f m e3) h0
  have hn0 : ¬ (tK f m e3 = 0 ∧ q6.1 0 = 0) := st_0k (s := 6) h0 (by decide)
  have T1 : MTf (mUp J 45 (12 * a + q6.2.1) (wwF (wAt f m e3))) f m e3 := hT.up (by decide) (by decide)
  have F1 : RmF a I (mUp J 45 (12 * a + q6.2.1) (wwF (wAt f m e3))) := hF.up (by omega)
  have R1 : RdM (mUp J 45 (12 * a + q6.2.1) (wwF (wAt f m e3))) a q6 := hR.up (by decide)
  refine V_iastN dX12_readRule_207 (by assumption) (by omega) (by omega) ?_
  refine V_aln dX12_readRule_208 rfl ?_
  refine V_getR dX12_readRule_209 flX12_148 (by assumption) rfl (by assumption) ?_
  refine V_iln dX12_readRule_212 rfl ?_
  refine V_ialdNv dX12_readRule_213 (by assumption) (by omega) (by omega) (mUp_s) ?_
  refine V_iconst (v := -1) rfl dX12_readRule_214 ?_
  refine V_icmp_ne (tgt := 224) dX12_readRule_215 rfl (fun c215 => ?_) (fun c215 => ?_)
  · have hc7 := hc.step (hT.lt (ww_k c215)) hn0 (hst.trans (if_neg c215))
    have h7 : (upd (upd q6.1 5 (wwF (wAt f m e3))) 0 7) 0 = nI 7 := rfl
    refine V_aln dX12_readRule_224 rfl ?_
    refine V_cV0 hM cvX12_68 (by assumption) rfl (n_scan hV T1 (ww_k c215)) ⟨Nat.le_of_ble_eq_true rfl, Nat.le_of_ble_eq_true rfl, Nat.le_of_ble_eq_true rfl, Nat.le_of_ble_eq_true rfl⟩ (Nat.le_of_ble_eq_true rfl) dX12_readRule_225 (fun v nx2 sh2 J2 P2 h2 => ?_)
    obtain ⟨rfl, rfl, rfl, rfl, -, T2, F2⟩ := h2
    refine V_aln dX12_readRule_228 rfl ?_
    refine V_ldcS (i := 34) rfl dX12_readRule_229 ?_
    refine V_callX hM hX cvX12_142 (by assumption) rfl (n_need (i := 18) hV T2 (by decide)) rfl ⟨Nat.le_of_ble_eq_true rfl, Nat.le_of_ble_eq_true rfl, Nat.le_of_ble_eq_true rfl, Nat.le_of_ble_eq_true rfl⟩ rfl rfl (Nat.le_of_ble_eq_true rfl) dX12_readRule_231 rfl (fun _ _ _ _ _ h => lnT_of h (F1.tk F2) (fun _ => by decide) (fun hw => hc7.no (st_0k (s := 7) h7 (by decide)) ((aStep_7 h7).trans (by rw [hw]; rfl)))) ((fun v nx3 sh3 J3 P3 h3 => ?_))
    obtain ⟨rfl, rfl, rfl, rfl, w3, T3, F3⟩ := h3
    have hc8 := hc7.step (T2.lt (wAt_k w3)) (st_0k (s := 7) h7 (by decide)) ((aStep_7 h7).trans (by rw [w3]; rfl))
    have h8 : (upd (upd (upd q6.1 5 (wwF (wAt f m e3))) 0 7) 0 8) 0 = nI 8 := rfl
    refine V_aln dX12_readRule_234 rfl ?_
    refine V_getR dX12_readRule_235 flX12_161 (by assumption) rfl (by assumption) ?_
    refine V_iln dX12_readRule_238 rfl ?_
    refine V_aln dX12_readRule_239 rfl ?_
    refine V_iconst (v := 0) rfl dX12_readRule_240 ?_
    refine V_sipush (v := 9999) rfl dX12_readRule_241 ?_
    refine V_callX hM hX cvX12_121 (by assumption) rfl (n_number hV T3) rfl ⟨Nat.le_of_ble_eq_true rfl, Nat.le_of_ble_eq_true rfl, Nat.le_of_ble_eq_true rfl, Nat.le_of_ble_eq_true rfl⟩ rfl rfl (Nat.le_of_ble_eq_true rfl) dX12_readRule_244 rfl (fun _ _ _ _ _ h => lnT_of h ((F1.tk F2).tk F3) (fun hw => hw) (fun hw => hc8.no (st_0k (s := 8) h8 (by decide)) ((aStep_8 h8).trans (by rw [aN, if_neg hw])))) ((fun v nx4 sh4 J4 P4 h4 => ?_))
    obtain ⟨rfl, rfl, rfl, rfl, w4, T4, F4⟩ := h4
    have hc12 := hc8.step (T3.lt (nF_k w4)) (st_0k (s := 8) h8 (by decide)) ((aStep_8 h8).trans (by rw [aN, if_pos w4]))
    have R4 := ((R1.tk F2).tk F3).tk F4
    have hJ : ∀ c, 41 ≤ c → c ≠ 48 → J4 c (12 * a + q6.2.1) = mUp J 45 (12 * a + q6.2.1) (wwF (wAt f m e3)) c (12 * a + q6.2.1) := fun c h1 _ => by rw [F4.1 c _ (by omega), F3.1 c _ (by omega), F2.1 c _ (by omega)]
    refine V_iastN dX12_readRule_247 (by assumption) (by omega) (by omega) ?_
    refine V_aln dX12_readRule_248 rfl ?_
    refine V_getR dX12_readRule_249 flX12_88 (by assumption) rfl (by assumption) ?_
    refine V_iln dX12_readRule_252 rfl ?_
    refine V_dup2 rfl rfl dX12_readRule_253 ?_
    refine V_ialdNv dX12_readRule_254 (by assumption) (by omega) (by omega) ((mUp_c (by decide)).trans R4.1) ?_
    refine V_iconst (v := 1) rfl dX12_readRule_255 ?_
    refine V_iadd dX12_readRule_256 ?_
    refine V_top (nI_inc' q6.2.1) ?_
    refine V_iastN dX12_readRule_257 (by assumption) (by omega) (by omega) ?_
    exact V_vret hM dX12_readRule_258 (⟨rfl, rfl, rfl, rfl, (((F1.tk F2).tk F3).tk F4).up (by omega) |>.up (by omega), _, _, _, Nat.succ_pos _, (T4.up (by decide) (by decide)).up (by decide) (by decide), RdM_add (q := (upd (upd (upd q6.1 5 (wwF (wAt f m e3))) 0 7) 0 8, q6.2)) (R4.rg rfl rfl rfl) hn (by rw [hJ 41 (by decide) (by decide), mUp_c (by decide)]; exact c1) (by rw [hJ 42 (by decide) (by decide), mUp_c (by decide)]; exact c2) (by rw [hJ 43 (by decide) (by decide), mUp_c (by decide)]; exact c3) (by rw [hJ 44 (by decide) (by decide), mUp_c (by decide)]; exact c4) (by rw [hJ 45 (by decide) (by decide), mUp_s]; rfl), rfl, hc12⟩)
  · have c215 : wwF (wAt f m e3) = -1 := by first | exact c215 | exact Classical.not_not.mp c215
    refine V_aln dX12_readRule_218 rfl ?_
    refine V_iconst (v := 1) rfl dX12_readRule_219 ?_
    refine V_cV1d hM cvX12_64 (by assumption) rfl (e_X12_wrong hV) ⟨Nat.le_of_ble_eq_true rfl, Nat.le_of_ble_eq_true rfl, Nat.le_of_ble_eq_true rfl, Nat.le_of_ble_eq_true rfl⟩ (Nat.le_of_ble_eq_true rfl) dX12_readRule_220 ?_
    exact V_athrow hX dX12_readRule_223 (lnT_of (wrM_tkT T1 trivial) F1 (fun _ => by decide) (fun _ => hc.no hn0 (hst.trans (if_pos c215))))
theorem t149 (hV : MW sh P) (ha : a ≤ 12) (hM : mM X B "readRule" none 7 150 0 0 (lnR na f m a e q nx sh I P) G) (hX : mT X B 0 0 (lnT B na f m a e q nx sh I P) G) (hT : MTf J f m e3) (hR : RdM J a q6) (hF : RmF a I J) (hn : q6.2.1 < 12) (h0 : q6.1 0 = 6) (hc : Rch na f m e q d e3 q6) (c1 : J 41 (12 * a + q6.2.1) = q6.1 1) (c2 : J 42 (12 * a + q6.2.1) = q6.1 2) (c3 : J 43 (12 * a + q6.2.1) = q6.1 3) (c4 : J 44 (12 * a + q6.2.1) = q6.1 4) : V X B RX12 cX12_readRule G 0 0 nx sh J P 149 [some (.ref (B + 35)), some (.int (nI a)), some (.int k), some (.int (nI (12 * a + q6.2.1)))] [] := by
  have s35 : sh 35 = some (.inl 12) := hV.1 35 _ rfl
  have s_when : sh 45 = some (.inr (0, 156)) := hV.1 45 _ rfl
  have p_when : P 35 10 = some 45 := hV.2 10 45 rfl
  refine V_aln dX12_readRule_149 rfl ?_
  refine V_getR dX12_readRule_150 flX12_148 (by assumption) rfl (by assumption) ?_
  refine V_iln dX12_readRule_153 rfl ?_
  refine V_aln dX12_readRule_154 rfl ?_
  refine V_ldcS (i := 30) rfl dX12_readRule_155 ?_
  refine V_cV1d hM cvX12_60 (by assumption) rfl (n_is (i := 14) hV hT (by decide)) ⟨Nat.le_of_ble_eq_true rfl, Nat.le_of_ble_eq_true rfl, Nat.le_of_ble_eq_true rfl, Nat.le_of_ble_eq_true rfl⟩ (Nat.le_of_ble_eq_true rfl) dX12_readRule_157 ?_
  refine V_ifeq_b (tgt := 167) dX12_readRule_160 rfl (fun c160 => ?_) (fun c160 => ?_)
  · refine V_aln dX12_readRule_167 rfl ?_
    refine V_ldcS (i := 31) rfl dX12_readRule_168 ?_
    refine V_cV1d hM cvX12_60 (by assumption) rfl (n_is (i := 15) hV hT (by decide)) ⟨Nat.le_of_ble_eq_true rfl, Nat.le_of_ble_eq_true rfl, Nat.le_of_ble_eq_true rfl, Nat.le_of_ble_eq_true rfl⟩ (Nat.le_of_ble_eq_true rfl) dX12_readRule_170 ?_
    refine V_ifeq_b (tgt := 180) dX12_readRule_173 rfl (fun c173 => ?_) (fun c173 => ?_)
    · refine V_aln dX12_readRule_180 rfl ?_
      refine V_ldcS (i := 32) rfl dX12_readRule_181 ?_
      refine V_cV1d hM cvX12_60 (by assumption) rfl (n_is (i := 16) hV hT (by decide)) ⟨Nat.le_of_ble_eq_true rfl, Nat.le_of_ble_eq_true rfl, Nat.le_of_ble_eq_true rfl, Nat.le_of_ble_eq_true rfl⟩ (Nat.le_of_ble_eq_true rfl) dX12_readRule_183 ?_
      refine V_ifeq_b (tgt := 193) dX12_readRule_186 rfl (fun c186 => ?_) (fun c186 => ?_)
      · refine V_aln dX12_readRule_193 rfl ?_
        refine V_ldcS (i := 33) rfl dX12_readRule_194 ?_
        refine V_cV1d hM cvX12_60 (by assumption) rfl (n_is (i := 17) hV hT (by decide)) ⟨Nat.le_of_ble_eq_true rfl, Nat.le_of_ble_eq_true rfl, Nat.le_of_ble_eq_true rfl, Nat.le_of_ble_eq_true rfl⟩ (Nat.le_of_ble_eq_true rfl) dX12_readRule_196 ?_
        refine V_ifeq_b (tgt := 206) dX12_readRule_199 rfl (fun c199 => ?_) (fun c199 => ?_)
        · refine V_iconst (v := -1) rfl dX12_readRule_206 ?_
          refine V_top (y := wwF (wAt f m e3)) (by simp [wwF, c160, c173, c186, c199]) ?_
          exact t207 hV ha hM hX hT hR hF hn h0 hc c1 c2 c3 c4
        · refine V_iconst (v := 3) rfl dX12_readRule_202 ?_
          refine V_goto (tgt := 207) dX12_readRule_203 rfl ?_
          refine V_top (y := wwF (wAt f m e3)) (by simp [wwF, c160, c173, c186, c199]) ?_
          exact t207 hV ha hM hX hT hR hF hn h0 hc c1 c2 c3 c4
      · refine V_iconst (v := 2) rfl dX12_readRule_189 ?_
        refine V_goto (tgt := 207) dX12_readRule_190 rfl ?_
        refine V_top (y := wwF (wAt f m e3)) (by simp [wwF, c160, c173, c186]) ?_
        exact t207 hV ha hM hX hT hR hF hn h0 hc c1 c2 c3 c4
    · refine V_iconst (v := 1) rfl dX12_readRule_176 ?_
      refine V_goto (tgt := 207) dX12_readRule_177 rfl ?_
      refine V_top (y := wwF (wAt f m e3)) (by simp [wwF, c160, c173]) ?_
      exact t207 hV ha hM hX hT hR hF hn h0 hc c1 c2 c3 c4
  · refine V_iconst (v := 0) rfl dX12_readRule_163 ?_
    refine V_goto (tgt := 207) dX12_readRule_164 rfl ?_
    refine V_top (y := wwF (wAt f m e3)) (by simp [wwF, c160]) ?_
    exact t207 hV ha hM hX hT hR hF hn h0 hc c1 c2 c3 c4
end RR
theorem rkF_8 (w : Nat → Bool) : rkF w = -1 ∨ ∃ j, j < 8 ∧ rkF w = nI j := by
  unfold rkF
  split
  · exact Or.inr ⟨0, by decide, rfl⟩
  · split
    · exact Or.inr ⟨1, by decide, rfl⟩
    · split
      · exact Or.inr ⟨2, by decide, rfl⟩
      · split
        · exact Or.inr ⟨3, by decide, rfl⟩
        · split
          · exact Or.inr ⟨4, by decide, rfl⟩
          · split
            · exact Or.inr ⟨5, by decide, rfl⟩
            · split
              · exact Or.inr ⟨6, by decide, rfl⟩
              · split
                · exact Or.inr ⟨7, by decide, rfl⟩
                · exact Or.inl rfl
theorem rk_k {f : Nat → Int32} {m e : Nat} (h : ¬ rkF (wAt f m e) = -1) : ¬ tK f m e = 0 := by
  intro h0
  have hw : ∀ i, wAt f m e i = false := fun i => by rw [wAt, h0]; rfl
  exact h (by simp [rkF, hw])
section R3
variable {X : mX} {B nx : Nat} {sh : Nat → Option mSh} {I J : mI} {P : mP} {m e a d e1 : Nat} {f : Nat → Int32} {na : Int32} {q q1 : aS} {G : mG}
theorem t71 (hV : MW sh P) (ha : a ≤ 12) (hM : mM X B "readRule" none 7 150 0 0 (lnR na f m a e q nx sh I P) G) (hX : mT X B 0 0 (lnT B na f m a e q nx sh I P) G) (hT : MTf J f m e1) (hR : RdM J a q1) (hF : RmF a I J) (hn : q1.2.1 < 12) (h0 : q1.1 0 = 1) (hc : Rch na f m e q d e1 q1) (c1 : J 41 (12 * a + q1.2.1) = q1.1 1) : V X B RX12 cX12_readRule G 0 0 nx sh J P 71 [some (.ref (B + 35)), some (.int (nI a)), some (.int (q1.1 1)), some (.int (nI (12 * a + q1.2.1)))] [.int (tlF (q1.1 1)), .int 0, .ref (B + 35), .int (nI (12 * a + q1.2.1)), .ref (B + 42)] := by
  have s35 : sh 35 = some (.inl 12) := hV.1 35 _ rfl
  have s_number : sh 42 = some (.inr (0, 156)) := hV.1 42 _ rfl
  have p_number : P 35 7 = some 42 := hV.2 7 42 rfl
  have s_fromRank : sh 43 = some (.inr (0, 156)) := hV.1 43 _ rfl
  have p_fromRank : P 35 8 = some 43 := hV.2 8 43 rfl
  have s_toRank : sh 44 = some (.inr (0, 156)) := hV.1 44 _ rfl
  have p_toRank : P 35 9 = some 44 := hV.2 9 44 rfl
  have hn1 : ¬ (tK f m e1 = 0 ∧ q1.1 0 = 0) := st_0k (s := 1) h0 (by decide)
  refine V_callX hM hX cvX12_121 (by assumption) rfl (n_number hV hT) rfl ⟨Nat.le_of_ble_eq_true rfl, Nat.le_of_ble_eq_true rfl, Nat.le_of_ble_eq_true rfl, Nat.le_of_ble_eq_true rfl⟩ rfl rfl (Nat.le_of_ble_eq_true rfl) dX12_readRule_71 rfl (fun _ _ _ _ _ h => lnT_of h hF (fun hw => hw) (fun hw => hc.no hn1 ((aStep_1 h0).trans (by rw [aN, if_neg hw])))) ((fun v nx2 sh2 J2 P2 h2 => ?_))
  obtain ⟨rfl, rfl, rfl, rfl, w2, T2, F2⟩ := h2
  have hc2 := hc.step (hT.lt (nF_k w2)) hn1 ((aStep_1 h0).trans (by rw [aN, if_pos w2]))
  have h2 : (upd (upd q1.1 0 2) 2 (tN f m e1 0)) 0 = nI 2 := rfl
  have R2 : RdM _ a (upd (upd q1.1 0 2) 2 (tN f m e1 0), q1.2) := RdM.rg (q := q1) (((((hR.tk F2).up (c := 42) (x := tN f m e1 0) (by decide)).up (c := 43) (x := 0) (by decide)).up (c := 44) (x := 9) (by decide))) rfl rfl rfl
  have T2' := ((T2.up (c := 42) (k := 12 * a + q1.2.1) (x := tN f m e1 0) (by decide) (by decide)).up (c := 43) (k := 12 * a + q1.2.1) (x := 0) (by decide) (by decide)).up (c := 44) (k := 12 * a + q1.2.1) (x := 9) (by decide) (by decide)
  have F2' := (((hF.tk F2).up (c := 42) (k := 12 * a + q1.2.1) (x := tN f m e1 0) (by omega)).up (c := 43) (k := 12 * a + q1.2.1) (x := 0) (by omega)).up (c := 44) (k := 12 * a + q1.2.1) (x := 9) (by omega)
  have hk2 : ¬ (tK f m (tE f m e1) = 0 ∧ (upd (upd q1.1 0 2) 2 (tN f m e1 0), q1.2).1 0 = 0) := st_0k (s := 2) h2 (by decide)
  have b1 : J2 41 (12 * a + q1.2.1) = q1.1 1 := by rw [F2.1 41 _ (by decide)]; exact c1
  refine V_iastN dX12_readRule_74 (by assumption) (by omega) (by omega) ?_
  refine V_aln dX12_readRule_75 rfl ?_
  refine V_getR dX12_readRule_76 flX12_132 (by assumption) rfl (by assumption) ?_
  refine V_iln dX12_readRule_79 rfl ?_
  refine V_iconst (v := 0) rfl dX12_readRule_80 ?_
  refine V_iastN dX12_readRule_81 (by assumption) (by omega) (by omega) ?_
  refine V_aln dX12_readRule_82 rfl ?_
  refine V_getR dX12_readRule_83 flX12_135 (by assumption) rfl (by assumption) ?_
  refine V_iln dX12_readRule_86 rfl ?_
  refine V_bipush (v := 9) rfl dX12_readRule_87 ?_
  refine V_iastN dX12_readRule_89 (by assumption) (by omega) (by omega) ?_
  refine V_aln dX12_readRule_90 rfl ?_
  refine V_ldcS (i := 27) rfl dX12_readRule_91 ?_
  refine V_cV1d hM cvX12_60 (by assumption) rfl (n_is (i := 11) hV T2' (by decide)) ⟨Nat.le_of_ble_eq_true rfl, Nat.le_of_ble_eq_true rfl, Nat.le_of_ble_eq_true rfl, Nat.le_of_ble_eq_true rfl⟩ (Nat.le_of_ble_eq_true rfl) dX12_readRule_93 ?_
  refine V_ifeq_b (tgt := 106) dX12_readRule_96 rfl (fun c96 => ?_) (fun c96 => ?_)
  · refine V_aln dX12_readRule_106 rfl ?_
    refine V_ldcS (i := 28) rfl dX12_readRule_107 ?_
    refine V_callX hM hX cvX12_142 (by assumption) rfl (n_need (i := 12) hV T2' (by decide)) rfl ⟨Nat.le_of_ble_eq_true rfl, Nat.le_of_ble_eq_true rfl, Nat.le_of_ble_eq_true rfl, Nat.le_of_ble_eq_true rfl⟩ rfl rfl (Nat.le_of_ble_eq_true rfl) dX12_readRule_109 rfl (fun _ _ _ _ _ h => lnT_of h F2' (fun _ => by decide) (fun hw => hc2.no hk2 ((aStep_2 h2).trans (by rw [c96, hw]; rfl)))) ((fun v nx3 sh3 J3 P3 h3 => ?_))
    obtain ⟨rfl, rfl, rfl, rfl, w3, T3, F3⟩ := h3
    have hc3 := hc2.step (T2'.lt (wAt_k w3)) hk2 ((aStep_2 h2).trans (by rw [c96, w3]; rfl))
    have h3 : (upd (upd (upd q1.1 0 2) 2 (tN f m e1 0)) 0 3) 0 = nI 3 := rfl
    refine V_aln dX12_readRule_112 rfl ?_
    refine V_getR dX12_readRule_113 flX12_132 (by assumption) rfl (by assumption) ?_
    refine V_iln dX12_readRule_116 rfl ?_
    refine V_aln dX12_readRule_117 rfl ?_
    refine V_iconst (v := 0) rfl dX12_readRule_118 ?_
    refine V_bipush (v := 9) rfl dX12_readRule_119 ?_
    refine V_callX hM hX cvX12_121 (by assumption) rfl (n_number hV T3) rfl ⟨Nat.le_of_ble_eq_true rfl, Nat.le_of_ble_eq_true rfl, Nat.le_of_ble_eq_true rfl, Nat.le_of_ble_eq_true rfl⟩ rfl rfl (Nat.le_of_ble_eq_true rfl) dX12_readRule_121 rfl (fun _ _ _ _ _ h => lnT_of h (F2'.tk F3) (fun hw => hw) (fun hw => hc3.no (st_0k (s := 3) h3 (by decide)) ((aStep_3 h3).trans (by rw [aN, if_neg hw])))) ((fun v nx4 sh4 J4 P4 h4 => ?_))
    obtain ⟨rfl, rfl, rfl, rfl, w4, T4, F4⟩ := h4
    have hc4 := hc3.step (T3.lt (nF_k w4)) (st_0k (s := 3) h3 (by decide)) ((aStep_3 h3).trans (by rw [aN, if_pos w4]))
    have h4 : (upd (upd (upd (upd (upd q1.1 0 2) 2 (tN f m e1 0)) 0 3) 0 4) 3 (tN f m (tE f m (tE f m e1)) 0)) 0 = nI 4 := rfl
    have T4' := T4.up (c := 43) (k := 12 * a + q1.2.1) (x := tN f m (tE f m (tE f m e1)) 0) (by decide) (by decide)
    have F4' := ((F2'.tk F3).tk F4).up (c := 43) (k := 12 * a + q1.2.1) (x := tN f m (tE f m (tE f m e1)) 0) (by omega)
    refine V_iastN dX12_readRule_124 (by assumption) (by omega) (by omega) ?_
    refine V_aln dX12_readRule_125 rfl ?_
    refine V_ldcS (i := 29) rfl dX12_readRule_126 ?_
    refine V_callX hM hX cvX12_142 (by assumption) rfl (n_need (i := 13) hV T4' (by decide)) rfl ⟨Nat.le_of_ble_eq_true rfl, Nat.le_of_ble_eq_true rfl, Nat.le_of_ble_eq_true rfl, Nat.le_of_ble_eq_true rfl⟩ rfl rfl (Nat.le_of_ble_eq_true rfl) dX12_readRule_128 rfl (fun _ _ _ _ _ h => lnT_of h F4' (fun _ => by decide) (fun hw => hc4.no (st_0k (s := 4) h4 (by decide)) ((aStep_4 h4).trans (by rw [hw]; rfl)))) ((fun v nx5 sh5 J5 P5 h5 => ?_))
    obtain ⟨rfl, rfl, rfl, rfl, w5, T5, F5⟩ := h5
    have hc5 := hc4.step (T4'.lt (wAt_k w5)) (st_0k (s := 4) h4 (by decide)) ((aStep_4 h4).trans (by rw [w5]; rfl))
    have h5 : (upd (upd (upd (upd (upd (upd q1.1 0 2) 2 (tN f m e1 0)) 0 3) 0 4) 3 (tN f m (tE f m (tE f m e1)) 0)) 0 5) 0 = nI 5 := rfl
    have b5 : J5 43 (12 * a + q1.2.1) = tN f m (tE f m (tE f m e1)) 0 := by rw [F5.1 43 _ (by decide), mUp_s]
    refine V_aln dX12_readRule_131 rfl ?_
    refine V_getR dX12_readRule_132 flX12_135 (by assumption) rfl (by assumption) ?_
    refine V_iln dX12_readRule_135 rfl ?_
    refine V_aln dX12_readRule_136 rfl ?_
    refine V_aln dX12_readRule_137 rfl ?_
    refine V_getR dX12_readRule_138 flX12_132 (by assumption) rfl (by assumption) ?_
    refine V_iln dX12_readRule_141 rfl ?_
    refine V_ialdNv dX12_readRule_142 (by assumption) (by omega) (by omega) (b5) ?_
    refine V_bipush (v := 9) rfl dX12_readRule_143 ?_
    refine V_callX hM hX cvX12_121 (by assumption) rfl (n_number hV T5) rfl ⟨Nat.le_of_ble_eq_true rfl, Nat.le_of_ble_eq_true rfl, Nat.le_of_ble_eq_true rfl, Nat.le_of_ble_eq_true rfl⟩ rfl rfl (Nat.le_of_ble_eq_true rfl) dX12_readRule_145 rfl (fun _ _ _ _ _ h => lnT_of h (F4'.tk F5) (fun hw => hw) (fun hw => hc5.no (st_0k (s := 5) h5 (by decide)) ((aStep_5 h5).trans (by rw [aN]; exact if_neg hw)))) ((fun v nx6 sh6 J6 P6 h6 => ?_))
    obtain ⟨rfl, rfl, rfl, rfl, w6, T6, F6⟩ := h6
    have hc6 := hc5.step (T5.lt (nF_k w6)) (st_0k (s := 5) h5 (by decide)) ((aStep_5 h5).trans (by rw [aN]; exact if_pos w6))
    refine V_iastN dX12_readRule_148 (by assumption) (by omega) (by omega) ?_
    first | exact t149 (q6 := (upd (upd (upd (upd (upd q1.1 0 2) 2 (tN f m e1 0)) 3 0) 4 9) 0 6, q1.2)) hV ha hM hX T3 (RdM.rg (q := q1) (R2.rg (q := (upd (upd q1.1 0 2) 2 (tN f m e1 0), q1.2)) rfl rfl rfl |>.tk F3) rfl rfl rfl) (F2'.tk F3) hn rfl hc6 (by rw [F3.1 41 _ (by decide), mUp_c (by decide), mUp_c (by decide), mUp_c (by decide)]; exact b1) (by rw [F3.1 42 _ (by decide), mUp_c (by decide), mUp_c (by decide), mUp_s]; rfl) (by rw [F3.1 43 _ (by decide), mUp_c (by decide), mUp_s]; rfl) (by rw [F3.1 44 _ (by decide), mUp_s]; rfl) | (refine t149 (q6 := (upd (upd (upd (upd (upd (upd (upd (upd q1.1 0 2) 2 (tN f m e1 0)) 0 3) 0 4) 3 (tN f m (tE f m (tE f m e1)) 0)) 0 5) 0 6) 4 (tN f m (tE f m (tE f m (tE f m (tE f m e1)))) 0), q1.2)) hV ha hM hX ?_ ?_ ?_ ?_ ?_ hc6 ?_ ?_ ?_ ?_; exact T6.up (by decide) (by decide); exact RdM.rg (q := q1) ((((((R2.rg (q := (upd (upd q1.1 0 2) 2 (tN f m e1 0), q1.2)) (v := q1.1) rfl rfl rfl).tk F3).tk F4).up (c := 43) (by decide)).tk F5 |>.tk F6).up (c := 44) (by decide)) rfl rfl rfl; exact (F4'.tk F5 |>.tk F6).up (by omega); exact hn; rfl; (rw [mUp_c (by decide), F6.1 41 _ (by decide), F5.1 41 _ (by decide), mUp_c (by decide), F4.1 41 _ (by decide), F3.1 41 _ (by decide), mUp_c (by decide), mUp_c (by decide), mUp_c (by decide)]; exact b1); (rw [mUp_c (by decide), F6.1 42 _ (by decide), F5.1 42 _ (by decide), mUp_c (by decide), F4.1 42 _ (by decide), F3.1 42 _ (by decide), mUp_c (by decide), mUp_c (by decide), mUp_s]; rfl); (rw [mUp_c (by decide), F6.1 43 _ (by decide)]; exact b5); (rw [mUp_s]; rfl))
  · refine V_aln dX12_readRule_99 rfl ?_
    refine V_cV0 hM cvX12_68 (by assumption) rfl (n_scan hV T2' (wAt_k (by first | exact c96 | simpa using c96))) ⟨Nat.le_of_ble_eq_true rfl, Nat.le_of_ble_eq_true rfl, Nat.le_of_ble_eq_true rfl, Nat.le_of_ble_eq_true rfl⟩ (Nat.le_of_ble_eq_true rfl) dX12_readRule_100 (fun v nx3 sh3 J3 P3 h3 => ?_)
    obtain ⟨rfl, rfl, rfl, rfl, -, T3, F3⟩ := h3
    have hc6 := hc2.step (T2'.lt (wAt_k (by first | exact c96 | simpa using c96))) hk2 ((aStep_2 h2).trans (by rw [c96]; rfl))
    refine V_goto (tgt := 149) dX12_readRule_103 rfl ?_
    first | exact t149 (q6 := (upd (upd (upd (upd (upd q1.1 0 2) 2 (tN f m e1 0)) 3 0) 4 9) 0 6, q1.2)) hV ha hM hX T3 (RdM.rg (q := q1) (R2.rg (q := (upd (upd q1.1 0 2) 2 (tN f m e1 0), q1.2)) rfl rfl rfl |>.tk F3) rfl rfl rfl) (F2'.tk F3) hn rfl hc6 (by rw [F3.1 41 _ (by decide), mUp_c (by decide), mUp_c (by decide), mUp_c (by decide)]; exact b1) (by rw [F3.1 42 _ (by decide), mUp_c (by decide), mUp_c (by decide), mUp_s]; rfl) (by rw [F3.1 43 _ (by decide), mUp_c (by decide), mUp_s]; rfl) (by rw [F3.1 44 _ (by decide), mUp_s]; rfl) | (refine t149 (q6 := (upd (upd (upd (upd (upd (upd (upd (upd q1.1 0 2) 2 (tN f m e1 0)) 0 3) 0 4) 3 (tN f m (tE f m (tE f m e1)) 0)) 0 5) 0 6) 4 (tN f m (tE f m (tE f m (tE f m (tE f m e1)))) 0), q1.2)) hV ha hM hX ?_ ?_ ?_ ?_ ?_ hc6 ?_ ?_ ?_ ?_; exact T6.up (by decide) (by decide); exact RdM.rg (q := q1) ((((((R2.rg (q := (upd (upd q1.1 0 2) 2 (tN f m e1 0), q1.2)) (v := q1.1) rfl rfl rfl).tk F3).tk F4).up (c := 43) (by decide)).tk F5 |>.tk F6).up (c := 44) (by decide)) rfl rfl rfl; exact (F4'.tk F5 |>.tk F6).up (by omega); exact hn; rfl; (rw [mUp_c (by decide), F6.1 41 _ (by decide), F5.1 41 _ (by decide), mUp_c (by decide), F4.1 41 _ (by decide), F3.1 41 _ (by decide), mUp_c (by decide), mUp_c (by decide), mUp_c (by decide)]; exact b1); (rw [mUp_c (by decide), F6.1 42 _ (by decide), F5.1 42 _ (by decide), mUp_c (by decide), F4.1 42 _ (by decide), F3.1 42 _ (by decide), mUp_c (by decide), mUp_c (by decide), mUp_s]; rfl); (rw [mUp_c (by decide), F6.1 43 _ (by decide)]; exact b5); (rw [mUp_s]; rfl))
end R3
