/-! ===== the reference's readRule ===== -/
theorem st_0k {q : aS} {e : Nat} {f : Nat → Int32} {m s : Nat} (h : q.1 0 = nI s) (hs : 0 < s ∧ s < 20) : ¬ (tK f m e = 0 ∧ q.1 0 = 0) := by
  rintro ⟨-, h2⟩
  have := nI_eqN (a := s) (b := 0) (by omega) (by decide) (h.symm.trans h2)
  omega
theorem ww_k {f : Nat → Int32} {m e : Nat} (h : ¬ wwF (wAt f m e) = -1) : ¬ tK f m e = 0 := by
  intro h0
  have hw : ∀ i, wAt f m e i = false := fun i => by rw [wAt, h0]; rfl
  exact h (by simp [wwF, hw])
/-- a rule more -/
def q12F (q : aS) (num : Int32) : aS := (upd q.1 0 12, q.2.1 + 1, fun r j => if r = q.2.1 then aFld q.1 num j else q.2.2 r j)
theorem RdM_add {J : mI} {a : Nat} {q : aS} {num : Int32} (hR : RdM J a q) (hn : q.2.1 < 12) (c1 : J 41 (12 * a + q.2.1) = q.1 1) (c2 : J 42 (12 * a + q.2.1) = q.1 2) (c3 : J 43 (12 * a + q.2.1) = q.1 3) (c4 : J 44 (12 * a + q.2.1) = q.1 4) (c5 : J 45 (12 * a + q.2.1) = q.1 5) : RdM (mUp (mUp J 46 (12 * a + q.2.1) num) 37 a (nI (q.2.1 + 1))) a (q12F q num) := by
  obtain ⟨h1, h2, h3, h4, h5, h6, h7⟩ := hR
  refine ⟨by rw [mUp_s]; rfl, by show q.2.1 + 1 ≤ 12; omega, by rw [mUp_c (by decide), mUp_c (by decide)]; exact h3, by rw [mUp_c (by decide), mUp_c (by decide)]; exact h4, by rw [mUp_c (by decide), mUp_c (by decide)]; exact h5, by rw [mUp_c (by decide), mUp_c (by decide)]; exact h6, fun r hr j hj => ?_⟩
  have hr : r < q.2.1 + 1 := hr
  rw [mUp_c (by omega)]
  show _ = (if r = q.2.1 then aFld q.1 num j else q.2.2 r j)
  by_cases hr2 : r = q.2.1
  · subst hr2
    rw [if_pos rfl]
    rcases (show j = 0 ∨ j = 1 ∨ j = 2 ∨ j = 3 ∨ j = 4 ∨ j = 5 by omega) with rfl | rfl | rfl | rfl | rfl | rfl
    · rw [mUp_c (by decide)]; exact c1
    · rw [mUp_c (by decide)]; exact c2
    · rw [mUp_c (by decide)]; exact c3
    · rw [mUp_c (by decide)]; exact c4
    · rw [mUp_c (by decide)]; exact c5
    · exact mUp_s
  · rw [if_neg hr2, mUp_k (by omega)]
    exact h7 r (by omega) j hj
section RR
variable {X : mX} {B nx : Nat} {sh : Nat → Option mSh} {I J : mI} {P : mP} {m e a d e3 : Nat} {f : Nat → Int32} {na k : Int32} {q q6 : aS} {G : mG}
/-- the line's end: its occasion is known -/
theorem t207 (hV : MW sh P) (ha : a ≤ 12) (hM : mM X B "readRule" none 7 150 0 0 (lnR na f m a e q nx sh I P) G) (hX : mT X B 0 0 (lnT B na f m a e q nx sh I P) G) (hT : MTf J f m e3) (hR : RdM J a q6) (hF : RmF a I J) (hn : q6.2.1 < 12) (h0 : q6.1 0 = 6) (hc : Rch na f m e q d e3 q6) (c1 : J 41 (12 * a + q6.2.1) = q6.1 1) (c2 : J 42 (12 * a + q6.2.1) = q6.1 2) (c3 : J 43 (12 * a + q6.2.1) = q6.1 3) (c4 : J 44 (12 * a + q6.2.1) = q6.1 4) : V X B RX12 cX12_readRule G 0 0 nx sh J P 207 [some (.ref (B + 35)), some (.int (nI a)), some (.int k), some (.int (nI (12 * a + q6.2.1)))] [.int (wwF (wAt f m e3)), .int (nI (12 * a + q6.2.1)), .ref (B + 45)] := by
  have s35 : sh 35 = some (.inl 12) := hV.1 35 _ rfl
  have s_when : sh 45 = some (.inr (0, 156)) := hV.1 45 _ rfl
  have p_when : P 35 10 = some 45 := hV.2 10 45 rfl
  have s_fine : sh 46 = some (.inr (0, 156)) := hV.1 46 _ rfl
  have p_fine : P 35 11 = some 46 := hV.2 11 46 rfl
  have s_ruleMany : sh 37 = some (.inr (0, 13)) := hV.1 37 _ rfl
  have p_ruleMany : P 35 2 = some 37 := hV.2 2 37 rfl
  have hst := aStep_6 (na := na) (k := tK f m e3) (num := tN f m e3 0) (w := wAt f m e3) h0
  have hn0 : ¬ (tK f m e3 = 0 ∧ q6.1 0 = 0) := st_0k (s := 6) h0 (by decide)
  have T1 : MTf (mUp J 45 (12 * a + q6.2.1) (wwF (wAt f m e3))) f m e3 := hT.up (by decide) (by decide)
  have F1 : RmF a I (mUp J 45 (12 * a + q6.2.1) (wwF (wAt f m e3))) := hF.up (by omega)
  have R1 : RdM (mUp J 45 (12 * a + q6.2.1) (wwF (wAt f m e3))) a q6 := hR.up (by decide)
  refine V_iastN dX12_readRule_207 (by assumption) (by omega) (by omega) ?_
  refine V_aln dX12_readRule_208 rfl ?_
  refine V_getR dX12_readRule_209 flX12_148 (by assumption) rfl (by assumption) ?_
  refine V_iln dX12_readRule_212 rfl ?_
  refine V_ialdNv dX12_readRule_213 (by assumption) (by omega) (by omega) (mUp_s) ?_
  refine V_iconst (v := -1) rfl dX12_readRule_214 ?_
  refine V_icmp_ne (tgt := 224) dX12_readRule_215 rfl (fun c215 => ?_) (fun c215 => ?_)
  · have hc7 := hc.step hn0 (hst.trans (if_neg c215))
    have h7 : (upd (upd q6.1 5 (wwF (wAt f m e3))) 0 7) 0 = nI 7 := rfl
    refine V_aln dX12_readRule_224 rfl ?_
    refine V_cV0 hM cvX12_68 (by assumption) rfl (n_scan hV T1 (ww_k c215)) ⟨Nat.le_of_ble_eq_true rfl, Nat.le_of_ble_eq_true rfl, Nat.le_of_ble_eq_true rfl, Nat.le_of_ble_eq_true rfl⟩ (Nat.le_of_ble_eq_true rfl) dX12_readRule_225 (fun v nx2 sh2 J2 P2 h2 => ?_)
    obtain ⟨rfl, rfl, rfl, rfl, -, T2, F2⟩ := h2
    refine V_aln dX12_readRule_228 rfl ?_
    refine V_ldcS (i := 34) rfl dX12_readRule_229 ?_
    refine V_callX hM hX cvX12_142 (by assumption) rfl (n_need (i := 18) hV T2 (by decide)) rfl ⟨Nat.le_of_ble_eq_true rfl, Nat.le_of_ble_eq_true rfl, Nat.le_of_ble_eq_true rfl, Nat.le_of_ble_eq_true rfl⟩ rfl rfl (Nat.le_of_ble_eq_true rfl) dX12_readRule_231 rfl (fun _ _ _ _ _ h => lnT_of h (F1.tk F2) (fun _ => by decide) (fun hw => hc7.no (st_0k (s := 7) h7 (by decide)) ((aStep_7 h7).trans (by rw [hw]; rfl)))) ((fun v nx3 sh3 J3 P3 h3 => ?_))
    obtain ⟨rfl, rfl, rfl, rfl, w3, T3, F3⟩ := h3
    have hc8 := hc7.step (st_0k (s := 7) h7 (by decide)) ((aStep_7 h7).trans (by rw [w3]; rfl))
    have h8 : (upd (upd (upd q6.1 5 (wwF (wAt f m e3))) 0 7) 0 8) 0 = nI 8 := rfl
    refine V_aln dX12_readRule_234 rfl ?_
    refine V_getR dX12_readRule_235 flX12_161 (by assumption) rfl (by assumption) ?_
    refine V_iln dX12_readRule_238 rfl ?_
    refine V_aln dX12_readRule_239 rfl ?_
    refine V_iconst (v := 0) rfl dX12_readRule_240 ?_
    refine V_sipush (v := 9999) rfl dX12_readRule_241 ?_
    refine V_callX hM hX cvX12_121 (by assumption) rfl (n_number hV T3) rfl ⟨Nat.le_of_ble_eq_true rfl, Nat.le_of_ble_eq_true rfl, Nat.le_of_ble_eq_true rfl, Nat.le_of_ble_eq_true rfl⟩ rfl rfl (Nat.le_of_ble_eq_true rfl) dX12_readRule_244 rfl (fun _ _ _ _ _ h => lnT_of h ((F1.tk F2).tk F3) (fun hw => hw) (fun hw => hc8.no (st_0k (s := 8) h8 (by decide)) ((aStep_8 h8).trans (by rw [aN, if_neg hw])))) ((fun v nx4 sh4 J4 P4 h4 => ?_))
    obtain ⟨rfl, rfl, rfl, rfl, w4, T4, F4⟩ := h4
    have hc12 := hc8.step (st_0k (s := 8) h8 (by decide)) ((aStep_8 h8).trans (by rw [aN, if_pos w4]))
    have R4 := ((R1.tk F2).tk F3).tk F4
    have hJ : ∀ c, 41 ≤ c → c ≠ 48 → J4 c (12 * a + q6.2.1) = mUp J 45 (12 * a + q6.2.1) (wwF (wAt f m e3)) c (12 * a + q6.2.1) := fun c h1 _ => by rw [F4.1 c _ (by omega), F3.1 c _ (by omega), F2.1 c _ (by omega)]
    refine V_iastN dX12_readRule_247 (by assumption) (by omega) (by omega) ?_
    refine V_aln dX12_readRule_248 rfl ?_
    refine V_getR dX12_readRule_249 flX12_88 (by assumption) rfl (by assumption) ?_
    refine V_iln dX12_readRule_252 rfl ?_
    refine V_dup2 rfl rfl dX12_readRule_253 ?_
    refine V_ialdNv dX12_readRule_254 (by assumption) (by omega) (by omega) ((mUp_c (by decide)).trans R4.1) ?_
    refine V_iconst (v := 1) rfl dX12_readRule_255 ?_
    refine V_iadd dX12_readRule_256 ?_
    refine V_top (nI_inc' q6.2.1) ?_
    refine V_iastN dX12_readRule_257 (by assumption) (by omega) (by omega) ?_
    exact V_vret hM dX12_readRule_258 (⟨rfl, rfl, rfl, rfl, (((F1.tk F2).tk F3).tk F4).up (by omega) |>.up (by omega), _, _, _, Nat.succ_pos _, (T4.up (by decide) (by decide)).up (by decide) (by decide), RdM_add (q := (upd (upd (upd q6.1 5 (wwF (wAt f m e3))) 0 7) 0 8, q6.2)) (R4.rg rfl rfl rfl) hn (by rw [hJ 41 (by decide) (by decide), mUp_c (by decide)]; exact c1) (by rw [hJ 42 (by decide) (by decide), mUp_c (by decide)]; exact c2) (by rw [hJ 43 (by decide) (by decide), mUp_c (by decide)]; exact c3) (by rw [hJ 44 (by decide) (by decide), mUp_c (by decide)]; exact c4) (by rw [hJ 45 (by decide) (by decide), mUp_s]; rfl), rfl, hc12⟩)
  · have c215 : wwF (wAt f m e3) = -1 := by first | exact c215 | exact Classical.not_not.mp c215
    refine V_aln dX12_readRule_218 rfl ?_
    refine V_iconst (v := 1) rfl dX12_readRule_219 ?_
    refine V_cV1d hM cvX12_64 (by assumption) rfl (e_X12_wrong hV) ⟨Nat.le_of_ble_eq_true rfl, Nat.le_of_ble_eq_true rfl, Nat.le_of_ble_eq_true rfl, Nat.le_of_ble_eq_true rfl⟩ (Nat.le_of_ble_eq_true rfl) dX12_readRule_220 ?_
    exact V_athrow hX dX12_readRule_223 (lnT_of (wrM_tkT T1 trivial) F1 (fun _ => by decide) (fun _ => hc.no hn0 (hst.trans (if_pos c215))))
end RR
