/-! ===== worn ===== -/
/-- the gown breaks no rule, worn by one of the rank on the day as daily -/
def wokF (I : mI) (P : mP) (nl na g : Nat) (rank day : Int32) : Bool := !anyR (fun a => bitB (rchF (takeM I rank 0 day (cCnt I nl day (I (pg P 24 g) 1))) (wP P g) 7 na 30 (pg P 24 g)) a && !decide (brkF (takeM I rank 0 day (cCnt I nl day (I (pg P 24 g) 1))) (wP P g) 7 30 (pg P 24 g) (pg P (pg P 24 g) 0) a = 0)) na
def wnF (ok : Nat → Bool) (f : Nat) : Nat → Int32 × Int32 × Int32
  | 0 => (0, -1, -1)
  | i + 1 => if ok (f + i) then ((wnF ok f i).1 + 1, if (wnF ok f i).2.1 = -1 then nI (f + i) else (wnF ok f i).2.1, nI (f + i)) else wnF ok f i
def wnR (q : Int32 × Int32 × Int32) (what : Int32) : Int32 := if what = 0 then q.1 else if what = 1 then q.2.1 else q.2.2
section WN
variable {X : mX} {B nx : Nat} {sh : Nat → Option mSh} {I : mI} {P : mP}
theorem takeM_tk {J : mI} {a b c d : Int32} (h : ∀ c k, (c ≠ 30 ∨ (k ≠ 0 ∧ k ≠ 1 ∧ k ≠ 3 ∧ k ≠ 4)) → J c k = I c k) (e k : Nat) : takeM J a b c d e k = takeM I a b c d e k := by
  unfold takeM mUp
  by_cases h4 : e = 30 ∧ k = 4
  · rw [if_pos h4, if_pos h4]
  · rw [if_neg h4, if_neg h4]
    by_cases h3 : e = 30 ∧ k = 3
    · rw [if_pos h3, if_pos h3]
    · rw [if_neg h3, if_neg h3]
      by_cases h1 : e = 30 ∧ k = 1
      · rw [if_pos h1, if_pos h1]
      · rw [if_neg h1, if_neg h1]
        by_cases h0 : e = 30 ∧ k = 0
        · rw [if_pos h0, if_pos h0]
        · rw [if_neg h0, if_neg h0]
          exact h e k (by omega)
theorem l_X10_worn {G : mG} {nl ng na g f t : Nat} {rank what : Int32} (hW : CW sh P) (hl : NLi I nl) (hG : GownsAt sh I P ng) (hC : CodexAt sh I P 6 7 na) (hg : g < ng) (hft : f ≤ t) (ht : t < 10000)
    (hM : mM X B "worn" (some .int) 5 111 0 0 (mScr (wnR (wnF (fun d => wokF I P nl na g rank (nI d)) f (t + 1 - f)) what) nx sh I P) G) (hwh : what = 0 ∨ what = 1 ∨ what = 2) :
    ∀ (z i : Nat) (J : mI) (Q : mP), i ≤ t + 1 - f → t + 1 - f - i < z → (∀ c k, (c ≠ 30 ∨ (k ≠ 0 ∧ k ≠ 1 ∧ k ≠ 3 ∧ k ≠ 4)) → J c k = I c k) → (∀ c k, ¬ (c = 30 ∧ k = 2) → Q c k = P c k) → V X B RX10 cX10_worn G 0 0 nx sh J Q 64 [some (.ref (B + 0)), some (.int (nI g)), some (.int rank), some (.int (nI f)), some (.int (nI t)), some (.int what), some (.ref (B + pg P 24 g)), some (.int (wnF (fun d => wokF I P nl na g rank (nI d)) f i).1), some (.int (wnF (fun d => wokF I P nl na g rank (nI d)) f i).2.1), some (.int (wnF (fun d => wokF I P nl na g rank (nI d)) f i).2.2), some (.int (nI (f + i)))] [] := by
  have s0 : sh 0 = some (.inl 10) := hW.1 0 _ rfl
  have s30 : sh 30 = some (.inl 9) := hW.1 30 _ rfl
  have p0_15 : P 0 15 = some 30 := hW.2 0 15 30 rfl
  have p0_1 : P 0 1 = some 6 := hW.2 0 1 6 rfl
  have s6 : sh 6 = some (.inl 2) := hW.1 6 _ rfl
  obtain ⟨g1, g2, g3, g4⟩ := hG.2.2 g hg
  have ngo : pg P 24 g ≠ 30 := sh_ne g2 s30 (by decide)
  have hW' := hW.p30 (o := some (pg P 24 g))
  have q1 : wP P g 0 1 = some 6 := hW'.2 0 1 6 rfl
  have q2 : wP P g 0 15 = some 30 := hW'.2 0 15 30 rfl
  intro z
  induction z with
  | zero => intro i _ _ _ h; omega
  | succ z ih =>
    intro i J Q hi hz hJ hQ
    have hWQ : CW sh Q := ⟨hW.1, fun c k b hb => by
      by_cases e : c = 30 ∧ k = 2
      · rw [e.1, e.2] at hb; cases hb
      · rw [hQ c k e]; exact hW.2 c k b hb⟩
    have q3 : Q 0 15 = some 30 := hWQ.2 0 15 30 rfl
    have hlJ : NLi J nl := ⟨by rw [hJ _ _ (Or.inl (by decide))]; exact hl.1, hl.2⟩
    have eJ : ∀ c, c ≠ 30 → J c = I c := fun c h => funext fun k => hJ c k (Or.inl h)
    have eC : ∀ d s, cCnt J nl d s = cCnt I nl d s := fun d s => by simp only [cCnt]; rw [show cHeld J nl d = cHeld I nl d from funext fun x => by simp only [cHeld]; rw [eJ 21 (by decide), eJ 22 (by decide), eJ 23 (by decide)]]
    have eS : J (pg P 24 g) 1 = I (pg P 24 g) 1 := by rw [eJ _ ngo]
    have eP : ∀ c k, mUp Q 30 2 (some (pg P 24 g)) c k = wP P g c k := fun c k => by
      unfold wP mUp
      by_cases e : c = 30 ∧ k = 2
      · rw [if_pos e, if_pos e]
      · rw [if_neg e, if_neg e]; exact hQ c k e
    refine V_il dX10_worn_64 rfl ?_
    refine V_il dX10_worn_66 rfl ?_
    refine V_icmp_gt (tgt := 137) dX10_worn_68 rfl (fun c68 => ?_) (fun c68 => ?_)
    · have c68 := nN_lt c68 (by omega) (by omega)
      obtain rfl : i = t + 1 - f := by omega
      refine V_il dX10_worn_137 rfl ?_
      refine V_if_ne (tgt := 145) dX10_worn_139 rfl (fun c139 => ?_) (fun c139 => ?_)
      · refine V_il dX10_worn_145 rfl ?_
        refine V_iconst (v := 1) rfl dX10_worn_147 ?_
        refine V_icmp_ne (tgt := 156) dX10_worn_148 rfl (fun c148 => ?_) (fun c148 => ?_)
        · refine V_il dX10_worn_156 rfl ?_
          exact V_iret hM dX10_worn_158 (⟨by rcases hwh with rfl | rfl | rfl <;> simp_all [wnR], rfl, rfl, fun c k h _ _ => hJ c k (Or.inl h), hQ⟩)
        · refine V_il dX10_worn_151 rfl ?_
          refine V_goto (tgt := 158) dX10_worn_153 rfl ?_
          exact V_iret hM dX10_worn_158 (⟨by rcases hwh with rfl | rfl | rfl <;> simp_all [wnR], rfl, rfl, fun c k h _ _ => hJ c k (Or.inl h), hQ⟩)
      · refine V_il dX10_worn_142 rfl ?_
        exact V_iret hM dX10_worn_144 (⟨by rcases hwh with rfl | rfl | rfl <;> simp_all [wnR], rfl, rfl, fun c k h _ _ => hJ c k (Or.inl h), hQ⟩)
    · have c68 := nN_nlt c68 (by omega) (by omega)
      refine V_aln dX10_worn_71 rfl ?_
      refine V_getR dX10_worn_72 flX10_79 (by assumption) rfl (q3) ?_
      refine V_iln dX10_worn_75 rfl ?_
      refine V_iconst (v := 0) rfl dX10_worn_76 ?_
      refine V_al dX10_worn_77 rfl ?_
      refine V_il dX10_worn_79 rfl ?_
      refine V_aln dX10_worn_81 rfl ?_
      refine V_al dX10_worn_82 rfl ?_
      refine V_getIv dX10_worn_84 flX10_155 (by assumption) rfl (eS) ?_
      refine V_il dX10_worn_87 rfl ?_
      refine V_cV2d hM cvX10_164 (by assumption) rfl (e_X10_countsAs hWQ hlJ) ⟨Nat.le_of_ble_eq_true rfl, Nat.le_of_ble_eq_true rfl, Nat.le_of_ble_eq_true rfl, Nat.le_of_ble_eq_true rfl⟩ (Nat.le_of_ble_eq_true rfl) dX10_worn_89 ?_
      rw [eC]
      refine V_cV5n hM cvX10_287 (by assumption) rfl (e_X9_take s30) ⟨Nat.le_of_ble_eq_true rfl, Nat.le_of_ble_eq_true rfl, Nat.le_of_ble_eq_true rfl, Nat.le_of_ble_eq_true rfl⟩ (Nat.le_of_ble_eq_true rfl) dX10_worn_92 ?_
      refine V_mem (takeM_tk hJ) eP ?_
      refine V_aln dX10_worn_95 rfl ?_
      refine V_getR dX10_worn_96 flX10_19 (by assumption) rfl (q1) ?_
      refine V_aln dX10_worn_99 rfl ?_
      refine V_getR dX10_worn_100 flX10_79 (by assumption) rfl (q2) ?_
      refine V_cV1d hM cvX10_291 (by assumption) rfl (e_X2_breaksAny (hC.p30 s30 (fun c k h => takeM_o h)) (hG.wear hg s30)) ⟨Nat.le_of_ble_eq_true rfl, Nat.le_of_ble_eq_true rfl, Nat.le_of_ble_eq_true rfl, Nat.le_of_ble_eq_true rfl⟩ (Nat.le_of_ble_eq_true rfl) dX10_worn_103 ?_
      refine V_ifne_b (tgt := 131) dX10_worn_106 rfl (fun c106 => ?_) (fun c106 => ?_)
      · have c106 : wokF I P nl na g rank (nI (f + i)) = false := by simp only [wokF, Bool.not_eq_false']; exact c106
        refine V_inc10 dX10_worn_131 ?_
        refine V_goto (tgt := 64) dX10_worn_134 rfl ?_
        refine V_ls ?_ (ih (i + 1) _ _ (by omega) (by omega) (fun c k h => ?_) (fun c k h => ?_))
        · simp [nI_inc, nI_inc', wnF, c68, c106, Nat.add_assoc]
        · rcases h with h | h
          · exact takeM_o h
          · simp [takeM, mUp, h.1, h.2.1, h.2.2.1, h.2.2.2]
        · simp only [wP, mUp]; rw [if_neg h]
      · have c106 : wokF I P nl na g rank (nI (f + i)) = true := by simp only [wokF, Bool.not_eq_true']; exact c106
        refine V_inc7 dX10_worn_109 ?_
        refine V_il dX10_worn_112 rfl ?_
        refine V_iconst (v := -1) rfl dX10_worn_114 ?_
        refine V_icmp_ne (tgt := 123) dX10_worn_115 rfl (fun c115 => ?_) (fun c115 => ?_)
        · refine V_il dX10_worn_123 rfl ?_
          refine V_is8 dX10_worn_125 ?_
          refine V_il dX10_worn_127 rfl ?_
          refine V_is9 dX10_worn_129 ?_
          refine V_inc10 dX10_worn_131 ?_
          refine V_goto (tgt := 64) dX10_worn_134 rfl ?_
          refine V_ls ?_ (ih (i + 1) _ _ (by omega) (by omega) (fun c k h => ?_) (fun c k h => ?_))
          · simp [nI_inc, nI_inc', wnF, c68, c106, c115, Nat.add_assoc]
          · rcases h with h | h
            · exact takeM_o h
            · simp [takeM, mUp, h.1, h.2.1, h.2.2.1, h.2.2.2]
          · simp only [wP, mUp]; rw [if_neg h]
        · refine V_il dX10_worn_118 rfl ?_
          refine V_goto (tgt := 125) dX10_worn_120 rfl ?_
          refine V_is8 dX10_worn_125 ?_
          refine V_il dX10_worn_127 rfl ?_
          refine V_is9 dX10_worn_129 ?_
          refine V_inc10 dX10_worn_131 ?_
          refine V_goto (tgt := 64) dX10_worn_134 rfl ?_
          refine V_ls ?_ (ih (i + 1) _ _ (by omega) (by omega) (fun c k h => ?_) (fun c k h => ?_))
          · simp [nI_inc, nI_inc', wnF, c68, c106, c115, Nat.add_assoc]
          · rcases h with h | h
            · exact takeM_o h
            · simp [takeM, mUp, h.1, h.2.1, h.2.2.1, h.2.2.2]
          · simp only [wP, mUp]; rw [if_neg h]
def wnC (ng : Nat) (g rank a b what : Int32) : Bool := inB g ng && inB rank 10 && (inB a 10000 && inB b 10000 && decide (a ≤ b)) && decide (b - a < 500) && inB what 3
theorem e_X10_wornN {ng : Nat} {g rank a b what : Int32} (hW : CW sh P) (hG : GownsAt sh I P ng) (hx : wnC ng g rank a b what = false) : Ev X B mdX10_worn 0 0 [.ref (B + 0), .int g, .int rank, .int a, .int b, .int what] nx sh I P (mDet (some (.int (-2))) nx sh I P) := by
  have s0 : sh 0 = some (.inl 10) := hW.1 0 _ rfl
  refine Ev.of (by decide) (by simp [Value.category]) (by simp) (fun G hM => ?_)
  have hM : mM X B "worn" (some FieldType.int) 5 111 0 0 _ G := hM
  show V X B RX10 cX10_worn G 0 0 nx sh I P 0 [some (.ref (B + 0)), some (.int g), some (.int rank), some (.int a), some (.int b), some (.int what), none, none, none, none, none] []
  by_cases hg : inB g ng = true
  · obtain ⟨j, hj, rfl⟩ := inB_nI hg (by have := hG.2.1; omega)
    refine V_aln dX10_worn_0 rfl ?_
    refine V_iln dX10_worn_1 rfl ?_
    refine V_cV1d hM cvX10_148 (by assumption) rfl (e_X10_findGown hW hG hj) ⟨Nat.le_of_ble_eq_true rfl, Nat.le_of_ble_eq_true rfl, Nat.le_of_ble_eq_true rfl, Nat.le_of_ble_eq_true rfl⟩ (Nat.le_of_ble_eq_true rfl) dX10_worn_2 ?_
    refine V_as6 dX10_worn_5 ?_
    refine V_al dX10_worn_7 rfl ?_
    refine V_ifnull dX10_worn_9 ?_
    refine V_iln dX10_worn_12 rfl ?_
    refine V_cS1d hM cvX10_113 (e_X10_isRank) ⟨Nat.le_of_ble_eq_true rfl, Nat.le_of_ble_eq_true rfl, Nat.le_of_ble_eq_true rfl, Nat.le_of_ble_eq_true rfl⟩ (Nat.le_of_ble_eq_true rfl) dX10_worn_13 ?_
    refine V_ifeq_b (tgt := 49) dX10_worn_16 rfl (fun c16 => ?_) (fun c16 => ?_)
    · refine V_bipush (v := -2) rfl dX10_worn_49 ?_
      exact V_iret hM dX10_worn_51 (mDet.rf)
    · refine V_iln dX10_worn_19 rfl ?_
      refine V_il dX10_worn_20 rfl ?_
      refine V_cS2d hM cvX10_124 (e_X10_isSpan) ⟨Nat.le_of_ble_eq_true rfl, Nat.le_of_ble_eq_true rfl, Nat.le_of_ble_eq_true rfl, Nat.le_of_ble_eq_true rfl⟩ (Nat.le_of_ble_eq_true rfl) dX10_worn_22 ?_
      refine V_ifeq_b (tgt := 49) dX10_worn_25 rfl (fun c25 => ?_) (fun c25 => ?_)
      · refine V_bipush (v := -2) rfl dX10_worn_49 ?_
        exact V_iret hM dX10_worn_51 (mDet.rf)
      · refine V_il dX10_worn_28 rfl ?_
        refine V_iln dX10_worn_30 rfl ?_
        refine V_isub dX10_worn_31 ?_
        refine V_sipush (v := 500) rfl dX10_worn_32 ?_
        refine V_icmp_ge (tgt := 49) dX10_worn_35 rfl (fun c35 => ?_) (fun c35 => ?_)
        · refine V_bipush (v := -2) rfl dX10_worn_49 ?_
          exact V_iret hM dX10_worn_51 (mDet.rf)
        · refine V_il dX10_worn_38 rfl ?_
          refine V_if_lt (tgt := 49) dX10_worn_40 rfl (fun c40 => ?_) (fun c40 => ?_)
          · refine V_bipush (v := -2) rfl dX10_worn_49 ?_
            exact V_iret hM dX10_worn_51 (mDet.rf)
          · refine V_il dX10_worn_43 rfl ?_
            refine V_iconst (v := 2) rfl dX10_worn_45 ?_
            refine V_icmp_le (tgt := 52) dX10_worn_46 rfl (fun c46 => ?_) (fun c46 => ?_)
            · exfalso
              have c35 := i_nle c35
              have hb : inB what 3 = true := inB_iff.mpr (by rw [i_lt] at c40; rw [i_le] at c46; have : what.toInt ≤ (2 : Int) := c46; simp at c40; omega)
              rw [wnC, hg, c16, c25, hb, decide_eq_true c35] at hx; cases hx --done
            · refine V_bipush (v := -2) rfl dX10_worn_49 ?_
              exact V_iret hM dX10_worn_51 (mDet.rf)
  · refine V_aln dX10_worn_0 rfl ?_
    refine V_iln dX10_worn_1 rfl ?_
    refine V_cV1d hM cvX10_148 (by assumption) rfl (e_X10_findGownN hW hG (by simpa using hg)) ⟨Nat.le_of_ble_eq_true rfl, Nat.le_of_ble_eq_true rfl, Nat.le_of_ble_eq_true rfl, Nat.le_of_ble_eq_true rfl⟩ (Nat.le_of_ble_eq_true rfl) dX10_worn_2 ?_
    refine V_an6 dX10_worn_5 ?_
    refine V_alN dX10_worn_7 rfl ?_
    refine V_ifnullN (tgt := 49) dX10_worn_9 rfl ?_
    refine V_bipush (v := -2) rfl dX10_worn_49 ?_
    exact V_iret hM dX10_worn_51 (mDet.rf)
theorem e_X10_worn {nl ng na g f t : Nat} {rank what : Int32} (hW : CW sh P) (hl : NLi I nl) (hG : GownsAt sh I P ng) (hC : CodexAt sh I P 6 7 na) (hg : g < ng) (hft : f ≤ t) (ht : t < 10000) (hx : wnC ng (nI g) rank (nI f) (nI t) what = true) : Ev X B mdX10_worn 0 0 [.ref (B + 0), .int (nI g), .int rank, .int (nI f), .int (nI t), .int what] nx sh I P (mScr (wnR (wnF (fun d => wokF I P nl na g rank (nI d)) f (t + 1 - f)) what) nx sh I P) := by
  have s0 : sh 0 = some (.inl 10) := hW.1 0 _ rfl
  simp only [wnC, Bool.and_eq_true, decide_eq_true_eq] at hx
  obtain ⟨⟨⟨⟨x1, x2⟩, x3⟩, x4⟩, x5⟩ := hx
  have hsp : (inB (nI f) 10000 && inB (nI t) 10000 && decide (nI f ≤ nI t)) = true := by simp [x3]
  have h5 := inB_iff.mp x5
  have hwh : what = 0 ∨ what = 1 ∨ what = 2 := by
    rw [i_eq, i_eq, i_eq]
    have e0 : (0 : Int32).toInt = 0 := rfl
    have e1 : (1 : Int32).toInt = 1 := rfl
    have e2 : (2 : Int32).toInt = 2 := rfl
    omega
  refine Ev.of (by decide) (by simp [Value.category]) (by simp) (fun G hM => ?_)
  have hM : mM X B "worn" (some FieldType.int) 5 111 0 0 _ G := hM
  show V X B RX10 cX10_worn G 0 0 nx sh I P 0 [some (.ref (B + 0)), some (.int (nI g)), some (.int rank), some (.int (nI f)), some (.int (nI t)), some (.int what), none, none, none, none, none] []
  refine V_aln dX10_worn_0 rfl ?_
  refine V_iln dX10_worn_1 rfl ?_
  refine V_cV1d hM cvX10_148 (by assumption) rfl (e_X10_findGown hW hG hg) ⟨Nat.le_of_ble_eq_true rfl, Nat.le_of_ble_eq_true rfl, Nat.le_of_ble_eq_true rfl, Nat.le_of_ble_eq_true rfl⟩ (Nat.le_of_ble_eq_true rfl) dX10_worn_2 ?_
  refine V_as6 dX10_worn_5 ?_
  refine V_al dX10_worn_7 rfl ?_
  refine V_ifnull dX10_worn_9 ?_
  refine V_iln dX10_worn_12 rfl ?_
  refine V_cS1d hM cvX10_113 (e_X10_isRank) ⟨Nat.le_of_ble_eq_true rfl, Nat.le_of_ble_eq_true rfl, Nat.le_of_ble_eq_true rfl, Nat.le_of_ble_eq_true rfl⟩ (Nat.le_of_ble_eq_true rfl) dX10_worn_13 ?_
  refine V_ifeq_b (tgt := 49) dX10_worn_16 rfl (fun c16 => ?_) (fun c16 => ?_)
  · rw [x2] at c16; cases c16 --done
  · refine V_iln dX10_worn_19 rfl ?_
    refine V_il dX10_worn_20 rfl ?_
    refine V_cS2d hM cvX10_124 (e_X10_isSpan) ⟨Nat.le_of_ble_eq_true rfl, Nat.le_of_ble_eq_true rfl, Nat.le_of_ble_eq_true rfl, Nat.le_of_ble_eq_true rfl⟩ (Nat.le_of_ble_eq_true rfl) dX10_worn_22 ?_
    refine V_ifeq_b (tgt := 49) dX10_worn_25 rfl (fun c25 => ?_) (fun c25 => ?_)
    · rw [hsp] at c25; cases c25 --done
    · refine V_il dX10_worn_28 rfl ?_
      refine V_iln dX10_worn_30 rfl ?_
      refine V_isub dX10_worn_31 ?_
      refine V_sipush (v := 500) rfl dX10_worn_32 ?_
      refine V_icmp_ge (tgt := 49) dX10_worn_35 rfl (fun c35 => ?_) (fun c35 => ?_)
      · exact absurd x4 (i_le_nlt c35) --done
      · refine V_il dX10_worn_38 rfl ?_
        refine V_if_lt (tgt := 49) dX10_worn_40 rfl (fun c40 => ?_) (fun c40 => ?_)
        · exfalso; rw [i_lt] at c40; simp at c40; omega --done
        · refine V_il dX10_worn_43 rfl ?_
          refine V_iconst (v := 2) rfl dX10_worn_45 ?_
          refine V_icmp_le (tgt := 52) dX10_worn_46 rfl (fun c46 => ?_) (fun c46 => ?_)
          · refine V_iconst (v := 0) rfl dX10_worn_52 ?_
            refine V_is7 dX10_worn_53 ?_
            refine V_iconst (v := -1) rfl dX10_worn_55 ?_
            refine V_is8 dX10_worn_56 ?_
            refine V_iconst (v := -1) rfl dX10_worn_58 ?_
            refine V_is9 dX10_worn_59 ?_
            refine V_iln dX10_worn_61 rfl ?_
            refine V_is10 dX10_worn_62 ?_
            exact l_X10_worn hW hl hG hC hg hft ht hM hwh (t + 1 - f + 1) 0 I P (by omega) (by omega) (fun _ _ _ => rfl) (fun _ _ _ => rfl)
          · exfalso; rw [i_le] at c46; have : ¬ what.toInt ≤ (2 : Int) := c46; omega --done
end WN
