/-! ===== the reference's letter and judge ===== -/
section MJd
variable {X : mX} {B nx : Nat} {sh : Nat → Option mSh} {I : mI} {P : mP} {n ng nl nf : Nat}
def mLeM (I : mI) (k : Nat) (b p g d : Int32) : mI := mUp (mUp (mUp (mUp (mUp (mUp (mUp (mUp I 68 k b) 69 k p) 70 k g) 71 k d) 72 k 0) 73 k 0) 74 k 0) 35 45 (nI (k + 1))
theorem mUp45 {j : Nat} {x v : Int32} {c i : Nat} {I' : mI} (hc : c ≠ 35) (h : I' 35 i = v) : mUp I' c j x 35 i = v := (mUp_c (fun h => hc h.symm)).trans h
theorem x_letter {k : Nat} {b p g d : Int32} (hJ : MJ sh I P n ng nl nf) (hk : I 35 45 = nI k) (hk2 : k < 60) (hx : (inB b 30 && (inB p 30 && inB g ng && inB d 10000) && !decide (b = p)) = true) : Ev X B mdX12_letter 0 0 [.ref (B + 35), .int b, .int p, .int g, .int d] nx sh I P (mDet (some (.int (nI k))) nx sh (mLeM I k b p g d) P) := by
  have hV := hJ.1
  have s35 : sh 35 = some (.inl 12) := hV.1 35 _ rfl
  have s_by : sh 68 = some (.inr (0, 60)) := hV.1 68 _ rfl
  have p_by : P 35 47 = some 68 := hV.2 47 68 rfl
  have s_accused : sh 69 = some (.inr (0, 60)) := hV.1 69 _ rfl
  have p_accused : P 35 48 = some 69 := hV.2 48 69 rfl
  have s_inGown : sh 70 = some (.inr (0, 60)) := hV.1 70 _ rfl
  have p_inGown : P 35 49 = some 70 := hV.2 49 70 rfl
  have s_onDay : sh 71 = some (.inr (0, 60)) := hV.1 71 _ rfl
  have p_onDay : P 35 50 = some 71 := hV.2 50 71 rfl
  have s_state : sh 72 = some (.inr (0, 60)) := hV.1 72 _ rfl
  have p_state : P 35 51 = some 72 := hV.2 51 72 rfl
  have s_fined : sh 73 = some (.inr (0, 60)) := hV.1 73 _ rfl
  have p_fined : P 35 52 = some 73 := hV.2 52 73 rfl
  have s_shared : sh 74 = some (.inr (0, 60)) := hV.1 74 _ rfl
  have p_shared : P 35 53 = some 74 := hV.2 53 74 rfl
  rw [Bool.and_eq_true, Bool.and_eq_true] at hx
  refine Ev.of (by decide) (by simp [Value.category]) (by simp) (fun G hM => ?_)
  have hM : mM X B "letter" (some FieldType.int) 3 69 0 0 _ G := hM
  show V X B RX12 cX12_letter G 0 0 nx sh I P 0 [some (.ref (B + 35)), some (.int b), some (.int p), some (.int g), some (.int d)] []
  refine V_iln dX12_letter_0 rfl ?_
  refine V_cS1d hM cvX12_274 (e_X12_isPerson) ⟨Nat.le_of_ble_eq_true rfl, Nat.le_of_ble_eq_true rfl, Nat.le_of_ble_eq_true rfl, Nat.le_of_ble_eq_true rfl⟩ (Nat.le_of_ble_eq_true rfl) dX12_letter_1 ?_
  rw [hx.1.1]
  refine V_ifeq_b (tgt := 23) dX12_letter_4 rfl (fun c4 => ?_) (fun c4 => ?_)
  · exact absurd c4 (by decide) --done
  · refine V_aln dX12_letter_7 rfl ?_
    refine V_iln dX12_letter_8 rfl ?_
    refine V_iln dX12_letter_9 rfl ?_
    refine V_il dX12_letter_10 rfl ?_
    refine V_cV3d hM cvX12_329 (by assumption) rfl (x_isCase hJ) ⟨Nat.le_of_ble_eq_true rfl, Nat.le_of_ble_eq_true rfl, Nat.le_of_ble_eq_true rfl, Nat.le_of_ble_eq_true rfl⟩ (Nat.le_of_ble_eq_true rfl) dX12_letter_12 ?_
    rw [hx.1.2]
    refine V_ifeq_b (tgt := 23) dX12_letter_15 rfl (fun c15 => ?_) (fun c15 => ?_)
    · exact absurd c15 (by decide) --done
    · refine V_iln dX12_letter_18 rfl ?_
      refine V_iln dX12_letter_19 rfl ?_
      refine V_icmp_ne (tgt := 26) dX12_letter_20 rfl (fun c20 => ?_) (fun c20 => ?_)
      · refine V_aln dX12_letter_26 rfl ?_
        refine V_getIv dX12_letter_27 flX12_337 (by assumption) rfl (hk) ?_
        refine V_bipush (v := 60) rfl dX12_letter_30 ?_
        refine V_icmp_ne (tgt := 38) dX12_letter_32 rfl (fun c32 => ?_) (fun c32 => ?_)
        · refine V_aln dX12_letter_38 rfl ?_
          refine V_getR dX12_letter_39 flX12_229 (by assumption) rfl (by assumption) ?_
          refine V_aln dX12_letter_42 rfl ?_
          refine V_getIv dX12_letter_43 flX12_337 (by assumption) rfl (hk) ?_
          refine V_iln dX12_letter_46 rfl ?_
          refine V_iastN dX12_letter_47 (by assumption) (by omega) (by omega) ?_
          refine V_aln dX12_letter_48 rfl ?_
          refine V_getR dX12_letter_49 flX12_232 (by assumption) rfl (by assumption) ?_
          refine V_aln dX12_letter_52 rfl ?_
          refine V_getIv dX12_letter_53 flX12_337 (by assumption) rfl (mUp45 (by decide) hk) ?_
          refine V_iln dX12_letter_56 rfl ?_
          refine V_iastN dX12_letter_57 (by assumption) (by omega) (by omega) ?_
          refine V_aln dX12_letter_58 rfl ?_
          refine V_getR dX12_letter_59 flX12_235 (by assumption) rfl (by assumption) ?_
          refine V_aln dX12_letter_62 rfl ?_
          refine V_getIv dX12_letter_63 flX12_337 (by assumption) rfl (mUp45 (by decide) (mUp45 (by decide) hk)) ?_
          refine V_iln dX12_letter_66 rfl ?_
          refine V_iastN dX12_letter_67 (by assumption) (by omega) (by omega) ?_
          refine V_aln dX12_letter_68 rfl ?_
          refine V_getR dX12_letter_69 flX12_238 (by assumption) rfl (by assumption) ?_
          refine V_aln dX12_letter_72 rfl ?_
          refine V_getIv dX12_letter_73 flX12_337 (by assumption) rfl (mUp45 (by decide) (mUp45 (by decide) (mUp45 (by decide) hk))) ?_
          refine V_il dX12_letter_76 rfl ?_
          refine V_iastN dX12_letter_78 (by assumption) (by omega) (by omega) ?_
          refine V_aln dX12_letter_79 rfl ?_
          refine V_getR dX12_letter_80 flX12_241 (by assumption) rfl (by assumption) ?_
          refine V_aln dX12_letter_83 rfl ?_
          refine V_getIv dX12_letter_84 flX12_337 (by assumption) rfl (mUp45 (by decide) (mUp45 (by decide) (mUp45 (by decide) (mUp45 (by decide) hk)))) ?_
          refine V_iconst (v := 0) rfl dX12_letter_87 ?_
          refine V_iastN dX12_letter_88 (by assumption) (by omega) (by omega) ?_
          refine V_aln dX12_letter_89 rfl ?_
          refine V_getR dX12_letter_90 flX12_244 (by assumption) rfl (by assumption) ?_
          refine V_aln dX12_letter_93 rfl ?_
          refine V_getIv dX12_letter_94 flX12_337 (by assumption) rfl (mUp45 (by decide) (mUp45 (by decide) (mUp45 (by decide) (mUp45 (by decide) (mUp45 (by decide) hk))))) ?_
          refine V_iconst (v := 0) rfl dX12_letter_97 ?_
          refine V_iastN dX12_letter_98 (by assumption) (by omega) (by omega) ?_
          refine V_aln dX12_letter_99 rfl ?_
          refine V_getR dX12_letter_100 flX12_247 (by assumption) rfl (by assumption) ?_
          refine V_aln dX12_letter_103 rfl ?_
          refine V_getIv dX12_letter_104 flX12_337 (by assumption) rfl (mUp45 (by decide) (mUp45 (by decide) (mUp45 (by decide) (mUp45 (by decide) (mUp45 (by decide) (mUp45 (by decide) hk)))))) ?_
          refine V_iconst (v := 0) rfl dX12_letter_107 ?_
          refine V_iastN dX12_letter_108 (by assumption) (by omega) (by omega) ?_
          refine V_aln dX12_letter_109 rfl ?_
          refine V_dup rfl dX12_letter_110 ?_
          refine V_getIv dX12_letter_111 flX12_337 (by assumption) rfl (mUp45 (by decide) (mUp45 (by decide) (mUp45 (by decide) (mUp45 (by decide) (mUp45 (by decide) (mUp45 (by decide) (mUp45 (by decide) hk))))))) ?_
          refine V_iconst (v := 1) rfl dX12_letter_114 ?_
          refine V_iadd dX12_letter_115 ?_
          refine V_top (nI_inc' k) ?_
          refine V_putI dX12_letter_116 flX12_337 (by assumption) rfl rfl ?_
          refine V_aln dX12_letter_119 rfl ?_
          refine V_getIv dX12_letter_120 flX12_337 (by assumption) rfl (mUp_s) ?_
          refine V_iconst (v := 1) rfl dX12_letter_123 ?_
          refine V_isub dX12_letter_124 ?_
          refine V_top (show nI (k + 1) - 1 = nI k from (pk_sub (a := k + 1) (b := 1) (by omega))) ?_
          exact V_iret hM dX12_letter_125 (mDet.rf)
        · exfalso
          have := nI_eqN (a := k) (b := 60) (by omega) (by decide) (by first | exact c32 | exact Classical.not_not.mp c32)
          omega --done
      · exact absurd hx.2 (by rw [show b = p by first | exact c20 | exact Classical.not_not.mp c20]; simp) --done
theorem x_letterF {b p g d : Int32} (hJ : MJ sh I P n ng nl nf) (hk : I 35 45 = nI 60) (hx : (inB b 30 && (inB p 30 && inB g ng && inB d 10000) && !decide (b = p)) = true) : Ev X B mdX12_letter 0 0 [.ref (B + 35), .int b, .int p, .int g, .int d] nx sh I P (mDet (some (.int (-3))) nx sh I P) := by
  have hV := hJ.1
  have s35 : sh 35 = some (.inl 12) := hV.1 35 _ rfl
  rw [Bool.and_eq_true, Bool.and_eq_true] at hx
  refine Ev.of (by decide) (by simp [Value.category]) (by simp) (fun G hM => ?_)
  have hM : mM X B "letter" (some FieldType.int) 3 69 0 0 _ G := hM
  show V X B RX12 cX12_letter G 0 0 nx sh I P 0 [some (.ref (B + 35)), some (.int b), some (.int p), some (.int g), some (.int d)] []
  refine V_iln dX12_letter_0 rfl ?_
  refine V_cS1d hM cvX12_274 (e_X12_isPerson) ⟨Nat.le_of_ble_eq_true rfl, Nat.le_of_ble_eq_true rfl, Nat.le_of_ble_eq_true rfl, Nat.le_of_ble_eq_true rfl⟩ (Nat.le_of_ble_eq_true rfl) dX12_letter_1 ?_
  rw [hx.1.1]
  refine V_ifeq_b (tgt := 23) dX12_letter_4 rfl (fun c4 => ?_) (fun c4 => ?_)
  · exact absurd c4 (by decide) --done
  · refine V_aln dX12_letter_7 rfl ?_
    refine V_iln dX12_letter_8 rfl ?_
    refine V_iln dX12_letter_9 rfl ?_
    refine V_il dX12_letter_10 rfl ?_
    refine V_cV3d hM cvX12_329 (by assumption) rfl (x_isCase hJ) ⟨Nat.le_of_ble_eq_true rfl, Nat.le_of_ble_eq_true rfl, Nat.le_of_ble_eq_true rfl, Nat.le_of_ble_eq_true rfl⟩ (Nat.le_of_ble_eq_true rfl) dX12_letter_12 ?_
    rw [hx.1.2]
    refine V_ifeq_b (tgt := 23) dX12_letter_15 rfl (fun c15 => ?_) (fun c15 => ?_)
    · exact absurd c15 (by decide) --done
    · refine V_iln dX12_letter_18 rfl ?_
      refine V_iln dX12_letter_19 rfl ?_
      refine V_icmp_ne (tgt := 26) dX12_letter_20 rfl (fun c20 => ?_) (fun c20 => ?_)
      · refine V_aln dX12_letter_26 rfl ?_
        refine V_getIv dX12_letter_27 flX12_337 (by assumption) rfl (hk) ?_
        refine V_bipush (v := 60) rfl dX12_letter_30 ?_
        refine V_icmp_ne (tgt := 38) dX12_letter_32 rfl (fun c32 => ?_) (fun c32 => ?_)
        · exact absurd rfl c32 --done
        · refine V_bipush (v := -3) rfl dX12_letter_35 ?_
          exact V_iret hM dX12_letter_37 (mDet.rf)
      · exact absurd hx.2 (by rw [show b = p by first | exact c20 | exact Classical.not_not.mp c20]; simp) --done
theorem x_letterN {b p g d : Int32} (hJ : MJ sh I P n ng nl nf) (hx : (inB b 30 && (inB p 30 && inB g ng && inB d 10000) && !decide (b = p)) = false) : Ev X B mdX12_letter 0 0 [.ref (B + 35), .int b, .int p, .int g, .int d] nx sh I P (mDet (some (.int (-2))) nx sh I P) := by
  have hV := hJ.1
  have s35 : sh 35 = some (.inl 12) := hV.1 35 _ rfl
  refine Ev.of (by decide) (by simp [Value.category]) (by simp) (fun G hM => ?_)
  have hM : mM X B "letter" (some FieldType.int) 3 69 0 0 _ G := hM
  show V X B RX12 cX12_letter G 0 0 nx sh I P 0 [some (.ref (B + 35)), some (.int b), some (.int p), some (.int g), some (.int d)] []
  refine V_iln dX12_letter_0 rfl ?_
  refine V_cS1d hM cvX12_274 (e_X12_isPerson) ⟨Nat.le_of_ble_eq_true rfl, Nat.le_of_ble_eq_true rfl, Nat.le_of_ble_eq_true rfl, Nat.le_of_ble_eq_true rfl⟩ (Nat.le_of_ble_eq_true rfl) dX12_letter_1 ?_
  refine V_ifeq_b (tgt := 23) dX12_letter_4 rfl (fun c4 => ?_) (fun c4 => ?_)
  · refine V_bipush (v := -2) rfl dX12_letter_23 ?_
    exact V_iret hM dX12_letter_25 (mDet.rf)
  · refine V_aln dX12_letter_7 rfl ?_
    refine V_iln dX12_letter_8 rfl ?_
    refine V_iln dX12_letter_9 rfl ?_
    refine V_il dX12_letter_10 rfl ?_
    refine V_cV3d hM cvX12_329 (by assumption) rfl (x_isCase hJ) ⟨Nat.le_of_ble_eq_true rfl, Nat.le_of_ble_eq_true rfl, Nat.le_of_ble_eq_true rfl, Nat.le_of_ble_eq_true rfl⟩ (Nat.le_of_ble_eq_true rfl) dX12_letter_12 ?_
    refine V_ifeq_b (tgt := 23) dX12_letter_15 rfl (fun c15 => ?_) (fun c15 => ?_)
    · refine V_bipush (v := -2) rfl dX12_letter_23 ?_
      exact V_iret hM dX12_letter_25 (mDet.rf)
    · refine V_iln dX12_letter_18 rfl ?_
      refine V_iln dX12_letter_19 rfl ?_
      refine V_icmp_ne (tgt := 26) dX12_letter_20 rfl (fun c20 => ?_) (fun c20 => ?_)
      · exact absurd hx (by rw [c4, c15, decide_eq_false c20]; decide) --done
      · refine V_bipush (v := -2) rfl dX12_letter_23 ?_
        exact V_iret hM dX12_letter_25 (mDet.rf)
/-! judge -/
def qWas (I : mI) (k o : Nat) : Bool := decide (I 72 o = 1) && decide (I 69 o = I 69 k) && decide (I 70 o = I 70 k) && decide (I 71 o = I 71 k)
def mDsM (I : mI) (k : Nat) (b : Bool) : mI := if b then mUp I 72 k 3 else I
def mFaM (I : mI) (k b : Nat) : mI := mUp (mUp (mUp I 65 b (I 65 b + 50)) 35 46 (I 35 46 + 50)) 72 k 2
def mCoM (I : mI) (k p b : Nat) (f own : Int32) : mI := mUp (mUp (mUp (mUp (mUp (mUp (mUp I 73 k f) 74 k own) 65 p (I 65 p + f)) 66 b (I 66 b + own)) 35 46 (I 35 46 + (f - own))) 64 p (I 64 p + 1)) 72 k 1
def mLok (I : mI) (k ng : Nat) : Prop := ∃ b p g : Nat, I 68 k = nI b ∧ I 69 k = nI p ∧ I 70 k = nI g ∧ b < 30 ∧ p < 30 ∧ g < ng
theorem mDs_o {k c j : Nat} {b : Bool} (h : c ≠ 72) : mDsM I k b c j = I c j := by
  unfold mDsM
  split
  · exact mUp_c h
  · rfl
theorem l_X12_judge {G : mG} {k nk p : Nat} (hV : MW sh P) (hnk : I 35 45 = nI nk) (hnk2 : nk ≤ 60) (hk : k < nk) (hp : I 69 k = nI p) (h0 : I 72 k = 0)
    (next : ∀ x : Option Value, V X B RX12 cX12_judge G 0 0 nx sh (mDsM I k (anyR (qWas I k) nk)) P 103 [some (.ref (B + 35)), some (.int (nI k)), some (.int (nI p)), x, none] []) : ∀ (z i : Nat), i ≤ nk → nk - i < z → V X B RX12 cX12_judge G 0 0 nx sh (mDsM I k (anyR (qWas I k) i)) P 32 [some (.ref (B + 35)), some (.int (nI k)), some (.int (nI p)), some (.int (nI i)), none] [] := by
  have s35 : sh 35 = some (.inl 12) := hV.1 35 _ rfl
  have s_accused : sh 69 = some (.inr (0, 60)) := hV.1 69 _ rfl
  have p_accused : P 35 48 = some 69 := hV.2 48 69 rfl
  have s_inGown : sh 70 = some (.inr (0, 60)) := hV.1 70 _ rfl
  have p_inGown : P 35 49 = some 70 := hV.2 49 70 rfl
  have s_onDay : sh 71 = some (.inr (0, 60)) := hV.1 71 _ rfl
  have p_onDay : P 35 50 = some 71 := hV.2 50 71 rfl
  have s_state : sh 72 = some (.inr (0, 60)) := hV.1 72 _ rfl
  have p_state : P 35 51 = some 72 := hV.2 51 72 rfl
  intro z
  induction z with
  | zero => intro i _ h; omega
  | succ z ih =>
    intro i hi hz
    have hS : mDsM I k (anyR (qWas I k) i) 72 i = 1 ↔ I 72 i = 1 := by
      unfold mDsM
      split
      · by_cases hik : i = k
        · subst hik; rw [mUp_s, h0]; exact ⟨(fun h => absurd h (by decide)), (fun h => absurd h (by decide))⟩
        · rw [mUp_k hik]
      · exact Iff.rfl
    have hs : anyR (qWas I k) (i + 1) = (anyR (qWas I k) i || qWas I k i) := by simp [anyR, List.range_succ]
    have e69 : ∀ j, mDsM I k (anyR (qWas I k) i) 69 j = I 69 j := fun j => mDs_o (by decide)
    have e70 : ∀ j, mDsM I k (anyR (qWas I k) i) 70 j = I 70 j := fun j => mDs_o (by decide)
    have e71 : ∀ j, mDsM I k (anyR (qWas I k) i) 71 j = I 71 j := fun j => mDs_o (by decide)
    have no : qWas I k i = false → i < nk → V X B RX12 cX12_judge G 0 0 nx sh (mDsM I k (anyR (qWas I k) i)) P 97 [some (.ref (B + 35)), some (.int (nI k)), some (.int (nI p)), some (.int (nI i)), none] [] := by
      intro hf hlt
      have h1 := ih (i + 1) (by omega) (by omega)
      rw [hs, hf, Bool.or_false] at h1
      refine V_inc3 dX12_judge_97 ?_
      refine V_goto (tgt := 32) dX12_judge_100 rfl ?_
      rw [nI_inc]
      exact h1
    refine V_iln dX12_judge_32 rfl ?_
    refine V_aln dX12_judge_33 rfl ?_
    refine V_getIv dX12_judge_34 flX12_337 (by assumption) rfl ((mDs_o (by decide)).trans hnk) ?_
    refine V_icmp_ge (tgt := 103) dX12_judge_37 rfl (fun c37 => ?_) (fun c37 => ?_)
    · have c37 := nN_le c37 (by omega) (by omega)
      obtain rfl : i = nk := by omega
      exact next _
    · have c37 := nN_nle c37 (by omega) (by omega)
      refine V_aln dX12_judge_40 rfl ?_
      refine V_getR dX12_judge_41 flX12_241 (by assumption) rfl (by assumption) ?_
      refine V_iln dX12_judge_44 rfl ?_
      refine V_ialdN dX12_judge_45 (by assumption) (by omega) (by omega) ?_
      refine V_iconst (v := 1) rfl dX12_judge_46 ?_
      refine V_icmp_ne (tgt := 97) dX12_judge_47 rfl (fun c47 => ?_) (fun c47 => ?_)
      · exact no (by rw [qWas, decide_eq_false (fun h => c47 (hS.mpr h))]; rfl) c37 --done
      · have c47 := hS.mp (by first | exact c47 | exact Classical.not_not.mp c47)
        refine V_aln dX12_judge_50 rfl ?_
        refine V_getR dX12_judge_51 flX12_232 (by assumption) rfl (by assumption) ?_
        refine V_iln dX12_judge_54 rfl ?_
        refine V_ialdNv dX12_judge_55 (by assumption) (by omega) (by omega) (e69 i) ?_
        refine V_iln dX12_judge_56 rfl ?_
        refine V_icmp_ne (tgt := 97) dX12_judge_57 rfl (fun c57 => ?_) (fun c57 => ?_)
        · rw [← hp] at c57
          exact no (by simp [qWas, c57]) c37 --done
        · have c57 : I 69 i = I 69 k := by rw [hp]; first | exact c57 | exact Classical.not_not.mp c57
          refine V_aln dX12_judge_60 rfl ?_
          refine V_getR dX12_judge_61 flX12_235 (by assumption) rfl (by assumption) ?_
          refine V_iln dX12_judge_64 rfl ?_
          refine V_ialdNv dX12_judge_65 (by assumption) (by omega) (by omega) (e70 i) ?_
          refine V_aln dX12_judge_66 rfl ?_
          refine V_getR dX12_judge_67 flX12_235 (by assumption) rfl (by assumption) ?_
          refine V_iln dX12_judge_70 rfl ?_
          refine V_ialdNv dX12_judge_71 (by assumption) (by omega) (by omega) (e70 k) ?_
          refine V_icmp_ne (tgt := 97) dX12_judge_72 rfl (fun c72 => ?_) (fun c72 => ?_)
          · exact no (by simp [qWas, c72]) c37 --done
          · have c72 : I 70 i = I 70 k := by first | exact c72 | exact Classical.not_not.mp c72
            refine V_aln dX12_judge_75 rfl ?_
            refine V_getR dX12_judge_76 flX12_238 (by assumption) rfl (by assumption) ?_
            refine V_iln dX12_judge_79 rfl ?_
            refine V_ialdNv dX12_judge_80 (by assumption) (by omega) (by omega) (e71 i) ?_
            refine V_aln dX12_judge_81 rfl ?_
            refine V_getR dX12_judge_82 flX12_238 (by assumption) rfl (by assumption) ?_
            refine V_iln dX12_judge_85 rfl ?_
            refine V_ialdNv dX12_judge_86 (by assumption) (by omega) (by omega) (e71 k) ?_
            refine V_icmp_ne (tgt := 97) dX12_judge_87 rfl (fun c87 => ?_) (fun c87 => ?_)
            · exact no (by simp [qWas, c87]) c37 --done
            · have c87 : I 71 i = I 71 k := by first | exact c87 | exact Classical.not_not.mp c87
              refine V_aln dX12_judge_90 rfl ?_
              refine V_getR dX12_judge_91 flX12_241 (by assumption) rfl (by assumption) ?_
              refine V_iln dX12_judge_94 rfl ?_
              refine V_iconst (v := 3) rfl dX12_judge_95 ?_
              refine V_iastN dX12_judge_96 (by assumption) (by omega) (by omega) ?_
              refine V_inc3 dX12_judge_97 ?_
              refine V_goto (tgt := 32) dX12_judge_100 rfl ?_
              have hq : qWas I k i = true := by simp [qWas, c47, c57, c72, c87]
              have h1 := ih (i + 1) (by omega) (by omega)
              rw [hs, hq, Bool.or_true] at h1
              rw [nI_inc]
              refine V_mem (fun c j => ?_) (fun _ _ => rfl) h1
              unfold mDsM
              by_cases hcj : c = 72 ∧ j = k
              · split <;> simp [mUp, hcj]
              · split <;> simp only [mUp, if_neg hcj, if_true]
theorem t_judgeF {G : mG} {k nk b p g : Nat} (hJ : MJ sh I P n ng nl nf) (hnk2 : nk ≤ 60) (hk : k < nk) (l1 : I 68 k = nI b) (l3 : I 70 k = nI g) (l4 : b < 30) (l5 : p < 30) (l6 : g < ng) (h0 : I 72 k = 0) (hf : pFi I n nl nf p g (I 71 k) = 0) (x : Option Value) (hM : mM X B "judge" (some .int) 4 106 0 0 (mDet (some (.int 2)) nx sh (mFaM I k b) P) G) : V X B RX12 cX12_judge G 0 0 nx sh I P 103 [some (.ref (B + 35)), some (.int (nI k)), some (.int (nI p)), x, none] [] := by
  have hV := hJ.1
  have s35 : sh 35 = some (.inl 12) := hV.1 35 _ rfl
  have s_accused : sh 69 = some (.inr (0, 60)) := hV.1 69 _ rfl
  have p_accused : P 35 48 = some 69 := hV.2 48 69 rfl
  have s_inGown : sh 70 = some (.inr (0, 60)) := hV.1 70 _ rfl
  have p_inGown : P 35 49 = some 70 := hV.2 49 70 rfl
  have s_onDay : sh 71 = some (.inr (0, 60)) := hV.1 71 _ rfl
  have p_onDay : P 35 50 = some 71 := hV.2 50 71 rfl
  have s_state : sh 72 = some (.inr (0, 60)) := hV.1 72 _ rfl
  have p_state : P 35 51 = some 72 := hV.2 51 72 rfl
  have s_paid : sh 65 = some (.inr (0, 30)) := hV.1 65 _ rfl
  have p_paid : P 35 42 = some 65 := hV.2 42 65 rfl
  have s_by : sh 68 = some (.inr (0, 60)) := hV.1 68 _ rfl
  have p_by : P 35 47 = some 68 := hV.2 47 68 rfl
  refine V_aln dX12_judge_103 rfl ?_
  refine V_getR dX12_judge_104 flX12_241 (by assumption) rfl (by assumption) ?_
  refine V_iln dX12_judge_107 rfl ?_
  refine V_ialdNv dX12_judge_108 (by assumption) (by omega) (by omega) (h0) ?_
  refine V_iconst (v := 3) rfl dX12_judge_109 ?_
  refine V_icmp_ne (tgt := 115) dX12_judge_110 rfl (fun c110 => ?_) (fun c110 => ?_)
  · refine V_aln dX12_judge_115 rfl ?_
    refine V_iln dX12_judge_116 rfl ?_
    refine V_aln dX12_judge_117 rfl ?_
    refine V_getR dX12_judge_118 flX12_235 (by assumption) rfl (by assumption) ?_
    refine V_iln dX12_judge_121 rfl ?_
    refine V_ialdNv dX12_judge_122 (by assumption) (by omega) (by omega) (l3) ?_
    refine V_aln dX12_judge_123 rfl ?_
    refine V_getR dX12_judge_124 flX12_238 (by assumption) rfl (by assumption) ?_
    refine V_iln dX12_judge_127 rfl ?_
    refine V_ialdN dX12_judge_128 (by assumption) (by omega) (by omega) ?_
    refine V_cV3d hM cvX12_333 (by assumption) rfl (x_fineOf hJ l5 l6) ⟨Nat.le_of_ble_eq_true rfl, Nat.le_of_ble_eq_true rfl, Nat.le_of_ble_eq_true rfl, Nat.le_of_ble_eq_true rfl⟩ (Nat.le_of_ble_eq_true rfl) dX12_judge_129 ?_
    rw [hf]
    refine V_is3 dX12_judge_132 ?_
    refine V_iln dX12_judge_133 rfl ?_
    refine V_if_ne (tgt := 173) dX12_judge_134 rfl (fun c134 => ?_) (fun c134 => ?_)
    · exact absurd rfl c134 --done
    · refine V_aln dX12_judge_137 rfl ?_
      refine V_getR dX12_judge_138 flX12_220 (by assumption) rfl (by assumption) ?_
      refine V_aln dX12_judge_141 rfl ?_
      refine V_getR dX12_judge_142 flX12_229 (by assumption) rfl (by assumption) ?_
      refine V_iln dX12_judge_145 rfl ?_
      refine V_ialdNv dX12_judge_146 (by assumption) (by omega) (by omega) (l1) ?_
      refine V_dup2 rfl rfl dX12_judge_147 ?_
      refine V_ialdN dX12_judge_148 (by assumption) (by omega) (by omega) ?_
      refine V_bipush (v := 50) rfl dX12_judge_149 ?_
      refine V_iadd dX12_judge_151 ?_
      refine V_iastN dX12_judge_152 (by assumption) (by omega) (by omega) ?_
      refine V_aln dX12_judge_153 rfl ?_
      refine V_dup rfl dX12_judge_154 ?_
      refine V_getIv dX12_judge_155 flX12_343 (by assumption) rfl (mUp_c (by decide)) ?_
      refine V_bipush (v := 50) rfl dX12_judge_158 ?_
      refine V_iadd dX12_judge_160 ?_
      refine V_putI dX12_judge_161 flX12_343 (by assumption) rfl rfl ?_
      refine V_aln dX12_judge_164 rfl ?_
      refine V_getR dX12_judge_165 flX12_241 (by assumption) rfl (by assumption) ?_
      refine V_iln dX12_judge_168 rfl ?_
      refine V_iconst (v := 2) rfl dX12_judge_169 ?_
      refine V_iastN dX12_judge_170 (by assumption) (by omega) (by omega) ?_
      refine V_iconst (v := 2) rfl dX12_judge_171 ?_
      exact V_iret hM dX12_judge_172 (mDet.rf)
  · exact absurd c110 (by decide) --done
theorem t_judgeC {G : mG} {k nk b p g : Nat} (hJ : MJ sh I P n ng nl nf) (hnk2 : nk ≤ 60) (hk : k < nk) (l1 : I 68 k = nI b) (l3 : I 70 k = nI g) (l4 : b < 30) (l5 : p < 30) (l6 : g < ng) (h0 : I 72 k = 0) (hf : ¬ pFi I n nl nf p g (I 71 k) = 0) (x : Option Value) (hM : mM X B "judge" (some .int) 4 106 0 0 (mDet (some (.int 1)) nx sh (mCoM I k p b (pFi I n nl nf p g (I 71 k)) (shareF (pFi I n nl nf p g (I 71 k)) (pPt I n (I 71 k) n))) P) G) : V X B RX12 cX12_judge G 0 0 nx sh I P 103 [some (.ref (B + 35)), some (.int (nI k)), some (.int (nI p)), x, none] [] := by
  have hV := hJ.1
  have s35 : sh 35 = some (.inl 12) := hV.1 35 _ rfl
  have s_accused : sh 69 = some (.inr (0, 60)) := hV.1 69 _ rfl
  have p_accused : P 35 48 = some 69 := hV.2 48 69 rfl
  have s_inGown : sh 70 = some (.inr (0, 60)) := hV.1 70 _ rfl
  have p_inGown : P 35 49 = some 70 := hV.2 49 70 rfl
  have s_onDay : sh 71 = some (.inr (0, 60)) := hV.1 71 _ rfl
  have p_onDay : P 35 50 = some 71 := hV.2 50 71 rfl
  have s_state : sh 72 = some (.inr (0, 60)) := hV.1 72 _ rfl
  have p_state : P 35 51 = some 72 := hV.2 51 72 rfl
  have s_paid : sh 65 = some (.inr (0, 30)) := hV.1 65 _ rfl
  have p_paid : P 35 42 = some 65 := hV.2 42 65 rfl
  have s_by : sh 68 = some (.inr (0, 60)) := hV.1 68 _ rfl
  have p_by : P 35 47 = some 68 := hV.2 47 68 rfl
  have s_had : sh 66 = some (.inr (0, 30)) := hV.1 66 _ rfl
  have p_had : P 35 43 = some 66 := hV.2 43 66 rfl
  have s_fined : sh 73 = some (.inr (0, 60)) := hV.1 73 _ rfl
  have p_fined : P 35 52 = some 73 := hV.2 52 73 rfl
  have s_shared : sh 74 = some (.inr (0, 60)) := hV.1 74 _ rfl
  have p_shared : P 35 53 = some 74 := hV.2 53 74 rfl
  have s_convicted : sh 64 = some (.inr (0, 30)) := hV.1 64 _ rfl
  have p_convicted : P 35 41 = some 64 := hV.2 41 64 rfl
  refine V_aln dX12_judge_103 rfl ?_
  refine V_getR dX12_judge_104 flX12_241 (by assumption) rfl (by assumption) ?_
  refine V_iln dX12_judge_107 rfl ?_
  refine V_ialdNv dX12_judge_108 (by assumption) (by omega) (by omega) (h0) ?_
  refine V_iconst (v := 3) rfl dX12_judge_109 ?_
  refine V_icmp_ne (tgt := 115) dX12_judge_110 rfl (fun c110 => ?_) (fun c110 => ?_)
  · refine V_aln dX12_judge_115 rfl ?_
    refine V_iln dX12_judge_116 rfl ?_
    refine V_aln dX12_judge_117 rfl ?_
    refine V_getR dX12_judge_118 flX12_235 (by assumption) rfl (by assumption) ?_
    refine V_iln dX12_judge_121 rfl ?_
    refine V_ialdNv dX12_judge_122 (by assumption) (by omega) (by omega) (l3) ?_
    refine V_aln dX12_judge_123 rfl ?_
    refine V_getR dX12_judge_124 flX12_238 (by assumption) rfl (by assumption) ?_
    refine V_iln dX12_judge_127 rfl ?_
    refine V_ialdN dX12_judge_128 (by assumption) (by omega) (by omega) ?_
    refine V_cV3d hM cvX12_333 (by assumption) rfl (x_fineOf hJ l5 l6) ⟨Nat.le_of_ble_eq_true rfl, Nat.le_of_ble_eq_true rfl, Nat.le_of_ble_eq_true rfl, Nat.le_of_ble_eq_true rfl⟩ (Nat.le_of_ble_eq_true rfl) dX12_judge_129 ?_
    refine V_is3 dX12_judge_132 ?_
    refine V_iln dX12_judge_133 rfl ?_
    refine V_if_ne (tgt := 173) dX12_judge_134 rfl (fun c134 => ?_) (fun c134 => ?_)
    · refine V_iln dX12_judge_173 rfl ?_
      refine V_i2l dX12_judge_174 ?_
      refine V_aln dX12_judge_175 rfl ?_
      refine V_aln dX12_judge_176 rfl ?_
      refine V_getR dX12_judge_177 flX12_238 (by assumption) rfl (by assumption) ?_
      refine V_iln dX12_judge_180 rfl ?_
      refine V_ialdN dX12_judge_181 (by assumption) (by omega) (by omega) ?_
      refine V_cV1d hM cvX12_346 (by assumption) rfl (x_partOn hJ) ⟨Nat.le_of_ble_eq_true rfl, Nat.le_of_ble_eq_true rfl, Nat.le_of_ble_eq_true rfl, Nat.le_of_ble_eq_true rfl⟩ (Nat.le_of_ble_eq_true rfl) dX12_judge_182 ?_
      refine V_i2l dX12_judge_185 ?_
      refine V_lmul dX12_judge_186 ?_
      refine V_ldc2 kjX12_349 dX12_judge_187 ?_
      refine V_ldiv (by decide) dX12_judge_190 ?_
      refine V_l2i dX12_judge_191 ?_
      refine V_is4 dX12_judge_192 ?_
      refine V_aln dX12_judge_194 rfl ?_
      refine V_getR dX12_judge_195 flX12_244 (by assumption) rfl (by assumption) ?_
      refine V_iln dX12_judge_198 rfl ?_
      refine V_iln dX12_judge_199 rfl ?_
      refine V_iastN dX12_judge_200 (by assumption) (by omega) (by omega) ?_
      refine V_aln dX12_judge_201 rfl ?_
      refine V_getR dX12_judge_202 flX12_247 (by assumption) rfl (by assumption) ?_
      refine V_iln dX12_judge_205 rfl ?_
      refine V_il dX12_judge_206 rfl ?_
      refine V_iastN dX12_judge_208 (by assumption) (by omega) (by omega) ?_
      refine V_aln dX12_judge_209 rfl ?_
      refine V_getR dX12_judge_210 flX12_220 (by assumption) rfl (by assumption) ?_
      refine V_iln dX12_judge_213 rfl ?_
      refine V_dup2 rfl rfl dX12_judge_214 ?_
      refine V_ialdNv dX12_judge_215 (by assumption) (by omega) (by omega) ((mUp_c (by decide)).trans (mUp_c (by decide))) ?_
      refine V_iln dX12_judge_216 rfl ?_
      refine V_iadd dX12_judge_217 ?_
      refine V_iastN dX12_judge_218 (by assumption) (by omega) (by omega) ?_
      refine V_aln dX12_judge_219 rfl ?_
      refine V_getR dX12_judge_220 flX12_223 (by assumption) rfl (by assumption) ?_
      refine V_aln dX12_judge_223 rfl ?_
      refine V_getR dX12_judge_224 flX12_229 (by assumption) rfl (by assumption) ?_
      refine V_iln dX12_judge_227 rfl ?_
      refine V_ialdNv dX12_judge_228 (by assumption) (by omega) (by omega) ((mUp_c (by decide)).trans ((mUp_c (by decide)).trans ((mUp_c (by decide)).trans l1))) ?_
      refine V_dup2 rfl rfl dX12_judge_229 ?_
      refine V_ialdNv dX12_judge_230 (by assumption) (by omega) (by omega) ((mUp_c (by decide)).trans ((mUp_c (by decide)).trans (mUp_c (by decide)))) ?_
      refine V_il dX12_judge_231 rfl ?_
      refine V_iadd dX12_judge_233 ?_
      refine V_iastN dX12_judge_234 (by assumption) (by omega) (by omega) ?_
      refine V_aln dX12_judge_235 rfl ?_
      refine V_dup rfl dX12_judge_236 ?_
      refine V_getIv dX12_judge_237 flX12_343 (by assumption) rfl ((mUp_c (by decide)).trans ((mUp_c (by decide)).trans ((mUp_c (by decide)).trans (mUp_c (by decide))))) ?_
      refine V_iln dX12_judge_240 rfl ?_
      refine V_il dX12_judge_241 rfl ?_
      refine V_isub dX12_judge_243 ?_
      refine V_iadd dX12_judge_244 ?_
      refine V_putI dX12_judge_245 flX12_343 (by assumption) rfl rfl ?_
      refine V_aln dX12_judge_248 rfl ?_
      refine V_getR dX12_judge_249 flX12_217 (by assumption) rfl (by assumption) ?_
      refine V_iln dX12_judge_252 rfl ?_
      refine V_dup2 rfl rfl dX12_judge_253 ?_
      refine V_ialdNv dX12_judge_254 (by assumption) (by omega) (by omega) ((mUp_c (by decide)).trans ((mUp_c (by decide)).trans ((mUp_c (by decide)).trans ((mUp_c (by decide)).trans (mUp_c (by decide)))))) ?_
      refine V_iconst (v := 1) rfl dX12_judge_255 ?_
      refine V_iadd dX12_judge_256 ?_
      refine V_iastN dX12_judge_257 (by assumption) (by omega) (by omega) ?_
      refine V_aln dX12_judge_258 rfl ?_
      refine V_getR dX12_judge_259 flX12_241 (by assumption) rfl (by assumption) ?_
      refine V_iln dX12_judge_262 rfl ?_
      refine V_iconst (v := 1) rfl dX12_judge_263 ?_
      refine V_iastN dX12_judge_264 (by assumption) (by omega) (by omega) ?_
      refine V_iconst (v := 1) rfl dX12_judge_265 ?_
      exact V_iret hM dX12_judge_266 (mDet.rf)
    · exact absurd c134 hf --done
  · exact absurd c110 (by decide) --done
theorem mDs_f {k : Nat} : mDsM I k false = I := rfl
/-- a letter that was judged before in another -/
theorem x_judgeD {k nk : Nat} (hJ : MJ sh I P n ng nl nf) (hnk : I 35 45 = nI nk) (hnk2 : nk ≤ 60) (hk : k < nk) (hl : mLok I k ng) (h0 : I 72 k = 0) (hw : anyR (qWas I k) nk = true) : Ev X B mdX12_judge 0 0 [.ref (B + 35), .int (nI k)] nx sh I P (mDet (some (.int 3)) nx sh (mUp I 72 k 3) P) := by
  have hV := hJ.1
  obtain ⟨b, p, g, l1, l2, l3, l4, l5, l6⟩ := hl
  have s35 : sh 35 = some (.inl 12) := hV.1 35 _ rfl
  have s_accused : sh 69 = some (.inr (0, 60)) := hV.1 69 _ rfl
  have p_accused : P 35 48 = some 69 := hV.2 48 69 rfl
  have s_inGown : sh 70 = some (.inr (0, 60)) := hV.1 70 _ rfl
  have p_inGown : P 35 49 = some 70 := hV.2 49 70 rfl
  have s_onDay : sh 71 = some (.inr (0, 60)) := hV.1 71 _ rfl
  have p_onDay : P 35 50 = some 71 := hV.2 50 71 rfl
  have s_state : sh 72 = some (.inr (0, 60)) := hV.1 72 _ rfl
  have p_state : P 35 51 = some 72 := hV.2 51 72 rfl
  refine Ev.of (by decide) (by simp [Value.category]) (by simp) (fun G hM => ?_)
  have hM : mM X B "judge" (some FieldType.int) 4 106 0 0 _ G := hM
  show V X B RX12 cX12_judge G 0 0 nx sh I P 0 [some (.ref (B + 35)), some (.int (nI k)), none, none, none] []
  refine V_aln dX12_judge_0 rfl ?_
  refine V_iln dX12_judge_1 rfl ?_
  refine V_cV1d hM cvX12_340 (by assumption) rfl (e_X12_isLetterOf hV hnk (by omega)) ⟨Nat.le_of_ble_eq_true rfl, Nat.le_of_ble_eq_true rfl, Nat.le_of_ble_eq_true rfl, Nat.le_of_ble_eq_true rfl⟩ (Nat.le_of_ble_eq_true rfl) dX12_judge_2 ?_
  rw [inB_of hk (by omega)]
  refine V_ifne_b (tgt := 11) dX12_judge_5 rfl (fun c5 => ?_) (fun c5 => ?_)
  · refine V_aln dX12_judge_11 rfl ?_
    refine V_getR dX12_judge_12 flX12_241 (by assumption) rfl (by assumption) ?_
    refine V_iln dX12_judge_15 rfl ?_
    refine V_ialdNv dX12_judge_16 (by assumption) (by omega) (by omega) (h0) ?_
    refine V_if_eq (tgt := 23) dX12_judge_17 rfl (fun c17 => ?_) (fun c17 => ?_)
    · refine V_aln dX12_judge_23 rfl ?_
      refine V_getR dX12_judge_24 flX12_232 (by assumption) rfl (by assumption) ?_
      refine V_iln dX12_judge_27 rfl ?_
      refine V_ialdNv dX12_judge_28 (by assumption) (by omega) (by omega) (l2) ?_
      refine V_is2 dX12_judge_29 ?_
      refine V_iconst (v := 0) rfl dX12_judge_30 ?_
      refine V_is3 dX12_judge_31 ?_
      refine l_X12_judge hV hnk hnk2 hk l2 h0 (fun x => ?_) (nk + 1) 0 (by omega) (by omega)
      rw [hw]
      refine V_mem (I' := mUp I 72 k 3) (fun _ _ => rfl) (fun _ _ => rfl) ?_
      refine V_aln dX12_judge_103 rfl ?_
      refine V_getR dX12_judge_104 flX12_241 (by assumption) rfl (by assumption) ?_
      refine V_iln dX12_judge_107 rfl ?_
      refine V_ialdNv (v := 3) dX12_judge_108 (by assumption) (by omega) (by omega) mUp_s ?_
      refine V_iconst (v := 3) rfl dX12_judge_109 ?_
      refine V_icmp_ne (tgt := 115) dX12_judge_110 rfl (fun c => absurd rfl c) (fun c => ?_)
      refine V_iconst (v := 3) rfl dX12_judge_113 ?_
      exact V_iret hM dX12_judge_114 mDet.rf
    · exact absurd rfl c17 --done
  · exact absurd c5 (by decide) --done
theorem x_judgeF {k nk b p g : Nat} (hJ : MJ sh I P n ng nl nf) (hnk : I 35 45 = nI nk) (hnk2 : nk ≤ 60) (hk : k < nk) (l1 : I 68 k = nI b) (l2 : I 69 k = nI p) (l3 : I 70 k = nI g) (l4 : b < 30) (l5 : p < 30) (l6 : g < ng) (h0 : I 72 k = 0) (hw : anyR (qWas I k) nk = false) (hf : pFi I n nl nf p g (I 71 k) = 0) : Ev X B mdX12_judge 0 0 [.ref (B + 35), .int (nI k)] nx sh I P (mDet (some (.int 2)) nx sh (mFaM I k b) P) := by
  have hV := hJ.1
  have s35 : sh 35 = some (.inl 12) := hV.1 35 _ rfl
  have s_accused : sh 69 = some (.inr (0, 60)) := hV.1 69 _ rfl
  have p_accused : P 35 48 = some 69 := hV.2 48 69 rfl
  have s_inGown : sh 70 = some (.inr (0, 60)) := hV.1 70 _ rfl
  have p_inGown : P 35 49 = some 70 := hV.2 49 70 rfl
  have s_onDay : sh 71 = some (.inr (0, 60)) := hV.1 71 _ rfl
  have p_onDay : P 35 50 = some 71 := hV.2 50 71 rfl
  have s_state : sh 72 = some (.inr (0, 60)) := hV.1 72 _ rfl
  have p_state : P 35 51 = some 72 := hV.2 51 72 rfl
  have s_paid : sh 65 = some (.inr (0, 30)) := hV.1 65 _ rfl
  have p_paid : P 35 42 = some 65 := hV.2 42 65 rfl
  have s_by : sh 68 = some (.inr (0, 60)) := hV.1 68 _ rfl
  have p_by : P 35 47 = some 68 := hV.2 47 68 rfl
  refine Ev.of (by decide) (by simp [Value.category]) (by simp) (fun G hM => ?_)
  have hM : mM X B "judge" (some FieldType.int) 4 106 0 0 _ G := hM
  show V X B RX12 cX12_judge G 0 0 nx sh I P 0 [some (.ref (B + 35)), some (.int (nI k)), none, none, none] []
  refine V_aln dX12_judge_0 rfl ?_
  refine V_iln dX12_judge_1 rfl ?_
  refine V_cV1d hM cvX12_340 (by assumption) rfl (e_X12_isLetterOf hV hnk (by omega)) ⟨Nat.le_of_ble_eq_true rfl, Nat.le_of_ble_eq_true rfl, Nat.le_of_ble_eq_true rfl, Nat.le_of_ble_eq_true rfl⟩ (Nat.le_of_ble_eq_true rfl) dX12_judge_2 ?_
  rw [inB_of hk (by omega)]
  refine V_ifne_b (tgt := 11) dX12_judge_5 rfl (fun c5 => ?_) (fun c5 => ?_)
  · refine V_aln dX12_judge_11 rfl ?_
    refine V_getR dX12_judge_12 flX12_241 (by assumption) rfl (by assumption) ?_
    refine V_iln dX12_judge_15 rfl ?_
    refine V_ialdNv dX12_judge_16 (by assumption) (by omega) (by omega) (h0) ?_
    refine V_if_eq (tgt := 23) dX12_judge_17 rfl (fun c17 => ?_) (fun c17 => ?_)
    · refine V_aln dX12_judge_23 rfl ?_
      refine V_getR dX12_judge_24 flX12_232 (by assumption) rfl (by assumption) ?_
      refine V_iln dX12_judge_27 rfl ?_
      refine V_ialdNv dX12_judge_28 (by assumption) (by omega) (by omega) (l2) ?_
      refine V_is2 dX12_judge_29 ?_
      refine V_iconst (v := 0) rfl dX12_judge_30 ?_
      refine V_is3 dX12_judge_31 ?_
      refine l_X12_judge hV hnk hnk2 hk l2 h0 (fun x => ?_) (nk + 1) 0 (by omega) (by omega)
      rw [hw, mDs_f]
      exact t_judgeF hJ hnk2 hk l1 l3 l4 l5 l6 h0 hf x hM
    · exact absurd rfl c17 --done
  · exact absurd c5 (by decide) --done
theorem x_judgeC {k nk b p g : Nat} (hJ : MJ sh I P n ng nl nf) (hnk : I 35 45 = nI nk) (hnk2 : nk ≤ 60) (hk : k < nk) (l1 : I 68 k = nI b) (l2 : I 69 k = nI p) (l3 : I 70 k = nI g) (l4 : b < 30) (l5 : p < 30) (l6 : g < ng) (h0 : I 72 k = 0) (hw : anyR (qWas I k) nk = false) (hf : ¬ pFi I n nl nf p g (I 71 k) = 0) : Ev X B mdX12_judge 0 0 [.ref (B + 35), .int (nI k)] nx sh I P (mDet (some (.int 1)) nx sh (mCoM I k p b (pFi I n nl nf p g (I 71 k)) (shareF (pFi I n nl nf p g (I 71 k)) (pPt I n (I 71 k) n))) P) := by
  have hV := hJ.1
  have s35 : sh 35 = some (.inl 12) := hV.1 35 _ rfl
  have s_accused : sh 69 = some (.inr (0, 60)) := hV.1 69 _ rfl
  have p_accused : P 35 48 = some 69 := hV.2 48 69 rfl
  have s_inGown : sh 70 = some (.inr (0, 60)) := hV.1 70 _ rfl
  have p_inGown : P 35 49 = some 70 := hV.2 49 70 rfl
  have s_onDay : sh 71 = some (.inr (0, 60)) := hV.1 71 _ rfl
  have p_onDay : P 35 50 = some 71 := hV.2 50 71 rfl
  have s_state : sh 72 = some (.inr (0, 60)) := hV.1 72 _ rfl
  have p_state : P 35 51 = some 72 := hV.2 51 72 rfl
  have s_paid : sh 65 = some (.inr (0, 30)) := hV.1 65 _ rfl
  have p_paid : P 35 42 = some 65 := hV.2 42 65 rfl
  have s_by : sh 68 = some (.inr (0, 60)) := hV.1 68 _ rfl
  have p_by : P 35 47 = some 68 := hV.2 47 68 rfl
  refine Ev.of (by decide) (by simp [Value.category]) (by simp) (fun G hM => ?_)
  have hM : mM X B "judge" (some FieldType.int) 4 106 0 0 _ G := hM
  show V X B RX12 cX12_judge G 0 0 nx sh I P 0 [some (.ref (B + 35)), some (.int (nI k)), none, none, none] []
  refine V_aln dX12_judge_0 rfl ?_
  refine V_iln dX12_judge_1 rfl ?_
  refine V_cV1d hM cvX12_340 (by assumption) rfl (e_X12_isLetterOf hV hnk (by omega)) ⟨Nat.le_of_ble_eq_true rfl, Nat.le_of_ble_eq_true rfl, Nat.le_of_ble_eq_true rfl, Nat.le_of_ble_eq_true rfl⟩ (Nat.le_of_ble_eq_true rfl) dX12_judge_2 ?_
  rw [inB_of hk (by omega)]
  refine V_ifne_b (tgt := 11) dX12_judge_5 rfl (fun c5 => ?_) (fun c5 => ?_)
  · refine V_aln dX12_judge_11 rfl ?_
    refine V_getR dX12_judge_12 flX12_241 (by assumption) rfl (by assumption) ?_
    refine V_iln dX12_judge_15 rfl ?_
    refine V_ialdNv dX12_judge_16 (by assumption) (by omega) (by omega) (h0) ?_
    refine V_if_eq (tgt := 23) dX12_judge_17 rfl (fun c17 => ?_) (fun c17 => ?_)
    · refine V_aln dX12_judge_23 rfl ?_
      refine V_getR dX12_judge_24 flX12_232 (by assumption) rfl (by assumption) ?_
      refine V_iln dX12_judge_27 rfl ?_
      refine V_ialdNv dX12_judge_28 (by assumption) (by omega) (by omega) (l2) ?_
      refine V_is2 dX12_judge_29 ?_
      refine V_iconst (v := 0) rfl dX12_judge_30 ?_
      refine V_is3 dX12_judge_31 ?_
      refine l_X12_judge hV hnk hnk2 hk l2 h0 (fun x => ?_) (nk + 1) 0 (by omega) (by omega)
      rw [hw, mDs_f]
      exact t_judgeC hJ hnk2 hk l1 l3 l4 l5 l6 h0 hf x hM
    · exact absurd rfl c17 --done
  · exact absurd c5 (by decide) --done
theorem x_judgeS {k nk : Nat} (hJ : MJ sh I P n ng nl nf) (hnk : I 35 45 = nI nk) (hnk2 : nk ≤ 60) (hk : k < nk) (h0 : ¬ I 72 k = 0) : Ev X B mdX12_judge 0 0 [.ref (B + 35), .int (nI k)] nx sh I P (mDet (some (.int (-4))) nx sh I P) := by
  have hV := hJ.1
  have s35 : sh 35 = some (.inl 12) := hV.1 35 _ rfl
  have s_state : sh 72 = some (.inr (0, 60)) := hV.1 72 _ rfl
  have p_state : P 35 51 = some 72 := hV.2 51 72 rfl
  refine Ev.of (by decide) (by simp [Value.category]) (by simp) (fun G hM => ?_)
  have hM : mM X B "judge" (some FieldType.int) 4 106 0 0 _ G := hM
  show V X B RX12 cX12_judge G 0 0 nx sh I P 0 [some (.ref (B + 35)), some (.int (nI k)), none, none, none] []
  refine V_aln dX12_judge_0 rfl ?_
  refine V_iln dX12_judge_1 rfl ?_
  refine V_cV1d hM cvX12_340 (by assumption) rfl (e_X12_isLetterOf hV hnk (by omega)) ⟨Nat.le_of_ble_eq_true rfl, Nat.le_of_ble_eq_true rfl, Nat.le_of_ble_eq_true rfl, Nat.le_of_ble_eq_true rfl⟩ (Nat.le_of_ble_eq_true rfl) dX12_judge_2 ?_
  rw [inB_of hk (by omega)]
  refine V_ifne_b (tgt := 11) dX12_judge_5 rfl (fun c5 => ?_) (fun c5 => ?_)
  · refine V_aln dX12_judge_11 rfl ?_
    refine V_getR dX12_judge_12 flX12_241 (by assumption) rfl (by assumption) ?_
    refine V_iln dX12_judge_15 rfl ?_
    refine V_ialdN dX12_judge_16 (by assumption) (by omega) (by omega) ?_
    refine V_if_eq (tgt := 23) dX12_judge_17 rfl (fun c17 => ?_) (fun c17 => ?_)
    · exact absurd c17 h0 --done
    · refine V_bipush (v := -4) rfl dX12_judge_20 ?_
      exact V_iret hM dX12_judge_22 (mDet.rf)
  · exact absurd c5 (by decide) --done
theorem x_judgeN {nk : Nat} {k : Int32} (hJ : MJ sh I P n ng nl nf) (hnk : I 35 45 = nI nk) (hnk2 : nk ≤ 60) (hk : inB k nk = false) : Ev X B mdX12_judge 0 0 [.ref (B + 35), .int k] nx sh I P (mDet (some (.int (-2))) nx sh I P) := by
  have hV := hJ.1
  have s35 : sh 35 = some (.inl 12) := hV.1 35 _ rfl
  refine Ev.of (by decide) (by simp [Value.category]) (by simp) (fun G hM => ?_)
  have hM : mM X B "judge" (some FieldType.int) 4 106 0 0 _ G := hM
  show V X B RX12 cX12_judge G 0 0 nx sh I P 0 [some (.ref (B + 35)), some (.int k), none, none, none] []
  refine V_aln dX12_judge_0 rfl ?_
  refine V_iln dX12_judge_1 rfl ?_
  refine V_cV1d hM cvX12_340 (by assumption) rfl (e_X12_isLetterOf hV hnk (by omega)) ⟨Nat.le_of_ble_eq_true rfl, Nat.le_of_ble_eq_true rfl, Nat.le_of_ble_eq_true rfl, Nat.le_of_ble_eq_true rfl⟩ (Nat.le_of_ble_eq_true rfl) dX12_judge_2 ?_
  rw [hk]
  refine V_ifne_b (tgt := 11) dX12_judge_5 rfl (fun c5 => ?_) (fun c5 => ?_)
  · exact absurd c5 (by decide) --done
  · refine V_bipush (v := -2) rfl dX12_judge_8 ?_
    exact V_iret hM dX12_judge_10 (mDet.rf)
end MJd
