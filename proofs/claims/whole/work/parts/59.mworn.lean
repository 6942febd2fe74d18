/-! ===== the reference's worn ===== -/
def wokM (I : mI) (n nl g : Nat) (rank day : Int32) : Bool := !anyR (fun a => !decide (pBo I n nl a rank 0 g day = 0)) n
section MWn
variable {X : mX} {B nx : Nat} {sh : Nat → Option mSh} {I : mI} {P : mP} {n ng nl nf : Nat}
theorem anyR_s {f : Nat → Bool} {i : Nat} : anyR f (i + 1) = (anyR f i || f i) := by simp [anyR, List.range_succ]
theorem anyR_m {f : Nat → Bool} {i n : Nat} (h : anyR f i = true) (hi : i ≤ n) : anyR f n = true := by
  obtain ⟨j, h1, h2⟩ := anyR_iff.mp h
  exact anyR_iff.mpr ⟨j, by omega, h2⟩
theorem l2_X12_worn {G : mG} {Po : mPo} {g : Nat} {rank day : Int32} {x3 x4 x5 x6 x7 x8 : Option Value} (hM : mM X B "worn" (some .int) 3 79 0 0 Po G) (hJ : MJ sh I P n ng nl nf) (hg : g < ng)
    (next : ∀ x11 : Option Value, V X B RX12 cX12_worn G 0 0 nx sh I P 121 [some (.ref (B + 35)), some (.int (nI g)), some (.int rank), x3, x4, x5, x6, x7, x8, some (.int day), some (.int (bI (wokM I n nl g rank day))), x11] []) : ∀ (z i : Nat), i ≤ n → n - i < z → V X B RX12 cX12_worn G 0 0 nx sh I P 80 [some (.ref (B + 35)), some (.int (nI g)), some (.int rank), x3, x4, x5, x6, x7, x8, some (.int day), some (.int (bI (!anyR (fun a => !decide (pBo I n nl a rank 0 g day = 0)) i))), some (.int (nI i))] [] := by
  have hV := hJ.1
  have hn2 := hJ.2.1.2
  have s35 : sh 35 = some (.inl 12) := hV.1 35 _ rfl
  have bf : ∀ b : Bool, bI (!b) = 0 → b = true := fun b h => by cases b; exact absurd h (by decide); rfl
  have bt : ∀ b : Bool, ¬ bI (!b) = 0 → b = false := fun b h => by cases b; rfl; exact absurd rfl h
  intro z
  induction z with
  | zero => intro i _ h; omega
  | succ z ih =>
    intro i hi hz
    refine V_il dX12_worn_80 rfl ?_
    refine V_aln dX12_worn_82 rfl ?_
    refine V_getIv dX12_worn_83 flX12_118 (by assumption) rfl (hJ.2.1.1) ?_
    refine V_icmp_ge (tgt := 121) dX12_worn_86 rfl (fun c86 => ?_) (fun c86 => ?_)
    · have c86 := nN_le c86 (by omega) (by omega)
      obtain rfl : i = n := by omega
      exact next _ --done
    · have c86 := nN_nle c86 (by omega) (by omega)
      refine V_il dX12_worn_89 rfl ?_
      refine V_if_eq (tgt := 121) dX12_worn_91 rfl (fun c91 => ?_) (fun c91 => ?_)
      · have hb := bf _ c91
        rw [show wokM I n nl g rank day = !anyR (fun a => !decide (pBo I n nl a rank 0 g day = 0)) i by rw [wokM, hb, anyR_m hb hi]] at next
        exact next _ --done
      · have hb := bt _ c91
        refine V_aln dX12_worn_94 rfl ?_
        refine V_il dX12_worn_95 rfl ?_
        refine V_iln dX12_worn_97 rfl ?_
        refine V_iconst (v := 0) rfl dX12_worn_98 ?_
        refine V_iln dX12_worn_99 rfl ?_
        refine V_il dX12_worn_100 rfl ?_
        refine V_cV5d hM cvX12_320 (by assumption) rfl (x_brokenOf hJ c86 hg) ⟨Nat.le_of_ble_eq_true rfl, Nat.le_of_ble_eq_true rfl, Nat.le_of_ble_eq_true rfl, Nat.le_of_ble_eq_true rfl⟩ (Nat.le_of_ble_eq_true rfl) dX12_worn_102 ?_
        refine V_if_ne (tgt := 112) dX12_worn_105 rfl (fun c105 => ?_) (fun c105 => ?_)
        · refine V_iconst (v := 0) rfl dX12_worn_112 ?_
          refine V_is10 dX12_worn_113 ?_
          refine V_inc11 dX12_worn_115 ?_
          refine V_goto (tgt := 80) dX12_worn_118 rfl ?_
          refine V_ls ?_ (ih (i + 1) (by omega) (by omega))
          rw [nI_inc, anyR_s, hb]
          simp [c105, bI]
        · refine V_iconst (v := 1) rfl dX12_worn_108 ?_
          refine V_goto (tgt := 113) dX12_worn_109 rfl ?_
          refine V_is10 dX12_worn_113 ?_
          refine V_inc11 dX12_worn_115 ?_
          refine V_goto (tgt := 80) dX12_worn_118 rfl ?_
          refine V_ls ?_ (ih (i + 1) (by omega) (by omega))
          rw [nI_inc, anyR_s, hb]
          simp [c105, bI]
theorem l_X12_worn {G : mG} {g f t : Nat} {rank what : Int32} (hJ : MJ sh I P n ng nl nf) (hg : g < ng) (hft : f ≤ t) (ht : t < 10000)
    (hM : mM X B "worn" (some .int) 3 79 0 0 (mDet (some (.int (wnR (wnF (fun d => wokM I n nl g rank (nI d)) f (t + 1 - f)) what))) nx sh I P) G) (hwh : what = 0 ∨ what = 1 ∨ what = 2) : ∀ (z i : Nat) (x10 x11 : Option Value), i ≤ t + 1 - f → t + 1 - f - i < z → V X B RX12 cX12_worn G 0 0 nx sh I P 67 [some (.ref (B + 35)), some (.int (nI g)), some (.int rank), some (.int (nI f)), some (.int (nI t)), some (.int what), some (.int (wnF (fun d => wokM I n nl g rank (nI d)) f i).1), some (.int (wnF (fun d => wokM I n nl g rank (nI d)) f i).2.1), some (.int (wnF (fun d => wokM I n nl g rank (nI d)) f i).2.2), some (.int (nI (f + i))), x10, x11] [] := by
  have hV := hJ.1
  have s35 : sh 35 = some (.inl 12) := hV.1 35 _ rfl
  have bf : ∀ b : Bool, bI b = 0 → b = false := fun b h => by cases b; rfl; exact absurd h (by decide)
  have bt : ∀ b : Bool, ¬ bI b = 0 → b = true := fun b h => by cases b; exact absurd rfl h; rfl
  intro z
  induction z with
  | zero => intro i _ _ _ h; omega
  | succ z ih =>
    intro i x10 x11 hi hz
    have tl : i < t + 1 - f → ∀ x11 : Option Value, V X B RX12 cX12_worn G 0 0 nx sh I P 121 [some (.ref (B + 35)), some (.int (nI g)), some (.int rank), some (.int (nI f)), some (.int (nI t)), some (.int what), some (.int (wnF (fun d => wokM I n nl g rank (nI d)) f i).1), some (.int (wnF (fun d => wokM I n nl g rank (nI d)) f i).2.1), some (.int (wnF (fun d => wokM I n nl g rank (nI d)) f i).2.2), some (.int (nI (f + i))), some (.int (bI (wokM I n nl g rank (nI (f + i))))), x11] [] := by
      intro hlt x11
      refine V_il dX12_worn_121 rfl ?_
      refine V_if_ne (tgt := 129) dX12_worn_123 rfl (fun c123 => ?_) (fun c123 => ?_)
      · have hb := bt _ c123
        refine V_inc6 dX12_worn_129 ?_
        refine V_il dX12_worn_132 rfl ?_
        refine V_is8 dX12_worn_134 ?_
        refine V_il dX12_worn_136 rfl ?_
        refine V_iconst (v := -1) rfl dX12_worn_138 ?_
        refine V_icmp_ne (tgt := 146) dX12_worn_139 rfl (fun c139 => ?_) (fun c139 => ?_)
        · refine V_inc9 dX12_worn_146 ?_
          refine V_goto (tgt := 67) dX12_worn_149 rfl ?_
          refine V_ls ?_ (ih (i + 1) (some (.int (bI (wokM I n nl g rank (nI (f + i)))))) x11 (by omega) (by omega))
          clear ih hM hJ
          simp_all [nI_inc, nI_inc', wnF, Nat.add_assoc]
        · refine V_il dX12_worn_142 rfl ?_
          refine V_is7 dX12_worn_144 ?_
          refine V_inc9 dX12_worn_146 ?_
          refine V_goto (tgt := 67) dX12_worn_149 rfl ?_
          refine V_ls ?_ (ih (i + 1) (some (.int (bI (wokM I n nl g rank (nI (f + i)))))) x11 (by omega) (by omega))
          clear ih hM hJ
          simp_all [nI_inc, nI_inc', wnF, Nat.add_assoc]
      · have hb := bf _ c123
        refine V_goto (tgt := 146) dX12_worn_126 rfl ?_
        refine V_inc9 dX12_worn_146 ?_
        refine V_goto (tgt := 67) dX12_worn_149 rfl ?_
        refine V_ls ?_ (ih (i + 1) (some (.int (bI (wokM I n nl g rank (nI (f + i)))))) x11 (by omega) (by omega))
        clear ih hM hJ
        simp_all [nI_inc, nI_inc', wnF, Nat.add_assoc]
    refine V_il dX12_worn_67 rfl ?_
    refine V_il dX12_worn_69 rfl ?_
    refine V_icmp_gt (tgt := 152) dX12_worn_71 rfl (fun c71 => ?_) (fun c71 => ?_)
    · have c71 := nN_lt c71 (by omega) (by omega)
      obtain rfl : i = t + 1 - f := by omega
      refine V_il dX12_worn_152 rfl ?_
      refine V_if_ne (tgt := 162) dX12_worn_154 rfl (fun c154 => ?_) (fun c154 => ?_)
      · refine V_il dX12_worn_162 rfl ?_
        refine V_iconst (v := 1) rfl dX12_worn_164 ?_
        refine V_icmp_ne (tgt := 173) dX12_worn_165 rfl (fun c165 => ?_) (fun c165 => ?_)
        · refine V_il dX12_worn_173 rfl ?_
          exact V_iret hM dX12_worn_175 (⟨by rcases hwh with rfl | rfl | rfl <;> simp_all [wnR], rfl, rfl, rfl, rfl⟩)
        · refine V_il dX12_worn_168 rfl ?_
          refine V_goto (tgt := 175) dX12_worn_170 rfl ?_
          exact V_iret hM dX12_worn_175 (⟨by rcases hwh with rfl | rfl | rfl <;> simp_all [wnR], rfl, rfl, rfl, rfl⟩)
      · refine V_il dX12_worn_157 rfl ?_
        refine V_goto (tgt := 175) dX12_worn_159 rfl ?_
        exact V_iret hM dX12_worn_175 (⟨by rcases hwh with rfl | rfl | rfl <;> simp_all [wnR], rfl, rfl, rfl, rfl⟩)
    · have c71 := nN_nlt c71 (by omega) (by omega)
      refine V_iconst (v := 1) rfl dX12_worn_74 ?_
      refine V_is10 dX12_worn_75 ?_
      refine V_iconst (v := 0) rfl dX12_worn_77 ?_
      refine V_is11 dX12_worn_78 ?_
      exact l2_X12_worn hM hJ hg (tl (by omega)) (n + 1) 0 (by omega) (by omega)
theorem x_worn {g f t : Nat} {rank what : Int32} (hJ : MJ sh I P n ng nl nf) (hg : g < ng) (hft : f ≤ t) (ht : t < 10000) (hx : wnC ng (nI g) rank (nI f) (nI t) what = true) : Ev X B mdX12_worn 0 0 [.ref (B + 35), .int (nI g), .int rank, .int (nI f), .int (nI t), .int what] nx sh I P (mDet (some (.int (wnR (wnF (fun d => wokM I n nl g rank (nI d)) f (t + 1 - f)) what))) nx sh I P) := by
  have hV := hJ.1
  have hg2 := hJ.2.2.1.2
  have s35 : sh 35 = some (.inl 12) := hV.1 35 _ rfl
  simp only [wnC, Bool.and_eq_true, decide_eq_true_eq] at hx
  obtain ⟨⟨⟨⟨y1, y2⟩, y3⟩, y4⟩, y5⟩ := hx
  have hsp : (inB (nI f) 10000 && inB (nI t) 10000 && decide (nI f ≤ nI t)) = true := by simp [y3]
  have h5 := inB_iff.mp y5
  have hwh : what = 0 ∨ what = 1 ∨ what = 2 := by
    rw [i_eq, i_eq, i_eq]
    have e0 : (0 : Int32).toInt = 0 := rfl
    have e1 : (1 : Int32).toInt = 1 := rfl
    have e2 : (2 : Int32).toInt = 2 := rfl
    omega
  refine Ev.of (by decide) (by simp [Value.category]) (by simp) (fun G hM => ?_)
  have hM : mM X B "worn" (some FieldType.int) 3 79 0 0 _ G := hM
  show V X B RX12 cX12_worn G 0 0 nx sh I P 0 [some (.ref (B + 35)), some (.int (nI g)), some (.int rank), some (.int (nI f)), some (.int (nI t)), some (.int what), none, none, none, none, none, none] []
  refine V_aln dX12_worn_0 rfl ?_
  refine V_iln dX12_worn_1 rfl ?_
  refine V_cV1d hM cvX12_298 (by assumption) rfl (e_X12_isGown hV hJ.2.2.1.1 (by omega)) ⟨Nat.le_of_ble_eq_true rfl, Nat.le_of_ble_eq_true rfl, Nat.le_of_ble_eq_true rfl, Nat.le_of_ble_eq_true rfl⟩ (Nat.le_of_ble_eq_true rfl) dX12_worn_2 ?_
  rw [y1]
  refine V_ifeq_b (tgt := 52) dX12_worn_5 rfl (fun c5 => ?_) (fun c5 => ?_)
  · exact absurd c5 (by decide) --done
  · refine V_iln dX12_worn_8 rfl ?_
    refine V_i2l dX12_worn_9 ?_
    refine V_lconst (v := 0) rfl dX12_worn_10 ?_
    refine V_ldc2 kjX12_277 dX12_worn_11 ?_
    refine V_cS3d hM cvX12_5 (e_X12_in) ⟨Nat.le_of_ble_eq_true rfl, Nat.le_of_ble_eq_true rfl, Nat.le_of_ble_eq_true rfl, Nat.le_of_ble_eq_true rfl⟩ (Nat.le_of_ble_eq_true rfl) dX12_worn_14 ?_
    rw [inJ (n := 10) rfl, y2]
    refine V_ifeq_b (tgt := 52) dX12_worn_17 rfl (fun c17 => ?_) (fun c17 => ?_)
    · exact absurd c17 (by decide) --done
    · refine V_iln dX12_worn_20 rfl ?_
      refine V_il dX12_worn_21 rfl ?_
      refine V_cS2d hM cvX12_279 (e_X12_areDays) ⟨Nat.le_of_ble_eq_true rfl, Nat.le_of_ble_eq_true rfl, Nat.le_of_ble_eq_true rfl, Nat.le_of_ble_eq_true rfl⟩ (Nat.le_of_ble_eq_true rfl) dX12_worn_23 ?_
      rw [hsp]
      refine V_ifeq_b (tgt := 52) dX12_worn_26 rfl (fun c26 => ?_) (fun c26 => ?_)
      · exact absurd c26 (by decide) --done
      · refine V_il dX12_worn_29 rfl ?_
        refine V_iln dX12_worn_31 rfl ?_
        refine V_isub dX12_worn_32 ?_
        refine V_sipush (v := 500) rfl dX12_worn_33 ?_
        refine V_icmp_ge (tgt := 52) dX12_worn_36 rfl (fun c36 => ?_) (fun c36 => ?_)
        · exact absurd y4 (i_le_nlt c36) --done
        · refine V_il dX12_worn_39 rfl ?_
          refine V_i2l dX12_worn_41 ?_
          refine V_lconst (v := 0) rfl dX12_worn_42 ?_
          refine V_ldc2 kjX12_351 dX12_worn_43 ?_
          refine V_cS3d hM cvX12_5 (e_X12_in) ⟨Nat.le_of_ble_eq_true rfl, Nat.le_of_ble_eq_true rfl, Nat.le_of_ble_eq_true rfl, Nat.le_of_ble_eq_true rfl⟩ (Nat.le_of_ble_eq_true rfl) dX12_worn_46 ?_
          rw [inJ (n := 3) rfl, y5]
          refine V_ifne_b (tgt := 55) dX12_worn_49 rfl (fun c49 => ?_) (fun c49 => ?_)
          · refine V_iconst (v := 0) rfl dX12_worn_55 ?_
            refine V_is6 dX12_worn_56 ?_
            refine V_iconst (v := -1) rfl dX12_worn_58 ?_
            refine V_is7 dX12_worn_59 ?_
            refine V_iconst (v := -1) rfl dX12_worn_61 ?_
            refine V_is8 dX12_worn_62 ?_
            refine V_iln dX12_worn_64 rfl ?_
            refine V_is9 dX12_worn_65 ?_
            exact l_X12_worn hJ hg hft ht hM hwh (t + 1 - f + 1) 0 _ _ (by omega) (by omega)
          · exact absurd c49 (by decide) --done
theorem x_wornN {g rank a b what : Int32} (hJ : MJ sh I P n ng nl nf) (hx : wnC ng g rank a b what = false) : Ev X B mdX12_worn 0 0 [.ref (B + 35), .int g, .int rank, .int a, .int b, .int what] nx sh I P (mDet (some (.int (-2))) nx sh I P) := by
  have hV := hJ.1
  have hg2 := hJ.2.2.1.2
  have s35 : sh 35 = some (.inl 12) := hV.1 35 _ rfl
  refine Ev.of (by decide) (by simp [Value.category]) (by simp) (fun G hM => ?_)
  have hM : mM X B "worn" (some FieldType.int) 3 79 0 0 _ G := hM
  show V X B RX12 cX12_worn G 0 0 nx sh I P 0 [some (.ref (B + 35)), some (.int g), some (.int rank), some (.int a), some (.int b), some (.int what), none, none, none, none, none, none] []
  refine V_aln dX12_worn_0 rfl ?_
  refine V_iln dX12_worn_1 rfl ?_
  refine V_cV1d hM cvX12_298 (by assumption) rfl (e_X12_isGown hV hJ.2.2.1.1 (by omega)) ⟨Nat.le_of_ble_eq_true rfl, Nat.le_of_ble_eq_true rfl, Nat.le_of_ble_eq_true rfl, Nat.le_of_ble_eq_true rfl⟩ (Nat.le_of_ble_eq_true rfl) dX12_worn_2 ?_
  refine V_ifeq_b (tgt := 52) dX12_worn_5 rfl (fun c5 => ?_) (fun c5 => ?_)
  · refine V_bipush (v := -2) rfl dX12_worn_52 ?_
    exact V_iret hM dX12_worn_54 (mDet.rf)
  · refine V_iln dX12_worn_8 rfl ?_
    refine V_i2l dX12_worn_9 ?_
    refine V_lconst (v := 0) rfl dX12_worn_10 ?_
    refine V_ldc2 kjX12_277 dX12_worn_11 ?_
    refine V_cS3d hM cvX12_5 (e_X12_in) ⟨Nat.le_of_ble_eq_true rfl, Nat.le_of_ble_eq_true rfl, Nat.le_of_ble_eq_true rfl, Nat.le_of_ble_eq_true rfl⟩ (Nat.le_of_ble_eq_true rfl) dX12_worn_14 ?_
    rw [inJ (n := 10) rfl]
    refine V_ifeq_b (tgt := 52) dX12_worn_17 rfl (fun c17 => ?_) (fun c17 => ?_)
    · refine V_bipush (v := -2) rfl dX12_worn_52 ?_
      exact V_iret hM dX12_worn_54 (mDet.rf)
    · refine V_iln dX12_worn_20 rfl ?_
      refine V_il dX12_worn_21 rfl ?_
      refine V_cS2d hM cvX12_279 (e_X12_areDays) ⟨Nat.le_of_ble_eq_true rfl, Nat.le_of_ble_eq_true rfl, Nat.le_of_ble_eq_true rfl, Nat.le_of_ble_eq_true rfl⟩ (Nat.le_of_ble_eq_true rfl) dX12_worn_23 ?_
      refine V_ifeq_b (tgt := 52) dX12_worn_26 rfl (fun c26 => ?_) (fun c26 => ?_)
      · refine V_bipush (v := -2) rfl dX12_worn_52 ?_
        exact V_iret hM dX12_worn_54 (mDet.rf)
      · refine V_il dX12_worn_29 rfl ?_
        refine V_iln dX12_worn_31 rfl ?_
        refine V_isub dX12_worn_32 ?_
        refine V_sipush (v := 500) rfl dX12_worn_33 ?_
        refine V_icmp_ge (tgt := 52) dX12_worn_36 rfl (fun c36 => ?_) (fun c36 => ?_)
        · refine V_bipush (v := -2) rfl dX12_worn_52 ?_
          exact V_iret hM dX12_worn_54 (mDet.rf)
        · refine V_il dX12_worn_39 rfl ?_
          refine V_i2l dX12_worn_41 ?_
          refine V_lconst (v := 0) rfl dX12_worn_42 ?_
          refine V_ldc2 kjX12_351 dX12_worn_43 ?_
          refine V_cS3d hM cvX12_5 (e_X12_in) ⟨Nat.le_of_ble_eq_true rfl, Nat.le_of_ble_eq_true rfl, Nat.le_of_ble_eq_true rfl, Nat.le_of_ble_eq_true rfl⟩ (Nat.le_of_ble_eq_true rfl) dX12_worn_46 ?_
          rw [inJ (n := 3) rfl]
          refine V_ifne_b (tgt := 55) dX12_worn_49 rfl (fun c49 => ?_) (fun c49 => ?_)
          · exfalso
            have c36 := i_nle c36
            rw [wnC, c5, c17, c26, c49, decide_eq_true c36] at hx; cases hx --done
          · refine V_bipush (v := -2) rfl dX12_worn_52 ?_
            exact V_iret hM dX12_worn_54 (mDet.rf)
end MWn
