/-! ===== judging and altering: helpers ===== -/
def sameF (I : mI) (a b : Nat) : Bool := decide (I a 1 = I b 1) && decide (I a 2 = I b 2) && decide (I a 3 = I b 3)
def wasF (I : mI) (P : mP) (n o : Nat) : Bool := anyR (fun k => decide (I (pg P 25 k) 4 = 1) && sameF I (pg P 25 k) o) n
def pncAll (I : mI) (P : mP) (n w g q : Nat) : Int32 := sumF (fun a => if bitB (rchF I P 7 n w g) a then pncF I P 7 w g q a else 0) n
def partF (I : mI) (P : mP) (n : Nat) (d : Int32) : Int32 := ptF (bitB (forceF I P 7 n d)) (fun a => I (pg P 7 a) 4) n
def shareF (pence part : Int32) : Int32 := (pence.toInt64 * part.toInt64 / 100).toInt32
def convM (I : mI) (o ac by' : Nat) (pence share : Int32) : mI := mUp (mUp (mUp (mUp (mUp (mUp (mUp I o 4 1) o 5 pence) o 6 share) 26 ac (I 26 ac + 1)) 27 ac (I 27 ac + pence)) 28 by' (I 28 by' + share)) 0 13 (I 0 13 + (pence - share))
def falsM (I : mI) (o by' : Nat) : mI := mUp (mUp (mUp I o 4 2) 27 by' (I 27 by' + 50)) 0 13 (I 0 13 + 50)
def lvS (I : mI) (x : Int32) : Bool := decide (mUshr (I 33 1) x &&& 1 = 0)
def lvC (I : mI) (x : Int32) : Bool := decide (mUshr (I 33 2) x &&& 1 = 0)
def stF (I : mI) (nl : Nat) : Int32 := if lvS I (I 30 4) then 0 else if anyR (fun s => lvS I (cCnt I nl (I 30 3) (nI s))) 16 then I 29 5 else -1
def coF (I : mI) (g : Nat) : Int32 := if lvC I (I g 2) then 0 else if anyR (fun c => lvC I (nI c)) 8 then I 29 6 else -1
def accF (a0 : Int32) (f : Nat → Int32) : Nat → Int32
  | 0 => a0
  | m + 1 => accF a0 f m + f m
def chgF (I : mI) (q m : Nat) : Int32 := sdF (I q m - I 34 m) * I 29 m
/-- what the cheapest change costs, by the bounds that stand -/
def cheF (I : mI) (nl g q : Nat) : Int32 := if stF I nl = -1 ∨ coF I g = -1 then -1 else accF (stF I nl + coF I g) (chgF I q) 5
section C2
variable {X : mX} {B nx : Nat} {sh : Nat → Option mSh} {I : mI} {P : mP}
theorem e_X4_isOfSameCase {a b : Nat} (h1 : sh a = some (.inl 4)) (h2 : sh b = some (.inl 4)) : Ev X B mdX4_isOfSameCase 0 0 [.ref (B + a), .ref (B + b)] nx sh I P (mDet (some (.int (bI (sameF I a b)))) nx sh I P) := by
  refine Ev.of (by decide) (by simp [Value.category]) (by simp) (fun G hM => ?_)
  have hM : mM X B "isOfSameCase" (some FieldType.boolean) 0 0 0 0 _ G := hM
  show V X B RX4 cX4_isOfSameCase G 0 0 nx sh I P 0 [some (.ref (B + a)), some (.ref (B + b))] []
  refine V_aln dX4_isOfSameCase_0 rfl ?_
  refine V_getI dX4_isOfSameCase_1 flX4_24 (by assumption) rfl ?_
  refine V_aln dX4_isOfSameCase_4 rfl ?_
  refine V_getI dX4_isOfSameCase_5 flX4_24 (by assumption) rfl ?_
  refine V_icmp_ne (tgt := 37) dX4_isOfSameCase_8 rfl (fun c8 => ?_) (fun c8 => ?_)
  · refine V_iconst (v := 0) rfl dX4_isOfSameCase_37 ?_
    exact V_zret hM (by first | exact Or.inl rfl | exact Or.inr rfl | exact bI_01 _) dX4_isOfSameCase_38 (⟨by simp [sameF, bI, c8], rfl, rfl, rfl, rfl⟩)
  · refine V_aln dX4_isOfSameCase_11 rfl ?_
    refine V_getI dX4_isOfSameCase_12 flX4_27 (by assumption) rfl ?_
    refine V_aln dX4_isOfSameCase_15 rfl ?_
    refine V_getI dX4_isOfSameCase_16 flX4_27 (by assumption) rfl ?_
    refine V_icmp_ne (tgt := 37) dX4_isOfSameCase_19 rfl (fun c19 => ?_) (fun c19 => ?_)
    · refine V_iconst (v := 0) rfl dX4_isOfSameCase_37 ?_
      exact V_zret hM (by first | exact Or.inl rfl | exact Or.inr rfl | exact bI_01 _) dX4_isOfSameCase_38 (⟨by simp [sameF, bI, c8, c19], rfl, rfl, rfl, rfl⟩)
    · refine V_aln dX4_isOfSameCase_22 rfl ?_
      refine V_getI dX4_isOfSameCase_23 flX4_30 (by assumption) rfl ?_
      refine V_aln dX4_isOfSameCase_26 rfl ?_
      refine V_getI dX4_isOfSameCase_27 flX4_30 (by assumption) rfl ?_
      refine V_icmp_ne (tgt := 37) dX4_isOfSameCase_30 rfl (fun c30 => ?_) (fun c30 => ?_)
      · refine V_iconst (v := 0) rfl dX4_isOfSameCase_37 ?_
        exact V_zret hM (by first | exact Or.inl rfl | exact Or.inr rfl | exact bI_01 _) dX4_isOfSameCase_38 (⟨by simp [sameF, bI, c8, c19, c30], rfl, rfl, rfl, rfl⟩)
      · refine V_iconst (v := 1) rfl dX4_isOfSameCase_33 ?_
        refine V_goto (tgt := 38) dX4_isOfSameCase_34 rfl ?_
        exact V_zret hM (by first | exact Or.inl rfl | exact Or.inr rfl | exact bI_01 _) dX4_isOfSameCase_38 (⟨by simp [sameF, bI, c8, c19, c30], rfl, rfl, rfl, rfl⟩)
theorem e_X10_fineOfWearing {n g q p : Nat} (hW : CW sh P) (hC : CodexAt sh I P 6 7 n) (hV : WearAt sh P 30 g q) (hp : p < 30) : Ev X B mdX10_fineOfWearing 0 0 [.ref (B + 0), .int (nI p)] nx sh I P (mDet (some (.int (pncAll I P n 30 g q * minF (1 + I 26 p) 5))) nx sh I P) := by
  have s0 : sh 0 = some (.inl 10) := hW.1 0 _ rfl
  have p0_10 : P 0 10 = some 26 := hW.2 0 10 26 rfl
  have s26 : sh 26 = some (.inr (0, 30)) := hW.1 26 _ rfl
  have p0_1 : P 0 1 = some 6 := hW.2 0 1 6 rfl
  have p0_15 : P 0 15 = some 30 := hW.2 0 15 30 rfl
  have s6 : sh 6 = some (.inl 2) := hW.1 6 _ rfl
  refine Ev.of (by decide) (by simp [Value.category]) (by simp) (fun G hM => ?_)
  have hM : mM X B "fineOfWearing" (some FieldType.int) 5 112 0 0 _ G := hM
  show V X B RX10 cX10_fineOfWearing G 0 0 nx sh I P 0 [some (.ref (B + 0)), some (.int (nI p)), none] []
  refine V_iln dX10_fineOfWearing_0 rfl ?_
  refine V_cS1d hM cvX10_106 (e_X10_isPerson) ⟨Nat.le_of_ble_eq_true rfl, Nat.le_of_ble_eq_true rfl, Nat.le_of_ble_eq_true rfl, Nat.le_of_ble_eq_true rfl⟩ (Nat.le_of_ble_eq_true rfl) dX10_fineOfWearing_1 ?_
  refine V_ifne_b (tgt := 9) dX10_fineOfWearing_4 rfl (fun c4 => ?_) (fun c4 => ?_)
  · refine V_iconst (v := 1) rfl dX10_fineOfWearing_9 ?_
    refine V_aln dX10_fineOfWearing_10 rfl ?_
    refine V_getR dX10_fineOfWearing_11 flX10_60 (by assumption) rfl (by assumption) ?_
    refine V_iln dX10_fineOfWearing_14 rfl ?_
    refine V_ialdN dX10_fineOfWearing_15 (by assumption) (by omega) (by omega) ?_
    refine V_iadd dX10_fineOfWearing_16 ?_
    refine V_iconst (v := 5) rfl dX10_fineOfWearing_17 ?_
    refine V_min hM lkX10_302 wM1_min wM3 wM2_min (Nat.le_of_ble_eq_true rfl) (Nat.le_of_ble_eq_true rfl) (Nat.le_of_ble_eq_true rfl) (Nat.le_of_ble_eq_true rfl) dX10_fineOfWearing_18 ?_
    refine V_is2 dX10_fineOfWearing_21 ?_
    refine V_aln dX10_fineOfWearing_22 rfl ?_
    refine V_getR dX10_fineOfWearing_23 flX10_19 (by assumption) rfl (by assumption) ?_
    refine V_aln dX10_fineOfWearing_26 rfl ?_
    refine V_getR dX10_fineOfWearing_27 flX10_79 (by assumption) rfl (by assumption) ?_
    refine V_cV1d hM cvX10_307 (by assumption) rfl (e_X2_penceOfBroken hC hV) ⟨Nat.le_of_ble_eq_true rfl, Nat.le_of_ble_eq_true rfl, Nat.le_of_ble_eq_true rfl, Nat.le_of_ble_eq_true rfl⟩ (Nat.le_of_ble_eq_true rfl) dX10_fineOfWearing_30 ?_
    refine V_iln dX10_fineOfWearing_33 rfl ?_
    refine V_imul dX10_fineOfWearing_34 ?_
    exact V_iret hM dX10_fineOfWearing_35 (mDet.rf)
  · rw [inB_of hp (by omega)] at c4; cases c4 --done
theorem l_X10_wasConvicted {G : mG} {n o : Nat} (hW : CW sh P) (hL : LettsAt sh I P n) (ho : sh o = some (.inl 4)) (hM : mM X B "wasConvicted" (some .boolean) 1 21 0 0 (mDet (some (.int (bI (wasF I P n o)))) nx sh I P) G) : ∀ (z i : Nat) (o3 : Option Value), i ≤ n → n - i < z → (∀ j, j < i → (fun k => decide (I (pg P 25 k) 4 = 1) && sameF I (pg P 25 k) o) j = false) → V X B RX10 cX10_wasConvicted G 0 0 nx sh I P 2 [some (.ref (B + 0)), some (.ref (B + o)), some (.int (nI i)), o3] [] := by
  have s0 : sh 0 = some (.inl 10) := hW.1 0 _ rfl
  obtain ⟨h4, h5, h6⟩ := id hL
  intro z
  induction z with
  | zero => intro i _ _ h; omega
  | succ z ih =>
    intro i o3 hi hz hin
    refine V_iln dX10_wasConvicted_2 rfl ?_
    refine V_aln dX10_wasConvicted_3 rfl ?_
    refine V_getIv dX10_wasConvicted_4 flX10_57 (by assumption) rfl (h4) ?_
    refine V_icmp_ge (tgt := 44) dX10_wasConvicted_7 rfl (fun c7 => ?_) (fun c7 => ?_)
    · have c7 := nN_le c7 (by omega) (by omega)
      obtain rfl : i = n := by omega
      refine V_iconst (v := 0) rfl dX10_wasConvicted_44 ?_
      exact V_zret hM (by first | exact Or.inl rfl | exact Or.inr rfl | exact bI_01 _) dX10_wasConvicted_45 (⟨by rw [wasF, anyR_f hin]; rfl, rfl, rfl, rfl, rfl⟩)
    · have c7 := nN_nle c7 (by omega) (by omega)
      have hr := (h6 i c7).2
      refine V_aln dX10_wasConvicted_10 rfl ?_
      refine V_iln dX10_wasConvicted_11 rfl ?_
      refine V_cV1d hM cvX10_249 (by assumption) rfl (e_X10_findLetter hW hL c7) ⟨Nat.le_of_ble_eq_true rfl, Nat.le_of_ble_eq_true rfl, Nat.le_of_ble_eq_true rfl, Nat.le_of_ble_eq_true rfl⟩ (Nat.le_of_ble_eq_true rfl) dX10_wasConvicted_12 ?_
      refine V_as3 dX10_wasConvicted_15 ?_
      refine V_aln dX10_wasConvicted_16 rfl ?_
      refine V_ifnull dX10_wasConvicted_17 ?_
      refine V_aln dX10_wasConvicted_20 rfl ?_
      refine V_getI dX10_wasConvicted_21 flX10_253 (by assumption) rfl ?_
      refine V_iconst (v := 1) rfl dX10_wasConvicted_24 ?_
      refine V_icmp_ne (tgt := 38) dX10_wasConvicted_25 rfl (fun c25 => ?_) (fun c25 => ?_)
      · refine V_inc2 dX10_wasConvicted_38 ?_
        refine V_goto (tgt := 2) dX10_wasConvicted_41 rfl ?_
        rw [nI_inc]
        exact ih (i + 1) _ (by omega) (by omega) (lt_s' hin (by simp [c7, c25]))
      · refine V_aln dX10_wasConvicted_28 rfl ?_
        refine V_aln dX10_wasConvicted_29 rfl ?_
        refine V_cV1d hM cvX10_311 (by assumption) rfl (e_X4_isOfSameCase hr ho) ⟨Nat.le_of_ble_eq_true rfl, Nat.le_of_ble_eq_true rfl, Nat.le_of_ble_eq_true rfl, Nat.le_of_ble_eq_true rfl⟩ (Nat.le_of_ble_eq_true rfl) dX10_wasConvicted_30 ?_
        refine V_ifeq_b (tgt := 38) dX10_wasConvicted_33 rfl (fun c33 => ?_) (fun c33 => ?_)
        · refine V_inc2 dX10_wasConvicted_38 ?_
          refine V_goto (tgt := 2) dX10_wasConvicted_41 rfl ?_
          rw [nI_inc]
          exact ih (i + 1) _ (by omega) (by omega) (lt_s' hin (by simp [c7, c25, c33]))
        · refine V_iconst (v := 1) rfl dX10_wasConvicted_36 ?_
          exact V_zret hM (by first | exact Or.inl rfl | exact Or.inr rfl | exact bI_01 _) dX10_wasConvicted_37 (⟨by rw [wasF, anyR_t (i := i) c7 (by simp [c7, c25, c33])]; rfl, rfl, rfl, rfl, rfl⟩)
theorem e_X10_wasConvicted {n o : Nat} (hW : CW sh P) (hL : LettsAt sh I P n) (ho : sh o = some (.inl 4)) : Ev X B mdX10_wasConvicted 0 0 [.ref (B + 0), .ref (B + o)] nx sh I P (mDet (some (.int (bI (wasF I P n o)))) nx sh I P) := by
  refine Ev.of (by decide) (by simp [Value.category]) (by simp) (fun G hM => ?_)
  have hM : mM X B "wasConvicted" (some FieldType.boolean) 1 21 0 0 _ G := hM
  show V X B RX10 cX10_wasConvicted G 0 0 nx sh I P 0 [some (.ref (B + 0)), some (.ref (B + o)), none, none] []
  refine V_iconst (v := 0) rfl dX10_wasConvicted_0 ?_
  refine V_is2 dX10_wasConvicted_1 ?_
  exact l_X10_wasConvicted hW hL ho hM (n + 1) 0 none (by omega) (by omega) (fun j h => by omega)
theorem e_X10_convict {n o ac by' : Nat} {pence : Int32} (hW : CW sh P) (hC : CodexAt sh I P 6 7 n) (ho : sh o = some (.inl 4)) (h1 : I o 1 = nI ac) (h0 : I o 0 = nI by') (ha : ac < 30) (hb : by' < 30) : Ev X B mdX10_convict 0 0 [.ref (B + 0), .ref (B + o), .int pence] nx sh I P (mDet none nx sh (convM I o ac by' pence (shareF pence (partF I P n (I o 3)))) P) := by
  have s0 : sh 0 = some (.inl 10) := hW.1 0 _ rfl
  have p0_1 : P 0 1 = some 6 := hW.2 0 1 6 rfl
  have s6 : sh 6 = some (.inl 2) := hW.1 6 _ rfl
  have p0_10 : P 0 10 = some 26 := hW.2 0 10 26 rfl
  have s26 : sh 26 = some (.inr (0, 30)) := hW.1 26 _ rfl
  have p0_11 : P 0 11 = some 27 := hW.2 0 11 27 rfl
  have s27 : sh 27 = some (.inr (0, 30)) := hW.1 27 _ rfl
  have p0_12 : P 0 12 = some 28 := hW.2 0 12 28 rfl
  have s28 : sh 28 = some (.inr (0, 30)) := hW.1 28 _ rfl
  have n26 : o ≠ 26 := sh_ne ho s26 shn_oi
  have n27 : o ≠ 27 := sh_ne ho s27 shn_oi
  have n28 : o ≠ 28 := sh_ne ho s28 shn_oi
  have n0 : o ≠ 0 := sh_ne ho s0 (by decide)
  refine Ev.of (by decide) (by simp [Value.category]) (by simp) (fun G hM => ?_)
  have hM : mM X B "convict" none 3 70 0 0 _ G := hM
  show V X B RX10 cX10_convict G 0 0 nx sh I P 0 [some (.ref (B + 0)), some (.ref (B + o)), some (.int pence), none] []
  refine V_aln dX10_convict_0 rfl ?_
  refine V_getIv dX10_convict_1 flX10_260 (by assumption) rfl (h1) ?_
  refine V_cS1d hM cvX10_106 (e_X10_isPerson) ⟨Nat.le_of_ble_eq_true rfl, Nat.le_of_ble_eq_true rfl, Nat.le_of_ble_eq_true rfl, Nat.le_of_ble_eq_true rfl⟩ (Nat.le_of_ble_eq_true rfl) dX10_convict_4 ?_
  refine V_ifeq_b (tgt := 20) dX10_convict_7 rfl (fun c7 => ?_) (fun c7 => ?_)
  · rw [inB_of ha (by omega)] at c7; cases c7 --done
  · refine V_aln dX10_convict_10 rfl ?_
    refine V_getIv dX10_convict_11 flX10_277 (by assumption) rfl (h0) ?_
    refine V_cS1d hM cvX10_106 (e_X10_isPerson) ⟨Nat.le_of_ble_eq_true rfl, Nat.le_of_ble_eq_true rfl, Nat.le_of_ble_eq_true rfl, Nat.le_of_ble_eq_true rfl⟩ (Nat.le_of_ble_eq_true rfl) dX10_convict_14 ?_
    refine V_ifne_b (tgt := 21) dX10_convict_17 rfl (fun c17 => ?_) (fun c17 => ?_)
    · refine V_iln dX10_convict_21 rfl ?_
      refine V_i2l dX10_convict_22 ?_
      refine V_aln dX10_convict_23 rfl ?_
      refine V_getR dX10_convict_24 flX10_19 (by assumption) rfl (by assumption) ?_
      refine V_aln dX10_convict_27 rfl ?_
      refine V_getI dX10_convict_28 flX10_266 (by assumption) rfl ?_
      refine V_cV1d hM cvX10_314 (by assumption) rfl (e_X2_partOn hC) ⟨Nat.le_of_ble_eq_true rfl, Nat.le_of_ble_eq_true rfl, Nat.le_of_ble_eq_true rfl, Nat.le_of_ble_eq_true rfl⟩ (Nat.le_of_ble_eq_true rfl) dX10_convict_31 ?_
      refine V_i2l dX10_convict_34 ?_
      refine V_lmul dX10_convict_35 ?_
      refine V_ldc2 kjX10_317 dX10_convict_36 ?_
      refine V_ldiv (by decide) dX10_convict_39 ?_
      refine V_l2i dX10_convict_40 ?_
      refine V_is3 dX10_convict_41 ?_
      refine V_aln dX10_convict_42 rfl ?_
      refine V_iconst (v := 1) rfl dX10_convict_43 ?_
      refine V_putI dX10_convict_44 flX10_253 (by assumption) rfl rfl ?_
      refine V_aln dX10_convict_47 rfl ?_
      refine V_iln dX10_convict_48 rfl ?_
      refine V_putI dX10_convict_49 flX10_280 (by assumption) rfl rfl ?_
      refine V_aln dX10_convict_52 rfl ?_
      refine V_iln dX10_convict_53 rfl ?_
      refine V_putI dX10_convict_54 flX10_281 (by assumption) rfl rfl ?_
      refine V_aln dX10_convict_57 rfl ?_
      refine V_getR dX10_convict_58 flX10_60 (by assumption) rfl (by assumption) ?_
      refine V_aln dX10_convict_61 rfl ?_
      refine V_getIv (v := nI ac) dX10_convict_62 flX10_260 (by assumption) rfl (by simp [mUp, h1]) ?_
      refine V_dup2 rfl rfl dX10_convict_65 ?_
      refine V_ialdNv (v := I 26 ac) dX10_convict_66 (by assumption) (by omega) (by omega) (by simp [mUp, n26.symm]) ?_
      refine V_iconst (v := 1) rfl dX10_convict_67 ?_
      refine V_iadd dX10_convict_68 ?_
      refine V_iastN dX10_convict_69 (by assumption) (by omega) (by omega) ?_
      refine V_aln dX10_convict_70 rfl ?_
      refine V_getR dX10_convict_71 flX10_64 (by assumption) rfl (by assumption) ?_
      refine V_aln dX10_convict_74 rfl ?_
      refine V_getIv (v := nI ac) dX10_convict_75 flX10_260 (by assumption) rfl (by simp [mUp, h1, n26]) ?_
      refine V_dup2 rfl rfl dX10_convict_78 ?_
      refine V_ialdNv (v := I 27 ac) dX10_convict_79 (by assumption) (by omega) (by omega) (by simp [mUp, n27.symm]) ?_
      refine V_iln dX10_convict_80 rfl ?_
      refine V_iadd dX10_convict_81 ?_
      refine V_iastN dX10_convict_82 (by assumption) (by omega) (by omega) ?_
      refine V_aln dX10_convict_83 rfl ?_
      refine V_getR dX10_convict_84 flX10_67 (by assumption) rfl (by assumption) ?_
      refine V_aln dX10_convict_87 rfl ?_
      refine V_getIv (v := nI by') dX10_convict_88 flX10_277 (by assumption) rfl (by simp [mUp, h0, n26, n27]) ?_
      refine V_dup2 rfl rfl dX10_convict_91 ?_
      refine V_ialdNv (v := I 28 by') dX10_convict_92 (by assumption) (by omega) (by omega) (by simp [mUp, n28.symm]) ?_
      refine V_iln dX10_convict_93 rfl ?_
      refine V_iadd dX10_convict_94 ?_
      refine V_iastN dX10_convict_95 (by assumption) (by omega) (by omega) ?_
      refine V_aln dX10_convict_96 rfl ?_
      refine V_dup rfl dX10_convict_97 ?_
      refine V_getIv (v := I 0 13) dX10_convict_98 flX10_70 (by assumption) rfl (by simp [mUp, n0.symm]) ?_
      refine V_iln dX10_convict_101 rfl ?_
      refine V_iln dX10_convict_102 rfl ?_
      refine V_isub dX10_convict_103 ?_
      refine V_iadd dX10_convict_104 ?_
      refine V_putI dX10_convict_105 flX10_70 (by assumption) rfl rfl ?_
      exact V_vret hM dX10_convict_108 (mDet.rf)
    · rw [inB_of hb (by omega)] at c17; cases c17 --done
theorem e_X10_punishFalse {o by' : Nat} (hW : CW sh P) (ho : sh o = some (.inl 4)) (h0 : I o 0 = nI by') (hb : by' < 30) : Ev X B mdX10_punishFalse 0 0 [.ref (B + 0), .ref (B + o)] nx sh I P (mDet none nx sh (falsM I o by') P) := by
  have s0 : sh 0 = some (.inl 10) := hW.1 0 _ rfl
  have p0_11 : P 0 11 = some 27 := hW.2 0 11 27 rfl
  have s27 : sh 27 = some (.inr (0, 30)) := hW.1 27 _ rfl
  have n27 : o ≠ 27 := sh_ne ho s27 shn_oi
  have n0 : o ≠ 0 := sh_ne ho s0 (by decide)
  refine Ev.of (by decide) (by simp [Value.category]) (by simp) (fun G hM => ?_)
  have hM : mM X B "punishFalse" none 1 20 0 0 _ G := hM
  show V X B RX10 cX10_punishFalse G 0 0 nx sh I P 0 [some (.ref (B + 0)), some (.ref (B + o))] []
  refine V_aln dX10_punishFalse_0 rfl ?_
  refine V_getIv dX10_punishFalse_1 flX10_277 (by assumption) rfl (h0) ?_
  refine V_cS1d hM cvX10_106 (e_X10_isPerson) ⟨Nat.le_of_ble_eq_true rfl, Nat.le_of_ble_eq_true rfl, Nat.le_of_ble_eq_true rfl, Nat.le_of_ble_eq_true rfl⟩ (Nat.le_of_ble_eq_true rfl) dX10_punishFalse_4 ?_
  refine V_ifne_b (tgt := 11) dX10_punishFalse_7 rfl (fun c7 => ?_) (fun c7 => ?_)
  · refine V_aln dX10_punishFalse_11 rfl ?_
    refine V_iconst (v := 2) rfl dX10_punishFalse_12 ?_
    refine V_putI dX10_punishFalse_13 flX10_253 (by assumption) rfl rfl ?_
    refine V_aln dX10_punishFalse_16 rfl ?_
    refine V_getR dX10_punishFalse_17 flX10_64 (by assumption) rfl (by assumption) ?_
    refine V_aln dX10_punishFalse_20 rfl ?_
    refine V_getIv (v := nI by') dX10_punishFalse_21 flX10_277 (by assumption) rfl (by simp [mUp, h0]) ?_
    refine V_dup2 rfl rfl dX10_punishFalse_24 ?_
    refine V_ialdNv (v := I 27 by') dX10_punishFalse_25 (by assumption) (by omega) (by omega) (by simp [mUp, n27.symm]) ?_
    refine V_bipush (v := 50) rfl dX10_punishFalse_26 ?_
    refine V_iadd dX10_punishFalse_28 ?_
    refine V_iastN dX10_punishFalse_29 (by assumption) (by omega) (by omega) ?_
    refine V_aln dX10_punishFalse_30 rfl ?_
    refine V_dup rfl dX10_punishFalse_31 ?_
    refine V_getIv (v := I 0 13) dX10_punishFalse_32 flX10_70 (by assumption) rfl (by simp [mUp, n0.symm]) ?_
    refine V_bipush (v := 50) rfl dX10_punishFalse_35 ?_
    refine V_iadd dX10_punishFalse_37 ?_
    refine V_putI dX10_punishFalse_38 flX10_70 (by assumption) rfl rfl ?_
    exact V_vret hM dX10_punishFalse_41 (mDet.rf)
  · rw [inB_of hb (by omega)] at c7; cases c7 --done
theorem l_X10_stuffChange {G : mG} {nl : Nat} (hW : CW sh P) (hl : NLi I nl) (h0 : lvS I (I 30 4) = false) (hM : mM X B "stuffChange" (some .int) 2 51 0 0 (mDet (some (.int (stF I nl))) nx sh I P) G) : ∀ (z i : Nat), i ≤ 16 → 16 - i < z → (∀ j, j < i → (fun s => lvS I (cCnt I nl (I 30 3) (nI s))) j = false) → V X B RX10 cX10_stuffChange G 0 0 nx sh I P 21 [some (.ref (B + 0)), some (.int (nI i))] [] := by
  have s0 : sh 0 = some (.inl 10) := hW.1 0 _ rfl
  have p0_16 : P 0 16 = some 33 := hW.2 0 16 33 rfl
  have s33 : sh 33 = some (.inl 1) := hW.1 33 _ rfl
  have p0_15 : P 0 15 = some 30 := hW.2 0 15 30 rfl
  have s30 : sh 30 = some (.inl 9) := hW.1 30 _ rfl
  have p0_14 : P 0 14 = some 29 := hW.2 0 14 29 rfl
  have s29 : sh 29 = some (.inr (0, 7)) := hW.1 29 _ rfl
  intro z
  induction z with
  | zero => intro i _ h; omega
  | succ z ih =>
    intro i hi hz hin
    refine V_iln dX10_stuffChange_21 rfl ?_
    refine V_bipush (v := 16) rfl dX10_stuffChange_22 ?_
    refine V_icmp_ge (tgt := 62) dX10_stuffChange_24 rfl (fun c24 => ?_) (fun c24 => ?_)
    · have c24 := nN_le (a := 16) c24 (by omega) (by omega)
      obtain rfl : i = 16 := by omega
      refine V_iconst (v := -1) rfl dX10_stuffChange_62 ?_
      exact V_iret hM dX10_stuffChange_63 (⟨by simp only [stF, h0]; rw [anyR_f hin]; rfl, rfl, rfl, rfl, rfl⟩)
    · have c24 := nN_nle (a := 16) c24 (by omega) (by omega)
      refine V_aln dX10_stuffChange_27 rfl ?_
      refine V_getR dX10_stuffChange_28 flX10_86 (by assumption) rfl (by assumption) ?_
      refine V_aln dX10_stuffChange_31 rfl ?_
      refine V_iln dX10_stuffChange_32 rfl ?_
      refine V_aln dX10_stuffChange_33 rfl ?_
      refine V_getR dX10_stuffChange_34 flX10_79 (by assumption) rfl (by assumption) ?_
      refine V_getI dX10_stuffChange_37 flX10_344 (by assumption) rfl ?_
      refine V_cV2d hM cvX10_164 (by assumption) rfl (e_X10_countsAs hW hl) ⟨Nat.le_of_ble_eq_true rfl, Nat.le_of_ble_eq_true rfl, Nat.le_of_ble_eq_true rfl, Nat.le_of_ble_eq_true rfl⟩ (Nat.le_of_ble_eq_true rfl) dX10_stuffChange_40 ?_
      refine V_cV1d hM cvX10_341 (by assumption) rfl (e_X1_leavesStuff hW.bd) ⟨Nat.le_of_ble_eq_true rfl, Nat.le_of_ble_eq_true rfl, Nat.le_of_ble_eq_true rfl, Nat.le_of_ble_eq_true rfl⟩ (Nat.le_of_ble_eq_true rfl) dX10_stuffChange_43 ?_
      refine V_ifeq_b (tgt := 56) dX10_stuffChange_46 rfl (fun c46 => ?_) (fun c46 => ?_)
      · have c46 : lvS I (cCnt I nl (I 30 3) (nI i)) = false := c46
        refine V_inc1 dX10_stuffChange_56 ?_
        refine V_goto (tgt := 21) dX10_stuffChange_59 rfl ?_
        rw [nI_inc]
        exact ih (i + 1) (by omega) (by omega) (lt_s' hin c46)
      · have c46 : lvS I (cCnt I nl (I 30 3) (nI i)) = true := c46
        refine V_aln dX10_stuffChange_49 rfl ?_
        refine V_getR dX10_stuffChange_50 flX10_73 (by assumption) rfl (by assumption) ?_
        refine V_iconst (v := 5) rfl dX10_stuffChange_53 ?_
        refine V_ialdN (i := 5) dX10_stuffChange_54 (by assumption) (by omega) (by omega) ?_
        exact V_iret hM dX10_stuffChange_55 (⟨by simp only [stF, h0]; rw [anyR_t (i := i) c24 c46]; rfl, rfl, rfl, rfl, rfl⟩)
theorem e_X10_stuffChange {nl : Nat} (hW : CW sh P) (hl : NLi I nl) : Ev X B mdX10_stuffChange 0 0 [.ref (B + 0)] nx sh I P (mDet (some (.int (stF I nl))) nx sh I P) := by
  have s0 : sh 0 = some (.inl 10) := hW.1 0 _ rfl
  have p0_16 : P 0 16 = some 33 := hW.2 0 16 33 rfl
  have s33 : sh 33 = some (.inl 1) := hW.1 33 _ rfl
  have p0_15 : P 0 15 = some 30 := hW.2 0 15 30 rfl
  have s30 : sh 30 = some (.inl 9) := hW.1 30 _ rfl
  refine Ev.of (by decide) (by simp [Value.category]) (by simp) (fun G hM => ?_)
  have hM : mM X B "stuffChange" (some FieldType.int) 2 51 0 0 _ G := hM
  show V X B RX10 cX10_stuffChange G 0 0 nx sh I P 0 [some (.ref (B + 0)), none] []
  refine V_aln dX10_stuffChange_0 rfl ?_
  refine V_getR dX10_stuffChange_1 flX10_86 (by assumption) rfl (by assumption) ?_
  refine V_aln dX10_stuffChange_4 rfl ?_
  refine V_getR dX10_stuffChange_5 flX10_79 (by assumption) rfl (by assumption) ?_
  refine V_getI dX10_stuffChange_8 flX10_338 (by assumption) rfl ?_
  refine V_cV1d hM cvX10_341 (by assumption) rfl (e_X1_leavesStuff hW.bd) ⟨Nat.le_of_ble_eq_true rfl, Nat.le_of_ble_eq_true rfl, Nat.le_of_ble_eq_true rfl, Nat.le_of_ble_eq_true rfl⟩ (Nat.le_of_ble_eq_true rfl) dX10_stuffChange_11 ?_
  refine V_ifeq_b (tgt := 19) dX10_stuffChange_14 rfl (fun c14 => ?_) (fun c14 => ?_)
  · have c14 : lvS I (I 30 4) = false := c14
    refine V_iconst (v := 0) rfl dX10_stuffChange_19 ?_
    refine V_is1 dX10_stuffChange_20 ?_
    exact l_X10_stuffChange hW hl c14 hM 17 0 (by omega) (by omega) (fun j h => by omega)
  · have c14 : lvS I (I 30 4) = true := c14
    refine V_iconst (v := 0) rfl dX10_stuffChange_17 ?_
    exact V_iret hM dX10_stuffChange_18 (⟨by simp [stF, c14], rfl, rfl, rfl, rfl⟩)
theorem l_X10_colourChange {G : mG} {g : Nat} (hW : CW sh P) (h0 : lvC I (I g 2) = false) (hM : mM X B "colourChange" (some .int) 1 21 0 0 (mDet (some (.int (coF I g))) nx sh I P) G) : ∀ (z i : Nat), i ≤ 8 → 8 - i < z → (∀ j, j < i → (fun c => lvC I (nI c)) j = false) → V X B RX10 cX10_colourChange G 0 0 nx sh I P 24 [some (.ref (B + 0)), some (.int (nI i))] [] := by
  have s0 : sh 0 = some (.inl 10) := hW.1 0 _ rfl
  have p0_16 : P 0 16 = some 33 := hW.2 0 16 33 rfl
  have s33 : sh 33 = some (.inl 1) := hW.1 33 _ rfl
  have p0_14 : P 0 14 = some 29 := hW.2 0 14 29 rfl
  have s29 : sh 29 = some (.inr (0, 7)) := hW.1 29 _ rfl
  intro z
  induction z with
  | zero => intro i _ h; omega
  | succ z ih =>
    intro i hi hz hin
    refine V_iln dX10_colourChange_24 rfl ?_
    refine V_bipush (v := 8) rfl dX10_colourChange_25 ?_
    refine V_icmp_ge (tgt := 55) dX10_colourChange_27 rfl (fun c27 => ?_) (fun c27 => ?_)
    · have c27 := nN_le (a := 8) c27 (by omega) (by omega)
      obtain rfl : i = 8 := by omega
      refine V_iconst (v := -1) rfl dX10_colourChange_55 ?_
      exact V_iret hM dX10_colourChange_56 (⟨by simp only [coF, h0]; rw [anyR_f hin]; rfl, rfl, rfl, rfl, rfl⟩)
    · have c27 := nN_nle (a := 8) c27 (by omega) (by omega)
      refine V_aln dX10_colourChange_30 rfl ?_
      refine V_getR dX10_colourChange_31 flX10_86 (by assumption) rfl (by assumption) ?_
      refine V_iln dX10_colourChange_34 rfl ?_
      refine V_cV1d hM cvX10_345 (by assumption) rfl (e_X1_leavesColour hW.bd) ⟨Nat.le_of_ble_eq_true rfl, Nat.le_of_ble_eq_true rfl, Nat.le_of_ble_eq_true rfl, Nat.le_of_ble_eq_true rfl⟩ (Nat.le_of_ble_eq_true rfl) dX10_colourChange_35 ?_
      refine V_ifeq_b (tgt := 49) dX10_colourChange_38 rfl (fun c38 => ?_) (fun c38 => ?_)
      · have c38 : lvC I (nI i) = false := c38
        refine V_inc1 dX10_colourChange_49 ?_
        refine V_goto (tgt := 24) dX10_colourChange_52 rfl ?_
        rw [nI_inc]
        exact ih (i + 1) (by omega) (by omega) (lt_s' hin c38)
      · have c38 : lvC I (nI i) = true := c38
        refine V_aln dX10_colourChange_41 rfl ?_
        refine V_getR dX10_colourChange_42 flX10_73 (by assumption) rfl (by assumption) ?_
        refine V_bipush (v := 6) rfl dX10_colourChange_45 ?_
        refine V_ialdN (i := 6) dX10_colourChange_47 (by assumption) (by omega) (by omega) ?_
        exact V_iret hM dX10_colourChange_48 (⟨by simp only [coF, h0]; rw [anyR_t (i := i) c27 c38]; rfl, rfl, rfl, rfl, rfl⟩)
theorem e_X10_colourChange {g q : Nat} (hW : CW sh P) (hV : WearAt sh P 30 g q) : Ev X B mdX10_colourChange 0 0 [.ref (B + 0)] nx sh I P (mDet (some (.int (coF I g))) nx sh I P) := by
  have s0 : sh 0 = some (.inl 10) := hW.1 0 _ rfl
  have p0_16 : P 0 16 = some 33 := hW.2 0 16 33 rfl
  have s33 : sh 33 = some (.inl 1) := hW.1 33 _ rfl
  have p0_15 : P 0 15 = some 30 := hW.2 0 15 30 rfl
  obtain ⟨v1, v2, v3, v4, v5⟩ := id hV
  refine Ev.of (by decide) (by simp [Value.category]) (by simp) (fun G hM => ?_)
  have hM : mM X B "colourChange" (some FieldType.int) 1 21 0 0 _ G := hM
  show V X B RX10 cX10_colourChange G 0 0 nx sh I P 0 [some (.ref (B + 0)), none] []
  refine V_aln dX10_colourChange_0 rfl ?_
  refine V_getR dX10_colourChange_1 flX10_86 (by assumption) rfl (by assumption) ?_
  refine V_aln dX10_colourChange_4 rfl ?_
  refine V_getR dX10_colourChange_5 flX10_79 (by assumption) rfl (by assumption) ?_
  refine V_getR dX10_colourChange_8 flX10_329 (by assumption) rfl (by assumption) ?_
  refine V_getI dX10_colourChange_11 flX10_158 (by assumption) rfl ?_
  refine V_cV1d hM cvX10_345 (by assumption) rfl (e_X1_leavesColour hW.bd) ⟨Nat.le_of_ble_eq_true rfl, Nat.le_of_ble_eq_true rfl, Nat.le_of_ble_eq_true rfl, Nat.le_of_ble_eq_true rfl⟩ (Nat.le_of_ble_eq_true rfl) dX10_colourChange_14 ?_
  refine V_ifeq_b (tgt := 22) dX10_colourChange_17 rfl (fun c17 => ?_) (fun c17 => ?_)
  · have c17 : lvC I (I g 2) = false := c17
    refine V_iconst (v := 0) rfl dX10_colourChange_22 ?_
    refine V_is1 dX10_colourChange_23 ?_
    exact l_X10_colourChange hW c17 hM 9 0 (by omega) (by omega) (fun j h => by omega)
  · have c17 : lvC I (I g 2) = true := c17
    refine V_iconst (v := 0) rfl dX10_colourChange_20 ?_
    exact V_iret hM dX10_colourChange_21 (⟨by simp [coF, c17], rfl, rfl, rfl, rfl⟩)
theorem l_X10_cheapestChange {G : mG} {nl g q : Nat} {a b : Int32} {Po : mPo} (hW : CW sh P) (hV : WearAt sh P 30 g q) (hpo : Po (some (.int (accF (a + b) (chgF I q) 5))) nx sh I P) (hM : mM X B "cheapestChange" (some .int) 5 113 0 0 Po G) : ∀ (z i : Nat), i ≤ 5 → 5 - i < z → V X B RX10 cX10_cheapestChange G 0 0 nx sh I P 44 [some (.ref (B + 0)), some (.int a), some (.int b), some (.int (accF (a + b) (chgF I q) i)), some (.int (nI i))] [] := by
  have s0 : sh 0 = some (.inl 10) := hW.1 0 _ rfl
  have p0_16 : P 0 16 = some 33 := hW.2 0 16 33 rfl
  have s33 : sh 33 = some (.inl 1) := hW.1 33 _ rfl
  have p0_15 : P 0 15 = some 30 := hW.2 0 15 30 rfl
  have p0_14 : P 0 14 = some 29 := hW.2 0 14 29 rfl
  have s29 : sh 29 = some (.inr (0, 7)) := hW.1 29 _ rfl
  obtain ⟨v1, v2, v3, v4, v5⟩ := id hV
  intro z
  induction z with
  | zero => intro i _ h; omega
  | succ z ih =>
    intro i hi hz
    refine V_il dX10_cheapestChange_44 rfl ?_
    refine V_iconst (v := 5) rfl dX10_cheapestChange_46 ?_
    refine V_icmp_ge (tgt := 93) dX10_cheapestChange_47 rfl (fun c47 => ?_) (fun c47 => ?_)
    · have c47 := nN_le (a := 5) c47 (by omega) (by omega)
      obtain rfl : i = 5 := by omega
      refine V_iln dX10_cheapestChange_93 rfl ?_
      exact V_iret hM dX10_cheapestChange_94 (hpo)
    · have c47 := nN_nle (a := 5) c47 (by omega) (by omega)
      have hb : inB (nI i) 5 = true := inB_of c47 (by omega)
      have hc : (nI i).toNatClampNeg = i := nI_clamp (by omega)
      refine V_iln dX10_cheapestChange_50 rfl ?_
      refine V_iconst (v := 0) rfl dX10_cheapestChange_51 ?_
      refine V_aln dX10_cheapestChange_52 rfl ?_
      refine V_getR dX10_cheapestChange_53 flX10_79 (by assumption) rfl (by assumption) ?_
      refine V_getR dX10_cheapestChange_56 flX10_329 (by assumption) rfl (by assumption) ?_
      refine V_il dX10_cheapestChange_59 rfl ?_
      refine V_cV1d hM cvX10_161 (by assumption) rfl (e_X3_measure v3 v4 v5) ⟨Nat.le_of_ble_eq_true rfl, Nat.le_of_ble_eq_true rfl, Nat.le_of_ble_eq_true rfl, Nat.le_of_ble_eq_true rfl⟩ (Nat.le_of_ble_eq_true rfl) dX10_cheapestChange_61 ?_
      refine V_aln dX10_cheapestChange_64 rfl ?_
      refine V_getR dX10_cheapestChange_65 flX10_86 (by assumption) rfl (by assumption) ?_
      refine V_il dX10_cheapestChange_68 rfl ?_
      refine V_cV1d hM cvX10_332 (by assumption) rfl (e_X1_limitOf hW.bd) ⟨Nat.le_of_ble_eq_true rfl, Nat.le_of_ble_eq_true rfl, Nat.le_of_ble_eq_true rfl, Nat.le_of_ble_eq_true rfl⟩ (Nat.le_of_ble_eq_true rfl) dX10_cheapestChange_70 ?_
      refine V_isub dX10_cheapestChange_73 ?_
      refine V_max hM lkX10_335 wM1_max wM3 wM2_max (Nat.le_of_ble_eq_true rfl) (Nat.le_of_ble_eq_true rfl) (Nat.le_of_ble_eq_true rfl) (Nat.le_of_ble_eq_true rfl) dX10_cheapestChange_74 ?_
      refine V_aln dX10_cheapestChange_77 rfl ?_
      refine V_getR dX10_cheapestChange_78 flX10_73 (by assumption) rfl (by assumption) ?_
      refine V_il dX10_cheapestChange_81 rfl ?_
      refine V_ialdN dX10_cheapestChange_83 (by assumption) (by omega) (by omega) ?_
      refine V_imul dX10_cheapestChange_84 ?_
      refine V_iadd dX10_cheapestChange_85 ?_
      refine V_is3 dX10_cheapestChange_86 ?_
      refine V_inc4 dX10_cheapestChange_87 ?_
      refine V_goto (tgt := 44) dX10_cheapestChange_90 rfl ?_
      refine V_ls ?_ (ih (i + 1) (by omega) (by omega))
      simp [nI_inc, nI_inc', accF, chgF, sdF, hb, hc]
theorem RowsAt.mem {I' : mI} {a k d u room n : Nat} (h : RowsAt sh I P a k d u room n) (e : I' a 3 = I a 3) : RowsAt sh I' P a k d u room n := ⟨h.1, h.2.1, h.2.2.1, h.2.2.2.1, h.2.2.2.2.1, h.2.2.2.2.2.1, h.2.2.2.2.2.2.1, by rw [e]; exact h.2.2.2.2.2.2.2.1, h.2.2.2.2.2.2.2.2⟩
/-- the bounds of one in a gown -/
def bdM (I : mI) (P : mP) (n g : Nat) : mI := bndM I P 7 33 34 30 (rchF I P 7 n 30 g) n
theorem e_X10_cheapestChange {n nl g q : Nat} (hW : CW sh P) (hC : CodexAt sh I P 6 7 n) (hl : NLi I nl) (hV : WearAt sh P 30 g q) : Ev X B mdX10_cheapestChange 0 0 [.ref (B + 0)] nx sh I P (mDet (some (.int (cheF (bdM I P n g) nl g q))) nx sh (bdM I P n g) P) := by
  have s0 : sh 0 = some (.inl 10) := hW.1 0 _ rfl
  have p0_1 : P 0 1 = some 6 := hW.2 0 1 6 rfl
  have s6 : sh 6 = some (.inl 2) := hW.1 6 _ rfl
  have p0_16 : P 0 16 = some 33 := hW.2 0 16 33 rfl
  have p0_15 : P 0 15 = some 30 := hW.2 0 15 30 rfl
  have hl' : NLi (bdM I P n g) nl := ⟨by rw [bdM, bndM_o (by decide) (by decide)]; exact hl.1, hl.2⟩
  refine Ev.of (by decide) (by simp [Value.category]) (by simp) (fun G hM => ?_)
  have hM : mM X B "cheapestChange" (some FieldType.int) 5 113 0 0 _ G := hM
  show V X B RX10 cX10_cheapestChange G 0 0 nx sh I P 0 [some (.ref (B + 0)), none, none, none, none] []
  refine V_aln dX10_cheapestChange_0 rfl ?_
  refine V_getR dX10_cheapestChange_1 flX10_19 (by assumption) rfl (by assumption) ?_
  refine V_aln dX10_cheapestChange_4 rfl ?_
  refine V_getR dX10_cheapestChange_5 flX10_86 (by assumption) rfl (by assumption) ?_
  refine V_aln dX10_cheapestChange_8 rfl ?_
  refine V_getR dX10_cheapestChange_9 flX10_79 (by assumption) rfl (by assumption) ?_
  refine V_cV2n hM cvX10_319 (by assumption) rfl (e_X2_bound hC hV hW.bd) ⟨Nat.le_of_ble_eq_true rfl, Nat.le_of_ble_eq_true rfl, Nat.le_of_ble_eq_true rfl, Nat.le_of_ble_eq_true rfl⟩ (Nat.le_of_ble_eq_true rfl) dX10_cheapestChange_12 ?_
  refine V_aln dX10_cheapestChange_15 rfl ?_
  refine V_cV0d hM cvX10_323 (by assumption) rfl (e_X10_stuffChange hW hl') ⟨Nat.le_of_ble_eq_true rfl, Nat.le_of_ble_eq_true rfl, Nat.le_of_ble_eq_true rfl, Nat.le_of_ble_eq_true rfl⟩ (Nat.le_of_ble_eq_true rfl) dX10_cheapestChange_16 ?_
  refine V_is1 dX10_cheapestChange_19 ?_
  refine V_aln dX10_cheapestChange_20 rfl ?_
  refine V_cV0d hM cvX10_326 (by assumption) rfl (e_X10_colourChange hW hV) ⟨Nat.le_of_ble_eq_true rfl, Nat.le_of_ble_eq_true rfl, Nat.le_of_ble_eq_true rfl, Nat.le_of_ble_eq_true rfl⟩ (Nat.le_of_ble_eq_true rfl) dX10_cheapestChange_21 ?_
  refine V_is2 dX10_cheapestChange_24 ?_
  refine V_iln dX10_cheapestChange_25 rfl ?_
  refine V_iconst (v := -1) rfl dX10_cheapestChange_26 ?_
  refine V_icmp_eq (tgt := 35) dX10_cheapestChange_27 rfl (fun c27 => ?_) (fun c27 => ?_)
  · refine V_iconst (v := -1) rfl dX10_cheapestChange_35 ?_
    exact V_iret hM dX10_cheapestChange_36 (⟨by rw [cheF, if_pos (by first | exact Or.inl c27 | exact Or.inr c32 | exact Or.inr (Classical.not_not.mp c32))], rfl, rfl, rfl, rfl⟩)
  · refine V_iln dX10_cheapestChange_30 rfl ?_
    refine V_iconst (v := -1) rfl dX10_cheapestChange_31 ?_
    refine V_icmp_ne (tgt := 37) dX10_cheapestChange_32 rfl (fun c32 => ?_) (fun c32 => ?_)
    · refine V_iln dX10_cheapestChange_37 rfl ?_
      refine V_iln dX10_cheapestChange_38 rfl ?_
      refine V_iadd dX10_cheapestChange_39 ?_
      refine V_is3 dX10_cheapestChange_40 ?_
      refine V_iconst (v := 0) rfl dX10_cheapestChange_41 ?_
      refine V_is4 dX10_cheapestChange_42 ?_
      exact l_X10_cheapestChange (I := bdM I P n g) (nl := nl) hW hV ⟨by rw [cheF, if_neg (by rintro (h | h); exact c27 h; exact c32 h)]; rfl, rfl, rfl, rfl, rfl⟩ hM 6 0 (by omega) (by omega)
    · refine V_iconst (v := -1) rfl dX10_cheapestChange_35 ?_
      exact V_iret hM dX10_cheapestChange_36 (⟨by rw [cheF, if_pos (by first | exact Or.inl c27 | exact Or.inr c32 | exact Or.inr (Classical.not_not.mp c32))], rfl, rfl, rfl, rfl⟩)
end C2
