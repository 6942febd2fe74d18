/-! ===== the reader's read, its draft; the court's act ===== -/
def q0F (I : mI) (j : Nat) : Int32 := match j with
  | 0 => 0
  | 1 => I 1 10
  | 2 => I 1 11
  | 3 => I 1 12
  | 4 => I 1 13
  | 5 => I 1 14
  | 6 => -1
  | 7 => -1
  | _ => 0
def q0 (I : mI) : aS := (q0F I, 0, fun _ _ => 0)
def inI (I : mI) (o : Nat) : mI := mUp (mUp (mUp (mUp (mUp I o 0 0) o 2 0) o 3 (-1)) o 4 (-1)) o 5 0
def inP (P : mP) (o nx : Nat) : mP := mUp (mNP P nx) o 1 (some nx)
def tdS (sh : Nat → Option mSh) (nx : Nat) : Nat → Option mSh := mUs (mUs sh nx (.inl 0)) (nx + 1) (.inr (5, 12))
def tdI (I : mI) (nx : Nat) : mI := inI (mNI I nx) nx
def tdP (P : mP) (nx : Nat) : mP := mUp (inP (mNP P nx) nx (nx + 1)) 1 1 (some nx)
def acI (I : mI) (nx dr na : Nat) (day : Int32) : mI := mUp (mUp (tdI (mUp I 2 1 0) nx) dr 0 day) 6 1 (nI (na + 1))
def acP (P : mP) (nx dr na : Nat) : mP := mUp (tdP P nx) 7 na (some dr)
def actPo (dr rl na nx : Nat) (sh : Nat → Option mSh) (I : mI) (P : mP) (day : Int32) (R : aS ⊕ (Int32 × Nat)) : mPo := fun v nx' sh' I' P' => ∃ (n1 : Nat) (sj : Nat → Option mSh) (J : mI) (Q : mP), RdPo dr rl nx sh I P R none n1 sj J Q ∧
  ((¬ J 1 3 = 0 ∧ v = some (.int (-1)) ∧ nx' = n1 ∧ sh' = sj ∧ I' = mUp J 2 1 0 ∧ P' = Q) ∨ (J 1 3 = 0 ∧ na = 12 ∧ v = some (.int (-3)) ∧ nx' = n1 ∧ sh' = sj ∧ I' = mUp J 2 1 0 ∧ P' = Q) ∨ (J 1 3 = 0 ∧ na < 12 ∧ v = some (.int (nI na)) ∧ nx' = n1 + 2 ∧ sh' = tdS sj n1 ∧ I' = acI J n1 dr na day ∧ P' = acP Q n1 dr na))
section AC
variable {X : mX} {B nx : Nat} {sh : Nat → Option mSh} {I : mI} {P : mP}
theorem e_X5_read {na : Int32} {m dr rl : Nat} (hW : CW sh P) (hm : I 2 1 = nI m) (hm8 : m ≤ 800) (hdr : P 1 1 = some dr) (sdr : sh dr = some (.inl 0)) (hrl : P dr 1 = some rl) (srl : sh rl = some (.inr (5, 12))) (h100 : 76 ≤ nx) (hfr : ∀ c z, sh c = some z → c < nx) : Ev X B mdX5_read 801 4806 [.ref (B + 1), .int na] nx sh I P (RdPo dr rl nx sh I P (aRun na (I 3) m (m + 2) 0 (q0 I))) := by
  have s1 : sh 1 = some (.inl 5) := hW.1 1 _ rfl
  have s2 : sh 2 = some (.inl 8) := hW.1 2 _ rfl
  have s3 : sh 3 = some (.inr (1, 800)) := hW.1 3 _ rfl
  have nd : dr ≠ 1 := sh_ne sdr s1 (by decide)
  have nd' : 1 ≠ dr := fun h => nd h.symm
  have n1 : 2 ≠ dr := sh_ne s2 sdr (by decide)
  have n2 : 3 ≠ dr := sh_ne s3 sdr (by decide)
  refine Ev.of (by decide) (by simp [Value.category]) (by simp) (fun G hM => ?_)
  have hM : mM X B "read" none 9 190 801 4806 _ G := hM
  show V X B RX5 cX5_read G 0 0 nx sh I P 0 [some (.ref (B + 1)), some (.int na), none] []
  refine V_aln dX5_read_0 rfl ?_
  refine V_iln dX5_read_1 rfl ?_
  refine V_putI dX5_read_2 flX5_25 (by assumption) rfl rfl ?_
  refine V_aln dX5_read_5 rfl ?_
  refine V_getR dX5_read_6 flX5_21 (by assumption) rfl (by assumption) ?_
  refine V_cV0n hM cvX5_65 (by assumption) rfl (e_X0_wipe sdr) ⟨Nat.le_of_ble_eq_true rfl, Nat.le_of_ble_eq_true rfl, Nat.le_of_ble_eq_true rfl, Nat.le_of_ble_eq_true rfl⟩ (Nat.le_of_ble_eq_true rfl) dX5_read_9 ?_
  refine V_aln dX5_read_12 rfl ?_
  refine V_iconst (v := 0) rfl dX5_read_13 ?_
  refine V_putI dX5_read_14 flX5_29 (by assumption) rfl rfl ?_
  refine V_aln dX5_read_17 rfl ?_
  refine V_iconst (v := -1) rfl dX5_read_18 ?_
  refine V_putI dX5_read_19 flX5_32 (by assumption) rfl rfl ?_
  refine V_aln dX5_read_22 rfl ?_
  refine V_iconst (v := 0) rfl dX5_read_23 ?_
  refine V_putI dX5_read_24 flX5_35 (by assumption) rfl rfl ?_
  refine V_aln dX5_read_27 rfl ?_
  refine V_iconst (v := 0) rfl dX5_read_28 ?_
  refine V_putI dX5_read_29 flX5_44 (by assumption) rfl rfl ?_
  refine V_aln dX5_read_32 rfl ?_
  refine V_iconst (v := 4) rfl dX5_read_33 ?_
  refine V_putI dX5_read_34 flX5_38 (by assumption) rfl rfl ?_
  refine V_iconst (v := 0) rfl dX5_read_37 ?_
  refine V_is2 dX5_read_38 ?_
  refine l_X5_read (R := aRun na (I 3) m (m + 2) 0 (q0 I)) (f := I 3) (m := m) (dr := dr) (rl := rl) hM (m + 2) 0 0 nx sh _ P (q0 I) ⟨⟨hW, ?_, hm8, hdr, sdr, hrl, srl, ?_, h100, hfr⟩, fun k => ?_, ?_, ?_, Nat.zero_le m, ?_, ?_, ?_, Nat.zero_le 12, fun r hr => absurd hr (Nat.not_lt_zero r), 0, rfl, by decide, fun h => absurd h.1 (by decide)⟩ ?_ ⟨Nat.le_refl _, fun _ _ h => h, hfr, fun c k _ a b => ?_, fun _ _ _ _ => rfl⟩ (Nat.le_refl 0) (Nat.le_refl _) rfl
  · simp [mUp, n1, hm]
  · simp [mUp]
  · simp [mUp, n2]
  · simp [mUp, nd']
  · simp [mUp]; rfl
  · simp [mUp]
  · exact all9 (by simp [rg, mUp, q0, q0F]) (by simp [rg, mUp, q0, q0F, nd']) (by simp [rg, mUp, q0, q0F, nd']) (by simp [rg, mUp, q0, q0F, nd']) (by simp [rg, mUp, q0, q0F, nd']) (by simp [rg, mUp, q0, q0F, nd']) (by simp [rg, mUp, q0, q0F, nd]) (by simp [rg, mUp, q0, q0F, nd]) (by simp [rg, mUp, q0, q0F, nd])
  · simp [mUp, nd, q0]; rfl
  · simp [mUp]
  · simp [mUp, a, b]
theorem e_X0_init {o : Nat} (h1 : sh o = some (.inl 0)) (hno : o ≠ nx) : Ev X B mdX0_init 1 12 [.ref (B + o)] nx sh I P (mDet none (nx + 1) (mUs sh nx (.inr (5, 12))) (inI I o) (inP P o nx)) := by
  have hs1 : mUs sh nx (.inr (5, 12)) o = some (.inl 0) := by simp [mUs, hno, h1]
  refine Ev.of (by decide) (by simp [Value.category]) (by simp) (fun G hM => ?_)
  have hM : mM X B "<init>" none 1 20 1 12 _ G := hM
  show V X B RX0 cX0_init G 0 0 nx sh I P 0 [some (.ref (B + o))] []
  refine V_aln dX0_init_0 rfl ?_
  refine V_obj hM lkX0_3 wO1 wO2 (Nat.le_of_ble_eq_true rfl) (Nat.le_of_ble_eq_true rfl) dX0_init_1 ?_
  refine V_aln dX0_init_4 rfl ?_
  refine V_iconst (v := 0) rfl dX0_init_5 ?_
  refine V_putI dX0_init_6 flX0_9 (by assumption) rfl rfl ?_
  refine V_aln dX0_init_9 rfl ?_
  refine V_bipush (v := 12) rfl dX0_init_10 ?_
  refine V_anewa (t := 5) (N := 12) hM (by decide) (by decide) klX0_15 (by decide) (by decide) (by decide) (Nat.le_of_ble_eq_true rfl) (Nat.le_of_ble_eq_true rfl) dX0_init_12 ?_
  refine V_putPF (o := some nx) hM dX0_init_15 flX0_17 (by assumption) rfl (ty := .array (.object "GownCourt$Rule")) (by decide +kernel) (Or.inr ⟨_, rfl⟩) rfl ?_
  refine V_aln dX0_init_18 rfl ?_
  refine V_iconst (v := 0) rfl dX0_init_19 ?_
  refine V_putI dX0_init_20 flX0_21 (by assumption) rfl rfl ?_
  refine V_aln dX0_init_23 rfl ?_
  refine V_iconst (v := -1) rfl dX0_init_24 ?_
  refine V_putI dX0_init_25 flX0_24 (by assumption) rfl rfl ?_
  refine V_aln dX0_init_28 rfl ?_
  refine V_iconst (v := -1) rfl dX0_init_29 ?_
  refine V_putI dX0_init_30 flX0_27 (by assumption) rfl rfl ?_
  refine V_aln dX0_init_33 rfl ?_
  refine V_iconst (v := 0) rfl dX0_init_34 ?_
  refine V_putI dX0_init_35 flX0_30 (by assumption) rfl rfl ?_
  exact V_vret hM dX0_init_38 (mDet.rf)
theorem e_X5_takeDraft {dr : Nat} (s1 : sh 1 = some (.inl 5)) (hdr : P 1 1 = some dr) (h3 : 1 < nx) : Ev X B mdX5_takeDraft 2 18 [.ref (B + 1)] nx sh I P (mDet (some (.ref (B + dr))) (nx + 2) (tdS sh nx) (tdI I nx) (tdP P nx)) := by
  have hs0 : mUs sh nx (.inl 0) nx = some (.inl 0) := by simp [mUs]
  have hs3 : tdS sh nx 1 = some (.inl 5) := by unfold tdS mUs; rw [if_neg (by omega), if_neg (by omega)]; exact s1
  refine Ev.of (by decide) (by simp [Value.category]) (by simp) (fun G hM => ?_)
  have hM : mM X B "takeDraft" (some (FieldType.object "GownCourt$Act")) 2 40 2 18 _ G := hM
  show V X B RX5 cX5_takeDraft G 0 0 nx sh I P 0 [some (.ref (B + 1)), none] []
  refine V_aln dX5_takeDraft_0 rfl ?_
  refine V_getR dX5_takeDraft_1 flX5_21 (by assumption) rfl (by assumption) ?_
  refine V_as1 dX5_takeDraft_4 ?_
  refine V_aln dX5_takeDraft_5 rfl ?_
  refine V_new (ci := 0) hM (by decide) klX5_18 kt0 ki0 (fun _ => df0) (Nat.le_of_ble_eq_true rfl) (Nat.le_of_ble_eq_true rfl) dX5_takeDraft_6 ?_
  refine V_dup rfl dX5_takeDraft_9 ?_
  refine V_cI0n hM cvX5_20 (e_X0_init hs0 (by omega)) ⟨Nat.le_of_ble_eq_true rfl, Nat.le_of_ble_eq_true rfl, Nat.le_of_ble_eq_true rfl, Nat.le_of_ble_eq_true rfl⟩ (Nat.le_of_ble_eq_true rfl) dX5_takeDraft_10 ?_
  refine V_putP (o := some nx) dX5_takeDraft_13 flX5_21 (hs3) rfl (ty := .object "GownCourt$Act") (by decide +kernel) (Or.inl ⟨_, rfl⟩) ?_
  refine V_aln dX5_takeDraft_16 rfl ?_
  exact V_aret hM (by first | exact Or.inl ⟨_, rfl⟩ | exact Or.inr ⟨_, rfl⟩) (by first | exact Or.inl rfl | exact Or.inr ⟨_, rfl⟩) dX5_takeDraft_17 (mDet.rf)
theorem t_X10_act {G : mG} {Po : mPo} {m na dr : Nat} {day : Int32} (hW : CW sh P) (hm : I 2 1 = nI m) (hm8 : m ≤ 800) (hna : I 6 1 = nI na) (hn12 : na ≤ 12) (hdr : P 1 1 = some dr) (sdr : sh dr = some (.inl 0)) (ndr : dr < nx) (h100 : 76 ≤ nx) (hM : mM X B "act" (some .int) 10 212 803 4824 Po G)
    (h1 : ¬ I 1 3 = 0 → Po (some (.int (-1))) nx sh (mUp I 2 1 0) P) (h2 : I 1 3 = 0 → na = 12 → Po (some (.int (-3))) nx sh (mUp I 2 1 0) P) (h3 : I 1 3 = 0 → na < 12 → Po (some (.int (nI na))) (nx + 2) (tdS sh nx) (acI I nx dr na day) (acP P nx dr na)) : V X B RX10 cX10_act G 801 4806 nx sh I P 42 [some (.ref (B + 0)), some (.int day), some (.int 1)] [] := by
  have s0 : sh 0 = some (.inl 10) := hW.1 0 _ rfl
  have p0_0 : P 0 0 = some 1 := hW.2 0 0 1 rfl
  have p0_1 : P 0 1 = some 6 := hW.2 0 1 6 rfl
  have s1 : sh 1 = some (.inl 5) := hW.1 1 _ rfl
  have p1_0 : P 1 0 = some 2 := hW.2 1 0 2 rfl
  have s2 : sh 2 = some (.inl 8) := hW.1 2 _ rfl
  have s6 : sh 6 = some (.inl 2) := hW.1 6 _ rfl
  have s7 : sh 7 = some (.inr (4, 12)) := hW.1 7 _ rfl
  have p6_0 : P 6 0 = some 7 := hW.2 6 0 7 rfl
  have n6 : 6 ≠ dr := sh_ne s6 sdr (by decide)
  have tS : ∀ c z, c < nx → sh c = some z → tdS sh nx c = some z := fun c z hc h => by unfold tdS mUs; rw [if_neg (by omega), if_neg (by omega)]; exact h
  have tP : ∀ c k, c < nx → c ≠ 1 → tdP P nx c k = P c k := fun c k hc h => by
    unfold tdP inP
    rw [mUp_c h, mUp_c (by omega)]
    unfold mNP
    rw [if_neg (by omega), if_neg (by omega)]
  have t0 := tS 0 _ (by omega) s0
  have t6 := tS 6 _ (by omega) s6
  have t7 := tS 7 _ (by omega) s7
  have td := tS dr _ ndr sdr
  have tp : tdP P nx 0 1 = some 6 := (tP 0 1 (by omega) (by decide)).trans p0_1
  have tp6 : tdP P nx 6 0 = some 7 := (tP 6 0 (by omega) (by decide)).trans p6_0
  have tI6 : tdI (mUp I 2 1 0) nx 6 1 = nI na := by
    rw [← hna]
    have : 6 ≠ nx := by omega
    simp [tdI, inI, mNI, mUp, this]
  have hI : mUp I 2 1 0 1 3 = I 1 3 := by simp [mUp]
  have hI6 : mUp I 2 1 0 6 1 = nI na := by rw [← hna]; simp [mUp]
  by_cases hf : I 1 3 = 0
  · by_cases hlt : na < 12
    · refine V_aln dX10_act_42 rfl ?_
      refine V_getR dX10_act_43 flX10_10 (by assumption) rfl (by assumption) ?_
      refine V_getR dX10_act_46 flX10_90 (by assumption) rfl (by assumption) ?_
      refine V_iconst (v := 0) rfl dX10_act_49 ?_
      refine V_cV1n hM cvX10_103 (by assumption) rfl (e_X8_cutTo (n := 0) s2 hm (Nat.zero_le m) hm8) ⟨by decide, by decide, by decide, by decide⟩ (Nat.le_of_ble_eq_true rfl) dX10_act_50 ?_
      rw [show nI 0 = (0 : Int32) from rfl]
      refine V_iln dX10_act_53 rfl ?_
      refine V_if_ne (tgt := 60) dX10_act_54 rfl (fun c54 => ?_) (fun c54 => ?_)
      · refine V_aln dX10_act_60 rfl ?_
        refine V_getR dX10_act_61 flX10_10 (by assumption) rfl (by assumption) ?_
        refine V_cV0d hM cvX10_174 (by assumption) rfl (e_X5_faultKind s1) ⟨Nat.le_of_ble_eq_true rfl, Nat.le_of_ble_eq_true rfl, Nat.le_of_ble_eq_true rfl, Nat.le_of_ble_eq_true rfl⟩ (Nat.le_of_ble_eq_true rfl) dX10_act_64 ?_
        refine V_if_eq (tgt := 72) dX10_act_67 rfl (fun c67 => ?_) (fun c67 => ?_)
        · refine V_aln dX10_act_72 rfl ?_
          refine V_getR dX10_act_73 flX10_19 (by assumption) rfl (by assumption) ?_
          refine V_cV0d hM cvX10_170 (by assumption) rfl (e_X2_size s6) ⟨Nat.le_of_ble_eq_true rfl, Nat.le_of_ble_eq_true rfl, Nat.le_of_ble_eq_true rfl, Nat.le_of_ble_eq_true rfl⟩ (Nat.le_of_ble_eq_true rfl) dX10_act_76 ?_
          rw [hI6]
          refine V_bipush (v := 12) rfl dX10_act_79 ?_
          refine V_icmp_lt (tgt := 87) dX10_act_81 rfl (fun c81 => ?_) (fun c81 => ?_)
          · refine V_aln dX10_act_87 rfl ?_
            refine V_getR dX10_act_88 flX10_19 (by assumption) rfl (by assumption) ?_
            refine V_aln dX10_act_91 rfl ?_
            refine V_getR dX10_act_92 flX10_10 (by assumption) rfl (by assumption) ?_
            refine V_cV0d hM cvX10_177 (by assumption) rfl (e_X5_takeDraft s1 hdr (by omega)) ⟨Nat.le_of_ble_eq_true rfl, Nat.le_of_ble_eq_true rfl, Nat.le_of_ble_eq_true rfl, Nat.le_of_ble_eq_true rfl⟩ (Nat.le_of_ble_eq_true rfl) dX10_act_95 ?_
            refine V_iln dX10_act_98 rfl ?_
            refine V_cV2n hM cvX10_181 (by assumption) rfl (e_X2_add t6 tp6 t7 tI6 hlt td) ⟨Nat.le_of_ble_eq_true rfl, Nat.le_of_ble_eq_true rfl, Nat.le_of_ble_eq_true rfl, Nat.le_of_ble_eq_true rfl⟩ (Nat.le_of_ble_eq_true rfl) dX10_act_99 ?_
            refine V_aln dX10_act_102 rfl ?_
            refine V_getR dX10_act_103 flX10_19 (by assumption) rfl (by assumption) ?_
            refine V_cV0d hM cvX10_170 (by assumption) rfl (e_X2_size t6) ⟨Nat.le_of_ble_eq_true rfl, Nat.le_of_ble_eq_true rfl, Nat.le_of_ble_eq_true rfl, Nat.le_of_ble_eq_true rfl⟩ (Nat.le_of_ble_eq_true rfl) dX10_act_106 ?_
            rw [mUp_s]
            refine V_iconst (v := 1) rfl dX10_act_109 ?_
            refine V_isub dX10_act_110 ?_
            refine V_top (show nI (na + 1) - 1 = nI na from (pk_sub (a := na + 1) (b := 1) (by omega))) ?_
            exact V_iret hM dX10_act_111 (h3 hf hlt)
          · exact absurd (nN_nlt (b := 12) c81 (by omega) (by decide)) (by omega) --done
        · exact absurd (hI.trans hf) c67 --done
      · exact absurd c54 (by decide) --done
    · refine V_aln dX10_act_42 rfl ?_
      refine V_getR dX10_act_43 flX10_10 (by assumption) rfl (by assumption) ?_
      refine V_getR dX10_act_46 flX10_90 (by assumption) rfl (by assumption) ?_
      refine V_iconst (v := 0) rfl dX10_act_49 ?_
      refine V_cV1n hM cvX10_103 (by assumption) rfl (e_X8_cutTo (n := 0) s2 hm (Nat.zero_le m) hm8) ⟨by decide, by decide, by decide, by decide⟩ (Nat.le_of_ble_eq_true rfl) dX10_act_50 ?_
      rw [show nI 0 = (0 : Int32) from rfl]
      refine V_iln dX10_act_53 rfl ?_
      refine V_if_ne (tgt := 60) dX10_act_54 rfl (fun c54 => ?_) (fun c54 => ?_)
      · refine V_aln dX10_act_60 rfl ?_
        refine V_getR dX10_act_61 flX10_10 (by assumption) rfl (by assumption) ?_
        refine V_cV0d hM cvX10_174 (by assumption) rfl (e_X5_faultKind s1) ⟨Nat.le_of_ble_eq_true rfl, Nat.le_of_ble_eq_true rfl, Nat.le_of_ble_eq_true rfl, Nat.le_of_ble_eq_true rfl⟩ (Nat.le_of_ble_eq_true rfl) dX10_act_64 ?_
        refine V_if_eq (tgt := 72) dX10_act_67 rfl (fun c67 => ?_) (fun c67 => ?_)
        · refine V_aln dX10_act_72 rfl ?_
          refine V_getR dX10_act_73 flX10_19 (by assumption) rfl (by assumption) ?_
          refine V_cV0d hM cvX10_170 (by assumption) rfl (e_X2_size s6) ⟨Nat.le_of_ble_eq_true rfl, Nat.le_of_ble_eq_true rfl, Nat.le_of_ble_eq_true rfl, Nat.le_of_ble_eq_true rfl⟩ (Nat.le_of_ble_eq_true rfl) dX10_act_76 ?_
          rw [hI6]
          refine V_bipush (v := 12) rfl dX10_act_79 ?_
          refine V_icmp_lt (tgt := 87) dX10_act_81 rfl (fun c81 => ?_) (fun c81 => ?_)
          · exact absurd (nN_lt (b := 12) c81 (by omega) (by decide)) hlt --done
          · refine V.widen (a := 803) (b := 4824) (by decide) (by decide) ?_
            refine V_bipush (v := -3) rfl dX10_act_84 ?_
            exact V_iret hM dX10_act_86 (h2 hf (by omega))
        · exact absurd (hI.trans hf) c67 --done
      · exact absurd c54 (by decide) --done
  · refine V_aln dX10_act_42 rfl ?_
    refine V_getR dX10_act_43 flX10_10 (by assumption) rfl (by assumption) ?_
    refine V_getR dX10_act_46 flX10_90 (by assumption) rfl (by assumption) ?_
    refine V_iconst (v := 0) rfl dX10_act_49 ?_
    refine V_cV1n hM cvX10_103 (by assumption) rfl (e_X8_cutTo (n := 0) s2 hm (Nat.zero_le m) hm8) ⟨by decide, by decide, by decide, by decide⟩ (Nat.le_of_ble_eq_true rfl) dX10_act_50 ?_
    rw [show nI 0 = (0 : Int32) from rfl]
    refine V_iln dX10_act_53 rfl ?_
    refine V_if_ne (tgt := 60) dX10_act_54 rfl (fun c54 => ?_) (fun c54 => ?_)
    · refine V_aln dX10_act_60 rfl ?_
      refine V_getR dX10_act_61 flX10_10 (by assumption) rfl (by assumption) ?_
      refine V_cV0d hM cvX10_174 (by assumption) rfl (e_X5_faultKind s1) ⟨Nat.le_of_ble_eq_true rfl, Nat.le_of_ble_eq_true rfl, Nat.le_of_ble_eq_true rfl, Nat.le_of_ble_eq_true rfl⟩ (Nat.le_of_ble_eq_true rfl) dX10_act_64 ?_
      refine V_if_eq (tgt := 72) dX10_act_67 rfl (fun c67 => ?_) (fun c67 => ?_)
      · exact absurd c67 (fun h => hf (hI.symm.trans h)) --done
      · refine V.widen (a := 803) (b := 4824) (by decide) (by decide) ?_
        refine V_iconst (v := -1) rfl dX10_act_70 ?_
        exact V_iret hM dX10_act_71 (h1 hf)
    · exact absurd c54 (by decide) --done
def ladF (I : mI) (P : mP) (na : Nat) : Int32 := if na = 0 then 0 else I (pg P 7 (na - 1)) 0
def acC (I : mI) (P : mP) (na : Nat) (day : Int32) : Bool := inB day 10000 && decide (ladF I P na ≤ day)
theorem e_X10_act {m na dr rl : Nat} {day : Int32} (hW : CW sh P) (hm : I 2 1 = nI m) (hm8 : m ≤ 800) (hC : CodexAt sh I P 6 7 na) (hdr : P 1 1 = some dr) (sdr : sh dr = some (.inl 0)) (hrl : P dr 1 = some rl) (srl : sh rl = some (.inr (5, 12))) (h100 : 76 ≤ nx) (hfr : ∀ c z, sh c = some z → c < nx) (hx : acC I P na day = true) : Ev X B mdX10_act 803 4824 [.ref (B + 0), .int day] nx sh I P (actPo dr rl na nx sh I P day (aRun (nI na) (I 3) m (m + 2) 0 (q0 I))) := by
  have s0 : sh 0 = some (.inl 10) := hW.1 0 _ rfl
  have p0_0 : P 0 0 = some 1 := hW.2 0 0 1 rfl
  have p0_1 : P 0 1 = some 6 := hW.2 0 1 6 rfl
  have s1 : sh 1 = some (.inl 5) := hW.1 1 _ rfl
  have p1_0 : P 1 0 = some 2 := hW.2 1 0 2 rfl
  have s2 : sh 2 = some (.inl 8) := hW.1 2 _ rfl
  have s6 : sh 6 = some (.inl 2) := hW.1 6 _ rfl
  have hna := hC.2.2.2.1
  have hn12 := hC.2.2.2.2.1
  rw [acC, Bool.and_eq_true, decide_eq_true_eq] at hx
  refine Ev.of (by decide) (by simp [Value.category]) (by simp) (fun G hM => ?_)
  have hM : mM X B "act" (some FieldType.int) 10 212 803 4824 _ G := hM
  show V X B RX10 cX10_act G 0 0 nx sh I P 0 [some (.ref (B + 0)), some (.int day), none] []
  refine V_iln dX10_act_0 rfl ?_
  refine V_cS1d hM cvX10_110 (e_X10_isDay) ⟨Nat.le_of_ble_eq_true rfl, Nat.le_of_ble_eq_true rfl, Nat.le_of_ble_eq_true rfl, Nat.le_of_ble_eq_true rfl⟩ (Nat.le_of_ble_eq_true rfl) dX10_act_1 ?_
  rw [hx.1]
  refine V_ifeq_b (tgt := 22) dX10_act_4 rfl (fun c4 => ?_) (fun c4 => ?_)
  · exact absurd c4 (by decide) --done
  · refine V_iln dX10_act_7 rfl ?_
    refine V_aln dX10_act_8 rfl ?_
    refine V_getR dX10_act_9 flX10_19 (by assumption) rfl (by assumption) ?_
    refine V_cV0d hM cvX10_167 (by assumption) rfl (e_X2_latestFirstDay hC) ⟨Nat.le_of_ble_eq_true rfl, Nat.le_of_ble_eq_true rfl, Nat.le_of_ble_eq_true rfl, Nat.le_of_ble_eq_true rfl⟩ (Nat.le_of_ble_eq_true rfl) dX10_act_12 ?_
    refine V_icmp_lt (tgt := 22) dX10_act_15 rfl (fun c15 => ?_) (fun c15 => ?_)
    · exact absurd c15 (i_le_nlt hx.2) --done
    · refine V_iconst (v := 1) rfl dX10_act_18 ?_
      refine V_goto (tgt := 23) dX10_act_19 rfl ?_
      refine V_is2 dX10_act_23 ?_
      refine V_iln dX10_act_24 rfl ?_
      refine V_if_eq (tgt := 42) dX10_act_25 rfl (fun h => absurd h (by decide)) (fun _ => ?_)
      refine V_aln dX10_act_28 rfl ?_
      refine V_getR dX10_act_29 flX10_10 (by assumption) rfl (by assumption) ?_
      refine V_aln dX10_act_32 rfl ?_
      refine V_getR dX10_act_33 flX10_19 (by assumption) rfl (by assumption) ?_
      refine V_cV0d hM cvX10_170 (by assumption) rfl (e_X2_size s6) ⟨Nat.le_of_ble_eq_true rfl, Nat.le_of_ble_eq_true rfl, Nat.le_of_ble_eq_true rfl, Nat.le_of_ble_eq_true rfl⟩ (Nat.le_of_ble_eq_true rfl) dX10_act_36 ?_
      rw [hna]
      refine V_cV1 hM cvX10_171 (by assumption) rfl (e_X5_read hW hm hm8 hdr sdr hrl srl h100 hfr) ⟨Nat.le_of_ble_eq_true rfl, Nat.le_of_ble_eq_true rfl, Nat.le_of_ble_eq_true rfl, Nat.le_of_ble_eq_true rfl⟩ (Nat.le_of_ble_eq_true rfl) dX10_act_39 (fun v n1 sj J Q hp => ?_)
      obtain ⟨rfl, hF, hp⟩ := hp
      refine t_X10_act (m := m) (na := na) (dr := dr) (hW.mono (by omega) hF.2.1 hF.2.2.2.2 srl) ?_ hm8 ?_ hn12 ?_ (hF.2.1 _ _ sdr) (Nat.lt_of_lt_of_le (hfr _ _ sdr) hF.1) (Nat.le_trans h100 hF.1) hM (fun a => ⟨n1, sj, J, Q, ⟨rfl, hF, hp⟩, Or.inl ⟨a, rfl, rfl, rfl, rfl, rfl⟩⟩) (fun a b => ⟨n1, sj, J, Q, ⟨rfl, hF, hp⟩, Or.inr (Or.inl ⟨a, b, rfl, rfl, rfl, rfl, rfl⟩)⟩) (fun a b => ⟨n1, sj, J, Q, ⟨rfl, hF, hp⟩, Or.inr (Or.inr ⟨a, b, rfl, rfl, rfl, rfl, rfl⟩)⟩)
      · rw [hF.2.2.2.1 2 1 (by omega) (by decide) (sh_ne s2 sdr (by decide))]; exact hm
      · rw [hF.2.2.2.1 6 1 (by omega) (by decide) (sh_ne s6 sdr (by decide))]; exact hna
      · rw [hF.2.2.2.2 1 1 (by omega) (sh_ne s1 srl (by decide))]; exact hdr
theorem e_X10_actR {m na : Nat} {day : Int32} (hW : CW sh P) (hm : I 2 1 = nI m) (hm8 : m ≤ 800) (hC : CodexAt sh I P 6 7 na) (hx : acC I P na day = false) : Ev X B mdX10_act 803 4824 [.ref (B + 0), .int day] nx sh I P (mDet (some (.int (-2))) nx sh (mUp I 2 1 0) P) := by
  have s0 : sh 0 = some (.inl 10) := hW.1 0 _ rfl
  have p0_0 : P 0 0 = some 1 := hW.2 0 0 1 rfl
  have p0_1 : P 0 1 = some 6 := hW.2 0 1 6 rfl
  have s1 : sh 1 = some (.inl 5) := hW.1 1 _ rfl
  have p1_0 : P 1 0 = some 2 := hW.2 1 0 2 rfl
  have s2 : sh 2 = some (.inl 8) := hW.1 2 _ rfl
  have s6 : sh 6 = some (.inl 2) := hW.1 6 _ rfl
  refine Ev.of (by decide) (by simp [Value.category]) (by simp) (fun G hM => ?_)
  have hM : mM X B "act" (some FieldType.int) 10 212 803 4824 _ G := hM
  show V X B RX10 cX10_act G 0 0 nx sh I P 0 [some (.ref (B + 0)), some (.int day), none] []
  refine V.widen (a := 803) (b := 4824) (by omega) (by omega) ?_
  refine V_iln dX10_act_0 rfl ?_
  refine V_cS1d hM cvX10_110 (e_X10_isDay) ⟨Nat.le_of_ble_eq_true rfl, Nat.le_of_ble_eq_true rfl, Nat.le_of_ble_eq_true rfl, Nat.le_of_ble_eq_true rfl⟩ (Nat.le_of_ble_eq_true rfl) dX10_act_1 ?_
  refine V_ifeq_b (tgt := 22) dX10_act_4 rfl (fun c4 => ?_) (fun c4 => ?_)
  · refine V_iconst (v := 0) rfl dX10_act_22 ?_
    refine V_is2 dX10_act_23 ?_
    refine V_iln dX10_act_24 rfl ?_
    refine V_if_eq (tgt := 42) dX10_act_25 rfl (fun _ => ?_) (fun h => absurd rfl h)
    refine V_aln dX10_act_42 rfl ?_
    refine V_getR dX10_act_43 flX10_10 (by assumption) rfl (by assumption) ?_
    refine V_getR dX10_act_46 flX10_90 (by assumption) rfl (by assumption) ?_
    refine V_iconst (v := 0) rfl dX10_act_49 ?_
    refine V_cV1n hM cvX10_103 (by assumption) rfl (e_X8_cutTo (n := 0) s2 hm (Nat.zero_le m) hm8) ⟨Nat.le_of_ble_eq_true rfl, Nat.le_of_ble_eq_true rfl, Nat.le_of_ble_eq_true rfl, Nat.le_of_ble_eq_true rfl⟩ (Nat.le_of_ble_eq_true rfl) dX10_act_50 ?_
    rw [show nI 0 = (0 : Int32) from rfl]
    refine V_iln dX10_act_53 rfl ?_
    refine V_if_ne (tgt := 60) dX10_act_54 rfl (fun h => absurd rfl h) (fun _ => ?_)
    refine V_bipush (v := -2) rfl dX10_act_57 ?_
    exact V_iret hM dX10_act_59 (mDet.rf)
  · refine V_iln dX10_act_7 rfl ?_
    refine V_aln dX10_act_8 rfl ?_
    refine V_getR dX10_act_9 flX10_19 (by assumption) rfl (by assumption) ?_
    refine V_cV0d hM cvX10_167 (by assumption) rfl (e_X2_latestFirstDay hC) ⟨Nat.le_of_ble_eq_true rfl, Nat.le_of_ble_eq_true rfl, Nat.le_of_ble_eq_true rfl, Nat.le_of_ble_eq_true rfl⟩ (Nat.le_of_ble_eq_true rfl) dX10_act_12 ?_
    refine V_icmp_lt (tgt := 22) dX10_act_15 rfl (fun c15 => ?_) (fun c15 => ?_)
    · refine V_iconst (v := 0) rfl dX10_act_22 ?_
      refine V_is2 dX10_act_23 ?_
      refine V_iln dX10_act_24 rfl ?_
      refine V_if_eq (tgt := 42) dX10_act_25 rfl (fun _ => ?_) (fun h => absurd rfl h)
      refine V_aln dX10_act_42 rfl ?_
      refine V_getR dX10_act_43 flX10_10 (by assumption) rfl (by assumption) ?_
      refine V_getR dX10_act_46 flX10_90 (by assumption) rfl (by assumption) ?_
      refine V_iconst (v := 0) rfl dX10_act_49 ?_
      refine V_cV1n hM cvX10_103 (by assumption) rfl (e_X8_cutTo (n := 0) s2 hm (Nat.zero_le m) hm8) ⟨Nat.le_of_ble_eq_true rfl, Nat.le_of_ble_eq_true rfl, Nat.le_of_ble_eq_true rfl, Nat.le_of_ble_eq_true rfl⟩ (Nat.le_of_ble_eq_true rfl) dX10_act_50 ?_
      rw [show nI 0 = (0 : Int32) from rfl]
      refine V_iln dX10_act_53 rfl ?_
      refine V_if_ne (tgt := 60) dX10_act_54 rfl (fun h => absurd rfl h) (fun _ => ?_)
      refine V_bipush (v := -2) rfl dX10_act_57 ?_
      exact V_iret hM dX10_act_59 (mDet.rf)
    · exact absurd hx (by rw [acC, show inB day 10000 = true by first | exact c4 | (exact Classical.byContradiction fun h => c4 (by simpa using h)), show decide (ladF I P na ≤ day) = true from decide_eq_true (i_nlt c15)]; decide) --done
end AC
