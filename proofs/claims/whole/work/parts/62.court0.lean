/-! ===== the court's constructor ===== -/
abbrev sh00 : Nat → Option mSh := fun _ => none
/-- a new court -/
def cNew : mPo := fun v nx sh I P => v = none ∧ nx = 35 ∧ CW sh P ∧ (∀ c z, sh c = some z → c < 35) ∧ P 1 1 = some 4 ∧ sh 4 = some (.inl 0) ∧ P 4 1 = some 5 ∧ sh 5 = some (.inr (5, 12)) ∧ I 2 1 = 0 ∧ I 1 3 = 0 ∧ I 1 4 = -1 ∧ I 6 1 = 0 ∧ I 8 3 = 0 ∧ I 12 3 = 0 ∧ I 16 3 = 0 ∧ I 20 3 = 0 ∧ I 0 7 = 0 ∧ I 0 9 = 0 ∧ I 0 13 = 0 ∧ (∀ k, I 26 k = 0 ∧ I 27 k = 0 ∧ I 28 k = 0 ∧ I 3 k = 0) ∧ ∀ k, k < 7 → I 29 k = 1
theorem mUs_lt {sh : Nat → Option mSh} {n : Nat} {z0 : mSh} (h : ∀ c z, sh c = some z → c < n) : ∀ c z, mUs sh n z0 c = some z → c < n + 1 := by
  intro c z hc
  by_cases e : c = n
  · omega
  · rw [mUs, if_neg e] at hc
    have := h c z hc
    omega
theorem sh00_lt : ∀ c z, sh00 c = some z → c < 0 := fun c z h => by cases h
section C0
variable {X : mX} {B : Nat} {I : mI} {P : mP}
theorem l_X10_init {nx : Nat} {sh : Nat → Option mSh} {G : mG} {Po : mPo} (s0 : sh 0 = some (.inl 10)) (s29 : sh 29 = some (.inr (0, 7))) (p29 : P 0 14 = some 29) (hM : mM X B "<init>" none 3 67 34 2674 Po G) (hp : Po none nx sh (mFill I 29 7 1) P) : ∀ (z i : Nat), i ≤ 7 → 7 - i < z → V X B RX10 cX10_init G 34 2674 nx sh (mFill I 29 i 1) P 168 [some (.ref (B + 0)), some (.int (nI i))] [] := by
  intro z
  induction z with
  | zero => intro i _ h; omega
  | succ z ih =>
    intro i hi hz
    refine V_iln dX10_init_168 rfl ?_
    refine V_aln dX10_init_169 rfl ?_
    refine V_getR dX10_init_170 flX10_73 (by assumption) rfl (by assumption) ?_
    refine V_alen dX10_init_173 (by assumption) rfl ?_
    refine V_icmp_ge (tgt := 190) dX10_init_174 rfl (fun c174 => ?_) (fun c174 => ?_)
    · have c174 := nN_le (a := 7) c174 (by omega) (by omega)
      obtain rfl : i = 7 := by omega
      exact V_vret hM dX10_init_190 (hp)
    · have c174 := nN_nle (a := 7) c174 (by omega) (by omega)
      refine V_aln dX10_init_177 rfl ?_
      refine V_getR dX10_init_178 flX10_73 (by assumption) rfl (by assumption) ?_
      refine V_iln dX10_init_181 rfl ?_
      refine V_iconst (v := 1) rfl dX10_init_182 ?_
      refine V_iastN dX10_init_183 (by assumption) (by omega) (by omega) ?_
      refine V_inc1 dX10_init_184 ?_
      refine V_goto (tgt := 168) dX10_init_187 rfl ?_
      rw [nI_inc]
      refine V_mem (fun c k => ?_) (fun _ _ => rfl) (ih (i + 1) (by omega) (by omega))
      exact mFill_s c k
theorem e_X10_init : Ev X B mdX10_init 34 2674 [.ref (B + 0)] 1 (mUs sh00 0 (.inl 10)) I P cNew := by
  refine Ev.of (by decide) (by simp [Value.category]) (by simp) (fun G hM => ?_)
  have hM : mM X B "<init>" none 3 67 34 2674 _ G := hM
  show V X B RX10 cX10_init G 0 0 1 (mUs sh00 0 (.inl 10)) I P 0 [some (.ref (B + 0)), none] []
  refine V_aln dX10_init_0 rfl ?_
  refine V_obj hM lkX10_1 wO1 wO2 (Nat.le_of_ble_eq_true rfl) (Nat.le_of_ble_eq_true rfl) dX10_init_1 ?_
  refine V_aln dX10_init_4 rfl ?_
  refine V_new (ci := 5) hM (by decide) klX10_7 kt5 ki5 (fun _ => df5) (Nat.le_of_ble_eq_true rfl) (Nat.le_of_ble_eq_true rfl) dX10_init_5 ?_
  refine V_dup rfl dX10_init_8 ?_
  refine V_cI0n hM cvX10_9 (e_X5_init (o := 1) (by decide) (by decide) (by decide) rfl (by decide)) ⟨Nat.le_of_ble_eq_true rfl, Nat.le_of_ble_eq_true rfl, Nat.le_of_ble_eq_true rfl, Nat.le_of_ble_eq_true rfl⟩ (Nat.le_of_ble_eq_true rfl) dX10_init_9 ?_
  refine V_putPF (o := some 1) hM dX10_init_12 flX10_10 (rfl) rfl (ty := .object "GownCourt$Reader") (by decide +kernel) (Or.inl ⟨_, rfl⟩) rfl ?_
  refine V_aln dX10_init_15 rfl ?_
  refine V_new (ci := 2) hM (by decide) klX10_16 kt2 ki2 (fun _ => df2) (Nat.le_of_ble_eq_true rfl) (Nat.le_of_ble_eq_true rfl) dX10_init_16 ?_
  refine V_dup rfl dX10_init_19 ?_
  refine V_cI0n hM cvX10_18 (e_X2_init (o := 6) rfl (by decide)) ⟨Nat.le_of_ble_eq_true rfl, Nat.le_of_ble_eq_true rfl, Nat.le_of_ble_eq_true rfl, Nat.le_of_ble_eq_true rfl⟩ (Nat.le_of_ble_eq_true rfl) dX10_init_20 ?_
  refine V_putPF (o := some 6) hM dX10_init_23 flX10_19 (rfl) rfl (ty := .object "GownCourt$Codex") (by decide +kernel) (Or.inl ⟨_, rfl⟩) rfl ?_
  refine V_aln dX10_init_26 rfl ?_
  refine V_new (ci := 6) hM (by decide) klX10_23 kt6 ki6 (fun _ => df6) (Nat.le_of_ble_eq_true rfl) (Nat.le_of_ble_eq_true rfl) dX10_init_27 ?_
  refine V_dup rfl dX10_init_30 ?_
  refine V_sipush (v := 360) rfl dX10_init_31 ?_
  refine V_cI1n hM cvX10_25 (e_X6_init360 (o := 8) (by decide) (by decide) rfl (by decide)) ⟨Nat.le_of_ble_eq_true rfl, Nat.le_of_ble_eq_true rfl, Nat.le_of_ble_eq_true rfl, Nat.le_of_ble_eq_true rfl⟩ (Nat.le_of_ble_eq_true rfl) dX10_init_34 ?_
  refine V_putPF (o := some 8) hM dX10_init_37 flX10_28 (rfl) rfl (ty := .object "GownCourt$Rows") (by decide +kernel) (Or.inl ⟨_, rfl⟩) rfl ?_
  refine V_aln dX10_init_40 rfl ?_
  refine V_new (ci := 6) hM (by decide) klX10_23 kt6 ki6 (fun _ => df6) (Nat.le_of_ble_eq_true rfl) (Nat.le_of_ble_eq_true rfl) dX10_init_41 ?_
  refine V_dup rfl dX10_init_44 ?_
  refine V_bipush (v := 120) rfl dX10_init_45 ?_
  refine V_cI1n hM cvX10_25 (e_X6_init120 (o := 12) (by decide) (by decide) rfl (by decide)) ⟨Nat.le_of_ble_eq_true rfl, Nat.le_of_ble_eq_true rfl, Nat.le_of_ble_eq_true rfl, Nat.le_of_ble_eq_true rfl⟩ (Nat.le_of_ble_eq_true rfl) dX10_init_47 ?_
  refine V_putPF (o := some 12) hM dX10_init_50 flX10_32 (rfl) rfl (ty := .object "GownCourt$Rows") (by decide +kernel) (Or.inl ⟨_, rfl⟩) rfl ?_
  refine V_aln dX10_init_53 rfl ?_
  refine V_new (ci := 6) hM (by decide) klX10_23 kt6 ki6 (fun _ => df6) (Nat.le_of_ble_eq_true rfl) (Nat.le_of_ble_eq_true rfl) dX10_init_54 ?_
  refine V_dup rfl dX10_init_57 ?_
  refine V_bipush (v := 20) rfl dX10_init_58 ?_
  refine V_cI1n hM cvX10_25 (e_X6_init20 (o := 16) (by decide) (by decide) rfl (by decide)) ⟨Nat.le_of_ble_eq_true rfl, Nat.le_of_ble_eq_true rfl, Nat.le_of_ble_eq_true rfl, Nat.le_of_ble_eq_true rfl⟩ (Nat.le_of_ble_eq_true rfl) dX10_init_60 ?_
  refine V_putPF (o := some 16) hM dX10_init_63 flX10_35 (rfl) rfl (ty := .object "GownCourt$Rows") (by decide +kernel) (Or.inl ⟨_, rfl⟩) rfl ?_
  refine V_aln dX10_init_66 rfl ?_
  refine V_new (ci := 6) hM (by decide) klX10_23 kt6 ki6 (fun _ => df6) (Nat.le_of_ble_eq_true rfl) (Nat.le_of_ble_eq_true rfl) dX10_init_67 ?_
  refine V_dup rfl dX10_init_70 ?_
  refine V_bipush (v := 30) rfl dX10_init_71 ?_
  refine V_cI1n hM cvX10_25 (e_X6_init30 (o := 20) (by decide) (by decide) rfl (by decide)) ⟨Nat.le_of_ble_eq_true rfl, Nat.le_of_ble_eq_true rfl, Nat.le_of_ble_eq_true rfl, Nat.le_of_ble_eq_true rfl⟩ (Nat.le_of_ble_eq_true rfl) dX10_init_73 ?_
  refine V_putPF (o := some 20) hM dX10_init_76 flX10_38 (rfl) rfl (ty := .object "GownCourt$Rows") (by decide +kernel) (Or.inl ⟨_, rfl⟩) rfl ?_
  refine V_aln dX10_init_79 rfl ?_
  refine V_bipush (v := 40) rfl dX10_init_80 ?_
  refine V_anewa (t := 2) (N := 40) hM (by decide) (by decide) klX10_41 (by decide) (by decide) (by decide) (Nat.le_of_ble_eq_true rfl) (Nat.le_of_ble_eq_true rfl) dX10_init_82 ?_
  refine V_putPF (o := some 24) hM dX10_init_85 flX10_43 (rfl) rfl (ty := .array (.object "GownCourt$Gown")) (by decide +kernel) (Or.inr ⟨_, rfl⟩) rfl ?_
  refine V_aln dX10_init_88 rfl ?_
  refine V_iconst (v := 0) rfl dX10_init_89 ?_
  refine V_putI dX10_init_90 flX10_47 (rfl) rfl rfl ?_
  refine V_aln dX10_init_93 rfl ?_
  refine V_bipush (v := 60) rfl dX10_init_94 ?_
  refine V_anewa (t := 3) (N := 60) hM (by decide) (by decide) klX10_51 (by decide) (by decide) (by decide) (Nat.le_of_ble_eq_true rfl) (Nat.le_of_ble_eq_true rfl) dX10_init_96 ?_
  refine V_putPF (o := some 25) hM dX10_init_99 flX10_53 (rfl) rfl (ty := .array (.object "GownCourt$Letter")) (by decide +kernel) (Or.inr ⟨_, rfl⟩) rfl ?_
  refine V_aln dX10_init_102 rfl ?_
  refine V_iconst (v := 0) rfl dX10_init_103 ?_
  refine V_putI dX10_init_104 flX10_57 (rfl) rfl rfl ?_
  refine V_aln dX10_init_107 rfl ?_
  refine V_bipush (v := 30) rfl dX10_init_108 ?_
  refine V_newa (at0 := .int) (t := 0) (N := 30) hM ka_int rfl (by decide) (by decide) (by decide) (by decide) (Nat.le_of_ble_eq_true rfl) (Nat.le_of_ble_eq_true rfl) dX10_init_110 ?_
  refine V_putPF (o := some 26) hM dX10_init_112 flX10_60 (rfl) rfl (ty := .array .int) (by decide +kernel) (Or.inr ⟨_, rfl⟩) rfl ?_
  refine V_aln dX10_init_115 rfl ?_
  refine V_bipush (v := 30) rfl dX10_init_116 ?_
  refine V_newa (at0 := .int) (t := 0) (N := 30) hM ka_int rfl (by decide) (by decide) (by decide) (by decide) (Nat.le_of_ble_eq_true rfl) (Nat.le_of_ble_eq_true rfl) dX10_init_118 ?_
  refine V_putPF (o := some 27) hM dX10_init_120 flX10_64 (rfl) rfl (ty := .array .int) (by decide +kernel) (Or.inr ⟨_, rfl⟩) rfl ?_
  refine V_aln dX10_init_123 rfl ?_
  refine V_bipush (v := 30) rfl dX10_init_124 ?_
  refine V_newa (at0 := .int) (t := 0) (N := 30) hM ka_int rfl (by decide) (by decide) (by decide) (by decide) (Nat.le_of_ble_eq_true rfl) (Nat.le_of_ble_eq_true rfl) dX10_init_126 ?_
  refine V_putPF (o := some 28) hM dX10_init_128 flX10_67 (rfl) rfl (ty := .array .int) (by decide +kernel) (Or.inr ⟨_, rfl⟩) rfl ?_
  refine V_aln dX10_init_131 rfl ?_
  refine V_iconst (v := 0) rfl dX10_init_132 ?_
  refine V_putI dX10_init_133 flX10_70 (rfl) rfl rfl ?_
  refine V_aln dX10_init_136 rfl ?_
  refine V_bipush (v := 7) rfl dX10_init_137 ?_
  refine V_newa (at0 := .int) (t := 0) (N := 7) hM ka_int rfl (by decide) (by decide) (by decide) (by decide) (Nat.le_of_ble_eq_true rfl) (Nat.le_of_ble_eq_true rfl) dX10_init_139 ?_
  refine V_putPF (o := some 29) hM dX10_init_141 flX10_73 (rfl) rfl (ty := .array .int) (by decide +kernel) (Or.inr ⟨_, rfl⟩) rfl ?_
  refine V_aln dX10_init_144 rfl ?_
  refine V_new (ci := 9) hM (by decide) klX10_76 kt9 ki9 (fun _ => df9) (Nat.le_of_ble_eq_true rfl) (Nat.le_of_ble_eq_true rfl) dX10_init_145 ?_
  refine V_dup rfl dX10_init_148 ?_
  refine V_cI0n hM cvX10_78 (e_X9_init (o := 30) (by decide) rfl (by decide)) ⟨Nat.le_of_ble_eq_true rfl, Nat.le_of_ble_eq_true rfl, Nat.le_of_ble_eq_true rfl, Nat.le_of_ble_eq_true rfl⟩ (Nat.le_of_ble_eq_true rfl) dX10_init_149 ?_
  refine V_putPF (o := some 30) hM dX10_init_152 flX10_79 (rfl) rfl (ty := .object "GownCourt$Wearing") (by decide +kernel) (Or.inl ⟨_, rfl⟩) rfl ?_
  refine V_aln dX10_init_155 rfl ?_
  refine V_new (ci := 1) hM (by decide) klX10_83 kt1 ki1 (fun _ => df1) (Nat.le_of_ble_eq_true rfl) (Nat.le_of_ble_eq_true rfl) dX10_init_156 ?_
  refine V_dup rfl dX10_init_159 ?_
  refine V_cI0n hM cvX10_85 (e_X1_init (o := 33) rfl (by decide)) ⟨Nat.le_of_ble_eq_true rfl, Nat.le_of_ble_eq_true rfl, Nat.le_of_ble_eq_true rfl, Nat.le_of_ble_eq_true rfl⟩ (Nat.le_of_ble_eq_true rfl) dX10_init_160 ?_
  refine V_putPF (o := some 33) hM dX10_init_163 flX10_86 (rfl) rfl (ty := .object "GownCourt$Bounds") (by decide +kernel) (Or.inl ⟨_, rfl⟩) rfl ?_
  refine V_iconst (v := 0) rfl dX10_init_166 ?_
  refine V_is1 dX10_init_167 ?_
  refine V_mem (I' := mFill _ 29 0 1) (fun c k => mFill_0 (c := 29) (v := 1) c k) (fun _ _ => rfl) ?_
  refine l_X10_init rfl rfl rfl hM ⟨rfl, rfl, ⟨fun c z h => ?_, fun c k b h => ?_⟩, ?_, rfl, rfl, rfl, rfl, rfl, rfl, rfl, rfl, rfl, rfl, rfl, rfl, rfl, rfl, rfl, fun k => ⟨rfl, rfl, rfl, rfl⟩, fun k hk => if_pos ⟨rfl, hk⟩⟩ 8 0 (by omega) (by omega)
  · unfold csF at h
    split at h <;> first | (cases h; rfl) | cases h
  · unfold cpF at h
    split at h <;> first | (cases h; rfl) | cases h
  · repeat refine mUs_lt ?_
    exact sh00_lt
end C0
