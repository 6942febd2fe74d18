/-! ===== the court's constructor ===== -/
abbrev sh00 : Nat → Option mSh := fun _ => none
/-- a new court -/
def cNew : mPo := fun v nx sh I P => v = none ∧ nx = 35 ∧ CW sh P ∧ (∀ c z, sh c = some z → c < 35) ∧ P 3 1 = some 4 ∧ sh 4 = some (.inl 0) ∧ P 4 1 = some 5 ∧ sh 5 = some (.inr (5, 12)) ∧ I 1 1 = 0 ∧ I 3 3 = 0 ∧ I 3 4 = -1 ∧ I 6 1 = 0 ∧ I 8 3 = 0 ∧ I 12 3 = 0 ∧ I 16 3 = 0 ∧ I 20 3 = 0 ∧ I 0 8 = 0 ∧ I 0 10 = 0 ∧ I 0 14 = 0 ∧ (∀ k, I 26 k = 0 ∧ I 27 k = 0 ∧ I 28 k = 0 ∧ I 2 k = 0) ∧ ∀ k, k < 7 → I 29 k = 1
theorem mUs_lt {sh : Nat → Option mSh} {n : Nat} {z0 : mSh} (h : ∀ c z, sh c = some z → c < n) : ∀ c z, mUs sh n z0 c = some z → c < n + 1 := by
  intro c z hc
  by_cases e : c = n
  · omega
  · rw [mUs, if_neg e] at hc
    have := h c z hc
    omega
theorem sh00_lt : ∀ c z, sh00 c = some z → c < 0 := fun c z h => by cases h
section C0
variable {X : mX} {B : Nat} {I : mI} {P : mP}
theorem e_X10_init : Ev X B mdX10_init 34 2674 [.ref (B + 0)] 1 (mUs sh00 0 (.inl 10)) I P cNew := by
  refine Ev.of (by decide) (by simp [Value.category]) (by simp) (fun G hM => ?_)
  have hM : mM X B "<init>" none 3 67 34 2674 _ G := hM
  show V X B RX10 cX10_init G 0 0 1 (mUs sh00 0 (.inl 10)) I P 0 [some (.ref (B + 0))] []
  refine V_aln dX10_init_0 rfl ?_
  refine V_obj hM lkX10_1 wO1 wO2 (Nat.le_of_ble_eq_true rfl) (Nat.le_of_ble_eq_true rfl) dX10_init_1 ?_
  refine V_aln dX10_init_4 rfl ?_
  refine V_new (ci := 8) hM (by decide) klX10_7 kt8 ki8 (fun _ => df8) (Nat.le_of_ble_eq_true rfl) (Nat.le_of_ble_eq_true rfl) dX10_init_5 ?_
  refine V_dup rfl dX10_init_8 ?_
  refine V_cI0n hM cvX10_9 (e_X8_init (o := 1) rfl (by decide)) ⟨Nat.le_of_ble_eq_true rfl, Nat.le_of_ble_eq_true rfl, Nat.le_of_ble_eq_true rfl, Nat.le_of_ble_eq_true rfl⟩ (Nat.le_of_ble_eq_true rfl) dX10_init_9 ?_
  refine V_putPF (o := some 1) hM dX10_init_12 flX10_10 (rfl) rfl (ty := .object "GownCourt$Tape") (by decide +kernel) (Or.inl ⟨_, rfl⟩) rfl ?_
  refine V_aln dX10_init_15 rfl ?_
  refine V_new (ci := 5) hM (by decide) klX10_16 kt5 ki5 (fun _ => df5) (Nat.le_of_ble_eq_true rfl) (Nat.le_of_ble_eq_true rfl) dX10_init_16 ?_
  refine V_dup rfl dX10_init_19 ?_
  refine V_aln dX10_init_20 rfl ?_
  refine V_getR dX10_init_21 flX10_10 (rfl) rfl (rfl) ?_
  refine V_cI1n hM cvX10_18 (e_X5_init (o := 3) (t := 1) (by decide) rfl (by decide)) ⟨Nat.le_of_ble_eq_true rfl, Nat.le_of_ble_eq_true rfl, Nat.le_of_ble_eq_true rfl, Nat.le_of_ble_eq_true rfl⟩ (Nat.le_of_ble_eq_true rfl) dX10_init_24 ?_
  refine V_putPF (o := some 3) hM dX10_init_27 flX10_21 (rfl) rfl (ty := .object "GownCourt$Reader") (by decide +kernel) (Or.inl ⟨_, rfl⟩) rfl ?_
  refine V_aln dX10_init_30 rfl ?_
  refine V_new (ci := 2) hM (by decide) klX10_25 kt2 ki2 (fun _ => df2) (Nat.le_of_ble_eq_true rfl) (Nat.le_of_ble_eq_true rfl) dX10_init_31 ?_
  refine V_dup rfl dX10_init_34 ?_
  refine V_cI0n hM cvX10_27 (e_X2_init (o := 6) rfl (by decide)) ⟨Nat.le_of_ble_eq_true rfl, Nat.le_of_ble_eq_true rfl, Nat.le_of_ble_eq_true rfl, Nat.le_of_ble_eq_true rfl⟩ (Nat.le_of_ble_eq_true rfl) dX10_init_35 ?_
  refine V_putPF (o := some 6) hM dX10_init_38 flX10_28 (rfl) rfl (ty := .object "GownCourt$Codex") (by decide +kernel) (Or.inl ⟨_, rfl⟩) rfl ?_
  refine V_aln dX10_init_41 rfl ?_
  refine V_new (ci := 6) hM (by decide) klX10_32 kt6 ki6 (fun _ => df6) (Nat.le_of_ble_eq_true rfl) (Nat.le_of_ble_eq_true rfl) dX10_init_42 ?_
  refine V_dup rfl dX10_init_45 ?_
  refine V_sipush (v := 360) rfl dX10_init_46 ?_
  refine V_cI1n hM cvX10_34 (e_X6_init360 (o := 8) (by decide) (by decide) rfl (by decide)) ⟨Nat.le_of_ble_eq_true rfl, Nat.le_of_ble_eq_true rfl, Nat.le_of_ble_eq_true rfl, Nat.le_of_ble_eq_true rfl⟩ (Nat.le_of_ble_eq_true rfl) dX10_init_49 ?_
  refine V_putPF (o := some 8) hM dX10_init_52 flX10_37 (rfl) rfl (ty := .object "GownCourt$Rows") (by decide +kernel) (Or.inl ⟨_, rfl⟩) rfl ?_
  refine V_aln dX10_init_55 rfl ?_
  refine V_new (ci := 6) hM (by decide) klX10_32 kt6 ki6 (fun _ => df6) (Nat.le_of_ble_eq_true rfl) (Nat.le_of_ble_eq_true rfl) dX10_init_56 ?_
  refine V_dup rfl dX10_init_59 ?_
  refine V_bipush (v := 120) rfl dX10_init_60 ?_
  refine V_cI1n hM cvX10_34 (e_X6_init120 (o := 12) (by decide) (by decide) rfl (by decide)) ⟨Nat.le_of_ble_eq_true rfl, Nat.le_of_ble_eq_true rfl, Nat.le_of_ble_eq_true rfl, Nat.le_of_ble_eq_true rfl⟩ (Nat.le_of_ble_eq_true rfl) dX10_init_62 ?_
  refine V_putPF (o := some 12) hM dX10_init_65 flX10_41 (rfl) rfl (ty := .object "GownCourt$Rows") (by decide +kernel) (Or.inl ⟨_, rfl⟩) rfl ?_
  refine V_aln dX10_init_68 rfl ?_
  refine V_new (ci := 6) hM (by decide) klX10_32 kt6 ki6 (fun _ => df6) (Nat.le_of_ble_eq_true rfl) (Nat.le_of_ble_eq_true rfl) dX10_init_69 ?_
  refine V_dup rfl dX10_init_72 ?_
  refine V_bipush (v := 20) rfl dX10_init_73 ?_
  refine V_cI1n hM cvX10_34 (e_X6_init20 (o := 16) (by decide) (by decide) rfl (by decide)) ⟨Nat.le_of_ble_eq_true rfl, Nat.le_of_ble_eq_true rfl, Nat.le_of_ble_eq_true rfl, Nat.le_of_ble_eq_true rfl⟩ (Nat.le_of_ble_eq_true rfl) dX10_init_75 ?_
  refine V_putPF (o := some 16) hM dX10_init_78 flX10_44 (rfl) rfl (ty := .object "GownCourt$Rows") (by decide +kernel) (Or.inl ⟨_, rfl⟩) rfl ?_
  refine V_aln dX10_init_81 rfl ?_
  refine V_new (ci := 6) hM (by decide) klX10_32 kt6 ki6 (fun _ => df6) (Nat.le_of_ble_eq_true rfl) (Nat.le_of_ble_eq_true rfl) dX10_init_82 ?_
  refine V_dup rfl dX10_init_85 ?_
  refine V_bipush (v := 30) rfl dX10_init_86 ?_
  refine V_cI1n hM cvX10_34 (e_X6_init30 (o := 20) (by decide) (by decide) rfl (by decide)) ⟨Nat.le_of_ble_eq_true rfl, Nat.le_of_ble_eq_true rfl, Nat.le_of_ble_eq_true rfl, Nat.le_of_ble_eq_true rfl⟩ (Nat.le_of_ble_eq_true rfl) dX10_init_88 ?_
  refine V_putPF (o := some 20) hM dX10_init_91 flX10_47 (rfl) rfl (ty := .object "GownCourt$Rows") (by decide +kernel) (Or.inl ⟨_, rfl⟩) rfl ?_
  refine V_aln dX10_init_94 rfl ?_
  refine V_bipush (v := 40) rfl dX10_init_95 ?_
  refine V_anewa (t := 2) (N := 40) hM (by decide) (by decide) klX10_50 (by decide) (by decide) (by decide) (Nat.le_of_ble_eq_true rfl) (Nat.le_of_ble_eq_true rfl) dX10_init_97 ?_
  refine V_putPF (o := some 24) hM dX10_init_100 flX10_52 (rfl) rfl (ty := .array (.object "GownCourt$Gown")) (by decide +kernel) (Or.inr ⟨_, rfl⟩) rfl ?_
  refine V_aln dX10_init_103 rfl ?_
  refine V_iconst (v := 0) rfl dX10_init_104 ?_
  refine V_putI dX10_init_105 flX10_56 (rfl) rfl rfl ?_
  refine V_aln dX10_init_108 rfl ?_
  refine V_bipush (v := 60) rfl dX10_init_109 ?_
  refine V_anewa (t := 3) (N := 60) hM (by decide) (by decide) klX10_60 (by decide) (by decide) (by decide) (Nat.le_of_ble_eq_true rfl) (Nat.le_of_ble_eq_true rfl) dX10_init_111 ?_
  refine V_putPF (o := some 25) hM dX10_init_114 flX10_62 (rfl) rfl (ty := .array (.object "GownCourt$Letter")) (by decide +kernel) (Or.inr ⟨_, rfl⟩) rfl ?_
  refine V_aln dX10_init_117 rfl ?_
  refine V_iconst (v := 0) rfl dX10_init_118 ?_
  refine V_putI dX10_init_119 flX10_66 (rfl) rfl rfl ?_
  refine V_aln dX10_init_122 rfl ?_
  refine V_bipush (v := 30) rfl dX10_init_123 ?_
  refine V_newa (at0 := .int) (t := 0) (N := 30) hM ka_int rfl (by decide) (by decide) (by decide) (by decide) (Nat.le_of_ble_eq_true rfl) (Nat.le_of_ble_eq_true rfl) dX10_init_125 ?_
  refine V_putPF (o := some 26) hM dX10_init_127 flX10_69 (rfl) rfl (ty := .array .int) (by decide +kernel) (Or.inr ⟨_, rfl⟩) rfl ?_
  refine V_aln dX10_init_130 rfl ?_
  refine V_bipush (v := 30) rfl dX10_init_131 ?_
  refine V_newa (at0 := .int) (t := 0) (N := 30) hM ka_int rfl (by decide) (by decide) (by decide) (by decide) (Nat.le_of_ble_eq_true rfl) (Nat.le_of_ble_eq_true rfl) dX10_init_133 ?_
  refine V_putPF (o := some 27) hM dX10_init_135 flX10_73 (rfl) rfl (ty := .array .int) (by decide +kernel) (Or.inr ⟨_, rfl⟩) rfl ?_
  refine V_aln dX10_init_138 rfl ?_
  refine V_bipush (v := 30) rfl dX10_init_139 ?_
  refine V_newa (at0 := .int) (t := 0) (N := 30) hM ka_int rfl (by decide) (by decide) (by decide) (by decide) (Nat.le_of_ble_eq_true rfl) (Nat.le_of_ble_eq_true rfl) dX10_init_141 ?_
  refine V_putPF (o := some 28) hM dX10_init_143 flX10_76 (rfl) rfl (ty := .array .int) (by decide +kernel) (Or.inr ⟨_, rfl⟩) rfl ?_
  refine V_aln dX10_init_146 rfl ?_
  refine V_iconst (v := 0) rfl dX10_init_147 ?_
  refine V_putI dX10_init_148 flX10_79 (rfl) rfl rfl ?_
  refine V_aln dX10_init_151 rfl ?_
  refine V_bipush (v := 7) rfl dX10_init_152 ?_
  refine V_newa (at0 := .int) (t := 0) (N := 7) hM ka_int rfl (by decide) (by decide) (by decide) (by decide) (Nat.le_of_ble_eq_true rfl) (Nat.le_of_ble_eq_true rfl) dX10_init_154 ?_
  refine V_putPF (o := some 29) hM dX10_init_156 flX10_82 (rfl) rfl (ty := .array .int) (by decide +kernel) (Or.inr ⟨_, rfl⟩) rfl ?_
  refine V_aln dX10_init_159 rfl ?_
  refine V_new (ci := 9) hM (by decide) klX10_85 kt9 ki9 (fun _ => df9) (Nat.le_of_ble_eq_true rfl) (Nat.le_of_ble_eq_true rfl) dX10_init_160 ?_
  refine V_dup rfl dX10_init_163 ?_
  refine V_cI0n hM cvX10_87 (e_X9_init (o := 30) (by decide) rfl (by decide)) ⟨Nat.le_of_ble_eq_true rfl, Nat.le_of_ble_eq_true rfl, Nat.le_of_ble_eq_true rfl, Nat.le_of_ble_eq_true rfl⟩ (Nat.le_of_ble_eq_true rfl) dX10_init_164 ?_
  refine V_putPF (o := some 30) hM dX10_init_167 flX10_88 (rfl) rfl (ty := .object "GownCourt$Wearing") (by decide +kernel) (Or.inl ⟨_, rfl⟩) rfl ?_
  refine V_aln dX10_init_170 rfl ?_
  refine V_new (ci := 1) hM (by decide) klX10_92 kt1 ki1 (fun _ => df1) (Nat.le_of_ble_eq_true rfl) (Nat.le_of_ble_eq_true rfl) dX10_init_171 ?_
  refine V_dup rfl dX10_init_174 ?_
  refine V_cI0n hM cvX10_94 (e_X1_init (o := 33) rfl (by decide)) ⟨Nat.le_of_ble_eq_true rfl, Nat.le_of_ble_eq_true rfl, Nat.le_of_ble_eq_true rfl, Nat.le_of_ble_eq_true rfl⟩ (Nat.le_of_ble_eq_true rfl) dX10_init_175 ?_
  refine V_putPF (o := some 33) hM dX10_init_178 flX10_95 (rfl) rfl (ty := .object "GownCourt$Bounds") (by decide +kernel) (Or.inl ⟨_, rfl⟩) rfl ?_
  refine V_aln dX10_init_181 rfl ?_
  refine V_getR dX10_init_182 flX10_82 (rfl) rfl (rfl) ?_
  refine V_iconst (v := 1) rfl dX10_init_185 ?_
  refine V_cS2n hM cvX10_99 (e_J7_fill (c := 29) (n := 7) rfl (by decide)) ⟨Nat.le_of_ble_eq_true rfl, Nat.le_of_ble_eq_true rfl, Nat.le_of_ble_eq_true rfl, Nat.le_of_ble_eq_true rfl⟩ (Nat.le_of_ble_eq_true rfl) dX10_init_186 ?_
  refine V_vret hM dX10_init_189 ⟨rfl, rfl, ⟨fun c z h => ?_, fun c k b h => ?_⟩, ?_, rfl, rfl, rfl, rfl, rfl, rfl, rfl, rfl, rfl, rfl, rfl, rfl, rfl, rfl, rfl, fun k => ⟨rfl, rfl, rfl, rfl⟩, fun k hk => if_pos ⟨rfl, hk⟩⟩
  · unfold csF at h
    split at h <;> first | (cases h; rfl) | cases h
  · unfold cpF at h
    split at h <;> first | (cases h; rfl) | cases h
  · repeat refine mUs_lt ?_
    exact sh00_lt
end C0
