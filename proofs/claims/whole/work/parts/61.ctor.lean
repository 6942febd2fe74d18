/-! ===== constructors of the class ===== -/
section CO
variable {X : mX} {B nx : Nat} {sh : Nat → Option mSh} {I : mI} {P : mP}
theorem e_X8_init {o : Nat} (h1 : sh o = some (.inl 8)) (hno : o ≠ nx) : Ev X B mdX8_init 1 800 [.ref (B + o)] nx sh I P (mDet none (nx + 1) (mUs sh nx (.inr (1, 800))) (mUp (mNI I nx) o 1 0) (mUp P o 0 (some nx))) := by
  have a0 : ∀ z, mUs sh nx z o = sh o := fun z => by simp [mUs, hno]
  refine Ev.of (by decide) (by simp [Value.category]) (by simp) (fun G hM => ?_)
  have hM : mM X B "<init>" none 1 20 1 800 _ G := hM
  show V X B RX8 cX8_init G 0 0 nx sh I P 0 [some (.ref (B + o))] []
  refine V_aln dX8_init_0 rfl ?_
  refine V_obj hM lkX8_3 wO1 wO2 (Nat.le_of_ble_eq_true rfl) (Nat.le_of_ble_eq_true rfl) dX8_init_1 ?_
  refine V_aln dX8_init_4 rfl ?_
  refine V_sipush (v := 800) rfl dX8_init_5 ?_
  refine V_newa (at0 := .byte) (t := 1) (N := 800) hM ka_byte rfl (by decide) (by decide) (by decide) (by decide) (Nat.le_of_ble_eq_true rfl) (Nat.le_of_ble_eq_true rfl) dX8_init_8 ?_
  refine V_putPF (o := some nx) hM dX8_init_10 flX8_9 (by first | assumption | (rw [a0]; assumption)) rfl (ty := .array .byte) (by decide +kernel) (Or.inr ⟨_, rfl⟩) rfl ?_
  refine V_aln dX8_init_13 rfl ?_
  refine V_iconst (v := 0) rfl dX8_init_14 ?_
  refine V_putI dX8_init_15 flX8_15 (by first | assumption | (rw [a0]; assumption)) rfl rfl ?_
  exact V_vret hM dX8_init_18 (mDet.rf)
theorem e_X2_init {o : Nat} (h1 : sh o = some (.inl 2)) (hno : o ≠ nx) : Ev X B mdX2_init 1 12 [.ref (B + o)] nx sh I P (mDet none (nx + 1) (mUs sh nx (.inr (4, 12))) (mUp I o 1 0) (mUp (mNP P nx) o 0 (some nx))) := by
  have a0 : ∀ z, mUs sh nx z o = sh o := fun z => by simp [mUs, hno]
  refine Ev.of (by decide) (by simp [Value.category]) (by simp) (fun G hM => ?_)
  have hM : mM X B "<init>" none 1 20 1 12 _ G := hM
  show V X B RX2 cX2_init G 0 0 nx sh I P 0 [some (.ref (B + o))] []
  refine V_aln dX2_init_0 rfl ?_
  refine V_obj hM lkX2_3 wO1 wO2 (Nat.le_of_ble_eq_true rfl) (Nat.le_of_ble_eq_true rfl) dX2_init_1 ?_
  refine V_aln dX2_init_4 rfl ?_
  refine V_bipush (v := 12) rfl dX2_init_5 ?_
  refine V_anewa (t := 4) (N := 12) hM (by decide) (by decide) klX2_9 (by decide) (by decide) (by decide) (Nat.le_of_ble_eq_true rfl) (Nat.le_of_ble_eq_true rfl) dX2_init_7 ?_
  refine V_putPF (o := some nx) hM dX2_init_10 flX2_11 (by first | assumption | (rw [a0]; assumption)) rfl (ty := .array (.object "GownCourt$Act")) (by decide +kernel) (Or.inr ⟨_, rfl⟩) rfl ?_
  refine V_aln dX2_init_13 rfl ?_
  refine V_iconst (v := 0) rfl dX2_init_14 ?_
  refine V_putI dX2_init_15 flX2_17 (by first | assumption | (rw [a0]; assumption)) rfl rfl ?_
  exact V_vret hM dX2_init_18 (mDet.rf)
theorem e_X1_init {o : Nat} (h1 : sh o = some (.inl 1)) (hno : o ≠ nx) : Ev X B mdX1_init 1 5 [.ref (B + o)] nx sh I P (mDet none (nx + 1) (mUs sh nx (.inr (0, 5))) (mUp (mUp (mNI I nx) o 1 0) o 2 0) (mUp P o 0 (some nx))) := by
  have a0 : ∀ z, mUs sh nx z o = sh o := fun z => by simp [mUs, hno]
  refine Ev.of (by decide) (by simp [Value.category]) (by simp) (fun G hM => ?_)
  have hM : mM X B "<init>" none 1 20 1 5 _ G := hM
  show V X B RX1 cX1_init G 0 0 nx sh I P 0 [some (.ref (B + o))] []
  refine V_aln dX1_init_0 rfl ?_
  refine V_obj hM lkX1_3 wO1 wO2 (Nat.le_of_ble_eq_true rfl) (Nat.le_of_ble_eq_true rfl) dX1_init_1 ?_
  refine V_aln dX1_init_4 rfl ?_
  refine V_iconst (v := 5) rfl dX1_init_5 ?_
  refine V_newa (at0 := .int) (t := 0) (N := 5) hM ka_int rfl (by decide) (by decide) (by decide) (by decide) (Nat.le_of_ble_eq_true rfl) (Nat.le_of_ble_eq_true rfl) dX1_init_6 ?_
  refine V_putPF (o := some nx) hM dX1_init_8 flX1_9 (by first | assumption | (rw [a0]; assumption)) rfl (ty := .array .int) (by decide +kernel) (Or.inr ⟨_, rfl⟩) rfl ?_
  refine V_aln dX1_init_11 rfl ?_
  refine V_iconst (v := 0) rfl dX1_init_12 ?_
  refine V_putI dX1_init_13 flX1_15 (by first | assumption | (rw [a0]; assumption)) rfl rfl ?_
  refine V_aln dX1_init_16 rfl ?_
  refine V_iconst (v := 0) rfl dX1_init_17 ?_
  refine V_putI dX1_init_18 flX1_19 (by first | assumption | (rw [a0]; assumption)) rfl rfl ?_
  exact V_vret hM dX1_init_21 (mDet.rf)
theorem e_X6_init360 {o : Nat} (hn1 : o ≠ nx + 1) (hn2 : o ≠ nx + 2) (h1 : sh o = some (.inl 6)) (hno : o ≠ nx) : Ev X B mdX6_init 3 1080 [.ref (B + o), .int 360] nx sh I P (mDet none (nx + 3) (mUs (mUs (mUs sh nx (.inr (0, 360))) (nx + 1) (.inr (0, 360))) (nx + 2) (.inr (0, 360))) (mNI (mNI (mNI (mUp I o 3 0) nx) (nx + 1)) (nx + 2)) (mUp (mUp (mUp P o 0 (some nx)) o 1 (some (nx + 1))) o 2 (some (nx + 2)))) := by
  have a0 : ∀ z, mUs sh nx z o = sh o := fun z => by simp [mUs, hno]
  have a1 : ∀ z, mUs (mUs sh nx z) (nx + 1) z o = sh o := fun z => by simp [mUs, hno, hn1]
  have a2 : ∀ z, mUs (mUs (mUs sh nx z) (nx + 1) z) (nx + 2) z o = sh o := fun z => by simp [mUs, hno, hn1, hn2]
  refine Ev.of (by decide) (by simp [Value.category]) (by simp) (fun G hM => ?_)
  have hM : mM X B "<init>" none 1 21 3 1080 _ G := hM
  show V X B RX6 cX6_init G 0 0 nx sh I P 0 [some (.ref (B + o)), some (.int 360), none] []
  refine V_aln dX6_init_0 rfl ?_
  refine V_obj hM lkX6_3 wO1 wO2 (Nat.le_of_ble_eq_true rfl) (Nat.le_of_ble_eq_true rfl) dX6_init_1 ?_
  refine V_aln dX6_init_4 rfl ?_
  refine V_iconst (v := 0) rfl dX6_init_5 ?_
  refine V_putI dX6_init_6 flX6_9 (by first | assumption | (rw [a0]; assumption) | exact (a1 _).trans h1 | exact (a2 _).trans h1) rfl rfl ?_
  refine V_iconst (v := 0) rfl dX6_init_9 ?_
  refine V_iln dX6_init_10 rfl ?_
  refine V_max hM lkX6_15 wM1_max wM3 wM2_max (Nat.le_of_ble_eq_true rfl) (Nat.le_of_ble_eq_true rfl) (Nat.le_of_ble_eq_true rfl) (Nat.le_of_ble_eq_true rfl) dX6_init_11 ?_
  refine V_top (show (if (0 : Int32) < 360 then (360 : Int32) else 0) = 360 by decide) ?_
  refine V_is2 dX6_init_14 ?_
  refine V_aln dX6_init_15 rfl ?_
  refine V_iln dX6_init_16 rfl ?_
  refine V_newa (at0 := .int) (t := 0) (N := 360) hM ka_int rfl (by decide) (by decide) (by decide) (by decide) (Nat.le_of_ble_eq_true rfl) (Nat.le_of_ble_eq_true rfl) dX6_init_17 ?_
  refine V_putPF (o := some nx) hM dX6_init_19 flX6_21 (by first | assumption | (rw [a0]; assumption) | exact (a1 _).trans h1 | exact (a2 _).trans h1) rfl (ty := .array .int) (by decide +kernel) (Or.inr ⟨_, rfl⟩) rfl ?_
  refine V_aln dX6_init_22 rfl ?_
  refine V_iln dX6_init_23 rfl ?_
  refine V_newa (at0 := .int) (t := 0) (N := 360) hM ka_int rfl (by decide) (by decide) (by decide) (by decide) (Nat.le_of_ble_eq_true rfl) (Nat.le_of_ble_eq_true rfl) dX6_init_24 ?_
  refine V_putPF (o := some (nx + 1)) hM dX6_init_26 flX6_25 (by first | assumption | (rw [a0]; assumption) | exact (a1 _).trans h1 | exact (a2 _).trans h1) rfl (ty := .array .int) (by decide +kernel) (Or.inr ⟨_, rfl⟩) rfl ?_
  refine V_aln dX6_init_29 rfl ?_
  refine V_iln dX6_init_30 rfl ?_
  refine V_newa (at0 := .int) (t := 0) (N := 360) hM ka_int rfl (by decide) (by decide) (by decide) (by decide) (Nat.le_of_ble_eq_true rfl) (Nat.le_of_ble_eq_true rfl) dX6_init_31 ?_
  refine V_putPF (o := some (nx + 2)) hM dX6_init_33 flX6_28 (by first | assumption | (rw [a0]; assumption) | exact (a1 _).trans h1 | exact (a2 _).trans h1) rfl (ty := .array .int) (by decide +kernel) (Or.inr ⟨_, rfl⟩) rfl ?_
  exact V_vret hM dX6_init_36 (mDet.rf)
theorem e_X6_init120 {o : Nat} (hn1 : o ≠ nx + 1) (hn2 : o ≠ nx + 2) (h1 : sh o = some (.inl 6)) (hno : o ≠ nx) : Ev X B mdX6_init 3 360 [.ref (B + o), .int 120] nx sh I P (mDet none (nx + 3) (mUs (mUs (mUs sh nx (.inr (0, 120))) (nx + 1) (.inr (0, 120))) (nx + 2) (.inr (0, 120))) (mNI (mNI (mNI (mUp I o 3 0) nx) (nx + 1)) (nx + 2)) (mUp (mUp (mUp P o 0 (some nx)) o 1 (some (nx + 1))) o 2 (some (nx + 2)))) := by
  have a0 : ∀ z, mUs sh nx z o = sh o := fun z => by simp [mUs, hno]
  have a1 : ∀ z, mUs (mUs sh nx z) (nx + 1) z o = sh o := fun z => by simp [mUs, hno, hn1]
  have a2 : ∀ z, mUs (mUs (mUs sh nx z) (nx + 1) z) (nx + 2) z o = sh o := fun z => by simp [mUs, hno, hn1, hn2]
  refine Ev.of (by decide) (by simp [Value.category]) (by simp) (fun G hM => ?_)
  have hM : mM X B "<init>" none 1 21 3 360 _ G := hM
  show V X B RX6 cX6_init G 0 0 nx sh I P 0 [some (.ref (B + o)), some (.int 120), none] []
  refine V_aln dX6_init_0 rfl ?_
  refine V_obj hM lkX6_3 wO1 wO2 (Nat.le_of_ble_eq_true rfl) (Nat.le_of_ble_eq_true rfl) dX6_init_1 ?_
  refine V_aln dX6_init_4 rfl ?_
  refine V_iconst (v := 0) rfl dX6_init_5 ?_
  refine V_putI dX6_init_6 flX6_9 (by first | assumption | (rw [a0]; assumption) | exact (a1 _).trans h1 | exact (a2 _).trans h1) rfl rfl ?_
  refine V_iconst (v := 0) rfl dX6_init_9 ?_
  refine V_iln dX6_init_10 rfl ?_
  refine V_max hM lkX6_15 wM1_max wM3 wM2_max (Nat.le_of_ble_eq_true rfl) (Nat.le_of_ble_eq_true rfl) (Nat.le_of_ble_eq_true rfl) (Nat.le_of_ble_eq_true rfl) dX6_init_11 ?_
  refine V_top (show (if (0 : Int32) < 120 then (120 : Int32) else 0) = 120 by decide) ?_
  refine V_is2 dX6_init_14 ?_
  refine V_aln dX6_init_15 rfl ?_
  refine V_iln dX6_init_16 rfl ?_
  refine V_newa (at0 := .int) (t := 0) (N := 120) hM ka_int rfl (by decide) (by decide) (by decide) (by decide) (Nat.le_of_ble_eq_true rfl) (Nat.le_of_ble_eq_true rfl) dX6_init_17 ?_
  refine V_putPF (o := some nx) hM dX6_init_19 flX6_21 (by first | assumption | (rw [a0]; assumption) | exact (a1 _).trans h1 | exact (a2 _).trans h1) rfl (ty := .array .int) (by decide +kernel) (Or.inr ⟨_, rfl⟩) rfl ?_
  refine V_aln dX6_init_22 rfl ?_
  refine V_iln dX6_init_23 rfl ?_
  refine V_newa (at0 := .int) (t := 0) (N := 120) hM ka_int rfl (by decide) (by decide) (by decide) (by decide) (Nat.le_of_ble_eq_true rfl) (Nat.le_of_ble_eq_true rfl) dX6_init_24 ?_
  refine V_putPF (o := some (nx + 1)) hM dX6_init_26 flX6_25 (by first | assumption | (rw [a0]; assumption) | exact (a1 _).trans h1 | exact (a2 _).trans h1) rfl (ty := .array .int) (by decide +kernel) (Or.inr ⟨_, rfl⟩) rfl ?_
  refine V_aln dX6_init_29 rfl ?_
  refine V_iln dX6_init_30 rfl ?_
  refine V_newa (at0 := .int) (t := 0) (N := 120) hM ka_int rfl (by decide) (by decide) (by decide) (by decide) (Nat.le_of_ble_eq_true rfl) (Nat.le_of_ble_eq_true rfl) dX6_init_31 ?_
  refine V_putPF (o := some (nx + 2)) hM dX6_init_33 flX6_28 (by first | assumption | (rw [a0]; assumption) | exact (a1 _).trans h1 | exact (a2 _).trans h1) rfl (ty := .array .int) (by decide +kernel) (Or.inr ⟨_, rfl⟩) rfl ?_
  exact V_vret hM dX6_init_36 (mDet.rf)
theorem e_X6_init20 {o : Nat} (hn1 : o ≠ nx + 1) (hn2 : o ≠ nx + 2) (h1 : sh o = some (.inl 6)) (hno : o ≠ nx) : Ev X B mdX6_init 3 60 [.ref (B + o), .int 20] nx sh I P (mDet none (nx + 3) (mUs (mUs (mUs sh nx (.inr (0, 20))) (nx + 1) (.inr (0, 20))) (nx + 2) (.inr (0, 20))) (mNI (mNI (mNI (mUp I o 3 0) nx) (nx + 1)) (nx + 2)) (mUp (mUp (mUp P o 0 (some nx)) o 1 (some (nx + 1))) o 2 (some (nx + 2)))) := by
  have a0 : ∀ z, mUs sh nx z o = sh o := fun z => by simp [mUs, hno]
  have a1 : ∀ z, mUs (mUs sh nx z) (nx + 1) z o = sh o := fun z => by simp [mUs, hno, hn1]
  have a2 : ∀ z, mUs (mUs (mUs sh nx z) (nx + 1) z) (nx + 2) z o = sh o := fun z => by simp [mUs, hno, hn1, hn2]
  refine Ev.of (by decide) (by simp [Value.category]) (by simp) (fun G hM => ?_)
  have hM : mM X B "<init>" none 1 21 3 60 _ G := hM
  show V X B RX6 cX6_init G 0 0 nx sh I P 0 [some (.ref (B + o)), some (.int 20), none] []
  refine V_aln dX6_init_0 rfl ?_
  refine V_obj hM lkX6_3 wO1 wO2 (Nat.le_of_ble_eq_true rfl) (Nat.le_of_ble_eq_true rfl) dX6_init_1 ?_
  refine V_aln dX6_init_4 rfl ?_
  refine V_iconst (v := 0) rfl dX6_init_5 ?_
  refine V_putI dX6_init_6 flX6_9 (by first | assumption | (rw [a0]; assumption) | exact (a1 _).trans h1 | exact (a2 _).trans h1) rfl rfl ?_
  refine V_iconst (v := 0) rfl dX6_init_9 ?_
  refine V_iln dX6_init_10 rfl ?_
  refine V_max hM lkX6_15 wM1_max wM3 wM2_max (Nat.le_of_ble_eq_true rfl) (Nat.le_of_ble_eq_true rfl) (Nat.le_of_ble_eq_true rfl) (Nat.le_of_ble_eq_true rfl) dX6_init_11 ?_
  refine V_top (show (if (0 : Int32) < 20 then (20 : Int32) else 0) = 20 by decide) ?_
  refine V_is2 dX6_init_14 ?_
  refine V_aln dX6_init_15 rfl ?_
  refine V_iln dX6_init_16 rfl ?_
  refine V_newa (at0 := .int) (t := 0) (N := 20) hM ka_int rfl (by decide) (by decide) (by decide) (by decide) (Nat.le_of_ble_eq_true rfl) (Nat.le_of_ble_eq_true rfl) dX6_init_17 ?_
  refine V_putPF (o := some nx) hM dX6_init_19 flX6_21 (by first | assumption | (rw [a0]; assumption) | exact (a1 _).trans h1 | exact (a2 _).trans h1) rfl (ty := .array .int) (by decide +kernel) (Or.inr ⟨_, rfl⟩) rfl ?_
  refine V_aln dX6_init_22 rfl ?_
  refine V_iln dX6_init_23 rfl ?_
  refine V_newa (at0 := .int) (t := 0) (N := 20) hM ka_int rfl (by decide) (by decide) (by decide) (by decide) (Nat.le_of_ble_eq_true rfl) (Nat.le_of_ble_eq_true rfl) dX6_init_24 ?_
  refine V_putPF (o := some (nx + 1)) hM dX6_init_26 flX6_25 (by first | assumption | (rw [a0]; assumption) | exact (a1 _).trans h1 | exact (a2 _).trans h1) rfl (ty := .array .int) (by decide +kernel) (Or.inr ⟨_, rfl⟩) rfl ?_
  refine V_aln dX6_init_29 rfl ?_
  refine V_iln dX6_init_30 rfl ?_
  refine V_newa (at0 := .int) (t := 0) (N := 20) hM ka_int rfl (by decide) (by decide) (by decide) (by decide) (Nat.le_of_ble_eq_true rfl) (Nat.le_of_ble_eq_true rfl) dX6_init_31 ?_
  refine V_putPF (o := some (nx + 2)) hM dX6_init_33 flX6_28 (by first | assumption | (rw [a0]; assumption) | exact (a1 _).trans h1 | exact (a2 _).trans h1) rfl (ty := .array .int) (by decide +kernel) (Or.inr ⟨_, rfl⟩) rfl ?_
  exact V_vret hM dX6_init_36 (mDet.rf)
theorem e_X6_init30 {o : Nat} (hn1 : o ≠ nx + 1) (hn2 : o ≠ nx + 2) (h1 : sh o = some (.inl 6)) (hno : o ≠ nx) : Ev X B mdX6_init 3 90 [.ref (B + o), .int 30] nx sh I P (mDet none (nx + 3) (mUs (mUs (mUs sh nx (.inr (0, 30))) (nx + 1) (.inr (0, 30))) (nx + 2) (.inr (0, 30))) (mNI (mNI (mNI (mUp I o 3 0) nx) (nx + 1)) (nx + 2)) (mUp (mUp (mUp P o 0 (some nx)) o 1 (some (nx + 1))) o 2 (some (nx + 2)))) := by
  have a0 : ∀ z, mUs sh nx z o = sh o := fun z => by simp [mUs, hno]
  have a1 : ∀ z, mUs (mUs sh nx z) (nx + 1) z o = sh o := fun z => by simp [mUs, hno, hn1]
  have a2 : ∀ z, mUs (mUs (mUs sh nx z) (nx + 1) z) (nx + 2) z o = sh o := fun z => by simp [mUs, hno, hn1, hn2]
  refine Ev.of (by decide) (by simp [Value.category]) (by simp) (fun G hM => ?_)
  have hM : mM X B "<init>" none 1 21 3 90 _ G := hM
  show V X B RX6 cX6_init G 0 0 nx sh I P 0 [some (.ref (B + o)), some (.int 30), none] []
  refine V_aln dX6_init_0 rfl ?_
  refine V_obj hM lkX6_3 wO1 wO2 (Nat.le_of_ble_eq_true rfl) (Nat.le_of_ble_eq_true rfl) dX6_init_1 ?_
  refine V_aln dX6_init_4 rfl ?_
  refine V_iconst (v := 0) rfl dX6_init_5 ?_
  refine V_putI dX6_init_6 flX6_9 (by first | assumption | (rw [a0]; assumption) | exact (a1 _).trans h1 | exact (a2 _).trans h1) rfl rfl ?_
  refine V_iconst (v := 0) rfl dX6_init_9 ?_
  refine V_iln dX6_init_10 rfl ?_
  refine V_max hM lkX6_15 wM1_max wM3 wM2_max (Nat.le_of_ble_eq_true rfl) (Nat.le_of_ble_eq_true rfl) (Nat.le_of_ble_eq_true rfl) (Nat.le_of_ble_eq_true rfl) dX6_init_11 ?_
  refine V_top (show (if (0 : Int32) < 30 then (30 : Int32) else 0) = 30 by decide) ?_
  refine V_is2 dX6_init_14 ?_
  refine V_aln dX6_init_15 rfl ?_
  refine V_iln dX6_init_16 rfl ?_
  refine V_newa (at0 := .int) (t := 0) (N := 30) hM ka_int rfl (by decide) (by decide) (by decide) (by decide) (Nat.le_of_ble_eq_true rfl) (Nat.le_of_ble_eq_true rfl) dX6_init_17 ?_
  refine V_putPF (o := some nx) hM dX6_init_19 flX6_21 (by first | assumption | (rw [a0]; assumption) | exact (a1 _).trans h1 | exact (a2 _).trans h1) rfl (ty := .array .int) (by decide +kernel) (Or.inr ⟨_, rfl⟩) rfl ?_
  refine V_aln dX6_init_22 rfl ?_
  refine V_iln dX6_init_23 rfl ?_
  refine V_newa (at0 := .int) (t := 0) (N := 30) hM ka_int rfl (by decide) (by decide) (by decide) (by decide) (Nat.le_of_ble_eq_true rfl) (Nat.le_of_ble_eq_true rfl) dX6_init_24 ?_
  refine V_putPF (o := some (nx + 1)) hM dX6_init_26 flX6_25 (by first | assumption | (rw [a0]; assumption) | exact (a1 _).trans h1 | exact (a2 _).trans h1) rfl (ty := .array .int) (by decide +kernel) (Or.inr ⟨_, rfl⟩) rfl ?_
  refine V_aln dX6_init_29 rfl ?_
  refine V_iln dX6_init_30 rfl ?_
  refine V_newa (at0 := .int) (t := 0) (N := 30) hM ka_int rfl (by decide) (by decide) (by decide) (by decide) (Nat.le_of_ble_eq_true rfl) (Nat.le_of_ble_eq_true rfl) dX6_init_31 ?_
  refine V_putPF (o := some (nx + 2)) hM dX6_init_33 flX6_28 (by first | assumption | (rw [a0]; assumption) | exact (a1 _).trans h1 | exact (a2 _).trans h1) rfl (ty := .array .int) (by decide +kernel) (Or.inr ⟨_, rfl⟩) rfl ?_
  exact V_vret hM dX6_init_36 (mDet.rf)
theorem e_X9_init {o : Nat} (hn1 : o ≠ nx + 1) (h1 : sh o = some (.inl 9)) (hno : o ≠ nx) : Ev X B mdX9_init 2 9 [.ref (B + o)] nx sh I P (mDet none (nx + 2) (mUs (mUs sh nx (.inl 3)) (nx + 1) (.inr (0, 5))) (mUp (mUp (gwI (mNI (mUp (mUp I o 0 5) o 1 0) nx) nx (nx + 1) 0 0 0 0 0 0 0) o 3 0) o 4 0) (mUp (mUp (mNP P nx) nx 0 (some (nx + 1))) o 2 (some nx))) := by
  have a1 : mUs (mUs sh nx (.inl 3)) (nx + 1) (.inr (0, 5)) o = some (.inl 9) := by simp [mUs, hno, hn1, h1]
  have a2 : mUs sh nx (.inl 3) nx = some (.inl 3) := by simp [mUs]
  refine Ev.of (by decide) (by simp [Value.category]) (by simp) (fun G hM => ?_)
  have hM : mM X B "<init>" none 2 47 2 9 _ G := hM
  show V X B RX9 cX9_init G 0 0 nx sh I P 0 [some (.ref (B + o))] []
  refine V_aln dX9_init_0 rfl ?_
  refine V_obj hM lkX9_3 wO1 wO2 (Nat.le_of_ble_eq_true rfl) (Nat.le_of_ble_eq_true rfl) dX9_init_1 ?_
  refine V_aln dX9_init_4 rfl ?_
  refine V_iconst (v := 5) rfl dX9_init_5 ?_
  refine V_putI dX9_init_6 flX9_9 (by assumption) rfl rfl ?_
  refine V_aln dX9_init_9 rfl ?_
  refine V_iconst (v := 0) rfl dX9_init_10 ?_
  refine V_putI dX9_init_11 flX9_15 (by assumption) rfl rfl ?_
  refine V_aln dX9_init_14 rfl ?_
  refine V_new (ci := 3) hM (by decide) klX9_18 kt3 ki3 (fun _ => df3) (Nat.le_of_ble_eq_true rfl) (Nat.le_of_ble_eq_true rfl) dX9_init_15 ?_
  refine V_dup rfl dX9_init_18 ?_
  refine V_iconst (v := 0) rfl dX9_init_19 ?_
  refine V_iconst (v := 0) rfl dX9_init_20 ?_
  refine V_iconst (v := 0) rfl dX9_init_21 ?_
  refine V_iconst (v := 0) rfl dX9_init_22 ?_
  refine V_iconst (v := 0) rfl dX9_init_23 ?_
  refine V_iconst (v := 0) rfl dX9_init_24 ?_
  refine V_iconst (v := 0) rfl dX9_init_25 ?_
  refine V_cI7n hM cvX9_20 (e_X3_init a2 (by omega)) ⟨Nat.le_of_ble_eq_true rfl, Nat.le_of_ble_eq_true rfl, Nat.le_of_ble_eq_true rfl, Nat.le_of_ble_eq_true rfl⟩ (Nat.le_of_ble_eq_true rfl) dX9_init_26 ?_
  refine V_putP (o := some nx) dX9_init_29 flX9_23 (by assumption) rfl (ty := .object "GownCourt$Gown") (by decide +kernel) (Or.inl ⟨_, rfl⟩) ?_
  refine V_aln dX9_init_32 rfl ?_
  refine V_iconst (v := 0) rfl dX9_init_33 ?_
  refine V_putI dX9_init_34 flX9_27 (by assumption) rfl rfl ?_
  refine V_aln dX9_init_37 rfl ?_
  refine V_iconst (v := 0) rfl dX9_init_38 ?_
  refine V_putI dX9_init_39 flX9_30 (by assumption) rfl rfl ?_
  exact V_vret hM dX9_init_42 (mDet.rf)
theorem e_X5_init {o : Nat} (hn1 : o ≠ nx + 1) (hn2 : o ≠ nx + 1 + 1) (hn3 : o ≠ nx + 1 + 1 + 1) (h1 : sh o = some (.inl 5)) (hno : o ≠ nx) : Ev X B mdX5_init 4 820 [.ref (B + o)] nx sh I P (mDet none (nx + 4) (mUs (mUs (mUs (mUs sh nx (.inl 8)) (nx + 1) (.inr (1, 800))) (nx + 1 + 1) (.inl 0)) (nx + 1 + 1 + 1) (.inr (5, 12))) (mUp (mUp (mUp (mUp (mUp (mUp (mUp (mUp (mUp (mUp (mUp (mUp (mUp (inI (mNI (mUp (mNI (mNI I nx) (nx + 1)) nx 1 0) (nx + 1 + 1)) (nx + 1 + 1)) o 2 0) o 3 0) o 4 (-1)) o 5 0) o 6 0) o 7 0) o 8 0) o 9 0) o 10 0) o 11 0) o 12 0) o 13 9) o 14 3) (mUp (inP (mNP (mUp (mUp (mNP P nx) nx 0 (some (nx + 1))) o 0 (some nx)) (nx + 1 + 1)) (nx + 1 + 1) (nx + 1 + 1 + 1)) o 1 (some (nx + 1 + 1)))) := by
  have a0 : mUs (mUs sh nx (.inl 8)) (nx + 1) (.inr (1, 800)) o = some (.inl 5) := by simp [mUs, hno, hn1, h1]
  have a1 : mUs (mUs (mUs (mUs sh nx (.inl 8)) (nx + 1) (.inr (1, 800))) (nx + 1 + 1) (.inl 0)) (nx + 1 + 1 + 1) (.inr (5, 12)) o = some (.inl 5) := by simp [mUs, hno, hn1, hn2, hn3, h1]
  have a2 : mUs sh nx (.inl 8) nx = some (.inl 8) := by simp [mUs]
  have a3 : mUs (mUs (mUs sh nx (.inl 8)) (nx + 1) (.inr (1, 800))) (nx + 1 + 1) (.inl 0) (nx + 1 + 1) = some (.inl 0) := by simp [mUs]
  refine Ev.of (by decide) (by simp [Value.category]) (by simp) (fun G hM => ?_)
  have hM : mM X B "<init>" none 2 40 4 820 _ G := hM
  show V X B RX5 cX5_init G 0 0 nx sh I P 0 [some (.ref (B + o))] []
  refine V_aln dX5_init_0 rfl ?_
  refine V_obj hM lkX5_3 wO1 wO2 (Nat.le_of_ble_eq_true rfl) (Nat.le_of_ble_eq_true rfl) dX5_init_1 ?_
  refine V_aln dX5_init_4 rfl ?_
  refine V_new (ci := 8) hM (by decide) klX5_9 kt8 ki8 (fun _ => df8) (Nat.le_of_ble_eq_true rfl) (Nat.le_of_ble_eq_true rfl) dX5_init_5 ?_
  refine V_dup rfl dX5_init_8 ?_
  refine V_cI0n hM cvX5_11 (e_X8_init a2 (by omega)) ⟨Nat.le_of_ble_eq_true rfl, Nat.le_of_ble_eq_true rfl, Nat.le_of_ble_eq_true rfl, Nat.le_of_ble_eq_true rfl⟩ (Nat.le_of_ble_eq_true rfl) dX5_init_9 ?_
  refine V_putPF (o := some nx) hM dX5_init_12 flX5_12 (by assumption) rfl (ty := .object "GownCourt$Tape") (by decide +kernel) (Or.inl ⟨_, rfl⟩) rfl ?_
  refine V_aln dX5_init_15 rfl ?_
  refine V_new (ci := 0) hM (by decide) klX5_18 kt0 ki0 (fun _ => df0) (Nat.le_of_ble_eq_true rfl) (Nat.le_of_ble_eq_true rfl) dX5_init_16 ?_
  refine V_dup rfl dX5_init_19 ?_
  refine V_cI0n hM cvX5_20 (e_X0_init a3 (by omega)) ⟨Nat.le_of_ble_eq_true rfl, Nat.le_of_ble_eq_true rfl, Nat.le_of_ble_eq_true rfl, Nat.le_of_ble_eq_true rfl⟩ (Nat.le_of_ble_eq_true rfl) dX5_init_20 ?_
  refine V_putP (o := some (nx + 1 + 1)) dX5_init_23 flX5_21 (by assumption) rfl (ty := .object "GownCourt$Act") (by decide +kernel) (Or.inl ⟨_, rfl⟩) ?_
  refine V_aln dX5_init_26 rfl ?_
  refine V_iconst (v := 0) rfl dX5_init_27 ?_
  refine V_putI dX5_init_28 flX5_25 (by assumption) rfl rfl ?_
  refine V_aln dX5_init_31 rfl ?_
  refine V_iconst (v := 0) rfl dX5_init_32 ?_
  refine V_putI dX5_init_33 flX5_29 (by assumption) rfl rfl ?_
  refine V_aln dX5_init_36 rfl ?_
  refine V_iconst (v := -1) rfl dX5_init_37 ?_
  refine V_putI dX5_init_38 flX5_32 (by assumption) rfl rfl ?_
  refine V_aln dX5_init_41 rfl ?_
  refine V_iconst (v := 0) rfl dX5_init_42 ?_
  refine V_putI dX5_init_43 flX5_35 (by assumption) rfl rfl ?_
  refine V_aln dX5_init_46 rfl ?_
  refine V_iconst (v := 0) rfl dX5_init_47 ?_
  refine V_putI dX5_init_48 flX5_38 (by assumption) rfl rfl ?_
  refine V_aln dX5_init_51 rfl ?_
  refine V_iconst (v := 0) rfl dX5_init_52 ?_
  refine V_putI dX5_init_53 flX5_41 (by assumption) rfl rfl ?_
  refine V_aln dX5_init_56 rfl ?_
  refine V_iconst (v := 0) rfl dX5_init_57 ?_
  refine V_putI dX5_init_58 flX5_44 (by assumption) rfl rfl ?_
  refine V_aln dX5_init_61 rfl ?_
  refine V_iconst (v := 0) rfl dX5_init_62 ?_
  refine V_putI dX5_init_63 flX5_47 (by assumption) rfl rfl ?_
  refine V_aln dX5_init_66 rfl ?_
  refine V_iconst (v := 0) rfl dX5_init_67 ?_
  refine V_putI dX5_init_68 flX5_50 (by assumption) rfl rfl ?_
  refine V_aln dX5_init_71 rfl ?_
  refine V_iconst (v := 0) rfl dX5_init_72 ?_
  refine V_putI dX5_init_73 flX5_53 (by assumption) rfl rfl ?_
  refine V_aln dX5_init_76 rfl ?_
  refine V_iconst (v := 0) rfl dX5_init_77 ?_
  refine V_putI dX5_init_78 flX5_56 (by assumption) rfl rfl ?_
  refine V_aln dX5_init_81 rfl ?_
  refine V_bipush (v := 9) rfl dX5_init_82 ?_
  refine V_putI dX5_init_84 flX5_59 (by assumption) rfl rfl ?_
  refine V_aln dX5_init_87 rfl ?_
  refine V_iconst (v := 3) rfl dX5_init_88 ?_
  refine V_putI dX5_init_89 flX5_62 (by assumption) rfl rfl ?_
  exact V_vret hM dX5_init_92 (mDet.rf)
end CO
