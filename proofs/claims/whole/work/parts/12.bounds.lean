/-! ===== bounds ===== -/
def mFill (I : mI) (c n : Nat) (v : Int32) : mI := fun c' k => if c' = c ∧ k < n then v else I c' k
theorem mFill_0 {I : mI} {c : Nat} {v : Int32} (c' k : Nat) : I c' k = mFill I c 0 v c' k := by
  unfold mFill
  rw [if_neg (by omega)]
theorem mFill_s {I : mI} {c n : Nat} {v : Int32} (c' k : Nat) : mUp (mFill I c n v) c n v c' k = mFill I c (n + 1) v c' k := by
  unfold mUp mFill
  by_cases h : c' = c ∧ k = n
  · rw [if_pos h, if_pos (by omega)]
  · rw [if_neg h]
    by_cases h2 : c' = c ∧ k < n
    · rw [if_pos h2, if_pos (by omega)]
    · rw [if_neg h2, if_neg (by omega)]
def minF (x y : Int32) : Int32 := if y < x then y else x
def BndAt (sh : Nat → Option mSh) (P : mP) (b lm : Nat) : Prop := sh b = some (.inl 1) ∧ P b 0 = some lm ∧ sh lm = some (.inr (0, 5))
def openM (I : mI) (b lm : Nat) : mI := mUp (mUp (mFill I lm 5 9999) b 1 0) b 2 0
def lowM (I : mI) (lm : Nat) (k lim : Int32) : mI := if inB k 5 then mUp I lm k.toNatClampNeg (minF (I lm k.toNatClampNeg) lim) else I
def nrwM (I : mI) (b lm : Nat) (k lim : Int32) : mI := if k = 5 then mUp I b 1 (I b 1 ||| (1 <<< (lim &&& 31))) else if k = 6 then mUp I b 2 (I b 2 ||| (1 <<< (lim &&& 31))) else if k = 7 then mUp I b 2 (I b 2 ||| ((1 <<< (lim &&& 31)) ^^^ -1)) else lowM I lm k lim
def narM (I : mI) (P : mP) (b lm w rl : Nat) : Nat → mI
  | 0 => I
  | r + 1 => if rcF I w (pg P rl r) then nrwM (narM I P b lm w rl r) b lm (I (pg P rl r) 0) (I (pg P rl r) 1) else narM I P b lm w rl r
theorem nrwM_o {I : mI} {b lm : Nat} {k lim : Int32} {c j : Nat} (h1 : c ≠ b) (h2 : c ≠ lm) : nrwM I b lm k lim c j = I c j := by
  unfold nrwM lowM
  split
  · exact mUp_c h1
  · split
    · exact mUp_c h1
    · split
      · exact mUp_c h1
      · split
        · exact mUp_c h2
        · rfl
theorem narM_o {I : mI} {P : mP} {b lm w rl : Nat} {c j : Nat} (h1 : c ≠ b) (h2 : c ≠ lm) : ∀ r, narM I P b lm w rl r c j = I c j := by
  intro r
  induction r with
  | zero => rfl
  | succ r ih =>
    unfold narM
    split
    · rw [nrwM_o h1 h2, ih]
    · exact ih
theorem openM_o {I : mI} {b lm c j : Nat} (h1 : c ≠ b) (h2 : c ≠ lm) : openM I b lm c j = I c j := by simp [openM, mUp, mFill, h1, h2]
theorem ActAt.mem {sh : Nat → Option mSh} {I I' : mI} {P : mP} {o rl m : Nat} (h : ActAt sh I P o rl m) (e : I' o 2 = I o 2) : ActAt sh I' P o rl m := ⟨h.1, h.2.1, h.2.2.1, by rw [e]; exact h.2.2.2.1, h.2.2.2.2⟩
section BD
variable {X : mX} {B nx : Nat} {sh : Nat → Option mSh} {I : mI} {P : mP}
theorem l_J7_fill {G : mG} {c n : Nat} {v : Int32} (h1 : sh c = some (.inr (0, n))) (hn : n ≤ 1000) (hM : mM X B "fill" none 0 0 0 0 (mDet none nx sh (mFill I c n v) P) G) : ∀ (z i : Nat), i ≤ n → n - i < z → V X B RJ7 cJ7_fill_53178 G 0 0 nx sh (mFill I c i v) P 5 [some (.ref (B + c)), some (.int v), some (.int (nI i)), some (.int (nI n))] [] := by
  intro z
  induction z with
  | zero => intro i _ h; omega
  | succ z ih =>
    intro i hi hz
    refine V_iln dJ7_fill_53178_5 rfl ?_
    refine V_iln dJ7_fill_53178_6 rfl ?_
    refine V_icmp_ge (tgt := 20) dJ7_fill_53178_7 rfl (fun c7 => ?_) (fun c7 => ?_)
    · have c7 := nN_le c7 (by omega) (by omega)
      obtain rfl : i = n := by omega
      exact V_vret hM dJ7_fill_53178_20 (mDet.rf)
    · have c7 := nN_nle c7 (by omega) (by omega)
      refine V_aln dJ7_fill_53178_10 rfl ?_
      refine V_iln dJ7_fill_53178_11 rfl ?_
      refine V_iln dJ7_fill_53178_12 rfl ?_
      refine V_iastN dJ7_fill_53178_13 (by assumption) (by omega) (by omega) ?_
      refine V_inc2 dJ7_fill_53178_14 ?_
      refine V_goto (tgt := 5) dJ7_fill_53178_17 rfl ?_
      refine V_mem mFill_s (fun _ _ => rfl) ?_
      rw [nI_inc]
      exact ih (i + 1) (by omega) (by omega)
theorem e_J7_fill {c n : Nat} {v : Int32} (h1 : sh c = some (.inr (0, n))) (hn : n ≤ 1000) : Ev X B mdJ7_fill_53178 0 0 [.ref (B + c), .int v] nx sh I P (mDet none nx sh (mFill I c n v) P) := by
  refine Ev.of (by decide) (by simp [Value.category]) (by simp) (fun G hM => ?_)
  have hM : mM X B "fill" none 0 0 0 0 _ G := hM
  show V X B RJ7 cJ7_fill_53178 G 0 0 nx sh I P 0 [some (.ref (B + c)), some (.int v), none, none] []
  refine V_mem (mFill_0 (c := c) (v := v)) (fun _ _ => rfl) ?_
  refine V_iconst (v := 0) rfl dJ7_fill_53178_0 ?_
  refine V_is2 dJ7_fill_53178_1 ?_
  refine V_aln dJ7_fill_53178_2 rfl ?_
  refine V_alen dJ7_fill_53178_3 (by assumption) rfl ?_
  refine V_is3 dJ7_fill_53178_4 ?_
  exact l_J7_fill h1 hn hM (n + 1) 0 (by omega) (by omega)
theorem e_X1_open {b lm : Nat} (hB : BndAt sh P b lm) : Ev X B mdX1_open 0 0 [.ref (B + b)] nx sh I P (mDet none nx sh (openM I b lm) P) := by
  obtain ⟨h1, h2, h3⟩ := hB
  refine Ev.of (by decide) (by simp [Value.category]) (by simp) (fun G hM => ?_)
  have hM : mM X B "open" none 1 23 0 0 _ G := hM
  show V X B RX1 cX1_open G 0 0 nx sh I P 0 [some (.ref (B + b))] []
  refine V_aln dX1_open_0 rfl ?_
  refine V_getR dX1_open_1 flX1_9 (by assumption) rfl (by assumption) ?_
  refine V_sipush (v := 9999) rfl dX1_open_4 ?_
  refine V_cS2n hM cvX1_22 (e_J7_fill h3 (by omega)) ⟨Nat.le_of_ble_eq_true rfl, Nat.le_of_ble_eq_true rfl, Nat.le_of_ble_eq_true rfl, Nat.le_of_ble_eq_true rfl⟩ (Nat.le_of_ble_eq_true rfl) dX1_open_7 ?_
  refine V_aln dX1_open_10 rfl ?_
  refine V_iconst (v := 0) rfl dX1_open_11 ?_
  refine V_putI dX1_open_12 flX1_15 (by assumption) rfl rfl ?_
  refine V_aln dX1_open_15 rfl ?_
  refine V_iconst (v := 0) rfl dX1_open_16 ?_
  refine V_putI dX1_open_17 flX1_19 (by assumption) rfl rfl ?_
  exact V_vret hM dX1_open_20 (mDet.rf)
theorem e_X1_lower {b lm : Nat} {k lim : Int32} (hB : BndAt sh P b lm) : Ev X B mdX1_lower 0 0 [.ref (B + b), .int k, .int lim] nx sh I P (mDet none nx sh (lowM I lm k lim) P) := by
  obtain ⟨h1, h2, h3⟩ := hB
  refine Ev.of (by decide) (by simp [Value.category]) (by simp) (fun G hM => ?_)
  have hM : mM X B "lower" none 1 21 0 0 _ G := hM
  show V X B RX1 cX1_lower G 0 0 nx sh I P 0 [some (.ref (B + b)), some (.int k), some (.int lim)] []
  refine V_iln dX1_lower_0 rfl ?_
  refine V_if_lt (tgt := 29) dX1_lower_1 rfl (fun c1 => ?_) (fun c1 => ?_)
  · have hb : inB k 5 = false := inB_f (by rw [i_lt] at c1; simp at c1; omega)
    exact V_vret hM dX1_lower_29 (⟨rfl, rfl, rfl, by simp [lowM, hb, minF], rfl⟩)
  · refine V_iln dX1_lower_4 rfl ?_
    refine V_aln dX1_lower_5 rfl ?_
    refine V_getR dX1_lower_6 flX1_9 (by assumption) rfl (by assumption) ?_
    refine V_alen dX1_lower_9 (by assumption) rfl ?_
    refine V_icmp_ge (tgt := 29) dX1_lower_10 rfl (fun c10 => ?_) (fun c10 => ?_)
    · have hb : inB k 5 = false := inB_f (by rw [i_le] at c10; have : (5 : Int) ≤ k.toInt := c10; omega)
      exact V_vret hM dX1_lower_29 (⟨rfl, rfl, rfl, by simp [lowM, hb, minF], rfl⟩)
    · have hb : inB k 5 = true := inB_iff.mpr (by rw [i_le] at c10; rw [i_lt] at c1; have : ¬ (5 : Int) ≤ k.toInt := c10; simp at c1; omega)
      refine V_aln dX1_lower_13 rfl ?_
      refine V_getR dX1_lower_14 flX1_9 (by assumption) rfl (by assumption) ?_
      refine V_iln dX1_lower_17 rfl ?_
      refine V_aln dX1_lower_18 rfl ?_
      refine V_getR dX1_lower_19 flX1_9 (by assumption) rfl (by assumption) ?_
      refine V_iln dX1_lower_22 rfl ?_
      refine V_iald dX1_lower_23 (by assumption) (inB_in hb) ?_
      refine V_iln dX1_lower_24 rfl ?_
      refine V_min hM lkX1_40 wM1_min wM3 wM2_min (Nat.le_of_ble_eq_true rfl) (Nat.le_of_ble_eq_true rfl) (Nat.le_of_ble_eq_true rfl) (Nat.le_of_ble_eq_true rfl) dX1_lower_25 ?_
      refine V_iast dX1_lower_28 (by assumption) (inB_in hb) ?_
      exact V_vret hM dX1_lower_29 (⟨rfl, rfl, rfl, by simp [lowM, hb, minF], rfl⟩)
theorem e_X1_narrow {b lm o : Nat} (hB : BndAt sh P b lm) (ho : sh o = some (.inl 7)) : Ev X B mdX1_narrow 0 0 [.ref (B + b), .ref (B + o)] nx sh I P (mDet none nx sh (nrwM I b lm (I o 0) (I o 1)) P) := by
  obtain ⟨h1, h2, h3⟩ := id hB
  refine Ev.of (by decide) (by simp [Value.category]) (by simp) (fun G hM => ?_)
  have hM : mM X B "narrow" none 2 43 0 0 _ G := hM
  show V X B RX1 cX1_narrow G 0 0 nx sh I P 0 [some (.ref (B + b)), some (.ref (B + o))] []
  have hne : (I o 0).toInt < 5 ∨ 7 < (I o 0).toInt → ¬ I o 0 = 5 ∧ ¬ I o 0 = 6 ∧ ¬ I o 0 = 7 := by
    intro h
    refine ⟨?_, ?_, ?_⟩ <;> intro e <;> rw [e] at h <;> revert h <;> decide
  refine V_aln dX1_narrow_0 rfl ?_
  refine V_getI dX1_narrow_1 flX1_28 (by assumption) rfl ?_
  refine V_tsw_5_7 (td := 88) (t0 := 32) (t1 := 50) (t2 := 68) dX1_narrow_4 rfl rfl rfl rfl (fun c4 => ?_) (fun c4 => ?_) (fun c4 => ?_) (fun c4 => ?_)
  · refine V_aln dX1_narrow_88 rfl ?_
    refine V_aln dX1_narrow_89 rfl ?_
    refine V_getI dX1_narrow_90 flX1_28 (by assumption) rfl ?_
    refine V_aln dX1_narrow_93 rfl ?_
    refine V_getI dX1_narrow_94 flX1_33 (by assumption) rfl ?_
    refine V_cV2n hM cvX1_36 (by assumption) rfl (e_X1_lower hB) ⟨Nat.le_of_ble_eq_true rfl, Nat.le_of_ble_eq_true rfl, Nat.le_of_ble_eq_true rfl, Nat.le_of_ble_eq_true rfl⟩ (Nat.le_of_ble_eq_true rfl) dX1_narrow_97 ?_
    exact V_vret hM dX1_narrow_100 (⟨rfl, rfl, rfl, by first | (simp [nrwM, c4]; done) | (obtain ⟨e1, e2, e3⟩ := hne c4; simp [nrwM, e1, e2, e3]), rfl⟩)
  · refine V_aln dX1_narrow_32 rfl ?_
    refine V_dup rfl dX1_narrow_33 ?_
    refine V_getI dX1_narrow_34 flX1_15 (by assumption) rfl ?_
    refine V_iconst (v := 1) rfl dX1_narrow_37 ?_
    refine V_aln dX1_narrow_38 rfl ?_
    refine V_getI dX1_narrow_39 flX1_33 (by assumption) rfl ?_
    refine V_ishl dX1_narrow_42 ?_
    refine V_ior dX1_narrow_43 ?_
    refine V_putI dX1_narrow_44 flX1_15 (by assumption) rfl rfl ?_
    refine V_goto (tgt := 100) dX1_narrow_47 rfl ?_
    exact V_vret hM dX1_narrow_100 (⟨rfl, rfl, rfl, by first | (simp [nrwM, c4]; done) | (obtain ⟨e1, e2, e3⟩ := hne c4; simp [nrwM, e1, e2, e3]), rfl⟩)
  · refine V_aln dX1_narrow_50 rfl ?_
    refine V_dup rfl dX1_narrow_51 ?_
    refine V_getI dX1_narrow_52 flX1_19 (by assumption) rfl ?_
    refine V_iconst (v := 1) rfl dX1_narrow_55 ?_
    refine V_aln dX1_narrow_56 rfl ?_
    refine V_getI dX1_narrow_57 flX1_33 (by assumption) rfl ?_
    refine V_ishl dX1_narrow_60 ?_
    refine V_ior dX1_narrow_61 ?_
    refine V_putI dX1_narrow_62 flX1_19 (by assumption) rfl rfl ?_
    refine V_goto (tgt := 100) dX1_narrow_65 rfl ?_
    exact V_vret hM dX1_narrow_100 (⟨rfl, rfl, rfl, by first | (simp [nrwM, c4]; done) | (obtain ⟨e1, e2, e3⟩ := hne c4; simp [nrwM, e1, e2, e3]), rfl⟩)
  · refine V_aln dX1_narrow_68 rfl ?_
    refine V_dup rfl dX1_narrow_69 ?_
    refine V_getI dX1_narrow_70 flX1_19 (by assumption) rfl ?_
    refine V_iconst (v := 1) rfl dX1_narrow_73 ?_
    refine V_aln dX1_narrow_74 rfl ?_
    refine V_getI dX1_narrow_75 flX1_33 (by assumption) rfl ?_
    refine V_ishl dX1_narrow_78 ?_
    refine V_iconst (v := -1) rfl dX1_narrow_79 ?_
    refine V_ixor dX1_narrow_80 ?_
    refine V_ior dX1_narrow_81 ?_
    refine V_putI dX1_narrow_82 flX1_19 (by assumption) rfl rfl ?_
    refine V_goto (tgt := 100) dX1_narrow_85 rfl ?_
    exact V_vret hM dX1_narrow_100 (⟨rfl, rfl, rfl, by first | (simp [nrwM, c4]; done) | (obtain ⟨e1, e2, e3⟩ := hne c4; simp [nrwM, e1, e2, e3]), rfl⟩)
theorem e_X1_limitOf {b lm : Nat} {k : Int32} (hB : BndAt sh P b lm) : Ev X B mdX1_limitOf 0 0 [.ref (B + b), .int k] nx sh I P (mDet (some (.int (if inB k 5 then I lm k.toNatClampNeg else 9999))) nx sh I P) := by
  obtain ⟨h1, h2, h3⟩ := hB
  refine Ev.of (by decide) (by simp [Value.category]) (by simp) (fun G hM => ?_)
  have hM : mM X B "limitOf" (some FieldType.int) 0 0 0 0 _ G := hM
  show V X B RX1 cX1_limitOf G 0 0 nx sh I P 0 [some (.ref (B + b)), some (.int k)] []
  refine V_iln dX1_limitOf_0 rfl ?_
  refine V_if_lt (tgt := 22) dX1_limitOf_1 rfl (fun c1 => ?_) (fun c1 => ?_)
  · have hb : inB k 5 = false := inB_f (by rw [i_lt] at c1; simp at c1; omega)
    refine V_sipush (v := 9999) rfl dX1_limitOf_22 ?_
    exact V_iret hM dX1_limitOf_25 (⟨by simp [hb], rfl, rfl, rfl, rfl⟩)
  · refine V_iln dX1_limitOf_4 rfl ?_
    refine V_aln dX1_limitOf_5 rfl ?_
    refine V_getR dX1_limitOf_6 flX1_9 (by assumption) rfl (by assumption) ?_
    refine V_alen dX1_limitOf_9 (by assumption) rfl ?_
    refine V_icmp_ge (tgt := 22) dX1_limitOf_10 rfl (fun c10 => ?_) (fun c10 => ?_)
    · have hb : inB k 5 = false := inB_f (by rw [i_le] at c10; have : (5 : Int) ≤ k.toInt := c10; omega)
      refine V_sipush (v := 9999) rfl dX1_limitOf_22 ?_
      exact V_iret hM dX1_limitOf_25 (⟨by simp [hb], rfl, rfl, rfl, rfl⟩)
    · have hb : inB k 5 = true := inB_iff.mpr (by rw [i_le] at c10; rw [i_lt] at c1; have : ¬ (5 : Int) ≤ k.toInt := c10; simp at c1; omega)
      refine V_aln dX1_limitOf_13 rfl ?_
      refine V_getR dX1_limitOf_14 flX1_9 (by assumption) rfl (by assumption) ?_
      refine V_iln dX1_limitOf_17 rfl ?_
      refine V_iald dX1_limitOf_18 (by assumption) (inB_in hb) ?_
      refine V_goto (tgt := 25) dX1_limitOf_19 rfl ?_
      exact V_iret hM dX1_limitOf_25 (⟨by simp [hb], rfl, rfl, rfl, rfl⟩)
theorem e_X1_leavesStuff {b lm : Nat} {x : Int32} (hB : BndAt sh P b lm) : Ev X B mdX1_leavesStuff 0 0 [.ref (B + b), .int x] nx sh I P (mDet (some (.int (bI (decide (mUshr (I b 1) x &&& 1 = 0))))) nx sh I P) := by
  obtain ⟨h1, h2, h3⟩ := hB
  refine Ev.of (by decide) (by simp [Value.category]) (by simp) (fun G hM => ?_)
  have hM : mM X B "leavesStuff" (some FieldType.boolean) 0 0 0 0 _ G := hM
  show V X B RX1 cX1_leavesStuff G 0 0 nx sh I P 0 [some (.ref (B + b)), some (.int x)] []
  refine V_aln dX1_leavesStuff_0 rfl ?_
  refine V_getI dX1_leavesStuff_1 flX1_15 (by assumption) rfl ?_
  refine V_iln dX1_leavesStuff_4 rfl ?_
  refine V_iushr dX1_leavesStuff_5 ?_
  refine V_iconst (v := 1) rfl dX1_leavesStuff_6 ?_
  refine V_iand dX1_leavesStuff_7 ?_
  refine V_if_ne (tgt := 15) dX1_leavesStuff_8 rfl (fun c8 => ?_) (fun c8 => ?_)
  · refine V_iconst (v := 0) rfl dX1_leavesStuff_15 ?_
    exact V_zret hM (by first | exact Or.inl rfl | exact Or.inr rfl | exact bI_01 _) dX1_leavesStuff_16 (⟨by simp [bI, c8], rfl, rfl, rfl, rfl⟩)
  · refine V_iconst (v := 1) rfl dX1_leavesStuff_11 ?_
    refine V_goto (tgt := 16) dX1_leavesStuff_12 rfl ?_
    exact V_zret hM (by first | exact Or.inl rfl | exact Or.inr rfl | exact bI_01 _) dX1_leavesStuff_16 (⟨by simp [bI, c8], rfl, rfl, rfl, rfl⟩)
theorem e_X1_leavesColour {b lm : Nat} {x : Int32} (hB : BndAt sh P b lm) : Ev X B mdX1_leavesColour 0 0 [.ref (B + b), .int x] nx sh I P (mDet (some (.int (bI (decide (mUshr (I b 2) x &&& 1 = 0))))) nx sh I P) := by
  obtain ⟨h1, h2, h3⟩ := hB
  refine Ev.of (by decide) (by simp [Value.category]) (by simp) (fun G hM => ?_)
  have hM : mM X B "leavesColour" (some FieldType.boolean) 0 0 0 0 _ G := hM
  show V X B RX1 cX1_leavesColour G 0 0 nx sh I P 0 [some (.ref (B + b)), some (.int x)] []
  refine V_aln dX1_leavesColour_0 rfl ?_
  refine V_getI dX1_leavesColour_1 flX1_19 (by assumption) rfl ?_
  refine V_iln dX1_leavesColour_4 rfl ?_
  refine V_iushr dX1_leavesColour_5 ?_
  refine V_iconst (v := 1) rfl dX1_leavesColour_6 ?_
  refine V_iand dX1_leavesColour_7 ?_
  refine V_if_ne (tgt := 15) dX1_leavesColour_8 rfl (fun c8 => ?_) (fun c8 => ?_)
  · refine V_iconst (v := 0) rfl dX1_leavesColour_15 ?_
    exact V_zret hM (by first | exact Or.inl rfl | exact Or.inr rfl | exact bI_01 _) dX1_leavesColour_16 (⟨by simp [bI, c8], rfl, rfl, rfl, rfl⟩)
  · refine V_iconst (v := 1) rfl dX1_leavesColour_11 ?_
    refine V_goto (tgt := 16) dX1_leavesColour_12 rfl ?_
    exact V_zret hM (by first | exact Or.inl rfl | exact Or.inr rfl | exact bI_01 _) dX1_leavesColour_16 (⟨by simp [bI, c8], rfl, rfl, rfl, rfl⟩)
theorem l_X0_narrow {G : mG} {o rl m w b lm : Nat} (hA : ActAt sh I P o rl m) (hw : sh w = some (.inl 9)) (hB : BndAt sh P b lm) (hM : mM X B "narrow" none 3 64 0 0 (mDet none nx sh (narM I P b lm w rl m) P) G) : ∀ (z i : Nat) (o4 : Option Value), i ≤ m → m - i < z → V X B RX0 cX0_narrow G 0 0 nx sh (narM I P b lm w rl i) P 2 [some (.ref (B + o)), some (.ref (B + b)), some (.ref (B + w)), some (.int (nI i)), o4] [] := by
  obtain ⟨h1, h2, h3, h4, h5, h6⟩ := id hA
  have no1 : o ≠ b := sh_ne h1 hB.1 (by decide)
  have no2 : o ≠ lm := sh_ne h1 hB.2.2 shn_oi
  have nw1 : w ≠ b := sh_ne hw hB.1 (by decide)
  have nw2 : w ≠ lm := sh_ne hw hB.2.2 shn_oi
  have hAi : ∀ i, ActAt sh (narM I P b lm w rl i) P o rl m := fun i => hA.mem (narM_o no1 no2 i)
  have hbc : sh b = some (.inl 1) := hB.1
  intro z
  induction z with
  | zero => intro i _ _ h; omega
  | succ z ih =>
    intro i o4 hi hz
    refine V_iln dX0_narrow_2 rfl ?_
    refine V_aln dX0_narrow_3 rfl ?_
    refine V_getIv dX0_narrow_4 flX0_21 (by assumption) rfl ((hAi i).2.2.2.1) ?_
    refine V_icmp_ge (tgt := 43) dX0_narrow_7 rfl (fun c7 => ?_) (fun c7 => ?_)
    · have c7 := nN_le c7 (by omega) (by omega)
      obtain rfl : i = m := by omega
      exact V_vret hM dX0_narrow_43 (mDet.rf)
    · have c7 := nN_nle c7 (by omega) (by omega)
      have hr := (h6 i c7).2
      have nr1 : pg P rl i ≠ b := sh_ne hr hB.1 (by decide)
      have nr2 : pg P rl i ≠ lm := sh_ne hr hB.2.2 shn_oi
      have hc : rcF (narM I P b lm w rl i) w (pg P rl i) = rcF I w (pg P rl i) := by simp [rcF, narM_o nr1 nr2, narM_o nw1 nw2]
      refine V_aln dX0_narrow_10 rfl ?_
      refine V_iln dX0_narrow_11 rfl ?_
      refine V_cV1d hM cvX0_57 (by assumption) rfl (e_X0_findRule (hAi i) c7) ⟨Nat.le_of_ble_eq_true rfl, Nat.le_of_ble_eq_true rfl, Nat.le_of_ble_eq_true rfl, Nat.le_of_ble_eq_true rfl⟩ (Nat.le_of_ble_eq_true rfl) dX0_narrow_12 ?_
      refine V_as4 dX0_narrow_15 ?_
      refine V_al dX0_narrow_17 rfl ?_
      refine V_ifnull dX0_narrow_19 ?_
      refine V_al dX0_narrow_22 rfl ?_
      refine V_aln dX0_narrow_24 rfl ?_
      refine V_cV1d hM cvX0_61 (by assumption) rfl (e_X7_concerns hr hw) ⟨Nat.le_of_ble_eq_true rfl, Nat.le_of_ble_eq_true rfl, Nat.le_of_ble_eq_true rfl, Nat.le_of_ble_eq_true rfl⟩ (Nat.le_of_ble_eq_true rfl) dX0_narrow_25 ?_
      rw [hc]
      refine V_ifeq_b (tgt := 37) dX0_narrow_28 rfl (fun c28 => ?_) (fun c28 => ?_)
      · refine V_inc3 dX0_narrow_37 ?_
        refine V_goto (tgt := 2) dX0_narrow_40 rfl ?_
        rw [nI_inc]
        have h9 := ih (i + 1) (some (.ref (B + pg P rl i))) (by omega) (by omega)
        simp only [narM, c28, if_true, Bool.false_eq_true, if_false] at h9
        try simp only [narM_o nr1 nr2]
        exact h9
      · refine V_aln dX0_narrow_31 rfl ?_
        refine V_al dX0_narrow_32 rfl ?_
        refine V_cV1n hM cvX0_71 (by assumption) rfl (e_X1_narrow hB hr) ⟨Nat.le_of_ble_eq_true rfl, Nat.le_of_ble_eq_true rfl, Nat.le_of_ble_eq_true rfl, Nat.le_of_ble_eq_true rfl⟩ (Nat.le_of_ble_eq_true rfl) dX0_narrow_34 ?_
        refine V_inc3 dX0_narrow_37 ?_
        refine V_goto (tgt := 2) dX0_narrow_40 rfl ?_
        rw [nI_inc]
        have h9 := ih (i + 1) (some (.ref (B + pg P rl i))) (by omega) (by omega)
        simp only [narM, c28, if_true, Bool.false_eq_true, if_false] at h9
        try simp only [narM_o nr1 nr2]
        exact h9
theorem e_X0_narrow {o rl m w b lm : Nat} (hA : ActAt sh I P o rl m) (hw : sh w = some (.inl 9)) (hB : BndAt sh P b lm) : Ev X B mdX0_narrow 0 0 [.ref (B + o), .ref (B + b), .ref (B + w)] nx sh I P (mDet none nx sh (narM I P b lm w rl m) P) := by
  refine Ev.of (by decide) (by simp [Value.category]) (by simp) (fun G hM => ?_)
  have hM : mM X B "narrow" none 3 64 0 0 _ G := hM
  show V X B RX0 cX0_narrow G 0 0 nx sh I P 0 [some (.ref (B + o)), some (.ref (B + b)), some (.ref (B + w)), none, none] []
  refine V_iconst (v := 0) rfl dX0_narrow_0 ?_
  refine V_is3 dX0_narrow_1 ?_
  exact l_X0_narrow hA hw hB hM (m + 1) 0 none (by omega) (by omega)
end BD
