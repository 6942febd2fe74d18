/-! ===== Rows and Tape ===== -/
def rHeld (K D U : Nat → Int32) (key day oth : Int32) : Nat → Int32 × Int32
  | 0 => (oth, -1)
  | i + 1 => if K i = key ∧ D i ≤ day ∧ (rHeld K D U key day oth i).2 ≤ D i then (U i, D i) else rHeld K D U key day oth i
def rSpan (K D U : Nat → Int32) (key day : Int32) (i : Nat) : Bool := decide (K i = key) && decide (D i ≤ day) && decide (day ≤ U i)
theorem i_nlt {a b : Int32} (h : ¬ a < b) : b ≤ a := by rw [i_lt] at h; rw [i_le]; omega
theorem i_nle {a b : Int32} (h : ¬ a ≤ b) : b < a := by rw [i_le] at h; rw [i_lt]; omega
theorem i_lt_nle {a b : Int32} (h : a < b) : ¬ b ≤ a := by rw [i_lt] at h; rw [i_le]; omega
theorem i_le_nlt {a b : Int32} (h : b ≤ a) : ¬ a < b := by rw [i_le] at h; rw [i_lt]; omega
theorem sh_ne {sh : Nat → Option mSh} {a b : Nat} {x y : mSh} (h1 : sh a = some x) (h2 : sh b = some y) (h : x ≠ y) : a ≠ b := by
  intro e
  subst e
  exact h (Option.some.inj (h1.symm.trans h2))
theorem shn_oi {ci : Nat} {q : Nat × Nat} : (Sum.inl ci : mSh) ≠ .inr q := fun h => by cases h
theorem shn_io {ci : Nat} {q : Nat × Nat} : (Sum.inr q : mSh) ≠ .inl ci := fun h => by cases h
section RW
variable {X : mX} {B nx : Nat} {sh : Nat → Option mSh} {I : mI} {P : mP}
theorem l_X6_heldOn {G : mG} {a k d u room n : Nat} {key day oth : Int32} (hR : RowsAt sh I P a k d u room n) (hM : mM X B "heldOn" (some .int) 0 0 0 0 (mDet (some (.int (rHeld (I k) (I d) (I u) key day oth n).1)) nx sh I P) G) : ∀ (z i : Nat), i ≤ n → n - i < z → V X B RX6 cX6_heldOn G 0 0 nx sh I P 9 [some (.ref (B + a)), some (.int key), some (.int day), some (.int oth), some (.int (rHeld (I k) (I d) (I u) key day oth i).1), some (.int (rHeld (I k) (I d) (I u) key day oth i).2), some (.int (nI i))] [] := by
  obtain ⟨h1, h2, h21, h22, h3, h31, h32, h4, h5, h6⟩ := hR
  intro z
  induction z with
  | zero => intro i _ h; omega
  | succ z ih =>
    intro i hi hz
    refine V_il dX6_heldOn_9 rfl ?_
    refine V_aln dX6_heldOn_11 rfl ?_
    refine V_getIv dX6_heldOn_12 flX6_9 (by assumption) rfl (h4) ?_
    refine V_icmp_ge (tgt := 76) dX6_heldOn_15 rfl (fun c15 => ?_) (fun c15 => ?_)
    · have c15 := nN_le c15 (by omega) (by omega)
      obtain rfl : i = n := by omega
      refine V_il dX6_heldOn_76 rfl ?_
      exact V_iret hM dX6_heldOn_78 (mDet.rf)
    · have c15 := nN_nle c15 (by omega) (by omega)
      refine V_aln dX6_heldOn_18 rfl ?_
      refine V_getR dX6_heldOn_19 flX6_21 (by assumption) rfl (by assumption) ?_
      refine V_il dX6_heldOn_22 rfl ?_
      refine V_ialdN dX6_heldOn_24 (by assumption) (by omega) (by omega) ?_
      refine V_iln dX6_heldOn_25 rfl ?_
      refine V_icmp_ne (tgt := 70) dX6_heldOn_26 rfl (fun c26 => ?_) (fun c26 => ?_)
      · refine V_inc6 dX6_heldOn_70 ?_
        refine V_goto (tgt := 9) dX6_heldOn_73 rfl ?_
        refine V_ls ?_ (ih (i + 1) (by omega) (by omega))
        simp [nI_inc, nI_inc', rHeld, c15, c26]
      · refine V_aln dX6_heldOn_29 rfl ?_
        refine V_getR dX6_heldOn_30 flX6_25 (by assumption) rfl (by assumption) ?_
        refine V_il dX6_heldOn_33 rfl ?_
        refine V_ialdN dX6_heldOn_35 (by assumption) (by omega) (by omega) ?_
        refine V_iln dX6_heldOn_36 rfl ?_
        refine V_icmp_gt (tgt := 70) dX6_heldOn_37 rfl (fun c37 => ?_) (fun c37 => ?_)
        · have c37 := i_lt_nle c37
          refine V_inc6 dX6_heldOn_70 ?_
          refine V_goto (tgt := 9) dX6_heldOn_73 rfl ?_
          refine V_ls ?_ (ih (i + 1) (by omega) (by omega))
          simp [nI_inc, nI_inc', rHeld, c15, c26, c37]
        · have c37 := i_nlt c37
          refine V_aln dX6_heldOn_40 rfl ?_
          refine V_getR dX6_heldOn_41 flX6_25 (by assumption) rfl (by assumption) ?_
          refine V_il dX6_heldOn_44 rfl ?_
          refine V_ialdN dX6_heldOn_46 (by assumption) (by omega) (by omega) ?_
          refine V_il dX6_heldOn_47 rfl ?_
          refine V_icmp_lt (tgt := 70) dX6_heldOn_49 rfl (fun c49 => ?_) (fun c49 => ?_)
          · have c49 := i_lt_nle c49
            refine V_inc6 dX6_heldOn_70 ?_
            refine V_goto (tgt := 9) dX6_heldOn_73 rfl ?_
            refine V_ls ?_ (ih (i + 1) (by omega) (by omega))
            simp [nI_inc, nI_inc', rHeld, c15, c26, c37, c49]
          · have c49 := i_nlt c49
            refine V_aln dX6_heldOn_52 rfl ?_
            refine V_getR dX6_heldOn_53 flX6_25 (by assumption) rfl (by assumption) ?_
            refine V_il dX6_heldOn_56 rfl ?_
            refine V_ialdN dX6_heldOn_58 (by assumption) (by omega) (by omega) ?_
            refine V_is5 dX6_heldOn_59 ?_
            refine V_aln dX6_heldOn_61 rfl ?_
            refine V_getR dX6_heldOn_62 flX6_28 (by assumption) rfl (by assumption) ?_
            refine V_il dX6_heldOn_65 rfl ?_
            refine V_ialdN dX6_heldOn_67 (by assumption) (by omega) (by omega) ?_
            refine V_is4 dX6_heldOn_68 ?_
            refine V_inc6 dX6_heldOn_70 ?_
            refine V_goto (tgt := 9) dX6_heldOn_73 rfl ?_
            refine V_ls ?_ (ih (i + 1) (by omega) (by omega))
            simp [nI_inc, nI_inc', rHeld, c15, c26, c37, c49]
theorem e_X6_heldOn {a k d u room n : Nat} {key day oth : Int32} (hR : RowsAt sh I P a k d u room n) : Ev X B mdX6_heldOn 0 0 [.ref (B + a), .int key, .int day, .int oth] nx sh I P (mDet (some (.int (rHeld (I k) (I d) (I u) key day oth n).1)) nx sh I P) := by
  refine Ev.of (by decide) (by simp [Value.category]) (by simp) (fun G hM => ?_)
  have hM : mM X B "heldOn" (some FieldType.int) 0 0 0 0 _ G := hM
  show V X B RX6 cX6_heldOn G 0 0 nx sh I P 0 [some (.ref (B + a)), some (.int key), some (.int day), some (.int oth), none, none, none] []
  refine V_iln dX6_heldOn_0 rfl ?_
  refine V_is4 dX6_heldOn_1 ?_
  refine V_iconst (v := -1) rfl dX6_heldOn_3 ?_
  refine V_is5 dX6_heldOn_4 ?_
  refine V_iconst (v := 0) rfl dX6_heldOn_6 ?_
  refine V_is6 dX6_heldOn_7 ?_
  exact l_X6_heldOn hR hM (n + 1) 0 (by omega) (by omega)
theorem l_X6_spanOver {G : mG} {a k d u room n : Nat} {key day : Int32} (hR : RowsAt sh I P a k d u room n) (hM : mM X B "spanOver" (some .boolean) 0 0 0 0 (mDet (some (.int (bI (anyR (rSpan (I k) (I d) (I u) key day) n)))) nx sh I P) G) : ∀ (z i : Nat), i ≤ n → n - i < z → (∀ j, j < i → rSpan (I k) (I d) (I u) key day j = false) → V X B RX6 cX6_spanOver G 0 0 nx sh I P 2 [some (.ref (B + a)), some (.int key), some (.int day), some (.int (nI i))] [] := by
  obtain ⟨h1, h2, h21, h22, h3, h31, h32, h4, h5, h6⟩ := hR
  intro z
  induction z with
  | zero => intro i _ h; omega
  | succ z ih =>
    intro i hi hz hin
    refine V_iln dX6_spanOver_2 rfl ?_
    refine V_aln dX6_spanOver_3 rfl ?_
    refine V_getIv dX6_spanOver_4 flX6_9 (by assumption) rfl (h4) ?_
    refine V_icmp_ge (tgt := 48) dX6_spanOver_7 rfl (fun c7 => ?_) (fun c7 => ?_)
    · have c7 := nN_le c7 (by omega) (by omega)
      obtain rfl : i = n := by omega
      refine V_iconst (v := 0) rfl dX6_spanOver_48 ?_
      exact V_zret hM (by first | exact Or.inl rfl | exact Or.inr rfl | exact bI_01 _) dX6_spanOver_49 (⟨by rw [anyR_f hin]; rfl, rfl, rfl, rfl, rfl⟩)
    · have c7 := nN_nle c7 (by omega) (by omega)
      refine V_aln dX6_spanOver_10 rfl ?_
      refine V_getR dX6_spanOver_11 flX6_21 (by assumption) rfl (by assumption) ?_
      refine V_iln dX6_spanOver_14 rfl ?_
      refine V_ialdN dX6_spanOver_15 (by assumption) (by omega) (by omega) ?_
      refine V_iln dX6_spanOver_16 rfl ?_
      refine V_icmp_ne (tgt := 42) dX6_spanOver_17 rfl (fun c17 => ?_) (fun c17 => ?_)
      · refine V_inc3 dX6_spanOver_42 ?_
        refine V_goto (tgt := 2) dX6_spanOver_45 rfl ?_
        rw [nI_inc]
        exact ih (i + 1) (by omega) (by omega) (lt_s' hin (by simp [rSpan, c7, c17]))
      · refine V_aln dX6_spanOver_20 rfl ?_
        refine V_getR dX6_spanOver_21 flX6_25 (by assumption) rfl (by assumption) ?_
        refine V_iln dX6_spanOver_24 rfl ?_
        refine V_ialdN dX6_spanOver_25 (by assumption) (by omega) (by omega) ?_
        refine V_iln dX6_spanOver_26 rfl ?_
        refine V_icmp_gt (tgt := 42) dX6_spanOver_27 rfl (fun c27 => ?_) (fun c27 => ?_)
        · have c27 := i_lt_nle c27
          refine V_inc3 dX6_spanOver_42 ?_
          refine V_goto (tgt := 2) dX6_spanOver_45 rfl ?_
          rw [nI_inc]
          exact ih (i + 1) (by omega) (by omega) (lt_s' hin (by simp [rSpan, c7, c17, c27]))
        · have c27 := i_nlt c27
          refine V_iln dX6_spanOver_30 rfl ?_
          refine V_aln dX6_spanOver_31 rfl ?_
          refine V_getR dX6_spanOver_32 flX6_28 (by assumption) rfl (by assumption) ?_
          refine V_iln dX6_spanOver_35 rfl ?_
          refine V_ialdN dX6_spanOver_36 (by assumption) (by omega) (by omega) ?_
          refine V_icmp_gt (tgt := 42) dX6_spanOver_37 rfl (fun c37 => ?_) (fun c37 => ?_)
          · have c37 := i_lt_nle c37
            refine V_inc3 dX6_spanOver_42 ?_
            refine V_goto (tgt := 2) dX6_spanOver_45 rfl ?_
            rw [nI_inc]
            exact ih (i + 1) (by omega) (by omega) (lt_s' hin (by simp [rSpan, c7, c17, c27, c37]))
          · have c37 := i_nlt c37
            refine V_iconst (v := 1) rfl dX6_spanOver_40 ?_
            exact V_zret hM (by first | exact Or.inl rfl | exact Or.inr rfl | exact bI_01 _) dX6_spanOver_41 (⟨by rw [anyR_t (i := i) c7 (by simp [rSpan, c7, c17, c27, c37])]; rfl, rfl, rfl, rfl, rfl⟩)
theorem e_X6_spanOver {a k d u room n : Nat} {key day : Int32} (hR : RowsAt sh I P a k d u room n) : Ev X B mdX6_spanOver 0 0 [.ref (B + a), .int key, .int day] nx sh I P (mDet (some (.int (bI (anyR (rSpan (I k) (I d) (I u) key day) n)))) nx sh I P) := by
  refine Ev.of (by decide) (by simp [Value.category]) (by simp) (fun G hM => ?_)
  have hM : mM X B "spanOver" (some FieldType.boolean) 0 0 0 0 _ G := hM
  show V X B RX6 cX6_spanOver G 0 0 nx sh I P 0 [some (.ref (B + a)), some (.int key), some (.int day), none] []
  refine V_iconst (v := 0) rfl dX6_spanOver_0 ?_
  refine V_is3 dX6_spanOver_1 ?_
  exact l_X6_spanOver hR hM (n + 1) 0 (by omega) (by omega) (fun j h => by omega)
/-- a row more -/
def rAdd (I : mI) (a k d u n : Nat) (x y z : Int32) : mI := mUp (mUp (mUp (mUp I k n x) d n y) u n z) a 3 (nI (n + 1))
theorem e_X6_add {a k d u room n : Nat} {x y w : Int32} (hR : RowsAt sh I P a k d u room n) (hn : n < room) : Ev X B mdX6_add 0 0 [.ref (B + a), .int x, .int y, .int w] nx sh I P (mDet none nx sh (rAdd I a k d u n x y w) P) := by
  obtain ⟨h1, h2, h21, h22, h3, h31, h32, h4, h5, h6⟩ := hR
  have n1 := sh_ne h1 h3 shn_oi
  have n2 := sh_ne h1 h31 shn_oi
  have n3 := sh_ne h1 h32 shn_oi
  refine Ev.of (by decide) (by simp [Value.category]) (by simp) (fun G hM => ?_)
  have hM : mM X B "add" none 0 0 0 0 _ G := hM
  show V X B RX6 cX6_add G 0 0 nx sh I P 0 [some (.ref (B + a)), some (.int x), some (.int y), some (.int w)] []
  refine V_aln dX6_add_0 rfl ?_
  refine V_getIv dX6_add_1 flX6_9 (by assumption) rfl (h4) ?_
  refine V_aln dX6_add_4 rfl ?_
  refine V_getR dX6_add_5 flX6_21 (by assumption) rfl (by assumption) ?_
  refine V_alen dX6_add_8 (by assumption) rfl ?_
  refine V_icmp_ge (tgt := 52) dX6_add_9 rfl (fun c9 => ?_) (fun c9 => ?_)
  · exact absurd (nN_le c9 (by omega) (by omega)) (by omega) --done
  · refine V_aln dX6_add_12 rfl ?_
    refine V_getR dX6_add_13 flX6_21 (by assumption) rfl (by assumption) ?_
    refine V_aln dX6_add_16 rfl ?_
    refine V_getIv dX6_add_17 flX6_9 (by assumption) rfl (h4) ?_
    refine V_iln dX6_add_20 rfl ?_
    refine V_iastN dX6_add_21 (by assumption) (by omega) (by omega) ?_
    refine V_aln dX6_add_22 rfl ?_
    refine V_getR dX6_add_23 flX6_25 (by assumption) rfl (by assumption) ?_
    refine V_aln dX6_add_26 rfl ?_
    refine V_getIv (v := nI n) dX6_add_27 flX6_9 (by assumption) rfl (by simp [mUp, n1, h4]) ?_
    refine V_iln dX6_add_30 rfl ?_
    refine V_iastN dX6_add_31 (by assumption) (by omega) (by omega) ?_
    refine V_aln dX6_add_32 rfl ?_
    refine V_getR dX6_add_33 flX6_28 (by assumption) rfl (by assumption) ?_
    refine V_aln dX6_add_36 rfl ?_
    refine V_getIv (v := nI n) dX6_add_37 flX6_9 (by assumption) rfl (by simp [mUp, n1, n2, h4]) ?_
    refine V_iln dX6_add_40 rfl ?_
    refine V_iastN dX6_add_41 (by assumption) (by omega) (by omega) ?_
    refine V_aln dX6_add_42 rfl ?_
    refine V_dup rfl dX6_add_43 ?_
    refine V_getIv (v := nI n) dX6_add_44 flX6_9 (by assumption) rfl (by simp [mUp, n1, n2, n3, h4]) ?_
    refine V_iconst (v := 1) rfl dX6_add_47 ?_
    refine V_iadd dX6_add_48 ?_
    refine V_top (nI_inc' n) ?_
    refine V_putI dX6_add_49 flX6_9 (by assumption) rfl rfl ?_
    exact V_vret hM dX6_add_52 (mDet.rf)
/-! Tape -/
def bC (w s : Int32) : Int32 := (mUshr w s).toInt8.toInt32.toInt8.toInt32
def tpW (w : Int32) (j : Nat) : Int32 := match j with
  | 0 => bC w 24
  | 1 => bC w 16
  | 2 => bC w 8
  | _ => bC w 0
def mBlk (I : mI) (b lo hi : Nat) (g : Nat → Int32) : mI := fun c k => if c = b ∧ lo ≤ k ∧ k < hi then g k else I c k
/-- n bytes, j of a word behind them -/
def tpM (I : mI) (t b n : Nat) (w : Int32) (j : Nat) : mI := mUp (mBlk I b n (n + j) (fun k => tpW w (k - n))) t 1 (nI (n + j))
theorem tpM_0 {t b n : Nat} {w : Int32} (h : I t 1 = nI n) (c k : Nat) : I c k = tpM I t b n w 0 c k := by
  unfold tpM mUp mBlk
  by_cases h1 : c = t ∧ k = 1
  · rw [if_pos h1, h1.1, h1.2, h]; rfl
  · rw [if_neg h1, if_neg (by omega)]
theorem tpM_s {t b n j : Nat} {w : Int32} (ht : t ≠ b) (c k : Nat) : mUp (mUp (tpM I t b n w j) b (n + j) (tpW w j)) t 1 (nI (n + j + 1)) c k = tpM I t b n w (j + 1) c k := by
  unfold tpM mUp mBlk
  by_cases h1 : c = t ∧ k = 1
  · rw [if_pos h1, if_pos h1]; rfl
  · rw [if_neg h1, if_neg h1, if_neg h1]
    by_cases h2 : c = b ∧ k = n + j
    · rw [if_pos h2, if_pos (by omega), h2.2]
      show tpW w j = tpW w (n + j - n)
      rw [show n + j - n = j by omega]
    · rw [if_neg h2]
      by_cases h3 : c = b ∧ n ≤ k ∧ k < n + j
      · rw [if_pos h3, if_pos (by omega)]
      · rw [if_neg h3, if_neg (by omega)]
theorem s_X8_put {G : mG} {Po : mPo} {t b n j : Nat} {w s : Int32} (h1 : sh t = some (.inl 8)) (h2 : P t 0 = some b) (h3 : sh b = some (.inr (1, 800))) (hn : n + j < 800) (hs : ¬ s < 0) (hv : bC w s = tpW w j)
    (next : V X B RX8 cX8_put G 0 0 nx sh (tpM I t b n w (j + 1)) P 3 [some (.ref (B + t)), some (.int w), some (.int (s + Int32.ofInt (-8)))] []) : V X B RX8 cX8_put G 0 0 nx sh (tpM I t b n w j) P 3 [some (.ref (B + t)), some (.int w), some (.int s)] [] := by
  have n1 := sh_ne h1 h3 shn_oi
  have hm : tpM I t b n w j t 1 = nI (n + j) := by simp [tpM, mUp]
  refine V_iln dX8_put_3 rfl ?_
  refine V_if_lt (tgt := 48) dX8_put_4 rfl (fun c4 => ?_) (fun c4 => ?_)
  · exact absurd c4 hs --done
  · refine V_aln dX8_put_7 rfl ?_
    refine V_getIv dX8_put_8 flX8_15 (by assumption) rfl (hm) ?_
    refine V_aln dX8_put_11 rfl ?_
    refine V_getR dX8_put_12 flX8_9 (by assumption) rfl (by assumption) ?_
    refine V_alen dX8_put_15 (by assumption) rfl ?_
    refine V_icmp_ge (tgt := 42) dX8_put_16 rfl (fun c16 => ?_) (fun c16 => ?_)
    · exact absurd (nN_le c16 (by omega) (by omega)) (by omega) --done
    · refine V_aln dX8_put_19 rfl ?_
      refine V_getR dX8_put_20 flX8_9 (by assumption) rfl (by assumption) ?_
      refine V_aln dX8_put_23 rfl ?_
      refine V_getIv dX8_put_24 flX8_15 (by assumption) rfl (hm) ?_
      refine V_iln dX8_put_27 rfl ?_
      refine V_iln dX8_put_28 rfl ?_
      refine V_iushr dX8_put_29 ?_
      refine V_i2b dX8_put_30 ?_
      refine V_bastN dX8_put_31 (by assumption) (by omega) (by omega) ?_
      refine V_aln dX8_put_32 rfl ?_
      refine V_dup rfl dX8_put_33 ?_
      refine V_getIv (v := nI (n + j)) dX8_put_34 flX8_15 (by assumption) rfl (by simp [mUp, n1, hm]) ?_
      refine V_iconst (v := 1) rfl dX8_put_37 ?_
      refine V_iadd dX8_put_38 ?_
      refine V_top (nI_inc' (n + j)) ?_
      refine V_putI dX8_put_39 flX8_15 (by assumption) rfl rfl ?_
      refine V_inc2 dX8_put_42 ?_
      refine V_goto (tgt := 3) dX8_put_45 rfl ?_
      refine V_mem (fun c k => ?_) (fun _ _ => rfl) next
      rw [← tpM_s n1, ← hv]
      rfl
/-- put(w): four bytes behind the others -/
theorem e_X8_put {t b n : Nat} {w : Int32} (h1 : sh t = some (.inl 8)) (h2 : P t 0 = some b) (h3 : sh b = some (.inr (1, 800))) (hm : I t 1 = nI n) (hn : n + 4 ≤ 800) : Ev X B mdX8_put 0 0 [.ref (B + t), .int w] nx sh I P (mDet none nx sh (tpM I t b n w 4) P) := by
  refine Ev.of (by decide) (by simp [Value.category]) (by simp) (fun G hM => ?_)
  have hM : mM X B "put" none 0 0 0 0 _ G := hM
  show V X B RX8 cX8_put G 0 0 nx sh I P 0 [some (.ref (B + t)), some (.int w), none] []
  refine V_mem (tpM_0 (b := b) (w := w) hm) (fun _ _ => rfl) ?_
  refine V_bipush (v := 24) rfl dX8_put_0 ?_
  refine V_is2 dX8_put_2 ?_
  refine s_X8_put (Po := mDet none nx sh I P) h1 h2 h3 (by omega) (by decide) rfl ?_
  refine V_ls (show _ = [some (.ref (B + t)), some (.int w), some (.int 16)] from rfl) ?_
  refine s_X8_put (Po := mDet none nx sh I P) h1 h2 h3 (by omega) (by decide) rfl ?_
  refine V_ls (show _ = [some (.ref (B + t)), some (.int w), some (.int 8)] from rfl) ?_
  refine s_X8_put (Po := mDet none nx sh I P) h1 h2 h3 (by omega) (by decide) rfl ?_
  refine V_ls (show _ = [some (.ref (B + t)), some (.int w), some (.int 0)] from rfl) ?_
  refine s_X8_put (Po := mDet none nx sh I P) h1 h2 h3 (by omega) (by decide) rfl ?_
  refine V_ls (show _ = [some (.ref (B + t)), some (.int w), some (.int (-8))] from rfl) ?_
  refine V_iln dX8_put_3 rfl ?_
  refine V_if_lt (tgt := 48) dX8_put_4 rfl (fun c4 => ?_) (fun c4 => ?_)
  · exact V_vret hM dX8_put_48 (mDet.rf)
  · exact absurd (by decide) c4 --done
/-! a thing by its number -/
theorem e_X3_measure {g q : Nat} {m : Int32} (h1 : sh g = some (.inl 3)) (h2 : P g 0 = some q) (h3 : sh q = some (.inr (0, 5))) : Ev X B mdX3_measure 0 0 [.ref (B + g), .int m] nx sh I P (mDet (some (.int (if inB m 5 then I q m.toNatClampNeg else -1))) nx sh I P) := by
  refine Ev.of (by decide) (by simp [Value.category]) (by simp) (fun G hM => ?_)
  have hM : mM X B "measure" (some FieldType.int) 0 0 0 0 _ G := hM
  show V X B RX3 cX3_measure G 0 0 nx sh I P 0 [some (.ref (B + g)), some (.int m)] []
  refine V_iln dX3_measure_0 rfl ?_
  refine V_if_lt (tgt := 22) dX3_measure_1 rfl (fun c1 => ?_) (fun c1 => ?_)
  · have hb : inB m 5 = false := inB_f (by rw [i_lt] at c1; simp at c1; omega)
    refine V_iconst (v := -1) rfl dX3_measure_22 ?_
    exact V_iret hM dX3_measure_23 (⟨by simp [hb], rfl, rfl, rfl, rfl⟩)
  · refine V_iln dX3_measure_4 rfl ?_
    refine V_aln dX3_measure_5 rfl ?_
    refine V_getR dX3_measure_6 flX3_9 (by assumption) rfl (by assumption) ?_
    refine V_alen dX3_measure_9 (by assumption) rfl ?_
    refine V_icmp_ge (tgt := 22) dX3_measure_10 rfl (fun c10 => ?_) (fun c10 => ?_)
    · have hb : inB m 5 = false := inB_f (by rw [i_le] at c10; have : (5 : Int) ≤ m.toInt := c10; omega)
      refine V_iconst (v := -1) rfl dX3_measure_22 ?_
      exact V_iret hM dX3_measure_23 (⟨by simp [hb], rfl, rfl, rfl, rfl⟩)
    · have hb : inB m 5 = true := inB_iff.mpr (by rw [i_le] at c10; rw [i_lt] at c1; have : ¬ (5 : Int) ≤ m.toInt := c10; simp at c1; omega)
      refine V_aln dX3_measure_13 rfl ?_
      refine V_getR dX3_measure_14 flX3_9 (by assumption) rfl (by assumption) ?_
      refine V_iln dX3_measure_17 rfl ?_
      refine V_iald dX3_measure_18 (by assumption) (inB_in hb) ?_
      refine V_goto (tgt := 23) dX3_measure_19 rfl ?_
      exact V_iret hM dX3_measure_23 (⟨by simp [hb], rfl, rfl, rfl, rfl⟩)
end RW
