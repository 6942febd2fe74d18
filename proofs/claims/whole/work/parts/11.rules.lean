/-! ===== wearing, rules, acts ===== -/
def rConc (lo hi wh rank occ : Int32) : Bool := decide (lo ≤ rank) && decide (rank ≤ hi) && (decide (wh = 3) || decide (wh = occ))
def gMz (f : Nat → Int32) (k : Int32) : Int32 := if inB k 5 then f k.toNatClampNeg else -1
def rOff (k lim stuff colour : Int32) (f : Nat → Int32) : Bool := if k = 5 then decide (stuff = lim) else if k = 6 then decide (colour = lim) else if k = 7 then !decide (colour = lim) else decide (lim < gMz f k)
def letF (so fd day sd : Int32) : Bool := !decide (so = -1) && decide (so < fd) && decide (day < fd + sd)
def sdF (s : Int32) : Int32 := if 0 < s then s else 0
def pg (P : mP) (c k : Nat) : Nat := (P c k).getD 0
def bitsF (f : Nat → Bool) : Nat → Int32
  | 0 => 0
  | r + 1 => if f r then bitsF f r ||| (1 <<< (nI r &&& 31)) else bitsF f r
def sumF (f : Nat → Int32) : Nat → Int32
  | 0 => 0
  | r + 1 => sumF f r + f r
/-- whether bit i is set -/
def bitB (bits : Int32) (i : Nat) : Bool := decide (mUshr bits (nI i) &&& 1 = 1)
/-- one in a gown: wearing at w, gown at g, measures at q -/
def WearAt (sh : Nat → Option mSh) (P : mP) (w g q : Nat) : Prop := sh w = some (.inl 9) ∧ P w 2 = some g ∧ sh g = some (.inl 3) ∧ P g 0 = some q ∧ sh q = some (.inr (0, 5))
/-- an act at o, its rules' row at rl, m of them -/
def ActAt (sh : Nat → Option mSh) (I : mI) (P : mP) (o rl m : Nat) : Prop := sh o = some (.inl 0) ∧ P o 1 = some rl ∧ sh rl = some (.inr (5, 12)) ∧ I o 2 = nI m ∧ m ≤ 12 ∧ ∀ r, r < m → P rl r = some (pg P rl r) ∧ sh (pg P rl r) = some (.inl 7)
def rcF (I : mI) (w o : Nat) : Bool := rConc (I o 2) (I o 3) (I o 4) (I w 0) (I w 1)
def roF (I : mI) (w g q o : Nat) : Bool := rOff (I o 0) (I o 1) (I w 4) (I g 2) (I q)
section RU
variable {X : mX} {B nx : Nat} {sh : Nat → Option mSh} {I : mI} {P : mP}
theorem e_X9_take {w g : Nat} {rank occ day st : Int32} (h1 : sh w = some (.inl 9)) : Ev X B mdX9_take 0 0 [.ref (B + w), .int rank, .int occ, .ref (B + g), .int day, .int st] nx sh I P (mDet none nx sh (mUp (mUp (mUp (mUp I w 0 rank) w 1 occ) w 3 day) w 4 st) (mUp P w 2 (some g))) := by
  refine Ev.of (by decide) (by simp [Value.category]) (by simp) (fun G hM => ?_)
  have hM : mM X B "take" none 0 0 0 0 _ G := hM
  show V X B RX9 cX9_take G 0 0 nx sh I P 0 [some (.ref (B + w)), some (.int rank), some (.int occ), some (.ref (B + g)), some (.int day), some (.int st)] []
  refine V_aln dX9_take_0 rfl ?_
  refine V_iln dX9_take_1 rfl ?_
  refine V_putI dX9_take_2 flX9_9 (by assumption) rfl rfl ?_
  refine V_aln dX9_take_5 rfl ?_
  refine V_iln dX9_take_6 rfl ?_
  refine V_putI dX9_take_7 flX9_15 (by assumption) rfl rfl ?_
  refine V_aln dX9_take_10 rfl ?_
  refine V_aln dX9_take_11 rfl ?_
  refine V_putP (o := some g) dX9_take_12 flX9_23 (by assumption) rfl (ty := .object "GownCourt$Gown") (by decide +kernel) (Or.inl ⟨_, rfl⟩) ?_
  refine V_aln dX9_take_15 rfl ?_
  refine V_il dX9_take_16 rfl ?_
  refine V_putI dX9_take_18 flX9_27 (by assumption) rfl rfl ?_
  refine V_aln dX9_take_21 rfl ?_
  refine V_il dX9_take_22 rfl ?_
  refine V_putI dX9_take_24 flX9_30 (by assumption) rfl rfl ?_
  exact V_vret hM dX9_take_27 (mDet.rf)
theorem e_X7_concerns {o w : Nat} (h1 : sh o = some (.inl 7)) (h2 : sh w = some (.inl 9)) : Ev X B mdX7_concerns 0 0 [.ref (B + o), .ref (B + w)] nx sh I P (mDet (some (.int (bI (rcF I w o)))) nx sh I P) := by
  refine Ev.of (by decide) (by simp [Value.category]) (by simp) (fun G hM => ?_)
  have hM : mM X B "concerns" (some FieldType.boolean) 0 0 0 0 _ G := hM
  show V X B RX7 cX7_concerns G 0 0 nx sh I P 0 [some (.ref (B + o)), some (.ref (B + w)), none] []
  refine V_aln dX7_concerns_0 rfl ?_
  refine V_getI dX7_concerns_1 flX7_18 (by assumption) rfl ?_
  refine V_aln dX7_concerns_4 rfl ?_
  refine V_getI dX7_concerns_5 flX7_30 (by assumption) rfl ?_
  refine V_icmp_gt (tgt := 26) dX7_concerns_8 rfl (fun c8 => ?_) (fun c8 => ?_)
  · have c8 := i_lt_nle c8
    refine V_iconst (v := 0) rfl dX7_concerns_26 ?_
    refine V_is2 dX7_concerns_27 ?_
    refine V_iln dX7_concerns_28 rfl ?_
    refine V_if_eq (tgt := 55) dX7_concerns_29 rfl (fun _ => ?_) (fun h => absurd rfl h)
    refine V_iconst (v := 0) rfl dX7_concerns_55 ?_
    exact V_zret hM (by first | exact Or.inl rfl | exact Or.inr rfl | exact bI_01 _) dX7_concerns_56 (⟨by simp [rcF, rConc, bI, c8], rfl, rfl, rfl, rfl⟩)
  · have c8 := i_nlt c8
    refine V_aln dX7_concerns_11 rfl ?_
    refine V_getI dX7_concerns_12 flX7_30 (by assumption) rfl ?_
    refine V_aln dX7_concerns_15 rfl ?_
    refine V_getI dX7_concerns_16 flX7_21 (by assumption) rfl ?_
    refine V_icmp_gt (tgt := 26) dX7_concerns_19 rfl (fun c19 => ?_) (fun c19 => ?_)
    · have c19 := i_lt_nle c19
      refine V_iconst (v := 0) rfl dX7_concerns_26 ?_
      refine V_is2 dX7_concerns_27 ?_
      refine V_iln dX7_concerns_28 rfl ?_
      refine V_if_eq (tgt := 55) dX7_concerns_29 rfl (fun _ => ?_) (fun h => absurd rfl h)
      refine V_iconst (v := 0) rfl dX7_concerns_55 ?_
      exact V_zret hM (by first | exact Or.inl rfl | exact Or.inr rfl | exact bI_01 _) dX7_concerns_56 (⟨by simp [rcF, rConc, bI, c8, c19], rfl, rfl, rfl, rfl⟩)
    · have c19 := i_nlt c19
      refine V_iconst (v := 1) rfl dX7_concerns_22 ?_
      refine V_goto (tgt := 27) dX7_concerns_23 rfl ?_
      refine V_is2 dX7_concerns_27 ?_
      refine V_iln dX7_concerns_28 rfl ?_
      refine V_if_eq (tgt := 55) dX7_concerns_29 rfl (fun h => absurd h (by decide)) (fun _ => ?_)
      refine V_aln dX7_concerns_32 rfl ?_
      refine V_getI dX7_concerns_33 flX7_24 (by assumption) rfl ?_
      refine V_iconst (v := 3) rfl dX7_concerns_36 ?_
      refine V_icmp_eq (tgt := 51) dX7_concerns_37 rfl (fun c37 => ?_) (fun c37 => ?_)
      · refine V_iconst (v := 1) rfl dX7_concerns_51 ?_
        refine V_goto (tgt := 56) dX7_concerns_52 rfl ?_
        exact V_zret hM (by first | exact Or.inl rfl | exact Or.inr rfl | exact bI_01 _) dX7_concerns_56 (⟨by simp [rcF, rConc, bI, c8, c19, c37], rfl, rfl, rfl, rfl⟩)
      · refine V_aln dX7_concerns_40 rfl ?_
        refine V_getI dX7_concerns_41 flX7_24 (by assumption) rfl ?_
        refine V_aln dX7_concerns_44 rfl ?_
        refine V_getI dX7_concerns_45 flX7_35 (by assumption) rfl ?_
        refine V_icmp_ne (tgt := 55) dX7_concerns_48 rfl (fun c48 => ?_) (fun c48 => ?_)
        · refine V_iconst (v := 0) rfl dX7_concerns_55 ?_
          exact V_zret hM (by first | exact Or.inl rfl | exact Or.inr rfl | exact bI_01 _) dX7_concerns_56 (⟨by simp [rcF, rConc, bI, c8, c19, c37, c48], rfl, rfl, rfl, rfl⟩)
        · refine V_iconst (v := 1) rfl dX7_concerns_51 ?_
          refine V_goto (tgt := 56) dX7_concerns_52 rfl ?_
          exact V_zret hM (by first | exact Or.inl rfl | exact Or.inr rfl | exact bI_01 _) dX7_concerns_56 (⟨by simp [rcF, rConc, bI, c8, c19, c37, c48], rfl, rfl, rfl, rfl⟩)
theorem e_X7_isOffended {o w g q : Nat} (h1 : sh o = some (.inl 7)) (hW : WearAt sh P w g q) : Ev X B mdX7_isOffended 0 0 [.ref (B + o), .ref (B + w)] nx sh I P (mDet (some (.int (bI (roF I w g q o)))) nx sh I P) := by
  obtain ⟨h2, h3, h4, h5, h6⟩ := hW
  refine Ev.of (by decide) (by simp [Value.category]) (by simp) (fun G hM => ?_)
  have hM : mM X B "isOffended" (some FieldType.boolean) 1 21 0 0 _ G := hM
  show V X B RX7 cX7_isOffended G 0 0 nx sh I P 0 [some (.ref (B + o)), some (.ref (B + w))] []
  have hne : (I o 0).toInt < 5 ∨ 7 < (I o 0).toInt → ¬ I o 0 = 5 ∧ ¬ I o 0 = 6 ∧ ¬ I o 0 = 7 := by
    intro h
    refine ⟨?_, ?_, ?_⟩ <;> intro e <;> rw [e] at h <;> revert h <;> decide
  refine V_aln dX7_isOffended_0 rfl ?_
  refine V_getI dX7_isOffended_1 flX7_9 (by assumption) rfl ?_
  refine V_tsw_5_7 (td := 89) (t0 := 32) (t1 := 49) (t2 := 69) dX7_isOffended_4 rfl rfl rfl rfl (fun c4 => ?_) (fun c4 => ?_) (fun c4 => ?_) (fun c4 => ?_)
  · refine V_aln dX7_isOffended_89 rfl ?_
    refine V_getR dX7_isOffended_90 flX7_41 (by assumption) rfl (by assumption) ?_
    refine V_aln dX7_isOffended_93 rfl ?_
    refine V_getI dX7_isOffended_94 flX7_9 (by assumption) rfl ?_
    refine V_cV1d hM cvX7_50 (by assumption) rfl (e_X3_measure h4 h5 h6) ⟨Nat.le_of_ble_eq_true rfl, Nat.le_of_ble_eq_true rfl, Nat.le_of_ble_eq_true rfl, Nat.le_of_ble_eq_true rfl⟩ (Nat.le_of_ble_eq_true rfl) dX7_isOffended_97 ?_
    refine V_aln dX7_isOffended_100 rfl ?_
    refine V_getI dX7_isOffended_101 flX7_15 (by assumption) rfl ?_
    refine V_icmp_le (tgt := 111) dX7_isOffended_104 rfl (fun c104 => ?_) (fun c104 => ?_)
    · have c104 := i_le_nlt c104
      refine V_iconst (v := 0) rfl dX7_isOffended_111 ?_
      exact V_zret hM (by first | exact Or.inl rfl | exact Or.inr rfl | exact bI_01 _) dX7_isOffended_112 (⟨by obtain ⟨e1, e2, e3⟩ := hne c4; simp [roF, rOff, gMz, bI, e1, e2, e3, c104], rfl, rfl, rfl, rfl⟩)
    · have c104 := i_nle c104
      refine V_iconst (v := 1) rfl dX7_isOffended_107 ?_
      refine V_goto (tgt := 112) dX7_isOffended_108 rfl ?_
      exact V_zret hM (by first | exact Or.inl rfl | exact Or.inr rfl | exact bI_01 _) dX7_isOffended_112 (⟨by obtain ⟨e1, e2, e3⟩ := hne c4; simp [roF, rOff, gMz, bI, e1, e2, e3, c104], rfl, rfl, rfl, rfl⟩)
  · refine V_aln dX7_isOffended_32 rfl ?_
    refine V_getI dX7_isOffended_33 flX7_38 (by assumption) rfl ?_
    refine V_aln dX7_isOffended_36 rfl ?_
    refine V_getI dX7_isOffended_37 flX7_15 (by assumption) rfl ?_
    refine V_icmp_ne (tgt := 47) dX7_isOffended_40 rfl (fun c40 => ?_) (fun c40 => ?_)
    · refine V_iconst (v := 0) rfl dX7_isOffended_47 ?_
      exact V_zret hM (by first | exact Or.inl rfl | exact Or.inr rfl | exact bI_01 _) dX7_isOffended_48 (⟨by simp [roF, rOff, bI, c4, c40], rfl, rfl, rfl, rfl⟩)
    · refine V_iconst (v := 1) rfl dX7_isOffended_43 ?_
      refine V_goto (tgt := 48) dX7_isOffended_44 rfl ?_
      exact V_zret hM (by first | exact Or.inl rfl | exact Or.inr rfl | exact bI_01 _) dX7_isOffended_48 (⟨by simp [roF, rOff, bI, c4, c40], rfl, rfl, rfl, rfl⟩)
  · refine V_aln dX7_isOffended_49 rfl ?_
    refine V_getR dX7_isOffended_50 flX7_41 (by assumption) rfl (by assumption) ?_
    refine V_getI dX7_isOffended_53 flX7_45 (by assumption) rfl ?_
    refine V_aln dX7_isOffended_56 rfl ?_
    refine V_getI dX7_isOffended_57 flX7_15 (by assumption) rfl ?_
    refine V_icmp_ne (tgt := 67) dX7_isOffended_60 rfl (fun c60 => ?_) (fun c60 => ?_)
    · refine V_iconst (v := 0) rfl dX7_isOffended_67 ?_
      exact V_zret hM (by first | exact Or.inl rfl | exact Or.inr rfl | exact bI_01 _) dX7_isOffended_68 (⟨by simp [roF, rOff, bI, c4, c60], rfl, rfl, rfl, rfl⟩)
    · refine V_iconst (v := 1) rfl dX7_isOffended_63 ?_
      refine V_goto (tgt := 68) dX7_isOffended_64 rfl ?_
      exact V_zret hM (by first | exact Or.inl rfl | exact Or.inr rfl | exact bI_01 _) dX7_isOffended_68 (⟨by simp [roF, rOff, bI, c4, c60], rfl, rfl, rfl, rfl⟩)
  · refine V_aln dX7_isOffended_69 rfl ?_
    refine V_getR dX7_isOffended_70 flX7_41 (by assumption) rfl (by assumption) ?_
    refine V_getI dX7_isOffended_73 flX7_45 (by assumption) rfl ?_
    refine V_aln dX7_isOffended_76 rfl ?_
    refine V_getI dX7_isOffended_77 flX7_15 (by assumption) rfl ?_
    refine V_icmp_eq (tgt := 87) dX7_isOffended_80 rfl (fun c80 => ?_) (fun c80 => ?_)
    · refine V_iconst (v := 0) rfl dX7_isOffended_87 ?_
      exact V_zret hM (by first | exact Or.inl rfl | exact Or.inr rfl | exact bI_01 _) dX7_isOffended_88 (⟨by simp [roF, rOff, bI, c4, c80], rfl, rfl, rfl, rfl⟩)
    · refine V_iconst (v := 1) rfl dX7_isOffended_83 ?_
      refine V_goto (tgt := 88) dX7_isOffended_84 rfl ?_
      exact V_zret hM (by first | exact Or.inl rfl | exact Or.inr rfl | exact bI_01 _) dX7_isOffended_88 (⟨by simp [roF, rOff, bI, c4, c80], rfl, rfl, rfl, rfl⟩)
theorem e_X0_wipe {o : Nat} (h1 : sh o = some (.inl 0)) : Ev X B mdX0_wipe 0 0 [.ref (B + o)] nx sh I P (mDet none nx sh (mUp (mUp (mUp (mUp I o 2 0) o 3 (-1)) o 4 (-1)) o 5 0) P) := by
  refine Ev.of (by decide) (by simp [Value.category]) (by simp) (fun G hM => ?_)
  have hM : mM X B "wipe" none 0 0 0 0 _ G := hM
  show V X B RX0 cX0_wipe G 0 0 nx sh I P 0 [some (.ref (B + o))] []
  refine V_aln dX0_wipe_0 rfl ?_
  refine V_iconst (v := 0) rfl dX0_wipe_1 ?_
  refine V_putI dX0_wipe_2 flX0_21 (by assumption) rfl rfl ?_
  refine V_aln dX0_wipe_5 rfl ?_
  refine V_iconst (v := -1) rfl dX0_wipe_6 ?_
  refine V_putI dX0_wipe_7 flX0_24 (by assumption) rfl rfl ?_
  refine V_aln dX0_wipe_10 rfl ?_
  refine V_iconst (v := -1) rfl dX0_wipe_11 ?_
  refine V_putI dX0_wipe_12 flX0_27 (by assumption) rfl rfl ?_
  refine V_aln dX0_wipe_15 rfl ?_
  refine V_iconst (v := 0) rfl dX0_wipe_16 ?_
  refine V_putI dX0_wipe_17 flX0_30 (by assumption) rfl rfl ?_
  exact V_vret hM dX0_wipe_20 (mDet.rf)
theorem e_X0_add {o rl m u : Nat} (hA : ActAt sh I P o rl m) (hm : m < 12) (hu : sh u = some (.inl 7)) : Ev X B mdX0_add 0 0 [.ref (B + o), .ref (B + u)] nx sh I P (mDet none nx sh (mUp I o 2 (nI (m + 1))) (mUp P rl m (some u))) := by
  obtain ⟨h1, h2, h3, h4, h5, -⟩ := hA
  refine Ev.of (by decide) (by simp [Value.category]) (by simp) (fun G hM => ?_)
  have hM : mM X B "add" none 0 0 0 0 _ G := hM
  show V X B RX0 cX0_add G 0 0 nx sh I P 0 [some (.ref (B + o)), some (.ref (B + u))] []
  refine V_aln dX0_add_0 rfl ?_
  refine V_getIv dX0_add_1 flX0_21 (by assumption) rfl (h4) ?_
  refine V_aln dX0_add_4 rfl ?_
  refine V_getR dX0_add_5 flX0_17 (by assumption) rfl (by assumption) ?_
  refine V_alen dX0_add_8 (by assumption) rfl ?_
  refine V_icmp_ge (tgt := 32) dX0_add_9 rfl (fun c9 => ?_) (fun c9 => ?_)
  · exact absurd (nN_le c9 (by omega) (by omega)) (by omega) --done
  · refine V_aln dX0_add_12 rfl ?_
    refine V_getR dX0_add_13 flX0_17 (by assumption) rfl (by assumption) ?_
    refine V_aln dX0_add_16 rfl ?_
    refine V_getIv dX0_add_17 flX0_21 (by assumption) rfl (h4) ?_
    refine V_aln dX0_add_20 rfl ?_
    refine V_aastN dX0_add_21 (by assumption) (by decide) (by assumption) (by omega) (by omega) ?_
    refine V_aln dX0_add_22 rfl ?_
    refine V_dup rfl dX0_add_23 ?_
    refine V_getIv dX0_add_24 flX0_21 (by assumption) rfl (h4) ?_
    refine V_iconst (v := 1) rfl dX0_add_27 ?_
    refine V_iadd dX0_add_28 ?_
    refine V_top (nI_inc' m) ?_
    refine V_putI dX0_add_29 flX0_21 (by assumption) rfl rfl ?_
    exact V_vret hM dX0_add_32 (mDet.rf)
theorem e_X0_sealDays {o : Nat} (h1 : sh o = some (.inl 0)) : Ev X B mdX0_sealDays 0 0 [.ref (B + o)] nx sh I P (mDet (some (.int (sdF (I o 3)))) nx sh I P) := by
  refine Ev.of (by decide) (by simp [Value.category]) (by simp) (fun G hM => ?_)
  have hM : mM X B "sealDays" (some FieldType.int) 1 21 0 0 _ G := hM
  show V X B RX0 cX0_sealDays G 0 0 nx sh I P 0 [some (.ref (B + o))] []
  refine V_iconst (v := 0) rfl dX0_sealDays_0 ?_
  refine V_aln dX0_sealDays_1 rfl ?_
  refine V_getI dX0_sealDays_2 flX0_24 (by assumption) rfl ?_
  refine V_max hM lkX0_33 wM1_max wM3 wM2_max (Nat.le_of_ble_eq_true rfl) (Nat.le_of_ble_eq_true rfl) (Nat.le_of_ble_eq_true rfl) (Nat.le_of_ble_eq_true rfl) dX0_sealDays_5 ?_
  exact V_iret hM dX0_sealDays_8 (mDet.rf)
theorem e_X0_lets {o w g q : Nat} (h1 : sh o = some (.inl 0)) (hW : WearAt sh P w g q) : Ev X B mdX0_lets 0 0 [.ref (B + o), .ref (B + w)] nx sh I P (mDet (some (.int (bI (letF (I g 3) (I o 0) (I w 3) (sdF (I o 3)))))) nx sh I P) := by
  obtain ⟨h2, h3, h4, h5, h6⟩ := hW
  refine Ev.of (by decide) (by simp [Value.category]) (by simp) (fun G hM => ?_)
  have hM : mM X B "lets" (some FieldType.boolean) 2 41 0 0 _ G := hM
  show V X B RX0 cX0_lets G 0 0 nx sh I P 0 [some (.ref (B + o)), some (.ref (B + w)), none] []
  refine V_aln dX0_lets_0 rfl ?_
  refine V_getR dX0_lets_1 flX0_39 (by assumption) rfl (by assumption) ?_
  refine V_getI dX0_lets_4 flX0_45 (by assumption) rfl ?_
  refine V_is2 dX0_lets_7 ?_
  refine V_iln dX0_lets_8 rfl ?_
  refine V_iconst (v := -1) rfl dX0_lets_9 ?_
  refine V_icmp_eq (tgt := 41) dX0_lets_10 rfl (fun c10 => ?_) (fun c10 => ?_)
  · refine V_iconst (v := 0) rfl dX0_lets_41 ?_
    exact V_zret hM (by first | exact Or.inl rfl | exact Or.inr rfl | exact bI_01 _) dX0_lets_42 (⟨by simp [letF, bI, c10], rfl, rfl, rfl, rfl⟩)
  · refine V_iln dX0_lets_13 rfl ?_
    refine V_aln dX0_lets_14 rfl ?_
    refine V_getI dX0_lets_15 flX0_9 (by assumption) rfl ?_
    refine V_icmp_ge (tgt := 41) dX0_lets_18 rfl (fun c18 => ?_) (fun c18 => ?_)
    · have c18 := i_le_nlt c18
      refine V_iconst (v := 0) rfl dX0_lets_41 ?_
      exact V_zret hM (by first | exact Or.inl rfl | exact Or.inr rfl | exact bI_01 _) dX0_lets_42 (⟨by simp [letF, bI, c10, c18], rfl, rfl, rfl, rfl⟩)
    · have c18 := i_nle c18
      refine V_aln dX0_lets_21 rfl ?_
      refine V_getI dX0_lets_22 flX0_50 (by assumption) rfl ?_
      refine V_aln dX0_lets_25 rfl ?_
      refine V_getI dX0_lets_26 flX0_9 (by assumption) rfl ?_
      refine V_aln dX0_lets_29 rfl ?_
      refine V_cV0d hM cvX0_53 (by assumption) rfl (e_X0_sealDays h1) ⟨Nat.le_of_ble_eq_true rfl, Nat.le_of_ble_eq_true rfl, Nat.le_of_ble_eq_true rfl, Nat.le_of_ble_eq_true rfl⟩ (Nat.le_of_ble_eq_true rfl) dX0_lets_30 ?_
      refine V_iadd dX0_lets_33 ?_
      refine V_icmp_ge (tgt := 41) dX0_lets_34 rfl (fun c34 => ?_) (fun c34 => ?_)
      · have c34 := i_le_nlt c34
        refine V_iconst (v := 0) rfl dX0_lets_41 ?_
        exact V_zret hM (by first | exact Or.inl rfl | exact Or.inr rfl | exact bI_01 _) dX0_lets_42 (⟨by simp [letF, bI, c10, c18, c34], rfl, rfl, rfl, rfl⟩)
      · have c34 := i_nle c34
        refine V_iconst (v := 1) rfl dX0_lets_37 ?_
        refine V_goto (tgt := 42) dX0_lets_38 rfl ?_
        exact V_zret hM (by first | exact Or.inl rfl | exact Or.inr rfl | exact bI_01 _) dX0_lets_42 (⟨by simp [letF, bI, c10, c18, c34], rfl, rfl, rfl, rfl⟩)
theorem e_X0_findRule {o rl m r : Nat} (hA : ActAt sh I P o rl m) (hr : r < m) : Ev X B mdX0_findRule 0 0 [.ref (B + o), .int (nI r)] nx sh I P (mDet (some (.ref (B + pg P rl r))) nx sh I P) := by
  obtain ⟨h1, h2, h3, h4, h5, h6⟩ := hA
  have h7 := (h6 r hr).1
  refine Ev.of (by decide) (by simp [Value.category]) (by simp) (fun G hM => ?_)
  have hM : mM X B "findRule" (some (FieldType.object "GownCourt$Rule")) 0 0 0 0 _ G := hM
  show V X B RX0 cX0_findRule G 0 0 nx sh I P 0 [some (.ref (B + o)), some (.int (nI r))] []
  refine V_iln dX0_findRule_0 rfl ?_
  refine V_if_lt (tgt := 30) dX0_findRule_1 rfl (fun c1 => ?_) (fun c1 => ?_)
  · exact absurd c1 (nI_pos (by omega)) --done
  · refine V_iln dX0_findRule_4 rfl ?_
    refine V_aln dX0_findRule_5 rfl ?_
    refine V_getIv dX0_findRule_6 flX0_21 (by assumption) rfl (h4) ?_
    refine V_icmp_ge (tgt := 30) dX0_findRule_9 rfl (fun c9 => ?_) (fun c9 => ?_)
    · exact absurd (nN_le c9 (by omega) (by omega)) (by omega) --done
    · refine V_iln dX0_findRule_12 rfl ?_
      refine V_aln dX0_findRule_13 rfl ?_
      refine V_getR dX0_findRule_14 flX0_17 (by assumption) rfl (by assumption) ?_
      refine V_alen dX0_findRule_17 (by assumption) rfl ?_
      refine V_icmp_ge (tgt := 30) dX0_findRule_18 rfl (fun c18 => ?_) (fun c18 => ?_)
      · exact absurd (nN_le c18 (by omega) (by omega)) (by omega) --done
      · refine V_aln dX0_findRule_21 rfl ?_
        refine V_getR dX0_findRule_22 flX0_17 (by assumption) rfl (by assumption) ?_
        refine V_iln dX0_findRule_25 rfl ?_
        refine V_aaldRN dX0_findRule_26 (by assumption) (by decide) (by omega) (by omega) (by assumption) ?_
        refine V_goto (tgt := 31) dX0_findRule_27 rfl ?_
        exact V_aret hM (by first | exact Or.inl ⟨_, rfl⟩ | exact Or.inr ⟨_, rfl⟩) (by first | exact Or.inl rfl | exact Or.inr ⟨_, rfl⟩) dX0_findRule_31 (mDet.rf)
theorem e_X0_findRuleN {o rl m : Nat} {x : Int32} (hA : ActAt sh I P o rl m) (hx : inB x m = false) : Ev X B mdX0_findRule 0 0 [.ref (B + o), .int x] nx sh I P (mDet (some .null) nx sh I P) := by
  obtain ⟨h1, h2, h3, h4, h5, -⟩ := hA
  have hx : ¬ (0 ≤ x.toInt ∧ x.toInt < m) := fun h => by rw [inB_iff.mpr h] at hx; cases hx
  refine Ev.of (by decide) (by simp [Value.category]) (by simp) (fun G hM => ?_)
  have hM : mM X B "findRule" (some (FieldType.object "GownCourt$Rule")) 0 0 0 0 _ G := hM
  show V X B RX0 cX0_findRule G 0 0 nx sh I P 0 [some (.ref (B + o)), some (.int x)] []
  refine V_iln dX0_findRule_0 rfl ?_
  refine V_if_lt (tgt := 30) dX0_findRule_1 rfl (fun c1 => ?_) (fun c1 => ?_)
  · refine V_null dX0_findRule_30 ?_
    exact V_aret hM (by first | exact Or.inl ⟨_, rfl⟩ | exact Or.inr ⟨_, rfl⟩) (by first | exact Or.inl rfl | exact Or.inr ⟨_, rfl⟩) dX0_findRule_31 (mDet.rf)
  · refine V_iln dX0_findRule_4 rfl ?_
    refine V_aln dX0_findRule_5 rfl ?_
    refine V_getIv dX0_findRule_6 flX0_21 (by assumption) rfl (h4) ?_
    refine V_icmp_ge (tgt := 30) dX0_findRule_9 rfl (fun c9 => ?_) (fun c9 => ?_)
    · refine V_null dX0_findRule_30 ?_
      exact V_aret hM (by first | exact Or.inl ⟨_, rfl⟩ | exact Or.inr ⟨_, rfl⟩) (by first | exact Or.inl rfl | exact Or.inr ⟨_, rfl⟩) dX0_findRule_31 (mDet.rf)
    · rw [i_le, nI_toInt (by omega)] at c9
      rw [i_lt] at c1
      exact absurd ⟨by simpa using c1, by omega⟩ hx --done
theorem l_X0_brokenBits {G : mG} {o rl m w g q : Nat} (hA : ActAt sh I P o rl m) (hW : WearAt sh P w g q) (hM : mM X B "brokenBits" (some .int) 2 42 0 0 (mDet (some (.int (bitsF (fun r => rcF I w (pg P rl r) && roF I w g q (pg P rl r)) m))) nx sh I P) G) : ∀ (z i : Nat) (o4 : Option Value), i ≤ m → m - i < z → V X B RX0 cX0_brokenBits G 0 0 nx sh I P 4 [some (.ref (B + o)), some (.ref (B + w)), some (.int (bitsF (fun r => rcF I w (pg P rl r) && roF I w g q (pg P rl r)) i)), some (.int (nI i)), o4] [] := by
  obtain ⟨h1, h2, h3, h4, h5, h6⟩ := id hA
  have hw := hW.1
  intro z
  induction z with
  | zero => intro i _ _ h; omega
  | succ z ih =>
    intro i o4 hi hz
    refine V_iln dX0_brokenBits_4 rfl ?_
    refine V_aln dX0_brokenBits_5 rfl ?_
    refine V_getIv dX0_brokenBits_6 flX0_21 (by assumption) rfl (h4) ?_
    refine V_icmp_ge (tgt := 54) dX0_brokenBits_9 rfl (fun c9 => ?_) (fun c9 => ?_)
    · have c9 := nN_le c9 (by omega) (by omega)
      obtain rfl : i = m := by omega
      refine V_iln dX0_brokenBits_54 rfl ?_
      exact V_iret hM dX0_brokenBits_55 (mDet.rf)
    · have c9 := nN_nle c9 (by omega) (by omega)
      have hr := (h6 i c9).2
      refine V_aln dX0_brokenBits_12 rfl ?_
      refine V_iln dX0_brokenBits_13 rfl ?_
      refine V_cV1d hM cvX0_57 (by assumption) rfl (e_X0_findRule hA c9) ⟨Nat.le_of_ble_eq_true rfl, Nat.le_of_ble_eq_true rfl, Nat.le_of_ble_eq_true rfl, Nat.le_of_ble_eq_true rfl⟩ (Nat.le_of_ble_eq_true rfl) dX0_brokenBits_14 ?_
      refine V_as4 dX0_brokenBits_17 ?_
      refine V_al dX0_brokenBits_19 rfl ?_
      refine V_ifnull dX0_brokenBits_21 ?_
      refine V_al dX0_brokenBits_24 rfl ?_
      refine V_aln dX0_brokenBits_26 rfl ?_
      refine V_cV1d hM cvX0_61 (by assumption) rfl (e_X7_concerns hr hw) ⟨Nat.le_of_ble_eq_true rfl, Nat.le_of_ble_eq_true rfl, Nat.le_of_ble_eq_true rfl, Nat.le_of_ble_eq_true rfl⟩ (Nat.le_of_ble_eq_true rfl) dX0_brokenBits_27 ?_
      refine V_ifeq_b (tgt := 48) dX0_brokenBits_30 rfl (fun c30 => ?_) (fun c30 => ?_)
      · refine V_inc3 dX0_brokenBits_48 ?_
        refine V_goto (tgt := 4) dX0_brokenBits_51 rfl ?_
        refine V_ls ?_ (ih (i + 1) (some (.ref (B + pg P rl i))) (by omega) (by omega))
        simp [nI_inc, nI_inc', bitsF, c9, c30]
      · refine V_al dX0_brokenBits_33 rfl ?_
        refine V_aln dX0_brokenBits_35 rfl ?_
        refine V_cV1d hM cvX0_65 (by assumption) rfl (e_X7_isOffended hr hW) ⟨Nat.le_of_ble_eq_true rfl, Nat.le_of_ble_eq_true rfl, Nat.le_of_ble_eq_true rfl, Nat.le_of_ble_eq_true rfl⟩ (Nat.le_of_ble_eq_true rfl) dX0_brokenBits_36 ?_
        refine V_ifeq_b (tgt := 48) dX0_brokenBits_39 rfl (fun c39 => ?_) (fun c39 => ?_)
        · refine V_inc3 dX0_brokenBits_48 ?_
          refine V_goto (tgt := 4) dX0_brokenBits_51 rfl ?_
          refine V_ls ?_ (ih (i + 1) (some (.ref (B + pg P rl i))) (by omega) (by omega))
          simp [nI_inc, nI_inc', bitsF, c9, c30, c39]
        · refine V_iln dX0_brokenBits_42 rfl ?_
          refine V_iconst (v := 1) rfl dX0_brokenBits_43 ?_
          refine V_iln dX0_brokenBits_44 rfl ?_
          refine V_ishl dX0_brokenBits_45 ?_
          refine V_ior dX0_brokenBits_46 ?_
          refine V_is2 dX0_brokenBits_47 ?_
          refine V_inc3 dX0_brokenBits_48 ?_
          refine V_goto (tgt := 4) dX0_brokenBits_51 rfl ?_
          refine V_ls ?_ (ih (i + 1) (some (.ref (B + pg P rl i))) (by omega) (by omega))
          simp [nI_inc, nI_inc', bitsF, c9, c30, c39]
theorem e_X0_brokenBits {o rl m w g q : Nat} (hA : ActAt sh I P o rl m) (hW : WearAt sh P w g q) : Ev X B mdX0_brokenBits 0 0 [.ref (B + o), .ref (B + w)] nx sh I P (mDet (some (.int (bitsF (fun r => rcF I w (pg P rl r) && roF I w g q (pg P rl r)) m))) nx sh I P) := by
  refine Ev.of (by decide) (by simp [Value.category]) (by simp) (fun G hM => ?_)
  have hM : mM X B "brokenBits" (some FieldType.int) 2 42 0 0 _ G := hM
  show V X B RX0 cX0_brokenBits G 0 0 nx sh I P 0 [some (.ref (B + o)), some (.ref (B + w)), none, none, none] []
  refine V_iconst (v := 0) rfl dX0_brokenBits_0 ?_
  refine V_is2 dX0_brokenBits_1 ?_
  refine V_iconst (v := 0) rfl dX0_brokenBits_2 ?_
  refine V_is3 dX0_brokenBits_3 ?_
  exact l_X0_brokenBits hA hW hM (m + 1) 0 none (by omega) (by omega)
theorem l_X0_penceOf {G : mG} {o rl m : Nat} {bits : Int32} (hA : ActAt sh I P o rl m) (hM : mM X B "penceOf" (some .int) 1 21 0 0 (mDet (some (.int (sumF (fun r => if bitB bits r then I (pg P rl r) 5 else 0) m))) nx sh I P) G) : ∀ (z i : Nat) (o4 : Option Value), i ≤ m → m - i < z → V X B RX0 cX0_penceOf G 0 0 nx sh I P 4 [some (.ref (B + o)), some (.int bits), some (.int (sumF (fun r => if bitB bits r then I (pg P rl r) 5 else 0) i)), some (.int (nI i)), o4] [] := by
  obtain ⟨h1, h2, h3, h4, h5, h6⟩ := id hA
  intro z
  induction z with
  | zero => intro i _ _ h; omega
  | succ z ih =>
    intro i o4 hi hz
    refine V_iln dX0_penceOf_4 rfl ?_
    refine V_aln dX0_penceOf_5 rfl ?_
    refine V_getIv dX0_penceOf_6 flX0_21 (by assumption) rfl (h4) ?_
    refine V_icmp_ge (tgt := 47) dX0_penceOf_9 rfl (fun c9 => ?_) (fun c9 => ?_)
    · have c9 := nN_le c9 (by omega) (by omega)
      obtain rfl : i = m := by omega
      refine V_iln dX0_penceOf_47 rfl ?_
      exact V_iret hM dX0_penceOf_48 (mDet.rf)
    · have c9 := nN_nle c9 (by omega) (by omega)
      have hr := (h6 i c9).2
      refine V_aln dX0_penceOf_12 rfl ?_
      refine V_iln dX0_penceOf_13 rfl ?_
      refine V_cV1d hM cvX0_57 (by assumption) rfl (e_X0_findRule hA c9) ⟨Nat.le_of_ble_eq_true rfl, Nat.le_of_ble_eq_true rfl, Nat.le_of_ble_eq_true rfl, Nat.le_of_ble_eq_true rfl⟩ (Nat.le_of_ble_eq_true rfl) dX0_penceOf_14 ?_
      refine V_as4 dX0_penceOf_17 ?_
      refine V_al dX0_penceOf_19 rfl ?_
      refine V_ifnull dX0_penceOf_21 ?_
      refine V_iln dX0_penceOf_24 rfl ?_
      refine V_iln dX0_penceOf_25 rfl ?_
      refine V_iushr dX0_penceOf_26 ?_
      refine V_iconst (v := 1) rfl dX0_penceOf_27 ?_
      refine V_iand dX0_penceOf_28 ?_
      refine V_iconst (v := 1) rfl dX0_penceOf_29 ?_
      refine V_icmp_ne (tgt := 41) dX0_penceOf_30 rfl (fun c30 => ?_) (fun c30 => ?_)
      · have c30 : bitB bits i = false := by simp [bitB, c30]
        refine V_inc3 dX0_penceOf_41 ?_
        refine V_goto (tgt := 4) dX0_penceOf_44 rfl ?_
        refine V_ls ?_ (ih (i + 1) (some (.ref (B + pg P rl i))) (by omega) (by omega))
        simp [nI_inc, nI_inc', sumF, c9, c30]
      · have c30 : bitB bits i = true := by simpa [bitB] using c30
        refine V_iln dX0_penceOf_33 rfl ?_
        refine V_al dX0_penceOf_34 rfl ?_
        refine V_getI dX0_penceOf_36 flX0_68 (by assumption) rfl ?_
        refine V_iadd dX0_penceOf_39 ?_
        refine V_is2 dX0_penceOf_40 ?_
        refine V_inc3 dX0_penceOf_41 ?_
        refine V_goto (tgt := 4) dX0_penceOf_44 rfl ?_
        refine V_ls ?_ (ih (i + 1) (some (.ref (B + pg P rl i))) (by omega) (by omega))
        simp [nI_inc, nI_inc', sumF, c9, c30]
theorem e_X0_penceOf {o rl m : Nat} {bits : Int32} (hA : ActAt sh I P o rl m) : Ev X B mdX0_penceOf 0 0 [.ref (B + o), .int bits] nx sh I P (mDet (some (.int (sumF (fun r => if bitB bits r then I (pg P rl r) 5 else 0) m))) nx sh I P) := by
  refine Ev.of (by decide) (by simp [Value.category]) (by simp) (fun G hM => ?_)
  have hM : mM X B "penceOf" (some FieldType.int) 1 21 0 0 _ G := hM
  show V X B RX0 cX0_penceOf G 0 0 nx sh I P 0 [some (.ref (B + o)), some (.int bits), none, none, none] []
  refine V_iconst (v := 0) rfl dX0_penceOf_0 ?_
  refine V_is2 dX0_penceOf_1 ?_
  refine V_iconst (v := 0) rfl dX0_penceOf_2 ?_
  refine V_is3 dX0_penceOf_3 ?_
  exact l_X0_penceOf hA hM (m + 1) 0 none (by omega) (by omega)
end RU
