/-! ===== the codex ===== -/
def aM (I : mI) (o : Nat) : Nat := (I o 2).toNatClampNeg
def CodexAt (sh : Nat → Option mSh) (I : mI) (P : mP) (c ar n : Nat) : Prop := sh c = some (.inl 2) ∧ P c 0 = some ar ∧ sh ar = some (.inr (4, 12)) ∧ I c 1 = nI n ∧ n ≤ 12 ∧ ∀ a, a < n → P ar a = some (pg P ar a) ∧ ActAt sh I P (pg P ar a) (pg P (pg P ar a) 1) (aM I (pg P ar a))
def repF (day rep : Nat → Int32) (d : Int32) : Nat → Int32
  | 0 => 0
  | a + 1 => if day a ≤ d then repF day rep d a ||| rep a else repF day rep d a
def inFF (day rep : Nat → Int32) (d : Int32) (n : Nat) : Int32 := bitsF (fun a => decide (day a ≤ d)) n &&& (repF day rep d n ^^^ -1)
def clrF (f : Nat → Bool) (b : Int32) : Nat → Int32
  | 0 => b
  | a + 1 => if f a then clrF f b a &&& ((1 <<< (nI a &&& 31)) ^^^ -1) else clrF f b a
def ptF (bit : Nat → Bool) (pt : Nat → Int32) : Nat → Int32
  | 0 => 0
  | a + 1 => if bit a = true ∧ ¬ pt a = -1 then pt a else ptF bit pt a
def forceF (I : mI) (P : mP) (ar n : Nat) (d : Int32) : Int32 := inFF (fun a => I (pg P ar a) 0) (fun a => I (pg P ar a) 5) d n
def rchF (I : mI) (P : mP) (ar n w g : Nat) : Int32 := clrF (fun a => letF (I g 3) (I (pg P ar a) 0) (I w 3) (sdF (I (pg P ar a) 3))) (forceF I P ar n (I w 3)) n
def brkF (I : mI) (P : mP) (ar w g q a : Nat) : Int32 := bitsF (fun r => rcF I w (pg P (pg P (pg P ar a) 1) r) && roF I w g q (pg P (pg P (pg P ar a) 1) r)) (aM I (pg P ar a))
def pncF (I : mI) (P : mP) (ar w g q a : Nat) : Int32 := sumF (fun r => if bitB (brkF I P ar w g q a) r then I (pg P (pg P (pg P ar a) 1) r) 5 else 0) (aM I (pg P ar a))
def bndM (I : mI) (P : mP) (ar b lm w : Nat) (rch : Int32) : Nat → mI
  | 0 => openM I b lm
  | a + 1 => if bitB rch a then narM (bndM I P ar b lm w rch a) P b lm w (pg P (pg P ar a) 1) (aM I (pg P ar a)) else bndM I P ar b lm w rch a
theorem bndM_o {I : mI} {P : mP} {ar b lm w c j : Nat} {rch : Int32} (h1 : c ≠ b) (h2 : c ≠ lm) : ∀ a, bndM I P ar b lm w rch a c j = I c j := by
  intro a
  induction a with
  | zero => exact openM_o h1 h2
  | succ a ih =>
    unfold bndM
    split
    · rw [narM_o h1 h2, ih]
    · exact ih
def iM (k : Nat) : Int32 := nI k - 1
theorem iM_s (k : Nat) : iM (k + 1) = nI k := nI_pred k
theorem iM_d (k : Nat) : nI k + Int32.ofInt (-1) = iM k := by
  rw [iM, Int32.sub_eq_add_neg]
  rfl
theorem iM_0 : iM 0 = -1 := rfl
section CX
variable {X : mX} {B nx : Nat} {sh : Nat → Option mSh} {I : mI} {P : mP}
theorem e_X2_find {c ar n a : Nat} (hC : CodexAt sh I P c ar n) (ha : a < n) : Ev X B mdX2_find 0 0 [.ref (B + c), .int (nI a)] nx sh I P (mDet (some (.ref (B + pg P ar a))) nx sh I P) := by
  obtain ⟨h1, h2, h3, h4, h5, h6⟩ := hC
  have h7 := (h6 a ha).1
  refine Ev.of (by decide) (by simp [Value.category]) (by simp) (fun G hM => ?_)
  have hM : mM X B "find" (some (FieldType.object "GownCourt$Act")) 0 0 0 0 _ G := hM
  show V X B RX2 cX2_find G 0 0 nx sh I P 0 [some (.ref (B + c)), some (.int (nI a))] []
  refine V_iln dX2_find_0 rfl ?_
  refine V_if_lt (tgt := 30) dX2_find_1 rfl (fun c1 => ?_) (fun c1 => ?_)
  · exact absurd c1 (nI_pos (by omega)) --done
  · refine V_iln dX2_find_4 rfl ?_
    refine V_aln dX2_find_5 rfl ?_
    refine V_getIv dX2_find_6 flX2_17 (by assumption) rfl (h4) ?_
    refine V_icmp_ge (tgt := 30) dX2_find_9 rfl (fun c9 => ?_) (fun c9 => ?_)
    · exact absurd (nN_le c9 (by omega) (by omega)) (by omega) --done
    · refine V_iln dX2_find_12 rfl ?_
      refine V_aln dX2_find_13 rfl ?_
      refine V_getR dX2_find_14 flX2_11 (by assumption) rfl (by assumption) ?_
      refine V_alen dX2_find_17 (by assumption) rfl ?_
      refine V_icmp_ge (tgt := 30) dX2_find_18 rfl (fun c18 => ?_) (fun c18 => ?_)
      · exact absurd (nN_le c18 (by omega) (by omega)) (by omega) --done
      · refine V_aln dX2_find_21 rfl ?_
        refine V_getR dX2_find_22 flX2_11 (by assumption) rfl (by assumption) ?_
        refine V_iln dX2_find_25 rfl ?_
        refine V_aaldRN dX2_find_26 (by assumption) (by decide) (by omega) (by omega) (by assumption) ?_
        refine V_goto (tgt := 31) dX2_find_27 rfl ?_
        exact V_aret hM (by first | exact Or.inl ⟨_, rfl⟩ | exact Or.inr ⟨_, rfl⟩) (by first | exact Or.inl rfl | exact Or.inr ⟨_, rfl⟩) dX2_find_31 (mDet.rf)
theorem e_X2_findN {c ar n : Nat} {x : Int32} (hC : CodexAt sh I P c ar n) (hx : inB x n = false) : Ev X B mdX2_find 0 0 [.ref (B + c), .int x] nx sh I P (mDet (some .null) nx sh I P) := by
  obtain ⟨h1, h2, h3, h4, h5, -⟩ := hC
  have hx : ¬ (0 ≤ x.toInt ∧ x.toInt < n) := fun h => by rw [inB_iff.mpr h] at hx; cases hx
  refine Ev.of (by decide) (by simp [Value.category]) (by simp) (fun G hM => ?_)
  have hM : mM X B "find" (some (FieldType.object "GownCourt$Act")) 0 0 0 0 _ G := hM
  show V X B RX2 cX2_find G 0 0 nx sh I P 0 [some (.ref (B + c)), some (.int x)] []
  refine V_iln dX2_find_0 rfl ?_
  refine V_if_lt (tgt := 30) dX2_find_1 rfl (fun c1 => ?_) (fun c1 => ?_)
  · refine V_null dX2_find_30 ?_
    exact V_aret hM (by first | exact Or.inl ⟨_, rfl⟩ | exact Or.inr ⟨_, rfl⟩) (by first | exact Or.inl rfl | exact Or.inr ⟨_, rfl⟩) dX2_find_31 (mDet.rf)
  · refine V_iln dX2_find_4 rfl ?_
    refine V_aln dX2_find_5 rfl ?_
    refine V_getIv dX2_find_6 flX2_17 (by assumption) rfl (h4) ?_
    refine V_icmp_ge (tgt := 30) dX2_find_9 rfl (fun c9 => ?_) (fun c9 => ?_)
    · refine V_null dX2_find_30 ?_
      exact V_aret hM (by first | exact Or.inl ⟨_, rfl⟩ | exact Or.inr ⟨_, rfl⟩) (by first | exact Or.inl rfl | exact Or.inr ⟨_, rfl⟩) dX2_find_31 (mDet.rf)
    · rw [i_le, nI_toInt (by omega)] at c9
      rw [i_lt] at c1
      exact absurd ⟨by simpa using c1, by omega⟩ hx --done
theorem e_X2_latestFirstDay {c ar n : Nat} (hC : CodexAt sh I P c ar n) : Ev X B mdX2_latestFirstDay 0 0 [.ref (B + c)] nx sh I P (mDet (some (.int (if n = 0 then 0 else I (pg P ar (n - 1)) 0))) nx sh I P) := by
  obtain ⟨h1, h2, h3, h4, h5, h6⟩ := id hC
  refine Ev.of (by decide) (by simp [Value.category]) (by simp) (fun G hM => ?_)
  have hM : mM X B "latestFirstDay" (some FieldType.int) 1 21 0 0 _ G := hM
  show V X B RX2 cX2_latestFirstDay G 0 0 nx sh I P 0 [some (.ref (B + c)), none] []
  rcases Nat.eq_zero_or_pos n with hn | hn
  · subst hn
    refine V_aln dX2_latestFirstDay_0 rfl ?_
    refine V_aln dX2_latestFirstDay_1 rfl ?_
    refine V_getIv dX2_latestFirstDay_2 flX2_17 (by assumption) rfl (h4) ?_
    refine V_iconst (v := 1) rfl dX2_latestFirstDay_5 ?_
    refine V_isub dX2_latestFirstDay_6 ?_
    refine V_cV1d hM cvX2_21 (by assumption) rfl (e_X2_findN hC (by decide)) ⟨Nat.le_of_ble_eq_true rfl, Nat.le_of_ble_eq_true rfl, Nat.le_of_ble_eq_true rfl, Nat.le_of_ble_eq_true rfl⟩ (Nat.le_of_ble_eq_true rfl) dX2_latestFirstDay_7 ?_
    refine V_an1 dX2_latestFirstDay_10 ?_
    refine V_alnN dX2_latestFirstDay_11 rfl ?_
    refine V_ifnonnullN dX2_latestFirstDay_12 ?_
    refine V_iconst (v := 0) rfl dX2_latestFirstDay_15 ?_
    refine V_goto (tgt := 23) dX2_latestFirstDay_16 rfl ?_
    exact V_iret hM dX2_latestFirstDay_23 (mDet.rf)
  · obtain ⟨k, rfl⟩ : ∃ k, n = k + 1 := ⟨n - 1, by omega⟩
    have hk := (h6 k (by omega)).2.1
    refine V_aln dX2_latestFirstDay_0 rfl ?_
    refine V_aln dX2_latestFirstDay_1 rfl ?_
    refine V_getIv dX2_latestFirstDay_2 flX2_17 (by assumption) rfl (h4) ?_
    refine V_iconst (v := 1) rfl dX2_latestFirstDay_5 ?_
    refine V_isub dX2_latestFirstDay_6 ?_
    refine V_top (nI_pred k) ?_
    refine V_cV1d hM cvX2_21 (by assumption) rfl (e_X2_find hC (by omega)) ⟨Nat.le_of_ble_eq_true rfl, Nat.le_of_ble_eq_true rfl, Nat.le_of_ble_eq_true rfl, Nat.le_of_ble_eq_true rfl⟩ (Nat.le_of_ble_eq_true rfl) dX2_latestFirstDay_7 ?_
    refine V_as1 dX2_latestFirstDay_10 ?_
    refine V_aln dX2_latestFirstDay_11 rfl ?_
    refine V_ifnonnull (tgt := 19) dX2_latestFirstDay_12 rfl ?_
    refine V_aln dX2_latestFirstDay_19 rfl ?_
    refine V_getI dX2_latestFirstDay_20 flX2_25 (by assumption) rfl ?_
    exact V_iret hM dX2_latestFirstDay_23 (⟨by simp, rfl, rfl, rfl, rfl⟩)
theorem e_X2_add {c ar n o : Nat} {day : Int32} (h1 : sh c = some (.inl 2)) (h2 : P c 0 = some ar) (h3 : sh ar = some (.inr (4, 12))) (h4 : I c 1 = nI n) (hn : n < 12) (ho : sh o = some (.inl 0)) : Ev X B mdX2_add 0 0 [.ref (B + c), .ref (B + o), .int day] nx sh I P (mDet none nx sh (mUp (mUp I o 0 day) c 1 (nI (n + 1))) (mUp P ar n (some o))) := by
  have n1 : c ≠ o := sh_ne h1 ho (by decide)
  have h4' : mUp I o 0 day c 1 = nI n := by rw [mUp_c n1]; exact h4
  refine Ev.of (by decide) (by simp [Value.category]) (by simp) (fun G hM => ?_)
  have hM : mM X B "add" none 0 0 0 0 _ G := hM
  show V X B RX2 cX2_add G 0 0 nx sh I P 0 [some (.ref (B + c)), some (.ref (B + o)), some (.int day)] []
  refine V_aln dX2_add_0 rfl ?_
  refine V_getIv dX2_add_1 flX2_17 (by assumption) rfl (h4) ?_
  refine V_aln dX2_add_4 rfl ?_
  refine V_getR dX2_add_5 flX2_11 (by assumption) rfl (by assumption) ?_
  refine V_alen dX2_add_8 (by assumption) rfl ?_
  refine V_icmp_ge (tgt := 37) dX2_add_9 rfl (fun c9 => ?_) (fun c9 => ?_)
  · exact absurd (nN_le c9 (by omega) (by omega)) (by omega) --done
  · refine V_aln dX2_add_12 rfl ?_
    refine V_iln dX2_add_13 rfl ?_
    refine V_putI dX2_add_14 flX2_25 (by assumption) rfl rfl ?_
    refine V_aln dX2_add_17 rfl ?_
    refine V_getR dX2_add_18 flX2_11 (by assumption) rfl (by assumption) ?_
    refine V_aln dX2_add_21 rfl ?_
    refine V_getIv dX2_add_22 flX2_17 (by assumption) rfl (h4') ?_
    refine V_aln dX2_add_25 rfl ?_
    refine V_aastN dX2_add_26 (by assumption) (by decide) (by assumption) (by omega) (by omega) ?_
    refine V_aln dX2_add_27 rfl ?_
    refine V_dup rfl dX2_add_28 ?_
    refine V_getIv dX2_add_29 flX2_17 (by assumption) rfl (h4') ?_
    refine V_iconst (v := 1) rfl dX2_add_32 ?_
    refine V_iadd dX2_add_33 ?_
    refine V_top (nI_inc' n) ?_
    refine V_putI dX2_add_34 flX2_17 (by assumption) rfl rfl ?_
    exact V_vret hM dX2_add_37 (mDet.rf)
theorem l_X2_inForce {G : mG} {c ar n : Nat} {d : Int32} (hC : CodexAt sh I P c ar n) (hM : mM X B "inForce" (some .int) 1 21 0 0 (mDet (some (.int (forceF I P ar n d))) nx sh I P) G) : ∀ (z i : Nat) (o5 : Option Value), i ≤ n → n - i < z → V X B RX2 cX2_inForce G 0 0 nx sh I P 7 [some (.ref (B + c)), some (.int d), some (.int (bitsF (fun a => decide (I (pg P ar a) 0 ≤ d)) i)), some (.int (repF (fun a => I (pg P ar a) 0) (fun a => I (pg P ar a) 5) d i)), some (.int (nI i)), o5] [] := by
  obtain ⟨h1, h2, h3, h4, h5, h6⟩ := id hC
  intro z
  induction z with
  | zero => intro i _ _ h; omega
  | succ z ih =>
    intro i o5 hi hz
    refine V_il dX2_inForce_7 rfl ?_
    refine V_aln dX2_inForce_9 rfl ?_
    refine V_getIv dX2_inForce_10 flX2_17 (by assumption) rfl (h4) ?_
    refine V_icmp_ge (tgt := 59) dX2_inForce_13 rfl (fun c13 => ?_) (fun c13 => ?_)
    · have c13 := nN_le c13 (by omega) (by omega)
      obtain rfl : i = n := by omega
      refine V_iln dX2_inForce_59 rfl ?_
      refine V_iln dX2_inForce_60 rfl ?_
      refine V_iconst (v := -1) rfl dX2_inForce_61 ?_
      refine V_ixor dX2_inForce_62 ?_
      refine V_iand dX2_inForce_63 ?_
      exact V_iret hM dX2_inForce_64 (mDet.rf)
    · have c13 := nN_nle c13 (by omega) (by omega)
      have hr := (h6 i c13).2.1
      refine V_aln dX2_inForce_16 rfl ?_
      refine V_il dX2_inForce_17 rfl ?_
      refine V_cV1d hM cvX2_21 (by assumption) rfl (e_X2_find hC c13) ⟨Nat.le_of_ble_eq_true rfl, Nat.le_of_ble_eq_true rfl, Nat.le_of_ble_eq_true rfl, Nat.le_of_ble_eq_true rfl⟩ (Nat.le_of_ble_eq_true rfl) dX2_inForce_19 ?_
      refine V_as5 dX2_inForce_22 ?_
      refine V_al dX2_inForce_24 rfl ?_
      refine V_ifnull dX2_inForce_26 ?_
      refine V_al dX2_inForce_29 rfl ?_
      refine V_getI dX2_inForce_31 flX2_25 (by assumption) rfl ?_
      refine V_iln dX2_inForce_34 rfl ?_
      refine V_icmp_gt (tgt := 53) dX2_inForce_35 rfl (fun c35 => ?_) (fun c35 => ?_)
      · have c35 := i_lt_nle c35
        refine V_inc4 dX2_inForce_53 ?_
        refine V_goto (tgt := 7) dX2_inForce_56 rfl ?_
        refine V_ls ?_ (ih (i + 1) (some (.ref (B + pg P ar i))) (by omega) (by omega))
        simp [nI_inc, nI_inc', bitsF, repF, c13, c35]
      · have c35 := i_nlt c35
        refine V_iln dX2_inForce_38 rfl ?_
        refine V_iconst (v := 1) rfl dX2_inForce_39 ?_
        refine V_il dX2_inForce_40 rfl ?_
        refine V_ishl dX2_inForce_42 ?_
        refine V_ior dX2_inForce_43 ?_
        refine V_is2 dX2_inForce_44 ?_
        refine V_iln dX2_inForce_45 rfl ?_
        refine V_al dX2_inForce_46 rfl ?_
        refine V_getI dX2_inForce_48 flX2_28 (by assumption) rfl ?_
        refine V_ior dX2_inForce_51 ?_
        refine V_is3 dX2_inForce_52 ?_
        refine V_inc4 dX2_inForce_53 ?_
        refine V_goto (tgt := 7) dX2_inForce_56 rfl ?_
        refine V_ls ?_ (ih (i + 1) (some (.ref (B + pg P ar i))) (by omega) (by omega))
        simp [nI_inc, nI_inc', bitsF, repF, c13, c35]
theorem e_X2_inForce {c ar n : Nat} {d : Int32} (hC : CodexAt sh I P c ar n) : Ev X B mdX2_inForce 0 0 [.ref (B + c), .int d] nx sh I P (mDet (some (.int (forceF I P ar n d))) nx sh I P) := by
  refine Ev.of (by decide) (by simp [Value.category]) (by simp) (fun G hM => ?_)
  have hM : mM X B "inForce" (some FieldType.int) 1 21 0 0 _ G := hM
  show V X B RX2 cX2_inForce G 0 0 nx sh I P 0 [some (.ref (B + c)), some (.int d), none, none, none, none] []
  refine V_iconst (v := 0) rfl dX2_inForce_0 ?_
  refine V_is2 dX2_inForce_1 ?_
  refine V_iconst (v := 0) rfl dX2_inForce_2 ?_
  refine V_is3 dX2_inForce_3 ?_
  refine V_iconst (v := 0) rfl dX2_inForce_4 ?_
  refine V_is4 dX2_inForce_5 ?_
  exact l_X2_inForce hC hM (n + 1) 0 none (by omega) (by omega)
theorem e_X2_among {c ar n a : Nat} {bits : Int32} (hC : CodexAt sh I P c ar n) (ha : a < n) (hb : bitB bits a = true) : Ev X B mdX2_among 0 0 [.ref (B + c), .int bits, .int (nI a)] nx sh I P (mDet (some (.ref (B + pg P ar a))) nx sh I P) := by
  have h1 := hC.1
  have hb : mUshr bits (nI a) &&& 1 = 1 := by simpa [bitB] using hb
  refine Ev.of (by decide) (by simp [Value.category]) (by simp) (fun G hM => ?_)
  have hM : mM X B "among" (some (FieldType.object "GownCourt$Act")) 1 21 0 0 _ G := hM
  show V X B RX2 cX2_among G 0 0 nx sh I P 0 [some (.ref (B + c)), some (.int bits), some (.int (nI a))] []
  refine V_iln dX2_among_0 rfl ?_
  refine V_iln dX2_among_1 rfl ?_
  refine V_iushr dX2_among_2 ?_
  refine V_iconst (v := 1) rfl dX2_among_3 ?_
  refine V_iand dX2_among_4 ?_
  refine V_iconst (v := 1) rfl dX2_among_5 ?_
  refine V_icmp_ne (tgt := 17) dX2_among_6 rfl (fun c6 => ?_) (fun c6 => ?_)
  · exact absurd hb c6 --done
  · refine V_aln dX2_among_9 rfl ?_
    refine V_iln dX2_among_10 rfl ?_
    refine V_cV1d hM cvX2_21 (by assumption) rfl (e_X2_find hC ha) ⟨Nat.le_of_ble_eq_true rfl, Nat.le_of_ble_eq_true rfl, Nat.le_of_ble_eq_true rfl, Nat.le_of_ble_eq_true rfl⟩ (Nat.le_of_ble_eq_true rfl) dX2_among_11 ?_
    refine V_goto (tgt := 18) dX2_among_14 rfl ?_
    exact V_aret hM (by first | exact Or.inl ⟨_, rfl⟩ | exact Or.inr ⟨_, rfl⟩) (by first | exact Or.inl rfl | exact Or.inr ⟨_, rfl⟩) dX2_among_18 (mDet.rf)
theorem e_X2_amongN {c a : Nat} {bits : Int32} (h1 : sh c = some (.inl 2)) (hb : bitB bits a = false) : Ev X B mdX2_among 0 0 [.ref (B + c), .int bits, .int (nI a)] nx sh I P (mDet (some .null) nx sh I P) := by
  have hb : ¬ mUshr bits (nI a) &&& 1 = 1 := by simpa [bitB] using hb
  refine Ev.of (by decide) (by simp [Value.category]) (by simp) (fun G hM => ?_)
  have hM : mM X B "among" (some (FieldType.object "GownCourt$Act")) 1 21 0 0 _ G := hM
  show V X B RX2 cX2_among G 0 0 nx sh I P 0 [some (.ref (B + c)), some (.int bits), some (.int (nI a))] []
  refine V_iln dX2_among_0 rfl ?_
  refine V_iln dX2_among_1 rfl ?_
  refine V_iushr dX2_among_2 ?_
  refine V_iconst (v := 1) rfl dX2_among_3 ?_
  refine V_iand dX2_among_4 ?_
  refine V_iconst (v := 1) rfl dX2_among_5 ?_
  refine V_icmp_ne (tgt := 17) dX2_among_6 rfl (fun c6 => ?_) (fun c6 => ?_)
  · refine V_null dX2_among_17 ?_
    exact V_aret hM (by first | exact Or.inl ⟨_, rfl⟩ | exact Or.inr ⟨_, rfl⟩) (by first | exact Or.inl rfl | exact Or.inr ⟨_, rfl⟩) dX2_among_18 (mDet.rf)
  · first | exact absurd c6 hb | exact absurd (Classical.not_not.mp c6) hb --done
theorem l_X2_partOn {G : mG} {c ar n : Nat} {d : Int32} (hC : CodexAt sh I P c ar n) (hM : mM X B "partOn" (some .int) 2 46 0 0 (mDet (some (.int (ptF (bitB (forceF I P ar n d)) (fun a => I (pg P ar a) 4) n))) nx sh I P) G) : ∀ (k : Nat) (o4 : Option Value), k ≤ n → ptF (bitB (forceF I P ar n d)) (fun a => I (pg P ar a) 4) k = ptF (bitB (forceF I P ar n d)) (fun a => I (pg P ar a) 4) n → V X B RX2 cX2_partOn G 0 0 nx sh I P 13 [some (.ref (B + c)), some (.int d), some (.int (forceF I P ar n d)), some (.int (iM k)), o4] [] := by
  obtain ⟨h1, h2, h3, h4, h5, h6⟩ := id hC
  intro k
  induction k with
  | zero =>
    intro o4 hk he
    refine V_iln dX2_partOn_13 rfl ?_
    refine V_if_lt (tgt := 51) dX2_partOn_14 rfl (fun c14 => ?_) (fun c14 => ?_)
    · refine V_iconst (v := 0) rfl dX2_partOn_51 ?_
      exact V_iret hM dX2_partOn_52 (⟨by rw [← he]; rfl, rfl, rfl, rfl, rfl⟩)
    · exact absurd (by decide) c14 --done
  | succ k ih =>
    intro o4 hk he
    rw [iM_s]
    have hr := (h6 k (by omega)).2.1
    refine V_iln dX2_partOn_13 rfl ?_
    refine V_if_lt (tgt := 51) dX2_partOn_14 rfl (fun c14 => ?_) (fun c14 => ?_)
    · exact absurd c14 (nI_pos (by omega)) --done
    · refine V_aln dX2_partOn_17 rfl ?_
      refine V_iln dX2_partOn_18 rfl ?_
      refine V_iln dX2_partOn_19 rfl ?_
      by_cases hb : bitB (forceF I P ar n d) k = true
      · refine V_cV2d hM cvX2_35 (by assumption) rfl (e_X2_among hC (by omega) hb) ⟨Nat.le_of_ble_eq_true rfl, Nat.le_of_ble_eq_true rfl, Nat.le_of_ble_eq_true rfl, Nat.le_of_ble_eq_true rfl⟩ (Nat.le_of_ble_eq_true rfl) dX2_partOn_20 ?_
        refine V_as4 dX2_partOn_23 ?_
        refine V_al dX2_partOn_25 rfl ?_
        refine V_ifnull dX2_partOn_27 ?_
        refine V_al dX2_partOn_30 rfl ?_
        refine V_getI dX2_partOn_32 flX2_39 (by assumption) rfl ?_
        refine V_iconst (v := -1) rfl dX2_partOn_35 ?_
        refine V_icmp_eq (tgt := 45) dX2_partOn_36 rfl (fun c36 => ?_) (fun c36 => ?_)
        · refine V_inc3 dX2_partOn_45 ?_
          refine V_goto (tgt := 13) dX2_partOn_48 rfl ?_
          rw [iM_d]
          exact ih _ (by omega) (by rw [← he]; simp [ptF, c14, hb, c36])
        · refine V_al dX2_partOn_39 rfl ?_
          refine V_getI dX2_partOn_41 flX2_39 (by assumption) rfl ?_
          exact V_iret hM dX2_partOn_44 (⟨by rw [← he]; simp [ptF, c14, hb, c36], rfl, rfl, rfl, rfl⟩)
      · refine V_cV2d hM cvX2_35 (by assumption) rfl (e_X2_amongN h1 (by simpa using hb)) ⟨Nat.le_of_ble_eq_true rfl, Nat.le_of_ble_eq_true rfl, Nat.le_of_ble_eq_true rfl, Nat.le_of_ble_eq_true rfl⟩ (Nat.le_of_ble_eq_true rfl) dX2_partOn_20 ?_
        refine V_an4 dX2_partOn_23 ?_
        refine V_alN dX2_partOn_25 rfl ?_
        refine V_ifnullN (tgt := 45) dX2_partOn_27 rfl ?_
        refine V_inc3 dX2_partOn_45 ?_
        refine V_goto (tgt := 13) dX2_partOn_48 rfl ?_
        rw [iM_d]
        exact ih _ (by omega) (by rw [← he]; simp [ptF, c14, hb])
theorem e_X2_partOn {c ar n : Nat} {d : Int32} (hC : CodexAt sh I P c ar n) : Ev X B mdX2_partOn 0 0 [.ref (B + c), .int d] nx sh I P (mDet (some (.int (ptF (bitB (forceF I P ar n d)) (fun a => I (pg P ar a) 4) n))) nx sh I P) := by
  obtain ⟨h1, h2, h3, h4, h5, h6⟩ := id hC
  refine Ev.of (by decide) (by simp [Value.category]) (by simp) (fun G hM => ?_)
  have hM : mM X B "partOn" (some FieldType.int) 2 46 0 0 _ G := hM
  show V X B RX2 cX2_partOn G 0 0 nx sh I P 0 [some (.ref (B + c)), some (.int d), none, none, none] []
  refine V_aln dX2_partOn_0 rfl ?_
  refine V_iln dX2_partOn_1 rfl ?_
  refine V_cV1d hM cvX2_31 (by assumption) rfl (e_X2_inForce hC) ⟨Nat.le_of_ble_eq_true rfl, Nat.le_of_ble_eq_true rfl, Nat.le_of_ble_eq_true rfl, Nat.le_of_ble_eq_true rfl⟩ (Nat.le_of_ble_eq_true rfl) dX2_partOn_2 ?_
  refine V_is2 dX2_partOn_5 ?_
  refine V_aln dX2_partOn_6 rfl ?_
  refine V_getIv dX2_partOn_7 flX2_17 (by assumption) rfl (h4) ?_
  refine V_iconst (v := 1) rfl dX2_partOn_10 ?_
  refine V_isub dX2_partOn_11 ?_
  refine V_is3 dX2_partOn_12 ?_
  exact l_X2_partOn hC hM n none (Nat.le_refl n) rfl
theorem l_X2_reaching {G : mG} {c ar n w g q : Nat} (hC : CodexAt sh I P c ar n) (hW : WearAt sh P w g q) (hM : mM X B "reaching" (some .int) 3 63 0 0 (mDet (some (.int (rchF I P ar n w g))) nx sh I P) G) : ∀ (z i : Nat) (o4 : Option Value), i ≤ n → n - i < z → V X B RX2 cX2_reaching G 0 0 nx sh I P 11 [some (.ref (B + c)), some (.ref (B + w)), some (.int (clrF (fun a => letF (I g 3) (I (pg P ar a) 0) (I w 3) (sdF (I (pg P ar a) 3))) (forceF I P ar n (I w 3)) i)), some (.int (nI i)), o4] [] := by
  obtain ⟨h1, h2, h3, h4, h5, h6⟩ := id hC
  intro z
  induction z with
  | zero => intro i _ _ h; omega
  | succ z ih =>
    intro i o4 hi hz
    refine V_iln dX2_reaching_11 rfl ?_
    refine V_aln dX2_reaching_12 rfl ?_
    refine V_getIv dX2_reaching_13 flX2_17 (by assumption) rfl (h4) ?_
    refine V_icmp_ge (tgt := 54) dX2_reaching_16 rfl (fun c16 => ?_) (fun c16 => ?_)
    · have c16 := nN_le c16 (by omega) (by omega)
      obtain rfl : i = n := by omega
      refine V_iln dX2_reaching_54 rfl ?_
      exact V_iret hM dX2_reaching_55 (mDet.rf)
    · have c16 := nN_nle c16 (by omega) (by omega)
      have hr := (h6 i c16).2.1
      refine V_aln dX2_reaching_19 rfl ?_
      refine V_iln dX2_reaching_20 rfl ?_
      refine V_cV1d hM cvX2_21 (by assumption) rfl (e_X2_find hC c16) ⟨Nat.le_of_ble_eq_true rfl, Nat.le_of_ble_eq_true rfl, Nat.le_of_ble_eq_true rfl, Nat.le_of_ble_eq_true rfl⟩ (Nat.le_of_ble_eq_true rfl) dX2_reaching_21 ?_
      refine V_as4 dX2_reaching_24 ?_
      refine V_al dX2_reaching_26 rfl ?_
      refine V_ifnull dX2_reaching_28 ?_
      refine V_al dX2_reaching_31 rfl ?_
      refine V_aln dX2_reaching_33 rfl ?_
      refine V_cV1d hM cvX2_47 (by assumption) rfl (e_X0_lets hr hW) ⟨Nat.le_of_ble_eq_true rfl, Nat.le_of_ble_eq_true rfl, Nat.le_of_ble_eq_true rfl, Nat.le_of_ble_eq_true rfl⟩ (Nat.le_of_ble_eq_true rfl) dX2_reaching_34 ?_
      refine V_ifeq_b (tgt := 48) dX2_reaching_37 rfl (fun c37 => ?_) (fun c37 => ?_)
      · refine V_inc3 dX2_reaching_48 ?_
        refine V_goto (tgt := 11) dX2_reaching_51 rfl ?_
        refine V_ls ?_ (ih (i + 1) (some (.ref (B + pg P ar i))) (by omega) (by omega))
        simp [nI_inc, nI_inc', clrF, c16, c37]
      · refine V_iln dX2_reaching_40 rfl ?_
        refine V_iconst (v := 1) rfl dX2_reaching_41 ?_
        refine V_iln dX2_reaching_42 rfl ?_
        refine V_ishl dX2_reaching_43 ?_
        refine V_iconst (v := -1) rfl dX2_reaching_44 ?_
        refine V_ixor dX2_reaching_45 ?_
        refine V_iand dX2_reaching_46 ?_
        refine V_is2 dX2_reaching_47 ?_
        refine V_inc3 dX2_reaching_48 ?_
        refine V_goto (tgt := 11) dX2_reaching_51 rfl ?_
        refine V_ls ?_ (ih (i + 1) (some (.ref (B + pg P ar i))) (by omega) (by omega))
        simp [nI_inc, nI_inc', clrF, c16, c37]
theorem e_X2_reaching {c ar n w g q : Nat} (hC : CodexAt sh I P c ar n) (hW : WearAt sh P w g q) : Ev X B mdX2_reaching 0 0 [.ref (B + c), .ref (B + w)] nx sh I P (mDet (some (.int (rchF I P ar n w g))) nx sh I P) := by
  have h1 := hC.1
  have h2 := hW.1
  refine Ev.of (by decide) (by simp [Value.category]) (by simp) (fun G hM => ?_)
  have hM : mM X B "reaching" (some FieldType.int) 3 63 0 0 _ G := hM
  show V X B RX2 cX2_reaching G 0 0 nx sh I P 0 [some (.ref (B + c)), some (.ref (B + w)), none, none, none] []
  refine V_aln dX2_reaching_0 rfl ?_
  refine V_aln dX2_reaching_1 rfl ?_
  refine V_getI dX2_reaching_2 flX2_42 (by assumption) rfl ?_
  refine V_cV1d hM cvX2_31 (by assumption) rfl (e_X2_inForce hC) ⟨Nat.le_of_ble_eq_true rfl, Nat.le_of_ble_eq_true rfl, Nat.le_of_ble_eq_true rfl, Nat.le_of_ble_eq_true rfl⟩ (Nat.le_of_ble_eq_true rfl) dX2_reaching_5 ?_
  refine V_is2 dX2_reaching_8 ?_
  refine V_iconst (v := 0) rfl dX2_reaching_9 ?_
  refine V_is3 dX2_reaching_10 ?_
  exact l_X2_reaching hC hW hM (n + 1) 0 none (by omega) (by omega)
theorem e_X2_brokenRules {c ar n w g q a : Nat} (hC : CodexAt sh I P c ar n) (hW : WearAt sh P w g q) (ha : a < n) : Ev X B mdX2_brokenRules 0 0 [.ref (B + c), .int (nI a), .ref (B + w)] nx sh I P (mDet (some (.int (if bitB (rchF I P ar n w g) a then brkF I P ar w g q a else 0))) nx sh I P) := by
  have h1 := hC.1
  have h2 := hW.1
  have hA := (hC.2.2.2.2.2 a ha).2
  have hA1 := hA.1
  refine Ev.of (by decide) (by simp [Value.category]) (by simp) (fun G hM => ?_)
  have hM : mM X B "brokenRules" (some FieldType.int) 4 87 0 0 _ G := hM
  show V X B RX2 cX2_brokenRules G 0 0 nx sh I P 0 [some (.ref (B + c)), some (.int (nI a)), some (.ref (B + w)), none] []
  refine V_aln dX2_brokenRules_0 rfl ?_
  refine V_aln dX2_brokenRules_1 rfl ?_
  refine V_aln dX2_brokenRules_2 rfl ?_
  refine V_cV1d hM cvX2_51 (by assumption) rfl (e_X2_reaching hC hW) ⟨Nat.le_of_ble_eq_true rfl, Nat.le_of_ble_eq_true rfl, Nat.le_of_ble_eq_true rfl, Nat.le_of_ble_eq_true rfl⟩ (Nat.le_of_ble_eq_true rfl) dX2_brokenRules_3 ?_
  refine V_iln dX2_brokenRules_6 rfl ?_
  by_cases hb : bitB (rchF I P ar n w g) a = true
  · refine V_cV2d hM cvX2_35 (by assumption) rfl (e_X2_among hC ha hb) ⟨Nat.le_of_ble_eq_true rfl, Nat.le_of_ble_eq_true rfl, Nat.le_of_ble_eq_true rfl, Nat.le_of_ble_eq_true rfl⟩ (Nat.le_of_ble_eq_true rfl) dX2_brokenRules_7 ?_
    refine V_as3 dX2_brokenRules_10 ?_
    refine V_aln dX2_brokenRules_11 rfl ?_
    refine V_ifnonnull (tgt := 19) dX2_brokenRules_12 rfl ?_
    refine V_aln dX2_brokenRules_19 rfl ?_
    refine V_aln dX2_brokenRules_20 rfl ?_
    refine V_cV1d hM cvX2_55 (by assumption) rfl (e_X0_brokenBits hA hW) ⟨Nat.le_of_ble_eq_true rfl, Nat.le_of_ble_eq_true rfl, Nat.le_of_ble_eq_true rfl, Nat.le_of_ble_eq_true rfl⟩ (Nat.le_of_ble_eq_true rfl) dX2_brokenRules_21 ?_
    exact V_iret hM dX2_brokenRules_24 (⟨by simp [hb, brkF], rfl, rfl, rfl, rfl⟩)
  · refine V_cV2d hM cvX2_35 (by assumption) rfl (e_X2_amongN h1 (by simpa using hb)) ⟨Nat.le_of_ble_eq_true rfl, Nat.le_of_ble_eq_true rfl, Nat.le_of_ble_eq_true rfl, Nat.le_of_ble_eq_true rfl⟩ (Nat.le_of_ble_eq_true rfl) dX2_brokenRules_7 ?_
    refine V_an3 dX2_brokenRules_10 ?_
    refine V_alnN dX2_brokenRules_11 rfl ?_
    refine V_ifnonnullN dX2_brokenRules_12 ?_
    refine V_iconst (v := 0) rfl dX2_brokenRules_15 ?_
    refine V_goto (tgt := 24) dX2_brokenRules_16 rfl ?_
    exact V_iret hM dX2_brokenRules_24 (⟨by simp [hb, brkF], rfl, rfl, rfl, rfl⟩)
theorem l_X2_penceOfBroken {G : mG} {c ar n w g q : Nat} (hC : CodexAt sh I P c ar n) (hW : WearAt sh P w g q) (hM : mM X B "penceOfBroken" (some .int) 4 87 0 0 (mDet (some (.int (sumF (fun a => if bitB (rchF I P ar n w g) a then pncF I P ar w g q a else 0) n))) nx sh I P) G) : ∀ (z i : Nat) (o5 : Option Value), i ≤ n → n - i < z → V X B RX2 cX2_penceOfBroken G 0 0 nx sh I P 11 [some (.ref (B + c)), some (.ref (B + w)), some (.int (rchF I P ar n w g)), some (.int (sumF (fun a => if bitB (rchF I P ar n w g) a then pncF I P ar w g q a else 0) i)), some (.int (nI i)), o5] [] := by
  obtain ⟨h1, h2, h3, h4, h5, h6⟩ := id hC
  intro z
  induction z with
  | zero => intro i _ _ h; omega
  | succ z ih =>
    intro i o5 hi hz
    refine V_il dX2_penceOfBroken_11 rfl ?_
    refine V_aln dX2_penceOfBroken_13 rfl ?_
    refine V_getIv dX2_penceOfBroken_14 flX2_17 (by assumption) rfl (h4) ?_
    refine V_icmp_ge (tgt := 54) dX2_penceOfBroken_17 rfl (fun c17 => ?_) (fun c17 => ?_)
    · have c17 := nN_le c17 (by omega) (by omega)
      obtain rfl : i = n := by omega
      refine V_iln dX2_penceOfBroken_54 rfl ?_
      exact V_iret hM dX2_penceOfBroken_55 (mDet.rf)
    · have c17 := nN_nle c17 (by omega) (by omega)
      have hA := (h6 i c17).2
      have hA1 := hA.1
      refine V_aln dX2_penceOfBroken_20 rfl ?_
      refine V_iln dX2_penceOfBroken_21 rfl ?_
      refine V_il dX2_penceOfBroken_22 rfl ?_
      by_cases hb : bitB (rchF I P ar n w g) i = true
      · refine V_cV2d hM cvX2_35 (by assumption) rfl (e_X2_among hC c17 hb) ⟨Nat.le_of_ble_eq_true rfl, Nat.le_of_ble_eq_true rfl, Nat.le_of_ble_eq_true rfl, Nat.le_of_ble_eq_true rfl⟩ (Nat.le_of_ble_eq_true rfl) dX2_penceOfBroken_24 ?_
        refine V_as5 dX2_penceOfBroken_27 ?_
        refine V_al dX2_penceOfBroken_29 rfl ?_
        refine V_ifnull dX2_penceOfBroken_31 ?_
        refine V_iln dX2_penceOfBroken_34 rfl ?_
        refine V_al dX2_penceOfBroken_35 rfl ?_
        refine V_al dX2_penceOfBroken_37 rfl ?_
        refine V_aln dX2_penceOfBroken_39 rfl ?_
        refine V_cV1d hM cvX2_55 (by assumption) rfl (e_X0_brokenBits hA hW) ⟨Nat.le_of_ble_eq_true rfl, Nat.le_of_ble_eq_true rfl, Nat.le_of_ble_eq_true rfl, Nat.le_of_ble_eq_true rfl⟩ (Nat.le_of_ble_eq_true rfl) dX2_penceOfBroken_40 ?_
        refine V_cV1d hM cvX2_58 (by assumption) rfl (e_X0_penceOf hA) ⟨Nat.le_of_ble_eq_true rfl, Nat.le_of_ble_eq_true rfl, Nat.le_of_ble_eq_true rfl, Nat.le_of_ble_eq_true rfl⟩ (Nat.le_of_ble_eq_true rfl) dX2_penceOfBroken_43 ?_
        refine V_iadd dX2_penceOfBroken_46 ?_
        refine V_is3 dX2_penceOfBroken_47 ?_
        refine V_inc4 dX2_penceOfBroken_48 ?_
        refine V_goto (tgt := 11) dX2_penceOfBroken_51 rfl ?_
        first | (refine V_ls ?_ (ih (i + 1) (some (.ref (B + pg P ar i))) (by omega) (by omega)); simp only [sumF, hb, if_true]; rw [nI_inc]; rfl) | (refine V_ls ?_ (ih (i + 1) (some .null) (by omega) (by omega)); simp [nI_inc, nI_inc', sumF, c17, hb]; done)
      · refine V_cV2d hM cvX2_35 (by assumption) rfl (e_X2_amongN h1 (by simpa using hb)) ⟨Nat.le_of_ble_eq_true rfl, Nat.le_of_ble_eq_true rfl, Nat.le_of_ble_eq_true rfl, Nat.le_of_ble_eq_true rfl⟩ (Nat.le_of_ble_eq_true rfl) dX2_penceOfBroken_24 ?_
        refine V_an5 dX2_penceOfBroken_27 ?_
        refine V_alN dX2_penceOfBroken_29 rfl ?_
        refine V_ifnullN (tgt := 48) dX2_penceOfBroken_31 rfl ?_
        refine V_inc4 dX2_penceOfBroken_48 ?_
        refine V_goto (tgt := 11) dX2_penceOfBroken_51 rfl ?_
        first | (refine V_ls ?_ (ih (i + 1) (some (.ref (B + pg P ar i))) (by omega) (by omega)); simp only [sumF, hb, if_true]; rw [nI_inc]; rfl) | (refine V_ls ?_ (ih (i + 1) (some .null) (by omega) (by omega)); simp [nI_inc, nI_inc', sumF, c17, hb]; done)
theorem e_X2_penceOfBroken {c ar n w g q : Nat} (hC : CodexAt sh I P c ar n) (hW : WearAt sh P w g q) : Ev X B mdX2_penceOfBroken 0 0 [.ref (B + c), .ref (B + w)] nx sh I P (mDet (some (.int (sumF (fun a => if bitB (rchF I P ar n w g) a then pncF I P ar w g q a else 0) n))) nx sh I P) := by
  have h1 := hC.1
  refine Ev.of (by decide) (by simp [Value.category]) (by simp) (fun G hM => ?_)
  have hM : mM X B "penceOfBroken" (some FieldType.int) 4 87 0 0 _ G := hM
  show V X B RX2 cX2_penceOfBroken G 0 0 nx sh I P 0 [some (.ref (B + c)), some (.ref (B + w)), none, none, none, none] []
  refine V_aln dX2_penceOfBroken_0 rfl ?_
  refine V_aln dX2_penceOfBroken_1 rfl ?_
  refine V_cV1d hM cvX2_51 (by assumption) rfl (e_X2_reaching hC hW) ⟨Nat.le_of_ble_eq_true rfl, Nat.le_of_ble_eq_true rfl, Nat.le_of_ble_eq_true rfl, Nat.le_of_ble_eq_true rfl⟩ (Nat.le_of_ble_eq_true rfl) dX2_penceOfBroken_2 ?_
  refine V_is2 dX2_penceOfBroken_5 ?_
  refine V_iconst (v := 0) rfl dX2_penceOfBroken_6 ?_
  refine V_is3 dX2_penceOfBroken_7 ?_
  refine V_iconst (v := 0) rfl dX2_penceOfBroken_8 ?_
  refine V_is4 dX2_penceOfBroken_9 ?_
  exact l_X2_penceOfBroken hC hW hM (n + 1) 0 none (by omega) (by omega)
theorem l_X2_breaksAny {G : mG} {c ar n w g q : Nat} (hC : CodexAt sh I P c ar n) (hW : WearAt sh P w g q) (hM : mM X B "breaksAny" (some .boolean) 4 87 0 0 (mDet (some (.int (bI (anyR (fun a => bitB (rchF I P ar n w g) a && !decide (brkF I P ar w g q a = 0)) n)))) nx sh I P) G) : ∀ (z i : Nat) (o4 : Option Value), i ≤ n → n - i < z → (∀ j, j < i → (fun a => bitB (rchF I P ar n w g) a && !decide (brkF I P ar w g q a = 0)) j = false) → V X B RX2 cX2_breaksAny G 0 0 nx sh I P 8 [some (.ref (B + c)), some (.ref (B + w)), some (.int (rchF I P ar n w g)), some (.int (nI i)), o4] [] := by
  obtain ⟨h1, h2, h3, h4, h5, h6⟩ := id hC
  intro z
  induction z with
  | zero => intro i _ _ h; omega
  | succ z ih =>
    intro i o4 hi hz hin
    refine V_iln dX2_breaksAny_8 rfl ?_
    refine V_aln dX2_breaksAny_9 rfl ?_
    refine V_getIv dX2_breaksAny_10 flX2_17 (by assumption) rfl (h4) ?_
    refine V_icmp_ge (tgt := 46) dX2_breaksAny_13 rfl (fun c13 => ?_) (fun c13 => ?_)
    · have c13 := nN_le c13 (by omega) (by omega)
      obtain rfl : i = n := by omega
      refine V_iconst (v := 0) rfl dX2_breaksAny_46 ?_
      exact V_zret hM (by first | exact Or.inl rfl | exact Or.inr rfl | exact bI_01 _) dX2_breaksAny_47 (⟨by rw [anyR_f hin]; rfl, rfl, rfl, rfl, rfl⟩)
    · have c13 := nN_nle c13 (by omega) (by omega)
      have hA := (h6 i c13).2
      have hA1 := hA.1
      refine V_aln dX2_breaksAny_16 rfl ?_
      refine V_iln dX2_breaksAny_17 rfl ?_
      refine V_iln dX2_breaksAny_18 rfl ?_
      by_cases hb : bitB (rchF I P ar n w g) i = true
      · refine V_cV2d hM cvX2_35 (by assumption) rfl (e_X2_among hC c13 hb) ⟨Nat.le_of_ble_eq_true rfl, Nat.le_of_ble_eq_true rfl, Nat.le_of_ble_eq_true rfl, Nat.le_of_ble_eq_true rfl⟩ (Nat.le_of_ble_eq_true rfl) dX2_breaksAny_19 ?_
        refine V_as4 dX2_breaksAny_22 ?_
        refine V_al dX2_breaksAny_24 rfl ?_
        refine V_ifnull dX2_breaksAny_26 ?_
        refine V_al dX2_breaksAny_29 rfl ?_
        refine V_aln dX2_breaksAny_31 rfl ?_
        refine V_cV1d hM cvX2_55 (by assumption) rfl (e_X0_brokenBits hA hW) ⟨Nat.le_of_ble_eq_true rfl, Nat.le_of_ble_eq_true rfl, Nat.le_of_ble_eq_true rfl, Nat.le_of_ble_eq_true rfl⟩ (Nat.le_of_ble_eq_true rfl) dX2_breaksAny_32 ?_
        refine V_if_eq (tgt := 40) dX2_breaksAny_35 rfl (fun c35 => ?_) (fun c35 => ?_)
        · have c35 : brkF I P ar w g q i = 0 := c35
          refine V_inc3 dX2_breaksAny_40 ?_
          refine V_goto (tgt := 8) dX2_breaksAny_43 rfl ?_
          rw [nI_inc]
          exact ih (i + 1) _ (by omega) (by omega) (lt_s' hin (by simp [c13, hb, c35]))
        · have c35 : ¬ brkF I P ar w g q i = 0 := c35
          refine V_iconst (v := 1) rfl dX2_breaksAny_38 ?_
          exact V_zret hM (by first | exact Or.inl rfl | exact Or.inr rfl | exact bI_01 _) dX2_breaksAny_39 (⟨by rw [anyR_t (i := i) c13 (by simp [c13, hb, c35])]; rfl, rfl, rfl, rfl, rfl⟩)
      · refine V_cV2d hM cvX2_35 (by assumption) rfl (e_X2_amongN h1 (by simpa using hb)) ⟨Nat.le_of_ble_eq_true rfl, Nat.le_of_ble_eq_true rfl, Nat.le_of_ble_eq_true rfl, Nat.le_of_ble_eq_true rfl⟩ (Nat.le_of_ble_eq_true rfl) dX2_breaksAny_19 ?_
        refine V_an4 dX2_breaksAny_22 ?_
        refine V_alN dX2_breaksAny_24 rfl ?_
        refine V_ifnullN (tgt := 40) dX2_breaksAny_26 rfl ?_
        refine V_inc3 dX2_breaksAny_40 ?_
        refine V_goto (tgt := 8) dX2_breaksAny_43 rfl ?_
        rw [nI_inc]
        exact ih (i + 1) _ (by omega) (by omega) (lt_s' hin (by simp [c13, hb]))
theorem e_X2_breaksAny {c ar n w g q : Nat} (hC : CodexAt sh I P c ar n) (hW : WearAt sh P w g q) : Ev X B mdX2_breaksAny 0 0 [.ref (B + c), .ref (B + w)] nx sh I P (mDet (some (.int (bI (anyR (fun a => bitB (rchF I P ar n w g) a && !decide (brkF I P ar w g q a = 0)) n)))) nx sh I P) := by
  have h1 := hC.1
  refine Ev.of (by decide) (by simp [Value.category]) (by simp) (fun G hM => ?_)
  have hM : mM X B "breaksAny" (some FieldType.boolean) 4 87 0 0 _ G := hM
  show V X B RX2 cX2_breaksAny G 0 0 nx sh I P 0 [some (.ref (B + c)), some (.ref (B + w)), none, none, none] []
  refine V_aln dX2_breaksAny_0 rfl ?_
  refine V_aln dX2_breaksAny_1 rfl ?_
  refine V_cV1d hM cvX2_51 (by assumption) rfl (e_X2_reaching hC hW) ⟨Nat.le_of_ble_eq_true rfl, Nat.le_of_ble_eq_true rfl, Nat.le_of_ble_eq_true rfl, Nat.le_of_ble_eq_true rfl⟩ (Nat.le_of_ble_eq_true rfl) dX2_breaksAny_2 ?_
  refine V_is2 dX2_breaksAny_5 ?_
  refine V_iconst (v := 0) rfl dX2_breaksAny_6 ?_
  refine V_is3 dX2_breaksAny_7 ?_
  exact l_X2_breaksAny hC hW hM (n + 1) 0 none (by omega) (by omega) (fun j h => by omega)
theorem l_X2_bound {G : mG} {c ar n w g q b lm : Nat} (hC : CodexAt sh I P c ar n) (hW : WearAt sh P w g q) (hB : BndAt sh P b lm) (hM : mM X B "bound" none 4 88 0 0 (mDet none nx sh (bndM I P ar b lm w (rchF I P ar n w g) n) P) G) : ∀ (z i : Nat) (o5 : Option Value), i ≤ n → n - i < z → V X B RX2 cX2_bound G 0 0 nx sh (bndM I P ar b lm w (rchF I P ar n w g) i) P 13 [some (.ref (B + c)), some (.ref (B + b)), some (.ref (B + w)), some (.int (rchF I P ar n w g)), some (.int (nI i)), o5] [] := by
  obtain ⟨h1, h2, h3, h4, h5, h6⟩ := id hC
  have hw := hW.1
  have nc1 : c ≠ b := sh_ne h1 hB.1 (by decide)
  have nc2 : c ≠ lm := sh_ne h1 hB.2.2 shn_oi
  have hAi : ∀ i a, a < n → ActAt sh (bndM I P ar b lm w (rchF I P ar n w g) i) P (pg P ar a) (pg P (pg P ar a) 1) (aM I (pg P ar a)) := fun i a ha => ((h6 a ha).2).mem (bndM_o (sh_ne (h6 a ha).2.1 hB.1 (by decide)) (sh_ne (h6 a ha).2.1 hB.2.2 shn_oi) i)
  have hCi : ∀ i, CodexAt sh (bndM I P ar b lm w (rchF I P ar n w g) i) P c ar n := fun i => ⟨h1, h2, h3, by rw [bndM_o nc1 nc2]; exact h4, h5, fun a ha => ⟨(h6 a ha).1, by rw [show aM (bndM I P ar b lm w (rchF I P ar n w g) i) (pg P ar a) = aM I (pg P ar a) from by unfold aM; rw [bndM_o (sh_ne (h6 a ha).2.1 hB.1 (by decide)) (sh_ne (h6 a ha).2.1 hB.2.2 shn_oi)]]; exact hAi i a ha⟩⟩
  intro z
  induction z with
  | zero => intro i _ _ h; omega
  | succ z ih =>
    intro i o5 hi hz
    have h4' : bndM I P ar b lm w (rchF I P ar n w g) i c 1 = nI n := (hCi i).2.2.2.1
    refine V_il dX2_bound_13 rfl ?_
    refine V_aln dX2_bound_15 rfl ?_
    refine V_getIv dX2_bound_16 flX2_17 (by assumption) rfl (h4') ?_
    refine V_icmp_ge (tgt := 49) dX2_bound_19 rfl (fun c19 => ?_) (fun c19 => ?_)
    · have c19 := nN_le c19 (by omega) (by omega)
      obtain rfl : i = n := by omega
      exact V_vret hM dX2_bound_49 (mDet.rf)
    · have c19 := nN_nle c19 (by omega) (by omega)
      have hA1 := (h6 i c19).2.1
      refine V_aln dX2_bound_22 rfl ?_
      refine V_iln dX2_bound_23 rfl ?_
      refine V_il dX2_bound_24 rfl ?_
      by_cases hb : bitB (rchF I P ar n w g) i = true
      · refine V_cV2d hM cvX2_35 (by assumption) rfl (e_X2_among (hCi i) c19 hb) ⟨Nat.le_of_ble_eq_true rfl, Nat.le_of_ble_eq_true rfl, Nat.le_of_ble_eq_true rfl, Nat.le_of_ble_eq_true rfl⟩ (Nat.le_of_ble_eq_true rfl) dX2_bound_26 ?_
        refine V_as5 dX2_bound_29 ?_
        refine V_al dX2_bound_31 rfl ?_
        refine V_ifnull dX2_bound_33 ?_
        refine V_al dX2_bound_36 rfl ?_
        refine V_aln dX2_bound_38 rfl ?_
        refine V_aln dX2_bound_39 rfl ?_
        refine V_cV2n hM cvX2_66 (by assumption) rfl (e_X0_narrow (hAi i i c19) hw hB) ⟨Nat.le_of_ble_eq_true rfl, Nat.le_of_ble_eq_true rfl, Nat.le_of_ble_eq_true rfl, Nat.le_of_ble_eq_true rfl⟩ (Nat.le_of_ble_eq_true rfl) dX2_bound_40 ?_
        refine V_inc4 dX2_bound_43 ?_
        refine V_goto (tgt := 13) dX2_bound_46 rfl ?_
        rw [nI_inc]
        have h9 := fun o5 => ih (i + 1) o5 (by omega) (by omega)
        simp only [bndM, hb, if_true, if_false] at h9
        exact h9 _
      · refine V_cV2d hM cvX2_35 (by assumption) rfl (e_X2_amongN h1 (by simpa using hb)) ⟨Nat.le_of_ble_eq_true rfl, Nat.le_of_ble_eq_true rfl, Nat.le_of_ble_eq_true rfl, Nat.le_of_ble_eq_true rfl⟩ (Nat.le_of_ble_eq_true rfl) dX2_bound_26 ?_
        refine V_an5 dX2_bound_29 ?_
        refine V_alN dX2_bound_31 rfl ?_
        refine V_ifnullN (tgt := 43) dX2_bound_33 rfl ?_
        refine V_inc4 dX2_bound_43 ?_
        refine V_goto (tgt := 13) dX2_bound_46 rfl ?_
        rw [nI_inc]
        have h9 := fun o5 => ih (i + 1) o5 (by omega) (by omega)
        simp only [bndM, hb, if_true, if_false] at h9
        exact h9 _
theorem e_X2_bound {c ar n w g q b lm : Nat} (hC : CodexAt sh I P c ar n) (hW : WearAt sh P w g q) (hB : BndAt sh P b lm) : Ev X B mdX2_bound 0 0 [.ref (B + c), .ref (B + b), .ref (B + w)] nx sh I P (mDet none nx sh (bndM I P ar b lm w (rchF I P ar n w g) n) P) := by
  have h1 := hC.1
  have h2 := hB.1
  refine Ev.of (by decide) (by simp [Value.category]) (by simp) (fun G hM => ?_)
  have hM : mM X B "bound" none 4 88 0 0 _ G := hM
  show V X B RX2 cX2_bound G 0 0 nx sh I P 0 [some (.ref (B + c)), some (.ref (B + b)), some (.ref (B + w)), none, none, none] []
  refine V_aln dX2_bound_0 rfl ?_
  refine V_aln dX2_bound_1 rfl ?_
  refine V_cV1d hM cvX2_51 (by assumption) rfl (e_X2_reaching hC hW) ⟨Nat.le_of_ble_eq_true rfl, Nat.le_of_ble_eq_true rfl, Nat.le_of_ble_eq_true rfl, Nat.le_of_ble_eq_true rfl⟩ (Nat.le_of_ble_eq_true rfl) dX2_bound_2 ?_
  refine V_is3 dX2_bound_5 ?_
  refine V_aln dX2_bound_6 rfl ?_
  refine V_cV0n hM cvX2_61 (by assumption) rfl (e_X1_open hB) ⟨Nat.le_of_ble_eq_true rfl, Nat.le_of_ble_eq_true rfl, Nat.le_of_ble_eq_true rfl, Nat.le_of_ble_eq_true rfl⟩ (Nat.le_of_ble_eq_true rfl) dX2_bound_7 ?_
  refine V_iconst (v := 0) rfl dX2_bound_10 ?_
  refine V_is4 dX2_bound_11 ?_
  exact l_X2_bound hC hW hB hM (n + 1) 0 none (by omega) (by omega)
end CX
