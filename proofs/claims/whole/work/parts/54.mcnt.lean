/-! ===== the reference's countsAs ===== -/
/-- what the likes say of one stuff on a day -/
def mLk (I : mI) (n : Nat) (day s : Int32) : Option Nat := mBst (fun k => decide (I 61 k = s)) (I 63) day n
def mHl (I : mI) (n : Nat) (day s : Int32) : Int32 := match mLk I n day s with
  | none => s
  | some k => I 62 k
def mCt (I : mI) (n : Nat) (day s : Int32) : Int32 := cntA (mHl I n day) 16 s
/-- likes go down -/
def LkOk (I : mI) (n : Nat) : Prop := ∀ k, k < n → ∃ a b : Nat, I 61 k = nI a ∧ I 62 k = nI b ∧ b < a ∧ a < 16
abbrev oN (o : Option Nat) : Int32 := match o with
  | none => -1
  | some j => nI j
theorem mBst_ok {ok : Nat → Bool} {D : Nat → Int32} {day : Int32} : ∀ (k : Nat) {j : Nat}, mBst ok D day k = some j → ok j = true := by
  intro k
  induction k with
  | zero => intro j h; cases h
  | succ k ih =>
    intro j h
    unfold mBst at h
    split at h
    · rename_i hc; cases h; exact hc.1
    · exact ih h
section MC
variable {X : mX} {B nx : Nat} {sh : Nat → Option mSh} {I : mI} {P : mP}
theorem li_X12_countsAs {G : mG} {n : Nat} {s0 s day : Int32} (hV : MW sh P) (hn : I 35 33 = nI n) (hn2 : n ≤ 30)
    (kN : mLk I n day s = none → ∀ x5 : Option Value, V X B RX12 cX12_countsAs G 0 0 nx sh I P 5 [some (.ref (B + 35)), some (.int s0), some (.int day), some (.int s), some (.int (-1)), x5] [])
    (kS : ∀ j, mLk I n day s = some j → ∀ x5 : Option Value, V X B RX12 cX12_countsAs G 0 0 nx sh I P 5 [some (.ref (B + 35)), some (.int s0), some (.int day), some (.int (I 62 j)), some (.int (nI j)), x5] []) : ∀ (z i : Nat), i ≤ n → n - i < z → V X B RX12 cX12_countsAs G 0 0 nx sh I P 17 [some (.ref (B + 35)), some (.int s0), some (.int day), some (.int s), some (.int (oN (mBst (fun k => decide (I 61 k = s)) (I 63) day i))), some (.int (nI i))] [] := by
  have s35 : sh 35 = some (.inl 12) := hV.1 35 _ rfl
  have s_likeOf : sh 61 = some (.inr (0, 30)) := hV.1 61 _ rfl
  have p_likeOf : P 35 38 = some 61 := hV.2 38 61 rfl
  have s_likeAs : sh 62 = some (.inr (0, 30)) := hV.1 62 _ rfl
  have p_likeAs : P 35 39 = some 62 := hV.2 39 62 rfl
  have s_likeDay : sh 63 = some (.inr (0, 30)) := hV.1 63 _ rfl
  have p_likeDay : P 35 40 = some 63 := hV.2 40 63 rfl
  intro z
  induction z with
  | zero => intro i _ h; omega
  | succ z ih =>
    intro i hi hz
    cases hb : mBst (fun k => decide (I 61 k = s)) (I 63) day i with
    | none =>
      refine V_ls (show _ = [some (.ref (B + 35)), some (.int s0), some (.int day), some (.int s), some (.int (-1)), some (.int (nI i))] from rfl) ?_
      refine V_il dX12_countsAs_17 rfl ?_
      refine V_aln dX12_countsAs_19 rfl ?_
      refine V_getIv dX12_countsAs_20 flX12_306 (by assumption) rfl (hn) ?_
      refine V_icmp_ge (tgt := 81) dX12_countsAs_23 rfl (fun c23 => ?_) (fun c23 => ?_)
      · have c23 := nN_le c23 (by omega) (by omega)
        obtain rfl : i = n := by omega
        refine V_il dX12_countsAs_81 rfl ?_
        refine V_iconst (v := -1) rfl dX12_countsAs_83 ?_
        refine V_icmp_eq (tgt := 5) dX12_countsAs_84 rfl (fun c84 => ?_) (fun c84 => ?_)
        · exact kN hb _
        · exact absurd rfl c84 --done
      · have c23 := nN_nle c23 (by omega) (by omega)
        refine V_aln dX12_countsAs_26 rfl ?_
        refine V_getR dX12_countsAs_27 flX12_208 (by assumption) rfl (by assumption) ?_
        refine V_il dX12_countsAs_30 rfl ?_
        refine V_ialdN dX12_countsAs_32 (by assumption) (by omega) (by omega) ?_
        refine V_iln dX12_countsAs_33 rfl ?_
        refine V_icmp_ne (tgt := 75) dX12_countsAs_34 rfl (fun c34 => ?_) (fun c34 => ?_)
        · have hs := mBst_n (ok := fun k => decide (I 61 k = s)) (D := I 63) (day := day) (k := i) (fun h => c34 (of_decide_eq_true h.1))
          refine V_inc5 dX12_countsAs_75 ?_
          refine V_goto (tgt := 17) dX12_countsAs_78 rfl ?_
          refine V_ls ?_ (ih (i + 1) (by omega) (by omega))
          rw [nI_inc, hs]
          try rw [hb]
          try rfl
        · have c34 : I 61 i = s := by first | exact c34 | exact Classical.not_not.mp c34
          refine V_aln dX12_countsAs_37 rfl ?_
          refine V_getR dX12_countsAs_38 flX12_214 (by assumption) rfl (by assumption) ?_
          refine V_il dX12_countsAs_41 rfl ?_
          refine V_ialdN dX12_countsAs_43 (by assumption) (by omega) (by omega) ?_
          refine V_iln dX12_countsAs_44 rfl ?_
          refine V_icmp_gt (tgt := 75) dX12_countsAs_45 rfl (fun c45 => ?_) (fun c45 => ?_)
          · have c45 := i_lt_nle c45
            have hs := mBst_n (ok := fun k => decide (I 61 k = s)) (D := I 63) (day := day) (k := i) (fun h => c45 h.2.1)
            refine V_inc5 dX12_countsAs_75 ?_
            refine V_goto (tgt := 17) dX12_countsAs_78 rfl ?_
            refine V_ls ?_ (ih (i + 1) (by omega) (by omega))
            rw [nI_inc, hs]
            try rw [hb]
            try rfl
          · have c45 := i_nlt c45
            have hs := mBst_y (ok := fun k => decide (I 61 k = s)) (D := I 63) (day := day) (k := i) (decide_eq_true c34) c45 (fun j h => by rw [hb] at h; cases h)
            refine V_il dX12_countsAs_48 rfl ?_
            refine V_iconst (v := -1) rfl dX12_countsAs_50 ?_
            refine V_icmp_eq (tgt := 71) dX12_countsAs_51 rfl (fun c51 => ?_) (fun c51 => ?_)
            · refine V_il dX12_countsAs_71 rfl ?_
              refine V_is4 dX12_countsAs_73 ?_
              refine V_inc5 dX12_countsAs_75 ?_
              refine V_goto (tgt := 17) dX12_countsAs_78 rfl ?_
              refine V_ls ?_ (ih (i + 1) (by omega) (by omega))
              rw [nI_inc, hs]
              try rw [hb]
              try rfl
            · exact absurd rfl c51 --done
    | some j =>
      have hj : j < n := by have := mBst_lt i hb; omega
      have hjn : ¬ nI j = -1 := nI_nm1 (by omega)
      refine V_ls (show _ = [some (.ref (B + 35)), some (.int s0), some (.int day), some (.int s), some (.int (nI j)), some (.int (nI i))] from rfl) ?_
      refine V_il dX12_countsAs_17 rfl ?_
      refine V_aln dX12_countsAs_19 rfl ?_
      refine V_getIv dX12_countsAs_20 flX12_306 (by assumption) rfl (hn) ?_
      refine V_icmp_ge (tgt := 81) dX12_countsAs_23 rfl (fun c23 => ?_) (fun c23 => ?_)
      · have c23 := nN_le c23 (by omega) (by omega)
        obtain rfl : i = n := by omega
        refine V_il dX12_countsAs_81 rfl ?_
        refine V_iconst (v := -1) rfl dX12_countsAs_83 ?_
        refine V_icmp_eq (tgt := 5) dX12_countsAs_84 rfl (fun c84 => ?_) (fun c84 => ?_)
        · exact absurd c84 hjn --done
        · refine V_aln dX12_countsAs_87 rfl ?_
          refine V_getR dX12_countsAs_88 flX12_211 (by assumption) rfl (by assumption) ?_
          refine V_il dX12_countsAs_91 rfl ?_
          refine V_ialdN dX12_countsAs_93 (by assumption) (by omega) (by omega) ?_
          refine V_is3 dX12_countsAs_94 ?_
          refine V_goto (tgt := 5) dX12_countsAs_95 rfl ?_
          exact kS j hb _
      · have c23 := nN_nle c23 (by omega) (by omega)
        refine V_aln dX12_countsAs_26 rfl ?_
        refine V_getR dX12_countsAs_27 flX12_208 (by assumption) rfl (by assumption) ?_
        refine V_il dX12_countsAs_30 rfl ?_
        refine V_ialdN dX12_countsAs_32 (by assumption) (by omega) (by omega) ?_
        refine V_iln dX12_countsAs_33 rfl ?_
        refine V_icmp_ne (tgt := 75) dX12_countsAs_34 rfl (fun c34 => ?_) (fun c34 => ?_)
        · have hs := mBst_n (ok := fun k => decide (I 61 k = s)) (D := I 63) (day := day) (k := i) (fun h => c34 (of_decide_eq_true h.1))
          refine V_inc5 dX12_countsAs_75 ?_
          refine V_goto (tgt := 17) dX12_countsAs_78 rfl ?_
          refine V_ls ?_ (ih (i + 1) (by omega) (by omega))
          rw [nI_inc, hs]
          try rw [hb]
          try rfl
        · have c34 : I 61 i = s := by first | exact c34 | exact Classical.not_not.mp c34
          refine V_aln dX12_countsAs_37 rfl ?_
          refine V_getR dX12_countsAs_38 flX12_214 (by assumption) rfl (by assumption) ?_
          refine V_il dX12_countsAs_41 rfl ?_
          refine V_ialdN dX12_countsAs_43 (by assumption) (by omega) (by omega) ?_
          refine V_iln dX12_countsAs_44 rfl ?_
          refine V_icmp_gt (tgt := 75) dX12_countsAs_45 rfl (fun c45 => ?_) (fun c45 => ?_)
          · have c45 := i_lt_nle c45
            have hs := mBst_n (ok := fun k => decide (I 61 k = s)) (D := I 63) (day := day) (k := i) (fun h => c45 h.2.1)
            refine V_inc5 dX12_countsAs_75 ?_
            refine V_goto (tgt := 17) dX12_countsAs_78 rfl ?_
            refine V_ls ?_ (ih (i + 1) (by omega) (by omega))
            rw [nI_inc, hs]
            try rw [hb]
            try rfl
          · have c45 := i_nlt c45
            refine V_il dX12_countsAs_48 rfl ?_
            refine V_iconst (v := -1) rfl dX12_countsAs_50 ?_
            refine V_icmp_eq (tgt := 71) dX12_countsAs_51 rfl (fun c51 => ?_) (fun c51 => ?_)
            · exact absurd c51 hjn --done
            · refine V_aln dX12_countsAs_54 rfl ?_
              refine V_getR dX12_countsAs_55 flX12_214 (by assumption) rfl (by assumption) ?_
              refine V_il dX12_countsAs_58 rfl ?_
              refine V_ialdN dX12_countsAs_60 (by assumption) (by omega) (by omega) ?_
              refine V_aln dX12_countsAs_61 rfl ?_
              refine V_getR dX12_countsAs_62 flX12_214 (by assumption) rfl (by assumption) ?_
              refine V_il dX12_countsAs_65 rfl ?_
              refine V_ialdN dX12_countsAs_67 (by assumption) (by omega) (by omega) ?_
              refine V_icmp_lt (tgt := 75) dX12_countsAs_68 rfl (fun c68 => ?_) (fun c68 => ?_)
              · have c68 := i_lt_nle c68
                have hs := mBst_n (ok := fun k => decide (I 61 k = s)) (D := I 63) (day := day) (k := i) (fun h => c68 (h.2.2 j hb))
                refine V_inc5 dX12_countsAs_75 ?_
                refine V_goto (tgt := 17) dX12_countsAs_78 rfl ?_
                refine V_ls ?_ (ih (i + 1) (by omega) (by omega))
                rw [nI_inc, hs]
                try rw [hb]
                try rfl
              · have c68 := i_nlt c68
                have hs := mBst_y (ok := fun k => decide (I 61 k = s)) (D := I 63) (day := day) (k := i) (decide_eq_true c34) c45 (fun j' h => by rw [hb] at h; cases h; exact c68)
                refine V_il dX12_countsAs_71 rfl ?_
                refine V_is4 dX12_countsAs_73 ?_
                refine V_inc5 dX12_countsAs_75 ?_
                refine V_goto (tgt := 17) dX12_countsAs_78 rfl ?_
                refine V_ls ?_ (ih (i + 1) (by omega) (by omega))
                rw [nI_inc, hs]
                try rw [hb]
                try rfl
theorem lo_X12_countsAs {G : mG} {n : Nat} {s0 r day : Int32} (hV : MW sh P) (hn : I 35 33 = nI n) (hn2 : n ≤ 30) (hL : LkOk I n) (hM : mM X B "countsAs" (some .int) 0 0 0 0 (mDet (some (.int r)) nx sh I P) G) : ∀ (z j : Nat) (w : Int32) (x5 : Option Value), ¬ w = -1 → j < 16 → j < z → cntA (mHl I n day) z (nI j) = r → V X B RX12 cX12_countsAs G 0 0 nx sh I P 5 [some (.ref (B + 35)), some (.int s0), some (.int day), some (.int (nI j)), some (.int w), x5] [] := by
  have s35 : sh 35 = some (.inl 12) := hV.1 35 _ rfl
  have s_likeOf : sh 61 = some (.inr (0, 30)) := hV.1 61 _ rfl
  have p_likeOf : P 35 38 = some 61 := hV.2 38 61 rfl
  have s_likeAs : sh 62 = some (.inr (0, 30)) := hV.1 62 _ rfl
  have p_likeAs : P 35 39 = some 62 := hV.2 39 62 rfl
  have s_likeDay : sh 63 = some (.inr (0, 30)) := hV.1 63 _ rfl
  have p_likeDay : P 35 40 = some 63 := hV.2 40 63 rfl
  intro z
  induction z with
  | zero => intro j w x5 _ _ h; omega
  | succ z ih =>
    intro j w x5 hw hj6 hj hr
    have fin : ∀ x5 : Option Value, nI j = r → V X B RX12 cX12_countsAs G 0 0 nx sh I P 5 [some (.ref (B + 35)), some (.int s0), some (.int day), some (.int (nI j)), some (.int (-1)), x5] [] := by
      intro x5 hr
      refine V_il dX12_countsAs_5 rfl ?_
      refine V_iconst (v := -1) rfl dX12_countsAs_7 ?_
      refine V_icmp_eq (tgt := 98) dX12_countsAs_8 rfl (fun c8 => ?_) (fun c8 => ?_)
      · refine V_iln dX12_countsAs_98 rfl ?_
        exact V_iret hM dX12_countsAs_99 (⟨by rw [hr], rfl, rfl, rfl, rfl⟩)
      · exact absurd rfl c8 --done
    refine V_il dX12_countsAs_5 rfl ?_
    refine V_iconst (v := -1) rfl dX12_countsAs_7 ?_
    refine V_icmp_eq (tgt := 98) dX12_countsAs_8 rfl (fun c8 => ?_) (fun c8 => ?_)
    · exact absurd c8 hw --done
    · refine V_iconst (v := -1) rfl dX12_countsAs_11 ?_
      refine V_is4 dX12_countsAs_12 ?_
      refine V_iconst (v := 0) rfl dX12_countsAs_14 ?_
      refine V_is5 dX12_countsAs_15 ?_
      refine li_X12_countsAs hV hn hn2 (fun hN x5 => fin x5 ?_) (fun k hS x5 => ?_) (n + 1) 0 (by omega) (by omega)
      · rw [← hr, cntA, if_pos (by rw [mHl, hN])]
      · have hk := mBst_lt n hS
        obtain ⟨a, b, h1, h2, h3, h4⟩ := hL k hk
        have hk1 : I 61 k = nI j := of_decide_eq_true (mBst_ok n hS)
        have hja : j = a := by
          rw [h1] at hk1
          exact (nI_eqN (a := a) (b := j) (by omega) (by omega) hk1).symm
        subst hja
        rw [h2]
        refine ih b _ x5 (nI_nm1 (by omega)) (by omega) (by omega) ?_
        have hh : mHl I n day (nI j) = nI b := by rw [mHl, hS]; exact h2
        rw [← hr, cntA, hh, if_neg (fun h => by have := nI_eqN (a := b) (b := j) (by omega) (by omega) h; omega)]
theorem e_X12_countsAs {n j : Nat} {day : Int32} (hV : MW sh P) (hn : I 35 33 = nI n) (hn2 : n ≤ 30) (hL : LkOk I n) (hj : j < 16) : Ev X B mdX12_countsAs 0 0 [.ref (B + 35), .int (nI j), .int day] nx sh I P (mDet (some (.int (mCt I n day (nI j)))) nx sh I P) := by
  refine Ev.of (by decide) (by simp [Value.category]) (by simp) (fun G hM => ?_)
  have hM : mM X B "countsAs" (some FieldType.int) 0 0 0 0 _ G := hM
  show V X B RX12 cX12_countsAs G 0 0 nx sh I P 0 [some (.ref (B + 35)), some (.int (nI j)), some (.int day), none, none, none] []
  refine V_iln dX12_countsAs_0 rfl ?_
  refine V_is3 dX12_countsAs_1 ?_
  refine V_iconst (v := 0) rfl dX12_countsAs_2 ?_
  refine V_is4 dX12_countsAs_3 ?_
  exact lo_X12_countsAs hV hn hn2 hL hM 16 j _ _ (by decide) hj hj rfl
theorem e_X12_counts {n j : Nat} {day : Int32} (hV : MW sh P) (hn : I 35 33 = nI n) (hn2 : n ≤ 30) (hL : LkOk I n) (hj : j < 16) (hd : inB day 10000 = true) : Ev X B mdX12_counts 0 0 [.ref (B + 35), .int (nI j), .int day] nx sh I P (mDet (some (.int (mCt I n day (nI j)))) nx sh I P) := by
  have s35 : sh 35 = some (.inl 12) := hV.1 35 _ rfl
  refine Ev.of (by decide) (by simp [Value.category]) (by simp) (fun G hM => ?_)
  have hM : mM X B "counts" (some FieldType.int) 2 45 0 0 _ G := hM
  show V X B RX12 cX12_counts G 0 0 nx sh I P 0 [some (.ref (B + 35)), some (.int (nI j)), some (.int day)] []
  refine V_iln dX12_counts_0 rfl ?_
  refine V_cS1d hM cvX12_303 (e_X12_isStuff) ⟨Nat.le_of_ble_eq_true rfl, Nat.le_of_ble_eq_true rfl, Nat.le_of_ble_eq_true rfl, Nat.le_of_ble_eq_true rfl⟩ (Nat.le_of_ble_eq_true rfl) dX12_counts_1 ?_
  rw [inB_of hj (by omega)]
  refine V_ifeq_b (tgt := 23) dX12_counts_4 rfl (fun c4 => ?_) (fun c4 => ?_)
  · exact absurd c4 (by decide) --done
  · refine V_iln dX12_counts_7 rfl ?_
    refine V_cS1d hM cvX12_259 (e_X12_isDay) ⟨Nat.le_of_ble_eq_true rfl, Nat.le_of_ble_eq_true rfl, Nat.le_of_ble_eq_true rfl, Nat.le_of_ble_eq_true rfl⟩ (Nat.le_of_ble_eq_true rfl) dX12_counts_8 ?_
    rw [hd]
    refine V_ifeq_b (tgt := 23) dX12_counts_11 rfl (fun c11 => ?_) (fun c11 => ?_)
    · exact absurd c11 (by decide) --done
    · refine V_aln dX12_counts_14 rfl ?_
      refine V_iln dX12_counts_15 rfl ?_
      refine V_iln dX12_counts_16 rfl ?_
      refine V_cV2d hM cvX12_309 (by assumption) rfl (e_X12_countsAs hV hn hn2 hL hj) ⟨Nat.le_of_ble_eq_true rfl, Nat.le_of_ble_eq_true rfl, Nat.le_of_ble_eq_true rfl, Nat.le_of_ble_eq_true rfl⟩ (Nat.le_of_ble_eq_true rfl) dX12_counts_17 ?_
      refine V_goto (tgt := 25) dX12_counts_20 rfl ?_
      exact V_iret hM dX12_counts_25 (mDet.rf)
theorem e_X12_countsN {s day : Int32} (hV : MW sh P) (hx : (inB s 16 && inB day 10000) = false) : Ev X B mdX12_counts 0 0 [.ref (B + 35), .int s, .int day] nx sh I P (mDet (some (.int (-2))) nx sh I P) := by
  have s35 : sh 35 = some (.inl 12) := hV.1 35 _ rfl
  refine Ev.of (by decide) (by simp [Value.category]) (by simp) (fun G hM => ?_)
  have hM : mM X B "counts" (some FieldType.int) 2 45 0 0 _ G := hM
  show V X B RX12 cX12_counts G 0 0 nx sh I P 0 [some (.ref (B + 35)), some (.int s), some (.int day)] []
  refine V_iln dX12_counts_0 rfl ?_
  refine V_cS1d hM cvX12_303 (e_X12_isStuff) ⟨Nat.le_of_ble_eq_true rfl, Nat.le_of_ble_eq_true rfl, Nat.le_of_ble_eq_true rfl, Nat.le_of_ble_eq_true rfl⟩ (Nat.le_of_ble_eq_true rfl) dX12_counts_1 ?_
  refine V_ifeq_b (tgt := 23) dX12_counts_4 rfl (fun c4 => ?_) (fun c4 => ?_)
  · refine V_bipush (v := -2) rfl dX12_counts_23 ?_
    exact V_iret hM dX12_counts_25 (mDet.rf)
  · refine V_iln dX12_counts_7 rfl ?_
    refine V_cS1d hM cvX12_259 (e_X12_isDay) ⟨Nat.le_of_ble_eq_true rfl, Nat.le_of_ble_eq_true rfl, Nat.le_of_ble_eq_true rfl, Nat.le_of_ble_eq_true rfl⟩ (Nat.le_of_ble_eq_true rfl) dX12_counts_8 ?_
    refine V_ifeq_b (tgt := 23) dX12_counts_11 rfl (fun c11 => ?_) (fun c11 => ?_)
    · refine V_bipush (v := -2) rfl dX12_counts_23 ?_
      exact V_iret hM dX12_counts_25 (mDet.rf)
    · exact absurd hx (by rw [c4, c11]; decide) --done
end MC
