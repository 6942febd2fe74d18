/-! ===== the reference's like ===== -/
section MX2
variable {X : mX} {B nx : Nat} {sh : Nat → Option mSh} {I : mI} {P : mP}
def mLiM (I : mI) (n : Nat) (s t d : Int32) : mI := mUp (mUp (mUp (mUp I 61 n s) 62 n t) 63 n d) 35 33 (nI (n + 1))
theorem e_X12_like {n s : Nat} {t d : Int32} (hV : MW sh P) (hn : I 35 33 = nI n) (hn2 : n < 30) (hs : s < 16) (hx : (inB t s && inB d 10000) = true) : Ev X B mdX12_like 0 0 [.ref (B + 35), .int (nI s), .int t, .int d] nx sh I P (mDet (some (.int (nI (n + 1)))) nx sh (mLiM I n (nI s) t d) P) := by
  have s35 : sh 35 = some (.inl 12) := hV.1 35 _ rfl
  have s_likeOf : sh 61 = some (.inr (0, 30)) := hV.1 61 _ rfl
  have p_likeOf : P 35 38 = some 61 := hV.2 38 61 rfl
  have s_likeAs : sh 62 = some (.inr (0, 30)) := hV.1 62 _ rfl
  have p_likeAs : P 35 39 = some 62 := hV.2 39 62 rfl
  have s_likeDay : sh 63 = some (.inr (0, 30)) := hV.1 63 _ rfl
  have p_likeDay : P 35 40 = some 63 := hV.2 40 63 rfl
  rw [Bool.and_eq_true] at hx
  refine Ev.of (by decide) (by simp [Value.category]) (by simp) (fun G hM => ?_)
  have hM : mM X B "like" (some FieldType.int) 2 45 0 0 _ G := hM
  show V X B RX12 cX12_like G 0 0 nx sh I P 0 [some (.ref (B + 35)), some (.int (nI s)), some (.int t), some (.int d)] []
  refine V_iln dX12_like_0 rfl ?_
  refine V_cS1d hM cvX12_303 (e_X12_isStuff) ⟨Nat.le_of_ble_eq_true rfl, Nat.le_of_ble_eq_true rfl, Nat.le_of_ble_eq_true rfl, Nat.le_of_ble_eq_true rfl⟩ (Nat.le_of_ble_eq_true rfl) dX12_like_1 ?_
  rw [inB_of hs (by omega)]
  refine V_ifeq_b (tgt := 27) dX12_like_4 rfl (fun c4 => ?_) (fun c4 => ?_)
  · exact absurd c4 (by decide) --done
  · refine V_iln dX12_like_7 rfl ?_
    refine V_i2l dX12_like_8 ?_
    refine V_lconst (v := 0) rfl dX12_like_9 ?_
    refine V_iln dX12_like_10 rfl ?_
    refine V_i2l dX12_like_11 ?_
    refine V_lconst (v := 1) rfl dX12_like_12 ?_
    refine V_lsub dX12_like_13 ?_
    refine V_cS3d hM cvX12_5 (e_X12_in) ⟨Nat.le_of_ble_eq_true rfl, Nat.le_of_ble_eq_true rfl, Nat.le_of_ble_eq_true rfl, Nat.le_of_ble_eq_true rfl⟩ (Nat.le_of_ble_eq_true rfl) dX12_like_14 ?_
    rw [inJ (n64 (by omega)), hx.1]
    refine V_ifeq_b (tgt := 27) dX12_like_17 rfl (fun c17 => ?_) (fun c17 => ?_)
    · exact absurd c17 (by decide) --done
    · refine V_iln dX12_like_20 rfl ?_
      refine V_cS1d hM cvX12_259 (e_X12_isDay) ⟨Nat.le_of_ble_eq_true rfl, Nat.le_of_ble_eq_true rfl, Nat.le_of_ble_eq_true rfl, Nat.le_of_ble_eq_true rfl⟩ (Nat.le_of_ble_eq_true rfl) dX12_like_21 ?_
      rw [hx.2]
      refine V_ifne_b (tgt := 30) dX12_like_24 rfl (fun c24 => ?_) (fun c24 => ?_)
      · refine V_aln dX12_like_30 rfl ?_
        refine V_getIv dX12_like_31 flX12_306 (by assumption) rfl (hn) ?_
        refine V_bipush (v := 30) rfl dX12_like_34 ?_
        refine V_icmp_ne (tgt := 42) dX12_like_36 rfl (fun c36 => ?_) (fun c36 => ?_)
        · refine V_aln dX12_like_42 rfl ?_
          refine V_getR dX12_like_43 flX12_208 (by assumption) rfl (by assumption) ?_
          refine V_aln dX12_like_46 rfl ?_
          refine V_getIv dX12_like_47 flX12_306 (by assumption) rfl (hn) ?_
          refine V_iln dX12_like_50 rfl ?_
          refine V_iastN dX12_like_51 (by assumption) (by omega) (by omega) ?_
          refine V_aln dX12_like_52 rfl ?_
          refine V_getR dX12_like_53 flX12_211 (by assumption) rfl (by assumption) ?_
          refine V_aln dX12_like_56 rfl ?_
          refine V_getIv dX12_like_57 flX12_306 (by assumption) rfl ((mUp_c (by decide)).trans hn) ?_
          refine V_iln dX12_like_60 rfl ?_
          refine V_iastN dX12_like_61 (by assumption) (by omega) (by omega) ?_
          refine V_aln dX12_like_62 rfl ?_
          refine V_getR dX12_like_63 flX12_214 (by assumption) rfl (by assumption) ?_
          refine V_aln dX12_like_66 rfl ?_
          refine V_getIv dX12_like_67 flX12_306 (by assumption) rfl ((mUp_c (by decide)).trans ((mUp_c (by decide)).trans hn)) ?_
          refine V_iln dX12_like_70 rfl ?_
          refine V_iastN dX12_like_71 (by assumption) (by omega) (by omega) ?_
          refine V_aln dX12_like_72 rfl ?_
          refine V_dup rfl dX12_like_73 ?_
          refine V_getIv dX12_like_74 flX12_306 (by assumption) rfl ((mUp_c (by decide)).trans ((mUp_c (by decide)).trans ((mUp_c (by decide)).trans hn))) ?_
          refine V_iconst (v := 1) rfl dX12_like_77 ?_
          refine V_iadd dX12_like_78 ?_
          refine V_top (nI_inc' n) ?_
          refine V_putI dX12_like_79 flX12_306 (by assumption) rfl rfl ?_
          refine V_aln dX12_like_82 rfl ?_
          refine V_getIv dX12_like_83 flX12_306 (by assumption) rfl (mUp_s) ?_
          exact V_iret hM dX12_like_86 (mDet.rf)
        · exfalso
          have := nI_eqN (a := n) (b := 30) (by omega) (by decide) (by first | exact c36 | exact Classical.not_not.mp c36)
          omega --done
      · exact absurd c24 (by decide) --done
theorem e_X12_likeF {s : Nat} {t d : Int32} (hV : MW sh P) (hn : I 35 33 = nI 30) (hs : s < 16) (hx : (inB t s && inB d 10000) = true) : Ev X B mdX12_like 0 0 [.ref (B + 35), .int (nI s), .int t, .int d] nx sh I P (mDet (some (.int (-3))) nx sh I P) := by
  have s35 : sh 35 = some (.inl 12) := hV.1 35 _ rfl
  have s_likeOf : sh 61 = some (.inr (0, 30)) := hV.1 61 _ rfl
  have p_likeOf : P 35 38 = some 61 := hV.2 38 61 rfl
  have s_likeAs : sh 62 = some (.inr (0, 30)) := hV.1 62 _ rfl
  have p_likeAs : P 35 39 = some 62 := hV.2 39 62 rfl
  have s_likeDay : sh 63 = some (.inr (0, 30)) := hV.1 63 _ rfl
  have p_likeDay : P 35 40 = some 63 := hV.2 40 63 rfl
  rw [Bool.and_eq_true] at hx
  refine Ev.of (by decide) (by simp [Value.category]) (by simp) (fun G hM => ?_)
  have hM : mM X B "like" (some FieldType.int) 2 45 0 0 _ G := hM
  show V X B RX12 cX12_like G 0 0 nx sh I P 0 [some (.ref (B + 35)), some (.int (nI s)), some (.int t), some (.int d)] []
  refine V_iln dX12_like_0 rfl ?_
  refine V_cS1d hM cvX12_303 (e_X12_isStuff) ⟨Nat.le_of_ble_eq_true rfl, Nat.le_of_ble_eq_true rfl, Nat.le_of_ble_eq_true rfl, Nat.le_of_ble_eq_true rfl⟩ (Nat.le_of_ble_eq_true rfl) dX12_like_1 ?_
  rw [inB_of hs (by omega)]
  refine V_ifeq_b (tgt := 27) dX12_like_4 rfl (fun c4 => ?_) (fun c4 => ?_)
  · exact absurd c4 (by decide) --done
  · refine V_iln dX12_like_7 rfl ?_
    refine V_i2l dX12_like_8 ?_
    refine V_lconst (v := 0) rfl dX12_like_9 ?_
    refine V_iln dX12_like_10 rfl ?_
    refine V_i2l dX12_like_11 ?_
    refine V_lconst (v := 1) rfl dX12_like_12 ?_
    refine V_lsub dX12_like_13 ?_
    refine V_cS3d hM cvX12_5 (e_X12_in) ⟨Nat.le_of_ble_eq_true rfl, Nat.le_of_ble_eq_true rfl, Nat.le_of_ble_eq_true rfl, Nat.le_of_ble_eq_true rfl⟩ (Nat.le_of_ble_eq_true rfl) dX12_like_14 ?_
    rw [inJ (n64 (by omega)), hx.1]
    refine V_ifeq_b (tgt := 27) dX12_like_17 rfl (fun c17 => ?_) (fun c17 => ?_)
    · exact absurd c17 (by decide) --done
    · refine V_iln dX12_like_20 rfl ?_
      refine V_cS1d hM cvX12_259 (e_X12_isDay) ⟨Nat.le_of_ble_eq_true rfl, Nat.le_of_ble_eq_true rfl, Nat.le_of_ble_eq_true rfl, Nat.le_of_ble_eq_true rfl⟩ (Nat.le_of_ble_eq_true rfl) dX12_like_21 ?_
      rw [hx.2]
      refine V_ifne_b (tgt := 30) dX12_like_24 rfl (fun c24 => ?_) (fun c24 => ?_)
      · refine V_aln dX12_like_30 rfl ?_
        refine V_getIv dX12_like_31 flX12_306 (by assumption) rfl (hn) ?_
        refine V_bipush (v := 30) rfl dX12_like_34 ?_
        refine V_icmp_ne (tgt := 42) dX12_like_36 rfl (fun c36 => ?_) (fun c36 => ?_)
        · exact absurd rfl c36 --done
        · refine V_bipush (v := -3) rfl dX12_like_39 ?_
          exact V_iret hM dX12_like_41 (mDet.rf)
      · exact absurd c24 (by decide) --done
theorem e_X12_likeN {s t d : Int32} (hV : MW sh P) (hx : ∀ j : Nat, j < 16 → s = nI j → (inB t j && inB d 10000) = false) : Ev X B mdX12_like 0 0 [.ref (B + 35), .int s, .int t, .int d] nx sh I P (mDet (some (.int (-2))) nx sh I P) := by
  have s35 : sh 35 = some (.inl 12) := hV.1 35 _ rfl
  have s_likeOf : sh 61 = some (.inr (0, 30)) := hV.1 61 _ rfl
  have p_likeOf : P 35 38 = some 61 := hV.2 38 61 rfl
  have s_likeAs : sh 62 = some (.inr (0, 30)) := hV.1 62 _ rfl
  have p_likeAs : P 35 39 = some 62 := hV.2 39 62 rfl
  have s_likeDay : sh 63 = some (.inr (0, 30)) := hV.1 63 _ rfl
  have p_likeDay : P 35 40 = some 63 := hV.2 40 63 rfl
  cases hs : inB s 16 with
  | false =>
    refine Ev.of (by decide) (by simp [Value.category]) (by simp) (fun G hM => ?_)
    have hM : mM X B "like" (some FieldType.int) 2 45 0 0 _ G := hM
    show V X B RX12 cX12_like G 0 0 nx sh I P 0 [some (.ref (B + 35)), some (.int s), some (.int t), some (.int d)] []
    refine V_iln dX12_like_0 rfl ?_
    refine V_cS1d hM cvX12_303 (e_X12_isStuff) ⟨Nat.le_of_ble_eq_true rfl, Nat.le_of_ble_eq_true rfl, Nat.le_of_ble_eq_true rfl, Nat.le_of_ble_eq_true rfl⟩ (Nat.le_of_ble_eq_true rfl) dX12_like_1 ?_
    rw [hs]
    refine V_ifeq_b (tgt := 27) dX12_like_4 rfl (fun c4 => ?_) (fun c4 => ?_)
    · refine V_bipush (v := -2) rfl dX12_like_27 ?_
      exact V_iret hM dX12_like_29 (mDet.rf)
    · exact absurd c4 (by decide) --done
  | true =>
    obtain ⟨j, hj, rfl⟩ := inB_nI hs (by decide)
    have hx := hx j hj rfl
    refine Ev.of (by decide) (by simp [Value.category]) (by simp) (fun G hM => ?_)
    have hM : mM X B "like" (some FieldType.int) 2 45 0 0 _ G := hM
    show V X B RX12 cX12_like G 0 0 nx sh I P 0 [some (.ref (B + 35)), some (.int (nI j)), some (.int t), some (.int d)] []
    refine V_iln dX12_like_0 rfl ?_
    refine V_cS1d hM cvX12_303 (e_X12_isStuff) ⟨Nat.le_of_ble_eq_true rfl, Nat.le_of_ble_eq_true rfl, Nat.le_of_ble_eq_true rfl, Nat.le_of_ble_eq_true rfl⟩ (Nat.le_of_ble_eq_true rfl) dX12_like_1 ?_
    rw [hs]
    refine V_ifeq_b (tgt := 27) dX12_like_4 rfl (fun c4 => ?_) (fun c4 => ?_)
    · exact absurd c4 (by decide) --done
    · refine V_iln dX12_like_7 rfl ?_
      refine V_i2l dX12_like_8 ?_
      refine V_lconst (v := 0) rfl dX12_like_9 ?_
      refine V_iln dX12_like_10 rfl ?_
      refine V_i2l dX12_like_11 ?_
      refine V_lconst (v := 1) rfl dX12_like_12 ?_
      refine V_lsub dX12_like_13 ?_
      refine V_cS3d hM cvX12_5 (e_X12_in) ⟨Nat.le_of_ble_eq_true rfl, Nat.le_of_ble_eq_true rfl, Nat.le_of_ble_eq_true rfl, Nat.le_of_ble_eq_true rfl⟩ (Nat.le_of_ble_eq_true rfl) dX12_like_14 ?_
      rw [inJ (n64 (by omega))]
      refine V_ifeq_b (tgt := 27) dX12_like_17 rfl (fun c17 => ?_) (fun c17 => ?_)
      · refine V_bipush (v := -2) rfl dX12_like_27 ?_
        exact V_iret hM dX12_like_29 (mDet.rf)
      · refine V_iln dX12_like_20 rfl ?_
        refine V_cS1d hM cvX12_259 (e_X12_isDay) ⟨Nat.le_of_ble_eq_true rfl, Nat.le_of_ble_eq_true rfl, Nat.le_of_ble_eq_true rfl, Nat.le_of_ble_eq_true rfl⟩ (Nat.le_of_ble_eq_true rfl) dX12_like_21 ?_
        refine V_ifne_b (tgt := 30) dX12_like_24 rfl (fun c24 => ?_) (fun c24 => ?_)
        · exact absurd hx (by rw [c17, c24]; decide) --done
        · refine V_bipush (v := -2) rfl dX12_like_27 ?_
          exact V_iret hM dX12_like_29 (mDet.rf)
end MX2
