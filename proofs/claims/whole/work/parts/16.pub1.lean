/-! ===== the court's calls that only look, or tell ===== -/
section P1
variable {X : mX} {B nx : Nat} {sh : Nat → Option mSh} {I : mI} {P : mP}
def feedM (I : mI) (n : Nat) (a b c d e : Int32) : mI := tpM (tpM (tpM (tpM (tpM I 2 3 n a 4) 2 3 (n + 4) b 4) 2 3 (n + 8) c 4) 2 3 (n + 12) d 4) 2 3 (n + 16) e 4
theorem tpM_sz {t b n : Nat} {w : Int32} {j : Nat} : tpM I t b n w j t 1 = nI (n + j) := by simp [tpM, mUp]
theorem e_X10_feed {n : Nat} {a b c d e : Int32} (hW : CW sh P) (hn : I 2 1 = nI n) (h20 : n + 20 ≤ 800) : Ev X B mdX10_feed 0 0 [.ref (B + 0), .int a, .int b, .int c, .int d, .int e] nx sh I P (mDet (some (.int (nI (n + 20)))) nx sh (feedM I n a b c d e) P) := by
  have s0 : sh 0 = some (.inl 10) := hW.1 0 _ rfl
  have p0_0 : P 0 0 = some 1 := hW.2 0 0 1 rfl
  have s1 : sh 1 = some (.inl 5) := hW.1 1 _ rfl
  have p1_0 : P 1 0 = some 2 := hW.2 1 0 2 rfl
  have s2 : sh 2 = some (.inl 8) := hW.1 2 _ rfl
  have p2_0 : P 2 0 = some 3 := hW.2 2 0 3 rfl
  have s3 : sh 3 = some (.inr (1, 800)) := hW.1 3 _ rfl
  refine Ev.of (by decide) (by simp [Value.category]) (by simp) (fun G hM => ?_)
  have hM : mM X B "feed" (some FieldType.int) 1 22 0 0 _ G := hM
  show V X B RX10 cX10_feed G 0 0 nx sh I P 0 [some (.ref (B + 0)), some (.int a), some (.int b), some (.int c), some (.int d), some (.int e), none] []
  refine V_aln dX10_feed_0 rfl ?_
  refine V_getR dX10_feed_1 flX10_10 (by assumption) rfl (by assumption) ?_
  refine V_getR dX10_feed_4 flX10_90 (by assumption) rfl (by assumption) ?_
  refine V_as6 dX10_feed_7 ?_
  refine V_al dX10_feed_9 rfl ?_
  refine V_cV0d hM cvX10_94 (by assumption) rfl (e_X8_size s2) ⟨Nat.le_of_ble_eq_true rfl, Nat.le_of_ble_eq_true rfl, Nat.le_of_ble_eq_true rfl, Nat.le_of_ble_eq_true rfl⟩ (Nat.le_of_ble_eq_true rfl) dX10_feed_11 ?_
  rw [hn]
  refine V_bipush (v := 20) rfl dX10_feed_14 ?_
  refine V_iadd dX10_feed_16 ?_
  refine V_top (show _ = nI (n + 20) from nI_add n 20) ?_
  refine V_sipush (v := 800) rfl dX10_feed_17 ?_
  refine V_icmp_le (tgt := 26) dX10_feed_20 rfl (fun c20 => ?_) (fun c20 => ?_)
  · refine V_al dX10_feed_26 rfl ?_
    refine V_iln dX10_feed_28 rfl ?_
    refine V_cV1n hM cvX10_100 (by assumption) rfl (e_X8_put s2 p2_0 s3 hn (by omega)) ⟨Nat.le_of_ble_eq_true rfl, Nat.le_of_ble_eq_true rfl, Nat.le_of_ble_eq_true rfl, Nat.le_of_ble_eq_true rfl⟩ (Nat.le_of_ble_eq_true rfl) dX10_feed_29 ?_
    refine V_al dX10_feed_32 rfl ?_
    refine V_iln dX10_feed_34 rfl ?_
    refine V_cV1n hM cvX10_100 (by assumption) rfl (e_X8_put s2 p2_0 s3 tpM_sz (by omega)) ⟨Nat.le_of_ble_eq_true rfl, Nat.le_of_ble_eq_true rfl, Nat.le_of_ble_eq_true rfl, Nat.le_of_ble_eq_true rfl⟩ (Nat.le_of_ble_eq_true rfl) dX10_feed_35 ?_
    refine V_al dX10_feed_38 rfl ?_
    refine V_iln dX10_feed_40 rfl ?_
    refine V_cV1n hM cvX10_100 (by assumption) rfl (e_X8_put s2 p2_0 s3 tpM_sz (by omega)) ⟨Nat.le_of_ble_eq_true rfl, Nat.le_of_ble_eq_true rfl, Nat.le_of_ble_eq_true rfl, Nat.le_of_ble_eq_true rfl⟩ (Nat.le_of_ble_eq_true rfl) dX10_feed_41 ?_
    refine V_al dX10_feed_44 rfl ?_
    refine V_il dX10_feed_46 rfl ?_
    refine V_cV1n hM cvX10_100 (by assumption) rfl (e_X8_put s2 p2_0 s3 tpM_sz (by omega)) ⟨Nat.le_of_ble_eq_true rfl, Nat.le_of_ble_eq_true rfl, Nat.le_of_ble_eq_true rfl, Nat.le_of_ble_eq_true rfl⟩ (Nat.le_of_ble_eq_true rfl) dX10_feed_48 ?_
    refine V_al dX10_feed_51 rfl ?_
    refine V_il dX10_feed_53 rfl ?_
    refine V_cV1n hM cvX10_100 (by assumption) rfl (e_X8_put s2 p2_0 s3 tpM_sz (by omega)) ⟨Nat.le_of_ble_eq_true rfl, Nat.le_of_ble_eq_true rfl, Nat.le_of_ble_eq_true rfl, Nat.le_of_ble_eq_true rfl⟩ (Nat.le_of_ble_eq_true rfl) dX10_feed_55 ?_
    refine V_al dX10_feed_58 rfl ?_
    refine V_cV0d hM cvX10_94 (by assumption) rfl (e_X8_size s2) ⟨Nat.le_of_ble_eq_true rfl, Nat.le_of_ble_eq_true rfl, Nat.le_of_ble_eq_true rfl, Nat.le_of_ble_eq_true rfl⟩ (Nat.le_of_ble_eq_true rfl) dX10_feed_60 ?_
    rw [tpM_sz]
    exact V_iret hM dX10_feed_63 (mDet.rf)
  · exact absurd (nI_le (b := 800) h20 (by omega)) c20 --done
theorem e_X10_feedN {n : Nat} {a b c d e : Int32} (hW : CW sh P) (hn : I 2 1 = nI n) (hn8 : n ≤ 800) (h20 : ¬ n + 20 ≤ 800) : Ev X B mdX10_feed 0 0 [.ref (B + 0), .int a, .int b, .int c, .int d, .int e] nx sh I P (mDet (some (.int (-3))) nx sh I P) := by
  have s0 : sh 0 = some (.inl 10) := hW.1 0 _ rfl
  have p0_0 : P 0 0 = some 1 := hW.2 0 0 1 rfl
  have s1 : sh 1 = some (.inl 5) := hW.1 1 _ rfl
  have p1_0 : P 1 0 = some 2 := hW.2 1 0 2 rfl
  have s2 : sh 2 = some (.inl 8) := hW.1 2 _ rfl
  have p2_0 : P 2 0 = some 3 := hW.2 2 0 3 rfl
  have s3 : sh 3 = some (.inr (1, 800)) := hW.1 3 _ rfl
  refine Ev.of (by decide) (by simp [Value.category]) (by simp) (fun G hM => ?_)
  have hM : mM X B "feed" (some FieldType.int) 1 22 0 0 _ G := hM
  show V X B RX10 cX10_feed G 0 0 nx sh I P 0 [some (.ref (B + 0)), some (.int a), some (.int b), some (.int c), some (.int d), some (.int e), none] []
  refine V_aln dX10_feed_0 rfl ?_
  refine V_getR dX10_feed_1 flX10_10 (by assumption) rfl (by assumption) ?_
  refine V_getR dX10_feed_4 flX10_90 (by assumption) rfl (by assumption) ?_
  refine V_as6 dX10_feed_7 ?_
  refine V_al dX10_feed_9 rfl ?_
  refine V_cV0d hM cvX10_94 (by assumption) rfl (e_X8_size s2) ⟨Nat.le_of_ble_eq_true rfl, Nat.le_of_ble_eq_true rfl, Nat.le_of_ble_eq_true rfl, Nat.le_of_ble_eq_true rfl⟩ (Nat.le_of_ble_eq_true rfl) dX10_feed_11 ?_
  rw [hn]
  refine V_bipush (v := 20) rfl dX10_feed_14 ?_
  refine V_iadd dX10_feed_16 ?_
  refine V_top (show _ = nI (n + 20) from nI_add n 20) ?_
  refine V_sipush (v := 800) rfl dX10_feed_17 ?_
  refine V_icmp_le (tgt := 26) dX10_feed_20 rfl (fun c20 => ?_) (fun c20 => ?_)
  · exact absurd (nN_le (b := 800) c20 (by omega) (by omega)) h20 --done
  · refine V_bipush (v := -3) rfl dX10_feed_23 ?_
    exact V_iret hM dX10_feed_25 (mDet.rf)
theorem e_X10_end {n m : Nat} (hW : CW sh P) (hn : I 2 1 = nI n) (hn8 : n ≤ 800) (hm : m ≤ n) : Ev X B mdX10_end 0 0 [.ref (B + 0), .int (nI m)] nx sh I P (mDet (some (.int (nI m))) nx sh (mUp I 2 1 (nI m)) P) := by
  have s0 : sh 0 = some (.inl 10) := hW.1 0 _ rfl
  have p0_0 : P 0 0 = some 1 := hW.2 0 0 1 rfl
  have s1 : sh 1 = some (.inl 5) := hW.1 1 _ rfl
  have p1_0 : P 1 0 = some 2 := hW.2 1 0 2 rfl
  have s2 : sh 2 = some (.inl 8) := hW.1 2 _ rfl
  refine Ev.of (by decide) (by simp [Value.category]) (by simp) (fun G hM => ?_)
  have hM : mM X B "end" (some FieldType.int) 1 21 0 0 _ G := hM
  show V X B RX10 cX10_end G 0 0 nx sh I P 0 [some (.ref (B + 0)), some (.int (nI m))] []
  refine V_iln dX10_end_0 rfl ?_
  refine V_if_lt (tgt := 18) dX10_end_1 rfl (fun c1 => ?_) (fun c1 => ?_)
  · exact absurd c1 (nI_pos (by omega)) --done
  · refine V_iln dX10_end_4 rfl ?_
    refine V_aln dX10_end_5 rfl ?_
    refine V_getR dX10_end_6 flX10_10 (by assumption) rfl (by assumption) ?_
    refine V_getR dX10_end_9 flX10_90 (by assumption) rfl (by assumption) ?_
    refine V_cV0d hM cvX10_94 (by assumption) rfl (e_X8_size s2) ⟨Nat.le_of_ble_eq_true rfl, Nat.le_of_ble_eq_true rfl, Nat.le_of_ble_eq_true rfl, Nat.le_of_ble_eq_true rfl⟩ (Nat.le_of_ble_eq_true rfl) dX10_end_12 ?_
    rw [hn]
    refine V_icmp_le (tgt := 20) dX10_end_15 rfl (fun c15 => ?_) (fun c15 => ?_)
    · refine V_aln dX10_end_20 rfl ?_
      refine V_getR dX10_end_21 flX10_10 (by assumption) rfl (by assumption) ?_
      refine V_getR dX10_end_24 flX10_90 (by assumption) rfl (by assumption) ?_
      refine V_iln dX10_end_27 rfl ?_
      refine V_cV1n hM cvX10_103 (by assumption) rfl (e_X8_cutTo s2 hn hm hn8) ⟨Nat.le_of_ble_eq_true rfl, Nat.le_of_ble_eq_true rfl, Nat.le_of_ble_eq_true rfl, Nat.le_of_ble_eq_true rfl⟩ (Nat.le_of_ble_eq_true rfl) dX10_end_28 ?_
      refine V_iln dX10_end_31 rfl ?_
      exact V_iret hM dX10_end_32 (mDet.rf)
    · exact absurd (nI_le hm (by omega)) c15 --done
theorem e_X10_endN {n : Nat} {x : Int32} (hW : CW sh P) (hn : I 2 1 = nI n) (hn8 : n ≤ 800) (hx : inB x (n + 1) = false) : Ev X B mdX10_end 0 0 [.ref (B + 0), .int x] nx sh I P (mDet (some (.int (-1))) nx sh I P) := by
  have s0 : sh 0 = some (.inl 10) := hW.1 0 _ rfl
  have p0_0 : P 0 0 = some 1 := hW.2 0 0 1 rfl
  have s1 : sh 1 = some (.inl 5) := hW.1 1 _ rfl
  have p1_0 : P 1 0 = some 2 := hW.2 1 0 2 rfl
  have s2 : sh 2 = some (.inl 8) := hW.1 2 _ rfl
  have hx : ¬ (0 ≤ x.toInt ∧ x.toInt < (n + 1 : Nat)) := fun h => by rw [inB_iff.mpr h] at hx; cases hx
  refine Ev.of (by decide) (by simp [Value.category]) (by simp) (fun G hM => ?_)
  have hM : mM X B "end" (some FieldType.int) 1 21 0 0 _ G := hM
  show V X B RX10 cX10_end G 0 0 nx sh I P 0 [some (.ref (B + 0)), some (.int x)] []
  refine V_iln dX10_end_0 rfl ?_
  refine V_if_lt (tgt := 18) dX10_end_1 rfl (fun c1 => ?_) (fun c1 => ?_)
  · refine V_iconst (v := -1) rfl dX10_end_18 ?_
    exact V_iret hM dX10_end_19 (mDet.rf)
  · refine V_iln dX10_end_4 rfl ?_
    refine V_aln dX10_end_5 rfl ?_
    refine V_getR dX10_end_6 flX10_10 (by assumption) rfl (by assumption) ?_
    refine V_getR dX10_end_9 flX10_90 (by assumption) rfl (by assumption) ?_
    refine V_cV0d hM cvX10_94 (by assumption) rfl (e_X8_size s2) ⟨Nat.le_of_ble_eq_true rfl, Nat.le_of_ble_eq_true rfl, Nat.le_of_ble_eq_true rfl, Nat.le_of_ble_eq_true rfl⟩ (Nat.le_of_ble_eq_true rfl) dX10_end_12 ?_
    rw [hn]
    refine V_icmp_le (tgt := 20) dX10_end_15 rfl (fun c15 => ?_) (fun c15 => ?_)
    · rw [i_le, nI_toInt (by omega)] at c15
      rw [i_lt] at c1
      exact absurd ⟨by simpa using c1, by omega⟩ hx --done
    · refine V_iconst (v := -1) rfl dX10_end_18 ?_
      exact V_iret hM dX10_end_19 (mDet.rf)
theorem RowsAt.add {a k d u room n : Nat} {x y z : Int32} (h : RowsAt sh I P a k d u room n) (hn : n < room) : RowsAt sh (rAdd I a k d u n x y z) P a k d u room (n + 1) := ⟨h.1, h.2.1, h.2.2.1, h.2.2.2.1, h.2.2.2.2.1, h.2.2.2.2.2.1, h.2.2.2.2.2.2.1, by simp [rAdd, mUp], hn, h.2.2.2.2.2.2.2.2.2⟩
theorem e_X10_rankN {p day r : Int32} (hW : CW sh P) (hx : (inB p 30 && inB day 10000 && inB r 10) = false) : Ev X B mdX10_rank 0 0 [.ref (B + 0), .int p, .int day, .int r] nx sh I P (mDet (some (.int (-2))) nx sh I P) := by
  have s0 : sh 0 = some (.inl 10) := hW.1 0 _ rfl
  have p0_2 : P 0 2 = some 8 := hW.2 0 2 8 rfl
  have s8 : sh 8 = some (.inl 6) := hW.1 8 _ rfl
  refine Ev.of (by decide) (by simp [Value.category]) (by simp) (fun G hM => ?_)
  have hM : mM X B "rank" (some FieldType.int) 1 23 0 0 _ G := hM
  show V X B RX10 cX10_rank G 0 0 nx sh I P 0 [some (.ref (B + 0)), some (.int p), some (.int day), some (.int r)] []
  refine V_iln dX10_rank_0 rfl ?_
  refine V_cS1d hM cvX10_106 (e_X10_isPerson) ⟨Nat.le_of_ble_eq_true rfl, Nat.le_of_ble_eq_true rfl, Nat.le_of_ble_eq_true rfl, Nat.le_of_ble_eq_true rfl⟩ (Nat.le_of_ble_eq_true rfl) dX10_rank_1 ?_
  refine V_ifeq_b (tgt := 21) dX10_rank_4 rfl (fun c4 => ?_) (fun c4 => ?_)
  · refine V_bipush (v := -2) rfl dX10_rank_21 ?_
    exact V_iret hM dX10_rank_23 (mDet.rf)
  · refine V_iln dX10_rank_7 rfl ?_
    refine V_cS1d hM cvX10_110 (e_X10_isDay) ⟨Nat.le_of_ble_eq_true rfl, Nat.le_of_ble_eq_true rfl, Nat.le_of_ble_eq_true rfl, Nat.le_of_ble_eq_true rfl⟩ (Nat.le_of_ble_eq_true rfl) dX10_rank_8 ?_
    refine V_ifeq_b (tgt := 21) dX10_rank_11 rfl (fun c11 => ?_) (fun c11 => ?_)
    · refine V_bipush (v := -2) rfl dX10_rank_21 ?_
      exact V_iret hM dX10_rank_23 (mDet.rf)
    · refine V_iln dX10_rank_14 rfl ?_
      refine V_cS1d hM cvX10_113 (e_X10_isRank) ⟨Nat.le_of_ble_eq_true rfl, Nat.le_of_ble_eq_true rfl, Nat.le_of_ble_eq_true rfl, Nat.le_of_ble_eq_true rfl⟩ (Nat.le_of_ble_eq_true rfl) dX10_rank_15 ?_
      refine V_ifne_b (tgt := 24) dX10_rank_18 rfl (fun c18 => ?_) (fun c18 => ?_)
      · simp [c4, c11, c18] at hx --done
      · refine V_bipush (v := -2) rfl dX10_rank_21 ?_
        exact V_iret hM dX10_rank_23 (mDet.rf)
theorem e_X10_rankF {n : Nat} {p day r : Int32} (hW : CW sh P) (hn : NRk I n) (hx : (inB p 30 && inB day 10000 && inB r 10) = true) (hf : ¬ rCnt (I 9) p n < 12) : Ev X B mdX10_rank 0 0 [.ref (B + 0), .int p, .int day, .int r] nx sh I P (mDet (some (.int (-3))) nx sh I P) := by
  have s0 : sh 0 = some (.inl 10) := hW.1 0 _ rfl
  have p0_2 : P 0 2 = some 8 := hW.2 0 2 8 rfl
  have s8 : sh 8 = some (.inl 6) := hW.1 8 _ rfl
  simp only [Bool.and_eq_true] at hx
  refine Ev.of (by decide) (by simp [Value.category]) (by simp) (fun G hM => ?_)
  have hM : mM X B "rank" (some FieldType.int) 1 23 0 0 _ G := hM
  show V X B RX10 cX10_rank G 0 0 nx sh I P 0 [some (.ref (B + 0)), some (.int p), some (.int day), some (.int r)] []
  refine V_iln dX10_rank_0 rfl ?_
  refine V_cS1d hM cvX10_106 (e_X10_isPerson) ⟨Nat.le_of_ble_eq_true rfl, Nat.le_of_ble_eq_true rfl, Nat.le_of_ble_eq_true rfl, Nat.le_of_ble_eq_true rfl⟩ (Nat.le_of_ble_eq_true rfl) dX10_rank_1 ?_
  refine V_ifeq_b (tgt := 21) dX10_rank_4 rfl (fun c4 => ?_) (fun c4 => ?_)
  · rw [hx.1.1] at c4; cases c4 --done
  · refine V_iln dX10_rank_7 rfl ?_
    refine V_cS1d hM cvX10_110 (e_X10_isDay) ⟨Nat.le_of_ble_eq_true rfl, Nat.le_of_ble_eq_true rfl, Nat.le_of_ble_eq_true rfl, Nat.le_of_ble_eq_true rfl⟩ (Nat.le_of_ble_eq_true rfl) dX10_rank_8 ?_
    refine V_ifeq_b (tgt := 21) dX10_rank_11 rfl (fun c11 => ?_) (fun c11 => ?_)
    · rw [hx.1.2] at c11; cases c11 --done
    · refine V_iln dX10_rank_14 rfl ?_
      refine V_cS1d hM cvX10_113 (e_X10_isRank) ⟨Nat.le_of_ble_eq_true rfl, Nat.le_of_ble_eq_true rfl, Nat.le_of_ble_eq_true rfl, Nat.le_of_ble_eq_true rfl⟩ (Nat.le_of_ble_eq_true rfl) dX10_rank_15 ?_
      refine V_ifne_b (tgt := 24) dX10_rank_18 rfl (fun c18 => ?_) (fun c18 => ?_)
      · refine V_aln dX10_rank_24 rfl ?_
        refine V_getR dX10_rank_25 flX10_28 (by assumption) rfl (by assumption) ?_
        refine V_iln dX10_rank_28 rfl ?_
        refine V_cV1d hM cvX10_116 (by assumption) rfl (e_X6_countOf (hW.rk hn)) ⟨Nat.le_of_ble_eq_true rfl, Nat.le_of_ble_eq_true rfl, Nat.le_of_ble_eq_true rfl, Nat.le_of_ble_eq_true rfl⟩ (Nat.le_of_ble_eq_true rfl) dX10_rank_29 ?_
        refine V_bipush (v := 12) rfl dX10_rank_32 ?_
        refine V_icmp_lt (tgt := 40) dX10_rank_34 rfl (fun c34 => ?_) (fun c34 => ?_)
        · exact absurd c34 hf --done
        · refine V_bipush (v := -3) rfl dX10_rank_37 ?_
          exact V_iret hM dX10_rank_39 (mDet.rf)
      · rw [hx.2] at c18; cases c18 --done
theorem e_X10_rank {n : Nat} {p day r : Int32} (hW : CW sh P) (hn : NRk I n) (hx : (inB p 30 && inB day 10000 && inB r 10) = true) (hf : rCnt (I 9) p n < 12) (hn2 : n < 360) : Ev X B mdX10_rank 0 0 [.ref (B + 0), .int p, .int day, .int r] nx sh I P (mDet (some (.int (rCnt (rAdd I 8 9 10 11 n p day r 9) p (n + 1)))) nx sh (rAdd I 8 9 10 11 n p day r) P) := by
  have s0 : sh 0 = some (.inl 10) := hW.1 0 _ rfl
  have p0_2 : P 0 2 = some 8 := hW.2 0 2 8 rfl
  have s8 : sh 8 = some (.inl 6) := hW.1 8 _ rfl
  simp only [Bool.and_eq_true] at hx
  refine Ev.of (by decide) (by simp [Value.category]) (by simp) (fun G hM => ?_)
  have hM : mM X B "rank" (some FieldType.int) 1 23 0 0 _ G := hM
  show V X B RX10 cX10_rank G 0 0 nx sh I P 0 [some (.ref (B + 0)), some (.int p), some (.int day), some (.int r)] []
  refine V_iln dX10_rank_0 rfl ?_
  refine V_cS1d hM cvX10_106 (e_X10_isPerson) ⟨Nat.le_of_ble_eq_true rfl, Nat.le_of_ble_eq_true rfl, Nat.le_of_ble_eq_true rfl, Nat.le_of_ble_eq_true rfl⟩ (Nat.le_of_ble_eq_true rfl) dX10_rank_1 ?_
  refine V_ifeq_b (tgt := 21) dX10_rank_4 rfl (fun c4 => ?_) (fun c4 => ?_)
  · rw [hx.1.1] at c4; cases c4 --done
  · refine V_iln dX10_rank_7 rfl ?_
    refine V_cS1d hM cvX10_110 (e_X10_isDay) ⟨Nat.le_of_ble_eq_true rfl, Nat.le_of_ble_eq_true rfl, Nat.le_of_ble_eq_true rfl, Nat.le_of_ble_eq_true rfl⟩ (Nat.le_of_ble_eq_true rfl) dX10_rank_8 ?_
    refine V_ifeq_b (tgt := 21) dX10_rank_11 rfl (fun c11 => ?_) (fun c11 => ?_)
    · rw [hx.1.2] at c11; cases c11 --done
    · refine V_iln dX10_rank_14 rfl ?_
      refine V_cS1d hM cvX10_113 (e_X10_isRank) ⟨Nat.le_of_ble_eq_true rfl, Nat.le_of_ble_eq_true rfl, Nat.le_of_ble_eq_true rfl, Nat.le_of_ble_eq_true rfl⟩ (Nat.le_of_ble_eq_true rfl) dX10_rank_15 ?_
      refine V_ifne_b (tgt := 24) dX10_rank_18 rfl (fun c18 => ?_) (fun c18 => ?_)
      · refine V_aln dX10_rank_24 rfl ?_
        refine V_getR dX10_rank_25 flX10_28 (by assumption) rfl (by assumption) ?_
        refine V_iln dX10_rank_28 rfl ?_
        refine V_cV1d hM cvX10_116 (by assumption) rfl (e_X6_countOf (hW.rk hn)) ⟨Nat.le_of_ble_eq_true rfl, Nat.le_of_ble_eq_true rfl, Nat.le_of_ble_eq_true rfl, Nat.le_of_ble_eq_true rfl⟩ (Nat.le_of_ble_eq_true rfl) dX10_rank_29 ?_
        refine V_bipush (v := 12) rfl dX10_rank_32 ?_
        refine V_icmp_lt (tgt := 40) dX10_rank_34 rfl (fun c34 => ?_) (fun c34 => ?_)
        · refine V_aln dX10_rank_40 rfl ?_
          refine V_getR dX10_rank_41 flX10_28 (by assumption) rfl (by assumption) ?_
          refine V_iln dX10_rank_44 rfl ?_
          refine V_iln dX10_rank_45 rfl ?_
          refine V_iln dX10_rank_46 rfl ?_
          refine V_cV3n hM cvX10_120 (by assumption) rfl (e_X6_add (hW.rk hn) hn2) ⟨Nat.le_of_ble_eq_true rfl, Nat.le_of_ble_eq_true rfl, Nat.le_of_ble_eq_true rfl, Nat.le_of_ble_eq_true rfl⟩ (Nat.le_of_ble_eq_true rfl) dX10_rank_47 ?_
          refine V_aln dX10_rank_50 rfl ?_
          refine V_getR dX10_rank_51 flX10_28 (by assumption) rfl (by assumption) ?_
          refine V_iln dX10_rank_54 rfl ?_
          refine V_cV1d hM cvX10_116 (by assumption) rfl (e_X6_countOf ((hW.rk hn).add hn2)) ⟨Nat.le_of_ble_eq_true rfl, Nat.le_of_ble_eq_true rfl, Nat.le_of_ble_eq_true rfl, Nat.le_of_ble_eq_true rfl⟩ (Nat.le_of_ble_eq_true rfl) dX10_rank_55 ?_
          exact V_iret hM dX10_rank_58 (mDet.rf)
        · exact absurd hf c34 --done
      · rw [hx.2] at c18; cases c18 --done
theorem e_X10_weddingN {p a b : Int32} (hW : CW sh P) (hx : (inB p 30 && (inB a 10000 && inB b 10000 && decide (a ≤ b))) = false) : Ev X B mdX10_wedding 0 0 [.ref (B + 0), .int p, .int a, .int b] nx sh I P (mDet (some (.int (-2))) nx sh I P) := by
  have s0 : sh 0 = some (.inl 10) := hW.1 0 _ rfl
  have p0_3 : P 0 3 = some 12 := hW.2 0 3 12 rfl
  have s12 : sh 12 = some (.inl 6) := hW.1 12 _ rfl
  refine Ev.of (by decide) (by simp [Value.category]) (by simp) (fun G hM => ?_)
  have hM : mM X B "wedding" (some FieldType.int) 2 41 0 0 _ G := hM
  show V X B RX10 cX10_wedding G 0 0 nx sh I P 0 [some (.ref (B + 0)), some (.int p), some (.int a), some (.int b)] []
  refine V_iln dX10_wedding_0 rfl ?_
  refine V_cS1d hM cvX10_106 (e_X10_isPerson) ⟨Nat.le_of_ble_eq_true rfl, Nat.le_of_ble_eq_true rfl, Nat.le_of_ble_eq_true rfl, Nat.le_of_ble_eq_true rfl⟩ (Nat.le_of_ble_eq_true rfl) dX10_wedding_1 ?_
  refine V_ifeq_b (tgt := 15) dX10_wedding_4 rfl (fun c4 => ?_) (fun c4 => ?_)
  · refine V_bipush (v := -2) rfl dX10_wedding_15 ?_
    exact V_iret hM dX10_wedding_17 (mDet.rf)
  · refine V_iln dX10_wedding_7 rfl ?_
    refine V_iln dX10_wedding_8 rfl ?_
    refine V_cS2d hM cvX10_124 (e_X10_isSpan) ⟨Nat.le_of_ble_eq_true rfl, Nat.le_of_ble_eq_true rfl, Nat.le_of_ble_eq_true rfl, Nat.le_of_ble_eq_true rfl⟩ (Nat.le_of_ble_eq_true rfl) dX10_wedding_9 ?_
    refine V_ifne_b (tgt := 18) dX10_wedding_12 rfl (fun c12 => ?_) (fun c12 => ?_)
    · rw [c4, c12] at hx; cases hx --done
    · refine V_bipush (v := -2) rfl dX10_wedding_15 ?_
      exact V_iret hM dX10_wedding_17 (mDet.rf)
theorem e_X10_weddingF {n : Nat} {p a b : Int32} (hW : CW sh P) (hn : NWd I n) (hx : (inB p 30 && (inB a 10000 && inB b 10000 && decide (a ≤ b))) = true) (hf : ¬ rCnt (I 13) p n < 4) : Ev X B mdX10_wedding 0 0 [.ref (B + 0), .int p, .int a, .int b] nx sh I P (mDet (some (.int (-3))) nx sh I P) := by
  have s0 : sh 0 = some (.inl 10) := hW.1 0 _ rfl
  have p0_3 : P 0 3 = some 12 := hW.2 0 3 12 rfl
  have s12 : sh 12 = some (.inl 6) := hW.1 12 _ rfl
  rw [Bool.and_eq_true] at hx
  refine Ev.of (by decide) (by simp [Value.category]) (by simp) (fun G hM => ?_)
  have hM : mM X B "wedding" (some FieldType.int) 2 41 0 0 _ G := hM
  show V X B RX10 cX10_wedding G 0 0 nx sh I P 0 [some (.ref (B + 0)), some (.int p), some (.int a), some (.int b)] []
  refine V_iln dX10_wedding_0 rfl ?_
  refine V_cS1d hM cvX10_106 (e_X10_isPerson) ⟨Nat.le_of_ble_eq_true rfl, Nat.le_of_ble_eq_true rfl, Nat.le_of_ble_eq_true rfl, Nat.le_of_ble_eq_true rfl⟩ (Nat.le_of_ble_eq_true rfl) dX10_wedding_1 ?_
  refine V_ifeq_b (tgt := 15) dX10_wedding_4 rfl (fun c4 => ?_) (fun c4 => ?_)
  · rw [hx.1] at c4; cases c4 --done
  · refine V_iln dX10_wedding_7 rfl ?_
    refine V_iln dX10_wedding_8 rfl ?_
    refine V_cS2d hM cvX10_124 (e_X10_isSpan) ⟨Nat.le_of_ble_eq_true rfl, Nat.le_of_ble_eq_true rfl, Nat.le_of_ble_eq_true rfl, Nat.le_of_ble_eq_true rfl⟩ (Nat.le_of_ble_eq_true rfl) dX10_wedding_9 ?_
    refine V_ifne_b (tgt := 18) dX10_wedding_12 rfl (fun c12 => ?_) (fun c12 => ?_)
    · refine V_aln dX10_wedding_18 rfl ?_
      refine V_getR dX10_wedding_19 flX10_32 (by assumption) rfl (by assumption) ?_
      refine V_iln dX10_wedding_22 rfl ?_
      refine V_cV1d hM cvX10_116 (by assumption) rfl (e_X6_countOf (hW.wd hn)) ⟨Nat.le_of_ble_eq_true rfl, Nat.le_of_ble_eq_true rfl, Nat.le_of_ble_eq_true rfl, Nat.le_of_ble_eq_true rfl⟩ (Nat.le_of_ble_eq_true rfl) dX10_wedding_23 ?_
      refine V_iconst (v := 4) rfl dX10_wedding_26 ?_
      refine V_icmp_lt (tgt := 33) dX10_wedding_27 rfl (fun c27 => ?_) (fun c27 => ?_)
      · exact absurd c27 hf --done
      · refine V_bipush (v := -3) rfl dX10_wedding_30 ?_
        exact V_iret hM dX10_wedding_32 (mDet.rf)
    · rw [hx.2] at c12; cases c12 --done
theorem e_X10_wedding {n : Nat} {p a b : Int32} (hW : CW sh P) (hn : NWd I n) (hx : (inB p 30 && (inB a 10000 && inB b 10000 && decide (a ≤ b))) = true) (hf : rCnt (I 13) p n < 4) (hn2 : n < 120) : Ev X B mdX10_wedding 0 0 [.ref (B + 0), .int p, .int a, .int b] nx sh I P (mDet (some (.int (rCnt (rAdd I 12 13 14 15 n p a b 13) p (n + 1)))) nx sh (rAdd I 12 13 14 15 n p a b) P) := by
  have s0 : sh 0 = some (.inl 10) := hW.1 0 _ rfl
  have p0_3 : P 0 3 = some 12 := hW.2 0 3 12 rfl
  have s12 : sh 12 = some (.inl 6) := hW.1 12 _ rfl
  rw [Bool.and_eq_true] at hx
  refine Ev.of (by decide) (by simp [Value.category]) (by simp) (fun G hM => ?_)
  have hM : mM X B "wedding" (some FieldType.int) 2 41 0 0 _ G := hM
  show V X B RX10 cX10_wedding G 0 0 nx sh I P 0 [some (.ref (B + 0)), some (.int p), some (.int a), some (.int b)] []
  refine V_iln dX10_wedding_0 rfl ?_
  refine V_cS1d hM cvX10_106 (e_X10_isPerson) ⟨Nat.le_of_ble_eq_true rfl, Nat.le_of_ble_eq_true rfl, Nat.le_of_ble_eq_true rfl, Nat.le_of_ble_eq_true rfl⟩ (Nat.le_of_ble_eq_true rfl) dX10_wedding_1 ?_
  refine V_ifeq_b (tgt := 15) dX10_wedding_4 rfl (fun c4 => ?_) (fun c4 => ?_)
  · rw [hx.1] at c4; cases c4 --done
  · refine V_iln dX10_wedding_7 rfl ?_
    refine V_iln dX10_wedding_8 rfl ?_
    refine V_cS2d hM cvX10_124 (e_X10_isSpan) ⟨Nat.le_of_ble_eq_true rfl, Nat.le_of_ble_eq_true rfl, Nat.le_of_ble_eq_true rfl, Nat.le_of_ble_eq_true rfl⟩ (Nat.le_of_ble_eq_true rfl) dX10_wedding_9 ?_
    refine V_ifne_b (tgt := 18) dX10_wedding_12 rfl (fun c12 => ?_) (fun c12 => ?_)
    · refine V_aln dX10_wedding_18 rfl ?_
      refine V_getR dX10_wedding_19 flX10_32 (by assumption) rfl (by assumption) ?_
      refine V_iln dX10_wedding_22 rfl ?_
      refine V_cV1d hM cvX10_116 (by assumption) rfl (e_X6_countOf (hW.wd hn)) ⟨Nat.le_of_ble_eq_true rfl, Nat.le_of_ble_eq_true rfl, Nat.le_of_ble_eq_true rfl, Nat.le_of_ble_eq_true rfl⟩ (Nat.le_of_ble_eq_true rfl) dX10_wedding_23 ?_
      refine V_iconst (v := 4) rfl dX10_wedding_26 ?_
      refine V_icmp_lt (tgt := 33) dX10_wedding_27 rfl (fun c27 => ?_) (fun c27 => ?_)
      · refine V_aln dX10_wedding_33 rfl ?_
        refine V_getR dX10_wedding_34 flX10_32 (by assumption) rfl (by assumption) ?_
        refine V_iln dX10_wedding_37 rfl ?_
        refine V_iln dX10_wedding_38 rfl ?_
        refine V_iln dX10_wedding_39 rfl ?_
        refine V_cV3n hM cvX10_120 (by assumption) rfl (e_X6_add (hW.wd hn) hn2) ⟨Nat.le_of_ble_eq_true rfl, Nat.le_of_ble_eq_true rfl, Nat.le_of_ble_eq_true rfl, Nat.le_of_ble_eq_true rfl⟩ (Nat.le_of_ble_eq_true rfl) dX10_wedding_40 ?_
        refine V_aln dX10_wedding_43 rfl ?_
        refine V_getR dX10_wedding_44 flX10_32 (by assumption) rfl (by assumption) ?_
        refine V_iln dX10_wedding_47 rfl ?_
        refine V_cV1d hM cvX10_116 (by assumption) rfl (e_X6_countOf ((hW.wd hn).add hn2)) ⟨Nat.le_of_ble_eq_true rfl, Nat.le_of_ble_eq_true rfl, Nat.le_of_ble_eq_true rfl, Nat.le_of_ble_eq_true rfl⟩ (Nat.le_of_ble_eq_true rfl) dX10_wedding_48 ?_
        exact V_iret hM dX10_wedding_51 (mDet.rf)
      · exact absurd hf c27 --done
    · rw [hx.2] at c12; cases c12 --done
theorem e_X10_feastN {a b : Int32} (hW : CW sh P) (hx : (inB a 10000 && inB b 10000 && decide (a ≤ b)) = false) : Ev X B mdX10_feast 0 0 [.ref (B + 0), .int a, .int b] nx sh I P (mDet (some (.int (-2))) nx sh I P) := by
  have s0 : sh 0 = some (.inl 10) := hW.1 0 _ rfl
  have p0_4 : P 0 4 = some 16 := hW.2 0 4 16 rfl
  have s16 : sh 16 = some (.inl 6) := hW.1 16 _ rfl
  refine Ev.of (by decide) (by simp [Value.category]) (by simp) (fun G hM => ?_)
  have hM : mM X B "feast" (some FieldType.int) 2 41 0 0 _ G := hM
  show V X B RX10 cX10_feast G 0 0 nx sh I P 0 [some (.ref (B + 0)), some (.int a), some (.int b)] []
  refine V_iln dX10_feast_0 rfl ?_
  refine V_iln dX10_feast_1 rfl ?_
  refine V_cS2d hM cvX10_124 (e_X10_isSpan) ⟨Nat.le_of_ble_eq_true rfl, Nat.le_of_ble_eq_true rfl, Nat.le_of_ble_eq_true rfl, Nat.le_of_ble_eq_true rfl⟩ (Nat.le_of_ble_eq_true rfl) dX10_feast_2 ?_
  refine V_ifne_b (tgt := 11) dX10_feast_5 rfl (fun c5 => ?_) (fun c5 => ?_)
  · rw [c5] at hx; cases hx --done
  · refine V_bipush (v := -2) rfl dX10_feast_8 ?_
    exact V_iret hM dX10_feast_10 (mDet.rf)
theorem e_X10_feastF {a b : Int32} (hW : CW sh P) (hn : NFe I 20) (hx : (inB a 10000 && inB b 10000 && decide (a ≤ b)) = true) : Ev X B mdX10_feast 0 0 [.ref (B + 0), .int a, .int b] nx sh I P (mDet (some (.int (-3))) nx sh I P) := by
  have s0 : sh 0 = some (.inl 10) := hW.1 0 _ rfl
  have p0_4 : P 0 4 = some 16 := hW.2 0 4 16 rfl
  have s16 : sh 16 = some (.inl 6) := hW.1 16 _ rfl
  refine Ev.of (by decide) (by simp [Value.category]) (by simp) (fun G hM => ?_)
  have hM : mM X B "feast" (some FieldType.int) 2 41 0 0 _ G := hM
  show V X B RX10 cX10_feast G 0 0 nx sh I P 0 [some (.ref (B + 0)), some (.int a), some (.int b)] []
  refine V_iln dX10_feast_0 rfl ?_
  refine V_iln dX10_feast_1 rfl ?_
  refine V_cS2d hM cvX10_124 (e_X10_isSpan) ⟨Nat.le_of_ble_eq_true rfl, Nat.le_of_ble_eq_true rfl, Nat.le_of_ble_eq_true rfl, Nat.le_of_ble_eq_true rfl⟩ (Nat.le_of_ble_eq_true rfl) dX10_feast_2 ?_
  refine V_ifne_b (tgt := 11) dX10_feast_5 rfl (fun c5 => ?_) (fun c5 => ?_)
  · refine V_aln dX10_feast_11 rfl ?_
    refine V_getR dX10_feast_12 flX10_35 (by assumption) rfl (by assumption) ?_
    refine V_cV0d hM cvX10_128 (by assumption) rfl (e_X6_size s16) ⟨Nat.le_of_ble_eq_true rfl, Nat.le_of_ble_eq_true rfl, Nat.le_of_ble_eq_true rfl, Nat.le_of_ble_eq_true rfl⟩ (Nat.le_of_ble_eq_true rfl) dX10_feast_15 ?_
    rw [hn.1]
    refine V_bipush (v := 20) rfl dX10_feast_18 ?_
    refine V_icmp_lt (tgt := 26) dX10_feast_20 rfl (fun c20 => ?_) (fun c20 => ?_)
    · exact absurd c20 (by decide) --done
    · refine V_bipush (v := -3) rfl dX10_feast_23 ?_
      exact V_iret hM dX10_feast_25 (mDet.rf)
  · rw [c5] at hx; cases hx --done
theorem e_X10_feast {n : Nat} {a b : Int32} (hW : CW sh P) (hn : NFe I n) (hx : (inB a 10000 && inB b 10000 && decide (a ≤ b)) = true) (hf : n < 20) : Ev X B mdX10_feast 0 0 [.ref (B + 0), .int a, .int b] nx sh I P (mDet (some (.int (nI (n + 1)))) nx sh (rAdd I 16 17 18 19 n 0 a b) P) := by
  have s0 : sh 0 = some (.inl 10) := hW.1 0 _ rfl
  have p0_4 : P 0 4 = some 16 := hW.2 0 4 16 rfl
  have s16 : sh 16 = some (.inl 6) := hW.1 16 _ rfl
  refine Ev.of (by decide) (by simp [Value.category]) (by simp) (fun G hM => ?_)
  have hM : mM X B "feast" (some FieldType.int) 2 41 0 0 _ G := hM
  show V X B RX10 cX10_feast G 0 0 nx sh I P 0 [some (.ref (B + 0)), some (.int a), some (.int b)] []
  refine V_iln dX10_feast_0 rfl ?_
  refine V_iln dX10_feast_1 rfl ?_
  refine V_cS2d hM cvX10_124 (e_X10_isSpan) ⟨Nat.le_of_ble_eq_true rfl, Nat.le_of_ble_eq_true rfl, Nat.le_of_ble_eq_true rfl, Nat.le_of_ble_eq_true rfl⟩ (Nat.le_of_ble_eq_true rfl) dX10_feast_2 ?_
  refine V_ifne_b (tgt := 11) dX10_feast_5 rfl (fun c5 => ?_) (fun c5 => ?_)
  · refine V_aln dX10_feast_11 rfl ?_
    refine V_getR dX10_feast_12 flX10_35 (by assumption) rfl (by assumption) ?_
    refine V_cV0d hM cvX10_128 (by assumption) rfl (e_X6_size s16) ⟨Nat.le_of_ble_eq_true rfl, Nat.le_of_ble_eq_true rfl, Nat.le_of_ble_eq_true rfl, Nat.le_of_ble_eq_true rfl⟩ (Nat.le_of_ble_eq_true rfl) dX10_feast_15 ?_
    rw [hn.1]
    refine V_bipush (v := 20) rfl dX10_feast_18 ?_
    refine V_icmp_lt (tgt := 26) dX10_feast_20 rfl (fun c20 => ?_) (fun c20 => ?_)
    · refine V_aln dX10_feast_26 rfl ?_
      refine V_getR dX10_feast_27 flX10_35 (by assumption) rfl (by assumption) ?_
      refine V_iconst (v := 0) rfl dX10_feast_30 ?_
      refine V_iln dX10_feast_31 rfl ?_
      refine V_iln dX10_feast_32 rfl ?_
      refine V_cV3n hM cvX10_120 (by assumption) rfl (e_X6_add (hW.fe hn) hf) ⟨Nat.le_of_ble_eq_true rfl, Nat.le_of_ble_eq_true rfl, Nat.le_of_ble_eq_true rfl, Nat.le_of_ble_eq_true rfl⟩ (Nat.le_of_ble_eq_true rfl) dX10_feast_33 ?_
      refine V_aln dX10_feast_36 rfl ?_
      refine V_getR dX10_feast_37 flX10_35 (by assumption) rfl (by assumption) ?_
      refine V_cV0d hM cvX10_128 (by assumption) rfl (e_X6_size s16) ⟨Nat.le_of_ble_eq_true rfl, Nat.le_of_ble_eq_true rfl, Nat.le_of_ble_eq_true rfl, Nat.le_of_ble_eq_true rfl⟩ (Nat.le_of_ble_eq_true rfl) dX10_feast_40 ?_
      exact V_iret hM dX10_feast_43 (⟨by simp [rAdd, mUp], rfl, rfl, rfl, rfl⟩)
    · exact absurd (nI_lt (b := 20) hf (by omega)) c20 --done
  · rw [c5] at hx; cases hx --done
theorem e_X10_likeN {s a day : Int32} (hW : CW sh P) (hx : (inB s 16 && inB a 16 && decide (a < s) && inB day 10000) = false) : Ev X B mdX10_like 0 0 [.ref (B + 0), .int s, .int a, .int day] nx sh I P (mDet (some (.int (-2))) nx sh I P) := by
  have s0 : sh 0 = some (.inl 10) := hW.1 0 _ rfl
  have p0_5 : P 0 5 = some 20 := hW.2 0 5 20 rfl
  have s20 : sh 20 = some (.inl 6) := hW.1 20 _ rfl
  refine Ev.of (by decide) (by simp [Value.category]) (by simp) (fun G hM => ?_)
  have hM : mM X B "like" (some FieldType.int) 1 23 0 0 _ G := hM
  show V X B RX10 cX10_like G 0 0 nx sh I P 0 [some (.ref (B + 0)), some (.int s), some (.int a), some (.int day)] []
  refine V_iln dX10_like_0 rfl ?_
  refine V_cS1d hM cvX10_139 (e_X10_isStuff) ⟨Nat.le_of_ble_eq_true rfl, Nat.le_of_ble_eq_true rfl, Nat.le_of_ble_eq_true rfl, Nat.le_of_ble_eq_true rfl⟩ (Nat.le_of_ble_eq_true rfl) dX10_like_1 ?_
  refine V_ifeq_b (tgt := 26) dX10_like_4 rfl (fun c4 => ?_) (fun c4 => ?_)
  · refine V_bipush (v := -2) rfl dX10_like_26 ?_
    exact V_iret hM dX10_like_28 (mDet.rf)
  · refine V_iln dX10_like_7 rfl ?_
    refine V_cS1d hM cvX10_139 (e_X10_isStuff) ⟨Nat.le_of_ble_eq_true rfl, Nat.le_of_ble_eq_true rfl, Nat.le_of_ble_eq_true rfl, Nat.le_of_ble_eq_true rfl⟩ (Nat.le_of_ble_eq_true rfl) dX10_like_8 ?_
    refine V_ifeq_b (tgt := 26) dX10_like_11 rfl (fun c11 => ?_) (fun c11 => ?_)
    · refine V_bipush (v := -2) rfl dX10_like_26 ?_
      exact V_iret hM dX10_like_28 (mDet.rf)
    · refine V_iln dX10_like_14 rfl ?_
      refine V_iln dX10_like_15 rfl ?_
      refine V_icmp_ge (tgt := 26) dX10_like_16 rfl (fun c16 => ?_) (fun c16 => ?_)
      · refine V_bipush (v := -2) rfl dX10_like_26 ?_
        exact V_iret hM dX10_like_28 (mDet.rf)
      · refine V_iln dX10_like_19 rfl ?_
        refine V_cS1d hM cvX10_110 (e_X10_isDay) ⟨Nat.le_of_ble_eq_true rfl, Nat.le_of_ble_eq_true rfl, Nat.le_of_ble_eq_true rfl, Nat.le_of_ble_eq_true rfl⟩ (Nat.le_of_ble_eq_true rfl) dX10_like_20 ?_
        refine V_ifne_b (tgt := 29) dX10_like_23 rfl (fun c23 => ?_) (fun c23 => ?_)
        · have c16 := i_nle c16; simp [c4, c11, c16, c23] at hx --done
        · refine V_bipush (v := -2) rfl dX10_like_26 ?_
          exact V_iret hM dX10_like_28 (mDet.rf)
theorem e_X10_likeF {s a day : Int32} (hW : CW sh P) (hn : NLi I 30) (hx : (inB s 16 && inB a 16 && decide (a < s) && inB day 10000) = true) : Ev X B mdX10_like 0 0 [.ref (B + 0), .int s, .int a, .int day] nx sh I P (mDet (some (.int (-3))) nx sh I P) := by
  have s0 : sh 0 = some (.inl 10) := hW.1 0 _ rfl
  have p0_5 : P 0 5 = some 20 := hW.2 0 5 20 rfl
  have s20 : sh 20 = some (.inl 6) := hW.1 20 _ rfl
  simp only [Bool.and_eq_true, decide_eq_true_eq] at hx
  refine Ev.of (by decide) (by simp [Value.category]) (by simp) (fun G hM => ?_)
  have hM : mM X B "like" (some FieldType.int) 1 23 0 0 _ G := hM
  show V X B RX10 cX10_like G 0 0 nx sh I P 0 [some (.ref (B + 0)), some (.int s), some (.int a), some (.int day)] []
  refine V_iln dX10_like_0 rfl ?_
  refine V_cS1d hM cvX10_139 (e_X10_isStuff) ⟨Nat.le_of_ble_eq_true rfl, Nat.le_of_ble_eq_true rfl, Nat.le_of_ble_eq_true rfl, Nat.le_of_ble_eq_true rfl⟩ (Nat.le_of_ble_eq_true rfl) dX10_like_1 ?_
  refine V_ifeq_b (tgt := 26) dX10_like_4 rfl (fun c4 => ?_) (fun c4 => ?_)
  · rw [hx.1.1.1] at c4; cases c4 --done
  · refine V_iln dX10_like_7 rfl ?_
    refine V_cS1d hM cvX10_139 (e_X10_isStuff) ⟨Nat.le_of_ble_eq_true rfl, Nat.le_of_ble_eq_true rfl, Nat.le_of_ble_eq_true rfl, Nat.le_of_ble_eq_true rfl⟩ (Nat.le_of_ble_eq_true rfl) dX10_like_8 ?_
    refine V_ifeq_b (tgt := 26) dX10_like_11 rfl (fun c11 => ?_) (fun c11 => ?_)
    · rw [hx.1.1.2] at c11; cases c11 --done
    · refine V_iln dX10_like_14 rfl ?_
      refine V_iln dX10_like_15 rfl ?_
      refine V_icmp_ge (tgt := 26) dX10_like_16 rfl (fun c16 => ?_) (fun c16 => ?_)
      · exact absurd hx.1.2 (i_le_nlt c16) --done
      · refine V_iln dX10_like_19 rfl ?_
        refine V_cS1d hM cvX10_110 (e_X10_isDay) ⟨Nat.le_of_ble_eq_true rfl, Nat.le_of_ble_eq_true rfl, Nat.le_of_ble_eq_true rfl, Nat.le_of_ble_eq_true rfl⟩ (Nat.le_of_ble_eq_true rfl) dX10_like_20 ?_
        refine V_ifne_b (tgt := 29) dX10_like_23 rfl (fun c23 => ?_) (fun c23 => ?_)
        · refine V_aln dX10_like_29 rfl ?_
          refine V_getR dX10_like_30 flX10_38 (by assumption) rfl (by assumption) ?_
          refine V_cV0d hM cvX10_128 (by assumption) rfl (e_X6_size s20) ⟨Nat.le_of_ble_eq_true rfl, Nat.le_of_ble_eq_true rfl, Nat.le_of_ble_eq_true rfl, Nat.le_of_ble_eq_true rfl⟩ (Nat.le_of_ble_eq_true rfl) dX10_like_33 ?_
          rw [hn.1]
          refine V_bipush (v := 30) rfl dX10_like_36 ?_
          refine V_icmp_lt (tgt := 44) dX10_like_38 rfl (fun c38 => ?_) (fun c38 => ?_)
          · exact absurd c38 (by decide) --done
          · refine V_bipush (v := -3) rfl dX10_like_41 ?_
            exact V_iret hM dX10_like_43 (mDet.rf)
        · rw [hx.2] at c23; cases c23 --done
theorem e_X10_like {n : Nat} {s a day : Int32} (hW : CW sh P) (hn : NLi I n) (hx : (inB s 16 && inB a 16 && decide (a < s) && inB day 10000) = true) (hf : n < 30) : Ev X B mdX10_like 0 0 [.ref (B + 0), .int s, .int a, .int day] nx sh I P (mDet (some (.int (nI (n + 1)))) nx sh (rAdd I 20 21 22 23 n s day a) P) := by
  have s0 : sh 0 = some (.inl 10) := hW.1 0 _ rfl
  have p0_5 : P 0 5 = some 20 := hW.2 0 5 20 rfl
  have s20 : sh 20 = some (.inl 6) := hW.1 20 _ rfl
  simp only [Bool.and_eq_true, decide_eq_true_eq] at hx
  refine Ev.of (by decide) (by simp [Value.category]) (by simp) (fun G hM => ?_)
  have hM : mM X B "like" (some FieldType.int) 1 23 0 0 _ G := hM
  show V X B RX10 cX10_like G 0 0 nx sh I P 0 [some (.ref (B + 0)), some (.int s), some (.int a), some (.int day)] []
  refine V_iln dX10_like_0 rfl ?_
  refine V_cS1d hM cvX10_139 (e_X10_isStuff) ⟨Nat.le_of_ble_eq_true rfl, Nat.le_of_ble_eq_true rfl, Nat.le_of_ble_eq_true rfl, Nat.le_of_ble_eq_true rfl⟩ (Nat.le_of_ble_eq_true rfl) dX10_like_1 ?_
  refine V_ifeq_b (tgt := 26) dX10_like_4 rfl (fun c4 => ?_) (fun c4 => ?_)
  · rw [hx.1.1.1] at c4; cases c4 --done
  · refine V_iln dX10_like_7 rfl ?_
    refine V_cS1d hM cvX10_139 (e_X10_isStuff) ⟨Nat.le_of_ble_eq_true rfl, Nat.le_of_ble_eq_true rfl, Nat.le_of_ble_eq_true rfl, Nat.le_of_ble_eq_true rfl⟩ (Nat.le_of_ble_eq_true rfl) dX10_like_8 ?_
    refine V_ifeq_b (tgt := 26) dX10_like_11 rfl (fun c11 => ?_) (fun c11 => ?_)
    · rw [hx.1.1.2] at c11; cases c11 --done
    · refine V_iln dX10_like_14 rfl ?_
      refine V_iln dX10_like_15 rfl ?_
      refine V_icmp_ge (tgt := 26) dX10_like_16 rfl (fun c16 => ?_) (fun c16 => ?_)
      · exact absurd hx.1.2 (i_le_nlt c16) --done
      · refine V_iln dX10_like_19 rfl ?_
        refine V_cS1d hM cvX10_110 (e_X10_isDay) ⟨Nat.le_of_ble_eq_true rfl, Nat.le_of_ble_eq_true rfl, Nat.le_of_ble_eq_true rfl, Nat.le_of_ble_eq_true rfl⟩ (Nat.le_of_ble_eq_true rfl) dX10_like_20 ?_
        refine V_ifne_b (tgt := 29) dX10_like_23 rfl (fun c23 => ?_) (fun c23 => ?_)
        · refine V_aln dX10_like_29 rfl ?_
          refine V_getR dX10_like_30 flX10_38 (by assumption) rfl (by assumption) ?_
          refine V_cV0d hM cvX10_128 (by assumption) rfl (e_X6_size s20) ⟨Nat.le_of_ble_eq_true rfl, Nat.le_of_ble_eq_true rfl, Nat.le_of_ble_eq_true rfl, Nat.le_of_ble_eq_true rfl⟩ (Nat.le_of_ble_eq_true rfl) dX10_like_33 ?_
          rw [hn.1]
          refine V_bipush (v := 30) rfl dX10_like_36 ?_
          refine V_icmp_lt (tgt := 44) dX10_like_38 rfl (fun c38 => ?_) (fun c38 => ?_)
          · refine V_aln dX10_like_44 rfl ?_
            refine V_getR dX10_like_45 flX10_38 (by assumption) rfl (by assumption) ?_
            refine V_iln dX10_like_48 rfl ?_
            refine V_iln dX10_like_49 rfl ?_
            refine V_iln dX10_like_50 rfl ?_
            refine V_cV3n hM cvX10_120 (by assumption) rfl (e_X6_add (hW.li hn) hf) ⟨Nat.le_of_ble_eq_true rfl, Nat.le_of_ble_eq_true rfl, Nat.le_of_ble_eq_true rfl, Nat.le_of_ble_eq_true rfl⟩ (Nat.le_of_ble_eq_true rfl) dX10_like_51 ?_
            refine V_aln dX10_like_54 rfl ?_
            refine V_getR dX10_like_55 flX10_38 (by assumption) rfl (by assumption) ?_
            refine V_cV0d hM cvX10_128 (by assumption) rfl (e_X6_size s20) ⟨Nat.le_of_ble_eq_true rfl, Nat.le_of_ble_eq_true rfl, Nat.le_of_ble_eq_true rfl, Nat.le_of_ble_eq_true rfl⟩ (Nat.le_of_ble_eq_true rfl) dX10_like_58 ?_
            exact V_iret hM dX10_like_61 (⟨by simp [rAdd, mUp], rfl, rfl, rfl, rfl⟩)
          · exact absurd (nI_lt (b := 30) hf (by omega)) c38 --done
        · rw [hx.2] at c23; cases c23 --done
def onF (I : mI) (nr nw nf : Nat) (p day what : Int32) : Int32 := if (inB p 30 && inB day 10000) = true then (if what = 0 then cRank I nr p day else if what = 1 then cOcc I nw nf p day else -2) else -2
theorem e_X10_on {nr nw nf : Nat} {p day what : Int32} (hW : CW sh P) (hr : NRk I nr) (hw : NWd I nw) (hf : NFe I nf) : Ev X B mdX10_on 0 0 [.ref (B + 0), .int p, .int day, .int what] nx sh I P (mDet (some (.int (onF I nr nw nf p day what))) nx sh I P) := by
  have s0 : sh 0 = some (.inl 10) := hW.1 0 _ rfl
  refine Ev.of (by decide) (by simp [Value.category]) (by simp) (fun G hM => ?_)
  have hM : mM X B "on" (some FieldType.int) 2 48 0 0 _ G := hM
  show V X B RX10 cX10_on G 0 0 nx sh I P 0 [some (.ref (B + 0)), some (.int p), some (.int day), some (.int what)] []
  refine V_iln dX10_on_0 rfl ?_
  refine V_cS1d hM cvX10_106 (e_X10_isPerson) ⟨Nat.le_of_ble_eq_true rfl, Nat.le_of_ble_eq_true rfl, Nat.le_of_ble_eq_true rfl, Nat.le_of_ble_eq_true rfl⟩ (Nat.le_of_ble_eq_true rfl) dX10_on_1 ?_
  refine V_ifeq_b (tgt := 14) dX10_on_4 rfl (fun c4 => ?_) (fun c4 => ?_)
  · refine V_bipush (v := -2) rfl dX10_on_14 ?_
    exact V_iret hM dX10_on_16 (⟨by simp [onF, c4], rfl, rfl, rfl, rfl⟩)
  · refine V_iln dX10_on_7 rfl ?_
    refine V_cS1d hM cvX10_110 (e_X10_isDay) ⟨Nat.le_of_ble_eq_true rfl, Nat.le_of_ble_eq_true rfl, Nat.le_of_ble_eq_true rfl, Nat.le_of_ble_eq_true rfl⟩ (Nat.le_of_ble_eq_true rfl) dX10_on_8 ?_
    refine V_ifne_b (tgt := 17) dX10_on_11 rfl (fun c11 => ?_) (fun c11 => ?_)
    · refine V_iln dX10_on_17 rfl ?_
      refine V_lsw01 (td := 58) (t0 := 44) (t1 := 51) dX10_on_18 rfl rfl rfl (fun c18 => ?_) (fun c18 => ?_) (fun c18 => ?_)
      · refine V_bipush (v := -2) rfl dX10_on_58 ?_
        exact V_iret hM dX10_on_60 (⟨by simp [onF, c4, c11, c18], rfl, rfl, rfl, rfl⟩)
      · refine V_aln dX10_on_44 rfl ?_
        refine V_iln dX10_on_45 rfl ?_
        refine V_iln dX10_on_46 rfl ?_
        refine V_cV2d hM cvX10_129 (by assumption) rfl (e_X10_rankOn hW hr) ⟨Nat.le_of_ble_eq_true rfl, Nat.le_of_ble_eq_true rfl, Nat.le_of_ble_eq_true rfl, Nat.le_of_ble_eq_true rfl⟩ (Nat.le_of_ble_eq_true rfl) dX10_on_47 ?_
        exact V_iret hM dX10_on_50 (⟨by simp [onF, c4, c11, c18], rfl, rfl, rfl, rfl⟩)
      · refine V_aln dX10_on_51 rfl ?_
        refine V_iln dX10_on_52 rfl ?_
        refine V_iln dX10_on_53 rfl ?_
        refine V_cV2d hM cvX10_133 (by assumption) rfl (e_X10_occasionOn hW hw hf) ⟨Nat.le_of_ble_eq_true rfl, Nat.le_of_ble_eq_true rfl, Nat.le_of_ble_eq_true rfl, Nat.le_of_ble_eq_true rfl⟩ (Nat.le_of_ble_eq_true rfl) dX10_on_54 ?_
        exact V_iret hM dX10_on_57 (⟨by simp [onF, c4, c11, c18], rfl, rfl, rfl, rfl⟩)
    · refine V_bipush (v := -2) rfl dX10_on_14 ?_
      exact V_iret hM dX10_on_16 (⟨by simp [onF, c4, c11], rfl, rfl, rfl, rfl⟩)
theorem e_X10_sealN {n : Nat} {g day : Int32} (hW : CW sh P) (hG : GownsAt sh I P n) (hx : (inB g n && inB day 10000) = false) : Ev X B mdX10_seal 0 0 [.ref (B + 0), .int g, .int day] nx sh I P (mDet (some (.int (-2))) nx sh I P) := by
  have s0 : sh 0 = some (.inl 10) := hW.1 0 _ rfl
  refine Ev.of (by decide) (by simp [Value.category]) (by simp) (fun G hM => ?_)
  have hM : mM X B "seal" (some FieldType.int) 1 21 0 0 _ G := hM
  show V X B RX10 cX10_seal G 0 0 nx sh I P 0 [some (.ref (B + 0)), some (.int g), some (.int day), none] []
  by_cases hg : inB g n = true
  · obtain ⟨j, hj, rfl⟩ := inB_nI hg (by have := hG.2.1; omega)
    refine V_aln dX10_seal_0 rfl ?_
    refine V_iln dX10_seal_1 rfl ?_
    refine V_cV1d hM cvX10_148 (by assumption) rfl (e_X10_findGown hW hG hj) ⟨Nat.le_of_ble_eq_true rfl, Nat.le_of_ble_eq_true rfl, Nat.le_of_ble_eq_true rfl, Nat.le_of_ble_eq_true rfl⟩ (Nat.le_of_ble_eq_true rfl) dX10_seal_2 ?_
    refine V_as3 dX10_seal_5 ?_
    refine V_aln dX10_seal_6 rfl ?_
    refine V_ifnull dX10_seal_7 ?_
    refine V_iln dX10_seal_10 rfl ?_
    refine V_cS1d hM cvX10_110 (e_X10_isDay) ⟨Nat.le_of_ble_eq_true rfl, Nat.le_of_ble_eq_true rfl, Nat.le_of_ble_eq_true rfl, Nat.le_of_ble_eq_true rfl⟩ (Nat.le_of_ble_eq_true rfl) dX10_seal_11 ?_
    refine V_ifne_b (tgt := 20) dX10_seal_14 rfl (fun c14 => ?_) (fun c14 => ?_)
    · simp [hg, c14] at hx --done
    · refine V_bipush (v := -2) rfl dX10_seal_17 ?_
      exact V_iret hM dX10_seal_19 (mDet.rf)
  · refine V_aln dX10_seal_0 rfl ?_
    refine V_iln dX10_seal_1 rfl ?_
    refine V_cV1d hM cvX10_148 (by assumption) rfl (e_X10_findGownN hW hG (by simpa using hg)) ⟨Nat.le_of_ble_eq_true rfl, Nat.le_of_ble_eq_true rfl, Nat.le_of_ble_eq_true rfl, Nat.le_of_ble_eq_true rfl⟩ (Nat.le_of_ble_eq_true rfl) dX10_seal_2 ?_
    refine V_an3 dX10_seal_5 ?_
    refine V_alnN dX10_seal_6 rfl ?_
    refine V_ifnullN (tgt := 17) dX10_seal_7 rfl ?_
    refine V_bipush (v := -2) rfl dX10_seal_17 ?_
    exact V_iret hM dX10_seal_19 (mDet.rf)
theorem e_X10_sealS {n g : Nat} {day : Int32} (hW : CW sh P) (hG : GownsAt sh I P n) (hg : g < n) (hd : inB day 10000 = true) (hs : ¬ I (pg P 24 g) 3 = -1) : Ev X B mdX10_seal 0 0 [.ref (B + 0), .int (nI g), .int day] nx sh I P (mDet (some (.int (-4))) nx sh I P) := by
  have s0 : sh 0 = some (.inl 10) := hW.1 0 _ rfl
  have g4 := (hG.2.2 g hg).2.1
  refine Ev.of (by decide) (by simp [Value.category]) (by simp) (fun G hM => ?_)
  have hM : mM X B "seal" (some FieldType.int) 1 21 0 0 _ G := hM
  show V X B RX10 cX10_seal G 0 0 nx sh I P 0 [some (.ref (B + 0)), some (.int (nI g)), some (.int day), none] []
  refine V_aln dX10_seal_0 rfl ?_
  refine V_iln dX10_seal_1 rfl ?_
  refine V_cV1d hM cvX10_148 (by assumption) rfl (e_X10_findGown hW hG hg) ⟨Nat.le_of_ble_eq_true rfl, Nat.le_of_ble_eq_true rfl, Nat.le_of_ble_eq_true rfl, Nat.le_of_ble_eq_true rfl⟩ (Nat.le_of_ble_eq_true rfl) dX10_seal_2 ?_
  refine V_as3 dX10_seal_5 ?_
  refine V_aln dX10_seal_6 rfl ?_
  refine V_ifnull dX10_seal_7 ?_
  refine V_iln dX10_seal_10 rfl ?_
  refine V_cS1d hM cvX10_110 (e_X10_isDay) ⟨Nat.le_of_ble_eq_true rfl, Nat.le_of_ble_eq_true rfl, Nat.le_of_ble_eq_true rfl, Nat.le_of_ble_eq_true rfl⟩ (Nat.le_of_ble_eq_true rfl) dX10_seal_11 ?_
  refine V_ifne_b (tgt := 20) dX10_seal_14 rfl (fun c14 => ?_) (fun c14 => ?_)
  · refine V_aln dX10_seal_20 rfl ?_
    refine V_getI dX10_seal_21 flX10_152 (by assumption) rfl ?_
    refine V_iconst (v := -1) rfl dX10_seal_24 ?_
    refine V_icmp_eq (tgt := 31) dX10_seal_25 rfl (fun c25 => ?_) (fun c25 => ?_)
    · exact absurd c25 hs --done
    · refine V_bipush (v := -4) rfl dX10_seal_28 ?_
      exact V_iret hM dX10_seal_30 (mDet.rf)
  · rw [hd] at c14; cases c14 --done
theorem e_X10_seal {n g : Nat} {day : Int32} (hW : CW sh P) (hG : GownsAt sh I P n) (hg : g < n) (hd : inB day 10000 = true) (hs : I (pg P 24 g) 3 = -1) : Ev X B mdX10_seal 0 0 [.ref (B + 0), .int (nI g), .int day] nx sh I P (mDet (some (.int 1)) nx sh (mUp I (pg P 24 g) 3 day) P) := by
  have s0 : sh 0 = some (.inl 10) := hW.1 0 _ rfl
  have g4 := (hG.2.2 g hg).2.1
  refine Ev.of (by decide) (by simp [Value.category]) (by simp) (fun G hM => ?_)
  have hM : mM X B "seal" (some FieldType.int) 1 21 0 0 _ G := hM
  show V X B RX10 cX10_seal G 0 0 nx sh I P 0 [some (.ref (B + 0)), some (.int (nI g)), some (.int day), none] []
  refine V_aln dX10_seal_0 rfl ?_
  refine V_iln dX10_seal_1 rfl ?_
  refine V_cV1d hM cvX10_148 (by assumption) rfl (e_X10_findGown hW hG hg) ⟨Nat.le_of_ble_eq_true rfl, Nat.le_of_ble_eq_true rfl, Nat.le_of_ble_eq_true rfl, Nat.le_of_ble_eq_true rfl⟩ (Nat.le_of_ble_eq_true rfl) dX10_seal_2 ?_
  refine V_as3 dX10_seal_5 ?_
  refine V_aln dX10_seal_6 rfl ?_
  refine V_ifnull dX10_seal_7 ?_
  refine V_iln dX10_seal_10 rfl ?_
  refine V_cS1d hM cvX10_110 (e_X10_isDay) ⟨Nat.le_of_ble_eq_true rfl, Nat.le_of_ble_eq_true rfl, Nat.le_of_ble_eq_true rfl, Nat.le_of_ble_eq_true rfl⟩ (Nat.le_of_ble_eq_true rfl) dX10_seal_11 ?_
  refine V_ifne_b (tgt := 20) dX10_seal_14 rfl (fun c14 => ?_) (fun c14 => ?_)
  · refine V_aln dX10_seal_20 rfl ?_
    refine V_getI dX10_seal_21 flX10_152 (by assumption) rfl ?_
    refine V_iconst (v := -1) rfl dX10_seal_24 ?_
    refine V_icmp_eq (tgt := 31) dX10_seal_25 rfl (fun c25 => ?_) (fun c25 => ?_)
    · refine V_aln dX10_seal_31 rfl ?_
      refine V_iln dX10_seal_32 rfl ?_
      refine V_putI dX10_seal_33 flX10_152 (by assumption) rfl rfl ?_
      refine V_iconst (v := 1) rfl dX10_seal_36 ?_
      exact V_iret hM dX10_seal_37 (mDet.rf)
    · exact absurd hs c25 --done
  · rw [hd] at c14; cases c14 --done
theorem sw_5_7 {x : Int32} (h : x.toInt < 5 ∨ 7 < x.toInt) : ¬ x = 5 ∧ ¬ x = 6 ∧ ¬ x = 7 := by
  refine ⟨?_, ?_, ?_⟩ <;> intro e <;> rw [e] at h <;> revert h <;> decide
theorem sw_0 {x : Int32} {n : Nat} (k : Nat) (hk : k ≤ n) (hn : n < 100) (h : x.toInt < 0 ∨ (n : Int) < x.toInt) : ¬ x = nI k := by
  intro e
  rw [e, nI_toInt (by omega)] at h
  omega
def abtF (I : mI) (P : mP) (g : Nat) (what : Int32) : Int32 := if what = 5 then I (pg P 24 g) 1 else if what = 6 then I (pg P 24 g) 2 else if what = 7 then I (pg P 24 g) 3 else gMz (I (pg P (pg P 24 g) 0)) what
theorem e_X10_about {n g : Nat} {what : Int32} (hW : CW sh P) (hG : GownsAt sh I P n) (hg : g < n) : Ev X B mdX10_about 0 0 [.ref (B + 0), .int (nI g), .int what] nx sh I P (mDet (some (.int (abtF I P g what))) nx sh I P) := by
  have s0 : sh 0 = some (.inl 10) := hW.1 0 _ rfl
  obtain ⟨g3, g4, g5, g6⟩ := hG.2.2 g hg
  refine Ev.of (by decide) (by simp [Value.category]) (by simp) (fun G hM => ?_)
  have hM : mM X B "about" (some FieldType.int) 1 21 0 0 _ G := hM
  show V X B RX10 cX10_about G 0 0 nx sh I P 0 [some (.ref (B + 0)), some (.int (nI g)), some (.int what), none] []
  refine V_aln dX10_about_0 rfl ?_
  refine V_iln dX10_about_1 rfl ?_
  refine V_cV1d hM cvX10_148 (by assumption) rfl (e_X10_findGown hW hG hg) ⟨Nat.le_of_ble_eq_true rfl, Nat.le_of_ble_eq_true rfl, Nat.le_of_ble_eq_true rfl, Nat.le_of_ble_eq_true rfl⟩ (Nat.le_of_ble_eq_true rfl) dX10_about_2 ?_
  refine V_as3 dX10_about_5 ?_
  refine V_aln dX10_about_6 rfl ?_
  refine V_ifnonnull (tgt := 12) dX10_about_7 rfl ?_
  refine V_iln dX10_about_12 rfl ?_
  refine V_tsw_5_7 (td := 55) (t0 := 40) (t1 := 45) (t2 := 50) dX10_about_13 rfl rfl rfl rfl (fun c13 => ?_) (fun c13 => ?_) (fun c13 => ?_) (fun c13 => ?_)
  · refine V_aln dX10_about_55 rfl ?_
    refine V_iln dX10_about_56 rfl ?_
    refine V_cV1d hM cvX10_161 (by assumption) rfl (e_X3_measure g4 g5 g6) ⟨Nat.le_of_ble_eq_true rfl, Nat.le_of_ble_eq_true rfl, Nat.le_of_ble_eq_true rfl, Nat.le_of_ble_eq_true rfl⟩ (Nat.le_of_ble_eq_true rfl) dX10_about_57 ?_
    exact V_iret hM dX10_about_60 (⟨by first | (simp [abtF, c13]; done) | (obtain ⟨e1, e2, e3⟩ := sw_5_7 c13; simp [abtF, gMz, e1, e2, e3]), rfl, rfl, rfl, rfl⟩)
  · refine V_aln dX10_about_40 rfl ?_
    refine V_getI dX10_about_41 flX10_155 (by assumption) rfl ?_
    exact V_iret hM dX10_about_44 (⟨by first | (simp [abtF, c13]; done) | (obtain ⟨e1, e2, e3⟩ := sw_5_7 c13; simp [abtF, gMz, e1, e2, e3]), rfl, rfl, rfl, rfl⟩)
  · refine V_aln dX10_about_45 rfl ?_
    refine V_getI dX10_about_46 flX10_158 (by assumption) rfl ?_
    exact V_iret hM dX10_about_49 (⟨by first | (simp [abtF, c13]; done) | (obtain ⟨e1, e2, e3⟩ := sw_5_7 c13; simp [abtF, gMz, e1, e2, e3]), rfl, rfl, rfl, rfl⟩)
  · refine V_aln dX10_about_50 rfl ?_
    refine V_getI dX10_about_51 flX10_152 (by assumption) rfl ?_
    exact V_iret hM dX10_about_54 (⟨by first | (simp [abtF, c13]; done) | (obtain ⟨e1, e2, e3⟩ := sw_5_7 c13; simp [abtF, gMz, e1, e2, e3]), rfl, rfl, rfl, rfl⟩)
theorem e_X10_aboutN {n : Nat} {g what : Int32} (hW : CW sh P) (hG : GownsAt sh I P n) (hg : inB g n = false) : Ev X B mdX10_about 0 0 [.ref (B + 0), .int g, .int what] nx sh I P (mDet (some (.int (-1))) nx sh I P) := by
  have s0 : sh 0 = some (.inl 10) := hW.1 0 _ rfl
  refine Ev.of (by decide) (by simp [Value.category]) (by simp) (fun G hM => ?_)
  have hM : mM X B "about" (some FieldType.int) 1 21 0 0 _ G := hM
  show V X B RX10 cX10_about G 0 0 nx sh I P 0 [some (.ref (B + 0)), some (.int g), some (.int what), none] []
  refine V_aln dX10_about_0 rfl ?_
  refine V_iln dX10_about_1 rfl ?_
  refine V_cV1d hM cvX10_148 (by assumption) rfl (e_X10_findGownN hW hG hg) ⟨Nat.le_of_ble_eq_true rfl, Nat.le_of_ble_eq_true rfl, Nat.le_of_ble_eq_true rfl, Nat.le_of_ble_eq_true rfl⟩ (Nat.le_of_ble_eq_true rfl) dX10_about_2 ?_
  refine V_an3 dX10_about_5 ?_
  refine V_alnN dX10_about_6 rfl ?_
  refine V_ifnonnullN dX10_about_7 ?_
  refine V_iconst (v := -1) rfl dX10_about_10 ?_
  exact V_iret hM dX10_about_11 (mDet.rf)
theorem e_X10_counts {n : Nat} {s day : Int32} (hW : CW sh P) (hn : NLi I n) : Ev X B mdX10_counts 0 0 [.ref (B + 0), .int s, .int day] nx sh I P (mDet (some (.int (if (inB s 16 && inB day 10000) = true then cCnt I n day s else -2))) nx sh I P) := by
  have s0 : sh 0 = some (.inl 10) := hW.1 0 _ rfl
  refine Ev.of (by decide) (by simp [Value.category]) (by simp) (fun G hM => ?_)
  have hM : mM X B "counts" (some FieldType.int) 2 51 0 0 _ G := hM
  show V X B RX10 cX10_counts G 0 0 nx sh I P 0 [some (.ref (B + 0)), some (.int s), some (.int day)] []
  refine V_iln dX10_counts_0 rfl ?_
  refine V_cS1d hM cvX10_139 (e_X10_isStuff) ⟨Nat.le_of_ble_eq_true rfl, Nat.le_of_ble_eq_true rfl, Nat.le_of_ble_eq_true rfl, Nat.le_of_ble_eq_true rfl⟩ (Nat.le_of_ble_eq_true rfl) dX10_counts_1 ?_
  refine V_ifeq_b (tgt := 14) dX10_counts_4 rfl (fun c4 => ?_) (fun c4 => ?_)
  · refine V_bipush (v := -2) rfl dX10_counts_14 ?_
    exact V_iret hM dX10_counts_16 (⟨by simp [c4], rfl, rfl, rfl, rfl⟩)
  · refine V_iln dX10_counts_7 rfl ?_
    refine V_cS1d hM cvX10_110 (e_X10_isDay) ⟨Nat.le_of_ble_eq_true rfl, Nat.le_of_ble_eq_true rfl, Nat.le_of_ble_eq_true rfl, Nat.le_of_ble_eq_true rfl⟩ (Nat.le_of_ble_eq_true rfl) dX10_counts_8 ?_
    refine V_ifne_b (tgt := 17) dX10_counts_11 rfl (fun c11 => ?_) (fun c11 => ?_)
    · refine V_aln dX10_counts_17 rfl ?_
      refine V_iln dX10_counts_18 rfl ?_
      refine V_iln dX10_counts_19 rfl ?_
      refine V_cV2d hM cvX10_164 (by assumption) rfl (e_X10_countsAs hW hn) ⟨Nat.le_of_ble_eq_true rfl, Nat.le_of_ble_eq_true rfl, Nat.le_of_ble_eq_true rfl, Nat.le_of_ble_eq_true rfl⟩ (Nat.le_of_ble_eq_true rfl) dX10_counts_20 ?_
      exact V_iret hM dX10_counts_23 (⟨by simp [c4, c11], rfl, rfl, rfl, rfl⟩)
    · refine V_bipush (v := -2) rfl dX10_counts_14 ?_
      exact V_iret hM dX10_counts_16 (⟨by simp [c4, c11], rfl, rfl, rfl, rfl⟩)
theorem e_X10_fault {what : Int32} (hW : CW sh P) : Ev X B mdX10_fault 0 0 [.ref (B + 0), .int what] nx sh I P (mDet (some (.int (if what = 0 then I 1 3 else if what = 1 then I 1 4 else -1))) nx sh I P) := by
  have s0 : sh 0 = some (.inl 10) := hW.1 0 _ rfl
  have p0_0 : P 0 0 = some 1 := hW.2 0 0 1 rfl
  have s1 : sh 1 = some (.inl 5) := hW.1 1 _ rfl
  refine Ev.of (by decide) (by simp [Value.category]) (by simp) (fun G hM => ?_)
  have hM : mM X B "fault" (some FieldType.int) 1 20 0 0 _ G := hM
  show V X B RX10 cX10_fault G 0 0 nx sh I P 0 [some (.ref (B + 0)), some (.int what)] []
  refine V_iln dX10_fault_0 rfl ?_
  refine V_lsw01 (td := 44) (t0 := 28) (t1 := 36) dX10_fault_1 rfl rfl rfl (fun c1 => ?_) (fun c1 => ?_) (fun c1 => ?_)
  · refine V_iconst (v := -1) rfl dX10_fault_44 ?_
    exact V_iret hM dX10_fault_45 (⟨by simp [c1], rfl, rfl, rfl, rfl⟩)
  · refine V_aln dX10_fault_28 rfl ?_
    refine V_getR dX10_fault_29 flX10_10 (by assumption) rfl (by assumption) ?_
    refine V_cV0d hM cvX10_174 (by assumption) rfl (e_X5_faultKind s1) ⟨Nat.le_of_ble_eq_true rfl, Nat.le_of_ble_eq_true rfl, Nat.le_of_ble_eq_true rfl, Nat.le_of_ble_eq_true rfl⟩ (Nat.le_of_ble_eq_true rfl) dX10_fault_32 ?_
    exact V_iret hM dX10_fault_35 (⟨by simp [c1], rfl, rfl, rfl, rfl⟩)
  · refine V_aln dX10_fault_36 rfl ?_
    refine V_getR dX10_fault_37 flX10_10 (by assumption) rfl (by assumption) ?_
    refine V_cV0d hM cvX10_184 (by assumption) rfl (e_X5_faultPlace s1) ⟨Nat.le_of_ble_eq_true rfl, Nat.le_of_ble_eq_true rfl, Nat.le_of_ble_eq_true rfl, Nat.le_of_ble_eq_true rfl⟩ (Nat.le_of_ble_eq_true rfl) dX10_fault_40 ?_
    exact V_iret hM dX10_fault_43 (⟨by simp [c1], rfl, rfl, rfl, rfl⟩)
def tldF (I : mI) (o : Nat) (what : Int32) : Int32 := if what = 0 then I o 0 else if what = 1 then I o 2 else if what = 2 then sdF (I o 3) else if what = 3 then I o 4 else if what = 4 then I o 5 else -9
theorem e_X10_told {n a : Nat} {what : Int32} (hW : CW sh P) (hC : CodexAt sh I P 6 7 n) (ha : a < n) : Ev X B mdX10_told 0 0 [.ref (B + 0), .int (nI a), .int what] nx sh I P (mDet (some (.int (tldF I (pg P 7 a) what))) nx sh I P) := by
  have s0 : sh 0 = some (.inl 10) := hW.1 0 _ rfl
  have p0_1 : P 0 1 = some 6 := hW.2 0 1 6 rfl
  have s6 : sh 6 = some (.inl 2) := hW.1 6 _ rfl
  have h1 := (hC.2.2.2.2.2 a ha).2.1
  refine Ev.of (by decide) (by simp [Value.category]) (by simp) (fun G hM => ?_)
  have hM : mM X B "told" (some FieldType.int) 2 41 0 0 _ G := hM
  show V X B RX10 cX10_told G 0 0 nx sh I P 0 [some (.ref (B + 0)), some (.int (nI a)), some (.int what), none] []
  refine V_aln dX10_told_0 rfl ?_
  refine V_getR dX10_told_1 flX10_19 (by assumption) rfl (by assumption) ?_
  refine V_iln dX10_told_4 rfl ?_
  refine V_cV1d hM cvX10_187 (by assumption) rfl (e_X2_find hC ha) ⟨Nat.le_of_ble_eq_true rfl, Nat.le_of_ble_eq_true rfl, Nat.le_of_ble_eq_true rfl, Nat.le_of_ble_eq_true rfl⟩ (Nat.le_of_ble_eq_true rfl) dX10_told_5 ?_
  refine V_as3 dX10_told_8 ?_
  refine V_aln dX10_told_9 rfl ?_
  refine V_ifnonnull (tgt := 16) dX10_told_10 rfl ?_
  refine V_iln dX10_told_16 rfl ?_
  refine V_tsw_0_4 (td := 77) (t0 := 52) (t1 := 57) (t2 := 62) (t3 := 67) (t4 := 72) dX10_told_17 rfl rfl rfl rfl rfl rfl (fun c17 => ?_) (fun c17 => ?_) (fun c17 => ?_) (fun c17 => ?_) (fun c17 => ?_) (fun c17 => ?_)
  · refine V_bipush (v := -9) rfl dX10_told_77 ?_
    exact V_iret hM dX10_told_79 (⟨by have e0 : ¬ what = 0 := sw_0 (n := 4) 0 (by omega) (by omega) c17; have e1 : ¬ what = 1 := sw_0 (n := 4) 1 (by omega) (by omega) c17; have e2 : ¬ what = 2 := sw_0 (n := 4) 2 (by omega) (by omega) c17; have e3 : ¬ what = 3 := sw_0 (n := 4) 3 (by omega) (by omega) c17; have e4 : ¬ what = 4 := sw_0 (n := 4) 4 (by omega) (by omega) c17; rw [tldF, if_neg e0, if_neg e1, if_neg e2, if_neg e3, if_neg e4], rfl, rfl, rfl, rfl⟩)
  · refine V_aln dX10_told_52 rfl ?_
    refine V_getI dX10_told_53 flX10_191 (by assumption) rfl ?_
    exact V_iret hM dX10_told_56 (⟨by simp [tldF, c17], rfl, rfl, rfl, rfl⟩)
  · refine V_aln dX10_told_57 rfl ?_
    refine V_getI dX10_told_58 flX10_196 (by assumption) rfl ?_
    exact V_iret hM dX10_told_61 (⟨by simp [tldF, c17], rfl, rfl, rfl, rfl⟩)
  · refine V_aln dX10_told_62 rfl ?_
    refine V_cV0d hM cvX10_199 (by assumption) rfl (e_X0_sealDays h1) ⟨Nat.le_of_ble_eq_true rfl, Nat.le_of_ble_eq_true rfl, Nat.le_of_ble_eq_true rfl, Nat.le_of_ble_eq_true rfl⟩ (Nat.le_of_ble_eq_true rfl) dX10_told_63 ?_
    exact V_iret hM dX10_told_66 (⟨by simp [tldF, c17], rfl, rfl, rfl, rfl⟩)
  · refine V_aln dX10_told_67 rfl ?_
    refine V_getI dX10_told_68 flX10_202 (by assumption) rfl ?_
    exact V_iret hM dX10_told_71 (⟨by simp [tldF, c17], rfl, rfl, rfl, rfl⟩)
  · refine V_aln dX10_told_72 rfl ?_
    refine V_getI dX10_told_73 flX10_205 (by assumption) rfl ?_
    exact V_iret hM dX10_told_76 (⟨by simp [tldF, c17], rfl, rfl, rfl, rfl⟩)
theorem e_X10_toldN {n : Nat} {a what : Int32} (hW : CW sh P) (hC : CodexAt sh I P 6 7 n) (ha : inB a n = false) : Ev X B mdX10_told 0 0 [.ref (B + 0), .int a, .int what] nx sh I P (mDet (some (.int (-9))) nx sh I P) := by
  have s0 : sh 0 = some (.inl 10) := hW.1 0 _ rfl
  have p0_1 : P 0 1 = some 6 := hW.2 0 1 6 rfl
  have s6 : sh 6 = some (.inl 2) := hW.1 6 _ rfl
  refine Ev.of (by decide) (by simp [Value.category]) (by simp) (fun G hM => ?_)
  have hM : mM X B "told" (some FieldType.int) 2 41 0 0 _ G := hM
  show V X B RX10 cX10_told G 0 0 nx sh I P 0 [some (.ref (B + 0)), some (.int a), some (.int what), none] []
  refine V_aln dX10_told_0 rfl ?_
  refine V_getR dX10_told_1 flX10_19 (by assumption) rfl (by assumption) ?_
  refine V_iln dX10_told_4 rfl ?_
  refine V_cV1d hM cvX10_187 (by assumption) rfl (e_X2_findN hC ha) ⟨Nat.le_of_ble_eq_true rfl, Nat.le_of_ble_eq_true rfl, Nat.le_of_ble_eq_true rfl, Nat.le_of_ble_eq_true rfl⟩ (Nat.le_of_ble_eq_true rfl) dX10_told_5 ?_
  refine V_an3 dX10_told_8 ?_
  refine V_alnN dX10_told_9 rfl ?_
  refine V_ifnonnullN dX10_told_10 ?_
  refine V_bipush (v := -9) rfl dX10_told_13 ?_
  exact V_iret hM dX10_told_15 (mDet.rf)
def rulF (I : mI) (o : Nat) (what : Int32) : Int32 := if what = 0 then I o 0 else if what = 1 then I o 1 else if what = 2 then I o 2 else if what = 3 then I o 3 else if what = 4 then I o 4 else if what = 5 then I o 5 else -9
theorem e_X10_rule {n a r : Nat} {what : Int32} (hW : CW sh P) (hC : CodexAt sh I P 6 7 n) (ha : a < n) (hr : r < aM I (pg P 7 a)) : Ev X B mdX10_rule 0 0 [.ref (B + 0), .int (nI a), .int (nI r), .int what] nx sh I P (mDet (some (.int (rulF I (pg P (pg P (pg P 7 a) 1) r) what))) nx sh I P) := by
  have s0 : sh 0 = some (.inl 10) := hW.1 0 _ rfl
  have p0_1 : P 0 1 = some 6 := hW.2 0 1 6 rfl
  have s6 : sh 6 = some (.inl 2) := hW.1 6 _ rfl
  have hA := (hC.2.2.2.2.2 a ha).2
  have h1 := hA.1
  have h2 := (hA.2.2.2.2.2 r hr).2
  refine Ev.of (by decide) (by simp [Value.category]) (by simp) (fun G hM => ?_)
  have hM : mM X B "rule" (some FieldType.int) 1 21 0 0 _ G := hM
  show V X B RX10 cX10_rule G 0 0 nx sh I P 0 [some (.ref (B + 0)), some (.int (nI a)), some (.int (nI r)), some (.int what), none, none] []
  refine V_aln dX10_rule_0 rfl ?_
  refine V_getR dX10_rule_1 flX10_19 (by assumption) rfl (by assumption) ?_
  refine V_iln dX10_rule_4 rfl ?_
  refine V_cV1d hM cvX10_187 (by assumption) rfl (e_X2_find hC ha) ⟨Nat.le_of_ble_eq_true rfl, Nat.le_of_ble_eq_true rfl, Nat.le_of_ble_eq_true rfl, Nat.le_of_ble_eq_true rfl⟩ (Nat.le_of_ble_eq_true rfl) dX10_rule_5 ?_
  refine V_as4 dX10_rule_8 ?_
  refine V_al dX10_rule_10 rfl ?_
  refine V_ifnonnull (tgt := 18) dX10_rule_12 rfl ?_
  refine V_al dX10_rule_18 rfl ?_
  refine V_iln dX10_rule_20 rfl ?_
  refine V_cV1d hM cvX10_208 (by assumption) rfl (e_X0_findRule hA hr) ⟨Nat.le_of_ble_eq_true rfl, Nat.le_of_ble_eq_true rfl, Nat.le_of_ble_eq_true rfl, Nat.le_of_ble_eq_true rfl⟩ (Nat.le_of_ble_eq_true rfl) dX10_rule_21 ?_
  refine V_as5 dX10_rule_24 ?_
  refine V_al dX10_rule_26 rfl ?_
  refine V_ifnonnull (tgt := 34) dX10_rule_28 rfl ?_
  refine V_iln dX10_rule_34 rfl ?_
  refine V_tsw_0_5 (td := 108) (t0 := 72) (t1 := 78) (t2 := 84) (t3 := 90) (t4 := 96) (t5 := 102) dX10_rule_35 rfl rfl rfl rfl rfl rfl rfl (fun c35 => ?_) (fun c35 => ?_) (fun c35 => ?_) (fun c35 => ?_) (fun c35 => ?_) (fun c35 => ?_) (fun c35 => ?_)
  · refine V_bipush (v := -9) rfl dX10_rule_108 ?_
    exact V_iret hM dX10_rule_110 (⟨by have e0 : ¬ what = 0 := sw_0 (n := 5) 0 (by omega) (by omega) c35; have e1 : ¬ what = 1 := sw_0 (n := 5) 1 (by omega) (by omega) c35; have e2 : ¬ what = 2 := sw_0 (n := 5) 2 (by omega) (by omega) c35; have e3 : ¬ what = 3 := sw_0 (n := 5) 3 (by omega) (by omega) c35; have e4 : ¬ what = 4 := sw_0 (n := 5) 4 (by omega) (by omega) c35; have e5 : ¬ what = 5 := sw_0 (n := 5) 5 (by omega) (by omega) c35; rw [rulF, if_neg e0, if_neg e1, if_neg e2, if_neg e3, if_neg e4, if_neg e5], rfl, rfl, rfl, rfl⟩)
  · refine V_al dX10_rule_72 rfl ?_
    refine V_getI dX10_rule_74 flX10_212 (by assumption) rfl ?_
    exact V_iret hM dX10_rule_77 (⟨by simp [rulF, c35], rfl, rfl, rfl, rfl⟩)
  · refine V_al dX10_rule_78 rfl ?_
    refine V_getI dX10_rule_80 flX10_217 (by assumption) rfl ?_
    exact V_iret hM dX10_rule_83 (⟨by simp [rulF, c35], rfl, rfl, rfl, rfl⟩)
  · refine V_al dX10_rule_84 rfl ?_
    refine V_getI dX10_rule_86 flX10_220 (by assumption) rfl ?_
    exact V_iret hM dX10_rule_89 (⟨by simp [rulF, c35], rfl, rfl, rfl, rfl⟩)
  · refine V_al dX10_rule_90 rfl ?_
    refine V_getI dX10_rule_92 flX10_223 (by assumption) rfl ?_
    exact V_iret hM dX10_rule_95 (⟨by simp [rulF, c35], rfl, rfl, rfl, rfl⟩)
  · refine V_al dX10_rule_96 rfl ?_
    refine V_getI dX10_rule_98 flX10_226 (by assumption) rfl ?_
    exact V_iret hM dX10_rule_101 (⟨by simp [rulF, c35], rfl, rfl, rfl, rfl⟩)
  · refine V_al dX10_rule_102 rfl ?_
    refine V_getI dX10_rule_104 flX10_229 (by assumption) rfl ?_
    exact V_iret hM dX10_rule_107 (⟨by simp [rulF, c35], rfl, rfl, rfl, rfl⟩)
theorem e_X10_ruleN {n : Nat} {a r what : Int32} (hW : CW sh P) (hC : CodexAt sh I P 6 7 n) (hx : inB a n = false ∨ ∃ j, j < n ∧ a = nI j ∧ inB r (aM I (pg P 7 j)) = false) : Ev X B mdX10_rule 0 0 [.ref (B + 0), .int a, .int r, .int what] nx sh I P (mDet (some (.int (-9))) nx sh I P) := by
  have s0 : sh 0 = some (.inl 10) := hW.1 0 _ rfl
  have p0_1 : P 0 1 = some 6 := hW.2 0 1 6 rfl
  have s6 : sh 6 = some (.inl 2) := hW.1 6 _ rfl
  refine Ev.of (by decide) (by simp [Value.category]) (by simp) (fun G hM => ?_)
  have hM : mM X B "rule" (some FieldType.int) 1 21 0 0 _ G := hM
  show V X B RX10 cX10_rule G 0 0 nx sh I P 0 [some (.ref (B + 0)), some (.int a), some (.int r), some (.int what), none, none] []
  rcases hx with hx | ⟨j, hj, rfl, hx⟩
  · refine V_aln dX10_rule_0 rfl ?_
    refine V_getR dX10_rule_1 flX10_19 (by assumption) rfl (by assumption) ?_
    refine V_iln dX10_rule_4 rfl ?_
    refine V_cV1d hM cvX10_187 (by assumption) rfl (e_X2_findN hC hx) ⟨Nat.le_of_ble_eq_true rfl, Nat.le_of_ble_eq_true rfl, Nat.le_of_ble_eq_true rfl, Nat.le_of_ble_eq_true rfl⟩ (Nat.le_of_ble_eq_true rfl) dX10_rule_5 ?_
    refine V_an4 dX10_rule_8 ?_
    refine V_alN dX10_rule_10 rfl ?_
    refine V_ifnonnullN dX10_rule_12 ?_
    refine V_bipush (v := -9) rfl dX10_rule_15 ?_
    exact V_iret hM dX10_rule_17 (mDet.rf)
  · have hA := (hC.2.2.2.2.2 j hj).2
    have h1 := hA.1
    refine V_aln dX10_rule_0 rfl ?_
    refine V_getR dX10_rule_1 flX10_19 (by assumption) rfl (by assumption) ?_
    refine V_iln dX10_rule_4 rfl ?_
    refine V_cV1d hM cvX10_187 (by assumption) rfl (e_X2_find hC hj) ⟨Nat.le_of_ble_eq_true rfl, Nat.le_of_ble_eq_true rfl, Nat.le_of_ble_eq_true rfl, Nat.le_of_ble_eq_true rfl⟩ (Nat.le_of_ble_eq_true rfl) dX10_rule_5 ?_
    refine V_as4 dX10_rule_8 ?_
    refine V_al dX10_rule_10 rfl ?_
    refine V_ifnonnull (tgt := 18) dX10_rule_12 rfl ?_
    refine V_al dX10_rule_18 rfl ?_
    refine V_iln dX10_rule_20 rfl ?_
    refine V_cV1d hM cvX10_208 (by assumption) rfl (e_X0_findRuleN hA hx) ⟨Nat.le_of_ble_eq_true rfl, Nat.le_of_ble_eq_true rfl, Nat.le_of_ble_eq_true rfl, Nat.le_of_ble_eq_true rfl⟩ (Nat.le_of_ble_eq_true rfl) dX10_rule_21 ?_
    refine V_an5 dX10_rule_24 ?_
    refine V_alN dX10_rule_26 rfl ?_
    refine V_ifnonnullN dX10_rule_28 ?_
    refine V_bipush (v := -9) rfl dX10_rule_31 ?_
    exact V_iret hM dX10_rule_33 (mDet.rf)
theorem e_X10_force {n : Nat} {day : Int32} (hW : CW sh P) (hC : CodexAt sh I P 6 7 n) : Ev X B mdX10_force 0 0 [.ref (B + 0), .int day] nx sh I P (mDet (some (.int (if inB day 10000 = true then forceF I P 7 n day else -2))) nx sh I P) := by
  have s0 : sh 0 = some (.inl 10) := hW.1 0 _ rfl
  have p0_1 : P 0 1 = some 6 := hW.2 0 1 6 rfl
  have s6 : sh 6 = some (.inl 2) := hW.1 6 _ rfl
  refine Ev.of (by decide) (by simp [Value.category]) (by simp) (fun G hM => ?_)
  have hM : mM X B "force" (some FieldType.int) 2 46 0 0 _ G := hM
  show V X B RX10 cX10_force G 0 0 nx sh I P 0 [some (.ref (B + 0)), some (.int day)] []
  refine V_iln dX10_force_0 rfl ?_
  refine V_cS1d hM cvX10_110 (e_X10_isDay) ⟨Nat.le_of_ble_eq_true rfl, Nat.le_of_ble_eq_true rfl, Nat.le_of_ble_eq_true rfl, Nat.le_of_ble_eq_true rfl⟩ (Nat.le_of_ble_eq_true rfl) dX10_force_1 ?_
  refine V_ifne_b (tgt := 10) dX10_force_4 rfl (fun c4 => ?_) (fun c4 => ?_)
  · refine V_aln dX10_force_10 rfl ?_
    refine V_getR dX10_force_11 flX10_19 (by assumption) rfl (by assumption) ?_
    refine V_iln dX10_force_14 rfl ?_
    refine V_cV1d hM cvX10_232 (by assumption) rfl (e_X2_inForce hC) ⟨Nat.le_of_ble_eq_true rfl, Nat.le_of_ble_eq_true rfl, Nat.le_of_ble_eq_true rfl, Nat.le_of_ble_eq_true rfl⟩ (Nat.le_of_ble_eq_true rfl) dX10_force_15 ?_
    exact V_iret hM dX10_force_18 (⟨by simp [c4], rfl, rfl, rfl, rfl⟩)
  · refine V_bipush (v := -2) rfl dX10_force_7 ?_
    exact V_iret hM dX10_force_9 (⟨by simp [c4], rfl, rfl, rfl, rfl⟩)
def ltrF (I : mI) (o : Nat) (what : Int32) : Int32 := if what = 0 then I o 0 else if what = 1 then I o 1 else if what = 2 then I o 2 else if what = 3 then I o 3 else if what = 4 then I o 4 else if what = 5 then I o 5 else if what = 6 then I o 6 else -9
theorem e_X10_lettered {n k : Nat} {what : Int32} (hW : CW sh P) (hL : LettsAt sh I P n) (hk : k < n) : Ev X B mdX10_lettered 0 0 [.ref (B + 0), .int (nI k), .int what] nx sh I P (mDet (some (.int (ltrF I (pg P 25 k) what))) nx sh I P) := by
  have s0 : sh 0 = some (.inl 10) := hW.1 0 _ rfl
  have h1 := (hL.2.2 k hk).2
  refine Ev.of (by decide) (by simp [Value.category]) (by simp) (fun G hM => ?_)
  have hM : mM X B "lettered" (some FieldType.int) 1 21 0 0 _ G := hM
  show V X B RX10 cX10_lettered G 0 0 nx sh I P 0 [some (.ref (B + 0)), some (.int (nI k)), some (.int what), none] []
  refine V_aln dX10_lettered_0 rfl ?_
  refine V_iln dX10_lettered_1 rfl ?_
  refine V_cV1d hM cvX10_249 (by assumption) rfl (e_X10_findLetter hW hL hk) ⟨Nat.le_of_ble_eq_true rfl, Nat.le_of_ble_eq_true rfl, Nat.le_of_ble_eq_true rfl, Nat.le_of_ble_eq_true rfl⟩ (Nat.le_of_ble_eq_true rfl) dX10_lettered_2 ?_
  refine V_as3 dX10_lettered_5 ?_
  refine V_aln dX10_lettered_6 rfl ?_
  refine V_ifnonnull (tgt := 13) dX10_lettered_7 rfl ?_
  refine V_iln dX10_lettered_13 rfl ?_
  refine V_tsw_0_6 (td := 91) (t0 := 56) (t1 := 61) (t2 := 66) (t3 := 71) (t4 := 76) (t5 := 81) (t6 := 86) dX10_lettered_14 rfl rfl rfl rfl rfl rfl rfl rfl (fun c14 => ?_) (fun c14 => ?_) (fun c14 => ?_) (fun c14 => ?_) (fun c14 => ?_) (fun c14 => ?_) (fun c14 => ?_) (fun c14 => ?_)
  · refine V_bipush (v := -9) rfl dX10_lettered_91 ?_
    exact V_iret hM dX10_lettered_93 (⟨by have e0 : ¬ what = 0 := sw_0 (n := 6) 0 (by omega) (by omega) c14; have e1 : ¬ what = 1 := sw_0 (n := 6) 1 (by omega) (by omega) c14; have e2 : ¬ what = 2 := sw_0 (n := 6) 2 (by omega) (by omega) c14; have e3 : ¬ what = 3 := sw_0 (n := 6) 3 (by omega) (by omega) c14; have e4 : ¬ what = 4 := sw_0 (n := 6) 4 (by omega) (by omega) c14; have e5 : ¬ what = 5 := sw_0 (n := 6) 5 (by omega) (by omega) c14; have e6 : ¬ what = 6 := sw_0 (n := 6) 6 (by omega) (by omega) c14; rw [ltrF, if_neg e0, if_neg e1, if_neg e2, if_neg e3, if_neg e4, if_neg e5, if_neg e6], rfl, rfl, rfl, rfl⟩)
  · refine V_aln dX10_lettered_56 rfl ?_
    refine V_getI dX10_lettered_57 flX10_277 (by assumption) rfl ?_
    exact V_iret hM dX10_lettered_60 (⟨by simp [ltrF, c14], rfl, rfl, rfl, rfl⟩)
  · refine V_aln dX10_lettered_61 rfl ?_
    refine V_getI dX10_lettered_62 flX10_260 (by assumption) rfl ?_
    exact V_iret hM dX10_lettered_65 (⟨by simp [ltrF, c14], rfl, rfl, rfl, rfl⟩)
  · refine V_aln dX10_lettered_66 rfl ?_
    refine V_getI dX10_lettered_67 flX10_263 (by assumption) rfl ?_
    exact V_iret hM dX10_lettered_70 (⟨by simp [ltrF, c14], rfl, rfl, rfl, rfl⟩)
  · refine V_aln dX10_lettered_71 rfl ?_
    refine V_getI dX10_lettered_72 flX10_266 (by assumption) rfl ?_
    exact V_iret hM dX10_lettered_75 (⟨by simp [ltrF, c14], rfl, rfl, rfl, rfl⟩)
  · refine V_aln dX10_lettered_76 rfl ?_
    refine V_getI dX10_lettered_77 flX10_253 (by assumption) rfl ?_
    exact V_iret hM dX10_lettered_80 (⟨by simp [ltrF, c14], rfl, rfl, rfl, rfl⟩)
  · refine V_aln dX10_lettered_81 rfl ?_
    refine V_getI dX10_lettered_82 flX10_280 (by assumption) rfl ?_
    exact V_iret hM dX10_lettered_85 (⟨by simp [ltrF, c14], rfl, rfl, rfl, rfl⟩)
  · refine V_aln dX10_lettered_86 rfl ?_
    refine V_getI dX10_lettered_87 flX10_281 (by assumption) rfl ?_
    exact V_iret hM dX10_lettered_90 (⟨by simp [ltrF, c14], rfl, rfl, rfl, rfl⟩)
theorem e_X10_letteredN {n : Nat} {k what : Int32} (hW : CW sh P) (hL : LettsAt sh I P n) (hk : inB k n = false) : Ev X B mdX10_lettered 0 0 [.ref (B + 0), .int k, .int what] nx sh I P (mDet (some (.int (-9))) nx sh I P) := by
  have s0 : sh 0 = some (.inl 10) := hW.1 0 _ rfl
  refine Ev.of (by decide) (by simp [Value.category]) (by simp) (fun G hM => ?_)
  have hM : mM X B "lettered" (some FieldType.int) 1 21 0 0 _ G := hM
  show V X B RX10 cX10_lettered G 0 0 nx sh I P 0 [some (.ref (B + 0)), some (.int k), some (.int what), none] []
  refine V_aln dX10_lettered_0 rfl ?_
  refine V_iln dX10_lettered_1 rfl ?_
  refine V_cV1d hM cvX10_249 (by assumption) rfl (e_X10_findLetterN hW hL hk) ⟨Nat.le_of_ble_eq_true rfl, Nat.le_of_ble_eq_true rfl, Nat.le_of_ble_eq_true rfl, Nat.le_of_ble_eq_true rfl⟩ (Nat.le_of_ble_eq_true rfl) dX10_lettered_2 ?_
  refine V_an3 dX10_lettered_5 ?_
  refine V_alnN dX10_lettered_6 rfl ?_
  refine V_ifnonnullN dX10_lettered_7 ?_
  refine V_bipush (v := -9) rfl dX10_lettered_10 ?_
  exact V_iret hM dX10_lettered_12 (mDet.rf)
def prsF (I : mI) (p what : Int32) : Int32 := if inB p 30 = true then (if what = 0 then I 26 p.toNatClampNeg else if what = 1 then I 27 p.toNatClampNeg else if what = 2 then I 28 p.toNatClampNeg else -2) else -2
theorem e_X10_person {p what : Int32} (hW : CW sh P) : Ev X B mdX10_person 0 0 [.ref (B + 0), .int p, .int what] nx sh I P (mDet (some (.int (prsF I p what))) nx sh I P) := by
  have s0 : sh 0 = some (.inl 10) := hW.1 0 _ rfl
  have p0_10 : P 0 10 = some 26 := hW.2 0 10 26 rfl
  have s26 : sh 26 = some (.inr (0, 30)) := hW.1 26 _ rfl
  have p0_11 : P 0 11 = some 27 := hW.2 0 11 27 rfl
  have s27 : sh 27 = some (.inr (0, 30)) := hW.1 27 _ rfl
  have p0_12 : P 0 12 = some 28 := hW.2 0 12 28 rfl
  have s28 : sh 28 = some (.inr (0, 30)) := hW.1 28 _ rfl
  refine Ev.of (by decide) (by simp [Value.category]) (by simp) (fun G hM => ?_)
  have hM : mM X B "person" (some FieldType.int) 1 20 0 0 _ G := hM
  show V X B RX10 cX10_person G 0 0 nx sh I P 0 [some (.ref (B + 0)), some (.int p), some (.int what)] []
  refine V_iln dX10_person_0 rfl ?_
  refine V_cS1d hM cvX10_106 (e_X10_isPerson) ⟨Nat.le_of_ble_eq_true rfl, Nat.le_of_ble_eq_true rfl, Nat.le_of_ble_eq_true rfl, Nat.le_of_ble_eq_true rfl⟩ (Nat.le_of_ble_eq_true rfl) dX10_person_1 ?_
  refine V_ifne_b (tgt := 10) dX10_person_4 rfl (fun c4 => ?_) (fun c4 => ?_)
  · refine V_iln dX10_person_10 rfl ?_
    refine V_tsw_0_2 (td := 57) (t0 := 36) (t1 := 43) (t2 := 50) dX10_person_11 rfl rfl rfl rfl (fun c11 => ?_) (fun c11 => ?_) (fun c11 => ?_) (fun c11 => ?_)
    · refine V_bipush (v := -2) rfl dX10_person_57 ?_
      exact V_iret hM dX10_person_59 (⟨by have e0 : ¬ what = 0 := sw_0 (n := 2) 0 (by omega) (by omega) c11; have e1 : ¬ what = 1 := sw_0 (n := 2) 1 (by omega) (by omega) c11; have e2 : ¬ what = 2 := sw_0 (n := 2) 2 (by omega) (by omega) c11; rw [prsF, if_pos c4, if_neg e0, if_neg e1, if_neg e2], rfl, rfl, rfl, rfl⟩)
    · refine V_aln dX10_person_36 rfl ?_
      refine V_getR dX10_person_37 flX10_60 (by assumption) rfl (by assumption) ?_
      refine V_iln dX10_person_40 rfl ?_
      refine V_iald dX10_person_41 (by assumption) (inB_in c4) ?_
      exact V_iret hM dX10_person_42 (⟨by simp [prsF, c4, c11], rfl, rfl, rfl, rfl⟩)
    · refine V_aln dX10_person_43 rfl ?_
      refine V_getR dX10_person_44 flX10_64 (by assumption) rfl (by assumption) ?_
      refine V_iln dX10_person_47 rfl ?_
      refine V_iald dX10_person_48 (by assumption) (inB_in c4) ?_
      exact V_iret hM dX10_person_49 (⟨by simp [prsF, c4, c11], rfl, rfl, rfl, rfl⟩)
    · refine V_aln dX10_person_50 rfl ?_
      refine V_getR dX10_person_51 flX10_67 (by assumption) rfl (by assumption) ?_
      refine V_iln dX10_person_54 rfl ?_
      refine V_iald dX10_person_55 (by assumption) (inB_in c4) ?_
      exact V_iret hM dX10_person_56 (⟨by simp [prsF, c4, c11], rfl, rfl, rfl, rfl⟩)
  · refine V_bipush (v := -2) rfl dX10_person_7 ?_
    exact V_iret hM dX10_person_9 (⟨by simp [prsF, c4], rfl, rfl, rfl, rfl⟩)
theorem e_X10_price {k x : Int32} (hW : CW sh P) (hk : inB k 7 = true) (hx : inB x 1000 = true) : Ev X B mdX10_price 0 0 [.ref (B + 0), .int k, .int x] nx sh I P (mDet (some (.int (I 29 k.toNatClampNeg))) nx sh (mUp I 29 k.toNatClampNeg x) P) := by
  have s0 : sh 0 = some (.inl 10) := hW.1 0 _ rfl
  have p0_14 : P 0 14 = some 29 := hW.2 0 14 29 rfl
  have s29 : sh 29 = some (.inr (0, 7)) := hW.1 29 _ rfl
  have h1 := inB_iff.mp hk
  have h2 := inB_iff.mp hx
  refine Ev.of (by decide) (by simp [Value.category]) (by simp) (fun G hM => ?_)
  have hM : mM X B "price" (some FieldType.int) 0 0 0 0 _ G := hM
  show V X B RX10 cX10_price G 0 0 nx sh I P 0 [some (.ref (B + 0)), some (.int k), some (.int x), none] []
  refine V_iln dX10_price_0 rfl ?_
  refine V_if_lt (tgt := 21) dX10_price_1 rfl (fun c1 => ?_) (fun c1 => ?_)
  · rw [i_lt] at c1; simp at c1; omega --done
  · refine V_iln dX10_price_4 rfl ?_
    refine V_bipush (v := 7) rfl dX10_price_5 ?_
    refine V_icmp_ge (tgt := 21) dX10_price_7 rfl (fun c7 => ?_) (fun c7 => ?_)
    · rw [i_le] at c7; have : (7 : Int) ≤ k.toInt := c7; omega --done
    · refine V_iln dX10_price_10 rfl ?_
      refine V_if_lt (tgt := 21) dX10_price_11 rfl (fun c11 => ?_) (fun c11 => ?_)
      · rw [i_lt] at c11; simp at c11; omega --done
      · refine V_iln dX10_price_14 rfl ?_
        refine V_sipush (v := 999) rfl dX10_price_15 ?_
        refine V_icmp_le (tgt := 24) dX10_price_18 rfl (fun c18 => ?_) (fun c18 => ?_)
        · refine V_aln dX10_price_24 rfl ?_
          refine V_getR dX10_price_25 flX10_73 (by assumption) rfl (by assumption) ?_
          refine V_iln dX10_price_28 rfl ?_
          refine V_iald dX10_price_29 (by assumption) (inB_in hk) ?_
          refine V_is3 dX10_price_30 ?_
          refine V_aln dX10_price_31 rfl ?_
          refine V_getR dX10_price_32 flX10_73 (by assumption) rfl (by assumption) ?_
          refine V_iln dX10_price_35 rfl ?_
          refine V_iln dX10_price_36 rfl ?_
          refine V_iast dX10_price_37 (by assumption) (inB_in hk) ?_
          refine V_iln dX10_price_38 rfl ?_
          exact V_iret hM dX10_price_39 (mDet.rf)
        · rw [i_le] at c18; have : ¬ x.toInt ≤ (999 : Int) := c18; omega --done
theorem e_X10_priceN {k x : Int32} (hW : CW sh P) (hx : (inB k 7 && inB x 1000) = false) : Ev X B mdX10_price 0 0 [.ref (B + 0), .int k, .int x] nx sh I P (mDet (some (.int (-2))) nx sh I P) := by
  have s0 : sh 0 = some (.inl 10) := hW.1 0 _ rfl
  have p0_14 : P 0 14 = some 29 := hW.2 0 14 29 rfl
  have s29 : sh 29 = some (.inr (0, 7)) := hW.1 29 _ rfl
  refine Ev.of (by decide) (by simp [Value.category]) (by simp) (fun G hM => ?_)
  have hM : mM X B "price" (some FieldType.int) 0 0 0 0 _ G := hM
  show V X B RX10 cX10_price G 0 0 nx sh I P 0 [some (.ref (B + 0)), some (.int k), some (.int x), none] []
  refine V_iln dX10_price_0 rfl ?_
  refine V_if_lt (tgt := 21) dX10_price_1 rfl (fun c1 => ?_) (fun c1 => ?_)
  · refine V_bipush (v := -2) rfl dX10_price_21 ?_
    exact V_iret hM dX10_price_23 (mDet.rf)
  · refine V_iln dX10_price_4 rfl ?_
    refine V_bipush (v := 7) rfl dX10_price_5 ?_
    refine V_icmp_ge (tgt := 21) dX10_price_7 rfl (fun c7 => ?_) (fun c7 => ?_)
    · refine V_bipush (v := -2) rfl dX10_price_21 ?_
      exact V_iret hM dX10_price_23 (mDet.rf)
    · refine V_iln dX10_price_10 rfl ?_
      refine V_if_lt (tgt := 21) dX10_price_11 rfl (fun c11 => ?_) (fun c11 => ?_)
      · refine V_bipush (v := -2) rfl dX10_price_21 ?_
        exact V_iret hM dX10_price_23 (mDet.rf)
      · refine V_iln dX10_price_14 rfl ?_
        refine V_sipush (v := 999) rfl dX10_price_15 ?_
        refine V_icmp_le (tgt := 24) dX10_price_18 rfl (fun c18 => ?_) (fun c18 => ?_)
        · rw [i_lt] at c1 c11; rw [i_le] at c7 c18; have a1 : ¬ (7 : Int) ≤ k.toInt := c7; have a2 : x.toInt ≤ (999 : Int) := c18; simp at c1 c11; rw [inB_iff.mpr (show 0 ≤ k.toInt ∧ k.toInt < (7 : Nat) by omega), inB_iff.mpr (show 0 ≤ x.toInt ∧ x.toInt < (1000 : Nat) by omega)] at hx; cases hx --done
        · refine V_bipush (v := -2) rfl dX10_price_21 ?_
          exact V_iret hM dX10_price_23 (mDet.rf)
def cntF (I : mI) (what : Int32) : Int32 := if what = 0 then I 6 1 else if what = 1 then I 0 7 else if what = 2 then I 0 9 else if what = 3 then I 0 13 else if what = 4 then I 20 3 else if what = 5 then I 16 3 else if what = 6 then I 2 1 else -1
theorem e_X10_count {what : Int32} (hW : CW sh P) : Ev X B mdX10_count 0 0 [.ref (B + 0), .int what] nx sh I P (mDet (some (.int (cntF I what))) nx sh I P) := by
  have s0 : sh 0 = some (.inl 10) := hW.1 0 _ rfl
  have p0_1 : P 0 1 = some 6 := hW.2 0 1 6 rfl
  have s6 : sh 6 = some (.inl 2) := hW.1 6 _ rfl
  have p0_5 : P 0 5 = some 20 := hW.2 0 5 20 rfl
  have s20 : sh 20 = some (.inl 6) := hW.1 20 _ rfl
  have p0_4 : P 0 4 = some 16 := hW.2 0 4 16 rfl
  have s16 : sh 16 = some (.inl 6) := hW.1 16 _ rfl
  have p0_0 : P 0 0 = some 1 := hW.2 0 0 1 rfl
  have s1 : sh 1 = some (.inl 5) := hW.1 1 _ rfl
  have p1_0 : P 1 0 = some 2 := hW.2 1 0 2 rfl
  have s2 : sh 2 = some (.inl 8) := hW.1 2 _ rfl
  refine Ev.of (by decide) (by simp [Value.category]) (by simp) (fun G hM => ?_)
  have hM : mM X B "count" (some FieldType.int) 1 20 0 0 _ G := hM
  show V X B RX10 cX10_count G 0 0 nx sh I P 0 [some (.ref (B + 0)), some (.int what)] []
  refine V_iln dX10_count_0 rfl ?_
  refine V_tsw_0_6 (td := 94) (t0 := 44) (t1 := 52) (t2 := 57) (t3 := 62) (t4 := 67) (t5 := 75) (t6 := 83) dX10_count_1 rfl rfl rfl rfl rfl rfl rfl rfl (fun c1 => ?_) (fun c1 => ?_) (fun c1 => ?_) (fun c1 => ?_) (fun c1 => ?_) (fun c1 => ?_) (fun c1 => ?_) (fun c1 => ?_)
  · refine V_iconst (v := -1) rfl dX10_count_94 ?_
    exact V_iret hM dX10_count_95 (⟨by have e0 : ¬ what = 0 := sw_0 (n := 6) 0 (by omega) (by omega) c1; have e1 : ¬ what = 1 := sw_0 (n := 6) 1 (by omega) (by omega) c1; have e2 : ¬ what = 2 := sw_0 (n := 6) 2 (by omega) (by omega) c1; have e3 : ¬ what = 3 := sw_0 (n := 6) 3 (by omega) (by omega) c1; have e4 : ¬ what = 4 := sw_0 (n := 6) 4 (by omega) (by omega) c1; have e5 : ¬ what = 5 := sw_0 (n := 6) 5 (by omega) (by omega) c1; have e6 : ¬ what = 6 := sw_0 (n := 6) 6 (by omega) (by omega) c1; rw [cntF, if_neg e0, if_neg e1, if_neg e2, if_neg e3, if_neg e4, if_neg e5, if_neg e6], rfl, rfl, rfl, rfl⟩)
  · refine V_aln dX10_count_44 rfl ?_
    refine V_getR dX10_count_45 flX10_19 (by assumption) rfl (by assumption) ?_
    refine V_cV0d hM cvX10_170 (by assumption) rfl (e_X2_size s6) ⟨Nat.le_of_ble_eq_true rfl, Nat.le_of_ble_eq_true rfl, Nat.le_of_ble_eq_true rfl, Nat.le_of_ble_eq_true rfl⟩ (Nat.le_of_ble_eq_true rfl) dX10_count_48 ?_
    exact V_iret hM dX10_count_51 (⟨by simp [cntF, c1], rfl, rfl, rfl, rfl⟩)
  · refine V_aln dX10_count_52 rfl ?_
    refine V_getI dX10_count_53 flX10_47 (by assumption) rfl ?_
    exact V_iret hM dX10_count_56 (⟨by simp [cntF, c1], rfl, rfl, rfl, rfl⟩)
  · refine V_aln dX10_count_57 rfl ?_
    refine V_getI dX10_count_58 flX10_57 (by assumption) rfl ?_
    exact V_iret hM dX10_count_61 (⟨by simp [cntF, c1], rfl, rfl, rfl, rfl⟩)
  · refine V_aln dX10_count_62 rfl ?_
    refine V_getI dX10_count_63 flX10_70 (by assumption) rfl ?_
    exact V_iret hM dX10_count_66 (⟨by simp [cntF, c1], rfl, rfl, rfl, rfl⟩)
  · refine V_aln dX10_count_67 rfl ?_
    refine V_getR dX10_count_68 flX10_38 (by assumption) rfl (by assumption) ?_
    refine V_cV0d hM cvX10_128 (by assumption) rfl (e_X6_size s20) ⟨Nat.le_of_ble_eq_true rfl, Nat.le_of_ble_eq_true rfl, Nat.le_of_ble_eq_true rfl, Nat.le_of_ble_eq_true rfl⟩ (Nat.le_of_ble_eq_true rfl) dX10_count_71 ?_
    exact V_iret hM dX10_count_74 (⟨by simp [cntF, c1], rfl, rfl, rfl, rfl⟩)
  · refine V_aln dX10_count_75 rfl ?_
    refine V_getR dX10_count_76 flX10_35 (by assumption) rfl (by assumption) ?_
    refine V_cV0d hM cvX10_128 (by assumption) rfl (e_X6_size s16) ⟨Nat.le_of_ble_eq_true rfl, Nat.le_of_ble_eq_true rfl, Nat.le_of_ble_eq_true rfl, Nat.le_of_ble_eq_true rfl⟩ (Nat.le_of_ble_eq_true rfl) dX10_count_79 ?_
    exact V_iret hM dX10_count_82 (⟨by simp [cntF, c1], rfl, rfl, rfl, rfl⟩)
  · refine V_aln dX10_count_83 rfl ?_
    refine V_getR dX10_count_84 flX10_10 (by assumption) rfl (by assumption) ?_
    refine V_getR dX10_count_87 flX10_90 (by assumption) rfl (by assumption) ?_
    refine V_cV0d hM cvX10_94 (by assumption) rfl (e_X8_size s2) ⟨Nat.le_of_ble_eq_true rfl, Nat.le_of_ble_eq_true rfl, Nat.le_of_ble_eq_true rfl, Nat.le_of_ble_eq_true rfl⟩ (Nat.le_of_ble_eq_true rfl) dX10_count_90 ?_
    exact V_iret hM dX10_count_93 (⟨by simp [cntF, c1], rfl, rfl, rfl, rfl⟩)
end P1
