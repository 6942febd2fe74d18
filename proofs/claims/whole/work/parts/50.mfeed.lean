/-! ===== the reference's feed ===== -/
section MF
variable {X : mX} {B nx : Nat} {sh : Nat → Option mSh} {I : mI} {P : mP}
theorem shr_low {x : Int32} {j k : Nat} (hk : k < 8) (hj : j ≤ 24) : (x >>> (nI j &&& 31)).toBitVec.getLsbD k = x.toBitVec.getLsbD (j + k) := by
  rw [nI_31 (by omega), Int32.toBitVec_shiftRight, nI_smod (by omega)]
  rw [BitVec.sshiftRight', BitVec.toNat_ofNat, Nat.mod_eq_of_lt (show j < 2 ^ 32 by omega), BitVec.getLsbD_sshiftRight]
  simp [show k < 32 by omega, show j + k < 32 by omega]
theorem ushr_low {x : Int32} {j k : Nat} (hk : k < 8) (hj : j ≤ 24) : (mUshr x (nI j)).toBitVec.getLsbD k = x.toBitVec.getLsbD (j + k) := by
  have e : ∀ j : Fin 25, ((nI j).toUInt32 &&& Int32.toUInt32 31) = UInt32.ofNat j := by decide +kernel
  unfold mUshr
  rw [e ⟨j, by omega⟩]
  show (x.toUInt32 >>> UInt32.ofNat j).toBitVec.getLsbD k = _
  rw [UInt32.toBitVec_shiftRight]
  have h32 : ((UInt32.ofNat j).toBitVec % 32).toNat = j := by
    have : ∀ j : Fin 25, ((UInt32.ofNat j).toBitVec % 32).toNat = j := by decide +kernel
    exact this ⟨j, by omega⟩
  rw [BitVec.ushiftRight_eq', h32, BitVec.getLsbD_ushiftRight]
  rfl
theorem ly_byte {w : Int32} {j : Nat} (hj : j ≤ 24) : (w >>> (nI j &&& 31)).toInt8 = (mUshr w (nI j)).toInt8 := by
  apply Int8.toBitVec_inj.mp
  rw [Int32.toBitVec_toInt8, Int32.toBitVec_toInt8]
  apply BitVec.eq_of_getLsbD_eq
  intro k hk
  rw [BitVec.getLsbD_signExtend, BitVec.getLsbD_signExtend, if_pos (show k < 32 by omega), if_pos (show k < 32 by omega), shr_low hk hj, ushr_low hk hj]
/-- n bytes, j of a word behind them -/
def lyM (I : mI) (n : Nat) (w : Int32) (j : Nat) : mI := mUp (mBlk I 48 n (n + j) (fun k => tpW w (k - n))) 35 14 (nI (n + j))
theorem lyM_0 {n : Nat} {w : Int32} (h : I 35 14 = nI n) (c k : Nat) : I c k = lyM I n w 0 c k := by
  unfold lyM mUp mBlk
  by_cases h1 : c = 35 ∧ k = 14
  · rw [if_pos h1, h1.1, h1.2, h]; rfl
  · rw [if_neg h1, if_neg (by omega)]
theorem lyM_s {n j : Nat} {w : Int32} (c k : Nat) : mUp (mUp (lyM I n w j) 48 (n + j) (tpW w j)) 35 14 (nI (n + j + 1)) c k = lyM I n w (j + 1) c k := by
  unfold lyM mUp mBlk
  by_cases h1 : c = 35 ∧ k = 14
  · rw [if_pos h1, if_pos h1]; rfl
  · rw [if_neg h1, if_neg h1, if_neg h1]
    by_cases h2 : c = 48 ∧ k = n + j
    · rw [if_pos h2, if_pos (by omega), h2.2]
      show tpW w j = tpW w (n + j - n)
      rw [show n + j - n = j by omega]
    · rw [if_neg h2]
      by_cases h3 : c = 48 ∧ n ≤ k ∧ k < n + j
      · rw [if_pos h3, if_pos (by omega)]
      · rw [if_neg h3, if_neg (by omega)]
theorem s_X12_lay {G : mG} {n j s : Nat} {w : Int32} (hV : MW sh P) (hn : n + j < 800) (hs : s ≤ 24) (hv : (mUshr w (nI s)).toInt8.toInt32.toInt8.toInt32 = tpW w j)
    (next : V X B RX12 cX12_lay G 0 0 nx sh (lyM I n w (j + 1)) P 3 [some (.ref (B + 35)), some (.int w), some (.int (nI s + Int32.ofInt (-8)))] []) : V X B RX12 cX12_lay G 0 0 nx sh (lyM I n w j) P 3 [some (.ref (B + 35)), some (.int w), some (.int (nI s))] [] := by
  have s35 : sh 35 = some (.inl 12) := hV.1 35 _ rfl
  have s_tape : sh 48 = some (.inr (1, 800)) := hV.1 48 _ rfl
  have p_tape : P 35 13 = some 48 := hV.2 13 48 rfl
  have hm : lyM I n w j 35 14 = nI (n + j) := by simp [lyM, mUp]
  refine V_iln dX12_lay_3 rfl ?_
  refine V_if_lt (tgt := 36) dX12_lay_4 rfl (fun c4 => ?_) (fun c4 => ?_)
  · exact absurd c4 (nI_pos (by omega)) --done
  · refine V_aln dX12_lay_7 rfl ?_
    refine V_getR dX12_lay_8 flX12_26 (by assumption) rfl (by assumption) ?_
    refine V_aln dX12_lay_11 rfl ?_
    refine V_getIv dX12_lay_12 flX12_253 (by assumption) rfl (hm) ?_
    refine V_iln dX12_lay_15 rfl ?_
    refine V_iln dX12_lay_16 rfl ?_
    refine V_ishr dX12_lay_17 ?_
    refine V_i2b dX12_lay_18 ?_
    refine V_bastN dX12_lay_19 (by assumption) (by omega) (by omega) ?_
    refine V_aln dX12_lay_20 rfl ?_
    refine V_dup rfl dX12_lay_21 ?_
    refine V_getIv dX12_lay_22 flX12_253 (by assumption) rfl ((mUp_c (by decide)).trans hm) ?_
    refine V_iconst (v := 1) rfl dX12_lay_25 ?_
    refine V_iadd dX12_lay_26 ?_
    refine V_top (nI_inc' (n + j)) ?_
    refine V_putI dX12_lay_27 flX12_253 (by assumption) rfl rfl ?_
    refine V_inc2 dX12_lay_30 ?_
    refine V_goto (tgt := 3) dX12_lay_33 rfl ?_
    refine V_mem (fun c k => ?_) (fun _ _ => rfl) next
    rw [← lyM_s, ← hv, ly_byte hs]
/-- lay(w): four bytes behind the others -/
theorem e_X12_lay {n : Nat} {w : Int32} (hV : MW sh P) (hm : I 35 14 = nI n) (hn : n + 4 ≤ 800) : Ev X B mdX12_lay 0 0 [.ref (B + 35), .int w] nx sh I P (mDet none nx sh (lyM I n w 4) P) := by
  refine Ev.of (by decide) (by simp [Value.category]) (by simp) (fun G hM => ?_)
  have hM : mM X B "lay" none 0 0 0 0 _ G := hM
  show V X B RX12 cX12_lay G 0 0 nx sh I P 0 [some (.ref (B + 35)), some (.int w), none] []
  refine V_mem (lyM_0 (w := w) hm) (fun _ _ => rfl) ?_
  refine V_bipush (v := 24) rfl dX12_lay_0 ?_
  refine V_is2 dX12_lay_2 ?_
  refine V_ls (show _ = [some (.ref (B + 35)), some (.int w), some (.int (nI 24))] from rfl) ?_
  refine s_X12_lay hV (by omega) (by omega) rfl ?_
  refine V_ls (show _ = [some (.ref (B + 35)), some (.int w), some (.int (nI 16))] from rfl) ?_
  refine s_X12_lay hV (by omega) (by omega) rfl ?_
  refine V_ls (show _ = [some (.ref (B + 35)), some (.int w), some (.int (nI 8))] from rfl) ?_
  refine s_X12_lay hV (by omega) (by omega) rfl ?_
  refine V_ls (show _ = [some (.ref (B + 35)), some (.int w), some (.int (nI 0))] from rfl) ?_
  refine s_X12_lay hV (by omega) (by omega) rfl ?_
  refine V_ls (show _ = [some (.ref (B + 35)), some (.int w), some (.int (-8))] from rfl) ?_
  refine V_iln dX12_lay_3 rfl ?_
  refine V_if_lt (tgt := 36) dX12_lay_4 rfl (fun c4 => ?_) (fun c4 => ?_)
  · exact V_vret hM dX12_lay_36 (mDet.rf)
  · exact absurd (by decide) c4 --done
def mFdM (I : mI) (n : Nat) (a b c d e : Int32) : mI := lyM (lyM (lyM (lyM (lyM I n a 4) (n + 4) b 4) (n + 8) c 4) (n + 12) d 4) (n + 16) e 4
theorem lyM_14 {n j : Nat} {w : Int32} : lyM I n w j 35 14 = nI (n + j) := by simp [lyM, mUp]
theorem e_X12_feed {n : Nat} {a b c d e : Int32} (hV : MW sh P) (hm : I 35 14 = nI n) (hn : n + 20 ≤ 800) : Ev X B mdX12_feed 0 0 [.ref (B + 35), .int a, .int b, .int c, .int d, .int e] nx sh I P (mDet (some (.int (nI (n + 20)))) nx sh (mFdM I n a b c d e) P) := by
  have s35 : sh 35 = some (.inl 12) := hV.1 35 _ rfl
  refine Ev.of (by decide) (by simp [Value.category]) (by simp) (fun G hM => ?_)
  have hM : mM X B "feed" (some FieldType.int) 1 22 0 0 _ G := hM
  show V X B RX12 cX12_feed G 0 0 nx sh I P 0 [some (.ref (B + 35)), some (.int a), some (.int b), some (.int c), some (.int d), some (.int e)] []
  refine V_aln dX12_feed_0 rfl ?_
  refine V_getIv dX12_feed_1 flX12_253 (by assumption) rfl (hm) ?_
  refine V_bipush (v := 20) rfl dX12_feed_4 ?_
  refine V_iadd dX12_feed_6 ?_
  refine V_top (show nI n + 20 = nI (n + 20) from nI_add n 20) ?_
  refine V_sipush (v := 800) rfl dX12_feed_7 ?_
  refine V_icmp_le (tgt := 16) dX12_feed_10 rfl (fun c10 => ?_) (fun c10 => ?_)
  · refine V_aln dX12_feed_16 rfl ?_
    refine V_iln dX12_feed_17 rfl ?_
    refine V_cV1n hM cvX12_256 (by assumption) rfl (e_X12_lay hV hm (by omega)) ⟨Nat.le_of_ble_eq_true rfl, Nat.le_of_ble_eq_true rfl, Nat.le_of_ble_eq_true rfl, Nat.le_of_ble_eq_true rfl⟩ (Nat.le_of_ble_eq_true rfl) dX12_feed_18 ?_
    refine V_aln dX12_feed_21 rfl ?_
    refine V_iln dX12_feed_22 rfl ?_
    refine V_cV1n hM cvX12_256 (by assumption) rfl (e_X12_lay (n := n + 4) hV lyM_14 (by omega)) ⟨Nat.le_of_ble_eq_true rfl, Nat.le_of_ble_eq_true rfl, Nat.le_of_ble_eq_true rfl, Nat.le_of_ble_eq_true rfl⟩ (Nat.le_of_ble_eq_true rfl) dX12_feed_23 ?_
    refine V_aln dX12_feed_26 rfl ?_
    refine V_iln dX12_feed_27 rfl ?_
    refine V_cV1n hM cvX12_256 (by assumption) rfl (e_X12_lay (n := n + 8) hV lyM_14 (by omega)) ⟨Nat.le_of_ble_eq_true rfl, Nat.le_of_ble_eq_true rfl, Nat.le_of_ble_eq_true rfl, Nat.le_of_ble_eq_true rfl⟩ (Nat.le_of_ble_eq_true rfl) dX12_feed_28 ?_
    refine V_aln dX12_feed_31 rfl ?_
    refine V_il dX12_feed_32 rfl ?_
    refine V_cV1n hM cvX12_256 (by assumption) rfl (e_X12_lay (n := n + 12) hV lyM_14 (by omega)) ⟨Nat.le_of_ble_eq_true rfl, Nat.le_of_ble_eq_true rfl, Nat.le_of_ble_eq_true rfl, Nat.le_of_ble_eq_true rfl⟩ (Nat.le_of_ble_eq_true rfl) dX12_feed_34 ?_
    refine V_aln dX12_feed_37 rfl ?_
    refine V_il dX12_feed_38 rfl ?_
    refine V_cV1n hM cvX12_256 (by assumption) rfl (e_X12_lay (n := n + 16) hV lyM_14 (by omega)) ⟨Nat.le_of_ble_eq_true rfl, Nat.le_of_ble_eq_true rfl, Nat.le_of_ble_eq_true rfl, Nat.le_of_ble_eq_true rfl⟩ (Nat.le_of_ble_eq_true rfl) dX12_feed_40 ?_
    refine V_aln dX12_feed_43 rfl ?_
    refine V_getIv dX12_feed_44 flX12_253 (by assumption) rfl (lyM_14) ?_
    exact V_iret hM dX12_feed_47 (mDet.rf)
  · exact absurd ((nI_leI (a := n + 20) (b := 800) (by omega) (by omega)).mpr (by omega)) c10 --done
theorem e_X12_feedF {n : Nat} {a b c d e : Int32} (hV : MW sh P) (hm : I 35 14 = nI n) (hn8 : n ≤ 800) (hn : 800 < n + 20) : Ev X B mdX12_feed 0 0 [.ref (B + 35), .int a, .int b, .int c, .int d, .int e] nx sh I P (mDet (some (.int (-3))) nx sh I P) := by
  have s35 : sh 35 = some (.inl 12) := hV.1 35 _ rfl
  refine Ev.of (by decide) (by simp [Value.category]) (by simp) (fun G hM => ?_)
  have hM : mM X B "feed" (some FieldType.int) 1 22 0 0 _ G := hM
  show V X B RX12 cX12_feed G 0 0 nx sh I P 0 [some (.ref (B + 35)), some (.int a), some (.int b), some (.int c), some (.int d), some (.int e)] []
  refine V_aln dX12_feed_0 rfl ?_
  refine V_getIv dX12_feed_1 flX12_253 (by assumption) rfl (hm) ?_
  refine V_bipush (v := 20) rfl dX12_feed_4 ?_
  refine V_iadd dX12_feed_6 ?_
  refine V_top (show nI n + 20 = nI (n + 20) from nI_add n 20) ?_
  refine V_sipush (v := 800) rfl dX12_feed_7 ?_
  refine V_icmp_le (tgt := 16) dX12_feed_10 rfl (fun c10 => ?_) (fun c10 => ?_)
  · exact absurd (nN_le (a := n + 20) (b := 800) c10 (by omega) (by omega)) (by omega) --done
  · refine V_bipush (v := -3) rfl dX12_feed_13 ?_
    exact V_iret hM dX12_feed_15 (mDet.rf)
end MF
