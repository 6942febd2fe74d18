/-! ===== the reference's price, person, seal, feast ===== -/
section MZ
variable {X : mX} {B nx : Nat} {sh : Nat → Option mSh} {I : mI} {P : mP}
theorem e_X12_price {j : Nat} {v : Int32} (hV : MW sh P) (hj : j < 7) (hv : inB v 1000 = true) : Ev X B mdX12_price 0 0 [.ref (B + 35), .int (nI j), .int v] nx sh I P (mDet (some (.int (I 67 j))) nx sh (mUp I 67 j v) P) := by
  have s35 : sh 35 = some (.inl 12) := hV.1 35 _ rfl
  have s_price : sh 67 = some (.inr (0, 7)) := hV.1 67 _ rfl
  have p_price : P 35 44 = some 67 := hV.2 44 67 rfl
  refine Ev.of (by decide) (by simp [Value.category]) (by simp) (fun G hM => ?_)
  have hM : mM X B "price" (some FieldType.int) 1 25 0 0 _ G := hM
  show V X B RX12 cX12_price G 0 0 nx sh I P 0 [some (.ref (B + 35)), some (.int (nI j)), some (.int v), none] []
  refine V_iln dX12_price_0 rfl ?_
  refine V_i2l dX12_price_1 ?_
  refine V_lconst (v := 0) rfl dX12_price_2 ?_
  refine V_ldc2 kjX12_353 dX12_price_3 ?_
  refine V_cS3d hM cvX12_5 (e_X12_in) ⟨Nat.le_of_ble_eq_true rfl, Nat.le_of_ble_eq_true rfl, Nat.le_of_ble_eq_true rfl, Nat.le_of_ble_eq_true rfl⟩ (Nat.le_of_ble_eq_true rfl) dX12_price_6 ?_
  rw [inJ (n := 7) (by decide), inB_of hj (by omega)]
  refine V_ifeq_b (tgt := 24) dX12_price_9 rfl (fun c9 => ?_) (fun c9 => ?_)
  · exact absurd c9 (by decide) --done
  · refine V_iln dX12_price_12 rfl ?_
    refine V_i2l dX12_price_13 ?_
    refine V_lconst (v := 0) rfl dX12_price_14 ?_
    refine V_ldc2 kjX12_355 dX12_price_15 ?_
    refine V_cS3d hM cvX12_5 (e_X12_in) ⟨Nat.le_of_ble_eq_true rfl, Nat.le_of_ble_eq_true rfl, Nat.le_of_ble_eq_true rfl, Nat.le_of_ble_eq_true rfl⟩ (Nat.le_of_ble_eq_true rfl) dX12_price_18 ?_
    rw [inJ (n := 1000) (by decide), hv]
    refine V_ifne_b (tgt := 27) dX12_price_21 rfl (fun c21 => ?_) (fun c21 => ?_)
    · refine V_aln dX12_price_27 rfl ?_
      refine V_getR dX12_price_28 flX12_226 (by assumption) rfl (by assumption) ?_
      refine V_iln dX12_price_31 rfl ?_
      refine V_ialdNv dX12_price_32 (by assumption) (by omega) (by omega) (rfl) ?_
      refine V_is3 dX12_price_33 ?_
      refine V_aln dX12_price_34 rfl ?_
      refine V_getR dX12_price_35 flX12_226 (by assumption) rfl (by assumption) ?_
      refine V_iln dX12_price_38 rfl ?_
      refine V_iln dX12_price_39 rfl ?_
      refine V_iastN dX12_price_40 (by assumption) (by omega) (by omega) ?_
      refine V_iln dX12_price_41 rfl ?_
      exact V_iret hM dX12_price_42 (mDet.rf)
    · exact absurd c21 (by decide) --done
theorem e_X12_priceN {k v : Int32} (hV : MW sh P) (hx : (inB k 7 && inB v 1000) = false) : Ev X B mdX12_price 0 0 [.ref (B + 35), .int k, .int v] nx sh I P (mDet (some (.int (-2))) nx sh I P) := by
  have s35 : sh 35 = some (.inl 12) := hV.1 35 _ rfl
  have s_price : sh 67 = some (.inr (0, 7)) := hV.1 67 _ rfl
  have p_price : P 35 44 = some 67 := hV.2 44 67 rfl
  refine Ev.of (by decide) (by simp [Value.category]) (by simp) (fun G hM => ?_)
  have hM : mM X B "price" (some FieldType.int) 1 25 0 0 _ G := hM
  show V X B RX12 cX12_price G 0 0 nx sh I P 0 [some (.ref (B + 35)), some (.int k), some (.int v), none] []
  refine V_iln dX12_price_0 rfl ?_
  refine V_i2l dX12_price_1 ?_
  refine V_lconst (v := 0) rfl dX12_price_2 ?_
  refine V_ldc2 kjX12_353 dX12_price_3 ?_
  refine V_cS3d hM cvX12_5 (e_X12_in) ⟨Nat.le_of_ble_eq_true rfl, Nat.le_of_ble_eq_true rfl, Nat.le_of_ble_eq_true rfl, Nat.le_of_ble_eq_true rfl⟩ (Nat.le_of_ble_eq_true rfl) dX12_price_6 ?_
  rw [inJ (n := 7) (by decide)]
  refine V_ifeq_b (tgt := 24) dX12_price_9 rfl (fun c9 => ?_) (fun c9 => ?_)
  · refine V_bipush (v := -2) rfl dX12_price_24 ?_
    exact V_iret hM dX12_price_26 (mDet.rf)
  · refine V_iln dX12_price_12 rfl ?_
    refine V_i2l dX12_price_13 ?_
    refine V_lconst (v := 0) rfl dX12_price_14 ?_
    refine V_ldc2 kjX12_355 dX12_price_15 ?_
    refine V_cS3d hM cvX12_5 (e_X12_in) ⟨Nat.le_of_ble_eq_true rfl, Nat.le_of_ble_eq_true rfl, Nat.le_of_ble_eq_true rfl, Nat.le_of_ble_eq_true rfl⟩ (Nat.le_of_ble_eq_true rfl) dX12_price_18 ?_
    rw [inJ (n := 1000) (by decide)]
    refine V_ifne_b (tgt := 27) dX12_price_21 rfl (fun c21 => ?_) (fun c21 => ?_)
    · exact absurd hx (by rw [c9, c21]; decide) --done
    · refine V_bipush (v := -2) rfl dX12_price_24 ?_
      exact V_iret hM dX12_price_26 (mDet.rf)
theorem e_X12_seal {n g : Nat} {d : Int32} (hV : MW sh P) (hn : I 35 32 = nI n) (hn2 : n ≤ 40) (hg : g < n) (hd : inB d 10000 = true) (hs : I 60 g = -1) : Ev X B mdX12_seal 0 0 [.ref (B + 35), .int (nI g), .int d] nx sh I P (mDet (some (.int 1)) nx sh (mUp I 60 g d) P) := by
  have s35 : sh 35 = some (.inl 12) := hV.1 35 _ rfl
  have s_sealed : sh 60 = some (.inr (0, 40)) := hV.1 60 _ rfl
  have p_sealed : P 35 37 = some 60 := hV.2 37 60 rfl
  refine Ev.of (by decide) (by simp [Value.category]) (by simp) (fun G hM => ?_)
  have hM : mM X B "seal" (some FieldType.int) 2 46 0 0 _ G := hM
  show V X B RX12 cX12_seal G 0 0 nx sh I P 0 [some (.ref (B + 35)), some (.int (nI g)), some (.int d)] []
  refine V_aln dX12_seal_0 rfl ?_
  refine V_iln dX12_seal_1 rfl ?_
  refine V_cV1d hM cvX12_298 (by assumption) rfl (e_X12_isGown hV hn (by omega)) ⟨Nat.le_of_ble_eq_true rfl, Nat.le_of_ble_eq_true rfl, Nat.le_of_ble_eq_true rfl, Nat.le_of_ble_eq_true rfl⟩ (Nat.le_of_ble_eq_true rfl) dX12_seal_2 ?_
  rw [inB_of hg (by omega)]
  refine V_ifeq_b (tgt := 15) dX12_seal_5 rfl (fun c5 => ?_) (fun c5 => ?_)
  · exact absurd c5 (by decide) --done
  · refine V_iln dX12_seal_8 rfl ?_
    refine V_cS1d hM cvX12_259 (e_X12_isDay) ⟨Nat.le_of_ble_eq_true rfl, Nat.le_of_ble_eq_true rfl, Nat.le_of_ble_eq_true rfl, Nat.le_of_ble_eq_true rfl⟩ (Nat.le_of_ble_eq_true rfl) dX12_seal_9 ?_
    rw [hd]
    refine V_ifne_b (tgt := 18) dX12_seal_12 rfl (fun c12 => ?_) (fun c12 => ?_)
    · refine V_aln dX12_seal_18 rfl ?_
      refine V_getR dX12_seal_19 flX12_205 (by assumption) rfl (by assumption) ?_
      refine V_iln dX12_seal_22 rfl ?_
      refine V_ialdNv dX12_seal_23 (by assumption) (by omega) (by omega) (hs) ?_
      refine V_iconst (v := -1) rfl dX12_seal_24 ?_
      refine V_icmp_eq (tgt := 31) dX12_seal_25 rfl (fun c25 => ?_) (fun c25 => ?_)
      · refine V_aln dX12_seal_31 rfl ?_
        refine V_getR dX12_seal_32 flX12_205 (by assumption) rfl (by assumption) ?_
        refine V_iln dX12_seal_35 rfl ?_
        refine V_iln dX12_seal_36 rfl ?_
        refine V_iastN dX12_seal_37 (by assumption) (by omega) (by omega) ?_
        refine V_iconst (v := 1) rfl dX12_seal_38 ?_
        exact V_iret hM dX12_seal_39 (mDet.rf)
      · exact absurd rfl c25 --done
    · exact absurd c12 (by decide) --done
theorem e_X12_sealS {n g : Nat} {d : Int32} (hV : MW sh P) (hn : I 35 32 = nI n) (hn2 : n ≤ 40) (hg : g < n) (hd : inB d 10000 = true) (hs : ¬ I 60 g = -1) : Ev X B mdX12_seal 0 0 [.ref (B + 35), .int (nI g), .int d] nx sh I P (mDet (some (.int (-4))) nx sh I P) := by
  have s35 : sh 35 = some (.inl 12) := hV.1 35 _ rfl
  have s_sealed : sh 60 = some (.inr (0, 40)) := hV.1 60 _ rfl
  have p_sealed : P 35 37 = some 60 := hV.2 37 60 rfl
  refine Ev.of (by decide) (by simp [Value.category]) (by simp) (fun G hM => ?_)
  have hM : mM X B "seal" (some FieldType.int) 2 46 0 0 _ G := hM
  show V X B RX12 cX12_seal G 0 0 nx sh I P 0 [some (.ref (B + 35)), some (.int (nI g)), some (.int d)] []
  refine V_aln dX12_seal_0 rfl ?_
  refine V_iln dX12_seal_1 rfl ?_
  refine V_cV1d hM cvX12_298 (by assumption) rfl (e_X12_isGown hV hn (by omega)) ⟨Nat.le_of_ble_eq_true rfl, Nat.le_of_ble_eq_true rfl, Nat.le_of_ble_eq_true rfl, Nat.le_of_ble_eq_true rfl⟩ (Nat.le_of_ble_eq_true rfl) dX12_seal_2 ?_
  rw [inB_of hg (by omega)]
  refine V_ifeq_b (tgt := 15) dX12_seal_5 rfl (fun c5 => ?_) (fun c5 => ?_)
  · exact absurd c5 (by decide) --done
  · refine V_iln dX12_seal_8 rfl ?_
    refine V_cS1d hM cvX12_259 (e_X12_isDay) ⟨Nat.le_of_ble_eq_true rfl, Nat.le_of_ble_eq_true rfl, Nat.le_of_ble_eq_true rfl, Nat.le_of_ble_eq_true rfl⟩ (Nat.le_of_ble_eq_true rfl) dX12_seal_9 ?_
    rw [hd]
    refine V_ifne_b (tgt := 18) dX12_seal_12 rfl (fun c12 => ?_) (fun c12 => ?_)
    · refine V_aln dX12_seal_18 rfl ?_
      refine V_getR dX12_seal_19 flX12_205 (by assumption) rfl (by assumption) ?_
      refine V_iln dX12_seal_22 rfl ?_
      refine V_ialdNv dX12_seal_23 (by assumption) (by omega) (by omega) (rfl) ?_
      refine V_iconst (v := -1) rfl dX12_seal_24 ?_
      refine V_icmp_eq (tgt := 31) dX12_seal_25 rfl (fun c25 => ?_) (fun c25 => ?_)
      · exact absurd c25 hs --done
      · refine V_bipush (v := -4) rfl dX12_seal_28 ?_
        exact V_iret hM dX12_seal_30 (mDet.rf)
    · exact absurd c12 (by decide) --done
theorem e_X12_sealN {n : Nat} {g d : Int32} (hV : MW sh P) (hn : I 35 32 = nI n) (hn2 : n ≤ 40) (hx : (inB g n && inB d 10000) = false) : Ev X B mdX12_seal 0 0 [.ref (B + 35), .int g, .int d] nx sh I P (mDet (some (.int (-2))) nx sh I P) := by
  have s35 : sh 35 = some (.inl 12) := hV.1 35 _ rfl
  have s_sealed : sh 60 = some (.inr (0, 40)) := hV.1 60 _ rfl
  have p_sealed : P 35 37 = some 60 := hV.2 37 60 rfl
  refine Ev.of (by decide) (by simp [Value.category]) (by simp) (fun G hM => ?_)
  have hM : mM X B "seal" (some FieldType.int) 2 46 0 0 _ G := hM
  show V X B RX12 cX12_seal G 0 0 nx sh I P 0 [some (.ref (B + 35)), some (.int g), some (.int d)] []
  refine V_aln dX12_seal_0 rfl ?_
  refine V_iln dX12_seal_1 rfl ?_
  refine V_cV1d hM cvX12_298 (by assumption) rfl (e_X12_isGown hV hn (by omega)) ⟨Nat.le_of_ble_eq_true rfl, Nat.le_of_ble_eq_true rfl, Nat.le_of_ble_eq_true rfl, Nat.le_of_ble_eq_true rfl⟩ (Nat.le_of_ble_eq_true rfl) dX12_seal_2 ?_
  refine V_ifeq_b (tgt := 15) dX12_seal_5 rfl (fun c5 => ?_) (fun c5 => ?_)
  · refine V_bipush (v := -2) rfl dX12_seal_15 ?_
    exact V_iret hM dX12_seal_17 (mDet.rf)
  · refine V_iln dX12_seal_8 rfl ?_
    refine V_cS1d hM cvX12_259 (e_X12_isDay) ⟨Nat.le_of_ble_eq_true rfl, Nat.le_of_ble_eq_true rfl, Nat.le_of_ble_eq_true rfl, Nat.le_of_ble_eq_true rfl⟩ (Nat.le_of_ble_eq_true rfl) dX12_seal_9 ?_
    refine V_ifne_b (tgt := 18) dX12_seal_12 rfl (fun c12 => ?_) (fun c12 => ?_)
    · exact absurd hx (by rw [c5, c12]; decide) --done
    · refine V_bipush (v := -2) rfl dX12_seal_15 ?_
      exact V_iret hM dX12_seal_17 (mDet.rf)
end MZ
