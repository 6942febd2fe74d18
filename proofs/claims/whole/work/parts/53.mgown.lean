/-! ===== the reference's gown and about ===== -/
section MGo
variable {X : mX} {B nx : Nat} {sh : Nat → Option mSh} {I : mI} {P : mP}
theorem nI_5 (p c : Nat) : 5 * nI p + nI c = nI (5 * p + c) := by rw [show (5 : Int32) = nI 5 from rfl, nI_mul, nI_add]
theorem nI_5m (p : Nat) : 5 * nI p = nI (5 * p) := by rw [show (5 : Int32) = nI 5 from rfl, nI_mul]
def mGnM (I : mI) (n : Nat) (a b c d e s k : Int32) : mI := mUp (mUp (mUp (mUp (mUp (mUp (mUp (mUp (mUp I 57 (5 * n) a) 57 (5 * n + 1) b) 57 (5 * n + 2) c) 57 (5 * n + 3) d) 57 (5 * n + 4) e) 58 n s) 59 n k) 60 n (-1)) 35 32 (nI (n + 1))
def mGnC (a b c d e s k : Int32) : Bool := inB a 10000 && inB b 10000 && inB c 10000 && inB d 10000 && inB e 10000 && inB s 16 && inB k 8
theorem mUp57 {j : Nat} {x v : Int32} {c : Nat} {I' : mI} (hc : c ≠ 35) (h : I' 35 32 = v) : mUp I' c j x 35 32 = v := (mUp_c (fun h => hc h.symm)).trans h
theorem e_X12_gown {n : Nat} {a b c d e s k : Int32} (hV : MW sh P) (hn : I 35 32 = nI n) (hn2 : n < 40) (hx : mGnC a b c d e s k = true) : Ev X B mdX12_gown 0 0 [.ref (B + 35), .int a, .int b, .int c, .int d, .int e, .int s, .int k] nx sh I P (mDet (some (.int (nI n))) nx sh (mGnM I n a b c d e s k) P) := by
  have s35 : sh 35 = some (.inl 12) := hV.1 35 _ rfl
  have s_measure : sh 57 = some (.inr (0, 200)) := hV.1 57 _ rfl
  have p_measure : P 35 34 = some 57 := hV.2 34 57 rfl
  have s_stuff : sh 58 = some (.inr (0, 40)) := hV.1 58 _ rfl
  have p_stuff : P 35 35 = some 58 := hV.2 35 58 rfl
  have s_colour : sh 59 = some (.inr (0, 40)) := hV.1 59 _ rfl
  have p_colour : P 35 36 = some 59 := hV.2 36 59 rfl
  have s_sealed : sh 60 = some (.inr (0, 40)) := hV.1 60 _ rfl
  have p_sealed : P 35 37 = some 60 := hV.2 37 60 rfl
  simp only [mGnC, Bool.and_eq_true] at hx
  obtain ⟨⟨⟨⟨⟨⟨ha, hb⟩, hc⟩, hd⟩, he⟩, hs⟩, hk⟩ := hx
  refine Ev.of (by decide) (by simp [Value.category]) (by simp) (fun G hM => ?_)
  have hM : mM X B "gown" (some FieldType.int) 1 25 0 0 _ G := hM
  show V X B RX12 cX12_gown G 0 0 nx sh I P 0 [some (.ref (B + 35)), some (.int a), some (.int b), some (.int c), some (.int d), some (.int e), some (.int s), some (.int k), none, none] []
  refine V_iln dX12_gown_0 rfl ?_
  refine V_i2l dX12_gown_1 ?_
  refine V_lconst (v := 0) rfl dX12_gown_2 ?_
  refine V_ldc2 kjX12_3 dX12_gown_3 ?_
  refine V_cS3d hM cvX12_5 (e_X12_in) ⟨Nat.le_of_ble_eq_true rfl, Nat.le_of_ble_eq_true rfl, Nat.le_of_ble_eq_true rfl, Nat.le_of_ble_eq_true rfl⟩ (Nat.le_of_ble_eq_true rfl) dX12_gown_6 ?_
  rw [inJ (n := 10000) rfl, ha]
  refine V_ifeq_b (tgt := 66) dX12_gown_9 rfl (fun c9 => ?_) (fun c9 => ?_)
  · exact absurd c9 (by decide) --done
  · refine V_iln dX12_gown_12 rfl ?_
    refine V_i2l dX12_gown_13 ?_
    refine V_lconst (v := 0) rfl dX12_gown_14 ?_
    refine V_ldc2 kjX12_3 dX12_gown_15 ?_
    refine V_cS3d hM cvX12_5 (e_X12_in) ⟨Nat.le_of_ble_eq_true rfl, Nat.le_of_ble_eq_true rfl, Nat.le_of_ble_eq_true rfl, Nat.le_of_ble_eq_true rfl⟩ (Nat.le_of_ble_eq_true rfl) dX12_gown_18 ?_
    rw [inJ (n := 10000) rfl, hb]
    refine V_ifeq_b (tgt := 66) dX12_gown_21 rfl (fun c21 => ?_) (fun c21 => ?_)
    · exact absurd c21 (by decide) --done
    · refine V_iln dX12_gown_24 rfl ?_
      refine V_i2l dX12_gown_25 ?_
      refine V_lconst (v := 0) rfl dX12_gown_26 ?_
      refine V_ldc2 kjX12_3 dX12_gown_27 ?_
      refine V_cS3d hM cvX12_5 (e_X12_in) ⟨Nat.le_of_ble_eq_true rfl, Nat.le_of_ble_eq_true rfl, Nat.le_of_ble_eq_true rfl, Nat.le_of_ble_eq_true rfl⟩ (Nat.le_of_ble_eq_true rfl) dX12_gown_30 ?_
      rw [inJ (n := 10000) rfl, hc]
      refine V_ifeq_b (tgt := 66) dX12_gown_33 rfl (fun c33 => ?_) (fun c33 => ?_)
      · exact absurd c33 (by decide) --done
      · refine V_il dX12_gown_36 rfl ?_
        refine V_i2l dX12_gown_38 ?_
        refine V_lconst (v := 0) rfl dX12_gown_39 ?_
        refine V_ldc2 kjX12_3 dX12_gown_40 ?_
        refine V_cS3d hM cvX12_5 (e_X12_in) ⟨Nat.le_of_ble_eq_true rfl, Nat.le_of_ble_eq_true rfl, Nat.le_of_ble_eq_true rfl, Nat.le_of_ble_eq_true rfl⟩ (Nat.le_of_ble_eq_true rfl) dX12_gown_43 ?_
        rw [inJ (n := 10000) rfl, hd]
        refine V_ifeq_b (tgt := 66) dX12_gown_46 rfl (fun c46 => ?_) (fun c46 => ?_)
        · exact absurd c46 (by decide) --done
        · refine V_il dX12_gown_49 rfl ?_
          refine V_i2l dX12_gown_51 ?_
          refine V_lconst (v := 0) rfl dX12_gown_52 ?_
          refine V_ldc2 kjX12_3 dX12_gown_53 ?_
          refine V_cS3d hM cvX12_5 (e_X12_in) ⟨Nat.le_of_ble_eq_true rfl, Nat.le_of_ble_eq_true rfl, Nat.le_of_ble_eq_true rfl, Nat.le_of_ble_eq_true rfl⟩ (Nat.le_of_ble_eq_true rfl) dX12_gown_56 ?_
          rw [inJ (n := 10000) rfl, he]
          refine V_ifeq_b (tgt := 66) dX12_gown_59 rfl (fun c59 => ?_) (fun c59 => ?_)
          · exact absurd c59 (by decide) --done
          · refine V_iconst (v := 1) rfl dX12_gown_62 ?_
            refine V_goto (tgt := 67) dX12_gown_63 rfl ?_
            refine V_is8 dX12_gown_67 ?_
            refine V_il dX12_gown_69 rfl ?_
            refine V_if_eq (tgt := 100) dX12_gown_71 rfl (fun h => absurd h (by decide)) (fun _ => ?_)
            refine V_il dX12_gown_74 rfl ?_
            refine V_i2l dX12_gown_76 ?_
            refine V_lconst (v := 0) rfl dX12_gown_77 ?_
            refine V_ldc2 kjX12_291 dX12_gown_78 ?_
            refine V_cS3d hM cvX12_5 (e_X12_in) ⟨Nat.le_of_ble_eq_true rfl, Nat.le_of_ble_eq_true rfl, Nat.le_of_ble_eq_true rfl, Nat.le_of_ble_eq_true rfl⟩ (Nat.le_of_ble_eq_true rfl) dX12_gown_81 ?_
            rw [inJ (n := 16) rfl, hs]
            refine V_ifeq_b (tgt := 100) dX12_gown_84 rfl (fun c84 => ?_) (fun c84 => ?_)
            · exact absurd c84 (by decide) --done
            · refine V_il dX12_gown_87 rfl ?_
              refine V_i2l dX12_gown_89 ?_
              refine V_lconst (v := 0) rfl dX12_gown_90 ?_
              refine V_ldc2 kjX12_293 dX12_gown_91 ?_
              refine V_cS3d hM cvX12_5 (e_X12_in) ⟨Nat.le_of_ble_eq_true rfl, Nat.le_of_ble_eq_true rfl, Nat.le_of_ble_eq_true rfl, Nat.le_of_ble_eq_true rfl⟩ (Nat.le_of_ble_eq_true rfl) dX12_gown_94 ?_
              rw [inJ (n := 8) rfl, hk]
              refine V_ifne_b (tgt := 103) dX12_gown_97 rfl (fun c97 => ?_) (fun c97 => ?_)
              · refine V_aln dX12_gown_103 rfl ?_
                refine V_getIv dX12_gown_104 flX12_295 (by assumption) rfl (hn) ?_
                refine V_bipush (v := 40) rfl dX12_gown_107 ?_
                refine V_icmp_ne (tgt := 115) dX12_gown_109 rfl (fun c109 => ?_) (fun c109 => ?_)
                · refine V_iconst (v := 5) rfl dX12_gown_115 ?_
                  refine V_aln dX12_gown_116 rfl ?_
                  refine V_getIv dX12_gown_117 flX12_295 (by assumption) rfl (hn) ?_
                  refine V_imul dX12_gown_120 ?_
                  refine V_top (nI_5m n) ?_
                  refine V_is9 dX12_gown_121 ?_
                  refine V_aln dX12_gown_123 rfl ?_
                  refine V_getR dX12_gown_124 flX12_198 (by assumption) rfl (by assumption) ?_
                  refine V_il dX12_gown_127 rfl ?_
                  refine V_iln dX12_gown_129 rfl ?_
                  refine V_iastN dX12_gown_130 (by assumption) (by omega) (by omega) ?_
                  refine V_aln dX12_gown_131 rfl ?_
                  refine V_getR dX12_gown_132 flX12_198 (by assumption) rfl (by assumption) ?_
                  refine V_il dX12_gown_135 rfl ?_
                  refine V_iconst (v := 1) rfl dX12_gown_137 ?_
                  refine V_iadd dX12_gown_138 ?_
                  refine V_top (show nI (5 * n) + 1 = nI (5 * n + 1) from nI_add _ 1) ?_
                  refine V_iln dX12_gown_139 rfl ?_
                  refine V_iastN dX12_gown_140 (by assumption) (by omega) (by omega) ?_
                  refine V_aln dX12_gown_141 rfl ?_
                  refine V_getR dX12_gown_142 flX12_198 (by assumption) rfl (by assumption) ?_
                  refine V_il dX12_gown_145 rfl ?_
                  refine V_iconst (v := 2) rfl dX12_gown_147 ?_
                  refine V_iadd dX12_gown_148 ?_
                  refine V_top (show nI (5 * n) + 2 = nI (5 * n + 2) from nI_add _ 2) ?_
                  refine V_iln dX12_gown_149 rfl ?_
                  refine V_iastN dX12_gown_150 (by assumption) (by omega) (by omega) ?_
                  refine V_aln dX12_gown_151 rfl ?_
                  refine V_getR dX12_gown_152 flX12_198 (by assumption) rfl (by assumption) ?_
                  refine V_il dX12_gown_155 rfl ?_
                  refine V_iconst (v := 3) rfl dX12_gown_157 ?_
                  refine V_iadd dX12_gown_158 ?_
                  refine V_top (show nI (5 * n) + 3 = nI (5 * n + 3) from nI_add _ 3) ?_
                  refine V_il dX12_gown_159 rfl ?_
                  refine V_iastN dX12_gown_161 (by assumption) (by omega) (by omega) ?_
                  refine V_aln dX12_gown_162 rfl ?_
                  refine V_getR dX12_gown_163 flX12_198 (by assumption) rfl (by assumption) ?_
                  refine V_il dX12_gown_166 rfl ?_
                  refine V_iconst (v := 4) rfl dX12_gown_168 ?_
                  refine V_iadd dX12_gown_169 ?_
                  refine V_top (show nI (5 * n) + 4 = nI (5 * n + 4) from nI_add _ 4) ?_
                  refine V_il dX12_gown_170 rfl ?_
                  refine V_iastN dX12_gown_172 (by assumption) (by omega) (by omega) ?_
                  refine V_aln dX12_gown_173 rfl ?_
                  refine V_getR dX12_gown_174 flX12_201 (by assumption) rfl (by assumption) ?_
                  refine V_aln dX12_gown_177 rfl ?_
                  refine V_getIv dX12_gown_178 flX12_295 (by assumption) rfl (mUp57 (by decide) (mUp57 (by decide) (mUp57 (by decide) (mUp57 (by decide) (mUp57 (by decide) hn))))) ?_
                  refine V_il dX12_gown_181 rfl ?_
                  refine V_iastN dX12_gown_183 (by assumption) (by omega) (by omega) ?_
                  refine V_aln dX12_gown_184 rfl ?_
                  refine V_getR dX12_gown_185 flX12_203 (by assumption) rfl (by assumption) ?_
                  refine V_aln dX12_gown_188 rfl ?_
                  refine V_getIv dX12_gown_189 flX12_295 (by assumption) rfl (mUp57 (by decide) (mUp57 (by decide) (mUp57 (by decide) (mUp57 (by decide) (mUp57 (by decide) (mUp57 (by decide) hn)))))) ?_
                  refine V_il dX12_gown_192 rfl ?_
                  refine V_iastN dX12_gown_194 (by assumption) (by omega) (by omega) ?_
                  refine V_aln dX12_gown_195 rfl ?_
                  refine V_getR dX12_gown_196 flX12_205 (by assumption) rfl (by assumption) ?_
                  refine V_aln dX12_gown_199 rfl ?_
                  refine V_getIv dX12_gown_200 flX12_295 (by assumption) rfl (mUp57 (by decide) (mUp57 (by decide) (mUp57 (by decide) (mUp57 (by decide) (mUp57 (by decide) (mUp57 (by decide) (mUp57 (by decide) hn))))))) ?_
                  refine V_iconst (v := -1) rfl dX12_gown_203 ?_
                  refine V_iastN dX12_gown_204 (by assumption) (by omega) (by omega) ?_
                  refine V_aln dX12_gown_205 rfl ?_
                  refine V_dup rfl dX12_gown_206 ?_
                  refine V_getIv dX12_gown_207 flX12_295 (by assumption) rfl (mUp57 (by decide) (mUp57 (by decide) (mUp57 (by decide) (mUp57 (by decide) (mUp57 (by decide) (mUp57 (by decide) (mUp57 (by decide) (mUp57 (by decide) hn)))))))) ?_
                  refine V_iconst (v := 1) rfl dX12_gown_210 ?_
                  refine V_iadd dX12_gown_211 ?_
                  refine V_top (nI_inc' n) ?_
                  refine V_putI dX12_gown_212 flX12_295 (by assumption) rfl rfl ?_
                  refine V_aln dX12_gown_215 rfl ?_
                  refine V_getIv dX12_gown_216 flX12_295 (by assumption) rfl (mUp_s) ?_
                  refine V_iconst (v := 1) rfl dX12_gown_219 ?_
                  refine V_isub dX12_gown_220 ?_
                  refine V_top (show nI (n + 1) - 1 = nI n from (pk_sub (a := n + 1) (b := 1) (by omega))) ?_
                  exact V_iret hM dX12_gown_221 (mDet.rf)
                · exfalso
                  have := nI_eqN (a := n) (b := 40) (by omega) (by decide) (by first | exact c109 | exact Classical.not_not.mp c109)
                  omega --done
              · exact absurd c97 (by decide) --done
theorem e_X12_gownF {a b c d e s k : Int32} (hV : MW sh P) (hn : I 35 32 = nI 40) (hx : mGnC a b c d e s k = true) : Ev X B mdX12_gown 0 0 [.ref (B + 35), .int a, .int b, .int c, .int d, .int e, .int s, .int k] nx sh I P (mDet (some (.int (-3))) nx sh I P) := by
  have s35 : sh 35 = some (.inl 12) := hV.1 35 _ rfl
  simp only [mGnC, Bool.and_eq_true] at hx
  obtain ⟨⟨⟨⟨⟨⟨ha, hb⟩, hc⟩, hd⟩, he⟩, hs⟩, hk⟩ := hx
  refine Ev.of (by decide) (by simp [Value.category]) (by simp) (fun G hM => ?_)
  have hM : mM X B "gown" (some FieldType.int) 1 25 0 0 _ G := hM
  show V X B RX12 cX12_gown G 0 0 nx sh I P 0 [some (.ref (B + 35)), some (.int a), some (.int b), some (.int c), some (.int d), some (.int e), some (.int s), some (.int k), none, none] []
  refine V_iln dX12_gown_0 rfl ?_
  refine V_i2l dX12_gown_1 ?_
  refine V_lconst (v := 0) rfl dX12_gown_2 ?_
  refine V_ldc2 kjX12_3 dX12_gown_3 ?_
  refine V_cS3d hM cvX12_5 (e_X12_in) ⟨Nat.le_of_ble_eq_true rfl, Nat.le_of_ble_eq_true rfl, Nat.le_of_ble_eq_true rfl, Nat.le_of_ble_eq_true rfl⟩ (Nat.le_of_ble_eq_true rfl) dX12_gown_6 ?_
  rw [inJ (n := 10000) rfl, ha]
  refine V_ifeq_b (tgt := 66) dX12_gown_9 rfl (fun c9 => ?_) (fun c9 => ?_)
  · exact absurd c9 (by decide) --done
  · refine V_iln dX12_gown_12 rfl ?_
    refine V_i2l dX12_gown_13 ?_
    refine V_lconst (v := 0) rfl dX12_gown_14 ?_
    refine V_ldc2 kjX12_3 dX12_gown_15 ?_
    refine V_cS3d hM cvX12_5 (e_X12_in) ⟨Nat.le_of_ble_eq_true rfl, Nat.le_of_ble_eq_true rfl, Nat.le_of_ble_eq_true rfl, Nat.le_of_ble_eq_true rfl⟩ (Nat.le_of_ble_eq_true rfl) dX12_gown_18 ?_
    rw [inJ (n := 10000) rfl, hb]
    refine V_ifeq_b (tgt := 66) dX12_gown_21 rfl (fun c21 => ?_) (fun c21 => ?_)
    · exact absurd c21 (by decide) --done
    · refine V_iln dX12_gown_24 rfl ?_
      refine V_i2l dX12_gown_25 ?_
      refine V_lconst (v := 0) rfl dX12_gown_26 ?_
      refine V_ldc2 kjX12_3 dX12_gown_27 ?_
      refine V_cS3d hM cvX12_5 (e_X12_in) ⟨Nat.le_of_ble_eq_true rfl, Nat.le_of_ble_eq_true rfl, Nat.le_of_ble_eq_true rfl, Nat.le_of_ble_eq_true rfl⟩ (Nat.le_of_ble_eq_true rfl) dX12_gown_30 ?_
      rw [inJ (n := 10000) rfl, hc]
      refine V_ifeq_b (tgt := 66) dX12_gown_33 rfl (fun c33 => ?_) (fun c33 => ?_)
      · exact absurd c33 (by decide) --done
      · refine V_il dX12_gown_36 rfl ?_
        refine V_i2l dX12_gown_38 ?_
        refine V_lconst (v := 0) rfl dX12_gown_39 ?_
        refine V_ldc2 kjX12_3 dX12_gown_40 ?_
        refine V_cS3d hM cvX12_5 (e_X12_in) ⟨Nat.le_of_ble_eq_true rfl, Nat.le_of_ble_eq_true rfl, Nat.le_of_ble_eq_true rfl, Nat.le_of_ble_eq_true rfl⟩ (Nat.le_of_ble_eq_true rfl) dX12_gown_43 ?_
        rw [inJ (n := 10000) rfl, hd]
        refine V_ifeq_b (tgt := 66) dX12_gown_46 rfl (fun c46 => ?_) (fun c46 => ?_)
        · exact absurd c46 (by decide) --done
        · refine V_il dX12_gown_49 rfl ?_
          refine V_i2l dX12_gown_51 ?_
          refine V_lconst (v := 0) rfl dX12_gown_52 ?_
          refine V_ldc2 kjX12_3 dX12_gown_53 ?_
          refine V_cS3d hM cvX12_5 (e_X12_in) ⟨Nat.le_of_ble_eq_true rfl, Nat.le_of_ble_eq_true rfl, Nat.le_of_ble_eq_true rfl, Nat.le_of_ble_eq_true rfl⟩ (Nat.le_of_ble_eq_true rfl) dX12_gown_56 ?_
          rw [inJ (n := 10000) rfl, he]
          refine V_ifeq_b (tgt := 66) dX12_gown_59 rfl (fun c59 => ?_) (fun c59 => ?_)
          · exact absurd c59 (by decide) --done
          · refine V_iconst (v := 1) rfl dX12_gown_62 ?_
            refine V_goto (tgt := 67) dX12_gown_63 rfl ?_
            refine V_is8 dX12_gown_67 ?_
            refine V_il dX12_gown_69 rfl ?_
            refine V_if_eq (tgt := 100) dX12_gown_71 rfl (fun h => absurd h (by decide)) (fun _ => ?_)
            refine V_il dX12_gown_74 rfl ?_
            refine V_i2l dX12_gown_76 ?_
            refine V_lconst (v := 0) rfl dX12_gown_77 ?_
            refine V_ldc2 kjX12_291 dX12_gown_78 ?_
            refine V_cS3d hM cvX12_5 (e_X12_in) ⟨Nat.le_of_ble_eq_true rfl, Nat.le_of_ble_eq_true rfl, Nat.le_of_ble_eq_true rfl, Nat.le_of_ble_eq_true rfl⟩ (Nat.le_of_ble_eq_true rfl) dX12_gown_81 ?_
            rw [inJ (n := 16) rfl, hs]
            refine V_ifeq_b (tgt := 100) dX12_gown_84 rfl (fun c84 => ?_) (fun c84 => ?_)
            · exact absurd c84 (by decide) --done
            · refine V_il dX12_gown_87 rfl ?_
              refine V_i2l dX12_gown_89 ?_
              refine V_lconst (v := 0) rfl dX12_gown_90 ?_
              refine V_ldc2 kjX12_293 dX12_gown_91 ?_
              refine V_cS3d hM cvX12_5 (e_X12_in) ⟨Nat.le_of_ble_eq_true rfl, Nat.le_of_ble_eq_true rfl, Nat.le_of_ble_eq_true rfl, Nat.le_of_ble_eq_true rfl⟩ (Nat.le_of_ble_eq_true rfl) dX12_gown_94 ?_
              rw [inJ (n := 8) rfl, hk]
              refine V_ifne_b (tgt := 103) dX12_gown_97 rfl (fun c97 => ?_) (fun c97 => ?_)
              · refine V_aln dX12_gown_103 rfl ?_
                refine V_getIv dX12_gown_104 flX12_295 (by assumption) rfl (hn) ?_
                refine V_bipush (v := 40) rfl dX12_gown_107 ?_
                refine V_icmp_ne (tgt := 115) dX12_gown_109 rfl (fun c109 => ?_) (fun c109 => ?_)
                · exact absurd rfl c109 --done
                · refine V_bipush (v := -3) rfl dX12_gown_112 ?_
                  exact V_iret hM dX12_gown_114 (mDet.rf)
              · exact absurd c97 (by decide) --done
theorem e_X12_gownN {a b c d e s k : Int32} (hV : MW sh P) (hx : mGnC a b c d e s k = false) : Ev X B mdX12_gown 0 0 [.ref (B + 35), .int a, .int b, .int c, .int d, .int e, .int s, .int k] nx sh I P (mDet (some (.int (-2))) nx sh I P) := by
  have s35 : sh 35 = some (.inl 12) := hV.1 35 _ rfl
  refine Ev.of (by decide) (by simp [Value.category]) (by simp) (fun G hM => ?_)
  have hM : mM X B "gown" (some FieldType.int) 1 25 0 0 _ G := hM
  show V X B RX12 cX12_gown G 0 0 nx sh I P 0 [some (.ref (B + 35)), some (.int a), some (.int b), some (.int c), some (.int d), some (.int e), some (.int s), some (.int k), none, none] []
  refine V_iln dX12_gown_0 rfl ?_
  refine V_i2l dX12_gown_1 ?_
  refine V_lconst (v := 0) rfl dX12_gown_2 ?_
  refine V_ldc2 kjX12_3 dX12_gown_3 ?_
  refine V_cS3d hM cvX12_5 (e_X12_in) ⟨Nat.le_of_ble_eq_true rfl, Nat.le_of_ble_eq_true rfl, Nat.le_of_ble_eq_true rfl, Nat.le_of_ble_eq_true rfl⟩ (Nat.le_of_ble_eq_true rfl) dX12_gown_6 ?_
  rw [inJ (n := 10000) rfl]
  refine V_ifeq_b (tgt := 66) dX12_gown_9 rfl (fun c9 => ?_) (fun c9 => ?_)
  · refine V_iconst (v := 0) rfl dX12_gown_66 ?_
    refine V_is8 dX12_gown_67 ?_
    refine V_il dX12_gown_69 rfl ?_
    refine V_if_eq (tgt := 100) dX12_gown_71 rfl (fun _ => ?_) (fun h => absurd rfl h)
    refine V_bipush (v := -2) rfl dX12_gown_100 ?_
    exact V_iret hM dX12_gown_102 (mDet.rf)
  · refine V_iln dX12_gown_12 rfl ?_
    refine V_i2l dX12_gown_13 ?_
    refine V_lconst (v := 0) rfl dX12_gown_14 ?_
    refine V_ldc2 kjX12_3 dX12_gown_15 ?_
    refine V_cS3d hM cvX12_5 (e_X12_in) ⟨Nat.le_of_ble_eq_true rfl, Nat.le_of_ble_eq_true rfl, Nat.le_of_ble_eq_true rfl, Nat.le_of_ble_eq_true rfl⟩ (Nat.le_of_ble_eq_true rfl) dX12_gown_18 ?_
    rw [inJ (n := 10000) rfl]
    refine V_ifeq_b (tgt := 66) dX12_gown_21 rfl (fun c21 => ?_) (fun c21 => ?_)
    · refine V_iconst (v := 0) rfl dX12_gown_66 ?_
      refine V_is8 dX12_gown_67 ?_
      refine V_il dX12_gown_69 rfl ?_
      refine V_if_eq (tgt := 100) dX12_gown_71 rfl (fun _ => ?_) (fun h => absurd rfl h)
      refine V_bipush (v := -2) rfl dX12_gown_100 ?_
      exact V_iret hM dX12_gown_102 (mDet.rf)
    · refine V_iln dX12_gown_24 rfl ?_
      refine V_i2l dX12_gown_25 ?_
      refine V_lconst (v := 0) rfl dX12_gown_26 ?_
      refine V_ldc2 kjX12_3 dX12_gown_27 ?_
      refine V_cS3d hM cvX12_5 (e_X12_in) ⟨Nat.le_of_ble_eq_true rfl, Nat.le_of_ble_eq_true rfl, Nat.le_of_ble_eq_true rfl, Nat.le_of_ble_eq_true rfl⟩ (Nat.le_of_ble_eq_true rfl) dX12_gown_30 ?_
      rw [inJ (n := 10000) rfl]
      refine V_ifeq_b (tgt := 66) dX12_gown_33 rfl (fun c33 => ?_) (fun c33 => ?_)
      · refine V_iconst (v := 0) rfl dX12_gown_66 ?_
        refine V_is8 dX12_gown_67 ?_
        refine V_il dX12_gown_69 rfl ?_
        refine V_if_eq (tgt := 100) dX12_gown_71 rfl (fun _ => ?_) (fun h => absurd rfl h)
        refine V_bipush (v := -2) rfl dX12_gown_100 ?_
        exact V_iret hM dX12_gown_102 (mDet.rf)
      · refine V_il dX12_gown_36 rfl ?_
        refine V_i2l dX12_gown_38 ?_
        refine V_lconst (v := 0) rfl dX12_gown_39 ?_
        refine V_ldc2 kjX12_3 dX12_gown_40 ?_
        refine V_cS3d hM cvX12_5 (e_X12_in) ⟨Nat.le_of_ble_eq_true rfl, Nat.le_of_ble_eq_true rfl, Nat.le_of_ble_eq_true rfl, Nat.le_of_ble_eq_true rfl⟩ (Nat.le_of_ble_eq_true rfl) dX12_gown_43 ?_
        rw [inJ (n := 10000) rfl]
        refine V_ifeq_b (tgt := 66) dX12_gown_46 rfl (fun c46 => ?_) (fun c46 => ?_)
        · refine V_iconst (v := 0) rfl dX12_gown_66 ?_
          refine V_is8 dX12_gown_67 ?_
          refine V_il dX12_gown_69 rfl ?_
          refine V_if_eq (tgt := 100) dX12_gown_71 rfl (fun _ => ?_) (fun h => absurd rfl h)
          refine V_bipush (v := -2) rfl dX12_gown_100 ?_
          exact V_iret hM dX12_gown_102 (mDet.rf)
        · refine V_il dX12_gown_49 rfl ?_
          refine V_i2l dX12_gown_51 ?_
          refine V_lconst (v := 0) rfl dX12_gown_52 ?_
          refine V_ldc2 kjX12_3 dX12_gown_53 ?_
          refine V_cS3d hM cvX12_5 (e_X12_in) ⟨Nat.le_of_ble_eq_true rfl, Nat.le_of_ble_eq_true rfl, Nat.le_of_ble_eq_true rfl, Nat.le_of_ble_eq_true rfl⟩ (Nat.le_of_ble_eq_true rfl) dX12_gown_56 ?_
          rw [inJ (n := 10000) rfl]
          refine V_ifeq_b (tgt := 66) dX12_gown_59 rfl (fun c59 => ?_) (fun c59 => ?_)
          · refine V_iconst (v := 0) rfl dX12_gown_66 ?_
            refine V_is8 dX12_gown_67 ?_
            refine V_il dX12_gown_69 rfl ?_
            refine V_if_eq (tgt := 100) dX12_gown_71 rfl (fun _ => ?_) (fun h => absurd rfl h)
            refine V_bipush (v := -2) rfl dX12_gown_100 ?_
            exact V_iret hM dX12_gown_102 (mDet.rf)
          · refine V_iconst (v := 1) rfl dX12_gown_62 ?_
            refine V_goto (tgt := 67) dX12_gown_63 rfl ?_
            refine V_is8 dX12_gown_67 ?_
            refine V_il dX12_gown_69 rfl ?_
            refine V_if_eq (tgt := 100) dX12_gown_71 rfl (fun h => absurd h (by decide)) (fun _ => ?_)
            refine V_il dX12_gown_74 rfl ?_
            refine V_i2l dX12_gown_76 ?_
            refine V_lconst (v := 0) rfl dX12_gown_77 ?_
            refine V_ldc2 kjX12_291 dX12_gown_78 ?_
            refine V_cS3d hM cvX12_5 (e_X12_in) ⟨Nat.le_of_ble_eq_true rfl, Nat.le_of_ble_eq_true rfl, Nat.le_of_ble_eq_true rfl, Nat.le_of_ble_eq_true rfl⟩ (Nat.le_of_ble_eq_true rfl) dX12_gown_81 ?_
            rw [inJ (n := 16) rfl]
            refine V_ifeq_b (tgt := 100) dX12_gown_84 rfl (fun c84 => ?_) (fun c84 => ?_)
            · refine V_bipush (v := -2) rfl dX12_gown_100 ?_
              exact V_iret hM dX12_gown_102 (mDet.rf)
            · refine V_il dX12_gown_87 rfl ?_
              refine V_i2l dX12_gown_89 ?_
              refine V_lconst (v := 0) rfl dX12_gown_90 ?_
              refine V_ldc2 kjX12_293 dX12_gown_91 ?_
              refine V_cS3d hM cvX12_5 (e_X12_in) ⟨Nat.le_of_ble_eq_true rfl, Nat.le_of_ble_eq_true rfl, Nat.le_of_ble_eq_true rfl, Nat.le_of_ble_eq_true rfl⟩ (Nat.le_of_ble_eq_true rfl) dX12_gown_94 ?_
              rw [inJ (n := 8) rfl]
              refine V_ifne_b (tgt := 103) dX12_gown_97 rfl (fun c97 => ?_) (fun c97 => ?_)
              · exact absurd hx (by simp [mGnC, c9, c21, c33, c46, c59, c84, c97]) --done
              · refine V_bipush (v := -2) rfl dX12_gown_100 ?_
                exact V_iret hM dX12_gown_102 (mDet.rf)
def mAbtF (I : mI) (g : Nat) (w : Int32) : Int32 := if w = 5 then I 58 g else if w = 6 then I 59 g else if w = 7 then I 60 g else gMz (fun j => I 57 (5 * g + j)) w
theorem e_X12_about {n g : Nat} {w : Int32} (hV : MW sh P) (hn : I 35 32 = nI n) (hn2 : n ≤ 40) (hg : g < n) : Ev X B mdX12_about 0 0 [.ref (B + 35), .int (nI g), .int w] nx sh I P (mDet (some (.int (mAbtF I g w))) nx sh I P) := by
  have s35 : sh 35 = some (.inl 12) := hV.1 35 _ rfl
  have s_measure : sh 57 = some (.inr (0, 200)) := hV.1 57 _ rfl
  have p_measure : P 35 34 = some 57 := hV.2 34 57 rfl
  have s_stuff : sh 58 = some (.inr (0, 40)) := hV.1 58 _ rfl
  have p_stuff : P 35 35 = some 58 := hV.2 35 58 rfl
  have s_colour : sh 59 = some (.inr (0, 40)) := hV.1 59 _ rfl
  have p_colour : P 35 36 = some 59 := hV.2 36 59 rfl
  have s_sealed : sh 60 = some (.inr (0, 40)) := hV.1 60 _ rfl
  have p_sealed : P 35 37 = some 60 := hV.2 37 60 rfl
  cases hw : inB w 5 with
  | true =>
    obtain ⟨j, hj, rfl⟩ := inB_nI hw (by decide)
    have e5 : ¬ nI j = 5 := fun h => by have := nI_eqN (a := j) (b := 5) (by omega) (by decide) h; omega
    have e6 : ¬ nI j = 6 := fun h => by have := nI_eqN (a := j) (b := 6) (by omega) (by decide) h; omega
    have e7 : ¬ nI j = 7 := fun h => by have := nI_eqN (a := j) (b := 7) (by omega) (by decide) h; omega
    refine Ev.of (by decide) (by simp [Value.category]) (by simp) (fun G hM => ?_)
    have hM : mM X B "about" (some FieldType.int) 2 46 0 0 _ G := hM
    show V X B RX12 cX12_about G 0 0 nx sh I P 0 [some (.ref (B + 35)), some (.int (nI g)), some (.int (nI j))] []
    refine V_aln dX12_about_0 rfl ?_
    refine V_iln dX12_about_1 rfl ?_
    refine V_cV1d hM cvX12_298 (by assumption) rfl (e_X12_isGown hV hn (by omega)) ⟨Nat.le_of_ble_eq_true rfl, Nat.le_of_ble_eq_true rfl, Nat.le_of_ble_eq_true rfl, Nat.le_of_ble_eq_true rfl⟩ (Nat.le_of_ble_eq_true rfl) dX12_about_2 ?_
    rw [inB_of hg (by omega)]
    refine V_ifne_b (tgt := 10) dX12_about_5 rfl (fun c5 => ?_) (fun c5 => ?_)
    · refine V_iln dX12_about_10 rfl ?_
      refine V_i2l dX12_about_11 ?_
      refine V_lconst (v := 0) rfl dX12_about_12 ?_
      refine V_ldc2 kjX12_301 dX12_about_13 ?_
      refine V_cS3d hM cvX12_5 (e_X12_in) ⟨Nat.le_of_ble_eq_true rfl, Nat.le_of_ble_eq_true rfl, Nat.le_of_ble_eq_true rfl, Nat.le_of_ble_eq_true rfl⟩ (Nat.le_of_ble_eq_true rfl) dX12_about_16 ?_
      rw [inJ (n := 5) rfl, hw]
      refine V_ifeq_b (tgt := 33) dX12_about_19 rfl (fun c19 => ?_) (fun c19 => ?_)
      · exact absurd c19 (by decide) --done
      · refine V_aln dX12_about_22 rfl ?_
        refine V_getR dX12_about_23 flX12_198 (by assumption) rfl (by assumption) ?_
        refine V_iconst (v := 5) rfl dX12_about_26 ?_
        refine V_iln dX12_about_27 rfl ?_
        refine V_imul dX12_about_28 ?_
        refine V_iln dX12_about_29 rfl ?_
        refine V_iadd dX12_about_30 ?_
        refine V_top (nI_5 g j) ?_
        refine V_ialdN dX12_about_31 (by assumption) (by omega) (by omega) ?_
        exact V_iret hM dX12_about_32 (⟨by rw [mAbtF, if_neg e5, if_neg e6, if_neg e7, gMz, hw, nI_clamp (by omega)]; rfl, rfl, rfl, rfl, rfl⟩)
    · exact absurd c5 (by decide) --done
  | false =>
    refine Ev.of (by decide) (by simp [Value.category]) (by simp) (fun G hM => ?_)
    have hM : mM X B "about" (some FieldType.int) 2 46 0 0 _ G := hM
    show V X B RX12 cX12_about G 0 0 nx sh I P 0 [some (.ref (B + 35)), some (.int (nI g)), some (.int w)] []
    refine V_aln dX12_about_0 rfl ?_
    refine V_iln dX12_about_1 rfl ?_
    refine V_cV1d hM cvX12_298 (by assumption) rfl (e_X12_isGown hV hn (by omega)) ⟨Nat.le_of_ble_eq_true rfl, Nat.le_of_ble_eq_true rfl, Nat.le_of_ble_eq_true rfl, Nat.le_of_ble_eq_true rfl⟩ (Nat.le_of_ble_eq_true rfl) dX12_about_2 ?_
    rw [inB_of hg (by omega)]
    refine V_ifne_b (tgt := 10) dX12_about_5 rfl (fun c5 => ?_) (fun c5 => ?_)
    · refine V_iln dX12_about_10 rfl ?_
      refine V_i2l dX12_about_11 ?_
      refine V_lconst (v := 0) rfl dX12_about_12 ?_
      refine V_ldc2 kjX12_301 dX12_about_13 ?_
      refine V_cS3d hM cvX12_5 (e_X12_in) ⟨Nat.le_of_ble_eq_true rfl, Nat.le_of_ble_eq_true rfl, Nat.le_of_ble_eq_true rfl, Nat.le_of_ble_eq_true rfl⟩ (Nat.le_of_ble_eq_true rfl) dX12_about_16 ?_
      rw [inJ (n := 5) rfl, hw]
      refine V_ifeq_b (tgt := 33) dX12_about_19 rfl (fun c19 => ?_) (fun c19 => ?_)
      · refine V_iln dX12_about_33 rfl ?_
        refine V_iconst (v := 5) rfl dX12_about_34 ?_
        refine V_icmp_ne (tgt := 47) dX12_about_35 rfl (fun c35 => ?_) (fun c35 => ?_)
        · refine V_iln dX12_about_47 rfl ?_
          refine V_bipush (v := 6) rfl dX12_about_48 ?_
          refine V_icmp_ne (tgt := 62) dX12_about_50 rfl (fun c50 => ?_) (fun c50 => ?_)
          · refine V_iln dX12_about_62 rfl ?_
            refine V_bipush (v := 7) rfl dX12_about_63 ?_
            refine V_icmp_ne (tgt := 77) dX12_about_65 rfl (fun c65 => ?_) (fun c65 => ?_)
            · refine V_iconst (v := -1) rfl dX12_about_77 ?_
              exact V_iret hM dX12_about_78 (⟨by simp [mAbtF, gMz, hw, c5, c19, c35, c50, c65], rfl, rfl, rfl, rfl⟩)
            · refine V_aln dX12_about_68 rfl ?_
              refine V_getR dX12_about_69 flX12_205 (by assumption) rfl (by assumption) ?_
              refine V_iln dX12_about_72 rfl ?_
              refine V_ialdN dX12_about_73 (by assumption) (by omega) (by omega) ?_
              refine V_goto (tgt := 78) dX12_about_74 rfl ?_
              exact V_iret hM dX12_about_78 (⟨by simp [mAbtF, gMz, hw, c5, c19, c35, c50, c65], rfl, rfl, rfl, rfl⟩)
          · refine V_aln dX12_about_53 rfl ?_
            refine V_getR dX12_about_54 flX12_203 (by assumption) rfl (by assumption) ?_
            refine V_iln dX12_about_57 rfl ?_
            refine V_ialdN dX12_about_58 (by assumption) (by omega) (by omega) ?_
            refine V_goto (tgt := 78) dX12_about_59 rfl ?_
            exact V_iret hM dX12_about_78 (⟨by simp [mAbtF, gMz, hw, c5, c19, c35, c50], rfl, rfl, rfl, rfl⟩)
        · refine V_aln dX12_about_38 rfl ?_
          refine V_getR dX12_about_39 flX12_201 (by assumption) rfl (by assumption) ?_
          refine V_iln dX12_about_42 rfl ?_
          refine V_ialdN dX12_about_43 (by assumption) (by omega) (by omega) ?_
          refine V_goto (tgt := 78) dX12_about_44 rfl ?_
          exact V_iret hM dX12_about_78 (⟨by simp [mAbtF, gMz, hw, c5, c19, c35], rfl, rfl, rfl, rfl⟩)
      · exact absurd c19 (by decide) --done
    · exact absurd c5 (by decide) --done
theorem e_X12_aboutN {n : Nat} {g w : Int32} (hV : MW sh P) (hn : I 35 32 = nI n) (hn2 : n ≤ 40) (hg : inB g n = false) : Ev X B mdX12_about 0 0 [.ref (B + 35), .int g, .int w] nx sh I P (mDet (some (.int (-1))) nx sh I P) := by
  have s35 : sh 35 = some (.inl 12) := hV.1 35 _ rfl
  refine Ev.of (by decide) (by simp [Value.category]) (by simp) (fun G hM => ?_)
  have hM : mM X B "about" (some FieldType.int) 2 46 0 0 _ G := hM
  show V X B RX12 cX12_about G 0 0 nx sh I P 0 [some (.ref (B + 35)), some (.int g), some (.int w)] []
  refine V_aln dX12_about_0 rfl ?_
  refine V_iln dX12_about_1 rfl ?_
  refine V_cV1d hM cvX12_298 (by assumption) rfl (e_X12_isGown hV hn (by omega)) ⟨Nat.le_of_ble_eq_true rfl, Nat.le_of_ble_eq_true rfl, Nat.le_of_ble_eq_true rfl, Nat.le_of_ble_eq_true rfl⟩ (Nat.le_of_ble_eq_true rfl) dX12_about_2 ?_
  rw [hg]
  refine V_ifne_b (tgt := 10) dX12_about_5 rfl (fun c5 => ?_) (fun c5 => ?_)
  · exact absurd c5 (by decide) --done
  · refine V_iconst (v := -1) rfl dX12_about_8 ?_
    exact V_iret hM dX12_about_9 (mDet.rf)
end MGo
