/-! ===== the reference's gather, alterOf, alter, best ===== -/
/-- rule k narrows -/
def gaR (I : mI) (k : Nat) : mI := if inB (I 41 k) 5 then mUp I 75 (I 41 k).toNatClampNeg (minF (I 75 (I 41 k).toNatClampNeg) (I 42 k)) else if I 41 k = 5 then mUp I 35 55 (I 35 55 ||| (1 <<< (I 42 k &&& 31))) else if I 41 k = 6 then mUp I 35 56 (I 35 56 ||| (1 <<< (I 42 k &&& 31))) else mUp I 35 56 (I 35 56 ||| ((255 : Int32) &&& ((1 <<< (I 42 k &&& 31)) ^^^ -1)))
def gaA (f : Nat → Bool) (I : mI) (a : Nat) : Nat → mI
  | 0 => I
  | r + 1 => if f (12 * a + r) then gaR (gaA f I a r) (12 * a + r) else gaA f I a r
def gaO (I : mI) : mI := mUp (mUp (mFill I 75 5 9999) 35 55 0) 35 56 0
def gaM (f : Nat → Nat → Bool) (I : mI) : Nat → mI
  | 0 => gaO I
  | a + 1 => gaA (f a) (gaM f I a) a (rmC I a)
/-- what gather leaves alone -/
def gaF (I J : mI) : Prop := (∀ c k, c ≠ 35 → c ≠ 75 → J c k = I c k) ∧ ∀ k, k ≠ 55 → k ≠ 56 → J 35 k = I 35 k
theorem gaF.rf {I : mI} : gaF I I := ⟨fun _ _ _ _ => rfl, fun _ _ _ => rfl⟩
theorem gaF.trans {I J K : mI} (h : gaF I J) (k : gaF J K) : gaF I K := ⟨fun c i h1 h2 => (k.1 c i h1 h2).trans (h.1 c i h1 h2), fun i h1 h2 => (k.2 i h1 h2).trans (h.2 i h1 h2)⟩
theorem gaF_75 {I : mI} {j : Nat} {x : Int32} : gaF I (mUp I 75 j x) := ⟨fun c k h1 h2 => mUp_c h2, fun k h1 h2 => mUp_c (by decide)⟩
theorem gaF_55 {I : mI} {x : Int32} : gaF I (mUp I 35 55 x) := ⟨fun c k h1 h2 => mUp_c h1, fun k h1 h2 => mUp_k h1⟩
theorem gaF_56 {I : mI} {x : Int32} : gaF I (mUp I 35 56 x) := ⟨fun c k h1 h2 => mUp_c h1, fun k h1 h2 => mUp_k h2⟩
theorem gaR_F {I : mI} {k : Nat} : gaF I (gaR I k) := by
  unfold gaR
  split
  · exact gaF_75
  · split
    · exact gaF_55
    · split
      · exact gaF_56
      · exact gaF_56
theorem gaA_F {f : Nat → Bool} {I : mI} {a : Nat} : ∀ r, gaF I (gaA f I a r) := by
  intro r
  induction r with
  | zero => exact gaF.rf
  | succ r ih =>
    unfold gaA
    split
    · exact ih.trans gaR_F
    · exact ih
theorem gaO_F {I : mI} : gaF I (gaO I) := by
  refine gaF.trans (J := mFill I 75 5 9999) ⟨fun c k h1 h2 => ?_, fun k h1 h2 => ?_⟩ (gaF_55.trans gaF_56)
  · simp [mFill, h2]
  · simp [mFill]
theorem gaM_F {f : Nat → Nat → Bool} {I : mI} : ∀ a, gaF I (gaM f I a) := by
  intro a
  induction a with
  | zero => exact gaO_F
  | succ a ih => exact ih.trans (gaA_F _)
section MAl
variable {X : mX} {B nx : Nat} {sh : Nat → Option mSh} {I J : mI} {P : mP} {n ng nl nf : Nat}
theorem gaF.fun {c : Nat} (h : gaF I J) (h1 : c ≠ 35) (h2 : c ≠ 75) : J c = I c := funext fun k => h.1 c k h1 h2
theorem gaF.mj (h : gaF I J) (hJ : MJ sh I P n ng nl nf) : MJ sh J P n ng nl nf := by
  obtain ⟨h1, h2, h3, h4, h5, h6, h7, h8⟩ := hJ
  refine ⟨h1, ⟨by rw [h.2 0 (by decide) (by decide)]; exact h2.1, h2.2⟩, ⟨by rw [h.2 32 (by decide) (by decide)]; exact h3.1, h3.2⟩, ⟨by rw [h.2 33 (by decide) (by decide)]; exact h4.1, h4.2.1, ?_⟩, ⟨by rw [h.2 31 (by decide) (by decide)]; exact h5.1, h5.2⟩, ?_, ?_, ?_⟩
  · intro k hk
    rw [h.fun (c := 61) (by decide) (by decide), h.fun (c := 62) (by decide) (by decide)]
    exact h4.2.2 k hk
  · unfold rmC
    rw [h.fun (c := 37) (by decide) (by decide), h.fun (c := 41) (by decide) (by decide)]
    exact h6
  · rw [h.fun (c := 58) (by decide) (by decide)]
    exact h7
  · unfold crC cwC
    rw [h.fun (c := 49) (by decide) (by decide), h.fun (c := 52) (by decide) (by decide)]
    exact h8
theorem gaF.rk {p : Nat} {day : Int32} (h : gaF I J) : pRk J p day = pRk I p day := by
  unfold pRk mRk crC
  rw [h.fun (c := 49) (by decide) (by decide), h.fun (c := 50) (by decide) (by decide), h.fun (c := 51) (by decide) (by decide)]
theorem gaF.oc {nf p : Nat} {day : Int32} (h : gaF I J) : pOc J nf p day = pOc I nf p day := by
  unfold pOc mOcc cwC
  rw [h.fun (c := 52) (by decide) (by decide), h.fun (c := 53) (by decide) (by decide), h.fun (c := 54) (by decide) (by decide), h.fun (c := 55) (by decide) (by decide), h.fun (c := 56) (by decide) (by decide)]
theorem gaF.bi {a k g : Nat} {rank occ day : Int32} (h : gaF I J) : qBi J n a k rank occ g day = qBi I n a k rank occ g day := by
  unfold qBi qInF qRp
  rw [h.fun (c := 36) (by decide) (by decide), h.fun (c := 40) (by decide) (by decide), h.fun (c := 43) (by decide) (by decide), h.fun (c := 44) (by decide) (by decide), h.fun (c := 45) (by decide) (by decide), h.fun (c := 60) (by decide) (by decide), h.fun (c := 38) (by decide) (by decide)]
theorem gaF.ct {day s : Int32} (h : gaF I J) : mCt J nl day s = mCt I nl day s := by
  unfold mCt mHl mLk
  rw [h.fun (c := 61) (by decide) (by decide), h.fun (c := 62) (by decide) (by decide), h.fun (c := 63) (by decide) (by decide)]
abbrev gaB (I : mI) (n nf p g : Nat) (day : Int32) (a k : Nat) : Bool := qBi I n a k (pRk I p day) (pOc I nf p day) g day
theorem l1_X12_gather {G : mG} {p g : Nat} {day : Int32} (hV : MW sh P)
    (next : ∀ x : Option Value, V X B RX12 cX12_gather G 0 0 nx sh (gaO I) P 38 [some (.ref (B + 35)), some (.int (nI p)), some (.int (nI g)), some (.int day), some (.int (nI 0)), none, none] []) : ∀ (z i : Nat), i ≤ 5 → 5 - i < z → V X B RX12 cX12_gather G 0 0 nx sh (mFill I 75 i 9999) P 3 [some (.ref (B + 35)), some (.int (nI p)), some (.int (nI g)), some (.int day), some (.int (nI i)), none, none] [] := by
  have s35 : sh 35 = some (.inl 12) := hV.1 35 _ rfl
  have s_most : sh 75 = some (.inr (0, 5)) := hV.1 75 _ rfl
  have p_most : P 35 54 = some 75 := hV.2 54 75 rfl
  intro z
  induction z with
  | zero => intro i _ h; omega
  | succ z ih =>
    intro i hi hz
    refine V_il dX12_gather_3 rfl ?_
    refine V_iconst (v := 5) rfl dX12_gather_5 ?_
    refine V_icmp_ge (tgt := 25) dX12_gather_6 rfl (fun c6 => ?_) (fun c6 => ?_)
    · have c6 := nN_le (a := 5) c6 (by omega) (by omega)
      obtain rfl : i = 5 := by omega
      refine V_aln dX12_gather_25 rfl ?_
      refine V_iconst (v := 0) rfl dX12_gather_26 ?_
      refine V_putI dX12_gather_27 flX12_357 (by assumption) rfl rfl ?_
      refine V_aln dX12_gather_30 rfl ?_
      refine V_iconst (v := 0) rfl dX12_gather_31 ?_
      refine V_putI dX12_gather_32 flX12_360 (by assumption) rfl rfl ?_
      refine V_iconst (v := 0) rfl dX12_gather_35 ?_
      refine V_is4 dX12_gather_36 ?_
      exact next none
    · have c6 := nN_nle (a := 5) c6 (by omega) (by omega)
      refine V_aln dX12_gather_9 rfl ?_
      refine V_getR dX12_gather_10 flX12_250 (by assumption) rfl (by assumption) ?_
      refine V_il dX12_gather_13 rfl ?_
      refine V_sipush (v := 9999) rfl dX12_gather_15 ?_
      refine V_iastN dX12_gather_18 (by assumption) (by omega) (by omega) ?_
      refine V_inc4 dX12_gather_19 ?_
      refine V_goto (tgt := 3) dX12_gather_22 rfl ?_
      rw [nI_inc]
      refine V_mem (fun c k => ?_) (fun _ _ => rfl) (ih (i + 1) (by omega) (by omega))
      unfold mUp mFill
      by_cases h1 : c = 75 ∧ k = i
      · rw [if_pos h1, if_pos (by omega)]
      · rw [if_neg h1]
        by_cases h2 : c = 75 ∧ k < i
        · rw [if_pos h2, if_pos (by omega)]
        · rw [if_neg h2, if_neg (by omega)]
theorem gaR_lt {K : mI} {k w : Nat} (hw : K 41 k = nI w) (h : w < 5) : gaR K k = mUp K 75 w (minF (K 75 w) (K 42 k)) := by
  unfold gaR
  rw [hw, inB_of h (by decide), nI_clamp (by omega), if_pos rfl]
theorem gaR_ge {w : Nat} (h : 5 ≤ w) (h8 : w < 8) : inB (nI w) 5 = false := inB_f (by rw [nI_toInt (by omega)]; omega)
theorem gaR_5 {K : mI} {k w : Nat} (hw : K 41 k = nI w) (h : w = 5) : gaR K k = mUp K 35 55 (K 35 55 ||| (1 <<< (K 42 k &&& 31))) := by
  unfold gaR
  rw [hw, gaR_ge (by omega) (by omega), if_neg Bool.false_ne_true, if_pos (show nI w = 5 by rw [h]; rfl)]
theorem gaR_6 {K : mI} {k w : Nat} (hw : K 41 k = nI w) (h : w = 6) : gaR K k = mUp K 35 56 (K 35 56 ||| (1 <<< (K 42 k &&& 31))) := by
  unfold gaR
  rw [hw, gaR_ge (by omega) (by omega), if_neg Bool.false_ne_true, if_neg (show ¬ nI w = 5 by rw [h]; decide), if_pos (show nI w = 6 by rw [h]; rfl)]
theorem gaR_7 {K : mI} {k w : Nat} (hw : K 41 k = nI w) (h : w = 7) : gaR K k = mUp K 35 56 (K 35 56 ||| ((255 : Int32) &&& ((1 <<< (K 42 k &&& 31)) ^^^ -1))) := by
  unfold gaR
  rw [hw, gaR_ge (by omega) (by omega), if_neg Bool.false_ne_true, if_neg (show ¬ nI w = 5 by rw [h]; decide), if_neg (show ¬ nI w = 6 by rw [h]; decide)]
theorem l3_X12_gather {G : mG} {Po : mPo} {p g i : Nat} {day : Int32} (hM : mM X B "gather" none 2 52 0 0 Po G) (hJ : MJ sh I P n ng nl nf) (hp : p < 30) (hg : g < ng) (hi : i < n) (h0 : gaF I J)
    (next : ∀ x5 x6 : Option Value, V X B RX12 cX12_gather G 0 0 nx sh (gaA (gaB I n nf p g day i) J i (rmC I i)) P 38 [some (.ref (B + 35)), some (.int (nI p)), some (.int (nI g)), some (.int day), some (.int (nI (i + 1))), x5, x6] []) : ∀ (z r : Nat) (x6 : Option Value), r ≤ rmC I i → rmC I i - r < z → V X B RX12 cX12_gather G 0 0 nx sh (gaA (gaB I n nf p g day i) J i r) P 50 [some (.ref (B + 35)), some (.int (nI p)), some (.int (nI g)), some (.int day), some (.int (nI i)), some (.int (nI r)), x6] [] := by
  have hV := hJ.1
  have hn2 := hJ.2.1.2
  obtain ⟨hm, hm2, hwk⟩ := hJ.2.2.2.2.2.1 i hi
  have s35 : sh 35 = some (.inl 12) := hV.1 35 _ rfl
  have s_ruleMany : sh 37 = some (.inr (0, 13)) := hV.1 37 _ rfl
  have p_ruleMany : P 35 2 = some 37 := hV.2 2 37 rfl
  have s_what : sh 41 = some (.inr (0, 156)) := hV.1 41 _ rfl
  have p_what : P 35 6 = some 41 := hV.2 6 41 rfl
  have s_number : sh 42 = some (.inr (0, 156)) := hV.1 42 _ rfl
  have p_number : P 35 7 = some 42 := hV.2 7 42 rfl
  have s_most : sh 75 = some (.inr (0, 5)) := hV.1 75 _ rfl
  have p_most : P 35 54 = some 75 := hV.2 54 75 rfl
  intro z
  induction z with
  | zero => intro r _ _ h; omega
  | succ z ih =>
    intro r x6 hr hz
    have hF : gaF I (gaA (gaB I n nf p g day i) J i r) := h0.trans (gaA_F r)
    have hs : gaA (gaB I n nf p g day i) J i (r + 1) = if gaB I n nf p g day i (12 * i + r) then gaR (gaA (gaB I n nf p g day i) J i r) (12 * i + r) else gaA (gaB I n nf p g day i) J i r := rfl
    have ihs : ∀ x6 : Option Value, r < rmC I i → V X B RX12 cX12_gather G 0 0 nx sh (gaA (gaB I n nf p g day i) J i (r + 1)) P 50 [some (.ref (B + 35)), some (.int (nI p)), some (.int (nI g)), some (.int day), some (.int (nI i)), some (.int (nI r + Int32.ofInt 1)), x6] [] := fun x6 hlt => by
      rw [nI_inc]
      exact ih (r + 1) x6 (by omega) (by omega)
    by_cases hlt : r < rmC I i
    · have ihs := fun x6 => ihs x6 hlt
      generalize gaA (gaB I n nf p g day i) J i (r + 1) = K1 at hs ihs
      generalize gaA (gaB I n nf p g day i) J i r = K at hF hs ⊢
      have hK := hF.mj hJ
      have hmK : K 37 i = nI (rmC I i) := (hF.1 37 i (by decide) (by decide)).trans hm
      obtain ⟨w, hw8, hw⟩ := hwk r hlt
      have hwK : K 41 (12 * i + r) = nI w := (hF.1 41 _ (by decide) (by decide)).trans hw
      refine V_il dX12_gather_50 rfl ?_
      refine V_aln dX12_gather_52 rfl ?_
      refine V_getR dX12_gather_53 flX12_88 (by assumption) rfl (by assumption) ?_
      refine V_il dX12_gather_56 rfl ?_
      refine V_ialdNv dX12_gather_58 (by assumption) (by omega) (by omega) (hmK) ?_
      refine V_icmp_ge (tgt := 243) dX12_gather_59 rfl (fun c59 => ?_) (fun c59 => ?_)
      · exact absurd (nN_le c59 (by omega) (by omega)) (by omega) --done
      · refine V_aln dX12_gather_62 rfl ?_
        refine V_il dX12_gather_63 rfl ?_
        refine V_il dX12_gather_65 rfl ?_
        refine V_aln dX12_gather_67 rfl ?_
        refine V_iln dX12_gather_68 rfl ?_
        refine V_iln dX12_gather_69 rfl ?_
        refine V_cV2d hM cvX12_285 (by assumption) rfl (x_rankOf hK hp) ⟨Nat.le_of_ble_eq_true rfl, Nat.le_of_ble_eq_true rfl, Nat.le_of_ble_eq_true rfl, Nat.le_of_ble_eq_true rfl⟩ (Nat.le_of_ble_eq_true rfl) dX12_gather_70 ?_
        rw [hF.rk]
        refine V_aln dX12_gather_73 rfl ?_
        refine V_iln dX12_gather_74 rfl ?_
        refine V_iln dX12_gather_75 rfl ?_
        refine V_cV2d hM cvX12_288 (by assumption) rfl (x_occasionOf hK hp) ⟨Nat.le_of_ble_eq_true rfl, Nat.le_of_ble_eq_true rfl, Nat.le_of_ble_eq_true rfl, Nat.le_of_ble_eq_true rfl⟩ (Nat.le_of_ble_eq_true rfl) dX12_gather_76 ?_
        rw [hF.oc]
        refine V_iln dX12_gather_79 rfl ?_
        refine V_iln dX12_gather_80 rfl ?_
        refine V_cV6d hM cvX12_312 (by assumption) rfl (x_binds hK hi (by omega) hg) ⟨Nat.le_of_ble_eq_true rfl, Nat.le_of_ble_eq_true rfl, Nat.le_of_ble_eq_true rfl, Nat.le_of_ble_eq_true rfl⟩ (Nat.le_of_ble_eq_true rfl) dX12_gather_81 ?_
        rw [hF.bi]
        refine V_ifne_b (tgt := 90) dX12_gather_84 rfl (fun c84 => ?_) (fun c84 => ?_)
        · have c84 : gaB I n nf p g day i (12 * i + r) = true := c84
          rw [c84] at hs
          refine V_bipush (v := 12) rfl dX12_gather_90 ?_
          refine V_il dX12_gather_92 rfl ?_
          refine V_imul dX12_gather_94 ?_
          refine V_il dX12_gather_95 rfl ?_
          refine V_iadd dX12_gather_97 ?_
          refine V_top (nI_12 i r) ?_
          refine V_is6 dX12_gather_98 ?_
          refine V_aln dX12_gather_100 rfl ?_
          refine V_getR dX12_gather_101 flX12_127 (by assumption) rfl (by assumption) ?_
          refine V_il dX12_gather_104 rfl ?_
          refine V_ialdNv dX12_gather_106 (by assumption) (by omega) (by omega) (hwK) ?_
          refine V_iconst (v := 5) rfl dX12_gather_107 ?_
          refine V_icmp_ge (tgt := 148) dX12_gather_108 rfl (fun c108 => ?_) (fun c108 => ?_)
          · have c108 := nN_le (a := 5) c108 (by omega) (by omega)
            refine V_aln dX12_gather_148 rfl ?_
            refine V_getR dX12_gather_149 flX12_127 (by assumption) rfl (by assumption) ?_
            refine V_il dX12_gather_152 rfl ?_
            refine V_ialdNv dX12_gather_154 (by assumption) (by omega) (by omega) (hwK) ?_
            refine V_iconst (v := 5) rfl dX12_gather_155 ?_
            refine V_icmp_ne (tgt := 180) dX12_gather_156 rfl (fun c156 => ?_) (fun c156 => ?_)
            · have c156 : ¬ w = 5 := fun h => c156 (by rw [h]; rfl)
              refine V_aln dX12_gather_180 rfl ?_
              refine V_getR dX12_gather_181 flX12_127 (by assumption) rfl (by assumption) ?_
              refine V_il dX12_gather_184 rfl ?_
              refine V_ialdNv dX12_gather_186 (by assumption) (by omega) (by omega) (hwK) ?_
              refine V_bipush (v := 6) rfl dX12_gather_187 ?_
              refine V_icmp_ne (tgt := 213) dX12_gather_189 rfl (fun c189 => ?_) (fun c189 => ?_)
              · have c189 : ¬ w = 6 := fun h => c189 (by rw [h]; rfl)
                rw [if_pos rfl, gaR_7 hwK (by omega)] at hs
                refine V_aln dX12_gather_213 rfl ?_
                refine V_dup rfl dX12_gather_214 ?_
                refine V_getI dX12_gather_215 flX12_360 (by assumption) rfl ?_
                refine V_sipush (v := 255) rfl dX12_gather_218 ?_
                refine V_iconst (v := 1) rfl dX12_gather_221 ?_
                refine V_aln dX12_gather_222 rfl ?_
                refine V_getR dX12_gather_223 flX12_130 (by assumption) rfl (by assumption) ?_
                refine V_il dX12_gather_226 rfl ?_
                refine V_ialdN dX12_gather_228 (by assumption) (by omega) (by omega) ?_
                refine V_ishl dX12_gather_229 ?_
                refine V_iconst (v := -1) rfl dX12_gather_230 ?_
                refine V_ixor dX12_gather_231 ?_
                refine V_iand dX12_gather_232 ?_
                refine V_ior dX12_gather_233 ?_
                refine V_putI dX12_gather_234 flX12_360 (by assumption) rfl rfl ?_
                refine V_inc5 dX12_gather_237 ?_
                refine V_goto (tgt := 50) dX12_gather_240 rfl ?_
                rw [← hs]
                exact ihs _
              · have c189 := nI_eqN (a := w) (b := 6) (by omega) (by decide) (by first | exact c189 | exact Classical.not_not.mp c189)
                rw [if_pos rfl, gaR_6 hwK c189] at hs
                refine V_aln dX12_gather_192 rfl ?_
                refine V_dup rfl dX12_gather_193 ?_
                refine V_getI dX12_gather_194 flX12_360 (by assumption) rfl ?_
                refine V_iconst (v := 1) rfl dX12_gather_197 ?_
                refine V_aln dX12_gather_198 rfl ?_
                refine V_getR dX12_gather_199 flX12_130 (by assumption) rfl (by assumption) ?_
                refine V_il dX12_gather_202 rfl ?_
                refine V_ialdN dX12_gather_204 (by assumption) (by omega) (by omega) ?_
                refine V_ishl dX12_gather_205 ?_
                refine V_ior dX12_gather_206 ?_
                refine V_putI dX12_gather_207 flX12_360 (by assumption) rfl rfl ?_
                refine V_goto (tgt := 237) dX12_gather_210 rfl ?_
                refine V_inc5 dX12_gather_237 ?_
                refine V_goto (tgt := 50) dX12_gather_240 rfl ?_
                rw [← hs]
                exact ihs _
            · have c156 := nI_eqN (a := w) (b := 5) (by omega) (by decide) (by first | exact c156 | exact Classical.not_not.mp c156)
              rw [if_pos rfl, gaR_5 hwK c156] at hs
              refine V_aln dX12_gather_159 rfl ?_
              refine V_dup rfl dX12_gather_160 ?_
              refine V_getI dX12_gather_161 flX12_357 (by assumption) rfl ?_
              refine V_iconst (v := 1) rfl dX12_gather_164 ?_
              refine V_aln dX12_gather_165 rfl ?_
              refine V_getR dX12_gather_166 flX12_130 (by assumption) rfl (by assumption) ?_
              refine V_il dX12_gather_169 rfl ?_
              refine V_ialdN dX12_gather_171 (by assumption) (by omega) (by omega) ?_
              refine V_ishl dX12_gather_172 ?_
              refine V_ior dX12_gather_173 ?_
              refine V_putI dX12_gather_174 flX12_357 (by assumption) rfl rfl ?_
              refine V_goto (tgt := 237) dX12_gather_177 rfl ?_
              refine V_inc5 dX12_gather_237 ?_
              refine V_goto (tgt := 50) dX12_gather_240 rfl ?_
              rw [← hs]
              exact ihs _
          · have c108 := nN_nle (a := 5) c108 (by omega) (by omega)
            rw [if_pos rfl, gaR_lt hwK c108, minF] at hs
            refine V_aln dX12_gather_111 rfl ?_
            refine V_getR dX12_gather_112 flX12_250 (by assumption) rfl (by assumption) ?_
            refine V_aln dX12_gather_115 rfl ?_
            refine V_getR dX12_gather_116 flX12_127 (by assumption) rfl (by assumption) ?_
            refine V_il dX12_gather_119 rfl ?_
            refine V_ialdNv dX12_gather_121 (by assumption) (by omega) (by omega) (hwK) ?_
            refine V_aln dX12_gather_122 rfl ?_
            refine V_getR dX12_gather_123 flX12_250 (by assumption) rfl (by assumption) ?_
            refine V_aln dX12_gather_126 rfl ?_
            refine V_getR dX12_gather_127 flX12_127 (by assumption) rfl (by assumption) ?_
            refine V_il dX12_gather_130 rfl ?_
            refine V_ialdNv dX12_gather_132 (by assumption) (by omega) (by omega) (hwK) ?_
            refine V_ialdN dX12_gather_133 (by assumption) (by omega) (by omega) ?_
            refine V_aln dX12_gather_134 rfl ?_
            refine V_getR dX12_gather_135 flX12_130 (by assumption) rfl (by assumption) ?_
            refine V_il dX12_gather_138 rfl ?_
            refine V_ialdN dX12_gather_140 (by assumption) (by omega) (by omega) ?_
            refine V_min hM lkX12_324 wM1_min wM3 wM2_min (Nat.le_of_ble_eq_true rfl) (Nat.le_of_ble_eq_true rfl) (Nat.le_of_ble_eq_true rfl) (Nat.le_of_ble_eq_true rfl) dX12_gather_141 ?_
            refine V_iastN dX12_gather_144 (by assumption) (by omega) (by omega) ?_
            refine V_goto (tgt := 237) dX12_gather_145 rfl ?_
            refine V_inc5 dX12_gather_237 ?_
            refine V_goto (tgt := 50) dX12_gather_240 rfl ?_
            rw [← hs]
            exact ihs _
        · have c84 : gaB I n nf p g day i (12 * i + r) = false := c84
          rw [c84, if_neg Bool.false_ne_true] at hs
          refine V_goto (tgt := 237) dX12_gather_87 rfl ?_
          refine V_inc5 dX12_gather_237 ?_
          refine V_goto (tgt := 50) dX12_gather_240 rfl ?_
          rw [← hs]
          exact ihs _
    · obtain rfl : r = rmC I i := by omega
      have hmK : gaA (gaB I n nf p g day i) J i (rmC I i) 37 i = nI (rmC I i) := (hF.1 37 i (by decide) (by decide)).trans hm
      clear ih ihs hs
      refine V_il dX12_gather_50 rfl ?_
      refine V_aln dX12_gather_52 rfl ?_
      refine V_getR dX12_gather_53 flX12_88 (by assumption) rfl (by assumption) ?_
      refine V_il dX12_gather_56 rfl ?_
      refine V_ialdNv dX12_gather_58 (by assumption) (by omega) (by omega) (hmK) ?_
      refine V_icmp_ge (tgt := 243) dX12_gather_59 rfl (fun c59 => ?_) (fun c59 => ?_)
      · refine V_inc4 dX12_gather_243 ?_
        refine V_goto (tgt := 38) dX12_gather_246 rfl ?_
        rw [nI_inc]
        exact next _ _
      · exact absurd ((nI_leI (a := rmC I i) (b := rmC I i) (by omega) (by omega)).mpr (Nat.le_refl _)) c59 --done
end MAl
