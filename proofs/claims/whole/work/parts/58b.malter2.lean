/-! ===== the reference's gather (the acts), alterOf, alter, best ===== -/
def shB (x y : Int32) : Bool := decide ((x >>> (y &&& 31)) &&& 1 = 1)
def pNoS (J : mI) (nl : Nat) (day s : Int32) : Bool := shB (J 35 55) (mCt J nl day s)
def pAs (J : mI) (g k : Nat) : Int32 := J 67 k * sdF (J 57 (5 * g + k) - J 75 k)
def pAc (J : mI) (g : Nat) (x : Int32) : Int32 := if shB (J 35 56) (J 59 g) then (if J 35 56 = 255 then -1 else x + J 67 6) else x
def pAl (J : mI) (nl g : Nat) (day : Int32) : Int32 := if pNoS J nl day (J 58 g) then (if anyR (fun s => !pNoS J nl day (nI s)) 16 then pAc J g (sumF (pAs J g) 5 + J 67 5) else -1) else pAc J g (sumF (pAs J g) 5)
abbrev gaN (I : mI) (n nf p g : Nat) (day : Int32) : mI := gaM (gaB I n nf p g day) I n
section MAm
variable {X : mX} {B nx : Nat} {sh : Nat → Option mSh} {I J : mI} {P : mP} {n ng nl nf : Nat}
theorem l2_X12_gather {G : mG} {p g : Nat} {day : Int32} (hJ : MJ sh I P n ng nl nf) (hp : p < 30) (hg : g < ng) (hM : mM X B "gather" none 2 52 0 0 (mDet none nx sh (gaN I n nf p g day) P) G) : ∀ (z i : Nat) (x5 x6 : Option Value), i ≤ n → n - i < z → V X B RX12 cX12_gather G 0 0 nx sh (gaM (gaB I n nf p g day) I i) P 38 [some (.ref (B + 35)), some (.int (nI p)), some (.int (nI g)), some (.int day), some (.int (nI i)), x5, x6] [] := by
  have hV := hJ.1
  have hn2 := hJ.2.1.2
  have s35 : sh 35 = some (.inl 12) := hV.1 35 _ rfl
  intro z
  induction z with
  | zero => intro i _ _ _ h; omega
  | succ z ih =>
    intro i x5 x6 hi hz
    have hF : gaF I (gaM (gaB I n nf p g day) I i) := gaM_F i
    refine V_il dX12_gather_38 rfl ?_
    refine V_aln dX12_gather_40 rfl ?_
    refine V_getIv dX12_gather_41 flX12_118 (by assumption) rfl ((hF.2 0 (by decide) (by decide)).trans hJ.2.1.1) ?_
    refine V_icmp_ge (tgt := 249) dX12_gather_44 rfl (fun c44 => ?_) (fun c44 => ?_)
    · have c44 := nN_le c44 (by omega) (by omega)
      obtain rfl : i = n := by omega
      exact V_vret hM dX12_gather_249 (mDet.rf)
    · have c44 := nN_nle c44 (by omega) (by omega)
      refine V_iconst (v := 0) rfl dX12_gather_47 ?_
      refine V_is5 dX12_gather_48 ?_
      exact l3_X12_gather hM hJ hp hg c44 hF (fun x5 x6 => ih (i + 1) x5 x6 (by omega) (by omega)) (rmC I i + 1) 0 _ (by omega) (by omega)
theorem x_gather {p g : Nat} {day : Int32} (hJ : MJ sh I P n ng nl nf) (hp : p < 30) (hg : g < ng) : Ev X B mdX12_gather 0 0 [.ref (B + 35), .int (nI p), .int (nI g), .int day] nx sh I P (mDet none nx sh (gaN I n nf p g day) P) := by
  refine Ev.of (by decide) (by simp [Value.category]) (by simp) (fun G hM => ?_)
  have hM : mM X B "gather" none 2 52 0 0 _ G := hM
  show V X B RX12 cX12_gather G 0 0 nx sh I P 0 [some (.ref (B + 35)), some (.int (nI p)), some (.int (nI g)), some (.int day), none, none, none] []
  refine V_iconst (v := 0) rfl dX12_gather_0 ?_
  refine V_is4 dX12_gather_1 ?_
  refine V_mem (I' := mFill I 75 0 9999) (fun c k => by simp [mFill]) (fun _ _ => rfl) ?_
  exact l1_X12_gather hJ.1 (fun x => l2_X12_gather hJ hp hg hM (n + 1) 0 _ _ (by omega) (by omega)) 6 0 (by omega) (by omega)
theorem l1_X12_alterOf {G : mG} {Po : mPo} {p g : Nat} {day : Int32} (hM : mM X B "alterOf" (some .int) 3 78 0 0 Po G) (hV : MW sh P) (hg : g < 40)
    (next : ∀ x : Option Value, V X B RX12 cX12_alterOf G 0 0 nx sh J P 61 [some (.ref (B + 35)), some (.int (nI p)), some (.int (nI g)), some (.int day), some (.int (sumF (pAs J g) 5)), x, none] []) : ∀ (z i : Nat), i ≤ 5 → 5 - i < z → V X B RX12 cX12_alterOf G 0 0 nx sh J P 13 [some (.ref (B + 35)), some (.int (nI p)), some (.int (nI g)), some (.int day), some (.int (sumF (pAs J g) i)), some (.int (nI i)), none] [] := by
  have s35 : sh 35 = some (.inl 12) := hV.1 35 _ rfl
  have s_price : sh 67 = some (.inr (0, 7)) := hV.1 67 _ rfl
  have p_price : P 35 44 = some 67 := hV.2 44 67 rfl
  have s_measure : sh 57 = some (.inr (0, 200)) := hV.1 57 _ rfl
  have p_measure : P 35 34 = some 57 := hV.2 34 57 rfl
  have s_most : sh 75 = some (.inr (0, 5)) := hV.1 75 _ rfl
  have p_most : P 35 54 = some 75 := hV.2 54 75 rfl
  intro z
  induction z with
  | zero => intro i _ h; omega
  | succ z ih =>
    intro i hi hz
    refine V_il dX12_alterOf_13 rfl ?_
    refine V_iconst (v := 5) rfl dX12_alterOf_15 ?_
    refine V_icmp_ge (tgt := 61) dX12_alterOf_16 rfl (fun c16 => ?_) (fun c16 => ?_)
    · have c16 := nN_le (a := 5) c16 (by omega) (by omega)
      obtain rfl : i = 5 := by omega
      exact next _
    · have c16 := nN_nle (a := 5) c16 (by omega) (by omega)
      refine V_il dX12_alterOf_19 rfl ?_
      refine V_aln dX12_alterOf_21 rfl ?_
      refine V_getR dX12_alterOf_22 flX12_226 (by assumption) rfl (by assumption) ?_
      refine V_il dX12_alterOf_25 rfl ?_
      refine V_ialdN dX12_alterOf_27 (by assumption) (by omega) (by omega) ?_
      refine V_iconst (v := 0) rfl dX12_alterOf_28 ?_
      refine V_aln dX12_alterOf_29 rfl ?_
      refine V_getR dX12_alterOf_30 flX12_198 (by assumption) rfl (by assumption) ?_
      refine V_iconst (v := 5) rfl dX12_alterOf_33 ?_
      refine V_iln dX12_alterOf_34 rfl ?_
      refine V_imul dX12_alterOf_35 ?_
      refine V_il dX12_alterOf_36 rfl ?_
      refine V_iadd dX12_alterOf_38 ?_
      refine V_top (nI_5 g i) ?_
      refine V_ialdN dX12_alterOf_39 (by assumption) (by omega) (by omega) ?_
      refine V_aln dX12_alterOf_40 rfl ?_
      refine V_getR dX12_alterOf_41 flX12_250 (by assumption) rfl (by assumption) ?_
      refine V_il dX12_alterOf_44 rfl ?_
      refine V_ialdN dX12_alterOf_46 (by assumption) (by omega) (by omega) ?_
      refine V_isub dX12_alterOf_47 ?_
      refine V_max hM lkX12_367 wM1_max wM3 wM2_max (Nat.le_of_ble_eq_true rfl) (Nat.le_of_ble_eq_true rfl) (Nat.le_of_ble_eq_true rfl) (Nat.le_of_ble_eq_true rfl) dX12_alterOf_48 ?_
      refine V_imul dX12_alterOf_51 ?_
      refine V_iadd dX12_alterOf_52 ?_
      refine V_is4 dX12_alterOf_53 ?_
      refine V_inc5 dX12_alterOf_55 ?_
      refine V_goto (tgt := 13) dX12_alterOf_58 rfl ?_
      rw [nI_inc]
      exact ih (i + 1) (by omega) (by omega)
theorem l2_X12_alterOf {G : mG} {Po : mPo} {p g : Nat} {day x : Int32} (hM : mM X B "alterOf" (some .int) 3 78 0 0 Po G) (hJ : MJ sh J P n ng nl nf)
    (kT : anyR (fun s => !pNoS J nl day (nI s)) 16 = true → ∀ x6 : Option Value, V X B RX12 cX12_alterOf G 0 0 nx sh J P 138 [some (.ref (B + 35)), some (.int (nI p)), some (.int (nI g)), some (.int day), some (.int x), some (.int (bI (anyR (fun s => !pNoS J nl day (nI s)) 16))), x6] [])
    (kF : anyR (fun s => !pNoS J nl day (nI s)) 16 = false → ∀ x6 : Option Value, V X B RX12 cX12_alterOf G 0 0 nx sh J P 136 [some (.ref (B + 35)), some (.int (nI p)), some (.int (nI g)), some (.int day), some (.int x), some (.int (bI (anyR (fun s => !pNoS J nl day (nI s)) 16))), x6] []) : ∀ (z i : Nat), i ≤ 16 → 16 - i < z → V X B RX12 cX12_alterOf G 0 0 nx sh J P 89 [some (.ref (B + 35)), some (.int (nI p)), some (.int (nI g)), some (.int day), some (.int x), some (.int (bI (anyR (fun s => !pNoS J nl day (nI s)) i))), some (.int (nI i))] [] := by
  have hV := hJ.1
  have h4 := hJ.2.2.2.1
  have s35 : sh 35 = some (.inl 12) := hV.1 35 _ rfl
  intro z
  induction z with
  | zero => intro i _ h; omega
  | succ z ih =>
    intro i hi hz
    have hs : anyR (fun s => !pNoS J nl day (nI s)) (i + 1) = (anyR (fun s => !pNoS J nl day (nI s)) i || !pNoS J nl day (nI i)) := by simp [anyR, List.range_succ]
    have bt : ∀ b : Bool, ¬ bI b = 0 → b = true := fun b h => by cases b; exact absurd rfl h; rfl
    have bf : ∀ b : Bool, bI b = 0 → b = false := fun b h => by cases b; rfl; exact absurd h (by decide)
    refine V_il dX12_alterOf_89 rfl ?_
    refine V_bipush (v := 16) rfl dX12_alterOf_91 ?_
    refine V_icmp_ge (tgt := 131) dX12_alterOf_93 rfl (fun c93 => ?_) (fun c93 => ?_)
    · have c93 := nN_le (a := 16) c93 (by omega) (by omega)
      obtain rfl : i = 16 := by omega
      refine V_il dX12_alterOf_131 rfl ?_
      refine V_if_ne (tgt := 138) dX12_alterOf_133 rfl (fun c133 => ?_) (fun c133 => ?_)
      · exact kT (bt _ c133) _
      · exact kF (bf _ c133) _
    · have c93 := nN_nle (a := 16) c93 (by omega) (by omega)
      refine V_il dX12_alterOf_96 rfl ?_
      refine V_if_ne (tgt := 118) dX12_alterOf_98 rfl (fun c98 => ?_) (fun c98 => ?_)
      · have hb := bt _ c98
        rw [hb, Bool.true_or] at hs
        refine V_iconst (v := 1) rfl dX12_alterOf_118 ?_
        refine V_goto (tgt := 123) dX12_alterOf_119 rfl ?_
        refine V_is5 dX12_alterOf_123 ?_
        refine V_inc6 dX12_alterOf_125 ?_
        refine V_goto (tgt := 89) dX12_alterOf_128 rfl ?_
        have h1 := ih (i + 1) (by omega) (by omega)
        rw [hs] at h1
        rw [nI_inc]
        exact h1
      · have hb := bf _ c98
        rw [hb, Bool.false_or] at hs
        refine V_aln dX12_alterOf_101 rfl ?_
        refine V_getI dX12_alterOf_102 flX12_357 (by assumption) rfl ?_
        refine V_aln dX12_alterOf_105 rfl ?_
        refine V_il dX12_alterOf_106 rfl ?_
        refine V_iln dX12_alterOf_108 rfl ?_
        refine V_cV2d hM cvX12_309 (by assumption) rfl (e_X12_countsAs hV h4.1 h4.2.1 h4.2.2 c93) ⟨Nat.le_of_ble_eq_true rfl, Nat.le_of_ble_eq_true rfl, Nat.le_of_ble_eq_true rfl, Nat.le_of_ble_eq_true rfl⟩ (Nat.le_of_ble_eq_true rfl) dX12_alterOf_109 ?_
        refine V_ishr dX12_alterOf_112 ?_
        refine V_iconst (v := 1) rfl dX12_alterOf_113 ?_
        refine V_iand dX12_alterOf_114 ?_
        refine V_if_ne (tgt := 122) dX12_alterOf_115 rfl (fun c115 => ?_) (fun c115 => ?_)
        · have hq : pNoS J nl day (nI i) = true := decide_eq_true ((and1_c _).resolve_left c115)
          rw [hq] at hs
          refine V_iconst (v := 0) rfl dX12_alterOf_122 ?_
          refine V_is5 dX12_alterOf_123 ?_
          refine V_inc6 dX12_alterOf_125 ?_
          refine V_goto (tgt := 89) dX12_alterOf_128 rfl ?_
          have h1 := ih (i + 1) (by omega) (by omega)
          rw [hs] at h1
          rw [nI_inc]
          exact h1
        · have hq : pNoS J nl day (nI i) = false := decide_eq_false (fun h => by rw [h] at c115; exact absurd c115 (by decide))
          rw [hq] at hs
          refine V_iconst (v := 1) rfl dX12_alterOf_118 ?_
          refine V_goto (tgt := 123) dX12_alterOf_119 rfl ?_
          refine V_is5 dX12_alterOf_123 ?_
          refine V_inc6 dX12_alterOf_125 ?_
          refine V_goto (tgt := 89) dX12_alterOf_128 rfl ?_
          have h1 := ih (i + 1) (by omega) (by omega)
          rw [hs] at h1
          rw [nI_inc]
          exact h1
theorem t_X12_alterOf {G : mG} {p g : Nat} {day x : Int32} (x5 x6 : Option Value) (hV : MW sh P) (hg : g < 40) (hc : ∃ c, c < 8 ∧ J 59 g = nI c) (hM : mM X B "alterOf" (some .int) 3 78 0 0 (mDet (some (.int (pAc J g x))) nx sh J P) G) : V X B RX12 cX12_alterOf G 0 0 nx sh J P 149 [some (.ref (B + 35)), some (.int (nI p)), some (.int (nI g)), some (.int day), some (.int x), x5, x6] [] := by
  have s35 : sh 35 = some (.inl 12) := hV.1 35 _ rfl
  have s_colour : sh 59 = some (.inr (0, 40)) := hV.1 59 _ rfl
  have p_colour : P 35 36 = some 59 := hV.2 36 59 rfl
  have s_price : sh 67 = some (.inr (0, 7)) := hV.1 67 _ rfl
  have p_price : P 35 44 = some 67 := hV.2 44 67 rfl
  refine V_aln dX12_alterOf_149 rfl ?_
  refine V_getI dX12_alterOf_150 flX12_360 (by assumption) rfl ?_
  refine V_aln dX12_alterOf_153 rfl ?_
  refine V_getR dX12_alterOf_154 flX12_203 (by assumption) rfl (by assumption) ?_
  refine V_iln dX12_alterOf_157 rfl ?_
  refine V_ialdN dX12_alterOf_158 (by assumption) (by omega) (by omega) ?_
  refine V_ishr dX12_alterOf_159 ?_
  refine V_iconst (v := 1) rfl dX12_alterOf_160 ?_
  refine V_iand dX12_alterOf_161 ?_
  refine V_iconst (v := 1) rfl dX12_alterOf_162 ?_
  refine V_icmp_ne (tgt := 190) dX12_alterOf_163 rfl (fun c163 => ?_) (fun c163 => ?_)
  · have hb : shB (J 35 56) (J 59 g) = false := decide_eq_false c163
    refine V_il dX12_alterOf_190 rfl ?_
    exact V_iret hM dX12_alterOf_192 (⟨by first | rw [pAc, hb, if_pos rfl, if_neg hne] | rw [pAc, hb, if_neg Bool.false_ne_true], rfl, rfl, rfl, rfl⟩)
  · have hb : shB (J 35 56) (J 59 g) = true := decide_eq_true (by first | exact c163 | exact Classical.not_not.mp c163)
    refine V_aln dX12_alterOf_166 rfl ?_
    refine V_getI dX12_alterOf_167 flX12_360 (by assumption) rfl ?_
    refine V_sipush (v := 255) rfl dX12_alterOf_170 ?_
    refine V_icmp_ne (tgt := 178) dX12_alterOf_173 rfl (fun c173 => ?_) (fun c173 => ?_)
    · have hne : ¬ J 35 56 = 255 := c173
      refine V_il dX12_alterOf_178 rfl ?_
      refine V_aln dX12_alterOf_180 rfl ?_
      refine V_getR dX12_alterOf_181 flX12_226 (by assumption) rfl (by assumption) ?_
      refine V_bipush (v := 6) rfl dX12_alterOf_184 ?_
      refine V_ialdN (i := 6) dX12_alterOf_186 (by assumption) (by omega) (by omega) ?_
      refine V_iadd dX12_alterOf_187 ?_
      refine V_is4 dX12_alterOf_188 ?_
      refine V_il dX12_alterOf_190 rfl ?_
      exact V_iret hM dX12_alterOf_192 (⟨by first | rw [pAc, hb, if_pos rfl, if_neg hne] | rw [pAc, hb, if_neg Bool.false_ne_true], rfl, rfl, rfl, rfl⟩)
    · refine V_iconst (v := -1) rfl dX12_alterOf_176 ?_
      exact V_iret hM dX12_alterOf_177 (⟨by rw [pAc, hb, if_pos rfl, if_pos (by first | exact c173 | exact Classical.not_not.mp c173)], rfl, rfl, rfl, rfl⟩)
theorem v_X12_alterOf {G : mG} {p g : Nat} {day x : Int32} (x5 x6 : Option Value) (hV : MW sh P) (hg : g < 40) (hc : ∃ c, c < 8 ∧ J 59 g = nI c) (hM : mM X B "alterOf" (some .int) 3 78 0 0 (mDet (some (.int (pAc J g (x + J 67 5)))) nx sh J P) G) : V X B RX12 cX12_alterOf G 0 0 nx sh J P 138 [some (.ref (B + 35)), some (.int (nI p)), some (.int (nI g)), some (.int day), some (.int x), x5, x6] [] := by
  have s35 : sh 35 = some (.inl 12) := hV.1 35 _ rfl
  have s_price : sh 67 = some (.inr (0, 7)) := hV.1 67 _ rfl
  have p_price : P 35 44 = some 67 := hV.2 44 67 rfl
  refine V_il dX12_alterOf_138 rfl ?_
  refine V_aln dX12_alterOf_140 rfl ?_
  refine V_getR dX12_alterOf_141 flX12_226 (by assumption) rfl (by assumption) ?_
  refine V_iconst (v := 5) rfl dX12_alterOf_144 ?_
  refine V_ialdN (i := 5) dX12_alterOf_145 (by assumption) (by omega) (by omega) ?_
  refine V_iadd dX12_alterOf_146 ?_
  refine V_is4 dX12_alterOf_147 ?_
  exact t_X12_alterOf _ _ hV hg hc hM
theorem u_X12_alterOf {G : mG} {p g s : Nat} {day : Int32} (hJ : MJ sh J P n ng nl nf) (hg : g < 40) (s1 : s < 16) (s2 : J 58 g = nI s) (hc : ∃ c, c < 8 ∧ J 59 g = nI c) (hM : mM X B "alterOf" (some .int) 3 78 0 0 (mDet (some (.int (pAl J nl g day))) nx sh J P) G) (x5 : Option Value) : V X B RX12 cX12_alterOf G 0 0 nx sh J P 61 [some (.ref (B + 35)), some (.int (nI p)), some (.int (nI g)), some (.int day), some (.int (sumF (pAs J g) 5)), x5, none] [] := by
  have hV := hJ.1
  have h4 := hJ.2.2.2.1
  have s35 : sh 35 = some (.inl 12) := hV.1 35 _ rfl
  have s_stuff : sh 58 = some (.inr (0, 40)) := hV.1 58 _ rfl
  have p_stuff : P 35 35 = some 58 := hV.2 35 58 rfl
  have s_price : sh 67 = some (.inr (0, 7)) := hV.1 67 _ rfl
  have p_price : P 35 44 = some 67 := hV.2 44 67 rfl
  refine V_aln dX12_alterOf_61 rfl ?_
  refine V_getI dX12_alterOf_62 flX12_357 (by assumption) rfl ?_
  refine V_aln dX12_alterOf_65 rfl ?_
  refine V_aln dX12_alterOf_66 rfl ?_
  refine V_getR dX12_alterOf_67 flX12_201 (by assumption) rfl (by assumption) ?_
  refine V_iln dX12_alterOf_70 rfl ?_
  refine V_ialdNv dX12_alterOf_71 (by assumption) (by omega) (by omega) (s2) ?_
  refine V_iln dX12_alterOf_72 rfl ?_
  refine V_cV2d hM cvX12_309 (by assumption) rfl (e_X12_countsAs hV h4.1 h4.2.1 h4.2.2 s1) ⟨Nat.le_of_ble_eq_true rfl, Nat.le_of_ble_eq_true rfl, Nat.le_of_ble_eq_true rfl, Nat.le_of_ble_eq_true rfl⟩ (Nat.le_of_ble_eq_true rfl) dX12_alterOf_73 ?_
  refine V_ishr dX12_alterOf_76 ?_
  refine V_iconst (v := 1) rfl dX12_alterOf_77 ?_
  refine V_iand dX12_alterOf_78 ?_
  refine V_iconst (v := 1) rfl dX12_alterOf_79 ?_
  refine V_icmp_ne (tgt := 149) dX12_alterOf_80 rfl (fun c80 => ?_) (fun c80 => ?_)
  · have hb : pNoS J nl day (J 58 g) = false := by rw [s2]; exact decide_eq_false c80
    rw [pAl, hb, if_neg Bool.false_ne_true] at hM
    exact t_X12_alterOf _ _ hV hg hc hM
  · have hb : pNoS J nl day (J 58 g) = true := by rw [s2]; exact decide_eq_true (by first | exact c80 | exact Classical.not_not.mp c80)
    rw [pAl, hb, if_pos rfl] at hM
    refine V_iconst (v := 0) rfl dX12_alterOf_83 ?_
    refine V_is5 dX12_alterOf_84 ?_
    refine V_iconst (v := 0) rfl dX12_alterOf_86 ?_
    refine V_is6 dX12_alterOf_87 ?_
    refine l2_X12_alterOf hM hJ (fun hT x6 => ?_) (fun hT x6 => ?_) 17 0 (by omega) (by omega)
    · rw [hT, if_pos rfl] at hM
      exact v_X12_alterOf _ _ hV hg hc hM
    · rw [hT, if_neg Bool.false_ne_true] at hM
      refine V_iconst (v := -1) rfl dX12_alterOf_136 ?_
      exact V_iret hM dX12_alterOf_137 mDet.rf
theorem x_alterOf {p g : Nat} {day : Int32} (hJ : MJ sh I P n ng nl nf) (hp : p < 30) (hg : g < ng) (hc : ∃ c, c < 8 ∧ I 59 g = nI c) : Ev X B mdX12_alterOf 0 0 [.ref (B + 35), .int (nI p), .int (nI g), .int day] nx sh I P (mDet (some (.int (pAl (gaN I n nf p g day) nl g day))) nx sh (gaN I n nf p g day) P) := by
  have hV := hJ.1
  have hg2 := hJ.2.2.1.2
  have hF : gaF I (gaN I n nf p g day) := gaM_F n
  have hJ2 := hF.mj hJ
  have hc2 : ∃ c, c < 8 ∧ gaN I n nf p g day 59 g = nI c := by rw [hF.1 59 g (by decide) (by decide)]; exact hc
  obtain ⟨s, s1, s2⟩ := hJ2.2.2.2.2.2.2.1 g hg
  have h4 := hJ2.2.2.2.1
  have s35 : sh 35 = some (.inl 12) := hV.1 35 _ rfl
  have s_stuff : sh 58 = some (.inr (0, 40)) := hV.1 58 _ rfl
  have p_stuff : P 35 35 = some 58 := hV.2 35 58 rfl
  have s_price : sh 67 = some (.inr (0, 7)) := hV.1 67 _ rfl
  have p_price : P 35 44 = some 67 := hV.2 44 67 rfl
  refine Ev.of (by decide) (by simp [Value.category]) (by simp) (fun G hM => ?_)
  have hM : mM X B "alterOf" (some FieldType.int) 3 78 0 0 _ G := hM
  show V X B RX12 cX12_alterOf G 0 0 nx sh I P 0 [some (.ref (B + 35)), some (.int (nI p)), some (.int (nI g)), some (.int day), none, none, none] []
  refine V_aln dX12_alterOf_0 rfl ?_
  refine V_iln dX12_alterOf_1 rfl ?_
  refine V_iln dX12_alterOf_2 rfl ?_
  refine V_iln dX12_alterOf_3 rfl ?_
  refine V_cV3n hM cvX12_363 (by assumption) rfl (x_gather hJ hp hg) ⟨Nat.le_of_ble_eq_true rfl, Nat.le_of_ble_eq_true rfl, Nat.le_of_ble_eq_true rfl, Nat.le_of_ble_eq_true rfl⟩ (Nat.le_of_ble_eq_true rfl) dX12_alterOf_4 ?_
  refine V_iconst (v := 0) rfl dX12_alterOf_7 ?_
  refine V_is4 dX12_alterOf_8 ?_
  refine V_iconst (v := 0) rfl dX12_alterOf_10 ?_
  refine V_is5 dX12_alterOf_11 ?_
  refine l1_X12_alterOf hM hV (by omega) (fun x => ?_) 6 0 (by omega) (by omega)
  exact u_X12_alterOf hJ2 (by omega) s1 s2 hc2 hM x
theorem x_alter {p g : Nat} {day : Int32} (hJ : MJ sh I P n ng nl nf) (hp : p < 30) (hg : g < ng) (hc : ∃ c, c < 8 ∧ I 59 g = nI c) (hd : inB day 10000 = true) : Ev X B mdX12_alter 0 0 [.ref (B + 35), .int (nI p), .int (nI g), .int day] nx sh I P (mDet (some (.int (pAl (gaN I n nf p g day) nl g day))) nx sh (gaN I n nf p g day) P) := by
  have hV := hJ.1
  have hg2 := hJ.2.2.1.2
  have s35 : sh 35 = some (.inl 12) := hV.1 35 _ rfl
  refine Ev.of (by decide) (by simp [Value.category]) (by simp) (fun G hM => ?_)
  have hM : mM X B "alter" (some FieldType.int) 4 104 0 0 _ G := hM
  show V X B RX12 cX12_alter G 0 0 nx sh I P 0 [some (.ref (B + 35)), some (.int (nI p)), some (.int (nI g)), some (.int day)] []
  refine V_aln dX12_alter_0 rfl ?_
  refine V_iln dX12_alter_1 rfl ?_
  refine V_iln dX12_alter_2 rfl ?_
  refine V_iln dX12_alter_3 rfl ?_
  refine V_cV3d hM cvX12_329 (by assumption) rfl (x_isCase hJ) ⟨Nat.le_of_ble_eq_true rfl, Nat.le_of_ble_eq_true rfl, Nat.le_of_ble_eq_true rfl, Nat.le_of_ble_eq_true rfl⟩ (Nat.le_of_ble_eq_true rfl) dX12_alter_4 ?_
  rw [inB_of hp (by omega), inB_of hg (by omega), hd]
  refine V_ifeq_b (tgt := 20) dX12_alter_7 rfl (fun c7 => ?_) (fun c7 => ?_)
  · exact absurd c7 (by decide) --done
  · refine V_aln dX12_alter_10 rfl ?_
    refine V_iln dX12_alter_11 rfl ?_
    refine V_iln dX12_alter_12 rfl ?_
    refine V_iln dX12_alter_13 rfl ?_
    refine V_cV3d hM cvX12_370 (by assumption) rfl (x_alterOf hJ hp hg hc) ⟨Nat.le_of_ble_eq_true rfl, Nat.le_of_ble_eq_true rfl, Nat.le_of_ble_eq_true rfl, Nat.le_of_ble_eq_true rfl⟩ (Nat.le_of_ble_eq_true rfl) dX12_alter_14 ?_
    refine V_goto (tgt := 22) dX12_alter_17 rfl ?_
    exact V_iret hM dX12_alter_22 (mDet.rf)
theorem x_alterN {p g day : Int32} (hJ : MJ sh I P n ng nl nf) (hx : (inB p 30 && inB g ng && inB day 10000) = false) : Ev X B mdX12_alter 0 0 [.ref (B + 35), .int p, .int g, .int day] nx sh I P (mDet (some (.int (-2))) nx sh I P) := by
  have hV := hJ.1
  have s35 : sh 35 = some (.inl 12) := hV.1 35 _ rfl
  refine Ev.of (by decide) (by simp [Value.category]) (by simp) (fun G hM => ?_)
  have hM : mM X B "alter" (some FieldType.int) 4 104 0 0 _ G := hM
  show V X B RX12 cX12_alter G 0 0 nx sh I P 0 [some (.ref (B + 35)), some (.int p), some (.int g), some (.int day)] []
  refine V_aln dX12_alter_0 rfl ?_
  refine V_iln dX12_alter_1 rfl ?_
  refine V_iln dX12_alter_2 rfl ?_
  refine V_iln dX12_alter_3 rfl ?_
  refine V_cV3d hM cvX12_329 (by assumption) rfl (x_isCase hJ) ⟨Nat.le_of_ble_eq_true rfl, Nat.le_of_ble_eq_true rfl, Nat.le_of_ble_eq_true rfl, Nat.le_of_ble_eq_true rfl⟩ (Nat.le_of_ble_eq_true rfl) dX12_alter_4 ?_
  rw [hx]
  refine V_ifeq_b (tgt := 20) dX12_alter_7 rfl (fun c7 => ?_) (fun c7 => ?_)
  · refine V_bipush (v := -2) rfl dX12_alter_20 ?_
    exact V_iret hM dX12_alter_22 (mDet.rf)
  · exact absurd c7 (by decide) --done
/-- best: 0 without a fine; else the change is weighed against it -/
theorem x_best0 {p g : Nat} {day : Int32} (hJ : MJ sh I P n ng nl nf) (hp : p < 30) (hg : g < ng) (hd : inB day 10000 = true) (hf : pFi I n nl nf p g day = 0) : Ev X B mdX12_best 0 0 [.ref (B + 35), .int (nI p), .int (nI g), .int day] nx sh I P (mDet (some (.int 0)) nx sh I P) := by
  have hV := hJ.1
  have hg2 := hJ.2.2.1.2
  have s35 : sh 35 = some (.inl 12) := hV.1 35 _ rfl
  refine Ev.of (by decide) (by simp [Value.category]) (by simp) (fun G hM => ?_)
  have hM : mM X B "best" (some FieldType.int) 4 106 0 0 _ G := hM
  show V X B RX12 cX12_best G 0 0 nx sh I P 0 [some (.ref (B + 35)), some (.int (nI p)), some (.int (nI g)), some (.int day), none, none] []
  refine V_aln dX12_best_0 rfl ?_
  refine V_iln dX12_best_1 rfl ?_
  refine V_iln dX12_best_2 rfl ?_
  refine V_iln dX12_best_3 rfl ?_
  refine V_cV3d hM cvX12_329 (by assumption) rfl (x_isCase hJ) ⟨Nat.le_of_ble_eq_true rfl, Nat.le_of_ble_eq_true rfl, Nat.le_of_ble_eq_true rfl, Nat.le_of_ble_eq_true rfl⟩ (Nat.le_of_ble_eq_true rfl) dX12_best_4 ?_
  rw [inB_of hp (by omega), inB_of hg (by omega), hd]
  refine V_ifne_b (tgt := 13) dX12_best_7 rfl (fun c7 => ?_) (fun c7 => ?_)
  · refine V_aln dX12_best_13 rfl ?_
    refine V_iln dX12_best_14 rfl ?_
    refine V_iln dX12_best_15 rfl ?_
    refine V_iln dX12_best_16 rfl ?_
    refine V_cV3d hM cvX12_333 (by assumption) rfl (x_fineOf hJ hp hg) ⟨Nat.le_of_ble_eq_true rfl, Nat.le_of_ble_eq_true rfl, Nat.le_of_ble_eq_true rfl, Nat.le_of_ble_eq_true rfl⟩ (Nat.le_of_ble_eq_true rfl) dX12_best_17 ?_
    rw [hf]
    refine V_is4 dX12_best_20 ?_
    refine V_il dX12_best_22 rfl ?_
    refine V_if_ne (tgt := 29) dX12_best_24 rfl (fun c24 => ?_) (fun c24 => ?_)
    · exact absurd rfl c24 --done
    · refine V_iconst (v := 0) rfl dX12_best_27 ?_
      exact V_iret hM dX12_best_28 (mDet.rf)
  · exact absurd c7 (by decide) --done
theorem x_best {p g : Nat} {day : Int32} (hJ : MJ sh I P n ng nl nf) (hp : p < 30) (hg : g < ng) (hc : ∃ c, c < 8 ∧ I 59 g = nI c) (hd : inB day 10000 = true) (hf : ¬ pFi I n nl nf p g day = 0) : Ev X B mdX12_best 0 0 [.ref (B + 35), .int (nI p), .int (nI g), .int day] nx sh I P (mDet (some (.int (bstF (pFi I n nl nf p g day) (pAl (gaN I n nf p g day) nl g day)))) nx sh (gaN I n nf p g day) P) := by
  have hV := hJ.1
  have hg2 := hJ.2.2.1.2
  have s35 : sh 35 = some (.inl 12) := hV.1 35 _ rfl
  refine Ev.of (by decide) (by simp [Value.category]) (by simp) (fun G hM => ?_)
  have hM : mM X B "best" (some FieldType.int) 4 106 0 0 _ G := hM
  show V X B RX12 cX12_best G 0 0 nx sh I P 0 [some (.ref (B + 35)), some (.int (nI p)), some (.int (nI g)), some (.int day), none, none] []
  refine V_aln dX12_best_0 rfl ?_
  refine V_iln dX12_best_1 rfl ?_
  refine V_iln dX12_best_2 rfl ?_
  refine V_iln dX12_best_3 rfl ?_
  refine V_cV3d hM cvX12_329 (by assumption) rfl (x_isCase hJ) ⟨Nat.le_of_ble_eq_true rfl, Nat.le_of_ble_eq_true rfl, Nat.le_of_ble_eq_true rfl, Nat.le_of_ble_eq_true rfl⟩ (Nat.le_of_ble_eq_true rfl) dX12_best_4 ?_
  rw [inB_of hp (by omega), inB_of hg (by omega), hd]
  refine V_ifne_b (tgt := 13) dX12_best_7 rfl (fun c7 => ?_) (fun c7 => ?_)
  · refine V_aln dX12_best_13 rfl ?_
    refine V_iln dX12_best_14 rfl ?_
    refine V_iln dX12_best_15 rfl ?_
    refine V_iln dX12_best_16 rfl ?_
    refine V_cV3d hM cvX12_333 (by assumption) rfl (x_fineOf hJ hp hg) ⟨Nat.le_of_ble_eq_true rfl, Nat.le_of_ble_eq_true rfl, Nat.le_of_ble_eq_true rfl, Nat.le_of_ble_eq_true rfl⟩ (Nat.le_of_ble_eq_true rfl) dX12_best_17 ?_
    refine V_is4 dX12_best_20 ?_
    refine V_il dX12_best_22 rfl ?_
    refine V_if_ne (tgt := 29) dX12_best_24 rfl (fun c24 => ?_) (fun c24 => ?_)
    · refine V_aln dX12_best_29 rfl ?_
      refine V_iln dX12_best_30 rfl ?_
      refine V_iln dX12_best_31 rfl ?_
      refine V_iln dX12_best_32 rfl ?_
      refine V_cV3d hM cvX12_370 (by assumption) rfl (x_alterOf hJ hp hg hc) ⟨Nat.le_of_ble_eq_true rfl, Nat.le_of_ble_eq_true rfl, Nat.le_of_ble_eq_true rfl, Nat.le_of_ble_eq_true rfl⟩ (Nat.le_of_ble_eq_true rfl) dX12_best_33 ?_
      refine V_is5 dX12_best_36 ?_
      refine V_il dX12_best_38 rfl ?_
      refine V_iconst (v := -1) rfl dX12_best_40 ?_
      refine V_icmp_eq (tgt := 55) dX12_best_41 rfl (fun c41 => ?_) (fun c41 => ?_)
      · refine V_iconst (v := 2) rfl dX12_best_55 ?_
        exact V_iret hM dX12_best_56 (⟨by simp [bstF, hf, c7, c24, c41], rfl, rfl, rfl, rfl⟩)
      · refine V_il dX12_best_44 rfl ?_
        refine V_il dX12_best_46 rfl ?_
        refine V_icmp_gt (tgt := 55) dX12_best_48 rfl (fun c48 => ?_) (fun c48 => ?_)
        · have c48 := i_lt_nle c48
          refine V_iconst (v := 2) rfl dX12_best_55 ?_
          exact V_iret hM dX12_best_56 (⟨by simp [bstF, hf, c7, c24, c41, c48], rfl, rfl, rfl, rfl⟩)
        · have c48 := i_nlt c48
          refine V_iconst (v := 1) rfl dX12_best_51 ?_
          refine V_goto (tgt := 56) dX12_best_52 rfl ?_
          exact V_iret hM dX12_best_56 (⟨by simp [bstF, hf, c7, c24, c41, c48], rfl, rfl, rfl, rfl⟩)
    · exact absurd c24 hf --done
  · exact absurd c7 (by decide) --done
theorem x_bestN {p g day : Int32} (hJ : MJ sh I P n ng nl nf) (hx : (inB p 30 && inB g ng && inB day 10000) = false) : Ev X B mdX12_best 0 0 [.ref (B + 35), .int p, .int g, .int day] nx sh I P (mDet (some (.int (-2))) nx sh I P) := by
  have hV := hJ.1
  have s35 : sh 35 = some (.inl 12) := hV.1 35 _ rfl
  refine Ev.of (by decide) (by simp [Value.category]) (by simp) (fun G hM => ?_)
  have hM : mM X B "best" (some FieldType.int) 4 106 0 0 _ G := hM
  show V X B RX12 cX12_best G 0 0 nx sh I P 0 [some (.ref (B + 35)), some (.int p), some (.int g), some (.int day), none, none] []
  refine V_aln dX12_best_0 rfl ?_
  refine V_iln dX12_best_1 rfl ?_
  refine V_iln dX12_best_2 rfl ?_
  refine V_iln dX12_best_3 rfl ?_
  refine V_cV3d hM cvX12_329 (by assumption) rfl (x_isCase hJ) ⟨Nat.le_of_ble_eq_true rfl, Nat.le_of_ble_eq_true rfl, Nat.le_of_ble_eq_true rfl, Nat.le_of_ble_eq_true rfl⟩ (Nat.le_of_ble_eq_true rfl) dX12_best_4 ?_
  rw [hx]
  refine V_ifne_b (tgt := 13) dX12_best_7 rfl (fun c7 => ?_) (fun c7 => ?_)
  · exact absurd c7 (by decide) --done
  · refine V_bipush (v := -2) rfl dX12_best_10 ?_
    exact V_iret hM dX12_best_12 (mDet.rf)
end MAm
