/-! ===== the court's calls that judge ===== -/
def mScr (r : Int32) (nx : Nat) (sh : Nat → Option mSh) (I : mI) (P : mP) : mPo := fun v nx' sh' I' P' => v = some (.int r) ∧ nx' = nx ∧ sh' = sh ∧ (∀ c k, c ≠ 30 → c ≠ 33 → c ≠ 34 → I' c k = I c k) ∧ ∀ c k, ¬ (c = 30 ∧ k = 2) → P' c k = P c k
theorem CW.p30 {sh : Nat → Option mSh} {P : mP} {o : Option Nat} (h : CW sh P) : CW sh (mUp P 30 2 o) := by
  refine ⟨h.1, fun c k b hb => ?_⟩
  by_cases e : c = 30 ∧ k = 2
  · rw [e.1, e.2] at hb; cases hb
  · rw [mUp, if_neg e]; exact h.2 c k b hb
theorem pg_p30 {P : mP} {o : Option Nat} {c k : Nat} (h : c ≠ 30) : pg (mUp P 30 2 o) c k = pg P c k := by simp [pg, mUp, h]
theorem ActAt.p30 {sh : Nat → Option mSh} {I I' : mI} {P : mP} {a : Option Nat} {o rl m : Nat} (h : ActAt sh I P o rl m) (s30 : sh 30 = some (.inl 9)) (hI : ∀ k, I' o k = I o k) : ActAt sh I' (mUp P 30 2 a) o rl m := by
  obtain ⟨h1, h2, h3, h4, h5, h6⟩ := h
  have n1 : o ≠ 30 := sh_ne h1 s30 (by decide)
  have n2 : rl ≠ 30 := sh_ne h3 s30 shn_io
  refine ⟨h1, by rw [mUp_c n1]; exact h2, h3, by rw [hI]; exact h4, h5, fun r hr => ?_⟩
  rw [pg_p30 n2, mUp_c n2]
  exact h6 r hr
theorem CodexAt.p30 {sh : Nat → Option mSh} {I I' : mI} {P : mP} {a : Option Nat} {n : Nat} (h : CodexAt sh I P 6 7 n) (s30 : sh 30 = some (.inl 9)) (hI : ∀ c k, c ≠ 30 → I' c k = I c k) : CodexAt sh I' (mUp P 30 2 a) 6 7 n := by
  obtain ⟨h1, h2, h3, h4, h5, h6⟩ := h
  refine ⟨h1, by rw [mUp_c (by decide)]; exact h2, h3, by rw [hI _ _ (by decide)]; exact h4, h5, fun r hr => ?_⟩
  obtain ⟨e1, e2⟩ := h6 r hr
  have n1 : pg P 7 r ≠ 30 := sh_ne e2.1 s30 (by decide)
  rw [pg_p30 (by decide), mUp_c (by decide), pg_p30 n1, show aM I' (pg P 7 r) = aM I (pg P 7 r) from by rw [aM, aM, hI _ _ n1]]
  exact ⟨e1, e2.p30 s30 (fun k => hI _ k n1)⟩
theorem takeM_o {I : mI} {a b c d : Int32} {e k : Nat} (h : e ≠ 30) : takeM I a b c d e k = I e k := by simp [takeM, mUp, h]
theorem GownsAt.wear {sh : Nat → Option mSh} {I : mI} {P : mP} {n g : Nat} (h : GownsAt sh I P n) (hg : g < n) (s30 : sh 30 = some (.inl 9)) : WearAt sh (mUp P 30 2 (some (pg P 24 g))) 30 (pg P 24 g) (pg P (pg P 24 g) 0) := by
  obtain ⟨h1, h2, h3, h4⟩ := h.2.2 g hg
  exact ⟨s30, by simp [mUp], h2, by rw [mUp_c (sh_ne h2 s30 (by decide))]; exact h3, h4⟩
section P2
variable {X : mX} {B nx : Nat} {sh : Nat → Option mSh} {I : mI} {P : mP}
/-- all of the court that judging needs -/
def JW (sh : Nat → Option mSh) (I : mI) (P : mP) (nr nw nf nl ng na : Nat) : Prop := CW sh P ∧ NRk I nr ∧ NWd I nw ∧ NFe I nf ∧ NLi I nl ∧ GownsAt sh I P ng ∧ CodexAt sh I P 6 7 na
abbrev wP (P : mP) (g : Nat) : mP := mUp P 30 2 (some (pg P 24 g))
def fineF (I : mI) (P : mP) (nr nw nf nl na g p : Nat) (day : Int32) : Int32 := pncAll (putM I P nr nw nf nl g (nI p) day) (wP P g) na 30 (pg P 24 g) (pg P (pg P 24 g) 0) * minF (1 + putM I P nr nw nf nl g (nI p) day 26 p) 5
def altF (I : mI) (P : mP) (nr nw nf nl na g p : Nat) (day : Int32) : Int32 := cheF (bdM (putM I P nr nw nf nl g (nI p) day) (wP P g) na (pg P 24 g)) nl (pg P 24 g) (pg P (pg P 24 g) 0)
theorem putM_o {nr nw nf nl g : Nat} {p day : Int32} {c k : Nat} (h : c ≠ 30) : putM I P nr nw nf nl g p day c k = I c k := takeM_o h
theorem mScr_put {nr nw nf nl g : Nat} {p day : Int32} {r : Int32} : mScr r nx sh I P (some (.int r)) nx sh (putM I P nr nw nf nl g p day) (wP P g) := ⟨rfl, rfl, rfl, fun c k h _ _ => putM_o h, fun c k h => by rw [wP, mUp, if_neg h]⟩
theorem mScr_bd {nr nw nf nl na g : Nat} {p day : Int32} {r : Int32} : mScr r nx sh I P (some (.int r)) nx sh (bdM (putM I P nr nw nf nl g p day) (wP P g) na (pg P 24 g)) (wP P g) := ⟨rfl, rfl, rfl, fun c k h h1 h2 => by rw [bdM, bndM_o h1 h2]; exact putM_o h, fun c k h => by rw [wP, mUp, if_neg h]⟩
theorem mScr_rf {r : Int32} : mScr r nx sh I P (some (.int r)) nx sh I P := ⟨rfl, rfl, rfl, fun _ _ _ _ _ => rfl, fun _ _ _ => rfl⟩
theorem e_X10_fine {nr nw nf nl ng na g p : Nat} {day : Int32} (hJ : JW sh I P nr nw nf nl ng na) (hp : p < 30) (hg : g < ng) (hd : inB day 10000 = true) : Ev X B mdX10_fine 0 0 [.ref (B + 0), .int (nI p), .int (nI g), .int day] nx sh I P (mScr (fineF I P nr nw nf nl na g p day) nx sh I P) := by
  obtain ⟨hW, hr, hw, hf, hl, hG, hC⟩ := hJ
  have s0 : sh 0 = some (.inl 10) := hW.1 0 _ rfl
  have s30 : sh 30 = some (.inl 9) := hW.1 30 _ rfl
  refine Ev.of (by decide) (by simp [Value.category]) (by simp) (fun G hM => ?_)
  have hM : mM X B "fine" (some FieldType.int) 6 134 0 0 _ G := hM
  show V X B RX10 cX10_fine G 0 0 nx sh I P 0 [some (.ref (B + 0)), some (.int (nI p)), some (.int (nI g)), some (.int day)] []
  refine V_aln dX10_fine_0 rfl ?_
  refine V_iln dX10_fine_1 rfl ?_
  refine V_iln dX10_fine_2 rfl ?_
  refine V_iln dX10_fine_3 rfl ?_
  refine V_cV3d hM cvX10_235 (by assumption) rfl (e_X10_putOn hW hr hw hf hl hG (inB_of hp (by omega)) hg hd) ⟨Nat.le_of_ble_eq_true rfl, Nat.le_of_ble_eq_true rfl, Nat.le_of_ble_eq_true rfl, Nat.le_of_ble_eq_true rfl⟩ (Nat.le_of_ble_eq_true rfl) dX10_fine_4 ?_
  refine V_top bI_t.symm ?_
  refine V_ifne_b (tgt := 13) dX10_fine_7 rfl (fun c7 => ?_) (fun c7 => ?_)
  · refine V_aln dX10_fine_13 rfl ?_
    refine V_iln dX10_fine_14 rfl ?_
    refine V_cV1d hM cvX10_239 (by assumption) rfl (e_X10_fineOfWearing hW.p30 (hC.p30 s30 (fun c k h => putM_o h)) (hG.wear hg s30) hp) ⟨Nat.le_of_ble_eq_true rfl, Nat.le_of_ble_eq_true rfl, Nat.le_of_ble_eq_true rfl, Nat.le_of_ble_eq_true rfl⟩ (Nat.le_of_ble_eq_true rfl) dX10_fine_15 ?_
    exact V_iret hM dX10_fine_18 (mScr_put)
  · cases c7 --done
theorem e_X10_fineN {n : Nat} {p g day : Int32} (hW : CW sh P) (hG : GownsAt sh I P n) (hx : (inB p 30 && inB g n && inB day 10000) = false) : Ev X B mdX10_fine 0 0 [.ref (B + 0), .int p, .int g, .int day] nx sh I P (mDet (some (.int (-2))) nx sh I P) := by
  have s0 : sh 0 = some (.inl 10) := hW.1 0 _ rfl
  refine Ev.of (by decide) (by simp [Value.category]) (by simp) (fun G hM => ?_)
  have hM : mM X B "fine" (some FieldType.int) 6 134 0 0 _ G := hM
  show V X B RX10 cX10_fine G 0 0 nx sh I P 0 [some (.ref (B + 0)), some (.int p), some (.int g), some (.int day)] []
  refine V_aln dX10_fine_0 rfl ?_
  refine V_iln dX10_fine_1 rfl ?_
  refine V_iln dX10_fine_2 rfl ?_
  refine V_iln dX10_fine_3 rfl ?_
  refine V_cV3d hM cvX10_235 (by assumption) rfl (e_X10_putOnN hW hG hx) ⟨Nat.le_of_ble_eq_true rfl, Nat.le_of_ble_eq_true rfl, Nat.le_of_ble_eq_true rfl, Nat.le_of_ble_eq_true rfl⟩ (Nat.le_of_ble_eq_true rfl) dX10_fine_4 ?_
  refine V_top bI_f.symm ?_
  refine V_ifne_b (tgt := 13) dX10_fine_7 rfl (fun c7 => ?_) (fun c7 => ?_)
  · cases c7 --done
  · refine V_bipush (v := -2) rfl dX10_fine_10 ?_
    exact V_iret hM dX10_fine_12 (mDet.rf)
def brnF (I : mI) (P : mP) (nr nw nf nl na g p : Nat) (day : Int32) (a : Nat) : Int32 := if bitB (rchF (putM I P nr nw nf nl g (nI p) day) (wP P g) 7 na 30 (pg P 24 g)) a then brkF (putM I P nr nw nf nl g (nI p) day) (wP P g) 7 30 (pg P 24 g) (pg P (pg P 24 g) 0) a else 0
theorem e_X10_broken {nr nw nf nl ng na g p a : Nat} {day : Int32} (hJ : JW sh I P nr nw nf nl ng na) (hp : p < 30) (hg : g < ng) (hd : inB day 10000 = true) (ha : a < na) : Ev X B mdX10_broken 0 0 [.ref (B + 0), .int (nI p), .int (nI g), .int day, .int (nI a)] nx sh I P (mScr (brnF I P nr nw nf nl na g p day a) nx sh I P) := by
  obtain ⟨hW, hr, hw, hf, hl, hG, hC⟩ := hJ
  have s0 : sh 0 = some (.inl 10) := hW.1 0 _ rfl
  have s30 : sh 30 = some (.inl 9) := hW.1 30 _ rfl
  have p0_1 : P 0 1 = some 6 := hW.2 0 1 6 rfl
  have s6 : sh 6 = some (.inl 2) := hW.1 6 _ rfl
  have hW' := hW.p30 (o := some (pg P 24 g))
  have q1 : wP P g 0 1 = some 6 := hW'.2 0 1 6 rfl
  have q2 : wP P g 0 15 = some 30 := hW'.2 0 15 30 rfl
  refine Ev.of (by decide) (by simp [Value.category]) (by simp) (fun G hM => ?_)
  have hM : mM X B "broken" (some FieldType.int) 5 110 0 0 _ G := hM
  show V X B RX10 cX10_broken G 0 0 nx sh I P 0 [some (.ref (B + 0)), some (.int (nI p)), some (.int (nI g)), some (.int day), some (.int (nI a))] []
  refine V_aln dX10_broken_0 rfl ?_
  refine V_getR dX10_broken_1 flX10_19 (by assumption) rfl (by assumption) ?_
  refine V_il dX10_broken_4 rfl ?_
  refine V_cV1d hM cvX10_187 (by assumption) rfl (e_X2_find hC ha) ⟨Nat.le_of_ble_eq_true rfl, Nat.le_of_ble_eq_true rfl, Nat.le_of_ble_eq_true rfl, Nat.le_of_ble_eq_true rfl⟩ (Nat.le_of_ble_eq_true rfl) dX10_broken_6 ?_
  refine V_ifnull dX10_broken_9 ?_
  refine V_aln dX10_broken_12 rfl ?_
  refine V_iln dX10_broken_13 rfl ?_
  refine V_iln dX10_broken_14 rfl ?_
  refine V_iln dX10_broken_15 rfl ?_
  refine V_cV3d hM cvX10_235 (by assumption) rfl (e_X10_putOn hW hr hw hf hl hG (inB_of hp (by omega)) hg hd) ⟨Nat.le_of_ble_eq_true rfl, Nat.le_of_ble_eq_true rfl, Nat.le_of_ble_eq_true rfl, Nat.le_of_ble_eq_true rfl⟩ (Nat.le_of_ble_eq_true rfl) dX10_broken_16 ?_
  refine V_top bI_t.symm ?_
  refine V_ifne_b (tgt := 25) dX10_broken_19 rfl (fun c19 => ?_) (fun c19 => ?_)
  · refine V_aln dX10_broken_25 rfl ?_
    refine V_getR dX10_broken_26 flX10_19 (by assumption) rfl (q1) ?_
    refine V_il dX10_broken_29 rfl ?_
    refine V_aln dX10_broken_31 rfl ?_
    refine V_getR dX10_broken_32 flX10_79 (by assumption) rfl (q2) ?_
    refine V_cV2d hM cvX10_242 (by assumption) rfl (e_X2_brokenRules (hC.p30 s30 (fun c k h => putM_o h)) (hG.wear hg s30) ha) ⟨Nat.le_of_ble_eq_true rfl, Nat.le_of_ble_eq_true rfl, Nat.le_of_ble_eq_true rfl, Nat.le_of_ble_eq_true rfl⟩ (Nat.le_of_ble_eq_true rfl) dX10_broken_35 ?_
    exact V_iret hM dX10_broken_38 (mScr_put)
  · cases c19 --done
theorem e_X10_brokenN {ng na : Nat} {p g day a : Int32} (hW : CW sh P) (hG : GownsAt sh I P ng) (hC : CodexAt sh I P 6 7 na) (hx : (inB a na && (inB p 30 && inB g ng && inB day 10000)) = false) : Ev X B mdX10_broken 0 0 [.ref (B + 0), .int p, .int g, .int day, .int a] nx sh I P (mDet (some (.int (-2))) nx sh I P) := by
  have s0 : sh 0 = some (.inl 10) := hW.1 0 _ rfl
  have p0_1 : P 0 1 = some 6 := hW.2 0 1 6 rfl
  have s6 : sh 6 = some (.inl 2) := hW.1 6 _ rfl
  refine Ev.of (by decide) (by simp [Value.category]) (by simp) (fun G hM => ?_)
  have hM : mM X B "broken" (some FieldType.int) 5 110 0 0 _ G := hM
  show V X B RX10 cX10_broken G 0 0 nx sh I P 0 [some (.ref (B + 0)), some (.int p), some (.int g), some (.int day), some (.int a)] []
  by_cases ha : inB a na = true
  · obtain ⟨j, hj, rfl⟩ := inB_nI ha (by have := hC.2.2.2.2.1; omega)
    rw [ha, Bool.true_and] at hx
    refine V_aln dX10_broken_0 rfl ?_
    refine V_getR dX10_broken_1 flX10_19 (by assumption) rfl (by assumption) ?_
    refine V_il dX10_broken_4 rfl ?_
    refine V_cV1d hM cvX10_187 (by assumption) rfl (e_X2_find hC hj) ⟨Nat.le_of_ble_eq_true rfl, Nat.le_of_ble_eq_true rfl, Nat.le_of_ble_eq_true rfl, Nat.le_of_ble_eq_true rfl⟩ (Nat.le_of_ble_eq_true rfl) dX10_broken_6 ?_
    refine V_ifnull dX10_broken_9 ?_
    refine V_aln dX10_broken_12 rfl ?_
    refine V_iln dX10_broken_13 rfl ?_
    refine V_iln dX10_broken_14 rfl ?_
    refine V_iln dX10_broken_15 rfl ?_
    refine V_cV3d hM cvX10_235 (by assumption) rfl (e_X10_putOnN hW hG hx) ⟨Nat.le_of_ble_eq_true rfl, Nat.le_of_ble_eq_true rfl, Nat.le_of_ble_eq_true rfl, Nat.le_of_ble_eq_true rfl⟩ (Nat.le_of_ble_eq_true rfl) dX10_broken_16 ?_
    refine V_top bI_f.symm ?_
    refine V_ifne_b (tgt := 25) dX10_broken_19 rfl (fun c19 => ?_) (fun c19 => ?_)
    · cases c19 --done
    · refine V_bipush (v := -2) rfl dX10_broken_22 ?_
      exact V_iret hM dX10_broken_24 (mDet.rf)
  · refine V_aln dX10_broken_0 rfl ?_
    refine V_getR dX10_broken_1 flX10_19 (by assumption) rfl (by assumption) ?_
    refine V_il dX10_broken_4 rfl ?_
    refine V_cV1d hM cvX10_187 (by assumption) rfl (e_X2_findN hC (by simpa using ha)) ⟨Nat.le_of_ble_eq_true rfl, Nat.le_of_ble_eq_true rfl, Nat.le_of_ble_eq_true rfl, Nat.le_of_ble_eq_true rfl⟩ (Nat.le_of_ble_eq_true rfl) dX10_broken_6 ?_
    refine V_ifnullN (tgt := 22) dX10_broken_9 rfl ?_
    refine V_bipush (v := -2) rfl dX10_broken_22 ?_
    exact V_iret hM dX10_broken_24 (mDet.rf)
theorem e_X10_alter {nr nw nf nl ng na g p : Nat} {day : Int32} (hJ : JW sh I P nr nw nf nl ng na) (hp : p < 30) (hg : g < ng) (hd : inB day 10000 = true) : Ev X B mdX10_alter 0 0 [.ref (B + 0), .int (nI p), .int (nI g), .int day] nx sh I P (mScr (altF I P nr nw nf nl na g p day) nx sh I P) := by
  obtain ⟨hW, hr, hw, hf, hl, hG, hC⟩ := hJ
  have s0 : sh 0 = some (.inl 10) := hW.1 0 _ rfl
  have s30 : sh 30 = some (.inl 9) := hW.1 30 _ rfl
  have hl' : NLi (putM I P nr nw nf nl g (nI p) day) nl := ⟨by rw [putM_o (by decide)]; exact hl.1, hl.2⟩
  refine Ev.of (by decide) (by simp [Value.category]) (by simp) (fun G hM => ?_)
  have hM : mM X B "alter" (some FieldType.int) 6 137 0 0 _ G := hM
  show V X B RX10 cX10_alter G 0 0 nx sh I P 0 [some (.ref (B + 0)), some (.int (nI p)), some (.int (nI g)), some (.int day)] []
  refine V_aln dX10_alter_0 rfl ?_
  refine V_iln dX10_alter_1 rfl ?_
  refine V_iln dX10_alter_2 rfl ?_
  refine V_iln dX10_alter_3 rfl ?_
  refine V_cV3d hM cvX10_235 (by assumption) rfl (e_X10_putOn hW hr hw hf hl hG (inB_of hp (by omega)) hg hd) ⟨Nat.le_of_ble_eq_true rfl, Nat.le_of_ble_eq_true rfl, Nat.le_of_ble_eq_true rfl, Nat.le_of_ble_eq_true rfl⟩ (Nat.le_of_ble_eq_true rfl) dX10_alter_4 ?_
  refine V_top bI_t.symm ?_
  refine V_ifne_b (tgt := 13) dX10_alter_7 rfl (fun c7 => ?_) (fun c7 => ?_)
  · refine V_aln dX10_alter_13 rfl ?_
    refine V_cV0d hM cvX10_284 (by assumption) rfl (e_X10_cheapestChange hW.p30 (hC.p30 s30 (fun c k h => putM_o h)) hl' (hG.wear hg s30)) ⟨Nat.le_of_ble_eq_true rfl, Nat.le_of_ble_eq_true rfl, Nat.le_of_ble_eq_true rfl, Nat.le_of_ble_eq_true rfl⟩ (Nat.le_of_ble_eq_true rfl) dX10_alter_14 ?_
    exact V_iret hM dX10_alter_17 (mScr_bd)
  · cases c7 --done
theorem e_X10_alterN {n : Nat} {p g day : Int32} (hW : CW sh P) (hG : GownsAt sh I P n) (hx : (inB p 30 && inB g n && inB day 10000) = false) : Ev X B mdX10_alter 0 0 [.ref (B + 0), .int p, .int g, .int day] nx sh I P (mDet (some (.int (-2))) nx sh I P) := by
  have s0 : sh 0 = some (.inl 10) := hW.1 0 _ rfl
  refine Ev.of (by decide) (by simp [Value.category]) (by simp) (fun G hM => ?_)
  have hM : mM X B "alter" (some FieldType.int) 6 137 0 0 _ G := hM
  show V X B RX10 cX10_alter G 0 0 nx sh I P 0 [some (.ref (B + 0)), some (.int p), some (.int g), some (.int day)] []
  refine V_aln dX10_alter_0 rfl ?_
  refine V_iln dX10_alter_1 rfl ?_
  refine V_iln dX10_alter_2 rfl ?_
  refine V_iln dX10_alter_3 rfl ?_
  refine V_cV3d hM cvX10_235 (by assumption) rfl (e_X10_putOnN hW hG hx) ⟨Nat.le_of_ble_eq_true rfl, Nat.le_of_ble_eq_true rfl, Nat.le_of_ble_eq_true rfl, Nat.le_of_ble_eq_true rfl⟩ (Nat.le_of_ble_eq_true rfl) dX10_alter_4 ?_
  refine V_top bI_f.symm ?_
  refine V_ifne_b (tgt := 13) dX10_alter_7 rfl (fun c7 => ?_) (fun c7 => ?_)
  · cases c7 --done
  · refine V_bipush (v := -2) rfl dX10_alter_10 ?_
    exact V_iret hM dX10_alter_12 (mDet.rf)
def bstF (f c : Int32) : Int32 := if f = 0 then 0 else if ¬ c = -1 ∧ c ≤ f then 1 else 2
theorem e_X10_best {nr nw nf nl ng na g p : Nat} {day : Int32} (hJ : JW sh I P nr nw nf nl ng na) (hp : p < 30) (hg : g < ng) (hd : inB day 10000 = true) : Ev X B mdX10_best 0 0 [.ref (B + 0), .int (nI p), .int (nI g), .int day] nx sh I P (mScr (bstF (fineF I P nr nw nf nl na g p day) (altF I P nr nw nf nl na g p day)) nx sh I P) := by
  obtain ⟨hW, hr, hw, hf, hl, hG, hC⟩ := hJ
  have s0 : sh 0 = some (.inl 10) := hW.1 0 _ rfl
  have s30 : sh 30 = some (.inl 9) := hW.1 30 _ rfl
  have hl' : NLi (putM I P nr nw nf nl g (nI p) day) nl := ⟨by rw [putM_o (by decide)]; exact hl.1, hl.2⟩
  refine Ev.of (by decide) (by simp [Value.category]) (by simp) (fun G hM => ?_)
  have hM : mM X B "best" (some FieldType.int) 6 137 0 0 _ G := hM
  show V X B RX10 cX10_best G 0 0 nx sh I P 0 [some (.ref (B + 0)), some (.int (nI p)), some (.int (nI g)), some (.int day), none, none] []
  refine V_aln dX10_best_0 rfl ?_
  refine V_iln dX10_best_1 rfl ?_
  refine V_iln dX10_best_2 rfl ?_
  refine V_iln dX10_best_3 rfl ?_
  refine V_cV3d hM cvX10_235 (by assumption) rfl (e_X10_putOn hW hr hw hf hl hG (inB_of hp (by omega)) hg hd) ⟨Nat.le_of_ble_eq_true rfl, Nat.le_of_ble_eq_true rfl, Nat.le_of_ble_eq_true rfl, Nat.le_of_ble_eq_true rfl⟩ (Nat.le_of_ble_eq_true rfl) dX10_best_4 ?_
  refine V_top bI_t.symm ?_
  refine V_ifne_b (tgt := 13) dX10_best_7 rfl (fun c7 => ?_) (fun c7 => ?_)
  · refine V_aln dX10_best_13 rfl ?_
    refine V_iln dX10_best_14 rfl ?_
    refine V_cV1d hM cvX10_239 (by assumption) rfl (e_X10_fineOfWearing hW.p30 (hC.p30 s30 (fun c k h => putM_o h)) (hG.wear hg s30) hp) ⟨Nat.le_of_ble_eq_true rfl, Nat.le_of_ble_eq_true rfl, Nat.le_of_ble_eq_true rfl, Nat.le_of_ble_eq_true rfl⟩ (Nat.le_of_ble_eq_true rfl) dX10_best_15 ?_
    refine V_is4 dX10_best_18 ?_
    refine V_il dX10_best_20 rfl ?_
    refine V_if_ne (tgt := 27) dX10_best_22 rfl (fun c22 => ?_) (fun c22 => ?_)
    · have c22 : ¬ fineF I P nr nw nf nl na g p day = 0 := c22
      refine V_aln dX10_best_27 rfl ?_
      refine V_cV0d hM cvX10_284 (by assumption) rfl (e_X10_cheapestChange hW.p30 (hC.p30 s30 (fun c k h => putM_o h)) hl' (hG.wear hg s30)) ⟨Nat.le_of_ble_eq_true rfl, Nat.le_of_ble_eq_true rfl, Nat.le_of_ble_eq_true rfl, Nat.le_of_ble_eq_true rfl⟩ (Nat.le_of_ble_eq_true rfl) dX10_best_28 ?_
      refine V_is5 dX10_best_31 ?_
      refine V_il dX10_best_33 rfl ?_
      refine V_iconst (v := -1) rfl dX10_best_35 ?_
      refine V_icmp_eq (tgt := 50) dX10_best_36 rfl (fun c36 => ?_) (fun c36 => ?_)
      · have c36 : altF I P nr nw nf nl na g p day = -1 := c36
        refine V_iconst (v := 2) rfl dX10_best_50 ?_
        exact V_iret hM dX10_best_51 (by rw [bstF, if_neg c22]; simp only [c7, c22, c36, not_true_eq_false, not_false_eq_true, and_true, and_false, false_and, true_and, if_true, if_false]; exact mScr_bd)
      · have c36 : ¬ altF I P nr nw nf nl na g p day = -1 := c36
        refine V_il dX10_best_39 rfl ?_
        refine V_il dX10_best_41 rfl ?_
        refine V_icmp_gt (tgt := 50) dX10_best_43 rfl (fun c43 => ?_) (fun c43 => ?_)
        · have c43 : ¬ altF I P nr nw nf nl na g p day ≤ fineF I P nr nw nf nl na g p day := i_lt_nle c43
          refine V_iconst (v := 2) rfl dX10_best_50 ?_
          exact V_iret hM dX10_best_51 (by rw [bstF, if_neg c22]; simp only [c7, c22, c36, c43, not_true_eq_false, not_false_eq_true, and_true, and_false, false_and, true_and, if_true, if_false]; exact mScr_bd)
        · have c43 : altF I P nr nw nf nl na g p day ≤ fineF I P nr nw nf nl na g p day := i_nlt c43
          refine V_iconst (v := 1) rfl dX10_best_46 ?_
          refine V_goto (tgt := 51) dX10_best_47 rfl ?_
          exact V_iret hM dX10_best_51 (by rw [bstF, if_neg c22]; simp only [c7, c22, c36, c43, not_true_eq_false, not_false_eq_true, and_true, and_false, false_and, true_and, if_true, if_false]; exact mScr_bd)
    · have c22 : fineF I P nr nw nf nl na g p day = 0 := by first | exact c22 | exact Classical.not_not.mp c22
      refine V_iconst (v := 0) rfl dX10_best_25 ?_
      exact V_iret hM dX10_best_26 (by rw [bstF, if_pos c22]; exact mScr_put)
  · cases c7 --done
theorem e_X10_bestN {n : Nat} {p g day : Int32} (hW : CW sh P) (hG : GownsAt sh I P n) (hx : (inB p 30 && inB g n && inB day 10000) = false) : Ev X B mdX10_best 0 0 [.ref (B + 0), .int p, .int g, .int day] nx sh I P (mDet (some (.int (-2))) nx sh I P) := by
  have s0 : sh 0 = some (.inl 10) := hW.1 0 _ rfl
  refine Ev.of (by decide) (by simp [Value.category]) (by simp) (fun G hM => ?_)
  have hM : mM X B "best" (some FieldType.int) 6 137 0 0 _ G := hM
  show V X B RX10 cX10_best G 0 0 nx sh I P 0 [some (.ref (B + 0)), some (.int p), some (.int g), some (.int day), none, none] []
  refine V_aln dX10_best_0 rfl ?_
  refine V_iln dX10_best_1 rfl ?_
  refine V_iln dX10_best_2 rfl ?_
  refine V_iln dX10_best_3 rfl ?_
  refine V_cV3d hM cvX10_235 (by assumption) rfl (e_X10_putOnN hW hG hx) ⟨Nat.le_of_ble_eq_true rfl, Nat.le_of_ble_eq_true rfl, Nat.le_of_ble_eq_true rfl, Nat.le_of_ble_eq_true rfl⟩ (Nat.le_of_ble_eq_true rfl) dX10_best_4 ?_
  refine V_top bI_f.symm ?_
  refine V_ifne_b (tgt := 13) dX10_best_7 rfl (fun c7 => ?_) (fun c7 => ?_)
  · cases c7 --done
  · refine V_bipush (v := -2) rfl dX10_best_10 ?_
    exact V_iret hM dX10_best_12 (mDet.rf)
/-! judge -/
theorem e_X10_judgeN {n : Nat} {k : Int32} (hW : CW sh P) (hL : LettsAt sh I P n) (hk : inB k n = false) : Ev X B mdX10_judge 0 0 [.ref (B + 0), .int k] nx sh I P (mDet (some (.int (-2))) nx sh I P) := by
  have s0 : sh 0 = some (.inl 10) := hW.1 0 _ rfl
  refine Ev.of (by decide) (by simp [Value.category]) (by simp) (fun G hM => ?_)
  have hM : mM X B "judge" (some FieldType.int) 6 134 0 0 _ G := hM
  show V X B RX10 cX10_judge G 0 0 nx sh I P 0 [some (.ref (B + 0)), some (.int k), none, none] []
  refine V_aln dX10_judge_0 rfl ?_
  refine V_iln dX10_judge_1 rfl ?_
  refine V_cV1d hM cvX10_249 (by assumption) rfl (e_X10_findLetterN hW hL hk) ⟨Nat.le_of_ble_eq_true rfl, Nat.le_of_ble_eq_true rfl, Nat.le_of_ble_eq_true rfl, Nat.le_of_ble_eq_true rfl⟩ (Nat.le_of_ble_eq_true rfl) dX10_judge_2 ?_
  refine V_an2 dX10_judge_5 ?_
  refine V_alnN dX10_judge_6 rfl ?_
  refine V_ifnonnullN dX10_judge_7 ?_
  refine V_bipush (v := -2) rfl dX10_judge_10 ?_
  exact V_iret hM dX10_judge_12 (mDet.rf)
theorem e_X10_judgeS {n k : Nat} (hW : CW sh P) (hL : LettsAt sh I P n) (hk : k < n) (hs : ¬ I (pg P 25 k) 4 = 0) : Ev X B mdX10_judge 0 0 [.ref (B + 0), .int (nI k)] nx sh I P (mDet (some (.int (-4))) nx sh I P) := by
  have s0 : sh 0 = some (.inl 10) := hW.1 0 _ rfl
  have h1 := (hL.2.2 k hk).2
  refine Ev.of (by decide) (by simp [Value.category]) (by simp) (fun G hM => ?_)
  have hM : mM X B "judge" (some FieldType.int) 6 134 0 0 _ G := hM
  show V X B RX10 cX10_judge G 0 0 nx sh I P 0 [some (.ref (B + 0)), some (.int (nI k)), none, none] []
  refine V_aln dX10_judge_0 rfl ?_
  refine V_iln dX10_judge_1 rfl ?_
  refine V_cV1d hM cvX10_249 (by assumption) rfl (e_X10_findLetter hW hL hk) ⟨Nat.le_of_ble_eq_true rfl, Nat.le_of_ble_eq_true rfl, Nat.le_of_ble_eq_true rfl, Nat.le_of_ble_eq_true rfl⟩ (Nat.le_of_ble_eq_true rfl) dX10_judge_2 ?_
  refine V_as2 dX10_judge_5 ?_
  refine V_aln dX10_judge_6 rfl ?_
  refine V_ifnonnull (tgt := 13) dX10_judge_7 rfl ?_
  refine V_aln dX10_judge_13 rfl ?_
  refine V_getI dX10_judge_14 flX10_253 (by assumption) rfl ?_
  refine V_if_eq (tgt := 23) dX10_judge_17 rfl (fun c17 => ?_) (fun c17 => ?_)
  · exact absurd c17 hs --done
  · refine V_bipush (v := -4) rfl dX10_judge_20 ?_
    exact V_iret hM dX10_judge_22 (mDet.rf)
theorem e_X10_judgeD {n k : Nat} (hW : CW sh P) (hL : LettsAt sh I P n) (hk : k < n) (hs : I (pg P 25 k) 4 = 0) (hw : wasF I P n (pg P 25 k) = true) : Ev X B mdX10_judge 0 0 [.ref (B + 0), .int (nI k)] nx sh I P (mDet (some (.int 3)) nx sh (mUp I (pg P 25 k) 4 3) P) := by
  have s0 : sh 0 = some (.inl 10) := hW.1 0 _ rfl
  have h1 := (hL.2.2 k hk).2
  refine Ev.of (by decide) (by simp [Value.category]) (by simp) (fun G hM => ?_)
  have hM : mM X B "judge" (some FieldType.int) 6 134 0 0 _ G := hM
  show V X B RX10 cX10_judge G 0 0 nx sh I P 0 [some (.ref (B + 0)), some (.int (nI k)), none, none] []
  refine V_aln dX10_judge_0 rfl ?_
  refine V_iln dX10_judge_1 rfl ?_
  refine V_cV1d hM cvX10_249 (by assumption) rfl (e_X10_findLetter hW hL hk) ⟨Nat.le_of_ble_eq_true rfl, Nat.le_of_ble_eq_true rfl, Nat.le_of_ble_eq_true rfl, Nat.le_of_ble_eq_true rfl⟩ (Nat.le_of_ble_eq_true rfl) dX10_judge_2 ?_
  refine V_as2 dX10_judge_5 ?_
  refine V_aln dX10_judge_6 rfl ?_
  refine V_ifnonnull (tgt := 13) dX10_judge_7 rfl ?_
  refine V_aln dX10_judge_13 rfl ?_
  refine V_getI dX10_judge_14 flX10_253 (by assumption) rfl ?_
  refine V_if_eq (tgt := 23) dX10_judge_17 rfl (fun c17 => ?_) (fun c17 => ?_)
  · refine V_aln dX10_judge_23 rfl ?_
    refine V_aln dX10_judge_24 rfl ?_
    refine V_cV1d hM cvX10_256 (by assumption) rfl (e_X10_wasConvicted hW hL h1) ⟨Nat.le_of_ble_eq_true rfl, Nat.le_of_ble_eq_true rfl, Nat.le_of_ble_eq_true rfl, Nat.le_of_ble_eq_true rfl⟩ (Nat.le_of_ble_eq_true rfl) dX10_judge_25 ?_
    refine V_ifeq_b (tgt := 38) dX10_judge_28 rfl (fun c28 => ?_) (fun c28 => ?_)
    · rw [hw] at c28; cases c28 --done
    · refine V_aln dX10_judge_31 rfl ?_
      refine V_iconst (v := 3) rfl dX10_judge_32 ?_
      refine V_putI dX10_judge_33 flX10_253 (by assumption) rfl rfl ?_
      refine V_iconst (v := 3) rfl dX10_judge_36 ?_
      exact V_iret hM dX10_judge_37 (mDet.rf)
  · exact absurd hs c17 --done
theorem pg_wP {g c k : Nat} (h : c ≠ 30) : pg (wP P g) c k = pg P c k := pg_p30 h
/-- convicted, or false: what the fine decides -/
theorem e_X10_judge {nr nw nf nl ng na n k g p by' : Nat} {day : Int32} (hJ : JW sh I P nr nw nf nl ng na) (hL : LettsAt sh I P n) (hk : k < n) (hs : I (pg P 25 k) 4 = 0) (hw0 : wasF I P n (pg P 25 k) = false) (h1 : I (pg P 25 k) 1 = nI p) (h2 : I (pg P 25 k) 2 = nI g) (h3 : I (pg P 25 k) 3 = day) (h0 : I (pg P 25 k) 0 = nI by') (hp : p < 30) (hg : g < ng) (hd : inB day 10000 = true) (hb : by' < 30) :
    Ev X B mdX10_judge 0 0 [.ref (B + 0), .int (nI k)] nx sh I P (fun v nx' sh' I' P' => nx' = nx ∧ sh' = sh ∧ P' = wP P g ∧ if 0 < fineF I P nr nw nf nl na g p day then v = some (.int 1) ∧ I' = convM (putM I P nr nw nf nl g (nI p) day) (pg P 25 k) p by' (fineF I P nr nw nf nl na g p day) (shareF (fineF I P nr nw nf nl na g p day) (partF (putM I P nr nw nf nl g (nI p) day) (wP P g) na day)) else v = some (.int 2) ∧ I' = falsM (putM I P nr nw nf nl g (nI p) day) (pg P 25 k) by') := by
  obtain ⟨hW, hr, hw, hf, hl, hG, hC⟩ := hJ
  have s0 : sh 0 = some (.inl 10) := hW.1 0 _ rfl
  have s30 : sh 30 = some (.inl 9) := hW.1 30 _ rfl
  have p0_1 : P 0 1 = some 6 := hW.2 0 1 6 rfl
  have s6 : sh 6 = some (.inl 2) := hW.1 6 _ rfl
  have q1 := (hL.2.2 k hk).2
  have n30 : pg P 25 k ≠ 30 := sh_ne q1 s30 (by decide)
  have m1 : putM I P nr nw nf nl g (nI p) day (pg P 25 k) 1 = nI p := by rw [putM_o n30]; exact h1
  have m0 : putM I P nr nw nf nl g (nI p) day (pg P 25 k) 0 = nI by' := by rw [putM_o n30]; exact h0
  have m3 : putM I P nr nw nf nl g (nI p) day (pg P 25 k) 3 = day := by rw [putM_o n30]; exact h3
  refine Ev.of (by decide) (by simp [Value.category]) (by simp) (fun G hM => ?_)
  have hM : mM X B "judge" (some FieldType.int) 6 134 0 0 _ G := hM
  show V X B RX10 cX10_judge G 0 0 nx sh I P 0 [some (.ref (B + 0)), some (.int (nI k)), none, none] []
  have q27 := sh_ne q1 (hW.1 27 _ rfl) shn_oi
  have q26 := sh_ne q1 (hW.1 26 _ rfl) shn_oi
  have q28 := sh_ne q1 (hW.1 28 _ rfl) shn_oi
  have q0 : pg P 25 k ≠ 0 := sh_ne q1 s0 (by decide)
  refine V_aln dX10_judge_0 rfl ?_
  refine V_iln dX10_judge_1 rfl ?_
  refine V_cV1d hM cvX10_249 (by assumption) rfl (e_X10_findLetter hW hL hk) ⟨Nat.le_of_ble_eq_true rfl, Nat.le_of_ble_eq_true rfl, Nat.le_of_ble_eq_true rfl, Nat.le_of_ble_eq_true rfl⟩ (Nat.le_of_ble_eq_true rfl) dX10_judge_2 ?_
  refine V_as2 dX10_judge_5 ?_
  refine V_aln dX10_judge_6 rfl ?_
  refine V_ifnonnull (tgt := 13) dX10_judge_7 rfl ?_
  refine V_aln dX10_judge_13 rfl ?_
  refine V_getI dX10_judge_14 flX10_253 (by assumption) rfl ?_
  refine V_if_eq (tgt := 23) dX10_judge_17 rfl (fun c17 => ?_) (fun c17 => ?_)
  · refine V_aln dX10_judge_23 rfl ?_
    refine V_aln dX10_judge_24 rfl ?_
    refine V_cV1d hM cvX10_256 (by assumption) rfl (e_X10_wasConvicted hW hL q1) ⟨Nat.le_of_ble_eq_true rfl, Nat.le_of_ble_eq_true rfl, Nat.le_of_ble_eq_true rfl, Nat.le_of_ble_eq_true rfl⟩ (Nat.le_of_ble_eq_true rfl) dX10_judge_25 ?_
    refine V_ifeq_b (tgt := 38) dX10_judge_28 rfl (fun c28 => ?_) (fun c28 => ?_)
    · refine V_aln dX10_judge_38 rfl ?_
      refine V_aln dX10_judge_39 rfl ?_
      refine V_getIv dX10_judge_40 flX10_260 (by assumption) rfl (h1) ?_
      refine V_aln dX10_judge_43 rfl ?_
      refine V_getIv dX10_judge_44 flX10_263 (by assumption) rfl (h2) ?_
      refine V_aln dX10_judge_47 rfl ?_
      refine V_getIv dX10_judge_48 flX10_266 (by assumption) rfl (h3) ?_
      refine V_cV3d hM cvX10_235 (by assumption) rfl (e_X10_putOn hW hr hw hf hl hG (inB_of hp (by omega)) hg hd) ⟨Nat.le_of_ble_eq_true rfl, Nat.le_of_ble_eq_true rfl, Nat.le_of_ble_eq_true rfl, Nat.le_of_ble_eq_true rfl⟩ (Nat.le_of_ble_eq_true rfl) dX10_judge_51 ?_
      refine V_top bI_t.symm ?_
      refine V_ifeq_b (tgt := 68) dX10_judge_54 rfl (fun c54 => ?_) (fun c54 => ?_)
      · cases c54 --done
      · refine V_aln dX10_judge_57 rfl ?_
        refine V_aln dX10_judge_58 rfl ?_
        refine V_getIv dX10_judge_59 flX10_260 (by assumption) rfl (m1) ?_
        refine V_cV1d hM cvX10_239 (by assumption) rfl (e_X10_fineOfWearing hW.p30 (hC.p30 s30 (fun c k h => putM_o h)) (hG.wear hg s30) hp) ⟨Nat.le_of_ble_eq_true rfl, Nat.le_of_ble_eq_true rfl, Nat.le_of_ble_eq_true rfl, Nat.le_of_ble_eq_true rfl⟩ (Nat.le_of_ble_eq_true rfl) dX10_judge_62 ?_
        refine V_goto (tgt := 69) dX10_judge_65 rfl ?_
        refine V_is3 dX10_judge_69 ?_
        refine V_iln dX10_judge_70 rfl ?_
        refine V_if_le (tgt := 83) dX10_judge_71 rfl (fun c71 => ?_) (fun c71 => ?_)
        · have c71 : fineF I P nr nw nf nl na g p day ≤ 0 := c71
          refine V_aln dX10_judge_83 rfl ?_
          refine V_aln dX10_judge_84 rfl ?_
          refine V_cV1n hM cvX10_273 (by assumption) rfl (e_X10_punishFalse hW.p30 q1 m0 hb) ⟨Nat.le_of_ble_eq_true rfl, Nat.le_of_ble_eq_true rfl, Nat.le_of_ble_eq_true rfl, Nat.le_of_ble_eq_true rfl⟩ (Nat.le_of_ble_eq_true rfl) dX10_judge_85 ?_
          refine V_aln dX10_judge_88 rfl ?_
          refine V_getI dX10_judge_89 flX10_253 (by assumption) rfl ?_
          exact V_iret hM dX10_judge_92 (⟨rfl, rfl, rfl, by first | (rw [if_pos (i_nle c71)]; exact ⟨by simp [convM, mUp, q0, q26, q27, q28], by rw [m3]; rfl⟩) | (rw [if_neg (i_le_nlt c71)]; exact ⟨by simp [falsM, mUp, q0, q27], rfl⟩)⟩)
        · have c71 : ¬ fineF I P nr nw nf nl na g p day ≤ 0 := c71
          refine V_aln dX10_judge_74 rfl ?_
          refine V_aln dX10_judge_75 rfl ?_
          refine V_iln dX10_judge_76 rfl ?_
          refine V_cV2n hM cvX10_269 (by assumption) rfl (e_X10_convict hW.p30 (hC.p30 s30 (fun c k h => putM_o h)) q1 m1 m0 hp hb) ⟨Nat.le_of_ble_eq_true rfl, Nat.le_of_ble_eq_true rfl, Nat.le_of_ble_eq_true rfl, Nat.le_of_ble_eq_true rfl⟩ (Nat.le_of_ble_eq_true rfl) dX10_judge_77 ?_
          refine V_goto (tgt := 88) dX10_judge_80 rfl ?_
          refine V_aln dX10_judge_88 rfl ?_
          refine V_getI dX10_judge_89 flX10_253 (by assumption) rfl ?_
          exact V_iret hM dX10_judge_92 (⟨rfl, rfl, rfl, by first | (rw [if_pos (i_nle c71)]; exact ⟨by simp [convM, mUp, q0, q26, q27, q28], by rw [m3]; rfl⟩) | (rw [if_neg (i_le_nlt c71)]; exact ⟨by simp [falsM, mUp, q0, q27], rfl⟩)⟩)
    · rw [hw0] at c28; cases c28 --done
  · exact absurd hs c17 --done
/-! gown, letter -/
def gwI (I : mI) (o c : Nat) (a b d e f s k : Int32) : mI := mUp (mUp (mUp (mUp (mUp (mUp (mUp (mUp (mNI I c) o 3 (-1)) c 0 a) c 1 b) c 2 d) c 3 e) c 4 f) o 1 s) o 2 k
theorem e_X3_init {o : Nat} {a b d e f s k : Int32} (h1 : sh o = some (.inl 3)) (hno : o ≠ nx) : Ev X B mdX3_init 1 5 [.ref (B + o), .int a, .int b, .int d, .int e, .int f, .int s, .int k] nx sh I P (mDet none (nx + 1) (mUs sh nx (.inr (0, 5))) (gwI I o nx a b d e f s k) (mUp P o 0 (some nx))) := by
  have hs1 : mUs sh nx (.inr (0, 5)) o = some (.inl 3) := by simp [mUs, hno, h1]
  have hs2 : mUs sh nx (.inr (0, 5)) nx = some (.inr (0, 5)) := by simp [mUs]
  have hp : mUp P o 0 (some nx) o 0 = some nx := mUp_s
  refine Ev.of (by decide) (by simp [Value.category]) (by simp) (fun G hM => ?_)
  have hM : mM X B "<init>" none 1 20 1 5 _ G := hM
  show V X B RX3 cX3_init G 0 0 nx sh I P 0 [some (.ref (B + o)), some (.int a), some (.int b), some (.int d), some (.int e), some (.int f), some (.int s), some (.int k)] []
  refine V_aln dX3_init_0 rfl ?_
  refine V_obj hM lkX3_3 wO1 wO2 (Nat.le_of_ble_eq_true rfl) (Nat.le_of_ble_eq_true rfl) dX3_init_1 ?_
  refine V_aln dX3_init_4 rfl ?_
  refine V_iconst (v := 5) rfl dX3_init_5 ?_
  refine V_newa (at0 := .int) (t := 0) (N := 5) hM ka_int rfl (by decide) (by decide) (by decide) (by decide) (Nat.le_of_ble_eq_true rfl) (Nat.le_of_ble_eq_true rfl) dX3_init_6 ?_
  refine V_putPF (o := some nx) hM dX3_init_8 flX3_9 (by assumption) rfl (ty := .array .int) (by decide +kernel) (Or.inr ⟨_, rfl⟩) rfl ?_
  refine V_aln dX3_init_11 rfl ?_
  refine V_iconst (v := -1) rfl dX3_init_12 ?_
  refine V_putI dX3_init_13 flX3_15 (by assumption) rfl rfl ?_
  refine V_aln dX3_init_16 rfl ?_
  refine V_getR dX3_init_17 flX3_9 (by assumption) rfl (by assumption) ?_
  refine V_iconst (v := 0) rfl dX3_init_20 ?_
  refine V_iln dX3_init_21 rfl ?_
  refine V_iastN (i := 0) dX3_init_22 (by assumption) (by omega) (by omega) ?_
  refine V_aln dX3_init_23 rfl ?_
  refine V_getR dX3_init_24 flX3_9 (by assumption) rfl (by assumption) ?_
  refine V_iconst (v := 1) rfl dX3_init_27 ?_
  refine V_iln dX3_init_28 rfl ?_
  refine V_iastN (i := 1) dX3_init_29 (by assumption) (by omega) (by omega) ?_
  refine V_aln dX3_init_30 rfl ?_
  refine V_getR dX3_init_31 flX3_9 (by assumption) rfl (by assumption) ?_
  refine V_iconst (v := 2) rfl dX3_init_34 ?_
  refine V_iln dX3_init_35 rfl ?_
  refine V_iastN (i := 2) dX3_init_36 (by assumption) (by omega) (by omega) ?_
  refine V_aln dX3_init_37 rfl ?_
  refine V_getR dX3_init_38 flX3_9 (by assumption) rfl (by assumption) ?_
  refine V_iconst (v := 3) rfl dX3_init_41 ?_
  refine V_il dX3_init_42 rfl ?_
  refine V_iastN (i := 3) dX3_init_44 (by assumption) (by omega) (by omega) ?_
  refine V_aln dX3_init_45 rfl ?_
  refine V_getR dX3_init_46 flX3_9 (by assumption) rfl (by assumption) ?_
  refine V_iconst (v := 4) rfl dX3_init_49 ?_
  refine V_il dX3_init_50 rfl ?_
  refine V_iastN (i := 4) dX3_init_52 (by assumption) (by omega) (by omega) ?_
  refine V_aln dX3_init_53 rfl ?_
  refine V_il dX3_init_54 rfl ?_
  refine V_putIF hM dX3_init_56 flX3_19 (by assumption) rfl rfl rfl ?_
  refine V_aln dX3_init_59 rfl ?_
  refine V_il dX3_init_60 rfl ?_
  refine V_putIF hM dX3_init_62 flX3_22 (by assumption) rfl rfl rfl ?_
  exact V_vret hM dX3_init_65 (mDet.rf)
theorem e_X10_gownN {a b d e f s k : Int32} (hW : CW sh P) (hx : (inB a 10000 && inB b 10000 && inB d 10000 && inB e 10000 && inB f 10000 && inB s 16 && inB k 8) = false) : Ev X B mdX10_gown 2 9 [.ref (B + 0), .int a, .int b, .int d, .int e, .int f, .int s, .int k] nx sh I P (mDet (some (.int (-2))) nx sh I P) := by
  have s0 : sh 0 = some (.inl 10) := hW.1 0 _ rfl
  refine Ev.of (by decide) (by simp [Value.category]) (by simp) (fun G hM => ?_)
  have hM : mM X B "gown" (some FieldType.int) 2 47 2 9 _ G := hM
  show V X B RX10 cX10_gown G 0 0 nx sh I P 0 [some (.ref (B + 0)), some (.int a), some (.int b), some (.int d), some (.int e), some (.int f), some (.int s), some (.int k), none] []
  refine V.widen (a := 2) (b := 9) (by omega) (by omega) ?_
  refine V_iln dX10_gown_0 rfl ?_
  refine V_cS1d hM cvX10_136 (e_X10_isMeasure) ⟨Nat.le_of_ble_eq_true rfl, Nat.le_of_ble_eq_true rfl, Nat.le_of_ble_eq_true rfl, Nat.le_of_ble_eq_true rfl⟩ (Nat.le_of_ble_eq_true rfl) dX10_gown_1 ?_
  refine V_ifeq_b (tgt := 41) dX10_gown_4 rfl (fun c4 => ?_) (fun c4 => ?_)
  · refine V_iconst (v := 0) rfl dX10_gown_41 ?_
    refine V_is8 dX10_gown_42 ?_
    refine V_il dX10_gown_44 rfl ?_
    refine V_if_eq (tgt := 65) dX10_gown_46 rfl (fun _ => ?_) (fun h => absurd rfl h)
    refine V_bipush (v := -2) rfl dX10_gown_65 ?_
    exact V_iret hM dX10_gown_67 (mDet.rf)
  · refine V_iln dX10_gown_7 rfl ?_
    refine V_cS1d hM cvX10_136 (e_X10_isMeasure) ⟨Nat.le_of_ble_eq_true rfl, Nat.le_of_ble_eq_true rfl, Nat.le_of_ble_eq_true rfl, Nat.le_of_ble_eq_true rfl⟩ (Nat.le_of_ble_eq_true rfl) dX10_gown_8 ?_
    refine V_ifeq_b (tgt := 41) dX10_gown_11 rfl (fun c11 => ?_) (fun c11 => ?_)
    · refine V_iconst (v := 0) rfl dX10_gown_41 ?_
      refine V_is8 dX10_gown_42 ?_
      refine V_il dX10_gown_44 rfl ?_
      refine V_if_eq (tgt := 65) dX10_gown_46 rfl (fun _ => ?_) (fun h => absurd rfl h)
      refine V_bipush (v := -2) rfl dX10_gown_65 ?_
      exact V_iret hM dX10_gown_67 (mDet.rf)
    · refine V_iln dX10_gown_14 rfl ?_
      refine V_cS1d hM cvX10_136 (e_X10_isMeasure) ⟨Nat.le_of_ble_eq_true rfl, Nat.le_of_ble_eq_true rfl, Nat.le_of_ble_eq_true rfl, Nat.le_of_ble_eq_true rfl⟩ (Nat.le_of_ble_eq_true rfl) dX10_gown_15 ?_
      refine V_ifeq_b (tgt := 41) dX10_gown_18 rfl (fun c18 => ?_) (fun c18 => ?_)
      · refine V_iconst (v := 0) rfl dX10_gown_41 ?_
        refine V_is8 dX10_gown_42 ?_
        refine V_il dX10_gown_44 rfl ?_
        refine V_if_eq (tgt := 65) dX10_gown_46 rfl (fun _ => ?_) (fun h => absurd rfl h)
        refine V_bipush (v := -2) rfl dX10_gown_65 ?_
        exact V_iret hM dX10_gown_67 (mDet.rf)
      · refine V_il dX10_gown_21 rfl ?_
        refine V_cS1d hM cvX10_136 (e_X10_isMeasure) ⟨Nat.le_of_ble_eq_true rfl, Nat.le_of_ble_eq_true rfl, Nat.le_of_ble_eq_true rfl, Nat.le_of_ble_eq_true rfl⟩ (Nat.le_of_ble_eq_true rfl) dX10_gown_23 ?_
        refine V_ifeq_b (tgt := 41) dX10_gown_26 rfl (fun c26 => ?_) (fun c26 => ?_)
        · refine V_iconst (v := 0) rfl dX10_gown_41 ?_
          refine V_is8 dX10_gown_42 ?_
          refine V_il dX10_gown_44 rfl ?_
          refine V_if_eq (tgt := 65) dX10_gown_46 rfl (fun _ => ?_) (fun h => absurd rfl h)
          refine V_bipush (v := -2) rfl dX10_gown_65 ?_
          exact V_iret hM dX10_gown_67 (mDet.rf)
        · refine V_il dX10_gown_29 rfl ?_
          refine V_cS1d hM cvX10_136 (e_X10_isMeasure) ⟨Nat.le_of_ble_eq_true rfl, Nat.le_of_ble_eq_true rfl, Nat.le_of_ble_eq_true rfl, Nat.le_of_ble_eq_true rfl⟩ (Nat.le_of_ble_eq_true rfl) dX10_gown_31 ?_
          refine V_ifeq_b (tgt := 41) dX10_gown_34 rfl (fun c34 => ?_) (fun c34 => ?_)
          · refine V_iconst (v := 0) rfl dX10_gown_41 ?_
            refine V_is8 dX10_gown_42 ?_
            refine V_il dX10_gown_44 rfl ?_
            refine V_if_eq (tgt := 65) dX10_gown_46 rfl (fun _ => ?_) (fun h => absurd rfl h)
            refine V_bipush (v := -2) rfl dX10_gown_65 ?_
            exact V_iret hM dX10_gown_67 (mDet.rf)
          · refine V_iconst (v := 1) rfl dX10_gown_37 ?_
            refine V_goto (tgt := 42) dX10_gown_38 rfl ?_
            refine V_is8 dX10_gown_42 ?_
            refine V_il dX10_gown_44 rfl ?_
            refine V_if_eq (tgt := 65) dX10_gown_46 rfl (fun h => absurd h (by decide)) (fun _ => ?_)
            refine V_il dX10_gown_49 rfl ?_
            refine V_cS1d hM cvX10_139 (e_X10_isStuff) ⟨Nat.le_of_ble_eq_true rfl, Nat.le_of_ble_eq_true rfl, Nat.le_of_ble_eq_true rfl, Nat.le_of_ble_eq_true rfl⟩ (Nat.le_of_ble_eq_true rfl) dX10_gown_51 ?_
            refine V_ifeq_b (tgt := 65) dX10_gown_54 rfl (fun c54 => ?_) (fun c54 => ?_)
            · refine V_bipush (v := -2) rfl dX10_gown_65 ?_
              exact V_iret hM dX10_gown_67 (mDet.rf)
            · refine V_il dX10_gown_57 rfl ?_
              refine V_cS1d hM cvX10_142 (e_X10_isColour) ⟨Nat.le_of_ble_eq_true rfl, Nat.le_of_ble_eq_true rfl, Nat.le_of_ble_eq_true rfl, Nat.le_of_ble_eq_true rfl⟩ (Nat.le_of_ble_eq_true rfl) dX10_gown_59 ?_
              refine V_ifne_b (tgt := 68) dX10_gown_62 rfl (fun c62 => ?_) (fun c62 => ?_)
              · simp [c4, c11, c18, c26, c34, c54, c62] at hx --done
              · refine V_bipush (v := -2) rfl dX10_gown_65 ?_
                exact V_iret hM dX10_gown_67 (mDet.rf)
theorem e_X10_gownF {a b d e f s k : Int32} (hW : CW sh P) (hG : GownsAt sh I P 40) (hx : (inB a 10000 && inB b 10000 && inB d 10000 && inB e 10000 && inB f 10000 && inB s 16 && inB k 8) = true) : Ev X B mdX10_gown 2 9 [.ref (B + 0), .int a, .int b, .int d, .int e, .int f, .int s, .int k] nx sh I P (mDet (some (.int (-3))) nx sh I P) := by
  have s0 : sh 0 = some (.inl 10) := hW.1 0 _ rfl
  have hg := hG.1
  simp only [Bool.and_eq_true] at hx
  refine Ev.of (by decide) (by simp [Value.category]) (by simp) (fun G hM => ?_)
  have hM : mM X B "gown" (some FieldType.int) 2 47 2 9 _ G := hM
  show V X B RX10 cX10_gown G 0 0 nx sh I P 0 [some (.ref (B + 0)), some (.int a), some (.int b), some (.int d), some (.int e), some (.int f), some (.int s), some (.int k), none] []
  refine V.widen (a := 2) (b := 9) (by omega) (by omega) ?_
  refine V_iln dX10_gown_0 rfl ?_
  refine V_cS1d hM cvX10_136 (e_X10_isMeasure) ⟨Nat.le_of_ble_eq_true rfl, Nat.le_of_ble_eq_true rfl, Nat.le_of_ble_eq_true rfl, Nat.le_of_ble_eq_true rfl⟩ (Nat.le_of_ble_eq_true rfl) dX10_gown_1 ?_
  refine V_ifeq_b (tgt := 41) dX10_gown_4 rfl (fun c4 => ?_) (fun c4 => ?_)
  · rw [hx.1.1.1.1.1.1] at c4; cases c4 --done
  · refine V_iln dX10_gown_7 rfl ?_
    refine V_cS1d hM cvX10_136 (e_X10_isMeasure) ⟨Nat.le_of_ble_eq_true rfl, Nat.le_of_ble_eq_true rfl, Nat.le_of_ble_eq_true rfl, Nat.le_of_ble_eq_true rfl⟩ (Nat.le_of_ble_eq_true rfl) dX10_gown_8 ?_
    refine V_ifeq_b (tgt := 41) dX10_gown_11 rfl (fun c11 => ?_) (fun c11 => ?_)
    · rw [hx.1.1.1.1.1.2] at c11; cases c11 --done
    · refine V_iln dX10_gown_14 rfl ?_
      refine V_cS1d hM cvX10_136 (e_X10_isMeasure) ⟨Nat.le_of_ble_eq_true rfl, Nat.le_of_ble_eq_true rfl, Nat.le_of_ble_eq_true rfl, Nat.le_of_ble_eq_true rfl⟩ (Nat.le_of_ble_eq_true rfl) dX10_gown_15 ?_
      refine V_ifeq_b (tgt := 41) dX10_gown_18 rfl (fun c18 => ?_) (fun c18 => ?_)
      · rw [hx.1.1.1.1.2] at c18; cases c18 --done
      · refine V_il dX10_gown_21 rfl ?_
        refine V_cS1d hM cvX10_136 (e_X10_isMeasure) ⟨Nat.le_of_ble_eq_true rfl, Nat.le_of_ble_eq_true rfl, Nat.le_of_ble_eq_true rfl, Nat.le_of_ble_eq_true rfl⟩ (Nat.le_of_ble_eq_true rfl) dX10_gown_23 ?_
        refine V_ifeq_b (tgt := 41) dX10_gown_26 rfl (fun c26 => ?_) (fun c26 => ?_)
        · rw [hx.1.1.1.2] at c26; cases c26 --done
        · refine V_il dX10_gown_29 rfl ?_
          refine V_cS1d hM cvX10_136 (e_X10_isMeasure) ⟨Nat.le_of_ble_eq_true rfl, Nat.le_of_ble_eq_true rfl, Nat.le_of_ble_eq_true rfl, Nat.le_of_ble_eq_true rfl⟩ (Nat.le_of_ble_eq_true rfl) dX10_gown_31 ?_
          refine V_ifeq_b (tgt := 41) dX10_gown_34 rfl (fun c34 => ?_) (fun c34 => ?_)
          · rw [hx.1.1.2] at c34; cases c34 --done
          · refine V_iconst (v := 1) rfl dX10_gown_37 ?_
            refine V_goto (tgt := 42) dX10_gown_38 rfl ?_
            refine V_is8 dX10_gown_42 ?_
            refine V_il dX10_gown_44 rfl ?_
            refine V_if_eq (tgt := 65) dX10_gown_46 rfl (fun h => absurd h (by decide)) (fun _ => ?_)
            refine V_il dX10_gown_49 rfl ?_
            refine V_cS1d hM cvX10_139 (e_X10_isStuff) ⟨Nat.le_of_ble_eq_true rfl, Nat.le_of_ble_eq_true rfl, Nat.le_of_ble_eq_true rfl, Nat.le_of_ble_eq_true rfl⟩ (Nat.le_of_ble_eq_true rfl) dX10_gown_51 ?_
            refine V_ifeq_b (tgt := 65) dX10_gown_54 rfl (fun c54 => ?_) (fun c54 => ?_)
            · rw [hx.1.2] at c54; cases c54 --done
            · refine V_il dX10_gown_57 rfl ?_
              refine V_cS1d hM cvX10_142 (e_X10_isColour) ⟨Nat.le_of_ble_eq_true rfl, Nat.le_of_ble_eq_true rfl, Nat.le_of_ble_eq_true rfl, Nat.le_of_ble_eq_true rfl⟩ (Nat.le_of_ble_eq_true rfl) dX10_gown_59 ?_
              refine V_ifne_b (tgt := 68) dX10_gown_62 rfl (fun c62 => ?_) (fun c62 => ?_)
              · refine V_aln dX10_gown_68 rfl ?_
                refine V_getIv dX10_gown_69 flX10_47 (by assumption) rfl (hg) ?_
                refine V_bipush (v := 40) rfl dX10_gown_72 ?_
                refine V_icmp_lt (tgt := 80) dX10_gown_74 rfl (fun c74 => ?_) (fun c74 => ?_)
                · exact absurd c74 (by decide) --done
                · refine V_bipush (v := -3) rfl dX10_gown_77 ?_
                  exact V_iret hM dX10_gown_79 (mDet.rf)
              · rw [hx.2] at c62; cases c62 --done
def gnI (I : mI) (nx n : Nat) (a b d e f s k : Int32) : mI := mUp (gwI (mNI I nx) nx (nx + 1) a b d e f s k) 0 7 (nI (n + 1))
def gnP (P : mP) (nx n : Nat) : mP := mUp (mUp (mNP P nx) nx 0 (some (nx + 1))) 24 n (some nx)
def gnS (sh : Nat → Option mSh) (nx : Nat) : Nat → Option mSh := mUs (mUs sh nx (.inl 3)) (nx + 1) (.inr (0, 5))
theorem e_X10_gown {n : Nat} {a b d e f s k : Int32} (hW : CW sh P) (hG : GownsAt sh I P n) (hn : n < 40) (hx : (inB a 10000 && inB b 10000 && inB d 10000 && inB e 10000 && inB f 10000 && inB s 16 && inB k 8) = true) (h100 : 76 ≤ nx) : Ev X B mdX10_gown 2 9 [.ref (B + 0), .int a, .int b, .int d, .int e, .int f, .int s, .int k] nx sh I P (mDet (some (.int (nI n))) (nx + 2) (gnS sh nx) (gnI I nx n a b d e f s k) (gnP P nx n)) := by
  have s0 : sh 0 = some (.inl 10) := hW.1 0 _ rfl
  have p0_6 : P 0 6 = some 24 := hW.2 0 6 24 rfl
  have s24 : sh 24 = some (.inr (2, 40)) := hW.1 24 _ rfl
  have hg := hG.1
  simp only [Bool.and_eq_true] at hx
  have t0 : mUs sh nx (.inl 3) nx = some (.inl 3) := by simp [mUs]
  have t1 : gnS sh nx 0 = some (.inl 10) := by unfold gnS mUs; rw [if_neg (by omega), if_neg (by omega)]; exact s0
  have t2 : gnS sh nx 24 = some (.inr (2, 40)) := by unfold gnS mUs; rw [if_neg (by omega), if_neg (by omega)]; exact s24
  have t3 : gnS sh nx nx = some (.inl (mElem 2)) := by simp [gnS, mUs, mElem]
  have t4 : gnS sh nx = mUs (mUs sh nx (.inl 3)) (nx + 1) (.inr (0, 5)) := rfl
  have u1 : gwI (mNI I nx) nx (nx + 1) a b d e f s k 0 7 = nI n := by
    rw [← hg]
    simp [gwI, mUp, mNI]
    omega
  refine Ev.of (by decide) (by simp [Value.category]) (by simp) (fun G hM => ?_)
  have hM : mM X B "gown" (some FieldType.int) 2 47 2 9 _ G := hM
  show V X B RX10 cX10_gown G 0 0 nx sh I P 0 [some (.ref (B + 0)), some (.int a), some (.int b), some (.int d), some (.int e), some (.int f), some (.int s), some (.int k), none] []
  refine V_iln dX10_gown_0 rfl ?_
  refine V_cS1d hM cvX10_136 (e_X10_isMeasure) ⟨Nat.le_of_ble_eq_true rfl, Nat.le_of_ble_eq_true rfl, Nat.le_of_ble_eq_true rfl, Nat.le_of_ble_eq_true rfl⟩ (Nat.le_of_ble_eq_true rfl) dX10_gown_1 ?_
  refine V_ifeq_b (tgt := 41) dX10_gown_4 rfl (fun c4 => ?_) (fun c4 => ?_)
  · rw [hx.1.1.1.1.1.1] at c4; cases c4 --done
  · refine V_iln dX10_gown_7 rfl ?_
    refine V_cS1d hM cvX10_136 (e_X10_isMeasure) ⟨Nat.le_of_ble_eq_true rfl, Nat.le_of_ble_eq_true rfl, Nat.le_of_ble_eq_true rfl, Nat.le_of_ble_eq_true rfl⟩ (Nat.le_of_ble_eq_true rfl) dX10_gown_8 ?_
    refine V_ifeq_b (tgt := 41) dX10_gown_11 rfl (fun c11 => ?_) (fun c11 => ?_)
    · rw [hx.1.1.1.1.1.2] at c11; cases c11 --done
    · refine V_iln dX10_gown_14 rfl ?_
      refine V_cS1d hM cvX10_136 (e_X10_isMeasure) ⟨Nat.le_of_ble_eq_true rfl, Nat.le_of_ble_eq_true rfl, Nat.le_of_ble_eq_true rfl, Nat.le_of_ble_eq_true rfl⟩ (Nat.le_of_ble_eq_true rfl) dX10_gown_15 ?_
      refine V_ifeq_b (tgt := 41) dX10_gown_18 rfl (fun c18 => ?_) (fun c18 => ?_)
      · rw [hx.1.1.1.1.2] at c18; cases c18 --done
      · refine V_il dX10_gown_21 rfl ?_
        refine V_cS1d hM cvX10_136 (e_X10_isMeasure) ⟨Nat.le_of_ble_eq_true rfl, Nat.le_of_ble_eq_true rfl, Nat.le_of_ble_eq_true rfl, Nat.le_of_ble_eq_true rfl⟩ (Nat.le_of_ble_eq_true rfl) dX10_gown_23 ?_
        refine V_ifeq_b (tgt := 41) dX10_gown_26 rfl (fun c26 => ?_) (fun c26 => ?_)
        · rw [hx.1.1.1.2] at c26; cases c26 --done
        · refine V_il dX10_gown_29 rfl ?_
          refine V_cS1d hM cvX10_136 (e_X10_isMeasure) ⟨Nat.le_of_ble_eq_true rfl, Nat.le_of_ble_eq_true rfl, Nat.le_of_ble_eq_true rfl, Nat.le_of_ble_eq_true rfl⟩ (Nat.le_of_ble_eq_true rfl) dX10_gown_31 ?_
          refine V_ifeq_b (tgt := 41) dX10_gown_34 rfl (fun c34 => ?_) (fun c34 => ?_)
          · rw [hx.1.1.2] at c34; cases c34 --done
          · refine V_iconst (v := 1) rfl dX10_gown_37 ?_
            refine V_goto (tgt := 42) dX10_gown_38 rfl ?_
            refine V_is8 dX10_gown_42 ?_
            refine V_il dX10_gown_44 rfl ?_
            refine V_if_eq (tgt := 65) dX10_gown_46 rfl (fun h => absurd h (by decide)) (fun _ => ?_)
            refine V_il dX10_gown_49 rfl ?_
            refine V_cS1d hM cvX10_139 (e_X10_isStuff) ⟨Nat.le_of_ble_eq_true rfl, Nat.le_of_ble_eq_true rfl, Nat.le_of_ble_eq_true rfl, Nat.le_of_ble_eq_true rfl⟩ (Nat.le_of_ble_eq_true rfl) dX10_gown_51 ?_
            refine V_ifeq_b (tgt := 65) dX10_gown_54 rfl (fun c54 => ?_) (fun c54 => ?_)
            · rw [hx.1.2] at c54; cases c54 --done
            · refine V_il dX10_gown_57 rfl ?_
              refine V_cS1d hM cvX10_142 (e_X10_isColour) ⟨Nat.le_of_ble_eq_true rfl, Nat.le_of_ble_eq_true rfl, Nat.le_of_ble_eq_true rfl, Nat.le_of_ble_eq_true rfl⟩ (Nat.le_of_ble_eq_true rfl) dX10_gown_59 ?_
              refine V_ifne_b (tgt := 68) dX10_gown_62 rfl (fun c62 => ?_) (fun c62 => ?_)
              · refine V_aln dX10_gown_68 rfl ?_
                refine V_getIv dX10_gown_69 flX10_47 (by assumption) rfl (hg) ?_
                refine V_bipush (v := 40) rfl dX10_gown_72 ?_
                refine V_icmp_lt (tgt := 80) dX10_gown_74 rfl (fun c74 => ?_) (fun c74 => ?_)
                · refine V_aln dX10_gown_80 rfl ?_
                  refine V_getR dX10_gown_81 flX10_43 (by assumption) rfl (by assumption) ?_
                  refine V_aln dX10_gown_84 rfl ?_
                  refine V_getIv dX10_gown_85 flX10_47 (by assumption) rfl (hg) ?_
                  refine V_new (ci := 3) hM (by decide) klX10_41 kt3 ki3 (fun _ => df3) (Nat.le_of_ble_eq_true rfl) (Nat.le_of_ble_eq_true rfl) dX10_gown_88 ?_
                  refine V_dup rfl dX10_gown_91 ?_
                  refine V_iln dX10_gown_92 rfl ?_
                  refine V_iln dX10_gown_93 rfl ?_
                  refine V_iln dX10_gown_94 rfl ?_
                  refine V_il dX10_gown_95 rfl ?_
                  refine V_il dX10_gown_97 rfl ?_
                  refine V_il dX10_gown_99 rfl ?_
                  refine V_il dX10_gown_101 rfl ?_
                  refine V_cI7n hM cvX10_145 (e_X3_init t0 (by omega)) ⟨Nat.le_of_ble_eq_true rfl, Nat.le_of_ble_eq_true rfl, Nat.le_of_ble_eq_true rfl, Nat.le_of_ble_eq_true rfl⟩ (Nat.le_of_ble_eq_true rfl) dX10_gown_103 ?_
                  rw [← t4]
                  refine V_aastN dX10_gown_106 (by assumption) (by decide) (t3) (by omega) (by omega) ?_
                  refine V_aln dX10_gown_107 rfl ?_
                  refine V_dup rfl dX10_gown_108 ?_
                  refine V_getIv dX10_gown_109 flX10_47 (by assumption) rfl (u1) ?_
                  refine V_iconst (v := 1) rfl dX10_gown_112 ?_
                  refine V_iadd dX10_gown_113 ?_
                  refine V_top (nI_inc' n) ?_
                  refine V_putI dX10_gown_114 flX10_47 (by assumption) rfl rfl ?_
                  refine V_aln dX10_gown_117 rfl ?_
                  refine V_getIv (v := nI (n + 1)) dX10_gown_118 flX10_47 (by assumption) rfl (by simp [mUp]) ?_
                  refine V_iconst (v := 1) rfl dX10_gown_121 ?_
                  refine V_isub dX10_gown_122 ?_
                  refine V_top (nI_pred n) ?_
                  exact V_iret hM dX10_gown_123 (mDet.rf)
                · exact absurd (nI_lt (b := 40) hn (by omega)) c74 --done
              · rw [hx.2] at c62; cases c62 --done
def lrI (I : mI) (c : Nat) (b p g d : Int32) : mI := mUp (mUp (mUp (mUp (mUp (mUp (mUp I c 4 0) c 5 0) c 6 0) c 0 b) c 1 p) c 2 g) c 3 d
theorem e_X4_init {o : Nat} {b p g d : Int32} (h1 : sh o = some (.inl 4)) : Ev X B mdX4_init 0 0 [.ref (B + o), .int b, .int p, .int g, .int d] nx sh I P (mDet none nx sh (lrI I o b p g d) P) := by
  refine Ev.of (by decide) (by simp [Value.category]) (by simp) (fun G hM => ?_)
  have hM : mM X B "<init>" none 1 20 0 0 _ G := hM
  show V X B RX4 cX4_init G 0 0 nx sh I P 0 [some (.ref (B + o)), some (.int b), some (.int p), some (.int g), some (.int d)] []
  refine V_aln dX4_init_0 rfl ?_
  refine V_obj hM lkX4_3 wO1 wO2 (Nat.le_of_ble_eq_true rfl) (Nat.le_of_ble_eq_true rfl) dX4_init_1 ?_
  refine V_aln dX4_init_4 rfl ?_
  refine V_iconst (v := 0) rfl dX4_init_5 ?_
  refine V_putI dX4_init_6 flX4_9 (by assumption) rfl rfl ?_
  refine V_aln dX4_init_9 rfl ?_
  refine V_iconst (v := 0) rfl dX4_init_10 ?_
  refine V_putI dX4_init_11 flX4_15 (by assumption) rfl rfl ?_
  refine V_aln dX4_init_14 rfl ?_
  refine V_iconst (v := 0) rfl dX4_init_15 ?_
  refine V_putI dX4_init_16 flX4_18 (by assumption) rfl rfl ?_
  refine V_aln dX4_init_19 rfl ?_
  refine V_iln dX4_init_20 rfl ?_
  refine V_putIF hM dX4_init_21 flX4_21 (by assumption) rfl rfl rfl ?_
  refine V_aln dX4_init_24 rfl ?_
  refine V_iln dX4_init_25 rfl ?_
  refine V_putIF hM dX4_init_26 flX4_24 (by assumption) rfl rfl rfl ?_
  refine V_aln dX4_init_29 rfl ?_
  refine V_iln dX4_init_30 rfl ?_
  refine V_putIF hM dX4_init_31 flX4_27 (by assumption) rfl rfl rfl ?_
  refine V_aln dX4_init_34 rfl ?_
  refine V_il dX4_init_35 rfl ?_
  refine V_putIF hM dX4_init_37 flX4_30 (by assumption) rfl rfl rfl ?_
  exact V_vret hM dX4_init_40 (mDet.rf)
def ltC (ng : Nat) (b p g d : Int32) : Bool := inB b 30 && inB p 30 && !decide (b = p) && inB g ng && inB d 10000
theorem e_X10_letterN {ng : Nat} {b p g d : Int32} (hW : CW sh P) (hG : GownsAt sh I P ng) (hx : ltC ng b p g d = false) : Ev X B mdX10_letter 1 7 [.ref (B + 0), .int b, .int p, .int g, .int d] nx sh I P (mDet (some (.int (-2))) nx sh I P) := by
  have s0 : sh 0 = some (.inl 10) := hW.1 0 _ rfl
  refine Ev.of (by decide) (by simp [Value.category]) (by simp) (fun G hM => ?_)
  have hM : mM X B "letter" (some FieldType.int) 2 44 1 7 _ G := hM
  show V X B RX10 cX10_letter G 0 0 nx sh I P 0 [some (.ref (B + 0)), some (.int b), some (.int p), some (.int g), some (.int d)] []
  refine V.widen (a := 1) (b := 7) (by omega) (by omega) ?_
  by_cases hg : inB g ng = true
  · obtain ⟨j, hj, rfl⟩ := inB_nI hg (by have := hG.2.1; omega)
    refine V_iln dX10_letter_0 rfl ?_
    refine V_cS1d hM cvX10_106 (e_X10_isPerson) ⟨Nat.le_of_ble_eq_true rfl, Nat.le_of_ble_eq_true rfl, Nat.le_of_ble_eq_true rfl, Nat.le_of_ble_eq_true rfl⟩ (Nat.le_of_ble_eq_true rfl) dX10_letter_1 ?_
    refine V_ifeq_b (tgt := 35) dX10_letter_4 rfl (fun c4 => ?_) (fun c4 => ?_)
    · refine V_bipush (v := -2) rfl dX10_letter_35 ?_
      exact V_iret hM dX10_letter_37 (mDet.rf)
    · refine V_iln dX10_letter_7 rfl ?_
      refine V_cS1d hM cvX10_106 (e_X10_isPerson) ⟨Nat.le_of_ble_eq_true rfl, Nat.le_of_ble_eq_true rfl, Nat.le_of_ble_eq_true rfl, Nat.le_of_ble_eq_true rfl⟩ (Nat.le_of_ble_eq_true rfl) dX10_letter_8 ?_
      refine V_ifeq_b (tgt := 35) dX10_letter_11 rfl (fun c11 => ?_) (fun c11 => ?_)
      · refine V_bipush (v := -2) rfl dX10_letter_35 ?_
        exact V_iret hM dX10_letter_37 (mDet.rf)
      · refine V_iln dX10_letter_14 rfl ?_
        refine V_iln dX10_letter_15 rfl ?_
        refine V_icmp_eq (tgt := 35) dX10_letter_16 rfl (fun c16 => ?_) (fun c16 => ?_)
        · refine V_bipush (v := -2) rfl dX10_letter_35 ?_
          exact V_iret hM dX10_letter_37 (mDet.rf)
        · refine V_aln dX10_letter_19 rfl ?_
          refine V_iln dX10_letter_20 rfl ?_
          refine V_cV1d hM cvX10_148 (by assumption) rfl (e_X10_findGown hW hG hj) ⟨Nat.le_of_ble_eq_true rfl, Nat.le_of_ble_eq_true rfl, Nat.le_of_ble_eq_true rfl, Nat.le_of_ble_eq_true rfl⟩ (Nat.le_of_ble_eq_true rfl) dX10_letter_21 ?_
          refine V_ifnull dX10_letter_24 ?_
          refine V_il dX10_letter_27 rfl ?_
          refine V_cS1d hM cvX10_110 (e_X10_isDay) ⟨Nat.le_of_ble_eq_true rfl, Nat.le_of_ble_eq_true rfl, Nat.le_of_ble_eq_true rfl, Nat.le_of_ble_eq_true rfl⟩ (Nat.le_of_ble_eq_true rfl) dX10_letter_29 ?_
          refine V_ifne_b (tgt := 38) dX10_letter_32 rfl (fun c32 => ?_) (fun c32 => ?_)
          · simp [ltC, hg, c4, c11, c16, c32] at hx --done
          · refine V_bipush (v := -2) rfl dX10_letter_35 ?_
            exact V_iret hM dX10_letter_37 (mDet.rf)
  · refine V_iln dX10_letter_0 rfl ?_
    refine V_cS1d hM cvX10_106 (e_X10_isPerson) ⟨Nat.le_of_ble_eq_true rfl, Nat.le_of_ble_eq_true rfl, Nat.le_of_ble_eq_true rfl, Nat.le_of_ble_eq_true rfl⟩ (Nat.le_of_ble_eq_true rfl) dX10_letter_1 ?_
    refine V_ifeq_b (tgt := 35) dX10_letter_4 rfl (fun c4 => ?_) (fun c4 => ?_)
    · refine V_bipush (v := -2) rfl dX10_letter_35 ?_
      exact V_iret hM dX10_letter_37 (mDet.rf)
    · refine V_iln dX10_letter_7 rfl ?_
      refine V_cS1d hM cvX10_106 (e_X10_isPerson) ⟨Nat.le_of_ble_eq_true rfl, Nat.le_of_ble_eq_true rfl, Nat.le_of_ble_eq_true rfl, Nat.le_of_ble_eq_true rfl⟩ (Nat.le_of_ble_eq_true rfl) dX10_letter_8 ?_
      refine V_ifeq_b (tgt := 35) dX10_letter_11 rfl (fun c11 => ?_) (fun c11 => ?_)
      · refine V_bipush (v := -2) rfl dX10_letter_35 ?_
        exact V_iret hM dX10_letter_37 (mDet.rf)
      · refine V_iln dX10_letter_14 rfl ?_
        refine V_iln dX10_letter_15 rfl ?_
        refine V_icmp_eq (tgt := 35) dX10_letter_16 rfl (fun c16 => ?_) (fun c16 => ?_)
        · refine V_bipush (v := -2) rfl dX10_letter_35 ?_
          exact V_iret hM dX10_letter_37 (mDet.rf)
        · refine V_aln dX10_letter_19 rfl ?_
          refine V_iln dX10_letter_20 rfl ?_
          refine V_cV1d hM cvX10_148 (by assumption) rfl (e_X10_findGownN hW hG (by simpa using hg)) ⟨Nat.le_of_ble_eq_true rfl, Nat.le_of_ble_eq_true rfl, Nat.le_of_ble_eq_true rfl, Nat.le_of_ble_eq_true rfl⟩ (Nat.le_of_ble_eq_true rfl) dX10_letter_21 ?_
          refine V_ifnullN (tgt := 35) dX10_letter_24 rfl ?_
          refine V_bipush (v := -2) rfl dX10_letter_35 ?_
          exact V_iret hM dX10_letter_37 (mDet.rf)
theorem e_X10_letterF {ng g : Nat} {b p d : Int32} (hW : CW sh P) (hG : GownsAt sh I P ng) (hL : LettsAt sh I P 60) (hg : g < ng) (hx : ltC ng b p (nI g) d = true) : Ev X B mdX10_letter 1 7 [.ref (B + 0), .int b, .int p, .int (nI g), .int d] nx sh I P (mDet (some (.int (-3))) nx sh I P) := by
  have s0 : sh 0 = some (.inl 10) := hW.1 0 _ rfl
  have hl := hL.1
  simp only [ltC, Bool.and_eq_true, Bool.not_eq_true', decide_eq_false_iff_not] at hx
  refine Ev.of (by decide) (by simp [Value.category]) (by simp) (fun G hM => ?_)
  have hM : mM X B "letter" (some FieldType.int) 2 44 1 7 _ G := hM
  show V X B RX10 cX10_letter G 0 0 nx sh I P 0 [some (.ref (B + 0)), some (.int b), some (.int p), some (.int (nI g)), some (.int d)] []
  refine V.widen (a := 1) (b := 7) (by omega) (by omega) ?_
  refine V_iln dX10_letter_0 rfl ?_
  refine V_cS1d hM cvX10_106 (e_X10_isPerson) ⟨Nat.le_of_ble_eq_true rfl, Nat.le_of_ble_eq_true rfl, Nat.le_of_ble_eq_true rfl, Nat.le_of_ble_eq_true rfl⟩ (Nat.le_of_ble_eq_true rfl) dX10_letter_1 ?_
  refine V_ifeq_b (tgt := 35) dX10_letter_4 rfl (fun c4 => ?_) (fun c4 => ?_)
  · rw [hx.1.1.1.1] at c4; cases c4 --done
  · refine V_iln dX10_letter_7 rfl ?_
    refine V_cS1d hM cvX10_106 (e_X10_isPerson) ⟨Nat.le_of_ble_eq_true rfl, Nat.le_of_ble_eq_true rfl, Nat.le_of_ble_eq_true rfl, Nat.le_of_ble_eq_true rfl⟩ (Nat.le_of_ble_eq_true rfl) dX10_letter_8 ?_
    refine V_ifeq_b (tgt := 35) dX10_letter_11 rfl (fun c11 => ?_) (fun c11 => ?_)
    · rw [hx.1.1.1.2] at c11; cases c11 --done
    · refine V_iln dX10_letter_14 rfl ?_
      refine V_iln dX10_letter_15 rfl ?_
      refine V_icmp_eq (tgt := 35) dX10_letter_16 rfl (fun c16 => ?_) (fun c16 => ?_)
      · exact absurd c16 hx.1.1.2 --done
      · refine V_aln dX10_letter_19 rfl ?_
        refine V_iln dX10_letter_20 rfl ?_
        refine V_cV1d hM cvX10_148 (by assumption) rfl (e_X10_findGown hW hG hg) ⟨Nat.le_of_ble_eq_true rfl, Nat.le_of_ble_eq_true rfl, Nat.le_of_ble_eq_true rfl, Nat.le_of_ble_eq_true rfl⟩ (Nat.le_of_ble_eq_true rfl) dX10_letter_21 ?_
        refine V_ifnull dX10_letter_24 ?_
        refine V_il dX10_letter_27 rfl ?_
        refine V_cS1d hM cvX10_110 (e_X10_isDay) ⟨Nat.le_of_ble_eq_true rfl, Nat.le_of_ble_eq_true rfl, Nat.le_of_ble_eq_true rfl, Nat.le_of_ble_eq_true rfl⟩ (Nat.le_of_ble_eq_true rfl) dX10_letter_29 ?_
        refine V_ifne_b (tgt := 38) dX10_letter_32 rfl (fun c32 => ?_) (fun c32 => ?_)
        · refine V_aln dX10_letter_38 rfl ?_
          refine V_getIv dX10_letter_39 flX10_57 (by assumption) rfl (hl) ?_
          refine V_bipush (v := 60) rfl dX10_letter_42 ?_
          refine V_icmp_lt (tgt := 50) dX10_letter_44 rfl (fun c44 => ?_) (fun c44 => ?_)
          · exact absurd c44 (by decide) --done
          · refine V_bipush (v := -3) rfl dX10_letter_47 ?_
            exact V_iret hM dX10_letter_49 (mDet.rf)
        · rw [hx.2] at c32; cases c32 --done
def lnI (I : mI) (nx n : Nat) (b p g d : Int32) : mI := mUp (lrI (mNI I nx) nx b p g d) 0 9 (nI (n + 1))
def lnP (P : mP) (nx n : Nat) : mP := mUp (mNP P nx) 25 n (some nx)
theorem e_X10_letter {ng n g : Nat} {b p d : Int32} (hW : CW sh P) (hG : GownsAt sh I P ng) (hL : LettsAt sh I P n) (hn : n < 60) (hg : g < ng) (hx : ltC ng b p (nI g) d = true) (h100 : 76 ≤ nx) : Ev X B mdX10_letter 1 7 [.ref (B + 0), .int b, .int p, .int (nI g), .int d] nx sh I P (mDet (some (.int (nI n))) (nx + 1) (mUs sh nx (.inl 4)) (lnI I nx n b p (nI g) d) (lnP P nx n)) := by
  have s0 : sh 0 = some (.inl 10) := hW.1 0 _ rfl
  have p0_8 : P 0 8 = some 25 := hW.2 0 8 25 rfl
  have s25 : sh 25 = some (.inr (3, 60)) := hW.1 25 _ rfl
  have hl := hL.1
  simp only [ltC, Bool.and_eq_true, Bool.not_eq_true', decide_eq_false_iff_not] at hx
  have t0 : mUs sh nx (.inl 4) nx = some (.inl 4) := by simp [mUs]
  have t1 : mUs sh nx (.inl 4) 0 = some (.inl 10) := by simp [mUs, s0]; omega
  have t2 : mUs sh nx (.inl 4) 25 = some (.inr (3, 60)) := by simp [mUs, s25]; omega
  have t3 : mUs sh nx (.inl 4) nx = some (.inl (mElem 3)) := by simp [mUs, mElem]
  have u1 : lrI (mNI I nx) nx b p (nI g) d 0 9 = nI n := by
    rw [← hl]
    simp [lrI, mUp, mNI]
    omega
  refine Ev.of (by decide) (by simp [Value.category]) (by simp) (fun G hM => ?_)
  have hM : mM X B "letter" (some FieldType.int) 2 44 1 7 _ G := hM
  show V X B RX10 cX10_letter G 0 0 nx sh I P 0 [some (.ref (B + 0)), some (.int b), some (.int p), some (.int (nI g)), some (.int d)] []
  refine V_iln dX10_letter_0 rfl ?_
  refine V_cS1d hM cvX10_106 (e_X10_isPerson) ⟨Nat.le_of_ble_eq_true rfl, Nat.le_of_ble_eq_true rfl, Nat.le_of_ble_eq_true rfl, Nat.le_of_ble_eq_true rfl⟩ (Nat.le_of_ble_eq_true rfl) dX10_letter_1 ?_
  refine V_ifeq_b (tgt := 35) dX10_letter_4 rfl (fun c4 => ?_) (fun c4 => ?_)
  · rw [hx.1.1.1.1] at c4; cases c4 --done
  · refine V_iln dX10_letter_7 rfl ?_
    refine V_cS1d hM cvX10_106 (e_X10_isPerson) ⟨Nat.le_of_ble_eq_true rfl, Nat.le_of_ble_eq_true rfl, Nat.le_of_ble_eq_true rfl, Nat.le_of_ble_eq_true rfl⟩ (Nat.le_of_ble_eq_true rfl) dX10_letter_8 ?_
    refine V_ifeq_b (tgt := 35) dX10_letter_11 rfl (fun c11 => ?_) (fun c11 => ?_)
    · rw [hx.1.1.1.2] at c11; cases c11 --done
    · refine V_iln dX10_letter_14 rfl ?_
      refine V_iln dX10_letter_15 rfl ?_
      refine V_icmp_eq (tgt := 35) dX10_letter_16 rfl (fun c16 => ?_) (fun c16 => ?_)
      · exact absurd c16 hx.1.1.2 --done
      · refine V_aln dX10_letter_19 rfl ?_
        refine V_iln dX10_letter_20 rfl ?_
        refine V_cV1d hM cvX10_148 (by assumption) rfl (e_X10_findGown hW hG hg) ⟨Nat.le_of_ble_eq_true rfl, Nat.le_of_ble_eq_true rfl, Nat.le_of_ble_eq_true rfl, Nat.le_of_ble_eq_true rfl⟩ (Nat.le_of_ble_eq_true rfl) dX10_letter_21 ?_
        refine V_ifnull dX10_letter_24 ?_
        refine V_il dX10_letter_27 rfl ?_
        refine V_cS1d hM cvX10_110 (e_X10_isDay) ⟨Nat.le_of_ble_eq_true rfl, Nat.le_of_ble_eq_true rfl, Nat.le_of_ble_eq_true rfl, Nat.le_of_ble_eq_true rfl⟩ (Nat.le_of_ble_eq_true rfl) dX10_letter_29 ?_
        refine V_ifne_b (tgt := 38) dX10_letter_32 rfl (fun c32 => ?_) (fun c32 => ?_)
        · refine V_aln dX10_letter_38 rfl ?_
          refine V_getIv dX10_letter_39 flX10_57 (by assumption) rfl (hl) ?_
          refine V_bipush (v := 60) rfl dX10_letter_42 ?_
          refine V_icmp_lt (tgt := 50) dX10_letter_44 rfl (fun c44 => ?_) (fun c44 => ?_)
          · refine V_aln dX10_letter_50 rfl ?_
            refine V_getR dX10_letter_51 flX10_53 (by assumption) rfl (by assumption) ?_
            refine V_aln dX10_letter_54 rfl ?_
            refine V_getIv dX10_letter_55 flX10_57 (by assumption) rfl (hl) ?_
            refine V_new (ci := 4) hM (by decide) klX10_51 kt4 ki4 (fun _ => df4) (Nat.le_of_ble_eq_true rfl) (Nat.le_of_ble_eq_true rfl) dX10_letter_58 ?_
            refine V_dup rfl dX10_letter_61 ?_
            refine V_iln dX10_letter_62 rfl ?_
            refine V_iln dX10_letter_63 rfl ?_
            refine V_iln dX10_letter_64 rfl ?_
            refine V_il dX10_letter_65 rfl ?_
            refine V_cI4n hM cvX10_246 (e_X4_init t0) ⟨Nat.le_of_ble_eq_true rfl, Nat.le_of_ble_eq_true rfl, Nat.le_of_ble_eq_true rfl, Nat.le_of_ble_eq_true rfl⟩ (Nat.le_of_ble_eq_true rfl) dX10_letter_67 ?_
            refine V_aastN dX10_letter_70 (by assumption) (by decide) (t3) (by omega) (by omega) ?_
            refine V_aln dX10_letter_71 rfl ?_
            refine V_dup rfl dX10_letter_72 ?_
            refine V_getIv dX10_letter_73 flX10_57 (by assumption) rfl (u1) ?_
            refine V_iconst (v := 1) rfl dX10_letter_76 ?_
            refine V_iadd dX10_letter_77 ?_
            refine V_top (nI_inc' n) ?_
            refine V_putI dX10_letter_78 flX10_57 (by assumption) rfl rfl ?_
            refine V_aln dX10_letter_81 rfl ?_
            refine V_getIv (v := nI (n + 1)) dX10_letter_82 flX10_57 (by assumption) rfl (by simp [mUp]) ?_
            refine V_iconst (v := 1) rfl dX10_letter_85 ?_
            refine V_isub dX10_letter_86 ?_
            refine V_top (nI_pred n) ?_
            exact V_iret hM dX10_letter_87 (mDet.rf)
          · exact absurd (nI_lt (b := 60) hn (by omega)) c44 --done
        · rw [hx.2] at c32; cases c32 --done
end P2
