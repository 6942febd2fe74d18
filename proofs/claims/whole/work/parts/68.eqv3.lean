/-! ===== the cheapest change ===== -/
def BdR (Kc Km : mI) : Prop := (∀ j, j < 5 → Kc 34 j = Km 75 j) ∧ Kc 33 1 = Km 35 55 ∧ (∀ k, k < 8 → bit (Kc 33 2) k = bit (Km 35 56) k) ∧ ∀ k, 8 ≤ k → bit (Km 35 56) k = false
theorem bit_255 {k : Nat} : bit 255 k = decide (k < 8) := by
  by_cases h : k < 32
  · have : ∀ k : Fin 32, bit 255 k = decide (k.val < 8) := by decide +kernel
    exact this ⟨k, h⟩
  · rw [bit_hi (by omega), decide_eq_false (by omega)]
theorem BdR.step {Kc Km : mI} {k : Nat} {f : Nat → Int32} (h : BdR Kc Km) (hf : RuOk f) (e1 : Km 41 k = f 0) (e2 : Km 42 k = f 1) : BdR (nrwM Kc 33 34 (f 0) (f 1)) (gaR Km k) := by
  obtain ⟨⟨w, hw, ew⟩, r5, r6, -⟩ := hf
  obtain ⟨h1, h2, h3, h4⟩ := h
  have m5 : w ≠ 5 → ¬ nI w = 5 := fun hn e => hn (nI_inj (b := 5) e (by omega) (by omega))
  have m6 : w ≠ 6 → ¬ nI w = 6 := fun hn e => hn (nI_inj (b := 6) e (by omega) (by omega))
  have m7 : w ≠ 7 → ¬ nI w = 7 := fun hn e => hn (nI_inj (b := 7) e (by omega) (by omega))
  rw [ew] at r5 r6 e1
  rw [ew]
  by_cases c5 : w < 5
  · rw [gaR_lt e1 c5, nrwM, if_neg (m5 (by omega)), if_neg (m6 (by omega)), if_neg (m7 (by omega)), lowM, inB_of c5 (by decide), nI_clamp (by omega), if_pos rfl, e2]
    refine ⟨fun j hj => ?_, ?_, fun k hk => ?_, fun k hk => ?_⟩
    · by_cases e : j = w
      · rw [e, mUp_s, mUp_s, h1 w c5]
      · rw [mUp_k e, mUp_k e]; exact h1 j hj
    · rw [mUp_c (by decide), mUp_c (by decide)]; exact h2
    · rw [mUp_c (by decide), mUp_c (by decide)]; exact h3 k hk
    · rw [mUp_c (by decide)]; exact h4 k hk
  · by_cases e : w = 5
    · rw [gaR_5 e1 e, nrwM, if_pos (by rw [e]; rfl), e2]
      refine ⟨fun j hj => ?_, ?_, fun k hk => ?_, fun k hk => ?_⟩
      · rw [mUp_c (by decide), mUp_c (by decide)]; exact h1 j hj
      · rw [mUp_s, mUp_s, h2]
      · rw [mUp_k (by decide), mUp_k (by decide)]; exact h3 k hk
      · rw [mUp_k (by decide)]; exact h4 k hk
    · by_cases e6 : w = 6
      · obtain ⟨v, hv, ev⟩ := r6 (Or.inl (by rw [e6]; rfl))
        rw [gaR_6 e1 e6, nrwM, if_neg (m5 (by omega)), if_pos (by rw [e6]; rfl), e2, ev]
        refine ⟨fun j hj => ?_, ?_, fun k hk => ?_, fun k hk => ?_⟩
        · rw [mUp_c (by decide), mUp_c (by decide)]; exact h1 j hj
        · rw [mUp_k (by decide), mUp_k (by decide)]; exact h2
        · rw [mUp_s, mUp_s, or_bit, or_bit, h3 k hk]
        · rw [mUp_s, or_bit, h4 k hk, bt_bit (by omega), decide_eq_false (by omega)]; rfl
      · obtain ⟨v, hv, ev⟩ := r6 (Or.inr (by rw [show w = 7 by omega]; rfl))
        rw [gaR_7 e1 (by omega), nrwM, if_neg (m5 (by omega)), if_neg (m6 (by omega)), if_pos (by rw [show w = 7 by omega]; rfl), e2, ev]
        refine ⟨fun j hj => ?_, ?_, fun k hk => ?_, fun k hk => ?_⟩
        · rw [mUp_c (by decide), mUp_c (by decide)]; exact h1 j hj
        · rw [mUp_k (by decide), mUp_k (by decide)]; exact h2
        · rw [mUp_s, mUp_s, or_bit, or_bit, h3 k hk, and_bit, bit_255, decide_eq_true hk, Bool.true_and]
        · rw [mUp_s, or_bit, h4 k hk, and_bit, bit_255, decide_eq_false (by omega)]; rfl
theorem BdR.opn {J I : mI} : BdR (openM J 33 34) (gaO I) := by
  refine ⟨fun j hj => ?_, ?_, fun k hk => ?_, fun k hk => ?_⟩
  · simp [openM, gaO, mUp, mFill, hj]
  · simp [openM, gaO, mUp]
  · simp [openM, gaO, mUp]
  · simp [gaO, mUp, bit]
section EQ3
variable {nx stp : Nat} {sh : Nat → Option mSh} {I J : mI} {P Q : mP} {m na ng nk nr nw nf nl dr rl : Nat}
theorem RR.nar {g a : Nat} {rank occ day : Int32} {Kc Km : mI} (h : RR stp nx sh I P m na ng nk nr nw nf nl dr rl) (hg : g < ng) (hw : Wn I J P Q nl g rank occ day) (ha : a < na) (hK : BdR Kc Km) (hc : ∀ c, c ≠ 33 → c ≠ 34 → Kc c = J c) (hm : gaF I Km) (hin : (qInF I na day a && !letF (I 60 g) (I 36 a) day (I 38 a)) = true) : ∀ r, r ≤ aM I (pg P 7 a) → BdR (narM Kc Q 33 34 30 (pg P (pg P 7 a) 1) r) (gaA (fun k => qBi I na a k rank occ g day) Km a r) := by
  obtain ⟨-, -, -, e4⟩ := h.wn hg hw ha
  have hA := (h.2.2.2.1.2.2.2 a ha).2.2.2.2.2.2.2
  have hS := (h.2.2.2.1.1.2.2.2.2.2 a ha).2.2.2.2.2.2
  have s33 := h.1.1.1 33 _ rfl
  have s34 := h.1.1.1 34 _ rfl
  obtain ⟨hJ, hQ, j0, j1, j3, j4⟩ := hw
  intro r
  induction r with
  | zero => intro _; exact hK
  | succ r ih =>
    intro hr
    have ih := ih (by omega)
    obtain ⟨f1, f2⟩ := hA r (by omega)
    have n33 : pg P (pg P (pg P 7 a) 1) r ≠ 33 := sh_ne (hS r (by omega)).2 s33 (by decide)
    have n34 : pg P (pg P (pg P 7 a) 1) r ≠ 34 := sh_ne (hS r (by omega)).2 s34 shn_oi
    have er : Kc (pg P (pg P (pg P 7 a) 1) r) = I (pg P (pg P (pg P 7 a) 1) r) := (hc _ n33 n34).trans (e4 r (by omega)).2
    have hrc : rcF Kc 30 (pg P (pg P (pg P 7 a) 1) r) = qBi I na a (12 * a + r) rank occ g day := by
      unfold rcF qBi
      rw [er, hc 30 (by decide) (by decide), j0, j1, ← show I 43 (12 * a + r) = _ from f1 2 (by omega), ← show I 44 (12 * a + r) = _ from f1 3 (by omega), ← show I 45 (12 * a + r) = _ from f1 4 (by omega)]
      rw [Bool.and_eq_true] at hin
      rw [hin.1, hin.2, Bool.true_and, Bool.and_true]
    show BdR (if rcF Kc 30 (pg Q (pg P (pg P 7 a) 1) r) then nrwM (narM Kc Q 33 34 30 (pg P (pg P 7 a) 1) r) 33 34 (Kc (pg Q (pg P (pg P 7 a) 1) r) 0) (Kc (pg Q (pg P (pg P 7 a) 1) r) 1) else narM Kc Q 33 34 30 (pg P (pg P 7 a) 1) r) (if qBi I na a (12 * a + r) rank occ g day then gaR (gaA _ Km a r) (12 * a + r) else gaA _ Km a r)
    rw [(e4 r (by omega)).1, hrc]
    cases hq : qBi I na a (12 * a + r) rank occ g day with
    | false => exact ih
    | true =>
      simp only [if_true]
      have hF : gaF I (gaA (fun k => qBi I na a k rank occ g day) Km a r) := hm.trans (gaA_F r)
      have e0 : Kc (pg P (pg P (pg P 7 a) 1) r) 0 = I 41 (12 * a + r) := by rw [er]; exact (f1 0 (by omega)).symm
      have e1 : Kc (pg P (pg P (pg P 7 a) 1) r) 1 = I 42 (12 * a + r) := by rw [er]; exact (f1 1 (by omega)).symm
      rw [e0, e1]
      exact BdR.step (f := fun j => I (41 + j) (12 * a + r)) ih f2 (hF.1 41 _ (by decide) (by decide)) (hF.1 42 _ (by decide) (by decide))
theorem gaA_no {f : Nat → Bool} {K : mI} {a : Nat} (hf : ∀ k, f k = false) : ∀ r, gaA f K a r = K := by
  intro r
  induction r with
  | zero => rfl
  | succ r ih =>
    show (if f (12 * a + r) then _ else _) = _
    rw [hf, if_neg Bool.false_ne_true]
    exact ih
theorem RR.bnd {g p : Nat} {day : Int32} (h : RR stp nx sh I P m na ng nk nr nw nf nl dr rl) (hg : g < ng) (hw : Wn I J P Q nl g (pRk I p day) (pOc I nf p day) day) : ∀ a, a ≤ na → BdR (bndM J Q 7 33 34 30 (rchF J Q 7 na 30 (pg P 24 g)) a) (gaM (gaB I na nf p g day) I a) := by
  intro a
  induction a with
  | zero => intro _; exact BdR.opn
  | succ a ih =>
    intro ha
    have ih := ih (by omega)
    obtain ⟨e1, -, e3, -⟩ := h.wn hg hw (show a < na by omega)
    have hrm := h.rm (show a < na by omega)
    show BdR (if bitB (rchF J Q 7 na 30 (pg P 24 g)) a then narM (bndM J Q 7 33 34 30 (rchF J Q 7 na 30 (pg P 24 g)) a) Q 33 34 30 (pg Q (pg Q 7 a) 1) (aM J (pg Q 7 a)) else bndM J Q 7 33 34 30 (rchF J Q 7 na 30 (pg P 24 g)) a) (gaA (gaB I na nf p g day a) (gaM (gaB I na nf p g day) I a) a (rmC I a))
    have em : aM J (pg Q 7 a) = aM I (pg P 7 a) := by rw [(e3 a (by omega)).1]; unfold aM; rw [(e3 a (by omega)).2.1]
    rw [e1, em, hrm.1, (e3 a (by omega)).1, pg_cg (e3 a (by omega)).2.2 1]
    cases hq : (qInF I na day a && !letF (I 60 g) (I 36 a) day (I 38 a)) with
    | true => exact h.nar hg hw (by omega) ih (fun c c1 c2 => funext fun k => bndM_o c1 c2 a) (gaM_F a) hq _ (Nat.le_refl _)
    | false =>
      rw [gaA_no fun k => ?_]
      · exact ih
      · unfold gaB qBi
        rw [Bool.and_eq_false_iff] at hq
        rcases hq with hq | hq <;> rw [hq] <;> simp
theorem accF_sum {a0 : Int32} {f : Nat → Int32} : ∀ n, accF a0 f n = a0 + sumF f n := by
  intro n
  induction n with
  | zero => exact (Int32.add_zero a0).symm
  | succ n ih =>
    show accF a0 f n + f n = a0 + (sumF f n + f n)
    rw [ih, Int32.add_assoc]
theorem mCt_nat {j : Nat} {day : Int32} (hL : LkOk I nl) (hj : j < 16) : ∃ s, s < 16 ∧ mCt I nl day (nI j) = nI s := by
  unfold mCt
  have key : ∀ (z j : Nat), j < 16 → ∃ s, s < 16 ∧ cntA (mHl I nl day) z (nI j) = nI s := by
    intro z
    induction z with
    | zero => intro j hj; exact ⟨j, hj, rfl⟩
    | succ z ih =>
      intro j hj
      show ∃ s, s < 16 ∧ (if mHl I nl day (nI j) = nI j then nI j else cntA (mHl I nl day) z (mHl I nl day (nI j))) = nI s
      split
      · exact ⟨j, hj, rfl⟩
      · have hh : ∃ b, b < 16 ∧ mHl I nl day (nI j) = nI b := by
          unfold mHl
          cases hb : mLk I nl day (nI j) with
          | none => exact ⟨j, hj, rfl⟩
          | some k =>
            obtain ⟨a, b, h1, h2, h3, h4⟩ := hL k (mBst_lt nl hb)
            exact ⟨b, by omega, h2⟩
        obtain ⟨b, hb, eb⟩ := hh
        rw [eb]
        exact ih b hb
  exact key 16 j hj
theorem shB_bit {x : Int32} {j : Nat} (h : j < 32) : shB x (nI j) = bit x j := by
  unfold shB
  cases hb : bit x j with
  | true => exact decide_eq_true ((shr_bit h).mpr hb)
  | false => exact decide_eq_false fun e => by rw [(shr_bit h).mp e] at hb; cases hb
theorem allC8 {x : Int32} (h : ∀ k, 8 ≤ k → bit x k = false) : anyR (fun c => !bit x c) 8 = !decide (x = 255) := by
  by_cases e : x = 255
  · rw [decide_eq_true e, e]
    refine anyR_f fun j hj => ?_
    rw [bit_255, decide_eq_true hj]; rfl
  · rw [decide_eq_false e]
    cases ha : anyR (fun c => !bit x c) 8 with
    | true => rfl
    | false =>
      exfalso
      apply e
      apply bit_ext
      intro k hk
      rw [bit_255]
      by_cases h8 : k < 8
      · rw [decide_eq_true h8]
        cases hb : bit x k with
        | true => rfl
        | false => rw [anyR_t (f := fun c => !bit x c) h8 (by simp [hb])] at ha; cases ha
      · rw [decide_eq_false h8]; exact h k (by omega)
theorem i_lc {a b c : Int32} : a + (b + c) = b + (a + c) := by rw [← Int32.add_assoc, Int32.add_comm a b, Int32.add_assoc]
theorem RR.al {g p : Nat} {day : Int32} (h : RR stp nx sh I P m na ng nk nr nw nf nl dr rl) (hg : g < ng) (hp : p < 30) : altF I P nr nw nf nl na g p day = pAl (gaN I na nf p g day) nl g day := by
  have hw : Wn I (putM I P nr nw nf nl g (nI p) day) P (wP P g) nl g (pRk I p day) (pOc I nf p day) day := by rw [h.rk hp, h.oc hp]; exact Wn_put
  have hb := h.bnd hg hw na (Nat.le_refl _)
  have hct : ∀ s, mCt I nl day s = cCnt I nl day s := fun s => h.ct
  obtain ⟨b1, b2, b3, b4⟩ := hb
  have hF : gaF I (gaM (gaB I na nf p g day) I na) := gaM_F na
  show _ = pAl (gaM (gaB I na nf p g day) I na) nl g day
  obtain ⟨g1, g2, g3, g4, ⟨s, s1, s2⟩, ⟨cc, cc1, cc2⟩, g7⟩ := h.2.2.2.2.1.2.2.1 g hg
  have hG := h.2.2.2.2.1.1.2.2 g hg
  have sx := fun c z (hc : csF c = some z) => h.1.1.1 c z hc
  have n33 : pg P 24 g ≠ 33 := sh_ne hG.2.1 (sx 33 _ rfl) (by decide)
  have n34 : pg P 24 g ≠ 34 := sh_ne hG.2.1 (sx 34 _ rfl) shn_oi
  have n30 : pg P 24 g ≠ 30 := sh_ne hG.2.1 (sx 30 _ rfl) (by decide)
  have hL := h.2.2.2.2.2.2.2.2.2.1.2.2.1
  have h12 := h.2.2.2.2.2.2.2.2.2.2.2
  obtain ⟨hJ, -, -, -, j3, j4⟩ := hw
  unfold altF cheF bdM
  have eK : ∀ c, c ≠ 30 → c ≠ 33 → c ≠ 34 → bndM (putM I P nr nw nf nl g (nI p) day) (wP P g) 7 33 34 30 (rchF (putM I P nr nw nf nl g (nI p) day) (wP P g) 7 na 30 (pg P 24 g)) na c = I c := fun c c0 c1 c2 => (funext fun k => bndM_o c1 c2 na).trans (hJ c c0)
  have eK30 : ∀ k, bndM (putM I P nr nw nf nl g (nI p) day) (wP P g) 7 33 34 30 (rchF (putM I P nr nw nf nl g (nI p) day) (wP P g) 7 na 30 (pg P 24 g)) na 30 k = putM I P nr nw nf nl g (nI p) day 30 k := fun k => bndM_o (by decide) (by decide) na
  generalize bndM (putM I P nr nw nf nl g (nI p) day) (wP P g) 7 33 34 30 (rchF (putM I P nr nw nf nl g (nI p) day) (wP P g) 7 na 30 (pg P 24 g)) na = Kc at *
  generalize gaM (gaB I na nf p g day) I na = Km at *
  have eC : ∀ d x, cCnt Kc nl d x = mCt I nl d x := fun d x => by
    rw [h.ct]
    unfold cCnt
    congr 1
    funext y
    unfold cHeld
    rw [eK 21 (by decide) (by decide) (by decide), eK 22 (by decide) (by decide) (by decide), eK 23 (by decide) (by decide) (by decide)]
  have eL : ∀ j, j < 16 → lvS Kc (mCt I nl day (nI j)) = !pNoS Km nl day (nI j) := fun j hj => by
    obtain ⟨t, t1, t2⟩ := mCt_nat (day := day) hL hj
    unfold lvS pNoS
    rw [hF.ct, t2, ushr0_bit (by omega), shB_bit (by omega), b2]
  have e304 : Kc 30 4 = mCt I nl day (nI s) := by rw [eK30, j4, ← g1, s2, h.ct]
  have e303 : Kc 30 3 = day := by rw [eK30, j3]
  have eKm : ∀ c, c ≠ 35 → c ≠ 75 → Km c = I c := fun c c1 c2 => hF.fun c1 c2
  have p5 := h12 5 (by omega)
  have p6 := h12 6 (by omega)
  have np : ∀ k, k < 7 → ¬ I 29 k = -1 := fun k hk => by
    obtain ⟨q1, v, q2, q3⟩ := h12 k hk
    rw [← q1, q3]
    exact nI_nm1 (by omega)
  have eS : stF Kc nl = if pNoS Km nl day (nI s) then (if anyR (fun s => !pNoS Km nl day (nI s)) 16 then I 29 5 else -1) else 0 := by
    unfold stF
    rw [e304, eL s s1, e303]
    have : anyR (fun s => lvS Kc (cCnt Kc nl day (nI s))) 16 = anyR (fun s => !pNoS Km nl day (nI s)) 16 := anyR_cg fun j hj => by rw [eC, eL j hj]
    rw [this, eK 29 (by decide) (by decide) (by decide)]
    cases pNoS Km nl day (nI s) <;> rfl
  have eO : coF Kc (pg P 24 g) = if shB (Km 35 56) (Km 59 g) then (if Km 35 56 = 255 then -1 else I 29 6) else 0 := by
    unfold coF
    have ec : Kc (pg P 24 g) 2 = nI cc := by rw [eK _ n30 n33 n34, ← g2, cc2]
    have el : ∀ c, c < 8 → lvC Kc (nI c) = !bit (Km 35 56) c := fun c hc => by unfold lvC; rw [ushr0_bit (by omega), b3 c hc]
    rw [ec, el cc cc1, eKm 59 (by decide) (by decide), cc2, shB_bit (by omega)]
    have : anyR (fun c => lvC Kc (nI c)) 8 = !decide (Km 35 56 = 255) := by rw [← allC8 b4]; exact anyR_cg fun c hc => el c hc
    rw [this, eK 29 (by decide) (by decide) (by decide)]
    cases bit (Km 35 56) cc
    · rfl
    · by_cases e : Km 35 56 = 255
      · rw [if_pos e, decide_eq_true e]; rfl
      · rw [if_neg e, decide_eq_false e]; rfl
  have eA : sumF (chgF Kc (pg P (pg P 24 g) 0)) 5 = sumF (pAs Km g) 5 := sumF_cg fun k hk => by
    unfold chgF pAs
    rw [eK (pg P (pg P 24 g) 0) (by omega) (by omega) (by omega), eK 29 (by decide) (by decide) (by decide), eKm 67 (by decide) (by decide), eKm 57 (by decide) (by decide), g4 k hk, b1 k hk, (h12 k (by omega)).1, Int32.mul_comm]
  rw [eS, eO, accF_sum, eA]
  unfold pAl pAc
  rw [eKm 58 (by decide) (by decide), s2, eKm 67 (by decide) (by decide), p5.1, p6.1]
  have n0 : ¬ (0 : Int32) = -1 := by decide
  have n5 := np 5 (by omega)
  have n6 := np 6 (by omega)
  generalize sumF (pAs Km g) 5 = S
  cases pNoS Km nl day (nI s) <;> cases anyR (fun s => !pNoS Km nl day (nI s)) 16 <;> cases shB (Km 35 56) (Km 59 g) <;> by_cases e : Km 35 56 = 255 <;> simp [e, n0, n5, n6, Int32.add_comm, i_lc, Int32.add_assoc]
end EQ3
