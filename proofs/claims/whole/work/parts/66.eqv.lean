/-! ===== what both answer: ranks, occasions, stuffs, force, broken rules, fines ===== -/
theorem bit_hi {x : Int32} {k : Nat} (h : 32 ≤ k) : bit x k = false := BitVec.getLsbD_of_ge _ _ h
theorem bit_0 {k : Nat} : bit 0 k = false := by simp [bit]
theorem bitsF_bit {f : Nat → Bool} : ∀ {n : Nat}, n ≤ 32 → ∀ k, bit (bitsF f n) k = (decide (k < n) && f k) := by
  intro n
  induction n with
  | zero => intro _ k; rw [decide_eq_false (Nat.not_lt_zero k), Bool.false_and]; exact bit_0
  | succ n ih =>
    intro hn k
    have ih := ih (by omega) k
    show bit (if f n then bitsF f n ||| (1 <<< (nI n &&& 31)) else bitsF f n) k = _
    by_cases hk : k = n
    · subst hk
      cases hf : f k with
      | true => rw [if_pos rfl, or_bit, bt_bit (by omega)]; simp
      | false =>
        rw [if_neg Bool.false_ne_true, ih, hf]
        simp
    · have e : decide (k < n + 1) = decide (k < n) := decide_eq_decide.mpr (by omega)
      rw [e]
      split
      · rw [or_bit, bt_bit (by omega), decide_eq_false hk, Bool.or_false]; exact ih
      · exact ih
theorem not_bit {x : Int32} {k : Nat} (h : k < 32) : bit (x ^^^ -1) k = !bit x k := by
  unfold bit
  rw [Int32.toBitVec_xor, BitVec.getLsbD_xor]
  have : (-1 : Int32).toBitVec.getLsbD k = true := by
    have : ∀ k : Fin 32, (-1 : Int32).toBitVec.getLsbD k = true := by decide +kernel
    exact this ⟨k, h⟩
  rw [this, Bool.xor_true]
theorem repF_bit {day rep : Nat → Int32} {d : Int32} {k : Nat} : ∀ n, bit (repF day rep d n) k = anyR (fun o => decide (day o ≤ d) && bit (rep o) k) n := by
  intro n
  induction n with
  | zero => exact bit_0
  | succ n ih =>
    rw [anyR_s, ← ih]
    show bit (if day n ≤ d then repF day rep d n ||| rep n else repF day rep d n) k = _
    by_cases h : day n ≤ d
    · rw [if_pos h, or_bit, decide_eq_true h, Bool.true_and]
    · rw [if_neg h, decide_eq_false h, Bool.false_and, Bool.or_false]
theorem clrF_bit {f : Nat → Bool} {b : Int32} {k : Nat} (hk : k < 32) : ∀ {n : Nat}, n ≤ 32 → bit (clrF f b n) k = (bit b k && !(decide (k < n) && f k)) := by
  intro n
  induction n with
  | zero => intro _; rw [decide_eq_false (Nat.not_lt_zero k)]; simp [clrF]
  | succ n ih =>
    intro hn
    have ih := ih (by omega)
    show bit (if f n then clrF f b n &&& ((1 <<< (nI n &&& 31)) ^^^ -1) else clrF f b n) k = _
    by_cases e : k = n
    · subst e
      cases hf : f k with
      | true => rw [if_pos rfl, and_bit, not_bit hk, bt_bit hk]; simp
      | false => rw [if_neg Bool.false_ne_true, ih, hf]; simp
    · have e2 : decide (k < n + 1) = decide (k < n) := decide_eq_decide.mpr (by omega)
      rw [e2]
      split
      · rw [and_bit, not_bit hk, bt_bit (by omega), decide_eq_false e]; simp [ih]
      · exact ih
theorem ushr_bit {x : Int32} {j : Nat} (h : j ≤ 24) : mUshr x (nI j) &&& 1 = 1 ↔ bit x j = true := by
  rw [and1_bit]
  unfold bit
  rw [ushr_low (by decide) h]
  rfl
theorem bitB_bit {x : Int32} {j : Nat} (h : j ≤ 24) : bitB x j = bit x j := by
  unfold bitB
  cases hb : bit x j with
  | true => exact decide_eq_true ((ushr_bit h).mpr hb)
  | false => exact decide_eq_false fun e => by rw [(ushr_bit h).mp e] at hb; cases hb
theorem ushr0_bit {x : Int32} {j : Nat} (h : j ≤ 24) : decide (mUshr x (nI j) &&& 1 = 0) = !bit x j := by
  cases hb : bit x j with
  | true => rw [(ushr_bit h).mpr hb]; rfl
  | false =>
    rcases and1_c (mUshr x (nI j)) with e | e
    · rw [e]; rfl
    · rw [(ushr_bit h).mp e] at hb; cases hb
theorem sumF_cg {f g : Nat → Int32} : ∀ {n : Nat}, (∀ k, k < n → f k = g k) → sumF f n = sumF g n := by
  intro n
  induction n with
  | zero => intro _; rfl
  | succ n ih =>
    intro h
    show sumF f n + f n = sumF g n + g n
    rw [ih fun k hk => h k (by omega), h n (by omega)]
theorem sumF_0 {f : Nat → Int32} {n : Nat} (h : ∀ k, k < n → f k = 0) : sumF f n = 0 := by
  induction n with
  | zero => rfl
  | succ n ih =>
    show sumF f n + f n = 0
    rw [ih fun k hk => h k (by omega), h n (by omega)]; rfl
theorem bitsF_cg {f g : Nat → Bool} : ∀ {n : Nat}, (∀ k, k < n → f k = g k) → bitsF f n = bitsF g n := by
  intro n
  induction n with
  | zero => intro _; rfl
  | succ n ih =>
    intro h
    show (if f n then bitsF f n ||| _ else bitsF f n) = if g n then bitsF g n ||| _ else bitsF g n
    rw [ih fun k hk => h k (by omega), h n (by omega)]
theorem anyR_cg {f g : Nat → Bool} : ∀ {n : Nat}, (∀ k, k < n → f k = g k) → anyR f n = anyR g n := by
  intro n
  induction n with
  | zero => intro _; rfl
  | succ n ih =>
    intro h
    rw [anyR_s, anyR_s, ih fun k hk => h k (by omega), h n (by omega)]
theorem minF_c (x y : Int32) : minF x y = minF y x := by
  unfold minF
  by_cases h : y < x
  · rw [if_pos h, if_neg (by rw [i_lt] at *; omega)]
  · rw [if_neg h]
    by_cases h2 : x < y
    · rw [if_pos h2]
    · rw [if_neg h2]
      rw [i_lt] at h h2
      exact i_eq.mpr (by omega)
section EQ
variable {nx stp : Nat} {sh : Nat → Option mSh} {I J : mI} {P Q : mP} {m na ng nk nr nw nf nl dr rl : Nat}
theorem RR.rm (h : RR stp nx sh I P m na ng nk nr nw nf nl dr rl) {a : Nat} (ha : a < na) : rmC I a = aM I (pg P 7 a) ∧ I 37 a = nI (aM I (pg P 7 a)) ∧ aM I (pg P 7 a) ≤ 12 := by
  obtain ⟨-, -, -, ⟨hC, -, -, h4⟩, -⟩ := h
  have hA := (hC.2.2.2.2.2 a ha).2
  have e := (h4 a ha).2.2.2.1
  exact ⟨by rw [rmC, e]; rfl, by rw [e]; exact hA.2.2.2.1, hA.2.2.2.2.1⟩
theorem RR.mj (h : RR stp nx sh I P m na ng nk nr nw nf nl dr rl) : MJ sh I P na ng nl nf := by
  have hrm := fun a (ha : a < na) => h.rm ha
  obtain ⟨h1, h2, h3, h4, h5, h6, h7, h8, h9, h10, h11, h12⟩ := h
  refine ⟨h1.2.1, ⟨h4.2.1, h4.1.2.2.2.2.1⟩, ⟨h5.2.1, h5.1.2.1⟩, ⟨h10.2.1, h10.1.2, h10.2.2.1⟩, ⟨h9.2.1, h9.1.2⟩, fun a ha => ?_, fun g hg => (h5.2.2.1 g hg).2.2.2.2.1, fun p hp => ?_⟩
  · obtain ⟨e1, e2, e3⟩ := hrm a ha
    rw [e1]
    refine ⟨e2, e3, fun r hr => ?_⟩
    obtain ⟨w, w1, w2⟩ := ((h4.2.2.2 a ha).2.2.2.2.2.2.2 r hr).2.1
    exact ⟨w, w1, w2⟩
  · obtain ⟨a1, a2⟩ := h7.2.1.1 p hp
    obtain ⟨b1, b2⟩ := h8.2.1 p hp
    have e1 : crC I p = cntK (I 9) p nr := by rw [crC, a1, nI_clamp (by omega)]
    have e2 : cwC I p = cntK (I 13) p nw := by rw [cwC, b1, nI_clamp (by omega)]
    rw [e1, e2]
    exact ⟨a1, a2, b1, b2⟩
theorem RR.jw (h : RR stp nx sh I P m na ng nk nr nw nf nl dr rl) : JW sh I P nr nw nf nl ng na := by
  obtain ⟨h1, h2, h3, h4, h5, h6, h7, h8, h9, h10, h11, h12⟩ := h
  exact ⟨h1.1, h7.1, h8.1, h9.1, h10.1, h5.1, h4.1⟩
theorem RR.rk (h : RR stp nx sh I P m na ng nk nr nw nf nl dr rl) {p : Nat} {day : Int32} (hp : p < 30) : pRk I p day = cRank I nr (nI p) day := by
  obtain ⟨-, -, -, -, -, -, h7, -⟩ := h
  obtain ⟨a1, a2⟩ := h7.2.1.1 p hp
  have e1 : crC I p = cntK (I 9) p nr := by rw [crC, a1, nI_clamp (by omega)]
  have e2 := held_eq (day := day) (oth := 5) h7.2.1 hp h7.2.2 nr (Nat.le_refl _)
  unfold pRk mRk cRank
  rw [e1, e2]
  cases mBst (fun _ => true) (fun k => I 50 (12 * p + k)) day (cntK (I 9) p nr) <;> rfl
theorem RR.oc (h : RR stp nx sh I P m na ng nk nr nw nf nl dr rl) {p : Nat} {day : Int32} (hp : p < 30) : pOc I nf p day = cOcc I nw nf (nI p) day := by
  obtain ⟨-, -, -, -, -, -, -, h8, h9, -⟩ := h
  obtain ⟨a1, a2⟩ := h8.2.1 p hp
  have e1 : cwC I p = cntK (I 13) p nw := by rw [cwC, a1, nI_clamp (by omega)]
  have e2 := span_eq (day := day) h8.2 hp nw (Nat.le_refl _)
  have e3 : anyR (rSpan (I 17) (I 18) (I 19) 0 day) nf = anyR (mSp (I 55) (I 56) day) nf := anyR_cg fun k hk => by
    obtain ⟨b1, b2, b3⟩ := h9.2.2 k hk
    rw [rSpan, mSp, b1, b2, b3, decide_eq_true rfl, Bool.true_and]
  unfold pOc mOcc cOcc
  rw [e1, e2, e3]
theorem RR.hl (h : RR stp nx sh I P m na ng nk nr nw nf nl dr rl) {day : Int32} : mHl I nl day = cHeld I nl day := by
  obtain ⟨-, -, -, -, -, -, -, -, -, h10, -⟩ := h
  funext s
  have e2 := like_eq (K := I 21) (D := I 22) (U := I 23) (K2 := I 61) (U2 := I 62) (D2 := I 63) (day := day) (s := s) (oth := s) (n := nl) (fun k hk => (h10.2.2.2 k hk).1) (fun k hk => (h10.2.2.2 k hk).2.1) (fun k hk => (h10.2.2.2 k hk).2.2.1) (fun k hk => (h10.2.2.2 k hk).2.2.2) nl (Nat.le_refl _)
  unfold mHl mLk cHeld
  rw [e2]
  cases mBst (fun k => decide (I 61 k = s)) (I 63) day nl <;> rfl
theorem RR.ct (h : RR stp nx sh I P m na ng nk nr nw nf nl dr rl) {day s : Int32} : mCt I nl day s = cCnt I nl day s := by
  unfold mCt cCnt
  rw [h.hl]
theorem RR.frc (h : RR stp nx sh I P m na ng nk nr nw nf nl dr rl) {d : Int32} : forceF I P 7 na d = bitsF (qInF I na d) na := by
  obtain ⟨-, -, -, ⟨hC, -, -, h4⟩, -⟩ := h
  have hn := hC.2.2.2.2.1
  apply bit_ext
  intro k hk
  unfold forceF inFF
  rw [and_bit, not_bit hk, bitsF_bit (by omega), bitsF_bit (by omega), repF_bit]
  by_cases hl : k < na
  · have e : anyR (fun o => decide (I (pg P 7 o) 0 ≤ d) && bit (I (pg P 7 o) 5) k) na = anyR (qRp I d k) na := anyR_cg fun o ho => by
      obtain ⟨b1, -, -, -, b5, -⟩ := (h4 o ho).2.2
      rw [qRp, b1, b5]
    rw [e, qInF, (h4 k hl).2.2.1]
    simp [hl]
  · simp [hl]
/-- one in a gown on a day: what cell 30 holds -/
def Wn (I J : mI) (P Q : mP) (nl g : Nat) (rank occ day : Int32) : Prop := (∀ c, c ≠ 30 → J c = I c) ∧ (∀ c, c ≠ 30 → Q c = P c) ∧ J 30 0 = rank ∧ J 30 1 = occ ∧ J 30 3 = day ∧ J 30 4 = cCnt I nl day (I (pg P 24 g) 1)
theorem RR.wn {g : Nat} {rank occ day : Int32} (h : RR stp nx sh I P m na ng nk nr nw nf nl dr rl) (hg : g < ng) (hw : Wn I J P Q nl g rank occ day) {a : Nat} (ha : a < na) :
    bitB (rchF J Q 7 na 30 (pg P 24 g)) a = (qInF I na day a && !letF (I 60 g) (I 36 a) day (I 38 a)) ∧
    brkF J Q 7 30 (pg P 24 g) (pg P (pg P 24 g) 0) a = bitsF (fun r => rConc (I 43 (12 * a + r)) (I 44 (12 * a + r)) (I 45 (12 * a + r)) rank occ && qBr I nl (12 * a + r) g day) (rmC I a) ∧
    (∀ o, o < na → pg Q 7 o = pg P 7 o ∧ J (pg P 7 o) = I (pg P 7 o) ∧ Q (pg P 7 o) = P (pg P 7 o)) ∧
    (∀ r, r < aM I (pg P 7 a) → pg Q (pg P (pg P 7 a) 1) r = pg P (pg P (pg P 7 a) 1) r ∧ J (pg P (pg P (pg P 7 a) 1) r) = I (pg P (pg P (pg P 7 a) 1) r)) := by
  have hrm := h.rm ha
  have hct := h.ct (day := day) (s := I 58 g)
  have hfr := h.frc (d := day)
  obtain ⟨h1, -, -, ⟨hC, -, -, h4⟩, h5, -⟩ := h
  obtain ⟨hJ, hQ, j0, j1, j3, j4⟩ := hw
  have hn := hC.2.2.2.2.1
  have s30 := h1.1.1 30 _ rfl
  have e7 : ∀ o, pg Q 7 o = pg P 7 o := fun o => pg_cg (hQ 7 (by decide)) o
  have no : ∀ o, o < na → pg P 7 o ≠ 30 := fun o ho => sh_ne (hC.2.2.2.2.2 o ho).2.1 s30 (by decide)
  have hrl : pg P (pg P 7 a) 1 ≠ 30 := sh_ne (hC.2.2.2.2.2 a ha).2.2.2.1 s30 shn_io
  have nru : ∀ r, r < aM I (pg P 7 a) → pg P (pg P (pg P 7 a) 1) r ≠ 30 := fun r hr => sh_ne ((hC.2.2.2.2.2 a ha).2.2.2.2.2.2 r hr).2 s30 (by decide)
  have ng3 : pg P 24 g ≠ 30 := sh_ne (h5.1.2.2 g hg).2.1 s30 (by decide)
  have nq : pg P (pg P 24 g) 0 ≠ 30 := sh_ne (h5.1.2.2 g hg).2.2.2 s30 shn_io
  obtain ⟨g1, g2, g3, g4, -⟩ := h5.2.2.1 g hg
  have efo : forceF J Q 7 na day = forceF I P 7 na day := by
    unfold forceF inFF
    have t1 : bitsF (fun a => decide (J (pg Q 7 a) 0 ≤ day)) na = bitsF (fun a => decide (I (pg P 7 a) 0 ≤ day)) na := bitsF_cg fun o ho => by rw [e7, hJ _ (no o ho)]
    have t2 : repF (fun a => J (pg Q 7 a) 0) (fun a => J (pg Q 7 a) 5) day na = repF (fun a => I (pg P 7 a) 0) (fun a => I (pg P 7 a) 5) day na := by
      apply bit_ext
      intro k hk
      rw [repF_bit, repF_bit]
      exact anyR_cg fun o ho => by rw [e7, hJ _ (no o ho)]
    rw [t1, t2]
  refine ⟨?_, ?_, fun o ho => ⟨e7 o, hJ _ (no o ho), hQ _ (no o ho)⟩, fun r hr => ⟨pg_cg (hQ _ hrl) r, hJ _ (nru r hr)⟩⟩
  · rw [bitB_bit (by omega), rchF, j3, efo, hfr, clrF_bit (by omega) (by omega), bitsF_bit (by omega), e7, hJ _ (no a ha), hJ _ ng3]
    obtain ⟨b1, b2, b3, b4, b5, -⟩ := (h4 a ha).2.2
    rw [← g3, ← b1, ← b3]
    simp [ha]
  · rw [hrm.1]
    unfold brkF
    have em : aM J (pg Q 7 a) = aM I (pg P 7 a) := by rw [e7]; unfold aM; rw [hJ _ (no a ha)]
    rw [em]
    refine bitsF_cg fun r hr => ?_
    obtain ⟨f1, -⟩ := (h4 a ha).2.2.2.2.2.2.2 r hr
    have e2 : pg Q (pg (Q) (pg Q 7 a) 1) r = pg P (pg P (pg P 7 a) 1) r := by
      rw [e7, pg_cg (hQ _ (no a ha)) 1, pg_cg (hQ _ hrl) r]
    rw [e2]
    unfold rcF roF qBr
    rw [hJ _ (nru r hr), hJ _ ng3, hJ _ nq, j0, j1, j4, hct, ← g1, ← g2]
    rw [show I 41 (12 * a + r) = _ from f1 0 (by omega), show I 42 (12 * a + r) = _ from f1 1 (by omega), show I 43 (12 * a + r) = _ from f1 2 (by omega), show I 44 (12 * a + r) = _ from f1 3 (by omega), show I 45 (12 * a + r) = _ from f1 4 (by omega)]
    congr 1
    unfold rOff
    split
    · rfl
    · split
      · rfl
      · split
        · rfl
        · unfold gMz
          by_cases hi : inB (I (pg P (pg P (pg P 7 a) 1) r) 0) 5 = true
          · obtain ⟨j, hj, ej⟩ := inB_nI hi (by decide)
            rw [ej, nI_clamp (by omega), ← g4 j hj]
          · rw [if_neg hi, if_neg hi]
theorem RR.bo {g : Nat} {rank occ day : Int32} (h : RR stp nx sh I P m na ng nk nr nw nf nl dr rl) (hg : g < ng) (hw : Wn I J P Q nl g rank occ day) {a : Nat} (ha : a < na) : (if bitB (rchF J Q 7 na 30 (pg P 24 g)) a then brkF J Q 7 30 (pg P 24 g) (pg P (pg P 24 g) 0) a else 0) = pBo I na nl a rank occ g day := by
  obtain ⟨e1, e2, -⟩ := h.wn hg hw ha
  rw [e1, e2]
  unfold pBo qBo
  cases hq : (qInF I na day a && !letF (I 60 g) (I 36 a) day (I 38 a)) with
  | true =>
    rw [if_pos rfl]
    refine bitsF_cg fun r hr => ?_
    rw [Bool.and_eq_true] at hq
    unfold qBi
    rw [hq.1, hq.2, Bool.true_and, Bool.and_true]
  | false =>
    rw [if_neg Bool.false_ne_true]
    have : bitsF (fun r => qBi I na a (12 * a + r) rank occ g day && qBr I nl (12 * a + r) g day) (rmC I a) = bitsF (fun _ => false) (rmC I a) := bitsF_cg fun r hr => by
      unfold qBi
      rw [Bool.and_eq_false_iff] at hq
      rcases hq with hq | hq <;> rw [hq] <;> simp
    rw [this]
    have hz : ∀ n, bitsF (fun _ => false) n = 0 := fun n => by
      induction n with
      | zero => rfl
      | succ n ih => exact ih
    exact (hz _).symm
end EQ
