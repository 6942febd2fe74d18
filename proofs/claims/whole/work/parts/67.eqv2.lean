/-! ===== fines, worn, parts, letters ===== -/
theorem ptF_cg {b b' : Nat → Bool} {f f' : Nat → Int32} : ∀ {n : Nat}, (∀ k, k < n → b k = b' k ∧ f k = f' k) → ptF b f n = ptF b' f' n := by
  intro n
  induction n with
  | zero => intro _; rfl
  | succ n ih =>
    intro h
    show (if b n = true ∧ ¬ f n = -1 then f n else ptF b f n) = if b' n = true ∧ ¬ f' n = -1 then f' n else ptF b' f' n
    rw [ih fun k hk => h k (by omega), (h n (by omega)).1, (h n (by omega)).2]
theorem sumF_nat {f : Nat → Int32} {w : Nat} : ∀ {n : Nat}, (∀ k, k < n → ∃ v, v ≤ w ∧ f k = nI v) → ∃ v, v ≤ w * n ∧ sumF f n = nI v := by
  intro n
  induction n with
  | zero => intro _; exact ⟨0, Nat.le_refl _, rfl⟩
  | succ n ih =>
    intro h
    obtain ⟨v, h1, h2⟩ := ih fun k hk => h k (by omega)
    obtain ⟨u, h3, h4⟩ := h n (by omega)
    refine ⟨v + u, by rw [Nat.mul_add]; omega, ?_⟩
    show sumF f n + f n = _
    rw [h2, h4, nI_add]
section EQ2
variable {nx stp : Nat} {sh : Nat → Option mSh} {I J : mI} {P Q : mP} {m na ng nk nr nw nf nl dr rl : Nat}
theorem Wn_take {g : Nat} {rank occ day : Int32} : Wn I (takeM I rank occ day (cCnt I nl day (I (pg P 24 g) 1))) P (wP P g) nl g rank occ day := by
  refine ⟨fun c h => funext fun k => takeM_o h, fun c h => mUp_ne h, ?_, ?_, ?_, ?_⟩ <;> simp [takeM, mUp]
theorem Wn_put {g p : Nat} {day : Int32} : Wn I (putM I P nr nw nf nl g (nI p) day) P (wP P g) nl g (cRank I nr (nI p) day) (cOcc I nw nf (nI p) day) day := Wn_take
theorem RR.pn {g : Nat} {rank occ day : Int32} (h : RR stp nx sh I P m na ng nk nr nw nf nl dr rl) (hg : g < ng) (hw : Wn I J P Q nl g rank occ day) : pncAll J Q na 30 (pg P 24 g) (pg P (pg P 24 g) 0) = sumF (fun a => pPn I na nl a rank occ g day) na := by
  unfold pncAll
  refine sumF_cg fun a ha => ?_
  have hb := h.bo hg hw ha
  obtain ⟨-, -, e3, e4⟩ := h.wn hg hw ha
  have hrm := h.rm ha
  have hA := (h.2.2.2.1.2.2.2 a ha).2.2.2.2.2.2.2
  have hCl := h.2.2.2.1.1.2.2.2.2.1
  have n30 : pg P (pg P 7 a) 1 ≠ 30 := sh_ne (h.2.2.2.1.1.2.2.2.2.2 a ha).2.2.2.1 (h.1.1.1 30 _ rfl) shn_io
  unfold pPn
  rw [← hb]
  cases hc : bitB (rchF J Q 7 na 30 (pg P 24 g)) a with
  | true =>
    simp only [if_true]
    unfold pncF
    have em : aM J (pg Q 7 a) = rmC I a := by rw [(e3 a ha).1, hrm.1]; unfold aM; rw [(e3 a ha).2.1]
    rw [em]
    refine sumF_cg fun r hr => ?_
    rw [hrm.1] at hr
    have e5 : pg Q (pg Q (pg Q 7 a) 1) r = pg P (pg P (pg P 7 a) 1) r := by rw [(e3 a ha).1, pg_cg (e3 a ha).2.2 1, (e4 r hr).1]
    have hf := (hA r hr).1 5 (by omega)
    unfold pFs
    rw [bitB_bit (by omega), e5, (e4 r hr).2, show I 46 (12 * a + r) = _ from hf]
  | false =>
    rw [if_neg Bool.false_ne_true, if_neg Bool.false_ne_true]
    refine (sumF_0 fun r hr => ?_).symm
    unfold pFs
    rw [bit_0]
    rfl
theorem RR.fi (h : RR stp nx sh I P m na ng nk nr nw nf nl dr rl) {g p : Nat} {day : Int32} (hg : g < ng) (hp : p < 30) : fineF I P nr nw nf nl na g p day = pFi I na nl nf p g day := by
  unfold fineF pFi
  rw [h.pn hg Wn_put, h.rk hp, h.oc hp, minF_c, putM_o (by decide), show I 64 = I 26 from h.2.2.2.2.2.2.2.2.2.2.1.1]
theorem RR.fi_nat (h : RR stp nx sh I P m na ng nk nr nw nf nl dr rl) (hs : stp ≤ 512) {g p : Nat} {day : Int32} (hp : p < 30) : ∃ v : Nat, v < 2 ^ 31 ∧ pFi I na nl nf p g day = nI v := by
  have hCl := h.2.2.2.1.1.2.2.2.2.1
  obtain ⟨c, hc, ec⟩ := h.2.2.2.2.2.2.2.2.2.2.1.2.2.2.2 p hp
  obtain ⟨v, hv, ev⟩ := sumF_nat (f := fun a => pPn I na nl a (pRk I p day) (pOc I nf p day) g day) (w := 9999 * 12) (n := na) (fun a ha => by
    have hrm := h.rm ha
    have hA := (h.2.2.2.1.2.2.2 a ha).2.2.2.2.2.2.2
    obtain ⟨v, hv, ev⟩ := sumF_nat (f := pFs I a (pBo I na nl a (pRk I p day) (pOc I nf p day) g day)) (w := 9999) (n := rmC I a) (fun r hr => by
      rw [hrm.1] at hr
      obtain ⟨u, hu, eu⟩ := (hA r hr).2.2.2.2
      unfold pFs
      split
      · exact ⟨u, by omega, eu⟩
      · exact ⟨0, by omega, rfl⟩)
    refine ⟨v, ?_, ev⟩
    have : rmC I a ≤ 12 := by rw [hrm.1]; exact hrm.2.2
    have := Nat.mul_le_mul_left 9999 this
    omega)
  have hm : ∃ t, t ≤ 5 ∧ minF 5 (1 + I 64 p) = nI t := by
    rw [show I 64 = I 26 from h.2.2.2.2.2.2.2.2.2.2.1.1, ec, show (1 : Int32) = nI 1 from rfl, nI_add]
    unfold minF
    split
    · rename_i hlt
      have := nN_lt (a := 1 + c) (b := 5) hlt (by omega) (by omega)
      exact ⟨1 + c, by omega, rfl⟩
    · exact ⟨5, Nat.le_refl _, rfl⟩
  obtain ⟨t, ht, et⟩ := hm
  refine ⟨v * t, ?_, ?_⟩
  · have h1 := Nat.mul_le_mul hv ht
    have h2 := Nat.mul_le_mul_left (9999 * 12) hCl
    have h3 : 9999 * 12 * na * 5 ≤ 9999 * 12 * 12 * 5 := Nat.mul_le_mul_right 5 h2
    omega
  · unfold pFi
    rw [ev, et, nI_mul]
theorem RR.fj (h : RR stp nx sh I P m na ng nk nr nw nf nl dr rl) (hJ : ∀ c, c ≠ 30 → J c = I c) (hQ : ∀ c, c ≠ 30 → Q c = P c) {d : Int32} : partF J Q na d = pPt I na d na := by
  have hfr := h.frc (d := d)
  obtain ⟨h1, -, -, ⟨hC, -, -, h4⟩, -⟩ := h
  have hn := hC.2.2.2.2.1
  have s30 := h1.1.1 30 _ rfl
  have e7 : ∀ o, pg Q 7 o = pg P 7 o := fun o => pg_cg (hQ 7 (by decide)) o
  have no : ∀ o, o < na → pg P 7 o ≠ 30 := fun o ho => sh_ne (hC.2.2.2.2.2 o ho).2.1 s30 (by decide)
  have efo : forceF J Q 7 na d = forceF I P 7 na d := by
    unfold forceF inFF
    have t1 : bitsF (fun a => decide (J (pg Q 7 a) 0 ≤ d)) na = bitsF (fun a => decide (I (pg P 7 a) 0 ≤ d)) na := bitsF_cg fun o ho => by rw [e7, hJ _ (no o ho)]
    have t2 : repF (fun a => J (pg Q 7 a) 0) (fun a => J (pg Q 7 a) 5) d na = repF (fun a => I (pg P 7 a) 0) (fun a => I (pg P 7 a) 5) d na := by
      apply bit_ext
      intro k hk
      rw [repF_bit, repF_bit]
      exact anyR_cg fun o ho => by rw [e7, hJ _ (no o ho)]
    rw [t1, t2]
  unfold partF pPt
  refine ptF_cg fun a ha => ⟨?_, ?_⟩
  · rw [efo, hfr, bitB_bit (by omega), bitsF_bit (by omega), decide_eq_true ha, Bool.true_and]
  · rw [e7, hJ _ (no a ha), (h4 a ha).2.2.2.2.2.1]
theorem RR.wok (h : RR stp nx sh I P m na ng nk nr nw nf nl dr rl) {g : Nat} {rank day : Int32} (hg : g < ng) : wokF I P nl na g rank day = wokM I na nl g rank day := by
  unfold wokF wokM
  congr 1
  refine anyR_cg fun a ha => ?_
  rw [← h.bo hg (Wn_take (rank := rank) (occ := 0) (day := day)) ha]
  cases hb : bitB (rchF (takeM I rank 0 day (cCnt I nl day (I (pg P 24 g) 1))) (wP P g) 7 na 30 (pg P 24 g)) a with
  | true => rw [if_pos rfl, Bool.true_and]
  | false => rw [if_neg Bool.false_ne_true, Bool.false_and]; rfl
theorem RR.was (h : RR stp nx sh I P m na ng nk nr nw nf nl dr rl) {k : Nat} (hk : k < nk) : wasF I P nk (pg P 25 k) = anyR (qWas I k) nk := by
  have h6 := h.2.2.2.2.2.1.2.2.1
  unfold wasF
  refine anyR_cg fun o ho => ?_
  have a := (h6 o ho).1
  have b := (h6 k hk).1
  unfold sameF qWas
  rw [show I 72 o = _ from a 4 (by omega), show I 69 o = _ from a 1 (by omega), show I 70 o = _ from a 2 (by omega), show I 71 o = _ from a 3 (by omega), show I 69 k = _ from b 1 (by omega), show I 70 k = _ from b 2 (by omega), show I 71 k = _ from b 3 (by omega)]
  simp [Bool.and_assoc]
end EQ2
