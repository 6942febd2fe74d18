/-! ===== the calls that change rows ===== -/
def fB (g : Nat → Int32) (n : Nat) (w : Int32) : Nat → Int32 := fun k => if n ≤ k ∧ k < n + 4 then tpW w (k - n) else g k
theorem isByte_8 (x : Int8) : isByte x.toInt32 := by
  unfold isByte
  rw [Int8.toInt_toInt32]
  exact ⟨Int8.le_toInt x, by have := Int8.toInt_le x; have e : Int8.maxValue.toInt = 127 := rfl; omega⟩
theorem tpW_byte (w : Int32) (j : Nat) : isByte (tpW w j) := by
  unfold tpW bC
  split <;> exact isByte_8 _
theorem fB_byte {g : Nat → Int32} {n : Nat} {w : Int32} (h : ∀ k, isByte (g k)) : ∀ k, isByte (fB g n w k) := by
  intro k
  unfold fB
  split
  · exact tpW_byte _ _
  · exact h k
section O2
variable {X : mX} {B nx stp : Nat} {sh : Nat → Option mSh} {I : mI} {P : mP}
theorem tpM_2 {n : Nat} {w : Int32} : tpM I 2 3 n w 4 3 = fB (I 3) n w := by
  funext k
  simp [tpM, mUp, mBlk, fB]
theorem tpM_11 {n : Nat} {w : Int32} : tpM I 2 3 n w 4 2 1 = nI (n + 4) := by simp [tpM, mUp]
theorem tpM_ne {n c : Nat} {w : Int32} (h1 : c ≠ 2) (h2 : c ≠ 3) : tpM I 2 3 n w 4 c = I c := by
  funext k
  simp [tpM, mUp, mBlk, h1, h2]
theorem lyM_48 {n : Nat} {w : Int32} : lyM I n w 4 48 = fB (I 48) n w := by
  funext k
  simp [lyM, mUp, mBlk, fB]
theorem lyM_ne {n c : Nat} {w : Int32} (h1 : c ≠ 48) (h2 : c ≠ 35) : lyM I n w 4 c = I c := by
  funext k
  simp [lyM, mUp, mBlk, h1, h2]
theorem lyM_35 {n k : Nat} {w : Int32} (h : k ≠ 14) : lyM I n w 4 35 k = I 35 k := by simp [lyM, mUp, mBlk, h]
theorem o_feed {a b c d e : Int32} (hS : St stp nx sh I P) : OpAt X B mdX10_feed mdX12_feed 0 0 [.int a, .int b, .int c, .int d, .int e] stp nx sh I P := by
  obtain ⟨m, na, ng, nk, nr, nw, nf, nl, dr, rl, h⟩ := hS
  obtain ⟨t1, t2, t3, t4, t5⟩ := h.2.1
  by_cases h20 : m + 20 ≤ 800
  · have c1 : ∀ c', c' ≠ 2 → c' ≠ 3 → feedM I m a b c d e c' = I c' := fun c' a1 a2 => by
      unfold feedM
      rw [tpM_ne a1 a2, tpM_ne a1 a2, tpM_ne a1 a2, tpM_ne a1 a2, tpM_ne a1 a2]
    have c2 : ∀ (K : mI) c', c' ≠ 48 → c' ≠ 35 → mFdM K m a b c d e c' = K c' := fun K c' a1 a2 => by
      unfold mFdM
      rw [lyM_ne a1 a2, lyM_ne a1 a2, lyM_ne a1 a2, lyM_ne a1 a2, lyM_ne a1 a2]
    have c3 : ∀ (K : mI) k, k ≠ 14 → mFdM K m a b c d e 35 k = K 35 k := fun K k hk => by
      unfold mFdM
      rw [lyM_35 hk, lyM_35 hk, lyM_35 hk, lyM_35 hk, lyM_35 hk]
    have e2 : feedM I m a b c d e 3 = fB (fB (fB (fB (fB (I 3) m a) (m + 4) b) (m + 8) c) (m + 12) d) (m + 16) e := by
      unfold feedM
      rw [tpM_2, tpM_2, tpM_2, tpM_2, tpM_2]
    have e48 : ∀ K : mI, mFdM K m a b c d e 48 = fB (fB (fB (fB (fB (K 48) m a) (m + 4) b) (m + 8) c) (m + 12) d) (m + 16) e := fun K => by
      unfold mFdM
      rw [lyM_48, lyM_48, lyM_48, lyM_48, lyM_48]
    have e14 : ∀ K : mI, mFdM K m a b c d e 35 14 = nI (m + 20) := fun K => by unfold mFdM; rw [lyM_14]
    have e11 : feedM I m a b c d e 2 1 = nI (m + 20) := by unfold feedM; rw [tpM_11]
    refine OpAt.det (e_X10_feed h.1.1 t1 h20) h.s35 (e_X12_feed h.1.2.1 (by rw [c1 35 (by decide) (by decide)]; exact t3) h20) rfl ⟨m + 20, na, ng, nk, nr, nw, nf, nl, dr, rl, ?_⟩
    refine h.tape (fun c' a1 a2 a3 a4 => (c2 _ c' a3 a4).trans (c1 c' a1 a2)) (fun k hk => (c3 _ k hk).trans (by rw [c1 35 (by decide) (by decide)])) ⟨?_, by omega, e14 _, ?_, ?_⟩
    · rw [c2 _ 2 (by decide) (by decide)]; exact e11
    · rw [e48, c2 _ 3 (by decide) (by decide), e2, c1 48 (by decide) (by decide), t4]
    · rw [c2 _ 3 (by decide) (by decide), e2]
      exact fB_byte (fB_byte (fB_byte (fB_byte (fB_byte t5))))
  · exact OpAt.det (e_X10_feedN h.1.1 t1 t2 h20) h.s35 (e_X12_feedF h.1.2.1 t3 t2 (by omega)) rfl h.same
theorem o_end {n : Int32} (hS : St stp nx sh I P) : OpAt X B mdX10_end mdX12_end 0 0 [.int n] stp nx sh I P := by
  obtain ⟨m, na, ng, nk, nr, nw, nf, nl, dr, rl, h⟩ := hS
  obtain ⟨t1, t2, t3, t4, t5⟩ := h.2.1
  cases hx : inB n (m + 1) with
  | false => exact OpAt.det (e_X10_endN h.1.1 t1 t2 hx) h.s35 (e_X12_endN h.1.2.1 t3 t2 hx) rfl h.same
  | true =>
    obtain ⟨j, hj, rfl⟩ := inB_nI hx (by omega)
    refine OpAt.det (e_X10_end h.1.1 t1 t2 (by omega)) h.s35 (e_X12_end h.1.2.1 ((mUp_c (by decide)).trans t3) t2 hx) rfl ⟨j, na, ng, nk, nr, nw, nf, nl, dr, rl, ?_⟩
    refine h.tape (fun c' a1 a2 a3 a4 => (mUp_ne a4).trans (mUp_ne a1)) (fun k hk => (mUp_k hk).trans (mUp_c (by decide))) ⟨(mUp_c (by decide)).trans mUp_s, by omega, mUp_s, ?_, ?_⟩
    · rw [mUp_ne (by decide), mUp_ne (by decide), mUp_ne (by decide), mUp_ne (by decide)]; exact t4
    · rw [mUp_ne (by decide), mUp_ne (by decide)]; exact t5
theorem rAdd_ne {a k d u n c : Nat} {x y z : Int32} (h1 : c ≠ a) (h2 : c ≠ k) (h3 : c ≠ d) (h4 : c ≠ u) : rAdd I a k d u n x y z c = I c := by
  unfold rAdd
  rw [mUp_ne h1, mUp_ne h4, mUp_ne h3, mUp_ne h2]
theorem o_rank {p day r : Int32} (hS : St stp nx sh I P) : OpAt X B mdX10_rank mdX12_rank 0 0 [.int p, .int day, .int r] stp nx sh I P := by
  obtain ⟨m, na, ng, nk, nr, nw, nf, nl, dr, rl, h⟩ := hS
  cases hx : (inB p 30 && inB day 10000 && inB r 10) with
  | false => exact OpAt.det (e_X10_rankN h.1.1 hx) h.s35 (e_X12_rankN h.1.2.1 hx) rfl h.same
  | true =>
    have hx2 := hx
    rw [Bool.and_eq_true, Bool.and_eq_true] at hx2
    obtain ⟨j, hj, rfl⟩ := inB_nI hx2.1.1 (by decide)
    obtain ⟨q1, q2, q3⟩ := h.2.2.2.2.2.2.1
    obtain ⟨c1, c2⟩ := q2.1 j hj
    by_cases hf : cntK (I 9) j nr < 12
    · have hn := q2.room hj hf
      have eC : ∀ c', c' ≠ 8 → c' ≠ 9 → c' ≠ 10 → c' ≠ 11 → rAdd I 8 9 10 11 nr (nI j) day r c' = I c' := fun c' a1 a2 a3 a4 => rAdd_ne a1 a2 a3 a4
      have eM : ∀ (K : mI) c', c' ≠ 49 → c' ≠ 50 → c' ≠ 51 → mRkM K j (cntK (I 9) j nr) day r c' = K c' := fun K c' a1 a2 a3 => by
        unfold mRkM
        rw [mUp_ne a1, mUp_ne a3, mUp_ne a2]
      refine OpAt.det (e_X10_rank h.1.1 q1 hx (by rw [rCnt_cnt]; exact (nI_ltI (b := 12) (by omega) (by omega)).mpr hf) (by omega)) h.s35 (e_X12_rank h.1.2.1 hj (by rw [eC 49 (by decide) (by decide) (by decide) (by decide)]; exact c1) hf hx2.1.2 hx2.2) ?_ ⟨m, na, ng, nk, nr + 1, nw, nf, nl, dr, rl, ?_⟩
      · rw [rCnt_cnt]
        have k9 : rAdd I 8 9 10 11 nr (nI j) day r 9 nr = nI j := by simp [rAdd, mUp]
        show nI (cntK (I 9) j nr + 1) = nI (if rAdd I 8 9 10 11 nr (nI j) day r 9 nr = nI j then cntK (rAdd I 8 9 10 11 nr (nI j) day r 9) j nr + 1 else cntK (rAdd I 8 9 10 11 nr (nI j) day r 9) j nr)
        rw [if_pos k9, cntK_cg (K := I 9) (K' := rAdd I 8 9 10 11 nr (nI j) day r 9) (fun i hi => by simp [rAdd, mUp, Nat.ne_of_lt hi])]
      · refine h.rank (fun c' a1 a2 a3 a4 a5 a6 a7 _ => (eM _ c' a5 a6 a7).trans (eC c' a1 a2 a3 a4)) (fun k _ => by rw [eM _ 35 (by decide) (by decide) (by decide), eC 35 (by decide) (by decide) (by decide) (by decide)]) ⟨⟨?_, by omega⟩, ?_, ?_⟩
        · rw [eM _ 8 (by decide) (by decide) (by decide)]; simp [rAdd, mUp]
        · rw [eM _ 9 (by decide) (by decide) (by decide), eM _ 10 (by decide) (by decide) (by decide), eM _ 11 (by decide) (by decide) (by decide)]
          refine q2.add (p := j) (d := day) (u := r) hj hf ?_ ?_ ?_ ?_ ?_ ?_
          · intro i; simp [rAdd, mUp]
          · intro i; simp [rAdd, mUp]
          · intro i; simp [rAdd, mUp]
          · intro i; simp [mRkM, rAdd, mUp]
          · intro i; simp [mRkM, rAdd, mUp]
          · intro i; simp [mRkM, rAdd, mUp]
        · intro i hi
          rw [eM _ 10 (by decide) (by decide) (by decide)]
          by_cases e : i = nr
          · subst e; simp only [rAdd, mUp]; exact hx2.1.2
          · have : rAdd I 8 9 10 11 nr (nI j) day r 10 i = I 10 i := by simp [rAdd, mUp, e]
            rw [this]; exact q3 i (by omega)
    · have e12 : cntK (I 9) j nr = 12 := by omega
      exact OpAt.det (e_X10_rankF h.1.1 q1 hx (by rw [rCnt_cnt, e12]; decide)) h.s35 (e_X12_rankF h.1.2.1 hj (by rw [c1, e12]) hx2.1.2 hx2.2) rfl h.same
theorem o_wedding {p a b : Int32} (hS : St stp nx sh I P) : OpAt X B mdX10_wedding mdX12_wedding 0 0 [.int p, .int a, .int b] stp nx sh I P := by
  obtain ⟨m, na, ng, nk, nr, nw, nf, nl, dr, rl, h⟩ := hS
  cases hx : (inB p 30 && (inB a 10000 && inB b 10000 && decide (a ≤ b))) with
  | false => exact OpAt.det (e_X10_weddingN h.1.1 hx) h.s35 (e_X12_weddingN h.1.2.1 hx) rfl h.same
  | true =>
    have hx2 := hx
    rw [Bool.and_eq_true] at hx2
    obtain ⟨j, hj, rfl⟩ := inB_nI hx2.1 (by decide)
    obtain ⟨q1, q2⟩ := h.2.2.2.2.2.2.2.1
    obtain ⟨c1, c2⟩ := q2.1 j hj
    by_cases hf : cntK (I 13) j nw < 4
    · have hn := q2.room hj hf
      have eC : ∀ c', c' ≠ 12 → c' ≠ 13 → c' ≠ 14 → c' ≠ 15 → rAdd I 12 13 14 15 nw (nI j) a b c' = I c' := fun c' a1 a2 a3 a4 => rAdd_ne a1 a2 a3 a4
      have eM : ∀ (K : mI) c', c' ≠ 52 → c' ≠ 53 → c' ≠ 54 → mWdM K j (cntK (I 13) j nw) a b c' = K c' := fun K c' a1 a2 a3 => by
        unfold mWdM
        rw [mUp_ne a1, mUp_ne a3, mUp_ne a2]
      refine OpAt.det (e_X10_wedding h.1.1 q1 hx (by rw [rCnt_cnt]; exact (nI_ltI (b := 4) (by omega) (by omega)).mpr hf) (by omega)) h.s35 (e_X12_wedding h.1.2.1 hj (by rw [eC 52 (by decide) (by decide) (by decide) (by decide)]; exact c1) hf hx2.2) ?_ ⟨m, na, ng, nk, nr, nw + 1, nf, nl, dr, rl, ?_⟩
      · rw [rCnt_cnt]
        have k9 : rAdd I 12 13 14 15 nw (nI j) a b 13 nw = nI j := by simp [rAdd, mUp]
        show nI (cntK (I 13) j nw + 1) = nI (if rAdd I 12 13 14 15 nw (nI j) a b 13 nw = nI j then cntK (rAdd I 12 13 14 15 nw (nI j) a b 13) j nw + 1 else cntK (rAdd I 12 13 14 15 nw (nI j) a b 13) j nw)
        rw [if_pos k9, cntK_cg (K := I 13) (K' := rAdd I 12 13 14 15 nw (nI j) a b 13) (fun i hi => by simp [rAdd, mUp, Nat.ne_of_lt hi])]
      · refine h.wed (fun c' a1 a2 a3 a4 a5 a6 a7 _ => (eM _ c' a5 a6 a7).trans (eC c' a1 a2 a3 a4)) (fun k _ => by rw [eM _ 35 (by decide) (by decide) (by decide), eC 35 (by decide) (by decide) (by decide) (by decide)]) ⟨⟨?_, by omega⟩, ?_⟩
        · rw [eM _ 12 (by decide) (by decide) (by decide)]; simp [rAdd, mUp]
        · rw [eM _ 13 (by decide) (by decide) (by decide), eM _ 14 (by decide) (by decide) (by decide), eM _ 15 (by decide) (by decide) (by decide)]
          refine q2.add (p := j) (d := a) (u := b) hj hf ?_ ?_ ?_ ?_ ?_ ?_
          · intro i; simp [rAdd, mUp]
          · intro i; simp [rAdd, mUp]
          · intro i; simp [rAdd, mUp]
          · intro i; simp [mWdM, rAdd, mUp]
          · intro i; simp [mWdM, rAdd, mUp]
          · intro i; simp [mWdM, rAdd, mUp]
    · have e12 : cntK (I 13) j nw = 4 := by omega
      exact OpAt.det (e_X10_weddingF h.1.1 q1 hx (by rw [rCnt_cnt, e12]; decide)) h.s35 (e_X12_weddingF h.1.2.1 hj (by rw [c1, e12]) hx2.2) rfl h.same
theorem o_feast {a b : Int32} (hS : St stp nx sh I P) : OpAt X B mdX10_feast mdX12_feast 0 0 [.int a, .int b] stp nx sh I P := by
  obtain ⟨m, na, ng, nk, nr, nw, nf, nl, dr, rl, h⟩ := hS
  obtain ⟨q1, q2, q3⟩ := h.2.2.2.2.2.2.2.2.1
  have q20 := q1.2
  cases hx : (inB a 10000 && inB b 10000 && decide (a ≤ b)) with
  | false => exact OpAt.det (e_X10_feastN h.1.1 hx) h.s35 (e_X12_feastN h.1.2.1 hx) rfl h.same
  | true =>
    by_cases hf : nf < 20
    · have eC : ∀ c', c' ≠ 16 → c' ≠ 17 → c' ≠ 18 → c' ≠ 19 → rAdd I 16 17 18 19 nf 0 a b c' = I c' := fun c' a1 a2 a3 a4 => rAdd_ne a1 a2 a3 a4
      refine OpAt.det (e_X10_feast h.1.1 q1 hx hf) h.s35 (e_X12_feast h.1.2.1 (by rw [eC 35 (by decide) (by decide) (by decide) (by decide)]; exact q2) hf hx) rfl ⟨m, na, ng, nk, nr, nw, nf + 1, nl, dr, rl, ?_⟩
      refine h.feast (fun c' a1 a2 a3 a4 a5 a6 a7 => ?_) (fun k hk => ?_) ⟨⟨?_, by omega⟩, ?_, fun k hk => ?_⟩
      · unfold mFeM
        rw [mUp_ne a7, mUp_ne a6, mUp_ne a5, eC c' a1 a2 a3 a4]
      · simp [mFeM, rAdd, mUp, hk]
      · simp [mFeM, rAdd, mUp]
      · simp [mFeM, mUp]
      · by_cases e : k = nf
        · subst e; simp [mFeM, rAdd, mUp]
        · simp [mFeM, rAdd, mUp, e]; exact q3 k (by omega)
    · have e20 : nf = 20 := by omega
      subst e20
      exact OpAt.det (e_X10_feastF h.1.1 q1 hx) h.s35 (e_X12_feastF h.1.2.1 q2 hx) rfl h.same
theorem o_like {s t day : Int32} (hS : St stp nx sh I P) : OpAt X B mdX10_like mdX12_like 0 0 [.int s, .int t, .int day] stp nx sh I P := by
  obtain ⟨m, na, ng, nk, nr, nw, nf, nl, dr, rl, h⟩ := hS
  obtain ⟨q1, q2, q3, q4⟩ := h.2.2.2.2.2.2.2.2.2.1
  have q30 := q1.2
  have eqv : ∀ j, j < 16 → (inB (nI j) 16 && inB t 16 && decide (t < nI j) && inB day 10000) = (inB t j && inB day 10000) := fun j hj => by
    rw [inB_of hj (by decide), Bool.true_and]
    congr 1
    rw [Bool.eq_iff_iff, Bool.and_eq_true, inB_iff, inB_iff, decide_eq_true_eq, i_lt, nI_toInt (by omega)]
    omega
  cases hx : (inB s 16 && inB t 16 && decide (t < s) && inB day 10000) with
  | false => exact OpAt.det (e_X10_likeN h.1.1 hx) h.s35 (e_X12_likeN h.1.2.1 (fun j hj e => by rw [← eqv j hj, ← e]; exact hx)) rfl h.same
  | true =>
    have hx2 := hx
    rw [Bool.and_eq_true, Bool.and_eq_true, Bool.and_eq_true] at hx2
    obtain ⟨j, hj, rfl⟩ := inB_nI hx2.1.1.1 (by decide)
    have hx3 := hx
    rw [eqv j hj] at hx3
    have hx4 := hx3
    rw [Bool.and_eq_true] at hx4
    by_cases hf : nl < 30
    · have eC : ∀ c', c' ≠ 20 → c' ≠ 21 → c' ≠ 22 → c' ≠ 23 → rAdd I 20 21 22 23 nl (nI j) day t c' = I c' := fun c' a1 a2 a3 a4 => rAdd_ne a1 a2 a3 a4
      refine OpAt.det (e_X10_like h.1.1 q1 hx hf) h.s35 (e_X12_like h.1.2.1 (by rw [eC 35 (by decide) (by decide) (by decide) (by decide)]; exact q2) hf hj hx3) rfl ⟨m, na, ng, nk, nr, nw, nf, nl + 1, dr, rl, ?_⟩
      refine h.like (fun c' a1 a2 a3 a4 a5 a6 a7 a8 => ?_) (fun k hk => ?_) ⟨⟨?_, by omega⟩, ?_, fun k hk => ?_, fun k hk => ?_⟩
      · unfold mLiM
        rw [mUp_ne a8, mUp_ne a7, mUp_ne a6, mUp_ne a5, eC c' a1 a2 a3 a4]
      · simp [mLiM, rAdd, mUp, hk]
      · simp [mLiM, rAdd, mUp]
      · simp [mLiM, mUp]
      · by_cases e : k = nl
        · subst e
          obtain ⟨b, hb, eb⟩ := inB_nI hx4.1 (by omega)
          exact ⟨j, b, by simp [mLiM, mUp], by simp [mLiM, mUp]; exact eb, hb, hj⟩
        · obtain ⟨x, y, z1, z2, z3⟩ := q3 k (by omega)
          refine ⟨x, y, ?_, ?_, z3⟩
          · simp [mLiM, rAdd, mUp, e]; exact z1
          · simp [mLiM, rAdd, mUp, e]; exact z2
      · by_cases e : k = nl
        · subst e
          refine ⟨?_, ?_, ?_, ?_⟩
          · simp [mLiM, rAdd, mUp]
          · simp [mLiM, rAdd, mUp]
          · simp [mLiM, rAdd, mUp]
          · simp [mLiM, rAdd, mUp]; exact hx4.2
        · simp [mLiM, rAdd, mUp, e]; exact q4 k (by omega)
    · have e30 : nl = 30 := by omega
      subst e30
      exact OpAt.det (e_X10_likeF h.1.1 q1 hx) h.s35 (e_X12_likeF h.1.2.1 q2 hj hx3) rfl h.same
theorem o_price {k x : Int32} (hS : St stp nx sh I P) : OpAt X B mdX10_price mdX12_price 0 0 [.int k, .int x] stp nx sh I P := by
  obtain ⟨m, na, ng, nk, nr, nw, nf, nl, dr, rl, h⟩ := hS
  have h12 := h.2.2.2.2.2.2.2.2.2.2.2
  cases hx : (inB k 7 && inB x 1000) with
  | false => exact OpAt.det (e_X10_priceN h.1.1 hx) h.s35 (e_X12_priceN h.1.2.1 hx) rfl h.same
  | true =>
    rw [Bool.and_eq_true] at hx
    obtain ⟨j, hj, rfl⟩ := inB_nI hx.1 (by decide)
    refine OpAt.det (e_X10_price h.1.1 hx.1 hx.2) h.s35 (e_X12_price h.1.2.1 hj hx.2) ?_ ⟨m, na, ng, nk, nr, nw, nf, nl, dr, rl, ?_⟩
    · rw [nI_clamp (by omega), mUp_c (by decide)]; exact (h12 j hj).1
    · rw [nI_clamp (by omega)]
      refine h.price (fun c a1 a2 _ => (mUp_ne a2).trans (mUp_ne a1)) (fun k _ => (mUp_c (by decide)).trans (mUp_c (by decide))) (fun i hi => ?_)
      by_cases e : i = j
      · subst e
        obtain ⟨v, hv, ev⟩ := inB_nI hx.2 (by decide)
        exact ⟨by simp [mUp], v, hv, by rw [mUp_s]; exact ev⟩
      · have := h12 i hi
        simp only [mUp, e, and_false, if_false]
        exact this
end O2
