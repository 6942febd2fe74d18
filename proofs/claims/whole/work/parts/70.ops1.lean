/-! ===== the calls that only ask ===== -/
/-- the reference's answers don't see the court's scratch -/
theorem pRk_cg {I I1 : mI} {p : Nat} {day : Int32} (e : ∀ c, c ≠ 30 → c ≠ 33 → c ≠ 34 → I1 c = I c) : pRk I1 p day = pRk I p day := by
  unfold pRk mRk crC
  rw [e 49 (by decide) (by decide) (by decide), e 50 (by decide) (by decide) (by decide), e 51 (by decide) (by decide) (by decide)]
theorem pOc_cg {I I1 : mI} {nf p : Nat} {day : Int32} (e : ∀ c, c ≠ 30 → c ≠ 33 → c ≠ 34 → I1 c = I c) : pOc I1 nf p day = pOc I nf p day := by
  unfold pOc mOcc cwC
  rw [e 52 (by decide) (by decide) (by decide), e 53 (by decide) (by decide) (by decide), e 54 (by decide) (by decide) (by decide), e 55 (by decide) (by decide) (by decide), e 56 (by decide) (by decide) (by decide)]
theorem pBo_cg {I I1 : mI} {n nl a g : Nat} {rank occ day : Int32} (e : ∀ c, c ≠ 30 → c ≠ 33 → c ≠ 34 → I1 c = I c) : pBo I1 n nl a rank occ g day = pBo I n nl a rank occ g day := by
  unfold pBo qBo qBi qBr qInF qRp mCt mHl mLk rmC
  rw [e 36 (by decide) (by decide) (by decide), e 37 (by decide) (by decide) (by decide), e 38 (by decide) (by decide) (by decide), e 40 (by decide) (by decide) (by decide), e 41 (by decide) (by decide) (by decide), e 42 (by decide) (by decide) (by decide), e 43 (by decide) (by decide) (by decide), e 44 (by decide) (by decide) (by decide), e 45 (by decide) (by decide) (by decide), e 57 (by decide) (by decide) (by decide), e 58 (by decide) (by decide) (by decide), e 59 (by decide) (by decide) (by decide), e 60 (by decide) (by decide) (by decide), e 61 (by decide) (by decide) (by decide), e 62 (by decide) (by decide) (by decide), e 63 (by decide) (by decide) (by decide)]
theorem pFi_cg {I I1 : mI} {n nl nf p g : Nat} {day : Int32} (e : ∀ c, c ≠ 30 → c ≠ 33 → c ≠ 34 → I1 c = I c) : pFi I1 n nl nf p g day = pFi I n nl nf p g day := by
  unfold pFi pPn pFs
  simp only [pBo_cg e, pRk_cg e, pOc_cg e]
  unfold rmC
  rw [e 37 (by decide) (by decide) (by decide), e 46 (by decide) (by decide) (by decide), e 64 (by decide) (by decide) (by decide)]
theorem wokM_cg {I I1 : mI} {n nl g : Nat} {rank day : Int32} (e : ∀ c, c ≠ 30 → c ≠ 33 → c ≠ 34 → I1 c = I c) : wokM I1 n nl g rank day = wokM I n nl g rank day := by
  unfold wokM
  simp only [pBo_cg e]
section O1
variable {X : mX} {B nx stp : Nat} {sh : Nat → Option mSh} {I : mI} {P : mP}
theorem o_on {p day w : Int32} (hS : St stp nx sh I P) : OpAt X B mdX10_on mdX12_on 0 0 [.int p, .int day, .int w] stp nx sh I P := by
  obtain ⟨m, na, ng, nk, nr, nw, nf, nl, dr, rl, h⟩ := hS
  have hJ := h.mj
  obtain ⟨k1, k2, k3, k4, k5, k6, k7⟩ := h.jw
  cases hx : (inB p 30 && inB day 10000) with
  | false => exact OpAt.det (e_X10_on k1 k2 k3 k4) h.s35 (e_X12_onN hJ.1 hx) (by rw [onF, hx]; rfl) h.same
  | true =>
    have hx2 := hx
    rw [Bool.and_eq_true] at hx2
    obtain ⟨j, hj, rfl⟩ := inB_nI hx2.1 (by decide)
    obtain ⟨a1, a2, a3, a4⟩ := hJ.2.2.2.2.2.2.2 j hj
    refine OpAt.det (e_X10_on k1 k2 k3 k4) h.s35 (e_X12_on hJ.1 hJ.2.2.2.2.1.1 hJ.2.2.2.2.1.2 hj a1 a2 a3 a4 hx2.2) ?_ h.same
    rw [onF, hx, if_pos rfl, ← h.rk hj, ← h.oc hj]
    rfl
theorem o_about {g w : Int32} (hS : St stp nx sh I P) : OpAt X B mdX10_about mdX12_about 0 0 [.int g, .int w] stp nx sh I P := by
  obtain ⟨m, na, ng, nk, nr, nw, nf, nl, dr, rl, h⟩ := hS
  have hJ := h.mj
  obtain ⟨k1, k2, k3, k4, k5, k6, k7⟩ := h.jw
  have h40 := hJ.2.2.1.2
  cases hx : inB g ng with
  | false => exact OpAt.det (e_X10_aboutN k1 k6 hx) h.s35 (e_X12_aboutN hJ.1 hJ.2.2.1.1 h40 hx) rfl h.same
  | true =>
    obtain ⟨j, hj, rfl⟩ := inB_nI hx (by omega)
    refine OpAt.det (e_X10_about k1 k6 hj) h.s35 (e_X12_about hJ.1 hJ.2.2.1.1 h40 hj) ?_ h.same
    obtain ⟨g1, g2, g3, g4, -⟩ := h.2.2.2.2.1.2.2.1 j hj
    unfold mAbtF abtF
    rw [g1, g2, g3]
    have e : gMz (fun i => I 57 (5 * j + i)) w = gMz (I (pg P (pg P 24 j) 0)) w := by
      unfold gMz
      by_cases hi : inB w 5 = true
      · obtain ⟨i, hi2, rfl⟩ := inB_nI hi (by decide)
        rw [if_pos hi, if_pos hi, nI_clamp (by omega)]
        exact g4 i hi2
      · rw [if_neg hi, if_neg hi]
    rw [e]
theorem o_counts {s day : Int32} (hS : St stp nx sh I P) : OpAt X B mdX10_counts mdX12_counts 0 0 [.int s, .int day] stp nx sh I P := by
  obtain ⟨m, na, ng, nk, nr, nw, nf, nl, dr, rl, h⟩ := hS
  have hJ := h.mj
  obtain ⟨k1, k2, k3, k4, k5, k6, k7⟩ := h.jw
  cases hx : (inB s 16 && inB day 10000) with
  | false => exact OpAt.det (e_X10_counts k1 k5) h.s35 (e_X12_countsN hJ.1 hx) (by rw [hx]; rfl) h.same
  | true =>
    have hx2 := hx
    rw [Bool.and_eq_true] at hx2
    obtain ⟨j, hj, rfl⟩ := inB_nI hx2.1 (by decide)
    exact OpAt.det (e_X10_counts k1 k5) h.s35 (e_X12_counts hJ.1 hJ.2.2.2.1.1 hJ.2.2.2.1.2.1 hJ.2.2.2.1.2.2 hj hx2.2) (by rw [hx, if_pos rfl, h.ct]) h.same
theorem o_fault {w : Int32} (hS : St stp nx sh I P) : OpAt X B mdX10_fault mdX12_fault 0 0 [.int w] stp nx sh I P := by
  obtain ⟨m, na, ng, nk, nr, nw, nf, nl, dr, rl, h⟩ := hS
  exact OpAt.det (e_X10_fault h.1.1) h.s35 (e_X12_fault h.1.2.1) (by rw [mFltF, h.2.2.1.1, h.2.2.1.2]) h.same
theorem o_told {a w : Int32} (hS : St stp nx sh I P) : OpAt X B mdX10_told mdX12_told 0 0 [.int a, .int w] stp nx sh I P := by
  obtain ⟨m, na, ng, nk, nr, nw, nf, nl, dr, rl, h⟩ := hS
  have hJ := h.mj
  obtain ⟨k1, k2, k3, k4, k5, k6, k7⟩ := h.jw
  have h12 := hJ.2.1.2
  cases hx : inB a na with
  | false => exact OpAt.det (e_X10_toldN k1 k7 hx) h.s35 (e_X12_toldN hJ.1 hJ.2.1.1 h12 hx) rfl h.same
  | true =>
    obtain ⟨j, hj, rfl⟩ := inB_nI hx (by omega)
    obtain ⟨b1, b2, b3, b4, b5, -⟩ := (h.2.2.2.1.2.2.2 j hj).2.2
    exact OpAt.det (e_X10_told k1 k7 hj) h.s35 (e_X12_told hJ.1 hJ.2.1.1 h12 hj) (by rw [mTldF, tldF, b1, b2, b3, b4, b5]) h.same
theorem o_rule {a r w : Int32} (hS : St stp nx sh I P) : OpAt X B mdX10_rule mdX12_rule 0 0 [.int a, .int r, .int w] stp nx sh I P := by
  obtain ⟨m, na, ng, nk, nr, nw, nf, nl, dr, rl, h⟩ := hS
  have hJ := h.mj
  obtain ⟨k1, k2, k3, k4, k5, k6, k7⟩ := h.jw
  have h12 := hJ.2.1.2
  cases hx : inB a na with
  | false => exact OpAt.det (e_X10_ruleN k1 k7 (Or.inl hx)) h.s35 (e_X12_ruleA hJ.1 hJ.2.1.1 h12 hx) rfl h.same
  | true =>
    obtain ⟨j, hj, rfl⟩ := inB_nI hx (by omega)
    obtain ⟨m1, m2, m3⟩ := h.rm hj
    cases hr : inB r (aM I (pg P 7 j)) with
    | false => exact OpAt.det (e_X10_ruleN k1 k7 (Or.inr ⟨j, hj, rfl, hr⟩)) h.s35 (e_X12_ruleN hJ.1 hJ.2.1.1 h12 hj m2 m3 hr) rfl h.same
    | true =>
      obtain ⟨i, hi, rfl⟩ := inB_nI hr (by omega)
      refine OpAt.det (e_X10_rule k1 k7 hj hi) h.s35 (e_X12_rule hJ.1 hJ.2.1.1 h12 hj m2 m3 hi) ?_ h.same
      have f1 := ((h.2.2.2.1.2.2.2 j hj).2.2.2.2.2.2.2 i hi).1
      unfold mRulF rulF
      rw [show I 41 (12 * j + i) = _ from f1 0 (by omega), show I 42 (12 * j + i) = _ from f1 1 (by omega), show I 43 (12 * j + i) = _ from f1 2 (by omega), show I 44 (12 * j + i) = _ from f1 3 (by omega), show I 45 (12 * j + i) = _ from f1 4 (by omega), show I 46 (12 * j + i) = _ from f1 5 (by omega)]
theorem o_force {day : Int32} (hS : St stp nx sh I P) : OpAt X B mdX10_force mdX12_force 0 0 [.int day] stp nx sh I P := by
  obtain ⟨m, na, ng, nk, nr, nw, nf, nl, dr, rl, h⟩ := hS
  have hJ := h.mj
  obtain ⟨k1, k2, k3, k4, k5, k6, k7⟩ := h.jw
  cases hx : inB day 10000 with
  | false => exact OpAt.det (e_X10_force k1 k7) h.s35 (e_X12_forceN hx) (by rw [hx]; rfl) h.same
  | true => exact OpAt.det (e_X10_force k1 k7) h.s35 (e_X12_force hJ.1 hJ.2.1.1 hJ.2.1.2 hx) (by rw [hx, if_pos rfl, h.frc]) h.same
theorem o_lettered {k w : Int32} (hS : St stp nx sh I P) : OpAt X B mdX10_lettered mdX12_lettered 0 0 [.int k, .int w] stp nx sh I P := by
  obtain ⟨m, na, ng, nk, nr, nw, nf, nl, dr, rl, h⟩ := hS
  have h6 := h.2.2.2.2.2.1
  have h60 := h6.1.2.1
  cases hx : inB k nk with
  | false => exact OpAt.det (e_X10_letteredN h.1.1 h6.1 hx) h.s35 (e_X12_letteredN h.1.2.1 h6.2.1 h60 hx) rfl h.same
  | true =>
    obtain ⟨j, hj, rfl⟩ := inB_nI hx (by omega)
    refine OpAt.det (e_X10_lettered h.1.1 h6.1 hj) h.s35 (e_X12_lettered h.1.2.1 h6.2.1 h60 hj) ?_ h.same
    have f1 := (h6.2.2.1 j hj).1
    unfold mLtrF ltrF
    rw [show I 68 j = _ from f1 0 (by omega), show I 69 j = _ from f1 1 (by omega), show I 70 j = _ from f1 2 (by omega), show I 71 j = _ from f1 3 (by omega), show I 72 j = _ from f1 4 (by omega), show I 73 j = _ from f1 5 (by omega), show I 74 j = _ from f1 6 (by omega)]
theorem o_person {p w : Int32} (hS : St stp nx sh I P) : OpAt X B mdX10_person mdX12_person 0 0 [.int p, .int w] stp nx sh I P := by
  obtain ⟨m, na, ng, nk, nr, nw, nf, nl, dr, rl, h⟩ := hS
  have h11 := h.2.2.2.2.2.2.2.2.2.2.1
  have hw3 : inB w 3 = true ↔ w = 0 ∨ w = 1 ∨ w = 2 := by
    rw [inB_iff, i_eq, i_eq, i_eq]
    have e0 : (0 : Int32).toInt = 0 := rfl
    have e1 : (1 : Int32).toInt = 1 := rfl
    have e2 : (2 : Int32).toInt = 2 := rfl
    omega
  cases hx : (inB p 30 && inB w 3) with
  | false =>
    refine OpAt.det (e_X10_person h.1.1) h.s35 (e_X12_personN h.1.2.1 hx) ?_ h.same
    unfold prsF
    cases hp : inB p 30 with
    | false => rfl
    | true =>
      rw [hp, Bool.true_and] at hx
      have hn : ¬ (w = 0 ∨ w = 1 ∨ w = 2) := fun e => by rw [hw3.mpr e] at hx; cases hx
      rw [if_pos rfl, if_neg (fun e => hn (Or.inl e)), if_neg (fun e => hn (Or.inr (Or.inl e))), if_neg (fun e => hn (Or.inr (Or.inr e)))]
  | true =>
    rw [Bool.and_eq_true] at hx
    obtain ⟨j, hj, rfl⟩ := inB_nI hx.1 (by decide)
    refine OpAt.det (e_X10_person h.1.1) h.s35 (e_X12_person h.1.2.1 hj hx.2) ?_ h.same
    unfold prsF mPrsF
    rw [hx.1, if_pos rfl, nI_clamp (by omega), h11.1, h11.2.1, h11.2.2.1]
    rcases hw3.mp hx.2 with rfl | rfl | rfl <;> rfl
theorem o_count {w : Int32} (hS : St stp nx sh I P) : OpAt X B mdX10_count mdX12_count 0 0 [.int w] stp nx sh I P := by
  obtain ⟨m, na, ng, nk, nr, nw, nf, nl, dr, rl, h⟩ := hS
  refine OpAt.det (e_X10_count h.1.1) h.s35 (e_X12_count h.1.2.1) ?_ h.same
  obtain ⟨h1, h2, h3, h4, h5, h6, h7, h8, h9, h10, h11, h12⟩ := h
  unfold mCntF cntF
  rw [h4.2.1, h4.1.2.2.2.1, h5.2.1, h5.1.1, h6.2.1, h6.1.1, h11.2.2.2.1, h10.2.1, h10.1.1, h9.2.1, h9.1.1, h2.2.2.1, h2.1]
/-! with scratch -/
theorem o_fine {p g day : Int32} (hS : St stp nx sh I P) : OpAt X B mdX10_fine mdX12_fine 0 0 [.int p, .int g, .int day] stp nx sh I P := by
  obtain ⟨m, na, ng, nk, nr, nw, nf, nl, dr, rl, h⟩ := hS
  have hJ := h.mj
  have hK := h.jw
  cases hx : (inB p 30 && inB g ng && inB day 10000) with
  | false => exact OpAt.det (e_X10_fineN h.1.1 hK.2.2.2.2.2.1 hx) h.s35 (x_fineN hJ hx) rfl h.same
  | true =>
    rw [Bool.and_eq_true, Bool.and_eq_true] at hx
    obtain ⟨i, hi, rfl⟩ := inB_nI hx.1.1 (by decide)
    obtain ⟨j, hj, rfl⟩ := inB_nI hx.1.2 (by have := hJ.2.2.1.2; omega)
    refine OpAt.scr (e_X10_fine hK hi hj hx.2) h (fun I1 P1 h1 e => ⟨I1, fun _ _ _ => rfl, ?_⟩)
    have e2 : fineF I P nr nw nf nl na j i day = pFi I1 na nl nf i j day := by
      rw [h.fi hj hi]
      exact (pFi_cg e).symm
    rw [e2]
    exact x_fine h1.mj hi hj hx.2
theorem o_broken {p g day a : Int32} (hS : St stp nx sh I P) : OpAt X B mdX10_broken mdX12_broken 0 0 [.int p, .int g, .int day, .int a] stp nx sh I P := by
  obtain ⟨m, na, ng, nk, nr, nw, nf, nl, dr, rl, h⟩ := hS
  have hJ := h.mj
  have hK := h.jw
  cases hx : (inB p 30 && inB g ng && inB day 10000 && inB a na) with
  | false => exact OpAt.det (e_X10_brokenN h.1.1 hK.2.2.2.2.2.1 hK.2.2.2.2.2.2 (by rw [Bool.and_comm]; exact hx)) h.s35 (x_brokenN hJ hx) rfl h.same
  | true =>
    rw [Bool.and_eq_true, Bool.and_eq_true, Bool.and_eq_true] at hx
    obtain ⟨i, hi, rfl⟩ := inB_nI hx.1.1.1 (by decide)
    obtain ⟨j, hj, rfl⟩ := inB_nI hx.1.1.2 (by have := hJ.2.2.1.2; omega)
    obtain ⟨b, hb, rfl⟩ := inB_nI hx.2 (by have := hJ.2.1.2; omega)
    refine OpAt.scr (e_X10_broken hK hi hj hx.1.2 hb) h (fun I1 P1 h1 e => ⟨I1, fun _ _ _ => rfl, ?_⟩)
    have e2 : brnF I P nr nw nf nl na j i day b = pBo I1 na nl b (pRk I1 i day) (pOc I1 nf i day) j day := by
      unfold brnF
      rw [h.bo hj Wn_put hb, pBo_cg e, pRk_cg e, pOc_cg e, h.rk hi, h.oc hi]
    rw [e2]
    exact x_broken h1.mj hi hj hx.1.2 hb
theorem o_worn {g rank a b w : Int32} (hS : St stp nx sh I P) : OpAt X B mdX10_worn mdX12_worn 0 0 [.int g, .int rank, .int a, .int b, .int w] stp nx sh I P := by
  obtain ⟨m, na, ng, nk, nr, nw, nf, nl, dr, rl, h⟩ := hS
  have hJ := h.mj
  obtain ⟨k1, k2, k3, k4, k5, k6, k7⟩ := h.jw
  cases hx : wnC ng g rank a b w with
  | false => exact OpAt.det (e_X10_wornN k1 k6 hx) h.s35 (x_wornN hJ hx) rfl h.same
  | true =>
    have hx2 := hx
    simp only [wnC, Bool.and_eq_true, decide_eq_true_eq] at hx2
    obtain ⟨⟨⟨⟨y1, y2⟩, ⟨y3, y4⟩, y5⟩, y6⟩, y7⟩ := hx2
    obtain ⟨j, hj, rfl⟩ := inB_nI y1 (by have := hJ.2.2.1.2; omega)
    obtain ⟨f, hf, rfl⟩ := inB_nI y3 (by decide)
    obtain ⟨t, ht, rfl⟩ := inB_nI y4 (by decide)
    have hft := nN_le y5 (by omega) (by omega)
    refine OpAt.scr (e_X10_worn k1 k5 k6 k7 hj hft ht hx) h (fun I1 P1 h1 e => ⟨I1, fun _ _ _ => rfl, ?_⟩)
    have e2 : (fun d => wokF I P nl na j rank (nI d)) = fun d => wokM I1 na nl j rank (nI d) := funext fun d => by rw [h.wok hj, wokM_cg e]
    rw [e2]
    exact x_worn h1.mj hj hft ht hx
theorem gaN_cg {n nf p g : Nat} {I1 : mI} {day : Int32} (e : ∀ c, c ≠ 30 → c ≠ 33 → c ≠ 34 → I1 c = I c) : ∀ c, (c = 35 ∨ 36 ≤ c) → gaN I1 n nf p g day c = gaN I n nf p g day c := by
  have hB : gaB I1 n nf p g day = gaB I n nf p g day := by
    funext a k
    unfold gaB
    rw [pRk_cg e, pOc_cg e]
    unfold qBi qInF qRp
    rw [e 36 (by decide) (by decide) (by decide), e 38 (by decide) (by decide) (by decide), e 40 (by decide) (by decide) (by decide), e 43 (by decide) (by decide) (by decide), e 44 (by decide) (by decide) (by decide), e 45 (by decide) (by decide) (by decide), e 60 (by decide) (by decide) (by decide)]
  have key : ∀ (f : Nat → Bool) (K1 K : mI) (a : Nat), (∀ c, (c = 35 ∨ 36 ≤ c) → K1 c = K c) → ∀ r c, (c = 35 ∨ 36 ≤ c) → gaA f K1 a r c = gaA f K a r c := by
    intro f K1 K a hK r
    induction r with
    | zero => exact hK
    | succ r ih =>
      intro c hc
      show (if f (12 * a + r) then gaR (gaA f K1 a r) (12 * a + r) else gaA f K1 a r) c = (if f (12 * a + r) then gaR (gaA f K a r) (12 * a + r) else gaA f K a r) c
      split
      · unfold gaR
        rw [ih 41 (by omega), ih 42 (by omega), ih 75 (by omega), ih 35 (by omega)]
        have up : ∀ (c0 k0 : Nat) (v : Int32), mUp (gaA f K1 a r) c0 k0 v c = mUp (gaA f K a r) c0 k0 v c := fun c0 k0 v => funext fun k => by
          unfold mUp
          rw [ih c hc]
        split
        · exact up _ _ _
        · split
          · exact up _ _ _
          · split
            · exact up _ _ _
            · exact up _ _ _
      · exact ih c hc
  have main : ∀ a c, (c = 35 ∨ 36 ≤ c) → gaM (gaB I n nf p g day) I1 a c = gaM (gaB I n nf p g day) I a c := by
    intro a
    induction a with
    | zero =>
      intro c hc
      funext k
      show gaO I1 c k = gaO I c k
      unfold gaO mUp mFill
      rw [e c (by omega) (by omega) (by omega)]
    | succ a ih =>
      intro c hc
      show gaA (gaB I n nf p g day a) (gaM (gaB I n nf p g day) I1 a) a (rmC I1 a) c = gaA (gaB I n nf p g day a) (gaM (gaB I n nf p g day) I a) a (rmC I a) c
      have er : rmC I1 a = rmC I a := by unfold rmC; rw [e 37 (by decide) (by decide) (by decide)]
      rw [er]
      exact key _ _ _ _ ih _ c hc
  intro c hc
  show gaM (gaB I1 n nf p g day) I1 n c = gaM (gaB I n nf p g day) I n c
  rw [hB]
  exact main n c hc
theorem pAl_cg {K K1 : mI} {nl g : Nat} {day : Int32} (e : ∀ c, (c = 35 ∨ 36 ≤ c) → K1 c = K c) : pAl K1 nl g day = pAl K nl g day := by
  unfold pAl pAc pNoS pAs mCt mHl mLk
  rw [e 35 (by omega), e 57 (by omega), e 58 (by omega), e 59 (by omega), e 61 (by omega), e 62 (by omega), e 63 (by omega), e 67 (by omega), e 75 (by omega)]
theorem gaN_scr {I1 : mI} {n nf p g : Nat} {day : Int32} : ∀ c k, ¬ scI c k → gaN I1 n nf p g day c k = I1 c k := by
  intro c k h
  have hF : gaF I1 (gaM (gaB I1 n nf p g day) I1 n) := gaM_F n
  by_cases h35 : c = 35
  · subst h35
    exact hF.2 k (fun e => h (Or.inr (Or.inr (Or.inr (Or.inr ⟨rfl, by omega⟩))))) (fun e => h (Or.inr (Or.inr (Or.inr (Or.inr ⟨rfl, by omega⟩)))))
  · exact hF.1 c k h35 (fun e => h (Or.inr (Or.inr (Or.inr (Or.inl e)))))
theorem o_alter {p g day : Int32} (hS : St stp nx sh I P) : OpAt X B mdX10_alter mdX12_alter 0 0 [.int p, .int g, .int day] stp nx sh I P := by
  obtain ⟨m, na, ng, nk, nr, nw, nf, nl, dr, rl, h⟩ := hS
  have hJ := h.mj
  have hK := h.jw
  cases hx : (inB p 30 && inB g ng && inB day 10000) with
  | false => exact OpAt.det (e_X10_alterN h.1.1 hK.2.2.2.2.2.1 hx) h.s35 (x_alterN hJ hx) rfl h.same
  | true =>
    rw [Bool.and_eq_true, Bool.and_eq_true] at hx
    obtain ⟨i, hi, rfl⟩ := inB_nI hx.1.1 (by decide)
    obtain ⟨j, hj, rfl⟩ := inB_nI hx.1.2 (by have := hJ.2.2.1.2; omega)
    refine OpAt.scr (e_X10_alter hK hi hj hx.2) h (fun I1 P1 h1 e => ⟨gaN I1 na nf i j day, gaN_scr, ?_⟩)
    rw [h.al hj hi, ← pAl_cg (gaN_cg e)]
    exact x_alter h1.mj hi hj (h1.2.2.2.2.1.2.2.1 j hj).2.2.2.2.2.1 hx.2
theorem o_best {p g day : Int32} (hS : St stp nx sh I P) : OpAt X B mdX10_best mdX12_best 0 0 [.int p, .int g, .int day] stp nx sh I P := by
  obtain ⟨m, na, ng, nk, nr, nw, nf, nl, dr, rl, h⟩ := hS
  have hJ := h.mj
  have hK := h.jw
  cases hx : (inB p 30 && inB g ng && inB day 10000) with
  | false => exact OpAt.det (e_X10_bestN h.1.1 hK.2.2.2.2.2.1 hx) h.s35 (x_bestN hJ hx) rfl h.same
  | true =>
    rw [Bool.and_eq_true, Bool.and_eq_true] at hx
    obtain ⟨i, hi, rfl⟩ := inB_nI hx.1.1 (by decide)
    obtain ⟨j, hj, rfl⟩ := inB_nI hx.1.2 (by have := hJ.2.2.1.2; omega)
    by_cases hf : pFi I na nl nf i j day = 0
    · refine OpAt.scr (e_X10_best hK hi hj hx.2) h (fun I1 P1 h1 e => ⟨I1, fun _ _ _ => rfl, ?_⟩)
      rw [h.fi hj hi, hf, bstF, if_pos rfl]
      exact x_best0 h1.mj hi hj hx.2 (by rw [pFi_cg e]; exact hf)
    · refine OpAt.scr (e_X10_best hK hi hj hx.2) h (fun I1 P1 h1 e => ⟨gaN I1 na nf i j day, gaN_scr, ?_⟩)
      rw [h.al hj hi, ← pAl_cg (gaN_cg e), h.fi hj hi, ← pFi_cg e]
      exact x_best h1.mj hi hj (h1.2.2.2.2.1.2.2.1 j hj).2.2.2.2.2.1 hx.2 (by rw [pFi_cg e]; exact hf)
end O1
