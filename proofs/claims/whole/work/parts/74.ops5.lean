/-! ===== letter, judge ===== -/
section O5
variable {X : mX} {B nx stp : Nat} {sh : Nat → Option mSh} {I : mI} {P : mP}
theorem lnI_ne {n c : Nat} {b p g d : Int32} (h1 : c ≠ nx) (h3 : c ≠ 0) : lnI I nx n b p g d c = I c := by
  unfold lnI lrI
  rw [mUp_ne h3, mUp_ne h1, mUp_ne h1, mUp_ne h1, mUp_ne h1, mUp_ne h1, mUp_ne h1, mUp_ne h1, mNI_ne h1]
theorem lnP_ne {n c : Nat} (h1 : c ≠ nx) (h2 : c ≠ 25) : lnP P nx n c = P c := by
  unfold lnP
  rw [mUp_ne h2, mNP_ne h1]
theorem mLeM_ne {n c : Nat} {b p g d : Int32} {K : mI} (h : c < 68 ∨ 74 < c) (h2 : c ≠ 35) : mLeM K n b p g d c = K c := by
  unfold mLeM
  rw [mUp_ne h2, mUp_ne (by omega), mUp_ne (by omega), mUp_ne (by omega), mUp_ne (by omega), mUp_ne (by omega), mUp_ne (by omega), mUp_ne (by omega)]
theorem mLeM_old {n c j : Nat} {b p g d : Int32} {K : mI} (hj : j ≠ n) (h2 : c ≠ 35) : mLeM K n b p g d c j = K c j := by
  unfold mLeM
  rw [mUp_c h2, mUp_k hj, mUp_k hj, mUp_k hj, mUp_k hj, mUp_k hj, mUp_k hj, mUp_k hj]
theorem o_letter {b p g d : Int32} (hS : St stp nx sh I P) : OpAt X B mdX10_letter mdX12_letter 1 7 [.int b, .int p, .int g, .int d] stp nx sh I P := by
  obtain ⟨m, na, ng, nk, nr, nw, nf, nl, dr, rl, h⟩ := hS
  have hJ := h.mj
  have h5 := h.2.2.2.2.1
  have h6 := h.2.2.2.2.2.1
  have h76 := h.1.2.2.1
  have hfr := h.1.2.2.2
  have h40 := h5.1.2.1
  have h60 := h6.1.2.1
  have eqv : (inB b 30 && (inB p 30 && inB g ng && inB d 10000) && !decide (b = p)) = ltC ng b p g d := by
    unfold ltC
    cases inB b 30 <;> cases inB p 30 <;> cases inB g ng <;> cases inB d 10000 <;> cases decide (b = p) <;> rfl
  cases hx : ltC ng b p g d with
  | false => exact OpAt.det (e_X10_letterN h.1.1 h5.1 hx) h.s35 (x_letterN hJ (eqv.trans hx)) rfl h.same
  | true =>
    have hx2 := hx
    simp only [ltC, Bool.and_eq_true] at hx2
    obtain ⟨⟨⟨⟨x1, x2⟩, x3⟩, x4⟩, x5⟩ := hx2
    obtain ⟨vb, lb, rfl⟩ := inB_nI x1 (by decide)
    obtain ⟨vp, lp, rfl⟩ := inB_nI x2 (by decide)
    obtain ⟨vg, lg, rfl⟩ := inB_nI x4 (by omega)
    by_cases hn : nk < 60
    · have hsh : ∀ c z, sh c = some z → mUs sh nx (.inl 4) c = some z := fun c z hc => by
        have := hfr c z hc
        rw [mUs_ne (by omega)]; exact hc
      have hMW : MW (mUs sh nx (.inl 4)) (lnP P nx nk) := ⟨fun c z hc => hsh _ _ (h.1.2.1.1 c z hc), fun j b hj => by rw [lnP_ne (by omega) (by decide)]; exact h.1.2.1.2 j b hj⟩
      have eC := fun c (h1 : c ≠ nx) (h3 : c ≠ 0) => lnI_ne (I := I) (n := nk) (b := nI vb) (p := nI vp) (g := nI vg) (d := d) h1 h3
      have hJ1 : MJ (mUs sh nx (.inl 4)) (lnI I nx nk (nI vb) (nI vp) (nI vg) d) (lnP P nx nk) na ng nl nf := hJ.cm hMW (fun c a1 a2 => eC c (by omega) (by omega)) (eC 35 (by omega) (by decide))
      have p25 : ∀ k, k < nk → pg (lnP P nx nk) 25 k = pg P 25 k := fun k hk => by
        unfold pg lnP
        rw [mUp_k (by omega), mNP_ne (show 25 ≠ nx by omega)]
      have p25n : pg (lnP P nx nk) 25 nk = nx := by unfold pg lnP; rw [mUp_s]; rfl
      have ll : ∀ k, k < nk → pg P 25 k < nx := fun k hk => hfr _ _ (h6.1.2.2 k hk).2
      refine OpAt.det (e_X10_letter h.1.1 h5.1 h6.1 hn lg hx h76) (hsh _ _ h.s35) (x_letter hJ1 (by rw [eC 35 (by omega) (by decide)]; exact h6.2.1) hn (eqv.trans hx)) rfl ⟨m, na, ng, nk + 1, nr, nw, nf, nl, dr, rl, ?_⟩
      refine h.lett (I' := mLeM (lnI I nx nk (nI vb) (nI vp) (nI vg) d) nk (nI vb) (nI vp) (nI vg) d) (fun c a1 a2 a3 a4 a5 a6 a7 a8 a9 a10 => (mLeM_ne (by omega) a9).trans (eC c (by omega) a8)) (fun j hj => ?_) (fun j hj => ?_) (Nat.le_succ _) hsh (mUs_lt hfr) (fun c a1 a2 => lnP_ne (by omega) a2) ⟨⟨?_, by omega, fun k hk => ?_⟩, ?_, fun k hk => ?_, fun k k' hk hk' he => ?_⟩
      · rw [mLeM_ne (by omega) (by decide)]
        unfold lnI lrI
        rw [mUp_k hj, mUp_ne (by omega), mUp_ne (by omega), mUp_ne (by omega), mUp_ne (by omega), mUp_ne (by omega), mUp_ne (by omega), mUp_ne (by omega), mNI_ne (by omega)]
      · unfold mLeM
        rw [mUp_k hj, mUp_c (by decide), mUp_c (by decide), mUp_c (by decide), mUp_c (by decide), mUp_c (by decide), mUp_c (by decide), mUp_c (by decide), eC 35 (by omega) (by decide)]
      · rw [mLeM_ne (by omega) (by decide)]
        unfold lnI
        rw [mUp_s]
      · by_cases ek : k = nk
        · subst ek
          rw [p25n]
          exact ⟨by unfold lnP; rw [mUp_s], by simp [mUs]⟩
        · rw [p25 k (by omega)]
          refine ⟨?_, hsh _ _ (h6.1.2.2 k (by omega)).2⟩
          unfold lnP
          rw [mUp_k ek, mNP_ne (show 25 ≠ nx by omega)]
          exact (h6.1.2.2 k (by omega)).1
      · unfold mLeM; rw [mUp_s]
      · by_cases ek : k = nk
        · subst ek
          rw [p25n, mLeM_ne (show nx < 68 ∨ 74 < nx by omega) (by omega)]
          have nn : nx ≠ 0 := by omega
          refine ⟨fun j hj => ?_, ⟨vb, vp, vg, by simp [mLeM, mUp], by simp [mLeM, mUp], by simp [mLeM, mUp], lb, lp, lg⟩, ?_⟩
          · rcases (show j = 0 ∨ j = 1 ∨ j = 2 ∨ j = 3 ∨ j = 4 ∨ j = 5 ∨ j = 6 by omega) with rfl | rfl | rfl | rfl | rfl | rfl | rfl <;> simp [mLeM, lnI, lrI, mUp, nn]
          · rw [show mLeM (lnI I nx k (nI vb) (nI vp) (nI vg) d) k (nI vb) (nI vp) (nI vg) d 71 k = d by simp [mLeM, mUp]]; exact x5
        · obtain ⟨a1, ⟨b', p', g', b1, b2, b3, b4, b5, b6⟩, a3⟩ := h6.2.2.1 k (by omega)
          have lk := ll k (by omega)
          have so := (h6.1.2.2 k (by omega)).2
          have o76 : ∀ c', c' < 76 → ((csF c').isSome || (msF c').isSome) = true → pg P 25 k ≠ c' := fun c' u v => R1.nc h.1 so (by simp) u v
          have o1 : mLeM (lnI I nx nk (nI vb) (nI vp) (nI vg) d) nk (nI vb) (nI vp) (nI vg) d (pg P 25 k) = I (pg P 25 k) := by
            unfold mLeM
            rw [mUp_ne (o76 35 (by decide) rfl), mUp_ne (o76 74 (by decide) rfl), mUp_ne (o76 73 (by decide) rfl), mUp_ne (o76 72 (by decide) rfl), mUp_ne (o76 71 (by decide) rfl), mUp_ne (o76 70 (by decide) rfl), mUp_ne (o76 69 (by decide) rfl), mUp_ne (o76 68 (by decide) rfl)]
            exact eC _ (by omega) (o76 0 (by decide) rfl)
          rw [p25 k (by omega), o1]
          refine ⟨fun j hj => by rw [mLeM_old ek (by omega), eC (68 + j) (by omega) (by omega)]; exact a1 j hj, ⟨b', p', g', by rw [mLeM_old ek (by omega), eC 68 (by omega) (by omega)]; exact b1, by rw [mLeM_old ek (by omega), eC 69 (by omega) (by omega)]; exact b2, by rw [mLeM_old ek (by omega), eC 70 (by omega) (by omega)]; exact b3, b4, b5, b6⟩, by rw [mLeM_old ek (by omega), eC 71 (by omega) (by omega)]; exact a3⟩
      · by_cases e1 : k = nk
        · by_cases e2 : k' = nk
          · omega
          · exfalso
            rw [e1, p25n, p25 k' (by omega)] at he
            have := ll k' (by omega)
            omega
        · by_cases e2 : k' = nk
          · exfalso
            rw [e2, p25n, p25 k (by omega)] at he
            have := ll k (by omega)
            omega
          · rw [p25 k (by omega), p25 k' (by omega)] at he
            exact h6.2.2.2 k k' (by omega) (by omega) he
    · have e60 : nk = 60 := by omega
      subst e60
      exact OpAt.det (e_X10_letterF h.1.1 h5.1 h6.1 lg hx) h.s35 (x_letterF hJ h6.2.1 (eqv.trans hx)) rfl h.same
/-! judge: the two memories behind it -/
theorem RR.jud {m na ng nk nr nw nf nl dr rl k : Nat} {I2 : mI} {P1 : mP} {v4 v5 v6 : Int32} (h : RR stp nx sh I P m na ng nk nr nw nf nl dr rl) (hk : k < nk)
    (eI : ∀ c, c ≠ 26 → c ≠ 27 → c ≠ 28 → c ≠ 30 → c ≠ 64 → c ≠ 65 → c ≠ 66 → c ≠ 72 → c ≠ 73 → c ≠ 74 → c ≠ pg P 25 k → c ≠ 0 → c ≠ 35 → I2 c = I c) (e0 : ∀ j, j ≠ 13 → I2 0 j = I 0 j) (e35 : ∀ j, j ≠ 46 → I2 35 j = I 35 j) (eP : ∀ c j, ¬ (c = 30 ∧ j = 2) → P1 c j = P c j)
    (eo : ∀ j, j < 4 → I2 (pg P 25 k) j = I (pg P 25 k) j) (o4 : I2 (pg P 25 k) 4 = v4) (o5 : I2 (pg P 25 k) 5 = v5) (o6 : I2 (pg P 25 k) 6 = v6) (m4 : ∀ j, I2 72 j = if j = k then v4 else I 72 j) (m5 : ∀ j, I2 73 j = if j = k then v5 else I 73 j) (m6 : ∀ j, I2 74 j = if j = k then v6 else I 74 j) (n11 : R11 I2 (stp + 1)) : RR (stp + 1) nx sh I2 P1 m na ng nk nr nw nf nl dr rl := by
  have h1 := h.1
  have h6 := h.2.2.2.2.2.1
  have so := (h6.1.2.2 k hk).2
  have o76 : ∀ c', c' < 76 → ((csF c').isSome || (msF c').isSome) = true → pg P 25 k ≠ c' := fun c' u v => R1.nc h1 so (by simp) u v
  have q25 : P1 25 = P 25 := funext fun j => eP 25 j (by omega)
  have eL : ∀ c, 68 ≤ c → c ≤ 71 → I2 c = I c := fun c a1 a2 => eI c (by omega) (by omega) (by omega) (by omega) (by omega) (by omega) (by omega) (by omega) (by omega) (by omega) (fun e => o76 c (by omega) (by rcases (show c = 68 ∨ c = 69 ∨ c = 70 ∨ c = 71 by omega) with rfl | rfl | rfl | rfl <;> rfl) e.symm) (by omega) (by omega)
  refine h.lets so eI e0 e35 eP ⟨⟨?_, h6.1.2.1, fun i hi => ?_⟩, ?_, fun i hi => ?_, fun i i' a b c => h6.2.2.2 i i' a b (by rw [pg_cg q25, pg_cg q25] at c; exact c)⟩ n11
  · rw [e0 9 (by decide)]; exact h6.1.1
  · rw [pg_cg q25, q25]; exact h6.1.2.2 i hi
  · rw [e35 45 (by decide)]; exact h6.2.1
  · obtain ⟨a1, ⟨b', p', g', b1, b2, b3, b4, b5, b6⟩, a3⟩ := h6.2.2.1 i hi
    rw [pg_cg q25]
    refine ⟨fun j hj => ?_, ⟨b', p', g', by rw [eL 68 (by omega) (by omega)]; exact b1, by rw [eL 69 (by omega) (by omega)]; exact b2, by rw [eL 70 (by omega) (by omega)]; exact b3, b4, b5, b6⟩, by rw [eL 71 (by omega) (by omega)]; exact a3⟩
    by_cases e : i = k
    · subst e
      by_cases j4 : j < 4
      · rw [eL (68 + j) (by omega) (by omega), eo j j4]; exact a1 j hj
      · rcases (show j = 4 ∨ j = 5 ∨ j = 6 by omega) with rfl | rfl | rfl
        · show I2 72 i = _; rw [m4, if_pos rfl, o4]
        · show I2 73 i = _; rw [m5, if_pos rfl, o5]
        · show I2 74 i = _; rw [m6, if_pos rfl, o6]
    · have si := (h6.1.2.2 i hi).2
      have i76 : ∀ c', c' < 76 → ((csF c').isSome || (msF c').isSome) = true → pg P 25 i ≠ c' := fun c' u v => R1.nc h1 si (by simp) u v
      have oi : I2 (pg P 25 i) = I (pg P 25 i) := eI _ (i76 26 (by decide) rfl) (i76 27 (by decide) rfl) (i76 28 (by decide) rfl) (i76 30 (by decide) rfl) (i76 64 (by decide) rfl) (i76 65 (by decide) rfl) (i76 66 (by decide) rfl) (i76 72 (by decide) rfl) (i76 73 (by decide) rfl) (i76 74 (by decide) rfl) (fun e2 => e (h6.2.2.2 i k hi hk e2)) (i76 0 (by decide) rfl) (i76 35 (by decide) rfl)
      rw [oi, ← a1 j hj]
      by_cases j4 : j < 4
      · rw [eL (68 + j) (by omega) (by omega)]
      · rcases (show j = 4 ∨ j = 5 ∨ j = 6 by omega) with rfl | rfl | rfl
        · show I2 72 i = _; rw [m4, if_neg e]
        · show I2 73 i = _; rw [m5, if_neg e]
        · show I2 74 i = _; rw [m6, if_neg e]
end O5
