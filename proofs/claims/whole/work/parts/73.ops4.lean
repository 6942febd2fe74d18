/-! ===== gown, seal, letter, judge ===== -/
section O4
variable {X : mX} {B nx stp : Nat} {sh : Nat → Option mSh} {I : mI} {P : mP}
theorem gnI_ne {n c : Nat} {a b d e f s k : Int32} (h1 : c ≠ nx) (h2 : c ≠ nx + 1) (h3 : c ≠ 0) : gnI I nx n a b d e f s k c = I c := by
  unfold gnI gwI
  rw [mUp_ne h3, mUp_ne h1, mUp_ne h1, mUp_ne h2, mUp_ne h2, mUp_ne h2, mUp_ne h2, mUp_ne h2, mUp_ne h1, mNI_ne h2, mNI_ne h1]
theorem gnP_ne {n c : Nat} (h1 : c ≠ nx) (h2 : c ≠ 24) : gnP P nx n c = P c := by
  unfold gnP
  rw [mUp_ne h2, mUp_ne h1, mNP_ne h1]
theorem o_gown {a b d e f s k : Int32} (hS : St stp nx sh I P) : OpAt X B mdX10_gown mdX12_gown 2 9 [.int a, .int b, .int d, .int e, .int f, .int s, .int k] stp nx sh I P := by
  obtain ⟨m, na, ng, nk, nr, nw, nf, nl, dr, rl, h⟩ := hS
  have h5 := h.2.2.2.2.1
  have h76 := h.1.2.2.1
  have hfr := h.1.2.2.2
  have h40 := h5.1.2.1
  cases hx : (inB a 10000 && inB b 10000 && inB d 10000 && inB e 10000 && inB f 10000 && inB s 16 && inB k 8) with
  | false => exact OpAt.det (e_X10_gownN h.1.1 hx) h.s35 (e_X12_gownN h.1.2.1 hx) rfl h.same
  | true =>
    have hx2 := hx
    simp only [Bool.and_eq_true] at hx2
    by_cases hn : ng < 40
    · have eC := fun c (h1 : c ≠ nx) (h2 : c ≠ nx + 1) (h3 : c ≠ 0) => gnI_ne (I := I) (n := ng) (a := a) (b := b) (d := d) (e := e) (f := f) (s := s) (k := k) h1 h2 h3
      have eM : ∀ (K : mI) c', c' ≠ 57 → c' ≠ 58 → c' ≠ 59 → c' ≠ 60 → c' ≠ 35 → mGnM K ng a b d e f s k c' = K c' := fun K c' a1 a2 a3 a4 a5 => by
        unfold mGnM
        rw [mUp_ne a5, mUp_ne a4, mUp_ne a3, mUp_ne a2, mUp_ne a1, mUp_ne a1, mUp_ne a1, mUp_ne a1, mUp_ne a1]
      have hsh : ∀ c z, sh c = some z → gnS sh nx c = some z := fun c z hc => by
        have := hfr c z hc
        unfold gnS
        rw [mUs_ne (by omega), mUs_ne (by omega)]; exact hc
      have hMW : MW (gnS sh nx) (gnP P nx ng) := ⟨fun c z hc => hsh _ _ (h.1.2.1.1 c z hc), fun j b hj => by rw [gnP_ne (by omega) (by decide)]; exact h.1.2.1.2 j b hj⟩
      have p24 : ∀ g, g < ng → pg (gnP P nx ng) 24 g = pg P 24 g := fun g hg => by
        unfold pg gnP
        rw [mUp_k (by omega), mUp_c (by omega), mNP_ne (show 24 ≠ nx by omega)]
      have p24n : pg (gnP P nx ng) 24 ng = nx := by unfold pg gnP; rw [mUp_s]; rfl
      have lg : ∀ g, g < ng → pg P 24 g < nx ∧ pg P (pg P 24 g) 0 < nx := fun g hg => ⟨hfr _ _ (h5.1.2.2 g hg).2.1, hfr _ _ (h5.1.2.2 g hg).2.2.2⟩
      have n24 : ∀ g, g < ng → pg P 24 g ≠ 24 ∧ pg P 24 g ≠ 0 := fun g hg => ⟨R1.nc h.1 (h5.1.2.2 g hg).2.1 (by simp) (by decide) rfl, R1.nc h.1 (h5.1.2.2 g hg).2.1 (by simp) (by decide) rfl⟩
      refine OpAt.det (e_X10_gown h.1.1 h5.1 hn hx h76) (hsh _ _ h.s35) (e_X12_gown hMW (by rw [eC 35 (by omega) (by omega) (by decide)]; exact h5.2.1) hn hx) rfl ⟨m, na, ng + 1, nk, nr, nw, nf, nl, dr, rl, ?_⟩
      refine h.gown (I' := mGnM (gnI I nx ng a b d e f s k) ng a b d e f s k) (fun c a1 a2 a3 a4 a5 a6 a7 => (eM _ c a1 a2 a3 a4 a6).trans (eC c (by omega) (by omega) a5)) (fun j hj => ?_) (fun j hj => ?_) (Nat.le_add_right _ 2) hsh (mUs_lt (mUs_lt hfr)) (fun c a1 a2 => gnP_ne (by omega) a2) ⟨⟨?_, by omega, fun g hg => ?_⟩, ?_, fun g hg => ?_, fun g g' hg hg' he => ?_⟩
      · rw [eM _ 0 (by decide) (by decide) (by decide) (by decide) (by decide)]
        unfold gnI gwI
        rw [mUp_k hj, mUp_ne (by omega), mUp_ne (by omega), mUp_ne (by omega), mUp_ne (by omega), mUp_ne (by omega), mUp_ne (by omega), mUp_ne (by omega), mUp_ne (by omega), mNI_ne (by omega), mNI_ne (by omega)]
      · unfold mGnM
        rw [mUp_k hj, mUp_c (by decide), mUp_c (by decide), mUp_c (by decide), mUp_c (by decide), mUp_c (by decide), mUp_c (by decide), mUp_c (by decide), mUp_c (by decide), eC 35 (by omega) (by omega) (by decide)]
      · rw [eM _ 0 (by decide) (by decide) (by decide) (by decide) (by decide)]
        unfold gnI
        rw [mUp_s]
      · by_cases eg : g = ng
        · subst eg
          rw [p24n]
          have q1 : gnP P nx g nx 0 = some (nx + 1) := by unfold gnP; rw [mUp_c (by omega), mUp_s]
          refine ⟨by unfold gnP; rw [mUp_s], ?_, by rw [pg, q1]; rfl, ?_⟩
          · unfold gnS; rw [mUs_ne (by omega)]; simp [mUs]
          · rw [pg, q1]; simp [gnS, mUs]
        · obtain ⟨d1, d2, d3, d4⟩ := h5.1.2.2 g (by omega)
          have l1 := lg g (by omega)
          have l2 := n24 g (by omega)
          have e1 : gnP P nx ng (pg P 24 g) = P (pg P 24 g) := gnP_ne (by omega) l2.1
          rw [p24 g (by omega), pg_cg e1 0]
          refine ⟨?_, hsh _ _ d2, by rw [e1]; exact d3, hsh _ _ d4⟩
          unfold gnP
          rw [mUp_k eg, mUp_c (by omega), mNP_ne (show 24 ≠ nx by omega)]
          exact d1
      · unfold mGnM; rw [mUp_s]
      · by_cases eg : g = ng
        · subst eg
          have q1 : gnP P nx g nx 0 = some (nx + 1) := by unfold gnP; rw [mUp_c (by omega), mUp_s]
          have q2 : pg (gnP P nx g) nx 0 = nx + 1 := by rw [pg, q1]; rfl
          unfold GoOk
          rw [p24n, q2, eM _ nx (by omega) (by omega) (by omega) (by omega) (by omega), eM _ (nx + 1) (by omega) (by omega) (by omega) (by omega) (by omega)]
          have nn : nx ≠ 0 := by omega
          have n2 : nx + 1 ≠ 0 := by omega
          have n3 : nx ≠ nx + 1 := by omega
          have n4 : nx + 1 ≠ nx := by omega
          refine ⟨by simp [mGnM, gnI, gwI, mUp, nn], by simp [mGnM, gnI, gwI, mUp, nn], by simp [mGnM, gnI, gwI, mUp, nn], fun j hj => ?_, ?_, ?_, by omega⟩
          · rcases (show j = 0 ∨ j = 1 ∨ j = 2 ∨ j = 3 ∨ j = 4 by omega) with rfl | rfl | rfl | rfl | rfl <;> simp [mGnM, gnI, gwI, mUp, nn]
          · obtain ⟨v, hv, ev⟩ := inB_nI hx2.1.2 (by decide)
            exact ⟨v, hv, by simp [mGnM, mUp]; exact ev⟩
          · obtain ⟨v, hv, ev⟩ := inB_nI hx2.2 (by decide)
            exact ⟨v, hv, by simp [mGnM, mUp]; exact ev⟩
        · have hg' : g < ng := by omega
          have l1 := lg g hg'
          have l2 := n24 g hg'
          obtain ⟨b1, b2, b3, b4, b5, b6, b7⟩ := h5.2.2.1 g hg'
          have e1 : gnP P nx ng (pg P 24 g) = P (pg P 24 g) := gnP_ne (by omega) l2.1
          have o76 : ∀ c', c' < 76 → ((csF c').isSome || (msF c').isSome) = true → pg P 24 g ≠ c' := fun c' u v => R1.nc h.1 (h5.1.2.2 g hg').2.1 (by simp) u v
          unfold GoOk
          rw [p24 g hg', pg_cg e1 0, eM _ (pg P 24 g) (o76 57 (by decide) rfl) (o76 58 (by decide) rfl) (o76 59 (by decide) rfl) (o76 60 (by decide) rfl) (o76 35 (by decide) rfl), eC (pg P 24 g) (by omega) (by omega) l2.2, eM _ (pg P (pg P 24 g) 0) (by omega) (by omega) (by omega) (by omega) (by omega), eC (pg P (pg P 24 g) 0) (by omega) (by omega) (by omega)]
          have m57 : ∀ j, j < 5 → mGnM (gnI I nx ng a b d e f s k) ng a b d e f s k 57 (5 * g + j) = I 57 (5 * g + j) := fun j hj => by
            unfold mGnM
            rw [mUp_c (by decide), mUp_c (by decide), mUp_c (by decide), mUp_c (by decide), mUp_k (by omega), mUp_k (by omega), mUp_k (by omega), mUp_k (by omega), mUp_k (by omega), eC 57 (by omega) (by omega) (by decide)]
          have m58 : mGnM (gnI I nx ng a b d e f s k) ng a b d e f s k 58 g = I 58 g := by
            simp [mGnM, mUp, eg]
            rw [eC 58 (by omega) (by omega) (by decide)]
          have m59 : mGnM (gnI I nx ng a b d e f s k) ng a b d e f s k 59 g = I 59 g := by
            simp [mGnM, mUp, eg]
            rw [eC 59 (by omega) (by omega) (by decide)]
          have m60 : mGnM (gnI I nx ng a b d e f s k) ng a b d e f s k 60 g = I 60 g := by
            simp [mGnM, mUp, eg]
            rw [eC 60 (by omega) (by omega) (by decide)]
          rw [m58, m59, m60]
          exact ⟨b1, b2, b3, fun j hj => by rw [m57 j hj]; exact b4 j hj, b5, b6, b7⟩
      · by_cases e1 : g = ng
        · by_cases e2 : g' = ng
          · omega
          · exfalso
            rw [e1, p24n, p24 g' (by omega)] at he
            have := (lg g' (by omega)).1
            omega
        · by_cases e2 : g' = ng
          · exfalso
            rw [e2, p24n, p24 g (by omega)] at he
            have := (lg g (by omega)).1
            omega
          · rw [p24 g (by omega), p24 g' (by omega)] at he
            exact h5.2.2.2 g g' (by omega) (by omega) he
    · have e40 : ng = 40 := by omega
      subst e40
      exact OpAt.det (e_X10_gownF h.1.1 h5.1 hx) h.s35 (e_X12_gownF h.1.2.1 h5.2.1 hx) rfl h.same
theorem o_seal {g day : Int32} (hS : St stp nx sh I P) : OpAt X B mdX10_seal mdX12_seal 0 0 [.int g, .int day] stp nx sh I P := by
  obtain ⟨m, na, ng, nk, nr, nw, nf, nl, dr, rl, h⟩ := hS
  have h5 := h.2.2.2.2.1
  have h40 := h5.1.2.1
  cases hx : (inB g ng && inB day 10000) with
  | false => exact OpAt.det (e_X10_sealN h.1.1 h5.1 hx) h.s35 (e_X12_sealN h.1.2.1 h5.2.1 h40 hx) rfl h.same
  | true =>
    rw [Bool.and_eq_true] at hx
    obtain ⟨j, hj, rfl⟩ := inB_nI hx.1 (by omega)
    obtain ⟨b1, b2, b3, b4, b5, b6, b7⟩ := h5.2.2.1 j hj
    have so := (h5.1.2.2 j hj).2.1
    have o76 : ∀ c', c' < 76 → ((csF c').isSome || (msF c').isSome) = true → pg P 24 j ≠ c' := fun c' u v => R1.nc h.1 so (by simp) u v
    by_cases hs : I (pg P 24 j) 3 = -1
    · refine OpAt.det (e_X10_seal h.1.1 h5.1 hj hx.2 hs) h.s35 (e_X12_seal h.1.2.1 (by rw [mUp_ne (o76 35 (by decide) rfl).symm]; exact h5.2.1) h40 hj hx.2 (by rw [mUp_ne (o76 60 (by decide) rfl).symm, b3]; exact hs)) rfl ⟨m, na, ng, nk, nr, nw, nf, nl, dr, rl, ?_⟩
      refine h.seal so (fun c a1 a2 a3 a4 => (mUp_ne a1).trans (mUp_ne a2)) (fun k _ => (mUp_c (by decide)).trans (mUp_c (o76 0 (by decide) rfl).symm)) (fun k _ => (mUp_c (by decide)).trans (mUp_c (o76 35 (by decide) rfl).symm)) (fun _ _ _ => rfl) ⟨⟨?_, h5.1.2.1, h5.1.2.2⟩, ?_, fun g hg => ?_, h5.2.2.2⟩
      · rw [mUp_c (by decide), mUp_c (o76 0 (by decide) rfl).symm]; exact h5.1.1
      · rw [mUp_c (by decide), mUp_c (o76 35 (by decide) rfl).symm]; exact h5.2.1
      · obtain ⟨c1, c2, c3, c4, c5, c6, c7⟩ := h5.2.2.1 g hg
        have sg := (h5.1.2.2 g hg).2.1
        have sq := (h5.1.2.2 g hg).2.2.2
        have nq : pg P (pg P 24 g) 0 ≠ pg P 24 j := sh_ne sq so shn_io
        have n60 : pg P 24 g ≠ 60 := R1.nc h.1 sg (by simp) (by decide) rfl
        unfold GoOk
        rw [mUp_ne (show 58 ≠ 60 by decide), mUp_ne (show 59 ≠ 60 by decide), mUp_ne (show 57 ≠ 60 by decide), mUp_ne (o76 58 (by decide) rfl).symm, mUp_ne (o76 59 (by decide) rfl).symm, mUp_ne (o76 57 (by decide) rfl).symm, mUp_ne n60, mUp_ne (show pg P (pg P 24 g) 0 ≠ 60 by omega), mUp_ne nq]
        refine ⟨?_, ?_, ?_, c4, c5, c6, c7⟩
        · rw [mUp_k (by decide)]; exact c1
        · rw [mUp_k (by decide)]; exact c2
        · by_cases e : g = j
          · subst e; rw [mUp_s, mUp_s]
          · rw [mUp_k e, mUp_ne (o76 60 (by decide) rfl).symm, mUp_ne (fun e2 => e (h5.2.2.2 g j hg hj e2))]; exact c3
    · exact OpAt.det (e_X10_sealS h.1.1 h5.1 hj hx.2 hs) h.s35 (e_X12_sealS h.1.2.1 h5.2.1 h40 hj hx.2 (by rw [b3]; exact hs)) rfl h.same
end O4
