/-! ===== judge ===== -/
theorem falsM_ne {J : mI} {o b c : Nat} (h1 : c ≠ o) (h2 : c ≠ 27) (h3 : c ≠ 0) : falsM J o b c = J c := by
  unfold falsM
  rw [mUp_ne h3, mUp_ne h2, mUp_ne h1]
theorem convM_ne {J : mI} {o p b c : Nat} {f s : Int32} (h1 : c ≠ o) (h2 : c ≠ 26) (h3 : c ≠ 27) (h4 : c ≠ 28) (h5 : c ≠ 0) : convM J o p b f s c = J c := by
  unfold convM
  rw [mUp_ne h5, mUp_ne h4, mUp_ne h3, mUp_ne h2, mUp_ne h1, mUp_ne h1, mUp_ne h1]
theorem mFaM_ne {K : mI} {k b c : Nat} (h1 : c ≠ 65) (h2 : c ≠ 35) (h3 : c ≠ 72) : mFaM K k b c = K c := by
  unfold mFaM
  rw [mUp_ne h3, mUp_ne h2, mUp_ne h1]
theorem mCoM_ne {K : mI} {k p b c : Nat} {f s : Int32} (h1 : c ≠ 64) (h2 : c ≠ 65) (h3 : c ≠ 66) (h4 : c ≠ 35) (h5 : c ≠ 72) (h6 : c ≠ 73) (h7 : c ≠ 74) : mCoM K k p b f s c = K c := by
  unfold mCoM
  rw [mUp_ne h5, mUp_ne h1, mUp_ne h4, mUp_ne h3, mUp_ne h2, mUp_ne h7, mUp_ne h6]
theorem qWas_cm {I I1 : mI} {k : Nat} (e : ∀ c, 36 ≤ c → c ≤ 75 → I1 c = I c) : qWas I1 k = qWas I k := by
  funext o
  unfold qWas
  rw [e 69 (by decide) (by decide), e 70 (by decide) (by decide), e 71 (by decide) (by decide), e 72 (by decide) (by decide)]
section O6
variable {X : mX} {B nx stp : Nat} {sh : Nat → Option mSh} {I : mI} {P : mP}
theorem o_judge {k : Int32} (hs : stp ≤ 512) (hS : St stp nx sh I P) : OpAt X B mdX10_judge mdX12_judge 0 0 [.int k] stp nx sh I P := by
  obtain ⟨m, na, ng, nk, nr, nw, nf, nl, dr, rl, h⟩ := hS
  have hJ := h.mj
  have hK := h.jw
  have h6 := h.2.2.2.2.2.1
  have h11 := h.2.2.2.2.2.2.2.2.2.2.1
  have h60 := h6.1.2.1
  cases hx : inB k nk with
  | false => exact OpAt.det (e_X10_judgeN h.1.1 h6.1 hx) h.s35 (x_judgeN hJ h6.2.1 h60 hx) rfl h.same
  | true =>
    obtain ⟨j, hj, rfl⟩ := inB_nI hx (by omega)
    obtain ⟨a1, ⟨b, p, g, b1, b2, b3, b4, b5, b6⟩, a3⟩ := h6.2.2.1 j hj
    have so := (h6.1.2.2 j hj).2
    have o76 : ∀ c', c' < 76 → ((csF c').isSome || (msF c').isSome) = true → pg P 25 j ≠ c' := fun c' u v => R1.nc h.1 so (by simp) u v
    have om : ∀ c, 36 ≤ c → c ≤ 75 → c ≠ pg P 25 j := fun c u v e => o76 c (by omega) (by
      have : ∀ c : Fin 76, 36 ≤ c.val → ((csF c).isSome || (msF c).isSome) = true := by decide +kernel
      exact this ⟨c, by omega⟩ u) e.symm
    have c4 : I 72 j = I (pg P 25 j) 4 := a1 4 (by omega)
    have c5 : I 73 j = I (pg P 25 j) 5 := a1 5 (by omega)
    have c6 : I 74 j = I (pg P 25 j) 6 := a1 6 (by omega)
    have c0 : I 68 j = I (pg P 25 j) 0 := a1 0 (by omega)
    have c1 : I 69 j = I (pg P 25 j) 1 := a1 1 (by omega)
    have c2 : I 70 j = I (pg P 25 j) 2 := a1 2 (by omega)
    have c3 : I 71 j = I (pg P 25 j) 3 := a1 3 (by omega)
    have n0 := o76 0 (by decide) rfl
    have n26 := o76 26 (by decide) rfl
    have n27 := o76 27 (by decide) rfl
    have n28 := o76 28 (by decide) rfl
    have n30 := o76 30 (by decide) rfl
    have n35 := o76 35 (by decide) rfl
    by_cases hst : I (pg P 25 j) 4 = 0
    · cases hw : wasF I P nk (pg P 25 j) with
      | true =>
        have e1 : ∀ c, 36 ≤ c → c ≤ 75 → mUp I (pg P 25 j) 4 3 c = I c := fun c u v => mUp_ne (om c u v)
        have e35 : mUp I (pg P 25 j) 4 3 35 = I 35 := mUp_ne n35.symm
        refine OpAt.det (e_X10_judgeD h.1.1 h6.1 hj hst hw) h.s35 (x_judgeD (hJ.cm h.1.2.1 e1 e35) (by rw [e35]; exact h6.2.1) h60 hj ⟨b, p, g, by rw [e1 68 (by omega) (by omega)]; exact b1, by rw [e1 69 (by omega) (by omega)]; exact b2, by rw [e1 70 (by omega) (by omega)]; exact b3, b4, b5, b6⟩ (by rw [e1 72 (by omega) (by omega), c4]; exact hst) (by rw [qWas_cm e1, ← h.was hj]; exact hw)) rfl ⟨m, na, ng, nk, nr, nw, nf, nl, dr, rl, ?_⟩
        refine h.jud (I2 := mUp (mUp I (pg P 25 j) 4 3) 72 j 3) (P1 := P) (v4 := 3) (v5 := I (pg P 25 j) 5) (v6 := I (pg P 25 j) 6) hj (fun c _ _ _ _ _ _ _ q72 _ _ qo _ _ => (mUp_ne q72).trans (mUp_ne qo)) (fun i _ => (mUp_c (by decide)).trans (mUp_c n0.symm)) (fun i _ => (mUp_c (by decide)).trans (mUp_c n35.symm)) (fun _ _ _ => rfl) (fun i hi => ?_) ?_ ?_ ?_ (fun i => ?_) (fun i => ?_) (fun i => ?_) ((R11.cg h11 ?_ ?_ ?_ ?_ ?_ ?_ ?_ ?_).up (Nat.le_succ _))
        · rw [mUp_c (o76 72 (by decide) rfl), mUp_k (by omega)]
        · rw [mUp_c (o76 72 (by decide) rfl), mUp_s]
        · rw [mUp_c (o76 72 (by decide) rfl), mUp_k (by omega)]
        · rw [mUp_c (o76 72 (by decide) rfl), mUp_k (by omega)]
        · by_cases e : i = j
          · rw [if_pos e, e, mUp_s]
          · rw [if_neg e, mUp_k e, mUp_c (om 72 (by omega) (by omega))]
        · rw [mUp_c (by decide), mUp_c (om 73 (by omega) (by omega))]
          by_cases e : i = j
          · rw [if_pos e, e, c5]
          · rw [if_neg e]
        · rw [mUp_c (by decide), mUp_c (om 74 (by omega) (by omega))]
          by_cases e : i = j
          · rw [if_pos e, e, c6]
          · rw [if_neg e]
        · rw [mUp_ne (by decide), mUp_ne (om 64 (by omega) (by omega))]
        · rw [mUp_ne (by decide), mUp_ne (om 65 (by omega) (by omega))]
        · rw [mUp_ne (by decide), mUp_ne (om 66 (by omega) (by omega))]
        · rw [mUp_ne (by decide), mUp_ne n26.symm]
        · rw [mUp_ne (by decide), mUp_ne n27.symm]
        · rw [mUp_ne (by decide), mUp_ne n28.symm]
        · rw [mUp_c (by decide), mUp_c n0.symm]
        · rw [mUp_c (by decide), mUp_c n35.symm]
      | false =>
        have hF := h.fi (day := I 71 j) b6 b5
        obtain ⟨v, hv, ev⟩ := h.fi_nat hs (g := g) (day := I 71 j) b5
        have hwn : Wn I (putM I P nr nw nf nl g (nI p) (I 71 j)) P (wP P g) nl g (cRank I nr (nI p) (I 71 j)) (cOcc I nw nf (nI p) (I 71 j)) (I 71 j) := Wn_put
        have hpt := h.fj (d := I 71 j) hwn.1 hwn.2.1
        have hcl := e_X10_judge (X := X) (B := B) (nx := nx) hK h6.1 hj hst hw (c1.symm.trans b2) (c2.symm.trans b3) c3.symm (c0.symm.trans b1) b5 b6 a3 b4
        have hPJ : ∀ c i, ¬ (c = 30 ∧ i = 2) → wP P g c i = P c i := fun c i hc => by
          unfold wP mUp
          rw [if_neg hc]
        have hMW : MW sh (wP P g) := ⟨h.1.2.1.1, fun i b hi => by rw [hPJ 35 i (by omega)]; exact h.1.2.1.2 i b hi⟩
        have eJ := hwn.1
        rw [hF, hpt] at hcl
        generalize putM I P nr nw nf nl g (nI p) (I 71 j) = J at hcl eJ
        refine ⟨_, hcl, ?_⟩
        rintro v' nx1 sh1 I1 P1 ⟨hn, hsh, hP1, hif⟩
        have hn := hn.symm
        have hsh := hsh.symm
        subst hn
        subst hsh
        subst hP1
        by_cases hz : pFi I na nl nf p g (I 71 j) = 0
        · rw [if_neg (by rw [hz]; decide)] at hif
          obtain ⟨rfl, rfl⟩ := hif
          have e1 : ∀ c, 36 ≤ c → c ≤ 75 → falsM J (pg P 25 j) b c = I c := fun c u v => (falsM_ne (om c u v) (by omega) (by omega)).trans (eJ c (by omega))
          have e35 : falsM J (pg P 25 j) b 35 = I 35 := (falsM_ne n35.symm (by decide) (by decide)).trans (eJ 35 (by decide))
          have hm := x_judgeF (X := X) (B := B) (nx := nx) (hJ.cm hMW e1 e35) (by rw [e35]; exact h6.2.1) h60 hj (by rw [e1 68 (by omega) (by omega)]; exact b1) (by rw [e1 69 (by omega) (by omega)]; exact b2) (by rw [e1 70 (by omega) (by omega)]; exact b3) b4 b5 b6 (by rw [e1 72 (by omega) (by omega), c4]; exact hst) (by rw [qWas_cm e1, ← h.was hj]; exact hw) (by rw [pFi_cm e1, e1 71 (by omega) (by omega)]; exact hz)
          refine ⟨2, _, rfl, h.s35, hm, ?_⟩
          rintro _ _ _ _ _ ⟨rfl, rfl, rfl, rfl, rfl⟩
          refine ⟨rfl, m, na, ng, nk, nr, nw, nf, nl, dr, rl, ?_⟩
          have f26 : mFaM (falsM J (pg P 25 j) b) j b 26 = I 26 := (mFaM_ne (by decide) (by decide) (by decide)).trans ((falsM_ne n26.symm (by decide) (by decide)).trans (eJ 26 (by decide)))
          have f28 : mFaM (falsM J (pg P 25 j) b) j b 28 = I 28 := (mFaM_ne (by decide) (by decide) (by decide)).trans ((falsM_ne n28.symm (by decide) (by decide)).trans (eJ 28 (by decide)))
          have fo : mFaM (falsM J (pg P 25 j) b) j b (pg P 25 j) = falsM J (pg P 25 j) b (pg P 25 j) := mFaM_ne (fun e => om 65 (by omega) (by omega) e.symm) n35 (fun e => om 72 (by omega) (by omega) e.symm)
          have fo2 : ∀ i, i ≠ 4 → falsM J (pg P 25 j) b (pg P 25 j) i = I (pg P 25 j) i := fun i hi => by
            unfold falsM
            rw [mUp_c n0, mUp_c n27, mUp_k hi, eJ _ n30]
          refine h.jud (I2 := mFaM (falsM J (pg P 25 j) b) j b) (v4 := 2) (v5 := I (pg P 25 j) 5) (v6 := I (pg P 25 j) 6) hj (fun c q26 q27 q28 q30 q64 q65 q66 q72 q73 q74 qo q0 q35 => (mFaM_ne q65 q35 q72).trans ((falsM_ne qo q27 q0).trans (eJ c q30))) (fun i hi => ?_) (fun i hi => ?_) hPJ (fun i hi => ?_) ?_ ?_ ?_ (fun i => ?_) (fun i => ?_) (fun i => ?_) ⟨?_, ?_, ?_, ?_, fun q hq => ?_⟩
          · rw [mFaM_ne (by decide) (by decide) (by decide)]
            unfold falsM
            rw [mUp_k hi, mUp_c (by decide), mUp_c n0.symm, eJ 0 (by decide)]
          · unfold mFaM
            rw [mUp_c (by decide), mUp_k hi, mUp_c (by decide), e35]
          · rw [fo, fo2 i (by omega)]
          · rw [fo]
            unfold falsM
            rw [mUp_c n0, mUp_c n27, mUp_s]
          · rw [fo, fo2 5 (by omega)]
          · rw [fo, fo2 6 (by omega)]
          · by_cases e : i = j
            · rw [if_pos e, e]; unfold mFaM; rw [mUp_s]
            · rw [if_neg e]; unfold mFaM; rw [mUp_k e, mUp_c (by decide), mUp_c (by decide), e1 72 (by omega) (by omega)]
          · rw [mFaM_ne (by decide) (by decide) (by decide), e1 73 (by omega) (by omega)]
            by_cases e : i = j
            · rw [if_pos e, e, c5]
            · rw [if_neg e]
          · rw [mFaM_ne (by decide) (by decide) (by decide), e1 74 (by omega) (by omega)]
            by_cases e : i = j
            · rw [if_pos e, e, c6]
            · rw [if_neg e]
          · rw [f26, mFaM_ne (by decide) (by decide) (by decide), e1 64 (by omega) (by omega)]; exact h11.1
          · funext i
            rw [mFaM_ne (c := 27) (by decide) (by decide) (by decide)]
            unfold mFaM
            rw [mUp_c (by decide), mUp_c (by decide), e1 65 (by omega) (by omega), h11.2.1]
            unfold falsM
            rw [mUp_c (show 27 ≠ 0 by decide)]
            by_cases e : i = b
            · rw [e, mUp_s, mUp_s, eJ 27 (by decide)]
            · rw [mUp_k e, mUp_k e, mUp_c (show 65 ≠ 0 by decide), mUp_c (show 65 ≠ 27 by decide), mUp_c (om 65 (by omega) (by omega)), mUp_c n27.symm, eJ 65 (by decide), eJ 27 (by decide), h11.2.1]
          · rw [f28, mFaM_ne (by decide) (by decide) (by decide), e1 66 (by omega) (by omega)]; exact h11.2.2.1
          · rw [mFaM_ne (c := 0) (by decide) (by decide) (by decide)]
            unfold mFaM
            rw [mUp_c (by decide), mUp_s, e35, h11.2.2.2.1]
            unfold falsM
            rw [mUp_s, eJ 0 (by decide)]
          · rw [f26]
            obtain ⟨c, hc, ec⟩ := h11.2.2.2.2 q hq
            exact ⟨c, by omega, ec⟩
        · have hpos : 0 < pFi I na nl nf p g (I 71 j) := by
            rw [ev] at hz ⊢
            rw [i_lt, nI_toInt hv]
            have : v ≠ 0 := fun e => hz (by rw [e]; rfl)
            have e0 : (0 : Int32).toInt = 0 := rfl
            omega
          rw [if_pos hpos] at hif
          obtain ⟨rfl, rfl⟩ := hif
          generalize hFF : pFi I na nl nf p g (I 71 j) = F at *
          generalize hSS : shareF F (pPt I na (I 71 j) na) = s at *
          have e1 : ∀ c, 36 ≤ c → c ≤ 75 → convM J (pg P 25 j) p b F s c = I c := fun c u v => (convM_ne (om c u v) (by omega) (by omega) (by omega) (by omega)).trans (eJ c (by omega))
          have e35 : convM J (pg P 25 j) p b F s 35 = I 35 := (convM_ne n35.symm (by decide) (by decide) (by decide) (by decide)).trans (eJ 35 (by decide))
          have e71 : convM J (pg P 25 j) p b F s 71 j = I 71 j := by rw [e1 71 (by omega) (by omega)]
          have hm := x_judgeC (X := X) (B := B) (nx := nx) (hJ.cm hMW e1 e35) (by rw [e35]; exact h6.2.1) h60 hj (by rw [e1 68 (by omega) (by omega)]; exact b1) (by rw [e1 69 (by omega) (by omega)]; exact b2) (by rw [e1 70 (by omega) (by omega)]; exact b3) b4 b5 b6 (by rw [e1 72 (by omega) (by omega), c4]; exact hst) (by rw [qWas_cm e1, ← h.was hj]; exact hw) (by rw [pFi_cm e1, e71, hFF]; exact hz)
          rw [pFi_cm e1, pPt_cm e1, e71, hFF, hSS] at hm
          refine ⟨1, _, rfl, h.s35, hm, ?_⟩
          rintro _ _ _ _ _ ⟨rfl, rfl, rfl, rfl, rfl⟩
          refine ⟨rfl, m, na, ng, nk, nr, nw, nf, nl, dr, rl, ?_⟩
          have fo : mCoM (convM J (pg P 25 j) p b F s) j p b F s (pg P 25 j) = convM J (pg P 25 j) p b F s (pg P 25 j) := mCoM_ne (fun e => om 64 (by omega) (by omega) e.symm) (fun e => om 65 (by omega) (by omega) e.symm) (fun e => om 66 (by omega) (by omega) e.symm) n35 (fun e => om 72 (by omega) (by omega) e.symm) (fun e => om 73 (by omega) (by omega) e.symm) (fun e => om 74 (by omega) (by omega) e.symm)
          have fo2 : ∀ i, convM J (pg P 25 j) p b F s (pg P 25 j) i = mUp (mUp (mUp J (pg P 25 j) 4 1) (pg P 25 j) 5 F) (pg P 25 j) 6 s (pg P 25 j) i := fun i => by
            unfold convM
            rw [mUp_c n0, mUp_c n28, mUp_c n27, mUp_c n26]
          have fc : ∀ c, c ≠ 35 → c < 36 → mCoM (convM J (pg P 25 j) p b F s) j p b F s c = convM J (pg P 25 j) p b F s c := fun c u v => mCoM_ne (by omega) (by omega) (by omega) u (by omega) (by omega) (by omega)
          refine h.jud (I2 := mCoM (convM J (pg P 25 j) p b F s) j p b F s) (v4 := 1) (v5 := F) (v6 := s) hj (fun c q26 q27 q28 q30 q64 q65 q66 q72 q73 q74 qo q0 q35 => (mCoM_ne q64 q65 q66 q35 q72 q73 q74).trans ((convM_ne qo q26 q27 q28 q0).trans (eJ c q30))) (fun i hi => ?_) (fun i hi => ?_) hPJ (fun i hi => ?_) ?_ ?_ ?_ (fun i => ?_) (fun i => ?_) (fun i => ?_) ⟨?_, ?_, ?_, ?_, fun q hq => ?_⟩
          · rw [fc 0 (by decide) (by decide)]
            unfold convM
            rw [mUp_k hi, mUp_c (by decide), mUp_c (by decide), mUp_c (by decide), mUp_c n0.symm, mUp_c n0.symm, mUp_c n0.symm, eJ 0 (by decide)]
          · unfold mCoM
            rw [mUp_c (by decide), mUp_c (by decide), mUp_k hi, mUp_c (by decide), mUp_c (by decide), mUp_c (by decide), mUp_c (by decide), e35]
          · rw [fo, fo2, mUp_k (by omega), mUp_k (by omega), mUp_k (by omega), eJ _ n30]
          · rw [fo, fo2, mUp_k (by decide), mUp_k (by decide), mUp_s]
          · rw [fo, fo2, mUp_k (by decide), mUp_s]
          · rw [fo, fo2, mUp_s]
          · by_cases e : i = j
            · rw [if_pos e, e]; unfold mCoM; rw [mUp_s]
            · rw [if_neg e]; unfold mCoM; rw [mUp_k e, mUp_c (by decide), mUp_c (by decide), mUp_c (by decide), mUp_c (by decide), mUp_c (by decide), mUp_c (by decide), e1 72 (by omega) (by omega)]
          · by_cases e : i = j
            · rw [if_pos e, e]; unfold mCoM; rw [mUp_c (by decide), mUp_c (by decide), mUp_c (by decide), mUp_c (by decide), mUp_c (by decide), mUp_c (by decide), mUp_s]
            · rw [if_neg e]; unfold mCoM; rw [mUp_c (by decide), mUp_c (by decide), mUp_c (by decide), mUp_c (by decide), mUp_c (by decide), mUp_c (by decide), mUp_k e, e1 73 (by omega) (by omega)]
          · by_cases e : i = j
            · rw [if_pos e, e]; unfold mCoM; rw [mUp_c (by decide), mUp_c (by decide), mUp_c (by decide), mUp_c (by decide), mUp_c (by decide), mUp_s]
            · rw [if_neg e]; unfold mCoM; rw [mUp_c (by decide), mUp_c (by decide), mUp_c (by decide), mUp_c (by decide), mUp_c (by decide), mUp_k e, mUp_c (by decide), e1 74 (by omega) (by omega)]
          · funext i
            rw [fc 26 (by decide) (by decide)]
            have L : mCoM (convM J (pg P 25 j) p b F s) j p b F s 64 i = if i = p then I 64 p + 1 else I 64 i := by
              unfold mCoM
              rw [e1 64 (by omega) (by omega), mUp_c (by decide)]
              by_cases e : i = p
              · rw [if_pos e, e, mUp_s]
              · rw [if_neg e, mUp_k e, mUp_c (by decide), mUp_c (by decide), mUp_c (by decide), mUp_c (by decide), mUp_c (by decide), e1 64 (by omega) (by omega)]
            have R : convM J (pg P 25 j) p b F s 26 i = if i = p then I 26 p + 1 else I 26 i := by
              unfold convM
              rw [mUp_c (by decide), mUp_c (by decide), mUp_c (by decide), eJ 26 (by decide)]
              by_cases e : i = p
              · rw [if_pos e, e, mUp_s]
              · rw [if_neg e, mUp_k e, mUp_c n26.symm, mUp_c n26.symm, mUp_c n26.symm, eJ 26 (by decide)]
            rw [L, R, h11.1]
          · funext i
            rw [fc 27 (by decide) (by decide)]
            have L : mCoM (convM J (pg P 25 j) p b F s) j p b F s 65 i = if i = p then I 65 p + F else I 65 i := by
              unfold mCoM
              rw [e1 65 (by omega) (by omega), mUp_c (by decide), mUp_c (by decide), mUp_c (by decide), mUp_c (by decide)]
              by_cases e : i = p
              · rw [if_pos e, e, mUp_s]
              · rw [if_neg e, mUp_k e, mUp_c (by decide), mUp_c (by decide), e1 65 (by omega) (by omega)]
            have R : convM J (pg P 25 j) p b F s 27 i = if i = p then I 27 p + F else I 27 i := by
              unfold convM
              rw [mUp_c (by decide), mUp_c (by decide), eJ 27 (by decide)]
              by_cases e : i = p
              · rw [if_pos e, e, mUp_s]
              · rw [if_neg e, mUp_k e, mUp_c (by decide), mUp_c n27.symm, mUp_c n27.symm, mUp_c n27.symm, eJ 27 (by decide)]
            rw [L, R, h11.2.1]
          · funext i
            rw [fc 28 (by decide) (by decide)]
            have L : mCoM (convM J (pg P 25 j) p b F s) j p b F s 66 i = if i = b then I 66 b + s else I 66 i := by
              unfold mCoM
              rw [e1 66 (by omega) (by omega), mUp_c (by decide), mUp_c (by decide), mUp_c (by decide)]
              by_cases e : i = b
              · rw [if_pos e, e, mUp_s]
              · rw [if_neg e, mUp_k e, mUp_c (by decide), mUp_c (by decide), mUp_c (by decide), e1 66 (by omega) (by omega)]
            have R : convM J (pg P 25 j) p b F s 28 i = if i = b then I 28 b + s else I 28 i := by
              unfold convM
              rw [mUp_c (by decide), eJ 28 (by decide)]
              by_cases e : i = b
              · rw [if_pos e, e, mUp_s]
              · rw [if_neg e, mUp_k e, mUp_c (by decide), mUp_c (by decide), mUp_c n28.symm, mUp_c n28.symm, mUp_c n28.symm, eJ 28 (by decide)]
            rw [L, R, h11.2.2.1]
          · rw [fc 0 (by decide) (by decide)]
            have R : convM J (pg P 25 j) p b F s 0 13 = I 0 13 + (F - s) := by
              unfold convM
              rw [mUp_s, eJ 0 (by decide)]
            rw [R]
            unfold mCoM
            rw [mUp_c (by decide), mUp_c (by decide), mUp_s, e35, h11.2.2.2.1]
          · rw [fc 26 (by decide) (by decide)]
            have R : convM J (pg P 25 j) p b F s 26 q = if q = p then I 26 p + 1 else I 26 q := by
              unfold convM
              rw [mUp_c (by decide), mUp_c (by decide), mUp_c (by decide), eJ 26 (by decide)]
              by_cases e : q = p
              · rw [if_pos e, e, mUp_s]
              · rw [if_neg e, mUp_k e, mUp_c n26.symm, mUp_c n26.symm, mUp_c n26.symm, eJ 26 (by decide)]
            rw [R]
            obtain ⟨c, hc, ec⟩ := h11.2.2.2.2 q hq
            by_cases e : q = p
            · rw [if_pos e, ← e, ec, nI_inc']
              exact ⟨c + 1, by omega, rfl⟩
            · rw [if_neg e]
              exact ⟨c, by omega, ec⟩
    · exact OpAt.det (e_X10_judgeS h.1.1 h6.1 hj hst) h.s35 (x_judgeS hJ h6.2.1 h60 hj (by rw [c4]; exact hst)) rfl h.same
end O6
