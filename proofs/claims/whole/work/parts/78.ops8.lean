/-! ===== act on both ===== -/
def OpAtW (X : mX) (B : Nat) (dC dM : mMd) (hh : List (Nat × Nat × Nat × Nat)) (mc ms : Nat) (As : List Value) (stp nx : Nat) (sh : Nat → Option mSh) (I : mI) (P : mP) : Prop := ∃ PoC : mPo, Ev X B dC mc ms (.ref (B + 0) :: As) nx sh I P PoC ∧ ∀ v nx1 sh1 I1 P1, PoC v nx1 sh1 I1 P1 → ∃ (r : Int32) (PoM : mPo), v = some (.int r) ∧ sh1 35 = some (.inl 12) ∧ EvW X B dM hh 0 0 (.ref (B + 35) :: As) nx1 sh1 I1 P1 PoM ∧ ∀ v2 nx2 sh2 I2 P2, PoM v2 nx2 sh2 I2 P2 → v2 = some (.int r) ∧ St (stp + 1) nx2 sh2 I2 P2
section O8
variable {X : mX} {B nx nx' stp : Nat} {sh sh' : Nat → Option mSh} {I I' J K : mI} {P P' Q : mP} {m na ng nk nr nw nf nl dr rl n1 : Nat} {day : Int32}
theorem acI_ne {c : Nat} (h1 : c ≠ 2) (h2 : c ≠ n1) (h3 : c ≠ dr) (h4 : c ≠ 6) : acI J n1 dr na day c = J c := by
  unfold acI tdI inI
  rw [mUp_ne h4, mUp_ne h3, mUp_ne h2, mUp_ne h2, mUp_ne h2, mUp_ne h2, mUp_ne h2, mNI_ne h2, mUp_ne h1]
theorem acP_ne {c : Nat} (h1 : c ≠ 7) (h2 : c ≠ 1) (h3 : c ≠ n1) (h4 : c ≠ n1 + 1) : acP Q n1 dr na c = Q c := by
  unfold acP tdP inP
  rw [mUp_ne h1, mUp_ne h2, mUp_ne h3, mNP_ne h4, mNP_ne h3]
theorem RR.actO {sj : Nat → Option mSh} {q' : aS} (h : RR stp nx sh I P m na ng nk nr nw nf nl dr rl) (f1 : nx ≤ n1) (f2 : ∀ c z, sh c = some z → sj c = some z) (f3 : ∀ c z, sj c = some z → c < n1) (jI : ∀ c, c < nx → c ≠ 1 → c ≠ dr → J c = I c) (jP : ∀ c, c < nx → c ≠ rl → Q c = P c) (hR : J 1 3 = 0 ∧ J 1 4 = -1 ∧ RdS sj J Q dr rl q') (hQI : QI q') (hK : maF na (acI J n1 dr na day) K) (r1 : RdM K na q') (r3 : K 35 20 = 0) (r4 : K 35 21 = -1) (c12 : na < 12) : RR (stp + 1) (n1 + 2) (tdS sj n1) (mUp (mUp K 36 na day) 35 0 (nI (na + 1))) (acP Q n1 dr na) 0 (na + 1) ng nk nr nw nf nl n1 (n1 + 1) := by
  have h76 := h.1.2.2.1
  have hfr := h.1.2.2.2
  obtain ⟨t1, t2, t3, t4, t5⟩ := h.2.1
  obtain ⟨hC, hna, ⟨q1, q2, q3, q4⟩, hA⟩ := h.2.2.2.1
  have dn : dr < nx := hfr _ _ q2
  have rn : rl < nx := hfr _ _ q4
  have d76 : ∀ c', c' < 76 → ((csF c').isSome || (msF c').isSome) = true → c' ≠ dr := fun c' a b => (R1.nc h.1 q2 (by simp) a b).symm
  have all76 : ∀ c, 36 ≤ c → c ≤ 75 → ((csF c).isSome || (msF c).isSome) = true := fun c u v => by
    have : ∀ c : Fin 76, 36 ≤ c.val → ((csF c).isSome || (msF c).isSome) = true := by decide +kernel
    exact this ⟨c, by omega⟩ u
  have dm : ∀ c, 35 ≤ c → c ≤ 75 → c ≠ dr := fun c u v => by
    by_cases e : c = 35
    · rw [e]; exact d76 35 (by decide) rfl
    · exact d76 c (by omega) (all76 c (by omega) v)
  have rs : ∀ c z, csF c = some z → z ≠ .inr (5, 12) → c ≠ rl := fun c z hc hz => sh_ne (h.1.1.1 c z hc) q4 hz
  have n3rl := rs 1 _ rfl (by simp)
  have n7rl := rs 7 _ rfl (by simp)
  have eA : ∀ c, c ≠ 2 → c ≠ n1 → c ≠ dr → c ≠ 6 → acI J n1 dr na day c = J c := fun c a b d e => acI_ne a b d e
  have eQ : ∀ c, c ≠ 7 → c ≠ 1 → c ≠ n1 → c ≠ n1 + 1 → acP Q n1 dr na c = Q c := fun c a b d e => acP_ne a b d e
  have sT : ∀ c z, sj c = some z → tdS sj n1 c = some z := fun c z hc => by
    have := f3 c z hc
    unfold tdS
    rw [mUs_ne (by omega), mUs_ne (by omega)]; exact hc
  have kL : ∀ c, c ≠ 35 → (c < 36 ∨ 46 < c) → mUp (mUp K 36 na day) 35 0 (nI (na + 1)) c = acI J n1 dr na day c := fun c a b => by
    rw [mUp_ne a, mUp_ne (by omega)]
    funext k
    exact hK.2.2 c k a (by omega) (by omega)
  have kO : ∀ c, c ≠ 2 → c ≠ 6 → c ≠ dr → c ≠ n1 → c ≠ 35 → (c < 36 ∨ 46 < c) → mUp (mUp K 36 na day) 35 0 (nI (na + 1)) c = J c := fun c a1 a2 a3 a4 a5 a6 => (kL c a5 a6).trans (eA c a1 a4 a3 a2)
  have kM : ∀ c k, 36 ≤ c → c ≤ 46 → (c ≤ 40 → k ≠ na) → (41 ≤ c → k < 12 * na) → mUp (mUp K 36 na day) 35 0 (nI (na + 1)) c k = I c k := fun c k a1 a2 a3 a4 => by
    rw [mUp_c (by omega)]
    have e1 : mUp K 36 na day c k = K c k := by
      unfold mUp
      rw [if_neg (by omega)]
    rw [e1, hK.2.2 c k (by omega) (by omega) (by omega), eA c (by omega) (by omega) (dm c (by omega) (by omega)) (by omega), jI c (by omega) (by omega) (dm c (by omega) (by omega))]
  have kN : ∀ c k, 37 ≤ c → c ≤ 46 → mUp (mUp K 36 na day) 35 0 (nI (na + 1)) c k = K c k := fun c k a1 a2 => by
    rw [mUp_c (by omega), mUp_c (by omega)]
  have k35 : ∀ k, k ≠ 0 → mUp (mUp K 36 na day) 35 0 (nI (na + 1)) 35 k = K 35 k := fun k hk => by rw [mUp_k hk, mUp_c (by decide)]
  have kd : ∀ k, k ≠ 0 → mUp (mUp K 36 na day) 35 0 (nI (na + 1)) dr k = J dr k := fun k hk => by
    rw [kL dr (fun e => dm 35 (by omega) (by omega) e.symm) (Classical.byContradiction fun e => dm dr (by omega) (by omega) rfl)]
    unfold acI tdI inI
    rw [mUp_c (d76 6 (by decide) rfl).symm, mUp_k hk, mUp_c (by omega), mUp_c (by omega), mUp_c (by omega), mUp_c (by omega), mUp_c (by omega), mNI_ne (by omega), mUp_c (d76 2 (by decide) rfl).symm]
  have kd0 : mUp (mUp K 36 na day) 35 0 (nI (na + 1)) dr 0 = day := by
    rw [kL dr (fun e => dm 35 (by omega) (by omega) e.symm) (Classical.byContradiction fun e => dm dr (by omega) (by omega) rfl)]
    unfold acI
    rw [mUp_c (d76 6 (by decide) rfl).symm, mUp_s]
  obtain ⟨j3, j4, s1, s2, s3, s4, -⟩ := hR
  obtain ⟨g1, g2, g3, g4, g5, g6, g7⟩ := r1
  have hR1j : R1 n1 sj Q := R1.cg h.1 f1 f2 f3 (fun c k b hc => by
    have hc2 := cpF_c hc
    rw [jP c (by omega) (by
      intro e
      unfold cpF at hc
      split at hc <;> first | exact rs _ _ rfl (by simp) e | cases hc)]) (jP 35 (by omega) (sh_ne (h.1.2.1.1 35 _ rfl) q4 (by simp)))
  have P3 : ∀ k, k ≠ 1 → acP Q n1 dr na 1 k = Q 1 k := fun k hk => by
    unfold acP tdP inP
    rw [mUp_c (by decide), mUp_k hk, mUp_c (by omega), mNP_ne (by omega), mNP_ne (by omega)]
  have P7 : ∀ k, k ≠ na → acP Q n1 dr na 7 k = Q 7 k := fun k hk => by
    unfold acP tdP inP
    rw [mUp_k hk, mUp_c (by decide), mUp_c (by omega), mNP_ne (by omega), mNP_ne (by omega)]
  have P7n : acP Q n1 dr na 7 na = some dr := by unfold acP; rw [mUp_s]
  have P31 : acP Q n1 dr na 1 1 = some n1 := by unfold acP tdP; rw [mUp_c (by decide), mUp_s]
  have Pn1 : acP Q n1 dr na n1 1 = some (n1 + 1) := by unfold acP tdP inP; rw [mUp_c (by omega), mUp_c (by omega), mUp_s]
  have ndr7 : dr ≠ 7 := (d76 7 (by decide) rfl).symm
  have ndr3 : dr ≠ 1 := (d76 1 (by decide) rfl).symm
  have nrd : dr ≠ rl := sh_ne q2 q4 (by simp)
  have Pdr : acP Q n1 dr na dr = P dr := (eQ dr ndr7 ndr3 (by omega) (by omega)).trans (jP dr dn nrd)
  have Prl : acP Q n1 dr na rl = Q rl := eQ rl n7rl.symm n3rl.symm (by omega) (by omega)
  have pdr1 : pg (acP Q n1 dr na) dr 1 = rl := by rw [pg, Pdr, q3]; rfl
  have pgn : pg (acP Q n1 dr na) 7 na = dr := by rw [pg, P7n]; rfl
  have eMd : aM (mUp (mUp K 36 na day) 35 0 (nI (na + 1))) dr = q'.2.1 := by rw [aM, kd 2 (by decide), s2, nI_clamp (by omega)]
  have old : ∀ a, a < na → pg (acP Q n1 dr na) 7 a = pg P 7 a ∧ pg P 7 a < nx ∧ acP Q n1 dr na (pg P 7 a) = P (pg P 7 a) ∧ mUp (mUp K 36 na day) 35 0 (nI (na + 1)) (pg P 7 a) = I (pg P 7 a) ∧ acP Q n1 dr na (pg P (pg P 7 a) 1) = P (pg P (pg P 7 a) 1) ∧ pg P (pg P 7 a) 1 < nx := fun a ha => by
    obtain ⟨u1, u2, u3, u4, u5, u6, u7⟩ := hC.2.2.2.2.2 a ha
    obtain ⟨v1, v2, -⟩ := hA a ha
    have o76 : ∀ c', c' < 76 → ((csF c').isSome || (msF c').isSome) = true → pg P 7 a ≠ c' := fun c' x y => R1.nc h.1 u2 (by simp) x y
    have ol := hfr _ _ u2
    have rl' := hfr _ _ u4
    refine ⟨?_, ol, ?_, ?_, ?_, rl'⟩
    · rw [pg, pg, P7 a (by omega), jP 7 (by omega) n7rl]
    · exact (eQ _ (o76 7 (by decide) rfl) (o76 1 (by decide) rfl) (by omega) (by omega)).trans (jP _ ol (sh_ne u2 q4 (by simp)))
    · exact (kO _ (o76 2 (by decide) rfl) (o76 6 (by decide) rfl) v1 (by omega) (o76 35 (by decide) rfl) (Classical.byContradiction fun e => o76 _ (by omega) (all76 _ (by omega) (by omega)) rfl)).trans (jI _ ol (o76 1 (by decide) rfl) v1)
    · exact (eQ _ (sh_ne u4 (h.1.1.1 7 _ rfl) (by simp)) (sh_ne u4 (h.1.1.1 1 _ rfl) (by simp)) (by omega) (by omega)).trans (jP _ rl' v2)
  refine h.act (I' := mUp (mUp K 36 na day) 35 0 (nI (na + 1))) (fun c a1 a2 a3 a4 a5 a6 a7 => (kO c a1 a3 a4 (by omega) a6 a5).trans (jI c a7 a2 a4)) (fun k a1 a2 => ?_) (by omega) (fun c z hc => sT _ _ (f2 _ _ hc)) (mUs_lt (mUs_lt f3)) (fun c a1 a2 a3 a4 => (eQ c a3 a2 (by omega) (by omega)).trans (jP c a1 a4)) (fun k hk => (P3 k hk).trans (by rw [jP 1 (by omega) n3rl])) ⟨?_, by omega, ?_, ?_, ?_⟩ ⟨?_, ?_⟩ ⟨⟨?_, ?_, ?_, ?_, by omega, fun a ha => ?_⟩, mUp_s, ⟨P31, ?_, Pn1, ?_⟩, fun a ha => ?_⟩
  · rw [k35 k a1, hK.1 k (by omega), eA 35 (by decide) (by omega) (dm 35 (by omega) (by omega)) (by decide), jI 35 (by omega) (by decide) (dm 35 (by omega) (by omega))]
  · rw [kL 2 (by decide) (by omega)]
    unfold acI tdI inI
    rw [mUp_c (by decide), mUp_c (d76 2 (by decide) rfl), mUp_c (by omega), mUp_c (by omega), mUp_c (by omega), mUp_c (by omega), mUp_c (by omega), mNI_ne (by omega), mUp_s]
    rfl
  · rw [k35 14 (by decide), hK.2.1]; rfl
  · rw [kO 48 (by decide) (by decide) (dm 48 (by omega) (by omega)) (by omega) (by decide) (by omega), kO 3 (by decide) (by decide) (d76 3 (by decide) rfl) (by omega) (by decide) (by omega), jI 48 (by omega) (by decide) (dm 48 (by omega) (by omega)), jI 3 (by omega) (by decide) (d76 3 (by decide) rfl)]; exact t4
  · rw [kO 3 (by decide) (by decide) (d76 3 (by decide) rfl) (by omega) (by decide) (by omega), jI 3 (by omega) (by decide) (d76 3 (by decide) rfl)]; exact t5
  · rw [k35 20 (by decide), r3, kO 1 (by decide) (by decide) (d76 1 (by decide) rfl) (by omega) (by decide) (by omega), j3]
  · rw [k35 21 (by decide), r4, kO 1 (by decide) (by decide) (d76 1 (by decide) rfl) (by omega) (by decide) (by omega), j4]
  · exact sT _ _ (f2 _ _ hC.1)
  · rw [eQ 6 (by decide) (by decide) (by omega) (by omega), jP 6 (by omega) (rs 6 _ rfl (by simp))]; exact hC.2.1
  · exact sT _ _ (f2 _ _ hC.2.2.1)
  · rw [kL 6 (by decide) (by omega)]; unfold acI; rw [mUp_s]
  · by_cases ea : a = na
    · subst ea
      rw [pgn, pdr1, eMd]
      refine ⟨P7n, sT _ _ (f2 _ _ q2), by rw [Pdr]; exact q3, sT _ _ (f2 _ _ q4), by rw [kd 2 (by decide)]; exact s2, s3, fun r hr => ?_⟩
      rw [pg_cg Prl r, Prl]
      exact ⟨(s4 r hr).1, sT _ _ (s4 r hr).2.1⟩
    · have ha' : a < na := by omega
      obtain ⟨u1, u2, u3, u4, u5, u6, u7⟩ := hC.2.2.2.2.2 a ha'
      obtain ⟨o1, o2, o3, o4, o5, o6⟩ := old a ha'
      have e2 : aM (mUp (mUp K 36 na day) 35 0 (nI (na + 1))) (pg P 7 a) = aM I (pg P 7 a) := by rw [aM, aM, o4]
      rw [o1, pg_cg o3 1, e2]
      refine ⟨by rw [P7 a ea, jP 7 (by omega) n7rl]; exact u1, sT _ _ (f2 _ _ u2), by rw [o3]; exact u3, sT _ _ (f2 _ _ u4), by rw [o4]; exact u5, u6, fun r hr => ?_⟩
      rw [pg_cg o5 r, o5]
      exact ⟨(u7 r hr).1, sT _ _ (f2 _ _ (u7 r hr).2)⟩
  · unfold tdS; rw [mUs_ne (by omega)]; simp [mUs]
  · simp [tdS, mUs]
  · by_cases ea : a = na
    · subst ea
      rw [pgn, pdr1]
      refine ⟨by omega, by omega, ?_⟩
      unfold AcOk
      rw [pgn, pdr1, eMd, kd0, kd 2 (by decide), kd 3 (by decide), kd 4 (by decide), kd 5 (by decide), kN 37 a (by omega) (by omega), kN 38 a (by omega) (by omega), kN 39 a (by omega) (by omega), kN 40 a (by omega) (by omega)]
      refine ⟨by rw [mUp_c (by decide), mUp_s], by rw [g1, s2], by rw [g4]; exact congrArg sdF (s1 6 (by omega)).symm, by rw [g5]; exact (s1 7 (by omega)).symm, by rw [g6]; exact (s1 8 (by omega)).symm, fun r hr => ⟨fun j hj => ?_, ?_⟩⟩
      · obtain ⟨w1, w2, w3⟩ := s4 r hr
        have x76 : ∀ c', c' < 76 → ((csF c').isSome || (msF c').isSome) = true → pg Q rl r ≠ c' := fun c' x y => R1.nc hR1j w2 (by simp) x y
        rw [kN (41 + j) _ (by omega) (by omega), g7 r hr j hj, pg_cg Prl r, kO _ (x76 2 (by decide) rfl) (x76 6 (by decide) rfl) (sh_ne w2 (f2 _ _ q2) (by simp)) (by have := f3 _ _ w2; omega) (x76 35 (by decide) rfl) (Classical.byContradiction fun e => x76 _ (by omega) (all76 _ (by omega) (by omega)) rfl), w3 j hj]
      · exact (hQI.1 r hr).cg fun j hj => by
          rw [kN (41 + j) _ (by omega) (by omega)]; exact g7 r hr j hj
    · have ha' : a < na := by omega
      obtain ⟨u1, u2, u3, u4, u5, u6, u7⟩ := hC.2.2.2.2.2 a ha'
      obtain ⟨o1, o2, o3, o4, o5, o6⟩ := old a ha'
      obtain ⟨v1, v2, b1, b2, b3, b4, b5, b6⟩ := hA a ha'
      have e2 : aM (mUp (mUp K 36 na day) 35 0 (nI (na + 1))) (pg P 7 a) = aM I (pg P 7 a) := by rw [aM, aM, o4]
      rw [o1, pg_cg o3 1]
      refine ⟨by omega, by omega, ?_⟩
      unfold AcOk
      rw [o1, pg_cg o3 1, e2, o4, kM 36 a (by omega) (by omega) (by omega) (by omega), kM 37 a (by omega) (by omega) (by omega) (by omega), kM 38 a (by omega) (by omega) (by omega) (by omega), kM 39 a (by omega) (by omega) (by omega) (by omega), kM 40 a (by omega) (by omega) (by omega) (by omega)]
      refine ⟨b1, b2, b3, b4, b5, fun r hr => ?_⟩
      obtain ⟨w1, w2⟩ := b6 r hr
      have sr := (u7 r hr).2
      have x76 : ∀ c', c' < 76 → ((csF c').isSome || (msF c').isSome) = true → pg P (pg P (pg P 7 a) 1) r ≠ c' := fun c' x y => R1.nc h.1 sr (by simp) x y
      have xl := hfr _ _ sr
      have xd : pg P (pg P (pg P 7 a) 1) r ≠ dr := sh_ne sr q2 (by simp)
      rw [pg_cg o5 r, kO _ (x76 2 (by decide) rfl) (x76 6 (by decide) rfl) xd (by omega) (x76 35 (by decide) rfl) (Classical.byContradiction fun e => x76 _ (by omega) (all76 _ (by omega) (by omega)) rfl), jI _ xl (x76 1 (by decide) rfl) xd]
      exact ⟨fun j hj => by rw [kM (41 + j) _ (by omega) (by omega) (by omega) (by omega)]; exact w1 j hj, w2.cg fun j hj => kM (41 + j) _ (by omega) (by omega) (by omega) (by omega)⟩
theorem o_act (hS : St stp nx sh I P) : OpAtW X B mdX10_act mdX12_act [(60, 72, 75, 171)] 803 4824 [.int day] stp nx sh I P := by
  obtain ⟨m, na, ng, nk, nr, nw, nf, nl, dr, rl, h⟩ := hS
  have h76 := h.1.2.2.1
  have hfr := h.1.2.2.2
  obtain ⟨t1, t2, t3, t4, t5⟩ := h.2.1
  have h4 := h.2.2.2.1
  obtain ⟨hC, hna, ⟨q1, q2, q3, q4⟩, hA⟩ := h4
  have hn12 := hC.2.2.2.2.1
  have d76 : ∀ c', c' < 76 → ((csF c').isSome || (msF c').isSome) = true → c' ≠ dr := fun c' a b => (R1.nc h.1 q2 (by simp) a b).symm
  have all76 : ∀ c, 36 ≤ c → c ≤ 75 → ((csF c).isSome || (msF c).isSome) = true := fun c u v => by
    have : ∀ c : Fin 76, 36 ≤ c.val → ((csF c).isSome || (msF c).isSome) = true := by decide +kernel
    exact this ⟨c, by omega⟩ u
  have dm : ∀ c, 35 ≤ c → c ≤ 75 → c ≠ dr := fun c u v => by
    by_cases e : c = 35
    · rw [e]; exact d76 35 (by decide) rfl
    · exact d76 c (by omega) (all76 c (by omega) v)
  have n3rl : 1 ≠ rl := sh_ne (h.1.1.1 1 _ rfl) q4 (by simp)
  cases hx : acC I P na day with
  | false =>
    have e1 : ∀ c, c ≠ 2 → mUp I 2 1 0 c = I c := fun c hc => mUp_ne hc
    have hR : RR (stp + 1) nx sh (mUp (mUp I 2 1 0) 35 14 0) P 0 na ng nk nr nw nf nl dr rl := h.tape (I' := mUp (mUp I 2 1 0) 35 14 0) (m' := 0) (fun c a1 a2 a3 a4 => (mUp_ne a4).trans (mUp_ne a1)) (fun k hk => (mUp_k hk).trans (mUp_c (by decide))) ⟨(mUp_c (by decide)).trans mUp_s, by omega, mUp_s, by rw [mUp_ne (by decide), mUp_ne (by decide), mUp_ne (by decide), mUp_ne (by decide)]; exact t4, by rw [mUp_ne (by decide), mUp_ne (by decide)]; exact t5⟩
    have hR2 : RR (stp + 1) nx sh (maI (mUp I 2 1 0) m) P 0 na ng nk nr nw nf nl dr rl := by
      refine hR.scr (Nat.le_refl _) (fun c k hc => ?_) (fun _ _ _ => rfl)
      unfold maI
      by_cases e : c = 35
      · subst e
        unfold scI at hc
        rw [mUp_k (by omega)]
        by_cases ek : k = 14
        · subst ek; rw [mUp_s, mUp_s]
        · rw [mUp_k ek, mUp_k (by omega), mUp_k ek]
      · rw [mUp_c e, mUp_c e, mUp_c e, mUp_c e]
    have hm : maC (mUp I 2 1 0) na day = false := by
      rw [← hx, ← h.mayAct]
      unfold maC
      rw [e1 36 (by decide)]
    have hE := e_X12_actR (X := X) (B := B) (nx := nx) (m := m) (n := na) h.1.2.1 (by rw [e1 35 (by decide)]; exact t3) (by rw [e1 35 (by decide)]; exact hna) hn12 hm
    have s35 := h.s35
    have hSt : St (stp + 1) nx sh (maI (mUp I 2 1 0) m) P := ⟨0, na, ng, nk, nr, nw, nf, nl, dr, rl, hR2⟩
    refine ⟨_, e_X10_actR h.1.1 t1 t2 hC hx, ?_⟩
    rintro _ _ _ _ _ ⟨rfl, rfl, rfl, rfl, rfl⟩
    refine ⟨-2, _, rfl, s35, hE, ?_⟩
    rintro _ _ _ _ _ ⟨rfl, rfl, rfl, rfl, rfl⟩
    exact ⟨rfl, hSt⟩
  | true =>
    refine ⟨_, e_X10_act h.1.1 t1 t2 hC q1 q2 q3 q4 h76 hfr hx, ?_⟩
    rintro v nx1 sh1 I1 P1 ⟨n1, sj, J, Q, ⟨-, hF, hR⟩, hcase⟩
    obtain ⟨f1, f2, f3, f4, f5⟩ := hF
    have jI : ∀ c, c < nx → c ≠ 1 → c ≠ dr → J c = I c := fun c a b d => funext fun k => f4 c k a b d
    have jP : ∀ c, c < nx → c ≠ rl → Q c = P c := fun c a b => funext fun k => f5 c k a b
    -- the run
    have hprop : ∀ kt, aRun (nI na) (I 3) m (m + 2) 0 (q0 I) = .inr kt → ¬ kt.1 = 0 := by
      intro kt e
      rw [e] at hR
      exact hR.2.1
    have hrun : ∀ y, aRun (nI na) (I 3) m (m + 2 + y) 0 (q0 I) = aRun (nI na) (I 3) m (m + 2) 0 (q0 I) := fun y => aRun_more _ _ _ _ rfl hprop y
    -- the reference over what the court has left
    have model : ∀ (eM : ∀ c, 35 ≤ c → c ≤ 75 → I1 c = I c) (hMW : MW sh1 P1), EvW X B mdX12_act [(60, 72, 75, 171)] 0 0 [.ref (B + 35), .int day] nx1 sh1 I1 P1 (maPo na m (q0 I) day nx1 sh1 I1 P1) := fun eM hMW => e_X12_act hMW (by rw [eM 35 (by omega) (by omega)]; exact t3) t2 (by rw [eM 35 (by omega) (by omega)]; exact hna) hn12 (by rw [eM 48 (by omega) (by omega), t4]; exact t5) rfl rfl rfl rfl rfl (by rw [← hx, ← h.mayAct]; unfold maC; rw [eM 36 (by omega) (by omega)])
    -- R4 over one more text read, none told
    have keep4 : ∀ K : mI, maF na I1 K → I1 = mUp J 2 1 0 → R4 sj K Q na dr rl := by
      intro K hK e1
      subst e1
      have kI : ∀ c, c ≠ 35 → (c < 36 ∨ 46 < c) → c ≠ 2 → c ≠ 1 → c ≠ dr → c < nx → K c = I c := fun c a1 a2 a3 a4 a5 a6 => funext fun k => by
        rw [hK.2.2 c k a1 (by omega) (by omega), mUp_c a3, jI c a6 a4 a5]
      refine R4.cg2 ⟨hC, hna, ⟨q1, q2, q3, q4⟩, hA⟩ f2 ?_ ?_ (fun c u v a ha => ?_) (fun j hj a ha r hr => ?_) (fun c hc hd => ?_) (fun c hc => ?_) ?_ ?_ ?_ (fun c hc => ?_) (fun c hc hd => ?_)
      · rw [kI 6 (by decide) (by omega) (by decide) (by decide) (d76 6 (by decide) rfl) (by omega)]
      · rw [hK.1 0 (by omega), mUp_c (by decide), jI 35 (by omega) (by decide) (dm 35 (by omega) (by omega))]
      · rw [hK.2.2 c a (by omega) (by omega) (by omega), mUp_c (by omega), jI c (by omega) (by omega) (dm c (by omega) (by omega))]
      · rw [hK.2.2 (41 + j) _ (by omega) (by omega) (by omega), mUp_c (by omega), jI (41 + j) (by omega) (by omega) (dm (41 + j) (by omega) (by omega))]
      · have c76 : ∀ c', c' < 76 → ((csF c').isSome || (msF c').isSome) = true → c ≠ c' := fun c' a b => R1.nc h.1 hc (by simp) a b
        exact kI c (c76 35 (by decide) rfl) (Classical.byContradiction fun e => c76 c (by omega) (all76 c (by omega) (by omega)) rfl) (c76 2 (by decide) rfl) (c76 1 (by decide) rfl) hd (hfr _ _ hc)
      · have c76 : ∀ c', c' < 76 → ((csF c').isSome || (msF c').isSome) = true → c ≠ c' := fun c' a b => R1.nc h.1 hc (by simp) a b
        exact kI c (c76 35 (by decide) rfl) (Classical.byContradiction fun e => c76 c (by omega) (all76 c (by omega) (by omega)) rfl) (c76 2 (by decide) rfl) (c76 1 (by decide) rfl) (sh_ne hc q2 (by simp)) (hfr _ _ hc)
      · rw [jP 1 (by omega) n3rl]
      · rw [jP 6 (by omega) (sh_ne (h.1.1.1 6 _ rfl) q4 (by simp))]
      · exact jP 7 (by omega) (sh_ne (h.1.1.1 7 _ rfl) q4 (by simp))
      · exact jP c (hfr _ _ hc) (sh_ne hc q4 (by simp))
      · exact jP c (hfr _ _ hc) hd
    -- a text read, none told: the relation
    have keep : ∀ K : mI, maF na I1 K → I1 = mUp J 2 1 0 → K 35 20 = J 1 3 → K 35 21 = J 1 4 → St (stp + 1) n1 sj K Q := by
      intro K hK e1 k20 k21
      have h4' := keep4 K hK e1
      subst e1
      have kc : ∀ c, c ≠ 35 → (c < 36 ∨ 46 < c) → c ≠ 2 → K c = J c := fun c a1 a2 a3 => funext fun k => by
        rw [hK.2.2 c k a1 (by omega) (by omega), mUp_c a3]
      refine ⟨0, na, ng, nk, nr, nw, nf, nl, dr, rl, h.act (I' := K) (fun c a1 a2 a3 a4 a5 a6 a7 => (kc c a6 a5 a1).trans (jI c a7 a2 a4)) (fun k a1 a2 => ?_) f1 f2 f3 (fun c a1 a2 a3 a4 => jP c a1 a4) (fun k _ => by rw [jP 1 (by omega) n3rl]) ⟨?_, by omega, ?_, ?_, ?_⟩ ⟨?_, ?_⟩ h4'⟩
      · rw [hK.1 k (by omega), mUp_c (by decide), jI 35 (by omega) (by decide) (dm 35 (by omega) (by omega))]
      · rw [hK.2.2 2 1 (by decide) (by omega) (by omega), mUp_s]; rfl
      · rw [hK.2.1]; rfl
      · rw [kc 48 (by decide) (by omega) (by decide), kc 3 (by decide) (by omega) (by decide), jI 48 (by omega) (by decide) (dm 48 (by omega) (by omega)), jI 3 (by omega) (by decide) (d76 3 (by decide) rfl)]; exact t4
      · rw [kc 3 (by decide) (by omega) (by decide), jI 3 (by omega) (by decide) (d76 3 (by decide) rfl)]; exact t5
      · rw [k20, kc 1 (by decide) (by omega) (by decide)]
      · rw [k21, kc 1 (by decide) (by omega) (by decide)]
    have jMW : MW sj Q := ⟨fun c z hc => f2 _ _ (h.1.2.1.1 c z hc), fun k b hk => by rw [jP 35 (by omega) (sh_ne (h.1.2.1.1 35 _ rfl) q4 (by simp))]; exact h.1.2.1.2 k b hk⟩
    have j35 : sj 35 = some (.inl 12) := f2 _ _ h.s35
    rcases hcase with ⟨c0, rfl, rfl, rfl, rfl, rfl⟩ | ⟨c0, c12, rfl, rfl, rfl, rfl, rfl⟩ | ⟨c0, c12, rfl, rfl, rfl, rfl, rfl⟩
    · have eM : ∀ c, 35 ≤ c → c ≤ 75 → mUp J 2 1 0 c = I c := fun c u v => (mUp_ne (by omega)).trans (jI c (by omega) (by omega) (dm c u v))
      refine ⟨-1, _, rfl, j35, model eM jMW, ?_⟩
      rintro v2 nx2 sh2 I2 P2 ⟨rfl, rfl, rfl, K, hK, hc2⟩
      rcases hc2 with ⟨rfl, rfl, k, t, d, k1, k2, k3, k4⟩ | ⟨d, q', r1, r2, -⟩
      · rw [eM 48 (by omega) (by omega), t4] at k4
        have e := k4 (m + 2)
        rw [hrun d] at e
        rw [e] at hR
        exact ⟨rfl, keep _ hK rfl (by rw [k1, hR.1]) (by rw [k3, hR.2.2])⟩
      · exfalso
        rw [eM 48 (by omega) (by omega), t4] at r2
        have e := r2 (m + 2)
        rw [hrun d] at e
        rw [e] at hR
        exact c0 hR.1
    · have eM : ∀ c, 35 ≤ c → c ≤ 75 → mUp J 2 1 0 c = I c := fun c u v => (mUp_ne (by omega)).trans (jI c (by omega) (by omega) (dm c u v))
      refine ⟨-3, _, rfl, j35, model eM jMW, ?_⟩
      rintro v2 nx2 sh2 I2 P2 ⟨rfl, rfl, rfl, K, hK, hc2⟩
      rcases hc2 with ⟨rfl, rfl, k, t, d, k1, k2, k3, k4⟩ | ⟨d, q', r1, r2, r3, r4, r5⟩
      · exfalso
        rw [eM 48 (by omega) (by omega), t4] at k4
        have e := k4 (m + 2)
        rw [hrun d] at e
        rw [e] at hR
        exact hR.2.1 (hR.1.symm.trans c0)
      · rw [eM 48 (by omega) (by omega), t4] at r2
        have e := r2 (m + 2)
        rw [hrun d] at e
        rw [e] at hR
        rcases r5 with ⟨-, rfl, rfl⟩ | ⟨r6, -⟩
        · exact ⟨rfl, keep _ hK rfl (by rw [r3, hR.1]) (by rw [r4, hR.2.1])⟩
        · omega
    · have dn : dr < nx := hfr _ _ q2
      have rn : rl < nx := hfr _ _ q4
      have eA : ∀ c, c ≠ 2 → c ≠ n1 → c ≠ dr → c ≠ 6 → acI J n1 dr na day c = J c := fun c a b d e => acI_ne a b d e
      have eM : ∀ c, 35 ≤ c → c ≤ 75 → acI J n1 dr na day c = I c := fun c u v => (eA c (by omega) (by omega) (dm c u v) (by omega)).trans (jI c (by omega) (by omega) (dm c u v))
      have eQ : ∀ c, c ≠ 7 → c ≠ 1 → c ≠ n1 → c ≠ n1 + 1 → acP Q n1 dr na c = Q c := fun c a b d e => acP_ne a b d e
      have sT : ∀ c z, sj c = some z → tdS sj n1 c = some z := fun c z hc => by
        have := f3 c z hc
        unfold tdS
        rw [mUs_ne (by omega), mUs_ne (by omega)]; exact hc
      have aMW : MW (tdS sj n1) (acP Q n1 dr na) := ⟨fun c z hc => sT _ _ (jMW.1 c z hc), fun k b hk => by rw [eQ 35 (by decide) (by decide) (by omega) (by omega)]; exact jMW.2 k b hk⟩
      refine ⟨nI na, _, rfl, sT _ _ j35, model eM aMW, ?_⟩
      rintro v2 nx2 sh2 I2 P2 ⟨rfl, rfl, rfl, K, hK, hc2⟩
      rcases hc2 with ⟨rfl, rfl, k, t, d, k1, k2, k3, k4⟩ | ⟨d, q', r1, r2, r3, r4, r5⟩
      · exfalso
        rw [eM 48 (by omega) (by omega), t4] at k4
        have e := k4 (m + 2)
        rw [hrun d] at e
        rw [e] at hR
        exact hR.2.1 (hR.1.symm.trans c0)
      · rw [eM 48 (by omega) (by omega), t4] at r2
        have e := r2 (m + 2)
        rw [hrun d] at e
        have hQI : QI q' := QI.run _ _ _ _ QI_0 e
        rw [e] at hR
        rcases r5 with ⟨r6, -⟩ | ⟨-, rfl, rfl⟩
        · omega
        · refine ⟨rfl, 0, na + 1, ng, nk, nr, nw, nf, nl, n1, n1 + 1, ?_⟩
          exact h.actO f1 f2 f3 jI jP hR hQI hK r1 r3 r4 c12
end O8
