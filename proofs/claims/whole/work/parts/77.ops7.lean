/-! ===== act ===== -/
section O7
variable {X : mX} {B nx nx' stp : Nat} {sh sh' : Nat → Option mSh} {I I' : mI} {P P' : mP} {m na ng nk nr nw nf nl dr rl : Nat}
theorem R4.cg2 (h : R4 sh I P na dr rl) (hsh : ∀ c z, sh c = some z → sh' c = some z) (h6 : I' 6 1 = I 6 1) (h35 : I' 35 0 = I 35 0) (hm : ∀ c, 36 ≤ c → c ≤ 40 → ∀ a, a < na → I' c a = I c a) (hm2 : ∀ j, j < 6 → ∀ a, a < na → ∀ r, r < 12 → I' (41 + j) (12 * a + r) = I (41 + j) (12 * a + r)) (ho : ∀ c, sh c = some (.inl 0) → c ≠ dr → I' c = I c) (hu : ∀ c, sh c = some (.inl 7) → I' c = I c) (q3 : P' 1 1 = P 1 1) (q6 : P' 6 0 = P 6 0) (q7 : P' 7 = P 7) (qo : ∀ c, sh c = some (.inl 0) → P' c = P c) (qr : ∀ c, sh c = some (.inr (5, 12)) → c ≠ rl → P' c = P c) : R4 sh' I' P' na dr rl := by
  obtain ⟨⟨c1, c2, c3, c4, c5, c6⟩, h2, ⟨h3, h4, h5, h6'⟩, h7⟩ := h
  have e7 : ∀ a, pg P' 7 a = pg P 7 a := fun a => by rw [pg, pg, q7]
  have eo : ∀ a, a < na → P' (pg P 7 a) = P (pg P 7 a) ∧ I' (pg P 7 a) = I (pg P 7 a) := fun a ha => ⟨qo _ (c6 a ha).2.1, ho _ (c6 a ha).2.1 (h7 a ha).1⟩
  have e1 : ∀ a, a < na → pg P' (pg P 7 a) 1 = pg P (pg P 7 a) 1 := fun a ha => pg_cg (eo a ha).1 _
  have eM : ∀ a, a < na → aM I' (pg P 7 a) = aM I (pg P 7 a) := fun a ha => by rw [aM, aM, (eo a ha).2]
  have er : ∀ a, a < na → P' (pg P (pg P 7 a) 1) = P (pg P (pg P 7 a) 1) := fun a ha => qr _ (c6 a ha).2.2.2.1 (h7 a ha).2.1
  have eru : ∀ a, a < na → ∀ r, pg P' (pg P (pg P 7 a) 1) r = pg P (pg P (pg P 7 a) 1) r := fun a ha r => pg_cg (er a ha) r
  refine ⟨⟨hsh _ _ c1, by rw [q6]; exact c2, hsh _ _ c3, by rw [h6]; exact c4, c5, fun a ha => ?_⟩, by rw [h35]; exact h2, ⟨by rw [q3]; exact h3, hsh _ _ h4, by rw [qo dr h4]; exact h5, hsh _ _ h6'⟩, fun a ha => ?_⟩
  · obtain ⟨d1, d2, d3, d4, d5, d6, d7⟩ := c6 a ha
    rw [e7, e1 a ha, eM a ha]
    refine ⟨by rw [q7]; exact d1, hsh _ _ d2, by rw [(eo a ha).1]; exact d3, hsh _ _ d4, by rw [(eo a ha).2]; exact d5, d6, fun r hr => ?_⟩
    rw [eru a ha, er a ha]
    exact ⟨(d7 r hr).1, hsh _ _ (d7 r hr).2⟩
  · obtain ⟨a1, a2, a3⟩ := h7 a ha
    obtain ⟨b1, b2, b3, b4, b5, b6⟩ := a3
    have m12 := (c6 a ha).2.2.2.2.2.1
    have hu' : ∀ r, r < aM I (pg P 7 a) → I' (pg P (pg P (pg P 7 a) 1) r) = I (pg P (pg P (pg P 7 a) 1) r) := fun r hr => hu _ ((c6 a ha).2.2.2.2.2.2 r hr).2
    refine ⟨by rw [e7]; exact a1, by rw [e7, e1 a ha]; exact a2, ?_⟩
    unfold AcOk
    rw [e7, e1 a ha, eM a ha, (eo a ha).2, hm 36 (by omega) (by omega) a ha, hm 37 (by omega) (by omega) a ha, hm 38 (by omega) (by omega) a ha, hm 39 (by omega) (by omega) a ha, hm 40 (by omega) (by omega) a ha]
    refine ⟨b1, b2, b3, b4, b5, fun r hr => ?_⟩
    obtain ⟨f1, f2⟩ := b6 r hr
    rw [eru a ha, hu' r hr]
    exact ⟨fun j hj => by rw [hm2 j hj a ha r (by omega)]; exact f1 j hj, f2.cg fun j hj => hm2 j hj a ha r (by omega)⟩
theorem RR.act {m' na' dr' rl' : Nat} (h : RR stp nx sh I P m na ng nk nr nw nf nl dr rl) (eI : ∀ c, c ≠ 2 → c ≠ 1 → c ≠ 6 → c ≠ dr → (c < 36 ∨ 46 < c) → c ≠ 35 → c < nx → I' c = I c) (e35 : ∀ k, k ≠ 0 → (k < 14 ∨ 22 < k) → I' 35 k = I 35 k) (hn : nx ≤ nx') (hsh : ∀ c z, sh c = some z → sh' c = some z) (hlt : ∀ c z, sh' c = some z → c < nx') (eP : ∀ c, c < nx → c ≠ 1 → c ≠ 7 → c ≠ rl → P' c = P c) (eP3 : ∀ k, k ≠ 1 → P' 1 k = P 1 k) (n2 : R2 I' m') (n3 : R3 I') (n4 : R4 sh' I' P' na' dr' rl') : RR (stp + 1) nx' sh' I' P' m' na' ng nk nr nw nf nl dr' rl' := by
  obtain ⟨h1, h2, h3, h4, h5, h6, h7, h8, h9, h10, h11, h12⟩ := h
  have h76 := h1.2.2.1
  have sdr := h4.2.2.1.2.1
  have srl := h4.2.2.1.2.2.2
  have d76 : ∀ c', c' < 76 → ((csF c').isSome || (msF c').isSome) = true → c' ≠ dr := fun c' a b => (R1.nc h1 sdr (by simp) a b).symm
  have drl : ∀ c z, csF c = some z → z ≠ .inr (5, 12) → c ≠ rl := fun c z hc hz => sh_ne (h1.1.1 c z hc) srl hz
  have drm : ∀ c z, msF c = some z → z ≠ .inr (5, 12) → c ≠ rl := fun c z hc hz => sh_ne (h1.2.1.1 c z hc) srl hz
  have cpne : ∀ c k b, cpF c k = some b → c ≠ rl := by
    intro c k b hc e
    unfold cpF at hc
    split at hc <;> first | exact drl _ _ rfl (by simp) e | cases hc
  refine ⟨R1.cg h1 hn hsh hlt (fun c k b hc => ?_) (eP 35 (by omega) (by decide) (by decide) (drm 35 _ rfl (by simp))), n2, n3, n4, R5.cg h5 hsh ?_ ?_ ?_ ?_ ?_ ?_ ?_, R6.cg h6 (Nat.le_refl _) hsh ?_ ?_ ?_ ?_ ?_, R7.cg h7 ?_ ?_ ?_ ?_ ?_ ?_ ?_, R8.cg h8 ?_ ?_ ?_ ?_ ?_ ?_ ?_, R9.cg h9 ?_ ?_ ?_ ?_ ?_ ?_ ?_, R10.cg h10 ?_ ?_ ?_ ?_ ?_ ?_ ?_ ?_, (R11.cg h11 ?_ ?_ ?_ ?_ ?_ ?_ ?_ ?_).up (Nat.le_succ _), R12.cg h12 ?_ ?_⟩
  · have hc2 := cpF_c hc
    by_cases e3 : c = 1
    · subst e3; exact eP3 k (fun e => hc2.2.2.2.2 ⟨rfl, e⟩)
    · rw [eP c (by omega) e3 hc2.2.1 (cpne c k b hc)]
  all_goals first
    | exact eI _ (by decide) (by decide) (by decide) (d76 _ (by decide) rfl) (by omega) (by decide) (by omega)
    | exact congrFun (eI _ (by decide) (by decide) (by decide) (d76 _ (by decide) rfl) (by omega) (by decide) (by omega)) _
    | exact e35 _ (by decide) (by omega)
    | exact fun c a b => eI c (by omega) (by omega) (by omega) (d76 c (by omega) (by first | (rcases (show c = 57 ∨ c = 58 ∨ c = 59 ∨ c = 60 by omega) with rfl | rfl | rfl | rfl <;> rfl) | (rcases (show c = 68 ∨ c = 69 ∨ c = 70 ∨ c = 71 ∨ c = 72 ∨ c = 73 ∨ c = 74 by omega) with rfl | rfl | rfl | rfl | rfl | rfl | rfl <;> rfl))) (by omega) (by omega) (by omega)
    | exact fun c hc hg => eI c (by omega) (by omega) (by omega) (sh_ne hc sdr shn_io) (by omega) (by omega) (h1.2.2.2 _ _ hc)
    | exact fun c hc => eI c (R1.nc h1 hc (by simp) (by decide) rfl) (R1.nc h1 hc (by simp) (by decide) rfl) (R1.nc h1 hc (by simp) (by decide) rfl) (sh_ne hc sdr (by simp)) (Classical.byContradiction fun e => R1.nc h1 hc (by simp) (show c < 76 by omega) (by
        have : ∀ c : Fin 76, 36 ≤ c.val → ((csF c).isSome || (msF c).isSome) = true := by decide +kernel
        exact this ⟨c, by omega⟩ (by show 36 ≤ c; omega)) rfl) (R1.nc h1 hc (by simp) (by decide) rfl) (h1.2.2.2 _ _ hc)
    | exact eP _ (by omega) (by decide) (by decide) (drl _ _ rfl (by simp))
    | exact fun c hc => eP c (h1.2.2.2 _ _ hc) (R1.nc h1 hc (by simp) (by decide) rfl) (R1.nc h1 hc (by simp) (by decide) rfl) (sh_ne hc srl (by simp))
/-- act is told alike: the court's end and the reference's, by one run -/
theorem RR.mayAct (h : RR stp nx sh I P m na ng nk nr nw nf nl dr rl) {day : Int32} : maC I na day = acC I P na day := by
  unfold maC acC ladF
  cases hd : inB day 10000 with
  | false => rfl
  | true =>
    rw [Bool.true_and, Bool.true_and]
    by_cases e : na = 0
    · rw [if_pos e, decide_eq_true e, Bool.true_or]
      have := (inB_iff.mp hd).1
      exact (decide_eq_true (show (0 : Int32) ≤ day by rw [i_le]; exact this)).symm
    · rw [if_neg e, decide_eq_false e, Bool.false_or, (h.2.2.2.1.2.2.2 (na - 1) (by omega)).2.2.1]
end O7
