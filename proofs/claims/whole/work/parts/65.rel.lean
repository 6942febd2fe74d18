/-! ===== the relation between the court and the reference ===== -/
def R1 (nx : Nat) (sh : Nat → Option mSh) (P : mP) : Prop := CW sh P ∧ MW sh P ∧ 76 ≤ nx ∧ ∀ c z, sh c = some z → c < nx
def R2 (I : mI) (m : Nat) : Prop := I 2 1 = nI m ∧ m ≤ 800 ∧ I 35 14 = nI m ∧ I 48 = I 3 ∧ ∀ k, isByte (I 3 k)
def R3 (I : mI) : Prop := I 35 20 = I 1 3 ∧ I 35 21 = I 1 4
def RuOk (f : Nat → Int32) : Prop := (∃ w, w < 8 ∧ f 0 = nI w) ∧ (f 0 = 5 → ∃ v, v < 16 ∧ f 1 = nI v) ∧ (f 0 = 6 ∨ f 0 = 7 → ∃ v, v < 8 ∧ f 1 = nI v) ∧ ∃ v, v < 10000 ∧ f 5 = nI v
def AcOk (I : mI) (P : mP) (a : Nat) : Prop := I 36 a = I (pg P 7 a) 0 ∧ I 37 a = I (pg P 7 a) 2 ∧ I 38 a = sdF (I (pg P 7 a) 3) ∧ I 39 a = I (pg P 7 a) 4 ∧ I 40 a = I (pg P 7 a) 5 ∧ ∀ r, r < aM I (pg P 7 a) → (∀ j, j < 6 → I (41 + j) (12 * a + r) = I (pg P (pg P (pg P 7 a) 1) r) j) ∧ RuOk (fun j => I (41 + j) (12 * a + r))
def R4 (sh : Nat → Option mSh) (I : mI) (P : mP) (na dr rl : Nat) : Prop := CodexAt sh I P 6 7 na ∧ I 35 0 = nI na ∧ (P 1 1 = some dr ∧ sh dr = some (.inl 0) ∧ P dr 1 = some rl ∧ sh rl = some (.inr (5, 12))) ∧ ∀ a, a < na → pg P 7 a ≠ dr ∧ pg P (pg P 7 a) 1 ≠ rl ∧ AcOk I P a
def GoOk (I : mI) (P : mP) (g : Nat) : Prop := I 58 g = I (pg P 24 g) 1 ∧ I 59 g = I (pg P 24 g) 2 ∧ I 60 g = I (pg P 24 g) 3 ∧ (∀ j, j < 5 → I 57 (5 * g + j) = I (pg P (pg P 24 g) 0) j) ∧ (∃ s, s < 16 ∧ I 58 g = nI s) ∧ (∃ c, c < 8 ∧ I 59 g = nI c) ∧ 76 ≤ pg P (pg P 24 g) 0
def R5 (sh : Nat → Option mSh) (I : mI) (P : mP) (ng : Nat) : Prop := GownsAt sh I P ng ∧ I 35 32 = nI ng ∧ (∀ g, g < ng → GoOk I P g) ∧ ∀ g g', g < ng → g' < ng → pg P 24 g = pg P 24 g' → g = g'
def R6 (sh : Nat → Option mSh) (I : mI) (P : mP) (nk ng : Nat) : Prop := LettsAt sh I P nk ∧ I 35 45 = nI nk ∧ (∀ k, k < nk → (∀ j, j < 7 → I (68 + j) k = I (pg P 25 k) j) ∧ mLok I k ng ∧ inB (I 71 k) 10000 = true) ∧ ∀ k k', k < nk → k' < nk → pg P 25 k = pg P 25 k' → k = k'
def R7 (I : mI) (nr : Nat) : Prop := NRk I nr ∧ RwOk 12 (I 9) (I 10) (I 11) (I 49) (I 50) (I 51) nr ∧ ∀ i, i < nr → inB (I 10 i) 10000 = true
def R8 (I : mI) (nw : Nat) : Prop := NWd I nw ∧ RwOk 4 (I 13) (I 14) (I 15) (I 52) (I 53) (I 54) nw
def R9 (I : mI) (nf : Nat) : Prop := NFe I nf ∧ I 35 31 = nI nf ∧ ∀ k, k < nf → I 55 k = I 18 k ∧ I 56 k = I 19 k ∧ I 17 k = 0
def R10 (I : mI) (nl : Nat) : Prop := NLi I nl ∧ I 35 33 = nI nl ∧ LkOk I nl ∧ ∀ k, k < nl → I 61 k = I 21 k ∧ I 62 k = I 23 k ∧ I 63 k = I 22 k ∧ inB (I 22 k) 10000 = true
def R11 (I : mI) (stp : Nat) : Prop := I 64 = I 26 ∧ I 65 = I 27 ∧ I 66 = I 28 ∧ I 35 46 = I 0 13 ∧ ∀ p, p < 30 → ∃ c, c ≤ stp ∧ I 26 p = nI c
def R12 (I : mI) : Prop := ∀ k, k < 7 → I 67 k = I 29 k ∧ ∃ v, v < 1000 ∧ I 67 k = nI v
def RR (stp nx : Nat) (sh : Nat → Option mSh) (I : mI) (P : mP) (m na ng nk nr nw nf nl dr rl : Nat) : Prop := R1 nx sh P ∧ R2 I m ∧ R3 I ∧ R4 sh I P na dr rl ∧ R5 sh I P ng ∧ R6 sh I P nk ng ∧ R7 I nr ∧ R8 I nw ∧ R9 I nf ∧ R10 I nl ∧ R11 I stp ∧ R12 I
def St (stp nx : Nat) (sh : Nat → Option mSh) (I : mI) (P : mP) : Prop := ∃ m na ng nk nr nw nf nl dr rl, RR stp nx sh I P m na ng nk nr nw nf nl dr rl
theorem pg_cg {P P' : mP} {c : Nat} (h : P' c = P c) (k : Nat) : pg P' c k = pg P c k := by unfold pg; rw [h]
theorem RuOk.cg {f g : Nat → Int32} (h : RuOk f) (e : ∀ j, j < 6 → g j = f j) : RuOk g := by
  unfold RuOk at *
  rw [e 0 (by omega), e 1 (by omega), e 5 (by omega)]
  exact h
section RL
variable {nx nx' stp : Nat} {sh sh' : Nat → Option mSh} {I I' : mI} {P P' : mP} {m na ng nk nr nw nf nl dr rl : Nat}
theorem R2.cg (h : R2 I m) (h1 : I' 2 1 = I 2 1) (h2 : I' 35 14 = I 35 14) (h3 : I' 48 = I 48) (h4 : I' 3 = I 3) : R2 I' m := by
  unfold R2 at *; rw [h1, h2, h3, h4]; exact h
theorem R3.cg (h : R3 I) (h1 : I' 1 3 = I 1 3) (h2 : I' 1 4 = I 1 4) (h3 : I' 35 20 = I 35 20) (h4 : I' 35 21 = I 35 21) : R3 I' := by
  unfold R3 at *; rw [h1, h2, h3, h4]; exact h
theorem R7.cg (h : R7 I nr) (h8 : I' 8 = I 8) (h9 : I' 9 = I 9) (h10 : I' 10 = I 10) (h11 : I' 11 = I 11) (h49 : I' 49 = I 49) (h50 : I' 50 = I 50) (h51 : I' 51 = I 51) : R7 I' nr := by
  unfold R7 NRk at *; rw [h8, h9, h10, h11, h49, h50, h51]; exact h
theorem R8.cg (h : R8 I nw) (h8 : I' 12 = I 12) (h9 : I' 13 = I 13) (h10 : I' 14 = I 14) (h11 : I' 15 = I 15) (h49 : I' 52 = I 52) (h50 : I' 53 = I 53) (h51 : I' 54 = I 54) : R8 I' nw := by
  unfold R8 NWd at *; rw [h8, h9, h10, h11, h49, h50, h51]; exact h
theorem R9.cg (h : R9 I nf) (h1 : I' 16 = I 16) (h2 : I' 17 = I 17) (h3 : I' 18 = I 18) (h4 : I' 19 = I 19) (h5 : I' 35 31 = I 35 31) (h6 : I' 55 = I 55) (h7 : I' 56 = I 56) : R9 I' nf := by
  unfold R9 NFe at *; rw [h1, h2, h3, h4, h5, h6, h7]; exact h
theorem R10.cg (h : R10 I nl) (h1 : I' 20 = I 20) (h2 : I' 21 = I 21) (h3 : I' 22 = I 22) (h4 : I' 23 = I 23) (h5 : I' 35 33 = I 35 33) (h6 : I' 61 = I 61) (h7 : I' 62 = I 62) (h8 : I' 63 = I 63) : R10 I' nl := by
  unfold R10 NLi LkOk at *; rw [h1, h2, h3, h4, h5, h6, h7, h8]; exact h
theorem R11.cg (h : R11 I stp) (h1 : I' 64 = I 64) (h2 : I' 65 = I 65) (h3 : I' 66 = I 66) (h4 : I' 26 = I 26) (h5 : I' 27 = I 27) (h6 : I' 28 = I 28) (h7 : I' 0 13 = I 0 13) (h8 : I' 35 46 = I 35 46) : R11 I' stp := by
  unfold R11 at *; rw [h1, h2, h3, h4, h5, h6, h7, h8]; exact h
theorem R11.up {stp' : Nat} (h : R11 I stp) (hs : stp ≤ stp') : R11 I stp' := ⟨h.1, h.2.1, h.2.2.1, h.2.2.2.1, fun p hp => by obtain ⟨c, h1, h2⟩ := h.2.2.2.2 p hp; exact ⟨c, by omega, h2⟩⟩
theorem R12.cg (h : R12 I) (h1 : I' 67 = I 67) (h2 : I' 29 = I 29) : R12 I' := by
  unfold R12 at *; rw [h1, h2]; exact h
theorem R4.cg (h : R4 sh I P na dr rl) (hsh : ∀ c z, sh c = some z → sh' c = some z) (h6 : I' 6 1 = I 6 1) (h35 : I' 35 0 = I 35 0) (hm : ∀ c, 36 ≤ c → c ≤ 46 → I' c = I c) (ho : ∀ c, sh c = some (.inl 0) → c ≠ dr → I' c = I c) (hu : ∀ c, sh c = some (.inl 7) → I' c = I c) (q3 : P' 1 1 = P 1 1) (q6 : P' 6 0 = P 6 0) (q7 : P' 7 = P 7) (qo : ∀ c, sh c = some (.inl 0) → P' c = P c) (qr : ∀ c, sh c = some (.inr (5, 12)) → c ≠ rl → P' c = P c) : R4 sh' I' P' na dr rl := by
  obtain ⟨⟨c1, c2, c3, c4, c5, c6⟩, h2, ⟨h3, h4, h5, h6'⟩, h7⟩ := h
  have e7 : ∀ a, pg P' 7 a = pg P 7 a := fun a => by rw [pg, pg, q7]
  have eo : ∀ a, a < na → P' (pg P 7 a) = P (pg P 7 a) ∧ I' (pg P 7 a) = I (pg P 7 a) := fun a ha => ⟨qo _ (c6 a ha).2.1, ho _ (c6 a ha).2.1 (h7 a ha).1⟩
  have e1 : ∀ a, a < na → pg P' (pg P 7 a) 1 = pg P (pg P 7 a) 1 := fun a ha => pg_cg (eo a ha).1 _
  have eM : ∀ a, a < na → aM I' (pg P 7 a) = aM I (pg P 7 a) := fun a ha => by rw [aM, aM, (eo a ha).2]
  have er : ∀ a, a < na → P' (pg P (pg P 7 a) 1) = P (pg P (pg P 7 a) 1) := fun a ha => qr _ (c6 a ha).2.2.2.1 (h7 a ha).2.1
  have eru : ∀ a, a < na → ∀ r, pg P' (pg P (pg P 7 a) 1) r = pg P (pg P (pg P 7 a) 1) r := fun a ha r => pg_cg (er a ha) r
  refine ⟨⟨hsh _ _ c1, by rw [q6]; exact c2, hsh _ _ c3, by rw [h6]; exact c4, c5, fun a ha => ?_⟩, by rw [h35]; exact h2, ⟨by rw [q3]; exact h3, hsh _ _ h4, by rw [qo dr h4]; exact h5, hsh _ _ h6'⟩, fun a ha => ?_⟩
  · obtain ⟨d1, d2, d3, d4, d5, d6, d7⟩ := c6 a ha
    rw [e7, e1 a ha, eM a ha]
    refine ⟨by rw [q7]; exact d1, hsh _ _ d2, by rw [(eo a ha).1]; exact d3, hsh _ _ d4, by rw [(eo a ha).2]; exact d5, d6, fun r hr => ?_⟩
    rw [eru a ha, er a ha]
    exact ⟨(d7 r hr).1, hsh _ _ (d7 r hr).2⟩
  · obtain ⟨a1, a2, a3⟩ := h7 a ha
    obtain ⟨b1, b2, b3, b4, b5, b6⟩ := a3
    have hu' : ∀ r, r < aM I (pg P 7 a) → I' (pg P (pg P (pg P 7 a) 1) r) = I (pg P (pg P (pg P 7 a) 1) r) := fun r hr => hu _ ((c6 a ha).2.2.2.2.2.2 r hr).2
    refine ⟨by rw [e7]; exact a1, by rw [e7, e1 a ha]; exact a2, ?_⟩
    unfold AcOk
    rw [e7, e1 a ha, eM a ha, (eo a ha).2, hm 36 (by omega) (by omega), hm 37 (by omega) (by omega), hm 38 (by omega) (by omega), hm 39 (by omega) (by omega), hm 40 (by omega) (by omega)]
    refine ⟨b1, b2, b3, b4, b5, fun r hr => ?_⟩
    obtain ⟨f1, f2⟩ := b6 r hr
    rw [eru a ha, hu' r hr]
    exact ⟨fun j hj => by rw [hm (41 + j) (by omega) (by omega)]; exact f1 j hj, f2.cg fun j hj => by rw [hm (41 + j) (by omega) (by omega)]⟩
theorem R5.cg (h : R5 sh I P ng) (hsh : ∀ c z, sh c = some z → sh' c = some z) (h0 : I' 0 7 = I 0 7) (h35 : I' 35 32 = I 35 32) (hm : ∀ c, 57 ≤ c → c ≤ 60 → I' c = I c) (ho : ∀ c, sh c = some (.inl 3) → I' c = I c) (hq : ∀ c, sh c = some (.inr (0, 5)) → 76 ≤ c → I' c = I c) (q24 : P' 24 = P 24) (qo : ∀ c, sh c = some (.inl 3) → P' c = P c) : R5 sh' I' P' ng := by
  obtain ⟨⟨c1, c2, c3⟩, h2, h3, h4⟩ := h
  have e7 : ∀ a, pg P' 24 a = pg P 24 a := fun a => by rw [pg, pg, q24]
  have eo : ∀ a, a < ng → P' (pg P 24 a) = P (pg P 24 a) ∧ I' (pg P 24 a) = I (pg P 24 a) := fun a ha => ⟨qo _ (c3 a ha).2.1, ho _ (c3 a ha).2.1⟩
  have e1 : ∀ a, a < ng → pg P' (pg P 24 a) 0 = pg P (pg P 24 a) 0 := fun a ha => pg_cg (eo a ha).1 _
  refine ⟨⟨by rw [h0]; exact c1, c2, fun g hg => ?_⟩, by rw [h35]; exact h2, fun g hg => ?_, fun g g' a b c => h4 g g' a b (by rw [e7, e7] at c; exact c)⟩
  · obtain ⟨d1, d2, d3, d4⟩ := c3 g hg
    rw [e7, e1 g hg]
    exact ⟨by rw [q24]; exact d1, hsh _ _ d2, by rw [(eo g hg).1]; exact d3, hsh _ _ d4⟩
  · obtain ⟨b1, b2, b3, b4, b5, b6, b7⟩ := h3 g hg
    unfold GoOk
    rw [e7, e1 g hg, (eo g hg).2, hm 57 (by omega) (by omega), hm 58 (by omega) (by omega), hm 59 (by omega) (by omega), hm 60 (by omega) (by omega), hq _ (c3 g hg).2.2.2 b7]
    exact ⟨b1, b2, b3, b4, b5, b6, b7⟩
theorem R6.cg {ng' : Nat} (h : R6 sh I P nk ng) (hn : ng ≤ ng') (hsh : ∀ c z, sh c = some z → sh' c = some z) (h0 : I' 0 9 = I 0 9) (h35 : I' 35 45 = I 35 45) (hm : ∀ c, 68 ≤ c → c ≤ 74 → I' c = I c) (ho : ∀ c, sh c = some (.inl 4) → I' c = I c) (q25 : P' 25 = P 25) : R6 sh' I' P' nk ng' := by
  obtain ⟨⟨c1, c2, c3⟩, h2, h3, h4⟩ := h
  have e7 : ∀ a, pg P' 25 a = pg P 25 a := fun a => by rw [pg, pg, q25]
  refine ⟨⟨by rw [h0]; exact c1, c2, fun k hk => ?_⟩, by rw [h35]; exact h2, fun k hk => ?_, fun g g' a b c => h4 g g' a b (by rw [e7, e7] at c; exact c)⟩
  · rw [e7]
    exact ⟨by rw [q25]; exact (c3 k hk).1, hsh _ _ (c3 k hk).2⟩
  · obtain ⟨a1, ⟨b, p, g, b1, b2, b3, b4, b5, b6⟩, a3⟩ := h3 k hk
    refine ⟨fun j hj => ?_, ⟨b, p, g, ?_, ?_, ?_, b4, b5, by omega⟩, by rw [hm 71 (by omega) (by omega)]; exact a3⟩
    · rw [e7, hm (68 + j) (by omega) (by omega), ho _ (c3 k hk).2]; exact a1 j hj
    · rw [hm 68 (by omega) (by omega)]; exact b1
    · rw [hm 69 (by omega) (by omega)]; exact b2
    · rw [hm 70 (by omega) (by omega)]; exact b3
theorem R1.cg (h : R1 nx sh P) (hn : nx ≤ nx') (hsh : ∀ c z, sh c = some z → sh' c = some z) (hlt : ∀ c z, sh' c = some z → c < nx') (hP : ∀ c k b, cpF c k = some b → P' c k = P c k) (hP35 : P' 35 = P 35) : R1 nx' sh' P' := by
  obtain ⟨h1, h2, h3, h4⟩ := h
  refine ⟨⟨fun c z hc => hsh _ _ (h1.1 c z hc), fun c k b hc => by rw [hP c k b hc]; exact h1.2 c k b hc⟩, ⟨fun c z hc => hsh _ _ (h2.1 c z hc), fun k b hk => by rw [hP35]; exact h2.2 k b hk⟩, by omega, hlt⟩
/-- scratch: cells 30, 33, 34 of the court, 75 and a few places of cell 35 of the reference -/
def scI (c k : Nat) : Prop := c = 30 ∨ c = 33 ∨ c = 34 ∨ c = 75 ∨ (c = 35 ∧ ((15 ≤ k ∧ k ≤ 19) ∨ k = 22 ∨ k = 55 ∨ k = 56))
theorem RR.scr {stp' : Nat} (h : RR stp nx sh I P m na ng nk nr nw nf nl dr rl) (hs : stp ≤ stp') (hI : ∀ c k, ¬ scI c k → I' c k = I c k) (hP : ∀ c k, ¬ (c = 30 ∧ k = 2) → P' c k = P c k) : RR stp' nx sh I' P' m na ng nk nr nw nf nl dr rl := by
  obtain ⟨h1, h2, h3, h4, h5, h6, h7, h8, h9, h10, h11, h12⟩ := h
  have s30 := h1.1.1 30 _ rfl
  have s33 := h1.1.1 33 _ rfl
  have s34 := h1.1.1 34 _ rfl
  have s75 : sh 75 = some (.inr (0, 5)) := h1.2.1.1 75 _ rfl
  have s35 : sh 35 = some (.inl 12) := h1.2.1.1 35 _ rfl
  have eI : ∀ c, c ≠ 30 → c ≠ 33 → c ≠ 34 → c ≠ 75 → c ≠ 35 → I' c = I c := fun c a1 a2 a3 a4 a5 => funext fun k => hI c k (by unfold scI; omega)
  have e35 : ∀ k, k < 15 ∨ (19 < k ∧ k ≠ 22 ∧ k ≠ 55 ∧ k ≠ 56) → I' 35 k = I 35 k := fun k hk => hI 35 k (by unfold scI; omega)
  have eP : ∀ c, c ≠ 30 → P' c = P c := fun c a => funext fun k => hP c k (by omega)
  have ob : ∀ c ci, sh c = some (.inl ci) → ci ≠ 9 → ci ≠ 1 → ci ≠ 12 → c ≠ 30 ∧ I' c = I c := fun c ci hc a1 a2 a3 => by
    have n30 : c ≠ 30 := sh_ne hc s30 (fun h => a1 (Sum.inl.inj h))
    exact ⟨n30, eI c n30 (sh_ne hc s33 (fun h => a2 (Sum.inl.inj h))) (sh_ne hc s34 shn_oi) (sh_ne hc s75 shn_oi) (sh_ne hc s35 (fun h => a3 (Sum.inl.inj h)))⟩
  refine ⟨R1.cg h1 (Nat.le_refl _) (fun _ _ h => h) h1.2.2.2 (fun c k b hc => hP c k (fun h => by rw [h.1, h.2] at hc; cases hc)) (eP 35 (by decide)), R2.cg h2 ?_ ?_ ?_ ?_, R3.cg h3 ?_ ?_ ?_ ?_, R4.cg h4 (fun _ _ h => h) ?_ ?_ ?_ ?_ ?_ ?_ ?_ ?_ ?_ ?_, R5.cg h5 (fun _ _ h => h) ?_ ?_ ?_ ?_ ?_ ?_ ?_, R6.cg h6 (Nat.le_refl _) (fun _ _ h => h) ?_ ?_ ?_ ?_ ?_, R7.cg h7 ?_ ?_ ?_ ?_ ?_ ?_ ?_, R8.cg h8 ?_ ?_ ?_ ?_ ?_ ?_ ?_, R9.cg h9 ?_ ?_ ?_ ?_ ?_ ?_ ?_, R10.cg h10 ?_ ?_ ?_ ?_ ?_ ?_ ?_ ?_, (R11.cg h11 ?_ ?_ ?_ ?_ ?_ ?_ ?_ ?_).up hs, R12.cg h12 ?_ ?_⟩
  all_goals first
    | exact eI _ (by decide) (by decide) (by decide) (by decide) (by decide)
    | exact congrFun (eI _ (by decide) (by decide) (by decide) (by decide) (by decide)) _
    | exact e35 _ (by omega)
    | exact fun c a b => eI c (by omega) (by omega) (by omega) (by omega) (by omega)
    | exact fun c hc _ => (ob c _ hc (by decide) (by decide) (by decide)).2
    | exact fun c hc => (ob c _ hc (by decide) (by decide) (by decide)).2
    | exact fun c hc => eP c (ob c _ hc (by decide) (by decide) (by decide)).1
    | exact fun c hc _ => eP c (sh_ne hc s30 shn_io)
    | exact fun c hc hg => eI c (by omega) (by omega) (by omega) (by omega) (by omega)
    | exact eP _ (by decide)
    | exact congrFun (eP _ (by decide)) _
end RL
