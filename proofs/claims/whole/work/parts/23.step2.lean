/-! ===== the reader: one step as the machine's ===== -/
theorem aStep_0 {na k num : Int32} {w : Nat → Bool} {q : aS} (h : q.1 0 = 0) : aStep na k num w q = (if rkF w = -1 then (if w 8 then .inl (upd q.1 0 9, q.2) else if w 9 then (if q.1 6 = -1 then .inl (upd q.1 0 10, q.2) else .inr 3) else if w 10 then (if q.1 7 = -1 then .inl (upd q.1 0 11, q.2) else .inr 3) else .inr 1) else if q.2.1 < 12 then .inl (upd (upd q.1 1 (rkF w)) 0 1, q.2) else .inr 4) := by
  unfold aStep
  rw [if_pos h]
theorem aStep_1 {na k num : Int32} {w : Nat → Bool} {q : aS} (h : q.1 0 = 1) : aStep na k num w q = aN (nF k num 0 (tlF (q.1 1))) (upd (upd q.1 0 2) 2 num, q.2) := by
  unfold aStep
  rw [if_neg (by rw [h]; decide), if_pos h]
theorem aStep_2 {na k num : Int32} {w : Nat → Bool} {q : aS} (h : q.1 0 = 2) : aStep na k num w q = (if w 11 then .inl (upd (upd (upd q.1 3 0) 4 9) 0 6, q.2) else if w 12 then .inl (upd q.1 0 3, q.2) else .inr 1) := by
  unfold aStep
  rw [if_neg (by rw [h]; decide), if_neg (by rw [h]; decide), if_pos h]
theorem aStep_3 {na k num : Int32} {w : Nat → Bool} {q : aS} (h : q.1 0 = 3) : aStep na k num w q = aN (nF k num 0 9) (upd (upd q.1 0 4) 3 num, q.2) := by
  unfold aStep
  rw [if_neg (by rw [h]; decide), if_neg (by rw [h]; decide), if_neg (by rw [h]; decide), if_pos h]
theorem aStep_4 {na k num : Int32} {w : Nat → Bool} {q : aS} (h : q.1 0 = 4) : aStep na k num w q = (if w 13 then .inl (upd q.1 0 5, q.2) else .inr 1) := by
  unfold aStep
  rw [if_neg (by rw [h]; decide), if_neg (by rw [h]; decide), if_neg (by rw [h]; decide), if_neg (by rw [h]; decide), if_pos h]
theorem aStep_5 {na k num : Int32} {w : Nat → Bool} {q : aS} (h : q.1 0 = 5) : aStep na k num w q = aN (nF k num (q.1 3) 9) (upd (upd q.1 0 6) 4 num, q.2) := by
  unfold aStep
  rw [if_neg (by rw [h]; decide), if_neg (by rw [h]; decide), if_neg (by rw [h]; decide), if_neg (by rw [h]; decide), if_neg (by rw [h]; decide), if_pos h]
theorem aStep_6 {na k num : Int32} {w : Nat → Bool} {q : aS} (h : q.1 0 = 6) : aStep na k num w q = (if wwF w = -1 then .inr 1 else .inl (upd (upd q.1 5 (wwF w)) 0 7, q.2)) := by
  unfold aStep
  rw [if_neg (by rw [h]; decide), if_neg (by rw [h]; decide), if_neg (by rw [h]; decide), if_neg (by rw [h]; decide), if_neg (by rw [h]; decide), if_neg (by rw [h]; decide), if_pos h]
theorem aStep_7 {na k num : Int32} {w : Nat → Bool} {q : aS} (h : q.1 0 = 7) : aStep na k num w q = (if w 18 then .inl (upd q.1 0 8, q.2) else .inr 1) := by
  unfold aStep
  rw [if_neg (by rw [h]; decide), if_neg (by rw [h]; decide), if_neg (by rw [h]; decide), if_neg (by rw [h]; decide), if_neg (by rw [h]; decide), if_neg (by rw [h]; decide), if_neg (by rw [h]; decide), if_pos h]
theorem aStep_8 {na k num : Int32} {w : Nat → Bool} {q : aS} (h : q.1 0 = 8) : aStep na k num w q = aN (nF k num 0 9999) (upd q.1 0 12, q.2.1 + 1, fun r j => if r = q.2.1 then aFld q.1 num j else q.2.2 r j) := by
  unfold aStep
  rw [if_neg (by rw [h]; decide), if_neg (by rw [h]; decide), if_neg (by rw [h]; decide), if_neg (by rw [h]; decide), if_neg (by rw [h]; decide), if_neg (by rw [h]; decide), if_neg (by rw [h]; decide), if_neg (by rw [h]; decide), if_pos h]
theorem aStep_9 {na k num : Int32} {w : Nat → Bool} {q : aS} (h : q.1 0 = 9) : aStep na k num w q = (if nF k num 0 (na - 1) = 0 then (if q.1 8 &&& bt num = 0 then .inl (upd (upd q.1 0 12) 8 (q.1 8 ||| bt num), q.2) else .inr 3) else .inr (nF k num 0 (na - 1))) := by
  unfold aStep
  rw [if_neg (by rw [h]; decide), if_neg (by rw [h]; decide), if_neg (by rw [h]; decide), if_neg (by rw [h]; decide), if_neg (by rw [h]; decide), if_neg (by rw [h]; decide), if_neg (by rw [h]; decide), if_neg (by rw [h]; decide), if_neg (by rw [h]; decide), if_pos h]
theorem aStep_10 {na k num : Int32} {w : Nat → Bool} {q : aS} (h : q.1 0 = 10) : aStep na k num w q = aN (nF k num 0 9999) (upd (upd q.1 0 12) 6 num, q.2) := by
  unfold aStep
  rw [if_neg (by rw [h]; decide), if_neg (by rw [h]; decide), if_neg (by rw [h]; decide), if_neg (by rw [h]; decide), if_neg (by rw [h]; decide), if_neg (by rw [h]; decide), if_neg (by rw [h]; decide), if_neg (by rw [h]; decide), if_neg (by rw [h]; decide), if_neg (by rw [h]; decide), if_pos h]
theorem aStep_11 {na k num : Int32} {w : Nat → Bool} {q : aS} (h : q.1 0 = 11) : aStep na k num w q = aN (nF k num 0 100) (upd (upd q.1 0 12) 7 num, q.2) := by
  unfold aStep
  rw [if_neg (by rw [h]; decide), if_neg (by rw [h]; decide), if_neg (by rw [h]; decide), if_neg (by rw [h]; decide), if_neg (by rw [h]; decide), if_neg (by rw [h]; decide), if_neg (by rw [h]; decide), if_neg (by rw [h]; decide), if_neg (by rw [h]; decide), if_neg (by rw [h]; decide), if_neg (by rw [h]; decide), if_pos h]
theorem aStep_12 {na k num : Int32} {w : Nat → Bool} {q : aS} (h : q.1 0 = 12) : aStep na k num w q = (if k = 3 then .inl (upd q.1 0 0, q.2) else .inr 1) := by
  unfold aStep
  rw [if_neg (by rw [h]; decide), if_neg (by rw [h]; decide), if_neg (by rw [h]; decide), if_neg (by rw [h]; decide), if_neg (by rw [h]; decide), if_neg (by rw [h]; decide), if_neg (by rw [h]; decide), if_neg (by rw [h]; decide), if_neg (by rw [h]; decide), if_neg (by rw [h]; decide), if_neg (by rw [h]; decide), if_neg (by rw [h]; decide)]
theorem nI_eqN {a b : Nat} (ha : a < 2 ^ 31) (hb : b < 2 ^ 31) (h : nI a = nI b) : a = b := by
  have e := congrArg Int32.toInt h
  rw [nI_toInt ha, nI_toInt hb] at e
  omega
section A3
variable {X : mX} {B nx : Nat} {sh : Nat → Option mSh} {I : mI} {P : mP}
theorem StP_go {dr rl : Nat} {q : aS} {f : Int32} {s : Nat} {v : Nat → Int32} {J : mI} {res : aS ⊕ Int32} (hres : res = if f = 0 then .inl (v, q.2) else .inr f) (hfr : ∀ c z, sh c = some z → c < nx) (hq : RdS sh I P dr rl q) (s1 : sh 1 = some (.inl 5)) (sdr : sh dr = some (.inl 0)) (h33 : I 1 3 = 0) (ho : ∀ c k, c ≠ 1 → c ≠ dr → J c k = I c k) (hJ : ∀ k, k ≠ 10 → k ≠ 11 → k ≠ 12 → k ≠ 13 → k ≠ 14 → J 1 k = I 1 k) (hd2 : J dr 2 = I dr 2) (hv : f = 0 → ∀ j, 0 < j → j < 9 → rg J dr j = v j) (hv0 : v 0 = nI s) (hs : s ≤ 12 ∧ (f = 0 → 1 ≤ s ∧ s ≤ 8 → q.2.1 < 12)) : StP dr rl nx sh I P res none nx sh (goOnM J f (nI s)) P := by
  rw [hres]
  exact StP_goOn hfr hq s1 sdr h33 ho hJ hd2 hv hv0 hs
theorem mUp_mem {c r : Nat} {x : Int32} {f s : Int32} (h : ¬ (c = 1 ∧ (r = 3 ∨ r = 4 ∨ r = 5 ∨ r = 7))) : mUp (goOnM I f s) c r x = goOnM (mUp I c r x) f s := by
  have h3 : ¬ (1 = c ∧ 7 = r) := by omega
  funext c' k'
  unfold goOnM blameM
  by_cases hf : f = 0
  · rw [if_pos hf, if_pos hf]
    unfold mUp
    by_cases e : c' = c ∧ k' = r
    · rw [if_pos e, if_neg (by omega), if_pos e]
    · rw [if_neg e, if_neg e]
  · rw [if_neg hf, if_neg hf]
    unfold mUp
    by_cases e : c' = c ∧ k' = r
    · rw [if_pos e, if_neg (by omega), if_neg (by omega), if_pos e]
    · rw [if_neg e, if_neg e, if_neg h3]
theorem all8 {p : Nat → Prop} (h1 : p 1) (h2 : p 2) (h3 : p 3) (h4 : p 4) (h5 : p 5) (h6 : p 6) (h7 : p 7) (h8 : p 8) : ∀ j, 0 < j → j < 9 → p j := by
  intro j h0 hj
  rcases (show j = 1 ∨ j = 2 ∨ j = 3 ∨ j = 4 ∨ j = 5 ∨ j = 6 ∨ j = 7 ∨ j = 8 by omega) with rfl | rfl | rfl | rfl | rfl | rfl | rfl | rfl <;> assumption
/-- what a step's steps share -/
def RdC (sh : Nat → Option mSh) (I : mI) (P : mP) (m s dr rl nx : Nat) : Prop := CW sh P ∧ I 2 1 = nI m ∧ m ≤ 800 ∧ I 1 7 = nI s ∧ s ≤ 900 ∧ P 1 1 = some dr ∧ sh dr = some (.inl 0) ∧ P dr 1 = some rl ∧ sh rl = some (.inr (5, 12)) ∧ I 1 3 = 0 ∧ 76 ≤ nx ∧ ∀ c z, sh c = some z → c < nx
variable {m s dr rl : Nat} {q : aS}

theorem st_0 (hC : RdC sh I P m s dr rl nx) (hq : RdS sh I P dr rl q) (h0 : q.1 0 = 0) : Ev X B mdX5_step 1 6 [.ref (B + 1)] nx sh I P (StP dr rl nx sh I P (aStep (I 1 2) (I 1 6) (I 1 9) (wdB I m) q)) := by
  obtain ⟨hW, hm, hm8, h7, hs, hdr, sdr, hrl, srl, h33, h100, hfr⟩ := hC
  have s1 : sh 1 = some (.inl 5) := hW.1 1 _ rfl
  have nd : dr ≠ 1 := sh_ne sdr s1 (by decide)
  have nd' : 1 ≠ dr := fun h => nd h.symm
  have g1 : I 1 10 = q.1 1 := hq.1 1 (by decide)
  have g2 : I 1 11 = q.1 2 := hq.1 2 (by decide)
  have g3 : I 1 12 = q.1 3 := hq.1 3 (by decide)
  have g4 : I 1 13 = q.1 4 := hq.1 4 (by decide)
  have g5 : I 1 14 = q.1 5 := hq.1 5 (by decide)
  have g6 : I dr 3 = q.1 6 := hq.1 6 (by decide)
  have g7 : I dr 4 = q.1 7 := hq.1 7 (by decide)
  have g8 : I dr 5 = q.1 8 := hq.1 8 (by decide)
  have h5 : I 1 5 = 0 := (hq.1 0 (by decide)).trans h0
  have hn12 : 1 ≤ 0 ∧ 0 ≤ 8 → q.2.1 < 12 := by
    obtain ⟨s0, e0, l0, k0⟩ := hq.2.2.2.2
    intro hh
    have : s0 = 0 := nI_eqN (by omega) (by omega) (e0.symm.trans h0)
    exact k0 (by omega)
  rw [aStep_0 h0]
  refine Ev.weaken (e_X5_step0 hW hm hm8 h7 hs hdr sdr h33 h5) ?_
  rintro _ _ _ _ _ ⟨rfl, rfl, rfl, rfl, rfl⟩
  unfold slM
  by_cases c1 : rkF (wdB I m) = -1
  · rw [if_pos c1, if_pos c1]
    by_cases c2 : wdB I m 8 = true
    · rw [if_pos c2, if_pos c2]
      exact StP_go (f := 0) (s := 9) (v := upd q.1 0 9) (J := I) (by rfl) hfr hq s1 sdr h33 (fun c k a b => by simp [mUp, a, b]) (fun k a b c d e => by simp [mUp, a, b, c, d, e, nd']) (by simp [mUp, nd]) (fun hf => by  refine all8 ?_ ?_ ?_ ?_ ?_ ?_ ?_ ?_ <;> simp [rg, mUp, upd, nd, nd', g1, g2, g3, g4, g5, g6, g7, g8]) (by simp [upd]; rfl) ⟨by decide, fun _ h => absurd h.2 (by decide)⟩
    · rw [if_neg c2, if_neg c2]
      by_cases c3 : wdB I m 9 = true
      · rw [if_pos c3, if_pos c3]
        exact StP_go (f := if I dr 3 = -1 then 0 else 3) (s := 10) (v := upd q.1 0 10) (J := I) (by rw [g6]; by_cases h : q.1 6 = -1 <;> simp [h]) hfr hq s1 sdr h33 (fun c k a b => by simp [mUp, a, b]) (fun k a b c d e => by simp [mUp, a, b, c, d, e, nd']) (by simp [mUp, nd]) (fun hf => by  refine all8 ?_ ?_ ?_ ?_ ?_ ?_ ?_ ?_ <;> simp [rg, mUp, upd, nd, nd', g1, g2, g3, g4, g5, g6, g7, g8]) (by simp [upd]; rfl) ⟨by decide, fun _ h => absurd h.2 (by decide)⟩
      · rw [if_neg c3, if_neg c3]
        by_cases c4 : wdB I m 10 = true
        · rw [if_pos c4, if_pos c4]
          exact StP_go (f := if I dr 4 = -1 then 0 else 3) (s := 11) (v := upd q.1 0 11) (J := I) (by rw [g7]; by_cases h : q.1 7 = -1 <;> simp [h]) hfr hq s1 sdr h33 (fun c k a b => by simp [mUp, a, b]) (fun k a b c d e => by simp [mUp, a, b, c, d, e, nd']) (by simp [mUp, nd]) (fun hf => by  refine all8 ?_ ?_ ?_ ?_ ?_ ?_ ?_ ?_ <;> simp [rg, mUp, upd, nd, nd', g1, g2, g3, g4, g5, g6, g7, g8]) (by simp [upd]; rfl) ⟨by decide, fun _ h => absurd h.2 (by decide)⟩
        · rw [if_neg c4, if_neg c4]
          exact StP_no hfr (by decide) (fun c k a b => by simp [blameM, mUp, a]) (by simp [blameM, mUp]) (by simp [blameM, mUp]) (by simp [blameM, mUp]) (by simp [blameM, mUp]) (by simp [blameM, mUp])
  · rw [if_neg c1, if_neg c1]
    have hlt : I dr 2 < 12 ↔ q.2.1 < 12 := by
      rw [hq.2.1]
      exact nI_ltI (b := 12) (by have := hq.2.2.1; omega) (by decide)
    exact StP_go (f := if I dr 2 < 12 then 0 else 4) (s := 1) (v := upd (upd q.1 1 (rkF (wdB I m))) 0 1) (J := mUp I 1 10 (rkF (wdB I m))) (by by_cases h : q.2.1 < 12; rw [if_pos h, if_pos (hlt.mpr h)]; rfl; rw [if_neg h, if_neg (fun x => h (hlt.mp x))]; rfl) hfr hq s1 sdr h33 (fun c k a b => by simp [mUp, a, b]) (fun k a b c d e => by simp [mUp, a, b, c, d, e, nd']) (by simp [mUp, nd]) (fun hf => by  refine all8 ?_ ?_ ?_ ?_ ?_ ?_ ?_ ?_ <;> simp [rg, mUp, upd, nd, nd', g1, g2, g3, g4, g5, g6, g7, g8]) (by simp [upd]; rfl) ⟨by decide, fun hf _ => by by_cases h : q.2.1 < 12; exact h; rw [if_neg (fun x => h (hlt.mp x))] at hf; exact absurd hf (by decide)⟩

theorem st_1 (hC : RdC sh I P m s dr rl nx) (hq : RdS sh I P dr rl q) (h0 : q.1 0 = 1) : Ev X B mdX5_step 1 6 [.ref (B + 1)] nx sh I P (StP dr rl nx sh I P (aStep (I 1 2) (I 1 6) (I 1 9) (wdB I m) q)) := by
  obtain ⟨hW, hm, hm8, h7, hs, hdr, sdr, hrl, srl, h33, h100, hfr⟩ := hC
  have s1 : sh 1 = some (.inl 5) := hW.1 1 _ rfl
  have nd : dr ≠ 1 := sh_ne sdr s1 (by decide)
  have nd' : 1 ≠ dr := fun h => nd h.symm
  have g1 : I 1 10 = q.1 1 := hq.1 1 (by decide)
  have g2 : I 1 11 = q.1 2 := hq.1 2 (by decide)
  have g3 : I 1 12 = q.1 3 := hq.1 3 (by decide)
  have g4 : I 1 13 = q.1 4 := hq.1 4 (by decide)
  have g5 : I 1 14 = q.1 5 := hq.1 5 (by decide)
  have g6 : I dr 3 = q.1 6 := hq.1 6 (by decide)
  have g7 : I dr 4 = q.1 7 := hq.1 7 (by decide)
  have g8 : I dr 5 = q.1 8 := hq.1 8 (by decide)
  have h5 : I 1 5 = 1 := (hq.1 0 (by decide)).trans h0
  have hn12 : 1 ≤ 1 ∧ 1 ≤ 8 → q.2.1 < 12 := by
    obtain ⟨s0, e0, l0, k0⟩ := hq.2.2.2.2
    intro hh
    have : s0 = 1 := nI_eqN (by omega) (by omega) (e0.symm.trans h0)
    exact k0 (by omega)
  rw [aStep_1 h0]
  refine Ev.weaken (e_X5_step1 hW hm hm8 h7 hs hdr sdr h33 h5) ?_
  rintro _ _ _ _ _ ⟨rfl, rfl, rfl, rfl, rfl⟩
  rw [tkM_goOn, mUp_mem (by decide)]
  rw [g1]
  exact StP_go (f := nF (I 1 6) (I 1 9) 0 (tlF (q.1 1))) (s := 2) (v := upd (upd q.1 0 2) 2 (I 1 9)) (J := mUp I 1 11 (tkV I 0 (tlF (q.1 1)))) (by rw [aN]) hfr hq s1 sdr h33 (fun c k a b => by simp [mUp, a, b]) (fun k a b c d e => by simp [mUp, a, b, c, d, e, nd']) (by simp [mUp, nd]) (fun hf => by have hx := tkV_ok hf; refine all8 ?_ ?_ ?_ ?_ ?_ ?_ ?_ ?_ <;> simp [rg, mUp, upd, nd, nd', g1, g2, g3, g4, g5, g6, g7, g8, hx]) (by simp [upd]; rfl) ⟨by decide, fun _ h => hn12 (by omega)⟩

theorem st_2 (hC : RdC sh I P m s dr rl nx) (hq : RdS sh I P dr rl q) (h0 : q.1 0 = 2) : Ev X B mdX5_step 1 6 [.ref (B + 1)] nx sh I P (StP dr rl nx sh I P (aStep (I 1 2) (I 1 6) (I 1 9) (wdB I m) q)) := by
  obtain ⟨hW, hm, hm8, h7, hs, hdr, sdr, hrl, srl, h33, h100, hfr⟩ := hC
  have s1 : sh 1 = some (.inl 5) := hW.1 1 _ rfl
  have nd : dr ≠ 1 := sh_ne sdr s1 (by decide)
  have nd' : 1 ≠ dr := fun h => nd h.symm
  have g1 : I 1 10 = q.1 1 := hq.1 1 (by decide)
  have g2 : I 1 11 = q.1 2 := hq.1 2 (by decide)
  have g3 : I 1 12 = q.1 3 := hq.1 3 (by decide)
  have g4 : I 1 13 = q.1 4 := hq.1 4 (by decide)
  have g5 : I 1 14 = q.1 5 := hq.1 5 (by decide)
  have g6 : I dr 3 = q.1 6 := hq.1 6 (by decide)
  have g7 : I dr 4 = q.1 7 := hq.1 7 (by decide)
  have g8 : I dr 5 = q.1 8 := hq.1 8 (by decide)
  have h5 : I 1 5 = 2 := (hq.1 0 (by decide)).trans h0
  have hn12 : 1 ≤ 2 ∧ 2 ≤ 8 → q.2.1 < 12 := by
    obtain ⟨s0, e0, l0, k0⟩ := hq.2.2.2.2
    intro hh
    have : s0 = 2 := nI_eqN (by omega) (by omega) (e0.symm.trans h0)
    exact k0 (by omega)
  rw [aStep_2 h0]
  refine Ev.weaken (e_X5_step2 hW hm hm8 h7 hs hdr sdr h33 h5) ?_
  rintro _ _ _ _ _ ⟨rfl, rfl, rfl, rfl, rfl⟩
  unfold whoM
  by_cases c1 : wdB I m 11 = true
  · rw [if_pos c1, if_pos c1]
    have e : mUp (mUp (mUp I 1 12 0) 1 13 9) 1 5 6 = goOnM (mUp (mUp I 1 12 0) 1 13 9) 0 (nI 6) := rfl
    rw [e]
    exact StP_go (f := 0) (s := 6) (v := upd (upd (upd q.1 3 0) 4 9) 0 6) (J := mUp (mUp I 1 12 0) 1 13 9) (by rfl) hfr hq s1 sdr h33 (fun c k a b => by simp [mUp, a, b]) (fun k a b c d e => by simp [mUp, a, b, c, d, e, nd']) (by simp [mUp, nd]) (fun hf => by  refine all8 ?_ ?_ ?_ ?_ ?_ ?_ ?_ ?_ <;> simp [rg, mUp, upd, nd, nd', g1, g2, g3, g4, g5, g6, g7, g8]) (by simp [upd]; rfl) ⟨by decide, fun _ h => hn12 (by omega)⟩
  · rw [if_neg c1, if_neg c1]
    exact StP_go (f := if wdB I m 12 then 0 else 1) (s := 3) (v := upd q.1 0 3) (J := I) (by by_cases h : wdB I m 12 = true <;> simp [h]) hfr hq s1 sdr h33 (fun c k a b => by simp [mUp, a, b]) (fun k a b c d e => by simp [mUp, a, b, c, d, e, nd']) (by simp [mUp, nd]) (fun hf => by  refine all8 ?_ ?_ ?_ ?_ ?_ ?_ ?_ ?_ <;> simp [rg, mUp, upd, nd, nd', g1, g2, g3, g4, g5, g6, g7, g8]) (by simp [upd]; rfl) ⟨by decide, fun _ h => hn12 (by omega)⟩

theorem st_3 (hC : RdC sh I P m s dr rl nx) (hq : RdS sh I P dr rl q) (h0 : q.1 0 = 3) : Ev X B mdX5_step 1 6 [.ref (B + 1)] nx sh I P (StP dr rl nx sh I P (aStep (I 1 2) (I 1 6) (I 1 9) (wdB I m) q)) := by
  obtain ⟨hW, hm, hm8, h7, hs, hdr, sdr, hrl, srl, h33, h100, hfr⟩ := hC
  have s1 : sh 1 = some (.inl 5) := hW.1 1 _ rfl
  have nd : dr ≠ 1 := sh_ne sdr s1 (by decide)
  have nd' : 1 ≠ dr := fun h => nd h.symm
  have g1 : I 1 10 = q.1 1 := hq.1 1 (by decide)
  have g2 : I 1 11 = q.1 2 := hq.1 2 (by decide)
  have g3 : I 1 12 = q.1 3 := hq.1 3 (by decide)
  have g4 : I 1 13 = q.1 4 := hq.1 4 (by decide)
  have g5 : I 1 14 = q.1 5 := hq.1 5 (by decide)
  have g6 : I dr 3 = q.1 6 := hq.1 6 (by decide)
  have g7 : I dr 4 = q.1 7 := hq.1 7 (by decide)
  have g8 : I dr 5 = q.1 8 := hq.1 8 (by decide)
  have h5 : I 1 5 = 3 := (hq.1 0 (by decide)).trans h0
  have hn12 : 1 ≤ 3 ∧ 3 ≤ 8 → q.2.1 < 12 := by
    obtain ⟨s0, e0, l0, k0⟩ := hq.2.2.2.2
    intro hh
    have : s0 = 3 := nI_eqN (by omega) (by omega) (e0.symm.trans h0)
    exact k0 (by omega)
  rw [aStep_3 h0]
  refine Ev.weaken (e_X5_step3 hW hm hm8 h7 hs hdr sdr h33 h5) ?_
  rintro _ _ _ _ _ ⟨rfl, rfl, rfl, rfl, rfl⟩
  rw [tkM_goOn, mUp_mem (by decide)]
  exact StP_go (f := nF (I 1 6) (I 1 9) 0 9) (s := 4) (v := upd (upd q.1 0 4) 3 (I 1 9)) (J := mUp I 1 12 (tkV I 0 9)) (by rw [aN]) hfr hq s1 sdr h33 (fun c k a b => by simp [mUp, a, b]) (fun k a b c d e => by simp [mUp, a, b, c, d, e, nd']) (by simp [mUp, nd]) (fun hf => by have hx := tkV_ok hf; refine all8 ?_ ?_ ?_ ?_ ?_ ?_ ?_ ?_ <;> simp [rg, mUp, upd, nd, nd', g1, g2, g3, g4, g5, g6, g7, g8, hx]) (by simp [upd]; rfl) ⟨by decide, fun _ h => hn12 (by omega)⟩

theorem st_4 (hC : RdC sh I P m s dr rl nx) (hq : RdS sh I P dr rl q) (h0 : q.1 0 = 4) : Ev X B mdX5_step 1 6 [.ref (B + 1)] nx sh I P (StP dr rl nx sh I P (aStep (I 1 2) (I 1 6) (I 1 9) (wdB I m) q)) := by
  obtain ⟨hW, hm, hm8, h7, hs, hdr, sdr, hrl, srl, h33, h100, hfr⟩ := hC
  have s1 : sh 1 = some (.inl 5) := hW.1 1 _ rfl
  have nd : dr ≠ 1 := sh_ne sdr s1 (by decide)
  have nd' : 1 ≠ dr := fun h => nd h.symm
  have g1 : I 1 10 = q.1 1 := hq.1 1 (by decide)
  have g2 : I 1 11 = q.1 2 := hq.1 2 (by decide)
  have g3 : I 1 12 = q.1 3 := hq.1 3 (by decide)
  have g4 : I 1 13 = q.1 4 := hq.1 4 (by decide)
  have g5 : I 1 14 = q.1 5 := hq.1 5 (by decide)
  have g6 : I dr 3 = q.1 6 := hq.1 6 (by decide)
  have g7 : I dr 4 = q.1 7 := hq.1 7 (by decide)
  have g8 : I dr 5 = q.1 8 := hq.1 8 (by decide)
  have h5 : I 1 5 = 4 := (hq.1 0 (by decide)).trans h0
  have hn12 : 1 ≤ 4 ∧ 4 ≤ 8 → q.2.1 < 12 := by
    obtain ⟨s0, e0, l0, k0⟩ := hq.2.2.2.2
    intro hh
    have : s0 = 4 := nI_eqN (by omega) (by omega) (e0.symm.trans h0)
    exact k0 (by omega)
  rw [aStep_4 h0]
  refine Ev.weaken (e_X5_step4 hW hm hm8 h7 hs hdr sdr h33 h5) ?_
  rintro _ _ _ _ _ ⟨rfl, rfl, rfl, rfl, rfl⟩
  exact StP_go (f := if wdB I m 13 then 0 else 1) (s := 5) (v := upd q.1 0 5) (J := I) (by by_cases h : wdB I m 13 = true <;> simp [h]) hfr hq s1 sdr h33 (fun c k a b => by simp [mUp, a, b]) (fun k a b c d e => by simp [mUp, a, b, c, d, e, nd']) (by simp [mUp, nd]) (fun hf => by  refine all8 ?_ ?_ ?_ ?_ ?_ ?_ ?_ ?_ <;> simp [rg, mUp, upd, nd, nd', g1, g2, g3, g4, g5, g6, g7, g8]) (by simp [upd]; rfl) ⟨by decide, fun _ h => hn12 (by omega)⟩

theorem st_5 (hC : RdC sh I P m s dr rl nx) (hq : RdS sh I P dr rl q) (h0 : q.1 0 = 5) : Ev X B mdX5_step 1 6 [.ref (B + 1)] nx sh I P (StP dr rl nx sh I P (aStep (I 1 2) (I 1 6) (I 1 9) (wdB I m) q)) := by
  obtain ⟨hW, hm, hm8, h7, hs, hdr, sdr, hrl, srl, h33, h100, hfr⟩ := hC
  have s1 : sh 1 = some (.inl 5) := hW.1 1 _ rfl
  have nd : dr ≠ 1 := sh_ne sdr s1 (by decide)
  have nd' : 1 ≠ dr := fun h => nd h.symm
  have g1 : I 1 10 = q.1 1 := hq.1 1 (by decide)
  have g2 : I 1 11 = q.1 2 := hq.1 2 (by decide)
  have g3 : I 1 12 = q.1 3 := hq.1 3 (by decide)
  have g4 : I 1 13 = q.1 4 := hq.1 4 (by decide)
  have g5 : I 1 14 = q.1 5 := hq.1 5 (by decide)
  have g6 : I dr 3 = q.1 6 := hq.1 6 (by decide)
  have g7 : I dr 4 = q.1 7 := hq.1 7 (by decide)
  have g8 : I dr 5 = q.1 8 := hq.1 8 (by decide)
  have h5 : I 1 5 = 5 := (hq.1 0 (by decide)).trans h0
  have hn12 : 1 ≤ 5 ∧ 5 ≤ 8 → q.2.1 < 12 := by
    obtain ⟨s0, e0, l0, k0⟩ := hq.2.2.2.2
    intro hh
    have : s0 = 5 := nI_eqN (by omega) (by omega) (e0.symm.trans h0)
    exact k0 (by omega)
  rw [aStep_5 h0]
  refine Ev.weaken (e_X5_step5 hW hm hm8 h7 hs hdr sdr h33 h5) ?_
  rintro _ _ _ _ _ ⟨rfl, rfl, rfl, rfl, rfl⟩
  rw [tkM_goOn, mUp_mem (by decide)]
  rw [g3]
  exact StP_go (f := nF (I 1 6) (I 1 9) (q.1 3) 9) (s := 6) (v := upd (upd q.1 0 6) 4 (I 1 9)) (J := mUp I 1 13 (tkV I (q.1 3) 9)) (by rw [aN]) hfr hq s1 sdr h33 (fun c k a b => by simp [mUp, a, b]) (fun k a b c d e => by simp [mUp, a, b, c, d, e, nd']) (by simp [mUp, nd]) (fun hf => by have hx := tkV_ok hf; refine all8 ?_ ?_ ?_ ?_ ?_ ?_ ?_ ?_ <;> simp [rg, mUp, upd, nd, nd', g1, g2, g3, g4, g5, g6, g7, g8, hx]) (by simp [upd]; rfl) ⟨by decide, fun _ h => hn12 (by omega)⟩

theorem st_6 (hC : RdC sh I P m s dr rl nx) (hq : RdS sh I P dr rl q) (h0 : q.1 0 = 6) : Ev X B mdX5_step 1 6 [.ref (B + 1)] nx sh I P (StP dr rl nx sh I P (aStep (I 1 2) (I 1 6) (I 1 9) (wdB I m) q)) := by
  obtain ⟨hW, hm, hm8, h7, hs, hdr, sdr, hrl, srl, h33, h100, hfr⟩ := hC
  have s1 : sh 1 = some (.inl 5) := hW.1 1 _ rfl
  have nd : dr ≠ 1 := sh_ne sdr s1 (by decide)
  have nd' : 1 ≠ dr := fun h => nd h.symm
  have g1 : I 1 10 = q.1 1 := hq.1 1 (by decide)
  have g2 : I 1 11 = q.1 2 := hq.1 2 (by decide)
  have g3 : I 1 12 = q.1 3 := hq.1 3 (by decide)
  have g4 : I 1 13 = q.1 4 := hq.1 4 (by decide)
  have g5 : I 1 14 = q.1 5 := hq.1 5 (by decide)
  have g6 : I dr 3 = q.1 6 := hq.1 6 (by decide)
  have g7 : I dr 4 = q.1 7 := hq.1 7 (by decide)
  have g8 : I dr 5 = q.1 8 := hq.1 8 (by decide)
  have h5 : I 1 5 = 6 := (hq.1 0 (by decide)).trans h0
  have hn12 : 1 ≤ 6 ∧ 6 ≤ 8 → q.2.1 < 12 := by
    obtain ⟨s0, e0, l0, k0⟩ := hq.2.2.2.2
    intro hh
    have : s0 = 6 := nI_eqN (by omega) (by omega) (e0.symm.trans h0)
    exact k0 (by omega)
  rw [aStep_6 h0]
  refine Ev.weaken (e_X5_step6 hW hm hm8 h7 hs hdr sdr h33 h5) ?_
  rintro _ _ _ _ _ ⟨rfl, rfl, rfl, rfl, rfl⟩
  unfold whnM
  exact StP_go (f := if wwF (wdB I m) = -1 then 1 else 0) (s := 7) (v := upd (upd q.1 5 (wwF (wdB I m))) 0 7) (J := mUp I 1 14 (wwF (wdB I m))) (by by_cases h : wwF (wdB I m) = -1 <;> simp [h]) hfr hq s1 sdr h33 (fun c k a b => by simp [mUp, a, b]) (fun k a b c d e => by simp [mUp, a, b, c, d, e, nd']) (by simp [mUp, nd]) (fun hf => by  refine all8 ?_ ?_ ?_ ?_ ?_ ?_ ?_ ?_ <;> simp [rg, mUp, upd, nd, nd', g1, g2, g3, g4, g5, g6, g7, g8]) (by simp [upd]; rfl) ⟨by decide, fun _ h => hn12 (by omega)⟩

theorem st_7 (hC : RdC sh I P m s dr rl nx) (hq : RdS sh I P dr rl q) (h0 : q.1 0 = 7) : Ev X B mdX5_step 1 6 [.ref (B + 1)] nx sh I P (StP dr rl nx sh I P (aStep (I 1 2) (I 1 6) (I 1 9) (wdB I m) q)) := by
  obtain ⟨hW, hm, hm8, h7, hs, hdr, sdr, hrl, srl, h33, h100, hfr⟩ := hC
  have s1 : sh 1 = some (.inl 5) := hW.1 1 _ rfl
  have nd : dr ≠ 1 := sh_ne sdr s1 (by decide)
  have nd' : 1 ≠ dr := fun h => nd h.symm
  have g1 : I 1 10 = q.1 1 := hq.1 1 (by decide)
  have g2 : I 1 11 = q.1 2 := hq.1 2 (by decide)
  have g3 : I 1 12 = q.1 3 := hq.1 3 (by decide)
  have g4 : I 1 13 = q.1 4 := hq.1 4 (by decide)
  have g5 : I 1 14 = q.1 5 := hq.1 5 (by decide)
  have g6 : I dr 3 = q.1 6 := hq.1 6 (by decide)
  have g7 : I dr 4 = q.1 7 := hq.1 7 (by decide)
  have g8 : I dr 5 = q.1 8 := hq.1 8 (by decide)
  have h5 : I 1 5 = 7 := (hq.1 0 (by decide)).trans h0
  have hn12 : 1 ≤ 7 ∧ 7 ≤ 8 → q.2.1 < 12 := by
    obtain ⟨s0, e0, l0, k0⟩ := hq.2.2.2.2
    intro hh
    have : s0 = 7 := nI_eqN (by omega) (by omega) (e0.symm.trans h0)
    exact k0 (by omega)
  rw [aStep_7 h0]
  refine Ev.weaken (e_X5_step7 hW hm hm8 h7 hs hdr sdr h33 h5) ?_
  rintro _ _ _ _ _ ⟨rfl, rfl, rfl, rfl, rfl⟩
  exact StP_go (f := if wdB I m 18 then 0 else 1) (s := 8) (v := upd q.1 0 8) (J := I) (by by_cases h : wdB I m 18 = true <;> simp [h]) hfr hq s1 sdr h33 (fun c k a b => by simp [mUp, a, b]) (fun k a b c d e => by simp [mUp, a, b, c, d, e, nd']) (by simp [mUp, nd]) (fun hf => by  refine all8 ?_ ?_ ?_ ?_ ?_ ?_ ?_ ?_ <;> simp [rg, mUp, upd, nd, nd', g1, g2, g3, g4, g5, g6, g7, g8]) (by simp [upd]; rfl) ⟨by decide, fun _ h => hn12 (by omega)⟩

theorem st_10 (hC : RdC sh I P m s dr rl nx) (hq : RdS sh I P dr rl q) (h0 : q.1 0 = 10) : Ev X B mdX5_step 1 6 [.ref (B + 1)] nx sh I P (StP dr rl nx sh I P (aStep (I 1 2) (I 1 6) (I 1 9) (wdB I m) q)) := by
  obtain ⟨hW, hm, hm8, h7, hs, hdr, sdr, hrl, srl, h33, h100, hfr⟩ := hC
  have s1 : sh 1 = some (.inl 5) := hW.1 1 _ rfl
  have nd : dr ≠ 1 := sh_ne sdr s1 (by decide)
  have nd' : 1 ≠ dr := fun h => nd h.symm
  have g1 : I 1 10 = q.1 1 := hq.1 1 (by decide)
  have g2 : I 1 11 = q.1 2 := hq.1 2 (by decide)
  have g3 : I 1 12 = q.1 3 := hq.1 3 (by decide)
  have g4 : I 1 13 = q.1 4 := hq.1 4 (by decide)
  have g5 : I 1 14 = q.1 5 := hq.1 5 (by decide)
  have g6 : I dr 3 = q.1 6 := hq.1 6 (by decide)
  have g7 : I dr 4 = q.1 7 := hq.1 7 (by decide)
  have g8 : I dr 5 = q.1 8 := hq.1 8 (by decide)
  have h5 : I 1 5 = 10 := (hq.1 0 (by decide)).trans h0
  have hn12 : 1 ≤ 10 ∧ 10 ≤ 8 → q.2.1 < 12 := by
    obtain ⟨s0, e0, l0, k0⟩ := hq.2.2.2.2
    intro hh
    have : s0 = 10 := nI_eqN (by omega) (by omega) (e0.symm.trans h0)
    exact k0 (by omega)
  rw [aStep_10 h0]
  refine Ev.weaken (e_X5_step10 hW hm hm8 h7 hs hdr sdr h33 h5) ?_
  rintro _ _ _ _ _ ⟨rfl, rfl, rfl, rfl, rfl⟩
  rw [tkM_goOn, mUp_mem (by omega)]
  exact StP_go (f := nF (I 1 6) (I 1 9) 0 9999) (s := 12) (v := upd (upd q.1 0 12) 6 (I 1 9)) (J := mUp I dr 3 (tkV I 0 9999)) (by rw [aN]) hfr hq s1 sdr h33 (fun c k a b => by simp [mUp, a, b]) (fun k a b c d e => by simp [mUp, a, b, c, d, e, nd']) (by simp [mUp, nd]) (fun hf => by have hx := tkV_ok hf; refine all8 ?_ ?_ ?_ ?_ ?_ ?_ ?_ ?_ <;> simp [rg, mUp, upd, nd, nd', g1, g2, g3, g4, g5, g6, g7, g8, hx]) (by simp [upd]; rfl) ⟨by decide, fun _ h => absurd h.2 (by decide)⟩

theorem st_11 (hC : RdC sh I P m s dr rl nx) (hq : RdS sh I P dr rl q) (h0 : q.1 0 = 11) : Ev X B mdX5_step 1 6 [.ref (B + 1)] nx sh I P (StP dr rl nx sh I P (aStep (I 1 2) (I 1 6) (I 1 9) (wdB I m) q)) := by
  obtain ⟨hW, hm, hm8, h7, hs, hdr, sdr, hrl, srl, h33, h100, hfr⟩ := hC
  have s1 : sh 1 = some (.inl 5) := hW.1 1 _ rfl
  have nd : dr ≠ 1 := sh_ne sdr s1 (by decide)
  have nd' : 1 ≠ dr := fun h => nd h.symm
  have g1 : I 1 10 = q.1 1 := hq.1 1 (by decide)
  have g2 : I 1 11 = q.1 2 := hq.1 2 (by decide)
  have g3 : I 1 12 = q.1 3 := hq.1 3 (by decide)
  have g4 : I 1 13 = q.1 4 := hq.1 4 (by decide)
  have g5 : I 1 14 = q.1 5 := hq.1 5 (by decide)
  have g6 : I dr 3 = q.1 6 := hq.1 6 (by decide)
  have g7 : I dr 4 = q.1 7 := hq.1 7 (by decide)
  have g8 : I dr 5 = q.1 8 := hq.1 8 (by decide)
  have h5 : I 1 5 = 11 := (hq.1 0 (by decide)).trans h0
  have hn12 : 1 ≤ 11 ∧ 11 ≤ 8 → q.2.1 < 12 := by
    obtain ⟨s0, e0, l0, k0⟩ := hq.2.2.2.2
    intro hh
    have : s0 = 11 := nI_eqN (by omega) (by omega) (e0.symm.trans h0)
    exact k0 (by omega)
  rw [aStep_11 h0]
  refine Ev.weaken (e_X5_step11 hW hm hm8 h7 hs hdr sdr h33 h5) ?_
  rintro _ _ _ _ _ ⟨rfl, rfl, rfl, rfl, rfl⟩
  rw [tkM_goOn, mUp_mem (by omega)]
  exact StP_go (f := nF (I 1 6) (I 1 9) 0 100) (s := 12) (v := upd (upd q.1 0 12) 7 (I 1 9)) (J := mUp I dr 4 (tkV I 0 100)) (by rw [aN]) hfr hq s1 sdr h33 (fun c k a b => by simp [mUp, a, b]) (fun k a b c d e => by simp [mUp, a, b, c, d, e, nd']) (by simp [mUp, nd]) (fun hf => by have hx := tkV_ok hf; refine all8 ?_ ?_ ?_ ?_ ?_ ?_ ?_ ?_ <;> simp [rg, mUp, upd, nd, nd', g1, g2, g3, g4, g5, g6, g7, g8, hx]) (by simp [upd]; rfl) ⟨by decide, fun _ h => absurd h.2 (by decide)⟩

theorem st_12 (hC : RdC sh I P m s dr rl nx) (hq : RdS sh I P dr rl q) (h0 : q.1 0 = 12) : Ev X B mdX5_step 1 6 [.ref (B + 1)] nx sh I P (StP dr rl nx sh I P (aStep (I 1 2) (I 1 6) (I 1 9) (wdB I m) q)) := by
  obtain ⟨hW, hm, hm8, h7, hs, hdr, sdr, hrl, srl, h33, h100, hfr⟩ := hC
  have s1 : sh 1 = some (.inl 5) := hW.1 1 _ rfl
  have nd : dr ≠ 1 := sh_ne sdr s1 (by decide)
  have nd' : 1 ≠ dr := fun h => nd h.symm
  have g1 : I 1 10 = q.1 1 := hq.1 1 (by decide)
  have g2 : I 1 11 = q.1 2 := hq.1 2 (by decide)
  have g3 : I 1 12 = q.1 3 := hq.1 3 (by decide)
  have g4 : I 1 13 = q.1 4 := hq.1 4 (by decide)
  have g5 : I 1 14 = q.1 5 := hq.1 5 (by decide)
  have g6 : I dr 3 = q.1 6 := hq.1 6 (by decide)
  have g7 : I dr 4 = q.1 7 := hq.1 7 (by decide)
  have g8 : I dr 5 = q.1 8 := hq.1 8 (by decide)
  have h5 : I 1 5 = 12 := (hq.1 0 (by decide)).trans h0
  have hn12 : 1 ≤ 12 ∧ 12 ≤ 8 → q.2.1 < 12 := by
    obtain ⟨s0, e0, l0, k0⟩ := hq.2.2.2.2
    intro hh
    have : s0 = 12 := nI_eqN (by omega) (by omega) (e0.symm.trans h0)
    exact k0 (by omega)
  rw [aStep_12 h0]
  refine Ev.weaken (e_X5_step12 hW hm hm8 h7 hs hdr sdr h33 h5) ?_
  rintro _ _ _ _ _ ⟨rfl, rfl, rfl, rfl, rfl⟩
  exact StP_go (f := if I 1 6 = 3 then 0 else 1) (s := 0) (v := upd q.1 0 0) (J := I) (by by_cases h : I 1 6 = 3 <;> simp [h]) hfr hq s1 sdr h33 (fun c k a b => by simp [mUp, a, b]) (fun k a b c d e => by simp [mUp, a, b, c, d, e, nd']) (by simp [mUp, nd]) (fun hf => by  refine all8 ?_ ?_ ?_ ?_ ?_ ?_ ?_ ?_ <;> simp [rg, mUp, upd, nd, nd', g1, g2, g3, g4, g5, g6, g7, g8]) (by simp [upd]; rfl) ⟨by decide, fun _ h => absurd h.1 (by decide)⟩

theorem st_9 (hC : RdC sh I P m s dr rl nx) (hq : RdS sh I P dr rl q) (h0 : q.1 0 = 9) : Ev X B mdX5_step 1 6 [.ref (B + 1)] nx sh I P (StP dr rl nx sh I P (aStep (I 1 2) (I 1 6) (I 1 9) (wdB I m) q)) := by
  obtain ⟨hW, hm, hm8, h7, hs, hdr, sdr, hrl, srl, h33, h100, hfr⟩ := hC
  have s1 : sh 1 = some (.inl 5) := hW.1 1 _ rfl
  have nd : dr ≠ 1 := sh_ne sdr s1 (by decide)
  have nd' : 1 ≠ dr := fun h => nd h.symm
  have g1 : I 1 10 = q.1 1 := hq.1 1 (by decide)
  have g2 : I 1 11 = q.1 2 := hq.1 2 (by decide)
  have g3 : I 1 12 = q.1 3 := hq.1 3 (by decide)
  have g4 : I 1 13 = q.1 4 := hq.1 4 (by decide)
  have g5 : I 1 14 = q.1 5 := hq.1 5 (by decide)
  have g6 : I dr 3 = q.1 6 := hq.1 6 (by decide)
  have g7 : I dr 4 = q.1 7 := hq.1 7 (by decide)
  have g8 : I dr 5 = q.1 8 := hq.1 8 (by decide)
  have h5 : I 1 5 = 9 := (hq.1 0 (by decide)).trans h0
  have hn12 : 1 ≤ 9 ∧ 9 ≤ 8 → q.2.1 < 12 := by
    obtain ⟨s0, e0, l0, k0⟩ := hq.2.2.2.2
    intro hh
    have : s0 = 9 := nI_eqN (by omega) (by omega) (e0.symm.trans h0)
    exact k0 (by omega)
  rw [aStep_9 h0]
  refine Ev.weaken (e_X5_step9 hW hm hm8 h7 hs hdr sdr h33 h5) ?_
  rintro _ _ _ _ _ ⟨rfl, rfl, rfl, rfl, rfl⟩
  unfold repM
  rw [tkM_goOn]
  by_cases c1 : nF (I 1 6) (I 1 9) 0 (I 1 2 - 1) = 0
  · rw [if_pos c1, c1]
    have hx := tkV_ok c1
    rw [hx]
    have e1 : goOnM I 0 12 1 3 = 0 := by simp [goOnM, mUp, h33]
    rw [if_pos e1, g8]
    show StP dr rl _ _ I _ (if q.1 8 &&& bt (I 1 9) = 0 then .inl (upd (upd q.1 0 12) 8 (q.1 8 ||| bt (I 1 9)), q.2) else .inr 3) none _ _ (mUp (goOnM (goOnM I 0 12) (if q.1 8 &&& bt (I 1 9) = 0 then 0 else 3) 12) dr 5 (q.1 8 ||| bt (I 1 9))) _
    by_cases c2 : q.1 8 &&& bt (I 1 9) = 0
    · rw [if_pos c2, if_pos c2]
      refine StP_ok hfr hq s1 sdr (fun c k a b => by simp [goOnM, mUp, a, b]) (by simp [goOnM, mUp, nd']) (by simp [goOnM, mUp, nd']) (by simp [goOnM, mUp, nd']) (by simp [goOnM, mUp, nd', h33]) (by simp [goOnM, mUp, nd']) (by simp [goOnM, mUp, nd]) ?_ ⟨12, rfl, by decide, fun h => absurd h.2 (by decide)⟩
      refine all9 ?_ ?_ ?_ ?_ ?_ ?_ ?_ ?_ ?_ <;> simp [goOnM, rg, mUp, upd, nd, nd', g1, g2, g3, g4, g5, g6, g7]
    · rw [if_neg c2, if_neg c2]
      exact StP_no hfr (by decide) (fun c k a b => by simp [goOnM, blameM, mUp, a, b]) (by simp [goOnM, blameM, mUp, nd']) (by simp [goOnM, blameM, mUp, nd']) (by simp [goOnM, blameM, mUp, nd']) (by simp [goOnM, blameM, mUp, nd']) (by simp [goOnM, blameM, mUp, nd'])
  · have e1 : ¬ goOnM I (nF (I 1 6) (I 1 9) 0 (I 1 2 - 1)) 12 1 3 = 0 := by simp [goOnM, blameM, mUp, c1]
    rw [if_neg c1, if_neg e1, goOnM, if_neg c1]
    exact StP_no hfr c1 (fun c k a b => by simp [blameM, mUp, a, b]) (by simp [blameM, mUp]) (by simp [blameM, mUp]) (by simp [blameM, mUp]) (by simp [blameM, mUp]) (by simp [blameM, mUp])

theorem st_8 (hC : RdC sh I P m s dr rl nx) (hq : RdS sh I P dr rl q) (h0 : q.1 0 = 8) : Ev X B mdX5_step 1 6 [.ref (B + 1)] nx sh I P (StP dr rl nx sh I P (aStep (I 1 2) (I 1 6) (I 1 9) (wdB I m) q)) := by
  obtain ⟨hW, hm, hm8, h7, hs, hdr, sdr, hrl, srl, h33, h100, hfr⟩ := hC
  have s1 : sh 1 = some (.inl 5) := hW.1 1 _ rfl
  have nd : dr ≠ 1 := sh_ne sdr s1 (by decide)
  have nd' : 1 ≠ dr := fun h => nd h.symm
  have g1 : I 1 10 = q.1 1 := hq.1 1 (by decide)
  have g2 : I 1 11 = q.1 2 := hq.1 2 (by decide)
  have g3 : I 1 12 = q.1 3 := hq.1 3 (by decide)
  have g4 : I 1 13 = q.1 4 := hq.1 4 (by decide)
  have g5 : I 1 14 = q.1 5 := hq.1 5 (by decide)
  have g6 : I dr 3 = q.1 6 := hq.1 6 (by decide)
  have g7 : I dr 4 = q.1 7 := hq.1 7 (by decide)
  have g8 : I dr 5 = q.1 8 := hq.1 8 (by decide)
  have h5 : I 1 5 = 8 := (hq.1 0 (by decide)).trans h0
  have hn12 : 1 ≤ 8 ∧ 8 ≤ 8 → q.2.1 < 12 := by
    obtain ⟨s0, e0, l0, k0⟩ := hq.2.2.2.2
    intro hh
    have : s0 = 8 := nI_eqN (by omega) (by omega) (e0.symm.trans h0)
    exact k0 (by omega)
  rw [aStep_8 h0]
  by_cases c1 : nF (I 1 6) (I 1 9) 0 9999 = 0
  · have hk : I 1 6 = 2 ∧ ¬ (I 1 9 < 0 ∨ 9999 < I 1 9) := by
      unfold nF at c1
      split at c1
      · split at c1
        · cases c1
        · rename_i a b
          exact ⟨a, b⟩
      · cases c1
    have hdn := hfr dr _ sdr
    have hrn := hfr rl _ srl
    have h12 := hn12 (by decide)
    refine Ev.weaken (e_X5_step8 hW hdr sdr hrl srl h33 h5 hq.2.1 h12 h100 hdn hrn hk.1 hk.2) ?_
    rintro _ _ _ _ _ ⟨rfl, rfl, rfl, rfl, rfl⟩
    rw [aN, if_pos c1]
    have n3 : 1 ≠ nx := by omega
    have ndn : dr ≠ nx := by omega
    have nrn : rl ≠ nx := by omega
    refine ⟨rfl, ⟨by omega, fun c z h => ?_, fun c z h => ?_, fun c k h a b => ?_, fun c k h a => ?_⟩, ?_, ?_, ?_, ?_, ?_, ?_, ?_, (by show q.2.1 + 1 ≤ 12; omega), fun r hr => ?_, 12, rfl, by decide, fun h => absurd h.2 (by decide)⟩
    · have := hfr c z h
      unfold mUs
      rw [if_neg (by omega)]
      exact h
    · unfold mUs at h
      split at h
      · omega
      · have := hfr c z h
        omega
    · have : c ≠ nx := by omega
      simp [finI, ruI, mNI, mUp, a, b, this]
    · have : c ≠ nx := by omega
      simp [finP, mNP, mUp, a, this]
    · simp [finI, ruI, mNI, mUp, nd', n3]
    · simp [finI, ruI, mNI, mUp, nd', n3]
    · simp [finI, ruI, mNI, mUp, nd', n3]
    · simp [finI, ruI, mNI, mUp, nd', n3, h33]
    · simp [finI, ruI, mNI, mUp, nd', n3]
    · refine all9 ?_ ?_ ?_ ?_ ?_ ?_ ?_ ?_ ?_ <;> simp [finI, ruI, mNI, rg, mUp, upd, nd, nd', n3, ndn, g1, g2, g3, g4, g5, g6, g7, g8]
    · simp [finI, mUp]
    · have hr : r < q.2.1 + 1 := hr
      by_cases hr2 : r = q.2.1
      · subst hr2
        have e : finP P nx rl q.2.1 rl q.2.1 = some nx := by simp [finP, mUp]
        have e2 : pg (finP P nx rl q.2.1) rl q.2.1 = nx := by rw [pg, e]; rfl
        have ndn' : nx ≠ dr := fun h => ndn h.symm
        rw [e2]
        refine ⟨e, by simp [mUs], fun j hj => ?_⟩
        show _ = (if q.2.1 = q.2.1 then aFld q.1 (I 1 9) j else q.2.2 q.2.1 j)
        rw [if_pos rfl]
        rcases (show j = 0 ∨ j = 1 ∨ j = 2 ∨ j = 3 ∨ j = 4 ∨ j = 5 by omega) with rfl | rfl | rfl | rfl | rfl | rfl <;> simp [finI, ruI, mUp, ndn', aFld, g1, g2, g3, g4, g5]
      · obtain ⟨a, b, c⟩ := hq.2.2.2.1 r (by omega)
        have e : finP P nx rl q.2.1 rl r = P rl r := by simp [finP, mUp, hr2, mNP, nrn]
        have e2 : pg (finP P nx rl q.2.1) rl r = pg P rl r := by rw [pg, e]; rfl
        have hb := hfr _ _ b
        have nb : pg P rl r ≠ nx := by omega
        have nb3 : pg P rl r ≠ 1 := sh_ne b s1 (by decide)
        have nbd : pg P rl r ≠ dr := sh_ne b sdr (by decide)
        rw [e2, e]
        refine ⟨a, by rw [mUs, if_neg nb]; exact b, fun j hj => ?_⟩
        show _ = (if r = q.2.1 then aFld q.1 (I 1 9) j else q.2.2 r j)
        rw [if_neg hr2, ← c j hj]
        simp [finI, ruI, mNI, mUp, nb, nb3, nbd]
  · refine Ev.weaken (e_X5_step8N hW h33 h5 ?_) ?_
    · rintro ⟨a, b⟩
      exact c1 (by rw [nF, if_pos a, if_neg b])
    · rintro _ _ _ _ _ ⟨rfl, rfl, rfl, rfl, rfl⟩
      rw [tkM_goOn, aN, if_neg c1, goOnM, if_neg c1]
      exact StP_no hfr c1 (fun c k a b => by simp [blameM, mUp, a, b]) (by simp [blameM, mUp]) (by simp [blameM, mUp]) (by simp [blameM, mUp]) (by simp [blameM, mUp]) (by simp [blameM, mUp])

theorem e_X5_step (hC : RdC sh I P m s dr rl nx) (hq : RdS sh I P dr rl q) : Ev X B mdX5_step 1 6 [.ref (B + 1)] nx sh I P (StP dr rl nx sh I P (aStep (I 1 2) (I 1 6) (I 1 9) (wdB I m) q)) := by
  obtain ⟨s0, e0, l0, -⟩ := hq.2.2.2.2
  rcases (show s0 = 0 ∨ s0 = 1 ∨ s0 = 2 ∨ s0 = 3 ∨ s0 = 4 ∨ s0 = 5 ∨ s0 = 6 ∨ s0 = 7 ∨ s0 = 8 ∨ s0 = 9 ∨ s0 = 10 ∨ s0 = 11 ∨ s0 = 12 by omega) with rfl | rfl | rfl | rfl | rfl | rfl | rfl | rfl | rfl | rfl | rfl | rfl | rfl
  · exact st_0 hC hq e0
  · exact st_1 hC hq e0
  · exact st_2 hC hq e0
  · exact st_3 hC hq e0
  · exact st_4 hC hq e0
  · exact st_5 hC hq e0
  · exact st_6 hC hq e0
  · exact st_7 hC hq e0
  · exact st_8 hC hq e0
  · exact st_9 hC hq e0
  · exact st_10 hC hq e0
  · exact st_11 hC hq e0
  · exact st_12 hC hq e0
end A3
