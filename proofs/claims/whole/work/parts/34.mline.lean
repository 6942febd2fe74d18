/-! ===== the reference's lines and the machine of states ===== -/
theorem aRun_ok {na : Int32} {f : Nat → Int32} {m z e : Nat} {q q' : aS} (h : ¬ (tK f m e = 0 ∧ q.1 0 = 0)) (hs : aStep na (tK f m e) (tN f m e 0) (wAt f m e) q = .inl q') : aRun na f m (z + 1) e q = aRun na f m z (tE f m e) q' := by
  rw [aRun, if_neg h, hs]
theorem aRun_no {na : Int32} {f : Nat → Int32} {m z e : Nat} {q : aS} {k : Int32} (h : ¬ (tK f m e = 0 ∧ q.1 0 = 0)) (hs : aStep na (tK f m e) (tN f m e 0) (wAt f m e) q = .inr k) : aRun na f m (z + 1) e q = .inr (k, tS f m e) := by
  rw [aRun, if_neg h, hs]
/-- after d tokens the machine is at e' in q' -/
def Rch (na : Int32) (f : Nat → Int32) (m e : Nat) (q : aS) (d e' : Nat) (q' : aS) : Prop := (∀ z, aRun na f m (z + d) e q = aRun na f m z e' q') ∧ e + d ≤ e'
/-- after d tokens the machine has stopped -/
def Rno (na : Int32) (f : Nat → Int32) (m e : Nat) (q : aS) (d : Nat) (k : Int32) (t : Nat) : Prop := ∀ z, aRun na f m (z + d) e q = .inr (k, t)
theorem Rch.rf {na : Int32} {f : Nat → Int32} {m e : Nat} {q : aS} : Rch na f m e q 0 e q := ⟨fun _ => rfl, Nat.le_refl e⟩
theorem Rch.step {na : Int32} {f : Nat → Int32} {m e d e' : Nat} {q q' q'' : aS} (h : Rch na f m e q d e' q') (hl : e' + 1 ≤ tE f m e') (h0 : ¬ (tK f m e' = 0 ∧ q'.1 0 = 0)) (hs : aStep na (tK f m e') (tN f m e' 0) (wAt f m e') q' = .inl q'') : Rch na f m e q (d + 1) (tE f m e') q'' := ⟨fun z => by
  rw [show z + (d + 1) = (z + 1) + d by omega, h.1 (z + 1)]
  exact aRun_ok h0 hs, by have := h.2; omega⟩
theorem Rch.no {na : Int32} {f : Nat → Int32} {m e d e' : Nat} {q q' : aS} {k : Int32} (h : Rch na f m e q d e' q') (h0 : ¬ (tK f m e' = 0 ∧ q'.1 0 = 0)) (hs : aStep na (tK f m e') (tN f m e' 0) (wAt f m e') q' = .inr k) : Rno na f m e q (d + 1) k (tS f m e') := fun z => by
  rw [show z + (d + 1) = (z + 1) + d by omega, h.1 (z + 1)]
  exact aRun_no h0 hs
theorem MTf.lt {J : mI} {f : Nat → Int32} {m e : Nat} (h : MTf J f m e) (hk : ¬ tK f m e = 0) : e + 1 ≤ tE f m e := (tE_b (f := f) h.2.2.2.1 hk).1
theorem nF_k {k v lo hi : Int32} (h : nF k v lo hi = 0) : ¬ k = 0 := by
  intro hk
  rw [hk, nF, if_neg (by decide)] at h
  cases h
/-- the reference's act a as the machine's -/
def RdM (I : mI) (a : Nat) (q : aS) : Prop := I 37 a = nI q.2.1 ∧ q.2.1 ≤ 12 ∧ I 35 22 = bI (!decide (q.1 6 = -1)) ∧ I 38 a = sdF (q.1 6) ∧ I 39 a = q.1 7 ∧ I 40 a = q.1 8 ∧ ∀ r, r < q.2.1 → ∀ j, j < 6 → I (41 + j) (12 * a + r) = q.2.2 r j
/-- what reading act a leaves alone -/
def RmF (a : Nat) (I I' : mI) : Prop := (∀ k, k < 16 ∨ (19 < k ∧ k ≠ 22) → I' 35 k = I 35 k) ∧ ∀ c k, c ≠ 35 → ¬ (37 ≤ c ∧ c ≤ 40 ∧ k = a) → ¬ (41 ≤ c ∧ c ≤ 46 ∧ 12 * a ≤ k ∧ k < 12 * a + 12) → I' c k = I c k
def RmG (a : Nat) (I I' : mI) : Prop := (∀ k, k < 16 ∨ 22 < k → I' 35 k = I 35 k) ∧ ∀ c k, c ≠ 35 → ¬ (37 ≤ c ∧ c ≤ 40 ∧ k = a) → ¬ (41 ≤ c ∧ c ≤ 46 ∧ 12 * a ≤ k ∧ k < 12 * a + 12) → I' c k = I c k
section LN
variable {I J K : mI} {a : Nat} {q : aS}
theorem RmF.rf : RmF a I I := ⟨fun _ _ => rfl, fun _ _ _ _ _ => rfl⟩
theorem RmF.tk (h : RmF a I J) (k : tkF J K) : RmF a I K := ⟨fun i hi => (k.2 i (by omega)).trans (h.1 i hi), fun c i hc h1 h2 => (k.1 c i hc).trans (h.2 c i hc h1 h2)⟩
theorem RmF.tg (h : RmF a I J) (k : tkG J K) : RmG a I K := ⟨fun i hi => (k.2 i (by omega)).trans (h.1 i (by omega)), fun c i hc h1 h2 => (k.1 c i hc).trans (h.2 c i hc h1 h2)⟩
theorem RmF.up {c k : Nat} {x : Int32} (h : RmF a I J) (hc : (37 ≤ c ∧ c ≤ 40 ∧ k = a) ∨ (41 ≤ c ∧ c ≤ 46 ∧ 12 * a ≤ k ∧ k < 12 * a + 12)) : RmF a I (mUp J c k x) := by
  refine ⟨fun i hi => ?_, fun c' i h1 h2 h3 => ?_⟩
  · rw [mUp_c (by omega)]; exact h.1 i hi
  · rw [mUp, if_neg (by omega)]; exact h.2 c' i h1 h2 h3
theorem RmF.up22 {x : Int32} (h : RmF a I J) : RmF a I (mUp J 35 22 x) := by
  refine ⟨fun i hi => ?_, fun c' i h1 h2 h3 => ?_⟩
  · rw [mUp_k (by omega)]; exact h.1 i hi
  · rw [mUp_c h1]; exact h.2 c' i h1 h2 h3
theorem RdM.tk (h : RdM J a q) (k : tkF J K) : RdM K a q := by
  obtain ⟨h1, h2, h3, h4, h5, h6, h7⟩ := h
  exact ⟨by rw [k.1 37 a (by decide)]; exact h1, h2, by rw [k.2 22 (by omega)]; exact h3, by rw [k.1 38 a (by decide)]; exact h4, by rw [k.1 39 a (by decide)]; exact h5, by rw [k.1 40 a (by decide)]; exact h6, fun r hr j hj => by rw [k.1 _ _ (by omega)]; exact h7 r hr j hj⟩
theorem RdM.up {c : Nat} {x : Int32} (h : RdM J a q) (hc : 41 ≤ c) : RdM (mUp J c (12 * a + q.2.1) x) a q := by
  obtain ⟨h1, h2, h3, h4, h5, h6, h7⟩ := h
  exact ⟨by rw [mUp_c (by omega)]; exact h1, h2, by rw [mUp_c (by omega)]; exact h3, by rw [mUp_c (by omega)]; exact h4, by rw [mUp_c (by omega)]; exact h5, by rw [mUp_c (by omega)]; exact h6, fun r hr j hj => by rw [mUp_k (by omega)]; exact h7 r hr j hj⟩
theorem RdM.rg {v : Nat → Int32} (h : RdM J a q) (h6 : v 6 = q.1 6) (h7 : v 7 = q.1 7) (h8 : v 8 = q.1 8) : RdM J a (v, q.2) := by
  obtain ⟨a1, a2, a3, a4, a5, a6, a7⟩ := h
  exact ⟨a1, a2, by show J 35 22 = bI (!decide (v 6 = -1)); simp only [h6]; exact a3, by show J 38 a = sdF (v 6); rw [h6]; exact a4, by show J 39 a = v 7; rw [h7]; exact a5, by show J 40 a = v 8; rw [h8]; exact a6, a7⟩
end LN
def lnR (na : Int32) (f : Nat → Int32) (m a e : Nat) (q : aS) (nx : Nat) (sh : Nat → Option mSh) (I : mI) (P : mP) : mPo := fun v nx' sh' I' P' => v = none ∧ nx = nx' ∧ sh = sh' ∧ P = P' ∧ RmF a I I' ∧ ∃ (d e' : Nat) (q' : aS), 0 < d ∧ MTf I' f m e' ∧ RdM I' a q' ∧ q'.1 0 = 12 ∧ Rch na f m e q d e' q'
def lnT (B : Nat) (na : Int32) (f : Nat → Int32) (m a e : Nat) (q : aS) (nx : Nat) (sh : Nat → Option mSh) (I : mI) (P : mP) : mPo := fun v nx' sh' I' P' => v = some (.ref (B + 47)) ∧ nx = nx' ∧ sh = sh' ∧ P = P' ∧ RmG a I I' ∧ ∃ (k : Int32) (t d : Nat), I' 35 20 = k ∧ ¬ k = 0 ∧ I' 35 21 = nI t ∧ Rno na f m e q d k t
theorem lnT_of {B : Nat} {na : Int32} {f : Nat → Int32} {m a e : Nat} {q : aS} {nx : Nat} {sh : Nat → Option mSh} {I J : mI} {P : mP} {k : Int32} {t d : Nat} {c : Prop} {v : Option Value} {nx' : Nat} {sh' : Nat → Option mSh} {I' : mI} {P' : mP} (h : tkT B nx sh J P k t c v nx' sh' I' P') (hF : RmF a I J) (hk : c → ¬ k = 0) (hr : c → Rno na f m e q d k t) : lnT B na f m a e q nx sh I P v nx' sh' I' P' := by
  obtain ⟨h1, h2, h3, h4, hc, h5, h6, h7⟩ := h
  exact ⟨h1, h2, h3, h4, hF.tg h7, k, t, d, h5, hk hc, h6, hr hc⟩
