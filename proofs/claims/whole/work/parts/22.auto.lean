/-! ===== the text as tokens, read by a machine of states: what the class and the reference both do ===== -/
abbrev aS : Type := (Nat → Int32) × Nat × (Nat → Nat → Int32)
/-- the fault of a number: 0 none, 1 no number, 2 out of its bounds -/
def nF (k num lo hi : Int32) : Int32 := if k = 2 then (if num < lo ∨ hi < num then 2 else 0) else 1
def aN (f : Int32) (q : aS) : aS ⊕ Int32 := if f = 0 then .inl q else .inr f
def aFld (v : Nat → Int32) (num : Int32) (j : Nat) : Int32 := match j with
  | 0 => v 1
  | 1 => v 2
  | 2 => v 3
  | 3 => v 4
  | 4 => v 5
  | _ => num
def bt (num : Int32) : Int32 := 1 <<< (num &&& 31)
def aStep (na k num : Int32) (w : Nat → Bool) (q : aS) : aS ⊕ Int32 :=
  if q.1 0 = 0 then
    (if rkF w = -1 then
      (if w 8 then .inl (upd q.1 0 9, q.2) else if w 9 then (if q.1 6 = -1 then .inl (upd q.1 0 10, q.2) else .inr 3) else if w 10 then (if q.1 7 = -1 then .inl (upd q.1 0 11, q.2) else .inr 3) else .inr 1)
     else if q.2.1 < 12 then .inl (upd (upd q.1 1 (rkF w)) 0 1, q.2) else .inr 4)
  else if q.1 0 = 1 then aN (nF k num 0 (tlF (q.1 1))) (upd (upd q.1 0 2) 2 num, q.2)
  else if q.1 0 = 2 then (if w 11 then .inl (upd (upd (upd q.1 3 0) 4 9) 0 6, q.2) else if w 12 then .inl (upd q.1 0 3, q.2) else .inr 1)
  else if q.1 0 = 3 then aN (nF k num 0 9) (upd (upd q.1 0 4) 3 num, q.2)
  else if q.1 0 = 4 then (if w 13 then .inl (upd q.1 0 5, q.2) else .inr 1)
  else if q.1 0 = 5 then aN (nF k num (q.1 3) 9) (upd (upd q.1 0 6) 4 num, q.2)
  else if q.1 0 = 6 then (if wwF w = -1 then .inr 1 else .inl (upd (upd q.1 5 (wwF w)) 0 7, q.2))
  else if q.1 0 = 7 then (if w 18 then .inl (upd q.1 0 8, q.2) else .inr 1)
  else if q.1 0 = 8 then aN (nF k num 0 9999) (upd q.1 0 12, q.2.1 + 1, fun r j => if r = q.2.1 then aFld q.1 num j else q.2.2 r j)
  else if q.1 0 = 9 then (if nF k num 0 (na - 1) = 0 then (if q.1 8 &&& bt num = 0 then .inl (upd (upd q.1 0 12) 8 (q.1 8 ||| bt num), q.2) else .inr 3) else .inr (nF k num 0 (na - 1)))
  else if q.1 0 = 10 then aN (nF k num 0 9999) (upd (upd q.1 0 12) 6 num, q.2)
  else if q.1 0 = 11 then aN (nF k num 0 100) (upd (upd q.1 0 12) 7 num, q.2)
  else (if k = 3 then .inl (upd q.1 0 0, q.2) else .inr 1)
/-- whether the token from e on is text i -/
def wAt (f : Nat → Int32) (m e i : Nat) : Bool := decide (tK f m e = 1) && decide (nI (tE f m e) - nI (tS f m e) = nI (mLe.getD i 0)) && !anyR (fun j => !decide (tpB f m (tS f m e + j) = chF i j)) (mLe.getD i 0)
def aRun (na : Int32) (f : Nat → Int32) (m : Nat) : Nat → Nat → aS → aS ⊕ (Int32 × Nat)
  | 0, _, _ => .inr (0, 0)
  | z + 1, e, q => if tK f m e = 0 ∧ q.1 0 = 0 then .inl q else match aStep na (tK f m e) (tN f m e 0) (wAt f m e) q with
    | .inr k => .inr (k, tS f m e)
    | .inl q' => aRun na f m z (tE f m e) q'
theorem aStep_num {na k num num' : Int32} {w : Nat → Bool} {q : aS} (h : k = 2 → num = num') : aStep na k num w q = aStep na k num' w q := by
  by_cases hk : k = 2
  · rw [h hk]
  · have e : ∀ x lo hi, nF k x lo hi = 1 := fun x lo hi => by rw [nF, if_neg hk]
    simp only [aStep, e, aN]
    rfl
theorem tK2_D {f : Nat → Int32} {m e : Nat} (h : tK f m e = 2) : pD (tC f m e) = true := by
  unfold tK at h
  split at h
  · cases h
  · split at h
    · cases h
    · split at h
      · assumption
      · split at h <;> cases h
theorem tN_old {f : Nat → Int32} {m e : Nat} {x y : Int32} (h : tK f m e = 2) : tN f m e x = tN f m e y := by
  unfold tN
  rw [if_pos (tK2_D h), if_pos (tK2_D h)]
theorem tS_b {f : Nat → Int32} {m e : Nat} (h : e ≤ m) : e ≤ tS f m e ∧ tS f m e ≤ m := runE_b h
theorem tK0_iff {f : Nat → Int32} {m e : Nat} (h : e ≤ m) : tK f m e = 0 ↔ tS f m e = m := by
  have hb := tS_b (f := f) h
  constructor
  · intro h0
    rcases Nat.lt_or_ge (tS f m e) m with h1 | h1
    · have hn : ¬ tC f m e = -1 := by rw [tC, tpB_in h1]; exact and255_n _
      unfold tK at h0
      rw [if_neg hn] at h0
      split at h0
      · cases h0
      · split at h0
        · split at h0 <;> cases h0
        · split at h0 <;> cases h0
    · omega
  · intro h0
    rw [tK, if_pos (by rw [tC, tpB_out (by omega)])]
theorem tE_b {f : Nat → Int32} {m e : Nat} (h : e ≤ m) (hk : ¬ tK f m e = 0) : e + 1 ≤ tE f m e ∧ tE f m e ≤ m ∧ tS f m e < tE f m e := by
  have hb := tS_b (f := f) h
  have h1 : tS f m e < m := by
    rcases Nat.lt_or_ge (tS f m e) m with h1 | h1
    · exact h1
    · exact absurd ((tK0_iff h).mpr (by omega)) hk
  unfold tE
  split
  · have := runE_b (p := pL) (f := f) (m := m) (i := tS f m e + 1) (by omega)
    omega
  · split
    · have := runE_b (p := pD) (f := f) (m := m) (i := tS f m e + 1) (by omega)
      omega
    · omega
/-! the class's memory as such a machine -/
def rg (I : mI) (dr j : Nat) : Int32 := match j with
  | 0 => I 1 5
  | 1 => I 1 10
  | 2 => I 1 11
  | 3 => I 1 12
  | 4 => I 1 13
  | 5 => I 1 14
  | 6 => I dr 3
  | 7 => I dr 4
  | _ => I dr 5
theorem all9 {p : Nat → Prop} (h0 : p 0) (h1 : p 1) (h2 : p 2) (h3 : p 3) (h4 : p 4) (h5 : p 5) (h6 : p 6) (h7 : p 7) (h8 : p 8) : ∀ j, j < 9 → p j := by
  intro j hj
  rcases (show j = 0 ∨ j = 1 ∨ j = 2 ∨ j = 3 ∨ j = 4 ∨ j = 5 ∨ j = 6 ∨ j = 7 ∨ j = 8 by omega) with rfl | rfl | rfl | rfl | rfl | rfl | rfl | rfl | rfl <;> assumption
def stOk (q : aS) : Prop := ∃ s : Nat, q.1 0 = nI s ∧ s ≤ 12 ∧ (1 ≤ s ∧ s ≤ 8 → q.2.1 < 12)
def RdS (sh : Nat → Option mSh) (I : mI) (P : mP) (dr rl : Nat) (q : aS) : Prop := (∀ j, j < 9 → rg I dr j = q.1 j) ∧ I dr 2 = nI q.2.1 ∧ q.2.1 ≤ 12 ∧ (∀ r, r < q.2.1 → P rl r = some (pg P rl r) ∧ sh (pg P rl r) = some (.inl 7) ∧ ∀ j, j < 6 → I (pg P rl r) j = q.2.2 r j) ∧ stOk q
def RdFr (dr rl nx : Nat) (sh : Nat → Option mSh) (I : mI) (P : mP) (nx' : Nat) (sh' : Nat → Option mSh) (I' : mI) (P' : mP) : Prop := nx ≤ nx' ∧ (∀ c z, sh c = some z → sh' c = some z) ∧ (∀ c z, sh' c = some z → c < nx') ∧ (∀ c k, c < nx → c ≠ 1 → c ≠ dr → I' c k = I c k) ∧ ∀ c k, c < nx → c ≠ rl → P' c k = P c k
def StP (dr rl nx : Nat) (sh : Nat → Option mSh) (I : mI) (P : mP) (res : aS ⊕ Int32) : mPo := fun v nx' sh' I' P' => v = none ∧ RdFr dr rl nx sh I P nx' sh' I' P' ∧ I' 1 6 = I 1 6 ∧ I' 1 8 = I 1 8 ∧ I' 1 2 = I 1 2 ∧ match res with
  | .inl q => I' 1 3 = 0 ∧ I' 1 4 = I 1 4 ∧ RdS sh' I' P' dr rl q
  | .inr k => I' 1 3 = k ∧ ¬ k = 0 ∧ I' 1 4 = I 1 7
section AU
variable {X : mX} {B nx : Nat} {sh : Nat → Option mSh} {I I' : mI} {P : mP} {dr rl : Nat}
theorem StP_ok {q : aS} {v : Nat → Int32} (hfr : ∀ c z, sh c = some z → c < nx) (hq : RdS sh I P dr rl q) (s1 : sh 1 = some (.inl 5)) (sdr : sh dr = some (.inl 0)) (ho : ∀ c k, c ≠ 1 → c ≠ dr → I' c k = I c k) (h6 : I' 1 6 = I 1 6) (h8 : I' 1 8 = I 1 8) (h2 : I' 1 2 = I 1 2) (h3 : I' 1 3 = 0) (h4 : I' 1 4 = I 1 4) (hd2 : I' dr 2 = I dr 2) (hr : ∀ j, j < 9 → rg I' dr j = v j) (hs : stOk (v, q.2)) : StP dr rl nx sh I P (.inl (v, q.2)) none nx sh I' P := by
  refine ⟨rfl, ⟨Nat.le_refl _, fun _ _ h => h, hfr, fun c k _ a b => ho c k a b, fun _ _ _ _ => rfl⟩, h6, h8, h2, h3, h4, hr, by rw [hd2]; exact hq.2.1, hq.2.2.1, fun r hr => ?_, hs⟩
  obtain ⟨a, b, c⟩ := hq.2.2.2.1 r hr
  exact ⟨a, b, fun j hj => by rw [ho _ _ (sh_ne b s1 (by decide)) (sh_ne b sdr (by decide))]; exact c j hj⟩
theorem StP_no {k : Int32} (hfr : ∀ c z, sh c = some z → c < nx) (hk : ¬ k = 0) (ho : ∀ c k, c ≠ 1 → c ≠ dr → I' c k = I c k) (h6 : I' 1 6 = I 1 6) (h8 : I' 1 8 = I 1 8) (h2 : I' 1 2 = I 1 2) (h3 : I' 1 3 = k) (h4 : I' 1 4 = I 1 7) : StP dr rl nx sh I P (.inr k) none nx sh I' P :=
  ⟨rfl, ⟨Nat.le_refl _, fun _ _ h => h, hfr, fun c k _ a b => ho c k a b, fun _ _ _ _ => rfl⟩, h6, h8, h2, h3, hk, h4⟩
/-- goOn with a state j of the machine, or a fault -/
theorem StP_goOn {q : aS} {f : Int32} {s : Nat} {v : Nat → Int32} {J : mI} (hfr : ∀ c z, sh c = some z → c < nx) (hq : RdS sh I P dr rl q) (s1 : sh 1 = some (.inl 5)) (sdr : sh dr = some (.inl 0)) (h33 : I 1 3 = 0) (ho : ∀ c k, c ≠ 1 → c ≠ dr → J c k = I c k) (hJ : ∀ k, k ≠ 10 → k ≠ 11 → k ≠ 12 → k ≠ 13 → k ≠ 14 → J 1 k = I 1 k) (hd2 : J dr 2 = I dr 2) (hv : f = 0 → ∀ j, 0 < j → j < 9 → rg J dr j = v j) (hv0 : v 0 = nI s) (hs : s ≤ 12 ∧ (f = 0 → 1 ≤ s ∧ s ≤ 8 → q.2.1 < 12)) : StP dr rl nx sh I P (if f = 0 then .inl (v, q.2) else .inr f) none nx sh (goOnM J f (nI s)) P := by
  have nd : dr ≠ 1 := sh_ne sdr s1 (by decide)
  by_cases hf : f = 0
  · rw [if_pos hf, goOnM, if_pos hf]
    refine StP_ok hfr hq s1 sdr (fun c k a b => by rw [mUp_c a]; exact ho c k a b) ?_ ?_ ?_ ?_ ?_ ?_ ?_ ⟨s, hv0, hs.1, hs.2 hf⟩
    · rw [mUp_k (by decide)]; exact hJ 6 (by decide) (by decide) (by decide) (by decide) (by decide)
    · rw [mUp_k (by decide)]; exact hJ 8 (by decide) (by decide) (by decide) (by decide) (by decide)
    · rw [mUp_k (by decide)]; exact hJ 2 (by decide) (by decide) (by decide) (by decide) (by decide)
    · rw [mUp_k (by decide), hJ 3 (by decide) (by decide) (by decide) (by decide) (by decide)]; exact h33
    · rw [mUp_k (by decide)]; exact hJ 4 (by decide) (by decide) (by decide) (by decide) (by decide)
    · rw [mUp_c nd]; exact hd2
    · have hv' := hv hf
      refine all9 (by rw [hv0]; simp [rg, mUp]) ?_ ?_ ?_ ?_ ?_ ?_ ?_ ?_
      · rw [← hv' 1 (by decide) (by decide)]; simp [rg, mUp]
      · rw [← hv' 2 (by decide) (by decide)]; simp [rg, mUp]
      · rw [← hv' 3 (by decide) (by decide)]; simp [rg, mUp]
      · rw [← hv' 4 (by decide) (by decide)]; simp [rg, mUp]
      · rw [← hv' 5 (by decide) (by decide)]; simp [rg, mUp]
      · rw [← hv' 6 (by decide) (by decide)]; simp [rg, mUp, nd]
      · rw [← hv' 7 (by decide) (by decide)]; simp [rg, mUp, nd]
      · rw [← hv' 8 (by decide) (by decide)]; simp [rg, mUp, nd]
  · rw [if_neg hf, goOnM, if_neg hf]
    refine StP_no hfr hf (fun c k a b => by rw [blameM, mUp_c a, mUp_c a]; exact ho c k a b) ?_ ?_ ?_ ?_ ?_
    · simp [blameM, mUp]; exact hJ 6 (by decide) (by decide) (by decide) (by decide) (by decide)
    · simp [blameM, mUp]; exact hJ 8 (by decide) (by decide) (by decide) (by decide) (by decide)
    · simp [blameM, mUp]; exact hJ 2 (by decide) (by decide) (by decide) (by decide) (by decide)
    · simp [blameM, mUp]
    · simp [blameM, mUp]; exact hJ 7 (by decide) (by decide) (by decide) (by decide) (by decide)
/-- a number, or a fault; the number goes into a register -/
theorem tkM_goOn {lo hi : Int32} {s : Int32} : tkM I lo hi s = goOnM I (nF (I 1 6) (I 1 9) lo hi) s := by
  unfold tkM goOnM nF
  split
  · split
    · rfl
    · rfl
  · rfl
theorem tkV_ok {lo hi : Int32} (h : nF (I 1 6) (I 1 9) lo hi = 0) : tkV I lo hi = I 1 9 := by
  unfold nF at h
  unfold tkV
  split at h
  · split at h
    · cases h
    · rename_i h1 h2
      rw [if_pos h1, if_neg h2]
  · cases h
end AU
