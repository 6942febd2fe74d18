/-! ===== the machine of states: fuel, and what it stores ===== -/
theorem aRun_more {na : Int32} {f : Nat → Int32} {m : Nat} : ∀ (z e : Nat) (q : aS) (R : aS ⊕ (Int32 × Nat)), aRun na f m z e q = R → (∀ kt, R = .inr kt → ¬ kt.1 = 0) → ∀ y, aRun na f m (z + y) e q = R := by
  intro z
  induction z with
  | zero =>
    intro e q R h hR
    exact absurd rfl (hR (0, 0) h.symm)
  | succ z ih =>
    intro e q R h hR y
    rw [show z + 1 + y = (z + y) + 1 by omega]
    unfold aRun at h ⊢
    by_cases hc : tK f m e = 0 ∧ q.1 0 = 0
    · rw [if_pos hc] at h ⊢
      exact h
    · rw [if_neg hc] at h ⊢
      cases hs : aStep na (tK f m e) (tN f m e 0) (wAt f m e) q with
      | inr k => rw [hs] at h; exact h
      | inl q' => rw [hs] at h; exact ih _ _ _ h hR y
def K1 (v : Nat → Int32) : Prop := ∃ w, w < 8 ∧ v 1 = nI w
def K2 (v : Nat → Int32) : Prop := (v 1 = 5 → ∃ u, u < 16 ∧ v 2 = nI u) ∧ (v 1 = 6 ∨ v 1 = 7 → ∃ u, u < 8 ∧ v 2 = nI u)
def QI (q : aS) : Prop := (∀ r, r < q.2.1 → RuOk (q.2.2 r)) ∧ (q.1 0 = 1 → K1 q.1) ∧ ((q.1 0 = 2 ∨ q.1 0 = 3 ∨ q.1 0 = 4 ∨ q.1 0 = 5 ∨ q.1 0 = 6 ∨ q.1 0 = 7 ∨ q.1 0 = 8) → K1 q.1 ∧ K2 q.1)
theorem QI.mv {q : aS} {v : Nat → Int32} (h : QI q) (hk : K1 q.1 ∧ K2 q.1) (e1 : v 1 = q.1 1) (e2 : v 2 = q.1 2) : QI (v, q.2) := by
  have k1 : K1 v := by unfold K1; rw [e1]; exact hk.1
  have k2 : K2 v := by unfold K2; rw [e1, e2]; exact hk.2
  exact ⟨h.1, fun _ => k1, fun _ => ⟨k1, k2⟩⟩
theorem QI.mv0 {q : aS} {v : Nat → Int32} (h : QI q) (e : v 0 = 0 ∨ v 0 = 9 ∨ v 0 = 10 ∨ v 0 = 11 ∨ v 0 = 12) : QI (v, q.2) := by
  refine ⟨h.1, fun e1 => ?_, fun e2 => ?_⟩
  · have e1 : v 0 = 1 := e1
    rw [e1] at e
    exact absurd e (by decide)
  · have e2 : v 0 = 2 ∨ v 0 = 3 ∨ v 0 = 4 ∨ v 0 = 5 ∨ v 0 = 6 ∨ v 0 = 7 ∨ v 0 = 8 := e2
    rcases e2 with e2 | e2 | e2 | e2 | e2 | e2 | e2 <;> (rw [e2] at e; exact absurd e (by decide))
theorem nF_0 {k num lo hi : Int32} (h : nF k num lo hi = 0) : lo ≤ num ∧ num ≤ hi := by
  unfold nF at h
  split at h
  · split at h
    · cases h
    · rename_i hn
      exact ⟨i_nlt fun e => hn (Or.inl e), i_nlt fun e => hn (Or.inr e)⟩
  · cases h
theorem n_of {x : Int32} {n : Nat} (h0 : 0 ≤ x) (h1 : x ≤ nI n) (hn : n < 2 ^ 30) : ∃ u, u < n + 1 ∧ x = nI u := by
  have hb : inB x (n + 1) = true := inB_iff.mpr (by
    rw [i_le] at h0 h1
    rw [nI_toInt (by omega)] at h1
    have e0 : (0 : Int32).toInt = 0 := rfl
    omega)
  exact inB_nI hb (by omega)
theorem rkF_lt8 {w : Nat → Bool} (h : ¬ rkF w = -1) : ∃ u, u < 8 ∧ rkF w = nI u := by
  unfold rkF at *
  split
  · exact ⟨0, by omega, rfl⟩
  split
  · exact ⟨1, by omega, rfl⟩
  split
  · exact ⟨2, by omega, rfl⟩
  split
  · exact ⟨3, by omega, rfl⟩
  split
  · exact ⟨4, by omega, rfl⟩
  split
  · exact ⟨5, by omega, rfl⟩
  split
  · exact ⟨6, by omega, rfl⟩
  split
  · exact ⟨7, by omega, rfl⟩
  · exfalso
    simp_all
theorem aN_l {f : Int32} {q q' : aS} (h : aN f q = .inl q') : f = 0 ∧ q = q' := by
  unfold aN at h
  split at h
  · rename_i e; exact ⟨e, Sum.inl.inj h⟩
  · cases h
theorem QI.step {na k num : Int32} {w : Nat → Bool} {q q' : aS} (h : QI q) (hs : aStep na k num w q = .inl q') : QI q' := by
  by_cases s0 : q.1 0 = 0
  · rw [aStep_0 s0] at hs
    split at hs
    · split at hs
      · cases hs; exact h.mv0 (by simp [upd])
      · split at hs
        · split at hs
          · cases hs; exact h.mv0 (by simp [upd])
          · cases hs
        · split at hs
          · split at hs
            · cases hs; exact h.mv0 (by simp [upd])
            · cases hs
          · cases hs
    · rename_i hr
      split at hs
      · cases hs
        obtain ⟨u, hu, eu⟩ := rkF_lt8 hr
        refine ⟨h.1, fun _ => ⟨u, hu, by simp [upd]; exact eu⟩, fun e => ?_⟩
        exact absurd e (by simp [upd])
      · cases hs
  · by_cases s1 : q.1 0 = 1
    · rw [aStep_1 s1] at hs
      obtain ⟨e0, rfl⟩ := aN_l hs
      obtain ⟨n1, n2⟩ := nF_0 e0
      have k1 := h.2.1 s1
      have K : K1 (upd (upd q.1 0 2) 2 num) := by
        obtain ⟨u, hu, eu⟩ := k1
        exact ⟨u, hu, by simp [upd]; exact eu⟩
      refine ⟨h.1, fun _ => K, fun _ => ⟨K, fun e5 => ?_, fun e6 => ?_⟩⟩
      · have e5 : q.1 1 = 5 := by simpa [upd] using e5
        rw [e5] at n2
        obtain ⟨u, hu, eu⟩ := n_of (n := 15) n1 n2 (by decide)
        exact ⟨u, by omega, by simp [upd]; exact eu⟩
      · have e6 : q.1 1 = 6 ∨ q.1 1 = 7 := by simpa [upd] using e6
        have n3 : num ≤ nI 7 := by rcases e6 with e | e <;> (rw [e] at n2; exact n2)
        obtain ⟨u, hu, eu⟩ := n_of (n := 7) n1 n3 (by decide)
        exact ⟨u, by omega, by simp [upd]; exact eu⟩
    · by_cases s2 : q.1 0 = 2
      · have hk := h.2.2 (Or.inl s2)
        rw [aStep_2 s2] at hs
        split at hs
        · cases hs; exact h.mv hk (by simp [upd]) (by simp [upd])
        · split at hs
          · cases hs; exact h.mv hk (by simp [upd]) (by simp [upd])
          · cases hs
      · by_cases s3 : q.1 0 = 3
        · have hk := h.2.2 (Or.inr (Or.inl s3))
          rw [aStep_3 s3] at hs
          obtain ⟨-, rfl⟩ := aN_l hs
          exact h.mv hk (by simp [upd]) (by simp [upd])
        · by_cases s4 : q.1 0 = 4
          · have hk := h.2.2 (Or.inr (Or.inr (Or.inl s4)))
            rw [aStep_4 s4] at hs
            split at hs
            · cases hs; exact h.mv hk (by simp [upd]) (by simp [upd])
            · cases hs
          · by_cases s5 : q.1 0 = 5
            · have hk := h.2.2 (Or.inr (Or.inr (Or.inr (Or.inl s5))))
              rw [aStep_5 s5] at hs
              obtain ⟨-, rfl⟩ := aN_l hs
              exact h.mv hk (by simp [upd]) (by simp [upd])
            · by_cases s6 : q.1 0 = 6
              · have hk := h.2.2 (Or.inr (Or.inr (Or.inr (Or.inr (Or.inl s6)))))
                rw [aStep_6 s6] at hs
                split at hs
                · cases hs
                · cases hs; exact h.mv hk (by simp [upd]) (by simp [upd])
              · by_cases s7 : q.1 0 = 7
                · have hk := h.2.2 (Or.inr (Or.inr (Or.inr (Or.inr (Or.inr (Or.inl s7))))))
                  rw [aStep_7 s7] at hs
                  split at hs
                  · cases hs; exact h.mv hk (by simp [upd]) (by simp [upd])
                  · cases hs
                · by_cases s8 : q.1 0 = 8
                  · have hk := h.2.2 (Or.inr (Or.inr (Or.inr (Or.inr (Or.inr (Or.inr s8))))))
                    rw [aStep_8 s8] at hs
                    obtain ⟨e0, rfl⟩ := aN_l hs
                    obtain ⟨n1, n2⟩ := nF_0 e0
                    obtain ⟨u, hu, eu⟩ := n_of (n := 9999) n1 n2 (by decide)
                    have hm := (QI.mv0 (v := upd q.1 0 12) h (by simp [upd])).2
                    refine ⟨fun r hr => ?_, hm.1, hm.2⟩
                    by_cases er : r = q.2.1
                    · have : (fun j => if r = q.2.1 then aFld q.1 num j else q.2.2 r j) = aFld q.1 num := by funext j; rw [if_pos er]
                      show RuOk (fun j => if r = q.2.1 then aFld q.1 num j else q.2.2 r j)
                      rw [this]
                      exact ⟨hk.1, hk.2.1, hk.2.2, u, by omega, eu⟩
                    · have : (fun j => if r = q.2.1 then aFld q.1 num j else q.2.2 r j) = q.2.2 r := by funext j; rw [if_neg er]
                      show RuOk (fun j => if r = q.2.1 then aFld q.1 num j else q.2.2 r j)
                      rw [this]
                      exact h.1 r (by have hr : r < q.2.1 + 1 := hr; omega)
                  · by_cases s9 : q.1 0 = 9
                    · rw [aStep_9 s9] at hs
                      split at hs
                      · split at hs
                        · cases hs; exact h.mv0 (by simp [upd])
                        · cases hs
                      · cases hs
                    · by_cases s10 : q.1 0 = 10
                      · rw [aStep_10 s10] at hs
                        obtain ⟨-, rfl⟩ := aN_l hs
                        exact h.mv0 (by simp [upd])
                      · by_cases s11 : q.1 0 = 11
                        · rw [aStep_11 s11] at hs
                          obtain ⟨-, rfl⟩ := aN_l hs
                          exact h.mv0 (by simp [upd])
                        · unfold aStep at hs
                          rw [if_neg s0, if_neg s1, if_neg s2, if_neg s3, if_neg s4, if_neg s5, if_neg s6, if_neg s7, if_neg s8, if_neg s9, if_neg s10, if_neg s11] at hs
                          split at hs
                          · cases hs; exact h.mv0 (by simp [upd])
                          · cases hs
theorem QI.run {na : Int32} {f : Nat → Int32} {m : Nat} : ∀ (z e : Nat) (q q' : aS), QI q → aRun na f m z e q = .inl q' → QI q' := by
  intro z
  induction z with
  | zero => intro e q q' _ h; cases h
  | succ z ih =>
    intro e q q' hq h
    unfold aRun at h
    split at h
    · cases h; exact hq
    · cases hs : aStep na (tK f m e) (tN f m e 0) (wAt f m e) q with
      | inr k => rw [hs] at h; cases h
      | inl q1 => rw [hs] at h; exact ih _ _ _ (hq.step hs) h
theorem QI_0 {I : mI} : QI (q0 I) := by
  refine ⟨fun r hr => absurd hr (Nat.not_lt_zero r), fun e => absurd e (by simp [q0, q0F]), fun e => ?_⟩
  exfalso
  simp [q0, q0F] at e
