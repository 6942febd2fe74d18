/-! ===== the reference's tokens, told by what stays ===== -/
def MTf (J : mI) (f : Nat → Int32) (m e : Nat) : Prop := J 48 = f ∧ MTk J m e
def tkF (J J' : mI) : Prop := (∀ c k, c ≠ 35 → J' c k = J c k) ∧ ∀ k, k < 16 ∨ 19 < k → J' 35 k = J 35 k
def tkG (J J' : mI) : Prop := (∀ c k, c ≠ 35 → J' c k = J c k) ∧ ∀ k, k < 16 ∨ 21 < k → J' 35 k = J 35 k
theorem MTf.up {J : mI} {f : Nat → Int32} {m e c k : Nat} {x : Int32} (h : MTf J f m e) (hc : c ≠ 35) (hc2 : c ≠ 48) : MTf (mUp J c k x) f m e := by
  have h48 : mUp J c k x 48 = J 48 := funext fun j => mUp_c (fun h => hc2 h.symm)
  have h35 : ∀ j, mUp J c k x 35 j = J 35 j := fun j => mUp_c (fun h => hc h.symm)
  refine ⟨h48.trans h.1, ?_⟩
  unfold MTk
  rw [h48, h35, h35, h35, h35, h35]
  exact h.2
theorem MTf.up35 {J : mI} {f : Nat → Int32} {m e k : Nat} {x : Int32} (h : MTf J f m e) (hk : k < 15 ∨ 19 < k) : MTf (mUp J 35 k x) f m e := by
  have h48 : mUp J 35 k x 48 = J 48 := funext fun j => mUp_c (by decide)
  have h35 : ∀ j, j ≠ k → mUp J 35 k x 35 j = J 35 j := fun j hj => mUp_k hj
  refine ⟨h48.trans h.1, ?_⟩
  unfold MTk
  rw [h48, h35 15 (by omega), h35 16 (by omega), h35 17 (by omega), h35 18 (by omega), h35 19 (by omega)]
  exact h.2
theorem nxM_tkF {I : mI} {m e : Nat} : tkF I (nxM I m e) := ⟨fun c k h => mc4_c h, fun k h => mc4_k (by omega)⟩
theorem wrM_tkG {I : mI} {k : Int32} : tkG I (wrM I k) := ⟨fun c k h => by simp [wrM, mUp, h], fun k h => by
  unfold wrM
  rw [mUp_k (by omega), mUp_k (by omega)]⟩
section NR
variable {X : mX} {B nx : Nat} {sh : Nat → Option mSh} {I : mI} {P : mP} {m e : Nat} {f : Nat → Int32}
def tkR (r : Option Value) (nx : Nat) (sh : Nat → Option mSh) (J : mI) (P : mP) (f : Nat → Int32) (m e : Nat) (c : Prop) : mPo := fun v nx' sh' J' P' => v = r ∧ nx = nx' ∧ sh = sh' ∧ P = P' ∧ c ∧ MTf J' f m e ∧ tkF J J'
def tkT (B nx : Nat) (sh : Nat → Option mSh) (J : mI) (P : mP) (k : Int32) (t : Nat) (c : Prop) : mPo := fun v nx' sh' J' P' => v = some (.ref (B + 47)) ∧ nx = nx' ∧ sh = sh' ∧ P = P' ∧ c ∧ J' 35 20 = k ∧ J' 35 21 = nI t ∧ tkG J J'
theorem wrM_tkT {k : Int32} {c : Prop} (hT : MTf I f m e) (hc : c) : tkT B nx sh I P k (tS f m e) c (some (.ref (B + 47))) nx sh (wrM I k) P := by
  refine ⟨rfl, rfl, rfl, rfl, hc, by simp [wrM, mUp], ?_, wrM_tkG⟩
  rw [show wrM I k 35 21 = I 35 16 by simp [wrM, mUp], hT.2.2.2.2.2.1, hT.1]
theorem n_scan (hV : MW sh P) (hT : MTf I f m e) (hk : ¬ tK f m e = 0) : Ev X B mdX12_scan 0 0 [.ref (B + 35)] nx sh I P (tkR none nx sh I P f m (tE f m e) True) := by
  obtain ⟨rfl, hT⟩ := hT
  refine Ev.weaken (e_X12_next hV hT hk) ?_
  rintro _ _ _ _ _ ⟨rfl, rfl, rfl, rfl, rfl⟩
  exact ⟨rfl, rfl, rfl, rfl, trivial, ⟨nxM_48, hT.next hk⟩, nxM_tkF⟩
theorem n_is {i : Nat} (hV : MW sh P) (hT : MTf I f m e) (hi : i < 19) : Ev X B mdX12_is 0 0 [.ref (B + 35), .ref (X.2.2.2.1 (mWi i))] nx sh I P (mDet (some (.int (bI (wAt f m e i)))) nx sh I P) := by
  obtain ⟨rfl, hT⟩ := hT
  exact e_X12_is hV hT hi
theorem n_kind (hV : MW sh P) (hT : MTf I f m e) : Ev X B mdX12_kindAtHand 0 0 [.ref (B + 35)] nx sh I P (mDet (some (.int (rkF (wAt f m e)))) nx sh I P) := by
  obtain ⟨rfl, hT⟩ := hT
  exact e_X12_kindAtHand hV hT
theorem n_number {lo hi : Int32} (hV : MW sh P) (hT : MTf I f m e) : EvX X B mdX12_number 0 0 [.ref (B + 35), .int lo, .int hi] nx sh I P (tkR (some (.int (tN f m e 0))) nx sh I P f m (tE f m e) (nF (tK f m e) (tN f m e 0) lo hi = 0)) (tkT B nx sh I P (nF (tK f m e) (tN f m e 0) lo hi) (tS f m e) (¬ nF (tK f m e) (tN f m e 0) lo hi = 0)) := by
  have hT0 := hT
  obtain ⟨rfl, hT⟩ := hT
  by_cases hf : nF (tK (I 48) m e) (tN (I 48) m e 0) lo hi = 0
  · refine EvX.ofR (Ev.weaken (e_X12_number hV hT hf) ?_)
    rintro _ _ _ _ _ ⟨rfl, rfl, rfl, rfl, rfl⟩
    have hk : ¬ tK (I 48) m e = 0 := by
      intro h
      rw [h, nF, if_neg (by decide)] at hf
      cases hf
    exact ⟨rfl, rfl, rfl, rfl, hf, ⟨nxM_48, hT.next hk⟩, nxM_tkF⟩
  · refine EvX.ofT (EvT.weaken (e_X12_numberT hV hT hf) ?_)
    rintro _ _ _ _ _ ⟨rfl, rfl, rfl, rfl, rfl⟩
    exact wrM_tkT hT0 hf
theorem n_need {i : Nat} (hV : MW sh P) (hT : MTf I f m e) (hi : i < 19) : EvX X B mdX12_need 0 0 [.ref (B + 35), .ref (X.2.2.2.1 (mWi i))] nx sh I P (tkR none nx sh I P f m (tE f m e) (wAt f m e i = true)) (tkT B nx sh I P 1 (tS f m e) (wAt f m e i = false)) := by
  have hT0 := hT
  obtain ⟨rfl, hT⟩ := hT
  cases hw : wAt (I 48) m e i with
  | true =>
    refine EvX.ofR (Ev.weaken (e_X12_need hV hT hi hw) ?_)
    rintro _ _ _ _ _ ⟨rfl, rfl, rfl, rfl, rfl⟩
    exact ⟨rfl, rfl, rfl, rfl, rfl, ⟨nxM_48, hT.next (wAt_k hw)⟩, nxM_tkF⟩
  | false =>
    refine EvX.ofT (EvT.weaken (e_X12_needT hV hT hi hw) ?_)
    rintro _ _ _ _ _ ⟨rfl, rfl, rfl, rfl, rfl⟩
    exact wrM_tkT hT0 rfl
end NR
