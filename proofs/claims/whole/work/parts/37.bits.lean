/-! ===== bits ===== -/
def bit (x : Int32) (j : Nat) : Bool := x.toBitVec.getLsbD j
theorem nI_31 {j : Nat} (h : j < 32) : nI j &&& 31 = nI j := by
  rw [pk_andN (by omega) 5 (by decide), Nat.mod_eq_of_lt (by omega)]
theorem nI_smod {j : Nat} (h : j < 32) : (nI j).toBitVec.smod 32 = BitVec.ofNat 32 j := by
  have : ∀ j : Fin 32, (nI j).toBitVec.smod 32 = BitVec.ofNat 32 j := by decide +kernel
  exact this ⟨j, h⟩
theorem and1_bit (x : Int32) : x &&& 1 = 1 ↔ bit x 0 = true := by
  have h : (x &&& 1).toBitVec = (BitVec.ofBool (x.toBitVec.getLsbD 0)).setWidth 32 := by
    rw [Int32.toBitVec_and]; exact BitVec.and_one_eq_setWidth_ofBool_getLsbD
  unfold bit
  rw [← Int32.toBitVec_inj, h]
  cases x.toBitVec.getLsbD 0 <;> decide
theorem shr_bit {x : Int32} {j : Nat} (h : j < 32) : (x >>> (nI j &&& 31)) &&& 1 = 1 ↔ bit x j = true := by
  rw [nI_31 h, and1_bit]
  unfold bit
  rw [Int32.toBitVec_shiftRight, nI_smod h]
  rw [BitVec.sshiftRight', BitVec.toNat_ofNat, Nat.mod_eq_of_lt (show j < 2 ^ 32 by omega), BitVec.getLsbD_sshiftRight]
  simp [h]
theorem bt_bit {j k : Nat} (h : j < 32) : bit (1 <<< (nI j &&& 31)) k = decide (k = j) := by
  rw [nI_31 h]
  unfold bit
  rw [Int32.toBitVec_shiftLeft, nI_smod h]
  rw [show (1 : Int32).toBitVec = 1#32 from rfl]
  by_cases hk : k = j
  · subst hk
    simp [BitVec.shiftLeft_eq', BitVec.getLsbD_shiftLeft, Nat.mod_eq_of_lt (show k < 4294967296 by omega), h]
  · by_cases hk2 : k < 32
    · simp [BitVec.shiftLeft_eq', BitVec.getLsbD_shiftLeft, Nat.mod_eq_of_lt (show j < 4294967296 by omega), hk, hk2, BitVec.getLsbD_one]
      omega
    · rw [BitVec.getLsbD_of_ge _ _ (by omega), decide_eq_false hk]
theorem or_bit {x y : Int32} {k : Nat} : bit (x ||| y) k = (bit x k || bit y k) := by
  unfold bit
  rw [Int32.toBitVec_or, BitVec.getLsbD_or]
theorem and_bit {x y : Int32} {k : Nat} : bit (x &&& y) k = (bit x k && bit y k) := by
  unfold bit
  rw [Int32.toBitVec_and, BitVec.getLsbD_and]
theorem bit_ext {x y : Int32} (h : ∀ j, j < 32 → bit x j = bit y j) : x = y := by
  apply Int32.toBitVec_inj.mp
  exact BitVec.eq_of_getLsbD_eq fun i hi => h i hi
theorem and_bt {x : Int32} {j : Nat} (h : j < 32) : x &&& (1 <<< (nI j &&& 31)) = 0 ↔ bit x j = false := by
  constructor
  · intro e
    have e2 : bit (x &&& (1 <<< (nI j &&& 31))) j = bit 0 j := by rw [e]
    rw [and_bit, bt_bit h, decide_eq_true rfl, Bool.and_true] at e2
    rw [e2]
    simp [bit]
  · intro e
    apply bit_ext
    intro k hk
    rw [and_bit, bt_bit h]
    by_cases hk2 : k = j
    · subst hk2; rw [e]; simp [bit]
    · rw [decide_eq_false hk2, Bool.and_false]; simp [bit]
/-! a number token is small -/
theorem runE_all {p : Int32 → Bool} {f : Nat → Int32} {m : Nat} : ∀ (z i : Nat), m - i < z → ∀ k, i ≤ k → k < runE p f m i → p (f k &&& 255) = true := by
  intro z
  induction z with
  | zero => intro i h; omega
  | succ z ih =>
    intro i hz k h1 h2
    by_cases hc : i < m ∧ p (f i &&& 255) = true
    · rw [runE_s hc.1 hc.2] at h2
      by_cases hk : k = i
      · rw [hk]; exact hc.2
      · exact ih (i + 1) (by omega) k (by omega) h2
    · rw [runE_n hc] at h2
      omega
theorem pD_dig {x : Int32} (h : pD x = true) : ∃ j, j ≤ 9 ∧ x = nI (48 + j) := by
  simp only [pD, Bool.and_eq_true, decide_eq_true_eq, i_le] at h
  have e1 : (48 : Int32).toInt = 48 := rfl
  have e2 : (57 : Int32).toInt = 57 := rfl
  refine ⟨(x.toInt - 48).toNat, by omega, ?_⟩
  apply Int32.toInt_inj.mp
  rw [nI_toInt (by omega)]
  omega
theorem numF_nat {f : Nat → Int32} {m s : Nat} : ∀ j, j ≤ 4 → (∀ k, k < j → ∃ d, d ≤ 9 ∧ tpB f m (s + k) = nI (48 + d)) → ∃ v, v < 10 ^ j ∧ numF f m s j = nI v := by
  intro j
  induction j with
  | zero => intro _ _; exact ⟨0, by decide, rfl⟩
  | succ j ih =>
    intro hj hd
    obtain ⟨v, hv, he⟩ := ih (by omega) (fun k hk => hd k (by omega))
    obtain ⟨d, hd1, hd2⟩ := hd j (by omega)
    refine ⟨v * 10 + d, by rw [Nat.pow_succ]; omega, ?_⟩
    have h10 : 10 ^ j ≤ 10 ^ 3 := Nat.pow_le_pow_right (by decide) (by omega)
    rw [numF, he, hd2, show (10 : Int32) = nI 10 from rfl, pk_mul, nI_add, show (48 : Int32) = nI 48 from rfl, pk_sub (by omega)]
    congr 1
    omega
theorem tN_nat {f : Nat → Int32} {m e : Nat} (he : e ≤ m) (h : tK f m e = 2) : ∃ v, v < 10000 ∧ tN f m e 0 = nI v := by
  have hD := tK2_D h
  have h0 : ¬ tK f m e = 0 := by rw [h]; decide
  have hb := tE_b (f := f) he h0
  have hv := tV_tN (x := 0) h
  rw [← hv, tV, if_neg h0, if_pos hD]
  have hlt : tS f m e < m := by omega
  have hL : pL (tC f m e) = false := by
    cases hl : pL (tC f m e) with
    | false => rfl
    | true => rw [pL_nD hl] at hD; cases hD
  have hE : tE f m e = runE pD f m (tS f m e) := by
    rw [tE, hL, hD]
    rw [runE_s hlt (by rw [← tpB_in hlt]; exact hD)]
    rfl
  obtain ⟨v, v1, v2⟩ := numF_nat (f := f) (m := m) (s := tS f m e) (min 4 (tE f m e - tS f m e)) (by omega) (fun k hk => by
    rw [tpB_in (by omega)]
    exact pD_dig (runE_all (p := pD) (f := f) (m := m) (m + 1) (tS f m e) (by omega) (tS f m e + k) (by omega) (by rw [← hE]; omega)))
  have : 10 ^ min 4 (tE f m e - tS f m e) ≤ 10 ^ 4 := Nat.pow_le_pow_right (by decide) (by omega)
  exact ⟨v, by omega, v2⟩
