/-! ===== the reference's tokens ===== -/
/-- the four registers of its scan -/
def mc4 (I : mI) (a b h v : Int32) : mI := fun c k => if c = 35 then (if k = 16 then a else if k = 17 then b else if k = 18 then h else if k = 19 then v else I c k) else I c k
section C4
variable {I : mI} {a b h v x : Int32} {c k : Nat}
theorem mc4_u16 : mUp (mc4 I a b h v) 35 16 x = mc4 I x b h v := by
  funext c k
  by_cases h1 : c = 35 <;> by_cases h2 : k = 16 <;> simp [mUp, mc4, h1, h2]
theorem mc4_u17 : mUp (mc4 I a b h v) 35 17 x = mc4 I a x h v := by
  funext c k
  by_cases h1 : c = 35 <;> by_cases h2 : k = 17 <;> simp [mUp, mc4, h1, h2]
theorem mc4_u18 : mUp (mc4 I a b h v) 35 18 x = mc4 I a b x v := by
  funext c k
  by_cases h1 : c = 35 <;> by_cases h2 : k = 18 <;> simp [mUp, mc4, h1, h2]
theorem mc4_u19 : mUp (mc4 I a b h v) 35 19 x = mc4 I a b h x := by
  funext c k
  by_cases h1 : c = 35 <;> by_cases h2 : k = 19 <;> simp [mUp, mc4, h1, h2]
theorem mc4_16 : mc4 I a b h v 35 16 = a := rfl
theorem mc4_17 : mc4 I a b h v 35 17 = b := rfl
theorem mc4_18 : mc4 I a b h v 35 18 = h := rfl
theorem mc4_19 : mc4 I a b h v 35 19 = v := rfl
theorem mc4_c (h1 : c ≠ 35) : mc4 I a b h v c k = I c k := if_neg h1
theorem mc4_k (h1 : k < 16 ∨ 19 < k) : mc4 I a b h v c k = I c k := by
  unfold mc4
  split
  · rw [if_neg (by omega), if_neg (by omega), if_neg (by omega), if_neg (by omega)]
  · rfl
theorem mc4_self : I = mc4 I (I 35 16) (I 35 17) (I 35 18) (I 35 19) := by
  funext c k
  unfold mc4
  by_cases h1 : c = 35
  · subst h1
    by_cases e1 : k = 16
    · subst e1; rfl
    · by_cases e2 : k = 17
      · subst e2; rfl
      · by_cases e3 : k = 18
        · subst e3; rfl
        · by_cases e4 : k = 19
          · subst e4; rfl
          · simp [e1, e2, e3, e4]
  · simp [h1]
end C4
/-- a byte, as baload gives it -/
def isByte (x : Int32) : Prop := -128 ≤ x.toInt ∧ x.toInt ≤ 127
theorem byte_eq {x : Int32} {n : Nat} (hb : isByte x) (hn : n < 128) : x &&& 255 = nI n ↔ x = nI n := by
  have h1 := and255 x
  constructor
  · intro h
    apply Int32.toBitVec_inj.mp
    have h2 := congrArg Int32.toBitVec h
    have h3 : (nI n).toBitVec = BitVec.ofNat 32 n := by rfl
    have hx : x.toBitVec.toInt = x.toInt := rfl
    obtain ⟨b1, b2⟩ := hb
    rw [← hx] at b1 b2
    rw [h3] at h2 ⊢
    have h4 : (x &&& 255).toBitVec = x.toBitVec &&& 255#32 := rfl
    rw [h4] at h2
    generalize x.toBitVec = y at *
    have h5 := congrArg BitVec.toNat h2
    rw [BitVec.toNat_and, BitVec.toNat_ofNat, BitVec.toNat_ofNat, show 255 % 2 ^ 32 = 2 ^ 8 - 1 by decide, Nat.and_two_pow_sub_one_eq_mod, Nat.mod_eq_of_lt (show n < 2 ^ 32 by omega)] at h5
    apply BitVec.eq_of_toNat_eq
    rw [BitVec.toNat_ofNat, Nat.mod_eq_of_lt (show n < 2 ^ 32 by omega)]
    rw [BitVec.toInt_eq_toNat_cond] at b1 b2
    have := y.isLt
    split at b1 <;> omega
  · intro h
    rw [h]
    apply Int32.toBitVec_inj.mp
    show (nI n).toBitVec &&& 255#32 = (nI n).toBitVec
    have h3 : (nI n).toBitVec = BitVec.ofNat 32 n := by rfl
    rw [h3]
    apply BitVec.eq_of_toNat_eq
    rw [BitVec.toNat_and, BitVec.toNat_ofNat, BitVec.toNat_ofNat, show 255 % 2 ^ 32 = 2 ^ 8 - 1 by decide, Nat.and_two_pow_sub_one_eq_mod]
    omega
theorem pB_raw {x : Int32} (hb : isByte x) : pB (x &&& 255) = (decide (x = 32) || decide (x = 10)) := by
  unfold pB
  have e1 : decide (x &&& 255 = 32) = decide (x = 32) := decide_eq_decide.mpr (byte_eq (n := 32) hb (by decide))
  have e2 : decide (x &&& 255 = 10) = decide (x = 10) := decide_eq_decide.mpr (byte_eq (n := 10) hb (by decide))
  rw [e1, e2]
def mE (f : Nat → Int32) (m e : Nat) : Nat := if tK f m e = 0 then tS f m e else tE f m e
def tV (f : Nat → Int32) (m e : Nat) (old : Int32) : Int32 := if tK f m e = 0 then old else if pD (tC f m e) = true then numF f m (tS f m e) (min 4 (tE f m e - tS f m e)) else old
theorem t0B_in {f : Nat → Int32} {m i : Nat} (h : i < m) : t0B f m i = f i &&& 255 := by rw [t0B, if_pos h]
theorem t0B_out {f : Nat → Int32} {m i : Nat} (h : ¬ i < m) : t0B f m i = 0 := by rw [t0B, if_neg h]
theorem pL0 : pL 0 = false := by decide
theorem pD0 : pD 0 = false := by decide
section MS
variable {X : mX} {B nx : Nat} {sh : Nat → Option mSh} {I : mI} {P : mP} {m : Nat}
theorem l2_X12_scan {G : mG} {h v : Int32} {s E : Nat} {c1 : Int32} {Po : mPo} (hV : MW sh P) (hm : I 35 15 = nI m) (hm8 : m ≤ 800) (hM : mM X B "scan" none 1 21 0 0 Po G) (hp : Po none nx sh (mc4 I (nI s) (nI E) 1 v) P) : ∀ (z i : Nat), i ≤ m → m - i < z → runE pL (I 48) m i = E → V X B RX12 cX12_scan G 0 0 nx sh (mc4 I (nI s) (nI i) h v) P 95 [some (.ref (B + 35)), some (.int c1)] [] := by
  have s35 : sh 35 = some (.inl 12) := hV.1 35 _ rfl
  have s_tape : sh 48 = some (.inr (1, 800)) := hV.1 48 _ rfl
  have p_tape : P 35 13 = some 48 := hV.2 13 48 rfl
  have hm' : ∀ a b h v, mc4 I a b h v 35 15 = nI m := fun a b h v => by rw [mc4_k (by omega)]; exact hm
  have hf : ∀ a b h v, mc4 I a b h v 48 = I 48 := fun a b h v => funext fun k => mc4_c (by decide)
  intro z
  induction z with
  | zero => intro i _ h; omega
  | succ z ih =>
    intro i hi hz he
    refine V_aln dX12_scan_95 rfl ?_
    refine V_aln dX12_scan_96 rfl ?_
    refine V_getIv dX12_scan_97 flX12_30 (by assumption) rfl (mc4_17) ?_
    refine V_cV1d hM cvX12_33 (by assumption) rfl (e_X12_byteAt hV (hm' _ _ _ _) hm8 (by omega)) ⟨Nat.le_of_ble_eq_true rfl, Nat.le_of_ble_eq_true rfl, Nat.le_of_ble_eq_true rfl, Nat.le_of_ble_eq_true rfl⟩ (Nat.le_of_ble_eq_true rfl) dX12_scan_100 ?_
    rw [hf]
    refine V_cS1d hM cvX12_40 (e_X12_isLetter) ⟨Nat.le_of_ble_eq_true rfl, Nat.le_of_ble_eq_true rfl, Nat.le_of_ble_eq_true rfl, Nat.le_of_ble_eq_true rfl⟩ (Nat.le_of_ble_eq_true rfl) dX12_scan_103 ?_
    refine V_ifeq_b (tgt := 122) dX12_scan_106 rfl (fun c106 => ?_) (fun c106 => ?_)
    · have hE : i = E := by
        rw [← he, runE_n]
        rintro ⟨h1, h2⟩
        rw [t0B_in h1, h2] at c106
        cases c106
      subst hE
      refine V_aln dX12_scan_122 rfl ?_
      refine V_iconst (v := 1) rfl dX12_scan_123 ?_
      refine V_putI dX12_scan_124 flX12_37 (by assumption) rfl rfl ?_
      refine V_goto (tgt := 255) dX12_scan_127 rfl ?_
      rw [mc4_u18]
      exact V_vret hM dX12_scan_255 (hp)
    · have him : i < m := by
        rcases Nat.lt_or_ge i m with h | h
        · exact h
        · rw [t0B_out (by omega), pL0] at c106; cases c106
      rw [t0B_in him] at c106
      refine V_aln dX12_scan_109 rfl ?_
      refine V_dup rfl dX12_scan_110 ?_
      refine V_getIv dX12_scan_111 flX12_30 (by assumption) rfl (mc4_17) ?_
      refine V_iconst (v := 1) rfl dX12_scan_114 ?_
      refine V_iadd dX12_scan_115 ?_
      refine V_top (nI_inc' i) ?_
      refine V_putI dX12_scan_116 flX12_30 (by assumption) rfl rfl ?_
      refine V_goto (tgt := 95) dX12_scan_119 rfl ?_
      rw [mc4_u17]
      exact ih (i + 1) (by omega) (by omega) (by rw [← runE_s him c106]; exact he)
theorem l3_X12_scan {G : mG} {h : Int32} {s E : Nat} {c1 : Int32} {Po : mPo} (hV : MW sh P) (hm : I 35 15 = nI m) (hm8 : m ≤ 800) (hM : mM X B "scan" none 1 21 0 0 Po G) (hp : Po none nx sh (mc4 I (nI s) (nI E) (if E - s ≤ 4 then 2 else 4) (numF (I 48) m s (min 4 (E - s)))) P) : ∀ (z j : Nat), s + j ≤ m → m - (s + j) < z → runE pD (I 48) m (s + j) = E → V X B RX12 cX12_scan G 0 0 nx sh (mc4 I (nI s) (nI (s + j)) h (numF (I 48) m s (min 4 j))) P 142 [some (.ref (B + 35)), some (.int c1)] [] := by
  have s35 : sh 35 = some (.inl 12) := hV.1 35 _ rfl
  have s_tape : sh 48 = some (.inr (1, 800)) := hV.1 48 _ rfl
  have p_tape : P 35 13 = some 48 := hV.2 13 48 rfl
  have hm' : ∀ a b h v, mc4 I a b h v 35 15 = nI m := fun a b h v => by rw [mc4_k (by omega)]; exact hm
  have hf : ∀ a b h v, mc4 I a b h v 48 = I 48 := fun a b h v => funext fun k => mc4_c (by decide)
  intro z
  induction z with
  | zero => intro i _ h; omega
  | succ z ih =>
    intro j hi hz he
    refine V_aln dX12_scan_142 rfl ?_
    refine V_aln dX12_scan_143 rfl ?_
    refine V_getIv dX12_scan_144 flX12_30 (by assumption) rfl (mc4_17) ?_
    refine V_cV1d hM cvX12_33 (by assumption) rfl (e_X12_byteAt hV (hm' _ _ _ _) hm8 (by omega)) ⟨Nat.le_of_ble_eq_true rfl, Nat.le_of_ble_eq_true rfl, Nat.le_of_ble_eq_true rfl, Nat.le_of_ble_eq_true rfl⟩ (Nat.le_of_ble_eq_true rfl) dX12_scan_147 ?_
    rw [hf]
    refine V_cS1d hM cvX12_44 (e_X12_isDigit) ⟨Nat.le_of_ble_eq_true rfl, Nat.le_of_ble_eq_true rfl, Nat.le_of_ble_eq_true rfl, Nat.le_of_ble_eq_true rfl⟩ (Nat.le_of_ble_eq_true rfl) dX12_scan_150 ?_
    refine V_ifeq_b (tgt := 205) dX12_scan_153 rfl (fun c153 => ?_) (fun c153 => ?_)
    · have hE : s + j = E := by
        rw [← he, runE_n]
        rintro ⟨h1, h2⟩
        rw [t0B_in h1, h2] at c153
        cases c153
      have hj : E - s = j := by omega
      refine V_aln dX12_scan_205 rfl ?_
      refine V_aln dX12_scan_206 rfl ?_
      refine V_getIv dX12_scan_207 flX12_30 (by assumption) rfl (mc4_17) ?_
      refine V_aln dX12_scan_210 rfl ?_
      refine V_getIv dX12_scan_211 flX12_13 (by assumption) rfl (mc4_16) ?_
      refine V_isub dX12_scan_214 ?_
      refine V_top (show nI (s + j) - nI s = nI j from (pk_sub (by omega)).trans (by congr 1; omega)) ?_
      refine V_iconst (v := 4) rfl dX12_scan_215 ?_
      refine V_icmp_le (tgt := 223) dX12_scan_216 rfl (fun c216 => ?_) (fun c216 => ?_)
      · have c216 := nN_le (b := 4) c216 (by omega) (by omega)
        refine V_iconst (v := 2) rfl dX12_scan_223 ?_
        refine V_putI dX12_scan_224 flX12_37 (by assumption) rfl rfl ?_
        refine V_goto (tgt := 255) dX12_scan_227 rfl ?_
        rw [mc4_u18]
        exact V_vret hM dX12_scan_255 (by have hp2 := hp; rw [hj, ← hE] at hp2; first | (rw [if_pos c216] at hp2; exact hp2) | (rw [if_neg (by omega)] at hp2; exact hp2))
      · have c216 := nN_nle (b := 4) c216 (by omega) (by omega)
        refine V_iconst (v := 4) rfl dX12_scan_219 ?_
        refine V_goto (tgt := 224) dX12_scan_220 rfl ?_
        refine V_putI dX12_scan_224 flX12_37 (by assumption) rfl rfl ?_
        refine V_goto (tgt := 255) dX12_scan_227 rfl ?_
        rw [mc4_u18]
        exact V_vret hM dX12_scan_255 (by have hp2 := hp; rw [hj, ← hE] at hp2; first | (rw [if_pos c216] at hp2; exact hp2) | (rw [if_neg (by omega)] at hp2; exact hp2))
    · have him : s + j < m := by
        rcases Nat.lt_or_ge (s + j) m with h | h
        · exact h
        · rw [t0B_out (by omega), pD0] at c153; cases c153
      rw [t0B_in him] at c153
      refine V_aln dX12_scan_156 rfl ?_
      refine V_getIv dX12_scan_157 flX12_30 (by assumption) rfl (mc4_17) ?_
      refine V_aln dX12_scan_160 rfl ?_
      refine V_getIv dX12_scan_161 flX12_13 (by assumption) rfl (mc4_16) ?_
      refine V_isub dX12_scan_164 ?_
      refine V_top (show nI (s + j) - nI s = nI j from (pk_sub (by omega)).trans (by congr 1; omega)) ?_
      refine V_iconst (v := 4) rfl dX12_scan_165 ?_
      refine V_icmp_ge (tgt := 192) dX12_scan_166 rfl (fun c166 => ?_) (fun c166 => ?_)
      · have c166 := nN_le (a := 4) c166 (by omega) (by omega)
        have e4 : min 4 (j + 1) = min 4 j := by omega
        try rw [mc4_u19]
        refine V_aln dX12_scan_192 rfl ?_
        refine V_dup rfl dX12_scan_193 ?_
        refine V_getIv dX12_scan_194 flX12_30 (by assumption) rfl (mc4_17) ?_
        refine V_iconst (v := 1) rfl dX12_scan_197 ?_
        refine V_iadd dX12_scan_198 ?_
        refine V_top (nI_inc' (s + j)) ?_
        refine V_putI dX12_scan_199 flX12_30 (by assumption) rfl rfl ?_
        refine V_goto (tgt := 142) dX12_scan_202 rfl ?_
        rw [mc4_u17]
        try rw [← e4]
        exact ih (j + 1) (by omega) (by omega) (by rw [← Nat.add_assoc, ← runE_s him c153]; exact he)
      · have c166 := nN_nle (a := 4) c166 (by omega) (by omega)
        have e5 : min 4 j = j := by omega
        have e6 : min 4 (j + 1) = j + 1 := by omega
        refine V_aln dX12_scan_169 rfl ?_
        refine V_bipush (v := 10) rfl dX12_scan_170 ?_
        refine V_aln dX12_scan_172 rfl ?_
        refine V_getIv dX12_scan_173 flX12_47 (by assumption) rfl (mc4_19) ?_
        refine V_imul dX12_scan_176 ?_
        refine V_aln dX12_scan_177 rfl ?_
        refine V_aln dX12_scan_178 rfl ?_
        refine V_getIv dX12_scan_179 flX12_30 (by assumption) rfl (mc4_17) ?_
        refine V_cV1d hM cvX12_33 (by assumption) rfl (e_X12_byteAt hV (hm' _ _ _ _) hm8 (by omega)) ⟨Nat.le_of_ble_eq_true rfl, Nat.le_of_ble_eq_true rfl, Nat.le_of_ble_eq_true rfl, Nat.le_of_ble_eq_true rfl⟩ (Nat.le_of_ble_eq_true rfl) dX12_scan_182 ?_
        rw [hf]
        refine V_iadd dX12_scan_185 ?_
        refine V_bipush (v := 48) rfl dX12_scan_186 ?_
        refine V_isub dX12_scan_188 ?_
        refine V_top (show 10 * numF (I 48) m s (min 4 j) + t0B (I 48) m (s + j) - 48 = numF (I 48) m s (min 4 (j + 1)) by rw [e5, e6, t0B_in him, numF, tpB_in him, Int32.mul_comm]) ?_
        refine V_putI dX12_scan_189 flX12_47 (by assumption) rfl rfl ?_
        try rw [mc4_u19]
        refine V_aln dX12_scan_192 rfl ?_
        refine V_dup rfl dX12_scan_193 ?_
        refine V_getIv dX12_scan_194 flX12_30 (by assumption) rfl (mc4_17) ?_
        refine V_iconst (v := 1) rfl dX12_scan_197 ?_
        refine V_iadd dX12_scan_198 ?_
        refine V_top (nI_inc' (s + j)) ?_
        refine V_putI dX12_scan_199 flX12_30 (by assumption) rfl rfl ?_
        refine V_goto (tgt := 142) dX12_scan_202 rfl ?_
        rw [mc4_u17]
        try rw [← e4]
        exact ih (j + 1) (by omega) (by omega) (by rw [← Nat.add_assoc, ← runE_s him c153]; exact he)
theorem l1_X12_scan {G : mG} {a h v : Int32} {e0 : Nat} (hV : MW sh P) (hm : I 35 15 = nI m) (hm8 : m ≤ 800) (hby : ∀ k, isByte (I 48 k)) (hM : mM X B "scan" none 1 21 0 0 (mDet none nx sh (mc4 I (nI (tS (I 48) m e0)) (nI (mE (I 48) m e0)) (tK (I 48) m e0) (tV (I 48) m e0 v)) P) G) : ∀ (z i : Nat), i ≤ m → m - i < z → runE pB (I 48) m i = tS (I 48) m e0 → V X B RX12 cX12_scan G 0 0 nx sh (mc4 I a (nI i) h v) P 0 [some (.ref (B + 35)), none] [] := by
  have s35 : sh 35 = some (.inl 12) := hV.1 35 _ rfl
  have s_tape : sh 48 = some (.inr (1, 800)) := hV.1 48 _ rfl
  have p_tape : P 35 13 = some 48 := hV.2 13 48 rfl
  have hm' : ∀ a b h v, mc4 I a b h v 35 15 = nI m := fun a b h v => by rw [mc4_k (by omega)]; exact hm
  have hf : ∀ a b h v, mc4 I a b h v 48 = I 48 := fun a b h v => funext fun k => mc4_c (by decide)
  intro z
  induction z with
  | zero => intro i _ h; omega
  | succ z ih =>
    intro i hi hz he
    have tail : i = tS (I 48) m e0 → V X B RX12 cX12_scan G 0 0 nx sh (mc4 I a (nI i) h v) P 52 [some (.ref (B + 35)), none] [] := by
      intro e2
      by_cases him : i < m
      · have eC : t0B (I 48) m i = tC (I 48) m e0 := by rw [tC, ← e2, t0B_in him, tpB_in him]
        have hn1 : ¬ tC (I 48) m e0 = -1 := by rw [tC, ← e2, tpB_in him]; exact and255_n _
        have hne : ¬ tK (I 48) m e0 = 0 := by
          unfold tK
          rw [if_neg hn1]
          split
          · decide
          · split
            · split <;> decide
            · split <;> decide
        have eE : mE (I 48) m e0 = tE (I 48) m e0 := by rw [mE, if_neg hne]
        refine V_aln dX12_scan_52 rfl ?_
        refine V_aln dX12_scan_53 rfl ?_
        refine V_getIv dX12_scan_54 flX12_30 (by assumption) rfl (mc4_17) ?_
        refine V_putI dX12_scan_57 flX12_13 (by assumption) rfl rfl ?_
        rw [mc4_u16]
        refine V_aln dX12_scan_60 rfl ?_
        refine V_aln dX12_scan_61 rfl ?_
        refine V_getIv dX12_scan_62 flX12_13 (by assumption) rfl (mc4_16) ?_
        refine V_cV1d hM cvX12_33 (by assumption) rfl (e_X12_byteAt hV (hm' _ _ _ _) hm8 (by omega)) ⟨Nat.le_of_ble_eq_true rfl, Nat.le_of_ble_eq_true rfl, Nat.le_of_ble_eq_true rfl, Nat.le_of_ble_eq_true rfl⟩ (Nat.le_of_ble_eq_true rfl) dX12_scan_65 ?_
        rw [hf, eC]
        refine V_is1 dX12_scan_68 ?_
        refine V_aln dX12_scan_69 rfl ?_
        refine V_getIv dX12_scan_70 flX12_13 (by assumption) rfl (mc4_16) ?_
        refine V_aln dX12_scan_73 rfl ?_
        refine V_getIv dX12_scan_74 flX12_23 (by assumption) rfl (hm' _ _ _ _) ?_
        refine V_icmp_ne (tgt := 88) dX12_scan_77 rfl (fun c77 => ?_) (fun c77 => ?_)
        · refine V_iln dX12_scan_88 rfl ?_
          refine V_cS1d hM cvX12_40 (e_X12_isLetter) ⟨Nat.le_of_ble_eq_true rfl, Nat.le_of_ble_eq_true rfl, Nat.le_of_ble_eq_true rfl, Nat.le_of_ble_eq_true rfl⟩ (Nat.le_of_ble_eq_true rfl) dX12_scan_89 ?_
          refine V_ifeq_b (tgt := 130) dX12_scan_92 rfl (fun c92 => ?_) (fun c92 => ?_)
          · refine V_iln dX12_scan_130 rfl ?_
            refine V_cS1d hM cvX12_44 (e_X12_isDigit) ⟨Nat.le_of_ble_eq_true rfl, Nat.le_of_ble_eq_true rfl, Nat.le_of_ble_eq_true rfl, Nat.le_of_ble_eq_true rfl⟩ (Nat.le_of_ble_eq_true rfl) dX12_scan_131 ?_
            refine V_ifeq_b (tgt := 230) dX12_scan_134 rfl (fun c134 => ?_) (fun c134 => ?_)
            · refine V_aln dX12_scan_230 rfl ?_
              refine V_iln dX12_scan_231 rfl ?_
              refine V_bipush (v := 59) rfl dX12_scan_232 ?_
              refine V_icmp_ne (tgt := 241) dX12_scan_234 rfl (fun c234 => ?_) (fun c234 => ?_)
              · refine V_iconst (v := 4) rfl dX12_scan_241 ?_
                refine V_putI dX12_scan_242 flX12_37 (by assumption) rfl rfl ?_
                rw [mc4_u18]
                refine V_aln dX12_scan_245 rfl ?_
                refine V_dup rfl dX12_scan_246 ?_
                refine V_getIv dX12_scan_247 flX12_30 (by assumption) rfl (mc4_17) ?_
                refine V_iconst (v := 1) rfl dX12_scan_250 ?_
                refine V_iadd dX12_scan_251 ?_
                refine V_top (nI_inc' i) ?_
                refine V_putI dX12_scan_252 flX12_30 (by assumption) rfl rfl ?_
                rw [mc4_u17]
                exact V_vret hM dX12_scan_255 (⟨rfl, rfl, rfl, by rw [eE, tV, if_neg hne, if_neg (by rw [c134]; decide), tE, if_neg (by rw [c92]; decide), if_neg (by rw [c134]; decide), tK, if_neg hn1, if_neg (by rw [c92]; decide), if_neg (by rw [c134]; decide), ← e2]; first | rw [if_pos c234] | rw [if_neg c234], rfl⟩)
              · refine V_iconst (v := 3) rfl dX12_scan_237 ?_
                refine V_goto (tgt := 242) dX12_scan_238 rfl ?_
                refine V_putI dX12_scan_242 flX12_37 (by assumption) rfl rfl ?_
                rw [mc4_u18]
                refine V_aln dX12_scan_245 rfl ?_
                refine V_dup rfl dX12_scan_246 ?_
                refine V_getIv dX12_scan_247 flX12_30 (by assumption) rfl (mc4_17) ?_
                refine V_iconst (v := 1) rfl dX12_scan_250 ?_
                refine V_iadd dX12_scan_251 ?_
                refine V_top (nI_inc' i) ?_
                refine V_putI dX12_scan_252 flX12_30 (by assumption) rfl rfl ?_
                rw [mc4_u17]
                exact V_vret hM dX12_scan_255 (⟨rfl, rfl, rfl, by rw [eE, tV, if_neg hne, if_neg (by rw [c134]; decide), tE, if_neg (by rw [c92]; decide), if_neg (by rw [c134]; decide), tK, if_neg hn1, if_neg (by rw [c92]; decide), if_neg (by rw [c134]; decide), ← e2]; first | rw [if_pos c234] | rw [if_neg c234], rfl⟩)
            · refine V_aln dX12_scan_137 rfl ?_
              refine V_iconst (v := 0) rfl dX12_scan_138 ?_
              refine V_putI dX12_scan_139 flX12_47 (by assumption) rfl rfl ?_
              rw [mc4_u19]
              have eK : tK (I 48) m e0 = if tE (I 48) m e0 - tS (I 48) m e0 ≤ 4 then 2 else 4 := by
                unfold tK
                rw [if_neg hn1, c92, c134]
                rfl
              exact l3_X12_scan hV hm hm8 hM (s := i) (E := tE (I 48) m e0) ⟨rfl, rfl, rfl, by rw [eE, e2, eK, tV, if_neg hne, if_pos c134], rfl⟩ (m + 1) 0 hi (by omega) (by rw [tE, if_neg (by rw [c92]; decide), if_pos c134, ← e2, Nat.add_zero, runE_s him (by rw [← t0B_in him, eC]; exact c134)])
          · exact l2_X12_scan hV hm hm8 hM (s := i) (E := tE (I 48) m e0) ⟨rfl, rfl, rfl, by rw [eE, e2, tK, if_neg hn1, if_pos c92, tV, if_neg hne, if_neg (by rw [pL_nD c92]; decide)], rfl⟩ (m + 1) i hi (by omega) (by rw [tE, if_pos c92, ← e2, runE_s him (by rw [← t0B_in him, eC]; exact c92)])
        · exfalso
          have c77 : nI i = nI m := by first | exact c77 | exact Classical.not_not.mp c77
          have := nI_eqN (by omega) (by omega) c77
          omega --done
      · have hK0 : tK (I 48) m e0 = 0 := by rw [tK, if_pos (by rw [tC, ← e2, tpB_out him])]
        have eim : i = m := by omega
        refine V_aln dX12_scan_52 rfl ?_
        refine V_aln dX12_scan_53 rfl ?_
        refine V_getIv dX12_scan_54 flX12_30 (by assumption) rfl (mc4_17) ?_
        refine V_putI dX12_scan_57 flX12_13 (by assumption) rfl rfl ?_
        rw [mc4_u16]
        refine V_aln dX12_scan_60 rfl ?_
        refine V_aln dX12_scan_61 rfl ?_
        refine V_getIv dX12_scan_62 flX12_13 (by assumption) rfl (mc4_16) ?_
        refine V_cV1d hM cvX12_33 (by assumption) rfl (e_X12_byteAt hV (hm' _ _ _ _) hm8 (by omega)) ⟨Nat.le_of_ble_eq_true rfl, Nat.le_of_ble_eq_true rfl, Nat.le_of_ble_eq_true rfl, Nat.le_of_ble_eq_true rfl⟩ (Nat.le_of_ble_eq_true rfl) dX12_scan_65 ?_
        refine V_is1 dX12_scan_68 ?_
        refine V_aln dX12_scan_69 rfl ?_
        refine V_getIv dX12_scan_70 flX12_13 (by assumption) rfl (mc4_16) ?_
        refine V_aln dX12_scan_73 rfl ?_
        refine V_getIv dX12_scan_74 flX12_23 (by assumption) rfl (hm' _ _ _ _) ?_
        refine V_icmp_ne (tgt := 88) dX12_scan_77 rfl (fun c77 => ?_) (fun c77 => ?_)
        · exact absurd (by rw [eim]) c77 --done
        · refine V_aln dX12_scan_80 rfl ?_
          refine V_iconst (v := 0) rfl dX12_scan_81 ?_
          refine V_putI dX12_scan_82 flX12_37 (by assumption) rfl rfl ?_
          refine V_goto (tgt := 255) dX12_scan_85 rfl ?_
          rw [mc4_u18]
          exact V_vret hM dX12_scan_255 (⟨rfl, rfl, rfl, by rw [hK0, mE, if_pos hK0, tV, if_pos hK0, e2], rfl⟩)
    refine V_aln dX12_scan_0 rfl ?_
    refine V_getIv dX12_scan_1 flX12_30 (by assumption) rfl (mc4_17) ?_
    refine V_aln dX12_scan_4 rfl ?_
    refine V_getIv dX12_scan_5 flX12_23 (by assumption) rfl (hm' _ _ _ _) ?_
    refine V_icmp_ge (tgt := 52) dX12_scan_8 rfl (fun c8 => ?_) (fun c8 => ?_)
    · have c8 := nN_le c8 (by omega) (by omega)
      exact tail (by rw [← he, runE_n (by omega)]) --done
    · have c8 := nN_nle c8 (by omega) (by omega)
      have hb := pB_raw (hby i)
      refine V_aln dX12_scan_11 rfl ?_
      refine V_getR dX12_scan_12 flX12_26 (by assumption) rfl (by assumption) ?_
      refine V_aln dX12_scan_15 rfl ?_
      refine V_getIv dX12_scan_16 flX12_30 (by assumption) rfl (mc4_17) ?_
      refine V_baldN dX12_scan_19 (by assumption) (by omega) (by omega) ?_
      refine V_bipush (v := 32) rfl dX12_scan_20 ?_
      refine V_icmp_eq (tgt := 39) dX12_scan_22 rfl (fun c22 => ?_) (fun c22 => ?_)
      · have c22 : I 48 i = 32 := by rw [mc4_c (by decide)] at c22; exact c22
        have hbt : pB (I 48 i &&& 255) = true := by rw [hb, decide_eq_true c22]; rfl
        refine V_aln dX12_scan_39 rfl ?_
        refine V_dup rfl dX12_scan_40 ?_
        refine V_getIv dX12_scan_41 flX12_30 (by assumption) rfl (mc4_17) ?_
        refine V_iconst (v := 1) rfl dX12_scan_44 ?_
        refine V_iadd dX12_scan_45 ?_
        refine V_top (nI_inc' i) ?_
        refine V_putI dX12_scan_46 flX12_30 (by assumption) rfl rfl ?_
        refine V_goto (tgt := 0) dX12_scan_49 rfl ?_
        rw [mc4_u17]
        exact ih (i + 1) (by omega) (by omega) (by rw [← runE_s c8 hbt]; exact he)
      · have c22 : ¬ I 48 i = 32 := by rw [mc4_c (by decide)] at c22; exact c22
        refine V_aln dX12_scan_25 rfl ?_
        refine V_getR dX12_scan_26 flX12_26 (by assumption) rfl (by assumption) ?_
        refine V_aln dX12_scan_29 rfl ?_
        refine V_getIv dX12_scan_30 flX12_30 (by assumption) rfl (mc4_17) ?_
        refine V_baldN dX12_scan_33 (by assumption) (by omega) (by omega) ?_
        refine V_bipush (v := 10) rfl dX12_scan_34 ?_
        refine V_icmp_ne (tgt := 52) dX12_scan_36 rfl (fun c36 => ?_) (fun c36 => ?_)
        · have c36 : ¬ I 48 i = 10 := by rw [mc4_c (by decide)] at c36; exact c36
          exact tail (by rw [← he, runE_n]; rintro ⟨-, h2⟩; rw [hb, decide_eq_false c22, decide_eq_false c36] at h2; cases h2) --done
        · have hbt : pB (I 48 i &&& 255) = true := by
            have c36 : I 48 i = 10 := by rw [mc4_c (by decide)] at c36; first | exact c36 | exact Classical.not_not.mp c36
            rw [hb, decide_eq_true c36, Bool.or_true]
          refine V_aln dX12_scan_39 rfl ?_
          refine V_dup rfl dX12_scan_40 ?_
          refine V_getIv dX12_scan_41 flX12_30 (by assumption) rfl (mc4_17) ?_
          refine V_iconst (v := 1) rfl dX12_scan_44 ?_
          refine V_iadd dX12_scan_45 ?_
          refine V_top (nI_inc' i) ?_
          refine V_putI dX12_scan_46 flX12_30 (by assumption) rfl rfl ?_
          refine V_goto (tgt := 0) dX12_scan_49 rfl ?_
          rw [mc4_u17]
          exact ih (i + 1) (by omega) (by omega) (by rw [← runE_s c8 hbt]; exact he)
theorem e_X12_scan {e : Nat} (hV : MW sh P) (hm : I 35 15 = nI m) (hm8 : m ≤ 800) (hby : ∀ k, isByte (I 48 k)) (he : e ≤ m) (h17 : I 35 17 = nI e) : Ev X B mdX12_scan 0 0 [.ref (B + 35)] nx sh I P (mDet none nx sh (mc4 I (nI (tS (I 48) m e)) (nI (mE (I 48) m e)) (tK (I 48) m e) (tV (I 48) m e (I 35 19))) P) := by
  refine Ev.of (by decide) (by simp [Value.category]) (by simp) (fun G hM => ?_)
  have hM : mM X B "scan" none 1 21 0 0 _ G := hM
  show V X B RX12 cX12_scan G 0 0 nx sh I P 0 [some (.ref (B + 35)), none] []
  refine V_mem (I' := mc4 I (I 35 16) (nI e) (I 35 18) (I 35 19)) (fun c k => by rw [← h17, ← mc4_self]) (fun _ _ => rfl) ?_
  exact l1_X12_scan hV hm hm8 hby hM (m + 1) e he (by omega) rfl
end MS
