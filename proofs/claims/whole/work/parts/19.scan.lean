/-! ===== the reader: tokens ===== -/
def pB (b : Int32) : Bool := decide (b = 32) || decide (b = 10)
def pL (b : Int32) : Bool := decide (97 ≤ b) && decide (b ≤ 122)
def pD (b : Int32) : Bool := decide (48 ≤ b) && decide (b ≤ 57)
def runF (p : Int32 → Bool) (f : Nat → Int32) (m : Nat) : Nat → Nat → Nat
  | 0, i => i
  | k + 1, i => if i < m ∧ p (f i &&& 255) = true then runF p f m k (i + 1) else i
/-- the first place from i on that isn't of the kind -/
def runE (p : Int32 → Bool) (f : Nat → Int32) (m i : Nat) : Nat := runF p f m (m - i) i
theorem runE_s {p : Int32 → Bool} {f : Nat → Int32} {m i : Nat} (h : i < m) (hp : p (f i &&& 255) = true) : runE p f m i = runE p f m (i + 1) := by
  unfold runE
  rw [show m - i = (m - (i + 1)) + 1 by omega]
  conv => lhs; unfold runF
  rw [if_pos ⟨h, hp⟩]
theorem runE_n {p : Int32 → Bool} {f : Nat → Int32} {m i : Nat} (h : ¬ (i < m ∧ p (f i &&& 255) = true)) : runE p f m i = i := by
  unfold runE
  cases hk : m - i with
  | zero => rfl
  | succ k => unfold runF; rw [if_neg h]
theorem runF_b {p : Int32 → Bool} {f : Nat → Int32} {m : Nat} : ∀ k i, i ≤ m → i ≤ runF p f m k i ∧ runF p f m k i ≤ m := by
  intro k
  induction k with
  | zero => intro i h; exact ⟨Nat.le_refl i, h⟩
  | succ k ih =>
    intro i h
    unfold runF
    split
    · rename_i h2
      have := ih (i + 1) (by omega)
      omega
    · exact ⟨Nat.le_refl i, h⟩
theorem runE_b {p : Int32 → Bool} {f : Nat → Int32} {m i : Nat} (h : i ≤ m) : i ≤ runE p f m i ∧ runE p f m i ≤ m := runF_b _ i h
def numF (f : Nat → Int32) (m s : Nat) : Nat → Int32
  | 0 => 0
  | j + 1 => numF f m s j * 10 + tpB f m (s + j) - 48
def tS (f : Nat → Int32) (m e : Nat) : Nat := runE pB f m e
def tC (f : Nat → Int32) (m e : Nat) : Int32 := tpB f m (tS f m e)
def tE (f : Nat → Int32) (m e : Nat) : Nat := if pL (tC f m e) = true then runE pL f m (tS f m e + 1) else if pD (tC f m e) = true then runE pD f m (tS f m e + 1) else tS f m e + 1
def tK (f : Nat → Int32) (m e : Nat) : Int32 := if tC f m e = -1 then 0 else if pL (tC f m e) = true then 1 else if pD (tC f m e) = true then (if tE f m e - tS f m e ≤ 4 then 2 else 4) else if tC f m e = 59 then 3 else 4
def tN (f : Nat → Int32) (m e : Nat) (old : Int32) : Int32 := if pD (tC f m e) = true then (if tE f m e - tS f m e ≤ 4 then numF f m (tS f m e) (tE f m e - tS f m e) else 0) else old
def scnM (I : mI) (m e : Nat) : mI := mUp (mUp (mUp (mUp I 1 7 (nI (tS (I 3) m e))) 1 8 (nI (tE (I 3) m e))) 1 6 (tK (I 3) m e)) 1 9 (tN (I 3) m e (I 1 9))
theorem mem_eq4 {A C : mI} (h6 : A 1 6 = C 1 6) (h7 : A 1 7 = C 1 7) (h8 : A 1 8 = C 1 8) (h9 : A 1 9 = C 1 9) (ho : ∀ c k, ¬ (c = 1 ∧ (k = 6 ∨ k = 7 ∨ k = 8 ∨ k = 9)) → A c k = C c k) (c k : Nat) : A c k = C c k := by
  by_cases h : c = 1 ∧ (k = 6 ∨ k = 7 ∨ k = 8 ∨ k = 9)
  · obtain ⟨rfl, rfl | rfl | rfl | rfl⟩ := h
    · exact h6
    · exact h7
    · exact h8
    · exact h9
  · exact ho c k h
theorem tpB_in {f : Nat → Int32} {m i : Nat} (h : i < m) : tpB f m i = f i &&& 255 := by rw [tpB, if_pos h]
theorem tpB_out {f : Nat → Int32} {m i : Nat} (h : ¬ i < m) : tpB f m i = -1 := by rw [tpB, if_neg h]
theorem and255 (x : Int32) : 0 ≤ (x &&& 255).toInt ∧ (x &&& 255).toInt ≤ 255 := by
  obtain ⟨j, hj, he⟩ := pk_andE x (m := 255) 8 (by decide)
  rw [he, nI_toInt (by omega)]
  omega
theorem and255_n (x : Int32) : ¬ x &&& 255 = -1 := by
  intro h
  have := and255 x
  rw [h] at this
  revert this
  decide
section SC
variable {X : mX} {B nx : Nat} {sh : Nat → Option mSh} {I : mI} {P : mP}
theorem e_X5_isBlank {b : Int32} : Ev X B mdX5_isBlank 0 0 [.int b] nx sh I P (mDet (some (.int (bI (pB b)))) nx sh I P) := by
  refine Ev.of (by decide) (by simp [Value.category]) (by simp) (fun G hM => ?_)
  have hM : mM X B "isBlank" (some FieldType.boolean) 0 0 0 0 _ G := hM
  show V X B RX5 cX5_isBlank G 0 0 nx sh I P 0 [some (.int b)] []
  refine V_iln dX5_isBlank_0 rfl ?_
  refine V_bipush (v := 32) rfl dX5_isBlank_1 ?_
  refine V_icmp_eq (tgt := 12) dX5_isBlank_3 rfl (fun c3 => ?_) (fun c3 => ?_)
  · refine V_iconst (v := 1) rfl dX5_isBlank_12 ?_
    refine V_goto (tgt := 17) dX5_isBlank_13 rfl ?_
    exact V_zret hM (by first | exact Or.inl rfl | exact Or.inr rfl | exact bI_01 _) dX5_isBlank_17 (⟨by simp [pB, bI, c3], rfl, rfl, rfl, rfl⟩)
  · refine V_iln dX5_isBlank_6 rfl ?_
    refine V_bipush (v := 10) rfl dX5_isBlank_7 ?_
    refine V_icmp_ne (tgt := 16) dX5_isBlank_9 rfl (fun c9 => ?_) (fun c9 => ?_)
    · refine V_iconst (v := 0) rfl dX5_isBlank_16 ?_
      exact V_zret hM (by first | exact Or.inl rfl | exact Or.inr rfl | exact bI_01 _) dX5_isBlank_17 (⟨by simp [pB, bI, c3, c9], rfl, rfl, rfl, rfl⟩)
    · refine V_iconst (v := 1) rfl dX5_isBlank_12 ?_
      refine V_goto (tgt := 17) dX5_isBlank_13 rfl ?_
      exact V_zret hM (by first | exact Or.inl rfl | exact Or.inr rfl | exact bI_01 _) dX5_isBlank_17 (⟨by simp [pB, bI, c3, c9], rfl, rfl, rfl, rfl⟩)
theorem e_X5_isLetter {b : Int32} : Ev X B mdX5_isLetter 0 0 [.int b] nx sh I P (mDet (some (.int (bI (pL b)))) nx sh I P) := by
  refine Ev.of (by decide) (by simp [Value.category]) (by simp) (fun G hM => ?_)
  have hM : mM X B "isLetter" (some FieldType.boolean) 0 0 0 0 _ G := hM
  show V X B RX5 cX5_isLetter G 0 0 nx sh I P 0 [some (.int b)] []
  refine V_iln dX5_isLetter_0 rfl ?_
  refine V_bipush (v := 97) rfl dX5_isLetter_1 ?_
  refine V_icmp_lt (tgt := 16) dX5_isLetter_3 rfl (fun c3 => ?_) (fun c3 => ?_)
  · have c3 := i_lt_nle c3
    refine V_iconst (v := 0) rfl dX5_isLetter_16 ?_
    exact V_zret hM (by first | exact Or.inl rfl | exact Or.inr rfl | exact bI_01 _) dX5_isLetter_17 (⟨by simp [pL, bI, c3], rfl, rfl, rfl, rfl⟩)
  · have c3 := i_nlt c3
    refine V_iln dX5_isLetter_6 rfl ?_
    refine V_bipush (v := 122) rfl dX5_isLetter_7 ?_
    refine V_icmp_gt (tgt := 16) dX5_isLetter_9 rfl (fun c9 => ?_) (fun c9 => ?_)
    · have c9 := i_lt_nle c9
      refine V_iconst (v := 0) rfl dX5_isLetter_16 ?_
      exact V_zret hM (by first | exact Or.inl rfl | exact Or.inr rfl | exact bI_01 _) dX5_isLetter_17 (⟨by simp [pL, bI, c3, c9], rfl, rfl, rfl, rfl⟩)
    · have c9 := i_nlt c9
      refine V_iconst (v := 1) rfl dX5_isLetter_12 ?_
      refine V_goto (tgt := 17) dX5_isLetter_13 rfl ?_
      exact V_zret hM (by first | exact Or.inl rfl | exact Or.inr rfl | exact bI_01 _) dX5_isLetter_17 (⟨by simp [pL, bI, c3, c9], rfl, rfl, rfl, rfl⟩)
theorem e_X5_isDigit {b : Int32} : Ev X B mdX5_isDigit 0 0 [.int b] nx sh I P (mDet (some (.int (bI (pD b)))) nx sh I P) := by
  refine Ev.of (by decide) (by simp [Value.category]) (by simp) (fun G hM => ?_)
  have hM : mM X B "isDigit" (some FieldType.boolean) 0 0 0 0 _ G := hM
  show V X B RX5 cX5_isDigit G 0 0 nx sh I P 0 [some (.int b)] []
  refine V_iln dX5_isDigit_0 rfl ?_
  refine V_bipush (v := 48) rfl dX5_isDigit_1 ?_
  refine V_icmp_lt (tgt := 16) dX5_isDigit_3 rfl (fun c3 => ?_) (fun c3 => ?_)
  · have c3 := i_lt_nle c3
    refine V_iconst (v := 0) rfl dX5_isDigit_16 ?_
    exact V_zret hM (by first | exact Or.inl rfl | exact Or.inr rfl | exact bI_01 _) dX5_isDigit_17 (⟨by simp [pD, bI, c3], rfl, rfl, rfl, rfl⟩)
  · have c3 := i_nlt c3
    refine V_iln dX5_isDigit_6 rfl ?_
    refine V_bipush (v := 57) rfl dX5_isDigit_7 ?_
    refine V_icmp_gt (tgt := 16) dX5_isDigit_9 rfl (fun c9 => ?_) (fun c9 => ?_)
    · have c9 := i_lt_nle c9
      refine V_iconst (v := 0) rfl dX5_isDigit_16 ?_
      exact V_zret hM (by first | exact Or.inl rfl | exact Or.inr rfl | exact bI_01 _) dX5_isDigit_17 (⟨by simp [pD, bI, c3, c9], rfl, rfl, rfl, rfl⟩)
    · have c9 := i_nlt c9
      refine V_iconst (v := 1) rfl dX5_isDigit_12 ?_
      refine V_goto (tgt := 17) dX5_isDigit_13 rfl ?_
      exact V_zret hM (by first | exact Or.inl rfl | exact Or.inr rfl | exact bI_01 _) dX5_isDigit_17 (⟨by simp [pD, bI, c3, c9], rfl, rfl, rfl, rfl⟩)
theorem mUp_self {c k : Nat} {v : Int32} (h : I c k = v) (c' k' : Nat) : I c' k' = mUp I c k v c' k' := by
  unfold mUp
  by_cases e : c' = c ∧ k' = k
  · rw [if_pos e, e.1, e.2, h]
  · rw [if_neg e]
theorem mUp_twice {c k : Nat} {v w : Int32} (c' k' : Nat) : mUp (mUp I c k v) c k w c' k' = mUp I c k w c' k' := by
  unfold mUp
  by_cases e : c' = c ∧ k' = k
  · rw [if_pos e, if_pos e]
  · rw [if_neg e, if_neg e, if_neg e]
theorem l_X5_scanWord {G : mG} {m i0 : Nat} (hW : CW sh P) (hm : I 2 1 = nI m) (hm8 : m ≤ 800) (hM : mM X B "scanWord" none 1 21 0 0 (mDet none nx sh (mUp (mUp I 1 8 (nI (runE pL (I 3) m i0))) 1 6 1) P) G) : ∀ (z i : Nat), i ≤ m → m - i < z → runE pL (I 3) m i = runE pL (I 3) m i0 → V X B RX5 cX5_scanWord G 0 0 nx sh (mUp I 1 8 (nI i)) P 0 [some (.ref (B + 1))] [] := by
  have s1 : sh 1 = some (.inl 5) := hW.1 1 _ rfl
  have p1_0 : P 1 0 = some 2 := hW.2 1 0 2 rfl
  have s2 : sh 2 = some (.inl 8) := hW.1 2 _ rfl
  have p2_0 : P 2 0 = some 3 := hW.2 2 0 3 rfl
  have s3 : sh 3 = some (.inr (1, 800)) := hW.1 3 _ rfl
  have hm' : ∀ i, mUp I 1 8 (nI i) 2 1 = nI m := fun i => by rw [mUp_c (by decide)]; exact hm
  have h2' : ∀ i, mUp I 1 8 (nI i) 3 = I 3 := fun i => funext fun k => mUp_c (by decide)
  intro z
  induction z with
  | zero => intro i _ h; omega
  | succ z ih =>
    intro i hi hz he
    refine V_aln dX5_scanWord_0 rfl ?_
    refine V_getIv dX5_scanWord_1 flX5_44 (by assumption) rfl (mUp_s) ?_
    refine V_aln dX5_scanWord_4 rfl ?_
    refine V_getR dX5_scanWord_5 flX5_12 (by assumption) rfl (by assumption) ?_
    refine V_cV0d hM cvX5_74 (by assumption) rfl (e_X8_size s2) ⟨Nat.le_of_ble_eq_true rfl, Nat.le_of_ble_eq_true rfl, Nat.le_of_ble_eq_true rfl, Nat.le_of_ble_eq_true rfl⟩ (Nat.le_of_ble_eq_true rfl) dX5_scanWord_8 ?_
    rw [hm']
    refine V_icmp_ge (tgt := 44) dX5_scanWord_11 rfl (fun c11 => ?_) (fun c11 => ?_)
    · have c11 := nN_le c11 (by omega) (by omega)
      have e2 : i = runE pL (I 3) m i0 := by rw [← he, runE_n (by omega)]
      refine V_aln dX5_scanWord_44 rfl ?_
      refine V_iconst (v := 1) rfl dX5_scanWord_45 ?_
      refine V_putI dX5_scanWord_46 flX5_38 (by assumption) rfl rfl ?_
      exact V_vret hM dX5_scanWord_49 (⟨rfl, rfl, rfl, by rw [e2], rfl⟩)
    · have c11 := nN_nle c11 (by omega) (by omega)
      refine V_aln dX5_scanWord_14 rfl ?_
      refine V_getR dX5_scanWord_15 flX5_12 (by assumption) rfl (by assumption) ?_
      refine V_aln dX5_scanWord_18 rfl ?_
      refine V_getIv dX5_scanWord_19 flX5_44 (by assumption) rfl (mUp_s) ?_
      refine V_cV1d hM cvX5_78 (by assumption) rfl (e_X8_byteAt s2 p2_0 s3 (hm' i) hm8 (by omega)) ⟨Nat.le_of_ble_eq_true rfl, Nat.le_of_ble_eq_true rfl, Nat.le_of_ble_eq_true rfl, Nat.le_of_ble_eq_true rfl⟩ (Nat.le_of_ble_eq_true rfl) dX5_scanWord_22 ?_
      rw [h2', tpB_in c11]
      refine V_cS1d hM cvX5_86 (e_X5_isLetter) ⟨Nat.le_of_ble_eq_true rfl, Nat.le_of_ble_eq_true rfl, Nat.le_of_ble_eq_true rfl, Nat.le_of_ble_eq_true rfl⟩ (Nat.le_of_ble_eq_true rfl) dX5_scanWord_25 ?_
      refine V_ifeq_b (tgt := 44) dX5_scanWord_28 rfl (fun c28 => ?_) (fun c28 => ?_)
      · have e2 : i = runE pL (I 3) m i0 := by rw [← he, runE_n (by rw [c28]; simp)]
        refine V_aln dX5_scanWord_44 rfl ?_
        refine V_iconst (v := 1) rfl dX5_scanWord_45 ?_
        refine V_putI dX5_scanWord_46 flX5_38 (by assumption) rfl rfl ?_
        exact V_vret hM dX5_scanWord_49 (⟨rfl, rfl, rfl, by rw [e2], rfl⟩)
      · refine V_aln dX5_scanWord_31 rfl ?_
        refine V_dup rfl dX5_scanWord_32 ?_
        refine V_getIv dX5_scanWord_33 flX5_44 (by assumption) rfl (mUp_s) ?_
        refine V_iconst (v := 1) rfl dX5_scanWord_36 ?_
        refine V_iadd dX5_scanWord_37 ?_
        refine V_top (nI_inc' i) ?_
        refine V_putI dX5_scanWord_38 flX5_44 (by assumption) rfl rfl ?_
        refine V_goto (tgt := 0) dX5_scanWord_41 rfl ?_
        refine V_mem mUp_twice (fun _ _ => rfl) ?_
        exact ih (i + 1) (by omega) (by omega) (by rw [← runE_s c11 c28]; exact he)
theorem e_X5_scanWord {m i : Nat} (hW : CW sh P) (hm : I 2 1 = nI m) (hm8 : m ≤ 800) (hi : I 1 8 = nI i) (him : i ≤ m) : Ev X B mdX5_scanWord 0 0 [.ref (B + 1)] nx sh I P (mDet none nx sh (mUp (mUp I 1 8 (nI (runE pL (I 3) m i))) 1 6 1) P) := by
  refine Ev.of (by decide) (by simp [Value.category]) (by simp) (fun G hM => ?_)
  have hM : mM X B "scanWord" none 1 21 0 0 _ G := hM
  show V X B RX5 cX5_scanWord G 0 0 nx sh I P 0 [some (.ref (B + 1))] []
  refine V_mem (mUp_self hi) (fun _ _ => rfl) ?_
  exact l_X5_scanWord hW hm hm8 hM (m + 1) i him (by omega) rfl
/-- scanNumber's memory -/
def snM (I : mI) (m s i : Nat) : mI := mUp (mUp (mUp I 1 8 (nI (runE pD (I 3) m i))) 1 6 (if runE pD (I 3) m i - s ≤ 4 then 2 else 4)) 1 9 (if runE pD (I 3) m i - s ≤ 4 then numF (I 3) m s (runE pD (I 3) m i - s) else 0)
theorem l2_X5_scanNumber {G : mG} {m s e : Nat} {J : mI} (hW : CW sh P) (hm : J 2 1 = nI m) (hm8 : m ≤ 800) (h7 : J 1 7 = nI s) (h8 : J 1 8 = nI e) (h6 : J 1 6 = 2) (hse : s ≤ e) (hem : e ≤ m) (hM : mM X B "scanNumber" none 1 21 0 0 (mDet none nx sh (mUp J 1 9 (numF (J 3) m s (e - s))) P) G) : ∀ (z j : Nat), j ≤ e - s → e - s - j < z → V X B RX5 cX5_scanNumber G 0 0 nx sh (mUp J 1 9 (numF (J 3) m s j)) P 76 [some (.ref (B + 1)), some (.int (nI (s + j)))] [] := by
  have s1 : sh 1 = some (.inl 5) := hW.1 1 _ rfl
  have p1_0 : P 1 0 = some 2 := hW.2 1 0 2 rfl
  have s2 : sh 2 = some (.inl 8) := hW.1 2 _ rfl
  have p2_0 : P 2 0 = some 3 := hW.2 2 0 3 rfl
  have s3 : sh 3 = some (.inr (1, 800)) := hW.1 3 _ rfl
  have hk : ∀ v k, k ≠ 9 → mUp J 1 9 v 1 k = J 1 k := fun v k h => mUp_k h
  have hm' : ∀ v, mUp J 1 9 v 2 1 = nI m := fun v => by rw [mUp_c (by decide)]; exact hm
  have h2' : ∀ v, mUp J 1 9 v 3 = J 3 := fun v => funext fun k => mUp_c (by decide)
  intro z
  induction z with
  | zero => intro i _ h; omega
  | succ z ih =>
    intro j hj hz
    refine V_iln dX5_scanNumber_76 rfl ?_
    refine V_aln dX5_scanNumber_77 rfl ?_
    refine V_getIv dX5_scanNumber_78 flX5_44 (by assumption) rfl ((hk _ 8 (by decide)).trans h8) ?_
    refine V_icmp_ge (tgt := 121) dX5_scanNumber_81 rfl (fun c81 => ?_) (fun c81 => ?_)
    · have c81 := nN_le c81 (by omega) (by omega)
      obtain rfl : j = e - s := by omega
      exact V_vret hM dX5_scanNumber_121 (mDet.rf)
    · have c81 := nN_nle c81 (by omega) (by omega)
      refine V_aln dX5_scanNumber_84 rfl ?_
      refine V_getIv dX5_scanNumber_85 flX5_38 (by assumption) rfl ((hk _ 6 (by decide)).trans h6) ?_
      refine V_iconst (v := 2) rfl dX5_scanNumber_88 ?_
      refine V_icmp_ne (tgt := 121) dX5_scanNumber_89 rfl (fun c89 => ?_) (fun c89 => ?_)
      · exact absurd rfl c89 --done
      · refine V_aln dX5_scanNumber_92 rfl ?_
        refine V_aln dX5_scanNumber_93 rfl ?_
        refine V_getIv dX5_scanNumber_94 flX5_47 (by assumption) rfl (mUp_s) ?_
        refine V_bipush (v := 10) rfl dX5_scanNumber_97 ?_
        refine V_imul dX5_scanNumber_99 ?_
        refine V_aln dX5_scanNumber_100 rfl ?_
        refine V_getR dX5_scanNumber_101 flX5_12 (by assumption) rfl (by assumption) ?_
        refine V_iln dX5_scanNumber_104 rfl ?_
        refine V_cV1d hM cvX5_78 (by assumption) rfl (e_X8_byteAt s2 p2_0 s3 (hm' _) hm8 (by omega)) ⟨Nat.le_of_ble_eq_true rfl, Nat.le_of_ble_eq_true rfl, Nat.le_of_ble_eq_true rfl, Nat.le_of_ble_eq_true rfl⟩ (Nat.le_of_ble_eq_true rfl) dX5_scanNumber_105 ?_
        rw [h2']
        refine V_iadd dX5_scanNumber_108 ?_
        refine V_bipush (v := 48) rfl dX5_scanNumber_109 ?_
        refine V_isub dX5_scanNumber_111 ?_
        refine V_putI dX5_scanNumber_112 flX5_47 (by assumption) rfl rfl ?_
        refine V_inc1 dX5_scanNumber_115 ?_
        refine V_goto (tgt := 76) dX5_scanNumber_118 rfl ?_
        refine V_mem mUp_twice (fun _ _ => rfl) ?_
        rw [nI_inc, Nat.add_assoc]
        exact ih (j + 1) (by omega) (by omega)
theorem l_X5_scanNumber {G : mG} {m s i0 : Nat} (hW : CW sh P) (hm : I 2 1 = nI m) (hm8 : m ≤ 800) (h7 : I 1 7 = nI s) (hs0 : s ≤ i0) (hM : mM X B "scanNumber" none 1 21 0 0 (mDet none nx sh (snM I m s i0) P) G) : ∀ (z i : Nat), i0 ≤ i → i ≤ m → m - i < z → runE pD (I 3) m i = runE pD (I 3) m i0 → V X B RX5 cX5_scanNumber G 0 0 nx sh (mUp I 1 8 (nI i)) P 0 [some (.ref (B + 1)), none] [] := by
  have s1 : sh 1 = some (.inl 5) := hW.1 1 _ rfl
  have p1_0 : P 1 0 = some 2 := hW.2 1 0 2 rfl
  have s2 : sh 2 = some (.inl 8) := hW.1 2 _ rfl
  have p2_0 : P 2 0 = some 3 := hW.2 2 0 3 rfl
  have s3 : sh 3 = some (.inr (1, 800)) := hW.1 3 _ rfl
  have hm' : ∀ i, mUp I 1 8 (nI i) 2 1 = nI m := fun i => by rw [mUp_c (by decide)]; exact hm
  have h2' : ∀ i, mUp I 1 8 (nI i) 3 = I 3 := fun i => funext fun k => mUp_c (by decide)
  have h7' : ∀ i, mUp I 1 8 (nI i) 1 7 = nI s := fun i => by rw [mUp_k (by decide)]; exact h7
  intro z
  induction z with
  | zero => intro i _ _ h; omega
  | succ z ih =>
    intro i h0 hi hz he
    have tail : i = runE pD (I 3) m i0 → V X B RX5 cX5_scanNumber G 0 0 nx sh (mUp I 1 8 (nI i)) P 44 [some (.ref (B + 1)), none] [] := by
      intro e2
      have e3 : i - s = runE pD (I 3) m i0 - s := by rw [← e2]
      refine V_aln dX5_scanNumber_44 rfl ?_
      refine V_aln dX5_scanNumber_45 rfl ?_
      refine V_getIv dX5_scanNumber_46 flX5_44 (by assumption) rfl (mUp_s) ?_
      refine V_aln dX5_scanNumber_49 rfl ?_
      refine V_getIv dX5_scanNumber_50 flX5_41 (by assumption) rfl (h7' i) ?_
      refine V_isub dX5_scanNumber_53 ?_
      refine V_top (pk_sub (by omega)) ?_
      refine V_iconst (v := 4) rfl dX5_scanNumber_54 ?_
      refine V_icmp_gt (tgt := 62) dX5_scanNumber_55 rfl (fun c55 => ?_) (fun c55 => ?_)
      · have c55 := nN_lt (a := 4) c55 (by omega) (by omega)
        refine V_iconst (v := 4) rfl dX5_scanNumber_62 ?_
        refine V_putI dX5_scanNumber_63 flX5_38 (by assumption) rfl rfl ?_
        refine V_aln dX5_scanNumber_66 rfl ?_
        refine V_iconst (v := 0) rfl dX5_scanNumber_67 ?_
        refine V_putI dX5_scanNumber_68 flX5_47 (by assumption) rfl rfl ?_
        refine V_aln dX5_scanNumber_71 rfl ?_
        refine V_getIv (v := nI s) dX5_scanNumber_72 flX5_41 (by assumption) rfl (by simp [mUp, h7]) ?_
        refine V_is1 dX5_scanNumber_75 ?_
        first | (refine V_mem (I' := mUp (mUp (mUp I 1 8 (nI i)) 1 6 2) 1 9 (numF (I 3) m s 0)) (fun _ _ => rfl) (fun _ _ => rfl) ?_; have q := l2_X5_scanNumber (J := mUp (mUp I 1 8 (nI i)) 1 6 2) (s := s) (e := i) hW (by simp [mUp, hm]) hm8 (by simp [mUp, h7]) (by simp [mUp]) (by simp [mUp]) (by omega) hi (by have hM2 := hM; rw [snM, ← e2, if_pos c55, if_pos c55] at hM2; exact hM2) (i - s + 1) 0 (by omega) (by omega); exact q) | (refine V_iln dX5_scanNumber_76 rfl ?_; refine V_aln dX5_scanNumber_77 rfl ?_; refine V_getIv (v := nI i) dX5_scanNumber_78 flX5_44 (by assumption) rfl (by simp [mUp]) ?_; refine V_icmp_ge (tgt := 121) dX5_scanNumber_81 rfl (fun _ => V_vret hM dX5_scanNumber_121 ⟨rfl, rfl, rfl, by rw [snM, ← e2, if_neg (by omega), if_neg (by omega)], rfl⟩) (fun _ => ?_); refine V_aln dX5_scanNumber_84 rfl ?_; refine V_getIv (v := 4) dX5_scanNumber_85 flX5_38 (by assumption) rfl (by simp [mUp]) ?_; refine V_iconst (v := 2) rfl dX5_scanNumber_88 ?_; refine V_icmp_ne (tgt := 121) dX5_scanNumber_89 rfl (fun _ => V_vret hM dX5_scanNumber_121 ⟨rfl, rfl, rfl, by rw [snM, ← e2, if_neg (by omega), if_neg (by omega)], rfl⟩) (fun h => absurd h (by decide)))
      · have c55 := nN_nlt (a := 4) c55 (by omega) (by omega)
        refine V_iconst (v := 2) rfl dX5_scanNumber_58 ?_
        refine V_goto (tgt := 63) dX5_scanNumber_59 rfl ?_
        refine V_putI dX5_scanNumber_63 flX5_38 (by assumption) rfl rfl ?_
        refine V_aln dX5_scanNumber_66 rfl ?_
        refine V_iconst (v := 0) rfl dX5_scanNumber_67 ?_
        refine V_putI dX5_scanNumber_68 flX5_47 (by assumption) rfl rfl ?_
        refine V_aln dX5_scanNumber_71 rfl ?_
        refine V_getIv (v := nI s) dX5_scanNumber_72 flX5_41 (by assumption) rfl (by simp [mUp, h7]) ?_
        refine V_is1 dX5_scanNumber_75 ?_
        first | (refine V_mem (I' := mUp (mUp (mUp I 1 8 (nI i)) 1 6 2) 1 9 (numF (I 3) m s 0)) (fun _ _ => rfl) (fun _ _ => rfl) ?_; have q := l2_X5_scanNumber (J := mUp (mUp I 1 8 (nI i)) 1 6 2) (s := s) (e := i) hW (by simp [mUp, hm]) hm8 (by simp [mUp, h7]) (by simp [mUp]) (by simp [mUp]) (by omega) hi (by have hM2 := hM; rw [snM, ← e2, if_pos c55, if_pos c55] at hM2; exact hM2) (i - s + 1) 0 (by omega) (by omega); exact q) | (refine V_iln dX5_scanNumber_76 rfl ?_; refine V_aln dX5_scanNumber_77 rfl ?_; refine V_getIv (v := nI i) dX5_scanNumber_78 flX5_44 (by assumption) rfl (by simp [mUp]) ?_; refine V_icmp_ge (tgt := 121) dX5_scanNumber_81 rfl (fun _ => V_vret hM dX5_scanNumber_121 ⟨rfl, rfl, rfl, by rw [snM, ← e2, if_neg (by omega), if_neg (by omega)], rfl⟩) (fun _ => ?_); refine V_aln dX5_scanNumber_84 rfl ?_; refine V_getIv (v := 4) dX5_scanNumber_85 flX5_38 (by assumption) rfl (by simp [mUp]) ?_; refine V_iconst (v := 2) rfl dX5_scanNumber_88 ?_; refine V_icmp_ne (tgt := 121) dX5_scanNumber_89 rfl (fun _ => V_vret hM dX5_scanNumber_121 ⟨rfl, rfl, rfl, by rw [snM, ← e2, if_neg (by omega), if_neg (by omega)], rfl⟩) (fun h => absurd h (by decide)))
    refine V_aln dX5_scanNumber_0 rfl ?_
    refine V_getIv dX5_scanNumber_1 flX5_44 (by assumption) rfl (mUp_s) ?_
    refine V_aln dX5_scanNumber_4 rfl ?_
    refine V_getR dX5_scanNumber_5 flX5_12 (by assumption) rfl (by assumption) ?_
    refine V_cV0d hM cvX5_74 (by assumption) rfl (e_X8_size s2) ⟨Nat.le_of_ble_eq_true rfl, Nat.le_of_ble_eq_true rfl, Nat.le_of_ble_eq_true rfl, Nat.le_of_ble_eq_true rfl⟩ (Nat.le_of_ble_eq_true rfl) dX5_scanNumber_8 ?_
    rw [hm']
    refine V_icmp_ge (tgt := 44) dX5_scanNumber_11 rfl (fun c11 => ?_) (fun c11 => ?_)
    · have c11 := nN_le c11 (by omega) (by omega)
      exact tail (by rw [← he, runE_n (by omega)]) --done
    · have c11 := nN_nle c11 (by omega) (by omega)
      refine V_aln dX5_scanNumber_14 rfl ?_
      refine V_getR dX5_scanNumber_15 flX5_12 (by assumption) rfl (by assumption) ?_
      refine V_aln dX5_scanNumber_18 rfl ?_
      refine V_getIv dX5_scanNumber_19 flX5_44 (by assumption) rfl (mUp_s) ?_
      refine V_cV1d hM cvX5_78 (by assumption) rfl (e_X8_byteAt s2 p2_0 s3 (hm' i) hm8 (by omega)) ⟨Nat.le_of_ble_eq_true rfl, Nat.le_of_ble_eq_true rfl, Nat.le_of_ble_eq_true rfl, Nat.le_of_ble_eq_true rfl⟩ (Nat.le_of_ble_eq_true rfl) dX5_scanNumber_22 ?_
      rw [h2', tpB_in c11]
      refine V_cS1d hM cvX5_92 (e_X5_isDigit) ⟨Nat.le_of_ble_eq_true rfl, Nat.le_of_ble_eq_true rfl, Nat.le_of_ble_eq_true rfl, Nat.le_of_ble_eq_true rfl⟩ (Nat.le_of_ble_eq_true rfl) dX5_scanNumber_25 ?_
      refine V_ifeq_b (tgt := 44) dX5_scanNumber_28 rfl (fun c28 => ?_) (fun c28 => ?_)
      · exact tail (by rw [← he, runE_n (by rw [c28]; simp)]) --done
      · refine V_aln dX5_scanNumber_31 rfl ?_
        refine V_dup rfl dX5_scanNumber_32 ?_
        refine V_getIv dX5_scanNumber_33 flX5_44 (by assumption) rfl (mUp_s) ?_
        refine V_iconst (v := 1) rfl dX5_scanNumber_36 ?_
        refine V_iadd dX5_scanNumber_37 ?_
        refine V_top (nI_inc' i) ?_
        refine V_putI dX5_scanNumber_38 flX5_44 (by assumption) rfl rfl ?_
        refine V_goto (tgt := 0) dX5_scanNumber_41 rfl ?_
        refine V_mem mUp_twice (fun _ _ => rfl) ?_
        exact ih (i + 1) (by omega) (by omega) (by omega) (by rw [← runE_s c11 c28]; exact he)
theorem e_X5_scanNumber {m s i : Nat} (hW : CW sh P) (hm : I 2 1 = nI m) (hm8 : m ≤ 800) (h7 : I 1 7 = nI s) (hi : I 1 8 = nI i) (hsi : s ≤ i) (him : i ≤ m) : Ev X B mdX5_scanNumber 0 0 [.ref (B + 1)] nx sh I P (mDet none nx sh (snM I m s i) P) := by
  refine Ev.of (by decide) (by simp [Value.category]) (by simp) (fun G hM => ?_)
  have hM : mM X B "scanNumber" none 1 21 0 0 _ G := hM
  show V X B RX5 cX5_scanNumber G 0 0 nx sh I P 0 [some (.ref (B + 1)), none] []
  refine V_mem (mUp_self hi) (fun _ _ => rfl) ?_
  exact l_X5_scanNumber hW hm hm8 h7 hsi hM (m + 1) i (Nat.le_refl i) him (by omega) rfl
end SC
