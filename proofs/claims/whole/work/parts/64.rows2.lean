/-! ===== rows of the class and rows of the reference ===== -/
def cntK (K : Nat → Int32) (p : Nat) : Nat → Nat
  | 0 => 0
  | i + 1 => if K i = nI p then cntK K p i + 1 else cntK K p i
theorem cntK_le {K : Nat → Int32} {p : Nat} : ∀ n, cntK K p n ≤ n := by
  intro n
  induction n with
  | zero => exact Nat.le_refl _
  | succ n ih => unfold cntK; split <;> omega
theorem cntK_mono {K : Nat → Int32} {p : Nat} : ∀ {i n : Nat}, i ≤ n → cntK K p i ≤ cntK K p n := by
  intro i n
  induction n with
  | zero =>
    intro h
    have e : i = 0 := by omega
    rw [e]
    exact Nat.le_refl _
  | succ n ih =>
    intro h
    by_cases e : i = n + 1
    · rw [e]; exact Nat.le_refl _
    · have := ih (by omega)
      show _ ≤ if K n = nI p then cntK K p n + 1 else cntK K p n
      split <;> omega
theorem cntK_lt {K : Nat → Int32} {p i n : Nat} (h : i < n) (hk : K i = nI p) : cntK K p i < cntK K p n := by
  have h1 := cntK_mono (K := K) (p := p) (show i + 1 ≤ n from h)
  have h2 : cntK K p (i + 1) = cntK K p i + 1 := if_pos hk
  omega
theorem cntK_cg {K K' : Nat → Int32} {p : Nat} : ∀ {n : Nat}, (∀ i, i < n → K' i = K i) → cntK K' p n = cntK K p n := by
  intro n
  induction n with
  | zero => intro _; rfl
  | succ n ih =>
    intro h
    show (if K' n = nI p then cntK K' p n + 1 else cntK K' p n) = if K n = nI p then cntK K p n + 1 else cntK K p n
    rw [h n (by omega), ih (fun i hi => h i (by omega))]
theorem rCnt_cnt {K : Nat → Int32} {p : Nat} : ∀ n, rCnt K (nI p) n = nI (cntK K p n) := by
  intro n
  induction n with
  | zero => rfl
  | succ n ih =>
    unfold rCnt cntK
    split
    · rw [ih, nI_inc']
    · exact ih
/-- rows of many told in one, under keys; and in blocks of w, with their numbers -/
def RwOk (w : Nat) (K D U C D2 U2 : Nat → Int32) (n : Nat) : Prop := (∀ p, p < 30 → C p = nI (cntK K p n) ∧ cntK K p n ≤ w) ∧ ∀ i, i < n → ∃ p, p < 30 ∧ K i = nI p ∧ D2 (w * p + cntK K p i) = D i ∧ U2 (w * p + cntK K p i) = U i
theorem nI_inj {a b : Nat} (h : nI a = nI b) (ha : a < 2 ^ 31) (hb : b < 2 ^ 31) : a = b := nI_eqN ha hb h
theorem blk_ne {w p q x y : Nat} (hx : x < w) (hy : y < w) (h : p ≠ q) : w * p + x ≠ w * q + y := by
  intro e
  have h1 : (w * p + x) / w = p := by rw [Nat.add_comm, Nat.add_mul_div_left _ _ (by omega), Nat.div_eq_of_lt hx]; omega
  have h2 : (w * q + y) / w = q := by rw [Nat.add_comm, Nat.add_mul_div_left _ _ (by omega), Nat.div_eq_of_lt hy]; omega
  rw [e, h2] at h1
  omega
theorem RwOk.add {w : Nat} {K D U C D2 U2 K' D' U' C' D2' U2' : Nat → Int32} {n p : Nat} {d u : Int32} (h : RwOk w K D U C D2 U2 n) (hp : p < 30) (hc : cntK K p n < w)
    (hK : ∀ i, K' i = if i = n then nI p else K i) (hD : ∀ i, D' i = if i = n then d else D i) (hU : ∀ i, U' i = if i = n then u else U i) (hC : ∀ i, C' i = if i = p then nI (cntK K p n + 1) else C i)
    (hD2 : ∀ i, D2' i = if i = w * p + cntK K p n then d else D2 i) (hU2 : ∀ i, U2' i = if i = w * p + cntK K p n then u else U2 i) : RwOk w K' D' U' C' D2' U2' (n + 1) := by
  have hKl : ∀ i, i < n → K' i = K i := fun i hi => by rw [hK, if_neg (by omega)]
  have hKn : K' n = nI p := by rw [hK, if_pos rfl]
  have hcn : ∀ q i, i ≤ n → cntK K' q i = cntK K q i := fun q i hi => cntK_cg fun j hj => hKl j (by omega)
  refine ⟨fun q hq => ?_, fun i hi => ?_⟩
  · show C' q = nI (if K' n = nI q then cntK K' q n + 1 else cntK K' q n) ∧ (if K' n = nI q then cntK K' q n + 1 else cntK K' q n) ≤ w
    rw [hcn q n (Nat.le_refl _), hKn, hC]
    by_cases e : q = p
    · subst e
      rw [if_pos rfl, if_pos rfl]
      exact ⟨rfl, by omega⟩
    · rw [if_neg e, if_neg (fun h => e (nI_inj h (by omega) (by omega)).symm)]
      exact h.1 q hq
  · by_cases e : i = n
    · subst e
      refine ⟨p, hp, hKn, ?_, ?_⟩
      · rw [hcn p i (Nat.le_refl _), hD2, if_pos rfl, hD, if_pos rfl]
      · rw [hcn p i (Nat.le_refl _), hU2, if_pos rfl, hU, if_pos rfl]
    · obtain ⟨q, h1, h2, h3, h4⟩ := h.2 i (by omega)
      have hlt := cntK_lt (n := n) (by omega) h2
      have hle := (h.1 q h1).2
      have hne : w * q + cntK K q i ≠ w * p + cntK K p n := by
        by_cases eq : q = p
        · subst eq; omega
        · exact blk_ne (by omega) hc eq
      refine ⟨q, h1, by rw [hKl i (by omega)]; exact h2, ?_, ?_⟩
      · rw [hcn q i (by omega), hD2, if_neg hne, hD, if_neg e]; exact h3
      · rw [hcn q i (by omega), hU2, if_neg hne, hU, if_neg e]; exact h4
/-- a row is free where a block isn't full -/
def sumC (f : Nat → Nat) : Nat → Nat
  | 0 => 0
  | p + 1 => sumC f p + f p
theorem sumC_le {f : Nat → Nat} {w : Nat} : ∀ n, (∀ p, p < n → f p ≤ w) → sumC f n ≤ w * n := by
  intro n
  induction n with
  | zero => intro _; exact Nat.le_refl _
  | succ n ih =>
    intro h
    have h1 := ih fun p hp => h p (by omega)
    have h2 := h n (by omega)
    show sumC f n + f n ≤ w * (n + 1)
    rw [Nat.mul_add]
    omega
theorem sumC_lt {f : Nat → Nat} {w : Nat} : ∀ n, (∀ p, p < n → f p ≤ w) → (∃ p, p < n ∧ f p < w) → sumC f n < w * n := by
  intro n
  induction n with
  | zero => intro _ h; obtain ⟨p, h, -⟩ := h; omega
  | succ n ih =>
    intro h hx
    show sumC f n + f n < w * (n + 1)
    rw [Nat.mul_add]
    by_cases e : f n < w
    · have h1 := sumC_le n fun p hp => h p (by omega)
      omega
    · obtain ⟨p, h1, h2⟩ := hx
      have h3 := ih (fun p hp => h p (by omega)) ⟨p, by
        by_cases e2 : p = n
        · subst e2; omega
        · omega, h2⟩
      have h4 := h n (by omega)
      omega
theorem sumC_add {f g : Nat → Nat} : ∀ n, sumC (fun p => f p + g p) n = sumC f n + sumC g n := by
  intro n
  induction n with
  | zero => rfl
  | succ n ih =>
    show sumC _ n + (f n + g n) = sumC f n + f n + (sumC g n + g n)
    rw [ih]; omega
theorem sumC_one {q : Nat} : ∀ n, sumC (fun p => if p = q then 1 else 0) n = if q < n then 1 else 0 := by
  intro n
  induction n with
  | zero => rfl
  | succ n ih =>
    show sumC _ n + (if n = q then 1 else 0) = _
    rw [ih]
    by_cases h1 : q < n
    · rw [if_pos h1, if_neg (by omega), if_pos (by omega)]
    · rw [if_neg h1]
      by_cases h2 : n = q
      · rw [if_pos h2, if_pos (by omega)]
      · rw [if_neg h2, if_neg (by omega)]
theorem sumC_cg {f g : Nat → Nat} : ∀ n, (∀ p, p < n → f p = g p) → sumC f n = sumC g n := by
  intro n
  induction n with
  | zero => intro _; rfl
  | succ n ih =>
    intro h
    show sumC f n + f n = sumC g n + g n
    rw [ih fun p hp => h p (by omega), h n (by omega)]
theorem cntK_sum {K : Nat → Int32} : ∀ n, (∀ i, i < n → ∃ p, p < 30 ∧ K i = nI p) → sumC (fun p => cntK K p n) 30 = n := by
  intro n
  induction n with
  | zero =>
    intro _
    have h1 : sumC (fun p => cntK K p 0) 30 ≤ 0 * 30 := sumC_le 30 fun p _ => Nat.le_refl _
    omega
  | succ n ih =>
    intro h
    obtain ⟨q, h1, h2⟩ := h n (by omega)
    have e : sumC (fun p => cntK K p (n + 1)) 30 = sumC (fun p => cntK K p n + (if p = q then 1 else 0)) 30 := sumC_cg 30 fun p hp => by
      show (if K n = nI p then cntK K p n + 1 else cntK K p n) = cntK K p n + if p = q then 1 else 0
      by_cases e : p = q
      · rw [if_pos (by rw [e]; exact h2), if_pos e]
      · rw [if_neg (fun h => e (nI_inj (h2.symm.trans h) (by omega) (by omega)).symm), if_neg e]; rfl
    rw [e, sumC_add, ih fun i hi => h i (by omega), sumC_one, if_pos h1]
theorem RwOk.room {w : Nat} {K D U C D2 U2 : Nat → Int32} {n p : Nat} (h : RwOk w K D U C D2 U2 n) (hp : p < 30) (hc : cntK K p n < w) : n < w * 30 := by
  have h1 := cntK_sum (K := K) n fun i hi => by obtain ⟨q, a, b, -⟩ := h.2 i hi; exact ⟨q, a, b⟩
  have h2 := sumC_lt (f := fun p => cntK K p n) (w := w) 30 (fun q hq => (h.1 q hq).2) ⟨p, hp, hc⟩
  omega
/-! what is held on a day -/
theorem inB_m1 {x : Int32} {n : Nat} (h : inB x n = true) : (-1 : Int32) ≤ x := by
  have := inB_iff.mp h
  rw [i_le]
  have e : (-1 : Int32).toInt = -1 := rfl
  omega
theorem held_eq {w : Nat} {K D U C D2 U2 : Nat → Int32} {n p : Nat} {day oth : Int32} (h : RwOk w K D U C D2 U2 n) (hp : p < 30) (hD : ∀ i, i < n → inB (D i) 10000 = true) : ∀ i, i ≤ n → rHeld K D U (nI p) day oth i = match mBst (fun _ => true) (fun k => D2 (w * p + k)) day (cntK K p i) with
    | none => (oth, -1)
    | some j => (U2 (w * p + j), D2 (w * p + j)) := by
  intro i
  induction i with
  | zero => intro _; rfl
  | succ i ih =>
    intro hi
    have ih := ih (by omega)
    obtain ⟨q, h1, h2, h3, h4⟩ := h.2 i (by omega)
    by_cases e : q = p
    · subst e
      have hc : cntK K q (i + 1) = cntK K q i + 1 := if_pos h2
      rw [hc]
      show (if K i = nI q ∧ D i ≤ day ∧ (rHeld K D U (nI q) day oth i).2 ≤ D i then (U i, D i) else rHeld K D U (nI q) day oth i) = _
      unfold mBst
      cases hb : mBst (fun _ => true) (fun k => D2 (w * q + k)) day (cntK K q i) with
      | none =>
        rw [hb] at ih
        rw [ih]
        by_cases hd : D i ≤ day
        · rw [if_pos ⟨h2, hd, inB_m1 (hD i (by omega))⟩, if_pos ⟨rfl, by show D2 _ ≤ _; rw [h3]; exact hd, fun j h => by cases h⟩]
          show _ = (U2 (w * q + cntK K q i), D2 (w * q + cntK K q i))
          rw [h3, h4]
        · rw [if_neg (fun h => hd h.2.1), if_neg (fun h => hd (by have := h.2.1; rw [← h3]; exact this))]
      | some j =>
        rw [hb] at ih
        rw [ih]
        by_cases hd : D i ≤ day ∧ D2 (w * q + j) ≤ D i
        · rw [if_pos ⟨h2, hd.1, hd.2⟩, if_pos ⟨rfl, by show D2 _ ≤ _; rw [h3]; exact hd.1, fun j' h => by cases h; show D2 _ ≤ D2 _; rw [h3]; exact hd.2⟩]
          show _ = (U2 (w * q + cntK K q i), D2 (w * q + cntK K q i))
          rw [h3, h4]
        · rw [if_neg (fun h => hd ⟨h.2.1, h.2.2⟩), if_neg (fun h => hd ⟨by have := h.2.1; rw [← h3]; exact this, by have := h.2.2 j rfl; rw [← h3]; exact this⟩)]
    · have hne : ¬ K i = nI p := fun h => e (nI_inj (h2.symm.trans h) (by omega) (by omega))
      have hc : cntK K p (i + 1) = cntK K p i := if_neg hne
      rw [hc]
      show (if K i = nI p ∧ D i ≤ day ∧ (rHeld K D U (nI p) day oth i).2 ≤ D i then (U i, D i) else rHeld K D U (nI p) day oth i) = _
      rw [if_neg (fun h => hne h.1)]
      exact ih
theorem span_eq {w : Nat} {K D U C D2 U2 : Nat → Int32} {n p : Nat} {day : Int32} (h : RwOk w K D U C D2 U2 n) (hp : p < 30) : ∀ i, i ≤ n → anyR (rSpan K D U (nI p) day) i = anyR (fun k => mSp D2 U2 day (w * p + k)) (cntK K p i) := by
  intro i
  induction i with
  | zero =>
    intro _
    rw [anyR_f (f := rSpan K D U (nI p) day) (fun j h => absurd h (Nat.not_lt_zero j))]
    exact (anyR_f (f := fun k => mSp D2 U2 day (w * p + k)) (n := cntK K p 0) (fun j h => absurd h (Nat.not_lt_zero j))).symm
  | succ i ih =>
    intro hi
    obtain ⟨q, h1, h2, h3, h4⟩ := h.2 i (by omega)
    rw [anyR_s, ih (by omega)]
    by_cases e : q = p
    · subst e
      have hc : cntK K q (i + 1) = cntK K q i + 1 := if_pos h2
      have hm : rSpan K D U (nI q) day i = mSp D2 U2 day (w * q + cntK K q i) := by rw [rSpan, mSp, h3, h4, decide_eq_true h2, Bool.true_and]
      rw [hc, anyR_s, hm]
    · have hne : ¬ K i = nI p := fun h => e (nI_inj (h2.symm.trans h) (by omega) (by omega))
      have hc : cntK K p (i + 1) = cntK K p i := if_neg hne
      rw [hc, rSpan, decide_eq_false hne, Bool.false_and, Bool.false_and, Bool.or_false]
theorem like_eq {K D U K2 U2 D2 : Nat → Int32} {n : Nat} {day s oth : Int32} (hK : ∀ k, k < n → K2 k = K k) (hU : ∀ k, k < n → U2 k = U k) (hDD : ∀ k, k < n → D2 k = D k) (hD : ∀ i, i < n → inB (D i) 10000 = true) : ∀ i, i ≤ n → rHeld K D U s day oth i = match mBst (fun k => decide (K2 k = s)) D2 day i with
    | none => (oth, -1)
    | some j => (U2 j, D2 j) := by
  intro i
  induction i with
  | zero => intro _; rfl
  | succ i ih =>
    intro hi
    have ih := ih (by omega)
    have e1 := hK i (by omega)
    have e2 := hU i (by omega)
    have e3 := hDD i (by omega)
    show (if K i = s ∧ D i ≤ day ∧ (rHeld K D U s day oth i).2 ≤ D i then (U i, D i) else rHeld K D U s day oth i) = _
    unfold mBst
    cases hb : mBst (fun k => decide (K2 k = s)) D2 day i with
    | none =>
      rw [hb] at ih
      rw [ih]
      by_cases hd : K i = s ∧ D i ≤ day
      · rw [if_pos ⟨hd.1, hd.2, inB_m1 (hD i (by omega))⟩, if_pos ⟨decide_eq_true (by rw [e1]; exact hd.1), by rw [e3]; exact hd.2, fun j h => by cases h⟩]
        show _ = (U2 i, D2 i)
        rw [e2, e3]
      · rw [if_neg (fun h => hd ⟨h.1, h.2.1⟩), if_neg (fun h => hd ⟨by rw [← e1]; exact of_decide_eq_true h.1, by rw [← e3]; exact h.2.1⟩)]
    | some j =>
      rw [hb] at ih
      rw [ih]
      by_cases hd : K i = s ∧ D i ≤ day ∧ D2 j ≤ D i
      · rw [if_pos hd, if_pos ⟨decide_eq_true (by rw [e1]; exact hd.1), by rw [e3]; exact hd.2.1, fun j' h => by cases h; rw [e3]; exact hd.2.2⟩]
        show _ = (U2 i, D2 i)
        rw [e2, e3]
      · rw [if_neg hd, if_neg (fun h => hd ⟨by rw [← e1]; exact of_decide_eq_true h.1, by rw [← e3]; exact h.2.1, by rw [← e3]; exact h.2.2 j rfl⟩)]
