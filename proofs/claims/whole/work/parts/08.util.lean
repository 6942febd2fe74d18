/-! ===== numbers, truth values, switches ===== -/
def bI (b : Bool) : Int32 := bif b then 1 else 0
/-- 0 .. n - 1 -/
def inB (x : Int32) (n : Nat) : Bool := decide (0 ≤ x.toInt) && decide (x.toInt < (n : Int))
theorem inB_iff {x : Int32} {n : Nat} : inB x n = true ↔ 0 ≤ x.toInt ∧ x.toInt < n := by simp [inB]
theorem inB_f {x : Int32} {n : Nat} (h : ¬ (0 ≤ x.toInt ∧ x.toInt < n)) : inB x n = false := by
  cases hb : inB x n
  · rfl
  · exact absurd (inB_iff.mp hb) h
theorem inB_in {x : Int32} {n : Nat} (h : inB x n = true) : vp_in x n := vp_in_iff.mpr (inB_iff.mp h)
theorem inB_nI {x : Int32} {n : Nat} (h : inB x n = true) (hn : n < 2 ^ 31) : ∃ j : Nat, j < n ∧ x = nI j := vp_in_of (inB_in h) hn
theorem inB_of {j n : Nat} (h : j < n) (hn : n < 2 ^ 31) : inB (nI j) n = true := by
  rw [inB_iff, nI_toInt (by omega)]
  omega
theorem inB_nI_iff {j n : Nat} (hj : j < 2 ^ 31) : inB (nI j) n = decide (j < n) := by
  by_cases h : j < n
  · simp [h, inB, nI_toInt hj]
  · simp [h, inB, nI_toInt hj]
theorem bI_01 (b : Bool) : bI b = 0 ∨ bI b = 1 := by cases b <;> simp [bI]
theorem bI_t : bI true = 1 := rfl
theorem bI_f : bI false = 0 := rfl
theorem i_lt {a b : Int32} : a < b ↔ a.toInt < b.toInt := Int32.lt_iff_toInt_lt
theorem i_le {a b : Int32} : a ≤ b ↔ a.toInt ≤ b.toInt := Int32.le_iff_toInt_le
theorem i_eq {a b : Int32} : a = b ↔ a.toInt = b.toInt := Int32.toInt_inj.symm
theorem i_rng (a : Int32) : -2147483648 ≤ a.toInt ∧ a.toInt ≤ 2147483647 := ⟨Int32.le_toInt a, Int32.toInt_le a⟩
theorem nI_inc (i : Nat) : nI i + Int32.ofInt 1 = nI (i + 1) := nI_1 i
theorem nI_inc' (i : Nat) : nI i + 1 = nI (i + 1) := nI_1 i
theorem nN_le {a b : Nat} (h : nI a ≤ nI b) (ha : a < 2 ^ 31) (hb : b < 2 ^ 31) : a ≤ b := (nI_leI ha hb).mp h
theorem nN_nle {a b : Nat} (h : ¬ nI a ≤ nI b) (ha : a < 2 ^ 31) (hb : b < 2 ^ 31) : b < a := Nat.not_le.mp fun q => h ((nI_leI ha hb).mpr q)
theorem nN_lt {a b : Nat} (h : nI a < nI b) (ha : a < 2 ^ 31) (hb : b < 2 ^ 31) : a < b := (nI_ltI ha hb).mp h
theorem nN_nlt {a b : Nat} (h : ¬ nI a < nI b) (ha : a < 2 ^ 31) (hb : b < 2 ^ 31) : b ≤ a := Nat.not_lt.mp fun q => h ((nI_ltI ha hb).mpr q)
theorem oI1 : Int32.ofInt 1 = 1 := rfl
/-- some place below n -/
def anyR (f : Nat → Bool) (n : Nat) : Bool := (List.range n).any f
theorem anyR_t {f : Nat → Bool} {n i : Nat} (h : i < n) (hf : f i = true) : anyR f n = true := by
  rw [anyR, List.any_eq_true]
  exact ⟨i, List.mem_range.mpr h, hf⟩
theorem anyR_f {f : Nat → Bool} {n : Nat} (h : ∀ j, j < n → f j = false) : anyR f n = false := by
  rw [anyR, List.any_eq_false]
  intro x hx
  rw [h x (List.mem_range.mp hx)]
  decide
theorem anyR_iff {f : Nat → Bool} {n : Nat} : anyR f n = true ↔ ∃ j, j < n ∧ f j = true := by
  rw [anyR, List.any_eq_true]
  constructor
  · rintro ⟨x, h1, h2⟩
    exact ⟨x, List.mem_range.mp h1, h2⟩
  · rintro ⟨x, h1, h2⟩
    exact ⟨x, List.mem_range.mpr h1, h2⟩
theorem lt_s' {i : Nat} {f : Nat → Bool} (h : ∀ j, j < i → f j = false) (hi : f i = false) : ∀ j, j < i + 1 → f j = false := by
  intro j hj
  rcases Nat.lt_succ_iff_lt_or_eq.mp hj with h1 | h1
  · exact h j h1
  · rw [h1]; exact hi
section VU
variable {X : mX} {B : Nat} {own : String} {cc : ByteArray} {G : mG} {nc ns nx : Nat} {sh : Nat → Option mSh} {I : mI} {P : mP} {pc : Nat} {ls : List (Option Value)} {st : List Value}
theorem V_ifeq_b {b : Bool} {off : Int} {tgt : Nat} (hd : decode cc pc = .ok (.ifCond .eq off, 3)) (ht : (pc : Int) + off = (tgt : Int)) (kt : b = false → V X B own cc G nc ns nx sh I P tgt ls st) (kf : b = true → V X B own cc G nc ns nx sh I P (pc + 3) ls st) : V X B own cc G nc ns nx sh I P pc ls (.int (bI b) :: st) := by
  refine V_if_eq hd ht (fun h => kt ?_) (fun h => kf ?_) <;> cases b <;> first | rfl | exact absurd h (by decide) | exact absurd rfl h
theorem V_ifne_b {b : Bool} {off : Int} {tgt : Nat} (hd : decode cc pc = .ok (.ifCond .ne off, 3)) (ht : (pc : Int) + off = (tgt : Int)) (kt : b = true → V X B own cc G nc ns nx sh I P tgt ls st) (kf : b = false → V X B own cc G nc ns nx sh I P (pc + 3) ls st) : V X B own cc G nc ns nx sh I P pc ls (.int (bI b) :: st) := by
  refine V_if_ne hd ht (fun h => kt ?_) (fun h => kf ?_) <;> cases b <;> first | rfl | exact absurd h (by decide) | exact absurd rfl h
/-- another name for what stands on top -/
theorem V_top {x y : Int32} (h : x = y) (k : V X B own cc G nc ns nx sh I P pc ls (.int y :: st)) : V X B own cc G nc ns nx sh I P pc ls (.int x :: st) := h ▸ k
/-- the memory is as well another one, cell by cell -/
theorem V_mem {I' : mI} {P' : mP} (hI : ∀ c k, I c k = I' c k) (hP : ∀ c k, P c k = P' c k) (k : V X B own cc G nc ns nx sh I' P' pc ls st) : V X B own cc G nc ns nx sh I P pc ls st := by
  have e1 : I = I' := funext fun c => funext fun j => hI c j
  have e2 : P = P' := funext fun c => funext fun j => hP c j
  subst e1; subst e2
  exact k
theorem V_tsw_5_7 {x : Int32} {dflt o0 o1 o2 : Int} {td t0 t1 t2 len : Nat} (hd : decode cc pc = .ok (.tableswitch dflt 5 7 #[o0, o1, o2], len)) (hdf : (pc : Int) + dflt = (td : Int)) (h0 : (pc : Int) + o0 = (t0 : Int)) (h1 : (pc : Int) + o1 = (t1 : Int)) (h2 : (pc : Int) + o2 = (t2 : Int)) (kd : (x.toInt < 5 ∨ 7 < x.toInt) → V X B own cc G nc ns nx sh I P td ls st) (k0 : x = 5 → V X B own cc G nc ns nx sh I P t0 ls st) (k1 : x = 6 → V X B own cc G nc ns nx sh I P t1 ls st) (k2 : x = 7 → V X B own cc G nc ns nx sh I P t2 ls st) : V X B own cc G nc ns nx sh I P pc ls (.int x :: st) := by
  by_cases hx : x.toInt < 5 ∨ 7 < x.toInt
  · exact V_tableOut hd hx hdf (kd hx)
  · have g1 : ¬ x.toInt < 5 := fun h => hx (Or.inl h)
    have g2 : ¬ 7 < x.toInt := fun h => hx (Or.inr h)
    by_cases e0 : x = 5
    · subst e0; exact V_tableIn hd (by decide) (by decide) rfl h0 (k0 rfl)
    by_cases e1 : x = 6
    · subst e1; exact V_tableIn hd (by decide) (by decide) rfl h1 (k1 rfl)
    by_cases e2 : x = 7
    · subst e2; exact V_tableIn hd (by decide) (by decide) rfl h2 (k2 rfl)
    · exfalso
      rw [i_eq] at e0; rw [i_eq] at e1; rw [i_eq] at e2
      have f0 : x.toInt ≠ 5 := e0; have f1 : x.toInt ≠ 6 := e1; have f2 : x.toInt ≠ 7 := e2
      omega
theorem V_tsw_0_11 {x : Int32} {dflt o0 o1 o2 o3 o4 o5 o6 o7 o8 o9 o10 o11 : Int} {td t0 t1 t2 t3 t4 t5 t6 t7 t8 t9 t10 t11 len : Nat} (hd : decode cc pc = .ok (.tableswitch dflt 0 11 #[o0, o1, o2, o3, o4, o5, o6, o7, o8, o9, o10, o11], len)) (hdf : (pc : Int) + dflt = (td : Int)) (h0 : (pc : Int) + o0 = (t0 : Int)) (h1 : (pc : Int) + o1 = (t1 : Int)) (h2 : (pc : Int) + o2 = (t2 : Int)) (h3 : (pc : Int) + o3 = (t3 : Int)) (h4 : (pc : Int) + o4 = (t4 : Int)) (h5 : (pc : Int) + o5 = (t5 : Int)) (h6 : (pc : Int) + o6 = (t6 : Int)) (h7 : (pc : Int) + o7 = (t7 : Int)) (h8 : (pc : Int) + o8 = (t8 : Int)) (h9 : (pc : Int) + o9 = (t9 : Int)) (h10 : (pc : Int) + o10 = (t10 : Int)) (h11 : (pc : Int) + o11 = (t11 : Int)) (kd : (x.toInt < 0 ∨ 11 < x.toInt) → V X B own cc G nc ns nx sh I P td ls st) (k0 : x = 0 → V X B own cc G nc ns nx sh I P t0 ls st) (k1 : x = 1 → V X B own cc G nc ns nx sh I P t1 ls st) (k2 : x = 2 → V X B own cc G nc ns nx sh I P t2 ls st) (k3 : x = 3 → V X B own cc G nc ns nx sh I P t3 ls st) (k4 : x = 4 → V X B own cc G nc ns nx sh I P t4 ls st) (k5 : x = 5 → V X B own cc G nc ns nx sh I P t5 ls st) (k6 : x = 6 → V X B own cc G nc ns nx sh I P t6 ls st) (k7 : x = 7 → V X B own cc G nc ns nx sh I P t7 ls st) (k8 : x = 8 → V X B own cc G nc ns nx sh I P t8 ls st) (k9 : x = 9 → V X B own cc G nc ns nx sh I P t9 ls st) (k10 : x = 10 → V X B own cc G nc ns nx sh I P t10 ls st) (k11 : x = 11 → V X B own cc G nc ns nx sh I P t11 ls st) : V X B own cc G nc ns nx sh I P pc ls (.int x :: st) := by
  by_cases hx : x.toInt < 0 ∨ 11 < x.toInt
  · exact V_tableOut hd hx hdf (kd hx)
  · have g1 : ¬ x.toInt < 0 := fun h => hx (Or.inl h)
    have g2 : ¬ 11 < x.toInt := fun h => hx (Or.inr h)
    by_cases e0 : x = 0
    · subst e0; exact V_tableIn hd (by decide) (by decide) rfl h0 (k0 rfl)
    by_cases e1 : x = 1
    · subst e1; exact V_tableIn hd (by decide) (by decide) rfl h1 (k1 rfl)
    by_cases e2 : x = 2
    · subst e2; exact V_tableIn hd (by decide) (by decide) rfl h2 (k2 rfl)
    by_cases e3 : x = 3
    · subst e3; exact V_tableIn hd (by decide) (by decide) rfl h3 (k3 rfl)
    by_cases e4 : x = 4
    · subst e4; exact V_tableIn hd (by decide) (by decide) rfl h4 (k4 rfl)
    by_cases e5 : x = 5
    · subst e5; exact V_tableIn hd (by decide) (by decide) rfl h5 (k5 rfl)
    by_cases e6 : x = 6
    · subst e6; exact V_tableIn hd (by decide) (by decide) rfl h6 (k6 rfl)
    by_cases e7 : x = 7
    · subst e7; exact V_tableIn hd (by decide) (by decide) rfl h7 (k7 rfl)
    by_cases e8 : x = 8
    · subst e8; exact V_tableIn hd (by decide) (by decide) rfl h8 (k8 rfl)
    by_cases e9 : x = 9
    · subst e9; exact V_tableIn hd (by decide) (by decide) rfl h9 (k9 rfl)
    by_cases e10 : x = 10
    · subst e10; exact V_tableIn hd (by decide) (by decide) rfl h10 (k10 rfl)
    by_cases e11 : x = 11
    · subst e11; exact V_tableIn hd (by decide) (by decide) rfl h11 (k11 rfl)
    · exfalso
      rw [i_eq] at e0; rw [i_eq] at e1; rw [i_eq] at e2; rw [i_eq] at e3; rw [i_eq] at e4; rw [i_eq] at e5; rw [i_eq] at e6; rw [i_eq] at e7; rw [i_eq] at e8; rw [i_eq] at e9; rw [i_eq] at e10; rw [i_eq] at e11
      have f0 : x.toInt ≠ 0 := e0; have f1 : x.toInt ≠ 1 := e1; have f2 : x.toInt ≠ 2 := e2; have f3 : x.toInt ≠ 3 := e3; have f4 : x.toInt ≠ 4 := e4; have f5 : x.toInt ≠ 5 := e5; have f6 : x.toInt ≠ 6 := e6; have f7 : x.toInt ≠ 7 := e7; have f8 : x.toInt ≠ 8 := e8; have f9 : x.toInt ≠ 9 := e9; have f10 : x.toInt ≠ 10 := e10; have f11 : x.toInt ≠ 11 := e11
      omega
theorem V_tsw_0_4 {x : Int32} {dflt o0 o1 o2 o3 o4 : Int} {td t0 t1 t2 t3 t4 len : Nat} (hd : decode cc pc = .ok (.tableswitch dflt 0 4 #[o0, o1, o2, o3, o4], len)) (hdf : (pc : Int) + dflt = (td : Int)) (h0 : (pc : Int) + o0 = (t0 : Int)) (h1 : (pc : Int) + o1 = (t1 : Int)) (h2 : (pc : Int) + o2 = (t2 : Int)) (h3 : (pc : Int) + o3 = (t3 : Int)) (h4 : (pc : Int) + o4 = (t4 : Int)) (kd : (x.toInt < 0 ∨ 4 < x.toInt) → V X B own cc G nc ns nx sh I P td ls st) (k0 : x = 0 → V X B own cc G nc ns nx sh I P t0 ls st) (k1 : x = 1 → V X B own cc G nc ns nx sh I P t1 ls st) (k2 : x = 2 → V X B own cc G nc ns nx sh I P t2 ls st) (k3 : x = 3 → V X B own cc G nc ns nx sh I P t3 ls st) (k4 : x = 4 → V X B own cc G nc ns nx sh I P t4 ls st) : V X B own cc G nc ns nx sh I P pc ls (.int x :: st) := by
  by_cases hx : x.toInt < 0 ∨ 4 < x.toInt
  · exact V_tableOut hd hx hdf (kd hx)
  · have g1 : ¬ x.toInt < 0 := fun h => hx (Or.inl h)
    have g2 : ¬ 4 < x.toInt := fun h => hx (Or.inr h)
    by_cases e0 : x = 0
    · subst e0; exact V_tableIn hd (by decide) (by decide) rfl h0 (k0 rfl)
    by_cases e1 : x = 1
    · subst e1; exact V_tableIn hd (by decide) (by decide) rfl h1 (k1 rfl)
    by_cases e2 : x = 2
    · subst e2; exact V_tableIn hd (by decide) (by decide) rfl h2 (k2 rfl)
    by_cases e3 : x = 3
    · subst e3; exact V_tableIn hd (by decide) (by decide) rfl h3 (k3 rfl)
    by_cases e4 : x = 4
    · subst e4; exact V_tableIn hd (by decide) (by decide) rfl h4 (k4 rfl)
    · exfalso
      rw [i_eq] at e0; rw [i_eq] at e1; rw [i_eq] at e2; rw [i_eq] at e3; rw [i_eq] at e4
      have f0 : x.toInt ≠ 0 := e0; have f1 : x.toInt ≠ 1 := e1; have f2 : x.toInt ≠ 2 := e2; have f3 : x.toInt ≠ 3 := e3; have f4 : x.toInt ≠ 4 := e4
      omega
theorem V_tsw_0_5 {x : Int32} {dflt o0 o1 o2 o3 o4 o5 : Int} {td t0 t1 t2 t3 t4 t5 len : Nat} (hd : decode cc pc = .ok (.tableswitch dflt 0 5 #[o0, o1, o2, o3, o4, o5], len)) (hdf : (pc : Int) + dflt = (td : Int)) (h0 : (pc : Int) + o0 = (t0 : Int)) (h1 : (pc : Int) + o1 = (t1 : Int)) (h2 : (pc : Int) + o2 = (t2 : Int)) (h3 : (pc : Int) + o3 = (t3 : Int)) (h4 : (pc : Int) + o4 = (t4 : Int)) (h5 : (pc : Int) + o5 = (t5 : Int)) (kd : (x.toInt < 0 ∨ 5 < x.toInt) → V X B own cc G nc ns nx sh I P td ls st) (k0 : x = 0 → V X B own cc G nc ns nx sh I P t0 ls st) (k1 : x = 1 → V X B own cc G nc ns nx sh I P t1 ls st) (k2 : x = 2 → V X B own cc G nc ns nx sh I P t2 ls st) (k3 : x = 3 → V X B own cc G nc ns nx sh I P t3 ls st) (k4 : x = 4 → V X B own cc G nc ns nx sh I P t4 ls st) (k5 : x = 5 → V X B own cc G nc ns nx sh I P t5 ls st) : V X B own cc G nc ns nx sh I P pc ls (.int x :: st) := by
  by_cases hx : x.toInt < 0 ∨ 5 < x.toInt
  · exact V_tableOut hd hx hdf (kd hx)
  · have g1 : ¬ x.toInt < 0 := fun h => hx (Or.inl h)
    have g2 : ¬ 5 < x.toInt := fun h => hx (Or.inr h)
    by_cases e0 : x = 0
    · subst e0; exact V_tableIn hd (by decide) (by decide) rfl h0 (k0 rfl)
    by_cases e1 : x = 1
    · subst e1; exact V_tableIn hd (by decide) (by decide) rfl h1 (k1 rfl)
    by_cases e2 : x = 2
    · subst e2; exact V_tableIn hd (by decide) (by decide) rfl h2 (k2 rfl)
    by_cases e3 : x = 3
    · subst e3; exact V_tableIn hd (by decide) (by decide) rfl h3 (k3 rfl)
    by_cases e4 : x = 4
    · subst e4; exact V_tableIn hd (by decide) (by decide) rfl h4 (k4 rfl)
    by_cases e5 : x = 5
    · subst e5; exact V_tableIn hd (by decide) (by decide) rfl h5 (k5 rfl)
    · exfalso
      rw [i_eq] at e0; rw [i_eq] at e1; rw [i_eq] at e2; rw [i_eq] at e3; rw [i_eq] at e4; rw [i_eq] at e5
      have f0 : x.toInt ≠ 0 := e0; have f1 : x.toInt ≠ 1 := e1; have f2 : x.toInt ≠ 2 := e2; have f3 : x.toInt ≠ 3 := e3; have f4 : x.toInt ≠ 4 := e4; have f5 : x.toInt ≠ 5 := e5
      omega
theorem V_tsw_0_6 {x : Int32} {dflt o0 o1 o2 o3 o4 o5 o6 : Int} {td t0 t1 t2 t3 t4 t5 t6 len : Nat} (hd : decode cc pc = .ok (.tableswitch dflt 0 6 #[o0, o1, o2, o3, o4, o5, o6], len)) (hdf : (pc : Int) + dflt = (td : Int)) (h0 : (pc : Int) + o0 = (t0 : Int)) (h1 : (pc : Int) + o1 = (t1 : Int)) (h2 : (pc : Int) + o2 = (t2 : Int)) (h3 : (pc : Int) + o3 = (t3 : Int)) (h4 : (pc : Int) + o4 = (t4 : Int)) (h5 : (pc : Int) + o5 = (t5 : Int)) (h6 : (pc : Int) + o6 = (t6 : Int)) (kd : (x.toInt < 0 ∨ 6 < x.toInt) → V X B own cc G nc ns nx sh I P td ls st) (k0 : x = 0 → V X B own cc G nc ns nx sh I P t0 ls st) (k1 : x = 1 → V X B own cc G nc ns nx sh I P t1 ls st) (k2 : x = 2 → V X B own cc G nc ns nx sh I P t2 ls st) (k3 : x = 3 → V X B own cc G nc ns nx sh I P t3 ls st) (k4 : x = 4 → V X B own cc G nc ns nx sh I P t4 ls st) (k5 : x = 5 → V X B own cc G nc ns nx sh I P t5 ls st) (k6 : x = 6 → V X B own cc G nc ns nx sh I P t6 ls st) : V X B own cc G nc ns nx sh I P pc ls (.int x :: st) := by
  by_cases hx : x.toInt < 0 ∨ 6 < x.toInt
  · exact V_tableOut hd hx hdf (kd hx)
  · have g1 : ¬ x.toInt < 0 := fun h => hx (Or.inl h)
    have g2 : ¬ 6 < x.toInt := fun h => hx (Or.inr h)
    by_cases e0 : x = 0
    · subst e0; exact V_tableIn hd (by decide) (by decide) rfl h0 (k0 rfl)
    by_cases e1 : x = 1
    · subst e1; exact V_tableIn hd (by decide) (by decide) rfl h1 (k1 rfl)
    by_cases e2 : x = 2
    · subst e2; exact V_tableIn hd (by decide) (by decide) rfl h2 (k2 rfl)
    by_cases e3 : x = 3
    · subst e3; exact V_tableIn hd (by decide) (by decide) rfl h3 (k3 rfl)
    by_cases e4 : x = 4
    · subst e4; exact V_tableIn hd (by decide) (by decide) rfl h4 (k4 rfl)
    by_cases e5 : x = 5
    · subst e5; exact V_tableIn hd (by decide) (by decide) rfl h5 (k5 rfl)
    by_cases e6 : x = 6
    · subst e6; exact V_tableIn hd (by decide) (by decide) rfl h6 (k6 rfl)
    · exfalso
      rw [i_eq] at e0; rw [i_eq] at e1; rw [i_eq] at e2; rw [i_eq] at e3; rw [i_eq] at e4; rw [i_eq] at e5; rw [i_eq] at e6
      have f0 : x.toInt ≠ 0 := e0; have f1 : x.toInt ≠ 1 := e1; have f2 : x.toInt ≠ 2 := e2; have f3 : x.toInt ≠ 3 := e3; have f4 : x.toInt ≠ 4 := e4; have f5 : x.toInt ≠ 5 := e5; have f6 : x.toInt ≠ 6 := e6
      omega
theorem V_tsw_0_2 {x : Int32} {dflt o0 o1 o2 : Int} {td t0 t1 t2 len : Nat} (hd : decode cc pc = .ok (.tableswitch dflt 0 2 #[o0, o1, o2], len)) (hdf : (pc : Int) + dflt = (td : Int)) (h0 : (pc : Int) + o0 = (t0 : Int)) (h1 : (pc : Int) + o1 = (t1 : Int)) (h2 : (pc : Int) + o2 = (t2 : Int)) (kd : (x.toInt < 0 ∨ 2 < x.toInt) → V X B own cc G nc ns nx sh I P td ls st) (k0 : x = 0 → V X B own cc G nc ns nx sh I P t0 ls st) (k1 : x = 1 → V X B own cc G nc ns nx sh I P t1 ls st) (k2 : x = 2 → V X B own cc G nc ns nx sh I P t2 ls st) : V X B own cc G nc ns nx sh I P pc ls (.int x :: st) := by
  by_cases hx : x.toInt < 0 ∨ 2 < x.toInt
  · exact V_tableOut hd hx hdf (kd hx)
  · have g1 : ¬ x.toInt < 0 := fun h => hx (Or.inl h)
    have g2 : ¬ 2 < x.toInt := fun h => hx (Or.inr h)
    by_cases e0 : x = 0
    · subst e0; exact V_tableIn hd (by decide) (by decide) rfl h0 (k0 rfl)
    by_cases e1 : x = 1
    · subst e1; exact V_tableIn hd (by decide) (by decide) rfl h1 (k1 rfl)
    by_cases e2 : x = 2
    · subst e2; exact V_tableIn hd (by decide) (by decide) rfl h2 (k2 rfl)
    · exfalso
      rw [i_eq] at e0; rw [i_eq] at e1; rw [i_eq] at e2
      have f0 : x.toInt ≠ 0 := e0; have f1 : x.toInt ≠ 1 := e1; have f2 : x.toInt ≠ 2 := e2
      omega
theorem V_tsw_0_26 {x : Int32} {dflt o0 o1 o2 o3 o4 o5 o6 o7 o8 o9 o10 o11 o12 o13 o14 o15 o16 o17 o18 o19 o20 o21 o22 o23 o24 o25 o26 : Int} {td t0 t1 t2 t3 t4 t5 t6 t7 t8 t9 t10 t11 t12 t13 t14 t15 t16 t17 t18 t19 t20 t21 t22 t23 t24 t25 t26 len : Nat} (hd : decode cc pc = .ok (.tableswitch dflt 0 26 #[o0, o1, o2, o3, o4, o5, o6, o7, o8, o9, o10, o11, o12, o13, o14, o15, o16, o17, o18, o19, o20, o21, o22, o23, o24, o25, o26], len)) (hdf : (pc : Int) + dflt = (td : Int)) (h0 : (pc : Int) + o0 = (t0 : Int)) (h1 : (pc : Int) + o1 = (t1 : Int)) (h2 : (pc : Int) + o2 = (t2 : Int)) (h3 : (pc : Int) + o3 = (t3 : Int)) (h4 : (pc : Int) + o4 = (t4 : Int)) (h5 : (pc : Int) + o5 = (t5 : Int)) (h6 : (pc : Int) + o6 = (t6 : Int)) (h7 : (pc : Int) + o7 = (t7 : Int)) (h8 : (pc : Int) + o8 = (t8 : Int)) (h9 : (pc : Int) + o9 = (t9 : Int)) (h10 : (pc : Int) + o10 = (t10 : Int)) (h11 : (pc : Int) + o11 = (t11 : Int)) (h12 : (pc : Int) + o12 = (t12 : Int)) (h13 : (pc : Int) + o13 = (t13 : Int)) (h14 : (pc : Int) + o14 = (t14 : Int)) (h15 : (pc : Int) + o15 = (t15 : Int)) (h16 : (pc : Int) + o16 = (t16 : Int)) (h17 : (pc : Int) + o17 = (t17 : Int)) (h18 : (pc : Int) + o18 = (t18 : Int)) (h19 : (pc : Int) + o19 = (t19 : Int)) (h20 : (pc : Int) + o20 = (t20 : Int)) (h21 : (pc : Int) + o21 = (t21 : Int)) (h22 : (pc : Int) + o22 = (t22 : Int)) (h23 : (pc : Int) + o23 = (t23 : Int)) (h24 : (pc : Int) + o24 = (t24 : Int)) (h25 : (pc : Int) + o25 = (t25 : Int)) (h26 : (pc : Int) + o26 = (t26 : Int)) (kd : (x.toInt < 0 ∨ 26 < x.toInt) → V X B own cc G nc ns nx sh I P td ls st) (k0 : x = 0 → V X B own cc G nc ns nx sh I P t0 ls st) (k1 : x = 1 → V X B own cc G nc ns nx sh I P t1 ls st) (k2 : x = 2 → V X B own cc G nc ns nx sh I P t2 ls st) (k3 : x = 3 → V X B own cc G nc ns nx sh I P t3 ls st) (k4 : x = 4 → V X B own cc G nc ns nx sh I P t4 ls st) (k5 : x = 5 → V X B own cc G nc ns nx sh I P t5 ls st) (k6 : x = 6 → V X B own cc G nc ns nx sh I P t6 ls st) (k7 : x = 7 → V X B own cc G nc ns nx sh I P t7 ls st) (k8 : x = 8 → V X B own cc G nc ns nx sh I P t8 ls st) (k9 : x = 9 → V X B own cc G nc ns nx sh I P t9 ls st) (k10 : x = 10 → V X B own cc G nc ns nx sh I P t10 ls st) (k11 : x = 11 → V X B own cc G nc ns nx sh I P t11 ls st) (k12 : x = 12 → V X B own cc G nc ns nx sh I P t12 ls st) (k13 : x = 13 → V X B own cc G nc ns nx sh I P t13 ls st) (k14 : x = 14 → V X B own cc G nc ns nx sh I P t14 ls st) (k15 : x = 15 → V X B own cc G nc ns nx sh I P t15 ls st) (k16 : x = 16 → V X B own cc G nc ns nx sh I P t16 ls st) (k17 : x = 17 → V X B own cc G nc ns nx sh I P t17 ls st) (k18 : x = 18 → V X B own cc G nc ns nx sh I P t18 ls st) (k19 : x = 19 → V X B own cc G nc ns nx sh I P t19 ls st) (k20 : x = 20 → V X B own cc G nc ns nx sh I P t20 ls st) (k21 : x = 21 → V X B own cc G nc ns nx sh I P t21 ls st) (k22 : x = 22 → V X B own cc G nc ns nx sh I P t22 ls st) (k23 : x = 23 → V X B own cc G nc ns nx sh I P t23 ls st) (k24 : x = 24 → V X B own cc G nc ns nx sh I P t24 ls st) (k25 : x = 25 → V X B own cc G nc ns nx sh I P t25 ls st) (k26 : x = 26 → V X B own cc G nc ns nx sh I P t26 ls st) : V X B own cc G nc ns nx sh I P pc ls (.int x :: st) := by
  by_cases hx : x.toInt < 0 ∨ 26 < x.toInt
  · exact V_tableOut hd hx hdf (kd hx)
  · have g1 : ¬ x.toInt < 0 := fun h => hx (Or.inl h)
    have g2 : ¬ 26 < x.toInt := fun h => hx (Or.inr h)
    by_cases e0 : x = 0
    · subst e0; exact V_tableIn hd (by decide) (by decide) rfl h0 (k0 rfl)
    by_cases e1 : x = 1
    · subst e1; exact V_tableIn hd (by decide) (by decide) rfl h1 (k1 rfl)
    by_cases e2 : x = 2
    · subst e2; exact V_tableIn hd (by decide) (by decide) rfl h2 (k2 rfl)
    by_cases e3 : x = 3
    · subst e3; exact V_tableIn hd (by decide) (by decide) rfl h3 (k3 rfl)
    by_cases e4 : x = 4
    · subst e4; exact V_tableIn hd (by decide) (by decide) rfl h4 (k4 rfl)
    by_cases e5 : x = 5
    · subst e5; exact V_tableIn hd (by decide) (by decide) rfl h5 (k5 rfl)
    by_cases e6 : x = 6
    · subst e6; exact V_tableIn hd (by decide) (by decide) rfl h6 (k6 rfl)
    by_cases e7 : x = 7
    · subst e7; exact V_tableIn hd (by decide) (by decide) rfl h7 (k7 rfl)
    by_cases e8 : x = 8
    · subst e8; exact V_tableIn hd (by decide) (by decide) rfl h8 (k8 rfl)
    by_cases e9 : x = 9
    · subst e9; exact V_tableIn hd (by decide) (by decide) rfl h9 (k9 rfl)
    by_cases e10 : x = 10
    · subst e10; exact V_tableIn hd (by decide) (by decide) rfl h10 (k10 rfl)
    by_cases e11 : x = 11
    · subst e11; exact V_tableIn hd (by decide) (by decide) rfl h11 (k11 rfl)
    by_cases e12 : x = 12
    · subst e12; exact V_tableIn hd (by decide) (by decide) rfl h12 (k12 rfl)
    by_cases e13 : x = 13
    · subst e13; exact V_tableIn hd (by decide) (by decide) rfl h13 (k13 rfl)
    by_cases e14 : x = 14
    · subst e14; exact V_tableIn hd (by decide) (by decide) rfl h14 (k14 rfl)
    by_cases e15 : x = 15
    · subst e15; exact V_tableIn hd (by decide) (by decide) rfl h15 (k15 rfl)
    by_cases e16 : x = 16
    · subst e16; exact V_tableIn hd (by decide) (by decide) rfl h16 (k16 rfl)
    by_cases e17 : x = 17
    · subst e17; exact V_tableIn hd (by decide) (by decide) rfl h17 (k17 rfl)
    by_cases e18 : x = 18
    · subst e18; exact V_tableIn hd (by decide) (by decide) rfl h18 (k18 rfl)
    by_cases e19 : x = 19
    · subst e19; exact V_tableIn hd (by decide) (by decide) rfl h19 (k19 rfl)
    by_cases e20 : x = 20
    · subst e20; exact V_tableIn hd (by decide) (by decide) rfl h20 (k20 rfl)
    by_cases e21 : x = 21
    · subst e21; exact V_tableIn hd (by decide) (by decide) rfl h21 (k21 rfl)
    by_cases e22 : x = 22
    · subst e22; exact V_tableIn hd (by decide) (by decide) rfl h22 (k22 rfl)
    by_cases e23 : x = 23
    · subst e23; exact V_tableIn hd (by decide) (by decide) rfl h23 (k23 rfl)
    by_cases e24 : x = 24
    · subst e24; exact V_tableIn hd (by decide) (by decide) rfl h24 (k24 rfl)
    by_cases e25 : x = 25
    · subst e25; exact V_tableIn hd (by decide) (by decide) rfl h25 (k25 rfl)
    by_cases e26 : x = 26
    · subst e26; exact V_tableIn hd (by decide) (by decide) rfl h26 (k26 rfl)
    · exfalso
      rw [i_eq] at e0; rw [i_eq] at e1; rw [i_eq] at e2; rw [i_eq] at e3; rw [i_eq] at e4; rw [i_eq] at e5; rw [i_eq] at e6; rw [i_eq] at e7; rw [i_eq] at e8; rw [i_eq] at e9; rw [i_eq] at e10; rw [i_eq] at e11; rw [i_eq] at e12; rw [i_eq] at e13; rw [i_eq] at e14; rw [i_eq] at e15; rw [i_eq] at e16; rw [i_eq] at e17; rw [i_eq] at e18; rw [i_eq] at e19; rw [i_eq] at e20; rw [i_eq] at e21; rw [i_eq] at e22; rw [i_eq] at e23; rw [i_eq] at e24; rw [i_eq] at e25; rw [i_eq] at e26
      have f0 : x.toInt ≠ 0 := e0; have f1 : x.toInt ≠ 1 := e1; have f2 : x.toInt ≠ 2 := e2; have f3 : x.toInt ≠ 3 := e3; have f4 : x.toInt ≠ 4 := e4; have f5 : x.toInt ≠ 5 := e5; have f6 : x.toInt ≠ 6 := e6; have f7 : x.toInt ≠ 7 := e7; have f8 : x.toInt ≠ 8 := e8; have f9 : x.toInt ≠ 9 := e9; have f10 : x.toInt ≠ 10 := e10; have f11 : x.toInt ≠ 11 := e11; have f12 : x.toInt ≠ 12 := e12; have f13 : x.toInt ≠ 13 := e13; have f14 : x.toInt ≠ 14 := e14; have f15 : x.toInt ≠ 15 := e15; have f16 : x.toInt ≠ 16 := e16; have f17 : x.toInt ≠ 17 := e17; have f18 : x.toInt ≠ 18 := e18; have f19 : x.toInt ≠ 19 := e19; have f20 : x.toInt ≠ 20 := e20; have f21 : x.toInt ≠ 21 := e21; have f22 : x.toInt ≠ 22 := e22; have f23 : x.toInt ≠ 23 := e23; have f24 : x.toInt ≠ 24 := e24; have f25 : x.toInt ≠ 25 := e25; have f26 : x.toInt ≠ 26 := e26
      omega
theorem V_lsw01 {x : Int32} {dflt o0 o1 : Int} {td t0 t1 len : Nat} (hd : decode cc pc = .ok (.lookupswitch dflt #[(0, o0), (1, o1)], len)) (hdf : (pc : Int) + dflt = (td : Int)) (h0 : (pc : Int) + o0 = (t0 : Int)) (h1 : (pc : Int) + o1 = (t1 : Int)) (kd : (x ≠ 0 ∧ x ≠ 1) → V X B own cc G nc ns nx sh I P td ls st) (k0 : x = 0 → V X B own cc G nc ns nx sh I P t0 ls st) (k1 : x = 1 → V X B own cc G nc ns nx sh I P t1 ls st) : V X B own cc G nc ns nx sh I P pc ls (.int x :: st) := by
  by_cases e0 : x = 0
  · subst e0; exact V_lookup hd (by simp) (by simp [Op.lookupswitch.offset]) h0 (k0 rfl)
  · by_cases e1 : x = 1
    · subst e1; exact V_lookup hd (by simp) (by simp [Op.lookupswitch.offset]) h1 (k1 rfl)
    · refine V_lookup hd (by simp) (off := dflt) ?_ hdf (kd ⟨e0, e1⟩)
      rw [i_eq] at e0 e1
      have f0 : ¬ x.toInt = 0 := e0
      have f1 : ¬ x.toInt = 1 := e1
      simp [Op.lookupswitch.offset, List.find?, f0, f1, eq_comm]
theorem V_aaldR {a t n b : Nat} {i : Int32} (hd : decode cc pc = .ok (.aaload, 1)) (hs : sh a = some (.inr (t, n))) (ht : 2 ≤ t) (hin : vp_in i n) (hp : P a i.toNatClampNeg = some b) (kk : V X B own cc G nc ns nx sh I P (pc + 1) ls (.ref (B + b) :: st)) : V X B own cc G nc ns nx sh I P pc ls (.int i :: .ref (B + a) :: st) := by
  refine V_aald hd hs ht hin ?_
  rw [hp]
  exact kk
theorem V_aaldN {a t n : Nat} {i : Int32} (hd : decode cc pc = .ok (.aaload, 1)) (hs : sh a = some (.inr (t, n))) (ht : 2 ≤ t) (hin : vp_in i n) (hp : P a i.toNatClampNeg = none) (kk : V X B own cc G nc ns nx sh I P (pc + 1) ls (.null :: st)) : V X B own cc G nc ns nx sh I P pc ls (.int i :: .ref (B + a) :: st) := by
  refine V_aald hd hs ht hin ?_
  rw [hp]
  exact kk
theorem V_ls {ls' : List (Option Value)} (h : ls = ls') (k : V X B own cc G nc ns nx sh I P pc ls' st) : V X B own cc G nc ns nx sh I P pc ls st := h ▸ k
theorem V_st {st' : List Value} (h : st = st') (k : V X B own cc G nc ns nx sh I P pc ls st') : V X B own cc G nc ns nx sh I P pc ls st := h ▸ k
theorem V_getIv {idx ci k a : Nat} {v : Int32} (hd : decode cc pc = .ok (.getfield idx, 3)) (hf : mFl own idx ci k) (hs : sh a = some (.inl ci)) (h11 : (ci == 11 || mIsR ci k) = false) (hv : I a k = v) (kk : V X B own cc G nc ns nx sh I P (pc + 3) ls (.int v :: st)) : V X B own cc G nc ns nx sh I P pc ls (.ref (B + a) :: st) := V_getI hd hf hs h11 (hv ▸ kk)
theorem V_ialdN {a n i : Nat} (hd : decode cc pc = .ok (.iaload, 1)) (hs : sh a = some (.inr (0, n))) (hi : i < n) (hn : n ≤ 1000) (kk : V X B own cc G nc ns nx sh I P (pc + 1) ls (.int (I a i) :: st)) : V X B own cc G nc ns nx sh I P pc ls (.int (nI i) :: .ref (B + a) :: st) := by
  refine V_iald hd hs (vp_in_nI hi (by omega)) ?_
  rw [nI_clamp (by omega)]
  exact kk
theorem V_ialdNv {a n i : Nat} {v : Int32} (hd : decode cc pc = .ok (.iaload, 1)) (hs : sh a = some (.inr (0, n))) (hi : i < n) (hn : n ≤ 1000) (hv : I a i = v) (kk : V X B own cc G nc ns nx sh I P (pc + 1) ls (.int v :: st)) : V X B own cc G nc ns nx sh I P pc ls (.int (nI i) :: .ref (B + a) :: st) := V_ialdN hd hs hi hn (hv ▸ kk)
theorem V_baldN {a n i : Nat} (hd : decode cc pc = .ok (.baload, 1)) (hs : sh a = some (.inr (1, n))) (hi : i < n) (hn : n ≤ 1000) (kk : V X B own cc G nc ns nx sh I P (pc + 1) ls (.int (I a i) :: st)) : V X B own cc G nc ns nx sh I P pc ls (.int (nI i) :: .ref (B + a) :: st) := by
  refine V_bald hd hs (vp_in_nI hi (by omega)) ?_
  rw [nI_clamp (by omega)]
  exact kk
theorem V_aaldRN {a t n i b : Nat} (hd : decode cc pc = .ok (.aaload, 1)) (hs : sh a = some (.inr (t, n))) (ht : 2 ≤ t) (hi : i < n) (hn : n ≤ 1000) (hp : P a i = some b) (kk : V X B own cc G nc ns nx sh I P (pc + 1) ls (.ref (B + b) :: st)) : V X B own cc G nc ns nx sh I P pc ls (.int (nI i) :: .ref (B + a) :: st) := by
  refine V_aaldR hd hs ht (vp_in_nI hi (by omega)) ?_ kk
  rw [nI_clamp (by omega)]
  exact hp
theorem V_iastN {a n i : Nat} {x : Int32} (hd : decode cc pc = .ok (.iastore, 1)) (hs : sh a = some (.inr (0, n))) (hi : i < n) (hn : n ≤ 1000) (kk : V X B own cc G nc ns nx sh (mUp I a i x) P (pc + 1) ls st) : V X B own cc G nc ns nx sh I P pc ls (.int x :: .int (nI i) :: .ref (B + a) :: st) := by
  refine V_iast hd hs (vp_in_nI hi (by omega)) ?_
  rw [nI_clamp (by omega)]
  exact kk
theorem V_bastN {a n i : Nat} {x : Int32} (hd : decode cc pc = .ok (.bastore, 1)) (hs : sh a = some (.inr (1, n))) (hi : i < n) (hn : n ≤ 1000) (kk : V X B own cc G nc ns nx sh (mUp I a i (x.toInt8.toInt32)) P (pc + 1) ls st) : V X B own cc G nc ns nx sh I P pc ls (.int x :: .int (nI i) :: .ref (B + a) :: st) := by
  refine V_bast hd hs (vp_in_nI hi (by omega)) ?_
  rw [nI_clamp (by omega)]
  exact kk
theorem V_aastN {a b t n i : Nat} (hd : decode cc pc = .ok (.aastore, 1)) (hs : sh a = some (.inr (t, n))) (ht : 2 ≤ t) (hb : sh b = some (.inl (mElem t))) (hi : i < n) (hn : n ≤ 1000) (kk : V X B own cc G nc ns nx sh I (mUp P a i (some b)) (pc + 1) ls st) : V X B own cc G nc ns nx sh I P pc ls (.ref (B + b) :: .int (nI i) :: .ref (B + a) :: st) := by
  refine V_aast hd hs ht hb (vp_in_nI hi (by omega)) ?_
  rw [nI_clamp (by omega)]
  exact kk
theorem mRf_some {b : Nat} : mRf B (some b) = .ref (B + b) := rfl
theorem mRf_none : mRf B none = .null := rfl
end VU
