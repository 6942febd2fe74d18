/-! ===== one call on both: the relation before and behind ===== -/
def OpAt (X : mX) (B : Nat) (dC dM : mMd) (mc ms : Nat) (As : List Value) (stp nx : Nat) (sh : Nat → Option mSh) (I : mI) (P : mP) : Prop := ∃ PoC : mPo, Ev X B dC mc ms (.ref (B + 0) :: As) nx sh I P PoC ∧ ∀ v nx1 sh1 I1 P1, PoC v nx1 sh1 I1 P1 → ∃ (r : Int32) (PoM : mPo), v = some (.int r) ∧ sh1 35 = some (.inl 12) ∧ Ev X B dM 0 0 (.ref (B + 35) :: As) nx1 sh1 I1 P1 PoM ∧ ∀ v2 nx2 sh2 I2 P2, PoM v2 nx2 sh2 I2 P2 → v2 = some (.int r) ∧ St (stp + 1) nx2 sh2 I2 P2
theorem csF_no : ∀ c : Fin 76, ∀ z ∈ ([.inl 0, .inl 7, .inl 3, .inl 4] : List mSh), csF c ≠ some z ∧ msF c ≠ some z := by decide +kernel
section OP
variable {X : mX} {B : Nat} {dC dM : mMd} {mc ms nx nx1 nx2 stp : Nat} {As : List Value} {sh sh1 sh2 : Nat → Option mSh} {I I1 I2 I' : mI} {P P1 P2 : mP} {m na ng nk nr nw nf nl dr rl : Nat}
theorem R1.ne (h : R1 nx sh P) {c c' : Nat} {z z' : mSh} (hc : sh c = some z) (hz : z ∈ ([.inl 0, .inl 7, .inl 3, .inl 4] : List mSh)) (h76 : c' < 76) (hc' : csF c' = some z' ∨ msF c' = some z') : c ≠ c' := by
  intro e
  subst e
  have hn := csF_no ⟨c, h76⟩ z hz
  rcases hc' with hx | hx
  · have := h.1.1 c z' hx
    rw [hc] at this
    cases this
    exact hn.1 hx
  · have := h.2.1.1 c z' hx
    rw [hc] at this
    cases this
    exact hn.2 hx
theorem R1.nc (h : R1 nx sh P) {c c' : Nat} {z : mSh} (hc : sh c = some z) (hz : z ∈ ([.inl 0, .inl 7, .inl 3, .inl 4] : List mSh)) (h76 : c' < 76) (hc' : (csF c').isSome || (msF c').isSome) : c ≠ c' := by
  rw [Bool.or_eq_true, Option.isSome_iff_exists, Option.isSome_iff_exists] at hc'
  rcases hc' with ⟨z', e⟩ | ⟨z', e⟩
  · exact h.ne hc hz h76 (Or.inl e)
  · exact h.ne hc hz h76 (Or.inr e)
theorem OpAt.det {r r' : Int32} (hC : Ev X B dC mc ms (.ref (B + 0) :: As) nx sh I P (mDet (some (.int r)) nx1 sh1 I1 P1)) (h35 : sh1 35 = some (.inl 12)) (hM : Ev X B dM 0 0 (.ref (B + 35) :: As) nx1 sh1 I1 P1 (mDet (some (.int r')) nx2 sh2 I2 P2)) (hr : r' = r) (hS : St (stp + 1) nx2 sh2 I2 P2) : OpAt X B dC dM mc ms As stp nx sh I P := by
  refine ⟨_, hC, ?_⟩
  rintro _ _ _ _ _ ⟨rfl, rfl, rfl, rfl, rfl⟩
  refine ⟨r, _, rfl, h35, hM, ?_⟩
  rintro _ _ _ _ _ ⟨rfl, rfl, rfl, rfl, rfl⟩
  exact ⟨by rw [hr], hS⟩
theorem OpAt.scr {r : Int32} (hC : Ev X B dC mc ms (.ref (B + 0) :: As) nx sh I P (mScr r nx sh I P)) (hR : RR stp nx sh I P m na ng nk nr nw nf nl dr rl) (hM : ∀ I1 P1, RR stp nx sh I1 P1 m na ng nk nr nw nf nl dr rl → (∀ c, c ≠ 30 → c ≠ 33 → c ≠ 34 → I1 c = I c) → ∃ I2, (∀ c k, ¬ scI c k → I2 c k = I1 c k) ∧ Ev X B dM 0 0 (.ref (B + 35) :: As) nx sh I1 P1 (mDet (some (.int r)) nx sh I2 P1)) : OpAt X B dC dM mc ms As stp nx sh I P := by
  refine ⟨_, hC, ?_⟩
  rintro v nx1 sh1 I1 P1 ⟨hv, hn, hsh, hI, hP⟩
  have hn := hn.symm
  have hsh := hsh.symm
  subst hn
  subst hsh
  subst hv
  have hR1 : RR stp nx sh I1 P1 m na ng nk nr nw nf nl dr rl := hR.scr (Nat.le_refl _) (fun c k h => hI c k (fun e => h (Or.inl e)) (fun e => h (Or.inr (Or.inl e))) (fun e => h (Or.inr (Or.inr (Or.inl e))))) hP
  obtain ⟨I2, hs, hE⟩ := hM I1 P1 hR1 (fun c a1 a2 a3 => funext fun k => hI c k a1 a2 a3)
  refine ⟨r, _, rfl, hR1.1.2.1.1 35 _ rfl, hE, ?_⟩
  rintro _ _ _ _ _ ⟨rfl, rfl, rfl, rfl, rfl⟩
  exact ⟨rfl, m, na, ng, nk, nr, nw, nf, nl, dr, rl, hR1.scr (Nat.le_succ _) hs (fun _ _ _ => rfl)⟩
theorem RR.same (h : RR stp nx sh I P m na ng nk nr nw nf nl dr rl) : St (stp + 1) nx sh I P := ⟨m, na, ng, nk, nr, nw, nf, nl, dr, rl, h.scr (Nat.le_succ _) (fun _ _ _ => rfl) (fun _ _ _ => rfl)⟩
theorem RR.s35 (h : RR stp nx sh I P m na ng nk nr nw nf nl dr rl) : sh 35 = some (.inl 12) := h.1.2.1.1 35 _ rfl
theorem RR.tape {m' : Nat} (h : RR stp nx sh I P m na ng nk nr nw nf nl dr rl) (eI : ∀ c, c ≠ 2 → c ≠ 3 → c ≠ 48 → c ≠ 35 → I' c = I c) (e35 : ∀ k, k ≠ 14 → I' 35 k = I 35 k) (n2 : R2 I' m') : RR (stp + 1) nx sh I' P m' na ng nk nr nw nf nl dr rl := by
  obtain ⟨h1, h2, h3, h4, h5, h6, h7, h8, h9, h10, h11, h12⟩ := h
  refine ⟨h1, n2, R3.cg h3 ?_ ?_ ?_ ?_, R4.cg h4 (fun _ _ h => h) ?_ ?_ ?_ ?_ ?_ ?_ ?_ ?_ ?_ ?_, R5.cg h5 (fun _ _ h => h) ?_ ?_ ?_ ?_ ?_ ?_ ?_, R6.cg h6 (Nat.le_refl _) (fun _ _ h => h) ?_ ?_ ?_ ?_ ?_, R7.cg h7 ?_ ?_ ?_ ?_ ?_ ?_ ?_, R8.cg h8 ?_ ?_ ?_ ?_ ?_ ?_ ?_, R9.cg h9 ?_ ?_ ?_ ?_ ?_ ?_ ?_, R10.cg h10 ?_ ?_ ?_ ?_ ?_ ?_ ?_ ?_, (R11.cg h11 ?_ ?_ ?_ ?_ ?_ ?_ ?_ ?_).up (Nat.le_succ _), R12.cg h12 ?_ ?_⟩
  all_goals first
    | rfl
    | exact eI _ (by decide) (by decide) (by decide) (by decide)
    | exact congrFun (eI _ (by decide) (by decide) (by decide) (by decide)) _
    | exact e35 _ (by decide)
    | exact fun c a b => eI c (by omega) (by omega) (by omega) (by omega)
    | exact fun c hc _ => eI c (R1.nc h1 hc (by simp) (by decide) rfl) (R1.nc h1 hc (by simp) (by decide) rfl) (R1.nc h1 hc (by simp) (by decide) rfl) (R1.nc h1 hc (by simp) (by decide) rfl)
    | exact fun c hc => eI c (R1.nc h1 hc (by simp) (by decide) rfl) (R1.nc h1 hc (by simp) (by decide) rfl) (R1.nc h1 hc (by simp) (by decide) rfl) (R1.nc h1 hc (by simp) (by decide) rfl)
    | exact fun c hc hg => eI c (by omega) (by omega) (by omega) (by omega)
    | exact fun c hc => rfl
    | exact fun c hc _ => rfl
theorem RR.rank {n : Nat} (h : RR stp nx sh I P m na ng nk nr nw nf nl dr rl) (eI : ∀ c, c ≠ 8 → c ≠ 9 → c ≠ 10 → c ≠ 11 → c ≠ 49 → c ≠ 50 → c ≠ 51 → c ≠ 35 → I' c = I c) (e35 : ∀ k, k ≠ 99 → I' 35 k = I 35 k) (n7 : R7 I' n) : RR (stp + 1) nx sh I' P m na ng nk n nw nf nl dr rl := by
  obtain ⟨h1, h2, h3, h4, h5, h6, h7, h8, h9, h10, h11, h12⟩ := h
  refine ⟨h1, R2.cg h2 ?_ ?_ ?_ ?_, R3.cg h3 ?_ ?_ ?_ ?_, R4.cg h4 (fun _ _ h => h) ?_ ?_ ?_ ?_ ?_ ?_ ?_ ?_ ?_ ?_, R5.cg h5 (fun _ _ h => h) ?_ ?_ ?_ ?_ ?_ ?_ ?_, R6.cg h6 (Nat.le_refl _) (fun _ _ h => h) ?_ ?_ ?_ ?_ ?_, n7, R8.cg h8 ?_ ?_ ?_ ?_ ?_ ?_ ?_, R9.cg h9 ?_ ?_ ?_ ?_ ?_ ?_ ?_, R10.cg h10 ?_ ?_ ?_ ?_ ?_ ?_ ?_ ?_, (R11.cg h11 ?_ ?_ ?_ ?_ ?_ ?_ ?_ ?_).up (Nat.le_succ _), R12.cg h12 ?_ ?_⟩
  all_goals first
    | rfl
    | exact eI _ (by decide) (by decide) (by decide) (by decide) (by decide) (by decide) (by decide) (by decide)
    | exact congrFun (eI _ (by decide) (by decide) (by decide) (by decide) (by decide) (by decide) (by decide) (by decide)) _
    | exact e35 _ (by decide)
    | exact fun c a b => eI c (by omega) (by omega) (by omega) (by omega) (by omega) (by omega) (by omega) (by omega)
    | exact fun c hc _ => eI c (R1.nc h1 hc (by simp) (by decide) rfl) (R1.nc h1 hc (by simp) (by decide) rfl) (R1.nc h1 hc (by simp) (by decide) rfl) (R1.nc h1 hc (by simp) (by decide) rfl) (R1.nc h1 hc (by simp) (by decide) rfl) (R1.nc h1 hc (by simp) (by decide) rfl) (R1.nc h1 hc (by simp) (by decide) rfl) (R1.nc h1 hc (by simp) (by decide) rfl)
    | exact fun c hc => eI c (R1.nc h1 hc (by simp) (by decide) rfl) (R1.nc h1 hc (by simp) (by decide) rfl) (R1.nc h1 hc (by simp) (by decide) rfl) (R1.nc h1 hc (by simp) (by decide) rfl) (R1.nc h1 hc (by simp) (by decide) rfl) (R1.nc h1 hc (by simp) (by decide) rfl) (R1.nc h1 hc (by simp) (by decide) rfl) (R1.nc h1 hc (by simp) (by decide) rfl)
    | exact fun c hc hg => eI c (by omega) (by omega) (by omega) (by omega) (by omega) (by omega) (by omega) (by omega)
    | exact fun c hc => rfl
    | exact fun c hc _ => rfl
theorem RR.wed {n : Nat} (h : RR stp nx sh I P m na ng nk nr nw nf nl dr rl) (eI : ∀ c, c ≠ 12 → c ≠ 13 → c ≠ 14 → c ≠ 15 → c ≠ 52 → c ≠ 53 → c ≠ 54 → c ≠ 35 → I' c = I c) (e35 : ∀ k, k ≠ 99 → I' 35 k = I 35 k) (n8 : R8 I' n) : RR (stp + 1) nx sh I' P m na ng nk nr n nf nl dr rl := by
  obtain ⟨h1, h2, h3, h4, h5, h6, h7, h8, h9, h10, h11, h12⟩ := h
  refine ⟨h1, R2.cg h2 ?_ ?_ ?_ ?_, R3.cg h3 ?_ ?_ ?_ ?_, R4.cg h4 (fun _ _ h => h) ?_ ?_ ?_ ?_ ?_ ?_ ?_ ?_ ?_ ?_, R5.cg h5 (fun _ _ h => h) ?_ ?_ ?_ ?_ ?_ ?_ ?_, R6.cg h6 (Nat.le_refl _) (fun _ _ h => h) ?_ ?_ ?_ ?_ ?_, R7.cg h7 ?_ ?_ ?_ ?_ ?_ ?_ ?_, n8, R9.cg h9 ?_ ?_ ?_ ?_ ?_ ?_ ?_, R10.cg h10 ?_ ?_ ?_ ?_ ?_ ?_ ?_ ?_, (R11.cg h11 ?_ ?_ ?_ ?_ ?_ ?_ ?_ ?_).up (Nat.le_succ _), R12.cg h12 ?_ ?_⟩
  all_goals first
    | rfl
    | exact eI _ (by decide) (by decide) (by decide) (by decide) (by decide) (by decide) (by decide) (by decide)
    | exact congrFun (eI _ (by decide) (by decide) (by decide) (by decide) (by decide) (by decide) (by decide) (by decide)) _
    | exact e35 _ (by decide)
    | exact fun c a b => eI c (by omega) (by omega) (by omega) (by omega) (by omega) (by omega) (by omega) (by omega)
    | exact fun c hc _ => eI c (R1.nc h1 hc (by simp) (by decide) rfl) (R1.nc h1 hc (by simp) (by decide) rfl) (R1.nc h1 hc (by simp) (by decide) rfl) (R1.nc h1 hc (by simp) (by decide) rfl) (R1.nc h1 hc (by simp) (by decide) rfl) (R1.nc h1 hc (by simp) (by decide) rfl) (R1.nc h1 hc (by simp) (by decide) rfl) (R1.nc h1 hc (by simp) (by decide) rfl)
    | exact fun c hc => eI c (R1.nc h1 hc (by simp) (by decide) rfl) (R1.nc h1 hc (by simp) (by decide) rfl) (R1.nc h1 hc (by simp) (by decide) rfl) (R1.nc h1 hc (by simp) (by decide) rfl) (R1.nc h1 hc (by simp) (by decide) rfl) (R1.nc h1 hc (by simp) (by decide) rfl) (R1.nc h1 hc (by simp) (by decide) rfl) (R1.nc h1 hc (by simp) (by decide) rfl)
    | exact fun c hc hg => eI c (by omega) (by omega) (by omega) (by omega) (by omega) (by omega) (by omega) (by omega)
    | exact fun c hc => rfl
    | exact fun c hc _ => rfl
theorem RR.feast {n : Nat} (h : RR stp nx sh I P m na ng nk nr nw nf nl dr rl) (eI : ∀ c, c ≠ 16 → c ≠ 17 → c ≠ 18 → c ≠ 19 → c ≠ 55 → c ≠ 56 → c ≠ 35 → I' c = I c) (e35 : ∀ k, k ≠ 31 → I' 35 k = I 35 k) (n9 : R9 I' n) : RR (stp + 1) nx sh I' P m na ng nk nr nw n nl dr rl := by
  obtain ⟨h1, h2, h3, h4, h5, h6, h7, h8, h9, h10, h11, h12⟩ := h
  refine ⟨h1, R2.cg h2 ?_ ?_ ?_ ?_, R3.cg h3 ?_ ?_ ?_ ?_, R4.cg h4 (fun _ _ h => h) ?_ ?_ ?_ ?_ ?_ ?_ ?_ ?_ ?_ ?_, R5.cg h5 (fun _ _ h => h) ?_ ?_ ?_ ?_ ?_ ?_ ?_, R6.cg h6 (Nat.le_refl _) (fun _ _ h => h) ?_ ?_ ?_ ?_ ?_, R7.cg h7 ?_ ?_ ?_ ?_ ?_ ?_ ?_, R8.cg h8 ?_ ?_ ?_ ?_ ?_ ?_ ?_, n9, R10.cg h10 ?_ ?_ ?_ ?_ ?_ ?_ ?_ ?_, (R11.cg h11 ?_ ?_ ?_ ?_ ?_ ?_ ?_ ?_).up (Nat.le_succ _), R12.cg h12 ?_ ?_⟩
  all_goals first
    | rfl
    | exact eI _ (by decide) (by decide) (by decide) (by decide) (by decide) (by decide) (by decide)
    | exact congrFun (eI _ (by decide) (by decide) (by decide) (by decide) (by decide) (by decide) (by decide)) _
    | exact e35 _ (by decide)
    | exact fun c a b => eI c (by omega) (by omega) (by omega) (by omega) (by omega) (by omega) (by omega)
    | exact fun c hc _ => eI c (R1.nc h1 hc (by simp) (by decide) rfl) (R1.nc h1 hc (by simp) (by decide) rfl) (R1.nc h1 hc (by simp) (by decide) rfl) (R1.nc h1 hc (by simp) (by decide) rfl) (R1.nc h1 hc (by simp) (by decide) rfl) (R1.nc h1 hc (by simp) (by decide) rfl) (R1.nc h1 hc (by simp) (by decide) rfl)
    | exact fun c hc => eI c (R1.nc h1 hc (by simp) (by decide) rfl) (R1.nc h1 hc (by simp) (by decide) rfl) (R1.nc h1 hc (by simp) (by decide) rfl) (R1.nc h1 hc (by simp) (by decide) rfl) (R1.nc h1 hc (by simp) (by decide) rfl) (R1.nc h1 hc (by simp) (by decide) rfl) (R1.nc h1 hc (by simp) (by decide) rfl)
    | exact fun c hc hg => eI c (by omega) (by omega) (by omega) (by omega) (by omega) (by omega) (by omega)
    | exact fun c hc => rfl
    | exact fun c hc _ => rfl
theorem RR.like {n : Nat} (h : RR stp nx sh I P m na ng nk nr nw nf nl dr rl) (eI : ∀ c, c ≠ 20 → c ≠ 21 → c ≠ 22 → c ≠ 23 → c ≠ 61 → c ≠ 62 → c ≠ 63 → c ≠ 35 → I' c = I c) (e35 : ∀ k, k ≠ 33 → I' 35 k = I 35 k) (n10 : R10 I' n) : RR (stp + 1) nx sh I' P m na ng nk nr nw nf n dr rl := by
  obtain ⟨h1, h2, h3, h4, h5, h6, h7, h8, h9, h10, h11, h12⟩ := h
  refine ⟨h1, R2.cg h2 ?_ ?_ ?_ ?_, R3.cg h3 ?_ ?_ ?_ ?_, R4.cg h4 (fun _ _ h => h) ?_ ?_ ?_ ?_ ?_ ?_ ?_ ?_ ?_ ?_, R5.cg h5 (fun _ _ h => h) ?_ ?_ ?_ ?_ ?_ ?_ ?_, R6.cg h6 (Nat.le_refl _) (fun _ _ h => h) ?_ ?_ ?_ ?_ ?_, R7.cg h7 ?_ ?_ ?_ ?_ ?_ ?_ ?_, R8.cg h8 ?_ ?_ ?_ ?_ ?_ ?_ ?_, R9.cg h9 ?_ ?_ ?_ ?_ ?_ ?_ ?_, n10, (R11.cg h11 ?_ ?_ ?_ ?_ ?_ ?_ ?_ ?_).up (Nat.le_succ _), R12.cg h12 ?_ ?_⟩
  all_goals first
    | rfl
    | exact eI _ (by decide) (by decide) (by decide) (by decide) (by decide) (by decide) (by decide) (by decide)
    | exact congrFun (eI _ (by decide) (by decide) (by decide) (by decide) (by decide) (by decide) (by decide) (by decide)) _
    | exact e35 _ (by decide)
    | exact fun c a b => eI c (by omega) (by omega) (by omega) (by omega) (by omega) (by omega) (by omega) (by omega)
    | exact fun c hc _ => eI c (R1.nc h1 hc (by simp) (by decide) rfl) (R1.nc h1 hc (by simp) (by decide) rfl) (R1.nc h1 hc (by simp) (by decide) rfl) (R1.nc h1 hc (by simp) (by decide) rfl) (R1.nc h1 hc (by simp) (by decide) rfl) (R1.nc h1 hc (by simp) (by decide) rfl) (R1.nc h1 hc (by simp) (by decide) rfl) (R1.nc h1 hc (by simp) (by decide) rfl)
    | exact fun c hc => eI c (R1.nc h1 hc (by simp) (by decide) rfl) (R1.nc h1 hc (by simp) (by decide) rfl) (R1.nc h1 hc (by simp) (by decide) rfl) (R1.nc h1 hc (by simp) (by decide) rfl) (R1.nc h1 hc (by simp) (by decide) rfl) (R1.nc h1 hc (by simp) (by decide) rfl) (R1.nc h1 hc (by simp) (by decide) rfl) (R1.nc h1 hc (by simp) (by decide) rfl)
    | exact fun c hc hg => eI c (by omega) (by omega) (by omega) (by omega) (by omega) (by omega) (by omega) (by omega)
    | exact fun c hc => rfl
    | exact fun c hc _ => rfl
theorem RR.price (h : RR stp nx sh I P m na ng nk nr nw nf nl dr rl) (eI : ∀ c, c ≠ 29 → c ≠ 67 → c ≠ 35 → I' c = I c) (e35 : ∀ k, k ≠ 99 → I' 35 k = I 35 k) (n12 : R12 I') : RR (stp + 1) nx sh I' P m na ng nk nr nw nf nl dr rl := by
  obtain ⟨h1, h2, h3, h4, h5, h6, h7, h8, h9, h10, h11, h12⟩ := h
  refine ⟨h1, R2.cg h2 ?_ ?_ ?_ ?_, R3.cg h3 ?_ ?_ ?_ ?_, R4.cg h4 (fun _ _ h => h) ?_ ?_ ?_ ?_ ?_ ?_ ?_ ?_ ?_ ?_, R5.cg h5 (fun _ _ h => h) ?_ ?_ ?_ ?_ ?_ ?_ ?_, R6.cg h6 (Nat.le_refl _) (fun _ _ h => h) ?_ ?_ ?_ ?_ ?_, R7.cg h7 ?_ ?_ ?_ ?_ ?_ ?_ ?_, R8.cg h8 ?_ ?_ ?_ ?_ ?_ ?_ ?_, R9.cg h9 ?_ ?_ ?_ ?_ ?_ ?_ ?_, R10.cg h10 ?_ ?_ ?_ ?_ ?_ ?_ ?_ ?_, (R11.cg h11 ?_ ?_ ?_ ?_ ?_ ?_ ?_ ?_).up (Nat.le_succ _), n12⟩
  all_goals first
    | rfl
    | exact eI _ (by decide) (by decide) (by decide)
    | exact congrFun (eI _ (by decide) (by decide) (by decide)) _
    | exact e35 _ (by decide)
    | exact fun c a b => eI c (by omega) (by omega) (by omega)
    | exact fun c hc _ => eI c (R1.nc h1 hc (by simp) (by decide) rfl) (R1.nc h1 hc (by simp) (by decide) rfl) (R1.nc h1 hc (by simp) (by decide) rfl)
    | exact fun c hc => eI c (R1.nc h1 hc (by simp) (by decide) rfl) (R1.nc h1 hc (by simp) (by decide) rfl) (R1.nc h1 hc (by simp) (by decide) rfl)
    | exact fun c hc hg => eI c (by omega) (by omega) (by omega)
    | exact fun c hc => rfl
    | exact fun c hc _ => rfl
end OP
