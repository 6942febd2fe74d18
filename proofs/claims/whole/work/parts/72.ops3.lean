/-! ===== gowns and letters ===== -/
theorem pRk_cm {I I1 : mI} {p : Nat} {day : Int32} (e : ∀ c, 36 ≤ c → c ≤ 75 → I1 c = I c) : pRk I1 p day = pRk I p day := by
  unfold pRk mRk crC
  rw [e 49 (by decide) (by decide), e 50 (by decide) (by decide), e 51 (by decide) (by decide)]
theorem pOc_cm {I I1 : mI} {nf p : Nat} {day : Int32} (e : ∀ c, 36 ≤ c → c ≤ 75 → I1 c = I c) : pOc I1 nf p day = pOc I nf p day := by
  unfold pOc mOcc cwC
  rw [e 52 (by decide) (by decide), e 53 (by decide) (by decide), e 54 (by decide) (by decide), e 55 (by decide) (by decide), e 56 (by decide) (by decide)]
theorem pBo_cm {I I1 : mI} {n nl a g : Nat} {rank occ day : Int32} (e : ∀ c, 36 ≤ c → c ≤ 75 → I1 c = I c) : pBo I1 n nl a rank occ g day = pBo I n nl a rank occ g day := by
  unfold pBo qBo qBi qBr qInF qRp mCt mHl mLk rmC
  rw [e 36 (by decide) (by decide), e 37 (by decide) (by decide), e 38 (by decide) (by decide), e 40 (by decide) (by decide), e 41 (by decide) (by decide), e 42 (by decide) (by decide), e 43 (by decide) (by decide), e 44 (by decide) (by decide), e 45 (by decide) (by decide), e 57 (by decide) (by decide), e 58 (by decide) (by decide), e 59 (by decide) (by decide), e 60 (by decide) (by decide), e 61 (by decide) (by decide), e 62 (by decide) (by decide), e 63 (by decide) (by decide)]
theorem pFi_cm {I I1 : mI} {n nl nf p g : Nat} {day : Int32} (e : ∀ c, 36 ≤ c → c ≤ 75 → I1 c = I c) : pFi I1 n nl nf p g day = pFi I n nl nf p g day := by
  unfold pFi pPn pFs
  simp only [pBo_cm e, pRk_cm e, pOc_cm e]
  unfold rmC
  rw [e 37 (by decide) (by decide), e 46 (by decide) (by decide), e 64 (by decide) (by decide)]
theorem pPt_cm {I I1 : mI} {n k : Nat} {day : Int32} (e : ∀ c, 36 ≤ c → c ≤ 75 → I1 c = I c) : pPt I1 n day k = pPt I n day k := by
  unfold pPt qInF qRp
  rw [e 36 (by decide) (by decide), e 39 (by decide) (by decide), e 40 (by decide) (by decide)]
theorem MJ.cm {sh sh1 : Nat → Option mSh} {I I1 : mI} {P P1 : mP} {n ng nl nf : Nat} (h : MJ sh I P n ng nl nf) (hW : MW sh1 P1) (e : ∀ c, 36 ≤ c → c ≤ 75 → I1 c = I c) (e35 : I1 35 = I 35) : MJ sh1 I1 P1 n ng nl nf := by
  obtain ⟨h1, h2, h3, h4, h5, h6, h7, h8⟩ := h
  unfold MJ LkOk rmC crC cwC at *
  rw [e35, e 37 (by decide) (by decide), e 41 (by decide) (by decide), e 49 (by decide) (by decide), e 52 (by decide) (by decide), e 58 (by decide) (by decide), e 61 (by decide) (by decide), e 62 (by decide) (by decide)]
  exact ⟨hW, h2, h3, h4, h5, h6, h7, h8⟩
theorem cpF_c {c k b : Nat} (h : cpF c k = some b) : c < 35 ∧ c ≠ 7 ∧ c ≠ 24 ∧ c ≠ 25 ∧ ¬ (c = 1 ∧ k = 1) := by
  unfold cpF at h
  split at h <;> first | decide | cases h
section O3
variable {X : mX} {B nx stp : Nat} {sh sh' : Nat → Option mSh} {I I' : mI} {P P' : mP} {m na ng nk nr nw nf nl dr rl : Nat}
theorem RR.seal {o : Nat} (h : RR stp nx sh I P m na ng nk nr nw nf nl dr rl) (so : sh o = some (.inl 3)) (eI : ∀ c, c ≠ 60 → c ≠ o → c ≠ 0 → c ≠ 35 → I' c = I c) (e0 : ∀ k, k ≠ 99 → I' 0 k = I 0 k) (e35 : ∀ k, k ≠ 99 → I' 35 k = I 35 k) (eP : ∀ c k, ¬ (c = 30 ∧ k = 2) → P' c k = P c k) (n5 : R5 sh I' P' ng) : RR (stp + 1) nx sh I' P' m na ng nk nr nw nf nl dr rl := by
  obtain ⟨h1, h2, h3, h4, h5, h6, h7, h8, h9, h10, h11, h12⟩ := h
  have h76 := h1.2.2.1
  have o76 : ∀ c', c' < 76 → ((csF c').isSome || (msF c').isSome) = true → o ≠ c' := fun c' a b => R1.nc h1 so (by simp) a b
  refine ⟨R1.cg h1 (Nat.le_refl _) (fun _ _ h => h) h1.2.2.2 (fun c k b hc => eP c k (fun h => by rw [h.1, h.2] at hc; cases hc)) (funext fun k => eP 35 k (by omega)), R2.cg h2 ?_ ?_ ?_ ?_, R3.cg h3 ?_ ?_ ?_ ?_, R4.cg h4 (fun _ _ h => h) ?_ ?_ ?_ ?_ ?_ ?_ ?_ ?_ ?_ ?_, n5, R6.cg h6 (by omega) (fun _ _ h => h) ?_ ?_ ?_ ?_ ?_, R7.cg h7 ?_ ?_ ?_ ?_ ?_ ?_ ?_, R8.cg h8 ?_ ?_ ?_ ?_ ?_ ?_ ?_, R9.cg h9 ?_ ?_ ?_ ?_ ?_ ?_ ?_, R10.cg h10 ?_ ?_ ?_ ?_ ?_ ?_ ?_ ?_, (R11.cg h11 ?_ ?_ ?_ ?_ ?_ ?_ ?_ ?_).up (Nat.le_succ _), R12.cg h12 ?_ ?_⟩
  all_goals first
    | exact eI _ (by decide) (o76 _ (by decide) rfl).symm (by decide) (by decide)
    | exact congrFun (eI _ (by decide) (o76 _ (by decide) rfl).symm (by decide) (by decide)) _
    | exact e35 _ (by decide)
    | exact e0 _ (by decide)
    | exact fun c a b => eI c (by omega) (fun e => o76 _ (show c < 76 by omega) (by first | (rcases (show c = 36 ∨ c = 37 ∨ c = 38 ∨ c = 39 ∨ c = 40 ∨ c = 41 ∨ c = 42 ∨ c = 43 ∨ c = 44 ∨ c = 45 ∨ c = 46 by omega) with rfl | rfl | rfl | rfl | rfl | rfl | rfl | rfl | rfl | rfl | rfl <;> rfl) | (rcases (show c = 57 ∨ c = 58 ∨ c = 59 ∨ c = 60 by omega) with rfl | rfl | rfl | rfl <;> rfl) | (rcases (show c = 68 ∨ c = 69 ∨ c = 70 ∨ c = 71 ∨ c = 72 ∨ c = 73 ∨ c = 74 by omega) with rfl | rfl | rfl | rfl | rfl | rfl | rfl <;> rfl)) e.symm) (by omega) (by omega)
    | exact fun c hc hg => eI c (by omega) (sh_ne hc so shn_io) (by omega) (by omega)
    | exact fun c hc _ => eI c (R1.nc h1 hc (by simp) (by decide) rfl) (sh_ne hc so (by simp)) (R1.nc h1 hc (by simp) (by decide) rfl) (R1.nc h1 hc (by simp) (by decide) rfl)
    | exact fun c hc => eI c (R1.nc h1 hc (by simp) (by decide) rfl) (sh_ne hc so (by simp)) (R1.nc h1 hc (by simp) (by decide) rfl) (R1.nc h1 hc (by simp) (by decide) rfl)
    | exact funext fun k => eP _ k (by omega)
    | exact eP _ _ (by omega)
    | exact fun c hc => funext fun k => eP c k (fun e => R1.nc h1 hc (by simp) (show 30 < 76 by decide) rfl e.1)
    | exact fun c hc _ => funext fun k => eP c k (fun e => sh_ne hc (h1.1.1 30 _ rfl) (by simp) e.1)
theorem RR.lets {o : Nat} (h : RR stp nx sh I P m na ng nk nr nw nf nl dr rl) (so : sh o = some (.inl 4)) (eI : ∀ c, c ≠ 26 → c ≠ 27 → c ≠ 28 → c ≠ 30 → c ≠ 64 → c ≠ 65 → c ≠ 66 → c ≠ 72 → c ≠ 73 → c ≠ 74 → c ≠ o → c ≠ 0 → c ≠ 35 → I' c = I c) (e0 : ∀ k, k ≠ 13 → I' 0 k = I 0 k) (e35 : ∀ k, k ≠ 46 → I' 35 k = I 35 k) (eP : ∀ c k, ¬ (c = 30 ∧ k = 2) → P' c k = P c k) (n6 : R6 sh I' P' nk ng) (n11 : R11 I' (stp + 1)) : RR (stp + 1) nx sh I' P' m na ng nk nr nw nf nl dr rl := by
  obtain ⟨h1, h2, h3, h4, h5, h6, h7, h8, h9, h10, h11, h12⟩ := h
  have h76 := h1.2.2.1
  have o76 : ∀ c', c' < 76 → ((csF c').isSome || (msF c').isSome) = true → o ≠ c' := fun c' a b => R1.nc h1 so (by simp) a b
  refine ⟨R1.cg h1 (Nat.le_refl _) (fun _ _ h => h) h1.2.2.2 (fun c k b hc => eP c k (fun h => by rw [h.1, h.2] at hc; cases hc)) (funext fun k => eP 35 k (by omega)), R2.cg h2 ?_ ?_ ?_ ?_, R3.cg h3 ?_ ?_ ?_ ?_, R4.cg h4 (fun _ _ h => h) ?_ ?_ ?_ ?_ ?_ ?_ ?_ ?_ ?_ ?_, R5.cg h5 (fun _ _ h => h) ?_ ?_ ?_ ?_ ?_ ?_ ?_, n6, R7.cg h7 ?_ ?_ ?_ ?_ ?_ ?_ ?_, R8.cg h8 ?_ ?_ ?_ ?_ ?_ ?_ ?_, R9.cg h9 ?_ ?_ ?_ ?_ ?_ ?_ ?_, R10.cg h10 ?_ ?_ ?_ ?_ ?_ ?_ ?_ ?_, n11, R12.cg h12 ?_ ?_⟩
  all_goals first
    | exact eI _ (by decide) (by decide) (by decide) (by decide) (by decide) (by decide) (by decide) (by decide) (by decide) (by decide) (o76 _ (by decide) rfl).symm (by decide) (by decide)
    | exact congrFun (eI _ (by decide) (by decide) (by decide) (by decide) (by decide) (by decide) (by decide) (by decide) (by decide) (by decide) (o76 _ (by decide) rfl).symm (by decide) (by decide)) _
    | exact e35 _ (by decide)
    | exact e0 _ (by decide)
    | exact fun c a b => eI c (by omega) (by omega) (by omega) (by omega) (by omega) (by omega) (by omega) (by omega) (by omega) (by omega) (fun e => o76 _ (show c < 76 by omega) (by first | (rcases (show c = 36 ∨ c = 37 ∨ c = 38 ∨ c = 39 ∨ c = 40 ∨ c = 41 ∨ c = 42 ∨ c = 43 ∨ c = 44 ∨ c = 45 ∨ c = 46 by omega) with rfl | rfl | rfl | rfl | rfl | rfl | rfl | rfl | rfl | rfl | rfl <;> rfl) | (rcases (show c = 57 ∨ c = 58 ∨ c = 59 ∨ c = 60 by omega) with rfl | rfl | rfl | rfl <;> rfl) | (rcases (show c = 68 ∨ c = 69 ∨ c = 70 ∨ c = 71 ∨ c = 72 ∨ c = 73 ∨ c = 74 by omega) with rfl | rfl | rfl | rfl | rfl | rfl | rfl <;> rfl)) e.symm) (by omega) (by omega)
    | exact fun c hc hg => eI c (by omega) (by omega) (by omega) (by omega) (by omega) (by omega) (by omega) (by omega) (by omega) (by omega) (sh_ne hc so shn_io) (by omega) (by omega)
    | exact fun c hc _ => eI c (R1.nc h1 hc (by simp) (by decide) rfl) (R1.nc h1 hc (by simp) (by decide) rfl) (R1.nc h1 hc (by simp) (by decide) rfl) (R1.nc h1 hc (by simp) (by decide) rfl) (R1.nc h1 hc (by simp) (by decide) rfl) (R1.nc h1 hc (by simp) (by decide) rfl) (R1.nc h1 hc (by simp) (by decide) rfl) (R1.nc h1 hc (by simp) (by decide) rfl) (R1.nc h1 hc (by simp) (by decide) rfl) (R1.nc h1 hc (by simp) (by decide) rfl) (sh_ne hc so (by simp)) (R1.nc h1 hc (by simp) (by decide) rfl) (R1.nc h1 hc (by simp) (by decide) rfl)
    | exact fun c hc => eI c (R1.nc h1 hc (by simp) (by decide) rfl) (R1.nc h1 hc (by simp) (by decide) rfl) (R1.nc h1 hc (by simp) (by decide) rfl) (R1.nc h1 hc (by simp) (by decide) rfl) (R1.nc h1 hc (by simp) (by decide) rfl) (R1.nc h1 hc (by simp) (by decide) rfl) (R1.nc h1 hc (by simp) (by decide) rfl) (R1.nc h1 hc (by simp) (by decide) rfl) (R1.nc h1 hc (by simp) (by decide) rfl) (R1.nc h1 hc (by simp) (by decide) rfl) (sh_ne hc so (by simp)) (R1.nc h1 hc (by simp) (by decide) rfl) (R1.nc h1 hc (by simp) (by decide) rfl)
    | exact funext fun k => eP _ k (by omega)
    | exact eP _ _ (by omega)
    | exact fun c hc => funext fun k => eP c k (fun e => R1.nc h1 hc (by simp) (show 30 < 76 by decide) rfl e.1)
    | exact fun c hc _ => funext fun k => eP c k (fun e => sh_ne hc (h1.1.1 30 _ rfl) (by simp) e.1)
theorem RR.gown (h : RR stp nx sh I P m na ng nk nr nw nf nl dr rl) (eI : ∀ c, c ≠ 57 → c ≠ 58 → c ≠ 59 → c ≠ 60 → c ≠ 0 → c ≠ 35 → c < nx → I' c = I c) (e0 : ∀ k, k ≠ 7 → I' 0 k = I 0 k) (e35 : ∀ k, k ≠ 32 → I' 35 k = I 35 k) {nx' : Nat} (hn : nx ≤ nx') (hsh : ∀ c z, sh c = some z → sh' c = some z) (hlt : ∀ c z, sh' c = some z → c < nx') (eP : ∀ c, c < nx → c ≠ 24 → P' c = P c) (n5 : R5 sh' I' P' (ng + 1)) : RR (stp + 1) nx' sh' I' P' m na (ng + 1) nk nr nw nf nl dr rl := by
  obtain ⟨h1, h2, h3, h4, h5, h6, h7, h8, h9, h10, h11, h12⟩ := h
  have h76 := h1.2.2.1
  have eP3 : ∀ c, sh c = some (.inl 0) → P' c = P c := fun c hc => eP c (h1.2.2.2 _ _ hc) (R1.nc h1 hc (by simp) (by decide) rfl)
  refine ⟨R1.cg h1 hn hsh hlt (fun c k b hc => by rw [eP c (by have := cpF_c hc; omega) (by have := cpF_c hc; omega)]) (eP 35 (by omega) (by decide)), R2.cg h2 ?_ ?_ ?_ ?_, R3.cg h3 ?_ ?_ ?_ ?_, R4.cg h4 hsh ?_ ?_ ?_ ?_ ?_ ?_ ?_ ?_ ?_ ?_, n5, R6.cg h6 (by omega) hsh ?_ ?_ ?_ ?_ ?_, R7.cg h7 ?_ ?_ ?_ ?_ ?_ ?_ ?_, R8.cg h8 ?_ ?_ ?_ ?_ ?_ ?_ ?_, R9.cg h9 ?_ ?_ ?_ ?_ ?_ ?_ ?_, R10.cg h10 ?_ ?_ ?_ ?_ ?_ ?_ ?_ ?_, (R11.cg h11 ?_ ?_ ?_ ?_ ?_ ?_ ?_ ?_).up (Nat.le_succ _), R12.cg h12 ?_ ?_⟩
  all_goals first
    | exact eI _ (by decide) (by decide) (by decide) (by decide) (by decide) (by decide) (by omega)
    | exact congrFun (eI _ (by decide) (by decide) (by decide) (by decide) (by decide) (by decide) (by omega)) _
    | exact e35 _ (by decide)
    | exact e0 _ (by decide)
    | exact fun c a b => eI c (by omega) (by omega) (by omega) (by omega) (by omega) (by omega) (by omega)
    | exact fun c hc hg => eI c (by omega) (by omega) (by omega) (by omega) (by omega) (by omega) (h1.2.2.2 _ _ hc)
    | exact fun c hc _ => eI c (R1.nc h1 hc (by simp) (by decide) rfl) (R1.nc h1 hc (by simp) (by decide) rfl) (R1.nc h1 hc (by simp) (by decide) rfl) (R1.nc h1 hc (by simp) (by decide) rfl) (R1.nc h1 hc (by simp) (by decide) rfl) (R1.nc h1 hc (by simp) (by decide) rfl) (h1.2.2.2 _ _ hc)
    | exact fun c hc => eI c (R1.nc h1 hc (by simp) (by decide) rfl) (R1.nc h1 hc (by simp) (by decide) rfl) (R1.nc h1 hc (by simp) (by decide) rfl) (R1.nc h1 hc (by simp) (by decide) rfl) (R1.nc h1 hc (by simp) (by decide) rfl) (R1.nc h1 hc (by simp) (by decide) rfl) (h1.2.2.2 _ _ hc)
    | exact eP _ (by omega) (by decide)
    | exact congrFun (eP _ (by omega) (by decide)) _
    | exact eP3
    | exact fun c hc => eP c (h1.2.2.2 _ _ hc) (R1.nc h1 hc (by simp) (by decide) rfl)
    | exact fun c hc _ => eP c (h1.2.2.2 _ _ hc) (sh_ne hc (h1.1.1 24 _ rfl) (by simp))
theorem RR.lett (h : RR stp nx sh I P m na ng nk nr nw nf nl dr rl) (eI : ∀ c, c ≠ 68 → c ≠ 69 → c ≠ 70 → c ≠ 71 → c ≠ 72 → c ≠ 73 → c ≠ 74 → c ≠ 0 → c ≠ 35 → c < nx → I' c = I c) (e0 : ∀ k, k ≠ 9 → I' 0 k = I 0 k) (e35 : ∀ k, k ≠ 45 → I' 35 k = I 35 k) {nx' : Nat} (hn : nx ≤ nx') (hsh : ∀ c z, sh c = some z → sh' c = some z) (hlt : ∀ c z, sh' c = some z → c < nx') (eP : ∀ c, c < nx → c ≠ 25 → P' c = P c) (n6 : R6 sh' I' P' (nk + 1) ng) : RR (stp + 1) nx' sh' I' P' m na ng (nk + 1) nr nw nf nl dr rl := by
  obtain ⟨h1, h2, h3, h4, h5, h6, h7, h8, h9, h10, h11, h12⟩ := h
  have h76 := h1.2.2.1
  have eP3 : ∀ c, sh c = some (.inl 0) → P' c = P c := fun c hc => eP c (h1.2.2.2 _ _ hc) (R1.nc h1 hc (by simp) (by decide) rfl)
  refine ⟨R1.cg h1 hn hsh hlt (fun c k b hc => by rw [eP c (by have := cpF_c hc; omega) (by have := cpF_c hc; omega)]) (eP 35 (by omega) (by decide)), R2.cg h2 ?_ ?_ ?_ ?_, R3.cg h3 ?_ ?_ ?_ ?_, R4.cg h4 hsh ?_ ?_ ?_ ?_ ?_ ?_ ?_ ?_ ?_ ?_, R5.cg h5 hsh ?_ ?_ ?_ ?_ ?_ ?_ ?_, n6, R7.cg h7 ?_ ?_ ?_ ?_ ?_ ?_ ?_, R8.cg h8 ?_ ?_ ?_ ?_ ?_ ?_ ?_, R9.cg h9 ?_ ?_ ?_ ?_ ?_ ?_ ?_, R10.cg h10 ?_ ?_ ?_ ?_ ?_ ?_ ?_ ?_, (R11.cg h11 ?_ ?_ ?_ ?_ ?_ ?_ ?_ ?_).up (Nat.le_succ _), R12.cg h12 ?_ ?_⟩
  all_goals first
    | exact eI _ (by decide) (by decide) (by decide) (by decide) (by decide) (by decide) (by decide) (by decide) (by decide) (by omega)
    | exact congrFun (eI _ (by decide) (by decide) (by decide) (by decide) (by decide) (by decide) (by decide) (by decide) (by decide) (by omega)) _
    | exact e35 _ (by decide)
    | exact e0 _ (by decide)
    | exact fun c a b => eI c (by omega) (by omega) (by omega) (by omega) (by omega) (by omega) (by omega) (by omega) (by omega) (by omega)
    | exact fun c hc hg => eI c (by omega) (by omega) (by omega) (by omega) (by omega) (by omega) (by omega) (by omega) (by omega) (h1.2.2.2 _ _ hc)
    | exact fun c hc _ => eI c (R1.nc h1 hc (by simp) (by decide) rfl) (R1.nc h1 hc (by simp) (by decide) rfl) (R1.nc h1 hc (by simp) (by decide) rfl) (R1.nc h1 hc (by simp) (by decide) rfl) (R1.nc h1 hc (by simp) (by decide) rfl) (R1.nc h1 hc (by simp) (by decide) rfl) (R1.nc h1 hc (by simp) (by decide) rfl) (R1.nc h1 hc (by simp) (by decide) rfl) (R1.nc h1 hc (by simp) (by decide) rfl) (h1.2.2.2 _ _ hc)
    | exact fun c hc => eI c (R1.nc h1 hc (by simp) (by decide) rfl) (R1.nc h1 hc (by simp) (by decide) rfl) (R1.nc h1 hc (by simp) (by decide) rfl) (R1.nc h1 hc (by simp) (by decide) rfl) (R1.nc h1 hc (by simp) (by decide) rfl) (R1.nc h1 hc (by simp) (by decide) rfl) (R1.nc h1 hc (by simp) (by decide) rfl) (R1.nc h1 hc (by simp) (by decide) rfl) (R1.nc h1 hc (by simp) (by decide) rfl) (h1.2.2.2 _ _ hc)
    | exact eP _ (by omega) (by decide)
    | exact congrFun (eP _ (by omega) (by decide)) _
    | exact eP3
    | exact fun c hc => eP c (h1.2.2.2 _ _ hc) (R1.nc h1 hc (by simp) (by decide) rfl)
    | exact fun c hc _ => eP c (h1.2.2.2 _ _ hc) (sh_ne hc (h1.1.1 25 _ rfl) (by simp))
end O3
