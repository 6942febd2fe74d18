/-! ===== the reference's constructor ===== -/
/-- a new reference beside the court -/
def mNew (sh : Nat → Option mSh) (I : mI) (P : mP) : mPo := fun v nx' sh' I' P' => v = none ∧ nx' = 76 ∧ MW sh' P' ∧ (∀ c z, sh' c = some z → c < 76) ∧ (∀ c, c < 35 → sh' c = sh c ∧ I' c = I c ∧ P' c = P c) ∧ I' 35 0 = 0 ∧ I' 35 14 = 0 ∧ I' 35 20 = 0 ∧ I' 35 21 = -1 ∧ I' 35 31 = 0 ∧ I' 35 32 = 0 ∧ I' 35 33 = 0 ∧ I' 35 45 = 0 ∧ I' 35 46 = 0 ∧ (∀ k, I' 48 k = 0 ∧ I' 49 k = 0 ∧ I' 52 k = 0 ∧ I' 64 k = 0 ∧ I' 65 k = 0 ∧ I' 66 k = 0) ∧ ∀ k, k < 7 → I' 67 k = 1
section M0
variable {X : mX} {B : Nat} {I : mI} {P : mP} {sh : Nat → Option mSh}
abbrev m0S (sh : Nat → Option mSh) : Nat → Option mSh := mUs (mUs (mUs (mUs (mUs (mUs (mUs (mUs (mUs (mUs (mUs (mUs (mUs (mUs (mUs (mUs (mUs (mUs (mUs (mUs (mUs (mUs (mUs (mUs (mUs (mUs (mUs (mUs (mUs (mUs (mUs (mUs (mUs (mUs (mUs (mUs (mUs (mUs (mUs (mUs (mUs sh 35 (.inl 12)) 36 (.inr (0, 13))) (36 + 1) (.inr (0, 13))) (36 + 1 + 1) (.inr (0, 13))) (36 + 1 + 1 + 1) (.inr (0, 13))) (36 + 1 + 1 + 1 + 1) (.inr (0, 13))) (36 + 1 + 1 + 1 + 1 + 1) (.inr (0, 156))) (36 + 1 + 1 + 1 + 1 + 1 + 1) (.inr (0, 156))) (36 + 1 + 1 + 1 + 1 + 1 + 1 + 1) (.inr (0, 156))) (36 + 1 + 1 + 1 + 1 + 1 + 1 + 1 + 1) (.inr (0, 156))) (36 + 1 + 1 + 1 + 1 + 1 + 1 + 1 + 1 + 1) (.inr (0, 156))) (36 + 1 + 1 + 1 + 1 + 1 + 1 + 1 + 1 + 1 + 1) (.inr (0, 156))) (36 + 1 + 1 + 1 + 1 + 1 + 1 + 1 + 1 + 1 + 1 + 1) (.inl 11)) (36 + 1 + 1 + 1 + 1 + 1 + 1 + 1 + 1 + 1 + 1 + 1 + 1) (.inr (1, 800))) (36 + 1 + 1 + 1 + 1 + 1 + 1 + 1 + 1 + 1 + 1 + 1 + 1 + 1) (.inr (0, 30))) (36 + 1 + 1 + 1 + 1 + 1 + 1 + 1 + 1 + 1 + 1 + 1 + 1 + 1 + 1) (.inr (0, 360))) (36 + 1 + 1 + 1 + 1 + 1 + 1 + 1 + 1 + 1 + 1 + 1 + 1 + 1 + 1 + 1) (.inr (0, 360))) (36 + 1 + 1 + 1 + 1 + 1 + 1 + 1 + 1 + 1 + 1 + 1 + 1 + 1 + 1 + 1 + 1) (.inr (0, 30))) (36 + 1 + 1 + 1 + 1 + 1 + 1 + 1 + 1 + 1 + 1 + 1 + 1 + 1 + 1 + 1 + 1 + 1) (.inr (0, 120))) (36 + 1 + 1 + 1 + 1 + 1 + 1 + 1 + 1 + 1 + 1 + 1 + 1 + 1 + 1 + 1 + 1 + 1 + 1) (.inr (0, 120))) (36 + 1 + 1 + 1 + 1 + 1 + 1 + 1 + 1 + 1 + 1 + 1 + 1 + 1 + 1 + 1 + 1 + 1 + 1 + 1) (.inr (0, 20))) (36 + 1 + 1 + 1 + 1 + 1 + 1 + 1 + 1 + 1 + 1 + 1 + 1 + 1 + 1 + 1 + 1 + 1 + 1 + 1 + 1) (.inr (0, 20))) (36 + 1 + 1 + 1 + 1 + 1 + 1 + 1 + 1 + 1 + 1 + 1 + 1 + 1 + 1 + 1 + 1 + 1 + 1 + 1 + 1 + 1) (.inr (0, 200))) (36 + 1 + 1 + 1 + 1 + 1 + 1 + 1 + 1 + 1 + 1 + 1 + 1 + 1 + 1 + 1 + 1 + 1 + 1 + 1 + 1 + 1 + 1) (.inr (0, 40))) (36 + 1 + 1 + 1 + 1 + 1 + 1 + 1 + 1 + 1 + 1 + 1 + 1 + 1 + 1 + 1 + 1 + 1 + 1 + 1 + 1 + 1 + 1 + 1) (.inr (0, 40))) (36 + 1 + 1 + 1 + 1 + 1 + 1 + 1 + 1 + 1 + 1 + 1 + 1 + 1 + 1 + 1 + 1 + 1 + 1 + 1 + 1 + 1 + 1 + 1 + 1) (.inr (0, 40))) (36 + 1 + 1 + 1 + 1 + 1 + 1 + 1 + 1 + 1 + 1 + 1 + 1 + 1 + 1 + 1 + 1 + 1 + 1 + 1 + 1 + 1 + 1 + 1 + 1 + 1) (.inr (0, 30))) (36 + 1 + 1 + 1 + 1 + 1 + 1 + 1 + 1 + 1 + 1 + 1 + 1 + 1 + 1 + 1 + 1 + 1 + 1 + 1 + 1 + 1 + 1 + 1 + 1 + 1 + 1) (.inr (0, 30))) (36 + 1 + 1 + 1 + 1 + 1 + 1 + 1 + 1 + 1 + 1 + 1 + 1 + 1 + 1 + 1 + 1 + 1 + 1 + 1 + 1 + 1 + 1 + 1 + 1 + 1 + 1 + 1) (.inr (0, 30))) (36 + 1 + 1 + 1 + 1 + 1 + 1 + 1 + 1 + 1 + 1 + 1 + 1 + 1 + 1 + 1 + 1 + 1 + 1 + 1 + 1 + 1 + 1 + 1 + 1 + 1 + 1 + 1 + 1) (.inr (0, 30))) (36 + 1 + 1 + 1 + 1 + 1 + 1 + 1 + 1 + 1 + 1 + 1 + 1 + 1 + 1 + 1 + 1 + 1 + 1 + 1 + 1 + 1 + 1 + 1 + 1 + 1 + 1 + 1 + 1 + 1) (.inr (0, 30))) (36 + 1 + 1 + 1 + 1 + 1 + 1 + 1 + 1 + 1 + 1 + 1 + 1 + 1 + 1 + 1 + 1 + 1 + 1 + 1 + 1 + 1 + 1 + 1 + 1 + 1 + 1 + 1 + 1 + 1 + 1) (.inr (0, 30))) (36 + 1 + 1 + 1 + 1 + 1 + 1 + 1 + 1 + 1 + 1 + 1 + 1 + 1 + 1 + 1 + 1 + 1 + 1 + 1 + 1 + 1 + 1 + 1 + 1 + 1 + 1 + 1 + 1 + 1 + 1 + 1) (.inr (0, 7))) (36 + 1 + 1 + 1 + 1 + 1 + 1 + 1 + 1 + 1 + 1 + 1 + 1 + 1 + 1 + 1 + 1 + 1 + 1 + 1 + 1 + 1 + 1 + 1 + 1 + 1 + 1 + 1 + 1 + 1 + 1 + 1 + 1) (.inr (0, 60))) (36 + 1 + 1 + 1 + 1 + 1 + 1 + 1 + 1 + 1 + 1 + 1 + 1 + 1 + 1 + 1 + 1 + 1 + 1 + 1 + 1 + 1 + 1 + 1 + 1 + 1 + 1 + 1 + 1 + 1 + 1 + 1 + 1 + 1) (.inr (0, 60))) (36 + 1 + 1 + 1 + 1 + 1 + 1 + 1 + 1 + 1 + 1 + 1 + 1 + 1 + 1 + 1 + 1 + 1 + 1 + 1 + 1 + 1 + 1 + 1 + 1 + 1 + 1 + 1 + 1 + 1 + 1 + 1 + 1 + 1 + 1) (.inr (0, 60))) (36 + 1 + 1 + 1 + 1 + 1 + 1 + 1 + 1 + 1 + 1 + 1 + 1 + 1 + 1 + 1 + 1 + 1 + 1 + 1 + 1 + 1 + 1 + 1 + 1 + 1 + 1 + 1 + 1 + 1 + 1 + 1 + 1 + 1 + 1 + 1) (.inr (0, 60))) (36 + 1 + 1 + 1 + 1 + 1 + 1 + 1 + 1 + 1 + 1 + 1 + 1 + 1 + 1 + 1 + 1 + 1 + 1 + 1 + 1 + 1 + 1 + 1 + 1 + 1 + 1 + 1 + 1 + 1 + 1 + 1 + 1 + 1 + 1 + 1 + 1) (.inr (0, 60))) (36 + 1 + 1 + 1 + 1 + 1 + 1 + 1 + 1 + 1 + 1 + 1 + 1 + 1 + 1 + 1 + 1 + 1 + 1 + 1 + 1 + 1 + 1 + 1 + 1 + 1 + 1 + 1 + 1 + 1 + 1 + 1 + 1 + 1 + 1 + 1 + 1 + 1) (.inr (0, 60))) (36 + 1 + 1 + 1 + 1 + 1 + 1 + 1 + 1 + 1 + 1 + 1 + 1 + 1 + 1 + 1 + 1 + 1 + 1 + 1 + 1 + 1 + 1 + 1 + 1 + 1 + 1 + 1 + 1 + 1 + 1 + 1 + 1 + 1 + 1 + 1 + 1 + 1 + 1) (.inr (0, 60))) (36 + 1 + 1 + 1 + 1 + 1 + 1 + 1 + 1 + 1 + 1 + 1 + 1 + 1 + 1 + 1 + 1 + 1 + 1 + 1 + 1 + 1 + 1 + 1 + 1 + 1 + 1 + 1 + 1 + 1 + 1 + 1 + 1 + 1 + 1 + 1 + 1 + 1 + 1 + 1) (.inr (0, 5))
abbrev m0I (I : mI) : mI := mNI (mNI (mNI (mNI (mNI (mNI (mNI (mNI (mNI (mNI (mNI (mNI (mNI (mNI (mNI (mNI (mNI (mNI (mNI (mNI (mNI (mNI (mNI (mNI (mNI (mNI (mNI (mUp (mNI (mNI (mNI (mNI (mNI (mNI (mNI (mNI (mNI (mNI (mNI (mNI (mNI (mNI I 35) 36) (36 + 1)) (36 + 1 + 1)) (36 + 1 + 1 + 1)) (36 + 1 + 1 + 1 + 1)) (36 + 1 + 1 + 1 + 1 + 1)) (36 + 1 + 1 + 1 + 1 + 1 + 1)) (36 + 1 + 1 + 1 + 1 + 1 + 1 + 1)) (36 + 1 + 1 + 1 + 1 + 1 + 1 + 1 + 1)) (36 + 1 + 1 + 1 + 1 + 1 + 1 + 1 + 1 + 1)) (36 + 1 + 1 + 1 + 1 + 1 + 1 + 1 + 1 + 1 + 1)) (36 + 1 + 1 + 1 + 1 + 1 + 1 + 1 + 1 + 1 + 1 + 1)) (36 + 1 + 1 + 1 + 1 + 1 + 1 + 1 + 1 + 1 + 1 + 1 + 1)) 35 21 (-1)) (36 + 1 + 1 + 1 + 1 + 1 + 1 + 1 + 1 + 1 + 1 + 1 + 1 + 1)) (36 + 1 + 1 + 1 + 1 + 1 + 1 + 1 + 1 + 1 + 1 + 1 + 1 + 1 + 1)) (36 + 1 + 1 + 1 + 1 + 1 + 1 + 1 + 1 + 1 + 1 + 1 + 1 + 1 + 1 + 1)) (36 + 1 + 1 + 1 + 1 + 1 + 1 + 1 + 1 + 1 + 1 + 1 + 1 + 1 + 1 + 1 + 1)) (36 + 1 + 1 + 1 + 1 + 1 + 1 + 1 + 1 + 1 + 1 + 1 + 1 + 1 + 1 + 1 + 1 + 1)) (36 + 1 + 1 + 1 + 1 + 1 + 1 + 1 + 1 + 1 + 1 + 1 + 1 + 1 + 1 + 1 + 1 + 1 + 1)) (36 + 1 + 1 + 1 + 1 + 1 + 1 + 1 + 1 + 1 + 1 + 1 + 1 + 1 + 1 + 1 + 1 + 1 + 1 + 1)) (36 + 1 + 1 + 1 + 1 + 1 + 1 + 1 + 1 + 1 + 1 + 1 + 1 + 1 + 1 + 1 + 1 + 1 + 1 + 1 + 1)) (36 + 1 + 1 + 1 + 1 + 1 + 1 + 1 + 1 + 1 + 1 + 1 + 1 + 1 + 1 + 1 + 1 + 1 + 1 + 1 + 1 + 1)) (36 + 1 + 1 + 1 + 1 + 1 + 1 + 1 + 1 + 1 + 1 + 1 + 1 + 1 + 1 + 1 + 1 + 1 + 1 + 1 + 1 + 1 + 1)) (36 + 1 + 1 + 1 + 1 + 1 + 1 + 1 + 1 + 1 + 1 + 1 + 1 + 1 + 1 + 1 + 1 + 1 + 1 + 1 + 1 + 1 + 1 + 1)) (36 + 1 + 1 + 1 + 1 + 1 + 1 + 1 + 1 + 1 + 1 + 1 + 1 + 1 + 1 + 1 + 1 + 1 + 1 + 1 + 1 + 1 + 1 + 1 + 1)) (36 + 1 + 1 + 1 + 1 + 1 + 1 + 1 + 1 + 1 + 1 + 1 + 1 + 1 + 1 + 1 + 1 + 1 + 1 + 1 + 1 + 1 + 1 + 1 + 1 + 1)) (36 + 1 + 1 + 1 + 1 + 1 + 1 + 1 + 1 + 1 + 1 + 1 + 1 + 1 + 1 + 1 + 1 + 1 + 1 + 1 + 1 + 1 + 1 + 1 + 1 + 1 + 1)) (36 + 1 + 1 + 1 + 1 + 1 + 1 + 1 + 1 + 1 + 1 + 1 + 1 + 1 + 1 + 1 + 1 + 1 + 1 + 1 + 1 + 1 + 1 + 1 + 1 + 1 + 1 + 1)) (36 + 1 + 1 + 1 + 1 + 1 + 1 + 1 + 1 + 1 + 1 + 1 + 1 + 1 + 1 + 1 + 1 + 1 + 1 + 1 + 1 + 1 + 1 + 1 + 1 + 1 + 1 + 1 + 1)) (36 + 1 + 1 + 1 + 1 + 1 + 1 + 1 + 1 + 1 + 1 + 1 + 1 + 1 + 1 + 1 + 1 + 1 + 1 + 1 + 1 + 1 + 1 + 1 + 1 + 1 + 1 + 1 + 1 + 1)) (36 + 1 + 1 + 1 + 1 + 1 + 1 + 1 + 1 + 1 + 1 + 1 + 1 + 1 + 1 + 1 + 1 + 1 + 1 + 1 + 1 + 1 + 1 + 1 + 1 + 1 + 1 + 1 + 1 + 1 + 1)) (36 + 1 + 1 + 1 + 1 + 1 + 1 + 1 + 1 + 1 + 1 + 1 + 1 + 1 + 1 + 1 + 1 + 1 + 1 + 1 + 1 + 1 + 1 + 1 + 1 + 1 + 1 + 1 + 1 + 1 + 1 + 1)) (36 + 1 + 1 + 1 + 1 + 1 + 1 + 1 + 1 + 1 + 1 + 1 + 1 + 1 + 1 + 1 + 1 + 1 + 1 + 1 + 1 + 1 + 1 + 1 + 1 + 1 + 1 + 1 + 1 + 1 + 1 + 1 + 1)) (36 + 1 + 1 + 1 + 1 + 1 + 1 + 1 + 1 + 1 + 1 + 1 + 1 + 1 + 1 + 1 + 1 + 1 + 1 + 1 + 1 + 1 + 1 + 1 + 1 + 1 + 1 + 1 + 1 + 1 + 1 + 1 + 1 + 1)) (36 + 1 + 1 + 1 + 1 + 1 + 1 + 1 + 1 + 1 + 1 + 1 + 1 + 1 + 1 + 1 + 1 + 1 + 1 + 1 + 1 + 1 + 1 + 1 + 1 + 1 + 1 + 1 + 1 + 1 + 1 + 1 + 1 + 1 + 1)) (36 + 1 + 1 + 1 + 1 + 1 + 1 + 1 + 1 + 1 + 1 + 1 + 1 + 1 + 1 + 1 + 1 + 1 + 1 + 1 + 1 + 1 + 1 + 1 + 1 + 1 + 1 + 1 + 1 + 1 + 1 + 1 + 1 + 1 + 1 + 1)) (36 + 1 + 1 + 1 + 1 + 1 + 1 + 1 + 1 + 1 + 1 + 1 + 1 + 1 + 1 + 1 + 1 + 1 + 1 + 1 + 1 + 1 + 1 + 1 + 1 + 1 + 1 + 1 + 1 + 1 + 1 + 1 + 1 + 1 + 1 + 1 + 1)) (36 + 1 + 1 + 1 + 1 + 1 + 1 + 1 + 1 + 1 + 1 + 1 + 1 + 1 + 1 + 1 + 1 + 1 + 1 + 1 + 1 + 1 + 1 + 1 + 1 + 1 + 1 + 1 + 1 + 1 + 1 + 1 + 1 + 1 + 1 + 1 + 1 + 1)) (36 + 1 + 1 + 1 + 1 + 1 + 1 + 1 + 1 + 1 + 1 + 1 + 1 + 1 + 1 + 1 + 1 + 1 + 1 + 1 + 1 + 1 + 1 + 1 + 1 + 1 + 1 + 1 + 1 + 1 + 1 + 1 + 1 + 1 + 1 + 1 + 1 + 1 + 1)) (36 + 1 + 1 + 1 + 1 + 1 + 1 + 1 + 1 + 1 + 1 + 1 + 1 + 1 + 1 + 1 + 1 + 1 + 1 + 1 + 1 + 1 + 1 + 1 + 1 + 1 + 1 + 1 + 1 + 1 + 1 + 1 + 1 + 1 + 1 + 1 + 1 + 1 + 1 + 1)
abbrev m0P (P : mP) : mP := mUp (mUp (mUp (mUp (mUp (mUp (mUp (mUp (mUp (mUp (mUp (mUp (mUp (mUp (mUp (mUp (mUp (mUp (mUp (mUp (mUp (mUp (mUp (mUp (mUp (mUp (mUp (mUp (mUp (mNP (mUp (mUp (mUp (mUp (mUp (mUp (mUp (mUp (mUp (mUp (mUp (mNP P 35) 35 1 (some 36)) 35 2 (some 37)) 35 3 (some 38)) 35 4 (some 39)) 35 5 (some 40)) 35 6 (some 41)) 35 7 (some 42)) 35 8 (some 43)) 35 9 (some 44)) 35 10 (some 45)) 35 11 (some 46)) (36 + 1 + 1 + 1 + 1 + 1 + 1 + 1 + 1 + 1 + 1 + 1)) 35 12 (some 47)) 35 13 (some 48)) 35 23 (some 49)) 35 24 (some 50)) 35 25 (some 51)) 35 26 (some 52)) 35 27 (some 53)) 35 28 (some 54)) 35 29 (some 55)) 35 30 (some 56)) 35 34 (some 57)) 35 35 (some 58)) 35 36 (some 59)) 35 37 (some 60)) 35 38 (some 61)) 35 39 (some 62)) 35 40 (some 63)) 35 41 (some 64)) 35 42 (some 65)) 35 43 (some 66)) 35 44 (some 67)) 35 47 (some 68)) 35 48 (some 69)) 35 49 (some 70)) 35 50 (some 71)) 35 51 (some 72)) 35 52 (some 73)) 35 53 (some 74)) 35 54 (some 75)
theorem l_X12_init {G : mG} {Po : mPo} (hM : mM X B "<init>" none 4 100 40 3799 Po G) (hp : Po none 76 (m0S sh) (mFill (m0I I) 67 7 1) (m0P P)) : ∀ (z i : Nat), i ≤ 7 → 7 - i < z → V X B RX12 cX12_init G 40 3799 76 (m0S sh) (mFill (m0I I) 67 i 1) (m0P P) 343 [some (.ref (B + 35)), some (.int (nI i))] [] := by
  have s35 : m0S sh 35 = some (.inl 12) := rfl
  have s67 : m0S sh 67 = some (.inr (0, 7)) := rfl
  have p67 : m0P P 35 44 = some 67 := rfl
  generalize m0S sh = sj at *
  generalize m0P P = Pj at *
  generalize m0I I = Ij at *
  intro z
  induction z with
  | zero => intro i _ h; omega
  | succ z ih =>
    intro i hi hz
    refine V_iln dX12_init_343 rfl ?_
    refine V_bipush (v := 7) rfl dX12_init_344 ?_
    refine V_icmp_ge (tgt := 362) dX12_init_346 rfl (fun c346 => ?_) (fun c346 => ?_)
    · have c346 := nN_le (a := 7) c346 (by omega) (by omega)
      obtain rfl : i = 7 := by omega
      exact V_vret hM dX12_init_362 (hp)
    · have c346 := nN_nle (a := 7) c346 (by omega) (by omega)
      refine V_aln dX12_init_349 rfl ?_
      refine V_getR dX12_init_350 flX12_226 (by assumption) rfl (by assumption) ?_
      refine V_iln dX12_init_353 rfl ?_
      refine V_iconst (v := 1) rfl dX12_init_354 ?_
      refine V_iastN dX12_init_355 (by assumption) (by omega) (by omega) ?_
      refine V_inc1 dX12_init_356 ?_
      refine V_goto (tgt := 343) dX12_init_359 rfl ?_
      rw [nI_inc]
      refine V_mem (fun c k => ?_) (fun _ _ => rfl) (ih (i + 1) (by omega) (by omega))
      exact mFill_s c k
theorem mUs_ne {sh : Nat → Option mSh} {n c : Nat} {z : mSh} (h : c ≠ n) : mUs sh n z c = sh c := if_neg h
theorem mNI_ne {f : mI} {n c : Nat} (h : c ≠ n) : mNI f n c = f c := funext fun k => if_neg h
theorem mNP_ne {f : mP} {n c : Nat} (h : c ≠ n) : mNP f n c = f c := funext fun k => if_neg h
theorem mUp_ne {α : Type} {f : Nat → Nat → α} {n k c : Nat} {v : α} (h : c ≠ n) : mUp f n k v c = f c := funext fun j => mUp_c h
theorem mFill_ne {f : mI} {n m c : Nat} {v : Int32} (h : c ≠ n) : mFill f n m v c = f c := funext fun k => if_neg (fun q => h q.1)
theorem m0S_35 {c : Nat} (hc : c < 35) : m0S sh c = sh c := (mUs_ne (by omega)).trans ((mUs_ne (by omega)).trans ((mUs_ne (by omega)).trans ((mUs_ne (by omega)).trans ((mUs_ne (by omega)).trans ((mUs_ne (by omega)).trans ((mUs_ne (by omega)).trans ((mUs_ne (by omega)).trans ((mUs_ne (by omega)).trans ((mUs_ne (by omega)).trans ((mUs_ne (by omega)).trans ((mUs_ne (by omega)).trans ((mUs_ne (by omega)).trans ((mUs_ne (by omega)).trans ((mUs_ne (by omega)).trans ((mUs_ne (by omega)).trans ((mUs_ne (by omega)).trans ((mUs_ne (by omega)).trans ((mUs_ne (by omega)).trans ((mUs_ne (by omega)).trans ((mUs_ne (by omega)).trans ((mUs_ne (by omega)).trans ((mUs_ne (by omega)).trans ((mUs_ne (by omega)).trans ((mUs_ne (by omega)).trans ((mUs_ne (by omega)).trans ((mUs_ne (by omega)).trans ((mUs_ne (by omega)).trans ((mUs_ne (by omega)).trans ((mUs_ne (by omega)).trans ((mUs_ne (by omega)).trans ((mUs_ne (by omega)).trans ((mUs_ne (by omega)).trans ((mUs_ne (by omega)).trans ((mUs_ne (by omega)).trans ((mUs_ne (by omega)).trans ((mUs_ne (by omega)).trans ((mUs_ne (by omega)).trans ((mUs_ne (by omega)).trans ((mUs_ne (by omega)).trans ((mUs_ne (by omega)).trans (rfl)))))))))))))))))))))))))))))))))))))))))
theorem m0I_35 {c : Nat} (hc : c < 35) : mFill (m0I I) 67 7 1 c = I c := (mFill_ne (by omega)).trans ((mNI_ne (by omega)).trans ((mNI_ne (by omega)).trans ((mNI_ne (by omega)).trans ((mNI_ne (by omega)).trans ((mNI_ne (by omega)).trans ((mNI_ne (by omega)).trans ((mNI_ne (by omega)).trans ((mNI_ne (by omega)).trans ((mNI_ne (by omega)).trans ((mNI_ne (by omega)).trans ((mNI_ne (by omega)).trans ((mNI_ne (by omega)).trans ((mNI_ne (by omega)).trans ((mNI_ne (by omega)).trans ((mNI_ne (by omega)).trans ((mNI_ne (by omega)).trans ((mNI_ne (by omega)).trans ((mNI_ne (by omega)).trans ((mNI_ne (by omega)).trans ((mNI_ne (by omega)).trans ((mNI_ne (by omega)).trans ((mNI_ne (by omega)).trans ((mNI_ne (by omega)).trans ((mNI_ne (by omega)).trans ((mNI_ne (by omega)).trans ((mNI_ne (by omega)).trans ((mNI_ne (by omega)).trans ((mUp_ne (by omega)).trans ((mNI_ne (by omega)).trans ((mNI_ne (by omega)).trans ((mNI_ne (by omega)).trans ((mNI_ne (by omega)).trans ((mNI_ne (by omega)).trans ((mNI_ne (by omega)).trans ((mNI_ne (by omega)).trans ((mNI_ne (by omega)).trans ((mNI_ne (by omega)).trans ((mNI_ne (by omega)).trans ((mNI_ne (by omega)).trans ((mNI_ne (by omega)).trans ((mNI_ne (by omega)).trans ((mNI_ne (by omega)).trans (rfl)))))))))))))))))))))))))))))))))))))))))))
theorem m0P_35 {c : Nat} (hc : c < 35) : m0P P c = P c := (mUp_ne (by omega)).trans ((mUp_ne (by omega)).trans ((mUp_ne (by omega)).trans ((mUp_ne (by omega)).trans ((mUp_ne (by omega)).trans ((mUp_ne (by omega)).trans ((mUp_ne (by omega)).trans ((mUp_ne (by omega)).trans ((mUp_ne (by omega)).trans ((mUp_ne (by omega)).trans ((mUp_ne (by omega)).trans ((mUp_ne (by omega)).trans ((mUp_ne (by omega)).trans ((mUp_ne (by omega)).trans ((mUp_ne (by omega)).trans ((mUp_ne (by omega)).trans ((mUp_ne (by omega)).trans ((mUp_ne (by omega)).trans ((mUp_ne (by omega)).trans ((mUp_ne (by omega)).trans ((mUp_ne (by omega)).trans ((mUp_ne (by omega)).trans ((mUp_ne (by omega)).trans ((mUp_ne (by omega)).trans ((mUp_ne (by omega)).trans ((mUp_ne (by omega)).trans ((mUp_ne (by omega)).trans ((mUp_ne (by omega)).trans ((mUp_ne (by omega)).trans ((mNP_ne (by omega)).trans ((mUp_ne (by omega)).trans ((mUp_ne (by omega)).trans ((mUp_ne (by omega)).trans ((mUp_ne (by omega)).trans ((mUp_ne (by omega)).trans ((mUp_ne (by omega)).trans ((mUp_ne (by omega)).trans ((mUp_ne (by omega)).trans ((mUp_ne (by omega)).trans ((mUp_ne (by omega)).trans ((mUp_ne (by omega)).trans ((mNP_ne (by omega)).trans (rfl))))))))))))))))))))))))))))))))))))))))))
theorem m0_W : MW (m0S sh) (m0P P) := by
  refine ⟨fun c z h => ?_, fun k b h => ?_⟩
  · unfold msF at h
    split at h <;> first | (cases h; rfl) | cases h
  · unfold mpF at h
    split at h <;> first | (cases h; rfl) | cases h
theorem m0_lt (hlt : ∀ c z, sh c = some z → c < 35) : ∀ c z, m0S sh c = some z → c < 76 := mUs_lt (mUs_lt (mUs_lt (mUs_lt (mUs_lt (mUs_lt (mUs_lt (mUs_lt (mUs_lt (mUs_lt (mUs_lt (mUs_lt (mUs_lt (mUs_lt (mUs_lt (mUs_lt (mUs_lt (mUs_lt (mUs_lt (mUs_lt (mUs_lt (mUs_lt (mUs_lt (mUs_lt (mUs_lt (mUs_lt (mUs_lt (mUs_lt (mUs_lt (mUs_lt (mUs_lt (mUs_lt (mUs_lt (mUs_lt (mUs_lt (mUs_lt (mUs_lt (mUs_lt (mUs_lt (mUs_lt (mUs_lt (hlt)))))))))))))))))))))))))))))))))))))))))
theorem m0_I : mFill (m0I I) 67 7 1 35 0 = 0 ∧ mFill (m0I I) 67 7 1 35 14 = 0 ∧ mFill (m0I I) 67 7 1 35 20 = 0 ∧ mFill (m0I I) 67 7 1 35 21 = -1 ∧ mFill (m0I I) 67 7 1 35 31 = 0 ∧ mFill (m0I I) 67 7 1 35 32 = 0 ∧ mFill (m0I I) 67 7 1 35 33 = 0 ∧ mFill (m0I I) 67 7 1 35 45 = 0 ∧ mFill (m0I I) 67 7 1 35 46 = 0 := ⟨rfl, rfl, rfl, rfl, rfl, rfl, rfl, rfl, rfl⟩
theorem m0_A (k : Nat) : mFill (m0I I) 67 7 1 48 k = 0 ∧ mFill (m0I I) 67 7 1 49 k = 0 ∧ mFill (m0I I) 67 7 1 52 k = 0 ∧ mFill (m0I I) 67 7 1 64 k = 0 ∧ mFill (m0I I) 67 7 1 65 k = 0 ∧ mFill (m0I I) 67 7 1 66 k = 0 := ⟨rfl, rfl, rfl, rfl, rfl, rfl⟩
theorem m0_new (hlt : ∀ c z, sh c = some z → c < 35) : mNew sh I P none 76 (m0S sh) (mFill (m0I I) 67 7 1) (m0P P) := by
  obtain ⟨a1, a2, a3, a4, a5, a6, a7, a8, a9⟩ := m0_I (I := I)
  exact ⟨rfl, rfl, m0_W, m0_lt hlt, fun c hc => ⟨m0S_35 hc, m0I_35 hc, m0P_35 hc⟩, a1, a2, a3, a4, a5, a6, a7, a8, a9, m0_A, fun k hk => if_pos ⟨rfl, hk⟩⟩
theorem e_X12_init (hlt : ∀ c z, sh c = some z → c < 35) : Ev X B mdX12_init 40 3799 [.ref (B + 35)] 36 (mUs sh 35 (.inl 12)) (mNI I 35) (mNP P 35) (mNew sh I P) := by
  refine Ev.of (by decide) (by simp [Value.category]) (by simp) (fun G hM => ?_)
  have hM : mM X B "<init>" none 4 100 40 3799 _ G := hM
  show V X B RX12 cX12_init G 0 0 36 (mUs sh 35 (.inl 12)) (mNI I 35) (mNP P 35) 0 [some (.ref (B + 35)), none] []
  refine V_aln dX12_init_0 rfl ?_
  refine V_obj hM lkX12_163 wO1 wO2 (Nat.le_of_ble_eq_true rfl) (Nat.le_of_ble_eq_true rfl) dX12_init_1 ?_
  refine V_aln dX12_init_4 rfl ?_
  refine V_bipush (v := 13) rfl dX12_init_5 ?_
  refine V_newa (at0 := .int) (t := 0) (N := 13) hM ka_int rfl (by decide) (by decide) (by decide) (by decide) (Nat.le_of_ble_eq_true rfl) (Nat.le_of_ble_eq_true rfl) dX12_init_7 ?_
  refine V_putPF (o := some 36) hM dX12_init_9 flX12_168 (rfl) rfl (ty := .array .int) (by decide +kernel) (Or.inr ⟨_, rfl⟩) rfl ?_
  refine V_aln dX12_init_12 rfl ?_
  refine V_bipush (v := 13) rfl dX12_init_13 ?_
  refine V_newa (at0 := .int) (t := 0) (N := 13) hM ka_int rfl (by decide) (by decide) (by decide) (by decide) (Nat.le_of_ble_eq_true rfl) (Nat.le_of_ble_eq_true rfl) dX12_init_15 ?_
  refine V_putPF (o := some 37) hM dX12_init_17 flX12_88 (rfl) rfl (ty := .array .int) (by decide +kernel) (Or.inr ⟨_, rfl⟩) rfl ?_
  refine V_aln dX12_init_20 rfl ?_
  refine V_bipush (v := 13) rfl dX12_init_21 ?_
  refine V_newa (at0 := .int) (t := 0) (N := 13) hM ka_int rfl (by decide) (by decide) (by decide) (by decide) (Nat.le_of_ble_eq_true rfl) (Nat.le_of_ble_eq_true rfl) dX12_init_23 ?_
  refine V_putPF (o := some 38) hM dX12_init_25 flX12_92 (rfl) rfl (ty := .array .int) (by decide +kernel) (Or.inr ⟨_, rfl⟩) rfl ?_
  refine V_aln dX12_init_28 rfl ?_
  refine V_bipush (v := 13) rfl dX12_init_29 ?_
  refine V_newa (at0 := .int) (t := 0) (N := 13) hM ka_int rfl (by decide) (by decide) (by decide) (by decide) (Nat.le_of_ble_eq_true rfl) (Nat.le_of_ble_eq_true rfl) dX12_init_31 ?_
  refine V_putPF (o := some 39) hM dX12_init_33 flX12_95 (rfl) rfl (ty := .array .int) (by decide +kernel) (Or.inr ⟨_, rfl⟩) rfl ?_
  refine V_aln dX12_init_36 rfl ?_
  refine V_bipush (v := 13) rfl dX12_init_37 ?_
  refine V_newa (at0 := .int) (t := 0) (N := 13) hM ka_int rfl (by decide) (by decide) (by decide) (by decide) (Nat.le_of_ble_eq_true rfl) (Nat.le_of_ble_eq_true rfl) dX12_init_39 ?_
  refine V_putPF (o := some 40) hM dX12_init_41 flX12_98 (rfl) rfl (ty := .array .int) (by decide +kernel) (Or.inr ⟨_, rfl⟩) rfl ?_
  refine V_aln dX12_init_44 rfl ?_
  refine V_sipush (v := 156) rfl dX12_init_45 ?_
  refine V_newa (at0 := .int) (t := 0) (N := 156) hM ka_int rfl (by decide) (by decide) (by decide) (by decide) (Nat.le_of_ble_eq_true rfl) (Nat.le_of_ble_eq_true rfl) dX12_init_48 ?_
  refine V_putPF (o := some 41) hM dX12_init_50 flX12_127 (rfl) rfl (ty := .array .int) (by decide +kernel) (Or.inr ⟨_, rfl⟩) rfl ?_
  refine V_aln dX12_init_53 rfl ?_
  refine V_sipush (v := 156) rfl dX12_init_54 ?_
  refine V_newa (at0 := .int) (t := 0) (N := 156) hM ka_int rfl (by decide) (by decide) (by decide) (by decide) (Nat.le_of_ble_eq_true rfl) (Nat.le_of_ble_eq_true rfl) dX12_init_57 ?_
  refine V_putPF (o := some 42) hM dX12_init_59 flX12_130 (rfl) rfl (ty := .array .int) (by decide +kernel) (Or.inr ⟨_, rfl⟩) rfl ?_
  refine V_aln dX12_init_62 rfl ?_
  refine V_sipush (v := 156) rfl dX12_init_63 ?_
  refine V_newa (at0 := .int) (t := 0) (N := 156) hM ka_int rfl (by decide) (by decide) (by decide) (by decide) (Nat.le_of_ble_eq_true rfl) (Nat.le_of_ble_eq_true rfl) dX12_init_66 ?_
  refine V_putPF (o := some 43) hM dX12_init_68 flX12_132 (rfl) rfl (ty := .array .int) (by decide +kernel) (Or.inr ⟨_, rfl⟩) rfl ?_
  refine V_aln dX12_init_71 rfl ?_
  refine V_sipush (v := 156) rfl dX12_init_72 ?_
  refine V_newa (at0 := .int) (t := 0) (N := 156) hM ka_int rfl (by decide) (by decide) (by decide) (by decide) (Nat.le_of_ble_eq_true rfl) (Nat.le_of_ble_eq_true rfl) dX12_init_75 ?_
  refine V_putPF (o := some 44) hM dX12_init_77 flX12_135 (rfl) rfl (ty := .array .int) (by decide +kernel) (Or.inr ⟨_, rfl⟩) rfl ?_
  refine V_aln dX12_init_80 rfl ?_
  refine V_sipush (v := 156) rfl dX12_init_81 ?_
  refine V_newa (at0 := .int) (t := 0) (N := 156) hM ka_int rfl (by decide) (by decide) (by decide) (by decide) (Nat.le_of_ble_eq_true rfl) (Nat.le_of_ble_eq_true rfl) dX12_init_84 ?_
  refine V_putPF (o := some 45) hM dX12_init_86 flX12_148 (rfl) rfl (ty := .array .int) (by decide +kernel) (Or.inr ⟨_, rfl⟩) rfl ?_
  refine V_aln dX12_init_89 rfl ?_
  refine V_sipush (v := 156) rfl dX12_init_90 ?_
  refine V_newa (at0 := .int) (t := 0) (N := 156) hM ka_int rfl (by decide) (by decide) (by decide) (by decide) (Nat.le_of_ble_eq_true rfl) (Nat.le_of_ble_eq_true rfl) dX12_init_93 ?_
  refine V_putPF (o := some 46) hM dX12_init_95 flX12_161 (rfl) rfl (ty := .array .int) (by decide +kernel) (Or.inr ⟨_, rfl⟩) rfl ?_
  refine V_aln dX12_init_98 rfl ?_
  refine V_new (ci := 11) hM (by decide) klX12_171 kt11 ki11 (fun h => absurd rfl h) (Nat.le_of_ble_eq_true rfl) (Nat.le_of_ble_eq_true rfl) dX12_init_99 ?_
  refine V_dup rfl dX12_init_102 ?_
  refine V_cI0n hM cvX12_173 (e_X11_init (a := 47) rfl) ⟨Nat.le_of_ble_eq_true rfl, Nat.le_of_ble_eq_true rfl, Nat.le_of_ble_eq_true rfl, Nat.le_of_ble_eq_true rfl⟩ (Nat.le_of_ble_eq_true rfl) dX12_init_103 ?_
  refine V_putPF (o := some 47) hM dX12_init_106 flX12_19 (rfl) rfl (ty := .object "GownCourtModel$Stop") (by decide +kernel) (Or.inl ⟨_, rfl⟩) rfl ?_
  refine V_aln dX12_init_109 rfl ?_
  refine V_sipush (v := 800) rfl dX12_init_110 ?_
  refine V_newa (at0 := .byte) (t := 1) (N := 800) hM ka_byte rfl (by decide) (by decide) (by decide) (by decide) (Nat.le_of_ble_eq_true rfl) (Nat.le_of_ble_eq_true rfl) dX12_init_113 ?_
  refine V_putPF (o := some 48) hM dX12_init_115 flX12_26 (rfl) rfl (ty := .array .byte) (by decide +kernel) (Or.inr ⟨_, rfl⟩) rfl ?_
  refine V_aln dX12_init_118 rfl ?_
  refine V_iconst (v := -1) rfl dX12_init_119 ?_
  refine V_putI dX12_init_120 flX12_16 (rfl) rfl rfl ?_
  refine V_aln dX12_init_123 rfl ?_
  refine V_bipush (v := 30) rfl dX12_init_124 ?_
  refine V_newa (at0 := .int) (t := 0) (N := 30) hM ka_int rfl (by decide) (by decide) (by decide) (by decide) (Nat.le_of_ble_eq_true rfl) (Nat.le_of_ble_eq_true rfl) dX12_init_126 ?_
  refine V_putPF (o := some 49) hM dX12_init_128 flX12_174 (rfl) rfl (ty := .array .int) (by decide +kernel) (Or.inr ⟨_, rfl⟩) rfl ?_
  refine V_aln dX12_init_131 rfl ?_
  refine V_sipush (v := 360) rfl dX12_init_132 ?_
  refine V_newa (at0 := .int) (t := 0) (N := 360) hM ka_int rfl (by decide) (by decide) (by decide) (by decide) (Nat.le_of_ble_eq_true rfl) (Nat.le_of_ble_eq_true rfl) dX12_init_135 ?_
  refine V_putPF (o := some 50) hM dX12_init_137 flX12_177 (rfl) rfl (ty := .array .int) (by decide +kernel) (Or.inr ⟨_, rfl⟩) rfl ?_
  refine V_aln dX12_init_140 rfl ?_
  refine V_sipush (v := 360) rfl dX12_init_141 ?_
  refine V_newa (at0 := .int) (t := 0) (N := 360) hM ka_int rfl (by decide) (by decide) (by decide) (by decide) (Nat.le_of_ble_eq_true rfl) (Nat.le_of_ble_eq_true rfl) dX12_init_144 ?_
  refine V_putPF (o := some 51) hM dX12_init_146 flX12_180 (rfl) rfl (ty := .array .int) (by decide +kernel) (Or.inr ⟨_, rfl⟩) rfl ?_
  refine V_aln dX12_init_149 rfl ?_
  refine V_bipush (v := 30) rfl dX12_init_150 ?_
  refine V_newa (at0 := .int) (t := 0) (N := 30) hM ka_int rfl (by decide) (by decide) (by decide) (by decide) (Nat.le_of_ble_eq_true rfl) (Nat.le_of_ble_eq_true rfl) dX12_init_152 ?_
  refine V_putPF (o := some 52) hM dX12_init_154 flX12_183 (rfl) rfl (ty := .array .int) (by decide +kernel) (Or.inr ⟨_, rfl⟩) rfl ?_
  refine V_aln dX12_init_157 rfl ?_
  refine V_bipush (v := 120) rfl dX12_init_158 ?_
  refine V_newa (at0 := .int) (t := 0) (N := 120) hM ka_int rfl (by decide) (by decide) (by decide) (by decide) (Nat.le_of_ble_eq_true rfl) (Nat.le_of_ble_eq_true rfl) dX12_init_160 ?_
  refine V_putPF (o := some 53) hM dX12_init_162 flX12_186 (rfl) rfl (ty := .array .int) (by decide +kernel) (Or.inr ⟨_, rfl⟩) rfl ?_
  refine V_aln dX12_init_165 rfl ?_
  refine V_bipush (v := 120) rfl dX12_init_166 ?_
  refine V_newa (at0 := .int) (t := 0) (N := 120) hM ka_int rfl (by decide) (by decide) (by decide) (by decide) (Nat.le_of_ble_eq_true rfl) (Nat.le_of_ble_eq_true rfl) dX12_init_168 ?_
  refine V_putPF (o := some 54) hM dX12_init_170 flX12_189 (rfl) rfl (ty := .array .int) (by decide +kernel) (Or.inr ⟨_, rfl⟩) rfl ?_
  refine V_aln dX12_init_173 rfl ?_
  refine V_bipush (v := 20) rfl dX12_init_174 ?_
  refine V_newa (at0 := .int) (t := 0) (N := 20) hM ka_int rfl (by decide) (by decide) (by decide) (by decide) (Nat.le_of_ble_eq_true rfl) (Nat.le_of_ble_eq_true rfl) dX12_init_176 ?_
  refine V_putPF (o := some 55) hM dX12_init_178 flX12_192 (rfl) rfl (ty := .array .int) (by decide +kernel) (Or.inr ⟨_, rfl⟩) rfl ?_
  refine V_aln dX12_init_181 rfl ?_
  refine V_bipush (v := 20) rfl dX12_init_182 ?_
  refine V_newa (at0 := .int) (t := 0) (N := 20) hM ka_int rfl (by decide) (by decide) (by decide) (by decide) (Nat.le_of_ble_eq_true rfl) (Nat.le_of_ble_eq_true rfl) dX12_init_184 ?_
  refine V_putPF (o := some 56) hM dX12_init_186 flX12_195 (rfl) rfl (ty := .array .int) (by decide +kernel) (Or.inr ⟨_, rfl⟩) rfl ?_
  refine V_aln dX12_init_189 rfl ?_
  refine V_sipush (v := 200) rfl dX12_init_190 ?_
  refine V_newa (at0 := .int) (t := 0) (N := 200) hM ka_int rfl (by decide) (by decide) (by decide) (by decide) (Nat.le_of_ble_eq_true rfl) (Nat.le_of_ble_eq_true rfl) dX12_init_193 ?_
  refine V_putPF (o := some 57) hM dX12_init_195 flX12_198 (rfl) rfl (ty := .array .int) (by decide +kernel) (Or.inr ⟨_, rfl⟩) rfl ?_
  refine V_aln dX12_init_198 rfl ?_
  refine V_bipush (v := 40) rfl dX12_init_199 ?_
  refine V_newa (at0 := .int) (t := 0) (N := 40) hM ka_int rfl (by decide) (by decide) (by decide) (by decide) (Nat.le_of_ble_eq_true rfl) (Nat.le_of_ble_eq_true rfl) dX12_init_201 ?_
  refine V_putPF (o := some 58) hM dX12_init_203 flX12_201 (rfl) rfl (ty := .array .int) (by decide +kernel) (Or.inr ⟨_, rfl⟩) rfl ?_
  refine V_aln dX12_init_206 rfl ?_
  refine V_bipush (v := 40) rfl dX12_init_207 ?_
  refine V_newa (at0 := .int) (t := 0) (N := 40) hM ka_int rfl (by decide) (by decide) (by decide) (by decide) (Nat.le_of_ble_eq_true rfl) (Nat.le_of_ble_eq_true rfl) dX12_init_209 ?_
  refine V_putPF (o := some 59) hM dX12_init_211 flX12_203 (rfl) rfl (ty := .array .int) (by decide +kernel) (Or.inr ⟨_, rfl⟩) rfl ?_
  refine V_aln dX12_init_214 rfl ?_
  refine V_bipush (v := 40) rfl dX12_init_215 ?_
  refine V_newa (at0 := .int) (t := 0) (N := 40) hM ka_int rfl (by decide) (by decide) (by decide) (by decide) (Nat.le_of_ble_eq_true rfl) (Nat.le_of_ble_eq_true rfl) dX12_init_217 ?_
  refine V_putPF (o := some 60) hM dX12_init_219 flX12_205 (rfl) rfl (ty := .array .int) (by decide +kernel) (Or.inr ⟨_, rfl⟩) rfl ?_
  refine V_aln dX12_init_222 rfl ?_
  refine V_bipush (v := 30) rfl dX12_init_223 ?_
  refine V_newa (at0 := .int) (t := 0) (N := 30) hM ka_int rfl (by decide) (by decide) (by decide) (by decide) (Nat.le_of_ble_eq_true rfl) (Nat.le_of_ble_eq_true rfl) dX12_init_225 ?_
  refine V_putPF (o := some 61) hM dX12_init_227 flX12_208 (rfl) rfl (ty := .array .int) (by decide +kernel) (Or.inr ⟨_, rfl⟩) rfl ?_
  refine V_aln dX12_init_230 rfl ?_
  refine V_bipush (v := 30) rfl dX12_init_231 ?_
  refine V_newa (at0 := .int) (t := 0) (N := 30) hM ka_int rfl (by decide) (by decide) (by decide) (by decide) (Nat.le_of_ble_eq_true rfl) (Nat.le_of_ble_eq_true rfl) dX12_init_233 ?_
  refine V_putPF (o := some 62) hM dX12_init_235 flX12_211 (rfl) rfl (ty := .array .int) (by decide +kernel) (Or.inr ⟨_, rfl⟩) rfl ?_
  refine V_aln dX12_init_238 rfl ?_
  refine V_bipush (v := 30) rfl dX12_init_239 ?_
  refine V_newa (at0 := .int) (t := 0) (N := 30) hM ka_int rfl (by decide) (by decide) (by decide) (by decide) (Nat.le_of_ble_eq_true rfl) (Nat.le_of_ble_eq_true rfl) dX12_init_241 ?_
  refine V_putPF (o := some 63) hM dX12_init_243 flX12_214 (rfl) rfl (ty := .array .int) (by decide +kernel) (Or.inr ⟨_, rfl⟩) rfl ?_
  refine V_aln dX12_init_246 rfl ?_
  refine V_bipush (v := 30) rfl dX12_init_247 ?_
  refine V_newa (at0 := .int) (t := 0) (N := 30) hM ka_int rfl (by decide) (by decide) (by decide) (by decide) (Nat.le_of_ble_eq_true rfl) (Nat.le_of_ble_eq_true rfl) dX12_init_249 ?_
  refine V_putPF (o := some 64) hM dX12_init_251 flX12_217 (rfl) rfl (ty := .array .int) (by decide +kernel) (Or.inr ⟨_, rfl⟩) rfl ?_
  refine V_aln dX12_init_254 rfl ?_
  refine V_bipush (v := 30) rfl dX12_init_255 ?_
  refine V_newa (at0 := .int) (t := 0) (N := 30) hM ka_int rfl (by decide) (by decide) (by decide) (by decide) (Nat.le_of_ble_eq_true rfl) (Nat.le_of_ble_eq_true rfl) dX12_init_257 ?_
  refine V_putPF (o := some 65) hM dX12_init_259 flX12_220 (rfl) rfl (ty := .array .int) (by decide +kernel) (Or.inr ⟨_, rfl⟩) rfl ?_
  refine V_aln dX12_init_262 rfl ?_
  refine V_bipush (v := 30) rfl dX12_init_263 ?_
  refine V_newa (at0 := .int) (t := 0) (N := 30) hM ka_int rfl (by decide) (by decide) (by decide) (by decide) (Nat.le_of_ble_eq_true rfl) (Nat.le_of_ble_eq_true rfl) dX12_init_265 ?_
  refine V_putPF (o := some 66) hM dX12_init_267 flX12_223 (rfl) rfl (ty := .array .int) (by decide +kernel) (Or.inr ⟨_, rfl⟩) rfl ?_
  refine V_aln dX12_init_270 rfl ?_
  refine V_bipush (v := 7) rfl dX12_init_271 ?_
  refine V_newa (at0 := .int) (t := 0) (N := 7) hM ka_int rfl (by decide) (by decide) (by decide) (by decide) (Nat.le_of_ble_eq_true rfl) (Nat.le_of_ble_eq_true rfl) dX12_init_273 ?_
  refine V_putPF (o := some 67) hM dX12_init_275 flX12_226 (rfl) rfl (ty := .array .int) (by decide +kernel) (Or.inr ⟨_, rfl⟩) rfl ?_
  refine V_aln dX12_init_278 rfl ?_
  refine V_bipush (v := 60) rfl dX12_init_279 ?_
  refine V_newa (at0 := .int) (t := 0) (N := 60) hM ka_int rfl (by decide) (by decide) (by decide) (by decide) (Nat.le_of_ble_eq_true rfl) (Nat.le_of_ble_eq_true rfl) dX12_init_281 ?_
  refine V_putPF (o := some 68) hM dX12_init_283 flX12_229 (rfl) rfl (ty := .array .int) (by decide +kernel) (Or.inr ⟨_, rfl⟩) rfl ?_
  refine V_aln dX12_init_286 rfl ?_
  refine V_bipush (v := 60) rfl dX12_init_287 ?_
  refine V_newa (at0 := .int) (t := 0) (N := 60) hM ka_int rfl (by decide) (by decide) (by decide) (by decide) (Nat.le_of_ble_eq_true rfl) (Nat.le_of_ble_eq_true rfl) dX12_init_289 ?_
  refine V_putPF (o := some 69) hM dX12_init_291 flX12_232 (rfl) rfl (ty := .array .int) (by decide +kernel) (Or.inr ⟨_, rfl⟩) rfl ?_
  refine V_aln dX12_init_294 rfl ?_
  refine V_bipush (v := 60) rfl dX12_init_295 ?_
  refine V_newa (at0 := .int) (t := 0) (N := 60) hM ka_int rfl (by decide) (by decide) (by decide) (by decide) (Nat.le_of_ble_eq_true rfl) (Nat.le_of_ble_eq_true rfl) dX12_init_297 ?_
  refine V_putPF (o := some 70) hM dX12_init_299 flX12_235 (rfl) rfl (ty := .array .int) (by decide +kernel) (Or.inr ⟨_, rfl⟩) rfl ?_
  refine V_aln dX12_init_302 rfl ?_
  refine V_bipush (v := 60) rfl dX12_init_303 ?_
  refine V_newa (at0 := .int) (t := 0) (N := 60) hM ka_int rfl (by decide) (by decide) (by decide) (by decide) (Nat.le_of_ble_eq_true rfl) (Nat.le_of_ble_eq_true rfl) dX12_init_305 ?_
  refine V_putPF (o := some 71) hM dX12_init_307 flX12_238 (rfl) rfl (ty := .array .int) (by decide +kernel) (Or.inr ⟨_, rfl⟩) rfl ?_
  refine V_aln dX12_init_310 rfl ?_
  refine V_bipush (v := 60) rfl dX12_init_311 ?_
  refine V_newa (at0 := .int) (t := 0) (N := 60) hM ka_int rfl (by decide) (by decide) (by decide) (by decide) (Nat.le_of_ble_eq_true rfl) (Nat.le_of_ble_eq_true rfl) dX12_init_313 ?_
  refine V_putPF (o := some 72) hM dX12_init_315 flX12_241 (rfl) rfl (ty := .array .int) (by decide +kernel) (Or.inr ⟨_, rfl⟩) rfl ?_
  refine V_aln dX12_init_318 rfl ?_
  refine V_bipush (v := 60) rfl dX12_init_319 ?_
  refine V_newa (at0 := .int) (t := 0) (N := 60) hM ka_int rfl (by decide) (by decide) (by decide) (by decide) (Nat.le_of_ble_eq_true rfl) (Nat.le_of_ble_eq_true rfl) dX12_init_321 ?_
  refine V_putPF (o := some 73) hM dX12_init_323 flX12_244 (rfl) rfl (ty := .array .int) (by decide +kernel) (Or.inr ⟨_, rfl⟩) rfl ?_
  refine V_aln dX12_init_326 rfl ?_
  refine V_bipush (v := 60) rfl dX12_init_327 ?_
  refine V_newa (at0 := .int) (t := 0) (N := 60) hM ka_int rfl (by decide) (by decide) (by decide) (by decide) (Nat.le_of_ble_eq_true rfl) (Nat.le_of_ble_eq_true rfl) dX12_init_329 ?_
  refine V_putPF (o := some 74) hM dX12_init_331 flX12_247 (rfl) rfl (ty := .array .int) (by decide +kernel) (Or.inr ⟨_, rfl⟩) rfl ?_
  refine V_aln dX12_init_334 rfl ?_
  refine V_iconst (v := 5) rfl dX12_init_335 ?_
  refine V_newa (at0 := .int) (t := 0) (N := 5) hM ka_int rfl (by decide) (by decide) (by decide) (by decide) (Nat.le_of_ble_eq_true rfl) (Nat.le_of_ble_eq_true rfl) dX12_init_336 ?_
  refine V_putPF (o := some 75) hM dX12_init_338 flX12_250 (rfl) rfl (ty := .array .int) (by decide +kernel) (Or.inr ⟨_, rfl⟩) rfl ?_
  refine V_iconst (v := 0) rfl dX12_init_341 ?_
  refine V_is1 dX12_init_342 ?_
  refine V_mem (I' := mFill (m0I I) 67 0 1) (fun c k => mFill_0 (I := m0I I) (c := 67) (v := 1) c k) (fun _ _ => rfl) ?_
  exact l_X12_init (I := I) (sh := sh) (P := P) hM (m0_new hlt) 8 0 (by omega) (by omega)
end M0
