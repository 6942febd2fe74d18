/-! ===== the reference's object: its layout ===== -/
def msF (c : Nat) : Option mSh := match c with
  | 35 => some (.inl 12)
  | 36 => some (.inr (0, 13))
  | 37 => some (.inr (0, 13))
  | 38 => some (.inr (0, 13))
  | 39 => some (.inr (0, 13))
  | 40 => some (.inr (0, 13))
  | 41 => some (.inr (0, 156))
  | 42 => some (.inr (0, 156))
  | 43 => some (.inr (0, 156))
  | 44 => some (.inr (0, 156))
  | 45 => some (.inr (0, 156))
  | 46 => some (.inr (0, 156))
  | 47 => some (.inl 11)
  | 48 => some (.inr (1, 800))
  | 49 => some (.inr (0, 30))
  | 50 => some (.inr (0, 360))
  | 51 => some (.inr (0, 360))
  | 52 => some (.inr (0, 30))
  | 53 => some (.inr (0, 120))
  | 54 => some (.inr (0, 120))
  | 55 => some (.inr (0, 20))
  | 56 => some (.inr (0, 20))
  | 57 => some (.inr (0, 200))
  | 58 => some (.inr (0, 40))
  | 59 => some (.inr (0, 40))
  | 60 => some (.inr (0, 40))
  | 61 => some (.inr (0, 30))
  | 62 => some (.inr (0, 30))
  | 63 => some (.inr (0, 30))
  | 64 => some (.inr (0, 30))
  | 65 => some (.inr (0, 30))
  | 66 => some (.inr (0, 30))
  | 67 => some (.inr (0, 7))
  | 68 => some (.inr (0, 60))
  | 69 => some (.inr (0, 60))
  | 70 => some (.inr (0, 60))
  | 71 => some (.inr (0, 60))
  | 72 => some (.inr (0, 60))
  | 73 => some (.inr (0, 60))
  | 74 => some (.inr (0, 60))
  | 75 => some (.inr (0, 5))
  | _ => none
def mpF (k : Nat) : Option Nat := match k with
  | 1 => some 36
  | 2 => some 37
  | 3 => some 38
  | 4 => some 39
  | 5 => some 40
  | 6 => some 41
  | 7 => some 42
  | 8 => some 43
  | 9 => some 44
  | 10 => some 45
  | 11 => some 46
  | 12 => some 47
  | 13 => some 48
  | 23 => some 49
  | 24 => some 50
  | 25 => some 51
  | 26 => some 52
  | 27 => some 53
  | 28 => some 54
  | 29 => some 55
  | 30 => some 56
  | 34 => some 57
  | 35 => some 58
  | 36 => some 59
  | 37 => some 60
  | 38 => some 61
  | 39 => some 62
  | 40 => some 63
  | 41 => some 64
  | 42 => some 65
  | 43 => some 66
  | 44 => some 67
  | 47 => some 68
  | 48 => some 69
  | 49 => some 70
  | 50 => some 71
  | 51 => some 72
  | 52 => some 73
  | 53 => some 74
  | 54 => some 75
  | _ => none
def MW (sh : Nat → Option mSh) (P : mP) : Prop := (∀ c z, msF c = some z → sh c = some z) ∧ ∀ k b, mpF k = some b → P 35 k = some b
theorem i64_le (x y : Int32) : x.toInt64 ≤ y.toInt64 ↔ x ≤ y := by rw [Int64.le_iff_toInt_le, Int32.le_iff_toInt_le, Int32.toInt_toInt64, Int32.toInt_toInt64]
theorem inJ {x : Int32} {c : Int64} {n : Nat} (h : c.toInt = (n : Int) - 1) : (decide ((0 : Int64) ≤ x.toInt64) && decide (x.toInt64 ≤ c)) = inB x n := by
  unfold inB
  congr 1
  · rw [decide_eq_decide, Int64.le_iff_toInt_le, Int32.toInt_toInt64]
    rfl
  · rw [decide_eq_decide, Int64.le_iff_toInt_le, Int32.toInt_toInt64, h]
    omega
theorem n64 {n : Nat} (hn : n < 2 ^ 31) : ((nI n).toInt64 - 1).toInt = (n : Int) - 1 := by
  rw [Int64.toInt_sub, Int32.toInt_toInt64, nI_toInt hn]
  have : (1 : Int64).toInt = 1 := rfl
  rw [this, Int.bmod_eq_of_le (by omega) (by omega)]
section ML
variable {X : mX} {B nx : Nat} {sh : Nat → Option mSh} {I : mI} {P : mP}
theorem e_X12_in {x y z : Int64} : Ev X B mdX12_in 0 0 [.long x, .long y, .long z] nx sh I P (mDet (some (.int (bI (decide (y ≤ x) && decide (x ≤ z))))) nx sh I P) := by
  refine Met.ofW (cc := cX12_in) (maxL := 6) (ret := some .boolean) (by decide) rfl ?_
  intro p e s m args below meth c s₁ Bd hml hv
  obtain ⟨rfl, hR, hK⟩ := hv
  rw [lg_entry_eq]
  have fin : ∀ (R : Room) (b : Bool) (la : Array Slot) (v : Int32), v = bI b → (decide (y ≤ x) && decide (x ≤ z)) = b → ∀ {pc : Nat}, decode cX12_in pc = .ok (.ireturn, 1) → W p X.2.2.2.2.2 e R s m [Value.long x, Value.long y, Value.long z].toArray below meth c s.heap [] 0 0 (MQ below (mQc X B (mDet (some (.int (bI (decide (y ≤ x) && decide (x ≤ z))))) nx sh I P)) [Value.long x, Value.long y, Value.long z].toArray s 0 0 (fun q => B ≤ q)) (F0 m pc la [.int v]) := fun R b la v hv hb pc hd => W.zret Bd.exec Bd.bytes Bd.returns (by rw [hv]; cases b <;> rfl) (fun t ht hW => ⟨_, nx, sh, I, P, rfl, ⟨by rw [hb, hv], rfl, rfl, rfl, rfl⟩, by rw [ht]; exact hR⟩) (fun q h => by cases h) hd Bd.notSynchronized
  refine lv_lload_n Bd.exec Bd.bytes (i := 0) dX12_in_0 rfl rfl ?_
  refine lv_lload_n Bd.exec Bd.bytes (i := 2) dX12_in_1 rfl rfl ?_
  refine W.lcmp Bd.exec Bd.bytes dX12_in_2 ?_
  refine lv_if_lt (tgt := 17) Bd.exec Bd.bytes dX12_in_3 rfl (fun c1 => ?_) (fun c1 => ?_)
  · refine lv_iconst Bd.exec Bd.bytes (v := 0) dX12_in_17 rfl ?_
    exact fin _ false _ _ rfl (by
      have : ¬ y ≤ x := fun h => absurd ((lg_cmp_ge x y).mpr h) (by rw [Int32.not_le]; exact c1)
      simp [this]) dX12_in_18
  · have h1 : y ≤ x := (lg_cmp_ge x y).mp (Int32.not_lt.mp c1)
    refine lv_lload_n Bd.exec Bd.bytes (i := 0) dX12_in_6 rfl rfl ?_
    refine lv_lload Bd.exec Bd.bytes (i := 4) dX12_in_7 rfl ?_
    refine W.lcmp Bd.exec Bd.bytes dX12_in_9 ?_
    have hle : (lg_cmp x z ≤ 0) ↔ x ≤ z := by
      unfold lg_cmp
      simp only [gt_iff_lt, Int64.lt_iff_toInt_lt, Int64.le_iff_toInt_le, ← Int64.toInt_inj]
      split
      · exact ⟨fun h => absurd h (by decide), fun h => by omega⟩
      · split
        · exact ⟨fun _ => by omega, fun _ => by decide⟩
        · exact ⟨fun _ => by omega, fun _ => by decide⟩
    refine lv_if_gt (tgt := 17) Bd.exec Bd.bytes dX12_in_10 rfl (fun c2 => ?_) (fun c2 => ?_)
    · refine lv_iconst Bd.exec Bd.bytes (v := 0) dX12_in_17 rfl ?_
      exact fin _ false _ _ rfl (by
        have : ¬ x ≤ z := fun h => absurd (hle.mpr h) (by rw [Int32.not_le]; exact c2)
        simp [this]) dX12_in_18
    · refine lv_iconst Bd.exec Bd.bytes (v := 1) dX12_in_13 rfl ?_
      refine lv_goto (tgt := 18) Bd.exec Bd.bytes dX12_in_14 rfl ?_
      exact fin _ true _ _ rfl (by
        have : x ≤ z := hle.mp (Int32.not_lt.mp c2)
        simp [h1, this]) dX12_in_18
end ML
