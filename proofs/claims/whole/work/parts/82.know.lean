/-! ===== what is known at the law's entry ===== -/
theorem kt_all {ci : Nat} (h : ci < 13) : Cond.instantiable (mCn ci) (mNf ci) ∈ mW := by
  rcases (show ci = 0 ∨ ci = 1 ∨ ci = 2 ∨ ci = 3 ∨ ci = 4 ∨ ci = 5 ∨ ci = 6 ∨ ci = 7 ∨ ci = 8 ∨ ci = 9 ∨ ci = 10 ∨ ci = 11 ∨ ci = 12 by omega) with rfl | rfl | rfl | rfl | rfl | rfl | rfl | rfl | rfl | rfl | rfl | rfl | rfl
  · exact kt0
  · exact kt1
  · exact kt2
  · exact kt3
  · exact kt4
  · exact kt5
  · exact kt6
  · exact kt7
  · exact kt8
  · exact kt9
  · exact kt10
  · exact kt11
  · exact kt12
theorem ofF {args : Array Value} {s : State} {t : Term} {o n d : String} {v : Value} {a : Nat} {A : Nat → Prop} (ht : t.eval args s none [] s = some (.ref a)) (hv : (Term.field t o n d).eval args s none [] s = some v) (hA : ∀ a : Nat, a < s.heap.size → ¬ A a) : va_OF o n d v a A s s.heap := by
  cases hfo : s.fieldFound? o n d with
  | none =>
    rw [va_fe ht] at hv
    simp [State.fieldOf?, State.fieldNamed?, hfo] at hv
  | some x =>
    obtain ⟨cf, k, fi, f⟩ := x
    obtain ⟨g1, cell, g2, g3, -, -, g6⟩ := Term.field_spec hfo ht hv
    exact ⟨cf, k, fi, f, cell, hfo, g1, g2, g3, g6, hA _ (Array.getElem?_eq_some_iff.mp g2).1⟩
theorem mK_start {s : State} {args : Array Value} (l : Launch) (hts : ∀ w ∈ lw_tbl, w.before args s = true) (hgv : (Jvm.Cond.and given_1 narrow_1).before args s = true) : ∃ X : mX, X.2.2.1 = s.heap ∧ X.2.2.2.2.2 = l ∧ mK X s.heap.size s := by
  have hfl : ∀ w ∈ flW, w.before args s = true := flat_of_before _ hgv
  have hW : ∀ w ∈ mW, w.before args s = true := fun w h => hts w (List.mem_filter.mp h).1
  have hT : ∀ w ∈ tables_1, w.before args s = true := fun w h => hts w (List.mem_append_right _ h)
  have hI : ∀ (i : Nat) (w : Cond), tables_1[i]? = some w → w.before args s = true := fun i w h => hT w (List.mem_of_getElem? h)
  have hA : ∀ a : Nat, a < s.heap.size → ¬ (fun q : Nat => s.heap.size ≤ q) a := fun a h => Nat.not_le.mpr h
  -- classes
  have hk : ∀ ci : Nat, ∃ d : ClassId × (Nat → Nat), ci < 13 → u_Kn s (vwCl.getD ci mDf).1 (vwCl.getD ci mDf).2.1 (vwCl.getD ci mDf).2.2 d.1 d.2 := by
    intro ci
    by_cases h : ci < 13
    · obtain ⟨cC, iS, hK⟩ := u_known hW (mCls h).1 (hW _ (kt_all h))
      exact ⟨(cC, iS), fun _ => hK⟩
    · exact ⟨(0, fun _ => 0), fun h' => absurd h' h⟩
  obtain ⟨dd, hdd⟩ := Classical.axiomOfChoice hk
  -- arrays
  have hover : ∀ t, 2 ≤ t → t < 6 → (Cond.arrayOver (.object (vwCl.getD (mElem t) (RX0, TX0, 0)).1)).before args s = true := by
    intro t h1 h2
    rcases (show t = 2 ∨ t = 3 ∨ t = 4 ∨ t = 5 by omega) with rfl | rfl | rfl | rfl
    · exact hI 174 _ (by decide +kernel)
    · exact hI 176 _ (by decide +kernel)
    · exact hI 142 _ (by decide +kernel)
    · exact hI 57 _ (by decide +kernel)
  have ho : ∀ C : String, (Cond.arrayOver (.object C)).before args s = true → ∃ cA : ClassId, ArrOfT s cA (.object C) ∧ va_RA s cA (.object C) := by
    intro C h
    obtain ⟨comp, c, k, h1, -, h2, h3, h4⟩ := Cond.arrayOver_spec h
    exact ⟨c, fun N z => ⟨(fun k h => by cases h), k, h2, comp, h3⟩, k, comp, h2, h3, h1, h4⟩
  have ha : ∀ t : Nat, ∃ cA : ClassId, t < 6 → ArrOfT s cA (mTyOf t) ∧ va_RA s cA (mTyOf t) := by
    intro t
    by_cases h : t < 6
    · rcases (show t = 0 ∨ t = 1 ∨ t = 2 ∨ t = 3 ∨ t = 4 ∨ t = 5 by omega) with rfl | rfl | rfl | rfl | rfl | rfl
      · obtain ⟨c, k, comp, h1, h2, h3⟩ := Cond.arrayClass_spec (hW _ ka_int)
        exact ⟨c, fun _ => ⟨fun N z => ⟨(fun k h => by cases h), k, h2, comp, h3⟩, h1⟩⟩
      · obtain ⟨c, k, comp, h1, h2, h3⟩ := Cond.arrayClass_spec (hW _ ka_byte)
        exact ⟨c, fun _ => ⟨fun N z => ⟨(fun k h => by cases h), k, h2, comp, h3⟩, h1⟩⟩
      · obtain ⟨c, h1⟩ := ho _ (hover 2 (by omega) (by omega)); exact ⟨c, fun _ => h1⟩
      · obtain ⟨c, h1⟩ := ho _ (hover 3 (by omega) (by omega)); exact ⟨c, fun _ => h1⟩
      · obtain ⟨c, h1⟩ := ho _ (hover 4 (by omega) (by omega)); exact ⟨c, fun _ => h1⟩
      · obtain ⟨c, h1⟩ := ho _ (hover 5 (by omega) (by omega)); exact ⟨c, fun _ => h1⟩
    · exact ⟨0, fun h' => absurd h' h⟩
  obtain ⟨dA, hdA⟩ := Classical.axiomOfChoice ha
  -- texts
  have hs : ∀ i : Nat, ∃ q : Nat × Nat, i < 38 → (tSt i).eval args s none [] s = some (.ref q.1) ∧ va_O "java/lang/String" q.1 (fun q => s.heap.size ≤ q) s s.heap ∧ va_OF "java/lang/String" "coder" "B" (.int 0) q.1 (fun q => s.heap.size ≤ q) s s.heap ∧ va_OF "java/lang/String" "value" "[B" (.ref q.2) q.1 (fun q => s.heap.size ≤ q) s s.heap ∧ va_T .byte q.2 (mLe.getD i 0) (fun j => .int ((mBy.getD i []).getD j 0)) (fun q => s.heap.size ≤ q) s s.heap := by
    intro i
    by_cases hi : i < 38
    · obtain ⟨⟨w1, w2⟩, w3, w4⟩ := fl_str i hi
      have hl7 := fl_len i hi
      obtain ⟨a, c, cell, k, q1, q2, q3, q4, q5, q6, -⟩ := Cond.exactly_spec (hfl _ w1)
      obtain ⟨t, ht, hT2⟩ := va_Tof (A := fun q => s.heap.size ≤ q) (N := mLe.getD i 0) (f := fun j => .int ((mBy.getD i []).getD j 0)) (by have : mLe.getD i 0 ≤ 7 := hl7; omega) (hfl _ w3) (va_eqt (hfl _ w4)) (fun j hj => va_eqt (hfl _ (fl_chr i hi j hj))) hA
      exact ⟨(a, t), fun _ => ⟨q1, ⟨cell, q3, q5, by rw [q6]; exact q2, hA a (Array.getElem?_eq_some_iff.mp q3).1⟩, ofF q1 (va_eqt (hfl _ w2)) hA, ofF q1 ht hA, hT2⟩⟩
    · exact ⟨(0, 0), fun h' => absurd h' hi⟩
  obtain ⟨aa, haa⟩ := Classical.axiomOfChoice hs
  refine ⟨((fun c => (dd c).1, fun c => (dd c).2), dA, s.heap, fun i => (aa i).1, fun i => (aa i).2, l), rfl, rfl, ⟨fun c q hq => ?_, fun k q hq => ?_⟩, fun w hw => ?_, fun i hi => (haa i hi).2, fun i r hr => ?_, fun r hr => ?_, fun r hr => ?_, fun t h1 h2 => va_AO.of (hover t h1 h2), rfl⟩
  · have hc : c < 13 := (List.getElem?_eq_some_iff.mp hq).1
    have e : q = vwCl.getD c mDf := Option.some.inj (hq.symm.trans (mCl_at hc))
    rw [e]
    exact hdd c hc
  · have hk6 : k < 6 := (List.getElem?_eq_some_iff.mp hq).1
    rcases (show k = 0 ∨ k = 1 ∨ k = 2 ∨ k = 3 ∨ k = 4 ∨ k = 5 by omega) with rfl | rfl | rfl | rfl | rfl | rfl
    · cases hq; exact hdA 0 (by omega)
    · cases hq; exact hdA 1 (by omega)
    · cases hq; exact hdA 2 (by omega)
    · cases hq; exact hdA 3 (by omega)
    · cases hq; exact hdA 4 (by omega)
    · cases hq; exact hdA 5 (by omega)
  · have h1 := hT w (List.mem_filter.mp hw).1
    have h2 := (List.mem_filter.mp hw).2
    cases w <;> simp [mIsN] at h2
    · exact va_Nw.of rfl h1
    · exact va_Nw.of rfl h1
  · have hi : i < 38 := (List.getElem?_eq_some_iff.mp hr).1
    have e : mSr.getD i mSd = r := by rw [List.getD_eq_getElem?_getD, hr]; rfl
    have h1 := hT _ (tb_str i hi)
    have h2 := (haa i hi).1
    rw [← e]
    exact vk_R.of h1 h2
  · simp [mZi] at hr
    subst hr
    exact va_Zof (hI 495 _ (by decide +kernel)) (hI 15 _ (by decide +kernel)) (va_eqi (hfl _ fz_1)) hA
  · simp [mZq] at hr
    rcases hr with rfl | rfl | rfl
    · exact va_Zqof (hI 922 _ (by decide +kernel)) (hI 12 _ (by decide +kernel)) (hfl _ fq_0) hA
    · exact va_Zqof (hI 924 _ (by decide +kernel)) (hI 12 _ (by decide +kernel)) (hfl _ fq_1) hA
    · exact va_Zqof (hI 511 _ (by decide +kernel)) (hI 17 _ (by decide +kernel)) (hfl _ fq_2) hA
