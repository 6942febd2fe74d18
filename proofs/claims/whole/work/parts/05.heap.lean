/-! ===== rows of V that touch the memory ===== -/
abbrev mDf : vw_C := (RX0, TX0, 0)
def mDesc (ci k : Nat) : String := ((vwCl.getD ci mDf).2.1 k).2.2.1
def mFin (ci k : Nat) : Bool := ((vwCl.getD ci mDf).2.1 k).2.2.2
def mNf (ci : Nat) : Nat := (vwCl.getD ci mDf).2.2
def mFc (ci k : Nat) : String := ((vwCl.getD ci mDf).2.1 k).1
def mFn (ci k : Nat) : String := ((vwCl.getD ci mDf).2.1 k).2.1
def mCn (ci : Nat) : String := (vwCl.getD ci mDf).1
/-- pool entry idx of own is field k of class ci -/
def mFl (own : String) (idx ci k : Nat) : Prop := k < mNf ci ∧ ci < 13 ∧ (Cond.fieldLink own idx (mFc ci k) (mFn ci k) (mDesc ci k) ∈ mW ∨ ∃ host, Cond.fieldLinkNest own idx (mFc ci k) (mFn ci k) (mDesc ci k) host ∈ mN)
theorem mCl_at {ci : Nat} (h : ci < 13) : vwCl[ci]? = some (vwCl.getD ci mDf) := by
  rcases (show ci = 0 ∨ ci = 1 ∨ ci = 2 ∨ ci = 3 ∨ ci = 4 ∨ ci = 5 ∨ ci = 6 ∨ ci = 7 ∨ ci = 8 ∨ ci = 9 ∨ ci = 10 ∨ ci = 11 ∨ ci = 12 by omega) with rfl | rfl | rfl | rfl | rfl | rfl | rfl | rfl | rfl | rfl | rfl | rfl | rfl <;> rfl
theorem mIn0 : ∀ w ∈ u_ws RX0 TX0 6, w ∈ mW := by
  have h : u_ws RX0 TX0 6 = ([75, 77, 79, 81, 83, 85] : List Nat).filterMap (fun i => tables_1[i]?) := by decide +kernel
  have g : (u_ws RX0 TX0 6).all goodWord = true := by decide +kernel
  intro w hw
  have g1 := List.all_eq_true.mp g w hw
  rw [h] at hw
  obtain ⟨i, -, hi⟩ := List.mem_filterMap.mp hw
  exact mW_at i hi g1
theorem mIn1 : ∀ w ∈ u_ws RX1 TX1 3, w ∈ mW := by
  have h : u_ws RX1 TX1 3 = ([242, 244, 246] : List Nat).filterMap (fun i => tables_1[i]?) := by decide +kernel
  have g : (u_ws RX1 TX1 3).all goodWord = true := by decide +kernel
  intro w hw
  have g1 := List.all_eq_true.mp g w hw
  rw [h] at hw
  obtain ⟨i, -, hi⟩ := List.mem_filterMap.mp hw
  exact mW_at i hi g1
theorem mIn2 : ∀ w ∈ u_ws RX2 TX2 2, w ∈ mW := by
  have h : u_ws RX2 TX2 2 = ([145, 147] : List Nat).filterMap (fun i => tables_1[i]?) := by decide +kernel
  have g : (u_ws RX2 TX2 2).all goodWord = true := by decide +kernel
  intro w hw
  have g1 := List.all_eq_true.mp g w hw
  rw [h] at hw
  obtain ⟨i, -, hi⟩ := List.mem_filterMap.mp hw
  exact mW_at i hi g1
theorem mIn3 : ∀ w ∈ u_ws RX3 TX3 4, w ∈ mW := by
  have h : u_ws RX3 TX3 4 = ([198, 200, 202, 204] : List Nat).filterMap (fun i => tables_1[i]?) := by decide +kernel
  have g : (u_ws RX3 TX3 4).all goodWord = true := by decide +kernel
  intro w hw
  have g1 := List.all_eq_true.mp g w hw
  rw [h] at hw
  obtain ⟨i, -, hi⟩ := List.mem_filterMap.mp hw
  exact mW_at i hi g1
theorem mIn4 : ∀ w ∈ u_ws RX4 TX4 7, w ∈ mW := by
  have h : u_ws RX4 TX4 7 = ([766, 768, 770, 772, 774, 776, 778] : List Nat).filterMap (fun i => tables_1[i]?) := by decide +kernel
  have g : (u_ws RX4 TX4 7).all goodWord = true := by decide +kernel
  intro w hw
  have g1 := List.all_eq_true.mp g w hw
  rw [h] at hw
  obtain ⟨i, -, hi⟩ := List.mem_filterMap.mp hw
  exact mW_at i hi g1
theorem mIn5 : ∀ w ∈ u_ws RX5 TX5 15, w ∈ mW := by
  have h : u_ws RX5 TX5 15 = ([104, 106, 108, 110, 112, 114, 116, 118, 120, 122, 124, 126, 128, 130, 132] : List Nat).filterMap (fun i => tables_1[i]?) := by decide +kernel
  have g : (u_ws RX5 TX5 15).all goodWord = true := by decide +kernel
  intro w hw
  have g1 := List.all_eq_true.mp g w hw
  rw [h] at hw
  obtain ⟨i, -, hi⟩ := List.mem_filterMap.mp hw
  exact mW_at i hi g1
theorem mIn6 : ∀ w ∈ u_ws RX6 TX6 4, w ∈ mW := by
  have h : u_ws RX6 TX6 4 = ([163, 165, 167, 169] : List Nat).filterMap (fun i => tables_1[i]?) := by decide +kernel
  have g : (u_ws RX6 TX6 4).all goodWord = true := by decide +kernel
  intro w hw
  have g1 := List.all_eq_true.mp g w hw
  rw [h] at hw
  obtain ⟨i, -, hi⟩ := List.mem_filterMap.mp hw
  exact mW_at i hi g1
theorem mIn7 : ∀ w ∈ u_ws RX7 TX7 6, w ∈ mW := by
  have h : u_ws RX7 TX7 6 = ([609, 611, 613, 615, 617, 619] : List Nat).filterMap (fun i => tables_1[i]?) := by decide +kernel
  have g : (u_ws RX7 TX7 6).all goodWord = true := by decide +kernel
  intro w hw
  have g1 := List.all_eq_true.mp g w hw
  rw [h] at hw
  obtain ⟨i, -, hi⟩ := List.mem_filterMap.mp hw
  exact mW_at i hi g1
theorem mIn8 : ∀ w ∈ u_ws RX8 TX8 2, w ∈ mW := by
  have h : u_ws RX8 TX8 2 = ([44, 46] : List Nat).filterMap (fun i => tables_1[i]?) := by decide +kernel
  have g : (u_ws RX8 TX8 2).all goodWord = true := by decide +kernel
  intro w hw
  have g1 := List.all_eq_true.mp g w hw
  rw [h] at hw
  obtain ⟨i, -, hi⟩ := List.mem_filterMap.mp hw
  exact mW_at i hi g1
theorem mIn9 : ∀ w ∈ u_ws RX9 TX9 5, w ∈ mW := by
  have h : u_ws RX9 TX9 5 = ([222, 224, 226, 228, 230] : List Nat).filterMap (fun i => tables_1[i]?) := by decide +kernel
  have g : (u_ws RX9 TX9 5).all goodWord = true := by decide +kernel
  intro w hw
  have g1 := List.all_eq_true.mp g w hw
  rw [h] at hw
  obtain ⟨i, -, hi⟩ := List.mem_filterMap.mp hw
  exact mW_at i hi g1
theorem mIn10 : ∀ w ∈ u_ws RX10 TX10 17, w ∈ mW := by
  have h : u_ws RX10 TX10 17 = ([266, 268, 270, 272, 274, 276, 278, 280, 282, 284, 286, 288, 290, 292, 294, 296, 298] : List Nat).filterMap (fun i => tables_1[i]?) := by decide +kernel
  have g : (u_ws RX10 TX10 17).all goodWord = true := by decide +kernel
  intro w hw
  have g1 := List.all_eq_true.mp g w hw
  rw [h] at hw
  obtain ⟨i, -, hi⟩ := List.mem_filterMap.mp hw
  exact mW_at i hi g1
theorem mIn11 : ∀ w ∈ u_ws RX11 TX11 6, w ∈ mW := by
  have h : u_ws RX11 TX11 6 = ([906, 908, 910, 912, 914, 952] : List Nat).filterMap (fun i => tables_1[i]?) := by decide +kernel
  have g : (u_ws RX11 TX11 6).all goodWord = true := by decide +kernel
  intro w hw
  have g1 := List.all_eq_true.mp g w hw
  rw [h] at hw
  obtain ⟨i, -, hi⟩ := List.mem_filterMap.mp hw
  exact mW_at i hi g1
theorem mIn12 : ∀ w ∈ u_ws RX12 TX12 57, w ∈ mW := by
  have h : u_ws RX12 TX12 57 = ([1013, 1015, 1017, 1019, 1021, 1023, 1025, 1027, 1029, 1031, 1033, 1035, 1037, 1039, 1041, 1043, 1045, 1047, 1049, 1051, 1053, 1055, 1057, 1059, 1061, 1063, 1065, 1067, 1069, 1071, 1073, 1075, 1077, 1079, 1081, 1083, 1085, 1087, 1089, 1091, 1093, 1095, 1097, 1099, 1101, 1103, 1105, 1107, 1109, 1111, 1113, 1115, 1117, 1119, 1121, 1123, 1125] : List Nat).filterMap (fun i => tables_1[i]?) := by decide +kernel
  have g : (u_ws RX12 TX12 57).all goodWord = true := by decide +kernel
  intro w hw
  have g1 := List.all_eq_true.mp g w hw
  rw [h] at hw
  obtain ⟨i, -, hi⟩ := List.mem_filterMap.mp hw
  exact mW_at i hi g1
theorem mCls {ci : Nat} (h : ci < 13) : (∀ w ∈ u_ws (vwCl.getD ci mDf).1 (vwCl.getD ci mDf).2.1 (vwCl.getD ci mDf).2.2, w ∈ mW) ∧ (∃ ty : Nat → FieldType, ∀ k, k < mNf ci → parseFieldDescriptor (mDesc ci k) = some (ty k)) ∧ (∀ a, a < mNf ci → ∀ b, b < mNf ci → a ≠ b → mFn ci a ≠ mFn ci b) := by
  rcases (show ci = 0 ∨ ci = 1 ∨ ci = 2 ∨ ci = 3 ∨ ci = 4 ∨ ci = 5 ∨ ci = 6 ∨ ci = 7 ∨ ci = 8 ∨ ci = 9 ∨ ci = 10 ∨ ci = 11 ∨ ci = 12 by omega) with rfl | rfl | rfl | rfl | rfl | rfl | rfl | rfl | rfl | rfl | rfl | rfl | rfl
  · exact ⟨mIn0, ⟨tyX0, tyX0_ok⟩, nmX0⟩
  · exact ⟨mIn1, ⟨tyX1, tyX1_ok⟩, nmX1⟩
  · exact ⟨mIn2, ⟨tyX2, tyX2_ok⟩, nmX2⟩
  · exact ⟨mIn3, ⟨tyX3, tyX3_ok⟩, nmX3⟩
  · exact ⟨mIn4, ⟨tyX4, tyX4_ok⟩, nmX4⟩
  · exact ⟨mIn5, ⟨tyX5, tyX5_ok⟩, nmX5⟩
  · exact ⟨mIn6, ⟨tyX6, tyX6_ok⟩, nmX6⟩
  · exact ⟨mIn7, ⟨tyX7, tyX7_ok⟩, nmX7⟩
  · exact ⟨mIn8, ⟨tyX8, tyX8_ok⟩, nmX8⟩
  · exact ⟨mIn9, ⟨tyX9, tyX9_ok⟩, nmX9⟩
  · exact ⟨mIn10, ⟨tyX10, tyX10_ok⟩, nmX10⟩
  · exact ⟨mIn11, ⟨tyX11, tyX11_ok⟩, nmX11⟩
  · exact ⟨mIn12, ⟨tyX12, tyX12_ok⟩, nmX12⟩
section VH
variable {X : mX} {B : Nat} {own : String} {cc : ByteArray} {G : mG} {nc ns nx : Nat} {sh : Nat → Option mSh} {I : mI} {P : mP} {pc : Nat} {ls : List (Option Value)} {st : List Value}
/-- an object cell, opened -/
theorem mOk.obj {H : Heap} {c ci : Nat} (h : mOk X B I P H c (.inl ci)) : ci < 13 ∧ ∃ (V : Nat → Value) (cell : Cell), H[B + c]? = some cell ∧ cell.cls = X.1.1 ci ∧ cell.vm = .none ∧ (∀ k, k < mNf ci → cell.slots[X.1.2 ci k]? = some (V k)) ∧ (ci ≠ 11 → ∀ k, k < mNf ci → V k = mF ci B I P c k) := by
  obtain ⟨r, V, h1, ⟨cell, q1, q2, q3, q4⟩, h3⟩ := h
  have hl : ci < 13 := (List.getElem?_eq_some_iff.mp h1).1
  have hr : r = vwCl.getD ci mDf := Option.some.inj (h1.symm.trans (mCl_at hl))
  subst hr
  exact ⟨hl, V, cell, q1, q2, q3, q4, h3⟩
/-- what the tables say of a field -/
theorem mK.field {s : State} {args : Array Value} {ci k : Nat} (hts : ∀ w ∈ mW, w.before args s = true) (hK : mK X B s) (hc : ci < 13) (hk : k < mNf ci) : ∃ (cf : Nat) (kf : Class) (fi : Nat) (f : Field) (kC : Class), s.fieldFound? (mFc ci k) (mFn ci k) (mDesc ci k) = some (cf, kf, fi, f) ∧ f.slot = X.1.2 ci k ∧ f.isStatic = false ∧ s.vm.findClass (mCn ci) = some (X.1.1 ci) ∧ s.vm.classes[X.1.1 ci]? = some kC ∧ kC.kind = .ordinary := by
  obtain ⟨hS, hfc, kC, hkC, hkind⟩ := hK.1.1 ci _ (mCl_at hc)
  obtain ⟨cf, kf, fi, f, hi, hsl⟩ := hS k hk
  exact ⟨cf, kf, fi, f, kC, hi, hsl, (u_facts hfc hkC (u_lays hts (mCls hc).1 hk) hi).1, hfc, hkC, hkind⟩
theorem mGet {p : Program} {e : Env} {R : Room} {s : State} {m : MethodId} {args : Array Value} {below : List Frame} {meth : Method} {c : Code} {Q : State → Prop} {H : Heap} {locs : List Loc} {la : Array Slot} {l : Launch} {idx ci k a : Nat} (C : mCx X B own cc p s m args meth c) (hR : mRel X B nx sh I P H) (hd : decode cc pc = .ok (.getfield idx, 3)) (hf : mFl own idx ci k) (hs : sh a = some (.inl ci)) (h11 : ci ≠ 11)
    (kk : W p l e R s m args below meth c H locs nc ns Q (F0 m (pc + 3) la (mF ci B I P a k :: st))) : W p l e R s m args below meth c H locs nc ns Q (F0 m pc la (.ref (B + a) :: st)) := by
  obtain ⟨hx, hb, hown, hts, hK, -⟩ := C
  obtain ⟨hc, V, cell, q1, q2, q3, q4, q5⟩ := (hR.2.2 a _ hs).obj
  obtain ⟨cf, kf, fi, f, kC, hi, hsl, hst, -⟩ := hK.field hts hc hf.1
  have hv : cell.slots[f.slot]? = some (mF ci B I P a k) := by rw [hsl, q4 k hf.1, q5 h11 k hf.1]
  rcases hf.2.2 with hw | ⟨host, hw⟩
  · exact W.getf hx hb hown (hts _ hw) hi hst q1 (by rw [q3]; exact fun h => by cases h) hv rfl rfl hd kk
  · exact va_Wgetf hx hb hown (va_Nw.use (by rfl) (hK.2.1 _ hw)) hi hst q1 (by rw [q3]; exact fun h => by cases h) hv rfl rfl hd kk
theorem V_getI {idx ci k a : Nat} (hd : decode cc pc = .ok (.getfield idx, 3)) (hf : mFl own idx ci k) (hs : sh a = some (.inl ci)) (h11 : (ci == 11 || mIsR ci k) = false) (kk : V X B own cc G nc ns nx sh I P (pc + 3) ls (.int (I a k) :: st)) : V X B own cc G nc ns nx sh I P pc ls (.ref (B + a) :: st) := by
  obtain ⟨p, e, R, s, m, args, below, meth, c, Q⟩ := G
  intro C H locs la hR hL hl
  simp only [Bool.or_eq_false_iff, beq_eq_false_iff_ne] at h11
  refine mGet C hR hd hf hs h11.1 ?_
  rw [mF, h11.2]
  exact kk C H locs la hR hL hl
theorem V_getP {idx ci k a : Nat} (hd : decode cc pc = .ok (.getfield idx, 3)) (hf : mFl own idx ci k) (hs : sh a = some (.inl ci)) (h11 : (ci == 11 || !mIsR ci k) = false) (kk : V X B own cc G nc ns nx sh I P (pc + 3) ls (mRf B (P a k) :: st)) : V X B own cc G nc ns nx sh I P pc ls (.ref (B + a) :: st) := by
  obtain ⟨p, e, R, s, m, args, below, meth, c, Q⟩ := G
  intro C H locs la hR hL hl
  simp only [Bool.or_eq_false_iff, beq_eq_false_iff_ne, Bool.not_eq_false'] at h11
  refine mGet C hR hd hf hs h11.1 ?_
  rw [mF, h11.2]
  exact kk C H locs la hR hL hl
/-- a reference that is known -/
theorem V_getR {idx ci k a b : Nat} (hd : decode cc pc = .ok (.getfield idx, 3)) (hf : mFl own idx ci k) (hs : sh a = some (.inl ci)) (h11 : (ci == 11 || !mIsR ci k) = false) (hp : P a k = some b) (kk : V X B own cc G nc ns nx sh I P (pc + 3) ls (.ref (B + b) :: st)) : V X B own cc G nc ns nx sh I P pc ls (.ref (B + a) :: st) := by
  refine V_getP hd hf hs h11 ?_
  rw [hp]
  exact kk
theorem V_getN {idx ci k a : Nat} (hd : decode cc pc = .ok (.getfield idx, 3)) (hf : mFl own idx ci k) (hs : sh a = some (.inl ci)) (h11 : (ci == 11 || !mIsR ci k) = false) (hp : P a k = none) (kk : V X B own cc G nc ns nx sh I P (pc + 3) ls (.null :: st)) : V X B own cc G nc ns nx sh I P pc ls (.ref (B + a) :: st) := by
  refine V_getP hd hf hs h11 ?_
  rw [hp]
  exact kk
/-- what may be stored into field k of class ci: an int that fits, a reference -/
def mFit (ci k : Nat) (v : Value) : Prop := ∃ ty, parseFieldDescriptor (mDesc ci k) = some ty ∧ narrow ty v = v ∧ fits ty v = true
theorem mPut {p : Program} {e : Env} {R : Room} {s : State} {m : MethodId} {args : Array Value} {below : List Frame} {meth : Method} {c : Code} {Q : State → Prop} {H : Heap} {locs : List Loc} {la : Array Slot} {l : Launch} {idx ci k a : Nat} {v : Value} {I' : mI} {P' : mP} (C : mCx X B own cc p s m args meth c) (hR : mRel X B nx sh I P H) (hL : ∀ q ∈ locs, B ≤ q.base) (hd : decode cc pc = .ok (.putfield idx, 3)) (hf : mFl own idx ci k) (hs : sh a = some (.inl ci))
    (hfin : mFin ci k = false ∨ (mFin ci k = true ∧ meth.name = "<init>" ∧ mFc ci k = own)) (hft : mFit ci k v) (hI : ∀ c' j, c' ≠ a → I' c' j = I c' j) (hP : ∀ c' j, c' ≠ a → P' c' j = P c' j) (hv : ci ≠ 11 → ∀ j, j < mNf ci → mF ci B I' P' a j = if j = k then v else mF ci B I P a j)
    (kk : ∀ (H' : Heap) (locs' : List Loc), mRel X B nx sh I' P' H' → (∀ q ∈ locs', B ≤ q.base) → W p l e R s m args below meth c H' locs' nc ns Q (F0 m (pc + 3) la st)) : W p l e R s m args below meth c H locs nc ns Q (F0 m pc la (v :: .ref (B + a) :: st)) := by
  obtain ⟨hx, hb, hown, hts, hK, -⟩ := C
  obtain ⟨hc, V, cell, q1, q2, q3, q4, q5⟩ := (hR.2.2 a _ hs).obj
  obtain ⟨cf, kf, fi, f, kC, hi, hsl, hst, hfc, hkC, hkind⟩ := hK.field hts hc hf.1
  obtain ⟨ty, t1, t2, t3⟩ := hft
  have hlt : f.slot < cell.slots.size := by rw [hsl]; exact k2_hasslot (q4 k hf.1)
  have hap : ∀ x y, x < mNf ci → y < mNf ci → x ≠ y → X.1.2 ci x ≠ X.1.2 ci y := by
    obtain ⟨ty0, hty0⟩ := (mCls hc).2.1
    exact va_apart (own := own) hts (mCls hc).1 ty0 hty0 (mCls hc).2.2 hK.1 (mCl_at hc)
  have hlay := hts _ ((mCls hc).1 _ (u_in_lay hf.1))
  unfold u_lay at hlay
  have fin : ∀ (H' : Heap), H'[B + a]? = some (cell.setSlot f.slot v) → H'.size = H.size → (∀ q, q ≠ B + a → H'[q]? = H[q]?) → W p l e R s m args below meth c H' (locs ++ [⟨B + a, f.slot⟩]) nc ns Q (F0 m (pc + 3) la st) := by
    intro H' e1 e2 e3
    refine kk H' _ (hR.put (c := a) e2 e3 hI hP (fun z hz => ?_)) (fun q hq => ?_)
    · cases hs.symm.trans hz
      rw [hsl] at e1
      refine ⟨_, updV V k v, mCl_at hc, ⟨_, e1, q2, q3, t_set q4 hap hf.1 v⟩, fun h11 j hj => ?_⟩
      rw [hv h11 j hj]
      by_cases hjk : j = k
      · simp [updV, hjk]
      · simp [updV, hjk, q5 h11 j hj]
    · rcases List.mem_append.mp hq with h | h
      · exact hL q h
      · rw [List.mem_singleton.mp h]; exact Nat.le_add_right _ _
  rcases hfin with hfin | ⟨hfin, hin, hdecl⟩
  · rw [if_neg (by show ¬ mFin ci k = true; rw [hfin]; decide)] at hlay
    have h6 := u_store hfc hkC hkind hlay hi t1 t2 t3
    rcases hf.2.2 with hw | ⟨host, hw⟩
    · exact W.putK hx hb (f := f) ⟨hown, hts _ hw, ⟨_, _, _, hi⟩, hst⟩ (by rw [q2]; exact h6) q1 q3 hlt rfl rfl hd fin
    · exact va_WputK hx hb (f := f) hown (va_Nw.use (by rfl) (hK.2.1 _ hw)) hi hst (by rw [q2]; exact h6) q1 q3 hlt rfl rfl hd fin
  · rw [if_pos (show ((vwCl.getD ci mDf).2.1 k).2.2.2 = true from hfin)] at hlay
    have hcf : m.cls = cf := by
      obtain ⟨_, _, c', _, _, _, -, -, hf', -, -, -, hown2, -⟩ := Cond.laysFinal_spec hlay
      have e1 : c' = cf := by
        have h9 := hi.symm.trans hf'
        simp at h9
        exact h9.1.symm
      have h8 : s.vm.findClass own = some c' := by rw [← hdecl]; exact hown2
      rw [← e1]
      exact Option.some.inj (hown.symm.trans h8)
    have h6 := u_fits hfc hkC hkind (Or.inr hlay) hi t1 t2 t3
    rcases hf.2.2 with hw | ⟨host, hw⟩
    · exact W.putFinK hx hb hown (hts _ hw) hi hst hcf hin (by rw [q2]; exact h6) q1 q3 hlt rfl rfl hd fin
    · have ha : B + a < H.size := (Array.getElem?_eq_some_iff.mp q1).1
      refine va_Wputf hx hb hown (va_Nw.use (by rfl) (hK.2.1 _ hw)) hi hst (Or.inr ⟨hcf, hin⟩) q1 (by rw [q3]; exact fun h => by cases h) hlt h6.1 (by rw [q2, q3]; exact h6.2) rfl rfl hd (fin _ ?_ ?_ ?_)
      · simp [Array.getElem?_setIfInBounds, ha]
      · simp
      · intro q hq
        simp [Array.getElem?_setIfInBounds, Ne.symm hq]
theorem mF_upI {ci k a j : Nat} {x : Int32} (h : mIsR ci k = false) : mF ci B (mUp I a k x) P a j = if j = k then .int x else mF ci B I P a j := by
  by_cases hj : j = k
  · subst hj
    simp [mF, h, mUp]
  · simp [mF, mUp, hj]
theorem mF_upP {ci k a j : Nat} {o : Option Nat} (h : mIsR ci k = true) : mF ci B I (mUp P a k o) a j = if j = k then mRf B o else mF ci B I P a j := by
  by_cases hj : j = k
  · subst hj
    simp [mF, h, mUp]
  · simp [mF, mUp, hj]
/-- putfield of an int into a field that isn't final -/
theorem V_putI {idx ci k a : Nat} {x : Int32} (hd : decode cc pc = .ok (.putfield idx, 3)) (hf : mFl own idx ci k) (hs : sh a = some (.inl ci)) (hr : (ci == 11 || mIsR ci k || mFin ci k) = false) (hde : mDesc ci k = "I") (kk : V X B own cc G nc ns nx sh (mUp I a k x) P (pc + 3) ls st) : V X B own cc G nc ns nx sh I P pc ls (.int x :: .ref (B + a) :: st) := by
  obtain ⟨p, e, R, s, m, args, below, meth, c, Q⟩ := G
  intro C H locs la hR hL hl
  simp only [Bool.or_eq_false_iff] at hr
  exact mPut C hR hL hd hf hs (Or.inl hr.2) ⟨.int, by rw [hde]; rfl, rfl, rfl⟩ (fun c' j h => mUp_c h) (fun _ _ _ => rfl) (fun _ j _ => mF_upI hr.1.2) (fun H' locs' hR' hL' => kk C H' locs' la hR' hL' hl)
/-- of 0 or 1 into a boolean one -/
theorem V_putZ {idx ci k a : Nat} {x : Int32} (hd : decode cc pc = .ok (.putfield idx, 3)) (hf : mFl own idx ci k) (hs : sh a = some (.inl ci)) (hr : (ci == 11 || mIsR ci k || mFin ci k) = false) (hde : mDesc ci k = "Z") (h01 : x = 0 ∨ x = 1) (kk : V X B own cc G nc ns nx sh (mUp I a k x) P (pc + 3) ls st) : V X B own cc G nc ns nx sh I P pc ls (.int x :: .ref (B + a) :: st) := by
  obtain ⟨p, e, R, s, m, args, below, meth, c, Q⟩ := G
  intro C H locs la hR hL hl
  simp only [Bool.or_eq_false_iff] at hr
  exact mPut C hR hL hd hf hs (Or.inl hr.2) ⟨.boolean, by rw [hde]; rfl, by rcases h01 with rfl | rfl <;> rfl, by rcases h01 with rfl | rfl <;> rfl⟩ (fun c' j h => mUp_c h) (fun _ _ _ => rfl) (fun _ j _ => mF_upI hr.1.2) (fun H' locs' hR' hL' => kk C H' locs' la hR' hL' hl)
/-- of an int into a final field, in the class's own constructor -/
theorem V_putIF {idx ci k a : Nat} {x : Int32} {ret : Option FieldType} {fr lo mc ms : Nat} {Po : mPo} (hM : mM X B "<init>" ret fr lo mc ms Po G) (hd : decode cc pc = .ok (.putfield idx, 3)) (hf : mFl own idx ci k) (hs : sh a = some (.inl ci)) (hr : (ci == 11 || mIsR ci k || !mFin ci k) = false) (hde : mDesc ci k = "I") (hdc : mFc ci k = own) (kk : V X B own cc G nc ns nx sh (mUp I a k x) P (pc + 3) ls st) : V X B own cc G nc ns nx sh I P pc ls (.int x :: .ref (B + a) :: st) := by
  obtain ⟨p, e, R, s, m, args, below, meth, c, Q⟩ := G
  intro C H locs la hR hL hl
  simp only [Bool.or_eq_false_iff, Bool.not_eq_false'] at hr
  obtain ⟨-, -, -, -, -, hnm, -⟩ := hM
  exact mPut C hR hL hd hf hs (Or.inr ⟨hr.2, hnm, hdc⟩) ⟨.int, by rw [hde]; rfl, rfl, rfl⟩ (fun c' j h => mUp_c h) (fun _ _ _ => rfl) (fun _ j _ => mF_upI hr.1.2) (fun H' locs' hR' hL' => kk C H' locs' la hR' hL' hl)
theorem mRf_fit {ty : FieldType} {o : Option Nat} (h : (∃ n, ty = .object n) ∨ ∃ t, ty = .array t) : narrow ty (mRf B o) = mRf B o ∧ fits ty (mRf B o) = true := by
  cases o <;> rcases h with ⟨n, rfl⟩ | ⟨t, rfl⟩ <;> exact ⟨rfl, rfl⟩
/-- of a reference -/
theorem V_putP {idx ci k a : Nat} {o : Option Nat} {ty : FieldType} (hd : decode cc pc = .ok (.putfield idx, 3)) (hf : mFl own idx ci k) (hs : sh a = some (.inl ci)) (hr : (ci == 11 || !mIsR ci k || mFin ci k) = false) (hde : parseFieldDescriptor (mDesc ci k) = some ty) (hty : (∃ n, ty = .object n) ∨ ∃ t, ty = .array t) (kk : V X B own cc G nc ns nx sh I (mUp P a k o) (pc + 3) ls st) : V X B own cc G nc ns nx sh I P pc ls (mRf B o :: .ref (B + a) :: st) := by
  obtain ⟨p, e, R, s, m, args, below, meth, c, Q⟩ := G
  intro C H locs la hR hL hl
  simp only [Bool.or_eq_false_iff, Bool.not_eq_false'] at hr
  exact mPut C hR hL hd hf hs (Or.inl hr.2) ⟨ty, hde, (mRf_fit hty).1, (mRf_fit hty).2⟩ (fun _ _ _ => rfl) (fun c' j h => mUp_c h) (fun _ j _ => mF_upP hr.1.2) (fun H' locs' hR' hL' => kk C H' locs' la hR' hL' hl)
theorem V_putPF {idx ci k a : Nat} {o : Option Nat} {ty : FieldType} {ret : Option FieldType} {fr lo mc ms : Nat} {Po : mPo} (hM : mM X B "<init>" ret fr lo mc ms Po G) (hd : decode cc pc = .ok (.putfield idx, 3)) (hf : mFl own idx ci k) (hs : sh a = some (.inl ci)) (hr : (ci == 11 || !mIsR ci k || !mFin ci k) = false) (hde : parseFieldDescriptor (mDesc ci k) = some ty) (hty : (∃ n, ty = .object n) ∨ ∃ t, ty = .array t) (hdc : mFc ci k = own) (kk : V X B own cc G nc ns nx sh I (mUp P a k o) (pc + 3) ls st) : V X B own cc G nc ns nx sh I P pc ls (mRf B o :: .ref (B + a) :: st) := by
  obtain ⟨p, e, R, s, m, args, below, meth, c, Q⟩ := G
  intro C H locs la hR hL hl
  simp only [Bool.or_eq_false_iff, Bool.not_eq_false'] at hr
  obtain ⟨-, -, -, -, -, hnm, -⟩ := hM
  exact mPut C hR hL hd hf hs (Or.inr ⟨hr.2, hnm, hdc⟩) ⟨ty, hde, (mRf_fit hty).1, (mRf_fit hty).2⟩ (fun _ _ _ => rfl) (fun c' j h => mUp_c h) (fun _ j _ => mF_upP hr.1.2) (fun H' locs' hR' hL' => kk C H' locs' la hR' hL' hl)
/-! arrays -/
theorem mK.arr {s : State} (hK : mK X B s) {t : Nat} (ht : t < 6) : ArrOfT s (X.2.1 t) (mTyOf t) ∧ va_RA s (X.2.1 t) (mTyOf t) := by
  rcases (show t = 0 ∨ t = 1 ∨ t = 2 ∨ t = 3 ∨ t = 4 ∨ t = 5 by omega) with rfl | rfl | rfl | rfl | rfl | rfl
  · exact hK.1.2 0 _ rfl
  · exact hK.1.2 1 _ rfl
  · exact hK.1.2 2 _ rfl
  · exact hK.1.2 3 _ rfl
  · exact hK.1.2 4 _ rfl
  · exact hK.1.2 5 _ rfl
theorem V_alen {a t n : Nat} {v : Int32} (hd : decode cc pc = .ok (.arraylength, 1)) (hs : sh a = some (.inr (t, n))) (hv : Int32.ofNat n = v) (kk : V X B own cc G nc ns nx sh I P (pc + 1) ls (.int v :: st)) : V X B own cc G nc ns nx sh I P pc ls (.ref (B + a) :: st) := by
  obtain ⟨p, e, R, s, m, args, below, meth, c, Q⟩ := G
  intro C H locs la hR hL hl
  subst hv
  obtain ⟨h6, h⟩ := hR.2.2 a _ hs
  exact W.alen (n := Int32.ofNat n) C.1 C.2.1 h ((mK.arr C.2.2.2.2.1 h6).1 n _) (by rw [arrV_size] <;> rfl) rfl rfl hd (kk C H locs la hR hL hl)
theorem V_iald {a n : Nat} {i : Int32} (hd : decode cc pc = .ok (.iaload, 1)) (hs : sh a = some (.inr (0, n))) (hin : vp_in i n) (kk : V X B own cc G nc ns nx sh I P (pc + 1) ls (.int (I a i.toNatClampNeg) :: st)) : V X B own cc G nc ns nx sh I P pc ls (.int i :: .ref (B + a) :: st) := by
  obtain ⟨p, e, R, s, m, args, below, meth, c, Q⟩ := G
  intro C H locs la hR hL hl
  obtain ⟨h6, h⟩ := hR.2.2 a _ hs
  have hlt : i.toNatClampNeg < n := Nat.not_le.mp fun q => hin (Or.inr q)
  exact W.iald (v := .int (I a i.toNatClampNeg)) C.1 C.2.1 h ((mK.arr C.2.2.2.2.1 h6).1 n _) (fun q => by cases q) (by rw [arrV_size]; exact hin) (by rw [arrV_read _ _ hlt]; rfl) rfl rfl hd (kk C H locs la hR hL hl)
theorem V_bald {a n : Nat} {i : Int32} (hd : decode cc pc = .ok (.baload, 1)) (hs : sh a = some (.inr (1, n))) (hin : vp_in i n) (kk : V X B own cc G nc ns nx sh I P (pc + 1) ls (.int (I a i.toNatClampNeg) :: st)) : V X B own cc G nc ns nx sh I P pc ls (.int i :: .ref (B + a) :: st) := by
  obtain ⟨p, e, R, s, m, args, below, meth, c, Q⟩ := G
  intro C H locs la hR hL hl
  obtain ⟨h6, h⟩ := hR.2.2 a _ hs
  have hlt : i.toNatClampNeg < n := Nat.not_le.mp fun q => hin (Or.inr q)
  exact W.bald (v := .int (I a i.toNatClampNeg)) C.1 C.2.1 h ((mK.arr C.2.2.2.2.1 h6).1 n _) (fun q => by cases q) (by rw [arrV_size]; exact hin) (by rw [arrV_read _ _ hlt]; rfl) rfl rfl hd (kk C H locs la hR hL hl)
theorem V_aald {a t n : Nat} {i : Int32} (hd : decode cc pc = .ok (.aaload, 1)) (hs : sh a = some (.inr (t, n))) (ht : 2 ≤ t) (hin : vp_in i n) (kk : V X B own cc G nc ns nx sh I P (pc + 1) ls (mRf B (P a i.toNatClampNeg) :: st)) : V X B own cc G nc ns nx sh I P pc ls (.int i :: .ref (B + a) :: st) := by
  obtain ⟨p, e, R, s, m, args, below, meth, c, Q⟩ := G
  intro C H locs la hR hL hl
  obtain ⟨h6, h⟩ := hR.2.2 a _ hs
  have h6 : t < 6 := h6
  have hlt : i.toNatClampNeg < n := Nat.not_le.mp fun q => hin (Or.inr q)
  have hrf : (mTyOf t).isReference = true := by rcases (show t = 2 ∨ t = 3 ∨ t = 4 ∨ t = 5 by omega) with rfl | rfl | rfl | rfl <;> rfl
  have hb : Nat.blt t 2 = false := by rcases (show t = 2 ∨ t = 3 ∨ t = 4 ∨ t = 5 by omega) with rfl | rfl | rfl | rfl <;> rfl
  exact W.aald (v := mRf B (P a i.toNatClampNeg)) (ty := mTyOf t) C.1 C.2.1 h ((mK.arr C.2.2.2.2.1 h6).1 n _) hrf (fun q => by cases q) (by rw [arrV_size]; exact hin) (by rw [arrV_read _ _ hlt, mA, hb]; rfl) rfl rfl hd (kk C H locs la hR hL hl)
theorem mL_put {locs : List Loc} {a k : Nat} (hL : ∀ q ∈ locs, B ≤ q.base) : ∀ q ∈ locs ++ [⟨B + a, k⟩], B ≤ q.base := by
  intro q hq
  rcases List.mem_append.mp hq with h | h
  · exact hL q h
  · rw [List.mem_singleton.mp h]; exact Nat.le_add_right _ _
theorem V_iast {a n : Nat} {i x : Int32} (hd : decode cc pc = .ok (.iastore, 1)) (hs : sh a = some (.inr (0, n))) (hin : vp_in i n) (kk : V X B own cc G nc ns nx sh (mUp I a i.toNatClampNeg x) P (pc + 1) ls st) : V X B own cc G nc ns nx sh I P pc ls (.int x :: .int i :: .ref (B + a) :: st) := by
  obtain ⟨p, e, R, s, m, args, below, meth, c, Q⟩ := G
  intro C H locs la hR hL hl
  obtain ⟨h6, h⟩ := hR.2.2 a _ hs
  refine W.iast C.1 C.2.1 h ((mK.arr C.2.2.2.2.1 h6).1 n _) (fun q => by cases q) (by rw [arrV_size]; exact hin) rfl rfl hd fun H1 e1 z oq => ?_
  refine kk C H1 _ la (hR.put (c := a) z oq (fun c' j h => mUp_c h) (fun _ _ _ => rfl) (fun z' hz' => ?_)) (mL_put hL) hl
  cases hs.symm.trans hz'
  refine ⟨h6, ?_⟩
  rw [e1, arrV_store]
  congr 2
  funext q
  by_cases hq : q = i.toNatClampNeg
  · subst hq
    simp [updV, mA, mUp]
    rfl
  · simp [updV, mA, mUp, hq]
theorem V_bast {a n : Nat} {i x : Int32} (hd : decode cc pc = .ok (.bastore, 1)) (hs : sh a = some (.inr (1, n))) (hin : vp_in i n) (kk : V X B own cc G nc ns nx sh (mUp I a i.toNatClampNeg (x.toInt8.toInt32)) P (pc + 1) ls st) : V X B own cc G nc ns nx sh I P pc ls (.int x :: .int i :: .ref (B + a) :: st) := by
  obtain ⟨p, e, R, s, m, args, below, meth, c, Q⟩ := G
  intro C H locs la hR hL hl
  obtain ⟨h6, h⟩ := hR.2.2 a _ hs
  refine W.bast C.1 C.2.1 h ((mK.arr C.2.2.2.2.1 h6).1 n _) (fun q => by cases q) (by rw [arrV_size]; exact hin) rfl rfl hd fun H1 e1 z oq => ?_
  refine kk C H1 _ la (hR.put (c := a) z oq (fun c' j h => mUp_c h) (fun _ _ _ => rfl) (fun z' hz' => ?_)) (mL_put hL) hl
  cases hs.symm.trans hz'
  refine ⟨h6, ?_⟩
  rw [e1, arrV_store]
  congr 2
  funext q
  by_cases hq : q = i.toNatClampNeg
  · subst hq
    simp [updV, mA, mUp, narrow_byte]
    rfl
  · simp [updV, mA, mUp, hq]
/-- an object of the array's class into a row of references -/
theorem V_aast {a b t n : Nat} {i : Int32} (hd : decode cc pc = .ok (.aastore, 1)) (hs : sh a = some (.inr (t, n))) (ht : 2 ≤ t) (hb : sh b = some (.inl (mElem t))) (hin : vp_in i n) (kk : V X B own cc G nc ns nx sh I (mUp P a i.toNatClampNeg (some b)) (pc + 1) ls st) : V X B own cc G nc ns nx sh I P pc ls (.ref (B + b) :: .int i :: .ref (B + a) :: st) := by
  obtain ⟨p, e, R, s, m, args, below, meth, c, Q⟩ := G
  intro C H locs la hR hL hl
  obtain ⟨h6, h⟩ := hR.2.2 a _ hs
  have h6 : t < 6 := h6
  have hlt : i.toNatClampNeg < n := Nat.not_le.mp fun q => hin (Or.inr q)
  have h0 : ¬ i < 0 := fun q => hin (Or.inl q)
  obtain ⟨hc, V, cell, g1, g2, g3, -⟩ := (hR.2.2 b _ hb).obj
  have hK := C.2.2.2.2.1
  have hcls := (hK.1.1 _ _ (mCl_at hc)).2
  have hra := (mK.arr hK h6).2
  have hty : mTyOf t = .object (vwCl.getD (mElem t) mDf).1 := by rcases (show t = 2 ∨ t = 3 ∨ t = 4 ∨ t = 5 by omega) with rfl | rfl | rfl | rfl <;> rfl
  rw [hty] at hra
  obtain ⟨kA, comp, k1, k2, k3, -⟩ := hra
  have hcomp : comp = X.1.1 (mElem t) := Option.some.inj (k3.symm.trans hcls.1)
  subst hcomp
  obtain ⟨kC, hkC, -⟩ := id hcls.2
  have hbt : Nat.blt t 2 = false := by rcases (show t = 2 ∨ t = 3 ∨ t = 4 ∨ t = 5 by omega) with rfl | rfl | rfl | rfl <;> rfl
  refine W.aast C.1 C.2.1 h (fun q h => by cases h) (fun h => by cases h) k1 k2 rfl hkC ⟨h0, by rw [arrV_size]; exact hlt⟩ g1 (fun q h => by rw [g3] at h; cases h) (by rw [g2]; exact hkC) (by rw [g2]; exact va_assign hcls) rfl rfl hd fun H1 e1 z oq => ?_
  refine kk C H1 _ la (hR.put (c := a) z oq (fun _ _ _ => rfl) (fun c' j h => mUp_c h) (fun z' hz' => ?_)) (mL_put hL) hl
  cases hs.symm.trans hz'
  refine ⟨h6, ?_⟩
  rw [e1, arrV_store]
  congr 2
  funext q
  by_cases hq : q = i.toNatClampNeg
  · subst hq
    simp [updV, mA, hbt, mUp, mRf]
  · simp [updV, mA, hbt, mUp, hq]
/-! new cells -/
theorem mDv_int : defaultValue .int = .int 0 := rfl
/-- newarray of ints, of bytes -/
theorem V_newa {at0 : ArrayType} {t : Nat} {n : Int32} {N : Nat} {ret : Option FieldType} {fr lo mc ms : Nat} {nm : String} {Po : mPo} (hM : mM X B nm ret fr lo mc ms Po G) (hw : Cond.arrayClass (newarray.typeOf at0) ∈ mW) (hty : newarray.typeOf at0 = mTyOf t) (ht : t < 2) (hn : ¬ n < 0) (hN : n.toNatClampNeg = N) (hN2 : N ≤ 1000) (h1 : nc + 1 ≤ mc) (h2 : ns + N ≤ ms) (hd : decode cc pc = .ok (.newarray at0, 2))
    (kk : V X B own cc G (nc + 1) (ns + N) (nx + 1) (mUs sh nx (.inr (t, N))) (mNI I nx) P (pc + 2) ls (.ref (B + nx) :: st)) : V X B own cc G nc ns nx sh I P pc ls (.int n :: st) := by
  obtain ⟨p, e, R, s, m, args, below, meth, c, Q⟩ := G
  intro C H locs la hR hL hl
  obtain ⟨-, -, -, hc1, hc2, -⟩ := hM
  have hK := C.2.2.2.2.1
  have hz : H.size = B + nx := hR.1
  refine va_newaK C.1 C.2.1 (C.2.2.2.1 _ hw) rfl hd rfl hn hN (by rw [hty]; rcases (show t = 0 ∨ t = 1 by omega) with rfl | rfl <;> simp [mTyOf, componentBytes] <;> omega) (by rw [hc1]; exact h1) (by rw [hc2]; exact h2) hz fun H1 cA e1 z1 o1 hAr hNm => ?_
  have hra := (mK.arr hK (show t < 6 by omega)).2
  have hcA : cA = X.2.1 t := by
    have h9 : s.vm.findClass ("[" ++ (mTyOf t).toString) = some (X.2.1 t) := by rcases (show t = 0 ∨ t = 1 by omega) with rfl | rfl <;> exact hra
    rw [hty] at hNm
    exact Option.some.inj (hNm.symm.trans h9)
  subst hcA
  refine kk C H1 locs la (hR.new (by rw [z1, hz]) (fun q hq => o1 q (by rw [← hz]; exact hq)) (fun c' k h => by simp [mNI, h]) (fun _ _ _ => rfl) ⟨by show t < 6; omega, ?_⟩) hL hl
  rw [e1]
  congr 2
  funext j
  rw [hty]
  rcases (show t = 0 ∨ t = 1 by omega) with rfl | rfl <;> simp [mA, mNI] <;> rfl
theorem V_anewa {idx t : Nat} {n : Int32} {N : Nat} {ret : Option FieldType} {fr lo mc ms : Nat} {nm : String} {Po : mPo} (hM : mM X B nm ret fr lo mc ms Po G) (ht : 2 ≤ t) (ht6 : t < 6) (hw : Cond.classLink own idx (mCn (mElem t)) ∈ mW) (hn : ¬ n < 0) (hN : n.toNatClampNeg = N) (hN2 : N ≤ 1000) (h1 : nc + 1 ≤ mc) (h2 : ns + N ≤ ms) (hd : decode cc pc = .ok (.anewarray idx, 3))
    (kk : V X B own cc G (nc + 1) (ns + N) (nx + 1) (mUs sh nx (.inr (t, N))) I (mNP P nx) (pc + 3) ls (.ref (B + nx) :: st)) : V X B own cc G nc ns nx sh I P pc ls (.int n :: st) := by
  obtain ⟨p, e, R, s, m, args, below, meth, c, Q⟩ := G
  intro C H locs la hR hL hl
  obtain ⟨-, -, -, hc1, hc2, -⟩ := hM
  subst hN
  have hK := C.2.2.2.2.1
  have hz : H.size = B + nx := hR.1
  have hbt : Nat.blt t 2 = false := by rcases (show t = 2 ∨ t = 3 ∨ t = 4 ∨ t = 5 by omega) with rfl | rfl | rfl | rfl <;> rfl
  have hty : mTyOf t = .object (mCn (mElem t)) := by rcases (show t = 2 ∨ t = 3 ∨ t = 4 ∨ t = 5 by omega) with rfl | rfl | rfl | rfl <;> rfl
  refine W.anew C.1 C.2.1 C.2.2.1 (C.2.2.2.1 _ hw) (va_AO.use (hK.2.2.2.2.2.2.1 t ht ht6)) rfl hd rfl hn (by omega) (by rw [hc1]; exact h1) (by rw [hc2]; exact h2) fun cA kA comp f1 f2 f3 f4 => ?_
  have hra := (mK.arr hK ht6).2
  rw [hty] at hra
  obtain ⟨kA', comp', -, -, -, k4⟩ := hra
  have hcA : cA = X.2.1 t := Option.some.inj (f1.symm.trans k4)
  subst hcA
  refine W.eq (g2 := F0 m (pc + 3) la (.ref (B + nx) :: st)) (by rw [← hz]) ?_
  refine kk C _ locs la (hR.new (by rw [Array.size_push]) (fun q hq => by rw [Array.getElem?_push, if_neg (Nat.ne_of_lt hq)]) (fun _ _ _ => rfl) (fun c' k h => by simp [mNP, h]) ⟨ht6, ?_⟩) hL hl
  rw [← hz, Array.getElem?_push_size, arrV_new]
  congr 2
  funext j
  simp [mA, hbt, mNP, mRf]
/-- new: an object of class ci, its fields 0 and null -/
theorem V_new {idx ci : Nat} {ret : Option FieldType} {fr lo mc ms : Nat} {nm : String} {Po : mPo} (hM : mM X B nm ret fr lo mc ms Po G) (hci : ci < 13) (hw : Cond.classLink own idx (mCn ci) ∈ mW) (hw2 : Cond.instantiable (mCn ci) (mNf ci) ∈ mW) (hw3 : Cond.initialized (mCn ci) ∈ mW) (hdef : ci ≠ 11 → ∀ k, k < mNf ci → (∃ ty, parseFieldDescriptor (mDesc ci k) = some ty ∧ defaultValue ty = bif mIsR ci k then .null else .int 0)) (h1 : nc + 1 ≤ mc) (h2 : ns + mNf ci ≤ ms) (hd : decode cc pc = .ok (.new idx, 3))
    (kk : V X B own cc G (nc + 1) (ns + mNf ci) (nx + 1) (mUs sh nx (.inl ci)) (mNI I nx) (mNP P nx) (pc + 3) ls (.ref (B + nx) :: st)) : V X B own cc G nc ns nx sh I P pc ls st := by
  obtain ⟨p, e, R, s, m, args, below, meth, c, Q⟩ := G
  intro C H locs la hR hL hl
  obtain ⟨-, -, -, hc1, hc2, -⟩ := hM
  have hK := C.2.2.2.2.1
  have hts := C.2.2.2.1
  have hz : H.size = B + nx := hR.1
  have hKn := hK.1.1 ci _ (mCl_at hci)
  obtain ⟨ty0, hty0⟩ := (mCls hci).2.1
  refine W.newcK C.1 C.2.1 C.2.2.1 (hts _ hw) (hts _ hw2) (hts _ hw3) rfl hd (by rw [hc1]; exact h1) (by rw [hc2]; exact h2) hKn.2.1 rfl fun H1 kC hkC e1 z1 o1 => ?_
  refine W.eq (g2 := F0 m (pc + 3) la (.ref (B + nx) :: st)) (by rw [← hz]) ?_
  refine kk C H1 locs la (hR.new z1 o1 (fun c' k h => by simp [mNI, h]) (fun c' k h => by simp [mNP, h]) ?_) hL hl
  rw [hz] at e1
  refine ⟨_, fun k => defaultValue (ty0 k), mCl_at hci, u_born ty0 hts (mCls hci).1 hKn hkC e1 hty0, fun h11 k hk => ?_⟩
  obtain ⟨ty, t1, t2⟩ := hdef h11 k hk
  have h9 : ty0 k = ty := Option.some.inj ((hty0 k hk).symm.trans t1)
  show defaultValue (ty0 k) = _
  rw [h9, t2]
  cases hb : mIsR ci k <;> simp [mF, hb, mNI, mNP, mRf]
/-! ends -/
theorem W_mono {p : Program} {l : Launch} {e : Env} {R : Room} {s : State} {m : MethodId} {args : Array Value} {below : List Frame} {meth : Method} {c : Code} {H : Heap} {locs : List Loc} {cells slots : Nat} {Q Q' : State → Prop} {g : JFrame} (h : ∀ t, Q t → Q' t) (k : W p l e R s m args below meth c H locs cells slots Q g) : W p l e R s m args below meth c H locs cells slots Q' g := by
  intro T hT Xs
  obtain ⟨t, a, b⟩ := k T hT Xs
  exact ⟨t, a, h t b⟩
theorem V_iret {v : Int32} {fr lo : Nat} {nm : String} {Po : mPo} (hM : mM X B nm (some .int) fr lo nc ns Po G) (hd : decode cc pc = .ok (.ireturn, 1)) (hp : Po (some (.int v)) nx sh I P) : V X B own cc G nc ns nx sh I P pc ls [.int v] := by
  obtain ⟨p, e, R, s, m, args, below, meth, c, Q⟩ := G
  intro C H locs la hR hL hl
  obtain ⟨hr, -, -, -, -, -, hQ⟩ := hM
  refine W_mono hQ ?_
  exact W.iret C.1 C.2.1 hr (fun t ht hW => ⟨_, _, _, _, _, rfl, hp, by rw [ht]; exact hR⟩) hL hd C.2.2.2.2.2
theorem V_zret {v : Int32} {fr lo : Nat} {nm : String} {Po : mPo} (hM : mM X B nm (some .boolean) fr lo nc ns Po G) (hv : v = 0 ∨ v = 1) (hd : decode cc pc = .ok (.ireturn, 1)) (hp : Po (some (.int v)) nx sh I P) : V X B own cc G nc ns nx sh I P pc ls [.int v] := by
  obtain ⟨p, e, R, s, m, args, below, meth, c, Q⟩ := G
  intro C H locs la hR hL hl
  obtain ⟨hr, -, -, -, -, -, hQ⟩ := hM
  refine W_mono hQ ?_
  exact W.zret C.1 C.2.1 hr (by rcases hv with rfl | rfl <;> rfl) (fun t ht hW => ⟨_, _, _, _, _, rfl, hp, by rw [ht]; exact hR⟩) hL hd C.2.2.2.2.2
theorem V_vret {fr lo : Nat} {nm : String} {Po : mPo} (hM : mM X B nm none fr lo nc ns Po G) (hd : decode cc pc = .ok (.return_, 1)) (hp : Po none nx sh I P) : V X B own cc G nc ns nx sh I P pc ls [] := by
  obtain ⟨p, e, R, s, m, args, below, meth, c, Q⟩ := G
  intro C H locs la hR hL hl
  obtain ⟨hr, -, -, -, -, -, hQ⟩ := hM
  refine W_mono hQ ?_
  exact W.vret C.1 C.2.1 hr (fun t ht hW => ⟨_, _, _, _, _, rfl, hp, by rw [ht]; exact hR⟩) hL hd C.2.2.2.2.2
theorem V_aret {v : Value} {rt : FieldType} {fr lo : Nat} {nm : String} {Po : mPo} (hM : mM X B nm (some rt) fr lo nc ns Po G) (hrt : (∃ n, rt = .object n) ∨ ∃ t, rt = .array t) (hv : v = .null ∨ ∃ a, v = .ref a) (hd : decode cc pc = .ok (.areturn, 1)) (hp : Po (some v) nx sh I P) : V X B own cc G nc ns nx sh I P pc ls [v] := by
  obtain ⟨p, e, R, s, m, args, below, meth, c, Q⟩ := G
  intro C H locs la hR hL hl
  obtain ⟨hr, -, -, -, -, -, hQ⟩ := hM
  refine W_mono hQ ?_
  exact W.aret C.1 C.2.1 hr hrt hv (fun t ht hW => ⟨_, _, _, _, _, rfl, hp, by rw [ht]; exact hR⟩) hL hd C.2.2.2.2.2
end VH
