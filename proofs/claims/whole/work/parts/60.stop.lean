/-! ===== the reference's Stop: its constructor ===== -/
abbrev mdEx : mMd := (⟨"java/lang/Exception", "<init>", "(Ljava/lang/String;Ljava/lang/Throwable;ZZ)V"⟩, prog_15_method_5_code, 5, none, 2, 56)
abbrev mdTh : mMd := (⟨"java/lang/Throwable", "<init>", "(Ljava/lang/String;Ljava/lang/Throwable;ZZ)V"⟩, prog_20_method_5_code, 5, none, 1, 32)
theorem dEx_0 : decode prog_15_method_5_code 0 = .ok (.aload_n 0, 1) := by decide +kernel
theorem dEx_1 : decode prog_15_method_5_code 1 = .ok (.aload_n 1, 1) := by decide +kernel
theorem dEx_2 : decode prog_15_method_5_code 2 = .ok (.aload_n 2, 1) := by decide +kernel
theorem dEx_3 : decode prog_15_method_5_code 3 = .ok (.iload_n 3, 1) := by decide +kernel
theorem dEx_4 : decode prog_15_method_5_code 4 = .ok (.iload 4, 2) := by decide +kernel
theorem dEx_6 : decode prog_15_method_5_code 6 = .ok (.invokespecial 16, 3) := by decide +kernel
theorem dEx_9 : decode prog_15_method_5_code 9 = .ok (.return_, 1) := by decide +kernel
theorem dTh_0 : decode prog_20_method_5_code 0 = .ok (.aload_n 0, 1) := by decide +kernel
theorem dTh_1 : decode prog_20_method_5_code 1 = .ok (.invokespecial 1, 3) := by decide +kernel
theorem dTh_4 : decode prog_20_method_5_code 4 = .ok (.aload_n 0, 1) := by decide +kernel
theorem dTh_5 : decode prog_20_method_5_code 5 = .ok (.aload_n 0, 1) := by decide +kernel
theorem dTh_6 : decode prog_20_method_5_code 6 = .ok (.putfield 7, 3) := by decide +kernel
theorem dTh_9 : decode prog_20_method_5_code 9 = .ok (.aload_n 0, 1) := by decide +kernel
theorem dTh_10 : decode prog_20_method_5_code 10 = .ok (.getstatic 13, 3) := by decide +kernel
theorem dTh_13 : decode prog_20_method_5_code 13 = .ok (.putfield 17, 3) := by decide +kernel
theorem dTh_16 : decode prog_20_method_5_code 16 = .ok (.aload_n 0, 1) := by decide +kernel
theorem dTh_17 : decode prog_20_method_5_code 17 = .ok (.getstatic 20, 3) := by decide +kernel
theorem dTh_20 : decode prog_20_method_5_code 20 = .ok (.putfield 24, 3) := by decide +kernel
theorem dTh_23 : decode prog_20_method_5_code 23 = .ok (.iload 4, 2) := by decide +kernel
theorem dTh_25 : decode prog_20_method_5_code 25 = .ok (.ifCond .eq 11, 3) := by decide +kernel
theorem dTh_36 : decode prog_20_method_5_code 36 = .ok (.aload_n 0, 1) := by decide +kernel
theorem dTh_37 : decode prog_20_method_5_code 37 = .ok (.aconst_null, 1) := by decide +kernel
theorem dTh_38 : decode prog_20_method_5_code 38 = .ok (.putfield 17, 3) := by decide +kernel
theorem dTh_41 : decode prog_20_method_5_code 41 = .ok (.aload_n 0, 1) := by decide +kernel
theorem dTh_42 : decode prog_20_method_5_code 42 = .ok (.aload_n 1, 1) := by decide +kernel
theorem dTh_43 : decode prog_20_method_5_code 43 = .ok (.putfield 31, 3) := by decide +kernel
theorem dTh_46 : decode prog_20_method_5_code 46 = .ok (.aload_n 0, 1) := by decide +kernel
theorem dTh_47 : decode prog_20_method_5_code 47 = .ok (.aload_n 2, 1) := by decide +kernel
theorem dTh_48 : decode prog_20_method_5_code 48 = .ok (.putfield 7, 3) := by decide +kernel
theorem dTh_51 : decode prog_20_method_5_code 51 = .ok (.iload_n 3, 1) := by decide +kernel
theorem dTh_52 : decode prog_20_method_5_code 52 = .ok (.ifCond .ne 8, 3) := by decide +kernel
theorem dTh_55 : decode prog_20_method_5_code 55 = .ok (.aload_n 0, 1) := by decide +kernel
theorem dTh_56 : decode prog_20_method_5_code 56 = .ok (.aconst_null, 1) := by decide +kernel
theorem dTh_57 : decode prog_20_method_5_code 57 = .ok (.putfield 24, 3) := by decide +kernel
theorem dTh_60 : decode prog_20_method_5_code 60 = .ok (.return_, 1) := by decide +kernel
abbrev RTh : String := "java/lang/Throwable"
theorem cvSt_1 : mCi RX11 1 mdEx 4 := ⟨Or.inl (mW_at 937 (by decide +kernel) (by decide)), mW_at 938 (by decide +kernel) (by decide), mW_at 939 (by decide +kernel) (by decide), mW_at 13 (by decide +kernel) (by decide), ⟨by decide, by decide, by decide +kernel⟩, rfl, rfl⟩
theorem cvEx_16 : mCi "java/lang/Exception" 16 mdTh 4 := ⟨Or.inl (mW_at 940 (by decide +kernel) (by decide)), mW_at 941 (by decide +kernel) (by decide), mW_at 942 (by decide +kernel) (by decide), mW_at 12 (by decide +kernel) (by decide), ⟨by decide, by decide, by decide +kernel⟩, rfl, rfl⟩
theorem lkTh_1 : Cond.methodLink RTh 1 Lib.objectInit ∈ mW := mW_at 920 (by decide +kernel) (by decide)
theorem fsTh_13 : Cond.fieldLink RTh 13 "java/lang/Throwable" "UNASSIGNED_STACK" "[Ljava/lang/StackTraceElement;" ∈ mW := mW_at 921 (by decide +kernel) (by decide)
theorem fsTh_20 : Cond.fieldLink RTh 20 "java/lang/Throwable" "SUPPRESSED_SENTINEL" "Ljava/util/List;" ∈ mW := mW_at 923 (by decide +kernel) (by decide)
theorem flTh_7 : mFl RTh 7 11 0 := ⟨by decide, by decide, Or.inl (mW_at 945 (by decide +kernel) (by decide))⟩
theorem flTh_17 : mFl RTh 17 11 1 := ⟨by decide, by decide, Or.inl (mW_at 946 (by decide +kernel) (by decide))⟩
theorem flTh_24 : mFl RTh 24 11 2 := ⟨by decide, by decide, Or.inl (mW_at 947 (by decide +kernel) (by decide))⟩
theorem flTh_31 : mFl RTh 31 11 3 := ⟨by decide, by decide, Or.inl (mW_at 944 (by decide +kernel) (by decide))⟩
section ST
variable {X : mX} {B : Nat} {own : String} {cc : ByteArray} {G : mG} {nc ns nx : Nat} {sh : Nat → Option mSh} {I : mI} {P : mP} {pc : Nat} {ls : List (Option Value)} {st : List Value}
/-- a store into a Stop, of which nothing is told -/
theorem V_putU {idx k a : Nat} {v : Value} {ty : FieldType} (hd : decode cc pc = .ok (.putfield idx, 3)) (hf : mFl own idx 11 k) (hs : sh a = some (.inl 11)) (hfin : mFin 11 k = false) (hde : parseFieldDescriptor (mDesc 11 k) = some ty) (hty : (∃ n, ty = .object n) ∨ ∃ t, ty = .array t) (hv : v = .null ∨ ∃ b, v = .ref b) (kk : V X B own cc G nc ns nx sh I P (pc + 3) ls st) : V X B own cc G nc ns nx sh I P pc ls (v :: .ref (B + a) :: st) := by
  obtain ⟨p, e, R, s, m, args, below, meth, c, Q⟩ := G
  intro C H locs la hR hL hl
  have hfit : narrow ty v = v ∧ fits ty v = true := by
    rcases hv with rfl | ⟨b, rfl⟩ <;> rcases hty with ⟨n, rfl⟩ | ⟨t, rfl⟩ <;> exact ⟨rfl, rfl⟩
  exact mPut C hR hL hd hf hs (Or.inl hfin) ⟨ty, hde, hfit.1, hfit.2⟩ (fun _ _ _ => rfl) (fun _ _ _ => rfl) (fun h => absurd rfl h) (fun H' locs' hR' hL' => kk C H' locs' la hR' hL' hl)
end ST
section ST2
variable {X : mX} {B nx : Nat} {sh : Nat → Option mSh} {I : mI} {P : mP}
theorem e_Th_init {a : Nat} (h1 : sh a = some (.inl 11)) : Ev X B mdTh 0 0 [.ref (B + a), .null, .null, .int 0, .int 0] nx sh I P (mDet none nx sh I P) := by
  refine Ev.of (by decide) (by simp [Value.category]) (by simp) (fun G hM => ?_)
  have hM : mM X B "<init>" none 1 32 0 0 (mDet none nx sh I P) G := hM
  show V X B RTh prog_20_method_5_code G 0 0 nx sh I P 0 [some (.ref (B + a)), some .null, some .null, some (.int 0), some (.int 0)] []
  refine V_aln dTh_0 rfl ?_
  refine V_obj hM lkTh_1 wO1 wO2 (by decide) (by decide) dTh_1 ?_
  refine V_aln dTh_4 rfl ?_
  refine V_aln dTh_5 rfl ?_
  refine V_putU dTh_6 flTh_7 h1 rfl (ty := .object "java/lang/Throwable") (by decide +kernel) (Or.inl ⟨_, rfl⟩) (Or.inr ⟨_, rfl⟩) ?_
  refine V_aln dTh_9 rfl ?_
  refine V_gstatq (r := ("java/lang/Throwable", "UNASSIGNED_STACK", "[Ljava/lang/StackTraceElement;")) (by simp [mZq]) fsTh_13 dTh_10 (fun v hv => ?_)
  refine V_putU dTh_13 flTh_17 h1 rfl (ty := .array (.object "java/lang/StackTraceElement")) (by decide +kernel) (Or.inr ⟨_, rfl⟩) hv ?_
  refine V_aln dTh_16 rfl ?_
  refine V_gstatq (r := ("java/lang/Throwable", "SUPPRESSED_SENTINEL", "Ljava/util/List;")) (by simp [mZq]) fsTh_20 dTh_17 (fun v2 hv2 => ?_)
  refine V_putU dTh_20 flTh_24 h1 rfl (ty := .object "java/util/List") (by decide +kernel) (Or.inl ⟨_, rfl⟩) hv2 ?_
  refine V_il dTh_23 rfl ?_
  refine V_if_eq (tgt := 36) dTh_25 rfl (fun _ => ?_) (fun h => absurd rfl h)
  refine V_aln dTh_36 rfl ?_
  refine V_null dTh_37 ?_
  refine V_putU dTh_38 flTh_17 h1 rfl (ty := .array (.object "java/lang/StackTraceElement")) (by decide +kernel) (Or.inr ⟨_, rfl⟩) (Or.inl rfl) ?_
  refine V_aln dTh_41 rfl ?_
  refine V_alnN dTh_42 rfl ?_
  refine V_putU dTh_43 flTh_31 h1 rfl (ty := .object "java/lang/String") (by decide +kernel) (Or.inl ⟨_, rfl⟩) (Or.inl rfl) ?_
  refine V_aln dTh_46 rfl ?_
  refine V_alnN dTh_47 rfl ?_
  refine V_putU dTh_48 flTh_7 h1 rfl (ty := .object "java/lang/Throwable") (by decide +kernel) (Or.inl ⟨_, rfl⟩) (Or.inl rfl) ?_
  refine V_iln dTh_51 rfl ?_
  refine V_if_ne (tgt := 60) dTh_52 rfl (fun h => absurd rfl h) (fun _ => ?_)
  refine V_aln dTh_55 rfl ?_
  refine V_null dTh_56 ?_
  refine V_putU dTh_57 flTh_24 h1 rfl (ty := .object "java/util/List") (by decide +kernel) (Or.inl ⟨_, rfl⟩) (Or.inl rfl) ?_
  exact V_vret hM dTh_60 mDet.rf
theorem e_Ex_init {a : Nat} (h1 : sh a = some (.inl 11)) : Ev X B mdEx 0 0 [.ref (B + a), .null, .null, .int 0, .int 0] nx sh I P (mDet none nx sh I P) := by
  refine Ev.of (by decide) (by simp [Value.category]) (by simp) (fun G hM => ?_)
  have hM : mM X B "<init>" none 2 56 0 0 (mDet none nx sh I P) G := hM
  show V X B "java/lang/Exception" prog_15_method_5_code G 0 0 nx sh I P 0 [some (.ref (B + a)), some .null, some .null, some (.int 0), some (.int 0)] []
  refine V_aln dEx_0 rfl ?_
  refine V_alnN dEx_1 rfl ?_
  refine V_alnN dEx_2 rfl ?_
  refine V_iln dEx_3 rfl ?_
  refine V_il dEx_4 rfl ?_
  refine V_cI4n hM cvEx_16 (e_Th_init h1) ⟨by decide, by decide, by decide, by decide⟩ (by decide) dEx_6 ?_
  exact V_vret hM dEx_9 mDet.rf
theorem e_X11_init {a : Nat} (h1 : sh a = some (.inl 11)) : Ev X B mdX11_init 0 0 [.ref (B + a)] nx sh I P (mDet none nx sh I P) := by
  refine Ev.of (by decide) (by simp [Value.category]) (by simp) (fun G hM => ?_)
  have hM : mM X B "<init>" none 3 80 0 0 _ G := hM
  show V X B RX11 cX11_init G 0 0 nx sh I P 0 [some (.ref (B + a))] []
  refine V_aln dX11_init_0 rfl ?_
  refine V_null dX11_init_1 ?_
  refine V_null dX11_init_2 ?_
  refine V_iconst (v := 0) rfl dX11_init_3 ?_
  refine V_iconst (v := 0) rfl dX11_init_4 ?_
  refine V_cI4n hM cvSt_1 (e_Ex_init h1) ⟨by decide, by decide, by decide, by decide⟩ (by decide) dX11_init_5 ?_
  exact V_vret hM dX11_init_8 mDet.rf
end ST2
