/-! ===== String constants ===== -/
section ST
variable {X : mX} {B : Nat} {own : String} {cc : ByteArray} {G : mG} {nc ns nx : Nat} {sh : Nat → Option mSh} {I : mI} {P : mP} {pc : Nat} {ls : List (Option Value)} {st : List Value}
theorem mRel.old {H : Heap} {s : State} (hR : mRel X B nx sh I P H) (hK : mK X B s) : ∀ a : Nat, a < X.2.2.1.size → ¬ (fun q => B ≤ q) a → H[a]? = X.2.2.1[a]? := fun a _ h => hR.2.1 a (Nat.not_le.mp h)
theorem V_tret {v : Int32} {ty : FieldType} {fr lo : Nat} {nm : String} {Po : mPo} (hM : mM X B nm (some ty) fr lo nc ns Po G) (hn : narrow ty (.int v) = .int v) (hd : decode cc pc = .ok (.ireturn, 1)) (hp : Po (some (.int v)) nx sh I P) : V X B own cc G nc ns nx sh I P pc ls [.int v] := by
  obtain ⟨p, e, R, s, m, args, below, meth, c, Q⟩ := G
  intro C H locs la hR hL hl
  obtain ⟨hr, -, -, -, -, -, hQ⟩ := hM
  refine W_mono hQ ?_
  exact W.zret C.1 C.2.1 hr hn (fun t ht hW => ⟨_, _, _, _, _, rfl, hp, by rw [ht]; exact hR⟩) hL hd C.2.2.2.2.2
theorem V_gstat {idx : Nat} {r : String × String × String × Int32} (hr : r ∈ mZi) (hw : Cond.fieldLink own idx r.1 r.2.1 r.2.2.1 ∈ mW) (hd : decode cc pc = .ok (.getstatic idx, 3)) (kk : V X B own cc G nc ns nx sh I P (pc + 3) ls (.int r.2.2.2 :: st)) : V X B own cc G nc ns nx sh I P pc ls st := by
  obtain ⟨p, e, R, s, m, args, below, meth, c, Q⟩ := G
  intro C H locs la hR hL hl
  have hK := C.2.2.2.2.1
  obtain ⟨cf, kf, fi, f, a, cell, h1, h2, h3, h4, h5, h6, h7, h8⟩ := (hK.2.2.2.2.1 r hr).kept (hR.old hK)
  exact W.gets C.1 C.2.1 C.2.2.1 (C.2.2.2.1 _ hw) h1 h2 h3 h4 h5 (fun e => by rw [e] at h6; cases h6) h7 rfl hd (kk C H locs la hR hL hl)
theorem V_gstatq {idx : Nat} {r : String × String × String} (hr : r ∈ mZq) (hw : Cond.fieldLink own idx r.1 r.2.1 r.2.2 ∈ mW) (hd : decode cc pc = .ok (.getstatic idx, 3)) (kk : ∀ v : Value, (v = .null ∨ ∃ a, v = .ref a) → V X B own cc G nc ns nx sh I P (pc + 3) ls (v :: st)) : V X B own cc G nc ns nx sh I P pc ls st := by
  obtain ⟨p, e, R, s, m, args, below, meth, c, Q⟩ := G
  intro C H locs la hR hL hl
  have hK := C.2.2.2.2.1
  rcases (hK.2.2.2.2.2.1 r hr).kept (hR.old hK) with h | ⟨t, h⟩
  · obtain ⟨cf, kf, fi, f, a, cell, h1, h2, h3, h4, h5, h6, h7, h8⟩ := h
    exact W.gets C.1 C.2.1 C.2.2.1 (C.2.2.2.1 _ hw) h1 h2 h3 h4 h5 (fun e => by rw [e] at h6; cases h6) h7 rfl hd (kk _ (Or.inl rfl) C H locs la hR hL hl)
  · obtain ⟨cf, kf, fi, f, a, cell, h1, h2, h3, h4, h5, h6, h7, h8⟩ := h
    exact W.gets C.1 C.2.1 C.2.2.1 (C.2.2.2.1 _ hw) h1 h2 h3 h4 h5 (fun e => by rw [e] at h6; cases h6) h7 rfl hd (kk _ (Or.inr ⟨t, rfl⟩) C H locs la hR hL hl)
theorem V_sval {idx i : Nat} (hi : i < mNT) (hw : Cond.fieldLink own idx "java/lang/String" "value" "[B" ∈ mW) (hd : decode cc pc = .ok (.getfield idx, 3)) (kk : V X B own cc G nc ns nx sh I P (pc + 3) ls (.ref (X.2.2.2.2.1 i) :: st)) : V X B own cc G nc ns nx sh I P pc ls (.ref (X.2.2.2.1 i) :: st) := by
  obtain ⟨p, e, R, s, m, args, below, meth, c, Q⟩ := G
  intro C H locs la hR hL hl
  have hK := C.2.2.2.2.1
  obtain ⟨cf, k, fi, f, cell, h1, h2, h3, h4, h5, h6⟩ := (hK.2.2.1 i hi).2.2.1.kept (hR.old hK)
  exact W.getf C.1 C.2.1 C.2.2.1 (C.2.2.2.1 _ hw) h1 h2 h3 h4 h5 rfl rfl hd (kk C H locs la hR hL hl)
theorem V_scod {idx i : Nat} (hi : i < mNT) (hw : Cond.fieldLink own idx "java/lang/String" "coder" "B" ∈ mW) (hd : decode cc pc = .ok (.getfield idx, 3)) (kk : V X B own cc G nc ns nx sh I P (pc + 3) ls (.int 0 :: st)) : V X B own cc G nc ns nx sh I P pc ls (.ref (X.2.2.2.1 i) :: st) := by
  obtain ⟨p, e, R, s, m, args, below, meth, c, Q⟩ := G
  intro C H locs la hR hL hl
  have hK := C.2.2.2.2.1
  obtain ⟨cf, k, fi, f, cell, h1, h2, h3, h4, h5, h6⟩ := (hK.2.2.1 i hi).2.1.kept (hR.old hK)
  exact W.getf C.1 C.2.1 C.2.2.1 (C.2.2.2.1 _ hw) h1 h2 h3 h4 h5 rfl rfl hd (kk C H locs la hR hL hl)
theorem V_slen {i : Nat} (hi : i < mNT) (hd : decode cc pc = .ok (.arraylength, 1)) (kk : V X B own cc G nc ns nx sh I P (pc + 1) ls (.int (nI (mLe.getD i 0)) :: st)) : V X B own cc G nc ns nx sh I P pc ls (.ref (X.2.2.2.2.1 i) :: st) := by
  obtain ⟨p, e, R, s, m, args, below, meth, c, Q⟩ := G
  intro C H locs la hR hL hl
  have hK := C.2.2.2.2.1
  obtain ⟨cell, h1, h2, h3, h4, h5, h6, h7⟩ := (hK.2.2.1 i hi).2.2.2.kept (hR.old hK)
  exact W.alen C.1 C.2.1 h1 h2 h5 rfl rfl hd (kk C H locs la hR hL hl)
theorem V_sbald {i j : Nat} (hi : i < mNT) (hj : j < mLe.getD i 0) (hj2 : j < 1000) (hd : decode cc pc = .ok (.baload, 1)) (kk : V X B own cc G nc ns nx sh I P (pc + 1) ls (.int ((mBy.getD i []).getD j 0) :: st)) : V X B own cc G nc ns nx sh I P pc ls (.int (nI j) :: .ref (X.2.2.2.2.1 i) :: st) := by
  obtain ⟨p, e, R, s, m, args, below, meth, c, Q⟩ := G
  intro C H locs la hR hL hl
  have hK := C.2.2.2.2.1
  obtain ⟨cell, h1, h2, h3, h4, h5, h6, h7⟩ := (hK.2.2.1 i hi).2.2.2.kept (hR.old hK)
  have hc : (nI j).toNatClampNeg = j := nI_clamp (by omega)
  exact W.bald (v := .int ((mBy.getD i []).getD j 0)) C.1 C.2.1 h1 h2 h3 (by rw [hc]; rintro (h | h); exact nI_pos (by omega) h; omega) (by rw [hc]; exact h6 j hj) rfl rfl hd (kk C H locs la hR hL hl)
variable {nm : String} {ret : Option FieldType} {fr lo mc ms : Nat} {Po Po0 : mPo} {d : mMd} {mc0 ms0 idx n : Nat} {z0 : Value} {nx1 : Nat} {sh1 : Nat → Option mSh} {I1 : mI} {P1 : mP}
/-- a call on a String constant -/
theorem V_callT {i : Nat} {As rest : List Value} (hi : i < mNT) (hM : mM X B nm ret fr lo mc ms Po G) (hc : mCv own idx d n) (hcn : d.1.cls = "java/lang/String") (hE : Ev X B d mc0 ms0 (.ref (X.2.2.2.1 i) :: As) nx sh I P (mDet (some z0) nx1 sh1 I1 P1)) (hn : As.length = n) (hr : mRoom d nc ns fr lo mc ms mc0 ms0) (hst : (rest.map fun v => v.category).sum ≤ 8) (hd : decode cc pc = .ok (.invokevirtual idx, 3)) (hstk : st = As.reverse ++ .ref (X.2.2.2.1 i) :: rest)
    (kk : V X B own cc G (nc + mc0) (ns + ms0) nx1 sh1 I1 P1 (pc + 3) ls (z0 :: rest)) : V X B own cc G nc ns nx sh I P pc ls st := by
  subst hstk
  refine V_run (Po0 := mDet (some z0) nx1 sh1 I1 P1) (mc0 := mc0) (ms0 := ms0) (rest := rest) (a := (Value.ref (X.2.2.2.1 i) :: As).toArray) (fun p e R s m args below meth c Q hG C H locs la hR hl => ?_) (fun v nx2 sh2 I2 P2 h => by obtain ⟨rfl, rfl, rfl, rfl, rfl⟩ := h; exact kk)
  subst hG
  obtain ⟨-, rfl, rfl, rfl, rfl, -, -⟩ := hM
  obtain ⟨hx, hb, hown, hts, hK, -⟩ := C
  obtain ⟨cell, q1, q2, q3, -⟩ := (hK.2.2.1 i hi).1.kept (hR.old hK)
  obtain ⟨w1, w2, w3, w4, w5, w6⟩ := hc
  exact va_runV (nL := c.maxLocals) ⟨hx, hb, rfl, hown, hts⟩ hE ⟨⟨rfl, rfl, hr.1, hr.2.1, fun w hw a' U hW => (List.mem_cons.mp hw).elim (fun h => by rw [h]; exact pay_in hts mW_good _ w4 a' U hW) (fun h => pay_in hts mW_good _ h a' U hW), List.mem_cons_self, hts _ w4, hts _ w5, ⟨w6.1, w6.2.1⟩, fun sig h => by have h2 := w6.2.2; rw [h] at h2; exact (Option.some.inj h2).symm, hts _ w1⟩, hts _ w2, hts _ w3⟩
    ⟨mPc_blind, ⟨cell, q1, q2, by rw [hcn]; exact q3⟩, fun U hU hW => ⟨rfl, by rw [hU]; exact hR, hK.warm hW⟩⟩ rfl hn hl.1 rfl (lv_room hst) hd ⟨hr.2.2.1, hr.2.2.2⟩
end ST
section SJ
variable {X : mX} {B nx : Nat} {sh : Nat → Option mSh} {I : mI} {P : mP}
theorem fsJ0_38 : Cond.fieldLink RJ0 38 "java/lang/String" "COMPACT_STRINGS" "Z" ∈ mW := mW_at 494 (by decide +kernel) (by decide)
theorem fsJ0_15 : Cond.fieldLink RJ0 15 "java/lang/String" "coder" "B" ∈ mW := mW_at 1396 (by decide +kernel) (by decide)
theorem fsJ0_9 : Cond.fieldLink RJ0 9 "java/lang/String" "value" "[B" ∈ mW := mW_at 1395 (by decide +kernel) (by decide)
theorem fsJ0_1053 : Cond.fieldLink RJ0 1053 "jdk/internal/util/Preconditions" "SIOOBE_FORMATTER" "Ljava/util/function/BiFunction;" ∈ mW := mW_at 510 (by decide +kernel) (by decide)
theorem e_J0_coder {i : Nat} (hi : i < mNT) : Ev X B mdJ0_coder_7d493 0 0 [.ref (X.2.2.2.1 i)] nx sh I P (mDet (some (.int 0)) nx sh I P) := by
  refine Ev.of (by decide) (by simp [Value.category]) (by simp) (fun G hM => ?_)
  have hM : mM X B "coder" (some .byte) 0 0 0 0 _ G := hM
  show V X B RJ0 cJ0_coder_7d493 G 0 0 nx sh I P 0 [some (.ref (X.2.2.2.1 i))] []
  refine V_gstat (r := ("java/lang/String", "COMPACT_STRINGS", "Z", 1)) (by simp [mZi]) fsJ0_38 dJ0_coder_7d493_0 ?_
  refine V_if_eq (tgt := 13) dJ0_coder_7d493_3 rfl (fun h => absurd h (by decide)) (fun _ => ?_)
  refine V_aln dJ0_coder_7d493_6 rfl ?_
  refine V_scod hi fsJ0_15 dJ0_coder_7d493_7 ?_
  refine V_goto (tgt := 14) dJ0_coder_7d493_10 rfl ?_
  exact V_tret hM rfl dJ0_coder_7d493_14 mDet.rf
theorem e_J0_isLatin1 {i : Nat} (hi : i < mNT) : Ev X B mdJ0_isLatin1_aae02 0 0 [.ref (X.2.2.2.1 i)] nx sh I P (mDet (some (.int 1)) nx sh I P) := by
  refine Ev.of (by decide) (by simp [Value.category]) (by simp) (fun G hM => ?_)
  have hM : mM X B "isLatin1" (some .boolean) 0 0 0 0 _ G := hM
  show V X B RJ0 cJ0_isLatin1_aae02 G 0 0 nx sh I P 0 [some (.ref (X.2.2.2.1 i))] []
  refine V_gstat (r := ("java/lang/String", "COMPACT_STRINGS", "Z", 1)) (by simp [mZi]) fsJ0_38 dJ0_isLatin1_aae02_0 ?_
  refine V_if_eq (tgt := 17) dJ0_isLatin1_aae02_3 rfl (fun h => absurd h (by decide)) (fun _ => ?_)
  refine V_aln dJ0_isLatin1_aae02_6 rfl ?_
  refine V_scod hi fsJ0_15 dJ0_isLatin1_aae02_7 ?_
  refine V_if_ne (tgt := 17) dJ0_isLatin1_aae02_10 rfl (fun h => absurd rfl h) (fun _ => ?_)
  refine V_iconst (v := 1) rfl dJ0_isLatin1_aae02_13 ?_
  refine V_goto (tgt := 18) dJ0_isLatin1_aae02_14 rfl ?_
  exact V_zret hM (Or.inr rfl) dJ0_isLatin1_aae02_18 mDet.rf
theorem mLe_lt : ∀ i, i < mNT → mLe.getD i 0 < 20 := by decide +kernel
theorem e_J0_length {i : Nat} (hi : i < mNT) : Ev X B mdJ0_length_8abf5 0 0 [.ref (X.2.2.2.1 i)] nx sh I P (mDet (some (.int (nI (mLe.getD i 0)))) nx sh I P) := by
  refine Ev.of (by decide) (by simp [Value.category]) (by simp) (fun G hM => ?_)
  have hM : mM X B "length" (some .int) 1 20 0 0 _ G := hM
  show V X B RJ0 cJ0_length_8abf5 G 0 0 nx sh I P 0 [some (.ref (X.2.2.2.1 i))] []
  refine V_aln dJ0_length_8abf5_0 rfl ?_
  refine V_sval hi fsJ0_9 dJ0_length_8abf5_1 ?_
  refine V_slen hi dJ0_length_8abf5_4 ?_
  refine V_aln dJ0_length_8abf5_5 rfl ?_
  refine V_callT hi hM cvJ0_335 rfl (e_J0_coder hi) rfl ⟨Nat.le_of_ble_eq_true rfl, Nat.le_of_ble_eq_true rfl, Nat.le_of_ble_eq_true rfl, Nat.le_of_ble_eq_true rfl⟩ (Nat.le_of_ble_eq_true rfl) dJ0_length_8abf5_6 rfl ?_
  refine V_ishr dJ0_length_8abf5_9 ?_
  refine V_top (sc_shr0 (by have := mLe_lt i hi; omega)) ?_
  exact V_iret hM dJ0_length_8abf5_10 mDet.rf
theorem e_J3_checkIndex {i n : Nat} {v : Value} (hv : v = .null ∨ ∃ a, v = .ref a) (h : i < n) (hn : n < 1000) : Ev X B mdJ3_checkIndex_8e157 0 0 [.int (nI i), .int (nI n), v] nx sh I P (mDet (some (.int (nI i))) nx sh I P) := by
  refine Ev.of (by decide) (by rcases hv with rfl | ⟨a, rfl⟩ <;> simp [Value.category]) (by simp) (fun G hM => ?_)
  have hM : mM X B "checkIndex" (some .int) 0 0 0 0 _ G := hM
  show V X B RJ3 cJ3_checkIndex_8e157 G 0 0 nx sh I P 0 [some (.int (nI i)), some (.int (nI n)), some v] []
  refine V_iln dJ3_checkIndex_8e157_0 rfl ?_
  refine V_if_lt (tgt := 9) dJ3_checkIndex_8e157_1 rfl (fun c1 => ?_) (fun c1 => ?_)
  · exact absurd c1 (nI_pos (by omega)) --done
  · refine V_iln dJ3_checkIndex_8e157_4 rfl ?_
    refine V_iln dJ3_checkIndex_8e157_5 rfl ?_
    refine V_icmp_lt (tgt := 16) dJ3_checkIndex_8e157_6 rfl (fun c6 => ?_) (fun c6 => ?_)
    · refine V_iln dJ3_checkIndex_8e157_16 rfl ?_
      exact V_iret hM dJ3_checkIndex_8e157_17 (mDet.rf)
    · exact absurd (nI_lt h (by omega)) c6 --done
theorem e_J0_checkIndex {i n : Nat} (h : i < n) (hn : n < 1000) : Ev X B mdJ0_checkIndex_df160 0 0 [.int (nI i), .int (nI n)] nx sh I P (mDet none nx sh I P) := by
  refine Ev.of (by decide) (by simp [Value.category]) (by simp) (fun G hM => ?_)
  have hM : mM X B "checkIndex" none 1 22 0 0 _ G := hM
  show V X B RJ0 cJ0_checkIndex_df160 G 0 0 nx sh I P 0 [some (.int (nI i)), some (.int (nI n))] []
  refine V_iln dJ0_checkIndex_df160_0 rfl ?_
  refine V_iln dJ0_checkIndex_df160_1 rfl ?_
  refine V_gstatq (r := ("jdk/internal/util/Preconditions", "SIOOBE_FORMATTER", "Ljava/util/function/BiFunction;")) (by simp [mZq]) fsJ0_1053 dJ0_checkIndex_df160_2 (fun v hv => ?_)
  refine V_cS3d hM cvJ0_1059 (e_J3_checkIndex hv h hn) ⟨Nat.le_of_ble_eq_true rfl, Nat.le_of_ble_eq_true rfl, Nat.le_of_ble_eq_true rfl, Nat.le_of_ble_eq_true rfl⟩ (Nat.le_of_ble_eq_true rfl) dJ0_checkIndex_df160_5 ?_
  refine V_pop rfl dJ0_checkIndex_df160_8 ?_
  exact V_vret hM dJ0_checkIndex_df160_9 mDet.rf
/-- the char at j of text i -/
def chF (i j : Nat) : Int32 := (((mBy.getD i []).getD j 0 &&& 255).toUInt32 % 65536).toInt32
theorem e_J1_charAt {i j : Nat} (hi : i < mNT) (hj : j < mLe.getD i 0) : Ev X B mdJ1_charAt_3b067 0 0 [.ref (X.2.2.2.2.1 i), .int (nI j)] nx sh I P (mDet (some (.int (chF i j))) nx sh I P) := by
  have hL := mLe_lt i hi
  refine Ev.of (by decide) (by simp [Value.category]) (by simp) (fun G hM => ?_)
  have hM : mM X B "charAt" (some .char) 2 43 0 0 _ G := hM
  show V X B RJ1 cJ1_charAt_3b067 G 0 0 nx sh I P 0 [some (.ref (X.2.2.2.2.1 i)), some (.int (nI j))] []
  refine V_iln dJ1_charAt_3b067_0 rfl ?_
  refine V_aln dJ1_charAt_3b067_1 rfl ?_
  refine V_slen hi dJ1_charAt_3b067_2 ?_
  refine V_cS2n hM cvJ1_9 (e_J0_checkIndex hj (by omega)) ⟨Nat.le_of_ble_eq_true rfl, Nat.le_of_ble_eq_true rfl, Nat.le_of_ble_eq_true rfl, Nat.le_of_ble_eq_true rfl⟩ (Nat.le_of_ble_eq_true rfl) dJ1_charAt_3b067_3 ?_
  refine V_aln dJ1_charAt_3b067_6 rfl ?_
  refine V_iln dJ1_charAt_3b067_7 rfl ?_
  refine V_sbald hi hj (by omega) dJ1_charAt_3b067_8 ?_
  refine V_sipush (v := 255) rfl dJ1_charAt_3b067_9 ?_
  refine V_iand dJ1_charAt_3b067_12 ?_
  refine V_i2c dJ1_charAt_3b067_13 ?_
  exact V_tret hM (pk_nc _) dJ1_charAt_3b067_14 mDet.rf
theorem e_J0_charAt {i j : Nat} (hi : i < mNT) (hj : j < mLe.getD i 0) : Ev X B mdJ0_charAt_5068e 0 0 [.ref (X.2.2.2.1 i), .int (nI j)] nx sh I P (mDet (some (.int (chF i j))) nx sh I P) := by
  refine Ev.of (by decide) (by simp [Value.category]) (by simp) (fun G hM => ?_)
  have hM : mM X B "charAt" (some .char) 4 85 0 0 _ G := hM
  show V X B RJ0 cJ0_charAt_5068e G 0 0 nx sh I P 0 [some (.ref (X.2.2.2.1 i)), some (.int (nI j))] []
  refine V_aln dJ0_charAt_5068e_0 rfl ?_
  refine V_callT hi hM cvJ0_492 rfl (e_J0_isLatin1 hi) rfl ⟨Nat.le_of_ble_eq_true rfl, Nat.le_of_ble_eq_true rfl, Nat.le_of_ble_eq_true rfl, Nat.le_of_ble_eq_true rfl⟩ (Nat.le_of_ble_eq_true rfl) dJ0_charAt_5068e_1 rfl ?_
  refine V_if_eq (tgt := 16) dJ0_charAt_5068e_4 rfl (fun h => absurd h (by decide)) (fun _ => ?_)
  refine V_aln dJ0_charAt_5068e_7 rfl ?_
  refine V_sval hi fsJ0_9 dJ0_charAt_5068e_8 ?_
  refine V_iln dJ0_charAt_5068e_11 rfl ?_
  refine V_cS2d hM cvJ0_495 (e_J1_charAt hi hj) ⟨Nat.le_of_ble_eq_true rfl, Nat.le_of_ble_eq_true rfl, Nat.le_of_ble_eq_true rfl, Nat.le_of_ble_eq_true rfl⟩ (Nat.le_of_ble_eq_true rfl) dJ0_charAt_5068e_12 ?_
  exact V_tret hM (pk_nc _) dJ0_charAt_5068e_15 mDet.rf
end SJ
