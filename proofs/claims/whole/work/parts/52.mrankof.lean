/-! ===== the reference's rankOf, occasionOf, on ===== -/
/-- the last of the latest -/
def mBst (ok : Nat → Bool) (D : Nat → Int32) (day : Int32) : Nat → Option Nat
  | 0 => none
  | k + 1 => if ok k = true ∧ D k ≤ day ∧ (∀ j, mBst ok D day k = some j → D j ≤ D k) then some k else mBst ok D day k
theorem mBst_lt {ok : Nat → Bool} {D : Nat → Int32} {day : Int32} : ∀ (k : Nat) {j : Nat}, mBst ok D day k = some j → j < k := by
  intro k
  induction k with
  | zero => intro j h; cases h
  | succ k ih =>
    intro j h
    unfold mBst at h
    split at h
    · cases h; omega
    · have := ih h; omega
theorem mBst_y {ok : Nat → Bool} {D : Nat → Int32} {day : Int32} {k : Nat} (h1 : ok k = true) (h2 : D k ≤ day) (h3 : ∀ j, mBst ok D day k = some j → D j ≤ D k) : mBst ok D day (k + 1) = some k := if_pos ⟨h1, h2, h3⟩
theorem mBst_n {ok : Nat → Bool} {D : Nat → Int32} {day : Int32} {k : Nat} (h : ¬ (ok k = true ∧ D k ≤ day ∧ (∀ j, mBst ok D day k = some j → D j ≤ D k))) : mBst ok D day (k + 1) = mBst ok D day k := if_neg h
abbrev oI (b : Nat) (o : Option Nat) : Int32 := match o with
  | none => -1
  | some j => nI (b + j)
theorem nI_nm1 {j : Nat} (h : j < 2 ^ 31) : ¬ nI j = -1 := by
  intro e
  have := congrArg Int32.toInt e
  rw [nI_toInt h] at this
  have e2 : (-1 : Int32).toInt = -1 := rfl
  omega
def mRk (I : mI) (c p : Nat) (day : Int32) : Int32 := match mBst (fun _ => true) (fun k => I 50 (12 * p + k)) day c with
  | none => 5
  | some j => I 51 (12 * p + j)
def mSp (F T : Nat → Int32) (day : Int32) (k : Nat) : Bool := decide (F k ≤ day) && decide (day ≤ T k)
def mOcc (I : mI) (c n p : Nat) (day : Int32) : Int32 := if anyR (fun k => mSp (I 53) (I 54) day (4 * p + k)) c then 2 else if anyR (mSp (I 55) (I 56) day) n then 1 else 0
section MR
variable {X : mX} {B nx : Nat} {sh : Nat → Option mSh} {I : mI} {P : mP}
theorem nI_12m (p : Nat) : 12 * nI p = nI (12 * p + 0) := by rw [show (12 : Int32) = nI 12 from rfl, nI_mul, Nat.add_zero]
theorem nI_4m (p : Nat) : 4 * nI p = nI (4 * p + 0) := by rw [show (4 : Int32) = nI 4 from rfl, nI_mul, Nat.add_zero]
theorem l_X12_rankOf {G : mG} {c p : Nat} {day : Int32} (hV : MW sh P) (hp : p < 30) (hc : I 49 p = nI c) (hc2 : c ≤ 12) (hM : mM X B "rankOf" (some .int) 0 0 0 0 (mDet (some (.int (mRk I c p day))) nx sh I P) G) : ∀ (z i : Nat), i ≤ c → c - i < z → V X B RX12 cX12_rankOf G 0 0 nx sh I P 8 [some (.ref (B + 35)), some (.int (nI p)), some (.int day), some (.int (oI (12 * p) (mBst (fun _ => true) (fun k => I 50 (12 * p + k)) day i))), some (.int (nI (12 * p + i)))] [] := by
  have s35 : sh 35 = some (.inl 12) := hV.1 35 _ rfl
  have s_changes : sh 49 = some (.inr (0, 30)) := hV.1 49 _ rfl
  have p_changes : P 35 23 = some 49 := hV.2 23 49 rfl
  have s_changeDay : sh 50 = some (.inr (0, 360)) := hV.1 50 _ rfl
  have p_changeDay : P 35 24 = some 50 := hV.2 24 50 rfl
  have s_changeRank : sh 51 = some (.inr (0, 360)) := hV.1 51 _ rfl
  have p_changeRank : P 35 25 = some 51 := hV.2 25 51 rfl
  intro z
  induction z with
  | zero => intro i _ h; omega
  | succ z ih =>
    intro i hi hz
    have hl : ∀ j, mBst (fun _ => true) (fun k => I 50 (12 * p + k)) day i = some j → j < 12 := fun j h => by have := mBst_lt i h; omega
    cases hb : mBst (fun _ => true) (fun k => I 50 (12 * p + k)) day i with
    | none =>
      refine V_ls (show _ = [some (.ref (B + 35)), some (.int (nI p)), some (.int day), some (.int (-1)), some (.int (nI (12 * p + i)))] from rfl) ?_
      refine V_il dX12_rankOf_8 rfl ?_
      refine V_bipush (v := 12) rfl dX12_rankOf_10 ?_
      refine V_iln dX12_rankOf_12 rfl ?_
      refine V_imul dX12_rankOf_13 ?_
      refine V_aln dX12_rankOf_14 rfl ?_
      refine V_getR dX12_rankOf_15 flX12_174 (by assumption) rfl (by assumption) ?_
      refine V_iln dX12_rankOf_18 rfl ?_
      refine V_ialdNv dX12_rankOf_19 (by assumption) (by omega) (by omega) (hc) ?_
      refine V_iadd dX12_rankOf_20 ?_
      refine V_top (nI_12 p c) ?_
      refine V_icmp_ge (tgt := 65) dX12_rankOf_21 rfl (fun c21 => ?_) (fun c21 => ?_)
      · have c21 := nN_le c21 (by omega) (by omega)
        obtain rfl : i = c := by omega
        refine V_iln dX12_rankOf_65 rfl ?_
        refine V_iconst (v := -1) rfl dX12_rankOf_66 ?_
        refine V_icmp_ne (tgt := 74) dX12_rankOf_67 rfl (fun c67 => ?_) (fun c67 => ?_)
        · exact absurd rfl c67 --done
        · refine V_iconst (v := 5) rfl dX12_rankOf_70 ?_
          refine V_goto (tgt := 80) dX12_rankOf_71 rfl ?_
          exact V_iret hM dX12_rankOf_80 (⟨by rw [mRk, hb], rfl, rfl, rfl, rfl⟩)
      · have c21 := nN_nle c21 (by omega) (by omega)
        refine V_aln dX12_rankOf_24 rfl ?_
        refine V_getR dX12_rankOf_25 flX12_177 (by assumption) rfl (by assumption) ?_
        refine V_il dX12_rankOf_28 rfl ?_
        refine V_ialdN dX12_rankOf_30 (by assumption) (by omega) (by omega) ?_
        refine V_iln dX12_rankOf_31 rfl ?_
        refine V_icmp_gt (tgt := 59) dX12_rankOf_32 rfl (fun c32 => ?_) (fun c32 => ?_)
        · have c32 := i_lt_nle c32
          have hs := mBst_n (ok := fun _ => true) (D := fun k => I 50 (12 * p + k)) (day := day) (k := i) (fun h => c32 h.2.1)
          refine V_inc4 dX12_rankOf_59 ?_
          refine V_goto (tgt := 8) dX12_rankOf_62 rfl ?_
          refine V_ls ?_ (ih (i + 1) (by omega) (by omega))
          rw [nI_inc, hs]
          try rw [hb]
          rfl
        · have c32 := i_nlt c32
          have hs := mBst_y (ok := fun _ => true) (D := fun k => I 50 (12 * p + k)) (day := day) (k := i) rfl c32 (fun j h => by rw [hb] at h; cases h)
          refine V_iln dX12_rankOf_35 rfl ?_
          refine V_iconst (v := -1) rfl dX12_rankOf_36 ?_
          refine V_icmp_eq (tgt := 56) dX12_rankOf_37 rfl (fun c37 => ?_) (fun c37 => ?_)
          · refine V_il dX12_rankOf_56 rfl ?_
            refine V_is3 dX12_rankOf_58 ?_
            refine V_inc4 dX12_rankOf_59 ?_
            refine V_goto (tgt := 8) dX12_rankOf_62 rfl ?_
            refine V_ls ?_ (ih (i + 1) (by omega) (by omega))
            rw [nI_inc, hs]
            try rw [hb]
            rfl
          · exact absurd rfl c37 --done
    | some j =>
      have hj := hl j hb
      have hjn : ¬ nI (12 * p + j) = -1 := nI_nm1 (by omega)
      refine V_ls (show _ = [some (.ref (B + 35)), some (.int (nI p)), some (.int day), some (.int (nI (12 * p + j))), some (.int (nI (12 * p + i)))] from rfl) ?_
      refine V_il dX12_rankOf_8 rfl ?_
      refine V_bipush (v := 12) rfl dX12_rankOf_10 ?_
      refine V_iln dX12_rankOf_12 rfl ?_
      refine V_imul dX12_rankOf_13 ?_
      refine V_aln dX12_rankOf_14 rfl ?_
      refine V_getR dX12_rankOf_15 flX12_174 (by assumption) rfl (by assumption) ?_
      refine V_iln dX12_rankOf_18 rfl ?_
      refine V_ialdNv dX12_rankOf_19 (by assumption) (by omega) (by omega) (hc) ?_
      refine V_iadd dX12_rankOf_20 ?_
      refine V_top (nI_12 p c) ?_
      refine V_icmp_ge (tgt := 65) dX12_rankOf_21 rfl (fun c21 => ?_) (fun c21 => ?_)
      · have c21 := nN_le c21 (by omega) (by omega)
        obtain rfl : i = c := by omega
        refine V_iln dX12_rankOf_65 rfl ?_
        refine V_iconst (v := -1) rfl dX12_rankOf_66 ?_
        refine V_icmp_ne (tgt := 74) dX12_rankOf_67 rfl (fun c67 => ?_) (fun c67 => ?_)
        · refine V_aln dX12_rankOf_74 rfl ?_
          refine V_getR dX12_rankOf_75 flX12_180 (by assumption) rfl (by assumption) ?_
          refine V_iln dX12_rankOf_78 rfl ?_
          refine V_ialdN dX12_rankOf_79 (by assumption) (by omega) (by omega) ?_
          exact V_iret hM dX12_rankOf_80 (⟨by rw [mRk, hb], rfl, rfl, rfl, rfl⟩)
        · exact absurd c67 hjn --done
      · have c21 := nN_nle c21 (by omega) (by omega)
        refine V_aln dX12_rankOf_24 rfl ?_
        refine V_getR dX12_rankOf_25 flX12_177 (by assumption) rfl (by assumption) ?_
        refine V_il dX12_rankOf_28 rfl ?_
        refine V_ialdN dX12_rankOf_30 (by assumption) (by omega) (by omega) ?_
        refine V_iln dX12_rankOf_31 rfl ?_
        refine V_icmp_gt (tgt := 59) dX12_rankOf_32 rfl (fun c32 => ?_) (fun c32 => ?_)
        · have c32 := i_lt_nle c32
          have hs := mBst_n (ok := fun _ => true) (D := fun k => I 50 (12 * p + k)) (day := day) (k := i) (fun h => c32 h.2.1)
          refine V_inc4 dX12_rankOf_59 ?_
          refine V_goto (tgt := 8) dX12_rankOf_62 rfl ?_
          refine V_ls ?_ (ih (i + 1) (by omega) (by omega))
          rw [nI_inc, hs]
          try rw [hb]
          rfl
        · have c32 := i_nlt c32
          refine V_iln dX12_rankOf_35 rfl ?_
          refine V_iconst (v := -1) rfl dX12_rankOf_36 ?_
          refine V_icmp_eq (tgt := 56) dX12_rankOf_37 rfl (fun c37 => ?_) (fun c37 => ?_)
          · exact absurd c37 hjn --done
          · refine V_aln dX12_rankOf_40 rfl ?_
            refine V_getR dX12_rankOf_41 flX12_177 (by assumption) rfl (by assumption) ?_
            refine V_il dX12_rankOf_44 rfl ?_
            refine V_ialdN dX12_rankOf_46 (by assumption) (by omega) (by omega) ?_
            refine V_aln dX12_rankOf_47 rfl ?_
            refine V_getR dX12_rankOf_48 flX12_177 (by assumption) rfl (by assumption) ?_
            refine V_iln dX12_rankOf_51 rfl ?_
            refine V_ialdN dX12_rankOf_52 (by assumption) (by omega) (by omega) ?_
            refine V_icmp_lt (tgt := 59) dX12_rankOf_53 rfl (fun c53 => ?_) (fun c53 => ?_)
            · have c53 := i_lt_nle c53
              have hs := mBst_n (ok := fun _ => true) (D := fun k => I 50 (12 * p + k)) (day := day) (k := i) (fun h => c53 (h.2.2 j hb))
              refine V_inc4 dX12_rankOf_59 ?_
              refine V_goto (tgt := 8) dX12_rankOf_62 rfl ?_
              refine V_ls ?_ (ih (i + 1) (by omega) (by omega))
              rw [nI_inc, hs]
              try rw [hb]
              rfl
            · have c53 := i_nlt c53
              have hs := mBst_y (ok := fun _ => true) (D := fun k => I 50 (12 * p + k)) (day := day) (k := i) rfl c32 (fun j' h => by rw [hb] at h; cases h; exact c53)
              refine V_il dX12_rankOf_56 rfl ?_
              refine V_is3 dX12_rankOf_58 ?_
              refine V_inc4 dX12_rankOf_59 ?_
              refine V_goto (tgt := 8) dX12_rankOf_62 rfl ?_
              refine V_ls ?_ (ih (i + 1) (by omega) (by omega))
              rw [nI_inc, hs]
              try rw [hb]
              rfl
theorem e_X12_rankOf {c p : Nat} {day : Int32} (hV : MW sh P) (hp : p < 30) (hc : I 49 p = nI c) (hc2 : c ≤ 12) : Ev X B mdX12_rankOf 0 0 [.ref (B + 35), .int (nI p), .int day] nx sh I P (mDet (some (.int (mRk I c p day))) nx sh I P) := by
  refine Ev.of (by decide) (by simp [Value.category]) (by simp) (fun G hM => ?_)
  have hM : mM X B "rankOf" (some FieldType.int) 0 0 0 0 _ G := hM
  show V X B RX12 cX12_rankOf G 0 0 nx sh I P 0 [some (.ref (B + 35)), some (.int (nI p)), some (.int day), none, none] []
  refine V_iconst (v := -1) rfl dX12_rankOf_0 ?_
  refine V_is3 dX12_rankOf_1 ?_
  refine V_bipush (v := 12) rfl dX12_rankOf_2 ?_
  refine V_iln dX12_rankOf_4 rfl ?_
  refine V_imul dX12_rankOf_5 ?_
  refine V_top (nI_12m p) ?_
  refine V_is4 dX12_rankOf_6 ?_
  exact l_X12_rankOf hV hp hc hc2 hM (c + 1) 0 (by omega) (by omega)
theorem in64b {a b c : Int32} : (decide (b.toInt64 ≤ a.toInt64) && decide (a.toInt64 ≤ c.toInt64)) = (decide (b ≤ a) && decide (a ≤ c)) := by simp only [i64_le]
theorem l2_X12_occasionOf {G : mG} {c n p : Nat} {day : Int32} (hV : MW sh P) (hn : I 35 31 = nI n) (hn2 : n ≤ 20) (hw : anyR (fun k => mSp (I 53) (I 54) day (4 * p + k)) c = false) (hM : mM X B "occasionOf" (some .int) 1 25 0 0 (mDet (some (.int (mOcc I c n p day))) nx sh I P) G) : ∀ (z i : Nat), i ≤ n → n - i < z → (∀ j, j < i → mSp (I 55) (I 56) day j = false) → V X B RX12 cX12_occasionOf G 0 0 nx sh I P 50 [some (.ref (B + 35)), some (.int (nI p)), some (.int day), some (.int (nI i))] [] := by
  have s35 : sh 35 = some (.inl 12) := hV.1 35 _ rfl
  have s_feastFrom : sh 55 = some (.inr (0, 20)) := hV.1 55 _ rfl
  have p_feastFrom : P 35 29 = some 55 := hV.2 29 55 rfl
  have s_feastTo : sh 56 = some (.inr (0, 20)) := hV.1 56 _ rfl
  have p_feastTo : P 35 30 = some 56 := hV.2 30 56 rfl
  intro z
  induction z with
  | zero => intro i _ h; omega
  | succ z ih =>
    intro i hi hz hin
    refine V_iln dX12_occasionOf_50 rfl ?_
    refine V_aln dX12_occasionOf_51 rfl ?_
    refine V_getIv dX12_occasionOf_52 flX12_282 (by assumption) rfl (hn) ?_
    refine V_icmp_ge (tgt := 88) dX12_occasionOf_55 rfl (fun c55 => ?_) (fun c55 => ?_)
    · have c55 := nN_le c55 (by omega) (by omega)
      obtain rfl : i = n := by omega
      refine V_iconst (v := 0) rfl dX12_occasionOf_88 ?_
      exact V_iret hM dX12_occasionOf_89 (⟨by rw [mOcc, hw, anyR_f hin]; rfl, rfl, rfl, rfl, rfl⟩)
    · have c55 := nN_nle c55 (by omega) (by omega)
      refine V_iln dX12_occasionOf_58 rfl ?_
      refine V_i2l dX12_occasionOf_59 ?_
      refine V_aln dX12_occasionOf_60 rfl ?_
      refine V_getR dX12_occasionOf_61 flX12_192 (by assumption) rfl (by assumption) ?_
      refine V_iln dX12_occasionOf_64 rfl ?_
      refine V_ialdN dX12_occasionOf_65 (by assumption) (by omega) (by omega) ?_
      refine V_i2l dX12_occasionOf_66 ?_
      refine V_aln dX12_occasionOf_67 rfl ?_
      refine V_getR dX12_occasionOf_68 flX12_195 (by assumption) rfl (by assumption) ?_
      refine V_iln dX12_occasionOf_71 rfl ?_
      refine V_ialdN dX12_occasionOf_72 (by assumption) (by omega) (by omega) ?_
      refine V_i2l dX12_occasionOf_73 ?_
      refine V_cS3d hM cvX12_5 (e_X12_in) ⟨Nat.le_of_ble_eq_true rfl, Nat.le_of_ble_eq_true rfl, Nat.le_of_ble_eq_true rfl, Nat.le_of_ble_eq_true rfl⟩ (Nat.le_of_ble_eq_true rfl) dX12_occasionOf_74 ?_
      rw [in64b]
      refine V_ifeq_b (tgt := 82) dX12_occasionOf_77 rfl (fun c77 => ?_) (fun c77 => ?_)
      · refine V_inc3 dX12_occasionOf_82 ?_
        refine V_goto (tgt := 50) dX12_occasionOf_85 rfl ?_
        rw [nI_inc]
        exact ih (i + 1) (by omega) (by omega) (lt_s' hin c77)
      · refine V_iconst (v := 1) rfl dX12_occasionOf_80 ?_
        exact V_iret hM dX12_occasionOf_81 (⟨by rw [mOcc, hw, anyR_t (i := i) c55 c77]; rfl, rfl, rfl, rfl, rfl⟩)
theorem l_X12_occasionOf {G : mG} {c n p : Nat} {day : Int32} (hV : MW sh P) (hn : I 35 31 = nI n) (hn2 : n ≤ 20) (hp : p < 30) (hc : I 52 p = nI c) (hc2 : c ≤ 4) (hM : mM X B "occasionOf" (some .int) 1 25 0 0 (mDet (some (.int (mOcc I c n p day))) nx sh I P) G) : ∀ (z i : Nat), i ≤ c → c - i < z → (∀ j, j < i → mSp (I 53) (I 54) day (4 * p + j) = false) → V X B RX12 cX12_occasionOf G 0 0 nx sh I P 4 [some (.ref (B + 35)), some (.int (nI p)), some (.int day), some (.int (nI (4 * p + i)))] [] := by
  have s35 : sh 35 = some (.inl 12) := hV.1 35 _ rfl
  have s_weddings : sh 52 = some (.inr (0, 30)) := hV.1 52 _ rfl
  have p_weddings : P 35 26 = some 52 := hV.2 26 52 rfl
  have s_weddingFrom : sh 53 = some (.inr (0, 120)) := hV.1 53 _ rfl
  have p_weddingFrom : P 35 27 = some 53 := hV.2 27 53 rfl
  have s_weddingTo : sh 54 = some (.inr (0, 120)) := hV.1 54 _ rfl
  have p_weddingTo : P 35 28 = some 54 := hV.2 28 54 rfl
  intro z
  induction z with
  | zero => intro i _ h; omega
  | succ z ih =>
    intro i hi hz hin
    refine V_iln dX12_occasionOf_4 rfl ?_
    refine V_iconst (v := 4) rfl dX12_occasionOf_5 ?_
    refine V_iln dX12_occasionOf_6 rfl ?_
    refine V_imul dX12_occasionOf_7 ?_
    refine V_aln dX12_occasionOf_8 rfl ?_
    refine V_getR dX12_occasionOf_9 flX12_183 (by assumption) rfl (by assumption) ?_
    refine V_iln dX12_occasionOf_12 rfl ?_
    refine V_ialdNv dX12_occasionOf_13 (by assumption) (by omega) (by omega) (hc) ?_
    refine V_iadd dX12_occasionOf_14 ?_
    refine V_top (nI_4 p c) ?_
    refine V_icmp_ge (tgt := 48) dX12_occasionOf_15 rfl (fun c15 => ?_) (fun c15 => ?_)
    · have c15 := nN_le c15 (by omega) (by omega)
      obtain rfl : i = c := by omega
      refine V_iconst (v := 0) rfl dX12_occasionOf_48 ?_
      refine V_is3 dX12_occasionOf_49 ?_
      exact l2_X12_occasionOf hV hn hn2 (anyR_f hin) hM (n + 1) 0 (by omega) (by omega) (fun j h => by omega)
    · have c15 := nN_nle c15 (by omega) (by omega)
      refine V_iln dX12_occasionOf_18 rfl ?_
      refine V_i2l dX12_occasionOf_19 ?_
      refine V_aln dX12_occasionOf_20 rfl ?_
      refine V_getR dX12_occasionOf_21 flX12_186 (by assumption) rfl (by assumption) ?_
      refine V_iln dX12_occasionOf_24 rfl ?_
      refine V_ialdN dX12_occasionOf_25 (by assumption) (by omega) (by omega) ?_
      refine V_i2l dX12_occasionOf_26 ?_
      refine V_aln dX12_occasionOf_27 rfl ?_
      refine V_getR dX12_occasionOf_28 flX12_189 (by assumption) rfl (by assumption) ?_
      refine V_iln dX12_occasionOf_31 rfl ?_
      refine V_ialdN dX12_occasionOf_32 (by assumption) (by omega) (by omega) ?_
      refine V_i2l dX12_occasionOf_33 ?_
      refine V_cS3d hM cvX12_5 (e_X12_in) ⟨Nat.le_of_ble_eq_true rfl, Nat.le_of_ble_eq_true rfl, Nat.le_of_ble_eq_true rfl, Nat.le_of_ble_eq_true rfl⟩ (Nat.le_of_ble_eq_true rfl) dX12_occasionOf_34 ?_
      rw [in64b]
      refine V_ifeq_b (tgt := 42) dX12_occasionOf_37 rfl (fun c37 => ?_) (fun c37 => ?_)
      · refine V_inc3 dX12_occasionOf_42 ?_
        refine V_goto (tgt := 4) dX12_occasionOf_45 rfl ?_
        rw [nI_inc]
        exact ih (i + 1) (by omega) (by omega) (lt_s' (f := fun k => mSp (I 53) (I 54) day (4 * p + k)) hin c37)
      · refine V_iconst (v := 2) rfl dX12_occasionOf_40 ?_
        exact V_iret hM dX12_occasionOf_41 (⟨by rw [mOcc, anyR_t (f := fun k => mSp (I 53) (I 54) day (4 * p + k)) (i := i) (by omega) c37]; rfl, rfl, rfl, rfl, rfl⟩)
theorem e_X12_occasionOf {c n p : Nat} {day : Int32} (hV : MW sh P) (hn : I 35 31 = nI n) (hn2 : n ≤ 20) (hp : p < 30) (hc : I 52 p = nI c) (hc2 : c ≤ 4) : Ev X B mdX12_occasionOf 0 0 [.ref (B + 35), .int (nI p), .int day] nx sh I P (mDet (some (.int (mOcc I c n p day))) nx sh I P) := by
  refine Ev.of (by decide) (by simp [Value.category]) (by simp) (fun G hM => ?_)
  have hM : mM X B "occasionOf" (some FieldType.int) 1 25 0 0 _ G := hM
  show V X B RX12 cX12_occasionOf G 0 0 nx sh I P 0 [some (.ref (B + 35)), some (.int (nI p)), some (.int day), none] []
  refine V_iconst (v := 4) rfl dX12_occasionOf_0 ?_
  refine V_iln dX12_occasionOf_1 rfl ?_
  refine V_imul dX12_occasionOf_2 ?_
  refine V_top (nI_4m p) ?_
  refine V_is3 dX12_occasionOf_3 ?_
  exact l_X12_occasionOf hV hn hn2 hp hc hc2 hM (c + 1) 0 (by omega) (by omega) (fun j h => by omega)
theorem e_X12_on {cr cw n p : Nat} {day w : Int32} (hV : MW sh P) (hn : I 35 31 = nI n) (hn2 : n ≤ 20) (hp : p < 30) (hcr : I 49 p = nI cr) (hcr2 : cr ≤ 12) (hc : I 52 p = nI cw) (hc2 : cw ≤ 4) (hd : inB day 10000 = true) : Ev X B mdX12_on 0 0 [.ref (B + 35), .int (nI p), .int day, .int w] nx sh I P (mDet (some (.int (if w = 0 then mRk I cr p day else if w = 1 then mOcc I cw n p day else -2))) nx sh I P) := by
  have s35 : sh 35 = some (.inl 12) := hV.1 35 _ rfl
  refine Ev.of (by decide) (by simp [Value.category]) (by simp) (fun G hM => ?_)
  have hM : mM X B "on" (some FieldType.int) 2 48 0 0 _ G := hM
  show V X B RX12 cX12_on G 0 0 nx sh I P 0 [some (.ref (B + 35)), some (.int (nI p)), some (.int day), some (.int w)] []
  refine V_iln dX12_on_0 rfl ?_
  refine V_cS1d hM cvX12_274 (e_X12_isPerson) ⟨Nat.le_of_ble_eq_true rfl, Nat.le_of_ble_eq_true rfl, Nat.le_of_ble_eq_true rfl, Nat.le_of_ble_eq_true rfl⟩ (Nat.le_of_ble_eq_true rfl) dX12_on_1 ?_
  rw [inB_of hp (by omega)]
  refine V_ifeq_b (tgt := 24) dX12_on_4 rfl (fun c4 => ?_) (fun c4 => ?_)
  · exact absurd c4 (by decide) --done
  · refine V_iln dX12_on_7 rfl ?_
    refine V_cS1d hM cvX12_259 (e_X12_isDay) ⟨Nat.le_of_ble_eq_true rfl, Nat.le_of_ble_eq_true rfl, Nat.le_of_ble_eq_true rfl, Nat.le_of_ble_eq_true rfl⟩ (Nat.le_of_ble_eq_true rfl) dX12_on_8 ?_
    rw [hd]
    refine V_ifeq_b (tgt := 24) dX12_on_11 rfl (fun c11 => ?_) (fun c11 => ?_)
    · exact absurd c11 (by decide) --done
    · refine V_iln dX12_on_14 rfl ?_
      refine V_i2l dX12_on_15 ?_
      refine V_lconst (v := 0) rfl dX12_on_16 ?_
      refine V_lconst (v := 1) rfl dX12_on_17 ?_
      refine V_cS3d hM cvX12_5 (e_X12_in) ⟨Nat.le_of_ble_eq_true rfl, Nat.le_of_ble_eq_true rfl, Nat.le_of_ble_eq_true rfl, Nat.le_of_ble_eq_true rfl⟩ (Nat.le_of_ble_eq_true rfl) dX12_on_18 ?_
      rw [inJ (n := 2) rfl]
      refine V_ifne_b (tgt := 27) dX12_on_21 rfl (fun c21 => ?_) (fun c21 => ?_)
      · obtain ⟨j, hj, rfl⟩ := inB_nI c21 (by decide)
        refine V_iln dX12_on_27 rfl ?_
        refine V_if_ne (tgt := 40) dX12_on_28 rfl (fun c28 => ?_) (fun c28 => ?_)
        · refine V_aln dX12_on_40 rfl ?_
          refine V_iln dX12_on_41 rfl ?_
          refine V_iln dX12_on_42 rfl ?_
          refine V_cV2d hM cvX12_288 (by assumption) rfl (e_X12_occasionOf hV hn hn2 hp hc hc2) ⟨Nat.le_of_ble_eq_true rfl, Nat.le_of_ble_eq_true rfl, Nat.le_of_ble_eq_true rfl, Nat.le_of_ble_eq_true rfl⟩ (Nat.le_of_ble_eq_true rfl) dX12_on_43 ?_
          exact V_iret hM dX12_on_46 (⟨by first | rw [if_pos c28] | (rw [if_neg c28, if_pos (show nI j = 1 by rcases (show j = 0 ∨ j = 1 by omega) with rfl | rfl; exact absurd rfl c28; rfl)]), rfl, rfl, rfl, rfl⟩)
        · refine V_aln dX12_on_31 rfl ?_
          refine V_iln dX12_on_32 rfl ?_
          refine V_iln dX12_on_33 rfl ?_
          refine V_cV2d hM cvX12_285 (by assumption) rfl (e_X12_rankOf hV hp hcr hcr2) ⟨Nat.le_of_ble_eq_true rfl, Nat.le_of_ble_eq_true rfl, Nat.le_of_ble_eq_true rfl, Nat.le_of_ble_eq_true rfl⟩ (Nat.le_of_ble_eq_true rfl) dX12_on_34 ?_
          refine V_goto (tgt := 46) dX12_on_37 rfl ?_
          exact V_iret hM dX12_on_46 (⟨by first | rw [if_pos c28] | (rw [if_neg c28, if_pos (show nI j = 1 by rcases (show j = 0 ∨ j = 1 by omega) with rfl | rfl; exact absurd rfl c28; rfl)]), rfl, rfl, rfl, rfl⟩)
      · have e0 : ¬ w = 0 := fun h => by rw [h] at c21; cases c21
        have e1 : ¬ w = 1 := fun h => by rw [h] at c21; cases c21
        refine V_bipush (v := -2) rfl dX12_on_24 ?_
        exact V_iret hM dX12_on_26 (⟨by rw [if_neg e0, if_neg e1], rfl, rfl, rfl, rfl⟩)
theorem e_X12_onN {p day w : Int32} (hV : MW sh P) (hx : (inB p 30 && inB day 10000) = false) : Ev X B mdX12_on 0 0 [.ref (B + 35), .int p, .int day, .int w] nx sh I P (mDet (some (.int (-2))) nx sh I P) := by
  have s35 : sh 35 = some (.inl 12) := hV.1 35 _ rfl
  refine Ev.of (by decide) (by simp [Value.category]) (by simp) (fun G hM => ?_)
  have hM : mM X B "on" (some FieldType.int) 2 48 0 0 _ G := hM
  show V X B RX12 cX12_on G 0 0 nx sh I P 0 [some (.ref (B + 35)), some (.int p), some (.int day), some (.int w)] []
  refine V_iln dX12_on_0 rfl ?_
  refine V_cS1d hM cvX12_274 (e_X12_isPerson) ⟨Nat.le_of_ble_eq_true rfl, Nat.le_of_ble_eq_true rfl, Nat.le_of_ble_eq_true rfl, Nat.le_of_ble_eq_true rfl⟩ (Nat.le_of_ble_eq_true rfl) dX12_on_1 ?_
  refine V_ifeq_b (tgt := 24) dX12_on_4 rfl (fun c4 => ?_) (fun c4 => ?_)
  · refine V_bipush (v := -2) rfl dX12_on_24 ?_
    exact V_iret hM dX12_on_26 (mDet.rf)
  · refine V_iln dX12_on_7 rfl ?_
    refine V_cS1d hM cvX12_259 (e_X12_isDay) ⟨Nat.le_of_ble_eq_true rfl, Nat.le_of_ble_eq_true rfl, Nat.le_of_ble_eq_true rfl, Nat.le_of_ble_eq_true rfl⟩ (Nat.le_of_ble_eq_true rfl) dX12_on_8 ?_
    refine V_ifeq_b (tgt := 24) dX12_on_11 rfl (fun c11 => ?_) (fun c11 => ?_)
    · refine V_bipush (v := -2) rfl dX12_on_24 ?_
      exact V_iret hM dX12_on_26 (mDet.rf)
    · exact absurd hx (by rw [c4, c11]; decide) --done
end MR
