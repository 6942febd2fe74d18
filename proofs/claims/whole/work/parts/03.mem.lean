/-! ===== a flat memory over the machine's heap: cells by their offset from the base, ints and references by cell and place ===== -/
abbrev mSh : Type := Nat ⊕ (Nat × Nat)
abbrev mI : Type := Nat → Nat → Int32
abbrev mP : Type := Nat → Nat → Option Nat
def mUp {α : Type} (f : Nat → Nat → α) (c k : Nat) (v : α) : Nat → Nat → α := fun c' k' => if c' = c ∧ k' = k then v else f c' k'
def mUs (sh : Nat → Option mSh) (c : Nat) (z : mSh) : Nat → Option mSh := fun c' => if c' = c then some z else sh c'
/-- a row of zeros, of nulls, for a new cell -/
def mNI (f : mI) (c : Nat) : mI := fun c' k' => if c' = c then 0 else f c' k'
def mNP (f : mP) (c : Nat) : mP := fun c' k' => if c' = c then none else f c' k'
theorem mUp_s {α : Type} {f : Nat → Nat → α} {c k : Nat} {v : α} : mUp f c k v c k = v := by simp [mUp]
theorem mUp_c {α : Type} {f : Nat → Nat → α} {c k c' k' : Nat} {v : α} (h : c' ≠ c) : mUp f c k v c' k' = f c' k' := by simp [mUp, h]
theorem mUp_k {α : Type} {f : Nat → Nat → α} {c k c' k' : Nat} {v : α} (h : k' ≠ k) : mUp f c k v c' k' = f c' k' := by simp [mUp, h]
/-- what is fixed: the classes' numbers and slots; the array classes; the heap at the law's entry; where the texts and their bytes lie -/
abbrev mX : Type := va_G × (Nat → ClassId) × Heap × (Nat → Nat) × (Nat → Nat) × Launch
def mRf (B : Nat) (o : Option Nat) : Value := match o with
  | none => .null
  | some c => .ref (B + c)
/-- which fields hold references -/
def mIsR (ci k : Nat) : Bool := (([[1], [0], [0], [0], [], [0, 1], [0, 1, 2], [], [0], [2], [0, 1, 2, 3, 4, 5, 6, 8, 10, 11, 12, 14, 15, 16], [], [1, 2, 3, 4, 5, 6, 7, 8, 9, 10, 11, 12, 13, 23, 24, 25, 26, 27, 28, 29, 30, 34, 35, 36, 37, 38, 39, 40, 41, 42, 43, 44, 47, 48, 49, 50, 51, 52, 53, 54]] : List (List Nat)).getD ci []).contains k
def mF (ci B : Nat) (I : mI) (P : mP) (c : Nat) : Nat → Value := fun k => bif mIsR ci k then mRf B (P c k) else .int (I c k)
def mA (t B : Nat) (I : mI) (P : mP) (c : Nat) : Nat → Value := fun j => bif Nat.blt t 2 then .int (I c j) else mRf B (P c j)
def mTyOf (t : Nat) : FieldType := match t with
  | 0 => .int
  | 1 => .byte
  | 2 => .object RX3
  | 3 => .object RX4
  | 4 => .object RX0
  | _ => .object RX7
def mElem (t : Nat) : Nat := match t with
  | 2 => 3
  | 3 => 4
  | 4 => 0
  | _ => 7
abbrev mTys (dA : Nat → ClassId) : List (ClassId × FieldType) := [(dA 0, mTyOf 0), (dA 1, mTyOf 1), (dA 2, mTyOf 2), (dA 3, mTyOf 3), (dA 4, mTyOf 4), (dA 5, mTyOf 5)]
def mOk (X : mX) (B : Nat) (I : mI) (P : mP) (H : Heap) (c : Nat) (z : mSh) : Prop := match z with
  | .inl ci => ∃ (r : vw_C) (V : Nat → Value), vwCl[ci]? = some r ∧ t_OB (B + c) (X.1.1 ci) r.2.2 (X.1.2 ci) H V ∧ (ci ≠ 11 → ∀ k, k < r.2.2 → V k = mF ci B I P c k)
  | .inr a => a.1 < 6 ∧ H[B + c]? = some (arrV (X.2.1 a.1) a.2 (mA a.1 B I P c))
def mRel (X : mX) (B nx : Nat) (sh : Nat → Option mSh) (I : mI) (P : mP) (H : Heap) : Prop :=
  H.size = B + nx ∧ (∀ q : Nat, q < B → H[q]? = X.2.2.1[q]?) ∧ ∀ (c : Nat) (z : mSh), sh c = some z → mOk X B I P H c z
theorem mOk.lt {X : mX} {B : Nat} {I : mI} {P : mP} {H : Heap} {c : Nat} {z : mSh} (h : mOk X B I P H c z) : B + c < H.size := by
  cases z with
  | inl ci =>
    obtain ⟨r, V, -, ⟨cell, h1, -⟩, -⟩ := h
    exact (Array.getElem?_eq_some_iff.mp h1).1
  | inr a => exact (Array.getElem?_eq_some_iff.mp h.2).1
theorem mRel.lt {X : mX} {B nx : Nat} {sh : Nat → Option mSh} {I : mI} {P : mP} {H : Heap} (h : mRel X B nx sh I P H) {c : Nat} {z : mSh} (hc : sh c = some z) : c < nx := by
  have h1 := (h.2.2 c z hc).lt
  have h2 := h.1
  omega
/-- a cell that nobody touched -/
theorem mOk.kept {X : mX} {B : Nat} {I I' : mI} {P P' : mP} {H H' : Heap} {c : Nat} {z : mSh} (h : mOk X B I P H c z) (hq : H'[B + c]? = H[B + c]?) (hI : ∀ k, I' c k = I c k) (hP : ∀ k, P' c k = P c k) : mOk X B I' P' H' c z := by
  cases z with
  | inl ci =>
    obtain ⟨r, V, h1, h2, h3⟩ := h
    exact ⟨r, V, h1, h2.kept hq, fun hn k hk => by rw [h3 hn k hk]; simp [mF, hI, hP]⟩
  | inr a =>
    refine ⟨h.1, ?_⟩
    rw [hq, h.2]
    congr 2
    funext j
    simp [mA, hI, hP]
/-- one cell is written -/
theorem mRel.put {X : mX} {B nx : Nat} {sh : Nat → Option mSh} {I I' : mI} {P P' : mP} {H H' : Heap} {c : Nat} (h : mRel X B nx sh I P H) (hz : H'.size = H.size) (ho : ∀ q : Nat, q ≠ B + c → H'[q]? = H[q]?)
    (hI : ∀ c' k, c' ≠ c → I' c' k = I c' k) (hP : ∀ c' k, c' ≠ c → P' c' k = P c' k) (hc : ∀ z, sh c = some z → mOk X B I' P' H' c z) : mRel X B nx sh I' P' H' := by
  refine ⟨hz.trans h.1, fun q hq => (ho q (by omega)).trans (h.2.1 q hq), fun c' z hz' => ?_⟩
  by_cases e : c' = c
  · subst e
    exact hc z hz'
  · exact (h.2.2 c' z hz').kept (ho _ (by omega)) (fun k => hI c' k e) (fun k => hP c' k e)
/-- one cell is new -/
theorem mRel.new {X : mX} {B nx : Nat} {sh : Nat → Option mSh} {I I' : mI} {P P' : mP} {H H' : Heap} {z : mSh} (h : mRel X B nx sh I P H) (hz : H'.size = H.size + 1) (ho : ∀ q : Nat, q < H.size → H'[q]? = H[q]?)
    (hI : ∀ c' k, c' ≠ nx → I' c' k = I c' k) (hP : ∀ c' k, c' ≠ nx → P' c' k = P c' k) (hc : mOk X B I' P' H' nx z) : mRel X B (nx + 1) (mUs sh nx z) I' P' H' := by
  refine ⟨by have := h.1; omega, fun q hq => (ho q (by have := h.1; omega)).trans (h.2.1 q hq), fun c' z' hz' => ?_⟩
  by_cases e : c' = nx
  · subst e
    simp [mUs] at hz'
    subst hz'
    exact hc
  · simp [mUs, e] at hz'
    have h1 := (h.2.2 c' z' hz').lt
    exact (h.2.2 c' z' hz').kept (ho _ h1) (fun k => hI c' k e) (fun k => hP c' k e)
/-- the words of the tables that stay good -/
def mW : List Cond := lw_tbl.filter goodWord
theorem mW_in {w : Cond} (h : w ∈ lw_tbl) (g : goodWord w = true) : w ∈ mW := List.mem_filter.mpr ⟨h, g⟩
theorem mW_good : GoodIn mW mW := fun w h => ⟨h, good_of_word (List.mem_filter.mp h).2⟩
/-- a word by its place in the tables -/
theorem mW_at {w : Cond} (i : Nat) (h : tables_1[i]? = some w) (g : goodWord w = true) : w ∈ mW := mW_in (List.mem_append_right _ (List.mem_of_getElem? h)) g
theorem mW_sel {w : Cond} (i : Nat) (h : (k2_sels lw_privs)[i]? = some w) (g : goodWord w = true) : w ∈ mW := mW_in (List.mem_append_left _ (List.mem_of_getElem? h)) g
/-- the words on private members of nest mates -/
def mIsN : Cond → Bool
  | .fieldLinkNest .. => true
  | .methodLinkNest .. => true
  | _ => false
def mN : List Cond := tables_1.filter mIsN
theorem mN_at {w : Cond} (i : Nat) (h : tables_1[i]? = some w) (g : mIsN w = true) : w ∈ mN := List.mem_filter.mpr ⟨List.mem_of_getElem? h, g⟩
theorem mN_warm {s U : State} (hW : s.WarmedH U.vm) (h : ∀ w ∈ mN, va_Nw w s) : ∀ w ∈ mN, va_Nw w U := by
  intro w hw
  have h1 := h w hw
  have h2 := (List.mem_filter.mp hw).2
  cases w <;> simp [mIsN] at h2
  · exact va_Nw.warmM hW h1
  · exact va_Nw.warmF hW h1
/-- String constants: who names them, their bytes -/
def mSr : List (String × Nat × String) := [("GownCourt$Reader", 159, "sleeve"), ("GownCourt$Reader", 161, "train"), ("GownCourt$Reader", 163, "pearls"), ("GownCourt$Reader", 165, "chain"), ("GownCourt$Reader", 167, "cost"), ("GownCourt$Reader", 169, "stuff"), ("GownCourt$Reader", 171, "colour"), ("GownCourt$Reader", 173, "must"), ("GownCourt$Reader", 148, "repeal"), ("GownCourt$Reader", 154, "seal"), ("GownCourt$Reader", 155, "part"), ("GownCourt$Reader", 175, "all"), ("GownCourt$Reader", 177, "ranks"), ("GownCourt$Reader", 111, "to"), ("GownCourt$Reader", 182, "daily"), ("GownCourt$Reader", 184, "feast"), ("GownCourt$Reader", 186, "wedding"), ("GownCourt$Reader", 188, "always"), ("GownCourt$Reader", 120, "fine"), ("GownCourtModel", 72, "sleeve"), ("GownCourtModel", 74, "train"), ("GownCourtModel", 76, "pearls"), ("GownCourtModel", 78, "chain"), ("GownCourtModel", 80, "cost"), ("GownCourtModel", 82, "stuff"), ("GownCourtModel", 84, "colour"), ("GownCourtModel", 86, "must"), ("GownCourtModel", 138, "all"), ("GownCourtModel", 140, "ranks"), ("GownCourtModel", 146, "to"), ("GownCourtModel", 151, "daily"), ("GownCourtModel", 153, "feast"), ("GownCourtModel", 155, "wedding"), ("GownCourtModel", 157, "always"), ("GownCourtModel", 159, "fine"), ("GownCourtModel", 116, "repeal"), ("GownCourtModel", 125, "seal"), ("GownCourtModel", 126, "part")]
def mBy : List (List Int32) := [[115, 108, 101, 101, 118, 101], [116, 114, 97, 105, 110], [112, 101, 97, 114, 108, 115], [99, 104, 97, 105, 110], [99, 111, 115, 116], [115, 116, 117, 102, 102], [99, 111, 108, 111, 117, 114], [109, 117, 115, 116], [114, 101, 112, 101, 97, 108], [115, 101, 97, 108], [112, 97, 114, 116], [97, 108, 108], [114, 97, 110, 107, 115], [116, 111], [100, 97, 105, 108, 121], [102, 101, 97, 115, 116], [119, 101, 100, 100, 105, 110, 103], [97, 108, 119, 97, 121, 115], [102, 105, 110, 101], [115, 108, 101, 101, 118, 101], [116, 114, 97, 105, 110], [112, 101, 97, 114, 108, 115], [99, 104, 97, 105, 110], [99, 111, 115, 116], [115, 116, 117, 102, 102], [99, 111, 108, 111, 117, 114], [109, 117, 115, 116], [97, 108, 108], [114, 97, 110, 107, 115], [116, 111], [100, 97, 105, 108, 121], [102, 101, 97, 115, 116], [119, 101, 100, 100, 105, 110, 103], [97, 108, 119, 97, 121, 115], [102, 105, 110, 101], [114, 101, 112, 101, 97, 108], [115, 101, 97, 108], [112, 97, 114, 116]]
def mLe : List Nat := [6, 5, 6, 5, 4, 5, 6, 4, 6, 4, 4, 3, 5, 2, 5, 5, 7, 6, 4, 6, 5, 6, 5, 4, 5, 6, 4, 3, 5, 2, 5, 5, 7, 6, 4, 6, 4, 4]
abbrev mNT : Nat := 38
def mS (aK aV : Nat → Nat) (A : Nat → Prop) (U : State) (H : Heap) : Prop :=
  ∀ i : Nat, i < mNT → va_O "java/lang/String" (aK i) A U H ∧ va_OF "java/lang/String" "coder" "B" (.int 0) (aK i) A U H ∧ va_OF "java/lang/String" "value" "[B" (.ref (aV i)) (aK i) A U H ∧ va_T .byte (aV i) (mLe.getD i 0) (fun j => .int ((mBy.getD i []).getD j 0)) A U H
theorem mS.moved {aK aV : Nat → Nat} {A : Nat → Prop} {u U : State} {H : Heap} (hvm : u.vm.Alike U.vm) (h : mS aK aV A u H) : mS aK aV A U H :=
  fun i hi => ⟨va_O.moved hvm (h i hi).1, va_OF.moved hvm (h i hi).2.1, va_OF.moved hvm (h i hi).2.2.1, va_T.moved hvm (h i hi).2.2.2⟩
/-- statics that hold one number, or a reference that nobody looks at -/
def mZi : List (String × String × String × Int32) := [("java/lang/String", "COMPACT_STRINGS", "Z", 1)]
def mZq : List (String × String × String) := [("java/lang/Throwable", "UNASSIGNED_STACK", "[Ljava/lang/StackTraceElement;"), ("java/lang/Throwable", "SUPPRESSED_SENTINEL", "Ljava/util/List;"), ("jdk/internal/util/Preconditions", "SIOOBE_FORMATTER", "Ljava/util/function/BiFunction;")]
def mK (X : mX) (B : Nat) (U : State) : Prop :=
  va_K X.1 vwCl (mTys X.2.1) U ∧ (∀ w ∈ mN, va_Nw w U) ∧ mS X.2.2.2.1 X.2.2.2.2.1 (fun q => B ≤ q) U X.2.2.1 ∧ (∀ (i : Nat) (r : String × Nat × String), mSr[i]? = some r → vk_R r.1 r.2.1 r.2.2 (X.2.2.2.1 i) U) ∧
  (∀ r ∈ mZi, va_Z r.1 r.2.1 r.2.2.1 (.int r.2.2.2) (fun q => B ≤ q) U X.2.2.1) ∧ (∀ r ∈ mZq, va_Zq r.1 r.2.1 r.2.2 (fun q => B ≤ q) U X.2.2.1) ∧ (∀ t, 2 ≤ t → t < 6 → va_AO (vwCl.getD (mElem t) (RX0, TX0, 0)).1 U) ∧ X.2.2.1.size = B
theorem mK.warm {X : mX} {B : Nat} {s U : State} (hW : s.WarmedH U.vm) (h : mK X B s) : mK X B U :=
  ⟨va_K.moved hW.alike h.1, mN_warm hW h.2.1, mS.moved hW.alike h.2.2.1, fun i r hr => vk_R.warm hW (h.2.2.2.1 i r hr), fun r hr => va_Z.moved hW.alike (h.2.2.2.2.1 r hr), fun r hr => va_Zq.moved hW.alike (h.2.2.2.2.2.1 r hr), fun t h1 h2 => va_AO.moved hW.alike (h.2.2.2.2.2.2.1 t h1 h2), h.2.2.2.2.2.2.2⟩
theorem mK.same {X : mX} {B : Nat} {s U : State} (hv : U.vm = s.vm) (h : mK X B s) : mK X B U := by
  have ha : s.vm.Alike U.vm := by rw [hv]; exact Vm.Alike.refl _
  refine ⟨va_K.moved ha h.1, fun w hw => ?_, mS.moved ha h.2.2.1, fun i r hr => vk_R.same hv (h.2.2.2.1 i r hr), fun r hr => va_Z.moved ha (h.2.2.2.2.1 r hr), fun r hr => va_Zq.moved ha (h.2.2.2.2.2.1 r hr), fun t h1 h2 => va_AO.moved ha (h.2.2.2.2.2.2.1 t h1 h2), h.2.2.2.2.2.2.2⟩
  have h1 := h.2.1 w hw
  have h2 := (List.mem_filter.mp hw).2
  cases w <;> simp [mIsN] at h2
  · exact va_Nw.same rfl hv.symm h1
  · exact va_Nw.same rfl hv.symm h1
