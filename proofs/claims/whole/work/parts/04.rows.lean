/-! ===== the judgement V: from here the method runs to its end, over the flat memory ===== -/
abbrev mG : Type := Program × Env × Room × State × MethodId × Array Value × List Frame × Method × Code × (State → Prop)
abbrev mPo : Type := Option Value → Nat → (Nat → Option mSh) → mI → mP → Prop
def mLs (c : Code) (la : Array Slot) (ls : List (Option Value)) : Prop := la.size = c.maxLocals ∧ ls.length = la.size ∧ lv_wf la ∧ ∀ (i : Nat) (v : Value), ls[i]? = some (some v) → la[i]? = some (.val v) ∧ v.category = 1
def mCx (X : mX) (B : Nat) (own : String) (cc : ByteArray) (p : Program) (s : State) (m : MethodId) (args : Array Value) (meth : Method) (c : Code) : Prop :=
  p.tables.exec = Jvm.exec ∧ c.code = cc ∧ s.vm.findClass own = some m.cls ∧ (∀ w ∈ mW, w.before args s = true) ∧ mK X B s ∧ meth.locks = false
def V (X : mX) (B : Nat) (own : String) (cc : ByteArray) (G : mG) (nc ns nx : Nat) (sh : Nat → Option mSh) (I : mI) (P : mP) (pc : Nat) (ls : List (Option Value)) (st : List Value) : Prop := match G with
  | (p, e, R, s, m, args, below, meth, c, Q) => mCx X B own cc p s m args meth c → ∀ (H : Heap) (locs : List Loc) (la : Array Slot), mRel X B nx sh I P H → (∀ q ∈ locs, B ≤ q.base) → mLs c la ls → W p X.2.2.2.2.2 e R s m args below meth c H locs nc ns Q (F0 m pc la st)
def mQc (X : mX) (B : Nat) (Po : mPo) : Array Value → State → Outcome → State → Prop := fun _ _ o t => ∃ (v : Option Value) (nx : Nat) (sh : Nat → Option mSh) (I : mI) (P : mP), o = .returned v ∧ Po v nx sh I P ∧ mRel X B nx sh I P t.heap
/-- the method that runs: its answer's type, its room, what its end must meet -/
def mM (X : mX) (B : Nat) (nm : String) (ret : Option FieldType) (fr lo mc ms : Nat) (Po : mPo) (G : mG) : Prop := match G with
  | (p, e, R, s, m, args, below, meth, c, Q) => meth.sig.returnType = ret ∧ R.frames = fr ∧ R.locals = lo ∧ R.cells = mc ∧ R.slots = ms ∧ meth.name = nm ∧ ∀ t, MQ below (mQc X B Po) args s mc ms (fun q => B ≤ q) t → Q t
def mPc (X : mX) (B : Nat) (av : List Value) (nx : Nat) (sh : Nat → Option mSh) (I : mI) (P : mP) : Array Value → State → Prop := va_Pc av (fun U => mRel X B nx sh I P U.heap ∧ mK X B U)
/-- a method: name, code, locals, answer, frames, locals of all below -/
abbrev mMd : Type := MethodName × ByteArray × Nat × Option FieldType × Nat × Nat
/-- THE CONTRACT: from this memory, at these arguments, the method ends as Po says -/
def Ev (X : mX) (B : Nat) (d : mMd) (mc ms : Nat) (av : List Value) (nx : Nat) (sh : Nat → Option mSh) (I : mI) (P : mP) (Po : mPo) : Prop :=
  Met X.2.2.2.2.2 d.1 (Cond.code d.1 d.2.1 d.2.2.1 d.2.2.2.1 :: mW) { frames := d.2.2.2.2.1, cells := mc, slots := ms, locals := d.2.2.2.2.2 } (mPc X B av nx sh I P) (mQc X B Po) mc ms (fun q => B ≤ q)
theorem Ev.weaken {X : mX} {B : Nat} {d : mMd} {mc ms : Nat} {av : List Value} {nx : Nat} {sh : Nat → Option mSh} {I : mI} {P : mP} {Po Po' : mPo} (h : Ev X B d mc ms av nx sh I P Po) (k : ∀ o nx sh I P, Po o nx sh I P → Po' o nx sh I P) : Ev X B d mc ms av nx sh I P Po' := by
  intro p e ha hc hk s m args below h1 h2 h3 h4
  obtain ⟨k9, o, a1, a2, a3, ⟨v, nx', sh', I', P', b0, b1, b2⟩, a4⟩ := h p e ha hc hk s m args below h1 h2 h3 h4
  exact ⟨k9, o, a1, a2, a3, ⟨v, nx', sh', I', P', b0, k _ _ _ _ _ b1, b2⟩, a4⟩
theorem mLs_entry {c : Code} {n : Nat} (hml : c.maxLocals = n) (av : List Value) (hc : ∀ v ∈ av, v.category = 1) (hn : av.length ≤ n) : mLs c ((lg_sl av ++ List.replicate (n - (lg_sl av).length) Slot.unset).toArray) (av.map some ++ List.replicate (n - av.length) none) := by
  have e : lg_sl av = av.map Slot.val := by
    unfold lg_sl
    clear hn
    induction av with
    | nil => rfl
    | cons v l ih =>
      rw [List.flatMap_cons, ih (fun v h => hc v (List.mem_cons_of_mem _ h)), if_neg (by rw [hc v List.mem_cons_self]; decide)]
      rfl
  rw [e]
  refine ⟨by simp [hml]; omega, by simp, ⟨fun i v hi hv => ?_, fun i hi => ?_⟩, fun i v hi => ?_⟩
  · simp only [List.getElem?_toArray] at hi
    by_cases hl : i < av.length
    · rw [List.getElem?_append_left (by simpa using hl), List.getElem?_map] at hi
      cases hg : av[i]? with
      | none => rw [hg] at hi; cases hi
      | some w =>
        rw [hg] at hi
        have hw := hc w (List.mem_of_getElem? hg)
        cases hi
        rw [hv] at hw
        cases hw
    · rw [List.getElem?_append_right (by simpa using hl), List.getElem?_replicate] at hi
      split at hi <;> cases hi
  · simp only [List.getElem?_toArray] at hi
    by_cases hl : i < av.length
    · rw [List.getElem?_append_left (by simpa using hl), List.getElem?_map] at hi
      cases hg : av[i]? with
      | none => rw [hg] at hi; cases hi
      | some w => rw [hg] at hi; cases hi
    · rw [List.getElem?_append_right (by simpa using hl), List.getElem?_replicate] at hi
      split at hi <;> cases hi
  · by_cases hl : i < av.length
    · rw [List.getElem?_append_left (by simpa using hl), List.getElem?_map] at hi
      cases hg : av[i]? with
      | none => rw [hg] at hi; cases hi
      | some w =>
        rw [hg] at hi
        cases hi
        refine ⟨?_, hc _ (List.mem_of_getElem? hg)⟩
        rw [List.getElem?_toArray, List.getElem?_append_left (by simpa using hl), List.getElem?_map, hg]
        rfl
    · rw [List.getElem?_append_right (by simpa using hl), List.getElem?_replicate] at hi
      split at hi <;> cases hi
/-- a contract out of the walk of the body -/
theorem Ev.of {X : mX} {B : Nat} {d : mMd} {mc ms : Nat} {av : List Value} {nx : Nat} {sh : Nat → Option mSh} {I : mI} {P : mP} {Po : mPo} (hy : plainName d.1.cls = true) (hc : ∀ v ∈ av, v.category = 1) (hn : av.length ≤ d.2.2.1)
    (h : ∀ G : mG, mM X B d.1.name d.2.2.2.1 d.2.2.2.2.1 d.2.2.2.2.2 mc ms Po G → V X B d.1.cls d.2.1 G 0 0 nx sh I P 0 (av.map some ++ List.replicate (d.2.2.1 - av.length) none) []) : Ev X B d mc ms av nx sh I P Po := by
  obtain ⟨y, cc, maxL, ret, fr, lo⟩ := d
  refine Met.ofW (cc := cc) (maxL := maxL) (ret := ret) hy rfl ?_
  intro p e s m args below meth c s₁ Bd hml hv
  obtain ⟨rfl, hR, hK⟩ := hv
  have hts := atoms_spec (ws := Cond.code y cc maxL ret :: mW) Bd.pre
  have hown : s.vm.findClass y.cls = some m.cls := findClass_of_methodNamed Bd.named
  have hnm : meth.name = y.name := (name_of_methodNamed Bd.named Bd.method).1
  have h1 := h (p, e, { frames := fr, cells := mc, slots := ms, locals := lo }, s, m, av.toArray, below, meth, c, MQ below (mQc X B Po) av.toArray s mc ms (fun q => B ≤ q)) ⟨Bd.returns, rfl, rfl, rfl, rfl, hnm, fun _ h => h⟩ ⟨Bd.exec, Bd.bytes, hown, fun w hw => hts w (List.mem_cons_of_mem _ hw), hK, Bd.notSynchronized⟩ s.heap [] _ hR (fun q h => by cases h) (mLs_entry hml av hc hn)
  rw [lg_entry_eq]
  exact h1
section VR
variable {X : mX} {B : Nat} {own : String} {cc : ByteArray} {G : mG} {nc ns nx : Nat} {sh : Nat → Option mSh} {I : mI} {P : mP} {pc : Nat} {ls : List (Option Value)} {st : List Value}
theorem V.widen {a b : Nat} (h1 : nc ≤ a) (h2 : ns ≤ b) (k : V X B own cc G a b nx sh I P pc ls st) : V X B own cc G nc ns nx sh I P pc ls st := by
  obtain ⟨p, e, R, s, m, args, below, meth, c, Q⟩ := G
  intro C H locs la hR hL hl
  exact W.widen h1 h2 (k C H locs la hR hL hl)
/-- the memory is as well another one that agrees on all cells -/
theorem mRel.to {H : Heap} {I' : mI} {P' : mP} (h : mRel X B nx sh I P H) (hI : ∀ c k, I c k = I' c k) (hP : ∀ c k, P c k = P' c k) : mRel X B nx sh I' P' H :=
  ⟨h.1, h.2.1, fun c z hz => (h.2.2 c z hz).kept rfl (fun k => (hI c k).symm) (fun k => (hP c k).symm)⟩
theorem mLs.at {c : Code} {la : Array Slot} (h : mLs c la ls) {i : Nat} {v : Value} (hi : ls[i]? = some (some v)) : la[i]? = some (.val v) := (h.2.2.2 i v hi).1
theorem mLs.store {c : Code} {la : Array Slot} (h : mLs c la ls) {i : Nat} {v : Value} (hi : i < ls.length) (hv : v.category = 1) : ∃ la', storeLocals la i v = some la' ∧ mLs c la' (ls.set i (some v)) := by
  have hn : i < c.maxLocals := by rw [← h.1, ← h.2.1]; exact hi
  obtain ⟨la', e1, h1⟩ := lv_store1 (l := []) (i := i) (v := v) ⟨h.1, h.2.2.1, fun q hq => by cases hq⟩ hn hv
  refine ⟨la', e1, h1.1, by rw [List.length_set, h.2.1, h.1, h1.1], h1.2.1, fun j w hj => ?_⟩
  by_cases hji : j = i
  · subst hji
    rw [List.getElem?_set_self hi] at hj
    cases hj
    exact ⟨h1.2.2 (j, v) List.mem_cons_self, hv⟩
  · rw [List.getElem?_set_ne (Ne.symm hji)] at hj
    obtain ⟨q1, q2⟩ := h.2.2.2 j w hj
    obtain ⟨la2, e2, h2⟩ := lv_store1 (l := [(j, w)]) (i := i) (v := v) ⟨h.1, h.2.2.1, fun q hq => by rw [List.mem_singleton.mp hq]; exact q1⟩ hn hv
    cases e1.symm.trans e2
    refine ⟨h2.2.2 (j, w) (List.mem_cons_of_mem _ (List.mem_filter.mpr ⟨List.mem_singleton.mpr rfl, ?_⟩)), q2⟩
    simp [hji, q2]

theorem V_iadd {x y : Int32} (hd : decode cc pc = .ok (.iadd, 1)) (k : V X B own cc G nc ns nx sh I P (pc + 1) ls (.int (x + y) :: st)) : V X B own cc G nc ns nx sh I P pc ls (.int y :: .int x :: st) := by
  obtain ⟨p, e, R, s, m, args, below, meth, c, Q⟩ := G
  intro C H locs la hR hL hl
  exact lv_iadd C.1 C.2.1 hd (k C H locs la hR hL hl)
theorem V_isub {x y : Int32} (hd : decode cc pc = .ok (.isub, 1)) (k : V X B own cc G nc ns nx sh I P (pc + 1) ls (.int (x - y) :: st)) : V X B own cc G nc ns nx sh I P pc ls (.int y :: .int x :: st) := by
  obtain ⟨p, e, R, s, m, args, below, meth, c, Q⟩ := G
  intro C H locs la hR hL hl
  exact lv_isub C.1 C.2.1 hd (k C H locs la hR hL hl)
theorem V_imul {x y : Int32} (hd : decode cc pc = .ok (.imul, 1)) (k : V X B own cc G nc ns nx sh I P (pc + 1) ls (.int (x * y) :: st)) : V X B own cc G nc ns nx sh I P pc ls (.int y :: .int x :: st) := by
  obtain ⟨p, e, R, s, m, args, below, meth, c, Q⟩ := G
  intro C H locs la hR hL hl
  exact lv_imul C.1 C.2.1 hd (k C H locs la hR hL hl)
theorem V_iand {x y : Int32} (hd : decode cc pc = .ok (.iand, 1)) (k : V X B own cc G nc ns nx sh I P (pc + 1) ls (.int (x &&& y) :: st)) : V X B own cc G nc ns nx sh I P pc ls (.int y :: .int x :: st) := by
  obtain ⟨p, e, R, s, m, args, below, meth, c, Q⟩ := G
  intro C H locs la hR hL hl
  exact lv_iand C.1 C.2.1 hd (k C H locs la hR hL hl)
theorem V_ior {x y : Int32} (hd : decode cc pc = .ok (.ior, 1)) (k : V X B own cc G nc ns nx sh I P (pc + 1) ls (.int (x ||| y) :: st)) : V X B own cc G nc ns nx sh I P pc ls (.int y :: .int x :: st) := by
  obtain ⟨p, e, R, s, m, args, below, meth, c, Q⟩ := G
  intro C H locs la hR hL hl
  exact lv_ior C.1 C.2.1 hd (k C H locs la hR hL hl)
theorem V_ixor {x y : Int32} (hd : decode cc pc = .ok (.ixor, 1)) (k : V X B own cc G nc ns nx sh I P (pc + 1) ls (.int (x ^^^ y) :: st)) : V X B own cc G nc ns nx sh I P pc ls (.int y :: .int x :: st) := by
  obtain ⟨p, e, R, s, m, args, below, meth, c, Q⟩ := G
  intro C H locs la hR hL hl
  exact lv_ixor C.1 C.2.1 hd (k C H locs la hR hL hl)
theorem V_lsub {x y : Int64} (hd : decode cc pc = .ok (.lsub, 1)) (k : V X B own cc G nc ns nx sh I P (pc + 1) ls (.long (x - y) :: st)) : V X B own cc G nc ns nx sh I P pc ls (.long y :: .long x :: st) := by
  obtain ⟨p, e, R, s, m, args, below, meth, c, Q⟩ := G
  intro C H locs la hR hL hl
  exact lv_lsub C.1 C.2.1 hd (k C H locs la hR hL hl)
theorem V_lmul {x y : Int64} (hd : decode cc pc = .ok (.lmul, 1)) (k : V X B own cc G nc ns nx sh I P (pc + 1) ls (.long (x * y) :: st)) : V X B own cc G nc ns nx sh I P pc ls (.long y :: .long x :: st) := by
  obtain ⟨p, e, R, s, m, args, below, meth, c, Q⟩ := G
  intro C H locs la hR hL hl
  exact lv_lmul C.1 C.2.1 hd (k C H locs la hR hL hl)
theorem V_ldiv {x y : Int64} (hne : ¬ y = 0) (hd : decode cc pc = .ok (.ldiv, 1)) (k : V X B own cc G nc ns nx sh I P (pc + 1) ls (.long (x / y) :: st)) : V X B own cc G nc ns nx sh I P pc ls (.long y :: .long x :: st) := by
  obtain ⟨p, e, R, s, m, args, below, meth, c, Q⟩ := G
  intro C H locs la hR hL hl
  exact lv_ldiv C.1 C.2.1 hd hne (k C H locs la hR hL hl)
theorem V_iconst {n : Int} {v : Int32} (hv : Int32.ofInt n = v) (hd : decode cc pc = .ok (.iconst n, 1)) (k : V X B own cc G nc ns nx sh I P (pc + 1) ls (.int v :: st)) : V X B own cc G nc ns nx sh I P pc ls (st) := by
  obtain ⟨p, e, R, s, m, args, below, meth, c, Q⟩ := G
  intro C H locs la hR hL hl
  exact lv_iconst C.1 C.2.1 hd hv (k C H locs la hR hL hl)
theorem V_bipush {n : Int} {v : Int32} (hv : (Int8.ofInt n).toInt32 = v) (hd : decode cc pc = .ok (.bipush n, 2)) (k : V X B own cc G nc ns nx sh I P (pc + 2) ls (.int v :: st)) : V X B own cc G nc ns nx sh I P pc ls (st) := by
  obtain ⟨p, e, R, s, m, args, below, meth, c, Q⟩ := G
  intro C H locs la hR hL hl
  exact lv_bipush C.1 C.2.1 hd hv (k C H locs la hR hL hl)
theorem V_sipush {n : Int} {v : Int32} (hv : (Int16.ofInt n).toInt32 = v) (hd : decode cc pc = .ok (.sipush n, 3)) (k : V X B own cc G nc ns nx sh I P (pc + 3) ls (.int v :: st)) : V X B own cc G nc ns nx sh I P pc ls (st) := by
  obtain ⟨p, e, R, s, m, args, below, meth, c, Q⟩ := G
  intro C H locs la hR hL hl
  exact lv_sipush C.1 C.2.1 hd hv (k C H locs la hR hL hl)
theorem V_lconst {n : Fin 2} {v : Int64} (hv : Int64.ofNat (n : Nat) = v) (hd : decode cc pc = .ok (.lconst n, 1)) (k : V X B own cc G nc ns nx sh I P (pc + 1) ls (.long v :: st)) : V X B own cc G nc ns nx sh I P pc ls (st) := by
  obtain ⟨p, e, R, s, m, args, below, meth, c, Q⟩ := G
  intro C H locs la hR hL hl
  exact lv_lconst C.1 C.2.1 hd hv (k C H locs la hR hL hl)
theorem V_ishl {x y : Int32} (hd : decode cc pc = .ok (.ishl, 1)) (k : V X B own cc G nc ns nx sh I P (pc + 1) ls (.int (x <<< (y &&& 31)) :: st)) : V X B own cc G nc ns nx sh I P pc ls (.int y :: .int x :: st) := by
  obtain ⟨p, e, R, s, m, args, below, meth, c, Q⟩ := G
  intro C H locs la hR hL hl
  exact lv_ishl C.1 C.2.1 hd (k C H locs la hR hL hl)
theorem V_ishr {x y : Int32} (hd : decode cc pc = .ok (.ishr, 1)) (k : V X B own cc G nc ns nx sh I P (pc + 1) ls (.int (x >>> (y &&& 31)) :: st)) : V X B own cc G nc ns nx sh I P pc ls (.int y :: .int x :: st) := by
  obtain ⟨p, e, R, s, m, args, below, meth, c, Q⟩ := G
  intro C H locs la hR hL hl
  exact lv_ishr C.1 C.2.1 hd (k C H locs la hR hL hl)
def mUshr (x y : Int32) : Int32 := (x.toUInt32 >>> (y.toUInt32 &&& Int32.toUInt32 31)).toInt32
theorem V_iushr {x y : Int32} (hd : decode cc pc = .ok (.iushr, 1)) (k : V X B own cc G nc ns nx sh I P (pc + 1) ls (.int (mUshr x y) :: st)) : V X B own cc G nc ns nx sh I P pc ls (.int y :: .int x :: st) := by
  obtain ⟨p, e, R, s, m, args, below, meth, c, Q⟩ := G
  intro C H locs la hR hL hl
  exact lv_iushr C.1 C.2.1 hd rfl (k C H locs la hR hL hl)
theorem V_i2l {x : Int32} (hd : decode cc pc = .ok (.i2l, 1)) (k : V X B own cc G nc ns nx sh I P (pc + 1) ls (.long x.toInt64 :: st)) : V X B own cc G nc ns nx sh I P pc ls (.int x :: st) := by
  obtain ⟨p, e, R, s, m, args, below, meth, c, Q⟩ := G
  intro C H locs la hR hL hl
  exact lv_i2l C.1 C.2.1 hd rfl (k C H locs la hR hL hl)
theorem V_l2i {x : Int64} (hd : decode cc pc = .ok (.l2i, 1)) (k : V X B own cc G nc ns nx sh I P (pc + 1) ls (.int x.toInt32 :: st)) : V X B own cc G nc ns nx sh I P pc ls (.long x :: st) := by
  obtain ⟨p, e, R, s, m, args, below, meth, c, Q⟩ := G
  intro C H locs la hR hL hl
  exact lv_l2i C.1 C.2.1 hd rfl (k C H locs la hR hL hl)
theorem V_i2b {x : Int32} (hd : decode cc pc = .ok (.i2b, 1)) (k : V X B own cc G nc ns nx sh I P (pc + 1) ls (.int x.toInt8.toInt32 :: st)) : V X B own cc G nc ns nx sh I P pc ls (.int x :: st) := by
  obtain ⟨p, e, R, s, m, args, below, meth, c, Q⟩ := G
  intro C H locs la hR hL hl
  exact lv_i2b C.1 C.2.1 hd rfl (k C H locs la hR hL hl)
theorem V_i2c {x : Int32} (hd : decode cc pc = .ok (.i2c, 1)) (k : V X B own cc G nc ns nx sh I P (pc + 1) ls (.int (x.toUInt32 % 65536).toInt32 :: st)) : V X B own cc G nc ns nx sh I P pc ls (.int x :: st) := by
  obtain ⟨p, e, R, s, m, args, below, meth, c, Q⟩ := G
  intro C H locs la hR hL hl
  exact lv_i2c C.1 C.2.1 hd rfl (k C H locs la hR hL hl)
theorem V_dup {va : Value} (hva : va.category = 1) (hd : decode cc pc = .ok (.dup, 1)) (k : V X B own cc G nc ns nx sh I P (pc + 1) ls (va :: va :: st)) : V X B own cc G nc ns nx sh I P pc ls (va :: st) := by
  obtain ⟨p, e, R, s, m, args, below, meth, c, Q⟩ := G
  intro C H locs la hR hL hl
  exact lv_dup C.1 C.2.1 hd hva (k C H locs la hR hL hl)
theorem V_pop {va : Value} (hva : va.category = 1) (hd : decode cc pc = .ok (.pop, 1)) (k : V X B own cc G nc ns nx sh I P (pc + 1) ls (st)) : V X B own cc G nc ns nx sh I P pc ls (va :: st) := by
  obtain ⟨p, e, R, s, m, args, below, meth, c, Q⟩ := G
  intro C H locs la hR hL hl
  exact lv_pop C.1 C.2.1 hd hva (k C H locs la hR hL hl)
theorem V_dup2 {va vb : Value} (hva : va.category = 1) (hvb : vb.category = 1) (hd : decode cc pc = .ok (.dup2, 1)) (k : V X B own cc G nc ns nx sh I P (pc + 1) ls (va :: vb :: va :: vb :: st)) : V X B own cc G nc ns nx sh I P pc ls (va :: vb :: st) := by
  obtain ⟨p, e, R, s, m, args, below, meth, c, Q⟩ := G
  intro C H locs la hR hL hl
  exact lv_dup2_11 C.1 C.2.1 hd hva hvb (k C H locs la hR hL hl)
theorem V_null  (hd : decode cc pc = .ok (.aconst_null, 1)) (k : V X B own cc G nc ns nx sh I P (pc + 1) ls (.null :: st)) : V X B own cc G nc ns nx sh I P pc ls (st) := by
  obtain ⟨p, e, R, s, m, args, below, meth, c, Q⟩ := G
  intro C H locs la hR hL hl
  exact lv_null C.1 C.2.1 hd (k C H locs la hR hL hl)
theorem V_if_eq {x : Int32} {off : Int} {tgt : Nat} (hd : decode cc pc = .ok (.ifCond .eq off, 3)) (ht : (pc : Int) + off = (tgt : Int)) (kt : (x = 0) → V X B own cc G nc ns nx sh I P tgt ls st) (kf : (¬ x = 0) → V X B own cc G nc ns nx sh I P (pc + 3) ls st) : V X B own cc G nc ns nx sh I P pc ls (.int x :: st) := by
  obtain ⟨p, e, R, s, m, args, below, meth, c, Q⟩ := G
  intro C H locs la hR hL hl
  exact lv_if_eq C.1 C.2.1 hd ht (fun h => kt h C H locs la hR hL hl) (fun h => kf h C H locs la hR hL hl)
theorem V_icmp_eq {x y : Int32} {off : Int} {tgt : Nat} (hd : decode cc pc = .ok (.if_icmp .eq off, 3)) (ht : (pc : Int) + off = (tgt : Int)) (kt : (x = y) → V X B own cc G nc ns nx sh I P tgt ls st) (kf : (¬ x = y) → V X B own cc G nc ns nx sh I P (pc + 3) ls st) : V X B own cc G nc ns nx sh I P pc ls (.int y :: .int x :: st) := by
  obtain ⟨p, e, R, s, m, args, below, meth, c, Q⟩ := G
  intro C H locs la hR hL hl
  exact lv_icmp_eq C.1 C.2.1 hd ht (fun h => kt h C H locs la hR hL hl) (fun h => kf h C H locs la hR hL hl)
theorem V_if_ne {x : Int32} {off : Int} {tgt : Nat} (hd : decode cc pc = .ok (.ifCond .ne off, 3)) (ht : (pc : Int) + off = (tgt : Int)) (kt : (¬ x = 0) → V X B own cc G nc ns nx sh I P tgt ls st) (kf : (x = 0) → V X B own cc G nc ns nx sh I P (pc + 3) ls st) : V X B own cc G nc ns nx sh I P pc ls (.int x :: st) := by
  obtain ⟨p, e, R, s, m, args, below, meth, c, Q⟩ := G
  intro C H locs la hR hL hl
  exact lv_if_ne C.1 C.2.1 hd ht (fun h => kt h C H locs la hR hL hl) (fun h => kf h C H locs la hR hL hl)
theorem V_icmp_ne {x y : Int32} {off : Int} {tgt : Nat} (hd : decode cc pc = .ok (.if_icmp .ne off, 3)) (ht : (pc : Int) + off = (tgt : Int)) (kt : (¬ x = y) → V X B own cc G nc ns nx sh I P tgt ls st) (kf : (x = y) → V X B own cc G nc ns nx sh I P (pc + 3) ls st) : V X B own cc G nc ns nx sh I P pc ls (.int y :: .int x :: st) := by
  obtain ⟨p, e, R, s, m, args, below, meth, c, Q⟩ := G
  intro C H locs la hR hL hl
  exact lv_icmp_ne C.1 C.2.1 hd ht (fun h => kt h C H locs la hR hL hl) (fun h => kf h C H locs la hR hL hl)
theorem V_if_lt {x : Int32} {off : Int} {tgt : Nat} (hd : decode cc pc = .ok (.ifCond .lt off, 3)) (ht : (pc : Int) + off = (tgt : Int)) (kt : (x < 0) → V X B own cc G nc ns nx sh I P tgt ls st) (kf : (¬ x < 0) → V X B own cc G nc ns nx sh I P (pc + 3) ls st) : V X B own cc G nc ns nx sh I P pc ls (.int x :: st) := by
  obtain ⟨p, e, R, s, m, args, below, meth, c, Q⟩ := G
  intro C H locs la hR hL hl
  exact lv_if_lt C.1 C.2.1 hd ht (fun h => kt h C H locs la hR hL hl) (fun h => kf h C H locs la hR hL hl)
theorem V_icmp_lt {x y : Int32} {off : Int} {tgt : Nat} (hd : decode cc pc = .ok (.if_icmp .lt off, 3)) (ht : (pc : Int) + off = (tgt : Int)) (kt : (x < y) → V X B own cc G nc ns nx sh I P tgt ls st) (kf : (¬ x < y) → V X B own cc G nc ns nx sh I P (pc + 3) ls st) : V X B own cc G nc ns nx sh I P pc ls (.int y :: .int x :: st) := by
  obtain ⟨p, e, R, s, m, args, below, meth, c, Q⟩ := G
  intro C H locs la hR hL hl
  exact lv_icmp_lt C.1 C.2.1 hd ht (fun h => kt h C H locs la hR hL hl) (fun h => kf h C H locs la hR hL hl)
theorem V_if_ge {x : Int32} {off : Int} {tgt : Nat} (hd : decode cc pc = .ok (.ifCond .ge off, 3)) (ht : (pc : Int) + off = (tgt : Int)) (kt : (0 ≤ x) → V X B own cc G nc ns nx sh I P tgt ls st) (kf : (¬ 0 ≤ x) → V X B own cc G nc ns nx sh I P (pc + 3) ls st) : V X B own cc G nc ns nx sh I P pc ls (.int x :: st) := by
  obtain ⟨p, e, R, s, m, args, below, meth, c, Q⟩ := G
  intro C H locs la hR hL hl
  exact lv_if_ge C.1 C.2.1 hd ht (fun h => kt h C H locs la hR hL hl) (fun h => kf h C H locs la hR hL hl)
theorem V_icmp_ge {x y : Int32} {off : Int} {tgt : Nat} (hd : decode cc pc = .ok (.if_icmp .ge off, 3)) (ht : (pc : Int) + off = (tgt : Int)) (kt : (y ≤ x) → V X B own cc G nc ns nx sh I P tgt ls st) (kf : (¬ y ≤ x) → V X B own cc G nc ns nx sh I P (pc + 3) ls st) : V X B own cc G nc ns nx sh I P pc ls (.int y :: .int x :: st) := by
  obtain ⟨p, e, R, s, m, args, below, meth, c, Q⟩ := G
  intro C H locs la hR hL hl
  exact lv_icmp_ge C.1 C.2.1 hd ht (fun h => kt h C H locs la hR hL hl) (fun h => kf h C H locs la hR hL hl)
theorem V_if_gt {x : Int32} {off : Int} {tgt : Nat} (hd : decode cc pc = .ok (.ifCond .gt off, 3)) (ht : (pc : Int) + off = (tgt : Int)) (kt : (0 < x) → V X B own cc G nc ns nx sh I P tgt ls st) (kf : (¬ 0 < x) → V X B own cc G nc ns nx sh I P (pc + 3) ls st) : V X B own cc G nc ns nx sh I P pc ls (.int x :: st) := by
  obtain ⟨p, e, R, s, m, args, below, meth, c, Q⟩ := G
  intro C H locs la hR hL hl
  exact lv_if_gt C.1 C.2.1 hd ht (fun h => kt h C H locs la hR hL hl) (fun h => kf h C H locs la hR hL hl)
theorem V_icmp_gt {x y : Int32} {off : Int} {tgt : Nat} (hd : decode cc pc = .ok (.if_icmp .gt off, 3)) (ht : (pc : Int) + off = (tgt : Int)) (kt : (y < x) → V X B own cc G nc ns nx sh I P tgt ls st) (kf : (¬ y < x) → V X B own cc G nc ns nx sh I P (pc + 3) ls st) : V X B own cc G nc ns nx sh I P pc ls (.int y :: .int x :: st) := by
  obtain ⟨p, e, R, s, m, args, below, meth, c, Q⟩ := G
  intro C H locs la hR hL hl
  exact lv_icmp_gt C.1 C.2.1 hd ht (fun h => kt h C H locs la hR hL hl) (fun h => kf h C H locs la hR hL hl)
theorem V_if_le {x : Int32} {off : Int} {tgt : Nat} (hd : decode cc pc = .ok (.ifCond .le off, 3)) (ht : (pc : Int) + off = (tgt : Int)) (kt : (x ≤ 0) → V X B own cc G nc ns nx sh I P tgt ls st) (kf : (¬ x ≤ 0) → V X B own cc G nc ns nx sh I P (pc + 3) ls st) : V X B own cc G nc ns nx sh I P pc ls (.int x :: st) := by
  obtain ⟨p, e, R, s, m, args, below, meth, c, Q⟩ := G
  intro C H locs la hR hL hl
  exact lv_if_le C.1 C.2.1 hd ht (fun h => kt h C H locs la hR hL hl) (fun h => kf h C H locs la hR hL hl)
theorem V_icmp_le {x y : Int32} {off : Int} {tgt : Nat} (hd : decode cc pc = .ok (.if_icmp .le off, 3)) (ht : (pc : Int) + off = (tgt : Int)) (kt : (x ≤ y) → V X B own cc G nc ns nx sh I P tgt ls st) (kf : (¬ x ≤ y) → V X B own cc G nc ns nx sh I P (pc + 3) ls st) : V X B own cc G nc ns nx sh I P pc ls (.int y :: .int x :: st) := by
  obtain ⟨p, e, R, s, m, args, below, meth, c, Q⟩ := G
  intro C H locs la hR hL hl
  exact lv_icmp_le C.1 C.2.1 hd ht (fun h => kt h C H locs la hR hL hl) (fun h => kf h C H locs la hR hL hl)
theorem V_goto {off : Int} {tgt : Nat} (hd : decode cc pc = .ok (.goto off, 3)) (ht : (pc : Int) + off = (tgt : Int)) (k : V X B own cc G nc ns nx sh I P tgt ls st) : V X B own cc G nc ns nx sh I P pc ls st := by
  obtain ⟨p, e, R, s, m, args, below, meth, c, Q⟩ := G
  intro C H locs la hR hL hl
  exact lv_goto C.1 C.2.1 hd ht (k C H locs la hR hL hl)
theorem V_ifnull {a : Nat} {off : Int} (hd : decode cc pc = .ok (.ifnull off, 3)) (k : V X B own cc G nc ns nx sh I P (pc + 3) ls st) : V X B own cc G nc ns nx sh I P pc ls (.ref a :: st) := by
  obtain ⟨p, e, R, s, m, args, below, meth, c, Q⟩ := G
  intro C H locs la hR hL hl
  exact lv_ifnull C.1 C.2.1 hd (k C H locs la hR hL hl)
theorem V_ifnonnull {a : Nat} {off : Int} {tgt : Nat} (hd : decode cc pc = .ok (.ifnonnull off, 3)) (ht : (pc : Int) + off = (tgt : Int)) (k : V X B own cc G nc ns nx sh I P tgt ls st) : V X B own cc G nc ns nx sh I P pc ls (.ref a :: st) := by
  obtain ⟨p, e, R, s, m, args, below, meth, c, Q⟩ := G
  intro C H locs la hR hL hl
  exact lv_ifnonnull C.1 C.2.1 hd ht (k C H locs la hR hL hl)
theorem V_ifnullN {off : Int} {tgt : Nat} (hd : decode cc pc = .ok (.ifnull off, 3)) (ht : (pc : Int) + off = (tgt : Int)) (k : V X B own cc G nc ns nx sh I P tgt ls st) : V X B own cc G nc ns nx sh I P pc ls (.null :: st) := by
  obtain ⟨p, e, R, s, m, args, below, meth, c, Q⟩ := G
  intro C H locs la hR hL hl
  exact lv_ifnullN C.1 C.2.1 hd ht (k C H locs la hR hL hl)
theorem V_ifnonnullN {off : Int} (hd : decode cc pc = .ok (.ifnonnull off, 3)) (k : V X B own cc G nc ns nx sh I P (pc + 3) ls st) : V X B own cc G nc ns nx sh I P pc ls (.null :: st) := by
  obtain ⟨p, e, R, s, m, args, below, meth, c, Q⟩ := G
  intro C H locs la hR hL hl
  exact lv_ifnonnullN C.1 C.2.1 hd (k C H locs la hR hL hl)
theorem V_tableOut {dflt lo hi : Int} {offs : Array Int} {len : Nat} {x : Int32} {tgt : Nat} (hd : decode cc pc = .ok (.tableswitch dflt lo hi offs, len)) (h : x.toInt < lo ∨ hi < x.toInt) (ht : (pc : Int) + dflt = (tgt : Int)) (k : V X B own cc G nc ns nx sh I P tgt ls st) : V X B own cc G nc ns nx sh I P pc ls (.int x :: st) := by
  obtain ⟨p, e, R, s, m, args, below, meth, c, Q⟩ := G
  intro C H locs la hR hL hl
  exact lv_tableOut C.1 C.2.1 hd h ht (k C H locs la hR hL hl)
theorem V_tableIn {dflt lo hi : Int} {offs : Array Int} {len : Nat} {x : Int32} {off : Int} {tgt : Nat} (hd : decode cc pc = .ok (.tableswitch dflt lo hi offs, len)) (h1 : ¬ x.toInt < lo) (h2 : ¬ hi < x.toInt) (ho : offs[(x.toInt - lo).toNat]? = some off) (ht : (pc : Int) + off = (tgt : Int)) (k : V X B own cc G nc ns nx sh I P tgt ls st) : V X B own cc G nc ns nx sh I P pc ls (.int x :: st) := by
  obtain ⟨p, e, R, s, m, args, below, meth, c, Q⟩ := G
  intro C H locs la hR hL hl
  exact lv_tableIn C.1 C.2.1 hd h1 h2 ho ht (k C H locs la hR hL hl)
theorem V_lookup {dflt : Int} {ps : Array (Int × Int)} {len : Nat} {x : Int32} {off : Int} {tgt : Nat} (hd : decode cc pc = .ok (.lookupswitch dflt ps, len)) (hp : (ps.toList.zip (ps.toList.drop 1)).all (fun (a, next) => a.1 < next.1) = true) (ho : Op.lookupswitch.offset ps.toList dflt x.toInt = off) (ht : (pc : Int) + off = (tgt : Int)) (k : V X B own cc G nc ns nx sh I P tgt ls st) : V X B own cc G nc ns nx sh I P pc ls (.int x :: st) := by
  obtain ⟨p, e, R, s, m, args, below, meth, c, Q⟩ := G
  intro C H locs la hR hL hl
  exact lv_lookup C.1 C.2.1 hd hp ho ht (k C H locs la hR hL hl)
theorem V_ldc2 {index : Nat} {v : Int64} (hw : Cond.constantLong own index v ∈ mW) (hd : decode cc pc = .ok (.ldc2_w index, 3)) (k : V X B own cc G nc ns nx sh I P (pc + 3) ls (.long v :: st)) : V X B own cc G nc ns nx sh I P pc ls st := by
  obtain ⟨p, e, R, s, m, args, below, meth, c, Q⟩ := G
  intro C H locs la hR hL hl
  exact lv_ldc2 C.1 C.2.1 C.2.2.1 (C.2.2.2.1 _ hw) hd (k C H locs la hR hL hl)
theorem V_lcmp {x y : Int64} (hd : decode cc pc = .ok (.lcmp, 1)) (k : V X B own cc G nc ns nx sh I P (pc + 1) ls (.int (lg_cmp x y) :: st)) : V X B own cc G nc ns nx sh I P pc ls (.long y :: .long x :: st) := by
  obtain ⟨p, e, R, s, m, args, below, meth, c, Q⟩ := G
  intro C H locs la hR hL hl
  exact W.lcmp C.1 C.2.1 hd (k C H locs la hR hL hl)
theorem V_iln {k : Fin 4} {x : Int32} (hd : decode cc pc = .ok (.iload_n k, 1)) (hi : ls[(k : Nat)]? = some (some (.int x))) (kk : V X B own cc G nc ns nx sh I P (pc + 1) ls (.int x :: st)) : V X B own cc G nc ns nx sh I P pc ls st := by
  obtain ⟨p, e, R, s, m, args, below, meth, c, Q⟩ := G
  intro C H locs la hR hL hl
  exact lv_iload_n C.1 C.2.1 hd rfl (hl.at hi) (kk C H locs la hR hL hl)
theorem V_il {i : Nat} {x : Int32} (hd : decode cc pc = .ok (.iload i, 2)) (hi : ls[i]? = some (some (.int x))) (kk : V X B own cc G nc ns nx sh I P (pc + 2) ls (.int x :: st)) : V X B own cc G nc ns nx sh I P pc ls st := by
  obtain ⟨p, e, R, s, m, args, below, meth, c, Q⟩ := G
  intro C H locs la hR hL hl
  exact lv_iload C.1 C.2.1 hd (hl.at hi) (kk C H locs la hR hL hl)
theorem V_aln {k : Fin 4} {a : Nat} (hd : decode cc pc = .ok (.aload_n k, 1)) (hi : ls[(k : Nat)]? = some (some (.ref a))) (kk : V X B own cc G nc ns nx sh I P (pc + 1) ls (.ref a :: st)) : V X B own cc G nc ns nx sh I P pc ls st := by
  obtain ⟨p, e, R, s, m, args, below, meth, c, Q⟩ := G
  intro C H locs la hR hL hl
  exact lv_aload_n C.1 C.2.1 hd rfl (hl.at hi) (kk C H locs la hR hL hl)
theorem V_al {i a : Nat} (hd : decode cc pc = .ok (.aload i, 2)) (hi : ls[i]? = some (some (.ref a))) (kk : V X B own cc G nc ns nx sh I P (pc + 2) ls (.ref a :: st)) : V X B own cc G nc ns nx sh I P pc ls st := by
  obtain ⟨p, e, R, s, m, args, below, meth, c, Q⟩ := G
  intro C H locs la hR hL hl
  exact lv_aload C.1 C.2.1 hd (hl.at hi) (kk C H locs la hR hL hl)
theorem V_alnN {k : Fin 4} (hd : decode cc pc = .ok (.aload_n k, 1)) (hi : ls[(k : Nat)]? = some (some .null)) (kk : V X B own cc G nc ns nx sh I P (pc + 1) ls (.null :: st)) : V X B own cc G nc ns nx sh I P pc ls st := by
  obtain ⟨p, e, R, s, m, args, below, meth, c, Q⟩ := G
  intro C H locs la hR hL hl
  exact lv_aload_nN C.1 C.2.1 hd rfl (hl.at hi) (kk C H locs la hR hL hl)
theorem V_alN {i : Nat} (hd : decode cc pc = .ok (.aload i, 2)) (hi : ls[i]? = some (some .null)) (kk : V X B own cc G nc ns nx sh I P (pc + 2) ls (.null :: st)) : V X B own cc G nc ns nx sh I P pc ls st := by
  obtain ⟨p, e, R, s, m, args, below, meth, c, Q⟩ := G
  intro C H locs la hR hL hl
  exact lv_aloadN C.1 C.2.1 hd (hl.at hi) (kk C H locs la hR hL hl)
/-- a store, whatever the instruction: its effect on the machine's locals -/
theorem V_stI {i ln : Nat} {x : Int32} (hd : (∃ k : Fin 4, (k : Nat) = i ∧ ln = 1 ∧ decode cc pc = .ok (.istore_n k, 1)) ∨ (ln = 2 ∧ decode cc pc = .ok (.istore i, 2))) (hi : i < ls.length) (kk : V X B own cc G nc ns nx sh I P (pc + ln) (ls.set i (some (.int x))) st) : V X B own cc G nc ns nx sh I P pc ls (.int x :: st) := by
  obtain ⟨p, e, R, s, m, args, below, meth, c, Q⟩ := G
  intro C H locs la hR hL hl T hT Xx
  obtain ⟨la', e', h'⟩ := hl.store (v := .int x) hi rfl
  obtain ⟨t, a, b⟩ := kk C H locs la' hR hL h' T hT Xx
  obtain ⟨hexec, hb, -⟩ := C
  refine ⟨t, ?_, b⟩
  rcases hd with ⟨k, hk, rfl, hdg⟩ | ⟨rfl, hdg⟩
  · subst hk
    jvm_step Xx.here [Xx.here.top, ↓top_set Xx.here.top, hexec, hb, hdg, e']
    exact a
  · jvm_step Xx.here [Xx.here.top, ↓top_set Xx.here.top, hexec, hb, hdg, e']
    exact a
theorem V_stA {i ln : Nat} {v : Value} (hv : v = .null ∨ ∃ a, v = .ref a) (hd : (∃ k : Fin 4, (k : Nat) = i ∧ ln = 1 ∧ decode cc pc = .ok (.astore_n k, 1)) ∨ (ln = 2 ∧ decode cc pc = .ok (.astore i, 2))) (hi : i < ls.length) (kk : V X B own cc G nc ns nx sh I P (pc + ln) (ls.set i (some v)) st) : V X B own cc G nc ns nx sh I P pc ls (v :: st) := by
  obtain ⟨p, e, R, s, m, args, below, meth, c, Q⟩ := G
  intro C H locs la hR hL hl T hT Xx
  have hcat : v.category = 1 := by rcases hv with rfl | ⟨a, rfl⟩ <;> rfl
  obtain ⟨la', e', h'⟩ := hl.store (v := v) hi hcat
  obtain ⟨t, a, b⟩ := kk C H locs la' hR hL h' T hT Xx
  obtain ⟨hexec, hb, -⟩ := C
  refine ⟨t, ?_, b⟩
  rcases hd with ⟨k, hk, rfl, hdg⟩ | ⟨rfl, hdg⟩
  · subst hk
    rcases hv with rfl | ⟨q, rfl⟩
    · jvm_step Xx.here [Xx.here.top, ↓top_set Xx.here.top, hexec, hb, hdg, e', Value.isRef]
      exact a
    · jvm_step Xx.here [Xx.here.top, ↓top_set Xx.here.top, hexec, hb, hdg, e', Value.isRef]
      exact a
  · rcases hv with rfl | ⟨q, rfl⟩
    · jvm_step Xx.here [Xx.here.top, ↓top_set Xx.here.top, hexec, hb, hdg, e', Value.isRef]
      exact a
    · jvm_step Xx.here [Xx.here.top, ↓top_set Xx.here.top, hexec, hb, hdg, e', Value.isRef]
      exact a
theorem V_incG {i : Nat} {n : Int} {x : Int32} (hd : decode cc pc = .ok (.iinc i n, 3)) (hi : ls[i]? = some (some (.int x))) (kk : V X B own cc G nc ns nx sh I P (pc + 3) (ls.set i (some (.int (x + Int32.ofInt n)))) st) : V X B own cc G nc ns nx sh I P pc ls st := by
  obtain ⟨p, e, R, s, m, args, below, meth, c, Q⟩ := G
  intro C H locs la hR hL hl T hT Xx
  have hg := hl.at hi
  obtain ⟨la', e', h'⟩ := hl.store (v := .int (x + Int32.ofInt n)) ((List.getElem?_eq_some_iff.mp hi).1) rfl
  obtain ⟨t, a, b⟩ := kk C H locs la' hR hL h' T hT Xx
  obtain ⟨hexec, hb, -⟩ := C
  refine ⟨t, ?_, b⟩
  jvm_step Xx.here [Xx.here.top, ↓top_set Xx.here.top, hexec, hb, hd, hg, e']
  exact a
theorem V_is0 {z : Option Value} {r : List (Option Value)} {x : Int32} (hd : decode cc pc = .ok (.istore_n 0, 1)) (kk : V X B own cc G nc ns nx sh I P (pc + 1) (some (.int x) :: r) st) : V X B own cc G nc ns nx sh I P pc (z :: r) (.int x :: st) := V_stI (i := 0) (Or.inl ⟨0, rfl, rfl, hd⟩) (by simp) kk
theorem V_as0 {z : Option Value} {r : List (Option Value)} {a : Nat} (hd : decode cc pc = .ok (.astore_n 0, 1)) (kk : V X B own cc G nc ns nx sh I P (pc + 1) (some (.ref a) :: r) st) : V X B own cc G nc ns nx sh I P pc (z :: r) (.ref a :: st) := V_stA (i := 0) (Or.inr ⟨a, rfl⟩) (Or.inl ⟨0, rfl, rfl, hd⟩) (by simp) kk
theorem V_an0 {z : Option Value} {r : List (Option Value)} (hd : decode cc pc = .ok (.astore_n 0, 1)) (kk : V X B own cc G nc ns nx sh I P (pc + 1) (some .null :: r) st) : V X B own cc G nc ns nx sh I P pc (z :: r) (.null :: st) := V_stA (i := 0) (Or.inl rfl) (Or.inl ⟨0, rfl, rfl, hd⟩) (by simp) kk
theorem V_inc0 {r : List (Option Value)} {x : Int32} {n : Int} (hd : decode cc pc = .ok (.iinc 0 n, 3)) (kk : V X B own cc G nc ns nx sh I P (pc + 3) (some (.int (x + Int32.ofInt n)) :: r) st) : V X B own cc G nc ns nx sh I P pc (some (.int x) :: r) st := V_incG (i := 0) hd (by simp) kk
theorem V_is1 {o0 : Option Value} {z : Option Value} {r : List (Option Value)} {x : Int32} (hd : decode cc pc = .ok (.istore_n 1, 1)) (kk : V X B own cc G nc ns nx sh I P (pc + 1) (o0 :: some (.int x) :: r) st) : V X B own cc G nc ns nx sh I P pc (o0 :: z :: r) (.int x :: st) := V_stI (i := 1) (Or.inl ⟨1, rfl, rfl, hd⟩) (by simp) kk
theorem V_as1 {o0 : Option Value} {z : Option Value} {r : List (Option Value)} {a : Nat} (hd : decode cc pc = .ok (.astore_n 1, 1)) (kk : V X B own cc G nc ns nx sh I P (pc + 1) (o0 :: some (.ref a) :: r) st) : V X B own cc G nc ns nx sh I P pc (o0 :: z :: r) (.ref a :: st) := V_stA (i := 1) (Or.inr ⟨a, rfl⟩) (Or.inl ⟨1, rfl, rfl, hd⟩) (by simp) kk
theorem V_an1 {o0 : Option Value} {z : Option Value} {r : List (Option Value)} (hd : decode cc pc = .ok (.astore_n 1, 1)) (kk : V X B own cc G nc ns nx sh I P (pc + 1) (o0 :: some .null :: r) st) : V X B own cc G nc ns nx sh I P pc (o0 :: z :: r) (.null :: st) := V_stA (i := 1) (Or.inl rfl) (Or.inl ⟨1, rfl, rfl, hd⟩) (by simp) kk
theorem V_inc1 {o0 : Option Value} {r : List (Option Value)} {x : Int32} {n : Int} (hd : decode cc pc = .ok (.iinc 1 n, 3)) (kk : V X B own cc G nc ns nx sh I P (pc + 3) (o0 :: some (.int (x + Int32.ofInt n)) :: r) st) : V X B own cc G nc ns nx sh I P pc (o0 :: some (.int x) :: r) st := V_incG (i := 1) hd (by simp) kk
theorem V_is2 {o0 o1 : Option Value} {z : Option Value} {r : List (Option Value)} {x : Int32} (hd : decode cc pc = .ok (.istore_n 2, 1)) (kk : V X B own cc G nc ns nx sh I P (pc + 1) (o0 :: o1 :: some (.int x) :: r) st) : V X B own cc G nc ns nx sh I P pc (o0 :: o1 :: z :: r) (.int x :: st) := V_stI (i := 2) (Or.inl ⟨2, rfl, rfl, hd⟩) (by simp) kk
theorem V_as2 {o0 o1 : Option Value} {z : Option Value} {r : List (Option Value)} {a : Nat} (hd : decode cc pc = .ok (.astore_n 2, 1)) (kk : V X B own cc G nc ns nx sh I P (pc + 1) (o0 :: o1 :: some (.ref a) :: r) st) : V X B own cc G nc ns nx sh I P pc (o0 :: o1 :: z :: r) (.ref a :: st) := V_stA (i := 2) (Or.inr ⟨a, rfl⟩) (Or.inl ⟨2, rfl, rfl, hd⟩) (by simp) kk
theorem V_an2 {o0 o1 : Option Value} {z : Option Value} {r : List (Option Value)} (hd : decode cc pc = .ok (.astore_n 2, 1)) (kk : V X B own cc G nc ns nx sh I P (pc + 1) (o0 :: o1 :: some .null :: r) st) : V X B own cc G nc ns nx sh I P pc (o0 :: o1 :: z :: r) (.null :: st) := V_stA (i := 2) (Or.inl rfl) (Or.inl ⟨2, rfl, rfl, hd⟩) (by simp) kk
theorem V_inc2 {o0 o1 : Option Value} {r : List (Option Value)} {x : Int32} {n : Int} (hd : decode cc pc = .ok (.iinc 2 n, 3)) (kk : V X B own cc G nc ns nx sh I P (pc + 3) (o0 :: o1 :: some (.int (x + Int32.ofInt n)) :: r) st) : V X B own cc G nc ns nx sh I P pc (o0 :: o1 :: some (.int x) :: r) st := V_incG (i := 2) hd (by simp) kk
theorem V_is3 {o0 o1 o2 : Option Value} {z : Option Value} {r : List (Option Value)} {x : Int32} (hd : decode cc pc = .ok (.istore_n 3, 1)) (kk : V X B own cc G nc ns nx sh I P (pc + 1) (o0 :: o1 :: o2 :: some (.int x) :: r) st) : V X B own cc G nc ns nx sh I P pc (o0 :: o1 :: o2 :: z :: r) (.int x :: st) := V_stI (i := 3) (Or.inl ⟨3, rfl, rfl, hd⟩) (by simp) kk
theorem V_as3 {o0 o1 o2 : Option Value} {z : Option Value} {r : List (Option Value)} {a : Nat} (hd : decode cc pc = .ok (.astore_n 3, 1)) (kk : V X B own cc G nc ns nx sh I P (pc + 1) (o0 :: o1 :: o2 :: some (.ref a) :: r) st) : V X B own cc G nc ns nx sh I P pc (o0 :: o1 :: o2 :: z :: r) (.ref a :: st) := V_stA (i := 3) (Or.inr ⟨a, rfl⟩) (Or.inl ⟨3, rfl, rfl, hd⟩) (by simp) kk
theorem V_an3 {o0 o1 o2 : Option Value} {z : Option Value} {r : List (Option Value)} (hd : decode cc pc = .ok (.astore_n 3, 1)) (kk : V X B own cc G nc ns nx sh I P (pc + 1) (o0 :: o1 :: o2 :: some .null :: r) st) : V X B own cc G nc ns nx sh I P pc (o0 :: o1 :: o2 :: z :: r) (.null :: st) := V_stA (i := 3) (Or.inl rfl) (Or.inl ⟨3, rfl, rfl, hd⟩) (by simp) kk
theorem V_inc3 {o0 o1 o2 : Option Value} {r : List (Option Value)} {x : Int32} {n : Int} (hd : decode cc pc = .ok (.iinc 3 n, 3)) (kk : V X B own cc G nc ns nx sh I P (pc + 3) (o0 :: o1 :: o2 :: some (.int (x + Int32.ofInt n)) :: r) st) : V X B own cc G nc ns nx sh I P pc (o0 :: o1 :: o2 :: some (.int x) :: r) st := V_incG (i := 3) hd (by simp) kk
theorem V_is4 {o0 o1 o2 o3 : Option Value} {z : Option Value} {r : List (Option Value)} {x : Int32} (hd : decode cc pc = .ok (.istore 4, 2)) (kk : V X B own cc G nc ns nx sh I P (pc + 2) (o0 :: o1 :: o2 :: o3 :: some (.int x) :: r) st) : V X B own cc G nc ns nx sh I P pc (o0 :: o1 :: o2 :: o3 :: z :: r) (.int x :: st) := V_stI (i := 4) (Or.inr ⟨rfl, hd⟩) (by simp) kk
theorem V_as4 {o0 o1 o2 o3 : Option Value} {z : Option Value} {r : List (Option Value)} {a : Nat} (hd : decode cc pc = .ok (.astore 4, 2)) (kk : V X B own cc G nc ns nx sh I P (pc + 2) (o0 :: o1 :: o2 :: o3 :: some (.ref a) :: r) st) : V X B own cc G nc ns nx sh I P pc (o0 :: o1 :: o2 :: o3 :: z :: r) (.ref a :: st) := V_stA (i := 4) (Or.inr ⟨a, rfl⟩) (Or.inr ⟨rfl, hd⟩) (by simp) kk
theorem V_an4 {o0 o1 o2 o3 : Option Value} {z : Option Value} {r : List (Option Value)} (hd : decode cc pc = .ok (.astore 4, 2)) (kk : V X B own cc G nc ns nx sh I P (pc + 2) (o0 :: o1 :: o2 :: o3 :: some .null :: r) st) : V X B own cc G nc ns nx sh I P pc (o0 :: o1 :: o2 :: o3 :: z :: r) (.null :: st) := V_stA (i := 4) (Or.inl rfl) (Or.inr ⟨rfl, hd⟩) (by simp) kk
theorem V_inc4 {o0 o1 o2 o3 : Option Value} {r : List (Option Value)} {x : Int32} {n : Int} (hd : decode cc pc = .ok (.iinc 4 n, 3)) (kk : V X B own cc G nc ns nx sh I P (pc + 3) (o0 :: o1 :: o2 :: o3 :: some (.int (x + Int32.ofInt n)) :: r) st) : V X B own cc G nc ns nx sh I P pc (o0 :: o1 :: o2 :: o3 :: some (.int x) :: r) st := V_incG (i := 4) hd (by simp) kk
theorem V_is5 {o0 o1 o2 o3 o4 : Option Value} {z : Option Value} {r : List (Option Value)} {x : Int32} (hd : decode cc pc = .ok (.istore 5, 2)) (kk : V X B own cc G nc ns nx sh I P (pc + 2) (o0 :: o1 :: o2 :: o3 :: o4 :: some (.int x) :: r) st) : V X B own cc G nc ns nx sh I P pc (o0 :: o1 :: o2 :: o3 :: o4 :: z :: r) (.int x :: st) := V_stI (i := 5) (Or.inr ⟨rfl, hd⟩) (by simp) kk
theorem V_as5 {o0 o1 o2 o3 o4 : Option Value} {z : Option Value} {r : List (Option Value)} {a : Nat} (hd : decode cc pc = .ok (.astore 5, 2)) (kk : V X B own cc G nc ns nx sh I P (pc + 2) (o0 :: o1 :: o2 :: o3 :: o4 :: some (.ref a) :: r) st) : V X B own cc G nc ns nx sh I P pc (o0 :: o1 :: o2 :: o3 :: o4 :: z :: r) (.ref a :: st) := V_stA (i := 5) (Or.inr ⟨a, rfl⟩) (Or.inr ⟨rfl, hd⟩) (by simp) kk
theorem V_an5 {o0 o1 o2 o3 o4 : Option Value} {z : Option Value} {r : List (Option Value)} (hd : decode cc pc = .ok (.astore 5, 2)) (kk : V X B own cc G nc ns nx sh I P (pc + 2) (o0 :: o1 :: o2 :: o3 :: o4 :: some .null :: r) st) : V X B own cc G nc ns nx sh I P pc (o0 :: o1 :: o2 :: o3 :: o4 :: z :: r) (.null :: st) := V_stA (i := 5) (Or.inl rfl) (Or.inr ⟨rfl, hd⟩) (by simp) kk
theorem V_inc5 {o0 o1 o2 o3 o4 : Option Value} {r : List (Option Value)} {x : Int32} {n : Int} (hd : decode cc pc = .ok (.iinc 5 n, 3)) (kk : V X B own cc G nc ns nx sh I P (pc + 3) (o0 :: o1 :: o2 :: o3 :: o4 :: some (.int (x + Int32.ofInt n)) :: r) st) : V X B own cc G nc ns nx sh I P pc (o0 :: o1 :: o2 :: o3 :: o4 :: some (.int x) :: r) st := V_incG (i := 5) hd (by simp) kk
theorem V_is6 {o0 o1 o2 o3 o4 o5 : Option Value} {z : Option Value} {r : List (Option Value)} {x : Int32} (hd : decode cc pc = .ok (.istore 6, 2)) (kk : V X B own cc G nc ns nx sh I P (pc + 2) (o0 :: o1 :: o2 :: o3 :: o4 :: o5 :: some (.int x) :: r) st) : V X B own cc G nc ns nx sh I P pc (o0 :: o1 :: o2 :: o3 :: o4 :: o5 :: z :: r) (.int x :: st) := V_stI (i := 6) (Or.inr ⟨rfl, hd⟩) (by simp) kk
theorem V_as6 {o0 o1 o2 o3 o4 o5 : Option Value} {z : Option Value} {r : List (Option Value)} {a : Nat} (hd : decode cc pc = .ok (.astore 6, 2)) (kk : V X B own cc G nc ns nx sh I P (pc + 2) (o0 :: o1 :: o2 :: o3 :: o4 :: o5 :: some (.ref a) :: r) st) : V X B own cc G nc ns nx sh I P pc (o0 :: o1 :: o2 :: o3 :: o4 :: o5 :: z :: r) (.ref a :: st) := V_stA (i := 6) (Or.inr ⟨a, rfl⟩) (Or.inr ⟨rfl, hd⟩) (by simp) kk
theorem V_an6 {o0 o1 o2 o3 o4 o5 : Option Value} {z : Option Value} {r : List (Option Value)} (hd : decode cc pc = .ok (.astore 6, 2)) (kk : V X B own cc G nc ns nx sh I P (pc + 2) (o0 :: o1 :: o2 :: o3 :: o4 :: o5 :: some .null :: r) st) : V X B own cc G nc ns nx sh I P pc (o0 :: o1 :: o2 :: o3 :: o4 :: o5 :: z :: r) (.null :: st) := V_stA (i := 6) (Or.inl rfl) (Or.inr ⟨rfl, hd⟩) (by simp) kk
theorem V_inc6 {o0 o1 o2 o3 o4 o5 : Option Value} {r : List (Option Value)} {x : Int32} {n : Int} (hd : decode cc pc = .ok (.iinc 6 n, 3)) (kk : V X B own cc G nc ns nx sh I P (pc + 3) (o0 :: o1 :: o2 :: o3 :: o4 :: o5 :: some (.int (x + Int32.ofInt n)) :: r) st) : V X B own cc G nc ns nx sh I P pc (o0 :: o1 :: o2 :: o3 :: o4 :: o5 :: some (.int x) :: r) st := V_incG (i := 6) hd (by simp) kk
theorem V_is7 {o0 o1 o2 o3 o4 o5 o6 : Option Value} {z : Option Value} {r : List (Option Value)} {x : Int32} (hd : decode cc pc = .ok (.istore 7, 2)) (kk : V X B own cc G nc ns nx sh I P (pc + 2) (o0 :: o1 :: o2 :: o3 :: o4 :: o5 :: o6 :: some (.int x) :: r) st) : V X B own cc G nc ns nx sh I P pc (o0 :: o1 :: o2 :: o3 :: o4 :: o5 :: o6 :: z :: r) (.int x :: st) := V_stI (i := 7) (Or.inr ⟨rfl, hd⟩) (by simp) kk
theorem V_as7 {o0 o1 o2 o3 o4 o5 o6 : Option Value} {z : Option Value} {r : List (Option Value)} {a : Nat} (hd : decode cc pc = .ok (.astore 7, 2)) (kk : V X B own cc G nc ns nx sh I P (pc + 2) (o0 :: o1 :: o2 :: o3 :: o4 :: o5 :: o6 :: some (.ref a) :: r) st) : V X B own cc G nc ns nx sh I P pc (o0 :: o1 :: o2 :: o3 :: o4 :: o5 :: o6 :: z :: r) (.ref a :: st) := V_stA (i := 7) (Or.inr ⟨a, rfl⟩) (Or.inr ⟨rfl, hd⟩) (by simp) kk
theorem V_an7 {o0 o1 o2 o3 o4 o5 o6 : Option Value} {z : Option Value} {r : List (Option Value)} (hd : decode cc pc = .ok (.astore 7, 2)) (kk : V X B own cc G nc ns nx sh I P (pc + 2) (o0 :: o1 :: o2 :: o3 :: o4 :: o5 :: o6 :: some .null :: r) st) : V X B own cc G nc ns nx sh I P pc (o0 :: o1 :: o2 :: o3 :: o4 :: o5 :: o6 :: z :: r) (.null :: st) := V_stA (i := 7) (Or.inl rfl) (Or.inr ⟨rfl, hd⟩) (by simp) kk
theorem V_inc7 {o0 o1 o2 o3 o4 o5 o6 : Option Value} {r : List (Option Value)} {x : Int32} {n : Int} (hd : decode cc pc = .ok (.iinc 7 n, 3)) (kk : V X B own cc G nc ns nx sh I P (pc + 3) (o0 :: o1 :: o2 :: o3 :: o4 :: o5 :: o6 :: some (.int (x + Int32.ofInt n)) :: r) st) : V X B own cc G nc ns nx sh I P pc (o0 :: o1 :: o2 :: o3 :: o4 :: o5 :: o6 :: some (.int x) :: r) st := V_incG (i := 7) hd (by simp) kk
theorem V_is8 {o0 o1 o2 o3 o4 o5 o6 o7 : Option Value} {z : Option Value} {r : List (Option Value)} {x : Int32} (hd : decode cc pc = .ok (.istore 8, 2)) (kk : V X B own cc G nc ns nx sh I P (pc + 2) (o0 :: o1 :: o2 :: o3 :: o4 :: o5 :: o6 :: o7 :: some (.int x) :: r) st) : V X B own cc G nc ns nx sh I P pc (o0 :: o1 :: o2 :: o3 :: o4 :: o5 :: o6 :: o7 :: z :: r) (.int x :: st) := V_stI (i := 8) (Or.inr ⟨rfl, hd⟩) (by simp) kk
theorem V_as8 {o0 o1 o2 o3 o4 o5 o6 o7 : Option Value} {z : Option Value} {r : List (Option Value)} {a : Nat} (hd : decode cc pc = .ok (.astore 8, 2)) (kk : V X B own cc G nc ns nx sh I P (pc + 2) (o0 :: o1 :: o2 :: o3 :: o4 :: o5 :: o6 :: o7 :: some (.ref a) :: r) st) : V X B own cc G nc ns nx sh I P pc (o0 :: o1 :: o2 :: o3 :: o4 :: o5 :: o6 :: o7 :: z :: r) (.ref a :: st) := V_stA (i := 8) (Or.inr ⟨a, rfl⟩) (Or.inr ⟨rfl, hd⟩) (by simp) kk
theorem V_an8 {o0 o1 o2 o3 o4 o5 o6 o7 : Option Value} {z : Option Value} {r : List (Option Value)} (hd : decode cc pc = .ok (.astore 8, 2)) (kk : V X B own cc G nc ns nx sh I P (pc + 2) (o0 :: o1 :: o2 :: o3 :: o4 :: o5 :: o6 :: o7 :: some .null :: r) st) : V X B own cc G nc ns nx sh I P pc (o0 :: o1 :: o2 :: o3 :: o4 :: o5 :: o6 :: o7 :: z :: r) (.null :: st) := V_stA (i := 8) (Or.inl rfl) (Or.inr ⟨rfl, hd⟩) (by simp) kk
theorem V_inc8 {o0 o1 o2 o3 o4 o5 o6 o7 : Option Value} {r : List (Option Value)} {x : Int32} {n : Int} (hd : decode cc pc = .ok (.iinc 8 n, 3)) (kk : V X B own cc G nc ns nx sh I P (pc + 3) (o0 :: o1 :: o2 :: o3 :: o4 :: o5 :: o6 :: o7 :: some (.int (x + Int32.ofInt n)) :: r) st) : V X B own cc G nc ns nx sh I P pc (o0 :: o1 :: o2 :: o3 :: o4 :: o5 :: o6 :: o7 :: some (.int x) :: r) st := V_incG (i := 8) hd (by simp) kk
theorem V_is9 {o0 o1 o2 o3 o4 o5 o6 o7 o8 : Option Value} {z : Option Value} {r : List (Option Value)} {x : Int32} (hd : decode cc pc = .ok (.istore 9, 2)) (kk : V X B own cc G nc ns nx sh I P (pc + 2) (o0 :: o1 :: o2 :: o3 :: o4 :: o5 :: o6 :: o7 :: o8 :: some (.int x) :: r) st) : V X B own cc G nc ns nx sh I P pc (o0 :: o1 :: o2 :: o3 :: o4 :: o5 :: o6 :: o7 :: o8 :: z :: r) (.int x :: st) := V_stI (i := 9) (Or.inr ⟨rfl, hd⟩) (by simp) kk
theorem V_as9 {o0 o1 o2 o3 o4 o5 o6 o7 o8 : Option Value} {z : Option Value} {r : List (Option Value)} {a : Nat} (hd : decode cc pc = .ok (.astore 9, 2)) (kk : V X B own cc G nc ns nx sh I P (pc + 2) (o0 :: o1 :: o2 :: o3 :: o4 :: o5 :: o6 :: o7 :: o8 :: some (.ref a) :: r) st) : V X B own cc G nc ns nx sh I P pc (o0 :: o1 :: o2 :: o3 :: o4 :: o5 :: o6 :: o7 :: o8 :: z :: r) (.ref a :: st) := V_stA (i := 9) (Or.inr ⟨a, rfl⟩) (Or.inr ⟨rfl, hd⟩) (by simp) kk
theorem V_an9 {o0 o1 o2 o3 o4 o5 o6 o7 o8 : Option Value} {z : Option Value} {r : List (Option Value)} (hd : decode cc pc = .ok (.astore 9, 2)) (kk : V X B own cc G nc ns nx sh I P (pc + 2) (o0 :: o1 :: o2 :: o3 :: o4 :: o5 :: o6 :: o7 :: o8 :: some .null :: r) st) : V X B own cc G nc ns nx sh I P pc (o0 :: o1 :: o2 :: o3 :: o4 :: o5 :: o6 :: o7 :: o8 :: z :: r) (.null :: st) := V_stA (i := 9) (Or.inl rfl) (Or.inr ⟨rfl, hd⟩) (by simp) kk
theorem V_inc9 {o0 o1 o2 o3 o4 o5 o6 o7 o8 : Option Value} {r : List (Option Value)} {x : Int32} {n : Int} (hd : decode cc pc = .ok (.iinc 9 n, 3)) (kk : V X B own cc G nc ns nx sh I P (pc + 3) (o0 :: o1 :: o2 :: o3 :: o4 :: o5 :: o6 :: o7 :: o8 :: some (.int (x + Int32.ofInt n)) :: r) st) : V X B own cc G nc ns nx sh I P pc (o0 :: o1 :: o2 :: o3 :: o4 :: o5 :: o6 :: o7 :: o8 :: some (.int x) :: r) st := V_incG (i := 9) hd (by simp) kk
theorem V_is10 {o0 o1 o2 o3 o4 o5 o6 o7 o8 o9 : Option Value} {z : Option Value} {r : List (Option Value)} {x : Int32} (hd : decode cc pc = .ok (.istore 10, 2)) (kk : V X B own cc G nc ns nx sh I P (pc + 2) (o0 :: o1 :: o2 :: o3 :: o4 :: o5 :: o6 :: o7 :: o8 :: o9 :: some (.int x) :: r) st) : V X B own cc G nc ns nx sh I P pc (o0 :: o1 :: o2 :: o3 :: o4 :: o5 :: o6 :: o7 :: o8 :: o9 :: z :: r) (.int x :: st) := V_stI (i := 10) (Or.inr ⟨rfl, hd⟩) (by simp) kk
theorem V_as10 {o0 o1 o2 o3 o4 o5 o6 o7 o8 o9 : Option Value} {z : Option Value} {r : List (Option Value)} {a : Nat} (hd : decode cc pc = .ok (.astore 10, 2)) (kk : V X B own cc G nc ns nx sh I P (pc + 2) (o0 :: o1 :: o2 :: o3 :: o4 :: o5 :: o6 :: o7 :: o8 :: o9 :: some (.ref a) :: r) st) : V X B own cc G nc ns nx sh I P pc (o0 :: o1 :: o2 :: o3 :: o4 :: o5 :: o6 :: o7 :: o8 :: o9 :: z :: r) (.ref a :: st) := V_stA (i := 10) (Or.inr ⟨a, rfl⟩) (Or.inr ⟨rfl, hd⟩) (by simp) kk
theorem V_an10 {o0 o1 o2 o3 o4 o5 o6 o7 o8 o9 : Option Value} {z : Option Value} {r : List (Option Value)} (hd : decode cc pc = .ok (.astore 10, 2)) (kk : V X B own cc G nc ns nx sh I P (pc + 2) (o0 :: o1 :: o2 :: o3 :: o4 :: o5 :: o6 :: o7 :: o8 :: o9 :: some .null :: r) st) : V X B own cc G nc ns nx sh I P pc (o0 :: o1 :: o2 :: o3 :: o4 :: o5 :: o6 :: o7 :: o8 :: o9 :: z :: r) (.null :: st) := V_stA (i := 10) (Or.inl rfl) (Or.inr ⟨rfl, hd⟩) (by simp) kk
theorem V_inc10 {o0 o1 o2 o3 o4 o5 o6 o7 o8 o9 : Option Value} {r : List (Option Value)} {x : Int32} {n : Int} (hd : decode cc pc = .ok (.iinc 10 n, 3)) (kk : V X B own cc G nc ns nx sh I P (pc + 3) (o0 :: o1 :: o2 :: o3 :: o4 :: o5 :: o6 :: o7 :: o8 :: o9 :: some (.int (x + Int32.ofInt n)) :: r) st) : V X B own cc G nc ns nx sh I P pc (o0 :: o1 :: o2 :: o3 :: o4 :: o5 :: o6 :: o7 :: o8 :: o9 :: some (.int x) :: r) st := V_incG (i := 10) hd (by simp) kk
theorem V_is11 {o0 o1 o2 o3 o4 o5 o6 o7 o8 o9 o10 : Option Value} {z : Option Value} {r : List (Option Value)} {x : Int32} (hd : decode cc pc = .ok (.istore 11, 2)) (kk : V X B own cc G nc ns nx sh I P (pc + 2) (o0 :: o1 :: o2 :: o3 :: o4 :: o5 :: o6 :: o7 :: o8 :: o9 :: o10 :: some (.int x) :: r) st) : V X B own cc G nc ns nx sh I P pc (o0 :: o1 :: o2 :: o3 :: o4 :: o5 :: o6 :: o7 :: o8 :: o9 :: o10 :: z :: r) (.int x :: st) := V_stI (i := 11) (Or.inr ⟨rfl, hd⟩) (by simp) kk
theorem V_as11 {o0 o1 o2 o3 o4 o5 o6 o7 o8 o9 o10 : Option Value} {z : Option Value} {r : List (Option Value)} {a : Nat} (hd : decode cc pc = .ok (.astore 11, 2)) (kk : V X B own cc G nc ns nx sh I P (pc + 2) (o0 :: o1 :: o2 :: o3 :: o4 :: o5 :: o6 :: o7 :: o8 :: o9 :: o10 :: some (.ref a) :: r) st) : V X B own cc G nc ns nx sh I P pc (o0 :: o1 :: o2 :: o3 :: o4 :: o5 :: o6 :: o7 :: o8 :: o9 :: o10 :: z :: r) (.ref a :: st) := V_stA (i := 11) (Or.inr ⟨a, rfl⟩) (Or.inr ⟨rfl, hd⟩) (by simp) kk
theorem V_an11 {o0 o1 o2 o3 o4 o5 o6 o7 o8 o9 o10 : Option Value} {z : Option Value} {r : List (Option Value)} (hd : decode cc pc = .ok (.astore 11, 2)) (kk : V X B own cc G nc ns nx sh I P (pc + 2) (o0 :: o1 :: o2 :: o3 :: o4 :: o5 :: o6 :: o7 :: o8 :: o9 :: o10 :: some .null :: r) st) : V X B own cc G nc ns nx sh I P pc (o0 :: o1 :: o2 :: o3 :: o4 :: o5 :: o6 :: o7 :: o8 :: o9 :: o10 :: z :: r) (.null :: st) := V_stA (i := 11) (Or.inl rfl) (Or.inr ⟨rfl, hd⟩) (by simp) kk
theorem V_inc11 {o0 o1 o2 o3 o4 o5 o6 o7 o8 o9 o10 : Option Value} {r : List (Option Value)} {x : Int32} {n : Int} (hd : decode cc pc = .ok (.iinc 11 n, 3)) (kk : V X B own cc G nc ns nx sh I P (pc + 3) (o0 :: o1 :: o2 :: o3 :: o4 :: o5 :: o6 :: o7 :: o8 :: o9 :: o10 :: some (.int (x + Int32.ofInt n)) :: r) st) : V X B own cc G nc ns nx sh I P pc (o0 :: o1 :: o2 :: o3 :: o4 :: o5 :: o6 :: o7 :: o8 :: o9 :: o10 :: some (.int x) :: r) st := V_incG (i := 11) hd (by simp) kk
end VR
