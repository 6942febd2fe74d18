/-! ===== methods that return or throw ===== -/
def EvX (X : mX) (B : Nat) (d : mMd) (mc ms : Nat) (av : List Value) (nx : Nat) (sh : Nat → Option mSh) (I : mI) (P : mP) (Po PoT : mPo) : Prop :=
  MetFree X.2.2.2.2.2 d.1 (headSpec (Cond.code d.1 d.2.1 d.2.2.1 d.2.2.2.1 :: mW) { frames := d.2.2.2.2.1, cells := mc, slots := ms, locals := d.2.2.2.2.2 }) (mPc X B av nx sh I P) (fun _ _ _ _ _ => True) (fun a st o t => (mQc X B Po a st o t ∨ mQh X B PoT a st o t) ∧ mTE st t mc ms B)
theorem EvX.ofT {X : mX} {B : Nat} {d : mMd} {mc ms : Nat} {av : List Value} {nx : Nat} {sh : Nat → Option mSh} {I : mI} {P : mP} {Po PoT : mPo} (h : EvT X B d mc ms av nx sh I P PoT) : EvX X B d mc ms av nx sh I P Po PoT := by
  intro p e ha hc hk s m args below h1 h2 h3 h4
  obtain ⟨k9, o, a1, a2, a3, a4, a5⟩ := h p e ha hc hk s m args below h1 h2 h3 h4
  exact ⟨k9, o, a1, a2, a3, Or.inr a4, a5⟩
theorem EvX.ofR {X : mX} {B : Nat} {d : mMd} {mc ms : Nat} {av : List Value} {nx : Nat} {sh : Nat → Option mSh} {I : mI} {P : mP} {Po PoT : mPo} (h : Ev X B d mc ms av nx sh I P Po) : EvX X B d mc ms av nx sh I P Po PoT := by
  intro p e ha hc hk s m args below h1 h2 h3 h4
  obtain ⟨k9, o, a1, a2, a3, a4, L, a5, a6⟩ := h p e ha hc hk s m args below h1 h2 h3 h4
  exact ⟨k9, o, a1, a2, a3, Or.inl a4, L, a5.2, a6⟩
theorem EvX.weaken {X : mX} {B : Nat} {d : mMd} {mc ms : Nat} {av : List Value} {nx : Nat} {sh : Nat → Option mSh} {I : mI} {P : mP} {Po Po' PoT PoT' : mPo} (h : EvX X B d mc ms av nx sh I P Po PoT) (k : ∀ o nx sh I P, Po o nx sh I P → Po' o nx sh I P) (k2 : ∀ o nx sh I P, PoT o nx sh I P → PoT' o nx sh I P) : EvX X B d mc ms av nx sh I P Po' PoT' := by
  intro p e ha hc hk s m args below h1 h2 h3 h4
  obtain ⟨k9, o, a1, a2, a3, a4, a5⟩ := h p e ha hc hk s m args below h1 h2 h3 h4
  refine ⟨k9, o, a1, a2, a3, ?_, a5⟩
  rcases a4 with ⟨v, nx', sh', I', P', b0, b1, b2⟩ | ⟨v, nx', sh', I', P', b0, b1, b2⟩
  · exact Or.inl ⟨v, nx', sh', I', P', b0, k _ _ _ _ _ b1, b2⟩
  · exact Or.inr ⟨v, nx', sh', I', P', b0, k2 _ _ _ _ _ b1, b2⟩
theorem EvX.of {X : mX} {B : Nat} {d : mMd} {mc ms : Nat} {av : List Value} {nx : Nat} {sh : Nat → Option mSh} {I : mI} {P : mP} {Po PoT : mPo} (hy : plainName d.1.cls = true) (hc : ∀ v ∈ av, v.category = 1) (hn : av.length ≤ d.2.2.1)
    (h : ∀ G : mG, mM X B d.1.name d.2.2.2.1 d.2.2.2.2.1 d.2.2.2.2.2 mc ms Po G → mT X B mc ms PoT G → V X B d.1.cls d.2.1 G 0 0 nx sh I P 0 (av.map some ++ List.replicate (d.2.2.1 - av.length) none) []) : EvX X B d mc ms av nx sh I P Po PoT := by
  obtain ⟨y, cc, maxL, ret, fr, lo⟩ := d
  refine MetFree.of_bodyS (code := cc) (maxLocals := maxL) (ret := ret) hy ?_ ?_
  · intro args s m h hn
    obtain ⟨meth, c, h1, h2, h3, h4, h5, h6, -, -⟩ := Cond.code_spec hn (atoms_spec (ws := Cond.code y cc maxL ret :: mW) h _ List.mem_cons_self)
    exact ⟨meth, c, h1, h2, h3, h4, h5, h6⟩
  · intro p e s m args below meth c s₁ Bd hml hP _
    obtain ⟨rfl, hR, hK⟩ := hP
    have hts := atoms_spec (ws := Cond.code y cc maxL ret :: mW) Bd.pre
    have hown : s.vm.findClass y.cls = some m.cls := findClass_of_methodNamed Bd.named
    have hnm : meth.name = y.name := (name_of_methodNamed Bd.named Bd.method).1
    have htab := mTab Bd.named Bd.method (Stand.of_body Bd).code (hts _ List.mem_cons_self)
    have h1 := h (p, e, { frames := fr, cells := mc, slots := ms, locals := lo }, s, m, av.toArray, below, meth, c, MT below (fun a st o t => mQc X B Po a st o t ∨ mQh X B PoT a st o t) av.toArray s mc ms B) ⟨Bd.returns, rfl, rfl, rfl, rfl, hnm, fun t q => by obtain ⟨o, c1, c2, c3, L, c4, c5⟩ := q; exact ⟨o, c1, c2, Or.inl c3, L, c4.2, c5⟩⟩ ⟨htab, fun t q => by obtain ⟨o, c1, c2, c3, c4⟩ := q; exact ⟨o, c1, c2, Or.inr c3, c4⟩⟩ ⟨Bd.exec, Bd.bytes, hown, fun w hw => hts w (List.mem_cons_of_mem _ hw), hK, Bd.notSynchronized⟩ s.heap [] _ hR (fun q h => by cases h) (mLs_entry hml av hc hn)
    have hh0 : s₁.heap = s.heap := by rw [Bd.state]; rfl
    rw [← lg_entry_eq] at h1
    obtain ⟨t, a1, o, b1, b2, b3⟩ := h1 s₁ hh0 (Stand.of_body Bd)
    exact ⟨t, o, a1, b1, b2, b3⟩
section XC
variable {X : mX} {B : Nat} {own : String} {cc : ByteArray} {G : mG} {nc ns nx : Nat} {sh : Nat → Option mSh} {I : mI} {P : mP} {pc : Nat} {ls : List (Option Value)} {st : List Value}
variable {nm : String} {ret : Option FieldType} {fr lo mc ms : Nat} {Po Po0 PoT PoT0 : mPo} {d : mMd} {mc0 ms0 idx n : Nat}
/-- a call that returns or throws -/
theorem mCallX {p : Program} {e : Env} {R : Room} {s : State} {m : MethodId} {args : Array Value} {below : List Frame} {meth : Method} {c : Code} {Q : State → Prop} {ci a : Nat} {As rest : List Value} (hM : mM X B nm ret fr lo mc ms Po (p, e, R, s, m, args, below, meth, c, Q)) (hc : mCv own idx d n) (hs : sh a = some (.inl ci)) (hcn : mCn ci = d.1.cls) (hE : EvX X B d mc0 ms0 (.ref (B + a) :: As) nx sh I P Po0 PoT0) (hn : As.length = n) (hr : mRoom d nc ns fr lo mc ms mc0 ms0) (hst : (rest.map fun v => v.category).sum ≤ 8) (hd : decode cc pc = .ok (.invokevirtual idx, 3))
    (C : mCx X B own cc p s m args meth c) {H : Heap} {locs : List Loc} {la : Array Slot} (hR : mRel X B nx sh I P H) (hl : mLs c la ls) {T : State} (hT0 : T.heap = H) (Xs : Stand p X.2.2.2.2.2 e R s m args below meth c T locs nc ns) :
    (∃ (v : Option Value) (nx' : Nat) (sh' : Nat → Option mSh) (I' : mI) (P' : mP) (T' : State) (L : List Loc), Po0 v nx' sh' I' P' ∧ mRel X B nx' sh' I' P' T'.heap ∧ (∀ q ∈ L, B ≤ q.base) ∧ Stand p X.2.2.2.2.2 e R s m args below meth c T' (locs ++ L) (nc + mc0) (ns + ms0) ∧ ∀ t, Steps p.tables e below (T'.setTop (F0 m (pc + 3) la (v.toList ++ rest))) t → Steps p.tables e below (T.setTop (F0 m pc la (As.reverse ++ .ref (B + a) :: rest))) t) ∨
    (∃ (x nx' : Nat) (sh' : Nat → Option mSh) (I' : mI) (P' : mP) (T' : State) (L : List Loc), PoT0 (some (.ref x)) nx' sh' I' P' ∧ mRel X B nx' sh' I' P' T'.heap ∧ (∀ q ∈ L, B ≤ q.base) ∧ Stand p X.2.2.2.2.2 e R s m args below meth c T' (locs ++ L) (nc + mc0) (ns + ms0) ∧ ∀ t, Steps p.tables e below ((T'.setTop (F0 m pc la rest)).pushFrame (.throwing x)) t → Steps p.tables e below (T.setTop (F0 m pc la (As.reverse ++ .ref (B + a) :: rest))) t) := by
  obtain ⟨-, rfl, rfl, rfl, rfl, -, -⟩ := hM
  obtain ⟨hx, hb, hown, hts, hK, hlk⟩ := C
  obtain ⟨hci, V0, cell, q1, q2, q3, -⟩ := (hR.2.2 a _ hs).obj
  have hcls := (hK.1.1 _ _ (mCl_at hci)).2
  obtain ⟨w1, w2, w3, w4, w5, w6⟩ := hc
  obtain ⟨y, cy, maxL, rt, fr0, lo0⟩ := d
  obtain ⟨mk, methM, hnamed, hmethM, hstM, habM⟩ := Cond.instanceMethod_spec (hts _ w2)
  obtain ⟨methM', cM, hmethM', hcM, -, hlM, -, -, -, hsigM⟩ := Cond.code_spec hnamed (hts _ w4)
  cases hmethM.symm.trans hmethM'
  obtain ⟨c2, r2, m2, p1, p2, p3, p4, kP, hkP, hkPi⟩ := Cond.selects_spec (hts _ w3)
  have hcl2 : s.vm.findClass y.cls = some cell.cls := by rw [q2, show y.cls = mCn ci from hcn.symm]; exact hcls.1
  cases hcl2.symm.trans p1
  cases (State.methodFound?_of_named hnamed ⟨w6.1, w6.2.1⟩).symm.trans p2
  cases hnamed.symm.trans p3
  have hselP : selectMethod e.platform s.vm cell.cls mk = .method mk := by rw [Launch.admits_selectMethod Xs.admits]; exact p4
  have hlen : As.length = methM.sig.parameters.length := by
    have h2 := w6.2.2
    rw [hsigM] at h2
    rw [hn]
    exact Option.some.inj h2.symm
  obtain ⟨vm₁, X₁, hstep₁⟩ := Xs.invokevirtual hx hown (hts _ w1) hnamed hmethM hstM hkP hkPi ⟨w6.1, w6.2.1⟩ (a := B + a) (cell := cell) (by rw [hT0]; exact q1)
    (fun z h => by rw [q3] at h; cases h) hselP hmethM habM hkP hkPi (g := F0 m pc la (As.reverse ++ .ref (B + a) :: rest)) rfl (argsL := As) (rest := rest) hlen rfl (by rw [hb]; exact hd)
  have hW0 := X₁.warmed
  have pay : ∀ w ∈ mW, ∀ (a' : Array Value) (U : State), s.WarmedH U.vm → w.before a' U = true := fun w h a' U hW => pay_in hts mW_good _ h a' U hW
  have hn1 := X₁.named hnamed
  obtain ⟨methY, cY, hmY, hcY, -, hlY, -, -, -, -⟩ := Cond.code_spec hn1 (pay _ w4 #[] (T.setVm vm₁) hW0)
  obtain ⟨kY, hkY, -⟩ := className_of_methodNamed hn1
  have hinitY : kY.init = .initialized := Cond.initialized_spec (findClass_of_methodNamed hn1) hkY (pay _ w5 #[] (T.setVm vm₁) hW0)
  have happ : (headSpec (Cond.code y cy maxL rt :: mW) { frames := fr0, cells := mc0, slots := ms0, locals := lo0 }).appliesLoose y e.platform ((T.setVm vm₁).calling (F0 m pc la rest) mk (Value.ref (B + a) :: As).toArray) = true :=
    Spec.appliesLoose_calling (g := F0 m pc la rest) X₁.here (by rw [hb]; exact hd) hn1 hkY hinitY
      (X₁.room_calling (g := F0 m pc la rest) (R' := { frames := fr0, cells := mc0, slots := ms0, locals := lo0 }) hl.1 hmY hcY hr.1 (by rw [hlY]; have h9 := lv_room (m := m) (pc := pc) (ls := la) (rest := rest) hst; have h8 := hr.2.1; exact Nat.le_trans (Nat.add_le_add_right (Nat.add_le_add_right h9 _) _) h8) hr.2.2.1 hr.2.2.2)
      (atoms_intro fun w hw => (List.mem_cons.mp hw).elim (fun h => by rw [h]; exact pay _ w4 _ _ hW0) (fun h => pay _ h _ _ hW0))
  have hfr : ((T.setVm vm₁).setTop (F0 m pc la rest)).frames = [.java (F0 m pc la rest)] ++ below := by rw [State.frames_setTop' _ X₁.here.top, X₁.tail]; rfl
  have hP : mPc X B (.ref (B + a) :: As) nx sh I P (Value.ref (B + a) :: As).toArray ((T.setVm vm₁).calling (F0 m pc la rest) mk (Value.ref (B + a) :: As).toArray) :=
    mPc_blind _ _ _ _ ⟨rfl, by rw [show (T.setVm vm₁).heap = T.heap from rfl, hT0]; exact hR, hK.warm hW0⟩
  obtain ⟨o, s₂, hsteps, -, hend, hq⟩ := Steps.callFree hE p X₁.admits X₁.cas X₁.clock (acts := []) hfr happ hP trivial
  rw [State.frames_setTop' _ X₁.here.top, X₁.tail] at hend
  obtain ⟨hq, L, ⟨hW, hsame⟩, hL'⟩ := hq
  rcases hq with ⟨v, nx', sh', I', P', rfl, hp, hR'⟩ | ⟨x, nx', sh', I', P', rfl, hp, hR'⟩
  · obtain ⟨T', X', -, -, ht⟩ := X₁.outOf (g := F0 m pc la rest) rfl (by rw [hb]; exact hd) hend hW hsame
    have hheap : s₂.heap = T'.heap := by rw [ht]; rfl
    rw [ht] at hsteps
    exact Or.inl ⟨v, nx', sh', I', P', T', L, hp, by rw [← hheap]; exact hR', hL', X', fun t h => hstep₁ _ fun acts => by rw [doInvoke_state]; exact hsteps.trans h⟩
  · obtain ⟨T', X', -, -, ht⟩ := X₁.outOfThrown (g := F0 m pc la rest) rfl hend hW hsame
    have hheap : s₂.heap = T'.heap := by rw [ht]; exact Stand.throwing_heap _ _ _
    rw [ht] at hsteps
    exact Or.inr ⟨x, nx', sh', I', P', T', L, hp, by rw [← hheap]; exact hR', hL', X', fun t h => hstep₁ _ fun acts => by rw [doInvoke_state]; exact hsteps.trans h⟩
theorem V_callX {ci a : Nat} {As rest : List Value} (hM : mM X B nm ret fr lo mc ms Po G) (hT : mT X B mc ms PoT G) (hc : mCv own idx d n) (hs : sh a = some (.inl ci)) (hcn : mCn ci = d.1.cls) (hE : EvX X B d mc0 ms0 (.ref (B + a) :: As) nx sh I P Po0 PoT0) (hn : As.length = n) (hr : mRoom d nc ns fr lo mc ms mc0 ms0) (hmc : nc + mc0 = mc) (hms : ns + ms0 = ms) (hst : (rest.map fun v => v.category).sum ≤ 8) (hd : decode cc pc = .ok (.invokevirtual idx, 3)) (hstk : st = As.reverse ++ .ref (B + a) :: rest)
    (kt : ∀ (x nx' : Nat) (sh' : Nat → Option mSh) (I' : mI) (P' : mP), PoT0 (some (.ref x)) nx' sh' I' P' → PoT (some (.ref x)) nx' sh' I' P')
    (kk : ∀ (v : Option Value) (nx' : Nat) (sh' : Nat → Option mSh) (I' : mI) (P' : mP), Po0 v nx' sh' I' P' → V X B own cc G (nc + mc0) (ns + ms0) nx' sh' I' P' (pc + 3) ls (v.toList ++ rest)) : V X B own cc G nc ns nx sh I P pc ls st := by
  subst hstk
  obtain ⟨p, e, R, s, m, args, below, meth, c, Q⟩ := G
  intro C H locs la hR hL hl T hT0 Xs
  obtain ⟨htab, hQ⟩ := hT
  have joinL : ∀ L : List Loc, (∀ q ∈ L, B ≤ q.base) → ∀ q ∈ locs ++ L, B ≤ q.base := fun L h q hq => (List.mem_append.mp hq).elim (hL q) (h q)
  rcases mCallX hM hc hs hcn hE hn hr hst hd C hR hl hT0 Xs with ⟨v, nx', sh', I', P', T', L, hp, hR', hL', X', go⟩ | ⟨x, nx', sh', I', P', T', L, hp, hR', hL', X', go⟩
  · obtain ⟨t2, a1, b1⟩ := kk v nx' sh' I' P' hp C T'.heap (locs ++ L) la hR' (joinL L hL') hl T' rfl X'
    exact ⟨t2, go t2 a1, b1⟩
  · obtain ⟨l1, l2, l3, l4, l5⟩ := X'.leaveThrown x (g := F0 m pc la rest) rfl rfl rfl (by rw [htab]; intro z hz; cases hz) C.2.2.2.2.2
    exact ⟨T'.setFrames (.throwing x :: below), go _ l1, hQ _ ⟨.threw x, l2, l3, ⟨x, nx', sh', I', P', rfl, kt _ _ _ _ _ hp, hR'⟩, locs ++ L, ⟨l4, by rw [← hmc, ← hms]; exact l5⟩, joinL L hL'⟩⟩
end XC
