/-! ===== a throw that is caught here ===== -/
theorem mFind {e : Env} {s : State} {f : JFrame} {a : Addr} {x : ExceptionTableEntry} {c : ClassId} {cell : Cell} {Q : Handler → Pre} {E : CtlPost} {d : Bool} {acts : List Action} (hx : covers x f.pc = true) (h0 : x.catchType ≠ 0) (hl : s.vm.ClassLinks e.platform f.method.cls x.catchType c) (hcell : s.heap[a]? = some cell) (hobj : ∀ k, cell.vm ≠ .statics k) {k1 : Class} (hk : s.vm.classes[cell.cls]? = some k1) {k2 : Class} (hc : s.vm.classes[c]? = some k2) (hfit : s.vm.assignable cell.cls c = true) :
    wp (findHandler.go f a [x]) Q E e d acts s ↔ Q (.found x.handlerPc) d acts (s.setVm (s.vm.noted f.method.cls x.catchType (.cls c))) := by
  have hal : s.vm.Alike (s.vm.noted f.method.cls x.catchType (.cls c)) := (Vm.Alike.refl s.vm).noted _ _ _
  obtain ⟨ka, ha, -⟩ := hal.2.2 _ _ hk
  obtain ⟨kb, hb, -⟩ := hal.2.2 _ _ hc
  have hf : (s.vm.noted f.method.cls x.catchType (.cls c)).assignable cell.cls c = true := by rw [hal.assignable]; exact hfit
  obtain ⟨o1, o2⟩ := (resolveClass_links e.toSetting hl).op (op := VmOp.resolveClass f.method.cls x.catchType) rfl
  simp only [covers] at hx
  simp [findHandler.go, hx, h0, o1, o2, hcell, hobj, ha, hb, hf, VmOp.dirties, VmOp.acts]
theorem mHandled {e : Env} {u : State} {a : Addr} {g : JFrame} {r : List Frame} {pc : Nat} {vm' : Vm} (hfind : ∀ (Q : Handler → Pre) (E : CtlPost) (d : Bool) (acts : List Action), wp (findHandler g a) Q E e d acts u ↔ Q (.found pc) d acts (u.setVm vm')) : (stepThrowing e u a (.java g :: r)).1 = (u.setVm vm').setFrames (.java { g with pc := pc, stack := [.ref a] } :: r) := by
  simp only [stepThrowing, searchFrame, vmDo]
  generalize hr : Sem.go _ e false [] u = res
  obtain ⟨as, rfl, -⟩ := Sem.eq_ok_of hr (a := Handler.found pc) (s' := u.setVm vm') (acts' := []) (by simp [hfind _ _ _ _])
  rfl
theorem mCaught {tb : Tables} {e : Env} {s target : State} {g : JFrame} {c : Code} {below : List Frame} {a : Addr} (h : At s g.method c below) {pc : Nat} {vm' : Vm}
    (hfind : ∀ (Q : Handler → Pre) (E : CtlPost) (d : Bool) (acts : List Action), wp (findHandler g a) Q E e d acts ((s.setTop g).pushFrame (.throwing a)) ↔ Q (.found pc) d acts (((s.setTop g).pushFrame (.throwing a)).setVm vm'))
    (hrest : Steps tb e below ((s.setVm vm').setTop { g with pc := pc, stack := [.ref a] }) target) : Steps tb e below ((s.setTop g).pushFrame (.throwing a)) target := by
  obtain ⟨hgo, hw⟩ := h.throwing a
  refine Steps.head hgo hw ?_
  rw [stepThread_throwing (frames_entered h.top _), mHandled hfind]
  obtain ⟨g₀, hg⟩ := Option.isSome_iff_exists.mp h.top
  obtain ⟨r, hr⟩ := State.topJava?_eq_some.mp hg
  have hr' : (s.setVm vm').frames = .java g₀ :: r := hr
  rw [State.setTop_of_frames _ hr'] at hrest
  have e1 : ∀ (u : State) (A C : List Frame), ((u.setFrames A).setVm vm').setFrames C = (u.setVm vm').setFrames C := fun u A C => by
    rw [show (u.setFrames A).setVm vm' = (u.setVm vm').setFrames A from rfl, State.setFrames_setFrames]
  rw [hr, List.tail_cons, State.pushFrame, e1, State.setTop_of_frames _ hr, e1]
  exact hrest
theorem mCatch {p : Program} {l : Launch} {e : Env} {R : Room} {s : State} {m : MethodId} {args : Array Value} {below : List Frame} {meth : Method} {c : Code} {T : State} {locs : List Loc} {cells slots : Nat} (Xs : Stand p l e R s m args below meth c T locs cells slots) {g : JFrame} (hg : g.method = m) {own name : String} (hown : s.vm.findClass own = some m.cls) {x : ExceptionTableEntry} (htab : c.exceptionTable.toList = [x]) (hx : covers x g.pc = true) (h0 : x.catchType ≠ 0)
    (hlink : (Cond.classLink own x.catchType name).before args s = true) {cell : Cell} {a : Addr} (hcT : s.vm.findClass name = some cell.cls) (hcell : T.heap[a]? = some cell) (hvm : cell.vm = .none) (hfit : s.vm.assignable cell.cls cell.cls = true) :
    ∃ vm', Stand p l e R s m args below meth c (T.setVm vm') locs cells slots ∧ ∀ t, Steps p.tables e below ((T.setVm vm').setTop { g with pc := x.handlerPc, stack := [.ref a] }) t → Steps p.tables e below ((T.setTop g).pushFrame (.throwing a)) t := by
  obtain ⟨c', hc', hcl⟩ := Cond.classLink_spec hown hlink e.platform (by rw [Xs.admits.platform])
  cases hcT.symm.trans hc'
  obtain ⟨dk, _, _, kt, hd, _, _, _, _, hkt, _, hopen⟩ := hcl.here
  have hW' : s.WarmedH (T.vm.noted m.cls x.catchType (.cls cell.cls)) := Xs.warmed.noted hd hopen (State.rightAt_cls hcl)
  have hal := Xs.warmed.alike
  obtain ⟨kt', hkt', -⟩ := hal.2.2 _ _ hkt
  have hfit' : T.vm.assignable cell.cls cell.cls = true := by rw [hal.assignable]; exact hfit
  refine ⟨_, Xs.noted hW', fun t hrest => ?_⟩
  subst hg
  refine mCaught Xs.here (fun Q E d acts => ?_) hrest
  rw [W.findHandler_eq (s := (T.setTop g).pushFrame (.throwing a)) (meth := meth) (code := c) Xs.method' Xs.code, htab]
  exact mFind (s := (T.setTop g).pushFrame (.throwing a)) hx h0 (Xs.warmed.classLinks hcl) hcell (fun k h => by rw [hvm] at h; cases h) hkt' hkt' hfit'
section XD
variable {X : mX} {B : Nat} {own : String} {cc : ByteArray} {G : mG} {nc ns nx : Nat} {sh : Nat → Option mSh} {I : mI} {P : mP} {pc : Nat} {ls : List (Option Value)} {st : List Value}
variable {nm : String} {ret : Option FieldType} {fr lo mc ms : Nat} {Po Po0 PoT0 : mPo} {d : mMd} {mc0 ms0 idx n : Nat}
/-- the method's one handler -/
def mH (own : String) (x : ExceptionTableEntry) (G : mG) : Prop := match G with
  | (p, e, R, s, m, args, below, meth, c, Q) => c.exceptionTable.toList = [x] ∧ x.catchType ≠ 0 ∧ ∀ cid, s.vm.findClass (mCn 11) = some cid → s.vm.assignable cid cid = true
/-- a call that returns, or throws into the handler -/
theorem V_callC {x : ExceptionTableEntry} {ci a : Nat} {As rest : List Value} (hM : mM X B nm ret fr lo mc ms Po G) (hH : mH own x G) (hx : covers x pc = true) (hw : Cond.classLink own x.catchType (mCn 11) ∈ mW) (hc : mCv own idx d n) (hs : sh a = some (.inl ci)) (hcn : mCn ci = d.1.cls) (hE : EvX X B d mc0 ms0 (.ref (B + a) :: As) nx sh I P Po0 PoT0) (hn : As.length = n) (hr : mRoom d nc ns fr lo mc ms mc0 ms0) (hst : (rest.map fun v => v.category).sum ≤ 8) (hd : decode cc pc = .ok (.invokevirtual idx, 3)) (hstk : st = As.reverse ++ .ref (B + a) :: rest)
    (kt : ∀ (y nx' : Nat) (sh' : Nat → Option mSh) (I' : mI) (P' : mP), PoT0 (some (.ref y)) nx' sh' I' P' → ∃ b, y = B + b ∧ sh' b = some (.inl 11) ∧ V X B own cc G (nc + mc0) (ns + ms0) nx' sh' I' P' x.handlerPc ls [.ref (B + b)])
    (kk : ∀ (v : Option Value) (nx' : Nat) (sh' : Nat → Option mSh) (I' : mI) (P' : mP), Po0 v nx' sh' I' P' → V X B own cc G (nc + mc0) (ns + ms0) nx' sh' I' P' (pc + 3) ls (v.toList ++ rest)) : V X B own cc G nc ns nx sh I P pc ls st := by
  subst hstk
  obtain ⟨p, e, R, s, m, args, below, meth, c, Q⟩ := G
  intro C H locs la hR hL hl T hT0 Xs
  obtain ⟨htab, h0, has⟩ := hH
  have joinL : ∀ L : List Loc, (∀ q ∈ L, B ≤ q.base) → ∀ q ∈ locs ++ L, B ≤ q.base := fun L h q hq => (List.mem_append.mp hq).elim (hL q) (h q)
  rcases mCallX hM hc hs hcn hE hn hr hst hd C hR hl hT0 Xs with ⟨v, nx', sh', I', P', T', L, hp, hR', hL', X', go⟩ | ⟨y, nx', sh', I', P', T', L, hp, hR', hL', X', go⟩
  · obtain ⟨t2, a1, b1⟩ := kk v nx' sh' I' P' hp C T'.heap (locs ++ L) la hR' (joinL L hL') hl T' rfl X'
    exact ⟨t2, go t2 a1, b1⟩
  · obtain ⟨b, rfl, sb, hv⟩ := kt y nx' sh' I' P' hp
    obtain ⟨hci, V0, cell, q1, q2, q3, -⟩ := (hR'.2.2 b _ sb).obj
    have hcls := ((C.2.2.2.2.1).1.1 _ _ (mCl_at hci)).2
    have hfc : s.vm.findClass (mCn 11) = some cell.cls := by rw [q2]; exact hcls.1
    obtain ⟨vm', X2, go2⟩ := mCatch X' (g := F0 m pc la rest) rfl C.2.2.1 htab hx h0 (C.2.2.2.1 _ hw) hfc q1 q3 (has _ hfc)
    obtain ⟨t2, a1, b1⟩ := hv C T'.heap (locs ++ L) la hR' (joinL L hL') hl (T'.setVm vm') rfl X2
    exact ⟨t2, go t2 (go2 t2 a1), b1⟩
end XD
