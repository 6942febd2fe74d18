/-! ===== a method with one handler; the reference's act ===== -/
def EvW (X : mX) (B : Nat) (d : mMd) (hh : List (Nat × Nat × Nat × Nat)) (mc ms : Nat) (av : List Value) (nx : Nat) (sh : Nat → Option mSh) (I : mI) (P : mP) (Po : mPo) : Prop :=
  Met X.2.2.2.2.2 d.1 (Cond.codeWith d.1 d.2.1 d.2.2.1 d.2.2.2.1 hh :: mW) { frames := d.2.2.2.2.1, cells := mc, slots := ms, locals := d.2.2.2.2.2 } (mPc X B av nx sh I P) (mQc X B Po) mc ms (fun q => B ≤ q)
theorem EvW.of {X : mX} {B : Nat} {d : mMd} {a1 a2 a3 a4 : Nat} {mc ms : Nat} {av : List Value} {nx : Nat} {sh : Nat → Option mSh} {I : mI} {P : mP} {Po : mPo} (h4 : a4 ≠ 0) (hy : plainName d.1.cls = true) (hc : ∀ v ∈ av, v.category = 1) (hn : av.length ≤ d.2.2.1)
    (h : ∀ G : mG, mM X B d.1.name d.2.2.2.1 d.2.2.2.2.1 d.2.2.2.2.2 mc ms Po G → mH d.1.cls ⟨a1, a2, a3, a4⟩ G → V X B d.1.cls d.2.1 G 0 0 nx sh I P 0 (av.map some ++ List.replicate (d.2.2.1 - av.length) none) []) : EvW X B d [(a1, a2, a3, a4)] mc ms av nx sh I P Po := by
  obtain ⟨y, cc, maxL, ret, fr, lo⟩ := d
  refine va_MetW (cc := cc) (maxL := maxL) (ret := ret) (hh := [(a1, a2, a3, a4)]) hy rfl ?_
  intro p e s m args below meth c s₁ Bd hml hv
  obtain ⟨rfl, hR, hK⟩ := hv
  have hts := atoms_spec (ws := Cond.codeWith y cc maxL ret [(a1, a2, a3, a4)] :: mW) Bd.pre
  have hown : s.vm.findClass y.cls = some m.cls := findClass_of_methodNamed Bd.named
  have hnm : meth.name = y.name := (name_of_methodNamed Bd.named Bd.method).1
  have htab : c.exceptionTable.toList = [⟨a1, a2, a3, a4⟩] := by
    obtain ⟨m9, meth9, c9, hn9, k1, k2, -, -, k5, -⟩ := Cond.codeWith_spec (hts _ List.mem_cons_self)
    cases Bd.named.symm.trans hn9
    cases Bd.method.symm.trans k1
    cases (Stand.of_body Bd).code.symm.trans k2
    cases ht : c.exceptionTable.toList with
    | nil => rw [ht] at k5; cases k5
    | cons x xs =>
      rw [ht] at k5
      cases xs with
      | cons z zs => simp at k5
      | nil =>
        simp at k5
        obtain ⟨x1, x2, x3, x4⟩ := x
        obtain ⟨rfl, rfl, rfl, rfl⟩ := k5
        rfl
  have h11 := hK.1.1 _ _ (mCl_at (ci := 11) (by decide))
  have h1 := h (p, e, { frames := fr, cells := mc, slots := ms, locals := lo }, s, m, av.toArray, below, meth, c, MQ below (mQc X B Po) av.toArray s mc ms (fun q => B ≤ q)) ⟨Bd.returns, rfl, rfl, rfl, rfl, hnm, fun _ h => h⟩ ⟨htab, h4, fun cid hcid => by cases h11.2.1.symm.trans hcid; exact va_assign h11.2⟩ ⟨Bd.exec, Bd.bytes, hown, fun w hw => hts w (List.mem_cons_of_mem _ hw), hK, Bd.notSynchronized⟩ s.heap [] _ hR (fun q h => by cases h) (mLs_entry hml av hc hn)
  rw [lg_entry_eq]
  exact h1
section WC
variable {X : mX} {B : Nat} {own : String} {cc : ByteArray} {G : mG} {nc ns nx : Nat} {sh : Nat → Option mSh} {I : mI} {P : mP} {pc : Nat} {ls : List (Option Value)} {st : List Value}
variable {nm : String} {ret : Option FieldType} {fr lo mc ms : Nat} {Po Po0 : mPo} {d : mMd} {mc0 ms0 idx n : Nat} {hh : List (Nat × Nat × Nat × Nat)}
/-- a call of a method with a handler -/
theorem V_callW {ci a : Nat} {As rest : List Value} (hM : mM X B nm ret fr lo mc ms Po G) (w1 : Cond.methodLink own idx d.1 ∈ mW) (w2 : Cond.instanceMethod d.1 ∈ mW) (w3 : Cond.selects d.1.cls d.1 d.1 ∈ mW) (w4 : Cond.codeWith d.1 d.2.1 d.2.2.1 d.2.2.2.1 hh ∈ mW) (w5 : Cond.initialized d.1.cls ∈ mW) (w6 : mNoMH d n) (hs : sh a = some (.inl ci)) (hcn : mCn ci = d.1.cls) (hE : EvW X B d hh mc0 ms0 (.ref (B + a) :: As) nx sh I P Po0) (hn : As.length = n) (hr : mRoom d nc ns fr lo mc ms mc0 ms0) (hst : (rest.map fun v => v.category).sum ≤ 8) (hd : decode cc pc = .ok (.invokevirtual idx, 3)) (hstk : st = As.reverse ++ .ref (B + a) :: rest)
    (kk : ∀ (v : Option Value) (nx' : Nat) (sh' : Nat → Option mSh) (I' : mI) (P' : mP), Po0 v nx' sh' I' P' → V X B own cc G (nc + mc0) (ns + ms0) nx' sh' I' P' (pc + 3) ls (v.toList ++ rest)) : V X B own cc G nc ns nx sh I P pc ls st := by
  subst hstk
  obtain ⟨p, e, R, s, m, args, below, meth, c, Q⟩ := G
  intro C H locs la hR hL hl T hT0 Xs
  have joinL : ∀ L : List Loc, (∀ q ∈ L, B ≤ q.base) → ∀ q ∈ locs ++ L, B ≤ q.base := fun L h q hq => (List.mem_append.mp hq).elim (hL q) (h q)
  obtain ⟨-, rfl, rfl, rfl, rfl, -, -⟩ := hM
  obtain ⟨hx, hb, hown, hts, hK, hlk⟩ := id C
  obtain ⟨hci, V0, cell, q1, q2, q3, -⟩ := (hR.2.2 a _ hs).obj
  have hcls := (hK.1.1 _ _ (mCl_at hci)).2
  obtain ⟨y, cy, maxL, rt, fr0, lo0⟩ := d
  obtain ⟨mk, methM, hnamed, hmethM, hstM, habM⟩ := Cond.instanceMethod_spec (hts _ w2)
  obtain ⟨mk9, methM', cM, hnamed9, hmethM', hcM, -, hlM, -, -, -, hsigM⟩ := Cond.codeWith_spec (hts _ w4)
  cases hnamed.symm.trans hnamed9
  cases hmethM.symm.trans hmethM'
  obtain ⟨c2, r2, m2, p1, p2, p3, p4, kP, hkP, hkPi⟩ := Cond.selects_spec (hts _ w3)
  have hcl2 : s.vm.findClass y.cls = some cell.cls := by rw [q2, show y.cls = mCn ci from hcn.symm]; exact hcls.1
  cases hcl2.symm.trans p1
  cases (State.methodFound?_of_named hnamed ⟨w6.1, w6.2.1⟩).symm.trans p2
  cases hnamed.symm.trans p3
  have hselP : selectMethod e.platform s.vm cell.cls mk = .method mk := by rw [Launch.admits_selectMethod Xs.admits]; exact p4
  have hlen : As.length = methM.sig.parameters.length := by
    have h2 := w6.2.2
    rw [hsigM] at h2
    rw [hn]
    exact Option.some.inj h2.symm
  obtain ⟨vm₁, X₁, hstep₁⟩ := Xs.invokevirtual hx hown (hts _ w1) hnamed hmethM hstM hkP hkPi ⟨w6.1, w6.2.1⟩ (a := B + a) (cell := cell) (by rw [hT0]; exact q1)
    (fun z h => by rw [q3] at h; cases h) hselP hmethM habM hkP hkPi (g := F0 m pc la (As.reverse ++ .ref (B + a) :: rest)) rfl (argsL := As) (rest := rest) hlen rfl (by rw [hb]; exact hd)
  have hW0 := X₁.warmed
  have pay : ∀ w ∈ mW, ∀ (a' : Array Value) (U : State), s.WarmedH U.vm → w.before a' U = true := fun w h a' U hW => pay_in hts mW_good _ h a' U hW
  have hn1 := X₁.named hnamed
  obtain ⟨mk8, methY, cY, hn8, hmY, hcY, -, hlY, -⟩ := Cond.codeWith_spec (pay _ w4 #[] (T.setVm vm₁) hW0)
  cases hn1.symm.trans hn8
  obtain ⟨kY, hkY, -⟩ := className_of_methodNamed hn1
  have hinitY : kY.init = .initialized := Cond.initialized_spec (findClass_of_methodNamed hn1) hkY (pay _ w5 #[] (T.setVm vm₁) hW0)
  have happ : (headSpec (Cond.codeWith y cy maxL rt hh :: mW) { frames := fr0, cells := mc0, slots := ms0, locals := lo0 }).appliesLoose y e.platform ((T.setVm vm₁).calling (F0 m pc la rest) mk (Value.ref (B + a) :: As).toArray) = true :=
    Spec.appliesLoose_calling (g := F0 m pc la rest) X₁.here (by rw [hb]; exact hd) hn1 hkY hinitY
      (X₁.room_calling (g := F0 m pc la rest) (R' := { frames := fr0, cells := mc0, slots := ms0, locals := lo0 }) hl.1 hmY hcY hr.1 (by rw [hlY]; have h9 := lv_room (m := m) (pc := pc) (ls := la) (rest := rest) hst; have h8 := hr.2.1; exact Nat.le_trans (Nat.add_le_add_right (Nat.add_le_add_right h9 _) _) h8) hr.2.2.1 hr.2.2.2)
      (atoms_intro fun w hw => (List.mem_cons.mp hw).elim (fun h => by rw [h]; exact pay _ w4 _ _ hW0) (fun h => pay _ h _ _ hW0))
  have hfr : ((T.setVm vm₁).setTop (F0 m pc la rest)).frames = [.java (F0 m pc la rest)] ++ below := by rw [State.frames_setTop' _ X₁.here.top, X₁.tail]; rfl
  have hP : mPc X B (.ref (B + a) :: As) nx sh I P (Value.ref (B + a) :: As).toArray ((T.setVm vm₁).calling (F0 m pc la rest) mk (Value.ref (B + a) :: As).toArray) :=
    mPc_blind _ _ _ _ ⟨rfl, by rw [show (T.setVm vm₁).heap = T.heap from rfl, hT0]; exact hR, hK.warm hW0⟩
  unfold EvW Met at hE
  obtain ⟨o, s₂, hsteps, -, hend, hq⟩ := Steps.callFree hE p X₁.admits X₁.cas X₁.clock (acts := []) hfr happ hP trivial
  rw [State.frames_setTop' _ X₁.here.top, X₁.tail] at hend
  obtain ⟨⟨v, nx', sh', I', P', rfl, hp, hR'⟩, L, hFE, hL'⟩ := hq
  obtain ⟨hW, hsame⟩ := hFE.2
  obtain ⟨T', X', -, -, ht⟩ := X₁.outOf (g := F0 m pc la rest) rfl (by rw [hb]; exact hd) hend hW hsame
  have hheap : s₂.heap = T'.heap := by rw [ht]; rfl
  rw [ht] at hsteps
  obtain ⟨t2, z1, z2⟩ := kk v nx' sh' I' P' hp C T'.heap (locs ++ L) la (by rw [← hheap]; exact hR') (joinL L hL') hl T' rfl X'
  exact ⟨t2, hstep₁ _ fun acts => by rw [doInvoke_state]; exact hsteps.trans z1, z2⟩
end WC
def maF (n : Nat) (I J : mI) : Prop := (∀ k, k < 14 ∨ 22 < k → J 35 k = I 35 k) ∧ J 35 14 = 0 ∧ ∀ c k, c ≠ 35 → ¬ (37 ≤ c ∧ c ≤ 40 ∧ k = n) → ¬ (41 ≤ c ∧ c ≤ 46 ∧ 12 * n ≤ k ∧ k < 12 * n + 12) → J c k = I c k
/-- the reference's act, past RANGE -/
def maPo (n m : Nat) (q : aS) (day : Int32) (nx : Nat) (sh : Nat → Option mSh) (I : mI) (P : mP) : mPo := fun v nx' sh' I' P' => nx = nx' ∧ sh = sh' ∧ P = P' ∧ ∃ J : mI, maF n I J ∧
  ((v = some (.int (-1)) ∧ I' = J ∧ ∃ (k : Int32) (t d : Nat), J 35 20 = k ∧ ¬ k = 0 ∧ J 35 21 = nI t ∧ Rno (nI n) (I 48) m 0 q d k t) ∨
   (∃ (d : Nat) (q' : aS), RdM J n q' ∧ (∀ z, aRun (nI n) (I 48) m (z + d) 0 q = .inl q') ∧ J 35 20 = 0 ∧ J 35 21 = -1 ∧ ((n = 12 ∧ v = some (.int (-3)) ∧ I' = J) ∨ (n < 12 ∧ v = some (.int (nI n)) ∧ I' = mUp (mUp J 36 n day) 35 0 (nI (n + 1))))))
def maC (I : mI) (n : Nat) (day : Int32) : Bool := inB day 10000 && (decide (n = 0) || decide (I 36 (n - 1) ≤ day))
section MA
variable {X : mX} {B nx : Nat} {sh : Nat → Option mSh} {I : mI} {P : mP}
abbrev maI (I : mI) (m : Nat) : mI := mUp (mUp (mUp I 35 15 (nI m)) 35 14 0) 35 17 0
abbrev maJ (I : mI) (m : Nat) : mI := mUp (mUp (maI I m) 35 20 0) 35 21 (-1)
theorem maF_of {n m : Nat} {J K : mI} (h : tkF (maJ I m) J) (k : RmF n J K) : maF n I K := by
  refine ⟨fun i hi => ?_, ?_, fun c i h1 h2 h3 => ?_⟩
  · rw [k.1 i (by omega), h.2 i (by omega)]; unfold maJ maI; rw [mUp_k (by omega), mUp_k (by omega), mUp_k (by omega), mUp_k (by omega), mUp_k (by omega)]
  · rw [k.1 14 (by omega), h.2 14 (by omega)]; simp [maJ, maI, mUp]
  · rw [k.2 c i h1 h2 h3, h.1 c i h1]; simp [maJ, maI, mUp, h1]
theorem maG_of {n m : Nat} {J K : mI} (h : tkF (maJ I m) J) (k : RmG n J K) : maF n I K := by
  refine ⟨fun i hi => ?_, ?_, fun c i h1 h2 h3 => ?_⟩
  · rw [k.1 i (by omega), h.2 i (by omega)]; unfold maJ maI; rw [mUp_k (by omega), mUp_k (by omega), mUp_k (by omega), mUp_k (by omega), mUp_k (by omega)]
  · rw [k.1 14 (by omega), h.2 14 (by omega)]; simp [maJ, maI, mUp]
  · rw [k.2 c i h1 h2 h3, h.1 c i h1]; simp [maJ, maI, mUp, h1]
theorem tkF.refl {J : mI} : tkF J J := ⟨fun _ _ _ => rfl, fun _ _ => rfl⟩
theorem ma_48 {m : Nat} : maJ I m 48 = I 48 := funext fun j => by simp [maJ, maI, mUp]
theorem t_X12_act {G : mG} {m n : Nat} {q : aS} {day : Int32} (hV : MW sh P) (hm8 : m ≤ 800) (hn : I 35 0 = nI n) (hn12 : n ≤ 12) (hby : ∀ k, isByte (I 48 k)) (h0 : q.1 0 = 0) (h6 : q.1 6 = -1) (h7 : q.1 7 = -1) (h8 : q.1 8 = 0) (hq : q.2.1 = 0) (hM : mM X B "act" (some .int) 9 195 0 0 (maPo n m q day nx sh I P) G) (hH : mH RX12 ⟨60, 72, 75, 171⟩ G) : V X B RX12 cX12_act G 0 0 nx sh (maI I m) P 50 [some (.ref (B + 35)), some (.int day), none] [] := by
  have s35 : sh 35 = some (.inl 12) := hV.1 35 _ rfl
  have s_firstDay : sh 36 = some (.inr (0, 13)) := hV.1 36 _ rfl
  have p_firstDay : P 35 1 = some 36 := hV.2 1 36 rfl
  have s_stop : sh 47 = some (.inl 11) := hV.1 47 _ rfl
  have p_stop : P 35 12 = some 47 := hV.2 12 47 rfl
  have hE := e_X12_scan (X := X) (B := B) (nx := nx) (sh := sh) (I := maJ I m) (P := P) (m := m) (e := 0) hV (by simp [maJ, maI, mUp]) hm8 (by rw [ma_48]; exact hby) (Nat.zero_le m) (by simp [maJ, maI, mUp]; rfl)
  have hE2 : Ev X B mdX12_scan 0 0 [.ref (B + 35)] nx sh (maJ I m) P (tkR none nx sh (maJ I m) P (I 48) m 0 True) := by
    refine Ev.weaken hE ?_
    rintro _ _ _ _ _ ⟨rfl, rfl, rfl, rfl, rfl⟩
    refine ⟨rfl, rfl, rfl, rfl, trivial, ⟨?_, ?_⟩, nxM_tkF⟩
    · exact nxM_48.trans ma_48
    · exact nxM_ok (by simp [maJ, maI, mUp]) hm8 (Nat.zero_le m) (by rw [ma_48]; exact hby)
  refine V_aln dX12_act_50 rfl ?_
  refine V_iconst (v := 0) rfl dX12_act_51 ?_
  refine V_putI dX12_act_52 flX12_9 (by assumption) rfl rfl ?_
  refine V_aln dX12_act_55 rfl ?_
  refine V_iconst (v := -1) rfl dX12_act_56 ?_
  refine V_putI dX12_act_57 flX12_16 (by assumption) rfl rfl ?_
  refine V_aln dX12_act_60 rfl ?_
  refine V_callC hM hH rfl klX12_171 cvX12_68 (by assumption) rfl (EvX.ofR (PoT := noPo) hE2) rfl ⟨Nat.le_of_ble_eq_true rfl, Nat.le_of_ble_eq_true rfl, Nat.le_of_ble_eq_true rfl, Nat.le_of_ble_eq_true rfl⟩ (Nat.le_of_ble_eq_true rfl) dX12_act_61 rfl (fun _ _ _ _ _ h => h.elim) ((fun v nx2 sh2 J2 P2 h2 => ?_))
  obtain ⟨rfl, rfl, rfl, rfl, -, T2, F2⟩ := h2
  have hna2 : J2 35 0 = nI n := by rw [F2.2 0 (by omega)]; simp [maJ, maI, mUp]; exact hn
  refine V_aln dX12_act_64 rfl ?_
  refine V_aln dX12_act_65 rfl ?_
  refine V_getIv dX12_act_66 flX12_118 (by assumption) rfl (hna2) ?_
  refine V_callC hM hH rfl klX12_171 cvX12_262 (by assumption) rfl (x_X12_readAct hV hn12 hn12 T2 hna2 h0 h6 h7 h8 hq) rfl ⟨Nat.le_of_ble_eq_true rfl, Nat.le_of_ble_eq_true rfl, Nat.le_of_ble_eq_true rfl, Nat.le_of_ble_eq_true rfl⟩ (Nat.le_of_ble_eq_true rfl) dX12_act_69 rfl ((fun y nx3 sh3 J3 P3 h3 => ?_)) ((fun v nx3 sh3 J3 P3 h3 => ?_))
  · obtain ⟨hy, rfl, rfl, rfl, G3, k, t, d, k1, k2, k3, k4⟩ := h3
    cases hy
    refine ⟨47, rfl, s_stop, ?_⟩
    refine V_as2 dX12_act_75 ?_
    refine V_iconst (v := -1) rfl dX12_act_76 ?_
    exact V_iret hM dX12_act_77 ⟨rfl, rfl, rfl, J3, maG_of F2 G3, Or.inl ⟨rfl, rfl, k, t, d, k1, k2, k3, k4⟩⟩
  obtain ⟨rfl, rfl, rfl, rfl, F3, d, q', R3, c3⟩ := h3
  have hna3 : J3 35 0 = nI n := by rw [F3.1 0 (by omega)]; exact hna2
  have hf0 : J3 35 20 = 0 := by rw [F3.1 20 (by omega), F2.2 20 (by omega)]; simp [maJ, maI, mUp]
  have hf1 : J3 35 21 = -1 := by rw [F3.1 21 (by omega), F2.2 21 (by omega)]; simp [maJ, maI, mUp]
  refine V_goto (tgt := 78) dX12_act_72 rfl ?_
  refine V_aln dX12_act_78 rfl ?_
  refine V_getIv dX12_act_79 flX12_118 (by assumption) rfl (hna3) ?_
  refine V_bipush (v := 12) rfl dX12_act_82 ?_
  refine V_icmp_ne (tgt := 90) dX12_act_84 rfl (fun c84 => ?_) (fun c84 => ?_)
  · have hlt : n < 12 := Nat.lt_of_le_of_ne hn12 (fun h => c84 (by rw [h]; rfl))
    refine V_aln dX12_act_90 rfl ?_
    refine V_getR dX12_act_91 flX12_168 (by assumption) rfl (by assumption) ?_
    refine V_aln dX12_act_94 rfl ?_
    refine V_getIv dX12_act_95 flX12_118 (by assumption) rfl (hna3) ?_
    refine V_iln dX12_act_98 rfl ?_
    refine V_iastN dX12_act_99 (by assumption) (by omega) (by omega) ?_
    refine V_aln dX12_act_100 rfl ?_
    refine V_dup rfl dX12_act_101 ?_
    refine V_getIv dX12_act_102 flX12_118 (by assumption) rfl ((mUp_c (by decide)).trans hna3) ?_
    refine V_iconst (v := 1) rfl dX12_act_105 ?_
    refine V_iadd dX12_act_106 ?_
    refine V_top (nI_inc' n) ?_
    refine V_putI dX12_act_107 flX12_118 (by assumption) rfl rfl ?_
    refine V_aln dX12_act_110 rfl ?_
    refine V_getIv dX12_act_111 flX12_118 (by assumption) rfl (mUp_s) ?_
    refine V_iconst (v := 1) rfl dX12_act_114 ?_
    refine V_isub dX12_act_115 ?_
    refine V_top (show nI (n + 1) - 1 = nI n from (pk_sub (a := n + 1) (b := 1) (by omega))) ?_
    exact V_iret hM dX12_act_116 (⟨rfl, rfl, rfl, J3, maF_of F2 F3, Or.inr ⟨d, q', R3, c3, hf0, hf1, Or.inr ⟨hlt, rfl, rfl⟩⟩⟩)
  · have h12 : n = 12 := nI_eqN (a := n) (b := 12) (by omega) (by decide) (by first | exact c84 | exact Classical.not_not.mp c84)
    refine V_bipush (v := -3) rfl dX12_act_87 ?_
    exact V_iret hM dX12_act_89 (⟨rfl, rfl, rfl, J3, maF_of F2 F3, Or.inr ⟨d, q', R3, c3, hf0, hf1, Or.inl ⟨h12, rfl, rfl⟩⟩⟩)
theorem ma_c29 {n : Nat} (hn : n ≤ 12) (c : nI n ≤ 0) : n = 0 := by
  have := nN_le (a := n) (b := 0) c (by omega) (by decide)
  omega
theorem e_X12_act {m n : Nat} {q : aS} {day : Int32} (hV : MW sh P) (hm : I 35 14 = nI m) (hm8 : m ≤ 800) (hn : I 35 0 = nI n) (hn12 : n ≤ 12) (hby : ∀ k, isByte (I 48 k)) (h0 : q.1 0 = 0) (h6 : q.1 6 = -1) (h7 : q.1 7 = -1) (h8 : q.1 8 = 0) (hq : q.2.1 = 0) (hx : maC I n day = true) : EvW X B mdX12_act [(60, 72, 75, 171)] 0 0 [.ref (B + 35), .int day] nx sh I P (maPo n m q day nx sh I P) := by
  have s35 : sh 35 = some (.inl 12) := hV.1 35 _ rfl
  have s_firstDay : sh 36 = some (.inr (0, 13)) := hV.1 36 _ rfl
  have p_firstDay : P 35 1 = some 36 := hV.2 1 36 rfl
  rw [maC, Bool.and_eq_true, Bool.or_eq_true, decide_eq_true_eq, decide_eq_true_eq] at hx
  have hn' : maI I m 35 0 = nI n := by simp [maI, mUp]; exact hn
  have hfd : maI I m 36 (n - 1) = I 36 (n - 1) := by simp [maI, mUp]
  refine EvW.of (by decide) (by decide) (by simp [Value.category]) (by simp) (fun G hM hH => ?_)
  have hM : mM X B "act" (some .int) 9 195 0 0 (maPo n m q day nx sh I P) G := hM
  show V X B RX12 cX12_act G 0 0 nx sh I P 0 [some (.ref (B + 35)), some (.int day), none] []
  refine V_aln dX12_act_0 rfl ?_
  refine V_aln dX12_act_1 rfl ?_
  refine V_getIv dX12_act_2 flX12_253 (by assumption) rfl (hm) ?_
  refine V_putI dX12_act_5 flX12_23 (by assumption) rfl rfl ?_
  refine V_aln dX12_act_8 rfl ?_
  refine V_iconst (v := 0) rfl dX12_act_9 ?_
  refine V_putI dX12_act_10 flX12_253 (by assumption) rfl rfl ?_
  refine V_aln dX12_act_13 rfl ?_
  refine V_iconst (v := 0) rfl dX12_act_14 ?_
  refine V_putI dX12_act_15 flX12_30 (by assumption) rfl rfl ?_
  refine V_iln dX12_act_18 rfl ?_
  refine V_cS1d hM cvX12_259 (e_X12_isDay) ⟨Nat.le_of_ble_eq_true rfl, Nat.le_of_ble_eq_true rfl, Nat.le_of_ble_eq_true rfl, Nat.le_of_ble_eq_true rfl⟩ (Nat.le_of_ble_eq_true rfl) dX12_act_19 ?_
  rw [hx.1]
  refine V_ifeq_b (tgt := 47) dX12_act_22 rfl (fun c22 => ?_) (fun c22 => ?_)
  · exact absurd c22 (by decide) --done
  · refine V_aln dX12_act_25 rfl ?_
    refine V_getIv dX12_act_26 flX12_118 (by assumption) rfl (hn') ?_
    refine V_if_le (tgt := 50) dX12_act_29 rfl (fun c29 => ?_) (fun c29 => ?_)
    · exact t_X12_act hV hm8 hn hn12 hby h0 h6 h7 h8 hq hM hH
    · refine V_iln dX12_act_32 rfl ?_
      refine V_aln dX12_act_33 rfl ?_
      refine V_getR dX12_act_34 flX12_168 (by assumption) rfl (by assumption) ?_
      refine V_aln dX12_act_37 rfl ?_
      refine V_getIv dX12_act_38 flX12_118 (by assumption) rfl (hn') ?_
      refine V_iconst (v := 1) rfl dX12_act_41 ?_
      refine V_isub dX12_act_42 ?_
      refine V_top (show nI n - 1 = nI (n - 1) from pk_sub (a := n) (b := 1) (Nat.pos_of_ne_zero fun h => c29 (by rw [h]; decide))) ?_
      refine V_ialdNv dX12_act_43 (by assumption) (by omega) (by omega) (hfd) ?_
      refine V_icmp_ge (tgt := 50) dX12_act_44 rfl (fun c44 => ?_) (fun c44 => ?_)
      · exact t_X12_act hV hm8 hn hn12 hby h0 h6 h7 h8 hq hM hH
      · exact absurd (hx.2.resolve_left fun h => c29 (by rw [h]; decide)) c44 --done
theorem e_X12_actR {m n : Nat} {day : Int32} (hV : MW sh P) (hm : I 35 14 = nI m) (hn : I 35 0 = nI n) (hn12 : n ≤ 12) (hx : maC I n day = false) : EvW X B mdX12_act [(60, 72, 75, 171)] 0 0 [.ref (B + 35), .int day] nx sh I P (mDet (some (.int (-2))) nx sh (maI I m) P) := by
  have s35 : sh 35 = some (.inl 12) := hV.1 35 _ rfl
  have s_firstDay : sh 36 = some (.inr (0, 13)) := hV.1 36 _ rfl
  have p_firstDay : P 35 1 = some 36 := hV.2 1 36 rfl
  have hn' : maI I m 35 0 = nI n := by simp [maI, mUp]; exact hn
  have hfd : maI I m 36 (n - 1) = I 36 (n - 1) := by simp [maI, mUp]
  refine EvW.of (by decide) (by decide) (by simp [Value.category]) (by simp) (fun G hM hH => ?_)
  have hM : mM X B "act" (some .int) 9 195 0 0 (mDet (some (.int (-2))) nx sh (maI I m) P) G := hM
  show V X B RX12 cX12_act G 0 0 nx sh I P 0 [some (.ref (B + 35)), some (.int day), none] []
  refine V_aln dX12_act_0 rfl ?_
  refine V_aln dX12_act_1 rfl ?_
  refine V_getIv dX12_act_2 flX12_253 (by assumption) rfl (hm) ?_
  refine V_putI dX12_act_5 flX12_23 (by assumption) rfl rfl ?_
  refine V_aln dX12_act_8 rfl ?_
  refine V_iconst (v := 0) rfl dX12_act_9 ?_
  refine V_putI dX12_act_10 flX12_253 (by assumption) rfl rfl ?_
  refine V_aln dX12_act_13 rfl ?_
  refine V_iconst (v := 0) rfl dX12_act_14 ?_
  refine V_putI dX12_act_15 flX12_30 (by assumption) rfl rfl ?_
  refine V_iln dX12_act_18 rfl ?_
  refine V_cS1d hM cvX12_259 (e_X12_isDay) ⟨Nat.le_of_ble_eq_true rfl, Nat.le_of_ble_eq_true rfl, Nat.le_of_ble_eq_true rfl, Nat.le_of_ble_eq_true rfl⟩ (Nat.le_of_ble_eq_true rfl) dX12_act_19 ?_
  refine V_ifeq_b (tgt := 47) dX12_act_22 rfl (fun c22 => ?_) (fun c22 => ?_)
  · refine V_bipush (v := -2) rfl dX12_act_47 ?_
    exact V_iret hM dX12_act_49 (mDet.rf)
  · refine V_aln dX12_act_25 rfl ?_
    refine V_getIv dX12_act_26 flX12_118 (by assumption) rfl (hn') ?_
    refine V_if_le (tgt := 50) dX12_act_29 rfl (fun c29 => ?_) (fun c29 => ?_)
    · exact absurd hx (by rw [maC, c22, ma_c29 hn12 c29]; simp) --done
    · refine V_iln dX12_act_32 rfl ?_
      refine V_aln dX12_act_33 rfl ?_
      refine V_getR dX12_act_34 flX12_168 (by assumption) rfl (by assumption) ?_
      refine V_aln dX12_act_37 rfl ?_
      refine V_getIv dX12_act_38 flX12_118 (by assumption) rfl (hn') ?_
      refine V_iconst (v := 1) rfl dX12_act_41 ?_
      refine V_isub dX12_act_42 ?_
      refine V_top (show nI n - 1 = nI (n - 1) from pk_sub (a := n) (b := 1) (Nat.pos_of_ne_zero fun h => c29 (by rw [h]; decide))) ?_
      refine V_ialdNv dX12_act_43 (by assumption) (by omega) (by omega) (hfd) ?_
      refine V_icmp_ge (tgt := 50) dX12_act_44 rfl (fun c44 => ?_) (fun c44 => ?_)
      · exact absurd hx (by rw [maC, c22, decide_eq_true c44]; simp) --done
      · refine V_bipush (v := -2) rfl dX12_act_47 ?_
        exact V_iret hM dX12_act_49 (mDet.rf)
end MA
