/-! ===== the law from its entry ===== -/
theorem same_new {s s' : State} {L : List Loc} {k n : Nat} (h : s.sameButNew s' L k n) (hL : ∀ q ∈ L, s.heap.size ≤ q.base) : s.sameButNew s' [] k n := by
  obtain ⟨h1, h2, h3, h4, h5, h6⟩ := h
  refine ⟨h1, h2, h3, h4, h5, fun a c hc => ?_⟩
  obtain ⟨c', a1, a2, a3, a4⟩ := h6 a c hc
  refine ⟨c', a1, a2, a3, fun i _ => a4 i (fun hm => ?_)⟩
  have h7 := hL _ hm
  have h8 := (Array.getElem?_eq_some_iff.mp hc).1
  exact absurd h8 (Nat.not_lt.mpr h7)
theorem law_start {X : mX} {B : Nat} {G : mG} {b L : Nat} {xs : Nat → Int32} {nm : String} {I : mI} {P : mP} (hM : mM X B nm (some .boolean) 13 474 601024 7293034 (fun v _ _ _ _ => v = some (.int 1)) G) (hS : mScp X B b L xs G) (hL : L ≤ 4096) : V X B RL cL_law G 0 0 0 sh00 I P 0 [some (.ref b), none, none, none] [] := by
  refine V_new (ci := 10) hM (by decide) klL_7 kt10 ki10 (fun _ => df10) (Nat.le_of_ble_eq_true rfl) (Nat.le_of_ble_eq_true rfl) dL_law_0 ?_
  refine V_dup rfl dL_law_3 ?_
  refine V_cI0 hM cvL_9 (e_X10_init (X := X) (B := B)) ⟨Nat.le_of_ble_eq_true rfl, Nat.le_of_ble_eq_true rfl, Nat.le_of_ble_eq_true rfl, Nat.le_of_ble_eq_true rfl⟩ (Nat.le_of_ble_eq_true rfl) dL_law_4 (fun v nx1 sh1 I1 P1 h1 => ?_)
  have hv := h1.1
  subst hv
  have hn := h1.2.1
  subst hn
  refine V_st (show _ = [.ref (B + 0)] from rfl) ?_
  refine V_as1 dL_law_7 ?_
  refine V_new (ci := 12) hM (by decide) klL_10 kt12 ki12 (fun _ => df12) (Nat.le_of_ble_eq_true rfl) (Nat.le_of_ble_eq_true rfl) dL_law_8 ?_
  refine V_dup rfl dL_law_11 ?_
  refine V_cI0 hM cvL_12 (e_X12_init (X := X) (B := B) h1.2.2.2.1) ⟨Nat.le_of_ble_eq_true rfl, Nat.le_of_ble_eq_true rfl, Nat.le_of_ble_eq_true rfl, Nat.le_of_ble_eq_true rfl⟩ (Nat.le_of_ble_eq_true rfl) dL_law_12 (fun v nx2 sh2 I2 P2 h2 => ?_)
  have hv := h2.1
  subst hv
  refine V_st (show _ = [.ref (B + 35)] from rfl) ?_
  refine V_as2 dL_law_15 ?_
  refine V_iconst (v := 0) rfl dL_law_16 ?_
  refine V_is3 dL_law_17 ?_
  refine V.widen (a := 76 + 803 * 0) (b := 6548 + 4824 * 0) (Nat.le_of_ble_eq_true rfl) (Nat.le_of_ble_eq_true rfl) ?_
  exact law_loop hM hS hL (L + 1) 0 nx2 sh2 I2 P2 (by omega) (by omega) (St_0 h1 h2)
