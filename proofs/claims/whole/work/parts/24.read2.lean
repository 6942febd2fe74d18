/-! ===== the reader: a whole text ===== -/
theorem cpF_o {c k b : Nat} (h : cpF c k = some b) : ∃ ci, csF c = some (.inl ci) := by
  unfold cpF at h
  split at h <;> first | exact ⟨_, rfl⟩ | cases h
theorem csF_lt {c : Nat} {z : mSh} (h : csF c = some z) : c < 35 := by
  unfold csF at h
  split at h <;> first | omega | cases h
theorem CW.mono {sh sh' : Nat → Option mSh} {P P' : mP} {rl nx : Nat} {z : Nat × Nat} (h : CW sh P) (h35 : 35 ≤ nx) (hs : ∀ c z, sh c = some z → sh' c = some z) (hP : ∀ c k, c < nx → c ≠ rl → P' c k = P c k) (srl : sh rl = some (.inr z)) : CW sh' P' := by
  refine ⟨fun c z hc => hs c z (h.1 c z hc), fun c k b hb => ?_⟩
  obtain ⟨ci, hc⟩ := cpF_o hb
  have h1 := h.1 c _ hc
  have h2 := csF_lt hc
  rw [hP c k (by omega) (sh_ne h1 srl (by intro e; cases e))]
  exact h.2 c k b hb
theorem RdFr.trans {dr rl nx : Nat} {sh : Nat → Option mSh} {I : mI} {P : mP} {nx1 : Nat} {sh1 : Nat → Option mSh} {I1 : mI} {P1 : mP} {nx2 : Nat} {sh2 : Nat → Option mSh} {I2 : mI} {P2 : mP} (h1 : RdFr dr rl nx sh I P nx1 sh1 I1 P1) (h2 : RdFr dr rl nx1 sh1 I1 P1 nx2 sh2 I2 P2) : RdFr dr rl nx sh I P nx2 sh2 I2 P2 := by
  obtain ⟨a1, a2, a3, a4, a5⟩ := h1
  obtain ⟨b1, b2, b3, b4, b5⟩ := h2
  exact ⟨by omega, fun c z h => b2 c z (a2 c z h), b3, fun c k h x y => (b4 c k (by omega) x y).trans (a4 c k h x y), fun c k h x => (b5 c k (by omega) x).trans (a5 c k h x)⟩
def RdPo (dr rl nx : Nat) (sh : Nat → Option mSh) (I : mI) (P : mP) (R : aS ⊕ (Int32 × Nat)) : mPo := fun v nx' sh' I' P' => v = none ∧ RdFr dr rl nx sh I P nx' sh' I' P' ∧ match R with
  | .inl q => I' 1 3 = 0 ∧ I' 1 4 = -1 ∧ RdS sh' I' P' dr rl q
  | .inr kt => I' 1 3 = kt.1 ∧ ¬ kt.1 = 0 ∧ I' 1 4 = nI kt.2
/-- before a token -/
def RdI (na : Int32) (f : Nat → Int32) (m dr rl e : Nat) (q : aS) (n : Nat) (sj : Nat → Option mSh) (J : mI) (Q : mP) : Prop :=
  (CW sj Q ∧ J 2 1 = nI m ∧ m ≤ 800 ∧ Q 1 1 = some dr ∧ sj dr = some (.inl 0) ∧ Q dr 1 = some rl ∧ sj rl = some (.inr (5, 12)) ∧ J 1 3 = 0 ∧ 76 ≤ n ∧ ∀ c z, sj c = some z → c < n) ∧ (∀ k, J 3 k = f k) ∧ J 1 2 = na ∧ J 1 8 = nI e ∧ e ≤ m ∧ J 1 4 = -1 ∧ RdS sj J Q dr rl q
theorem wAt_eq {J : mI} {m e : Nat} (hm : m ≤ 800) (he : e ≤ m) : wdB (scnM J m e) m = wAt (J 3) m e := by
  funext i
  have hb := tS_b (f := J 3) he
  have e6 : scnM J m e 1 6 = tK (J 3) m e := by simp [scnM, mUp]
  have e7 : scnM J m e 1 7 = nI (tS (J 3) m e) := by simp [scnM, mUp]
  have e8 : scnM J m e 1 8 = nI (tE (J 3) m e) := by simp [scnM, mUp]
  have e2 : scnM J m e 3 = J 3 := funext fun k => by simp [scnM, mUp]
  unfold wdB wAt
  rw [e6, e7, e8, e2, nI_clamp (by omega)]
theorem RdS.scn {sj : Nat → Option mSh} {J : mI} {Q : mP} {dr rl m e : Nat} {q : aS} (h : RdS sj J Q dr rl q) (s1 : sj 1 = some (.inl 5)) (nd : dr ≠ 1) : RdS sj (scnM J m e) Q dr rl q := by
  have hd : ∀ c k, c ≠ 1 → scnM J m e c k = J c k := fun c k h => by simp [scnM, mUp, h]
  refine ⟨fun j hj => ?_, ?_, h.2.2.1, fun r hr => ?_, h.2.2.2.2⟩
  · rw [← h.1 j hj]
    revert j hj
    exact all9 (by simp [rg, scnM, mUp]) (by simp [rg, scnM, mUp]) (by simp [rg, scnM, mUp]) (by simp [rg, scnM, mUp]) (by simp [rg, scnM, mUp]) (by simp [rg, scnM, mUp]) (hd dr 3 nd) (hd dr 4 nd) (hd dr 5 nd)
  · rw [hd dr 2 nd]; exact h.2.1
  · obtain ⟨a, b, c⟩ := h.2.2.2.1 r hr
    exact ⟨a, b, fun j hj => by rw [hd _ _ (sh_ne b s1 (by decide))]; exact c j hj⟩
/-- at the text's end no step goes on -/
theorem aStep_end {na num : Int32} {w : Nat → Bool} {q : aS} (hq : stOk q) (hw : ∀ i, w i = false) (h0 : ¬ q.1 0 = 0) : aStep na 0 num w q = .inr 1 := by
  obtain ⟨s, e, l, -⟩ := hq
  have hn : ∀ lo hi, nF 0 num lo hi = 1 := fun lo hi => by rw [nF, if_neg (by decide)]
  have hww : wwF w = -1 := by simp [wwF, hw]
  rcases (show s = 0 ∨ s = 1 ∨ s = 2 ∨ s = 3 ∨ s = 4 ∨ s = 5 ∨ s = 6 ∨ s = 7 ∨ s = 8 ∨ s = 9 ∨ s = 10 ∨ s = 11 ∨ s = 12 by omega) with rfl | rfl | rfl | rfl | rfl | rfl | rfl | rfl | rfl | rfl | rfl | rfl | rfl
  · exact absurd e h0
  · rw [aStep_1 e, hn]; rfl
  · rw [aStep_2 e]; simp [hw]
  · rw [aStep_3 e, hn]; rfl
  · rw [aStep_4 e]; simp [hw]
  · rw [aStep_5 e, hn]; rfl
  · rw [aStep_6 e, if_pos hww]
  · rw [aStep_7 e]; simp [hw]
  · rw [aStep_8 e, hn]; rfl
  · rw [aStep_9 e, hn]; rfl
  · rw [aStep_10 e, hn]; rfl
  · rw [aStep_11 e, hn]; rfl
  · rw [aStep_12 e]; rfl
section R2
variable {X : mX} {B nx : Nat} {sh : Nat → Option mSh} {I : mI} {P : mP}
theorem x_X5_read {G : mG} {Po : mPo} {nc ns mc ms i : Nat} {na : Int32} (s1 : sh 1 = some (.inl 5)) (hM : mM X B "read" none 9 190 mc ms Po G) (h1 : nc ≤ mc) (h2 : ns ≤ ms) (hx : ¬ I 1 3 = 0 ∨ I 1 6 = 0) (hp : Po none nx sh I P) : V X B RX5 cX5_read G nc ns nx sh I P 39 [some (.ref (B + 1)), some (.int na), some (.int (nI i))] [] := by
  refine V.widen h1 h2 ?_
  refine V_iln dX5_read_39 rfl ?_
  refine V_sipush (v := 800) rfl dX5_read_40 ?_
  refine V_icmp_gt (tgt := 88) dX5_read_43 rfl (fun c43 => ?_) (fun c43 => ?_)
  · exact V_vret hM dX5_read_88 (hp)
  · refine V_aln dX5_read_46 rfl ?_
    refine V_getI dX5_read_47 flX5_29 (by assumption) rfl ?_
    refine V_if_ne (tgt := 88) dX5_read_50 rfl (fun c50 => ?_) (fun c50 => ?_)
    · exact V_vret hM dX5_read_88 (hp)
    · have c50 : I 1 3 = 0 := by first | exact c50 | exact Classical.not_not.mp c50
      refine V_aln dX5_read_53 rfl ?_
      refine V_getI dX5_read_54 flX5_38 (by assumption) rfl ?_
      refine V_if_eq (tgt := 88) dX5_read_57 rfl (fun c57 => ?_) (fun c57 => ?_)
      · exact V_vret hM dX5_read_88 (hp)
      · rcases hx with h | h
        exact absurd c50 h
        exact absurd h c57 --done
theorem l_X5_read {G : mG} {na : Int32} {f : Nat → Int32} {m dr rl : Nat} {R : aS ⊕ (Int32 × Nat)} (hM : mM X B "read" none 9 190 801 4806 (RdPo dr rl nx sh I P R) G) : ∀ (z i e n : Nat) (sj : Nat → Option mSh) (J : mI) (Q : mP) (q : aS), RdI na f m dr rl e q n sj J Q → ¬ J 1 6 = 0 → RdFr dr rl nx sh I P n sj J Q → i ≤ e → m + 2 ≤ z + e → aRun na f m z e q = R → V X B RX5 cX5_read G i (6 * i) n sj J Q 39 [some (.ref (B + 1)), some (.int na), some (.int (nI i))] [] := by
  intro z
  induction z with
  | zero => intro i e n sj J Q q h _ _ _ hz; have := h.2.2.2.2.1; omega
  | succ z ih =>
    intro i e n sj J Q q hI h6 hF hie hz hR
    obtain ⟨⟨hW, hm, hm8, hdr, sdr, hrl, srl, h33, h100, hfr⟩, hf, hna, h8, he, h34, hq⟩ := hI
    have s1 : sj 1 = some (.inl 5) := hW.1 1 _ rfl
    have s2 : sj 2 = some (.inl 8) := hW.1 2 _ rfl
    have s3 : sj 3 = some (.inr (1, 800)) := hW.1 3 _ rfl
    have nd : dr ≠ 1 := sh_ne sdr s1 (by decide)
    have nd' : 1 ≠ dr := fun h => nd h.symm
    have ef : J 3 = f := funext hf
    have hb := tS_b (f := J 3) he
    have hd : ∀ c k, c ≠ 1 → scnM J m e c k = J c k := fun c k h => by simp [scnM, mUp, h]
    have t6 : scnM J m e 1 6 = tK f m e := by rw [← ef]; simp [scnM, mUp]
    have t7 : scnM J m e 1 7 = nI (tS f m e) := by rw [← ef]; simp [scnM, mUp]
    have t8 : scnM J m e 1 8 = nI (tE f m e) := by rw [← ef]; simp [scnM, mUp]
    have t9 : scnM J m e 1 9 = tN f m e (J 1 9) := by rw [← ef]; simp [scnM, mUp]
    have t2 : scnM J m e 1 2 = na := by rw [← hna]; simp [scnM, mUp]
    have t3 : scnM J m e 1 3 = 0 := by rw [← h33]; simp [scnM, mUp]
    have t4 : scnM J m e 1 4 = -1 := by rw [← h34]; simp [scnM, mUp]
    have t5 : scnM J m e 1 5 = q.1 0 := by rw [← hq.1 0 (by decide)]; simp [scnM, mUp, rg]
    have hq1 : RdS sj (scnM J m e) Q dr rl q := hq.scn s1 nd
    have hF1 : RdFr dr rl nx sh I P n sj (scnM J m e) Q := hF.trans ⟨Nat.le_refl _, fun _ _ h => h, hfr, fun c k _ a _ => hd c k a, fun _ _ _ _ => rfl⟩
    have eA : aStep (scnM J m e 1 2) (scnM J m e 1 6) (scnM J m e 1 9) (wdB (scnM J m e) m) q = aStep na (tK f m e) (tN f m e 0) (wAt f m e) q := by
      rw [t2, t6, t9, wAt_eq hm8 he, ef]
      exact aStep_num fun h => tN_old h
    have hC : RdC sj (scnM J m e) Q m (tS f m e) dr rl n := ⟨hW, by rw [hd 2 1 (by decide)]; exact hm, hm8, t7, by rw [← ef]; omega, hdr, sdr, hrl, srl, t3, h100, hfr⟩
    have hEnd : ¬ (tK f m e = 0 ∧ q.1 0 = 0) → (match aStep na (tK f m e) (tN f m e 0) (wAt f m e) q with
        | .inr k => .inr (k, tS f m e)
        | .inl q' => aRun na f m z (tE f m e) q') = R → ∀ (n1 : Nat) (sj1 : Nat → Option mSh) (J1 : mI) (Q1 : mP), RdFr dr rl n sj (scnM J m e) Q n1 sj1 J1 Q1 → J1 1 6 = scnM J m e 1 6 → J1 1 8 = scnM J m e 1 8 → J1 1 2 = scnM J m e 1 2 → (match aStep na (tK f m e) (tN f m e 0) (wAt f m e) q with
        | .inl q => J1 1 3 = 0 ∧ J1 1 4 = scnM J m e 1 4 ∧ RdS sj1 J1 Q1 dr rl q
        | .inr k => J1 1 3 = k ∧ ¬ k = 0 ∧ J1 1 4 = scnM J m e 1 7) → V X B RX5 cX5_read G (i + 1) (6 * (i + 1)) n1 sj1 J1 Q1 39 [some (.ref (B + 1)), some (.int na), some (.int (nI (i + 1)))] [] := by
      intro hn0 hR n1 sj1 J1 Q1 hF2 k6 k8 k2 hp
      have hFF := hF1.trans hF2
      cases hA : aStep na (tK f m e) (tN f m e 0) (wAt f m e) q with
      | inr k =>
        rw [hA] at hR hp
        refine x_X5_read (hF2.2.1 _ _ s1) hM (by omega) (by omega) (Or.inl (by rw [hp.1]; exact hp.2.1)) ?_
        rw [← hR]
        exact ⟨rfl, hFF, hp.1, hp.2.1, hp.2.2.trans t7⟩
      | inl q' =>
        rw [hA] at hR hp
        have hk : ¬ tK f m e = 0 := by
          intro h
          have hw : ∀ i, wAt f m e i = false := fun i => by rw [wAt, h]; rfl
          rw [h, aStep_end hq.2.2.2.2 hw (fun h2 => hn0 ⟨h, h2⟩)] at hA
          cases hA
        have hE := tE_b (f := f) he hk
        have hlt := hF2.1
        refine ih (i + 1) (tE f m e) n1 sj1 J1 Q1 q' ⟨⟨hW.mono (rl := rl) (nx := n) (by omega) hF2.2.1 hF2.2.2.2.2 srl, ?_, hm8, ?_, hF2.2.1 _ _ sdr, ?_, hF2.2.1 _ _ srl, hp.1, by omega, hF2.2.2.1⟩, fun k => ?_, k2.trans t2, k8.trans t8, hE.2.1, hp.2.1.trans t4, hp.2.2⟩ (by rw [k6, t6]; exact hk) hFF (by omega) (by omega) hR
        · rw [hF2.2.2.2.1 2 1 (by omega) (by decide) (sh_ne s2 sdr (by decide)), hd 2 1 (by decide)]; exact hm
        · rw [hF2.2.2.2.2 1 1 (by omega) (sh_ne s1 srl (by decide))]; exact hdr
        · rw [hF2.2.2.2.2 dr 1 (hfr _ _ sdr) (sh_ne sdr srl (by decide))]; exact hrl
        · rw [hF2.2.2.2.1 3 k (by omega) (by decide) (sh_ne s3 sdr (by decide)), hd 3 k (by decide)]; exact hf k
    have hStep : ¬ (tK f m e = 0 ∧ q.1 0 = 0) → V X B RX5 cX5_read G i (6 * i) n sj (scnM J m e) Q 78 [some (.ref (B + 1)), some (.int na), some (.int (nI i))] [] := by
      intro hn
      rw [aRun, if_neg hn] at hR
      refine V_aln dX5_read_78 rfl ?_
      refine V_cV0 hM cvX5_71 (by assumption) rfl (e_X5_step hC hq1) ⟨by decide, by decide, by omega, by omega⟩ (Nat.le_of_ble_eq_true rfl) dX5_read_79 (fun v n1 s2' J1 Q1 hp => ?_)
      rw [eA] at hp
      obtain ⟨rfl, hF2, k6, k8, k2, hp⟩ := hp
      refine V_inc2 dX5_read_82 ?_
      refine V_goto (tgt := 39) dX5_read_85 rfl ?_
      rw [nI_inc]
      refine V.widen (a := i + 1) (b := 6 * (i + 1)) (by omega) (by omega) ?_
      exact hEnd hn hR n1 s2' J1 Q1 hF2 k6 k8 k2 hp
    refine V_iln dX5_read_39 rfl ?_
    refine V_sipush (v := 800) rfl dX5_read_40 ?_
    refine V_icmp_gt (tgt := 88) dX5_read_43 rfl (fun c43 => ?_) (fun c43 => ?_)
    · exfalso
      have := nN_lt (a := 800) c43 (by decide) (by omega)
      omega --done
    · refine V_aln dX5_read_46 rfl ?_
      refine V_getI dX5_read_47 flX5_29 (by assumption) rfl ?_
      refine V_if_ne (tgt := 88) dX5_read_50 rfl (fun c50 => ?_) (fun c50 => ?_)
      · exact absurd h33 c50 --done
      · refine V_aln dX5_read_53 rfl ?_
        refine V_getI dX5_read_54 flX5_38 (by assumption) rfl ?_
        refine V_if_eq (tgt := 88) dX5_read_57 rfl (fun c57 => ?_) (fun c57 => ?_)
        · exact absurd c57 h6 --done
        · refine V_aln dX5_read_60 rfl ?_
          refine V_cV0n hM cvX5_68 (by assumption) rfl (e_X5_scan hW hm hm8 h8 he) ⟨by decide, by decide, by omega, by omega⟩ (Nat.le_of_ble_eq_true rfl) dX5_read_61 ?_
          refine V_aln dX5_read_64 rfl ?_
          refine V_getIv dX5_read_65 flX5_38 (by assumption) rfl (t6) ?_
          refine V_if_ne (tgt := 78) dX5_read_68 rfl (fun c68 => ?_) (fun c68 => ?_)
          · exact hStep (fun h => c68 h.1) --done
          · refine V_aln dX5_read_71 rfl ?_
            refine V_getIv dX5_read_72 flX5_35 (by assumption) rfl (t5) ?_
            refine V_if_eq (tgt := 82) dX5_read_75 rfl (fun c75 => ?_) (fun c75 => ?_)
            · refine V_inc2 dX5_read_82 ?_
              refine V_goto (tgt := 39) dX5_read_85 rfl ?_
              rw [nI_inc]
              have c68 : tK f m e = 0 := by first | exact c68 | exact Classical.not_not.mp c68
              rw [aRun, if_pos ⟨c68, c75⟩] at hR
              refine x_X5_read s1 hM (by omega) (by omega) (Or.inr (t6.trans c68)) ?_
              rw [← hR]
              exact ⟨rfl, hF1, t3, t4, hq1⟩
            · exact hStep (fun h => c75 h.2) --done
end R2
