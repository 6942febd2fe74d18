/-! ===== the law: its script, its beginning ===== -/
def mScp (X : mX) (B b L : Nat) (xs : Nat → Int32) (G : mG) : Prop := match G with
  | (p, e, R, s, m, args, below, meth, c, Q) => va_X b L xs s X.2.2.1 ∧ b < B
section SC
variable {X : mX} {B : Nat} {own : String} {cc : ByteArray} {G : mG} {nc ns nx : Nat} {sh : Nat → Option mSh} {I : mI} {P : mP} {pc : Nat} {ls : List (Option Value)} {st : List Value} {b L : Nat} {xs : Nat → Int32}
theorem V_sld {i : Nat} (hS : mScp X B b L xs G) (hd : decode cc pc = .ok (.iaload, 1)) (hi : i < L) (hL : L ≤ 4096) (kk : V X B own cc G nc ns nx sh I P (pc + 1) ls (.int (xs i) :: st)) : V X B own cc G nc ns nx sh I P pc ls (.int (nI i) :: .ref b :: st) := by
  obtain ⟨p, e, R, s, m, args, below, meth, c, Q⟩ := G
  intro C H locs la hR hL' hl
  obtain ⟨⟨scr, h1, h2, h3, h4, h5⟩, hb⟩ := hS
  have hc : (nI i).toNatClampNeg = i := nI_clamp (by omega)
  have hin : vp_in (nI i) L := inB_in (inB_of hi (by omega))
  exact W.iald (v := .int (xs i)) C.1 C.2.1 (by rw [hR.2.1 b hb]; exact h1) h2 h3 (by rw [h4]; exact hin) (by rw [hc]; exact h5 i hi) rfl rfl hd (kk C H locs la hR hL' hl)
theorem V_scln (hS : mScp X B b L xs G) (hd : decode cc pc = .ok (.arraylength, 1)) (kk : V X B own cc G nc ns nx sh I P (pc + 1) ls (.int (nI L) :: st)) : V X B own cc G nc ns nx sh I P pc ls (.ref b :: st) := by
  obtain ⟨p, e, R, s, m, args, below, meth, c, Q⟩ := G
  intro C H locs la hR hL' hl
  obtain ⟨⟨scr, h1, h2, h3, h4, h5⟩, hb⟩ := hS
  exact W.alen (n := Int32.ofNat L) C.1 C.2.1 (by rw [hR.2.1 b hb]; exact h1) h2 (by rw [h4] <;> rfl) rfl rfl hd (kk C H locs la hR hL' hl)
end SC
/-- both fresh -/
theorem St_0 {nx nx' : Nat} {sh sh' : Nat → Option mSh} {I I' : mI} {P P' : mP} (h : cNew none nx sh I P) (k : mNew sh I P none nx' sh' I' P') : St 0 nx' sh' I' P' := by
  obtain ⟨-, rfl, hW, hlt, p31, s4, p41, s5, i11, i33, i34, i61, i83, i123, i163, i203, i08, i010, i014, iA, iP⟩ := h
  obtain ⟨-, rfl, mW', mlt, mo, a0, a14, a20, a21, a31, a32, a33, a45, a46, aA, aP⟩ := k
  have e : ∀ c, c < 35 → I' c = I c := fun c hc => (mo c hc).2.1
  have eP : ∀ c, c < 35 → P' c = P c := fun c hc => (mo c hc).2.2
  have eS : ∀ c, c < 35 → sh' c = sh c := fun c hc => (mo c hc).1
  have cl : ∀ c z, csF c = some z → c < 35 := fun c z hc => by
    unfold csF at hc
    split at hc <;> first | decide | cases hc
  have z0 : (0 : Int32) = nI 0 := rfl
  have hCW : CW sh' P' := ⟨fun c z hc => by rw [eS c (cl c z hc)]; exact hW.1 c z hc, fun c k b hc => by rw [eP c (cpF_c hc).1]; exact hW.2 c k b hc⟩
  have ck : ∀ (K : Nat → Int32) p, cntK K p 0 = 0 := fun _ _ => rfl
  refine ⟨0, 0, 0, 0, 0, 0, 0, 0, 4, 5, ⟨hCW, mW', Nat.le_refl _, mlt⟩, ⟨by rw [e 2 (by omega), i11]; rfl, by omega, by rw [a14]; rfl, ?_, fun k => ?_⟩, ⟨?_, ?_⟩, ⟨⟨hCW.1 6 _ rfl, hCW.2 6 0 7 rfl, hCW.1 7 _ rfl, by rw [e 6 (by omega), i61]; rfl, by omega, fun a ha => absurd ha (Nat.not_lt_zero a)⟩, by rw [a0]; rfl, ⟨by rw [eP 1 (by omega)]; exact p31, by rw [eS 4 (by omega)]; exact s4, by rw [eP 4 (by omega)]; exact p41, by rw [eS 5 (by omega)]; exact s5⟩, fun a ha => absurd ha (Nat.not_lt_zero a)⟩, ⟨⟨by rw [e 0 (by omega), i08]; rfl, by omega, fun a ha => absurd ha (Nat.not_lt_zero a)⟩, by rw [a32]; rfl, fun a ha => absurd ha (Nat.not_lt_zero a), fun a _ ha => absurd ha (Nat.not_lt_zero a)⟩, ⟨⟨by rw [e 0 (by omega), i010]; rfl, by omega, fun a ha => absurd ha (Nat.not_lt_zero a)⟩, by rw [a45]; rfl, fun a ha => absurd ha (Nat.not_lt_zero a), fun a _ ha => absurd ha (Nat.not_lt_zero a)⟩, ⟨⟨by rw [e 8 (by omega), i83]; rfl, by omega⟩, ⟨fun p hp => ⟨(aA p).2.1, Nat.zero_le _⟩, fun a ha => absurd ha (Nat.not_lt_zero a)⟩, fun a ha => absurd ha (Nat.not_lt_zero a)⟩, ⟨⟨by rw [e 12 (by omega), i123]; rfl, by omega⟩, ⟨fun p hp => ⟨(aA p).2.2.1, Nat.zero_le _⟩, fun a ha => absurd ha (Nat.not_lt_zero a)⟩⟩, ⟨⟨by rw [e 16 (by omega), i163]; rfl, by omega⟩, by rw [a31]; rfl, fun a ha => absurd ha (Nat.not_lt_zero a)⟩, ⟨⟨by rw [e 20 (by omega), i203]; rfl, by omega⟩, by rw [a33]; rfl, fun a ha => absurd ha (Nat.not_lt_zero a), fun a ha => absurd ha (Nat.not_lt_zero a)⟩, ⟨?_, ?_, ?_, ?_, fun p hp => ⟨0, Nat.le_refl _, ?_⟩⟩, fun k hk => ⟨?_, 1, by omega, aP k hk⟩⟩
  · funext k
    rw [e 3 (by omega), (aA k).1, (iA k).2.2.2]
  · rw [e 3 (by omega), (iA k).2.2.2]
    exact ⟨by decide, by decide⟩
  · rw [a20, e 1 (by omega), i33]
  · rw [a21, e 1 (by omega), i34]
  · funext k
    rw [e 26 (by omega), (aA k).2.2.2.1, (iA k).1]
  · funext k
    rw [e 27 (by omega), (aA k).2.2.2.2.1, (iA k).2.1]
  · funext k
    rw [e 28 (by omega), (aA k).2.2.2.2.2, (iA k).2.2.1]
  · rw [a46, e 0 (by omega), i014]
  · rw [e 26 (by omega), (iA p).1]; rfl
  · rw [aP k hk, e 29 (by omega), iP k hk]
