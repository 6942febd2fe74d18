/-! ===== small methods of the class ===== -/
section LF
variable {X : mX} {B nx : Nat} {sh : Nat → Option mSh} {I : mI} {P : mP}
theorem e_X10_isPerson {p : Int32} : Ev X B mdX10_isPerson 0 0 [.int p] nx sh I P (mDet (some (.int (bI (inB p 30)))) nx sh I P) := by
  refine Ev.of (by decide) (by simp [Value.category]) (by simp) (fun G hM => ?_)
  have hM : mM X B "isPerson" (some FieldType.boolean) 0 0 0 0 _ G := hM
  show V X B RX10 cX10_isPerson G 0 0 nx sh I P 0 [some (.int p)] []
  refine V_iln dX10_isPerson_0 rfl ?_
  refine V_if_lt (tgt := 14) dX10_isPerson_1 rfl (fun c1 => ?_) (fun c1 => ?_)
  · refine V_iconst (v := 0) rfl dX10_isPerson_14 ?_
    exact V_zret hM (by first | exact Or.inl rfl | exact Or.inr rfl | exact bI_01 _) dX10_isPerson_15 (⟨by simp only [i_lt, i_le] at *; first | rw [show inB p 30 = true from inB_iff.mpr (by simp at *; omega)]; rfl | rw [inB_f (x := p) (n := 30) (by simp at *; omega)]; rfl, rfl, rfl, rfl, rfl⟩)
  · refine V_iln dX10_isPerson_4 rfl ?_
    refine V_bipush (v := 30) rfl dX10_isPerson_5 ?_
    refine V_icmp_ge (tgt := 14) dX10_isPerson_7 rfl (fun c7 => ?_) (fun c7 => ?_)
    · refine V_iconst (v := 0) rfl dX10_isPerson_14 ?_
      exact V_zret hM (by first | exact Or.inl rfl | exact Or.inr rfl | exact bI_01 _) dX10_isPerson_15 (⟨by simp only [i_lt, i_le] at *; first | rw [show inB p 30 = true from inB_iff.mpr (by simp at *; omega)]; rfl | rw [inB_f (x := p) (n := 30) (by simp at *; omega)]; rfl, rfl, rfl, rfl, rfl⟩)
    · refine V_iconst (v := 1) rfl dX10_isPerson_10 ?_
      refine V_goto (tgt := 15) dX10_isPerson_11 rfl ?_
      exact V_zret hM (by first | exact Or.inl rfl | exact Or.inr rfl | exact bI_01 _) dX10_isPerson_15 (⟨by simp only [i_lt, i_le] at *; first | rw [show inB p 30 = true from inB_iff.mpr (by simp at *; omega)]; rfl | rw [inB_f (x := p) (n := 30) (by simp at *; omega)]; rfl, rfl, rfl, rfl, rfl⟩)
end LF
