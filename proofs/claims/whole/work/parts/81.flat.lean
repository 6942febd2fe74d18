/-! ===== what the Statement gives of the texts ===== -/
abbrev flW : List Cond := flatC (Jvm.Cond.and given_1 narrow_1)
abbrev mSd : String × Nat × String := ("", 0, "")
abbrev tSt (i : Nat) : Term := .string (mSr.getD i mSd).1 (mSr.getD i mSd).2.1
abbrev tVl (i : Nat) : Term := .field (tSt i) "java/lang/String" "value" "[B"
theorem fs_0 : (Cond.exactly (tSt 0) "java/lang/String" ∈ flW ∧ Cond.eq (.field (tSt 0) "java/lang/String" "coder" "B") (.int 0) ∈ flW) ∧ Cond.arrayOf (tVl 0) .byte ∈ flW ∧ Cond.eq (.length (tVl 0)) (.int (Int32.ofNat (mLe.getD 0 0))) ∈ flW := ⟨⟨List.mem_of_getElem? (i := 23) (by decide +kernel), List.mem_of_getElem? (i := 24) (by decide +kernel)⟩, List.mem_of_getElem? (i := 25) (by decide +kernel), List.mem_of_getElem? (i := 26) (by decide +kernel)⟩
theorem fc_0 : ∀ j, j < mLe.getD 0 0 → Cond.eq (.elem (tVl 0) (.int (Int32.ofNat j))) (.int ((mBy.getD 0 []).getD j 0)) ∈ flW := by
  intro j hj
  have hj : j < 6 := hj
  rcases (show j = 0 ∨ j = 1 ∨ j = 2 ∨ j = 3 ∨ j = 4 ∨ j = 5 by omega) with rfl | rfl | rfl | rfl | rfl | rfl
  · exact List.mem_of_getElem? (i := 27) (by decide +kernel)
  · exact List.mem_of_getElem? (i := 28) (by decide +kernel)
  · exact List.mem_of_getElem? (i := 29) (by decide +kernel)
  · exact List.mem_of_getElem? (i := 30) (by decide +kernel)
  · exact List.mem_of_getElem? (i := 31) (by decide +kernel)
  · exact List.mem_of_getElem? (i := 32) (by decide +kernel)
theorem fs_1 : (Cond.exactly (tSt 1) "java/lang/String" ∈ flW ∧ Cond.eq (.field (tSt 1) "java/lang/String" "coder" "B") (.int 0) ∈ flW) ∧ Cond.arrayOf (tVl 1) .byte ∈ flW ∧ Cond.eq (.length (tVl 1)) (.int (Int32.ofNat (mLe.getD 1 0))) ∈ flW := ⟨⟨List.mem_of_getElem? (i := 33) (by decide +kernel), List.mem_of_getElem? (i := 34) (by decide +kernel)⟩, List.mem_of_getElem? (i := 35) (by decide +kernel), List.mem_of_getElem? (i := 36) (by decide +kernel)⟩
theorem fc_1 : ∀ j, j < mLe.getD 1 0 → Cond.eq (.elem (tVl 1) (.int (Int32.ofNat j))) (.int ((mBy.getD 1 []).getD j 0)) ∈ flW := by
  intro j hj
  have hj : j < 5 := hj
  rcases (show j = 0 ∨ j = 1 ∨ j = 2 ∨ j = 3 ∨ j = 4 by omega) with rfl | rfl | rfl | rfl | rfl
  · exact List.mem_of_getElem? (i := 37) (by decide +kernel)
  · exact List.mem_of_getElem? (i := 38) (by decide +kernel)
  · exact List.mem_of_getElem? (i := 39) (by decide +kernel)
  · exact List.mem_of_getElem? (i := 40) (by decide +kernel)
  · exact List.mem_of_getElem? (i := 41) (by decide +kernel)
theorem fs_2 : (Cond.exactly (tSt 2) "java/lang/String" ∈ flW ∧ Cond.eq (.field (tSt 2) "java/lang/String" "coder" "B") (.int 0) ∈ flW) ∧ Cond.arrayOf (tVl 2) .byte ∈ flW ∧ Cond.eq (.length (tVl 2)) (.int (Int32.ofNat (mLe.getD 2 0))) ∈ flW := ⟨⟨List.mem_of_getElem? (i := 42) (by decide +kernel), List.mem_of_getElem? (i := 43) (by decide +kernel)⟩, List.mem_of_getElem? (i := 44) (by decide +kernel), List.mem_of_getElem? (i := 45) (by decide +kernel)⟩
theorem fc_2 : ∀ j, j < mLe.getD 2 0 → Cond.eq (.elem (tVl 2) (.int (Int32.ofNat j))) (.int ((mBy.getD 2 []).getD j 0)) ∈ flW := by
  intro j hj
  have hj : j < 6 := hj
  rcases (show j = 0 ∨ j = 1 ∨ j = 2 ∨ j = 3 ∨ j = 4 ∨ j = 5 by omega) with rfl | rfl | rfl | rfl | rfl | rfl
  · exact List.mem_of_getElem? (i := 46) (by decide +kernel)
  · exact List.mem_of_getElem? (i := 47) (by decide +kernel)
  · exact List.mem_of_getElem? (i := 48) (by decide +kernel)
  · exact List.mem_of_getElem? (i := 49) (by decide +kernel)
  · exact List.mem_of_getElem? (i := 50) (by decide +kernel)
  · exact List.mem_of_getElem? (i := 51) (by decide +kernel)
theorem fs_3 : (Cond.exactly (tSt 3) "java/lang/String" ∈ flW ∧ Cond.eq (.field (tSt 3) "java/lang/String" "coder" "B") (.int 0) ∈ flW) ∧ Cond.arrayOf (tVl 3) .byte ∈ flW ∧ Cond.eq (.length (tVl 3)) (.int (Int32.ofNat (mLe.getD 3 0))) ∈ flW := ⟨⟨List.mem_of_getElem? (i := 52) (by decide +kernel), List.mem_of_getElem? (i := 53) (by decide +kernel)⟩, List.mem_of_getElem? (i := 54) (by decide +kernel), List.mem_of_getElem? (i := 55) (by decide +kernel)⟩
theorem fc_3 : ∀ j, j < mLe.getD 3 0 → Cond.eq (.elem (tVl 3) (.int (Int32.ofNat j))) (.int ((mBy.getD 3 []).getD j 0)) ∈ flW := by
  intro j hj
  have hj : j < 5 := hj
  rcases (show j = 0 ∨ j = 1 ∨ j = 2 ∨ j = 3 ∨ j = 4 by omega) with rfl | rfl | rfl | rfl | rfl
  · exact List.mem_of_getElem? (i := 56) (by decide +kernel)
  · exact List.mem_of_getElem? (i := 57) (by decide +kernel)
  · exact List.mem_of_getElem? (i := 58) (by decide +kernel)
  · exact List.mem_of_getElem? (i := 59) (by decide +kernel)
  · exact List.mem_of_getElem? (i := 60) (by decide +kernel)
theorem fs_4 : (Cond.exactly (tSt 4) "java/lang/String" ∈ flW ∧ Cond.eq (.field (tSt 4) "java/lang/String" "coder" "B") (.int 0) ∈ flW) ∧ Cond.arrayOf (tVl 4) .byte ∈ flW ∧ Cond.eq (.length (tVl 4)) (.int (Int32.ofNat (mLe.getD 4 0))) ∈ flW := ⟨⟨List.mem_of_getElem? (i := 61) (by decide +kernel), List.mem_of_getElem? (i := 62) (by decide +kernel)⟩, List.mem_of_getElem? (i := 63) (by decide +kernel), List.mem_of_getElem? (i := 64) (by decide +kernel)⟩
theorem fc_4 : ∀ j, j < mLe.getD 4 0 → Cond.eq (.elem (tVl 4) (.int (Int32.ofNat j))) (.int ((mBy.getD 4 []).getD j 0)) ∈ flW := by
  intro j hj
  have hj : j < 4 := hj
  rcases (show j = 0 ∨ j = 1 ∨ j = 2 ∨ j = 3 by omega) with rfl | rfl | rfl | rfl
  · exact List.mem_of_getElem? (i := 65) (by decide +kernel)
  · exact List.mem_of_getElem? (i := 66) (by decide +kernel)
  · exact List.mem_of_getElem? (i := 67) (by decide +kernel)
  · exact List.mem_of_getElem? (i := 68) (by decide +kernel)
theorem fs_5 : (Cond.exactly (tSt 5) "java/lang/String" ∈ flW ∧ Cond.eq (.field (tSt 5) "java/lang/String" "coder" "B") (.int 0) ∈ flW) ∧ Cond.arrayOf (tVl 5) .byte ∈ flW ∧ Cond.eq (.length (tVl 5)) (.int (Int32.ofNat (mLe.getD 5 0))) ∈ flW := ⟨⟨List.mem_of_getElem? (i := 69) (by decide +kernel), List.mem_of_getElem? (i := 70) (by decide +kernel)⟩, List.mem_of_getElem? (i := 71) (by decide +kernel), List.mem_of_getElem? (i := 72) (by decide +kernel)⟩
theorem fc_5 : ∀ j, j < mLe.getD 5 0 → Cond.eq (.elem (tVl 5) (.int (Int32.ofNat j))) (.int ((mBy.getD 5 []).getD j 0)) ∈ flW := by
  intro j hj
  have hj : j < 5 := hj
  rcases (show j = 0 ∨ j = 1 ∨ j = 2 ∨ j = 3 ∨ j = 4 by omega) with rfl | rfl | rfl | rfl | rfl
  · exact List.mem_of_getElem? (i := 73) (by decide +kernel)
  · exact List.mem_of_getElem? (i := 74) (by decide +kernel)
  · exact List.mem_of_getElem? (i := 75) (by decide +kernel)
  · exact List.mem_of_getElem? (i := 76) (by decide +kernel)
  · exact List.mem_of_getElem? (i := 77) (by decide +kernel)
theorem fs_6 : (Cond.exactly (tSt 6) "java/lang/String" ∈ flW ∧ Cond.eq (.field (tSt 6) "java/lang/String" "coder" "B") (.int 0) ∈ flW) ∧ Cond.arrayOf (tVl 6) .byte ∈ flW ∧ Cond.eq (.length (tVl 6)) (.int (Int32.ofNat (mLe.getD 6 0))) ∈ flW := ⟨⟨List.mem_of_getElem? (i := 78) (by decide +kernel), List.mem_of_getElem? (i := 79) (by decide +kernel)⟩, List.mem_of_getElem? (i := 80) (by decide +kernel), List.mem_of_getElem? (i := 81) (by decide +kernel)⟩
theorem fc_6 : ∀ j, j < mLe.getD 6 0 → Cond.eq (.elem (tVl 6) (.int (Int32.ofNat j))) (.int ((mBy.getD 6 []).getD j 0)) ∈ flW := by
  intro j hj
  have hj : j < 6 := hj
  rcases (show j = 0 ∨ j = 1 ∨ j = 2 ∨ j = 3 ∨ j = 4 ∨ j = 5 by omega) with rfl | rfl | rfl | rfl | rfl | rfl
  · exact List.mem_of_getElem? (i := 82) (by decide +kernel)
  · exact List.mem_of_getElem? (i := 83) (by decide +kernel)
  · exact List.mem_of_getElem? (i := 84) (by decide +kernel)
  · exact List.mem_of_getElem? (i := 85) (by decide +kernel)
  · exact List.mem_of_getElem? (i := 86) (by decide +kernel)
  · exact List.mem_of_getElem? (i := 87) (by decide +kernel)
theorem fs_7 : (Cond.exactly (tSt 7) "java/lang/String" ∈ flW ∧ Cond.eq (.field (tSt 7) "java/lang/String" "coder" "B") (.int 0) ∈ flW) ∧ Cond.arrayOf (tVl 7) .byte ∈ flW ∧ Cond.eq (.length (tVl 7)) (.int (Int32.ofNat (mLe.getD 7 0))) ∈ flW := ⟨⟨List.mem_of_getElem? (i := 88) (by decide +kernel), List.mem_of_getElem? (i := 89) (by decide +kernel)⟩, List.mem_of_getElem? (i := 90) (by decide +kernel), List.mem_of_getElem? (i := 91) (by decide +kernel)⟩
theorem fc_7 : ∀ j, j < mLe.getD 7 0 → Cond.eq (.elem (tVl 7) (.int (Int32.ofNat j))) (.int ((mBy.getD 7 []).getD j 0)) ∈ flW := by
  intro j hj
  have hj : j < 4 := hj
  rcases (show j = 0 ∨ j = 1 ∨ j = 2 ∨ j = 3 by omega) with rfl | rfl | rfl | rfl
  · exact List.mem_of_getElem? (i := 92) (by decide +kernel)
  · exact List.mem_of_getElem? (i := 93) (by decide +kernel)
  · exact List.mem_of_getElem? (i := 94) (by decide +kernel)
  · exact List.mem_of_getElem? (i := 95) (by decide +kernel)
theorem fs_8 : (Cond.exactly (tSt 8) "java/lang/String" ∈ flW ∧ Cond.eq (.field (tSt 8) "java/lang/String" "coder" "B") (.int 0) ∈ flW) ∧ Cond.arrayOf (tVl 8) .byte ∈ flW ∧ Cond.eq (.length (tVl 8)) (.int (Int32.ofNat (mLe.getD 8 0))) ∈ flW := ⟨⟨List.mem_of_getElem? (i := 96) (by decide +kernel), List.mem_of_getElem? (i := 97) (by decide +kernel)⟩, List.mem_of_getElem? (i := 98) (by decide +kernel), List.mem_of_getElem? (i := 99) (by decide +kernel)⟩
theorem fc_8 : ∀ j, j < mLe.getD 8 0 → Cond.eq (.elem (tVl 8) (.int (Int32.ofNat j))) (.int ((mBy.getD 8 []).getD j 0)) ∈ flW := by
  intro j hj
  have hj : j < 6 := hj
  rcases (show j = 0 ∨ j = 1 ∨ j = 2 ∨ j = 3 ∨ j = 4 ∨ j = 5 by omega) with rfl | rfl | rfl | rfl | rfl | rfl
  · exact List.mem_of_getElem? (i := 100) (by decide +kernel)
  · exact List.mem_of_getElem? (i := 101) (by decide +kernel)
  · exact List.mem_of_getElem? (i := 102) (by decide +kernel)
  · exact List.mem_of_getElem? (i := 103) (by decide +kernel)
  · exact List.mem_of_getElem? (i := 104) (by decide +kernel)
  · exact List.mem_of_getElem? (i := 105) (by decide +kernel)
theorem fs_9 : (Cond.exactly (tSt 9) "java/lang/String" ∈ flW ∧ Cond.eq (.field (tSt 9) "java/lang/String" "coder" "B") (.int 0) ∈ flW) ∧ Cond.arrayOf (tVl 9) .byte ∈ flW ∧ Cond.eq (.length (tVl 9)) (.int (Int32.ofNat (mLe.getD 9 0))) ∈ flW := ⟨⟨List.mem_of_getElem? (i := 106) (by decide +kernel), List.mem_of_getElem? (i := 107) (by decide +kernel)⟩, List.mem_of_getElem? (i := 108) (by decide +kernel), List.mem_of_getElem? (i := 109) (by decide +kernel)⟩
theorem fc_9 : ∀ j, j < mLe.getD 9 0 → Cond.eq (.elem (tVl 9) (.int (Int32.ofNat j))) (.int ((mBy.getD 9 []).getD j 0)) ∈ flW := by
  intro j hj
  have hj : j < 4 := hj
  rcases (show j = 0 ∨ j = 1 ∨ j = 2 ∨ j = 3 by omega) with rfl | rfl | rfl | rfl
  · exact List.mem_of_getElem? (i := 110) (by decide +kernel)
  · exact List.mem_of_getElem? (i := 111) (by decide +kernel)
  · exact List.mem_of_getElem? (i := 112) (by decide +kernel)
  · exact List.mem_of_getElem? (i := 113) (by decide +kernel)
theorem fs_10 : (Cond.exactly (tSt 10) "java/lang/String" ∈ flW ∧ Cond.eq (.field (tSt 10) "java/lang/String" "coder" "B") (.int 0) ∈ flW) ∧ Cond.arrayOf (tVl 10) .byte ∈ flW ∧ Cond.eq (.length (tVl 10)) (.int (Int32.ofNat (mLe.getD 10 0))) ∈ flW := ⟨⟨List.mem_of_getElem? (i := 114) (by decide +kernel), List.mem_of_getElem? (i := 115) (by decide +kernel)⟩, List.mem_of_getElem? (i := 116) (by decide +kernel), List.mem_of_getElem? (i := 117) (by decide +kernel)⟩
theorem fc_10 : ∀ j, j < mLe.getD 10 0 → Cond.eq (.elem (tVl 10) (.int (Int32.ofNat j))) (.int ((mBy.getD 10 []).getD j 0)) ∈ flW := by
  intro j hj
  have hj : j < 4 := hj
  rcases (show j = 0 ∨ j = 1 ∨ j = 2 ∨ j = 3 by omega) with rfl | rfl | rfl | rfl
  · exact List.mem_of_getElem? (i := 118) (by decide +kernel)
  · exact List.mem_of_getElem? (i := 119) (by decide +kernel)
  · exact List.mem_of_getElem? (i := 120) (by decide +kernel)
  · exact List.mem_of_getElem? (i := 121) (by decide +kernel)
theorem fs_11 : (Cond.exactly (tSt 11) "java/lang/String" ∈ flW ∧ Cond.eq (.field (tSt 11) "java/lang/String" "coder" "B") (.int 0) ∈ flW) ∧ Cond.arrayOf (tVl 11) .byte ∈ flW ∧ Cond.eq (.length (tVl 11)) (.int (Int32.ofNat (mLe.getD 11 0))) ∈ flW := ⟨⟨List.mem_of_getElem? (i := 122) (by decide +kernel), List.mem_of_getElem? (i := 123) (by decide +kernel)⟩, List.mem_of_getElem? (i := 124) (by decide +kernel), List.mem_of_getElem? (i := 125) (by decide +kernel)⟩
theorem fc_11 : ∀ j, j < mLe.getD 11 0 → Cond.eq (.elem (tVl 11) (.int (Int32.ofNat j))) (.int ((mBy.getD 11 []).getD j 0)) ∈ flW := by
  intro j hj
  have hj : j < 3 := hj
  rcases (show j = 0 ∨ j = 1 ∨ j = 2 by omega) with rfl | rfl | rfl
  · exact List.mem_of_getElem? (i := 126) (by decide +kernel)
  · exact List.mem_of_getElem? (i := 127) (by decide +kernel)
  · exact List.mem_of_getElem? (i := 128) (by decide +kernel)
theorem fs_12 : (Cond.exactly (tSt 12) "java/lang/String" ∈ flW ∧ Cond.eq (.field (tSt 12) "java/lang/String" "coder" "B") (.int 0) ∈ flW) ∧ Cond.arrayOf (tVl 12) .byte ∈ flW ∧ Cond.eq (.length (tVl 12)) (.int (Int32.ofNat (mLe.getD 12 0))) ∈ flW := ⟨⟨List.mem_of_getElem? (i := 129) (by decide +kernel), List.mem_of_getElem? (i := 130) (by decide +kernel)⟩, List.mem_of_getElem? (i := 131) (by decide +kernel), List.mem_of_getElem? (i := 132) (by decide +kernel)⟩
theorem fc_12 : ∀ j, j < mLe.getD 12 0 → Cond.eq (.elem (tVl 12) (.int (Int32.ofNat j))) (.int ((mBy.getD 12 []).getD j 0)) ∈ flW := by
  intro j hj
  have hj : j < 5 := hj
  rcases (show j = 0 ∨ j = 1 ∨ j = 2 ∨ j = 3 ∨ j = 4 by omega) with rfl | rfl | rfl | rfl | rfl
  · exact List.mem_of_getElem? (i := 133) (by decide +kernel)
  · exact List.mem_of_getElem? (i := 134) (by decide +kernel)
  · exact List.mem_of_getElem? (i := 135) (by decide +kernel)
  · exact List.mem_of_getElem? (i := 136) (by decide +kernel)
  · exact List.mem_of_getElem? (i := 137) (by decide +kernel)
theorem fs_13 : (Cond.exactly (tSt 13) "java/lang/String" ∈ flW ∧ Cond.eq (.field (tSt 13) "java/lang/String" "coder" "B") (.int 0) ∈ flW) ∧ Cond.arrayOf (tVl 13) .byte ∈ flW ∧ Cond.eq (.length (tVl 13)) (.int (Int32.ofNat (mLe.getD 13 0))) ∈ flW := ⟨⟨List.mem_of_getElem? (i := 138) (by decide +kernel), List.mem_of_getElem? (i := 139) (by decide +kernel)⟩, List.mem_of_getElem? (i := 140) (by decide +kernel), List.mem_of_getElem? (i := 141) (by decide +kernel)⟩
theorem fc_13 : ∀ j, j < mLe.getD 13 0 → Cond.eq (.elem (tVl 13) (.int (Int32.ofNat j))) (.int ((mBy.getD 13 []).getD j 0)) ∈ flW := by
  intro j hj
  have hj : j < 2 := hj
  rcases (show j = 0 ∨ j = 1 by omega) with rfl | rfl
  · exact List.mem_of_getElem? (i := 142) (by decide +kernel)
  · exact List.mem_of_getElem? (i := 143) (by decide +kernel)
theorem fs_14 : (Cond.exactly (tSt 14) "java/lang/String" ∈ flW ∧ Cond.eq (.field (tSt 14) "java/lang/String" "coder" "B") (.int 0) ∈ flW) ∧ Cond.arrayOf (tVl 14) .byte ∈ flW ∧ Cond.eq (.length (tVl 14)) (.int (Int32.ofNat (mLe.getD 14 0))) ∈ flW := ⟨⟨List.mem_of_getElem? (i := 144) (by decide +kernel), List.mem_of_getElem? (i := 145) (by decide +kernel)⟩, List.mem_of_getElem? (i := 146) (by decide +kernel), List.mem_of_getElem? (i := 147) (by decide +kernel)⟩
theorem fc_14 : ∀ j, j < mLe.getD 14 0 → Cond.eq (.elem (tVl 14) (.int (Int32.ofNat j))) (.int ((mBy.getD 14 []).getD j 0)) ∈ flW := by
  intro j hj
  have hj : j < 5 := hj
  rcases (show j = 0 ∨ j = 1 ∨ j = 2 ∨ j = 3 ∨ j = 4 by omega) with rfl | rfl | rfl | rfl | rfl
  · exact List.mem_of_getElem? (i := 148) (by decide +kernel)
  · exact List.mem_of_getElem? (i := 149) (by decide +kernel)
  · exact List.mem_of_getElem? (i := 150) (by decide +kernel)
  · exact List.mem_of_getElem? (i := 151) (by decide +kernel)
  · exact List.mem_of_getElem? (i := 152) (by decide +kernel)
theorem fs_15 : (Cond.exactly (tSt 15) "java/lang/String" ∈ flW ∧ Cond.eq (.field (tSt 15) "java/lang/String" "coder" "B") (.int 0) ∈ flW) ∧ Cond.arrayOf (tVl 15) .byte ∈ flW ∧ Cond.eq (.length (tVl 15)) (.int (Int32.ofNat (mLe.getD 15 0))) ∈ flW := ⟨⟨List.mem_of_getElem? (i := 153) (by decide +kernel), List.mem_of_getElem? (i := 154) (by decide +kernel)⟩, List.mem_of_getElem? (i := 155) (by decide +kernel), List.mem_of_getElem? (i := 156) (by decide +kernel)⟩
theorem fc_15 : ∀ j, j < mLe.getD 15 0 → Cond.eq (.elem (tVl 15) (.int (Int32.ofNat j))) (.int ((mBy.getD 15 []).getD j 0)) ∈ flW := by
  intro j hj
  have hj : j < 5 := hj
  rcases (show j = 0 ∨ j = 1 ∨ j = 2 ∨ j = 3 ∨ j = 4 by omega) with rfl | rfl | rfl | rfl | rfl
  · exact List.mem_of_getElem? (i := 157) (by decide +kernel)
  · exact List.mem_of_getElem? (i := 158) (by decide +kernel)
  · exact List.mem_of_getElem? (i := 159) (by decide +kernel)
  · exact List.mem_of_getElem? (i := 160) (by decide +kernel)
  · exact List.mem_of_getElem? (i := 161) (by decide +kernel)
theorem fs_16 : (Cond.exactly (tSt 16) "java/lang/String" ∈ flW ∧ Cond.eq (.field (tSt 16) "java/lang/String" "coder" "B") (.int 0) ∈ flW) ∧ Cond.arrayOf (tVl 16) .byte ∈ flW ∧ Cond.eq (.length (tVl 16)) (.int (Int32.ofNat (mLe.getD 16 0))) ∈ flW := ⟨⟨List.mem_of_getElem? (i := 162) (by decide +kernel), List.mem_of_getElem? (i := 163) (by decide +kernel)⟩, List.mem_of_getElem? (i := 164) (by decide +kernel), List.mem_of_getElem? (i := 165) (by decide +kernel)⟩
theorem fc_16 : ∀ j, j < mLe.getD 16 0 → Cond.eq (.elem (tVl 16) (.int (Int32.ofNat j))) (.int ((mBy.getD 16 []).getD j 0)) ∈ flW := by
  intro j hj
  have hj : j < 7 := hj
  rcases (show j = 0 ∨ j = 1 ∨ j = 2 ∨ j = 3 ∨ j = 4 ∨ j = 5 ∨ j = 6 by omega) with rfl | rfl | rfl | rfl | rfl | rfl | rfl
  · exact List.mem_of_getElem? (i := 166) (by decide +kernel)
  · exact List.mem_of_getElem? (i := 167) (by decide +kernel)
  · exact List.mem_of_getElem? (i := 168) (by decide +kernel)
  · exact List.mem_of_getElem? (i := 169) (by decide +kernel)
  · exact List.mem_of_getElem? (i := 170) (by decide +kernel)
  · exact List.mem_of_getElem? (i := 171) (by decide +kernel)
  · exact List.mem_of_getElem? (i := 172) (by decide +kernel)
theorem fs_17 : (Cond.exactly (tSt 17) "java/lang/String" ∈ flW ∧ Cond.eq (.field (tSt 17) "java/lang/String" "coder" "B") (.int 0) ∈ flW) ∧ Cond.arrayOf (tVl 17) .byte ∈ flW ∧ Cond.eq (.length (tVl 17)) (.int (Int32.ofNat (mLe.getD 17 0))) ∈ flW := ⟨⟨List.mem_of_getElem? (i := 173) (by decide +kernel), List.mem_of_getElem? (i := 174) (by decide +kernel)⟩, List.mem_of_getElem? (i := 175) (by decide +kernel), List.mem_of_getElem? (i := 176) (by decide +kernel)⟩
theorem fc_17 : ∀ j, j < mLe.getD 17 0 → Cond.eq (.elem (tVl 17) (.int (Int32.ofNat j))) (.int ((mBy.getD 17 []).getD j 0)) ∈ flW := by
  intro j hj
  have hj : j < 6 := hj
  rcases (show j = 0 ∨ j = 1 ∨ j = 2 ∨ j = 3 ∨ j = 4 ∨ j = 5 by omega) with rfl | rfl | rfl | rfl | rfl | rfl
  · exact List.mem_of_getElem? (i := 177) (by decide +kernel)
  · exact List.mem_of_getElem? (i := 178) (by decide +kernel)
  · exact List.mem_of_getElem? (i := 179) (by decide +kernel)
  · exact List.mem_of_getElem? (i := 180) (by decide +kernel)
  · exact List.mem_of_getElem? (i := 181) (by decide +kernel)
  · exact List.mem_of_getElem? (i := 182) (by decide +kernel)
theorem fs_18 : (Cond.exactly (tSt 18) "java/lang/String" ∈ flW ∧ Cond.eq (.field (tSt 18) "java/lang/String" "coder" "B") (.int 0) ∈ flW) ∧ Cond.arrayOf (tVl 18) .byte ∈ flW ∧ Cond.eq (.length (tVl 18)) (.int (Int32.ofNat (mLe.getD 18 0))) ∈ flW := ⟨⟨List.mem_of_getElem? (i := 183) (by decide +kernel), List.mem_of_getElem? (i := 184) (by decide +kernel)⟩, List.mem_of_getElem? (i := 185) (by decide +kernel), List.mem_of_getElem? (i := 186) (by decide +kernel)⟩
theorem fc_18 : ∀ j, j < mLe.getD 18 0 → Cond.eq (.elem (tVl 18) (.int (Int32.ofNat j))) (.int ((mBy.getD 18 []).getD j 0)) ∈ flW := by
  intro j hj
  have hj : j < 4 := hj
  rcases (show j = 0 ∨ j = 1 ∨ j = 2 ∨ j = 3 by omega) with rfl | rfl | rfl | rfl
  · exact List.mem_of_getElem? (i := 187) (by decide +kernel)
  · exact List.mem_of_getElem? (i := 188) (by decide +kernel)
  · exact List.mem_of_getElem? (i := 189) (by decide +kernel)
  · exact List.mem_of_getElem? (i := 190) (by decide +kernel)
theorem fs_19 : (Cond.exactly (tSt 19) "java/lang/String" ∈ flW ∧ Cond.eq (.field (tSt 19) "java/lang/String" "coder" "B") (.int 0) ∈ flW) ∧ Cond.arrayOf (tVl 19) .byte ∈ flW ∧ Cond.eq (.length (tVl 19)) (.int (Int32.ofNat (mLe.getD 19 0))) ∈ flW := ⟨⟨List.mem_of_getElem? (i := 191) (by decide +kernel), List.mem_of_getElem? (i := 192) (by decide +kernel)⟩, List.mem_of_getElem? (i := 193) (by decide +kernel), List.mem_of_getElem? (i := 194) (by decide +kernel)⟩
theorem fc_19 : ∀ j, j < mLe.getD 19 0 → Cond.eq (.elem (tVl 19) (.int (Int32.ofNat j))) (.int ((mBy.getD 19 []).getD j 0)) ∈ flW := by
  intro j hj
  have hj : j < 6 := hj
  rcases (show j = 0 ∨ j = 1 ∨ j = 2 ∨ j = 3 ∨ j = 4 ∨ j = 5 by omega) with rfl | rfl | rfl | rfl | rfl | rfl
  · exact List.mem_of_getElem? (i := 195) (by decide +kernel)
  · exact List.mem_of_getElem? (i := 196) (by decide +kernel)
  · exact List.mem_of_getElem? (i := 197) (by decide +kernel)
  · exact List.mem_of_getElem? (i := 198) (by decide +kernel)
  · exact List.mem_of_getElem? (i := 199) (by decide +kernel)
  · exact List.mem_of_getElem? (i := 200) (by decide +kernel)
theorem fs_20 : (Cond.exactly (tSt 20) "java/lang/String" ∈ flW ∧ Cond.eq (.field (tSt 20) "java/lang/String" "coder" "B") (.int 0) ∈ flW) ∧ Cond.arrayOf (tVl 20) .byte ∈ flW ∧ Cond.eq (.length (tVl 20)) (.int (Int32.ofNat (mLe.getD 20 0))) ∈ flW := ⟨⟨List.mem_of_getElem? (i := 202) (by decide +kernel), List.mem_of_getElem? (i := 203) (by decide +kernel)⟩, List.mem_of_getElem? (i := 204) (by decide +kernel), List.mem_of_getElem? (i := 205) (by decide +kernel)⟩
theorem fc_20 : ∀ j, j < mLe.getD 20 0 → Cond.eq (.elem (tVl 20) (.int (Int32.ofNat j))) (.int ((mBy.getD 20 []).getD j 0)) ∈ flW := by
  intro j hj
  have hj : j < 5 := hj
  rcases (show j = 0 ∨ j = 1 ∨ j = 2 ∨ j = 3 ∨ j = 4 by omega) with rfl | rfl | rfl | rfl | rfl
  · exact List.mem_of_getElem? (i := 206) (by decide +kernel)
  · exact List.mem_of_getElem? (i := 207) (by decide +kernel)
  · exact List.mem_of_getElem? (i := 208) (by decide +kernel)
  · exact List.mem_of_getElem? (i := 209) (by decide +kernel)
  · exact List.mem_of_getElem? (i := 210) (by decide +kernel)
theorem fs_21 : (Cond.exactly (tSt 21) "java/lang/String" ∈ flW ∧ Cond.eq (.field (tSt 21) "java/lang/String" "coder" "B") (.int 0) ∈ flW) ∧ Cond.arrayOf (tVl 21) .byte ∈ flW ∧ Cond.eq (.length (tVl 21)) (.int (Int32.ofNat (mLe.getD 21 0))) ∈ flW := ⟨⟨List.mem_of_getElem? (i := 212) (by decide +kernel), List.mem_of_getElem? (i := 213) (by decide +kernel)⟩, List.mem_of_getElem? (i := 214) (by decide +kernel), List.mem_of_getElem? (i := 215) (by decide +kernel)⟩
theorem fc_21 : ∀ j, j < mLe.getD 21 0 → Cond.eq (.elem (tVl 21) (.int (Int32.ofNat j))) (.int ((mBy.getD 21 []).getD j 0)) ∈ flW := by
  intro j hj
  have hj : j < 6 := hj
  rcases (show j = 0 ∨ j = 1 ∨ j = 2 ∨ j = 3 ∨ j = 4 ∨ j = 5 by omega) with rfl | rfl | rfl | rfl | rfl | rfl
  · exact List.mem_of_getElem? (i := 216) (by decide +kernel)
  · exact List.mem_of_getElem? (i := 217) (by decide +kernel)
  · exact List.mem_of_getElem? (i := 218) (by decide +kernel)
  · exact List.mem_of_getElem? (i := 219) (by decide +kernel)
  · exact List.mem_of_getElem? (i := 220) (by decide +kernel)
  · exact List.mem_of_getElem? (i := 221) (by decide +kernel)
theorem fs_22 : (Cond.exactly (tSt 22) "java/lang/String" ∈ flW ∧ Cond.eq (.field (tSt 22) "java/lang/String" "coder" "B") (.int 0) ∈ flW) ∧ Cond.arrayOf (tVl 22) .byte ∈ flW ∧ Cond.eq (.length (tVl 22)) (.int (Int32.ofNat (mLe.getD 22 0))) ∈ flW := ⟨⟨List.mem_of_getElem? (i := 223) (by decide +kernel), List.mem_of_getElem? (i := 224) (by decide +kernel)⟩, List.mem_of_getElem? (i := 225) (by decide +kernel), List.mem_of_getElem? (i := 226) (by decide +kernel)⟩
theorem fc_22 : ∀ j, j < mLe.getD 22 0 → Cond.eq (.elem (tVl 22) (.int (Int32.ofNat j))) (.int ((mBy.getD 22 []).getD j 0)) ∈ flW := by
  intro j hj
  have hj : j < 5 := hj
  rcases (show j = 0 ∨ j = 1 ∨ j = 2 ∨ j = 3 ∨ j = 4 by omega) with rfl | rfl | rfl | rfl | rfl
  · exact List.mem_of_getElem? (i := 227) (by decide +kernel)
  · exact List.mem_of_getElem? (i := 228) (by decide +kernel)
  · exact List.mem_of_getElem? (i := 229) (by decide +kernel)
  · exact List.mem_of_getElem? (i := 230) (by decide +kernel)
  · exact List.mem_of_getElem? (i := 231) (by decide +kernel)
theorem fs_23 : (Cond.exactly (tSt 23) "java/lang/String" ∈ flW ∧ Cond.eq (.field (tSt 23) "java/lang/String" "coder" "B") (.int 0) ∈ flW) ∧ Cond.arrayOf (tVl 23) .byte ∈ flW ∧ Cond.eq (.length (tVl 23)) (.int (Int32.ofNat (mLe.getD 23 0))) ∈ flW := ⟨⟨List.mem_of_getElem? (i := 233) (by decide +kernel), List.mem_of_getElem? (i := 234) (by decide +kernel)⟩, List.mem_of_getElem? (i := 235) (by decide +kernel), List.mem_of_getElem? (i := 236) (by decide +kernel)⟩
theorem fc_23 : ∀ j, j < mLe.getD 23 0 → Cond.eq (.elem (tVl 23) (.int (Int32.ofNat j))) (.int ((mBy.getD 23 []).getD j 0)) ∈ flW := by
  intro j hj
  have hj : j < 4 := hj
  rcases (show j = 0 ∨ j = 1 ∨ j = 2 ∨ j = 3 by omega) with rfl | rfl | rfl | rfl
  · exact List.mem_of_getElem? (i := 237) (by decide +kernel)
  · exact List.mem_of_getElem? (i := 238) (by decide +kernel)
  · exact List.mem_of_getElem? (i := 239) (by decide +kernel)
  · exact List.mem_of_getElem? (i := 240) (by decide +kernel)
theorem fs_24 : (Cond.exactly (tSt 24) "java/lang/String" ∈ flW ∧ Cond.eq (.field (tSt 24) "java/lang/String" "coder" "B") (.int 0) ∈ flW) ∧ Cond.arrayOf (tVl 24) .byte ∈ flW ∧ Cond.eq (.length (tVl 24)) (.int (Int32.ofNat (mLe.getD 24 0))) ∈ flW := ⟨⟨List.mem_of_getElem? (i := 242) (by decide +kernel), List.mem_of_getElem? (i := 243) (by decide +kernel)⟩, List.mem_of_getElem? (i := 244) (by decide +kernel), List.mem_of_getElem? (i := 245) (by decide +kernel)⟩
theorem fc_24 : ∀ j, j < mLe.getD 24 0 → Cond.eq (.elem (tVl 24) (.int (Int32.ofNat j))) (.int ((mBy.getD 24 []).getD j 0)) ∈ flW := by
  intro j hj
  have hj : j < 5 := hj
  rcases (show j = 0 ∨ j = 1 ∨ j = 2 ∨ j = 3 ∨ j = 4 by omega) with rfl | rfl | rfl | rfl | rfl
  · exact List.mem_of_getElem? (i := 246) (by decide +kernel)
  · exact List.mem_of_getElem? (i := 247) (by decide +kernel)
  · exact List.mem_of_getElem? (i := 248) (by decide +kernel)
  · exact List.mem_of_getElem? (i := 249) (by decide +kernel)
  · exact List.mem_of_getElem? (i := 250) (by decide +kernel)
theorem fs_25 : (Cond.exactly (tSt 25) "java/lang/String" ∈ flW ∧ Cond.eq (.field (tSt 25) "java/lang/String" "coder" "B") (.int 0) ∈ flW) ∧ Cond.arrayOf (tVl 25) .byte ∈ flW ∧ Cond.eq (.length (tVl 25)) (.int (Int32.ofNat (mLe.getD 25 0))) ∈ flW := ⟨⟨List.mem_of_getElem? (i := 252) (by decide +kernel), List.mem_of_getElem? (i := 253) (by decide +kernel)⟩, List.mem_of_getElem? (i := 254) (by decide +kernel), List.mem_of_getElem? (i := 255) (by decide +kernel)⟩
theorem fc_25 : ∀ j, j < mLe.getD 25 0 → Cond.eq (.elem (tVl 25) (.int (Int32.ofNat j))) (.int ((mBy.getD 25 []).getD j 0)) ∈ flW := by
  intro j hj
  have hj : j < 6 := hj
  rcases (show j = 0 ∨ j = 1 ∨ j = 2 ∨ j = 3 ∨ j = 4 ∨ j = 5 by omega) with rfl | rfl | rfl | rfl | rfl | rfl
  · exact List.mem_of_getElem? (i := 256) (by decide +kernel)
  · exact List.mem_of_getElem? (i := 257) (by decide +kernel)
  · exact List.mem_of_getElem? (i := 258) (by decide +kernel)
  · exact List.mem_of_getElem? (i := 259) (by decide +kernel)
  · exact List.mem_of_getElem? (i := 260) (by decide +kernel)
  · exact List.mem_of_getElem? (i := 261) (by decide +kernel)
theorem fs_26 : (Cond.exactly (tSt 26) "java/lang/String" ∈ flW ∧ Cond.eq (.field (tSt 26) "java/lang/String" "coder" "B") (.int 0) ∈ flW) ∧ Cond.arrayOf (tVl 26) .byte ∈ flW ∧ Cond.eq (.length (tVl 26)) (.int (Int32.ofNat (mLe.getD 26 0))) ∈ flW := ⟨⟨List.mem_of_getElem? (i := 263) (by decide +kernel), List.mem_of_getElem? (i := 264) (by decide +kernel)⟩, List.mem_of_getElem? (i := 265) (by decide +kernel), List.mem_of_getElem? (i := 266) (by decide +kernel)⟩
theorem fc_26 : ∀ j, j < mLe.getD 26 0 → Cond.eq (.elem (tVl 26) (.int (Int32.ofNat j))) (.int ((mBy.getD 26 []).getD j 0)) ∈ flW := by
  intro j hj
  have hj : j < 4 := hj
  rcases (show j = 0 ∨ j = 1 ∨ j = 2 ∨ j = 3 by omega) with rfl | rfl | rfl | rfl
  · exact List.mem_of_getElem? (i := 267) (by decide +kernel)
  · exact List.mem_of_getElem? (i := 268) (by decide +kernel)
  · exact List.mem_of_getElem? (i := 269) (by decide +kernel)
  · exact List.mem_of_getElem? (i := 270) (by decide +kernel)
theorem fs_27 : (Cond.exactly (tSt 27) "java/lang/String" ∈ flW ∧ Cond.eq (.field (tSt 27) "java/lang/String" "coder" "B") (.int 0) ∈ flW) ∧ Cond.arrayOf (tVl 27) .byte ∈ flW ∧ Cond.eq (.length (tVl 27)) (.int (Int32.ofNat (mLe.getD 27 0))) ∈ flW := ⟨⟨List.mem_of_getElem? (i := 272) (by decide +kernel), List.mem_of_getElem? (i := 273) (by decide +kernel)⟩, List.mem_of_getElem? (i := 274) (by decide +kernel), List.mem_of_getElem? (i := 275) (by decide +kernel)⟩
theorem fc_27 : ∀ j, j < mLe.getD 27 0 → Cond.eq (.elem (tVl 27) (.int (Int32.ofNat j))) (.int ((mBy.getD 27 []).getD j 0)) ∈ flW := by
  intro j hj
  have hj : j < 3 := hj
  rcases (show j = 0 ∨ j = 1 ∨ j = 2 by omega) with rfl | rfl | rfl
  · exact List.mem_of_getElem? (i := 276) (by decide +kernel)
  · exact List.mem_of_getElem? (i := 277) (by decide +kernel)
  · exact List.mem_of_getElem? (i := 278) (by decide +kernel)
theorem fs_28 : (Cond.exactly (tSt 28) "java/lang/String" ∈ flW ∧ Cond.eq (.field (tSt 28) "java/lang/String" "coder" "B") (.int 0) ∈ flW) ∧ Cond.arrayOf (tVl 28) .byte ∈ flW ∧ Cond.eq (.length (tVl 28)) (.int (Int32.ofNat (mLe.getD 28 0))) ∈ flW := ⟨⟨List.mem_of_getElem? (i := 280) (by decide +kernel), List.mem_of_getElem? (i := 281) (by decide +kernel)⟩, List.mem_of_getElem? (i := 282) (by decide +kernel), List.mem_of_getElem? (i := 283) (by decide +kernel)⟩
theorem fc_28 : ∀ j, j < mLe.getD 28 0 → Cond.eq (.elem (tVl 28) (.int (Int32.ofNat j))) (.int ((mBy.getD 28 []).getD j 0)) ∈ flW := by
  intro j hj
  have hj : j < 5 := hj
  rcases (show j = 0 ∨ j = 1 ∨ j = 2 ∨ j = 3 ∨ j = 4 by omega) with rfl | rfl | rfl | rfl | rfl
  · exact List.mem_of_getElem? (i := 284) (by decide +kernel)
  · exact List.mem_of_getElem? (i := 285) (by decide +kernel)
  · exact List.mem_of_getElem? (i := 286) (by decide +kernel)
  · exact List.mem_of_getElem? (i := 287) (by decide +kernel)
  · exact List.mem_of_getElem? (i := 288) (by decide +kernel)
theorem fs_29 : (Cond.exactly (tSt 29) "java/lang/String" ∈ flW ∧ Cond.eq (.field (tSt 29) "java/lang/String" "coder" "B") (.int 0) ∈ flW) ∧ Cond.arrayOf (tVl 29) .byte ∈ flW ∧ Cond.eq (.length (tVl 29)) (.int (Int32.ofNat (mLe.getD 29 0))) ∈ flW := ⟨⟨List.mem_of_getElem? (i := 290) (by decide +kernel), List.mem_of_getElem? (i := 291) (by decide +kernel)⟩, List.mem_of_getElem? (i := 292) (by decide +kernel), List.mem_of_getElem? (i := 293) (by decide +kernel)⟩
theorem fc_29 : ∀ j, j < mLe.getD 29 0 → Cond.eq (.elem (tVl 29) (.int (Int32.ofNat j))) (.int ((mBy.getD 29 []).getD j 0)) ∈ flW := by
  intro j hj
  have hj : j < 2 := hj
  rcases (show j = 0 ∨ j = 1 by omega) with rfl | rfl
  · exact List.mem_of_getElem? (i := 294) (by decide +kernel)
  · exact List.mem_of_getElem? (i := 295) (by decide +kernel)
theorem fs_30 : (Cond.exactly (tSt 30) "java/lang/String" ∈ flW ∧ Cond.eq (.field (tSt 30) "java/lang/String" "coder" "B") (.int 0) ∈ flW) ∧ Cond.arrayOf (tVl 30) .byte ∈ flW ∧ Cond.eq (.length (tVl 30)) (.int (Int32.ofNat (mLe.getD 30 0))) ∈ flW := ⟨⟨List.mem_of_getElem? (i := 297) (by decide +kernel), List.mem_of_getElem? (i := 298) (by decide +kernel)⟩, List.mem_of_getElem? (i := 299) (by decide +kernel), List.mem_of_getElem? (i := 300) (by decide +kernel)⟩
theorem fc_30 : ∀ j, j < mLe.getD 30 0 → Cond.eq (.elem (tVl 30) (.int (Int32.ofNat j))) (.int ((mBy.getD 30 []).getD j 0)) ∈ flW := by
  intro j hj
  have hj : j < 5 := hj
  rcases (show j = 0 ∨ j = 1 ∨ j = 2 ∨ j = 3 ∨ j = 4 by omega) with rfl | rfl | rfl | rfl | rfl
  · exact List.mem_of_getElem? (i := 301) (by decide +kernel)
  · exact List.mem_of_getElem? (i := 302) (by decide +kernel)
  · exact List.mem_of_getElem? (i := 303) (by decide +kernel)
  · exact List.mem_of_getElem? (i := 304) (by decide +kernel)
  · exact List.mem_of_getElem? (i := 305) (by decide +kernel)
theorem fs_31 : (Cond.exactly (tSt 31) "java/lang/String" ∈ flW ∧ Cond.eq (.field (tSt 31) "java/lang/String" "coder" "B") (.int 0) ∈ flW) ∧ Cond.arrayOf (tVl 31) .byte ∈ flW ∧ Cond.eq (.length (tVl 31)) (.int (Int32.ofNat (mLe.getD 31 0))) ∈ flW := ⟨⟨List.mem_of_getElem? (i := 307) (by decide +kernel), List.mem_of_getElem? (i := 308) (by decide +kernel)⟩, List.mem_of_getElem? (i := 309) (by decide +kernel), List.mem_of_getElem? (i := 310) (by decide +kernel)⟩
theorem fc_31 : ∀ j, j < mLe.getD 31 0 → Cond.eq (.elem (tVl 31) (.int (Int32.ofNat j))) (.int ((mBy.getD 31 []).getD j 0)) ∈ flW := by
  intro j hj
  have hj : j < 5 := hj
  rcases (show j = 0 ∨ j = 1 ∨ j = 2 ∨ j = 3 ∨ j = 4 by omega) with rfl | rfl | rfl | rfl | rfl
  · exact List.mem_of_getElem? (i := 311) (by decide +kernel)
  · exact List.mem_of_getElem? (i := 312) (by decide +kernel)
  · exact List.mem_of_getElem? (i := 313) (by decide +kernel)
  · exact List.mem_of_getElem? (i := 314) (by decide +kernel)
  · exact List.mem_of_getElem? (i := 315) (by decide +kernel)
theorem fs_32 : (Cond.exactly (tSt 32) "java/lang/String" ∈ flW ∧ Cond.eq (.field (tSt 32) "java/lang/String" "coder" "B") (.int 0) ∈ flW) ∧ Cond.arrayOf (tVl 32) .byte ∈ flW ∧ Cond.eq (.length (tVl 32)) (.int (Int32.ofNat (mLe.getD 32 0))) ∈ flW := ⟨⟨List.mem_of_getElem? (i := 317) (by decide +kernel), List.mem_of_getElem? (i := 318) (by decide +kernel)⟩, List.mem_of_getElem? (i := 319) (by decide +kernel), List.mem_of_getElem? (i := 320) (by decide +kernel)⟩
theorem fc_32 : ∀ j, j < mLe.getD 32 0 → Cond.eq (.elem (tVl 32) (.int (Int32.ofNat j))) (.int ((mBy.getD 32 []).getD j 0)) ∈ flW := by
  intro j hj
  have hj : j < 7 := hj
  rcases (show j = 0 ∨ j = 1 ∨ j = 2 ∨ j = 3 ∨ j = 4 ∨ j = 5 ∨ j = 6 by omega) with rfl | rfl | rfl | rfl | rfl | rfl | rfl
  · exact List.mem_of_getElem? (i := 321) (by decide +kernel)
  · exact List.mem_of_getElem? (i := 322) (by decide +kernel)
  · exact List.mem_of_getElem? (i := 323) (by decide +kernel)
  · exact List.mem_of_getElem? (i := 324) (by decide +kernel)
  · exact List.mem_of_getElem? (i := 325) (by decide +kernel)
  · exact List.mem_of_getElem? (i := 326) (by decide +kernel)
  · exact List.mem_of_getElem? (i := 327) (by decide +kernel)
theorem fs_33 : (Cond.exactly (tSt 33) "java/lang/String" ∈ flW ∧ Cond.eq (.field (tSt 33) "java/lang/String" "coder" "B") (.int 0) ∈ flW) ∧ Cond.arrayOf (tVl 33) .byte ∈ flW ∧ Cond.eq (.length (tVl 33)) (.int (Int32.ofNat (mLe.getD 33 0))) ∈ flW := ⟨⟨List.mem_of_getElem? (i := 329) (by decide +kernel), List.mem_of_getElem? (i := 330) (by decide +kernel)⟩, List.mem_of_getElem? (i := 331) (by decide +kernel), List.mem_of_getElem? (i := 332) (by decide +kernel)⟩
theorem fc_33 : ∀ j, j < mLe.getD 33 0 → Cond.eq (.elem (tVl 33) (.int (Int32.ofNat j))) (.int ((mBy.getD 33 []).getD j 0)) ∈ flW := by
  intro j hj
  have hj : j < 6 := hj
  rcases (show j = 0 ∨ j = 1 ∨ j = 2 ∨ j = 3 ∨ j = 4 ∨ j = 5 by omega) with rfl | rfl | rfl | rfl | rfl | rfl
  · exact List.mem_of_getElem? (i := 333) (by decide +kernel)
  · exact List.mem_of_getElem? (i := 334) (by decide +kernel)
  · exact List.mem_of_getElem? (i := 335) (by decide +kernel)
  · exact List.mem_of_getElem? (i := 336) (by decide +kernel)
  · exact List.mem_of_getElem? (i := 337) (by decide +kernel)
  · exact List.mem_of_getElem? (i := 338) (by decide +kernel)
theorem fs_34 : (Cond.exactly (tSt 34) "java/lang/String" ∈ flW ∧ Cond.eq (.field (tSt 34) "java/lang/String" "coder" "B") (.int 0) ∈ flW) ∧ Cond.arrayOf (tVl 34) .byte ∈ flW ∧ Cond.eq (.length (tVl 34)) (.int (Int32.ofNat (mLe.getD 34 0))) ∈ flW := ⟨⟨List.mem_of_getElem? (i := 340) (by decide +kernel), List.mem_of_getElem? (i := 341) (by decide +kernel)⟩, List.mem_of_getElem? (i := 342) (by decide +kernel), List.mem_of_getElem? (i := 343) (by decide +kernel)⟩
theorem fc_34 : ∀ j, j < mLe.getD 34 0 → Cond.eq (.elem (tVl 34) (.int (Int32.ofNat j))) (.int ((mBy.getD 34 []).getD j 0)) ∈ flW := by
  intro j hj
  have hj : j < 4 := hj
  rcases (show j = 0 ∨ j = 1 ∨ j = 2 ∨ j = 3 by omega) with rfl | rfl | rfl | rfl
  · exact List.mem_of_getElem? (i := 344) (by decide +kernel)
  · exact List.mem_of_getElem? (i := 345) (by decide +kernel)
  · exact List.mem_of_getElem? (i := 346) (by decide +kernel)
  · exact List.mem_of_getElem? (i := 347) (by decide +kernel)
theorem fs_35 : (Cond.exactly (tSt 35) "java/lang/String" ∈ flW ∧ Cond.eq (.field (tSt 35) "java/lang/String" "coder" "B") (.int 0) ∈ flW) ∧ Cond.arrayOf (tVl 35) .byte ∈ flW ∧ Cond.eq (.length (tVl 35)) (.int (Int32.ofNat (mLe.getD 35 0))) ∈ flW := ⟨⟨List.mem_of_getElem? (i := 349) (by decide +kernel), List.mem_of_getElem? (i := 350) (by decide +kernel)⟩, List.mem_of_getElem? (i := 351) (by decide +kernel), List.mem_of_getElem? (i := 352) (by decide +kernel)⟩
theorem fc_35 : ∀ j, j < mLe.getD 35 0 → Cond.eq (.elem (tVl 35) (.int (Int32.ofNat j))) (.int ((mBy.getD 35 []).getD j 0)) ∈ flW := by
  intro j hj
  have hj : j < 6 := hj
  rcases (show j = 0 ∨ j = 1 ∨ j = 2 ∨ j = 3 ∨ j = 4 ∨ j = 5 by omega) with rfl | rfl | rfl | rfl | rfl | rfl
  · exact List.mem_of_getElem? (i := 353) (by decide +kernel)
  · exact List.mem_of_getElem? (i := 354) (by decide +kernel)
  · exact List.mem_of_getElem? (i := 355) (by decide +kernel)
  · exact List.mem_of_getElem? (i := 356) (by decide +kernel)
  · exact List.mem_of_getElem? (i := 357) (by decide +kernel)
  · exact List.mem_of_getElem? (i := 358) (by decide +kernel)
theorem fs_36 : (Cond.exactly (tSt 36) "java/lang/String" ∈ flW ∧ Cond.eq (.field (tSt 36) "java/lang/String" "coder" "B") (.int 0) ∈ flW) ∧ Cond.arrayOf (tVl 36) .byte ∈ flW ∧ Cond.eq (.length (tVl 36)) (.int (Int32.ofNat (mLe.getD 36 0))) ∈ flW := ⟨⟨List.mem_of_getElem? (i := 360) (by decide +kernel), List.mem_of_getElem? (i := 361) (by decide +kernel)⟩, List.mem_of_getElem? (i := 362) (by decide +kernel), List.mem_of_getElem? (i := 363) (by decide +kernel)⟩
theorem fc_36 : ∀ j, j < mLe.getD 36 0 → Cond.eq (.elem (tVl 36) (.int (Int32.ofNat j))) (.int ((mBy.getD 36 []).getD j 0)) ∈ flW := by
  intro j hj
  have hj : j < 4 := hj
  rcases (show j = 0 ∨ j = 1 ∨ j = 2 ∨ j = 3 by omega) with rfl | rfl | rfl | rfl
  · exact List.mem_of_getElem? (i := 364) (by decide +kernel)
  · exact List.mem_of_getElem? (i := 365) (by decide +kernel)
  · exact List.mem_of_getElem? (i := 366) (by decide +kernel)
  · exact List.mem_of_getElem? (i := 367) (by decide +kernel)
theorem fs_37 : (Cond.exactly (tSt 37) "java/lang/String" ∈ flW ∧ Cond.eq (.field (tSt 37) "java/lang/String" "coder" "B") (.int 0) ∈ flW) ∧ Cond.arrayOf (tVl 37) .byte ∈ flW ∧ Cond.eq (.length (tVl 37)) (.int (Int32.ofNat (mLe.getD 37 0))) ∈ flW := ⟨⟨List.mem_of_getElem? (i := 369) (by decide +kernel), List.mem_of_getElem? (i := 370) (by decide +kernel)⟩, List.mem_of_getElem? (i := 371) (by decide +kernel), List.mem_of_getElem? (i := 372) (by decide +kernel)⟩
theorem fc_37 : ∀ j, j < mLe.getD 37 0 → Cond.eq (.elem (tVl 37) (.int (Int32.ofNat j))) (.int ((mBy.getD 37 []).getD j 0)) ∈ flW := by
  intro j hj
  have hj : j < 4 := hj
  rcases (show j = 0 ∨ j = 1 ∨ j = 2 ∨ j = 3 by omega) with rfl | rfl | rfl | rfl
  · exact List.mem_of_getElem? (i := 373) (by decide +kernel)
  · exact List.mem_of_getElem? (i := 374) (by decide +kernel)
  · exact List.mem_of_getElem? (i := 375) (by decide +kernel)
  · exact List.mem_of_getElem? (i := 376) (by decide +kernel)
theorem fl_str : ∀ i, i < 38 → (Cond.exactly (tSt i) "java/lang/String" ∈ flW ∧ Cond.eq (.field (tSt i) "java/lang/String" "coder" "B") (.int 0) ∈ flW) ∧ Cond.arrayOf (tVl i) .byte ∈ flW ∧ Cond.eq (.length (tVl i)) (.int (Int32.ofNat (mLe.getD i 0))) ∈ flW := by
  intro i hi
  rcases (show i = 0 ∨ i = 1 ∨ i = 2 ∨ i = 3 ∨ i = 4 ∨ i = 5 ∨ i = 6 ∨ i = 7 ∨ i = 8 ∨ i = 9 ∨ i = 10 ∨ i = 11 ∨ i = 12 ∨ i = 13 ∨ i = 14 ∨ i = 15 ∨ i = 16 ∨ i = 17 ∨ i = 18 ∨ i = 19 ∨ i = 20 ∨ i = 21 ∨ i = 22 ∨ i = 23 ∨ i = 24 ∨ i = 25 ∨ i = 26 ∨ i = 27 ∨ i = 28 ∨ i = 29 ∨ i = 30 ∨ i = 31 ∨ i = 32 ∨ i = 33 ∨ i = 34 ∨ i = 35 ∨ i = 36 ∨ i = 37 by omega) with rfl | rfl | rfl | rfl | rfl | rfl | rfl | rfl | rfl | rfl | rfl | rfl | rfl | rfl | rfl | rfl | rfl | rfl | rfl | rfl | rfl | rfl | rfl | rfl | rfl | rfl | rfl | rfl | rfl | rfl | rfl | rfl | rfl | rfl | rfl | rfl | rfl | rfl
  · exact fs_0
  · exact fs_1
  · exact fs_2
  · exact fs_3
  · exact fs_4
  · exact fs_5
  · exact fs_6
  · exact fs_7
  · exact fs_8
  · exact fs_9
  · exact fs_10
  · exact fs_11
  · exact fs_12
  · exact fs_13
  · exact fs_14
  · exact fs_15
  · exact fs_16
  · exact fs_17
  · exact fs_18
  · exact fs_19
  · exact fs_20
  · exact fs_21
  · exact fs_22
  · exact fs_23
  · exact fs_24
  · exact fs_25
  · exact fs_26
  · exact fs_27
  · exact fs_28
  · exact fs_29
  · exact fs_30
  · exact fs_31
  · exact fs_32
  · exact fs_33
  · exact fs_34
  · exact fs_35
  · exact fs_36
  · exact fs_37
theorem fl_chr : ∀ i, i < 38 → ∀ j, j < mLe.getD i 0 → Cond.eq (.elem (tVl i) (.int (Int32.ofNat j))) (.int ((mBy.getD i []).getD j 0)) ∈ flW := by
  intro i hi
  rcases (show i = 0 ∨ i = 1 ∨ i = 2 ∨ i = 3 ∨ i = 4 ∨ i = 5 ∨ i = 6 ∨ i = 7 ∨ i = 8 ∨ i = 9 ∨ i = 10 ∨ i = 11 ∨ i = 12 ∨ i = 13 ∨ i = 14 ∨ i = 15 ∨ i = 16 ∨ i = 17 ∨ i = 18 ∨ i = 19 ∨ i = 20 ∨ i = 21 ∨ i = 22 ∨ i = 23 ∨ i = 24 ∨ i = 25 ∨ i = 26 ∨ i = 27 ∨ i = 28 ∨ i = 29 ∨ i = 30 ∨ i = 31 ∨ i = 32 ∨ i = 33 ∨ i = 34 ∨ i = 35 ∨ i = 36 ∨ i = 37 by omega) with rfl | rfl | rfl | rfl | rfl | rfl | rfl | rfl | rfl | rfl | rfl | rfl | rfl | rfl | rfl | rfl | rfl | rfl | rfl | rfl | rfl | rfl | rfl | rfl | rfl | rfl | rfl | rfl | rfl | rfl | rfl | rfl | rfl | rfl | rfl | rfl | rfl | rfl
  · exact fc_0
  · exact fc_1
  · exact fc_2
  · exact fc_3
  · exact fc_4
  · exact fc_5
  · exact fc_6
  · exact fc_7
  · exact fc_8
  · exact fc_9
  · exact fc_10
  · exact fc_11
  · exact fc_12
  · exact fc_13
  · exact fc_14
  · exact fc_15
  · exact fc_16
  · exact fc_17
  · exact fc_18
  · exact fc_19
  · exact fc_20
  · exact fc_21
  · exact fc_22
  · exact fc_23
  · exact fc_24
  · exact fc_25
  · exact fc_26
  · exact fc_27
  · exact fc_28
  · exact fc_29
  · exact fc_30
  · exact fc_31
  · exact fc_32
  · exact fc_33
  · exact fc_34
  · exact fc_35
  · exact fc_36
  · exact fc_37
theorem tb_str : ∀ i, i < 38 → Cond.stringRef (mSr.getD i mSd).1 (mSr.getD i mSd).2.1 (mSr.getD i mSd).2.2 ∈ tables_1 := by
  intro i hi
  rcases (show i = 0 ∨ i = 1 ∨ i = 2 ∨ i = 3 ∨ i = 4 ∨ i = 5 ∨ i = 6 ∨ i = 7 ∨ i = 8 ∨ i = 9 ∨ i = 10 ∨ i = 11 ∨ i = 12 ∨ i = 13 ∨ i = 14 ∨ i = 15 ∨ i = 16 ∨ i = 17 ∨ i = 18 ∨ i = 19 ∨ i = 20 ∨ i = 21 ∨ i = 22 ∨ i = 23 ∨ i = 24 ∨ i = 25 ∨ i = 26 ∨ i = 27 ∨ i = 28 ∨ i = 29 ∨ i = 30 ∨ i = 31 ∨ i = 32 ∨ i = 33 ∨ i = 34 ∨ i = 35 ∨ i = 36 ∨ i = 37 by omega) with rfl | rfl | rfl | rfl | rfl | rfl | rfl | rfl | rfl | rfl | rfl | rfl | rfl | rfl | rfl | rfl | rfl | rfl | rfl | rfl | rfl | rfl | rfl | rfl | rfl | rfl | rfl | rfl | rfl | rfl | rfl | rfl | rfl | rfl | rfl | rfl | rfl | rfl
  · exact List.mem_of_getElem? (i := 481) (by decide +kernel)
  · exact List.mem_of_getElem? (i := 534) (by decide +kernel)
  · exact List.mem_of_getElem? (i := 535) (by decide +kernel)
  · exact List.mem_of_getElem? (i := 536) (by decide +kernel)
  · exact List.mem_of_getElem? (i := 537) (by decide +kernel)
  · exact List.mem_of_getElem? (i := 538) (by decide +kernel)
  · exact List.mem_of_getElem? (i := 539) (by decide +kernel)
  · exact List.mem_of_getElem? (i := 540) (by decide +kernel)
  · exact List.mem_of_getElem? (i := 549) (by decide +kernel)
  · exact List.mem_of_getElem? (i := 550) (by decide +kernel)
  · exact List.mem_of_getElem? (i := 551) (by decide +kernel)
  · exact List.mem_of_getElem? (i := 564) (by decide +kernel)
  · exact List.mem_of_getElem? (i := 565) (by decide +kernel)
  · exact List.mem_of_getElem? (i := 570) (by decide +kernel)
  · exact List.mem_of_getElem? (i := 579) (by decide +kernel)
  · exact List.mem_of_getElem? (i := 580) (by decide +kernel)
  · exact List.mem_of_getElem? (i := 581) (by decide +kernel)
  · exact List.mem_of_getElem? (i := 582) (by decide +kernel)
  · exact List.mem_of_getElem? (i := 583) (by decide +kernel)
  · exact List.mem_of_getElem? (i := 1173) (by decide +kernel)
  · exact List.mem_of_getElem? (i := 1180) (by decide +kernel)
  · exact List.mem_of_getElem? (i := 1181) (by decide +kernel)
  · exact List.mem_of_getElem? (i := 1182) (by decide +kernel)
  · exact List.mem_of_getElem? (i := 1183) (by decide +kernel)
  · exact List.mem_of_getElem? (i := 1184) (by decide +kernel)
  · exact List.mem_of_getElem? (i := 1185) (by decide +kernel)
  · exact List.mem_of_getElem? (i := 1186) (by decide +kernel)
  · exact List.mem_of_getElem? (i := 1199) (by decide +kernel)
  · exact List.mem_of_getElem? (i := 1200) (by decide +kernel)
  · exact List.mem_of_getElem? (i := 1205) (by decide +kernel)
  · exact List.mem_of_getElem? (i := 1206) (by decide +kernel)
  · exact List.mem_of_getElem? (i := 1207) (by decide +kernel)
  · exact List.mem_of_getElem? (i := 1208) (by decide +kernel)
  · exact List.mem_of_getElem? (i := 1209) (by decide +kernel)
  · exact List.mem_of_getElem? (i := 1210) (by decide +kernel)
  · exact List.mem_of_getElem? (i := 1215) (by decide +kernel)
  · exact List.mem_of_getElem? (i := 1216) (by decide +kernel)
  · exact List.mem_of_getElem? (i := 1217) (by decide +kernel)
theorem fl_len : ∀ i, i < 38 → mLe.getD i 0 ≤ 7 := by
  have h : ∀ i : Fin 38, mLe.getD i 0 ≤ 7 := by decide +kernel
  exact fun i hi => h ⟨i, hi⟩
theorem fz_1 : Cond.eq (.static "java/lang/String" "COMPACT_STRINGS" "Z") (.int 1) ∈ flW := List.mem_of_getElem? (i := 4) (by decide +kernel)
theorem fq_0 : Cond.isRef (.static "java/lang/Throwable" "UNASSIGNED_STACK" "[Ljava/lang/StackTraceElement;") ∈ flW := List.mem_of_getElem? (i := 9) (by decide +kernel)
theorem fq_1 : Cond.isRef (.static "java/lang/Throwable" "SUPPRESSED_SENTINEL" "Ljava/util/List;") ∈ flW := List.mem_of_getElem? (i := 10) (by decide +kernel)
theorem fq_2 : Cond.isRef (.static "jdk/internal/util/Preconditions" "SIOOBE_FORMATTER" "Ljava/util/function/BiFunction;") ∈ flW := List.mem_of_getElem? (i := 5) (by decide +kernel)
