theorem wlo_X11_3 : Cond.methodLink RX11 3 Lib.objectInit ∈ BW := bw_mem 92 (by decide +kernel) rfl
theorem wlo_X10_3 : Cond.methodLink RX10 3 Lib.objectInit ∈ BW := bw_mem 100 (by decide +kernel) rfl
theorem wlo_X3_3 : Cond.methodLink RX3 3 Lib.objectInit ∈ BW := bw_mem 109 (by decide +kernel) rfl
theorem wlo_X4_3 : Cond.methodLink RX4 3 Lib.objectInit ∈ BW := bw_mem 208 (by decide +kernel) rfl
theorem wlo_X6_3 : Cond.methodLink RX6 3 Lib.objectInit ∈ BW := bw_mem 273 (by decide +kernel) rfl
theorem wlo_X5_3 : Cond.methodLink RX5 3 Lib.objectInit ∈ BW := bw_mem 426 (by decide +kernel) rfl
theorem wlo_X12_3 : Cond.methodLink RX12 3 Lib.objectInit ∈ BW := bw_mem 1050 (by decide +kernel) rfl
theorem wio : Cond.instanceMethod Lib.objectInit ∈ BW := bw_mem 93 (by decide +kernel) rfl
theorem wko : Cond.code Lib.objectInit ⟨#[0xb1]⟩ 1 none ∈ BW := bw_mem 94 (by decide +kernel) rfl
theorem wa_int : Cond.arrayClass .int ∈ BW := bw_mem 137 (by decide +kernel) rfl
theorem wa_byte : Cond.arrayClass .byte ∈ BW := bw_mem 410 (by decide +kernel) rfl
theorem wa_boolean : Cond.arrayClass .boolean ∈ BW := bw_mem 1126 (by decide +kernel) rfl
theorem nf_X0 : ∀ j, j < 9 → defaultValue (tyX0 j) = vp_V (([an, ai 0, ai 0, ai 0, ai 0, ai 0, ai 0, ai 0, ai 0] : List aV).map cV) j := by
  intro j hj
  rcases (show j = 0 ∨ j = 1 ∨ j = 2 ∨ j = 3 ∨ j = 4 ∨ j = 5 ∨ j = 6 ∨ j = 7 ∨ j = 8 by omega) with rfl | rfl | rfl | rfl | rfl | rfl | rfl | rfl | rfl <;> rfl
theorem nf_X1 : ∀ j, j < 9 → defaultValue (tyX1 j) = vp_V (([an, ai 0, ai 0, ai 0, ai 0, ai 0, ai 0, ai 0, ai 0] : List aV).map cV) j := by
  intro j hj
  rcases (show j = 0 ∨ j = 1 ∨ j = 2 ∨ j = 3 ∨ j = 4 ∨ j = 5 ∨ j = 6 ∨ j = 7 ∨ j = 8 by omega) with rfl | rfl | rfl | rfl | rfl | rfl | rfl | rfl | rfl <;> rfl
theorem nf_X2 : ∀ j, j < 9 → defaultValue (tyX2 j) = vp_V (([an, ai 0, ai 0, ai 0, ai 0, ai 0, ai 0, ai 0, ai 0] : List aV).map cV) j := by
  intro j hj
  rcases (show j = 0 ∨ j = 1 ∨ j = 2 ∨ j = 3 ∨ j = 4 ∨ j = 5 ∨ j = 6 ∨ j = 7 ∨ j = 8 by omega) with rfl | rfl | rfl | rfl | rfl | rfl | rfl | rfl | rfl <;> rfl
theorem nf_X3 : ∀ j, j < 7 → defaultValue (tyX3 j) = vp_V (([ai 0, ai 0, ai 0, ai 0, an, an, an] : List aV).map cV) j := by
  intro j hj
  rcases (show j = 0 ∨ j = 1 ∨ j = 2 ∨ j = 3 ∨ j = 4 ∨ j = 5 ∨ j = 6 by omega) with rfl | rfl | rfl | rfl | rfl | rfl | rfl <;> rfl
theorem nf_X4 : ∀ j, j < 7 → defaultValue (tyX4 j) = vp_V (([an, ai 0, ai 0, ai 0, ai 0, ai 0, ai 0] : List aV).map cV) j := by
  intro j hj
  rcases (show j = 0 ∨ j = 1 ∨ j = 2 ∨ j = 3 ∨ j = 4 ∨ j = 5 ∨ j = 6 by omega) with rfl | rfl | rfl | rfl | rfl | rfl | rfl <;> rfl
theorem nf_X5 : ∀ j, j < 9 → defaultValue (tyX5 j) = vp_V (([an, ai 0, ai 0, ai 0, ai 0, ai 0, ai 0, ai 0, ai 0] : List aV).map cV) j := by
  intro j hj
  rcases (show j = 0 ∨ j = 1 ∨ j = 2 ∨ j = 3 ∨ j = 4 ∨ j = 5 ∨ j = 6 ∨ j = 7 ∨ j = 8 by omega) with rfl | rfl | rfl | rfl | rfl | rfl | rfl | rfl | rfl <;> rfl
theorem nf_X6 : ∀ j, j < 5 → defaultValue (tyX6 j) = vp_V (([an, ai 0, an, ai 0, ai 0] : List aV).map cV) j := by
  intro j hj
  rcases (show j = 0 ∨ j = 1 ∨ j = 2 ∨ j = 3 ∨ j = 4 by omega) with rfl | rfl | rfl | rfl | rfl <;> rfl
theorem nf_X7 : ∀ j, j < 9 → defaultValue (tyX7 j) = vp_V (([an, ai 0, ai 0, ai 0, ai 0, ai 0, ai 0, ai 0, ai 0] : List aV).map cV) j := by
  intro j hj
  rcases (show j = 0 ∨ j = 1 ∨ j = 2 ∨ j = 3 ∨ j = 4 ∨ j = 5 ∨ j = 6 ∨ j = 7 ∨ j = 8 by omega) with rfl | rfl | rfl | rfl | rfl | rfl | rfl | rfl | rfl <;> rfl
theorem nf_X8 : ∀ j, j < 9 → defaultValue (tyX8 j) = vp_V (([an, ai 0, ai 0, ai 0, ai 0, ai 0, ai 0, ai 0, ai 0] : List aV).map cV) j := by
  intro j hj
  rcases (show j = 0 ∨ j = 1 ∨ j = 2 ∨ j = 3 ∨ j = 4 ∨ j = 5 ∨ j = 6 ∨ j = 7 ∨ j = 8 by omega) with rfl | rfl | rfl | rfl | rfl | rfl | rfl | rfl | rfl <;> rfl
theorem nf_X9 : ∀ j, j < 10 → defaultValue (tyX9 j) = vp_V (([an, ai 0, ai 0, ai 0, ai 0, ai 0, ai 0, ai 0, ai 0, an] : List aV).map cV) j := by
  intro j hj
  rcases (show j = 0 ∨ j = 1 ∨ j = 2 ∨ j = 3 ∨ j = 4 ∨ j = 5 ∨ j = 6 ∨ j = 7 ∨ j = 8 ∨ j = 9 by omega) with rfl | rfl | rfl | rfl | rfl | rfl | rfl | rfl | rfl | rfl <;> rfl
theorem nf_X10 : ∀ j, j < 16 → defaultValue (tyX10 j) = vp_V (([an, an, an, an, an, an, an, an, an, ai 0, ai 0, ai 0, ai 0, ai 0, ai 0, an] : List aV).map cV) j := by
  intro j hj
  rcases (show j = 0 ∨ j = 1 ∨ j = 2 ∨ j = 3 ∨ j = 4 ∨ j = 5 ∨ j = 6 ∨ j = 7 ∨ j = 8 ∨ j = 9 ∨ j = 10 ∨ j = 11 ∨ j = 12 ∨ j = 13 ∨ j = 14 ∨ j = 15 by omega) with rfl | rfl | rfl | rfl | rfl | rfl | rfl | rfl | rfl | rfl | rfl | rfl | rfl | rfl | rfl | rfl <;> rfl
theorem nf_X11 : ∀ j, j < 8 → defaultValue (tyX11 j) = vp_V (([an, an, an, an, an, an, an, ai 0] : List aV).map cV) j := by
  intro j hj
  rcases (show j = 0 ∨ j = 1 ∨ j = 2 ∨ j = 3 ∨ j = 4 ∨ j = 5 ∨ j = 6 ∨ j = 7 by omega) with rfl | rfl | rfl | rfl | rfl | rfl | rfl | rfl <;> rfl
theorem nf_X12 : ∀ j, j < 25 → defaultValue (tyX12 j) = vp_V (([ai 0, an, an, ai 0, ai 0, ai 0, ai 0, ai 0, ai 0, an, an, ai 0, ai 0, ai 0, an, ai 0, al 0, al 0, an, an, an, ai 0, ai 0, ai 0, ai 0] : List aV).map cV) j := by
  intro j hj
  rcases (show j = 0 ∨ j = 1 ∨ j = 2 ∨ j = 3 ∨ j = 4 ∨ j = 5 ∨ j = 6 ∨ j = 7 ∨ j = 8 ∨ j = 9 ∨ j = 10 ∨ j = 11 ∨ j = 12 ∨ j = 13 ∨ j = 14 ∨ j = 15 ∨ j = 16 ∨ j = 17 ∨ j = 18 ∨ j = 19 ∨ j = 20 ∨ j = 21 ∨ j = 22 ∨ j = 23 ∨ j = 24 by omega) with rfl | rfl | rfl | rfl | rfl | rfl | rfl | rfl | rfl | rfl | rfl | rfl | rfl | rfl | rfl | rfl | rfl | rfl | rfl | rfl | rfl | rfl | rfl | rfl | rfl <;> rfl
