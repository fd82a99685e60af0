theorem am_mm_X8_130 : Cond.methodLink RX8 130 ⟨"java/lang/Math", "min", "(II)I"⟩ ∈ am_tbl := am_t2 (i := 17) rfl rfl
theorem am_mm_X8_209 : Cond.methodLink RX8 209 ⟨"java/lang/Math", "max", "(II)I"⟩ ∈ am_tbl := am_t2 (i := 20) rfl rfl
theorem am_mm_X8_348 : Cond.methodLink RX8 348 ⟨"java/lang/Math", "abs", "(I)I"⟩ ∈ am_tbl := am_t4 (i := 82) rfl rfl
theorem am_ac_X8_361 : Cond.methodLink RX8 361 arraycopyName ∈ am_tbl := am_t4 (i := 109) rfl rfl
theorem am_ac_X0_25 : Cond.methodLink RX0 25 arraycopyName ∈ am_tbl := am_t3 (i := 68) rfl rfl
theorem am_mm_X0_43 : Cond.methodLink RX0 43 ⟨"java/lang/Math", "min", "(II)I"⟩ ∈ am_tbl := am_t3 (i := 106) rfl rfl
theorem am_mm_X1_46 : Cond.methodLink RX1 46 ⟨"java/lang/Math", "min", "(II)I"⟩ ∈ am_tbl := am_t4 (i := 6) rfl rfl
theorem am_mm_X1_63 : Cond.methodLink RX1 63 ⟨"java/lang/Math", "max", "(II)I"⟩ ∈ am_tbl := am_t4 (i := 25) rfl rfl
theorem am_mm_X4_52 : Cond.methodLink RX4 52 ⟨"java/lang/Math", "min", "(II)I"⟩ ∈ am_tbl := am_t3 (i := 4) rfl rfl
theorem am_mm_X4_99 : Cond.methodLink RX4 99 ⟨"java/lang/Math", "max", "(II)I"⟩ ∈ am_tbl := am_t3 (i := 39) rfl rfl
theorem am_mm_X6_44 : Cond.methodLink RX6 44 ⟨"java/lang/Math", "min", "(II)I"⟩ ∈ am_tbl := am_t2 (i := 143) rfl rfl
theorem am_mm_X9_225 : Cond.methodLink RX9 225 ⟨"java/lang/Math", "min", "(II)I"⟩ ∈ am_tbl := am_t6 (i := 126) rfl rfl
theorem am_mm_X9_231 : Cond.methodLink RX9 231 ⟨"java/lang/Math", "max", "(II)I"⟩ ∈ am_tbl := am_t6 (i := 127) rfl rfl
theorem am_mm_X9_320 : Cond.methodLink RX9 320 ⟨"java/lang/Math", "abs", "(I)I"⟩ ∈ am_tbl := am_t7 (i := 50) rfl rfl
theorem am_mm_X9_336 : Cond.methodLink RX9 336 ⟨"java/lang/Math", "max", "(JJ)J"⟩ ∈ am_tbl := am_t7 (i := 80) rfl rfl
