theorem am_t1 {w : Cond} {i : Nat} (h : tables_1_1[i]? = some w) (hg : goodWord w = true) : w ∈ am_tbl := am_tbl_in (List.mem_append_right _ (List.mem_append_left _ (List.mem_of_getElem? h))) hg
theorem am_t2 {w : Cond} {i : Nat} (h : tables_1_2[i]? = some w) (hg : goodWord w = true) : w ∈ am_tbl := am_tbl_in (List.mem_append_right _ (List.mem_append_right _ (List.mem_append_left _ (List.mem_of_getElem? h)))) hg
theorem am_t3 {w : Cond} {i : Nat} (h : tables_1_3[i]? = some w) (hg : goodWord w = true) : w ∈ am_tbl := am_tbl_in (List.mem_append_right _ (List.mem_append_right _ (List.mem_append_right _ (List.mem_append_left _ (List.mem_of_getElem? h))))) hg
theorem am_t4 {w : Cond} {i : Nat} (h : tables_1_4[i]? = some w) (hg : goodWord w = true) : w ∈ am_tbl := am_tbl_in (List.mem_append_right _ (List.mem_append_right _ (List.mem_append_right _ (List.mem_append_right _ (List.mem_append_left _ (List.mem_of_getElem? h)))))) hg
theorem am_t5 {w : Cond} {i : Nat} (h : tables_1_5[i]? = some w) (hg : goodWord w = true) : w ∈ am_tbl := am_tbl_in (List.mem_append_right _ (List.mem_append_right _ (List.mem_append_right _ (List.mem_append_right _ (List.mem_append_right _ (List.mem_append_left _ (List.mem_of_getElem? h))))))) hg
theorem am_t6 {w : Cond} {i : Nat} (h : tables_1_6[i]? = some w) (hg : goodWord w = true) : w ∈ am_tbl := am_tbl_in (List.mem_append_right _ (List.mem_append_right _ (List.mem_append_right _ (List.mem_append_right _ (List.mem_append_right _ (List.mem_append_right _ (List.mem_append_left _ (List.mem_of_getElem? h)))))))) hg
theorem am_t7 {w : Cond} {i : Nat} (h : tables_1_7[i]? = some w) (hg : goodWord w = true) : w ∈ am_tbl := am_tbl_in (List.mem_append_right _ (List.mem_append_right _ (List.mem_append_right _ (List.mem_append_right _ (List.mem_append_right _ (List.mem_append_right _ (List.mem_append_right _ (List.mem_of_getElem? h)))))))) hg
theorem am_tbl_l {w : Cond} {i : Nat} (h : lw_tbl[i]? = some w) (hg : goodWord w = true) : w ∈ am_tbl := am_tbl_in (List.mem_of_getElem? h) hg
theorem am_iX0 : ∀ w ∈ u_ws RX0 TX0 8, w ∈ am_tbl := by
  show ∀ w ∈ [u_lay RX0 TX0 0, u_lay RX0 TX0 1, u_lay RX0 TX0 2, u_lay RX0 TX0 3, u_lay RX0 TX0 4, u_lay RX0 TX0 5, u_lay RX0 TX0 6, u_lay RX0 TX0 7], w ∈ am_tbl
  exact List.forall_mem_cons.mpr ⟨am_t1 (i := 195) rfl rfl, List.forall_mem_cons.mpr ⟨am_t1 (i := 197) rfl rfl, List.forall_mem_cons.mpr ⟨am_t1 (i := 199) rfl rfl, List.forall_mem_cons.mpr ⟨am_t1 (i := 201) rfl rfl, List.forall_mem_cons.mpr ⟨am_t1 (i := 203) rfl rfl, List.forall_mem_cons.mpr ⟨am_t1 (i := 205) rfl rfl, List.forall_mem_cons.mpr ⟨am_t1 (i := 207) rfl rfl, List.forall_mem_cons.mpr ⟨am_t1 (i := 209) rfl rfl, fun _ h => absurd h List.not_mem_nil⟩⟩⟩⟩⟩⟩⟩⟩
theorem am_cfX0 : am_CF 0 RX0 TX0 8 tyX0 := ⟨rfl, by decide, am_iX0, tyX0_ok, nmX0, by decide +kernel, by decide +kernel⟩
theorem am_iX1 : ∀ w ∈ u_ws RX1 TX1 7, w ∈ am_tbl := by
  show ∀ w ∈ [u_lay RX1 TX1 0, u_lay RX1 TX1 1, u_lay RX1 TX1 2, u_lay RX1 TX1 3, u_lay RX1 TX1 4, u_lay RX1 TX1 5, u_lay RX1 TX1 6], w ∈ am_tbl
  exact List.forall_mem_cons.mpr ⟨am_t2 (i := 33) rfl rfl, List.forall_mem_cons.mpr ⟨am_t2 (i := 35) rfl rfl, List.forall_mem_cons.mpr ⟨am_t2 (i := 37) rfl rfl, List.forall_mem_cons.mpr ⟨am_t2 (i := 39) rfl rfl, List.forall_mem_cons.mpr ⟨am_t2 (i := 41) rfl rfl, List.forall_mem_cons.mpr ⟨am_t2 (i := 43) rfl rfl, List.forall_mem_cons.mpr ⟨am_t2 (i := 45) rfl rfl, fun _ h => absurd h List.not_mem_nil⟩⟩⟩⟩⟩⟩⟩
theorem am_cfX1 : am_CF 1 RX1 TX1 7 tyX1 := ⟨rfl, by decide, am_iX1, tyX1_ok, nmX1, by decide +kernel, by decide +kernel⟩
theorem am_iX2 : ∀ w ∈ u_ws RX2 TX2 2, w ∈ am_tbl := by
  show ∀ w ∈ [u_lay RX2 TX2 0, u_lay RX2 TX2 1], w ∈ am_tbl
  exact List.forall_mem_cons.mpr ⟨am_t1 (i := 224) rfl rfl, List.forall_mem_cons.mpr ⟨am_t1 (i := 226) rfl rfl, fun _ h => absurd h List.not_mem_nil⟩⟩
theorem am_cfX2 : am_CF 2 RX2 TX2 2 tyX2 := ⟨rfl, by decide, am_iX2, tyX2_ok, nmX2, by decide +kernel, by decide +kernel⟩
theorem am_iX3 : ∀ w ∈ u_ws RX3 TX3 2, w ∈ am_tbl := by
  show ∀ w ∈ [u_lay RX3 TX3 0, u_lay RX3 TX3 1], w ∈ am_tbl
  exact List.forall_mem_cons.mpr ⟨am_t1 (i := 58) rfl rfl, List.forall_mem_cons.mpr ⟨am_t1 (i := 60) rfl rfl, fun _ h => absurd h List.not_mem_nil⟩⟩
theorem am_cfX3 : am_CF 3 RX3 TX3 2 tyX3 := ⟨rfl, by decide, am_iX3, tyX3_ok, nmX3, by decide +kernel, by decide +kernel⟩
theorem am_iX4 : ∀ w ∈ u_ws RX4 TX4 10, w ∈ am_tbl := by
  show ∀ w ∈ [u_lay RX4 TX4 0, u_lay RX4 TX4 1, u_lay RX4 TX4 2, u_lay RX4 TX4 3, u_lay RX4 TX4 4, u_lay RX4 TX4 5, u_lay RX4 TX4 6, u_lay RX4 TX4 7, u_lay RX4 TX4 8, u_lay RX4 TX4 9], w ∈ am_tbl
  exact List.forall_mem_cons.mpr ⟨am_t1 (i := 98) rfl rfl, List.forall_mem_cons.mpr ⟨am_t1 (i := 100) rfl rfl, List.forall_mem_cons.mpr ⟨am_t1 (i := 102) rfl rfl, List.forall_mem_cons.mpr ⟨am_t1 (i := 104) rfl rfl, List.forall_mem_cons.mpr ⟨am_t1 (i := 106) rfl rfl, List.forall_mem_cons.mpr ⟨am_t1 (i := 108) rfl rfl, List.forall_mem_cons.mpr ⟨am_t1 (i := 110) rfl rfl, List.forall_mem_cons.mpr ⟨am_t1 (i := 112) rfl rfl, List.forall_mem_cons.mpr ⟨am_t1 (i := 114) rfl rfl, List.forall_mem_cons.mpr ⟨am_t1 (i := 116) rfl rfl, fun _ h => absurd h List.not_mem_nil⟩⟩⟩⟩⟩⟩⟩⟩⟩⟩
theorem am_cfX4 : am_CF 4 RX4 TX4 10 tyX4 := ⟨rfl, by decide, am_iX4, tyX4_ok, nmX4, by decide +kernel, by decide +kernel⟩
theorem am_iX5 : ∀ w ∈ u_ws RX5 TX5 3, w ∈ am_tbl := by
  show ∀ w ∈ [u_lay RX5 TX5 0, u_lay RX5 TX5 1, u_lay RX5 TX5 2], w ∈ am_tbl
  exact List.forall_mem_cons.mpr ⟨am_t2 (i := 1) rfl rfl, List.forall_mem_cons.mpr ⟨am_t2 (i := 3) rfl rfl, List.forall_mem_cons.mpr ⟨am_t2 (i := 5) rfl rfl, fun _ h => absurd h List.not_mem_nil⟩⟩⟩
theorem am_cfX5 : am_CF 5 RX5 TX5 3 tyX5 := ⟨rfl, by decide, am_iX5, tyX5_ok, nmX5, by decide +kernel, by decide +kernel⟩
theorem am_iX6 : ∀ w ∈ u_ws RX6 TX6 11, w ∈ am_tbl := by
  show ∀ w ∈ [u_lay RX6 TX6 0, u_lay RX6 TX6 1, u_lay RX6 TX6 2, u_lay RX6 TX6 3, u_lay RX6 TX6 4, u_lay RX6 TX6 5, u_lay RX6 TX6 6, u_lay RX6 TX6 7, u_lay RX6 TX6 8, u_lay RX6 TX6 9, u_lay RX6 TX6 10], w ∈ am_tbl
  exact List.forall_mem_cons.mpr ⟨am_t1 (i := 143) rfl rfl, List.forall_mem_cons.mpr ⟨am_t1 (i := 145) rfl rfl, List.forall_mem_cons.mpr ⟨am_t1 (i := 147) rfl rfl, List.forall_mem_cons.mpr ⟨am_t1 (i := 149) rfl rfl, List.forall_mem_cons.mpr ⟨am_t1 (i := 151) rfl rfl, List.forall_mem_cons.mpr ⟨am_t1 (i := 153) rfl rfl, List.forall_mem_cons.mpr ⟨am_t1 (i := 155) rfl rfl, List.forall_mem_cons.mpr ⟨am_t1 (i := 157) rfl rfl, List.forall_mem_cons.mpr ⟨am_t1 (i := 159) rfl rfl, List.forall_mem_cons.mpr ⟨am_t1 (i := 161) rfl rfl, List.forall_mem_cons.mpr ⟨am_t1 (i := 163) rfl rfl, fun _ h => absurd h List.not_mem_nil⟩⟩⟩⟩⟩⟩⟩⟩⟩⟩⟩
theorem am_cfX6 : am_CF 6 RX6 TX6 11 tyX6 := ⟨rfl, by decide, am_iX6, tyX6_ok, nmX6, by decide +kernel, by decide +kernel⟩
theorem am_iX7 : ∀ w ∈ u_ws RX7 TX7 2, w ∈ am_tbl := by
  show ∀ w ∈ [u_lay RX7 TX7 0, u_lay RX7 TX7 1], w ∈ am_tbl
  exact List.forall_mem_cons.mpr ⟨am_t1 (i := 42) rfl rfl, List.forall_mem_cons.mpr ⟨am_t1 (i := 44) rfl rfl, fun _ h => absurd h List.not_mem_nil⟩⟩
theorem am_cfX7 : am_CF 7 RX7 TX7 2 tyX7 := ⟨rfl, by decide, am_iX7, tyX7_ok, nmX7, by decide +kernel, by decide +kernel⟩
theorem am_iX8 : ∀ w ∈ u_ws RX8 TX8 20, w ∈ am_tbl := by
  show ∀ w ∈ [u_lay RX8 TX8 0, u_lay RX8 TX8 1, u_lay RX8 TX8 2, u_lay RX8 TX8 3, u_lay RX8 TX8 4, u_lay RX8 TX8 5, u_lay RX8 TX8 6, u_lay RX8 TX8 7, u_lay RX8 TX8 8, u_lay RX8 TX8 9, u_lay RX8 TX8 10, u_lay RX8 TX8 11, u_lay RX8 TX8 12, u_lay RX8 TX8 13, u_lay RX8 TX8 14, u_lay RX8 TX8 15, u_lay RX8 TX8 16, u_lay RX8 TX8 17, u_lay RX8 TX8 18, u_lay RX8 TX8 19], w ∈ am_tbl
  exact List.forall_mem_cons.mpr ⟨am_t2 (i := 70) rfl rfl, List.forall_mem_cons.mpr ⟨am_t2 (i := 72) rfl rfl, List.forall_mem_cons.mpr ⟨am_t2 (i := 74) rfl rfl, List.forall_mem_cons.mpr ⟨am_t2 (i := 76) rfl rfl, List.forall_mem_cons.mpr ⟨am_t2 (i := 78) rfl rfl, List.forall_mem_cons.mpr ⟨am_t2 (i := 80) rfl rfl, List.forall_mem_cons.mpr ⟨am_t2 (i := 82) rfl rfl, List.forall_mem_cons.mpr ⟨am_t2 (i := 84) rfl rfl, List.forall_mem_cons.mpr ⟨am_t2 (i := 86) rfl rfl, List.forall_mem_cons.mpr ⟨am_t2 (i := 88) rfl rfl, List.forall_mem_cons.mpr ⟨am_t2 (i := 90) rfl rfl, List.forall_mem_cons.mpr ⟨am_t2 (i := 92) rfl rfl, List.forall_mem_cons.mpr ⟨am_t2 (i := 94) rfl rfl, List.forall_mem_cons.mpr ⟨am_t2 (i := 96) rfl rfl, List.forall_mem_cons.mpr ⟨am_t2 (i := 98) rfl rfl, List.forall_mem_cons.mpr ⟨am_t2 (i := 100) rfl rfl, List.forall_mem_cons.mpr ⟨am_t2 (i := 102) rfl rfl, List.forall_mem_cons.mpr ⟨am_t2 (i := 104) rfl rfl, List.forall_mem_cons.mpr ⟨am_t2 (i := 106) rfl rfl, List.forall_mem_cons.mpr ⟨am_t2 (i := 108) rfl rfl, fun _ h => absurd h List.not_mem_nil⟩⟩⟩⟩⟩⟩⟩⟩⟩⟩⟩⟩⟩⟩⟩⟩⟩⟩⟩⟩
theorem am_cfX8 : am_CF 8 RX8 TX8 20 tyX8 := ⟨rfl, by decide, am_iX8, tyX8_ok, nmX8, by decide +kernel, by decide +kernel⟩
theorem am_iX9 : ∀ w ∈ u_ws RX9 TX9 51, w ∈ am_tbl := by
  show ∀ w ∈ [u_lay RX9 TX9 0, u_lay RX9 TX9 1, u_lay RX9 TX9 2, u_lay RX9 TX9 3, u_lay RX9 TX9 4, u_lay RX9 TX9 5, u_lay RX9 TX9 6, u_lay RX9 TX9 7, u_lay RX9 TX9 8, u_lay RX9 TX9 9, u_lay RX9 TX9 10, u_lay RX9 TX9 11, u_lay RX9 TX9 12, u_lay RX9 TX9 13, u_lay RX9 TX9 14, u_lay RX9 TX9 15, u_lay RX9 TX9 16, u_lay RX9 TX9 17, u_lay RX9 TX9 18, u_lay RX9 TX9 19, u_lay RX9 TX9 20, u_lay RX9 TX9 21, u_lay RX9 TX9 22, u_lay RX9 TX9 23, u_lay RX9 TX9 24, u_lay RX9 TX9 25, u_lay RX9 TX9 26, u_lay RX9 TX9 27, u_lay RX9 TX9 28, u_lay RX9 TX9 29, u_lay RX9 TX9 30, u_lay RX9 TX9 31, u_lay RX9 TX9 32, u_lay RX9 TX9 33, u_lay RX9 TX9 34, u_lay RX9 TX9 35, u_lay RX9 TX9 36, u_lay RX9 TX9 37, u_lay RX9 TX9 38, u_lay RX9 TX9 39, u_lay RX9 TX9 40, u_lay RX9 TX9 41, u_lay RX9 TX9 42, u_lay RX9 TX9 43, u_lay RX9 TX9 44, u_lay RX9 TX9 45, u_lay RX9 TX9 46, u_lay RX9 TX9 47, u_lay RX9 TX9 48, u_lay RX9 TX9 49, u_lay RX9 TX9 50], w ∈ am_tbl
  exact List.forall_mem_cons.mpr ⟨am_t5 (i := 140) rfl rfl, List.forall_mem_cons.mpr ⟨am_t5 (i := 142) rfl rfl, List.forall_mem_cons.mpr ⟨am_t5 (i := 144) rfl rfl, List.forall_mem_cons.mpr ⟨am_t5 (i := 146) rfl rfl, List.forall_mem_cons.mpr ⟨am_t5 (i := 148) rfl rfl, List.forall_mem_cons.mpr ⟨am_t5 (i := 150) rfl rfl, List.forall_mem_cons.mpr ⟨am_t5 (i := 152) rfl rfl, List.forall_mem_cons.mpr ⟨am_t5 (i := 154) rfl rfl, List.forall_mem_cons.mpr ⟨am_t5 (i := 156) rfl rfl, List.forall_mem_cons.mpr ⟨am_t5 (i := 158) rfl rfl, List.forall_mem_cons.mpr ⟨am_t5 (i := 160) rfl rfl, List.forall_mem_cons.mpr ⟨am_t5 (i := 162) rfl rfl, List.forall_mem_cons.mpr ⟨am_t5 (i := 164) rfl rfl, List.forall_mem_cons.mpr ⟨am_t5 (i := 166) rfl rfl, List.forall_mem_cons.mpr ⟨am_t5 (i := 168) rfl rfl, List.forall_mem_cons.mpr ⟨am_t5 (i := 170) rfl rfl, List.forall_mem_cons.mpr ⟨am_t5 (i := 172) rfl rfl, List.forall_mem_cons.mpr ⟨am_t5 (i := 174) rfl rfl, List.forall_mem_cons.mpr ⟨am_t5 (i := 176) rfl rfl, List.forall_mem_cons.mpr ⟨am_t5 (i := 178) rfl rfl, List.forall_mem_cons.mpr ⟨am_t5 (i := 180) rfl rfl, List.forall_mem_cons.mpr ⟨am_t5 (i := 182) rfl rfl, List.forall_mem_cons.mpr ⟨am_t5 (i := 184) rfl rfl, List.forall_mem_cons.mpr ⟨am_t5 (i := 186) rfl rfl, List.forall_mem_cons.mpr ⟨am_t5 (i := 188) rfl rfl, List.forall_mem_cons.mpr ⟨am_t5 (i := 190) rfl rfl, List.forall_mem_cons.mpr ⟨am_t5 (i := 192) rfl rfl, List.forall_mem_cons.mpr ⟨am_t5 (i := 194) rfl rfl, List.forall_mem_cons.mpr ⟨am_t5 (i := 196) rfl rfl, List.forall_mem_cons.mpr ⟨am_t5 (i := 198) rfl rfl, List.forall_mem_cons.mpr ⟨am_t5 (i := 200) rfl rfl, List.forall_mem_cons.mpr ⟨am_t5 (i := 202) rfl rfl, List.forall_mem_cons.mpr ⟨am_t5 (i := 204) rfl rfl, List.forall_mem_cons.mpr ⟨am_t5 (i := 206) rfl rfl, List.forall_mem_cons.mpr ⟨am_t5 (i := 208) rfl rfl, List.forall_mem_cons.mpr ⟨am_t5 (i := 210) rfl rfl, List.forall_mem_cons.mpr ⟨am_t5 (i := 212) rfl rfl, List.forall_mem_cons.mpr ⟨am_t5 (i := 214) rfl rfl, List.forall_mem_cons.mpr ⟨am_t5 (i := 216) rfl rfl, List.forall_mem_cons.mpr ⟨am_t5 (i := 218) rfl rfl, List.forall_mem_cons.mpr ⟨am_t5 (i := 220) rfl rfl, List.forall_mem_cons.mpr ⟨am_t5 (i := 222) rfl rfl, List.forall_mem_cons.mpr ⟨am_t5 (i := 224) rfl rfl, List.forall_mem_cons.mpr ⟨am_t5 (i := 226) rfl rfl, List.forall_mem_cons.mpr ⟨am_t5 (i := 228) rfl rfl, List.forall_mem_cons.mpr ⟨am_t5 (i := 230) rfl rfl, List.forall_mem_cons.mpr ⟨am_t5 (i := 232) rfl rfl, List.forall_mem_cons.mpr ⟨am_t5 (i := 234) rfl rfl, List.forall_mem_cons.mpr ⟨am_t5 (i := 236) rfl rfl, List.forall_mem_cons.mpr ⟨am_t5 (i := 238) rfl rfl, List.forall_mem_cons.mpr ⟨am_t6 (i := 0) rfl rfl, fun _ h => absurd h List.not_mem_nil⟩⟩⟩⟩⟩⟩⟩⟩⟩⟩⟩⟩⟩⟩⟩⟩⟩⟩⟩⟩⟩⟩⟩⟩⟩⟩⟩⟩⟩⟩⟩⟩⟩⟩⟩⟩⟩⟩⟩⟩⟩⟩⟩⟩⟩⟩⟩⟩⟩⟩⟩
theorem am_cfX9 : am_CF 9 RX9 TX9 51 tyX9 := ⟨rfl, by decide, am_iX9, tyX9_ok, nmX9, by decide +kernel, by decide +kernel⟩
theorem fl_X8_10 : am_FL RX8 10 8 0 := ⟨_, _, _, _, am_cfX8, by decide, am_t2 (i := 50) rfl rfl⟩
theorem fl_X8_19 : am_FL RX8 19 8 1 := ⟨_, _, _, _, am_cfX8, by decide, am_t2 (i := 51) rfl rfl⟩
theorem fl_X8_26 : am_FL RX8 26 8 2 := ⟨_, _, _, _, am_cfX8, by decide, am_t2 (i := 52) rfl rfl⟩
theorem fl_X8_33 : am_FL RX8 33 8 3 := ⟨_, _, _, _, am_cfX8, by decide, am_t2 (i := 53) rfl rfl⟩
theorem fl_X8_37 : am_FL RX8 37 8 4 := ⟨_, _, _, _, am_cfX8, by decide, am_t2 (i := 54) rfl rfl⟩
theorem fl_X8_40 : am_FL RX8 40 8 5 := ⟨_, _, _, _, am_cfX8, by decide, am_t2 (i := 55) rfl rfl⟩
theorem fl_X8_46 : am_FL RX8 46 8 6 := ⟨_, _, _, _, am_cfX8, by decide, am_t2 (i := 56) rfl rfl⟩
theorem fl_X8_50 : am_FL RX8 50 8 7 := ⟨_, _, _, _, am_cfX8, by decide, am_t2 (i := 57) rfl rfl⟩
theorem fl_X8_54 : am_FL RX8 54 8 8 := ⟨_, _, _, _, am_cfX8, by decide, am_t2 (i := 58) rfl rfl⟩
theorem fl_X8_61 : am_FL RX8 61 8 9 := ⟨_, _, _, _, am_cfX8, by decide, am_t2 (i := 59) rfl rfl⟩
theorem fl_X8_65 : am_FL RX8 65 8 10 := ⟨_, _, _, _, am_cfX8, by decide, am_t2 (i := 60) rfl rfl⟩
theorem fl_X8_73 : am_FL RX8 73 8 11 := ⟨_, _, _, _, am_cfX8, by decide, am_t2 (i := 61) rfl rfl⟩
theorem fl_X8_77 : am_FL RX8 77 8 12 := ⟨_, _, _, _, am_cfX8, by decide, am_t2 (i := 62) rfl rfl⟩
theorem fl_X8_80 : am_FL RX8 80 8 13 := ⟨_, _, _, _, am_cfX8, by decide, am_t2 (i := 63) rfl rfl⟩
theorem fl_X8_83 : am_FL RX8 83 8 14 := ⟨_, _, _, _, am_cfX8, by decide, am_t2 (i := 64) rfl rfl⟩
theorem fl_X8_87 : am_FL RX8 87 8 15 := ⟨_, _, _, _, am_cfX8, by decide, am_t2 (i := 65) rfl rfl⟩
theorem fl_X8_90 : am_FL RX8 90 8 16 := ⟨_, _, _, _, am_cfX8, by decide, am_t2 (i := 66) rfl rfl⟩
theorem fl_X8_93 : am_FL RX8 93 8 17 := ⟨_, _, _, _, am_cfX8, by decide, am_t2 (i := 67) rfl rfl⟩
theorem fl_X8_99 : am_FL RX8 99 8 18 := ⟨_, _, _, _, am_cfX8, by decide, am_t2 (i := 68) rfl rfl⟩
theorem fl_X8_107 : am_FL RX8 107 7 1 := ⟨_, _, _, _, am_cfX7, by decide, am_t1 (i := 39) rfl rfl⟩
theorem fl_X8_129 : am_FL RX8 129 2 1 := ⟨_, _, _, _, am_cfX2, by decide, am_t1 (i := 223) rfl rfl⟩
theorem fl_X8_136 : am_FL RX8 136 6 6 := ⟨_, _, _, _, am_cfX6, by decide, am_t1 (i := 133) rfl rfl⟩
theorem fl_X8_150 : am_FL RX8 150 6 1 := ⟨_, _, _, _, am_cfX6, by decide, am_t1 (i := 122) rfl rfl⟩
theorem fl_X8_153 : am_FL RX8 153 6 2 := ⟨_, _, _, _, am_cfX6, by decide, am_t1 (i := 124) rfl rfl⟩
theorem fl_X8_156 : am_FL RX8 156 6 3 := ⟨_, _, _, _, am_cfX6, by decide, am_t1 (i := 127) rfl rfl⟩
theorem fl_X8_159 : am_FL RX8 159 0 0 := ⟨_, _, _, _, am_cfX0, by decide, am_t1 (i := 175) rfl rfl⟩
theorem fl_X8_162 : am_FL RX8 162 0 1 := ⟨_, _, _, _, am_cfX0, by decide, am_t1 (i := 177) rfl rfl⟩
theorem fl_X8_165 : am_FL RX8 165 0 2 := ⟨_, _, _, _, am_cfX0, by decide, am_t1 (i := 180) rfl rfl⟩
theorem fl_X8_172 : am_FL RX8 172 6 7 := ⟨_, _, _, _, am_cfX6, by decide, am_t1 (i := 136) rfl rfl⟩
theorem fl_X8_184 : am_FL RX8 184 0 3 := ⟨_, _, _, _, am_cfX0, by decide, am_t1 (i := 183) rfl rfl⟩
theorem fl_X8_223 : am_FL RX8 223 0 5 := ⟨_, _, _, _, am_cfX0, by decide, am_t1 (i := 188) rfl rfl⟩
theorem fl_X8_226 : am_FL RX8 226 0 6 := ⟨_, _, _, _, am_cfX0, by decide, am_t1 (i := 191) rfl rfl⟩
theorem fl_X8_246 : am_FL RX8 246 0 7 := ⟨_, _, _, _, am_cfX0, by decide, am_t1 (i := 194) rfl rfl⟩
theorem fl_X8_256 : am_FL RX8 256 0 4 := ⟨_, _, _, _, am_cfX0, by decide, am_t1 (i := 186) rfl rfl⟩
theorem fl_X8_286 : am_FL RX8 286 6 8 := ⟨_, _, _, _, am_cfX6, by decide, am_t1 (i := 138) rfl rfl⟩
theorem fl_X8_289 : am_FL RX8 289 6 9 := ⟨_, _, _, _, am_cfX6, by decide, am_t1 (i := 140) rfl rfl⟩
theorem fl_X8_292 : am_FL RX8 292 6 10 := ⟨_, _, _, _, am_cfX6, by decide, am_t1 (i := 142) rfl rfl⟩
theorem fl_X8_310 : am_FL RX8 310 1 6 := ⟨_, _, _, _, am_cfX1, by decide, am_t2 (i := 32) rfl rfl⟩
theorem fl_X8_311 : am_FL RX8 311 1 5 := ⟨_, _, _, _, am_cfX1, by decide, am_t2 (i := 30) rfl rfl⟩
theorem fl_X8_312 : am_FL RX8 312 1 4 := ⟨_, _, _, _, am_cfX1, by decide, am_t2 (i := 28) rfl rfl⟩
theorem fl_X8_385 : am_FL RX8 385 5 2 := ⟨_, _, _, _, am_cfX5, by decide, am_t2 (i := 0) rfl rfl⟩
theorem fl_X8_389 : am_FL RX8 389 5 0 := ⟨_, _, _, _, am_cfX5, by decide, am_t1 (i := 236) rfl rfl⟩
theorem fl_X8_395 : am_FL RX8 395 5 1 := ⟨_, _, _, _, am_cfX5, by decide, am_t1 (i := 238) rfl rfl⟩
theorem fl_X8_424 : am_FL RX8 424 8 19 := ⟨_, _, _, _, am_cfX8, by decide, am_t2 (i := 69) rfl rfl⟩
theorem fl_X8_434 : am_FL RX8 434 6 5 := ⟨_, _, _, _, am_cfX6, by decide, am_t1 (i := 130) rfl rfl⟩
theorem fl_X8_440 : am_FL RX8 440 3 1 := ⟨_, _, _, _, am_cfX3, by decide, am_t1 (i := 57) rfl rfl⟩
theorem fl_X8_441 : am_FL RX8 441 3 0 := ⟨_, _, _, _, am_cfX3, by decide, am_t1 (i := 55) rfl rfl⟩
theorem fl_X0_9 : am_FL RX0 9 0 0 := ⟨_, _, _, _, am_cfX0, by decide, am_t1 (i := 172) rfl rfl⟩
theorem fl_X0_15 : am_FL RX0 15 0 1 := ⟨_, _, _, _, am_cfX0, by decide, am_t1 (i := 176) rfl rfl⟩
theorem fl_X0_18 : am_FL RX0 18 0 5 := ⟨_, _, _, _, am_cfX0, by decide, am_t1 (i := 187) rfl rfl⟩
theorem fl_X0_22 : am_FL RX0 22 0 7 := ⟨_, _, _, _, am_cfX0, by decide, am_t1 (i := 192) rfl rfl⟩
theorem fl_X0_31 : am_FL RX0 31 0 2 := ⟨_, _, _, _, am_cfX0, by decide, am_t1 (i := 178) rfl rfl⟩
theorem fl_X0_34 : am_FL RX0 34 0 3 := ⟨_, _, _, _, am_cfX0, by decide, am_t1 (i := 181) rfl rfl⟩
theorem fl_X0_37 : am_FL RX0 37 0 4 := ⟨_, _, _, _, am_cfX0, by decide, am_t1 (i := 184) rfl rfl⟩
theorem fl_X0_40 : am_FL RX0 40 0 6 := ⟨_, _, _, _, am_cfX0, by decide, am_t1 (i := 189) rfl rfl⟩
theorem fl_X1_9 : am_FL RX1 9 1 2 := ⟨_, _, _, _, am_cfX1, by decide, am_t2 (i := 25) rfl rfl⟩
theorem fl_X1_15 : am_FL RX1 15 1 3 := ⟨_, _, _, _, am_cfX1, by decide, am_t2 (i := 26) rfl rfl⟩
theorem fl_X1_22 : am_FL RX1 22 1 0 := ⟨_, _, _, _, am_cfX1, by decide, am_t2 (i := 23) rfl rfl⟩
theorem fl_X1_26 : am_FL RX1 26 1 1 := ⟨_, _, _, _, am_cfX1, by decide, am_t2 (i := 24) rfl rfl⟩
theorem fl_X1_35 : am_FL RX1 35 1 4 := ⟨_, _, _, _, am_cfX1, by decide, am_t2 (i := 27) rfl rfl⟩
theorem fl_X1_38 : am_FL RX1 38 6 6 := ⟨_, _, _, _, am_cfX6, by decide, am_t1 (i := 132) rfl rfl⟩
theorem fl_X1_41 : am_FL RX1 41 0 0 := ⟨_, _, _, _, am_cfX0, by decide, am_t1 (i := 173) rfl rfl⟩
theorem fl_X1_55 : am_FL RX1 55 6 7 := ⟨_, _, _, _, am_cfX6, by decide, am_t1 (i := 135) rfl rfl⟩
theorem fl_X1_71 : am_FL RX1 71 1 6 := ⟨_, _, _, _, am_cfX1, by decide, am_t2 (i := 31) rfl rfl⟩
theorem fl_X1_74 : am_FL RX1 74 1 5 := ⟨_, _, _, _, am_cfX1, by decide, am_t2 (i := 29) rfl rfl⟩
theorem fl_X1_77 : am_FL RX1 77 6 3 := ⟨_, _, _, _, am_cfX6, by decide, am_t1 (i := 126) rfl rfl⟩
theorem fl_X2_11 : am_FL RX2 11 2 0 := ⟨_, _, _, _, am_cfX2, by decide, am_t1 (i := 221) rfl rfl⟩
theorem fl_X2_18 : am_FL RX2 18 2 1 := ⟨_, _, _, _, am_cfX2, by decide, am_t1 (i := 222) rfl rfl⟩
theorem fl_X3_9 : am_FL RX3 9 3 0 := ⟨_, _, _, _, am_cfX3, by decide, am_t1 (i := 54) rfl rfl⟩
theorem fl_X3_15 : am_FL RX3 15 3 1 := ⟨_, _, _, _, am_cfX3, by decide, am_t1 (i := 56) rfl rfl⟩
theorem fl_X4_9 : am_FL RX4 9 4 0 := ⟨_, _, _, _, am_cfX4, by decide, am_t1 (i := 87) rfl rfl⟩
theorem fl_X4_15 : am_FL RX4 15 4 1 := ⟨_, _, _, _, am_cfX4, by decide, am_t1 (i := 88) rfl rfl⟩
theorem fl_X4_18 : am_FL RX4 18 4 2 := ⟨_, _, _, _, am_cfX4, by decide, am_t1 (i := 89) rfl rfl⟩
theorem fl_X4_29 : am_FL RX4 29 4 3 := ⟨_, _, _, _, am_cfX4, by decide, am_t1 (i := 90) rfl rfl⟩
theorem fl_X4_32 : am_FL RX4 32 4 4 := ⟨_, _, _, _, am_cfX4, by decide, am_t1 (i := 92) rfl rfl⟩
theorem fl_X4_36 : am_FL RX4 36 4 5 := ⟨_, _, _, _, am_cfX4, by decide, am_t1 (i := 93) rfl rfl⟩
theorem fl_X4_39 : am_FL RX4 39 4 6 := ⟨_, _, _, _, am_cfX4, by decide, am_t1 (i := 94) rfl rfl⟩
theorem fl_X4_42 : am_FL RX4 42 4 7 := ⟨_, _, _, _, am_cfX4, by decide, am_t1 (i := 95) rfl rfl⟩
theorem fl_X4_45 : am_FL RX4 45 4 9 := ⟨_, _, _, _, am_cfX4, by decide, am_t1 (i := 97) rfl rfl⟩
theorem fl_X4_49 : am_FL RX4 49 7 1 := ⟨_, _, _, _, am_cfX7, by decide, am_t1 (i := 40) rfl rfl⟩
theorem fl_X4_85 : am_FL RX4 85 4 8 := ⟨_, _, _, _, am_cfX4, by decide, am_t1 (i := 96) rfl rfl⟩
theorem fl_X5_9 : am_FL RX5 9 5 0 := ⟨_, _, _, _, am_cfX5, by decide, am_t1 (i := 235) rfl rfl⟩
theorem fl_X5_15 : am_FL RX5 15 5 1 := ⟨_, _, _, _, am_cfX5, by decide, am_t1 (i := 237) rfl rfl⟩
theorem fl_X5_18 : am_FL RX5 18 5 2 := ⟨_, _, _, _, am_cfX5, by decide, am_t1 (i := 239) rfl rfl⟩
theorem fl_X6_9 : am_FL RX6 9 6 0 := ⟨_, _, _, _, am_cfX6, by decide, am_t1 (i := 120) rfl rfl⟩
theorem fl_X6_15 : am_FL RX6 15 6 1 := ⟨_, _, _, _, am_cfX6, by decide, am_t1 (i := 121) rfl rfl⟩
theorem fl_X6_18 : am_FL RX6 18 6 2 := ⟨_, _, _, _, am_cfX6, by decide, am_t1 (i := 123) rfl rfl⟩
theorem fl_X6_21 : am_FL RX6 21 6 3 := ⟨_, _, _, _, am_cfX6, by decide, am_t1 (i := 125) rfl rfl⟩
theorem fl_X6_24 : am_FL RX6 24 6 4 := ⟨_, _, _, _, am_cfX6, by decide, am_t1 (i := 128) rfl rfl⟩
theorem fl_X6_27 : am_FL RX6 27 6 5 := ⟨_, _, _, _, am_cfX6, by decide, am_t1 (i := 129) rfl rfl⟩
theorem fl_X6_34 : am_FL RX6 34 6 7 := ⟨_, _, _, _, am_cfX6, by decide, am_t1 (i := 134) rfl rfl⟩
theorem fl_X6_38 : am_FL RX6 38 6 6 := ⟨_, _, _, _, am_cfX6, by decide, am_t1 (i := 131) rfl rfl⟩
theorem fl_X6_41 : am_FL RX6 41 7 1 := ⟨_, _, _, _, am_cfX7, by decide, am_t1 (i := 41) rfl rfl⟩
theorem fl_X6_54 : am_FL RX6 54 4 3 := ⟨_, _, _, _, am_cfX4, by decide, am_t1 (i := 91) rfl rfl⟩
theorem fl_X6_73 : am_FL RX6 73 0 3 := ⟨_, _, _, _, am_cfX0, by decide, am_t1 (i := 182) rfl rfl⟩
theorem fl_X6_78 : am_FL RX6 78 6 9 := ⟨_, _, _, _, am_cfX6, by decide, am_t1 (i := 139) rfl rfl⟩
theorem fl_X6_81 : am_FL RX6 81 6 8 := ⟨_, _, _, _, am_cfX6, by decide, am_t1 (i := 137) rfl rfl⟩
theorem fl_X6_84 : am_FL RX6 84 6 10 := ⟨_, _, _, _, am_cfX6, by decide, am_t1 (i := 141) rfl rfl⟩
theorem fl_X6_87 : am_FL RX6 87 0 0 := ⟨_, _, _, _, am_cfX0, by decide, am_t1 (i := 174) rfl rfl⟩
theorem fl_X6_94 : am_FL RX6 94 0 2 := ⟨_, _, _, _, am_cfX0, by decide, am_t1 (i := 179) rfl rfl⟩
theorem fl_X6_109 : am_FL RX6 109 0 4 := ⟨_, _, _, _, am_cfX0, by decide, am_t1 (i := 185) rfl rfl⟩
theorem fl_X6_112 : am_FL RX6 112 0 6 := ⟨_, _, _, _, am_cfX0, by decide, am_t1 (i := 190) rfl rfl⟩
theorem fl_X6_115 : am_FL RX6 115 0 7 := ⟨_, _, _, _, am_cfX0, by decide, am_t1 (i := 193) rfl rfl⟩
theorem fl_X7_9 : am_FL RX7 9 7 0 := ⟨_, _, _, _, am_cfX7, by decide, am_t1 (i := 37) rfl rfl⟩
theorem fl_X7_15 : am_FL RX7 15 7 1 := ⟨_, _, _, _, am_cfX7, by decide, am_t1 (i := 38) rfl rfl⟩
theorem fl_X9_9 : am_FL RX9 9 9 0 := ⟨_, _, _, _, am_cfX9, by decide, am_t5 (i := 89) rfl rfl⟩
theorem fl_X9_13 : am_FL RX9 13 9 2 := ⟨_, _, _, _, am_cfX9, by decide, am_t5 (i := 91) rfl rfl⟩
theorem fl_X9_16 : am_FL RX9 16 9 3 := ⟨_, _, _, _, am_cfX9, by decide, am_t5 (i := 92) rfl rfl⟩
theorem fl_X9_19 : am_FL RX9 19 9 4 := ⟨_, _, _, _, am_cfX9, by decide, am_t5 (i := 93) rfl rfl⟩
theorem fl_X9_22 : am_FL RX9 22 9 5 := ⟨_, _, _, _, am_cfX9, by decide, am_t5 (i := 94) rfl rfl⟩
theorem fl_X9_25 : am_FL RX9 25 9 6 := ⟨_, _, _, _, am_cfX9, by decide, am_t5 (i := 95) rfl rfl⟩
theorem fl_X9_29 : am_FL RX9 29 9 7 := ⟨_, _, _, _, am_cfX9, by decide, am_t5 (i := 96) rfl rfl⟩
theorem fl_X9_33 : am_FL RX9 33 9 9 := ⟨_, _, _, _, am_cfX9, by decide, am_t5 (i := 98) rfl rfl⟩
theorem fl_X9_37 : am_FL RX9 37 9 17 := ⟨_, _, _, _, am_cfX9, by decide, am_t5 (i := 106) rfl rfl⟩
theorem fl_X9_40 : am_FL RX9 40 9 18 := ⟨_, _, _, _, am_cfX9, by decide, am_t5 (i := 107) rfl rfl⟩
theorem fl_X9_43 : am_FL RX9 43 9 19 := ⟨_, _, _, _, am_cfX9, by decide, am_t5 (i := 108) rfl rfl⟩
theorem fl_X9_46 : am_FL RX9 46 9 22 := ⟨_, _, _, _, am_cfX9, by decide, am_t5 (i := 111) rfl rfl⟩
theorem fl_X9_49 : am_FL RX9 49 9 23 := ⟨_, _, _, _, am_cfX9, by decide, am_t5 (i := 112) rfl rfl⟩
theorem fl_X9_52 : am_FL RX9 52 9 25 := ⟨_, _, _, _, am_cfX9, by decide, am_t5 (i := 114) rfl rfl⟩
theorem fl_X9_55 : am_FL RX9 55 9 26 := ⟨_, _, _, _, am_cfX9, by decide, am_t5 (i := 115) rfl rfl⟩
theorem fl_X9_58 : am_FL RX9 58 9 27 := ⟨_, _, _, _, am_cfX9, by decide, am_t5 (i := 116) rfl rfl⟩
theorem fl_X9_61 : am_FL RX9 61 9 28 := ⟨_, _, _, _, am_cfX9, by decide, am_t5 (i := 117) rfl rfl⟩
theorem fl_X9_64 : am_FL RX9 64 9 29 := ⟨_, _, _, _, am_cfX9, by decide, am_t5 (i := 118) rfl rfl⟩
theorem fl_X9_67 : am_FL RX9 67 9 32 := ⟨_, _, _, _, am_cfX9, by decide, am_t5 (i := 121) rfl rfl⟩
theorem fl_X9_70 : am_FL RX9 70 9 33 := ⟨_, _, _, _, am_cfX9, by decide, am_t5 (i := 122) rfl rfl⟩
theorem fl_X9_73 : am_FL RX9 73 9 34 := ⟨_, _, _, _, am_cfX9, by decide, am_t5 (i := 123) rfl rfl⟩
theorem fl_X9_76 : am_FL RX9 76 9 36 := ⟨_, _, _, _, am_cfX9, by decide, am_t5 (i := 125) rfl rfl⟩
theorem fl_X9_79 : am_FL RX9 79 9 37 := ⟨_, _, _, _, am_cfX9, by decide, am_t5 (i := 126) rfl rfl⟩
theorem fl_X9_82 : am_FL RX9 82 9 38 := ⟨_, _, _, _, am_cfX9, by decide, am_t5 (i := 127) rfl rfl⟩
theorem fl_X9_85 : am_FL RX9 85 9 39 := ⟨_, _, _, _, am_cfX9, by decide, am_t5 (i := 128) rfl rfl⟩
theorem fl_X9_88 : am_FL RX9 88 9 42 := ⟨_, _, _, _, am_cfX9, by decide, am_t5 (i := 131) rfl rfl⟩
theorem fl_X9_91 : am_FL RX9 91 9 43 := ⟨_, _, _, _, am_cfX9, by decide, am_t5 (i := 132) rfl rfl⟩
theorem fl_X9_94 : am_FL RX9 94 9 44 := ⟨_, _, _, _, am_cfX9, by decide, am_t5 (i := 133) rfl rfl⟩
theorem fl_X9_97 : am_FL RX9 97 9 48 := ⟨_, _, _, _, am_cfX9, by decide, am_t5 (i := 137) rfl rfl⟩
theorem fl_X9_100 : am_FL RX9 100 9 49 := ⟨_, _, _, _, am_cfX9, by decide, am_t5 (i := 138) rfl rfl⟩
theorem fl_X9_104 : am_FL RX9 104 9 50 := ⟨_, _, _, _, am_cfX9, by decide, am_t5 (i := 139) rfl rfl⟩
theorem fl_X9_107 : am_FL RX9 107 9 11 := ⟨_, _, _, _, am_cfX9, by decide, am_t5 (i := 100) rfl rfl⟩
theorem fl_X9_110 : am_FL RX9 110 9 10 := ⟨_, _, _, _, am_cfX9, by decide, am_t5 (i := 99) rfl rfl⟩
theorem fl_X9_113 : am_FL RX9 113 9 1 := ⟨_, _, _, _, am_cfX9, by decide, am_t5 (i := 90) rfl rfl⟩
theorem fl_X9_120 : am_FL RX9 120 9 8 := ⟨_, _, _, _, am_cfX9, by decide, am_t5 (i := 97) rfl rfl⟩
theorem fl_X9_123 : am_FL RX9 123 9 12 := ⟨_, _, _, _, am_cfX9, by decide, am_t5 (i := 101) rfl rfl⟩
theorem fl_X9_126 : am_FL RX9 126 9 13 := ⟨_, _, _, _, am_cfX9, by decide, am_t5 (i := 102) rfl rfl⟩
theorem fl_X9_129 : am_FL RX9 129 9 14 := ⟨_, _, _, _, am_cfX9, by decide, am_t5 (i := 103) rfl rfl⟩
theorem fl_X9_132 : am_FL RX9 132 9 15 := ⟨_, _, _, _, am_cfX9, by decide, am_t5 (i := 104) rfl rfl⟩
theorem fl_X9_135 : am_FL RX9 135 9 16 := ⟨_, _, _, _, am_cfX9, by decide, am_t5 (i := 105) rfl rfl⟩
theorem fl_X9_175 : am_FL RX9 175 9 24 := ⟨_, _, _, _, am_cfX9, by decide, am_t5 (i := 113) rfl rfl⟩
theorem fl_X9_178 : am_FL RX9 178 9 47 := ⟨_, _, _, _, am_cfX9, by decide, am_t5 (i := 136) rfl rfl⟩
theorem fl_X9_203 : am_FL RX9 203 9 21 := ⟨_, _, _, _, am_cfX9, by decide, am_t5 (i := 110) rfl rfl⟩
theorem fl_X9_210 : am_FL RX9 210 9 20 := ⟨_, _, _, _, am_cfX9, by decide, am_t5 (i := 109) rfl rfl⟩
theorem fl_X9_252 : am_FL RX9 252 9 31 := ⟨_, _, _, _, am_cfX9, by decide, am_t5 (i := 120) rfl rfl⟩
theorem fl_X9_255 : am_FL RX9 255 9 30 := ⟨_, _, _, _, am_cfX9, by decide, am_t5 (i := 119) rfl rfl⟩
theorem fl_X9_306 : am_FL RX9 306 9 35 := ⟨_, _, _, _, am_cfX9, by decide, am_t5 (i := 124) rfl rfl⟩
theorem fl_X9_348 : am_FL RX9 348 9 41 := ⟨_, _, _, _, am_cfX9, by decide, am_t5 (i := 130) rfl rfl⟩
theorem fl_X9_351 : am_FL RX9 351 9 40 := ⟨_, _, _, _, am_cfX9, by decide, am_t5 (i := 129) rfl rfl⟩
theorem fl_X9_370 : am_FL RX9 370 9 45 := ⟨_, _, _, _, am_cfX9, by decide, am_t5 (i := 134) rfl rfl⟩
theorem fl_X9_390 : am_FL RX9 390 9 46 := ⟨_, _, _, _, am_cfX9, by decide, am_t5 (i := 135) rfl rfl⟩
abbrev mt_X0_init : am_Mt := (RX0, cX0_init, 1, none)
abbrev mt_X0_copy : am_Mt := (RX0, cX0_copy, 2, none)
abbrev mt_X0_hear : am_Mt := (RX0, cX0_hear, 3, none)
abbrev mt_X0_earn : am_Mt := (RX0, cX0_earn, 2, none)
abbrev mt_X0_heardOfAll : am_Mt := (RX0, cX0_heardOfAll, 4, some .int)
abbrev mt_X0_surchargedOfAll : am_Mt := (RX0, cX0_surchargedOfAll, 4, some .int)
abbrev mt_X1_init : am_Mt := (RX1, cX1_init, 2, none)
abbrev mt_X1_place : am_Mt := (RX1, cX1_place, 4, some .int)
abbrev mt_X1_ready : am_Mt := (RX1, cX1_ready, 9, none)
abbrev mt_X1_mostOf : am_Mt := (RX1, cX1_mostOf, 7, some .int)
abbrev mt_X1_follow : am_Mt := (RX1, cX1_follow, 4, none)
abbrev mt_X1_share : am_Mt := (RX1, cX1_share, 6, none)
abbrev mt_X2_init : am_Mt := (RX2, cX2_init, 2, none)
abbrev mt_X2_push : am_Mt := (RX2, cX2_push, 4, none)
abbrev mt_X2_pop : am_Mt := (RX2, cX2_pop, 2, some .boolean)
abbrev mt_X3_init : am_Mt := (RX3, cX3_init, 1, none)
abbrev mt_X3_clear : am_Mt := (RX3, cX3_clear, 1, none)
abbrev mt_X3_add : am_Mt := (RX3, cX3_add, 3, none)
abbrev mt_X3_tell : am_Mt := (RX3, cX3_tell, 3, none)
abbrev mt_X3_tell_ : am_Mt := (RX3, cX3_tell_, 5, none)
abbrev mt_X4_init : am_Mt := (RX4, cX4_init, 1, none)
abbrev mt_X4_read : am_Mt := (RX4, cX4_read, 4, some .int)
abbrev mt_X4_readThing : am_Mt := (RX4, cX4_readThing, 4, some .boolean)
abbrev mt_X4_readNext : am_Mt := (RX4, cX4_readNext, 4, some .boolean)
abbrev mt_X4_readDigit : am_Mt := (RX4, cX4_readDigit, 2, some .boolean)
abbrev mt_X4_close : am_Mt := (RX4, cX4_close, 1, some .boolean)
abbrev mt_X4_bindingOf : am_Mt := (RX4, cX4_bindingOf, 1, some .int)
abbrev mt_X4_hold : am_Mt := (RX4, cX4_hold, 2, none)
abbrev mt_X4_emit : am_Mt := (RX4, cX4_emit, 2, none)
abbrev mt_X4_release : am_Mt := (RX4, cX4_release, 2, none)
abbrev mt_X4_answer : am_Mt := (RX4, cX4_answer, 4, some .int)
abbrev mt_X4_join : am_Mt := (RX4, cX4_join, 3, some .int)
abbrev mt_X5_init : am_Mt := (RX5, cX5_init, 1, none)
abbrev mt_X5_add : am_Mt := (RX5, cX5_add, 3, some .boolean)
abbrev mt_X6_init : am_Mt := (RX6, cX6_init, 1, none)
abbrev mt_X6_has : am_Mt := (RX6, cX6_has, 2, some .boolean)
abbrev mt_X6_learn : am_Mt := (RX6, cX6_learn, 3, none)
abbrev mt_X6_songOn : am_Mt := (RX6, cX6_songOn, 2, some .int)
abbrev mt_X6_may : am_Mt := (RX6, cX6_may, 7, some .int)
abbrev mt_X6_part : am_Mt := (RX6, cX6_part, 6, none)
abbrev mt_X6_pass : am_Mt := (RX6, cX6_pass, 4, none)
abbrev mt_X7_init : am_Mt := (RX7, cX7_init, 1, none)
abbrev mt_X7_add : am_Mt := (RX7, cX7_add, 3, some .boolean)
abbrev mt_X7_at : am_Mt := (RX7, cX7_at, 2, some .int)
abbrev mt_X7_digit : am_Mt := (RX7, cX7_digit, 3, some .int)
abbrev mt_X8_init : am_Mt := (RX8, cX8_init, 2, none)
abbrev mt_X8_sign : am_Mt := (RX8, cX8_sign, 2, some .int)
abbrev mt_X8_end : am_Mt := (RX8, cX8_end, 2, some .boolean)
abbrev mt_X8_songs : am_Mt := (RX8, cX8_songs, 3, some .int)
abbrev mt_X8_faultInSongs : am_Mt := (RX8, cX8_faultInSongs, 2, some .int)
abbrev mt_X8_hearers : am_Mt := (RX8, cX8_hearers, 4, some .int)
abbrev mt_X8_faultInLines : am_Mt := (RX8, cX8_faultInLines, 4, some .int)
abbrev mt_X8_fitsInLine : am_Mt := (RX8, cX8_fitsInLine, 2, some .boolean)
abbrev mt_X8_admit : am_Mt := (RX8, cX8_admit, 3, none)
abbrev mt_X8_rule : am_Mt := (RX8, cX8_rule, 3, some .int)
abbrev mt_X8_hearer : am_Mt := (RX8, cX8_hearer, 3, some .int)
abbrev mt_X8_mayTonight : am_Mt := (RX8, cX8_mayTonight, 2, some .int)
abbrev mt_X8_worth : am_Mt := (RX8, cX8_worth, 2, some .int)
abbrev mt_X8_sheet : am_Mt := (RX8, cX8_sheet, 7, some .int)
abbrev mt_X8_entry : am_Mt := (RX8, cX8_entry, 2, some .int)
abbrev mt_X8_put : am_Mt := (RX8, cX8_put, 3, some .int)
abbrev mt_X8_nights : am_Mt := (RX8, cX8_nights, 3, some .int)
abbrev mt_X8_comes : am_Mt := (RX8, cX8_comes, 2, some .int)
abbrev mt_X8_hum : am_Mt := (RX8, cX8_hum, 3, some .int)
abbrev mt_X8_stake : am_Mt := (RX8, cX8_stake, 2, some .int)
abbrev mt_X8_gain : am_Mt := (RX8, cX8_gain, 2, some .int)
abbrev mt_X8_advance : am_Mt := (RX8, cX8_advance, 2, some .int)
abbrev mt_X8_remembered : am_Mt := (RX8, cX8_remembered, 2, some .int)
abbrev mt_X8_goOn : am_Mt := (RX8, cX8_goOn, 4, some .int)
abbrev mt_X8_turn : am_Mt := (RX8, cX8_turn, 3, some .int)
abbrev mt_X8_surcharge : am_Mt := (RX8, cX8_surcharge, 4, some .int)
abbrev mt_X8_wager : am_Mt := (RX8, cX8_wager, 5, some .int)
abbrev mt_X8_handOver : am_Mt := (RX8, cX8_handOver, 3, some .int)
abbrev mt_X8_spring : am_Mt := (RX8, cX8_spring, 6, some .int)
abbrev mt_X8_faultInSpring : am_Mt := (RX8, cX8_faultInSpring, 5, some .int)
abbrev mt_X8_digitsBehind : am_Mt := (RX8, cX8_digitsBehind, 1, some .int)
abbrev mt_X8_leastBehind : am_Mt := (RX8, cX8_leastBehind, 1, some .int)
abbrev mt_X8_act : am_Mt := (RX8, cX8_act, 3, some .int)
abbrev mt_X8_undo : am_Mt := (RX8, cX8_undo, 1, some .int)
abbrev mt_X8_tonight : am_Mt := (RX8, cX8_tonight, 1, some .int)
abbrev mt_X8_later : am_Mt := (RX8, cX8_later, 3, some .int)
abbrev mt_X8_bookIn : am_Mt := (RX8, cX8_bookIn, 4, some .int)
abbrev mt_X8_enough : am_Mt := (RX8, cX8_enough, 3, some .int)
abbrev mt_X8_drains : am_Mt := (RX8, cX8_drains, 5, some .int)
abbrev mt_X8_hears : am_Mt := (RX8, cX8_hears, 4, some .int)
abbrev mt_X8_quiet : am_Mt := (RX8, cX8_quiet, 6, some .int)
abbrev mt_X8_admits : am_Mt := (RX8, cX8_admits, 4, some .int)
abbrev mt_X8_plans : am_Mt := (RX8, cX8_plans, 6, some .int)
abbrev mt_X8_bestSecond : am_Mt := (RX8, cX8_bestSecond, 6, some .int)
abbrev mt_X8_fills : am_Mt := (RX8, cX8_fills, 4, some .int)
abbrev mt_X8_order : am_Mt := (RX8, cX8_order, 8, some .int)
abbrev mt_X8_firstToGo : am_Mt := (RX8, cX8_firstToGo, 6, some .int)
abbrev mt_X8_mostPaid : am_Mt := (RX8, cX8_mostPaid, 8, some .int)
abbrev mt_X8_raises : am_Mt := (RX8, cX8_raises, 7, some .int)
abbrev mt_X8_grows : am_Mt := (RX8, cX8_grows, 7, some .int)
abbrev mt_X8_grown : am_Mt := (RX8, cX8_grown, 2, some .int)
abbrev mt_X8_adds : am_Mt := (RX8, cX8_adds, 5, some .int)
abbrev mt_X8_heardBy : am_Mt := (RX8, cX8_heardBy, 4, some .int)
abbrev mt_X8_nearest : am_Mt := (RX8, cX8_nearest, 7, some .int)
abbrev mt_X8_closer : am_Mt := (RX8, cX8_closer, 5, some .boolean)
abbrev mt_X8_awards : am_Mt := (RX8, cX8_awards, 5, some .int)
abbrev mt_X8_poorest : am_Mt := (RX8, cX8_poorest, 3, some .int)
abbrev mt_X8_envy : am_Mt := (RX8, cX8_envy, 5, some .int)
abbrev mt_X8_bold : am_Mt := (RX8, cX8_bold, 9, some .int)
abbrev mt_X8_bestStake : am_Mt := (RX8, cX8_bestStake, 5, some .int)
abbrev mt_X8_chanceBy : am_Mt := (RX8, cX8_chanceBy, 6, some .long)
abbrev mt_X8_tenToThe : am_Mt := (RX8, cX8_tenToThe, 4, some .long)
abbrev mt_X8_tellFraction : am_Mt := (RX8, cX8_tellFraction, 12, none)
abbrev mt_X8_notes : am_Mt := (RX8, cX8_notes, 6, some .int)
abbrev mt_X8_winners : am_Mt := (RX8, cX8_winners, 5, some .int)
abbrev mt_X8_lostBehind : am_Mt := (RX8, cX8_lostBehind, 1, some .int)
abbrev mt_X8_look : am_Mt := (RX8, cX8_look, 3, some .int)
abbrev mt_X8_forget : am_Mt := (RX8, cX8_forget, 2, some .int)
abbrev mt_X8_laws : am_Mt := (RX8, cX8_laws, 4, some .int)
abbrev mt_X8_fitsLooks : am_Mt := (RX8, cX8_fitsLooks, 4, some .boolean)
abbrev mt_X8_likes : am_Mt := (RX8, cX8_likes, 3, some .boolean)
abbrev mt_X8_lawsThat : am_Mt := (RX8, cX8_lawsThat, 6, some .int)
abbrev mt_X8_sure : am_Mt := (RX8, cX8_sure, 6, some .int)
abbrev mt_X8_tries : am_Mt := (RX8, cX8_tries, 5, some .int)
abbrev mt_X8_sings : am_Mt := (RX8, cX8_sings, 7, some .int)
abbrev mt_X8_weigh : am_Mt := (RX8, cX8_weigh, 8, none)
abbrev mt_X8_counts : am_Mt := (RX8, cX8_counts, 9, some .int)
abbrev mt_X8_told : am_Mt := (RX8, cX8_told, 3, some .int)
abbrev mt_X8_canBeTold : am_Mt := (RX8, cX8_canBeTold, 2, some .boolean)
abbrev mt_X8_deny : am_Mt := (RX8, cX8_deny, 2, some .int)
abbrev mt_X8_fits : am_Mt := (RX8, cX8_fits, 2, some .int)
abbrev mt_X8_suspects : am_Mt := (RX8, cX8_suspects, 5, some .int)
abbrev mt_X8_isSo : am_Mt := (RX8, cX8_isSo, 4, some .boolean)
abbrev mt_X8_ask : am_Mt := (RX8, cX8_ask, 8, some .int)
abbrev mt_X8_rests : am_Mt := (RX8, cX8_rests, 7, some .int)
abbrev mt_X8_content : am_Mt := (RX8, cX8_content, 6, some .boolean)
abbrev mt_X8_had : am_Mt := (RX8, cX8_had, 4, some .int)
abbrev mt_X8_law : am_Mt := (RX8, cX8_law, 4, some .int)
abbrev mt_X8_years : am_Mt := (RX8, cX8_years, 4, some .int)
abbrev mt_X8_drawYear : am_Mt := (RX8, cX8_drawYear, 3, none)
abbrev mt_X8_draw : am_Mt := (RX8, cX8_draw, 2, some .int)
abbrev mt_X8_keep : am_Mt := (RX8, cX8_keep, 2, some .boolean)
abbrev mt_X8_again : am_Mt := (RX8, cX8_again, 2, some .boolean)
abbrev mt_X8_count : am_Mt := (RX8, cX8_count, 2, some .int)
abbrev mt_X8_row : am_Mt := (RX8, cX8_row, 2, some .long)
abbrev mt_X9_init : am_Mt := (RX9, cX9_init, 1, none)
abbrev mt_X9_thrown : am_Mt := (RX9, cX9_thrown, 1, some .int)
abbrev mt_X9_in : am_Mt := (RX9, cX9_in, 3, some .boolean)
abbrev mt_X9_has : am_Mt := (RX9, cX9_has, 2, some .boolean)
abbrev mt_X9_lost : am_Mt := (RX9, cX9_lost, 1, some .int)
abbrev mt_X9_tell : am_Mt := (RX9, cX9_tell, 3, none)
abbrev mt_X9_isMan : am_Mt := (RX9, cX9_isMan, 2, some .boolean)
abbrev mt_X9_sign : am_Mt := (RX9, cX9_sign, 3, some .int)
abbrev mt_X9_end : am_Mt := (RX9, cX9_end, 2, some .boolean)
abbrev mt_X9_begin : am_Mt := (RX9, cX9_begin, 4, none)
abbrev mt_X9_beginText : am_Mt := (RX9, cX9_beginText, 2, none)
abbrev mt_X9_here : am_Mt := (RX9, cX9_here, 1, some .int)
abbrev mt_X9_fine : am_Mt := (RX9, cX9_fine, 1, some .boolean)
abbrev mt_X9_fault : am_Mt := (RX9, cX9_fault, 2, none)
abbrev mt_X9_passes : am_Mt := (RX9, cX9_passes, 2, some .boolean)
abbrev mt_X9_need : am_Mt := (RX9, cX9_need, 2, none)
abbrev mt_X9_oneOf : am_Mt := (RX9, cX9_oneOf, 3, some .int)
abbrev mt_X9_number : am_Mt := (RX9, cX9_number, 4, some .int)
abbrev mt_X9_wasRight : am_Mt := (RX9, cX9_wasRight, 1, some .boolean)
abbrev mt_X9_songs : am_Mt := (RX9, cX9_songs, 3, some .int)
abbrev mt_X9_sortBy : am_Mt := (RX9, cX9_sortBy, 1, some .int)
abbrev mt_X9_readMan : am_Mt := (RX9, cX9_readMan, 2, none)
abbrev mt_X9_hearers : am_Mt := (RX9, cX9_hearers, 4, some .int)
abbrev mt_X9_held : am_Mt := (RX9, cX9_held, 3, some .int)
abbrev mt_X9_sum : am_Mt := (RX9, cX9_sum, 5, some .int)
abbrev mt_X9_product : am_Mt := (RX9, cX9_product, 5, some .int)
abbrev mt_X9_letterOf : am_Mt := (RX9, cX9_letterOf, 1, some .int)
abbrev mt_X9_thing : am_Mt := (RX9, cX9_thing, 4, some .int)
abbrev mt_X9_readRule : am_Mt := (RX9, cX9_readRule, 1, some .boolean)
abbrev mt_X9_rule : am_Mt := (RX9, cX9_rule, 3, some .int)
abbrev mt_X9_worthOn : am_Mt := (RX9, cX9_worthOn, 2, some .int)
abbrev mt_X9_present : am_Mt := (RX9, cX9_present, 4, some .int)
abbrev mt_X9_mayOf : am_Mt := (RX9, cX9_mayOf, 4, some .int)
abbrev mt_X9_hearer : am_Mt := (RX9, cX9_hearer, 3, some .int)
abbrev mt_X9_worth : am_Mt := (RX9, cX9_worth, 2, some .int)
abbrev mt_X9_heardOfAll : am_Mt := (RX9, cX9_heardOfAll, 4, some .int)
abbrev mt_X9_sheet : am_Mt := (RX9, cX9_sheet, 8, some .int)
abbrev mt_X9_lay : am_Mt := (RX9, cX9_lay, 4, none)
abbrev mt_X9_remember : am_Mt := (RX9, cX9_remember, 3, none)
abbrev mt_X9_full : am_Mt := (RX9, cX9_full, 1, some .int)
abbrev mt_X9_part : am_Mt := (RX9, cX9_part, 3, none)
abbrev mt_X9_goNight : am_Mt := (RX9, cX9_goNight, 3, none)
abbrev mt_X9_goNights : am_Mt := (RX9, cX9_goNights, 4, none)
abbrev mt_X9_nights : am_Mt := (RX9, cX9_nights, 3, some .int)
abbrev mt_X9_comes : am_Mt := (RX9, cX9_comes, 2, some .int)
abbrev mt_X9_refusesHum : am_Mt := (RX9, cX9_refusesHum, 4, some .int)
abbrev mt_X9_goHum : am_Mt := (RX9, cX9_goHum, 4, none)
abbrev mt_X9_hum : am_Mt := (RX9, cX9_hum, 4, some .int)
abbrev mt_X9_refusesStake : am_Mt := (RX9, cX9_refusesStake, 2, some .int)
abbrev mt_X9_goStake : am_Mt := (RX9, cX9_goStake, 2, none)
abbrev mt_X9_stake : am_Mt := (RX9, cX9_stake, 3, some .int)
abbrev mt_X9_gain : am_Mt := (RX9, cX9_gain, 3, some .int)
abbrev mt_X9_refusesAdvance : am_Mt := (RX9, cX9_refusesAdvance, 2, some .int)
abbrev mt_X9_advance : am_Mt := (RX9, cX9_advance, 3, some .int)
abbrev mt_X9_spring : am_Mt := (RX9, cX9_spring, 3, some .int)
abbrev mt_X9_readAct : am_Mt := (RX9, cX9_readAct, 4, none)
abbrev mt_X9_act : am_Mt := (RX9, cX9_act, 5, some .boolean)
abbrev mt_X9_undo : am_Mt := (RX9, cX9_undo, 2, some .int)
abbrev mt_X9_tonight : am_Mt := (RX9, cX9_tonight, 3, some .int)
abbrev mt_X9_later : am_Mt := (RX9, cX9_later, 2, some .int)
abbrev mt_X9_enough : am_Mt := (RX9, cX9_enough, 3, some .int)
abbrev mt_X9_hears : am_Mt := (RX9, cX9_hears, 4, some .int)
abbrev mt_X9_quiet : am_Mt := (RX9, cX9_quiet, 7, some .int)
abbrev mt_X9_drains : am_Mt := (RX9, cX9_drains, 5, some .int)
abbrev mt_X9_admit : am_Mt := (RX9, cX9_admit, 4, none)
abbrev mt_X9_admits : am_Mt := (RX9, cX9_admits, 6, some .int)
abbrev mt_X9_plans : am_Mt := (RX9, cX9_plans, 9, some .int)
abbrev mt_X9_fills : am_Mt := (RX9, cX9_fills, 3, some .int)
abbrev mt_X9_goOrder : am_Mt := (RX9, cX9_goOrder, 8, none)
abbrev mt_X9_order : am_Mt := (RX9, cX9_order, 2, some .int)
abbrev mt_X9_heardOf : am_Mt := (RX9, cX9_heardOf, 4, some .int)
abbrev mt_X9_adds : am_Mt := (RX9, cX9_adds, 4, some .int)
abbrev mt_X9_nearest : am_Mt := (RX9, cX9_nearest, 8, some .int)
abbrev mt_X9_awards : am_Mt := (RX9, cX9_awards, 6, some .int)
abbrev mt_X9_envy : am_Mt := (RX9, cX9_envy, 7, some .int)
abbrev mt_X9_raises : am_Mt := (RX9, cX9_raises, 7, some .int)
abbrev mt_X9_grows : am_Mt := (RX9, cX9_grows, 7, some .int)
abbrev mt_X9_common : am_Mt := (RX9, cX9_common, 4, some .long)
abbrev mt_X9_power : am_Mt := (RX9, cX9_power, 6, some .long)
abbrev mt_X9_tellPart : am_Mt := (RX9, cX9_tellPart, 7, none)
abbrev mt_X9_luckOf : am_Mt := (RX9, cX9_luckOf, 3, some .long)
abbrev mt_X9_luckBy : am_Mt := (RX9, cX9_luckBy, 5, some .long)
abbrev mt_X9_bold : am_Mt := (RX9, cX9_bold, 10, some .int)
abbrev mt_X9_notes : am_Mt := (RX9, cX9_notes, 8, some .int)
abbrev mt_X9_look : am_Mt := (RX9, cX9_look, 3, some .int)
abbrev mt_X9_forget : am_Mt := (RX9, cX9_forget, 2, some .int)
abbrev mt_X9_isLaw : am_Mt := (RX9, cX9_isLaw, 4, some .boolean)
abbrev mt_X9_liking : am_Mt := (RX9, cX9_liking, 5, some .int)
abbrev mt_X9_laws : am_Mt := (RX9, cX9_laws, 4, some .int)
abbrev mt_X9_sure : am_Mt := (RX9, cX9_sure, 5, some .int)
abbrev mt_X9_tries : am_Mt := (RX9, cX9_tries, 6, some .int)
abbrev mt_X9_laySums : am_Mt := (RX9, cX9_laySums, 6, none)
abbrev mt_X9_sumsFrom : am_Mt := (RX9, cX9_sumsFrom, 5, some .long)
abbrev mt_X9_sings : am_Mt := (RX9, cX9_sings, 4, some .int)
abbrev mt_X9_counts : am_Mt := (RX9, cX9_counts, 5, some .int)
abbrev mt_X9_told : am_Mt := (RX9, cX9_told, 4, some .int)
abbrev mt_X9_deny : am_Mt := (RX9, cX9_deny, 2, some .int)
abbrev mt_X9_fits : am_Mt := (RX9, cX9_fits, 4, some .boolean)
abbrev mt_X9_fitting : am_Mt := (RX9, cX9_fitting, 5, some .int)
abbrev mt_X9_fits_ : am_Mt := (RX9, cX9_fits_, 1, some .int)
abbrev mt_X9_ask : am_Mt := (RX9, cX9_ask, 7, some .int)
abbrev mt_X9_gets : am_Mt := (RX9, cX9_gets, 4, some .int)
abbrev mt_X9_isBest : am_Mt := (RX9, cX9_isBest, 5, some .boolean)
abbrev mt_X9_rests : am_Mt := (RX9, cX9_rests, 7, some .int)
abbrev mt_X9_bookIn20 : am_Mt := (RX9, cX9_bookIn20, 1, some .int)
abbrev mt_X9_law : am_Mt := (RX9, cX9_law, 6, some .int)
abbrev mt_X9_draw : am_Mt := (RX9, cX9_draw, 2, some .int)
abbrev mt_X9_years : am_Mt := (RX9, cX9_years, 7, some .int)
abbrev mt_X9_keep : am_Mt := (RX9, cX9_keep, 2, some .boolean)
abbrev mt_X9_again : am_Mt := (RX9, cX9_again, 3, some .boolean)
abbrev mt_X9_surcharged : am_Mt := (RX9, cX9_surcharged, 3, some .int)
abbrev mt_X9_count : am_Mt := (RX9, cX9_count, 2, some .int)
abbrev mt_X9_row : am_Mt := (RX9, cX9_row, 2, some .long)
abbrev mt_J11_isValidCodePoint_9a6ad : am_Mt := (RJ11, cJ11_isValidCodePoint_9a6ad, 2, some .boolean)
abbrev mt_J11_highSurrogate_5068e : am_Mt := (RJ11, cJ11_highSurrogate_5068e, 1, some .char)
abbrev mt_J11_lowSurrogate_5068e : am_Mt := (RJ11, cJ11_lowSurrogate_5068e, 1, some .char)
abbrev mt_J6_bitCount_0f7a4 : am_Mt := (RJ6, cJ6_bitCount_0f7a4, 1, some .int)
abbrev mt_J9_abs_0f7a4 : am_Mt := (RJ9, cJ9_abs_0f7a4, 1, some .int)
abbrev mt_J9_max_7cf53 : am_Mt := (RJ9, cJ9_max_7cf53, 2, some .int)
abbrev mt_J9_max_f86c9 : am_Mt := (RJ9, cJ9_max_f86c9, 4, some .long)
abbrev mt_J9_min_7cf53 : am_Mt := (RJ9, cJ9_min_7cf53, 2, some .int)
abbrev mt_J0_length_8abf5 : am_Mt := (RJ0, cJ0_length_8abf5, 1, some .int)
abbrev mt_J0_indexOf_0f7a4 : am_Mt := (RJ0, cJ0_indexOf_0f7a4, 2, some .int)
abbrev mt_J0_indexOf_7cf53 : am_Mt := (RJ0, cJ0_indexOf_7cf53, 3, some .int)
abbrev mt_J0_coder_7d493 : am_Mt := (RJ0, cJ0_coder_7d493, 1, some .byte)
abbrev mt_J0_isLatin1_aae02 : am_Mt := (RJ0, cJ0_isLatin1_aae02, 1, some .boolean)
abbrev mt_J0_checkBoundsBeginEnd_23922 : am_Mt := (RJ0, cJ0_checkBoundsBeginEnd_23922, 3, none)
abbrev mt_J1_canEncode_9a6ad : am_Mt := (RJ1, cJ1_canEncode_9a6ad, 1, some .boolean)
abbrev mt_J1_indexOf_4cfef : am_Mt := (RJ1, cJ1_indexOf_4cfef, 4, some .int)
abbrev mt_J1_indexOfChar_4cfef : am_Mt := (RJ1, cJ1_indexOfChar_4cfef, 6, some .int)
abbrev mt_J2_getChar_3b067 : am_Mt := (RJ2, cJ2_getChar_3b067, 2, some .char)
abbrev mt_J2_length_9d52b : am_Mt := (RJ2, cJ2_length_9d52b, 1, some .int)
abbrev mt_J2_indexOf_4cfef : am_Mt := (RJ2, cJ2_indexOf_4cfef, 4, some .int)
abbrev mt_J2_indexOfChar_4cfef : am_Mt := (RJ2, cJ2_indexOfChar_4cfef, 4, some .int)
abbrev mt_J2_indexOfCharUnsafe_4cfef : am_Mt := (RJ2, cJ2_indexOfCharUnsafe_4cfef, 5, some .int)
abbrev mt_J2_indexOfSupplementary_4cfef : am_Mt := (RJ2, cJ2_indexOfSupplementary_4cfef, 7, some .int)
abbrev mt_J2_checkBoundsBeginEnd_d044e : am_Mt := (RJ2, cJ2_checkBoundsBeginEnd_d044e, 3, none)
abbrev mt_J3_checkFromToIndex_8c36e : am_Mt := (RJ3, cJ3_checkFromToIndex_8c36e, 4, some .int)
theorem ml_X8_103 : am_ML RX8 103 yX7_add mt_X7_add 1 := ⟨am_t2 (i := 115) rfl rfl, am_t2 (i := 118) rfl rfl, am_t1 (i := 2) rfl rfl, ⟨by decide, by decide⟩, by decide +kernel, by decide⟩
theorem ml_X8_111 : am_ML RX8 111 yX8_faultInSongs mt_X8_faultInSongs 0 := ⟨am_t2 (i := 127) rfl rfl, am_t2 (i := 130) rfl rfl, am_t1 (i := 1) rfl rfl, ⟨by decide, by decide⟩, by decide +kernel, by decide⟩
theorem ml_X8_115 : am_ML RX8 115 yX6_learn mt_X6_learn 1 := ⟨am_t2 (i := 139) rfl rfl, am_t2 (i := 142) rfl rfl, am_t1 (i := 4) rfl rfl, ⟨by decide, by decide⟩, by decide +kernel, by decide⟩
theorem ml_X8_119 : am_ML RX8 119 yX7_digit mt_X7_digit 1 := ⟨am_t2 (i := 131) rfl rfl, am_t2 (i := 134) rfl rfl, am_t1 (i := 2) rfl rfl, ⟨by decide, by decide⟩, by decide +kernel, by decide⟩
theorem ml_X8_123 : am_ML RX8 123 yX8_faultInLines mt_X8_faultInLines 0 := ⟨am_t2 (i := 149) rfl rfl, am_t2 (i := 152) rfl rfl, am_t1 (i := 1) rfl rfl, ⟨by decide, by decide⟩, by decide +kernel, by decide⟩
theorem ml_X8_126 : am_ML RX8 126 yX8_admit mt_X8_admit 1 := ⟨am_t2 (i := 232) rfl rfl, am_t2 (i := 235) rfl rfl, am_t1 (i := 1) rfl rfl, ⟨by decide, by decide⟩, by decide +kernel, by decide⟩
theorem ml_X8_130 : am_ML RX8 130 yJ9_min_7cf53 mt_J9_min_7cf53 2 := ⟨am_t2 (i := 17) rfl rfl, am_t2 (i := 19) rfl rfl, am_t1 (i := 11) rfl rfl, ⟨by decide, by decide⟩, by decide +kernel, by decide⟩
theorem ml_X8_137 : am_ML RX8 137 yX8_fitsInLine mt_X8_fitsInLine 1 := ⟨am_t2 (i := 153) rfl rfl, am_t2 (i := 156) rfl rfl, am_t1 (i := 1) rfl rfl, ⟨by decide, by decide⟩, by decide +kernel, by decide⟩
theorem ml_X8_142 : am_ML RX8 142 yX7_at mt_X7_at 1 := ⟨am_t2 (i := 158) rfl rfl, am_t2 (i := 138) rfl rfl, am_t1 (i := 2) rfl rfl, ⟨by decide, by decide⟩, by decide +kernel, by decide⟩
theorem ml_X8_145 : am_ML RX8 145 yJ0_indexOf_0f7a4 mt_J0_indexOf_0f7a4 1 := ⟨am_t2 (i := 159) rfl rfl, am_t2 (i := 162) rfl rfl, am_t1 (i := 6) rfl rfl, ⟨by decide, by decide⟩, by decide +kernel, by decide⟩
theorem ml_X8_168 : am_ML RX8 168 yX4_read mt_X4_read 1 := ⟨am_t3 (i := 0) rfl rfl, am_t3 (i := 3) rfl rfl, am_t1 (i := 5) rfl rfl, ⟨by decide, by decide⟩, by decide +kernel, by decide⟩
theorem ml_X8_175 : am_ML RX8 175 yX6_has mt_X6_has 1 := ⟨am_t3 (i := 139) rfl rfl, am_t3 (i := 142) rfl rfl, am_t1 (i := 4) rfl rfl, ⟨by decide, by decide⟩, by decide +kernel, by decide⟩
theorem ml_X8_181 : am_ML RX8 181 yX8_mayTonight mt_X8_mayTonight 1 := ⟨am_t4 (i := 46) rfl rfl, am_t4 (i := 49) rfl rfl, am_t1 (i := 1) rfl rfl, ⟨by decide, by decide⟩, by decide +kernel, by decide⟩
theorem ml_X8_187 : am_ML RX8 187 yJ6_bitCount_0f7a4 mt_J6_bitCount_0f7a4 1 := ⟨am_t3 (i := 143) rfl rfl, am_t3 (i := 85) rfl rfl, am_t1 (i := 21) rfl rfl, ⟨by decide, by decide⟩, by decide +kernel, by decide⟩
theorem ml_X8_192 : am_ML RX8 192 yX6_may mt_X6_may 5 := ⟨am_t4 (i := 50) rfl rfl, am_t3 (i := 93) rfl rfl, am_t1 (i := 4) rfl rfl, ⟨by decide, by decide⟩, by decide +kernel, by decide⟩
theorem ml_X8_196 : am_ML RX8 196 yX6_songOn mt_X6_songOn 1 := ⟨am_t3 (i := 44) rfl rfl, am_t3 (i := 47) rfl rfl, am_t1 (i := 4) rfl rfl, ⟨by decide, by decide⟩, by decide +kernel, by decide⟩
theorem ml_X8_199 : am_ML RX8 199 yX8_entry mt_X8_entry 2 := ⟨am_t3 (i := 52) rfl rfl, am_t3 (i := 54) rfl rfl, am_t1 (i := 1) rfl rfl, ⟨by decide, by decide⟩, by decide +kernel, by decide⟩
theorem ml_X8_202 : am_ML RX8 202 yX8_put mt_X8_put 3 := ⟨am_t3 (i := 55) rfl rfl, am_t2 (i := 16) rfl rfl, am_t1 (i := 1) rfl rfl, ⟨by decide, by decide⟩, by decide +kernel, by decide⟩
theorem ml_X8_206 : am_ML RX8 206 yX0_heardOfAll mt_X0_heardOfAll 1 := ⟨am_t3 (i := 56) rfl rfl, am_t3 (i := 59) rfl rfl, am_t1 (i := 7) rfl rfl, ⟨by decide, by decide⟩, by decide +kernel, by decide⟩
theorem ml_X8_209 : am_ML RX8 209 yJ9_max_7cf53 mt_J9_max_7cf53 2 := ⟨am_t2 (i := 20) rfl rfl, am_t2 (i := 22) rfl rfl, am_t1 (i := 11) rfl rfl, ⟨by decide, by decide⟩, by decide +kernel, by decide⟩
theorem ml_X8_212 : am_ML RX8 212 yX0_copy mt_X0_copy 1 := ⟨am_t3 (i := 64) rfl rfl, am_t3 (i := 67) rfl rfl, am_t1 (i := 7) rfl rfl, ⟨by decide, by decide⟩, by decide +kernel, by decide⟩
theorem ml_X8_216 : am_ML RX8 216 yX8_goOn mt_X8_goOn 2 := ⟨am_t3 (i := 71) rfl rfl, am_t3 (i := 74) rfl rfl, am_t1 (i := 1) rfl rfl, ⟨by decide, by decide⟩, by decide +kernel, by decide⟩
theorem ml_X8_220 : am_ML RX8 220 yX2_push mt_X2_push 1 := ⟨am_t3 (i := 114) rfl rfl, am_t3 (i := 117) rfl rfl, am_t1 (i := 8) rfl rfl, ⟨by decide, by decide⟩, by decide +kernel, by decide⟩
theorem ml_X8_229 : am_ML RX8 229 yX3_tell_ mt_X3_tell_ 2 := ⟨am_t3 (i := 119) rfl rfl, am_t3 (i := 122) rfl rfl, am_t1 (i := 3) rfl rfl, ⟨by decide, by decide⟩, by decide +kernel, by decide⟩
theorem ml_X8_233 : am_ML RX8 233 yX8_turn mt_X8_turn 2 := ⟨am_t3 (i := 135) rfl rfl, am_t3 (i := 138) rfl rfl, am_t1 (i := 1) rfl rfl, ⟨by decide, by decide⟩, by decide +kernel, by decide⟩
theorem ml_X8_236 : am_ML RX8 236 yX8_remembered mt_X8_remembered 1 := ⟨am_t3 (i := 144) rfl rfl, am_t3 (i := 147) rfl rfl, am_t1 (i := 1) rfl rfl, ⟨by decide, by decide⟩, by decide +kernel, by decide⟩
theorem ml_X8_239 : am_ML RX8 239 yX8_surcharge mt_X8_surcharge 3 := ⟨am_t3 (i := 152) rfl rfl, am_t3 (i := 155) rfl rfl, am_t1 (i := 1) rfl rfl, ⟨by decide, by decide⟩, by decide +kernel, by decide⟩
theorem ml_X8_243 : am_ML RX8 243 yX8_wager mt_X8_wager 2 := ⟨am_t3 (i := 162) rfl rfl, am_t3 (i := 165) rfl rfl, am_t1 (i := 1) rfl rfl, ⟨by decide, by decide⟩, by decide +kernel, by decide⟩
theorem ml_X8_249 : am_ML RX8 249 yX8_handOver mt_X8_handOver 2 := ⟨am_t3 (i := 174) rfl rfl, am_t3 (i := 177) rfl rfl, am_t1 (i := 1) rfl rfl, ⟨by decide, by decide⟩, by decide +kernel, by decide⟩
theorem ml_X8_252 : am_ML RX8 252 yX6_pass mt_X6_pass 2 := ⟨am_t3 (i := 75) rfl rfl, am_t3 (i := 78) rfl rfl, am_t1 (i := 4) rfl rfl, ⟨by decide, by decide⟩, by decide +kernel, by decide⟩
theorem ml_X8_259 : am_ML RX8 259 yX0_hear mt_X0_hear 2 := ⟨am_t3 (i := 156) rfl rfl, am_t3 (i := 105) rfl rfl, am_t1 (i := 7) rfl rfl, ⟨by decide, by decide⟩, by decide +kernel, by decide⟩
theorem ml_X8_263 : am_ML RX8 263 yX0_earn mt_X0_earn 1 := ⟨am_t3 (i := 157) rfl rfl, am_t3 (i := 110) rfl rfl, am_t1 (i := 7) rfl rfl, ⟨by decide, by decide⟩, by decide +kernel, by decide⟩
theorem ml_X8_266 : am_ML RX8 266 yX8_faultInSpring mt_X8_faultInSpring 0 := ⟨am_t3 (i := 182) rfl rfl, am_t3 (i := 185) rfl rfl, am_t1 (i := 1) rfl rfl, ⟨by decide, by decide⟩, by decide +kernel, by decide⟩
theorem ml_X8_269 : am_ML RX8 269 yX8_act mt_X8_act 1 := ⟨am_t3 (i := 192) rfl rfl, am_t3 (i := 195) rfl rfl, am_t1 (i := 1) rfl rfl, ⟨by decide, by decide⟩, by decide +kernel, by decide⟩
theorem ml_X8_272 : am_ML RX8 272 yX8_digitsBehind mt_X8_digitsBehind 1 := ⟨am_t3 (i := 186) rfl rfl, am_t3 (i := 188) rfl rfl, am_t1 (i := 1) rfl rfl, ⟨by decide, by decide⟩, by decide +kernel, by decide⟩
theorem ml_X8_275 : am_ML RX8 275 yX8_leastBehind mt_X8_leastBehind 1 := ⟨am_t3 (i := 189) rfl rfl, am_t3 (i := 191) rfl rfl, am_t1 (i := 1) rfl rfl, ⟨by decide, by decide⟩, by decide +kernel, by decide⟩
theorem ml_X8_278 : am_ML RX8 278 yX2_pop mt_X2_pop 1 := ⟨am_t3 (i := 200) rfl rfl, am_t3 (i := 203) rfl rfl, am_t1 (i := 8) rfl rfl, ⟨by decide, by decide⟩, by decide +kernel, by decide⟩
theorem ml_X8_282 : am_ML RX8 282 yX6_part mt_X6_part 3 := ⟨am_t3 (i := 208) rfl rfl, am_t3 (i := 82) rfl rfl, am_t1 (i := 4) rfl rfl, ⟨by decide, by decide⟩, by decide +kernel, by decide⟩
theorem ml_X8_295 : am_ML RX8 295 yX8_bookIn mt_X8_bookIn 2 := ⟨am_t3 (i := 213) rfl rfl, am_t3 (i := 216) rfl rfl, am_t1 (i := 1) rfl rfl, ⟨by decide, by decide⟩, by decide +kernel, by decide⟩
theorem ml_X8_299 : am_ML RX8 299 yX3_tell mt_X3_tell 1 := ⟨am_t3 (i := 221) rfl rfl, am_t3 (i := 224) rfl rfl, am_t1 (i := 3) rfl rfl, ⟨by decide, by decide⟩, by decide +kernel, by decide⟩
theorem ml_X8_302 : am_ML RX8 302 yX1_ready mt_X1_ready 4 := ⟨am_t4 (i := 1) rfl rfl, am_t4 (i := 4) rfl rfl, am_t1 (i := 10) rfl rfl, ⟨by decide, by decide⟩, by decide +kernel, by decide⟩
theorem ml_X8_306 : am_ML RX8 306 yX1_share mt_X1_share 2 := ⟨am_t4 (i := 12) rfl rfl, am_t4 (i := 15) rfl rfl, am_t1 (i := 10) rfl rfl, ⟨by decide, by decide⟩, by decide +kernel, by decide⟩
theorem ml_X8_315 : am_ML RX8 315 yX1_mostOf mt_X1_mostOf 3 := ⟨am_t4 (i := 21) rfl rfl, am_t4 (i := 24) rfl rfl, am_t1 (i := 10) rfl rfl, ⟨by decide, by decide⟩, by decide +kernel, by decide⟩
theorem ml_X8_318 : am_ML RX8 318 yX8_mostPaid mt_X8_mostPaid 2 := ⟨am_t4 (i := 26) rfl rfl, am_t4 (i := 29) rfl rfl, am_t1 (i := 1) rfl rfl, ⟨by decide, by decide⟩, by decide +kernel, by decide⟩
theorem ml_X8_321 : am_ML RX8 321 yX8_bestSecond mt_X8_bestSecond 3 := ⟨am_t4 (i := 30) rfl rfl, am_t4 (i := 33) rfl rfl, am_t1 (i := 1) rfl rfl, ⟨by decide, by decide⟩, by decide +kernel, by decide⟩
theorem ml_X8_324 : am_ML RX8 324 yX1_follow mt_X1_follow 2 := ⟨am_t4 (i := 34) rfl rfl, am_t4 (i := 37) rfl rfl, am_t1 (i := 10) rfl rfl, ⟨by decide, by decide⟩, by decide +kernel, by decide⟩
theorem ml_X8_328 : am_ML RX8 328 yX3_clear mt_X3_clear 0 := ⟨am_t4 (i := 51) rfl rfl, am_t3 (i := 126) rfl rfl, am_t1 (i := 3) rfl rfl, ⟨by decide, by decide⟩, by decide +kernel, by decide⟩
theorem ml_X8_331 : am_ML RX8 331 yX8_firstToGo mt_X8_firstToGo 3 := ⟨am_t4 (i := 52) rfl rfl, am_t4 (i := 55) rfl rfl, am_t1 (i := 1) rfl rfl, ⟨by decide, by decide⟩, by decide +kernel, by decide⟩
theorem ml_X8_334 : am_ML RX8 334 yX3_add mt_X3_add 1 := ⟨am_t4 (i := 56) rfl rfl, am_t3 (i := 130) rfl rfl, am_t1 (i := 3) rfl rfl, ⟨by decide, by decide⟩, by decide +kernel, by decide⟩
theorem ml_X8_338 : am_ML RX8 338 yX8_grown mt_X8_grown 2 := ⟨am_t4 (i := 66) rfl rfl, am_t3 (i := 113) rfl rfl, am_t1 (i := 1) rfl rfl, ⟨by decide, by decide⟩, by decide +kernel, by decide⟩
theorem ml_X8_341 : am_ML RX8 341 yX8_heardBy mt_X8_heardBy 1 := ⟨am_t4 (i := 71) rfl rfl, am_t4 (i := 74) rfl rfl, am_t1 (i := 1) rfl rfl, ⟨by decide, by decide⟩, by decide +kernel, by decide⟩
theorem ml_X8_344 : am_ML RX8 344 yX8_closer mt_X8_closer 3 := ⟨am_t4 (i := 79) rfl rfl, am_t4 (i := 81) rfl rfl, am_t1 (i := 1) rfl rfl, ⟨by decide, by decide⟩, by decide +kernel, by decide⟩
theorem ml_X8_348 : am_ML RX8 348 yJ9_abs_0f7a4 mt_J9_abs_0f7a4 1 := ⟨am_t4 (i := 82) rfl rfl, am_t4 (i := 84) rfl rfl, am_t1 (i := 11) rfl rfl, ⟨by decide, by decide⟩, by decide +kernel, by decide⟩
theorem ml_X8_351 : am_ML RX8 351 yX8_poorest mt_X8_poorest 0 := ⟨am_t4 (i := 89) rfl rfl, am_t4 (i := 92) rfl rfl, am_t1 (i := 1) rfl rfl, ⟨by decide, by decide⟩, by decide +kernel, by decide⟩
theorem ml_X8_354 : am_ML RX8 354 yX8_bestStake mt_X8_bestStake 2 := ⟨am_t4 (i := 101) rfl rfl, am_t4 (i := 104) rfl rfl, am_t1 (i := 1) rfl rfl, ⟨by decide, by decide⟩, by decide +kernel, by decide⟩
theorem ml_X8_357 : am_ML RX8 357 yX8_chanceBy mt_X8_chanceBy 3 := ⟨am_t4 (i := 105) rfl rfl, am_t4 (i := 108) rfl rfl, am_t1 (i := 1) rfl rfl, ⟨by decide, by decide⟩, by decide +kernel, by decide⟩
theorem ml_X8_367 : am_ML RX8 367 yX8_tenToThe mt_X8_tenToThe 1 := ⟨am_t4 (i := 110) rfl rfl, am_t4 (i := 112) rfl rfl, am_t1 (i := 1) rfl rfl, ⟨by decide, by decide⟩, by decide +kernel, by decide⟩
theorem ml_X8_371 : am_ML RX8 371 yX8_tellFraction mt_X8_tellFraction 2 := ⟨am_t4 (i := 114) rfl rfl, am_t4 (i := 117) rfl rfl, am_t1 (i := 1) rfl rfl, ⟨by decide, by decide⟩, by decide +kernel, by decide⟩
theorem ml_X8_376 : am_ML RX8 376 yX8_winners mt_X8_winners 2 := ⟨am_t4 (i := 122) rfl rfl, am_t4 (i := 125) rfl rfl, am_t1 (i := 1) rfl rfl, ⟨by decide, by decide⟩, by decide +kernel, by decide⟩
theorem ml_X8_379 : am_ML RX8 379 yX8_lostBehind mt_X8_lostBehind 1 := ⟨am_t4 (i := 126) rfl rfl, am_t4 (i := 128) rfl rfl, am_t1 (i := 1) rfl rfl, ⟨by decide, by decide⟩, by decide +kernel, by decide⟩
theorem ml_X8_382 : am_ML RX8 382 yX5_add mt_X5_add 2 := ⟨am_t4 (i := 133) rfl rfl, am_t4 (i := 136) rfl rfl, am_t1 (i := 9) rfl rfl, ⟨by decide, by decide⟩, by decide +kernel, by decide⟩
theorem ml_X8_386 : am_ML RX8 386 yX8_fitsLooks mt_X8_fitsLooks 2 := ⟨am_t4 (i := 145) rfl rfl, am_t4 (i := 148) rfl rfl, am_t1 (i := 1) rfl rfl, ⟨by decide, by decide⟩, by decide +kernel, by decide⟩
theorem ml_X8_392 : am_ML RX8 392 yX8_likes mt_X8_likes 3 := ⟨am_t4 (i := 149) rfl rfl, am_t4 (i := 151) rfl rfl, am_t1 (i := 1) rfl rfl, ⟨by decide, by decide⟩, by decide +kernel, by decide⟩
theorem ml_X8_398 : am_ML RX8 398 yX8_lawsThat mt_X8_lawsThat 2 := ⟨am_t4 (i := 156) rfl rfl, am_t4 (i := 159) rfl rfl, am_t1 (i := 1) rfl rfl, ⟨by decide, by decide⟩, by decide +kernel, by decide⟩
theorem ml_X8_402 : am_ML RX8 402 yX8_weigh mt_X8_weigh 2 := ⟨am_t4 (i := 168) rfl rfl, am_t4 (i := 171) rfl rfl, am_t1 (i := 1) rfl rfl, ⟨by decide, by decide⟩, by decide +kernel, by decide⟩
theorem ml_X8_407 : am_ML RX8 407 yX8_canBeTold mt_X8_canBeTold 2 := ⟨am_t4 (i := 181) rfl rfl, am_t4 (i := 183) rfl rfl, am_t1 (i := 1) rfl rfl, ⟨by decide, by decide⟩, by decide +kernel, by decide⟩
theorem ml_X8_410 : am_ML RX8 410 yX8_suspects mt_X8_suspects 0 := ⟨am_t4 (i := 192) rfl rfl, am_t4 (i := 195) rfl rfl, am_t1 (i := 1) rfl rfl, ⟨by decide, by decide⟩, by decide +kernel, by decide⟩
theorem ml_X8_413 : am_ML RX8 413 yX8_isSo mt_X8_isSo 3 := ⟨am_t4 (i := 196) rfl rfl, am_t4 (i := 199) rfl rfl, am_t1 (i := 1) rfl rfl, ⟨by decide, by decide⟩, by decide +kernel, by decide⟩
theorem ml_X8_416 : am_ML RX8 416 yX8_content mt_X8_content 4 := ⟨am_t4 (i := 208) rfl rfl, am_t4 (i := 210) rfl rfl, am_t1 (i := 1) rfl rfl, ⟨by decide, by decide⟩, by decide +kernel, by decide⟩
theorem ml_X8_420 : am_ML RX8 420 yX8_had mt_X8_had 4 := ⟨am_t4 (i := 211) rfl rfl, am_t4 (i := 213) rfl rfl, am_t1 (i := 1) rfl rfl, ⟨by decide, by decide⟩, by decide +kernel, by decide⟩
theorem ml_X8_427 : am_ML RX8 427 yX8_drawYear mt_X8_drawYear 0 := ⟨am_t4 (i := 222) rfl rfl, am_t4 (i := 225) rfl rfl, am_t1 (i := 1) rfl rfl, ⟨by decide, by decide⟩, by decide +kernel, by decide⟩
theorem ml_X8_430 : am_ML RX8 430 yX8_draw mt_X8_draw 1 := ⟨am_t4 (i := 226) rfl rfl, am_t4 (i := 229) rfl rfl, am_t1 (i := 1) rfl rfl, ⟨by decide, by decide⟩, by decide +kernel, by decide⟩
theorem ml_X8_437 : am_ML RX8 437 yX0_surchargedOfAll mt_X0_surchargedOfAll 1 := ⟨am_t5 (i := 3) rfl rfl, am_t5 (i := 6) rfl rfl, am_t1 (i := 7) rfl rfl, ⟨by decide, by decide⟩, by decide +kernel, by decide⟩
theorem ml_X0_43 : am_ML RX0 43 yJ9_min_7cf53 mt_J9_min_7cf53 2 := ⟨am_t3 (i := 106) rfl rfl, am_t2 (i := 19) rfl rfl, am_t1 (i := 11) rfl rfl, ⟨by decide, by decide⟩, by decide +kernel, by decide⟩
theorem ml_X1_29 : am_ML RX1 29 yX6_songOn mt_X6_songOn 1 := ⟨am_t4 (i := 5) rfl rfl, am_t3 (i := 47) rfl rfl, am_t1 (i := 4) rfl rfl, ⟨by decide, by decide⟩, by decide +kernel, by decide⟩
theorem ml_X1_46 : am_ML RX1 46 yJ9_min_7cf53 mt_J9_min_7cf53 2 := ⟨am_t4 (i := 6) rfl rfl, am_t2 (i := 19) rfl rfl, am_t1 (i := 11) rfl rfl, ⟨by decide, by decide⟩, by decide +kernel, by decide⟩
theorem ml_X1_52 : am_ML RX1 52 yX1_place mt_X1_place 3 := ⟨am_t4 (i := 7) rfl rfl, am_t4 (i := 10) rfl rfl, am_t1 (i := 10) rfl rfl, ⟨by decide, by decide⟩, by decide +kernel, by decide⟩
theorem ml_X1_59 : am_ML RX1 59 yX6_may mt_X6_may 5 := ⟨am_t4 (i := 11) rfl rfl, am_t3 (i := 93) rfl rfl, am_t1 (i := 4) rfl rfl, ⟨by decide, by decide⟩, by decide +kernel, by decide⟩
theorem ml_X1_63 : am_ML RX1 63 yJ9_max_7cf53 mt_J9_max_7cf53 2 := ⟨am_t4 (i := 25) rfl rfl, am_t2 (i := 22) rfl rfl, am_t1 (i := 11) rfl rfl, ⟨by decide, by decide⟩, by decide +kernel, by decide⟩
theorem ml_X1_66 : am_ML RX1 66 yJ6_bitCount_0f7a4 mt_J6_bitCount_0f7a4 1 := ⟨am_t4 (i := 16) rfl rfl, am_t3 (i := 85) rfl rfl, am_t1 (i := 21) rfl rfl, ⟨by decide, by decide⟩, by decide +kernel, by decide⟩
theorem ml_X2_22 : am_ML RX2 22 yX0_copy mt_X0_copy 1 := ⟨am_t3 (i := 118) rfl rfl, am_t3 (i := 67) rfl rfl, am_t1 (i := 7) rfl rfl, ⟨by decide, by decide⟩, by decide +kernel, by decide⟩
theorem ml_X3_19 : am_ML RX3 19 yX3_clear mt_X3_clear 0 := ⟨am_t3 (i := 123) rfl rfl, am_t3 (i := 126) rfl rfl, am_t1 (i := 3) rfl rfl, ⟨by decide, by decide⟩, by decide +kernel, by decide⟩
theorem ml_X3_22 : am_ML RX3 22 yX3_add mt_X3_add 1 := ⟨am_t3 (i := 127) rfl rfl, am_t3 (i := 130) rfl rfl, am_t1 (i := 3) rfl rfl, ⟨by decide, by decide⟩, by decide +kernel, by decide⟩
theorem ml_X4_23 : am_ML RX4 23 yJ0_length_8abf5 mt_J0_length_8abf5 0 := ⟨am_t1 (i := 77) rfl rfl, am_t1 (i := 80) rfl rfl, am_t1 (i := 6) rfl rfl, ⟨by decide, by decide⟩, by decide +kernel, by decide⟩
theorem ml_X4_52 : am_ML RX4 52 yJ9_min_7cf53 mt_J9_min_7cf53 2 := ⟨am_t3 (i := 4) rfl rfl, am_t2 (i := 19) rfl rfl, am_t1 (i := 11) rfl rfl, ⟨by decide, by decide⟩, by decide +kernel, by decide⟩
theorem ml_X4_58 : am_ML RX4 58 yX7_at mt_X7_at 1 := ⟨am_t3 (i := 5) rfl rfl, am_t2 (i := 138) rfl rfl, am_t1 (i := 2) rfl rfl, ⟨by decide, by decide⟩, by decide +kernel, by decide⟩
theorem ml_X4_62 : am_ML RX4 62 yX7_digit mt_X7_digit 1 := ⟨am_t3 (i := 6) rfl rfl, am_t2 (i := 134) rfl rfl, am_t1 (i := 2) rfl rfl, ⟨by decide, by decide⟩, by decide +kernel, by decide⟩
theorem ml_X4_65 : am_ML RX4 65 yX4_readThing mt_X4_readThing 2 := ⟨am_t3 (i := 7) rfl rfl, am_t3 (i := 10) rfl rfl, am_t1 (i := 5) rfl rfl, ⟨by decide, by decide⟩, by decide +kernel, by decide⟩
theorem ml_X4_69 : am_ML RX4 69 yX4_readNext mt_X4_readNext 2 := ⟨am_t3 (i := 20) rfl rfl, am_t3 (i := 23) rfl rfl, am_t1 (i := 5) rfl rfl, ⟨by decide, by decide⟩, by decide +kernel, by decide⟩
theorem ml_X4_72 : am_ML RX4 72 yX4_release mt_X4_release 1 := ⟨am_t3 (i := 32) rfl rfl, am_t3 (i := 35) rfl rfl, am_t1 (i := 5) rfl rfl, ⟨by decide, by decide⟩, by decide +kernel, by decide⟩
theorem ml_X4_76 : am_ML RX4 76 yX4_hold mt_X4_hold 1 := ⟨am_t3 (i := 11) rfl rfl, am_t3 (i := 14) rfl rfl, am_t1 (i := 5) rfl rfl, ⟨by decide, by decide⟩, by decide +kernel, by decide⟩
theorem ml_X4_79 : am_ML RX4 79 yJ0_indexOf_0f7a4 mt_J0_indexOf_0f7a4 1 := ⟨am_t3 (i := 15) rfl rfl, am_t2 (i := 162) rfl rfl, am_t1 (i := 6) rfl rfl, ⟨by decide, by decide⟩, by decide +kernel, by decide⟩
theorem ml_X4_82 : am_ML RX4 82 yX4_emit mt_X4_emit 1 := ⟨am_t3 (i := 16) rfl rfl, am_t3 (i := 19) rfl rfl, am_t1 (i := 5) rfl rfl, ⟨by decide, by decide⟩, by decide +kernel, by decide⟩
theorem ml_X4_88 : am_ML RX4 88 yX4_readDigit mt_X4_readDigit 1 := ⟨am_t3 (i := 24) rfl rfl, am_t3 (i := 27) rfl rfl, am_t1 (i := 5) rfl rfl, ⟨by decide, by decide⟩, by decide +kernel, by decide⟩
theorem ml_X4_92 : am_ML RX4 92 yX4_close mt_X4_close 0 := ⟨am_t3 (i := 28) rfl rfl, am_t3 (i := 31) rfl rfl, am_t1 (i := 5) rfl rfl, ⟨by decide, by decide⟩, by decide +kernel, by decide⟩
theorem ml_X4_96 : am_ML RX4 96 yX4_bindingOf mt_X4_bindingOf 1 := ⟨am_t3 (i := 36) rfl rfl, am_t3 (i := 38) rfl rfl, am_t1 (i := 5) rfl rfl, ⟨by decide, by decide⟩, by decide +kernel, by decide⟩
theorem ml_X4_99 : am_ML RX4 99 yJ9_max_7cf53 mt_J9_max_7cf53 2 := ⟨am_t3 (i := 39) rfl rfl, am_t2 (i := 22) rfl rfl, am_t1 (i := 11) rfl rfl, ⟨by decide, by decide⟩, by decide +kernel, by decide⟩
theorem ml_X4_102 : am_ML RX4 102 yX4_join mt_X4_join 3 := ⟨am_t3 (i := 98) rfl rfl, am_t3 (i := 100) rfl rfl, am_t1 (i := 5) rfl rfl, ⟨by decide, by decide⟩, by decide +kernel, by decide⟩
theorem ml_X6_44 : am_ML RX6 44 yJ9_min_7cf53 mt_J9_min_7cf53 2 := ⟨am_t2 (i := 143) rfl rfl, am_t2 (i := 19) rfl rfl, am_t1 (i := 11) rfl rfl, ⟨by decide, by decide⟩, by decide +kernel, by decide⟩
theorem ml_X6_50 : am_ML RX6 50 yX7_digit mt_X7_digit 1 := ⟨am_t2 (i := 144) rfl rfl, am_t2 (i := 134) rfl rfl, am_t1 (i := 2) rfl rfl, ⟨by decide, by decide⟩, by decide +kernel, by decide⟩
theorem ml_X6_57 : am_ML RX6 57 yX6_songOn mt_X6_songOn 1 := ⟨am_t3 (i := 89) rfl rfl, am_t3 (i := 47) rfl rfl, am_t1 (i := 4) rfl rfl, ⟨by decide, by decide⟩, by decide +kernel, by decide⟩
theorem ml_X6_60 : am_ML RX6 60 yX4_answer mt_X4_answer 0 := ⟨am_t3 (i := 94) rfl rfl, am_t3 (i := 97) rfl rfl, am_t1 (i := 5) rfl rfl, ⟨by decide, by decide⟩, by decide +kernel, by decide⟩
theorem ml_X6_64 (G : am_G) : am_NL G RX6 64 yX8_put "HeldInTrust" mt_X8_put 3 := ⟨fun s h => h.2.2.2.2.1, am_t2 (i := 16) rfl rfl, am_t1 (i := 1) rfl rfl, ⟨by decide, by decide⟩, by decide +kernel, by decide⟩
theorem ml_X6_68 : am_ML RX6 68 yJ6_bitCount_0f7a4 mt_J6_bitCount_0f7a4 1 := ⟨am_t3 (i := 83) rfl rfl, am_t3 (i := 85) rfl rfl, am_t1 (i := 21) rfl rfl, ⟨by decide, by decide⟩, by decide +kernel, by decide⟩
theorem ml_X6_90 : am_ML RX6 90 yX6_may mt_X6_may 5 := ⟨am_t3 (i := 90) rfl rfl, am_t3 (i := 93) rfl rfl, am_t1 (i := 4) rfl rfl, ⟨by decide, by decide⟩, by decide +kernel, by decide⟩
theorem ml_X6_97 : am_ML RX6 97 yX6_part mt_X6_part 3 := ⟨am_t3 (i := 79) rfl rfl, am_t3 (i := 82) rfl rfl, am_t1 (i := 4) rfl rfl, ⟨by decide, by decide⟩, by decide +kernel, by decide⟩
theorem ml_X6_101 : am_ML RX6 101 yX0_hear mt_X0_hear 2 := ⟨am_t3 (i := 102) rfl rfl, am_t3 (i := 105) rfl rfl, am_t1 (i := 7) rfl rfl, ⟨by decide, by decide⟩, by decide +kernel, by decide⟩
theorem ml_X6_105 : am_ML RX6 105 yX0_earn mt_X0_earn 1 := ⟨am_t3 (i := 107) rfl rfl, am_t3 (i := 110) rfl rfl, am_t1 (i := 7) rfl rfl, ⟨by decide, by decide⟩, by decide +kernel, by decide⟩
theorem ml_X6_118 (G : am_G) : am_NL G RX6 118 yX8_grown "HeldInTrust" mt_X8_grown 2 := ⟨fun s h => h.2.2.2.2.2, am_t3 (i := 113) rfl rfl, am_t1 (i := 1) rfl rfl, ⟨by decide, by decide⟩, by decide +kernel, by decide⟩
theorem ml_X7_19 : am_ML RX7 19 yX7_at mt_X7_at 1 := ⟨am_t2 (i := 135) rfl rfl, am_t2 (i := 138) rfl rfl, am_t1 (i := 2) rfl rfl, ⟨by decide, by decide⟩, by decide +kernel, by decide⟩
theorem ml_L_7 : am_ML RL 7 yX8_hearer mt_X8_hearer 2 := ⟨am_t5 (i := 11) rfl rfl, am_t5 (i := 14) rfl rfl, am_t1 (i := 1) rfl rfl, ⟨by decide, by decide⟩, by decide +kernel, by decide⟩
theorem ml_L_15 : am_ML RL 15 yX8_row mt_X8_row 1 := ⟨am_t5 (i := 79) rfl rfl, am_t5 (i := 82) rfl rfl, am_t1 (i := 1) rfl rfl, ⟨by decide, by decide⟩, by decide +kernel, by decide⟩
theorem ml_L_23 : am_ML RL 23 yX8_sign mt_X8_sign 1 := ⟨am_t2 (i := 111) rfl rfl, am_t2 (i := 114) rfl rfl, am_t1 (i := 1) rfl rfl, ⟨by decide, by decide⟩, by decide +kernel, by decide⟩
theorem ml_L_27 : am_ML RL 27 yX9_sign mt_X9_sign 1 := ⟨am_t6 (i := 8) rfl rfl, am_t6 (i := 11) rfl rfl, am_t1 (i := 12) rfl rfl, ⟨by decide, by decide⟩, by decide +kernel, by decide⟩
theorem ml_L_28 : am_ML RL 28 yX8_end mt_X8_end 1 := ⟨am_t2 (i := 119) rfl rfl, am_t2 (i := 122) rfl rfl, am_t1 (i := 1) rfl rfl, ⟨by decide, by decide⟩, by decide +kernel, by decide⟩
theorem ml_L_32 : am_ML RL 32 yX9_end mt_X9_end 1 := ⟨am_t6 (i := 12) rfl rfl, am_t6 (i := 15) rfl rfl, am_t1 (i := 12) rfl rfl, ⟨by decide, by decide⟩, by decide +kernel, by decide⟩
theorem ml_L_33 : am_ML RL 33 yX8_songs mt_X8_songs 0 := ⟨am_t2 (i := 123) rfl rfl, am_t2 (i := 126) rfl rfl, am_t1 (i := 1) rfl rfl, ⟨by decide, by decide⟩, by decide +kernel, by decide⟩
theorem ml_L_37 : am_ML RL 37 yX9_songs mt_X9_songs 0 := ⟨am_t6 (i := 19) rfl rfl, am_t6 (i := 22) rfl rfl, am_t1 (i := 12) rfl rfl, ⟨by decide, by decide⟩, by decide +kernel, by decide⟩
theorem ml_L_38 : am_ML RL 38 yX8_hearers mt_X8_hearers 0 := ⟨am_t2 (i := 145) rfl rfl, am_t2 (i := 148) rfl rfl, am_t1 (i := 1) rfl rfl, ⟨by decide, by decide⟩, by decide +kernel, by decide⟩
theorem ml_L_41 : am_ML RL 41 yX9_hearers mt_X9_hearers 0 := ⟨am_t6 (i := 51) rfl rfl, am_t6 (i := 54) rfl rfl, am_t1 (i := 12) rfl rfl, ⟨by decide, by decide⟩, by decide +kernel, by decide⟩
theorem ml_L_42 : am_ML RL 42 yX8_rule mt_X8_rule 0 := ⟨am_t2 (i := 236) rfl rfl, am_t2 (i := 239) rfl rfl, am_t1 (i := 1) rfl rfl, ⟨by decide, by decide⟩, by decide +kernel, by decide⟩
theorem ml_L_45 : am_ML RL 45 yX9_rule mt_X9_rule 0 := ⟨am_t6 (i := 66) rfl rfl, am_t6 (i := 69) rfl rfl, am_t1 (i := 12) rfl rfl, ⟨by decide, by decide⟩, by decide +kernel, by decide⟩
theorem ml_L_51 : am_ML RL 51 yX9_hearer mt_X9_hearer 2 := ⟨am_t6 (i := 101) rfl rfl, am_t6 (i := 104) rfl rfl, am_t1 (i := 12) rfl rfl, ⟨by decide, by decide⟩, by decide +kernel, by decide⟩
theorem ml_L_52 : am_ML RL 52 yX9_thrown mt_X9_thrown 0 := ⟨am_t6 (i := 4) rfl rfl, am_t6 (i := 7) rfl rfl, am_t1 (i := 12) rfl rfl, ⟨by decide, by decide⟩, by decide +kernel, by decide⟩
theorem ml_L_55 : am_ML RL 55 yX8_worth mt_X8_worth 1 := ⟨am_t3 (i := 40) rfl rfl, am_t3 (i := 43) rfl rfl, am_t1 (i := 1) rfl rfl, ⟨by decide, by decide⟩, by decide +kernel, by decide⟩
theorem ml_L_58 : am_ML RL 58 yX9_worth mt_X9_worth 1 := ⟨am_t6 (i := 128) rfl rfl, am_t6 (i := 131) rfl rfl, am_t1 (i := 12) rfl rfl, ⟨by decide, by decide⟩, by decide +kernel, by decide⟩
theorem ml_L_59 : am_ML RL 59 yX8_sheet mt_X8_sheet 4 := ⟨am_t3 (i := 48) rfl rfl, am_t3 (i := 51) rfl rfl, am_t1 (i := 1) rfl rfl, ⟨by decide, by decide⟩, by decide +kernel, by decide⟩
theorem ml_L_63 : am_ML RL 63 yX9_sheet mt_X9_sheet 4 := ⟨am_t6 (i := 132) rfl rfl, am_t6 (i := 135) rfl rfl, am_t1 (i := 12) rfl rfl, ⟨by decide, by decide⟩, by decide +kernel, by decide⟩
theorem ml_L_64 : am_ML RL 64 yX8_nights mt_X8_nights 1 := ⟨am_t3 (i := 60) rfl rfl, am_t3 (i := 63) rfl rfl, am_t1 (i := 1) rfl rfl, ⟨by decide, by decide⟩, by decide +kernel, by decide⟩
theorem ml_L_67 : am_ML RL 67 yX9_nights mt_X9_nights 1 := ⟨am_t6 (i := 140) rfl rfl, am_t6 (i := 143) rfl rfl, am_t1 (i := 12) rfl rfl, ⟨by decide, by decide⟩, by decide +kernel, by decide⟩
theorem ml_L_68 : am_ML RL 68 yX8_comes mt_X8_comes 1 := ⟨am_t3 (i := 131) rfl rfl, am_t3 (i := 134) rfl rfl, am_t1 (i := 1) rfl rfl, ⟨by decide, by decide⟩, by decide +kernel, by decide⟩
theorem ml_L_71 : am_ML RL 71 yX9_comes mt_X9_comes 1 := ⟨am_t6 (i := 170) rfl rfl, am_t6 (i := 173) rfl rfl, am_t1 (i := 12) rfl rfl, ⟨by decide, by decide⟩, by decide +kernel, by decide⟩
theorem ml_L_72 : am_ML RL 72 yX8_hum mt_X8_hum 2 := ⟨am_t3 (i := 148) rfl rfl, am_t3 (i := 151) rfl rfl, am_t1 (i := 1) rfl rfl, ⟨by decide, by decide⟩, by decide +kernel, by decide⟩
theorem ml_L_75 : am_ML RL 75 yX9_hum mt_X9_hum 2 := ⟨am_t6 (i := 174) rfl rfl, am_t6 (i := 177) rfl rfl, am_t1 (i := 12) rfl rfl, ⟨by decide, by decide⟩, by decide +kernel, by decide⟩
theorem ml_L_76 : am_ML RL 76 yX8_stake mt_X8_stake 1 := ⟨am_t3 (i := 158) rfl rfl, am_t3 (i := 161) rfl rfl, am_t1 (i := 1) rfl rfl, ⟨by decide, by decide⟩, by decide +kernel, by decide⟩
theorem ml_L_79 : am_ML RL 79 yX9_stake mt_X9_stake 1 := ⟨am_t6 (i := 186) rfl rfl, am_t6 (i := 189) rfl rfl, am_t1 (i := 12) rfl rfl, ⟨by decide, by decide⟩, by decide +kernel, by decide⟩
theorem ml_L_80 : am_ML RL 80 yX8_gain mt_X8_gain 1 := ⟨am_t3 (i := 166) rfl rfl, am_t3 (i := 169) rfl rfl, am_t1 (i := 1) rfl rfl, ⟨by decide, by decide⟩, by decide +kernel, by decide⟩
theorem ml_L_83 : am_ML RL 83 yX9_gain mt_X9_gain 1 := ⟨am_t6 (i := 198) rfl rfl, am_t6 (i := 201) rfl rfl, am_t1 (i := 12) rfl rfl, ⟨by decide, by decide⟩, by decide +kernel, by decide⟩
theorem ml_L_84 : am_ML RL 84 yX8_advance mt_X8_advance 1 := ⟨am_t3 (i := 170) rfl rfl, am_t3 (i := 173) rfl rfl, am_t1 (i := 1) rfl rfl, ⟨by decide, by decide⟩, by decide +kernel, by decide⟩
theorem ml_L_87 : am_ML RL 87 yX9_advance mt_X9_advance 1 := ⟨am_t6 (i := 202) rfl rfl, am_t6 (i := 205) rfl rfl, am_t1 (i := 12) rfl rfl, ⟨by decide, by decide⟩, by decide +kernel, by decide⟩
theorem ml_L_88 : am_ML RL 88 yX8_spring mt_X8_spring 0 := ⟨am_t3 (i := 178) rfl rfl, am_t3 (i := 181) rfl rfl, am_t1 (i := 1) rfl rfl, ⟨by decide, by decide⟩, by decide +kernel, by decide⟩
theorem ml_L_91 : am_ML RL 91 yX9_spring mt_X9_spring 0 := ⟨am_t6 (i := 210) rfl rfl, am_t6 (i := 213) rfl rfl, am_t1 (i := 12) rfl rfl, ⟨by decide, by decide⟩, by decide +kernel, by decide⟩
theorem ml_L_92 : am_ML RL 92 yX8_undo mt_X8_undo 0 := ⟨am_t3 (i := 196) rfl rfl, am_t3 (i := 199) rfl rfl, am_t1 (i := 1) rfl rfl, ⟨by decide, by decide⟩, by decide +kernel, by decide⟩
theorem ml_L_95 : am_ML RL 95 yX9_undo mt_X9_undo 0 := ⟨am_t6 (i := 222) rfl rfl, am_t6 (i := 225) rfl rfl, am_t1 (i := 12) rfl rfl, ⟨by decide, by decide⟩, by decide +kernel, by decide⟩
theorem ml_L_96 : am_ML RL 96 yX8_tonight mt_X8_tonight 0 := ⟨am_t3 (i := 204) rfl rfl, am_t3 (i := 207) rfl rfl, am_t1 (i := 1) rfl rfl, ⟨by decide, by decide⟩, by decide +kernel, by decide⟩
theorem ml_L_99 : am_ML RL 99 yX9_tonight mt_X9_tonight 0 := ⟨am_t6 (i := 226) rfl rfl, am_t6 (i := 229) rfl rfl, am_t1 (i := 12) rfl rfl, ⟨by decide, by decide⟩, by decide +kernel, by decide⟩
theorem ml_L_100 : am_ML RL 100 yX8_later mt_X8_later 1 := ⟨am_t3 (i := 209) rfl rfl, am_t3 (i := 212) rfl rfl, am_t1 (i := 1) rfl rfl, ⟨by decide, by decide⟩, by decide +kernel, by decide⟩
theorem ml_L_103 : am_ML RL 103 yX9_later mt_X9_later 1 := ⟨am_t6 (i := 230) rfl rfl, am_t6 (i := 233) rfl rfl, am_t1 (i := 12) rfl rfl, ⟨by decide, by decide⟩, by decide +kernel, by decide⟩
theorem ml_L_104 : am_ML RL 104 yX8_enough mt_X8_enough 1 := ⟨am_t3 (i := 217) rfl rfl, am_t3 (i := 220) rfl rfl, am_t1 (i := 1) rfl rfl, ⟨by decide, by decide⟩, by decide +kernel, by decide⟩
theorem ml_L_107 : am_ML RL 107 yX9_enough mt_X9_enough 1 := ⟨am_t6 (i := 234) rfl rfl, am_t6 (i := 237) rfl rfl, am_t1 (i := 12) rfl rfl, ⟨by decide, by decide⟩, by decide +kernel, by decide⟩
theorem ml_L_108 : am_ML RL 108 yX8_drains mt_X8_drains 0 := ⟨am_t3 (i := 225) rfl rfl, am_t3 (i := 228) rfl rfl, am_t1 (i := 1) rfl rfl, ⟨by decide, by decide⟩, by decide +kernel, by decide⟩
theorem ml_L_111 : am_ML RL 111 yX9_drains mt_X9_drains 0 := ⟨am_t7 (i := 6) rfl rfl, am_t7 (i := 9) rfl rfl, am_t1 (i := 12) rfl rfl, ⟨by decide, by decide⟩, by decide +kernel, by decide⟩
theorem ml_L_112 : am_ML RL 112 yX8_hears mt_X8_hears 2 := ⟨am_t3 (i := 229) rfl rfl, am_t3 (i := 232) rfl rfl, am_t1 (i := 1) rfl rfl, ⟨by decide, by decide⟩, by decide +kernel, by decide⟩
theorem ml_L_115 : am_ML RL 115 yX9_hears mt_X9_hears 2 := ⟨am_t6 (i := 238) rfl rfl, am_t7 (i := 1) rfl rfl, am_t1 (i := 12) rfl rfl, ⟨by decide, by decide⟩, by decide +kernel, by decide⟩
theorem ml_L_116 : am_ML RL 116 yX8_quiet mt_X8_quiet 1 := ⟨am_t3 (i := 233) rfl rfl, am_t3 (i := 236) rfl rfl, am_t1 (i := 1) rfl rfl, ⟨by decide, by decide⟩, by decide +kernel, by decide⟩
theorem ml_L_119 : am_ML RL 119 yX9_quiet mt_X9_quiet 1 := ⟨am_t7 (i := 2) rfl rfl, am_t7 (i := 5) rfl rfl, am_t1 (i := 12) rfl rfl, ⟨by decide, by decide⟩, by decide +kernel, by decide⟩
theorem ml_L_120 : am_ML RL 120 yX8_admits mt_X8_admits 1 := ⟨am_t3 (i := 237) rfl rfl, am_t4 (i := 0) rfl rfl, am_t1 (i := 1) rfl rfl, ⟨by decide, by decide⟩, by decide +kernel, by decide⟩
theorem ml_L_123 : am_ML RL 123 yX9_admits mt_X9_admits 1 := ⟨am_t7 (i := 11) rfl rfl, am_t7 (i := 14) rfl rfl, am_t1 (i := 12) rfl rfl, ⟨by decide, by decide⟩, by decide +kernel, by decide⟩
theorem ml_L_124 : am_ML RL 124 yX8_plans mt_X8_plans 1 := ⟨am_t4 (i := 17) rfl rfl, am_t4 (i := 20) rfl rfl, am_t1 (i := 1) rfl rfl, ⟨by decide, by decide⟩, by decide +kernel, by decide⟩
theorem ml_L_127 : am_ML RL 127 yX9_plans mt_X9_plans 1 := ⟨am_t7 (i := 19) rfl rfl, am_t7 (i := 22) rfl rfl, am_t1 (i := 12) rfl rfl, ⟨by decide, by decide⟩, by decide +kernel, by decide⟩
theorem ml_L_128 : am_ML RL 128 yX8_fills mt_X8_fills 0 := ⟨am_t4 (i := 38) rfl rfl, am_t4 (i := 41) rfl rfl, am_t1 (i := 1) rfl rfl, ⟨by decide, by decide⟩, by decide +kernel, by decide⟩
theorem ml_L_131 : am_ML RL 131 yX9_fills mt_X9_fills 0 := ⟨am_t7 (i := 23) rfl rfl, am_t7 (i := 26) rfl rfl, am_t1 (i := 12) rfl rfl, ⟨by decide, by decide⟩, by decide +kernel, by decide⟩
theorem ml_L_132 : am_ML RL 132 yX8_order mt_X8_order 0 := ⟨am_t4 (i := 42) rfl rfl, am_t4 (i := 45) rfl rfl, am_t1 (i := 1) rfl rfl, ⟨by decide, by decide⟩, by decide +kernel, by decide⟩
theorem ml_L_135 : am_ML RL 135 yX9_order mt_X9_order 0 := ⟨am_t7 (i := 27) rfl rfl, am_t7 (i := 30) rfl rfl, am_t1 (i := 12) rfl rfl, ⟨by decide, by decide⟩, by decide +kernel, by decide⟩
theorem ml_L_136 : am_ML RL 136 yX8_raises mt_X8_raises 1 := ⟨am_t4 (i := 57) rfl rfl, am_t4 (i := 60) rfl rfl, am_t1 (i := 1) rfl rfl, ⟨by decide, by decide⟩, by decide +kernel, by decide⟩
theorem ml_L_139 : am_ML RL 139 yX9_raises mt_X9_raises 1 := ⟨am_t7 (i := 59) rfl rfl, am_t7 (i := 62) rfl rfl, am_t1 (i := 12) rfl rfl, ⟨by decide, by decide⟩, by decide +kernel, by decide⟩
theorem ml_L_140 : am_ML RL 140 yX8_grows mt_X8_grows 2 := ⟨am_t4 (i := 62) rfl rfl, am_t4 (i := 65) rfl rfl, am_t1 (i := 1) rfl rfl, ⟨by decide, by decide⟩, by decide +kernel, by decide⟩
theorem ml_L_143 : am_ML RL 143 yX9_grows mt_X9_grows 2 := ⟨am_t7 (i := 64) rfl rfl, am_t7 (i := 67) rfl rfl, am_t1 (i := 12) rfl rfl, ⟨by decide, by decide⟩, by decide +kernel, by decide⟩
theorem ml_L_144 : am_ML RL 144 yX8_adds mt_X8_adds 1 := ⟨am_t4 (i := 67) rfl rfl, am_t4 (i := 70) rfl rfl, am_t1 (i := 1) rfl rfl, ⟨by decide, by decide⟩, by decide +kernel, by decide⟩
theorem ml_L_147 : am_ML RL 147 yX9_adds mt_X9_adds 1 := ⟨am_t7 (i := 38) rfl rfl, am_t7 (i := 41) rfl rfl, am_t1 (i := 12) rfl rfl, ⟨by decide, by decide⟩, by decide +kernel, by decide⟩
theorem ml_L_148 : am_ML RL 148 yX8_nearest mt_X8_nearest 1 := ⟨am_t4 (i := 75) rfl rfl, am_t4 (i := 78) rfl rfl, am_t1 (i := 1) rfl rfl, ⟨by decide, by decide⟩, by decide +kernel, by decide⟩
theorem ml_L_151 : am_ML RL 151 yX9_nearest mt_X9_nearest 1 := ⟨am_t7 (i := 46) rfl rfl, am_t7 (i := 49) rfl rfl, am_t1 (i := 12) rfl rfl, ⟨by decide, by decide⟩, by decide +kernel, by decide⟩
theorem ml_L_152 : am_ML RL 152 yX8_awards mt_X8_awards 1 := ⟨am_t4 (i := 85) rfl rfl, am_t4 (i := 88) rfl rfl, am_t1 (i := 1) rfl rfl, ⟨by decide, by decide⟩, by decide +kernel, by decide⟩
theorem ml_L_155 : am_ML RL 155 yX9_awards mt_X9_awards 1 := ⟨am_t7 (i := 51) rfl rfl, am_t7 (i := 54) rfl rfl, am_t1 (i := 12) rfl rfl, ⟨by decide, by decide⟩, by decide +kernel, by decide⟩
theorem ml_L_156 : am_ML RL 156 yX8_envy mt_X8_envy 0 := ⟨am_t4 (i := 93) rfl rfl, am_t4 (i := 96) rfl rfl, am_t1 (i := 1) rfl rfl, ⟨by decide, by decide⟩, by decide +kernel, by decide⟩
theorem ml_L_159 : am_ML RL 159 yX9_envy mt_X9_envy 0 := ⟨am_t7 (i := 55) rfl rfl, am_t7 (i := 58) rfl rfl, am_t1 (i := 12) rfl rfl, ⟨by decide, by decide⟩, by decide +kernel, by decide⟩
theorem ml_L_160 : am_ML RL 160 yX8_bold mt_X8_bold 4 := ⟨am_t4 (i := 97) rfl rfl, am_t4 (i := 100) rfl rfl, am_t1 (i := 1) rfl rfl, ⟨by decide, by decide⟩, by decide +kernel, by decide⟩
theorem ml_L_163 : am_ML RL 163 yX9_bold mt_X9_bold 4 := ⟨am_t7 (i := 68) rfl rfl, am_t7 (i := 71) rfl rfl, am_t1 (i := 12) rfl rfl, ⟨by decide, by decide⟩, by decide +kernel, by decide⟩
theorem ml_L_164 : am_ML RL 164 yX8_notes mt_X8_notes 3 := ⟨am_t4 (i := 118) rfl rfl, am_t4 (i := 121) rfl rfl, am_t1 (i := 1) rfl rfl, ⟨by decide, by decide⟩, by decide +kernel, by decide⟩
theorem ml_L_168 : am_ML RL 168 yX9_notes mt_X9_notes 3 := ⟨am_t7 (i := 94) rfl rfl, am_t7 (i := 97) rfl rfl, am_t1 (i := 12) rfl rfl, ⟨by decide, by decide⟩, by decide +kernel, by decide⟩
theorem ml_L_169 : am_ML RL 169 yX8_look mt_X8_look 2 := ⟨am_t4 (i := 129) rfl rfl, am_t4 (i := 132) rfl rfl, am_t1 (i := 1) rfl rfl, ⟨by decide, by decide⟩, by decide +kernel, by decide⟩
theorem ml_L_172 : am_ML RL 172 yX9_look mt_X9_look 2 := ⟨am_t7 (i := 98) rfl rfl, am_t7 (i := 101) rfl rfl, am_t1 (i := 12) rfl rfl, ⟨by decide, by decide⟩, by decide +kernel, by decide⟩
theorem ml_L_173 : am_ML RL 173 yX8_forget mt_X8_forget 0 := ⟨am_t4 (i := 137) rfl rfl, am_t4 (i := 140) rfl rfl, am_t1 (i := 1) rfl rfl, ⟨by decide, by decide⟩, by decide +kernel, by decide⟩
theorem ml_L_176 : am_ML RL 176 yX9_forget mt_X9_forget 0 := ⟨am_t7 (i := 102) rfl rfl, am_t7 (i := 105) rfl rfl, am_t1 (i := 12) rfl rfl, ⟨by decide, by decide⟩, by decide +kernel, by decide⟩
theorem ml_L_177 : am_ML RL 177 yX8_laws mt_X8_laws 0 := ⟨am_t4 (i := 141) rfl rfl, am_t4 (i := 144) rfl rfl, am_t1 (i := 1) rfl rfl, ⟨by decide, by decide⟩, by decide +kernel, by decide⟩
theorem ml_L_180 : am_ML RL 180 yX9_laws mt_X9_laws 0 := ⟨am_t7 (i := 106) rfl rfl, am_t7 (i := 109) rfl rfl, am_t1 (i := 12) rfl rfl, ⟨by decide, by decide⟩, by decide +kernel, by decide⟩
theorem ml_L_181 : am_ML RL 181 yX8_sure mt_X8_sure 0 := ⟨am_t4 (i := 152) rfl rfl, am_t4 (i := 155) rfl rfl, am_t1 (i := 1) rfl rfl, ⟨by decide, by decide⟩, by decide +kernel, by decide⟩
theorem ml_L_184 : am_ML RL 184 yX9_sure mt_X9_sure 0 := ⟨am_t7 (i := 114) rfl rfl, am_t7 (i := 117) rfl rfl, am_t1 (i := 12) rfl rfl, ⟨by decide, by decide⟩, by decide +kernel, by decide⟩
theorem ml_L_185 : am_ML RL 185 yX8_tries mt_X8_tries 0 := ⟨am_t4 (i := 160) rfl rfl, am_t4 (i := 163) rfl rfl, am_t1 (i := 1) rfl rfl, ⟨by decide, by decide⟩, by decide +kernel, by decide⟩
theorem ml_L_188 : am_ML RL 188 yX9_tries mt_X9_tries 0 := ⟨am_t7 (i := 122) rfl rfl, am_t7 (i := 125) rfl rfl, am_t1 (i := 12) rfl rfl, ⟨by decide, by decide⟩, by decide +kernel, by decide⟩
theorem ml_L_189 : am_ML RL 189 yX8_sings mt_X8_sings 3 := ⟨am_t4 (i := 164) rfl rfl, am_t4 (i := 167) rfl rfl, am_t1 (i := 1) rfl rfl, ⟨by decide, by decide⟩, by decide +kernel, by decide⟩
theorem ml_L_192 : am_ML RL 192 yX9_sings mt_X9_sings 3 := ⟨am_t7 (i := 126) rfl rfl, am_t7 (i := 129) rfl rfl, am_t1 (i := 12) rfl rfl, ⟨by decide, by decide⟩, by decide +kernel, by decide⟩
theorem ml_L_193 : am_ML RL 193 yX8_counts mt_X8_counts 3 := ⟨am_t4 (i := 172) rfl rfl, am_t4 (i := 175) rfl rfl, am_t1 (i := 1) rfl rfl, ⟨by decide, by decide⟩, by decide +kernel, by decide⟩
theorem ml_L_196 : am_ML RL 196 yX9_counts mt_X9_counts 3 := ⟨am_t7 (i := 138) rfl rfl, am_t7 (i := 141) rfl rfl, am_t1 (i := 12) rfl rfl, ⟨by decide, by decide⟩, by decide +kernel, by decide⟩
theorem ml_L_197 : am_ML RL 197 yX8_told mt_X8_told 2 := ⟨am_t4 (i := 177) rfl rfl, am_t4 (i := 180) rfl rfl, am_t1 (i := 1) rfl rfl, ⟨by decide, by decide⟩, by decide +kernel, by decide⟩
theorem ml_L_200 : am_ML RL 200 yX9_told mt_X9_told 2 := ⟨am_t7 (i := 143) rfl rfl, am_t7 (i := 146) rfl rfl, am_t1 (i := 12) rfl rfl, ⟨by decide, by decide⟩, by decide +kernel, by decide⟩
theorem ml_L_201 : am_ML RL 201 yX8_deny mt_X8_deny 0 := ⟨am_t4 (i := 184) rfl rfl, am_t4 (i := 187) rfl rfl, am_t1 (i := 1) rfl rfl, ⟨by decide, by decide⟩, by decide +kernel, by decide⟩
theorem ml_L_204 : am_ML RL 204 yX9_deny mt_X9_deny 0 := ⟨am_t7 (i := 147) rfl rfl, am_t7 (i := 150) rfl rfl, am_t1 (i := 12) rfl rfl, ⟨by decide, by decide⟩, by decide +kernel, by decide⟩
theorem ml_L_205 : am_ML RL 205 yX8_fits mt_X8_fits 0 := ⟨am_t4 (i := 188) rfl rfl, am_t4 (i := 191) rfl rfl, am_t1 (i := 1) rfl rfl, ⟨by decide, by decide⟩, by decide +kernel, by decide⟩
theorem ml_L_208 : am_ML RL 208 yX9_fits_ mt_X9_fits_ 0 := ⟨am_t7 (i := 151) rfl rfl, am_t7 (i := 154) rfl rfl, am_t1 (i := 12) rfl rfl, ⟨by decide, by decide⟩, by decide +kernel, by decide⟩
theorem ml_L_209 : am_ML RL 209 yX8_ask mt_X8_ask 0 := ⟨am_t4 (i := 200) rfl rfl, am_t4 (i := 203) rfl rfl, am_t1 (i := 1) rfl rfl, ⟨by decide, by decide⟩, by decide +kernel, by decide⟩
theorem ml_L_212 : am_ML RL 212 yX9_ask mt_X9_ask 0 := ⟨am_t7 (i := 163) rfl rfl, am_t7 (i := 166) rfl rfl, am_t1 (i := 12) rfl rfl, ⟨by decide, by decide⟩, by decide +kernel, by decide⟩
theorem ml_L_213 : am_ML RL 213 yX8_rests mt_X8_rests 3 := ⟨am_t4 (i := 204) rfl rfl, am_t4 (i := 207) rfl rfl, am_t1 (i := 1) rfl rfl, ⟨by decide, by decide⟩, by decide +kernel, by decide⟩
theorem ml_L_216 : am_ML RL 216 yX9_rests mt_X9_rests 3 := ⟨am_t7 (i := 167) rfl rfl, am_t7 (i := 170) rfl rfl, am_t1 (i := 12) rfl rfl, ⟨by decide, by decide⟩, by decide +kernel, by decide⟩
theorem ml_L_217 : am_ML RL 217 yX8_law mt_X8_law 0 := ⟨am_t4 (i := 214) rfl rfl, am_t4 (i := 217) rfl rfl, am_t1 (i := 1) rfl rfl, ⟨by decide, by decide⟩, by decide +kernel, by decide⟩
theorem ml_L_220 : am_ML RL 220 yX9_law mt_X9_law 0 := ⟨am_t7 (i := 177) rfl rfl, am_t7 (i := 180) rfl rfl, am_t1 (i := 12) rfl rfl, ⟨by decide, by decide⟩, by decide +kernel, by decide⟩
theorem ml_L_221 : am_ML RL 221 yX8_years mt_X8_years 2 := ⟨am_t4 (i := 218) rfl rfl, am_t4 (i := 221) rfl rfl, am_t1 (i := 1) rfl rfl, ⟨by decide, by decide⟩, by decide +kernel, by decide⟩
theorem ml_L_224 : am_ML RL 224 yX9_years mt_X9_years 2 := ⟨am_t7 (i := 185) rfl rfl, am_t7 (i := 188) rfl rfl, am_t1 (i := 12) rfl rfl, ⟨by decide, by decide⟩, by decide +kernel, by decide⟩
theorem ml_L_225 : am_ML RL 225 yX8_keep mt_X8_keep 1 := ⟨am_t4 (i := 231) rfl rfl, am_t4 (i := 234) rfl rfl, am_t1 (i := 1) rfl rfl, ⟨by decide, by decide⟩, by decide +kernel, by decide⟩
theorem ml_L_228 : am_ML RL 228 yX9_keep mt_X9_keep 1 := ⟨am_t7 (i := 194) rfl rfl, am_t7 (i := 197) rfl rfl, am_t1 (i := 12) rfl rfl, ⟨by decide, by decide⟩, by decide +kernel, by decide⟩
theorem ml_L_229 : am_ML RL 229 yX8_again mt_X8_again 1 := ⟨am_t4 (i := 235) rfl rfl, am_t4 (i := 238) rfl rfl, am_t1 (i := 1) rfl rfl, ⟨by decide, by decide⟩, by decide +kernel, by decide⟩
theorem ml_L_232 : am_ML RL 232 yX9_again mt_X9_again 1 := ⟨am_t7 (i := 198) rfl rfl, am_t7 (i := 201) rfl rfl, am_t1 (i := 12) rfl rfl, ⟨by decide, by decide⟩, by decide +kernel, by decide⟩
theorem ml_L_233 : am_ML RL 233 yX8_count mt_X8_count 1 := ⟨am_t4 (i := 239) rfl rfl, am_t5 (i := 2) rfl rfl, am_t1 (i := 1) rfl rfl, ⟨by decide, by decide⟩, by decide +kernel, by decide⟩
theorem ml_L_236 : am_ML RL 236 yX9_count mt_X9_count 1 := ⟨am_t7 (i := 202) rfl rfl, am_t7 (i := 205) rfl rfl, am_t1 (i := 12) rfl rfl, ⟨by decide, by decide⟩, by decide +kernel, by decide⟩
theorem ml_L_240 : am_ML RL 240 yX9_row mt_X9_row 1 := ⟨am_t7 (i := 210) rfl rfl, am_t7 (i := 213) rfl rfl, am_t1 (i := 12) rfl rfl, ⟨by decide, by decide⟩, by decide +kernel, by decide⟩
theorem ml_X9_116 : am_ML RX9 116 yX9_in mt_X9_in 3 := ⟨am_t6 (i := 16) rfl rfl, am_t6 (i := 18) rfl rfl, am_t1 (i := 12) rfl rfl, ⟨by decide, by decide⟩, by decide +kernel, by decide⟩
theorem ml_X9_138 : am_ML RX9 138 yX9_begin mt_X9_begin 3 := ⟨am_t6 (i := 27) rfl rfl, am_t6 (i := 30) rfl rfl, am_t1 (i := 12) rfl rfl, ⟨by decide, by decide⟩, by decide +kernel, by decide⟩
theorem ml_X9_142 : am_ML RX9 142 yX9_fine mt_X9_fine 0 := ⟨am_t6 (i := 31) rfl rfl, am_t6 (i := 34) rfl rfl, am_t1 (i := 12) rfl rfl, ⟨by decide, by decide⟩, by decide +kernel, by decide⟩
theorem ml_X9_146 : am_ML RX9 146 yX9_here mt_X9_here 0 := ⟨am_t6 (i := 35) rfl rfl, am_t6 (i := 38) rfl rfl, am_t1 (i := 12) rfl rfl, ⟨by decide, by decide⟩, by decide +kernel, by decide⟩
theorem ml_X9_150 : am_ML RX9 150 yX9_passes mt_X9_passes 1 := ⟨am_t6 (i := 62) rfl rfl, am_t6 (i := 65) rfl rfl, am_t1 (i := 12) rfl rfl, ⟨by decide, by decide⟩, by decide +kernel, by decide⟩
theorem ml_X9_154 : am_ML RX9 154 yX9_fault mt_X9_fault 1 := ⟨am_t6 (i := 43) rfl rfl, am_t6 (i := 46) rfl rfl, am_t1 (i := 12) rfl rfl, ⟨by decide, by decide⟩, by decide +kernel, by decide⟩
theorem ml_X9_158 : am_ML RX9 158 yX9_oneOf mt_X9_oneOf 2 := ⟨am_t6 (i := 39) rfl rfl, am_t6 (i := 42) rfl rfl, am_t1 (i := 12) rfl rfl, ⟨by decide, by decide⟩, by decide +kernel, by decide⟩
theorem ml_X9_162 : am_ML RX9 162 yX9_beginText mt_X9_beginText 1 := ⟨am_t6 (i := 23) rfl rfl, am_t6 (i := 26) rfl rfl, am_t1 (i := 12) rfl rfl, ⟨by decide, by decide⟩, by decide +kernel, by decide⟩
theorem ml_X9_165 : am_ML RX9 165 yX9_wasRight mt_X9_wasRight 0 := ⟨am_t6 (i := 47) rfl rfl, am_t6 (i := 50) rfl rfl, am_t1 (i := 12) rfl rfl, ⟨by decide, by decide⟩, by decide +kernel, by decide⟩
theorem ml_X9_168 : am_ML RX9 168 yX9_sortBy mt_X9_sortBy 1 := ⟨am_t6 (i := 59) rfl rfl, am_t6 (i := 61) rfl rfl, am_t1 (i := 12) rfl rfl, ⟨by decide, by decide⟩, by decide +kernel, by decide⟩
theorem ml_X9_172 : am_ML RX9 172 yX9_readMan mt_X9_readMan 1 := ⟨am_t6 (i := 55) rfl rfl, am_t6 (i := 58) rfl rfl, am_t1 (i := 12) rfl rfl, ⟨by decide, by decide⟩, by decide +kernel, by decide⟩
theorem ml_X9_181 : am_ML RX9 181 yX9_sum mt_X9_sum 1 := ⟨am_t6 (i := 78) rfl rfl, am_t6 (i := 81) rfl rfl, am_t1 (i := 12) rfl rfl, ⟨by decide, by decide⟩, by decide +kernel, by decide⟩
theorem ml_X9_184 : am_ML RX9 184 yX9_product mt_X9_product 1 := ⟨am_t6 (i := 82) rfl rfl, am_t6 (i := 85) rfl rfl, am_t1 (i := 12) rfl rfl, ⟨by decide, by decide⟩, by decide +kernel, by decide⟩
theorem ml_X9_187 : am_ML RX9 187 yX9_thing mt_X9_thing 1 := ⟨am_t6 (i := 86) rfl rfl, am_t6 (i := 89) rfl rfl, am_t1 (i := 12) rfl rfl, ⟨by decide, by decide⟩, by decide +kernel, by decide⟩
theorem ml_X9_190 : am_ML RX9 190 yX9_held mt_X9_held 1 := ⟨am_t6 (i := 74) rfl rfl, am_t6 (i := 77) rfl rfl, am_t1 (i := 12) rfl rfl, ⟨by decide, by decide⟩, by decide +kernel, by decide⟩
theorem ml_X9_193 : am_ML RX9 193 yX9_need mt_X9_need 1 := ⟨am_t6 (i := 90) rfl rfl, am_t6 (i := 93) rfl rfl, am_t1 (i := 12) rfl rfl, ⟨by decide, by decide⟩, by decide +kernel, by decide⟩
theorem ml_X9_197 : am_ML RX9 197 yX9_number mt_X9_number 1 := ⟨am_t6 (i := 94) rfl rfl, am_t6 (i := 97) rfl rfl, am_t1 (i := 12) rfl rfl, ⟨by decide, by decide⟩, by decide +kernel, by decide⟩
theorem ml_X9_200 : am_ML RX9 200 yX9_letterOf mt_X9_letterOf 1 := ⟨am_t6 (i := 98) rfl rfl, am_t6 (i := 100) rfl rfl, am_t1 (i := 12) rfl rfl, ⟨by decide, by decide⟩, by decide +kernel, by decide⟩
theorem ml_X9_207 : am_ML RX9 207 yX9_readRule mt_X9_readRule 0 := ⟨am_t6 (i := 70) rfl rfl, am_t6 (i := 73) rfl rfl, am_t1 (i := 12) rfl rfl, ⟨by decide, by decide⟩, by decide +kernel, by decide⟩
theorem ml_X9_213 : am_ML RX9 213 yX9_worthOn mt_X9_worthOn 1 := ⟨am_t6 (i := 117) rfl rfl, am_t6 (i := 120) rfl rfl, am_t1 (i := 12) rfl rfl, ⟨by decide, by decide⟩, by decide +kernel, by decide⟩
theorem ml_X9_216 : am_ML RX9 216 yX9_present mt_X9_present 1 := ⟨am_t6 (i := 121) rfl rfl, am_t6 (i := 124) rfl rfl, am_t1 (i := 12) rfl rfl, ⟨by decide, by decide⟩, by decide +kernel, by decide⟩
theorem ml_X9_220 : am_ML RX9 220 yJ6_bitCount_0f7a4 mt_J6_bitCount_0f7a4 1 := ⟨am_t6 (i := 125) rfl rfl, am_t3 (i := 85) rfl rfl, am_t1 (i := 21) rfl rfl, ⟨by decide, by decide⟩, by decide +kernel, by decide⟩
theorem ml_X9_225 : am_ML RX9 225 yJ9_min_7cf53 mt_J9_min_7cf53 2 := ⟨am_t6 (i := 126) rfl rfl, am_t2 (i := 19) rfl rfl, am_t1 (i := 11) rfl rfl, ⟨by decide, by decide⟩, by decide +kernel, by decide⟩
theorem ml_X9_231 : am_ML RX9 231 yJ9_max_7cf53 mt_J9_max_7cf53 2 := ⟨am_t6 (i := 127) rfl rfl, am_t2 (i := 22) rfl rfl, am_t1 (i := 11) rfl rfl, ⟨by decide, by decide⟩, by decide +kernel, by decide⟩
theorem ml_X9_234 : am_ML RX9 234 yX9_isMan mt_X9_isMan 1 := ⟨am_t6 (i := 105) rfl rfl, am_t6 (i := 108) rfl rfl, am_t1 (i := 12) rfl rfl, ⟨by decide, by decide⟩, by decide +kernel, by decide⟩
theorem ml_X9_238 : am_ML RX9 238 yX9_lost mt_X9_lost 0 := ⟨am_t6 (i := 109) rfl rfl, am_t6 (i := 112) rfl rfl, am_t1 (i := 12) rfl rfl, ⟨by decide, by decide⟩, by decide +kernel, by decide⟩
theorem ml_X9_241 : am_ML RX9 241 yX9_mayOf mt_X9_mayOf 2 := ⟨am_t6 (i := 113) rfl rfl, am_t6 (i := 116) rfl rfl, am_t1 (i := 12) rfl rfl, ⟨by decide, by decide⟩, by decide +kernel, by decide⟩
theorem ml_X9_245 : am_ML RX9 245 yX9_heardOfAll mt_X9_heardOfAll 1 := ⟨am_t6 (i := 136) rfl rfl, am_t6 (i := 139) rfl rfl, am_t1 (i := 12) rfl rfl, ⟨by decide, by decide⟩, by decide +kernel, by decide⟩
theorem ml_X9_248 : am_ML RX9 248 yX9_lay mt_X9_lay 3 := ⟨am_t6 (i := 148) rfl rfl, am_t6 (i := 150) rfl rfl, am_t1 (i := 12) rfl rfl, ⟨by decide, by decide⟩, by decide +kernel, by decide⟩
theorem ml_X9_258 : am_ML RX9 258 yX9_part mt_X9_part 1 := ⟨am_t6 (i := 159) rfl rfl, am_t6 (i := 162) rfl rfl, am_t1 (i := 12) rfl rfl, ⟨by decide, by decide⟩, by decide +kernel, by decide⟩
theorem ml_X9_262 : am_ML RX9 262 yX9_full mt_X9_full 1 := ⟨am_t6 (i := 163) rfl rfl, am_t6 (i := 165) rfl rfl, am_t1 (i := 12) rfl rfl, ⟨by decide, by decide⟩, by decide +kernel, by decide⟩
theorem ml_X9_265 : am_ML RX9 265 yX9_goNight mt_X9_goNight 1 := ⟨am_t6 (i := 155) rfl rfl, am_t6 (i := 158) rfl rfl, am_t1 (i := 12) rfl rfl, ⟨by decide, by decide⟩, by decide +kernel, by decide⟩
theorem ml_X9_268 : am_ML RX9 268 yX9_remember mt_X9_remember 1 := ⟨am_t6 (i := 144) rfl rfl, am_t6 (i := 147) rfl rfl, am_t1 (i := 12) rfl rfl, ⟨by decide, by decide⟩, by decide +kernel, by decide⟩
theorem ml_X9_271 : am_ML RX9 271 yX9_goNights mt_X9_goNights 2 := ⟨am_t6 (i := 151) rfl rfl, am_t6 (i := 154) rfl rfl, am_t1 (i := 12) rfl rfl, ⟨by decide, by decide⟩, by decide +kernel, by decide⟩
theorem ml_X9_275 : am_ML RX9 275 yX9_tell mt_X9_tell 1 := ⟨am_t6 (i := 166) rfl rfl, am_t6 (i := 169) rfl rfl, am_t1 (i := 12) rfl rfl, ⟨by decide, by decide⟩, by decide +kernel, by decide⟩
theorem ml_X9_279 : am_ML RX9 279 yX9_refusesHum mt_X9_refusesHum 3 := ⟨am_t6 (i := 178) rfl rfl, am_t6 (i := 181) rfl rfl, am_t1 (i := 12) rfl rfl, ⟨by decide, by decide⟩, by decide +kernel, by decide⟩
theorem ml_X9_283 : am_ML RX9 283 yX9_goHum mt_X9_goHum 3 := ⟨am_t6 (i := 182) rfl rfl, am_t6 (i := 185) rfl rfl, am_t1 (i := 12) rfl rfl, ⟨by decide, by decide⟩, by decide +kernel, by decide⟩
theorem ml_X9_287 : am_ML RX9 287 yX9_refusesStake mt_X9_refusesStake 1 := ⟨am_t6 (i := 190) rfl rfl, am_t6 (i := 193) rfl rfl, am_t1 (i := 12) rfl rfl, ⟨by decide, by decide⟩, by decide +kernel, by decide⟩
theorem ml_X9_290 : am_ML RX9 290 yX9_goStake mt_X9_goStake 1 := ⟨am_t6 (i := 194) rfl rfl, am_t6 (i := 197) rfl rfl, am_t1 (i := 12) rfl rfl, ⟨by decide, by decide⟩, by decide +kernel, by decide⟩
theorem ml_X9_293 : am_ML RX9 293 yX9_refusesAdvance mt_X9_refusesAdvance 1 := ⟨am_t6 (i := 206) rfl rfl, am_t6 (i := 209) rfl rfl, am_t1 (i := 12) rfl rfl, ⟨by decide, by decide⟩, by decide +kernel, by decide⟩
theorem ml_X9_296 : am_ML RX9 296 yX9_readAct mt_X9_readAct 1 := ⟨am_t6 (i := 214) rfl rfl, am_t6 (i := 217) rfl rfl, am_t1 (i := 12) rfl rfl, ⟨by decide, by decide⟩, by decide +kernel, by decide⟩
theorem ml_X9_299 : am_ML RX9 299 yX9_act mt_X9_act 3 := ⟨am_t6 (i := 218) rfl rfl, am_t6 (i := 221) rfl rfl, am_t1 (i := 12) rfl rfl, ⟨by decide, by decide⟩, by decide +kernel, by decide⟩
theorem ml_X9_303 : am_ML RX9 303 yX9_admit mt_X9_admit 2 := ⟨am_t7 (i := 15) rfl rfl, am_t7 (i := 18) rfl rfl, am_t1 (i := 12) rfl rfl, ⟨by decide, by decide⟩, by decide +kernel, by decide⟩
theorem ml_X9_309 : am_ML RX9 309 yX9_has mt_X9_has 2 := ⟨am_t7 (i := 35) rfl rfl, am_t7 (i := 37) rfl rfl, am_t1 (i := 12) rfl rfl, ⟨by decide, by decide⟩, by decide +kernel, by decide⟩
theorem ml_X9_313 : am_ML RX9 313 yX9_goOrder mt_X9_goOrder 4 := ⟨am_t7 (i := 31) rfl rfl, am_t7 (i := 34) rfl rfl, am_t1 (i := 12) rfl rfl, ⟨by decide, by decide⟩, by decide +kernel, by decide⟩
theorem ml_X9_317 : am_ML RX9 317 yX9_heardOf mt_X9_heardOf 1 := ⟨am_t7 (i := 42) rfl rfl, am_t7 (i := 45) rfl rfl, am_t1 (i := 12) rfl rfl, ⟨by decide, by decide⟩, by decide +kernel, by decide⟩
theorem ml_X9_320 : am_ML RX9 320 yJ9_abs_0f7a4 mt_J9_abs_0f7a4 1 := ⟨am_t7 (i := 50) rfl rfl, am_t4 (i := 84) rfl rfl, am_t1 (i := 11) rfl rfl, ⟨by decide, by decide⟩, by decide +kernel, by decide⟩
theorem ml_X9_324 : am_ML RX9 324 yX9_common mt_X9_common 2 := ⟨am_t7 (i := 91) rfl rfl, am_t7 (i := 93) rfl rfl, am_t1 (i := 12) rfl rfl, ⟨by decide, by decide⟩, by decide +kernel, by decide⟩
theorem ml_X9_328 : am_ML RX9 328 yX9_luckOf mt_X9_luckOf 2 := ⟨am_t7 (i := 76) rfl rfl, am_t7 (i := 79) rfl rfl, am_t1 (i := 12) rfl rfl, ⟨by decide, by decide⟩, by decide +kernel, by decide⟩
theorem ml_X9_332 : am_ML RX9 332 yX9_luckBy mt_X9_luckBy 4 := ⟨am_t7 (i := 72) rfl rfl, am_t7 (i := 75) rfl rfl, am_t1 (i := 12) rfl rfl, ⟨by decide, by decide⟩, by decide +kernel, by decide⟩
theorem ml_X9_336 : am_ML RX9 336 yJ9_max_f86c9 mt_J9_max_f86c9 2 := ⟨am_t7 (i := 80) rfl rfl, am_t7 (i := 82) rfl rfl, am_t1 (i := 11) rfl rfl, ⟨by decide, by decide⟩, by decide +kernel, by decide⟩
theorem ml_X9_340 : am_ML RX9 340 yX9_power mt_X9_power 2 := ⟨am_t7 (i := 84) rfl rfl, am_t7 (i := 86) rfl rfl, am_t1 (i := 12) rfl rfl, ⟨by decide, by decide⟩, by decide +kernel, by decide⟩
theorem ml_X9_344 : am_ML RX9 344 yX9_tellPart mt_X9_tellPart 2 := ⟨am_t7 (i := 87) rfl rfl, am_t7 (i := 90) rfl rfl, am_t1 (i := 12) rfl rfl, ⟨by decide, by decide⟩, by decide +kernel, by decide⟩
theorem ml_X9_354 : am_ML RX9 354 yX9_isLaw mt_X9_isLaw 2 := ⟨am_t7 (i := 110) rfl rfl, am_t7 (i := 113) rfl rfl, am_t1 (i := 12) rfl rfl, ⟨by decide, by decide⟩, by decide +kernel, by decide⟩
theorem ml_X9_357 : am_ML RX9 357 yX9_liking mt_X9_liking 1 := ⟨am_t7 (i := 118) rfl rfl, am_t7 (i := 121) rfl rfl, am_t1 (i := 12) rfl rfl, ⟨by decide, by decide⟩, by decide +kernel, by decide⟩
theorem ml_X9_360 : am_ML RX9 360 yX9_laySums mt_X9_laySums 2 := ⟨am_t7 (i := 130) rfl rfl, am_t7 (i := 133) rfl rfl, am_t1 (i := 12) rfl rfl, ⟨by decide, by decide⟩, by decide +kernel, by decide⟩
theorem ml_X9_364 : am_ML RX9 364 yX9_sumsFrom mt_X9_sumsFrom 1 := ⟨am_t7 (i := 134) rfl rfl, am_t7 (i := 137) rfl rfl, am_t1 (i := 12) rfl rfl, ⟨by decide, by decide⟩, by decide +kernel, by decide⟩
theorem ml_X9_373 : am_ML RX9 373 yX9_fits mt_X9_fits 3 := ⟨am_t7 (i := 159) rfl rfl, am_t7 (i := 162) rfl rfl, am_t1 (i := 12) rfl rfl, ⟨by decide, by decide⟩, by decide +kernel, by decide⟩
theorem ml_X9_376 : am_ML RX9 376 yX9_fitting mt_X9_fitting 0 := ⟨am_t7 (i := 155) rfl rfl, am_t7 (i := 158) rfl rfl, am_t1 (i := 12) rfl rfl, ⟨by decide, by decide⟩, by decide +kernel, by decide⟩
theorem ml_X9_379 : am_ML RX9 379 yX9_gets mt_X9_gets 4 := ⟨am_t7 (i := 174) rfl rfl, am_t7 (i := 176) rfl rfl, am_t1 (i := 12) rfl rfl, ⟨by decide, by decide⟩, by decide +kernel, by decide⟩
theorem ml_X9_383 : am_ML RX9 383 yX9_isBest mt_X9_isBest 4 := ⟨am_t7 (i := 171) rfl rfl, am_t7 (i := 173) rfl rfl, am_t1 (i := 12) rfl rfl, ⟨by decide, by decide⟩, by decide +kernel, by decide⟩
theorem ml_X9_387 : am_ML RX9 387 yX9_bookIn20 mt_X9_bookIn20 0 := ⟨am_t7 (i := 181) rfl rfl, am_t7 (i := 184) rfl rfl, am_t1 (i := 12) rfl rfl, ⟨by decide, by decide⟩, by decide +kernel, by decide⟩
theorem ml_X9_394 : am_ML RX9 394 yX9_draw mt_X9_draw 1 := ⟨am_t7 (i := 189) rfl rfl, am_t7 (i := 192) rfl rfl, am_t1 (i := 12) rfl rfl, ⟨by decide, by decide⟩, by decide +kernel, by decide⟩
theorem ml_X9_397 : am_ML RX9 397 yX9_surcharged mt_X9_surcharged 0 := ⟨am_t7 (i := 206) rfl rfl, am_t7 (i := 209) rfl rfl, am_t1 (i := 12) rfl rfl, ⟨by decide, by decide⟩, by decide +kernel, by decide⟩
theorem sm_X7_add : Cond.instanceMethod yX7_add ∈ am_tbl ∧ Cond.selects RX7 yX7_add yX7_add ∈ am_tbl := ⟨am_t2 (i := 116) rfl rfl, am_t2 (i := 117) rfl rfl⟩
theorem sm_X8_faultInSongs : Cond.instanceMethod yX8_faultInSongs ∈ am_tbl ∧ Cond.selects RX8 yX8_faultInSongs yX8_faultInSongs ∈ am_tbl := ⟨am_t2 (i := 129) rfl rfl, am_tbl_l (i := 0) rfl rfl⟩
theorem sm_X6_learn : Cond.instanceMethod yX6_learn ∈ am_tbl ∧ Cond.selects RX6 yX6_learn yX6_learn ∈ am_tbl := ⟨am_t2 (i := 140) rfl rfl, am_t2 (i := 141) rfl rfl⟩
theorem sm_X7_digit : Cond.instanceMethod yX7_digit ∈ am_tbl ∧ Cond.selects RX7 yX7_digit yX7_digit ∈ am_tbl := ⟨am_t2 (i := 132) rfl rfl, am_t2 (i := 133) rfl rfl⟩
theorem sm_X8_faultInLines : Cond.instanceMethod yX8_faultInLines ∈ am_tbl ∧ Cond.selects RX8 yX8_faultInLines yX8_faultInLines ∈ am_tbl := ⟨am_t2 (i := 151) rfl rfl, am_tbl_l (i := 1) rfl rfl⟩
theorem sm_X8_admit : Cond.instanceMethod yX8_admit ∈ am_tbl ∧ Cond.selects RX8 yX8_admit yX8_admit ∈ am_tbl := ⟨am_t2 (i := 234) rfl rfl, am_tbl_l (i := 3) rfl rfl⟩
theorem sm_J9_min_7cf53 : Cond.static yJ9_min_7cf53 ∈ am_tbl := am_t2 (i := 18) rfl rfl
theorem sm_X8_fitsInLine : Cond.instanceMethod yX8_fitsInLine ∈ am_tbl ∧ Cond.selects RX8 yX8_fitsInLine yX8_fitsInLine ∈ am_tbl := ⟨am_t2 (i := 155) rfl rfl, am_tbl_l (i := 2) rfl rfl⟩
theorem sm_X7_at : Cond.instanceMethod yX7_at ∈ am_tbl ∧ Cond.selects RX7 yX7_at yX7_at ∈ am_tbl := ⟨am_t2 (i := 136) rfl rfl, am_t2 (i := 137) rfl rfl⟩
theorem sm_J0_indexOf_0f7a4 : Cond.instanceMethod yJ0_indexOf_0f7a4 ∈ am_tbl ∧ Cond.selects RJ0 yJ0_indexOf_0f7a4 yJ0_indexOf_0f7a4 ∈ am_tbl := ⟨am_t2 (i := 160) rfl rfl, am_t2 (i := 161) rfl rfl⟩
theorem sm_X4_read : Cond.instanceMethod yX4_read ∈ am_tbl ∧ Cond.selects RX4 yX4_read yX4_read ∈ am_tbl := ⟨am_t3 (i := 1) rfl rfl, am_t3 (i := 2) rfl rfl⟩
theorem sm_X6_has : Cond.instanceMethod yX6_has ∈ am_tbl ∧ Cond.selects RX6 yX6_has yX6_has ∈ am_tbl := ⟨am_t3 (i := 140) rfl rfl, am_t3 (i := 141) rfl rfl⟩
theorem sm_X8_mayTonight : Cond.instanceMethod yX8_mayTonight ∈ am_tbl ∧ Cond.selects RX8 yX8_mayTonight yX8_mayTonight ∈ am_tbl := ⟨am_t4 (i := 48) rfl rfl, am_tbl_l (i := 22) rfl rfl⟩
theorem sm_J6_bitCount_0f7a4 : Cond.static yJ6_bitCount_0f7a4 ∈ am_tbl := am_t3 (i := 84) rfl rfl
theorem sm_X6_may : Cond.instanceMethod yX6_may ∈ am_tbl ∧ Cond.selects RX6 yX6_may yX6_may ∈ am_tbl := ⟨am_t3 (i := 91) rfl rfl, am_t3 (i := 92) rfl rfl⟩
theorem sm_X6_songOn : Cond.instanceMethod yX6_songOn ∈ am_tbl ∧ Cond.selects RX6 yX6_songOn yX6_songOn ∈ am_tbl := ⟨am_t3 (i := 45) rfl rfl, am_t3 (i := 46) rfl rfl⟩
theorem sm_X8_entry : Cond.static yX8_entry ∈ am_tbl := am_t3 (i := 53) rfl rfl
theorem sm_X8_put : Cond.static yX8_put ∈ am_tbl := am_t2 (i := 15) rfl rfl
theorem sm_X0_heardOfAll : Cond.instanceMethod yX0_heardOfAll ∈ am_tbl ∧ Cond.selects RX0 yX0_heardOfAll yX0_heardOfAll ∈ am_tbl := ⟨am_t3 (i := 57) rfl rfl, am_t3 (i := 58) rfl rfl⟩
theorem sm_J9_max_7cf53 : Cond.static yJ9_max_7cf53 ∈ am_tbl := am_t2 (i := 21) rfl rfl
theorem sm_X0_copy : Cond.instanceMethod yX0_copy ∈ am_tbl ∧ Cond.selects RX0 yX0_copy yX0_copy ∈ am_tbl := ⟨am_t3 (i := 65) rfl rfl, am_t3 (i := 66) rfl rfl⟩
theorem sm_X8_goOn : Cond.instanceMethod yX8_goOn ∈ am_tbl ∧ Cond.selects RX8 yX8_goOn yX8_goOn ∈ am_tbl := ⟨am_t3 (i := 73) rfl rfl, am_tbl_l (i := 11) rfl rfl⟩
theorem sm_X2_push : Cond.instanceMethod yX2_push ∈ am_tbl ∧ Cond.selects RX2 yX2_push yX2_push ∈ am_tbl := ⟨am_t3 (i := 115) rfl rfl, am_t3 (i := 116) rfl rfl⟩
theorem sm_X3_tell_ : Cond.instanceMethod yX3_tell_ ∈ am_tbl ∧ Cond.selects RX3 yX3_tell_ yX3_tell_ ∈ am_tbl := ⟨am_t3 (i := 120) rfl rfl, am_t3 (i := 121) rfl rfl⟩
theorem sm_X8_turn : Cond.instanceMethod yX8_turn ∈ am_tbl ∧ Cond.selects RX8 yX8_turn yX8_turn ∈ am_tbl := ⟨am_t3 (i := 137) rfl rfl, am_tbl_l (i := 12) rfl rfl⟩
theorem sm_X8_remembered : Cond.instanceMethod yX8_remembered ∈ am_tbl ∧ Cond.selects RX8 yX8_remembered yX8_remembered ∈ am_tbl := ⟨am_t3 (i := 146) rfl rfl, am_tbl_l (i := 13) rfl rfl⟩
theorem sm_X8_surcharge : Cond.instanceMethod yX8_surcharge ∈ am_tbl ∧ Cond.selects RX8 yX8_surcharge yX8_surcharge ∈ am_tbl := ⟨am_t3 (i := 154) rfl rfl, am_tbl_l (i := 14) rfl rfl⟩
theorem sm_X8_wager : Cond.instanceMethod yX8_wager ∈ am_tbl ∧ Cond.selects RX8 yX8_wager yX8_wager ∈ am_tbl := ⟨am_t3 (i := 164) rfl rfl, am_tbl_l (i := 15) rfl rfl⟩
theorem sm_X8_handOver : Cond.instanceMethod yX8_handOver ∈ am_tbl ∧ Cond.selects RX8 yX8_handOver yX8_handOver ∈ am_tbl := ⟨am_t3 (i := 176) rfl rfl, am_tbl_l (i := 16) rfl rfl⟩
theorem sm_X6_pass : Cond.instanceMethod yX6_pass ∈ am_tbl ∧ Cond.selects RX6 yX6_pass yX6_pass ∈ am_tbl := ⟨am_t3 (i := 76) rfl rfl, am_t3 (i := 77) rfl rfl⟩
theorem sm_X0_hear : Cond.instanceMethod yX0_hear ∈ am_tbl ∧ Cond.selects RX0 yX0_hear yX0_hear ∈ am_tbl := ⟨am_t3 (i := 103) rfl rfl, am_t3 (i := 104) rfl rfl⟩
theorem sm_X0_earn : Cond.instanceMethod yX0_earn ∈ am_tbl ∧ Cond.selects RX0 yX0_earn yX0_earn ∈ am_tbl := ⟨am_t3 (i := 108) rfl rfl, am_t3 (i := 109) rfl rfl⟩
theorem sm_X8_faultInSpring : Cond.instanceMethod yX8_faultInSpring ∈ am_tbl ∧ Cond.selects RX8 yX8_faultInSpring yX8_faultInSpring ∈ am_tbl := ⟨am_t3 (i := 184) rfl rfl, am_tbl_l (i := 17) rfl rfl⟩
theorem sm_X8_act : Cond.instanceMethod yX8_act ∈ am_tbl ∧ Cond.selects RX8 yX8_act yX8_act ∈ am_tbl := ⟨am_t3 (i := 194) rfl rfl, am_tbl_l (i := 18) rfl rfl⟩
theorem sm_X8_digitsBehind : Cond.static yX8_digitsBehind ∈ am_tbl := am_t3 (i := 187) rfl rfl
theorem sm_X8_leastBehind : Cond.static yX8_leastBehind ∈ am_tbl := am_t3 (i := 190) rfl rfl
theorem sm_X2_pop : Cond.instanceMethod yX2_pop ∈ am_tbl ∧ Cond.selects RX2 yX2_pop yX2_pop ∈ am_tbl := ⟨am_t3 (i := 201) rfl rfl, am_t3 (i := 202) rfl rfl⟩
theorem sm_X6_part : Cond.instanceMethod yX6_part ∈ am_tbl ∧ Cond.selects RX6 yX6_part yX6_part ∈ am_tbl := ⟨am_t3 (i := 80) rfl rfl, am_t3 (i := 81) rfl rfl⟩
theorem sm_X8_bookIn : Cond.instanceMethod yX8_bookIn ∈ am_tbl ∧ Cond.selects RX8 yX8_bookIn yX8_bookIn ∈ am_tbl := ⟨am_t3 (i := 215) rfl rfl, am_tbl_l (i := 19) rfl rfl⟩
theorem sm_X3_tell : Cond.instanceMethod yX3_tell ∈ am_tbl ∧ Cond.selects RX3 yX3_tell yX3_tell ∈ am_tbl := ⟨am_t3 (i := 222) rfl rfl, am_t3 (i := 223) rfl rfl⟩
theorem sm_X1_ready : Cond.instanceMethod yX1_ready ∈ am_tbl ∧ Cond.selects RX1 yX1_ready yX1_ready ∈ am_tbl := ⟨am_t4 (i := 2) rfl rfl, am_t4 (i := 3) rfl rfl⟩
theorem sm_X1_share : Cond.instanceMethod yX1_share ∈ am_tbl ∧ Cond.selects RX1 yX1_share yX1_share ∈ am_tbl := ⟨am_t4 (i := 13) rfl rfl, am_t4 (i := 14) rfl rfl⟩
theorem sm_X1_mostOf : Cond.instanceMethod yX1_mostOf ∈ am_tbl ∧ Cond.selects RX1 yX1_mostOf yX1_mostOf ∈ am_tbl := ⟨am_t4 (i := 22) rfl rfl, am_t4 (i := 23) rfl rfl⟩
theorem sm_X8_mostPaid : Cond.instanceMethod yX8_mostPaid ∈ am_tbl ∧ Cond.selects RX8 yX8_mostPaid yX8_mostPaid ∈ am_tbl := ⟨am_t4 (i := 28) rfl rfl, am_tbl_l (i := 20) rfl rfl⟩
theorem sm_X8_bestSecond : Cond.instanceMethod yX8_bestSecond ∈ am_tbl ∧ Cond.selects RX8 yX8_bestSecond yX8_bestSecond ∈ am_tbl := ⟨am_t4 (i := 32) rfl rfl, am_tbl_l (i := 21) rfl rfl⟩
theorem sm_X1_follow : Cond.instanceMethod yX1_follow ∈ am_tbl ∧ Cond.selects RX1 yX1_follow yX1_follow ∈ am_tbl := ⟨am_t4 (i := 35) rfl rfl, am_t4 (i := 36) rfl rfl⟩
theorem sm_X3_clear : Cond.instanceMethod yX3_clear ∈ am_tbl ∧ Cond.selects RX3 yX3_clear yX3_clear ∈ am_tbl := ⟨am_t3 (i := 124) rfl rfl, am_t3 (i := 125) rfl rfl⟩
theorem sm_X8_firstToGo : Cond.instanceMethod yX8_firstToGo ∈ am_tbl ∧ Cond.selects RX8 yX8_firstToGo yX8_firstToGo ∈ am_tbl := ⟨am_t4 (i := 54) rfl rfl, am_tbl_l (i := 23) rfl rfl⟩
theorem sm_X3_add : Cond.instanceMethod yX3_add ∈ am_tbl ∧ Cond.selects RX3 yX3_add yX3_add ∈ am_tbl := ⟨am_t3 (i := 128) rfl rfl, am_t3 (i := 129) rfl rfl⟩
theorem sm_X8_grown : Cond.static yX8_grown ∈ am_tbl := am_t3 (i := 112) rfl rfl
theorem sm_X8_heardBy : Cond.instanceMethod yX8_heardBy ∈ am_tbl ∧ Cond.selects RX8 yX8_heardBy yX8_heardBy ∈ am_tbl := ⟨am_t4 (i := 73) rfl rfl, am_tbl_l (i := 24) rfl rfl⟩
theorem sm_X8_closer : Cond.static yX8_closer ∈ am_tbl := am_t4 (i := 80) rfl rfl
theorem sm_J9_abs_0f7a4 : Cond.static yJ9_abs_0f7a4 ∈ am_tbl := am_t4 (i := 83) rfl rfl
theorem sm_X8_poorest : Cond.instanceMethod yX8_poorest ∈ am_tbl ∧ Cond.selects RX8 yX8_poorest yX8_poorest ∈ am_tbl := ⟨am_t4 (i := 91) rfl rfl, am_tbl_l (i := 25) rfl rfl⟩
theorem sm_X8_bestStake : Cond.instanceMethod yX8_bestStake ∈ am_tbl ∧ Cond.selects RX8 yX8_bestStake yX8_bestStake ∈ am_tbl := ⟨am_t4 (i := 103) rfl rfl, am_tbl_l (i := 26) rfl rfl⟩
theorem sm_X8_chanceBy : Cond.instanceMethod yX8_chanceBy ∈ am_tbl ∧ Cond.selects RX8 yX8_chanceBy yX8_chanceBy ∈ am_tbl := ⟨am_t4 (i := 107) rfl rfl, am_tbl_l (i := 27) rfl rfl⟩
theorem sm_X8_tenToThe : Cond.static yX8_tenToThe ∈ am_tbl := am_t4 (i := 111) rfl rfl
theorem sm_X8_tellFraction : Cond.instanceMethod yX8_tellFraction ∈ am_tbl ∧ Cond.selects RX8 yX8_tellFraction yX8_tellFraction ∈ am_tbl := ⟨am_t4 (i := 116) rfl rfl, am_tbl_l (i := 28) rfl rfl⟩
theorem sm_X8_winners : Cond.instanceMethod yX8_winners ∈ am_tbl ∧ Cond.selects RX8 yX8_winners yX8_winners ∈ am_tbl := ⟨am_t4 (i := 124) rfl rfl, am_tbl_l (i := 29) rfl rfl⟩
theorem sm_X8_lostBehind : Cond.static yX8_lostBehind ∈ am_tbl := am_t4 (i := 127) rfl rfl
theorem sm_X5_add : Cond.instanceMethod yX5_add ∈ am_tbl ∧ Cond.selects RX5 yX5_add yX5_add ∈ am_tbl := ⟨am_t4 (i := 134) rfl rfl, am_t4 (i := 135) rfl rfl⟩
theorem sm_X8_fitsLooks : Cond.instanceMethod yX8_fitsLooks ∈ am_tbl ∧ Cond.selects RX8 yX8_fitsLooks yX8_fitsLooks ∈ am_tbl := ⟨am_t4 (i := 147) rfl rfl, am_tbl_l (i := 30) rfl rfl⟩
theorem sm_X8_likes : Cond.static yX8_likes ∈ am_tbl := am_t4 (i := 150) rfl rfl
theorem sm_X8_lawsThat : Cond.instanceMethod yX8_lawsThat ∈ am_tbl ∧ Cond.selects RX8 yX8_lawsThat yX8_lawsThat ∈ am_tbl := ⟨am_t4 (i := 158) rfl rfl, am_tbl_l (i := 31) rfl rfl⟩
theorem sm_X8_weigh : Cond.instanceMethod yX8_weigh ∈ am_tbl ∧ Cond.selects RX8 yX8_weigh yX8_weigh ∈ am_tbl := ⟨am_t4 (i := 170) rfl rfl, am_tbl_l (i := 32) rfl rfl⟩
theorem sm_X8_canBeTold : Cond.static yX8_canBeTold ∈ am_tbl := am_t4 (i := 182) rfl rfl
theorem sm_X8_suspects : Cond.instanceMethod yX8_suspects ∈ am_tbl ∧ Cond.selects RX8 yX8_suspects yX8_suspects ∈ am_tbl := ⟨am_t4 (i := 194) rfl rfl, am_tbl_l (i := 33) rfl rfl⟩
theorem sm_X8_isSo : Cond.instanceMethod yX8_isSo ∈ am_tbl ∧ Cond.selects RX8 yX8_isSo yX8_isSo ∈ am_tbl := ⟨am_t4 (i := 198) rfl rfl, am_tbl_l (i := 34) rfl rfl⟩
theorem sm_X8_content : Cond.static yX8_content ∈ am_tbl := am_t4 (i := 209) rfl rfl
theorem sm_X8_had : Cond.static yX8_had ∈ am_tbl := am_t4 (i := 212) rfl rfl
theorem sm_X8_drawYear : Cond.instanceMethod yX8_drawYear ∈ am_tbl ∧ Cond.selects RX8 yX8_drawYear yX8_drawYear ∈ am_tbl := ⟨am_t4 (i := 224) rfl rfl, am_tbl_l (i := 35) rfl rfl⟩
theorem sm_X8_draw : Cond.instanceMethod yX8_draw ∈ am_tbl ∧ Cond.selects RX8 yX8_draw yX8_draw ∈ am_tbl := ⟨am_t4 (i := 228) rfl rfl, am_tbl_l (i := 36) rfl rfl⟩
theorem sm_X0_surchargedOfAll : Cond.instanceMethod yX0_surchargedOfAll ∈ am_tbl ∧ Cond.selects RX0 yX0_surchargedOfAll yX0_surchargedOfAll ∈ am_tbl := ⟨am_t5 (i := 4) rfl rfl, am_t5 (i := 5) rfl rfl⟩
theorem sm_X1_place : Cond.instanceMethod yX1_place ∈ am_tbl ∧ Cond.selects RX1 yX1_place yX1_place ∈ am_tbl := ⟨am_t4 (i := 8) rfl rfl, am_t4 (i := 9) rfl rfl⟩
theorem sm_J0_length_8abf5 : Cond.instanceMethod yJ0_length_8abf5 ∈ am_tbl ∧ Cond.selects RJ0 yJ0_length_8abf5 yJ0_length_8abf5 ∈ am_tbl := ⟨am_t1 (i := 78) rfl rfl, am_t1 (i := 79) rfl rfl⟩
theorem sm_X4_readThing : Cond.instanceMethod yX4_readThing ∈ am_tbl ∧ Cond.selects RX4 yX4_readThing yX4_readThing ∈ am_tbl := ⟨am_t3 (i := 9) rfl rfl, am_tbl_l (i := 4) rfl rfl⟩
theorem sm_X4_readNext : Cond.instanceMethod yX4_readNext ∈ am_tbl ∧ Cond.selects RX4 yX4_readNext yX4_readNext ∈ am_tbl := ⟨am_t3 (i := 22) rfl rfl, am_tbl_l (i := 7) rfl rfl⟩
theorem sm_X4_release : Cond.instanceMethod yX4_release ∈ am_tbl ∧ Cond.selects RX4 yX4_release yX4_release ∈ am_tbl := ⟨am_t3 (i := 34) rfl rfl, am_tbl_l (i := 10) rfl rfl⟩
theorem sm_X4_hold : Cond.instanceMethod yX4_hold ∈ am_tbl ∧ Cond.selects RX4 yX4_hold yX4_hold ∈ am_tbl := ⟨am_t3 (i := 13) rfl rfl, am_tbl_l (i := 5) rfl rfl⟩
theorem sm_X4_emit : Cond.instanceMethod yX4_emit ∈ am_tbl ∧ Cond.selects RX4 yX4_emit yX4_emit ∈ am_tbl := ⟨am_t3 (i := 18) rfl rfl, am_tbl_l (i := 6) rfl rfl⟩
theorem sm_X4_readDigit : Cond.instanceMethod yX4_readDigit ∈ am_tbl ∧ Cond.selects RX4 yX4_readDigit yX4_readDigit ∈ am_tbl := ⟨am_t3 (i := 26) rfl rfl, am_tbl_l (i := 8) rfl rfl⟩
theorem sm_X4_close : Cond.instanceMethod yX4_close ∈ am_tbl ∧ Cond.selects RX4 yX4_close yX4_close ∈ am_tbl := ⟨am_t3 (i := 30) rfl rfl, am_tbl_l (i := 9) rfl rfl⟩
theorem sm_X4_bindingOf : Cond.static yX4_bindingOf ∈ am_tbl := am_t3 (i := 37) rfl rfl
theorem sm_X4_join : Cond.static yX4_join ∈ am_tbl := am_t3 (i := 99) rfl rfl
theorem sm_X4_answer : Cond.instanceMethod yX4_answer ∈ am_tbl ∧ Cond.selects RX4 yX4_answer yX4_answer ∈ am_tbl := ⟨am_t3 (i := 95) rfl rfl, am_t3 (i := 96) rfl rfl⟩
theorem sm_X8_hearer : Cond.instanceMethod yX8_hearer ∈ am_tbl ∧ Cond.selects RX8 yX8_hearer yX8_hearer ∈ am_tbl := ⟨am_t5 (i := 12) rfl rfl, am_t5 (i := 13) rfl rfl⟩
theorem sm_X8_row : Cond.instanceMethod yX8_row ∈ am_tbl ∧ Cond.selects RX8 yX8_row yX8_row ∈ am_tbl := ⟨am_t5 (i := 80) rfl rfl, am_t5 (i := 81) rfl rfl⟩
theorem sm_X8_sign : Cond.instanceMethod yX8_sign ∈ am_tbl ∧ Cond.selects RX8 yX8_sign yX8_sign ∈ am_tbl := ⟨am_t2 (i := 112) rfl rfl, am_t2 (i := 113) rfl rfl⟩
theorem sm_X9_sign : Cond.instanceMethod yX9_sign ∈ am_tbl ∧ Cond.selects RX9 yX9_sign yX9_sign ∈ am_tbl := ⟨am_t6 (i := 9) rfl rfl, am_t6 (i := 10) rfl rfl⟩
theorem sm_X8_end : Cond.instanceMethod yX8_end ∈ am_tbl ∧ Cond.selects RX8 yX8_end yX8_end ∈ am_tbl := ⟨am_t2 (i := 120) rfl rfl, am_t2 (i := 121) rfl rfl⟩
theorem sm_X9_end : Cond.instanceMethod yX9_end ∈ am_tbl ∧ Cond.selects RX9 yX9_end yX9_end ∈ am_tbl := ⟨am_t6 (i := 13) rfl rfl, am_t6 (i := 14) rfl rfl⟩
theorem sm_X8_songs : Cond.instanceMethod yX8_songs ∈ am_tbl ∧ Cond.selects RX8 yX8_songs yX8_songs ∈ am_tbl := ⟨am_t2 (i := 124) rfl rfl, am_t2 (i := 125) rfl rfl⟩
theorem sm_X9_songs : Cond.instanceMethod yX9_songs ∈ am_tbl ∧ Cond.selects RX9 yX9_songs yX9_songs ∈ am_tbl := ⟨am_t6 (i := 20) rfl rfl, am_t6 (i := 21) rfl rfl⟩
theorem sm_X8_hearers : Cond.instanceMethod yX8_hearers ∈ am_tbl ∧ Cond.selects RX8 yX8_hearers yX8_hearers ∈ am_tbl := ⟨am_t2 (i := 146) rfl rfl, am_t2 (i := 147) rfl rfl⟩
theorem sm_X9_hearers : Cond.instanceMethod yX9_hearers ∈ am_tbl ∧ Cond.selects RX9 yX9_hearers yX9_hearers ∈ am_tbl := ⟨am_t6 (i := 52) rfl rfl, am_t6 (i := 53) rfl rfl⟩
theorem sm_X8_rule : Cond.instanceMethod yX8_rule ∈ am_tbl ∧ Cond.selects RX8 yX8_rule yX8_rule ∈ am_tbl := ⟨am_t2 (i := 237) rfl rfl, am_t2 (i := 238) rfl rfl⟩
theorem sm_X9_rule : Cond.instanceMethod yX9_rule ∈ am_tbl ∧ Cond.selects RX9 yX9_rule yX9_rule ∈ am_tbl := ⟨am_t6 (i := 67) rfl rfl, am_t6 (i := 68) rfl rfl⟩
theorem sm_X9_hearer : Cond.instanceMethod yX9_hearer ∈ am_tbl ∧ Cond.selects RX9 yX9_hearer yX9_hearer ∈ am_tbl := ⟨am_t6 (i := 102) rfl rfl, am_t6 (i := 103) rfl rfl⟩
theorem sm_X9_thrown : Cond.instanceMethod yX9_thrown ∈ am_tbl ∧ Cond.selects RX9 yX9_thrown yX9_thrown ∈ am_tbl := ⟨am_t6 (i := 5) rfl rfl, am_t6 (i := 6) rfl rfl⟩
theorem sm_X8_worth : Cond.instanceMethod yX8_worth ∈ am_tbl ∧ Cond.selects RX8 yX8_worth yX8_worth ∈ am_tbl := ⟨am_t3 (i := 41) rfl rfl, am_t3 (i := 42) rfl rfl⟩
theorem sm_X9_worth : Cond.instanceMethod yX9_worth ∈ am_tbl ∧ Cond.selects RX9 yX9_worth yX9_worth ∈ am_tbl := ⟨am_t6 (i := 129) rfl rfl, am_t6 (i := 130) rfl rfl⟩
theorem sm_X8_sheet : Cond.instanceMethod yX8_sheet ∈ am_tbl ∧ Cond.selects RX8 yX8_sheet yX8_sheet ∈ am_tbl := ⟨am_t3 (i := 49) rfl rfl, am_t3 (i := 50) rfl rfl⟩
theorem sm_X9_sheet : Cond.instanceMethod yX9_sheet ∈ am_tbl ∧ Cond.selects RX9 yX9_sheet yX9_sheet ∈ am_tbl := ⟨am_t6 (i := 133) rfl rfl, am_t6 (i := 134) rfl rfl⟩
theorem sm_X8_nights : Cond.instanceMethod yX8_nights ∈ am_tbl ∧ Cond.selects RX8 yX8_nights yX8_nights ∈ am_tbl := ⟨am_t3 (i := 61) rfl rfl, am_t3 (i := 62) rfl rfl⟩
theorem sm_X9_nights : Cond.instanceMethod yX9_nights ∈ am_tbl ∧ Cond.selects RX9 yX9_nights yX9_nights ∈ am_tbl := ⟨am_t6 (i := 141) rfl rfl, am_t6 (i := 142) rfl rfl⟩
theorem sm_X8_comes : Cond.instanceMethod yX8_comes ∈ am_tbl ∧ Cond.selects RX8 yX8_comes yX8_comes ∈ am_tbl := ⟨am_t3 (i := 132) rfl rfl, am_t3 (i := 133) rfl rfl⟩
theorem sm_X9_comes : Cond.instanceMethod yX9_comes ∈ am_tbl ∧ Cond.selects RX9 yX9_comes yX9_comes ∈ am_tbl := ⟨am_t6 (i := 171) rfl rfl, am_t6 (i := 172) rfl rfl⟩
theorem sm_X8_hum : Cond.instanceMethod yX8_hum ∈ am_tbl ∧ Cond.selects RX8 yX8_hum yX8_hum ∈ am_tbl := ⟨am_t3 (i := 149) rfl rfl, am_t3 (i := 150) rfl rfl⟩
theorem sm_X9_hum : Cond.instanceMethod yX9_hum ∈ am_tbl ∧ Cond.selects RX9 yX9_hum yX9_hum ∈ am_tbl := ⟨am_t6 (i := 175) rfl rfl, am_t6 (i := 176) rfl rfl⟩
theorem sm_X8_stake : Cond.instanceMethod yX8_stake ∈ am_tbl ∧ Cond.selects RX8 yX8_stake yX8_stake ∈ am_tbl := ⟨am_t3 (i := 159) rfl rfl, am_t3 (i := 160) rfl rfl⟩
theorem sm_X9_stake : Cond.instanceMethod yX9_stake ∈ am_tbl ∧ Cond.selects RX9 yX9_stake yX9_stake ∈ am_tbl := ⟨am_t6 (i := 187) rfl rfl, am_t6 (i := 188) rfl rfl⟩
theorem sm_X8_gain : Cond.instanceMethod yX8_gain ∈ am_tbl ∧ Cond.selects RX8 yX8_gain yX8_gain ∈ am_tbl := ⟨am_t3 (i := 167) rfl rfl, am_t3 (i := 168) rfl rfl⟩
theorem sm_X9_gain : Cond.instanceMethod yX9_gain ∈ am_tbl ∧ Cond.selects RX9 yX9_gain yX9_gain ∈ am_tbl := ⟨am_t6 (i := 199) rfl rfl, am_t6 (i := 200) rfl rfl⟩
theorem sm_X8_advance : Cond.instanceMethod yX8_advance ∈ am_tbl ∧ Cond.selects RX8 yX8_advance yX8_advance ∈ am_tbl := ⟨am_t3 (i := 171) rfl rfl, am_t3 (i := 172) rfl rfl⟩
theorem sm_X9_advance : Cond.instanceMethod yX9_advance ∈ am_tbl ∧ Cond.selects RX9 yX9_advance yX9_advance ∈ am_tbl := ⟨am_t6 (i := 203) rfl rfl, am_t6 (i := 204) rfl rfl⟩
theorem sm_X8_spring : Cond.instanceMethod yX8_spring ∈ am_tbl ∧ Cond.selects RX8 yX8_spring yX8_spring ∈ am_tbl := ⟨am_t3 (i := 179) rfl rfl, am_t3 (i := 180) rfl rfl⟩
theorem sm_X9_spring : Cond.instanceMethod yX9_spring ∈ am_tbl ∧ Cond.selects RX9 yX9_spring yX9_spring ∈ am_tbl := ⟨am_t6 (i := 211) rfl rfl, am_t6 (i := 212) rfl rfl⟩
theorem sm_X8_undo : Cond.instanceMethod yX8_undo ∈ am_tbl ∧ Cond.selects RX8 yX8_undo yX8_undo ∈ am_tbl := ⟨am_t3 (i := 197) rfl rfl, am_t3 (i := 198) rfl rfl⟩
theorem sm_X9_undo : Cond.instanceMethod yX9_undo ∈ am_tbl ∧ Cond.selects RX9 yX9_undo yX9_undo ∈ am_tbl := ⟨am_t6 (i := 223) rfl rfl, am_t6 (i := 224) rfl rfl⟩
theorem sm_X8_tonight : Cond.instanceMethod yX8_tonight ∈ am_tbl ∧ Cond.selects RX8 yX8_tonight yX8_tonight ∈ am_tbl := ⟨am_t3 (i := 205) rfl rfl, am_t3 (i := 206) rfl rfl⟩
theorem sm_X9_tonight : Cond.instanceMethod yX9_tonight ∈ am_tbl ∧ Cond.selects RX9 yX9_tonight yX9_tonight ∈ am_tbl := ⟨am_t6 (i := 227) rfl rfl, am_t6 (i := 228) rfl rfl⟩
theorem sm_X8_later : Cond.instanceMethod yX8_later ∈ am_tbl ∧ Cond.selects RX8 yX8_later yX8_later ∈ am_tbl := ⟨am_t3 (i := 210) rfl rfl, am_t3 (i := 211) rfl rfl⟩
theorem sm_X9_later : Cond.instanceMethod yX9_later ∈ am_tbl ∧ Cond.selects RX9 yX9_later yX9_later ∈ am_tbl := ⟨am_t6 (i := 231) rfl rfl, am_t6 (i := 232) rfl rfl⟩
theorem sm_X8_enough : Cond.instanceMethod yX8_enough ∈ am_tbl ∧ Cond.selects RX8 yX8_enough yX8_enough ∈ am_tbl := ⟨am_t3 (i := 218) rfl rfl, am_t3 (i := 219) rfl rfl⟩
theorem sm_X9_enough : Cond.instanceMethod yX9_enough ∈ am_tbl ∧ Cond.selects RX9 yX9_enough yX9_enough ∈ am_tbl := ⟨am_t6 (i := 235) rfl rfl, am_t6 (i := 236) rfl rfl⟩
theorem sm_X8_drains : Cond.instanceMethod yX8_drains ∈ am_tbl ∧ Cond.selects RX8 yX8_drains yX8_drains ∈ am_tbl := ⟨am_t3 (i := 226) rfl rfl, am_t3 (i := 227) rfl rfl⟩
theorem sm_X9_drains : Cond.instanceMethod yX9_drains ∈ am_tbl ∧ Cond.selects RX9 yX9_drains yX9_drains ∈ am_tbl := ⟨am_t7 (i := 7) rfl rfl, am_t7 (i := 8) rfl rfl⟩
theorem sm_X8_hears : Cond.instanceMethod yX8_hears ∈ am_tbl ∧ Cond.selects RX8 yX8_hears yX8_hears ∈ am_tbl := ⟨am_t3 (i := 230) rfl rfl, am_t3 (i := 231) rfl rfl⟩
theorem sm_X9_hears : Cond.instanceMethod yX9_hears ∈ am_tbl ∧ Cond.selects RX9 yX9_hears yX9_hears ∈ am_tbl := ⟨am_t6 (i := 239) rfl rfl, am_t7 (i := 0) rfl rfl⟩
theorem sm_X8_quiet : Cond.instanceMethod yX8_quiet ∈ am_tbl ∧ Cond.selects RX8 yX8_quiet yX8_quiet ∈ am_tbl := ⟨am_t3 (i := 234) rfl rfl, am_t3 (i := 235) rfl rfl⟩
theorem sm_X9_quiet : Cond.instanceMethod yX9_quiet ∈ am_tbl ∧ Cond.selects RX9 yX9_quiet yX9_quiet ∈ am_tbl := ⟨am_t7 (i := 3) rfl rfl, am_t7 (i := 4) rfl rfl⟩
theorem sm_X8_admits : Cond.instanceMethod yX8_admits ∈ am_tbl ∧ Cond.selects RX8 yX8_admits yX8_admits ∈ am_tbl := ⟨am_t3 (i := 238) rfl rfl, am_t3 (i := 239) rfl rfl⟩
theorem sm_X9_admits : Cond.instanceMethod yX9_admits ∈ am_tbl ∧ Cond.selects RX9 yX9_admits yX9_admits ∈ am_tbl := ⟨am_t7 (i := 12) rfl rfl, am_t7 (i := 13) rfl rfl⟩
theorem sm_X8_plans : Cond.instanceMethod yX8_plans ∈ am_tbl ∧ Cond.selects RX8 yX8_plans yX8_plans ∈ am_tbl := ⟨am_t4 (i := 18) rfl rfl, am_t4 (i := 19) rfl rfl⟩
theorem sm_X9_plans : Cond.instanceMethod yX9_plans ∈ am_tbl ∧ Cond.selects RX9 yX9_plans yX9_plans ∈ am_tbl := ⟨am_t7 (i := 20) rfl rfl, am_t7 (i := 21) rfl rfl⟩
theorem sm_X8_fills : Cond.instanceMethod yX8_fills ∈ am_tbl ∧ Cond.selects RX8 yX8_fills yX8_fills ∈ am_tbl := ⟨am_t4 (i := 39) rfl rfl, am_t4 (i := 40) rfl rfl⟩
theorem sm_X9_fills : Cond.instanceMethod yX9_fills ∈ am_tbl ∧ Cond.selects RX9 yX9_fills yX9_fills ∈ am_tbl := ⟨am_t7 (i := 24) rfl rfl, am_t7 (i := 25) rfl rfl⟩
theorem sm_X8_order : Cond.instanceMethod yX8_order ∈ am_tbl ∧ Cond.selects RX8 yX8_order yX8_order ∈ am_tbl := ⟨am_t4 (i := 43) rfl rfl, am_t4 (i := 44) rfl rfl⟩
theorem sm_X9_order : Cond.instanceMethod yX9_order ∈ am_tbl ∧ Cond.selects RX9 yX9_order yX9_order ∈ am_tbl := ⟨am_t7 (i := 28) rfl rfl, am_t7 (i := 29) rfl rfl⟩
theorem sm_X8_raises : Cond.instanceMethod yX8_raises ∈ am_tbl ∧ Cond.selects RX8 yX8_raises yX8_raises ∈ am_tbl := ⟨am_t4 (i := 58) rfl rfl, am_t4 (i := 59) rfl rfl⟩
theorem sm_X9_raises : Cond.instanceMethod yX9_raises ∈ am_tbl ∧ Cond.selects RX9 yX9_raises yX9_raises ∈ am_tbl := ⟨am_t7 (i := 60) rfl rfl, am_t7 (i := 61) rfl rfl⟩
theorem sm_X8_grows : Cond.instanceMethod yX8_grows ∈ am_tbl ∧ Cond.selects RX8 yX8_grows yX8_grows ∈ am_tbl := ⟨am_t4 (i := 63) rfl rfl, am_t4 (i := 64) rfl rfl⟩
theorem sm_X9_grows : Cond.instanceMethod yX9_grows ∈ am_tbl ∧ Cond.selects RX9 yX9_grows yX9_grows ∈ am_tbl := ⟨am_t7 (i := 65) rfl rfl, am_t7 (i := 66) rfl rfl⟩
theorem sm_X8_adds : Cond.instanceMethod yX8_adds ∈ am_tbl ∧ Cond.selects RX8 yX8_adds yX8_adds ∈ am_tbl := ⟨am_t4 (i := 68) rfl rfl, am_t4 (i := 69) rfl rfl⟩
theorem sm_X9_adds : Cond.instanceMethod yX9_adds ∈ am_tbl ∧ Cond.selects RX9 yX9_adds yX9_adds ∈ am_tbl := ⟨am_t7 (i := 39) rfl rfl, am_t7 (i := 40) rfl rfl⟩
theorem sm_X8_nearest : Cond.instanceMethod yX8_nearest ∈ am_tbl ∧ Cond.selects RX8 yX8_nearest yX8_nearest ∈ am_tbl := ⟨am_t4 (i := 76) rfl rfl, am_t4 (i := 77) rfl rfl⟩
theorem sm_X9_nearest : Cond.instanceMethod yX9_nearest ∈ am_tbl ∧ Cond.selects RX9 yX9_nearest yX9_nearest ∈ am_tbl := ⟨am_t7 (i := 47) rfl rfl, am_t7 (i := 48) rfl rfl⟩
theorem sm_X8_awards : Cond.instanceMethod yX8_awards ∈ am_tbl ∧ Cond.selects RX8 yX8_awards yX8_awards ∈ am_tbl := ⟨am_t4 (i := 86) rfl rfl, am_t4 (i := 87) rfl rfl⟩
theorem sm_X9_awards : Cond.instanceMethod yX9_awards ∈ am_tbl ∧ Cond.selects RX9 yX9_awards yX9_awards ∈ am_tbl := ⟨am_t7 (i := 52) rfl rfl, am_t7 (i := 53) rfl rfl⟩
theorem sm_X8_envy : Cond.instanceMethod yX8_envy ∈ am_tbl ∧ Cond.selects RX8 yX8_envy yX8_envy ∈ am_tbl := ⟨am_t4 (i := 94) rfl rfl, am_t4 (i := 95) rfl rfl⟩
theorem sm_X9_envy : Cond.instanceMethod yX9_envy ∈ am_tbl ∧ Cond.selects RX9 yX9_envy yX9_envy ∈ am_tbl := ⟨am_t7 (i := 56) rfl rfl, am_t7 (i := 57) rfl rfl⟩
theorem sm_X8_bold : Cond.instanceMethod yX8_bold ∈ am_tbl ∧ Cond.selects RX8 yX8_bold yX8_bold ∈ am_tbl := ⟨am_t4 (i := 98) rfl rfl, am_t4 (i := 99) rfl rfl⟩
theorem sm_X9_bold : Cond.instanceMethod yX9_bold ∈ am_tbl ∧ Cond.selects RX9 yX9_bold yX9_bold ∈ am_tbl := ⟨am_t7 (i := 69) rfl rfl, am_t7 (i := 70) rfl rfl⟩
theorem sm_X8_notes : Cond.instanceMethod yX8_notes ∈ am_tbl ∧ Cond.selects RX8 yX8_notes yX8_notes ∈ am_tbl := ⟨am_t4 (i := 119) rfl rfl, am_t4 (i := 120) rfl rfl⟩
theorem sm_X9_notes : Cond.instanceMethod yX9_notes ∈ am_tbl ∧ Cond.selects RX9 yX9_notes yX9_notes ∈ am_tbl := ⟨am_t7 (i := 95) rfl rfl, am_t7 (i := 96) rfl rfl⟩
theorem sm_X8_look : Cond.instanceMethod yX8_look ∈ am_tbl ∧ Cond.selects RX8 yX8_look yX8_look ∈ am_tbl := ⟨am_t4 (i := 130) rfl rfl, am_t4 (i := 131) rfl rfl⟩
theorem sm_X9_look : Cond.instanceMethod yX9_look ∈ am_tbl ∧ Cond.selects RX9 yX9_look yX9_look ∈ am_tbl := ⟨am_t7 (i := 99) rfl rfl, am_t7 (i := 100) rfl rfl⟩
theorem sm_X8_forget : Cond.instanceMethod yX8_forget ∈ am_tbl ∧ Cond.selects RX8 yX8_forget yX8_forget ∈ am_tbl := ⟨am_t4 (i := 138) rfl rfl, am_t4 (i := 139) rfl rfl⟩
theorem sm_X9_forget : Cond.instanceMethod yX9_forget ∈ am_tbl ∧ Cond.selects RX9 yX9_forget yX9_forget ∈ am_tbl := ⟨am_t7 (i := 103) rfl rfl, am_t7 (i := 104) rfl rfl⟩
theorem sm_X8_laws : Cond.instanceMethod yX8_laws ∈ am_tbl ∧ Cond.selects RX8 yX8_laws yX8_laws ∈ am_tbl := ⟨am_t4 (i := 142) rfl rfl, am_t4 (i := 143) rfl rfl⟩
theorem sm_X9_laws : Cond.instanceMethod yX9_laws ∈ am_tbl ∧ Cond.selects RX9 yX9_laws yX9_laws ∈ am_tbl := ⟨am_t7 (i := 107) rfl rfl, am_t7 (i := 108) rfl rfl⟩
theorem sm_X8_sure : Cond.instanceMethod yX8_sure ∈ am_tbl ∧ Cond.selects RX8 yX8_sure yX8_sure ∈ am_tbl := ⟨am_t4 (i := 153) rfl rfl, am_t4 (i := 154) rfl rfl⟩
theorem sm_X9_sure : Cond.instanceMethod yX9_sure ∈ am_tbl ∧ Cond.selects RX9 yX9_sure yX9_sure ∈ am_tbl := ⟨am_t7 (i := 115) rfl rfl, am_t7 (i := 116) rfl rfl⟩
theorem sm_X8_tries : Cond.instanceMethod yX8_tries ∈ am_tbl ∧ Cond.selects RX8 yX8_tries yX8_tries ∈ am_tbl := ⟨am_t4 (i := 161) rfl rfl, am_t4 (i := 162) rfl rfl⟩
theorem sm_X9_tries : Cond.instanceMethod yX9_tries ∈ am_tbl ∧ Cond.selects RX9 yX9_tries yX9_tries ∈ am_tbl := ⟨am_t7 (i := 123) rfl rfl, am_t7 (i := 124) rfl rfl⟩
theorem sm_X8_sings : Cond.instanceMethod yX8_sings ∈ am_tbl ∧ Cond.selects RX8 yX8_sings yX8_sings ∈ am_tbl := ⟨am_t4 (i := 165) rfl rfl, am_t4 (i := 166) rfl rfl⟩
theorem sm_X9_sings : Cond.instanceMethod yX9_sings ∈ am_tbl ∧ Cond.selects RX9 yX9_sings yX9_sings ∈ am_tbl := ⟨am_t7 (i := 127) rfl rfl, am_t7 (i := 128) rfl rfl⟩
theorem sm_X8_counts : Cond.instanceMethod yX8_counts ∈ am_tbl ∧ Cond.selects RX8 yX8_counts yX8_counts ∈ am_tbl := ⟨am_t4 (i := 173) rfl rfl, am_t4 (i := 174) rfl rfl⟩
theorem sm_X9_counts : Cond.instanceMethod yX9_counts ∈ am_tbl ∧ Cond.selects RX9 yX9_counts yX9_counts ∈ am_tbl := ⟨am_t7 (i := 139) rfl rfl, am_t7 (i := 140) rfl rfl⟩
theorem sm_X8_told : Cond.instanceMethod yX8_told ∈ am_tbl ∧ Cond.selects RX8 yX8_told yX8_told ∈ am_tbl := ⟨am_t4 (i := 178) rfl rfl, am_t4 (i := 179) rfl rfl⟩
theorem sm_X9_told : Cond.instanceMethod yX9_told ∈ am_tbl ∧ Cond.selects RX9 yX9_told yX9_told ∈ am_tbl := ⟨am_t7 (i := 144) rfl rfl, am_t7 (i := 145) rfl rfl⟩
theorem sm_X8_deny : Cond.instanceMethod yX8_deny ∈ am_tbl ∧ Cond.selects RX8 yX8_deny yX8_deny ∈ am_tbl := ⟨am_t4 (i := 185) rfl rfl, am_t4 (i := 186) rfl rfl⟩
theorem sm_X9_deny : Cond.instanceMethod yX9_deny ∈ am_tbl ∧ Cond.selects RX9 yX9_deny yX9_deny ∈ am_tbl := ⟨am_t7 (i := 148) rfl rfl, am_t7 (i := 149) rfl rfl⟩
theorem sm_X8_fits : Cond.instanceMethod yX8_fits ∈ am_tbl ∧ Cond.selects RX8 yX8_fits yX8_fits ∈ am_tbl := ⟨am_t4 (i := 189) rfl rfl, am_t4 (i := 190) rfl rfl⟩
theorem sm_X9_fits_ : Cond.instanceMethod yX9_fits_ ∈ am_tbl ∧ Cond.selects RX9 yX9_fits_ yX9_fits_ ∈ am_tbl := ⟨am_t7 (i := 152) rfl rfl, am_t7 (i := 153) rfl rfl⟩
theorem sm_X8_ask : Cond.instanceMethod yX8_ask ∈ am_tbl ∧ Cond.selects RX8 yX8_ask yX8_ask ∈ am_tbl := ⟨am_t4 (i := 201) rfl rfl, am_t4 (i := 202) rfl rfl⟩
theorem sm_X9_ask : Cond.instanceMethod yX9_ask ∈ am_tbl ∧ Cond.selects RX9 yX9_ask yX9_ask ∈ am_tbl := ⟨am_t7 (i := 164) rfl rfl, am_t7 (i := 165) rfl rfl⟩
theorem sm_X8_rests : Cond.instanceMethod yX8_rests ∈ am_tbl ∧ Cond.selects RX8 yX8_rests yX8_rests ∈ am_tbl := ⟨am_t4 (i := 205) rfl rfl, am_t4 (i := 206) rfl rfl⟩
theorem sm_X9_rests : Cond.instanceMethod yX9_rests ∈ am_tbl ∧ Cond.selects RX9 yX9_rests yX9_rests ∈ am_tbl := ⟨am_t7 (i := 168) rfl rfl, am_t7 (i := 169) rfl rfl⟩
theorem sm_X8_law : Cond.instanceMethod yX8_law ∈ am_tbl ∧ Cond.selects RX8 yX8_law yX8_law ∈ am_tbl := ⟨am_t4 (i := 215) rfl rfl, am_t4 (i := 216) rfl rfl⟩
theorem sm_X9_law : Cond.instanceMethod yX9_law ∈ am_tbl ∧ Cond.selects RX9 yX9_law yX9_law ∈ am_tbl := ⟨am_t7 (i := 178) rfl rfl, am_t7 (i := 179) rfl rfl⟩
theorem sm_X8_years : Cond.instanceMethod yX8_years ∈ am_tbl ∧ Cond.selects RX8 yX8_years yX8_years ∈ am_tbl := ⟨am_t4 (i := 219) rfl rfl, am_t4 (i := 220) rfl rfl⟩
theorem sm_X9_years : Cond.instanceMethod yX9_years ∈ am_tbl ∧ Cond.selects RX9 yX9_years yX9_years ∈ am_tbl := ⟨am_t7 (i := 186) rfl rfl, am_t7 (i := 187) rfl rfl⟩
theorem sm_X8_keep : Cond.instanceMethod yX8_keep ∈ am_tbl ∧ Cond.selects RX8 yX8_keep yX8_keep ∈ am_tbl := ⟨am_t4 (i := 232) rfl rfl, am_t4 (i := 233) rfl rfl⟩
theorem sm_X9_keep : Cond.instanceMethod yX9_keep ∈ am_tbl ∧ Cond.selects RX9 yX9_keep yX9_keep ∈ am_tbl := ⟨am_t7 (i := 195) rfl rfl, am_t7 (i := 196) rfl rfl⟩
theorem sm_X8_again : Cond.instanceMethod yX8_again ∈ am_tbl ∧ Cond.selects RX8 yX8_again yX8_again ∈ am_tbl := ⟨am_t4 (i := 236) rfl rfl, am_t4 (i := 237) rfl rfl⟩
theorem sm_X9_again : Cond.instanceMethod yX9_again ∈ am_tbl ∧ Cond.selects RX9 yX9_again yX9_again ∈ am_tbl := ⟨am_t7 (i := 199) rfl rfl, am_t7 (i := 200) rfl rfl⟩
theorem sm_X8_count : Cond.instanceMethod yX8_count ∈ am_tbl ∧ Cond.selects RX8 yX8_count yX8_count ∈ am_tbl := ⟨am_t5 (i := 0) rfl rfl, am_t5 (i := 1) rfl rfl⟩
theorem sm_X9_count : Cond.instanceMethod yX9_count ∈ am_tbl ∧ Cond.selects RX9 yX9_count yX9_count ∈ am_tbl := ⟨am_t7 (i := 203) rfl rfl, am_t7 (i := 204) rfl rfl⟩
theorem sm_X9_row : Cond.instanceMethod yX9_row ∈ am_tbl ∧ Cond.selects RX9 yX9_row yX9_row ∈ am_tbl := ⟨am_t7 (i := 211) rfl rfl, am_t7 (i := 212) rfl rfl⟩
theorem sm_X9_in : Cond.static yX9_in ∈ am_tbl := am_t6 (i := 17) rfl rfl
theorem sm_X9_begin : Cond.instanceMethod yX9_begin ∈ am_tbl ∧ Cond.selects RX9 yX9_begin yX9_begin ∈ am_tbl := ⟨am_t6 (i := 29) rfl rfl, am_tbl_l (i := 39) rfl rfl⟩
theorem sm_X9_fine : Cond.instanceMethod yX9_fine ∈ am_tbl ∧ Cond.selects RX9 yX9_fine yX9_fine ∈ am_tbl := ⟨am_t6 (i := 33) rfl rfl, am_tbl_l (i := 40) rfl rfl⟩
theorem sm_X9_here : Cond.instanceMethod yX9_here ∈ am_tbl ∧ Cond.selects RX9 yX9_here yX9_here ∈ am_tbl := ⟨am_t6 (i := 37) rfl rfl, am_tbl_l (i := 41) rfl rfl⟩
theorem sm_X9_passes : Cond.instanceMethod yX9_passes ∈ am_tbl ∧ Cond.selects RX9 yX9_passes yX9_passes ∈ am_tbl := ⟨am_t6 (i := 64) rfl rfl, am_tbl_l (i := 46) rfl rfl⟩
theorem sm_X9_fault : Cond.instanceMethod yX9_fault ∈ am_tbl ∧ Cond.selects RX9 yX9_fault yX9_fault ∈ am_tbl := ⟨am_t6 (i := 45) rfl rfl, am_tbl_l (i := 43) rfl rfl⟩
theorem sm_X9_oneOf : Cond.instanceMethod yX9_oneOf ∈ am_tbl ∧ Cond.selects RX9 yX9_oneOf yX9_oneOf ∈ am_tbl := ⟨am_t6 (i := 41) rfl rfl, am_tbl_l (i := 42) rfl rfl⟩
theorem sm_X9_beginText : Cond.instanceMethod yX9_beginText ∈ am_tbl ∧ Cond.selects RX9 yX9_beginText yX9_beginText ∈ am_tbl := ⟨am_t6 (i := 25) rfl rfl, am_tbl_l (i := 38) rfl rfl⟩
theorem sm_X9_wasRight : Cond.instanceMethod yX9_wasRight ∈ am_tbl ∧ Cond.selects RX9 yX9_wasRight yX9_wasRight ∈ am_tbl := ⟨am_t6 (i := 49) rfl rfl, am_tbl_l (i := 44) rfl rfl⟩
theorem sm_X9_sortBy : Cond.static yX9_sortBy ∈ am_tbl := am_t6 (i := 60) rfl rfl
theorem sm_X9_readMan : Cond.instanceMethod yX9_readMan ∈ am_tbl ∧ Cond.selects RX9 yX9_readMan yX9_readMan ∈ am_tbl := ⟨am_t6 (i := 57) rfl rfl, am_tbl_l (i := 45) rfl rfl⟩
theorem sm_X9_sum : Cond.instanceMethod yX9_sum ∈ am_tbl ∧ Cond.selects RX9 yX9_sum yX9_sum ∈ am_tbl := ⟨am_t6 (i := 80) rfl rfl, am_tbl_l (i := 49) rfl rfl⟩
theorem sm_X9_product : Cond.instanceMethod yX9_product ∈ am_tbl ∧ Cond.selects RX9 yX9_product yX9_product ∈ am_tbl := ⟨am_t6 (i := 84) rfl rfl, am_tbl_l (i := 50) rfl rfl⟩
theorem sm_X9_thing : Cond.instanceMethod yX9_thing ∈ am_tbl ∧ Cond.selects RX9 yX9_thing yX9_thing ∈ am_tbl := ⟨am_t6 (i := 88) rfl rfl, am_tbl_l (i := 51) rfl rfl⟩
theorem sm_X9_held : Cond.instanceMethod yX9_held ∈ am_tbl ∧ Cond.selects RX9 yX9_held yX9_held ∈ am_tbl := ⟨am_t6 (i := 76) rfl rfl, am_tbl_l (i := 48) rfl rfl⟩
theorem sm_X9_need : Cond.instanceMethod yX9_need ∈ am_tbl ∧ Cond.selects RX9 yX9_need yX9_need ∈ am_tbl := ⟨am_t6 (i := 92) rfl rfl, am_tbl_l (i := 52) rfl rfl⟩
theorem sm_X9_number : Cond.instanceMethod yX9_number ∈ am_tbl ∧ Cond.selects RX9 yX9_number yX9_number ∈ am_tbl := ⟨am_t6 (i := 96) rfl rfl, am_tbl_l (i := 53) rfl rfl⟩
theorem sm_X9_letterOf : Cond.static yX9_letterOf ∈ am_tbl := am_t6 (i := 99) rfl rfl
theorem sm_X9_readRule : Cond.instanceMethod yX9_readRule ∈ am_tbl ∧ Cond.selects RX9 yX9_readRule yX9_readRule ∈ am_tbl := ⟨am_t6 (i := 72) rfl rfl, am_tbl_l (i := 47) rfl rfl⟩
theorem sm_X9_worthOn : Cond.instanceMethod yX9_worthOn ∈ am_tbl ∧ Cond.selects RX9 yX9_worthOn yX9_worthOn ∈ am_tbl := ⟨am_t6 (i := 119) rfl rfl, am_tbl_l (i := 57) rfl rfl⟩
theorem sm_X9_present : Cond.instanceMethod yX9_present ∈ am_tbl ∧ Cond.selects RX9 yX9_present yX9_present ∈ am_tbl := ⟨am_t6 (i := 123) rfl rfl, am_tbl_l (i := 58) rfl rfl⟩
theorem sm_X9_isMan : Cond.instanceMethod yX9_isMan ∈ am_tbl ∧ Cond.selects RX9 yX9_isMan yX9_isMan ∈ am_tbl := ⟨am_t6 (i := 107) rfl rfl, am_tbl_l (i := 54) rfl rfl⟩
theorem sm_X9_lost : Cond.instanceMethod yX9_lost ∈ am_tbl ∧ Cond.selects RX9 yX9_lost yX9_lost ∈ am_tbl := ⟨am_t6 (i := 111) rfl rfl, am_tbl_l (i := 55) rfl rfl⟩
theorem sm_X9_mayOf : Cond.instanceMethod yX9_mayOf ∈ am_tbl ∧ Cond.selects RX9 yX9_mayOf yX9_mayOf ∈ am_tbl := ⟨am_t6 (i := 115) rfl rfl, am_tbl_l (i := 56) rfl rfl⟩
theorem sm_X9_heardOfAll : Cond.instanceMethod yX9_heardOfAll ∈ am_tbl ∧ Cond.selects RX9 yX9_heardOfAll yX9_heardOfAll ∈ am_tbl := ⟨am_t6 (i := 138) rfl rfl, am_tbl_l (i := 59) rfl rfl⟩
theorem sm_X9_lay : Cond.static yX9_lay ∈ am_tbl := am_t6 (i := 149) rfl rfl
theorem sm_X9_part : Cond.instanceMethod yX9_part ∈ am_tbl ∧ Cond.selects RX9 yX9_part yX9_part ∈ am_tbl := ⟨am_t6 (i := 161) rfl rfl, am_tbl_l (i := 63) rfl rfl⟩
theorem sm_X9_full : Cond.static yX9_full ∈ am_tbl := am_t6 (i := 164) rfl rfl
theorem sm_X9_goNight : Cond.instanceMethod yX9_goNight ∈ am_tbl ∧ Cond.selects RX9 yX9_goNight yX9_goNight ∈ am_tbl := ⟨am_t6 (i := 157) rfl rfl, am_tbl_l (i := 62) rfl rfl⟩
theorem sm_X9_remember : Cond.instanceMethod yX9_remember ∈ am_tbl ∧ Cond.selects RX9 yX9_remember yX9_remember ∈ am_tbl := ⟨am_t6 (i := 146) rfl rfl, am_tbl_l (i := 60) rfl rfl⟩
theorem sm_X9_goNights : Cond.instanceMethod yX9_goNights ∈ am_tbl ∧ Cond.selects RX9 yX9_goNights yX9_goNights ∈ am_tbl := ⟨am_t6 (i := 153) rfl rfl, am_tbl_l (i := 61) rfl rfl⟩
theorem sm_X9_tell : Cond.instanceMethod yX9_tell ∈ am_tbl ∧ Cond.selects RX9 yX9_tell yX9_tell ∈ am_tbl := ⟨am_t6 (i := 168) rfl rfl, am_tbl_l (i := 64) rfl rfl⟩
theorem sm_X9_refusesHum : Cond.instanceMethod yX9_refusesHum ∈ am_tbl ∧ Cond.selects RX9 yX9_refusesHum yX9_refusesHum ∈ am_tbl := ⟨am_t6 (i := 180) rfl rfl, am_tbl_l (i := 65) rfl rfl⟩
theorem sm_X9_goHum : Cond.instanceMethod yX9_goHum ∈ am_tbl ∧ Cond.selects RX9 yX9_goHum yX9_goHum ∈ am_tbl := ⟨am_t6 (i := 184) rfl rfl, am_tbl_l (i := 66) rfl rfl⟩
theorem sm_X9_refusesStake : Cond.instanceMethod yX9_refusesStake ∈ am_tbl ∧ Cond.selects RX9 yX9_refusesStake yX9_refusesStake ∈ am_tbl := ⟨am_t6 (i := 192) rfl rfl, am_tbl_l (i := 67) rfl rfl⟩
theorem sm_X9_goStake : Cond.instanceMethod yX9_goStake ∈ am_tbl ∧ Cond.selects RX9 yX9_goStake yX9_goStake ∈ am_tbl := ⟨am_t6 (i := 196) rfl rfl, am_tbl_l (i := 68) rfl rfl⟩
theorem sm_X9_refusesAdvance : Cond.instanceMethod yX9_refusesAdvance ∈ am_tbl ∧ Cond.selects RX9 yX9_refusesAdvance yX9_refusesAdvance ∈ am_tbl := ⟨am_t6 (i := 208) rfl rfl, am_tbl_l (i := 69) rfl rfl⟩
theorem sm_X9_readAct : Cond.instanceMethod yX9_readAct ∈ am_tbl ∧ Cond.selects RX9 yX9_readAct yX9_readAct ∈ am_tbl := ⟨am_t6 (i := 216) rfl rfl, am_tbl_l (i := 70) rfl rfl⟩
theorem sm_X9_act : Cond.instanceMethod yX9_act ∈ am_tbl ∧ Cond.selects RX9 yX9_act yX9_act ∈ am_tbl := ⟨am_t6 (i := 220) rfl rfl, am_tbl_l (i := 71) rfl rfl⟩
theorem sm_X9_admit : Cond.instanceMethod yX9_admit ∈ am_tbl ∧ Cond.selects RX9 yX9_admit yX9_admit ∈ am_tbl := ⟨am_t7 (i := 17) rfl rfl, am_tbl_l (i := 72) rfl rfl⟩
theorem sm_X9_has : Cond.static yX9_has ∈ am_tbl := am_t7 (i := 36) rfl rfl
theorem sm_X9_goOrder : Cond.instanceMethod yX9_goOrder ∈ am_tbl ∧ Cond.selects RX9 yX9_goOrder yX9_goOrder ∈ am_tbl := ⟨am_t7 (i := 33) rfl rfl, am_tbl_l (i := 73) rfl rfl⟩
theorem sm_X9_heardOf : Cond.instanceMethod yX9_heardOf ∈ am_tbl ∧ Cond.selects RX9 yX9_heardOf yX9_heardOf ∈ am_tbl := ⟨am_t7 (i := 44) rfl rfl, am_tbl_l (i := 74) rfl rfl⟩
theorem sm_X9_common : Cond.static yX9_common ∈ am_tbl := am_t7 (i := 92) rfl rfl
theorem sm_X9_luckOf : Cond.instanceMethod yX9_luckOf ∈ am_tbl ∧ Cond.selects RX9 yX9_luckOf yX9_luckOf ∈ am_tbl := ⟨am_t7 (i := 78) rfl rfl, am_tbl_l (i := 76) rfl rfl⟩
theorem sm_X9_luckBy : Cond.instanceMethod yX9_luckBy ∈ am_tbl ∧ Cond.selects RX9 yX9_luckBy yX9_luckBy ∈ am_tbl := ⟨am_t7 (i := 74) rfl rfl, am_tbl_l (i := 75) rfl rfl⟩
theorem sm_J9_max_f86c9 : Cond.static yJ9_max_f86c9 ∈ am_tbl := am_t7 (i := 81) rfl rfl
theorem sm_X9_power : Cond.static yX9_power ∈ am_tbl := am_t7 (i := 85) rfl rfl
theorem sm_X9_tellPart : Cond.instanceMethod yX9_tellPart ∈ am_tbl ∧ Cond.selects RX9 yX9_tellPart yX9_tellPart ∈ am_tbl := ⟨am_t7 (i := 89) rfl rfl, am_tbl_l (i := 77) rfl rfl⟩
theorem sm_X9_isLaw : Cond.instanceMethod yX9_isLaw ∈ am_tbl ∧ Cond.selects RX9 yX9_isLaw yX9_isLaw ∈ am_tbl := ⟨am_t7 (i := 112) rfl rfl, am_tbl_l (i := 78) rfl rfl⟩
theorem sm_X9_liking : Cond.instanceMethod yX9_liking ∈ am_tbl ∧ Cond.selects RX9 yX9_liking yX9_liking ∈ am_tbl := ⟨am_t7 (i := 120) rfl rfl, am_tbl_l (i := 79) rfl rfl⟩
theorem sm_X9_laySums : Cond.instanceMethod yX9_laySums ∈ am_tbl ∧ Cond.selects RX9 yX9_laySums yX9_laySums ∈ am_tbl := ⟨am_t7 (i := 132) rfl rfl, am_tbl_l (i := 80) rfl rfl⟩
theorem sm_X9_sumsFrom : Cond.instanceMethod yX9_sumsFrom ∈ am_tbl ∧ Cond.selects RX9 yX9_sumsFrom yX9_sumsFrom ∈ am_tbl := ⟨am_t7 (i := 136) rfl rfl, am_tbl_l (i := 81) rfl rfl⟩
theorem sm_X9_fits : Cond.instanceMethod yX9_fits ∈ am_tbl ∧ Cond.selects RX9 yX9_fits yX9_fits ∈ am_tbl := ⟨am_t7 (i := 161) rfl rfl, am_tbl_l (i := 83) rfl rfl⟩
theorem sm_X9_fitting : Cond.instanceMethod yX9_fitting ∈ am_tbl ∧ Cond.selects RX9 yX9_fitting yX9_fitting ∈ am_tbl := ⟨am_t7 (i := 157) rfl rfl, am_tbl_l (i := 82) rfl rfl⟩
theorem sm_X9_gets : Cond.static yX9_gets ∈ am_tbl := am_t7 (i := 175) rfl rfl
theorem sm_X9_isBest : Cond.static yX9_isBest ∈ am_tbl := am_t7 (i := 172) rfl rfl
theorem sm_X9_bookIn20 : Cond.instanceMethod yX9_bookIn20 ∈ am_tbl ∧ Cond.selects RX9 yX9_bookIn20 yX9_bookIn20 ∈ am_tbl := ⟨am_t7 (i := 183) rfl rfl, am_tbl_l (i := 84) rfl rfl⟩
theorem sm_X9_draw : Cond.instanceMethod yX9_draw ∈ am_tbl ∧ Cond.selects RX9 yX9_draw yX9_draw ∈ am_tbl := ⟨am_t7 (i := 191) rfl rfl, am_tbl_l (i := 85) rfl rfl⟩
theorem sm_X9_surcharged : Cond.instanceMethod yX9_surcharged ∈ am_tbl ∧ Cond.selects RX9 yX9_surcharged yX9_surcharged ∈ am_tbl := ⟨am_t7 (i := 208) rfl rfl, am_tbl_l (i := 86) rfl rfl⟩
theorem kc_X8_336 : Cond.constantLong RX8 336 (-1) ∈ am_tbl := am_t4 (i := 61) rfl rfl
theorem kc_X8_374 : Cond.constantLong RX8 374 (10) ∈ am_tbl := am_t4 (i := 113) rfl rfl
theorem kc_X8_405 : Cond.constantLong RX8 405 (100) ∈ am_tbl := am_t4 (i := 176) rfl rfl
theorem kc_X8_433 : Cond.constant RX8 433 (1103515245) ∈ am_tbl := am_t4 (i := 230) rfl rfl
theorem kc_X9_302 : Cond.constant RX9 302 (-1000000) ∈ am_tbl := am_t7 (i := 10) rfl rfl
theorem kc_X9_323 : Cond.constant RX9 323 (1000000) ∈ am_tbl := am_t7 (i := 63) rfl rfl
theorem kc_X9_338 : Cond.constantLong RX9 338 (10) ∈ am_tbl := am_t7 (i := 83) rfl rfl
theorem kc_X9_368 : Cond.constantLong RX9 368 (100) ∈ am_tbl := am_t7 (i := 142) rfl rfl
theorem kc_X9_393 : Cond.constant RX9 393 (1103515245) ∈ am_tbl := am_t7 (i := 193) rfl rfl
theorem kc_J11_76 : Cond.constant RJ11 76 (56320) ∈ am_tbl := am_t2 (i := 231) rfl rfl
theorem kc_J11_110 : Cond.constant RJ11 110 (55232) ∈ am_tbl := am_t2 (i := 227) rfl rfl
theorem kc_J6_265 : Cond.constant RJ6 265 (1431655765) ∈ am_tbl := am_t3 (i := 86) rfl rfl
theorem kc_J6_266 : Cond.constant RJ6 266 (858993459) ∈ am_tbl := am_t3 (i := 87) rfl rfl
theorem kc_J6_267 : Cond.constant RJ6 267 (252645135) ∈ am_tbl := am_t3 (i := 88) rfl rfl
theorem kc_J2_227 : Cond.constant RJ2 227 (65536) ∈ am_tbl := am_t2 (i := 188) rfl rfl
