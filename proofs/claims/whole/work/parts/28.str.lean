theorem ml_J0_335 : am_ML RJ0 335 yJ0_coder_7d493 mt_J0_coder_7d493 0 := ⟨am_t1 (i := 81) rfl rfl, am_t1 (i := 84) rfl rfl, am_t1 (i := 6) rfl rfl, ⟨by decide, by decide⟩, by decide +kernel, by decide⟩
theorem smj_J0_coder_7d493 : Cond.instanceMethod yJ0_coder_7d493 ∈ am_tbl ∧ Cond.selects RJ0 yJ0_coder_7d493 yJ0_coder_7d493 ∈ am_tbl := ⟨am_t1 (i := 82) rfl rfl, am_t1 (i := 83) rfl rfl⟩
theorem ml_J0_492 : am_ML RJ0 492 yJ0_isLatin1_aae02 mt_J0_isLatin1_aae02 0 := ⟨am_t2 (i := 167) rfl rfl, am_t2 (i := 170) rfl rfl, am_t1 (i := 6) rfl rfl, ⟨by decide, by decide⟩, by decide +kernel, by decide⟩
theorem smj_J0_isLatin1_aae02 : Cond.instanceMethod yJ0_isLatin1_aae02 ∈ am_tbl ∧ Cond.selects RJ0 yJ0_isLatin1_aae02 yJ0_isLatin1_aae02 ∈ am_tbl := ⟨am_t2 (i := 168) rfl rfl, am_t2 (i := 169) rfl rfl⟩
theorem ml_J0_505 : am_ML RJ0 505 yJ0_length_8abf5 mt_J0_length_8abf5 0 := ⟨am_t2 (i := 171) rfl rfl, am_t1 (i := 80) rfl rfl, am_t1 (i := 6) rfl rfl, ⟨by decide, by decide⟩, by decide +kernel, by decide⟩
theorem smj_J0_length_8abf5 : Cond.instanceMethod yJ0_length_8abf5 ∈ am_tbl ∧ Cond.selects RJ0 yJ0_length_8abf5 yJ0_length_8abf5 ∈ am_tbl := ⟨am_t1 (i := 78) rfl rfl, am_t1 (i := 79) rfl rfl⟩
theorem ml_J0_633 : am_ML RJ0 633 yJ0_indexOf_7cf53 mt_J0_indexOf_7cf53 2 := ⟨am_t2 (i := 163) rfl rfl, am_t2 (i := 166) rfl rfl, am_t1 (i := 6) rfl rfl, ⟨by decide, by decide⟩, by decide +kernel, by decide⟩
theorem smj_J0_indexOf_7cf53 : Cond.instanceMethod yJ0_indexOf_7cf53 ∈ am_tbl ∧ Cond.selects RJ0 yJ0_indexOf_7cf53 yJ0_indexOf_7cf53 ∈ am_tbl := ⟨am_t2 (i := 164) rfl rfl, am_t2 (i := 165) rfl rfl⟩
theorem ml_J0_637 : am_ML RJ0 637 yJ1_indexOf_4cfef mt_J1_indexOf_4cfef 4 := ⟨am_t2 (i := 172) rfl rfl, am_t2 (i := 174) rfl rfl, am_t1 (i := 13) rfl rfl, ⟨by decide, by decide⟩, by decide +kernel, by decide⟩
theorem smj_J1_indexOf_4cfef : Cond.static yJ1_indexOf_4cfef ∈ am_tbl := am_t2 (i := 173) rfl rfl
theorem am_mm_J1_38 : Cond.methodLink RJ1 38 ⟨"java/lang/Math", "min", "(II)I"⟩ ∈ am_tbl := am_t2 (i := 179) rfl rfl
theorem ml_J1_88 : am_ML RJ1 88 yJ1_canEncode_9a6ad mt_J1_canEncode_9a6ad 1 := ⟨am_t2 (i := 175) rfl rfl, am_t2 (i := 177) rfl rfl, am_t1 (i := 13) rfl rfl, ⟨by decide, by decide⟩, by decide +kernel, by decide⟩
theorem smj_J1_canEncode_9a6ad : Cond.static yJ1_canEncode_9a6ad ∈ am_tbl := am_t2 (i := 176) rfl rfl
theorem am_mm_J1_92 : Cond.methodLink RJ1 92 ⟨"java/lang/Math", "max", "(II)I"⟩ ∈ am_tbl := am_t2 (i := 178) rfl rfl
theorem ml_J1_95 : am_ML RJ1 95 yJ1_indexOfChar_4cfef mt_J1_indexOfChar_4cfef 4 := ⟨am_t2 (i := 180) rfl rfl, am_t2 (i := 182) rfl rfl, am_t1 (i := 13) rfl rfl, ⟨by decide, by decide⟩, by decide +kernel, by decide⟩
theorem smj_J1_indexOfChar_4cfef : Cond.static yJ1_indexOfChar_4cfef ∈ am_tbl := am_t2 (i := 181) rfl rfl
theorem sfl_9 : Cond.fieldLink RJ0 9 "java/lang/String" "value" "[B" ∈ am_tbl := am_t7 (i := 228) rfl rfl
theorem sfl_15 : Cond.fieldLink RJ0 15 "java/lang/String" "coder" "B" ∈ am_tbl := am_t7 (i := 229) rfl rfl
theorem sfl_38 : Cond.fieldLink RJ0 38 "java/lang/String" "COMPACT_STRINGS" "Z" ∈ am_tbl := am_t1 (i := 85) rfl rfl
section RNS
variable {l : Launch} {G : am_G} {M : am_Mt} {d pc q t : Nat} {ls ls' : am_L} {st : List am_V} {mem mem' : am_M} {Q : Option am_V → am_M → Prop}
theorem am_adx (i : Nat) : am_ad G (i + 1000) = G.2.2.2 i := by unfold am_ad; rw [if_neg (by omega), Nat.add_sub_cancel]
theorem rn_ldcS_X4 (hd : decode M.2.1 pc = .ok (.ldc 21, 2)) (hM : M.1 = RX4) (hq : pc + 2 = q) (k : am_Rn l G M d q ls (.inr (.inr 1002) :: st) mem Q) : am_Rn l G M d pc ls st mem Q := by
  subst hq
  refine am_go k (fun _ ho => am_k0 ho trivial) (fun C hl ho k => ?_)
  have h1 := C.2.2.2.1
  rw [hM] at h1
  exact va_ldcS C.1 C.2.1 h1 C.2.2.2.2.2.2.2.2.2.2.2.2.1 hd k
theorem rn_ldcS_X8 (hd : decode M.2.1 pc = .ok (.ldc 140, 2)) (hM : M.1 = RX8) (hq : pc + 2 = q) (k : am_Rn l G M d q ls (.inr (.inr 1003) :: st) mem Q) : am_Rn l G M d pc ls st mem Q := by
  subst hq
  refine am_go k (fun _ ho => am_k0 ho trivial) (fun C hl ho k => ?_)
  have h1 := C.2.2.2.1
  rw [hM] at h1
  exact va_ldcS C.1 C.2.1 h1 C.2.2.2.2.2.2.2.2.2.2.2.2.2.1 hd k
theorem rn_sgetv (i : Nat) (hi : i < 2) (hd : decode M.2.1 pc = .ok (.getfield 9, 3)) (hM : M.1 = RJ0) (hq : pc + 3 = q) (k : am_Rn l G M d q ls (.inr (.inr (i + 11 + 1000 + 1)) :: st) mem Q) : am_Rn l G M d pc ls (.inr (.inr (i + 1 + 1000 + 1)) :: st) mem Q := by
  subst hq
  intro p e R s m args below meth c H locs lsM C hP hS hl ho
  have h1 := C.2.2.2.1
  rw [hM] at h1
  have hx := (C.2.2.2.2.2.2.2.2.2.2.2.1.1 i hi).2.2.1
  have kk := k p e R s m args below meth c H locs lsM C hP hS hl (am_k1 ho trivial)
  have e1 : am_enc G (.inr (.inr (i + 1 + 1000 + 1))) = .ref (G.2.2.2 (i + 1)) := by show Value.ref (am_ad G (i + 1 + 1000)) = _; rw [am_adx]
  have e2 : am_enc G (.inr (.inr (i + 11 + 1000 + 1))) = .ref (G.2.2.2 (i + 11)) := by show Value.ref (am_ad G (i + 11 + 1000)) = _; rw [am_adx]
  rw [List.map_cons, e1]
  rw [List.map_cons, e2] at kk
  exact vk_getf C.1 C.2.1 hx hS h1 (C.2.2.2.2.1 _ sfl_9) (fun _ h => h) hd kk
theorem rn_sgetc (i : Nat) (hi : i < 2) (hd : decode M.2.1 pc = .ok (.getfield 15, 3)) (hM : M.1 = RJ0) (hq : pc + 3 = q) (k : am_Rn l G M d q ls (.inl 0 :: st) mem Q) : am_Rn l G M d pc ls (.inr (.inr (i + 1 + 1000 + 1)) :: st) mem Q := by
  subst hq
  intro p e R s m args below meth c H locs lsM C hP hS hl ho
  have h1 := C.2.2.2.1
  rw [hM] at h1
  have hx := (C.2.2.2.2.2.2.2.2.2.2.2.1.1 i hi).2.1
  have kk := k p e R s m args below meth c H locs lsM C hP hS hl (am_k1 ho am_ok0)
  have e1 : am_enc G (.inr (.inr (i + 1 + 1000 + 1))) = .ref (G.2.2.2 (i + 1)) := by show Value.ref (am_ad G (i + 1 + 1000)) = _; rw [am_adx]
  rw [List.map_cons, e1]
  exact vk_getf C.1 C.2.1 hx hS h1 (C.2.2.2.2.1 _ sfl_15) (fun _ h => h) hd kk
theorem rn_getcs (hd : decode M.2.1 pc = .ok (.getstatic 38, 3)) (hM : M.1 = RJ0) (hq : pc + 3 = q) (k : am_Rn l G M d q ls (.inl 1 :: st) mem Q) : am_Rn l G M d pc ls st mem Q := by
  subst hq
  intro p e R s m args below meth c H locs lsM C hP hS hl ho
  have h1 := C.2.2.2.1
  rw [hM] at h1
  exact va_gets C.1 C.2.1 C.2.2.2.2.2.2.2.2.2.2.2.2.2.2.1 hS h1 (C.2.2.2.2.1 _ sfl_38) (fun _ h => h) hd (k p e R s m args below meth c H locs lsM C hP hS hl (am_k0 ho (am_okd rfl)))
def strL (i : Nat) : Nat := ([7, 4] : List Nat).getD i 0
def strB (i j : Nat) : Int := (([[118, 107, 104, 119, 112, 110, 99], [111, 108, 99, 119]] : List (List Int)).getD i []).getD j 0
theorem strB_ok : ∀ i, i < 2 → ∀ j, j < 7 → (([[118, 107, 104, 119, 112, 110, 99], [111, 108, 99, 119]] : List (List Int32)).getD i []).getD j 0 = Int32.ofInt (strB i j) ∧ -128 ≤ strB i j ∧ strB i j ≤ 127 := by decide +kernel
theorem strL_ok : ∀ i, i < 2 → strL i ≤ 7 ∧ Int32.ofNat (([7, 4] : List Nat).getD i 0) = Int32.ofInt (strL i : Int) := by decide +kernel
theorem rn_slen (i : Nat) (hi : i < 2) (hd : decode M.2.1 pc = .ok (.arraylength, 1)) (hq : pc + 1 = q) (k : am_Rn l G M d q ls (.inl (strL i : Int) :: st) mem Q) : am_Rn l G M d pc ls (.inr (.inr (i + 11 + 1000 + 1)) :: st) mem Q := by
  subst hq
  intro p e R s m args below meth c H locs lsM C hP hS hl ho
  have hx := (C.2.2.2.2.2.2.2.2.2.2.2.1.1 i hi).2.2.2
  have h7 := strL_ok i hi
  have kk := k p e R s m args below meth c H locs lsM C hP hS hl (am_k1 ho (show am_ok (strL i : Int) by unfold am_ok; omega))
  have e2 : am_enc G (.inr (.inr (i + 11 + 1000 + 1))) = .ref (G.2.2.2 (i + 11)) := by show Value.ref (am_ad G (i + 11 + 1000)) = _; rw [am_adx]
  rw [List.map_cons, e2]
  exact va_tlen C.1 C.2.1 hx hS h7.2 hd kk
theorem rn_sbald (i : Nat) (hi : i < 2) {j : Int} (hd : decode M.2.1 pc = .ok (.baload, 1)) (h0 : 0 ≤ j) (h1 : j < strL i) (hq : pc + 1 = q) (k : am_Rn l G M d q ls (.inl (strB i j.toNat) :: st) mem Q) : am_Rn l G M d pc ls (.inl j :: .inr (.inr (i + 11 + 1000 + 1)) :: st) mem Q := by
  subst hq
  intro p e R s m args below meth c H locs lsM C hP hS hl ho
  have hx := (C.2.2.2.2.2.2.2.2.2.2.2.1.1 i hi).2.2.2
  have h7 := strL_ok i hi
  have hb := strB_ok i hi j.toNat (by omega)
  have kk := k p e R s m args below meth c H locs lsM C hP hS hl (am_k2 ho (show am_ok (strB i j.toNat) by unfold am_ok; omega))
  have e2 : am_enc G (.inr (.inr (i + 11 + 1000 + 1))) = .ref (G.2.2.2 (i + 11)) := by show Value.ref (am_ad G (i + 11 + 1000)) = _; rw [am_adx]
  rw [List.map_cons, List.map_cons, e2]
  refine va_tb C.1 C.2.1 hx hS (am_in h0 h1 (am_kh ho)) (v := .int (Int32.ofInt (strB i j.toNat))) ?_ hd kk
  rw [am_nat h0 (am_kh ho)]
  exact congrArg Value.int hb.1
theorem rn_callVS (i : Nat) (hi : i < 2) {y : MethodName} {M' : am_Mt} {ix n d' : Nat} {as rest : List am_V} {Q' : Option am_V → am_M → Prop} (hd : decode M.2.1 pc = .ok (.invokevirtual ix, 3)) (hm : am_ML M.1 ix y M' n) (hs : Cond.instanceMethod y ∈ am_tbl ∧ Cond.selects RJ0 y y ∈ am_tbl) (hdd : d' + 1 ≤ d) (hn : as.length = n) (hst : st = as.reverse ++ .inr (.inr (i + 1 + 1000 + 1)) :: rest) (hw : am_wsum rest ≤ 8) (hq : pc + 3 = q) (hc : am_Sm l G y M' d' (.inr (.inr (i + 1 + 1000 + 1)) :: as) mem Q') (k : ∀ r mem1, Q' r mem1 → am_Rn l G M d q ls (r.toList ++ rest) mem1 Q) : am_Rn l G M d pc ls st mem Q := by
  subst hq; subst hst
  intro p e R s m args below meth c H locs lsM C hP hS hl ho
  have hok : ∀ v ∈ (.inr (.inr (i + 1 + 1000 + 1)) :: as : List am_V), am_okv v := fun v hv => by
    rcases List.mem_cons.mp hv with rfl | hv
    · trivial
    · exact ho v (List.mem_append_left _ (List.mem_reverse.mpr hv))
  have hor : ∀ v ∈ rest, am_okv v := fun v hv => ho v (List.mem_append_right _ (List.mem_cons_of_mem _ hv))
  have e1 : am_ad G (i + 1 + 1000) = G.2.2.2 (i + 1) := am_adx _
  have hrc := vk_recv C.2.2.2.2.2.2.2.2.2.2.2.1 hi hS
  refine am_back (as := .inr (.inr (i + 1 + 1000 + 1)) :: as) (M' := M') (d' := d') (y := y) (a := ((.inr (.inr (i + 1 + 1000 + 1)) :: as : List am_V).map (am_enc G)).toArray) ?_ C hS hl hor k
  exact va_runV (b := am_ad G (i + 1 + 1000)) (As := as.map (am_enc G)) (rest := rest.map (am_enc G)) ⟨C.1, C.2.1, C.2.2.1, C.2.2.2.1, C.2.2.2.2.1⟩ (hc hok) ⟨am_callB hm C.2.2.2.2.1 hdd ⟨C.2.2.2.2.2.2.2.2.2.1, C.2.2.2.2.2.2.2.2.2.2.1⟩, C.2.2.2.2.1 _ hs.1, C.2.2.2.2.1 _ hs.2⟩ ⟨am_Pc_blind, by rw [e1]; exact hrc, fun U hU hW => am_Pc_of (as := .inr (.inr (i + 1 + 1000 + 1)) :: as) hP C.2.2.2.2.2.2.2.1 C.2.2.2.2.2.2.2.2.1 C.2.2.2.2.2.2.2.2.2.2.2 hS hU hW⟩ rfl (by simpa using hn) hl.1 (by simp; rfl) (lv_room (by rw [am_wsum_eq]; exact hw)) hd ⟨Nat.zero_le _, Nat.zero_le _⟩
theorem rn_bret {x : Int} (hd : decode M.2.1 pc = .ok (.ireturn, 1)) (hr : M.2.2.2 = some .byte) (hx : x = 0) (hQ : Q (some (.inl x)) mem) : am_Rn l G M d pc ls [.inl x] mem Q := by
  intro p e R s m args below meth c0 H locs lsM C hP hS hl ho
  exact W.zret C.1 C.2.1 (C.2.2.2.2.2.1.trans hr) (by subst hx; decide) (fun t ht hW => ⟨⟨some (.inl x), mem, hQ, fun v hv => by cases hv; exact am_kh ho, rfl, by rw [ht]; exact hP, va_K.moved hW.alike C.2.2.2.2.2.2.2.1⟩, hS.F ht⟩) hS.2.2 hd C.2.2.2.2.2.2.1
end RNS
