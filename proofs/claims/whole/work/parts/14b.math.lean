theorem am_mminw : Cond.static Lib.Math.min.name ∈ am_tbl ∧ Cond.initialized "java/lang/Math" ∈ am_tbl ∧ Cond.code Lib.Math.min.name Lib.Math.min.code 2 (some .int) ∈ am_tbl := ⟨am_t2 (i := 18) (by decide +kernel) rfl, am_t1 (i := 11) rfl rfl, am_t2 (i := 19) (by decide +kernel) rfl⟩
theorem am_mmaxw : Cond.static Lib.Math.max.name ∈ am_tbl ∧ Cond.initialized "java/lang/Math" ∈ am_tbl ∧ Cond.code Lib.Math.max.name Lib.Math.max.code 2 (some .int) ∈ am_tbl := ⟨am_t2 (i := 21) (by decide +kernel) rfl, am_t1 (i := 11) rfl rfl, am_t2 (i := 22) (by decide +kernel) rfl⟩
theorem am_mabsw : Cond.static Lib.Math.abs.name ∈ am_tbl ∧ Cond.initialized "java/lang/Math" ∈ am_tbl ∧ Cond.code Lib.Math.abs.name Lib.Math.abs.code 1 (some .int) ∈ am_tbl := ⟨am_t4 (i := 83) (by decide +kernel) rfl, am_t1 (i := 11) rfl rfl, am_t4 (i := 84) (by decide +kernel) rfl⟩
theorem am_mmaxlw : Cond.static Lib.MathLoose.max_long.x ∈ am_tbl ∧ Cond.initialized "java/lang/Math" ∈ am_tbl ∧ Cond.code Lib.MathLoose.max_long.x Lib.MathLoose.max_long.code 4 (some .long) ∈ am_tbl := ⟨am_t7 (i := 81) (by decide +kernel) rfl, am_t1 (i := 11) rfl rfl, am_t7 (i := 82) (by decide +kernel) rfl⟩
section RNM
variable {l : Launch} {G : am_G} {M : am_Mt} {d pc q t : Nat} {ls ls' : am_L} {st : List am_V} {mem mem' : am_M} {Q : Option am_V → am_M → Prop}
theorem am_hl {R : Room} {st : List am_V} {n : Nat} (h2 : 60 * d + 100 ≤ R.locals) (hw : am_wsum st ≤ 8) (hn : n ≤ 92) : ((st.map (am_enc G)).map (fun v => v.category)).sum + n ≤ R.locals := by rw [am_wsum_eq]; omega
theorem am_max_ok {x y : Int} (hx : am_ok x) (hy : am_ok y) : am_ok (max x y) := by unfold am_ok at *; omega
theorem am_min_ok {x y : Int} (hx : am_ok x) (hy : am_ok y) : am_ok (min x y) := by unfold am_ok at *; omega
theorem rn_mmin {i : Nat} {x y : Int} (hd : decode M.2.1 pc = .ok (.invokestatic i, 3)) (hm : Cond.methodLink M.1 i ⟨"java/lang/Math", "min", "(II)I"⟩ ∈ am_tbl) (hw : Cond.static Lib.Math.min.name ∈ am_tbl ∧ Cond.initialized "java/lang/Math" ∈ am_tbl ∧ Cond.code Lib.Math.min.name Lib.Math.min.code 2 (some .int) ∈ am_tbl) (hs : am_wsum st ≤ 8) (hq : pc + 3 = q) (k : am_Rn l G M d q ls (.inl (min x y) :: st) mem Q) : am_Rn l G M d pc ls (.inl y :: .inl x :: st) mem Q := by
  subst hq
  refine am_go k (fun _ ho => am_k2 ho (am_min_ok (am_kh (am_kt ho)) (am_kh ho))) (fun C hl ho k => ?_)
  have ht := C.2.2.2.2.1
  refine va_mmin C.1 C.2.1 (C.2.2.1.trans hl.1.symm) C.2.2.2.1 (ht _ hm) (ht _ hw.1) (ht _ hw.2.1) (ht _ hw.2.2) (Nat.le_trans (by omega) C.2.2.2.2.2.2.2.2.2.1) (am_hl C.2.2.2.2.2.2.2.2.2.2.1 hs (by decide)) (Nat.zero_le _) (Nat.zero_le _) hd ?_
  have e : (if Int32.ofInt y < Int32.ofInt x then Int32.ofInt y else Int32.ofInt x) = Int32.ofInt (min x y) := by
    have h := am_lt (am_kh ho) (am_kh (am_kt ho))
    by_cases h1 : y < x
    · rw [if_pos (h.mpr h1)]; congr 1; omega
    · rw [if_neg (fun z => h1 (h.mp z))]; congr 1; omega
  rw [e]; exact k
theorem rn_mmax {i : Nat} {x y : Int} (hd : decode M.2.1 pc = .ok (.invokestatic i, 3)) (hm : Cond.methodLink M.1 i ⟨"java/lang/Math", "max", "(II)I"⟩ ∈ am_tbl) (hw : Cond.static Lib.Math.max.name ∈ am_tbl ∧ Cond.initialized "java/lang/Math" ∈ am_tbl ∧ Cond.code Lib.Math.max.name Lib.Math.max.code 2 (some .int) ∈ am_tbl) (hs : am_wsum st ≤ 8) (hq : pc + 3 = q) (k : am_Rn l G M d q ls (.inl (max x y) :: st) mem Q) : am_Rn l G M d pc ls (.inl y :: .inl x :: st) mem Q := by
  subst hq
  refine am_go k (fun _ ho => am_k2 ho (am_max_ok (am_kh (am_kt ho)) (am_kh ho))) (fun C hl ho k => ?_)
  have ht := C.2.2.2.2.1
  refine va_mmax C.1 C.2.1 (C.2.2.1.trans hl.1.symm) C.2.2.2.1 (ht _ hm) (ht _ hw.1) (ht _ hw.2.1) (ht _ hw.2.2) (Nat.le_trans (by omega) C.2.2.2.2.2.2.2.2.2.1) (am_hl C.2.2.2.2.2.2.2.2.2.2.1 hs (by decide)) (Nat.zero_le _) (Nat.zero_le _) hd ?_
  have e : (if Int32.ofInt x < Int32.ofInt y then Int32.ofInt y else Int32.ofInt x) = Int32.ofInt (max x y) := by
    have h := am_lt (am_kh (am_kt ho)) (am_kh ho)
    by_cases h1 : x < y
    · rw [if_pos (h.mpr h1)]; congr 1; omega
    · rw [if_neg (fun z => h1 (h.mp z))]; congr 1; omega
  rw [e]; exact k
theorem rn_mmaxl {i : Nat} {x y : Int} (hd : decode M.2.1 pc = .ok (.invokestatic i, 3)) (hm : Cond.methodLink M.1 i ⟨"java/lang/Math", "max", "(JJ)J"⟩ ∈ am_tbl) (hw : Cond.static Lib.MathLoose.max_long.x ∈ am_tbl ∧ Cond.initialized "java/lang/Math" ∈ am_tbl ∧ Cond.code Lib.MathLoose.max_long.x Lib.MathLoose.max_long.code 4 (some .long) ∈ am_tbl) (hs : am_wsum st ≤ 8) (hq : pc + 3 = q) (k : am_Rn l G M d q ls (.inr (.inl (max x y)) :: st) mem Q) : am_Rn l G M d pc ls (.inr (.inl y) :: .inr (.inl x) :: st) mem Q := by
  subst hq
  refine am_go k (fun _ ho => am_k2 ho (show am_okl (max x y) from ?_)) (fun C hl ho k => ?_)
  · have h1 : am_okl y := am_kh ho
    have h2 : am_okl x := am_kh (am_kt ho)
    unfold am_okl at *; omega
  have ht := C.2.2.2.2.1
  refine va_mmax_long C.1 C.2.1 (C.2.2.1.trans hl.1.symm) C.2.2.2.1 (ht _ hm) (ht _ hw.1) (ht _ hw.2.1) (ht _ hw.2.2) (Nat.le_trans (by omega) C.2.2.2.2.2.2.2.2.2.1) (am_hl C.2.2.2.2.2.2.2.2.2.2.1 hs (by decide)) (Nat.zero_le _) (Nat.zero_le _) hd ?_
  have e : (if Int64.ofInt y < Int64.ofInt x then Int64.ofInt x else Int64.ofInt y) = Int64.ofInt (max x y) := by
    have h := am_llt (am_kh ho) (am_kh (am_kt ho))
    by_cases h1 : y < x
    · rw [if_pos (h.mpr h1)]; congr 1; omega
    · rw [if_neg (fun z => h1 (h.mp z))]; congr 1; omega
  rw [e]; exact k
theorem rn_mabs {i : Nat} {x : Int} (hd : decode M.2.1 pc = .ok (.invokestatic i, 3)) (hm : Cond.methodLink M.1 i ⟨"java/lang/Math", "abs", "(I)I"⟩ ∈ am_tbl) (hw : Cond.static Lib.Math.abs.name ∈ am_tbl ∧ Cond.initialized "java/lang/Math" ∈ am_tbl ∧ Cond.code Lib.Math.abs.name Lib.Math.abs.code 1 (some .int) ∈ am_tbl) (hx : -2147483648 < x) (hs : am_wsum st ≤ 8) (hq : pc + 3 = q) (k : am_Rn l G M d q ls (.inl (x.natAbs : Int) :: st) mem Q) : am_Rn l G M d pc ls (.inl x :: st) mem Q := by
  subst hq
  refine am_go k (fun _ ho => am_k1 ho (show am_ok (x.natAbs : Int) from ?_)) (fun C hl ho k => ?_)
  · have h1 : am_ok x := am_kh ho
    unfold am_ok at *; omega
  have ht := C.2.2.2.2.1
  refine va_mabs C.1 C.2.1 (C.2.2.1.trans hl.1.symm) C.2.2.2.1 (ht _ hm) (ht _ hw.1) (ht _ hw.2.1) (ht _ hw.2.2) (Nat.le_trans (by omega) C.2.2.2.2.2.2.2.2.2.1) (am_hl C.2.2.2.2.2.2.2.2.2.2.1 hs (by decide)) (Nat.zero_le _) (Nat.zero_le _) hd ?_
  have e : (if 0 ≤ Int32.ofInt x then Int32.ofInt x else 0 - Int32.ofInt x) = Int32.ofInt (x.natAbs : Int) := by
    have h : (0 : Int32) ≤ Int32.ofInt x ↔ 0 ≤ x := am_le am_ok0 (am_kh ho)
    by_cases h1 : 0 ≤ x
    · rw [if_pos (h.mpr h1)]; congr 1; omega
    · rw [if_neg (fun z => h1 (h.mp z))]
      show Int32.ofInt 0 - Int32.ofInt x = _
      rw [← Int32.ofInt_sub]; congr 1; omega
  rw [e]; exact k
end RNM
