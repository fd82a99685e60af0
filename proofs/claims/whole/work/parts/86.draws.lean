/-! draws, and years of the class -/
theorem ushr16 (x : Int) : 0 ≤ am_ushr x 16 ∧ am_ushr x 16 < 65536 := by
  unfold am_ushr
  rw [show (Int32.ofInt 16).toUInt32 &&& Int32.toUInt32 31 = 16 from rfl]
  generalize (Int32.ofInt x).toUInt32 = u
  have h1 : (u >>> 16).toNat < 65536 := by
    have := u.toNat_lt
    rw [UInt32.toNat_shiftRight, Nat.shiftRight_eq_div_pow]
    show u.toNat / 2 ^ 16 < _
    omega
  have h2 : (u >>> 16).toInt32.toInt = ((u >>> 16).toNat : Int) := by
    show (u >>> 16).toBitVec.toInt = _
    rw [BitVec.toInt_eq_toNat_of_lt (by show 2 * (u >>> 16).toNat < 2 ^ 32; omega)]
    rfl
  omega
def nxD (v : Int) : Int := am_w32 (am_w32 (v * 1103515245) + 12345)
def drA (v : Int) (n : Nat) : Nat := (am_ushr (nxD v) 16).toNat % n
theorem drA_t {v : Int} {n : Nat} : (am_ushr (nxD v) 16).tmod (n : Int) = (drA v n : Int) := by
  unfold drA
  obtain ⟨t, ht⟩ := Int.eq_ofNat_of_zero_le (ushr16 (nxD v)).1
  rw [ht]
  rfl
theorem drA_lt {v : Int} {n : Nat} (h : 0 < n) : drA v n < n := Nat.mod_lt _ h
section P86
variable {l : Launch} {G : am_G} {d : Nat} {r : Nat} {X : List Nat} {C : List Int} {sn : Nat} {sg : Nat → Nat} {h : hrs} {e : est} {NB : Nat} {mem m : am_M}
theorem c_draw (v : Int) (hv : mem 0 19 = v) (n : Nat) (hn : 0 < n) (h9 : n ≤ 9) : am_Sm l G yX8_draw mt_X8_draw d [.inr (.inr 1), .inl (n : Int)] mem (am_rr (some (.inl (drA v n : Int))) (am_up mem 0 19 (nxD v))) := by
  refine am_enterQ (ls := [some (.inr (.inr 1)), some (.inl (n : Int))]) (by decide) rfl (Nat.le_of_ble_eq_true rfl) rfl (fun hok Q hQ => ?_)
  have hl := drA_lt (v := v) hn
  refine rn_aload_n (x := 0) (q := 1) dX8_draw_0 rfl rfl ?_
  refine rn_aload_n (x := 0) (q := 2) dX8_draw_1 rfl rfl ?_
  refine rn_get (a := 0) (v := .inl v) (q := 5) dX8_draw_2 fl_X8_424 rfl (am_gi hv) rfl ?_
  refine rn_ldcw (n := 1103515245) (q := 8) dX8_draw_5 kc_X8_433 rfl (am_okd rfl) rfl ?_
  refine rn_imul (q := 9) dX8_draw_8 rfl ?_
  refine rn_sipush (q := 12) dX8_draw_9 ⟨by decide, by decide⟩ rfl ?_
  refine rn_iadd (q := 13) dX8_draw_12 rfl ?_
  rw [show am_w32 ((am_w32 (v * 1103515245)) + 12345) = nxD v from rfl]
  refine rn_puti (a := 0) (q := 16) dX8_draw_13 fl_X8_424 rfl rfl rfl rfl ?_
  refine rn_iload_n (x := (n : Int)) (q := 17) dX8_draw_16 rfl rfl ?_
  refine rn_ifle (t := 32) (q := 20) dX8_draw_17 rfl rfl (fun w17 => ?_) (fun w17 => ?_)
  · exfalso; omega
  · refine rn_aload_n (x := 0) (q := 21) dX8_draw_20 rfl rfl ?_
    refine rn_get (a := 0) (v := .inl (nxD v)) (q := 24) dX8_draw_21 fl_X8_424 rfl rfl rfl ?_
    refine rn_bipush (q := 26) dX8_draw_24 ⟨by decide, by decide⟩ rfl ?_
    refine rn_iushr (q := 27) dX8_draw_26 rfl ?_
    refine rn_iload_n (x := (n : Int)) (q := 28) dX8_draw_27 rfl rfl ?_
    refine rn_iremN (z := ((drA v n : Nat) : Int)) (q := 29) dX8_draw_28 (by omega) drA_t (by unfold am_ok; omega) rfl ?_
    refine rn_goto (t := 33) dX8_draw_29 rfl ?_
    refine rn_iret dX8_draw_33 rfl ?_
    exact hQ _ _ ⟨rfl, rfl⟩
theorem m_draw (v : Int) (hv : mem 95 46 = v) (n : Nat) (hn : 0 < n) (h9 : n ≤ 9) : am_Sm l G yX9_draw mt_X9_draw d [.inr (.inr 96), .inl (n : Int)] mem (am_rr (some (.inl (drA v n : Int))) (am_up mem 95 46 (nxD v))) := by
  refine am_enterQ (ls := [some (.inr (.inr 96)), some (.inl (n : Int))]) (by decide) rfl (Nat.le_of_ble_eq_true rfl) rfl (fun hok Q hQ => ?_)
  have hl := drA_lt (v := v) hn
  refine rn_aload_n (x := 95) (q := 1) dX9_draw_0 rfl rfl ?_
  refine rn_aload_n (x := 95) (q := 2) dX9_draw_1 rfl rfl ?_
  refine rn_get (a := 95) (v := .inl v) (q := 5) dX9_draw_2 fl_X9_390 rfl (am_gi hv) rfl ?_
  refine rn_ldcw (n := 1103515245) (q := 8) dX9_draw_5 kc_X9_393 rfl (am_okd rfl) rfl ?_
  refine rn_imul (q := 9) dX9_draw_8 rfl ?_
  refine rn_sipush (q := 12) dX9_draw_9 ⟨by decide, by decide⟩ rfl ?_
  refine rn_iadd (q := 13) dX9_draw_12 rfl ?_
  rw [show am_w32 ((am_w32 (v * 1103515245)) + 12345) = nxD v from rfl]
  refine rn_puti (a := 95) (q := 16) dX9_draw_13 fl_X9_390 rfl rfl rfl rfl ?_
  refine rn_aload_n (x := 95) (q := 17) dX9_draw_16 rfl rfl ?_
  refine rn_get (a := 95) (v := .inl (nxD v)) (q := 20) dX9_draw_17 fl_X9_390 rfl rfl rfl ?_
  refine rn_bipush (q := 22) dX9_draw_20 ⟨by decide, by decide⟩ rfl ?_
  refine rn_iushr (q := 23) dX9_draw_22 rfl ?_
  refine rn_iload_n (x := (n : Int)) (q := 24) dX9_draw_23 rfl rfl ?_
  refine rn_iremN (z := ((drA v n : Nat) : Int)) (q := 25) dX9_draw_24 (by omega) drA_t (by unfold am_ok; omega) rfl ?_
  refine rn_iret dX9_draw_25 rfl ?_
  exact hQ _ _ ⟨rfl, rfl⟩
end P86
