/-! sign -/
def sB (x : Int) (s : Nat) : Nat := (x / 2 ^ s % 256).toNat
theorem sB_lt {x : Int} {s : Nat} : sB x s < 256 := by unfold sB; omega
theorem shr_e {x : Int} (h : am_ok x) (s : Nat) : ((Int32.ofInt x).toBitVec.sshiftRight s).toInt = x / 2 ^ s := by
  unfold am_ok at h
  rw [BitVec.toInt_sshiftRight, Int.shiftRight_eq_div_pow]
  have : (Int32.ofInt x).toBitVec.toInt = x := by
    show (Int32.ofInt x).toInt = x
    exact Int32.toInt_ofInt_of_le (by simpa using h.1) (by omega)
  rw [this]; norm_cast
theorem and255 (b : BitVec 32) : (b &&& 255#32).toNat = b.toNat % 256 := by
  rw [BitVec.toNat_and]
  exact Nat.and_two_pow_sub_one_eq_mod b.toNat 8
theorem ush_e {x : Int} (s : Nat) : ((((Int32.ofInt x).toBitVec >>> s) &&& 255#32).toNat : Int) = (((x % 4294967296).toNat / 2 ^ s % 256 : Nat) : Int) := by
  rw [and255, BitVec.toNat_ushiftRight, Nat.shiftRight_eq_div_pow]
  have : (Int32.ofInt x).toBitVec.toNat = (x % 4294967296).toNat := by
    show (BitVec.ofInt 32 x).toNat = _
    rw [BitVec.toNat_ofInt]; rfl
  rw [this]
theorem sB_g {b : BitVec 32} : (b &&& 255#32).toInt = ((b &&& 255#32).toNat : Int) := by
  rw [BitVec.toInt_eq_toNat_of_lt]
  rw [and255]; omega
theorem sB_u24 {x : Int} : am_and (am_ushr x 24) 255 = (sB x 24 : Int) := by
  have e : am_and (am_ushr x 24) 255 = ((((Int32.ofInt x).toBitVec >>> 24) &&& 255#32).toNat : Int) := by
    unfold am_and am_ushr
    rw [Int32.ofInt_toInt]
    exact sB_g
  rw [e, ush_e 24]; unfold sB; omega
theorem sB_u16 {x : Int} : am_and (am_ushr x 16) 255 = (sB x 16 : Int) := by
  have e : am_and (am_ushr x 16) 255 = ((((Int32.ofInt x).toBitVec >>> 16) &&& 255#32).toNat : Int) := by
    unfold am_and am_ushr
    rw [Int32.ofInt_toInt]
    exact sB_g
  rw [e, ush_e 16]; unfold sB; omega
theorem sB_u8 {x : Int} : am_and (am_ushr x 8) 255 = (sB x 8 : Int) := by
  have e : am_and (am_ushr x 8) 255 = ((((Int32.ofInt x).toBitVec >>> 8) &&& 255#32).toNat : Int) := by
    unfold am_and am_ushr
    rw [Int32.ofInt_toInt]
    exact sB_g
  rw [e, ush_e 8]; unfold sB; omega
theorem sB_u0 {x : Int} : am_and (am_ushr x 0) 255 = (sB x 0 : Int) := by
  have e : am_and (am_ushr x 0) 255 = ((((Int32.ofInt x).toBitVec >>> 0) &&& 255#32).toNat : Int) := by
    unfold am_and am_ushr
    rw [Int32.ofInt_toInt]
    exact sB_g
  rw [e, ush_e 0]; unfold sB; omega
theorem sB_b {x y : Int} {s : Nat} (h : y = x / 2 ^ s) : am_i2b (am_i2b y) = sb (sB x s) := by
  subst h
  unfold am_i2b sb sB
  generalize x / 2 ^ s = y
  split <;> omega
theorem sB_s24 {x : Int} (h : am_ok x) : am_i2b (am_i2b (am_shr x 24)) = sb (sB x 24) := sB_b (by rw [← shr_e h 24]; rfl)
theorem sB_s16 {x : Int} (h : am_ok x) : am_i2b (am_i2b (am_shr x 16)) = sb (sB x 16) := sB_b (by rw [← shr_e h 16]; rfl)
theorem sB_s8 {x : Int} (h : am_ok x) : am_i2b (am_i2b (am_shr x 8)) = sb (sB x 8) := sB_b (by rw [← shr_e h 8]; rfl)
theorem sB_s0 {x : Int} (h : am_ok x) : am_i2b (am_i2b (am_shr x 0)) = sb (sB x 0) := sB_b (by rw [← shr_e h 0]; rfl)
theorem gd_ap {T : List Nat} {a i : Nat} : (T ++ [a]).getD i 0 = if i = T.length then a else T.getD i 0 := by
  rw [List.getD_eq_getElem?_getD, List.getD_eq_getElem?_getD]
  by_cases h : i < T.length
  · rw [List.getElem?_append_left h, if_neg (by omega)]
  · rw [List.getElem?_append_right (by omega)]
    by_cases h2 : i = T.length
    · rw [if_pos h2, h2, Nat.sub_self]; rfl
    · rw [if_neg h2, List.getElem?_eq_none (by simp; omega), List.getElem?_eq_none (by omega)]
theorem app_256 {T : List Nat} {a : Nat} (h : ∀ i, T.getD i 0 < 256) (ha : a < 256) (i : Nat) : (T ++ [a]).getD i 0 < 256 := by
  rw [gd_ap]
  by_cases hi : i = T.length
  · rw [if_pos hi]; exact ha
  · rw [if_neg hi]; exact h i
theorem c_text_push {T : List Nat} {mem : am_M} (h : c_text T mem) {n a : Nat} (hn : T.length = n) (h8 : n < 80) (ha : a < 256) : c_text (T ++ [a]) (am_up (am_up mem 2 n (a : Int)) 1 1 ((n + 1 : Nat) : Int)) := by
  subst hn
  refine ⟨by rw [List.length_append]; rfl, by rw [List.length_append]; exact h8, app_256 h.2.2.1 ha, fun i hi => ?_⟩
  rw [List.length_append] at hi
  rw [am_up_ne (by decide), am_up_at, gd_ap]
  by_cases hi2 : i = T.length
  · rw [if_pos hi2, if_pos hi2]
  · rw [if_neg hi2, if_neg hi2]; exact h.2.2.2 i (by have : i < T.length + 1 := hi; omega)
theorem m_text_push {T : List Nat} {mem : am_M} (h : m_text T mem) {n a : Nat} {x : Int} (hn : T.length = n) (h8 : n < 80) (ha : a < 256) (hx : x = sb a) : m_text (T ++ [a]) (am_up (am_up mem 95 8 ((n + 1 : Nat) : Int)) 101 n x) := by
  subst hn
  refine ⟨by rw [List.length_append]; rfl, by rw [List.length_append]; exact h8, app_256 h.2.2.1 ha, fun i hi => ?_⟩
  rw [List.length_append] at hi
  rw [am_up_at, gd_ap]
  by_cases hi2 : i = T.length
  · rw [if_pos hi2, if_pos hi2]; exact hx
  · rw [if_neg hi2, if_neg hi2, am_up_ne (by decide)]; exact h.2.2.2 i (by have : i < T.length + 1 := hi; omega)
def sgT (T : List Nat) (v : Int) : List Nat := T ++ [sB v 24] ++ [sB v 16] ++ [sB v 8] ++ [sB v 0]
theorem sgT_len {T : List Nat} {v : Int} : (sgT T v).length = T.length + 4 := by unfold sgT; simp
section P92
variable {l : Launch} {G : am_G} {d : Nat} {r : Nat} {X : List Nat} {C : List Int} {sn : Nat} {sg : Nat → Nat} {h : hrs} {e : est} {NB : Nat} {mem m : am_M}
variable {T : List Nat}
theorem c_text.len (hT : c_text T mem) : T.length ≤ 80 := hT.2.1
theorem m_text.len (hT : m_text T mem) : T.length ≤ 80 := hT.2.1
theorem c_tadd (hT : c_text T mem) (v : Int) : am_Sm l G yX7_add mt_X7_add d [.inr (.inr 2), .inl v] mem (fun q m => (76 < T.length → q = some (.inl 0) ∧ mem = m) ∧ (T.length ≤ 76 → q = some (.inl 1) ∧ c_text (sgT T v) m ∧ ∀ b, b ≠ 1 → b ≠ 2 → m b = mem b)) := by
  refine am_enterQ (ls := [some (.inr (.inr 2)), some (.inl v), none]) (by decide) rfl (Nat.le_of_ble_eq_true rfl) rfl (fun hok Q hQ => ?_)
  have hl := hT.len
  refine rn_aload_n (x := 1) (q := 1) dX7_add_0 rfl rfl ?_
  refine rn_get (a := 1) (v := .inl (T.length : Int)) (q := 4) dX7_add_1 fl_X7_15 rfl (am_gi hT.1) rfl ?_
  refine rn_iflt (t := 16) (q := 7) dX7_add_4 rfl rfl (fun h => absurd h (by omega)) (fun w4 => ?_)
  refine rn_aload_n (x := 1) (q := 8) dX7_add_7 rfl rfl ?_
  refine rn_get (a := 1) (v := .inl (T.length : Int)) (q := 11) dX7_add_8 fl_X7_15 rfl (am_gi hT.1) rfl ?_
  refine rn_bipush (q := 13) dX7_add_11 ⟨by decide, by decide⟩ rfl ?_
  refine rn_cmple (t := 18) (q := 16) dX7_add_13 rfl rfl (fun w13 => ?_) (fun w13 => ?_)
  · refine rn_bipush (q := 20) dX7_add_18 ⟨by decide, by decide⟩ rfl ?_
    refine rn_istore_n (ls' := [some (.inr (.inr 2)), some (.inl v), some (.inl 24)]) (q := 21) dX7_add_20 (by decide) rfl rfl ?_
    refine rn_iload_n (x := 24) (q := 22) dX7_add_21 rfl rfl ?_
    refine rn_iflt (t := 57) (q := 25) dX7_add_22 rfl rfl (fun h => absurd h (by decide)) (fun w22 => ?_)
    refine rn_aload_n (x := 1) (q := 26) dX7_add_25 rfl rfl ?_
    refine rn_get (a := 1) (v := .inr (.inr 3)) (q := 29) dX7_add_26 fl_X7_9 rfl rfl rfl ?_
    refine rn_aload_n (x := 1) (q := 30) dX7_add_29 rfl rfl ?_
    refine rn_get (a := 1) (v := .inl (T.length : Int)) (q := 33) dX7_add_30 fl_X7_15 rfl (am_gi hT.1) rfl ?_
    refine rn_iload_n (x := v) (q := 34) dX7_add_33 rfl rfl ?_
    refine rn_iload_n (x := 24) (q := 35) dX7_add_34 rfl rfl ?_
    refine rn_iushr (q := 36) dX7_add_35 rfl ?_
    refine rn_sipush (q := 39) dX7_add_36 ⟨by decide, by decide⟩ rfl ?_
    refine rn_iand (q := 40) dX7_add_39 rfl ?_
    rw [show am_and (am_ushr v 24) 255 = (sB v 24 : Int) from sB_u24]
    refine rn_iastV (a := 2) (m1 := am_up mem 2 T.length (sB v 24 : Int)) (q := 41) dX7_add_40 rfl (by omega) (by omega) rfl rfl ?_
    refine rn_aload_n (x := 1) (q := 42) dX7_add_41 rfl rfl ?_
    refine rn_dup (q := 43) dX7_add_42 rfl rfl ?_
    refine rn_get (a := 1) (v := .inl (T.length : Int)) (q := 46) dX7_add_43 fl_X7_15 rfl (am_gi hT.1) rfl ?_
    refine rn_iconst (q := 47) dX7_add_46 (am_okd rfl) rfl ?_
    refine rn_iaddN (z := ((T.length + 1 : Nat) : Int)) (q := 48) dX7_add_47 (by omega) (by unfold am_ok; omega) rfl ?_
    refine rn_puti (a := 1) (q := 51) dX7_add_48 fl_X7_15 rfl rfl rfl rfl ?_
    refine rn_iincN (x := 24) (z := 16) (ls' := [some (.inr (.inr 2)), some (.inl v), some (.inl 16)]) (q := 54) dX7_add_51 rfl (by decide) rfl (by unfold am_ok; omega) rfl rfl ?_
    refine rn_goto (t := 21) dX7_add_54 rfl ?_
    refine rn_iload_n (x := 16) (q := 22) dX7_add_21 rfl rfl ?_
    refine rn_iflt (t := 57) (q := 25) dX7_add_22 rfl rfl (fun h => absurd h (by decide)) (fun w22 => ?_)
    refine rn_aload_n (x := 1) (q := 26) dX7_add_25 rfl rfl ?_
    refine rn_get (a := 1) (v := .inr (.inr 3)) (q := 29) dX7_add_26 fl_X7_9 rfl rfl rfl ?_
    refine rn_aload_n (x := 1) (q := 30) dX7_add_29 rfl rfl ?_
    refine rn_get (a := 1) (v := .inl ((T.length + 1 : Nat) : Int)) (q := 33) dX7_add_30 fl_X7_15 rfl rfl rfl ?_
    refine rn_iload_n (x := v) (q := 34) dX7_add_33 rfl rfl ?_
    refine rn_iload_n (x := 16) (q := 35) dX7_add_34 rfl rfl ?_
    refine rn_iushr (q := 36) dX7_add_35 rfl ?_
    refine rn_sipush (q := 39) dX7_add_36 ⟨by decide, by decide⟩ rfl ?_
    refine rn_iand (q := 40) dX7_add_39 rfl ?_
    rw [show am_and (am_ushr v 16) 255 = (sB v 16 : Int) from sB_u16]
    refine rn_iastV (a := 2) (m1 := am_up (am_up (am_up mem 2 T.length (sB v 24 : Int)) 1 1 ((T.length + 1 : Nat) : Int)) 2 (T.length + 1) (sB v 16 : Int)) (q := 41) dX7_add_40 rfl (by omega) (by omega) rfl rfl ?_
    refine rn_aload_n (x := 1) (q := 42) dX7_add_41 rfl rfl ?_
    refine rn_dup (q := 43) dX7_add_42 rfl rfl ?_
    refine rn_get (a := 1) (v := .inl ((T.length + 1 : Nat) : Int)) (q := 46) dX7_add_43 fl_X7_15 rfl rfl rfl ?_
    refine rn_iconst (q := 47) dX7_add_46 (am_okd rfl) rfl ?_
    refine rn_iaddN (z := (((T.length + 1) + 1 : Nat) : Int)) (q := 48) dX7_add_47 (by omega) (by unfold am_ok; omega) rfl ?_
    refine rn_puti (a := 1) (q := 51) dX7_add_48 fl_X7_15 rfl rfl rfl rfl ?_
    refine rn_iincN (x := 16) (z := 8) (ls' := [some (.inr (.inr 2)), some (.inl v), some (.inl 8)]) (q := 54) dX7_add_51 rfl (by decide) rfl (by unfold am_ok; omega) rfl rfl ?_
    refine rn_goto (t := 21) dX7_add_54 rfl ?_
    refine rn_iload_n (x := 8) (q := 22) dX7_add_21 rfl rfl ?_
    refine rn_iflt (t := 57) (q := 25) dX7_add_22 rfl rfl (fun h => absurd h (by decide)) (fun w22 => ?_)
    refine rn_aload_n (x := 1) (q := 26) dX7_add_25 rfl rfl ?_
    refine rn_get (a := 1) (v := .inr (.inr 3)) (q := 29) dX7_add_26 fl_X7_9 rfl rfl rfl ?_
    refine rn_aload_n (x := 1) (q := 30) dX7_add_29 rfl rfl ?_
    refine rn_get (a := 1) (v := .inl (((T.length + 1) + 1 : Nat) : Int)) (q := 33) dX7_add_30 fl_X7_15 rfl rfl rfl ?_
    refine rn_iload_n (x := v) (q := 34) dX7_add_33 rfl rfl ?_
    refine rn_iload_n (x := 8) (q := 35) dX7_add_34 rfl rfl ?_
    refine rn_iushr (q := 36) dX7_add_35 rfl ?_
    refine rn_sipush (q := 39) dX7_add_36 ⟨by decide, by decide⟩ rfl ?_
    refine rn_iand (q := 40) dX7_add_39 rfl ?_
    rw [show am_and (am_ushr v 8) 255 = (sB v 8 : Int) from sB_u8]
    refine rn_iastV (a := 2) (m1 := am_up (am_up (am_up (am_up (am_up mem 2 T.length (sB v 24 : Int)) 1 1 ((T.length + 1 : Nat) : Int)) 2 (T.length + 1) (sB v 16 : Int)) 1 1 (((T.length + 1) + 1 : Nat) : Int)) 2 ((T.length + 1) + 1) (sB v 8 : Int)) (q := 41) dX7_add_40 rfl (by omega) (by omega) rfl rfl ?_
    refine rn_aload_n (x := 1) (q := 42) dX7_add_41 rfl rfl ?_
    refine rn_dup (q := 43) dX7_add_42 rfl rfl ?_
    refine rn_get (a := 1) (v := .inl (((T.length + 1) + 1 : Nat) : Int)) (q := 46) dX7_add_43 fl_X7_15 rfl rfl rfl ?_
    refine rn_iconst (q := 47) dX7_add_46 (am_okd rfl) rfl ?_
    refine rn_iaddN (z := ((((T.length + 1) + 1) + 1 : Nat) : Int)) (q := 48) dX7_add_47 (by omega) (by unfold am_ok; omega) rfl ?_
    refine rn_puti (a := 1) (q := 51) dX7_add_48 fl_X7_15 rfl rfl rfl rfl ?_
    refine rn_iincN (x := 8) (z := 0) (ls' := [some (.inr (.inr 2)), some (.inl v), some (.inl 0)]) (q := 54) dX7_add_51 rfl (by decide) rfl (by unfold am_ok; omega) rfl rfl ?_
    refine rn_goto (t := 21) dX7_add_54 rfl ?_
    refine rn_iload_n (x := 0) (q := 22) dX7_add_21 rfl rfl ?_
    refine rn_iflt (t := 57) (q := 25) dX7_add_22 rfl rfl (fun h => absurd h (by decide)) (fun w22 => ?_)
    refine rn_aload_n (x := 1) (q := 26) dX7_add_25 rfl rfl ?_
    refine rn_get (a := 1) (v := .inr (.inr 3)) (q := 29) dX7_add_26 fl_X7_9 rfl rfl rfl ?_
    refine rn_aload_n (x := 1) (q := 30) dX7_add_29 rfl rfl ?_
    refine rn_get (a := 1) (v := .inl ((((T.length + 1) + 1) + 1 : Nat) : Int)) (q := 33) dX7_add_30 fl_X7_15 rfl rfl rfl ?_
    refine rn_iload_n (x := v) (q := 34) dX7_add_33 rfl rfl ?_
    refine rn_iload_n (x := 0) (q := 35) dX7_add_34 rfl rfl ?_
    refine rn_iushr (q := 36) dX7_add_35 rfl ?_
    refine rn_sipush (q := 39) dX7_add_36 ⟨by decide, by decide⟩ rfl ?_
    refine rn_iand (q := 40) dX7_add_39 rfl ?_
    rw [show am_and (am_ushr v 0) 255 = (sB v 0 : Int) from sB_u0]
    refine rn_iastV (a := 2) (m1 := am_up (am_up (am_up (am_up (am_up (am_up (am_up mem 2 T.length (sB v 24 : Int)) 1 1 ((T.length + 1 : Nat) : Int)) 2 (T.length + 1) (sB v 16 : Int)) 1 1 (((T.length + 1) + 1 : Nat) : Int)) 2 ((T.length + 1) + 1) (sB v 8 : Int)) 1 1 ((((T.length + 1) + 1) + 1 : Nat) : Int)) 2 (((T.length + 1) + 1) + 1) (sB v 0 : Int)) (q := 41) dX7_add_40 rfl (by omega) (by omega) rfl rfl ?_
    refine rn_aload_n (x := 1) (q := 42) dX7_add_41 rfl rfl ?_
    refine rn_dup (q := 43) dX7_add_42 rfl rfl ?_
    refine rn_get (a := 1) (v := .inl ((((T.length + 1) + 1) + 1 : Nat) : Int)) (q := 46) dX7_add_43 fl_X7_15 rfl rfl rfl ?_
    refine rn_iconst (q := 47) dX7_add_46 (am_okd rfl) rfl ?_
    refine rn_iaddN (z := (((((T.length + 1) + 1) + 1) + 1 : Nat) : Int)) (q := 48) dX7_add_47 (by omega) (by unfold am_ok; omega) rfl ?_
    refine rn_puti (a := 1) (q := 51) dX7_add_48 fl_X7_15 rfl rfl rfl rfl ?_
    refine rn_iincN (x := 0) (z := (-8)) (ls' := [some (.inr (.inr 2)), some (.inl v), some (.inl (-8))]) (q := 54) dX7_add_51 rfl (by decide) rfl (by unfold am_ok; omega) rfl rfl ?_
    refine rn_goto (t := 21) dX7_add_54 rfl ?_
    refine rn_iload_n (x := (-8)) (q := 22) dX7_add_21 rfl rfl ?_
    refine rn_iflt (t := 57) (q := 25) dX7_add_22 rfl rfl (fun w22 => ?_) (fun h => absurd h (by decide))
    refine rn_iconst (q := 58) dX7_add_57 (am_okd rfl) rfl ?_
    refine rn_zret dX7_add_58 rfl (by omega) ?_
    refine hQ _ _ ⟨fun z => by omega, fun _ => ⟨rfl, ?_, fun b h1 h2 => ?_⟩⟩
    · exact c_text_push (n := T.length + 1 + 1 + 1) (c_text_push (n := T.length + 1 + 1) (c_text_push (n := T.length + 1) (c_text_push (n := T.length) hT rfl (by omega) sB_lt) (by simp) (by omega) sB_lt) (by simp) (by omega) sB_lt) (by simp) (by omega) sB_lt
    · simp only [am_up_ne h1, am_up_ne h2]
  · refine rn_iconst (q := 17) dX7_add_16 (am_okd rfl) rfl ?_
    refine rn_zret dX7_add_17 rfl (by omega) ?_
    exact hQ _ _ ⟨fun _ => ⟨rfl, rfl⟩, fun z => by omega⟩
theorem c_sign (hT : c_text T mem) (v : Int) : am_Sm l G yX8_sign mt_X8_sign (d + 1) [.inr (.inr 1), .inl v] mem (fun q m => (76 < T.length → q = some (.inl (-1)) ∧ mem = m) ∧ (T.length ≤ 76 → q = some (.inl ((T.length : Int) + 4)) ∧ c_text (sgT T v) m ∧ ∀ b, b ≠ 1 → b ≠ 2 → m b = mem b)) := by
  refine am_enterQ (ls := [some (.inr (.inr 1)), some (.inl v)]) (by decide) rfl (Nat.le_of_ble_eq_true rfl) rfl (fun hok Q hQ => ?_)
  have hl := hT.len
  by_cases hn : T.length ≤ 76
  · refine rn_aload_n (x := 0) (q := 1) dX8_sign_0 rfl rfl ?_
    refine rn_get (a := 0) (v := .inr (.inr 2)) (q := 4) dX8_sign_1 fl_X8_10 rfl rfl rfl ?_
    refine rn_iload_n (x := v) (q := 5) dX8_sign_4 rfl rfl ?_
    refine rn_callV (b := 1) (as := [.inl v]) (rest := []) (q := 8) dX8_sign_5 ml_X8_103 sm_X7_add rfl rfl (by decide) (by omega) rfl rfl (Nat.le_of_ble_eq_true rfl) rfl (c_tadd (d := d + 0) hT v) ?_
    intro r5 mem5 hq5
    obtain ⟨rfl, ht5, hf5⟩ := hq5.2 hn
    show am_Rn l G _ _ 8 [some (.inr (.inr 1)), some (.inl v)] [.inl 1] mem5 _
    refine rn_ifeq (t := 21) (q := 11) dX8_sign_8 rfl rfl (fun h => absurd h (by decide)) (fun w8 => ?_)
    refine rn_aload_n (x := 0) (q := 12) dX8_sign_11 rfl rfl ?_
    refine rn_get (a := 0) (v := .inr (.inr 2)) (q := 15) dX8_sign_12 fl_X8_10 rfl rfl rfl ?_
    refine rn_get (a := 1) (v := .inl ((T.length : Int) + 4)) (q := 18) dX8_sign_15 fl_X8_107 rfl (am_gi (show mem5 1 1 = (T.length : Int) + 4 by rw [ht5.1, sgT_len]; omega)) rfl ?_
    refine rn_goto (t := 22) dX8_sign_18 rfl ?_
    refine rn_iret dX8_sign_22 rfl ?_
    exact hQ _ _ ⟨fun z => by omega, fun _ => ⟨rfl, ht5, hf5⟩⟩
  · refine rn_aload_n (x := 0) (q := 1) dX8_sign_0 rfl rfl ?_
    refine rn_get (a := 0) (v := .inr (.inr 2)) (q := 4) dX8_sign_1 fl_X8_10 rfl rfl rfl ?_
    refine rn_iload_n (x := v) (q := 5) dX8_sign_4 rfl rfl ?_
    refine rn_callV (b := 1) (as := [.inl v]) (rest := []) (q := 8) dX8_sign_5 ml_X8_103 sm_X7_add rfl rfl (by decide) (by omega) rfl rfl (Nat.le_of_ble_eq_true rfl) rfl (c_tadd (d := d + 0) hT v) ?_
    intro r5 mem5 hq5
    obtain ⟨rfl, rfl⟩ := hq5.1 (by omega)
    show am_Rn l G _ _ 8 [some (.inr (.inr 1)), some (.inl v)] [.inl 0] mem _
    refine rn_ifeq (t := 21) (q := 11) dX8_sign_8 rfl rfl (fun w8 => ?_) (fun h => absurd h (by decide))
    refine rn_iconst (q := 22) dX8_sign_21 (am_okd rfl) rfl ?_
    refine rn_iret dX8_sign_22 rfl ?_
    exact hQ _ _ ⟨fun _ => ⟨rfl, rfl⟩, fun z => by omega⟩
theorem m_sign (hT : m_text T mem) (v : Int) : am_Sm l G yX9_sign mt_X9_sign d [.inr (.inr 96), .inl v] mem (fun q m => (76 < T.length → q = some (.inl (-1)) ∧ m = am_up mem 95 11 0) ∧ (T.length ≤ 76 → q = some (.inl ((T.length : Int) + 4)) ∧ m_text (sgT T v) m ∧ (∀ b, b ≠ 95 → b ≠ 101 → m b = mem b) ∧ ∀ k, k ≠ 8 → k ≠ 11 → m 95 k = mem 95 k)) := by
  refine am_enterQ (ls := [some (.inr (.inr 96)), some (.inl v), none]) (by decide) rfl (Nat.le_of_ble_eq_true rfl) rfl (fun hok Q hQ => ?_)
  have hl := hT.len
  have hv : am_ok v := hok (.inl v) (by simp)
  refine rn_aload_n (x := 95) (q := 1) dX9_sign_0 rfl rfl ?_
  refine rn_iconst (q := 2) dX9_sign_1 (am_okd rfl) rfl ?_
  refine rn_puti (a := 95) (q := 5) dX9_sign_2 fl_X9_107 rfl rfl rfl rfl ?_
  refine rn_aload_n (x := 95) (q := 6) dX9_sign_5 rfl rfl ?_
  refine rn_get (a := 95) (v := .inl (T.length : Int)) (q := 9) dX9_sign_6 fl_X9_120 rfl (am_gi hT.1) rfl ?_
  refine rn_iconst (q := 10) dX9_sign_9 (am_okd rfl) rfl ?_
  refine rn_iaddN (z := ((T.length + 4 : Nat) : Int)) (q := 11) dX9_sign_10 (by omega) (by unfold am_ok; omega) rfl ?_
  refine rn_bipush (q := 13) dX9_sign_11 ⟨by decide, by decide⟩ rfl ?_
  refine rn_cmple (t := 18) (q := 16) dX9_sign_13 rfl rfl (fun w13 => ?_) (fun w13 => ?_)
  · refine rn_iconst (q := 19) dX9_sign_18 (am_okd rfl) rfl ?_
    refine rn_istore_n (ls' := [some (.inr (.inr 96)), some (.inl v), some (.inl 3)]) (q := 20) dX9_sign_19 (by decide) rfl rfl ?_
    refine rn_iload_n (x := 3) (q := 21) dX9_sign_20 rfl rfl ?_
    refine rn_iflt (t := 53) (q := 24) dX9_sign_21 rfl rfl (fun h => absurd h (by decide)) (fun w21 => ?_)
    refine rn_aload_n (x := 95) (q := 25) dX9_sign_24 rfl rfl ?_
    refine rn_get (a := 95) (v := .inr (.inr 102)) (q := 28) dX9_sign_25 fl_X9_29 rfl rfl rfl ?_
    refine rn_aload_n (x := 95) (q := 29) dX9_sign_28 rfl rfl ?_
    refine rn_dup (q := 30) dX9_sign_29 rfl rfl ?_
    refine rn_get (a := 95) (v := .inl (T.length : Int)) (q := 33) dX9_sign_30 fl_X9_120 rfl (am_gi hT.1) rfl ?_
    refine rn_dup_x1 (q := 34) dX9_sign_33 rfl rfl rfl ?_
    refine rn_iconst (q := 35) dX9_sign_34 (am_okd rfl) rfl ?_
    refine rn_iaddN (z := ((T.length + 1 : Nat) : Int)) (q := 36) dX9_sign_35 (by omega) (by unfold am_ok; omega) rfl ?_
    refine rn_puti (a := 95) (q := 39) dX9_sign_36 fl_X9_120 rfl rfl rfl rfl ?_
    refine rn_iload_n (x := v) (q := 40) dX9_sign_39 rfl rfl ?_
    refine rn_bipush (q := 42) dX9_sign_40 ⟨by decide, by decide⟩ rfl ?_
    refine rn_iload_n (x := 3) (q := 43) dX9_sign_42 rfl rfl ?_
    refine rn_imulN (z := 24) (q := 44) dX9_sign_43 rfl (by unfold am_ok; omega) rfl ?_
    refine rn_ishr (q := 45) dX9_sign_44 rfl ?_
    refine rn_i2b (q := 46) dX9_sign_45 rfl ?_
    refine rn_bastV (a := 101) (m1 := am_up (am_up (am_up mem 95 11 0) 95 8 ((T.length + 1 : Nat) : Int)) 101 T.length (am_i2b (am_i2b (am_shr v 24)))) (q := 47) dX9_sign_46 rfl (by omega) (by omega) rfl rfl ?_
    refine rn_iincN (x := 3) (z := 2) (ls' := [some (.inr (.inr 96)), some (.inl v), some (.inl 2)]) (q := 50) dX9_sign_47 rfl (by decide) rfl (by unfold am_ok; omega) rfl rfl ?_
    refine rn_goto (t := 20) dX9_sign_50 rfl ?_
    refine rn_iload_n (x := 2) (q := 21) dX9_sign_20 rfl rfl ?_
    refine rn_iflt (t := 53) (q := 24) dX9_sign_21 rfl rfl (fun h => absurd h (by decide)) (fun w21 => ?_)
    refine rn_aload_n (x := 95) (q := 25) dX9_sign_24 rfl rfl ?_
    refine rn_get (a := 95) (v := .inr (.inr 102)) (q := 28) dX9_sign_25 fl_X9_29 rfl rfl rfl ?_
    refine rn_aload_n (x := 95) (q := 29) dX9_sign_28 rfl rfl ?_
    refine rn_dup (q := 30) dX9_sign_29 rfl rfl ?_
    refine rn_get (a := 95) (v := .inl ((T.length + 1 : Nat) : Int)) (q := 33) dX9_sign_30 fl_X9_120 rfl rfl rfl ?_
    refine rn_dup_x1 (q := 34) dX9_sign_33 rfl rfl rfl ?_
    refine rn_iconst (q := 35) dX9_sign_34 (am_okd rfl) rfl ?_
    refine rn_iaddN (z := (((T.length + 1) + 1 : Nat) : Int)) (q := 36) dX9_sign_35 (by omega) (by unfold am_ok; omega) rfl ?_
    refine rn_puti (a := 95) (q := 39) dX9_sign_36 fl_X9_120 rfl rfl rfl rfl ?_
    refine rn_iload_n (x := v) (q := 40) dX9_sign_39 rfl rfl ?_
    refine rn_bipush (q := 42) dX9_sign_40 ⟨by decide, by decide⟩ rfl ?_
    refine rn_iload_n (x := 2) (q := 43) dX9_sign_42 rfl rfl ?_
    refine rn_imulN (z := 16) (q := 44) dX9_sign_43 rfl (by unfold am_ok; omega) rfl ?_
    refine rn_ishr (q := 45) dX9_sign_44 rfl ?_
    refine rn_i2b (q := 46) dX9_sign_45 rfl ?_
    refine rn_bastV (a := 101) (m1 := am_up (am_up (am_up (am_up (am_up mem 95 11 0) 95 8 ((T.length + 1 : Nat) : Int)) 101 T.length (am_i2b (am_i2b (am_shr v 24)))) 95 8 (((T.length + 1) + 1 : Nat) : Int)) 101 (T.length + 1) (am_i2b (am_i2b (am_shr v 16)))) (q := 47) dX9_sign_46 rfl (by omega) (by omega) rfl rfl ?_
    refine rn_iincN (x := 2) (z := 1) (ls' := [some (.inr (.inr 96)), some (.inl v), some (.inl 1)]) (q := 50) dX9_sign_47 rfl (by decide) rfl (by unfold am_ok; omega) rfl rfl ?_
    refine rn_goto (t := 20) dX9_sign_50 rfl ?_
    refine rn_iload_n (x := 1) (q := 21) dX9_sign_20 rfl rfl ?_
    refine rn_iflt (t := 53) (q := 24) dX9_sign_21 rfl rfl (fun h => absurd h (by decide)) (fun w21 => ?_)
    refine rn_aload_n (x := 95) (q := 25) dX9_sign_24 rfl rfl ?_
    refine rn_get (a := 95) (v := .inr (.inr 102)) (q := 28) dX9_sign_25 fl_X9_29 rfl rfl rfl ?_
    refine rn_aload_n (x := 95) (q := 29) dX9_sign_28 rfl rfl ?_
    refine rn_dup (q := 30) dX9_sign_29 rfl rfl ?_
    refine rn_get (a := 95) (v := .inl (((T.length + 1) + 1 : Nat) : Int)) (q := 33) dX9_sign_30 fl_X9_120 rfl rfl rfl ?_
    refine rn_dup_x1 (q := 34) dX9_sign_33 rfl rfl rfl ?_
    refine rn_iconst (q := 35) dX9_sign_34 (am_okd rfl) rfl ?_
    refine rn_iaddN (z := ((((T.length + 1) + 1) + 1 : Nat) : Int)) (q := 36) dX9_sign_35 (by omega) (by unfold am_ok; omega) rfl ?_
    refine rn_puti (a := 95) (q := 39) dX9_sign_36 fl_X9_120 rfl rfl rfl rfl ?_
    refine rn_iload_n (x := v) (q := 40) dX9_sign_39 rfl rfl ?_
    refine rn_bipush (q := 42) dX9_sign_40 ⟨by decide, by decide⟩ rfl ?_
    refine rn_iload_n (x := 1) (q := 43) dX9_sign_42 rfl rfl ?_
    refine rn_imulN (z := 8) (q := 44) dX9_sign_43 rfl (by unfold am_ok; omega) rfl ?_
    refine rn_ishr (q := 45) dX9_sign_44 rfl ?_
    refine rn_i2b (q := 46) dX9_sign_45 rfl ?_
    refine rn_bastV (a := 101) (m1 := am_up (am_up (am_up (am_up (am_up (am_up (am_up mem 95 11 0) 95 8 ((T.length + 1 : Nat) : Int)) 101 T.length (am_i2b (am_i2b (am_shr v 24)))) 95 8 (((T.length + 1) + 1 : Nat) : Int)) 101 (T.length + 1) (am_i2b (am_i2b (am_shr v 16)))) 95 8 ((((T.length + 1) + 1) + 1 : Nat) : Int)) 101 ((T.length + 1) + 1) (am_i2b (am_i2b (am_shr v 8)))) (q := 47) dX9_sign_46 rfl (by omega) (by omega) rfl rfl ?_
    refine rn_iincN (x := 1) (z := 0) (ls' := [some (.inr (.inr 96)), some (.inl v), some (.inl 0)]) (q := 50) dX9_sign_47 rfl (by decide) rfl (by unfold am_ok; omega) rfl rfl ?_
    refine rn_goto (t := 20) dX9_sign_50 rfl ?_
    refine rn_iload_n (x := 0) (q := 21) dX9_sign_20 rfl rfl ?_
    refine rn_iflt (t := 53) (q := 24) dX9_sign_21 rfl rfl (fun h => absurd h (by decide)) (fun w21 => ?_)
    refine rn_aload_n (x := 95) (q := 25) dX9_sign_24 rfl rfl ?_
    refine rn_get (a := 95) (v := .inr (.inr 102)) (q := 28) dX9_sign_25 fl_X9_29 rfl rfl rfl ?_
    refine rn_aload_n (x := 95) (q := 29) dX9_sign_28 rfl rfl ?_
    refine rn_dup (q := 30) dX9_sign_29 rfl rfl ?_
    refine rn_get (a := 95) (v := .inl ((((T.length + 1) + 1) + 1 : Nat) : Int)) (q := 33) dX9_sign_30 fl_X9_120 rfl rfl rfl ?_
    refine rn_dup_x1 (q := 34) dX9_sign_33 rfl rfl rfl ?_
    refine rn_iconst (q := 35) dX9_sign_34 (am_okd rfl) rfl ?_
    refine rn_iaddN (z := (((((T.length + 1) + 1) + 1) + 1 : Nat) : Int)) (q := 36) dX9_sign_35 (by omega) (by unfold am_ok; omega) rfl ?_
    refine rn_puti (a := 95) (q := 39) dX9_sign_36 fl_X9_120 rfl rfl rfl rfl ?_
    refine rn_iload_n (x := v) (q := 40) dX9_sign_39 rfl rfl ?_
    refine rn_bipush (q := 42) dX9_sign_40 ⟨by decide, by decide⟩ rfl ?_
    refine rn_iload_n (x := 0) (q := 43) dX9_sign_42 rfl rfl ?_
    refine rn_imulN (z := 0) (q := 44) dX9_sign_43 rfl (by unfold am_ok; omega) rfl ?_
    refine rn_ishr (q := 45) dX9_sign_44 rfl ?_
    refine rn_i2b (q := 46) dX9_sign_45 rfl ?_
    refine rn_bastV (a := 101) (m1 := am_up (am_up (am_up (am_up (am_up (am_up (am_up (am_up (am_up mem 95 11 0) 95 8 ((T.length + 1 : Nat) : Int)) 101 T.length (am_i2b (am_i2b (am_shr v 24)))) 95 8 (((T.length + 1) + 1 : Nat) : Int)) 101 (T.length + 1) (am_i2b (am_i2b (am_shr v 16)))) 95 8 ((((T.length + 1) + 1) + 1 : Nat) : Int)) 101 ((T.length + 1) + 1) (am_i2b (am_i2b (am_shr v 8)))) 95 8 (((((T.length + 1) + 1) + 1) + 1 : Nat) : Int)) 101 (((T.length + 1) + 1) + 1) (am_i2b (am_i2b (am_shr v 0)))) (q := 47) dX9_sign_46 rfl (by omega) (by omega) rfl rfl ?_
    refine rn_iincN (x := 0) (z := (-1)) (ls' := [some (.inr (.inr 96)), some (.inl v), some (.inl (-1))]) (q := 50) dX9_sign_47 rfl (by decide) rfl (by unfold am_ok; omega) rfl rfl ?_
    refine rn_goto (t := 20) dX9_sign_50 rfl ?_
    refine rn_iload_n (x := (-1)) (q := 21) dX9_sign_20 rfl rfl ?_
    refine rn_iflt (t := 53) (q := 24) dX9_sign_21 rfl rfl (fun w21 => ?_) (fun h => absurd h (by decide))
    refine rn_aload_n (x := 95) (q := 54) dX9_sign_53 rfl rfl ?_
    refine rn_get (a := 95) (v := .inl (((((T.length + 1) + 1) + 1) + 1 : Nat) : Int)) (q := 57) dX9_sign_54 fl_X9_120 rfl rfl rfl ?_
    refine rn_iret dX9_sign_57 rfl ?_
    have hT0 : m_text T (am_up mem 95 11 0) := ⟨hT.1, hT.2⟩
    refine hQ _ _ ⟨fun z => by omega, fun _ => ⟨congrArg (fun z : Int => (some (Sum.inl z) : Option am_V)) (show ((T.length + 1 + 1 + 1 + 1 : Nat) : Int) = (T.length : Int) + 4 by omega), ?_, fun b h1 h2 => ?_, fun k h1 h2 => ?_⟩⟩
    · have A := m_text_push (n := T.length + 1 + 1 + 1) (m_text_push (n := T.length + 1 + 1) (m_text_push (n := T.length + 1) (m_text_push (n := T.length) hT0 rfl (by omega) sB_lt (sB_s24 hv)) (by simp) (by omega) sB_lt (sB_s16 hv)) (by simp) (by omega) sB_lt (sB_s8 hv)) (by simp) (by omega) sB_lt (sB_s0 hv)
      exact A
    · simp only [am_up_ne h1, am_up_ne h2]
    · simp only [am_up_ne (show (95 : Nat) ≠ 101 by decide), am_up_neq h1, am_up_neq h2]
  · refine rn_iconst (q := 17) dX9_sign_16 (am_okd rfl) rfl ?_
    refine rn_iret dX9_sign_17 rfl ?_
    exact hQ _ _ ⟨fun _ => ⟨rfl, rfl⟩, fun z => by omega⟩
end P92
