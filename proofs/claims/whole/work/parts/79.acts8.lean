/-! acts of the class, on an estate -/
def turnE (h : hrs) (e : est) (i : Int) : est := if 0 ≤ i ∧ i < h.1 then (eH e, eS e, Nat.xor (eP e) (2 ^ i.toNat), eN e, eB e, eM e, eK e, eG e) else e
def turnA (h : hrs) (e : est) (i : Int) : Int := if 0 ≤ i ∧ i < h.1 then (pc (Nat.xor (eP e) (2 ^ i.toNat)) : Int) else -1
def humU (h : hrs) (e : est) (i n : Nat) : est := (fun j => if j = i then min 99 (eH e j + n) else eH e j, fun j => if j = i then min 99 (eS e j + 1) else eS e j, eP e, eN e, eB e - n, min 9999 (eM e + 2 * h.2.2.2 i * n), eK e, eG e)
def humOK (h : hrs) (i n : Int) : Prop := (0 ≤ i ∧ i < h.1) ∧ 1 ≤ n ∧ n ≤ 9
def humR (h : hrs) (e : est) (i n : Int) : Prop := humOK h i n ∧ n ≤ (eB e : Int)
/-- the answer and the estate of a hum -/
def humP (h : hrs) (e : est) (i n : Int) (v : Int) (e2 : est) : Prop := (¬ humOK h i n ∧ v = -1 ∧ e2 = e) ∨ (humOK h i n ∧ (eB e : Int) < n ∧ v = -2 ∧ e2 = e) ∨ (humR h e i n ∧ v = (eM (humU h e i.toNat n.toNat) : Int) ∧ e2 = humU h e i.toNat n.toNat)
def wagP (e : est) (n : Int) (v : Int) (e2 : est) : Prop := ((n = 0 ∨ n < -9999 ∨ 9999 < n) ∧ v = -1 ∧ e2 = e) ∨ ((n ≠ 0 ∧ -9999 ≤ n ∧ n ≤ 9999) ∧ ((eK e : Int) + n < 0 ∨ (eM e : Int) - n < 0) ∧ v = -2 ∧ e2 = e) ∨ ((n ≠ 0 ∧ -9999 ≤ n ∧ n ≤ 9999) ∧ 0 ≤ (eK e : Int) + n ∧ 0 ≤ (eM e : Int) - n ∧ (9999 < (eK e : Int) + n ∨ 9999 < (eM e : Int) - n) ∧ v = -3 ∧ e2 = e) ∨ ((n ≠ 0 ∧ -9999 ≤ n ∧ n ≤ 9999) ∧ 0 ≤ (eK e : Int) + n ∧ 0 ≤ (eM e : Int) - n ∧ (eK e : Int) + n ≤ 9999 ∧ (eM e : Int) - n ≤ 9999 ∧ v = (eK e : Int) + n ∧ e2 = (eH e, eS e, eP e, eN e, eB e, ((eM e : Int) - n).toNat, ((eK e : Int) + n).toNat, eG e))
def hanP (e : est) (n : Int) (v : Int) (e2 : est) : Prop := (¬ (1 ≤ n ∧ n ≤ 9999) ∧ v = -1 ∧ e2 = e) ∨ ((1 ≤ n ∧ n ≤ 9999) ∧ ((eB e / 4 : Nat) : Int) < n ∧ v = -2 ∧ e2 = e) ∨ ((1 ≤ n ∧ n ≤ 9999) ∧ n ≤ ((eB e / 4 : Nat) : Int) ∧ v = (eB e : Int) - n ∧ e2 = (eH e, eS e, eP e, eN e, ((eB e : Int) - n).toNat, eM e, eK e, eG e))
theorem turnE_ok {h : hrs} {e : est} {NB : Nat} {i : Int} (q : e_ok h.1 NB e) : e_ok h.1 NB (turnE h e i) := by
  unfold turnE
  split
  · rename_i hi
    exact ⟨q.1, q.2.1, Nat.xor_lt_two_pow q.2.2.1 (Nat.pow_lt_pow_right (a := 2) (by decide) (by omega)), q.2.2.2⟩
  · exact q
theorem humU_ok {h : hrs} {e : est} {NB i n : Nat} (q : e_ok h.1 NB e) : e_ok h.1 NB (humU h e i n) := by
  obtain ⟨q1, q2, q3, q4, q5, q6, q7, q8⟩ := q
  refine ⟨fun j => ?_, fun j => ?_, q3, q4, ?_, ?_, q7, q8⟩
  · show (if j = i then min 99 (eH e j + n) else eH e j) ≤ 99
    have := q1 j; split <;> omega
  · show (if j = i then min 99 (eS e j + 1) else eS e j) ≤ 99
    have := q2 j; split <;> omega
  · show eB e - n ≤ 9999; omega
  · show min 9999 (eM e + 2 * h.2.2.2 i * n) ≤ 9999; omega
theorem humP_ok {h : hrs} {e : est} {NB : Nat} {i n v : Int} {e2 : est} (q : e_ok h.1 NB e) (p : humP h e i n v e2) : e_ok h.1 NB e2 := by
  rcases p with ⟨-, -, rfl⟩ | ⟨-, -, -, rfl⟩ | ⟨-, -, rfl⟩
  · exact q
  · exact q
  · exact humU_ok q
theorem wagP_ok {n : Nat} {e : est} {NB : Nat} {k v : Int} {e2 : est} (q : e_ok n NB e) (p : wagP e k v e2) : e_ok n NB e2 := by
  obtain ⟨q1, q2, q3, q4, q5, q6, q7, q8⟩ := q
  rcases p with ⟨-, -, rfl⟩ | ⟨-, -, -, rfl⟩ | ⟨-, -, -, -, -, rfl⟩ | ⟨a, b, c, d, f, -, rfl⟩
  · exact ⟨q1, q2, q3, q4, q5, q6, q7, q8⟩
  · exact ⟨q1, q2, q3, q4, q5, q6, q7, q8⟩
  · exact ⟨q1, q2, q3, q4, q5, q6, q7, q8⟩
  · exact ⟨q1, q2, q3, q4, q5, by show ((eM e : Int) - k).toNat ≤ 9999; omega, by show ((eK e : Int) + k).toNat ≤ 9999; omega, q8⟩
theorem hanP_ok {n : Nat} {e : est} {NB : Nat} {k v : Int} {e2 : est} (q : e_ok n NB e) (p : hanP e k v e2) : e_ok n NB e2 := by
  obtain ⟨q1, q2, q3, q4, q5, q6, q7, q8⟩ := q
  rcases p with ⟨-, -, rfl⟩ | ⟨-, -, -, rfl⟩ | ⟨a, b, -, rfl⟩
  · exact ⟨q1, q2, q3, q4, q5, q6, q7, q8⟩
  · exact ⟨q1, q2, q3, q4, q5, q6, q7, q8⟩
  · exact ⟨q1, q2, q3, q4, by show ((eB e : Int) - k).toNat ≤ 9999; omega, q6, q7, q8⟩
def fr3 (a : Nat) (mem m : am_M) : Prop := ∀ b, b ≠ a → b ≠ a + 1 → b ≠ a + 2 → m b = mem b
section P79
variable {l : Launch} {G : am_G} {d : Nat} {r : Nat} {X : List Nat} {C : List Int} {sn : Nat} {sg : Nat → Nat} {h : hrs} {e : est} {NB : Nat} {mem m : am_M}
variable {e2 : est} {a : Nat}
theorem c_turn (q : CQ r X C sn sg h e NB mem) (ha : am_est a) (hE : c_est e2 a mem) (hP : eP e2 < 256) (i : Int) : am_Sm l G yX8_turn mt_X8_turn (d + 1) [.inr (.inr 1), .inr (.inr (a + 1)), .inl i] mem (fun q m => q = some (.inl (turnA h e2 i)) ∧ c_est (turnE h e2 i) a m ∧ fr3 a mem m) := by
  refine am_enterQ (ls := [some (.inr (.inr 1)), some (.inr (.inr (a + 1))), some (.inl i)]) (by decide) rfl (Nat.le_of_ble_eq_true rfl) rfl (fun hok Q hQ => ?_)
  have b := q.bd
  have oa := am_est_r ha
  obtain ⟨y1, y2, y3, y4, y5, y6, y7, y8⟩ := hE
  by_cases hi : 0 ≤ i ∧ i < h.1
  · obtain ⟨k, rfl⟩ : ∃ k : Nat, i = (k : Int) := ⟨i.toNat, by omega⟩
    have h2 : 2 ^ k < 256 := Nat.lt_of_lt_of_le (Nat.pow_lt_pow_right (a := 2) (by decide) (show k < 8 by omega)) (by decide)
    have hx : Nat.xor (eP e2) (2 ^ k) < 256 := Nat.xor_lt_two_pow (n := 8) hP h2
    refine rn_aload_n (x := 0) (q := 1) dX8_turn_0 rfl rfl ?_
    refine rn_get (a := 0) (v := .inr (.inr 6)) (q := 4) dX8_turn_1 fl_X8_26 rfl rfl rfl ?_
    refine rn_iload_n (x := (k : Int)) (q := 5) dX8_turn_4 rfl rfl ?_
    refine rn_callV (b := 5) (as := [.inl (k : Int)]) (rest := []) (q := 8) dX8_turn_5 ml_X8_175 sm_X6_has rfl rfl (by decide) (by omega) rfl rfl (Nat.le_of_ble_eq_true rfl) rfl (c_has (d := d + 0) q (k : Int)) ?_
    intro r5 mem5 hq5
    obtain ⟨⟨rfl, hh5⟩ | ⟨rfl, hh5⟩, rfl⟩ := hq5
    · show am_Rn l G _ _ 8 [some (.inr (.inr 1)), some (.inr (.inr (a + 1))), some (.inl (k : Int))] [.inl 1] mem _
      refine rn_ifne (t := 13) (q := 11) dX8_turn_8 rfl rfl (fun w8 => ?_) (fun h => absurd h (by decide))
      refine rn_aload_n (x := a) (q := 14) dX8_turn_13 rfl rfl ?_
      refine rn_dup (q := 15) dX8_turn_14 rfl rfl ?_
      refine rn_get (a := a) (v := .inl (eP e2 : Int)) (q := 18) dX8_turn_15 fl_X8_165 (am_est_k ha) (am_gi y3) rfl ?_
      refine rn_iconst (q := 19) dX8_turn_18 (am_okd rfl) rfl ?_
      refine rn_iload_n (x := (k : Int)) (q := 20) dX8_turn_19 rfl rfl ?_
      refine rn_ishl (q := 21) dX8_turn_20 rfl ?_
      rw [show am_shl 1 (k : Int) = ((2 ^ k : Nat) : Int) from am_shl1 _ (by omega)]
      refine rn_ixor (q := 22) dX8_turn_21 rfl ?_
      rw [show am_xor (eP e2 : Int) ((2 ^ k : Nat) : Int) = ((Nat.xor (eP e2) (2 ^ k) : Nat) : Int) from (am_xorN (by omega) (by omega))]
      refine rn_puti (a := a) (q := 25) dX8_turn_22 fl_X8_165 (am_est_k ha) rfl rfl rfl ?_
      refine rn_aload_n (x := a) (q := 26) dX8_turn_25 rfl rfl ?_
      refine rn_get (a := a) (v := .inl ((Nat.xor (eP e2) (2 ^ k) : Nat) : Int)) (q := 29) dX8_turn_26 fl_X8_165 (am_est_k ha) (am_gi (am_up_self (m := mem) (a := a) (k := 2) (x := ((Nat.xor (eP e2) (2 ^ k) : Nat) : Int)))) rfl ?_
      refine rn_callS (as := [.inl ((Nat.xor (eP e2) (2 ^ k) : Nat) : Int)]) (rest := []) (q := 32) dX8_turn_29 ml_X8_187 sm_J6_bitCount_0f7a4 (by omega) rfl rfl (Nat.le_of_ble_eq_true rfl) rfl (s_bitCount (d := d + 0) (Nat.xor (eP e2) (2 ^ k)) (by omega)) ?_
      intro r29 mem29 hq29
      obtain ⟨rfl, rfl⟩ := hq29
      show am_Rn l G _ _ 32 [some (.inr (.inr 1)), some (.inr (.inr (a + 1))), some (.inl (k : Int))] [.inl (pc (Nat.xor (eP e2) (2 ^ k)) : Int)] (am_up mem a 2 ((Nat.xor (eP e2) (2 ^ k) : Nat) : Int)) _
      refine rn_iret dX8_turn_32 rfl ?_
      refine hQ _ _ ⟨by unfold turnA; rw [if_pos hi]; rfl, ?_, fun b2 h1 _ _ => am_up_ne h1⟩
      unfold turnE
      rw [if_pos hi]
      refine ⟨fun j hj => ?_, fun j hj => ?_, am_up_self, ?_, ?_, ?_, ?_, ?_⟩
      · rw [am_up_ne (by omega)]; exact y1 j hj
      · rw [am_up_ne (by omega)]; exact y2 j hj
      · rw [am_up_neq (by decide)]; exact y4
      · rw [am_up_neq (by decide)]; exact y5
      · rw [am_up_neq (by decide)]; exact y6
      · rw [am_up_neq (by decide)]; exact y7
      · rw [am_up_neq (by decide)]; exact y8
    · show am_Rn l G _ _ 8 [some (.inr (.inr 1)), some (.inr (.inr (a + 1))), some (.inl (k : Int))] [.inl 0] mem _
      refine rn_ifne (t := 13) (q := 11) dX8_turn_8 rfl rfl (fun h => absurd h (by decide)) (fun w8 => ?_)
      refine rn_iconst (q := 12) dX8_turn_11 (am_okd rfl) rfl ?_
      refine rn_iret dX8_turn_12 rfl ?_
      exfalso; omega
  · refine rn_aload_n (x := 0) (q := 1) dX8_turn_0 rfl rfl ?_
    refine rn_get (a := 0) (v := .inr (.inr 6)) (q := 4) dX8_turn_1 fl_X8_26 rfl rfl rfl ?_
    refine rn_iload_n (x := i) (q := 5) dX8_turn_4 rfl rfl ?_
    refine rn_callV (b := 5) (as := [.inl i]) (rest := []) (q := 8) dX8_turn_5 ml_X8_175 sm_X6_has rfl rfl (by decide) (by omega) rfl rfl (Nat.le_of_ble_eq_true rfl) rfl (c_has (d := d + 0) q i) ?_
    intro r5 mem5 hq5
    obtain ⟨⟨rfl, hh5⟩ | ⟨rfl, hh5⟩, rfl⟩ := hq5
    · show am_Rn l G _ _ 8 [some (.inr (.inr 1)), some (.inr (.inr (a + 1))), some (.inl i)] [.inl 1] mem _
      refine rn_ifne (t := 13) (q := 11) dX8_turn_8 rfl rfl (fun w8 => ?_) (fun h => absurd h (by decide))
      exact absurd (by omega) hi
    · show am_Rn l G _ _ 8 [some (.inr (.inr 1)), some (.inr (.inr (a + 1))), some (.inl i)] [.inl 0] mem _
      refine rn_ifne (t := 13) (q := 11) dX8_turn_8 rfl rfl (fun h => absurd h (by decide)) (fun w8 => ?_)
      refine rn_iconst (q := 12) dX8_turn_11 (am_okd rfl) rfl ?_
      refine rn_iret dX8_turn_12 rfl ?_
      refine hQ _ _ ⟨by unfold turnA; rw [if_neg hi], ?_, fun _ _ _ _ => rfl⟩
      unfold turnE
      rw [if_neg hi]
      exact ⟨y1, y2, y3, y4, y5, y6, y7, y8⟩
theorem c_surcharge (q : CQ r X C sn sg h e NB mem) (ha : am_est a) (hE : c_est e2 a mem) (he : e_ok h.1 NB e2) (i n : Int) : am_Sm l G yX8_surcharge mt_X8_surcharge (d + 1) [.inr (.inr 1), .inr (.inr (a + 1)), .inl i, .inl n] mem (fun q m => ∃ v e3, q = some (.inl v) ∧ humP h e2 i n v e3 ∧ c_est e3 a m ∧ fr3 a mem m) := by
  refine am_enterQ (ls := [some (.inr (.inr 1)), some (.inr (.inr (a + 1))), some (.inl i), some (.inl n)]) (by decide) rfl (Nat.le_of_ble_eq_true rfl) rfl (fun hok Q hQ => ?_)
  have b := q.bd
  have oa := am_est_r ha
  have hE0 := hE
  obtain ⟨y1, y2, y3, y4, y5, y6, y7, y8⟩ := hE
  obtain ⟨o1, o2, o3, o4, o5, o6, o7, o8⟩ := he
  by_cases hi : humR h e2 i n
  · have hi2 := hi
    obtain ⟨⟨hi0, hn0⟩, hb⟩ := hi2
    obtain ⟨k, rfl⟩ : ∃ k : Nat, i = (k : Int) := ⟨i.toNat, by omega⟩
    obtain ⟨nN, rfl⟩ : ∃ k : Nat, n = (k : Int) := ⟨n.toNat, by omega⟩
    have h1 := o1 k
    have h2 := o2 k
    have h3 := q.pa9 k
    have hm0 : h.2.2.2 k * nN ≤ 81 := Nat.mul_le_mul h3 (show nN ≤ 9 by omega)
    have hm1 : 2 * h.2.2.2 k * nN ≤ 162 := by rw [Nat.mul_assoc]; omega
    refine rn_aload_n (x := 0) (q := 1) dX8_surcharge_0 rfl rfl ?_
    refine rn_get (a := 0) (v := .inr (.inr 6)) (q := 4) dX8_surcharge_1 fl_X8_26 rfl rfl rfl ?_
    refine rn_iload_n (x := (k : Int)) (q := 5) dX8_surcharge_4 rfl rfl ?_
    refine rn_callV (b := 5) (as := [.inl (k : Int)]) (rest := []) (q := 8) dX8_surcharge_5 ml_X8_175 sm_X6_has rfl rfl (by decide) (by omega) rfl rfl (Nat.le_of_ble_eq_true rfl) rfl (c_has (d := d + 0) q (k : Int)) ?_
    intro r5 mem5 hq5
    obtain ⟨⟨rfl, hh5⟩ | ⟨rfl, hh5⟩, rfl⟩ := hq5
    · show am_Rn l G _ _ 8 [some (.inr (.inr 1)), some (.inr (.inr (a + 1))), some (.inl (k : Int)), some (.inl (nN : Int))] [.inl 1] mem _
      refine rn_ifeq (t := 22) (q := 11) dX8_surcharge_8 rfl rfl (fun h => absurd h (by decide)) (fun w8 => ?_)
      refine rn_iload_n (x := (nN : Int)) (q := 12) dX8_surcharge_11 rfl rfl ?_
      refine rn_iconst (q := 13) dX8_surcharge_12 (am_okd rfl) rfl ?_
      refine rn_cmplt (t := 22) (q := 16) dX8_surcharge_13 rfl rfl (fun w13 => ?_) (fun w13 => ?_)
      · refine rn_iconst (q := 23) dX8_surcharge_22 (am_okd rfl) rfl ?_
        refine rn_iret dX8_surcharge_23 rfl ?_
        exfalso; omega
      · refine rn_iload_n (x := (nN : Int)) (q := 17) dX8_surcharge_16 rfl rfl ?_
        refine rn_bipush (q := 19) dX8_surcharge_17 ⟨by decide, by decide⟩ rfl ?_
        refine rn_cmple (t := 24) (q := 22) dX8_surcharge_19 rfl rfl (fun w19 => ?_) (fun w19 => ?_)
        · refine rn_iload_n (x := (nN : Int)) (q := 25) dX8_surcharge_24 rfl rfl ?_
          refine rn_aload_n (x := a) (q := 26) dX8_surcharge_25 rfl rfl ?_
          refine rn_get (a := a) (v := .inl (eB e2 : Int)) (q := 29) dX8_surcharge_26 fl_X8_256 (am_est_k ha) (am_gi y5) rfl ?_
          refine rn_cmple (t := 35) (q := 32) dX8_surcharge_29 rfl rfl (fun w29 => ?_) (fun w29 => ?_)
          · refine rn_aload_n (x := a) (q := 36) dX8_surcharge_35 rfl rfl ?_
            refine rn_dup (q := 37) dX8_surcharge_36 rfl rfl ?_
            refine rn_get (a := a) (v := .inl (eB e2 : Int)) (q := 40) dX8_surcharge_37 fl_X8_256 (am_est_k ha) (am_gi y5) rfl ?_
            refine rn_iload_n (x := (nN : Int)) (q := 41) dX8_surcharge_40 rfl rfl ?_
            refine rn_isubN (z := ((eB e2 - nN : Nat) : Int)) (q := 42) dX8_surcharge_41 (by omega) (by unfold am_ok; omega) rfl ?_
            refine rn_puti (a := a) (q := 45) dX8_surcharge_42 fl_X8_256 (am_est_k ha) rfl rfl rfl ?_
            refine rn_aload_n (x := a) (q := 46) dX8_surcharge_45 rfl rfl ?_
            refine rn_iload_n (x := (k : Int)) (q := 47) dX8_surcharge_46 rfl rfl ?_
            refine rn_iload_n (x := (nN : Int)) (q := 48) dX8_surcharge_47 rfl rfl ?_
            refine rn_callV (b := a) (as := [.inl (k : Int), .inl (nN : Int)]) (rest := []) (q := 51) dX8_surcharge_48 ml_X8_259 sm_X0_hear rfl (am_est_k ha) (by decide) (by omega) rfl rfl (Nat.le_of_ble_eq_true rfl) rfl (s_hear (d := d + 0) ha k (by omega) (eH e2 k : Int) (nN : Int) (by rw [am_up_ne (by omega)]; exact y1 k (by omega)) (by omega) (by omega)) ?_
            intro r48 mem48 hq48
            obtain ⟨rfl, rfl⟩ := hq48
            show am_Rn l G _ _ 51 [some (.inr (.inr 1)), some (.inr (.inr (a + 1))), some (.inl (k : Int)), some (.inl (nN : Int))] [] (am_up (am_up mem a 4 ((eB e2 - nN : Nat) : Int)) (a + 1) k (min 99 ((eH e2 k : Int) + (nN : Int)))) _
            refine rn_aload_n (x := a) (q := 52) dX8_surcharge_51 rfl rfl ?_
            refine rn_get (a := a) (v := .inr (.inr (a + 2 + 1))) (q := 55) dX8_surcharge_52 fl_X8_162 (am_est_k ha) (am_est_f1 ha) rfl ?_
            refine rn_iload_n (x := (k : Int)) (q := 56) dX8_surcharge_55 rfl rfl ?_
            refine rn_bipush (q := 58) dX8_surcharge_56 ⟨by decide, by decide⟩ rfl ?_
            refine rn_aload_n (x := a) (q := 59) dX8_surcharge_58 rfl rfl ?_
            refine rn_get (a := a) (v := .inr (.inr (a + 2 + 1))) (q := 62) dX8_surcharge_59 fl_X8_162 (am_est_k ha) (am_est_f1 ha) rfl ?_
            refine rn_iload_n (x := (k : Int)) (q := 63) dX8_surcharge_62 rfl rfl ?_
            refine rn_ialdV (a := (a + 2)) (v := (eS e2 k : Int)) (q := 64) dX8_surcharge_63 (am_est_k2 ha) (by omega) (by omega) (show (am_up (am_up mem a 4 ((eB e2 - nN : Nat) : Int)) (a + 1) k (min 99 ((eH e2 k : Int) + (nN : Int)))) (a + 2) k = (eS e2 k : Int) by (repeat (first | rw [am_up_ne (by omega)] | rw [am_up_neq (by omega)])); exact (y2 k (by omega))) rfl ?_
            refine rn_iconst (q := 65) dX8_surcharge_64 (am_okd rfl) rfl ?_
            refine rn_iaddN (z := (((eS e2 k) + 1 : Nat) : Int)) (q := 66) dX8_surcharge_65 (by omega) (by unfold am_ok; omega) rfl ?_
            refine rn_mmin (q := 69) dX8_surcharge_66 am_mm_X8_130 am_mminw (Nat.le_of_ble_eq_true rfl) rfl ?_
            refine rn_iastV (a := (a + 2)) (m1 := am_up (am_up (am_up mem a 4 ((eB e2 - nN : Nat) : Int)) (a + 1) k (min 99 ((eH e2 k : Int) + (nN : Int)))) (a + 2) k (min 99 (((eS e2 k) + 1 : Nat) : Int))) (q := 70) dX8_surcharge_69 (am_est_k2 ha) (by omega) (by omega) rfl rfl ?_
            refine rn_aload_n (x := a) (q := 71) dX8_surcharge_70 rfl rfl ?_
            refine rn_iconst (q := 72) dX8_surcharge_71 (am_okd rfl) rfl ?_
            refine rn_aload_n (x := 0) (q := 73) dX8_surcharge_72 rfl rfl ?_
            refine rn_get (a := 0) (v := .inr (.inr 6)) (q := 76) dX8_surcharge_73 fl_X8_26 rfl rfl rfl ?_
            refine rn_get (a := 5) (v := .inr (.inr 10)) (q := 79) dX8_surcharge_76 fl_X8_156 rfl rfl rfl ?_
            refine rn_iload_n (x := (k : Int)) (q := 80) dX8_surcharge_79 rfl rfl ?_
            refine rn_ialdV (a := 9) (v := (h.2.2.2 k : Int)) (q := 81) dX8_surcharge_80 rfl (by omega) (by omega) (by (repeat rw [am_up_ne (by omega)]); exact q.pay (by omega)) rfl ?_
            refine rn_imulN (z := ((2 * (h.2.2.2 k) : Nat) : Int)) (q := 82) dX8_surcharge_81 (by omega) (by unfold am_ok; omega) rfl ?_
            refine rn_iload_n (x := (nN : Int)) (q := 83) dX8_surcharge_82 rfl rfl ?_
            refine rn_imulN (z := ((2 * h.2.2.2 k * nN : Nat) : Int)) (q := 84) dX8_surcharge_83 (Int.natCast_mul _ _).symm (by rw [← Int.natCast_mul]; unfold am_ok; omega) rfl ?_
            refine rn_callV (b := a) (as := [.inl ((2 * h.2.2.2 k * nN : Nat) : Int)]) (rest := []) (q := 87) dX8_surcharge_84 ml_X8_263 sm_X0_earn rfl (am_est_k ha) (by decide) (by omega) rfl rfl (Nat.le_of_ble_eq_true rfl) rfl (s_earn (d := d + 0) ha (eM e2 : Int) ((2 * h.2.2.2 k * nN : Nat) : Int) (by (repeat first | rw [am_up_ne (by omega)] | rw [am_up_neq (by omega)]); exact y6) (by omega) (by omega)) ?_
            intro r84 mem84 hq84
            obtain ⟨rfl, rfl⟩ := hq84
            show am_Rn l G _ _ 87 [some (.inr (.inr 1)), some (.inr (.inr (a + 1))), some (.inl (k : Int)), some (.inl (nN : Int))] [] (am_up (am_up (am_up (am_up mem a 4 ((eB e2 - nN : Nat) : Int)) (a + 1) k (min 99 ((eH e2 k : Int) + (nN : Int)))) (a + 2) k (min 99 (((eS e2 k) + 1 : Nat) : Int))) a 5 (min 9999 ((eM e2 : Int) + ((2 * h.2.2.2 k * nN : Nat) : Int)))) _
            refine rn_aload_n (x := a) (q := 88) dX8_surcharge_87 rfl rfl ?_
            refine rn_get (a := a) (v := .inl (min 9999 ((eM e2 : Int) + ((2 * h.2.2.2 k * nN : Nat) : Int)))) (q := 91) dX8_surcharge_88 fl_X8_223 (am_est_k ha) (am_gi (am_up_self (m := am_up (am_up (am_up mem a 4 ((eB e2 - nN : Nat) : Int)) (a + 1) k (min 99 ((eH e2 k : Int) + (nN : Int)))) (a + 2) k (min 99 (((eS e2 k) + 1 : Nat) : Int))) (a := a) (k := 5) (x := min 9999 ((eM e2 : Int) + ((2 * h.2.2.2 k * nN : Nat) : Int))))) rfl ?_
            refine rn_iret dX8_surcharge_91 rfl ?_
            refine hQ _ _ ⟨_, humU h e2 k nN, rfl, Or.inr (Or.inr ⟨hi, ?_, rfl⟩), ⟨fun j hj => ?_, fun j hj => ?_, ?_, ?_, ?_, ?_, ?_, ?_⟩, fun b2 h1 h2 h3 => ?_⟩
            · show _ = ((min 9999 (eM e2 + 2 * h.2.2.2 k * nN) : Nat) : Int); omega
            · rw [am_up_ne (by omega), am_up_ne (by omega), am_up_at, am_up_ne (by omega)]
              show _ = (((if j = k then min 99 (eH e2 j + nN) else eH e2 j) : Nat) : Int)
              have := y1 j hj
              by_cases ej : j = k
              · rw [if_pos ej, if_pos ej, ej]; omega
              · rw [if_neg ej, if_neg ej]; exact this
            · rw [am_up_ne (by omega), am_up_at, am_up_ne (by omega), am_up_ne (by omega)]
              show _ = (((if j = k then min 99 (eS e2 j + 1) else eS e2 j) : Nat) : Int)
              have := y2 j hj
              by_cases ej : j = k
              · rw [if_pos ej, if_pos ej, ej]; omega
              · rw [if_neg ej, if_neg ej]; exact this
            · (repeat first | rw [am_up_ne (by omega)] | rw [am_up_neq (by decide)]); exact y3
            · (repeat first | rw [am_up_ne (by omega)] | rw [am_up_neq (by decide)]); exact y4
            · (repeat first | rw [am_up_ne (by omega)] | rw [am_up_neq (by decide)]); rw [am_up_self]; rfl
            · rw [am_up_self]; show _ = ((min 9999 (eM e2 + 2 * h.2.2.2 k * nN) : Nat) : Int); omega
            · (repeat first | rw [am_up_ne (by omega)] | rw [am_up_neq (by decide)]); exact y7
            · (repeat first | rw [am_up_ne (by omega)] | rw [am_up_neq (by decide)]); exact y8
            · rw [am_up_ne h1, am_up_ne h3, am_up_ne h2, am_up_ne h1]
          · refine rn_bipush (q := 34) dX8_surcharge_32 ⟨by decide, by decide⟩ rfl ?_
            refine rn_iret dX8_surcharge_34 rfl ?_
            exfalso; omega
        · refine rn_iconst (q := 23) dX8_surcharge_22 (am_okd rfl) rfl ?_
          refine rn_iret dX8_surcharge_23 rfl ?_
          exfalso; omega
    · show am_Rn l G _ _ 8 [some (.inr (.inr 1)), some (.inr (.inr (a + 1))), some (.inl (k : Int)), some (.inl (nN : Int))] [.inl 0] mem _
      refine rn_ifeq (t := 22) (q := 11) dX8_surcharge_8 rfl rfl (fun w8 => ?_) (fun h => absurd h (by decide))
      refine rn_iconst (q := 23) dX8_surcharge_22 (am_okd rfl) rfl ?_
      refine rn_iret dX8_surcharge_23 rfl ?_
      exfalso; omega
  · refine rn_aload_n (x := 0) (q := 1) dX8_surcharge_0 rfl rfl ?_
    refine rn_get (a := 0) (v := .inr (.inr 6)) (q := 4) dX8_surcharge_1 fl_X8_26 rfl rfl rfl ?_
    refine rn_iload_n (x := i) (q := 5) dX8_surcharge_4 rfl rfl ?_
    refine rn_callV (b := 5) (as := [.inl i]) (rest := []) (q := 8) dX8_surcharge_5 ml_X8_175 sm_X6_has rfl rfl (by decide) (by omega) rfl rfl (Nat.le_of_ble_eq_true rfl) rfl (c_has (d := d + 0) q i) ?_
    intro r5 mem5 hq5
    obtain ⟨⟨rfl, hh5⟩ | ⟨rfl, hh5⟩, rfl⟩ := hq5
    · show am_Rn l G _ _ 8 [some (.inr (.inr 1)), some (.inr (.inr (a + 1))), some (.inl i), some (.inl n)] [.inl 1] mem _
      refine rn_ifeq (t := 22) (q := 11) dX8_surcharge_8 rfl rfl (fun h => absurd h (by decide)) (fun w8 => ?_)
      refine rn_iload_n (x := n) (q := 12) dX8_surcharge_11 rfl rfl ?_
      refine rn_iconst (q := 13) dX8_surcharge_12 (am_okd rfl) rfl ?_
      refine rn_cmplt (t := 22) (q := 16) dX8_surcharge_13 rfl rfl (fun w13 => ?_) (fun w13 => ?_)
      · refine rn_iconst (q := 23) dX8_surcharge_22 (am_okd rfl) rfl ?_
        refine rn_iret dX8_surcharge_23 rfl ?_
        exact hQ _ _ ⟨_, e2, rfl, Or.inl ⟨fun w => by unfold humOK at w; omega, rfl, rfl⟩, hE0, fun _ _ _ _ => rfl⟩
      · refine rn_iload_n (x := n) (q := 17) dX8_surcharge_16 rfl rfl ?_
        refine rn_bipush (q := 19) dX8_surcharge_17 ⟨by decide, by decide⟩ rfl ?_
        refine rn_cmple (t := 24) (q := 22) dX8_surcharge_19 rfl rfl (fun w19 => ?_) (fun w19 => ?_)
        · refine rn_iload_n (x := n) (q := 25) dX8_surcharge_24 rfl rfl ?_
          refine rn_aload_n (x := a) (q := 26) dX8_surcharge_25 rfl rfl ?_
          refine rn_get (a := a) (v := .inl (eB e2 : Int)) (q := 29) dX8_surcharge_26 fl_X8_256 (am_est_k ha) (am_gi y5) rfl ?_
          refine rn_cmple (t := 35) (q := 32) dX8_surcharge_29 rfl rfl (fun w29 => ?_) (fun w29 => ?_)
          · exact absurd ⟨⟨hh5, by omega⟩, by omega⟩ hi
          · refine rn_bipush (q := 34) dX8_surcharge_32 ⟨by decide, by decide⟩ rfl ?_
            refine rn_iret dX8_surcharge_34 rfl ?_
            exact hQ _ _ ⟨_, e2, rfl, Or.inr (Or.inl ⟨⟨hh5, by omega⟩, by omega, rfl, rfl⟩), hE0, fun _ _ _ _ => rfl⟩
        · refine rn_iconst (q := 23) dX8_surcharge_22 (am_okd rfl) rfl ?_
          refine rn_iret dX8_surcharge_23 rfl ?_
          exact hQ _ _ ⟨_, e2, rfl, Or.inl ⟨fun w => by unfold humOK at w; omega, rfl, rfl⟩, hE0, fun _ _ _ _ => rfl⟩
    · show am_Rn l G _ _ 8 [some (.inr (.inr 1)), some (.inr (.inr (a + 1))), some (.inl i), some (.inl n)] [.inl 0] mem _
      refine rn_ifeq (t := 22) (q := 11) dX8_surcharge_8 rfl rfl (fun w8 => ?_) (fun h => absurd h (by decide))
      refine rn_iconst (q := 23) dX8_surcharge_22 (am_okd rfl) rfl ?_
      refine rn_iret dX8_surcharge_23 rfl ?_
      exact hQ _ _ ⟨_, e2, rfl, Or.inl ⟨fun w => by unfold humOK at w; omega, rfl, rfl⟩, hE0, fun _ _ _ _ => rfl⟩
theorem c_wager (ha : am_est a) (hE : c_est e2 a mem) (hM : eM e2 ≤ 9999) (hK : eK e2 ≤ 9999) (n : Int) : am_Sm l G yX8_wager mt_X8_wager d [.inr (.inr 1), .inr (.inr (a + 1)), .inl n] mem (fun q m => ∃ v e3, q = some (.inl v) ∧ wagP e2 n v e3 ∧ c_est e3 a m ∧ fr3 a mem m) := by
  refine am_enterQ (ls := [some (.inr (.inr 1)), some (.inr (.inr (a + 1))), some (.inl n), none, none]) (by decide) rfl (Nat.le_of_ble_eq_true rfl) rfl (fun hok Q hQ => ?_)
  have oa := am_est_r ha
  have hE0 := hE
  obtain ⟨y1, y2, y3, y4, y5, y6, y7, y8⟩ := hE
  refine rn_iload_n (x := n) (q := 1) dX8_wager_0 rfl rfl ?_
  refine rn_ifeq (t := 18) (q := 4) dX8_wager_1 rfl rfl (fun w1 => ?_) (fun w1 => ?_)
  · refine rn_iconst (q := 19) dX8_wager_18 (am_okd rfl) rfl ?_
    refine rn_iret dX8_wager_19 rfl ?_
    exact hQ _ _ ⟨_, e2, rfl, Or.inl ⟨by omega, rfl, rfl⟩, hE0, fun _ _ _ _ => rfl⟩
  · refine rn_iload_n (x := n) (q := 5) dX8_wager_4 rfl rfl ?_
    refine rn_sipush (q := 8) dX8_wager_5 ⟨by decide, by decide⟩ rfl ?_
    refine rn_cmplt (t := 18) (q := 11) dX8_wager_8 rfl rfl (fun w8 => ?_) (fun w8 => ?_)
    · refine rn_iconst (q := 19) dX8_wager_18 (am_okd rfl) rfl ?_
      refine rn_iret dX8_wager_19 rfl ?_
      exact hQ _ _ ⟨_, e2, rfl, Or.inl ⟨by omega, rfl, rfl⟩, hE0, fun _ _ _ _ => rfl⟩
    · refine rn_iload_n (x := n) (q := 12) dX8_wager_11 rfl rfl ?_
      refine rn_sipush (q := 15) dX8_wager_12 ⟨by decide, by decide⟩ rfl ?_
      refine rn_cmple (t := 20) (q := 18) dX8_wager_15 rfl rfl (fun w15 => ?_) (fun w15 => ?_)
      · refine rn_aload_n (x := a) (q := 21) dX8_wager_20 rfl rfl ?_
        refine rn_get (a := a) (v := .inl (eK e2 : Int)) (q := 24) dX8_wager_21 fl_X8_226 (am_est_k ha) (am_gi y7) rfl ?_
        refine rn_iload_n (x := n) (q := 25) dX8_wager_24 rfl rfl ?_
        refine rn_iaddN (z := ((eK e2 : Int) + n)) (q := 26) dX8_wager_25 rfl (by unfold am_ok; omega) rfl ?_
        refine rn_istore_n (ls' := [some (.inr (.inr 1)), some (.inr (.inr (a + 1))), some (.inl n), some (.inl ((eK e2 : Int) + n)), none]) (q := 27) dX8_wager_26 (by decide) rfl rfl ?_
        refine rn_aload_n (x := a) (q := 28) dX8_wager_27 rfl rfl ?_
        refine rn_get (a := a) (v := .inl (eM e2 : Int)) (q := 31) dX8_wager_28 fl_X8_223 (am_est_k ha) (am_gi y6) rfl ?_
        refine rn_iload_n (x := n) (q := 32) dX8_wager_31 rfl rfl ?_
        refine rn_isubN (z := ((eM e2 : Int) - n)) (q := 33) dX8_wager_32 rfl (by unfold am_ok; omega) rfl ?_
        refine rn_istore (ls' := [some (.inr (.inr 1)), some (.inr (.inr (a + 1))), some (.inl n), some (.inl ((eK e2 : Int) + n)), some (.inl ((eM e2 : Int) - n))]) (q := 35) dX8_wager_33 (by decide) rfl rfl ?_
        refine rn_iload_n (x := ((eK e2 : Int) + n)) (q := 36) dX8_wager_35 rfl rfl ?_
        refine rn_iflt (t := 44) (q := 39) dX8_wager_36 rfl rfl (fun w36 => ?_) (fun w36 => ?_)
        · refine rn_bipush (q := 46) dX8_wager_44 ⟨by decide, by decide⟩ rfl ?_
          refine rn_iret dX8_wager_46 rfl ?_
          exact hQ _ _ ⟨_, e2, rfl, Or.inr (Or.inl ⟨by omega, by omega, rfl, rfl⟩), hE0, fun _ _ _ _ => rfl⟩
        · refine rn_iload (x := ((eM e2 : Int) - n)) (q := 41) dX8_wager_39 rfl rfl ?_
          refine rn_ifge (t := 47) (q := 44) dX8_wager_41 rfl rfl (fun w41 => ?_) (fun w41 => ?_)
          · refine rn_iload_n (x := ((eK e2 : Int) + n)) (q := 48) dX8_wager_47 rfl rfl ?_
            refine rn_sipush (q := 51) dX8_wager_48 ⟨by decide, by decide⟩ rfl ?_
            refine rn_cmpgt (t := 62) (q := 54) dX8_wager_51 rfl rfl (fun w51 => ?_) (fun w51 => ?_)
            · refine rn_bipush (q := 64) dX8_wager_62 ⟨by decide, by decide⟩ rfl ?_
              refine rn_iret dX8_wager_64 rfl ?_
              exact hQ _ _ ⟨_, e2, rfl, Or.inr (Or.inr (Or.inl ⟨by omega, by omega, by omega, by omega, rfl, rfl⟩)), hE0, fun _ _ _ _ => rfl⟩
            · refine rn_iload (x := ((eM e2 : Int) - n)) (q := 56) dX8_wager_54 rfl rfl ?_
              refine rn_sipush (q := 59) dX8_wager_56 ⟨by decide, by decide⟩ rfl ?_
              refine rn_cmple (t := 65) (q := 62) dX8_wager_59 rfl rfl (fun w59 => ?_) (fun w59 => ?_)
              · refine rn_aload_n (x := a) (q := 66) dX8_wager_65 rfl rfl ?_
                refine rn_iload_n (x := ((eK e2 : Int) + n)) (q := 67) dX8_wager_66 rfl rfl ?_
                refine rn_puti (a := a) (q := 70) dX8_wager_67 fl_X8_226 (am_est_k ha) rfl rfl rfl ?_
                refine rn_aload_n (x := a) (q := 71) dX8_wager_70 rfl rfl ?_
                refine rn_iload (x := ((eM e2 : Int) - n)) (q := 73) dX8_wager_71 rfl rfl ?_
                refine rn_puti (a := a) (q := 76) dX8_wager_73 fl_X8_223 (am_est_k ha) rfl rfl rfl ?_
                refine rn_iload_n (x := ((eK e2 : Int) + n)) (q := 77) dX8_wager_76 rfl rfl ?_
                refine rn_iret dX8_wager_77 rfl ?_
                refine hQ _ _ ⟨_, _, rfl, Or.inr (Or.inr (Or.inr ⟨by omega, by omega, by omega, by omega, by omega, rfl, rfl⟩)), ⟨fun j hj => ?_, fun j hj => ?_, ?_, ?_, ?_, ?_, ?_, ?_⟩, fun b2 h1 _ _ => by rw [am_up_ne h1, am_up_ne h1]⟩
                · rw [am_up_ne (by omega), am_up_ne (by omega)]; exact y1 j hj
                · rw [am_up_ne (by omega), am_up_ne (by omega)]; exact y2 j hj
                · rw [am_up_neq (by decide), am_up_neq (by decide)]; exact y3
                · rw [am_up_neq (by decide), am_up_neq (by decide)]; exact y4
                · rw [am_up_neq (by decide), am_up_neq (by decide)]; exact y5
                · rw [am_up_self]; show _ = ((((eM e2 : Int) - n).toNat : Nat) : Int); omega
                · rw [am_up_neq (by decide), am_up_self]; show _ = ((((eK e2 : Int) + n).toNat : Nat) : Int); omega
                · rw [am_up_neq (by decide), am_up_neq (by decide)]; exact y8
              · refine rn_bipush (q := 64) dX8_wager_62 ⟨by decide, by decide⟩ rfl ?_
                refine rn_iret dX8_wager_64 rfl ?_
                exact hQ _ _ ⟨_, e2, rfl, Or.inr (Or.inr (Or.inl ⟨by omega, by omega, by omega, by omega, rfl, rfl⟩)), hE0, fun _ _ _ _ => rfl⟩
          · refine rn_bipush (q := 46) dX8_wager_44 ⟨by decide, by decide⟩ rfl ?_
            refine rn_iret dX8_wager_46 rfl ?_
            exact hQ _ _ ⟨_, e2, rfl, Or.inr (Or.inl ⟨by omega, by omega, rfl, rfl⟩), hE0, fun _ _ _ _ => rfl⟩
      · refine rn_iconst (q := 19) dX8_wager_18 (am_okd rfl) rfl ?_
        refine rn_iret dX8_wager_19 rfl ?_
        exact hQ _ _ ⟨_, e2, rfl, Or.inl ⟨by omega, rfl, rfl⟩, hE0, fun _ _ _ _ => rfl⟩
theorem c_handOver (ha : am_est a) (hE : c_est e2 a mem) (hB : eB e2 ≤ 9999) (n : Int) : am_Sm l G yX8_handOver mt_X8_handOver d [.inr (.inr 1), .inr (.inr (a + 1)), .inl n] mem (fun q m => ∃ v e3, q = some (.inl v) ∧ hanP e2 n v e3 ∧ c_est e3 a m ∧ fr3 a mem m) := by
  refine am_enterQ (ls := [some (.inr (.inr 1)), some (.inr (.inr (a + 1))), some (.inl n)]) (by decide) rfl (Nat.le_of_ble_eq_true rfl) rfl (fun hok Q hQ => ?_)
  have oa := am_est_r ha
  have hE0 := hE
  obtain ⟨y1, y2, y3, y4, y5, y6, y7, y8⟩ := hE
  refine rn_iload_n (x := n) (q := 1) dX8_handOver_0 rfl rfl ?_
  refine rn_iconst (q := 2) dX8_handOver_1 (am_okd rfl) rfl ?_
  refine rn_cmplt (t := 12) (q := 5) dX8_handOver_2 rfl rfl (fun w2 => ?_) (fun w2 => ?_)
  · refine rn_iconst (q := 13) dX8_handOver_12 (am_okd rfl) rfl ?_
    refine rn_iret dX8_handOver_13 rfl ?_
    exact hQ _ _ ⟨_, e2, rfl, Or.inl ⟨by omega, rfl, rfl⟩, hE0, fun _ _ _ _ => rfl⟩
  · refine rn_iload_n (x := n) (q := 6) dX8_handOver_5 rfl rfl ?_
    refine rn_sipush (q := 9) dX8_handOver_6 ⟨by decide, by decide⟩ rfl ?_
    refine rn_cmple (t := 14) (q := 12) dX8_handOver_9 rfl rfl (fun w9 => ?_) (fun w9 => ?_)
    · refine rn_iload_n (x := n) (q := 15) dX8_handOver_14 rfl rfl ?_
      refine rn_aload_n (x := a) (q := 16) dX8_handOver_15 rfl rfl ?_
      refine rn_get (a := a) (v := .inl (eB e2 : Int)) (q := 19) dX8_handOver_16 fl_X8_256 (am_est_k ha) (am_gi y5) rfl ?_
      refine rn_iconst (q := 20) dX8_handOver_19 (am_okd rfl) rfl ?_
      refine rn_idivN (z := (((eB e2) / 4 : Nat) : Int)) (q := 21) dX8_handOver_20 (by decide) rfl (by unfold am_ok; omega) rfl ?_
      refine rn_cmple (t := 27) (q := 24) dX8_handOver_21 rfl rfl (fun w21 => ?_) (fun w21 => ?_)
      · refine rn_aload_n (x := a) (q := 28) dX8_handOver_27 rfl rfl ?_
        refine rn_dup (q := 29) dX8_handOver_28 rfl rfl ?_
        refine rn_get (a := a) (v := .inl (eB e2 : Int)) (q := 32) dX8_handOver_29 fl_X8_256 (am_est_k ha) (am_gi y5) rfl ?_
        refine rn_iload_n (x := n) (q := 33) dX8_handOver_32 rfl rfl ?_
        refine rn_isubN (z := ((eB e2 : Int) - n)) (q := 34) dX8_handOver_33 rfl (by unfold am_ok; omega) rfl ?_
        refine rn_puti (a := a) (q := 37) dX8_handOver_34 fl_X8_256 (am_est_k ha) rfl rfl rfl ?_
        refine rn_aload_n (x := a) (q := 38) dX8_handOver_37 rfl rfl ?_
        refine rn_get (a := a) (v := .inl ((eB e2 : Int) - n)) (q := 41) dX8_handOver_38 fl_X8_256 (am_est_k ha) (am_gi (am_up_self (m := mem) (a := a) (k := 4) (x := ((eB e2 : Int) - n)))) rfl ?_
        refine rn_iret dX8_handOver_41 rfl ?_
        refine hQ _ _ ⟨_, _, rfl, Or.inr (Or.inr ⟨by omega, by omega, rfl, rfl⟩), ⟨fun j hj => ?_, fun j hj => ?_, ?_, ?_, ?_, ?_, ?_, ?_⟩, fun b2 h1 _ _ => by rw [am_up_ne h1]⟩
        · rw [am_up_ne (by omega)]; exact y1 j hj
        · rw [am_up_ne (by omega)]; exact y2 j hj
        · rw [am_up_neq (by decide)]; exact y3
        · rw [am_up_neq (by decide)]; exact y4
        · rw [am_up_self]; show _ = ((((eB e2 : Int) - n).toNat : Nat) : Int); omega
        · rw [am_up_neq (by decide)]; exact y6
        · rw [am_up_neq (by decide)]; exact y7
        · rw [am_up_neq (by decide)]; exact y8
      · refine rn_bipush (q := 26) dX8_handOver_24 ⟨by decide, by decide⟩ rfl ?_
        refine rn_iret dX8_handOver_26 rfl ?_
        exact hQ _ _ ⟨_, e2, rfl, Or.inr (Or.inl ⟨by omega, by omega, rfl, rfl⟩), hE0, fun _ _ _ _ => rfl⟩
    · refine rn_iconst (q := 13) dX8_handOver_12 (am_okd rfl) rfl ?_
      refine rn_iret dX8_handOver_13 rfl ?_
      exact hQ _ _ ⟨_, e2, rfl, Or.inl ⟨by omega, rfl, rfl⟩, hE0, fun _ _ _ _ => rfl⟩
end P79
