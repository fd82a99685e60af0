/-! estates: the class's and the reference's small methods -/
section P19
variable {l : Launch} {G : am_G} {d : Nat} {mem : am_M}
set_option maxHeartbeats 1000000 in
theorem s_copy {e : est} {a b : Nat} (ha : am_est a) (hb : am_est b) (hab : a ≠ b) (he : c_est e b mem) : am_Sm l G yX0_copy mt_X0_copy d [.inr (.inr (a + 1)), .inr (.inr (b + 1))] mem (fun r m => r = none ∧ c_est e a m ∧ ∀ x, x ≠ a → x ≠ a + 1 → x ≠ a + 2 → m x = mem x) := by
  refine am_enter (ls := [some (.inr (.inr (a + 1))), some (.inr (.inr (b + 1)))]) (by decide) rfl (Nat.le_of_ble_eq_true rfl) rfl ?_
  have h1 := am_est_ap ha hb hab
  have hba : ¬ b = a := fun h => hab h.symm
  refine rn_aload_n (x := b) (q := 1) dX0_copy_0 rfl rfl ?_
  refine rn_get (a := b) (v := .inr (.inr (b + 1 + 1))) (q := 4) dX0_copy_1 fl_X0_9 (am_est_k hb) (am_est_f0 hb) rfl ?_
  refine rn_iconst (q := 5) dX0_copy_4 (am_okd rfl) rfl ?_
  refine rn_aload_n (x := a) (q := 6) dX0_copy_5 rfl rfl ?_
  refine rn_get (a := a) (v := .inr (.inr (a + 1 + 1))) (q := 9) dX0_copy_6 fl_X0_9 (am_est_k ha) (am_est_f0 ha) rfl ?_
  refine rn_iconst (q := 10) dX0_copy_9 (am_okd rfl) rfl ?_
  refine rn_bipush (q := 12) dX0_copy_10 ⟨by decide, by decide⟩ rfl ?_
  refine rn_copyi (a0 := (b + 1)) (a1 := (a + 1)) (q := 15) dX0_copy_12 am_ac_X0_25 am_arrc (am_est_k1 hb) (am_est_k1 ha) (by omega) (by omega) (by omega) (by omega) (by omega) (Nat.le_of_ble_eq_true rfl) rfl ?_
  refine rn_aload_n (x := b) (q := 16) dX0_copy_15 rfl rfl ?_
  refine rn_get (a := b) (v := .inr (.inr (b + 2 + 1))) (q := 19) dX0_copy_16 fl_X0_15 (am_est_k hb) (am_est_f1 hb) rfl ?_
  refine rn_iconst (q := 20) dX0_copy_19 (am_okd rfl) rfl ?_
  refine rn_aload_n (x := a) (q := 21) dX0_copy_20 rfl rfl ?_
  refine rn_get (a := a) (v := .inr (.inr (a + 2 + 1))) (q := 24) dX0_copy_21 fl_X0_15 (am_est_k ha) (am_est_f1 ha) rfl ?_
  refine rn_iconst (q := 25) dX0_copy_24 (am_okd rfl) rfl ?_
  refine rn_bipush (q := 27) dX0_copy_25 ⟨by decide, by decide⟩ rfl ?_
  refine rn_copyi (a0 := (b + 2)) (a1 := (a + 2)) (q := 30) dX0_copy_27 am_ac_X0_25 am_arrc (am_est_k2 hb) (am_est_k2 ha) (by omega) (by omega) (by omega) (by omega) (by omega) (Nat.le_of_ble_eq_true rfl) rfl ?_
  refine rn_aload_n (x := a) (q := 31) dX0_copy_30 rfl rfl ?_
  refine rn_aload_n (x := b) (q := 32) dX0_copy_31 rfl rfl ?_
  refine rn_get (a := b) (v := .inl ((am_cpy (am_cpy mem (b + 1) 0 (a + 1) 0 8) (b + 2) 0 (a + 2) 0 8) b 2)) (q := 35) dX0_copy_32 fl_X0_31 (am_est_k hb) rfl rfl ?_
  refine rn_puti (a := a) (q := 38) dX0_copy_35 fl_X0_31 (am_est_k ha) rfl rfl rfl ?_
  refine rn_aload_n (x := a) (q := 39) dX0_copy_38 rfl rfl ?_
  refine rn_aload_n (x := b) (q := 40) dX0_copy_39 rfl rfl ?_
  refine rn_get (a := b) (v := .inl ((am_up (am_cpy (am_cpy mem (b + 1) 0 (a + 1) 0 8) (b + 2) 0 (a + 2) 0 8) a 2 ((am_cpy (am_cpy mem (b + 1) 0 (a + 1) 0 8) (b + 2) 0 (a + 2) 0 8) b 2)) b 3)) (q := 43) dX0_copy_40 fl_X0_34 (am_est_k hb) rfl rfl ?_
  refine rn_puti (a := a) (q := 46) dX0_copy_43 fl_X0_34 (am_est_k ha) rfl rfl rfl ?_
  refine rn_aload_n (x := a) (q := 47) dX0_copy_46 rfl rfl ?_
  refine rn_aload_n (x := b) (q := 48) dX0_copy_47 rfl rfl ?_
  refine rn_get (a := b) (v := .inl ((am_up (am_up (am_cpy (am_cpy mem (b + 1) 0 (a + 1) 0 8) (b + 2) 0 (a + 2) 0 8) a 2 ((am_cpy (am_cpy mem (b + 1) 0 (a + 1) 0 8) (b + 2) 0 (a + 2) 0 8) b 2)) a 3 ((am_up (am_cpy (am_cpy mem (b + 1) 0 (a + 1) 0 8) (b + 2) 0 (a + 2) 0 8) a 2 ((am_cpy (am_cpy mem (b + 1) 0 (a + 1) 0 8) (b + 2) 0 (a + 2) 0 8) b 2)) b 3)) b 4)) (q := 51) dX0_copy_48 fl_X0_37 (am_est_k hb) rfl rfl ?_
  refine rn_puti (a := a) (q := 54) dX0_copy_51 fl_X0_37 (am_est_k ha) rfl rfl rfl ?_
  refine rn_aload_n (x := a) (q := 55) dX0_copy_54 rfl rfl ?_
  refine rn_aload_n (x := b) (q := 56) dX0_copy_55 rfl rfl ?_
  refine rn_get (a := b) (v := .inl ((am_up (am_up (am_up (am_cpy (am_cpy mem (b + 1) 0 (a + 1) 0 8) (b + 2) 0 (a + 2) 0 8) a 2 ((am_cpy (am_cpy mem (b + 1) 0 (a + 1) 0 8) (b + 2) 0 (a + 2) 0 8) b 2)) a 3 ((am_up (am_cpy (am_cpy mem (b + 1) 0 (a + 1) 0 8) (b + 2) 0 (a + 2) 0 8) a 2 ((am_cpy (am_cpy mem (b + 1) 0 (a + 1) 0 8) (b + 2) 0 (a + 2) 0 8) b 2)) b 3)) a 4 ((am_up (am_up (am_cpy (am_cpy mem (b + 1) 0 (a + 1) 0 8) (b + 2) 0 (a + 2) 0 8) a 2 ((am_cpy (am_cpy mem (b + 1) 0 (a + 1) 0 8) (b + 2) 0 (a + 2) 0 8) b 2)) a 3 ((am_up (am_cpy (am_cpy mem (b + 1) 0 (a + 1) 0 8) (b + 2) 0 (a + 2) 0 8) a 2 ((am_cpy (am_cpy mem (b + 1) 0 (a + 1) 0 8) (b + 2) 0 (a + 2) 0 8) b 2)) b 3)) b 4)) b 5)) (q := 59) dX0_copy_56 fl_X0_18 (am_est_k hb) rfl rfl ?_
  refine rn_puti (a := a) (q := 62) dX0_copy_59 fl_X0_18 (am_est_k ha) rfl rfl rfl ?_
  refine rn_aload_n (x := a) (q := 63) dX0_copy_62 rfl rfl ?_
  refine rn_aload_n (x := b) (q := 64) dX0_copy_63 rfl rfl ?_
  refine rn_get (a := b) (v := .inl ((am_up (am_up (am_up (am_up (am_cpy (am_cpy mem (b + 1) 0 (a + 1) 0 8) (b + 2) 0 (a + 2) 0 8) a 2 ((am_cpy (am_cpy mem (b + 1) 0 (a + 1) 0 8) (b + 2) 0 (a + 2) 0 8) b 2)) a 3 ((am_up (am_cpy (am_cpy mem (b + 1) 0 (a + 1) 0 8) (b + 2) 0 (a + 2) 0 8) a 2 ((am_cpy (am_cpy mem (b + 1) 0 (a + 1) 0 8) (b + 2) 0 (a + 2) 0 8) b 2)) b 3)) a 4 ((am_up (am_up (am_cpy (am_cpy mem (b + 1) 0 (a + 1) 0 8) (b + 2) 0 (a + 2) 0 8) a 2 ((am_cpy (am_cpy mem (b + 1) 0 (a + 1) 0 8) (b + 2) 0 (a + 2) 0 8) b 2)) a 3 ((am_up (am_cpy (am_cpy mem (b + 1) 0 (a + 1) 0 8) (b + 2) 0 (a + 2) 0 8) a 2 ((am_cpy (am_cpy mem (b + 1) 0 (a + 1) 0 8) (b + 2) 0 (a + 2) 0 8) b 2)) b 3)) b 4)) a 5 ((am_up (am_up (am_up (am_cpy (am_cpy mem (b + 1) 0 (a + 1) 0 8) (b + 2) 0 (a + 2) 0 8) a 2 ((am_cpy (am_cpy mem (b + 1) 0 (a + 1) 0 8) (b + 2) 0 (a + 2) 0 8) b 2)) a 3 ((am_up (am_cpy (am_cpy mem (b + 1) 0 (a + 1) 0 8) (b + 2) 0 (a + 2) 0 8) a 2 ((am_cpy (am_cpy mem (b + 1) 0 (a + 1) 0 8) (b + 2) 0 (a + 2) 0 8) b 2)) b 3)) a 4 ((am_up (am_up (am_cpy (am_cpy mem (b + 1) 0 (a + 1) 0 8) (b + 2) 0 (a + 2) 0 8) a 2 ((am_cpy (am_cpy mem (b + 1) 0 (a + 1) 0 8) (b + 2) 0 (a + 2) 0 8) b 2)) a 3 ((am_up (am_cpy (am_cpy mem (b + 1) 0 (a + 1) 0 8) (b + 2) 0 (a + 2) 0 8) a 2 ((am_cpy (am_cpy mem (b + 1) 0 (a + 1) 0 8) (b + 2) 0 (a + 2) 0 8) b 2)) b 3)) b 4)) b 5)) b 6)) (q := 67) dX0_copy_64 fl_X0_40 (am_est_k hb) rfl rfl ?_
  refine rn_puti (a := a) (q := 70) dX0_copy_67 fl_X0_40 (am_est_k ha) rfl rfl rfl ?_
  refine rn_aload_n (x := a) (q := 71) dX0_copy_70 rfl rfl ?_
  refine rn_aload_n (x := b) (q := 72) dX0_copy_71 rfl rfl ?_
  refine rn_get (a := b) (v := .inl ((am_up (am_up (am_up (am_up (am_up (am_cpy (am_cpy mem (b + 1) 0 (a + 1) 0 8) (b + 2) 0 (a + 2) 0 8) a 2 ((am_cpy (am_cpy mem (b + 1) 0 (a + 1) 0 8) (b + 2) 0 (a + 2) 0 8) b 2)) a 3 ((am_up (am_cpy (am_cpy mem (b + 1) 0 (a + 1) 0 8) (b + 2) 0 (a + 2) 0 8) a 2 ((am_cpy (am_cpy mem (b + 1) 0 (a + 1) 0 8) (b + 2) 0 (a + 2) 0 8) b 2)) b 3)) a 4 ((am_up (am_up (am_cpy (am_cpy mem (b + 1) 0 (a + 1) 0 8) (b + 2) 0 (a + 2) 0 8) a 2 ((am_cpy (am_cpy mem (b + 1) 0 (a + 1) 0 8) (b + 2) 0 (a + 2) 0 8) b 2)) a 3 ((am_up (am_cpy (am_cpy mem (b + 1) 0 (a + 1) 0 8) (b + 2) 0 (a + 2) 0 8) a 2 ((am_cpy (am_cpy mem (b + 1) 0 (a + 1) 0 8) (b + 2) 0 (a + 2) 0 8) b 2)) b 3)) b 4)) a 5 ((am_up (am_up (am_up (am_cpy (am_cpy mem (b + 1) 0 (a + 1) 0 8) (b + 2) 0 (a + 2) 0 8) a 2 ((am_cpy (am_cpy mem (b + 1) 0 (a + 1) 0 8) (b + 2) 0 (a + 2) 0 8) b 2)) a 3 ((am_up (am_cpy (am_cpy mem (b + 1) 0 (a + 1) 0 8) (b + 2) 0 (a + 2) 0 8) a 2 ((am_cpy (am_cpy mem (b + 1) 0 (a + 1) 0 8) (b + 2) 0 (a + 2) 0 8) b 2)) b 3)) a 4 ((am_up (am_up (am_cpy (am_cpy mem (b + 1) 0 (a + 1) 0 8) (b + 2) 0 (a + 2) 0 8) a 2 ((am_cpy (am_cpy mem (b + 1) 0 (a + 1) 0 8) (b + 2) 0 (a + 2) 0 8) b 2)) a 3 ((am_up (am_cpy (am_cpy mem (b + 1) 0 (a + 1) 0 8) (b + 2) 0 (a + 2) 0 8) a 2 ((am_cpy (am_cpy mem (b + 1) 0 (a + 1) 0 8) (b + 2) 0 (a + 2) 0 8) b 2)) b 3)) b 4)) b 5)) a 6 ((am_up (am_up (am_up (am_up (am_cpy (am_cpy mem (b + 1) 0 (a + 1) 0 8) (b + 2) 0 (a + 2) 0 8) a 2 ((am_cpy (am_cpy mem (b + 1) 0 (a + 1) 0 8) (b + 2) 0 (a + 2) 0 8) b 2)) a 3 ((am_up (am_cpy (am_cpy mem (b + 1) 0 (a + 1) 0 8) (b + 2) 0 (a + 2) 0 8) a 2 ((am_cpy (am_cpy mem (b + 1) 0 (a + 1) 0 8) (b + 2) 0 (a + 2) 0 8) b 2)) b 3)) a 4 ((am_up (am_up (am_cpy (am_cpy mem (b + 1) 0 (a + 1) 0 8) (b + 2) 0 (a + 2) 0 8) a 2 ((am_cpy (am_cpy mem (b + 1) 0 (a + 1) 0 8) (b + 2) 0 (a + 2) 0 8) b 2)) a 3 ((am_up (am_cpy (am_cpy mem (b + 1) 0 (a + 1) 0 8) (b + 2) 0 (a + 2) 0 8) a 2 ((am_cpy (am_cpy mem (b + 1) 0 (a + 1) 0 8) (b + 2) 0 (a + 2) 0 8) b 2)) b 3)) b 4)) a 5 ((am_up (am_up (am_up (am_cpy (am_cpy mem (b + 1) 0 (a + 1) 0 8) (b + 2) 0 (a + 2) 0 8) a 2 ((am_cpy (am_cpy mem (b + 1) 0 (a + 1) 0 8) (b + 2) 0 (a + 2) 0 8) b 2)) a 3 ((am_up (am_cpy (am_cpy mem (b + 1) 0 (a + 1) 0 8) (b + 2) 0 (a + 2) 0 8) a 2 ((am_cpy (am_cpy mem (b + 1) 0 (a + 1) 0 8) (b + 2) 0 (a + 2) 0 8) b 2)) b 3)) a 4 ((am_up (am_up (am_cpy (am_cpy mem (b + 1) 0 (a + 1) 0 8) (b + 2) 0 (a + 2) 0 8) a 2 ((am_cpy (am_cpy mem (b + 1) 0 (a + 1) 0 8) (b + 2) 0 (a + 2) 0 8) b 2)) a 3 ((am_up (am_cpy (am_cpy mem (b + 1) 0 (a + 1) 0 8) (b + 2) 0 (a + 2) 0 8) a 2 ((am_cpy (am_cpy mem (b + 1) 0 (a + 1) 0 8) (b + 2) 0 (a + 2) 0 8) b 2)) b 3)) b 4)) b 5)) b 6)) b 7)) (q := 75) dX0_copy_72 fl_X0_22 (am_est_k hb) rfl rfl ?_
  refine rn_puti (a := a) (q := 78) dX0_copy_75 fl_X0_22 (am_est_k ha) rfl rfl rfl ?_
  refine rn_vret dX0_copy_78 rfl ?_
  refine ⟨rfl, ?_, fun x x0 x1 x2 => ?_⟩
  · obtain ⟨e1, e2, e3, e4, e5, e6, e7, e8⟩ := he
    have a1 : ¬ a + 1 = a := by omega
    have a2 : ¬ a + 2 = a := by omega
    have a3 : ¬ a + 1 = a + 2 := by omega
    have a4 : ¬ a + 2 = a + 1 := by omega
    have b1 : ¬ b = a + 1 := fun h => h1.1 h.symm
    have b2 : ¬ b = a + 2 := fun h => h1.2.1 h.symm
    have b3 : ¬ b + 2 = a + 1 := fun h => h1.2.2.2.2.2.2.1 h.symm
    refine ⟨fun i hi => ?_, fun i hi => ?_, ?_, ?_, ?_, ?_, ?_, ?_⟩
    · simp [am_up, am_cpy, a1, a3, hi]; exact e1 i hi
    · simp [am_up, am_cpy, a2, a4, b3, hi]; exact e2 i hi
    · simp [am_up, am_cpy, a1, a3, hba, b1, b2]; exact e3
    · simp [am_up, am_cpy, a1, a3, hba, b1, b2]; exact e4
    · simp [am_up, am_cpy, a1, a3, hba, b1, b2]; exact e5
    · simp [am_up, am_cpy, a1, a3, hba, b1, b2]; exact e6
    · simp [am_up, am_cpy, a1, a3, hba, b1, b2]; exact e7
    · simp [am_up, am_cpy, a1, a3, hba, b1, b2]; exact e8
  · simp [am_up, am_cpy, x0, x1, x2]
theorem s_hear {a : Nat} (ha : am_est a) (i : Nat) (hi : i < 8) (x y : Int) (hx : mem (a + 1) i = x) (h0 : 0 ≤ x ∧ x ≤ 99) (hy : 0 ≤ y ∧ y ≤ 99) : am_Sm l G yX0_hear mt_X0_hear d [.inr (.inr (a + 1)), .inl (i : Int), .inl y] mem (am_rr none (am_up mem (a + 1) i (min 99 (x + y)))) := by
  refine am_enter (ls := [some (.inr (.inr (a + 1))), some (.inl (i : Int)), some (.inl y)]) (by decide) rfl (Nat.le_of_ble_eq_true rfl) rfl ?_
  refine rn_aload_n (x := a) (q := 1) dX0_hear_0 rfl rfl ?_
  refine rn_get (a := a) (v := .inr (.inr (a + 1 + 1))) (q := 4) dX0_hear_1 fl_X0_9 (am_est_k ha) (am_est_f0 ha) rfl ?_
  refine rn_iload_n (x := (i : Int)) (q := 5) dX0_hear_4 rfl rfl ?_
  refine rn_bipush (q := 7) dX0_hear_5 ⟨by decide, by decide⟩ rfl ?_
  refine rn_aload_n (x := a) (q := 8) dX0_hear_7 rfl rfl ?_
  refine rn_get (a := a) (v := .inr (.inr (a + 1 + 1))) (q := 11) dX0_hear_8 fl_X0_9 (am_est_k ha) (am_est_f0 ha) rfl ?_
  refine rn_iload_n (x := (i : Int)) (q := 12) dX0_hear_11 rfl rfl ?_
  refine rn_ialdV (a := (a + 1)) (v := x) (q := 13) dX0_hear_12 (am_est_k1 ha) (by omega) (by omega) hx rfl ?_
  refine rn_iload_n (x := y) (q := 14) dX0_hear_13 rfl rfl ?_
  refine rn_iaddN (z := (x + y)) (q := 15) dX0_hear_14 rfl (by unfold am_ok; omega) rfl ?_
  refine rn_mmin (q := 18) dX0_hear_15 am_mm_X0_43 am_mminw (Nat.le_of_ble_eq_true rfl) rfl ?_
  refine rn_iastV (a := (a + 1)) (m1 := am_up mem (a + 1) i (min 99 (x + y))) (q := 19) dX0_hear_18 (am_est_k1 ha) (by omega) (by omega) rfl rfl ?_
  refine rn_vret dX0_hear_19 rfl ?_
  exact ⟨rfl, rfl⟩
theorem s_earn {a : Nat} (ha : am_est a) (x y : Int) (hx : mem a 5 = x) (h0 : 0 ≤ x ∧ x ≤ 9999) (hy : 0 ≤ y ∧ y ≤ 1000000) : am_Sm l G yX0_earn mt_X0_earn d [.inr (.inr (a + 1)), .inl y] mem (am_rr none (am_up mem a 5 (min 9999 (x + y)))) := by
  refine am_enter (ls := [some (.inr (.inr (a + 1))), some (.inl y)]) (by decide) rfl (Nat.le_of_ble_eq_true rfl) rfl ?_
  refine rn_aload_n (x := a) (q := 1) dX0_earn_0 rfl rfl ?_
  refine rn_sipush (q := 4) dX0_earn_1 ⟨by decide, by decide⟩ rfl ?_
  refine rn_aload_n (x := a) (q := 5) dX0_earn_4 rfl rfl ?_
  refine rn_get (a := a) (v := .inl (mem a 5)) (q := 8) dX0_earn_5 fl_X0_18 (am_est_k ha) rfl rfl ?_
  refine rn_iload_n (x := y) (q := 9) dX0_earn_8 rfl rfl ?_
  refine rn_iaddN (z := ((mem a 5) + y)) (q := 10) dX0_earn_9 rfl (by unfold am_ok; omega) rfl ?_
  refine rn_mmin (q := 13) dX0_earn_10 am_mm_X0_43 am_mminw (Nat.le_of_ble_eq_true rfl) rfl ?_
  refine rn_puti (a := a) (q := 16) dX0_earn_13 fl_X0_18 (am_est_k ha) rfl rfl rfl ?_
  refine rn_vret dX0_earn_16 rfl ?_
  exact ⟨rfl, by rw [hx]⟩
theorem s_lay {f t : Nat} {nf nt : Nat} (hf : am_ks[f]? = some (100, nf)) (ht : am_ks[t]? = some (100, nt)) (hft : f ≠ t) (k : Nat) (hk : k + 29 ≤ nt) (hnf : 29 ≤ nf) (hnt : nt < 1000) : am_Sm l G yX9_lay mt_X9_lay d [.inr (.inr (f + 1)), .inr (.inr (t + 1)), .inl (k : Int)] mem (am_rr none (am_cpy mem f 0 t k 29)) := by
  refine am_enter (ls := [some (.inr (.inr (f + 1))), some (.inr (.inr (t + 1))), some (.inl (k : Int)), none]) (by decide) rfl (Nat.le_of_ble_eq_true rfl) rfl ?_
  have key : ∀ i : Nat, i ≤ 29 → am_Rn l G mt_X9_lay d 2 [some (.inr (.inr (f + 1))), some (.inr (.inr (t + 1))), some (.inl (k : Int)), some (.inl (i : Int))] [] (am_cpy mem f 0 t k i) (am_rr none (am_cpy mem f 0 t k 29)) := by
    refine am_down ?_ (fun i hi ih => ?_)
    · refine rn_iload_n (x := ((29 : Nat) : Int)) (q := 3) dX9_lay_2 rfl rfl ?_
      refine rn_bipush (q := 5) dX9_lay_3 ⟨by decide, by decide⟩ rfl ?_
      refine rn_cmpge (t := 22) (q := 8) dX9_lay_5 rfl rfl (fun h5 => ?_) (fun h => absurd h (by omega))
      refine rn_vret dX9_lay_22 rfl ?_
      exact ⟨rfl, rfl⟩
    · refine rn_iload_n (x := (i : Int)) (q := 3) dX9_lay_2 rfl rfl ?_
      refine rn_bipush (q := 5) dX9_lay_3 ⟨by decide, by decide⟩ rfl ?_
      refine rn_cmpge (t := 22) (q := 8) dX9_lay_5 rfl rfl (fun h => absurd h (by omega)) (fun h5 => ?_)
      refine rn_aload_n (x := t) (q := 9) dX9_lay_8 rfl rfl ?_
      refine rn_iload_n (x := (k : Int)) (q := 10) dX9_lay_9 rfl rfl ?_
      refine rn_iload_n (x := (i : Int)) (q := 11) dX9_lay_10 rfl rfl ?_
      refine rn_iaddN (z := ((k + i : Nat) : Int)) (q := 12) dX9_lay_11 (by omega) (by unfold am_ok; omega) rfl ?_
      refine rn_aload_n (x := f) (q := 13) dX9_lay_12 rfl rfl ?_
      refine rn_iload_n (x := (i : Int)) (q := 14) dX9_lay_13 rfl rfl ?_
      refine rn_ialdV (a := f) (v := mem f (0 + i)) (q := 15) dX9_lay_14 hf (by omega) (by omega) (by rw [am_cpy_ne hft]; simp) rfl ?_
      refine rn_iastV (a := t) (m1 := am_up (am_cpy mem f 0 t k i) t (k + i) (mem f (0 + i))) (q := 16) dX9_lay_15 ht (by omega) (by omega) rfl rfl ?_
      rw [am_cpy_s]
      refine rn_iincN (x := (i : Int)) (z := ((i + 1 : Nat) : Int)) (ls' := [some (.inr (.inr (f + 1))), some (.inr (.inr (t + 1))), some (.inl (k : Int)), some (.inl ((i + 1 : Nat) : Int))]) (q := 19) dX9_lay_16 rfl (by decide) (by omega) (by unfold am_ok; omega) rfl rfl ?_
      refine rn_goto (t := 2) dX9_lay_19 rfl ?_
      exact ih
  refine rn_iconst (q := 1) dX9_lay_0 (am_okd rfl) rfl ?_
  refine rn_istore_n (ls' := [some (.inr (.inr (f + 1))), some (.inr (.inr (t + 1))), some (.inl (k : Int)), some (.inl 0)]) (q := 2) dX9_lay_1 (by decide) rfl rfl ?_
  have h0 := key 0 (by omega)
  rw [am_cpy_0] at h0
  exact h0
end P19
