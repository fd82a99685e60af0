section P25
variable {l : Launch} {G : am_G} {d : Nat} {M : am_M} {T : List Nat} {rd L : Nat}
theorem s_fineT (a : Int) : am_Sm l G yX9_fine mt_X9_fine d [.inr (.inr 96)] (aw M a (-1)) (am_rr (some (.inl 1)) (aw M a (-1))) := s_fine9 a (-1)
theorem s_fineF (a w : Int) (hw : w ≠ -1) : am_Sm l G yX9_fine mt_X9_fine d [.inr (.inr 96)] (aw M a w) (am_rr (some (.inl 0)) (aw M a w)) := by
  have hx := s_fine9 (l := l) (G := G) (d := d) (M := M) a w
  rw [if_neg hw] at hx
  exact hx
theorem s_passY (hr : m_rd T rd L M) (a : Nat) (w c : Int) (ha : a < 1000) (hp : w = -1 ∧ txAt T (a : Int) = c) : am_Sm l G yX9_passes mt_X9_passes (d + 1) [.inr (.inr 96), .inl c] (aw M (a : Int) w) (am_rr (some (.inl 1)) (aw M ((a + 1 : Nat) : Int) w)) := by
  have hx := s_passes9 (l := l) (G := G) (d := d) hr a w c ha
  simp only [if_pos hp] at hx
  exact hx
theorem s_passN (hr : m_rd T rd L M) (a : Nat) (w c : Int) (ha : a < 1000) (hp : ¬ (w = -1 ∧ txAt T (a : Int) = c)) : am_Sm l G yX9_passes mt_X9_passes (d + 1) [.inr (.inr 96), .inl c] (aw M (a : Int) w) (am_rr (some (.inl 0)) (aw M (a : Int) w)) := by
  have hx := s_passes9 (l := l) (G := G) (d := d) hr a w c ha
  simp only [if_neg hp] at hx
  exact hx
theorem s_needY (hr : m_rd T rd L M) (a : Nat) (w c : Int) (ha : a < 1000) (hp : w = -1 ∧ txAt T (a : Int) = c) : am_Sm l G yX9_need mt_X9_need (d + 2) [.inr (.inr 96), .inl c] (aw M (a : Int) w) (am_rr none (aw M ((a + 1 : Nat) : Int) w)) := by
  have hx := s_need9 (l := l) (G := G) (d := d) hr a w c ha
  simp only [if_pos hp] at hx
  exact hx
theorem s_needN (hr : m_rd T rd L M) (a : Nat) (w c : Int) (ha : a < 1000) (hp : ¬ (w = -1 ∧ txAt T (a : Int) = c)) : am_Sm l G yX9_need mt_X9_need (d + 2) [.inr (.inr 96), .inl c] (aw M (a : Int) w) (am_rr none (aw M (a : Int) (if w = -1 then (a : Int) else w))) := by
  have hx := s_need9 (l := l) (G := G) (d := d) hr a w c ha
  rw [if_neg hp] at hx
  exact hx
theorem s_inY (v lo hi : Int) {mem : am_M} (hp : lo ≤ v ∧ v ≤ hi) : am_Sm l G yX9_in mt_X9_in d [.inl v, .inl lo, .inl hi] mem (am_rr (some (.inl 1)) mem) := by
  have hx := s_in (l := l) (G := G) (d := d) (mem := mem) v lo hi
  rw [if_pos hp] at hx
  exact hx
theorem s_inN (v lo hi : Int) {mem : am_M} (hp : ¬ (lo ≤ v ∧ v ≤ hi)) : am_Sm l G yX9_in mt_X9_in d [.inl v, .inl lo, .inl hi] mem (am_rr (some (.inl 0)) mem) := by
  have hx := s_in (l := l) (G := G) (d := d) (mem := mem) v lo hi
  rw [if_neg hp] at hx
  exact hx
theorem s_dig9 (hr : m_rd T rd L M) (a : Nat) (hd : 48 ≤ txAt T (a : Int) ∧ txAt T (a : Int) ≤ 57) (ha : a < 1000) : am_Sm l G yX9_oneOf mt_X9_oneOf (d + 2) [.inr (.inr 96), .inl 48, .inl 10] (aw M (a : Int) (-1)) (am_rr (some (.inl (txAt T (a : Int) - 48))) (aw M ((a + 1 : Nat) : Int) (-1))) := by
  have hx := s_oneOf9 (l := l) (G := G) (d := d) hr a (-1) 48 10 ha (by decide) (by decide) (by decide)
  have hp : (-1 : Int) = -1 ∧ (48 : Int) ≤ txAt T (a : Int) ∧ txAt T (a : Int) < 48 + 10 := ⟨rfl, hd.1, by omega⟩
  rw [if_pos hp] at hx
  rw [if_pos hp] at hx
  exact hx
theorem s_number9 (hr : m_rd T rd L M) (a : Nat) (hd : 48 ≤ txAt T (a : Int) ∧ txAt T (a : Int) ≤ 57) (ha : a < 900) : am_Sm l G yX9_number mt_X9_number (d + 3) [.inr (.inr 96), .inl 3] (aw M (a : Int) (-1)) (am_rr (some (.inl (nm3 T a).1)) (aw M ((nm3 T a).2 : Int) (-1))) := by
  refine am_enter (ls := [some (.inr (.inr 96)), some (.inl 3), none, none]) (by decide) rfl (Nat.le_of_ble_eq_true rfl) rfl ?_
  have o1 := txAt_ok (p := ((a + 1 : Nat) : Int)) hr.2.2.2.2.2.1
  have o2 := txAt_ok (p := ((a + 2 : Nat) : Int)) hr.2.2.2.2.2.1
  by_cases g1 : 48 ≤ txAt T ((a + 1 : Nat) : Int) ∧ txAt T ((a + 1 : Nat) : Int) ≤ 57
  · by_cases g2 : 48 ≤ txAt T ((a + 2 : Nat) : Int) ∧ txAt T ((a + 2 : Nat) : Int) ≤ 57
    · have e : nm3 T a = (10 * (10 * (txAt T (a : Int) - 48) + (txAt T ((a + 1 : Nat) : Int) - 48)) + (txAt T ((a + 2 : Nat) : Int) - 48), a + 3) := by unfold nm3; rw [if_pos g1, if_pos g2]
      rw [e]
      refine rn_aload_n (x := 95) (q := 1) dX9_number_0 rfl rfl ?_
      refine rn_bipush (q := 3) dX9_number_1 ⟨by decide, by decide⟩ rfl ?_
      refine rn_bipush (q := 5) dX9_number_3 ⟨by decide, by decide⟩ rfl ?_
      refine rn_callV (b := 95) (as := [.inl 48, .inl 10]) (rest := []) (q := 8) dX9_number_5 ml_X9_158 sm_X9_oneOf rfl rfl (by decide) (by omega) rfl rfl (Nat.le_of_ble_eq_true rfl) rfl (s_dig9 (d := d) hr a hd (by omega)) ?_
      intro r5 mem5 hq5
      obtain ⟨rfl, rfl⟩ := hq5
      show am_Rn l G _ _ 8 [some (.inr (.inr 96)), some (.inl 3), none, none] [.inl (txAt T (a : Int) - 48)] (aw M ((a + 1 : Nat) : Int) (-1)) _
      refine rn_istore_n (ls' := [some (.inr (.inr 96)), some (.inl 3), some (.inl (txAt T (a : Int) - 48)), none]) (q := 9) dX9_number_8 (by decide) rfl rfl ?_
      refine rn_iconst (q := 10) dX9_number_9 (am_okd rfl) rfl ?_
      refine rn_istore_n (ls' := [some (.inr (.inr 96)), some (.inl 3), some (.inl (txAt T (a : Int) - 48)), some (.inl 1)]) (q := 11) dX9_number_10 (by decide) rfl rfl ?_
      skip
      refine rn_iload_n (x := 1) (q := 12) dX9_number_11 rfl rfl ?_
      refine rn_iload_n (x := 3) (q := 13) dX9_number_12 rfl rfl ?_
      refine rn_cmpge (t := 57) (q := 16) dX9_number_13 rfl rfl (fun h => absurd h (by decide)) (fun w13 => ?_)
      refine rn_aload_n (x := 95) (q := 17) dX9_number_16 rfl rfl ?_
      refine rn_callV (b := 95) (as := []) (rest := []) (q := 20) dX9_number_17 ml_X9_142 sm_X9_fine rfl rfl (by decide) (by omega) rfl rfl (Nat.le_of_ble_eq_true rfl) rfl (s_fineT (d := d + 2) _) ?_
      intro r17 mem17 hq17
      obtain ⟨rfl, rfl⟩ := hq17
      show am_Rn l G _ _ 20 [some (.inr (.inr 96)), some (.inl 3), some (.inl (txAt T (a : Int) - 48)), some (.inl 1)] [.inl 1] (aw M ((a + 1 : Nat) : Int) (-1)) _
      refine rn_ifeq (t := 57) (q := 23) dX9_number_20 rfl rfl (fun h => absurd h (by decide)) (fun w20 => ?_)
      refine rn_aload_n (x := 95) (q := 24) dX9_number_23 rfl rfl ?_
      refine rn_callV (b := 95) (as := []) (rest := []) (q := 27) dX9_number_24 ml_X9_146 sm_X9_here rfl rfl (by decide) (by omega) rfl rfl (Nat.le_of_ble_eq_true rfl) rfl (s_here9 (d := d + 2) hr (a + 1) (-1) (by omega)) ?_
      intro r24 mem24 hq24
      obtain ⟨rfl, rfl⟩ := hq24
      show am_Rn l G _ _ 27 [some (.inr (.inr 96)), some (.inl 3), some (.inl (txAt T (a : Int) - 48)), some (.inl 1)] [.inl (txAt T ((a + 1 : Nat) : Int))] (aw M ((a + 1 : Nat) : Int) (-1)) _
      refine rn_bipush (q := 29) dX9_number_27 ⟨by decide, by decide⟩ rfl ?_
      refine rn_bipush (q := 31) dX9_number_29 ⟨by decide, by decide⟩ rfl ?_
      refine rn_callS (as := [.inl (txAt T ((a + 1 : Nat) : Int)), .inl 48, .inl 57]) (rest := []) (q := 34) dX9_number_31 ml_X9_116 sm_X9_in (by omega) rfl rfl (Nat.le_of_ble_eq_true rfl) rfl (s_inY (d := d + 2) _ _ _ g1) ?_
      intro r31 mem31 hq31
      obtain ⟨rfl, rfl⟩ := hq31
      show am_Rn l G _ _ 34 [some (.inr (.inr 96)), some (.inl 3), some (.inl (txAt T (a : Int) - 48)), some (.inl 1)] [.inl 1] (aw M ((a + 1 : Nat) : Int) (-1)) _
      refine rn_ifeq (t := 57) (q := 37) dX9_number_34 rfl rfl (fun h => absurd h (by decide)) (fun w34 => ?_)
      refine rn_bipush (q := 39) dX9_number_37 ⟨by decide, by decide⟩ rfl ?_
      refine rn_iload_n (x := (txAt T (a : Int) - 48)) (q := 40) dX9_number_39 rfl rfl ?_
      refine rn_imulN (z := (10 * (txAt T (a : Int) - 48))) (q := 41) dX9_number_40 rfl (by unfold am_ok; omega) rfl ?_
      refine rn_aload_n (x := 95) (q := 42) dX9_number_41 rfl rfl ?_
      refine rn_bipush (q := 44) dX9_number_42 ⟨by decide, by decide⟩ rfl ?_
      refine rn_bipush (q := 46) dX9_number_44 ⟨by decide, by decide⟩ rfl ?_
      refine rn_callV (b := 95) (as := [.inl 48, .inl 10]) (rest := [.inl (10 * (txAt T (a : Int) - 48))]) (q := 49) dX9_number_46 ml_X9_158 sm_X9_oneOf rfl rfl (by decide) (by omega) rfl rfl (Nat.le_of_ble_eq_true rfl) rfl (s_dig9 (d := d) hr (a + 1) g1 (by omega)) ?_
      intro r46 mem46 hq46
      obtain ⟨rfl, rfl⟩ := hq46
      show am_Rn l G _ _ 49 [some (.inr (.inr 96)), some (.inl 3), some (.inl (txAt T (a : Int) - 48)), some (.inl 1)] [.inl (txAt T ((a + 1 : Nat) : Int) - 48), .inl (10 * (txAt T (a : Int) - 48))] (aw M ((a + 2 : Nat) : Int) (-1)) _
      refine rn_iaddN (z := ((10 * (txAt T (a : Int) - 48)) + (txAt T ((a + 1 : Nat) : Int) - 48))) (q := 50) dX9_number_49 rfl (by unfold am_ok; omega) rfl ?_
      refine rn_istore_n (ls' := [some (.inr (.inr 96)), some (.inl 3), some (.inl ((10 * (txAt T (a : Int) - 48)) + (txAt T ((a + 1 : Nat) : Int) - 48))), some (.inl 1)]) (q := 51) dX9_number_50 (by decide) rfl rfl ?_
      refine rn_iincN (x := 1) (z := 2) (ls' := [some (.inr (.inr 96)), some (.inl 3), some (.inl ((10 * (txAt T (a : Int) - 48)) + (txAt T ((a + 1 : Nat) : Int) - 48))), some (.inl 2)]) (q := 54) dX9_number_51 rfl (by decide) rfl (by unfold am_ok; omega) rfl rfl ?_
      refine rn_goto (t := 11) dX9_number_54 rfl ?_
      skip
      refine rn_iload_n (x := 2) (q := 12) dX9_number_11 rfl rfl ?_
      refine rn_iload_n (x := 3) (q := 13) dX9_number_12 rfl rfl ?_
      refine rn_cmpge (t := 57) (q := 16) dX9_number_13 rfl rfl (fun h => absurd h (by decide)) (fun w13 => ?_)
      refine rn_aload_n (x := 95) (q := 17) dX9_number_16 rfl rfl ?_
      refine rn_callV (b := 95) (as := []) (rest := []) (q := 20) dX9_number_17 ml_X9_142 sm_X9_fine rfl rfl (by decide) (by omega) rfl rfl (Nat.le_of_ble_eq_true rfl) rfl (s_fineT (d := d + 2) _) ?_
      intro r17 mem17 hq17
      obtain ⟨rfl, rfl⟩ := hq17
      show am_Rn l G _ _ 20 [some (.inr (.inr 96)), some (.inl 3), some (.inl ((10 * (txAt T (a : Int) - 48)) + (txAt T ((a + 1 : Nat) : Int) - 48))), some (.inl 2)] [.inl 1] (aw M ((a + 2 : Nat) : Int) (-1)) _
      refine rn_ifeq (t := 57) (q := 23) dX9_number_20 rfl rfl (fun h => absurd h (by decide)) (fun w20 => ?_)
      refine rn_aload_n (x := 95) (q := 24) dX9_number_23 rfl rfl ?_
      refine rn_callV (b := 95) (as := []) (rest := []) (q := 27) dX9_number_24 ml_X9_146 sm_X9_here rfl rfl (by decide) (by omega) rfl rfl (Nat.le_of_ble_eq_true rfl) rfl (s_here9 (d := d + 2) hr (a + 2) (-1) (by omega)) ?_
      intro r24 mem24 hq24
      obtain ⟨rfl, rfl⟩ := hq24
      show am_Rn l G _ _ 27 [some (.inr (.inr 96)), some (.inl 3), some (.inl ((10 * (txAt T (a : Int) - 48)) + (txAt T ((a + 1 : Nat) : Int) - 48))), some (.inl 2)] [.inl (txAt T ((a + 2 : Nat) : Int))] (aw M ((a + 2 : Nat) : Int) (-1)) _
      refine rn_bipush (q := 29) dX9_number_27 ⟨by decide, by decide⟩ rfl ?_
      refine rn_bipush (q := 31) dX9_number_29 ⟨by decide, by decide⟩ rfl ?_
      refine rn_callS (as := [.inl (txAt T ((a + 2 : Nat) : Int)), .inl 48, .inl 57]) (rest := []) (q := 34) dX9_number_31 ml_X9_116 sm_X9_in (by omega) rfl rfl (Nat.le_of_ble_eq_true rfl) rfl (s_inY (d := d + 2) _ _ _ g2) ?_
      intro r31 mem31 hq31
      obtain ⟨rfl, rfl⟩ := hq31
      show am_Rn l G _ _ 34 [some (.inr (.inr 96)), some (.inl 3), some (.inl ((10 * (txAt T (a : Int) - 48)) + (txAt T ((a + 1 : Nat) : Int) - 48))), some (.inl 2)] [.inl 1] (aw M ((a + 2 : Nat) : Int) (-1)) _
      refine rn_ifeq (t := 57) (q := 37) dX9_number_34 rfl rfl (fun h => absurd h (by decide)) (fun w34 => ?_)
      refine rn_bipush (q := 39) dX9_number_37 ⟨by decide, by decide⟩ rfl ?_
      refine rn_iload_n (x := ((10 * (txAt T (a : Int) - 48)) + (txAt T ((a + 1 : Nat) : Int) - 48))) (q := 40) dX9_number_39 rfl rfl ?_
      refine rn_imulN (z := (10 * ((10 * (txAt T (a : Int) - 48)) + (txAt T ((a + 1 : Nat) : Int) - 48)))) (q := 41) dX9_number_40 rfl (by unfold am_ok; omega) rfl ?_
      refine rn_aload_n (x := 95) (q := 42) dX9_number_41 rfl rfl ?_
      refine rn_bipush (q := 44) dX9_number_42 ⟨by decide, by decide⟩ rfl ?_
      refine rn_bipush (q := 46) dX9_number_44 ⟨by decide, by decide⟩ rfl ?_
      refine rn_callV (b := 95) (as := [.inl 48, .inl 10]) (rest := [.inl (10 * ((10 * (txAt T (a : Int) - 48)) + (txAt T ((a + 1 : Nat) : Int) - 48)))]) (q := 49) dX9_number_46 ml_X9_158 sm_X9_oneOf rfl rfl (by decide) (by omega) rfl rfl (Nat.le_of_ble_eq_true rfl) rfl (s_dig9 (d := d) hr (a + 2) g2 (by omega)) ?_
      intro r46 mem46 hq46
      obtain ⟨rfl, rfl⟩ := hq46
      show am_Rn l G _ _ 49 [some (.inr (.inr 96)), some (.inl 3), some (.inl ((10 * (txAt T (a : Int) - 48)) + (txAt T ((a + 1 : Nat) : Int) - 48))), some (.inl 2)] [.inl (txAt T ((a + 2 : Nat) : Int) - 48), .inl (10 * ((10 * (txAt T (a : Int) - 48)) + (txAt T ((a + 1 : Nat) : Int) - 48)))] (aw M ((a + 3 : Nat) : Int) (-1)) _
      refine rn_iaddN (z := ((10 * ((10 * (txAt T (a : Int) - 48)) + (txAt T ((a + 1 : Nat) : Int) - 48))) + (txAt T ((a + 2 : Nat) : Int) - 48))) (q := 50) dX9_number_49 rfl (by unfold am_ok; omega) rfl ?_
      refine rn_istore_n (ls' := [some (.inr (.inr 96)), some (.inl 3), some (.inl ((10 * ((10 * (txAt T (a : Int) - 48)) + (txAt T ((a + 1 : Nat) : Int) - 48))) + (txAt T ((a + 2 : Nat) : Int) - 48))), some (.inl 2)]) (q := 51) dX9_number_50 (by decide) rfl rfl ?_
      refine rn_iincN (x := 2) (z := 3) (ls' := [some (.inr (.inr 96)), some (.inl 3), some (.inl ((10 * ((10 * (txAt T (a : Int) - 48)) + (txAt T ((a + 1 : Nat) : Int) - 48))) + (txAt T ((a + 2 : Nat) : Int) - 48))), some (.inl 3)]) (q := 54) dX9_number_51 rfl (by decide) rfl (by unfold am_ok; omega) rfl rfl ?_
      refine rn_goto (t := 11) dX9_number_54 rfl ?_
      skip
      refine rn_iload_n (x := 3) (q := 12) dX9_number_11 rfl rfl ?_
      refine rn_iload_n (x := 3) (q := 13) dX9_number_12 rfl rfl ?_
      refine rn_cmpge (t := 57) (q := 16) dX9_number_13 rfl rfl (fun w13 => ?_) (fun h => absurd h (by decide))
      refine rn_iload_n (x := ((10 * ((10 * (txAt T (a : Int) - 48)) + (txAt T ((a + 1 : Nat) : Int) - 48))) + (txAt T ((a + 2 : Nat) : Int) - 48))) (q := 58) dX9_number_57 rfl rfl ?_
      refine rn_iret dX9_number_58 rfl ?_
      exact ⟨rfl, rfl⟩
    · have e : nm3 T a = (10 * (txAt T (a : Int) - 48) + (txAt T ((a + 1 : Nat) : Int) - 48), a + 2) := by unfold nm3; rw [if_pos g1, if_neg g2]
      rw [e]
      refine rn_aload_n (x := 95) (q := 1) dX9_number_0 rfl rfl ?_
      refine rn_bipush (q := 3) dX9_number_1 ⟨by decide, by decide⟩ rfl ?_
      refine rn_bipush (q := 5) dX9_number_3 ⟨by decide, by decide⟩ rfl ?_
      refine rn_callV (b := 95) (as := [.inl 48, .inl 10]) (rest := []) (q := 8) dX9_number_5 ml_X9_158 sm_X9_oneOf rfl rfl (by decide) (by omega) rfl rfl (Nat.le_of_ble_eq_true rfl) rfl (s_dig9 (d := d) hr a hd (by omega)) ?_
      intro r5 mem5 hq5
      obtain ⟨rfl, rfl⟩ := hq5
      show am_Rn l G _ _ 8 [some (.inr (.inr 96)), some (.inl 3), none, none] [.inl (txAt T (a : Int) - 48)] (aw M ((a + 1 : Nat) : Int) (-1)) _
      refine rn_istore_n (ls' := [some (.inr (.inr 96)), some (.inl 3), some (.inl (txAt T (a : Int) - 48)), none]) (q := 9) dX9_number_8 (by decide) rfl rfl ?_
      refine rn_iconst (q := 10) dX9_number_9 (am_okd rfl) rfl ?_
      refine rn_istore_n (ls' := [some (.inr (.inr 96)), some (.inl 3), some (.inl (txAt T (a : Int) - 48)), some (.inl 1)]) (q := 11) dX9_number_10 (by decide) rfl rfl ?_
      skip
      refine rn_iload_n (x := 1) (q := 12) dX9_number_11 rfl rfl ?_
      refine rn_iload_n (x := 3) (q := 13) dX9_number_12 rfl rfl ?_
      refine rn_cmpge (t := 57) (q := 16) dX9_number_13 rfl rfl (fun h => absurd h (by decide)) (fun w13 => ?_)
      refine rn_aload_n (x := 95) (q := 17) dX9_number_16 rfl rfl ?_
      refine rn_callV (b := 95) (as := []) (rest := []) (q := 20) dX9_number_17 ml_X9_142 sm_X9_fine rfl rfl (by decide) (by omega) rfl rfl (Nat.le_of_ble_eq_true rfl) rfl (s_fineT (d := d + 2) _) ?_
      intro r17 mem17 hq17
      obtain ⟨rfl, rfl⟩ := hq17
      show am_Rn l G _ _ 20 [some (.inr (.inr 96)), some (.inl 3), some (.inl (txAt T (a : Int) - 48)), some (.inl 1)] [.inl 1] (aw M ((a + 1 : Nat) : Int) (-1)) _
      refine rn_ifeq (t := 57) (q := 23) dX9_number_20 rfl rfl (fun h => absurd h (by decide)) (fun w20 => ?_)
      refine rn_aload_n (x := 95) (q := 24) dX9_number_23 rfl rfl ?_
      refine rn_callV (b := 95) (as := []) (rest := []) (q := 27) dX9_number_24 ml_X9_146 sm_X9_here rfl rfl (by decide) (by omega) rfl rfl (Nat.le_of_ble_eq_true rfl) rfl (s_here9 (d := d + 2) hr (a + 1) (-1) (by omega)) ?_
      intro r24 mem24 hq24
      obtain ⟨rfl, rfl⟩ := hq24
      show am_Rn l G _ _ 27 [some (.inr (.inr 96)), some (.inl 3), some (.inl (txAt T (a : Int) - 48)), some (.inl 1)] [.inl (txAt T ((a + 1 : Nat) : Int))] (aw M ((a + 1 : Nat) : Int) (-1)) _
      refine rn_bipush (q := 29) dX9_number_27 ⟨by decide, by decide⟩ rfl ?_
      refine rn_bipush (q := 31) dX9_number_29 ⟨by decide, by decide⟩ rfl ?_
      refine rn_callS (as := [.inl (txAt T ((a + 1 : Nat) : Int)), .inl 48, .inl 57]) (rest := []) (q := 34) dX9_number_31 ml_X9_116 sm_X9_in (by omega) rfl rfl (Nat.le_of_ble_eq_true rfl) rfl (s_inY (d := d + 2) _ _ _ g1) ?_
      intro r31 mem31 hq31
      obtain ⟨rfl, rfl⟩ := hq31
      show am_Rn l G _ _ 34 [some (.inr (.inr 96)), some (.inl 3), some (.inl (txAt T (a : Int) - 48)), some (.inl 1)] [.inl 1] (aw M ((a + 1 : Nat) : Int) (-1)) _
      refine rn_ifeq (t := 57) (q := 37) dX9_number_34 rfl rfl (fun h => absurd h (by decide)) (fun w34 => ?_)
      refine rn_bipush (q := 39) dX9_number_37 ⟨by decide, by decide⟩ rfl ?_
      refine rn_iload_n (x := (txAt T (a : Int) - 48)) (q := 40) dX9_number_39 rfl rfl ?_
      refine rn_imulN (z := (10 * (txAt T (a : Int) - 48))) (q := 41) dX9_number_40 rfl (by unfold am_ok; omega) rfl ?_
      refine rn_aload_n (x := 95) (q := 42) dX9_number_41 rfl rfl ?_
      refine rn_bipush (q := 44) dX9_number_42 ⟨by decide, by decide⟩ rfl ?_
      refine rn_bipush (q := 46) dX9_number_44 ⟨by decide, by decide⟩ rfl ?_
      refine rn_callV (b := 95) (as := [.inl 48, .inl 10]) (rest := [.inl (10 * (txAt T (a : Int) - 48))]) (q := 49) dX9_number_46 ml_X9_158 sm_X9_oneOf rfl rfl (by decide) (by omega) rfl rfl (Nat.le_of_ble_eq_true rfl) rfl (s_dig9 (d := d) hr (a + 1) g1 (by omega)) ?_
      intro r46 mem46 hq46
      obtain ⟨rfl, rfl⟩ := hq46
      show am_Rn l G _ _ 49 [some (.inr (.inr 96)), some (.inl 3), some (.inl (txAt T (a : Int) - 48)), some (.inl 1)] [.inl (txAt T ((a + 1 : Nat) : Int) - 48), .inl (10 * (txAt T (a : Int) - 48))] (aw M ((a + 2 : Nat) : Int) (-1)) _
      refine rn_iaddN (z := ((10 * (txAt T (a : Int) - 48)) + (txAt T ((a + 1 : Nat) : Int) - 48))) (q := 50) dX9_number_49 rfl (by unfold am_ok; omega) rfl ?_
      refine rn_istore_n (ls' := [some (.inr (.inr 96)), some (.inl 3), some (.inl ((10 * (txAt T (a : Int) - 48)) + (txAt T ((a + 1 : Nat) : Int) - 48))), some (.inl 1)]) (q := 51) dX9_number_50 (by decide) rfl rfl ?_
      refine rn_iincN (x := 1) (z := 2) (ls' := [some (.inr (.inr 96)), some (.inl 3), some (.inl ((10 * (txAt T (a : Int) - 48)) + (txAt T ((a + 1 : Nat) : Int) - 48))), some (.inl 2)]) (q := 54) dX9_number_51 rfl (by decide) rfl (by unfold am_ok; omega) rfl rfl ?_
      refine rn_goto (t := 11) dX9_number_54 rfl ?_
      skip
      refine rn_iload_n (x := 2) (q := 12) dX9_number_11 rfl rfl ?_
      refine rn_iload_n (x := 3) (q := 13) dX9_number_12 rfl rfl ?_
      refine rn_cmpge (t := 57) (q := 16) dX9_number_13 rfl rfl (fun h => absurd h (by decide)) (fun w13 => ?_)
      refine rn_aload_n (x := 95) (q := 17) dX9_number_16 rfl rfl ?_
      refine rn_callV (b := 95) (as := []) (rest := []) (q := 20) dX9_number_17 ml_X9_142 sm_X9_fine rfl rfl (by decide) (by omega) rfl rfl (Nat.le_of_ble_eq_true rfl) rfl (s_fineT (d := d + 2) _) ?_
      intro r17 mem17 hq17
      obtain ⟨rfl, rfl⟩ := hq17
      show am_Rn l G _ _ 20 [some (.inr (.inr 96)), some (.inl 3), some (.inl ((10 * (txAt T (a : Int) - 48)) + (txAt T ((a + 1 : Nat) : Int) - 48))), some (.inl 2)] [.inl 1] (aw M ((a + 2 : Nat) : Int) (-1)) _
      refine rn_ifeq (t := 57) (q := 23) dX9_number_20 rfl rfl (fun h => absurd h (by decide)) (fun w20 => ?_)
      refine rn_aload_n (x := 95) (q := 24) dX9_number_23 rfl rfl ?_
      refine rn_callV (b := 95) (as := []) (rest := []) (q := 27) dX9_number_24 ml_X9_146 sm_X9_here rfl rfl (by decide) (by omega) rfl rfl (Nat.le_of_ble_eq_true rfl) rfl (s_here9 (d := d + 2) hr (a + 2) (-1) (by omega)) ?_
      intro r24 mem24 hq24
      obtain ⟨rfl, rfl⟩ := hq24
      show am_Rn l G _ _ 27 [some (.inr (.inr 96)), some (.inl 3), some (.inl ((10 * (txAt T (a : Int) - 48)) + (txAt T ((a + 1 : Nat) : Int) - 48))), some (.inl 2)] [.inl (txAt T ((a + 2 : Nat) : Int))] (aw M ((a + 2 : Nat) : Int) (-1)) _
      refine rn_bipush (q := 29) dX9_number_27 ⟨by decide, by decide⟩ rfl ?_
      refine rn_bipush (q := 31) dX9_number_29 ⟨by decide, by decide⟩ rfl ?_
      refine rn_callS (as := [.inl (txAt T ((a + 2 : Nat) : Int)), .inl 48, .inl 57]) (rest := []) (q := 34) dX9_number_31 ml_X9_116 sm_X9_in (by omega) rfl rfl (Nat.le_of_ble_eq_true rfl) rfl (s_inN (d := d + 2) _ _ _ g2) ?_
      intro r31 mem31 hq31
      obtain ⟨rfl, rfl⟩ := hq31
      show am_Rn l G _ _ 34 [some (.inr (.inr 96)), some (.inl 3), some (.inl ((10 * (txAt T (a : Int) - 48)) + (txAt T ((a + 1 : Nat) : Int) - 48))), some (.inl 2)] [.inl 0] (aw M ((a + 2 : Nat) : Int) (-1)) _
      refine rn_ifeq (t := 57) (q := 37) dX9_number_34 rfl rfl (fun w34 => ?_) (fun h => absurd h (by decide))
      refine rn_iload_n (x := ((10 * (txAt T (a : Int) - 48)) + (txAt T ((a + 1 : Nat) : Int) - 48))) (q := 58) dX9_number_57 rfl rfl ?_
      refine rn_iret dX9_number_58 rfl ?_
      exact ⟨rfl, rfl⟩
  · have e : nm3 T a = (txAt T (a : Int) - 48, a + 1) := by unfold nm3; rw [if_neg g1]
    rw [e]
    refine rn_aload_n (x := 95) (q := 1) dX9_number_0 rfl rfl ?_
    refine rn_bipush (q := 3) dX9_number_1 ⟨by decide, by decide⟩ rfl ?_
    refine rn_bipush (q := 5) dX9_number_3 ⟨by decide, by decide⟩ rfl ?_
    refine rn_callV (b := 95) (as := [.inl 48, .inl 10]) (rest := []) (q := 8) dX9_number_5 ml_X9_158 sm_X9_oneOf rfl rfl (by decide) (by omega) rfl rfl (Nat.le_of_ble_eq_true rfl) rfl (s_dig9 (d := d) hr a hd (by omega)) ?_
    intro r5 mem5 hq5
    obtain ⟨rfl, rfl⟩ := hq5
    show am_Rn l G _ _ 8 [some (.inr (.inr 96)), some (.inl 3), none, none] [.inl (txAt T (a : Int) - 48)] (aw M ((a + 1 : Nat) : Int) (-1)) _
    refine rn_istore_n (ls' := [some (.inr (.inr 96)), some (.inl 3), some (.inl (txAt T (a : Int) - 48)), none]) (q := 9) dX9_number_8 (by decide) rfl rfl ?_
    refine rn_iconst (q := 10) dX9_number_9 (am_okd rfl) rfl ?_
    refine rn_istore_n (ls' := [some (.inr (.inr 96)), some (.inl 3), some (.inl (txAt T (a : Int) - 48)), some (.inl 1)]) (q := 11) dX9_number_10 (by decide) rfl rfl ?_
    refine rn_iload_n (x := 1) (q := 12) dX9_number_11 rfl rfl ?_
    refine rn_iload_n (x := 3) (q := 13) dX9_number_12 rfl rfl ?_
    refine rn_cmpge (t := 57) (q := 16) dX9_number_13 rfl rfl (fun h => absurd h (by decide)) (fun w13 => ?_)
    refine rn_aload_n (x := 95) (q := 17) dX9_number_16 rfl rfl ?_
    refine rn_callV (b := 95) (as := []) (rest := []) (q := 20) dX9_number_17 ml_X9_142 sm_X9_fine rfl rfl (by decide) (by omega) rfl rfl (Nat.le_of_ble_eq_true rfl) rfl (s_fineT (d := d + 2) _) ?_
    intro r17 mem17 hq17
    obtain ⟨rfl, rfl⟩ := hq17
    show am_Rn l G _ _ 20 [some (.inr (.inr 96)), some (.inl 3), some (.inl (txAt T (a : Int) - 48)), some (.inl 1)] [.inl 1] (aw M ((a + 1 : Nat) : Int) (-1)) _
    refine rn_ifeq (t := 57) (q := 23) dX9_number_20 rfl rfl (fun h => absurd h (by decide)) (fun w20 => ?_)
    refine rn_aload_n (x := 95) (q := 24) dX9_number_23 rfl rfl ?_
    refine rn_callV (b := 95) (as := []) (rest := []) (q := 27) dX9_number_24 ml_X9_146 sm_X9_here rfl rfl (by decide) (by omega) rfl rfl (Nat.le_of_ble_eq_true rfl) rfl (s_here9 (d := d + 2) hr (a + 1) (-1) (by omega)) ?_
    intro r24 mem24 hq24
    obtain ⟨rfl, rfl⟩ := hq24
    show am_Rn l G _ _ 27 [some (.inr (.inr 96)), some (.inl 3), some (.inl (txAt T (a : Int) - 48)), some (.inl 1)] [.inl (txAt T ((a + 1 : Nat) : Int))] (aw M ((a + 1 : Nat) : Int) (-1)) _
    refine rn_bipush (q := 29) dX9_number_27 ⟨by decide, by decide⟩ rfl ?_
    refine rn_bipush (q := 31) dX9_number_29 ⟨by decide, by decide⟩ rfl ?_
    refine rn_callS (as := [.inl (txAt T ((a + 1 : Nat) : Int)), .inl 48, .inl 57]) (rest := []) (q := 34) dX9_number_31 ml_X9_116 sm_X9_in (by omega) rfl rfl (Nat.le_of_ble_eq_true rfl) rfl (s_inN (d := d + 2) _ _ _ g1) ?_
    intro r31 mem31 hq31
    obtain ⟨rfl, rfl⟩ := hq31
    show am_Rn l G _ _ 34 [some (.inr (.inr 96)), some (.inl 3), some (.inl (txAt T (a : Int) - 48)), some (.inl 1)] [.inl 0] (aw M ((a + 1 : Nat) : Int) (-1)) _
    refine rn_ifeq (t := 57) (q := 37) dX9_number_34 rfl rfl (fun w34 => ?_) (fun h => absurd h (by decide))
    refine rn_iload_n (x := (txAt T (a : Int) - 48)) (q := 58) dX9_number_57 rfl rfl ?_
    refine rn_iret dX9_number_58 rfl ?_
    exact ⟨rfl, rfl⟩
end P25
