/-! small methods, of both -/
section P21
variable {l : Launch} {G : am_G} {d : Nat} {mem : am_M}
theorem s_songOn {sn : Nat} {sg : Nat → Nat} (hs : c_song sn sg mem) (t : Nat) (ht : t < 1000000) : am_Sm l G yX6_songOn mt_X6_songOn d [.inr (.inr 6), .inl (t : Int)] mem (am_rr (some (.inl (sg (t % sn) : Int))) mem) := by
  refine am_enter (ls := [some (.inr (.inr 6)), some (.inl (t : Int))]) (by decide) rfl (Nat.le_of_ble_eq_true rfl) rfl ?_
  obtain ⟨h1, h2, h3, h4, h5⟩ := hs
  have hm : t % sn < sn := Nat.mod_lt _ (by omega)
  refine rn_aload_n (x := 5) (q := 1) dX6_songOn_0 rfl rfl ?_
  refine rn_get (a := 5) (v := .inl (sn : Int)) (q := 4) dX6_songOn_1 fl_X6_27 rfl (am_gi h1) rfl ?_
  refine rn_ifle (t := 25) (q := 7) dX6_songOn_4 rfl rfl (fun h => absurd h (by omega)) (fun w4 => ?_)
  refine rn_iload_n (x := (t : Int)) (q := 8) dX6_songOn_7 rfl rfl ?_
  refine rn_iflt (t := 25) (q := 11) dX6_songOn_8 rfl rfl (fun h => absurd h (by omega)) (fun w8 => ?_)
  refine rn_aload_n (x := 5) (q := 12) dX6_songOn_11 rfl rfl ?_
  refine rn_get (a := 5) (v := .inr (.inr 7)) (q := 15) dX6_songOn_12 fl_X6_9 rfl rfl rfl ?_
  refine rn_iload_n (x := (t : Int)) (q := 16) dX6_songOn_15 rfl rfl ?_
  refine rn_aload_n (x := 5) (q := 17) dX6_songOn_16 rfl rfl ?_
  refine rn_get (a := 5) (v := .inl (sn : Int)) (q := 20) dX6_songOn_17 fl_X6_27 rfl (am_gi h1) rfl ?_
  refine rn_iremN (z := ((t % sn : Nat) : Int)) (q := 21) dX6_songOn_20 (by omega) (Int.ofNat_tmod t sn).symm (by unfold am_ok; omega) rfl ?_
  refine rn_ialdV (a := 6) (v := (sg (t % sn) : Int)) (q := 22) dX6_songOn_21 rfl (by omega) (by omega) (h5 _ hm) rfl ?_
  refine rn_goto (t := 26) dX6_songOn_22 rfl ?_
  refine rn_iret dX6_songOn_26 rfl ?_
  exact ⟨rfl, rfl⟩
theorem s_worthOn {sn : Nat} {sg : Nat → Nat} (hs : m_song sn sg mem) (t : Nat) (ht : t < 1000000) : am_Sm l G yX9_worthOn mt_X9_worthOn d [.inr (.inr 96), .inl (t : Int)] mem (am_rr (some (.inl (sg (t % sn) : Int))) mem) := by
  refine am_enter (ls := [some (.inr (.inr 96)), some (.inl (t : Int))]) (by decide) rfl (Nat.le_of_ble_eq_true rfl) rfl ?_
  obtain ⟨h1, h2, h3, h4, h5⟩ := hs
  have hm : t % sn < sn := Nat.mod_lt _ (by omega)
  refine rn_aload_n (x := 95) (q := 1) dX9_worthOn_0 rfl rfl ?_
  refine rn_get (a := 95) (v := .inr (.inr 101)) (q := 4) dX9_worthOn_1 fl_X9_22 rfl rfl rfl ?_
  refine rn_iload_n (x := (t : Int)) (q := 5) dX9_worthOn_4 rfl rfl ?_
  refine rn_aload_n (x := 95) (q := 6) dX9_worthOn_5 rfl rfl ?_
  refine rn_get (a := 95) (v := .inl (sn : Int)) (q := 9) dX9_worthOn_6 fl_X9_25 rfl (am_gi h1) rfl ?_
  refine rn_iremN (z := ((t % sn : Nat) : Int)) (q := 10) dX9_worthOn_9 (by omega) (Int.ofNat_tmod t sn).symm (by unfold am_ok; omega) rfl ?_
  refine rn_ialdV (a := 100) (v := (sg (t % sn) : Int)) (q := 11) dX9_worthOn_10 rfl (by omega) (by omega) (h5 _ hm) rfl ?_
  refine rn_iret dX9_worthOn_11 rfl ?_
  exact ⟨rfl, rfl⟩
theorem s_has (i : Int) (n : Nat) (hn : mem 5 6 = (n : Int)) : am_Sm l G yX6_has mt_X6_has d [.inr (.inr 6), .inl i] mem (am_rr (some (.inl (if 0 ≤ i ∧ i < n then 1 else 0))) mem) := by
  refine am_enter (ls := [some (.inr (.inr 6)), some (.inl i)]) (by decide) rfl (Nat.le_of_ble_eq_true rfl) rfl ?_
  refine rn_iload_n (x := i) (q := 1) dX6_has_0 rfl rfl ?_
  refine rn_iflt (t := 16) (q := 4) dX6_has_1 rfl rfl (fun w1 => ?_) (fun w1 => ?_)
  · refine rn_iconst (q := 17) dX6_has_16 (am_okd rfl) rfl ?_
    refine rn_zret dX6_has_17 rfl (by omega) ?_
    exact ⟨by first | rw [if_pos (by omega)] | rw [if_neg (by omega)], rfl⟩
  · refine rn_iload_n (x := i) (q := 5) dX6_has_4 rfl rfl ?_
    refine rn_aload_n (x := 5) (q := 6) dX6_has_5 rfl rfl ?_
    refine rn_get (a := 5) (v := .inl (n : Int)) (q := 9) dX6_has_6 fl_X6_38 rfl (am_gi hn) rfl ?_
    refine rn_cmpge (t := 16) (q := 12) dX6_has_9 rfl rfl (fun w9 => ?_) (fun w9 => ?_)
    · refine rn_iconst (q := 17) dX6_has_16 (am_okd rfl) rfl ?_
      refine rn_zret dX6_has_17 rfl (by omega) ?_
      exact ⟨by first | rw [if_pos (by omega)] | rw [if_neg (by omega)], rfl⟩
    · refine rn_iconst (q := 13) dX6_has_12 (am_okd rfl) rfl ?_
      refine rn_goto (t := 17) dX6_has_13 rfl ?_
      refine rn_zret dX6_has_17 rfl (by omega) ?_
      exact ⟨by first | rw [if_pos (by omega)] | rw [if_neg (by omega)], rfl⟩
theorem s_Tat {X : List Nat} (hX : c_text X mem) (p : Int) : am_Sm l G yX7_at mt_X7_at d [.inr (.inr 2), .inl p] mem (am_rr (some (.inl (txAt X p))) mem) := by
  refine am_enter (ls := [some (.inr (.inr 2)), some (.inl p)]) (by decide) rfl (Nat.le_of_ble_eq_true rfl) rfl ?_
  obtain ⟨h1, h2, h3, h4⟩ := hX
  refine rn_iload_n (x := p) (q := 1) dX7_at_0 rfl rfl ?_
  refine rn_iflt (t := 21) (q := 4) dX7_at_1 rfl rfl (fun w1 => ?_) (fun w1 => ?_)
  · refine rn_iconst (q := 22) dX7_at_21 (am_okd rfl) rfl ?_
    refine rn_iret dX7_at_22 rfl ?_
    exact ⟨by unfold txAt; first | rw [if_pos (by omega)] | rw [if_neg (by omega)], rfl⟩
  · refine rn_iload_n (x := p) (q := 5) dX7_at_4 rfl rfl ?_
    refine rn_aload_n (x := 1) (q := 6) dX7_at_5 rfl rfl ?_
    refine rn_get (a := 1) (v := .inl (X.length : Int)) (q := 9) dX7_at_6 fl_X7_15 rfl (am_gi h1) rfl ?_
    refine rn_cmpge (t := 21) (q := 12) dX7_at_9 rfl rfl (fun w9 => ?_) (fun w9 => ?_)
    · refine rn_iconst (q := 22) dX7_at_21 (am_okd rfl) rfl ?_
      refine rn_iret dX7_at_22 rfl ?_
      exact ⟨by unfold txAt; first | rw [if_pos (by omega)] | rw [if_neg (by omega)], rfl⟩
    · refine rn_aload_n (x := 1) (q := 13) dX7_at_12 rfl rfl ?_
      refine rn_get (a := 1) (v := .inr (.inr 3)) (q := 16) dX7_at_13 fl_X7_9 rfl rfl rfl ?_
      refine rn_iload_n (x := p) (q := 17) dX7_at_16 rfl rfl ?_
      refine rn_ialdV (a := 2) (v := (X.getD p.toNat 0 : Int)) (q := 18) dX7_at_17 rfl (by omega) (by omega) (h4 _ (by omega)) rfl ?_
      refine rn_goto (t := 22) dX7_at_18 rfl ?_
      refine rn_iret dX7_at_22 rfl ?_
      exact ⟨by unfold txAt; first | rw [if_pos (by omega)] | rw [if_neg (by omega)], rfl⟩
theorem s_Tdigit {X : List Nat} (hX : c_text X mem) (p : Int) : am_Sm l G yX7_digit mt_X7_digit (d + 1) [.inr (.inr 2), .inl p] mem (am_rr (some (.inl (txDg X p))) mem) := by
  refine am_enter (ls := [some (.inr (.inr 2)), some (.inl p), none]) (by decide) rfl (Nat.le_of_ble_eq_true rfl) rfl ?_
  have ho := txAt_ok (p := p) hX.2.2.1
  refine rn_aload_n (x := 1) (q := 1) dX7_digit_0 rfl rfl ?_
  refine rn_iload_n (x := p) (q := 2) dX7_digit_1 rfl rfl ?_
  refine rn_callV (b := 1) (as := [.inl p]) (rest := []) (q := 5) dX7_digit_2 ml_X7_19 sm_X7_at rfl rfl (by decide) (by omega) rfl rfl (Nat.le_of_ble_eq_true rfl) rfl (s_Tat (d := d) hX p) ?_
  intro r2 mem2 hq2
  obtain ⟨rfl, rfl⟩ := hq2
  show am_Rn l G _ _ 5 [some (.inr (.inr 2)), some (.inl p), none] [.inl (txAt X p)] mem _
  refine rn_istore_n (ls' := [some (.inr (.inr 2)), some (.inl p), some (.inl (txAt X p))]) (q := 6) dX7_digit_5 (by decide) rfl rfl ?_
  refine rn_iload_n (x := (txAt X p)) (q := 7) dX7_digit_6 rfl rfl ?_
  refine rn_bipush (q := 9) dX7_digit_7 ⟨by decide, by decide⟩ rfl ?_
  refine rn_cmplt (t := 25) (q := 12) dX7_digit_9 rfl rfl (fun w9 => ?_) (fun w9 => ?_)
  · refine rn_iconst (q := 26) dX7_digit_25 (am_okd rfl) rfl ?_
    refine rn_iret dX7_digit_26 rfl ?_
    exact ⟨by unfold txDg; first | rw [if_pos (by omega)] | rw [if_neg (by omega)], rfl⟩
  · refine rn_iload_n (x := (txAt X p)) (q := 13) dX7_digit_12 rfl rfl ?_
    refine rn_bipush (q := 15) dX7_digit_13 ⟨by decide, by decide⟩ rfl ?_
    refine rn_cmpgt (t := 25) (q := 18) dX7_digit_15 rfl rfl (fun w15 => ?_) (fun w15 => ?_)
    · refine rn_iconst (q := 26) dX7_digit_25 (am_okd rfl) rfl ?_
      refine rn_iret dX7_digit_26 rfl ?_
      exact ⟨by unfold txDg; first | rw [if_pos (by omega)] | rw [if_neg (by omega)], rfl⟩
    · refine rn_iload_n (x := (txAt X p)) (q := 19) dX7_digit_18 rfl rfl ?_
      refine rn_bipush (q := 21) dX7_digit_19 ⟨by decide, by decide⟩ rfl ?_
      refine rn_isubN (z := ((txAt X p) - 48)) (q := 22) dX7_digit_21 rfl (by unfold am_ok; omega) rfl ?_
      refine rn_goto (t := 26) dX7_digit_22 rfl ?_
      refine rn_iret dX7_digit_26 rfl ?_
      exact ⟨by unfold txDg; first | rw [if_pos (by omega)] | rw [if_neg (by omega)], rfl⟩
theorem s_Rclear : am_Sm l G yX3_clear mt_X3_clear d [.inr (.inr 4)] mem (am_rr none (am_up mem 3 1 0)) := by
  refine am_enter (ls := [some (.inr (.inr 4))]) (by decide) rfl (Nat.le_of_ble_eq_true rfl) rfl ?_
  refine rn_aload_n (x := 3) (q := 1) dX3_clear_0 rfl rfl ?_
  refine rn_iconst (q := 2) dX3_clear_1 (am_okd rfl) rfl ?_
  refine rn_puti (a := 3) (q := 5) dX3_clear_2 fl_X3_15 rfl rfl rfl rfl ?_
  refine rn_vret dX3_clear_5 rfl ?_
  exact ⟨rfl, rfl⟩
theorem s_Radd (k : Nat) (hk : k < 9) (hm : mem 3 1 = (k : Int)) (x : Int) : am_Sm l G yX3_add mt_X3_add d [.inr (.inr 4), .inr (.inl x)] mem (am_rr none (am_up (am_up mem 4 k x) 3 1 ((k + 1 : Nat) : Int))) := by
  refine am_enter (ls := [some (.inr (.inr 4)), some (.inr (.inl x)), none]) (by decide) rfl (Nat.le_of_ble_eq_true rfl) rfl ?_
  refine rn_aload_n (x := 3) (q := 1) dX3_add_0 rfl rfl ?_
  refine rn_get (a := 3) (v := .inl (k : Int)) (q := 4) dX3_add_1 fl_X3_15 rfl (am_gi hm) rfl ?_
  refine rn_iflt (t := 39) (q := 7) dX3_add_4 rfl rfl (fun h => absurd h (by omega)) (fun w4 => ?_)
  refine rn_aload_n (x := 3) (q := 8) dX3_add_7 rfl rfl ?_
  refine rn_get (a := 3) (v := .inl (k : Int)) (q := 11) dX3_add_8 fl_X3_15 rfl (am_gi hm) rfl ?_
  refine rn_aload_n (x := 3) (q := 12) dX3_add_11 rfl rfl ?_
  refine rn_get (a := 3) (v := .inr (.inr 5)) (q := 15) dX3_add_12 fl_X3_9 rfl rfl rfl ?_
  refine rn_alen_l (a := 4) (n := 9) (q := 16) dX3_add_15 rfl (by decide) rfl ?_
  refine rn_cmpge (t := 39) (q := 19) dX3_add_16 rfl rfl (fun h => absurd h (by omega)) (fun w16 => ?_)
  refine rn_aload_n (x := 3) (q := 20) dX3_add_19 rfl rfl ?_
  refine rn_get (a := 3) (v := .inr (.inr 5)) (q := 23) dX3_add_20 fl_X3_9 rfl rfl rfl ?_
  refine rn_aload_n (x := 3) (q := 24) dX3_add_23 rfl rfl ?_
  refine rn_get (a := 3) (v := .inl (k : Int)) (q := 27) dX3_add_24 fl_X3_15 rfl (am_gi hm) rfl ?_
  refine rn_lload_n (x := x) (q := 28) dX3_add_27 rfl rfl ?_
  refine rn_lastV (a := 4) (m1 := am_up mem 4 k x) (q := 29) dX3_add_28 rfl (by omega) (by omega) rfl rfl ?_
  refine rn_aload_n (x := 3) (q := 30) dX3_add_29 rfl rfl ?_
  refine rn_dup (q := 31) dX3_add_30 rfl rfl ?_
  refine rn_get (a := 3) (v := .inl (k : Int)) (q := 34) dX3_add_31 fl_X3_15 rfl (am_gi hm) rfl ?_
  refine rn_iconst (q := 35) dX3_add_34 (am_okd rfl) rfl ?_
  refine rn_iaddN (z := ((k + 1 : Nat) : Int)) (q := 36) dX3_add_35 (by omega) (by unfold am_ok; omega) rfl ?_
  refine rn_puti (a := 3) (q := 39) dX3_add_36 fl_X3_15 rfl rfl rfl rfl ?_
  refine rn_vret dX3_add_39 rfl ?_
  exact ⟨rfl, rfl⟩
theorem s_Rtell (x : Int) : am_Sm l G yX3_tell mt_X3_tell (d + 1) [.inr (.inr 4), .inr (.inl x)] mem (fun r m => r = none ∧ c_row [x] m ∧ ∀ b, b ≠ 3 → b ≠ 4 → m b = mem b) := by
  refine am_enter (ls := [some (.inr (.inr 4)), some (.inr (.inl x)), none]) (by decide) rfl (Nat.le_of_ble_eq_true rfl) rfl ?_
  refine rn_aload_n (x := 3) (q := 1) dX3_tell_0 rfl rfl ?_
  refine rn_callV (b := 3) (as := []) (rest := []) (q := 4) dX3_tell_1 ml_X3_19 sm_X3_clear rfl rfl (by decide) (by omega) rfl rfl (Nat.le_of_ble_eq_true rfl) rfl (s_Rclear (d := d)) ?_
  intro r1 mem1 hq1
  obtain ⟨rfl, rfl⟩ := hq1
  show am_Rn l G _ _ 4 [some (.inr (.inr 4)), some (.inr (.inl x)), none] [] (am_up mem 3 1 0) _
  refine rn_aload_n (x := 3) (q := 5) dX3_tell_4 rfl rfl ?_
  refine rn_lload_n (x := x) (q := 6) dX3_tell_5 rfl rfl ?_
  refine rn_callV (b := 3) (as := [.inr (.inl x)]) (rest := []) (q := 9) dX3_tell_6 ml_X3_22 sm_X3_add rfl rfl (by decide) (by omega) rfl rfl (Nat.le_of_ble_eq_true rfl) rfl (s_Radd (d := d) 0 (by omega) rfl x) ?_
  intro r6 mem6 hq6
  obtain ⟨rfl, rfl⟩ := hq6
  show am_Rn l G _ _ 9 [some (.inr (.inr 4)), some (.inr (.inl x)), none] [] (am_up (am_up (am_up mem 3 1 0) 4 0 x) 3 1 ((0 + 1 : Nat) : Int)) _
  refine rn_vret dX3_tell_9 rfl ?_
  refine ⟨rfl, ⟨rfl, Nat.le_of_ble_eq_true rfl, fun i hi => ?_⟩, fun b h3 h4 => ?_⟩
  · obtain rfl : i = 0 := by simp at hi; omega
    rfl
  · simp [am_up, h3, h4]
theorem s_Rtell2 (x y : Int) : am_Sm l G yX3_tell_ mt_X3_tell_ (d + 1) [.inr (.inr 4), .inr (.inl x), .inr (.inl y)] mem (fun r m => r = none ∧ c_row [x, y] m ∧ ∀ b, b ≠ 3 → b ≠ 4 → m b = mem b) := by
  refine am_enter (ls := [some (.inr (.inr 4)), some (.inr (.inl x)), none, some (.inr (.inl y)), none]) (by decide) rfl (Nat.le_of_ble_eq_true rfl) rfl ?_
  refine rn_aload_n (x := 3) (q := 1) dX3_tell__0 rfl rfl ?_
  refine rn_callV (b := 3) (as := []) (rest := []) (q := 4) dX3_tell__1 ml_X3_19 sm_X3_clear rfl rfl (by decide) (by omega) rfl rfl (Nat.le_of_ble_eq_true rfl) rfl (s_Rclear (d := d)) ?_
  intro r1 mem1 hq1
  obtain ⟨rfl, rfl⟩ := hq1
  show am_Rn l G _ _ 4 [some (.inr (.inr 4)), some (.inr (.inl x)), none, some (.inr (.inl y)), none] [] (am_up mem 3 1 0) _
  refine rn_aload_n (x := 3) (q := 5) dX3_tell__4 rfl rfl ?_
  refine rn_lload_n (x := x) (q := 6) dX3_tell__5 rfl rfl ?_
  refine rn_callV (b := 3) (as := [.inr (.inl x)]) (rest := []) (q := 9) dX3_tell__6 ml_X3_22 sm_X3_add rfl rfl (by decide) (by omega) rfl rfl (Nat.le_of_ble_eq_true rfl) rfl (s_Radd (d := d) 0 (by omega) rfl x) ?_
  intro r6 mem6 hq6
  obtain ⟨rfl, rfl⟩ := hq6
  show am_Rn l G _ _ 9 [some (.inr (.inr 4)), some (.inr (.inl x)), none, some (.inr (.inl y)), none] [] (am_up (am_up (am_up mem 3 1 0) 4 0 x) 3 1 ((0 + 1 : Nat) : Int)) _
  refine rn_aload_n (x := 3) (q := 10) dX3_tell__9 rfl rfl ?_
  refine rn_lload_n (x := y) (q := 11) dX3_tell__10 rfl rfl ?_
  refine rn_callV (b := 3) (as := [.inr (.inl y)]) (rest := []) (q := 14) dX3_tell__11 ml_X3_22 sm_X3_add rfl rfl (by decide) (by omega) rfl rfl (Nat.le_of_ble_eq_true rfl) rfl (s_Radd (d := d) 1 (by omega) rfl y) ?_
  intro r11 mem11 hq11
  obtain ⟨rfl, rfl⟩ := hq11
  show am_Rn l G _ _ 14 [some (.inr (.inr 4)), some (.inr (.inl x)), none, some (.inr (.inl y)), none] [] (am_up (am_up (am_up (am_up (am_up mem 3 1 0) 4 0 x) 3 1 ((0 + 1 : Nat) : Int)) 4 1 y) 3 1 ((1 + 1 : Nat) : Int)) _
  refine rn_vret dX3_tell__14 rfl ?_
  refine ⟨rfl, ⟨rfl, Nat.le_of_ble_eq_true rfl, fun i hi => ?_⟩, fun b h3 h4 => ?_⟩
  · obtain rfl | rfl : i = 0 ∨ i = 1 := by simp at hi; omega
    · rfl
    · rfl
  · simp [am_up, h3, h4]
theorem s_tell9 (k : Nat) (hk : k < 16) (hm : mem 95 10 = (k : Int)) (x : Int) : am_Sm l G yX9_tell mt_X9_tell d [.inr (.inr 96), .inr (.inl x)] mem (am_rr none (am_up (am_up mem 102 k x) 95 10 ((k + 1 : Nat) : Int))) := by
  refine am_enter (ls := [some (.inr (.inr 96)), some (.inr (.inl x)), none]) (by decide) rfl (Nat.le_of_ble_eq_true rfl) rfl ?_
  refine rn_aload_n (x := 95) (q := 1) dX9_tell_0 rfl rfl ?_
  refine rn_get (a := 95) (v := .inr (.inr 103)) (q := 4) dX9_tell_1 fl_X9_33 rfl rfl rfl ?_
  refine rn_aload_n (x := 95) (q := 5) dX9_tell_4 rfl rfl ?_
  refine rn_get (a := 95) (v := .inl (k : Int)) (q := 8) dX9_tell_5 fl_X9_110 rfl (am_gi hm) rfl ?_
  refine rn_lload_n (x := x) (q := 9) dX9_tell_8 rfl rfl ?_
  refine rn_lastV (a := 102) (m1 := am_up mem 102 k x) (q := 10) dX9_tell_9 rfl (by omega) (by omega) rfl rfl ?_
  refine rn_aload_n (x := 95) (q := 11) dX9_tell_10 rfl rfl ?_
  refine rn_dup (q := 12) dX9_tell_11 rfl rfl ?_
  refine rn_get (a := 95) (v := .inl (k : Int)) (q := 15) dX9_tell_12 fl_X9_110 rfl (am_gi hm) rfl ?_
  refine rn_iconst (q := 16) dX9_tell_15 (am_okd rfl) rfl ?_
  refine rn_iaddN (z := ((k + 1 : Nat) : Int)) (q := 17) dX9_tell_16 (by omega) (by unfold am_ok; omega) rfl ?_
  refine rn_puti (a := 95) (q := 20) dX9_tell_17 fl_X9_110 rfl rfl rfl rfl ?_
  refine rn_vret dX9_tell_20 rfl ?_
  exact ⟨rfl, rfl⟩
theorem s_thrown9 : am_Sm l G yX9_thrown mt_X9_thrown d [.inr (.inr 96)] mem (am_rr (some (.inl (mem 95 11))) mem) := by
  refine am_enter (ls := [some (.inr (.inr 96))]) (by decide) rfl (Nat.le_of_ble_eq_true rfl) rfl ?_
  refine rn_aload_n (x := 95) (q := 1) dX9_thrown_0 rfl rfl ?_
  refine rn_get (a := 95) (v := .inl (mem 95 11)) (q := 4) dX9_thrown_1 fl_X9_107 rfl rfl rfl ?_
  refine rn_iret dX9_thrown_4 rfl ?_
  exact ⟨rfl, rfl⟩
theorem s_lost9 : am_Sm l G yX9_lost mt_X9_lost d [.inr (.inr 96)] mem (am_rr (some (.inl 0)) (am_up mem 95 11 1)) := by
  refine am_enter (ls := [some (.inr (.inr 96))]) (by decide) rfl (Nat.le_of_ble_eq_true rfl) rfl ?_
  refine rn_aload_n (x := 95) (q := 1) dX9_lost_0 rfl rfl ?_
  refine rn_iconst (q := 2) dX9_lost_1 (am_okd rfl) rfl ?_
  refine rn_puti (a := 95) (q := 5) dX9_lost_2 fl_X9_107 rfl rfl rfl rfl ?_
  refine rn_iconst (q := 6) dX9_lost_5 (am_okd rfl) rfl ?_
  refine rn_iret dX9_lost_6 rfl ?_
  exact ⟨rfl, rfl⟩
theorem s_put (v a b : Int) : am_Sm l G yX8_put mt_X8_put d [.inl v, .inl a, .inl b] mem (am_rr (some (.inl (max a (min b v)))) mem) := by
  refine am_enter (ls := [some (.inl v), some (.inl a), some (.inl b)]) (by decide) rfl (Nat.le_of_ble_eq_true rfl) rfl ?_
  refine rn_iload_n (x := a) (q := 1) dX8_put_0 rfl rfl ?_
  refine rn_iload_n (x := b) (q := 2) dX8_put_1 rfl rfl ?_
  refine rn_iload_n (x := v) (q := 3) dX8_put_2 rfl rfl ?_
  refine rn_mmin (q := 6) dX8_put_3 am_mm_X8_130 am_mminw (Nat.le_of_ble_eq_true rfl) rfl ?_
  refine rn_mmax (q := 9) dX8_put_6 am_mm_X8_209 am_mmaxw (Nat.le_of_ble_eq_true rfl) rfl ?_
  refine rn_iret dX8_put_9 rfl ?_
  exact ⟨rfl, rfl⟩
theorem s_grown (c g : Int) (hc : 0 ≤ c ∧ c ≤ 9999) (hg : -5 ≤ g ∧ g ≤ 5) : am_Sm l G yX8_grown mt_X8_grown (d + 1) [.inl c, .inl g] mem (am_rr (some (.inl (max 0 (min 9999 (c + (c * g).tdiv 10))))) mem) := by
  refine am_enter (ls := [some (.inl c), some (.inl g)]) (by decide) rfl (Nat.le_of_ble_eq_true rfl) rfl ?_
  have hp : -50000 ≤ c * g ∧ c * g ≤ 50000 := by
    constructor
    · have : c * (-5) ≤ c * g := Int.mul_le_mul_of_nonneg_left hg.1 hc.1
      omega
    · have : c * g ≤ c * 5 := Int.mul_le_mul_of_nonneg_left hg.2 hc.1
      omega
  have ht : -50000 ≤ (c * g).tdiv 10 ∧ (c * g).tdiv 10 ≤ 50000 := by
    generalize c * g = z at hp ⊢
    rw [am_td10]
    split <;> omega
  refine rn_iload_n (x := c) (q := 1) dX8_grown_0 rfl rfl ?_
  refine rn_iload_n (x := c) (q := 2) dX8_grown_1 rfl rfl ?_
  refine rn_iload_n (x := g) (q := 3) dX8_grown_2 rfl rfl ?_
  refine rn_imulN (z := (c * g)) (q := 4) dX8_grown_3 rfl (by unfold am_ok; omega) rfl ?_
  refine rn_bipush (q := 6) dX8_grown_4 ⟨by decide, by decide⟩ rfl ?_
  refine rn_idivN (z := (Int.tdiv (c * g) 10)) (q := 7) dX8_grown_6 (by decide) rfl (by unfold am_ok; omega) rfl ?_
  refine rn_iaddN (z := (c + (Int.tdiv (c * g) 10))) (q := 8) dX8_grown_7 rfl (by unfold am_ok; omega) rfl ?_
  refine rn_iconst (q := 9) dX8_grown_8 (am_okd rfl) rfl ?_
  refine rn_sipush (q := 12) dX8_grown_9 ⟨by decide, by decide⟩ rfl ?_
  refine rn_callS (as := [.inl (c + (Int.tdiv (c * g) 10)), .inl 0, .inl 9999]) (rest := []) (q := 15) dX8_grown_12 ml_X8_202 sm_X8_put (by omega) rfl rfl (Nat.le_of_ble_eq_true rfl) rfl (s_put (d := d) (c + (Int.tdiv (c * g) 10)) 0 9999) ?_
  intro r12 mem12 hq12
  obtain ⟨rfl, rfl⟩ := hq12
  show am_Rn l G _ _ 15 [some (.inl c), some (.inl g)] [.inl (max 0 (min 9999 (c + (Int.tdiv (c * g) 10))))] mem _
  refine rn_iret dX8_grown_15 rfl ?_
  exact ⟨rfl, rfl⟩
end P21
