/-! the reference's reader -/
section P24
variable {l : Launch} {G : am_G} {d : Nat} {M : am_M} {T : List Nat} {rd L : Nat}
theorem s_fine9 (a w : Int) : am_Sm l G yX9_fine mt_X9_fine d [.inr (.inr 96)] (aw M a w) (am_rr (some (.inl (if w = -1 then 1 else 0))) (aw M a w)) := by
  refine am_enter (ls := [some (.inr (.inr 96))]) (by decide) rfl (Nat.le_of_ble_eq_true rfl) rfl ?_
  refine rn_aload_n (x := 95) (q := 1) dX9_fine_0 rfl rfl ?_
  refine rn_get (a := 95) (v := .inl w) (q := 4) dX9_fine_1 fl_X9_135 rfl rfl rfl ?_
  refine rn_iconst (q := 5) dX9_fine_4 (am_okd rfl) rfl ?_
  refine rn_cmpne (t := 12) (q := 8) dX9_fine_5 rfl rfl (fun w5 => ?_) (fun w5 => ?_)
  · refine rn_iconst (q := 13) dX9_fine_12 (am_okd rfl) rfl ?_
    refine rn_zret dX9_fine_13 rfl (by omega) ?_
    exact ⟨by first | rw [if_pos (by omega)] | rw [if_neg (by omega)], rfl⟩
  · refine rn_iconst (q := 9) dX9_fine_8 (am_okd rfl) rfl ?_
    refine rn_goto (t := 13) dX9_fine_9 rfl ?_
    refine rn_zret dX9_fine_13 rfl (by omega) ?_
    exact ⟨by first | rw [if_pos (by omega)] | rw [if_neg (by omega)], rfl⟩
theorem s_fault9 (a w p : Int) : am_Sm l G yX9_fault mt_X9_fault (d + 1) [.inr (.inr 96), .inl p] (aw M a w) (am_rr none (aw M a (if w = -1 then p else w))) := by
  refine am_enter (ls := [some (.inr (.inr 96)), some (.inl p)]) (by decide) rfl (Nat.le_of_ble_eq_true rfl) rfl ?_
  by_cases hw : w = -1
  · rw [if_pos hw]
    refine rn_aload_n (x := 95) (q := 1) dX9_fault_0 rfl rfl ?_
    refine rn_callV (b := 95) (as := []) (rest := []) (q := 4) dX9_fault_1 ml_X9_142 sm_X9_fine rfl rfl (by decide) (by omega) rfl rfl (Nat.le_of_ble_eq_true rfl) rfl (s_fine9 (d := d) a w) ?_
    intro r1 mem1 hq1
    obtain ⟨rfl, rfl⟩ := hq1
    show am_Rn l G _ _ 4 [some (.inr (.inr 96)), some (.inl p)] [.inl (if w = -1 then 1 else 0)] (aw M a w) _
    rw [if_pos hw]
    refine rn_ifeq (t := 12) (q := 7) dX9_fault_4 rfl rfl (fun h => absurd h (by decide)) (fun w4 => ?_)
    refine rn_aload_n (x := 95) (q := 8) dX9_fault_7 rfl rfl ?_
    refine rn_iload_n (x := p) (q := 9) dX9_fault_8 rfl rfl ?_
    refine rn_puti (a := 95) (q := 12) dX9_fault_9 fl_X9_135 rfl rfl rfl rfl ?_
    rw [aw_wr]
    refine rn_vret dX9_fault_12 rfl ?_
    exact ⟨rfl, rfl⟩
  · rw [if_neg hw]
    refine rn_aload_n (x := 95) (q := 1) dX9_fault_0 rfl rfl ?_
    refine rn_callV (b := 95) (as := []) (rest := []) (q := 4) dX9_fault_1 ml_X9_142 sm_X9_fine rfl rfl (by decide) (by omega) rfl rfl (Nat.le_of_ble_eq_true rfl) rfl (s_fine9 (d := d) a w) ?_
    intro r1 mem1 hq1
    obtain ⟨rfl, rfl⟩ := hq1
    show am_Rn l G _ _ 4 [some (.inr (.inr 96)), some (.inl p)] [.inl (if w = -1 then 1 else 0)] (aw M a w) _
    rw [if_neg hw]
    refine rn_ifeq (t := 12) (q := 7) dX9_fault_4 rfl rfl (fun w4 => ?_) (fun h => absurd h (by decide))
    refine rn_vret dX9_fault_12 rfl ?_
    exact ⟨rfl, rfl⟩
theorem s_here9 (hr : m_rd T rd L M) (a : Nat) (w : Int) (ha : a < 1000) : am_Sm l G yX9_here mt_X9_here d [.inr (.inr 96)] (aw M (a : Int) w) (am_rr (some (.inl (txAt T (a : Int)))) (aw M (a : Int) w)) := by
  refine am_enter (ls := [some (.inr (.inr 96))]) (by decide) rfl (Nat.le_of_ble_eq_true rfl) rfl ?_
  obtain ⟨⟨n, hk, hn⟩, h12, h13, hL, ⟨tp, h14, htp, hT⟩, hb, hc⟩ := hr
  have hrd : rd ≠ 95 := am_b95 hk (by decide)
  by_cases hlt : a < T.length
  · have hx := hc a hlt
    have e1 : am_and (sb (T.getD a 0)) 255 = txAt T (a : Int) := by
      rw [sb_and _ (hb a)]; unfold txAt; rw [if_pos (by omega)]; rfl
    refine rn_aload_n (x := 95) (q := 1) dX9_here_0 rfl rfl ?_
    refine rn_get (a := 95) (v := .inl (a : Int)) (q := 4) dX9_here_1 fl_X9_132 rfl rfl rfl ?_
    refine rn_aload_n (x := 95) (q := 5) dX9_here_4 rfl rfl ?_
    refine rn_get (a := 95) (v := .inl (L : Int)) (q := 8) dX9_here_5 fl_X9_126 rfl (am_gi h13) rfl ?_
    refine rn_cmpge (t := 38) (q := 11) dX9_here_8 rfl rfl (fun h => absurd h (by omega)) (fun w8 => ?_)
    refine rn_aload_n (x := 95) (q := 12) dX9_here_11 rfl rfl ?_
    refine rn_get (a := 95) (v := .inl (a : Int)) (q := 15) dX9_here_12 fl_X9_132 rfl rfl rfl ?_
    refine rn_aload_n (x := 95) (q := 16) dX9_here_15 rfl rfl ?_
    refine rn_get (a := 95) (v := .inl (tp : Int)) (q := 19) dX9_here_16 fl_X9_129 rfl (am_gi h14) rfl ?_
    refine rn_cmpge (t := 38) (q := 22) dX9_here_19 rfl rfl (fun h => absurd h (by omega)) (fun w19 => ?_)
    refine rn_aload_n (x := 95) (q := 23) dX9_here_22 rfl rfl ?_
    refine rn_get (a := 95) (v := .inr (.inr (rd + 1))) (q := 26) dX9_here_23 fl_X9_123 rfl (show Sum.inr (Sum.inr (M 95 12).toNat) = _ by rw [h12]; rfl) rfl ?_
    refine rn_aload_n (x := 95) (q := 27) dX9_here_26 rfl rfl ?_
    refine rn_get (a := 95) (v := .inl (a : Int)) (q := 30) dX9_here_27 fl_X9_132 rfl rfl rfl ?_
    refine rn_baldV (a := rd) (v := sb (T.getD a 0)) (q := 31) dX9_here_30 hk (by omega) (by omega) (by show aw M (a : Int) w rd a = _; rw [aw_ne hrd]; exact hx) rfl ?_
    refine rn_sipush (q := 34) dX9_here_31 ⟨by decide, by decide⟩ rfl ?_
    refine rn_iand (q := 35) dX9_here_34 rfl ?_
    rw [show am_and (sb (T.getD a 0)) 255 = txAt T (a : Int) from e1]
    refine rn_goto (t := 39) dX9_here_35 rfl ?_
    refine rn_iret dX9_here_39 rfl ?_
    exact ⟨rfl, rfl⟩
  · have e1 : txAt T (a : Int) = -1 := by unfold txAt; rw [if_neg (by omega)]
    rw [e1]
    refine rn_aload_n (x := 95) (q := 1) dX9_here_0 rfl rfl ?_
    refine rn_get (a := 95) (v := .inl (a : Int)) (q := 4) dX9_here_1 fl_X9_132 rfl rfl rfl ?_
    refine rn_aload_n (x := 95) (q := 5) dX9_here_4 rfl rfl ?_
    refine rn_get (a := 95) (v := .inl (L : Int)) (q := 8) dX9_here_5 fl_X9_126 rfl (am_gi h13) rfl ?_
    refine rn_cmpge (t := 38) (q := 11) dX9_here_8 rfl rfl (fun w8 => ?_) (fun w8 => ?_)
    · refine rn_iconst (q := 39) dX9_here_38 (am_okd rfl) rfl ?_
      refine rn_iret dX9_here_39 rfl ?_
      exact ⟨rfl, rfl⟩
    · refine rn_aload_n (x := 95) (q := 12) dX9_here_11 rfl rfl ?_
      refine rn_get (a := 95) (v := .inl (a : Int)) (q := 15) dX9_here_12 fl_X9_132 rfl rfl rfl ?_
      refine rn_aload_n (x := 95) (q := 16) dX9_here_15 rfl rfl ?_
      refine rn_get (a := 95) (v := .inl (tp : Int)) (q := 19) dX9_here_16 fl_X9_129 rfl (am_gi h14) rfl ?_
      refine rn_cmpge (t := 38) (q := 22) dX9_here_19 rfl rfl (fun w19 => ?_) (fun w19 => ?_)
      · refine rn_iconst (q := 39) dX9_here_38 (am_okd rfl) rfl ?_
        refine rn_iret dX9_here_39 rfl ?_
        exact ⟨rfl, rfl⟩
      · omega
theorem s_passes9 (hr : m_rd T rd L M) (a : Nat) (w c : Int) (ha : a < 1000) : am_Sm l G yX9_passes mt_X9_passes (d + 1) [.inr (.inr 96), .inl c] (aw M (a : Int) w) (am_rr (some (.inl (if w = -1 ∧ txAt T (a : Int) = c then 1 else 0))) (if w = -1 ∧ txAt T (a : Int) = c then aw M ((a + 1 : Nat) : Int) w else aw M (a : Int) w)) := by
  refine am_enter (ls := [some (.inr (.inr 96)), some (.inl c)]) (by decide) rfl (Nat.le_of_ble_eq_true rfl) rfl ?_
  refine rn_aload_n (x := 95) (q := 1) dX9_passes_0 rfl rfl ?_
  refine rn_callV (b := 95) (as := []) (rest := []) (q := 4) dX9_passes_1 ml_X9_142 sm_X9_fine rfl rfl (by decide) (by omega) rfl rfl (Nat.le_of_ble_eq_true rfl) rfl (s_fine9 (d := d) (a : Int) w) ?_
  intro r1 mem1 hq1
  obtain ⟨rfl, rfl⟩ := hq1
  show am_Rn l G _ _ 4 [some (.inr (.inr 96)), some (.inl c)] [.inl (if w = -1 then 1 else 0)] (aw M (a : Int) w) _
  refine rn_ifeq (t := 15) (q := 7) dX9_passes_4 rfl rfl (fun w4 => ?_) (fun w4 => ?_)
  · refine rn_iconst (q := 16) dX9_passes_15 (am_okd rfl) rfl ?_
    refine rn_zret dX9_passes_16 rfl (by omega) ?_
    have hn : ¬ (w = -1 ∧ txAt T (a : Int) = c) := by first | (intro h; rw [if_pos h.1] at w4; omega) | (intro h; exact absurd h.2 (by assumption))
    rw [if_neg hn, if_neg hn]
    exact ⟨rfl, rfl⟩
  · refine rn_aload_n (x := 95) (q := 8) dX9_passes_7 rfl rfl ?_
    refine rn_callV (b := 95) (as := []) (rest := []) (q := 11) dX9_passes_8 ml_X9_146 sm_X9_here rfl rfl (by decide) (by omega) rfl rfl (Nat.le_of_ble_eq_true rfl) rfl (s_here9 (d := d) hr a w ha) ?_
    intro r8 mem8 hq8
    obtain ⟨rfl, rfl⟩ := hq8
    show am_Rn l G _ _ 11 [some (.inr (.inr 96)), some (.inl c)] [.inl (txAt T (a : Int))] (aw M (a : Int) w) _
    refine rn_iload_n (x := c) (q := 12) dX9_passes_11 rfl rfl ?_
    refine rn_cmpeq (t := 17) (q := 15) dX9_passes_12 rfl rfl (fun w12 => ?_) (fun w12 => ?_)
    · refine rn_aload_n (x := 95) (q := 18) dX9_passes_17 rfl rfl ?_
      refine rn_dup (q := 19) dX9_passes_18 rfl rfl ?_
      refine rn_get (a := 95) (v := .inl (a : Int)) (q := 22) dX9_passes_19 fl_X9_132 rfl rfl rfl ?_
      refine rn_iconst (q := 23) dX9_passes_22 (am_okd rfl) rfl ?_
      refine rn_iaddN (z := ((a + 1 : Nat) : Int)) (q := 24) dX9_passes_23 (by omega) (by unfold am_ok; omega) rfl ?_
      refine rn_puti (a := 95) (q := 27) dX9_passes_24 fl_X9_132 rfl rfl rfl rfl ?_
      rw [aw_at]
      refine rn_iconst (q := 28) dX9_passes_27 (am_okd rfl) rfl ?_
      refine rn_zret dX9_passes_28 rfl (by omega) ?_
      have hw : w = -1 := by by_cases hw : w = -1; exact hw; exact absurd (if_neg hw) w4
      rw [if_pos ⟨hw, w12⟩, if_pos ⟨hw, w12⟩]
      exact ⟨rfl, rfl⟩
    · refine rn_iconst (q := 16) dX9_passes_15 (am_okd rfl) rfl ?_
      refine rn_zret dX9_passes_16 rfl (by omega) ?_
      have hn : ¬ (w = -1 ∧ txAt T (a : Int) = c) := by first | (intro h; rw [if_pos h.1] at w4; omega) | (intro h; exact absurd h.2 (by assumption))
      rw [if_neg hn, if_neg hn]
      exact ⟨rfl, rfl⟩
theorem s_need9 (hr : m_rd T rd L M) (a : Nat) (w c : Int) (ha : a < 1000) : am_Sm l G yX9_need mt_X9_need (d + 2) [.inr (.inr 96), .inl c] (aw M (a : Int) w) (am_rr none (if w = -1 ∧ txAt T (a : Int) = c then aw M ((a + 1 : Nat) : Int) w else aw M (a : Int) (if w = -1 then (a : Int) else w))) := by
  refine am_enter (ls := [some (.inr (.inr 96)), some (.inl c)]) (by decide) rfl (Nat.le_of_ble_eq_true rfl) rfl ?_
  by_cases hp : w = -1 ∧ txAt T (a : Int) = c
  · rw [if_pos hp]
    refine rn_aload_n (x := 95) (q := 1) dX9_need_0 rfl rfl ?_
    refine rn_iload_n (x := c) (q := 2) dX9_need_1 rfl rfl ?_
    refine rn_callV (b := 95) (as := [.inl c]) (rest := []) (q := 5) dX9_need_2 ml_X9_150 sm_X9_passes rfl rfl (by decide) (by omega) rfl rfl (Nat.le_of_ble_eq_true rfl) rfl (s_passes9 (d := d) hr a w c ha) ?_
    intro r2 mem2 hq2
    obtain ⟨rfl, rfl⟩ := hq2
    show am_Rn l G _ _ 5 [some (.inr (.inr 96)), some (.inl c)] [.inl (if w = -1 ∧ txAt T (a : Int) = c then 1 else 0)] (if w = -1 ∧ txAt T (a : Int) = c then aw M ((a + 1 : Nat) : Int) w else aw M (a : Int) w) _
    rw [if_pos hp, if_pos hp]
    refine rn_ifne (t := 16) (q := 8) dX9_need_5 rfl rfl (fun w5 => ?_) (fun h => absurd h (by decide))
    refine rn_vret dX9_need_16 rfl ?_
    exact ⟨rfl, rfl⟩
  · rw [if_neg hp]
    refine rn_aload_n (x := 95) (q := 1) dX9_need_0 rfl rfl ?_
    refine rn_iload_n (x := c) (q := 2) dX9_need_1 rfl rfl ?_
    refine rn_callV (b := 95) (as := [.inl c]) (rest := []) (q := 5) dX9_need_2 ml_X9_150 sm_X9_passes rfl rfl (by decide) (by omega) rfl rfl (Nat.le_of_ble_eq_true rfl) rfl (s_passes9 (d := d) hr a w c ha) ?_
    intro r2 mem2 hq2
    obtain ⟨rfl, rfl⟩ := hq2
    show am_Rn l G _ _ 5 [some (.inr (.inr 96)), some (.inl c)] [.inl (if w = -1 ∧ txAt T (a : Int) = c then 1 else 0)] (if w = -1 ∧ txAt T (a : Int) = c then aw M ((a + 1 : Nat) : Int) w else aw M (a : Int) w) _
    rw [if_neg hp, if_neg hp]
    refine rn_ifne (t := 16) (q := 8) dX9_need_5 rfl rfl (fun h => absurd h (by decide)) (fun w5 => ?_)
    refine rn_aload_n (x := 95) (q := 9) dX9_need_8 rfl rfl ?_
    refine rn_aload_n (x := 95) (q := 10) dX9_need_9 rfl rfl ?_
    refine rn_get (a := 95) (v := .inl (a : Int)) (q := 13) dX9_need_10 fl_X9_132 rfl rfl rfl ?_
    refine rn_callV (b := 95) (as := [.inl (a : Int)]) (rest := []) (q := 16) dX9_need_13 ml_X9_154 sm_X9_fault rfl rfl (by decide) (by omega) rfl rfl (Nat.le_of_ble_eq_true rfl) rfl (s_fault9 (d := d) (a : Int) w (a : Int)) ?_
    intro r13 mem13 hq13
    obtain ⟨rfl, rfl⟩ := hq13
    show am_Rn l G _ _ 16 [some (.inr (.inr 96)), some (.inl c)] [] (aw M (a : Int) (if w = -1 then (a : Int) else w)) _
    refine rn_vret dX9_need_16 rfl ?_
    exact ⟨rfl, rfl⟩
theorem s_letterOf9 (c : Int) {mem : am_M} : am_Sm l G yX9_letterOf mt_X9_letterOf d [.inl c] mem (am_rr (some (.inl (ltr c))) mem) := by
  refine am_enter (ls := [some (.inl c)]) (by decide) rfl (Nat.le_of_ble_eq_true rfl) rfl ?_
  refine rn_iload_n (x := c) (q := 1) dX9_letterOf_0 rfl rfl ?_
  refine rn_bipush (q := 3) dX9_letterOf_1 ⟨by decide, by decide⟩ rfl ?_
  refine rn_cmpne (t := 10) (q := 6) dX9_letterOf_3 rfl rfl (fun w3 => ?_) (fun w3 => ?_)
  · refine rn_iload_n (x := c) (q := 11) dX9_letterOf_10 rfl rfl ?_
    refine rn_bipush (q := 13) dX9_letterOf_11 ⟨by decide, by decide⟩ rfl ?_
    refine rn_cmpne (t := 20) (q := 16) dX9_letterOf_13 rfl rfl (fun w13 => ?_) (fun w13 => ?_)
    · refine rn_iload_n (x := c) (q := 21) dX9_letterOf_20 rfl rfl ?_
      refine rn_bipush (q := 23) dX9_letterOf_21 ⟨by decide, by decide⟩ rfl ?_
      refine rn_cmpne (t := 30) (q := 26) dX9_letterOf_23 rfl rfl (fun w23 => ?_) (fun w23 => ?_)
      · refine rn_iload_n (x := c) (q := 31) dX9_letterOf_30 rfl rfl ?_
        refine rn_bipush (q := 33) dX9_letterOf_31 ⟨by decide, by decide⟩ rfl ?_
        refine rn_cmpne (t := 40) (q := 36) dX9_letterOf_33 rfl rfl (fun w33 => ?_) (fun w33 => ?_)
        · refine rn_iload_n (x := c) (q := 41) dX9_letterOf_40 rfl rfl ?_
          refine rn_bipush (q := 43) dX9_letterOf_41 ⟨by decide, by decide⟩ rfl ?_
          refine rn_cmpne (t := 50) (q := 46) dX9_letterOf_43 rfl rfl (fun w43 => ?_) (fun w43 => ?_)
          · refine rn_iload_n (x := c) (q := 51) dX9_letterOf_50 rfl rfl ?_
            refine rn_bipush (q := 53) dX9_letterOf_51 ⟨by decide, by decide⟩ rfl ?_
            refine rn_cmpne (t := 60) (q := 56) dX9_letterOf_53 rfl rfl (fun w53 => ?_) (fun w53 => ?_)
            · refine rn_iload_n (x := c) (q := 61) dX9_letterOf_60 rfl rfl ?_
              refine rn_bipush (q := 63) dX9_letterOf_61 ⟨by decide, by decide⟩ rfl ?_
              refine rn_cmpne (t := 71) (q := 66) dX9_letterOf_63 rfl rfl (fun w63 => ?_) (fun w63 => ?_)
              · refine rn_iconst (q := 72) dX9_letterOf_71 (am_okd rfl) rfl ?_
                refine rn_iret dX9_letterOf_72 rfl ?_
                exact ⟨by unfold ltr; simp [*], rfl⟩
              · refine rn_bipush (q := 68) dX9_letterOf_66 ⟨by decide, by decide⟩ rfl ?_
                refine rn_goto (t := 72) dX9_letterOf_68 rfl ?_
                refine rn_iret dX9_letterOf_72 rfl ?_
                exact ⟨by unfold ltr; simp [*], rfl⟩
            · refine rn_iconst (q := 57) dX9_letterOf_56 (am_okd rfl) rfl ?_
              refine rn_goto (t := 72) dX9_letterOf_57 rfl ?_
              refine rn_iret dX9_letterOf_72 rfl ?_
              exact ⟨by unfold ltr; simp [*], rfl⟩
          · refine rn_iconst (q := 47) dX9_letterOf_46 (am_okd rfl) rfl ?_
            refine rn_goto (t := 72) dX9_letterOf_47 rfl ?_
            refine rn_iret dX9_letterOf_72 rfl ?_
            exact ⟨by unfold ltr; simp [*], rfl⟩
        · refine rn_iconst (q := 37) dX9_letterOf_36 (am_okd rfl) rfl ?_
          refine rn_goto (t := 72) dX9_letterOf_37 rfl ?_
          refine rn_iret dX9_letterOf_72 rfl ?_
          exact ⟨by unfold ltr; simp [*], rfl⟩
      · refine rn_iconst (q := 27) dX9_letterOf_26 (am_okd rfl) rfl ?_
        refine rn_goto (t := 72) dX9_letterOf_27 rfl ?_
        refine rn_iret dX9_letterOf_72 rfl ?_
        exact ⟨by unfold ltr; simp [*], rfl⟩
    · refine rn_iconst (q := 17) dX9_letterOf_16 (am_okd rfl) rfl ?_
      refine rn_goto (t := 72) dX9_letterOf_17 rfl ?_
      refine rn_iret dX9_letterOf_72 rfl ?_
      exact ⟨by unfold ltr; simp [*], rfl⟩
  · refine rn_iconst (q := 7) dX9_letterOf_6 (am_okd rfl) rfl ?_
    refine rn_goto (t := 72) dX9_letterOf_7 rfl ?_
    refine rn_iret dX9_letterOf_72 rfl ?_
    exact ⟨by unfold ltr; simp [*], rfl⟩
/-- oneOf: its answer, the place, the fault -/
theorem s_oneOf9 (hr : m_rd T rd L M) (a : Nat) (w c k : Int) (ha : a < 1000) (hc : 0 ≤ c ∧ c < 1000) (hk : 1 ≤ k ∧ k < 100) (hck : c + k ≤ 128) : am_Sm l G yX9_oneOf mt_X9_oneOf (d + 2) [.inr (.inr 96), .inl c, .inl k] (aw M (a : Int) w) (am_rr (some (.inl (if w = -1 ∧ c ≤ txAt T (a : Int) ∧ txAt T (a : Int) < c + k then txAt T (a : Int) - c else 0))) (if w = -1 ∧ c ≤ txAt T (a : Int) ∧ txAt T (a : Int) < c + k then aw M ((a + 1 : Nat) : Int) w else aw M (a : Int) (if w = -1 then (a : Int) else w))) := by
  refine am_enter (ls := [some (.inr (.inr 96)), some (.inl c), some (.inl k)]) (by decide) rfl (Nat.le_of_ble_eq_true rfl) rfl ?_
  by_cases hw : w = -1
  · by_cases hp : c ≤ txAt T (a : Int) ∧ txAt T (a : Int) < c + k
    · rw [if_pos ⟨hw, hp⟩, if_pos ⟨hw, hp⟩]
      have hlt := txAt_lt (T := T) (a := a) (by omega)
      obtain ⟨⟨n, hkn, hn⟩, h12, -, -, -, hb, hcc⟩ := id hr
      have hrd : rd ≠ 95 := am_b95 hkn (by decide)
      have hx := hcc a hlt
      have hsb : sb (T.getD a 0) = txAt T (a : Int) := by
        have e : txAt T (a : Int) = (T.getD a 0 : Int) := by unfold txAt; rw [if_pos (by omega)]; rfl
        rw [e] at hp ⊢
        unfold sb; rw [if_pos (by omega)]
      refine rn_aload_n (x := 95) (q := 1) dX9_oneOf_0 rfl rfl ?_
      refine rn_callV (b := 95) (as := []) (rest := []) (q := 4) dX9_oneOf_1 ml_X9_142 sm_X9_fine rfl rfl (by decide) (by omega) rfl rfl (Nat.le_of_ble_eq_true rfl) rfl (s_fine9 (d := d + 1) (a : Int) w) ?_
      intro r1 mem1 hq1
      obtain ⟨rfl, rfl⟩ := hq1
      show am_Rn l G _ _ 4 [some (.inr (.inr 96)), some (.inl c), some (.inl k)] [.inl (if w = -1 then 1 else 0)] (aw M (a : Int) w) _
      rw [if_pos hw]
      refine rn_ifne (t := 9) (q := 7) dX9_oneOf_4 rfl rfl (fun w4 => ?_) (fun h => absurd h (by decide))
      refine rn_aload_n (x := 95) (q := 10) dX9_oneOf_9 rfl rfl ?_
      refine rn_callV (b := 95) (as := []) (rest := []) (q := 13) dX9_oneOf_10 ml_X9_146 sm_X9_here rfl rfl (by decide) (by omega) rfl rfl (Nat.le_of_ble_eq_true rfl) rfl (s_here9 (d := d + 1) hr a w ha) ?_
      intro r10 mem10 hq10
      obtain ⟨rfl, rfl⟩ := hq10
      show am_Rn l G _ _ 13 [some (.inr (.inr 96)), some (.inl c), some (.inl k)] [.inl (txAt T (a : Int))] (aw M (a : Int) w) _
      refine rn_iload_n (x := c) (q := 14) dX9_oneOf_13 rfl rfl ?_
      refine rn_iload_n (x := c) (q := 15) dX9_oneOf_14 rfl rfl ?_
      refine rn_iload_n (x := k) (q := 16) dX9_oneOf_15 rfl rfl ?_
      refine rn_iaddN (z := (c + k)) (q := 17) dX9_oneOf_16 rfl (by unfold am_ok; omega) rfl ?_
      refine rn_iconst (q := 18) dX9_oneOf_17 (am_okd rfl) rfl ?_
      refine rn_isubN (z := ((c + k) - 1)) (q := 19) dX9_oneOf_18 rfl (by unfold am_ok; omega) rfl ?_
      refine rn_callS (as := [.inl (txAt T (a : Int)), .inl c, .inl ((c + k) - 1)]) (rest := []) (q := 22) dX9_oneOf_19 ml_X9_116 sm_X9_in (by omega) rfl rfl (Nat.le_of_ble_eq_true rfl) rfl (s_in (d := d + 1) (txAt T (a : Int)) c ((c + k) - 1)) ?_
      intro r19 mem19 hq19
      obtain ⟨rfl, rfl⟩ := hq19
      show am_Rn l G _ _ 22 [some (.inr (.inr 96)), some (.inl c), some (.inl k)] [.inl (if c ≤ txAt T (a : Int) ∧ txAt T (a : Int) ≤ c + k - 1 then 1 else 0)] (aw M (a : Int) w) _
      rw [if_pos ⟨hp.1, by omega⟩]
      refine rn_ifne (t := 35) (q := 25) dX9_oneOf_22 rfl rfl (fun w22 => ?_) (fun h => absurd h (by decide))
      refine rn_aload_n (x := 95) (q := 36) dX9_oneOf_35 rfl rfl ?_
      refine rn_dup (q := 37) dX9_oneOf_36 rfl rfl ?_
      refine rn_get (a := 95) (v := .inl (a : Int)) (q := 40) dX9_oneOf_37 fl_X9_132 rfl rfl rfl ?_
      refine rn_iconst (q := 41) dX9_oneOf_40 (am_okd rfl) rfl ?_
      refine rn_iaddN (z := ((a + 1 : Nat) : Int)) (q := 42) dX9_oneOf_41 (by omega) (by unfold am_ok; omega) rfl ?_
      refine rn_puti (a := 95) (q := 45) dX9_oneOf_42 fl_X9_132 rfl rfl rfl rfl ?_
      rw [aw_at]
      refine rn_aload_n (x := 95) (q := 46) dX9_oneOf_45 rfl rfl ?_
      refine rn_get (a := 95) (v := .inr (.inr (rd + 1))) (q := 49) dX9_oneOf_46 fl_X9_123 rfl (show Sum.inr (Sum.inr (M 95 12).toNat) = _ by rw [h12]; rfl) rfl ?_
      refine rn_aload_n (x := 95) (q := 50) dX9_oneOf_49 rfl rfl ?_
      refine rn_get (a := 95) (v := .inl ((a + 1 : Nat) : Int)) (q := 53) dX9_oneOf_50 fl_X9_132 rfl rfl rfl ?_
      refine rn_iconst (q := 54) dX9_oneOf_53 (am_okd rfl) rfl ?_
      refine rn_isubN (z := (a : Int)) (q := 55) dX9_oneOf_54 (by omega) (by unfold am_ok; omega) rfl ?_
      refine rn_baldV (a := rd) (v := txAt T (a : Int)) (q := 56) dX9_oneOf_55 hkn (by omega) (by omega) (by show aw M ((a + 1 : Nat) : Int) w rd a = _; rw [aw_ne hrd, hx]; exact hsb) rfl ?_
      refine rn_iload_n (x := c) (q := 57) dX9_oneOf_56 rfl rfl ?_
      refine rn_isubN (z := ((txAt T (a : Int)) - c)) (q := 58) dX9_oneOf_57 rfl (by unfold am_ok; omega) rfl ?_
      refine rn_iret dX9_oneOf_58 rfl ?_
      exact ⟨rfl, rfl⟩
    · rw [if_neg (fun h => hp h.2), if_neg (fun h => hp h.2)]
      have ho := txAt_ok (p := (a : Int)) hr.2.2.2.2.2.1
      refine rn_aload_n (x := 95) (q := 1) dX9_oneOf_0 rfl rfl ?_
      refine rn_callV (b := 95) (as := []) (rest := []) (q := 4) dX9_oneOf_1 ml_X9_142 sm_X9_fine rfl rfl (by decide) (by omega) rfl rfl (Nat.le_of_ble_eq_true rfl) rfl (s_fine9 (d := d + 1) (a : Int) w) ?_
      intro r1 mem1 hq1
      obtain ⟨rfl, rfl⟩ := hq1
      show am_Rn l G _ _ 4 [some (.inr (.inr 96)), some (.inl c), some (.inl k)] [.inl (if w = -1 then 1 else 0)] (aw M (a : Int) w) _
      rw [if_pos hw]
      refine rn_ifne (t := 9) (q := 7) dX9_oneOf_4 rfl rfl (fun w4 => ?_) (fun h => absurd h (by decide))
      refine rn_aload_n (x := 95) (q := 10) dX9_oneOf_9 rfl rfl ?_
      refine rn_callV (b := 95) (as := []) (rest := []) (q := 13) dX9_oneOf_10 ml_X9_146 sm_X9_here rfl rfl (by decide) (by omega) rfl rfl (Nat.le_of_ble_eq_true rfl) rfl (s_here9 (d := d + 1) hr a w ha) ?_
      intro r10 mem10 hq10
      obtain ⟨rfl, rfl⟩ := hq10
      show am_Rn l G _ _ 13 [some (.inr (.inr 96)), some (.inl c), some (.inl k)] [.inl (txAt T (a : Int))] (aw M (a : Int) w) _
      refine rn_iload_n (x := c) (q := 14) dX9_oneOf_13 rfl rfl ?_
      refine rn_iload_n (x := c) (q := 15) dX9_oneOf_14 rfl rfl ?_
      refine rn_iload_n (x := k) (q := 16) dX9_oneOf_15 rfl rfl ?_
      refine rn_iaddN (z := (c + k)) (q := 17) dX9_oneOf_16 rfl (by unfold am_ok; omega) rfl ?_
      refine rn_iconst (q := 18) dX9_oneOf_17 (am_okd rfl) rfl ?_
      refine rn_isubN (z := ((c + k) - 1)) (q := 19) dX9_oneOf_18 rfl (by unfold am_ok; omega) rfl ?_
      refine rn_callS (as := [.inl (txAt T (a : Int)), .inl c, .inl ((c + k) - 1)]) (rest := []) (q := 22) dX9_oneOf_19 ml_X9_116 sm_X9_in (by omega) rfl rfl (Nat.le_of_ble_eq_true rfl) rfl (s_in (d := d + 1) (txAt T (a : Int)) c ((c + k) - 1)) ?_
      intro r19 mem19 hq19
      obtain ⟨rfl, rfl⟩ := hq19
      show am_Rn l G _ _ 22 [some (.inr (.inr 96)), some (.inl c), some (.inl k)] [.inl (if c ≤ txAt T (a : Int) ∧ txAt T (a : Int) ≤ c + k - 1 then 1 else 0)] (aw M (a : Int) w) _
      rw [if_neg (fun h => hp ⟨h.1, by omega⟩)]
      refine rn_ifne (t := 35) (q := 25) dX9_oneOf_22 rfl rfl (fun h => absurd h (by decide)) (fun w22 => ?_)
      refine rn_aload_n (x := 95) (q := 26) dX9_oneOf_25 rfl rfl ?_
      refine rn_aload_n (x := 95) (q := 27) dX9_oneOf_26 rfl rfl ?_
      refine rn_get (a := 95) (v := .inl (a : Int)) (q := 30) dX9_oneOf_27 fl_X9_132 rfl rfl rfl ?_
      refine rn_callV (b := 95) (as := [.inl (a : Int)]) (rest := []) (q := 33) dX9_oneOf_30 ml_X9_154 sm_X9_fault rfl rfl (by decide) (by omega) rfl rfl (Nat.le_of_ble_eq_true rfl) rfl (s_fault9 (d := d) (a : Int) w (a : Int)) ?_
      intro r30 mem30 hq30
      obtain ⟨rfl, rfl⟩ := hq30
      show am_Rn l G _ _ 33 [some (.inr (.inr 96)), some (.inl c), some (.inl k)] [] (aw M (a : Int) (if w = -1 then (a : Int) else w)) _
      refine rn_iconst (q := 34) dX9_oneOf_33 (am_okd rfl) rfl ?_
      refine rn_iret dX9_oneOf_34 rfl ?_
      exact ⟨rfl, rfl⟩
  · rw [if_neg (fun h => hw h.1), if_neg (fun h => hw h.1), if_neg hw]
    refine rn_aload_n (x := 95) (q := 1) dX9_oneOf_0 rfl rfl ?_
    refine rn_callV (b := 95) (as := []) (rest := []) (q := 4) dX9_oneOf_1 ml_X9_142 sm_X9_fine rfl rfl (by decide) (by omega) rfl rfl (Nat.le_of_ble_eq_true rfl) rfl (s_fine9 (d := d + 1) (a : Int) w) ?_
    intro r1 mem1 hq1
    obtain ⟨rfl, rfl⟩ := hq1
    show am_Rn l G _ _ 4 [some (.inr (.inr 96)), some (.inl c), some (.inl k)] [.inl (if w = -1 then 1 else 0)] (aw M (a : Int) w) _
    rw [if_neg hw]
    refine rn_ifne (t := 9) (q := 7) dX9_oneOf_4 rfl rfl (fun h => absurd h (by decide)) (fun w4 => ?_)
    refine rn_iconst (q := 8) dX9_oneOf_7 (am_okd rfl) rfl ?_
    refine rn_iret dX9_oneOf_8 rfl ?_
    exact ⟨rfl, rfl⟩
end P24
