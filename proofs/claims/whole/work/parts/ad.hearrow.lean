/-! hearer and row: what is thrown, what is caught -/
abbrev mt_L_hearer : am_Mt := (RL, cL_hearer, 5, some .int)
abbrev mt_L_row : am_Mt := (RL, cL_row, 4, some .int)
abbrev hhH : List (Nat × Nat × Nat × Nat) := [(0, 10, 13, 13)]
abbrev hhR : List (Nat × Nat × Nat × Nat) := [(0, 8, 11, 13)]
theorem wl_1 : Cond.methodLink RL 46 yL_hearer ∈ am_tbl := am_t5 (i := 7) rfl rfl
theorem wl_2 : Cond.codeWith yL_hearer mt_L_hearer.2.1 mt_L_hearer.2.2.1 mt_L_hearer.2.2.2 hhH ∈ am_tbl := am_t5 (i := 9) rfl rfl
theorem wl_3 : Cond.initialized RL ∈ am_tbl := am_t1 (i := 0) rfl rfl
theorem wl_4 : Cond.static yL_hearer ∈ am_tbl := am_t5 (i := 8) rfl rfl
theorem wl_5 : Cond.methodLink RL 237 yL_row ∈ am_tbl := am_t5 (i := 76) rfl rfl
theorem wl_6 : Cond.codeWith yL_row mt_L_row.2.1 mt_L_row.2.2.1 mt_L_row.2.2.2 hhR ∈ am_tbl := am_t5 (i := 78) rfl rfl
theorem wl_7 : Cond.static yL_row ∈ am_tbl := am_t5 (i := 77) rfl rfl
theorem wl_8 : Cond.classLink RL 13 nsE ∈ am_tbl := am_t5 (i := 10) rfl rfl
section AD
variable {l : Launch} {G : am_G} {d r : Nat} {X : List Nat} {C : List Int} {sn : Nat} {sg : Nat → Nat} {h : hrs} {e : est} {NB : Nat} {mem : am_M}
theorem x_hearer (hlt : l.stackTraces = false) (q : CQ r X C sn sg h e NB mem) (i w : Int) (hn : ¬ (0 ≤ i ∧ i < h.1 ∧ 0 ≤ w ∧ w ≤ 6)) : x_Sm l G yX8_hearer mt_X8_hearer (d + 5) [.inr (.inr 1), .inl i, .inl w] mem := by
  refine x_enter (ls := [some (.inr (.inr 1)), some (.inl i), some (.inl w)]) hlt (by decide) rfl (fun h => nomatch h) (Nat.le_of_ble_eq_true rfl) rfl ?_
  have T21 : ∀ ls, gn l G mt_X8_hearer (d + 5) 1 6 (fun s c => nxE l G s ∧ ∀ x ∈ c.exceptionTable.toList, False) (fun below args s => vx_MQ below (fun _ _ _ _ => False) (nx_X G mem) args s 1 6 (am_A G)) 21 ls [] (am_P G mem) 0 0 := fun ls => gn_throw rfl dX8_hearer_21 dX8_hearer_24 dX8_hearer_25 dX8_hearer_28 (by decide) (by decide) (by omega)
  refine gn_aload_n (x := 0) (q := 1) dX8_hearer_0 rfl rfl ?_
  refine gn_getM (a := 0) (v := .inr (.inr 6)) (q := 4) dX8_hearer_1 fl_X8_26 rfl rfl rfl ?_
  refine gn_iload_n (x := i) (q := 5) dX8_hearer_4 rfl rfl ?_
  refine gn_callV (b := 5) (as := [.inl i]) (rest := []) (q := 8) dX8_hearer_5 ml_X8_175 sm_X6_has rfl rfl (by decide) (by omega) rfl rfl (Nat.le_of_ble_eq_true rfl) rfl (by decide) (by decide) (c_has (d := d + 4) q i) ?_
  intro r5 mem5 hq5
  obtain ⟨⟨rfl, hh5⟩ | ⟨rfl, hh5⟩, rfl⟩ := hq5
  · show gn l G _ _ _ _ _ _ 8 [some (.inr (.inr 1)), some (.inl i), some (.inl w)] [.inl 1] (am_P G mem) 0 0
    refine gn_ifeq (t := 21) (q := 11) dX8_hearer_8 rfl rfl (fun h => absurd h (by decide)) (fun w8 => ?_)
    refine gn_iload_n (x := w) (q := 12) dX8_hearer_11 rfl rfl ?_
    refine gn_iflt (t := 21) (q := 15) dX8_hearer_12 rfl rfl (fun w12 => T21 _) (fun w12 => ?_)
    refine gn_iload_n (x := w) (q := 16) dX8_hearer_15 rfl rfl ?_
    refine gn_bipush (q := 18) dX8_hearer_16 ⟨by decide, by decide⟩ rfl ?_
    exact gn_cmple (t := 29) (q := 21) dX8_hearer_18 rfl rfl (fun w18 => by exfalso; omega) (fun w18 => T21 _)
  · show gn l G _ _ _ _ _ _ 8 [some (.inr (.inr 1)), some (.inl i), some (.inl w)] [.inl 0] (am_P G mem) 0 0
    exact gn_ifeq (t := 21) (q := 11) dX8_hearer_8 rfl rfl (fun _ => T21 _) (fun h => absurd rfl h)
theorem x_row (hlt : l.stackTraces = false) {R : List Int} (hR : c_row R mem) (i : Int) (hn : ¬ (0 ≤ i ∧ i < R.length)) : x_Sm l G yX8_row mt_X8_row (d + 5) [.inr (.inr 1), .inl i] mem := by
  refine x_enter (ls := [some (.inr (.inr 1)), some (.inl i)]) hlt (by decide) rfl (fun h => nomatch h) (Nat.le_of_ble_eq_true rfl) rfl ?_
  have T15 : ∀ ls, gn l G mt_X8_row (d + 5) 1 6 (fun s c => nxE l G s ∧ ∀ x ∈ c.exceptionTable.toList, False) (fun below args s => vx_MQ below (fun _ _ _ _ => False) (nx_X G mem) args s 1 6 (am_A G)) 15 ls [] (am_P G mem) 0 0 := fun ls => gn_throw rfl dX8_row_15 dX8_row_18 dX8_row_19 dX8_row_22 (by decide) (by decide) (by omega)
  refine gn_iload_n (x := i) (q := 1) dX8_row_0 rfl rfl ?_
  refine gn_iflt (t := 15) (q := 4) dX8_row_1 rfl rfl (fun w1 => T15 _) (fun w1 => ?_)
  refine gn_iload_n (x := i) (q := 5) dX8_row_4 rfl rfl ?_
  refine gn_aload_n (x := 0) (q := 6) dX8_row_5 rfl rfl ?_
  refine gn_getM (a := 0) (v := .inr (.inr 4)) (q := 9) dX8_row_6 fl_X8_19 rfl rfl rfl ?_
  refine gn_getM (a := 3) (v := .inl (R.length : Int)) (q := 12) dX8_row_9 fl_X8_440 rfl (am_gi hR.1) rfl ?_
  exact gn_cmplt (t := 23) (q := 15) dX8_row_12 rfl rfl (fun w12 => by exfalso; omega) (fun w12 => T15 _)
theorem w_hearerN (hlt : l.stackTraces = false) (q : CQ r X C sn sg h e NB mem) (i w : Int) (hn : ¬ (0 ≤ i ∧ i < h.1 ∧ 0 ≤ w ∧ w ≤ 6)) : w_Sm l G yL_hearer mt_L_hearer hhH (d + 6) 1 6 [.inr (.inr 1), .inl i, .inl w, .inr (.inr 127)] (am_P G mem) (some (.inl 1)) (fun H => ∃ m, m = mem ∧ am_P G m H) := by
  refine w_enter (ls := [some (.inr (.inr 1)), some (.inl i), some (.inl w), some (.inr (.inr 127)), none]) hlt (by decide) rfl (fun h => nomatch h) (Nat.le_of_ble_eq_true rfl) rfl ?_
  refine gn_aload_n (x := 126) (q := 1) dL_hearer_0 rfl rfl ?_
  refine gn_iconst (q := 2) dL_hearer_1 (am_okd rfl) rfl ?_
  refine gn_aload_n (x := 0) (q := 3) dL_hearer_2 rfl rfl ?_
  refine gn_iload_n (x := i) (q := 4) dL_hearer_3 rfl rfl ?_
  refine gn_iload_n (x := w) (q := 5) dL_hearer_4 rfl rfl ?_
  refine gn_callX (x := ⟨0, 10, 13, 13⟩) (b := 0) (as := [.inl i, .inl w]) (rest := [.inl 0, .inr (.inr 127)]) dL_hearer_5 ml_L_7 sm_X8_hearer rfl rfl (by decide) (by omega) rfl rfl (Nat.le_of_ble_eq_true rfl) (by decide) (by decide) (x_hearer (d := d) hlt q i w hn) rfl (by decide) (by decide) wl_8 ?_
  intro p e R s m args below meth c H locs lsM q9 C hP hS hl
  refine lv_astore C.1 C.2.1 dL_hearer_13 hl.has (by decide) rfl (fun lsN hN => ?_)
  refine lv_iconst C.1 C.2.1 dL_hearer_15 rfl ?_
  exact W.iret C.1 C.2.1 C.2.2.2.2.2.1 (fun t ht hW => ⟨⟨rfl, ⟨mem, rfl, by rw [ht]; exact hP⟩, va_K.moved hW.alike C.2.2.2.2.2.2.2.1⟩, hS.F ht⟩) hS.2.2 dL_hearer_16 C.2.2.2.2.2.2.1
theorem w_rowN (hlt : l.stackTraces = false) {R : List Int} (hR : c_row R mem) (i : Int) (hn : ¬ (0 ≤ i ∧ i < R.length)) : w_Sm l G yL_row mt_L_row hhR (d + 6) 1 6 [.inr (.inr 1), .inl i, .inr (.inr 127)] (am_P G mem) (some (.inl 1)) (fun H => ∃ m, m = mem ∧ am_P G m H) := by
  refine w_enter (ls := [some (.inr (.inr 1)), some (.inl i), some (.inr (.inr 127)), none]) hlt (by decide) rfl (fun h => nomatch h) (Nat.le_of_ble_eq_true rfl) rfl ?_
  refine gn_aload_n (x := 126) (q := 1) dL_row_0 rfl rfl ?_
  refine gn_iconst (q := 2) dL_row_1 (am_okd rfl) rfl ?_
  refine gn_aload_n (x := 0) (q := 3) dL_row_2 rfl rfl ?_
  refine gn_iload_n (x := i) (q := 4) dL_row_3 rfl rfl ?_
  refine gn_callX (x := ⟨0, 8, 11, 13⟩) (b := 0) (as := [.inl i]) (rest := [.inl 0, .inr (.inr 127)]) dL_row_4 ml_L_15 sm_X8_row rfl rfl (by decide) (by omega) rfl rfl (Nat.le_of_ble_eq_true rfl) (by decide) (by decide) (x_row (d := d) hlt hR i hn) rfl (by decide) (by decide) wl_8 ?_
  intro p e R s m args below meth c H locs lsM q9 C hP hS hl
  refine lv_astore_n C.1 C.2.1 dL_row_11 rfl hl.has (by decide) rfl (fun lsN hN => ?_)
  refine lv_iconst C.1 C.2.1 dL_row_12 rfl ?_
  exact W.iret C.1 C.2.1 C.2.2.2.2.2.1 (fun t ht hW => ⟨⟨rfl, ⟨mem, rfl, by rw [ht]; exact hP⟩, va_K.moved hW.alike C.2.2.2.2.2.2.2.1⟩, hS.F ht⟩) hS.2.2 dL_row_13 C.2.2.2.2.2.2.1
theorem w_hearerY (hlt : l.stackTraces = false) (q : CQ r X C sn sg h e NB mem) (k : Nat) (hk : k < h.1) (w : Int) (hw : 0 ≤ w ∧ w ≤ 6) : w_Sm l G yL_hearer mt_L_hearer hhH (d + 6) 1 6 [.inr (.inr 1), .inl (k : Int), .inl w, .inr (.inr 127)] (am_P G mem) (some (.inl 0)) (fun H => ∃ m, (∃ m1, frS s8 mem m1 ∧ m = am_up m1 126 0 (heV X h sn sg e k w)) ∧ am_P G m H) := by
  refine w_enter (ls := [some (.inr (.inr 1)), some (.inl (k : Int)), some (.inl w), some (.inr (.inr 127)), none]) hlt (by decide) rfl (fun h => nomatch h) (Nat.le_of_ble_eq_true rfl) rfl ?_
  refine gn_aload_n (x := 126) (q := 1) dL_hearer_0 rfl rfl ?_
  refine gn_iconst (q := 2) dL_hearer_1 (am_okd rfl) rfl ?_
  refine gn_aload_n (x := 0) (q := 3) dL_hearer_2 rfl rfl ?_
  refine gn_iload_n (x := (k : Int)) (q := 4) dL_hearer_3 rfl rfl ?_
  refine gn_iload_n (x := w) (q := 5) dL_hearer_4 rfl rfl ?_
  refine gn_callV (b := 0) (as := [.inl (k : Int), .inl w]) (rest := [.inl 0, .inr (.inr 127)]) (q := 8) dL_hearer_5 ml_L_7 sm_X8_hearer rfl rfl (by decide) (by omega) rfl rfl (Nat.le_of_ble_eq_true rfl) rfl (by decide) (by decide) (c_hearer (d := d) q k hk w hw) ?_
  intro r5 m1 hq5
  obtain ⟨rfl, f⟩ := hq5
  show gn l G _ _ _ _ _ _ 8 _ [.inl (heV X h sn sg e k w), .inl 0, .inr (.inr 127)] (am_P G m1) 0 0
  refine gn_i2l (q := 9) dL_hearer_8 rfl ?_
  refine gn_lastM (a := 126) (n := 1) (q := 10) dL_hearer_9 rfl (by decide) (by decide) rfl ?_
  refine gn_goto (t := 17) dL_hearer_10 rfl ?_
  refine gn_iconst (q := 18) dL_hearer_17 (am_okd rfl) rfl ?_
  refine gn_wide (ce2 := 1) (sl2 := 6) (by decide) (by decide) ?_
  exact gn_iret rfl dL_hearer_18 (fun H h => ⟨_, ⟨m1, f, rfl⟩, h⟩)
theorem w_rowY (hlt : l.stackTraces = false) (q : CQ r X C sn sg h e NB mem) {R : List Int} (hR : c_row R mem) (k : Nat) (hk : k < R.length) : w_Sm l G yL_row mt_L_row hhR (d + 6) 1 6 [.inr (.inr 1), .inl (k : Int), .inr (.inr 127)] (am_P G mem) (some (.inl 0)) (fun H => ∃ m, m = am_up mem 126 0 (R.getD k 0) ∧ am_P G m H) := by
  refine w_enter (ls := [some (.inr (.inr 1)), some (.inl (k : Int)), some (.inr (.inr 127)), none]) hlt (by decide) rfl (fun h => nomatch h) (Nat.le_of_ble_eq_true rfl) rfl ?_
  refine gn_aload_n (x := 126) (q := 1) dL_row_0 rfl rfl ?_
  refine gn_iconst (q := 2) dL_row_1 (am_okd rfl) rfl ?_
  refine gn_aload_n (x := 0) (q := 3) dL_row_2 rfl rfl ?_
  refine gn_iload_n (x := (k : Int)) (q := 4) dL_row_3 rfl rfl ?_
  refine gn_callV (b := 0) (as := [.inl (k : Int)]) (rest := [.inl 0, .inr (.inr 127)]) (q := 7) dL_row_4 ml_L_15 sm_X8_row rfl rfl (by decide) (by omega) rfl rfl (Nat.le_of_ble_eq_true rfl) rfl (by decide) (by decide) (c_rowI (d := d) q hR k hk) ?_
  intro r5 m1 hq5
  obtain ⟨rfl, rfl⟩ := hq5
  show gn l G _ _ _ _ _ _ 7 _ [.inr (.inl (R.getD k 0)), .inl 0, .inr (.inr 127)] (am_P G mem) 0 0
  refine gn_lastM (a := 126) (n := 1) (q := 8) dL_row_7 rfl (by decide) (by decide) rfl ?_
  refine gn_goto (t := 14) dL_row_8 rfl ?_
  refine gn_iconst (q := 15) dL_row_14 (am_okd rfl) rfl ?_
  refine gn_wide (ce2 := 1) (sl2 := 6) (by decide) (by decide) ?_
  exact gn_iret rfl dL_row_15 (fun H h => ⟨_, rfl, h⟩)
theorem DD.out {T : List Nat} {R : List Int} {U : List est} {K : Nat → Option est} {L Y : List (Int × Int)} {x : Int} (c : DD T R X sn sg h e NB U K L Y mem) : DD T R X sn sg h e NB U K L Y (am_up mem 126 0 x) := c
theorem CC.out {T : List Nat} {R : List Int} {U : List est} {K : Nat → Option est} {L Y : List (Int × Int)} {x : Int} (c : CC T R X sn sg h e NB U K L Y mem) : CC T R X sn sg h e NB U K L Y (am_up mem 126 0 x) := c.cells (fun b hb => am_up_ne (by omega))
theorem P_hearer (hlt : l.stackTraces = false) (i w : Int) : ∀ (N : Nat) (mem : am_M), N ≤ 600 → Inv N mem → ∃ (k b : Int) (Mid : am_M → Prop), am_ok k ∧ w_Sm l G yL_hearer mt_L_hearer hhH 206 1 6 [.inr (.inr 1), .inl i, .inl w, .inr (.inr 127)] (am_P G mem) (some (.inl k)) (fun H => ∃ m, Mid m ∧ am_P G m H) ∧ ∀ m, Mid m → am_Sm l G yX9_hearer mt_X9_hearer 200 [.inr (.inr 96), .inl i, .inl w] m (fun q m2 => q = some (.inl b) ∧ m2 95 11 = k ∧ (k = 0 → m2 126 0 = b) ∧ Inv (N + 1) m2) := by
  intro N mem hN hI
  obtain ⟨T, R, X, sn, sg, h, e, NB, U, K, L, Y, cc, dd, pu, hB⟩ := hI
  have hc := cc
  obtain ⟨r, C, r2, q, h1, h2, h3, c⟩ := cc
  by_cases hn : 0 ≤ i ∧ i < h.1 ∧ 0 ≤ w ∧ w ≤ 6
  · obtain ⟨k, rfl⟩ : ∃ k : Nat, i = (k : Int) := ⟨i.toNat, by omega⟩
    refine ⟨0, heV X h sn sg e k w, _, am_ok0, w_hearerY (d := 200) hlt q k (by omega) w hn.2.2, fun m hm => ?_⟩
    obtain ⟨m1, f, rfl⟩ := hm
    have dm : DD T R X sn sg h e NB U K L Y (am_up m1 126 0 (heV X h sn sg e k w)) := (dd.cells (fun b hb => s8_hi f hb)).out
    refine am_Sm_mono (m_hearer (d := 23) dm.1 (k : Int) w) (fun _ m2 z => ?_)
    obtain ⟨z1, z2, z3⟩ := z.2 hn
    exact ⟨z1, z3, fun _ => z2 126 0 rfl, T, R, X, sn, sg, h, e, NB, U, K, L, Y, ((hc.scr f).out).cells (fun b hb => s9_lo z2 hb), dm.scr z2, pu, by omega⟩
  · refine ⟨1, 0, _, am_okd rfl, w_hearerN (d := 200) hlt q i w hn, fun m hm => ?_⟩
    subst hm
    refine am_Sm_mono (m_hearer (d := 23) dd.1 i w) (fun _ m2 z => ?_)
    obtain ⟨z1, z2⟩ := z.1 hn
    have f : frS s9 m m2 := by rw [z2]; exact (frS.rf.up rfl).up rfl
    exact ⟨z1, by rw [z2]; rfl, fun h => absurd h (by decide), T, R, X, sn, sg, h, e, NB, U, K, L, Y, hc.cells (fun b hb => s9_lo f hb), dd.scr f, pu, by omega⟩
theorem P_row (hlt : l.stackTraces = false) (i : Int) : ∀ (N : Nat) (mem : am_M), N ≤ 600 → Inv N mem → ∃ (k b : Int) (Mid : am_M → Prop), am_ok k ∧ w_Sm l G yL_row mt_L_row hhR 206 1 6 [.inr (.inr 1), .inl i, .inr (.inr 127)] (am_P G mem) (some (.inl k)) (fun H => ∃ m, Mid m ∧ am_P G m H) ∧ ∀ m, Mid m → am_Sm l G yX9_row mt_X9_row 200 [.inr (.inr 96), .inl i] m (fun q m2 => q = some (.inr (.inl b)) ∧ m2 95 11 = k ∧ (k = 0 → m2 126 0 = b) ∧ Inv (N + 1) m2) := by
  intro N mem hN hI
  obtain ⟨T, R, X, sn, sg, h, e, NB, U, K, L, Y, cc, dd, pu, hB⟩ := hI
  have hc := cc
  obtain ⟨r, C, r2, q, h1, h2, h3, c⟩ := cc
  by_cases hn : 0 ≤ i ∧ i < R.length
  · obtain ⟨k, rfl⟩ : ∃ k : Nat, i = (k : Int) := ⟨i.toNat, by omega⟩
    refine ⟨0, R.getD k 0, _, am_ok0, w_rowY (d := 200) hlt q c.2.1 k (by omega), fun m hm => ?_⟩
    subst hm
    have dm : DD T R X sn sg h e NB U K L Y (am_up mem 126 0 (R.getD k 0)) := dd.out
    refine am_Sm_mono (m_rowI (d := 198) dm.2.2.1 (k : Int)) (fun _ m2 z => ?_)
    obtain ⟨z1, z2⟩ := z.2 hn
    have f : frS s9 (am_up mem 126 0 (R.getD k 0)) m2 := by rw [z2]; exact frS.rf.up rfl
    exact ⟨z1, by rw [z2]; rfl, fun _ => f 126 0 rfl, T, R, X, sn, sg, h, e, NB, U, K, L, Y, hc.out.cells (fun b hb => s9_lo f hb), dm.scr f, pu, by omega⟩
  · refine ⟨1, 0, _, am_okd rfl, w_rowN (d := 200) hlt c.2.1 i hn, fun m hm => ?_⟩
    subst hm
    refine am_Sm_mono (m_rowI (d := 198) dd.2.2.1 i) (fun _ m2 z => ?_)
    obtain ⟨z1, z2⟩ := z.1 hn
    have f : frS s9 m m2 := by rw [z2]; exact (frS.rf.up rfl).up rfl
    exact ⟨z1, by rw [z2]; rfl, fun h => absurd h (by decide), T, R, X, sn, sg, h, e, NB, U, K, L, Y, hc.cells (fun b hb => s9_lo f hb), dd.scr f, pu, by omega⟩
end AD
