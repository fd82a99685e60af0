/-! spring of the class -/
def frX (mem m : am_M) : Prop := (∀ b, b ≠ 5 → b ≠ 10 → b ≠ 14 → b ≠ 15 → b ≠ 87 → b ≠ 88 → b ≠ 16 → b ≠ 17 → b ≠ 18 → m b = mem b) ∧ ∀ k, k < 8 → m 5 k = mem 5 k
theorem frX.rf {mem : am_M} : frX mem mem := ⟨fun _ _ _ _ _ _ _ _ _ _ => rfl, fun _ _ => rfl⟩
theorem frX.tr {x y z : am_M} (f : frX x y) (g : frX y z) : frX x z := ⟨fun b h1 h2 h3 h4 h5 h6 h7 h8 h9 => (g.1 b h1 h2 h3 h4 h5 h6 h7 h8 h9).trans (f.1 b h1 h2 h3 h4 h5 h6 h7 h8 h9), fun k h => (g.2 k h).trans (f.2 k h)⟩
theorem fr_ps.toX {r : Nat} {mem m : am_M} (hr : am_rul r) (f : fr_ps r 16 mem m) : frX mem m := by
  have o := am_rul_or hr
  exact ⟨fun b h1 h2 h3 h4 h5 h6 h7 h8 h9 => f.1 b h1 h2 (by omega) (by omega) h7 h8, f.2⟩
theorem fr3.toX {mem m : am_M} (f : fr3 16 mem m) : frX mem m := ⟨fun b _ _ _ _ _ _ h7 h8 h9 => f b h7 h8 h9, fun k _ => by rw [f 5 (by decide) (by decide) (by decide)]⟩
theorem frX.to8a {mem m : am_M} (f : frX mem m) : frS s8a mem m := by
  intro b k hb
  unfold s8a s8r s8 at hb
  simp [ble_f] at hb
  by_cases h5 : b = 5
  · subst h5
    by_cases hk : k < 8
    · exact f.2 k hk
    · exfalso; omega
  · rw [f.1 b h5 (by omega) (by omega) (by omega) (by omega) (by omega) (by omega) (by omega) (by omega)]
theorem frS.up2 {s : Nat → Nat → Bool} {mem m : am_M} (h : frS s mem m) {a k : Nat} {x : Int} : frS s (am_up mem a k x) (am_up m a k x) := by
  intro b j hb
  by_cases e : b = a
  · subst e
    rw [am_up_at, am_up_at]
    by_cases e2 : j = k
    · rw [if_pos e2, if_pos e2]
    · rw [if_neg e2, if_neg e2]; exact h b j hb
  · rw [am_up_ne e, am_up_ne e]; exact h b j hb
section P98
variable {l : Launch} {G : am_G} {d : Nat} {r : Nat} {X : List Nat} {C : List Int} {sn : Nat} {sg : Nat → Nat} {h : hrs} {e : est} {NB : Nat} {mem m : am_M}
variable {T : List Nat} {U : List est} {R : List Int}
theorem goOn_d (q : CQ r X C sn sg h e NB mem) (hN : NB + 60 < 900000) (d1 : Nat) (h9 : d1 ≤ 9) : am_Sm l G yX8_goOn mt_X8_goOn (d + 6) [.inr (.inr 1), .inr (.inr 17), .inl (d1 : Int)] mem (fun q m => q = some (.inl (eB (itE X h sn sg e d1) : Int)) ∧ c_est (itE X h sn sg e d1) 16 m ∧ fr_ps r 16 mem m) := am_Sm_mono (c_goOn q hN (d1 : Int)) (fun _ _ hq => hq.2 (by omega))
theorem c_act (q : CQ r X C sn sg h e NB mem) (hT : c_text T mem) (hN : NB + 60 < 900000) (s : Nat) (hw : wfA T s = -1) : am_Sm l G yX8_act mt_X8_act (d + 7) [.inr (.inr 1), .inl (s : Int)] mem (fun q m => ∃ v e2, q = some (.inl v) ∧ actP X h sn sg (T.getD s 0) (T.getD (s + 1) 0 - 48) (T.getD (s + 2) 0 - 48) e v e2 ∧ c_est e2 16 m ∧ frX mem m) := by
  refine am_enterQ (ls := [some (.inr (.inr 1)), some (.inl (s : Int)), none]) (by decide) rfl (Nat.le_of_ble_eq_true rfl) rfl (fun hok Q hQ => ?_)
  have b := q.bd
  obtain ⟨w1, w2, w3, w4, w5⟩ := wfA_ok hw
  have hl := hT.len
  have l0 := lsB_0 (T.getD s 0)
  obtain ⟨g1, g2⟩ := dig_9 (T := T) (s := s + 1) (by omega) (by omega)
  have e1 := txAt_n (T := T) (p := s) (by omega)
  obtain ⟨c, hc⟩ : ∃ c, T.getD s 0 = c := ⟨_, rfl⟩
  obtain ⟨d1, hd1⟩ : ∃ d1, T.getD (s + 1) 0 - 48 = d1 := ⟨_, rfl⟩
  obtain ⟨d2, hd2⟩ : ∃ d2, T.getD (s + 2) 0 - 48 = d2 := ⟨_, rfl⟩
  rw [hc] at hQ e1 w1 w4
  rw [hd1] at hQ g1 g2
  rw [hd2] at hQ
  have hcs : c = 104 ∨ c = 110 ∨ c = 99 ∨ c = 115 ∨ c = 98 ∨ c = 97 := by
    unfold dgB at w1
    by_cases z : (c : Int) = 104
    · omega
    · rw [if_neg z] at w1
      by_cases z2 : (c : Int) = 110 ∨ (c : Int) = 99 ∨ (c : Int) = 115 ∨ (c : Int) = 98 ∨ (c : Int) = 97
      · omega
      · rw [if_neg z2] at w1; omega
  rcases hcs with rfl | rfl | rfl | rfl | rfl | rfl
  · obtain ⟨w6, w7⟩ := w4 rfl
    obtain ⟨-, g4⟩ := dig_9 (T := T) (s := s + 2) (by omega) w7
    rw [hd2] at g4
    refine rn_aload_n (x := 0) (q := 1) dX8_act_0 rfl rfl ?_
    refine rn_get (a := 0) (v := .inr (.inr 2)) (q := 4) dX8_act_1 fl_X8_10 rfl rfl rfl ?_
    refine rn_iload_n (x := (s : Int)) (q := 5) dX8_act_4 rfl rfl ?_
    refine rn_iconst (q := 6) dX8_act_5 (am_okd rfl) rfl ?_
    refine rn_iaddN (z := ((s + 1 : Nat) : Int)) (q := 7) dX8_act_6 (by omega) (by unfold am_ok; omega) rfl ?_
    refine rn_callV (b := 1) (as := [.inl ((s + 1 : Nat) : Int)]) (rest := []) (q := 10) dX8_act_7 ml_X8_119 sm_X7_digit rfl rfl (by decide) (by omega) rfl rfl (Nat.le_of_ble_eq_true rfl) rfl (s_Tdigit (d := d + 5) hT ((s + 1 : Nat) : Int)) ?_
    intro r7 mem7 hq7
    obtain ⟨rfl, rfl⟩ := hq7
    show am_Rn l G _ _ 10 [some (.inr (.inr 1)), some (.inl (s : Int)), none] [.inl (txDg T ((s + 1 : Nat) : Int))] mem _
    rw [g2]
    refine rn_istore_n (ls' := [some (.inr (.inr 1)), some (.inl (s : Int)), some (.inl (d1 : Int))]) (q := 11) dX8_act_10 (by decide) rfl rfl ?_
    refine rn_aload_n (x := 0) (q := 12) dX8_act_11 rfl rfl ?_
    refine rn_get (a := 0) (v := .inr (.inr 2)) (q := 15) dX8_act_12 fl_X8_10 rfl rfl rfl ?_
    refine rn_iload_n (x := (s : Int)) (q := 16) dX8_act_15 rfl rfl ?_
    refine rn_callV (b := 1) (as := [.inl (s : Int)]) (rest := []) (q := 19) dX8_act_16 ml_X8_142 sm_X7_at rfl rfl (by decide) (by omega) rfl rfl (Nat.le_of_ble_eq_true rfl) rfl (s_Tat (d := d + 6) hT (s : Int)) ?_
    intro r16 mem16 hq16
    obtain ⟨rfl, rfl⟩ := hq16
    show am_Rn l G _ _ 19 [some (.inr (.inr 1)), some (.inl (s : Int)), some (.inl (d1 : Int))] [.inl (txAt T (s : Int))] mem _
    rw [e1]
    refine rn_tabIn (o1 := 109) (t := 128) dX8_act_19 (by decide) (by decide) rfl rfl ?_
    refine rn_aload_n (x := 0) (q := 129) dX8_act_128 rfl rfl ?_
    refine rn_aload_n (x := 0) (q := 130) dX8_act_129 rfl rfl ?_
    refine rn_get (a := 0) (v := .inr (.inr 17)) (q := 133) dX8_act_130 fl_X8_33 rfl rfl rfl ?_
    refine rn_iload_n (x := (d1 : Int)) (q := 134) dX8_act_133 rfl rfl ?_
    refine rn_aload_n (x := 0) (q := 135) dX8_act_134 rfl rfl ?_
    refine rn_get (a := 0) (v := .inr (.inr 2)) (q := 138) dX8_act_135 fl_X8_10 rfl rfl rfl ?_
    refine rn_iload_n (x := (s : Int)) (q := 139) dX8_act_138 rfl rfl ?_
    refine rn_iconst (q := 140) dX8_act_139 (am_okd rfl) rfl ?_
    refine rn_iaddN (z := ((s + 2 : Nat) : Int)) (q := 141) dX8_act_140 (by omega) (by unfold am_ok; omega) rfl ?_
    refine rn_callV (b := 1) (as := [.inl ((s + 2 : Nat) : Int)]) (rest := [.inl (d1 : Int), .inr (.inr 17), .inr (.inr 1)]) (q := 144) dX8_act_141 ml_X8_119 sm_X7_digit rfl rfl (by decide) (by omega) rfl rfl (Nat.le_of_ble_eq_true rfl) rfl (s_Tdigit (d := d + 5) hT ((s + 2 : Nat) : Int)) ?_
    intro r141 mem141 hq141
    obtain ⟨rfl, rfl⟩ := hq141
    show am_Rn l G _ _ 144 [some (.inr (.inr 1)), some (.inl (s : Int)), some (.inl (d1 : Int))] [.inl (txDg T ((s + 2 : Nat) : Int)), .inl (d1 : Int), .inr (.inr 17), .inr (.inr 1)] mem _
    rw [g4]
    refine rn_callV (b := 0) (as := [.inr (.inr 17), .inl (d1 : Int), .inl (d2 : Int)]) (rest := []) (q := 147) dX8_act_144 ml_X8_239 sm_X8_surcharge rfl rfl (by decide) (by omega) rfl rfl (Nat.le_of_ble_eq_true rfl) rfl (c_surcharge (d := d + 5) q (show 16 ∈ am_estL by decide) q.es q.eo (d1 : Int) (d2 : Int)) ?_
    intro r144 mem144 hq144
    obtain ⟨v, e3, rfl, hp, he144, hg144⟩ := hq144
    show am_Rn l G _ _ 147 [some (.inr (.inr 1)), some (.inl (s : Int)), some (.inl (d1 : Int))] [.inl v] mem144 _
    refine rn_iret dX8_act_147 rfl ?_
    exact hQ _ _ ⟨v, e3, rfl, hp, he144, fr3.toX hg144⟩
  · refine rn_aload_n (x := 0) (q := 1) dX8_act_0 rfl rfl ?_
    refine rn_get (a := 0) (v := .inr (.inr 2)) (q := 4) dX8_act_1 fl_X8_10 rfl rfl rfl ?_
    refine rn_iload_n (x := (s : Int)) (q := 5) dX8_act_4 rfl rfl ?_
    refine rn_iconst (q := 6) dX8_act_5 (am_okd rfl) rfl ?_
    refine rn_iaddN (z := ((s + 1 : Nat) : Int)) (q := 7) dX8_act_6 (by omega) (by unfold am_ok; omega) rfl ?_
    refine rn_callV (b := 1) (as := [.inl ((s + 1 : Nat) : Int)]) (rest := []) (q := 10) dX8_act_7 ml_X8_119 sm_X7_digit rfl rfl (by decide) (by omega) rfl rfl (Nat.le_of_ble_eq_true rfl) rfl (s_Tdigit (d := d + 5) hT ((s + 1 : Nat) : Int)) ?_
    intro r7 mem7 hq7
    obtain ⟨rfl, rfl⟩ := hq7
    show am_Rn l G _ _ 10 [some (.inr (.inr 1)), some (.inl (s : Int)), none] [.inl (txDg T ((s + 1 : Nat) : Int))] mem _
    rw [g2]
    refine rn_istore_n (ls' := [some (.inr (.inr 1)), some (.inl (s : Int)), some (.inl (d1 : Int))]) (q := 11) dX8_act_10 (by decide) rfl rfl ?_
    refine rn_aload_n (x := 0) (q := 12) dX8_act_11 rfl rfl ?_
    refine rn_get (a := 0) (v := .inr (.inr 2)) (q := 15) dX8_act_12 fl_X8_10 rfl rfl rfl ?_
    refine rn_iload_n (x := (s : Int)) (q := 16) dX8_act_15 rfl rfl ?_
    refine rn_callV (b := 1) (as := [.inl (s : Int)]) (rest := []) (q := 19) dX8_act_16 ml_X8_142 sm_X7_at rfl rfl (by decide) (by omega) rfl rfl (Nat.le_of_ble_eq_true rfl) rfl (s_Tat (d := d + 6) hT (s : Int)) ?_
    intro r16 mem16 hq16
    obtain ⟨rfl, rfl⟩ := hq16
    show am_Rn l G _ _ 19 [some (.inr (.inr 1)), some (.inl (s : Int)), some (.inl (d1 : Int))] [.inl (txAt T (s : Int))] mem _
    rw [e1]
    refine rn_tabIn (o1 := 89) (t := 108) dX8_act_19 (by decide) (by decide) rfl rfl ?_
    refine rn_aload_n (x := 0) (q := 109) dX8_act_108 rfl rfl ?_
    refine rn_aload_n (x := 0) (q := 110) dX8_act_109 rfl rfl ?_
    refine rn_get (a := 0) (v := .inr (.inr 17)) (q := 113) dX8_act_110 fl_X8_33 rfl rfl rfl ?_
    refine rn_iload_n (x := (d1 : Int)) (q := 114) dX8_act_113 rfl rfl ?_
    refine rn_callV (b := 0) (as := [.inr (.inr 17), .inl (d1 : Int)]) (rest := []) (q := 117) dX8_act_114 ml_X8_216 sm_X8_goOn rfl rfl (by decide) (by omega) rfl rfl (Nat.le_of_ble_eq_true rfl) rfl (goOn_d (d := d + 0) q hN d1 (by omega)) ?_
    intro r114 mem114 hq114
    obtain ⟨rfl, he114, hf114⟩ := hq114
    show am_Rn l G _ _ 117 [some (.inr (.inr 1)), some (.inl (s : Int)), some (.inl (d1 : Int))] [.inl (eB (itE X h sn sg e d1) : Int)] mem114 _
    refine rn_iret dX8_act_117 rfl ?_
    exact hQ _ _ ⟨_, _, rfl, ⟨rfl, rfl⟩, he114, fr_ps.toX q.rul hf114⟩
  · refine rn_aload_n (x := 0) (q := 1) dX8_act_0 rfl rfl ?_
    refine rn_get (a := 0) (v := .inr (.inr 2)) (q := 4) dX8_act_1 fl_X8_10 rfl rfl rfl ?_
    refine rn_iload_n (x := (s : Int)) (q := 5) dX8_act_4 rfl rfl ?_
    refine rn_iconst (q := 6) dX8_act_5 (am_okd rfl) rfl ?_
    refine rn_iaddN (z := ((s + 1 : Nat) : Int)) (q := 7) dX8_act_6 (by omega) (by unfold am_ok; omega) rfl ?_
    refine rn_callV (b := 1) (as := [.inl ((s + 1 : Nat) : Int)]) (rest := []) (q := 10) dX8_act_7 ml_X8_119 sm_X7_digit rfl rfl (by decide) (by omega) rfl rfl (Nat.le_of_ble_eq_true rfl) rfl (s_Tdigit (d := d + 5) hT ((s + 1 : Nat) : Int)) ?_
    intro r7 mem7 hq7
    obtain ⟨rfl, rfl⟩ := hq7
    show am_Rn l G _ _ 10 [some (.inr (.inr 1)), some (.inl (s : Int)), none] [.inl (txDg T ((s + 1 : Nat) : Int))] mem _
    rw [g2]
    refine rn_istore_n (ls' := [some (.inr (.inr 1)), some (.inl (s : Int)), some (.inl (d1 : Int))]) (q := 11) dX8_act_10 (by decide) rfl rfl ?_
    refine rn_aload_n (x := 0) (q := 12) dX8_act_11 rfl rfl ?_
    refine rn_get (a := 0) (v := .inr (.inr 2)) (q := 15) dX8_act_12 fl_X8_10 rfl rfl rfl ?_
    refine rn_iload_n (x := (s : Int)) (q := 16) dX8_act_15 rfl rfl ?_
    refine rn_callV (b := 1) (as := [.inl (s : Int)]) (rest := []) (q := 19) dX8_act_16 ml_X8_142 sm_X7_at rfl rfl (by decide) (by omega) rfl rfl (Nat.le_of_ble_eq_true rfl) rfl (s_Tat (d := d + 6) hT (s : Int)) ?_
    intro r16 mem16 hq16
    obtain ⟨rfl, rfl⟩ := hq16
    show am_Rn l G _ _ 19 [some (.inr (.inr 1)), some (.inl (s : Int)), some (.inl (d1 : Int))] [.inl (txAt T (s : Int))] mem _
    rw [e1]
    refine rn_tabIn (o1 := 99) (t := 118) dX8_act_19 (by decide) (by decide) rfl rfl ?_
    refine rn_aload_n (x := 0) (q := 119) dX8_act_118 rfl rfl ?_
    refine rn_aload_n (x := 0) (q := 120) dX8_act_119 rfl rfl ?_
    refine rn_get (a := 0) (v := .inr (.inr 17)) (q := 123) dX8_act_120 fl_X8_33 rfl rfl rfl ?_
    refine rn_iload_n (x := (d1 : Int)) (q := 124) dX8_act_123 rfl rfl ?_
    refine rn_callV (b := 0) (as := [.inr (.inr 17), .inl (d1 : Int)]) (rest := []) (q := 127) dX8_act_124 ml_X8_233 sm_X8_turn rfl rfl (by decide) (by omega) rfl rfl (Nat.le_of_ble_eq_true rfl) rfl (c_turn (d := d + 5) q (show 16 ∈ am_estL by decide) q.es (by omega) (d1 : Int)) ?_
    intro r124 mem124 hq124
    obtain ⟨rfl, he124, hg124⟩ := hq124
    show am_Rn l G _ _ 127 [some (.inr (.inr 1)), some (.inl (s : Int)), some (.inl (d1 : Int))] [.inl (turnA h e (d1 : Int))] mem124 _
    refine rn_iret dX8_act_127 rfl ?_
    exact hQ _ _ ⟨_, _, rfl, ⟨rfl, rfl⟩, he124, fr3.toX hg124⟩
  · refine rn_aload_n (x := 0) (q := 1) dX8_act_0 rfl rfl ?_
    refine rn_get (a := 0) (v := .inr (.inr 2)) (q := 4) dX8_act_1 fl_X8_10 rfl rfl rfl ?_
    refine rn_iload_n (x := (s : Int)) (q := 5) dX8_act_4 rfl rfl ?_
    refine rn_iconst (q := 6) dX8_act_5 (am_okd rfl) rfl ?_
    refine rn_iaddN (z := ((s + 1 : Nat) : Int)) (q := 7) dX8_act_6 (by omega) (by unfold am_ok; omega) rfl ?_
    refine rn_callV (b := 1) (as := [.inl ((s + 1 : Nat) : Int)]) (rest := []) (q := 10) dX8_act_7 ml_X8_119 sm_X7_digit rfl rfl (by decide) (by omega) rfl rfl (Nat.le_of_ble_eq_true rfl) rfl (s_Tdigit (d := d + 5) hT ((s + 1 : Nat) : Int)) ?_
    intro r7 mem7 hq7
    obtain ⟨rfl, rfl⟩ := hq7
    show am_Rn l G _ _ 10 [some (.inr (.inr 1)), some (.inl (s : Int)), none] [.inl (txDg T ((s + 1 : Nat) : Int))] mem _
    rw [g2]
    refine rn_istore_n (ls' := [some (.inr (.inr 1)), some (.inl (s : Int)), some (.inl (d1 : Int))]) (q := 11) dX8_act_10 (by decide) rfl rfl ?_
    refine rn_aload_n (x := 0) (q := 12) dX8_act_11 rfl rfl ?_
    refine rn_get (a := 0) (v := .inr (.inr 2)) (q := 15) dX8_act_12 fl_X8_10 rfl rfl rfl ?_
    refine rn_iload_n (x := (s : Int)) (q := 16) dX8_act_15 rfl rfl ?_
    refine rn_callV (b := 1) (as := [.inl (s : Int)]) (rest := []) (q := 19) dX8_act_16 ml_X8_142 sm_X7_at rfl rfl (by decide) (by omega) rfl rfl (Nat.le_of_ble_eq_true rfl) rfl (s_Tat (d := d + 6) hT (s : Int)) ?_
    intro r16 mem16 hq16
    obtain ⟨rfl, rfl⟩ := hq16
    show am_Rn l G _ _ 19 [some (.inr (.inr 1)), some (.inl (s : Int)), some (.inl (d1 : Int))] [.inl (txAt T (s : Int))] mem _
    rw [e1]
    refine rn_tabIn (o1 := 129) (t := 148) dX8_act_19 (by decide) (by decide) rfl rfl ?_
    refine rn_aload_n (x := 0) (q := 149) dX8_act_148 rfl rfl ?_
    refine rn_aload_n (x := 0) (q := 150) dX8_act_149 rfl rfl ?_
    refine rn_get (a := 0) (v := .inr (.inr 17)) (q := 153) dX8_act_150 fl_X8_33 rfl rfl rfl ?_
    refine rn_iload_n (x := (d1 : Int)) (q := 154) dX8_act_153 rfl rfl ?_
    refine rn_callV (b := 0) (as := [.inr (.inr 17), .inl (d1 : Int)]) (rest := []) (q := 157) dX8_act_154 ml_X8_243 sm_X8_wager rfl rfl (by decide) (by omega) rfl rfl (Nat.le_of_ble_eq_true rfl) rfl (c_wager (d := d + 6) (show 16 ∈ am_estL by decide) q.es (by omega) (by omega) (d1 : Int)) ?_
    intro r154 mem154 hq154
    obtain ⟨v, e3, rfl, hp, he154, hg154⟩ := hq154
    show am_Rn l G _ _ 157 [some (.inr (.inr 1)), some (.inl (s : Int)), some (.inl (d1 : Int))] [.inl v] mem154 _
    refine rn_iret dX8_act_157 rfl ?_
    exact hQ _ _ ⟨v, e3, rfl, hp, he154, fr3.toX hg154⟩
  · refine rn_aload_n (x := 0) (q := 1) dX8_act_0 rfl rfl ?_
    refine rn_get (a := 0) (v := .inr (.inr 2)) (q := 4) dX8_act_1 fl_X8_10 rfl rfl rfl ?_
    refine rn_iload_n (x := (s : Int)) (q := 5) dX8_act_4 rfl rfl ?_
    refine rn_iconst (q := 6) dX8_act_5 (am_okd rfl) rfl ?_
    refine rn_iaddN (z := ((s + 1 : Nat) : Int)) (q := 7) dX8_act_6 (by omega) (by unfold am_ok; omega) rfl ?_
    refine rn_callV (b := 1) (as := [.inl ((s + 1 : Nat) : Int)]) (rest := []) (q := 10) dX8_act_7 ml_X8_119 sm_X7_digit rfl rfl (by decide) (by omega) rfl rfl (Nat.le_of_ble_eq_true rfl) rfl (s_Tdigit (d := d + 5) hT ((s + 1 : Nat) : Int)) ?_
    intro r7 mem7 hq7
    obtain ⟨rfl, rfl⟩ := hq7
    show am_Rn l G _ _ 10 [some (.inr (.inr 1)), some (.inl (s : Int)), none] [.inl (txDg T ((s + 1 : Nat) : Int))] mem _
    rw [g2]
    refine rn_istore_n (ls' := [some (.inr (.inr 1)), some (.inl (s : Int)), some (.inl (d1 : Int))]) (q := 11) dX8_act_10 (by decide) rfl rfl ?_
    refine rn_aload_n (x := 0) (q := 12) dX8_act_11 rfl rfl ?_
    refine rn_get (a := 0) (v := .inr (.inr 2)) (q := 15) dX8_act_12 fl_X8_10 rfl rfl rfl ?_
    refine rn_iload_n (x := (s : Int)) (q := 16) dX8_act_15 rfl rfl ?_
    refine rn_callV (b := 1) (as := [.inl (s : Int)]) (rest := []) (q := 19) dX8_act_16 ml_X8_142 sm_X7_at rfl rfl (by decide) (by omega) rfl rfl (Nat.le_of_ble_eq_true rfl) rfl (s_Tat (d := d + 6) hT (s : Int)) ?_
    intro r16 mem16 hq16
    obtain ⟨rfl, rfl⟩ := hq16
    show am_Rn l G _ _ 19 [some (.inr (.inr 1)), some (.inl (s : Int)), some (.inl (d1 : Int))] [.inl (txAt T (s : Int))] mem _
    rw [e1]
    refine rn_tabIn (o1 := 139) (t := 158) dX8_act_19 (by decide) (by decide) rfl rfl ?_
    refine rn_aload_n (x := 0) (q := 159) dX8_act_158 rfl rfl ?_
    refine rn_aload_n (x := 0) (q := 160) dX8_act_159 rfl rfl ?_
    refine rn_get (a := 0) (v := .inr (.inr 17)) (q := 163) dX8_act_160 fl_X8_33 rfl rfl rfl ?_
    refine rn_iload_n (x := (d1 : Int)) (q := 164) dX8_act_163 rfl rfl ?_
    refine rn_inegN (z := (-(d1 : Int))) (q := 165) dX8_act_164 rfl (by unfold am_ok; omega) rfl ?_
    refine rn_callV (b := 0) (as := [.inr (.inr 17), .inl (-(d1 : Int))]) (rest := []) (q := 168) dX8_act_165 ml_X8_243 sm_X8_wager rfl rfl (by decide) (by omega) rfl rfl (Nat.le_of_ble_eq_true rfl) rfl (c_wager (d := d + 6) (show 16 ∈ am_estL by decide) q.es (by omega) (by omega) (-(d1 : Int))) ?_
    intro r165 mem165 hq165
    obtain ⟨v, e3, rfl, hp, he165, hg165⟩ := hq165
    show am_Rn l G _ _ 168 [some (.inr (.inr 1)), some (.inl (s : Int)), some (.inl (d1 : Int))] [.inl v] mem165 _
    refine rn_iret dX8_act_168 rfl ?_
    exact hQ _ _ ⟨v, e3, rfl, hp, he165, fr3.toX hg165⟩
  · refine rn_aload_n (x := 0) (q := 1) dX8_act_0 rfl rfl ?_
    refine rn_get (a := 0) (v := .inr (.inr 2)) (q := 4) dX8_act_1 fl_X8_10 rfl rfl rfl ?_
    refine rn_iload_n (x := (s : Int)) (q := 5) dX8_act_4 rfl rfl ?_
    refine rn_iconst (q := 6) dX8_act_5 (am_okd rfl) rfl ?_
    refine rn_iaddN (z := ((s + 1 : Nat) : Int)) (q := 7) dX8_act_6 (by omega) (by unfold am_ok; omega) rfl ?_
    refine rn_callV (b := 1) (as := [.inl ((s + 1 : Nat) : Int)]) (rest := []) (q := 10) dX8_act_7 ml_X8_119 sm_X7_digit rfl rfl (by decide) (by omega) rfl rfl (Nat.le_of_ble_eq_true rfl) rfl (s_Tdigit (d := d + 5) hT ((s + 1 : Nat) : Int)) ?_
    intro r7 mem7 hq7
    obtain ⟨rfl, rfl⟩ := hq7
    show am_Rn l G _ _ 10 [some (.inr (.inr 1)), some (.inl (s : Int)), none] [.inl (txDg T ((s + 1 : Nat) : Int))] mem _
    rw [g2]
    refine rn_istore_n (ls' := [some (.inr (.inr 1)), some (.inl (s : Int)), some (.inl (d1 : Int))]) (q := 11) dX8_act_10 (by decide) rfl rfl ?_
    refine rn_aload_n (x := 0) (q := 12) dX8_act_11 rfl rfl ?_
    refine rn_get (a := 0) (v := .inr (.inr 2)) (q := 15) dX8_act_12 fl_X8_10 rfl rfl rfl ?_
    refine rn_iload_n (x := (s : Int)) (q := 16) dX8_act_15 rfl rfl ?_
    refine rn_callV (b := 1) (as := [.inl (s : Int)]) (rest := []) (q := 19) dX8_act_16 ml_X8_142 sm_X7_at rfl rfl (by decide) (by omega) rfl rfl (Nat.le_of_ble_eq_true rfl) rfl (s_Tat (d := d + 6) hT (s : Int)) ?_
    intro r16 mem16 hq16
    obtain ⟨rfl, rfl⟩ := hq16
    show am_Rn l G _ _ 19 [some (.inr (.inr 1)), some (.inl (s : Int)), some (.inl (d1 : Int))] [.inl (txAt T (s : Int))] mem _
    rw [e1]
    refine rn_tabIn (o1 := 150) (t := 169) dX8_act_19 (by decide) (by decide) rfl rfl ?_
    refine rn_aload_n (x := 0) (q := 170) dX8_act_169 rfl rfl ?_
    refine rn_aload_n (x := 0) (q := 171) dX8_act_170 rfl rfl ?_
    refine rn_get (a := 0) (v := .inr (.inr 17)) (q := 174) dX8_act_171 fl_X8_33 rfl rfl rfl ?_
    refine rn_iload_n (x := (d1 : Int)) (q := 175) dX8_act_174 rfl rfl ?_
    refine rn_callV (b := 0) (as := [.inr (.inr 17), .inl (d1 : Int)]) (rest := []) (q := 178) dX8_act_175 ml_X8_249 sm_X8_handOver rfl rfl (by decide) (by omega) rfl rfl (Nat.le_of_ble_eq_true rfl) rfl (c_handOver (d := d + 6) (show 16 ∈ am_estL by decide) q.es (by omega) (d1 : Int)) ?_
    intro r175 mem175 hq175
    obtain ⟨v, e3, rfl, hp, he175, hg175⟩ := hq175
    show am_Rn l G _ _ 178 [some (.inr (.inr 1)), some (.inl (s : Int)), some (.inl (d1 : Int))] [.inl v] mem175 _
    refine rn_iret dX8_act_178 rfl ?_
    exact hQ _ _ ⟨v, e3, rfl, hp, he175, fr3.toX hg175⟩
theorem c_spring (q : CQ r X C sn sg h e NB mem) (hU : c_undo U mem) (hT : c_text T mem) (hN : NB + 600 < 900000) : am_Sm l G yX8_spring mt_X8_spring (d + 8) [.inr (.inr 1)] mem (fun q m => (spF T 61 0 ≠ -1 → q = some (.inl (-1 - spF T 61 0)) ∧ m = am_up mem 1 1 0) ∧ (spF T 61 0 = -1 → ∀ n k, spOK T n → exD X h sn sg T e n k → AC (k : Int) (exE X h sn sg T e k) (if 0 < k then pushU U e else U) [if k < n then 1 else 0, (eM (exE X h sn sg T e k) : Int)] (am_up mem 1 1 0) q m)) := by
  refine am_enterQ (ls := [some (.inr (.inr 1)), none, none, none, none, none]) (by decide) rfl (Nat.le_of_ble_eq_true rfl) rfl (fun hok Q hQ => ?_)
  have b := q.bd
  have hl := hT.len
  have hge := spF_ge (T := T) 61 0
  by_cases hsp : spF T 61 0 = -1
  · obtain ⟨n, hn⟩ := spF_ok (T := T) 61 0 (Nat.zero_le _) (by show min T.length 60 - 0 < 61; omega) (fun j hj => absurd hj (Nat.not_lt_zero j)) hsp
    have h60 := hn.1
    have E : ∀ (k : Nat) (p i st : Int) (m : am_M), exD X h sn sg T e n k → (k < n ∧ st = 1 ∨ k = n ∧ st = 0) → c_est (exE X h sn sg T e k) 16 m → c_est e 19 m → c_undo U m → frS s8a mem m → am_Rn l G mt_X8_spring (d + 8) 105 [some (.inr (.inr 1)), some (.inl (-1)), some (.inl (k : Int)), some (.inl p), some (.inl st), some (.inl i)] [] m Q := by
      intro k p i st m hk hst hE hB hu hf
      have fin : ∀ (m1 m2 : am_M) (x : Int), (x = if k < n then 1 else 0) → c_est (exE X h sn sg T e k) 16 m1 → c_undo (if 0 < k then pushU U e else U) m1 → frS s8a mem m1 → c_row [x, (eM (exE X h sn sg T e k) : Int)] m2 → (∀ b, b ≠ 3 → b ≠ 4 → m2 b = am_up m1 1 1 0 b) → Q (some (.inl (k : Int))) m2 := by
        intro m1 m2 x hx c1 c2 c3 c4 c5
        refine hQ _ _ ⟨fun z => absurd hsp z, fun _ n2 k2 hn2 hk2 => ?_⟩
        obtain rfl := spOK_un hn hn2
        obtain rfl := exD_un hk hk2
        rw [← hx]
        exact ⟨rfl, c1.kept ((c5 16 (by decide) (by decide)).trans (am_up_ne (by decide))) ((c5 17 (by decide) (by decide)).trans (am_up_ne (by decide))) ((c5 18 (by decide) (by decide)).trans (am_up_ne (by decide))), c2.keptU (fun x a1 a2 => (c5 x (by omega) (by omega)).trans (am_up_ne (by omega))), c4, c3.up2.tr (fr_row c5).a8⟩
      rcases hst with ⟨hkn, rfl⟩ | ⟨hkn, rfl⟩
      · refine rn_iload_n (x := (k : Int)) (q := 106) dX8_spring_105 rfl rfl ?_
        refine rn_ifle (t := 120) (q := 109) dX8_spring_106 rfl rfl (fun w106 => ?_) (fun w106 => ?_)
        · refine rn_aload_n (x := 0) (q := 121) dX8_spring_120 rfl rfl ?_
          refine rn_get (a := 0) (v := .inr (.inr 2)) (q := 124) dX8_spring_121 fl_X8_10 rfl rfl rfl ?_
          refine rn_iconst (q := 125) dX8_spring_124 (am_okd rfl) rfl ?_
          refine rn_puti (a := 1) (q := 128) dX8_spring_125 fl_X8_107 rfl rfl rfl rfl ?_
          refine rn_aload_n (x := 0) (q := 129) dX8_spring_128 rfl rfl ?_
          refine rn_get (a := 0) (v := .inr (.inr 4)) (q := 132) dX8_spring_129 fl_X8_19 rfl rfl rfl ?_
          refine rn_iload (x := 1) (q := 134) dX8_spring_132 rfl rfl ?_
          refine rn_ifeq (t := 141) (q := 137) dX8_spring_134 rfl rfl (fun h => absurd h (by decide)) (fun w134 => ?_)
          refine rn_lconst1 (q := 138) dX8_spring_137 rfl ?_
          refine rn_goto (t := 142) dX8_spring_138 rfl ?_
          refine rn_aload_n (x := 0) (q := 143) dX8_spring_142 rfl rfl ?_
          refine rn_get (a := 0) (v := .inr (.inr 17)) (q := 146) dX8_spring_143 fl_X8_33 rfl rfl rfl ?_
          refine rn_get (a := 16) (v := .inl (eM (exE X h sn sg T e k) : Int)) (q := 149) dX8_spring_146 fl_X8_223 rfl (am_gi hE.2.2.2.2.2.1) rfl ?_
          refine rn_i2l (q := 150) dX8_spring_149 rfl ?_
          refine rn_callV (b := 3) (as := [.inr (.inl 1), .inr (.inl (eM (exE X h sn sg T e k) : Int))]) (rest := []) (q := 153) dX8_spring_150 ml_X8_229 sm_X3_tell_ rfl rfl (by decide) (by omega) rfl rfl (Nat.le_of_ble_eq_true rfl) rfl (s_Rtell2 (d := d + 6) 1 (eM (exE X h sn sg T e k) : Int)) ?_
          intro r150 mem150 hq150
          obtain ⟨rfl, hr150, hf150⟩ := hq150
          show am_Rn l G _ _ 153 [some (.inr (.inr 1)), some (.inl (-1)), some (.inl (k : Int)), some (.inl p), some (.inl 1), some (.inl i)] [] mem150 _
          refine rn_iload_n (x := (k : Int)) (q := 154) dX8_spring_153 rfl rfl ?_
          refine rn_iret dX8_spring_154 rfl ?_
          first | exact fin mem117 _ 1 (by rw [if_pos hkn]) (hE.kept (hg117 16 (by decide)) (hg117 17 (by decide)) (hg117 18 (by decide))) (by rw [if_pos (by omega)]; exact hu117) (hf.tr (fr_push hg117)) hr150 hf150 | exact fin m _ 1 (by rw [if_pos hkn]) hE (by rw [if_neg (by omega)]; exact hu) hf hr150 hf150
        · refine rn_aload_n (x := 0) (q := 110) dX8_spring_109 rfl rfl ?_
          refine rn_get (a := 0) (v := .inr (.inr 26)) (q := 113) dX8_spring_110 fl_X8_46 rfl rfl rfl ?_
          refine rn_aload_n (x := 0) (q := 114) dX8_spring_113 rfl rfl ?_
          refine rn_get (a := 0) (v := .inr (.inr 20)) (q := 117) dX8_spring_114 fl_X8_37 rfl rfl rfl ?_
          refine rn_callV (b := 25) (as := [.inr (.inr 20)]) (rest := []) (q := 120) dX8_spring_117 ml_X8_220 sm_X2_push rfl rfl (by decide) (by omega) rfl rfl (Nat.le_of_ble_eq_true rfl) rfl (s_push (d := d + 6) (b := 19) hu (show 19 ∈ am_estL by decide) (by decide) hB) ?_
          intro r117 mem117 hq117
          obtain ⟨rfl, hu117, hg117⟩ := hq117
          show am_Rn l G _ _ 120 [some (.inr (.inr 1)), some (.inl (-1)), some (.inl (k : Int)), some (.inl p), some (.inl 1), some (.inl i)] [] mem117 _
          refine rn_aload_n (x := 0) (q := 121) dX8_spring_120 rfl rfl ?_
          refine rn_get (a := 0) (v := .inr (.inr 2)) (q := 124) dX8_spring_121 fl_X8_10 rfl rfl rfl ?_
          refine rn_iconst (q := 125) dX8_spring_124 (am_okd rfl) rfl ?_
          refine rn_puti (a := 1) (q := 128) dX8_spring_125 fl_X8_107 rfl rfl rfl rfl ?_
          refine rn_aload_n (x := 0) (q := 129) dX8_spring_128 rfl rfl ?_
          refine rn_get (a := 0) (v := .inr (.inr 4)) (q := 132) dX8_spring_129 fl_X8_19 rfl rfl rfl ?_
          refine rn_iload (x := 1) (q := 134) dX8_spring_132 rfl rfl ?_
          refine rn_ifeq (t := 141) (q := 137) dX8_spring_134 rfl rfl (fun h => absurd h (by decide)) (fun w134 => ?_)
          refine rn_lconst1 (q := 138) dX8_spring_137 rfl ?_
          refine rn_goto (t := 142) dX8_spring_138 rfl ?_
          refine rn_aload_n (x := 0) (q := 143) dX8_spring_142 rfl rfl ?_
          refine rn_get (a := 0) (v := .inr (.inr 17)) (q := 146) dX8_spring_143 fl_X8_33 rfl rfl rfl ?_
          refine rn_get (a := 16) (v := .inl (eM (exE X h sn sg T e k) : Int)) (q := 149) dX8_spring_146 fl_X8_223 rfl (am_gi ((congrFun (hg117 16 (by decide)) 5).trans hE.2.2.2.2.2.1)) rfl ?_
          refine rn_i2l (q := 150) dX8_spring_149 rfl ?_
          refine rn_callV (b := 3) (as := [.inr (.inl 1), .inr (.inl (eM (exE X h sn sg T e k) : Int))]) (rest := []) (q := 153) dX8_spring_150 ml_X8_229 sm_X3_tell_ rfl rfl (by decide) (by omega) rfl rfl (Nat.le_of_ble_eq_true rfl) rfl (s_Rtell2 (d := d + 6) 1 (eM (exE X h sn sg T e k) : Int)) ?_
          intro r150 mem150 hq150
          obtain ⟨rfl, hr150, hf150⟩ := hq150
          show am_Rn l G _ _ 153 [some (.inr (.inr 1)), some (.inl (-1)), some (.inl (k : Int)), some (.inl p), some (.inl 1), some (.inl i)] [] mem150 _
          refine rn_iload_n (x := (k : Int)) (q := 154) dX8_spring_153 rfl rfl ?_
          refine rn_iret dX8_spring_154 rfl ?_
          first | exact fin mem117 _ 1 (by rw [if_pos hkn]) (hE.kept (hg117 16 (by decide)) (hg117 17 (by decide)) (hg117 18 (by decide))) (by rw [if_pos (by omega)]; exact hu117) (hf.tr (fr_push hg117)) hr150 hf150 | exact fin m _ 1 (by rw [if_pos hkn]) hE (by rw [if_neg (by omega)]; exact hu) hf hr150 hf150
      · refine rn_iload_n (x := (k : Int)) (q := 106) dX8_spring_105 rfl rfl ?_
        refine rn_ifle (t := 120) (q := 109) dX8_spring_106 rfl rfl (fun w106 => ?_) (fun w106 => ?_)
        · refine rn_aload_n (x := 0) (q := 121) dX8_spring_120 rfl rfl ?_
          refine rn_get (a := 0) (v := .inr (.inr 2)) (q := 124) dX8_spring_121 fl_X8_10 rfl rfl rfl ?_
          refine rn_iconst (q := 125) dX8_spring_124 (am_okd rfl) rfl ?_
          refine rn_puti (a := 1) (q := 128) dX8_spring_125 fl_X8_107 rfl rfl rfl rfl ?_
          refine rn_aload_n (x := 0) (q := 129) dX8_spring_128 rfl rfl ?_
          refine rn_get (a := 0) (v := .inr (.inr 4)) (q := 132) dX8_spring_129 fl_X8_19 rfl rfl rfl ?_
          refine rn_iload (x := 0) (q := 134) dX8_spring_132 rfl rfl ?_
          refine rn_ifeq (t := 141) (q := 137) dX8_spring_134 rfl rfl (fun w134 => ?_) (fun h => absurd h (by decide))
          refine rn_lconst0 (q := 142) dX8_spring_141 rfl ?_
          refine rn_aload_n (x := 0) (q := 143) dX8_spring_142 rfl rfl ?_
          refine rn_get (a := 0) (v := .inr (.inr 17)) (q := 146) dX8_spring_143 fl_X8_33 rfl rfl rfl ?_
          refine rn_get (a := 16) (v := .inl (eM (exE X h sn sg T e k) : Int)) (q := 149) dX8_spring_146 fl_X8_223 rfl (am_gi hE.2.2.2.2.2.1) rfl ?_
          refine rn_i2l (q := 150) dX8_spring_149 rfl ?_
          refine rn_callV (b := 3) (as := [.inr (.inl 0), .inr (.inl (eM (exE X h sn sg T e k) : Int))]) (rest := []) (q := 153) dX8_spring_150 ml_X8_229 sm_X3_tell_ rfl rfl (by decide) (by omega) rfl rfl (Nat.le_of_ble_eq_true rfl) rfl (s_Rtell2 (d := d + 6) 0 (eM (exE X h sn sg T e k) : Int)) ?_
          intro r150 mem150 hq150
          obtain ⟨rfl, hr150, hf150⟩ := hq150
          show am_Rn l G _ _ 153 [some (.inr (.inr 1)), some (.inl (-1)), some (.inl (k : Int)), some (.inl p), some (.inl 0), some (.inl i)] [] mem150 _
          refine rn_iload_n (x := (k : Int)) (q := 154) dX8_spring_153 rfl rfl ?_
          refine rn_iret dX8_spring_154 rfl ?_
          first | exact fin mem117 _ 0 (by rw [if_neg (by omega)]) (hE.kept (hg117 16 (by decide)) (hg117 17 (by decide)) (hg117 18 (by decide))) (by rw [if_pos (by omega)]; exact hu117) (hf.tr (fr_push hg117)) hr150 hf150 | exact fin m _ 0 (by rw [if_neg (by omega)]) hE (by rw [if_neg (by omega)]; exact hu) hf hr150 hf150
        · refine rn_aload_n (x := 0) (q := 110) dX8_spring_109 rfl rfl ?_
          refine rn_get (a := 0) (v := .inr (.inr 26)) (q := 113) dX8_spring_110 fl_X8_46 rfl rfl rfl ?_
          refine rn_aload_n (x := 0) (q := 114) dX8_spring_113 rfl rfl ?_
          refine rn_get (a := 0) (v := .inr (.inr 20)) (q := 117) dX8_spring_114 fl_X8_37 rfl rfl rfl ?_
          refine rn_callV (b := 25) (as := [.inr (.inr 20)]) (rest := []) (q := 120) dX8_spring_117 ml_X8_220 sm_X2_push rfl rfl (by decide) (by omega) rfl rfl (Nat.le_of_ble_eq_true rfl) rfl (s_push (d := d + 6) (b := 19) hu (show 19 ∈ am_estL by decide) (by decide) hB) ?_
          intro r117 mem117 hq117
          obtain ⟨rfl, hu117, hg117⟩ := hq117
          show am_Rn l G _ _ 120 [some (.inr (.inr 1)), some (.inl (-1)), some (.inl (k : Int)), some (.inl p), some (.inl 0), some (.inl i)] [] mem117 _
          refine rn_aload_n (x := 0) (q := 121) dX8_spring_120 rfl rfl ?_
          refine rn_get (a := 0) (v := .inr (.inr 2)) (q := 124) dX8_spring_121 fl_X8_10 rfl rfl rfl ?_
          refine rn_iconst (q := 125) dX8_spring_124 (am_okd rfl) rfl ?_
          refine rn_puti (a := 1) (q := 128) dX8_spring_125 fl_X8_107 rfl rfl rfl rfl ?_
          refine rn_aload_n (x := 0) (q := 129) dX8_spring_128 rfl rfl ?_
          refine rn_get (a := 0) (v := .inr (.inr 4)) (q := 132) dX8_spring_129 fl_X8_19 rfl rfl rfl ?_
          refine rn_iload (x := 0) (q := 134) dX8_spring_132 rfl rfl ?_
          refine rn_ifeq (t := 141) (q := 137) dX8_spring_134 rfl rfl (fun w134 => ?_) (fun h => absurd h (by decide))
          refine rn_lconst0 (q := 142) dX8_spring_141 rfl ?_
          refine rn_aload_n (x := 0) (q := 143) dX8_spring_142 rfl rfl ?_
          refine rn_get (a := 0) (v := .inr (.inr 17)) (q := 146) dX8_spring_143 fl_X8_33 rfl rfl rfl ?_
          refine rn_get (a := 16) (v := .inl (eM (exE X h sn sg T e k) : Int)) (q := 149) dX8_spring_146 fl_X8_223 rfl (am_gi ((congrFun (hg117 16 (by decide)) 5).trans hE.2.2.2.2.2.1)) rfl ?_
          refine rn_i2l (q := 150) dX8_spring_149 rfl ?_
          refine rn_callV (b := 3) (as := [.inr (.inl 0), .inr (.inl (eM (exE X h sn sg T e k) : Int))]) (rest := []) (q := 153) dX8_spring_150 ml_X8_229 sm_X3_tell_ rfl rfl (by decide) (by omega) rfl rfl (Nat.le_of_ble_eq_true rfl) rfl (s_Rtell2 (d := d + 6) 0 (eM (exE X h sn sg T e k) : Int)) ?_
          intro r150 mem150 hq150
          obtain ⟨rfl, hr150, hf150⟩ := hq150
          show am_Rn l G _ _ 153 [some (.inr (.inr 1)), some (.inl (-1)), some (.inl (k : Int)), some (.inl p), some (.inl 0), some (.inl i)] [] mem150 _
          refine rn_iload_n (x := (k : Int)) (q := 154) dX8_spring_153 rfl rfl ?_
          refine rn_iret dX8_spring_154 rfl ?_
          first | exact fin mem117 _ 0 (by rw [if_neg (by omega)]) (hE.kept (hg117 16 (by decide)) (hg117 17 (by decide)) (hg117 18 (by decide))) (by rw [if_pos (by omega)]; exact hu117) (hf.tr (fr_push hg117)) hr150 hf150 | exact fin m _ 0 (by rw [if_neg (by omega)]) hE (by rw [if_neg (by omega)]; exact hu) hf hr150 hf150
    have L : ∀ i : Nat, i ≤ n → ∀ m : am_M, (∀ j, j < i → 0 ≤ exV X h sn sg T e j) → CQ r X C sn sg h (exE X h sn sg T e i) (NB + 9 * i) m → c_est e 19 m → c_undo U m → c_text T m → frS s8a mem m → am_Rn l G mt_X8_spring (d + 8) 43 [some (.inr (.inr 1)), some (.inl (-1)), some (.inl (i : Int)), some (.inl (saP T i : Int)), some (.inl 0), some (.inl (i : Int))] [] m Q := by
      refine am_dn n (fun i hi ih m hj hq hB hu hT2 hf => ?_)
      have h2 := saP_2 hn i hi
      by_cases hin : i = n
      · have hsi : saP T i = T.length := by rw [hin]; exact hn.2.1
        refine rn_iload (x := (i : Int)) (q := 45) dX8_spring_43 rfl rfl ?_
        refine rn_bipush (q := 47) dX8_spring_45 ⟨by decide, by decide⟩ rfl ?_
        refine rn_cmpge (t := 105) (q := 50) dX8_spring_47 rfl rfl (fun h => absurd h (by omega)) (fun w47 => ?_)
        refine rn_iload_n (x := (saP T i : Int)) (q := 51) dX8_spring_50 rfl rfl ?_
        refine rn_aload_n (x := 0) (q := 52) dX8_spring_51 rfl rfl ?_
        refine rn_get (a := 0) (v := .inr (.inr 2)) (q := 55) dX8_spring_52 fl_X8_10 rfl rfl rfl ?_
        refine rn_get (a := 1) (v := .inl (T.length : Int)) (q := 58) dX8_spring_55 fl_X8_107 rfl (am_gi hT2.1) rfl ?_
        refine rn_cmpge (t := 105) (q := 61) dX8_spring_58 rfl rfl (fun w58 => ?_) (fun h => absurd h (by omega))
        exact E i _ _ _ m ⟨hi, hj, fun z => by omega⟩ (Or.inr ⟨hin, rfl⟩) hq.es hB hu hf
      · obtain ⟨w0, w1⟩ := hn.2.2 i (by omega)
        obtain ⟨v1, v2, v3, v4, v5⟩ := wfA_ok w0
        have e1 := txAt_n (T := T) (p := saP T i) (by omega)
        have h3 := dgB_3 (T.getD (saP T i) 0)
        have hnx : saP T (i + 1) = saP T i + 1 + dgB (T.getD (saP T i) 0) := rfl
        have l0 := lsB_0 (T.getD (saP T i) 0)
        have d9 := (dig_9 (T := T) (s := saP T i + 1) (by omega) (by omega)).1
        have S43 : ∀ m : am_M, exD X h sn sg T e n i → c_est (exE X h sn sg T e i) 16 m → c_est e 19 m → c_undo U m → c_text T m → frS s8a mem m → am_Rn l G mt_X8_spring (d + 8) 43 [some (.inr (.inr 1)), some (.inl (-1)), some (.inl (i : Int)), some (.inl (saP T (i + 1) : Int)), some (.inl 1), some (.inl ((i + 1 : Nat) : Int))] [] m Q := by
          intro m k1 k2 k3 k4 k5 k6
          refine rn_iload (x := ((i + 1 : Nat) : Int)) (q := 45) dX8_spring_43 rfl rfl ?_
          refine rn_bipush (q := 47) dX8_spring_45 ⟨by decide, by decide⟩ rfl ?_
          refine rn_cmpge (t := 105) (q := 50) dX8_spring_47 rfl rfl (fun h => absurd h (by omega)) (fun w47 => ?_)
          refine rn_iload_n (x := (saP T (i + 1) : Int)) (q := 51) dX8_spring_50 rfl rfl ?_
          refine rn_aload_n (x := 0) (q := 52) dX8_spring_51 rfl rfl ?_
          refine rn_get (a := 0) (v := .inr (.inr 2)) (q := 55) dX8_spring_52 fl_X8_10 rfl rfl rfl ?_
          refine rn_get (a := 1) (v := .inl (T.length : Int)) (q := 58) dX8_spring_55 fl_X8_107 rfl (am_gi k5.1) rfl ?_
          refine rn_cmpge (t := 105) (q := 61) dX8_spring_58 rfl rfl (fun w58 => ?_) (fun w58 => ?_)
          · exact E i _ _ _ m k1 (Or.inl ⟨by omega, rfl⟩) k2 k3 k4 k6
          · refine rn_iload (x := 1) (q := 63) dX8_spring_61 rfl rfl ?_
            refine rn_ifne (t := 105) (q := 66) dX8_spring_63 rfl rfl (fun w63 => ?_) (fun h => absurd h (by decide))
            exact E i _ _ _ m k1 (Or.inl ⟨by omega, rfl⟩) k2 k3 k4 k6
        refine rn_iload (x := (i : Int)) (q := 45) dX8_spring_43 rfl rfl ?_
        refine rn_bipush (q := 47) dX8_spring_45 ⟨by decide, by decide⟩ rfl ?_
        refine rn_cmpge (t := 105) (q := 50) dX8_spring_47 rfl rfl (fun h => absurd h (by omega)) (fun w47 => ?_)
        refine rn_iload_n (x := (saP T i : Int)) (q := 51) dX8_spring_50 rfl rfl ?_
        refine rn_aload_n (x := 0) (q := 52) dX8_spring_51 rfl rfl ?_
        refine rn_get (a := 0) (v := .inr (.inr 2)) (q := 55) dX8_spring_52 fl_X8_10 rfl rfl rfl ?_
        refine rn_get (a := 1) (v := .inl (T.length : Int)) (q := 58) dX8_spring_55 fl_X8_107 rfl (am_gi hT2.1) rfl ?_
        refine rn_cmpge (t := 105) (q := 61) dX8_spring_58 rfl rfl (fun h => absurd h (by omega)) (fun w58 => ?_)
        refine rn_iload (x := 0) (q := 63) dX8_spring_61 rfl rfl ?_
        refine rn_ifne (t := 105) (q := 66) dX8_spring_63 rfl rfl (fun h => absurd h (by decide)) (fun w63 => ?_)
        refine rn_aload_n (x := 0) (q := 67) dX8_spring_66 rfl rfl ?_
        refine rn_iload_n (x := (saP T i : Int)) (q := 68) dX8_spring_67 rfl rfl ?_
        refine rn_callV (b := 0) (as := [.inl (saP T i : Int)]) (rest := []) (q := 71) dX8_spring_68 ml_X8_269 sm_X8_act rfl rfl (by decide) (by omega) rfl rfl (Nat.le_of_ble_eq_true rfl) rfl (c_act (d := d + 0) hq hT2 (by omega) (saP T i) w0) ?_
        intro r68 mem68 hq68
        obtain ⟨v, e3, rfl, hp68, he68, hf68⟩ := hq68
        show am_Rn l G _ _ 71 [some (.inr (.inr 1)), some (.inl (-1)), some (.inl (i : Int)), some (.inl (saP T i : Int)), some (.inl 0), some (.inl (i : Int))] [.inl v] mem68 _
        obtain ⟨hv, he3⟩ := actP_un hp68 (actS_P (X := X) (h := h) (sn := sn) (sg := sg))
        have hT4 : c_text T mem68 := hT2.keptT (hf68.1 1 (by decide) (by decide) (by decide) (by decide) (by decide) (by decide) (by decide) (by decide) (by decide)) (hf68.1 2 (by decide) (by decide) (by decide) (by decide) (by decide) (by decide) (by decide) (by decide) (by decide))
        have hB4 : c_est e 19 mem68 := hB.kept (hf68.1 19 (by decide) (by decide) (by decide) (by decide) (by decide) (by decide) (by decide) (by decide) (by decide)) (hf68.1 20 (by decide) (by decide) (by decide) (by decide) (by decide) (by decide) (by decide) (by decide) (by decide)) (hf68.1 21 (by decide) (by decide) (by decide) (by decide) (by decide) (by decide) (by decide) (by decide) (by decide))
        have hu4 : c_undo U mem68 := hu.keptU (fun x a1 a2 => hf68.1 x (by omega) (by omega) (by omega) (by omega) (by omega) (by omega) (by omega) (by omega) (by omega))
        have hf4 : frS s8a mem mem68 := hf.tr hf68.to8a
        have HQ4 : CQ r X C sn sg h (exE X h sn sg T e (i + 1)) (NB + 9 * (i + 1)) mem68 := by
          show CQ r X C sn sg h (actS X h sn sg _ _ _ _) _ mem68
          rw [← he3, show NB + 9 * (i + 1) = NB + 9 * i + 9 by omega]
          exact hq.setE he68 (actP_ok d9 hq.eo hp68) (by omega) hf68.to8a
        refine rn_ifge (t := 80) (q := 74) dX8_spring_71 rfl rfl (fun w71 => ?_) (fun w71 => ?_)
        · refine rn_iincN (x := (i : Int)) (z := ((i + 1 : Nat) : Int)) (ls' := [some (.inr (.inr 1)), some (.inl (-1)), some (.inl ((i + 1 : Nat) : Int)), some (.inl (saP T i : Int)), some (.inl 0), some (.inl (i : Int))]) (q := 83) dX8_spring_80 rfl (by decide) (by omega) (by unfold am_ok; omega) rfl rfl ?_
          refine rn_iload_n (x := (saP T i : Int)) (q := 84) dX8_spring_83 rfl rfl ?_
          refine rn_iconst (q := 85) dX8_spring_84 (am_okd rfl) rfl ?_
          refine rn_aload_n (x := 0) (q := 86) dX8_spring_85 rfl rfl ?_
          refine rn_get (a := 0) (v := .inr (.inr 2)) (q := 89) dX8_spring_86 fl_X8_10 rfl rfl rfl ?_
          refine rn_iload_n (x := (saP T i : Int)) (q := 90) dX8_spring_89 rfl rfl ?_
          refine rn_callV (b := 1) (as := [.inl (saP T i : Int)]) (rest := [.inl 1, .inl (saP T i : Int)]) (q := 93) dX8_spring_90 ml_X8_142 sm_X7_at rfl rfl (by decide) (by omega) rfl rfl (Nat.le_of_ble_eq_true rfl) rfl (s_Tat (d := d + 7) hT4 (saP T i : Int)) ?_
          intro r90 mem90 hq90
          obtain ⟨rfl, rfl⟩ := hq90
          show am_Rn l G _ _ 93 [some (.inr (.inr 1)), some (.inl (-1)), some (.inl ((i + 1 : Nat) : Int)), some (.inl (saP T i : Int)), some (.inl 0), some (.inl (i : Int))] [.inl (txAt T (saP T i : Int)), .inl 1, .inl (saP T i : Int)] mem68 _
          rw [e1]
          refine rn_callS (as := [.inl (T.getD (saP T i) 0 : Int)]) (rest := [.inl 1, .inl (saP T i : Int)]) (q := 96) dX8_spring_93 ml_X8_272 sm_X8_digitsBehind (by omega) rfl rfl (Nat.le_of_ble_eq_true rfl) rfl (c_digitsBehind (d := d + 7) (T.getD (saP T i) 0 : Int)) ?_
          intro r93 mem93 hq93
          obtain ⟨rfl, rfl⟩ := hq93
          show am_Rn l G _ _ 96 [some (.inr (.inr 1)), some (.inl (-1)), some (.inl ((i + 1 : Nat) : Int)), some (.inl (saP T i : Int)), some (.inl 0), some (.inl (i : Int))] [.inl (dgB (T.getD (saP T i) 0 : Int) : Int), .inl 1, .inl (saP T i : Int)] mem68 _
          refine rn_iaddN (z := (1 + (dgB (T.getD (saP T i) 0 : Int) : Int))) (q := 97) dX8_spring_96 rfl (by unfold am_ok; omega) rfl ?_
          refine rn_iaddN (z := (saP T (i + 1) : Int)) (q := 98) dX8_spring_97 (by omega) (by unfold am_ok; omega) rfl ?_
          refine rn_istore_n (ls' := [some (.inr (.inr 1)), some (.inl (-1)), some (.inl ((i + 1 : Nat) : Int)), some (.inl (saP T (i + 1) : Int)), some (.inl 0), some (.inl (i : Int))]) (q := 99) dX8_spring_98 (by decide) rfl rfl ?_
          refine rn_iincN (x := (i : Int)) (z := ((i + 1 : Nat) : Int)) (ls' := [some (.inr (.inr 1)), some (.inl (-1)), some (.inl ((i + 1 : Nat) : Int)), some (.inl (saP T (i + 1) : Int)), some (.inl 0), some (.inl ((i + 1 : Nat) : Int))]) (q := 102) dX8_spring_99 rfl (by decide) (by omega) (by unfold am_ok; omega) rfl rfl ?_
          refine rn_goto (t := 43) dX8_spring_102 rfl ?_
          first
          | exact ih (by omega) mem68 (fun j hj2 => by
              by_cases hji : j = i
              · rw [hji]; show 0 ≤ actV X h sn sg _ _ _ _; rw [← hv]; exact w71
              · exact hj j (by omega)) HQ4 hB4 hu4 hT4 hf4
          | (have e4 := actP_neg hp68 w71
             rw [e4] at he68
             exact S43 mem68 ⟨hi, hj, fun _ => by show actV X h sn sg _ _ _ _ < 0; rw [← hv]; exact w71⟩ he68 hB4 hu4 hT4 hf4)
        · refine rn_iconst (q := 75) dX8_spring_74 (am_okd rfl) rfl ?_
          refine rn_istore (ls' := [some (.inr (.inr 1)), some (.inl (-1)), some (.inl (i : Int)), some (.inl (saP T i : Int)), some (.inl 1), some (.inl (i : Int))]) (q := 77) dX8_spring_75 (by decide) rfl rfl ?_
          refine rn_goto (t := 83) dX8_spring_77 rfl ?_
          refine rn_iload_n (x := (saP T i : Int)) (q := 84) dX8_spring_83 rfl rfl ?_
          refine rn_iconst (q := 85) dX8_spring_84 (am_okd rfl) rfl ?_
          refine rn_aload_n (x := 0) (q := 86) dX8_spring_85 rfl rfl ?_
          refine rn_get (a := 0) (v := .inr (.inr 2)) (q := 89) dX8_spring_86 fl_X8_10 rfl rfl rfl ?_
          refine rn_iload_n (x := (saP T i : Int)) (q := 90) dX8_spring_89 rfl rfl ?_
          refine rn_callV (b := 1) (as := [.inl (saP T i : Int)]) (rest := [.inl 1, .inl (saP T i : Int)]) (q := 93) dX8_spring_90 ml_X8_142 sm_X7_at rfl rfl (by decide) (by omega) rfl rfl (Nat.le_of_ble_eq_true rfl) rfl (s_Tat (d := d + 7) hT4 (saP T i : Int)) ?_
          intro r90 mem90 hq90
          obtain ⟨rfl, rfl⟩ := hq90
          show am_Rn l G _ _ 93 [some (.inr (.inr 1)), some (.inl (-1)), some (.inl (i : Int)), some (.inl (saP T i : Int)), some (.inl 1), some (.inl (i : Int))] [.inl (txAt T (saP T i : Int)), .inl 1, .inl (saP T i : Int)] mem68 _
          rw [e1]
          refine rn_callS (as := [.inl (T.getD (saP T i) 0 : Int)]) (rest := [.inl 1, .inl (saP T i : Int)]) (q := 96) dX8_spring_93 ml_X8_272 sm_X8_digitsBehind (by omega) rfl rfl (Nat.le_of_ble_eq_true rfl) rfl (c_digitsBehind (d := d + 7) (T.getD (saP T i) 0 : Int)) ?_
          intro r93 mem93 hq93
          obtain ⟨rfl, rfl⟩ := hq93
          show am_Rn l G _ _ 96 [some (.inr (.inr 1)), some (.inl (-1)), some (.inl (i : Int)), some (.inl (saP T i : Int)), some (.inl 1), some (.inl (i : Int))] [.inl (dgB (T.getD (saP T i) 0 : Int) : Int), .inl 1, .inl (saP T i : Int)] mem68 _
          refine rn_iaddN (z := (1 + (dgB (T.getD (saP T i) 0 : Int) : Int))) (q := 97) dX8_spring_96 rfl (by unfold am_ok; omega) rfl ?_
          refine rn_iaddN (z := (saP T (i + 1) : Int)) (q := 98) dX8_spring_97 (by omega) (by unfold am_ok; omega) rfl ?_
          refine rn_istore_n (ls' := [some (.inr (.inr 1)), some (.inl (-1)), some (.inl (i : Int)), some (.inl (saP T (i + 1) : Int)), some (.inl 1), some (.inl (i : Int))]) (q := 99) dX8_spring_98 (by decide) rfl rfl ?_
          refine rn_iincN (x := (i : Int)) (z := ((i + 1 : Nat) : Int)) (ls' := [some (.inr (.inr 1)), some (.inl (-1)), some (.inl (i : Int)), some (.inl (saP T (i + 1) : Int)), some (.inl 1), some (.inl ((i + 1 : Nat) : Int))]) (q := 102) dX8_spring_99 rfl (by decide) (by omega) (by unfold am_ok; omega) rfl rfl ?_
          refine rn_goto (t := 43) dX8_spring_102 rfl ?_
          first
          | exact ih (by omega) mem68 (fun j hj2 => by
              by_cases hji : j = i
              · rw [hji]; show 0 ≤ actV X h sn sg _ _ _ _; rw [← hv]; exact w71
              · exact hj j (by omega)) HQ4 hB4 hu4 hT4 hf4
          | (have e4 := actP_neg hp68 w71
             rw [e4] at he68
             exact S43 mem68 ⟨hi, hj, fun _ => by show actV X h sn sg _ _ _ _ < 0; rw [← hv]; exact w71⟩ he68 hB4 hu4 hT4 hf4)
    refine rn_aload_n (x := 0) (q := 1) dX8_spring_0 rfl rfl ?_
    refine rn_callV (b := 0) (as := []) (rest := []) (q := 4) dX8_spring_1 ml_X8_266 sm_X8_faultInSpring rfl rfl (by decide) (by omega) rfl rfl (Nat.le_of_ble_eq_true rfl) rfl (c_faultInSpring (d := d + 5) hT) ?_
    intro r1 mem1 hq1
    obtain ⟨rfl, rfl⟩ := hq1
    show am_Rn l G _ _ 4 [some (.inr (.inr 1)), none, none, none, none, none] [.inl (spF T 61 0)] mem _
    rw [hsp]
    refine rn_istore_n (ls' := [some (.inr (.inr 1)), some (.inl (-1)), none, none, none, none]) (q := 5) dX8_spring_4 (by decide) rfl rfl ?_
    refine rn_iload_n (x := (-1)) (q := 6) dX8_spring_5 rfl rfl ?_
    refine rn_iconst (q := 7) dX8_spring_6 (am_okd rfl) rfl ?_
    refine rn_cmpeq (t := 22) (q := 10) dX8_spring_7 rfl rfl (fun w7 => ?_) (fun h => absurd h (by decide))
    refine rn_aload_n (x := 0) (q := 23) dX8_spring_22 rfl rfl ?_
    refine rn_get (a := 0) (v := .inr (.inr 20)) (q := 26) dX8_spring_23 fl_X8_37 rfl rfl rfl ?_
    refine rn_aload_n (x := 0) (q := 27) dX8_spring_26 rfl rfl ?_
    refine rn_get (a := 0) (v := .inr (.inr 17)) (q := 30) dX8_spring_27 fl_X8_33 rfl rfl rfl ?_
    refine rn_callV (b := 19) (as := [.inr (.inr 17)]) (rest := []) (q := 33) dX8_spring_30 ml_X8_212 sm_X0_copy rfl rfl (by decide) (by omega) rfl rfl (Nat.le_of_ble_eq_true rfl) rfl (c_copyB (d := d + 7) q) ?_
    intro r30 mem30 hq30
    obtain ⟨rfl, he30, hg30⟩ := hq30
    show am_Rn l G _ _ 33 [some (.inr (.inr 1)), some (.inl (-1)), none, none, none, none] [] mem30 _
    refine rn_iconst (q := 34) dX8_spring_33 (am_okd rfl) rfl ?_
    refine rn_istore_n (ls' := [some (.inr (.inr 1)), some (.inl (-1)), some (.inl 0), none, none, none]) (q := 35) dX8_spring_34 (by decide) rfl rfl ?_
    refine rn_iconst (q := 36) dX8_spring_35 (am_okd rfl) rfl ?_
    refine rn_istore_n (ls' := [some (.inr (.inr 1)), some (.inl (-1)), some (.inl 0), some (.inl 0), none, none]) (q := 37) dX8_spring_36 (by decide) rfl rfl ?_
    refine rn_iconst (q := 38) dX8_spring_37 (am_okd rfl) rfl ?_
    refine rn_istore (ls' := [some (.inr (.inr 1)), some (.inl (-1)), some (.inl 0), some (.inl 0), some (.inl 0), none]) (q := 40) dX8_spring_38 (by decide) rfl rfl ?_
    refine rn_iconst (q := 41) dX8_spring_40 (am_okd rfl) rfl ?_
    refine rn_istore (ls' := [some (.inr (.inr 1)), some (.inl (-1)), some (.inl 0), some (.inl 0), some (.inl 0), some (.inl 0)]) (q := 43) dX8_spring_41 (by decide) rfl rfl ?_
    exact L 0 (Nat.zero_le _) _ (fun j hj2 => absurd hj2 (Nat.not_lt_zero j)) (q.kept (fr_b19 hg30).r8) he30 (hU.keptU (fun x a1 a2 => hg30 x (by omega) (by omega) (by omega))) (hT.keptT (hg30 1 (by decide) (by decide) (by decide)) (hg30 2 (by decide) (by decide) (by decide))) (fr_b19 hg30).r8.a8
  · refine rn_aload_n (x := 0) (q := 1) dX8_spring_0 rfl rfl ?_
    refine rn_callV (b := 0) (as := []) (rest := []) (q := 4) dX8_spring_1 ml_X8_266 sm_X8_faultInSpring rfl rfl (by decide) (by omega) rfl rfl (Nat.le_of_ble_eq_true rfl) rfl (c_faultInSpring (d := d + 5) hT) ?_
    intro r1 mem1 hq1
    obtain ⟨rfl, rfl⟩ := hq1
    show am_Rn l G _ _ 4 [some (.inr (.inr 1)), none, none, none, none, none] [.inl (spF T 61 0)] mem _
    refine rn_istore_n (ls' := [some (.inr (.inr 1)), some (.inl (spF T 61 0)), none, none, none, none]) (q := 5) dX8_spring_4 (by decide) rfl rfl ?_
    refine rn_iload_n (x := (spF T 61 0)) (q := 6) dX8_spring_5 rfl rfl ?_
    refine rn_iconst (q := 7) dX8_spring_6 (am_okd rfl) rfl ?_
    refine rn_cmpeq (t := 22) (q := 10) dX8_spring_7 rfl rfl (fun h => absurd h (by omega)) (fun w7 => ?_)
    refine rn_aload_n (x := 0) (q := 11) dX8_spring_10 rfl rfl ?_
    refine rn_get (a := 0) (v := .inr (.inr 2)) (q := 14) dX8_spring_11 fl_X8_10 rfl rfl rfl ?_
    refine rn_iconst (q := 15) dX8_spring_14 (am_okd rfl) rfl ?_
    refine rn_puti (a := 1) (q := 18) dX8_spring_15 fl_X8_107 rfl rfl rfl rfl ?_
    refine rn_iconst (q := 19) dX8_spring_18 (am_okd rfl) rfl ?_
    refine rn_iload_n (x := (spF T 61 0)) (q := 20) dX8_spring_19 rfl rfl ?_
    refine rn_isubN (z := ((-1) - (spF T 61 0))) (q := 21) dX8_spring_20 rfl (by unfold am_ok; omega) rfl ?_
    refine rn_iret dX8_spring_21 rfl ?_
    exact hQ _ _ ⟨fun _ => ⟨rfl, rfl⟩, fun z => absurd z hsp⟩
end P98
