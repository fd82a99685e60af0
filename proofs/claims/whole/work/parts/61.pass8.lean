/-! a night of the class -/
def fr_ps (r a : Nat) (mem m : am_M) : Prop := (∀ b, b ≠ 5 → b ≠ 10 → b ≠ r + 3 → b ≠ r + 4 → b ≠ a → b ≠ a + 1 → m b = mem b) ∧ ∀ k, k < 8 → m 5 k = mem 5 k
section P61
variable {l : Launch} {G : am_G} {d : Nat} {r : Nat} {X : List Nat} {C : List Int} {sn : Nat} {sg : Nat → Nat} {h : hrs} {e : est} {NB : Nat} {mem m : am_M}
theorem s_pass37 {a : Nat} (ha : am_est a) {nt eb em ek : Nat} {eg pd pl : Int} (hnt : nt < 1000000) (hb : eb ≤ 9999) (hm : em ≤ 9999) (hk : ek ≤ 9999) (hg : -5 ≤ eg ∧ eg ≤ 5) (hpd : 0 ≤ pd ∧ pd ≤ 1000) (hpl : 0 ≤ pl ∧ pl ≤ 9) (x4 : m a 4 = (eb : Int)) (x5 : m a 5 = (em : Int)) (x6 : m a 6 = (ek : Int)) (x7 : m a 7 = eg) (x3 : m a 3 = (nt : Int)) (h8 : m 5 8 = pd) (h9 : m 5 9 = pl) {l3 : Int} {Q : Option am_V → am_M → Prop} (hQ : ∀ m1 : am_M, (∀ b, b ≠ a → m1 b = m b) → m1 a 2 = m a 2 → m1 a 3 = ((nt + 1 : Nat) : Int) → m1 a 4 = min 9999 ((eb : Int) + pl) → m1 a 5 = min 9999 ((em : Int) + pd) → m1 a 6 = (if nt % 7 = 6 then max 0 (min 9999 ((ek : Int) + ((ek : Int) * eg).tdiv 10)) else (ek : Int)) → m1 a 7 = eg → Q none m1) : am_Rn l G mt_X6_pass (d + 3) 37 [some (.inr (.inr 6)), some (.inr (.inr (a + 1))), some (.inr (.inr (r + 1))), some (.inl l3)] [] m Q := by
  have oa := am_est_r ha
  by_cases h6 : nt % 7 = 6
  · rw [if_pos h6] at hQ
    refine rn_aload_n (x := a) (q := 38) dX6_pass_37 rfl rfl ?_
    refine rn_aload_n (x := 5) (q := 39) dX6_pass_38 rfl rfl ?_
    refine rn_get (a := 5) (v := .inl pd) (q := 42) dX6_pass_39 fl_X6_81 rfl (am_gi h8) rfl ?_
    refine rn_callV (b := a) (as := [.inl pd]) (rest := []) (q := 45) dX6_pass_42 ml_X6_105 sm_X0_earn rfl (am_est_k ha) (by decide) (by omega) rfl rfl (Nat.le_of_ble_eq_true rfl) rfl (s_earn (d := d + 2) ha (em : Int) pd x5 (by omega) (by omega)) ?_
    intro r42 mem42 hq42
    obtain ⟨rfl, rfl⟩ := hq42
    show am_Rn l G _ _ 45 [some (.inr (.inr 6)), some (.inr (.inr (a + 1))), some (.inr (.inr (r + 1))), some (.inl l3)] [] (am_up m a 5 (min 9999 ((em : Int) + pd))) _
    refine rn_aload_n (x := a) (q := 46) dX6_pass_45 rfl rfl ?_
    refine rn_sipush (q := 49) dX6_pass_46 ⟨by decide, by decide⟩ rfl ?_
    refine rn_aload_n (x := a) (q := 50) dX6_pass_49 rfl rfl ?_
    refine rn_get (a := a) (v := .inl (eb : Int)) (q := 53) dX6_pass_50 fl_X6_109 (am_est_k ha) (am_gi (show (am_up m a 5 (min 9999 ((em : Int) + pd))) a 4 = (eb : Int) by (repeat (first | rw [am_up_ne (by omega)] | rw [am_up_neq (by omega)])); exact x4)) rfl ?_
    refine rn_aload_n (x := 5) (q := 54) dX6_pass_53 rfl rfl ?_
    refine rn_get (a := 5) (v := .inl pl) (q := 57) dX6_pass_54 fl_X6_78 rfl (am_gi (show (am_up m a 5 (min 9999 ((em : Int) + pd))) 5 9 = pl by (repeat (first | rw [am_up_ne (by omega)] | rw [am_up_neq (by omega)])); exact h9)) rfl ?_
    refine rn_iaddN (z := ((eb : Int) + pl)) (q := 58) dX6_pass_57 rfl (by unfold am_ok; omega) rfl ?_
    refine rn_mmin (q := 61) dX6_pass_58 am_mm_X6_44 am_mminw (Nat.le_of_ble_eq_true rfl) rfl ?_
    refine rn_puti (a := a) (q := 64) dX6_pass_61 fl_X6_109 (am_est_k ha) rfl rfl rfl ?_
    refine rn_aload_n (x := a) (q := 65) dX6_pass_64 rfl rfl ?_
    refine rn_get (a := a) (v := .inl (nt : Int)) (q := 68) dX6_pass_65 fl_X6_73 (am_est_k ha) (am_gi (show (am_up (am_up m a 5 (min 9999 ((em : Int) + pd))) a 4 (min 9999 ((eb : Int) + pl))) a 3 = (nt : Int) by (repeat (first | rw [am_up_ne (by omega)] | rw [am_up_neq (by omega)])); exact x3)) rfl ?_
    refine rn_bipush (q := 70) dX6_pass_68 ⟨by decide, by decide⟩ rfl ?_
    refine rn_iremN (z := ((nt % 7 : Nat) : Int)) (q := 71) dX6_pass_70 (by decide) rfl (by unfold am_ok; omega) rfl ?_
    refine rn_bipush (q := 73) dX6_pass_71 ⟨by decide, by decide⟩ rfl ?_
    refine rn_cmpne (t := 91) (q := 76) dX6_pass_73 rfl rfl (fun h => absurd h (by omega)) (fun w73 => ?_)
    refine rn_aload_n (x := a) (q := 77) dX6_pass_76 rfl rfl ?_
    refine rn_aload_n (x := a) (q := 78) dX6_pass_77 rfl rfl ?_
    refine rn_get (a := a) (v := .inl (ek : Int)) (q := 81) dX6_pass_78 fl_X6_112 (am_est_k ha) (am_gi (show (am_up (am_up m a 5 (min 9999 ((em : Int) + pd))) a 4 (min 9999 ((eb : Int) + pl))) a 6 = (ek : Int) by (repeat (first | rw [am_up_ne (by omega)] | rw [am_up_neq (by omega)])); exact x6)) rfl ?_
    refine rn_aload_n (x := a) (q := 82) dX6_pass_81 rfl rfl ?_
    refine rn_get (a := a) (v := .inl eg) (q := 85) dX6_pass_82 fl_X6_115 (am_est_k ha) (am_gi (show (am_up (am_up m a 5 (min 9999 ((em : Int) + pd))) a 4 (min 9999 ((eb : Int) + pl))) a 7 = eg by (repeat (first | rw [am_up_ne (by omega)] | rw [am_up_neq (by omega)])); exact x7)) rfl ?_
    refine rn_callSN (as := [.inl (ek : Int), .inl eg]) (rest := [.inr (.inr (a + 1))]) (q := 88) dX6_pass_85 (ml_X6_118 G) sm_X8_grown (by omega) rfl rfl (Nat.le_of_ble_eq_true rfl) rfl (s_grown (d := d + 1) (ek : Int) eg (by omega) hg) ?_
    intro r85 mem85 hq85
    obtain ⟨rfl, rfl⟩ := hq85
    show am_Rn l G _ _ 88 [some (.inr (.inr 6)), some (.inr (.inr (a + 1))), some (.inr (.inr (r + 1))), some (.inl l3)] [.inl (max 0 (min 9999 ((ek : Int) + ((ek : Int) * eg).tdiv 10))), .inr (.inr (a + 1))] (am_up (am_up m a 5 (min 9999 ((em : Int) + pd))) a 4 (min 9999 ((eb : Int) + pl))) _
    refine rn_puti (a := a) (q := 91) dX6_pass_88 fl_X6_112 (am_est_k ha) rfl rfl rfl ?_
    refine rn_aload_n (x := a) (q := 92) dX6_pass_91 rfl rfl ?_
    refine rn_dup (q := 93) dX6_pass_92 rfl rfl ?_
    refine rn_get (a := a) (v := .inl (nt : Int)) (q := 96) dX6_pass_93 fl_X6_73 (am_est_k ha) (am_gi (show (am_up (am_up (am_up m a 5 (min 9999 ((em : Int) + pd))) a 4 (min 9999 ((eb : Int) + pl))) a 6 (max 0 (min 9999 ((ek : Int) + ((ek : Int) * eg).tdiv 10)))) a 3 = (nt : Int) by (repeat (first | rw [am_up_ne (by omega)] | rw [am_up_neq (by omega)])); exact x3)) rfl ?_
    refine rn_iconst (q := 97) dX6_pass_96 (am_okd rfl) rfl ?_
    refine rn_iaddN (z := ((nt + 1 : Nat) : Int)) (q := 98) dX6_pass_97 (by omega) (by unfold am_ok; omega) rfl ?_
    refine rn_puti (a := a) (q := 101) dX6_pass_98 fl_X6_73 (am_est_k ha) rfl rfl rfl ?_
    refine rn_vret dX6_pass_101 rfl ?_
    refine hQ _ (fun b b1 => ?_) ?_ am_up_self ?_ ?_ ?_ ?_
    · rw [am_up_ne b1, am_up_ne b1, am_up_ne b1, am_up_ne b1]
    · rw [am_up_neq (by decide), am_up_neq (by decide), am_up_neq (by decide), am_up_neq (by decide)]
    · rw [am_up_neq (by decide), am_up_neq (by decide), am_up_self]
    · rw [am_up_neq (by decide), am_up_neq (by decide), am_up_neq (by decide), am_up_self]
    · rw [am_up_neq (by decide), am_up_self]
    · rw [am_up_neq (by decide), am_up_neq (by decide), am_up_neq (by decide), am_up_neq (by decide)]; exact x7
  · rw [if_neg h6] at hQ
    refine rn_aload_n (x := a) (q := 38) dX6_pass_37 rfl rfl ?_
    refine rn_aload_n (x := 5) (q := 39) dX6_pass_38 rfl rfl ?_
    refine rn_get (a := 5) (v := .inl pd) (q := 42) dX6_pass_39 fl_X6_81 rfl (am_gi h8) rfl ?_
    refine rn_callV (b := a) (as := [.inl pd]) (rest := []) (q := 45) dX6_pass_42 ml_X6_105 sm_X0_earn rfl (am_est_k ha) (by decide) (by omega) rfl rfl (Nat.le_of_ble_eq_true rfl) rfl (s_earn (d := d + 2) ha (em : Int) pd x5 (by omega) (by omega)) ?_
    intro r42 mem42 hq42
    obtain ⟨rfl, rfl⟩ := hq42
    show am_Rn l G _ _ 45 [some (.inr (.inr 6)), some (.inr (.inr (a + 1))), some (.inr (.inr (r + 1))), some (.inl l3)] [] (am_up m a 5 (min 9999 ((em : Int) + pd))) _
    refine rn_aload_n (x := a) (q := 46) dX6_pass_45 rfl rfl ?_
    refine rn_sipush (q := 49) dX6_pass_46 ⟨by decide, by decide⟩ rfl ?_
    refine rn_aload_n (x := a) (q := 50) dX6_pass_49 rfl rfl ?_
    refine rn_get (a := a) (v := .inl (eb : Int)) (q := 53) dX6_pass_50 fl_X6_109 (am_est_k ha) (am_gi (show (am_up m a 5 (min 9999 ((em : Int) + pd))) a 4 = (eb : Int) by (repeat (first | rw [am_up_ne (by omega)] | rw [am_up_neq (by omega)])); exact x4)) rfl ?_
    refine rn_aload_n (x := 5) (q := 54) dX6_pass_53 rfl rfl ?_
    refine rn_get (a := 5) (v := .inl pl) (q := 57) dX6_pass_54 fl_X6_78 rfl (am_gi (show (am_up m a 5 (min 9999 ((em : Int) + pd))) 5 9 = pl by (repeat (first | rw [am_up_ne (by omega)] | rw [am_up_neq (by omega)])); exact h9)) rfl ?_
    refine rn_iaddN (z := ((eb : Int) + pl)) (q := 58) dX6_pass_57 rfl (by unfold am_ok; omega) rfl ?_
    refine rn_mmin (q := 61) dX6_pass_58 am_mm_X6_44 am_mminw (Nat.le_of_ble_eq_true rfl) rfl ?_
    refine rn_puti (a := a) (q := 64) dX6_pass_61 fl_X6_109 (am_est_k ha) rfl rfl rfl ?_
    refine rn_aload_n (x := a) (q := 65) dX6_pass_64 rfl rfl ?_
    refine rn_get (a := a) (v := .inl (nt : Int)) (q := 68) dX6_pass_65 fl_X6_73 (am_est_k ha) (am_gi (show (am_up (am_up m a 5 (min 9999 ((em : Int) + pd))) a 4 (min 9999 ((eb : Int) + pl))) a 3 = (nt : Int) by (repeat (first | rw [am_up_ne (by omega)] | rw [am_up_neq (by omega)])); exact x3)) rfl ?_
    refine rn_bipush (q := 70) dX6_pass_68 ⟨by decide, by decide⟩ rfl ?_
    refine rn_iremN (z := ((nt % 7 : Nat) : Int)) (q := 71) dX6_pass_70 (by decide) rfl (by unfold am_ok; omega) rfl ?_
    refine rn_bipush (q := 73) dX6_pass_71 ⟨by decide, by decide⟩ rfl ?_
    refine rn_cmpne (t := 91) (q := 76) dX6_pass_73 rfl rfl (fun w73 => ?_) (fun h => absurd h (by omega))
    refine rn_aload_n (x := a) (q := 92) dX6_pass_91 rfl rfl ?_
    refine rn_dup (q := 93) dX6_pass_92 rfl rfl ?_
    refine rn_get (a := a) (v := .inl (nt : Int)) (q := 96) dX6_pass_93 fl_X6_73 (am_est_k ha) (am_gi (show (am_up (am_up m a 5 (min 9999 ((em : Int) + pd))) a 4 (min 9999 ((eb : Int) + pl))) a 3 = (nt : Int) by (repeat (first | rw [am_up_ne (by omega)] | rw [am_up_neq (by omega)])); exact x3)) rfl ?_
    refine rn_iconst (q := 97) dX6_pass_96 (am_okd rfl) rfl ?_
    refine rn_iaddN (z := ((nt + 1 : Nat) : Int)) (q := 98) dX6_pass_97 (by omega) (by unfold am_ok; omega) rfl ?_
    refine rn_puti (a := a) (q := 101) dX6_pass_98 fl_X6_73 (am_est_k ha) rfl rfl rfl ?_
    refine rn_vret dX6_pass_101 rfl ?_
    refine hQ _ (fun b b1 => ?_) ?_ am_up_self ?_ ?_ ?_ ?_
    · rw [am_up_ne b1, am_up_ne b1, am_up_ne b1]
    · rw [am_up_neq (by decide), am_up_neq (by decide), am_up_neq (by decide)]
    · rw [am_up_neq (by decide), am_up_self]
    · rw [am_up_neq (by decide), am_up_neq (by decide), am_up_self]
    · rw [am_up_neq (by decide), am_up_neq (by decide), am_up_neq (by decide)]; exact x6
    · rw [am_up_neq (by decide), am_up_neq (by decide), am_up_neq (by decide)]; exact x7
theorem s_pass12 {a : Nat} (ha : am_est a) {m0 : am_M} {n : Nat} (hn8 : n ≤ 8) (hsz : m0 5 6 = (n : Int)) {hd : Nat → Nat} (hhd : ∀ i, hd i ≤ 99) {p : Nat → Int} (hp9 : ∀ i, 0 ≤ p i ∧ p i ≤ 9) (hp : ∀ i, i < n → m0 10 i = p i) {Q : Option am_V → am_M → Prop} (hQ : ∀ (m : am_M), (∀ b, b ≠ a + 1 → m b = m0 b) → (∀ j, j < 8 → m (a + 1) j = if j < n then min 99 ((hd j : Int) + p j) else (hd j : Int)) → am_Rn l G mt_X6_pass (d + 3) 37 [some (.inr (.inr 6)), some (.inr (.inr (a + 1))), some (.inr (.inr (r + 1))), some (.inl (n : Int))] [] m Q) : ∀ i : Nat, i ≤ n → ∀ m : am_M, (∀ b, b ≠ a + 1 → m b = m0 b) → (∀ j, j < 8 → m (a + 1) j = if j < i then min 99 ((hd j : Int) + p j) else (hd j : Int)) → am_Rn l G mt_X6_pass (d + 3) 12 [some (.inr (.inr 6)), some (.inr (.inr (a + 1))), some (.inr (.inr (r + 1))), some (.inl (i : Int))] [] m Q := by
  have oa := am_est_r ha
  refine am_dn n (fun i hi ih m hf hh => ?_)
  have e1 : m 5 6 = (n : Int) := by rw [hf 5 (by omega)]; exact hsz
  have h9 := hhd i
  have h10 := hp9 i
  by_cases hin : i < n
  · have e2 : m (a + 1) i = (hd i : Int) := by rw [hh i (by omega), if_neg (by omega)]
    have e3 : m 10 i = p i := by rw [hf 10 (by omega)]; exact hp i hin
    refine rn_iload_n (x := (i : Int)) (q := 13) dX6_pass_12 rfl rfl ?_
    refine rn_aload_n (x := 5) (q := 14) dX6_pass_13 rfl rfl ?_
    refine rn_get (a := 5) (v := .inl (n : Int)) (q := 17) dX6_pass_14 fl_X6_38 rfl (am_gi e1) rfl ?_
    refine rn_cmpge (t := 37) (q := 20) dX6_pass_17 rfl rfl (fun h => absurd h (by omega)) (fun w17 => ?_)
    refine rn_aload_n (x := a) (q := 21) dX6_pass_20 rfl rfl ?_
    refine rn_iload_n (x := (i : Int)) (q := 22) dX6_pass_21 rfl rfl ?_
    refine rn_aload_n (x := 5) (q := 23) dX6_pass_22 rfl rfl ?_
    refine rn_get (a := 5) (v := .inr (.inr 11)) (q := 26) dX6_pass_23 fl_X6_24 rfl rfl rfl ?_
    refine rn_iload_n (x := (i : Int)) (q := 27) dX6_pass_26 rfl rfl ?_
    refine rn_ialdV (a := 10) (v := p i) (q := 28) dX6_pass_27 rfl (by omega) (by omega) e3 rfl ?_
    refine rn_callV (b := a) (as := [.inl (i : Int), .inl (p i)]) (rest := []) (q := 31) dX6_pass_28 ml_X6_101 sm_X0_hear rfl (am_est_k ha) (by decide) (by omega) rfl rfl (Nat.le_of_ble_eq_true rfl) rfl (s_hear (d := d + 2) ha i (by omega) (hd i : Int) (p i) e2 (by omega) (by omega)) ?_
    intro r28 mem28 hq28
    obtain ⟨rfl, rfl⟩ := hq28
    show am_Rn l G _ _ 31 [some (.inr (.inr 6)), some (.inr (.inr (a + 1))), some (.inr (.inr (r + 1))), some (.inl (i : Int))] [] (am_up m (a + 1) i (min 99 ((hd i : Int) + p i))) _
    refine rn_iincN (x := (i : Int)) (z := ((i + 1 : Nat) : Int)) (ls' := [some (.inr (.inr 6)), some (.inr (.inr (a + 1))), some (.inr (.inr (r + 1))), some (.inl ((i + 1 : Nat) : Int))]) (q := 34) dX6_pass_31 rfl (by decide) (by omega) (by unfold am_ok; omega) rfl rfl ?_
    refine rn_goto (t := 12) dX6_pass_34 rfl ?_
    refine ih hin _ (fun b hb => (am_up_ne hb).trans (hf b hb)) (fun j hj => ?_)
    rw [am_up_at]
    by_cases ej : j = i
    · rw [if_pos ej, if_pos (by omega), ej]
    · rw [if_neg ej, hh j hj]
      by_cases hji : j < i
      · rw [if_pos hji, if_pos (by omega)]
      · rw [if_neg hji, if_neg (by omega)]
  · obtain rfl : i = n := by omega
    refine rn_iload_n (x := (i : Int)) (q := 13) dX6_pass_12 rfl rfl ?_
    refine rn_aload_n (x := 5) (q := 14) dX6_pass_13 rfl rfl ?_
    refine rn_get (a := 5) (v := .inl (i : Int)) (q := 17) dX6_pass_14 fl_X6_38 rfl (am_gi e1) rfl ?_
    refine rn_cmpge (t := 37) (q := 20) dX6_pass_17 rfl rfl (fun w17 => ?_) (fun h => absurd h (by omega))
    exact hQ m hf hh
theorem s_pass8 (hr : am_rul r) {a : Nat} (ha : am_est a) (hro : ruleOK X C) (hC : c_code r C mem) (hs : c_song sn sg mem) (hh : c_hrs h mem) (hNB : NB < 1000000) (heo : e_ok h.1 NB e) (hem : c_est e a mem) : am_Sm l G yX6_pass mt_X6_pass (d + 5) [.inr (.inr 6), .inr (.inr (a + 1)), .inr (.inr (r + 1))] mem (fun q m => q = none ∧ c_est (nextE X h sn sg e) a m ∧ m 5 10 = (pH (mvE X h sn sg e) (eP e) (wE sn sg e) h.1 : Int) ∧ fr_ps r a mem m) := by
  refine am_enterQ (ls := [some (.inr (.inr 6)), some (.inr (.inr (a + 1))), some (.inr (.inr (r + 1))), none]) (by decide) rfl (Nat.le_of_ble_eq_true rfl) rfl (fun hok Q hQ => ?_)
  have oa := am_est_r ha
  have o := am_rul_or hr
  have hw := wE_ok (sn := sn) (e := e) hs.2.2.2.1
  have hmn := mvE_nn (X := X) (h := h) (sn := sn) (sg := sg) (e := e)
  have h8 : h.1 ≤ 8 := hh.1.1
  have hpk := pP_ok (mk := eP e) hmn hw
  have hlk := pL_ok (mk := eP e) hmn hw h.1
  have hdk := pD_ok (mk := eP e) hmn hw hh.1.2.2.2 h.1
  obtain ⟨y1, y2, y3, y4, y5, y6, y7, y8⟩ := hem
  obtain ⟨o1, o2, o3, o4, o5, o6, o7, o8⟩ := heo
  have hp8 := p2_8 h8
  refine rn_aload_n (x := 5) (q := 1) dX6_pass_0 rfl rfl ?_
  refine rn_aload_n (x := a) (q := 2) dX6_pass_1 rfl rfl ?_
  refine rn_aload_n (x := a) (q := 3) dX6_pass_2 rfl rfl ?_
  refine rn_get (a := a) (v := .inl (eP e : Int)) (q := 6) dX6_pass_3 fl_X6_94 (am_est_k ha) (am_gi y3) rfl ?_
  refine rn_aload_n (x := r) (q := 7) dX6_pass_6 rfl rfl ?_
  refine rn_callV (b := 5) (as := [.inr (.inr (a + 1)), .inl (eP e : Int), .inr (.inr (r + 1))]) (rest := []) (q := 10) dX6_pass_7 ml_X6_97 sm_X6_part rfl rfl (by decide) (by omega) rfl rfl (Nat.le_of_ble_eq_true rfl) rfl (s_part8 (d := d + 0) hr ha hro hC hs hh o1 y1 (show eN e < 1000000 by omega) y4 (show eP e < 256 by omega) (mv := mvE X h sn sg e) (fun _ => rfl)) ?_
  intro r7 mem7 hq7
  obtain ⟨rfl, hf, hp, h58, h59, h510⟩ := hq7
  show am_Rn l G _ _ 10 [some (.inr (.inr 6)), some (.inr (.inr (a + 1))), some (.inr (.inr (r + 1))), none] [] mem7 _
  refine rn_iconst (q := 11) dX6_pass_10 (am_okd rfl) rfl ?_
  refine rn_istore_n (ls' := [some (.inr (.inr 6)), some (.inr (.inr (a + 1))), some (.inr (.inr (r + 1))), some (.inl 0)]) (q := 12) dX6_pass_11 (by decide) rfl rfl ?_
  have fA : mem7 a = mem a := hf.1 a (by omega) (by omega) (by omega) (by omega)
  have fB : mem7 (a + 1) = mem (a + 1) := hf.1 (a + 1) (by omega) (by omega) (by omega) (by omega)
  have fC : mem7 (a + 2) = mem (a + 2) := hf.1 (a + 2) (by omega) (by omega) (by omega) (by omega)
  refine s_pass12 (d := d + 2) ha (m0 := mem7) h8 (by rw [hf.2 6 (by decide)]; exact hh.2.1) (hd := eH e) o1 (p := pP (mvE X h sn sg e) (eP e) (wE sn sg e)) hpk hp (fun m f1 f2 => ?_) 0 (Nat.zero_le _) mem7 (fun _ _ => rfl) (fun j hj => by rw [if_neg (by omega), fB]; exact y1 j hj)
  have f5 : m 5 = mem7 5 := f1 5 (by omega)
  have fa : m a = mem a := (f1 a (by omega)).trans fA
  refine s_pass37 (d := d + 2) ha (nt := eN e) (eb := eB e) (em := eM e) (ek := eK e) (eg := eG e) (pd := pD (mvE X h sn sg e) (eP e) (wE sn sg e) h.2.2.2 h.1) (pl := pL (mvE X h sn sg e) (eP e) (wE sn sg e) h.1) (by omega) o5 o6 o7 o8 (by omega) hlk (by rw [fa]; exact y5) (by rw [fa]; exact y6) (by rw [fa]; exact y7) (by rw [fa]; exact y8) (by rw [fa]; exact y4) (by rw [f5]; exact h58) (by rw [f5]; exact h59) (fun m1 g1 g2 g3 g4 g5 g6 g7 => hQ _ _ ⟨rfl, ⟨fun i hi => ?_, fun i hi => ?_, ?_, ?_, ?_, ?_, ?_, ?_⟩, ?_, fun b b1 b2 b3 b4 b5 b6 => ?_, fun k hk => ?_⟩)
  · rw [g1 (a + 1) (by omega), f2 i hi]
    have := hpk i
    show _ = (((if i < h.1 then (min 99 ((eH e i : Int) + pP (mvE X h sn sg e) (eP e) (wE sn sg e) i)).toNat else eH e i) : Nat) : Int)
    split <;> omega
  · rw [g1 (a + 2) (by omega), f1 (a + 2) (by omega), fC]; exact y2 i hi
  · rw [g2, fa]; exact y3
  · rw [g3]; rfl
  · rw [g4]
    show _ = (((min 9999 ((eB e : Int) + pL (mvE X h sn sg e) (eP e) (wE sn sg e) h.1)).toNat : Nat) : Int)
    omega
  · rw [g5]
    show _ = (((min 9999 ((eM e : Int) + pD (mvE X h sn sg e) (eP e) (wE sn sg e) h.2.2.2 h.1)).toNat : Nat) : Int)
    omega
  · rw [g6]
    show _ = (((if eN e % 7 = 6 then (max 0 (min 9999 ((eK e : Int) + ((eK e : Int) * eG e).tdiv 10))).toNat else eK e) : Nat) : Int)
    split
    · generalize ((eK e : Int) * eG e).tdiv 10 = z; omega
    · rfl
  · rw [g7]; rfl
  · rw [g1 5 (by omega), f5]; exact h510
  · rw [g1 b b5, f1 b b6]; exact hf.1 b b1 b2 b3 b4
  · rw [g1 5 (by omega), f5]; exact hf.2 k hk
end P61
