/-! law of the reference -/
section P9d
variable {l : Launch} {G : am_G} {d : Nat} {r : Nat} {X : List Nat} {C : List Int} {sn : Nat} {sg : Nat → Nat} {h : hrs} {e : est} {NB : Nat} {mem m : am_M}
variable {T : List Nat} {M : am_M}
theorem idD {d : Nat} {P : Prop} (h : P) : P := h
theorem law_fr {m0 m1 m2 m3 : am_M} {x18 x20 xs : Int} (f0 : frS s9 m0 m1) (f1 : ∀ b, b ≠ 105 → m2 b = am_up (am_up m1 95 18 x18) 95 20 xs b) (f2 : frS s9 m2 m3) (h18 : m0 95 18 = 105) (h20 : m0 95 20 = x20) : frS s9r m0 (am_up (am_up (am_up m3 95 18 105) 95 20 x20) 95 10 0) := by
  intro b k hb
  have hb9 : s9 b k = false := by unfold s9r at hb; simp at hb; exact hb.2
  have h105 : b ≠ 105 := fun e => by subst e; exact absurd hb9 (by simp [s9])
  by_cases h95 : b = 95
  · subst h95
    have h10 : k ≠ 10 := fun e => by subst e; exact absurd hb (by simp [s9r])
    rw [am_up_neq h10, am_up_at]
    by_cases e20 : k = 20
    · rw [if_pos e20, e20, h20]
    · rw [if_neg e20, am_up_at]
      by_cases e18 : k = 18
      · rw [if_pos e18, e18, h18]
      · rw [if_neg e18, f2 95 k hb9, f1 95 h105, am_up_neq e20, am_up_neq e18]; exact f0 95 k hb9
  · rw [am_up_ne h95, am_up_ne h95, am_up_ne h95, f2 b k hb9, f1 b h105, am_up_ne h95, am_up_ne h95]; exact f0 b k hb9
theorem m_law (q : DQ X sn sg h e NB mem) (hT : m_text T mem) (h19 : mem 95 19 = 106) : am_Sm l G yX9_law mt_X9_law (d + 181) [.inr (.inr 96)] mem (fun q m => (rlV T ≠ -1 ∧ q = some (.inl (-10000 - rlV T)) ∧ frS s9 (am_up mem 95 8 0) m) ∨ (rlV T = -1 ∧ q = some (.inl ((eB (itE T h sn sg e 20) : Int) - (eB (itE X h sn sg e 20) : Int))) ∧ m_row [(eB (itE T h sn sg e 20) : Int), (eB (itE X h sn sg e 20) : Int)] m ∧ frS s9r (am_up mem 95 8 0) m)) := by
  refine am_enterQ (ls := [some (.inr (.inr 96)), none, none, none, none, none]) (by decide) rfl (Nat.le_of_ble_eq_true rfl) rfl (fun hok Q hQ => ?_)
  have b := q.bd
  have hl := hT.len
  have hNB := q.2.2.2.2.2.2.2
  have hbd := rlV_bd hT.2.2.1
  have hT1 : m_text T (am_up mem 95 11 0) := ⟨hT.1, hT.2⟩
  obtain ⟨a, hR⟩ := m_readRuleV (l := l) (G := G) (d := d + 4) hT1
  have f0 := rdM_fr (T := T) q.2.2.1
  by_cases hv : rlV T = -1
  · rw [hv, if_pos rfl] at hR
    have k1 := (itE_ok (X := T) (sn := sn) (sg := sg) q.eo 20).2.2.2.2.1
    have k2 := (itE_ok (X := X) (sn := sn) (sg := sg) q.eo 20).2.2.2.2.1
    have f1 : frS s9 (am_up mem 95 8 0) (aw (rdM T (am_up mem 95 11 0)) a (-1)) := (f0.up (a := 95) (k := 15) (x := a) rfl).up rfl
    have q0 : DQ X sn sg h e NB (aw (rdM T (am_up mem 95 11 0)) a (-1)) := q.txt.kept f1.r9
    have LP : ∀ m27 : am_M, frS s9 (aw (rdM T (am_up mem 95 11 0)) a (-1)) m27 → ∀ i : Nat, i ≤ T.length → ∀ m : am_M, (∀ b, b ≠ 105 → m b = am_up (am_up m27 95 18 106) 95 20 (T.length : Int) b) → (∀ j, j < i → m 105 j = sb (T.getD j 0)) → am_Rn l G mt_X9_law (d + 181) 58 [some (.inr (.inr 96)), some (.inl (T.length : Int)), some (.inl (eB (itE X h sn sg e 20) : Int)), some (.inr (.inr 105)), some (.inl (X.length : Int)), some (.inl (i : Int))] [] m Q := by
      intro m27 f27
      refine am_dn T.length (fun i hi ih m hm hj => ?_)
      have g0 := f1.tr f27
      have q27 := q0.kept f27.r9
      have hR2 : i = T.length → m_rul 105 T m := fun z => ⟨Or.inr rfl, by rw [hm 95 (by decide)]; rfl, by rw [hm 95 (by decide)]; rfl, fun j hj2 => hj j (by omega)⟩
      have hs2 : m_song sn sg m := ⟨by rw [hm 95 (by decide)]; exact q27.sng.1, q27.sng.2.1, q27.sng.2.2.1, q27.sng.2.2.2.1, fun i hi => by rw [hm 100 (by decide)]; exact q27.sng.2.2.2.2 i hi⟩
      have hh2 : m_hrs h m := ⟨q27.hs.1, by rw [hm 95 (by decide)]; exact q27.n, fun i hi => by rw [hm 97 (by decide), hm 98 (by decide), hm 99 (by decide)]; exact q27.hs.2.2 i hi⟩
      have he2 : m_est e 96 0 m := q27.es.kept (by rw [hm 96 (by decide), am_up_ne (by decide), am_up_ne (by decide)])
      have ha2 : m 95 21 = 0 := by rw [hm 95 (by decide)]; exact q27.2.2.1
      refine rn_iload (x := (i : Int)) (q := 60) dX9_law_58 rfl rfl ?_
      refine rn_iload_n (x := (T.length : Int)) (q := 61) dX9_law_60 rfl rfl ?_
      refine rn_cmpge (t := 84) (q := 64) dX9_law_61 rfl rfl (fun w61 => ?_) (fun w61 => ?_)
      · refine rn_aload_n (x := 95) (q := 85) dX9_law_84 rfl rfl ?_
        refine rn_callV (b := 95) (as := []) (rest := []) (q := 88) dX9_law_85 ml_X9_387 sm_X9_bookIn20 rfl rfl (by decide) (by omega) rfl rfl (Nat.le_of_ble_eq_true rfl) rfl (m_bookIn20 (d := d + 0) (hbd.2.2 hv) hT.2.2.1 (hR2 (by omega)) hs2 hh2 hNB q.eo he2 ha2) ?_
        intro r85 mem85 hq85
        obtain ⟨rfl, hf85⟩ := hq85
        show am_Rn l G _ _ 88 [some (.inr (.inr 96)), some (.inl (T.length : Int)), some (.inl (eB (itE X h sn sg e 20) : Int)), some (.inr (.inr 105)), some (.inl (X.length : Int)), some (.inl (i : Int))] [.inl (eB (itE T h sn sg e 20) : Int)] mem85 _
        refine rn_istore (ls' := [some (.inr (.inr 96)), some (.inl (T.length : Int)), some (.inl (eB (itE X h sn sg e 20) : Int)), some (.inr (.inr 105)), some (.inl (X.length : Int)), some (.inl (eB (itE T h sn sg e 20) : Int))]) (q := 90) dX9_law_88 (by decide) rfl rfl ?_
        refine rn_aload_n (x := 95) (q := 91) dX9_law_90 rfl rfl ?_
        refine rn_aload_n (x := 104) (q := 92) dX9_law_91 rfl rfl ?_
        refine rn_puta (a := 95) (b := 105) (q := 95) dX9_law_92 fl_X9_40 rfl rfl rfl (by decide) rfl ?_
        refine rn_aload_n (x := 95) (q := 96) dX9_law_95 rfl rfl ?_
        refine rn_iload (x := (X.length : Int)) (q := 98) dX9_law_96 rfl rfl ?_
        refine rn_puti (a := 95) (q := 101) dX9_law_98 fl_X9_210 rfl rfl rfl rfl ?_
        refine rn_aload_n (x := 95) (q := 102) dX9_law_101 rfl rfl ?_
        refine rn_iconst (q := 103) dX9_law_102 (am_okd rfl) rfl ?_
        refine rn_puti (a := 95) (q := 106) dX9_law_103 fl_X9_110 rfl rfl rfl rfl ?_
        refine rn_aload_n (x := 95) (q := 107) dX9_law_106 rfl rfl ?_
        refine rn_iload (x := (eB (itE T h sn sg e 20) : Int)) (q := 109) dX9_law_107 rfl rfl ?_
        refine rn_i2l (q := 110) dX9_law_109 rfl ?_
        refine rn_callV (b := 95) (as := [.inr (.inl (eB (itE T h sn sg e 20) : Int))]) (rest := []) (q := 113) dX9_law_110 ml_X9_275 sm_X9_tell rfl rfl (by decide) (by omega) rfl rfl (Nat.le_of_ble_eq_true rfl) rfl (m_tell (d := d + 180) m_row0 (by decide) (eB (itE T h sn sg e 20) : Int)) ?_
        intro r110 mem110 hq110
        obtain ⟨rfl, hr110, hf110⟩ := hq110
        show am_Rn l G _ _ 113 [some (.inr (.inr 96)), some (.inl (T.length : Int)), some (.inl (eB (itE X h sn sg e 20) : Int)), some (.inr (.inr 105)), some (.inl (X.length : Int)), some (.inl (eB (itE T h sn sg e 20) : Int))] [] mem110 _
        refine rn_aload_n (x := 95) (q := 114) dX9_law_113 rfl rfl ?_
        refine rn_iload_n (x := (eB (itE X h sn sg e 20) : Int)) (q := 115) dX9_law_114 rfl rfl ?_
        refine rn_i2l (q := 116) dX9_law_115 rfl ?_
        refine rn_callV (b := 95) (as := [.inr (.inl (eB (itE X h sn sg e 20) : Int))]) (rest := []) (q := 119) dX9_law_116 ml_X9_275 sm_X9_tell rfl rfl (by decide) (by omega) rfl rfl (Nat.le_of_ble_eq_true rfl) rfl (m_tell (d := d + 180) hr110 (by simp) (eB (itE X h sn sg e 20) : Int)) ?_
        intro r116 mem116 hq116
        obtain ⟨rfl, hr116, hf116⟩ := hq116
        show am_Rn l G _ _ 119 [some (.inr (.inr 96)), some (.inl (T.length : Int)), some (.inl (eB (itE X h sn sg e 20) : Int)), some (.inr (.inr 105)), some (.inl (X.length : Int)), some (.inl (eB (itE T h sn sg e 20) : Int))] [] mem116 _
        refine rn_iload (x := (eB (itE T h sn sg e 20) : Int)) (q := 121) dX9_law_119 rfl rfl ?_
        refine rn_iload_n (x := (eB (itE X h sn sg e 20) : Int)) (q := 122) dX9_law_121 rfl rfl ?_
        refine rn_isubN (z := ((eB (itE T h sn sg e 20) : Int) - (eB (itE X h sn sg e 20) : Int))) (q := 123) dX9_law_122 rfl (by unfold am_ok; omega) rfl ?_
        refine rn_iret dX9_law_123 rfl ?_
        exact hQ _ _ (Or.inr ⟨hv, rfl, hr116, ((law_fr g0 hm hf85 q.rl.2.1 q.rl.2.2.1).tr hf110).tr hf116⟩)
      · refine rn_aload_n (x := 95) (q := 65) dX9_law_64 rfl rfl ?_
        refine rn_get (a := 95) (v := .inr (.inr 106)) (q := 68) dX9_law_65 fl_X9_40 rfl (show Sum.inr (Sum.inr (m 95 18).toNat) = _ by rw [hm 95 (by decide)]; rfl) rfl ?_
        refine rn_iload (x := (i : Int)) (q := 70) dX9_law_68 rfl rfl ?_
        refine rn_aload_n (x := 95) (q := 71) dX9_law_70 rfl rfl ?_
        refine rn_get (a := 95) (v := .inr (.inr 102)) (q := 74) dX9_law_71 fl_X9_29 rfl rfl rfl ?_
        refine rn_iload (x := (i : Int)) (q := 76) dX9_law_74 rfl rfl ?_
        refine rn_baldV (a := 101) (v := (sb (T.getD i 0))) (q := 77) dX9_law_76 rfl (by omega) (by omega) (show m 101 i = _ by rw [hm 101 (by decide), am_up_ne (by decide), am_up_ne (by decide), f27 101 i rfl, f1 101 i rfl, am_up_ne (by decide)]; exact hT.2.2.2 i (by omega)) rfl ?_
        refine rn_bastV (a := 105) (m1 := am_up m 105 i (am_i2b (sb (T.getD i 0)))) (q := 78) dX9_law_77 rfl (by omega) (by omega) rfl rfl ?_
        refine rn_iincN (x := (i : Int)) (z := ((i + 1 : Nat) : Int)) (ls' := [some (.inr (.inr 96)), some (.inl (T.length : Int)), some (.inl (eB (itE X h sn sg e 20) : Int)), some (.inr (.inr 105)), some (.inl (X.length : Int)), some (.inl ((i + 1 : Nat) : Int))]) (q := 81) dX9_law_78 rfl (by decide) (by omega) (by unfold am_ok; omega) rfl rfl ?_
        refine rn_goto (t := 58) dX9_law_81 rfl ?_
        refine ih (by omega) _ (fun b2 hb => by rw [am_up_ne hb]; exact hm b2 hb) (fun j hj2 => ?_)
        rw [am_up_at]
        by_cases hji : j = i
        · rw [if_pos hji, hji]; exact sb_i2b _ (hT.2.2.1 i)
        · rw [if_neg hji]; exact hj j (by omega)
    refine rn_aload_n (x := 95) (q := 1) dX9_law_0 rfl rfl ?_
    refine rn_iconst (q := 2) dX9_law_1 (am_okd rfl) rfl ?_
    refine rn_puti (a := 95) (q := 5) dX9_law_2 fl_X9_107 rfl rfl rfl rfl ?_
    refine rn_aload_n (x := 95) (q := 6) dX9_law_5 rfl rfl ?_
    refine rn_get (a := 95) (v := .inl (T.length : Int)) (q := 9) dX9_law_6 fl_X9_120 rfl (am_gi hT.1) rfl ?_
    refine rn_istore_n (ls' := [some (.inr (.inr 96)), some (.inl (T.length : Int)), none, none, none, none]) (q := 10) dX9_law_9 (by decide) rfl rfl ?_
    refine rn_aload_n (x := 95) (q := 11) dX9_law_10 rfl rfl ?_
    refine rn_callV (b := 95) (as := []) (rest := []) (q := 14) dX9_law_11 ml_X9_207 sm_X9_readRule rfl rfl (by decide) (by omega) rfl rfl (Nat.le_of_ble_eq_true rfl) rfl (idD (d := d + 0) hR) ?_
    intro r11 mem11 hq11
    obtain ⟨rfl, rfl⟩ := hq11
    show am_Rn l G _ _ 14 [some (.inr (.inr 96)), some (.inl (T.length : Int)), none, none, none, none] [.inl 1] (aw (rdM T (am_up mem 95 11 0)) a (-1)) _
    refine rn_ifne (t := 26) (q := 17) dX9_law_14 rfl rfl (fun w14 => ?_) (fun h => absurd h (by decide))
    refine rn_aload_n (x := 95) (q := 27) dX9_law_26 rfl rfl ?_
    refine rn_callV (b := 95) (as := []) (rest := []) (q := 30) dX9_law_27 ml_X9_387 sm_X9_bookIn20 rfl rfl (by decide) (by omega) rfl rfl (Nat.le_of_ble_eq_true rfl) rfl (m_bookIn20 (d := d + 0) q0.1.1 q0.1.2 q0.rl q0.sng q0.hs hNB q.eo q0.es q0.2.2.1) ?_
    intro r27 mem27 hq27
    obtain ⟨rfl, hf27⟩ := hq27
    show am_Rn l G _ _ 30 [some (.inr (.inr 96)), some (.inl (T.length : Int)), none, none, none, none] [.inl (eB (itE X h sn sg e 20) : Int)] mem27 _
    refine rn_istore_n (ls' := [some (.inr (.inr 96)), some (.inl (T.length : Int)), some (.inl (eB (itE X h sn sg e 20) : Int)), none, none, none]) (q := 31) dX9_law_30 (by decide) rfl rfl ?_
    refine rn_aload_n (x := 95) (q := 32) dX9_law_31 rfl rfl ?_
    refine rn_get (a := 95) (v := .inr (.inr 105)) (q := 35) dX9_law_32 fl_X9_40 rfl (show Sum.inr (Sum.inr (mem27 95 18).toNat) = _ by rw [(q0.kept hf27.r9).rl.2.1]; rfl) rfl ?_
    refine rn_astore_n (ls' := [some (.inr (.inr 96)), some (.inl (T.length : Int)), some (.inl (eB (itE X h sn sg e 20) : Int)), some (.inr (.inr 105)), none, none]) (q := 36) dX9_law_35 (by decide) rfl rfl ?_
    refine rn_aload_n (x := 95) (q := 37) dX9_law_36 rfl rfl ?_
    refine rn_get (a := 95) (v := .inl (X.length : Int)) (q := 40) dX9_law_37 fl_X9_210 rfl (am_gi (q0.kept hf27.r9).rl.2.2.1) rfl ?_
    refine rn_istore (ls' := [some (.inr (.inr 96)), some (.inl (T.length : Int)), some (.inl (eB (itE X h sn sg e 20) : Int)), some (.inr (.inr 105)), some (.inl (X.length : Int)), none]) (q := 42) dX9_law_40 (by decide) rfl rfl ?_
    refine rn_aload_n (x := 95) (q := 43) dX9_law_42 rfl rfl ?_
    refine rn_aload_n (x := 95) (q := 44) dX9_law_43 rfl rfl ?_
    refine rn_get (a := 95) (v := .inr (.inr 106)) (q := 47) dX9_law_44 fl_X9_43 rfl (show Sum.inr (Sum.inr (mem27 95 19).toNat) = _ by rw [hf27 95 19 rfl, f1 95 19 rfl]; show Sum.inr (Sum.inr (mem 95 19).toNat) = _; rw [h19]; rfl) rfl ?_
    refine rn_puta (a := 95) (b := 106) (q := 50) dX9_law_47 fl_X9_40 rfl rfl rfl (by decide) rfl ?_
    refine rn_aload_n (x := 95) (q := 51) dX9_law_50 rfl rfl ?_
    refine rn_iload_n (x := (T.length : Int)) (q := 52) dX9_law_51 rfl rfl ?_
    refine rn_puti (a := 95) (q := 55) dX9_law_52 fl_X9_210 rfl rfl rfl rfl ?_
    refine rn_iconst (q := 56) dX9_law_55 (am_okd rfl) rfl ?_
    refine rn_istore (ls' := [some (.inr (.inr 96)), some (.inl (T.length : Int)), some (.inl (eB (itE X h sn sg e 20) : Int)), some (.inr (.inr 105)), some (.inl (X.length : Int)), some (.inl 0)]) (q := 58) dX9_law_56 (by decide) rfl rfl ?_
    exact LP mem27 hf27 0 (Nat.zero_le _) _ (fun _ _ => rfl) (fun j hj2 => absurd hj2 (Nat.not_lt_zero j))
  · rw [if_neg hv] at hR
    refine rn_aload_n (x := 95) (q := 1) dX9_law_0 rfl rfl ?_
    refine rn_iconst (q := 2) dX9_law_1 (am_okd rfl) rfl ?_
    refine rn_puti (a := 95) (q := 5) dX9_law_2 fl_X9_107 rfl rfl rfl rfl ?_
    refine rn_aload_n (x := 95) (q := 6) dX9_law_5 rfl rfl ?_
    refine rn_get (a := 95) (v := .inl (T.length : Int)) (q := 9) dX9_law_6 fl_X9_120 rfl (am_gi hT.1) rfl ?_
    refine rn_istore_n (ls' := [some (.inr (.inr 96)), some (.inl (T.length : Int)), none, none, none, none]) (q := 10) dX9_law_9 (by decide) rfl rfl ?_
    refine rn_aload_n (x := 95) (q := 11) dX9_law_10 rfl rfl ?_
    refine rn_callV (b := 95) (as := []) (rest := []) (q := 14) dX9_law_11 ml_X9_207 sm_X9_readRule rfl rfl (by decide) (by omega) rfl rfl (Nat.le_of_ble_eq_true rfl) rfl (idD (d := d + 0) hR) ?_
    intro r11 mem11 hq11
    obtain ⟨rfl, rfl⟩ := hq11
    show am_Rn l G _ _ 14 [some (.inr (.inr 96)), some (.inl (T.length : Int)), none, none, none, none] [.inl 0] (aw (rdM T (am_up mem 95 11 0)) a (rlV T)) _
    refine rn_ifne (t := 26) (q := 17) dX9_law_14 rfl rfl (fun h => absurd h (by decide)) (fun w14 => ?_)
    refine rn_sipush (q := 20) dX9_law_17 ⟨by decide, by decide⟩ rfl ?_
    refine rn_aload_n (x := 95) (q := 21) dX9_law_20 rfl rfl ?_
    refine rn_get (a := 95) (v := .inl (rlV T)) (q := 24) dX9_law_21 fl_X9_135 rfl rfl rfl ?_
    refine rn_isubN (z := ((-10000) - (rlV T))) (q := 25) dX9_law_24 rfl (by unfold am_ok; omega) rfl ?_
    refine rn_iret dX9_law_25 rfl ?_
    exact hQ _ _ (Or.inl ⟨hv, rfl, (f0.up (a := 95) (k := 15) (x := a) rfl).up rfl⟩)
end P9d
