/-! Parting: one night parted among many sets -/
theorem pc_le8 : ∀ b, b < 256 → pc b ≤ 8 := by decide +kernel
section P72
variable {l : Launch} {G : am_G} {d : Nat} {r : Nat} {X : List Nat} {C : List Int} {sn : Nat} {sg : Nat → Nat} {h : hrs} {e : est} {NB : Nat} {mem m : am_M}
theorem s_place71 (i mo pr : Nat) (hi : i ≤ 8) (hm : mo ≤ 9) (hp : pr ≤ 8) : am_Sm l G yX1_place mt_X1_place d [.inr (.inr 72), .inl (i : Int), .inl (mo : Int), .inl (pr : Int)] mem (am_rr (some (.inl (((i * 1 + mo) * 9 + pr : Nat) : Int))) mem) := by
  refine am_enterQ (ls := [some (.inr (.inr 72)), some (.inl (i : Int)), some (.inl (mo : Int)), some (.inl (pr : Int))]) (by decide) rfl (Nat.le_of_ble_eq_true rfl) rfl (fun hok Q hQ => ?_)
  refine rn_iload_n (x := (i : Int)) (q := 1) dX1_place_0 rfl rfl ?_
  refine rn_aload_n (x := 71) (q := 2) dX1_place_1 rfl rfl ?_
  refine rn_get (a := 71) (v := .inl 1) (q := 5) dX1_place_2 fl_X1_22 rfl rfl rfl ?_
  refine rn_imulN (z := ((i * 1 : Nat) : Int)) (q := 6) dX1_place_5 (by omega) (by unfold am_ok; omega) rfl ?_
  refine rn_iload_n (x := (mo : Int)) (q := 7) dX1_place_6 rfl rfl ?_
  refine rn_iaddN (z := (((i * 1) + mo : Nat) : Int)) (q := 8) dX1_place_7 (by omega) (by unfold am_ok; omega) rfl ?_
  refine rn_bipush (q := 10) dX1_place_8 ⟨by decide, by decide⟩ rfl ?_
  refine rn_imulN (z := ((((i * 1) + mo) * 9 : Nat) : Int)) (q := 11) dX1_place_10 (by omega) (by unfold am_ok; omega) rfl ?_
  refine rn_iload_n (x := (pr : Int)) (q := 12) dX1_place_11 rfl rfl ?_
  refine rn_iaddN (z := (((((i * 1) + mo) * 9) + pr : Nat) : Int)) (q := 13) dX1_place_12 (by omega) (by unfold am_ok; omega) rfl ?_
  refine rn_iret dX1_place_13 rfl ?_
  exact hQ _ _ ⟨rfl, rfl⟩
theorem c_ready71 (q : CQ r X C sn sg h e NB mem) (nt mm : Nat) (hnt : nt < 1000000) (hmm : mm < 1) : am_Sm l G yX1_ready mt_X1_ready (d + 4) [.inr (.inr 72), .inr (.inr 6), .inr (.inr 17), .inl (nt : Int), .inl (mm : Int)] mem (fun q m => q = none ∧ m 71 4 = (sg (nt % sn) : Int) ∧ (∀ i mo pr, i < h.1 → mo ≤ mm → 1 ≤ pr → pr ≤ h.1 → m 74 ((i * 1 + mo) * 9 + pr) = mayV X h (sg (nt % sn)) i (min 99 (eH e i + mo)) nt pr) ∧ frS s8 mem m ∧ ∀ b k, (Nat.ble 71 b && Nat.ble b 83) = true → (b == 71) = false → (b == 74) = false → m b k = mem b k) := by
  refine am_enterQ (ls := [some (.inr (.inr 72)), some (.inr (.inr 6)), some (.inr (.inr 17)), some (.inl (nt : Int)), some (.inl (mm : Int)), none, none, none, none]) (by decide) rfl (Nat.le_of_ble_eq_true rfl) rfl (fun hok Q hQ => ?_)
  have b := q.bd
  have o := am_rul_or q.rul
  have L1 : ∀ i : Nat, i ≤ h.1 → ∀ (m : am_M) (l6 l7 l8 : Option am_V), frS s8 mem m → (∀ b k, (Nat.ble 71 b && Nat.ble b 83) = true → (b == 71) = false → (b == 74) = false → m b k = mem b k) → m 71 4 = (sg (nt % sn) : Int) → (∀ j mo pr, j < i → mo ≤ mm → 1 ≤ pr → pr ≤ h.1 → m 74 ((j * 1 + mo) * 9 + pr) = mayV X h (sg (nt % sn)) j (min 99 (eH e j + mo)) nt pr) → am_Rn l G mt_X1_ready (d + 4) 12 [some (.inr (.inr 72)), some (.inr (.inr 6)), some (.inr (.inr 17)), some (.inl (nt : Int)), some (.inl (mm : Int)), some (.inl (i : Int)), l6, l7, l8] [] m Q := by
    refine am_dn h.1 (fun i hi ih m l6 l7 l8 hf hg h4 hT => ?_)
    have L2 : i < h.1 → ∀ c : Nat, c ≤ mm + 1 → ∀ (m : am_M) (l7 l8 : Option am_V), frS s8 mem m → (∀ b k, (Nat.ble 71 b && Nat.ble b 83) = true → (b == 71) = false → (b == 74) = false → m b k = mem b k) → m 71 4 = (sg (nt % sn) : Int) → (∀ j mo pr, j < i ∨ (j = i ∧ mo < c) → mo ≤ mm → 1 ≤ pr → pr ≤ h.1 → m 74 ((j * 1 + mo) * 9 + pr) = mayV X h (sg (nt % sn)) j (min 99 (eH e j + mo)) nt pr) → am_Rn l G mt_X1_ready (d + 4) 24 [some (.inr (.inr 72)), some (.inr (.inr 6)), some (.inr (.inr 17)), some (.inl (nt : Int)), some (.inl (mm : Int)), some (.inl (i : Int)), some (.inl (c : Int)), l7, l8] [] m Q := by
      intro hlt
      refine am_dn (mm + 1) (fun c hc ih2 m l7 l8 hf hg h4 hT => ?_)
      have h9 := q.hd9 i
      have L3 : c < mm + 1 → ∀ p : Nat, p ≤ h.1 + 1 → 1 ≤ p → ∀ (m : am_M), frS s8 mem m → (∀ b k, (Nat.ble 71 b && Nat.ble b 83) = true → (b == 71) = false → (b == 74) = false → m b k = mem b k) → m 71 4 = (sg (nt % sn) : Int) → (∀ j mo pr, j < i ∨ (j = i ∧ mo < c) ∨ (j = i ∧ mo = c ∧ pr < p) → mo ≤ mm → 1 ≤ pr → pr ≤ h.1 → m 74 ((j * 1 + mo) * 9 + pr) = mayV X h (sg (nt % sn)) j (min 99 (eH e j + mo)) nt pr) → am_Rn l G mt_X1_ready (d + 4) 60 [some (.inr (.inr 72)), some (.inr (.inr 6)), some (.inr (.inr 17)), some (.inl (nt : Int)), some (.inl (mm : Int)), some (.inl (i : Int)), some (.inl (c : Int)), some (.inl ((min 99 (eH e i + c) : Nat) : Int)), some (.inl (p : Int))] [] m Q := by
        intro hcl
        refine am_dn (h.1 + 1) (fun p hp ih3 h1 m hf hg h4 hT => ?_)
        have hqm := q.kept hf.r8
        refine rn_iload (x := (p : Int)) (q := 62) dX1_ready_60 rfl rfl ?_
        refine rn_aload_n (x := 5) (q := 63) dX1_ready_62 rfl rfl ?_
        refine rn_get (a := 5) (v := .inl (h.1 : Int)) (q := 66) dX1_ready_63 fl_X1_38 rfl (am_gi (q.kept hf.r8).n) rfl ?_
        refine rn_cmpgt (t := 105) (q := 69) dX1_ready_66 rfl rfl (fun w66 => ?_) (fun w66 => ?_)
        · refine rn_iincN (x := (c : Int)) (z := ((c + 1 : Nat) : Int)) (ls' := [some (.inr (.inr 72)), some (.inr (.inr 6)), some (.inr (.inr 17)), some (.inl (nt : Int)), some (.inl (mm : Int)), some (.inl (i : Int)), some (.inl ((c + 1 : Nat) : Int)), some (.inl ((min 99 (eH e i + c) : Nat) : Int)), some (.inl (p : Int))]) (q := 108) dX1_ready_105 rfl (by decide) (by omega) (by unfold am_ok; omega) rfl rfl ?_
          refine rn_goto (t := 24) dX1_ready_108 rfl ?_
          exact ih2 hcl m _ _ hf hg h4 (fun j mo pr hj a1 a2 a3 => hT j mo pr (by omega) a1 a2 a3)
        · refine rn_aload_n (x := 71) (q := 70) dX1_ready_69 rfl rfl ?_
          refine rn_get (a := 71) (v := .inr (.inr 75)) (q := 73) dX1_ready_70 fl_X1_26 rfl rfl rfl ?_
          refine rn_aload_n (x := 71) (q := 74) dX1_ready_73 rfl rfl ?_
          refine rn_iload (x := (i : Int)) (q := 76) dX1_ready_74 rfl rfl ?_
          refine rn_iload (x := (c : Int)) (q := 78) dX1_ready_76 rfl rfl ?_
          refine rn_iload (x := (p : Int)) (q := 80) dX1_ready_78 rfl rfl ?_
          refine rn_callV (b := 71) (as := [.inl (i : Int), .inl (c : Int), .inl (p : Int)]) (rest := [.inr (.inr 75)]) (q := 83) dX1_ready_80 ml_X1_52 sm_X1_place rfl rfl (by decide) (by omega) rfl rfl (Nat.le_of_ble_eq_true rfl) rfl (s_place71 (d := d + 3) i c p (by omega) (by omega) (by omega)) ?_
          intro r80 mem80 hq80
          obtain ⟨rfl, rfl⟩ := hq80
          show am_Rn l G _ _ 83 [some (.inr (.inr 72)), some (.inr (.inr 6)), some (.inr (.inr 17)), some (.inl (nt : Int)), some (.inl (mm : Int)), some (.inl (i : Int)), some (.inl (c : Int)), some (.inl ((min 99 (eH e i + c) : Nat) : Int)), some (.inl (p : Int))] [.inl (((i * 1 + c) * 9 + p : Nat) : Int), .inr (.inr 75)] m _
          refine rn_aload_n (x := 5) (q := 84) dX1_ready_83 rfl rfl ?_
          refine rn_aload_n (x := 5) (q := 85) dX1_ready_84 rfl rfl ?_
          refine rn_get (a := 5) (v := .inr (.inr (r + 1))) (q := 88) dX1_ready_85 fl_X1_55 rfl (show Sum.inr (Sum.inr (m 5 7).toNat) = _ by rw [(q.kept hf.r8).rl]; rfl) rfl ?_
          refine rn_iload_n (x := (nt : Int)) (q := 89) dX1_ready_88 rfl rfl ?_
          refine rn_iload (x := (i : Int)) (q := 91) dX1_ready_89 rfl rfl ?_
          refine rn_iload (x := ((min 99 (eH e i + c) : Nat) : Int)) (q := 93) dX1_ready_91 rfl rfl ?_
          refine rn_iload (x := (p : Int)) (q := 95) dX1_ready_93 rfl rfl ?_
          refine rn_callV (b := 5) (as := [.inr (.inr (r + 1)), .inl (nt : Int), .inl (i : Int), .inl ((min 99 (eH e i + c) : Nat) : Int), .inl (p : Int)]) (rest := [.inl (((i * 1 + c) * 9 + p : Nat) : Int), .inr (.inr 75)]) (q := 98) dX1_ready_95 ml_X1_59 sm_X6_may rfl rfl (by decide) (by omega) rfl rfl (Nat.le_of_ble_eq_true rfl) rfl (s_may8 (d := d + 0) q.rul q.ok hqm.cd hqm.sng hqm.hs nt i (min 99 (eH e i + c)) p hnt hlt (by omega)) ?_
          intro r95 mem95 hq95
          obtain ⟨rfl, hf95⟩ := hq95
          show am_Rn l G _ _ 98 [some (.inr (.inr 72)), some (.inr (.inr 6)), some (.inr (.inr 17)), some (.inl (nt : Int)), some (.inl (mm : Int)), some (.inl (i : Int)), some (.inl (c : Int)), some (.inl ((min 99 (eH e i + c) : Nat) : Int)), some (.inl (p : Int))] [.inl (mayV X h (sg (nt % sn)) i (min 99 (eH e i + c)) nt p), .inl (((i * 1 + c) * 9 + p : Nat) : Int), .inr (.inr 75)] mem95 _
          refine rn_iastV (a := 74) (m1 := am_up mem95 74 ((i * 1 + c) * 9 + p) (mayV X h (sg (nt % sn)) i (min 99 (eH e i + c)) nt p)) (q := 99) dX1_ready_98 rfl (by omega) (by omega) rfl rfl ?_
          refine rn_iincN (x := (p : Int)) (z := ((p + 1 : Nat) : Int)) (ls' := [some (.inr (.inr 72)), some (.inr (.inr 6)), some (.inr (.inr 17)), some (.inl (nt : Int)), some (.inl (mm : Int)), some (.inl (i : Int)), some (.inl (c : Int)), some (.inl ((min 99 (eH e i + c) : Nat) : Int)), some (.inl ((p + 1 : Nat) : Int))]) (q := 102) dX1_ready_99 rfl (by decide) (by omega) (by unfold am_ok; omega) rfl rfl ?_
          refine rn_goto (t := 60) dX1_ready_102 rfl ?_
          have f8 : frS s8 m mem95 := fun b k hb => by
            unfold s8 at hb
            simp [ble_f] at hb
            rw [hf95 b (by omega) (by omega)]
          refine ih3 (by omega) (by omega) _ ((hf.tr f8).up rfl) (fun b2 k hb h1 h2 => ?_) ?_ (fun j mo pr hj a1 a2 a3 => ?_)
          · rw [am_up_ne (by simpa using h2)]
            have hb' := hb
            have h1' := h1
            have h2' := h2
            simp at hb' h1' h2'
            rw [hf95 b2 (by omega) (by omega)]
            exact hg b2 k hb h1 h2
          · show mem95 71 4 = _
            rw [hf95 71 (by omega) (by omega)]; exact h4
          · rw [am_up_at]
            by_cases ej : (j * 1 + mo) * 9 + pr = (i * 1 + c) * 9 + p
            · obtain ⟨rfl, rfl, rfl⟩ : j = i ∧ mo = c ∧ pr = p := by omega
              rw [if_pos rfl]
            · rw [if_neg ej, hf95 74 (by omega) (by omega)]
              exact hT j mo pr (by omega) a1 a2 a3
      refine rn_iload (x := (c : Int)) (q := 26) dX1_ready_24 rfl rfl ?_
      refine rn_iload (x := (mm : Int)) (q := 28) dX1_ready_26 rfl rfl ?_
      refine rn_cmpgt (t := 111) (q := 31) dX1_ready_28 rfl rfl (fun w28 => ?_) (fun w28 => ?_)
      · refine rn_iincN (x := (i : Int)) (z := ((i + 1 : Nat) : Int)) (ls' := [some (.inr (.inr 72)), some (.inr (.inr 6)), some (.inr (.inr 17)), some (.inl (nt : Int)), some (.inl (mm : Int)), some (.inl ((i + 1 : Nat) : Int)), some (.inl (c : Int)), l7, l8]) (q := 114) dX1_ready_111 rfl (by decide) (by omega) (by unfold am_ok; omega) rfl rfl ?_
        refine rn_goto (t := 12) dX1_ready_114 rfl ?_
        exact ih hlt m _ _ _ hf hg h4 (fun j mo pr hj a1 a2 a3 => hT j mo pr (by omega) a1 a2 a3)
      · refine rn_iload (x := (c : Int)) (q := 33) dX1_ready_31 rfl rfl ?_
        refine rn_aload_n (x := 71) (q := 34) dX1_ready_33 rfl rfl ?_
        refine rn_get (a := 71) (v := .inl 1) (q := 37) dX1_ready_34 fl_X1_22 rfl rfl rfl ?_
        refine rn_cmpge (t := 111) (q := 40) dX1_ready_37 rfl rfl (fun w37 => ?_) (fun w37 => ?_)
        · refine rn_iincN (x := (i : Int)) (z := ((i + 1 : Nat) : Int)) (ls' := [some (.inr (.inr 72)), some (.inr (.inr 6)), some (.inr (.inr 17)), some (.inl (nt : Int)), some (.inl (mm : Int)), some (.inl ((i + 1 : Nat) : Int)), some (.inl (c : Int)), l7, l8]) (q := 114) dX1_ready_111 rfl (by decide) (by omega) (by unfold am_ok; omega) rfl rfl ?_
          refine rn_goto (t := 12) dX1_ready_114 rfl ?_
          exact ih hlt m _ _ _ hf hg h4 (fun j mo pr hj a1 a2 a3 => hT j mo pr (by omega) a1 a2 a3)
        · refine rn_bipush (q := 42) dX1_ready_40 ⟨by decide, by decide⟩ rfl ?_
          refine rn_aload_n (x := 16) (q := 43) dX1_ready_42 rfl rfl ?_
          refine rn_get (a := 16) (v := .inr (.inr 18)) (q := 46) dX1_ready_43 fl_X1_41 rfl rfl rfl ?_
          refine rn_iload (x := (i : Int)) (q := 48) dX1_ready_46 rfl rfl ?_
          refine rn_ialdV (a := 17) (v := (eH e i : Int)) (q := 49) dX1_ready_48 rfl (by omega) (by omega) ((q.kept hf.r8).hd (by omega)) rfl ?_
          refine rn_iload (x := (c : Int)) (q := 51) dX1_ready_49 rfl rfl ?_
          refine rn_iaddN (z := (((eH e i) + c : Nat) : Int)) (q := 52) dX1_ready_51 (by omega) (by unfold am_ok; omega) rfl ?_
          refine rn_mmin (q := 55) dX1_ready_52 am_mm_X1_46 am_mminw (Nat.le_of_ble_eq_true rfl) rfl ?_
          rw [show (min 99 (((eH e i) + c : Nat) : Int)) = ((min 99 (eH e i + c) : Nat) : Int) from (by omega)]
          refine rn_istore (ls' := [some (.inr (.inr 72)), some (.inr (.inr 6)), some (.inr (.inr 17)), some (.inl (nt : Int)), some (.inl (mm : Int)), some (.inl (i : Int)), some (.inl (c : Int)), some (.inl ((min 99 (eH e i + c) : Nat) : Int)), l8]) (q := 57) dX1_ready_55 (by decide) rfl rfl ?_
          refine rn_iconst (q := 58) dX1_ready_57 (am_okd rfl) rfl ?_
          refine rn_istore (ls' := [some (.inr (.inr 72)), some (.inr (.inr 6)), some (.inr (.inr 17)), some (.inl (nt : Int)), some (.inl (mm : Int)), some (.inl (i : Int)), some (.inl (c : Int)), some (.inl ((min 99 (eH e i + c) : Nat) : Int)), some (.inl 1)]) (q := 60) dX1_ready_58 (by decide) rfl rfl ?_
          exact L3 (by omega) 1 (by omega) (by omega) m hf hg h4 (fun j mo pr hj a1 a2 a3 => hT j mo pr (by omega) a1 a2 a3)
    refine rn_iload (x := (i : Int)) (q := 14) dX1_ready_12 rfl rfl ?_
    refine rn_aload_n (x := 5) (q := 15) dX1_ready_14 rfl rfl ?_
    refine rn_get (a := 5) (v := .inl (h.1 : Int)) (q := 18) dX1_ready_15 fl_X1_38 rfl (am_gi (q.kept hf.r8).n) rfl ?_
    refine rn_cmpge (t := 117) (q := 21) dX1_ready_18 rfl rfl (fun w18 => ?_) (fun w18 => ?_)
    · refine rn_vret dX1_ready_117 rfl ?_
      exact hQ _ _ ⟨rfl, h4, fun j mo pr a0 a1 a2 a3 => hT j mo pr (by omega) a1 a2 a3, hf, hg⟩
    · refine rn_iconst (q := 22) dX1_ready_21 (am_okd rfl) rfl ?_
      refine rn_istore (ls' := [some (.inr (.inr 72)), some (.inr (.inr 6)), some (.inr (.inr 17)), some (.inl (nt : Int)), some (.inl (mm : Int)), some (.inl (i : Int)), some (.inl 0), l7, l8]) (q := 24) dX1_ready_22 (by decide) rfl rfl ?_
      exact L2 (by omega) 0 (by omega) m _ _ hf hg h4 (fun j mo pr hj a1 a2 a3 => hT j mo pr (by omega) a1 a2 a3)
  refine rn_aload_n (x := 71) (q := 1) dX1_ready_0 rfl rfl ?_
  refine rn_aload_n (x := 5) (q := 2) dX1_ready_1 rfl rfl ?_
  refine rn_iload_n (x := (nt : Int)) (q := 3) dX1_ready_2 rfl rfl ?_
  refine rn_callV (b := 5) (as := [.inl (nt : Int)]) (rest := [.inr (.inr 72)]) (q := 6) dX1_ready_3 ml_X1_29 sm_X6_songOn rfl rfl (by decide) (by omega) rfl rfl (Nat.le_of_ble_eq_true rfl) rfl (c_songOn (d := d + 3) q nt (by omega)) ?_
  intro r3 mem3 hq3
  obtain ⟨rfl, rfl⟩ := hq3
  show am_Rn l G _ _ 6 [some (.inr (.inr 72)), some (.inr (.inr 6)), some (.inr (.inr 17)), some (.inl (nt : Int)), some (.inl (mm : Int)), none, none, none, none] [.inl (sg (nt % sn) : Int), .inr (.inr 72)] mem _
  refine rn_puti (a := 71) (q := 9) dX1_ready_6 fl_X1_35 rfl rfl rfl rfl ?_
  refine rn_iconst (q := 10) dX1_ready_9 (am_okd rfl) rfl ?_
  refine rn_istore (ls' := [some (.inr (.inr 72)), some (.inr (.inr 6)), some (.inr (.inr 17)), some (.inl (nt : Int)), some (.inl (mm : Int)), some (.inl 0), none, none, none]) (q := 12) dX1_ready_10 (by decide) rfl rfl ?_
  exact L1 0 (Nat.zero_le _) _ _ _ _ (frS.rf.up rfl) (fun b2 k hb h1 h2 => by rw [am_up_ne (by simpa using h1)]) am_up_self (fun j mo pr a0 => absurd a0 (Nat.not_lt_zero _))
theorem c_share71 (q : CQ r X C sn sg h e NB mem) (who : Nat) (hw : who < 256) {mo : Nat → Nat} (hmo : ∀ i, i < h.1 → mem 72 i = (mo i : Int) ∧ mo i < 1) {mv : Nat → Int} (hmv : ∀ i, i < h.1 → who.testBit i = true → mem 74 ((i * 1 + mo i) * 9 + pc who) = mv i) (hmn : ∀ i, 0 ≤ mv i) {w : Int} (hwt : mem 71 4 = w) (hw9 : 0 ≤ w ∧ w ≤ 9) : am_Sm l G yX1_share mt_X1_share (d + 1) [.inr (.inr 72), .inr (.inr 6), .inl (who : Int)] mem (fun q m => q = none ∧ (∀ j, j < h.1 → m 73 j = pP mv who w j) ∧ m 71 5 = pD mv who w h.2.2.2 h.1 ∧ m 71 6 = pL mv who w h.1 ∧ m 71 4 = w ∧ frS s8 mem m ∧ ∀ b k, (b == 71) = false → (b == 73) = false → m b k = mem b k) := by
  refine am_enterQ (ls := [some (.inr (.inr 72)), some (.inr (.inr 6)), some (.inl (who : Int)), none, none, none]) (by decide) rfl (Nat.le_of_ble_eq_true rfl) rfl (fun hok Q hQ => ?_)
  have b := q.bd
  have pc8 := pc_le8 who hw
  have L : ∀ i : Nat, i ≤ h.1 → ∀ (m : am_M) (l5 : Option am_V), frS s8 mem m → (∀ b k, (b == 71) = false → (b == 73) = false → m b k = mem b k) → (∀ j, j < i → m 73 j = pP mv who w j) → m 71 5 = pD mv who w h.2.2.2 i → m 71 6 = pL mv who w i → m 71 4 = w → am_Rn l G mt_X1_share (d + 1) 21 [some (.inr (.inr 72)), some (.inr (.inr 6)), some (.inl (who : Int)), some (.inl (pc who : Int)), some (.inl (i : Int)), l5] [] m Q := by
    refine am_dn h.1 (fun i hi ih m l5 hf hg hp h5 h6 h4 => ?_)
    have hLk := pL_ok (mk := who) hmn hw9 i
    have hPk := pP_ok (mk := who) hmn hw9 i
    have hDk := pD_ok (mk := who) hmn hw9 q.hs.1.2.2.2 i
    have hmi := hmn i
    have hpy := q.pa9 i
    by_cases hin : i < h.1
    · have hmoi := hmo i hin
      have hmu : 0 ≤ pP mv who w i * (h.2.2.2 i : Int) ∧ pP mv who w i * (h.2.2.2 i : Int) ≤ 81 := ⟨Int.mul_nonneg hPk.1 (by omega), by have := Int.mul_le_mul hPk.2 (show (h.2.2.2 i : Int) ≤ 9 by omega) (by omega) (by omega); omega⟩
      have hz : pP mv who w i = 0 → ∀ l5, am_Rn l G mt_X1_share (d + 1) 21 [some (.inr (.inr 72)), some (.inr (.inr 6)), some (.inl (who : Int)), some (.inl (pc who : Int)), some (.inl ((i + 1 : Nat) : Int)), l5] [] (am_up m 73 i 0) Q := by
        intro e0 l5
        refine ih hin _ _ (hf.up rfl) (fun b2 k h1 h2 => ?_) (fun j hj => ?_) ?_ ?_ h4
        · rw [am_up_ne (by simpa using h2)]; exact hg b2 k h1 h2
        · rw [am_up_at]
          by_cases e1 : j = i
          · rw [if_pos e1, e1, e0]
          · rw [if_neg e1]; exact hp j (by omega)
        · show m 71 5 = _
          rw [h5, pD, e0]; omega
        · show m 71 6 = _
          rw [h6, pL]; change _ = _ - pP mv who w i; rw [e0]; omega
      have hfin : am_Rn l G mt_X1_share (d + 1) 21 [some (.inr (.inr 72)), some (.inr (.inr 6)), some (.inl (who : Int)), some (.inl (pc who : Int)), some (.inl ((i + 1 : Nat) : Int)), some (.inl (pP mv who w i))] [] (am_up (am_up (am_up (am_up m 73 i 0) 73 i (pP mv who w i)) 71 6 (pL mv who w (i + 1))) 71 5 (pD mv who w h.2.2.2 (i + 1))) Q := by
        refine ih hin _ _ ((((hf.up rfl).up rfl).up rfl).up rfl) (fun b2 k h1 h2 => ?_) (fun j hj => ?_) rfl rfl h4
        · rw [am_up_ne (by simpa using h1), am_up_ne (by simpa using h1), am_up_ne (by simpa using h2), am_up_ne (by simpa using h2)]; exact hg b2 k h1 h2
        · show am_up (am_up m 73 i 0) 73 i (pP mv who w i) 73 j = _
          rw [am_up_at]
          by_cases e1 : j = i
          · rw [if_pos e1, e1]
          · rw [if_neg e1, am_up_neq e1]; exact hp j (by omega)
      by_cases hb : who.testBit i = true
      · have hmvi := hmv i hin hb
        have eP1 : min (pL mv who w i) (mv i) = pP mv who w i := by unfold pP; rw [if_pos hb]
        refine rn_iload (x := (i : Int)) (q := 23) dX1_share_21 rfl rfl ?_
        refine rn_aload_n (x := 5) (q := 24) dX1_share_23 rfl rfl ?_
        refine rn_get (a := 5) (v := .inl (h.1 : Int)) (q := 27) dX1_share_24 fl_X1_38 rfl (am_gi (q.kept hf.r8).n) rfl ?_
        refine rn_cmpge (t := 127) (q := 30) dX1_share_27 rfl rfl (fun h => absurd h (by omega)) (fun w27 => ?_)
        refine rn_aload_n (x := 71) (q := 31) dX1_share_30 rfl rfl ?_
        refine rn_get (a := 71) (v := .inr (.inr 74)) (q := 34) dX1_share_31 fl_X1_15 rfl rfl rfl ?_
        refine rn_iload (x := (i : Int)) (q := 36) dX1_share_34 rfl rfl ?_
        refine rn_iconst (q := 37) dX1_share_36 (am_okd rfl) rfl ?_
        refine rn_iastV (a := 73) (m1 := am_up m 73 i 0) (q := 38) dX1_share_37 rfl (by omega) (by omega) rfl rfl ?_
        refine rn_iload_n (x := (who : Int)) (q := 39) dX1_share_38 rfl rfl ?_
        refine rn_iload (x := (i : Int)) (q := 41) dX1_share_39 rfl rfl ?_
        refine rn_ishr (q := 42) dX1_share_41 rfl ?_
        refine rn_iconst (q := 43) dX1_share_42 (am_okd rfl) rfl ?_
        refine rn_iand (q := 44) dX1_share_43 rfl ?_
        rw [show am_and (am_shr (who : Int) (i : Int)) 1 = 1 from ((am_bit (by omega) (by omega)).trans (if_pos hb))]
        refine rn_ifeq (t := 121) (q := 47) dX1_share_44 rfl rfl (fun h => absurd h (by decide)) (fun w44 => ?_)
        refine rn_aload_n (x := 71) (q := 48) dX1_share_47 rfl rfl ?_
        refine rn_get (a := 71) (v := .inl (pL mv who w i)) (q := 51) dX1_share_48 fl_X1_71 rfl (am_gi h6) rfl ?_
        refine rn_ifle (t := 121) (q := 54) dX1_share_51 rfl rfl (fun w51 => ?_) (fun w51 => ?_)
        · first | (have e0 : pP mv who w i = 0 := (by rw [← eP1]; omega); refine rn_iincN (x := (i : Int)) (z := ((i + 1 : Nat) : Int)) (ls' := [some (.inr (.inr 72)), some (.inr (.inr 6)), some (.inl (who : Int)), some (.inl (pc who : Int)), some (.inl ((i + 1 : Nat) : Int)), l5]) (q := 124) dX1_share_121 rfl (by decide) (by omega) (by unfold am_ok; omega) rfl rfl ?_; refine rn_goto (t := 21) dX1_share_124 rfl ?_; exact hz e0 _) | (refine rn_iincN (x := (i : Int)) (z := ((i + 1 : Nat) : Int)) (ls' := [some (.inr (.inr 72)), some (.inr (.inr 6)), some (.inl (who : Int)), some (.inl (pc who : Int)), some (.inl ((i + 1 : Nat) : Int)), some (.inl (pP mv who w i))]) (q := 124) dX1_share_121 rfl (by decide) (by omega) (by unfold am_ok; omega) rfl rfl ?_; refine rn_goto (t := 21) dX1_share_124 rfl ?_; exact hfin)
        · refine rn_aload_n (x := 71) (q := 55) dX1_share_54 rfl rfl ?_
          refine rn_get (a := 71) (v := .inl (pL mv who w i)) (q := 58) dX1_share_55 fl_X1_71 rfl (am_gi h6) rfl ?_
          refine rn_aload_n (x := 71) (q := 59) dX1_share_58 rfl rfl ?_
          refine rn_get (a := 71) (v := .inr (.inr 75)) (q := 62) dX1_share_59 fl_X1_26 rfl rfl rfl ?_
          refine rn_aload_n (x := 71) (q := 63) dX1_share_62 rfl rfl ?_
          refine rn_iload (x := (i : Int)) (q := 65) dX1_share_63 rfl rfl ?_
          refine rn_aload_n (x := 71) (q := 66) dX1_share_65 rfl rfl ?_
          refine rn_get (a := 71) (v := .inr (.inr 73)) (q := 69) dX1_share_66 fl_X1_9 rfl rfl rfl ?_
          refine rn_iload (x := (i : Int)) (q := 71) dX1_share_69 rfl rfl ?_
          refine rn_ialdV (a := 72) (v := (mo i : Int)) (q := 72) dX1_share_71 rfl (by omega) (by omega) ((hg 72 i rfl rfl).trans hmoi.1) rfl ?_
          refine rn_iload_n (x := (pc who : Int)) (q := 73) dX1_share_72 rfl rfl ?_
          refine rn_callV (b := 71) (as := [.inl (i : Int), .inl (mo i : Int), .inl (pc who : Int)]) (rest := [.inr (.inr 75), .inl (pL mv who w i)]) (q := 76) dX1_share_73 ml_X1_52 sm_X1_place rfl rfl (by decide) (by omega) rfl rfl (Nat.le_of_ble_eq_true rfl) rfl (s_place71 (d := d + 0) i (mo i) (pc who) (by omega) (by omega) (by omega)) ?_
          intro r73 mem73 hq73
          obtain ⟨rfl, rfl⟩ := hq73
          show am_Rn l G _ _ 76 [some (.inr (.inr 72)), some (.inr (.inr 6)), some (.inl (who : Int)), some (.inl (pc who : Int)), some (.inl (i : Int)), l5] [.inl (((i * 1 + mo i) * 9 + pc who : Nat) : Int), .inr (.inr 75), .inl (pL mv who w i)] (am_up m 73 i 0) _
          refine rn_ialdV (a := 74) (v := mv i) (q := 77) dX1_share_76 rfl (by omega) (by omega) ((hg 74 _ rfl rfl).trans hmvi) rfl ?_
          refine rn_mmin (q := 80) dX1_share_77 am_mm_X1_46 am_mminw (Nat.le_of_ble_eq_true rfl) rfl ?_
          rw [show (min (pL mv who w i) (mv i)) = pP mv who w i from eP1]
          refine rn_istore (ls' := [some (.inr (.inr 72)), some (.inr (.inr 6)), some (.inl (who : Int)), some (.inl (pc who : Int)), some (.inl (i : Int)), some (.inl (pP mv who w i))]) (q := 82) dX1_share_80 (by decide) rfl rfl ?_
          refine rn_aload_n (x := 71) (q := 83) dX1_share_82 rfl rfl ?_
          refine rn_get (a := 71) (v := .inr (.inr 74)) (q := 86) dX1_share_83 fl_X1_15 rfl rfl rfl ?_
          refine rn_iload (x := (i : Int)) (q := 88) dX1_share_86 rfl rfl ?_
          refine rn_iload (x := pP mv who w i) (q := 90) dX1_share_88 rfl rfl ?_
          refine rn_iastV (a := 73) (m1 := am_up (am_up m 73 i 0) 73 i (pP mv who w i)) (q := 91) dX1_share_90 rfl (by omega) (by omega) rfl rfl ?_
          refine rn_aload_n (x := 71) (q := 92) dX1_share_91 rfl rfl ?_
          refine rn_dup (q := 93) dX1_share_92 rfl rfl ?_
          refine rn_get (a := 71) (v := .inl (pL mv who w i)) (q := 96) dX1_share_93 fl_X1_71 rfl (am_gi h6) rfl ?_
          refine rn_iload (x := pP mv who w i) (q := 98) dX1_share_96 rfl rfl ?_
          refine rn_isubN (z := pL mv who w (i + 1)) (q := 99) dX1_share_98 (by rw [pL, pP]) (by unfold am_ok; omega) rfl ?_
          refine rn_puti (a := 71) (q := 102) dX1_share_99 fl_X1_71 rfl rfl rfl rfl ?_
          refine rn_aload_n (x := 71) (q := 103) dX1_share_102 rfl rfl ?_
          refine rn_dup (q := 104) dX1_share_103 rfl rfl ?_
          refine rn_get (a := 71) (v := .inl (pD mv who w h.2.2.2 i)) (q := 107) dX1_share_104 fl_X1_74 rfl (am_gi h5) rfl ?_
          refine rn_iload (x := pP mv who w i) (q := 109) dX1_share_107 rfl rfl ?_
          refine rn_aload_n (x := 5) (q := 110) dX1_share_109 rfl rfl ?_
          refine rn_get (a := 5) (v := .inr (.inr 10)) (q := 113) dX1_share_110 fl_X1_77 rfl rfl rfl ?_
          refine rn_iload (x := (i : Int)) (q := 115) dX1_share_113 rfl rfl ?_
          refine rn_ialdV (a := 9) (v := (h.2.2.2 i : Int)) (q := 116) dX1_share_115 rfl (by omega) (by omega) ((q.kept (frS.up (a := 71) (k := 6) (x := (pL mv who w (i + 1))) (frS.up (a := 73) (k := i) (x := (pP mv who w i)) (frS.up (a := 73) (k := i) (x := 0) hf.r8 rfl) rfl) rfl)).pay (by omega)) rfl ?_
          refine rn_imulN (z := pP mv who w i * (h.2.2.2 i : Int)) (q := 117) dX1_share_116 rfl (by unfold am_ok; omega) rfl ?_
          refine rn_iaddN (z := pD mv who w h.2.2.2 (i + 1)) (q := 118) dX1_share_117 (by rw [pD]) (by unfold am_ok; omega) rfl ?_
          refine rn_puti (a := 71) (q := 121) dX1_share_118 fl_X1_74 rfl rfl rfl rfl ?_
          first | (have e0 : pP mv who w i = 0 := (by rw [← eP1]; omega); refine rn_iincN (x := (i : Int)) (z := ((i + 1 : Nat) : Int)) (ls' := [some (.inr (.inr 72)), some (.inr (.inr 6)), some (.inl (who : Int)), some (.inl (pc who : Int)), some (.inl ((i + 1 : Nat) : Int)), l5]) (q := 124) dX1_share_121 rfl (by decide) (by omega) (by unfold am_ok; omega) rfl rfl ?_; refine rn_goto (t := 21) dX1_share_124 rfl ?_; exact hz e0 _) | (refine rn_iincN (x := (i : Int)) (z := ((i + 1 : Nat) : Int)) (ls' := [some (.inr (.inr 72)), some (.inr (.inr 6)), some (.inl (who : Int)), some (.inl (pc who : Int)), some (.inl ((i + 1 : Nat) : Int)), some (.inl (pP mv who w i))]) (q := 124) dX1_share_121 rfl (by decide) (by omega) (by unfold am_ok; omega) rfl rfl ?_; refine rn_goto (t := 21) dX1_share_124 rfl ?_; exact hfin)
      · have e0 : pP mv who w i = 0 := by unfold pP; rw [if_neg hb]
        refine rn_iload (x := (i : Int)) (q := 23) dX1_share_21 rfl rfl ?_
        refine rn_aload_n (x := 5) (q := 24) dX1_share_23 rfl rfl ?_
        refine rn_get (a := 5) (v := .inl (h.1 : Int)) (q := 27) dX1_share_24 fl_X1_38 rfl (am_gi (q.kept hf.r8).n) rfl ?_
        refine rn_cmpge (t := 127) (q := 30) dX1_share_27 rfl rfl (fun h => absurd h (by omega)) (fun w27 => ?_)
        refine rn_aload_n (x := 71) (q := 31) dX1_share_30 rfl rfl ?_
        refine rn_get (a := 71) (v := .inr (.inr 74)) (q := 34) dX1_share_31 fl_X1_15 rfl rfl rfl ?_
        refine rn_iload (x := (i : Int)) (q := 36) dX1_share_34 rfl rfl ?_
        refine rn_iconst (q := 37) dX1_share_36 (am_okd rfl) rfl ?_
        refine rn_iastV (a := 73) (m1 := am_up m 73 i 0) (q := 38) dX1_share_37 rfl (by omega) (by omega) rfl rfl ?_
        refine rn_iload_n (x := (who : Int)) (q := 39) dX1_share_38 rfl rfl ?_
        refine rn_iload (x := (i : Int)) (q := 41) dX1_share_39 rfl rfl ?_
        refine rn_ishr (q := 42) dX1_share_41 rfl ?_
        refine rn_iconst (q := 43) dX1_share_42 (am_okd rfl) rfl ?_
        refine rn_iand (q := 44) dX1_share_43 rfl ?_
        rw [show am_and (am_shr (who : Int) (i : Int)) 1 = 0 from ((am_bit (by omega) (by omega)).trans (if_neg hb))]
        refine rn_ifeq (t := 121) (q := 47) dX1_share_44 rfl rfl (fun w44 => ?_) (fun h => absurd h (by decide))
        refine rn_iincN (x := (i : Int)) (z := ((i + 1 : Nat) : Int)) (ls' := [some (.inr (.inr 72)), some (.inr (.inr 6)), some (.inl (who : Int)), some (.inl (pc who : Int)), some (.inl ((i + 1 : Nat) : Int)), l5]) (q := 124) dX1_share_121 rfl (by decide) (by omega) (by unfold am_ok; omega) rfl rfl ?_
        refine rn_goto (t := 21) dX1_share_124 rfl ?_
        exact hz e0 _
    · obtain rfl : i = h.1 := by omega
      refine rn_iload (x := (h.1 : Int)) (q := 23) dX1_share_21 rfl rfl ?_
      refine rn_aload_n (x := 5) (q := 24) dX1_share_23 rfl rfl ?_
      refine rn_get (a := 5) (v := .inl (h.1 : Int)) (q := 27) dX1_share_24 fl_X1_38 rfl (am_gi (q.kept hf.r8).n) rfl ?_
      refine rn_cmpge (t := 127) (q := 30) dX1_share_27 rfl rfl (fun w27 => ?_) (fun h => absurd h (by omega))
      refine rn_vret dX1_share_127 rfl ?_
      exact hQ _ _ ⟨rfl, hp, h5, h6, h4, hf, hg⟩
  refine rn_iload_n (x := (who : Int)) (q := 1) dX1_share_0 rfl rfl ?_
  refine rn_callS (as := [.inl (who : Int)]) (rest := []) (q := 4) dX1_share_1 ml_X1_66 sm_J6_bitCount_0f7a4 (by omega) rfl rfl (Nat.le_of_ble_eq_true rfl) rfl (s_bitCount (d := d + 0) who (by omega)) ?_
  intro r1 mem1 hq1
  obtain ⟨rfl, rfl⟩ := hq1
  show am_Rn l G _ _ 4 [some (.inr (.inr 72)), some (.inr (.inr 6)), some (.inl (who : Int)), none, none, none] [.inl (pc who : Int)] mem _
  refine rn_istore_n (ls' := [some (.inr (.inr 72)), some (.inr (.inr 6)), some (.inl (who : Int)), some (.inl (pc who : Int)), none, none]) (q := 5) dX1_share_4 (by decide) rfl rfl ?_
  refine rn_aload_n (x := 71) (q := 6) dX1_share_5 rfl rfl ?_
  refine rn_aload_n (x := 71) (q := 7) dX1_share_6 rfl rfl ?_
  refine rn_get (a := 71) (v := .inl w) (q := 10) dX1_share_7 fl_X1_35 rfl (am_gi hwt) rfl ?_
  refine rn_puti (a := 71) (q := 13) dX1_share_10 fl_X1_71 rfl rfl rfl rfl ?_
  refine rn_aload_n (x := 71) (q := 14) dX1_share_13 rfl rfl ?_
  refine rn_iconst (q := 15) dX1_share_14 (am_okd rfl) rfl ?_
  refine rn_puti (a := 71) (q := 18) dX1_share_15 fl_X1_74 rfl rfl rfl rfl ?_
  refine rn_iconst (q := 19) dX1_share_18 (am_okd rfl) rfl ?_
  refine rn_istore (ls' := [some (.inr (.inr 72)), some (.inr (.inr 6)), some (.inl (who : Int)), some (.inl (pc who : Int)), some (.inl 0), none]) (q := 21) dX1_share_19 (by decide) rfl rfl ?_
  exact L 0 (Nat.zero_le _) _ _ (frS.up (a := 71) (k := 5) (x := 0) (frS.up (a := 71) (k := 6) (x := w) frS.rf rfl) rfl) (fun b2 k h1 h2 => by rw [am_up_ne (by simpa using h1), am_up_ne (by simpa using h1)]) (fun j hj => absurd hj (Nat.not_lt_zero _)) rfl rfl hwt
theorem s_place75 (i mo pr : Nat) (hi : i ≤ 8) (hm : mo ≤ 9) (hp : pr ≤ 8) : am_Sm l G yX1_place mt_X1_place d [.inr (.inr 76), .inl (i : Int), .inl (mo : Int), .inl (pr : Int)] mem (am_rr (some (.inl (((i * 10 + mo) * 9 + pr : Nat) : Int))) mem) := by
  refine am_enterQ (ls := [some (.inr (.inr 76)), some (.inl (i : Int)), some (.inl (mo : Int)), some (.inl (pr : Int))]) (by decide) rfl (Nat.le_of_ble_eq_true rfl) rfl (fun hok Q hQ => ?_)
  refine rn_iload_n (x := (i : Int)) (q := 1) dX1_place_0 rfl rfl ?_
  refine rn_aload_n (x := 75) (q := 2) dX1_place_1 rfl rfl ?_
  refine rn_get (a := 75) (v := .inl 10) (q := 5) dX1_place_2 fl_X1_22 rfl rfl rfl ?_
  refine rn_imulN (z := ((i * 10 : Nat) : Int)) (q := 6) dX1_place_5 (by omega) (by unfold am_ok; omega) rfl ?_
  refine rn_iload_n (x := (mo : Int)) (q := 7) dX1_place_6 rfl rfl ?_
  refine rn_iaddN (z := (((i * 10) + mo : Nat) : Int)) (q := 8) dX1_place_7 (by omega) (by unfold am_ok; omega) rfl ?_
  refine rn_bipush (q := 10) dX1_place_8 ⟨by decide, by decide⟩ rfl ?_
  refine rn_imulN (z := ((((i * 10) + mo) * 9 : Nat) : Int)) (q := 11) dX1_place_10 (by omega) (by unfold am_ok; omega) rfl ?_
  refine rn_iload_n (x := (pr : Int)) (q := 12) dX1_place_11 rfl rfl ?_
  refine rn_iaddN (z := (((((i * 10) + mo) * 9) + pr : Nat) : Int)) (q := 13) dX1_place_12 (by omega) (by unfold am_ok; omega) rfl ?_
  refine rn_iret dX1_place_13 rfl ?_
  exact hQ _ _ ⟨rfl, rfl⟩
theorem c_ready75 (q : CQ r X C sn sg h e NB mem) (nt mm : Nat) (hnt : nt < 1000000) (hmm : mm < 10) : am_Sm l G yX1_ready mt_X1_ready (d + 4) [.inr (.inr 76), .inr (.inr 6), .inr (.inr 17), .inl (nt : Int), .inl (mm : Int)] mem (fun q m => q = none ∧ m 75 4 = (sg (nt % sn) : Int) ∧ (∀ i mo pr, i < h.1 → mo ≤ mm → 1 ≤ pr → pr ≤ h.1 → m 78 ((i * 10 + mo) * 9 + pr) = mayV X h (sg (nt % sn)) i (min 99 (eH e i + mo)) nt pr) ∧ frS s8 mem m ∧ ∀ b k, (Nat.ble 71 b && Nat.ble b 83) = true → (b == 75) = false → (b == 78) = false → m b k = mem b k) := by
  refine am_enterQ (ls := [some (.inr (.inr 76)), some (.inr (.inr 6)), some (.inr (.inr 17)), some (.inl (nt : Int)), some (.inl (mm : Int)), none, none, none, none]) (by decide) rfl (Nat.le_of_ble_eq_true rfl) rfl (fun hok Q hQ => ?_)
  have b := q.bd
  have o := am_rul_or q.rul
  have L1 : ∀ i : Nat, i ≤ h.1 → ∀ (m : am_M) (l6 l7 l8 : Option am_V), frS s8 mem m → (∀ b k, (Nat.ble 71 b && Nat.ble b 83) = true → (b == 75) = false → (b == 78) = false → m b k = mem b k) → m 75 4 = (sg (nt % sn) : Int) → (∀ j mo pr, j < i → mo ≤ mm → 1 ≤ pr → pr ≤ h.1 → m 78 ((j * 10 + mo) * 9 + pr) = mayV X h (sg (nt % sn)) j (min 99 (eH e j + mo)) nt pr) → am_Rn l G mt_X1_ready (d + 4) 12 [some (.inr (.inr 76)), some (.inr (.inr 6)), some (.inr (.inr 17)), some (.inl (nt : Int)), some (.inl (mm : Int)), some (.inl (i : Int)), l6, l7, l8] [] m Q := by
    refine am_dn h.1 (fun i hi ih m l6 l7 l8 hf hg h4 hT => ?_)
    have L2 : i < h.1 → ∀ c : Nat, c ≤ mm + 1 → ∀ (m : am_M) (l7 l8 : Option am_V), frS s8 mem m → (∀ b k, (Nat.ble 71 b && Nat.ble b 83) = true → (b == 75) = false → (b == 78) = false → m b k = mem b k) → m 75 4 = (sg (nt % sn) : Int) → (∀ j mo pr, j < i ∨ (j = i ∧ mo < c) → mo ≤ mm → 1 ≤ pr → pr ≤ h.1 → m 78 ((j * 10 + mo) * 9 + pr) = mayV X h (sg (nt % sn)) j (min 99 (eH e j + mo)) nt pr) → am_Rn l G mt_X1_ready (d + 4) 24 [some (.inr (.inr 76)), some (.inr (.inr 6)), some (.inr (.inr 17)), some (.inl (nt : Int)), some (.inl (mm : Int)), some (.inl (i : Int)), some (.inl (c : Int)), l7, l8] [] m Q := by
      intro hlt
      refine am_dn (mm + 1) (fun c hc ih2 m l7 l8 hf hg h4 hT => ?_)
      have h9 := q.hd9 i
      have L3 : c < mm + 1 → ∀ p : Nat, p ≤ h.1 + 1 → 1 ≤ p → ∀ (m : am_M), frS s8 mem m → (∀ b k, (Nat.ble 71 b && Nat.ble b 83) = true → (b == 75) = false → (b == 78) = false → m b k = mem b k) → m 75 4 = (sg (nt % sn) : Int) → (∀ j mo pr, j < i ∨ (j = i ∧ mo < c) ∨ (j = i ∧ mo = c ∧ pr < p) → mo ≤ mm → 1 ≤ pr → pr ≤ h.1 → m 78 ((j * 10 + mo) * 9 + pr) = mayV X h (sg (nt % sn)) j (min 99 (eH e j + mo)) nt pr) → am_Rn l G mt_X1_ready (d + 4) 60 [some (.inr (.inr 76)), some (.inr (.inr 6)), some (.inr (.inr 17)), some (.inl (nt : Int)), some (.inl (mm : Int)), some (.inl (i : Int)), some (.inl (c : Int)), some (.inl ((min 99 (eH e i + c) : Nat) : Int)), some (.inl (p : Int))] [] m Q := by
        intro hcl
        refine am_dn (h.1 + 1) (fun p hp ih3 h1 m hf hg h4 hT => ?_)
        have hqm := q.kept hf.r8
        refine rn_iload (x := (p : Int)) (q := 62) dX1_ready_60 rfl rfl ?_
        refine rn_aload_n (x := 5) (q := 63) dX1_ready_62 rfl rfl ?_
        refine rn_get (a := 5) (v := .inl (h.1 : Int)) (q := 66) dX1_ready_63 fl_X1_38 rfl (am_gi (q.kept hf.r8).n) rfl ?_
        refine rn_cmpgt (t := 105) (q := 69) dX1_ready_66 rfl rfl (fun w66 => ?_) (fun w66 => ?_)
        · refine rn_iincN (x := (c : Int)) (z := ((c + 1 : Nat) : Int)) (ls' := [some (.inr (.inr 76)), some (.inr (.inr 6)), some (.inr (.inr 17)), some (.inl (nt : Int)), some (.inl (mm : Int)), some (.inl (i : Int)), some (.inl ((c + 1 : Nat) : Int)), some (.inl ((min 99 (eH e i + c) : Nat) : Int)), some (.inl (p : Int))]) (q := 108) dX1_ready_105 rfl (by decide) (by omega) (by unfold am_ok; omega) rfl rfl ?_
          refine rn_goto (t := 24) dX1_ready_108 rfl ?_
          exact ih2 hcl m _ _ hf hg h4 (fun j mo pr hj a1 a2 a3 => hT j mo pr (by omega) a1 a2 a3)
        · refine rn_aload_n (x := 75) (q := 70) dX1_ready_69 rfl rfl ?_
          refine rn_get (a := 75) (v := .inr (.inr 79)) (q := 73) dX1_ready_70 fl_X1_26 rfl rfl rfl ?_
          refine rn_aload_n (x := 75) (q := 74) dX1_ready_73 rfl rfl ?_
          refine rn_iload (x := (i : Int)) (q := 76) dX1_ready_74 rfl rfl ?_
          refine rn_iload (x := (c : Int)) (q := 78) dX1_ready_76 rfl rfl ?_
          refine rn_iload (x := (p : Int)) (q := 80) dX1_ready_78 rfl rfl ?_
          refine rn_callV (b := 75) (as := [.inl (i : Int), .inl (c : Int), .inl (p : Int)]) (rest := [.inr (.inr 79)]) (q := 83) dX1_ready_80 ml_X1_52 sm_X1_place rfl rfl (by decide) (by omega) rfl rfl (Nat.le_of_ble_eq_true rfl) rfl (s_place75 (d := d + 3) i c p (by omega) (by omega) (by omega)) ?_
          intro r80 mem80 hq80
          obtain ⟨rfl, rfl⟩ := hq80
          show am_Rn l G _ _ 83 [some (.inr (.inr 76)), some (.inr (.inr 6)), some (.inr (.inr 17)), some (.inl (nt : Int)), some (.inl (mm : Int)), some (.inl (i : Int)), some (.inl (c : Int)), some (.inl ((min 99 (eH e i + c) : Nat) : Int)), some (.inl (p : Int))] [.inl (((i * 10 + c) * 9 + p : Nat) : Int), .inr (.inr 79)] m _
          refine rn_aload_n (x := 5) (q := 84) dX1_ready_83 rfl rfl ?_
          refine rn_aload_n (x := 5) (q := 85) dX1_ready_84 rfl rfl ?_
          refine rn_get (a := 5) (v := .inr (.inr (r + 1))) (q := 88) dX1_ready_85 fl_X1_55 rfl (show Sum.inr (Sum.inr (m 5 7).toNat) = _ by rw [(q.kept hf.r8).rl]; rfl) rfl ?_
          refine rn_iload_n (x := (nt : Int)) (q := 89) dX1_ready_88 rfl rfl ?_
          refine rn_iload (x := (i : Int)) (q := 91) dX1_ready_89 rfl rfl ?_
          refine rn_iload (x := ((min 99 (eH e i + c) : Nat) : Int)) (q := 93) dX1_ready_91 rfl rfl ?_
          refine rn_iload (x := (p : Int)) (q := 95) dX1_ready_93 rfl rfl ?_
          refine rn_callV (b := 5) (as := [.inr (.inr (r + 1)), .inl (nt : Int), .inl (i : Int), .inl ((min 99 (eH e i + c) : Nat) : Int), .inl (p : Int)]) (rest := [.inl (((i * 10 + c) * 9 + p : Nat) : Int), .inr (.inr 79)]) (q := 98) dX1_ready_95 ml_X1_59 sm_X6_may rfl rfl (by decide) (by omega) rfl rfl (Nat.le_of_ble_eq_true rfl) rfl (s_may8 (d := d + 0) q.rul q.ok hqm.cd hqm.sng hqm.hs nt i (min 99 (eH e i + c)) p hnt hlt (by omega)) ?_
          intro r95 mem95 hq95
          obtain ⟨rfl, hf95⟩ := hq95
          show am_Rn l G _ _ 98 [some (.inr (.inr 76)), some (.inr (.inr 6)), some (.inr (.inr 17)), some (.inl (nt : Int)), some (.inl (mm : Int)), some (.inl (i : Int)), some (.inl (c : Int)), some (.inl ((min 99 (eH e i + c) : Nat) : Int)), some (.inl (p : Int))] [.inl (mayV X h (sg (nt % sn)) i (min 99 (eH e i + c)) nt p), .inl (((i * 10 + c) * 9 + p : Nat) : Int), .inr (.inr 79)] mem95 _
          refine rn_iastV (a := 78) (m1 := am_up mem95 78 ((i * 10 + c) * 9 + p) (mayV X h (sg (nt % sn)) i (min 99 (eH e i + c)) nt p)) (q := 99) dX1_ready_98 rfl (by omega) (by omega) rfl rfl ?_
          refine rn_iincN (x := (p : Int)) (z := ((p + 1 : Nat) : Int)) (ls' := [some (.inr (.inr 76)), some (.inr (.inr 6)), some (.inr (.inr 17)), some (.inl (nt : Int)), some (.inl (mm : Int)), some (.inl (i : Int)), some (.inl (c : Int)), some (.inl ((min 99 (eH e i + c) : Nat) : Int)), some (.inl ((p + 1 : Nat) : Int))]) (q := 102) dX1_ready_99 rfl (by decide) (by omega) (by unfold am_ok; omega) rfl rfl ?_
          refine rn_goto (t := 60) dX1_ready_102 rfl ?_
          have f8 : frS s8 m mem95 := fun b k hb => by
            unfold s8 at hb
            simp [ble_f] at hb
            rw [hf95 b (by omega) (by omega)]
          refine ih3 (by omega) (by omega) _ ((hf.tr f8).up rfl) (fun b2 k hb h1 h2 => ?_) ?_ (fun j mo pr hj a1 a2 a3 => ?_)
          · rw [am_up_ne (by simpa using h2)]
            have hb' := hb
            have h1' := h1
            have h2' := h2
            simp at hb' h1' h2'
            rw [hf95 b2 (by omega) (by omega)]
            exact hg b2 k hb h1 h2
          · show mem95 75 4 = _
            rw [hf95 75 (by omega) (by omega)]; exact h4
          · rw [am_up_at]
            by_cases ej : (j * 10 + mo) * 9 + pr = (i * 10 + c) * 9 + p
            · obtain ⟨rfl, rfl, rfl⟩ : j = i ∧ mo = c ∧ pr = p := by omega
              rw [if_pos rfl]
            · rw [if_neg ej, hf95 78 (by omega) (by omega)]
              exact hT j mo pr (by omega) a1 a2 a3
      refine rn_iload (x := (c : Int)) (q := 26) dX1_ready_24 rfl rfl ?_
      refine rn_iload (x := (mm : Int)) (q := 28) dX1_ready_26 rfl rfl ?_
      refine rn_cmpgt (t := 111) (q := 31) dX1_ready_28 rfl rfl (fun w28 => ?_) (fun w28 => ?_)
      · refine rn_iincN (x := (i : Int)) (z := ((i + 1 : Nat) : Int)) (ls' := [some (.inr (.inr 76)), some (.inr (.inr 6)), some (.inr (.inr 17)), some (.inl (nt : Int)), some (.inl (mm : Int)), some (.inl ((i + 1 : Nat) : Int)), some (.inl (c : Int)), l7, l8]) (q := 114) dX1_ready_111 rfl (by decide) (by omega) (by unfold am_ok; omega) rfl rfl ?_
        refine rn_goto (t := 12) dX1_ready_114 rfl ?_
        exact ih hlt m _ _ _ hf hg h4 (fun j mo pr hj a1 a2 a3 => hT j mo pr (by omega) a1 a2 a3)
      · refine rn_iload (x := (c : Int)) (q := 33) dX1_ready_31 rfl rfl ?_
        refine rn_aload_n (x := 75) (q := 34) dX1_ready_33 rfl rfl ?_
        refine rn_get (a := 75) (v := .inl 10) (q := 37) dX1_ready_34 fl_X1_22 rfl rfl rfl ?_
        refine rn_cmpge (t := 111) (q := 40) dX1_ready_37 rfl rfl (fun w37 => ?_) (fun w37 => ?_)
        · refine rn_iincN (x := (i : Int)) (z := ((i + 1 : Nat) : Int)) (ls' := [some (.inr (.inr 76)), some (.inr (.inr 6)), some (.inr (.inr 17)), some (.inl (nt : Int)), some (.inl (mm : Int)), some (.inl ((i + 1 : Nat) : Int)), some (.inl (c : Int)), l7, l8]) (q := 114) dX1_ready_111 rfl (by decide) (by omega) (by unfold am_ok; omega) rfl rfl ?_
          refine rn_goto (t := 12) dX1_ready_114 rfl ?_
          exact ih hlt m _ _ _ hf hg h4 (fun j mo pr hj a1 a2 a3 => hT j mo pr (by omega) a1 a2 a3)
        · refine rn_bipush (q := 42) dX1_ready_40 ⟨by decide, by decide⟩ rfl ?_
          refine rn_aload_n (x := 16) (q := 43) dX1_ready_42 rfl rfl ?_
          refine rn_get (a := 16) (v := .inr (.inr 18)) (q := 46) dX1_ready_43 fl_X1_41 rfl rfl rfl ?_
          refine rn_iload (x := (i : Int)) (q := 48) dX1_ready_46 rfl rfl ?_
          refine rn_ialdV (a := 17) (v := (eH e i : Int)) (q := 49) dX1_ready_48 rfl (by omega) (by omega) ((q.kept hf.r8).hd (by omega)) rfl ?_
          refine rn_iload (x := (c : Int)) (q := 51) dX1_ready_49 rfl rfl ?_
          refine rn_iaddN (z := (((eH e i) + c : Nat) : Int)) (q := 52) dX1_ready_51 (by omega) (by unfold am_ok; omega) rfl ?_
          refine rn_mmin (q := 55) dX1_ready_52 am_mm_X1_46 am_mminw (Nat.le_of_ble_eq_true rfl) rfl ?_
          rw [show (min 99 (((eH e i) + c : Nat) : Int)) = ((min 99 (eH e i + c) : Nat) : Int) from (by omega)]
          refine rn_istore (ls' := [some (.inr (.inr 76)), some (.inr (.inr 6)), some (.inr (.inr 17)), some (.inl (nt : Int)), some (.inl (mm : Int)), some (.inl (i : Int)), some (.inl (c : Int)), some (.inl ((min 99 (eH e i + c) : Nat) : Int)), l8]) (q := 57) dX1_ready_55 (by decide) rfl rfl ?_
          refine rn_iconst (q := 58) dX1_ready_57 (am_okd rfl) rfl ?_
          refine rn_istore (ls' := [some (.inr (.inr 76)), some (.inr (.inr 6)), some (.inr (.inr 17)), some (.inl (nt : Int)), some (.inl (mm : Int)), some (.inl (i : Int)), some (.inl (c : Int)), some (.inl ((min 99 (eH e i + c) : Nat) : Int)), some (.inl 1)]) (q := 60) dX1_ready_58 (by decide) rfl rfl ?_
          exact L3 (by omega) 1 (by omega) (by omega) m hf hg h4 (fun j mo pr hj a1 a2 a3 => hT j mo pr (by omega) a1 a2 a3)
    refine rn_iload (x := (i : Int)) (q := 14) dX1_ready_12 rfl rfl ?_
    refine rn_aload_n (x := 5) (q := 15) dX1_ready_14 rfl rfl ?_
    refine rn_get (a := 5) (v := .inl (h.1 : Int)) (q := 18) dX1_ready_15 fl_X1_38 rfl (am_gi (q.kept hf.r8).n) rfl ?_
    refine rn_cmpge (t := 117) (q := 21) dX1_ready_18 rfl rfl (fun w18 => ?_) (fun w18 => ?_)
    · refine rn_vret dX1_ready_117 rfl ?_
      exact hQ _ _ ⟨rfl, h4, fun j mo pr a0 a1 a2 a3 => hT j mo pr (by omega) a1 a2 a3, hf, hg⟩
    · refine rn_iconst (q := 22) dX1_ready_21 (am_okd rfl) rfl ?_
      refine rn_istore (ls' := [some (.inr (.inr 76)), some (.inr (.inr 6)), some (.inr (.inr 17)), some (.inl (nt : Int)), some (.inl (mm : Int)), some (.inl (i : Int)), some (.inl 0), l7, l8]) (q := 24) dX1_ready_22 (by decide) rfl rfl ?_
      exact L2 (by omega) 0 (by omega) m _ _ hf hg h4 (fun j mo pr hj a1 a2 a3 => hT j mo pr (by omega) a1 a2 a3)
  refine rn_aload_n (x := 75) (q := 1) dX1_ready_0 rfl rfl ?_
  refine rn_aload_n (x := 5) (q := 2) dX1_ready_1 rfl rfl ?_
  refine rn_iload_n (x := (nt : Int)) (q := 3) dX1_ready_2 rfl rfl ?_
  refine rn_callV (b := 5) (as := [.inl (nt : Int)]) (rest := [.inr (.inr 76)]) (q := 6) dX1_ready_3 ml_X1_29 sm_X6_songOn rfl rfl (by decide) (by omega) rfl rfl (Nat.le_of_ble_eq_true rfl) rfl (c_songOn (d := d + 3) q nt (by omega)) ?_
  intro r3 mem3 hq3
  obtain ⟨rfl, rfl⟩ := hq3
  show am_Rn l G _ _ 6 [some (.inr (.inr 76)), some (.inr (.inr 6)), some (.inr (.inr 17)), some (.inl (nt : Int)), some (.inl (mm : Int)), none, none, none, none] [.inl (sg (nt % sn) : Int), .inr (.inr 76)] mem _
  refine rn_puti (a := 75) (q := 9) dX1_ready_6 fl_X1_35 rfl rfl rfl rfl ?_
  refine rn_iconst (q := 10) dX1_ready_9 (am_okd rfl) rfl ?_
  refine rn_istore (ls' := [some (.inr (.inr 76)), some (.inr (.inr 6)), some (.inr (.inr 17)), some (.inl (nt : Int)), some (.inl (mm : Int)), some (.inl 0), none, none, none]) (q := 12) dX1_ready_10 (by decide) rfl rfl ?_
  exact L1 0 (Nat.zero_le _) _ _ _ _ (frS.rf.up rfl) (fun b2 k hb h1 h2 => by rw [am_up_ne (by simpa using h1)]) am_up_self (fun j mo pr a0 => absurd a0 (Nat.not_lt_zero _))
theorem c_share75 (q : CQ r X C sn sg h e NB mem) (who : Nat) (hw : who < 256) {mo : Nat → Nat} (hmo : ∀ i, i < h.1 → mem 76 i = (mo i : Int) ∧ mo i < 10) {mv : Nat → Int} (hmv : ∀ i, i < h.1 → who.testBit i = true → mem 78 ((i * 10 + mo i) * 9 + pc who) = mv i) (hmn : ∀ i, 0 ≤ mv i) {w : Int} (hwt : mem 75 4 = w) (hw9 : 0 ≤ w ∧ w ≤ 9) : am_Sm l G yX1_share mt_X1_share (d + 1) [.inr (.inr 76), .inr (.inr 6), .inl (who : Int)] mem (fun q m => q = none ∧ (∀ j, j < h.1 → m 77 j = pP mv who w j) ∧ m 75 5 = pD mv who w h.2.2.2 h.1 ∧ m 75 6 = pL mv who w h.1 ∧ m 75 4 = w ∧ frS s8 mem m ∧ ∀ b k, (b == 75) = false → (b == 77) = false → m b k = mem b k) := by
  refine am_enterQ (ls := [some (.inr (.inr 76)), some (.inr (.inr 6)), some (.inl (who : Int)), none, none, none]) (by decide) rfl (Nat.le_of_ble_eq_true rfl) rfl (fun hok Q hQ => ?_)
  have b := q.bd
  have pc8 := pc_le8 who hw
  have L : ∀ i : Nat, i ≤ h.1 → ∀ (m : am_M) (l5 : Option am_V), frS s8 mem m → (∀ b k, (b == 75) = false → (b == 77) = false → m b k = mem b k) → (∀ j, j < i → m 77 j = pP mv who w j) → m 75 5 = pD mv who w h.2.2.2 i → m 75 6 = pL mv who w i → m 75 4 = w → am_Rn l G mt_X1_share (d + 1) 21 [some (.inr (.inr 76)), some (.inr (.inr 6)), some (.inl (who : Int)), some (.inl (pc who : Int)), some (.inl (i : Int)), l5] [] m Q := by
    refine am_dn h.1 (fun i hi ih m l5 hf hg hp h5 h6 h4 => ?_)
    have hLk := pL_ok (mk := who) hmn hw9 i
    have hPk := pP_ok (mk := who) hmn hw9 i
    have hDk := pD_ok (mk := who) hmn hw9 q.hs.1.2.2.2 i
    have hmi := hmn i
    have hpy := q.pa9 i
    by_cases hin : i < h.1
    · have hmoi := hmo i hin
      have hmu : 0 ≤ pP mv who w i * (h.2.2.2 i : Int) ∧ pP mv who w i * (h.2.2.2 i : Int) ≤ 81 := ⟨Int.mul_nonneg hPk.1 (by omega), by have := Int.mul_le_mul hPk.2 (show (h.2.2.2 i : Int) ≤ 9 by omega) (by omega) (by omega); omega⟩
      have hz : pP mv who w i = 0 → ∀ l5, am_Rn l G mt_X1_share (d + 1) 21 [some (.inr (.inr 76)), some (.inr (.inr 6)), some (.inl (who : Int)), some (.inl (pc who : Int)), some (.inl ((i + 1 : Nat) : Int)), l5] [] (am_up m 77 i 0) Q := by
        intro e0 l5
        refine ih hin _ _ (hf.up rfl) (fun b2 k h1 h2 => ?_) (fun j hj => ?_) ?_ ?_ h4
        · rw [am_up_ne (by simpa using h2)]; exact hg b2 k h1 h2
        · rw [am_up_at]
          by_cases e1 : j = i
          · rw [if_pos e1, e1, e0]
          · rw [if_neg e1]; exact hp j (by omega)
        · show m 75 5 = _
          rw [h5, pD, e0]; omega
        · show m 75 6 = _
          rw [h6, pL]; change _ = _ - pP mv who w i; rw [e0]; omega
      have hfin : am_Rn l G mt_X1_share (d + 1) 21 [some (.inr (.inr 76)), some (.inr (.inr 6)), some (.inl (who : Int)), some (.inl (pc who : Int)), some (.inl ((i + 1 : Nat) : Int)), some (.inl (pP mv who w i))] [] (am_up (am_up (am_up (am_up m 77 i 0) 77 i (pP mv who w i)) 75 6 (pL mv who w (i + 1))) 75 5 (pD mv who w h.2.2.2 (i + 1))) Q := by
        refine ih hin _ _ ((((hf.up rfl).up rfl).up rfl).up rfl) (fun b2 k h1 h2 => ?_) (fun j hj => ?_) rfl rfl h4
        · rw [am_up_ne (by simpa using h1), am_up_ne (by simpa using h1), am_up_ne (by simpa using h2), am_up_ne (by simpa using h2)]; exact hg b2 k h1 h2
        · show am_up (am_up m 77 i 0) 77 i (pP mv who w i) 77 j = _
          rw [am_up_at]
          by_cases e1 : j = i
          · rw [if_pos e1, e1]
          · rw [if_neg e1, am_up_neq e1]; exact hp j (by omega)
      by_cases hb : who.testBit i = true
      · have hmvi := hmv i hin hb
        have eP1 : min (pL mv who w i) (mv i) = pP mv who w i := by unfold pP; rw [if_pos hb]
        refine rn_iload (x := (i : Int)) (q := 23) dX1_share_21 rfl rfl ?_
        refine rn_aload_n (x := 5) (q := 24) dX1_share_23 rfl rfl ?_
        refine rn_get (a := 5) (v := .inl (h.1 : Int)) (q := 27) dX1_share_24 fl_X1_38 rfl (am_gi (q.kept hf.r8).n) rfl ?_
        refine rn_cmpge (t := 127) (q := 30) dX1_share_27 rfl rfl (fun h => absurd h (by omega)) (fun w27 => ?_)
        refine rn_aload_n (x := 75) (q := 31) dX1_share_30 rfl rfl ?_
        refine rn_get (a := 75) (v := .inr (.inr 78)) (q := 34) dX1_share_31 fl_X1_15 rfl rfl rfl ?_
        refine rn_iload (x := (i : Int)) (q := 36) dX1_share_34 rfl rfl ?_
        refine rn_iconst (q := 37) dX1_share_36 (am_okd rfl) rfl ?_
        refine rn_iastV (a := 77) (m1 := am_up m 77 i 0) (q := 38) dX1_share_37 rfl (by omega) (by omega) rfl rfl ?_
        refine rn_iload_n (x := (who : Int)) (q := 39) dX1_share_38 rfl rfl ?_
        refine rn_iload (x := (i : Int)) (q := 41) dX1_share_39 rfl rfl ?_
        refine rn_ishr (q := 42) dX1_share_41 rfl ?_
        refine rn_iconst (q := 43) dX1_share_42 (am_okd rfl) rfl ?_
        refine rn_iand (q := 44) dX1_share_43 rfl ?_
        rw [show am_and (am_shr (who : Int) (i : Int)) 1 = 1 from ((am_bit (by omega) (by omega)).trans (if_pos hb))]
        refine rn_ifeq (t := 121) (q := 47) dX1_share_44 rfl rfl (fun h => absurd h (by decide)) (fun w44 => ?_)
        refine rn_aload_n (x := 75) (q := 48) dX1_share_47 rfl rfl ?_
        refine rn_get (a := 75) (v := .inl (pL mv who w i)) (q := 51) dX1_share_48 fl_X1_71 rfl (am_gi h6) rfl ?_
        refine rn_ifle (t := 121) (q := 54) dX1_share_51 rfl rfl (fun w51 => ?_) (fun w51 => ?_)
        · first | (have e0 : pP mv who w i = 0 := (by rw [← eP1]; omega); refine rn_iincN (x := (i : Int)) (z := ((i + 1 : Nat) : Int)) (ls' := [some (.inr (.inr 76)), some (.inr (.inr 6)), some (.inl (who : Int)), some (.inl (pc who : Int)), some (.inl ((i + 1 : Nat) : Int)), l5]) (q := 124) dX1_share_121 rfl (by decide) (by omega) (by unfold am_ok; omega) rfl rfl ?_; refine rn_goto (t := 21) dX1_share_124 rfl ?_; exact hz e0 _) | (refine rn_iincN (x := (i : Int)) (z := ((i + 1 : Nat) : Int)) (ls' := [some (.inr (.inr 76)), some (.inr (.inr 6)), some (.inl (who : Int)), some (.inl (pc who : Int)), some (.inl ((i + 1 : Nat) : Int)), some (.inl (pP mv who w i))]) (q := 124) dX1_share_121 rfl (by decide) (by omega) (by unfold am_ok; omega) rfl rfl ?_; refine rn_goto (t := 21) dX1_share_124 rfl ?_; exact hfin)
        · refine rn_aload_n (x := 75) (q := 55) dX1_share_54 rfl rfl ?_
          refine rn_get (a := 75) (v := .inl (pL mv who w i)) (q := 58) dX1_share_55 fl_X1_71 rfl (am_gi h6) rfl ?_
          refine rn_aload_n (x := 75) (q := 59) dX1_share_58 rfl rfl ?_
          refine rn_get (a := 75) (v := .inr (.inr 79)) (q := 62) dX1_share_59 fl_X1_26 rfl rfl rfl ?_
          refine rn_aload_n (x := 75) (q := 63) dX1_share_62 rfl rfl ?_
          refine rn_iload (x := (i : Int)) (q := 65) dX1_share_63 rfl rfl ?_
          refine rn_aload_n (x := 75) (q := 66) dX1_share_65 rfl rfl ?_
          refine rn_get (a := 75) (v := .inr (.inr 77)) (q := 69) dX1_share_66 fl_X1_9 rfl rfl rfl ?_
          refine rn_iload (x := (i : Int)) (q := 71) dX1_share_69 rfl rfl ?_
          refine rn_ialdV (a := 76) (v := (mo i : Int)) (q := 72) dX1_share_71 rfl (by omega) (by omega) ((hg 76 i rfl rfl).trans hmoi.1) rfl ?_
          refine rn_iload_n (x := (pc who : Int)) (q := 73) dX1_share_72 rfl rfl ?_
          refine rn_callV (b := 75) (as := [.inl (i : Int), .inl (mo i : Int), .inl (pc who : Int)]) (rest := [.inr (.inr 79), .inl (pL mv who w i)]) (q := 76) dX1_share_73 ml_X1_52 sm_X1_place rfl rfl (by decide) (by omega) rfl rfl (Nat.le_of_ble_eq_true rfl) rfl (s_place75 (d := d + 0) i (mo i) (pc who) (by omega) (by omega) (by omega)) ?_
          intro r73 mem73 hq73
          obtain ⟨rfl, rfl⟩ := hq73
          show am_Rn l G _ _ 76 [some (.inr (.inr 76)), some (.inr (.inr 6)), some (.inl (who : Int)), some (.inl (pc who : Int)), some (.inl (i : Int)), l5] [.inl (((i * 10 + mo i) * 9 + pc who : Nat) : Int), .inr (.inr 79), .inl (pL mv who w i)] (am_up m 77 i 0) _
          refine rn_ialdV (a := 78) (v := mv i) (q := 77) dX1_share_76 rfl (by omega) (by omega) ((hg 78 _ rfl rfl).trans hmvi) rfl ?_
          refine rn_mmin (q := 80) dX1_share_77 am_mm_X1_46 am_mminw (Nat.le_of_ble_eq_true rfl) rfl ?_
          rw [show (min (pL mv who w i) (mv i)) = pP mv who w i from eP1]
          refine rn_istore (ls' := [some (.inr (.inr 76)), some (.inr (.inr 6)), some (.inl (who : Int)), some (.inl (pc who : Int)), some (.inl (i : Int)), some (.inl (pP mv who w i))]) (q := 82) dX1_share_80 (by decide) rfl rfl ?_
          refine rn_aload_n (x := 75) (q := 83) dX1_share_82 rfl rfl ?_
          refine rn_get (a := 75) (v := .inr (.inr 78)) (q := 86) dX1_share_83 fl_X1_15 rfl rfl rfl ?_
          refine rn_iload (x := (i : Int)) (q := 88) dX1_share_86 rfl rfl ?_
          refine rn_iload (x := pP mv who w i) (q := 90) dX1_share_88 rfl rfl ?_
          refine rn_iastV (a := 77) (m1 := am_up (am_up m 77 i 0) 77 i (pP mv who w i)) (q := 91) dX1_share_90 rfl (by omega) (by omega) rfl rfl ?_
          refine rn_aload_n (x := 75) (q := 92) dX1_share_91 rfl rfl ?_
          refine rn_dup (q := 93) dX1_share_92 rfl rfl ?_
          refine rn_get (a := 75) (v := .inl (pL mv who w i)) (q := 96) dX1_share_93 fl_X1_71 rfl (am_gi h6) rfl ?_
          refine rn_iload (x := pP mv who w i) (q := 98) dX1_share_96 rfl rfl ?_
          refine rn_isubN (z := pL mv who w (i + 1)) (q := 99) dX1_share_98 (by rw [pL, pP]) (by unfold am_ok; omega) rfl ?_
          refine rn_puti (a := 75) (q := 102) dX1_share_99 fl_X1_71 rfl rfl rfl rfl ?_
          refine rn_aload_n (x := 75) (q := 103) dX1_share_102 rfl rfl ?_
          refine rn_dup (q := 104) dX1_share_103 rfl rfl ?_
          refine rn_get (a := 75) (v := .inl (pD mv who w h.2.2.2 i)) (q := 107) dX1_share_104 fl_X1_74 rfl (am_gi h5) rfl ?_
          refine rn_iload (x := pP mv who w i) (q := 109) dX1_share_107 rfl rfl ?_
          refine rn_aload_n (x := 5) (q := 110) dX1_share_109 rfl rfl ?_
          refine rn_get (a := 5) (v := .inr (.inr 10)) (q := 113) dX1_share_110 fl_X1_77 rfl rfl rfl ?_
          refine rn_iload (x := (i : Int)) (q := 115) dX1_share_113 rfl rfl ?_
          refine rn_ialdV (a := 9) (v := (h.2.2.2 i : Int)) (q := 116) dX1_share_115 rfl (by omega) (by omega) ((q.kept (frS.up (a := 75) (k := 6) (x := (pL mv who w (i + 1))) (frS.up (a := 77) (k := i) (x := (pP mv who w i)) (frS.up (a := 77) (k := i) (x := 0) hf.r8 rfl) rfl) rfl)).pay (by omega)) rfl ?_
          refine rn_imulN (z := pP mv who w i * (h.2.2.2 i : Int)) (q := 117) dX1_share_116 rfl (by unfold am_ok; omega) rfl ?_
          refine rn_iaddN (z := pD mv who w h.2.2.2 (i + 1)) (q := 118) dX1_share_117 (by rw [pD]) (by unfold am_ok; omega) rfl ?_
          refine rn_puti (a := 75) (q := 121) dX1_share_118 fl_X1_74 rfl rfl rfl rfl ?_
          first | (have e0 : pP mv who w i = 0 := (by rw [← eP1]; omega); refine rn_iincN (x := (i : Int)) (z := ((i + 1 : Nat) : Int)) (ls' := [some (.inr (.inr 76)), some (.inr (.inr 6)), some (.inl (who : Int)), some (.inl (pc who : Int)), some (.inl ((i + 1 : Nat) : Int)), l5]) (q := 124) dX1_share_121 rfl (by decide) (by omega) (by unfold am_ok; omega) rfl rfl ?_; refine rn_goto (t := 21) dX1_share_124 rfl ?_; exact hz e0 _) | (refine rn_iincN (x := (i : Int)) (z := ((i + 1 : Nat) : Int)) (ls' := [some (.inr (.inr 76)), some (.inr (.inr 6)), some (.inl (who : Int)), some (.inl (pc who : Int)), some (.inl ((i + 1 : Nat) : Int)), some (.inl (pP mv who w i))]) (q := 124) dX1_share_121 rfl (by decide) (by omega) (by unfold am_ok; omega) rfl rfl ?_; refine rn_goto (t := 21) dX1_share_124 rfl ?_; exact hfin)
      · have e0 : pP mv who w i = 0 := by unfold pP; rw [if_neg hb]
        refine rn_iload (x := (i : Int)) (q := 23) dX1_share_21 rfl rfl ?_
        refine rn_aload_n (x := 5) (q := 24) dX1_share_23 rfl rfl ?_
        refine rn_get (a := 5) (v := .inl (h.1 : Int)) (q := 27) dX1_share_24 fl_X1_38 rfl (am_gi (q.kept hf.r8).n) rfl ?_
        refine rn_cmpge (t := 127) (q := 30) dX1_share_27 rfl rfl (fun h => absurd h (by omega)) (fun w27 => ?_)
        refine rn_aload_n (x := 75) (q := 31) dX1_share_30 rfl rfl ?_
        refine rn_get (a := 75) (v := .inr (.inr 78)) (q := 34) dX1_share_31 fl_X1_15 rfl rfl rfl ?_
        refine rn_iload (x := (i : Int)) (q := 36) dX1_share_34 rfl rfl ?_
        refine rn_iconst (q := 37) dX1_share_36 (am_okd rfl) rfl ?_
        refine rn_iastV (a := 77) (m1 := am_up m 77 i 0) (q := 38) dX1_share_37 rfl (by omega) (by omega) rfl rfl ?_
        refine rn_iload_n (x := (who : Int)) (q := 39) dX1_share_38 rfl rfl ?_
        refine rn_iload (x := (i : Int)) (q := 41) dX1_share_39 rfl rfl ?_
        refine rn_ishr (q := 42) dX1_share_41 rfl ?_
        refine rn_iconst (q := 43) dX1_share_42 (am_okd rfl) rfl ?_
        refine rn_iand (q := 44) dX1_share_43 rfl ?_
        rw [show am_and (am_shr (who : Int) (i : Int)) 1 = 0 from ((am_bit (by omega) (by omega)).trans (if_neg hb))]
        refine rn_ifeq (t := 121) (q := 47) dX1_share_44 rfl rfl (fun w44 => ?_) (fun h => absurd h (by decide))
        refine rn_iincN (x := (i : Int)) (z := ((i + 1 : Nat) : Int)) (ls' := [some (.inr (.inr 76)), some (.inr (.inr 6)), some (.inl (who : Int)), some (.inl (pc who : Int)), some (.inl ((i + 1 : Nat) : Int)), l5]) (q := 124) dX1_share_121 rfl (by decide) (by omega) (by unfold am_ok; omega) rfl rfl ?_
        refine rn_goto (t := 21) dX1_share_124 rfl ?_
        exact hz e0 _
    · obtain rfl : i = h.1 := by omega
      refine rn_iload (x := (h.1 : Int)) (q := 23) dX1_share_21 rfl rfl ?_
      refine rn_aload_n (x := 5) (q := 24) dX1_share_23 rfl rfl ?_
      refine rn_get (a := 5) (v := .inl (h.1 : Int)) (q := 27) dX1_share_24 fl_X1_38 rfl (am_gi (q.kept hf.r8).n) rfl ?_
      refine rn_cmpge (t := 127) (q := 30) dX1_share_27 rfl rfl (fun w27 => ?_) (fun h => absurd h (by omega))
      refine rn_vret dX1_share_127 rfl ?_
      exact hQ _ _ ⟨rfl, hp, h5, h6, h4, hf, hg⟩
  refine rn_iload_n (x := (who : Int)) (q := 1) dX1_share_0 rfl rfl ?_
  refine rn_callS (as := [.inl (who : Int)]) (rest := []) (q := 4) dX1_share_1 ml_X1_66 sm_J6_bitCount_0f7a4 (by omega) rfl rfl (Nat.le_of_ble_eq_true rfl) rfl (s_bitCount (d := d + 0) who (by omega)) ?_
  intro r1 mem1 hq1
  obtain ⟨rfl, rfl⟩ := hq1
  show am_Rn l G _ _ 4 [some (.inr (.inr 76)), some (.inr (.inr 6)), some (.inl (who : Int)), none, none, none] [.inl (pc who : Int)] mem _
  refine rn_istore_n (ls' := [some (.inr (.inr 76)), some (.inr (.inr 6)), some (.inl (who : Int)), some (.inl (pc who : Int)), none, none]) (q := 5) dX1_share_4 (by decide) rfl rfl ?_
  refine rn_aload_n (x := 75) (q := 6) dX1_share_5 rfl rfl ?_
  refine rn_aload_n (x := 75) (q := 7) dX1_share_6 rfl rfl ?_
  refine rn_get (a := 75) (v := .inl w) (q := 10) dX1_share_7 fl_X1_35 rfl (am_gi hwt) rfl ?_
  refine rn_puti (a := 75) (q := 13) dX1_share_10 fl_X1_71 rfl rfl rfl rfl ?_
  refine rn_aload_n (x := 75) (q := 14) dX1_share_13 rfl rfl ?_
  refine rn_iconst (q := 15) dX1_share_14 (am_okd rfl) rfl ?_
  refine rn_puti (a := 75) (q := 18) dX1_share_15 fl_X1_74 rfl rfl rfl rfl ?_
  refine rn_iconst (q := 19) dX1_share_18 (am_okd rfl) rfl ?_
  refine rn_istore (ls' := [some (.inr (.inr 76)), some (.inr (.inr 6)), some (.inl (who : Int)), some (.inl (pc who : Int)), some (.inl 0), none]) (q := 21) dX1_share_19 (by decide) rfl rfl ?_
  exact L 0 (Nat.zero_le _) _ _ (frS.up (a := 75) (k := 5) (x := 0) (frS.up (a := 75) (k := 6) (x := w) frS.rf rfl) rfl) (fun b2 k h1 h2 => by rw [am_up_ne (by simpa using h1), am_up_ne (by simpa using h1)]) (fun j hj => absurd hj (Nat.not_lt_zero _)) rfl rfl hwt
end P72
