/-! sheet of the reference -/
section P84
variable {l : Launch} {G : am_G} {d : Nat} {r : Nat} {X : List Nat} {C : List Int} {sn : Nat} {sg : Nat → Nat} {h : hrs} {e : est} {NB : Nat} {mem m : am_M}
variable {e2 : est} {U : List est} {R : List Int}
theorem m_sheet (q : DQ X sn sg h e NB mem) {R : List Int} (hR : m_row R mem) (hU : m_undo U mem) (kd many f s : Int) : am_Sm l G yX9_sheet mt_X9_sheet (d + 1) [.inr (.inr 96), .inl kd, .inl many, .inl f, .inl s] mem (fun q m => (shB kd many → AM (-1) e U R mem q m) ∧ (¬ shB kd many → shC kd many → AM (-2) e U R mem q m) ∧ (¬ shB kd many → ¬ shC kd many → AM (shA h.1 kd many f s e) (shE h.1 kd many f s e) U R mem q m)) := by
  refine am_enterQ (ls := [some (.inr (.inr 96)), some (.inl kd), some (.inl many), some (.inl f), some (.inl s), none, none, none]) (by decide) rfl (Nat.le_of_ble_eq_true rfl) rfl (fun hok Q hQ => ?_)
  have b := q.bd
  have hf0 : f = shV f s 0 := by
    have : am_ok f := hok (.inl f) (by simp)
    unfold shV
    rw [show f + ((0 : Nat) : Int) * s = f by simp, am_w32_id this]
  unfold shB shC at hQ
  by_cases h1 : ¬ (0 ≤ kd ∧ kd ≤ 3) ∨ 8 < many
  · refine rn_aload_n (x := 95) (q := 1) dX9_sheet_0 rfl rfl ?_
    refine rn_iconst (q := 2) dX9_sheet_1 (am_okd rfl) rfl ?_
    refine rn_puti (a := 95) (q := 5) dX9_sheet_2 fl_X9_107 rfl rfl rfl rfl ?_
    refine rn_iload_n (x := kd) (q := 6) dX9_sheet_5 rfl rfl ?_
    refine rn_iconst (q := 7) dX9_sheet_6 (am_okd rfl) rfl ?_
    refine rn_iconst (q := 8) dX9_sheet_7 (am_okd rfl) rfl ?_
    refine rn_callS (as := [.inl kd, .inl 0, .inl 3]) (rest := []) (q := 11) dX9_sheet_8 ml_X9_116 sm_X9_in (by omega) rfl rfl (Nat.le_of_ble_eq_true rfl) rfl (s_in9 (d := d + 0) kd 0 3) ?_
    intro r8 mem8 hq8
    obtain ⟨⟨rfl, hi8⟩ | ⟨rfl, hi8⟩, rfl⟩ := hq8
    · show am_Rn l G _ _ 11 [some (.inr (.inr 96)), some (.inl kd), some (.inl many), some (.inl f), some (.inl s), none, none, none] [.inl 1] (am_up mem 95 11 0) _
      refine rn_ifeq (t := 20) (q := 14) dX9_sheet_11 rfl rfl (fun h => absurd h (by decide)) (fun w11 => ?_)
      refine rn_iload_n (x := many) (q := 15) dX9_sheet_14 rfl rfl ?_
      refine rn_bipush (q := 17) dX9_sheet_15 ⟨by decide, by decide⟩ rfl ?_
      refine rn_cmple (t := 22) (q := 20) dX9_sheet_17 rfl rfl (fun w17 => ?_) (fun w17 => ?_)
      · exfalso; omega
      · refine rn_iconst (q := 21) dX9_sheet_20 (am_okd rfl) rfl ?_
        refine rn_iret dX9_sheet_21 rfl ?_
        exact hQ _ _ ⟨fun _ => act_no9 q hR hU, fun z => absurd h1 z, fun z => absurd h1 z⟩
    · show am_Rn l G _ _ 11 [some (.inr (.inr 96)), some (.inl kd), some (.inl many), some (.inl f), some (.inl s), none, none, none] [.inl 0] (am_up mem 95 11 0) _
      refine rn_ifeq (t := 20) (q := 14) dX9_sheet_11 rfl rfl (fun w11 => ?_) (fun h => absurd h (by decide))
      refine rn_iconst (q := 21) dX9_sheet_20 (am_okd rfl) rfl ?_
      refine rn_iret dX9_sheet_21 rfl ?_
      exact hQ _ _ ⟨fun _ => act_no9 q hR hU, fun z => absurd h1 z, fun z => absurd h1 z⟩
  by_cases h2 : kd < 3 ∧ many < 0
  · refine rn_aload_n (x := 95) (q := 1) dX9_sheet_0 rfl rfl ?_
    refine rn_iconst (q := 2) dX9_sheet_1 (am_okd rfl) rfl ?_
    refine rn_puti (a := 95) (q := 5) dX9_sheet_2 fl_X9_107 rfl rfl rfl rfl ?_
    refine rn_iload_n (x := kd) (q := 6) dX9_sheet_5 rfl rfl ?_
    refine rn_iconst (q := 7) dX9_sheet_6 (am_okd rfl) rfl ?_
    refine rn_iconst (q := 8) dX9_sheet_7 (am_okd rfl) rfl ?_
    refine rn_callS (as := [.inl kd, .inl 0, .inl 3]) (rest := []) (q := 11) dX9_sheet_8 ml_X9_116 sm_X9_in (by omega) rfl rfl (Nat.le_of_ble_eq_true rfl) rfl (s_in9 (d := d + 0) kd 0 3) ?_
    intro r8 mem8 hq8
    obtain ⟨⟨rfl, hi8⟩ | ⟨rfl, hi8⟩, rfl⟩ := hq8
    · show am_Rn l G _ _ 11 [some (.inr (.inr 96)), some (.inl kd), some (.inl many), some (.inl f), some (.inl s), none, none, none] [.inl 1] (am_up mem 95 11 0) _
      refine rn_ifeq (t := 20) (q := 14) dX9_sheet_11 rfl rfl (fun h => absurd h (by decide)) (fun w11 => ?_)
      refine rn_iload_n (x := many) (q := 15) dX9_sheet_14 rfl rfl ?_
      refine rn_bipush (q := 17) dX9_sheet_15 ⟨by decide, by decide⟩ rfl ?_
      refine rn_cmple (t := 22) (q := 20) dX9_sheet_17 rfl rfl (fun w17 => ?_) (fun w17 => ?_)
      · refine rn_iload_n (x := kd) (q := 23) dX9_sheet_22 rfl rfl ?_
        refine rn_iconst (q := 24) dX9_sheet_23 (am_okd rfl) rfl ?_
        refine rn_cmpge (t := 34) (q := 27) dX9_sheet_24 rfl rfl (fun w24 => ?_) (fun w24 => ?_)
        · exfalso; omega
        · refine rn_iload_n (x := many) (q := 28) dX9_sheet_27 rfl rfl ?_
          refine rn_ifge (t := 34) (q := 31) dX9_sheet_28 rfl rfl (fun w28 => ?_) (fun w28 => ?_)
          · exfalso; omega
          · refine rn_bipush (q := 33) dX9_sheet_31 ⟨by decide, by decide⟩ rfl ?_
            refine rn_iret dX9_sheet_33 rfl ?_
            first | (exfalso; omega) | exact hQ _ _ ⟨fun z => absurd z h1, fun _ _ => act_no9 q hR hU, fun _ z => absurd h2 z⟩
      · refine rn_iconst (q := 21) dX9_sheet_20 (am_okd rfl) rfl ?_
        refine rn_iret dX9_sheet_21 rfl ?_
        first | (exfalso; omega) | exact hQ _ _ ⟨fun z => absurd z h1, fun _ _ => act_no9 q hR hU, fun _ z => absurd h2 z⟩
    · show am_Rn l G _ _ 11 [some (.inr (.inr 96)), some (.inl kd), some (.inl many), some (.inl f), some (.inl s), none, none, none] [.inl 0] (am_up mem 95 11 0) _
      refine rn_ifeq (t := 20) (q := 14) dX9_sheet_11 rfl rfl (fun w11 => ?_) (fun h => absurd h (by decide))
      refine rn_iconst (q := 21) dX9_sheet_20 (am_okd rfl) rfl ?_
      refine rn_iret dX9_sheet_21 rfl ?_
      first | (exfalso; omega) | exact hQ _ _ ⟨fun z => absurd z h1, fun _ _ => act_no9 q hR hU, fun _ z => absurd h2 z⟩
  have L : ∀ i : Nat, i ≤ h.1 → ∀ (m : am_M) (y : Option am_V), (∀ b, b ≠ 96 → m b = am_up mem 95 11 0 b) → (∀ j, j < 29 → m 96 j = if j < i then (shH kd many f s j : Int) else mem 96 j) → am_Rn l G mt_X9_sheet (d + 1) 40 [some (.inr (.inr 96)), some (.inl kd), some (.inl many), some (.inl f), some (.inl s), some (.inl (shV f s i)), some (.inl (i : Int)), y] [] m Q := by
    refine am_dn h.1 (fun i hi ih m y hf hE => ?_)
    have hE2 : ∀ x : Int, x = (shH kd many f s i : Int) → ∀ j, j < 29 → am_up m 96 i x 96 j = if j < i + 1 then (shH kd many f s j : Int) else mem 96 j := by
      intro x hx j hj
      rw [am_up_at]
      by_cases hji : j = i
      · rw [if_pos hji, if_pos (by omega), hx, hji]
      · rw [if_neg hji, hE j hj]
        by_cases hj3 : j < i
        · rw [if_pos hj3, if_pos (by omega)]
        · rw [if_neg hj3, if_neg (by omega)]
    have hH : ∀ j, j < 8 → m 96 j = ((if j < i then shH kd many f s j else eH e j : Nat) : Int) := by
      intro j hj
      rw [hE j (by omega), q.hd hj]
      split <;> rfl
    refine rn_iload (x := (i : Int)) (q := 42) dX9_sheet_40 rfl rfl ?_
    refine rn_aload_n (x := 95) (q := 43) dX9_sheet_42 rfl rfl ?_
    refine rn_get (a := 95) (v := .inl (h.1 : Int)) (q := 46) dX9_sheet_43 fl_X9_113 rfl (am_gi ((congrFun (hf 95 (by decide)) 1).trans q.n)) rfl ?_
    refine rn_cmpge (t := 120) (q := 49) dX9_sheet_46 rfl rfl (fun w46 => ?_) (fun w46 => ?_)
    · refine rn_iload_n (x := kd) (q := 121) dX9_sheet_120 rfl rfl ?_
      refine rn_iconst (q := 122) dX9_sheet_121 (am_okd rfl) rfl ?_
      refine rn_cmpne (t := 130) (q := 125) dX9_sheet_122 rfl rfl (fun w122 => ?_) (fun w122 => ?_)
      · refine rn_aload_n (x := 95) (q := 131) dX9_sheet_130 rfl rfl ?_
        refine rn_aload_n (x := 95) (q := 132) dX9_sheet_131 rfl rfl ?_
        refine rn_get (a := 95) (v := .inr (.inr 97)) (q := 135) dX9_sheet_132 fl_X9_9 rfl rfl rfl ?_
        refine rn_callV (b := 95) (as := [.inr (.inr 97)]) (rest := []) (q := 138) dX9_sheet_135 ml_X9_245 sm_X9_heardOfAll rfl rfl (by decide) (by omega) rfl rfl (Nat.le_of_ble_eq_true rfl) rfl (s_heardOfAll9 (d := d + 0) 96 h.1 rfl ((congrFun (hf 95 (by decide)) 1).trans q.n) b.1 (eH (shE h.1 kd many f s e)) (fun j hj => by rw [hH j (by omega)]; obtain rfl : i = h.1 := (by omega); rfl) (shE_ok q.eo).1) ?_
        intro r135 mem135 hq135
        obtain ⟨rfl, rfl⟩ := hq135
        show am_Rn l G _ _ 138 [some (.inr (.inr 96)), some (.inl kd), some (.inl many), some (.inl f), some (.inl s), some (.inl (shV f s i)), some (.inl (i : Int)), y] [.inl (((List.range h.1).map (eH (shE h.1 kd many f s e))).sum : Nat)] m _
        refine rn_iret dX9_sheet_138 rfl ?_
        obtain rfl : i = h.1 := by omega
        refine hQ _ _ ⟨fun z => absurd z h1, fun _ z => absurd z h2, fun _ _ => ?_⟩
        unfold shA
        have hA : m_est (shE h.1 kd many f s e) 96 0 m ∧ m_undo U m ∧ m_row R m ∧ frS s9a mem m := by
          have A := q.es.a
          have hg : ∀ j, 8 ≤ j → j < 29 → m 96 j = mem 96 j := fun j j1 j2 => by rw [hE j j2, if_neg (by omega)]
          refine ⟨m_est_of (fun j hj => ?_) (fun j hj => by rw [hg _ (by omega) (by omega)]; exact A.2.1 j hj) (fun j hj => by rw [hg _ (by omega) (by omega)]; exact A.2.2.1 j hj) (by rw [hg _ (by omega) (by omega)]; exact A.2.2.2.1) (by rw [hg _ (by omega) (by omega)]; exact A.2.2.2.2.1) (by rw [hg _ (by omega) (by omega)]; exact A.2.2.2.2.2.1) (by rw [hg _ (by omega) (by omega)]; exact A.2.2.2.2.2.2.1) (by rw [hg _ (by omega) (by omega)]; exact A.2.2.2.2.2.2.2), hU.keptU (by rw [hf 107 (by decide)]; rfl) (by rw [hf 95 (by decide)]; rfl), ⟨by rw [hf 95 (by decide)]; exact hR.1, hR.2.1, fun j hj => by rw [hf 102 (by decide)]; exact hR.2.2 j hj⟩, frS.tr (frS.rf.up (a := 95) (k := 11) (x := 0) rfl) (fr_96 hf)⟩
          exact hH j hj
        first | (rw [if_pos (by assumption)]; exact ⟨rfl, hA⟩) | (rw [if_neg (by assumption)]; exact ⟨rfl, hA⟩)
      · refine rn_bipush (q := 127) dX9_sheet_125 ⟨by decide, by decide⟩ rfl ?_
        refine rn_goto (t := 138) dX9_sheet_127 rfl ?_
        refine rn_iret dX9_sheet_138 rfl ?_
        obtain rfl : i = h.1 := by omega
        refine hQ _ _ ⟨fun z => absurd z h1, fun _ z => absurd z h2, fun _ _ => ?_⟩
        unfold shA
        have hA : m_est (shE h.1 kd many f s e) 96 0 m ∧ m_undo U m ∧ m_row R m ∧ frS s9a mem m := by
          have A := q.es.a
          have hg : ∀ j, 8 ≤ j → j < 29 → m 96 j = mem 96 j := fun j j1 j2 => by rw [hE j j2, if_neg (by omega)]
          refine ⟨m_est_of (fun j hj => ?_) (fun j hj => by rw [hg _ (by omega) (by omega)]; exact A.2.1 j hj) (fun j hj => by rw [hg _ (by omega) (by omega)]; exact A.2.2.1 j hj) (by rw [hg _ (by omega) (by omega)]; exact A.2.2.2.1) (by rw [hg _ (by omega) (by omega)]; exact A.2.2.2.2.1) (by rw [hg _ (by omega) (by omega)]; exact A.2.2.2.2.2.1) (by rw [hg _ (by omega) (by omega)]; exact A.2.2.2.2.2.2.1) (by rw [hg _ (by omega) (by omega)]; exact A.2.2.2.2.2.2.2), hU.keptU (by rw [hf 107 (by decide)]; rfl) (by rw [hf 95 (by decide)]; rfl), ⟨by rw [hf 95 (by decide)]; exact hR.1, hR.2.1, fun j hj => by rw [hf 102 (by decide)]; exact hR.2.2 j hj⟩, frS.tr (frS.rf.up (a := 95) (k := 11) (x := 0) rfl) (fr_96 hf)⟩
          exact hH j hj
        first | (rw [if_pos (by assumption)]; exact ⟨rfl, hA⟩) | (rw [if_neg (by assumption)]; exact ⟨rfl, hA⟩)
    · refine rn_iload_n (x := kd) (q := 50) dX9_sheet_49 rfl rfl ?_
      refine rn_ifne (t := 59) (q := 53) dX9_sheet_50 rfl rfl (fun w50 => ?_) (fun w50 => ?_)
      · refine rn_iload_n (x := kd) (q := 60) dX9_sheet_59 rfl rfl ?_
        refine rn_iconst (q := 61) dX9_sheet_60 (am_okd rfl) rfl ?_
        refine rn_cmpne (t := 70) (q := 64) dX9_sheet_61 rfl rfl (fun w61 => ?_) (fun w61 => ?_)
        · refine rn_iload (x := (shV f s i)) (q := 72) dX9_sheet_70 rfl rfl ?_
          refine rn_istore (ls' := [some (.inr (.inr 96)), some (.inl kd), some (.inl many), some (.inl f), some (.inl s), some (.inl (shV f s i)), some (.inl (i : Int)), some (.inl (shV f s i))]) (q := 74) dX9_sheet_72 (by decide) rfl rfl ?_
          refine rn_aload_n (x := 95) (q := 75) dX9_sheet_74 rfl rfl ?_
          refine rn_get (a := 95) (v := .inr (.inr 97)) (q := 78) dX9_sheet_75 fl_X9_9 rfl rfl rfl ?_
          refine rn_iload (x := (i : Int)) (q := 80) dX9_sheet_78 rfl rfl ?_
          refine rn_iload_n (x := kd) (q := 81) dX9_sheet_80 rfl rfl ?_
          refine rn_iconst (q := 82) dX9_sheet_81 (am_okd rfl) rfl ?_
          refine rn_cmpeq (t := 91) (q := 85) dX9_sheet_82 rfl rfl (fun w82 => ?_) (fun w82 => ?_)
          · refine rn_iconst (q := 92) dX9_sheet_91 (am_okd rfl) rfl ?_
            refine rn_goto (t := 106) dX9_sheet_92 rfl ?_
            refine rn_iastV (a := 96) (m1 := am_up m 96 i 0) (q := 107) dX9_sheet_106 rfl (by omega) (by omega) rfl rfl ?_
            refine rn_iload (x := (shV f s i)) (q := 109) dX9_sheet_107 rfl rfl ?_
            refine rn_iload (x := s) (q := 111) dX9_sheet_109 rfl rfl ?_
            refine rn_iadd (q := 112) dX9_sheet_111 rfl ?_
            rw [show am_w32 ((shV f s i) + s) = shV f s (i + 1) from shV_m]
            refine rn_istore (ls' := [some (.inr (.inr 96)), some (.inl kd), some (.inl many), some (.inl f), some (.inl s), some (.inl (shV f s (i + 1))), some (.inl (i : Int)), some (.inl (shV f s i))]) (q := 114) dX9_sheet_112 (by decide) rfl rfl ?_
            refine rn_iincN (x := (i : Int)) (z := ((i + 1 : Nat) : Int)) (ls' := [some (.inr (.inr 96)), some (.inl kd), some (.inl many), some (.inl f), some (.inl s), some (.inl (shV f s (i + 1))), some (.inl ((i + 1 : Nat) : Int)), some (.inl (shV f s i))]) (q := 117) dX9_sheet_114 rfl (by decide) (by omega) (by unfold am_ok; omega) rfl rfl ?_
            refine rn_goto (t := 40) dX9_sheet_117 rfl ?_
            refine ih (by omega) _ _ (fun b2 hb => by rw [am_up_ne hb]; exact hf b2 hb) (hE2 _ ?_)
            unfold shH entV
            first | (rw [if_neg (by omega)]; rfl) | (rw [if_pos (by omega), if_pos (by assumption)]; generalize am_i2b (shV f s i) = z; omega) | (rw [if_pos (by omega), if_neg (by assumption), if_pos (by assumption)]; generalize am_i2s (shV f s i) = z; omega) | (rw [if_pos (by omega), if_neg (by assumption), if_neg (by assumption)]; generalize shV f s i = z; omega)
          · refine rn_iload (x := (i : Int)) (q := 87) dX9_sheet_85 rfl rfl ?_
            refine rn_iload_n (x := many) (q := 88) dX9_sheet_87 rfl rfl ?_
            refine rn_cmplt (t := 95) (q := 91) dX9_sheet_88 rfl rfl (fun w88 => ?_) (fun w88 => ?_)
            · refine rn_iconst (q := 96) dX9_sheet_95 (am_okd rfl) rfl ?_
              refine rn_bipush (q := 98) dX9_sheet_96 ⟨by decide, by decide⟩ rfl ?_
              refine rn_iload (x := (shV f s i)) (q := 100) dX9_sheet_98 rfl rfl ?_
              refine rn_mmin (q := 103) dX9_sheet_100 am_mm_X9_225 am_mminw (Nat.le_of_ble_eq_true rfl) rfl ?_
              refine rn_mmax (q := 106) dX9_sheet_103 am_mm_X9_231 am_mmaxw (Nat.le_of_ble_eq_true rfl) rfl ?_
              refine rn_iastV (a := 96) (m1 := am_up m 96 i (max 0 (min 99 (shV f s i)))) (q := 107) dX9_sheet_106 rfl (by omega) (by omega) rfl rfl ?_
              refine rn_iload (x := (shV f s i)) (q := 109) dX9_sheet_107 rfl rfl ?_
              refine rn_iload (x := s) (q := 111) dX9_sheet_109 rfl rfl ?_
              refine rn_iadd (q := 112) dX9_sheet_111 rfl ?_
              rw [show am_w32 ((shV f s i) + s) = shV f s (i + 1) from shV_m]
              refine rn_istore (ls' := [some (.inr (.inr 96)), some (.inl kd), some (.inl many), some (.inl f), some (.inl s), some (.inl (shV f s (i + 1))), some (.inl (i : Int)), some (.inl (shV f s i))]) (q := 114) dX9_sheet_112 (by decide) rfl rfl ?_
              refine rn_iincN (x := (i : Int)) (z := ((i + 1 : Nat) : Int)) (ls' := [some (.inr (.inr 96)), some (.inl kd), some (.inl many), some (.inl f), some (.inl s), some (.inl (shV f s (i + 1))), some (.inl ((i + 1 : Nat) : Int)), some (.inl (shV f s i))]) (q := 117) dX9_sheet_114 rfl (by decide) (by omega) (by unfold am_ok; omega) rfl rfl ?_
              refine rn_goto (t := 40) dX9_sheet_117 rfl ?_
              refine ih (by omega) _ _ (fun b2 hb => by rw [am_up_ne hb]; exact hf b2 hb) (hE2 _ ?_)
              unfold shH entV
              first | (rw [if_neg (by omega)]; rfl) | (rw [if_pos (by omega), if_pos (by assumption)]; generalize am_i2b (shV f s i) = z; omega) | (rw [if_pos (by omega), if_neg (by assumption), if_pos (by assumption)]; generalize am_i2s (shV f s i) = z; omega) | (rw [if_pos (by omega), if_neg (by assumption), if_neg (by assumption)]; generalize shV f s i = z; omega)
            · refine rn_iconst (q := 92) dX9_sheet_91 (am_okd rfl) rfl ?_
              refine rn_goto (t := 106) dX9_sheet_92 rfl ?_
              refine rn_iastV (a := 96) (m1 := am_up m 96 i 0) (q := 107) dX9_sheet_106 rfl (by omega) (by omega) rfl rfl ?_
              refine rn_iload (x := (shV f s i)) (q := 109) dX9_sheet_107 rfl rfl ?_
              refine rn_iload (x := s) (q := 111) dX9_sheet_109 rfl rfl ?_
              refine rn_iadd (q := 112) dX9_sheet_111 rfl ?_
              rw [show am_w32 ((shV f s i) + s) = shV f s (i + 1) from shV_m]
              refine rn_istore (ls' := [some (.inr (.inr 96)), some (.inl kd), some (.inl many), some (.inl f), some (.inl s), some (.inl (shV f s (i + 1))), some (.inl (i : Int)), some (.inl (shV f s i))]) (q := 114) dX9_sheet_112 (by decide) rfl rfl ?_
              refine rn_iincN (x := (i : Int)) (z := ((i + 1 : Nat) : Int)) (ls' := [some (.inr (.inr 96)), some (.inl kd), some (.inl many), some (.inl f), some (.inl s), some (.inl (shV f s (i + 1))), some (.inl ((i + 1 : Nat) : Int)), some (.inl (shV f s i))]) (q := 117) dX9_sheet_114 rfl (by decide) (by omega) (by unfold am_ok; omega) rfl rfl ?_
              refine rn_goto (t := 40) dX9_sheet_117 rfl ?_
              refine ih (by omega) _ _ (fun b2 hb => by rw [am_up_ne hb]; exact hf b2 hb) (hE2 _ ?_)
              unfold shH entV
              first | (rw [if_neg (by omega)]; rfl) | (rw [if_pos (by omega), if_pos (by assumption)]; generalize am_i2b (shV f s i) = z; omega) | (rw [if_pos (by omega), if_neg (by assumption), if_pos (by assumption)]; generalize am_i2s (shV f s i) = z; omega) | (rw [if_pos (by omega), if_neg (by assumption), if_neg (by assumption)]; generalize shV f s i = z; omega)
        · refine rn_iload (x := (shV f s i)) (q := 66) dX9_sheet_64 rfl rfl ?_
          refine rn_i2s (q := 67) dX9_sheet_66 rfl ?_
          refine rn_goto (t := 72) dX9_sheet_67 rfl ?_
          refine rn_istore (ls' := [some (.inr (.inr 96)), some (.inl kd), some (.inl many), some (.inl f), some (.inl s), some (.inl (shV f s i)), some (.inl (i : Int)), some (.inl (am_i2s (shV f s i)))]) (q := 74) dX9_sheet_72 (by decide) rfl rfl ?_
          refine rn_aload_n (x := 95) (q := 75) dX9_sheet_74 rfl rfl ?_
          refine rn_get (a := 95) (v := .inr (.inr 97)) (q := 78) dX9_sheet_75 fl_X9_9 rfl rfl rfl ?_
          refine rn_iload (x := (i : Int)) (q := 80) dX9_sheet_78 rfl rfl ?_
          refine rn_iload_n (x := kd) (q := 81) dX9_sheet_80 rfl rfl ?_
          refine rn_iconst (q := 82) dX9_sheet_81 (am_okd rfl) rfl ?_
          refine rn_cmpeq (t := 91) (q := 85) dX9_sheet_82 rfl rfl (fun w82 => ?_) (fun w82 => ?_)
          · refine rn_iconst (q := 92) dX9_sheet_91 (am_okd rfl) rfl ?_
            refine rn_goto (t := 106) dX9_sheet_92 rfl ?_
            refine rn_iastV (a := 96) (m1 := am_up m 96 i 0) (q := 107) dX9_sheet_106 rfl (by omega) (by omega) rfl rfl ?_
            refine rn_iload (x := (shV f s i)) (q := 109) dX9_sheet_107 rfl rfl ?_
            refine rn_iload (x := s) (q := 111) dX9_sheet_109 rfl rfl ?_
            refine rn_iadd (q := 112) dX9_sheet_111 rfl ?_
            rw [show am_w32 ((shV f s i) + s) = shV f s (i + 1) from shV_m]
            refine rn_istore (ls' := [some (.inr (.inr 96)), some (.inl kd), some (.inl many), some (.inl f), some (.inl s), some (.inl (shV f s (i + 1))), some (.inl (i : Int)), some (.inl (am_i2s (shV f s i)))]) (q := 114) dX9_sheet_112 (by decide) rfl rfl ?_
            refine rn_iincN (x := (i : Int)) (z := ((i + 1 : Nat) : Int)) (ls' := [some (.inr (.inr 96)), some (.inl kd), some (.inl many), some (.inl f), some (.inl s), some (.inl (shV f s (i + 1))), some (.inl ((i + 1 : Nat) : Int)), some (.inl (am_i2s (shV f s i)))]) (q := 117) dX9_sheet_114 rfl (by decide) (by omega) (by unfold am_ok; omega) rfl rfl ?_
            refine rn_goto (t := 40) dX9_sheet_117 rfl ?_
            refine ih (by omega) _ _ (fun b2 hb => by rw [am_up_ne hb]; exact hf b2 hb) (hE2 _ ?_)
            unfold shH entV
            first | (rw [if_neg (by omega)]; rfl) | (rw [if_pos (by omega), if_pos (by assumption)]; generalize am_i2b (shV f s i) = z; omega) | (rw [if_pos (by omega), if_neg (by assumption), if_pos (by assumption)]; generalize am_i2s (shV f s i) = z; omega) | (rw [if_pos (by omega), if_neg (by assumption), if_neg (by assumption)]; generalize shV f s i = z; omega)
          · refine rn_iload (x := (i : Int)) (q := 87) dX9_sheet_85 rfl rfl ?_
            refine rn_iload_n (x := many) (q := 88) dX9_sheet_87 rfl rfl ?_
            refine rn_cmplt (t := 95) (q := 91) dX9_sheet_88 rfl rfl (fun w88 => ?_) (fun w88 => ?_)
            · refine rn_iconst (q := 96) dX9_sheet_95 (am_okd rfl) rfl ?_
              refine rn_bipush (q := 98) dX9_sheet_96 ⟨by decide, by decide⟩ rfl ?_
              refine rn_iload (x := am_i2s (shV f s i)) (q := 100) dX9_sheet_98 rfl rfl ?_
              refine rn_mmin (q := 103) dX9_sheet_100 am_mm_X9_225 am_mminw (Nat.le_of_ble_eq_true rfl) rfl ?_
              refine rn_mmax (q := 106) dX9_sheet_103 am_mm_X9_231 am_mmaxw (Nat.le_of_ble_eq_true rfl) rfl ?_
              refine rn_iastV (a := 96) (m1 := am_up m 96 i (max 0 (min 99 (am_i2s (shV f s i))))) (q := 107) dX9_sheet_106 rfl (by omega) (by omega) rfl rfl ?_
              refine rn_iload (x := (shV f s i)) (q := 109) dX9_sheet_107 rfl rfl ?_
              refine rn_iload (x := s) (q := 111) dX9_sheet_109 rfl rfl ?_
              refine rn_iadd (q := 112) dX9_sheet_111 rfl ?_
              rw [show am_w32 ((shV f s i) + s) = shV f s (i + 1) from shV_m]
              refine rn_istore (ls' := [some (.inr (.inr 96)), some (.inl kd), some (.inl many), some (.inl f), some (.inl s), some (.inl (shV f s (i + 1))), some (.inl (i : Int)), some (.inl (am_i2s (shV f s i)))]) (q := 114) dX9_sheet_112 (by decide) rfl rfl ?_
              refine rn_iincN (x := (i : Int)) (z := ((i + 1 : Nat) : Int)) (ls' := [some (.inr (.inr 96)), some (.inl kd), some (.inl many), some (.inl f), some (.inl s), some (.inl (shV f s (i + 1))), some (.inl ((i + 1 : Nat) : Int)), some (.inl (am_i2s (shV f s i)))]) (q := 117) dX9_sheet_114 rfl (by decide) (by omega) (by unfold am_ok; omega) rfl rfl ?_
              refine rn_goto (t := 40) dX9_sheet_117 rfl ?_
              refine ih (by omega) _ _ (fun b2 hb => by rw [am_up_ne hb]; exact hf b2 hb) (hE2 _ ?_)
              unfold shH entV
              first | (rw [if_neg (by omega)]; rfl) | (rw [if_pos (by omega), if_pos (by assumption)]; generalize am_i2b (shV f s i) = z; omega) | (rw [if_pos (by omega), if_neg (by assumption), if_pos (by assumption)]; generalize am_i2s (shV f s i) = z; omega) | (rw [if_pos (by omega), if_neg (by assumption), if_neg (by assumption)]; generalize shV f s i = z; omega)
            · refine rn_iconst (q := 92) dX9_sheet_91 (am_okd rfl) rfl ?_
              refine rn_goto (t := 106) dX9_sheet_92 rfl ?_
              refine rn_iastV (a := 96) (m1 := am_up m 96 i 0) (q := 107) dX9_sheet_106 rfl (by omega) (by omega) rfl rfl ?_
              refine rn_iload (x := (shV f s i)) (q := 109) dX9_sheet_107 rfl rfl ?_
              refine rn_iload (x := s) (q := 111) dX9_sheet_109 rfl rfl ?_
              refine rn_iadd (q := 112) dX9_sheet_111 rfl ?_
              rw [show am_w32 ((shV f s i) + s) = shV f s (i + 1) from shV_m]
              refine rn_istore (ls' := [some (.inr (.inr 96)), some (.inl kd), some (.inl many), some (.inl f), some (.inl s), some (.inl (shV f s (i + 1))), some (.inl (i : Int)), some (.inl (am_i2s (shV f s i)))]) (q := 114) dX9_sheet_112 (by decide) rfl rfl ?_
              refine rn_iincN (x := (i : Int)) (z := ((i + 1 : Nat) : Int)) (ls' := [some (.inr (.inr 96)), some (.inl kd), some (.inl many), some (.inl f), some (.inl s), some (.inl (shV f s (i + 1))), some (.inl ((i + 1 : Nat) : Int)), some (.inl (am_i2s (shV f s i)))]) (q := 117) dX9_sheet_114 rfl (by decide) (by omega) (by unfold am_ok; omega) rfl rfl ?_
              refine rn_goto (t := 40) dX9_sheet_117 rfl ?_
              refine ih (by omega) _ _ (fun b2 hb => by rw [am_up_ne hb]; exact hf b2 hb) (hE2 _ ?_)
              unfold shH entV
              first | (rw [if_neg (by omega)]; rfl) | (rw [if_pos (by omega), if_pos (by assumption)]; generalize am_i2b (shV f s i) = z; omega) | (rw [if_pos (by omega), if_neg (by assumption), if_pos (by assumption)]; generalize am_i2s (shV f s i) = z; omega) | (rw [if_pos (by omega), if_neg (by assumption), if_neg (by assumption)]; generalize shV f s i = z; omega)
      · refine rn_iload (x := (shV f s i)) (q := 55) dX9_sheet_53 rfl rfl ?_
        refine rn_i2b (q := 56) dX9_sheet_55 rfl ?_
        refine rn_goto (t := 72) dX9_sheet_56 rfl ?_
        refine rn_istore (ls' := [some (.inr (.inr 96)), some (.inl kd), some (.inl many), some (.inl f), some (.inl s), some (.inl (shV f s i)), some (.inl (i : Int)), some (.inl (am_i2b (shV f s i)))]) (q := 74) dX9_sheet_72 (by decide) rfl rfl ?_
        refine rn_aload_n (x := 95) (q := 75) dX9_sheet_74 rfl rfl ?_
        refine rn_get (a := 95) (v := .inr (.inr 97)) (q := 78) dX9_sheet_75 fl_X9_9 rfl rfl rfl ?_
        refine rn_iload (x := (i : Int)) (q := 80) dX9_sheet_78 rfl rfl ?_
        refine rn_iload_n (x := kd) (q := 81) dX9_sheet_80 rfl rfl ?_
        refine rn_iconst (q := 82) dX9_sheet_81 (am_okd rfl) rfl ?_
        refine rn_cmpeq (t := 91) (q := 85) dX9_sheet_82 rfl rfl (fun w82 => ?_) (fun w82 => ?_)
        · refine rn_iconst (q := 92) dX9_sheet_91 (am_okd rfl) rfl ?_
          refine rn_goto (t := 106) dX9_sheet_92 rfl ?_
          refine rn_iastV (a := 96) (m1 := am_up m 96 i 0) (q := 107) dX9_sheet_106 rfl (by omega) (by omega) rfl rfl ?_
          refine rn_iload (x := (shV f s i)) (q := 109) dX9_sheet_107 rfl rfl ?_
          refine rn_iload (x := s) (q := 111) dX9_sheet_109 rfl rfl ?_
          refine rn_iadd (q := 112) dX9_sheet_111 rfl ?_
          rw [show am_w32 ((shV f s i) + s) = shV f s (i + 1) from shV_m]
          refine rn_istore (ls' := [some (.inr (.inr 96)), some (.inl kd), some (.inl many), some (.inl f), some (.inl s), some (.inl (shV f s (i + 1))), some (.inl (i : Int)), some (.inl (am_i2b (shV f s i)))]) (q := 114) dX9_sheet_112 (by decide) rfl rfl ?_
          refine rn_iincN (x := (i : Int)) (z := ((i + 1 : Nat) : Int)) (ls' := [some (.inr (.inr 96)), some (.inl kd), some (.inl many), some (.inl f), some (.inl s), some (.inl (shV f s (i + 1))), some (.inl ((i + 1 : Nat) : Int)), some (.inl (am_i2b (shV f s i)))]) (q := 117) dX9_sheet_114 rfl (by decide) (by omega) (by unfold am_ok; omega) rfl rfl ?_
          refine rn_goto (t := 40) dX9_sheet_117 rfl ?_
          refine ih (by omega) _ _ (fun b2 hb => by rw [am_up_ne hb]; exact hf b2 hb) (hE2 _ ?_)
          unfold shH entV
          first | (rw [if_neg (by omega)]; rfl) | (rw [if_pos (by omega), if_pos (by assumption)]; generalize am_i2b (shV f s i) = z; omega) | (rw [if_pos (by omega), if_neg (by assumption), if_pos (by assumption)]; generalize am_i2s (shV f s i) = z; omega) | (rw [if_pos (by omega), if_neg (by assumption), if_neg (by assumption)]; generalize shV f s i = z; omega)
        · refine rn_iload (x := (i : Int)) (q := 87) dX9_sheet_85 rfl rfl ?_
          refine rn_iload_n (x := many) (q := 88) dX9_sheet_87 rfl rfl ?_
          refine rn_cmplt (t := 95) (q := 91) dX9_sheet_88 rfl rfl (fun w88 => ?_) (fun w88 => ?_)
          · refine rn_iconst (q := 96) dX9_sheet_95 (am_okd rfl) rfl ?_
            refine rn_bipush (q := 98) dX9_sheet_96 ⟨by decide, by decide⟩ rfl ?_
            refine rn_iload (x := am_i2b (shV f s i)) (q := 100) dX9_sheet_98 rfl rfl ?_
            refine rn_mmin (q := 103) dX9_sheet_100 am_mm_X9_225 am_mminw (Nat.le_of_ble_eq_true rfl) rfl ?_
            refine rn_mmax (q := 106) dX9_sheet_103 am_mm_X9_231 am_mmaxw (Nat.le_of_ble_eq_true rfl) rfl ?_
            refine rn_iastV (a := 96) (m1 := am_up m 96 i (max 0 (min 99 (am_i2b (shV f s i))))) (q := 107) dX9_sheet_106 rfl (by omega) (by omega) rfl rfl ?_
            refine rn_iload (x := (shV f s i)) (q := 109) dX9_sheet_107 rfl rfl ?_
            refine rn_iload (x := s) (q := 111) dX9_sheet_109 rfl rfl ?_
            refine rn_iadd (q := 112) dX9_sheet_111 rfl ?_
            rw [show am_w32 ((shV f s i) + s) = shV f s (i + 1) from shV_m]
            refine rn_istore (ls' := [some (.inr (.inr 96)), some (.inl kd), some (.inl many), some (.inl f), some (.inl s), some (.inl (shV f s (i + 1))), some (.inl (i : Int)), some (.inl (am_i2b (shV f s i)))]) (q := 114) dX9_sheet_112 (by decide) rfl rfl ?_
            refine rn_iincN (x := (i : Int)) (z := ((i + 1 : Nat) : Int)) (ls' := [some (.inr (.inr 96)), some (.inl kd), some (.inl many), some (.inl f), some (.inl s), some (.inl (shV f s (i + 1))), some (.inl ((i + 1 : Nat) : Int)), some (.inl (am_i2b (shV f s i)))]) (q := 117) dX9_sheet_114 rfl (by decide) (by omega) (by unfold am_ok; omega) rfl rfl ?_
            refine rn_goto (t := 40) dX9_sheet_117 rfl ?_
            refine ih (by omega) _ _ (fun b2 hb => by rw [am_up_ne hb]; exact hf b2 hb) (hE2 _ ?_)
            unfold shH entV
            first | (rw [if_neg (by omega)]; rfl) | (rw [if_pos (by omega), if_pos (by assumption)]; generalize am_i2b (shV f s i) = z; omega) | (rw [if_pos (by omega), if_neg (by assumption), if_pos (by assumption)]; generalize am_i2s (shV f s i) = z; omega) | (rw [if_pos (by omega), if_neg (by assumption), if_neg (by assumption)]; generalize shV f s i = z; omega)
          · refine rn_iconst (q := 92) dX9_sheet_91 (am_okd rfl) rfl ?_
            refine rn_goto (t := 106) dX9_sheet_92 rfl ?_
            refine rn_iastV (a := 96) (m1 := am_up m 96 i 0) (q := 107) dX9_sheet_106 rfl (by omega) (by omega) rfl rfl ?_
            refine rn_iload (x := (shV f s i)) (q := 109) dX9_sheet_107 rfl rfl ?_
            refine rn_iload (x := s) (q := 111) dX9_sheet_109 rfl rfl ?_
            refine rn_iadd (q := 112) dX9_sheet_111 rfl ?_
            rw [show am_w32 ((shV f s i) + s) = shV f s (i + 1) from shV_m]
            refine rn_istore (ls' := [some (.inr (.inr 96)), some (.inl kd), some (.inl many), some (.inl f), some (.inl s), some (.inl (shV f s (i + 1))), some (.inl (i : Int)), some (.inl (am_i2b (shV f s i)))]) (q := 114) dX9_sheet_112 (by decide) rfl rfl ?_
            refine rn_iincN (x := (i : Int)) (z := ((i + 1 : Nat) : Int)) (ls' := [some (.inr (.inr 96)), some (.inl kd), some (.inl many), some (.inl f), some (.inl s), some (.inl (shV f s (i + 1))), some (.inl ((i + 1 : Nat) : Int)), some (.inl (am_i2b (shV f s i)))]) (q := 117) dX9_sheet_114 rfl (by decide) (by omega) (by unfold am_ok; omega) rfl rfl ?_
            refine rn_goto (t := 40) dX9_sheet_117 rfl ?_
            refine ih (by omega) _ _ (fun b2 hb => by rw [am_up_ne hb]; exact hf b2 hb) (hE2 _ ?_)
            unfold shH entV
            first | (rw [if_neg (by omega)]; rfl) | (rw [if_pos (by omega), if_pos (by assumption)]; generalize am_i2b (shV f s i) = z; omega) | (rw [if_pos (by omega), if_neg (by assumption), if_pos (by assumption)]; generalize am_i2s (shV f s i) = z; omega) | (rw [if_pos (by omega), if_neg (by assumption), if_neg (by assumption)]; generalize shV f s i = z; omega)
  refine rn_aload_n (x := 95) (q := 1) dX9_sheet_0 rfl rfl ?_
  refine rn_iconst (q := 2) dX9_sheet_1 (am_okd rfl) rfl ?_
  refine rn_puti (a := 95) (q := 5) dX9_sheet_2 fl_X9_107 rfl rfl rfl rfl ?_
  refine rn_iload_n (x := kd) (q := 6) dX9_sheet_5 rfl rfl ?_
  refine rn_iconst (q := 7) dX9_sheet_6 (am_okd rfl) rfl ?_
  refine rn_iconst (q := 8) dX9_sheet_7 (am_okd rfl) rfl ?_
  refine rn_callS (as := [.inl kd, .inl 0, .inl 3]) (rest := []) (q := 11) dX9_sheet_8 ml_X9_116 sm_X9_in (by omega) rfl rfl (Nat.le_of_ble_eq_true rfl) rfl (s_in9 (d := d + 0) kd 0 3) ?_
  intro r8 mem8 hq8
  obtain ⟨⟨rfl, hi8⟩ | ⟨rfl, hi8⟩, rfl⟩ := hq8
  · show am_Rn l G _ _ 11 [some (.inr (.inr 96)), some (.inl kd), some (.inl many), some (.inl f), some (.inl s), none, none, none] [.inl 1] (am_up mem 95 11 0) _
    refine rn_ifeq (t := 20) (q := 14) dX9_sheet_11 rfl rfl (fun h => absurd h (by decide)) (fun w11 => ?_)
    refine rn_iload_n (x := many) (q := 15) dX9_sheet_14 rfl rfl ?_
    refine rn_bipush (q := 17) dX9_sheet_15 ⟨by decide, by decide⟩ rfl ?_
    refine rn_cmple (t := 22) (q := 20) dX9_sheet_17 rfl rfl (fun w17 => ?_) (fun w17 => ?_)
    · refine rn_iload_n (x := kd) (q := 23) dX9_sheet_22 rfl rfl ?_
      refine rn_iconst (q := 24) dX9_sheet_23 (am_okd rfl) rfl ?_
      refine rn_cmpge (t := 34) (q := 27) dX9_sheet_24 rfl rfl (fun w24 => ?_) (fun w24 => ?_)
      · refine rn_iload_n (x := f) (q := 35) dX9_sheet_34 rfl rfl ?_
        refine rn_istore (ls' := [some (.inr (.inr 96)), some (.inl kd), some (.inl many), some (.inl f), some (.inl s), some (.inl f), none, none]) (q := 37) dX9_sheet_35 (by decide) rfl rfl ?_
        refine rn_iconst (q := 38) dX9_sheet_37 (am_okd rfl) rfl ?_
        refine rn_istore (ls' := [some (.inr (.inr 96)), some (.inl kd), some (.inl many), some (.inl f), some (.inl s), some (.inl f), some (.inl 0), none]) (q := 40) dX9_sheet_38 (by decide) rfl rfl ?_
        first | (exfalso; omega) | (have L0 := L 0 (Nat.zero_le _) (am_up mem 95 11 0) none (fun _ _ => rfl) (fun j hj => by rw [if_neg (by omega)]; rfl); rw [← hf0] at L0; exact L0)
      · refine rn_iload_n (x := many) (q := 28) dX9_sheet_27 rfl rfl ?_
        refine rn_ifge (t := 34) (q := 31) dX9_sheet_28 rfl rfl (fun w28 => ?_) (fun w28 => ?_)
        · refine rn_iload_n (x := f) (q := 35) dX9_sheet_34 rfl rfl ?_
          refine rn_istore (ls' := [some (.inr (.inr 96)), some (.inl kd), some (.inl many), some (.inl f), some (.inl s), some (.inl f), none, none]) (q := 37) dX9_sheet_35 (by decide) rfl rfl ?_
          refine rn_iconst (q := 38) dX9_sheet_37 (am_okd rfl) rfl ?_
          refine rn_istore (ls' := [some (.inr (.inr 96)), some (.inl kd), some (.inl many), some (.inl f), some (.inl s), some (.inl f), some (.inl 0), none]) (q := 40) dX9_sheet_38 (by decide) rfl rfl ?_
          first | (exfalso; omega) | (have L0 := L 0 (Nat.zero_le _) (am_up mem 95 11 0) none (fun _ _ => rfl) (fun j hj => by rw [if_neg (by omega)]; rfl); rw [← hf0] at L0; exact L0)
        · refine rn_bipush (q := 33) dX9_sheet_31 ⟨by decide, by decide⟩ rfl ?_
          refine rn_iret dX9_sheet_33 rfl ?_
          exfalso; omega
    · refine rn_iconst (q := 21) dX9_sheet_20 (am_okd rfl) rfl ?_
      refine rn_iret dX9_sheet_21 rfl ?_
      exfalso; omega
  · show am_Rn l G _ _ 11 [some (.inr (.inr 96)), some (.inl kd), some (.inl many), some (.inl f), some (.inl s), none, none, none] [.inl 0] (am_up mem 95 11 0) _
    refine rn_ifeq (t := 20) (q := 14) dX9_sheet_11 rfl rfl (fun w11 => ?_) (fun h => absurd h (by decide))
    refine rn_iconst (q := 21) dX9_sheet_20 (am_okd rfl) rfl ?_
    refine rn_iret dX9_sheet_21 rfl ?_
    exfalso; omega
end P84
