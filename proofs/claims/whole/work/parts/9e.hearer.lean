/-! hearer and row, where nothing is thrown; of the reference in full -/
def heV (X : List Nat) (h : hrs) (sn : Nat) (sg : Nat → Nat) (e : est) (k : Nat) (w : Int) : Int := if w = 0 then (h.2.1 k : Int) else if w = 1 then (h.2.2.1 k : Int) else if w = 2 then (h.2.2.2 k : Int) else if w = 3 then (eH e k : Int) else if w = 4 then (eS e k : Int) else if w = 5 then (if (eP e).testBit k then 1 else 0) else mvE X h sn sg e k
theorem fr_may.to9 {mem m : am_M} (f : fr_may mem m) : frS s9 mem m := by
  intro b k hb
  unfold s9 at hb
  simp [ble_f] at hb
  by_cases h95 : b = 95
  · subst h95; exact f.2 k (by omega)
  · rw [f.1 b h95 (by omega)]
section P9e
variable {l : Launch} {G : am_G} {d : Nat} {r : Nat} {X : List Nat} {C : List Int} {sn : Nat} {sg : Nat → Nat} {h : hrs} {e : est} {NB : Nat} {mem m : am_M}
variable {R : List Int}
theorem c_hearer (q : CQ r X C sn sg h e NB mem) (k : Nat) (hk : k < h.1) (w : Int) (hw : 0 ≤ w ∧ w ≤ 6) : am_Sm l G yX8_hearer mt_X8_hearer (d + 5) [.inr (.inr 1), .inl (k : Int), .inl w] mem (fun q m => q = some (.inl (heV X h sn sg e k w)) ∧ frS s8 mem m) := by
  refine am_enterQ (ls := [some (.inr (.inr 1)), some (.inl (k : Int)), some (.inl w)]) (by decide) rfl (Nat.le_of_ble_eq_true rfl) rfl (fun hok Q hQ => ?_)
  have b := q.bd
  refine rn_aload_n (x := 0) (q := 1) dX8_hearer_0 rfl rfl ?_
  refine rn_get (a := 0) (v := .inr (.inr 6)) (q := 4) dX8_hearer_1 fl_X8_26 rfl rfl rfl ?_
  refine rn_iload_n (x := (k : Int)) (q := 5) dX8_hearer_4 rfl rfl ?_
  refine rn_callV (b := 5) (as := [.inl (k : Int)]) (rest := []) (q := 8) dX8_hearer_5 ml_X8_175 sm_X6_has rfl rfl (by decide) (by omega) rfl rfl (Nat.le_of_ble_eq_true rfl) rfl (c_has (d := d + 4) q (k : Int)) ?_
  intro r5 mem5 hq5
  obtain ⟨⟨rfl, hh5⟩ | ⟨rfl, hh5⟩, rfl⟩ := hq5
  · show am_Rn l G _ _ 8 [some (.inr (.inr 1)), some (.inl (k : Int)), some (.inl w)] [.inl 1] mem _
    refine rn_ifeq (t := 21) (q := 11) dX8_hearer_8 rfl rfl (fun h => absurd h (by decide)) (fun w8 => ?_)
    refine rn_iload_n (x := w) (q := 12) dX8_hearer_11 rfl rfl ?_
    refine rn_iflt (t := 21) (q := 15) dX8_hearer_12 rfl rfl (fun w12 => ?_) (fun w12 => ?_)
    · exfalso; omega
    · refine rn_iload_n (x := w) (q := 16) dX8_hearer_15 rfl rfl ?_
      refine rn_bipush (q := 18) dX8_hearer_16 ⟨by decide, by decide⟩ rfl ?_
      refine rn_cmple (t := 29) (q := 21) dX8_hearer_18 rfl rfl (fun w18 => ?_) (fun h => absurd h (by omega))
      refine rn_iload_n (x := w) (q := 30) dX8_hearer_29 rfl rfl ?_
      by_cases sw0 : w = 0
      · subst sw0
        refine rn_tabIn (o1 := 38) (t := 68) dX8_hearer_30 (by decide) (by decide) rfl rfl ?_
        refine rn_aload_n (x := 0) (q := 69) dX8_hearer_68 rfl rfl ?_
        refine rn_get (a := 0) (v := .inr (.inr 6)) (q := 72) dX8_hearer_69 fl_X8_26 rfl rfl rfl ?_
        refine rn_get (a := 5) (v := .inr (.inr 8)) (q := 75) dX8_hearer_72 fl_X8_150 rfl rfl rfl ?_
        refine rn_iload_n (x := (k : Int)) (q := 76) dX8_hearer_75 rfl rfl ?_
        refine rn_ialdV (a := 7) (v := (h.2.1 k : Int)) (q := 77) dX8_hearer_76 rfl (by omega) (by omega) (q.sort (by omega)) rfl ?_
        refine rn_iret dX8_hearer_77 rfl ?_
        exact hQ _ _ ⟨rfl, frS.rf⟩
      · by_cases sw1 : w = 1
        · subst sw1
          refine rn_tabIn (o1 := 48) (t := 78) dX8_hearer_30 (by decide) (by decide) rfl rfl ?_
          refine rn_aload_n (x := 0) (q := 79) dX8_hearer_78 rfl rfl ?_
          refine rn_get (a := 0) (v := .inr (.inr 6)) (q := 82) dX8_hearer_79 fl_X8_26 rfl rfl rfl ?_
          refine rn_get (a := 5) (v := .inr (.inr 9)) (q := 85) dX8_hearer_82 fl_X8_153 rfl rfl rfl ?_
          refine rn_iload_n (x := (k : Int)) (q := 86) dX8_hearer_85 rfl rfl ?_
          refine rn_ialdV (a := 8) (v := (h.2.2.1 k : Int)) (q := 87) dX8_hearer_86 rfl (by omega) (by omega) (q.want (by omega)) rfl ?_
          refine rn_iret dX8_hearer_87 rfl ?_
          exact hQ _ _ ⟨rfl, frS.rf⟩
        · by_cases sw2 : w = 2
          · subst sw2
            refine rn_tabIn (o1 := 58) (t := 88) dX8_hearer_30 (by decide) (by decide) rfl rfl ?_
            refine rn_aload_n (x := 0) (q := 89) dX8_hearer_88 rfl rfl ?_
            refine rn_get (a := 0) (v := .inr (.inr 6)) (q := 92) dX8_hearer_89 fl_X8_26 rfl rfl rfl ?_
            refine rn_get (a := 5) (v := .inr (.inr 10)) (q := 95) dX8_hearer_92 fl_X8_156 rfl rfl rfl ?_
            refine rn_iload_n (x := (k : Int)) (q := 96) dX8_hearer_95 rfl rfl ?_
            refine rn_ialdV (a := 9) (v := (h.2.2.2 k : Int)) (q := 97) dX8_hearer_96 rfl (by omega) (by omega) (q.pay (by omega)) rfl ?_
            refine rn_iret dX8_hearer_97 rfl ?_
            exact hQ _ _ ⟨rfl, frS.rf⟩
          · by_cases sw3 : w = 3
            · subst sw3
              refine rn_tabIn (o1 := 68) (t := 98) dX8_hearer_30 (by decide) (by decide) rfl rfl ?_
              refine rn_aload_n (x := 0) (q := 99) dX8_hearer_98 rfl rfl ?_
              refine rn_get (a := 0) (v := .inr (.inr 17)) (q := 102) dX8_hearer_99 fl_X8_33 rfl rfl rfl ?_
              refine rn_get (a := 16) (v := .inr (.inr 18)) (q := 105) dX8_hearer_102 fl_X8_159 rfl rfl rfl ?_
              refine rn_iload_n (x := (k : Int)) (q := 106) dX8_hearer_105 rfl rfl ?_
              refine rn_ialdV (a := 17) (v := (eH e k : Int)) (q := 107) dX8_hearer_106 rfl (by omega) (by omega) (q.hd (by omega)) rfl ?_
              refine rn_iret dX8_hearer_107 rfl ?_
              exact hQ _ _ ⟨rfl, frS.rf⟩
            · by_cases sw4 : w = 4
              · subst sw4
                refine rn_tabIn (o1 := 78) (t := 108) dX8_hearer_30 (by decide) (by decide) rfl rfl ?_
                refine rn_aload_n (x := 0) (q := 109) dX8_hearer_108 rfl rfl ?_
                refine rn_get (a := 0) (v := .inr (.inr 17)) (q := 112) dX8_hearer_109 fl_X8_33 rfl rfl rfl ?_
                refine rn_get (a := 16) (v := .inr (.inr 19)) (q := 115) dX8_hearer_112 fl_X8_162 rfl rfl rfl ?_
                refine rn_iload_n (x := (k : Int)) (q := 116) dX8_hearer_115 rfl rfl ?_
                refine rn_ialdV (a := 18) (v := (eS e k : Int)) (q := 117) dX8_hearer_116 rfl (by omega) (by omega) (q.sc (by omega)) rfl ?_
                refine rn_iret dX8_hearer_117 rfl ?_
                exact hQ _ _ ⟨rfl, frS.rf⟩
              · by_cases sw5 : w = 5
                · subst sw5
                  refine rn_tabIn (o1 := 88) (t := 118) dX8_hearer_30 (by decide) (by decide) rfl rfl ?_
                  refine rn_aload_n (x := 0) (q := 119) dX8_hearer_118 rfl rfl ?_
                  refine rn_get (a := 0) (v := .inr (.inr 17)) (q := 122) dX8_hearer_119 fl_X8_33 rfl rfl rfl ?_
                  refine rn_get (a := 16) (v := .inl (eP e : Int)) (q := 125) dX8_hearer_122 fl_X8_165 rfl (am_gi q.pr) rfl ?_
                  refine rn_iload_n (x := (k : Int)) (q := 126) dX8_hearer_125 rfl rfl ?_
                  refine rn_ishr (q := 127) dX8_hearer_126 rfl ?_
                  refine rn_iconst (q := 128) dX8_hearer_127 (am_okd rfl) rfl ?_
                  refine rn_iand (q := 129) dX8_hearer_128 rfl ?_
                  rw [am_bit (b := eP e) (i := k) (by omega) (by omega)]
                  by_cases b128 : Nat.testBit (eP e) k = true
                  · rw [if_pos b128]
                    refine rn_iret dX8_hearer_129 rfl ?_
                    first | exact hQ _ _ ⟨(by unfold heV; simp [b128]), frS.rf⟩
                  · rw [if_neg b128]
                    refine rn_iret dX8_hearer_129 rfl ?_
                    first | exact hQ _ _ ⟨(by unfold heV; simp [b128]), frS.rf⟩
                · refine rn_tabOut (t := 130) dX8_hearer_30 (by omega) rfl ?_
                  refine rn_aload_n (x := 0) (q := 131) dX8_hearer_130 rfl rfl ?_
                  refine rn_iload_n (x := (k : Int)) (q := 132) dX8_hearer_131 rfl rfl ?_
                  refine rn_callV (b := 0) (as := [.inl (k : Int)]) (rest := []) (q := 135) dX8_hearer_132 ml_X8_181 sm_X8_mayTonight rfl rfl (by decide) (by omega) rfl rfl (Nat.le_of_ble_eq_true rfl) rfl (c_mayTonight (d := d + 0) q k (by omega)) ?_
                  intro r132 mem132 hq132
                  obtain ⟨rfl, hf132, -⟩ := hq132
                  show am_Rn l G _ _ 135 [some (.inr (.inr 1)), some (.inl (k : Int)), some (.inl w)] [.inl (mvK X h sn sg e (eP e) k)] mem132 _
                  refine rn_iret dX8_hearer_135 rfl ?_
                  exact hQ _ _ ⟨(by unfold heV; rw [if_neg (by omega), if_neg (by omega), if_neg (by omega), if_neg (by omega), if_neg (by omega), if_neg (by omega)]; rfl), hf132⟩
  · show am_Rn l G _ _ 8 [some (.inr (.inr 1)), some (.inl (k : Int)), some (.inl w)] [.inl 0] mem _
    refine rn_ifeq (t := 21) (q := 11) dX8_hearer_8 rfl rfl (fun w8 => ?_) (fun h => absurd h (by decide))
    exfalso; omega
theorem c_rowI (q : CQ r X C sn sg h e NB mem) {R : List Int} (hR : c_row R mem) (k : Nat) (hk : k < R.length) : am_Sm l G yX8_row mt_X8_row d [.inr (.inr 1), .inl (k : Int)] mem (fun q m => q = some (.inr (.inl (R.getD k 0))) ∧ mem = m) := by
  refine am_enterQ (ls := [some (.inr (.inr 1)), some (.inl (k : Int))]) (by decide) rfl (Nat.le_of_ble_eq_true rfl) rfl (fun hok Q hQ => ?_)
  have h9 := hR.2.1
  refine rn_iload_n (x := (k : Int)) (q := 1) dX8_row_0 rfl rfl ?_
  refine rn_iflt (t := 15) (q := 4) dX8_row_1 rfl rfl (fun w1 => ?_) (fun w1 => ?_)
  · exfalso; omega
  · refine rn_iload_n (x := (k : Int)) (q := 5) dX8_row_4 rfl rfl ?_
    refine rn_aload_n (x := 0) (q := 6) dX8_row_5 rfl rfl ?_
    refine rn_get (a := 0) (v := .inr (.inr 4)) (q := 9) dX8_row_6 fl_X8_19 rfl rfl rfl ?_
    refine rn_get (a := 3) (v := .inl (R.length : Int)) (q := 12) dX8_row_9 fl_X8_440 rfl (am_gi hR.1) rfl ?_
    refine rn_cmplt (t := 23) (q := 15) dX8_row_12 rfl rfl (fun w12 => ?_) (fun w12 => ?_)
    · refine rn_aload_n (x := 0) (q := 24) dX8_row_23 rfl rfl ?_
      refine rn_get (a := 0) (v := .inr (.inr 4)) (q := 27) dX8_row_24 fl_X8_19 rfl rfl rfl ?_
      refine rn_get (a := 3) (v := .inr (.inr 5)) (q := 30) dX8_row_27 fl_X8_441 rfl rfl rfl ?_
      refine rn_iload_n (x := (k : Int)) (q := 31) dX8_row_30 rfl rfl ?_
      refine rn_laldV (a := 4) (v := (R.getD k 0)) (q := 32) dX8_row_31 rfl (by omega) (by omega) (hR.2.2 k (by omega)) rfl ?_
      refine rn_lret dX8_row_32 rfl ?_
      exact hQ _ _ ⟨rfl, rfl⟩
    · exfalso; omega
theorem m_hearer (q : DQ X sn sg h e NB mem) (i w : Int) : am_Sm l G yX9_hearer mt_X9_hearer (d + 177) [.inr (.inr 96), .inl i, .inl w] mem (fun q m => (¬ (0 ≤ i ∧ i < h.1 ∧ 0 ≤ w ∧ w ≤ 6) → q = some (.inl 0) ∧ m = am_up (am_up mem 95 11 0) 95 11 1) ∧ (0 ≤ i ∧ i < h.1 ∧ 0 ≤ w ∧ w ≤ 6 → q = some (.inl (heV X h sn sg e i.toNat w)) ∧ frS s9 mem m ∧ m 95 11 = 0)) := by
  refine am_enterQ (ls := [some (.inr (.inr 96)), some (.inl i), some (.inl w)]) (by decide) rfl (Nat.le_of_ble_eq_true rfl) rfl (fun hok Q hQ => ?_)
  have b := q.bd
  by_cases hn : 0 ≤ i ∧ i < h.1 ∧ 0 ≤ w ∧ w ≤ 6
  · obtain ⟨k, rfl⟩ : ∃ k : Nat, i = (k : Int) := ⟨i.toNat, by omega⟩
    rw [Int.toNat_natCast] at hQ
    have q0 : DQ X sn sg h e NB (am_up mem 95 11 0) := q.kept (frS.rf.up rfl)
    have f0 : frS s9 mem (am_up mem 95 11 0) := frS.rf.up rfl
    refine rn_aload_n (x := 95) (q := 1) dX9_hearer_0 rfl rfl ?_
    refine rn_iconst (q := 2) dX9_hearer_1 (am_okd rfl) rfl ?_
    refine rn_puti (a := 95) (q := 5) dX9_hearer_2 fl_X9_107 rfl rfl rfl rfl ?_
    refine rn_aload_n (x := 95) (q := 6) dX9_hearer_5 rfl rfl ?_
    refine rn_iload_n (x := (k : Int)) (q := 7) dX9_hearer_6 rfl rfl ?_
    refine rn_callV (b := 95) (as := [.inl (k : Int)]) (rest := []) (q := 10) dX9_hearer_7 ml_X9_234 sm_X9_isMan rfl rfl (by decide) (by omega) rfl rfl (Nat.le_of_ble_eq_true rfl) rfl (s_isMan9 (d := d + 175) (q.kept (frS.up (a := 95) (k := 11) (x := 0) frS.rf rfl)) (k : Int)) ?_
    intro r7 mem7 hq7
    obtain ⟨⟨rfl, hh7⟩ | ⟨rfl, hh7⟩, rfl⟩ := hq7
    · show am_Rn l G _ _ 10 [some (.inr (.inr 96)), some (.inl (k : Int)), some (.inl w)] [.inl 1] (am_up mem 95 11 0) _
      refine rn_ifeq (t := 23) (q := 13) dX9_hearer_10 rfl rfl (fun h => absurd h (by decide)) (fun w10 => ?_)
      refine rn_iload_n (x := w) (q := 14) dX9_hearer_13 rfl rfl ?_
      refine rn_iconst (q := 15) dX9_hearer_14 (am_okd rfl) rfl ?_
      refine rn_bipush (q := 17) dX9_hearer_15 ⟨by decide, by decide⟩ rfl ?_
      refine rn_callS (as := [.inl w, .inl 0, .inl 6]) (rest := []) (q := 20) dX9_hearer_17 ml_X9_116 sm_X9_in (by omega) rfl rfl (Nat.le_of_ble_eq_true rfl) rfl (s_in9 (d := d + 176) w 0 6) ?_
      intro r17 mem17 hq17
      obtain ⟨⟨rfl, hi17⟩ | ⟨rfl, hi17⟩, rfl⟩ := hq17
      · show am_Rn l G _ _ 20 [some (.inr (.inr 96)), some (.inl (k : Int)), some (.inl w)] [.inl 1] (am_up mem 95 11 0) _
        refine rn_ifne (t := 28) (q := 23) dX9_hearer_20 rfl rfl (fun w20 => ?_) (fun h => absurd h (by decide))
        refine rn_iload_n (x := w) (q := 29) dX9_hearer_28 rfl rfl ?_
        by_cases sw0 : w = 0
        · subst sw0
          refine rn_tabIn (o1 := 39) (t := 68) dX9_hearer_29 (by decide) (by decide) rfl rfl ?_
          refine rn_aload_n (x := 95) (q := 69) dX9_hearer_68 rfl rfl ?_
          refine rn_get (a := 95) (v := .inr (.inr 98)) (q := 72) dX9_hearer_69 fl_X9_13 rfl rfl rfl ?_
          refine rn_iload_n (x := (k : Int)) (q := 73) dX9_hearer_72 rfl rfl ?_
          refine rn_ialdV (a := 97) (v := (h.2.1 k : Int)) (q := 74) dX9_hearer_73 rfl (by omega) (by omega) ((q.kept (frS.up (a := 95) (k := 11) (x := 0) frS.rf rfl)).sort (by omega)) rfl ?_
          refine rn_iret dX9_hearer_74 rfl ?_
          exact hQ _ _ ⟨fun z => absurd hn z, fun _ => ⟨rfl, f0, rfl⟩⟩
        · by_cases sw1 : w = 1
          · subst sw1
            refine rn_tabIn (o1 := 46) (t := 75) dX9_hearer_29 (by decide) (by decide) rfl rfl ?_
            refine rn_aload_n (x := 95) (q := 76) dX9_hearer_75 rfl rfl ?_
            refine rn_get (a := 95) (v := .inr (.inr 99)) (q := 79) dX9_hearer_76 fl_X9_16 rfl rfl rfl ?_
            refine rn_iload_n (x := (k : Int)) (q := 80) dX9_hearer_79 rfl rfl ?_
            refine rn_ialdV (a := 98) (v := (h.2.2.1 k : Int)) (q := 81) dX9_hearer_80 rfl (by omega) (by omega) ((q.kept (frS.up (a := 95) (k := 11) (x := 0) frS.rf rfl)).want (by omega)) rfl ?_
            refine rn_iret dX9_hearer_81 rfl ?_
            exact hQ _ _ ⟨fun z => absurd hn z, fun _ => ⟨rfl, f0, rfl⟩⟩
          · by_cases sw2 : w = 2
            · subst sw2
              refine rn_tabIn (o1 := 53) (t := 82) dX9_hearer_29 (by decide) (by decide) rfl rfl ?_
              refine rn_aload_n (x := 95) (q := 83) dX9_hearer_82 rfl rfl ?_
              refine rn_get (a := 95) (v := .inr (.inr 100)) (q := 86) dX9_hearer_83 fl_X9_19 rfl rfl rfl ?_
              refine rn_iload_n (x := (k : Int)) (q := 87) dX9_hearer_86 rfl rfl ?_
              refine rn_ialdV (a := 99) (v := (h.2.2.2 k : Int)) (q := 88) dX9_hearer_87 rfl (by omega) (by omega) ((q.kept (frS.up (a := 95) (k := 11) (x := 0) frS.rf rfl)).pay (by omega)) rfl ?_
              refine rn_iret dX9_hearer_88 rfl ?_
              exact hQ _ _ ⟨fun z => absurd hn z, fun _ => ⟨rfl, f0, rfl⟩⟩
            · by_cases sw3 : w = 3
              · subst sw3
                refine rn_tabIn (o1 := 60) (t := 89) dX9_hearer_29 (by decide) (by decide) rfl rfl ?_
                refine rn_aload_n (x := 95) (q := 90) dX9_hearer_89 rfl rfl ?_
                refine rn_get (a := 95) (v := .inr (.inr 97)) (q := 93) dX9_hearer_90 fl_X9_9 rfl rfl rfl ?_
                refine rn_iload_n (x := (k : Int)) (q := 94) dX9_hearer_93 rfl rfl ?_
                refine rn_ialdV (a := 96) (v := (eH e k : Int)) (q := 95) dX9_hearer_94 rfl (by omega) (by omega) ((q.kept (frS.up (a := 95) (k := 11) (x := 0) frS.rf rfl)).hd (by omega)) rfl ?_
                refine rn_iret dX9_hearer_95 rfl ?_
                exact hQ _ _ ⟨fun z => absurd hn z, fun _ => ⟨rfl, f0, rfl⟩⟩
              · by_cases sw4 : w = 4
                · subst sw4
                  refine rn_tabIn (o1 := 67) (t := 96) dX9_hearer_29 (by decide) (by decide) rfl rfl ?_
                  refine rn_aload_n (x := 95) (q := 97) dX9_hearer_96 rfl rfl ?_
                  refine rn_get (a := 95) (v := .inr (.inr 97)) (q := 100) dX9_hearer_97 fl_X9_9 rfl rfl rfl ?_
                  refine rn_bipush (q := 102) dX9_hearer_100 ⟨by decide, by decide⟩ rfl ?_
                  refine rn_iload_n (x := (k : Int)) (q := 103) dX9_hearer_102 rfl rfl ?_
                  refine rn_iaddN (z := ((8 + k : Nat) : Int)) (q := 104) dX9_hearer_103 (by omega) (by unfold am_ok; omega) rfl ?_
                  refine rn_ialdV (a := 96) (v := (eS e k : Int)) (q := 105) dX9_hearer_104 rfl (by omega) (by omega) ((q.kept (frS.up (a := 95) (k := 11) (x := 0) frS.rf rfl)).sc (by omega)) rfl ?_
                  refine rn_iret dX9_hearer_105 rfl ?_
                  exact hQ _ _ ⟨fun z => absurd hn z, fun _ => ⟨rfl, f0, rfl⟩⟩
                · by_cases sw5 : w = 5
                  · subst sw5
                    refine rn_tabIn (o1 := 77) (t := 106) dX9_hearer_29 (by decide) (by decide) rfl rfl ?_
                    refine rn_aload_n (x := 95) (q := 107) dX9_hearer_106 rfl rfl ?_
                    refine rn_get (a := 95) (v := .inr (.inr 97)) (q := 110) dX9_hearer_107 fl_X9_9 rfl rfl rfl ?_
                    refine rn_bipush (q := 112) dX9_hearer_110 ⟨by decide, by decide⟩ rfl ?_
                    refine rn_iload_n (x := (k : Int)) (q := 113) dX9_hearer_112 rfl rfl ?_
                    refine rn_iaddN (z := ((16 + k : Nat) : Int)) (q := 114) dX9_hearer_113 (by omega) (by unfold am_ok; omega) rfl ?_
                    refine rn_ialdV (a := 96) (v := (if (eP e).testBit k then 1 else 0)) (q := 115) dX9_hearer_114 rfl (by omega) (by omega) ((q.kept (frS.up (a := 95) (k := 11) (x := 0) frS.rf rfl)).pr (by omega)) rfl ?_
                    refine rn_iret dX9_hearer_115 rfl ?_
                    exact hQ _ _ ⟨fun z => absurd hn z, fun _ => ⟨rfl, f0, rfl⟩⟩
                  · refine rn_tabOut (t := 116) dX9_hearer_29 (by omega) rfl ?_
                    refine rn_aload_n (x := 95) (q := 117) dX9_hearer_116 rfl rfl ?_
                    refine rn_aload_n (x := 95) (q := 118) dX9_hearer_117 rfl rfl ?_
                    refine rn_get (a := 95) (v := .inr (.inr 97)) (q := 121) dX9_hearer_118 fl_X9_9 rfl rfl rfl ?_
                    refine rn_iload_n (x := (k : Int)) (q := 122) dX9_hearer_121 rfl rfl ?_
                    refine rn_callV (b := 95) (as := [.inr (.inr 97), .inl (k : Int)]) (rest := []) (q := 125) dX9_hearer_122 ml_X9_241 sm_X9_mayOf rfl rfl (by decide) (by omega) rfl rfl (Nat.le_of_ble_eq_true rfl) rfl (s_mayOf9 (d := d + 0) (arr := 96) rfl (by decide) (by decide) q0.1.1 q0.1.2 q0.rl q0.sng q0.hs (by have := q.2.2.2.2.2.2.2; omega) q0.eo q0.es q0.2.2.1 k (by omega)) ?_
                    intro r122 mem122 hq122
                    obtain ⟨rfl, hf122⟩ := hq122
                    show am_Rn l G _ _ 125 [some (.inr (.inr 96)), some (.inl (k : Int)), some (.inl w)] [.inl (mvE X h sn sg e k)] mem122 _
                    refine rn_iret dX9_hearer_125 rfl ?_
                    exact hQ _ _ ⟨fun z => absurd hn z, fun _ => ⟨(by unfold heV; rw [if_neg (by omega), if_neg (by omega), if_neg (by omega), if_neg (by omega), if_neg (by omega), if_neg (by omega)]), f0.tr hf122.to9, (hf122.2 11 (by decide)).trans rfl⟩⟩
      · show am_Rn l G _ _ 20 [some (.inr (.inr 96)), some (.inl (k : Int)), some (.inl w)] [.inl 0] (am_up mem 95 11 0) _
        refine rn_ifne (t := 28) (q := 23) dX9_hearer_20 rfl rfl (fun h => absurd h (by decide)) (fun w20 => ?_)
        exfalso; omega
    · show am_Rn l G _ _ 10 [some (.inr (.inr 96)), some (.inl (k : Int)), some (.inl w)] [.inl 0] (am_up mem 95 11 0) _
      refine rn_ifeq (t := 23) (q := 13) dX9_hearer_10 rfl rfl (fun w10 => ?_) (fun h => absurd h (by decide))
      exfalso; omega
  · refine rn_aload_n (x := 95) (q := 1) dX9_hearer_0 rfl rfl ?_
    refine rn_iconst (q := 2) dX9_hearer_1 (am_okd rfl) rfl ?_
    refine rn_puti (a := 95) (q := 5) dX9_hearer_2 fl_X9_107 rfl rfl rfl rfl ?_
    refine rn_aload_n (x := 95) (q := 6) dX9_hearer_5 rfl rfl ?_
    refine rn_iload_n (x := i) (q := 7) dX9_hearer_6 rfl rfl ?_
    refine rn_callV (b := 95) (as := [.inl i]) (rest := []) (q := 10) dX9_hearer_7 ml_X9_234 sm_X9_isMan rfl rfl (by decide) (by omega) rfl rfl (Nat.le_of_ble_eq_true rfl) rfl (s_isMan9 (d := d + 175) (q.kept (frS.up (a := 95) (k := 11) (x := 0) frS.rf rfl)) i) ?_
    intro r7 mem7 hq7
    obtain ⟨⟨rfl, hh7⟩ | ⟨rfl, hh7⟩, rfl⟩ := hq7
    · show am_Rn l G _ _ 10 [some (.inr (.inr 96)), some (.inl i), some (.inl w)] [.inl 1] (am_up mem 95 11 0) _
      refine rn_ifeq (t := 23) (q := 13) dX9_hearer_10 rfl rfl (fun h => absurd h (by decide)) (fun w10 => ?_)
      refine rn_iload_n (x := w) (q := 14) dX9_hearer_13 rfl rfl ?_
      refine rn_iconst (q := 15) dX9_hearer_14 (am_okd rfl) rfl ?_
      refine rn_bipush (q := 17) dX9_hearer_15 ⟨by decide, by decide⟩ rfl ?_
      refine rn_callS (as := [.inl w, .inl 0, .inl 6]) (rest := []) (q := 20) dX9_hearer_17 ml_X9_116 sm_X9_in (by omega) rfl rfl (Nat.le_of_ble_eq_true rfl) rfl (s_in9 (d := d + 176) w 0 6) ?_
      intro r17 mem17 hq17
      obtain ⟨⟨rfl, hi17⟩ | ⟨rfl, hi17⟩, rfl⟩ := hq17
      · show am_Rn l G _ _ 20 [some (.inr (.inr 96)), some (.inl i), some (.inl w)] [.inl 1] (am_up mem 95 11 0) _
        refine rn_ifne (t := 28) (q := 23) dX9_hearer_20 rfl rfl (fun w20 => ?_) (fun h => absurd h (by decide))
        exfalso; omega
      · show am_Rn l G _ _ 20 [some (.inr (.inr 96)), some (.inl i), some (.inl w)] [.inl 0] (am_up mem 95 11 0) _
        refine rn_ifne (t := 28) (q := 23) dX9_hearer_20 rfl rfl (fun h => absurd h (by decide)) (fun w20 => ?_)
        refine rn_aload_n (x := 95) (q := 24) dX9_hearer_23 rfl rfl ?_
        refine rn_callV (b := 95) (as := []) (rest := []) (q := 27) dX9_hearer_24 ml_X9_238 sm_X9_lost rfl rfl (by decide) (by omega) rfl rfl (Nat.le_of_ble_eq_true rfl) rfl (s_lost9 (d := d + 176) ) ?_
        intro r24 mem24 hq24
        obtain ⟨rfl, rfl⟩ := hq24
        show am_Rn l G _ _ 27 [some (.inr (.inr 96)), some (.inl i), some (.inl w)] [.inl 0] (am_up (am_up mem 95 11 0) 95 11 1) _
        refine rn_iret dX9_hearer_27 rfl ?_
        exact hQ _ _ ⟨fun _ => ⟨rfl, rfl⟩, fun z => absurd z hn⟩
    · show am_Rn l G _ _ 10 [some (.inr (.inr 96)), some (.inl i), some (.inl w)] [.inl 0] (am_up mem 95 11 0) _
      refine rn_ifeq (t := 23) (q := 13) dX9_hearer_10 rfl rfl (fun w10 => ?_) (fun h => absurd h (by decide))
      refine rn_aload_n (x := 95) (q := 24) dX9_hearer_23 rfl rfl ?_
      refine rn_callV (b := 95) (as := []) (rest := []) (q := 27) dX9_hearer_24 ml_X9_238 sm_X9_lost rfl rfl (by decide) (by omega) rfl rfl (Nat.le_of_ble_eq_true rfl) rfl (s_lost9 (d := d + 176) ) ?_
      intro r24 mem24 hq24
      obtain ⟨rfl, rfl⟩ := hq24
      show am_Rn l G _ _ 27 [some (.inr (.inr 96)), some (.inl i), some (.inl w)] [.inl 0] (am_up (am_up mem 95 11 0) 95 11 1) _
      refine rn_iret dX9_hearer_27 rfl ?_
      exact hQ _ _ ⟨fun _ => ⟨rfl, rfl⟩, fun z => absurd z hn⟩
theorem m_rowI (hR : m_row R mem) (i : Int) : am_Sm l G yX9_row mt_X9_row (d + 2) [.inr (.inr 96), .inl i] mem (fun q m => (¬ (0 ≤ i ∧ i < R.length) → q = some (.inr (.inl 0)) ∧ m = am_up (am_up mem 95 11 0) 95 11 1) ∧ (0 ≤ i ∧ i < R.length → q = some (.inr (.inl (R.getD i.toNat 0))) ∧ m = am_up mem 95 11 0)) := by
  refine am_enterQ (ls := [some (.inr (.inr 96)), some (.inl i)]) (by decide) rfl (Nat.le_of_ble_eq_true rfl) rfl (fun hok Q hQ => ?_)
  have h9 := hR.2.1
  by_cases hn : 0 ≤ i ∧ i < R.length
  · obtain ⟨k, rfl⟩ : ∃ k : Nat, i = (k : Int) := ⟨i.toNat, by omega⟩
    rw [Int.toNat_natCast] at hQ
    refine rn_aload_n (x := 95) (q := 1) dX9_row_0 rfl rfl ?_
    refine rn_iconst (q := 2) dX9_row_1 (am_okd rfl) rfl ?_
    refine rn_puti (a := 95) (q := 5) dX9_row_2 fl_X9_107 rfl rfl rfl rfl ?_
    refine rn_iload_n (x := (k : Int)) (q := 6) dX9_row_5 rfl rfl ?_
    refine rn_iconst (q := 7) dX9_row_6 (am_okd rfl) rfl ?_
    refine rn_aload_n (x := 95) (q := 8) dX9_row_7 rfl rfl ?_
    refine rn_get (a := 95) (v := .inl (R.length : Int)) (q := 11) dX9_row_8 fl_X9_110 rfl (am_gi hR.1) rfl ?_
    refine rn_iconst (q := 12) dX9_row_11 (am_okd rfl) rfl ?_
    refine rn_isubN (z := ((R.length : Int) - 1)) (q := 13) dX9_row_12 rfl (by unfold am_ok; omega) rfl ?_
    refine rn_callS (as := [.inl (k : Int), .inl 0, .inl ((R.length : Int) - 1)]) (rest := []) (q := 16) dX9_row_13 ml_X9_116 sm_X9_in (by omega) rfl rfl (Nat.le_of_ble_eq_true rfl) rfl (s_in9 (d := d + 1) (k : Int) 0 ((R.length : Int) - 1)) ?_
    intro r13 mem13 hq13
    obtain ⟨⟨rfl, hi13⟩ | ⟨rfl, hi13⟩, rfl⟩ := hq13
    · show am_Rn l G _ _ 16 [some (.inr (.inr 96)), some (.inl (k : Int))] [.inl 1] (am_up mem 95 11 0) _
      refine rn_ifeq (t := 28) (q := 19) dX9_row_16 rfl rfl (fun h => absurd h (by decide)) (fun w16 => ?_)
      refine rn_aload_n (x := 95) (q := 20) dX9_row_19 rfl rfl ?_
      refine rn_get (a := 95) (v := .inr (.inr 103)) (q := 23) dX9_row_20 fl_X9_33 rfl rfl rfl ?_
      refine rn_iload_n (x := (k : Int)) (q := 24) dX9_row_23 rfl rfl ?_
      refine rn_laldV (a := 102) (v := (R.getD k 0)) (q := 25) dX9_row_24 rfl (by omega) (by omega) (hR.2.2 k (by omega)) rfl ?_
      refine rn_goto (t := 33) dX9_row_25 rfl ?_
      refine rn_lret dX9_row_33 rfl ?_
      exact hQ _ _ ⟨fun z => absurd hn z, fun _ => ⟨rfl, rfl⟩⟩
    · show am_Rn l G _ _ 16 [some (.inr (.inr 96)), some (.inl (k : Int))] [.inl 0] (am_up mem 95 11 0) _
      refine rn_ifeq (t := 28) (q := 19) dX9_row_16 rfl rfl (fun w16 => ?_) (fun h => absurd h (by decide))
      exfalso; omega
  · refine rn_aload_n (x := 95) (q := 1) dX9_row_0 rfl rfl ?_
    refine rn_iconst (q := 2) dX9_row_1 (am_okd rfl) rfl ?_
    refine rn_puti (a := 95) (q := 5) dX9_row_2 fl_X9_107 rfl rfl rfl rfl ?_
    refine rn_iload_n (x := i) (q := 6) dX9_row_5 rfl rfl ?_
    refine rn_iconst (q := 7) dX9_row_6 (am_okd rfl) rfl ?_
    refine rn_aload_n (x := 95) (q := 8) dX9_row_7 rfl rfl ?_
    refine rn_get (a := 95) (v := .inl (R.length : Int)) (q := 11) dX9_row_8 fl_X9_110 rfl (am_gi hR.1) rfl ?_
    refine rn_iconst (q := 12) dX9_row_11 (am_okd rfl) rfl ?_
    refine rn_isubN (z := ((R.length : Int) - 1)) (q := 13) dX9_row_12 rfl (by unfold am_ok; omega) rfl ?_
    refine rn_callS (as := [.inl i, .inl 0, .inl ((R.length : Int) - 1)]) (rest := []) (q := 16) dX9_row_13 ml_X9_116 sm_X9_in (by omega) rfl rfl (Nat.le_of_ble_eq_true rfl) rfl (s_in9 (d := d + 1) i 0 ((R.length : Int) - 1)) ?_
    intro r13 mem13 hq13
    obtain ⟨⟨rfl, hi13⟩ | ⟨rfl, hi13⟩, rfl⟩ := hq13
    · show am_Rn l G _ _ 16 [some (.inr (.inr 96)), some (.inl i)] [.inl 1] (am_up mem 95 11 0) _
      refine rn_ifeq (t := 28) (q := 19) dX9_row_16 rfl rfl (fun h => absurd h (by decide)) (fun w16 => ?_)
      exfalso; omega
    · show am_Rn l G _ _ 16 [some (.inr (.inr 96)), some (.inl i)] [.inl 0] (am_up mem 95 11 0) _
      refine rn_ifeq (t := 28) (q := 19) dX9_row_16 rfl rfl (fun w16 => ?_) (fun h => absurd h (by decide))
      refine rn_aload_n (x := 95) (q := 29) dX9_row_28 rfl rfl ?_
      refine rn_callV (b := 95) (as := []) (rest := []) (q := 32) dX9_row_29 ml_X9_238 sm_X9_lost rfl rfl (by decide) (by omega) rfl rfl (Nat.le_of_ble_eq_true rfl) rfl (s_lost9 (d := d + 1) ) ?_
      intro r29 mem29 hq29
      obtain ⟨rfl, rfl⟩ := hq29
      show am_Rn l G _ _ 32 [some (.inr (.inr 96)), some (.inl i)] [.inl 0] (am_up (am_up mem 95 11 0) 95 11 1) _
      refine rn_i2l (q := 33) dX9_row_32 rfl ?_
      refine rn_lret dX9_row_33 rfl ?_
      exact hQ _ _ ⟨fun _ => ⟨rfl, rfl⟩, fun z => absurd z hn⟩
end P9e
