/-! years of the class, whole -/
section P88
variable {l : Launch} {G : am_G} {d : Nat} {r : Nat} {X : List Nat} {C : List Int} {sn : Nat} {sg : Nat → Nat} {h : hrs} {e : est} {NB : Nat} {mem m : am_M}
theorem c_years (q : CQ r X C sn sg h e NB mem) {R : List Int} (hR : c_row R mem) (hN : NB + 60 < 900000) (v n : Int) : am_Sm l G yX8_years mt_X8_years (d + 7) [.inr (.inr 1), .inl v, .inl n] mem (fun q m => (¬ (1 ≤ n ∧ n ≤ 60) → QC (-1) R mem q m) ∧ (1 ≤ n ∧ n ≤ 60 → QC (eB (yrI X h sn sg v e n.toNat).2 : Int) [(eM (yrI X h sn sg v e n.toNat).2 : Int), (((List.range h.1).map (eH (yrI X h sn sg v e n.toNat).2)).sum : Nat)] mem q m)) := by
  refine am_enterQ (ls := [some (.inr (.inr 1)), some (.inl v), some (.inl n), none]) (by decide) rfl (Nat.le_of_ble_eq_true rfl) rfl (fun hok Q hQ => ?_)
  have b := q.bd
  by_cases hn : 1 ≤ n ∧ n ≤ 60
  · have L : ∀ i : Nat, i ≤ n.toNat → ∀ (m : am_M), m 0 19 = (yrI X h sn sg v e i).1 → c_est (yrI X h sn sg v e i).2 22 m → frS s8 mem m → am_Rn l G mt_X8_years (d + 7) 31 [some (.inr (.inr 1)), some (.inl v), some (.inl n), some (.inl (i : Int))] [] m Q := by
      refine am_dn n.toNat (fun i hi ih m hv hE hf => ?_)
      have hy := yrI_ok (X := X) (sn := sn) (sg := sg) (v := v) q.eo i
      have hqm := q.kept hf.r8
      have hs := sum99 hy.1 h.1
      refine rn_iload_n (x := (i : Int)) (q := 32) dX8_years_31 rfl rfl ?_
      refine rn_iload_n (x := n) (q := 33) dX8_years_32 rfl rfl ?_
      refine rn_cmpge (t := 46) (q := 36) dX8_years_33 rfl rfl (fun w33 => ?_) (fun w33 => ?_)
      · refine rn_aload_n (x := 0) (q := 47) dX8_years_46 rfl rfl ?_
        refine rn_get (a := 0) (v := .inr (.inr 4)) (q := 50) dX8_years_47 fl_X8_19 rfl rfl rfl ?_
        refine rn_aload_n (x := 0) (q := 51) dX8_years_50 rfl rfl ?_
        refine rn_get (a := 0) (v := .inr (.inr 23)) (q := 54) dX8_years_51 fl_X8_40 rfl rfl rfl ?_
        refine rn_get (a := 22) (v := .inl (eM (yrI X h sn sg v e i).2 : Int)) (q := 57) dX8_years_54 fl_X8_223 rfl (am_gi hE.2.2.2.2.2.1) rfl ?_
        refine rn_i2l (q := 58) dX8_years_57 rfl ?_
        refine rn_aload_n (x := 0) (q := 59) dX8_years_58 rfl rfl ?_
        refine rn_get (a := 0) (v := .inr (.inr 23)) (q := 62) dX8_years_59 fl_X8_40 rfl rfl rfl ?_
        refine rn_aload_n (x := 0) (q := 63) dX8_years_62 rfl rfl ?_
        refine rn_get (a := 0) (v := .inr (.inr 6)) (q := 66) dX8_years_63 fl_X8_26 rfl rfl rfl ?_
        refine rn_get (a := 5) (v := .inl (h.1 : Int)) (q := 69) dX8_years_66 fl_X8_136 rfl (am_gi hqm.n) rfl ?_
        refine rn_callV (b := 22) (as := [.inl (h.1 : Int)]) (rest := [.inr (.inl (eM (yrI X h sn sg v e i).2 : Int)), .inr (.inr 4)]) (q := 72) dX8_years_69 ml_X8_206 sm_X0_heardOfAll rfl rfl (by decide) (by omega) rfl rfl (Nat.le_of_ble_eq_true rfl) rfl (c_heardOfAll (d := d + 6) (a := 22) (n := h.1) (show 22 ∈ am_estL by decide) b.1 (eH (yrI X h sn sg v e i).2) hE.1 hy.1) ?_
        intro r69 mem69 hq69
        obtain ⟨rfl, rfl⟩ := hq69
        show am_Rn l G _ _ 72 [some (.inr (.inr 1)), some (.inl v), some (.inl n), some (.inl (i : Int))] [.inl (((List.range h.1).map (eH (yrI X h sn sg v e i).2)).sum : Nat), .inr (.inl (eM (yrI X h sn sg v e i).2 : Int)), .inr (.inr 4)] m _
        refine rn_i2l (q := 73) dX8_years_72 rfl ?_
        refine rn_callV (b := 3) (as := [.inr (.inl (eM (yrI X h sn sg v e i).2 : Int)), .inr (.inl (((List.range h.1).map (eH (yrI X h sn sg v e i).2)).sum : Nat))]) (rest := []) (q := 76) dX8_years_73 ml_X8_229 sm_X3_tell_ rfl rfl (by decide) (by omega) rfl rfl (Nat.le_of_ble_eq_true rfl) rfl (s_Rtell2 (d := d + 5) (eM (yrI X h sn sg v e i).2 : Int) (((List.range h.1).map (eH (yrI X h sn sg v e i).2)).sum : Nat)) ?_
        intro r73 mem73 hq73
        obtain ⟨rfl, hr73, hf73⟩ := hq73
        show am_Rn l G _ _ 76 [some (.inr (.inr 1)), some (.inl v), some (.inl n), some (.inl (i : Int))] [] mem73 _
        refine rn_aload_n (x := 0) (q := 77) dX8_years_76 rfl rfl ?_
        refine rn_get (a := 0) (v := .inr (.inr 23)) (q := 80) dX8_years_77 fl_X8_40 rfl rfl rfl ?_
        refine rn_get (a := 22) (v := .inl (eB (yrI X h sn sg v e i).2 : Int)) (q := 83) dX8_years_80 fl_X8_256 rfl (am_gi ((congrFun (hf73 22 (by decide) (by decide)) 4).trans hE.2.2.2.2.1)) rfl ?_
        refine rn_iret dX8_years_83 rfl ?_
        obtain rfl : i = n.toNat := by omega
        exact hQ _ _ ⟨fun z => absurd hn z, fun _ => ⟨rfl, hf.r8.tr (fr_row hf73), hr73⟩⟩
      · refine rn_aload_n (x := 0) (q := 37) dX8_years_36 rfl rfl ?_
        refine rn_callV (b := 0) (as := []) (rest := []) (q := 40) dX8_years_37 ml_X8_427 sm_X8_drawYear rfl rfl (by decide) (by omega) rfl rfl (Nat.le_of_ble_eq_true rfl) rfl (c_drawYear (d := d + 0) hqm (k := i) (by omega) (by omega) hy hE _ hv) ?_
        intro r37 mem37 hq37
        obtain ⟨rfl, hv37, he37, hf37⟩ := hq37
        show am_Rn l G _ _ 40 [some (.inr (.inr 1)), some (.inl v), some (.inl n), some (.inl (i : Int))] [] mem37 _
        refine rn_iincN (x := (i : Int)) (z := ((i + 1 : Nat) : Int)) (ls' := [some (.inr (.inr 1)), some (.inl v), some (.inl n), some (.inl ((i + 1 : Nat) : Int))]) (q := 43) dX8_years_40 rfl (by decide) (by omega) (by unfold am_ok; omega) rfl rfl ?_
        refine rn_goto (t := 31) dX8_years_43 rfl ?_
        exact ih (by omega) _ hv37 he37 (hf.tr hf37)
    refine rn_iload_n (x := n) (q := 1) dX8_years_0 rfl rfl ?_
    refine rn_iconst (q := 2) dX8_years_1 (am_okd rfl) rfl ?_
    refine rn_cmplt (t := 11) (q := 5) dX8_years_2 rfl rfl (fun w2 => ?_) (fun w2 => ?_)
    · refine rn_iconst (q := 12) dX8_years_11 (am_okd rfl) rfl ?_
      refine rn_iret dX8_years_12 rfl ?_
      exfalso; omega
    · refine rn_iload_n (x := n) (q := 6) dX8_years_5 rfl rfl ?_
      refine rn_bipush (q := 8) dX8_years_6 ⟨by decide, by decide⟩ rfl ?_
      refine rn_cmple (t := 13) (q := 11) dX8_years_8 rfl rfl (fun w8 => ?_) (fun w8 => ?_)
      · refine rn_aload_n (x := 0) (q := 14) dX8_years_13 rfl rfl ?_
        refine rn_get (a := 0) (v := .inr (.inr 23)) (q := 17) dX8_years_14 fl_X8_40 rfl rfl rfl ?_
        refine rn_aload_n (x := 0) (q := 18) dX8_years_17 rfl rfl ?_
        refine rn_get (a := 0) (v := .inr (.inr 17)) (q := 21) dX8_years_18 fl_X8_33 rfl rfl rfl ?_
        refine rn_callV (b := 22) (as := [.inr (.inr 17)]) (rest := []) (q := 24) dX8_years_21 ml_X8_212 sm_X0_copy rfl rfl (by decide) (by omega) rfl rfl (Nat.le_of_ble_eq_true rfl) rfl (c_copyA (d := d + 6) q) ?_
        intro r21 mem21 hq21
        obtain ⟨rfl, he21, hf21⟩ := hq21
        show am_Rn l G _ _ 24 [some (.inr (.inr 1)), some (.inl v), some (.inl n), none] [] mem21 _
        refine rn_aload_n (x := 0) (q := 25) dX8_years_24 rfl rfl ?_
        refine rn_iload_n (x := v) (q := 26) dX8_years_25 rfl rfl ?_
        refine rn_puti (a := 0) (q := 29) dX8_years_26 fl_X8_424 rfl rfl rfl rfl ?_
        refine rn_iconst (q := 30) dX8_years_29 (am_okd rfl) rfl ?_
        refine rn_istore_n (ls' := [some (.inr (.inr 1)), some (.inl v), some (.inl n), some (.inl 0)]) (q := 31) dX8_years_30 (by decide) rfl rfl ?_
        exact L 0 (Nat.zero_le _) _ rfl (he21.kept rfl rfl rfl) (hf21.up rfl)
      · refine rn_iconst (q := 12) dX8_years_11 (am_okd rfl) rfl ?_
        refine rn_iret dX8_years_12 rfl ?_
        exfalso; omega
  · refine rn_iload_n (x := n) (q := 1) dX8_years_0 rfl rfl ?_
    refine rn_iconst (q := 2) dX8_years_1 (am_okd rfl) rfl ?_
    refine rn_cmplt (t := 11) (q := 5) dX8_years_2 rfl rfl (fun w2 => ?_) (fun w2 => ?_)
    · refine rn_iconst (q := 12) dX8_years_11 (am_okd rfl) rfl ?_
      refine rn_iret dX8_years_12 rfl ?_
      exact hQ _ _ ⟨fun _ => ⟨rfl, frS.rf, hR⟩, fun z => absurd z hn⟩
    · refine rn_iload_n (x := n) (q := 6) dX8_years_5 rfl rfl ?_
      refine rn_bipush (q := 8) dX8_years_6 ⟨by decide, by decide⟩ rfl ?_
      refine rn_cmple (t := 13) (q := 11) dX8_years_8 rfl rfl (fun w8 => ?_) (fun w8 => ?_)
      · exfalso; omega
      · refine rn_iconst (q := 12) dX8_years_11 (am_okd rfl) rfl ?_
        refine rn_iret dX8_years_12 rfl ?_
        exact hQ _ _ ⟨fun _ => ⟨rfl, frS.rf, hR⟩, fun z => absurd z hn⟩
end P88
