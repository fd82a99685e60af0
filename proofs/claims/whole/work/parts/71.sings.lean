/-! sings, counts -/
def sS (p n : Nat) (w : Nat → Nat) (v : Nat) : Nat := sA (cw p w n) v (91 - v)
def cnP (p n q : Nat) (w : Nat → Nat) (v : Nat) : Bool := decide (q * 10 ^ n ≤ sS p n w v * 100)
theorem sA12 {p n v : Nat} {w : Nat → Nat} (hp : p ≤ 10) (hn : n ≤ 10) {j : Nat} (hj : j ≤ 100) : sA (cw p w n) v j ≤ 1000000000000 := by
  have h1 := sA_le (f := cw p w n) (v := v) (cw10 hp hn) j
  have h2 : 10000000000 * j ≤ 10000000000 * 100 := Nat.mul_le_mul_left _ hj
  omega
theorem mulQ {q m : Nat} (hq : q ≤ 100) (hm : m ≤ 10000000000) : ∃ y : Nat, y ≤ 1000000000000 ∧ y = q * m ∧ (q : Int) * (m : Int) = (y : Int) := ⟨q * m, by have := Nat.mul_le_mul hq hm; omega, rfl, by rw [Int.natCast_mul]⟩
section P71
variable {l : Launch} {G : am_G} {d : Nat} {r : Nat} {X : List Nat} {C : List Int} {sn : Nat} {sg : Nat → Nat} {h : hrs} {e : est} {NB : Nat} {mem m : am_M}
theorem c_sings (q : CQ r X C sn sg h e NB mem) {R : List Int} (hR : c_row R mem) (n v p : Int) : am_Sm l G yX8_sings mt_X8_sings (d + 2) [.inr (.inr 1), .inl n, .inl v, .inl p] mem (fun q m => (¬ (1 ≤ n ∧ n ≤ 10 ∧ 0 ≤ v ∧ v ≤ 99 ∧ 0 ≤ p ∧ p ≤ 10) → QC (-1) R mem q m) ∧ (1 ≤ n ∧ n ≤ 10 ∧ 0 ≤ v ∧ v ≤ 99 ∧ 0 ≤ p ∧ p ≤ 10 → QC 0 (frc (sS p.toNat n.toNat (sW sn sg e) v.toNat) (10 ^ n.toNat)) mem q m)) := by
  refine am_enterQ (ls := [some (.inr (.inr 1)), some (.inl n), some (.inl v), some (.inl p), none, none, none]) (by decide) rfl (Nat.le_of_ble_eq_true rfl) rfl (fun hok Q hQ => ?_)
  have b := q.bd
  by_cases hv : 1 ≤ n ∧ n ≤ 10 ∧ 0 ≤ v ∧ v ≤ 99 ∧ 0 ≤ p ∧ p ≤ 10
  · obtain ⟨nN, rfl⟩ : ∃ x : Nat, n = (x : Int) := ⟨n.toNat, by omega⟩
    obtain ⟨vN, rfl⟩ : ∃ x : Nat, v = (x : Int) := ⟨v.toNat, by omega⟩
    obtain ⟨pN, rfl⟩ : ∃ x : Nat, p = (x : Int) := ⟨p.toNat, by omega⟩
    have hp10 := p10_le (show nN ≤ 10 by omega)
    have hp0 : 0 < 10 ^ nN := Nat.pow_pos (by decide)
    have L : ∀ j : Nat, j ≤ 91 - vN → ∀ (m : am_M) (s : Nat), frS s8r mem m → (∀ s, s ≤ 90 → m 80 s = (cw pN (sW sn sg e) nN s : Int)) → s = sA (cw pN (sW sn sg e) nN) vN j → am_Rn l G mt_X8_sings (d + 2) 45 [some (.inr (.inr 1)), some (.inl (nN : Int)), some (.inl (vN : Int)), some (.inl (pN : Int)), some (.inr (.inl (s : Int))), none, some (.inl ((vN + j : Nat) : Int))] [] m Q := by
      refine am_dn (91 - vN) (fun j hj ih m s hf hB hs => ?_)
      have o := sA12 (p := pN) (n := nN) (v := vN) (w := sW sn sg e) (by omega) (by omega) (show j ≤ 100 by omega)
      have o2 := cw10 (p := pN) (w := sW sn sg e) (k := nN) (by omega) (by omega) (vN + j)
      refine rn_iload (x := ((vN + j : Nat) : Int)) (q := 47) dX8_sings_45 rfl rfl ?_
      refine rn_bipush (q := 49) dX8_sings_47 ⟨by decide, by decide⟩ rfl ?_
      refine rn_cmpgt (t := 70) (q := 52) dX8_sings_49 rfl rfl (fun w49 => ?_) (fun w49 => ?_)
      · refine rn_aload_n (x := 0) (q := 71) dX8_sings_70 rfl rfl ?_
        refine rn_get (a := 0) (v := .inr (.inr 4)) (q := 74) dX8_sings_71 fl_X8_19 rfl rfl rfl ?_
        refine rn_callV (b := 3) (as := []) (rest := []) (q := 77) dX8_sings_74 ml_X8_328 sm_X3_clear rfl rfl (by decide) (by omega) rfl rfl (Nat.le_of_ble_eq_true rfl) rfl (s_Rclear (d := d + 1) ) ?_
        intro r74 mem74 hq74
        obtain ⟨rfl, rfl⟩ := hq74
        show am_Rn l G _ _ 77 [some (.inr (.inr 1)), some (.inl (nN : Int)), some (.inl (vN : Int)), some (.inl (pN : Int)), some (.inr (.inl (s : Int))), none, some (.inl ((vN + j : Nat) : Int))] [] (am_up m 3 1 0) _
        refine rn_aload_n (x := 0) (q := 78) dX8_sings_77 rfl rfl ?_
        refine rn_lload (x := (s : Int)) (q := 80) dX8_sings_78 rfl rfl ?_
        refine rn_iload_n (x := (nN : Int)) (q := 81) dX8_sings_80 rfl rfl ?_
        refine rn_callS (as := [.inl (nN : Int)]) (rest := [.inr (.inl (s : Int)), .inr (.inr 1)]) (q := 84) dX8_sings_81 ml_X8_367 sm_X8_tenToThe (by omega) rfl rfl (Nat.le_of_ble_eq_true rfl) rfl (s_ten8 (d := d + 1) nN (by omega)) ?_
        intro r81 mem81 hq81
        obtain ⟨rfl, rfl⟩ := hq81
        show am_Rn l G _ _ 84 [some (.inr (.inr 1)), some (.inl (nN : Int)), some (.inl (vN : Int)), some (.inl (pN : Int)), some (.inr (.inl (s : Int))), none, some (.inl ((vN + j : Nat) : Int))] [.inr (.inl ((10 ^ nN : Nat) : Int)), .inr (.inl (s : Int)), .inr (.inr 1)] (am_up m 3 1 0) _
        refine rn_callV (b := 0) (as := [.inr (.inl (s : Int)), .inr (.inl ((10 ^ nN : Nat) : Int))]) (rest := []) (q := 87) dX8_sings_84 ml_X8_371 sm_X8_tellFraction rfl rfl (by decide) (by omega) rfl rfl (Nat.le_of_ble_eq_true rfl) rfl (s_tellFr (d := d + 0) (R := []) c_row0 (by decide) s (10 ^ nN) hp0 hp10 (by omega)) ?_
        intro r84 mem84 hq84
        obtain ⟨rfl, hr84, hf84, -⟩ := hq84
        show am_Rn l G _ _ 87 [some (.inr (.inr 1)), some (.inl (nN : Int)), some (.inl (vN : Int)), some (.inl (pN : Int)), some (.inr (.inl (s : Int))), none, some (.inl ((vN + j : Nat) : Int))] [] mem84 _
        refine rn_iconst (q := 88) dX8_sings_87 (am_okd rfl) rfl ?_
        refine rn_iret dX8_sings_88 rfl ?_
        exact hQ _ _ ⟨fun h => absurd hv h, fun _ => ⟨rfl, ((frS.up (a := 3) (k := 1) (x := 0) hf rfl).tr hf84), by show c_row (frc (sA (cw pN (sW sn sg e) nN) vN (91 - vN)) (10 ^ nN)) _; rw [show 91 - vN = j by omega, ← hs]; exact hr84⟩⟩
      · refine rn_lload (x := (s : Int)) (q := 54) dX8_sings_52 rfl rfl ?_
        refine rn_aload_n (x := 0) (q := 55) dX8_sings_54 rfl rfl ?_
        refine rn_get (a := 0) (v := .inr (.inr 81)) (q := 58) dX8_sings_55 fl_X8_83 rfl rfl rfl ?_
        refine rn_iload (x := ((vN + j : Nat) : Int)) (q := 60) dX8_sings_58 rfl rfl ?_
        refine rn_laldV (a := 80) (v := (cw pN (sW sn sg e) nN (vN + j) : Int)) (q := 61) dX8_sings_60 rfl (by omega) (by omega) (hB _ (by omega)) rfl ?_
        refine rn_laddN (z := ((s + cw pN (sW sn sg e) nN (vN + j) : Nat) : Int)) (q := 62) dX8_sings_61 (by omega) (by unfold am_okl; omega) rfl ?_
        refine rn_lstore (ls' := [some (.inr (.inr 1)), some (.inl (nN : Int)), some (.inl (vN : Int)), some (.inl (pN : Int)), some (.inr (.inl ((s + cw pN (sW sn sg e) nN (vN + j) : Nat) : Int))), none, some (.inl ((vN + j : Nat) : Int))]) (q := 64) dX8_sings_62 (by decide) rfl rfl ?_
        refine rn_iincN (x := ((vN + j : Nat) : Int)) (z := ((vN + (j + 1) : Nat) : Int)) (ls' := [some (.inr (.inr 1)), some (.inl (nN : Int)), some (.inl (vN : Int)), some (.inl (pN : Int)), some (.inr (.inl ((s + cw pN (sW sn sg e) nN (vN + j) : Nat) : Int))), none, some (.inl ((vN + (j + 1) : Nat) : Int))]) (q := 67) dX8_sings_64 rfl (by decide) (by omega) (by unfold am_ok; omega) rfl rfl ?_
        refine rn_goto (t := 45) dX8_sings_67 rfl ?_
        exact ih (by omega) m _ hf hB (by rw [sA, ← hs])
    refine rn_iload_n (x := (nN : Int)) (q := 1) dX8_sings_0 rfl rfl ?_
    refine rn_iconst (q := 2) dX8_sings_1 (am_okd rfl) rfl ?_
    refine rn_cmplt (t := 31) (q := 5) dX8_sings_2 rfl rfl (fun h => absurd h (by omega)) (fun w2 => ?_)
    refine rn_iload_n (x := (nN : Int)) (q := 6) dX8_sings_5 rfl rfl ?_
    refine rn_bipush (q := 8) dX8_sings_6 ⟨by decide, by decide⟩ rfl ?_
    refine rn_cmpgt (t := 31) (q := 11) dX8_sings_8 rfl rfl (fun h => absurd h (by omega)) (fun w8 => ?_)
    refine rn_iload_n (x := (vN : Int)) (q := 12) dX8_sings_11 rfl rfl ?_
    refine rn_iflt (t := 31) (q := 15) dX8_sings_12 rfl rfl (fun h => absurd h (by omega)) (fun w12 => ?_)
    refine rn_iload_n (x := (vN : Int)) (q := 16) dX8_sings_15 rfl rfl ?_
    refine rn_bipush (q := 18) dX8_sings_16 ⟨by decide, by decide⟩ rfl ?_
    refine rn_cmpgt (t := 31) (q := 21) dX8_sings_18 rfl rfl (fun h => absurd h (by omega)) (fun w18 => ?_)
    refine rn_iload_n (x := (pN : Int)) (q := 22) dX8_sings_21 rfl rfl ?_
    refine rn_iflt (t := 31) (q := 25) dX8_sings_22 rfl rfl (fun h => absurd h (by omega)) (fun w22 => ?_)
    refine rn_iload_n (x := (pN : Int)) (q := 26) dX8_sings_25 rfl rfl ?_
    refine rn_bipush (q := 28) dX8_sings_26 ⟨by decide, by decide⟩ rfl ?_
    refine rn_cmple (t := 33) (q := 31) dX8_sings_28 rfl rfl (fun w28 => ?_) (fun h => absurd h (by omega))
    refine rn_aload_n (x := 0) (q := 34) dX8_sings_33 rfl rfl ?_
    refine rn_iload_n (x := (nN : Int)) (q := 35) dX8_sings_34 rfl rfl ?_
    refine rn_iload_n (x := (pN : Int)) (q := 36) dX8_sings_35 rfl rfl ?_
    refine rn_callV (b := 0) (as := [.inl (nN : Int), .inl (pN : Int)]) (rest := []) (q := 39) dX8_sings_36 ml_X8_402 sm_X8_weigh rfl rfl (by decide) (by omega) rfl rfl (Nat.le_of_ble_eq_true rfl) rfl (c_weigh (d := d + 0) q nN pN (by omega) (by omega)) ?_
    intro r36 mem36 hq36
    obtain ⟨rfl, hf36, hB36⟩ := hq36
    show am_Rn l G _ _ 39 [some (.inr (.inr 1)), some (.inl (nN : Int)), some (.inl (vN : Int)), some (.inl (pN : Int)), none, none, none] [] mem36 _
    refine rn_lconst0 (q := 40) dX8_sings_39 rfl ?_
    refine rn_lstore (ls' := [some (.inr (.inr 1)), some (.inl (nN : Int)), some (.inl (vN : Int)), some (.inl (pN : Int)), some (.inr (.inl 0)), none, none]) (q := 42) dX8_sings_40 (by decide) rfl rfl ?_
    refine rn_iload_n (x := (vN : Int)) (q := 43) dX8_sings_42 rfl rfl ?_
    refine rn_istore (ls' := [some (.inr (.inr 1)), some (.inl (nN : Int)), some (.inl (vN : Int)), some (.inl (pN : Int)), some (.inr (.inl 0)), none, some (.inl (vN : Int))]) (q := 45) dX8_sings_43 (by decide) rfl rfl ?_
    exact L 0 (Nat.zero_le _) _ 0 (hf36.r8) hB36 rfl
  · refine rn_iload_n (x := n) (q := 1) dX8_sings_0 rfl rfl ?_
    refine rn_iconst (q := 2) dX8_sings_1 (am_okd rfl) rfl ?_
    refine rn_cmplt (t := 31) (q := 5) dX8_sings_2 rfl rfl (fun w2 => ?_) (fun w2 => ?_)
    · refine rn_iconst (q := 32) dX8_sings_31 (am_okd rfl) rfl ?_
      refine rn_iret dX8_sings_32 rfl ?_
      exact hQ _ _ ⟨fun _ => ⟨rfl, frS.rf, hR⟩, fun h => absurd h hv⟩
    · refine rn_iload_n (x := n) (q := 6) dX8_sings_5 rfl rfl ?_
      refine rn_bipush (q := 8) dX8_sings_6 ⟨by decide, by decide⟩ rfl ?_
      refine rn_cmpgt (t := 31) (q := 11) dX8_sings_8 rfl rfl (fun w8 => ?_) (fun w8 => ?_)
      · refine rn_iconst (q := 32) dX8_sings_31 (am_okd rfl) rfl ?_
        refine rn_iret dX8_sings_32 rfl ?_
        exact hQ _ _ ⟨fun _ => ⟨rfl, frS.rf, hR⟩, fun h => absurd h hv⟩
      · refine rn_iload_n (x := v) (q := 12) dX8_sings_11 rfl rfl ?_
        refine rn_iflt (t := 31) (q := 15) dX8_sings_12 rfl rfl (fun w12 => ?_) (fun w12 => ?_)
        · refine rn_iconst (q := 32) dX8_sings_31 (am_okd rfl) rfl ?_
          refine rn_iret dX8_sings_32 rfl ?_
          exact hQ _ _ ⟨fun _ => ⟨rfl, frS.rf, hR⟩, fun h => absurd h hv⟩
        · refine rn_iload_n (x := v) (q := 16) dX8_sings_15 rfl rfl ?_
          refine rn_bipush (q := 18) dX8_sings_16 ⟨by decide, by decide⟩ rfl ?_
          refine rn_cmpgt (t := 31) (q := 21) dX8_sings_18 rfl rfl (fun w18 => ?_) (fun w18 => ?_)
          · refine rn_iconst (q := 32) dX8_sings_31 (am_okd rfl) rfl ?_
            refine rn_iret dX8_sings_32 rfl ?_
            exact hQ _ _ ⟨fun _ => ⟨rfl, frS.rf, hR⟩, fun h => absurd h hv⟩
          · refine rn_iload_n (x := p) (q := 22) dX8_sings_21 rfl rfl ?_
            refine rn_iflt (t := 31) (q := 25) dX8_sings_22 rfl rfl (fun w22 => ?_) (fun w22 => ?_)
            · refine rn_iconst (q := 32) dX8_sings_31 (am_okd rfl) rfl ?_
              refine rn_iret dX8_sings_32 rfl ?_
              exact hQ _ _ ⟨fun _ => ⟨rfl, frS.rf, hR⟩, fun h => absurd h hv⟩
            · refine rn_iload_n (x := p) (q := 26) dX8_sings_25 rfl rfl ?_
              refine rn_bipush (q := 28) dX8_sings_26 ⟨by decide, by decide⟩ rfl ?_
              refine rn_cmple (t := 33) (q := 31) dX8_sings_28 rfl rfl (fun w28 => ?_) (fun w28 => ?_)
              · exfalso; omega
              · refine rn_iconst (q := 32) dX8_sings_31 (am_okd rfl) rfl ?_
                refine rn_iret dX8_sings_32 rfl ?_
                exact hQ _ _ ⟨fun _ => ⟨rfl, frS.rf, hR⟩, fun h => absurd h hv⟩
theorem m_sumsFrom {p n : Nat} {w : Nat → Nat} (hp : p ≤ 10) (hn : n ≤ 10) (hw : ∀ k, w k ≤ 9) (hB : ∀ s, s ≤ 99 → mem 120 s = (cw p w n s : Int)) (v : Nat) (hv : v ≤ 99) : am_Sm l G yX9_sumsFrom mt_X9_sumsFrom d [.inr (.inr 96), .inl (v : Int)] mem (am_rr (some (.inr (.inl (sS p n w v : Int)))) mem) := by
  refine am_enterQ (ls := [some (.inr (.inr 96)), some (.inl (v : Int)), none, none, none]) (by decide) rfl (Nat.le_of_ble_eq_true rfl) rfl (fun hok Q hQ => ?_)
  have L : ∀ j : Nat, j ≤ 100 - v → ∀ s : Nat, s = sA (cw p w n) v j → am_Rn l G mt_X9_sumsFrom d 5 [some (.inr (.inr 96)), some (.inl (v : Int)), some (.inr (.inl (s : Int))), none, some (.inl ((v + j : Nat) : Int))] [] mem Q := by
    refine am_dn (100 - v) (fun j hj ih s hs => ?_)
    have o := sA12 (p := p) (n := n) (v := v) (w := w) hp hn (show j ≤ 100 by omega)
    have o2 := cw10 (p := p) (w := w) (k := n) hp hn (v + j)
    refine rn_iload (x := ((v + j : Nat) : Int)) (q := 7) dX9_sumsFrom_5 rfl rfl ?_
    refine rn_bipush (q := 9) dX9_sumsFrom_7 ⟨by decide, by decide⟩ rfl ?_
    refine rn_cmpgt (t := 28) (q := 12) dX9_sumsFrom_9 rfl rfl (fun w9 => ?_) (fun w9 => ?_)
    · refine rn_lload_n (x := (s : Int)) (q := 29) dX9_sumsFrom_28 rfl rfl ?_
      refine rn_lret dX9_sumsFrom_29 rfl ?_
      exact hQ _ _ ⟨by unfold sS; rw [← cw_S hw hn hv, hs, show 100 - v = j by omega], rfl⟩
    · refine rn_lload_n (x := (s : Int)) (q := 13) dX9_sumsFrom_12 rfl rfl ?_
      refine rn_aload_n (x := 95) (q := 14) dX9_sumsFrom_13 rfl rfl ?_
      refine rn_get (a := 95) (v := .inr (.inr 121)) (q := 17) dX9_sumsFrom_14 fl_X9_88 rfl rfl rfl ?_
      refine rn_iload (x := ((v + j : Nat) : Int)) (q := 19) dX9_sumsFrom_17 rfl rfl ?_
      refine rn_laldV (a := 120) (v := (cw p w n (v + j) : Int)) (q := 20) dX9_sumsFrom_19 rfl (by omega) (by omega) (hB _ (by omega)) rfl ?_
      refine rn_laddN (z := ((s + cw p w n (v + j) : Nat) : Int)) (q := 21) dX9_sumsFrom_20 (by omega) (by unfold am_okl; omega) rfl ?_
      refine rn_lstore_n (ls' := [some (.inr (.inr 96)), some (.inl (v : Int)), some (.inr (.inl ((s + cw p w n (v + j) : Nat) : Int))), none, some (.inl ((v + j : Nat) : Int))]) (q := 22) dX9_sumsFrom_21 (by decide) rfl rfl ?_
      refine rn_iincN (x := ((v + j : Nat) : Int)) (z := ((v + (j + 1) : Nat) : Int)) (ls' := [some (.inr (.inr 96)), some (.inl (v : Int)), some (.inr (.inl ((s + cw p w n (v + j) : Nat) : Int))), none, some (.inl ((v + (j + 1) : Nat) : Int))]) (q := 25) dX9_sumsFrom_22 rfl (by decide) (by omega) (by unfold am_ok; omega) rfl rfl ?_
      refine rn_goto (t := 5) dX9_sumsFrom_25 rfl ?_
      exact ih (by omega) _ (by rw [sA, ← hs])
  refine rn_lconst0 (q := 1) dX9_sumsFrom_0 rfl ?_
  refine rn_lstore_n (ls' := [some (.inr (.inr 96)), some (.inl (v : Int)), some (.inr (.inl 0)), none, none]) (q := 2) dX9_sumsFrom_1 (by decide) rfl rfl ?_
  refine rn_iload_n (x := (v : Int)) (q := 3) dX9_sumsFrom_2 rfl rfl ?_
  refine rn_istore (ls' := [some (.inr (.inr 96)), some (.inl (v : Int)), some (.inr (.inl 0)), none, some (.inl (v : Int))]) (q := 5) dX9_sumsFrom_3 (by decide) rfl rfl ?_
  exact L 0 (Nat.zero_le _) 0 rfl
theorem m_sings (q : DQ X sn sg h e NB mem) {R : List Int} (hR : m_row R mem) (n v p : Int) : am_Sm l G yX9_sings mt_X9_sings (d + 71) [.inr (.inr 96), .inl n, .inl v, .inl p] mem (fun q m => (¬ (1 ≤ n ∧ n ≤ 10 ∧ 0 ≤ v ∧ v ≤ 99 ∧ 0 ≤ p ∧ p ≤ 10) → QM (-1) R mem q m) ∧ (1 ≤ n ∧ n ≤ 10 ∧ 0 ≤ v ∧ v ≤ 99 ∧ 0 ≤ p ∧ p ≤ 10 → QM 0 (frc (sS p.toNat n.toNat (sW sn sg e) v.toNat) (10 ^ n.toNat)) mem q m)) := by
  refine am_enterQ (ls := [some (.inr (.inr 96)), some (.inl n), some (.inl v), some (.inl p)]) (by decide) rfl (Nat.le_of_ble_eq_true rfl) rfl (fun hok Q hQ => ?_)
  have b := q.bd
  have hw : ∀ k, sW sn sg e k ≤ 9 := fun k => q.sng.2.2.2.1 _
  by_cases hv : 1 ≤ n ∧ n ≤ 10 ∧ 0 ≤ v ∧ v ≤ 99 ∧ 0 ≤ p ∧ p ≤ 10
  · obtain ⟨nN, rfl⟩ : ∃ x : Nat, n = (x : Int) := ⟨n.toNat, by omega⟩
    obtain ⟨vN, rfl⟩ : ∃ x : Nat, v = (x : Int) := ⟨v.toNat, by omega⟩
    obtain ⟨pN, rfl⟩ : ∃ x : Nat, p = (x : Int) := ⟨p.toNat, by omega⟩
    have hp10 := p10_le (show nN ≤ 10 by omega)
    have hp0 : 0 < 10 ^ nN := Nat.pow_pos (by decide)
    have o : sS pN nN (sW sn sg e) vN ≤ 1000000000000 := sA12 (by omega) (by omega) (by omega)
    refine rn_aload_n (x := 95) (q := 1) dX9_sings_0 rfl rfl ?_
    refine rn_iconst (q := 2) dX9_sings_1 (am_okd rfl) rfl ?_
    refine rn_puti (a := 95) (q := 5) dX9_sings_2 fl_X9_107 rfl rfl rfl rfl ?_
    refine rn_iload_n (x := (nN : Int)) (q := 6) dX9_sings_5 rfl rfl ?_
    refine rn_iconst (q := 7) dX9_sings_6 (am_okd rfl) rfl ?_
    refine rn_bipush (q := 9) dX9_sings_7 ⟨by decide, by decide⟩ rfl ?_
    refine rn_callS (as := [.inl (nN : Int), .inl 1, .inl 10]) (rest := []) (q := 12) dX9_sings_9 ml_X9_116 sm_X9_in (by omega) rfl rfl (Nat.le_of_ble_eq_true rfl) rfl (s_in9 (d := d + 70) (nN : Int) 1 10) ?_
    intro r9 mem9 hq9
    obtain ⟨⟨rfl, hi9⟩ | ⟨rfl, hi9⟩, rfl⟩ := hq9
    · show am_Rn l G _ _ 12 [some (.inr (.inr 96)), some (.inl (nN : Int)), some (.inl (vN : Int)), some (.inl (pN : Int))] [.inl 1] (am_up mem 95 11 0) _
      refine rn_ifeq (t := 35) (q := 15) dX9_sings_12 rfl rfl (fun h => absurd h (by decide)) (fun w12 => ?_)
      refine rn_iload_n (x := (vN : Int)) (q := 16) dX9_sings_15 rfl rfl ?_
      refine rn_iconst (q := 17) dX9_sings_16 (am_okd rfl) rfl ?_
      refine rn_bipush (q := 19) dX9_sings_17 ⟨by decide, by decide⟩ rfl ?_
      refine rn_callS (as := [.inl (vN : Int), .inl 0, .inl 99]) (rest := []) (q := 22) dX9_sings_19 ml_X9_116 sm_X9_in (by omega) rfl rfl (Nat.le_of_ble_eq_true rfl) rfl (s_in9 (d := d + 70) (vN : Int) 0 99) ?_
      intro r19 mem19 hq19
      obtain ⟨⟨rfl, hi19⟩ | ⟨rfl, hi19⟩, rfl⟩ := hq19
      · show am_Rn l G _ _ 22 [some (.inr (.inr 96)), some (.inl (nN : Int)), some (.inl (vN : Int)), some (.inl (pN : Int))] [.inl 1] (am_up mem 95 11 0) _
        refine rn_ifeq (t := 35) (q := 25) dX9_sings_22 rfl rfl (fun h => absurd h (by decide)) (fun w22 => ?_)
        refine rn_iload_n (x := (pN : Int)) (q := 26) dX9_sings_25 rfl rfl ?_
        refine rn_iconst (q := 27) dX9_sings_26 (am_okd rfl) rfl ?_
        refine rn_bipush (q := 29) dX9_sings_27 ⟨by decide, by decide⟩ rfl ?_
        refine rn_callS (as := [.inl (pN : Int), .inl 0, .inl 10]) (rest := []) (q := 32) dX9_sings_29 ml_X9_116 sm_X9_in (by omega) rfl rfl (Nat.le_of_ble_eq_true rfl) rfl (s_in9 (d := d + 70) (pN : Int) 0 10) ?_
        intro r29 mem29 hq29
        obtain ⟨⟨rfl, hi29⟩ | ⟨rfl, hi29⟩, rfl⟩ := hq29
        · show am_Rn l G _ _ 32 [some (.inr (.inr 96)), some (.inl (nN : Int)), some (.inl (vN : Int)), some (.inl (pN : Int))] [.inl 1] (am_up mem 95 11 0) _
          refine rn_ifne (t := 37) (q := 35) dX9_sings_32 rfl rfl (fun w32 => ?_) (fun h => absurd h (by decide))
          refine rn_aload_n (x := 95) (q := 38) dX9_sings_37 rfl rfl ?_
          refine rn_iload_n (x := (nN : Int)) (q := 39) dX9_sings_38 rfl rfl ?_
          refine rn_iload_n (x := (pN : Int)) (q := 40) dX9_sings_39 rfl rfl ?_
          refine rn_callV (b := 95) (as := [.inl (nN : Int), .inl (pN : Int)]) (rest := []) (q := 43) dX9_sings_40 ml_X9_360 sm_X9_laySums rfl rfl (by decide) (by omega) rfl rfl (Nat.le_of_ble_eq_true rfl) rfl (m_laySums (d := d + 69) (q.kept (frS.up (a := 95) (k := 11) (x := 0) frS.rf rfl)) nN pN (by omega) (by omega)) ?_
          intro r40 mem40 hq40
          obtain ⟨rfl, hf40, hB40⟩ := hq40
          show am_Rn l G _ _ 43 [some (.inr (.inr 96)), some (.inl (nN : Int)), some (.inl (vN : Int)), some (.inl (pN : Int))] [] mem40 _
          refine rn_aload_n (x := 95) (q := 44) dX9_sings_43 rfl rfl ?_
          refine rn_iconst (q := 45) dX9_sings_44 (am_okd rfl) rfl ?_
          refine rn_puti (a := 95) (q := 48) dX9_sings_45 fl_X9_110 rfl rfl rfl rfl ?_
          refine rn_aload_n (x := 95) (q := 49) dX9_sings_48 rfl rfl ?_
          refine rn_aload_n (x := 95) (q := 50) dX9_sings_49 rfl rfl ?_
          refine rn_iload_n (x := (vN : Int)) (q := 51) dX9_sings_50 rfl rfl ?_
          refine rn_callV (b := 95) (as := [.inl (vN : Int)]) (rest := [.inr (.inr 96)]) (q := 54) dX9_sings_51 ml_X9_364 sm_X9_sumsFrom rfl rfl (by decide) (by omega) rfl rfl (Nat.le_of_ble_eq_true rfl) rfl (m_sumsFrom (d := d + 70) (p := pN) (n := nN) (by omega) (by omega) hw (show ∀ s, s ≤ 99 → am_up mem40 95 10 0 120 s = (cw pN (sW sn sg e) nN s : Int) from hB40) vN (by omega)) ?_
          intro r51 mem51 hq51
          obtain ⟨rfl, rfl⟩ := hq51
          show am_Rn l G _ _ 54 [some (.inr (.inr 96)), some (.inl (nN : Int)), some (.inl (vN : Int)), some (.inl (pN : Int))] [.inr (.inl (sS pN nN (sW sn sg e) vN : Int)), .inr (.inr 96)] (am_up mem40 95 10 0) _
          refine rn_ldc2 (n := 10) (q := 57) dX9_sings_54 kc_X9_338 rfl (am_okld rfl) rfl ?_
          refine rn_iload_n (x := (nN : Int)) (q := 58) dX9_sings_57 rfl rfl ?_
          refine rn_callS (as := [.inr (.inl 10), .inl (nN : Int)]) (rest := [.inr (.inl (sS pN nN (sW sn sg e) vN : Int)), .inr (.inr 96)]) (q := 61) dX9_sings_58 ml_X9_340 sm_X9_power (by omega) rfl rfl (Nat.le_of_ble_eq_true rfl) rfl (s_pow9 (d := d + 70) nN (by omega)) ?_
          intro r58 mem58 hq58
          obtain ⟨rfl, rfl⟩ := hq58
          show am_Rn l G _ _ 61 [some (.inr (.inr 96)), some (.inl (nN : Int)), some (.inl (vN : Int)), some (.inl (pN : Int))] [.inr (.inl ((10 ^ nN : Nat) : Int)), .inr (.inl (sS pN nN (sW sn sg e) vN : Int)), .inr (.inr 96)] (am_up mem40 95 10 0) _
          refine rn_callV (b := 95) (as := [.inr (.inl (sS pN nN (sW sn sg e) vN : Int)), .inr (.inl ((10 ^ nN : Nat) : Int))]) (rest := []) (q := 64) dX9_sings_61 ml_X9_344 sm_X9_tellPart rfl rfl (by decide) (by omega) rfl rfl (Nat.le_of_ble_eq_true rfl) rfl (s_tellPart (d := d + 0) (R := []) m_row0 (by decide) (sS pN nN (sW sn sg e) vN) (10 ^ nN) hp0 hp10 (by omega)) ?_
          intro r61 mem61 hq61
          obtain ⟨rfl, hr61, hf61, -⟩ := hq61
          show am_Rn l G _ _ 64 [some (.inr (.inr 96)), some (.inl (nN : Int)), some (.inl (vN : Int)), some (.inl (pN : Int))] [] mem61 _
          refine rn_iconst (q := 65) dX9_sings_64 (am_okd rfl) rfl ?_
          refine rn_iret dX9_sings_65 rfl ?_
          exact hQ _ _ ⟨fun h => absurd hv h, fun _ => ⟨rfl, ((frS.up (a := 95) (k := 10) (x := 0) ((frS.up (a := 95) (k := 11) (x := 0) frS.rf rfl).tr (hf40.r9)) rfl).tr hf61), hr61⟩⟩
        · show am_Rn l G _ _ 32 [some (.inr (.inr 96)), some (.inl (nN : Int)), some (.inl (vN : Int)), some (.inl (pN : Int))] [.inl 0] (am_up mem 95 11 0) _
          refine rn_ifne (t := 37) (q := 35) dX9_sings_32 rfl rfl (fun h => absurd h (by decide)) (fun w32 => ?_)
          refine rn_iconst (q := 36) dX9_sings_35 (am_okd rfl) rfl ?_
          refine rn_iret dX9_sings_36 rfl ?_
          exfalso; omega
      · show am_Rn l G _ _ 22 [some (.inr (.inr 96)), some (.inl (nN : Int)), some (.inl (vN : Int)), some (.inl (pN : Int))] [.inl 0] (am_up mem 95 11 0) _
        refine rn_ifeq (t := 35) (q := 25) dX9_sings_22 rfl rfl (fun w22 => ?_) (fun h => absurd h (by decide))
        refine rn_iconst (q := 36) dX9_sings_35 (am_okd rfl) rfl ?_
        refine rn_iret dX9_sings_36 rfl ?_
        exfalso; omega
    · show am_Rn l G _ _ 12 [some (.inr (.inr 96)), some (.inl (nN : Int)), some (.inl (vN : Int)), some (.inl (pN : Int))] [.inl 0] (am_up mem 95 11 0) _
      refine rn_ifeq (t := 35) (q := 15) dX9_sings_12 rfl rfl (fun w12 => ?_) (fun h => absurd h (by decide))
      refine rn_iconst (q := 36) dX9_sings_35 (am_okd rfl) rfl ?_
      refine rn_iret dX9_sings_36 rfl ?_
      exfalso; omega
  · refine rn_aload_n (x := 95) (q := 1) dX9_sings_0 rfl rfl ?_
    refine rn_iconst (q := 2) dX9_sings_1 (am_okd rfl) rfl ?_
    refine rn_puti (a := 95) (q := 5) dX9_sings_2 fl_X9_107 rfl rfl rfl rfl ?_
    refine rn_iload_n (x := n) (q := 6) dX9_sings_5 rfl rfl ?_
    refine rn_iconst (q := 7) dX9_sings_6 (am_okd rfl) rfl ?_
    refine rn_bipush (q := 9) dX9_sings_7 ⟨by decide, by decide⟩ rfl ?_
    refine rn_callS (as := [.inl n, .inl 1, .inl 10]) (rest := []) (q := 12) dX9_sings_9 ml_X9_116 sm_X9_in (by omega) rfl rfl (Nat.le_of_ble_eq_true rfl) rfl (s_in9 (d := d + 70) n 1 10) ?_
    intro r9 mem9 hq9
    obtain ⟨⟨rfl, hi9⟩ | ⟨rfl, hi9⟩, rfl⟩ := hq9
    · show am_Rn l G _ _ 12 [some (.inr (.inr 96)), some (.inl n), some (.inl v), some (.inl p)] [.inl 1] (am_up mem 95 11 0) _
      refine rn_ifeq (t := 35) (q := 15) dX9_sings_12 rfl rfl (fun h => absurd h (by decide)) (fun w12 => ?_)
      refine rn_iload_n (x := v) (q := 16) dX9_sings_15 rfl rfl ?_
      refine rn_iconst (q := 17) dX9_sings_16 (am_okd rfl) rfl ?_
      refine rn_bipush (q := 19) dX9_sings_17 ⟨by decide, by decide⟩ rfl ?_
      refine rn_callS (as := [.inl v, .inl 0, .inl 99]) (rest := []) (q := 22) dX9_sings_19 ml_X9_116 sm_X9_in (by omega) rfl rfl (Nat.le_of_ble_eq_true rfl) rfl (s_in9 (d := d + 70) v 0 99) ?_
      intro r19 mem19 hq19
      obtain ⟨⟨rfl, hi19⟩ | ⟨rfl, hi19⟩, rfl⟩ := hq19
      · show am_Rn l G _ _ 22 [some (.inr (.inr 96)), some (.inl n), some (.inl v), some (.inl p)] [.inl 1] (am_up mem 95 11 0) _
        refine rn_ifeq (t := 35) (q := 25) dX9_sings_22 rfl rfl (fun h => absurd h (by decide)) (fun w22 => ?_)
        refine rn_iload_n (x := p) (q := 26) dX9_sings_25 rfl rfl ?_
        refine rn_iconst (q := 27) dX9_sings_26 (am_okd rfl) rfl ?_
        refine rn_bipush (q := 29) dX9_sings_27 ⟨by decide, by decide⟩ rfl ?_
        refine rn_callS (as := [.inl p, .inl 0, .inl 10]) (rest := []) (q := 32) dX9_sings_29 ml_X9_116 sm_X9_in (by omega) rfl rfl (Nat.le_of_ble_eq_true rfl) rfl (s_in9 (d := d + 70) p 0 10) ?_
        intro r29 mem29 hq29
        obtain ⟨⟨rfl, hi29⟩ | ⟨rfl, hi29⟩, rfl⟩ := hq29
        · show am_Rn l G _ _ 32 [some (.inr (.inr 96)), some (.inl n), some (.inl v), some (.inl p)] [.inl 1] (am_up mem 95 11 0) _
          refine rn_ifne (t := 37) (q := 35) dX9_sings_32 rfl rfl (fun w32 => ?_) (fun h => absurd h (by decide))
          exfalso; omega
        · show am_Rn l G _ _ 32 [some (.inr (.inr 96)), some (.inl n), some (.inl v), some (.inl p)] [.inl 0] (am_up mem 95 11 0) _
          refine rn_ifne (t := 37) (q := 35) dX9_sings_32 rfl rfl (fun h => absurd h (by decide)) (fun w32 => ?_)
          refine rn_iconst (q := 36) dX9_sings_35 (am_okd rfl) rfl ?_
          refine rn_iret dX9_sings_36 rfl ?_
          exact hQ _ _ ⟨fun _ => ⟨rfl, (frS.up (a := 95) (k := 11) (x := 0) frS.rf rfl), hR.kept (frS.rf.up rfl)⟩, fun h => absurd h hv⟩
      · show am_Rn l G _ _ 22 [some (.inr (.inr 96)), some (.inl n), some (.inl v), some (.inl p)] [.inl 0] (am_up mem 95 11 0) _
        refine rn_ifeq (t := 35) (q := 25) dX9_sings_22 rfl rfl (fun w22 => ?_) (fun h => absurd h (by decide))
        refine rn_iconst (q := 36) dX9_sings_35 (am_okd rfl) rfl ?_
        refine rn_iret dX9_sings_36 rfl ?_
        exact hQ _ _ ⟨fun _ => ⟨rfl, (frS.up (a := 95) (k := 11) (x := 0) frS.rf rfl), hR.kept (frS.rf.up rfl)⟩, fun h => absurd h hv⟩
    · show am_Rn l G _ _ 12 [some (.inr (.inr 96)), some (.inl n), some (.inl v), some (.inl p)] [.inl 0] (am_up mem 95 11 0) _
      refine rn_ifeq (t := 35) (q := 15) dX9_sings_12 rfl rfl (fun w12 => ?_) (fun h => absurd h (by decide))
      refine rn_iconst (q := 36) dX9_sings_35 (am_okd rfl) rfl ?_
      refine rn_iret dX9_sings_36 rfl ?_
      exact hQ _ _ ⟨fun _ => ⟨rfl, (frS.up (a := 95) (k := 11) (x := 0) frS.rf rfl), hR.kept (frS.rf.up rfl)⟩, fun h => absurd h hv⟩
theorem c_counts (q : CQ r X C sn sg h e NB mem) {R : List Int} (hR : c_row R mem) (n w p : Int) : am_Sm l G yX8_counts mt_X8_counts (d + 2) [.inr (.inr 1), .inl n, .inl w, .inl p] mem (fun q m => (¬ (1 ≤ n ∧ n ≤ 10 ∧ 0 ≤ w ∧ w ≤ 100 ∧ 0 ≤ p ∧ p ≤ 10) → QC (-1) R mem q m) ∧ (1 ≤ n ∧ n ≤ 10 ∧ 0 ≤ w ∧ w ≤ 100 ∧ 0 ≤ p ∧ p ≤ 10 → QC (cdn (cnP p.toNat n.toNat w.toNat (sW sn sg e)) 90 : Int) R mem q m)) := by
  refine am_enterQ (ls := [some (.inr (.inr 1)), some (.inl n), some (.inl w), some (.inl p), none, none, none, none, none]) (by decide) rfl (Nat.le_of_ble_eq_true rfl) rfl (fun hok Q hQ => ?_)
  have b := q.bd
  by_cases hv : 1 ≤ n ∧ n ≤ 10 ∧ 0 ≤ w ∧ w ≤ 100 ∧ 0 ≤ p ∧ p ≤ 10
  · obtain ⟨nN, rfl⟩ : ∃ x : Nat, n = (x : Int) := ⟨n.toNat, by omega⟩
    obtain ⟨wN, rfl⟩ : ∃ x : Nat, w = (x : Int) := ⟨w.toNat, by omega⟩
    obtain ⟨pN, rfl⟩ : ∃ x : Nat, p = (x : Int) := ⟨p.toNat, by omega⟩
    have hp10 := p10_le (show nN ≤ 10 by omega)
    obtain ⟨nd, n1, n2, n3⟩ := mulQ (show wN ≤ 100 by omega) hp10
    have hP : ∀ v, cnP pN nN wN (sW sn sg e) v = true ↔ nd ≤ sS pN nN (sW sn sg e) v * 100 := fun v => by unfold cnP; rw [decide_eq_true_iff, n2]
    obtain ⟨A, hA⟩ : ∃ A, A = cdn (cnP pN nN wN (sW sn sg e)) 90 := ⟨_, rfl⟩
    have L : ∀ (v : Nat), v ≤ 90 → ∀ (m : am_M) (s : Nat), frS s8 mem m → (∀ s, s ≤ 90 → m 80 s = (cw pN (sW sn sg e) nN s : Int)) → s = sA (cw pN (sW sn sg e) nN) (v + 1) (90 - v) → A = cdn (cnP pN nN wN (sW sn sg e)) v → am_Rn l G mt_X8_counts (d + 2) 55 [some (.inr (.inr 1)), some (.inl (nN : Int)), some (.inl (wN : Int)), some (.inl (pN : Int)), some (.inr (.inl (nd : Int))), none, some (.inr (.inl (s : Int))), none, some (.inl (v : Int))] [] m Q := by
      intro v
      induction v with
      | zero =>
        intro _ m s hf hB hs hc
        refine rn_iload (x := ((0 : Nat) : Int)) (q := 57) dX8_counts_55 rfl rfl ?_
        refine rn_ifle (t := 93) (q := 60) dX8_counts_57 rfl rfl (fun w57 => ?_) (fun h => absurd h (by omega))
        refine rn_iconst (q := 94) dX8_counts_93 (am_okd rfl) rfl ?_
        refine rn_iret dX8_counts_94 rfl ?_
        exact hQ _ _ ⟨fun h => absurd hv h, fun _ => ⟨by show (some (.inl 0) : Option am_V) = some (.inl (cdn (cnP pN nN wN (sW sn sg e)) 90 : Int)); rw [← hA, hc]; rfl, hf.r8, hR.kept hf⟩⟩
      | succ v ih =>
        intro hv9 m s hf hB hs hc
        have o := sA12 (p := pN) (n := nN) (v := v + 1 + 1) (w := sW sn sg e) (by omega) (by omega) (show 90 - (v + 1) ≤ 100 by omega)
        have o2 := cw10 (p := pN) (w := sW sn sg e) (k := nN) (by omega) (by omega) (v + 1)
        have eS : s + cw pN (sW sn sg e) nN (v + 1) = sS pN nN (sW sn sg e) (v + 1) := by
          unfold sS
          rw [hs, show 91 - (v + 1) = 90 - (v + 1) + 1 by omega, sA_front]; omega
        have hPv := hP (v + 1)
        rw [cdn] at hc
        refine rn_iload (x := ((v + 1 : Nat) : Int)) (q := 57) dX8_counts_55 rfl rfl ?_
        refine rn_ifle (t := 93) (q := 60) dX8_counts_57 rfl rfl (fun h => absurd h (by omega)) (fun w57 => ?_)
        refine rn_lload (x := (s : Int)) (q := 62) dX8_counts_60 rfl rfl ?_
        refine rn_aload_n (x := 0) (q := 63) dX8_counts_62 rfl rfl ?_
        refine rn_get (a := 0) (v := .inr (.inr 81)) (q := 66) dX8_counts_63 fl_X8_83 rfl rfl rfl ?_
        refine rn_iload (x := ((v + 1 : Nat) : Int)) (q := 68) dX8_counts_66 rfl rfl ?_
        refine rn_laldV (a := 80) (v := (cw pN (sW sn sg e) nN (v + 1) : Int)) (q := 69) dX8_counts_68 rfl (by omega) (by omega) (hB _ (by omega)) rfl ?_
        refine rn_laddN (z := (sS pN nN (sW sn sg e) (v + 1) : Int)) (q := 70) dX8_counts_69 (by rw [← eS]; omega) (by unfold am_okl; omega) rfl ?_
        refine rn_lstore (ls' := [some (.inr (.inr 1)), some (.inl (nN : Int)), some (.inl (wN : Int)), some (.inl (pN : Int)), some (.inr (.inl (nd : Int))), none, some (.inr (.inl (sS pN nN (sW sn sg e) (v + 1) : Int))), none, some (.inl ((v + 1 : Nat) : Int))]) (q := 72) dX8_counts_70 (by decide) rfl rfl ?_
        refine rn_lload (x := (sS pN nN (sW sn sg e) (v + 1) : Int)) (q := 74) dX8_counts_72 rfl rfl ?_
        refine rn_ldc2 (n := 100) (q := 77) dX8_counts_74 kc_X8_405 rfl (am_okld rfl) rfl ?_
        refine rn_lmulN (z := ((sS pN nN (sW sn sg e) (v + 1) * 100 : Nat) : Int)) (q := 78) dX8_counts_77 (by omega) (by rw [← eS]; unfold am_okl; omega) rfl ?_
        refine rn_lload (x := (nd : Int)) (q := 80) dX8_counts_78 rfl rfl ?_
        refine rn_lcmp (q := 81) dX8_counts_80 rfl ?_
        refine rn_iflt (t := 87) (q := 84) dX8_counts_81 rfl rfl (fun w81 => ?_) (fun w81 => ?_)
        · rw [am_cmpA] at w81
          refine rn_iincN (x := ((v + 1 : Nat) : Int)) (z := (v : Int)) (ls' := [some (.inr (.inr 1)), some (.inl (nN : Int)), some (.inl (wN : Int)), some (.inl (pN : Int)), some (.inr (.inl (nd : Int))), none, some (.inr (.inl (sS pN nN (sW sn sg e) (v + 1) : Int))), none, some (.inl (v : Int))]) (q := 90) dX8_counts_87 rfl (by decide) (by omega) (by unfold am_ok; omega) rfl rfl ?_
          refine rn_goto (t := 55) dX8_counts_90 rfl ?_
          rw [if_neg (fun z => by have := hPv.mp z; omega)] at hc
          exact ih (by omega) m _ hf hB (by rw [← eS, hs, show 90 - v = 90 - (v + 1) + 1 by omega, sA_front]; omega) hc
        · rw [am_cmpB] at w81
          refine rn_iload (x := ((v + 1 : Nat) : Int)) (q := 86) dX8_counts_84 rfl rfl ?_
          refine rn_iret dX8_counts_86 rfl ?_
          rw [if_pos (hPv.mpr (by omega))] at hc
          exact hQ _ _ ⟨fun h => absurd hv h, fun _ => ⟨by show (some (.inl ((v + 1 : Nat) : Int)) : Option am_V) = some (.inl (cdn (cnP pN nN wN (sW sn sg e)) 90 : Int)); rw [← hA, hc], hf.r8, hR.kept hf⟩⟩
    refine rn_iload_n (x := (nN : Int)) (q := 1) dX8_counts_0 rfl rfl ?_
    refine rn_iconst (q := 2) dX8_counts_1 (am_okd rfl) rfl ?_
    refine rn_cmplt (t := 31) (q := 5) dX8_counts_2 rfl rfl (fun h => absurd h (by omega)) (fun w2 => ?_)
    refine rn_iload_n (x := (nN : Int)) (q := 6) dX8_counts_5 rfl rfl ?_
    refine rn_bipush (q := 8) dX8_counts_6 ⟨by decide, by decide⟩ rfl ?_
    refine rn_cmpgt (t := 31) (q := 11) dX8_counts_8 rfl rfl (fun h => absurd h (by omega)) (fun w8 => ?_)
    refine rn_iload_n (x := (wN : Int)) (q := 12) dX8_counts_11 rfl rfl ?_
    refine rn_iflt (t := 31) (q := 15) dX8_counts_12 rfl rfl (fun h => absurd h (by omega)) (fun w12 => ?_)
    refine rn_iload_n (x := (wN : Int)) (q := 16) dX8_counts_15 rfl rfl ?_
    refine rn_bipush (q := 18) dX8_counts_16 ⟨by decide, by decide⟩ rfl ?_
    refine rn_cmpgt (t := 31) (q := 21) dX8_counts_18 rfl rfl (fun h => absurd h (by omega)) (fun w18 => ?_)
    refine rn_iload_n (x := (pN : Int)) (q := 22) dX8_counts_21 rfl rfl ?_
    refine rn_iflt (t := 31) (q := 25) dX8_counts_22 rfl rfl (fun h => absurd h (by omega)) (fun w22 => ?_)
    refine rn_iload_n (x := (pN : Int)) (q := 26) dX8_counts_25 rfl rfl ?_
    refine rn_bipush (q := 28) dX8_counts_26 ⟨by decide, by decide⟩ rfl ?_
    refine rn_cmple (t := 33) (q := 31) dX8_counts_28 rfl rfl (fun w28 => ?_) (fun h => absurd h (by omega))
    refine rn_aload_n (x := 0) (q := 34) dX8_counts_33 rfl rfl ?_
    refine rn_iload_n (x := (nN : Int)) (q := 35) dX8_counts_34 rfl rfl ?_
    refine rn_iload_n (x := (pN : Int)) (q := 36) dX8_counts_35 rfl rfl ?_
    refine rn_callV (b := 0) (as := [.inl (nN : Int), .inl (pN : Int)]) (rest := []) (q := 39) dX8_counts_36 ml_X8_402 sm_X8_weigh rfl rfl (by decide) (by omega) rfl rfl (Nat.le_of_ble_eq_true rfl) rfl (c_weigh (d := d + 0) q nN pN (by omega) (by omega)) ?_
    intro r36 mem36 hq36
    obtain ⟨rfl, hf36, hB36⟩ := hq36
    show am_Rn l G _ _ 39 [some (.inr (.inr 1)), some (.inl (nN : Int)), some (.inl (wN : Int)), some (.inl (pN : Int)), none, none, none, none, none] [] mem36 _
    refine rn_iload_n (x := (wN : Int)) (q := 40) dX8_counts_39 rfl rfl ?_
    refine rn_i2l (q := 41) dX8_counts_40 rfl ?_
    refine rn_iload_n (x := (nN : Int)) (q := 42) dX8_counts_41 rfl rfl ?_
    refine rn_callS (as := [.inl (nN : Int)]) (rest := [.inr (.inl (wN : Int))]) (q := 45) dX8_counts_42 ml_X8_367 sm_X8_tenToThe (by omega) rfl rfl (Nat.le_of_ble_eq_true rfl) rfl (s_ten8 (d := d + 1) nN (by omega)) ?_
    intro r42 mem42 hq42
    obtain ⟨rfl, rfl⟩ := hq42
    show am_Rn l G _ _ 45 [some (.inr (.inr 1)), some (.inl (nN : Int)), some (.inl (wN : Int)), some (.inl (pN : Int)), none, none, none, none, none] [.inr (.inl ((10 ^ nN : Nat) : Int)), .inr (.inl (wN : Int))] mem36 _
    refine rn_lmulN (z := (nd : Int)) (q := 46) dX8_counts_45 n3 (by rw [n3]; unfold am_okl; omega) rfl ?_
    refine rn_lstore (ls' := [some (.inr (.inr 1)), some (.inl (nN : Int)), some (.inl (wN : Int)), some (.inl (pN : Int)), some (.inr (.inl (nd : Int))), none, none, none, none]) (q := 48) dX8_counts_46 (by decide) rfl rfl ?_
    refine rn_lconst0 (q := 49) dX8_counts_48 rfl ?_
    refine rn_lstore (ls' := [some (.inr (.inr 1)), some (.inl (nN : Int)), some (.inl (wN : Int)), some (.inl (pN : Int)), some (.inr (.inl (nd : Int))), none, some (.inr (.inl 0)), none, none]) (q := 51) dX8_counts_49 (by decide) rfl rfl ?_
    refine rn_bipush (q := 53) dX8_counts_51 ⟨by decide, by decide⟩ rfl ?_
    refine rn_istore (ls' := [some (.inr (.inr 1)), some (.inl (nN : Int)), some (.inl (wN : Int)), some (.inl (pN : Int)), some (.inr (.inl (nd : Int))), none, some (.inr (.inl 0)), none, some (.inl 90)]) (q := 55) dX8_counts_53 (by decide) rfl rfl ?_
    exact L 90 (by omega) _ 0 hf36 hB36 rfl hA
  · refine rn_iload_n (x := n) (q := 1) dX8_counts_0 rfl rfl ?_
    refine rn_iconst (q := 2) dX8_counts_1 (am_okd rfl) rfl ?_
    refine rn_cmplt (t := 31) (q := 5) dX8_counts_2 rfl rfl (fun w2 => ?_) (fun w2 => ?_)
    · refine rn_iconst (q := 32) dX8_counts_31 (am_okd rfl) rfl ?_
      refine rn_iret dX8_counts_32 rfl ?_
      exact hQ _ _ ⟨fun _ => ⟨rfl, frS.rf, hR⟩, fun h => absurd h hv⟩
    · refine rn_iload_n (x := n) (q := 6) dX8_counts_5 rfl rfl ?_
      refine rn_bipush (q := 8) dX8_counts_6 ⟨by decide, by decide⟩ rfl ?_
      refine rn_cmpgt (t := 31) (q := 11) dX8_counts_8 rfl rfl (fun w8 => ?_) (fun w8 => ?_)
      · refine rn_iconst (q := 32) dX8_counts_31 (am_okd rfl) rfl ?_
        refine rn_iret dX8_counts_32 rfl ?_
        exact hQ _ _ ⟨fun _ => ⟨rfl, frS.rf, hR⟩, fun h => absurd h hv⟩
      · refine rn_iload_n (x := w) (q := 12) dX8_counts_11 rfl rfl ?_
        refine rn_iflt (t := 31) (q := 15) dX8_counts_12 rfl rfl (fun w12 => ?_) (fun w12 => ?_)
        · refine rn_iconst (q := 32) dX8_counts_31 (am_okd rfl) rfl ?_
          refine rn_iret dX8_counts_32 rfl ?_
          exact hQ _ _ ⟨fun _ => ⟨rfl, frS.rf, hR⟩, fun h => absurd h hv⟩
        · refine rn_iload_n (x := w) (q := 16) dX8_counts_15 rfl rfl ?_
          refine rn_bipush (q := 18) dX8_counts_16 ⟨by decide, by decide⟩ rfl ?_
          refine rn_cmpgt (t := 31) (q := 21) dX8_counts_18 rfl rfl (fun w18 => ?_) (fun w18 => ?_)
          · refine rn_iconst (q := 32) dX8_counts_31 (am_okd rfl) rfl ?_
            refine rn_iret dX8_counts_32 rfl ?_
            exact hQ _ _ ⟨fun _ => ⟨rfl, frS.rf, hR⟩, fun h => absurd h hv⟩
          · refine rn_iload_n (x := p) (q := 22) dX8_counts_21 rfl rfl ?_
            refine rn_iflt (t := 31) (q := 25) dX8_counts_22 rfl rfl (fun w22 => ?_) (fun w22 => ?_)
            · refine rn_iconst (q := 32) dX8_counts_31 (am_okd rfl) rfl ?_
              refine rn_iret dX8_counts_32 rfl ?_
              exact hQ _ _ ⟨fun _ => ⟨rfl, frS.rf, hR⟩, fun h => absurd h hv⟩
            · refine rn_iload_n (x := p) (q := 26) dX8_counts_25 rfl rfl ?_
              refine rn_bipush (q := 28) dX8_counts_26 ⟨by decide, by decide⟩ rfl ?_
              refine rn_cmple (t := 33) (q := 31) dX8_counts_28 rfl rfl (fun w28 => ?_) (fun w28 => ?_)
              · exfalso; omega
              · refine rn_iconst (q := 32) dX8_counts_31 (am_okd rfl) rfl ?_
                refine rn_iret dX8_counts_32 rfl ?_
                exact hQ _ _ ⟨fun _ => ⟨rfl, frS.rf, hR⟩, fun h => absurd h hv⟩
theorem m_counts (q : DQ X sn sg h e NB mem) {R : List Int} (hR : m_row R mem) (n w p : Int) : am_Sm l G yX9_counts mt_X9_counts (d + 2) [.inr (.inr 96), .inl n, .inl w, .inl p] mem (fun q m => (¬ (1 ≤ n ∧ n ≤ 10 ∧ 0 ≤ w ∧ w ≤ 100 ∧ 0 ≤ p ∧ p ≤ 10) → QM (-1) R mem q m) ∧ (1 ≤ n ∧ n ≤ 10 ∧ 0 ≤ w ∧ w ≤ 100 ∧ 0 ≤ p ∧ p ≤ 10 → QM (cdn (cnP p.toNat n.toNat w.toNat (sW sn sg e)) 90 : Int) R mem q m)) := by
  refine am_enterQ (ls := [some (.inr (.inr 96)), some (.inl n), some (.inl w), some (.inl p), none]) (by decide) rfl (Nat.le_of_ble_eq_true rfl) rfl (fun hok Q hQ => ?_)
  have b := q.bd
  have hw : ∀ k, sW sn sg e k ≤ 9 := fun k => q.sng.2.2.2.1 _
  by_cases hv : 1 ≤ n ∧ n ≤ 10 ∧ 0 ≤ w ∧ w ≤ 100 ∧ 0 ≤ p ∧ p ≤ 10
  · obtain ⟨nN, rfl⟩ : ∃ x : Nat, n = (x : Int) := ⟨n.toNat, by omega⟩
    obtain ⟨wN, rfl⟩ : ∃ x : Nat, w = (x : Int) := ⟨w.toNat, by omega⟩
    obtain ⟨pN, rfl⟩ : ∃ x : Nat, p = (x : Int) := ⟨p.toNat, by omega⟩
    have hp10 := p10_le (show nN ≤ 10 by omega)
    obtain ⟨nd, n1, n2, n3⟩ := mulQ (show wN ≤ 100 by omega) hp10
    have hP : ∀ v, cnP pN nN wN (sW sn sg e) v = true ↔ nd ≤ sS pN nN (sW sn sg e) v * 100 := fun v => by unfold cnP; rw [decide_eq_true_iff, n2]
    have h0 : nd ≤ sS pN nN (sW sn sg e) 0 * 100 := by
      have h1 := cw_tot (p := pN) (by omega) hw nN (by omega)
      have h2 := cw_S (p := pN) hw (n := nN) (v := 0) (by omega) (by omega)
      have h3 : sS pN nN (sW sn sg e) 0 = 10 ^ nN := by unfold sS; rw [← h2]; exact h1
      rw [h3, n2, Nat.mul_comm]
      exact Nat.mul_le_mul_left _ (by omega)
    obtain ⟨A, hA⟩ : ∃ A, A = cdn (cnP pN nN wN (sW sn sg e)) 90 := ⟨_, rfl⟩
    have L : ∀ (v : Nat), v ≤ 90 → ∀ (m : am_M), frS s9 mem m → (∀ s, s ≤ 99 → m 120 s = (cw pN (sW sn sg e) nN s : Int)) → A = cdn (cnP pN nN wN (sW sn sg e)) v → am_Rn l G mt_X9_counts (d + 2) 47 [some (.inr (.inr 96)), some (.inl (nN : Int)), some (.inl (wN : Int)), some (.inl (pN : Int)), some (.inl (v : Int))] [] m Q := by
      intro v
      induction v with
      | zero =>
        intro _ m hf hB hc
        have o : sS pN nN (sW sn sg e) 0 ≤ 1000000000000 := sA12 (by omega) (by omega) (by omega)
        refine rn_ldc2 (n := 100) (q := 50) dX9_counts_47 kc_X9_368 rfl (am_okld rfl) rfl ?_
        refine rn_aload_n (x := 95) (q := 51) dX9_counts_50 rfl rfl ?_
        refine rn_iload (x := ((0 : Nat) : Int)) (q := 53) dX9_counts_51 rfl rfl ?_
        refine rn_callV (b := 95) (as := [.inl ((0 : Nat) : Int)]) (rest := [.inr (.inl 100)]) (q := 56) dX9_counts_53 ml_X9_364 sm_X9_sumsFrom rfl rfl (by decide) (by omega) rfl rfl (Nat.le_of_ble_eq_true rfl) rfl (m_sumsFrom (d := d + 1) (p := pN) (n := nN) (by omega) (by omega) hw hB 0 (by omega)) ?_
        intro r53 mem53 hq53
        obtain ⟨rfl, rfl⟩ := hq53
        show am_Rn l G _ _ 56 [some (.inr (.inr 96)), some (.inl (nN : Int)), some (.inl (wN : Int)), some (.inl (pN : Int)), some (.inl ((0 : Nat) : Int))] [.inr (.inl (sS pN nN (sW sn sg e) 0 : Int)), .inr (.inl 100)] m _
        refine rn_lmulN (z := ((100 * sS pN nN (sW sn sg e) 0 : Nat) : Int)) (q := 57) dX9_counts_56 (by omega) (by unfold am_okl; omega) rfl ?_
        refine rn_iload_n (x := (wN : Int)) (q := 58) dX9_counts_57 rfl rfl ?_
        refine rn_i2l (q := 59) dX9_counts_58 rfl ?_
        refine rn_ldc2 (n := 10) (q := 62) dX9_counts_59 kc_X9_338 rfl (am_okld rfl) rfl ?_
        refine rn_iload_n (x := (nN : Int)) (q := 63) dX9_counts_62 rfl rfl ?_
        refine rn_callS (as := [.inr (.inl 10), .inl (nN : Int)]) (rest := [.inr (.inl (wN : Int)), .inr (.inl ((100 * sS pN nN (sW sn sg e) 0 : Nat) : Int))]) (q := 66) dX9_counts_63 ml_X9_340 sm_X9_power (by omega) rfl rfl (Nat.le_of_ble_eq_true rfl) rfl (s_pow9 (d := d + 1) nN (by omega)) ?_
        intro r63 mem63 hq63
        obtain ⟨rfl, rfl⟩ := hq63
        show am_Rn l G _ _ 66 [some (.inr (.inr 96)), some (.inl (nN : Int)), some (.inl (wN : Int)), some (.inl (pN : Int)), some (.inl ((0 : Nat) : Int))] [.inr (.inl ((10 ^ nN : Nat) : Int)), .inr (.inl (wN : Int)), .inr (.inl ((100 * sS pN nN (sW sn sg e) 0 : Nat) : Int))] m _
        refine rn_lmulN (z := (nd : Int)) (q := 67) dX9_counts_66 n3 (by rw [n3]; unfold am_okl; omega) rfl ?_
        refine rn_lcmp (q := 68) dX9_counts_67 rfl ?_
        refine rn_ifge (t := 77) (q := 71) dX9_counts_68 rfl rfl (fun w68 => ?_) (fun w68 => ?_)
        · rw [am_cmpB] at w68
          refine rn_iload (x := ((0 : Nat) : Int)) (q := 79) dX9_counts_77 rfl rfl ?_
          refine rn_iret dX9_counts_79 rfl ?_
          exact hQ _ _ ⟨fun h => absurd hv h, fun _ => ⟨by show (some (.inl ((0 : Nat) : Int)) : Option am_V) = some (.inl (cdn (cnP pN nN wN (sW sn sg e)) 90 : Int)); rw [← hA, hc]; rfl, hf.r9, hR.kept hf⟩⟩
        · rw [am_cmpA] at w68
          exfalso; omega
      | succ v ih =>
        intro hv9 m hf hB hc
        have o : sS pN nN (sW sn sg e) (v + 1) ≤ 1000000000000 := sA12 (by omega) (by omega) (by omega)
        have hPv := hP (v + 1)
        rw [cdn] at hc
        refine rn_ldc2 (n := 100) (q := 50) dX9_counts_47 kc_X9_368 rfl (am_okld rfl) rfl ?_
        refine rn_aload_n (x := 95) (q := 51) dX9_counts_50 rfl rfl ?_
        refine rn_iload (x := ((v + 1 : Nat) : Int)) (q := 53) dX9_counts_51 rfl rfl ?_
        refine rn_callV (b := 95) (as := [.inl ((v + 1 : Nat) : Int)]) (rest := [.inr (.inl 100)]) (q := 56) dX9_counts_53 ml_X9_364 sm_X9_sumsFrom rfl rfl (by decide) (by omega) rfl rfl (Nat.le_of_ble_eq_true rfl) rfl (m_sumsFrom (d := d + 1) (p := pN) (n := nN) (by omega) (by omega) hw hB (v + 1) (by omega)) ?_
        intro r53 mem53 hq53
        obtain ⟨rfl, rfl⟩ := hq53
        show am_Rn l G _ _ 56 [some (.inr (.inr 96)), some (.inl (nN : Int)), some (.inl (wN : Int)), some (.inl (pN : Int)), some (.inl ((v + 1 : Nat) : Int))] [.inr (.inl (sS pN nN (sW sn sg e) (v + 1) : Int)), .inr (.inl 100)] m _
        refine rn_lmulN (z := ((100 * sS pN nN (sW sn sg e) (v + 1) : Nat) : Int)) (q := 57) dX9_counts_56 (by omega) (by unfold am_okl; omega) rfl ?_
        refine rn_iload_n (x := (wN : Int)) (q := 58) dX9_counts_57 rfl rfl ?_
        refine rn_i2l (q := 59) dX9_counts_58 rfl ?_
        refine rn_ldc2 (n := 10) (q := 62) dX9_counts_59 kc_X9_338 rfl (am_okld rfl) rfl ?_
        refine rn_iload_n (x := (nN : Int)) (q := 63) dX9_counts_62 rfl rfl ?_
        refine rn_callS (as := [.inr (.inl 10), .inl (nN : Int)]) (rest := [.inr (.inl (wN : Int)), .inr (.inl ((100 * sS pN nN (sW sn sg e) (v + 1) : Nat) : Int))]) (q := 66) dX9_counts_63 ml_X9_340 sm_X9_power (by omega) rfl rfl (Nat.le_of_ble_eq_true rfl) rfl (s_pow9 (d := d + 1) nN (by omega)) ?_
        intro r63 mem63 hq63
        obtain ⟨rfl, rfl⟩ := hq63
        show am_Rn l G _ _ 66 [some (.inr (.inr 96)), some (.inl (nN : Int)), some (.inl (wN : Int)), some (.inl (pN : Int)), some (.inl ((v + 1 : Nat) : Int))] [.inr (.inl ((10 ^ nN : Nat) : Int)), .inr (.inl (wN : Int)), .inr (.inl ((100 * sS pN nN (sW sn sg e) (v + 1) : Nat) : Int))] m _
        refine rn_lmulN (z := (nd : Int)) (q := 67) dX9_counts_66 n3 (by rw [n3]; unfold am_okl; omega) rfl ?_
        refine rn_lcmp (q := 68) dX9_counts_67 rfl ?_
        refine rn_ifge (t := 77) (q := 71) dX9_counts_68 rfl rfl (fun w68 => ?_) (fun w68 => ?_)
        · rw [am_cmpB] at w68
          refine rn_iload (x := ((v + 1 : Nat) : Int)) (q := 79) dX9_counts_77 rfl rfl ?_
          refine rn_iret dX9_counts_79 rfl ?_
          rw [if_pos (hPv.mpr (by omega))] at hc
          exact hQ _ _ ⟨fun h => absurd hv h, fun _ => ⟨by show (some (.inl ((v + 1 : Nat) : Int)) : Option am_V) = some (.inl (cdn (cnP pN nN wN (sW sn sg e)) 90 : Int)); rw [← hA, hc], hf.r9, hR.kept hf⟩⟩
        · rw [am_cmpA] at w68
          refine rn_iincN (x := ((v + 1 : Nat) : Int)) (z := (v : Int)) (ls' := [some (.inr (.inr 96)), some (.inl (nN : Int)), some (.inl (wN : Int)), some (.inl (pN : Int)), some (.inl (v : Int))]) (q := 74) dX9_counts_71 rfl (by decide) (by omega) (by unfold am_ok; omega) rfl rfl ?_
          refine rn_goto (t := 47) dX9_counts_74 rfl ?_
          rw [if_neg (fun z => by have := hPv.mp z; omega)] at hc
          exact ih (by omega) m hf hB hc
    refine rn_aload_n (x := 95) (q := 1) dX9_counts_0 rfl rfl ?_
    refine rn_iconst (q := 2) dX9_counts_1 (am_okd rfl) rfl ?_
    refine rn_puti (a := 95) (q := 5) dX9_counts_2 fl_X9_107 rfl rfl rfl rfl ?_
    refine rn_iload_n (x := (nN : Int)) (q := 6) dX9_counts_5 rfl rfl ?_
    refine rn_iconst (q := 7) dX9_counts_6 (am_okd rfl) rfl ?_
    refine rn_bipush (q := 9) dX9_counts_7 ⟨by decide, by decide⟩ rfl ?_
    refine rn_callS (as := [.inl (nN : Int), .inl 1, .inl 10]) (rest := []) (q := 12) dX9_counts_9 ml_X9_116 sm_X9_in (by omega) rfl rfl (Nat.le_of_ble_eq_true rfl) rfl (s_in9 (d := d + 1) (nN : Int) 1 10) ?_
    intro r9 mem9 hq9
    obtain ⟨⟨rfl, hi9⟩ | ⟨rfl, hi9⟩, rfl⟩ := hq9
    · show am_Rn l G _ _ 12 [some (.inr (.inr 96)), some (.inl (nN : Int)), some (.inl (wN : Int)), some (.inl (pN : Int)), none] [.inl 1] (am_up mem 95 11 0) _
      refine rn_ifeq (t := 35) (q := 15) dX9_counts_12 rfl rfl (fun h => absurd h (by decide)) (fun w12 => ?_)
      refine rn_iload_n (x := (wN : Int)) (q := 16) dX9_counts_15 rfl rfl ?_
      refine rn_iconst (q := 17) dX9_counts_16 (am_okd rfl) rfl ?_
      refine rn_bipush (q := 19) dX9_counts_17 ⟨by decide, by decide⟩ rfl ?_
      refine rn_callS (as := [.inl (wN : Int), .inl 0, .inl 100]) (rest := []) (q := 22) dX9_counts_19 ml_X9_116 sm_X9_in (by omega) rfl rfl (Nat.le_of_ble_eq_true rfl) rfl (s_in9 (d := d + 1) (wN : Int) 0 100) ?_
      intro r19 mem19 hq19
      obtain ⟨⟨rfl, hi19⟩ | ⟨rfl, hi19⟩, rfl⟩ := hq19
      · show am_Rn l G _ _ 22 [some (.inr (.inr 96)), some (.inl (nN : Int)), some (.inl (wN : Int)), some (.inl (pN : Int)), none] [.inl 1] (am_up mem 95 11 0) _
        refine rn_ifeq (t := 35) (q := 25) dX9_counts_22 rfl rfl (fun h => absurd h (by decide)) (fun w22 => ?_)
        refine rn_iload_n (x := (pN : Int)) (q := 26) dX9_counts_25 rfl rfl ?_
        refine rn_iconst (q := 27) dX9_counts_26 (am_okd rfl) rfl ?_
        refine rn_bipush (q := 29) dX9_counts_27 ⟨by decide, by decide⟩ rfl ?_
        refine rn_callS (as := [.inl (pN : Int), .inl 0, .inl 10]) (rest := []) (q := 32) dX9_counts_29 ml_X9_116 sm_X9_in (by omega) rfl rfl (Nat.le_of_ble_eq_true rfl) rfl (s_in9 (d := d + 1) (pN : Int) 0 10) ?_
        intro r29 mem29 hq29
        obtain ⟨⟨rfl, hi29⟩ | ⟨rfl, hi29⟩, rfl⟩ := hq29
        · show am_Rn l G _ _ 32 [some (.inr (.inr 96)), some (.inl (nN : Int)), some (.inl (wN : Int)), some (.inl (pN : Int)), none] [.inl 1] (am_up mem 95 11 0) _
          refine rn_ifne (t := 37) (q := 35) dX9_counts_32 rfl rfl (fun w32 => ?_) (fun h => absurd h (by decide))
          refine rn_aload_n (x := 95) (q := 38) dX9_counts_37 rfl rfl ?_
          refine rn_iload_n (x := (nN : Int)) (q := 39) dX9_counts_38 rfl rfl ?_
          refine rn_iload_n (x := (pN : Int)) (q := 40) dX9_counts_39 rfl rfl ?_
          refine rn_callV (b := 95) (as := [.inl (nN : Int), .inl (pN : Int)]) (rest := []) (q := 43) dX9_counts_40 ml_X9_360 sm_X9_laySums rfl rfl (by decide) (by omega) rfl rfl (Nat.le_of_ble_eq_true rfl) rfl (m_laySums (d := d + 0) (q.kept (frS.up (a := 95) (k := 11) (x := 0) frS.rf rfl)) nN pN (by omega) (by omega)) ?_
          intro r40 mem40 hq40
          obtain ⟨rfl, hf40, hB40⟩ := hq40
          show am_Rn l G _ _ 43 [some (.inr (.inr 96)), some (.inl (nN : Int)), some (.inl (wN : Int)), some (.inl (pN : Int)), none] [] mem40 _
          refine rn_bipush (q := 45) dX9_counts_43 ⟨by decide, by decide⟩ rfl ?_
          refine rn_istore (ls' := [some (.inr (.inr 96)), some (.inl (nN : Int)), some (.inl (wN : Int)), some (.inl (pN : Int)), some (.inl 90)]) (q := 47) dX9_counts_45 (by decide) rfl rfl ?_
          exact L 90 (by omega) _ ((frS.rf.up rfl).tr hf40) hB40 hA
        · show am_Rn l G _ _ 32 [some (.inr (.inr 96)), some (.inl (nN : Int)), some (.inl (wN : Int)), some (.inl (pN : Int)), none] [.inl 0] (am_up mem 95 11 0) _
          refine rn_ifne (t := 37) (q := 35) dX9_counts_32 rfl rfl (fun h => absurd h (by decide)) (fun w32 => ?_)
          refine rn_iconst (q := 36) dX9_counts_35 (am_okd rfl) rfl ?_
          refine rn_iret dX9_counts_36 rfl ?_
          exfalso; omega
      · show am_Rn l G _ _ 22 [some (.inr (.inr 96)), some (.inl (nN : Int)), some (.inl (wN : Int)), some (.inl (pN : Int)), none] [.inl 0] (am_up mem 95 11 0) _
        refine rn_ifeq (t := 35) (q := 25) dX9_counts_22 rfl rfl (fun w22 => ?_) (fun h => absurd h (by decide))
        refine rn_iconst (q := 36) dX9_counts_35 (am_okd rfl) rfl ?_
        refine rn_iret dX9_counts_36 rfl ?_
        exfalso; omega
    · show am_Rn l G _ _ 12 [some (.inr (.inr 96)), some (.inl (nN : Int)), some (.inl (wN : Int)), some (.inl (pN : Int)), none] [.inl 0] (am_up mem 95 11 0) _
      refine rn_ifeq (t := 35) (q := 15) dX9_counts_12 rfl rfl (fun w12 => ?_) (fun h => absurd h (by decide))
      refine rn_iconst (q := 36) dX9_counts_35 (am_okd rfl) rfl ?_
      refine rn_iret dX9_counts_36 rfl ?_
      exfalso; omega
  · refine rn_aload_n (x := 95) (q := 1) dX9_counts_0 rfl rfl ?_
    refine rn_iconst (q := 2) dX9_counts_1 (am_okd rfl) rfl ?_
    refine rn_puti (a := 95) (q := 5) dX9_counts_2 fl_X9_107 rfl rfl rfl rfl ?_
    refine rn_iload_n (x := n) (q := 6) dX9_counts_5 rfl rfl ?_
    refine rn_iconst (q := 7) dX9_counts_6 (am_okd rfl) rfl ?_
    refine rn_bipush (q := 9) dX9_counts_7 ⟨by decide, by decide⟩ rfl ?_
    refine rn_callS (as := [.inl n, .inl 1, .inl 10]) (rest := []) (q := 12) dX9_counts_9 ml_X9_116 sm_X9_in (by omega) rfl rfl (Nat.le_of_ble_eq_true rfl) rfl (s_in9 (d := d + 1) n 1 10) ?_
    intro r9 mem9 hq9
    obtain ⟨⟨rfl, hi9⟩ | ⟨rfl, hi9⟩, rfl⟩ := hq9
    · show am_Rn l G _ _ 12 [some (.inr (.inr 96)), some (.inl n), some (.inl w), some (.inl p), none] [.inl 1] (am_up mem 95 11 0) _
      refine rn_ifeq (t := 35) (q := 15) dX9_counts_12 rfl rfl (fun h => absurd h (by decide)) (fun w12 => ?_)
      refine rn_iload_n (x := w) (q := 16) dX9_counts_15 rfl rfl ?_
      refine rn_iconst (q := 17) dX9_counts_16 (am_okd rfl) rfl ?_
      refine rn_bipush (q := 19) dX9_counts_17 ⟨by decide, by decide⟩ rfl ?_
      refine rn_callS (as := [.inl w, .inl 0, .inl 100]) (rest := []) (q := 22) dX9_counts_19 ml_X9_116 sm_X9_in (by omega) rfl rfl (Nat.le_of_ble_eq_true rfl) rfl (s_in9 (d := d + 1) w 0 100) ?_
      intro r19 mem19 hq19
      obtain ⟨⟨rfl, hi19⟩ | ⟨rfl, hi19⟩, rfl⟩ := hq19
      · show am_Rn l G _ _ 22 [some (.inr (.inr 96)), some (.inl n), some (.inl w), some (.inl p), none] [.inl 1] (am_up mem 95 11 0) _
        refine rn_ifeq (t := 35) (q := 25) dX9_counts_22 rfl rfl (fun h => absurd h (by decide)) (fun w22 => ?_)
        refine rn_iload_n (x := p) (q := 26) dX9_counts_25 rfl rfl ?_
        refine rn_iconst (q := 27) dX9_counts_26 (am_okd rfl) rfl ?_
        refine rn_bipush (q := 29) dX9_counts_27 ⟨by decide, by decide⟩ rfl ?_
        refine rn_callS (as := [.inl p, .inl 0, .inl 10]) (rest := []) (q := 32) dX9_counts_29 ml_X9_116 sm_X9_in (by omega) rfl rfl (Nat.le_of_ble_eq_true rfl) rfl (s_in9 (d := d + 1) p 0 10) ?_
        intro r29 mem29 hq29
        obtain ⟨⟨rfl, hi29⟩ | ⟨rfl, hi29⟩, rfl⟩ := hq29
        · show am_Rn l G _ _ 32 [some (.inr (.inr 96)), some (.inl n), some (.inl w), some (.inl p), none] [.inl 1] (am_up mem 95 11 0) _
          refine rn_ifne (t := 37) (q := 35) dX9_counts_32 rfl rfl (fun w32 => ?_) (fun h => absurd h (by decide))
          exfalso; omega
        · show am_Rn l G _ _ 32 [some (.inr (.inr 96)), some (.inl n), some (.inl w), some (.inl p), none] [.inl 0] (am_up mem 95 11 0) _
          refine rn_ifne (t := 37) (q := 35) dX9_counts_32 rfl rfl (fun h => absurd h (by decide)) (fun w32 => ?_)
          refine rn_iconst (q := 36) dX9_counts_35 (am_okd rfl) rfl ?_
          refine rn_iret dX9_counts_36 rfl ?_
          exact hQ _ _ ⟨fun _ => ⟨rfl, (frS.up (a := 95) (k := 11) (x := 0) frS.rf rfl), hR.kept (frS.rf.up rfl)⟩, fun h => absurd h hv⟩
      · show am_Rn l G _ _ 22 [some (.inr (.inr 96)), some (.inl n), some (.inl w), some (.inl p), none] [.inl 0] (am_up mem 95 11 0) _
        refine rn_ifeq (t := 35) (q := 25) dX9_counts_22 rfl rfl (fun w22 => ?_) (fun h => absurd h (by decide))
        refine rn_iconst (q := 36) dX9_counts_35 (am_okd rfl) rfl ?_
        refine rn_iret dX9_counts_36 rfl ?_
        exact hQ _ _ ⟨fun _ => ⟨rfl, (frS.up (a := 95) (k := 11) (x := 0) frS.rf rfl), hR.kept (frS.rf.up rfl)⟩, fun h => absurd h hv⟩
    · show am_Rn l G _ _ 12 [some (.inr (.inr 96)), some (.inl n), some (.inl w), some (.inl p), none] [.inl 0] (am_up mem 95 11 0) _
      refine rn_ifeq (t := 35) (q := 15) dX9_counts_12 rfl rfl (fun w12 => ?_) (fun h => absurd h (by decide))
      refine rn_iconst (q := 36) dX9_counts_35 (am_okd rfl) rfl ?_
      refine rn_iret dX9_counts_36 rfl ?_
      exact hQ _ _ ⟨fun _ => ⟨rfl, (frS.up (a := 95) (k := 11) (x := 0) frS.rf rfl), hR.kept (frS.rf.up rfl)⟩, fun h => absurd h hv⟩
end P71
