/-! sheet -/
def entV (kd v : Int) : Int := if kd = 0 then am_i2b v else if kd = 1 then am_i2s v else v
def shV (f s : Int) (j : Nat) : Int := am_w32 (f + (j : Int) * s)
def shH (kd many f s : Int) (j : Nat) : Nat := if kd ≠ 3 ∧ (j : Int) < many then (max 0 (min 99 (entV kd (shV f s j)))).toNat else 0
def shE (n : Nat) (kd many f s : Int) (e : est) : est := (fun j => if j < n then shH kd many f s j else eH e j, eS e, eP e, eN e, eB e, eM e, eK e, eG e)
def shA (n : Nat) (kd many f s : Int) (e : est) : Int := if kd = 3 then -3 else (((List.range n).map (eH (shE n kd many f s e))).sum : Nat)
def shB (kd many : Int) : Prop := ¬ (0 ≤ kd ∧ kd ≤ 3) ∨ 8 < many
def shC (kd many : Int) : Prop := kd < 3 ∧ many < 0
theorem shV_c {f s : Int} {j : Nat} : am_w32 (f + am_w32 ((j : Int) * s)) = shV f s j := by
  unfold shV am_w32
  generalize (j : Int) * s = z
  omega
theorem shV_m {f s : Int} {j : Nat} : am_w32 (shV f s j + s) = shV f s (j + 1) := by
  unfold shV am_w32
  rw [Int.natCast_add, Int.add_mul]
  generalize (j : Int) * s = z
  omega
theorem shH_9 {kd many f s : Int} {j : Nat} : shH kd many f s j ≤ 99 := by
  unfold shH
  split
  · generalize entV kd (shV f s j) = z; omega
  · omega
theorem shE_ok {n NB : Nat} {kd many f s : Int} {e : est} (q : e_ok n NB e) : e_ok n NB (shE n kd many f s e) := by
  refine ⟨fun j => ?_, q.2⟩
  show (if j < n then shH kd many f s j else eH e j) ≤ 99
  split
  · exact shH_9
  · exact q.1 j
section P83
variable {l : Launch} {G : am_G} {d : Nat} {r : Nat} {X : List Nat} {C : List Int} {sn : Nat} {sg : Nat → Nat} {h : hrs} {e : est} {NB : Nat} {mem m : am_M}
variable {e2 : est} {U : List est} {R : List Int}
theorem c_entry (kd v : Int) : am_Sm l G yX8_entry mt_X8_entry d [.inl kd, .inl v] mem (am_rr (some (.inl (entV kd v))) mem) := by
  refine am_enterQ (ls := [some (.inl kd), some (.inl v)]) (by decide) rfl (Nat.le_of_ble_eq_true rfl) rfl (fun hok Q hQ => ?_)
  unfold entV at hQ
  refine rn_iload_n (x := kd) (q := 1) dX8_entry_0 rfl rfl ?_
  refine rn_ifne (t := 7) (q := 4) dX8_entry_1 rfl rfl (fun w1 => ?_) (fun w1 => ?_)
  · refine rn_iload_n (x := kd) (q := 8) dX8_entry_7 rfl rfl ?_
    refine rn_iconst (q := 9) dX8_entry_8 (am_okd rfl) rfl ?_
    refine rn_cmpne (t := 17) (q := 12) dX8_entry_9 rfl rfl (fun w9 => ?_) (fun w9 => ?_)
    · refine rn_iload_n (x := v) (q := 18) dX8_entry_17 rfl rfl ?_
      refine rn_iret dX8_entry_18 rfl ?_
      first | (rw [if_pos (by assumption)] at hQ; exact hQ _ _ ⟨rfl, rfl⟩) | (rw [if_neg (by assumption), if_pos (by assumption)] at hQ; exact hQ _ _ ⟨rfl, rfl⟩) | (rw [if_neg (by assumption), if_neg (by assumption)] at hQ; exact hQ _ _ ⟨rfl, rfl⟩)
    · refine rn_iload_n (x := v) (q := 13) dX8_entry_12 rfl rfl ?_
      refine rn_i2s (q := 14) dX8_entry_13 rfl ?_
      refine rn_goto (t := 18) dX8_entry_14 rfl ?_
      refine rn_iret dX8_entry_18 rfl ?_
      first | (rw [if_pos (by assumption)] at hQ; exact hQ _ _ ⟨rfl, rfl⟩) | (rw [if_neg (by assumption), if_pos (by assumption)] at hQ; exact hQ _ _ ⟨rfl, rfl⟩) | (rw [if_neg (by assumption), if_neg (by assumption)] at hQ; exact hQ _ _ ⟨rfl, rfl⟩)
  · refine rn_iload_n (x := v) (q := 5) dX8_entry_4 rfl rfl ?_
    refine rn_i2b (q := 6) dX8_entry_5 rfl ?_
    refine rn_iret dX8_entry_6 rfl ?_
    first | (rw [if_pos (by assumption)] at hQ; exact hQ _ _ ⟨rfl, rfl⟩) | (rw [if_neg (by assumption), if_pos (by assumption)] at hQ; exact hQ _ _ ⟨rfl, rfl⟩) | (rw [if_neg (by assumption), if_neg (by assumption)] at hQ; exact hQ _ _ ⟨rfl, rfl⟩)
theorem c_sheet (q : CQ r X C sn sg h e NB mem) {R : List Int} (hR : c_row R mem) (hU : c_undo U mem) (kd many f s : Int) : am_Sm l G yX8_sheet mt_X8_sheet (d + 1) [.inr (.inr 1), .inl kd, .inl many, .inl f, .inl s] mem (fun q m => (shB kd many → AC (-1) e U R mem q m) ∧ (¬ shB kd many → shC kd many → AC (-2) e U R mem q m) ∧ (¬ shB kd many → ¬ shC kd many → AC (shA h.1 kd many f s e) (shE h.1 kd many f s e) U R mem q m)) := by
  refine am_enterQ (ls := [some (.inr (.inr 1)), some (.inl kd), some (.inl many), some (.inl f), some (.inl s), none, none]) (by decide) rfl (Nat.le_of_ble_eq_true rfl) rfl (fun hok Q hQ => ?_)
  have b := q.bd
  unfold shB shC at hQ
  by_cases h1 : ¬ (0 ≤ kd ∧ kd ≤ 3) ∨ 8 < many
  · refine rn_iload_n (x := kd) (q := 1) dX8_sheet_0 rfl rfl ?_
    refine rn_iflt (t := 15) (q := 4) dX8_sheet_1 rfl rfl (fun w1 => ?_) (fun w1 => ?_)
    · refine rn_iconst (q := 16) dX8_sheet_15 (am_okd rfl) rfl ?_
      refine rn_iret dX8_sheet_16 rfl ?_
      exact hQ _ _ ⟨fun _ => ⟨rfl, q.es, hU, hR, frS.rf⟩, fun z => absurd h1 z, fun z => absurd h1 z⟩
    · refine rn_iload_n (x := kd) (q := 5) dX8_sheet_4 rfl rfl ?_
      refine rn_iconst (q := 6) dX8_sheet_5 (am_okd rfl) rfl ?_
      refine rn_cmpgt (t := 15) (q := 9) dX8_sheet_6 rfl rfl (fun w6 => ?_) (fun w6 => ?_)
      · refine rn_iconst (q := 16) dX8_sheet_15 (am_okd rfl) rfl ?_
        refine rn_iret dX8_sheet_16 rfl ?_
        exact hQ _ _ ⟨fun _ => ⟨rfl, q.es, hU, hR, frS.rf⟩, fun z => absurd h1 z, fun z => absurd h1 z⟩
      · refine rn_iload_n (x := many) (q := 10) dX8_sheet_9 rfl rfl ?_
        refine rn_bipush (q := 12) dX8_sheet_10 ⟨by decide, by decide⟩ rfl ?_
        refine rn_cmple (t := 17) (q := 15) dX8_sheet_12 rfl rfl (fun w12 => ?_) (fun w12 => ?_)
        · exfalso; omega
        · refine rn_iconst (q := 16) dX8_sheet_15 (am_okd rfl) rfl ?_
          refine rn_iret dX8_sheet_16 rfl ?_
          exact hQ _ _ ⟨fun _ => ⟨rfl, q.es, hU, hR, frS.rf⟩, fun z => absurd h1 z, fun z => absurd h1 z⟩
  by_cases h2 : kd < 3 ∧ many < 0
  · refine rn_iload_n (x := kd) (q := 1) dX8_sheet_0 rfl rfl ?_
    refine rn_iflt (t := 15) (q := 4) dX8_sheet_1 rfl rfl (fun w1 => ?_) (fun w1 => ?_)
    · refine rn_iconst (q := 16) dX8_sheet_15 (am_okd rfl) rfl ?_
      refine rn_iret dX8_sheet_16 rfl ?_
      first | (exfalso; omega) | exact hQ _ _ ⟨fun z => absurd z h1, fun _ _ => ⟨rfl, q.es, hU, hR, frS.rf⟩, fun _ z => absurd h2 z⟩
    · refine rn_iload_n (x := kd) (q := 5) dX8_sheet_4 rfl rfl ?_
      refine rn_iconst (q := 6) dX8_sheet_5 (am_okd rfl) rfl ?_
      refine rn_cmpgt (t := 15) (q := 9) dX8_sheet_6 rfl rfl (fun w6 => ?_) (fun w6 => ?_)
      · refine rn_iconst (q := 16) dX8_sheet_15 (am_okd rfl) rfl ?_
        refine rn_iret dX8_sheet_16 rfl ?_
        first | (exfalso; omega) | exact hQ _ _ ⟨fun z => absurd z h1, fun _ _ => ⟨rfl, q.es, hU, hR, frS.rf⟩, fun _ z => absurd h2 z⟩
      · refine rn_iload_n (x := many) (q := 10) dX8_sheet_9 rfl rfl ?_
        refine rn_bipush (q := 12) dX8_sheet_10 ⟨by decide, by decide⟩ rfl ?_
        refine rn_cmple (t := 17) (q := 15) dX8_sheet_12 rfl rfl (fun w12 => ?_) (fun w12 => ?_)
        · refine rn_iload_n (x := kd) (q := 18) dX8_sheet_17 rfl rfl ?_
          refine rn_iconst (q := 19) dX8_sheet_18 (am_okd rfl) rfl ?_
          refine rn_cmpge (t := 29) (q := 22) dX8_sheet_19 rfl rfl (fun w19 => ?_) (fun w19 => ?_)
          · exfalso; omega
          · refine rn_iload_n (x := many) (q := 23) dX8_sheet_22 rfl rfl ?_
            refine rn_ifge (t := 29) (q := 26) dX8_sheet_23 rfl rfl (fun w23 => ?_) (fun w23 => ?_)
            · exfalso; omega
            · refine rn_bipush (q := 28) dX8_sheet_26 ⟨by decide, by decide⟩ rfl ?_
              refine rn_iret dX8_sheet_28 rfl ?_
              first | (exfalso; omega) | exact hQ _ _ ⟨fun z => absurd z h1, fun _ _ => ⟨rfl, q.es, hU, hR, frS.rf⟩, fun _ z => absurd h2 z⟩
        · refine rn_iconst (q := 16) dX8_sheet_15 (am_okd rfl) rfl ?_
          refine rn_iret dX8_sheet_16 rfl ?_
          first | (exfalso; omega) | exact hQ _ _ ⟨fun z => absurd z h1, fun _ _ => ⟨rfl, q.es, hU, hR, frS.rf⟩, fun _ z => absurd h2 z⟩
  have L : ∀ mm : Int, ((kd = 3 ∧ mm = 0) ∨ (kd ≠ 3 ∧ mm = many)) → ∀ i : Nat, i ≤ h.1 → ∀ (m : am_M), (∀ b, b ≠ 17 → m b = mem b) → (∀ j, j < 8 → m 17 j = if j < i then (shH kd many f s j : Int) else (eH e j : Int)) → am_Rn l G mt_X8_sheet (d + 1) 44 [some (.inr (.inr 1)), some (.inl kd), some (.inl many), some (.inl f), some (.inl s), some (.inl mm), some (.inl (i : Int))] [] m Q := by
    intro mm hmm
    refine am_dn h.1 (fun i hi ih m hf hE => ?_)
    have hE2 : ∀ x : Int, x = (shH kd many f s i : Int) → ∀ j, j < 8 → am_up m 17 i x 17 j = if j < i + 1 then (shH kd many f s j : Int) else (eH e j : Int) := by
      intro x hx j hj
      rw [am_up_at]
      by_cases hji : j = i
      · rw [if_pos hji, if_pos (by omega), hx, hji]
      · rw [if_neg hji, hE j hj]
        by_cases hj3 : j < i
        · rw [if_pos hj3, if_pos (by omega)]
        · rw [if_neg hj3, if_neg (by omega)]
    refine rn_iload (x := (i : Int)) (q := 46) dX8_sheet_44 rfl rfl ?_
    refine rn_aload_n (x := 0) (q := 47) dX8_sheet_46 rfl rfl ?_
    refine rn_get (a := 0) (v := .inr (.inr 6)) (q := 50) dX8_sheet_47 fl_X8_26 rfl rfl rfl ?_
    refine rn_get (a := 5) (v := .inl (h.1 : Int)) (q := 53) dX8_sheet_50 fl_X8_136 rfl (am_gi ((congrFun (hf 5 (by decide)) 6).trans q.n)) rfl ?_
    refine rn_cmpge (t := 100) (q := 56) dX8_sheet_53 rfl rfl (fun w53 => ?_) (fun w53 => ?_)
    · refine rn_iload_n (x := kd) (q := 101) dX8_sheet_100 rfl rfl ?_
      refine rn_iconst (q := 102) dX8_sheet_101 (am_okd rfl) rfl ?_
      refine rn_cmpne (t := 110) (q := 105) dX8_sheet_102 rfl rfl (fun w102 => ?_) (fun w102 => ?_)
      · refine rn_aload_n (x := 0) (q := 111) dX8_sheet_110 rfl rfl ?_
        refine rn_get (a := 0) (v := .inr (.inr 17)) (q := 114) dX8_sheet_111 fl_X8_33 rfl rfl rfl ?_
        refine rn_aload_n (x := 0) (q := 115) dX8_sheet_114 rfl rfl ?_
        refine rn_get (a := 0) (v := .inr (.inr 6)) (q := 118) dX8_sheet_115 fl_X8_26 rfl rfl rfl ?_
        refine rn_get (a := 5) (v := .inl (h.1 : Int)) (q := 121) dX8_sheet_118 fl_X8_136 rfl (am_gi ((congrFun (hf 5 (by decide)) 6).trans q.n)) rfl ?_
        refine rn_callV (b := 16) (as := [.inl (h.1 : Int)]) (rest := []) (q := 124) dX8_sheet_121 ml_X8_206 sm_X0_heardOfAll rfl rfl (by decide) (by omega) rfl rfl (Nat.le_of_ble_eq_true rfl) rfl (c_heardOfAll (d := d + 0) (a := 16) (n := h.1) (show 16 ∈ am_estL by decide) b.1 (eH (shE h.1 kd many f s e)) (fun j hj => by show m 17 j = ((if j < h.1 then shH kd many f s j else eH e j : Nat) : Int); rw [hE j hj]; obtain rfl : i = h.1 := (by omega); split <;> rfl) (shE_ok q.eo).1) ?_
        intro r121 mem121 hq121
        obtain ⟨rfl, rfl⟩ := hq121
        show am_Rn l G _ _ 124 [some (.inr (.inr 1)), some (.inl kd), some (.inl many), some (.inl f), some (.inl s), some (.inl mm), some (.inl (i : Int))] [.inl (((List.range h.1).map (eH (shE h.1 kd many f s e))).sum : Nat)] m _
        refine rn_iret dX8_sheet_124 rfl ?_
        obtain rfl : i = h.1 := by omega
        refine hQ _ _ ⟨fun z => absurd z h1, fun _ z => absurd z h2, fun _ _ => ?_⟩
        unfold shA
        have hA : c_est (shE h.1 kd many f s e) 16 m ∧ c_undo U m ∧ c_row R m ∧ frS s8a mem m := by
          have hes := q.es
          refine ⟨⟨fun j hj => ?_, fun j hj => by rw [hf 18 (by decide)]; exact hes.2.1 j hj, by rw [hf 16 (by decide)]; exact hes.2.2.1, by rw [hf 16 (by decide)]; exact hes.2.2.2.1, by rw [hf 16 (by decide)]; exact hes.2.2.2.2.1, by rw [hf 16 (by decide)]; exact hes.2.2.2.2.2.1, by rw [hf 16 (by decide)]; exact hes.2.2.2.2.2.2.1, by rw [hf 16 (by decide)]; exact hes.2.2.2.2.2.2.2⟩, hU.keptU (fun x a1 a2 => hf x (by omega)), ⟨by rw [hf 3 (by decide)]; exact hR.1, hR.2.1, fun j hj => by rw [hf 4 (by decide)]; exact hR.2.2 j hj⟩, fun b2 k2 hb => ?_⟩
          · show m 17 j = ((if j < h.1 then shH kd many f s j else eH e j : Nat) : Int)
            rw [hE j hj]; split <;> rfl
          · unfold s8a at hb; simp [ble_f] at hb; rw [hf b2 (by omega)]
        first | (rw [if_pos (by assumption)]; exact ⟨rfl, hA⟩) | (rw [if_neg (by assumption)]; exact ⟨rfl, hA⟩)
      · refine rn_bipush (q := 107) dX8_sheet_105 ⟨by decide, by decide⟩ rfl ?_
        refine rn_goto (t := 124) dX8_sheet_107 rfl ?_
        refine rn_iret dX8_sheet_124 rfl ?_
        obtain rfl : i = h.1 := by omega
        refine hQ _ _ ⟨fun z => absurd z h1, fun _ z => absurd z h2, fun _ _ => ?_⟩
        unfold shA
        have hA : c_est (shE h.1 kd many f s e) 16 m ∧ c_undo U m ∧ c_row R m ∧ frS s8a mem m := by
          have hes := q.es
          refine ⟨⟨fun j hj => ?_, fun j hj => by rw [hf 18 (by decide)]; exact hes.2.1 j hj, by rw [hf 16 (by decide)]; exact hes.2.2.1, by rw [hf 16 (by decide)]; exact hes.2.2.2.1, by rw [hf 16 (by decide)]; exact hes.2.2.2.2.1, by rw [hf 16 (by decide)]; exact hes.2.2.2.2.2.1, by rw [hf 16 (by decide)]; exact hes.2.2.2.2.2.2.1, by rw [hf 16 (by decide)]; exact hes.2.2.2.2.2.2.2⟩, hU.keptU (fun x a1 a2 => hf x (by omega)), ⟨by rw [hf 3 (by decide)]; exact hR.1, hR.2.1, fun j hj => by rw [hf 4 (by decide)]; exact hR.2.2 j hj⟩, fun b2 k2 hb => ?_⟩
          · show m 17 j = ((if j < h.1 then shH kd many f s j else eH e j : Nat) : Int)
            rw [hE j hj]; split <;> rfl
          · unfold s8a at hb; simp [ble_f] at hb; rw [hf b2 (by omega)]
        first | (rw [if_pos (by assumption)]; exact ⟨rfl, hA⟩) | (rw [if_neg (by assumption)]; exact ⟨rfl, hA⟩)
    · refine rn_aload_n (x := 0) (q := 57) dX8_sheet_56 rfl rfl ?_
      refine rn_get (a := 0) (v := .inr (.inr 17)) (q := 60) dX8_sheet_57 fl_X8_33 rfl rfl rfl ?_
      refine rn_get (a := 16) (v := .inr (.inr 18)) (q := 63) dX8_sheet_60 fl_X8_159 rfl rfl rfl ?_
      refine rn_iload (x := (i : Int)) (q := 65) dX8_sheet_63 rfl rfl ?_
      refine rn_iload (x := (i : Int)) (q := 67) dX8_sheet_65 rfl rfl ?_
      refine rn_iload (x := mm) (q := 69) dX8_sheet_67 rfl rfl ?_
      refine rn_cmpge (t := 92) (q := 72) dX8_sheet_69 rfl rfl (fun w69 => ?_) (fun w69 => ?_)
      · refine rn_iconst (q := 93) dX8_sheet_92 (am_okd rfl) rfl ?_
        refine rn_iastV (a := 17) (m1 := am_up m 17 i 0) (q := 94) dX8_sheet_93 rfl (by omega) (by omega) rfl rfl ?_
        refine rn_iincN (x := (i : Int)) (z := ((i + 1 : Nat) : Int)) (ls' := [some (.inr (.inr 1)), some (.inl kd), some (.inl many), some (.inl f), some (.inl s), some (.inl mm), some (.inl ((i + 1 : Nat) : Int))]) (q := 97) dX8_sheet_94 rfl (by decide) (by omega) (by unfold am_ok; omega) rfl rfl ?_
        refine rn_goto (t := 44) dX8_sheet_97 rfl ?_
        refine ih (by omega) _ (fun b2 hb => by rw [am_up_ne hb]; exact hf b2 hb) (hE2 _ ?_)
        unfold shH
        first | (rw [if_pos (by omega)]; generalize entV kd (shV f s i) = z; omega) | (rw [if_neg (by omega)]; rfl)
      · refine rn_iload_n (x := kd) (q := 73) dX8_sheet_72 rfl rfl ?_
        refine rn_iload_n (x := f) (q := 74) dX8_sheet_73 rfl rfl ?_
        refine rn_iload (x := (i : Int)) (q := 76) dX8_sheet_74 rfl rfl ?_
        refine rn_iload (x := s) (q := 78) dX8_sheet_76 rfl rfl ?_
        refine rn_imul (q := 79) dX8_sheet_78 rfl ?_
        refine rn_iadd (q := 80) dX8_sheet_79 rfl ?_
        rw [show am_w32 (f + (am_w32 ((i : Int) * s))) = shV f s i from shV_c]
        refine rn_callS (as := [.inl kd, .inl (shV f s i)]) (rest := [.inl (i : Int), .inr (.inr 18)]) (q := 83) dX8_sheet_80 ml_X8_199 sm_X8_entry (by omega) rfl rfl (Nat.le_of_ble_eq_true rfl) rfl (c_entry (d := d + 0) kd (shV f s i)) ?_
        intro r80 mem80 hq80
        obtain ⟨rfl, rfl⟩ := hq80
        show am_Rn l G _ _ 83 [some (.inr (.inr 1)), some (.inl kd), some (.inl many), some (.inl f), some (.inl s), some (.inl mm), some (.inl (i : Int))] [.inl (entV kd (shV f s i)), .inl (i : Int), .inr (.inr 18)] m _
        refine rn_iconst (q := 84) dX8_sheet_83 (am_okd rfl) rfl ?_
        refine rn_bipush (q := 86) dX8_sheet_84 ⟨by decide, by decide⟩ rfl ?_
        refine rn_callS (as := [.inl (entV kd (shV f s i)), .inl 0, .inl 99]) (rest := [.inl (i : Int), .inr (.inr 18)]) (q := 89) dX8_sheet_86 ml_X8_202 sm_X8_put (by omega) rfl rfl (Nat.le_of_ble_eq_true rfl) rfl (s_put (d := d + 0) (entV kd (shV f s i)) 0 99) ?_
        intro r86 mem86 hq86
        obtain ⟨rfl, rfl⟩ := hq86
        show am_Rn l G _ _ 89 [some (.inr (.inr 1)), some (.inl kd), some (.inl many), some (.inl f), some (.inl s), some (.inl mm), some (.inl (i : Int))] [.inl (max 0 (min 99 (entV kd (shV f s i)))), .inl (i : Int), .inr (.inr 18)] m _
        refine rn_goto (t := 93) dX8_sheet_89 rfl ?_
        refine rn_iastV (a := 17) (m1 := am_up m 17 i (max 0 (min 99 (entV kd (shV f s i))))) (q := 94) dX8_sheet_93 rfl (by omega) (by omega) rfl rfl ?_
        refine rn_iincN (x := (i : Int)) (z := ((i + 1 : Nat) : Int)) (ls' := [some (.inr (.inr 1)), some (.inl kd), some (.inl many), some (.inl f), some (.inl s), some (.inl mm), some (.inl ((i + 1 : Nat) : Int))]) (q := 97) dX8_sheet_94 rfl (by decide) (by omega) (by unfold am_ok; omega) rfl rfl ?_
        refine rn_goto (t := 44) dX8_sheet_97 rfl ?_
        refine ih (by omega) _ (fun b2 hb => by rw [am_up_ne hb]; exact hf b2 hb) (hE2 _ ?_)
        unfold shH
        first | (rw [if_pos (by omega)]; generalize entV kd (shV f s i) = z; omega) | (rw [if_neg (by omega)]; rfl)
  refine rn_iload_n (x := kd) (q := 1) dX8_sheet_0 rfl rfl ?_
  refine rn_iflt (t := 15) (q := 4) dX8_sheet_1 rfl rfl (fun w1 => ?_) (fun w1 => ?_)
  · refine rn_iconst (q := 16) dX8_sheet_15 (am_okd rfl) rfl ?_
    refine rn_iret dX8_sheet_16 rfl ?_
    exfalso; omega
  · refine rn_iload_n (x := kd) (q := 5) dX8_sheet_4 rfl rfl ?_
    refine rn_iconst (q := 6) dX8_sheet_5 (am_okd rfl) rfl ?_
    refine rn_cmpgt (t := 15) (q := 9) dX8_sheet_6 rfl rfl (fun w6 => ?_) (fun w6 => ?_)
    · refine rn_iconst (q := 16) dX8_sheet_15 (am_okd rfl) rfl ?_
      refine rn_iret dX8_sheet_16 rfl ?_
      exfalso; omega
    · refine rn_iload_n (x := many) (q := 10) dX8_sheet_9 rfl rfl ?_
      refine rn_bipush (q := 12) dX8_sheet_10 ⟨by decide, by decide⟩ rfl ?_
      refine rn_cmple (t := 17) (q := 15) dX8_sheet_12 rfl rfl (fun w12 => ?_) (fun w12 => ?_)
      · refine rn_iload_n (x := kd) (q := 18) dX8_sheet_17 rfl rfl ?_
        refine rn_iconst (q := 19) dX8_sheet_18 (am_okd rfl) rfl ?_
        refine rn_cmpge (t := 29) (q := 22) dX8_sheet_19 rfl rfl (fun w19 => ?_) (fun w19 => ?_)
        · refine rn_iload_n (x := kd) (q := 30) dX8_sheet_29 rfl rfl ?_
          refine rn_iconst (q := 31) dX8_sheet_30 (am_okd rfl) rfl ?_
          refine rn_cmpne (t := 38) (q := 34) dX8_sheet_31 rfl rfl (fun w31 => ?_) (fun w31 => ?_)
          · refine rn_iload_n (x := many) (q := 39) dX8_sheet_38 rfl rfl ?_
            refine rn_istore (ls' := [some (.inr (.inr 1)), some (.inl kd), some (.inl many), some (.inl f), some (.inl s), some (.inl many), none]) (q := 41) dX8_sheet_39 (by decide) rfl rfl ?_
            refine rn_iconst (q := 42) dX8_sheet_41 (am_okd rfl) rfl ?_
            refine rn_istore (ls' := [some (.inr (.inr 1)), some (.inl kd), some (.inl many), some (.inl f), some (.inl s), some (.inl many), some (.inl 0)]) (q := 44) dX8_sheet_42 (by decide) rfl rfl ?_
            first | (exfalso; omega) | exact L _ (by omega) 0 (Nat.zero_le _) _ (fun _ _ => rfl) (fun j hj => by rw [if_neg (by omega)]; exact q.hd hj)
          · refine rn_iconst (q := 35) dX8_sheet_34 (am_okd rfl) rfl ?_
            refine rn_goto (t := 39) dX8_sheet_35 rfl ?_
            refine rn_istore (ls' := [some (.inr (.inr 1)), some (.inl kd), some (.inl many), some (.inl f), some (.inl s), some (.inl 0), none]) (q := 41) dX8_sheet_39 (by decide) rfl rfl ?_
            refine rn_iconst (q := 42) dX8_sheet_41 (am_okd rfl) rfl ?_
            refine rn_istore (ls' := [some (.inr (.inr 1)), some (.inl kd), some (.inl many), some (.inl f), some (.inl s), some (.inl 0), some (.inl 0)]) (q := 44) dX8_sheet_42 (by decide) rfl rfl ?_
            first | (exfalso; omega) | exact L _ (by omega) 0 (Nat.zero_le _) _ (fun _ _ => rfl) (fun j hj => by rw [if_neg (by omega)]; exact q.hd hj)
        · refine rn_iload_n (x := many) (q := 23) dX8_sheet_22 rfl rfl ?_
          refine rn_ifge (t := 29) (q := 26) dX8_sheet_23 rfl rfl (fun w23 => ?_) (fun w23 => ?_)
          · refine rn_iload_n (x := kd) (q := 30) dX8_sheet_29 rfl rfl ?_
            refine rn_iconst (q := 31) dX8_sheet_30 (am_okd rfl) rfl ?_
            refine rn_cmpne (t := 38) (q := 34) dX8_sheet_31 rfl rfl (fun w31 => ?_) (fun w31 => ?_)
            · refine rn_iload_n (x := many) (q := 39) dX8_sheet_38 rfl rfl ?_
              refine rn_istore (ls' := [some (.inr (.inr 1)), some (.inl kd), some (.inl many), some (.inl f), some (.inl s), some (.inl many), none]) (q := 41) dX8_sheet_39 (by decide) rfl rfl ?_
              refine rn_iconst (q := 42) dX8_sheet_41 (am_okd rfl) rfl ?_
              refine rn_istore (ls' := [some (.inr (.inr 1)), some (.inl kd), some (.inl many), some (.inl f), some (.inl s), some (.inl many), some (.inl 0)]) (q := 44) dX8_sheet_42 (by decide) rfl rfl ?_
              first | (exfalso; omega) | exact L _ (by omega) 0 (Nat.zero_le _) _ (fun _ _ => rfl) (fun j hj => by rw [if_neg (by omega)]; exact q.hd hj)
            · refine rn_iconst (q := 35) dX8_sheet_34 (am_okd rfl) rfl ?_
              refine rn_goto (t := 39) dX8_sheet_35 rfl ?_
              refine rn_istore (ls' := [some (.inr (.inr 1)), some (.inl kd), some (.inl many), some (.inl f), some (.inl s), some (.inl 0), none]) (q := 41) dX8_sheet_39 (by decide) rfl rfl ?_
              refine rn_iconst (q := 42) dX8_sheet_41 (am_okd rfl) rfl ?_
              refine rn_istore (ls' := [some (.inr (.inr 1)), some (.inl kd), some (.inl many), some (.inl f), some (.inl s), some (.inl 0), some (.inl 0)]) (q := 44) dX8_sheet_42 (by decide) rfl rfl ?_
              first | (exfalso; omega) | exact L _ (by omega) 0 (Nat.zero_le _) _ (fun _ _ => rfl) (fun j hj => by rw [if_neg (by omega)]; exact q.hd hj)
          · refine rn_bipush (q := 28) dX8_sheet_26 ⟨by decide, by decide⟩ rfl ?_
            refine rn_iret dX8_sheet_28 rfl ?_
            exfalso; omega
      · refine rn_iconst (q := 16) dX8_sheet_15 (am_okd rfl) rfl ?_
        refine rn_iret dX8_sheet_16 rfl ?_
        exfalso; omega
end P83
