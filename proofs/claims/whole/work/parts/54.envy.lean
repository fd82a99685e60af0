/-! the reference's raises; grows, envy -/
section P54
variable {l : Launch} {G : am_G} {d : Nat} {r : Nat} {X : List Nat} {C : List Int} {sn : Nat} {sg : Nat → Nat} {h : hrs} {e : est} {NB : Nat} {mem m : am_M}
theorem m_raises (q : DQ X sn sg h e NB mem) {R : List Int} (hR : m_row R mem) (v : Int) : am_Sm l G yX9_raises mt_X9_raises (d + 2) [.inr (.inr 96), .inl v] mem (fun q m => (¬ (0 ≤ v ∧ v ≤ 9999) → QM (-1) R mem q m) ∧ (0 ≤ v ∧ v ≤ 9999 → (v - (eM e : Int) ≤ 0 → QM 0 [-1] mem q m) ∧ (0 < v - (eM e : Int) → QM (if (rai h.2.2.2 (v - (eM e : Int)) (eB e) h.1).2 = 1000000 then -2 else (rai h.2.2.2 (v - (eM e : Int)) (eB e) h.1).2) (if (rai h.2.2.2 (v - (eM e : Int)) (eB e) h.1).2 = 1000000 then R else [(rai h.2.2.2 (v - (eM e : Int)) (eB e) h.1).1]) mem q m))) := by
  refine am_enterQ (ls := [some (.inr (.inr 96)), some (.inl v), none, none, none, none, none]) (by decide) rfl (Nat.le_of_ble_eq_true rfl) rfl (fun hok Q hQ => ?_)
  have b := q.bd
  have L : 0 ≤ v ∧ v ≤ 9999 → 0 < v - (eM e : Int) → ∀ i : Nat, i ≤ h.1 → ∀ (s t : Int) (lx : Option am_V), s = (rai h.2.2.2 (v - (eM e : Int)) (eB e) i).1 → t = (rai h.2.2.2 (v - (eM e : Int)) (eB e) i).2 → am_Rn l G mt_X9_raises (d + 2) 46 [some (.inr (.inr 96)), some (.inl v), some (.inl (v - (eM e : Int))), some (.inl s), some (.inl t), some (.inl (i : Int)), lx] [] (am_up mem 95 11 0) Q := by
    intro hv hl
    refine am_dn h.1 (fun i hi ih s t lx hs ht => ?_)
    have p9 := q.pa9 i
    have o := rai_ok (py := h.2.2.2) (lk := v - (eM e : Int)) (bk := (eB e : Int)) (by omega) q.pa9 i
    have stay : ¬ (h.2.2.2 i ≠ 0 ∧ (v - (eM e : Int) + 2 * (h.2.2.2 i : Int) - 1).tdiv (2 * (h.2.2.2 i : Int)) ≤ (eB e : Int) ∧ (v - (eM e : Int) + 2 * (h.2.2.2 i : Int) - 1).tdiv (2 * (h.2.2.2 i : Int)) < (rai h.2.2.2 (v - (eM e : Int)) (eB e) i).2) → ∀ lx, i < h.1 → am_Rn l G mt_X9_raises (d + 2) 46 [some (.inr (.inr 96)), some (.inl v), some (.inl (v - (eM e : Int))), some (.inl s), some (.inl t), some (.inl ((i + 1 : Nat) : Int)), lx] [] (am_up mem 95 11 0) Q := by
      intro hn lx hlt
      exact ih hlt s t lx (by rw [rai, if_neg hn]; exact hs) (by rw [rai, if_neg hn]; exact ht)
    have e2 : (rai h.2.2.2 (v - (eM e : Int)) (eB e) i).2 = t := ht.symm
    by_cases hp : h.2.2.2 i = 0
    · have ep : (h.2.2.2 i : Int) = 0 := by omega
      refine rn_iload (x := (i : Int)) (q := 48) dX9_raises_46 rfl rfl ?_
      refine rn_aload_n (x := 95) (q := 49) dX9_raises_48 rfl rfl ?_
      refine rn_get (a := 95) (v := .inl (h.1 : Int)) (q := 52) dX9_raises_49 fl_X9_113 rfl (am_gi (q.kept (frS.up (a := 95) (k := 11) (x := 0) frS.rf rfl)).n) rfl ?_
      refine rn_cmpge (t := 132) (q := 55) dX9_raises_52 rfl rfl (fun w52 => ?_) (fun w52 => ?_)
      · refine rn_iload (x := t) (q := 134) dX9_raises_132 rfl rfl ?_
        refine rn_ldcw (n := 1000000) (q := 137) dX9_raises_134 kc_X9_323 rfl (am_okd rfl) rfl ?_
        refine rn_cmpne (t := 143) (q := 140) dX9_raises_137 rfl rfl (fun w137 => ?_) (fun w137 => ?_)
        · refine rn_aload_n (x := 95) (q := 144) dX9_raises_143 rfl rfl ?_
          refine rn_iconst (q := 145) dX9_raises_144 (am_okd rfl) rfl ?_
          refine rn_puti (a := 95) (q := 148) dX9_raises_145 fl_X9_110 rfl rfl rfl rfl ?_
          refine rn_aload_n (x := 95) (q := 149) dX9_raises_148 rfl rfl ?_
          refine rn_iload_n (x := s) (q := 150) dX9_raises_149 rfl rfl ?_
          refine rn_i2l (q := 151) dX9_raises_150 rfl ?_
          refine rn_callV (b := 95) (as := [.inr (.inl s)]) (rest := []) (q := 154) dX9_raises_151 ml_X9_275 sm_X9_tell rfl rfl (by decide) (by omega) rfl rfl (Nat.le_of_ble_eq_true rfl) rfl (m_tell (d := d + 1) m_row0 (by first | decide | simp | omega) s) ?_
          intro r151 mem151 hq151
          obtain ⟨rfl, hr151, hf151⟩ := hq151
          show am_Rn l G _ _ 154 [some (.inr (.inr 96)), some (.inl v), some (.inl (v - (eM e : Int))), some (.inl s), some (.inl t), some (.inl (i : Int)), lx] [] mem151 _
          refine rn_iload (x := t) (q := 156) dX9_raises_154 rfl rfl ?_
          refine rn_iret dX9_raises_156 rfl ?_
          exact hQ _ _ ⟨fun hn => absurd hv hn, fun _ => ⟨fun hn => by omega, fun _ => by rw [show h.1 = i by omega, if_neg (by omega), if_neg (by omega), ← hs, ← ht]; exact ⟨rfl, ((frS.up (a := 95) (k := 10) (x := 0) (frS.up (a := 95) (k := 11) (x := 0) frS.rf rfl) rfl).tr hf151), hr151⟩⟩⟩
        · refine rn_bipush (q := 142) dX9_raises_140 ⟨by decide, by decide⟩ rfl ?_
          refine rn_iret dX9_raises_142 rfl ?_
          exact hQ _ _ ⟨fun hn => absurd hv hn, fun _ => ⟨fun hn => by omega, fun _ => by rw [show h.1 = i by omega, if_pos (by omega), if_pos (by omega)]; exact ⟨rfl, (frS.up (a := 95) (k := 11) (x := 0) frS.rf rfl), hR.kept (frS.rf.up rfl)⟩⟩⟩
      · refine rn_iload_n (x := (v - (eM e : Int))) (q := 56) dX9_raises_55 rfl rfl ?_
        refine rn_ifle (t := 132) (q := 59) dX9_raises_56 rfl rfl (fun h => absurd h (by omega)) (fun w56 => ?_)
        refine rn_aload_n (x := 95) (q := 60) dX9_raises_59 rfl rfl ?_
        refine rn_get (a := 95) (v := .inr (.inr 100)) (q := 63) dX9_raises_60 fl_X9_19 rfl rfl rfl ?_
        refine rn_iload (x := (i : Int)) (q := 65) dX9_raises_63 rfl rfl ?_
        refine rn_ialdV (a := 99) (v := (h.2.2.2 i : Int)) (q := 66) dX9_raises_65 rfl (by omega) (by omega) ((q.kept (frS.up (a := 95) (k := 11) (x := 0) frS.rf rfl)).pay (by omega)) rfl ?_
        refine rn_ifne (t := 72) (q := 69) dX9_raises_66 rfl rfl (fun h => absurd h (by omega)) (fun w66 => ?_)
        refine rn_goto (t := 126) dX9_raises_69 rfl ?_
        refine rn_iincN (x := (i : Int)) (z := ((i + 1 : Nat) : Int)) (ls' := [some (.inr (.inr 96)), some (.inl v), some (.inl (v - (eM e : Int))), some (.inl s), some (.inl t), some (.inl ((i + 1 : Nat) : Int)), lx]) (q := 129) dX9_raises_126 rfl (by decide) (by omega) (by unfold am_ok; omega) rfl rfl ?_
        refine rn_goto (t := 46) dX9_raises_129 rfl ?_
        exact stay (fun w => w.1 hp) _ (by omega)
    · have qq := rai_q (lk := v - (eM e : Int)) hp (by omega) p9
      refine rn_iload (x := (i : Int)) (q := 48) dX9_raises_46 rfl rfl ?_
      refine rn_aload_n (x := 95) (q := 49) dX9_raises_48 rfl rfl ?_
      refine rn_get (a := 95) (v := .inl (h.1 : Int)) (q := 52) dX9_raises_49 fl_X9_113 rfl (am_gi (q.kept (frS.up (a := 95) (k := 11) (x := 0) frS.rf rfl)).n) rfl ?_
      refine rn_cmpge (t := 132) (q := 55) dX9_raises_52 rfl rfl (fun w52 => ?_) (fun w52 => ?_)
      · refine rn_iload (x := t) (q := 134) dX9_raises_132 rfl rfl ?_
        refine rn_ldcw (n := 1000000) (q := 137) dX9_raises_134 kc_X9_323 rfl (am_okd rfl) rfl ?_
        refine rn_cmpne (t := 143) (q := 140) dX9_raises_137 rfl rfl (fun w137 => ?_) (fun w137 => ?_)
        · refine rn_aload_n (x := 95) (q := 144) dX9_raises_143 rfl rfl ?_
          refine rn_iconst (q := 145) dX9_raises_144 (am_okd rfl) rfl ?_
          refine rn_puti (a := 95) (q := 148) dX9_raises_145 fl_X9_110 rfl rfl rfl rfl ?_
          refine rn_aload_n (x := 95) (q := 149) dX9_raises_148 rfl rfl ?_
          refine rn_iload_n (x := s) (q := 150) dX9_raises_149 rfl rfl ?_
          refine rn_i2l (q := 151) dX9_raises_150 rfl ?_
          refine rn_callV (b := 95) (as := [.inr (.inl s)]) (rest := []) (q := 154) dX9_raises_151 ml_X9_275 sm_X9_tell rfl rfl (by decide) (by omega) rfl rfl (Nat.le_of_ble_eq_true rfl) rfl (m_tell (d := d + 1) m_row0 (by first | decide | simp | omega) s) ?_
          intro r151 mem151 hq151
          obtain ⟨rfl, hr151, hf151⟩ := hq151
          show am_Rn l G _ _ 154 [some (.inr (.inr 96)), some (.inl v), some (.inl (v - (eM e : Int))), some (.inl s), some (.inl t), some (.inl (i : Int)), lx] [] mem151 _
          refine rn_iload (x := t) (q := 156) dX9_raises_154 rfl rfl ?_
          refine rn_iret dX9_raises_156 rfl ?_
          exact hQ _ _ ⟨fun hn => absurd hv hn, fun _ => ⟨fun hn => by omega, fun _ => by rw [show h.1 = i by omega, if_neg (by omega), if_neg (by omega), ← hs, ← ht]; exact ⟨rfl, ((frS.up (a := 95) (k := 10) (x := 0) (frS.up (a := 95) (k := 11) (x := 0) frS.rf rfl) rfl).tr hf151), hr151⟩⟩⟩
        · refine rn_bipush (q := 142) dX9_raises_140 ⟨by decide, by decide⟩ rfl ?_
          refine rn_iret dX9_raises_142 rfl ?_
          exact hQ _ _ ⟨fun hn => absurd hv hn, fun _ => ⟨fun hn => by omega, fun _ => by rw [show h.1 = i by omega, if_pos (by omega), if_pos (by omega)]; exact ⟨rfl, (frS.up (a := 95) (k := 11) (x := 0) frS.rf rfl), hR.kept (frS.rf.up rfl)⟩⟩⟩
      · refine rn_iload_n (x := (v - (eM e : Int))) (q := 56) dX9_raises_55 rfl rfl ?_
        refine rn_ifle (t := 132) (q := 59) dX9_raises_56 rfl rfl (fun h => absurd h (by omega)) (fun w56 => ?_)
        refine rn_aload_n (x := 95) (q := 60) dX9_raises_59 rfl rfl ?_
        refine rn_get (a := 95) (v := .inr (.inr 100)) (q := 63) dX9_raises_60 fl_X9_19 rfl rfl rfl ?_
        refine rn_iload (x := (i : Int)) (q := 65) dX9_raises_63 rfl rfl ?_
        refine rn_ialdV (a := 99) (v := (h.2.2.2 i : Int)) (q := 66) dX9_raises_65 rfl (by omega) (by omega) ((q.kept (frS.up (a := 95) (k := 11) (x := 0) frS.rf rfl)).pay (by omega)) rfl ?_
        refine rn_ifne (t := 72) (q := 69) dX9_raises_66 rfl rfl (fun w66 => ?_) (fun h => absurd h (by omega))
        refine rn_iload_n (x := (v - (eM e : Int))) (q := 73) dX9_raises_72 rfl rfl ?_
        refine rn_iconst (q := 74) dX9_raises_73 (am_okd rfl) rfl ?_
        refine rn_aload_n (x := 95) (q := 75) dX9_raises_74 rfl rfl ?_
        refine rn_get (a := 95) (v := .inr (.inr 100)) (q := 78) dX9_raises_75 fl_X9_19 rfl rfl rfl ?_
        refine rn_iload (x := (i : Int)) (q := 80) dX9_raises_78 rfl rfl ?_
        refine rn_ialdV (a := 99) (v := (h.2.2.2 i : Int)) (q := 81) dX9_raises_80 rfl (by omega) (by omega) ((q.kept (frS.up (a := 95) (k := 11) (x := 0) frS.rf rfl)).pay (by omega)) rfl ?_
        refine rn_imulN (z := 2 * (h.2.2.2 i : Int)) (q := 82) dX9_raises_81 rfl (by unfold am_ok; omega) rfl ?_
        refine rn_iaddN (z := ((v - (eM e : Int)) + (2 * (h.2.2.2 i : Int)))) (q := 83) dX9_raises_82 rfl (by unfold am_ok; omega) rfl ?_
        refine rn_iconst (q := 84) dX9_raises_83 (am_okd rfl) rfl ?_
        refine rn_isubN (z := (((v - (eM e : Int)) + (2 * (h.2.2.2 i : Int))) - 1)) (q := 85) dX9_raises_84 rfl (by unfold am_ok; omega) rfl ?_
        refine rn_iconst (q := 86) dX9_raises_85 (am_okd rfl) rfl ?_
        refine rn_aload_n (x := 95) (q := 87) dX9_raises_86 rfl rfl ?_
        refine rn_get (a := 95) (v := .inr (.inr 100)) (q := 90) dX9_raises_87 fl_X9_19 rfl rfl rfl ?_
        refine rn_iload (x := (i : Int)) (q := 92) dX9_raises_90 rfl rfl ?_
        refine rn_ialdV (a := 99) (v := (h.2.2.2 i : Int)) (q := 93) dX9_raises_92 rfl (by omega) (by omega) ((q.kept (frS.up (a := 95) (k := 11) (x := 0) frS.rf rfl)).pay (by omega)) rfl ?_
        refine rn_imulN (z := 2 * (h.2.2.2 i : Int)) (q := 94) dX9_raises_93 rfl (by unfold am_ok; omega) rfl ?_
        refine rn_idivN (z := (v - (eM e : Int) + 2 * (h.2.2.2 i : Int) - 1).tdiv (2 * (h.2.2.2 i : Int))) (q := 95) dX9_raises_94 (by omega) rfl (by unfold am_ok; omega) rfl ?_
        refine rn_istore (ls' := [some (.inr (.inr 96)), some (.inl v), some (.inl (v - (eM e : Int))), some (.inl s), some (.inl t), some (.inl (i : Int)), some (.inl ((v - (eM e : Int) + 2 * (h.2.2.2 i : Int) - 1).tdiv (2 * (h.2.2.2 i : Int))))]) (q := 97) dX9_raises_95 (by decide) rfl rfl ?_
        refine rn_iload (x := (v - (eM e : Int) + 2 * (h.2.2.2 i : Int) - 1).tdiv (2 * (h.2.2.2 i : Int))) (q := 99) dX9_raises_97 rfl rfl ?_
        refine rn_aload_n (x := 95) (q := 100) dX9_raises_99 rfl rfl ?_
        refine rn_get (a := 95) (v := .inr (.inr 97)) (q := 103) dX9_raises_100 fl_X9_9 rfl rfl rfl ?_
        refine rn_bipush (q := 105) dX9_raises_103 ⟨by decide, by decide⟩ rfl ?_
        refine rn_ialdV (a := 96) (v := (eB e : Int)) (q := 106) dX9_raises_105 rfl (by omega) (by omega) (q.kept (frS.up (a := 95) (k := 11) (x := 0) frS.rf rfl)).bk rfl ?_
        refine rn_cmpgt (t := 126) (q := 109) dX9_raises_106 rfl rfl (fun w106 => ?_) (fun w106 => ?_)
        · refine rn_iincN (x := (i : Int)) (z := ((i + 1 : Nat) : Int)) (ls' := [some (.inr (.inr 96)), some (.inl v), some (.inl (v - (eM e : Int))), some (.inl s), some (.inl t), some (.inl ((i + 1 : Nat) : Int)), some (.inl ((v - (eM e : Int) + 2 * (h.2.2.2 i : Int) - 1).tdiv (2 * (h.2.2.2 i : Int))))]) (q := 129) dX9_raises_126 rfl (by decide) (by omega) (by unfold am_ok; omega) rfl rfl ?_
          refine rn_goto (t := 46) dX9_raises_129 rfl ?_
          first | exact stay (fun w => by omega) _ (by omega) | exact ih (by omega) _ _ _ (by rw [rai, if_pos ⟨hp, by omega, by omega⟩]) (by rw [rai, if_pos ⟨hp, by omega, by omega⟩])
        · refine rn_iload (x := (v - (eM e : Int) + 2 * (h.2.2.2 i : Int) - 1).tdiv (2 * (h.2.2.2 i : Int))) (q := 111) dX9_raises_109 rfl rfl ?_
          refine rn_iload (x := t) (q := 113) dX9_raises_111 rfl rfl ?_
          refine rn_cmplt (t := 119) (q := 116) dX9_raises_113 rfl rfl (fun w113 => ?_) (fun w113 => ?_)
          · refine rn_iload (x := (i : Int)) (q := 121) dX9_raises_119 rfl rfl ?_
            refine rn_istore_n (ls' := [some (.inr (.inr 96)), some (.inl v), some (.inl (v - (eM e : Int))), some (.inl (i : Int)), some (.inl t), some (.inl (i : Int)), some (.inl ((v - (eM e : Int) + 2 * (h.2.2.2 i : Int) - 1).tdiv (2 * (h.2.2.2 i : Int))))]) (q := 122) dX9_raises_121 (by decide) rfl rfl ?_
            refine rn_iload (x := (v - (eM e : Int) + 2 * (h.2.2.2 i : Int) - 1).tdiv (2 * (h.2.2.2 i : Int))) (q := 124) dX9_raises_122 rfl rfl ?_
            refine rn_istore (ls' := [some (.inr (.inr 96)), some (.inl v), some (.inl (v - (eM e : Int))), some (.inl (i : Int)), some (.inl ((v - (eM e : Int) + 2 * (h.2.2.2 i : Int) - 1).tdiv (2 * (h.2.2.2 i : Int)))), some (.inl (i : Int)), some (.inl ((v - (eM e : Int) + 2 * (h.2.2.2 i : Int) - 1).tdiv (2 * (h.2.2.2 i : Int))))]) (q := 126) dX9_raises_124 (by decide) rfl rfl ?_
            refine rn_iincN (x := (i : Int)) (z := ((i + 1 : Nat) : Int)) (ls' := [some (.inr (.inr 96)), some (.inl v), some (.inl (v - (eM e : Int))), some (.inl (i : Int)), some (.inl ((v - (eM e : Int) + 2 * (h.2.2.2 i : Int) - 1).tdiv (2 * (h.2.2.2 i : Int)))), some (.inl ((i + 1 : Nat) : Int)), some (.inl ((v - (eM e : Int) + 2 * (h.2.2.2 i : Int) - 1).tdiv (2 * (h.2.2.2 i : Int))))]) (q := 129) dX9_raises_126 rfl (by decide) (by omega) (by unfold am_ok; omega) rfl rfl ?_
            refine rn_goto (t := 46) dX9_raises_129 rfl ?_
            first | exact stay (fun w => by omega) _ (by omega) | exact ih (by omega) _ _ _ (by rw [rai, if_pos ⟨hp, by omega, by omega⟩]) (by rw [rai, if_pos ⟨hp, by omega, by omega⟩])
          · refine rn_goto (t := 126) dX9_raises_116 rfl ?_
            refine rn_iincN (x := (i : Int)) (z := ((i + 1 : Nat) : Int)) (ls' := [some (.inr (.inr 96)), some (.inl v), some (.inl (v - (eM e : Int))), some (.inl s), some (.inl t), some (.inl ((i + 1 : Nat) : Int)), some (.inl ((v - (eM e : Int) + 2 * (h.2.2.2 i : Int) - 1).tdiv (2 * (h.2.2.2 i : Int))))]) (q := 129) dX9_raises_126 rfl (by decide) (by omega) (by unfold am_ok; omega) rfl rfl ?_
            refine rn_goto (t := 46) dX9_raises_129 rfl ?_
            first | exact stay (fun w => by omega) _ (by omega) | exact ih (by omega) _ _ _ (by rw [rai, if_pos ⟨hp, by omega, by omega⟩]) (by rw [rai, if_pos ⟨hp, by omega, by omega⟩])
  by_cases hl : 0 < v - (eM e : Int)
  · refine rn_aload_n (x := 95) (q := 1) dX9_raises_0 rfl rfl ?_
    refine rn_iconst (q := 2) dX9_raises_1 (am_okd rfl) rfl ?_
    refine rn_puti (a := 95) (q := 5) dX9_raises_2 fl_X9_107 rfl rfl rfl rfl ?_
    refine rn_iload_n (x := v) (q := 6) dX9_raises_5 rfl rfl ?_
    refine rn_iconst (q := 7) dX9_raises_6 (am_okd rfl) rfl ?_
    refine rn_sipush (q := 10) dX9_raises_7 ⟨by decide, by decide⟩ rfl ?_
    refine rn_callS (as := [.inl v, .inl 0, .inl 9999]) (rest := []) (q := 13) dX9_raises_10 ml_X9_116 sm_X9_in (by omega) rfl rfl (Nat.le_of_ble_eq_true rfl) rfl (s_in9 (d := d + 1) v 0 9999) ?_
    intro r10 mem10 hq10
    obtain ⟨⟨rfl, hi10⟩ | ⟨rfl, hi10⟩, rfl⟩ := hq10
    · show am_Rn l G _ _ 13 [some (.inr (.inr 96)), some (.inl v), none, none, none, none, none] [.inl 1] (am_up mem 95 11 0) _
      refine rn_ifne (t := 18) (q := 16) dX9_raises_13 rfl rfl (fun w13 => ?_) (fun h => absurd h (by decide))
      refine rn_iload_n (x := v) (q := 19) dX9_raises_18 rfl rfl ?_
      refine rn_aload_n (x := 95) (q := 20) dX9_raises_19 rfl rfl ?_
      refine rn_get (a := 95) (v := .inr (.inr 97)) (q := 23) dX9_raises_20 fl_X9_9 rfl rfl rfl ?_
      refine rn_bipush (q := 25) dX9_raises_23 ⟨by decide, by decide⟩ rfl ?_
      refine rn_ialdV (a := 96) (v := (eM e : Int)) (q := 26) dX9_raises_25 rfl (by omega) (by omega) (q.kept (frS.up (a := 95) (k := 11) (x := 0) frS.rf rfl)).mn rfl ?_
      refine rn_isubN (z := (v - (eM e : Int))) (q := 27) dX9_raises_26 rfl (by unfold am_ok; omega) rfl ?_
      refine rn_istore_n (ls' := [some (.inr (.inr 96)), some (.inl v), some (.inl (v - (eM e : Int))), none, none, none, none]) (q := 28) dX9_raises_27 (by decide) rfl rfl ?_
      refine rn_iconst (q := 29) dX9_raises_28 (am_okd rfl) rfl ?_
      refine rn_istore_n (ls' := [some (.inr (.inr 96)), some (.inl v), some (.inl (v - (eM e : Int))), some (.inl (-1)), none, none, none]) (q := 30) dX9_raises_29 (by decide) rfl rfl ?_
      refine rn_iload_n (x := (v - (eM e : Int))) (q := 31) dX9_raises_30 rfl rfl ?_
      refine rn_ifgt (t := 38) (q := 34) dX9_raises_31 rfl rfl (fun w31 => ?_) (fun h => absurd h (by omega))
      refine rn_ldcw (n := 1000000) (q := 41) dX9_raises_38 kc_X9_323 rfl (am_okd rfl) rfl ?_
      refine rn_istore (ls' := [some (.inr (.inr 96)), some (.inl v), some (.inl (v - (eM e : Int))), some (.inl (-1)), some (.inl 1000000), none, none]) (q := 43) dX9_raises_41 (by decide) rfl rfl ?_
      refine rn_iconst (q := 44) dX9_raises_43 (am_okd rfl) rfl ?_
      refine rn_istore (ls' := [some (.inr (.inr 96)), some (.inl v), some (.inl (v - (eM e : Int))), some (.inl (-1)), some (.inl 1000000), some (.inl 0), none]) (q := 46) dX9_raises_44 (by decide) rfl rfl ?_
      exact L (by omega) (by omega) 0 (Nat.zero_le _) _ _ _ rfl rfl
    · show am_Rn l G _ _ 13 [some (.inr (.inr 96)), some (.inl v), none, none, none, none, none] [.inl 0] (am_up mem 95 11 0) _
      refine rn_ifne (t := 18) (q := 16) dX9_raises_13 rfl rfl (fun h => absurd h (by decide)) (fun w13 => ?_)
      refine rn_iconst (q := 17) dX9_raises_16 (am_okd rfl) rfl ?_
      refine rn_iret dX9_raises_17 rfl ?_
      exact hQ _ _ ⟨fun _ => ⟨rfl, (frS.up (a := 95) (k := 11) (x := 0) frS.rf rfl), hR.kept (frS.rf.up rfl)⟩, fun hn => by omega⟩
  · refine rn_aload_n (x := 95) (q := 1) dX9_raises_0 rfl rfl ?_
    refine rn_iconst (q := 2) dX9_raises_1 (am_okd rfl) rfl ?_
    refine rn_puti (a := 95) (q := 5) dX9_raises_2 fl_X9_107 rfl rfl rfl rfl ?_
    refine rn_iload_n (x := v) (q := 6) dX9_raises_5 rfl rfl ?_
    refine rn_iconst (q := 7) dX9_raises_6 (am_okd rfl) rfl ?_
    refine rn_sipush (q := 10) dX9_raises_7 ⟨by decide, by decide⟩ rfl ?_
    refine rn_callS (as := [.inl v, .inl 0, .inl 9999]) (rest := []) (q := 13) dX9_raises_10 ml_X9_116 sm_X9_in (by omega) rfl rfl (Nat.le_of_ble_eq_true rfl) rfl (s_in9 (d := d + 1) v 0 9999) ?_
    intro r10 mem10 hq10
    obtain ⟨⟨rfl, hi10⟩ | ⟨rfl, hi10⟩, rfl⟩ := hq10
    · show am_Rn l G _ _ 13 [some (.inr (.inr 96)), some (.inl v), none, none, none, none, none] [.inl 1] (am_up mem 95 11 0) _
      refine rn_ifne (t := 18) (q := 16) dX9_raises_13 rfl rfl (fun w13 => ?_) (fun h => absurd h (by decide))
      refine rn_iload_n (x := v) (q := 19) dX9_raises_18 rfl rfl ?_
      refine rn_aload_n (x := 95) (q := 20) dX9_raises_19 rfl rfl ?_
      refine rn_get (a := 95) (v := .inr (.inr 97)) (q := 23) dX9_raises_20 fl_X9_9 rfl rfl rfl ?_
      refine rn_bipush (q := 25) dX9_raises_23 ⟨by decide, by decide⟩ rfl ?_
      refine rn_ialdV (a := 96) (v := (eM e : Int)) (q := 26) dX9_raises_25 rfl (by omega) (by omega) (q.kept (frS.up (a := 95) (k := 11) (x := 0) frS.rf rfl)).mn rfl ?_
      refine rn_isubN (z := (v - (eM e : Int))) (q := 27) dX9_raises_26 rfl (by unfold am_ok; omega) rfl ?_
      refine rn_istore_n (ls' := [some (.inr (.inr 96)), some (.inl v), some (.inl (v - (eM e : Int))), none, none, none, none]) (q := 28) dX9_raises_27 (by decide) rfl rfl ?_
      refine rn_iconst (q := 29) dX9_raises_28 (am_okd rfl) rfl ?_
      refine rn_istore_n (ls' := [some (.inr (.inr 96)), some (.inl v), some (.inl (v - (eM e : Int))), some (.inl (-1)), none, none, none]) (q := 30) dX9_raises_29 (by decide) rfl rfl ?_
      refine rn_iload_n (x := (v - (eM e : Int))) (q := 31) dX9_raises_30 rfl rfl ?_
      refine rn_ifgt (t := 38) (q := 34) dX9_raises_31 rfl rfl (fun h => absurd h (by omega)) (fun w31 => ?_)
      refine rn_iconst (q := 35) dX9_raises_34 (am_okd rfl) rfl ?_
      refine rn_goto (t := 41) dX9_raises_35 rfl ?_
      refine rn_istore (ls' := [some (.inr (.inr 96)), some (.inl v), some (.inl (v - (eM e : Int))), some (.inl (-1)), some (.inl 0), none, none]) (q := 43) dX9_raises_41 (by decide) rfl rfl ?_
      refine rn_iconst (q := 44) dX9_raises_43 (am_okd rfl) rfl ?_
      refine rn_istore (ls' := [some (.inr (.inr 96)), some (.inl v), some (.inl (v - (eM e : Int))), some (.inl (-1)), some (.inl 0), some (.inl 0), none]) (q := 46) dX9_raises_44 (by decide) rfl rfl ?_
      refine rn_iload (x := 0) (q := 48) dX9_raises_46 rfl rfl ?_
      refine rn_aload_n (x := 95) (q := 49) dX9_raises_48 rfl rfl ?_
      refine rn_get (a := 95) (v := .inl (h.1 : Int)) (q := 52) dX9_raises_49 fl_X9_113 rfl (am_gi (q.kept (frS.up (a := 95) (k := 11) (x := 0) frS.rf rfl)).n) rfl ?_
      refine rn_cmpge (t := 132) (q := 55) dX9_raises_52 rfl rfl (fun w52 => ?_) (fun w52 => ?_)
      · refine rn_iload (x := 0) (q := 134) dX9_raises_132 rfl rfl ?_
        refine rn_ldcw (n := 1000000) (q := 137) dX9_raises_134 kc_X9_323 rfl (am_okd rfl) rfl ?_
        refine rn_cmpne (t := 143) (q := 140) dX9_raises_137 rfl rfl (fun w137 => ?_) (fun h => absurd h (by decide))
        refine rn_aload_n (x := 95) (q := 144) dX9_raises_143 rfl rfl ?_
        refine rn_iconst (q := 145) dX9_raises_144 (am_okd rfl) rfl ?_
        refine rn_puti (a := 95) (q := 148) dX9_raises_145 fl_X9_110 rfl rfl rfl rfl ?_
        refine rn_aload_n (x := 95) (q := 149) dX9_raises_148 rfl rfl ?_
        refine rn_iload_n (x := (-1)) (q := 150) dX9_raises_149 rfl rfl ?_
        refine rn_i2l (q := 151) dX9_raises_150 rfl ?_
        refine rn_callV (b := 95) (as := [.inr (.inl (-1))]) (rest := []) (q := 154) dX9_raises_151 ml_X9_275 sm_X9_tell rfl rfl (by decide) (by omega) rfl rfl (Nat.le_of_ble_eq_true rfl) rfl (m_tell (d := d + 1) m_row0 (by first | decide | simp | omega) (-1)) ?_
        intro r151 mem151 hq151
        obtain ⟨rfl, hr151, hf151⟩ := hq151
        show am_Rn l G _ _ 154 [some (.inr (.inr 96)), some (.inl v), some (.inl (v - (eM e : Int))), some (.inl (-1)), some (.inl 0), some (.inl 0), none] [] mem151 _
        refine rn_iload (x := 0) (q := 156) dX9_raises_154 rfl rfl ?_
        refine rn_iret dX9_raises_156 rfl ?_
        exact hQ _ _ ⟨fun hn => absurd hi10 hn, fun _ => ⟨fun _ => ⟨rfl, ((frS.up (a := 95) (k := 10) (x := 0) (frS.up (a := 95) (k := 11) (x := 0) frS.rf rfl) rfl).tr hf151), hr151⟩, fun hn => by omega⟩⟩
      · refine rn_iload_n (x := (v - (eM e : Int))) (q := 56) dX9_raises_55 rfl rfl ?_
        refine rn_ifle (t := 132) (q := 59) dX9_raises_56 rfl rfl (fun w56 => ?_) (fun h => absurd h (by omega))
        refine rn_iload (x := 0) (q := 134) dX9_raises_132 rfl rfl ?_
        refine rn_ldcw (n := 1000000) (q := 137) dX9_raises_134 kc_X9_323 rfl (am_okd rfl) rfl ?_
        refine rn_cmpne (t := 143) (q := 140) dX9_raises_137 rfl rfl (fun w137 => ?_) (fun h => absurd h (by decide))
        refine rn_aload_n (x := 95) (q := 144) dX9_raises_143 rfl rfl ?_
        refine rn_iconst (q := 145) dX9_raises_144 (am_okd rfl) rfl ?_
        refine rn_puti (a := 95) (q := 148) dX9_raises_145 fl_X9_110 rfl rfl rfl rfl ?_
        refine rn_aload_n (x := 95) (q := 149) dX9_raises_148 rfl rfl ?_
        refine rn_iload_n (x := (-1)) (q := 150) dX9_raises_149 rfl rfl ?_
        refine rn_i2l (q := 151) dX9_raises_150 rfl ?_
        refine rn_callV (b := 95) (as := [.inr (.inl (-1))]) (rest := []) (q := 154) dX9_raises_151 ml_X9_275 sm_X9_tell rfl rfl (by decide) (by omega) rfl rfl (Nat.le_of_ble_eq_true rfl) rfl (m_tell (d := d + 1) m_row0 (by first | decide | simp | omega) (-1)) ?_
        intro r151 mem151 hq151
        obtain ⟨rfl, hr151, hf151⟩ := hq151
        show am_Rn l G _ _ 154 [some (.inr (.inr 96)), some (.inl v), some (.inl (v - (eM e : Int))), some (.inl (-1)), some (.inl 0), some (.inl 0), none] [] mem151 _
        refine rn_iload (x := 0) (q := 156) dX9_raises_154 rfl rfl ?_
        refine rn_iret dX9_raises_156 rfl ?_
        exact hQ _ _ ⟨fun hn => absurd hi10 hn, fun _ => ⟨fun _ => ⟨rfl, ((frS.up (a := 95) (k := 10) (x := 0) (frS.up (a := 95) (k := 11) (x := 0) frS.rf rfl) rfl).tr hf151), hr151⟩, fun hn => by omega⟩⟩
    · show am_Rn l G _ _ 13 [some (.inr (.inr 96)), some (.inl v), none, none, none, none, none] [.inl 0] (am_up mem 95 11 0) _
      refine rn_ifne (t := 18) (q := 16) dX9_raises_13 rfl rfl (fun h => absurd h (by decide)) (fun w13 => ?_)
      refine rn_iconst (q := 17) dX9_raises_16 (am_okd rfl) rfl ?_
      refine rn_iret dX9_raises_17 rfl ?_
      exact hQ _ _ ⟨fun _ => ⟨rfl, (frS.up (a := 95) (k := 11) (x := 0) frS.rf rfl), hR.kept (frS.rf.up rfl)⟩, fun hn => by omega⟩
theorem c_grows (q : CQ r X C sn sg h e NB mem) {R : List Int} (hR : c_row R mem) (s n : Int) : am_Sm l G yX8_grows mt_X8_grows (d + 2) [.inr (.inr 1), .inl s, .inl n] mem (fun q m => (¬ (0 ≤ s ∧ s ≤ 9999 ∧ 0 ≤ n ∧ n ≤ 30) → QC (-1) R mem q m) ∧ (0 ≤ s ∧ s ≤ 9999 ∧ 0 ≤ n ∧ n ≤ 30 → QC (grw s (eG e) n.toNat).1 [((grw s (eG e) n.toNat).2 : Int)] mem q m)) := by
  refine am_enterQ (ls := [some (.inr (.inr 1)), some (.inl s), some (.inl n), none, none, none, none]) (by decide) rfl (Nat.le_of_ble_eq_true rfl) rfl (fun hok Q hQ => ?_)
  have b := q.bd
  have L : 0 ≤ s ∧ s ≤ 9999 ∧ 0 ≤ n ∧ n ≤ 30 → ∀ i : Nat, i ≤ n.toNat → ∀ (c : Int) (k : Nat) (lx : Option am_V), c = (grw s (eG e) i).1 → k = (grw s (eG e) i).2 → am_Rn l G mt_X8_grows (d + 2) 31 [some (.inr (.inr 1)), some (.inl s), some (.inl n), some (.inl c), some (.inl (k : Int)), some (.inl (i : Int)), lx] [] mem Q := by
    intro hv
    refine am_dn n.toNat (fun i hi ih c k lx hc hk => ?_)
    have o := grw_ok (s := s) (g := eG e) (by omega) i
    have o2 := tdm (c := c) (g := eG e) (by omega) (by omega)
    refine rn_iload (x := (i : Int)) (q := 33) dX8_grows_31 rfl rfl ?_
    refine rn_iload_n (x := n) (q := 34) dX8_grows_33 rfl rfl ?_
    refine rn_cmpge (t := 68) (q := 37) dX8_grows_34 rfl rfl (fun w34 => ?_) (fun w34 => ?_)
    · refine rn_aload_n (x := 0) (q := 69) dX8_grows_68 rfl rfl ?_
      refine rn_get (a := 0) (v := .inr (.inr 4)) (q := 72) dX8_grows_69 fl_X8_19 rfl rfl rfl ?_
      refine rn_iload (x := (k : Int)) (q := 74) dX8_grows_72 rfl rfl ?_
      refine rn_i2l (q := 75) dX8_grows_74 rfl ?_
      refine rn_callV (b := 3) (as := [.inr (.inl (k : Int))]) (rest := []) (q := 78) dX8_grows_75 ml_X8_299 sm_X3_tell rfl rfl (by decide) (by omega) rfl rfl (Nat.le_of_ble_eq_true rfl) rfl (s_Rtell (d := d + 0) (k : Int)) ?_
      intro r75 mem75 hq75
      obtain ⟨rfl, hr75, hf75⟩ := hq75
      show am_Rn l G _ _ 78 [some (.inr (.inr 1)), some (.inl s), some (.inl n), some (.inl c), some (.inl (k : Int)), some (.inl (i : Int)), lx] [] mem75 _
      refine rn_iload_n (x := c) (q := 79) dX8_grows_78 rfl rfl ?_
      refine rn_iret dX8_grows_79 rfl ?_
      exact hQ _ _ ⟨fun hn => absurd hv hn, fun _ => by rw [show n.toNat = i by omega, ← hc, ← hk]; exact ⟨rfl, (fr_row hf75), hr75⟩⟩
    · refine rn_iload_n (x := c) (q := 38) dX8_grows_37 rfl rfl ?_
      refine rn_aload_n (x := 0) (q := 39) dX8_grows_38 rfl rfl ?_
      refine rn_get (a := 0) (v := .inr (.inr 17)) (q := 42) dX8_grows_39 fl_X8_33 rfl rfl rfl ?_
      refine rn_get (a := 16) (v := .inl (eG e)) (q := 45) dX8_grows_42 fl_X8_246 rfl (am_gi q.gn) rfl ?_
      refine rn_callS (as := [.inl c, .inl (eG e)]) (rest := []) (q := 48) dX8_grows_45 ml_X8_338 sm_X8_grown (by omega) rfl rfl (Nat.le_of_ble_eq_true rfl) rfl (s_grown (d := d + 0) c (eG e) (by omega) (by omega)) ?_
      intro r45 mem45 hq45
      obtain ⟨rfl, rfl⟩ := hq45
      show am_Rn l G _ _ 48 [some (.inr (.inr 1)), some (.inl s), some (.inl n), some (.inl c), some (.inl (k : Int)), some (.inl (i : Int)), lx] [.inl (max 0 (min 9999 (c + (c * (eG e)).tdiv 10)))] mem _
      refine rn_istore (ls' := [some (.inr (.inr 1)), some (.inl s), some (.inl n), some (.inl c), some (.inl (k : Int)), some (.inl (i : Int)), some (.inl (max 0 (min 9999 (c + (c * (eG e)).tdiv 10))))]) (q := 50) dX8_grows_48 (by decide) rfl rfl ?_
      refine rn_iload (x := (max 0 (min 9999 (c + (c * (eG e)).tdiv 10)))) (q := 52) dX8_grows_50 rfl rfl ?_
      refine rn_iload_n (x := c) (q := 53) dX8_grows_52 rfl rfl ?_
      refine rn_cmpeq (t := 59) (q := 56) dX8_grows_53 rfl rfl (fun w53 => ?_) (fun w53 => ?_)
      · refine rn_iload (x := (max 0 (min 9999 (c + (c * (eG e)).tdiv 10)))) (q := 61) dX8_grows_59 rfl rfl ?_
        refine rn_istore_n (ls' := [some (.inr (.inr 1)), some (.inl s), some (.inl n), some (.inl (max 0 (min 9999 (c + (c * (eG e)).tdiv 10)))), some (.inl (k : Int)), some (.inl (i : Int)), some (.inl (max 0 (min 9999 (c + (c * (eG e)).tdiv 10))))]) (q := 62) dX8_grows_61 (by decide) rfl rfl ?_
        refine rn_iincN (x := (i : Int)) (z := ((i + 1 : Nat) : Int)) (ls' := [some (.inr (.inr 1)), some (.inl s), some (.inl n), some (.inl (max 0 (min 9999 (c + (c * (eG e)).tdiv 10)))), some (.inl (k : Int)), some (.inl ((i + 1 : Nat) : Int)), some (.inl (max 0 (min 9999 (c + (c * (eG e)).tdiv 10))))]) (q := 65) dX8_grows_62 rfl (by decide) (by omega) (by unfold am_ok; omega) rfl rfl ?_
        refine rn_goto (t := 31) dX8_grows_65 rfl ?_
        first | exact ih (by omega) _ _ _ (by rw [grw, ← hc]) (by rw [grw, ← hc, ← hk]; show _ = _ + _; rw [if_pos (by omega)]; (try rfl)) | exact ih (by omega) _ _ _ (by rw [grw, ← hc]) (by rw [grw, ← hc, ← hk]; show _ = _ + _; rw [if_neg (by omega)])
      · refine rn_iincN (x := (k : Int)) (z := ((k + 1 : Nat) : Int)) (ls' := [some (.inr (.inr 1)), some (.inl s), some (.inl n), some (.inl c), some (.inl ((k + 1 : Nat) : Int)), some (.inl (i : Int)), some (.inl (max 0 (min 9999 (c + (c * (eG e)).tdiv 10))))]) (q := 59) dX8_grows_56 rfl (by decide) (by omega) (by unfold am_ok; omega) rfl rfl ?_
        refine rn_iload (x := (max 0 (min 9999 (c + (c * (eG e)).tdiv 10)))) (q := 61) dX8_grows_59 rfl rfl ?_
        refine rn_istore_n (ls' := [some (.inr (.inr 1)), some (.inl s), some (.inl n), some (.inl (max 0 (min 9999 (c + (c * (eG e)).tdiv 10)))), some (.inl ((k + 1 : Nat) : Int)), some (.inl (i : Int)), some (.inl (max 0 (min 9999 (c + (c * (eG e)).tdiv 10))))]) (q := 62) dX8_grows_61 (by decide) rfl rfl ?_
        refine rn_iincN (x := (i : Int)) (z := ((i + 1 : Nat) : Int)) (ls' := [some (.inr (.inr 1)), some (.inl s), some (.inl n), some (.inl (max 0 (min 9999 (c + (c * (eG e)).tdiv 10)))), some (.inl ((k + 1 : Nat) : Int)), some (.inl ((i + 1 : Nat) : Int)), some (.inl (max 0 (min 9999 (c + (c * (eG e)).tdiv 10))))]) (q := 65) dX8_grows_62 rfl (by decide) (by omega) (by unfold am_ok; omega) rfl rfl ?_
        refine rn_goto (t := 31) dX8_grows_65 rfl ?_
        first | exact ih (by omega) _ _ _ (by rw [grw, ← hc]) (by rw [grw, ← hc, ← hk]; show _ = _ + _; rw [if_pos (by omega)]; (try rfl)) | exact ih (by omega) _ _ _ (by rw [grw, ← hc]) (by rw [grw, ← hc, ← hk]; show _ = _ + _; rw [if_neg (by omega)])
  refine rn_iload_n (x := s) (q := 1) dX8_grows_0 rfl rfl ?_
  refine rn_iflt (t := 21) (q := 4) dX8_grows_1 rfl rfl (fun w1 => ?_) (fun w1 => ?_)
  · refine rn_iconst (q := 22) dX8_grows_21 (am_okd rfl) rfl ?_
    refine rn_iret dX8_grows_22 rfl ?_
    exact hQ _ _ ⟨fun _ => ⟨rfl, frS.rf, hR⟩, fun hn => by omega⟩
  · refine rn_iload_n (x := s) (q := 5) dX8_grows_4 rfl rfl ?_
    refine rn_sipush (q := 8) dX8_grows_5 ⟨by decide, by decide⟩ rfl ?_
    refine rn_cmpgt (t := 21) (q := 11) dX8_grows_8 rfl rfl (fun w8 => ?_) (fun w8 => ?_)
    · refine rn_iconst (q := 22) dX8_grows_21 (am_okd rfl) rfl ?_
      refine rn_iret dX8_grows_22 rfl ?_
      exact hQ _ _ ⟨fun _ => ⟨rfl, frS.rf, hR⟩, fun hn => by omega⟩
    · refine rn_iload_n (x := n) (q := 12) dX8_grows_11 rfl rfl ?_
      refine rn_iflt (t := 21) (q := 15) dX8_grows_12 rfl rfl (fun w12 => ?_) (fun w12 => ?_)
      · refine rn_iconst (q := 22) dX8_grows_21 (am_okd rfl) rfl ?_
        refine rn_iret dX8_grows_22 rfl ?_
        exact hQ _ _ ⟨fun _ => ⟨rfl, frS.rf, hR⟩, fun hn => by omega⟩
      · refine rn_iload_n (x := n) (q := 16) dX8_grows_15 rfl rfl ?_
        refine rn_bipush (q := 18) dX8_grows_16 ⟨by decide, by decide⟩ rfl ?_
        refine rn_cmple (t := 23) (q := 21) dX8_grows_18 rfl rfl (fun w18 => ?_) (fun w18 => ?_)
        · refine rn_iload_n (x := s) (q := 24) dX8_grows_23 rfl rfl ?_
          refine rn_istore_n (ls' := [some (.inr (.inr 1)), some (.inl s), some (.inl n), some (.inl s), none, none, none]) (q := 25) dX8_grows_24 (by decide) rfl rfl ?_
          refine rn_iconst (q := 26) dX8_grows_25 (am_okd rfl) rfl ?_
          refine rn_istore (ls' := [some (.inr (.inr 1)), some (.inl s), some (.inl n), some (.inl s), some (.inl 0), none, none]) (q := 28) dX8_grows_26 (by decide) rfl rfl ?_
          refine rn_iconst (q := 29) dX8_grows_28 (am_okd rfl) rfl ?_
          refine rn_istore (ls' := [some (.inr (.inr 1)), some (.inl s), some (.inl n), some (.inl s), some (.inl 0), some (.inl 0), none]) (q := 31) dX8_grows_29 (by decide) rfl rfl ?_
          exact L (by omega) 0 (Nat.zero_le _) _ 0 _ rfl rfl
        · refine rn_iconst (q := 22) dX8_grows_21 (am_okd rfl) rfl ?_
          refine rn_iret dX8_grows_22 rfl ?_
          exact hQ _ _ ⟨fun _ => ⟨rfl, frS.rf, hR⟩, fun hn => by omega⟩
theorem m_grows (q : DQ X sn sg h e NB mem) {R : List Int} (hR : m_row R mem) (s n : Int) : am_Sm l G yX9_grows mt_X9_grows (d + 2) [.inr (.inr 96), .inl s, .inl n] mem (fun q m => (¬ (0 ≤ s ∧ s ≤ 9999 ∧ 0 ≤ n ∧ n ≤ 30) → QM (-1) R mem q m) ∧ (0 ≤ s ∧ s ≤ 9999 ∧ 0 ≤ n ∧ n ≤ 30 → QM (grw s (eG e) n.toNat).1 [((grw s (eG e) n.toNat).2 : Int)] mem q m)) := by
  refine am_enterQ (ls := [some (.inr (.inr 96)), some (.inl s), some (.inl n), none, none, none, none]) (by decide) rfl (Nat.le_of_ble_eq_true rfl) rfl (fun hok Q hQ => ?_)
  have b := q.bd
  have L : 0 ≤ s ∧ s ≤ 9999 ∧ 0 ≤ n ∧ n ≤ 30 → ∀ i : Nat, i ≤ n.toNat → ∀ (c : Int) (k : Nat) (lx : Option am_V), c = (grw s (eG e) i).1 → k = (grw s (eG e) i).2 → am_Rn l G mt_X9_grows (d + 2) 36 [some (.inr (.inr 96)), some (.inl s), some (.inl n), some (.inl c), some (.inl (k : Int)), some (.inl (i : Int)), lx] [] (am_up mem 95 11 0) Q := by
    intro hv
    refine am_dn n.toNat (fun i hi ih c k lx hc hk => ?_)
    have o := grw_ok (s := s) (g := eG e) (by omega) i
    have o2 := tdm (c := c) (g := eG e) (by omega) (by omega)
    refine rn_iload (x := (i : Int)) (q := 38) dX9_grows_36 rfl rfl ?_
    refine rn_iload_n (x := n) (q := 39) dX9_grows_38 rfl rfl ?_
    refine rn_cmpge (t := 85) (q := 42) dX9_grows_39 rfl rfl (fun w39 => ?_) (fun w39 => ?_)
    · refine rn_aload_n (x := 95) (q := 86) dX9_grows_85 rfl rfl ?_
      refine rn_iconst (q := 87) dX9_grows_86 (am_okd rfl) rfl ?_
      refine rn_puti (a := 95) (q := 90) dX9_grows_87 fl_X9_110 rfl rfl rfl rfl ?_
      refine rn_aload_n (x := 95) (q := 91) dX9_grows_90 rfl rfl ?_
      refine rn_iload (x := (k : Int)) (q := 93) dX9_grows_91 rfl rfl ?_
      refine rn_i2l (q := 94) dX9_grows_93 rfl ?_
      refine rn_callV (b := 95) (as := [.inr (.inl (k : Int))]) (rest := []) (q := 97) dX9_grows_94 ml_X9_275 sm_X9_tell rfl rfl (by decide) (by omega) rfl rfl (Nat.le_of_ble_eq_true rfl) rfl (m_tell (d := d + 1) m_row0 (by first | decide | simp | omega) (k : Int)) ?_
      intro r94 mem94 hq94
      obtain ⟨rfl, hr94, hf94⟩ := hq94
      show am_Rn l G _ _ 97 [some (.inr (.inr 96)), some (.inl s), some (.inl n), some (.inl c), some (.inl (k : Int)), some (.inl (i : Int)), lx] [] mem94 _
      refine rn_iload_n (x := c) (q := 98) dX9_grows_97 rfl rfl ?_
      refine rn_iret dX9_grows_98 rfl ?_
      exact hQ _ _ ⟨fun hn => absurd hv hn, fun _ => by rw [show n.toNat = i by omega, ← hc, ← hk]; exact ⟨rfl, ((frS.up (a := 95) (k := 10) (x := 0) (frS.up (a := 95) (k := 11) (x := 0) frS.rf rfl) rfl).tr hf94), hr94⟩⟩
    · refine rn_iload_n (x := c) (q := 43) dX9_grows_42 rfl rfl ?_
      refine rn_istore (ls' := [some (.inr (.inr 96)), some (.inl s), some (.inl n), some (.inl c), some (.inl (k : Int)), some (.inl (i : Int)), some (.inl c)]) (q := 45) dX9_grows_43 (by decide) rfl rfl ?_
      refine rn_iload_n (x := c) (q := 46) dX9_grows_45 rfl rfl ?_
      refine rn_iload_n (x := c) (q := 47) dX9_grows_46 rfl rfl ?_
      refine rn_aload_n (x := 95) (q := 48) dX9_grows_47 rfl rfl ?_
      refine rn_get (a := 95) (v := .inr (.inr 97)) (q := 51) dX9_grows_48 fl_X9_9 rfl rfl rfl ?_
      refine rn_bipush (q := 53) dX9_grows_51 ⟨by decide, by decide⟩ rfl ?_
      refine rn_ialdV (a := 96) (v := (eG e)) (q := 54) dX9_grows_53 rfl (by omega) (by omega) (q.kept (frS.up (a := 95) (k := 11) (x := 0) frS.rf rfl)).gn rfl ?_
      refine rn_imulN (z := (c * (eG e))) (q := 55) dX9_grows_54 rfl (by unfold am_ok; omega) rfl ?_
      refine rn_bipush (q := 57) dX9_grows_55 ⟨by decide, by decide⟩ rfl ?_
      refine rn_idivN (z := (Int.tdiv (c * (eG e)) 10)) (q := 58) dX9_grows_57 (by decide) rfl (by unfold am_ok; omega) rfl ?_
      refine rn_iaddN (z := (c + (Int.tdiv (c * (eG e)) 10))) (q := 59) dX9_grows_58 rfl (by unfold am_ok; omega) rfl ?_
      refine rn_callS (as := [.inl (c + (Int.tdiv (c * (eG e)) 10))]) (rest := []) (q := 62) dX9_grows_59 ml_X9_262 sm_X9_full (by omega) rfl rfl (Nat.le_of_ble_eq_true rfl) rfl (s_full (d := d + 1) (c + (Int.tdiv (c * (eG e)) 10))) ?_
      intro r59 mem59 hq59
      obtain ⟨rfl, rfl⟩ := hq59
      show am_Rn l G _ _ 62 [some (.inr (.inr 96)), some (.inl s), some (.inl n), some (.inl c), some (.inl (k : Int)), some (.inl (i : Int)), some (.inl c)] [.inl (max 0 (min 9999 (c + (Int.tdiv (c * (eG e)) 10))))] (am_up mem 95 11 0) _
      refine rn_istore_n (ls' := [some (.inr (.inr 96)), some (.inl s), some (.inl n), some (.inl (max 0 (min 9999 (c + (Int.tdiv (c * (eG e)) 10))))), some (.inl (k : Int)), some (.inl (i : Int)), some (.inl c)]) (q := 63) dX9_grows_62 (by decide) rfl rfl ?_
      refine rn_iload (x := (k : Int)) (q := 65) dX9_grows_63 rfl rfl ?_
      refine rn_iload_n (x := (max 0 (min 9999 (c + (Int.tdiv (c * (eG e)) 10))))) (q := 66) dX9_grows_65 rfl rfl ?_
      refine rn_iload (x := c) (q := 68) dX9_grows_66 rfl rfl ?_
      refine rn_cmpne (t := 75) (q := 71) dX9_grows_68 rfl rfl (fun w68 => ?_) (fun w68 => ?_)
      · refine rn_iconst (q := 76) dX9_grows_75 (am_okd rfl) rfl ?_
        refine rn_iaddN (z := ((k + 1 : Nat) : Int)) (q := 77) dX9_grows_76 (by omega) (by unfold am_ok; omega) rfl ?_
        refine rn_istore (ls' := [some (.inr (.inr 96)), some (.inl s), some (.inl n), some (.inl (max 0 (min 9999 (c + (Int.tdiv (c * (eG e)) 10))))), some (.inl ((k + 1 : Nat) : Int)), some (.inl (i : Int)), some (.inl c)]) (q := 79) dX9_grows_77 (by decide) rfl rfl ?_
        refine rn_iincN (x := (i : Int)) (z := ((i + 1 : Nat) : Int)) (ls' := [some (.inr (.inr 96)), some (.inl s), some (.inl n), some (.inl (max 0 (min 9999 (c + (Int.tdiv (c * (eG e)) 10))))), some (.inl ((k + 1 : Nat) : Int)), some (.inl ((i + 1 : Nat) : Int)), some (.inl c)]) (q := 82) dX9_grows_79 rfl (by decide) (by omega) (by unfold am_ok; omega) rfl rfl ?_
        refine rn_goto (t := 36) dX9_grows_82 rfl ?_
        first | exact ih (by omega) _ _ _ (by rw [grw, ← hc]) (by rw [grw, ← hc, ← hk]; show _ = _ + _; rw [if_pos (by omega)]; (try rfl)) | exact ih (by omega) _ _ _ (by rw [grw, ← hc]) (by rw [grw, ← hc, ← hk]; show _ = _ + _; rw [if_neg (by omega)])
      · refine rn_iconst (q := 72) dX9_grows_71 (am_okd rfl) rfl ?_
        refine rn_goto (t := 76) dX9_grows_72 rfl ?_
        refine rn_iaddN (z := ((k + 0 : Nat) : Int)) (q := 77) dX9_grows_76 (by omega) (by unfold am_ok; omega) rfl ?_
        refine rn_istore (ls' := [some (.inr (.inr 96)), some (.inl s), some (.inl n), some (.inl (max 0 (min 9999 (c + (Int.tdiv (c * (eG e)) 10))))), some (.inl ((k + 0 : Nat) : Int)), some (.inl (i : Int)), some (.inl c)]) (q := 79) dX9_grows_77 (by decide) rfl rfl ?_
        refine rn_iincN (x := (i : Int)) (z := ((i + 1 : Nat) : Int)) (ls' := [some (.inr (.inr 96)), some (.inl s), some (.inl n), some (.inl (max 0 (min 9999 (c + (Int.tdiv (c * (eG e)) 10))))), some (.inl ((k + 0 : Nat) : Int)), some (.inl ((i + 1 : Nat) : Int)), some (.inl c)]) (q := 82) dX9_grows_79 rfl (by decide) (by omega) (by unfold am_ok; omega) rfl rfl ?_
        refine rn_goto (t := 36) dX9_grows_82 rfl ?_
        first | exact ih (by omega) _ _ _ (by rw [grw, ← hc]) (by rw [grw, ← hc, ← hk]; show _ = _ + _; rw [if_pos (by omega)]; (try rfl)) | exact ih (by omega) _ _ _ (by rw [grw, ← hc]) (by rw [grw, ← hc, ← hk]; show _ = _ + _; rw [if_neg (by omega)])
  refine rn_aload_n (x := 95) (q := 1) dX9_grows_0 rfl rfl ?_
  refine rn_iconst (q := 2) dX9_grows_1 (am_okd rfl) rfl ?_
  refine rn_puti (a := 95) (q := 5) dX9_grows_2 fl_X9_107 rfl rfl rfl rfl ?_
  refine rn_iload_n (x := s) (q := 6) dX9_grows_5 rfl rfl ?_
  refine rn_iconst (q := 7) dX9_grows_6 (am_okd rfl) rfl ?_
  refine rn_sipush (q := 10) dX9_grows_7 ⟨by decide, by decide⟩ rfl ?_
  refine rn_callS (as := [.inl s, .inl 0, .inl 9999]) (rest := []) (q := 13) dX9_grows_10 ml_X9_116 sm_X9_in (by omega) rfl rfl (Nat.le_of_ble_eq_true rfl) rfl (s_in9 (d := d + 1) s 0 9999) ?_
  intro r10 mem10 hq10
  obtain ⟨⟨rfl, hi10⟩ | ⟨rfl, hi10⟩, rfl⟩ := hq10
  · show am_Rn l G _ _ 13 [some (.inr (.inr 96)), some (.inl s), some (.inl n), none, none, none, none] [.inl 1] (am_up mem 95 11 0) _
    refine rn_ifeq (t := 26) (q := 16) dX9_grows_13 rfl rfl (fun h => absurd h (by decide)) (fun w13 => ?_)
    refine rn_iload_n (x := n) (q := 17) dX9_grows_16 rfl rfl ?_
    refine rn_iconst (q := 18) dX9_grows_17 (am_okd rfl) rfl ?_
    refine rn_bipush (q := 20) dX9_grows_18 ⟨by decide, by decide⟩ rfl ?_
    refine rn_callS (as := [.inl n, .inl 0, .inl 30]) (rest := []) (q := 23) dX9_grows_20 ml_X9_116 sm_X9_in (by omega) rfl rfl (Nat.le_of_ble_eq_true rfl) rfl (s_in9 (d := d + 1) n 0 30) ?_
    intro r20 mem20 hq20
    obtain ⟨⟨rfl, hi20⟩ | ⟨rfl, hi20⟩, rfl⟩ := hq20
    · show am_Rn l G _ _ 23 [some (.inr (.inr 96)), some (.inl s), some (.inl n), none, none, none, none] [.inl 1] (am_up mem 95 11 0) _
      refine rn_ifne (t := 28) (q := 26) dX9_grows_23 rfl rfl (fun w23 => ?_) (fun h => absurd h (by decide))
      refine rn_iload_n (x := s) (q := 29) dX9_grows_28 rfl rfl ?_
      refine rn_istore_n (ls' := [some (.inr (.inr 96)), some (.inl s), some (.inl n), some (.inl s), none, none, none]) (q := 30) dX9_grows_29 (by decide) rfl rfl ?_
      refine rn_iconst (q := 31) dX9_grows_30 (am_okd rfl) rfl ?_
      refine rn_istore (ls' := [some (.inr (.inr 96)), some (.inl s), some (.inl n), some (.inl s), some (.inl 0), none, none]) (q := 33) dX9_grows_31 (by decide) rfl rfl ?_
      refine rn_iconst (q := 34) dX9_grows_33 (am_okd rfl) rfl ?_
      refine rn_istore (ls' := [some (.inr (.inr 96)), some (.inl s), some (.inl n), some (.inl s), some (.inl 0), some (.inl 0), none]) (q := 36) dX9_grows_34 (by decide) rfl rfl ?_
      exact L (by omega) 0 (Nat.zero_le _) _ 0 _ rfl rfl
    · show am_Rn l G _ _ 23 [some (.inr (.inr 96)), some (.inl s), some (.inl n), none, none, none, none] [.inl 0] (am_up mem 95 11 0) _
      refine rn_ifne (t := 28) (q := 26) dX9_grows_23 rfl rfl (fun h => absurd h (by decide)) (fun w23 => ?_)
      refine rn_iconst (q := 27) dX9_grows_26 (am_okd rfl) rfl ?_
      refine rn_iret dX9_grows_27 rfl ?_
      exact hQ _ _ ⟨fun _ => ⟨rfl, (frS.up (a := 95) (k := 11) (x := 0) frS.rf rfl), hR.kept (frS.rf.up rfl)⟩, fun hn => by omega⟩
  · show am_Rn l G _ _ 13 [some (.inr (.inr 96)), some (.inl s), some (.inl n), none, none, none, none] [.inl 0] (am_up mem 95 11 0) _
    refine rn_ifeq (t := 26) (q := 16) dX9_grows_13 rfl rfl (fun w13 => ?_) (fun h => absurd h (by decide))
    refine rn_iconst (q := 27) dX9_grows_26 (am_okd rfl) rfl ?_
    refine rn_iret dX9_grows_27 rfl ?_
    exact hQ _ _ ⟨fun _ => ⟨rfl, (frS.up (a := 95) (k := 11) (x := 0) frS.rf rfl), hR.kept (frS.rf.up rfl)⟩, fun hn => by omega⟩
theorem c_envy (q : CQ r X C sn sg h e NB mem) {R : List Int} (hR : c_row R mem) : am_Sm l G yX8_envy mt_X8_envy (d + 2) [.inr (.inr 1)] mem (QC (enV (enO (eH e) h.1 h.1)) (enR R (enO (eH e) h.1 h.1)) mem) := by
  refine am_enterQ (ls := [some (.inr (.inr 1)), none, none, none, none]) (by decide) rfl (Nat.le_of_ble_eq_true rfl) rfl (fun hok Q hQ => ?_)
  have b := q.bd
  have L : ∀ i : Nat, i ≤ h.1 → ∀ (m : am_M) (s : Int) (lx ly : Option am_V), frS s8r mem m → s = enV (enO (eH e) h.1 i) → c_row (enR R (enO (eH e) h.1 i)) m → am_Rn l G mt_X8_envy (d + 2) 5 [some (.inr (.inr 1)), some (.inl s), some (.inl (i : Int)), lx, ly] [] m Q := by
    refine am_dn h.1 (fun i hi ih m s lx ly hf hs hr => ?_)
    have hi9 := q.hd9 i
    have K : i < h.1 → ∀ j : Nat, j ≤ h.1 → i + 1 ≤ j → ∀ (m : am_M) (s : Int) (lx : Option am_V), frS s8r mem m → s = enV (enI (eH e) i (enO (eH e) h.1 i) j) → c_row (enR R (enI (eH e) i (enO (eH e) h.1 i) j)) m → am_Rn l G mt_X8_envy (d + 2) 20 [some (.inr (.inr 1)), some (.inl s), some (.inl (i : Int)), some (.inl (j : Int)), lx] [] m Q := by
      intro hlt
      refine am_dn h.1 (fun j hj ih2 hij m s lx hf hs hr => ?_)
      have hj9 := q.hd9 j
      have o := enI_ok (i := i) (s := enO (eH e) h.1 i) q.hd9 (enO_ok q.hd9 i) j
      have es : s = -2 ∧ (enI (eH e) i (enO (eH e) h.1 i) j).1 = -1 ∨ s = (enI (eH e) i (enO (eH e) h.1 i) j).1 ∧ 0 ≤ s := by
        unfold enV at hs
        split at hs <;> omega
      refine rn_iload_n (x := (j : Int)) (q := 21) dX8_envy_20 rfl rfl ?_
      refine rn_aload_n (x := 0) (q := 22) dX8_envy_21 rfl rfl ?_
      refine rn_get (a := 0) (v := .inr (.inr 6)) (q := 25) dX8_envy_22 fl_X8_26 rfl rfl rfl ?_
      refine rn_get (a := 5) (v := .inl (h.1 : Int)) (q := 28) dX8_envy_25 fl_X8_136 rfl (am_gi (q.kept hf).n) rfl ?_
      refine rn_cmpge (t := 81) (q := 31) dX8_envy_28 rfl rfl (fun w28 => ?_) (fun w28 => ?_)
      · refine rn_iincN (x := (i : Int)) (z := ((i + 1 : Nat) : Int)) (ls' := [some (.inr (.inr 1)), some (.inl s), some (.inl ((i + 1 : Nat) : Int)), some (.inl (j : Int)), lx]) (q := 84) dX8_envy_81 rfl (by decide) (by omega) (by unfold am_ok; omega) rfl rfl ?_
        refine rn_goto (t := 5) dX8_envy_84 rfl ?_
        obtain rfl : j = h.1 := by omega
        exact ih hlt _ _ _ _ hf hs hr
      · refine rn_aload_n (x := 0) (q := 32) dX8_envy_31 rfl rfl ?_
        refine rn_get (a := 0) (v := .inr (.inr 17)) (q := 35) dX8_envy_32 fl_X8_33 rfl rfl rfl ?_
        refine rn_get (a := 16) (v := .inr (.inr 18)) (q := 38) dX8_envy_35 fl_X8_159 rfl rfl rfl ?_
        refine rn_iload_n (x := (i : Int)) (q := 39) dX8_envy_38 rfl rfl ?_
        refine rn_ialdV (a := 17) (v := (eH e i : Int)) (q := 40) dX8_envy_39 rfl (by omega) (by omega) ((q.kept hf).hd (by omega)) rfl ?_
        refine rn_aload_n (x := 0) (q := 41) dX8_envy_40 rfl rfl ?_
        refine rn_get (a := 0) (v := .inr (.inr 17)) (q := 44) dX8_envy_41 fl_X8_33 rfl rfl rfl ?_
        refine rn_get (a := 16) (v := .inr (.inr 18)) (q := 47) dX8_envy_44 fl_X8_159 rfl rfl rfl ?_
        refine rn_iload_n (x := (j : Int)) (q := 48) dX8_envy_47 rfl rfl ?_
        refine rn_ialdV (a := 17) (v := (eH e j : Int)) (q := 49) dX8_envy_48 rfl (by omega) (by omega) ((q.kept hf).hd (by omega)) rfl ?_
        refine rn_isubN (z := ((eH e i : Int) - (eH e j : Int))) (q := 50) dX8_envy_49 rfl (by unfold am_ok; omega) rfl ?_
        refine rn_mabs (q := 53) dX8_envy_50 am_mm_X8_348 am_mabsw (by omega) (Nat.le_of_ble_eq_true rfl) rfl ?_
        refine rn_istore (ls' := [some (.inr (.inr 1)), some (.inl s), some (.inl (i : Int)), some (.inl (j : Int)), some (.inl ((((eH e i : Int) - (eH e j : Int))).natAbs : Int))]) (q := 55) dX8_envy_53 (by decide) rfl rfl ?_
        refine rn_iload (x := ((((eH e i : Int) - (eH e j : Int))).natAbs : Int)) (q := 57) dX8_envy_55 rfl rfl ?_
        refine rn_iload_n (x := s) (q := 58) dX8_envy_57 rfl rfl ?_
        refine rn_cmple (t := 75) (q := 61) dX8_envy_58 rfl rfl (fun w58 => ?_) (fun w58 => ?_)
        · refine rn_iincN (x := (j : Int)) (z := ((j + 1 : Nat) : Int)) (ls' := [some (.inr (.inr 1)), some (.inl s), some (.inl (i : Int)), some (.inl ((j + 1 : Nat) : Int)), some (.inl ((((eH e i : Int) - (eH e j : Int))).natAbs : Int))]) (q := 78) dX8_envy_75 rfl (by decide) (by omega) (by unfold am_ok; omega) rfl rfl ?_
          refine rn_goto (t := 20) dX8_envy_78 rfl ?_
          first | (have e1 : enI (eH e) i (enO (eH e) h.1 i) (j + 1) = _ := (if_pos (by omega)).trans (if_pos (by omega)); exact ih2 (by omega) (by omega) _ _ _ hf (by rw [e1]; unfold enV; rw [if_neg (by show ¬ (_ : Int) = _; omega)]) (by rw [e1]; unfold enR; rw [if_neg (by show ¬ (_ : Int) = _; omega)]; exact hr72)) | (have e1 : enI (eH e) i (enO (eH e) h.1 i) (j + 1) = _ := (if_pos (by omega)).trans (if_neg (by omega)); exact ih2 (by omega) (by omega) _ _ _ hf (by rw [e1]; exact hs) (by rw [e1]; exact hr))
        · refine rn_iload (x := ((((eH e i : Int) - (eH e j : Int))).natAbs : Int)) (q := 63) dX8_envy_61 rfl rfl ?_
          refine rn_istore_n (ls' := [some (.inr (.inr 1)), some (.inl ((((eH e i : Int) - (eH e j : Int))).natAbs : Int)), some (.inl (i : Int)), some (.inl (j : Int)), some (.inl ((((eH e i : Int) - (eH e j : Int))).natAbs : Int))]) (q := 64) dX8_envy_63 (by decide) rfl rfl ?_
          refine rn_aload_n (x := 0) (q := 65) dX8_envy_64 rfl rfl ?_
          refine rn_get (a := 0) (v := .inr (.inr 4)) (q := 68) dX8_envy_65 fl_X8_19 rfl rfl rfl ?_
          refine rn_iload_n (x := (i : Int)) (q := 69) dX8_envy_68 rfl rfl ?_
          refine rn_i2l (q := 70) dX8_envy_69 rfl ?_
          refine rn_iload_n (x := (j : Int)) (q := 71) dX8_envy_70 rfl rfl ?_
          refine rn_i2l (q := 72) dX8_envy_71 rfl ?_
          refine rn_callV (b := 3) (as := [.inr (.inl (i : Int)), .inr (.inl (j : Int))]) (rest := []) (q := 75) dX8_envy_72 ml_X8_229 sm_X3_tell_ rfl rfl (by decide) (by omega) rfl rfl (Nat.le_of_ble_eq_true rfl) rfl (s_Rtell2 (d := d + 0) (i : Int) (j : Int)) ?_
          intro r72 mem72 hq72
          obtain ⟨rfl, hr72, hf72⟩ := hq72
          show am_Rn l G _ _ 75 [some (.inr (.inr 1)), some (.inl ((((eH e i : Int) - (eH e j : Int))).natAbs : Int)), some (.inl (i : Int)), some (.inl (j : Int)), some (.inl ((((eH e i : Int) - (eH e j : Int))).natAbs : Int))] [] mem72 _
          refine rn_iincN (x := (j : Int)) (z := ((j + 1 : Nat) : Int)) (ls' := [some (.inr (.inr 1)), some (.inl ((((eH e i : Int) - (eH e j : Int))).natAbs : Int)), some (.inl (i : Int)), some (.inl ((j + 1 : Nat) : Int)), some (.inl ((((eH e i : Int) - (eH e j : Int))).natAbs : Int))]) (q := 78) dX8_envy_75 rfl (by decide) (by omega) (by unfold am_ok; omega) rfl rfl ?_
          refine rn_goto (t := 20) dX8_envy_78 rfl ?_
          first | (have e1 : enI (eH e) i (enO (eH e) h.1 i) (j + 1) = _ := (if_pos (by omega)).trans (if_pos (by omega)); exact ih2 (by omega) (by omega) _ _ _ (hf.tr (fr_row hf72)) (by rw [e1]; unfold enV; rw [if_neg (by show ¬ (_ : Int) = _; omega)]) (by rw [e1]; unfold enR; rw [if_neg (by show ¬ (_ : Int) = _; omega)]; exact hr72)) | (have e1 : enI (eH e) i (enO (eH e) h.1 i) (j + 1) = _ := (if_pos (by omega)).trans (if_neg (by omega)); exact ih2 (by omega) (by omega) _ _ _ (hf.tr (fr_row hf72)) (by rw [e1]; exact hs) (by rw [e1]; exact hr))
    refine rn_iload_n (x := (i : Int)) (q := 6) dX8_envy_5 rfl rfl ?_
    refine rn_aload_n (x := 0) (q := 7) dX8_envy_6 rfl rfl ?_
    refine rn_get (a := 0) (v := .inr (.inr 6)) (q := 10) dX8_envy_7 fl_X8_26 rfl rfl rfl ?_
    refine rn_get (a := 5) (v := .inl (h.1 : Int)) (q := 13) dX8_envy_10 fl_X8_136 rfl (am_gi (q.kept hf).n) rfl ?_
    refine rn_cmpge (t := 87) (q := 16) dX8_envy_13 rfl rfl (fun w13 => ?_) (fun w13 => ?_)
    · refine rn_iload_n (x := s) (q := 88) dX8_envy_87 rfl rfl ?_
      refine rn_iret dX8_envy_88 rfl ?_
      exact hQ _ _ ⟨by rw [hs, show i = h.1 by omega], hf, by rw [show i = h.1 by omega] at hr; exact hr⟩
    · refine rn_iload_n (x := (i : Int)) (q := 17) dX8_envy_16 rfl rfl ?_
      refine rn_iconst (q := 18) dX8_envy_17 (am_okd rfl) rfl ?_
      refine rn_iaddN (z := ((i + 1 : Nat) : Int)) (q := 19) dX8_envy_18 (by omega) (by unfold am_ok; omega) rfl ?_
      refine rn_istore_n (ls' := [some (.inr (.inr 1)), some (.inl s), some (.inl (i : Int)), some (.inl ((i + 1 : Nat) : Int)), ly]) (q := 20) dX8_envy_19 (by decide) rfl rfl ?_
      exact K (by omega) (i + 1) (by omega) (Nat.le_refl _) m s _ hf (by rw [enI_0 _ (Nat.le_refl _)]; exact hs) (by rw [enI_0 _ (Nat.le_refl _)]; exact hr)
  refine rn_bipush (q := 2) dX8_envy_0 ⟨by decide, by decide⟩ rfl ?_
  refine rn_istore_n (ls' := [some (.inr (.inr 1)), some (.inl (-2)), none, none, none]) (q := 3) dX8_envy_2 (by decide) rfl rfl ?_
  refine rn_iconst (q := 4) dX8_envy_3 (am_okd rfl) rfl ?_
  refine rn_istore_n (ls' := [some (.inr (.inr 1)), some (.inl (-2)), some (.inl 0), none, none]) (q := 5) dX8_envy_4 (by decide) rfl rfl ?_
  exact L 0 (Nat.zero_le _) mem _ _ _ frS.rf rfl hR
theorem m_envy (q : DQ X sn sg h e NB mem) {R : List Int} (hR : m_row R mem) : am_Sm l G yX9_envy mt_X9_envy (d + 2) [.inr (.inr 96)] mem (QM (enV (enO (eH e) h.1 h.1)) (enR R (enO (eH e) h.1 h.1)) mem) := by
  refine am_enterQ (ls := [some (.inr (.inr 96)), none, none, none, none, none, none]) (by decide) rfl (Nat.le_of_ble_eq_true rfl) rfl (fun hok Q hQ => ?_)
  have b := q.bd
  have L : ∀ i : Nat, i ≤ h.1 → ∀ (s : enT) (lx ly : Option am_V), s = enO (eH e) h.1 i → am_Rn l G mt_X9_envy (d + 2) 14 [some (.inr (.inr 96)), some (.inl s.1), some (.inl s.2.1), some (.inl s.2.2), some (.inl (i : Int)), lx, ly] [] (am_up mem 95 11 0) Q := by
    refine am_dn h.1 (fun i hi ih s lx ly hs => ?_)
    have hi9 := q.hd9 i
    have o0 := enO_ok (n := h.1) q.hd9 i
    rw [← hs] at o0
    have K : i < h.1 → ∀ j : Nat, j ≤ h.1 → i + 1 ≤ j → ∀ (t : enT) (lx : Option am_V), t = enI (eH e) i s j → am_Rn l G mt_X9_envy (d + 2) 29 [some (.inr (.inr 96)), some (.inl t.1), some (.inl t.2.1), some (.inl t.2.2), some (.inl (i : Int)), some (.inl (j : Int)), lx] [] (am_up mem 95 11 0) Q := by
      intro hlt
      refine am_dn h.1 (fun j hj ih2 hij t lx ht => ?_)
      have hj9 := q.hd9 j
      have o := enI_ok (i := i) (s := s) q.hd9 o0 j
      rw [← ht] at o
      refine rn_iload (x := (j : Int)) (q := 31) dX9_envy_29 rfl rfl ?_
      refine rn_aload_n (x := 95) (q := 32) dX9_envy_31 rfl rfl ?_
      refine rn_get (a := 95) (v := .inl (h.1 : Int)) (q := 35) dX9_envy_32 fl_X9_113 rfl (am_gi (q.kept (frS.up (a := 95) (k := 11) (x := 0) frS.rf rfl)).n) rfl ?_
      refine rn_cmpge (t := 82) (q := 38) dX9_envy_35 rfl rfl (fun w35 => ?_) (fun w35 => ?_)
      · refine rn_iincN (x := (i : Int)) (z := ((i + 1 : Nat) : Int)) (ls' := [some (.inr (.inr 96)), some (.inl t.1), some (.inl t.2.1), some (.inl t.2.2), some (.inl ((i + 1 : Nat) : Int)), some (.inl (j : Int)), lx]) (q := 85) dX9_envy_82 rfl (by decide) (by omega) (by unfold am_ok; omega) rfl rfl ?_
        refine rn_goto (t := 14) dX9_envy_85 rfl ?_
        exact ih hlt t _ _ (by rw [enO, ← hs, ht, show h.1 = j by omega])
      · refine rn_aload_n (x := 95) (q := 39) dX9_envy_38 rfl rfl ?_
        refine rn_get (a := 95) (v := .inr (.inr 97)) (q := 42) dX9_envy_39 fl_X9_9 rfl rfl rfl ?_
        refine rn_iload (x := (i : Int)) (q := 44) dX9_envy_42 rfl rfl ?_
        refine rn_ialdV (a := 96) (v := (eH e i : Int)) (q := 45) dX9_envy_44 rfl (by omega) (by omega) ((q.kept (frS.up (a := 95) (k := 11) (x := 0) frS.rf rfl)).hd (by omega)) rfl ?_
        refine rn_aload_n (x := 95) (q := 46) dX9_envy_45 rfl rfl ?_
        refine rn_get (a := 95) (v := .inr (.inr 97)) (q := 49) dX9_envy_46 fl_X9_9 rfl rfl rfl ?_
        refine rn_iload (x := (j : Int)) (q := 51) dX9_envy_49 rfl rfl ?_
        refine rn_ialdV (a := 96) (v := (eH e j : Int)) (q := 52) dX9_envy_51 rfl (by omega) (by omega) ((q.kept (frS.up (a := 95) (k := 11) (x := 0) frS.rf rfl)).hd (by omega)) rfl ?_
        refine rn_isubN (z := ((eH e i : Int) - (eH e j : Int))) (q := 53) dX9_envy_52 rfl (by unfold am_ok; omega) rfl ?_
        refine rn_mabs (q := 56) dX9_envy_53 am_mm_X9_320 am_mabsw (by omega) (Nat.le_of_ble_eq_true rfl) rfl ?_
        refine rn_istore (ls' := [some (.inr (.inr 96)), some (.inl t.1), some (.inl t.2.1), some (.inl t.2.2), some (.inl (i : Int)), some (.inl (j : Int)), some (.inl ((((eH e i : Int) - (eH e j : Int))).natAbs : Int))]) (q := 58) dX9_envy_56 (by decide) rfl rfl ?_
        refine rn_iload (x := ((((eH e i : Int) - (eH e j : Int))).natAbs : Int)) (q := 60) dX9_envy_58 rfl rfl ?_
        refine rn_iload_n (x := t.1) (q := 61) dX9_envy_60 rfl rfl ?_
        refine rn_cmpgt (t := 67) (q := 64) dX9_envy_61 rfl rfl (fun w61 => ?_) (fun w61 => ?_)
        · refine rn_iload (x := ((((eH e i : Int) - (eH e j : Int))).natAbs : Int)) (q := 69) dX9_envy_67 rfl rfl ?_
          refine rn_istore_n (ls' := [some (.inr (.inr 96)), some (.inl ((((eH e i : Int) - (eH e j : Int))).natAbs : Int)), some (.inl t.2.1), some (.inl t.2.2), some (.inl (i : Int)), some (.inl (j : Int)), some (.inl ((((eH e i : Int) - (eH e j : Int))).natAbs : Int))]) (q := 70) dX9_envy_69 (by decide) rfl rfl ?_
          refine rn_iload (x := (i : Int)) (q := 72) dX9_envy_70 rfl rfl ?_
          refine rn_istore_n (ls' := [some (.inr (.inr 96)), some (.inl ((((eH e i : Int) - (eH e j : Int))).natAbs : Int)), some (.inl (i : Int)), some (.inl t.2.2), some (.inl (i : Int)), some (.inl (j : Int)), some (.inl ((((eH e i : Int) - (eH e j : Int))).natAbs : Int))]) (q := 73) dX9_envy_72 (by decide) rfl rfl ?_
          refine rn_iload (x := (j : Int)) (q := 75) dX9_envy_73 rfl rfl ?_
          refine rn_istore_n (ls' := [some (.inr (.inr 96)), some (.inl ((((eH e i : Int) - (eH e j : Int))).natAbs : Int)), some (.inl (i : Int)), some (.inl (j : Int)), some (.inl (i : Int)), some (.inl (j : Int)), some (.inl ((((eH e i : Int) - (eH e j : Int))).natAbs : Int))]) (q := 76) dX9_envy_75 (by decide) rfl rfl ?_
          refine rn_iincN (x := (j : Int)) (z := ((j + 1 : Nat) : Int)) (ls' := [some (.inr (.inr 96)), some (.inl ((((eH e i : Int) - (eH e j : Int))).natAbs : Int)), some (.inl (i : Int)), some (.inl (j : Int)), some (.inl (i : Int)), some (.inl ((j + 1 : Nat) : Int)), some (.inl ((((eH e i : Int) - (eH e j : Int))).natAbs : Int))]) (q := 79) dX9_envy_76 rfl (by decide) (by omega) (by unfold am_ok; omega) rfl rfl ?_
          refine rn_goto (t := 29) dX9_envy_79 rfl ?_
          first | exact ih2 (by omega) (by omega) (_, _, _) _ (by rw [enI, if_pos (by omega), ← ht, enS, if_pos (by omega)]) | exact ih2 (by omega) (by omega) t _ (by rw [enI, if_pos (by omega), ← ht, enS, if_neg (by omega)])
        · refine rn_goto (t := 76) dX9_envy_64 rfl ?_
          refine rn_iincN (x := (j : Int)) (z := ((j + 1 : Nat) : Int)) (ls' := [some (.inr (.inr 96)), some (.inl t.1), some (.inl t.2.1), some (.inl t.2.2), some (.inl (i : Int)), some (.inl ((j + 1 : Nat) : Int)), some (.inl ((((eH e i : Int) - (eH e j : Int))).natAbs : Int))]) (q := 79) dX9_envy_76 rfl (by decide) (by omega) (by unfold am_ok; omega) rfl rfl ?_
          refine rn_goto (t := 29) dX9_envy_79 rfl ?_
          first | exact ih2 (by omega) (by omega) (_, _, _) _ (by rw [enI, if_pos (by omega), ← ht, enS, if_pos (by omega)]) | exact ih2 (by omega) (by omega) t _ (by rw [enI, if_pos (by omega), ← ht, enS, if_neg (by omega)])
    refine rn_iload (x := (i : Int)) (q := 16) dX9_envy_14 rfl rfl ?_
    refine rn_aload_n (x := 95) (q := 17) dX9_envy_16 rfl rfl ?_
    refine rn_get (a := 95) (v := .inl (h.1 : Int)) (q := 20) dX9_envy_17 fl_X9_113 rfl (am_gi (q.kept (frS.up (a := 95) (k := 11) (x := 0) frS.rf rfl)).n) rfl ?_
    refine rn_cmpge (t := 88) (q := 23) dX9_envy_20 rfl rfl (fun w20 => ?_) (fun w20 => ?_)
    · refine rn_iload_n (x := s.1) (q := 89) dX9_envy_88 rfl rfl ?_
      refine rn_iconst (q := 90) dX9_envy_89 (am_okd rfl) rfl ?_
      refine rn_cmpne (t := 96) (q := 93) dX9_envy_90 rfl rfl (fun w90 => ?_) (fun w90 => ?_)
      · refine rn_aload_n (x := 95) (q := 97) dX9_envy_96 rfl rfl ?_
        refine rn_iconst (q := 98) dX9_envy_97 (am_okd rfl) rfl ?_
        refine rn_puti (a := 95) (q := 101) dX9_envy_98 fl_X9_110 rfl rfl rfl rfl ?_
        refine rn_aload_n (x := 95) (q := 102) dX9_envy_101 rfl rfl ?_
        refine rn_iload_n (x := s.2.1) (q := 103) dX9_envy_102 rfl rfl ?_
        refine rn_i2l (q := 104) dX9_envy_103 rfl ?_
        refine rn_callV (b := 95) (as := [.inr (.inl s.2.1)]) (rest := []) (q := 107) dX9_envy_104 ml_X9_275 sm_X9_tell rfl rfl (by decide) (by omega) rfl rfl (Nat.le_of_ble_eq_true rfl) rfl (m_tell (d := d + 1) m_row0 (by first | decide | simp | omega) s.2.1) ?_
        intro r104 mem104 hq104
        obtain ⟨rfl, hr104, hf104⟩ := hq104
        show am_Rn l G _ _ 107 [some (.inr (.inr 96)), some (.inl s.1), some (.inl s.2.1), some (.inl s.2.2), some (.inl (i : Int)), lx, ly] [] mem104 _
        refine rn_aload_n (x := 95) (q := 108) dX9_envy_107 rfl rfl ?_
        refine rn_iload_n (x := s.2.2) (q := 109) dX9_envy_108 rfl rfl ?_
        refine rn_i2l (q := 110) dX9_envy_109 rfl ?_
        refine rn_callV (b := 95) (as := [.inr (.inl s.2.2)]) (rest := []) (q := 113) dX9_envy_110 ml_X9_275 sm_X9_tell rfl rfl (by decide) (by omega) rfl rfl (Nat.le_of_ble_eq_true rfl) rfl (m_tell (d := d + 1) hr104 (by first | decide | simp | omega) s.2.2) ?_
        intro r110 mem110 hq110
        obtain ⟨rfl, hr110, hf110⟩ := hq110
        show am_Rn l G _ _ 113 [some (.inr (.inr 96)), some (.inl s.1), some (.inl s.2.1), some (.inl s.2.2), some (.inl (i : Int)), lx, ly] [] mem110 _
        refine rn_iload_n (x := s.1) (q := 114) dX9_envy_113 rfl rfl ?_
        refine rn_iret dX9_envy_114 rfl ?_
        exact hQ _ _ (by rw [show h.1 = i by omega] at hs ⊢; unfold enV enR; rw [← hs, if_neg (by omega), if_neg (by omega)]; exact ⟨rfl, (((frS.up (a := 95) (k := 10) (x := 0) (frS.up (a := 95) (k := 11) (x := 0) frS.rf rfl) rfl).tr hf104).tr hf110), hr110⟩)
      · refine rn_bipush (q := 95) dX9_envy_93 ⟨by decide, by decide⟩ rfl ?_
        refine rn_iret dX9_envy_95 rfl ?_
        exact hQ _ _ (by rw [show h.1 = i by omega] at hs ⊢; unfold enV enR; rw [← hs, if_pos (by omega), if_pos (by omega)]; exact ⟨rfl, (frS.up (a := 95) (k := 11) (x := 0) frS.rf rfl), hR.kept (frS.rf.up rfl)⟩)
    · refine rn_iload (x := (i : Int)) (q := 25) dX9_envy_23 rfl rfl ?_
      refine rn_iconst (q := 26) dX9_envy_25 (am_okd rfl) rfl ?_
      refine rn_iaddN (z := ((i + 1 : Nat) : Int)) (q := 27) dX9_envy_26 (by omega) (by unfold am_ok; omega) rfl ?_
      refine rn_istore (ls' := [some (.inr (.inr 96)), some (.inl s.1), some (.inl s.2.1), some (.inl s.2.2), some (.inl (i : Int)), some (.inl ((i + 1 : Nat) : Int)), ly]) (q := 29) dX9_envy_27 (by decide) rfl rfl ?_
      exact K (by omega) (i + 1) (by omega) (Nat.le_refl _) s _ (by rw [enI_0 _ (Nat.le_refl _)])
  refine rn_aload_n (x := 95) (q := 1) dX9_envy_0 rfl rfl ?_
  refine rn_iconst (q := 2) dX9_envy_1 (am_okd rfl) rfl ?_
  refine rn_puti (a := 95) (q := 5) dX9_envy_2 fl_X9_107 rfl rfl rfl rfl ?_
  refine rn_iconst (q := 6) dX9_envy_5 (am_okd rfl) rfl ?_
  refine rn_istore_n (ls' := [some (.inr (.inr 96)), some (.inl (-1)), none, none, none, none, none]) (q := 7) dX9_envy_6 (by decide) rfl rfl ?_
  refine rn_iconst (q := 8) dX9_envy_7 (am_okd rfl) rfl ?_
  refine rn_istore_n (ls' := [some (.inr (.inr 96)), some (.inl (-1)), some (.inl (-1)), none, none, none, none]) (q := 9) dX9_envy_8 (by decide) rfl rfl ?_
  refine rn_iconst (q := 10) dX9_envy_9 (am_okd rfl) rfl ?_
  refine rn_istore_n (ls' := [some (.inr (.inr 96)), some (.inl (-1)), some (.inl (-1)), some (.inl (-1)), none, none, none]) (q := 11) dX9_envy_10 (by decide) rfl rfl ?_
  refine rn_iconst (q := 12) dX9_envy_11 (am_okd rfl) rfl ?_
  refine rn_istore (ls' := [some (.inr (.inr 96)), some (.inl (-1)), some (.inl (-1)), some (.inl (-1)), some (.inl 0), none, none]) (q := 14) dX9_envy_12 (by decide) rfl rfl ?_
  exact L 0 (Nat.zero_le _) (-1, -1, -1) _ _ rfl
end P54
