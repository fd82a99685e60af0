/-! years of the reference -/
theorem fr_9x {mem m : am_M} (f : ∀ b, b ≠ 109 → m b = mem b) : frS s9 mem m := by
  intro b k hb
  unfold s9 at hb
  simp [ble_f] at hb
  rw [f b (by omega)]
theorem turn_est {e : est} {a : Nat} {m1 : am_M} {h : hrs} (E : m_est e a 0 m1) {k : Nat} (hk : k < h.1) (h8 : h.1 ≤ 8) : m_est (turnE h e (k : Int)) a 0 (am_up m1 a (16 + k) (1 - if (eP e).testBit k then 1 else 0)) := by
  have e1 : turnE h e (k : Int) = (eH e, eS e, Nat.xor (eP e) (2 ^ k), eN e, eB e, eM e, eK e, eG e) := by unfold turnE; rw [if_pos (by omega), Int.toNat_natCast]
  rw [e1]
  have A := E.a
  refine m_est_of (fun j hj => ?_) (fun j hj => ?_) (fun j hj => ?_) ?_ ?_ ?_ ?_ ?_
  · rw [am_up_neq (by omega)]; exact A.1 j hj
  · rw [am_up_neq (by omega)]; exact A.2.1 j hj
  · rw [am_up_at]
    show _ = if (Nat.xor (eP e) (2 ^ k)).testBit j then (1 : Int) else 0
    have ex : (Nat.xor (eP e) (2 ^ k)).testBit j = ((eP e).testBit j ^^ decide (k = j)) := by
      show ((eP e) ^^^ (2 ^ k)).testBit j = _
      rw [Nat.testBit_xor, Nat.testBit_two_pow]
    rw [ex]
    by_cases hj2 : j = k
    · subst hj2
      rw [if_pos rfl]
      cases (eP e).testBit j <;> simp
    · rw [if_neg (by omega), A.2.2.1 j hj]
      have : decide (k = j) = false := by simp; omega
      rw [this]
      cases (eP e).testBit j <;> simp
  · rw [am_up_neq (by omega)]; exact A.2.2.2.1
  · rw [am_up_neq (by omega)]; exact A.2.2.2.2.1
  · rw [am_up_neq (by omega)]; exact A.2.2.2.2.2.1
  · rw [am_up_neq (by omega)]; exact A.2.2.2.2.2.2.1
  · rw [am_up_neq (by omega)]; exact A.2.2.2.2.2.2.2
section P90
variable {l : Launch} {G : am_G} {d : Nat} {r : Nat} {X : List Nat} {C : List Int} {sn : Nat} {sg : Nat → Nat} {h : hrs} {e : est} {NB : Nat} {mem m : am_M}
variable {e2 : est}
theorem DQ.upN (q : DQ X sn sg h e NB mem) {NB2 : Nat} (h1 : NB ≤ NB2) (h2 : NB2 < 900000) : DQ X sn sg h e NB2 mem := by
  obtain ⟨q1, q2, q3, q5, q6, q7, q8, q9⟩ := q
  exact ⟨q1, q2, q3, q5, q6, q7, e_ok_up q8 h1, h2⟩
theorem m_goNightY (q : DQ X sn sg h e NB mem) {k : Nat} (hk : k ≤ 99) (he : e_ok h.1 (NB + k) e2) (hE : m_est e2 109 0 mem) : am_Sm l G yX9_goNight mt_X9_goNight (d + 178) [.inr (.inr 96), .inr (.inr 110)] mem (fun q m => q = none ∧ m_est (nextE X h sn sg e2) 109 0 m ∧ m 95 46 = mem 95 46 ∧ frS s9 mem m) := by
  have hb := q.2.2.2.2.2.2.2
  refine am_Sm_mono (s_goNight9 (arr := 109) rfl (by decide) (by decide) (by decide) (by decide) q.1.1 q.1.2 q.rl q.sng q.hs (NB := NB + k) (by omega) he hE q.2.2.1) (fun r m hq => ?_)
  obtain ⟨a1, a2, a3⟩ := hq
  exact ⟨a1, a2, a3.2 46 (by decide) (by decide) (by decide), a3.to9 (Or.inl rfl)⟩
theorem m_refHumT (q : DQ X sn sg h e NB mem) (hE : m_est e2 109 0 mem) (hB : eB e2 ≤ 9999) (i : Nat) (hi : i < h.1) (n : Nat) (h1 : 1 ≤ n) (h9 : n ≤ 9) : am_Sm l G yX9_refusesHum mt_X9_refusesHum (d + 2) [.inr (.inr 96), .inr (.inr 110), .inl (i : Int), .inl (n : Int)] mem (fun r m => ∃ x : Int, r = some (.inl x) ∧ mem = m ∧ ((x = 0 ∧ n ≤ eB e2) ∨ (x ≠ 0 ∧ eB e2 < n))) := by
  refine am_Sm_mono (m_refusesHumT q hE hB i n) (fun r m hq => ?_)
  obtain ⟨⟨a, -⟩ | ⟨-, a, a2⟩ | ⟨⟨-, a⟩, a2⟩, hm⟩ := hq
  · exact absurd ⟨⟨by omega, by omega⟩, by omega, by omega⟩ a
  · exact ⟨_, a2, hm, Or.inr ⟨by decide, by omega⟩⟩
  · exact ⟨_, a2, hm, Or.inl ⟨rfl, by omega⟩⟩
theorem m_years (q : DQ X sn sg h e NB mem) {R : List Int} (hR : m_row R mem) (hN : NB + 60 < 900000) (v n : Int) : am_Sm l G yX9_years mt_X9_years (d + 180) [.inr (.inr 96), .inl v, .inl n] mem (fun q m => (¬ (1 ≤ n ∧ n ≤ 60) → QM (-1) R mem q m) ∧ (1 ≤ n ∧ n ≤ 60 → QM (eB (yrI X h sn sg v e n.toNat).2 : Int) [(eM (yrI X h sn sg v e n.toNat).2 : Int), (((List.range h.1).map (eH (yrI X h sn sg v e n.toNat).2)).sum : Nat)] mem q m)) := by
  refine am_enterQ (ls := [some (.inr (.inr 96)), some (.inl v), some (.inl n), none, none, none, none]) (by decide) rfl (Nat.le_of_ble_eq_true rfl) rfl (fun hok Q hQ => ?_)
  have b := q.bd
  by_cases hn : 1 ≤ n ∧ n ≤ 60
  · have L : ∀ i : Nat, i ≤ n.toNat → ∀ (m : am_M) (y1 y2 y3 : Option am_V), m 95 46 = (yrI X h sn sg v e i).1 → m_est (yrI X h sn sg v e i).2 109 0 m → frS s9 mem m → am_Rn l G mt_X9_years (d + 180) 36 [some (.inr (.inr 96)), some (.inl v), some (.inl n), some (.inl (i : Int)), y1, y2, y3] [] m Q := by
      refine am_dn n.toNat (fun i hi ih m y1 y2 y3 hv hE hf => ?_)
      have hy := yrI_ok (X := X) (sn := sn) (sg := sg) (v := v) q.eo i
      have hqm := q.kept hf.r9
      have hs := sum99 hy.1 h.1
      have ih2 : i < n.toNat → ∀ (m : am_M) (y1 y2 y3 : Option am_V), m 95 46 = (yrS X h sn sg (yrI X h sn sg v e i).1 (yrI X h sn sg v e i).2).1 → m_est (yrS X h sn sg (yrI X h sn sg v e i).1 (yrI X h sn sg v e i).2).2 109 0 m → frS s9 mem m → am_Rn l G mt_X9_years (d + 180) 36 [some (.inr (.inr 96)), some (.inl v), some (.inl n), some (.inl ((i + 1 : Nat) : Int)), y1, y2, y3] [] m Q := ih
      clear ih
      generalize (yrI X h sn sg v e i).1 = u at *
      generalize hw : (yrI X h sn sg v e i).2 = w at *
      have l4 := drA_lt (v := u) (n := 4) (by decide)
      have lh : 0 < h.1 → drA (nxD u) h.1 < h.1 := fun z => drA_lt z
      have l9 := drA_lt (v := nxD (nxD u)) (n := 9) (by decide)
      have wB := hy.2.2.2.2.1
      unfold yrS at ih2
      refine rn_iload_n (x := (i : Int)) (q := 37) dX9_years_36 rfl rfl ?_
      refine rn_iload_n (x := n) (q := 38) dX9_years_37 rfl rfl ?_
      refine rn_cmpge (t := 162) (q := 41) dX9_years_38 rfl rfl (fun w38 => ?_) (fun w38 => ?_)
      · refine rn_aload_n (x := 95) (q := 163) dX9_years_162 rfl rfl ?_
        refine rn_iconst (q := 164) dX9_years_163 (am_okd rfl) rfl ?_
        refine rn_puti (a := 95) (q := 167) dX9_years_164 fl_X9_110 rfl rfl rfl rfl ?_
        refine rn_aload_n (x := 95) (q := 168) dX9_years_167 rfl rfl ?_
        refine rn_aload_n (x := 95) (q := 169) dX9_years_168 rfl rfl ?_
        refine rn_get (a := 95) (v := .inr (.inr 110)) (q := 172) dX9_years_169 fl_X9_55 rfl rfl rfl ?_
        refine rn_bipush (q := 174) dX9_years_172 ⟨by decide, by decide⟩ rfl ?_
        refine rn_ialdV (a := 109) (v := (eM w : Int)) (q := 175) dX9_years_174 rfl (by omega) (by omega) hE.a.2.2.2.2.1 rfl ?_
        refine rn_i2l (q := 176) dX9_years_175 rfl ?_
        refine rn_callV (b := 95) (as := [.inr (.inl (eM w : Int))]) (rest := []) (q := 179) dX9_years_176 ml_X9_275 sm_X9_tell rfl rfl (by decide) (by omega) rfl rfl (Nat.le_of_ble_eq_true rfl) rfl (m_tellC (d := d + 179) m_row0 (by decide) (eM w : Int)) ?_
        intro r176 mem176 hq176
        obtain ⟨rfl, hr176, hf176, hf176a, hf176b⟩ := hq176
        show am_Rn l G _ _ 179 [some (.inr (.inr 96)), some (.inl v), some (.inl n), some (.inl (i : Int)), y1, y2, y3] [] mem176 _
        refine rn_aload_n (x := 95) (q := 180) dX9_years_179 rfl rfl ?_
        refine rn_aload_n (x := 95) (q := 181) dX9_years_180 rfl rfl ?_
        refine rn_aload_n (x := 95) (q := 182) dX9_years_181 rfl rfl ?_
        refine rn_get (a := 95) (v := .inr (.inr 110)) (q := 185) dX9_years_182 fl_X9_55 rfl rfl rfl ?_
        refine rn_callV (b := 95) (as := [.inr (.inr 110)]) (rest := [.inr (.inr 96)]) (q := 188) dX9_years_185 ml_X9_245 sm_X9_heardOfAll rfl rfl (by decide) (by omega) rfl rfl (Nat.le_of_ble_eq_true rfl) rfl (s_heardOfAll9 (d := d + 179) 109 h.1 rfl ((hf176b 1 (by decide)).trans hqm.n) b.1 (eH w) (fun j hj => (hf176a 109 j rfl rfl).trans (hE.a.1 j (by omega))) hy.1) ?_
        intro r185 mem185 hq185
        obtain ⟨rfl, rfl⟩ := hq185
        show am_Rn l G _ _ 188 [some (.inr (.inr 96)), some (.inl v), some (.inl n), some (.inl (i : Int)), y1, y2, y3] [.inl (((List.range h.1).map (eH w)).sum : Nat), .inr (.inr 96)] mem176 _
        refine rn_i2l (q := 189) dX9_years_188 rfl ?_
        refine rn_callV (b := 95) (as := [.inr (.inl (((List.range h.1).map (eH w)).sum : Nat))]) (rest := []) (q := 192) dX9_years_189 ml_X9_275 sm_X9_tell rfl rfl (by decide) (by omega) rfl rfl (Nat.le_of_ble_eq_true rfl) rfl (m_tellC (d := d + 179) hr176 (by simp) (((List.range h.1).map (eH w)).sum : Nat)) ?_
        intro r189 mem189 hq189
        obtain ⟨rfl, hr189, hf189, hf189a, -⟩ := hq189
        show am_Rn l G _ _ 192 [some (.inr (.inr 96)), some (.inl v), some (.inl n), some (.inl (i : Int)), y1, y2, y3] [] mem189 _
        refine rn_aload_n (x := 95) (q := 193) dX9_years_192 rfl rfl ?_
        refine rn_get (a := 95) (v := .inr (.inr 110)) (q := 196) dX9_years_193 fl_X9_55 rfl rfl rfl ?_
        refine rn_bipush (q := 198) dX9_years_196 ⟨by decide, by decide⟩ rfl ?_
        refine rn_ialdV (a := 109) (v := (eB w : Int)) (q := 199) dX9_years_198 rfl (by omega) (by omega) ((hf189a 109 24 rfl rfl).trans ((hf176a 109 24 rfl rfl).trans hE.a.2.2.2.1)) rfl ?_
        refine rn_iret dX9_years_199 rfl ?_
        obtain rfl : i = n.toNat := by omega
        rw [hw] at hQ
        exact hQ _ _ ⟨fun z => absurd hn z, fun _ => ⟨rfl, hf.r9.tr (((frS.rf.up rfl).tr hf176).tr hf189), hr189⟩⟩
      · refine rn_aload_n (x := 95) (q := 42) dX9_years_41 rfl rfl ?_
        refine rn_iconst (q := 43) dX9_years_42 (am_okd rfl) rfl ?_
        refine rn_callV (b := 95) (as := [.inl 4]) (rest := []) (q := 46) dX9_years_43 ml_X9_394 sm_X9_draw rfl rfl (by decide) (by omega) rfl rfl (Nat.le_of_ble_eq_true rfl) rfl (m_draw (d := d + 179) u hv 4 (by decide) (by decide)) ?_
        intro r43 mem43 hq43
        obtain ⟨rfl, rfl⟩ := hq43
        show am_Rn l G _ _ 46 [some (.inr (.inr 96)), some (.inl v), some (.inl n), some (.inl (i : Int)), y1, y2, y3] [.inl (drA u 4 : Int)] (am_up m 95 46 (nxD u)) _
        refine rn_istore (ls' := [some (.inr (.inr 96)), some (.inl v), some (.inl n), some (.inl (i : Int)), some (.inl (drA u 4 : Int)), y2, y3]) (q := 48) dX9_years_46 (by decide) rfl rfl ?_
        refine rn_iload (x := (drA u 4 : Int)) (q := 50) dX9_years_48 rfl rfl ?_
        refine rn_iconst (q := 51) dX9_years_50 (am_okd rfl) rfl ?_
        refine rn_cmpge (t := 62) (q := 54) dX9_years_51 rfl rfl (fun w51 => ?_) (fun w51 => ?_)
        · refine rn_iload (x := (drA u 4 : Int)) (q := 64) dX9_years_62 rfl rfl ?_
          refine rn_iconst (q := 65) dX9_years_64 (am_okd rfl) rfl ?_
          refine rn_cmplt (t := 156) (q := 68) dX9_years_65 rfl rfl (fun w65 => ?_) (fun w65 => ?_)
          · refine rn_iincN (x := (i : Int)) (z := ((i + 1 : Nat) : Int)) (ls' := [some (.inr (.inr 96)), some (.inl v), some (.inl n), some (.inl ((i + 1 : Nat) : Int)), some (.inl (drA u 4 : Int)), y2, y3]) (q := 159) dX9_years_156 rfl (by decide) (by omega) (by unfold am_ok; omega) rfl rfl ?_
            refine rn_goto (t := 36) dX9_years_159 rfl ?_
            first | (exfalso; omega) | (rw [if_pos (by omega)] at ih2; exact ih2 (by omega) _ _ _ _ hd59 he59 ((hf.up rfl).tr hf59)) | (rw [if_neg (by omega), if_pos (by omega)] at ih2; exact ih2 (by omega) _ _ _ _ rfl (hE.kept rfl) (hf.up rfl)) | (rw [if_neg (by omega), if_neg (by omega), if_pos (by omega)] at ih2; exact ih2 (by omega) _ _ _ _ rfl (turn_est (m1 := am_up (am_up m 95 46 (nxD u)) 95 46 (nxD (nxD u))) (hE.kept rfl) (lh (by omega)) b.1) (((hf.up rfl).up rfl).tr (fr_9x (fun b2 hb => am_up_ne hb)))) | (unfold humX at ih2; rw [if_neg (by omega), if_neg (by omega), if_neg (by omega), if_neg (by omega)] at ih2; exact ih2 (by omega) _ _ _ _ rfl (hE.kept rfl) (((hf.up rfl).up rfl).up rfl)) | (unfold humX at ih2; rw [if_neg (by omega), if_neg (by omega), if_neg (by omega), if_pos (by omega)] at ih2; exact ih2 (by omega) _ _ _ _ (congrFun (hf153 95 (by decide)) 46) he153 ((((hf.up rfl).up rfl).up rfl).tr (fr_9x hf153)))
          · refine rn_aload_n (x := 95) (q := 69) dX9_years_68 rfl rfl ?_
            refine rn_get (a := 95) (v := .inl (h.1 : Int)) (q := 72) dX9_years_69 fl_X9_113 rfl (am_gi (hqm.kept (frS.up (a := 95) (k := 46) (x := nxD u) frS.rf rfl)).n) rfl ?_
            refine rn_ifne (t := 78) (q := 75) dX9_years_72 rfl rfl (fun w72 => ?_) (fun w72 => ?_)
            · refine rn_aload_n (x := 95) (q := 79) dX9_years_78 rfl rfl ?_
              refine rn_aload_n (x := 95) (q := 80) dX9_years_79 rfl rfl ?_
              refine rn_get (a := 95) (v := .inl (h.1 : Int)) (q := 83) dX9_years_80 fl_X9_113 rfl (am_gi (hqm.kept (frS.up (a := 95) (k := 46) (x := nxD u) frS.rf rfl)).n) rfl ?_
              refine rn_callV (b := 95) (as := [.inl (h.1 : Int)]) (rest := []) (q := 86) dX9_years_83 ml_X9_394 sm_X9_draw rfl rfl (by decide) (by omega) rfl rfl (Nat.le_of_ble_eq_true rfl) rfl (m_draw (d := d + 179) (nxD u) (by first | rfl | (exfalso; omega)) h.1 (by omega) (by omega)) ?_
              intro r83 mem83 hq83
              obtain ⟨rfl, rfl⟩ := hq83
              show am_Rn l G _ _ 86 [some (.inr (.inr 96)), some (.inl v), some (.inl n), some (.inl (i : Int)), some (.inl (drA u 4 : Int)), y2, y3] [.inl (drA (nxD u) h.1 : Int)] (am_up (am_up m 95 46 (nxD u)) 95 46 (nxD (nxD u))) _
              refine rn_istore (ls' := [some (.inr (.inr 96)), some (.inl v), some (.inl n), some (.inl (i : Int)), some (.inl (drA u 4 : Int)), some (.inl (drA (nxD u) h.1 : Int)), y3]) (q := 88) dX9_years_86 (by decide) rfl rfl ?_
              refine rn_iload (x := (drA u 4 : Int)) (q := 90) dX9_years_88 rfl rfl ?_
              refine rn_iconst (q := 91) dX9_years_90 (am_okd rfl) rfl ?_
              refine rn_cmpne (t := 119) (q := 94) dX9_years_91 rfl rfl (fun w91 => ?_) (fun w91 => ?_)
              · refine rn_iconst (q := 120) dX9_years_119 (am_okd rfl) rfl ?_
                refine rn_aload_n (x := 95) (q := 121) dX9_years_120 rfl rfl ?_
                refine rn_bipush (q := 123) dX9_years_121 ⟨by decide, by decide⟩ rfl ?_
                refine rn_callV (b := 95) (as := [.inl 9]) (rest := [.inl 1]) (q := 126) dX9_years_123 ml_X9_394 sm_X9_draw rfl rfl (by decide) (by omega) rfl rfl (Nat.le_of_ble_eq_true rfl) rfl (m_draw (d := d + 179) (nxD (nxD u)) rfl 9 (by decide) (by decide)) ?_
                intro r123 mem123 hq123
                obtain ⟨rfl, rfl⟩ := hq123
                show am_Rn l G _ _ 126 [some (.inr (.inr 96)), some (.inl v), some (.inl n), some (.inl (i : Int)), some (.inl (drA u 4 : Int)), some (.inl (drA (nxD u) h.1 : Int)), y3] [.inl (drA (nxD (nxD u)) 9 : Int), .inl 1] (am_up (am_up (am_up m 95 46 (nxD u)) 95 46 (nxD (nxD u))) 95 46 (nxD (nxD (nxD u)))) _
                refine rn_iaddN (z := ((drA (nxD (nxD u)) 9 + 1 : Nat) : Int)) (q := 127) dX9_years_126 (by omega) (by unfold am_ok; omega) rfl ?_
                refine rn_istore (ls' := [some (.inr (.inr 96)), some (.inl v), some (.inl n), some (.inl (i : Int)), some (.inl (drA u 4 : Int)), some (.inl (drA (nxD u) h.1 : Int)), some (.inl ((drA (nxD (nxD u)) 9 + 1 : Nat) : Int))]) (q := 129) dX9_years_127 (by decide) rfl rfl ?_
                refine rn_aload_n (x := 95) (q := 130) dX9_years_129 rfl rfl ?_
                refine rn_aload_n (x := 95) (q := 131) dX9_years_130 rfl rfl ?_
                refine rn_get (a := 95) (v := .inr (.inr 110)) (q := 134) dX9_years_131 fl_X9_55 rfl rfl rfl ?_
                refine rn_iload (x := (drA (nxD u) h.1 : Int)) (q := 136) dX9_years_134 rfl rfl ?_
                refine rn_iload (x := ((drA (nxD (nxD u)) 9 + 1 : Nat) : Int)) (q := 138) dX9_years_136 rfl rfl ?_
                refine rn_callV (b := 95) (as := [.inr (.inr 110), .inl (drA (nxD u) h.1 : Int), .inl ((drA (nxD (nxD u)) 9 + 1 : Nat) : Int)]) (rest := []) (q := 141) dX9_years_138 ml_X9_279 sm_X9_refusesHum rfl rfl (by decide) (by omega) rfl rfl (Nat.le_of_ble_eq_true rfl) rfl (m_refHumT (d := d + 177) (hqm.kept (frS.up (a := 95) (k := 46) (x := nxD (nxD (nxD u))) (frS.up (a := 95) (k := 46) (x := nxD (nxD u)) (frS.up (a := 95) (k := 46) (x := nxD u) frS.rf rfl) rfl) rfl)) (e2 := w) (by first | exact hE.kept rfl | (exfalso; omega)) wB (drA (nxD u) h.1) (lh (by omega)) (drA (nxD (nxD u)) 9 + 1) (by omega) (by omega)) ?_
                intro r138 mem138 hq138
                obtain ⟨x, rfl, rfl, hx⟩ := hq138
                show am_Rn l G _ _ 141 [some (.inr (.inr 96)), some (.inl v), some (.inl n), some (.inl (i : Int)), some (.inl (drA u 4 : Int)), some (.inl (drA (nxD u) h.1 : Int)), some (.inl ((drA (nxD (nxD u)) 9 + 1 : Nat) : Int))] [.inl x] (am_up (am_up (am_up m 95 46 (nxD u)) 95 46 (nxD (nxD u))) 95 46 (nxD (nxD (nxD u)))) _
                refine rn_ifne (t := 156) (q := 144) dX9_years_141 rfl rfl (fun w141 => ?_) (fun w141 => ?_)
                · refine rn_iincN (x := (i : Int)) (z := ((i + 1 : Nat) : Int)) (ls' := [some (.inr (.inr 96)), some (.inl v), some (.inl n), some (.inl ((i + 1 : Nat) : Int)), some (.inl (drA u 4 : Int)), some (.inl (drA (nxD u) h.1 : Int)), some (.inl ((drA (nxD (nxD u)) 9 + 1 : Nat) : Int))]) (q := 159) dX9_years_156 rfl (by decide) (by omega) (by unfold am_ok; omega) rfl rfl ?_
                  refine rn_goto (t := 36) dX9_years_159 rfl ?_
                  first | (exfalso; omega) | (rw [if_pos (by omega)] at ih2; exact ih2 (by omega) _ _ _ _ hd59 he59 ((hf.up rfl).tr hf59)) | (rw [if_neg (by omega), if_pos (by omega)] at ih2; exact ih2 (by omega) _ _ _ _ rfl (hE.kept rfl) (hf.up rfl)) | (rw [if_neg (by omega), if_neg (by omega), if_pos (by omega)] at ih2; exact ih2 (by omega) _ _ _ _ rfl (turn_est (m1 := am_up (am_up m 95 46 (nxD u)) 95 46 (nxD (nxD u))) (hE.kept rfl) (lh (by omega)) b.1) (((hf.up rfl).up rfl).tr (fr_9x (fun b2 hb => am_up_ne hb)))) | (unfold humX at ih2; rw [if_neg (by omega), if_neg (by omega), if_neg (by omega), if_neg (by omega)] at ih2; exact ih2 (by omega) _ _ _ _ rfl (hE.kept rfl) (((hf.up rfl).up rfl).up rfl)) | (unfold humX at ih2; rw [if_neg (by omega), if_neg (by omega), if_neg (by omega), if_pos (by omega)] at ih2; exact ih2 (by omega) _ _ _ _ (congrFun (hf153 95 (by decide)) 46) he153 ((((hf.up rfl).up rfl).up rfl).tr (fr_9x hf153)))
                · refine rn_aload_n (x := 95) (q := 145) dX9_years_144 rfl rfl ?_
                  refine rn_aload_n (x := 95) (q := 146) dX9_years_145 rfl rfl ?_
                  refine rn_get (a := 95) (v := .inr (.inr 110)) (q := 149) dX9_years_146 fl_X9_55 rfl rfl rfl ?_
                  refine rn_iload (x := (drA (nxD u) h.1 : Int)) (q := 151) dX9_years_149 rfl rfl ?_
                  refine rn_iload (x := ((drA (nxD (nxD u)) 9 + 1 : Nat) : Int)) (q := 153) dX9_years_151 rfl rfl ?_
                  refine rn_callV (b := 95) (as := [.inr (.inr 110), .inl (drA (nxD u) h.1 : Int), .inl ((drA (nxD (nxD u)) 9 + 1 : Nat) : Int)]) (rest := []) (q := 156) dX9_years_153 ml_X9_283 sm_X9_goHum rfl rfl (by decide) (by omega) rfl rfl (Nat.le_of_ble_eq_true rfl) rfl (m_goHumT (d := d + 178) ((hqm.kept (frS.up (a := 95) (k := 46) (x := nxD (nxD (nxD u))) (frS.up (a := 95) (k := 46) (x := nxD (nxD u)) (frS.up (a := 95) (k := 46) (x := nxD u) frS.rf rfl) rfl) rfl)).upN (NB2 := NB + i) (by omega) (by omega)) hy (by first | exact hE.kept rfl | (exfalso; omega)) (drA (nxD u) h.1) (drA (nxD (nxD u)) 9 + 1) (lh (by omega)) (by omega) (by omega)) ?_
                  intro r153 mem153 hq153
                  obtain ⟨rfl, he153, hf153⟩ := hq153
                  show am_Rn l G _ _ 156 [some (.inr (.inr 96)), some (.inl v), some (.inl n), some (.inl (i : Int)), some (.inl (drA u 4 : Int)), some (.inl (drA (nxD u) h.1 : Int)), some (.inl ((drA (nxD (nxD u)) 9 + 1 : Nat) : Int))] [] mem153 _
                  refine rn_iincN (x := (i : Int)) (z := ((i + 1 : Nat) : Int)) (ls' := [some (.inr (.inr 96)), some (.inl v), some (.inl n), some (.inl ((i + 1 : Nat) : Int)), some (.inl (drA u 4 : Int)), some (.inl (drA (nxD u) h.1 : Int)), some (.inl ((drA (nxD (nxD u)) 9 + 1 : Nat) : Int))]) (q := 159) dX9_years_156 rfl (by decide) (by omega) (by unfold am_ok; omega) rfl rfl ?_
                  refine rn_goto (t := 36) dX9_years_159 rfl ?_
                  first | (exfalso; omega) | (rw [if_pos (by omega)] at ih2; exact ih2 (by omega) _ _ _ _ hd59 he59 ((hf.up rfl).tr hf59)) | (rw [if_neg (by omega), if_pos (by omega)] at ih2; exact ih2 (by omega) _ _ _ _ rfl (hE.kept rfl) (hf.up rfl)) | (rw [if_neg (by omega), if_neg (by omega), if_pos (by omega)] at ih2; exact ih2 (by omega) _ _ _ _ rfl (turn_est (m1 := am_up (am_up m 95 46 (nxD u)) 95 46 (nxD (nxD u))) (hE.kept rfl) (lh (by omega)) b.1) (((hf.up rfl).up rfl).tr (fr_9x (fun b2 hb => am_up_ne hb)))) | (unfold humX at ih2; rw [if_neg (by omega), if_neg (by omega), if_neg (by omega), if_neg (by omega)] at ih2; exact ih2 (by omega) _ _ _ _ rfl (hE.kept rfl) (((hf.up rfl).up rfl).up rfl)) | (unfold humX at ih2; rw [if_neg (by omega), if_neg (by omega), if_neg (by omega), if_pos (by omega)] at ih2; exact ih2 (by omega) _ _ _ _ (congrFun (hf153 95 (by decide)) 46) he153 ((((hf.up rfl).up rfl).up rfl).tr (fr_9x hf153)))
              · refine rn_aload_n (x := 95) (q := 95) dX9_years_94 rfl rfl ?_
                refine rn_get (a := 95) (v := .inr (.inr 110)) (q := 98) dX9_years_95 fl_X9_55 rfl rfl rfl ?_
                refine rn_bipush (q := 100) dX9_years_98 ⟨by decide, by decide⟩ rfl ?_
                refine rn_iload (x := (drA (nxD u) h.1 : Int)) (q := 102) dX9_years_100 rfl rfl ?_
                refine rn_iaddN (z := ((16 + (drA (nxD u) h.1) : Nat) : Int)) (q := 103) dX9_years_102 (by omega) (by unfold am_ok; omega) rfl ?_
                refine rn_iconst (q := 104) dX9_years_103 (am_okd rfl) rfl ?_
                refine rn_aload_n (x := 95) (q := 105) dX9_years_104 rfl rfl ?_
                refine rn_get (a := 95) (v := .inr (.inr 110)) (q := 108) dX9_years_105 fl_X9_55 rfl rfl rfl ?_
                refine rn_bipush (q := 110) dX9_years_108 ⟨by decide, by decide⟩ rfl ?_
                refine rn_iload (x := (drA (nxD u) h.1 : Int)) (q := 112) dX9_years_110 rfl rfl ?_
                refine rn_iaddN (z := ((16 + (drA (nxD u) h.1) : Nat) : Int)) (q := 113) dX9_years_112 (by omega) (by unfold am_ok; omega) rfl ?_
                refine rn_ialdV (a := 109) (v := (if (eP w).testBit (drA (nxD u) h.1) then 1 else 0)) (q := 114) dX9_years_113 rfl (by omega) (by omega) (by first | exact hE.a.2.2.1 _ (by omega) | (exfalso; omega)) rfl ?_
                refine rn_isubN (z := (1 - if (eP w).testBit (drA (nxD u) h.1) then 1 else 0)) (q := 115) dX9_years_114 (by omega) (by unfold am_ok; omega) rfl ?_
                refine rn_iastV (a := 109) (m1 := am_up (am_up (am_up m 95 46 (nxD u)) 95 46 (nxD (nxD u))) 109 (16 + (drA (nxD u) h.1)) (1 - if (eP w).testBit (drA (nxD u) h.1) then 1 else 0)) (q := 116) dX9_years_115 rfl (by omega) (by omega) rfl rfl ?_
                refine rn_goto (t := 156) dX9_years_116 rfl ?_
                refine rn_iincN (x := (i : Int)) (z := ((i + 1 : Nat) : Int)) (ls' := [some (.inr (.inr 96)), some (.inl v), some (.inl n), some (.inl ((i + 1 : Nat) : Int)), some (.inl (drA u 4 : Int)), some (.inl (drA (nxD u) h.1 : Int)), y3]) (q := 159) dX9_years_156 rfl (by decide) (by omega) (by unfold am_ok; omega) rfl rfl ?_
                refine rn_goto (t := 36) dX9_years_159 rfl ?_
                first | (exfalso; omega) | (rw [if_pos (by omega)] at ih2; exact ih2 (by omega) _ _ _ _ hd59 he59 ((hf.up rfl).tr hf59)) | (rw [if_neg (by omega), if_pos (by omega)] at ih2; exact ih2 (by omega) _ _ _ _ rfl (hE.kept rfl) (hf.up rfl)) | (rw [if_neg (by omega), if_neg (by omega), if_pos (by omega)] at ih2; exact ih2 (by omega) _ _ _ _ rfl (turn_est (m1 := am_up (am_up m 95 46 (nxD u)) 95 46 (nxD (nxD u))) (hE.kept rfl) (lh (by omega)) b.1) (((hf.up rfl).up rfl).tr (fr_9x (fun b2 hb => am_up_ne hb)))) | (unfold humX at ih2; rw [if_neg (by omega), if_neg (by omega), if_neg (by omega), if_neg (by omega)] at ih2; exact ih2 (by omega) _ _ _ _ rfl (hE.kept rfl) (((hf.up rfl).up rfl).up rfl)) | (unfold humX at ih2; rw [if_neg (by omega), if_neg (by omega), if_neg (by omega), if_pos (by omega)] at ih2; exact ih2 (by omega) _ _ _ _ (congrFun (hf153 95 (by decide)) 46) he153 ((((hf.up rfl).up rfl).up rfl).tr (fr_9x hf153)))
            · refine rn_goto (t := 156) dX9_years_75 rfl ?_
              refine rn_iincN (x := (i : Int)) (z := ((i + 1 : Nat) : Int)) (ls' := [some (.inr (.inr 96)), some (.inl v), some (.inl n), some (.inl ((i + 1 : Nat) : Int)), some (.inl (drA u 4 : Int)), y2, y3]) (q := 159) dX9_years_156 rfl (by decide) (by omega) (by unfold am_ok; omega) rfl rfl ?_
              refine rn_goto (t := 36) dX9_years_159 rfl ?_
              first | (exfalso; omega) | (rw [if_pos (by omega)] at ih2; exact ih2 (by omega) _ _ _ _ hd59 he59 ((hf.up rfl).tr hf59)) | (rw [if_neg (by omega), if_pos (by omega)] at ih2; exact ih2 (by omega) _ _ _ _ rfl (hE.kept rfl) (hf.up rfl)) | (rw [if_neg (by omega), if_neg (by omega), if_pos (by omega)] at ih2; exact ih2 (by omega) _ _ _ _ rfl (turn_est (m1 := am_up (am_up m 95 46 (nxD u)) 95 46 (nxD (nxD u))) (hE.kept rfl) (lh (by omega)) b.1) (((hf.up rfl).up rfl).tr (fr_9x (fun b2 hb => am_up_ne hb)))) | (unfold humX at ih2; rw [if_neg (by omega), if_neg (by omega), if_neg (by omega), if_neg (by omega)] at ih2; exact ih2 (by omega) _ _ _ _ rfl (hE.kept rfl) (((hf.up rfl).up rfl).up rfl)) | (unfold humX at ih2; rw [if_neg (by omega), if_neg (by omega), if_neg (by omega), if_pos (by omega)] at ih2; exact ih2 (by omega) _ _ _ _ (congrFun (hf153 95 (by decide)) 46) he153 ((((hf.up rfl).up rfl).up rfl).tr (fr_9x hf153)))
        · refine rn_aload_n (x := 95) (q := 55) dX9_years_54 rfl rfl ?_
          refine rn_aload_n (x := 95) (q := 56) dX9_years_55 rfl rfl ?_
          refine rn_get (a := 95) (v := .inr (.inr 110)) (q := 59) dX9_years_56 fl_X9_55 rfl rfl rfl ?_
          refine rn_callV (b := 95) (as := [.inr (.inr 110)]) (rest := []) (q := 62) dX9_years_59 ml_X9_265 sm_X9_goNight rfl rfl (by decide) (by omega) rfl rfl (Nat.le_of_ble_eq_true rfl) rfl (m_goNightY (d := d + 1) (hqm.kept (frS.up (a := 95) (k := 46) (x := nxD u) frS.rf rfl)) (k := i) (by omega) hy (hE.kept rfl)) ?_
          intro r59 mem59 hq59
          obtain ⟨rfl, he59, hd59, hf59⟩ := hq59
          show am_Rn l G _ _ 62 [some (.inr (.inr 96)), some (.inl v), some (.inl n), some (.inl (i : Int)), some (.inl (drA u 4 : Int)), y2, y3] [] mem59 _
          refine rn_iload (x := (drA u 4 : Int)) (q := 64) dX9_years_62 rfl rfl ?_
          refine rn_iconst (q := 65) dX9_years_64 (am_okd rfl) rfl ?_
          refine rn_cmplt (t := 156) (q := 68) dX9_years_65 rfl rfl (fun w65 => ?_) (fun w65 => ?_)
          · refine rn_iincN (x := (i : Int)) (z := ((i + 1 : Nat) : Int)) (ls' := [some (.inr (.inr 96)), some (.inl v), some (.inl n), some (.inl ((i + 1 : Nat) : Int)), some (.inl (drA u 4 : Int)), y2, y3]) (q := 159) dX9_years_156 rfl (by decide) (by omega) (by unfold am_ok; omega) rfl rfl ?_
            refine rn_goto (t := 36) dX9_years_159 rfl ?_
            first | (exfalso; omega) | (rw [if_pos (by omega)] at ih2; exact ih2 (by omega) _ _ _ _ hd59 he59 ((hf.up rfl).tr hf59)) | (rw [if_neg (by omega), if_pos (by omega)] at ih2; exact ih2 (by omega) _ _ _ _ rfl (hE.kept rfl) (hf.up rfl)) | (rw [if_neg (by omega), if_neg (by omega), if_pos (by omega)] at ih2; exact ih2 (by omega) _ _ _ _ rfl (turn_est (m1 := am_up (am_up m 95 46 (nxD u)) 95 46 (nxD (nxD u))) (hE.kept rfl) (lh (by omega)) b.1) (((hf.up rfl).up rfl).tr (fr_9x (fun b2 hb => am_up_ne hb)))) | (unfold humX at ih2; rw [if_neg (by omega), if_neg (by omega), if_neg (by omega), if_neg (by omega)] at ih2; exact ih2 (by omega) _ _ _ _ rfl (hE.kept rfl) (((hf.up rfl).up rfl).up rfl)) | (unfold humX at ih2; rw [if_neg (by omega), if_neg (by omega), if_neg (by omega), if_pos (by omega)] at ih2; exact ih2 (by omega) _ _ _ _ (congrFun (hf153 95 (by decide)) 46) he153 ((((hf.up rfl).up rfl).up rfl).tr (fr_9x hf153)))
          · refine rn_aload_n (x := 95) (q := 69) dX9_years_68 rfl rfl ?_
            refine rn_get (a := 95) (v := .inl (h.1 : Int)) (q := 72) dX9_years_69 fl_X9_113 rfl (am_gi (hqm.kept ((frS.up (a := 95) (k := 46) (x := nxD u) frS.rf rfl).tr (hf59.r9))).n) rfl ?_
            refine rn_ifne (t := 78) (q := 75) dX9_years_72 rfl rfl (fun w72 => ?_) (fun w72 => ?_)
            · refine rn_aload_n (x := 95) (q := 79) dX9_years_78 rfl rfl ?_
              refine rn_aload_n (x := 95) (q := 80) dX9_years_79 rfl rfl ?_
              refine rn_get (a := 95) (v := .inl (h.1 : Int)) (q := 83) dX9_years_80 fl_X9_113 rfl (am_gi (hqm.kept ((frS.up (a := 95) (k := 46) (x := nxD u) frS.rf rfl).tr (hf59.r9))).n) rfl ?_
              refine rn_callV (b := 95) (as := [.inl (h.1 : Int)]) (rest := []) (q := 86) dX9_years_83 ml_X9_394 sm_X9_draw rfl rfl (by decide) (by omega) rfl rfl (Nat.le_of_ble_eq_true rfl) rfl (m_draw (d := d + 179) (nxD u) (by first | rfl | (exfalso; omega)) h.1 (by omega) (by omega)) ?_
              intro r83 mem83 hq83
              obtain ⟨rfl, rfl⟩ := hq83
              show am_Rn l G _ _ 86 [some (.inr (.inr 96)), some (.inl v), some (.inl n), some (.inl (i : Int)), some (.inl (drA u 4 : Int)), y2, y3] [.inl (drA (nxD u) h.1 : Int)] (am_up mem59 95 46 (nxD (nxD u))) _
              refine rn_istore (ls' := [some (.inr (.inr 96)), some (.inl v), some (.inl n), some (.inl (i : Int)), some (.inl (drA u 4 : Int)), some (.inl (drA (nxD u) h.1 : Int)), y3]) (q := 88) dX9_years_86 (by decide) rfl rfl ?_
              refine rn_iload (x := (drA u 4 : Int)) (q := 90) dX9_years_88 rfl rfl ?_
              refine rn_iconst (q := 91) dX9_years_90 (am_okd rfl) rfl ?_
              refine rn_cmpne (t := 119) (q := 94) dX9_years_91 rfl rfl (fun w91 => ?_) (fun w91 => ?_)
              · refine rn_iconst (q := 120) dX9_years_119 (am_okd rfl) rfl ?_
                refine rn_aload_n (x := 95) (q := 121) dX9_years_120 rfl rfl ?_
                refine rn_bipush (q := 123) dX9_years_121 ⟨by decide, by decide⟩ rfl ?_
                refine rn_callV (b := 95) (as := [.inl 9]) (rest := [.inl 1]) (q := 126) dX9_years_123 ml_X9_394 sm_X9_draw rfl rfl (by decide) (by omega) rfl rfl (Nat.le_of_ble_eq_true rfl) rfl (m_draw (d := d + 179) (nxD (nxD u)) rfl 9 (by decide) (by decide)) ?_
                intro r123 mem123 hq123
                obtain ⟨rfl, rfl⟩ := hq123
                show am_Rn l G _ _ 126 [some (.inr (.inr 96)), some (.inl v), some (.inl n), some (.inl (i : Int)), some (.inl (drA u 4 : Int)), some (.inl (drA (nxD u) h.1 : Int)), y3] [.inl (drA (nxD (nxD u)) 9 : Int), .inl 1] (am_up (am_up mem59 95 46 (nxD (nxD u))) 95 46 (nxD (nxD (nxD u)))) _
                refine rn_iaddN (z := ((drA (nxD (nxD u)) 9 + 1 : Nat) : Int)) (q := 127) dX9_years_126 (by omega) (by unfold am_ok; omega) rfl ?_
                refine rn_istore (ls' := [some (.inr (.inr 96)), some (.inl v), some (.inl n), some (.inl (i : Int)), some (.inl (drA u 4 : Int)), some (.inl (drA (nxD u) h.1 : Int)), some (.inl ((drA (nxD (nxD u)) 9 + 1 : Nat) : Int))]) (q := 129) dX9_years_127 (by decide) rfl rfl ?_
                refine rn_aload_n (x := 95) (q := 130) dX9_years_129 rfl rfl ?_
                refine rn_aload_n (x := 95) (q := 131) dX9_years_130 rfl rfl ?_
                refine rn_get (a := 95) (v := .inr (.inr 110)) (q := 134) dX9_years_131 fl_X9_55 rfl rfl rfl ?_
                refine rn_iload (x := (drA (nxD u) h.1 : Int)) (q := 136) dX9_years_134 rfl rfl ?_
                refine rn_iload (x := ((drA (nxD (nxD u)) 9 + 1 : Nat) : Int)) (q := 138) dX9_years_136 rfl rfl ?_
                refine rn_callV (b := 95) (as := [.inr (.inr 110), .inl (drA (nxD u) h.1 : Int), .inl ((drA (nxD (nxD u)) 9 + 1 : Nat) : Int)]) (rest := []) (q := 141) dX9_years_138 ml_X9_279 sm_X9_refusesHum rfl rfl (by decide) (by omega) rfl rfl (Nat.le_of_ble_eq_true rfl) rfl (m_refHumT (d := d + 177) (hqm.kept (frS.up (a := 95) (k := 46) (x := nxD (nxD (nxD u))) (frS.up (a := 95) (k := 46) (x := nxD (nxD u)) ((frS.up (a := 95) (k := 46) (x := nxD u) frS.rf rfl).tr (hf59.r9)) rfl) rfl)) (e2 := w) (by first | exact hE.kept rfl | (exfalso; omega)) wB (drA (nxD u) h.1) (lh (by omega)) (drA (nxD (nxD u)) 9 + 1) (by omega) (by omega)) ?_
                intro r138 mem138 hq138
                obtain ⟨x, rfl, rfl, hx⟩ := hq138
                show am_Rn l G _ _ 141 [some (.inr (.inr 96)), some (.inl v), some (.inl n), some (.inl (i : Int)), some (.inl (drA u 4 : Int)), some (.inl (drA (nxD u) h.1 : Int)), some (.inl ((drA (nxD (nxD u)) 9 + 1 : Nat) : Int))] [.inl x] (am_up (am_up mem59 95 46 (nxD (nxD u))) 95 46 (nxD (nxD (nxD u)))) _
                refine rn_ifne (t := 156) (q := 144) dX9_years_141 rfl rfl (fun w141 => ?_) (fun w141 => ?_)
                · refine rn_iincN (x := (i : Int)) (z := ((i + 1 : Nat) : Int)) (ls' := [some (.inr (.inr 96)), some (.inl v), some (.inl n), some (.inl ((i + 1 : Nat) : Int)), some (.inl (drA u 4 : Int)), some (.inl (drA (nxD u) h.1 : Int)), some (.inl ((drA (nxD (nxD u)) 9 + 1 : Nat) : Int))]) (q := 159) dX9_years_156 rfl (by decide) (by omega) (by unfold am_ok; omega) rfl rfl ?_
                  refine rn_goto (t := 36) dX9_years_159 rfl ?_
                  first | (exfalso; omega) | (rw [if_pos (by omega)] at ih2; exact ih2 (by omega) _ _ _ _ hd59 he59 ((hf.up rfl).tr hf59)) | (rw [if_neg (by omega), if_pos (by omega)] at ih2; exact ih2 (by omega) _ _ _ _ rfl (hE.kept rfl) (hf.up rfl)) | (rw [if_neg (by omega), if_neg (by omega), if_pos (by omega)] at ih2; exact ih2 (by omega) _ _ _ _ rfl (turn_est (m1 := am_up (am_up m 95 46 (nxD u)) 95 46 (nxD (nxD u))) (hE.kept rfl) (lh (by omega)) b.1) (((hf.up rfl).up rfl).tr (fr_9x (fun b2 hb => am_up_ne hb)))) | (unfold humX at ih2; rw [if_neg (by omega), if_neg (by omega), if_neg (by omega), if_neg (by omega)] at ih2; exact ih2 (by omega) _ _ _ _ rfl (hE.kept rfl) (((hf.up rfl).up rfl).up rfl)) | (unfold humX at ih2; rw [if_neg (by omega), if_neg (by omega), if_neg (by omega), if_pos (by omega)] at ih2; exact ih2 (by omega) _ _ _ _ (congrFun (hf153 95 (by decide)) 46) he153 ((((hf.up rfl).up rfl).up rfl).tr (fr_9x hf153)))
                · refine rn_aload_n (x := 95) (q := 145) dX9_years_144 rfl rfl ?_
                  refine rn_aload_n (x := 95) (q := 146) dX9_years_145 rfl rfl ?_
                  refine rn_get (a := 95) (v := .inr (.inr 110)) (q := 149) dX9_years_146 fl_X9_55 rfl rfl rfl ?_
                  refine rn_iload (x := (drA (nxD u) h.1 : Int)) (q := 151) dX9_years_149 rfl rfl ?_
                  refine rn_iload (x := ((drA (nxD (nxD u)) 9 + 1 : Nat) : Int)) (q := 153) dX9_years_151 rfl rfl ?_
                  refine rn_callV (b := 95) (as := [.inr (.inr 110), .inl (drA (nxD u) h.1 : Int), .inl ((drA (nxD (nxD u)) 9 + 1 : Nat) : Int)]) (rest := []) (q := 156) dX9_years_153 ml_X9_283 sm_X9_goHum rfl rfl (by decide) (by omega) rfl rfl (Nat.le_of_ble_eq_true rfl) rfl (m_goHumT (d := d + 178) ((hqm.kept (frS.up (a := 95) (k := 46) (x := nxD (nxD (nxD u))) (frS.up (a := 95) (k := 46) (x := nxD (nxD u)) ((frS.up (a := 95) (k := 46) (x := nxD u) frS.rf rfl).tr (hf59.r9)) rfl) rfl)).upN (NB2 := NB + i) (by omega) (by omega)) hy (by first | exact hE.kept rfl | (exfalso; omega)) (drA (nxD u) h.1) (drA (nxD (nxD u)) 9 + 1) (lh (by omega)) (by omega) (by omega)) ?_
                  intro r153 mem153 hq153
                  obtain ⟨rfl, he153, hf153⟩ := hq153
                  show am_Rn l G _ _ 156 [some (.inr (.inr 96)), some (.inl v), some (.inl n), some (.inl (i : Int)), some (.inl (drA u 4 : Int)), some (.inl (drA (nxD u) h.1 : Int)), some (.inl ((drA (nxD (nxD u)) 9 + 1 : Nat) : Int))] [] mem153 _
                  refine rn_iincN (x := (i : Int)) (z := ((i + 1 : Nat) : Int)) (ls' := [some (.inr (.inr 96)), some (.inl v), some (.inl n), some (.inl ((i + 1 : Nat) : Int)), some (.inl (drA u 4 : Int)), some (.inl (drA (nxD u) h.1 : Int)), some (.inl ((drA (nxD (nxD u)) 9 + 1 : Nat) : Int))]) (q := 159) dX9_years_156 rfl (by decide) (by omega) (by unfold am_ok; omega) rfl rfl ?_
                  refine rn_goto (t := 36) dX9_years_159 rfl ?_
                  first | (exfalso; omega) | (rw [if_pos (by omega)] at ih2; exact ih2 (by omega) _ _ _ _ hd59 he59 ((hf.up rfl).tr hf59)) | (rw [if_neg (by omega), if_pos (by omega)] at ih2; exact ih2 (by omega) _ _ _ _ rfl (hE.kept rfl) (hf.up rfl)) | (rw [if_neg (by omega), if_neg (by omega), if_pos (by omega)] at ih2; exact ih2 (by omega) _ _ _ _ rfl (turn_est (m1 := am_up (am_up m 95 46 (nxD u)) 95 46 (nxD (nxD u))) (hE.kept rfl) (lh (by omega)) b.1) (((hf.up rfl).up rfl).tr (fr_9x (fun b2 hb => am_up_ne hb)))) | (unfold humX at ih2; rw [if_neg (by omega), if_neg (by omega), if_neg (by omega), if_neg (by omega)] at ih2; exact ih2 (by omega) _ _ _ _ rfl (hE.kept rfl) (((hf.up rfl).up rfl).up rfl)) | (unfold humX at ih2; rw [if_neg (by omega), if_neg (by omega), if_neg (by omega), if_pos (by omega)] at ih2; exact ih2 (by omega) _ _ _ _ (congrFun (hf153 95 (by decide)) 46) he153 ((((hf.up rfl).up rfl).up rfl).tr (fr_9x hf153)))
              · refine rn_aload_n (x := 95) (q := 95) dX9_years_94 rfl rfl ?_
                refine rn_get (a := 95) (v := .inr (.inr 110)) (q := 98) dX9_years_95 fl_X9_55 rfl rfl rfl ?_
                refine rn_bipush (q := 100) dX9_years_98 ⟨by decide, by decide⟩ rfl ?_
                refine rn_iload (x := (drA (nxD u) h.1 : Int)) (q := 102) dX9_years_100 rfl rfl ?_
                refine rn_iaddN (z := ((16 + (drA (nxD u) h.1) : Nat) : Int)) (q := 103) dX9_years_102 (by omega) (by unfold am_ok; omega) rfl ?_
                refine rn_iconst (q := 104) dX9_years_103 (am_okd rfl) rfl ?_
                refine rn_aload_n (x := 95) (q := 105) dX9_years_104 rfl rfl ?_
                refine rn_get (a := 95) (v := .inr (.inr 110)) (q := 108) dX9_years_105 fl_X9_55 rfl rfl rfl ?_
                refine rn_bipush (q := 110) dX9_years_108 ⟨by decide, by decide⟩ rfl ?_
                refine rn_iload (x := (drA (nxD u) h.1 : Int)) (q := 112) dX9_years_110 rfl rfl ?_
                refine rn_iaddN (z := ((16 + (drA (nxD u) h.1) : Nat) : Int)) (q := 113) dX9_years_112 (by omega) (by unfold am_ok; omega) rfl ?_
                refine rn_ialdV (a := 109) (v := (if (eP w).testBit (drA (nxD u) h.1) then 1 else 0)) (q := 114) dX9_years_113 rfl (by omega) (by omega) (by first | exact hE.a.2.2.1 _ (by omega) | (exfalso; omega)) rfl ?_
                refine rn_isubN (z := (1 - if (eP w).testBit (drA (nxD u) h.1) then 1 else 0)) (q := 115) dX9_years_114 (by omega) (by unfold am_ok; omega) rfl ?_
                refine rn_iastV (a := 109) (m1 := am_up (am_up mem59 95 46 (nxD (nxD u))) 109 (16 + (drA (nxD u) h.1)) (1 - if (eP w).testBit (drA (nxD u) h.1) then 1 else 0)) (q := 116) dX9_years_115 rfl (by omega) (by omega) rfl rfl ?_
                refine rn_goto (t := 156) dX9_years_116 rfl ?_
                refine rn_iincN (x := (i : Int)) (z := ((i + 1 : Nat) : Int)) (ls' := [some (.inr (.inr 96)), some (.inl v), some (.inl n), some (.inl ((i + 1 : Nat) : Int)), some (.inl (drA u 4 : Int)), some (.inl (drA (nxD u) h.1 : Int)), y3]) (q := 159) dX9_years_156 rfl (by decide) (by omega) (by unfold am_ok; omega) rfl rfl ?_
                refine rn_goto (t := 36) dX9_years_159 rfl ?_
                first | (exfalso; omega) | (rw [if_pos (by omega)] at ih2; exact ih2 (by omega) _ _ _ _ hd59 he59 ((hf.up rfl).tr hf59)) | (rw [if_neg (by omega), if_pos (by omega)] at ih2; exact ih2 (by omega) _ _ _ _ rfl (hE.kept rfl) (hf.up rfl)) | (rw [if_neg (by omega), if_neg (by omega), if_pos (by omega)] at ih2; exact ih2 (by omega) _ _ _ _ rfl (turn_est (m1 := am_up (am_up m 95 46 (nxD u)) 95 46 (nxD (nxD u))) (hE.kept rfl) (lh (by omega)) b.1) (((hf.up rfl).up rfl).tr (fr_9x (fun b2 hb => am_up_ne hb)))) | (unfold humX at ih2; rw [if_neg (by omega), if_neg (by omega), if_neg (by omega), if_neg (by omega)] at ih2; exact ih2 (by omega) _ _ _ _ rfl (hE.kept rfl) (((hf.up rfl).up rfl).up rfl)) | (unfold humX at ih2; rw [if_neg (by omega), if_neg (by omega), if_neg (by omega), if_pos (by omega)] at ih2; exact ih2 (by omega) _ _ _ _ (congrFun (hf153 95 (by decide)) 46) he153 ((((hf.up rfl).up rfl).up rfl).tr (fr_9x hf153)))
            · refine rn_goto (t := 156) dX9_years_75 rfl ?_
              refine rn_iincN (x := (i : Int)) (z := ((i + 1 : Nat) : Int)) (ls' := [some (.inr (.inr 96)), some (.inl v), some (.inl n), some (.inl ((i + 1 : Nat) : Int)), some (.inl (drA u 4 : Int)), y2, y3]) (q := 159) dX9_years_156 rfl (by decide) (by omega) (by unfold am_ok; omega) rfl rfl ?_
              refine rn_goto (t := 36) dX9_years_159 rfl ?_
              first | (exfalso; omega) | (rw [if_pos (by omega)] at ih2; exact ih2 (by omega) _ _ _ _ hd59 he59 ((hf.up rfl).tr hf59)) | (rw [if_neg (by omega), if_pos (by omega)] at ih2; exact ih2 (by omega) _ _ _ _ rfl (hE.kept rfl) (hf.up rfl)) | (rw [if_neg (by omega), if_neg (by omega), if_pos (by omega)] at ih2; exact ih2 (by omega) _ _ _ _ rfl (turn_est (m1 := am_up (am_up m 95 46 (nxD u)) 95 46 (nxD (nxD u))) (hE.kept rfl) (lh (by omega)) b.1) (((hf.up rfl).up rfl).tr (fr_9x (fun b2 hb => am_up_ne hb)))) | (unfold humX at ih2; rw [if_neg (by omega), if_neg (by omega), if_neg (by omega), if_neg (by omega)] at ih2; exact ih2 (by omega) _ _ _ _ rfl (hE.kept rfl) (((hf.up rfl).up rfl).up rfl)) | (unfold humX at ih2; rw [if_neg (by omega), if_neg (by omega), if_neg (by omega), if_pos (by omega)] at ih2; exact ih2 (by omega) _ _ _ _ (congrFun (hf153 95 (by decide)) 46) he153 ((((hf.up rfl).up rfl).up rfl).tr (fr_9x hf153)))
    refine rn_aload_n (x := 95) (q := 1) dX9_years_0 rfl rfl ?_
    refine rn_iconst (q := 2) dX9_years_1 (am_okd rfl) rfl ?_
    refine rn_puti (a := 95) (q := 5) dX9_years_2 fl_X9_107 rfl rfl rfl rfl ?_
    refine rn_iload_n (x := n) (q := 6) dX9_years_5 rfl rfl ?_
    refine rn_iconst (q := 7) dX9_years_6 (am_okd rfl) rfl ?_
    refine rn_bipush (q := 9) dX9_years_7 ⟨by decide, by decide⟩ rfl ?_
    refine rn_callS (as := [.inl n, .inl 1, .inl 60]) (rest := []) (q := 12) dX9_years_9 ml_X9_116 sm_X9_in (by omega) rfl rfl (Nat.le_of_ble_eq_true rfl) rfl (s_in9 (d := d + 179) n 1 60) ?_
    intro r9 mem9 hq9
    obtain ⟨⟨rfl, hi9⟩ | ⟨rfl, hi9⟩, rfl⟩ := hq9
    · show am_Rn l G _ _ 12 [some (.inr (.inr 96)), some (.inl v), some (.inl n), none, none, none, none] [.inl 1] (am_up mem 95 11 0) _
      refine rn_ifne (t := 17) (q := 15) dX9_years_12 rfl rfl (fun w12 => ?_) (fun h => absurd h (by decide))
      refine rn_aload_n (x := 95) (q := 18) dX9_years_17 rfl rfl ?_
      refine rn_iload_n (x := v) (q := 19) dX9_years_18 rfl rfl ?_
      refine rn_puti (a := 95) (q := 22) dX9_years_19 fl_X9_390 rfl rfl rfl rfl ?_
      refine rn_aload_n (x := 95) (q := 23) dX9_years_22 rfl rfl ?_
      refine rn_get (a := 95) (v := .inr (.inr 97)) (q := 26) dX9_years_23 fl_X9_9 rfl rfl rfl ?_
      refine rn_aload_n (x := 95) (q := 27) dX9_years_26 rfl rfl ?_
      refine rn_get (a := 95) (v := .inr (.inr 110)) (q := 30) dX9_years_27 fl_X9_55 rfl rfl rfl ?_
      refine rn_iconst (q := 31) dX9_years_30 (am_okd rfl) rfl ?_
      refine rn_callS (as := [.inr (.inr 97), .inr (.inr 110), .inl 0]) (rest := []) (q := 34) dX9_years_31 ml_X9_248 sm_X9_lay (by omega) rfl rfl (Nat.le_of_ble_eq_true rfl) rfl (s_lay (d := d + 179) (f := 96) (t := 109) (nf := 29) (nt := 29) rfl rfl (by decide) 0 (by decide) (by decide) (by decide)) ?_
      intro r31 mem31 hq31
      obtain ⟨rfl, rfl⟩ := hq31
      show am_Rn l G _ _ 34 [some (.inr (.inr 96)), some (.inl v), some (.inl n), none, none, none, none] [] (am_cpy (am_up (am_up mem 95 11 0) 95 46 v) 96 0 109 0 29) _
      refine rn_iconst (q := 35) dX9_years_34 (am_okd rfl) rfl ?_
      refine rn_istore_n (ls' := [some (.inr (.inr 96)), some (.inl v), some (.inl n), some (.inl 0), none, none, none]) (q := 36) dX9_years_35 (by decide) rfl rfl ?_
      exact L 0 (Nat.zero_le _) _ none none none rfl (m_est.cpy (q.es.kept (m2 := am_up (am_up mem 95 11 0) 95 46 v) rfl)) (((frS.rf.up rfl).up rfl).tr (fr_9x (fun b2 hb => am_cpy_ne hb)))
    · show am_Rn l G _ _ 12 [some (.inr (.inr 96)), some (.inl v), some (.inl n), none, none, none, none] [.inl 0] (am_up mem 95 11 0) _
      refine rn_ifne (t := 17) (q := 15) dX9_years_12 rfl rfl (fun h => absurd h (by decide)) (fun w12 => ?_)
      refine rn_iconst (q := 16) dX9_years_15 (am_okd rfl) rfl ?_
      refine rn_iret dX9_years_16 rfl ?_
      exfalso; omega
  · refine rn_aload_n (x := 95) (q := 1) dX9_years_0 rfl rfl ?_
    refine rn_iconst (q := 2) dX9_years_1 (am_okd rfl) rfl ?_
    refine rn_puti (a := 95) (q := 5) dX9_years_2 fl_X9_107 rfl rfl rfl rfl ?_
    refine rn_iload_n (x := n) (q := 6) dX9_years_5 rfl rfl ?_
    refine rn_iconst (q := 7) dX9_years_6 (am_okd rfl) rfl ?_
    refine rn_bipush (q := 9) dX9_years_7 ⟨by decide, by decide⟩ rfl ?_
    refine rn_callS (as := [.inl n, .inl 1, .inl 60]) (rest := []) (q := 12) dX9_years_9 ml_X9_116 sm_X9_in (by omega) rfl rfl (Nat.le_of_ble_eq_true rfl) rfl (s_in9 (d := d + 179) n 1 60) ?_
    intro r9 mem9 hq9
    obtain ⟨⟨rfl, hi9⟩ | ⟨rfl, hi9⟩, rfl⟩ := hq9
    · show am_Rn l G _ _ 12 [some (.inr (.inr 96)), some (.inl v), some (.inl n), none, none, none, none] [.inl 1] (am_up mem 95 11 0) _
      refine rn_ifne (t := 17) (q := 15) dX9_years_12 rfl rfl (fun w12 => ?_) (fun h => absurd h (by decide))
      exfalso; omega
    · show am_Rn l G _ _ 12 [some (.inr (.inr 96)), some (.inl v), some (.inl n), none, none, none, none] [.inl 0] (am_up mem 95 11 0) _
      refine rn_ifne (t := 17) (q := 15) dX9_years_12 rfl rfl (fun h => absurd h (by decide)) (fun w12 => ?_)
      refine rn_iconst (q := 16) dX9_years_15 (am_okd rfl) rfl ?_
      refine rn_iret dX9_years_16 rfl ?_
      exact hQ _ _ ⟨fun _ => ⟨rfl, frS.rf.up rfl, hR⟩, fun z => absurd z hn⟩
end P90
