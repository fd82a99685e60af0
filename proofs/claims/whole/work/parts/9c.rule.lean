/-! rule and law -/
def rlV (T : List Nat) : Int := if T = [] then -1 else match ps (T.take 40) (fun _ => 0) 168 5 0 0 0 (-1) with
  | some r => wrF r.2.1 T.length r.2.2
  | none => -1
theorem ps_ex (T : List Nat) : ∃ r, ps (T.take 40) (fun _ => 0) 168 5 0 0 0 (-1) = some r := by
  have hl : (T.take 40).length = min 40 T.length := List.length_take
  exact ps_tot (T.take 40) (fun _ => 0) 168 5 0 0 0 (-1) (by decide) (Nat.zero_le _) (by show 4 * ((T.take 40).length - 0) + 4 ≤ 168; omega)
theorem rlV_nil : rlV [] = -1 := by unfold rlV; rw [if_pos rfl]
theorem rlV_r {T : List Nat} (h : T ≠ []) {r : Int × Nat × Int} (hr : ps (T.take 40) (fun _ => 0) 168 5 0 0 0 (-1) = some r) : rlV T = wrF r.2.1 T.length r.2.2 := by
  unfold rlV
  rw [if_neg h, hr]
theorem rlV_bd {T : List Nat} (hX : ∀ i, T.getD i 0 < 256) : -1 ≤ rlV T ∧ rlV T ≤ 40 ∧ (rlV T = -1 → T.length ≤ 40) := by
  by_cases h0 : T = []
  · subst h0; rw [rlV_nil]; exact ⟨by decide, by decide, fun _ => by decide⟩
  · obtain ⟨r, hr⟩ := ps_ex T
    rw [rlV_r h0 hr]
    rcases rule_eq hX hr 0 with ⟨i, h1, h2, -⟩ | ⟨C, HS, -, h2, -⟩
    · rw [h2]; exact ⟨by omega, by omega, fun z => by omega⟩
    · rw [h2]
      by_cases h4 : 40 < T.length
      · rw [if_pos h4]; exact ⟨by decide, by decide, fun z => by omega⟩
      · rw [if_neg h4]; exact ⟨by decide, by decide, fun _ => by omega⟩
theorem o_readV {r : Nat} {T : List Nat} {dg : Nat} {mem m : am_M} {q : Option am_V} (hX : ∀ i, T.getD i 0 < 256) (h : o_read r T dg mem q m) : q = some (.inl (rlV T)) ∧ fr_rs r mem m ∧ (∃ d2 : Nat, d2 ≤ 3 ∧ m r 8 = (d2 : Int)) ∧ (rlV T = -1 → ∃ C, c_code r C m ∧ ruleOK T C) := by
  obtain ⟨h1, h2, h3⟩ := h
  rcases h3 with ⟨rfl, h4, h5⟩ | ⟨hn, h3⟩
  · rw [rlV_nil]
    exact ⟨h4, h1, h2, fun _ => ⟨[], h5, by decide, hX, Or.inl ⟨rfl, rfl⟩⟩⟩
  · obtain ⟨r0, hr⟩ := ps_ex T
    rw [rlV_r hn hr]
    rcases rule_eq hX hr dg with ⟨i, g1, g2, g3⟩ | ⟨C, HS, g3, g2, g4⟩
    · rw [g2]
      rcases h3 with ⟨j, k1, k2⟩ | ⟨C, HS, k1, -⟩
      · rw [g3] at k1
        cases k1
        exact ⟨k2, h1, h2, fun z => by omega⟩
      · rw [g3] at k1; cases k1
    · rw [g2]
      rcases h3 with ⟨j, k1, k2⟩ | ⟨C2, HS2, k1, k2, k3⟩
      · rw [g3] at k1; cases k1
      · rw [g3] at k1
        cases k1
        refine ⟨k3, h1, h2, fun z => ⟨_, k2, ?_⟩⟩
        by_cases h4 : 40 < T.length
        · rw [if_pos h4] at z; omega
        · have e : T.take 40 = T := List.take_of_length_le (by omega)
          rw [e] at g4
          exact ⟨by omega, hX, Or.inr ⟨hn, g4⟩⟩
section P9c
variable {l : Launch} {G : am_G} {d : Nat} {r : Nat} {X : List Nat} {C : List Int} {sn : Nat} {sg : Nat → Nat} {h : hrs} {e : est} {NB : Nat} {mem m : am_M}
variable {T : List Nat} {U : List est} {R : List Int} {M : am_M} {r2 : Nat}
theorem c_readV {dg : Nat} (hr : am_rul r) (hX : c_text T mem) (hdg : dg ≤ 3) (h8 : mem r 8 = (dg : Int)) : am_Sm l G yX4_read mt_X4_read (d + 5) [.inr (.inr (r + 1)), .inr (.inr 2)] mem (fun q m => q = some (.inl (rlV T)) ∧ fr_rs r mem m ∧ (∃ d2 : Nat, d2 ≤ 3 ∧ m r 8 = (d2 : Int)) ∧ (rlV T = -1 → ∃ C, c_code r C m ∧ ruleOK T C)) := am_Sm_mono (s_read hr hX hdg h8) (fun _ _ hq => o_readV hX.2.2.1 hq)
theorem CQ.cells (q : CQ r X C sn sg h e NB mem) (g : ∀ b, (b = r ∨ b = r + 1 ∨ (5 ≤ b ∧ b ≤ 9) ∨ (16 ≤ b ∧ b ≤ 18)) → m b = mem b) : CQ r X C sn sg h e NB m := by
  obtain ⟨q1, q2, q3, q4, q5, q6, q7, q8⟩ := q
  refine ⟨q1, by rw [g 5 (by omega)]; exact q2, q3, ⟨by rw [g r (by omega)]; exact q4.1, fun i hi => by rw [g (r + 1) (by omega)]; exact q4.2.1 i hi, q4.2.2⟩, ⟨by rw [g 5 (by omega)]; exact q5.1, q5.2.1, q5.2.2.1, q5.2.2.2.1, fun i hi => by rw [g 6 (by omega)]; exact q5.2.2.2.2 i hi⟩, ⟨q6.1, by rw [g 5 (by omega)]; exact q6.2.1, fun i hi => by rw [g 7 (by omega), g 8 (by omega), g 9 (by omega)]; exact q6.2.2 i hi⟩, q7.kept (g 16 (by omega)) (g 17 (by omega)) (g 18 (by omega)), q8⟩
theorem CQ.spare (q : CQ r X C sn sg h e NB mem) (hr2 : am_rul r2) (hne : r2 ≠ r) (f : fr_rs r2 mem m) : CQ r X C sn sg h e NB m := by
  have o := am_rul_or q.1
  have o2 := am_rul_or hr2
  exact q.cells (fun b hb => f b (by omega) (by omega) (by omega))
theorem CQ.txt (q : CQ r X C sn sg h e NB mem) {k : Nat} {x : Int} : CQ r X C sn sg h e NB (am_up mem 1 k x) := by
  have o := am_rul_or q.1
  exact q.cells (fun b hb => am_up_ne (by omega))
/-- the class's rule -/
theorem c_rule (q : CQ r X C sn sg h e NB mem) (hT : c_text T mem) (hr2 : am_rul r2) (h18 : mem 0 18 = ((r2 + 1 : Nat) : Int)) {dg : Nat} (hdg : dg ≤ 3) (h8 : mem r2 8 = (dg : Int)) : am_Sm l G yX8_rule mt_X8_rule (d + 6) [.inr (.inr 1)] mem (fun q m => ∃ m0, fr_rs r2 mem m0 ∧ (∃ d2 : Nat, d2 ≤ 3 ∧ m0 r2 8 = (d2 : Int)) ∧ ((rlV T ≠ -1 ∧ q = some (.inl (-1 - rlV T)) ∧ m = am_up m0 1 1 0) ∨ (rlV T = -1 ∧ q = some (.inl 0) ∧ (∃ C, c_code r2 C m0 ∧ ruleOK T C) ∧ m = am_up (am_up (am_up m0 1 1 0) 5 7 ((r2 + 1 : Nat) : Int)) 0 18 ((r + 1 : Nat) : Int)))) := by
  refine am_Sm_mono (s_rule8 hr2 q.1 h18 q.rl hT hdg h8) (fun q m hq => ?_)
  obtain ⟨v, m0, ho, hv⟩ := hq
  obtain ⟨e1, e2, e3, e4⟩ := o_readV hT.2.2.1 ho
  have ev : v = rlV T := by injection e1 with e1; injection e1
  subst ev
  refine ⟨m0, e2, e3, ?_⟩
  rcases hv with hv | ⟨v1, v2, v3⟩
  · exact Or.inl hv
  · exact Or.inr ⟨v1, v2, e4 v1, v3⟩
theorem c_law (q : CQ r X C sn sg h e NB mem) (hT : c_text T mem) (hr2 : am_rul r2) (hne : r2 ≠ r) (h18 : mem 0 18 = ((r2 + 1 : Nat) : Int)) {dg : Nat} (hdg : dg ≤ 3) (h8 : mem r2 8 = (dg : Int)) : am_Sm l G yX8_law mt_X8_law (d + 7) [.inr (.inr 1)] mem (fun q m => ∃ m0, fr_rs r2 mem m0 ∧ (∃ d2 : Nat, d2 ≤ 3 ∧ m0 r2 8 = (d2 : Int)) ∧ ((rlV T ≠ -1 ∧ q = some (.inl (-10000 - rlV T)) ∧ m = am_up m0 1 1 0) ∨ (rlV T = -1 ∧ q = some (.inl ((eB (itE T h sn sg e 20) : Int) - (eB (itE X h sn sg e 20) : Int))) ∧ c_row [(eB (itE T h sn sg e 20) : Int), (eB (itE X h sn sg e 20) : Int)] m ∧ frS s8r (am_up m0 1 1 0) m))) := by
  refine am_enterQ (ls := [some (.inr (.inr 1)), none, none, none]) (by decide) rfl (Nat.le_of_ble_eq_true rfl) rfl (fun hok Q hQ => ?_)
  have b := q.bd
  have hbd := rlV_bd hT.2.2.1
  have o := am_rul_or hr2
  have o1 := am_rul_or q.1
  have k1 := (itE_ok (X := T) (sn := sn) (sg := sg) q.eo 20).2.2.2.2.1
  have k2 := (itE_ok (X := X) (sn := sn) (sg := sg) q.eo 20).2.2.2.2.1
  by_cases hv : rlV T = -1
  · refine rn_aload_n (x := 0) (q := 1) dX8_law_0 rfl rfl ?_
    refine rn_get (a := 0) (v := .inr (.inr (r2 + 1))) (q := 4) dX8_law_1 fl_X8_99 rfl (show Sum.inr (Sum.inr (mem 0 18).toNat) = _ by rw [h18]; rfl) rfl ?_
    refine rn_aload_n (x := 0) (q := 5) dX8_law_4 rfl rfl ?_
    refine rn_get (a := 0) (v := .inr (.inr 2)) (q := 8) dX8_law_5 fl_X8_10 rfl rfl rfl ?_
    refine rn_callV (b := r2) (as := [.inr (.inr 2)]) (rest := []) (q := 11) dX8_law_8 ml_X8_168 sm_X4_read rfl (am_rul_k hr2) (by decide) (by omega) rfl rfl (Nat.le_of_ble_eq_true rfl) rfl (c_readV (d := d + 1) hr2 hT hdg h8) ?_
    intro r8 mem8 hq8
    obtain ⟨rfl, hf8, hd8, hc8⟩ := hq8
    show am_Rn l G _ _ 11 [some (.inr (.inr 1)), none, none, none] [.inl (rlV T)] mem8 _
    rw [hv]
    obtain ⟨C2, hC2, hO2⟩ := hc8 hv
    have q8 := (q.spare hr2 hne hf8).txt (k := 1) (x := 0)
    have c8 : c_code r2 C2 (am_up mem8 1 1 0) := ⟨by rw [am_up_ne (by omega)]; exact hC2.1, fun i hi => by rw [am_up_ne (by omega)]; exact hC2.2.1 i hi, hC2.2.2⟩
    refine rn_istore_n (ls' := [some (.inr (.inr 1)), some (.inl (-1)), none, none]) (q := 12) dX8_law_11 (by decide) rfl rfl ?_
    refine rn_aload_n (x := 0) (q := 13) dX8_law_12 rfl rfl ?_
    refine rn_get (a := 0) (v := .inr (.inr 2)) (q := 16) dX8_law_13 fl_X8_10 rfl rfl rfl ?_
    refine rn_iconst (q := 17) dX8_law_16 (am_okd rfl) rfl ?_
    refine rn_puti (a := 1) (q := 20) dX8_law_17 fl_X8_107 rfl rfl rfl rfl ?_
    refine rn_iload_n (x := (-1)) (q := 21) dX8_law_20 rfl rfl ?_
    refine rn_iconst (q := 22) dX8_law_21 (am_okd rfl) rfl ?_
    refine rn_cmpeq (t := 31) (q := 25) dX8_law_22 rfl rfl (fun w22 => ?_) (fun h => absurd h (by decide))
    refine rn_aload_n (x := 0) (q := 32) dX8_law_31 rfl rfl ?_
    refine rn_bipush (q := 34) dX8_law_32 ⟨by decide, by decide⟩ rfl ?_
    refine rn_aload_n (x := 0) (q := 35) dX8_law_34 rfl rfl ?_
    refine rn_get (a := 0) (v := .inr (.inr (r2 + 1))) (q := 38) dX8_law_35 fl_X8_99 rfl (show Sum.inr (Sum.inr (mem8 0 18).toNat) = _ by rw [hf8 0 (by omega) (by omega) (by omega), h18]; rfl) rfl ?_
    refine rn_callV (b := 0) (as := [.inl 20, .inr (.inr (r2 + 1))]) (rest := []) (q := 41) dX8_law_38 ml_X8_295 sm_X8_bookIn rfl rfl (by decide) (by omega) rfl rfl (Nat.le_of_ble_eq_true rfl) rfl (c_bookIn (d := d + 0) q8 hr2 hO2 c8 20 (by decide)) ?_
    intro r38 mem38 hq38
    obtain ⟨rfl, he38, hf38⟩ := hq38
    show am_Rn l G _ _ 41 [some (.inr (.inr 1)), some (.inl (-1)), none, none] [.inl (eB (itE T h sn sg e 20) : Int)] mem38 _
    refine rn_istore_n (ls' := [some (.inr (.inr 1)), some (.inl (-1)), some (.inl (eB (itE T h sn sg e 20) : Int)), none]) (q := 42) dX8_law_41 (by decide) rfl rfl ?_
    refine rn_aload_n (x := 0) (q := 43) dX8_law_42 rfl rfl ?_
    refine rn_bipush (q := 45) dX8_law_43 ⟨by decide, by decide⟩ rfl ?_
    refine rn_aload_n (x := 0) (q := 46) dX8_law_45 rfl rfl ?_
    refine rn_get (a := 0) (v := .inr (.inr 6)) (q := 49) dX8_law_46 fl_X8_26 rfl rfl rfl ?_
    refine rn_get (a := 5) (v := .inr (.inr (r + 1))) (q := 52) dX8_law_49 fl_X8_172 rfl (show Sum.inr (Sum.inr (mem38 5 7).toNat) = _ by rw [(q8.kept hf38.r8).rl]; rfl) rfl ?_
    refine rn_callV (b := 0) (as := [.inl 20, .inr (.inr (r + 1))]) (rest := []) (q := 55) dX8_law_52 ml_X8_295 sm_X8_bookIn rfl rfl (by decide) (by omega) rfl rfl (Nat.le_of_ble_eq_true rfl) rfl (c_bookIn (d := d + 0) (q8.kept hf38.r8) q.1 q.ok (q8.kept hf38.r8).cd 20 (by decide)) ?_
    intro r52 mem52 hq52
    obtain ⟨rfl, he52, hf52⟩ := hq52
    show am_Rn l G _ _ 55 [some (.inr (.inr 1)), some (.inl (-1)), some (.inl (eB (itE T h sn sg e 20) : Int)), none] [.inl (eB (itE X h sn sg e 20) : Int)] mem52 _
    refine rn_istore_n (ls' := [some (.inr (.inr 1)), some (.inl (-1)), some (.inl (eB (itE T h sn sg e 20) : Int)), some (.inl (eB (itE X h sn sg e 20) : Int))]) (q := 56) dX8_law_55 (by decide) rfl rfl ?_
    refine rn_aload_n (x := 0) (q := 57) dX8_law_56 rfl rfl ?_
    refine rn_get (a := 0) (v := .inr (.inr 4)) (q := 60) dX8_law_57 fl_X8_19 rfl rfl rfl ?_
    refine rn_iload_n (x := (eB (itE T h sn sg e 20) : Int)) (q := 61) dX8_law_60 rfl rfl ?_
    refine rn_i2l (q := 62) dX8_law_61 rfl ?_
    refine rn_iload_n (x := (eB (itE X h sn sg e 20) : Int)) (q := 63) dX8_law_62 rfl rfl ?_
    refine rn_i2l (q := 64) dX8_law_63 rfl ?_
    refine rn_callV (b := 3) (as := [.inr (.inl (eB (itE T h sn sg e 20) : Int)), .inr (.inl (eB (itE X h sn sg e 20) : Int))]) (rest := []) (q := 67) dX8_law_64 ml_X8_229 sm_X3_tell_ rfl rfl (by decide) (by omega) rfl rfl (Nat.le_of_ble_eq_true rfl) rfl (s_Rtell2 (d := d + 5) (eB (itE T h sn sg e 20) : Int) (eB (itE X h sn sg e 20) : Int)) ?_
    intro r64 mem64 hq64
    obtain ⟨rfl, hr64, hf64⟩ := hq64
    show am_Rn l G _ _ 67 [some (.inr (.inr 1)), some (.inl (-1)), some (.inl (eB (itE T h sn sg e 20) : Int)), some (.inl (eB (itE X h sn sg e 20) : Int))] [] mem64 _
    refine rn_iload_n (x := (eB (itE T h sn sg e 20) : Int)) (q := 68) dX8_law_67 rfl rfl ?_
    refine rn_iload_n (x := (eB (itE X h sn sg e 20) : Int)) (q := 69) dX8_law_68 rfl rfl ?_
    refine rn_isubN (z := ((eB (itE T h sn sg e 20) : Int) - (eB (itE X h sn sg e 20) : Int))) (q := 70) dX8_law_69 rfl (by unfold am_ok; omega) rfl ?_
    refine rn_iret dX8_law_70 rfl ?_
    exact hQ _ _ ⟨mem8, hf8, hd8, Or.inr ⟨hv, rfl, hr64, (hf38.r8.tr hf52.r8).tr (fr_row hf64)⟩⟩
  · refine rn_aload_n (x := 0) (q := 1) dX8_law_0 rfl rfl ?_
    refine rn_get (a := 0) (v := .inr (.inr (r2 + 1))) (q := 4) dX8_law_1 fl_X8_99 rfl (show Sum.inr (Sum.inr (mem 0 18).toNat) = _ by rw [h18]; rfl) rfl ?_
    refine rn_aload_n (x := 0) (q := 5) dX8_law_4 rfl rfl ?_
    refine rn_get (a := 0) (v := .inr (.inr 2)) (q := 8) dX8_law_5 fl_X8_10 rfl rfl rfl ?_
    refine rn_callV (b := r2) (as := [.inr (.inr 2)]) (rest := []) (q := 11) dX8_law_8 ml_X8_168 sm_X4_read rfl (am_rul_k hr2) (by decide) (by omega) rfl rfl (Nat.le_of_ble_eq_true rfl) rfl (c_readV (d := d + 1) hr2 hT hdg h8) ?_
    intro r8 mem8 hq8
    obtain ⟨rfl, hf8, hd8, hc8⟩ := hq8
    show am_Rn l G _ _ 11 [some (.inr (.inr 1)), none, none, none] [.inl (rlV T)] mem8 _
    refine rn_istore_n (ls' := [some (.inr (.inr 1)), some (.inl (rlV T)), none, none]) (q := 12) dX8_law_11 (by decide) rfl rfl ?_
    refine rn_aload_n (x := 0) (q := 13) dX8_law_12 rfl rfl ?_
    refine rn_get (a := 0) (v := .inr (.inr 2)) (q := 16) dX8_law_13 fl_X8_10 rfl rfl rfl ?_
    refine rn_iconst (q := 17) dX8_law_16 (am_okd rfl) rfl ?_
    refine rn_puti (a := 1) (q := 20) dX8_law_17 fl_X8_107 rfl rfl rfl rfl ?_
    refine rn_iload_n (x := (rlV T)) (q := 21) dX8_law_20 rfl rfl ?_
    refine rn_iconst (q := 22) dX8_law_21 (am_okd rfl) rfl ?_
    refine rn_cmpeq (t := 31) (q := 25) dX8_law_22 rfl rfl (fun h => absurd h (by omega)) (fun w22 => ?_)
    refine rn_sipush (q := 28) dX8_law_25 ⟨by decide, by decide⟩ rfl ?_
    refine rn_iload_n (x := (rlV T)) (q := 29) dX8_law_28 rfl rfl ?_
    refine rn_isubN (z := ((-10000) - (rlV T))) (q := 30) dX8_law_29 rfl (by unfold am_ok; omega) rfl ?_
    refine rn_iret dX8_law_30 rfl ?_
    exact hQ _ _ ⟨mem8, hf8, hd8, Or.inl ⟨hv, rfl, rfl⟩⟩
theorem m_readRuleV (hT : m_text T mem) : ∃ a : Int, am_Sm l G yX9_readRule mt_X9_readRule (d + 176) [.inr (.inr 96)] mem (am_rr (some (.inl (if rlV T = -1 then 1 else 0))) (aw (rdM T mem) a (rlV T))) := by
  by_cases h0 : T = []
  · subst h0
    rw [rlV_nil, if_pos rfl]
    exact ⟨0, s_readRule90 hT⟩
  · obtain ⟨r, hr⟩ := ps_ex T
    rw [rlV_r h0 hr]
    exact ⟨_, s_readRule9 hT h0 hr⟩
theorem rdM_fr (q21 : mem 95 21 = 0) : frS s9 (am_up mem 95 8 0) (rdM T (am_up mem 95 11 0)) := by
  intro b k hb
  unfold rdM
  by_cases h95 : b = 95
  · subst h95
    unfold s9 at hb
    simp [ble_f] at hb
    rw [am_up_at, am_up_at, am_up_at]
    by_cases h21 : k = 21
    · rw [if_pos h21, if_neg (by omega), h21]; exact q21.symm
    · rw [if_neg h21]
      by_cases h8 : k = 8
      · rw [if_pos h8, if_pos h8]
      · rw [if_neg h8, if_neg h8, bgn_k (by omega) (by omega) (by omega), am_up_neq (by omega)]
  · rw [am_up_ne h95, am_up_ne h95, am_up_ne h95, bgn_ne h95, am_up_ne h95]
theorem DQ.txt (q : DQ X sn sg h e NB mem) : DQ X sn sg h e NB (am_up mem 95 8 0) := q.setH ⟨q.hs.1, q.hs.2.1, q.hs.2.2⟩ (q.es.kept rfl) q.eo (frS.rf.up rfl)
/-- the reference's rule -/
theorem m_rule (q : DQ X sn sg h e NB mem) (hT : m_text T mem) : am_Sm l G yX9_rule mt_X9_rule (d + 177) [.inr (.inr 96)] mem (fun q m => (rlV T ≠ -1 ∧ q = some (.inl (-1 - rlV T)) ∧ frS s9 (am_up mem 95 8 0) m) ∨ (rlV T = -1 ∧ q = some (.inl 0) ∧ DQ T sn sg h e NB m ∧ ∀ b k, b ≠ 104 → (b ≠ 95 ∨ k ≠ 20) → s9 b k = false → m b k = am_up mem 95 8 0 b k)) := by
  have hbd := rlV_bd hT.2.2.1
  have hT1 : m_text T (am_up mem 95 11 0) := ⟨hT.1, hT.2⟩
  obtain ⟨a, hR⟩ := m_readRuleV (l := l) (G := G) (d := d) hT1
  have f0 := rdM_fr (T := T) q.2.2.1
  refine am_Sm_mono (s_rule9 (Or.inl rfl) rfl hT ⟨hbd.1, hbd.2.1⟩ hbd.2.2 hR ((f0 95 18 rfl).trans q.rl.2.1) (funext (fun i => f0 101 i rfl))) (fun q2 m hq => ?_)
  have f1 : frS s9 (am_up mem 95 8 0) (aw (rdM T (am_up mem 95 11 0)) a (rlV T)) := (f0.up (a := 95) (k := 15) (x := a) rfl).up rfl
  rcases hq with ⟨h1, h2, rfl⟩ | ⟨h1, h2, m2, rfl, h3, h4⟩
  · exact Or.inl ⟨h1, h2, f1⟩
  · refine Or.inr ⟨h1, h2, ?_, fun b k b1 b2 b3 => ?_⟩
    · obtain ⟨p1, p2, p3, p5, p6, p7, p8⟩ := q.txt.kept f1.r9
      refine ⟨⟨hbd.2.2 h1, hT.2.2.1⟩, ⟨Or.inl rfl, ?_, ?_, fun j hj => ?_⟩, ?_, ⟨?_, p5.2.1, p5.2.2.1, p5.2.2.2.1, fun i hi => ?_⟩, ⟨p6.1, ?_, fun i hi => ?_⟩, ?_, p8⟩
      · rw [am_up_neq (by decide), h3 95 (by decide)]; exact p2.2.1
      · rw [am_up_self]
      · rw [am_up_ne (by decide)]; exact h4 j hj
      · rw [am_up_neq (by decide), h3 95 (by decide)]; exact p3
      · rw [am_up_neq (by decide), h3 95 (by decide)]; exact p5.1
      · rw [am_up_ne (by decide), h3 100 (by decide)]; exact p5.2.2.2.2 i hi
      · rw [am_up_neq (by decide), h3 95 (by decide)]; exact p6.2.1
      · rw [am_up_ne (by decide), am_up_ne (by decide), am_up_ne (by decide), h3 97 (by decide), h3 98 (by decide), h3 99 (by decide)]; exact p6.2.2 i hi
      · exact p7.kept (by rw [am_up_ne (by decide), h3 96 (by decide)])
    · by_cases h95 : b = 95
      · subst h95
        rw [am_up_neq (by omega), h3 95 (by decide)]; exact f1 95 k b3
      · rw [am_up_ne h95, h3 b b1]; exact f1 b k b3
theorem m_bookIn20 {rq : Nat} {X2 : List Nat} (hx4 : X2.length ≤ 40) (hx2 : ∀ j, X2.getD j 0 < 256) (hR : m_rul rq X2 mem) (hs : m_song sn sg mem) (hh : m_hrs h mem) (hNB : NB < 900000) (heo : e_ok h.1 NB e) (hem : m_est e 96 0 mem) (hask : mem 95 21 = 0) : am_Sm l G yX9_bookIn20 mt_X9_bookIn20 (d + 180) [.inr (.inr 96)] mem (fun q m => q = some (.inl (eB (itE X2 h sn sg e 20) : Int)) ∧ frS s9 mem m) := by
  refine am_enterQ (ls := [some (.inr (.inr 96))]) (by decide) rfl (Nat.le_of_ble_eq_true rfl) rfl (fun hok Q hQ => ?_)
  have hrq := hR.1
  have fc : frS s9 mem (am_cpy mem 96 0 109 0 29) := frS.rf.cpy (fun _ => rfl)
  have hR2 : m_rul rq X2 (am_cpy mem 96 0 109 0 29) := ⟨hrq, hR.2.1, hR.2.2.1, fun j hj => by rw [am_cpy_ne (by omega)]; exact hR.2.2.2 j hj⟩
  have hs2 : m_song sn sg (am_cpy mem 96 0 109 0 29) := ⟨hs.1, hs.2.1, hs.2.2.1, hs.2.2.2.1, fun i hi => (fc 100 i rfl).trans (hs.2.2.2.2 i hi)⟩
  have hh2 : m_hrs h (am_cpy mem 96 0 109 0 29) := ⟨hh.1, hh.2.1, fun i hi => ⟨(fc 97 i rfl).trans (hh.2.2 i hi).1, (fc 98 i rfl).trans (hh.2.2 i hi).2.1, (fc 99 i rfl).trans (hh.2.2 i hi).2.2⟩⟩
  refine rn_aload_n (x := 95) (q := 1) dX9_bookIn20_0 rfl rfl ?_
  refine rn_get (a := 95) (v := .inr (.inr 97)) (q := 4) dX9_bookIn20_1 fl_X9_9 rfl rfl rfl ?_
  refine rn_aload_n (x := 95) (q := 5) dX9_bookIn20_4 rfl rfl ?_
  refine rn_get (a := 95) (v := .inr (.inr 110)) (q := 8) dX9_bookIn20_5 fl_X9_55 rfl rfl rfl ?_
  refine rn_iconst (q := 9) dX9_bookIn20_8 (am_okd rfl) rfl ?_
  refine rn_callS (as := [.inr (.inr 97), .inr (.inr 110), .inl 0]) (rest := []) (q := 12) dX9_bookIn20_9 ml_X9_248 sm_X9_lay (by omega) rfl rfl (Nat.le_of_ble_eq_true rfl) rfl (s_lay (d := d + 179) (f := 96) (t := 109) (nf := 29) (nt := 29) rfl rfl (by decide) 0 (by decide) (by decide) (by decide)) ?_
  intro r9 mem9 hq9
  obtain ⟨rfl, rfl⟩ := hq9
  show am_Rn l G _ _ 12 [some (.inr (.inr 96))] [] (am_cpy mem 96 0 109 0 29) _
  refine rn_aload_n (x := 95) (q := 13) dX9_bookIn20_12 rfl rfl ?_
  refine rn_aload_n (x := 95) (q := 14) dX9_bookIn20_13 rfl rfl ?_
  refine rn_get (a := 95) (v := .inr (.inr 110)) (q := 17) dX9_bookIn20_14 fl_X9_55 rfl rfl rfl ?_
  refine rn_bipush (q := 19) dX9_bookIn20_17 ⟨by decide, by decide⟩ rfl ?_
  refine rn_callV (b := 95) (as := [.inr (.inr 110), .inl 20]) (rest := []) (q := 22) dX9_bookIn20_19 ml_X9_271 sm_X9_goNights rfl rfl (by decide) (by omega) rfl rfl (Nat.le_of_ble_eq_true rfl) rfl (s_goNights9 (d := d + 0) (arr := 109) (Or.inr (Or.inl rfl)) hx4 hx2 hR2 hs2 hh2 20 (by decide) hNB heo (m_est.cpy (a1 := 109) (o1 := 0) hem) hask) ?_
  intro r19 mem19 hq19
  obtain ⟨rfl, he19, hf19⟩ := hq19
  show am_Rn l G _ _ 22 [some (.inr (.inr 96))] [] mem19 _
  refine rn_aload_n (x := 95) (q := 23) dX9_bookIn20_22 rfl rfl ?_
  refine rn_get (a := 95) (v := .inr (.inr 110)) (q := 26) dX9_bookIn20_23 fl_X9_55 rfl rfl rfl ?_
  refine rn_bipush (q := 28) dX9_bookIn20_26 ⟨by decide, by decide⟩ rfl ?_
  refine rn_ialdV (a := 109) (v := (eB (itE X2 h sn sg e 20) : Int)) (q := 29) dX9_bookIn20_28 rfl (by omega) (by omega) he19.a.2.2.2.1 rfl ?_
  refine rn_iret dX9_bookIn20_29 rfl ?_
  exact hQ _ _ ⟨rfl, fc.tr (hf19.to9 (Or.inl rfl))⟩
end P9c
