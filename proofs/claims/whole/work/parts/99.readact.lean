/-! spring of the reference: reading, acts -/
theorem tz_dig {T : List Nat} {p : Nat} {lo : Int} (h0 : 0 ≤ lo) (h1 : lo ≤ 1) : (48 + lo ≤ txAt (T.take 60) (p : Int) ∧ txAt (T.take 60) (p : Int) < 58) ↔ (p < min T.length 60 ∧ lo ≤ txDg T (p : Int)) := by
  have hl : (T.take 60).length = min 60 T.length := List.length_take
  by_cases hp : p < min T.length 60
  · rw [txAt_n (by omega), take_gd (by omega), txDg_e (by omega)]
    split <;> omega
  · rw [txAt_o (by omega)]
    omega
theorem tz_at {T : List Nat} {p : Nat} (hp : p < min T.length 60) : txAt (T.take 60) (p : Int) = (T.getD p 0 : Int) := by
  have hl : (T.take 60).length = min 60 T.length := List.length_take
  rw [txAt_n (by omega), take_gd (by omega)]
theorem wfA_y {T : List Nat} {s : Nat} (h1 : dgB (T.getD s 0) ≠ 0) (h : s + 1 < min T.length 60 ∧ lsB (T.getD s 0) ≤ txDg T ((s + 1 : Nat) : Int)) (h2 : dgB (T.getD s 0) = 2 → s + 2 < min T.length 60 ∧ 0 ≤ txDg T ((s + 2 : Nat) : Int)) : wfA T s = -1 := by
  unfold wfA
  rw [if_neg h1, if_neg (fun z => z h), if_neg (fun z => z.2 (h2 z.1))]
theorem wfA_n0 {T : List Nat} {s : Nat} (h1 : dgB (T.getD s 0) = 0) : wfA T s = (s : Int) := by
  unfold wfA
  rw [if_pos h1]
theorem wfA_n1 {T : List Nat} {s : Nat} (h1 : dgB (T.getD s 0) ≠ 0) (h : ¬ (s + 1 < min T.length 60 ∧ lsB (T.getD s 0) ≤ txDg T ((s + 1 : Nat) : Int))) : wfA T s = ((s + 1 : Nat) : Int) := by
  unfold wfA
  rw [if_neg h1, if_pos h]
theorem wfA_n2 {T : List Nat} {s : Nat} (h1 : dgB (T.getD s 0) = 2) (h : s + 1 < min T.length 60 ∧ lsB (T.getD s 0) ≤ txDg T ((s + 1 : Nat) : Int)) (h2 : ¬ (s + 2 < min T.length 60 ∧ 0 ≤ txDg T ((s + 2 : Nat) : Int))) : wfA T s = ((s + 2 : Nat) : Int) := by
  unfold wfA
  rw [if_neg (by omega), if_neg (fun z => z h), if_pos ⟨h1, h2⟩]
def raP (T : List Nat) (k s : Nat) (M m : am_M) : Prop := ∃ M2, (∀ b, b ≠ 113 → M2 b = M b) ∧ (∀ j, j < 3 * k → M2 113 j = M 113 j) ∧ ((wfA T s = -1 ∧ M2 113 (3 * k) = (T.getD s 0 : Int) ∧ M2 113 (3 * k + 1) = ((T.getD (s + 1) 0 - 48 : Nat) : Int) ∧ (T.getD s 0 = 104 → M2 113 (3 * k + 2) = ((T.getD (s + 2) 0 - 48 : Nat) : Int)) ∧ m = aw M2 (nxA T s : Int) (-1)) ∨ ∃ a p : Nat, wfA T s = (p : Int) ∧ a < 900 ∧ m = aw M2 (a : Int) (p : Int))
section P99
variable {l : Launch} {G : am_G} {d : Nat} {r : Nat} {X : List Nat} {C : List Int} {sn : Nat} {sg : Nat → Nat} {h : hrs} {e : est} {NB : Nat} {mem m : am_M}
variable {T : List Nat} {U : List est} {R : List Int} {M : am_M}
theorem ra_fr {k : Nat} {x y : Int} : (∀ b, b ≠ 113 → am_up (am_up M 113 (3 * k) x) 113 (3 * k + 1) y b = M b) ∧ (∀ j, j < 3 * k → am_up (am_up M 113 (3 * k) x) 113 (3 * k + 1) y 113 j = M 113 j) := by
  refine ⟨fun b hb => by rw [am_up_ne hb, am_up_ne hb], fun j hj => ?_⟩
  rw [am_up_neq (by omega), am_up_neq (by omega)]
theorem ra_fr3 {k : Nat} {x y z : Int} : (∀ b, b ≠ 113 → am_up (am_up (am_up M 113 (3 * k) x) 113 (3 * k + 1) y) 113 (3 * k + 2) z b = M b) ∧ (∀ j, j < 3 * k → am_up (am_up (am_up M 113 (3 * k) x) 113 (3 * k + 1) y) 113 (3 * k + 2) z 113 j = M 113 j) := by
  refine ⟨fun b hb => by rw [am_up_ne hb, am_up_ne hb, am_up_ne hb], fun j hj => ?_⟩
  rw [am_up_neq (by omega), am_up_neq (by omega), am_up_neq (by omega)]
theorem m_readAct (hr : m_rd (T.take 60) 101 T.length M) (k s : Nat) (hk : k < 70) (hs : s < min T.length 60) : am_Sm l G yX9_readAct mt_X9_readAct (d + 3) [.inr (.inr 96), .inl ((3 * k : Nat) : Int)] (aw M (s : Int) (-1)) (fun q m => q = none ∧ raP T k s M m) := by
  refine am_enterQ (ls := [some (.inr (.inr 96)), some (.inl ((3 * k : Nat) : Int)), none, none]) (by decide) rfl (Nat.le_of_ble_eq_true rfl) rfl (fun hok Q hQ => ?_)
  have e1 := tz_at hs
  have z1 := tz_dig (T := T) (p := s + 1) (lo := 1) (by decide) (by decide)
  have z0 := tz_dig (T := T) (p := s + 1) (lo := 0) (by decide) (by decide)
  have z2 := tz_dig (T := T) (p := s + 2) (lo := 0) (by decide) (by decide)
  have v1 : s + 1 < min T.length 60 → txAt (T.take 60) ((s + 1 : Nat) : Int) = (T.getD (s + 1) 0 : Int) := fun z => tz_at z
  have v2 : s + 2 < min T.length 60 → txAt (T.take 60) ((s + 2 : Nat) : Int) = (T.getD (s + 2) 0 : Int) := fun z => tz_at z
  obtain ⟨c, hc⟩ : ∃ c, T.getD s 0 = c := ⟨_, rfl⟩
  by_cases c115 : c = 115
  · subst c115
    rw [hc] at e1
    by_cases y1 : 49 ≤ txAt (T.take 60) ((s + 1 : Nat) : Int) ∧ txAt (T.take 60) ((s + 1 : Nat) : Int) < 49 + 9
    · have y2 := z1.mp ⟨by omega, by omega⟩
      refine rn_aload_n (x := 95) (q := 1) dX9_readAct_0 rfl rfl ?_
      refine rn_callV (b := 95) (as := []) (rest := []) (q := 4) dX9_readAct_1 ml_X9_146 sm_X9_here rfl rfl (by decide) (by omega) rfl rfl (Nat.le_of_ble_eq_true rfl) rfl (s_here9 (d := d + 2) hr s (-1) (by omega)) ?_
      intro r1 mem1 hq1
      obtain ⟨rfl, rfl⟩ := hq1
      show am_Rn l G _ _ 4 [some (.inr (.inr 96)), some (.inl ((3 * k : Nat) : Int)), none, none] [.inl (txAt (T.take 60) (s : Int))] (aw M (s : Int) (-1)) _
      rw [e1]
      refine rn_istore_n (ls' := [some (.inr (.inr 96)), some (.inl ((3 * k : Nat) : Int)), some (.inl 115), none]) (q := 5) dX9_readAct_4 (by decide) rfl rfl ?_
      refine rn_iload_n (x := 115) (q := 6) dX9_readAct_5 rfl rfl ?_
      refine rn_bipush (q := 8) dX9_readAct_6 ⟨by decide, by decide⟩ rfl ?_
      refine rn_cmpeq (t := 23) (q := 11) dX9_readAct_8 rfl rfl (fun w8 => ?_) (fun h => absurd h (by decide))
      refine rn_iconst (q := 24) dX9_readAct_23 (am_okd rfl) rfl ?_
      refine rn_goto (t := 28) dX9_readAct_24 rfl ?_
      refine rn_istore_n (ls' := [some (.inr (.inr 96)), some (.inl ((3 * k : Nat) : Int)), some (.inl 115), some (.inl 1)]) (q := 29) dX9_readAct_28 (by decide) rfl rfl ?_
      refine rn_iload_n (x := 1) (q := 30) dX9_readAct_29 rfl rfl ?_
      refine rn_ifne (t := 60) (q := 33) dX9_readAct_30 rfl rfl (fun w30 => ?_) (fun h => absurd h (by decide))
      refine rn_aload_n (x := 95) (q := 61) dX9_readAct_60 rfl rfl ?_
      refine rn_dup (q := 62) dX9_readAct_61 rfl rfl ?_
      refine rn_get (a := 95) (v := .inl (s : Int)) (q := 65) dX9_readAct_62 fl_X9_132 rfl rfl rfl ?_
      refine rn_iconst (q := 66) dX9_readAct_65 (am_okd rfl) rfl ?_
      refine rn_iaddN (z := ((s + 1 : Nat) : Int)) (q := 67) dX9_readAct_66 (by omega) (by unfold am_ok; omega) rfl ?_
      refine rn_puti (a := 95) (q := 70) dX9_readAct_67 fl_X9_132 rfl rfl rfl rfl ?_
      rw [aw_at]
      refine rn_aload_n (x := 95) (q := 71) dX9_readAct_70 rfl rfl ?_
      refine rn_get (a := 95) (v := .inr (.inr 114)) (q := 74) dX9_readAct_71 fl_X9_67 rfl rfl rfl ?_
      refine rn_iload_n (x := ((3 * k : Nat) : Int)) (q := 75) dX9_readAct_74 rfl rfl ?_
      refine rn_iload_n (x := 115) (q := 76) dX9_readAct_75 rfl rfl ?_
      refine rn_iastV (a := 113) (m1 := am_up (aw M ((s + 1 : Nat) : Int) (-1)) 113 (3 * k) 115) (q := 77) dX9_readAct_76 rfl (by omega) (by omega) rfl rfl ?_
      rw [aw_oc (by decide)]
      refine rn_aload_n (x := 95) (q := 78) dX9_readAct_77 rfl rfl ?_
      refine rn_get (a := 95) (v := .inr (.inr 114)) (q := 81) dX9_readAct_78 fl_X9_67 rfl rfl rfl ?_
      refine rn_iload_n (x := ((3 * k : Nat) : Int)) (q := 82) dX9_readAct_81 rfl rfl ?_
      refine rn_iconst (q := 83) dX9_readAct_82 (am_okd rfl) rfl ?_
      refine rn_iaddN (z := (((3 * k) + 1 : Nat) : Int)) (q := 84) dX9_readAct_83 (by omega) (by unfold am_ok; omega) rfl ?_
      refine rn_iload_n (x := 1) (q := 85) dX9_readAct_84 rfl rfl ?_
      refine rn_ifeq (t := 101) (q := 88) dX9_readAct_85 rfl rfl (fun h => absurd h (by decide)) (fun w85 => ?_)
      refine rn_aload_n (x := 95) (q := 89) dX9_readAct_88 rfl rfl ?_
      refine rn_bipush (q := 91) dX9_readAct_89 ⟨by decide, by decide⟩ rfl ?_
      refine rn_bipush (q := 93) dX9_readAct_91 ⟨by decide, by decide⟩ rfl ?_
      refine rn_callV (b := 95) (as := [.inl 49, .inl 9]) (rest := [.inl (((3 * k) + 1 : Nat) : Int), .inr (.inr 114)]) (q := 96) dX9_readAct_93 ml_X9_158 sm_X9_oneOf rfl rfl (by decide) (by omega) rfl rfl (Nat.le_of_ble_eq_true rfl) rfl (s_oneY (d := d + 0) (hr.put (c := 113) (k := 3 * k) (x := 115) (by decide) (by decide)) (s + 1) 49 9 (by omega) (by omega) (by omega) (by omega) y1) ?_
      intro r93 mem93 hq93
      obtain ⟨rfl, rfl⟩ := hq93
      show am_Rn l G _ _ 96 [some (.inr (.inr 96)), some (.inl ((3 * k : Nat) : Int)), some (.inl 115), some (.inl 1)] [.inl (txAt (T.take 60) ((s + 1 : Nat) : Int) - 49), .inl (((3 * k) + 1 : Nat) : Int), .inr (.inr 114)] (aw (am_up M 113 (3 * k) 115) ((s + 2 : Nat) : Int) (-1)) _
      refine rn_iconst (q := 97) dX9_readAct_96 (am_okd rfl) rfl ?_
      refine rn_iaddN (z := (txAt (T.take 60) ((s + 1 : Nat) : Int) - 49 + 1)) (q := 98) dX9_readAct_97 (by omega) (by unfold am_ok; omega) rfl ?_
      refine rn_goto (t := 109) dX9_readAct_98 rfl ?_
      refine rn_iastV (a := 113) (m1 := am_up (aw (am_up M 113 (3 * k) 115) ((s + 2 : Nat) : Int) (-1)) 113 ((3 * k) + 1) (txAt (T.take 60) ((s + 1 : Nat) : Int) - 49 + 1)) (q := 110) dX9_readAct_109 rfl (by omega) (by omega) rfl rfl ?_
      rw [aw_oc (by decide)]
      refine rn_iload_n (x := 115) (q := 111) dX9_readAct_110 rfl rfl ?_
      refine rn_bipush (q := 113) dX9_readAct_111 ⟨by decide, by decide⟩ rfl ?_
      refine rn_cmpne (t := 132) (q := 116) dX9_readAct_113 rfl rfl (fun w113 => ?_) (fun h => absurd h (by decide))
      refine rn_vret dX9_readAct_132 rfl ?_
      refine hQ _ _ ⟨rfl, am_up (am_up M 113 (3 * k) 115) 113 (3 * k + 1) ((txAt (T.take 60) ((s + 1 : Nat) : Int) - 49 + 1)), ra_fr.1, ra_fr.2, Or.inl ⟨wfA_y (by rw [hc]; decide) (by rw [hc]; exact y2) (fun z => by rw [hc] at z; exact absurd z (by decide)), ?_, ?_, fun z => by rw [hc] at z; exact absurd z (by decide), ?_⟩⟩
      · rw [am_up_neq (by omega), am_up_self, hc]; rfl
      · rw [am_up_self]; have := v1 y2.1; omega
      · rw [show nxA T s = s + 2 by unfold nxA; rw [hc]; rfl]
    · have y2 : ¬ (s + 1 < min T.length 60 ∧ 1 ≤ txDg T ((s + 1 : Nat) : Int)) := fun z => y1 (by have := z1.mpr z; omega)
      refine rn_aload_n (x := 95) (q := 1) dX9_readAct_0 rfl rfl ?_
      refine rn_callV (b := 95) (as := []) (rest := []) (q := 4) dX9_readAct_1 ml_X9_146 sm_X9_here rfl rfl (by decide) (by omega) rfl rfl (Nat.le_of_ble_eq_true rfl) rfl (s_here9 (d := d + 2) hr s (-1) (by omega)) ?_
      intro r1 mem1 hq1
      obtain ⟨rfl, rfl⟩ := hq1
      show am_Rn l G _ _ 4 [some (.inr (.inr 96)), some (.inl ((3 * k : Nat) : Int)), none, none] [.inl (txAt (T.take 60) (s : Int))] (aw M (s : Int) (-1)) _
      rw [e1]
      refine rn_istore_n (ls' := [some (.inr (.inr 96)), some (.inl ((3 * k : Nat) : Int)), some (.inl 115), none]) (q := 5) dX9_readAct_4 (by decide) rfl rfl ?_
      refine rn_iload_n (x := 115) (q := 6) dX9_readAct_5 rfl rfl ?_
      refine rn_bipush (q := 8) dX9_readAct_6 ⟨by decide, by decide⟩ rfl ?_
      refine rn_cmpeq (t := 23) (q := 11) dX9_readAct_8 rfl rfl (fun w8 => ?_) (fun h => absurd h (by decide))
      refine rn_iconst (q := 24) dX9_readAct_23 (am_okd rfl) rfl ?_
      refine rn_goto (t := 28) dX9_readAct_24 rfl ?_
      refine rn_istore_n (ls' := [some (.inr (.inr 96)), some (.inl ((3 * k : Nat) : Int)), some (.inl 115), some (.inl 1)]) (q := 29) dX9_readAct_28 (by decide) rfl rfl ?_
      refine rn_iload_n (x := 1) (q := 30) dX9_readAct_29 rfl rfl ?_
      refine rn_ifne (t := 60) (q := 33) dX9_readAct_30 rfl rfl (fun w30 => ?_) (fun h => absurd h (by decide))
      refine rn_aload_n (x := 95) (q := 61) dX9_readAct_60 rfl rfl ?_
      refine rn_dup (q := 62) dX9_readAct_61 rfl rfl ?_
      refine rn_get (a := 95) (v := .inl (s : Int)) (q := 65) dX9_readAct_62 fl_X9_132 rfl rfl rfl ?_
      refine rn_iconst (q := 66) dX9_readAct_65 (am_okd rfl) rfl ?_
      refine rn_iaddN (z := ((s + 1 : Nat) : Int)) (q := 67) dX9_readAct_66 (by omega) (by unfold am_ok; omega) rfl ?_
      refine rn_puti (a := 95) (q := 70) dX9_readAct_67 fl_X9_132 rfl rfl rfl rfl ?_
      rw [aw_at]
      refine rn_aload_n (x := 95) (q := 71) dX9_readAct_70 rfl rfl ?_
      refine rn_get (a := 95) (v := .inr (.inr 114)) (q := 74) dX9_readAct_71 fl_X9_67 rfl rfl rfl ?_
      refine rn_iload_n (x := ((3 * k : Nat) : Int)) (q := 75) dX9_readAct_74 rfl rfl ?_
      refine rn_iload_n (x := 115) (q := 76) dX9_readAct_75 rfl rfl ?_
      refine rn_iastV (a := 113) (m1 := am_up (aw M ((s + 1 : Nat) : Int) (-1)) 113 (3 * k) 115) (q := 77) dX9_readAct_76 rfl (by omega) (by omega) rfl rfl ?_
      rw [aw_oc (by decide)]
      refine rn_aload_n (x := 95) (q := 78) dX9_readAct_77 rfl rfl ?_
      refine rn_get (a := 95) (v := .inr (.inr 114)) (q := 81) dX9_readAct_78 fl_X9_67 rfl rfl rfl ?_
      refine rn_iload_n (x := ((3 * k : Nat) : Int)) (q := 82) dX9_readAct_81 rfl rfl ?_
      refine rn_iconst (q := 83) dX9_readAct_82 (am_okd rfl) rfl ?_
      refine rn_iaddN (z := (((3 * k) + 1 : Nat) : Int)) (q := 84) dX9_readAct_83 (by omega) (by unfold am_ok; omega) rfl ?_
      refine rn_iload_n (x := 1) (q := 85) dX9_readAct_84 rfl rfl ?_
      refine rn_ifeq (t := 101) (q := 88) dX9_readAct_85 rfl rfl (fun h => absurd h (by decide)) (fun w85 => ?_)
      refine rn_aload_n (x := 95) (q := 89) dX9_readAct_88 rfl rfl ?_
      refine rn_bipush (q := 91) dX9_readAct_89 ⟨by decide, by decide⟩ rfl ?_
      refine rn_bipush (q := 93) dX9_readAct_91 ⟨by decide, by decide⟩ rfl ?_
      refine rn_callV (b := 95) (as := [.inl 49, .inl 9]) (rest := [.inl (((3 * k) + 1 : Nat) : Int), .inr (.inr 114)]) (q := 96) dX9_readAct_93 ml_X9_158 sm_X9_oneOf rfl rfl (by decide) (by omega) rfl rfl (Nat.le_of_ble_eq_true rfl) rfl (s_oneF (d := d + 0) (hr.put (c := 113) (k := 3 * k) (x := 115) (by decide) (by decide)) (s + 1) 49 9 (by omega) (by omega) (by omega) (by omega) y1) ?_
      intro r93 mem93 hq93
      obtain ⟨rfl, rfl⟩ := hq93
      show am_Rn l G _ _ 96 [some (.inr (.inr 96)), some (.inl ((3 * k : Nat) : Int)), some (.inl 115), some (.inl 1)] [.inl (0), .inl (((3 * k) + 1 : Nat) : Int), .inr (.inr 114)] (aw (am_up M 113 (3 * k) 115) ((s + 1 : Nat) : Int) ((s + 1 : Nat) : Int)) _
      refine rn_iconst (q := 97) dX9_readAct_96 (am_okd rfl) rfl ?_
      refine rn_iaddN (z := (0 + 1)) (q := 98) dX9_readAct_97 (by omega) (by unfold am_ok; omega) rfl ?_
      refine rn_goto (t := 109) dX9_readAct_98 rfl ?_
      refine rn_iastV (a := 113) (m1 := am_up (aw (am_up M 113 (3 * k) 115) ((s + 1 : Nat) : Int) ((s + 1 : Nat) : Int)) 113 ((3 * k) + 1) (0 + 1)) (q := 110) dX9_readAct_109 rfl (by omega) (by omega) rfl rfl ?_
      rw [aw_oc (by decide)]
      refine rn_iload_n (x := 115) (q := 111) dX9_readAct_110 rfl rfl ?_
      refine rn_bipush (q := 113) dX9_readAct_111 ⟨by decide, by decide⟩ rfl ?_
      refine rn_cmpne (t := 132) (q := 116) dX9_readAct_113 rfl rfl (fun w113 => ?_) (fun h => absurd h (by decide))
      refine rn_vret dX9_readAct_132 rfl ?_
      exact hQ _ _ ⟨rfl, am_up (am_up M 113 (3 * k) 115) 113 (3 * k + 1) ((0 + 1)), ra_fr.1, ra_fr.2, Or.inr ⟨s + 1, s + 1, wfA_n1 (by rw [hc]; decide) (by rw [hc]; exact y2), by omega, rfl⟩⟩
  by_cases c98 : c = 98
  · subst c98
    rw [hc] at e1
    by_cases y1 : 49 ≤ txAt (T.take 60) ((s + 1 : Nat) : Int) ∧ txAt (T.take 60) ((s + 1 : Nat) : Int) < 49 + 9
    · have y2 := z1.mp ⟨by omega, by omega⟩
      refine rn_aload_n (x := 95) (q := 1) dX9_readAct_0 rfl rfl ?_
      refine rn_callV (b := 95) (as := []) (rest := []) (q := 4) dX9_readAct_1 ml_X9_146 sm_X9_here rfl rfl (by decide) (by omega) rfl rfl (Nat.le_of_ble_eq_true rfl) rfl (s_here9 (d := d + 2) hr s (-1) (by omega)) ?_
      intro r1 mem1 hq1
      obtain ⟨rfl, rfl⟩ := hq1
      show am_Rn l G _ _ 4 [some (.inr (.inr 96)), some (.inl ((3 * k : Nat) : Int)), none, none] [.inl (txAt (T.take 60) (s : Int))] (aw M (s : Int) (-1)) _
      rw [e1]
      refine rn_istore_n (ls' := [some (.inr (.inr 96)), some (.inl ((3 * k : Nat) : Int)), some (.inl 98), none]) (q := 5) dX9_readAct_4 (by decide) rfl rfl ?_
      refine rn_iload_n (x := 98) (q := 6) dX9_readAct_5 rfl rfl ?_
      refine rn_bipush (q := 8) dX9_readAct_6 ⟨by decide, by decide⟩ rfl ?_
      refine rn_cmpeq (t := 23) (q := 11) dX9_readAct_8 rfl rfl (fun h => absurd h (by decide)) (fun w8 => ?_)
      refine rn_iload_n (x := 98) (q := 12) dX9_readAct_11 rfl rfl ?_
      refine rn_bipush (q := 14) dX9_readAct_12 ⟨by decide, by decide⟩ rfl ?_
      refine rn_cmpeq (t := 23) (q := 17) dX9_readAct_14 rfl rfl (fun w14 => ?_) (fun h => absurd h (by decide))
      refine rn_iconst (q := 24) dX9_readAct_23 (am_okd rfl) rfl ?_
      refine rn_goto (t := 28) dX9_readAct_24 rfl ?_
      refine rn_istore_n (ls' := [some (.inr (.inr 96)), some (.inl ((3 * k : Nat) : Int)), some (.inl 98), some (.inl 1)]) (q := 29) dX9_readAct_28 (by decide) rfl rfl ?_
      refine rn_iload_n (x := 1) (q := 30) dX9_readAct_29 rfl rfl ?_
      refine rn_ifne (t := 60) (q := 33) dX9_readAct_30 rfl rfl (fun w30 => ?_) (fun h => absurd h (by decide))
      refine rn_aload_n (x := 95) (q := 61) dX9_readAct_60 rfl rfl ?_
      refine rn_dup (q := 62) dX9_readAct_61 rfl rfl ?_
      refine rn_get (a := 95) (v := .inl (s : Int)) (q := 65) dX9_readAct_62 fl_X9_132 rfl rfl rfl ?_
      refine rn_iconst (q := 66) dX9_readAct_65 (am_okd rfl) rfl ?_
      refine rn_iaddN (z := ((s + 1 : Nat) : Int)) (q := 67) dX9_readAct_66 (by omega) (by unfold am_ok; omega) rfl ?_
      refine rn_puti (a := 95) (q := 70) dX9_readAct_67 fl_X9_132 rfl rfl rfl rfl ?_
      rw [aw_at]
      refine rn_aload_n (x := 95) (q := 71) dX9_readAct_70 rfl rfl ?_
      refine rn_get (a := 95) (v := .inr (.inr 114)) (q := 74) dX9_readAct_71 fl_X9_67 rfl rfl rfl ?_
      refine rn_iload_n (x := ((3 * k : Nat) : Int)) (q := 75) dX9_readAct_74 rfl rfl ?_
      refine rn_iload_n (x := 98) (q := 76) dX9_readAct_75 rfl rfl ?_
      refine rn_iastV (a := 113) (m1 := am_up (aw M ((s + 1 : Nat) : Int) (-1)) 113 (3 * k) 98) (q := 77) dX9_readAct_76 rfl (by omega) (by omega) rfl rfl ?_
      rw [aw_oc (by decide)]
      refine rn_aload_n (x := 95) (q := 78) dX9_readAct_77 rfl rfl ?_
      refine rn_get (a := 95) (v := .inr (.inr 114)) (q := 81) dX9_readAct_78 fl_X9_67 rfl rfl rfl ?_
      refine rn_iload_n (x := ((3 * k : Nat) : Int)) (q := 82) dX9_readAct_81 rfl rfl ?_
      refine rn_iconst (q := 83) dX9_readAct_82 (am_okd rfl) rfl ?_
      refine rn_iaddN (z := (((3 * k) + 1 : Nat) : Int)) (q := 84) dX9_readAct_83 (by omega) (by unfold am_ok; omega) rfl ?_
      refine rn_iload_n (x := 1) (q := 85) dX9_readAct_84 rfl rfl ?_
      refine rn_ifeq (t := 101) (q := 88) dX9_readAct_85 rfl rfl (fun h => absurd h (by decide)) (fun w85 => ?_)
      refine rn_aload_n (x := 95) (q := 89) dX9_readAct_88 rfl rfl ?_
      refine rn_bipush (q := 91) dX9_readAct_89 ⟨by decide, by decide⟩ rfl ?_
      refine rn_bipush (q := 93) dX9_readAct_91 ⟨by decide, by decide⟩ rfl ?_
      refine rn_callV (b := 95) (as := [.inl 49, .inl 9]) (rest := [.inl (((3 * k) + 1 : Nat) : Int), .inr (.inr 114)]) (q := 96) dX9_readAct_93 ml_X9_158 sm_X9_oneOf rfl rfl (by decide) (by omega) rfl rfl (Nat.le_of_ble_eq_true rfl) rfl (s_oneY (d := d + 0) (hr.put (c := 113) (k := 3 * k) (x := 98) (by decide) (by decide)) (s + 1) 49 9 (by omega) (by omega) (by omega) (by omega) y1) ?_
      intro r93 mem93 hq93
      obtain ⟨rfl, rfl⟩ := hq93
      show am_Rn l G _ _ 96 [some (.inr (.inr 96)), some (.inl ((3 * k : Nat) : Int)), some (.inl 98), some (.inl 1)] [.inl (txAt (T.take 60) ((s + 1 : Nat) : Int) - 49), .inl (((3 * k) + 1 : Nat) : Int), .inr (.inr 114)] (aw (am_up M 113 (3 * k) 98) ((s + 2 : Nat) : Int) (-1)) _
      refine rn_iconst (q := 97) dX9_readAct_96 (am_okd rfl) rfl ?_
      refine rn_iaddN (z := (txAt (T.take 60) ((s + 1 : Nat) : Int) - 49 + 1)) (q := 98) dX9_readAct_97 (by omega) (by unfold am_ok; omega) rfl ?_
      refine rn_goto (t := 109) dX9_readAct_98 rfl ?_
      refine rn_iastV (a := 113) (m1 := am_up (aw (am_up M 113 (3 * k) 98) ((s + 2 : Nat) : Int) (-1)) 113 ((3 * k) + 1) (txAt (T.take 60) ((s + 1 : Nat) : Int) - 49 + 1)) (q := 110) dX9_readAct_109 rfl (by omega) (by omega) rfl rfl ?_
      rw [aw_oc (by decide)]
      refine rn_iload_n (x := 98) (q := 111) dX9_readAct_110 rfl rfl ?_
      refine rn_bipush (q := 113) dX9_readAct_111 ⟨by decide, by decide⟩ rfl ?_
      refine rn_cmpne (t := 132) (q := 116) dX9_readAct_113 rfl rfl (fun w113 => ?_) (fun h => absurd h (by decide))
      refine rn_vret dX9_readAct_132 rfl ?_
      refine hQ _ _ ⟨rfl, am_up (am_up M 113 (3 * k) 98) 113 (3 * k + 1) ((txAt (T.take 60) ((s + 1 : Nat) : Int) - 49 + 1)), ra_fr.1, ra_fr.2, Or.inl ⟨wfA_y (by rw [hc]; decide) (by rw [hc]; exact y2) (fun z => by rw [hc] at z; exact absurd z (by decide)), ?_, ?_, fun z => by rw [hc] at z; exact absurd z (by decide), ?_⟩⟩
      · rw [am_up_neq (by omega), am_up_self, hc]; rfl
      · rw [am_up_self]; have := v1 y2.1; omega
      · rw [show nxA T s = s + 2 by unfold nxA; rw [hc]; rfl]
    · have y2 : ¬ (s + 1 < min T.length 60 ∧ 1 ≤ txDg T ((s + 1 : Nat) : Int)) := fun z => y1 (by have := z1.mpr z; omega)
      refine rn_aload_n (x := 95) (q := 1) dX9_readAct_0 rfl rfl ?_
      refine rn_callV (b := 95) (as := []) (rest := []) (q := 4) dX9_readAct_1 ml_X9_146 sm_X9_here rfl rfl (by decide) (by omega) rfl rfl (Nat.le_of_ble_eq_true rfl) rfl (s_here9 (d := d + 2) hr s (-1) (by omega)) ?_
      intro r1 mem1 hq1
      obtain ⟨rfl, rfl⟩ := hq1
      show am_Rn l G _ _ 4 [some (.inr (.inr 96)), some (.inl ((3 * k : Nat) : Int)), none, none] [.inl (txAt (T.take 60) (s : Int))] (aw M (s : Int) (-1)) _
      rw [e1]
      refine rn_istore_n (ls' := [some (.inr (.inr 96)), some (.inl ((3 * k : Nat) : Int)), some (.inl 98), none]) (q := 5) dX9_readAct_4 (by decide) rfl rfl ?_
      refine rn_iload_n (x := 98) (q := 6) dX9_readAct_5 rfl rfl ?_
      refine rn_bipush (q := 8) dX9_readAct_6 ⟨by decide, by decide⟩ rfl ?_
      refine rn_cmpeq (t := 23) (q := 11) dX9_readAct_8 rfl rfl (fun h => absurd h (by decide)) (fun w8 => ?_)
      refine rn_iload_n (x := 98) (q := 12) dX9_readAct_11 rfl rfl ?_
      refine rn_bipush (q := 14) dX9_readAct_12 ⟨by decide, by decide⟩ rfl ?_
      refine rn_cmpeq (t := 23) (q := 17) dX9_readAct_14 rfl rfl (fun w14 => ?_) (fun h => absurd h (by decide))
      refine rn_iconst (q := 24) dX9_readAct_23 (am_okd rfl) rfl ?_
      refine rn_goto (t := 28) dX9_readAct_24 rfl ?_
      refine rn_istore_n (ls' := [some (.inr (.inr 96)), some (.inl ((3 * k : Nat) : Int)), some (.inl 98), some (.inl 1)]) (q := 29) dX9_readAct_28 (by decide) rfl rfl ?_
      refine rn_iload_n (x := 1) (q := 30) dX9_readAct_29 rfl rfl ?_
      refine rn_ifne (t := 60) (q := 33) dX9_readAct_30 rfl rfl (fun w30 => ?_) (fun h => absurd h (by decide))
      refine rn_aload_n (x := 95) (q := 61) dX9_readAct_60 rfl rfl ?_
      refine rn_dup (q := 62) dX9_readAct_61 rfl rfl ?_
      refine rn_get (a := 95) (v := .inl (s : Int)) (q := 65) dX9_readAct_62 fl_X9_132 rfl rfl rfl ?_
      refine rn_iconst (q := 66) dX9_readAct_65 (am_okd rfl) rfl ?_
      refine rn_iaddN (z := ((s + 1 : Nat) : Int)) (q := 67) dX9_readAct_66 (by omega) (by unfold am_ok; omega) rfl ?_
      refine rn_puti (a := 95) (q := 70) dX9_readAct_67 fl_X9_132 rfl rfl rfl rfl ?_
      rw [aw_at]
      refine rn_aload_n (x := 95) (q := 71) dX9_readAct_70 rfl rfl ?_
      refine rn_get (a := 95) (v := .inr (.inr 114)) (q := 74) dX9_readAct_71 fl_X9_67 rfl rfl rfl ?_
      refine rn_iload_n (x := ((3 * k : Nat) : Int)) (q := 75) dX9_readAct_74 rfl rfl ?_
      refine rn_iload_n (x := 98) (q := 76) dX9_readAct_75 rfl rfl ?_
      refine rn_iastV (a := 113) (m1 := am_up (aw M ((s + 1 : Nat) : Int) (-1)) 113 (3 * k) 98) (q := 77) dX9_readAct_76 rfl (by omega) (by omega) rfl rfl ?_
      rw [aw_oc (by decide)]
      refine rn_aload_n (x := 95) (q := 78) dX9_readAct_77 rfl rfl ?_
      refine rn_get (a := 95) (v := .inr (.inr 114)) (q := 81) dX9_readAct_78 fl_X9_67 rfl rfl rfl ?_
      refine rn_iload_n (x := ((3 * k : Nat) : Int)) (q := 82) dX9_readAct_81 rfl rfl ?_
      refine rn_iconst (q := 83) dX9_readAct_82 (am_okd rfl) rfl ?_
      refine rn_iaddN (z := (((3 * k) + 1 : Nat) : Int)) (q := 84) dX9_readAct_83 (by omega) (by unfold am_ok; omega) rfl ?_
      refine rn_iload_n (x := 1) (q := 85) dX9_readAct_84 rfl rfl ?_
      refine rn_ifeq (t := 101) (q := 88) dX9_readAct_85 rfl rfl (fun h => absurd h (by decide)) (fun w85 => ?_)
      refine rn_aload_n (x := 95) (q := 89) dX9_readAct_88 rfl rfl ?_
      refine rn_bipush (q := 91) dX9_readAct_89 ⟨by decide, by decide⟩ rfl ?_
      refine rn_bipush (q := 93) dX9_readAct_91 ⟨by decide, by decide⟩ rfl ?_
      refine rn_callV (b := 95) (as := [.inl 49, .inl 9]) (rest := [.inl (((3 * k) + 1 : Nat) : Int), .inr (.inr 114)]) (q := 96) dX9_readAct_93 ml_X9_158 sm_X9_oneOf rfl rfl (by decide) (by omega) rfl rfl (Nat.le_of_ble_eq_true rfl) rfl (s_oneF (d := d + 0) (hr.put (c := 113) (k := 3 * k) (x := 98) (by decide) (by decide)) (s + 1) 49 9 (by omega) (by omega) (by omega) (by omega) y1) ?_
      intro r93 mem93 hq93
      obtain ⟨rfl, rfl⟩ := hq93
      show am_Rn l G _ _ 96 [some (.inr (.inr 96)), some (.inl ((3 * k : Nat) : Int)), some (.inl 98), some (.inl 1)] [.inl (0), .inl (((3 * k) + 1 : Nat) : Int), .inr (.inr 114)] (aw (am_up M 113 (3 * k) 98) ((s + 1 : Nat) : Int) ((s + 1 : Nat) : Int)) _
      refine rn_iconst (q := 97) dX9_readAct_96 (am_okd rfl) rfl ?_
      refine rn_iaddN (z := (0 + 1)) (q := 98) dX9_readAct_97 (by omega) (by unfold am_ok; omega) rfl ?_
      refine rn_goto (t := 109) dX9_readAct_98 rfl ?_
      refine rn_iastV (a := 113) (m1 := am_up (aw (am_up M 113 (3 * k) 98) ((s + 1 : Nat) : Int) ((s + 1 : Nat) : Int)) 113 ((3 * k) + 1) (0 + 1)) (q := 110) dX9_readAct_109 rfl (by omega) (by omega) rfl rfl ?_
      rw [aw_oc (by decide)]
      refine rn_iload_n (x := 98) (q := 111) dX9_readAct_110 rfl rfl ?_
      refine rn_bipush (q := 113) dX9_readAct_111 ⟨by decide, by decide⟩ rfl ?_
      refine rn_cmpne (t := 132) (q := 116) dX9_readAct_113 rfl rfl (fun w113 => ?_) (fun h => absurd h (by decide))
      refine rn_vret dX9_readAct_132 rfl ?_
      exact hQ _ _ ⟨rfl, am_up (am_up M 113 (3 * k) 98) 113 (3 * k + 1) ((0 + 1)), ra_fr.1, ra_fr.2, Or.inr ⟨s + 1, s + 1, wfA_n1 (by rw [hc]; decide) (by rw [hc]; exact y2), by omega, rfl⟩⟩
  by_cases c97 : c = 97
  · subst c97
    rw [hc] at e1
    by_cases y1 : 49 ≤ txAt (T.take 60) ((s + 1 : Nat) : Int) ∧ txAt (T.take 60) ((s + 1 : Nat) : Int) < 49 + 9
    · have y2 := z1.mp ⟨by omega, by omega⟩
      refine rn_aload_n (x := 95) (q := 1) dX9_readAct_0 rfl rfl ?_
      refine rn_callV (b := 95) (as := []) (rest := []) (q := 4) dX9_readAct_1 ml_X9_146 sm_X9_here rfl rfl (by decide) (by omega) rfl rfl (Nat.le_of_ble_eq_true rfl) rfl (s_here9 (d := d + 2) hr s (-1) (by omega)) ?_
      intro r1 mem1 hq1
      obtain ⟨rfl, rfl⟩ := hq1
      show am_Rn l G _ _ 4 [some (.inr (.inr 96)), some (.inl ((3 * k : Nat) : Int)), none, none] [.inl (txAt (T.take 60) (s : Int))] (aw M (s : Int) (-1)) _
      rw [e1]
      refine rn_istore_n (ls' := [some (.inr (.inr 96)), some (.inl ((3 * k : Nat) : Int)), some (.inl 97), none]) (q := 5) dX9_readAct_4 (by decide) rfl rfl ?_
      refine rn_iload_n (x := 97) (q := 6) dX9_readAct_5 rfl rfl ?_
      refine rn_bipush (q := 8) dX9_readAct_6 ⟨by decide, by decide⟩ rfl ?_
      refine rn_cmpeq (t := 23) (q := 11) dX9_readAct_8 rfl rfl (fun h => absurd h (by decide)) (fun w8 => ?_)
      refine rn_iload_n (x := 97) (q := 12) dX9_readAct_11 rfl rfl ?_
      refine rn_bipush (q := 14) dX9_readAct_12 ⟨by decide, by decide⟩ rfl ?_
      refine rn_cmpeq (t := 23) (q := 17) dX9_readAct_14 rfl rfl (fun h => absurd h (by decide)) (fun w14 => ?_)
      refine rn_iload_n (x := 97) (q := 18) dX9_readAct_17 rfl rfl ?_
      refine rn_bipush (q := 20) dX9_readAct_18 ⟨by decide, by decide⟩ rfl ?_
      refine rn_cmpne (t := 27) (q := 23) dX9_readAct_20 rfl rfl (fun h => absurd h (by decide)) (fun w20 => ?_)
      refine rn_iconst (q := 24) dX9_readAct_23 (am_okd rfl) rfl ?_
      refine rn_goto (t := 28) dX9_readAct_24 rfl ?_
      refine rn_istore_n (ls' := [some (.inr (.inr 96)), some (.inl ((3 * k : Nat) : Int)), some (.inl 97), some (.inl 1)]) (q := 29) dX9_readAct_28 (by decide) rfl rfl ?_
      refine rn_iload_n (x := 1) (q := 30) dX9_readAct_29 rfl rfl ?_
      refine rn_ifne (t := 60) (q := 33) dX9_readAct_30 rfl rfl (fun w30 => ?_) (fun h => absurd h (by decide))
      refine rn_aload_n (x := 95) (q := 61) dX9_readAct_60 rfl rfl ?_
      refine rn_dup (q := 62) dX9_readAct_61 rfl rfl ?_
      refine rn_get (a := 95) (v := .inl (s : Int)) (q := 65) dX9_readAct_62 fl_X9_132 rfl rfl rfl ?_
      refine rn_iconst (q := 66) dX9_readAct_65 (am_okd rfl) rfl ?_
      refine rn_iaddN (z := ((s + 1 : Nat) : Int)) (q := 67) dX9_readAct_66 (by omega) (by unfold am_ok; omega) rfl ?_
      refine rn_puti (a := 95) (q := 70) dX9_readAct_67 fl_X9_132 rfl rfl rfl rfl ?_
      rw [aw_at]
      refine rn_aload_n (x := 95) (q := 71) dX9_readAct_70 rfl rfl ?_
      refine rn_get (a := 95) (v := .inr (.inr 114)) (q := 74) dX9_readAct_71 fl_X9_67 rfl rfl rfl ?_
      refine rn_iload_n (x := ((3 * k : Nat) : Int)) (q := 75) dX9_readAct_74 rfl rfl ?_
      refine rn_iload_n (x := 97) (q := 76) dX9_readAct_75 rfl rfl ?_
      refine rn_iastV (a := 113) (m1 := am_up (aw M ((s + 1 : Nat) : Int) (-1)) 113 (3 * k) 97) (q := 77) dX9_readAct_76 rfl (by omega) (by omega) rfl rfl ?_
      rw [aw_oc (by decide)]
      refine rn_aload_n (x := 95) (q := 78) dX9_readAct_77 rfl rfl ?_
      refine rn_get (a := 95) (v := .inr (.inr 114)) (q := 81) dX9_readAct_78 fl_X9_67 rfl rfl rfl ?_
      refine rn_iload_n (x := ((3 * k : Nat) : Int)) (q := 82) dX9_readAct_81 rfl rfl ?_
      refine rn_iconst (q := 83) dX9_readAct_82 (am_okd rfl) rfl ?_
      refine rn_iaddN (z := (((3 * k) + 1 : Nat) : Int)) (q := 84) dX9_readAct_83 (by omega) (by unfold am_ok; omega) rfl ?_
      refine rn_iload_n (x := 1) (q := 85) dX9_readAct_84 rfl rfl ?_
      refine rn_ifeq (t := 101) (q := 88) dX9_readAct_85 rfl rfl (fun h => absurd h (by decide)) (fun w85 => ?_)
      refine rn_aload_n (x := 95) (q := 89) dX9_readAct_88 rfl rfl ?_
      refine rn_bipush (q := 91) dX9_readAct_89 ⟨by decide, by decide⟩ rfl ?_
      refine rn_bipush (q := 93) dX9_readAct_91 ⟨by decide, by decide⟩ rfl ?_
      refine rn_callV (b := 95) (as := [.inl 49, .inl 9]) (rest := [.inl (((3 * k) + 1 : Nat) : Int), .inr (.inr 114)]) (q := 96) dX9_readAct_93 ml_X9_158 sm_X9_oneOf rfl rfl (by decide) (by omega) rfl rfl (Nat.le_of_ble_eq_true rfl) rfl (s_oneY (d := d + 0) (hr.put (c := 113) (k := 3 * k) (x := 97) (by decide) (by decide)) (s + 1) 49 9 (by omega) (by omega) (by omega) (by omega) y1) ?_
      intro r93 mem93 hq93
      obtain ⟨rfl, rfl⟩ := hq93
      show am_Rn l G _ _ 96 [some (.inr (.inr 96)), some (.inl ((3 * k : Nat) : Int)), some (.inl 97), some (.inl 1)] [.inl (txAt (T.take 60) ((s + 1 : Nat) : Int) - 49), .inl (((3 * k) + 1 : Nat) : Int), .inr (.inr 114)] (aw (am_up M 113 (3 * k) 97) ((s + 2 : Nat) : Int) (-1)) _
      refine rn_iconst (q := 97) dX9_readAct_96 (am_okd rfl) rfl ?_
      refine rn_iaddN (z := (txAt (T.take 60) ((s + 1 : Nat) : Int) - 49 + 1)) (q := 98) dX9_readAct_97 (by omega) (by unfold am_ok; omega) rfl ?_
      refine rn_goto (t := 109) dX9_readAct_98 rfl ?_
      refine rn_iastV (a := 113) (m1 := am_up (aw (am_up M 113 (3 * k) 97) ((s + 2 : Nat) : Int) (-1)) 113 ((3 * k) + 1) (txAt (T.take 60) ((s + 1 : Nat) : Int) - 49 + 1)) (q := 110) dX9_readAct_109 rfl (by omega) (by omega) rfl rfl ?_
      rw [aw_oc (by decide)]
      refine rn_iload_n (x := 97) (q := 111) dX9_readAct_110 rfl rfl ?_
      refine rn_bipush (q := 113) dX9_readAct_111 ⟨by decide, by decide⟩ rfl ?_
      refine rn_cmpne (t := 132) (q := 116) dX9_readAct_113 rfl rfl (fun w113 => ?_) (fun h => absurd h (by decide))
      refine rn_vret dX9_readAct_132 rfl ?_
      refine hQ _ _ ⟨rfl, am_up (am_up M 113 (3 * k) 97) 113 (3 * k + 1) ((txAt (T.take 60) ((s + 1 : Nat) : Int) - 49 + 1)), ra_fr.1, ra_fr.2, Or.inl ⟨wfA_y (by rw [hc]; decide) (by rw [hc]; exact y2) (fun z => by rw [hc] at z; exact absurd z (by decide)), ?_, ?_, fun z => by rw [hc] at z; exact absurd z (by decide), ?_⟩⟩
      · rw [am_up_neq (by omega), am_up_self, hc]; rfl
      · rw [am_up_self]; have := v1 y2.1; omega
      · rw [show nxA T s = s + 2 by unfold nxA; rw [hc]; rfl]
    · have y2 : ¬ (s + 1 < min T.length 60 ∧ 1 ≤ txDg T ((s + 1 : Nat) : Int)) := fun z => y1 (by have := z1.mpr z; omega)
      refine rn_aload_n (x := 95) (q := 1) dX9_readAct_0 rfl rfl ?_
      refine rn_callV (b := 95) (as := []) (rest := []) (q := 4) dX9_readAct_1 ml_X9_146 sm_X9_here rfl rfl (by decide) (by omega) rfl rfl (Nat.le_of_ble_eq_true rfl) rfl (s_here9 (d := d + 2) hr s (-1) (by omega)) ?_
      intro r1 mem1 hq1
      obtain ⟨rfl, rfl⟩ := hq1
      show am_Rn l G _ _ 4 [some (.inr (.inr 96)), some (.inl ((3 * k : Nat) : Int)), none, none] [.inl (txAt (T.take 60) (s : Int))] (aw M (s : Int) (-1)) _
      rw [e1]
      refine rn_istore_n (ls' := [some (.inr (.inr 96)), some (.inl ((3 * k : Nat) : Int)), some (.inl 97), none]) (q := 5) dX9_readAct_4 (by decide) rfl rfl ?_
      refine rn_iload_n (x := 97) (q := 6) dX9_readAct_5 rfl rfl ?_
      refine rn_bipush (q := 8) dX9_readAct_6 ⟨by decide, by decide⟩ rfl ?_
      refine rn_cmpeq (t := 23) (q := 11) dX9_readAct_8 rfl rfl (fun h => absurd h (by decide)) (fun w8 => ?_)
      refine rn_iload_n (x := 97) (q := 12) dX9_readAct_11 rfl rfl ?_
      refine rn_bipush (q := 14) dX9_readAct_12 ⟨by decide, by decide⟩ rfl ?_
      refine rn_cmpeq (t := 23) (q := 17) dX9_readAct_14 rfl rfl (fun h => absurd h (by decide)) (fun w14 => ?_)
      refine rn_iload_n (x := 97) (q := 18) dX9_readAct_17 rfl rfl ?_
      refine rn_bipush (q := 20) dX9_readAct_18 ⟨by decide, by decide⟩ rfl ?_
      refine rn_cmpne (t := 27) (q := 23) dX9_readAct_20 rfl rfl (fun h => absurd h (by decide)) (fun w20 => ?_)
      refine rn_iconst (q := 24) dX9_readAct_23 (am_okd rfl) rfl ?_
      refine rn_goto (t := 28) dX9_readAct_24 rfl ?_
      refine rn_istore_n (ls' := [some (.inr (.inr 96)), some (.inl ((3 * k : Nat) : Int)), some (.inl 97), some (.inl 1)]) (q := 29) dX9_readAct_28 (by decide) rfl rfl ?_
      refine rn_iload_n (x := 1) (q := 30) dX9_readAct_29 rfl rfl ?_
      refine rn_ifne (t := 60) (q := 33) dX9_readAct_30 rfl rfl (fun w30 => ?_) (fun h => absurd h (by decide))
      refine rn_aload_n (x := 95) (q := 61) dX9_readAct_60 rfl rfl ?_
      refine rn_dup (q := 62) dX9_readAct_61 rfl rfl ?_
      refine rn_get (a := 95) (v := .inl (s : Int)) (q := 65) dX9_readAct_62 fl_X9_132 rfl rfl rfl ?_
      refine rn_iconst (q := 66) dX9_readAct_65 (am_okd rfl) rfl ?_
      refine rn_iaddN (z := ((s + 1 : Nat) : Int)) (q := 67) dX9_readAct_66 (by omega) (by unfold am_ok; omega) rfl ?_
      refine rn_puti (a := 95) (q := 70) dX9_readAct_67 fl_X9_132 rfl rfl rfl rfl ?_
      rw [aw_at]
      refine rn_aload_n (x := 95) (q := 71) dX9_readAct_70 rfl rfl ?_
      refine rn_get (a := 95) (v := .inr (.inr 114)) (q := 74) dX9_readAct_71 fl_X9_67 rfl rfl rfl ?_
      refine rn_iload_n (x := ((3 * k : Nat) : Int)) (q := 75) dX9_readAct_74 rfl rfl ?_
      refine rn_iload_n (x := 97) (q := 76) dX9_readAct_75 rfl rfl ?_
      refine rn_iastV (a := 113) (m1 := am_up (aw M ((s + 1 : Nat) : Int) (-1)) 113 (3 * k) 97) (q := 77) dX9_readAct_76 rfl (by omega) (by omega) rfl rfl ?_
      rw [aw_oc (by decide)]
      refine rn_aload_n (x := 95) (q := 78) dX9_readAct_77 rfl rfl ?_
      refine rn_get (a := 95) (v := .inr (.inr 114)) (q := 81) dX9_readAct_78 fl_X9_67 rfl rfl rfl ?_
      refine rn_iload_n (x := ((3 * k : Nat) : Int)) (q := 82) dX9_readAct_81 rfl rfl ?_
      refine rn_iconst (q := 83) dX9_readAct_82 (am_okd rfl) rfl ?_
      refine rn_iaddN (z := (((3 * k) + 1 : Nat) : Int)) (q := 84) dX9_readAct_83 (by omega) (by unfold am_ok; omega) rfl ?_
      refine rn_iload_n (x := 1) (q := 85) dX9_readAct_84 rfl rfl ?_
      refine rn_ifeq (t := 101) (q := 88) dX9_readAct_85 rfl rfl (fun h => absurd h (by decide)) (fun w85 => ?_)
      refine rn_aload_n (x := 95) (q := 89) dX9_readAct_88 rfl rfl ?_
      refine rn_bipush (q := 91) dX9_readAct_89 ⟨by decide, by decide⟩ rfl ?_
      refine rn_bipush (q := 93) dX9_readAct_91 ⟨by decide, by decide⟩ rfl ?_
      refine rn_callV (b := 95) (as := [.inl 49, .inl 9]) (rest := [.inl (((3 * k) + 1 : Nat) : Int), .inr (.inr 114)]) (q := 96) dX9_readAct_93 ml_X9_158 sm_X9_oneOf rfl rfl (by decide) (by omega) rfl rfl (Nat.le_of_ble_eq_true rfl) rfl (s_oneF (d := d + 0) (hr.put (c := 113) (k := 3 * k) (x := 97) (by decide) (by decide)) (s + 1) 49 9 (by omega) (by omega) (by omega) (by omega) y1) ?_
      intro r93 mem93 hq93
      obtain ⟨rfl, rfl⟩ := hq93
      show am_Rn l G _ _ 96 [some (.inr (.inr 96)), some (.inl ((3 * k : Nat) : Int)), some (.inl 97), some (.inl 1)] [.inl (0), .inl (((3 * k) + 1 : Nat) : Int), .inr (.inr 114)] (aw (am_up M 113 (3 * k) 97) ((s + 1 : Nat) : Int) ((s + 1 : Nat) : Int)) _
      refine rn_iconst (q := 97) dX9_readAct_96 (am_okd rfl) rfl ?_
      refine rn_iaddN (z := (0 + 1)) (q := 98) dX9_readAct_97 (by omega) (by unfold am_ok; omega) rfl ?_
      refine rn_goto (t := 109) dX9_readAct_98 rfl ?_
      refine rn_iastV (a := 113) (m1 := am_up (aw (am_up M 113 (3 * k) 97) ((s + 1 : Nat) : Int) ((s + 1 : Nat) : Int)) 113 ((3 * k) + 1) (0 + 1)) (q := 110) dX9_readAct_109 rfl (by omega) (by omega) rfl rfl ?_
      rw [aw_oc (by decide)]
      refine rn_iload_n (x := 97) (q := 111) dX9_readAct_110 rfl rfl ?_
      refine rn_bipush (q := 113) dX9_readAct_111 ⟨by decide, by decide⟩ rfl ?_
      refine rn_cmpne (t := 132) (q := 116) dX9_readAct_113 rfl rfl (fun w113 => ?_) (fun h => absurd h (by decide))
      refine rn_vret dX9_readAct_132 rfl ?_
      exact hQ _ _ ⟨rfl, am_up (am_up M 113 (3 * k) 97) 113 (3 * k + 1) ((0 + 1)), ra_fr.1, ra_fr.2, Or.inr ⟨s + 1, s + 1, wfA_n1 (by rw [hc]; decide) (by rw [hc]; exact y2), by omega, rfl⟩⟩
  by_cases c110 : c = 110
  · subst c110
    rw [hc] at e1
    by_cases y1 : 48 ≤ txAt (T.take 60) ((s + 1 : Nat) : Int) ∧ txAt (T.take 60) ((s + 1 : Nat) : Int) < 48 + 10
    · have y2 := z0.mp ⟨by omega, by omega⟩
      refine rn_aload_n (x := 95) (q := 1) dX9_readAct_0 rfl rfl ?_
      refine rn_callV (b := 95) (as := []) (rest := []) (q := 4) dX9_readAct_1 ml_X9_146 sm_X9_here rfl rfl (by decide) (by omega) rfl rfl (Nat.le_of_ble_eq_true rfl) rfl (s_here9 (d := d + 2) hr s (-1) (by omega)) ?_
      intro r1 mem1 hq1
      obtain ⟨rfl, rfl⟩ := hq1
      show am_Rn l G _ _ 4 [some (.inr (.inr 96)), some (.inl ((3 * k : Nat) : Int)), none, none] [.inl (txAt (T.take 60) (s : Int))] (aw M (s : Int) (-1)) _
      rw [e1]
      refine rn_istore_n (ls' := [some (.inr (.inr 96)), some (.inl ((3 * k : Nat) : Int)), some (.inl 110), none]) (q := 5) dX9_readAct_4 (by decide) rfl rfl ?_
      refine rn_iload_n (x := 110) (q := 6) dX9_readAct_5 rfl rfl ?_
      refine rn_bipush (q := 8) dX9_readAct_6 ⟨by decide, by decide⟩ rfl ?_
      refine rn_cmpeq (t := 23) (q := 11) dX9_readAct_8 rfl rfl (fun h => absurd h (by decide)) (fun w8 => ?_)
      refine rn_iload_n (x := 110) (q := 12) dX9_readAct_11 rfl rfl ?_
      refine rn_bipush (q := 14) dX9_readAct_12 ⟨by decide, by decide⟩ rfl ?_
      refine rn_cmpeq (t := 23) (q := 17) dX9_readAct_14 rfl rfl (fun h => absurd h (by decide)) (fun w14 => ?_)
      refine rn_iload_n (x := 110) (q := 18) dX9_readAct_17 rfl rfl ?_
      refine rn_bipush (q := 20) dX9_readAct_18 ⟨by decide, by decide⟩ rfl ?_
      refine rn_cmpne (t := 27) (q := 23) dX9_readAct_20 rfl rfl (fun w20 => ?_) (fun h => absurd h (by decide))
      refine rn_iconst (q := 28) dX9_readAct_27 (am_okd rfl) rfl ?_
      refine rn_istore_n (ls' := [some (.inr (.inr 96)), some (.inl ((3 * k : Nat) : Int)), some (.inl 110), some (.inl 0)]) (q := 29) dX9_readAct_28 (by decide) rfl rfl ?_
      refine rn_iload_n (x := 0) (q := 30) dX9_readAct_29 rfl rfl ?_
      refine rn_ifne (t := 60) (q := 33) dX9_readAct_30 rfl rfl (fun h => absurd h (by decide)) (fun w30 => ?_)
      refine rn_iload_n (x := 110) (q := 34) dX9_readAct_33 rfl rfl ?_
      refine rn_bipush (q := 36) dX9_readAct_34 ⟨by decide, by decide⟩ rfl ?_
      refine rn_cmpeq (t := 60) (q := 39) dX9_readAct_36 rfl rfl (fun w36 => ?_) (fun h => absurd h (by decide))
      refine rn_aload_n (x := 95) (q := 61) dX9_readAct_60 rfl rfl ?_
      refine rn_dup (q := 62) dX9_readAct_61 rfl rfl ?_
      refine rn_get (a := 95) (v := .inl (s : Int)) (q := 65) dX9_readAct_62 fl_X9_132 rfl rfl rfl ?_
      refine rn_iconst (q := 66) dX9_readAct_65 (am_okd rfl) rfl ?_
      refine rn_iaddN (z := ((s + 1 : Nat) : Int)) (q := 67) dX9_readAct_66 (by omega) (by unfold am_ok; omega) rfl ?_
      refine rn_puti (a := 95) (q := 70) dX9_readAct_67 fl_X9_132 rfl rfl rfl rfl ?_
      rw [aw_at]
      refine rn_aload_n (x := 95) (q := 71) dX9_readAct_70 rfl rfl ?_
      refine rn_get (a := 95) (v := .inr (.inr 114)) (q := 74) dX9_readAct_71 fl_X9_67 rfl rfl rfl ?_
      refine rn_iload_n (x := ((3 * k : Nat) : Int)) (q := 75) dX9_readAct_74 rfl rfl ?_
      refine rn_iload_n (x := 110) (q := 76) dX9_readAct_75 rfl rfl ?_
      refine rn_iastV (a := 113) (m1 := am_up (aw M ((s + 1 : Nat) : Int) (-1)) 113 (3 * k) 110) (q := 77) dX9_readAct_76 rfl (by omega) (by omega) rfl rfl ?_
      rw [aw_oc (by decide)]
      refine rn_aload_n (x := 95) (q := 78) dX9_readAct_77 rfl rfl ?_
      refine rn_get (a := 95) (v := .inr (.inr 114)) (q := 81) dX9_readAct_78 fl_X9_67 rfl rfl rfl ?_
      refine rn_iload_n (x := ((3 * k : Nat) : Int)) (q := 82) dX9_readAct_81 rfl rfl ?_
      refine rn_iconst (q := 83) dX9_readAct_82 (am_okd rfl) rfl ?_
      refine rn_iaddN (z := (((3 * k) + 1 : Nat) : Int)) (q := 84) dX9_readAct_83 (by omega) (by unfold am_ok; omega) rfl ?_
      refine rn_iload_n (x := 0) (q := 85) dX9_readAct_84 rfl rfl ?_
      refine rn_ifeq (t := 101) (q := 88) dX9_readAct_85 rfl rfl (fun w85 => ?_) (fun h => absurd h (by decide))
      refine rn_aload_n (x := 95) (q := 102) dX9_readAct_101 rfl rfl ?_
      refine rn_bipush (q := 104) dX9_readAct_102 ⟨by decide, by decide⟩ rfl ?_
      refine rn_bipush (q := 106) dX9_readAct_104 ⟨by decide, by decide⟩ rfl ?_
      refine rn_callV (b := 95) (as := [.inl 48, .inl 10]) (rest := [.inl (((3 * k) + 1 : Nat) : Int), .inr (.inr 114)]) (q := 109) dX9_readAct_106 ml_X9_158 sm_X9_oneOf rfl rfl (by decide) (by omega) rfl rfl (Nat.le_of_ble_eq_true rfl) rfl (s_oneY (d := d + 0) (hr.put (c := 113) (k := 3 * k) (x := 110) (by decide) (by decide)) (s + 1) 48 10 (by omega) (by omega) (by omega) (by omega) y1) ?_
      intro r106 mem106 hq106
      obtain ⟨rfl, rfl⟩ := hq106
      show am_Rn l G _ _ 109 [some (.inr (.inr 96)), some (.inl ((3 * k : Nat) : Int)), some (.inl 110), some (.inl 0)] [.inl (txAt (T.take 60) ((s + 1 : Nat) : Int) - 48), .inl (((3 * k) + 1 : Nat) : Int), .inr (.inr 114)] (aw (am_up M 113 (3 * k) 110) ((s + 2 : Nat) : Int) (-1)) _
      refine rn_iastV (a := 113) (m1 := am_up (aw (am_up M 113 (3 * k) 110) ((s + 2 : Nat) : Int) (-1)) 113 ((3 * k) + 1) (txAt (T.take 60) ((s + 1 : Nat) : Int) - 48)) (q := 110) dX9_readAct_109 rfl (by omega) (by omega) rfl rfl ?_
      rw [aw_oc (by decide)]
      refine rn_iload_n (x := 110) (q := 111) dX9_readAct_110 rfl rfl ?_
      refine rn_bipush (q := 113) dX9_readAct_111 ⟨by decide, by decide⟩ rfl ?_
      refine rn_cmpne (t := 132) (q := 116) dX9_readAct_113 rfl rfl (fun w113 => ?_) (fun h => absurd h (by decide))
      refine rn_vret dX9_readAct_132 rfl ?_
      refine hQ _ _ ⟨rfl, am_up (am_up M 113 (3 * k) 110) 113 (3 * k + 1) (txAt (T.take 60) ((s + 1 : Nat) : Int) - 48), ra_fr.1, ra_fr.2, Or.inl ⟨wfA_y (by rw [hc]; decide) (by rw [hc]; exact y2) (fun z => by rw [hc] at z; exact absurd z (by decide)), ?_, ?_, fun z => by rw [hc] at z; exact absurd z (by decide), ?_⟩⟩
      · rw [am_up_neq (by omega), am_up_self, hc]; rfl
      · rw [am_up_self]; have := v1 y2.1; omega
      · rw [show nxA T s = s + 2 by unfold nxA; rw [hc]; rfl]
    · have y2 : ¬ (s + 1 < min T.length 60 ∧ 0 ≤ txDg T ((s + 1 : Nat) : Int)) := fun z => y1 (by have := z0.mpr z; omega)
      refine rn_aload_n (x := 95) (q := 1) dX9_readAct_0 rfl rfl ?_
      refine rn_callV (b := 95) (as := []) (rest := []) (q := 4) dX9_readAct_1 ml_X9_146 sm_X9_here rfl rfl (by decide) (by omega) rfl rfl (Nat.le_of_ble_eq_true rfl) rfl (s_here9 (d := d + 2) hr s (-1) (by omega)) ?_
      intro r1 mem1 hq1
      obtain ⟨rfl, rfl⟩ := hq1
      show am_Rn l G _ _ 4 [some (.inr (.inr 96)), some (.inl ((3 * k : Nat) : Int)), none, none] [.inl (txAt (T.take 60) (s : Int))] (aw M (s : Int) (-1)) _
      rw [e1]
      refine rn_istore_n (ls' := [some (.inr (.inr 96)), some (.inl ((3 * k : Nat) : Int)), some (.inl 110), none]) (q := 5) dX9_readAct_4 (by decide) rfl rfl ?_
      refine rn_iload_n (x := 110) (q := 6) dX9_readAct_5 rfl rfl ?_
      refine rn_bipush (q := 8) dX9_readAct_6 ⟨by decide, by decide⟩ rfl ?_
      refine rn_cmpeq (t := 23) (q := 11) dX9_readAct_8 rfl rfl (fun h => absurd h (by decide)) (fun w8 => ?_)
      refine rn_iload_n (x := 110) (q := 12) dX9_readAct_11 rfl rfl ?_
      refine rn_bipush (q := 14) dX9_readAct_12 ⟨by decide, by decide⟩ rfl ?_
      refine rn_cmpeq (t := 23) (q := 17) dX9_readAct_14 rfl rfl (fun h => absurd h (by decide)) (fun w14 => ?_)
      refine rn_iload_n (x := 110) (q := 18) dX9_readAct_17 rfl rfl ?_
      refine rn_bipush (q := 20) dX9_readAct_18 ⟨by decide, by decide⟩ rfl ?_
      refine rn_cmpne (t := 27) (q := 23) dX9_readAct_20 rfl rfl (fun w20 => ?_) (fun h => absurd h (by decide))
      refine rn_iconst (q := 28) dX9_readAct_27 (am_okd rfl) rfl ?_
      refine rn_istore_n (ls' := [some (.inr (.inr 96)), some (.inl ((3 * k : Nat) : Int)), some (.inl 110), some (.inl 0)]) (q := 29) dX9_readAct_28 (by decide) rfl rfl ?_
      refine rn_iload_n (x := 0) (q := 30) dX9_readAct_29 rfl rfl ?_
      refine rn_ifne (t := 60) (q := 33) dX9_readAct_30 rfl rfl (fun h => absurd h (by decide)) (fun w30 => ?_)
      refine rn_iload_n (x := 110) (q := 34) dX9_readAct_33 rfl rfl ?_
      refine rn_bipush (q := 36) dX9_readAct_34 ⟨by decide, by decide⟩ rfl ?_
      refine rn_cmpeq (t := 60) (q := 39) dX9_readAct_36 rfl rfl (fun w36 => ?_) (fun h => absurd h (by decide))
      refine rn_aload_n (x := 95) (q := 61) dX9_readAct_60 rfl rfl ?_
      refine rn_dup (q := 62) dX9_readAct_61 rfl rfl ?_
      refine rn_get (a := 95) (v := .inl (s : Int)) (q := 65) dX9_readAct_62 fl_X9_132 rfl rfl rfl ?_
      refine rn_iconst (q := 66) dX9_readAct_65 (am_okd rfl) rfl ?_
      refine rn_iaddN (z := ((s + 1 : Nat) : Int)) (q := 67) dX9_readAct_66 (by omega) (by unfold am_ok; omega) rfl ?_
      refine rn_puti (a := 95) (q := 70) dX9_readAct_67 fl_X9_132 rfl rfl rfl rfl ?_
      rw [aw_at]
      refine rn_aload_n (x := 95) (q := 71) dX9_readAct_70 rfl rfl ?_
      refine rn_get (a := 95) (v := .inr (.inr 114)) (q := 74) dX9_readAct_71 fl_X9_67 rfl rfl rfl ?_
      refine rn_iload_n (x := ((3 * k : Nat) : Int)) (q := 75) dX9_readAct_74 rfl rfl ?_
      refine rn_iload_n (x := 110) (q := 76) dX9_readAct_75 rfl rfl ?_
      refine rn_iastV (a := 113) (m1 := am_up (aw M ((s + 1 : Nat) : Int) (-1)) 113 (3 * k) 110) (q := 77) dX9_readAct_76 rfl (by omega) (by omega) rfl rfl ?_
      rw [aw_oc (by decide)]
      refine rn_aload_n (x := 95) (q := 78) dX9_readAct_77 rfl rfl ?_
      refine rn_get (a := 95) (v := .inr (.inr 114)) (q := 81) dX9_readAct_78 fl_X9_67 rfl rfl rfl ?_
      refine rn_iload_n (x := ((3 * k : Nat) : Int)) (q := 82) dX9_readAct_81 rfl rfl ?_
      refine rn_iconst (q := 83) dX9_readAct_82 (am_okd rfl) rfl ?_
      refine rn_iaddN (z := (((3 * k) + 1 : Nat) : Int)) (q := 84) dX9_readAct_83 (by omega) (by unfold am_ok; omega) rfl ?_
      refine rn_iload_n (x := 0) (q := 85) dX9_readAct_84 rfl rfl ?_
      refine rn_ifeq (t := 101) (q := 88) dX9_readAct_85 rfl rfl (fun w85 => ?_) (fun h => absurd h (by decide))
      refine rn_aload_n (x := 95) (q := 102) dX9_readAct_101 rfl rfl ?_
      refine rn_bipush (q := 104) dX9_readAct_102 ⟨by decide, by decide⟩ rfl ?_
      refine rn_bipush (q := 106) dX9_readAct_104 ⟨by decide, by decide⟩ rfl ?_
      refine rn_callV (b := 95) (as := [.inl 48, .inl 10]) (rest := [.inl (((3 * k) + 1 : Nat) : Int), .inr (.inr 114)]) (q := 109) dX9_readAct_106 ml_X9_158 sm_X9_oneOf rfl rfl (by decide) (by omega) rfl rfl (Nat.le_of_ble_eq_true rfl) rfl (s_oneF (d := d + 0) (hr.put (c := 113) (k := 3 * k) (x := 110) (by decide) (by decide)) (s + 1) 48 10 (by omega) (by omega) (by omega) (by omega) y1) ?_
      intro r106 mem106 hq106
      obtain ⟨rfl, rfl⟩ := hq106
      show am_Rn l G _ _ 109 [some (.inr (.inr 96)), some (.inl ((3 * k : Nat) : Int)), some (.inl 110), some (.inl 0)] [.inl (0), .inl (((3 * k) + 1 : Nat) : Int), .inr (.inr 114)] (aw (am_up M 113 (3 * k) 110) ((s + 1 : Nat) : Int) ((s + 1 : Nat) : Int)) _
      refine rn_iastV (a := 113) (m1 := am_up (aw (am_up M 113 (3 * k) 110) ((s + 1 : Nat) : Int) ((s + 1 : Nat) : Int)) 113 ((3 * k) + 1) (0)) (q := 110) dX9_readAct_109 rfl (by omega) (by omega) rfl rfl ?_
      rw [aw_oc (by decide)]
      refine rn_iload_n (x := 110) (q := 111) dX9_readAct_110 rfl rfl ?_
      refine rn_bipush (q := 113) dX9_readAct_111 ⟨by decide, by decide⟩ rfl ?_
      refine rn_cmpne (t := 132) (q := 116) dX9_readAct_113 rfl rfl (fun w113 => ?_) (fun h => absurd h (by decide))
      refine rn_vret dX9_readAct_132 rfl ?_
      exact hQ _ _ ⟨rfl, am_up (am_up M 113 (3 * k) 110) 113 (3 * k + 1) (0), ra_fr.1, ra_fr.2, Or.inr ⟨s + 1, s + 1, wfA_n1 (by rw [hc]; decide) (by rw [hc]; exact y2), by omega, rfl⟩⟩
  by_cases c99 : c = 99
  · subst c99
    rw [hc] at e1
    by_cases y1 : 48 ≤ txAt (T.take 60) ((s + 1 : Nat) : Int) ∧ txAt (T.take 60) ((s + 1 : Nat) : Int) < 48 + 10
    · have y2 := z0.mp ⟨by omega, by omega⟩
      refine rn_aload_n (x := 95) (q := 1) dX9_readAct_0 rfl rfl ?_
      refine rn_callV (b := 95) (as := []) (rest := []) (q := 4) dX9_readAct_1 ml_X9_146 sm_X9_here rfl rfl (by decide) (by omega) rfl rfl (Nat.le_of_ble_eq_true rfl) rfl (s_here9 (d := d + 2) hr s (-1) (by omega)) ?_
      intro r1 mem1 hq1
      obtain ⟨rfl, rfl⟩ := hq1
      show am_Rn l G _ _ 4 [some (.inr (.inr 96)), some (.inl ((3 * k : Nat) : Int)), none, none] [.inl (txAt (T.take 60) (s : Int))] (aw M (s : Int) (-1)) _
      rw [e1]
      refine rn_istore_n (ls' := [some (.inr (.inr 96)), some (.inl ((3 * k : Nat) : Int)), some (.inl 99), none]) (q := 5) dX9_readAct_4 (by decide) rfl rfl ?_
      refine rn_iload_n (x := 99) (q := 6) dX9_readAct_5 rfl rfl ?_
      refine rn_bipush (q := 8) dX9_readAct_6 ⟨by decide, by decide⟩ rfl ?_
      refine rn_cmpeq (t := 23) (q := 11) dX9_readAct_8 rfl rfl (fun h => absurd h (by decide)) (fun w8 => ?_)
      refine rn_iload_n (x := 99) (q := 12) dX9_readAct_11 rfl rfl ?_
      refine rn_bipush (q := 14) dX9_readAct_12 ⟨by decide, by decide⟩ rfl ?_
      refine rn_cmpeq (t := 23) (q := 17) dX9_readAct_14 rfl rfl (fun h => absurd h (by decide)) (fun w14 => ?_)
      refine rn_iload_n (x := 99) (q := 18) dX9_readAct_17 rfl rfl ?_
      refine rn_bipush (q := 20) dX9_readAct_18 ⟨by decide, by decide⟩ rfl ?_
      refine rn_cmpne (t := 27) (q := 23) dX9_readAct_20 rfl rfl (fun w20 => ?_) (fun h => absurd h (by decide))
      refine rn_iconst (q := 28) dX9_readAct_27 (am_okd rfl) rfl ?_
      refine rn_istore_n (ls' := [some (.inr (.inr 96)), some (.inl ((3 * k : Nat) : Int)), some (.inl 99), some (.inl 0)]) (q := 29) dX9_readAct_28 (by decide) rfl rfl ?_
      refine rn_iload_n (x := 0) (q := 30) dX9_readAct_29 rfl rfl ?_
      refine rn_ifne (t := 60) (q := 33) dX9_readAct_30 rfl rfl (fun h => absurd h (by decide)) (fun w30 => ?_)
      refine rn_iload_n (x := 99) (q := 34) dX9_readAct_33 rfl rfl ?_
      refine rn_bipush (q := 36) dX9_readAct_34 ⟨by decide, by decide⟩ rfl ?_
      refine rn_cmpeq (t := 60) (q := 39) dX9_readAct_36 rfl rfl (fun h => absurd h (by decide)) (fun w36 => ?_)
      refine rn_iload_n (x := 99) (q := 40) dX9_readAct_39 rfl rfl ?_
      refine rn_bipush (q := 42) dX9_readAct_40 ⟨by decide, by decide⟩ rfl ?_
      refine rn_cmpeq (t := 60) (q := 45) dX9_readAct_42 rfl rfl (fun w42 => ?_) (fun h => absurd h (by decide))
      refine rn_aload_n (x := 95) (q := 61) dX9_readAct_60 rfl rfl ?_
      refine rn_dup (q := 62) dX9_readAct_61 rfl rfl ?_
      refine rn_get (a := 95) (v := .inl (s : Int)) (q := 65) dX9_readAct_62 fl_X9_132 rfl rfl rfl ?_
      refine rn_iconst (q := 66) dX9_readAct_65 (am_okd rfl) rfl ?_
      refine rn_iaddN (z := ((s + 1 : Nat) : Int)) (q := 67) dX9_readAct_66 (by omega) (by unfold am_ok; omega) rfl ?_
      refine rn_puti (a := 95) (q := 70) dX9_readAct_67 fl_X9_132 rfl rfl rfl rfl ?_
      rw [aw_at]
      refine rn_aload_n (x := 95) (q := 71) dX9_readAct_70 rfl rfl ?_
      refine rn_get (a := 95) (v := .inr (.inr 114)) (q := 74) dX9_readAct_71 fl_X9_67 rfl rfl rfl ?_
      refine rn_iload_n (x := ((3 * k : Nat) : Int)) (q := 75) dX9_readAct_74 rfl rfl ?_
      refine rn_iload_n (x := 99) (q := 76) dX9_readAct_75 rfl rfl ?_
      refine rn_iastV (a := 113) (m1 := am_up (aw M ((s + 1 : Nat) : Int) (-1)) 113 (3 * k) 99) (q := 77) dX9_readAct_76 rfl (by omega) (by omega) rfl rfl ?_
      rw [aw_oc (by decide)]
      refine rn_aload_n (x := 95) (q := 78) dX9_readAct_77 rfl rfl ?_
      refine rn_get (a := 95) (v := .inr (.inr 114)) (q := 81) dX9_readAct_78 fl_X9_67 rfl rfl rfl ?_
      refine rn_iload_n (x := ((3 * k : Nat) : Int)) (q := 82) dX9_readAct_81 rfl rfl ?_
      refine rn_iconst (q := 83) dX9_readAct_82 (am_okd rfl) rfl ?_
      refine rn_iaddN (z := (((3 * k) + 1 : Nat) : Int)) (q := 84) dX9_readAct_83 (by omega) (by unfold am_ok; omega) rfl ?_
      refine rn_iload_n (x := 0) (q := 85) dX9_readAct_84 rfl rfl ?_
      refine rn_ifeq (t := 101) (q := 88) dX9_readAct_85 rfl rfl (fun w85 => ?_) (fun h => absurd h (by decide))
      refine rn_aload_n (x := 95) (q := 102) dX9_readAct_101 rfl rfl ?_
      refine rn_bipush (q := 104) dX9_readAct_102 ⟨by decide, by decide⟩ rfl ?_
      refine rn_bipush (q := 106) dX9_readAct_104 ⟨by decide, by decide⟩ rfl ?_
      refine rn_callV (b := 95) (as := [.inl 48, .inl 10]) (rest := [.inl (((3 * k) + 1 : Nat) : Int), .inr (.inr 114)]) (q := 109) dX9_readAct_106 ml_X9_158 sm_X9_oneOf rfl rfl (by decide) (by omega) rfl rfl (Nat.le_of_ble_eq_true rfl) rfl (s_oneY (d := d + 0) (hr.put (c := 113) (k := 3 * k) (x := 99) (by decide) (by decide)) (s + 1) 48 10 (by omega) (by omega) (by omega) (by omega) y1) ?_
      intro r106 mem106 hq106
      obtain ⟨rfl, rfl⟩ := hq106
      show am_Rn l G _ _ 109 [some (.inr (.inr 96)), some (.inl ((3 * k : Nat) : Int)), some (.inl 99), some (.inl 0)] [.inl (txAt (T.take 60) ((s + 1 : Nat) : Int) - 48), .inl (((3 * k) + 1 : Nat) : Int), .inr (.inr 114)] (aw (am_up M 113 (3 * k) 99) ((s + 2 : Nat) : Int) (-1)) _
      refine rn_iastV (a := 113) (m1 := am_up (aw (am_up M 113 (3 * k) 99) ((s + 2 : Nat) : Int) (-1)) 113 ((3 * k) + 1) (txAt (T.take 60) ((s + 1 : Nat) : Int) - 48)) (q := 110) dX9_readAct_109 rfl (by omega) (by omega) rfl rfl ?_
      rw [aw_oc (by decide)]
      refine rn_iload_n (x := 99) (q := 111) dX9_readAct_110 rfl rfl ?_
      refine rn_bipush (q := 113) dX9_readAct_111 ⟨by decide, by decide⟩ rfl ?_
      refine rn_cmpne (t := 132) (q := 116) dX9_readAct_113 rfl rfl (fun w113 => ?_) (fun h => absurd h (by decide))
      refine rn_vret dX9_readAct_132 rfl ?_
      refine hQ _ _ ⟨rfl, am_up (am_up M 113 (3 * k) 99) 113 (3 * k + 1) (txAt (T.take 60) ((s + 1 : Nat) : Int) - 48), ra_fr.1, ra_fr.2, Or.inl ⟨wfA_y (by rw [hc]; decide) (by rw [hc]; exact y2) (fun z => by rw [hc] at z; exact absurd z (by decide)), ?_, ?_, fun z => by rw [hc] at z; exact absurd z (by decide), ?_⟩⟩
      · rw [am_up_neq (by omega), am_up_self, hc]; rfl
      · rw [am_up_self]; have := v1 y2.1; omega
      · rw [show nxA T s = s + 2 by unfold nxA; rw [hc]; rfl]
    · have y2 : ¬ (s + 1 < min T.length 60 ∧ 0 ≤ txDg T ((s + 1 : Nat) : Int)) := fun z => y1 (by have := z0.mpr z; omega)
      refine rn_aload_n (x := 95) (q := 1) dX9_readAct_0 rfl rfl ?_
      refine rn_callV (b := 95) (as := []) (rest := []) (q := 4) dX9_readAct_1 ml_X9_146 sm_X9_here rfl rfl (by decide) (by omega) rfl rfl (Nat.le_of_ble_eq_true rfl) rfl (s_here9 (d := d + 2) hr s (-1) (by omega)) ?_
      intro r1 mem1 hq1
      obtain ⟨rfl, rfl⟩ := hq1
      show am_Rn l G _ _ 4 [some (.inr (.inr 96)), some (.inl ((3 * k : Nat) : Int)), none, none] [.inl (txAt (T.take 60) (s : Int))] (aw M (s : Int) (-1)) _
      rw [e1]
      refine rn_istore_n (ls' := [some (.inr (.inr 96)), some (.inl ((3 * k : Nat) : Int)), some (.inl 99), none]) (q := 5) dX9_readAct_4 (by decide) rfl rfl ?_
      refine rn_iload_n (x := 99) (q := 6) dX9_readAct_5 rfl rfl ?_
      refine rn_bipush (q := 8) dX9_readAct_6 ⟨by decide, by decide⟩ rfl ?_
      refine rn_cmpeq (t := 23) (q := 11) dX9_readAct_8 rfl rfl (fun h => absurd h (by decide)) (fun w8 => ?_)
      refine rn_iload_n (x := 99) (q := 12) dX9_readAct_11 rfl rfl ?_
      refine rn_bipush (q := 14) dX9_readAct_12 ⟨by decide, by decide⟩ rfl ?_
      refine rn_cmpeq (t := 23) (q := 17) dX9_readAct_14 rfl rfl (fun h => absurd h (by decide)) (fun w14 => ?_)
      refine rn_iload_n (x := 99) (q := 18) dX9_readAct_17 rfl rfl ?_
      refine rn_bipush (q := 20) dX9_readAct_18 ⟨by decide, by decide⟩ rfl ?_
      refine rn_cmpne (t := 27) (q := 23) dX9_readAct_20 rfl rfl (fun w20 => ?_) (fun h => absurd h (by decide))
      refine rn_iconst (q := 28) dX9_readAct_27 (am_okd rfl) rfl ?_
      refine rn_istore_n (ls' := [some (.inr (.inr 96)), some (.inl ((3 * k : Nat) : Int)), some (.inl 99), some (.inl 0)]) (q := 29) dX9_readAct_28 (by decide) rfl rfl ?_
      refine rn_iload_n (x := 0) (q := 30) dX9_readAct_29 rfl rfl ?_
      refine rn_ifne (t := 60) (q := 33) dX9_readAct_30 rfl rfl (fun h => absurd h (by decide)) (fun w30 => ?_)
      refine rn_iload_n (x := 99) (q := 34) dX9_readAct_33 rfl rfl ?_
      refine rn_bipush (q := 36) dX9_readAct_34 ⟨by decide, by decide⟩ rfl ?_
      refine rn_cmpeq (t := 60) (q := 39) dX9_readAct_36 rfl rfl (fun h => absurd h (by decide)) (fun w36 => ?_)
      refine rn_iload_n (x := 99) (q := 40) dX9_readAct_39 rfl rfl ?_
      refine rn_bipush (q := 42) dX9_readAct_40 ⟨by decide, by decide⟩ rfl ?_
      refine rn_cmpeq (t := 60) (q := 45) dX9_readAct_42 rfl rfl (fun w42 => ?_) (fun h => absurd h (by decide))
      refine rn_aload_n (x := 95) (q := 61) dX9_readAct_60 rfl rfl ?_
      refine rn_dup (q := 62) dX9_readAct_61 rfl rfl ?_
      refine rn_get (a := 95) (v := .inl (s : Int)) (q := 65) dX9_readAct_62 fl_X9_132 rfl rfl rfl ?_
      refine rn_iconst (q := 66) dX9_readAct_65 (am_okd rfl) rfl ?_
      refine rn_iaddN (z := ((s + 1 : Nat) : Int)) (q := 67) dX9_readAct_66 (by omega) (by unfold am_ok; omega) rfl ?_
      refine rn_puti (a := 95) (q := 70) dX9_readAct_67 fl_X9_132 rfl rfl rfl rfl ?_
      rw [aw_at]
      refine rn_aload_n (x := 95) (q := 71) dX9_readAct_70 rfl rfl ?_
      refine rn_get (a := 95) (v := .inr (.inr 114)) (q := 74) dX9_readAct_71 fl_X9_67 rfl rfl rfl ?_
      refine rn_iload_n (x := ((3 * k : Nat) : Int)) (q := 75) dX9_readAct_74 rfl rfl ?_
      refine rn_iload_n (x := 99) (q := 76) dX9_readAct_75 rfl rfl ?_
      refine rn_iastV (a := 113) (m1 := am_up (aw M ((s + 1 : Nat) : Int) (-1)) 113 (3 * k) 99) (q := 77) dX9_readAct_76 rfl (by omega) (by omega) rfl rfl ?_
      rw [aw_oc (by decide)]
      refine rn_aload_n (x := 95) (q := 78) dX9_readAct_77 rfl rfl ?_
      refine rn_get (a := 95) (v := .inr (.inr 114)) (q := 81) dX9_readAct_78 fl_X9_67 rfl rfl rfl ?_
      refine rn_iload_n (x := ((3 * k : Nat) : Int)) (q := 82) dX9_readAct_81 rfl rfl ?_
      refine rn_iconst (q := 83) dX9_readAct_82 (am_okd rfl) rfl ?_
      refine rn_iaddN (z := (((3 * k) + 1 : Nat) : Int)) (q := 84) dX9_readAct_83 (by omega) (by unfold am_ok; omega) rfl ?_
      refine rn_iload_n (x := 0) (q := 85) dX9_readAct_84 rfl rfl ?_
      refine rn_ifeq (t := 101) (q := 88) dX9_readAct_85 rfl rfl (fun w85 => ?_) (fun h => absurd h (by decide))
      refine rn_aload_n (x := 95) (q := 102) dX9_readAct_101 rfl rfl ?_
      refine rn_bipush (q := 104) dX9_readAct_102 ⟨by decide, by decide⟩ rfl ?_
      refine rn_bipush (q := 106) dX9_readAct_104 ⟨by decide, by decide⟩ rfl ?_
      refine rn_callV (b := 95) (as := [.inl 48, .inl 10]) (rest := [.inl (((3 * k) + 1 : Nat) : Int), .inr (.inr 114)]) (q := 109) dX9_readAct_106 ml_X9_158 sm_X9_oneOf rfl rfl (by decide) (by omega) rfl rfl (Nat.le_of_ble_eq_true rfl) rfl (s_oneF (d := d + 0) (hr.put (c := 113) (k := 3 * k) (x := 99) (by decide) (by decide)) (s + 1) 48 10 (by omega) (by omega) (by omega) (by omega) y1) ?_
      intro r106 mem106 hq106
      obtain ⟨rfl, rfl⟩ := hq106
      show am_Rn l G _ _ 109 [some (.inr (.inr 96)), some (.inl ((3 * k : Nat) : Int)), some (.inl 99), some (.inl 0)] [.inl (0), .inl (((3 * k) + 1 : Nat) : Int), .inr (.inr 114)] (aw (am_up M 113 (3 * k) 99) ((s + 1 : Nat) : Int) ((s + 1 : Nat) : Int)) _
      refine rn_iastV (a := 113) (m1 := am_up (aw (am_up M 113 (3 * k) 99) ((s + 1 : Nat) : Int) ((s + 1 : Nat) : Int)) 113 ((3 * k) + 1) (0)) (q := 110) dX9_readAct_109 rfl (by omega) (by omega) rfl rfl ?_
      rw [aw_oc (by decide)]
      refine rn_iload_n (x := 99) (q := 111) dX9_readAct_110 rfl rfl ?_
      refine rn_bipush (q := 113) dX9_readAct_111 ⟨by decide, by decide⟩ rfl ?_
      refine rn_cmpne (t := 132) (q := 116) dX9_readAct_113 rfl rfl (fun w113 => ?_) (fun h => absurd h (by decide))
      refine rn_vret dX9_readAct_132 rfl ?_
      exact hQ _ _ ⟨rfl, am_up (am_up M 113 (3 * k) 99) 113 (3 * k + 1) (0), ra_fr.1, ra_fr.2, Or.inr ⟨s + 1, s + 1, wfA_n1 (by rw [hc]; decide) (by rw [hc]; exact y2), by omega, rfl⟩⟩
  by_cases c104 : c = 104
  · subst c104
    rw [hc] at e1
    by_cases y1 : 48 ≤ txAt (T.take 60) ((s + 1 : Nat) : Int) ∧ txAt (T.take 60) ((s + 1 : Nat) : Int) < 48 + 10
    · have y2 := z0.mp ⟨by omega, by omega⟩
      by_cases y3 : 48 ≤ txAt (T.take 60) ((s + 2 : Nat) : Int) ∧ txAt (T.take 60) ((s + 2 : Nat) : Int) < 48 + 10
      · have y4 := z2.mp ⟨by omega, by omega⟩
        refine rn_aload_n (x := 95) (q := 1) dX9_readAct_0 rfl rfl ?_
        refine rn_callV (b := 95) (as := []) (rest := []) (q := 4) dX9_readAct_1 ml_X9_146 sm_X9_here rfl rfl (by decide) (by omega) rfl rfl (Nat.le_of_ble_eq_true rfl) rfl (s_here9 (d := d + 2) hr s (-1) (by omega)) ?_
        intro r1 mem1 hq1
        obtain ⟨rfl, rfl⟩ := hq1
        show am_Rn l G _ _ 4 [some (.inr (.inr 96)), some (.inl ((3 * k : Nat) : Int)), none, none] [.inl (txAt (T.take 60) (s : Int))] (aw M (s : Int) (-1)) _
        rw [e1]
        refine rn_istore_n (ls' := [some (.inr (.inr 96)), some (.inl ((3 * k : Nat) : Int)), some (.inl 104), none]) (q := 5) dX9_readAct_4 (by decide) rfl rfl ?_
        refine rn_iload_n (x := 104) (q := 6) dX9_readAct_5 rfl rfl ?_
        refine rn_bipush (q := 8) dX9_readAct_6 ⟨by decide, by decide⟩ rfl ?_
        refine rn_cmpeq (t := 23) (q := 11) dX9_readAct_8 rfl rfl (fun h => absurd h (by decide)) (fun w8 => ?_)
        refine rn_iload_n (x := 104) (q := 12) dX9_readAct_11 rfl rfl ?_
        refine rn_bipush (q := 14) dX9_readAct_12 ⟨by decide, by decide⟩ rfl ?_
        refine rn_cmpeq (t := 23) (q := 17) dX9_readAct_14 rfl rfl (fun h => absurd h (by decide)) (fun w14 => ?_)
        refine rn_iload_n (x := 104) (q := 18) dX9_readAct_17 rfl rfl ?_
        refine rn_bipush (q := 20) dX9_readAct_18 ⟨by decide, by decide⟩ rfl ?_
        refine rn_cmpne (t := 27) (q := 23) dX9_readAct_20 rfl rfl (fun w20 => ?_) (fun h => absurd h (by decide))
        refine rn_iconst (q := 28) dX9_readAct_27 (am_okd rfl) rfl ?_
        refine rn_istore_n (ls' := [some (.inr (.inr 96)), some (.inl ((3 * k : Nat) : Int)), some (.inl 104), some (.inl 0)]) (q := 29) dX9_readAct_28 (by decide) rfl rfl ?_
        refine rn_iload_n (x := 0) (q := 30) dX9_readAct_29 rfl rfl ?_
        refine rn_ifne (t := 60) (q := 33) dX9_readAct_30 rfl rfl (fun h => absurd h (by decide)) (fun w30 => ?_)
        refine rn_iload_n (x := 104) (q := 34) dX9_readAct_33 rfl rfl ?_
        refine rn_bipush (q := 36) dX9_readAct_34 ⟨by decide, by decide⟩ rfl ?_
        refine rn_cmpeq (t := 60) (q := 39) dX9_readAct_36 rfl rfl (fun h => absurd h (by decide)) (fun w36 => ?_)
        refine rn_iload_n (x := 104) (q := 40) dX9_readAct_39 rfl rfl ?_
        refine rn_bipush (q := 42) dX9_readAct_40 ⟨by decide, by decide⟩ rfl ?_
        refine rn_cmpeq (t := 60) (q := 45) dX9_readAct_42 rfl rfl (fun h => absurd h (by decide)) (fun w42 => ?_)
        refine rn_iload_n (x := 104) (q := 46) dX9_readAct_45 rfl rfl ?_
        refine rn_bipush (q := 48) dX9_readAct_46 ⟨by decide, by decide⟩ rfl ?_
        refine rn_cmpeq (t := 60) (q := 51) dX9_readAct_48 rfl rfl (fun w48 => ?_) (fun h => absurd h (by decide))
        refine rn_aload_n (x := 95) (q := 61) dX9_readAct_60 rfl rfl ?_
        refine rn_dup (q := 62) dX9_readAct_61 rfl rfl ?_
        refine rn_get (a := 95) (v := .inl (s : Int)) (q := 65) dX9_readAct_62 fl_X9_132 rfl rfl rfl ?_
        refine rn_iconst (q := 66) dX9_readAct_65 (am_okd rfl) rfl ?_
        refine rn_iaddN (z := ((s + 1 : Nat) : Int)) (q := 67) dX9_readAct_66 (by omega) (by unfold am_ok; omega) rfl ?_
        refine rn_puti (a := 95) (q := 70) dX9_readAct_67 fl_X9_132 rfl rfl rfl rfl ?_
        rw [aw_at]
        refine rn_aload_n (x := 95) (q := 71) dX9_readAct_70 rfl rfl ?_
        refine rn_get (a := 95) (v := .inr (.inr 114)) (q := 74) dX9_readAct_71 fl_X9_67 rfl rfl rfl ?_
        refine rn_iload_n (x := ((3 * k : Nat) : Int)) (q := 75) dX9_readAct_74 rfl rfl ?_
        refine rn_iload_n (x := 104) (q := 76) dX9_readAct_75 rfl rfl ?_
        refine rn_iastV (a := 113) (m1 := am_up (aw M ((s + 1 : Nat) : Int) (-1)) 113 (3 * k) 104) (q := 77) dX9_readAct_76 rfl (by omega) (by omega) rfl rfl ?_
        rw [aw_oc (by decide)]
        refine rn_aload_n (x := 95) (q := 78) dX9_readAct_77 rfl rfl ?_
        refine rn_get (a := 95) (v := .inr (.inr 114)) (q := 81) dX9_readAct_78 fl_X9_67 rfl rfl rfl ?_
        refine rn_iload_n (x := ((3 * k : Nat) : Int)) (q := 82) dX9_readAct_81 rfl rfl ?_
        refine rn_iconst (q := 83) dX9_readAct_82 (am_okd rfl) rfl ?_
        refine rn_iaddN (z := (((3 * k) + 1 : Nat) : Int)) (q := 84) dX9_readAct_83 (by omega) (by unfold am_ok; omega) rfl ?_
        refine rn_iload_n (x := 0) (q := 85) dX9_readAct_84 rfl rfl ?_
        refine rn_ifeq (t := 101) (q := 88) dX9_readAct_85 rfl rfl (fun w85 => ?_) (fun h => absurd h (by decide))
        refine rn_aload_n (x := 95) (q := 102) dX9_readAct_101 rfl rfl ?_
        refine rn_bipush (q := 104) dX9_readAct_102 ⟨by decide, by decide⟩ rfl ?_
        refine rn_bipush (q := 106) dX9_readAct_104 ⟨by decide, by decide⟩ rfl ?_
        refine rn_callV (b := 95) (as := [.inl 48, .inl 10]) (rest := [.inl (((3 * k) + 1 : Nat) : Int), .inr (.inr 114)]) (q := 109) dX9_readAct_106 ml_X9_158 sm_X9_oneOf rfl rfl (by decide) (by omega) rfl rfl (Nat.le_of_ble_eq_true rfl) rfl (s_oneY (d := d + 0) (hr.put (c := 113) (k := 3 * k) (x := 104) (by decide) (by decide)) (s + 1) 48 10 (by omega) (by omega) (by omega) (by omega) y1) ?_
        intro r106 mem106 hq106
        obtain ⟨rfl, rfl⟩ := hq106
        show am_Rn l G _ _ 109 [some (.inr (.inr 96)), some (.inl ((3 * k : Nat) : Int)), some (.inl 104), some (.inl 0)] [.inl (txAt (T.take 60) ((s + 1 : Nat) : Int) - 48), .inl (((3 * k) + 1 : Nat) : Int), .inr (.inr 114)] (aw (am_up M 113 (3 * k) 104) ((s + 2 : Nat) : Int) (-1)) _
        refine rn_iastV (a := 113) (m1 := am_up (aw (am_up M 113 (3 * k) 104) ((s + 2 : Nat) : Int) (-1)) 113 ((3 * k) + 1) (txAt (T.take 60) ((s + 1 : Nat) : Int) - 48)) (q := 110) dX9_readAct_109 rfl (by omega) (by omega) rfl rfl ?_
        rw [aw_oc (by decide)]
        refine rn_iload_n (x := 104) (q := 111) dX9_readAct_110 rfl rfl ?_
        refine rn_bipush (q := 113) dX9_readAct_111 ⟨by decide, by decide⟩ rfl ?_
        refine rn_cmpne (t := 132) (q := 116) dX9_readAct_113 rfl rfl (fun h => absurd h (by decide)) (fun w113 => ?_)
        refine rn_aload_n (x := 95) (q := 117) dX9_readAct_116 rfl rfl ?_
        refine rn_get (a := 95) (v := .inr (.inr 114)) (q := 120) dX9_readAct_117 fl_X9_67 rfl rfl rfl ?_
        refine rn_iload_n (x := ((3 * k : Nat) : Int)) (q := 121) dX9_readAct_120 rfl rfl ?_
        refine rn_iconst (q := 122) dX9_readAct_121 (am_okd rfl) rfl ?_
        refine rn_iaddN (z := (((3 * k) + 2 : Nat) : Int)) (q := 123) dX9_readAct_122 (by omega) (by unfold am_ok; omega) rfl ?_
        refine rn_aload_n (x := 95) (q := 124) dX9_readAct_123 rfl rfl ?_
        refine rn_bipush (q := 126) dX9_readAct_124 ⟨by decide, by decide⟩ rfl ?_
        refine rn_bipush (q := 128) dX9_readAct_126 ⟨by decide, by decide⟩ rfl ?_
        refine rn_callV (b := 95) (as := [.inl 48, .inl 10]) (rest := [.inl (((3 * k) + 2 : Nat) : Int), .inr (.inr 114)]) (q := 131) dX9_readAct_128 ml_X9_158 sm_X9_oneOf rfl rfl (by decide) (by omega) rfl rfl (Nat.le_of_ble_eq_true rfl) rfl (s_oneY (d := d + 0) ((hr.put (c := 113) (k := 3 * k) (x := 104) (by decide) (by decide)).put (c := 113) (k := 3 * k + 1) (x := txAt (T.take 60) ((s + 1 : Nat) : Int) - 48) (by decide) (by decide)) (s + 2) 48 10 (by omega) (by omega) (by omega) (by omega) y3) ?_
        intro r128 mem128 hq128
        obtain ⟨rfl, rfl⟩ := hq128
        show am_Rn l G _ _ 131 [some (.inr (.inr 96)), some (.inl ((3 * k : Nat) : Int)), some (.inl 104), some (.inl 0)] [.inl (txAt (T.take 60) ((s + 2 : Nat) : Int) - 48), .inl (((3 * k) + 2 : Nat) : Int), .inr (.inr 114)] (aw (am_up (am_up M 113 (3 * k) 104) 113 (3 * k + 1) (txAt (T.take 60) ((s + 1 : Nat) : Int) - 48)) ((s + 3 : Nat) : Int) (-1)) _
        refine rn_iastV (a := 113) (m1 := am_up (aw (am_up (am_up M 113 (3 * k) 104) 113 (3 * k + 1) (txAt (T.take 60) ((s + 1 : Nat) : Int) - 48)) ((s + 3 : Nat) : Int) (-1)) 113 ((3 * k) + 2) (txAt (T.take 60) ((s + 2 : Nat) : Int) - 48)) (q := 132) dX9_readAct_131 rfl (by omega) (by omega) rfl rfl ?_
        refine rn_vret dX9_readAct_132 rfl ?_
        rw [aw_oc (by decide)]
        refine hQ _ _ ⟨rfl, am_up (am_up (am_up M 113 (3 * k) 104) 113 (3 * k + 1) (txAt (T.take 60) ((s + 1 : Nat) : Int) - 48)) 113 (3 * k + 2) (txAt (T.take 60) ((s + 2 : Nat) : Int) - 48), ra_fr3.1, ra_fr3.2, Or.inl ⟨wfA_y (by rw [hc]; decide) (by rw [hc]; exact y2) (fun _ => y4), ?_, ?_, fun z => ?_, ?_⟩⟩
        · rw [am_up_neq (by omega), am_up_neq (by omega), am_up_self, hc]; rfl
        · rw [am_up_neq (by omega), am_up_self]; have := v1 y2.1; omega
        · rw [am_up_self]; have := v2 y4.1; omega
        · rw [show nxA T s = s + 3 by unfold nxA; rw [hc]; rfl]
      · have y4 : ¬ (s + 2 < min T.length 60 ∧ 0 ≤ txDg T ((s + 2 : Nat) : Int)) := fun z => y3 (by have := z2.mpr z; omega)
        refine rn_aload_n (x := 95) (q := 1) dX9_readAct_0 rfl rfl ?_
        refine rn_callV (b := 95) (as := []) (rest := []) (q := 4) dX9_readAct_1 ml_X9_146 sm_X9_here rfl rfl (by decide) (by omega) rfl rfl (Nat.le_of_ble_eq_true rfl) rfl (s_here9 (d := d + 2) hr s (-1) (by omega)) ?_
        intro r1 mem1 hq1
        obtain ⟨rfl, rfl⟩ := hq1
        show am_Rn l G _ _ 4 [some (.inr (.inr 96)), some (.inl ((3 * k : Nat) : Int)), none, none] [.inl (txAt (T.take 60) (s : Int))] (aw M (s : Int) (-1)) _
        rw [e1]
        refine rn_istore_n (ls' := [some (.inr (.inr 96)), some (.inl ((3 * k : Nat) : Int)), some (.inl 104), none]) (q := 5) dX9_readAct_4 (by decide) rfl rfl ?_
        refine rn_iload_n (x := 104) (q := 6) dX9_readAct_5 rfl rfl ?_
        refine rn_bipush (q := 8) dX9_readAct_6 ⟨by decide, by decide⟩ rfl ?_
        refine rn_cmpeq (t := 23) (q := 11) dX9_readAct_8 rfl rfl (fun h => absurd h (by decide)) (fun w8 => ?_)
        refine rn_iload_n (x := 104) (q := 12) dX9_readAct_11 rfl rfl ?_
        refine rn_bipush (q := 14) dX9_readAct_12 ⟨by decide, by decide⟩ rfl ?_
        refine rn_cmpeq (t := 23) (q := 17) dX9_readAct_14 rfl rfl (fun h => absurd h (by decide)) (fun w14 => ?_)
        refine rn_iload_n (x := 104) (q := 18) dX9_readAct_17 rfl rfl ?_
        refine rn_bipush (q := 20) dX9_readAct_18 ⟨by decide, by decide⟩ rfl ?_
        refine rn_cmpne (t := 27) (q := 23) dX9_readAct_20 rfl rfl (fun w20 => ?_) (fun h => absurd h (by decide))
        refine rn_iconst (q := 28) dX9_readAct_27 (am_okd rfl) rfl ?_
        refine rn_istore_n (ls' := [some (.inr (.inr 96)), some (.inl ((3 * k : Nat) : Int)), some (.inl 104), some (.inl 0)]) (q := 29) dX9_readAct_28 (by decide) rfl rfl ?_
        refine rn_iload_n (x := 0) (q := 30) dX9_readAct_29 rfl rfl ?_
        refine rn_ifne (t := 60) (q := 33) dX9_readAct_30 rfl rfl (fun h => absurd h (by decide)) (fun w30 => ?_)
        refine rn_iload_n (x := 104) (q := 34) dX9_readAct_33 rfl rfl ?_
        refine rn_bipush (q := 36) dX9_readAct_34 ⟨by decide, by decide⟩ rfl ?_
        refine rn_cmpeq (t := 60) (q := 39) dX9_readAct_36 rfl rfl (fun h => absurd h (by decide)) (fun w36 => ?_)
        refine rn_iload_n (x := 104) (q := 40) dX9_readAct_39 rfl rfl ?_
        refine rn_bipush (q := 42) dX9_readAct_40 ⟨by decide, by decide⟩ rfl ?_
        refine rn_cmpeq (t := 60) (q := 45) dX9_readAct_42 rfl rfl (fun h => absurd h (by decide)) (fun w42 => ?_)
        refine rn_iload_n (x := 104) (q := 46) dX9_readAct_45 rfl rfl ?_
        refine rn_bipush (q := 48) dX9_readAct_46 ⟨by decide, by decide⟩ rfl ?_
        refine rn_cmpeq (t := 60) (q := 51) dX9_readAct_48 rfl rfl (fun w48 => ?_) (fun h => absurd h (by decide))
        refine rn_aload_n (x := 95) (q := 61) dX9_readAct_60 rfl rfl ?_
        refine rn_dup (q := 62) dX9_readAct_61 rfl rfl ?_
        refine rn_get (a := 95) (v := .inl (s : Int)) (q := 65) dX9_readAct_62 fl_X9_132 rfl rfl rfl ?_
        refine rn_iconst (q := 66) dX9_readAct_65 (am_okd rfl) rfl ?_
        refine rn_iaddN (z := ((s + 1 : Nat) : Int)) (q := 67) dX9_readAct_66 (by omega) (by unfold am_ok; omega) rfl ?_
        refine rn_puti (a := 95) (q := 70) dX9_readAct_67 fl_X9_132 rfl rfl rfl rfl ?_
        rw [aw_at]
        refine rn_aload_n (x := 95) (q := 71) dX9_readAct_70 rfl rfl ?_
        refine rn_get (a := 95) (v := .inr (.inr 114)) (q := 74) dX9_readAct_71 fl_X9_67 rfl rfl rfl ?_
        refine rn_iload_n (x := ((3 * k : Nat) : Int)) (q := 75) dX9_readAct_74 rfl rfl ?_
        refine rn_iload_n (x := 104) (q := 76) dX9_readAct_75 rfl rfl ?_
        refine rn_iastV (a := 113) (m1 := am_up (aw M ((s + 1 : Nat) : Int) (-1)) 113 (3 * k) 104) (q := 77) dX9_readAct_76 rfl (by omega) (by omega) rfl rfl ?_
        rw [aw_oc (by decide)]
        refine rn_aload_n (x := 95) (q := 78) dX9_readAct_77 rfl rfl ?_
        refine rn_get (a := 95) (v := .inr (.inr 114)) (q := 81) dX9_readAct_78 fl_X9_67 rfl rfl rfl ?_
        refine rn_iload_n (x := ((3 * k : Nat) : Int)) (q := 82) dX9_readAct_81 rfl rfl ?_
        refine rn_iconst (q := 83) dX9_readAct_82 (am_okd rfl) rfl ?_
        refine rn_iaddN (z := (((3 * k) + 1 : Nat) : Int)) (q := 84) dX9_readAct_83 (by omega) (by unfold am_ok; omega) rfl ?_
        refine rn_iload_n (x := 0) (q := 85) dX9_readAct_84 rfl rfl ?_
        refine rn_ifeq (t := 101) (q := 88) dX9_readAct_85 rfl rfl (fun w85 => ?_) (fun h => absurd h (by decide))
        refine rn_aload_n (x := 95) (q := 102) dX9_readAct_101 rfl rfl ?_
        refine rn_bipush (q := 104) dX9_readAct_102 ⟨by decide, by decide⟩ rfl ?_
        refine rn_bipush (q := 106) dX9_readAct_104 ⟨by decide, by decide⟩ rfl ?_
        refine rn_callV (b := 95) (as := [.inl 48, .inl 10]) (rest := [.inl (((3 * k) + 1 : Nat) : Int), .inr (.inr 114)]) (q := 109) dX9_readAct_106 ml_X9_158 sm_X9_oneOf rfl rfl (by decide) (by omega) rfl rfl (Nat.le_of_ble_eq_true rfl) rfl (s_oneY (d := d + 0) (hr.put (c := 113) (k := 3 * k) (x := 104) (by decide) (by decide)) (s + 1) 48 10 (by omega) (by omega) (by omega) (by omega) y1) ?_
        intro r106 mem106 hq106
        obtain ⟨rfl, rfl⟩ := hq106
        show am_Rn l G _ _ 109 [some (.inr (.inr 96)), some (.inl ((3 * k : Nat) : Int)), some (.inl 104), some (.inl 0)] [.inl (txAt (T.take 60) ((s + 1 : Nat) : Int) - 48), .inl (((3 * k) + 1 : Nat) : Int), .inr (.inr 114)] (aw (am_up M 113 (3 * k) 104) ((s + 2 : Nat) : Int) (-1)) _
        refine rn_iastV (a := 113) (m1 := am_up (aw (am_up M 113 (3 * k) 104) ((s + 2 : Nat) : Int) (-1)) 113 ((3 * k) + 1) (txAt (T.take 60) ((s + 1 : Nat) : Int) - 48)) (q := 110) dX9_readAct_109 rfl (by omega) (by omega) rfl rfl ?_
        rw [aw_oc (by decide)]
        refine rn_iload_n (x := 104) (q := 111) dX9_readAct_110 rfl rfl ?_
        refine rn_bipush (q := 113) dX9_readAct_111 ⟨by decide, by decide⟩ rfl ?_
        refine rn_cmpne (t := 132) (q := 116) dX9_readAct_113 rfl rfl (fun h => absurd h (by decide)) (fun w113 => ?_)
        refine rn_aload_n (x := 95) (q := 117) dX9_readAct_116 rfl rfl ?_
        refine rn_get (a := 95) (v := .inr (.inr 114)) (q := 120) dX9_readAct_117 fl_X9_67 rfl rfl rfl ?_
        refine rn_iload_n (x := ((3 * k : Nat) : Int)) (q := 121) dX9_readAct_120 rfl rfl ?_
        refine rn_iconst (q := 122) dX9_readAct_121 (am_okd rfl) rfl ?_
        refine rn_iaddN (z := (((3 * k) + 2 : Nat) : Int)) (q := 123) dX9_readAct_122 (by omega) (by unfold am_ok; omega) rfl ?_
        refine rn_aload_n (x := 95) (q := 124) dX9_readAct_123 rfl rfl ?_
        refine rn_bipush (q := 126) dX9_readAct_124 ⟨by decide, by decide⟩ rfl ?_
        refine rn_bipush (q := 128) dX9_readAct_126 ⟨by decide, by decide⟩ rfl ?_
        refine rn_callV (b := 95) (as := [.inl 48, .inl 10]) (rest := [.inl (((3 * k) + 2 : Nat) : Int), .inr (.inr 114)]) (q := 131) dX9_readAct_128 ml_X9_158 sm_X9_oneOf rfl rfl (by decide) (by omega) rfl rfl (Nat.le_of_ble_eq_true rfl) rfl (s_oneF (d := d + 0) ((hr.put (c := 113) (k := 3 * k) (x := 104) (by decide) (by decide)).put (c := 113) (k := 3 * k + 1) (x := txAt (T.take 60) ((s + 1 : Nat) : Int) - 48) (by decide) (by decide)) (s + 2) 48 10 (by omega) (by omega) (by omega) (by omega) y3) ?_
        intro r128 mem128 hq128
        obtain ⟨rfl, rfl⟩ := hq128
        show am_Rn l G _ _ 131 [some (.inr (.inr 96)), some (.inl ((3 * k : Nat) : Int)), some (.inl 104), some (.inl 0)] [.inl 0, .inl (((3 * k) + 2 : Nat) : Int), .inr (.inr 114)] (aw (am_up (am_up M 113 (3 * k) 104) 113 (3 * k + 1) (txAt (T.take 60) ((s + 1 : Nat) : Int) - 48)) ((s + 2 : Nat) : Int) ((s + 2 : Nat) : Int)) _
        refine rn_iastV (a := 113) (m1 := am_up (aw (am_up (am_up M 113 (3 * k) 104) 113 (3 * k + 1) (txAt (T.take 60) ((s + 1 : Nat) : Int) - 48)) ((s + 2 : Nat) : Int) ((s + 2 : Nat) : Int)) 113 ((3 * k) + 2) 0) (q := 132) dX9_readAct_131 rfl (by omega) (by omega) rfl rfl ?_
        refine rn_vret dX9_readAct_132 rfl ?_
        rw [aw_oc (by decide)]
        exact hQ _ _ ⟨rfl, am_up (am_up (am_up M 113 (3 * k) 104) 113 (3 * k + 1) (txAt (T.take 60) ((s + 1 : Nat) : Int) - 48)) 113 (3 * k + 2) 0, ra_fr3.1, ra_fr3.2, Or.inr ⟨s + 2, s + 2, wfA_n2 (by rw [hc]; rfl) (by rw [hc]; exact y2) y4, by omega, rfl⟩⟩
    · have y2 : ¬ (s + 1 < min T.length 60 ∧ 0 ≤ txDg T ((s + 1 : Nat) : Int)) := fun z => y1 (by have := z0.mpr z; omega)
      refine rn_aload_n (x := 95) (q := 1) dX9_readAct_0 rfl rfl ?_
      refine rn_callV (b := 95) (as := []) (rest := []) (q := 4) dX9_readAct_1 ml_X9_146 sm_X9_here rfl rfl (by decide) (by omega) rfl rfl (Nat.le_of_ble_eq_true rfl) rfl (s_here9 (d := d + 2) hr s (-1) (by omega)) ?_
      intro r1 mem1 hq1
      obtain ⟨rfl, rfl⟩ := hq1
      show am_Rn l G _ _ 4 [some (.inr (.inr 96)), some (.inl ((3 * k : Nat) : Int)), none, none] [.inl (txAt (T.take 60) (s : Int))] (aw M (s : Int) (-1)) _
      rw [e1]
      refine rn_istore_n (ls' := [some (.inr (.inr 96)), some (.inl ((3 * k : Nat) : Int)), some (.inl 104), none]) (q := 5) dX9_readAct_4 (by decide) rfl rfl ?_
      refine rn_iload_n (x := 104) (q := 6) dX9_readAct_5 rfl rfl ?_
      refine rn_bipush (q := 8) dX9_readAct_6 ⟨by decide, by decide⟩ rfl ?_
      refine rn_cmpeq (t := 23) (q := 11) dX9_readAct_8 rfl rfl (fun h => absurd h (by decide)) (fun w8 => ?_)
      refine rn_iload_n (x := 104) (q := 12) dX9_readAct_11 rfl rfl ?_
      refine rn_bipush (q := 14) dX9_readAct_12 ⟨by decide, by decide⟩ rfl ?_
      refine rn_cmpeq (t := 23) (q := 17) dX9_readAct_14 rfl rfl (fun h => absurd h (by decide)) (fun w14 => ?_)
      refine rn_iload_n (x := 104) (q := 18) dX9_readAct_17 rfl rfl ?_
      refine rn_bipush (q := 20) dX9_readAct_18 ⟨by decide, by decide⟩ rfl ?_
      refine rn_cmpne (t := 27) (q := 23) dX9_readAct_20 rfl rfl (fun w20 => ?_) (fun h => absurd h (by decide))
      refine rn_iconst (q := 28) dX9_readAct_27 (am_okd rfl) rfl ?_
      refine rn_istore_n (ls' := [some (.inr (.inr 96)), some (.inl ((3 * k : Nat) : Int)), some (.inl 104), some (.inl 0)]) (q := 29) dX9_readAct_28 (by decide) rfl rfl ?_
      refine rn_iload_n (x := 0) (q := 30) dX9_readAct_29 rfl rfl ?_
      refine rn_ifne (t := 60) (q := 33) dX9_readAct_30 rfl rfl (fun h => absurd h (by decide)) (fun w30 => ?_)
      refine rn_iload_n (x := 104) (q := 34) dX9_readAct_33 rfl rfl ?_
      refine rn_bipush (q := 36) dX9_readAct_34 ⟨by decide, by decide⟩ rfl ?_
      refine rn_cmpeq (t := 60) (q := 39) dX9_readAct_36 rfl rfl (fun h => absurd h (by decide)) (fun w36 => ?_)
      refine rn_iload_n (x := 104) (q := 40) dX9_readAct_39 rfl rfl ?_
      refine rn_bipush (q := 42) dX9_readAct_40 ⟨by decide, by decide⟩ rfl ?_
      refine rn_cmpeq (t := 60) (q := 45) dX9_readAct_42 rfl rfl (fun h => absurd h (by decide)) (fun w42 => ?_)
      refine rn_iload_n (x := 104) (q := 46) dX9_readAct_45 rfl rfl ?_
      refine rn_bipush (q := 48) dX9_readAct_46 ⟨by decide, by decide⟩ rfl ?_
      refine rn_cmpeq (t := 60) (q := 51) dX9_readAct_48 rfl rfl (fun w48 => ?_) (fun h => absurd h (by decide))
      refine rn_aload_n (x := 95) (q := 61) dX9_readAct_60 rfl rfl ?_
      refine rn_dup (q := 62) dX9_readAct_61 rfl rfl ?_
      refine rn_get (a := 95) (v := .inl (s : Int)) (q := 65) dX9_readAct_62 fl_X9_132 rfl rfl rfl ?_
      refine rn_iconst (q := 66) dX9_readAct_65 (am_okd rfl) rfl ?_
      refine rn_iaddN (z := ((s + 1 : Nat) : Int)) (q := 67) dX9_readAct_66 (by omega) (by unfold am_ok; omega) rfl ?_
      refine rn_puti (a := 95) (q := 70) dX9_readAct_67 fl_X9_132 rfl rfl rfl rfl ?_
      rw [aw_at]
      refine rn_aload_n (x := 95) (q := 71) dX9_readAct_70 rfl rfl ?_
      refine rn_get (a := 95) (v := .inr (.inr 114)) (q := 74) dX9_readAct_71 fl_X9_67 rfl rfl rfl ?_
      refine rn_iload_n (x := ((3 * k : Nat) : Int)) (q := 75) dX9_readAct_74 rfl rfl ?_
      refine rn_iload_n (x := 104) (q := 76) dX9_readAct_75 rfl rfl ?_
      refine rn_iastV (a := 113) (m1 := am_up (aw M ((s + 1 : Nat) : Int) (-1)) 113 (3 * k) 104) (q := 77) dX9_readAct_76 rfl (by omega) (by omega) rfl rfl ?_
      rw [aw_oc (by decide)]
      refine rn_aload_n (x := 95) (q := 78) dX9_readAct_77 rfl rfl ?_
      refine rn_get (a := 95) (v := .inr (.inr 114)) (q := 81) dX9_readAct_78 fl_X9_67 rfl rfl rfl ?_
      refine rn_iload_n (x := ((3 * k : Nat) : Int)) (q := 82) dX9_readAct_81 rfl rfl ?_
      refine rn_iconst (q := 83) dX9_readAct_82 (am_okd rfl) rfl ?_
      refine rn_iaddN (z := (((3 * k) + 1 : Nat) : Int)) (q := 84) dX9_readAct_83 (by omega) (by unfold am_ok; omega) rfl ?_
      refine rn_iload_n (x := 0) (q := 85) dX9_readAct_84 rfl rfl ?_
      refine rn_ifeq (t := 101) (q := 88) dX9_readAct_85 rfl rfl (fun w85 => ?_) (fun h => absurd h (by decide))
      refine rn_aload_n (x := 95) (q := 102) dX9_readAct_101 rfl rfl ?_
      refine rn_bipush (q := 104) dX9_readAct_102 ⟨by decide, by decide⟩ rfl ?_
      refine rn_bipush (q := 106) dX9_readAct_104 ⟨by decide, by decide⟩ rfl ?_
      refine rn_callV (b := 95) (as := [.inl 48, .inl 10]) (rest := [.inl (((3 * k) + 1 : Nat) : Int), .inr (.inr 114)]) (q := 109) dX9_readAct_106 ml_X9_158 sm_X9_oneOf rfl rfl (by decide) (by omega) rfl rfl (Nat.le_of_ble_eq_true rfl) rfl (s_oneF (d := d + 0) (hr.put (c := 113) (k := 3 * k) (x := 104) (by decide) (by decide)) (s + 1) 48 10 (by omega) (by omega) (by omega) (by omega) y1) ?_
      intro r106 mem106 hq106
      obtain ⟨rfl, rfl⟩ := hq106
      show am_Rn l G _ _ 109 [some (.inr (.inr 96)), some (.inl ((3 * k : Nat) : Int)), some (.inl 104), some (.inl 0)] [.inl (0), .inl (((3 * k) + 1 : Nat) : Int), .inr (.inr 114)] (aw (am_up M 113 (3 * k) 104) ((s + 1 : Nat) : Int) ((s + 1 : Nat) : Int)) _
      refine rn_iastV (a := 113) (m1 := am_up (aw (am_up M 113 (3 * k) 104) ((s + 1 : Nat) : Int) ((s + 1 : Nat) : Int)) 113 ((3 * k) + 1) (0)) (q := 110) dX9_readAct_109 rfl (by omega) (by omega) rfl rfl ?_
      rw [aw_oc (by decide)]
      refine rn_iload_n (x := 104) (q := 111) dX9_readAct_110 rfl rfl ?_
      refine rn_bipush (q := 113) dX9_readAct_111 ⟨by decide, by decide⟩ rfl ?_
      refine rn_cmpne (t := 132) (q := 116) dX9_readAct_113 rfl rfl (fun h => absurd h (by decide)) (fun w113 => ?_)
      refine rn_aload_n (x := 95) (q := 117) dX9_readAct_116 rfl rfl ?_
      refine rn_get (a := 95) (v := .inr (.inr 114)) (q := 120) dX9_readAct_117 fl_X9_67 rfl rfl rfl ?_
      refine rn_iload_n (x := ((3 * k : Nat) : Int)) (q := 121) dX9_readAct_120 rfl rfl ?_
      refine rn_iconst (q := 122) dX9_readAct_121 (am_okd rfl) rfl ?_
      refine rn_iaddN (z := (((3 * k) + 2 : Nat) : Int)) (q := 123) dX9_readAct_122 (by omega) (by unfold am_ok; omega) rfl ?_
      refine rn_aload_n (x := 95) (q := 124) dX9_readAct_123 rfl rfl ?_
      refine rn_bipush (q := 126) dX9_readAct_124 ⟨by decide, by decide⟩ rfl ?_
      refine rn_bipush (q := 128) dX9_readAct_126 ⟨by decide, by decide⟩ rfl ?_
      refine rn_callV (b := 95) (as := [.inl 48, .inl 10]) (rest := [.inl (((3 * k) + 2 : Nat) : Int), .inr (.inr 114)]) (q := 131) dX9_readAct_128 ml_X9_158 sm_X9_oneOf rfl rfl (by decide) (by omega) rfl rfl (Nat.le_of_ble_eq_true rfl) rfl (s_oneW (d := d + 0) ((hr.put (c := 113) (k := 3 * k) (x := 104) (by decide) (by decide)).put (c := 113) (k := 3 * k + 1) (x := 0) (by decide) (by decide)) (s + 1) ((s + 1 : Nat) : Int) 48 10 (by omega) (by omega) (by omega) (by omega) (by omega)) ?_
      intro r128 mem128 hq128
      obtain ⟨rfl, rfl⟩ := hq128
      show am_Rn l G _ _ 131 [some (.inr (.inr 96)), some (.inl ((3 * k : Nat) : Int)), some (.inl 104), some (.inl 0)] [.inl 0, .inl (((3 * k) + 2 : Nat) : Int), .inr (.inr 114)] (aw (am_up (am_up M 113 (3 * k) 104) 113 (3 * k + 1) (0)) ((s + 1 : Nat) : Int) ((s + 1 : Nat) : Int)) _
      refine rn_iastV (a := 113) (m1 := am_up (aw (am_up (am_up M 113 (3 * k) 104) 113 (3 * k + 1) (0)) ((s + 1 : Nat) : Int) ((s + 1 : Nat) : Int)) 113 ((3 * k) + 2) 0) (q := 132) dX9_readAct_131 rfl (by omega) (by omega) rfl rfl ?_
      refine rn_vret dX9_readAct_132 rfl ?_
      rw [aw_oc (by decide)]
      exact hQ _ _ ⟨rfl, am_up (am_up (am_up M 113 (3 * k) 104) 113 (3 * k + 1) (0)) 113 (3 * k + 2) 0, ra_fr3.1, ra_fr3.2, Or.inr ⟨s + 1, s + 1, wfA_n1 (by rw [hc]; decide) (by rw [hc]; exact y2), by omega, rfl⟩⟩
  have hd0 : dgB (T.getD s 0) = 0 := by
    rw [hc]; unfold dgB; rw [if_neg (by omega), if_neg (by omega)]
  rw [hc] at e1
  refine rn_aload_n (x := 95) (q := 1) dX9_readAct_0 rfl rfl ?_
  refine rn_callV (b := 95) (as := []) (rest := []) (q := 4) dX9_readAct_1 ml_X9_146 sm_X9_here rfl rfl (by decide) (by omega) rfl rfl (Nat.le_of_ble_eq_true rfl) rfl (s_here9 (d := d + 2) hr s (-1) (by omega)) ?_
  intro r1 mem1 hq1
  obtain ⟨rfl, rfl⟩ := hq1
  show am_Rn l G _ _ 4 [some (.inr (.inr 96)), some (.inl ((3 * k : Nat) : Int)), none, none] [.inl (txAt (T.take 60) (s : Int))] (aw M (s : Int) (-1)) _
  rw [e1]
  refine rn_istore_n (ls' := [some (.inr (.inr 96)), some (.inl ((3 * k : Nat) : Int)), some (.inl (c : Int)), none]) (q := 5) dX9_readAct_4 (by decide) rfl rfl ?_
  refine rn_iload_n (x := (c : Int)) (q := 6) dX9_readAct_5 rfl rfl ?_
  refine rn_bipush (q := 8) dX9_readAct_6 ⟨by decide, by decide⟩ rfl ?_
  refine rn_cmpeq (t := 23) (q := 11) dX9_readAct_8 rfl rfl (fun h => absurd h (by omega)) (fun w8 => ?_)
  refine rn_iload_n (x := (c : Int)) (q := 12) dX9_readAct_11 rfl rfl ?_
  refine rn_bipush (q := 14) dX9_readAct_12 ⟨by decide, by decide⟩ rfl ?_
  refine rn_cmpeq (t := 23) (q := 17) dX9_readAct_14 rfl rfl (fun h => absurd h (by omega)) (fun w14 => ?_)
  refine rn_iload_n (x := (c : Int)) (q := 18) dX9_readAct_17 rfl rfl ?_
  refine rn_bipush (q := 20) dX9_readAct_18 ⟨by decide, by decide⟩ rfl ?_
  refine rn_cmpne (t := 27) (q := 23) dX9_readAct_20 rfl rfl (fun w20 => ?_) (fun h => absurd h (by omega))
  refine rn_iconst (q := 28) dX9_readAct_27 (am_okd rfl) rfl ?_
  refine rn_istore_n (ls' := [some (.inr (.inr 96)), some (.inl ((3 * k : Nat) : Int)), some (.inl (c : Int)), some (.inl 0)]) (q := 29) dX9_readAct_28 (by decide) rfl rfl ?_
  refine rn_iload_n (x := 0) (q := 30) dX9_readAct_29 rfl rfl ?_
  refine rn_ifne (t := 60) (q := 33) dX9_readAct_30 rfl rfl (fun h => absurd h (by decide)) (fun w30 => ?_)
  refine rn_iload_n (x := (c : Int)) (q := 34) dX9_readAct_33 rfl rfl ?_
  refine rn_bipush (q := 36) dX9_readAct_34 ⟨by decide, by decide⟩ rfl ?_
  refine rn_cmpeq (t := 60) (q := 39) dX9_readAct_36 rfl rfl (fun h => absurd h (by omega)) (fun w36 => ?_)
  refine rn_iload_n (x := (c : Int)) (q := 40) dX9_readAct_39 rfl rfl ?_
  refine rn_bipush (q := 42) dX9_readAct_40 ⟨by decide, by decide⟩ rfl ?_
  refine rn_cmpeq (t := 60) (q := 45) dX9_readAct_42 rfl rfl (fun h => absurd h (by omega)) (fun w42 => ?_)
  refine rn_iload_n (x := (c : Int)) (q := 46) dX9_readAct_45 rfl rfl ?_
  refine rn_bipush (q := 48) dX9_readAct_46 ⟨by decide, by decide⟩ rfl ?_
  refine rn_cmpeq (t := 60) (q := 51) dX9_readAct_48 rfl rfl (fun h => absurd h (by omega)) (fun w48 => ?_)
  refine rn_aload_n (x := 95) (q := 52) dX9_readAct_51 rfl rfl ?_
  refine rn_aload_n (x := 95) (q := 53) dX9_readAct_52 rfl rfl ?_
  refine rn_get (a := 95) (v := .inl (s : Int)) (q := 56) dX9_readAct_53 fl_X9_132 rfl rfl rfl ?_
  refine rn_callV (b := 95) (as := [.inl (s : Int)]) (rest := []) (q := 59) dX9_readAct_56 ml_X9_154 sm_X9_fault rfl rfl (by decide) (by omega) rfl rfl (Nat.le_of_ble_eq_true rfl) rfl (s_faultT (d := d + 1) (s : Int) (s : Int)) ?_
  intro r56 mem56 hq56
  obtain ⟨rfl, rfl⟩ := hq56
  show am_Rn l G _ _ 59 [some (.inr (.inr 96)), some (.inl ((3 * k : Nat) : Int)), some (.inl (c : Int)), some (.inl 0)] [] (aw M (s : Int) (s : Int)) _
  refine rn_vret dX9_readAct_59 rfl ?_
  exact hQ _ _ ⟨rfl, M, fun _ _ => rfl, fun _ _ => rfl, Or.inr ⟨s, s, wfA_n0 hd0, by omega, rfl⟩⟩
/-- beyond the sixtieth sign -/
theorem m_readActO (hr : m_rd (T.take 60) 101 T.length M) (k : Nat) (hk : k < 70) (hs : 60 < T.length) : am_Sm l G yX9_readAct mt_X9_readAct (d + 3) [.inr (.inr 96), .inl ((3 * k : Nat) : Int)] (aw M ((60 : Nat) : Int) (-1)) (fun q m => q = none ∧ m = aw M ((60 : Nat) : Int) ((60 : Nat) : Int)) := by
  refine am_enterQ (ls := [some (.inr (.inr 96)), some (.inl ((3 * k : Nat) : Int)), none, none]) (by decide) rfl (Nat.le_of_ble_eq_true rfl) rfl (fun hok Q hQ => ?_)
  have e1 : txAt (T.take 60) ((60 : Nat) : Int) = -1 := txAt_o (by rw [List.length_take]; omega)
  refine rn_aload_n (x := 95) (q := 1) dX9_readAct_0 rfl rfl ?_
  refine rn_callV (b := 95) (as := []) (rest := []) (q := 4) dX9_readAct_1 ml_X9_146 sm_X9_here rfl rfl (by decide) (by omega) rfl rfl (Nat.le_of_ble_eq_true rfl) rfl (s_here9 (d := d + 2) hr 60 (-1) (by omega)) ?_
  intro r1 mem1 hq1
  obtain ⟨rfl, rfl⟩ := hq1
  show am_Rn l G _ _ 4 [some (.inr (.inr 96)), some (.inl ((3 * k : Nat) : Int)), none, none] [.inl (txAt (T.take 60) ((60 : Nat) : Int))] (aw M ((60 : Nat) : Int) (-1)) _
  rw [e1]
  refine rn_istore_n (ls' := [some (.inr (.inr 96)), some (.inl ((3 * k : Nat) : Int)), some (.inl (-1)), none]) (q := 5) dX9_readAct_4 (by decide) rfl rfl ?_
  refine rn_iload_n (x := (-1)) (q := 6) dX9_readAct_5 rfl rfl ?_
  refine rn_bipush (q := 8) dX9_readAct_6 ⟨by decide, by decide⟩ rfl ?_
  refine rn_cmpeq (t := 23) (q := 11) dX9_readAct_8 rfl rfl (fun h => absurd h (by decide)) (fun w8 => ?_)
  refine rn_iload_n (x := (-1)) (q := 12) dX9_readAct_11 rfl rfl ?_
  refine rn_bipush (q := 14) dX9_readAct_12 ⟨by decide, by decide⟩ rfl ?_
  refine rn_cmpeq (t := 23) (q := 17) dX9_readAct_14 rfl rfl (fun h => absurd h (by decide)) (fun w14 => ?_)
  refine rn_iload_n (x := (-1)) (q := 18) dX9_readAct_17 rfl rfl ?_
  refine rn_bipush (q := 20) dX9_readAct_18 ⟨by decide, by decide⟩ rfl ?_
  refine rn_cmpne (t := 27) (q := 23) dX9_readAct_20 rfl rfl (fun w20 => ?_) (fun h => absurd h (by decide))
  refine rn_iconst (q := 28) dX9_readAct_27 (am_okd rfl) rfl ?_
  refine rn_istore_n (ls' := [some (.inr (.inr 96)), some (.inl ((3 * k : Nat) : Int)), some (.inl (-1)), some (.inl 0)]) (q := 29) dX9_readAct_28 (by decide) rfl rfl ?_
  refine rn_iload_n (x := 0) (q := 30) dX9_readAct_29 rfl rfl ?_
  refine rn_ifne (t := 60) (q := 33) dX9_readAct_30 rfl rfl (fun h => absurd h (by decide)) (fun w30 => ?_)
  refine rn_iload_n (x := (-1)) (q := 34) dX9_readAct_33 rfl rfl ?_
  refine rn_bipush (q := 36) dX9_readAct_34 ⟨by decide, by decide⟩ rfl ?_
  refine rn_cmpeq (t := 60) (q := 39) dX9_readAct_36 rfl rfl (fun h => absurd h (by decide)) (fun w36 => ?_)
  refine rn_iload_n (x := (-1)) (q := 40) dX9_readAct_39 rfl rfl ?_
  refine rn_bipush (q := 42) dX9_readAct_40 ⟨by decide, by decide⟩ rfl ?_
  refine rn_cmpeq (t := 60) (q := 45) dX9_readAct_42 rfl rfl (fun h => absurd h (by decide)) (fun w42 => ?_)
  refine rn_iload_n (x := (-1)) (q := 46) dX9_readAct_45 rfl rfl ?_
  refine rn_bipush (q := 48) dX9_readAct_46 ⟨by decide, by decide⟩ rfl ?_
  refine rn_cmpeq (t := 60) (q := 51) dX9_readAct_48 rfl rfl (fun h => absurd h (by decide)) (fun w48 => ?_)
  refine rn_aload_n (x := 95) (q := 52) dX9_readAct_51 rfl rfl ?_
  refine rn_aload_n (x := 95) (q := 53) dX9_readAct_52 rfl rfl ?_
  refine rn_get (a := 95) (v := .inl ((60 : Nat) : Int)) (q := 56) dX9_readAct_53 fl_X9_132 rfl rfl rfl ?_
  refine rn_callV (b := 95) (as := [.inl ((60 : Nat) : Int)]) (rest := []) (q := 59) dX9_readAct_56 ml_X9_154 sm_X9_fault rfl rfl (by decide) (by omega) rfl rfl (Nat.le_of_ble_eq_true rfl) rfl (s_faultT (d := d + 1) ((60 : Nat) : Int) ((60 : Nat) : Int)) ?_
  intro r56 mem56 hq56
  obtain ⟨rfl, rfl⟩ := hq56
  show am_Rn l G _ _ 59 [some (.inr (.inr 96)), some (.inl ((3 * k : Nat) : Int)), some (.inl (-1)), some (.inl 0)] [] (aw M ((60 : Nat) : Int) ((60 : Nat) : Int)) _
  refine rn_vret dX9_readAct_59 rfl ?_
  exact hQ _ _ ⟨rfl, rfl⟩
end P99
