theorem sb_i2b : ∀ c, c < 256 → am_i2b (sb c) = sb c := by decide +kernel
section P39
variable {l : Launch} {G : am_G} {d : Nat} {mem M : am_M}
theorem s_rule9_26 {rq : Nat} (hq : rq = 104 ∨ rq = 105) (hk : am_ks[rq]? = some (102, 40)) {X : List Nat} (hX4 : X.length ≤ 40) (hX2 : ∀ i, X.getD i 0 < 256) {m0 : am_M} (h18 : m0 95 18 = ((rq + 1 : Nat) : Int)) (ht : ∀ i, i < X.length → m0 101 i = sb (X.getD i 0)) {Q : Option am_V → am_M → Prop} (hQ : ∀ m2 : am_M, (∀ b, b ≠ rq → m2 b = m0 b) → (∀ j, j < X.length → m2 rq j = sb (X.getD j 0)) → Q (some (.inl 0)) (am_up m2 95 20 (X.length : Int))) : ∀ (k i : Nat) (m : am_M), i + k = X.length → (∀ b, b ≠ rq → m b = m0 b) → (∀ j, j < i → m rq j = sb (X.getD j 0)) → am_Rn l G mt_X9_rule (d + 1) 26 [some (.inr (.inr 96)), some (.inl (X.length : Int)), some (.inl (i : Int))] [] m Q := by
  intro k
  induction k with
  | zero =>
    intro i m hi hf hc
    have hi2 : i = X.length := by omega
    refine rn_iload_n (x := (i : Int)) (q := 27) dX9_rule_26 rfl rfl ?_
    refine rn_iload_n (x := (X.length : Int)) (q := 28) dX9_rule_27 rfl rfl ?_
    refine rn_cmpge (t := 49) (q := 31) dX9_rule_28 rfl rfl (fun w28 => ?_) (fun h => absurd h (by omega))
    refine rn_aload_n (x := 95) (q := 50) dX9_rule_49 rfl rfl ?_
    refine rn_iload_n (x := (X.length : Int)) (q := 51) dX9_rule_50 rfl rfl ?_
    refine rn_puti (a := 95) (q := 54) dX9_rule_51 fl_X9_210 rfl rfl rfl rfl ?_
    refine rn_iconst (q := 55) dX9_rule_54 (am_okd rfl) rfl ?_
    refine rn_iret dX9_rule_55 rfl ?_
    exact hQ m hf (by rw [← hi2]; exact hc)
  | succ k ih =>
    intro i m hi hf hc
    have hil : i < X.length := by omega
    have e1 : m 101 i = sb (X.getD i 0) := by rw [hf 101 (by omega)]; exact ht i hil
    refine rn_iload_n (x := (i : Int)) (q := 27) dX9_rule_26 rfl rfl ?_
    refine rn_iload_n (x := (X.length : Int)) (q := 28) dX9_rule_27 rfl rfl ?_
    refine rn_cmpge (t := 49) (q := 31) dX9_rule_28 rfl rfl (fun h => absurd h (by omega)) (fun w28 => ?_)
    refine rn_aload_n (x := 95) (q := 32) dX9_rule_31 rfl rfl ?_
    refine rn_get (a := 95) (v := .inr (.inr (rq + 1))) (q := 35) dX9_rule_32 fl_X9_40 rfl (show Sum.inr (Sum.inr (m 95 18).toNat) = _ by rw [hf 95 (by omega), h18]; rfl) rfl ?_
    refine rn_iload_n (x := (i : Int)) (q := 36) dX9_rule_35 rfl rfl ?_
    refine rn_aload_n (x := 95) (q := 37) dX9_rule_36 rfl rfl ?_
    refine rn_get (a := 95) (v := .inr (.inr 102)) (q := 40) dX9_rule_37 fl_X9_29 rfl rfl rfl ?_
    refine rn_iload_n (x := (i : Int)) (q := 41) dX9_rule_40 rfl rfl ?_
    refine rn_baldV (a := 101) (v := sb (X.getD i 0)) (q := 42) dX9_rule_41 rfl (by omega) (by omega) e1 rfl ?_
    refine rn_bastV (a := rq) (m1 := am_up m rq i (am_i2b (sb (X.getD i 0)))) (q := 43) dX9_rule_42 hk (by omega) (by omega) rfl rfl ?_
    refine rn_iincN (x := (i : Int)) (z := ((i + 1 : Nat) : Int)) (ls' := [some (.inr (.inr 96)), some (.inl (X.length : Int)), some (.inl ((i + 1 : Nat) : Int))]) (q := 46) dX9_rule_43 rfl (by decide) (by omega) (by unfold am_ok; omega) rfl rfl ?_
    refine rn_goto (t := 26) dX9_rule_46 rfl ?_
    refine ih (i + 1) _ (by omega) (fun b hb => (am_up_ne hb).trans (hf b hb)) (fun j hj => ?_)
    rw [am_up_at]
    by_cases e : j = i
    · rw [if_pos e, sb_i2b _ (hX2 i), e]
    · rw [if_neg e]; exact hc j (by omega)
theorem s_rule9 {rq : Nat} (hq : rq = 104 ∨ rq = 105) (hk : am_ks[rq]? = some (102, 40)) {X : List Nat} (hX : m_text X mem) {N : am_M} {a w : Int} (hw : -1 ≤ w ∧ w ≤ 40) (hw4 : w = -1 → X.length ≤ 40) (hR : am_Sm l G yX9_readRule mt_X9_readRule (d + 176) [.inr (.inr 96)] (am_up mem 95 11 0) (am_rr (some (.inl (if w = -1 then 1 else 0))) (aw N a w))) (h18 : N 95 18 = ((rq + 1 : Nat) : Int)) (ht : N 101 = mem 101) : am_Sm l G yX9_rule mt_X9_rule (d + 177) [.inr (.inr 96)] mem (fun q m => (w ≠ -1 ∧ q = some (.inl (-1 - w)) ∧ m = aw N a w) ∨ (w = -1 ∧ q = some (.inl 0) ∧ ∃ m2, m = am_up m2 95 20 (X.length : Int) ∧ (∀ b, b ≠ rq → m2 b = aw N a w b) ∧ ∀ j, j < X.length → m2 rq j = sb (X.getD j 0))) := by
  refine am_enter (ls := [some (.inr (.inr 96)), none, none]) (by decide) rfl (Nat.le_of_ble_eq_true rfl) rfl ?_
  obtain ⟨h1, h2, h3, h4⟩ := hX
  by_cases h : w = -1
  · rw [if_pos h] at hR
    have e18 : aw N a w 95 18 = ((rq + 1 : Nat) : Int) := h18
    have e101 : ∀ i, i < X.length → aw N a w 101 i = sb (X.getD i 0) := fun i hi => by
      show N 101 i = _
      rw [ht]; exact h4 i hi
    refine rn_aload_n (x := 95) (q := 1) dX9_rule_0 rfl rfl ?_
    refine rn_iconst (q := 2) dX9_rule_1 (am_okd rfl) rfl ?_
    refine rn_puti (a := 95) (q := 5) dX9_rule_2 fl_X9_107 rfl rfl rfl rfl ?_
    refine rn_aload_n (x := 95) (q := 6) dX9_rule_5 rfl rfl ?_
    refine rn_get (a := 95) (v := .inl (X.length : Int)) (q := 9) dX9_rule_6 fl_X9_120 rfl (am_gi h1) rfl ?_
    refine rn_istore_n (ls' := [some (.inr (.inr 96)), some (.inl (X.length : Int)), none]) (q := 10) dX9_rule_9 (by decide) rfl rfl ?_
    refine rn_aload_n (x := 95) (q := 11) dX9_rule_10 rfl rfl ?_
    refine rn_callV (b := 95) (as := []) (rest := []) (q := 14) dX9_rule_11 ml_X9_207 sm_X9_readRule rfl rfl (by decide) (by omega) rfl rfl (Nat.le_of_ble_eq_true rfl) rfl (hR) ?_
    intro r11 mem11 hq11
    obtain ⟨rfl, rfl⟩ := hq11
    show am_Rn l G _ _ 14 [some (.inr (.inr 96)), some (.inl (X.length : Int)), none] [.inl 1] (aw N a w) _
    refine rn_ifne (t := 24) (q := 17) dX9_rule_14 rfl rfl (fun w14 => ?_) (fun h => absurd h (by decide))
    refine rn_iconst (q := 25) dX9_rule_24 (am_okd rfl) rfl ?_
    refine rn_istore_n (ls' := [some (.inr (.inr 96)), some (.inl (X.length : Int)), some (.inl 0)]) (q := 26) dX9_rule_25 (by decide) rfl rfl ?_
    exact s_rule9_26 (d := d + 176) hq hk (hw4 h) h3 e18 e101 (fun m2 p1 p2 => .inr ⟨h, rfl, m2, rfl, p1, p2⟩) X.length 0 _ (by omega) (fun _ _ => rfl) (fun j hj => absurd hj (Nat.not_lt_zero _))
  · rw [if_neg h] at hR
    refine rn_aload_n (x := 95) (q := 1) dX9_rule_0 rfl rfl ?_
    refine rn_iconst (q := 2) dX9_rule_1 (am_okd rfl) rfl ?_
    refine rn_puti (a := 95) (q := 5) dX9_rule_2 fl_X9_107 rfl rfl rfl rfl ?_
    refine rn_aload_n (x := 95) (q := 6) dX9_rule_5 rfl rfl ?_
    refine rn_get (a := 95) (v := .inl (X.length : Int)) (q := 9) dX9_rule_6 fl_X9_120 rfl (am_gi h1) rfl ?_
    refine rn_istore_n (ls' := [some (.inr (.inr 96)), some (.inl (X.length : Int)), none]) (q := 10) dX9_rule_9 (by decide) rfl rfl ?_
    refine rn_aload_n (x := 95) (q := 11) dX9_rule_10 rfl rfl ?_
    refine rn_callV (b := 95) (as := []) (rest := []) (q := 14) dX9_rule_11 ml_X9_207 sm_X9_readRule rfl rfl (by decide) (by omega) rfl rfl (Nat.le_of_ble_eq_true rfl) rfl (hR) ?_
    intro r11 mem11 hq11
    obtain ⟨rfl, rfl⟩ := hq11
    show am_Rn l G _ _ 14 [some (.inr (.inr 96)), some (.inl (X.length : Int)), none] [.inl 0] (aw N a w) _
    refine rn_ifne (t := 24) (q := 17) dX9_rule_14 rfl rfl (fun h => absurd h (by decide)) (fun w14 => ?_)
    refine rn_iconst (q := 18) dX9_rule_17 (am_okd rfl) rfl ?_
    refine rn_aload_n (x := 95) (q := 19) dX9_rule_18 rfl rfl ?_
    refine rn_get (a := 95) (v := .inl w) (q := 22) dX9_rule_19 fl_X9_135 rfl rfl rfl ?_
    refine rn_isubN (z := -1 - w) (q := 23) dX9_rule_22 (by omega) (by unfold am_ok; omega) rfl ?_
    refine rn_iret dX9_rule_23 rfl ?_
    exact .inl ⟨h, rfl, rfl⟩
end P39
