theorem go_le (T : List Nat) : ∀ (k : Nat) (s : RS) (a i : Nat), go T k s a = .inl i → i ≤ a + k := by
  intro k
  induction k with
  | zero =>
    intro s a i h
    rw [go] at h
    split at h
    · cases h; omega
    · cases h
  | succ k ih =>
    intro s a i h
    rw [go] at h
    split at h
    · cases h; omega
    · have := ih _ _ _ h; omega
theorem run_le {T : List Nat} {s : RS} {i : Nat} (h : run T s 0 = .inl i) : i ≤ T.length := by
  have := go_le T _ _ _ _ h
  omega
/-- the rule of the signs X and its code -/
def ruleOK (X : List Nat) (C : List Int) : Prop := X.length ≤ 40 ∧ (∀ i, X.getD i 0 < 256) ∧ ((X = [] ∧ C = []) ∨ (X ≠ [] ∧ ∀ f, ∃ r, ps X f 168 5 0 0 0 (-1) = some r ∧ ev f C = [r.1]))
theorem rule_eq {X : List Nat} (hX : ∀ i, X.getD i 0 < 256) {r : Int × Nat × Int} (hr : ps (X.take 40) (fun _ => 0) 168 5 0 0 0 (-1) = some r) (dg : Nat) : (∃ i : Nat, i ≤ 40 ∧ wrF r.2.1 X.length r.2.2 = (i : Int) ∧ run (X.take 40) ([], [], 0, 0, dg, true) 0 = .inl i) ∨ (∃ C HS, run (X.take 40) ([], [], 0, 0, dg, true) 0 = .inr (C, HS) ∧ wrF r.2.1 X.length r.2.2 = (if 40 < X.length then 40 else -1) ∧ ∀ f, ∃ r, ps (X.take 40) f 168 5 0 0 0 (-1) = some r ∧ ev f (relC 0 C HS).1 = [r.1]) := by
  have hT : (X.take 40).length = min 40 X.length := List.length_take
  rcases rp_top (txAt_tk hX) (dg := dg) hr with ⟨i, hi, hR⟩ | ⟨hw, hl, hR⟩ | ⟨hw, hl, C, HS, hR, hE, -⟩
  · refine .inl ⟨i, by have := run_le hR; omega, ?_, hR⟩
    unfold wrF
    split
    · rw [if_neg (by omega), hi]
    · exact hi
  · refine .inl ⟨r.2.1, by omega, ?_, hR⟩
    unfold wrF
    rw [if_pos (by omega), if_pos hw]
  · refine .inr ⟨C, HS, hR, ?_, fun f => ?_⟩
    · unfold wrF
      by_cases h : 40 < X.length
      · rw [if_pos (by omega), if_pos hw, if_pos h]; omega
      · rw [if_neg (by omega), if_neg h, hw]
    · obtain ⟨r2, hr2⟩ := ps_tot (X.take 40) f 168 5 0 0 0 (-1) (by decide) (Nat.zero_le _) (by rw [show cm 5 = 4 from rfl]; omega)
      refine ⟨r2, hr2, ?_⟩
      rcases rp_top (txAt_tk hX) (dg := dg) hr2 with ⟨i, -, hR2⟩ | ⟨-, -, hR2⟩ | ⟨-, -, C2, HS2, hR2, hE2, -⟩
      · rw [hR] at hR2; cases hR2
      · rw [hR] at hR2; cases hR2
      · rw [hR] at hR2; cases hR2; exact hE2
theorem o_read_v {r : Nat} {X : List Nat} {dg : Nat} {mem m : am_M} {q : Option am_V} (h : o_read r X dg mem q m) : ∃ v : Int, q = some (.inl v) ∧ -1 ≤ v ∧ v ≤ 40 ∧ o_read r X dg mem (some (.inl v)) m := by
  have hT : (X.take 40).length = min 40 X.length := List.length_take
  have h0 := h
  obtain ⟨-, -, h1 | ⟨-, h1 | ⟨C, HS, -, -, h1⟩⟩⟩ := h
  · obtain ⟨-, rfl, -⟩ := h1
    exact ⟨-1, rfl, by decide, by decide, h0⟩
  · obtain ⟨i, hi, rfl⟩ := h1
    have := run_le hi
    exact ⟨(i : Int), rfl, by omega, by omega, h0⟩
  · subst h1
    refine ⟨_, rfl, ?_, ?_, h0⟩
    · split <;> decide
    · split <;> decide
section P38
variable {l : Launch} {G : am_G} {d : Nat} {mem M : am_M}
theorem s_rule8 {r1 r2 : Nat} (hr1 : am_rul r1) (hr2 : am_rul r2) (h18 : mem 0 18 = ((r1 + 1 : Nat) : Int)) (h57 : mem 5 7 = ((r2 + 1 : Nat) : Int)) {X : List Nat} (hX : c_text X mem) {dg : Nat} (hdg : dg ≤ 3) (h8 : mem r1 8 = (dg : Int)) : am_Sm l G yX8_rule mt_X8_rule (d + 6) [.inr (.inr 1)] mem (fun q m => ∃ v m0, o_read r1 X dg mem (some (.inl v)) m0 ∧ ((v ≠ -1 ∧ q = some (.inl (-1 - v)) ∧ m = am_up m0 1 1 0) ∨ (v = -1 ∧ q = some (.inl 0) ∧ m = am_up (am_up (am_up m0 1 1 0) 5 7 ((r1 + 1 : Nat) : Int)) 0 18 ((r2 + 1 : Nat) : Int)))) := by
  refine am_enter (ls := [some (.inr (.inr 1)), none, none]) (by decide) rfl (Nat.le_of_ble_eq_true rfl) rfl ?_
  have o1 := am_rul_or hr1
  have o2 := am_rul_or hr2
  refine rn_aload_n (x := 0) (q := 1) dX8_rule_0 rfl rfl ?_
  refine rn_get (a := 0) (v := .inr (.inr (r1 + 1))) (q := 4) dX8_rule_1 fl_X8_99 rfl (show Sum.inr (Sum.inr (mem 0 18).toNat) = _ by rw [h18]; rfl) rfl ?_
  refine rn_aload_n (x := 0) (q := 5) dX8_rule_4 rfl rfl ?_
  refine rn_get (a := 0) (v := .inr (.inr 2)) (q := 8) dX8_rule_5 fl_X8_10 rfl rfl rfl ?_
  refine rn_callV (b := r1) (as := [.inr (.inr 2)]) (rest := []) (q := 11) dX8_rule_8 ml_X8_168 sm_X4_read rfl (am_rul_k hr1) (by decide) (by omega) rfl rfl (Nat.le_of_ble_eq_true rfl) rfl (s_read (d := d) hr1 hX hdg h8) ?_
  intro r8 mem8 hq8
  obtain ⟨v, rfl, v1, v2, ho⟩ := o_read_v hq8
  show am_Rn l G _ _ 11 [some (.inr (.inr 1)), none, none] [.inl v] mem8 _
  refine rn_istore_n (ls' := [some (.inr (.inr 1)), some (.inl v), none]) (q := 12) dX8_rule_11 (by decide) rfl rfl ?_
  refine rn_aload_n (x := 0) (q := 13) dX8_rule_12 rfl rfl ?_
  refine rn_get (a := 0) (v := .inr (.inr 2)) (q := 16) dX8_rule_13 fl_X8_10 rfl rfl rfl ?_
  refine rn_iconst (q := 17) dX8_rule_16 (am_okd rfl) rfl ?_
  refine rn_puti (a := 1) (q := 20) dX8_rule_17 fl_X8_107 rfl rfl rfl rfl ?_
  refine rn_iload_n (x := v) (q := 21) dX8_rule_20 rfl rfl ?_
  refine rn_iconst (q := 22) dX8_rule_21 (am_okd rfl) rfl ?_
  refine rn_cmpeq (t := 29) (q := 25) dX8_rule_22 rfl rfl (fun w22 => ?_) (fun w22 => ?_)
  · refine rn_aload_n (x := 0) (q := 30) dX8_rule_29 rfl rfl ?_
    refine rn_get (a := 0) (v := .inr (.inr 6)) (q := 33) dX8_rule_30 fl_X8_26 rfl rfl rfl ?_
    refine rn_get (a := 5) (v := .inr (.inr (r2 + 1))) (q := 36) dX8_rule_33 fl_X8_172 rfl (show Sum.inr (Sum.inr (mem8 5 7).toNat) = _ by rw [ho.1 5 (by omega) (by omega) (by omega), h57]; rfl) rfl ?_
    refine rn_astore_n (ls' := [some (.inr (.inr 1)), some (.inl v), some (.inr (.inr (r2 + 1)))]) (q := 37) dX8_rule_36 (by decide) rfl rfl ?_
    refine rn_aload_n (x := 0) (q := 38) dX8_rule_37 rfl rfl ?_
    refine rn_get (a := 0) (v := .inr (.inr 6)) (q := 41) dX8_rule_38 fl_X8_26 rfl rfl rfl ?_
    refine rn_aload_n (x := 0) (q := 42) dX8_rule_41 rfl rfl ?_
    refine rn_get (a := 0) (v := .inr (.inr (r1 + 1))) (q := 45) dX8_rule_42 fl_X8_99 rfl (show Sum.inr (Sum.inr (mem8 0 18).toNat) = _ by rw [ho.1 0 (by omega) (by omega) (by omega), h18]; rfl) rfl ?_
    refine rn_puta (a := 5) (b := r1 + 1) (q := 48) dX8_rule_45 fl_X8_172 rfl rfl rfl (by omega) rfl ?_
    refine rn_aload_n (x := 0) (q := 49) dX8_rule_48 rfl rfl ?_
    refine rn_aload_n (x := r2) (q := 50) dX8_rule_49 rfl rfl ?_
    refine rn_puta (a := 0) (b := r2 + 1) (q := 53) dX8_rule_50 fl_X8_99 rfl rfl rfl (by omega) rfl ?_
    refine rn_iconst (q := 54) dX8_rule_53 (am_okd rfl) rfl ?_
    refine rn_iret dX8_rule_54 rfl ?_
    exact ⟨v, mem8, ho, .inr ⟨w22, rfl, rfl⟩⟩
  · refine rn_iconst (q := 26) dX8_rule_25 (am_okd rfl) rfl ?_
    refine rn_iload_n (x := v) (q := 27) dX8_rule_26 rfl rfl ?_
    refine rn_isubN (z := -1 - v) (q := 28) dX8_rule_27 (by omega) (by unfold am_ok; omega) rfl ?_
    refine rn_iret dX8_rule_28 rfl ?_
    exact ⟨v, mem8, ho, .inl ⟨w22, rfl, rfl⟩⟩
end P38
