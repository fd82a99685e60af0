/-! end -/
theorem take_gd {T : List Nat} {n i : Nat} (h : i < n) : (T.take n).getD i 0 = T.getD i 0 := by
  rw [List.getD_eq_getElem?_getD, List.getD_eq_getElem?_getD, List.getElem?_take, if_pos h]
theorem take_256 {T : List Nat} {n : Nat} (h : ∀ i, T.getD i 0 < 256) (i : Nat) : (T.take n).getD i 0 < 256 := by
  by_cases hi : i < n
  · rw [take_gd hi]; exact h i
  · rw [List.getD_eq_getElem?_getD, List.getElem?_take, if_neg hi]; decide
theorem c_text_take {T : List Nat} {mem : am_M} (h : c_text T mem) {n : Nat} (hn : n ≤ T.length) : c_text (T.take n) (am_up mem 1 1 (n : Int)) := by
  have hl : (T.take n).length = n := by rw [List.length_take]; omega
  exact ⟨by rw [hl]; rfl, by rw [hl]; exact Nat.le_trans hn h.2.1, take_256 h.2.2.1, fun i hi => by rw [hl] at hi; rw [take_gd hi]; exact h.2.2.2 i (by omega)⟩
theorem m_text_take {T : List Nat} {mem : am_M} (h : m_text T mem) {n : Nat} (hn : n ≤ T.length) : m_text (T.take n) (am_up (am_up mem 95 11 0) 95 8 (n : Int)) := by
  have hl : (T.take n).length = n := by rw [List.length_take]; omega
  exact ⟨by rw [hl]; rfl, by rw [hl]; exact Nat.le_trans hn h.2.1, take_256 h.2.2.1, fun i hi => by rw [hl] at hi; rw [take_gd hi]; exact h.2.2.2 i (by omega)⟩
section P91
variable {l : Launch} {G : am_G} {d : Nat} {r : Nat} {X : List Nat} {C : List Int} {sn : Nat} {sg : Nat → Nat} {h : hrs} {e : est} {NB : Nat} {mem m : am_M}
variable {T : List Nat}
theorem c_end (hT : c_text T mem) (n : Int) : am_Sm l G yX8_end mt_X8_end d [.inr (.inr 1), .inl n] mem (fun q m => (¬ (0 ≤ n ∧ n ≤ T.length) → q = some (.inl 0) ∧ mem = m) ∧ (0 ≤ n ∧ n ≤ T.length → q = some (.inl 1) ∧ c_text (T.take n.toNat) m ∧ m = am_up mem 1 1 n)) := by
  refine am_enterQ (ls := [some (.inr (.inr 1)), some (.inl n)]) (by decide) rfl (Nat.le_of_ble_eq_true rfl) rfl (fun hok Q hQ => ?_)
  refine rn_iload_n (x := n) (q := 1) dX8_end_0 rfl rfl ?_
  refine rn_iflt (t := 15) (q := 4) dX8_end_1 rfl rfl (fun w1 => ?_) (fun w1 => ?_)
  · refine rn_iconst (q := 16) dX8_end_15 (am_okd rfl) rfl ?_
    refine rn_zret dX8_end_16 rfl (by omega) ?_
    exact hQ _ _ ⟨fun _ => ⟨rfl, rfl⟩, fun z => by omega⟩
  · refine rn_iload_n (x := n) (q := 5) dX8_end_4 rfl rfl ?_
    refine rn_aload_n (x := 0) (q := 6) dX8_end_5 rfl rfl ?_
    refine rn_get (a := 0) (v := .inr (.inr 2)) (q := 9) dX8_end_6 fl_X8_10 rfl rfl rfl ?_
    refine rn_get (a := 1) (v := .inl (T.length : Int)) (q := 12) dX8_end_9 fl_X8_107 rfl (am_gi hT.1) rfl ?_
    refine rn_cmple (t := 17) (q := 15) dX8_end_12 rfl rfl (fun w12 => ?_) (fun w12 => ?_)
    · refine rn_aload_n (x := 0) (q := 18) dX8_end_17 rfl rfl ?_
      refine rn_get (a := 0) (v := .inr (.inr 2)) (q := 21) dX8_end_18 fl_X8_10 rfl rfl rfl ?_
      refine rn_iload_n (x := n) (q := 22) dX8_end_21 rfl rfl ?_
      refine rn_puti (a := 1) (q := 25) dX8_end_22 fl_X8_107 rfl rfl rfl rfl ?_
      refine rn_iconst (q := 26) dX8_end_25 (am_okd rfl) rfl ?_
      refine rn_zret dX8_end_26 rfl (by omega) ?_
      have hA := c_text_take hT (n := n.toNat) (by omega)
      rw [show ((n.toNat : Nat) : Int) = n by omega] at hA
      exact hQ _ _ ⟨fun z => by omega, fun _ => ⟨rfl, hA, rfl⟩⟩
    · refine rn_iconst (q := 16) dX8_end_15 (am_okd rfl) rfl ?_
      refine rn_zret dX8_end_16 rfl (by omega) ?_
      exact hQ _ _ ⟨fun _ => ⟨rfl, rfl⟩, fun z => by omega⟩
theorem m_end (hT : m_text T mem) (n : Int) : am_Sm l G yX9_end mt_X9_end (d + 1) [.inr (.inr 96), .inl n] mem (fun q m => (¬ (0 ≤ n ∧ n ≤ T.length) → q = some (.inl 0) ∧ m = am_up mem 95 11 0) ∧ (0 ≤ n ∧ n ≤ T.length → q = some (.inl 1) ∧ m_text (T.take n.toNat) m ∧ m = am_up (am_up mem 95 11 0) 95 8 n)) := by
  refine am_enterQ (ls := [some (.inr (.inr 96)), some (.inl n)]) (by decide) rfl (Nat.le_of_ble_eq_true rfl) rfl (fun hok Q hQ => ?_)
  refine rn_aload_n (x := 95) (q := 1) dX9_end_0 rfl rfl ?_
  refine rn_iconst (q := 2) dX9_end_1 (am_okd rfl) rfl ?_
  refine rn_puti (a := 95) (q := 5) dX9_end_2 fl_X9_107 rfl rfl rfl rfl ?_
  refine rn_iload_n (x := n) (q := 6) dX9_end_5 rfl rfl ?_
  refine rn_iconst (q := 7) dX9_end_6 (am_okd rfl) rfl ?_
  refine rn_aload_n (x := 95) (q := 8) dX9_end_7 rfl rfl ?_
  refine rn_get (a := 95) (v := .inl (T.length : Int)) (q := 11) dX9_end_8 fl_X9_120 rfl (am_gi hT.1) rfl ?_
  refine rn_callS (as := [.inl n, .inl 0, .inl (T.length : Int)]) (rest := []) (q := 14) dX9_end_11 ml_X9_116 sm_X9_in (by omega) rfl rfl (Nat.le_of_ble_eq_true rfl) rfl (s_in9 (d := d + 0) n 0 (T.length : Int)) ?_
  intro r11 mem11 hq11
  obtain ⟨⟨rfl, hi11⟩ | ⟨rfl, hi11⟩, rfl⟩ := hq11
  · show am_Rn l G _ _ 14 [some (.inr (.inr 96)), some (.inl n)] [.inl 1] (am_up mem 95 11 0) _
    refine rn_ifne (t := 19) (q := 17) dX9_end_14 rfl rfl (fun w14 => ?_) (fun h => absurd h (by decide))
    refine rn_aload_n (x := 95) (q := 20) dX9_end_19 rfl rfl ?_
    refine rn_iload_n (x := n) (q := 21) dX9_end_20 rfl rfl ?_
    refine rn_puti (a := 95) (q := 24) dX9_end_21 fl_X9_120 rfl rfl rfl rfl ?_
    refine rn_iconst (q := 25) dX9_end_24 (am_okd rfl) rfl ?_
    refine rn_zret dX9_end_25 rfl (by omega) ?_
    have hA := m_text_take hT (n := n.toNat) (by omega)
    rw [show ((n.toNat : Nat) : Int) = n by omega] at hA
    exact hQ _ _ ⟨fun z => by omega, fun _ => ⟨rfl, hA, rfl⟩⟩
  · show am_Rn l G _ _ 14 [some (.inr (.inr 96)), some (.inl n)] [.inl 0] (am_up mem 95 11 0) _
    refine rn_ifne (t := 19) (q := 17) dX9_end_14 rfl rfl (fun h => absurd h (by decide)) (fun w14 => ?_)
    refine rn_iconst (q := 18) dX9_end_17 (am_okd rfl) rfl ?_
    refine rn_zret dX9_end_18 rfl (by omega) ?_
    exact hQ _ _ ⟨fun _ => ⟨rfl, rfl⟩, fun z => by omega⟩
end P91
