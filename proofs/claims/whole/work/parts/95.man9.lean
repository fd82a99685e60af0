/-! hearers of the reference -/
theorem tb_add {a n : Nat} (h : a < 2 ^ n) (i : Nat) : (a + 2 ^ n).testBit i = (decide (i = n) || a.testBit i) := by
  have e : a + 2 ^ n = 2 ^ n ||| a := by
    have := Nat.two_pow_add_eq_or_of_lt (i := n) (b := a) h 1
    rw [Nat.mul_one] at this
    rw [← this, Nat.add_comm]
  rw [e, Nat.testBit_or, Nat.testBit_two_pow]
  congr 1
  simp [eq_comm]
theorem tb_hi {a n i : Nat} (h : a < 2 ^ n) (hi : n ≤ i) : a.testBit i = false := Nat.testBit_lt_two_pow (Nat.lt_of_lt_of_le h (Nat.pow_le_pow_right (by decide) hi))
def cmO (T : List Nat) (n : Nat) (M : am_M) : Prop := ∀ k, k < n → M 103 (3 * k) = srt (T.getD (4 * k) 0 : Int) ∧ M 103 (3 * k + 1) = ((T.getD (4 * k + 1) 0 - 48 : Nat) : Int) ∧ M 103 (3 * k + 2) = ((T.getD (4 * k + 2) 0 - 48 : Nat) : Int)
def s9h (b k : Nat) : Bool := s9 b k || (b == 95 && (k == 1 || k == 8 || k == 24 || k == 47)) || (Nat.ble 96 b && Nat.ble b 99)
section P95
variable {l : Launch} {G : am_G} {d : Nat} {r : Nat} {X : List Nat} {C : List Int} {sn : Nat} {sg : Nat → Nat} {h : hrs} {e : est} {NB : Nat} {mem m : am_M}
variable {T : List Nat} {M : am_M} {rd L : Nat}
theorem DQ.setH {h2 : hrs} {e2 : est} (q : DQ X sn sg h e NB mem) (hH : m_hrs h2 m) (hE : m_est e2 96 0 m) (he : e_ok h2.1 NB e2) (f : frS s9h mem m) : DQ X sn sg h2 e2 NB m := by
  obtain ⟨q1, q2, q3, q5, q6, q7, q8, q9⟩ := q
  exact ⟨q1, ⟨q2.1, (f 95 18 rfl).trans q2.2.1, (f 95 20 rfl).trans q2.2.2.1, fun j hj => (f 104 j rfl).trans (q2.2.2.2 j hj)⟩, (f 95 21 rfl).trans q3, ⟨(f 95 6 rfl).trans q5.1, q5.2.1, q5.2.2.1, q5.2.2.2.1, fun i hi => (f 100 i rfl).trans (q5.2.2.2.2 i hi)⟩, hH, hE, he, q9⟩
theorem s_oneY (hr : m_rd T rd L M) (n : Nat) (c k : Int) (hn : n < 900) (hc : 0 ≤ c ∧ c < 1000) (hk : 1 ≤ k ∧ k < 100) (hck : c + k ≤ 128) (hd : c ≤ txAt T (n : Int) ∧ txAt T (n : Int) < c + k) : am_Sm l G yX9_oneOf mt_X9_oneOf (d + 2) [.inr (.inr 96), .inl c, .inl k] (aw M (n : Int) (-1)) (fun q m => q = some (.inl (txAt T (n : Int) - c)) ∧ m = aw M ((n + 1 : Nat) : Int) (-1)) := by
  refine am_Sm_mono (s_oneOf9 hr n (-1) c k (by omega) hc hk hck) (fun q m hq => ?_)
  obtain ⟨h1, h2⟩ := hq
  rw [if_pos ⟨rfl, hd⟩] at h1 h2
  exact ⟨h1, h2.symm⟩
theorem s_oneF (hr : m_rd T rd L M) (n : Nat) (c k : Int) (hn : n < 900) (hc : 0 ≤ c ∧ c < 1000) (hk : 1 ≤ k ∧ k < 100) (hck : c + k ≤ 128) (hd : ¬ (c ≤ txAt T (n : Int) ∧ txAt T (n : Int) < c + k)) : am_Sm l G yX9_oneOf mt_X9_oneOf (d + 2) [.inr (.inr 96), .inl c, .inl k] (aw M (n : Int) (-1)) (fun q m => q = some (.inl 0) ∧ m = aw M (n : Int) (n : Int)) := by
  refine am_Sm_mono (s_oneOf9 hr n (-1) c k (by omega) hc hk hck) (fun q m hq => ?_)
  obtain ⟨h1, h2⟩ := hq
  rw [if_neg (fun z => hd z.2)] at h1 h2
  rw [if_pos rfl] at h2
  exact ⟨h1, h2.symm⟩
theorem s_oneW (hr : m_rd T rd L M) (n : Nat) (w c k : Int) (hn : n < 900) (hc : 0 ≤ c ∧ c < 1000) (hk : 1 ≤ k ∧ k < 100) (hck : c + k ≤ 128) (hw : w ≠ -1) : am_Sm l G yX9_oneOf mt_X9_oneOf (d + 2) [.inr (.inr 96), .inl c, .inl k] (aw M (n : Int) w) (fun q m => q = some (.inl 0) ∧ m = aw M (n : Int) w) := by
  refine am_Sm_mono (s_oneOf9 hr n w c k (by omega) hc hk hck) (fun q m hq => ?_)
  obtain ⟨h1, h2⟩ := hq
  rw [if_neg (fun z => hw z.1)] at h1 h2
  rw [if_neg hw] at h2
  exact ⟨h1, h2.symm⟩
theorem m_sortBy (c : Int) : am_Sm l G yX9_sortBy mt_X9_sortBy d [.inl c] mem (fun q m => q = some (.inl (srt c)) ∧ m = mem) := by
  refine am_enterQ (ls := [some (.inl c)]) (by decide) rfl (Nat.le_of_ble_eq_true rfl) rfl (fun hok Q hQ => ?_)
  refine rn_iload_n (x := c) (q := 1) dX9_sortBy_0 rfl rfl ?_
  refine rn_bipush (q := 3) dX9_sortBy_1 ⟨by decide, by decide⟩ rfl ?_
  refine rn_cmpne (t := 10) (q := 6) dX9_sortBy_3 rfl rfl (fun w3 => ?_) (fun w3 => ?_)
  · refine rn_iload_n (x := c) (q := 11) dX9_sortBy_10 rfl rfl ?_
    refine rn_bipush (q := 13) dX9_sortBy_11 ⟨by decide, by decide⟩ rfl ?_
    refine rn_cmpne (t := 20) (q := 16) dX9_sortBy_13 rfl rfl (fun w13 => ?_) (fun w13 => ?_)
    · refine rn_iload_n (x := c) (q := 21) dX9_sortBy_20 rfl rfl ?_
      refine rn_bipush (q := 23) dX9_sortBy_21 ⟨by decide, by decide⟩ rfl ?_
      refine rn_cmpne (t := 30) (q := 26) dX9_sortBy_23 rfl rfl (fun w23 => ?_) (fun w23 => ?_)
      · refine rn_iload_n (x := c) (q := 31) dX9_sortBy_30 rfl rfl ?_
        refine rn_bipush (q := 33) dX9_sortBy_31 ⟨by decide, by decide⟩ rfl ?_
        refine rn_cmpne (t := 40) (q := 36) dX9_sortBy_33 rfl rfl (fun w33 => ?_) (fun w33 => ?_)
        · refine rn_iconst (q := 41) dX9_sortBy_40 (am_okd rfl) rfl ?_
          refine rn_iret dX9_sortBy_41 rfl ?_
          refine hQ _ _ ⟨?_, rfl⟩
          unfold srt
          first | rw [if_pos (by omega)] | rw [if_neg (by omega), if_pos (by omega)] | rw [if_neg (by omega), if_neg (by omega), if_pos (by omega)] | rw [if_neg (by omega), if_neg (by omega), if_neg (by omega), if_pos (by omega)] | rw [if_neg (by omega), if_neg (by omega), if_neg (by omega), if_neg (by omega)]
        · refine rn_iconst (q := 37) dX9_sortBy_36 (am_okd rfl) rfl ?_
          refine rn_goto (t := 41) dX9_sortBy_37 rfl ?_
          refine rn_iret dX9_sortBy_41 rfl ?_
          refine hQ _ _ ⟨?_, rfl⟩
          unfold srt
          first | rw [if_pos (by omega)] | rw [if_neg (by omega), if_pos (by omega)] | rw [if_neg (by omega), if_neg (by omega), if_pos (by omega)] | rw [if_neg (by omega), if_neg (by omega), if_neg (by omega), if_pos (by omega)] | rw [if_neg (by omega), if_neg (by omega), if_neg (by omega), if_neg (by omega)]
      · refine rn_iconst (q := 27) dX9_sortBy_26 (am_okd rfl) rfl ?_
        refine rn_goto (t := 41) dX9_sortBy_27 rfl ?_
        refine rn_iret dX9_sortBy_41 rfl ?_
        refine hQ _ _ ⟨?_, rfl⟩
        unfold srt
        first | rw [if_pos (by omega)] | rw [if_neg (by omega), if_pos (by omega)] | rw [if_neg (by omega), if_neg (by omega), if_pos (by omega)] | rw [if_neg (by omega), if_neg (by omega), if_neg (by omega), if_pos (by omega)] | rw [if_neg (by omega), if_neg (by omega), if_neg (by omega), if_neg (by omega)]
    · refine rn_iconst (q := 17) dX9_sortBy_16 (am_okd rfl) rfl ?_
      refine rn_goto (t := 41) dX9_sortBy_17 rfl ?_
      refine rn_iret dX9_sortBy_41 rfl ?_
      refine hQ _ _ ⟨?_, rfl⟩
      unfold srt
      first | rw [if_pos (by omega)] | rw [if_neg (by omega), if_pos (by omega)] | rw [if_neg (by omega), if_neg (by omega), if_pos (by omega)] | rw [if_neg (by omega), if_neg (by omega), if_neg (by omega), if_pos (by omega)] | rw [if_neg (by omega), if_neg (by omega), if_neg (by omega), if_neg (by omega)]
  · refine rn_iconst (q := 7) dX9_sortBy_6 (am_okd rfl) rfl ?_
    refine rn_goto (t := 41) dX9_sortBy_7 rfl ?_
    refine rn_iret dX9_sortBy_41 rfl ?_
    refine hQ _ _ ⟨?_, rfl⟩
    unfold srt
    first | rw [if_pos (by omega)] | rw [if_neg (by omega), if_pos (by omega)] | rw [if_neg (by omega), if_neg (by omega), if_pos (by omega)] | rw [if_neg (by omega), if_neg (by omega), if_neg (by omega), if_pos (by omega)] | rw [if_neg (by omega), if_neg (by omega), if_neg (by omega), if_neg (by omega)]
theorem tx_in {Z : List Nat} {p : Nat} (h : 0 ≤ txAt Z (p : Int)) : p < Z.length := by
  refine Nat.lt_of_not_le (fun hl => ?_)
  rw [txAt_o hl] at h; omega
theorem srt_in {Z : List Nat} {p : Nat} (h : 0 ≤ srt (txAt Z (p : Int))) : p < Z.length := by
  refine Nat.lt_of_not_le (fun hl => ?_)
  rw [txAt_o hl] at h; exact absurd h (by decide)
def rmP (Z : List Nat) (n : Nat) (M m : am_M) : Prop := ∃ M2, (∀ b, b ≠ 103 → M2 b = M b) ∧ (∀ j, j < 3 * n → M2 103 j = M 103 j) ∧ ((4 * n + 2 < Z.length ∧ (∀ j, j < 3 → fitL Z (4 * n + j)) ∧ M2 103 (3 * n) = srt (Z.getD (4 * n) 0 : Int) ∧ M2 103 (3 * n + 1) = ((Z.getD (4 * n + 1) 0 - 48 : Nat) : Int) ∧ M2 103 (3 * n + 2) = ((Z.getD (4 * n + 2) 0 - 48 : Nat) : Int) ∧ m = aw M2 ((4 * n + 3 : Nat) : Int) (-1)) ∨ ∃ p a : Nat, p < 4 * n + 3 ∧ 4 * n ≤ p ∧ (∀ j, 4 * n ≤ j → j < p → j < Z.length ∧ fitL Z j) ∧ ¬ (p < Z.length ∧ fitL Z p) ∧ a < 900 ∧ m = aw M2 (a : Int) (p : Int))
theorem rm_fr {n : Nat} {x y z : Int} : (∀ b, b ≠ 103 → am_up (am_up (am_up M 103 (3 * n) x) 103 (3 * n + 1) y) 103 (3 * n + 2) z b = M b) ∧ (∀ j, j < 3 * n → am_up (am_up (am_up M 103 (3 * n) x) 103 (3 * n + 1) y) 103 (3 * n + 2) z 103 j = M 103 j) := by
  refine ⟨fun b hb => by rw [am_up_ne hb, am_up_ne hb, am_up_ne hb], fun j hj => ?_⟩
  rw [am_up_neq (by omega), am_up_neq (by omega), am_up_neq (by omega)]
theorem m_readMan {Z : List Nat} (hr : m_rd Z 101 L M) (n : Nat) (hn : n < 8) : am_Sm l G yX9_readMan mt_X9_readMan (d + 3) [.inr (.inr 96), .inl ((3 * n : Nat) : Int)] (aw M ((4 * n : Nat) : Int) (-1)) (fun q m => q = none ∧ rmP Z n M m) := by
  refine am_enterQ (ls := [some (.inr (.inr 96)), some (.inl ((3 * n : Nat) : Int))]) (by decide) rfl (Nat.le_of_ble_eq_true rfl) rfl (fun hok Q hQ => ?_)
  have e0 : ∀ x, am_up (aw M ((4 * n : Nat) : Int) (-1)) 103 (3 * n) x = aw (am_up M 103 (3 * n) x) ((4 * n : Nat) : Int) (-1) := fun x => aw_oc (by decide)
  have hge := srt_ge (txAt Z ((4 * n : Nat) : Int))
  have f0 : ∀ hl : 4 * n < Z.length, fitL Z (4 * n) ↔ 0 ≤ srt (txAt Z ((4 * n : Nat) : Int)) := fun hl => by rw [fitL0 (by omega), txAt_n hl]
  have f1 : ∀ hl : 4 * n + 1 < Z.length, fitL Z (4 * n + 1) ↔ (49 ≤ txAt Z ((4 * n + 1 : Nat) : Int) ∧ txAt Z ((4 * n + 1 : Nat) : Int) < 49 + 9) := fun hl => by rw [fitL1 (by omega), txAt_n hl]; omega
  have f2 : ∀ hl : 4 * n + 2 < Z.length, fitL Z (4 * n + 2) ↔ (48 ≤ txAt Z ((4 * n + 2 : Nat) : Int) ∧ txAt Z ((4 * n + 2 : Nat) : Int) < 48 + 10) := fun hl => by rw [fitL2 (by omega), txAt_n hl]; unfold dgc; omega
  by_cases c0 : 0 ≤ srt (txAt Z ((4 * n : Nat) : Int))
  · have g0 := (f0 (srt_in c0)).mpr c0
    have i0 := srt_in c0
    by_cases c1 : 49 ≤ txAt Z ((4 * n + 1 : Nat) : Int) ∧ txAt Z ((4 * n + 1 : Nat) : Int) < 49 + 9
    · have i1 : 4 * n + 1 < Z.length := tx_in (by omega)
      have g1 := (f1 i1).mpr c1
      by_cases c2 : 48 ≤ txAt Z ((4 * n + 2 : Nat) : Int) ∧ txAt Z ((4 * n + 2 : Nat) : Int) < 48 + 10
      · have i2 : 4 * n + 2 < Z.length := tx_in (by omega)
        have g2 := (f2 i2).mpr c2
        refine rn_aload_n (x := 95) (q := 1) dX9_readMan_0 rfl rfl ?_
        refine rn_get (a := 95) (v := .inr (.inr 104)) (q := 4) dX9_readMan_1 fl_X9_37 rfl rfl rfl ?_
        refine rn_iload_n (x := ((3 * n : Nat) : Int)) (q := 5) dX9_readMan_4 rfl rfl ?_
        refine rn_aload_n (x := 95) (q := 6) dX9_readMan_5 rfl rfl ?_
        refine rn_callV (b := 95) (as := []) (rest := [.inl ((3 * n : Nat) : Int), .inr (.inr 104)]) (q := 9) dX9_readMan_6 ml_X9_146 sm_X9_here rfl rfl (by decide) (by omega) rfl rfl (Nat.le_of_ble_eq_true rfl) rfl (s_here9 (d := d + 2) hr (4 * n) (-1) (by omega)) ?_
        intro r6 mem6 hq6
        obtain ⟨rfl, rfl⟩ := hq6
        show am_Rn l G _ _ 9 [some (.inr (.inr 96)), some (.inl ((3 * n : Nat) : Int))] [.inl (txAt Z ((4 * n : Nat) : Int)), .inl ((3 * n : Nat) : Int), .inr (.inr 104)] (aw M ((4 * n : Nat) : Int) (-1)) _
        refine rn_callS (as := [.inl (txAt Z ((4 * n : Nat) : Int))]) (rest := [.inl ((3 * n : Nat) : Int), .inr (.inr 104)]) (q := 12) dX9_readMan_9 ml_X9_168 sm_X9_sortBy (by omega) rfl rfl (Nat.le_of_ble_eq_true rfl) rfl (m_sortBy (d := d + 2) (txAt Z ((4 * n : Nat) : Int))) ?_
        intro r9 mem9 hq9
        obtain ⟨rfl, rfl⟩ := hq9
        show am_Rn l G _ _ 12 [some (.inr (.inr 96)), some (.inl ((3 * n : Nat) : Int))] [.inl (srt (txAt Z ((4 * n : Nat) : Int))), .inl ((3 * n : Nat) : Int), .inr (.inr 104)] (aw M ((4 * n : Nat) : Int) (-1)) _
        refine rn_iastV (a := 103) (m1 := am_up (aw M ((4 * n : Nat) : Int) (-1)) 103 (3 * n) (srt (txAt Z ((4 * n : Nat) : Int)))) (q := 13) dX9_readMan_12 rfl (by omega) (by omega) rfl rfl ?_
        rw [aw_oc (by decide)]
        refine rn_aload_n (x := 95) (q := 14) dX9_readMan_13 rfl rfl ?_
        refine rn_get (a := 95) (v := .inr (.inr 104)) (q := 17) dX9_readMan_14 fl_X9_37 rfl rfl rfl ?_
        refine rn_iload_n (x := ((3 * n : Nat) : Int)) (q := 18) dX9_readMan_17 rfl rfl ?_
        refine rn_ialdV (a := 103) (v := (srt (txAt Z ((4 * n : Nat) : Int)))) (q := 19) dX9_readMan_18 rfl (by omega) (by omega) (show aw (am_up M 103 (3 * n) (srt (txAt Z ((4 * n : Nat) : Int)))) ((4 * n : Nat) : Int) (-1) 103 (3 * n) = _ by rw [aw_ne (by decide), am_up_self]) rfl ?_
        refine rn_iconst (q := 20) dX9_readMan_19 (am_okd rfl) rfl ?_
        refine rn_cmpne (t := 31) (q := 23) dX9_readMan_20 rfl rfl (fun w20 => ?_) (fun h => absurd h (by omega))
        refine rn_aload_n (x := 95) (q := 32) dX9_readMan_31 rfl rfl ?_
        refine rn_dup (q := 33) dX9_readMan_32 rfl rfl ?_
        refine rn_get (a := 95) (v := .inl ((4 * n : Nat) : Int)) (q := 36) dX9_readMan_33 fl_X9_132 rfl rfl rfl ?_
        refine rn_iconst (q := 37) dX9_readMan_36 (am_okd rfl) rfl ?_
        refine rn_iaddN (z := (((4 * n) + 1 : Nat) : Int)) (q := 38) dX9_readMan_37 (by omega) (by unfold am_ok; omega) rfl ?_
        refine rn_puti (a := 95) (q := 41) dX9_readMan_38 fl_X9_132 rfl rfl rfl rfl ?_
        rw [aw_at]
        refine rn_aload_n (x := 95) (q := 42) dX9_readMan_41 rfl rfl ?_
        refine rn_get (a := 95) (v := .inr (.inr 104)) (q := 45) dX9_readMan_42 fl_X9_37 rfl rfl rfl ?_
        refine rn_iload_n (x := ((3 * n : Nat) : Int)) (q := 46) dX9_readMan_45 rfl rfl ?_
        refine rn_iconst (q := 47) dX9_readMan_46 (am_okd rfl) rfl ?_
        refine rn_iaddN (z := (((3 * n) + 1 : Nat) : Int)) (q := 48) dX9_readMan_47 (by omega) (by unfold am_ok; omega) rfl ?_
        refine rn_aload_n (x := 95) (q := 49) dX9_readMan_48 rfl rfl ?_
        refine rn_bipush (q := 51) dX9_readMan_49 ⟨by decide, by decide⟩ rfl ?_
        refine rn_bipush (q := 53) dX9_readMan_51 ⟨by decide, by decide⟩ rfl ?_
        refine rn_callV (b := 95) (as := [.inl 49, .inl 9]) (rest := [.inl (((3 * n) + 1 : Nat) : Int), .inr (.inr 104)]) (q := 56) dX9_readMan_53 ml_X9_158 sm_X9_oneOf rfl rfl (by decide) (by omega) rfl rfl (Nat.le_of_ble_eq_true rfl) rfl (s_oneY (d := d + 0) (hr.put (c := 103) (k := 3 * n) (x := srt (txAt Z ((4 * n : Nat) : Int))) (by decide) (by decide)) (4 * n + 1) 49 9 (by omega) (by omega) (by omega) (by omega) c1) ?_
        intro r53 mem53 hq53
        obtain ⟨rfl, rfl⟩ := hq53
        show am_Rn l G _ _ 56 [some (.inr (.inr 96)), some (.inl ((3 * n : Nat) : Int))] [.inl (txAt Z ((4 * n + 1 : Nat) : Int) - 49), .inl (((3 * n) + 1 : Nat) : Int), .inr (.inr 104)] (aw (am_up M 103 (3 * n) (srt (txAt Z ((4 * n : Nat) : Int)))) ((4 * n + 2 : Nat) : Int) (-1)) _
        refine rn_iconst (q := 57) dX9_readMan_56 (am_okd rfl) rfl ?_
        refine rn_iaddN (z := (txAt Z ((4 * n + 1 : Nat) : Int) - 49 + 1)) (q := 58) dX9_readMan_57 (by omega) (by unfold am_ok; omega) rfl ?_
        refine rn_iastV (a := 103) (m1 := am_up (aw (am_up M 103 (3 * n) (srt (txAt Z ((4 * n : Nat) : Int)))) ((4 * n + 2 : Nat) : Int) (-1)) 103 ((3 * n) + 1) (txAt Z ((4 * n + 1 : Nat) : Int) - 49 + 1)) (q := 59) dX9_readMan_58 rfl (by omega) (by omega) rfl rfl ?_
        rw [aw_oc (by decide)]
        refine rn_aload_n (x := 95) (q := 60) dX9_readMan_59 rfl rfl ?_
        refine rn_get (a := 95) (v := .inr (.inr 104)) (q := 63) dX9_readMan_60 fl_X9_37 rfl rfl rfl ?_
        refine rn_iload_n (x := ((3 * n : Nat) : Int)) (q := 64) dX9_readMan_63 rfl rfl ?_
        refine rn_iconst (q := 65) dX9_readMan_64 (am_okd rfl) rfl ?_
        refine rn_iaddN (z := (((3 * n) + 2 : Nat) : Int)) (q := 66) dX9_readMan_65 (by omega) (by unfold am_ok; omega) rfl ?_
        refine rn_aload_n (x := 95) (q := 67) dX9_readMan_66 rfl rfl ?_
        refine rn_bipush (q := 69) dX9_readMan_67 ⟨by decide, by decide⟩ rfl ?_
        refine rn_bipush (q := 71) dX9_readMan_69 ⟨by decide, by decide⟩ rfl ?_
        refine rn_callV (b := 95) (as := [.inl 48, .inl 10]) (rest := [.inl (((3 * n) + 2 : Nat) : Int), .inr (.inr 104)]) (q := 74) dX9_readMan_71 ml_X9_158 sm_X9_oneOf rfl rfl (by decide) (by omega) rfl rfl (Nat.le_of_ble_eq_true rfl) rfl (s_oneY (d := d + 0) ((hr.put (c := 103) (k := 3 * n) (x := srt (txAt Z ((4 * n : Nat) : Int))) (by decide) (by decide)).put (c := 103) (k := 3 * n + 1) (x := (txAt Z ((4 * n + 1 : Nat) : Int) - 49) + 1) (by decide) (by decide)) (4 * n + 2) 48 10 (by omega) (by omega) (by omega) (by omega) c2) ?_
        intro r71 mem71 hq71
        obtain ⟨rfl, rfl⟩ := hq71
        show am_Rn l G _ _ 74 [some (.inr (.inr 96)), some (.inl ((3 * n : Nat) : Int))] [.inl (txAt Z ((4 * n + 2 : Nat) : Int) - 48), .inl (((3 * n) + 2 : Nat) : Int), .inr (.inr 104)] (aw (am_up (am_up M 103 (3 * n) (srt (txAt Z ((4 * n : Nat) : Int)))) 103 (3 * n + 1) (txAt Z ((4 * n + 1 : Nat) : Int) - 49 + 1)) ((4 * n + 3 : Nat) : Int) (-1)) _
        refine rn_iastV (a := 103) (m1 := am_up (aw (am_up (am_up M 103 (3 * n) (srt (txAt Z ((4 * n : Nat) : Int)))) 103 (3 * n + 1) (txAt Z ((4 * n + 1 : Nat) : Int) - 49 + 1)) ((4 * n + 3 : Nat) : Int) (-1)) 103 ((3 * n) + 2) (txAt Z ((4 * n + 2 : Nat) : Int) - 48)) (q := 75) dX9_readMan_74 rfl (by omega) (by omega) rfl rfl ?_
        refine rn_vret dX9_readMan_75 rfl ?_
        rw [aw_oc (by decide)]
        refine hQ _ _ ⟨rfl, am_up (am_up (am_up M 103 (3 * n) (srt (txAt Z ((4 * n : Nat) : Int)))) 103 (3 * n + 1) (txAt Z ((4 * n + 1 : Nat) : Int) - 49 + 1)) 103 (3 * n + 2) (txAt Z ((4 * n + 2 : Nat) : Int) - 48), rm_fr.1, rm_fr.2, ?_⟩
        refine Or.inl ⟨i2, fun j hj => ?_, ?_, ?_, ?_, rfl⟩
        · rcases (show j = 0 ∨ j = 1 ∨ j = 2 by omega) with rfl | rfl | rfl
          · exact g0
          · exact g1
          · exact g2
        · rw [am_up_neq (by omega), am_up_neq (by omega), am_up_self, txAt_n i0]
        · rw [am_up_neq (by omega), am_up_self]; have := txAt_n i1; omega
        · rw [am_up_self]; have := txAt_n i2; omega
      · skip
        refine rn_aload_n (x := 95) (q := 1) dX9_readMan_0 rfl rfl ?_
        refine rn_get (a := 95) (v := .inr (.inr 104)) (q := 4) dX9_readMan_1 fl_X9_37 rfl rfl rfl ?_
        refine rn_iload_n (x := ((3 * n : Nat) : Int)) (q := 5) dX9_readMan_4 rfl rfl ?_
        refine rn_aload_n (x := 95) (q := 6) dX9_readMan_5 rfl rfl ?_
        refine rn_callV (b := 95) (as := []) (rest := [.inl ((3 * n : Nat) : Int), .inr (.inr 104)]) (q := 9) dX9_readMan_6 ml_X9_146 sm_X9_here rfl rfl (by decide) (by omega) rfl rfl (Nat.le_of_ble_eq_true rfl) rfl (s_here9 (d := d + 2) hr (4 * n) (-1) (by omega)) ?_
        intro r6 mem6 hq6
        obtain ⟨rfl, rfl⟩ := hq6
        show am_Rn l G _ _ 9 [some (.inr (.inr 96)), some (.inl ((3 * n : Nat) : Int))] [.inl (txAt Z ((4 * n : Nat) : Int)), .inl ((3 * n : Nat) : Int), .inr (.inr 104)] (aw M ((4 * n : Nat) : Int) (-1)) _
        refine rn_callS (as := [.inl (txAt Z ((4 * n : Nat) : Int))]) (rest := [.inl ((3 * n : Nat) : Int), .inr (.inr 104)]) (q := 12) dX9_readMan_9 ml_X9_168 sm_X9_sortBy (by omega) rfl rfl (Nat.le_of_ble_eq_true rfl) rfl (m_sortBy (d := d + 2) (txAt Z ((4 * n : Nat) : Int))) ?_
        intro r9 mem9 hq9
        obtain ⟨rfl, rfl⟩ := hq9
        show am_Rn l G _ _ 12 [some (.inr (.inr 96)), some (.inl ((3 * n : Nat) : Int))] [.inl (srt (txAt Z ((4 * n : Nat) : Int))), .inl ((3 * n : Nat) : Int), .inr (.inr 104)] (aw M ((4 * n : Nat) : Int) (-1)) _
        refine rn_iastV (a := 103) (m1 := am_up (aw M ((4 * n : Nat) : Int) (-1)) 103 (3 * n) (srt (txAt Z ((4 * n : Nat) : Int)))) (q := 13) dX9_readMan_12 rfl (by omega) (by omega) rfl rfl ?_
        rw [aw_oc (by decide)]
        refine rn_aload_n (x := 95) (q := 14) dX9_readMan_13 rfl rfl ?_
        refine rn_get (a := 95) (v := .inr (.inr 104)) (q := 17) dX9_readMan_14 fl_X9_37 rfl rfl rfl ?_
        refine rn_iload_n (x := ((3 * n : Nat) : Int)) (q := 18) dX9_readMan_17 rfl rfl ?_
        refine rn_ialdV (a := 103) (v := (srt (txAt Z ((4 * n : Nat) : Int)))) (q := 19) dX9_readMan_18 rfl (by omega) (by omega) (show aw (am_up M 103 (3 * n) (srt (txAt Z ((4 * n : Nat) : Int)))) ((4 * n : Nat) : Int) (-1) 103 (3 * n) = _ by rw [aw_ne (by decide), am_up_self]) rfl ?_
        refine rn_iconst (q := 20) dX9_readMan_19 (am_okd rfl) rfl ?_
        refine rn_cmpne (t := 31) (q := 23) dX9_readMan_20 rfl rfl (fun w20 => ?_) (fun h => absurd h (by omega))
        refine rn_aload_n (x := 95) (q := 32) dX9_readMan_31 rfl rfl ?_
        refine rn_dup (q := 33) dX9_readMan_32 rfl rfl ?_
        refine rn_get (a := 95) (v := .inl ((4 * n : Nat) : Int)) (q := 36) dX9_readMan_33 fl_X9_132 rfl rfl rfl ?_
        refine rn_iconst (q := 37) dX9_readMan_36 (am_okd rfl) rfl ?_
        refine rn_iaddN (z := (((4 * n) + 1 : Nat) : Int)) (q := 38) dX9_readMan_37 (by omega) (by unfold am_ok; omega) rfl ?_
        refine rn_puti (a := 95) (q := 41) dX9_readMan_38 fl_X9_132 rfl rfl rfl rfl ?_
        rw [aw_at]
        refine rn_aload_n (x := 95) (q := 42) dX9_readMan_41 rfl rfl ?_
        refine rn_get (a := 95) (v := .inr (.inr 104)) (q := 45) dX9_readMan_42 fl_X9_37 rfl rfl rfl ?_
        refine rn_iload_n (x := ((3 * n : Nat) : Int)) (q := 46) dX9_readMan_45 rfl rfl ?_
        refine rn_iconst (q := 47) dX9_readMan_46 (am_okd rfl) rfl ?_
        refine rn_iaddN (z := (((3 * n) + 1 : Nat) : Int)) (q := 48) dX9_readMan_47 (by omega) (by unfold am_ok; omega) rfl ?_
        refine rn_aload_n (x := 95) (q := 49) dX9_readMan_48 rfl rfl ?_
        refine rn_bipush (q := 51) dX9_readMan_49 ⟨by decide, by decide⟩ rfl ?_
        refine rn_bipush (q := 53) dX9_readMan_51 ⟨by decide, by decide⟩ rfl ?_
        refine rn_callV (b := 95) (as := [.inl 49, .inl 9]) (rest := [.inl (((3 * n) + 1 : Nat) : Int), .inr (.inr 104)]) (q := 56) dX9_readMan_53 ml_X9_158 sm_X9_oneOf rfl rfl (by decide) (by omega) rfl rfl (Nat.le_of_ble_eq_true rfl) rfl (s_oneY (d := d + 0) (hr.put (c := 103) (k := 3 * n) (x := srt (txAt Z ((4 * n : Nat) : Int))) (by decide) (by decide)) (4 * n + 1) 49 9 (by omega) (by omega) (by omega) (by omega) c1) ?_
        intro r53 mem53 hq53
        obtain ⟨rfl, rfl⟩ := hq53
        show am_Rn l G _ _ 56 [some (.inr (.inr 96)), some (.inl ((3 * n : Nat) : Int))] [.inl (txAt Z ((4 * n + 1 : Nat) : Int) - 49), .inl (((3 * n) + 1 : Nat) : Int), .inr (.inr 104)] (aw (am_up M 103 (3 * n) (srt (txAt Z ((4 * n : Nat) : Int)))) ((4 * n + 2 : Nat) : Int) (-1)) _
        refine rn_iconst (q := 57) dX9_readMan_56 (am_okd rfl) rfl ?_
        refine rn_iaddN (z := (txAt Z ((4 * n + 1 : Nat) : Int) - 49 + 1)) (q := 58) dX9_readMan_57 (by omega) (by unfold am_ok; omega) rfl ?_
        refine rn_iastV (a := 103) (m1 := am_up (aw (am_up M 103 (3 * n) (srt (txAt Z ((4 * n : Nat) : Int)))) ((4 * n + 2 : Nat) : Int) (-1)) 103 ((3 * n) + 1) (txAt Z ((4 * n + 1 : Nat) : Int) - 49 + 1)) (q := 59) dX9_readMan_58 rfl (by omega) (by omega) rfl rfl ?_
        rw [aw_oc (by decide)]
        refine rn_aload_n (x := 95) (q := 60) dX9_readMan_59 rfl rfl ?_
        refine rn_get (a := 95) (v := .inr (.inr 104)) (q := 63) dX9_readMan_60 fl_X9_37 rfl rfl rfl ?_
        refine rn_iload_n (x := ((3 * n : Nat) : Int)) (q := 64) dX9_readMan_63 rfl rfl ?_
        refine rn_iconst (q := 65) dX9_readMan_64 (am_okd rfl) rfl ?_
        refine rn_iaddN (z := (((3 * n) + 2 : Nat) : Int)) (q := 66) dX9_readMan_65 (by omega) (by unfold am_ok; omega) rfl ?_
        refine rn_aload_n (x := 95) (q := 67) dX9_readMan_66 rfl rfl ?_
        refine rn_bipush (q := 69) dX9_readMan_67 ⟨by decide, by decide⟩ rfl ?_
        refine rn_bipush (q := 71) dX9_readMan_69 ⟨by decide, by decide⟩ rfl ?_
        refine rn_callV (b := 95) (as := [.inl 48, .inl 10]) (rest := [.inl (((3 * n) + 2 : Nat) : Int), .inr (.inr 104)]) (q := 74) dX9_readMan_71 ml_X9_158 sm_X9_oneOf rfl rfl (by decide) (by omega) rfl rfl (Nat.le_of_ble_eq_true rfl) rfl (s_oneF (d := d + 0) ((hr.put (c := 103) (k := 3 * n) (x := srt (txAt Z ((4 * n : Nat) : Int))) (by decide) (by decide)).put (c := 103) (k := 3 * n + 1) (x := (txAt Z ((4 * n + 1 : Nat) : Int) - 49) + 1) (by decide) (by decide)) (4 * n + 2) 48 10 (by omega) (by omega) (by omega) (by omega) c2) ?_
        intro r71 mem71 hq71
        obtain ⟨rfl, rfl⟩ := hq71
        show am_Rn l G _ _ 74 [some (.inr (.inr 96)), some (.inl ((3 * n : Nat) : Int))] [.inl (0), .inl (((3 * n) + 2 : Nat) : Int), .inr (.inr 104)] (aw (am_up (am_up M 103 (3 * n) (srt (txAt Z ((4 * n : Nat) : Int)))) 103 (3 * n + 1) (txAt Z ((4 * n + 1 : Nat) : Int) - 49 + 1)) ((4 * n + 2 : Nat) : Int) ((4 * n + 2 : Nat) : Int)) _
        refine rn_iastV (a := 103) (m1 := am_up (aw (am_up (am_up M 103 (3 * n) (srt (txAt Z ((4 * n : Nat) : Int)))) 103 (3 * n + 1) (txAt Z ((4 * n + 1 : Nat) : Int) - 49 + 1)) ((4 * n + 2 : Nat) : Int) ((4 * n + 2 : Nat) : Int)) 103 ((3 * n) + 2) (0)) (q := 75) dX9_readMan_74 rfl (by omega) (by omega) rfl rfl ?_
        refine rn_vret dX9_readMan_75 rfl ?_
        rw [aw_oc (by decide)]
        refine hQ _ _ ⟨rfl, am_up (am_up (am_up M 103 (3 * n) (srt (txAt Z ((4 * n : Nat) : Int)))) 103 (3 * n + 1) (txAt Z ((4 * n + 1 : Nat) : Int) - 49 + 1)) 103 (3 * n + 2) (0), rm_fr.1, rm_fr.2, ?_⟩
        refine Or.inr ⟨4 * n + 2, 4 * n + 2, by omega, by omega, fun j h1 h2 => ?_, fun z => ?_, by omega, rfl⟩
        · rcases (show j = 4 * n ∨ j = 4 * n + 1 by omega) with rfl | rfl
          · exact ⟨i0, g0⟩
          · exact ⟨i1, g1⟩
        · exact c2 ((f2 z.1).mp z.2)
    · skip
      refine rn_aload_n (x := 95) (q := 1) dX9_readMan_0 rfl rfl ?_
      refine rn_get (a := 95) (v := .inr (.inr 104)) (q := 4) dX9_readMan_1 fl_X9_37 rfl rfl rfl ?_
      refine rn_iload_n (x := ((3 * n : Nat) : Int)) (q := 5) dX9_readMan_4 rfl rfl ?_
      refine rn_aload_n (x := 95) (q := 6) dX9_readMan_5 rfl rfl ?_
      refine rn_callV (b := 95) (as := []) (rest := [.inl ((3 * n : Nat) : Int), .inr (.inr 104)]) (q := 9) dX9_readMan_6 ml_X9_146 sm_X9_here rfl rfl (by decide) (by omega) rfl rfl (Nat.le_of_ble_eq_true rfl) rfl (s_here9 (d := d + 2) hr (4 * n) (-1) (by omega)) ?_
      intro r6 mem6 hq6
      obtain ⟨rfl, rfl⟩ := hq6
      show am_Rn l G _ _ 9 [some (.inr (.inr 96)), some (.inl ((3 * n : Nat) : Int))] [.inl (txAt Z ((4 * n : Nat) : Int)), .inl ((3 * n : Nat) : Int), .inr (.inr 104)] (aw M ((4 * n : Nat) : Int) (-1)) _
      refine rn_callS (as := [.inl (txAt Z ((4 * n : Nat) : Int))]) (rest := [.inl ((3 * n : Nat) : Int), .inr (.inr 104)]) (q := 12) dX9_readMan_9 ml_X9_168 sm_X9_sortBy (by omega) rfl rfl (Nat.le_of_ble_eq_true rfl) rfl (m_sortBy (d := d + 2) (txAt Z ((4 * n : Nat) : Int))) ?_
      intro r9 mem9 hq9
      obtain ⟨rfl, rfl⟩ := hq9
      show am_Rn l G _ _ 12 [some (.inr (.inr 96)), some (.inl ((3 * n : Nat) : Int))] [.inl (srt (txAt Z ((4 * n : Nat) : Int))), .inl ((3 * n : Nat) : Int), .inr (.inr 104)] (aw M ((4 * n : Nat) : Int) (-1)) _
      refine rn_iastV (a := 103) (m1 := am_up (aw M ((4 * n : Nat) : Int) (-1)) 103 (3 * n) (srt (txAt Z ((4 * n : Nat) : Int)))) (q := 13) dX9_readMan_12 rfl (by omega) (by omega) rfl rfl ?_
      rw [aw_oc (by decide)]
      refine rn_aload_n (x := 95) (q := 14) dX9_readMan_13 rfl rfl ?_
      refine rn_get (a := 95) (v := .inr (.inr 104)) (q := 17) dX9_readMan_14 fl_X9_37 rfl rfl rfl ?_
      refine rn_iload_n (x := ((3 * n : Nat) : Int)) (q := 18) dX9_readMan_17 rfl rfl ?_
      refine rn_ialdV (a := 103) (v := (srt (txAt Z ((4 * n : Nat) : Int)))) (q := 19) dX9_readMan_18 rfl (by omega) (by omega) (show aw (am_up M 103 (3 * n) (srt (txAt Z ((4 * n : Nat) : Int)))) ((4 * n : Nat) : Int) (-1) 103 (3 * n) = _ by rw [aw_ne (by decide), am_up_self]) rfl ?_
      refine rn_iconst (q := 20) dX9_readMan_19 (am_okd rfl) rfl ?_
      refine rn_cmpne (t := 31) (q := 23) dX9_readMan_20 rfl rfl (fun w20 => ?_) (fun h => absurd h (by omega))
      refine rn_aload_n (x := 95) (q := 32) dX9_readMan_31 rfl rfl ?_
      refine rn_dup (q := 33) dX9_readMan_32 rfl rfl ?_
      refine rn_get (a := 95) (v := .inl ((4 * n : Nat) : Int)) (q := 36) dX9_readMan_33 fl_X9_132 rfl rfl rfl ?_
      refine rn_iconst (q := 37) dX9_readMan_36 (am_okd rfl) rfl ?_
      refine rn_iaddN (z := (((4 * n) + 1 : Nat) : Int)) (q := 38) dX9_readMan_37 (by omega) (by unfold am_ok; omega) rfl ?_
      refine rn_puti (a := 95) (q := 41) dX9_readMan_38 fl_X9_132 rfl rfl rfl rfl ?_
      rw [aw_at]
      refine rn_aload_n (x := 95) (q := 42) dX9_readMan_41 rfl rfl ?_
      refine rn_get (a := 95) (v := .inr (.inr 104)) (q := 45) dX9_readMan_42 fl_X9_37 rfl rfl rfl ?_
      refine rn_iload_n (x := ((3 * n : Nat) : Int)) (q := 46) dX9_readMan_45 rfl rfl ?_
      refine rn_iconst (q := 47) dX9_readMan_46 (am_okd rfl) rfl ?_
      refine rn_iaddN (z := (((3 * n) + 1 : Nat) : Int)) (q := 48) dX9_readMan_47 (by omega) (by unfold am_ok; omega) rfl ?_
      refine rn_aload_n (x := 95) (q := 49) dX9_readMan_48 rfl rfl ?_
      refine rn_bipush (q := 51) dX9_readMan_49 ⟨by decide, by decide⟩ rfl ?_
      refine rn_bipush (q := 53) dX9_readMan_51 ⟨by decide, by decide⟩ rfl ?_
      refine rn_callV (b := 95) (as := [.inl 49, .inl 9]) (rest := [.inl (((3 * n) + 1 : Nat) : Int), .inr (.inr 104)]) (q := 56) dX9_readMan_53 ml_X9_158 sm_X9_oneOf rfl rfl (by decide) (by omega) rfl rfl (Nat.le_of_ble_eq_true rfl) rfl (s_oneF (d := d + 0) (hr.put (c := 103) (k := 3 * n) (x := srt (txAt Z ((4 * n : Nat) : Int))) (by decide) (by decide)) (4 * n + 1) 49 9 (by omega) (by omega) (by omega) (by omega) c1) ?_
      intro r53 mem53 hq53
      obtain ⟨rfl, rfl⟩ := hq53
      show am_Rn l G _ _ 56 [some (.inr (.inr 96)), some (.inl ((3 * n : Nat) : Int))] [.inl (0), .inl (((3 * n) + 1 : Nat) : Int), .inr (.inr 104)] (aw (am_up M 103 (3 * n) (srt (txAt Z ((4 * n : Nat) : Int)))) ((4 * n + 1 : Nat) : Int) ((4 * n + 1 : Nat) : Int)) _
      refine rn_iconst (q := 57) dX9_readMan_56 (am_okd rfl) rfl ?_
      refine rn_iaddN (z := (0 + 1)) (q := 58) dX9_readMan_57 (by omega) (by unfold am_ok; omega) rfl ?_
      refine rn_iastV (a := 103) (m1 := am_up (aw (am_up M 103 (3 * n) (srt (txAt Z ((4 * n : Nat) : Int)))) ((4 * n + 1 : Nat) : Int) ((4 * n + 1 : Nat) : Int)) 103 ((3 * n) + 1) (0 + 1)) (q := 59) dX9_readMan_58 rfl (by omega) (by omega) rfl rfl ?_
      rw [aw_oc (by decide)]
      refine rn_aload_n (x := 95) (q := 60) dX9_readMan_59 rfl rfl ?_
      refine rn_get (a := 95) (v := .inr (.inr 104)) (q := 63) dX9_readMan_60 fl_X9_37 rfl rfl rfl ?_
      refine rn_iload_n (x := ((3 * n : Nat) : Int)) (q := 64) dX9_readMan_63 rfl rfl ?_
      refine rn_iconst (q := 65) dX9_readMan_64 (am_okd rfl) rfl ?_
      refine rn_iaddN (z := (((3 * n) + 2 : Nat) : Int)) (q := 66) dX9_readMan_65 (by omega) (by unfold am_ok; omega) rfl ?_
      refine rn_aload_n (x := 95) (q := 67) dX9_readMan_66 rfl rfl ?_
      refine rn_bipush (q := 69) dX9_readMan_67 ⟨by decide, by decide⟩ rfl ?_
      refine rn_bipush (q := 71) dX9_readMan_69 ⟨by decide, by decide⟩ rfl ?_
      refine rn_callV (b := 95) (as := [.inl 48, .inl 10]) (rest := [.inl (((3 * n) + 2 : Nat) : Int), .inr (.inr 104)]) (q := 74) dX9_readMan_71 ml_X9_158 sm_X9_oneOf rfl rfl (by decide) (by omega) rfl rfl (Nat.le_of_ble_eq_true rfl) rfl (s_oneW (d := d + 0) ((hr.put (c := 103) (k := 3 * n) (x := srt (txAt Z ((4 * n : Nat) : Int))) (by decide) (by decide)).put (c := 103) (k := 3 * n + 1) (x := 0 + 1) (by decide) (by decide)) (4 * n + 1) ((4 * n + 1 : Nat) : Int) 48 10 (by omega) (by omega) (by omega) (by omega) (by omega)) ?_
      intro r71 mem71 hq71
      obtain ⟨rfl, rfl⟩ := hq71
      show am_Rn l G _ _ 74 [some (.inr (.inr 96)), some (.inl ((3 * n : Nat) : Int))] [.inl (0), .inl (((3 * n) + 2 : Nat) : Int), .inr (.inr 104)] (aw (am_up (am_up M 103 (3 * n) (srt (txAt Z ((4 * n : Nat) : Int)))) 103 (3 * n + 1) (0 + 1)) ((4 * n + 1 : Nat) : Int) ((4 * n + 1 : Nat) : Int)) _
      refine rn_iastV (a := 103) (m1 := am_up (aw (am_up (am_up M 103 (3 * n) (srt (txAt Z ((4 * n : Nat) : Int)))) 103 (3 * n + 1) (0 + 1)) ((4 * n + 1 : Nat) : Int) ((4 * n + 1 : Nat) : Int)) 103 ((3 * n) + 2) (0)) (q := 75) dX9_readMan_74 rfl (by omega) (by omega) rfl rfl ?_
      refine rn_vret dX9_readMan_75 rfl ?_
      rw [aw_oc (by decide)]
      refine hQ _ _ ⟨rfl, am_up (am_up (am_up M 103 (3 * n) (srt (txAt Z ((4 * n : Nat) : Int)))) 103 (3 * n + 1) (0 + 1)) 103 (3 * n + 2) (0), rm_fr.1, rm_fr.2, ?_⟩
      refine Or.inr ⟨4 * n + 1, 4 * n + 1, by omega, by omega, fun j h1 h2 => ?_, fun z => ?_, by omega, rfl⟩
      · obtain rfl : j = 4 * n := by omega
        exact ⟨i0, g0⟩
      · exact c1 ((f1 z.1).mp z.2)
  · skip
    refine rn_aload_n (x := 95) (q := 1) dX9_readMan_0 rfl rfl ?_
    refine rn_get (a := 95) (v := .inr (.inr 104)) (q := 4) dX9_readMan_1 fl_X9_37 rfl rfl rfl ?_
    refine rn_iload_n (x := ((3 * n : Nat) : Int)) (q := 5) dX9_readMan_4 rfl rfl ?_
    refine rn_aload_n (x := 95) (q := 6) dX9_readMan_5 rfl rfl ?_
    refine rn_callV (b := 95) (as := []) (rest := [.inl ((3 * n : Nat) : Int), .inr (.inr 104)]) (q := 9) dX9_readMan_6 ml_X9_146 sm_X9_here rfl rfl (by decide) (by omega) rfl rfl (Nat.le_of_ble_eq_true rfl) rfl (s_here9 (d := d + 2) hr (4 * n) (-1) (by omega)) ?_
    intro r6 mem6 hq6
    obtain ⟨rfl, rfl⟩ := hq6
    show am_Rn l G _ _ 9 [some (.inr (.inr 96)), some (.inl ((3 * n : Nat) : Int))] [.inl (txAt Z ((4 * n : Nat) : Int)), .inl ((3 * n : Nat) : Int), .inr (.inr 104)] (aw M ((4 * n : Nat) : Int) (-1)) _
    refine rn_callS (as := [.inl (txAt Z ((4 * n : Nat) : Int))]) (rest := [.inl ((3 * n : Nat) : Int), .inr (.inr 104)]) (q := 12) dX9_readMan_9 ml_X9_168 sm_X9_sortBy (by omega) rfl rfl (Nat.le_of_ble_eq_true rfl) rfl (m_sortBy (d := d + 2) (txAt Z ((4 * n : Nat) : Int))) ?_
    intro r9 mem9 hq9
    obtain ⟨rfl, rfl⟩ := hq9
    show am_Rn l G _ _ 12 [some (.inr (.inr 96)), some (.inl ((3 * n : Nat) : Int))] [.inl (srt (txAt Z ((4 * n : Nat) : Int))), .inl ((3 * n : Nat) : Int), .inr (.inr 104)] (aw M ((4 * n : Nat) : Int) (-1)) _
    refine rn_iastV (a := 103) (m1 := am_up (aw M ((4 * n : Nat) : Int) (-1)) 103 (3 * n) (srt (txAt Z ((4 * n : Nat) : Int)))) (q := 13) dX9_readMan_12 rfl (by omega) (by omega) rfl rfl ?_
    rw [aw_oc (by decide)]
    refine rn_aload_n (x := 95) (q := 14) dX9_readMan_13 rfl rfl ?_
    refine rn_get (a := 95) (v := .inr (.inr 104)) (q := 17) dX9_readMan_14 fl_X9_37 rfl rfl rfl ?_
    refine rn_iload_n (x := ((3 * n : Nat) : Int)) (q := 18) dX9_readMan_17 rfl rfl ?_
    refine rn_ialdV (a := 103) (v := (srt (txAt Z ((4 * n : Nat) : Int)))) (q := 19) dX9_readMan_18 rfl (by omega) (by omega) (show aw (am_up M 103 (3 * n) (srt (txAt Z ((4 * n : Nat) : Int)))) ((4 * n : Nat) : Int) (-1) 103 (3 * n) = _ by rw [aw_ne (by decide), am_up_self]) rfl ?_
    refine rn_iconst (q := 20) dX9_readMan_19 (am_okd rfl) rfl ?_
    refine rn_cmpne (t := 31) (q := 23) dX9_readMan_20 rfl rfl (fun h => absurd h (by omega)) (fun w20 => ?_)
    refine rn_aload_n (x := 95) (q := 24) dX9_readMan_23 rfl rfl ?_
    refine rn_aload_n (x := 95) (q := 25) dX9_readMan_24 rfl rfl ?_
    refine rn_get (a := 95) (v := .inl ((4 * n : Nat) : Int)) (q := 28) dX9_readMan_25 fl_X9_132 rfl rfl rfl ?_
    refine rn_callV (b := 95) (as := [.inl ((4 * n : Nat) : Int)]) (rest := []) (q := 31) dX9_readMan_28 ml_X9_154 sm_X9_fault rfl rfl (by decide) (by omega) rfl rfl (Nat.le_of_ble_eq_true rfl) rfl (s_faultT (d := d + 1) ((4 * n : Nat) : Int) ((4 * n : Nat) : Int)) ?_
    intro r28 mem28 hq28
    obtain ⟨rfl, rfl⟩ := hq28
    show am_Rn l G _ _ 31 [some (.inr (.inr 96)), some (.inl ((3 * n : Nat) : Int))] [] (aw (am_up M 103 (3 * n) (srt (txAt Z ((4 * n : Nat) : Int)))) ((4 * n : Nat) : Int) ((4 * n : Nat) : Int)) _
    refine rn_aload_n (x := 95) (q := 32) dX9_readMan_31 rfl rfl ?_
    refine rn_dup (q := 33) dX9_readMan_32 rfl rfl ?_
    refine rn_get (a := 95) (v := .inl ((4 * n : Nat) : Int)) (q := 36) dX9_readMan_33 fl_X9_132 rfl rfl rfl ?_
    refine rn_iconst (q := 37) dX9_readMan_36 (am_okd rfl) rfl ?_
    refine rn_iaddN (z := (((4 * n) + 1 : Nat) : Int)) (q := 38) dX9_readMan_37 (by omega) (by unfold am_ok; omega) rfl ?_
    refine rn_puti (a := 95) (q := 41) dX9_readMan_38 fl_X9_132 rfl rfl rfl rfl ?_
    rw [aw_at]
    refine rn_aload_n (x := 95) (q := 42) dX9_readMan_41 rfl rfl ?_
    refine rn_get (a := 95) (v := .inr (.inr 104)) (q := 45) dX9_readMan_42 fl_X9_37 rfl rfl rfl ?_
    refine rn_iload_n (x := ((3 * n : Nat) : Int)) (q := 46) dX9_readMan_45 rfl rfl ?_
    refine rn_iconst (q := 47) dX9_readMan_46 (am_okd rfl) rfl ?_
    refine rn_iaddN (z := (((3 * n) + 1 : Nat) : Int)) (q := 48) dX9_readMan_47 (by omega) (by unfold am_ok; omega) rfl ?_
    refine rn_aload_n (x := 95) (q := 49) dX9_readMan_48 rfl rfl ?_
    refine rn_bipush (q := 51) dX9_readMan_49 ⟨by decide, by decide⟩ rfl ?_
    refine rn_bipush (q := 53) dX9_readMan_51 ⟨by decide, by decide⟩ rfl ?_
    refine rn_callV (b := 95) (as := [.inl 49, .inl 9]) (rest := [.inl (((3 * n) + 1 : Nat) : Int), .inr (.inr 104)]) (q := 56) dX9_readMan_53 ml_X9_158 sm_X9_oneOf rfl rfl (by decide) (by omega) rfl rfl (Nat.le_of_ble_eq_true rfl) rfl (s_oneW (d := d + 0) (hr.put (c := 103) (k := 3 * n) (x := srt (txAt Z ((4 * n : Nat) : Int))) (by decide) (by decide)) (4 * n + 1) ((4 * n : Nat) : Int) 49 9 (by omega) (by omega) (by omega) (by omega) (by omega)) ?_
    intro r53 mem53 hq53
    obtain ⟨rfl, rfl⟩ := hq53
    show am_Rn l G _ _ 56 [some (.inr (.inr 96)), some (.inl ((3 * n : Nat) : Int))] [.inl (0), .inl (((3 * n) + 1 : Nat) : Int), .inr (.inr 104)] (aw (am_up M 103 (3 * n) (srt (txAt Z ((4 * n : Nat) : Int)))) ((4 * n + 1 : Nat) : Int) ((4 * n : Nat) : Int)) _
    refine rn_iconst (q := 57) dX9_readMan_56 (am_okd rfl) rfl ?_
    refine rn_iaddN (z := (0 + 1)) (q := 58) dX9_readMan_57 (by omega) (by unfold am_ok; omega) rfl ?_
    refine rn_iastV (a := 103) (m1 := am_up (aw (am_up M 103 (3 * n) (srt (txAt Z ((4 * n : Nat) : Int)))) ((4 * n + 1 : Nat) : Int) ((4 * n : Nat) : Int)) 103 ((3 * n) + 1) (0 + 1)) (q := 59) dX9_readMan_58 rfl (by omega) (by omega) rfl rfl ?_
    rw [aw_oc (by decide)]
    refine rn_aload_n (x := 95) (q := 60) dX9_readMan_59 rfl rfl ?_
    refine rn_get (a := 95) (v := .inr (.inr 104)) (q := 63) dX9_readMan_60 fl_X9_37 rfl rfl rfl ?_
    refine rn_iload_n (x := ((3 * n : Nat) : Int)) (q := 64) dX9_readMan_63 rfl rfl ?_
    refine rn_iconst (q := 65) dX9_readMan_64 (am_okd rfl) rfl ?_
    refine rn_iaddN (z := (((3 * n) + 2 : Nat) : Int)) (q := 66) dX9_readMan_65 (by omega) (by unfold am_ok; omega) rfl ?_
    refine rn_aload_n (x := 95) (q := 67) dX9_readMan_66 rfl rfl ?_
    refine rn_bipush (q := 69) dX9_readMan_67 ⟨by decide, by decide⟩ rfl ?_
    refine rn_bipush (q := 71) dX9_readMan_69 ⟨by decide, by decide⟩ rfl ?_
    refine rn_callV (b := 95) (as := [.inl 48, .inl 10]) (rest := [.inl (((3 * n) + 2 : Nat) : Int), .inr (.inr 104)]) (q := 74) dX9_readMan_71 ml_X9_158 sm_X9_oneOf rfl rfl (by decide) (by omega) rfl rfl (Nat.le_of_ble_eq_true rfl) rfl (s_oneW (d := d + 0) ((hr.put (c := 103) (k := 3 * n) (x := srt (txAt Z ((4 * n : Nat) : Int))) (by decide) (by decide)).put (c := 103) (k := 3 * n + 1) (x := 0 + 1) (by decide) (by decide)) (4 * n + 1) ((4 * n : Nat) : Int) 48 10 (by omega) (by omega) (by omega) (by omega) (by omega)) ?_
    intro r71 mem71 hq71
    obtain ⟨rfl, rfl⟩ := hq71
    show am_Rn l G _ _ 74 [some (.inr (.inr 96)), some (.inl ((3 * n : Nat) : Int))] [.inl (0), .inl (((3 * n) + 2 : Nat) : Int), .inr (.inr 104)] (aw (am_up (am_up M 103 (3 * n) (srt (txAt Z ((4 * n : Nat) : Int)))) 103 (3 * n + 1) (0 + 1)) ((4 * n + 1 : Nat) : Int) ((4 * n : Nat) : Int)) _
    refine rn_iastV (a := 103) (m1 := am_up (aw (am_up (am_up M 103 (3 * n) (srt (txAt Z ((4 * n : Nat) : Int)))) 103 (3 * n + 1) (0 + 1)) ((4 * n + 1 : Nat) : Int) ((4 * n : Nat) : Int)) 103 ((3 * n) + 2) (0)) (q := 75) dX9_readMan_74 rfl (by omega) (by omega) rfl rfl ?_
    refine rn_vret dX9_readMan_75 rfl ?_
    rw [aw_oc (by decide)]
    refine hQ _ _ ⟨rfl, am_up (am_up (am_up M 103 (3 * n) (srt (txAt Z ((4 * n : Nat) : Int)))) 103 (3 * n + 1) (0 + 1)) 103 (3 * n + 2) (0), rm_fr.1, rm_fr.2, ?_⟩
    refine Or.inr ⟨4 * n, 4 * n + 1, by omega, by omega, fun j h1 h2 => ?_, fun z => ?_, by omega, rfl⟩
    · omega
    · exact c0 ((f0 z.1).mp z.2)
end P95
