/-! fractions -/
theorem gc_step {a b f : Nat} (hb : 0 < b) (hba : b ≤ a) (h : a * b < 2 ^ (f + 1)) : a % b ≤ b ∧ b * (a % b) < 2 ^ f := by
  have h1 := Nat.mod_lt a hb
  have h2 := Nat.div_add_mod a b
  have h3 : 1 ≤ a / b := (Nat.le_div_iff_mul_le hb).mpr (by omega)
  have h4 : b * 1 ≤ b * (a / b) := Nat.mul_le_mul (Nat.le_refl _) h3
  have h5 : 2 * (a % b) ≤ a := by omega
  have h6 : b * (2 * (a % b)) ≤ b * a := Nat.mul_le_mul (Nat.le_refl _) h5
  rw [Nat.mul_comm b a] at h6
  have h7 : b * (2 * (a % b)) = 2 * (b * (a % b)) := by rw [Nat.mul_left_comm]
  rw [Nat.pow_succ] at h
  omega
theorem gc_first {u m : Nat} (hm : 0 < m) (h10 : m ≤ 10000000000) : u % m ≤ m ∧ m * (u % m) < 2 ^ 68 := by
  have h1 := Nat.mod_lt u hm
  have h2 : m * (u % m) ≤ 10000000000 * 10000000000 := Nat.mul_le_mul h10 (by omega)
  have h3 : 10000000000 * 10000000000 < 2 ^ 68 := by decide
  exact ⟨by omega, by omega⟩
theorem gc_0 {a b : Nat} (hba : b ≤ a) (h : a * b < 2 ^ 0) : b = 0 := by
  rw [Nat.pow_zero] at h
  have h1 : a * b = 0 := by omega
  rcases Nat.mul_eq_zero.mp h1 with h2 | h2 <;> omega
theorem gc_eq {a b : Nat} : Nat.gcd b (a % b) = Nat.gcd a b := by rw [Nat.gcd_comm, ← Nat.gcd_rec, Nat.gcd_comm]
theorem p10_le {n : Nat} (h : n ≤ 10) : 10 ^ n ≤ 10000000000 := Nat.le_trans (Nat.pow_le_pow_right (by decide) h) (by decide)
def frc (u m : Nat) : List Int := [((u / Nat.gcd u m : Nat) : Int), ((m / Nat.gcd u m : Nat) : Int)]
section P67
variable {l : Launch} {G : am_G} {d : Nat} {r : Nat} {X : List Nat} {C : List Int} {sn : Nat} {sg : Nat → Nat} {h : hrs} {e : est} {NB : Nat} {mem m : am_M}
theorem s_ten8 (n : Nat) (hn : n ≤ 10) : am_Sm l G yX8_tenToThe mt_X8_tenToThe d [.inl (n : Int)] mem (am_rr (some (.inr (.inl ((10 ^ n : Nat) : Int)))) mem) := by
  refine am_enterQ (ls := [some (.inl (n : Int)), none, none, none]) (by decide) rfl (Nat.le_of_ble_eq_true rfl) rfl (fun hok Q hQ => ?_)
  have L : ∀ i : Nat, i ≤ n → ∀ s : Nat, s = 10 ^ i → am_Rn l G mt_X8_tenToThe d 4 [some (.inl (n : Int)), some (.inr (.inl (s : Int))), none, some (.inl (i : Int))] [] mem Q := by
    refine am_dn n (fun i hi ih s hs => ?_)
    have p1 := p10_le (show i ≤ 10 by omega)
    refine rn_iload_n (x := (i : Int)) (q := 5) dX8_tenToThe_4 rfl rfl ?_
    refine rn_iload_n (x := (n : Int)) (q := 6) dX8_tenToThe_5 rfl rfl ?_
    refine rn_cmpge (t := 21) (q := 9) dX8_tenToThe_6 rfl rfl (fun w6 => ?_) (fun w6 => ?_)
    · refine rn_lload_n (x := (s : Int)) (q := 22) dX8_tenToThe_21 rfl rfl ?_
      refine rn_lret dX8_tenToThe_22 rfl ?_
      exact hQ _ _ ⟨by rw [hs, show i = n by omega], rfl⟩
    · refine rn_lload_n (x := (s : Int)) (q := 10) dX8_tenToThe_9 rfl rfl ?_
      refine rn_ldc2 (n := 10) (q := 13) dX8_tenToThe_10 kc_X8_374 rfl (am_okld rfl) rfl ?_
      refine rn_lmulN (z := ((s * 10 : Nat) : Int)) (q := 14) dX8_tenToThe_13 (by omega) (by unfold am_okl; omega) rfl ?_
      refine rn_lstore_n (ls' := [some (.inl (n : Int)), some (.inr (.inl ((s * 10 : Nat) : Int))), none, some (.inl (i : Int))]) (q := 15) dX8_tenToThe_14 (by decide) rfl rfl ?_
      refine rn_iincN (x := (i : Int)) (z := ((i + 1 : Nat) : Int)) (ls' := [some (.inl (n : Int)), some (.inr (.inl ((s * 10 : Nat) : Int))), none, some (.inl ((i + 1 : Nat) : Int))]) (q := 18) dX8_tenToThe_15 rfl (by decide) (by omega) (by unfold am_ok; omega) rfl rfl ?_
      refine rn_goto (t := 4) dX8_tenToThe_18 rfl ?_
      exact ih (by omega) _ (by rw [hs, Nat.pow_succ])
  refine rn_lconst1 (q := 1) dX8_tenToThe_0 rfl ?_
  refine rn_lstore_n (ls' := [some (.inl (n : Int)), some (.inr (.inl 1)), none, none]) (q := 2) dX8_tenToThe_1 (by decide) rfl rfl ?_
  refine rn_iconst (q := 3) dX8_tenToThe_2 (am_okd rfl) rfl ?_
  refine rn_istore_n (ls' := [some (.inl (n : Int)), some (.inr (.inl 1)), none, some (.inl 0)]) (q := 4) dX8_tenToThe_3 (by decide) rfl rfl ?_
  exact L 0 (Nat.zero_le _) 1 rfl
theorem s_pow9 (n : Nat) (hn : n ≤ 10) : am_Sm l G yX9_power mt_X9_power d [.inr (.inl 10), .inl (n : Int)] mem (am_rr (some (.inr (.inl ((10 ^ n : Nat) : Int)))) mem) := by
  refine am_enterQ (ls := [some (.inr (.inl 10)), none, some (.inl (n : Int)), none, none, none]) (by decide) rfl (Nat.le_of_ble_eq_true rfl) rfl (fun hok Q hQ => ?_)
  have L : ∀ i : Nat, i ≤ n → ∀ s : Nat, s = 10 ^ i → am_Rn l G mt_X9_power d 5 [some (.inr (.inl 10)), none, some (.inl (n : Int)), some (.inr (.inl (s : Int))), none, some (.inl (i : Int))] [] mem Q := by
    refine am_dn n (fun i hi ih s hs => ?_)
    have p1 := p10_le (show i ≤ 10 by omega)
    refine rn_iload (x := (i : Int)) (q := 7) dX9_power_5 rfl rfl ?_
    refine rn_iload_n (x := (n : Int)) (q := 8) dX9_power_7 rfl rfl ?_
    refine rn_cmpge (t := 21) (q := 11) dX9_power_8 rfl rfl (fun w8 => ?_) (fun w8 => ?_)
    · refine rn_lload_n (x := (s : Int)) (q := 22) dX9_power_21 rfl rfl ?_
      refine rn_lret dX9_power_22 rfl ?_
      exact hQ _ _ ⟨by rw [hs, show i = n by omega], rfl⟩
    · refine rn_lload_n (x := (s : Int)) (q := 12) dX9_power_11 rfl rfl ?_
      refine rn_lload_n (x := 10) (q := 13) dX9_power_12 rfl rfl ?_
      refine rn_lmulN (z := ((s * 10 : Nat) : Int)) (q := 14) dX9_power_13 (by omega) (by unfold am_okl; omega) rfl ?_
      refine rn_lstore_n (ls' := [some (.inr (.inl 10)), none, some (.inl (n : Int)), some (.inr (.inl ((s * 10 : Nat) : Int))), none, some (.inl (i : Int))]) (q := 15) dX9_power_14 (by decide) rfl rfl ?_
      refine rn_iincN (x := (i : Int)) (z := ((i + 1 : Nat) : Int)) (ls' := [some (.inr (.inl 10)), none, some (.inl (n : Int)), some (.inr (.inl ((s * 10 : Nat) : Int))), none, some (.inl ((i + 1 : Nat) : Int))]) (q := 18) dX9_power_15 rfl (by decide) (by omega) (by unfold am_ok; omega) rfl rfl ?_
      refine rn_goto (t := 5) dX9_power_18 rfl ?_
      exact ih (by omega) _ (by rw [hs, Nat.pow_succ])
  refine rn_lconst1 (q := 1) dX9_power_0 rfl ?_
  refine rn_lstore_n (ls' := [some (.inr (.inl 10)), none, some (.inl (n : Int)), some (.inr (.inl 1)), none, none]) (q := 2) dX9_power_1 (by decide) rfl rfl ?_
  refine rn_iconst (q := 3) dX9_power_2 (am_okd rfl) rfl ?_
  refine rn_istore (ls' := [some (.inr (.inl 10)), none, some (.inl (n : Int)), some (.inr (.inl 1)), none, some (.inl 0)]) (q := 5) dX9_power_3 (by decide) rfl rfl ?_
  exact L 0 (Nat.zero_le _) 1 rfl
theorem s_common (f : Nat) : ∀ a b : Nat, b ≤ a → a * b < 2 ^ f → a ≤ 10000000000 → am_Sm l G yX9_common mt_X9_common (d + f) [.inr (.inl (a : Int)), .inr (.inl (b : Int))] mem (am_rr (some (.inr (.inl (Nat.gcd a b : Int)))) mem) := by
  induction f with
  | zero =>
    intro a b hba hab ha
    obtain rfl := gc_0 hba hab
    refine am_enterQ (ls := [some (.inr (.inl (a : Int))), none, some (.inr (.inl ((0 : Nat) : Int))), none]) (by decide) rfl (Nat.le_of_ble_eq_true rfl) rfl (fun hok Q hQ => ?_)
    refine rn_lload_n (x := ((0 : Nat) : Int)) (q := 1) dX9_common_0 rfl rfl ?_
    refine rn_lconst0 (q := 2) dX9_common_1 rfl ?_
    refine rn_lcmp (q := 3) dX9_common_2 rfl ?_
    refine rn_ifne (t := 10) (q := 6) dX9_common_3 rfl rfl (fun w3 => ?_) (fun w3 => ?_)
    · rw [am_cmpE] at w3
      exfalso; omega
    · rw [am_cmpE] at w3
      refine rn_lload_n (x := (a : Int)) (q := 7) dX9_common_6 rfl rfl ?_
      refine rn_goto (t := 17) dX9_common_7 rfl ?_
      refine rn_lret dX9_common_17 rfl ?_
      first | exact hQ _ _ ⟨by rw [Nat.gcd_zero_right], rfl⟩ | (exfalso; omega)
  | succ f ih =>
    intro a b hba hab ha
    refine am_enterQ (ls := [some (.inr (.inl (a : Int))), none, some (.inr (.inl (b : Int))), none]) (by decide) rfl (Nat.le_of_ble_eq_true rfl) rfl (fun hok Q hQ => ?_)
    by_cases hb : b = 0
    · subst hb
      refine rn_lload_n (x := ((0 : Nat) : Int)) (q := 1) dX9_common_0 rfl rfl ?_
      refine rn_lconst0 (q := 2) dX9_common_1 rfl ?_
      refine rn_lcmp (q := 3) dX9_common_2 rfl ?_
      refine rn_ifne (t := 10) (q := 6) dX9_common_3 rfl rfl (fun w3 => ?_) (fun w3 => ?_)
      · rw [am_cmpE] at w3
        exfalso; omega
      · rw [am_cmpE] at w3
        refine rn_lload_n (x := (a : Int)) (q := 7) dX9_common_6 rfl rfl ?_
        refine rn_goto (t := 17) dX9_common_7 rfl ?_
        refine rn_lret dX9_common_17 rfl ?_
        first | exact hQ _ _ ⟨by rw [Nat.gcd_zero_right], rfl⟩ | (exfalso; omega)
    · have hs := gc_step (by omega) hba hab
      have hm := Nat.mod_lt a (show 0 < b by omega)
      have hc := ih b (a % b) hs.1 hs.2 (by omega)
      refine rn_lload_n (x := (b : Int)) (q := 1) dX9_common_0 rfl rfl ?_
      refine rn_lconst0 (q := 2) dX9_common_1 rfl ?_
      refine rn_lcmp (q := 3) dX9_common_2 rfl ?_
      refine rn_ifne (t := 10) (q := 6) dX9_common_3 rfl rfl (fun w3 => ?_) (fun w3 => ?_)
      · rw [am_cmpE] at w3
        refine rn_lload_n (x := (b : Int)) (q := 11) dX9_common_10 rfl rfl ?_
        refine rn_lload_n (x := (a : Int)) (q := 12) dX9_common_11 rfl rfl ?_
        refine rn_lload_n (x := (b : Int)) (q := 13) dX9_common_12 rfl rfl ?_
        refine rn_lremN (z := ((a % b : Nat) : Int)) (q := 14) dX9_common_13 (by omega) (Int.ofNat_tmod a b).symm (by unfold am_okl; omega) rfl ?_
        refine rn_callS (as := [.inr (.inl (b : Int)), .inr (.inl ((a % b : Nat) : Int))]) (rest := []) (q := 17) dX9_common_14 ml_X9_324 sm_X9_common (by omega) rfl rfl (Nat.le_of_ble_eq_true rfl) rfl hc ?_
        intro r14 mem14 hq14
        obtain ⟨rfl, rfl⟩ := hq14
        show am_Rn l G _ _ 17 [some (.inr (.inl (a : Int))), none, some (.inr (.inl (b : Int))), none] [.inr (.inl (Nat.gcd b (a % b) : Int))] mem _
        refine rn_lret dX9_common_17 rfl ?_
        exact hQ _ _ ⟨by rw [gc_eq], rfl⟩
      · rw [am_cmpE] at w3
        exfalso; omega
theorem s_common0 (u m : Nat) (hm : 0 < m) (h10 : m ≤ 10000000000) (hu : u ≤ 9000000000000000000) : am_Sm l G yX9_common mt_X9_common (d + 69) [.inr (.inl (u : Int)), .inr (.inl (m : Int))] mem (am_rr (some (.inr (.inl (Nat.gcd u m : Int)))) mem) := by
  refine am_enterQ (ls := [some (.inr (.inl (u : Int))), none, some (.inr (.inl (m : Int))), none]) (by decide) rfl (Nat.le_of_ble_eq_true rfl) rfl (fun hok Q hQ => ?_)
  have hs := gc_first (u := u) hm h10
  have hm2 := Nat.mod_lt u hm
  have hc := s_common (l := l) (G := G) (d := d) (mem := mem) 68 m (u % m) hs.1 hs.2 h10
  refine rn_lload_n (x := (m : Int)) (q := 1) dX9_common_0 rfl rfl ?_
  refine rn_lconst0 (q := 2) dX9_common_1 rfl ?_
  refine rn_lcmp (q := 3) dX9_common_2 rfl ?_
  refine rn_ifne (t := 10) (q := 6) dX9_common_3 rfl rfl (fun w3 => ?_) (fun w3 => ?_)
  · rw [am_cmpE] at w3
    refine rn_lload_n (x := (m : Int)) (q := 11) dX9_common_10 rfl rfl ?_
    refine rn_lload_n (x := (u : Int)) (q := 12) dX9_common_11 rfl rfl ?_
    refine rn_lload_n (x := (m : Int)) (q := 13) dX9_common_12 rfl rfl ?_
    refine rn_lremN (z := ((u % m : Nat) : Int)) (q := 14) dX9_common_13 (by omega) (Int.ofNat_tmod u m).symm (by unfold am_okl; omega) rfl ?_
    refine rn_callS (as := [.inr (.inl (m : Int)), .inr (.inl ((u % m : Nat) : Int))]) (rest := []) (q := 17) dX9_common_14 ml_X9_324 sm_X9_common (by omega) rfl rfl (Nat.le_of_ble_eq_true rfl) rfl hc ?_
    intro r14 mem14 hq14
    obtain ⟨rfl, rfl⟩ := hq14
    show am_Rn l G _ _ 17 [some (.inr (.inl (u : Int))), none, some (.inr (.inl (m : Int))), none] [.inr (.inl (Nat.gcd m (u % m) : Int))] mem _
    refine rn_lret dX9_common_17 rfl ?_
    exact hQ _ _ ⟨by rw [gc_eq], rfl⟩
  · rw [am_cmpE] at w3
    exfalso; omega
theorem s_tellPart {R : List Int} (hr : m_row R mem) (hl : R.length < 8) (u m : Nat) (hm : 0 < m) (h10 : m ≤ 10000000000) (hu : u ≤ 9000000000000000000) : am_Sm l G yX9_tellPart mt_X9_tellPart (d + 70) [.inr (.inr 96), .inr (.inl (u : Int)), .inr (.inl (m : Int))] mem (fun q m1 => q = none ∧ m_row (R ++ frc u m) m1 ∧ frS s9r mem m1 ∧ ∀ b k, (b == 95) = false → (b == 102) = false → m1 b k = mem b k) := by
  refine am_enterQ (ls := [some (.inr (.inr 96)), some (.inr (.inl (u : Int))), none, some (.inr (.inl (m : Int))), none, none, none]) (by decide) rfl (Nat.le_of_ble_eq_true rfl) rfl (fun hok Q hQ => ?_)
  have g0 : 0 < Nat.gcd u m := Nat.gcd_pos_of_pos_right _ hm
  have g1 : u / Nat.gcd u m ≤ u := Nat.div_le_self _ _
  have g2 : m / Nat.gcd u m ≤ m := Nat.div_le_self _ _
  obtain ⟨qu, hqu⟩ : ∃ x, x = u / Nat.gcd u m := ⟨_, rfl⟩
  obtain ⟨qm, hqm⟩ : ∃ x, x = m / Nat.gcd u m := ⟨_, rfl⟩
  have hfr : frc u m = [(qu : Int), (qm : Int)] := by unfold frc; rw [← hqu, ← hqm]
  rw [← hqu] at g1
  rw [← hqm] at g2
  refine rn_lload_n (x := (u : Int)) (q := 1) dX9_tellPart_0 rfl rfl ?_
  refine rn_lload_n (x := (m : Int)) (q := 2) dX9_tellPart_1 rfl rfl ?_
  refine rn_callS (as := [.inr (.inl (u : Int)), .inr (.inl (m : Int))]) (rest := []) (q := 5) dX9_tellPart_2 ml_X9_324 sm_X9_common (by omega) rfl rfl (Nat.le_of_ble_eq_true rfl) rfl (s_common0 (d := d + 0) u m hm h10 hu) ?_
  intro r2 mem2 hq2
  obtain ⟨rfl, rfl⟩ := hq2
  show am_Rn l G _ _ 5 [some (.inr (.inr 96)), some (.inr (.inl (u : Int))), none, some (.inr (.inl (m : Int))), none, none, none] [.inr (.inl (Nat.gcd u m : Int))] mem _
  refine rn_lstore (ls' := [some (.inr (.inr 96)), some (.inr (.inl (u : Int))), none, some (.inr (.inl (m : Int))), none, some (.inr (.inl (Nat.gcd u m : Int))), none]) (q := 7) dX9_tellPart_5 (by decide) rfl rfl ?_
  refine rn_aload_n (x := 95) (q := 8) dX9_tellPart_7 rfl rfl ?_
  refine rn_lload_n (x := (u : Int)) (q := 9) dX9_tellPart_8 rfl rfl ?_
  refine rn_lload (x := (Nat.gcd u m : Int)) (q := 11) dX9_tellPart_9 rfl rfl ?_
  refine rn_ldivN (z := (qu : Int)) (q := 12) dX9_tellPart_11 (by omega) (by rw [hqu]; exact (Int.ofNat_tdiv u (Nat.gcd u m)).symm) (by unfold am_okl; omega) rfl ?_
  refine rn_callV (b := 95) (as := [.inr (.inl (qu : Int))]) (rest := []) (q := 15) dX9_tellPart_12 ml_X9_275 sm_X9_tell rfl rfl (by decide) (by omega) rfl rfl (Nat.le_of_ble_eq_true rfl) rfl (m_tellA (d := d + 69) hr (by omega) (qu : Int)) ?_
  intro r12 mem12 hq12
  obtain ⟨rfl, hr12, hf12, hf12a⟩ := hq12
  show am_Rn l G _ _ 15 [some (.inr (.inr 96)), some (.inr (.inl (u : Int))), none, some (.inr (.inl (m : Int))), none, some (.inr (.inl (Nat.gcd u m : Int))), none] [] mem12 _
  refine rn_aload_n (x := 95) (q := 16) dX9_tellPart_15 rfl rfl ?_
  refine rn_lload_n (x := (m : Int)) (q := 17) dX9_tellPart_16 rfl rfl ?_
  refine rn_lload (x := (Nat.gcd u m : Int)) (q := 19) dX9_tellPart_17 rfl rfl ?_
  refine rn_ldivN (z := (qm : Int)) (q := 20) dX9_tellPart_19 (by omega) (by rw [hqm]; exact (Int.ofNat_tdiv m (Nat.gcd u m)).symm) (by unfold am_okl; omega) rfl ?_
  refine rn_callV (b := 95) (as := [.inr (.inl (qm : Int))]) (rest := []) (q := 23) dX9_tellPart_20 ml_X9_275 sm_X9_tell rfl rfl (by decide) (by omega) rfl rfl (Nat.le_of_ble_eq_true rfl) rfl (m_tellA (d := d + 69) hr12 (by simp; omega) (qm : Int)) ?_
  intro r20 mem20 hq20
  obtain ⟨rfl, hr20, hf20, hf20a⟩ := hq20
  show am_Rn l G _ _ 23 [some (.inr (.inr 96)), some (.inr (.inl (u : Int))), none, some (.inr (.inl (m : Int))), none, some (.inr (.inl (Nat.gcd u m : Int))), none] [] mem20 _
  refine rn_vret dX9_tellPart_23 rfl ?_
  exact hQ _ _ ⟨rfl, by rw [List.append_assoc] at hr20; rw [hfr]; exact hr20, hf12.tr hf20, fun b k h1 h2 => (hf20a b k h1 h2).trans (hf12a b k h1 h2)⟩
theorem s_tellFr {R : List Int} (hr : c_row R mem) (hl : R.length < 8) (u m : Nat) (hm : 0 < m) (h10 : m ≤ 10000000000) (hu : u ≤ 9000000000000000000) : am_Sm l G yX8_tellFraction mt_X8_tellFraction (d + 1) [.inr (.inr 1), .inr (.inl (u : Int)), .inr (.inl (m : Int))] mem (fun q m1 => q = none ∧ c_row (R ++ frc u m) m1 ∧ frS s8r mem m1 ∧ ∀ b k, (b == 3) = false → (b == 4) = false → m1 b k = mem b k) := by
  refine am_enterQ (ls := [some (.inr (.inr 1)), some (.inr (.inl (u : Int))), none, some (.inr (.inl (m : Int))), none, none, none, none, none, none, none, none]) (by decide) rfl (Nat.le_of_ble_eq_true rfl) rfl (fun hok Q hQ => ?_)
  have g0 : 0 < Nat.gcd u m := Nat.gcd_pos_of_pos_right _ hm
  have g1 : u / Nat.gcd u m ≤ u := Nat.div_le_self _ _
  have g2 : m / Nat.gcd u m ≤ m := Nat.div_le_self _ _
  obtain ⟨qu, hqu⟩ : ∃ x, x = u / Nat.gcd u m := ⟨_, rfl⟩
  obtain ⟨qm, hqm⟩ : ∃ x, x = m / Nat.gcd u m := ⟨_, rfl⟩
  have hfr : frc u m = [(qu : Int), (qm : Int)] := by unfold frc; rw [← hqu, ← hqm]
  rw [← hqu] at g1
  rw [← hqm] at g2
  have g3 : Nat.gcd u m ≤ m := Nat.gcd_le_right _ hm
  have fin : ∀ (i : Nat) (lx : Option am_V), am_Rn l G mt_X8_tellFraction (d + 1) 45 [some (.inr (.inr 1)), some (.inr (.inl (u : Int))), none, some (.inr (.inl (m : Int))), none, some (.inr (.inl (Nat.gcd u m : Int))), none, some (.inr (.inl ((0 : Nat) : Int))), none, some (.inl (i : Int)), lx, none] [] mem Q := by
    intro i lx
    refine rn_lload (x := (Nat.gcd u m : Int)) (q := 47) dX8_tellFraction_45 rfl rfl ?_
    refine rn_lconst0 (q := 48) dX8_tellFraction_47 rfl ?_
    refine rn_lcmp (q := 49) dX8_tellFraction_48 rfl ?_
    refine rn_ifle (t := 57) (q := 52) dX8_tellFraction_49 rfl rfl (fun w49 => ?_) (fun w49 => ?_)
    · rw [am_cmpD] at w49
      exfalso; omega
    · rw [am_cmpC] at w49
      refine rn_lload (x := (Nat.gcd u m : Int)) (q := 54) dX8_tellFraction_52 rfl rfl ?_
      refine rn_goto (t := 58) dX8_tellFraction_54 rfl ?_
      refine rn_lstore (ls' := [some (.inr (.inr 1)), some (.inr (.inl (u : Int))), none, some (.inr (.inl (m : Int))), none, some (.inr (.inl (Nat.gcd u m : Int))), none, some (.inr (.inl ((0 : Nat) : Int))), none, some (.inr (.inl (Nat.gcd u m : Int))), none, none]) (q := 60) dX8_tellFraction_58 (by decide) rfl rfl ?_
      refine rn_aload_n (x := 0) (q := 61) dX8_tellFraction_60 rfl rfl ?_
      refine rn_get (a := 0) (v := .inr (.inr 4)) (q := 64) dX8_tellFraction_61 fl_X8_19 rfl rfl rfl ?_
      refine rn_lload_n (x := (u : Int)) (q := 65) dX8_tellFraction_64 rfl rfl ?_
      refine rn_lload (x := (Nat.gcd u m : Int)) (q := 67) dX8_tellFraction_65 rfl rfl ?_
      refine rn_ldivN (z := (qu : Int)) (q := 68) dX8_tellFraction_67 (by omega) (by rw [hqu]; exact (Int.ofNat_tdiv u (Nat.gcd u m)).symm) (by unfold am_okl; omega) rfl ?_
      refine rn_callV (b := 3) (as := [.inr (.inl (qu : Int))]) (rest := []) (q := 71) dX8_tellFraction_68 ml_X8_334 sm_X3_add rfl rfl (by decide) (by omega) rfl rfl (Nat.le_of_ble_eq_true rfl) rfl (c_addA (d := d + 0) hr (by omega) (qu : Int)) ?_
      intro r68 mem68 hq68
      obtain ⟨rfl, hr68, hf68, hf68a⟩ := hq68
      show am_Rn l G _ _ 71 [some (.inr (.inr 1)), some (.inr (.inl (u : Int))), none, some (.inr (.inl (m : Int))), none, some (.inr (.inl (Nat.gcd u m : Int))), none, some (.inr (.inl ((0 : Nat) : Int))), none, some (.inr (.inl (Nat.gcd u m : Int))), none, none] [] mem68 _
      refine rn_aload_n (x := 0) (q := 72) dX8_tellFraction_71 rfl rfl ?_
      refine rn_get (a := 0) (v := .inr (.inr 4)) (q := 75) dX8_tellFraction_72 fl_X8_19 rfl rfl rfl ?_
      refine rn_lload_n (x := (m : Int)) (q := 76) dX8_tellFraction_75 rfl rfl ?_
      refine rn_lload (x := (Nat.gcd u m : Int)) (q := 78) dX8_tellFraction_76 rfl rfl ?_
      refine rn_ldivN (z := (qm : Int)) (q := 79) dX8_tellFraction_78 (by omega) (by rw [hqm]; exact (Int.ofNat_tdiv m (Nat.gcd u m)).symm) (by unfold am_okl; omega) rfl ?_
      refine rn_callV (b := 3) (as := [.inr (.inl (qm : Int))]) (rest := []) (q := 82) dX8_tellFraction_79 ml_X8_334 sm_X3_add rfl rfl (by decide) (by omega) rfl rfl (Nat.le_of_ble_eq_true rfl) rfl (c_addA (d := d + 0) hr68 (by simp; omega) (qm : Int)) ?_
      intro r79 mem79 hq79
      obtain ⟨rfl, hr79, hf79, hf79a⟩ := hq79
      show am_Rn l G _ _ 82 [some (.inr (.inr 1)), some (.inr (.inl (u : Int))), none, some (.inr (.inl (m : Int))), none, some (.inr (.inl (Nat.gcd u m : Int))), none, some (.inr (.inl ((0 : Nat) : Int))), none, some (.inr (.inl (Nat.gcd u m : Int))), none, none] [] mem79 _
      refine rn_vret dX8_tellFraction_82 rfl ?_
      exact hQ _ _ ⟨rfl, by rw [List.append_assoc] at hr79; rw [hfr]; exact hr79, hf68.tr hf79, fun b k h1 h2 => (hf79a b k h1 h2).trans (hf68a b k h1 h2)⟩
  have L : ∀ (f i a b : Nat) (lx : Option am_V), i + f ≤ 128 → b ≤ a → a * b < 2 ^ f → a ≤ 10000000000 → Nat.gcd a b = Nat.gcd u m → am_Rn l G mt_X8_tellFraction (d + 1) 9 [some (.inr (.inr 1)), some (.inr (.inl (u : Int))), none, some (.inr (.inl (m : Int))), none, some (.inr (.inl (a : Int))), none, some (.inr (.inl (b : Int))), none, some (.inl (i : Int)), lx, none] [] mem Q := by
    intro f
    induction f with
    | zero =>
      intro i a b lx hi hba hab ha hg
      obtain rfl := gc_0 hba hab
      rw [Nat.gcd_zero_right] at hg
      subst hg
      refine rn_iload (x := (i : Int)) (q := 11) dX8_tellFraction_9 rfl rfl ?_
      refine rn_sipush (q := 14) dX8_tellFraction_11 ⟨by decide, by decide⟩ rfl ?_
      refine rn_cmpge (t := 45) (q := 17) dX8_tellFraction_14 rfl rfl (fun w14 => ?_) (fun w14 => ?_)
      · exact fin i lx
      · refine rn_lload (x := ((0 : Nat) : Int)) (q := 19) dX8_tellFraction_17 rfl rfl ?_
        refine rn_lconst0 (q := 20) dX8_tellFraction_19 rfl ?_
        refine rn_lcmp (q := 21) dX8_tellFraction_20 rfl ?_
        refine rn_ifeq (t := 45) (q := 24) dX8_tellFraction_21 rfl rfl (fun w21 => ?_) (fun w21 => ?_)
        · rw [am_cmpE] at w21
          exact fin i lx
        · rw [am_cmpE] at w21
          exfalso; omega
    | succ f ih =>
      intro i a b lx hi hba hab ha hg
      by_cases hb : b = 0
      · subst hb
        rw [Nat.gcd_zero_right] at hg
        subst hg
        refine rn_iload (x := (i : Int)) (q := 11) dX8_tellFraction_9 rfl rfl ?_
        refine rn_sipush (q := 14) dX8_tellFraction_11 ⟨by decide, by decide⟩ rfl ?_
        refine rn_cmpge (t := 45) (q := 17) dX8_tellFraction_14 rfl rfl (fun w14 => ?_) (fun w14 => ?_)
        · exact fin i lx
        · refine rn_lload (x := ((0 : Nat) : Int)) (q := 19) dX8_tellFraction_17 rfl rfl ?_
          refine rn_lconst0 (q := 20) dX8_tellFraction_19 rfl ?_
          refine rn_lcmp (q := 21) dX8_tellFraction_20 rfl ?_
          refine rn_ifeq (t := 45) (q := 24) dX8_tellFraction_21 rfl rfl (fun w21 => ?_) (fun w21 => ?_)
          · rw [am_cmpE] at w21
            exact fin i lx
          · rw [am_cmpE] at w21
            exfalso; omega
      · have hs := gc_step (by omega) hba hab
        have hm2 := Nat.mod_lt a (show 0 < b by omega)
        refine rn_iload (x := (i : Int)) (q := 11) dX8_tellFraction_9 rfl rfl ?_
        refine rn_sipush (q := 14) dX8_tellFraction_11 ⟨by decide, by decide⟩ rfl ?_
        refine rn_cmpge (t := 45) (q := 17) dX8_tellFraction_14 rfl rfl (fun w14 => ?_) (fun w14 => ?_)
        · exfalso; omega
        · refine rn_lload (x := (b : Int)) (q := 19) dX8_tellFraction_17 rfl rfl ?_
          refine rn_lconst0 (q := 20) dX8_tellFraction_19 rfl ?_
          refine rn_lcmp (q := 21) dX8_tellFraction_20 rfl ?_
          refine rn_ifeq (t := 45) (q := 24) dX8_tellFraction_21 rfl rfl (fun w21 => ?_) (fun w21 => ?_)
          · rw [am_cmpE] at w21
            exfalso; omega
          · rw [am_cmpE] at w21
            refine rn_lload (x := (a : Int)) (q := 26) dX8_tellFraction_24 rfl rfl ?_
            refine rn_lload (x := (b : Int)) (q := 28) dX8_tellFraction_26 rfl rfl ?_
            refine rn_lremN (z := ((a % b : Nat) : Int)) (q := 29) dX8_tellFraction_28 (by omega) (Int.ofNat_tmod a b).symm (by unfold am_okl; omega) rfl ?_
            refine rn_lstore (ls' := [some (.inr (.inr 1)), some (.inr (.inl (u : Int))), none, some (.inr (.inl (m : Int))), none, some (.inr (.inl (a : Int))), none, some (.inr (.inl (b : Int))), none, some (.inl (i : Int)), some (.inr (.inl ((a % b : Nat) : Int))), none]) (q := 31) dX8_tellFraction_29 (by decide) rfl rfl ?_
            refine rn_lload (x := (b : Int)) (q := 33) dX8_tellFraction_31 rfl rfl ?_
            refine rn_lstore (ls' := [some (.inr (.inr 1)), some (.inr (.inl (u : Int))), none, some (.inr (.inl (m : Int))), none, some (.inr (.inl (b : Int))), none, some (.inr (.inl (b : Int))), none, some (.inl (i : Int)), some (.inr (.inl ((a % b : Nat) : Int))), none]) (q := 35) dX8_tellFraction_33 (by decide) rfl rfl ?_
            refine rn_lload (x := ((a % b : Nat) : Int)) (q := 37) dX8_tellFraction_35 rfl rfl ?_
            refine rn_lstore (ls' := [some (.inr (.inr 1)), some (.inr (.inl (u : Int))), none, some (.inr (.inl (m : Int))), none, some (.inr (.inl (b : Int))), none, some (.inr (.inl ((a % b : Nat) : Int))), none, some (.inl (i : Int)), some (.inr (.inl ((a % b : Nat) : Int))), none]) (q := 39) dX8_tellFraction_37 (by decide) rfl rfl ?_
            refine rn_iincN (x := (i : Int)) (z := ((i + 1 : Nat) : Int)) (ls' := [some (.inr (.inr 1)), some (.inr (.inl (u : Int))), none, some (.inr (.inl (m : Int))), none, some (.inr (.inl (b : Int))), none, some (.inr (.inl ((a % b : Nat) : Int))), none, some (.inl ((i + 1 : Nat) : Int)), some (.inr (.inl ((a % b : Nat) : Int))), none]) (q := 42) dX8_tellFraction_39 rfl (by decide) (by omega) (by unfold am_ok; omega) rfl rfl ?_
            refine rn_goto (t := 9) dX8_tellFraction_42 rfl ?_
            exact ih (i + 1) b (a % b) _ (by omega) hs.1 hs.2 (by omega) (by rw [gc_eq]; exact hg)
  have hs := gc_first (u := u) hm h10
  have hm2 := Nat.mod_lt u hm
  have first : am_Rn l G mt_X8_tellFraction (d + 1) 9 [some (.inr (.inr 1)), some (.inr (.inl (u : Int))), none, some (.inr (.inl (m : Int))), none, some (.inr (.inl (u : Int))), none, some (.inr (.inl (m : Int))), none, some (.inl 0), none, none] [] mem Q := by
    refine rn_iload (x := 0) (q := 11) dX8_tellFraction_9 rfl rfl ?_
    refine rn_sipush (q := 14) dX8_tellFraction_11 ⟨by decide, by decide⟩ rfl ?_
    refine rn_cmpge (t := 45) (q := 17) dX8_tellFraction_14 rfl rfl (fun h => absurd h (by decide)) (fun w14 => ?_)
    refine rn_lload (x := (m : Int)) (q := 19) dX8_tellFraction_17 rfl rfl ?_
    refine rn_lconst0 (q := 20) dX8_tellFraction_19 rfl ?_
    refine rn_lcmp (q := 21) dX8_tellFraction_20 rfl ?_
    refine rn_ifeq (t := 45) (q := 24) dX8_tellFraction_21 rfl rfl (fun w21 => ?_) (fun w21 => ?_)
    · rw [am_cmpE] at w21
      exfalso; omega
    · rw [am_cmpE] at w21
      refine rn_lload (x := (u : Int)) (q := 26) dX8_tellFraction_24 rfl rfl ?_
      refine rn_lload (x := (m : Int)) (q := 28) dX8_tellFraction_26 rfl rfl ?_
      refine rn_lremN (z := ((u % m : Nat) : Int)) (q := 29) dX8_tellFraction_28 (by omega) (Int.ofNat_tmod u m).symm (by unfold am_okl; omega) rfl ?_
      refine rn_lstore (ls' := [some (.inr (.inr 1)), some (.inr (.inl (u : Int))), none, some (.inr (.inl (m : Int))), none, some (.inr (.inl (u : Int))), none, some (.inr (.inl (m : Int))), none, some (.inl 0), some (.inr (.inl ((u % m : Nat) : Int))), none]) (q := 31) dX8_tellFraction_29 (by decide) rfl rfl ?_
      refine rn_lload (x := (m : Int)) (q := 33) dX8_tellFraction_31 rfl rfl ?_
      refine rn_lstore (ls' := [some (.inr (.inr 1)), some (.inr (.inl (u : Int))), none, some (.inr (.inl (m : Int))), none, some (.inr (.inl (m : Int))), none, some (.inr (.inl (m : Int))), none, some (.inl 0), some (.inr (.inl ((u % m : Nat) : Int))), none]) (q := 35) dX8_tellFraction_33 (by decide) rfl rfl ?_
      refine rn_lload (x := ((u % m : Nat) : Int)) (q := 37) dX8_tellFraction_35 rfl rfl ?_
      refine rn_lstore (ls' := [some (.inr (.inr 1)), some (.inr (.inl (u : Int))), none, some (.inr (.inl (m : Int))), none, some (.inr (.inl (m : Int))), none, some (.inr (.inl ((u % m : Nat) : Int))), none, some (.inl 0), some (.inr (.inl ((u % m : Nat) : Int))), none]) (q := 39) dX8_tellFraction_37 (by decide) rfl rfl ?_
      refine rn_iincN (x := 0) (z := 1) (ls' := [some (.inr (.inr 1)), some (.inr (.inl (u : Int))), none, some (.inr (.inl (m : Int))), none, some (.inr (.inl (m : Int))), none, some (.inr (.inl ((u % m : Nat) : Int))), none, some (.inl 1), some (.inr (.inl ((u % m : Nat) : Int))), none]) (q := 42) dX8_tellFraction_39 rfl (by decide) rfl (by unfold am_ok; omega) rfl rfl ?_
      refine rn_goto (t := 9) dX8_tellFraction_42 rfl ?_
      exact L 68 1 m (u % m) _ (by omega) hs.1 hs.2 h10 gc_eq
  refine rn_lload_n (x := (u : Int)) (q := 1) dX8_tellFraction_0 rfl rfl ?_
  refine rn_lstore (ls' := [some (.inr (.inr 1)), some (.inr (.inl (u : Int))), none, some (.inr (.inl (m : Int))), none, some (.inr (.inl (u : Int))), none, none, none, none, none, none]) (q := 3) dX8_tellFraction_1 (by decide) rfl rfl ?_
  refine rn_lload_n (x := (m : Int)) (q := 4) dX8_tellFraction_3 rfl rfl ?_
  refine rn_lstore (ls' := [some (.inr (.inr 1)), some (.inr (.inl (u : Int))), none, some (.inr (.inl (m : Int))), none, some (.inr (.inl (u : Int))), none, some (.inr (.inl (m : Int))), none, none, none, none]) (q := 6) dX8_tellFraction_4 (by decide) rfl rfl ?_
  refine rn_iconst (q := 7) dX8_tellFraction_6 (am_okd rfl) rfl ?_
  refine rn_istore (ls' := [some (.inr (.inr 1)), some (.inr (.inl (u : Int))), none, some (.inr (.inl (m : Int))), none, some (.inr (.inl (u : Int))), none, some (.inr (.inl (m : Int))), none, some (.inl 0), none, none]) (q := 9) dX8_tellFraction_7 (by decide) rfl rfl ?_
  exact first
end P67
