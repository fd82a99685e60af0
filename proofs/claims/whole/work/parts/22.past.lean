section P22
variable {l : Launch} {G : am_G} {d : Nat} {mem : am_M}
/-- PRESENT as bits, of the reference's row -/
theorem s_present9 (arr n b : Nat) (hk : am_ks[arr]? = some (100, 29)) (hn : mem 95 1 = (n : Int)) (h8 : n ≤ 8) (hb : b < 2 ^ n) (hp : ∀ i, i < 8 → mem arr (16 + i) = if b.testBit i then 1 else 0) : am_Sm l G yX9_present mt_X9_present d [.inr (.inr 96), .inr (.inr (arr + 1))] mem (am_rr (some (.inl (b : Int))) mem) := by
  refine am_enter (ls := [some (.inr (.inr 96)), some (.inr (.inr (arr + 1))), none, none]) (by decide) rfl (Nat.le_of_ble_eq_true rfl) rfl ?_
  have key : ∀ k : Nat, k ≤ n → am_Rn l G mt_X9_present d 4 [some (.inr (.inr 96)), some (.inr (.inr (arr + 1))), some (.inl ((b % 2 ^ k : Nat) : Int)), some (.inl (k : Int))] [] mem (am_rr (some (.inl (b : Int))) mem) := by
    refine am_down ?_ (fun k hk2 ih => ?_)
    · refine rn_iload_n (x := (n : Int)) (q := 5) dX9_present_4 rfl rfl ?_
      refine rn_aload_n (x := 95) (q := 6) dX9_present_5 rfl rfl ?_
      refine rn_get (a := 95) (v := .inl (n : Int)) (q := 9) dX9_present_6 fl_X9_113 rfl (am_gi hn) rfl ?_
      refine rn_cmpge (t := 29) (q := 12) dX9_present_9 rfl rfl (fun w9 => ?_) (fun h => absurd h (by omega))
      refine rn_iload_n (x := ((b % 2 ^ n : Nat) : Int)) (q := 30) dX9_present_29 rfl rfl ?_
      refine rn_iret dX9_present_30 rfl ?_
      exact ⟨by rw [Nat.mod_eq_of_lt hb], rfl⟩
    · have hlt : b % 2 ^ k < 256 := Nat.lt_of_lt_of_le (Nat.mod_lt _ (Nat.two_pow_pos k)) (Nat.pow_le_pow_right (n := 2) (by decide) (show k ≤ 8 by omega))
      have hx := hp k (by omega)
      have e1 : am_or ((b % 2 ^ k : Nat) : Int) (am_shl (if b.testBit k then 1 else 0) (k : Int)) = ((b % 2 ^ (k + 1) : Nat) : Int) := by
        have hb8 : b < 256 := Nat.lt_of_lt_of_le hb (Nat.pow_le_pow_right (n := 2) (by decide) h8)
        have hall : ∀ b, b < 256 → ∀ k, k < 8 → am_or ((b % 2 ^ k : Nat) : Int) (am_shl (if b.testBit k then 1 else 0) ((k : Nat) : Int)) = ((b % 2 ^ (k + 1) : Nat) : Int) := by decide +kernel
        exact hall b hb8 k (by omega)
      refine rn_iload_n (x := (k : Int)) (q := 5) dX9_present_4 rfl rfl ?_
      refine rn_aload_n (x := 95) (q := 6) dX9_present_5 rfl rfl ?_
      refine rn_get (a := 95) (v := .inl (n : Int)) (q := 9) dX9_present_6 fl_X9_113 rfl (am_gi hn) rfl ?_
      refine rn_cmpge (t := 29) (q := 12) dX9_present_9 rfl rfl (fun h => absurd h (by omega)) (fun w9 => ?_)
      refine rn_iload_n (x := ((b % 2 ^ k : Nat) : Int)) (q := 13) dX9_present_12 rfl rfl ?_
      refine rn_aload_n (x := arr) (q := 14) dX9_present_13 rfl rfl ?_
      refine rn_bipush (q := 16) dX9_present_14 ⟨by decide, by decide⟩ rfl ?_
      refine rn_iload_n (x := (k : Int)) (q := 17) dX9_present_16 rfl rfl ?_
      refine rn_iaddN (z := ((16 + k : Nat) : Int)) (q := 18) dX9_present_17 (by omega) (by unfold am_ok; omega) rfl ?_
      refine rn_ialdV (a := arr) (v := (if b.testBit k then 1 else 0)) (q := 19) dX9_present_18 hk (by omega) (by omega) hx rfl ?_
      refine rn_iload_n (x := (k : Int)) (q := 20) dX9_present_19 rfl rfl ?_
      refine rn_ishl (q := 21) dX9_present_20 rfl ?_
      refine rn_ior (q := 22) dX9_present_21 rfl ?_
      rw [show am_or ((b % 2 ^ k : Nat) : Int) (am_shl (if b.testBit k then 1 else 0) (k : Int)) = ((b % 2 ^ (k + 1) : Nat) : Int) from e1]
      refine rn_istore_n (ls' := [some (.inr (.inr 96)), some (.inr (.inr (arr + 1))), some (.inl ((b % 2 ^ (k + 1) : Nat) : Int)), some (.inl (k : Int))]) (q := 23) dX9_present_22 (by decide) rfl rfl ?_
      refine rn_iincN (x := (k : Int)) (z := ((k + 1 : Nat) : Int)) (ls' := [some (.inr (.inr 96)), some (.inr (.inr (arr + 1))), some (.inl ((b % 2 ^ (k + 1) : Nat) : Int)), some (.inl ((k + 1 : Nat) : Int))]) (q := 26) dX9_present_23 rfl (by decide) (by omega) (by unfold am_ok; omega) rfl rfl ?_
      refine rn_goto (t := 4) dX9_present_26 rfl ?_
      exact ih
  refine rn_iconst (q := 1) dX9_present_0 (am_okd rfl) rfl ?_
  refine rn_istore_n (ls' := [some (.inr (.inr 96)), some (.inr (.inr (arr + 1))), some (.inl 0), none]) (q := 2) dX9_present_1 (by decide) rfl rfl ?_
  refine rn_iconst (q := 3) dX9_present_2 (am_okd rfl) rfl ?_
  refine rn_istore_n (ls' := [some (.inr (.inr 96)), some (.inr (.inr (arr + 1))), some (.inl 0), some (.inl 0)]) (q := 4) dX9_present_3 (by decide) rfl rfl ?_
  have h0 := key 0 (by omega)
  rw [Nat.pow_zero, Nat.mod_one] at h0
  exact h0
theorem c_heardOfAll {a n : Nat} (ha : am_est a) (h8 : n ≤ 8) (f : Nat → Nat) (hf : ∀ i, i < 8 → mem (a + 1) i = (f i : Int)) (hb : ∀ i, f i ≤ 99) : am_Sm l G yX0_heardOfAll mt_X0_heardOfAll d [.inr (.inr (a + 1)), .inl (n : Int)] mem (am_rr (some (.inl (((List.range n).map f).sum : Nat))) mem) := by
  refine am_enter (ls := [some (.inr (.inr (a + 1))), some (.inl (n : Int)), none, none]) (by decide) rfl (Nat.le_of_ble_eq_true rfl) rfl ?_
  have hb9 : ∀ j, j ≤ 8 → ((List.range j).map f).sum ≤ 99 * j := by
    intro j _
    induction j with
    | zero => simp
    | succ j ihj => rw [List.range_succ, List.map_append, List.sum_append]; simp; have := hb j; have := ihj (by omega); omega
  have key : ∀ k : Nat, k ≤ n → ∀ s : Nat, s = ((List.range k).map f).sum → am_Rn l G mt_X0_heardOfAll d 4 [some (.inr (.inr (a + 1))), some (.inl (n : Int)), some (.inl (s : Int)), some (.inl (k : Int))] [] mem (am_rr (some (.inl (((List.range n).map f).sum : Nat))) mem) := by
    refine am_down (fun s hs => ?_) (fun k hk2 ih s hs => ?_)
    · refine rn_iload_n (x := (n : Int)) (q := 5) dX0_heardOfAll_4 rfl rfl ?_
      refine rn_iload_n (x := (n : Int)) (q := 6) dX0_heardOfAll_5 rfl rfl ?_
      refine rn_cmpge (t := 30) (q := 9) dX0_heardOfAll_6 rfl rfl (fun w6 => ?_) (fun h => absurd h (by omega))
      refine rn_iload_n (x := (s : Int)) (q := 31) dX0_heardOfAll_30 rfl rfl ?_
      refine rn_iret dX0_heardOfAll_31 rfl ?_
      exact ⟨by rw [hs], rfl⟩
    · have h1 := hb9 k (by omega)
      have h3 := hb k
      refine rn_iload_n (x := (k : Int)) (q := 5) dX0_heardOfAll_4 rfl rfl ?_
      refine rn_iload_n (x := (n : Int)) (q := 6) dX0_heardOfAll_5 rfl rfl ?_
      refine rn_cmpge (t := 30) (q := 9) dX0_heardOfAll_6 rfl rfl (fun h => absurd h (by omega)) (fun w6 => ?_)
      refine rn_iload_n (x := (k : Int)) (q := 10) dX0_heardOfAll_9 rfl rfl ?_
      refine rn_bipush (q := 12) dX0_heardOfAll_10 ⟨by decide, by decide⟩ rfl ?_
      refine rn_cmpge (t := 30) (q := 15) dX0_heardOfAll_12 rfl rfl (fun h => absurd h (by omega)) (fun w12 => ?_)
      refine rn_iload_n (x := (s : Int)) (q := 16) dX0_heardOfAll_15 rfl rfl ?_
      refine rn_aload_n (x := a) (q := 17) dX0_heardOfAll_16 rfl rfl ?_
      refine rn_get (a := a) (v := .inr (.inr (a + 1 + 1))) (q := 20) dX0_heardOfAll_17 fl_X0_9 (am_est_k ha) (am_est_f0 ha) rfl ?_
      refine rn_iload_n (x := (k : Int)) (q := 21) dX0_heardOfAll_20 rfl rfl ?_
      refine rn_ialdV (a := (a + 1)) (v := (f k : Int)) (q := 22) dX0_heardOfAll_21 (am_est_k1 ha) (by omega) (by omega) (hf k (by omega)) rfl ?_
      refine rn_iaddN (z := ((s + f k : Nat) : Int)) (q := 23) dX0_heardOfAll_22 (by omega) (by unfold am_ok; omega) rfl ?_
      refine rn_istore_n (ls' := [some (.inr (.inr (a + 1))), some (.inl (n : Int)), some (.inl ((s + f k : Nat) : Int)), some (.inl (k : Int))]) (q := 24) dX0_heardOfAll_23 (by decide) rfl rfl ?_
      refine rn_iincN (x := (k : Int)) (z := ((k + 1 : Nat) : Int)) (ls' := [some (.inr (.inr (a + 1))), some (.inl (n : Int)), some (.inl ((s + f k : Nat) : Int)), some (.inl ((k + 1 : Nat) : Int))]) (q := 27) dX0_heardOfAll_24 rfl (by decide) (by omega) (by unfold am_ok; omega) rfl rfl ?_
      refine rn_goto (t := 4) dX0_heardOfAll_27 rfl ?_
      exact ih _ (by rw [hs, List.range_succ]; simp)
  refine rn_iconst (q := 1) dX0_heardOfAll_0 (am_okd rfl) rfl ?_
  refine rn_istore_n (ls' := [some (.inr (.inr (a + 1))), some (.inl (n : Int)), some (.inl 0), none]) (q := 2) dX0_heardOfAll_1 (by decide) rfl rfl ?_
  refine rn_iconst (q := 3) dX0_heardOfAll_2 (am_okd rfl) rfl ?_
  refine rn_istore_n (ls' := [some (.inr (.inr (a + 1))), some (.inl (n : Int)), some (.inl 0), some (.inl 0)]) (q := 4) dX0_heardOfAll_3 (by decide) rfl rfl ?_
  exact key 0 (by omega) 0 rfl
theorem c_surchargedOfAll {a n : Nat} (ha : am_est a) (h8 : n ≤ 8) (f : Nat → Nat) (hf : ∀ i, i < 8 → mem (a + 2) i = (f i : Int)) (hb : ∀ i, f i ≤ 99) : am_Sm l G yX0_surchargedOfAll mt_X0_surchargedOfAll d [.inr (.inr (a + 1)), .inl (n : Int)] mem (am_rr (some (.inl (((List.range n).map f).sum : Nat))) mem) := by
  refine am_enter (ls := [some (.inr (.inr (a + 1))), some (.inl (n : Int)), none, none]) (by decide) rfl (Nat.le_of_ble_eq_true rfl) rfl ?_
  have hb9 : ∀ j, j ≤ 8 → ((List.range j).map f).sum ≤ 99 * j := by
    intro j _
    induction j with
    | zero => simp
    | succ j ihj => rw [List.range_succ, List.map_append, List.sum_append]; simp; have := hb j; have := ihj (by omega); omega
  have key : ∀ k : Nat, k ≤ n → ∀ s : Nat, s = ((List.range k).map f).sum → am_Rn l G mt_X0_surchargedOfAll d 4 [some (.inr (.inr (a + 1))), some (.inl (n : Int)), some (.inl (s : Int)), some (.inl (k : Int))] [] mem (am_rr (some (.inl (((List.range n).map f).sum : Nat))) mem) := by
    refine am_down (fun s hs => ?_) (fun k hk2 ih s hs => ?_)
    · refine rn_iload_n (x := (n : Int)) (q := 5) dX0_surchargedOfAll_4 rfl rfl ?_
      refine rn_iload_n (x := (n : Int)) (q := 6) dX0_surchargedOfAll_5 rfl rfl ?_
      refine rn_cmpge (t := 30) (q := 9) dX0_surchargedOfAll_6 rfl rfl (fun w6 => ?_) (fun h => absurd h (by omega))
      refine rn_iload_n (x := (s : Int)) (q := 31) dX0_surchargedOfAll_30 rfl rfl ?_
      refine rn_iret dX0_surchargedOfAll_31 rfl ?_
      exact ⟨by rw [hs], rfl⟩
    · have h1 := hb9 k (by omega)
      have h3 := hb k
      refine rn_iload_n (x := (k : Int)) (q := 5) dX0_surchargedOfAll_4 rfl rfl ?_
      refine rn_iload_n (x := (n : Int)) (q := 6) dX0_surchargedOfAll_5 rfl rfl ?_
      refine rn_cmpge (t := 30) (q := 9) dX0_surchargedOfAll_6 rfl rfl (fun h => absurd h (by omega)) (fun w6 => ?_)
      refine rn_iload_n (x := (k : Int)) (q := 10) dX0_surchargedOfAll_9 rfl rfl ?_
      refine rn_bipush (q := 12) dX0_surchargedOfAll_10 ⟨by decide, by decide⟩ rfl ?_
      refine rn_cmpge (t := 30) (q := 15) dX0_surchargedOfAll_12 rfl rfl (fun h => absurd h (by omega)) (fun w12 => ?_)
      refine rn_iload_n (x := (s : Int)) (q := 16) dX0_surchargedOfAll_15 rfl rfl ?_
      refine rn_aload_n (x := a) (q := 17) dX0_surchargedOfAll_16 rfl rfl ?_
      refine rn_get (a := a) (v := .inr (.inr (a + 2 + 1))) (q := 20) dX0_surchargedOfAll_17 fl_X0_15 (am_est_k ha) (am_est_f1 ha) rfl ?_
      refine rn_iload_n (x := (k : Int)) (q := 21) dX0_surchargedOfAll_20 rfl rfl ?_
      refine rn_ialdV (a := (a + 2)) (v := (f k : Int)) (q := 22) dX0_surchargedOfAll_21 (am_est_k2 ha) (by omega) (by omega) (hf k (by omega)) rfl ?_
      refine rn_iaddN (z := ((s + f k : Nat) : Int)) (q := 23) dX0_surchargedOfAll_22 (by omega) (by unfold am_ok; omega) rfl ?_
      refine rn_istore_n (ls' := [some (.inr (.inr (a + 1))), some (.inl (n : Int)), some (.inl ((s + f k : Nat) : Int)), some (.inl (k : Int))]) (q := 24) dX0_surchargedOfAll_23 (by decide) rfl rfl ?_
      refine rn_iincN (x := (k : Int)) (z := ((k + 1 : Nat) : Int)) (ls' := [some (.inr (.inr (a + 1))), some (.inl (n : Int)), some (.inl ((s + f k : Nat) : Int)), some (.inl ((k + 1 : Nat) : Int))]) (q := 27) dX0_surchargedOfAll_24 rfl (by decide) (by omega) (by unfold am_ok; omega) rfl rfl ?_
      refine rn_goto (t := 4) dX0_surchargedOfAll_27 rfl ?_
      exact ih _ (by rw [hs, List.range_succ]; simp)
  refine rn_iconst (q := 1) dX0_surchargedOfAll_0 (am_okd rfl) rfl ?_
  refine rn_istore_n (ls' := [some (.inr (.inr (a + 1))), some (.inl (n : Int)), some (.inl 0), none]) (q := 2) dX0_surchargedOfAll_1 (by decide) rfl rfl ?_
  refine rn_iconst (q := 3) dX0_surchargedOfAll_2 (am_okd rfl) rfl ?_
  refine rn_istore_n (ls' := [some (.inr (.inr (a + 1))), some (.inl (n : Int)), some (.inl 0), some (.inl 0)]) (q := 4) dX0_surchargedOfAll_3 (by decide) rfl rfl ?_
  exact key 0 (by omega) 0 rfl
/-- the reference remembers a row -/
theorem s_remember {U : List est} {e : est} (hU : m_undo U mem) (w : Nat) (hw : am_ks[w]? = some (100, 29)) (hwne : w ≠ 107) (he : m_est e w 0 mem) : am_Sm l G yX9_remember mt_X9_remember (d + 1) [.inr (.inr 96), .inr (.inr (w + 1))] mem (fun r m => r = none ∧ m_undo (pushU U e) m ∧ (∀ b, b ≠ 107 → b ≠ 95 → m b = mem b) ∧ ∀ k, k ≠ 24 → m 95 k = mem 95 k) := by
  refine am_enter (ls := [some (.inr (.inr 96)), some (.inr (.inr (w + 1))), none]) (by decide) rfl (Nat.le_of_ble_eq_true rfl) rfl ?_
  obtain ⟨u1, u2, u3⟩ := hU
  have hw95 : w ≠ 95 := by intro h; rw [h] at hw; revert hw; decide
  -- behind the making of room
  have tail : ∀ (lx : Option am_V) (k : Nat) (m1 : am_M), k < 12 → m1 95 24 = (k : Int) → m_est e w 0 m1 → (∀ j, j < k → m_est ((pushU U e).getD j est0) 107 (29 * j) m1) → (pushU U e).length = k + 1 → (pushU U e).getD k est0 = e → (∀ b, b ≠ 107 → b ≠ 95 → m1 b = mem b) → (∀ z, z ≠ 24 → m1 95 z = mem 95 z) → am_Rn l G mt_X9_remember (d + 1) 49 [some (.inr (.inr 96)), some (.inr (.inr (w + 1))), lx] [] m1 (fun r m => r = none ∧ m_undo (pushU U e) m ∧ (∀ b, b ≠ 107 → b ≠ 95 → m b = mem b) ∧ ∀ k, k ≠ 24 → m 95 k = mem 95 k) := by
    intro lx k m1 hk h24 hee hall hlen hlast hf1 hf2
    refine rn_aload_n (x := w) (q := 50) dX9_remember_49 rfl rfl ?_
    refine rn_aload_n (x := 95) (q := 51) dX9_remember_50 rfl rfl ?_
    refine rn_get (a := 95) (v := .inr (.inr 108)) (q := 54) dX9_remember_51 fl_X9_49 rfl rfl rfl ?_
    refine rn_bipush (q := 56) dX9_remember_54 ⟨by decide, by decide⟩ rfl ?_
    refine rn_aload_n (x := 95) (q := 57) dX9_remember_56 rfl rfl ?_
    refine rn_get (a := 95) (v := .inl (k : Int)) (q := 60) dX9_remember_57 fl_X9_175 rfl (am_gi h24) rfl ?_
    refine rn_imulN (z := ((29 * k : Nat) : Int)) (q := 61) dX9_remember_60 (by omega) (by unfold am_ok; omega) rfl ?_
    refine rn_callS (as := [.inr (.inr (w + 1)), .inr (.inr 108), .inl ((29 * k : Nat) : Int)]) (rest := []) (q := 64) dX9_remember_61 ml_X9_248 sm_X9_lay (by omega) rfl rfl (Nat.le_of_ble_eq_true rfl) rfl (s_lay (d := d) hw (show am_ks[107]? = some (100, 348) from rfl) hwne (29 * k) (by omega) (by decide) (by decide)) ?_
    intro r61 mem61 hq61
    obtain ⟨rfl, rfl⟩ := hq61
    show am_Rn l G _ _ 64 [some (.inr (.inr 96)), some (.inr (.inr (w + 1))), lx] [] (am_cpy m1 w 0 107 (29 * k) 29) _
    refine rn_aload_n (x := 95) (q := 65) dX9_remember_64 rfl rfl ?_
    refine rn_dup (q := 66) dX9_remember_65 rfl rfl ?_
    refine rn_get (a := 95) (v := .inl (k : Int)) (q := 69) dX9_remember_66 fl_X9_175 rfl (am_gi h24) rfl ?_
    refine rn_iconst (q := 70) dX9_remember_69 (am_okd rfl) rfl ?_
    refine rn_iaddN (z := ((k + 1 : Nat) : Int)) (q := 71) dX9_remember_70 (by omega) (by unfold am_ok; omega) rfl ?_
    refine rn_puti (a := 95) (q := 74) dX9_remember_71 fl_X9_175 rfl rfl rfl rfl ?_
    refine rn_vret dX9_remember_74 rfl ?_
    refine ⟨rfl, ⟨?_, by omega, fun j hj => ?_⟩, fun b h1 h2 => ?_, fun z hz => ?_⟩
    · rw [am_up_self, hlen]
    · by_cases hjk : j = k
      · rw [hjk, hlast]
        refine m_est.kept hee.cpy ?_
        rw [am_up_ne (by decide)]
      · refine (hall j (by omega)).to (fun i hi => ?_)
        rw [am_up_ne (by decide), am_cpy_at, if_neg (by omega)]
    · rw [am_up_ne h2, am_cpy_ne h1]; exact hf1 b h1 h2
    · rw [am_up_neq hz, am_cpy_ne (by decide)]; exact hf2 z hz
  have big : U.length = 12 → am_Rn l G mt_X9_remember (d + 1) 9 [some (.inr (.inr 96)), some (.inr (.inr (w + 1))), none] [] mem (fun r m => r = none ∧ m_undo (pushU U e) m ∧ (∀ b, b ≠ 107 → b ≠ 95 → m b = mem b) ∧ ∀ k, k ≠ 24 → m 95 k = mem 95 k) := by
    intro h12
    have hp : pushU U e = U.tail ++ [e] := by unfold pushU; rw [if_pos h12]
    have key : ∀ k : Nat, k ≤ 319 → am_Rn l G mt_X9_remember (d + 1) 11 [some (.inr (.inr 96)), some (.inr (.inr (w + 1))), some (.inl (k : Int))] [] (am_cpy mem 107 29 107 0 k) (fun r m => r = none ∧ m_undo (pushU U e) m ∧ (∀ b, b ≠ 107 → b ≠ 95 → m b = mem b) ∧ ∀ k, k ≠ 24 → m 95 k = mem 95 k) := by
      refine am_down ?_ (fun k hk2 ih => ?_)
      · refine rn_iload_n (x := ((319 : Nat) : Int)) (q := 12) dX9_remember_11 rfl rfl ?_
        refine rn_sipush (q := 15) dX9_remember_12 ⟨by decide, by decide⟩ rfl ?_
        refine rn_cmpge (t := 39) (q := 18) dX9_remember_15 rfl rfl (fun w15 => ?_) (fun h => absurd h (by omega))
        refine rn_aload_n (x := 95) (q := 40) dX9_remember_39 rfl rfl ?_
        refine rn_dup (q := 41) dX9_remember_40 rfl rfl ?_
        refine rn_get (a := 95) (v := .inl (U.length : Int)) (q := 44) dX9_remember_41 fl_X9_175 rfl (am_gi u1) rfl ?_
        refine rn_iconst (q := 45) dX9_remember_44 (am_okd rfl) rfl ?_
        refine rn_isubN (z := ((11 : Nat) : Int)) (q := 46) dX9_remember_45 (by omega) (by unfold am_ok; omega) rfl ?_
        refine rn_puti (a := 95) (q := 49) dX9_remember_46 fl_X9_175 rfl rfl rfl rfl ?_
        refine tail _ 11 _ (by decide) am_up_self ?_ (fun j hj => ?_) (by rw [hp]; simp; omega) ?_ (fun b h1 h2 => by rw [am_up_ne h2, am_cpy_ne h1]) (fun z hz => by rw [am_up_neq hz, am_cpy_ne (by decide)])
        · refine he.kept ?_
          rw [am_up_ne hw95, am_cpy_ne hwne]
        · rw [hp, lg_app (by simp; omega), if_neg (by simp; omega), lg_tail]
          refine (u3 (j + 1) (by omega)).to (fun i hi => ?_)
          rw [am_up_ne (by decide), am_cpy_at, if_pos (by omega)]
          congr 1; omega
        · rw [hp, lg_app (by simp; omega), if_pos (by simp; omega)]
      · refine rn_iload_n (x := (k : Int)) (q := 12) dX9_remember_11 rfl rfl ?_
        refine rn_sipush (q := 15) dX9_remember_12 ⟨by decide, by decide⟩ rfl ?_
        refine rn_cmpge (t := 39) (q := 18) dX9_remember_15 rfl rfl (fun h => absurd h (by omega)) (fun w15 => ?_)
        refine rn_aload_n (x := 95) (q := 19) dX9_remember_18 rfl rfl ?_
        refine rn_get (a := 95) (v := .inr (.inr 108)) (q := 22) dX9_remember_19 fl_X9_49 rfl rfl rfl ?_
        refine rn_iload_n (x := (k : Int)) (q := 23) dX9_remember_22 rfl rfl ?_
        refine rn_aload_n (x := 95) (q := 24) dX9_remember_23 rfl rfl ?_
        refine rn_get (a := 95) (v := .inr (.inr 108)) (q := 27) dX9_remember_24 fl_X9_49 rfl rfl rfl ?_
        refine rn_iload_n (x := (k : Int)) (q := 28) dX9_remember_27 rfl rfl ?_
        refine rn_bipush (q := 30) dX9_remember_28 ⟨by decide, by decide⟩ rfl ?_
        refine rn_iaddN (z := ((k + 29 : Nat) : Int)) (q := 31) dX9_remember_30 (by omega) (by unfold am_ok; omega) rfl ?_
        refine rn_ialdV (a := 107) (v := mem 107 (29 + k)) (q := 32) dX9_remember_31 rfl (by omega) (by omega) (by rw [show ((k + 29 : Nat) : Int).toNat = 29 + k by omega, am_cpy_at, if_neg (by omega)]) rfl ?_
        refine rn_iastV (a := 107) (m1 := am_up (am_cpy mem 107 29 107 0 k) 107 k (mem 107 (29 + k))) (q := 33) dX9_remember_32 rfl (by omega) (by omega) rfl rfl ?_
        rw [show am_up (am_cpy mem 107 29 107 0 k) 107 k (mem 107 (29 + k)) = am_cpy mem 107 29 107 0 (k + 1) by rw [← am_cpy_s, Nat.zero_add]]
        refine rn_iincN (x := (k : Int)) (z := ((k + 1 : Nat) : Int)) (ls' := [some (.inr (.inr 96)), some (.inr (.inr (w + 1))), some (.inl ((k + 1 : Nat) : Int))]) (q := 36) dX9_remember_33 rfl (by decide) (by omega) (by unfold am_ok; omega) rfl rfl ?_
        refine rn_goto (t := 11) dX9_remember_36 rfl ?_
        exact ih
    refine rn_iconst (q := 10) dX9_remember_9 (am_okd rfl) rfl ?_
    refine rn_istore_n (ls' := [some (.inr (.inr 96)), some (.inr (.inr (w + 1))), some (.inl 0)]) (q := 11) dX9_remember_10 (by decide) rfl rfl ?_
    have h0 := key 0 (by omega)
    rw [am_cpy_0] at h0
    exact h0
  refine rn_aload_n (x := 95) (q := 1) dX9_remember_0 rfl rfl ?_
  refine rn_get (a := 95) (v := .inl (U.length : Int)) (q := 4) dX9_remember_1 fl_X9_175 rfl (am_gi u1) rfl ?_
  refine rn_bipush (q := 6) dX9_remember_4 ⟨by decide, by decide⟩ rfl ?_
  refine rn_cmpne (t := 49) (q := 9) dX9_remember_6 rfl rfl (fun w6 => ?_) (fun w6 => ?_)
  · have hne : U.length ≠ 12 := by omega
    have hp : pushU U e = U ++ [e] := by unfold pushU; rw [if_neg hne]
    refine tail _ U.length mem (by omega) u1 he (fun j hj => ?_) (by rw [hp]; simp) (by rw [hp]; simp) (fun _ _ _ => rfl) (fun _ _ => rfl)
    rw [hp, lg_app (by simp; omega), if_neg (by omega)]
    exact u3 j hj
  · exact big (by omega)
end P22
