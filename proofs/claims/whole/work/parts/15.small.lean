/-! small methods: Integer, the reference's helpers -/
section P15
variable {l : Launch} {G : am_G} {d : Nat} {mem : am_M}
theorem s_in (v lo hi : Int) : am_Sm l G yX9_in mt_X9_in d [.inl v, .inl lo, .inl hi] mem (am_rr (some (.inl (if lo ≤ v ∧ v ≤ hi then 1 else 0))) mem) := by
  refine am_enter (ls := [some (.inl v), some (.inl lo), some (.inl hi)]) (by decide) rfl (Nat.le_of_ble_eq_true rfl) rfl ?_
  refine rn_iload_n (x := v) (q := 1) dX9_in_0 rfl rfl ?_
  refine rn_iload_n (x := lo) (q := 2) dX9_in_1 rfl rfl ?_
  refine rn_cmplt (t := 14) (q := 5) dX9_in_2 rfl rfl (fun h2 => ?_) (fun h2 => ?_)
  · refine rn_iconst (q := 15) dX9_in_14 (am_okd rfl) rfl ?_
    refine rn_zret dX9_in_15 rfl (by omega) ?_
    exact ⟨by first | rw [if_pos (by omega)] | rw [if_neg (by omega)], rfl⟩
  · refine rn_iload_n (x := v) (q := 6) dX9_in_5 rfl rfl ?_
    refine rn_iload_n (x := hi) (q := 7) dX9_in_6 rfl rfl ?_
    refine rn_cmpgt (t := 14) (q := 10) dX9_in_7 rfl rfl (fun h7 => ?_) (fun h7 => ?_)
    · refine rn_iconst (q := 15) dX9_in_14 (am_okd rfl) rfl ?_
      refine rn_zret dX9_in_15 rfl (by omega) ?_
      exact ⟨by first | rw [if_pos (by omega)] | rw [if_neg (by omega)], rfl⟩
    · refine rn_iconst (q := 11) dX9_in_10 (am_okd rfl) rfl ?_
      refine rn_goto (t := 15) dX9_in_11 rfl ?_
      refine rn_zret dX9_in_15 rfl (by omega) ?_
      exact ⟨by first | rw [if_pos (by omega)] | rw [if_neg (by omega)], rfl⟩
theorem s_full (v : Int) : am_Sm l G yX9_full mt_X9_full d [.inl v] mem (am_rr (some (.inl (max 0 (min 9999 v)))) mem) := by
  refine am_enter (ls := [some (.inl v)]) (by decide) rfl (Nat.le_of_ble_eq_true rfl) rfl ?_
  refine rn_iconst (q := 1) dX9_full_0 (am_okd rfl) rfl ?_
  refine rn_sipush (q := 4) dX9_full_1 ⟨by decide, by decide⟩ rfl ?_
  refine rn_iload_n (x := v) (q := 5) dX9_full_4 rfl rfl ?_
  refine rn_mmin (q := 8) dX9_full_5 am_mm_X9_225 am_mminw (Nat.le_of_ble_eq_true rfl) rfl ?_
  refine rn_mmax (q := 11) dX9_full_8 am_mm_X9_231 am_mmaxw (Nat.le_of_ble_eq_true rfl) rfl ?_
  refine rn_iret dX9_full_11 rfl ?_
  exact ⟨rfl, rfl⟩
theorem s_isMan (i : Int) (n : Nat) (hn : mem 95 1 = n) (h8 : n ≤ 8) : am_Sm l G yX9_isMan mt_X9_isMan (d + 1) [.inr (.inr 96), .inl i] mem (am_rr (some (.inl (if 0 ≤ i ∧ i < n then 1 else 0))) mem) := by
  refine am_enter (ls := [some (.inr (.inr 96)), some (.inl i)]) (by decide) rfl (Nat.le_of_ble_eq_true rfl) rfl ?_
  refine rn_iload_n (x := i) (q := 1) dX9_isMan_0 rfl rfl ?_
  refine rn_iconst (q := 2) dX9_isMan_1 (am_okd rfl) rfl ?_
  refine rn_aload_n (x := 95) (q := 3) dX9_isMan_2 rfl rfl ?_
  refine rn_get (a := 95) (v := .inl (mem 95 1)) (q := 6) dX9_isMan_3 fl_X9_113 rfl rfl rfl ?_
  refine rn_iconst (q := 7) dX9_isMan_6 (am_okd rfl) rfl ?_
  refine rn_isubN (z := ((mem 95 1) - 1)) (q := 8) dX9_isMan_7 rfl (by unfold am_ok; omega) rfl ?_
  refine rn_callS (as := [.inl i, .inl 0, .inl ((mem 95 1) - 1)]) (rest := []) (q := 11) dX9_isMan_8 ml_X9_116 sm_X9_in (by omega) rfl rfl (Nat.le_of_ble_eq_true rfl) rfl (s_in (d := d) i 0 ((mem 95 1) - 1)) ?_
  intro r8 mem8 hq8
  obtain ⟨rfl, rfl⟩ := hq8
  show am_Rn l G _ _ 11 [some (.inr (.inr 96)), some (.inl i)] [.inl (if 0 ≤ i ∧ i ≤ mem 95 1 - 1 then 1 else 0)] mem _
  refine rn_zret dX9_isMan_11 rfl (by split <;> simp) ?_
  exact ⟨by congr 2; rw [hn]; congr 1; exact propext ⟨fun h => ⟨h.1, by omega⟩, fun h => ⟨h.1, by omega⟩⟩, rfl⟩
theorem s_heardOfAll9 (arr n : Nat) (hk : am_ks[arr]? = some (100, 29)) (hn : mem 95 1 = n) (h8 : n ≤ 8) (f : Nat → Nat) (hf : ∀ i, i < n → mem arr i = f i) (hb : ∀ i, f i ≤ 99) : am_Sm l G yX9_heardOfAll mt_X9_heardOfAll d [.inr (.inr 96), .inr (.inr (arr + 1))] mem (am_rr (some (.inl (((List.range n).map f).sum : Nat))) mem) := by
  refine am_enter (ls := [some (.inr (.inr 96)), some (.inr (.inr (arr + 1))), none, none]) (by decide) rfl (Nat.le_of_ble_eq_true rfl) rfl ?_
  have key : ∀ k, k ≤ n → ∀ s : Nat, s = ((List.range k).map f).sum → am_Rn l G mt_X9_heardOfAll d 4 [some (.inr (.inr 96)), some (.inr (.inr (arr + 1))), some (.inl (s : Int)), some (.inl (k : Int))] [] mem (am_rr (some (.inl (((List.range n).map f).sum : Nat))) mem) := by
    refine am_down (fun s hs => ?_) (fun k hk2 ih s hs => ?_)
    · refine rn_iload_n (x := (n : Int)) (q := 5) dX9_heardOfAll_4 rfl rfl ?_
      refine rn_aload_n (x := 95) (q := 6) dX9_heardOfAll_5 rfl rfl ?_
      refine rn_get (a := 95) (v := .inl (mem 95 1)) (q := 9) dX9_heardOfAll_6 fl_X9_113 rfl rfl rfl ?_
      refine rn_cmpge (t := 24) (q := 12) dX9_heardOfAll_9 rfl rfl (fun h9 => ?_) (fun h => absurd h (by omega))
      refine rn_iload_n (x := (s : Int)) (q := 25) dX9_heardOfAll_24 rfl rfl ?_
      refine rn_iret dX9_heardOfAll_25 rfl ?_
      exact ⟨by rw [hs], rfl⟩
    · have hb9 : ∀ j, j ≤ 8 → ((List.range j).map f).sum ≤ 99 * j := by
        intro j _
        induction j with
        | zero => simp
        | succ j ihj => rw [List.range_succ, List.map_append, List.sum_append]; simp; have := hb j; have := ihj (by omega); omega
      have h1 := hb9 k (by omega)
      have h2 := hf k hk2
      have h3 := hb k
      refine rn_iload_n (x := (k : Int)) (q := 5) dX9_heardOfAll_4 rfl rfl ?_
      refine rn_aload_n (x := 95) (q := 6) dX9_heardOfAll_5 rfl rfl ?_
      refine rn_get (a := 95) (v := .inl (mem 95 1)) (q := 9) dX9_heardOfAll_6 fl_X9_113 rfl rfl rfl ?_
      refine rn_cmpge (t := 24) (q := 12) dX9_heardOfAll_9 rfl rfl (fun h => absurd h (by omega)) (fun h9 => ?_)
      refine rn_iload_n (x := (s : Int)) (q := 13) dX9_heardOfAll_12 rfl rfl ?_
      refine rn_aload_n (x := arr) (q := 14) dX9_heardOfAll_13 rfl rfl ?_
      refine rn_iload_n (x := (k : Int)) (q := 15) dX9_heardOfAll_14 rfl rfl ?_
      refine rn_ialdV (a := arr) (v := (f k : Int)) (q := 16) dX9_heardOfAll_15 hk (by omega) (by omega) (by rw [← h2]; rfl) rfl ?_
      refine rn_iaddN (z := ((s + f k : Nat) : Int)) (q := 17) dX9_heardOfAll_16 (by omega) (by unfold am_ok; omega) rfl ?_
      refine rn_istore_n (ls' := [some (.inr (.inr 96)), some (.inr (.inr (arr + 1))), some (.inl ((s + f k : Nat) : Int)), some (.inl (k : Int))]) (q := 18) dX9_heardOfAll_17 (by decide) rfl rfl ?_
      refine rn_iincN (x := (k : Int)) (z := ((k + 1 : Nat) : Int)) (ls' := [some (.inr (.inr 96)), some (.inr (.inr (arr + 1))), some (.inl ((s + f k : Nat) : Int)), some (.inl ((k + 1 : Nat) : Int))]) (q := 21) dX9_heardOfAll_18 rfl (by decide) (by omega) (by unfold am_ok; omega) rfl rfl ?_
      refine rn_goto (t := 4) dX9_heardOfAll_21 rfl ?_
      exact ih _ (by rw [hs, List.range_succ]; simp)
  refine rn_iconst (q := 1) dX9_heardOfAll_0 (am_okd rfl) rfl ?_
  refine rn_istore_n (ls' := [some (.inr (.inr 96)), some (.inr (.inr (arr + 1))), some (.inl 0), none]) (q := 2) dX9_heardOfAll_1 (by decide) rfl rfl ?_
  refine rn_iconst (q := 3) dX9_heardOfAll_2 (am_okd rfl) rfl ?_
  refine rn_istore_n (ls' := [some (.inr (.inr 96)), some (.inr (.inr (arr + 1))), some (.inl 0), some (.inl 0)]) (q := 4) dX9_heardOfAll_3 (by decide) rfl rfl ?_
  exact key 0 (by omega) 0 rfl
end P15
