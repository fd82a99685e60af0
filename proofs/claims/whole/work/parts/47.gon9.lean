section P47
variable {l : Launch} {G : am_G} {d : Nat} {mem M : am_M}
theorem s_goN_7 {arr : Nat} (ha : am_ks[arr]? = some (100, 29)) (a1 : arr ≠ 95) (a4 : arr ≠ 112) {m0 : am_M} {n : Nat} (hn8 : n ≤ 8) (hmen : m0 95 1 = (n : Int)) {hd : Nat → Nat} (hhd : ∀ i, hd i ≤ 99) {p : Nat → Int} (hp9 : ∀ i, 0 ≤ p i ∧ p i ≤ 9) (hp : ∀ i, i < n → m0 112 i = p i) {Q : Option am_V → am_M → Prop} (hQ : ∀ (m : am_M) (lx : Option am_V), (∀ b, b ≠ arr → m b = m0 b) → (∀ j, j < 8 → m arr j = if j < n then min 99 ((hd j : Int) + p j) else (hd j : Int)) → (∀ j, 8 ≤ j → m arr j = m0 arr j) → am_Rn l G mt_X9_goNight (d + 1) 39 [some (.inr (.inr 96)), some (.inr (.inr (arr + 1))), lx] [] m Q) : ∀ (k i : Nat) (m : am_M), i + k = n → (∀ b, b ≠ arr → m b = m0 b) → (∀ j, j < 8 → m arr j = if j < i then min 99 ((hd j : Int) + p j) else (hd j : Int)) → (∀ j, 8 ≤ j → m arr j = m0 arr j) → am_Rn l G mt_X9_goNight (d + 1) 7 [some (.inr (.inr 96)), some (.inr (.inr (arr + 1))), some (.inl (i : Int))] [] m Q := by
  intro k
  induction k with
  | zero =>
    intro i m hi hf hh h8
    have e1 : m 95 1 = (n : Int) := by rw [hf 95 (fun q => a1 q.symm)]; exact hmen
    have hi2 : i = n := by omega
    subst hi2
    refine rn_iload_n (x := (i : Int)) (q := 8) dX9_goNight_7 rfl rfl ?_
    refine rn_aload_n (x := 95) (q := 9) dX9_goNight_8 rfl rfl ?_
    refine rn_get (a := 95) (v := .inl (i : Int)) (q := 12) dX9_goNight_9 fl_X9_113 rfl (am_gi e1) rfl ?_
    refine rn_cmpge (t := 39) (q := 15) dX9_goNight_12 rfl rfl (fun w12 => ?_) (fun h => absurd h (by omega))
    exact hQ m _ hf hh h8
  | succ k ih =>
    intro i m hi hf hh h8
    have e1 : m 95 1 = (n : Int) := by rw [hf 95 (fun q => a1 q.symm)]; exact hmen
    have e2 : m arr i = (hd i : Int) := by rw [hh i (by omega), if_neg (by omega)]
    have e3 : m 112 i = p i := by rw [hf 112 (fun q => a4 q.symm)]; exact hp i (by omega)
    have h9 := hhd i
    have h10 := hp9 i
    refine rn_iload_n (x := (i : Int)) (q := 8) dX9_goNight_7 rfl rfl ?_
    refine rn_aload_n (x := 95) (q := 9) dX9_goNight_8 rfl rfl ?_
    refine rn_get (a := 95) (v := .inl (n : Int)) (q := 12) dX9_goNight_9 fl_X9_113 rfl (am_gi e1) rfl ?_
    refine rn_cmpge (t := 39) (q := 15) dX9_goNight_12 rfl rfl (fun h => absurd h (by omega)) (fun w12 => ?_)
    refine rn_aload_n (x := arr) (q := 16) dX9_goNight_15 rfl rfl ?_
    refine rn_iload_n (x := (i : Int)) (q := 17) dX9_goNight_16 rfl rfl ?_
    refine rn_bipush (q := 19) dX9_goNight_17 ⟨by decide, by decide⟩ rfl ?_
    refine rn_aload_n (x := arr) (q := 20) dX9_goNight_19 rfl rfl ?_
    refine rn_iload_n (x := (i : Int)) (q := 21) dX9_goNight_20 rfl rfl ?_
    refine rn_ialdV (a := arr) (v := (hd i : Int)) (q := 22) dX9_goNight_21 ha (by omega) (by omega) e2 rfl ?_
    refine rn_aload_n (x := 95) (q := 23) dX9_goNight_22 rfl rfl ?_
    refine rn_get (a := 95) (v := .inr (.inr 113)) (q := 26) dX9_goNight_23 fl_X9_64 rfl rfl rfl ?_
    refine rn_iload_n (x := (i : Int)) (q := 27) dX9_goNight_26 rfl rfl ?_
    refine rn_ialdV (a := 112) (v := p i) (q := 28) dX9_goNight_27 rfl (by omega) (by omega) e3 rfl ?_
    refine rn_iaddN (z := (hd i : Int) + p i) (q := 29) dX9_goNight_28 (by omega) (by unfold am_ok; omega) rfl ?_
    refine rn_mmin (q := 32) dX9_goNight_29 am_mm_X9_225 am_mminw (Nat.le_of_ble_eq_true rfl) rfl ?_
    refine rn_iastV (a := arr) (m1 := am_up m arr i (min 99 ((hd i : Int) + p i))) (q := 33) dX9_goNight_32 ha (by omega) (by omega) rfl rfl ?_
    refine rn_iincN (x := (i : Int)) (z := ((i + 1 : Nat) : Int)) (ls' := [some (.inr (.inr 96)), some (.inr (.inr (arr + 1))), some (.inl ((i + 1 : Nat) : Int))]) (q := 36) dX9_goNight_33 rfl (by decide) (by omega) (by unfold am_ok; omega) rfl rfl ?_
    refine rn_goto (t := 7) dX9_goNight_36 rfl ?_
    refine ih (i + 1) _ (by omega) (fun b hb => (am_up_ne hb).trans (hf b hb)) (fun j hj => ?_) (fun j hj => ?_)
    · rw [am_up_at]
      by_cases ej : j = i
      · rw [if_pos ej, if_pos (by omega), ej]
      · rw [if_neg ej, hh j hj]
        by_cases hji : j < i
        · rw [if_pos hji, if_pos (by omega)]
        · rw [if_neg hji, if_neg (by omega)]
    · rw [am_up_neq (by omega)]; exact h8 j hj
end P47
