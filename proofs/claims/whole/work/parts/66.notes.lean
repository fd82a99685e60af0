/-! notes -/
def lb (w : Nat) : Nat := if w = 0 then 1023 else if pc w = 1 then w else 0
theorem lb_bit : ∀ w, w < 1024 → ∀ b, b < 10 → ((lb w).testBit b = true ↔ ∀ x, x < 10 → x ≠ b → w.testBit x = false) := by decide +kernel
theorem lb_lt : ∀ w, w < 1024 → lb w < 1024 := by decide +kernel
def wnr (k : Nat) (L : Nat → Nat) (a : Nat) : Nat := bitsF (fun x => decide (1 ≤ x) && (L (a - x)).testBit x) (min k a + 1)
def ltab (k : Nat) : Nat → Nat → Nat
  | 0 => fun _ => 0
  | i + 1 => fun a => if a = i then lb (wnr k (ltab k i) i) else ltab k i a
def nsP (a b : Nat) (T : Nat → Nat → Nat) (x : Nat) : Bool := decide (x ≠ b) && decide (T (a - x) x = 0)
def lst (k a b : Nat) (T : Nat → Nat → Nat) : Nat := (srch (nsP a b T) (min k a) 1).getD 0
def wtab (k : Nat) : Nat → Nat → Nat → Nat
  | 0 => fun _ _ => 0
  | i + 1 => fun a b => if a = i then lst k i b (wtab k i) else wtab k i a b
theorem ltab_s {k i a : Nat} : ltab k (i + 1) a = if a = i then lb (wnr k (ltab k i) i) else ltab k i a := rfl
theorem wtab_s {k i a b : Nat} : wtab k (i + 1) a b = if a = i then lst k i b (wtab k i) else wtab k i a b := rfl
theorem bitsF_bit {f : Nat → Bool} : ∀ (k x : Nat), (bitsF f k).testBit x = (decide (x < k) && f x) := by
  intro k
  induction k with
  | zero => intro x; rw [bitsF]; simp
  | succ k ih =>
    intro x
    have hlt := bitsF_lt (f := f) k
    rw [bitsF]
    by_cases hk : f k = true
    · have e1 : bitsF f k + 2 ^ k = 2 ^ k ||| bitsF f k := by
        have := Nat.two_pow_add_eq_or_of_lt (i := k) (b := bitsF f k) hlt 1
        rw [Nat.mul_one] at this
        rw [← this, Nat.add_comm]
      rw [if_pos hk, e1, Nat.testBit_or, ih x, Nat.testBit_two_pow]
      by_cases e : k = x
      · subst e; simp [hk]
      · by_cases h1 : x < k
        · simp [e, h1, show x < k + 1 by omega]
        · simp [e, h1, show ¬ x < k + 1 by omega]
    · rw [if_neg hk, ih x]
      by_cases e : x = k
      · subst e; simp [hk]
      · by_cases h1 : x < k
        · simp [h1, show x < k + 1 by omega]
        · simp [h1, show ¬ x < k + 1 by omega]
theorem srch_none {P : Nat → Bool} : ∀ (f k : Nat), srch P f k = none ↔ ∀ j, k ≤ j → j < k + f → P j = false := by
  intro f
  induction f with
  | zero => intro k; exact ⟨fun _ j h1 h2 => absurd h2 (by omega), fun _ => rfl⟩
  | succ f ih =>
    intro k
    rw [srch]
    by_cases hk : P k = true
    · rw [if_pos hk]
      constructor
      · intro h; cases h
      · intro h; have := h k (Nat.le_refl _) (by omega); rw [hk] at this; cases this
    · rw [if_neg hk, ih (k + 1)]
      constructor
      · intro h j h1 h2
        by_cases e : j = k
        · subst e; simpa using hk
        · exact h j (by omega) (by omega)
      · intro h j h1 h2; exact h j (by omega) (by omega)
theorem srch_ge {P : Nat → Bool} : ∀ (f k x : Nat), srch P f k = some x → k ≤ x ∧ x < k + f := by
  intro f
  induction f with
  | zero => intro k x h; cases h
  | succ f ih =>
    intro k x h
    rw [srch] at h
    split at h
    · cases h; omega
    · have := ih _ _ h; omega
theorem srch_eq {P1 P2 : Nat → Bool} : ∀ (mn k s : Nat), mn ≤ k → (∀ j, s ≤ j → j < s + mn → P1 j = P2 j) → (∀ j, s + mn ≤ j → P1 j = false) → srch P1 k s = srch P2 mn s := by
  intro mn
  induction mn with
  | zero => intro k s _ _ h; rw [(srch_none k s).mpr (fun j h1 _ => h j (by omega))]; rfl
  | succ mn ih =>
    intro k s hk h1 h2
    obtain ⟨g, rfl⟩ : ∃ g, k = g + 1 := ⟨k - 1, by omega⟩
    rw [srch, srch, h1 s (Nat.le_refl _) (by omega)]
    split
    · rfl
    · exact ih g (s + 1) (by omega) (fun j a b => h1 j (by omega) (by omega)) (fun j a => h2 j (by omega))
theorem wnr_bit {k a : Nat} {L : Nat → Nat} (x : Nat) : (wnr k L a).testBit x = (decide (x < min k a + 1) && (decide (1 ≤ x) && (L (a - x)).testBit x)) := bitsF_bit _ _
theorem wnr_lt {k a : Nat} {L : Nat → Nat} (hk : k ≤ 9) : wnr k L a < 1024 := Nat.lt_of_lt_of_le (bitsF_lt _) (Nat.le_trans (Nat.pow_le_pow_right (n := 2) (by decide) (show min k a + 1 ≤ 10 by omega)) (by decide))
theorem lst_0 {k a b : Nat} {T : Nat → Nat → Nat} : lst k a b T = 0 ↔ ∀ x, 1 ≤ x → x < 1 + min k a → nsP a b T x = false := by
  unfold lst
  rw [← srch_none]
  cases hs : srch (nsP a b T) (min k a) 1 with
  | none => exact ⟨fun _ => rfl, fun _ => rfl⟩
  | some x =>
    have := srch_ge _ _ _ hs
    exact ⟨fun h => by have h2 : x = 0 := h; omega, fun h => by cases h⟩
theorem ntab {k : Nat} (hk : k ≤ 9) : ∀ i a, a < i → (ltab k i a < 1024) ∧ ∀ b, b < 10 → ((ltab k i a).testBit b = true ↔ wtab k i a b = 0) := by
  intro i
  induction i with
  | zero => intro a h; exact absurd h (Nat.not_lt_zero _)
  | succ i ih =>
    intro a ha
    rw [ltab, wtab]
    by_cases e : a = i
    · subst e
      simp only [if_true]
      have hw := wnr_lt (a := a) (L := ltab k a) hk
      refine ⟨lb_lt _ hw, fun b hb => ?_⟩
      rw [lb_bit _ hw b hb, lst_0]
      constructor
      · intro h x h1 h2
        unfold nsP
        by_cases eb : x = b
        · simp [eb]
        · have h7 := h x (by omega) eb
          rw [wnr_bit] at h7
          have h3 := (ih (a - x) (by omega)).2 x (by omega)
          rw [decide_eq_true (show x < min k a + 1 by omega), decide_eq_true h1] at h7
          have h8 : (ltab k a (a - x)).testBit x = false := h7
          have h4 : ¬ wtab k a (a - x) x = 0 := fun z => by have := h3.mpr z; rw [h8] at this; cases this
          simp [h4]
      · intro h x h1 h2
        rw [wnr_bit]
        by_cases h5 : x < min k a + 1
        · by_cases h6 : 1 ≤ x
          · have h7 := h x h6 (by omega)
            unfold nsP at h7
            rw [decide_eq_true h2] at h7
            have h8 : decide (wtab k a (a - x) x = 0) = false := h7
            have h3 := (ih (a - x) (by omega)).2 x (by omega)
            have h4 : ¬ (ltab k a (a - x)).testBit x = true := fun z => of_decide_eq_false h8 (h3.mp z)
            simp [h4]
          · simp [h6]
        · simp [h5]
    · simp only [if_neg e]
      exact ih a (by omega)
/-- both search for the same number -/
theorem nt_eq {k n l : Nat} (hk : k ≤ 9) (hl : l ≤ 9) {op : Nat} (ho : ∀ i, i < 31 → op.testBit i = ((wnr k (ltab k n) n).testBit i && !decide (i = l))) (h31 : op < 2147483648) : (srch (fun x => op.testBit x) k 1).getD 0 = lst k n l (wtab k n) := by
  unfold lst
  rw [srch_eq (P2 := nsP n l (wtab k n)) (min k n) k 1 (by omega) (fun j h1 h2 => ?_) (fun j h1 => ?_)]
  · rw [ho j (by omega), wnr_bit, decide_eq_true (show j < min k n + 1 by omega), decide_eq_true h1]
    have h3 := (ntab hk n (n - j) (by omega)).2 j (by omega)
    unfold nsP
    by_cases ej : j = l
    · simp [ej]
    · by_cases hz : wtab k n (n - j) j = 0
      · have := h3.mpr hz; simp [ej, hz, this]
      · have : ¬ (ltab k n (n - j)).testBit j = true := fun z => hz (h3.mp z)
        simp [ej, hz, this]
  · by_cases hj : j < 31
    · rw [ho j hj, wnr_bit, decide_eq_false (show ¬ j < min k n + 1 by omega)]; simp
    · apply Nat.testBit_lt_two_pow
      exact Nat.lt_of_lt_of_le h31 (Nat.le_trans (by decide : 2147483648 ≤ 2 ^ 31) (Nat.pow_le_pow_right (n := 2) (by decide) (by omega)))
section P66
variable {l : Launch} {G : am_G} {d : Nat} {r : Nat} {X : List Nat} {C : List Int} {sn : Nat} {sg : Nat → Nat} {h : hrs} {e : est} {NB : Nat} {mem m : am_M}
theorem s_lostBehind (w : Nat) (hw : w < 1024) : am_Sm l G yX8_lostBehind mt_X8_lostBehind (d + 1) [.inl (w : Int)] mem (am_rr (some (.inl (lb w : Int))) mem) := by
  refine am_enterQ (ls := [some (.inl (w : Int))]) (by decide) rfl (Nat.le_of_ble_eq_true rfl) rfl (fun hok Q hQ => ?_)
  refine rn_iload_n (x := (w : Int)) (q := 1) dX8_lostBehind_0 rfl rfl ?_
  refine rn_ifne (t := 8) (q := 4) dX8_lostBehind_1 rfl rfl (fun w1 => ?_) (fun w1 => ?_)
  · refine rn_iload_n (x := (w : Int)) (q := 9) dX8_lostBehind_8 rfl rfl ?_
    refine rn_callS (as := [.inl (w : Int)]) (rest := []) (q := 12) dX8_lostBehind_9 ml_X8_187 sm_J6_bitCount_0f7a4 (by omega) rfl rfl (Nat.le_of_ble_eq_true rfl) rfl (s_bitCount (d := d + 0) w (by omega)) ?_
    intro r9 mem9 hq9
    obtain ⟨rfl, rfl⟩ := hq9
    show am_Rn l G _ _ 12 [some (.inl (w : Int))] [.inl (pc w : Int)] mem _
    refine rn_iconst (q := 13) dX8_lostBehind_12 (am_okd rfl) rfl ?_
    refine rn_cmpne (t := 20) (q := 16) dX8_lostBehind_13 rfl rfl (fun w13 => ?_) (fun w13 => ?_)
    · refine rn_iconst (q := 21) dX8_lostBehind_20 (am_okd rfl) rfl ?_
      refine rn_iret dX8_lostBehind_21 rfl ?_
      first | exact hQ _ _ ⟨by unfold lb; rw [if_neg (by omega), if_pos (by omega)], rfl⟩ | exact hQ _ _ ⟨by unfold lb; rw [if_neg (by omega), if_neg (by omega)]; rfl, rfl⟩
    · refine rn_iload_n (x := (w : Int)) (q := 17) dX8_lostBehind_16 rfl rfl ?_
      refine rn_goto (t := 21) dX8_lostBehind_17 rfl ?_
      refine rn_iret dX8_lostBehind_21 rfl ?_
      first | exact hQ _ _ ⟨by unfold lb; rw [if_neg (by omega), if_pos (by omega)], rfl⟩ | exact hQ _ _ ⟨by unfold lb; rw [if_neg (by omega), if_neg (by omega)]; rfl, rfl⟩
  · refine rn_sipush (q := 7) dX8_lostBehind_4 ⟨by decide, by decide⟩ rfl ?_
    refine rn_iret dX8_lostBehind_7 rfl ?_
    exact hQ _ _ ⟨by unfold lb; rw [if_pos (by omega)]; rfl, rfl⟩
theorem s_winners (a k : Nat) (hk : 1 ≤ k ∧ k ≤ 9) (ha : a ≤ 60) {L : Nat → Nat} (hL : ∀ j, j < a → mem 83 j = (L j : Int) ∧ L j < 1024) : am_Sm l G yX8_winners mt_X8_winners d [.inr (.inr 1), .inl (a : Int), .inl (k : Int)] mem (am_rr (some (.inl (wnr k L a : Int))) mem) := by
  refine am_enterQ (ls := [some (.inr (.inr 1)), some (.inl (a : Int)), some (.inl (k : Int)), none, none]) (by decide) rfl (Nat.le_of_ble_eq_true rfl) rfl (fun hok Q hQ => ?_)
  have K : ∀ t : Nat, t ≤ min k a + 1 → 1 ≤ t → ∀ s : Nat, s = bitsF (fun x => decide (1 ≤ x) && (L (a - x)).testBit x) t → am_Rn l G mt_X8_winners d 5 [some (.inr (.inr 1)), some (.inl (a : Int)), some (.inl (k : Int)), some (.inl (s : Int)), some (.inl (t : Int))] [] mem Q := by
    refine am_dn (min k a + 1) (fun t ht ih h1 s hs => ?_)
    have o := bitsF_lt (f := fun x => decide (1 ≤ x) && (L (a - x)).testBit x) t
    rw [← hs] at o
    have p10 : 2 ^ t ≤ 1024 := Nat.pow_le_pow_right (n := 2) (by decide) (show t ≤ 10 by omega)
    by_cases hin : t < min k a + 1
    · have hLt := hL (a - t) (by omega)
      have hLt2 := hLt.2
      refine rn_iload (x := (t : Int)) (q := 7) dX8_winners_5 rfl rfl ?_
      refine rn_iload_n (x := (k : Int)) (q := 8) dX8_winners_7 rfl rfl ?_
      refine rn_cmpgt (t := 47) (q := 11) dX8_winners_8 rfl rfl (fun h => absurd h (by omega)) (fun w8 => ?_)
      refine rn_iload (x := (t : Int)) (q := 13) dX8_winners_11 rfl rfl ?_
      refine rn_iload_n (x := (a : Int)) (q := 14) dX8_winners_13 rfl rfl ?_
      refine rn_cmpgt (t := 47) (q := 17) dX8_winners_14 rfl rfl (fun h => absurd h (by omega)) (fun w14 => ?_)
      refine rn_aload_n (x := 0) (q := 18) dX8_winners_17 rfl rfl ?_
      refine rn_get (a := 0) (v := .inr (.inr 84)) (q := 21) dX8_winners_18 fl_X8_93 rfl rfl rfl ?_
      refine rn_iload_n (x := (a : Int)) (q := 22) dX8_winners_21 rfl rfl ?_
      refine rn_iload (x := (t : Int)) (q := 24) dX8_winners_22 rfl rfl ?_
      refine rn_isubN (z := ((a - t : Nat) : Int)) (q := 25) dX8_winners_24 (by omega) (by unfold am_ok; omega) rfl ?_
      refine rn_ialdV (a := 83) (v := (L (a - t) : Int)) (q := 26) dX8_winners_25 rfl (by omega) (by omega) hLt.1 rfl ?_
      refine rn_iload (x := (t : Int)) (q := 28) dX8_winners_26 rfl rfl ?_
      refine rn_ishr (q := 29) dX8_winners_28 rfl ?_
      refine rn_iconst (q := 30) dX8_winners_29 (am_okd rfl) rfl ?_
      refine rn_iand (q := 31) dX8_winners_30 rfl ?_
      rw [am_bit (b := L (a - t)) (i := t) (by omega) (by omega)]
      by_cases b30 : Nat.testBit (L (a - t)) t = true
      · rw [if_pos b30]
        refine rn_ifeq (t := 41) (q := 34) dX8_winners_31 rfl rfl (fun h => absurd h (by decide)) (fun w31 => ?_)
        refine rn_iload_n (x := (s : Int)) (q := 35) dX8_winners_34 rfl rfl ?_
        refine rn_iconst (q := 36) dX8_winners_35 (am_okd rfl) rfl ?_
        refine rn_iload (x := (t : Int)) (q := 38) dX8_winners_36 rfl rfl ?_
        refine rn_ishl (q := 39) dX8_winners_38 rfl ?_
        rw [show am_shl 1 (t : Int) = ((2 ^ t : Nat) : Int) from am_shl1 _ (by omega)]
        refine rn_ior (q := 40) dX8_winners_39 rfl ?_
        rw [show am_or (s : Int) ((2 ^ t : Nat) : Int) = ((s + 2 ^ t : Nat) : Int) from or_up (by omega) (by omega)]
        refine rn_istore_n (ls' := [some (.inr (.inr 1)), some (.inl (a : Int)), some (.inl (k : Int)), some (.inl ((s + 2 ^ t : Nat) : Int)), some (.inl (t : Int))]) (q := 41) dX8_winners_40 (by decide) rfl rfl ?_
        refine rn_iincN (x := (t : Int)) (z := ((t + 1 : Nat) : Int)) (ls' := [some (.inr (.inr 1)), some (.inl (a : Int)), some (.inl (k : Int)), some (.inl ((s + 2 ^ t : Nat) : Int)), some (.inl ((t + 1 : Nat) : Int))]) (q := 44) dX8_winners_41 rfl (by decide) (by omega) (by unfold am_ok; omega) rfl rfl ?_
        refine rn_goto (t := 5) dX8_winners_44 rfl ?_
        first | exact ih hin (by omega) _ (by rw [bitsF, ← hs, if_pos (by rw [decide_eq_true h1]; exact b30)]) | exact ih hin (by omega) _ (by rw [bitsF, ← hs, if_neg (by rw [decide_eq_true h1]; exact b30)])
      · rw [if_neg b30]
        refine rn_ifeq (t := 41) (q := 34) dX8_winners_31 rfl rfl (fun w31 => ?_) (fun h => absurd h (by decide))
        refine rn_iincN (x := (t : Int)) (z := ((t + 1 : Nat) : Int)) (ls' := [some (.inr (.inr 1)), some (.inl (a : Int)), some (.inl (k : Int)), some (.inl (s : Int)), some (.inl ((t + 1 : Nat) : Int))]) (q := 44) dX8_winners_41 rfl (by decide) (by omega) (by unfold am_ok; omega) rfl rfl ?_
        refine rn_goto (t := 5) dX8_winners_44 rfl ?_
        first | exact ih hin (by omega) _ (by rw [bitsF, ← hs, if_pos (by rw [decide_eq_true h1]; exact b30)]) | exact ih hin (by omega) _ (by rw [bitsF, ← hs, if_neg (by rw [decide_eq_true h1]; exact b30)])
    · obtain rfl : t = min k a + 1 := by omega
      refine rn_iload (x := ((min k a + 1 : Nat) : Int)) (q := 7) dX8_winners_5 rfl rfl ?_
      refine rn_iload_n (x := (k : Int)) (q := 8) dX8_winners_7 rfl rfl ?_
      refine rn_cmpgt (t := 47) (q := 11) dX8_winners_8 rfl rfl (fun w8 => ?_) (fun w8 => ?_)
      · refine rn_iload_n (x := (s : Int)) (q := 48) dX8_winners_47 rfl rfl ?_
        refine rn_iret dX8_winners_48 rfl ?_
        exact hQ _ _ ⟨by rw [hs]; rfl, rfl⟩
      · refine rn_iload (x := ((min k a + 1 : Nat) : Int)) (q := 13) dX8_winners_11 rfl rfl ?_
        refine rn_iload_n (x := (a : Int)) (q := 14) dX8_winners_13 rfl rfl ?_
        refine rn_cmpgt (t := 47) (q := 17) dX8_winners_14 rfl rfl (fun w14 => ?_) (fun w14 => ?_)
        · refine rn_iload_n (x := (s : Int)) (q := 48) dX8_winners_47 rfl rfl ?_
          refine rn_iret dX8_winners_48 rfl ?_
          exact hQ _ _ ⟨by rw [hs]; rfl, rfl⟩
        · exfalso; omega
  refine rn_iconst (q := 1) dX8_winners_0 (am_okd rfl) rfl ?_
  refine rn_istore_n (ls' := [some (.inr (.inr 1)), some (.inl (a : Int)), some (.inl (k : Int)), some (.inl 0), none]) (q := 2) dX8_winners_1 (by decide) rfl rfl ?_
  refine rn_iconst (q := 3) dX8_winners_2 (am_okd rfl) rfl ?_
  refine rn_istore (ls' := [some (.inr (.inr 1)), some (.inl (a : Int)), some (.inl (k : Int)), some (.inl 0), some (.inl 1)]) (q := 5) dX8_winners_3 (by decide) rfl rfl ?_
  exact K 1 (by omega) (by omega) 0 rfl
theorem c_notes {R : List Int} (hR : c_row R mem) (n k w : Int) : am_Sm l G yX8_notes mt_X8_notes (d + 2) [.inr (.inr 1), .inl n, .inl k, .inl w] mem (fun q m => (¬ (0 ≤ n ∧ n ≤ 60 ∧ 1 ≤ k ∧ k ≤ 9 ∧ 0 ≤ w ∧ w ≤ 9) → QC (-1) R mem q m) ∧ (0 ≤ n ∧ n ≤ 60 ∧ 1 ≤ k ∧ k ≤ 9 ∧ 0 ≤ w ∧ w ≤ 9 → QC (lst k.toNat n.toNat w.toNat (wtab k.toNat n.toNat) : Int) R mem q m)) := by
  refine am_enterQ (ls := [some (.inr (.inr 1)), some (.inl n), some (.inl k), some (.inl w), none, none]) (by decide) rfl (Nat.le_of_ble_eq_true rfl) rfl (fun hok Q hQ => ?_)
  by_cases hv : 0 ≤ n ∧ n ≤ 60 ∧ 1 ≤ k ∧ k ≤ 9 ∧ 0 ≤ w ∧ w ≤ 9
  · obtain ⟨nN, rfl⟩ : ∃ x : Nat, n = (x : Int) := ⟨n.toNat, by omega⟩
    obtain ⟨kN, rfl⟩ : ∃ x : Nat, k = (x : Int) := ⟨k.toNat, by omega⟩
    obtain ⟨wN, rfl⟩ : ∃ x : Nat, w = (x : Int) := ⟨w.toNat, by omega⟩
    have hw := wnr_lt (a := nN) (L := ltab kN nN) (show kN ≤ 9 by omega)
    obtain ⟨op, o1, o2, o3, o4⟩ := and_clG (b := wnr kN (ltab kN nN) nN) (k := wN) (by omega) (by omega)
    have hA := nt_eq (n := nN) (l := wN) (show kN ≤ 9 by omega) (by omega) o3 o1
    have L2 : ∀ t : Nat, t ≤ kN + 1 → 1 ≤ t → ∀ m : am_M, frS s8 mem m → srch (fun x => op.testBit x) kN 1 = srch (fun x => op.testBit x) (kN + 1 - t) t → am_Rn l G mt_X8_notes (d + 2) 82 [some (.inr (.inr 1)), some (.inl (nN : Int)), some (.inl (kN : Int)), some (.inl (wN : Int)), some (.inl (op : Int)), some (.inl (t : Int))] [] m Q := by
      refine am_dn (kN + 1) (fun t ht ih h1 m hf hS => ?_)
      refine rn_iload (x := (t : Int)) (q := 84) dX8_notes_82 rfl rfl ?_
      refine rn_iload_n (x := (kN : Int)) (q := 85) dX8_notes_84 rfl rfl ?_
      refine rn_cmpgt (t := 107) (q := 88) dX8_notes_85 rfl rfl (fun w85 => ?_) (fun w85 => ?_)
      · refine rn_iconst (q := 108) dX8_notes_107 (am_okd rfl) rfl ?_
        refine rn_iret dX8_notes_108 rfl ?_
        exact hQ _ _ ⟨fun h => absurd hv h, fun _ => by show QC (lst kN nN wN (wtab kN nN) : Int) _ _ _ _; rw [← hA, hS.trans (srZ (by omega))]; exact ⟨rfl, hf.r8, hR.kept hf⟩⟩
      · refine rn_iload (x := (op : Int)) (q := 90) dX8_notes_88 rfl rfl ?_
        refine rn_iload (x := (t : Int)) (q := 92) dX8_notes_90 rfl rfl ?_
        refine rn_ishr (q := 93) dX8_notes_92 rfl ?_
        refine rn_iconst (q := 94) dX8_notes_93 (am_okd rfl) rfl ?_
        refine rn_iand (q := 95) dX8_notes_94 rfl ?_
        rw [am_bit (b := op) (i := t) (by omega) (by omega)]
        by_cases b94 : Nat.testBit op t = true
        · rw [if_pos b94]
          refine rn_ifeq (t := 101) (q := 98) dX8_notes_95 rfl rfl (fun h => absurd h (by decide)) (fun w95 => ?_)
          refine rn_iload (x := (t : Int)) (q := 100) dX8_notes_98 rfl rfl ?_
          refine rn_iret dX8_notes_100 rfl ?_
          exact hQ _ _ ⟨fun h => absurd hv h, fun _ => by show QC (lst kN nN wN (wtab kN nN) : Int) _ _ _ _; rw [← hA, hS.trans (srY (by omega) b94)]; exact ⟨rfl, hf.r8, hR.kept hf⟩⟩
        · rw [if_neg b94]
          refine rn_ifeq (t := 101) (q := 98) dX8_notes_95 rfl rfl (fun w95 => ?_) (fun h => absurd h (by decide))
          refine rn_iincN (x := (t : Int)) (z := ((t + 1 : Nat) : Int)) (ls' := [some (.inr (.inr 1)), some (.inl (nN : Int)), some (.inl (kN : Int)), some (.inl (wN : Int)), some (.inl (op : Int)), some (.inl ((t + 1 : Nat) : Int))]) (q := 104) dX8_notes_101 rfl (by decide) (by omega) (by unfold am_ok; omega) rfl rfl ?_
          refine rn_goto (t := 82) dX8_notes_104 rfl ?_
          exact ih (by omega) (by omega) _ hf (hS.trans (srN (by omega) (by simpa using b94)))
    have L1b : ∀ m : am_M, frS s8 mem m → (∀ j, j < nN → m 83 j = (ltab kN nN j : Int)) → am_Rn l G mt_X8_notes (d + 2) 65 [some (.inr (.inr 1)), some (.inl (nN : Int)), some (.inl (kN : Int)), some (.inl (wN : Int)), some (.inl (nN : Int)), none] [] m Q := by
      intro m hf hj
      refine rn_aload_n (x := 0) (q := 66) dX8_notes_65 rfl rfl ?_
      refine rn_iload_n (x := (nN : Int)) (q := 67) dX8_notes_66 rfl rfl ?_
      refine rn_iload_n (x := (kN : Int)) (q := 68) dX8_notes_67 rfl rfl ?_
      refine rn_callV (b := 0) (as := [.inl (nN : Int), .inl (kN : Int)]) (rest := []) (q := 71) dX8_notes_68 ml_X8_376 sm_X8_winners rfl rfl (by decide) (by omega) rfl rfl (Nat.le_of_ble_eq_true rfl) rfl (s_winners (d := d + 1) nN kN (by omega) (by omega) (L := ltab kN nN) (fun j h2 => ⟨hj j h2, (ntab (by omega) nN j h2).1⟩)) ?_
      intro r68 mem68 hq68
      obtain ⟨rfl, rfl⟩ := hq68
      show am_Rn l G _ _ 71 [some (.inr (.inr 1)), some (.inl (nN : Int)), some (.inl (kN : Int)), some (.inl (wN : Int)), some (.inl (nN : Int)), none] [.inl (wnr kN (ltab kN nN) nN : Int)] m _
      refine rn_iconst (q := 72) dX8_notes_71 (am_okd rfl) rfl ?_
      refine rn_iload_n (x := (wN : Int)) (q := 73) dX8_notes_72 rfl rfl ?_
      refine rn_ishl (q := 74) dX8_notes_73 rfl ?_
      rw [show am_shl 1 (wN : Int) = ((2 ^ wN : Nat) : Int) from am_shl1 _ (by omega)]
      refine rn_iconst (q := 75) dX8_notes_74 (am_okd rfl) rfl ?_
      refine rn_ixor (q := 76) dX8_notes_75 rfl ?_
      refine rn_iand (q := 77) dX8_notes_76 rfl ?_
      rw [show am_and (wnr kN (ltab kN nN) nN : Int) (am_xor ((2 ^ wN : Nat) : Int) (-1)) = (op : Int) from o2]
      refine rn_istore (ls' := [some (.inr (.inr 1)), some (.inl (nN : Int)), some (.inl (kN : Int)), some (.inl (wN : Int)), some (.inl (op : Int)), none]) (q := 79) dX8_notes_77 (by decide) rfl rfl ?_
      refine rn_iconst (q := 80) dX8_notes_79 (am_okd rfl) rfl ?_
      refine rn_istore (ls' := [some (.inr (.inr 1)), some (.inl (nN : Int)), some (.inl (kN : Int)), some (.inl (wN : Int)), some (.inl (op : Int)), some (.inl 1)]) (q := 82) dX8_notes_80 (by decide) rfl rfl ?_
      exact L2 1 (by omega) (by omega) _ hf rfl
    have L1 : ∀ i : Nat, i ≤ nN → ∀ m : am_M, frS s8 mem m → (∀ j, j < i → m 83 j = (ltab kN i j : Int)) → am_Rn l G mt_X8_notes (d + 2) 36 [some (.inr (.inr 1)), some (.inl (nN : Int)), some (.inl (kN : Int)), some (.inl (wN : Int)), some (.inl (i : Int)), none] [] m Q := by
      refine am_dn nN (fun i hi ih m hf hj => ?_)
      have hw2 := wnr_lt (a := i) (L := ltab kN i) (show kN ≤ 9 by omega)
      refine rn_iload (x := (i : Int)) (q := 38) dX8_notes_36 rfl rfl ?_
      refine rn_iload_n (x := (nN : Int)) (q := 39) dX8_notes_38 rfl rfl ?_
      refine rn_cmpge (t := 65) (q := 42) dX8_notes_39 rfl rfl (fun w39 => ?_) (fun w39 => ?_)
      · obtain rfl : i = nN := by omega
        exact L1b m hf hj
      · refine rn_aload_n (x := 0) (q := 43) dX8_notes_42 rfl rfl ?_
        refine rn_get (a := 0) (v := .inr (.inr 84)) (q := 46) dX8_notes_43 fl_X8_93 rfl rfl rfl ?_
        refine rn_iload (x := (i : Int)) (q := 48) dX8_notes_46 rfl rfl ?_
        refine rn_aload_n (x := 0) (q := 49) dX8_notes_48 rfl rfl ?_
        refine rn_iload (x := (i : Int)) (q := 51) dX8_notes_49 rfl rfl ?_
        refine rn_iload_n (x := (kN : Int)) (q := 52) dX8_notes_51 rfl rfl ?_
        refine rn_callV (b := 0) (as := [.inl (i : Int), .inl (kN : Int)]) (rest := [.inl (i : Int), .inr (.inr 84)]) (q := 55) dX8_notes_52 ml_X8_376 sm_X8_winners rfl rfl (by decide) (by omega) rfl rfl (Nat.le_of_ble_eq_true rfl) rfl (s_winners (d := d + 1) i kN (by omega) (by omega) (L := ltab kN i) (fun j h2 => ⟨hj j h2, (ntab (by omega) i j h2).1⟩)) ?_
        intro r52 mem52 hq52
        obtain ⟨rfl, rfl⟩ := hq52
        show am_Rn l G _ _ 55 [some (.inr (.inr 1)), some (.inl (nN : Int)), some (.inl (kN : Int)), some (.inl (wN : Int)), some (.inl (i : Int)), none] [.inl (wnr kN (ltab kN i) i : Int), .inl (i : Int), .inr (.inr 84)] m _
        refine rn_callS (as := [.inl (wnr kN (ltab kN i) i : Int)]) (rest := [.inl (i : Int), .inr (.inr 84)]) (q := 58) dX8_notes_55 ml_X8_379 sm_X8_lostBehind (by omega) rfl rfl (Nat.le_of_ble_eq_true rfl) rfl (s_lostBehind (d := d + 0) (wnr kN (ltab kN i) i) (by omega)) ?_
        intro r55 mem55 hq55
        obtain ⟨rfl, rfl⟩ := hq55
        show am_Rn l G _ _ 58 [some (.inr (.inr 1)), some (.inl (nN : Int)), some (.inl (kN : Int)), some (.inl (wN : Int)), some (.inl (i : Int)), none] [.inl (lb (wnr kN (ltab kN i) i) : Int), .inl (i : Int), .inr (.inr 84)] m _
        refine rn_iastV (a := 83) (m1 := am_up m 83 i (lb (wnr kN (ltab kN i) i) : Int)) (q := 59) dX8_notes_58 rfl (by omega) (by omega) rfl rfl ?_
        refine rn_iincN (x := (i : Int)) (z := ((i + 1 : Nat) : Int)) (ls' := [some (.inr (.inr 1)), some (.inl (nN : Int)), some (.inl (kN : Int)), some (.inl (wN : Int)), some (.inl ((i + 1 : Nat) : Int)), none]) (q := 62) dX8_notes_59 rfl (by decide) (by omega) (by unfold am_ok; omega) rfl rfl ?_
        refine rn_goto (t := 36) dX8_notes_62 rfl ?_
        refine ih (by omega) _ (frS.up (a := 83) (k := i) (x := (lb (wnr kN (ltab kN i) i) : Int)) hf rfl) (fun j h2 => ?_)
        rw [ltab_s, am_up_at]
        by_cases e : j = i
        · rw [if_pos e, if_pos e]
        · rw [if_neg e, if_neg e]; exact hj j (by omega)
    refine rn_iload_n (x := (nN : Int)) (q := 1) dX8_notes_0 rfl rfl ?_
    refine rn_iflt (t := 31) (q := 4) dX8_notes_1 rfl rfl (fun h => absurd h (by omega)) (fun w1 => ?_)
    refine rn_iload_n (x := (nN : Int)) (q := 5) dX8_notes_4 rfl rfl ?_
    refine rn_bipush (q := 7) dX8_notes_5 ⟨by decide, by decide⟩ rfl ?_
    refine rn_cmpgt (t := 31) (q := 10) dX8_notes_7 rfl rfl (fun h => absurd h (by omega)) (fun w7 => ?_)
    refine rn_iload_n (x := (kN : Int)) (q := 11) dX8_notes_10 rfl rfl ?_
    refine rn_iconst (q := 12) dX8_notes_11 (am_okd rfl) rfl ?_
    refine rn_cmplt (t := 31) (q := 15) dX8_notes_12 rfl rfl (fun h => absurd h (by omega)) (fun w12 => ?_)
    refine rn_iload_n (x := (kN : Int)) (q := 16) dX8_notes_15 rfl rfl ?_
    refine rn_bipush (q := 18) dX8_notes_16 ⟨by decide, by decide⟩ rfl ?_
    refine rn_cmpgt (t := 31) (q := 21) dX8_notes_18 rfl rfl (fun h => absurd h (by omega)) (fun w18 => ?_)
    refine rn_iload_n (x := (wN : Int)) (q := 22) dX8_notes_21 rfl rfl ?_
    refine rn_iflt (t := 31) (q := 25) dX8_notes_22 rfl rfl (fun h => absurd h (by omega)) (fun w22 => ?_)
    refine rn_iload_n (x := (wN : Int)) (q := 26) dX8_notes_25 rfl rfl ?_
    refine rn_bipush (q := 28) dX8_notes_26 ⟨by decide, by decide⟩ rfl ?_
    refine rn_cmple (t := 33) (q := 31) dX8_notes_28 rfl rfl (fun w28 => ?_) (fun h => absurd h (by omega))
    refine rn_iconst (q := 34) dX8_notes_33 (am_okd rfl) rfl ?_
    refine rn_istore (ls' := [some (.inr (.inr 1)), some (.inl (nN : Int)), some (.inl (kN : Int)), some (.inl (wN : Int)), some (.inl 0), none]) (q := 36) dX8_notes_34 (by decide) rfl rfl ?_
    exact L1 0 (Nat.zero_le _) _ frS.rf (fun j h2 => absurd h2 (Nat.not_lt_zero _))
  · refine rn_iload_n (x := n) (q := 1) dX8_notes_0 rfl rfl ?_
    refine rn_iflt (t := 31) (q := 4) dX8_notes_1 rfl rfl (fun w1 => ?_) (fun w1 => ?_)
    · refine rn_iconst (q := 32) dX8_notes_31 (am_okd rfl) rfl ?_
      refine rn_iret dX8_notes_32 rfl ?_
      exact hQ _ _ ⟨fun _ => ⟨rfl, frS.rf, hR⟩, fun h => absurd h hv⟩
    · refine rn_iload_n (x := n) (q := 5) dX8_notes_4 rfl rfl ?_
      refine rn_bipush (q := 7) dX8_notes_5 ⟨by decide, by decide⟩ rfl ?_
      refine rn_cmpgt (t := 31) (q := 10) dX8_notes_7 rfl rfl (fun w7 => ?_) (fun w7 => ?_)
      · refine rn_iconst (q := 32) dX8_notes_31 (am_okd rfl) rfl ?_
        refine rn_iret dX8_notes_32 rfl ?_
        exact hQ _ _ ⟨fun _ => ⟨rfl, frS.rf, hR⟩, fun h => absurd h hv⟩
      · refine rn_iload_n (x := k) (q := 11) dX8_notes_10 rfl rfl ?_
        refine rn_iconst (q := 12) dX8_notes_11 (am_okd rfl) rfl ?_
        refine rn_cmplt (t := 31) (q := 15) dX8_notes_12 rfl rfl (fun w12 => ?_) (fun w12 => ?_)
        · refine rn_iconst (q := 32) dX8_notes_31 (am_okd rfl) rfl ?_
          refine rn_iret dX8_notes_32 rfl ?_
          exact hQ _ _ ⟨fun _ => ⟨rfl, frS.rf, hR⟩, fun h => absurd h hv⟩
        · refine rn_iload_n (x := k) (q := 16) dX8_notes_15 rfl rfl ?_
          refine rn_bipush (q := 18) dX8_notes_16 ⟨by decide, by decide⟩ rfl ?_
          refine rn_cmpgt (t := 31) (q := 21) dX8_notes_18 rfl rfl (fun w18 => ?_) (fun w18 => ?_)
          · refine rn_iconst (q := 32) dX8_notes_31 (am_okd rfl) rfl ?_
            refine rn_iret dX8_notes_32 rfl ?_
            exact hQ _ _ ⟨fun _ => ⟨rfl, frS.rf, hR⟩, fun h => absurd h hv⟩
          · refine rn_iload_n (x := w) (q := 22) dX8_notes_21 rfl rfl ?_
            refine rn_iflt (t := 31) (q := 25) dX8_notes_22 rfl rfl (fun w22 => ?_) (fun w22 => ?_)
            · refine rn_iconst (q := 32) dX8_notes_31 (am_okd rfl) rfl ?_
              refine rn_iret dX8_notes_32 rfl ?_
              exact hQ _ _ ⟨fun _ => ⟨rfl, frS.rf, hR⟩, fun h => absurd h hv⟩
            · refine rn_iload_n (x := w) (q := 26) dX8_notes_25 rfl rfl ?_
              refine rn_bipush (q := 28) dX8_notes_26 ⟨by decide, by decide⟩ rfl ?_
              refine rn_cmple (t := 33) (q := 31) dX8_notes_28 rfl rfl (fun w28 => ?_) (fun w28 => ?_)
              · exfalso; omega
              · refine rn_iconst (q := 32) dX8_notes_31 (am_okd rfl) rfl ?_
                refine rn_iret dX8_notes_32 rfl ?_
                exact hQ _ _ ⟨fun _ => ⟨rfl, frS.rf, hR⟩, fun h => absurd h hv⟩
theorem m_notes {R : List Int} (hR : m_row R mem) (n k w : Int) : am_Sm l G yX9_notes mt_X9_notes (d + 1) [.inr (.inr 96), .inl n, .inl k, .inl w] mem (fun q m => (¬ (0 ≤ n ∧ n ≤ 60 ∧ 1 ≤ k ∧ k ≤ 9 ∧ 0 ≤ w ∧ w ≤ 9) → QM (-1) R mem q m) ∧ (0 ≤ n ∧ n ≤ 60 ∧ 1 ≤ k ∧ k ≤ 9 ∧ 0 ≤ w ∧ w ≤ 9 → QM (lst k.toNat n.toNat w.toNat (wtab k.toNat n.toNat) : Int) R mem q m)) := by
  refine am_enterQ (ls := [some (.inr (.inr 96)), some (.inl n), some (.inl k), some (.inl w), none, none, none, none]) (by decide) rfl (Nat.le_of_ble_eq_true rfl) rfl (fun hok Q hQ => ?_)
  by_cases hv : 0 ≤ n ∧ n ≤ 60 ∧ 1 ≤ k ∧ k ≤ 9 ∧ 0 ≤ w ∧ w ≤ 9
  · obtain ⟨nN, rfl⟩ : ∃ x : Nat, n = (x : Int) := ⟨n.toNat, by omega⟩
    obtain ⟨kN, rfl⟩ : ∃ x : Nat, k = (x : Int) := ⟨k.toNat, by omega⟩
    obtain ⟨wN, rfl⟩ : ∃ x : Nat, w = (x : Int) := ⟨w.toNat, by omega⟩
    have LE : ∀ (m : am_M) (lx ly lz : Option am_V), frS s9 mem m → m 118 (10 * nN + wN) = (lst kN nN wN (wtab kN nN) : Int) → am_Rn l G mt_X9_notes (d + 1) 143 [some (.inr (.inr 96)), some (.inl (nN : Int)), some (.inl (kN : Int)), some (.inl (wN : Int)), some (.inl ((nN + 1 : Nat) : Int)), lx, ly, lz] [] m Q := by
      intro m lx ly lz hf hT
      refine rn_aload_n (x := 95) (q := 144) dX9_notes_143 rfl rfl ?_
      refine rn_get (a := 95) (v := .inr (.inr 119)) (q := 147) dX9_notes_144 fl_X9_82 rfl rfl rfl ?_
      refine rn_bipush (q := 149) dX9_notes_147 ⟨by decide, by decide⟩ rfl ?_
      refine rn_iload_n (x := (nN : Int)) (q := 150) dX9_notes_149 rfl rfl ?_
      refine rn_imulN (z := ((10 * nN : Nat) : Int)) (q := 151) dX9_notes_150 (by omega) (by unfold am_ok; omega) rfl ?_
      refine rn_iload_n (x := (wN : Int)) (q := 152) dX9_notes_151 rfl rfl ?_
      refine rn_iaddN (z := (((10 * nN) + wN : Nat) : Int)) (q := 153) dX9_notes_152 (by omega) (by unfold am_ok; omega) rfl ?_
      refine rn_ialdV (a := 118) (v := (lst kN nN wN (wtab kN nN) : Int)) (q := 154) dX9_notes_153 rfl (by omega) (by omega) hT rfl ?_
      refine rn_iret dX9_notes_154 rfl ?_
      exact hQ _ _ ⟨fun h => absurd hv h, fun _ => ⟨rfl, hf.r9, hR.kept hf⟩⟩
    have L1 : ∀ i : Nat, i ≤ nN + 1 → ∀ (m : am_M) (lx ly lz : Option am_V), frS s9 mem m → (∀ a b, a < i → b < 10 → m 118 (10 * a + b) = (wtab kN i a b : Int)) → am_Rn l G mt_X9_notes (d + 1) 40 [some (.inr (.inr 96)), some (.inl (nN : Int)), some (.inl (kN : Int)), some (.inl (wN : Int)), some (.inl (i : Int)), lx, ly, lz] [] m Q := by
      refine am_dn (nN + 1) (fun i hi ih m lx ly lz hf hT => ?_)
      have L2 : i < nN + 1 → ∀ c : Nat, c ≤ 10 → ∀ (m : am_M) (ly lz : Option am_V), frS s9 mem m → (∀ a b, a < i → b < 10 → m 118 (10 * a + b) = (wtab kN i a b : Int)) → (∀ b, b < c → m 118 (10 * i + b) = (lst kN i b (wtab kN i) : Int)) → am_Rn l G mt_X9_notes (d + 1) 49 [some (.inr (.inr 96)), some (.inl (nN : Int)), some (.inl (kN : Int)), some (.inl (wN : Int)), some (.inl (i : Int)), some (.inl (c : Int)), ly, lz] [] m Q := by
        intro hlt
        refine am_dn 10 (fun c hc ih2 m ly lz hf hT hB => ?_)
        have fin : c < 10 → ∀ (x y : Nat), y < 10 → lst kN i c (wtab kN i) = y → am_Rn l G mt_X9_notes (d + 1) 116 [some (.inr (.inr 96)), some (.inl (nN : Int)), some (.inl (kN : Int)), some (.inl (wN : Int)), some (.inl (i : Int)), some (.inl (c : Int)), some (.inl (y : Int)), some (.inl (x : Int))] [] m Q := by
          intro hc10 x y hy hl
          refine rn_aload_n (x := 95) (q := 117) dX9_notes_116 rfl rfl ?_
          refine rn_get (a := 95) (v := .inr (.inr 119)) (q := 120) dX9_notes_117 fl_X9_82 rfl rfl rfl ?_
          refine rn_bipush (q := 122) dX9_notes_120 ⟨by decide, by decide⟩ rfl ?_
          refine rn_iload (x := (i : Int)) (q := 124) dX9_notes_122 rfl rfl ?_
          refine rn_imulN (z := ((10 * i : Nat) : Int)) (q := 125) dX9_notes_124 (by omega) (by unfold am_ok; omega) rfl ?_
          refine rn_iload (x := (c : Int)) (q := 127) dX9_notes_125 rfl rfl ?_
          refine rn_iaddN (z := (((10 * i) + c : Nat) : Int)) (q := 128) dX9_notes_127 (by omega) (by unfold am_ok; omega) rfl ?_
          refine rn_iload (x := (y : Int)) (q := 130) dX9_notes_128 rfl rfl ?_
          refine rn_iastV (a := 118) (m1 := am_up m 118 ((10 * i) + c) (y : Int)) (q := 131) dX9_notes_130 rfl (by omega) (by omega) rfl rfl ?_
          refine rn_iincN (x := (c : Int)) (z := ((c + 1 : Nat) : Int)) (ls' := [some (.inr (.inr 96)), some (.inl (nN : Int)), some (.inl (kN : Int)), some (.inl (wN : Int)), some (.inl (i : Int)), some (.inl ((c + 1 : Nat) : Int)), some (.inl (y : Int)), some (.inl (x : Int))]) (q := 134) dX9_notes_131 rfl (by decide) (by omega) (by unfold am_ok; omega) rfl rfl ?_
          refine rn_goto (t := 49) dX9_notes_134 rfl ?_
          refine ih2 hc10 _ _ _ (frS.up (a := 118) (k := ((10 * i) + c)) (x := (y : Int)) hf rfl) (fun a b2 ha hb2 => ?_) (fun b2 hb2 => ?_)
          · rw [am_up_neq (by omega)]; exact hT a b2 ha hb2
          · rw [am_up_at]
            by_cases e : b2 = c
            · rw [if_pos (by omega), e, hl]
            · rw [if_neg (by omega)]; exact hB b2 (by omega)
        have L3 : c < 10 → ∀ (f x y : Nat), f + x = kN + 1 → 1 ≤ x → x ≤ i + 1 → (y = 0 ∧ srch (nsP i c (wtab kN i)) (min kN i) 1 = srch (nsP i c (wtab kN i)) (min kN i + 1 - x) x) ∨ (1 ≤ y ∧ y < 10 ∧ srch (nsP i c (wtab kN i)) (min kN i) 1 = some y) → am_Rn l G mt_X9_notes (d + 1) 62 [some (.inr (.inr 96)), some (.inl (nN : Int)), some (.inl (kN : Int)), some (.inl (wN : Int)), some (.inl (i : Int)), some (.inl (c : Int)), some (.inl (y : Int)), some (.inl (x : Int))] [] m Q := by
          intro hc10 f
          induction f with
          | zero =>
            intro x y hx h1 hxi hS
            refine rn_iload (x := (x : Int)) (q := 64) dX9_notes_62 rfl rfl ?_
            refine rn_iload_n (x := (kN : Int)) (q := 65) dX9_notes_64 rfl rfl ?_
            refine rn_cmpgt (t := 116) (q := 68) dX9_notes_65 rfl rfl (fun w65 => ?_) (fun h => absurd h (by omega))
            refine fin hc10 x y (by omega) ?_
            unfold lst
            rcases hS with hS | hS
            · rw [hS.2, srZ (by omega), hS.1]; rfl
            · rw [hS.2.2]; rfl
          | succ f ihf =>
            intro x y hx h1 hxi hS
            refine rn_iload (x := (x : Int)) (q := 64) dX9_notes_62 rfl rfl ?_
            refine rn_iload_n (x := (kN : Int)) (q := 65) dX9_notes_64 rfl rfl ?_
            refine rn_cmpgt (t := 116) (q := 68) dX9_notes_65 rfl rfl (fun h => absurd h (by omega)) (fun w65 => ?_)
            refine rn_iload (x := (x : Int)) (q := 70) dX9_notes_68 rfl rfl ?_
            refine rn_iload (x := (i : Int)) (q := 72) dX9_notes_70 rfl rfl ?_
            refine rn_cmpgt (t := 116) (q := 75) dX9_notes_72 rfl rfl (fun w72 => ?_) (fun w72 => ?_)
            · refine fin hc10 x y (by omega) ?_
              unfold lst
              rcases hS with hS | hS
              · first | (rw [hS.2, srZ (by omega), hS.1]; rfl) | omega
              · rw [hS.2.2]; rfl
            · refine rn_iload (x := (y : Int)) (q := 77) dX9_notes_75 rfl rfl ?_
              refine rn_ifne (t := 116) (q := 80) dX9_notes_77 rfl rfl (fun w77 => ?_) (fun w77 => ?_)
              · refine fin hc10 x y (by omega) ?_
                unfold lst
                rcases hS with hS | hS
                · first | (rw [hS.2, srZ (by omega), hS.1]; rfl) | omega
                · rw [hS.2.2]; rfl
              · refine rn_iload (x := (x : Int)) (q := 82) dX9_notes_80 rfl rfl ?_
                refine rn_iload (x := (c : Int)) (q := 84) dX9_notes_82 rfl rfl ?_
                refine rn_cmpeq (t := 110) (q := 87) dX9_notes_84 rfl rfl (fun w84 => ?_) (fun w84 => ?_)
                · refine rn_iincN (x := (x : Int)) (z := ((x + 1 : Nat) : Int)) (ls' := [some (.inr (.inr 96)), some (.inl (nN : Int)), some (.inl (kN : Int)), some (.inl (wN : Int)), some (.inl (i : Int)), some (.inl (c : Int)), some (.inl (y : Int)), some (.inl ((x + 1 : Nat) : Int))]) (q := 113) dX9_notes_110 rfl (by decide) (by omega) (by unfold am_ok; omega) rfl rfl ?_
                  refine rn_goto (t := 62) dX9_notes_113 rfl ?_
                  have hS0 : srch (nsP i c (wtab kN i)) (min kN i) 1 = srch (nsP i c (wtab kN i)) (min kN i + 1 - x) x := by
                    rcases hS with hS | hS
                    · exact hS.2
                    · omega
                  first | exact ihf (x + 1) x (by omega) (by omega) (by omega) (Or.inr ⟨h1, by omega, hS0.trans (srY (by omega) (by unfold nsP; rw [decide_eq_true (by omega), decide_eq_true (by omega)]; rfl))⟩) | exact ihf (x + 1) y (by omega) (by omega) (by omega) (Or.inl ⟨by omega, hS0.trans (srN (by omega) (by unfold nsP; intro z; rw [Bool.and_eq_true] at z; have z1 := of_decide_eq_true z.1; have z2 := of_decide_eq_true z.2; omega))⟩)
                · refine rn_aload_n (x := 95) (q := 88) dX9_notes_87 rfl rfl ?_
                  refine rn_get (a := 95) (v := .inr (.inr 119)) (q := 91) dX9_notes_88 fl_X9_82 rfl rfl rfl ?_
                  refine rn_bipush (q := 93) dX9_notes_91 ⟨by decide, by decide⟩ rfl ?_
                  refine rn_iload (x := (i : Int)) (q := 95) dX9_notes_93 rfl rfl ?_
                  refine rn_iload (x := (x : Int)) (q := 97) dX9_notes_95 rfl rfl ?_
                  refine rn_isubN (z := ((i - x : Nat) : Int)) (q := 98) dX9_notes_97 (by omega) (by unfold am_ok; omega) rfl ?_
                  refine rn_imulN (z := ((10 * (i - x) : Nat) : Int)) (q := 99) dX9_notes_98 (by omega) (by unfold am_ok; omega) rfl ?_
                  refine rn_iload (x := (x : Int)) (q := 101) dX9_notes_99 rfl rfl ?_
                  refine rn_iaddN (z := (((10 * (i - x)) + x : Nat) : Int)) (q := 102) dX9_notes_101 (by omega) (by unfold am_ok; omega) rfl ?_
                  refine rn_ialdV (a := 118) (v := (wtab kN i (i - x) x : Int)) (q := 103) dX9_notes_102 rfl (by omega) (by omega) (hT (i - x) x (by omega) (by omega)) rfl ?_
                  refine rn_ifne (t := 110) (q := 106) dX9_notes_103 rfl rfl (fun w103 => ?_) (fun w103 => ?_)
                  · refine rn_iincN (x := (x : Int)) (z := ((x + 1 : Nat) : Int)) (ls' := [some (.inr (.inr 96)), some (.inl (nN : Int)), some (.inl (kN : Int)), some (.inl (wN : Int)), some (.inl (i : Int)), some (.inl (c : Int)), some (.inl (y : Int)), some (.inl ((x + 1 : Nat) : Int))]) (q := 113) dX9_notes_110 rfl (by decide) (by omega) (by unfold am_ok; omega) rfl rfl ?_
                    refine rn_goto (t := 62) dX9_notes_113 rfl ?_
                    have hS0 : srch (nsP i c (wtab kN i)) (min kN i) 1 = srch (nsP i c (wtab kN i)) (min kN i + 1 - x) x := by
                      rcases hS with hS | hS
                      · exact hS.2
                      · omega
                    first | exact ihf (x + 1) x (by omega) (by omega) (by omega) (Or.inr ⟨h1, by omega, hS0.trans (srY (by omega) (by unfold nsP; rw [decide_eq_true (by omega), decide_eq_true (by omega)]; rfl))⟩) | exact ihf (x + 1) y (by omega) (by omega) (by omega) (Or.inl ⟨by omega, hS0.trans (srN (by omega) (by unfold nsP; intro z; rw [Bool.and_eq_true] at z; have z1 := of_decide_eq_true z.1; have z2 := of_decide_eq_true z.2; omega))⟩)
                  · refine rn_iload (x := (x : Int)) (q := 108) dX9_notes_106 rfl rfl ?_
                    refine rn_istore (ls' := [some (.inr (.inr 96)), some (.inl (nN : Int)), some (.inl (kN : Int)), some (.inl (wN : Int)), some (.inl (i : Int)), some (.inl (c : Int)), some (.inl (x : Int)), some (.inl (x : Int))]) (q := 110) dX9_notes_108 (by decide) rfl rfl ?_
                    refine rn_iincN (x := (x : Int)) (z := ((x + 1 : Nat) : Int)) (ls' := [some (.inr (.inr 96)), some (.inl (nN : Int)), some (.inl (kN : Int)), some (.inl (wN : Int)), some (.inl (i : Int)), some (.inl (c : Int)), some (.inl (x : Int)), some (.inl ((x + 1 : Nat) : Int))]) (q := 113) dX9_notes_110 rfl (by decide) (by omega) (by unfold am_ok; omega) rfl rfl ?_
                    refine rn_goto (t := 62) dX9_notes_113 rfl ?_
                    have hS0 : srch (nsP i c (wtab kN i)) (min kN i) 1 = srch (nsP i c (wtab kN i)) (min kN i + 1 - x) x := by
                      rcases hS with hS | hS
                      · exact hS.2
                      · omega
                    first | exact ihf (x + 1) x (by omega) (by omega) (by omega) (Or.inr ⟨h1, by omega, hS0.trans (srY (by omega) (by unfold nsP; rw [decide_eq_true (by omega), decide_eq_true (by omega)]; rfl))⟩) | exact ihf (x + 1) y (by omega) (by omega) (by omega) (Or.inl ⟨by omega, hS0.trans (srN (by omega) (by unfold nsP; intro z; rw [Bool.and_eq_true] at z; have z1 := of_decide_eq_true z.1; have z2 := of_decide_eq_true z.2; omega))⟩)
        refine rn_iload (x := (c : Int)) (q := 51) dX9_notes_49 rfl rfl ?_
        refine rn_bipush (q := 53) dX9_notes_51 ⟨by decide, by decide⟩ rfl ?_
        refine rn_cmpgt (t := 137) (q := 56) dX9_notes_53 rfl rfl (fun w53 => ?_) (fun w53 => ?_)
        · refine rn_iincN (x := (i : Int)) (z := ((i + 1 : Nat) : Int)) (ls' := [some (.inr (.inr 96)), some (.inl (nN : Int)), some (.inl (kN : Int)), some (.inl (wN : Int)), some (.inl ((i + 1 : Nat) : Int)), some (.inl (c : Int)), ly, lz]) (q := 140) dX9_notes_137 rfl (by decide) (by omega) (by unfold am_ok; omega) rfl rfl ?_
          refine rn_goto (t := 40) dX9_notes_140 rfl ?_
          refine ih hlt m _ _ _ hf (fun a b2 ha hb2 => ?_)
          rw [wtab_s]
          by_cases e : a = i
          · rw [if_pos e, e]; exact hB b2 (by omega)
          · rw [if_neg e]; exact hT a b2 (by omega) hb2
        · refine rn_iconst (q := 57) dX9_notes_56 (am_okd rfl) rfl ?_
          refine rn_istore (ls' := [some (.inr (.inr 96)), some (.inl (nN : Int)), some (.inl (kN : Int)), some (.inl (wN : Int)), some (.inl (i : Int)), some (.inl (c : Int)), some (.inl 0), lz]) (q := 59) dX9_notes_57 (by decide) rfl rfl ?_
          refine rn_iconst (q := 60) dX9_notes_59 (am_okd rfl) rfl ?_
          refine rn_istore (ls' := [some (.inr (.inr 96)), some (.inl (nN : Int)), some (.inl (kN : Int)), some (.inl (wN : Int)), some (.inl (i : Int)), some (.inl (c : Int)), some (.inl 0), some (.inl 1)]) (q := 62) dX9_notes_60 (by decide) rfl rfl ?_
          exact L3 (by omega) kN 1 0 (by omega) (by omega) (by omega) (Or.inl ⟨rfl, rfl⟩)
      refine rn_iload (x := (i : Int)) (q := 42) dX9_notes_40 rfl rfl ?_
      refine rn_iload_n (x := (nN : Int)) (q := 43) dX9_notes_42 rfl rfl ?_
      refine rn_cmpgt (t := 143) (q := 46) dX9_notes_43 rfl rfl (fun w43 => ?_) (fun w43 => ?_)
      · obtain rfl : i = nN + 1 := by omega
        exact LE m _ _ _ hf ((hT nN wN (by omega) (by omega)).trans (by rw [wtab_s, if_pos rfl]))
      · refine rn_iconst (q := 47) dX9_notes_46 (am_okd rfl) rfl ?_
        refine rn_istore (ls' := [some (.inr (.inr 96)), some (.inl (nN : Int)), some (.inl (kN : Int)), some (.inl (wN : Int)), some (.inl (i : Int)), some (.inl 0), ly, lz]) (q := 49) dX9_notes_47 (by decide) rfl rfl ?_
        exact L2 (by omega) 0 (by omega) m _ _ hf hT (fun b2 hb2 => absurd hb2 (Nat.not_lt_zero _))
    refine rn_aload_n (x := 95) (q := 1) dX9_notes_0 rfl rfl ?_
    refine rn_iconst (q := 2) dX9_notes_1 (am_okd rfl) rfl ?_
    refine rn_puti (a := 95) (q := 5) dX9_notes_2 fl_X9_107 rfl rfl rfl rfl ?_
    refine rn_iload_n (x := (nN : Int)) (q := 6) dX9_notes_5 rfl rfl ?_
    refine rn_iconst (q := 7) dX9_notes_6 (am_okd rfl) rfl ?_
    refine rn_bipush (q := 9) dX9_notes_7 ⟨by decide, by decide⟩ rfl ?_
    refine rn_callS (as := [.inl (nN : Int), .inl 0, .inl 60]) (rest := []) (q := 12) dX9_notes_9 ml_X9_116 sm_X9_in (by omega) rfl rfl (Nat.le_of_ble_eq_true rfl) rfl (s_in9 (d := d + 0) (nN : Int) 0 60) ?_
    intro r9 mem9 hq9
    obtain ⟨⟨rfl, hi9⟩ | ⟨rfl, hi9⟩, rfl⟩ := hq9
    · show am_Rn l G _ _ 12 [some (.inr (.inr 96)), some (.inl (nN : Int)), some (.inl (kN : Int)), some (.inl (wN : Int)), none, none, none, none] [.inl 1] (am_up mem 95 11 0) _
      refine rn_ifeq (t := 35) (q := 15) dX9_notes_12 rfl rfl (fun h => absurd h (by decide)) (fun w12 => ?_)
      refine rn_iload_n (x := (kN : Int)) (q := 16) dX9_notes_15 rfl rfl ?_
      refine rn_iconst (q := 17) dX9_notes_16 (am_okd rfl) rfl ?_
      refine rn_bipush (q := 19) dX9_notes_17 ⟨by decide, by decide⟩ rfl ?_
      refine rn_callS (as := [.inl (kN : Int), .inl 1, .inl 9]) (rest := []) (q := 22) dX9_notes_19 ml_X9_116 sm_X9_in (by omega) rfl rfl (Nat.le_of_ble_eq_true rfl) rfl (s_in9 (d := d + 0) (kN : Int) 1 9) ?_
      intro r19 mem19 hq19
      obtain ⟨⟨rfl, hi19⟩ | ⟨rfl, hi19⟩, rfl⟩ := hq19
      · show am_Rn l G _ _ 22 [some (.inr (.inr 96)), some (.inl (nN : Int)), some (.inl (kN : Int)), some (.inl (wN : Int)), none, none, none, none] [.inl 1] (am_up mem 95 11 0) _
        refine rn_ifeq (t := 35) (q := 25) dX9_notes_22 rfl rfl (fun h => absurd h (by decide)) (fun w22 => ?_)
        refine rn_iload_n (x := (wN : Int)) (q := 26) dX9_notes_25 rfl rfl ?_
        refine rn_iconst (q := 27) dX9_notes_26 (am_okd rfl) rfl ?_
        refine rn_bipush (q := 29) dX9_notes_27 ⟨by decide, by decide⟩ rfl ?_
        refine rn_callS (as := [.inl (wN : Int), .inl 0, .inl 9]) (rest := []) (q := 32) dX9_notes_29 ml_X9_116 sm_X9_in (by omega) rfl rfl (Nat.le_of_ble_eq_true rfl) rfl (s_in9 (d := d + 0) (wN : Int) 0 9) ?_
        intro r29 mem29 hq29
        obtain ⟨⟨rfl, hi29⟩ | ⟨rfl, hi29⟩, rfl⟩ := hq29
        · show am_Rn l G _ _ 32 [some (.inr (.inr 96)), some (.inl (nN : Int)), some (.inl (kN : Int)), some (.inl (wN : Int)), none, none, none, none] [.inl 1] (am_up mem 95 11 0) _
          refine rn_ifne (t := 37) (q := 35) dX9_notes_32 rfl rfl (fun w32 => ?_) (fun h => absurd h (by decide))
          refine rn_iconst (q := 38) dX9_notes_37 (am_okd rfl) rfl ?_
          refine rn_istore (ls' := [some (.inr (.inr 96)), some (.inl (nN : Int)), some (.inl (kN : Int)), some (.inl (wN : Int)), some (.inl 0), none, none, none]) (q := 40) dX9_notes_38 (by decide) rfl rfl ?_
          exact L1 0 (by omega) _ _ _ _ (frS.rf.up rfl) (fun a b2 ha _ => absurd ha (Nat.not_lt_zero _))
        · show am_Rn l G _ _ 32 [some (.inr (.inr 96)), some (.inl (nN : Int)), some (.inl (kN : Int)), some (.inl (wN : Int)), none, none, none, none] [.inl 0] (am_up mem 95 11 0) _
          refine rn_ifne (t := 37) (q := 35) dX9_notes_32 rfl rfl (fun h => absurd h (by decide)) (fun w32 => ?_)
          refine rn_iconst (q := 36) dX9_notes_35 (am_okd rfl) rfl ?_
          refine rn_iret dX9_notes_36 rfl ?_
          exfalso; omega
      · show am_Rn l G _ _ 22 [some (.inr (.inr 96)), some (.inl (nN : Int)), some (.inl (kN : Int)), some (.inl (wN : Int)), none, none, none, none] [.inl 0] (am_up mem 95 11 0) _
        refine rn_ifeq (t := 35) (q := 25) dX9_notes_22 rfl rfl (fun w22 => ?_) (fun h => absurd h (by decide))
        refine rn_iconst (q := 36) dX9_notes_35 (am_okd rfl) rfl ?_
        refine rn_iret dX9_notes_36 rfl ?_
        exfalso; omega
    · show am_Rn l G _ _ 12 [some (.inr (.inr 96)), some (.inl (nN : Int)), some (.inl (kN : Int)), some (.inl (wN : Int)), none, none, none, none] [.inl 0] (am_up mem 95 11 0) _
      refine rn_ifeq (t := 35) (q := 15) dX9_notes_12 rfl rfl (fun w12 => ?_) (fun h => absurd h (by decide))
      refine rn_iconst (q := 36) dX9_notes_35 (am_okd rfl) rfl ?_
      refine rn_iret dX9_notes_36 rfl ?_
      exfalso; omega
  · refine rn_aload_n (x := 95) (q := 1) dX9_notes_0 rfl rfl ?_
    refine rn_iconst (q := 2) dX9_notes_1 (am_okd rfl) rfl ?_
    refine rn_puti (a := 95) (q := 5) dX9_notes_2 fl_X9_107 rfl rfl rfl rfl ?_
    refine rn_iload_n (x := n) (q := 6) dX9_notes_5 rfl rfl ?_
    refine rn_iconst (q := 7) dX9_notes_6 (am_okd rfl) rfl ?_
    refine rn_bipush (q := 9) dX9_notes_7 ⟨by decide, by decide⟩ rfl ?_
    refine rn_callS (as := [.inl n, .inl 0, .inl 60]) (rest := []) (q := 12) dX9_notes_9 ml_X9_116 sm_X9_in (by omega) rfl rfl (Nat.le_of_ble_eq_true rfl) rfl (s_in9 (d := d + 0) n 0 60) ?_
    intro r9 mem9 hq9
    obtain ⟨⟨rfl, hi9⟩ | ⟨rfl, hi9⟩, rfl⟩ := hq9
    · show am_Rn l G _ _ 12 [some (.inr (.inr 96)), some (.inl n), some (.inl k), some (.inl w), none, none, none, none] [.inl 1] (am_up mem 95 11 0) _
      refine rn_ifeq (t := 35) (q := 15) dX9_notes_12 rfl rfl (fun h => absurd h (by decide)) (fun w12 => ?_)
      refine rn_iload_n (x := k) (q := 16) dX9_notes_15 rfl rfl ?_
      refine rn_iconst (q := 17) dX9_notes_16 (am_okd rfl) rfl ?_
      refine rn_bipush (q := 19) dX9_notes_17 ⟨by decide, by decide⟩ rfl ?_
      refine rn_callS (as := [.inl k, .inl 1, .inl 9]) (rest := []) (q := 22) dX9_notes_19 ml_X9_116 sm_X9_in (by omega) rfl rfl (Nat.le_of_ble_eq_true rfl) rfl (s_in9 (d := d + 0) k 1 9) ?_
      intro r19 mem19 hq19
      obtain ⟨⟨rfl, hi19⟩ | ⟨rfl, hi19⟩, rfl⟩ := hq19
      · show am_Rn l G _ _ 22 [some (.inr (.inr 96)), some (.inl n), some (.inl k), some (.inl w), none, none, none, none] [.inl 1] (am_up mem 95 11 0) _
        refine rn_ifeq (t := 35) (q := 25) dX9_notes_22 rfl rfl (fun h => absurd h (by decide)) (fun w22 => ?_)
        refine rn_iload_n (x := w) (q := 26) dX9_notes_25 rfl rfl ?_
        refine rn_iconst (q := 27) dX9_notes_26 (am_okd rfl) rfl ?_
        refine rn_bipush (q := 29) dX9_notes_27 ⟨by decide, by decide⟩ rfl ?_
        refine rn_callS (as := [.inl w, .inl 0, .inl 9]) (rest := []) (q := 32) dX9_notes_29 ml_X9_116 sm_X9_in (by omega) rfl rfl (Nat.le_of_ble_eq_true rfl) rfl (s_in9 (d := d + 0) w 0 9) ?_
        intro r29 mem29 hq29
        obtain ⟨⟨rfl, hi29⟩ | ⟨rfl, hi29⟩, rfl⟩ := hq29
        · show am_Rn l G _ _ 32 [some (.inr (.inr 96)), some (.inl n), some (.inl k), some (.inl w), none, none, none, none] [.inl 1] (am_up mem 95 11 0) _
          refine rn_ifne (t := 37) (q := 35) dX9_notes_32 rfl rfl (fun w32 => ?_) (fun h => absurd h (by decide))
          exfalso; omega
        · show am_Rn l G _ _ 32 [some (.inr (.inr 96)), some (.inl n), some (.inl k), some (.inl w), none, none, none, none] [.inl 0] (am_up mem 95 11 0) _
          refine rn_ifne (t := 37) (q := 35) dX9_notes_32 rfl rfl (fun h => absurd h (by decide)) (fun w32 => ?_)
          refine rn_iconst (q := 36) dX9_notes_35 (am_okd rfl) rfl ?_
          refine rn_iret dX9_notes_36 rfl ?_
          exact hQ _ _ ⟨fun _ => ⟨rfl, (frS.up (a := 95) (k := 11) (x := 0) frS.rf rfl), hR.kept (frS.rf.up rfl)⟩, fun h => absurd h hv⟩
      · show am_Rn l G _ _ 22 [some (.inr (.inr 96)), some (.inl n), some (.inl k), some (.inl w), none, none, none, none] [.inl 0] (am_up mem 95 11 0) _
        refine rn_ifeq (t := 35) (q := 25) dX9_notes_22 rfl rfl (fun w22 => ?_) (fun h => absurd h (by decide))
        refine rn_iconst (q := 36) dX9_notes_35 (am_okd rfl) rfl ?_
        refine rn_iret dX9_notes_36 rfl ?_
        exact hQ _ _ ⟨fun _ => ⟨rfl, (frS.up (a := 95) (k := 11) (x := 0) frS.rf rfl), hR.kept (frS.rf.up rfl)⟩, fun h => absurd h hv⟩
    · show am_Rn l G _ _ 12 [some (.inr (.inr 96)), some (.inl n), some (.inl k), some (.inl w), none, none, none, none] [.inl 0] (am_up mem 95 11 0) _
      refine rn_ifeq (t := 35) (q := 15) dX9_notes_12 rfl rfl (fun w12 => ?_) (fun h => absurd h (by decide))
      refine rn_iconst (q := 36) dX9_notes_35 (am_okd rfl) rfl ?_
      refine rn_iret dX9_notes_36 rfl ?_
      exact hQ _ _ ⟨fun _ => ⟨rfl, (frS.up (a := 95) (k := 11) (x := 0) frS.rf rfl), hR.kept (frS.rf.up rfl)⟩, fun h => absurd h hv⟩
end P66
