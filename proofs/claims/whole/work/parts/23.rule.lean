/-! what the reference's reader of rules answers, as a function of the signs T and the letters' values f: modes 0 thing, 1 product's loop, 2 product, 3 sum's loop, 4 sum, 5 held; (value, place, wrong) -/
def ltr (c : Int) : Int := if c = 118 then 0 else if c = 107 then 1 else if c = 104 then 2 else if c = 119 then 3 else if c = 112 then 4 else if c = 110 then 5 else if c = 99 then 6 else -1
def nm3 (T : List Nat) (a : Nat) : Int × Nat :=
  if 48 ≤ txAt T ((a + 1 : Nat) : Int) ∧ txAt T ((a + 1 : Nat) : Int) ≤ 57 then
    if 48 ≤ txAt T ((a + 2 : Nat) : Int) ∧ txAt T ((a + 2 : Nat) : Int) ≤ 57 then (10 * (10 * (txAt T (a : Int) - 48) + (txAt T ((a + 1 : Nat) : Int) - 48)) + (txAt T ((a + 2 : Nat) : Int) - 48), a + 3)
    else (10 * (txAt T (a : Int) - 48) + (txAt T ((a + 1 : Nat) : Int) - 48), a + 2)
  else (txAt T (a : Int) - 48, a + 1)
def cmpv (c x y : Int) : Int := if c = 60 then (if x < y then 1 else 0) else if c = 62 then (if y < x then 1 else 0) else (if x = y then 1 else 0)
def mulv (c x y : Int) : Int := if c = 42 then am_w32 (x * y) else if y = 0 then 0 else am_w32 (x.tdiv y)
def addv (c x y : Int) : Int := if c = 43 then am_w32 (x + y) else am_w32 (x - y)
def ps (T : List Nat) (f : Nat → Int) : Nat → Nat → Nat → Int → Nat → Int → Option (Int × Nat × Int)
  | 0, _, _, _, _, _ => none
  | n + 1, 0, dp, _, a, w =>
    if w = -1 ∧ txAt T (a : Int) = 45 then (ps T f n 0 dp 0 (a + 1) w).map (fun r => (am_w32 (-r.1), r.2))
    else if w ≠ -1 then some (0, a, w)
    else if txAt T (a : Int) = 40 ∧ dp < 4 then (ps T f n 5 (dp + 1) 0 (a + 1) w).map (fun r => if r.2.2 = -1 ∧ txAt T (r.2.1 : Int) = 41 then (r.1, r.2.1 + 1, r.2.2) else (r.1, r.2.1, if r.2.2 = -1 then (r.2.1 : Int) else r.2.2))
    else if 48 ≤ txAt T (a : Int) ∧ txAt T (a : Int) ≤ 57 then some ((nm3 T a).1, (nm3 T a).2, w)
    else if ltr (txAt T (a : Int)) = -1 then some (0, a, (a : Int))
    else some (f (ltr (txAt T (a : Int))).toNat, a + 1, w)
  | n + 1, 1, dp, v, a, w =>
    if w = -1 ∧ (txAt T (a : Int) = 42 ∨ txAt T (a : Int) = 47) then (ps T f n 0 dp 0 (a + 1) w).bind (fun r => ps T f n 1 dp (mulv (txAt T (a : Int)) v r.1) r.2.1 r.2.2)
    else some (v, a, w)
  | n + 1, 2, dp, _, a, w => (ps T f n 0 dp 0 a w).bind (fun r => ps T f n 1 dp r.1 r.2.1 r.2.2)
  | n + 1, 3, dp, v, a, w =>
    if w = -1 ∧ (txAt T (a : Int) = 43 ∨ txAt T (a : Int) = 45) then (ps T f n 2 dp 0 (a + 1) w).bind (fun r => ps T f n 3 dp (addv (txAt T (a : Int)) v r.1) r.2.1 r.2.2)
    else some (v, a, w)
  | n + 1, 4, dp, _, a, w => (ps T f n 2 dp 0 a w).bind (fun r => ps T f n 3 dp r.1 r.2.1 r.2.2)
  | n + 1, _, dp, _, a, w => (ps T f n 4 dp 0 a w).bind (fun r =>
      if r.2.2 = -1 ∧ (txAt T (r.2.1 : Int) = 60 ∨ txAt T (r.2.1 : Int) = 62 ∨ txAt T (r.2.1 : Int) = 61) then (ps T f n 4 dp 0 (r.2.1 + 1) r.2.2).map (fun s => (cmpv (txAt T (r.2.1 : Int)) r.1 s.1, s.2))
      else some r)
theorem txAt_lt {T : List Nat} {a : Nat} (h : txAt T (a : Int) ≠ -1) : a < T.length := by
  unfold txAt at h
  split at h
  · omega
  · exact absurd rfl h
theorem nm3_at {T : List Nat} {a : Nat} (h : a < T.length) : a < (nm3 T a).2 ∧ (nm3 T a).2 ≤ T.length := by
  unfold nm3
  split
  · rename_i h1
    have l1 := txAt_lt (T := T) (a := a + 1) (by omega)
    split
    · rename_i h2
      have l2 := txAt_lt (T := T) (a := a + 2) (by omega)
      exact ⟨by show a < a + 3; omega, by show a + 3 ≤ _; omega⟩
    · exact ⟨by show a < a + 2; omega, by show a + 2 ≤ _; omega⟩
  · exact ⟨by show a < a + 1; omega, by show a + 1 ≤ _; omega⟩
/-- the place goes on, and stays within the signs -/
theorem ps_at (T : List Nat) (f : Nat → Int) : ∀ (n mode dp : Nat) (v : Int) (a : Nat) (w : Int) (r : Int × Nat × Int), ps T f n mode dp v a w = some r → a ≤ T.length → a ≤ r.2.1 ∧ r.2.1 ≤ T.length := by
  intro n
  induction n with
  | zero => intro mode dp v a w r h; simp [ps] at h
  | succ n ih =>
    intro mode dp v a w r h ha
    match mode with
    | 0 =>
      rw [ps] at h
      split at h
      · rename_i hc
        have hl := txAt_lt (T := T) (a := a) (by rw [hc.2]; decide)
        obtain ⟨x, hx, rfl⟩ := Option.map_eq_some_iff.mp h
        have := ih 0 dp 0 (a + 1) w x hx (by omega)
        exact ⟨by show a ≤ x.2.1; omega, this.2⟩
      · split at h
        · cases h; exact ⟨Nat.le_refl _, ha⟩
        · split at h
          · rename_i hc
            have hl := txAt_lt (T := T) (a := a) (by rw [hc.1]; decide)
            obtain ⟨x, hx, rfl⟩ := Option.map_eq_some_iff.mp h
            have h2 := ih 5 (dp + 1) 0 (a + 1) w x hx (by omega)
            split
            · rename_i h3
              have h4 := txAt_lt (T := T) (a := x.2.1) (by rw [h3.2]; decide)
              exact ⟨by show a ≤ x.2.1 + 1; omega, by show x.2.1 + 1 ≤ _; omega⟩
            · exact ⟨by show a ≤ x.2.1; omega, h2.2⟩
          · split at h
            · rename_i hc
              cases h
              have := nm3_at (txAt_lt (T := T) (a := a) (by omega))
              exact ⟨Nat.le_of_lt this.1, this.2⟩
            · split at h
              · cases h; exact ⟨Nat.le_refl _, ha⟩
              · rename_i hc
                cases h
                have hl := txAt_lt (T := T) (a := a) (fun h => hc (by rw [h]; decide))
                exact ⟨by show a ≤ a + 1; omega, by show a + 1 ≤ _; omega⟩
    | 1 =>
      rw [ps] at h
      split at h
      · rename_i hc
        have hl := txAt_lt (T := T) (a := a) (by rcases hc.2 with h | h <;> rw [h] <;> decide)
        obtain ⟨x, hx, h⟩ := Option.bind_eq_some_iff.mp h
        have h2 := ih 0 dp 0 (a + 1) w x hx (by omega)
        have h3 := ih 1 dp _ _ _ r h h2.2
        omega
      · cases h; exact ⟨Nat.le_refl _, ha⟩
    | 2 =>
      rw [ps] at h
      obtain ⟨x, hx, h⟩ := Option.bind_eq_some_iff.mp h
      have h2 := ih 0 dp 0 a w x hx ha
      have h3 := ih 1 dp _ _ _ r h h2.2
      omega
    | 3 =>
      rw [ps] at h
      split at h
      · rename_i hc
        have hl := txAt_lt (T := T) (a := a) (by rcases hc.2 with h | h <;> rw [h] <;> decide)
        obtain ⟨x, hx, h⟩ := Option.bind_eq_some_iff.mp h
        have h2 := ih 2 dp 0 (a + 1) w x hx (by omega)
        have h3 := ih 3 dp _ _ _ r h h2.2
        omega
      · cases h; exact ⟨Nat.le_refl _, ha⟩
    | 4 =>
      rw [ps] at h
      obtain ⟨x, hx, h⟩ := Option.bind_eq_some_iff.mp h
      have h2 := ih 2 dp 0 a w x hx ha
      have h3 := ih 3 dp _ _ _ r h h2.2
      omega
    | k + 5 =>
      have e : ps T f (n + 1) (k + 5) dp v a w = (ps T f n 4 dp 0 a w).bind (fun r => if r.2.2 = -1 ∧ (txAt T (r.2.1 : Int) = 60 ∨ txAt T (r.2.1 : Int) = 62 ∨ txAt T (r.2.1 : Int) = 61) then (ps T f n 4 dp 0 (r.2.1 + 1) r.2.2).map (fun s => (cmpv (txAt T (r.2.1 : Int)) r.1 s.1, s.2)) else some r) := by rw [ps] <;> omega
      rw [e] at h
      obtain ⟨x, hx, h⟩ := Option.bind_eq_some_iff.mp h
      have h2 := ih 4 dp 0 a w x hx ha
      split at h
      · rename_i hc
        have hl := txAt_lt (T := T) (a := x.2.1) (by rcases hc.2 with h | h | h <;> rw [h] <;> decide)
        obtain ⟨y, hy, rfl⟩ := Option.map_eq_some_iff.mp h
        have h3 := ih 4 dp _ _ _ y hy (by omega)
        exact ⟨by show a ≤ y.2.1; omega, h3.2⟩
      · cases h; exact h2
/-! the reader's place and fault in the reference's cells -/
def aw (M : am_M) (a w : Int) : am_M := am_up (am_up M 95 15 a) 95 16 w
theorem aw_at {M : am_M} {a w b : Int} : am_up (aw M a w) 95 15 b = aw M b w := by
  funext x
  by_cases hx : x = 95
  · subst hx
    unfold aw
    funext j
    rw [am_up_at, am_up_at, am_up_at, am_up_at, am_up_at]
    by_cases h : j = 15
    · subst h; simp
    · simp [h]
  · unfold aw; rw [am_up_ne hx, am_up_ne hx, am_up_ne hx, am_up_ne hx, am_up_ne hx]
theorem aw_wr {M : am_M} {a w b : Int} : am_up (aw M a w) 95 16 b = aw M a b := by
  funext x
  by_cases hx : x = 95
  · subst hx
    unfold aw
    funext j
    by_cases h : j = 16
    · subst h; rw [am_up_self, am_up_self]
    · rw [am_up_neq h, am_up_neq h, am_up_neq h]
  · unfold aw; rw [am_up_ne hx, am_up_ne hx, am_up_ne hx, am_up_ne hx, am_up_ne hx]
theorem aw_eta (M : am_M) : aw M (M 95 15) (M 95 16) = M := by
  funext x
  by_cases hx : x = 95
  · subst hx
    unfold aw
    funext j
    rw [am_up_at, am_up_at]
    by_cases h : j = 16
    · subst h; simp
    · by_cases h2 : j = 15
      · subst h2; simp
      · simp [h, h2]
  · unfold aw; rw [am_up_ne hx, am_up_ne hx]
theorem aw_ne {M : am_M} {a w : Int} {b : Nat} (h : b ≠ 95) : aw M a w b = M b := by unfold aw; rw [am_up_ne h, am_up_ne h]
theorem aw_k {M : am_M} {a w : Int} {k : Nat} (h : k ≠ 15) (h2 : k ≠ 16) : aw M a w 95 k = M 95 k := by unfold aw; rw [am_up_neq h2, am_up_neq h]
/-- what is read: the signs T of the row rd -/
def m_rd (T : List Nat) (rd L : Nat) (M : am_M) : Prop := (∃ n, am_ks[rd]? = some (102, n) ∧ T.length ≤ n) ∧ M 95 12 = ((rd + 1 : Nat) : Int) ∧ M 95 13 = (L : Int) ∧ L ≤ 80 ∧ (∃ tp : Nat, M 95 14 = (tp : Int) ∧ tp ≤ 60 ∧ T.length = min L tp) ∧ (∀ i, T.getD i 0 < 256) ∧ ∀ i, i < T.length → M rd i = sb (T.getD i 0)
theorem sb_and : ∀ c, c < 256 → am_and (sb c) 255 = ((c : Nat) : Int) := by decide +kernel
theorem am_b95 {rd n kd : Nat} (h : am_ks[rd]? = some (kd, n)) (hk : kd ≠ 9) : rd ≠ 95 := by
  intro e
  rw [e] at h
  have h2 : am_ks[95]? = some (9, 51) := rfl
  rw [h2] at h
  simp at h
  exact hk h.1.symm
theorem if_z {p : Prop} [Decidable p] (h : (if p then (1 : Int) else 0) = 0) : ¬ p := fun hp => by rw [if_pos hp] at h; exact absurd h (by decide)
theorem if_nz {p : Prop} [Decidable p] (h : ¬ (if p then (1 : Int) else 0) = 0) : p := by
  by_cases hp : p
  · exact hp
  · exact absurd (if_neg hp) h
theorem if_b (p : Prop) [Decidable p] : (if p then (1 : Int) else 0) = 0 ∨ (if p then (1 : Int) else 0) = 1 := by
  by_cases hp : p
  · exact Or.inr (if_pos hp)
  · exact Or.inl (if_neg hp)
