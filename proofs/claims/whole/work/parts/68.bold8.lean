/-! bold -/
def chF (B : Nat → Nat) (p s c : Nat) : Nat := B (min 20 (c + s)) * p + B (c - s) * (10 - p)
def mxF (f : Nat → Nat) : Nat → Nat
  | 0 => f 0
  | s + 1 => max (mxF f s) (f (s + 1))
def amx (f : Nat → Nat) : Nat → Nat
  | 0 => 0
  | s + 1 => if f (amx f s) < f (s + 1) then s + 1 else amx f s
theorem mxF_ge {f : Nat → Nat} : ∀ n s, s ≤ n → f s ≤ mxF f n := by
  intro n
  induction n with
  | zero => intro s h; obtain rfl : s = 0 := by omega
            exact Nat.le_refl _
  | succ n ih =>
    intro s h
    rw [mxF]
    by_cases e : s = n + 1
    · subst e; omega
    · have := ih s (by omega); omega
theorem amx_ok {f : Nat → Nat} : ∀ n, amx f n ≤ n ∧ f (amx f n) = mxF f n ∧ ∀ s, s < amx f n → f s < mxF f n := by
  intro n
  induction n with
  | zero => exact ⟨Nat.le_refl _, rfl, fun s h => absurd h (Nat.not_lt_zero _)⟩
  | succ n ih =>
    obtain ⟨h1, h2, h3⟩ := ih
    rw [amx, mxF]
    split
    · refine ⟨Nat.le_refl _, by omega, fun s h => ?_⟩
      have := mxF_ge (f := f) n s (by omega)
      omega
    · refine ⟨by omega, by omega, fun s h => ?_⟩
      have := h3 s h
      omega
def bv (g p : Nat) : Nat → Nat → Nat
  | 0 => fun c => if g ≤ c then 1 else 0
  | t + 1 => fun c => mxF (fun s => chF (bv g p t) p s c) c
theorem bv_s {g p t c : Nat} : bv g p (t + 1) c = mxF (fun s => chF (bv g p t) p s c) c := rfl
theorem chF_le {B : Nat → Nat} {p s c M : Nat} (hp : p ≤ 10) (hB : ∀ c, B c ≤ M) : chF B p s c ≤ M * 10 := by
  have h1 : B (min 20 (c + s)) * p ≤ M * p := Nat.mul_le_mul_right _ (hB _)
  have h2 : B (c - s) * (10 - p) ≤ M * (10 - p) := Nat.mul_le_mul_right _ (hB _)
  have h3 : M * p + M * (10 - p) = M * 10 := by rw [← Nat.mul_add]; congr 1; omega
  unfold chF
  omega
theorem mxF_le {f : Nat → Nat} {M : Nat} (h : ∀ s, f s ≤ M) : ∀ n, mxF f n ≤ M := by
  intro n
  induction n with
  | zero => exact h 0
  | succ n ih => rw [mxF]; have := h (n + 1); omega
theorem bv_le {g p : Nat} (hp : p ≤ 10) : ∀ t c, bv g p t c ≤ 10 ^ t := by
  intro t
  induction t with
  | zero => intro c; show (if g ≤ c then 1 else 0) ≤ 1; split <;> omega
  | succ t ih => intro c; rw [bv_s, Nat.pow_succ]; exact mxF_le (fun s => chF_le hp ih) c
theorem bv8 {g p t : Nat} (hp : p ≤ 10) (ht : t ≤ 8) (c : Nat) : bv g p t c ≤ 100000000 := Nat.le_trans (bv_le hp t c) (Nat.le_trans (Nat.pow_le_pow_right (by decide) ht) (by decide))
theorem bv7 {g p t : Nat} (hp : p ≤ 10) (ht : t ≤ 7) (c : Nat) : bv g p t c ≤ 10000000 := Nat.le_trans (bv_le hp t c) (Nat.le_trans (Nat.pow_le_pow_right (by decide) ht) (by decide))
theorem mul10 {x p : Nat} (hx : x ≤ 10000000) (hp : p ≤ 10) : ∃ y : Nat, y ≤ 100000000 ∧ y = x * p ∧ (x : Int) * (p : Int) = (y : Int) ∧ (p : Int) * (x : Int) = (y : Int) := ⟨x * p, by have := Nat.mul_le_mul hx hp; omega, rfl, by rw [Int.natCast_mul], by rw [Int.natCast_mul, Int.mul_comm]⟩
def boldR (g p n m : Nat) : List Int := frc (bv g p n m) (10 ^ n) ++ [if n = 0 then -1 else (amx (fun s => chF (bv g p (n - 1)) p s m) m : Int)]
section P68
variable {l : Launch} {G : am_G} {d : Nat} {r : Nat} {X : List Nat} {C : List Int} {sn : Nat} {sg : Nat → Nat} {h : hrs} {e : est} {NB : Nat} {mem m : am_M}
theorem s_putN (v a b : Int) (n : Nat) (hn : max a (min b v) = (n : Int)) : am_Sm l G yX8_put mt_X8_put d [.inl v, .inl a, .inl b] mem (am_rr (some (.inl (n : Int))) mem) := by rw [← hn]; exact s_put v a b
theorem c_chanceBy {B : Nat → Nat} (hB : ∀ c, c ≤ 20 → mem 81 c = (B c : Int)) (hM : ∀ c, B c ≤ 10000000) (s c p : Nat) (hs : s ≤ c) (hc : c ≤ 20) (hp : p ≤ 10) : am_Sm l G yX8_chanceBy mt_X8_chanceBy (d + 1) [.inr (.inr 1), .inl (s : Int), .inl (c : Int), .inl (p : Int)] mem (am_rr (some (.inr (.inl (chF B p s c : Int)))) mem) := by
  refine am_enterQ (ls := [some (.inr (.inr 1)), some (.inl (s : Int)), some (.inl (c : Int)), some (.inl (p : Int)), none, none]) (by decide) rfl (Nat.le_of_ble_eq_true rfl) rfl (fun hok Q hQ => ?_)
  obtain ⟨x1, a1, a2, a3, -⟩ := mul10 (hM (min 20 (c + s))) hp
  obtain ⟨x2, b1, b2, b3, -⟩ := mul10 (hM (c - s)) (show 10 - p ≤ 10 by omega)
  refine rn_iload_n (x := (c : Int)) (q := 1) dX8_chanceBy_0 rfl rfl ?_
  refine rn_iload_n (x := (s : Int)) (q := 2) dX8_chanceBy_1 rfl rfl ?_
  refine rn_iaddN (z := ((c + s : Nat) : Int)) (q := 3) dX8_chanceBy_2 (by omega) (by unfold am_ok; omega) rfl ?_
  refine rn_iconst (q := 4) dX8_chanceBy_3 (am_okd rfl) rfl ?_
  refine rn_bipush (q := 6) dX8_chanceBy_4 ⟨by decide, by decide⟩ rfl ?_
  refine rn_callS (as := [.inl ((c + s : Nat) : Int), .inl 0, .inl 20]) (rest := []) (q := 9) dX8_chanceBy_6 ml_X8_202 sm_X8_put (by omega) rfl rfl (Nat.le_of_ble_eq_true rfl) rfl (s_putN (d := d + 0) ((c + s : Nat) : Int) 0 20 (min 20 (c + s)) (by omega)) ?_
  intro r6 mem6 hq6
  obtain ⟨rfl, rfl⟩ := hq6
  show am_Rn l G _ _ 9 [some (.inr (.inr 1)), some (.inl (s : Int)), some (.inl (c : Int)), some (.inl (p : Int)), none, none] [.inl ((min 20 (c + s) : Nat) : Int)] mem _
  refine rn_istore (ls' := [some (.inr (.inr 1)), some (.inl (s : Int)), some (.inl (c : Int)), some (.inl (p : Int)), some (.inl ((min 20 (c + s) : Nat) : Int)), none]) (q := 11) dX8_chanceBy_9 (by decide) rfl rfl ?_
  refine rn_iload_n (x := (c : Int)) (q := 12) dX8_chanceBy_11 rfl rfl ?_
  refine rn_iload_n (x := (s : Int)) (q := 13) dX8_chanceBy_12 rfl rfl ?_
  refine rn_isubN (z := ((c : Int) - (s : Int))) (q := 14) dX8_chanceBy_13 rfl (by unfold am_ok; omega) rfl ?_
  refine rn_iconst (q := 15) dX8_chanceBy_14 (am_okd rfl) rfl ?_
  refine rn_bipush (q := 17) dX8_chanceBy_15 ⟨by decide, by decide⟩ rfl ?_
  refine rn_callS (as := [.inl ((c : Int) - (s : Int)), .inl 0, .inl 20]) (rest := []) (q := 20) dX8_chanceBy_17 ml_X8_202 sm_X8_put (by omega) rfl rfl (Nat.le_of_ble_eq_true rfl) rfl (s_putN (d := d + 0) ((c : Int) - (s : Int)) 0 20 (c - s) (by omega)) ?_
  intro r17 mem17 hq17
  obtain ⟨rfl, rfl⟩ := hq17
  show am_Rn l G _ _ 20 [some (.inr (.inr 1)), some (.inl (s : Int)), some (.inl (c : Int)), some (.inl (p : Int)), some (.inl ((min 20 (c + s) : Nat) : Int)), none] [.inl ((c - s : Nat) : Int)] mem _
  refine rn_istore (ls' := [some (.inr (.inr 1)), some (.inl (s : Int)), some (.inl (c : Int)), some (.inl (p : Int)), some (.inl ((min 20 (c + s) : Nat) : Int)), some (.inl ((c - s : Nat) : Int))]) (q := 22) dX8_chanceBy_20 (by decide) rfl rfl ?_
  refine rn_aload_n (x := 0) (q := 23) dX8_chanceBy_22 rfl rfl ?_
  refine rn_get (a := 0) (v := .inr (.inr 82)) (q := 26) dX8_chanceBy_23 fl_X8_87 rfl rfl rfl ?_
  refine rn_iload (x := ((min 20 (c + s) : Nat) : Int)) (q := 28) dX8_chanceBy_26 rfl rfl ?_
  refine rn_laldV (a := 81) (v := (B (min 20 (c + s)) : Int)) (q := 29) dX8_chanceBy_28 rfl (by omega) (by omega) (hB _ (by omega)) rfl ?_
  refine rn_iload_n (x := (p : Int)) (q := 30) dX8_chanceBy_29 rfl rfl ?_
  refine rn_i2l (q := 31) dX8_chanceBy_30 rfl ?_
  refine rn_lmulN (z := (x1 : Int)) (q := 32) dX8_chanceBy_31 a3 (by rw [a3]; unfold am_okl; omega) rfl ?_
  refine rn_aload_n (x := 0) (q := 33) dX8_chanceBy_32 rfl rfl ?_
  refine rn_get (a := 0) (v := .inr (.inr 82)) (q := 36) dX8_chanceBy_33 fl_X8_87 rfl rfl rfl ?_
  refine rn_iload (x := ((c - s : Nat) : Int)) (q := 38) dX8_chanceBy_36 rfl rfl ?_
  refine rn_laldV (a := 81) (v := (B (c - s) : Int)) (q := 39) dX8_chanceBy_38 rfl (by omega) (by omega) (hB _ (by omega)) rfl ?_
  refine rn_bipush (q := 41) dX8_chanceBy_39 ⟨by decide, by decide⟩ rfl ?_
  refine rn_iload_n (x := (p : Int)) (q := 42) dX8_chanceBy_41 rfl rfl ?_
  refine rn_isubN (z := ((10 - p : Nat) : Int)) (q := 43) dX8_chanceBy_42 (by omega) (by unfold am_ok; omega) rfl ?_
  refine rn_i2l (q := 44) dX8_chanceBy_43 rfl ?_
  refine rn_lmulN (z := (x2 : Int)) (q := 45) dX8_chanceBy_44 b3 (by rw [b3]; unfold am_okl; omega) rfl ?_
  refine rn_laddN (z := ((x1 + x2 : Nat) : Int)) (q := 46) dX8_chanceBy_45 (by omega) (by unfold am_okl; omega) rfl ?_
  refine rn_lret dX8_chanceBy_46 rfl ?_
  exact hQ _ _ ⟨by rw [a2, b2]; rfl, rfl⟩
theorem c_bestStake {B : Nat → Nat} (hB : ∀ c, c ≤ 20 → mem 81 c = (B c : Int)) (hM : ∀ c, B c ≤ 10000000) (c p : Nat) (hc : c ≤ 20) (hp : p ≤ 10) : am_Sm l G yX8_bestStake mt_X8_bestStake (d + 2) [.inr (.inr 1), .inl (c : Int), .inl (p : Int)] mem (am_rr (some (.inl (amx (fun s => chF B p s c) c : Int))) mem) := by
  refine am_enterQ (ls := [some (.inr (.inr 1)), some (.inl (c : Int)), some (.inl (p : Int)), none, none]) (by decide) rfl (Nat.le_of_ble_eq_true rfl) rfl (fun hok Q hQ => ?_)
  have L : ∀ i : Nat, i ≤ c + 1 → 1 ≤ i → ∀ s : Nat, s = amx (fun s => chF B p s c) (i - 1) → am_Rn l G mt_X8_bestStake (d + 2) 5 [some (.inr (.inr 1)), some (.inl (c : Int)), some (.inl (p : Int)), some (.inl (s : Int)), some (.inl (i : Int))] [] mem Q := by
    refine am_dn (c + 1) (fun i hi ih h1 s hs => ?_)
    have o := (amx_ok (f := fun s => chF B p s c) (i - 1)).1
    rw [← hs] at o
    refine rn_iload (x := (i : Int)) (q := 7) dX8_bestStake_5 rfl rfl ?_
    refine rn_iload_n (x := (c : Int)) (q := 8) dX8_bestStake_7 rfl rfl ?_
    refine rn_cmpgt (t := 39) (q := 11) dX8_bestStake_8 rfl rfl (fun w8 => ?_) (fun w8 => ?_)
    · refine rn_iload_n (x := (s : Int)) (q := 40) dX8_bestStake_39 rfl rfl ?_
      refine rn_iret dX8_bestStake_40 rfl ?_
      obtain rfl : i = c + 1 := by omega
      exact hQ _ _ ⟨by rw [hs]; rfl, rfl⟩
    · refine rn_aload_n (x := 0) (q := 12) dX8_bestStake_11 rfl rfl ?_
      refine rn_iload (x := (i : Int)) (q := 14) dX8_bestStake_12 rfl rfl ?_
      refine rn_iload_n (x := (c : Int)) (q := 15) dX8_bestStake_14 rfl rfl ?_
      refine rn_iload_n (x := (p : Int)) (q := 16) dX8_bestStake_15 rfl rfl ?_
      refine rn_callV (b := 0) (as := [.inl (i : Int), .inl (c : Int), .inl (p : Int)]) (rest := []) (q := 19) dX8_bestStake_16 ml_X8_357 sm_X8_chanceBy rfl rfl (by decide) (by omega) rfl rfl (Nat.le_of_ble_eq_true rfl) rfl (c_chanceBy (d := d + 0) hB hM i c p (by omega) (by omega) (by omega)) ?_
      intro r16 mem16 hq16
      obtain ⟨rfl, rfl⟩ := hq16
      show am_Rn l G _ _ 19 [some (.inr (.inr 1)), some (.inl (c : Int)), some (.inl (p : Int)), some (.inl (s : Int)), some (.inl (i : Int))] [.inr (.inl (chF B p i c : Int))] mem _
      refine rn_aload_n (x := 0) (q := 20) dX8_bestStake_19 rfl rfl ?_
      refine rn_iload_n (x := (s : Int)) (q := 21) dX8_bestStake_20 rfl rfl ?_
      refine rn_iload_n (x := (c : Int)) (q := 22) dX8_bestStake_21 rfl rfl ?_
      refine rn_iload_n (x := (p : Int)) (q := 23) dX8_bestStake_22 rfl rfl ?_
      refine rn_callV (b := 0) (as := [.inl (s : Int), .inl (c : Int), .inl (p : Int)]) (rest := [.inr (.inl (chF B p i c : Int))]) (q := 26) dX8_bestStake_23 ml_X8_357 sm_X8_chanceBy rfl rfl (by decide) (by omega) rfl rfl (Nat.le_of_ble_eq_true rfl) rfl (c_chanceBy (d := d + 0) hB hM s c p (by omega) (by omega) (by omega)) ?_
      intro r23 mem23 hq23
      obtain ⟨rfl, rfl⟩ := hq23
      show am_Rn l G _ _ 26 [some (.inr (.inr 1)), some (.inl (c : Int)), some (.inl (p : Int)), some (.inl (s : Int)), some (.inl (i : Int))] [.inr (.inl (chF B p s c : Int)), .inr (.inl (chF B p i c : Int))] mem _
      refine rn_lcmp (q := 27) dX8_bestStake_26 rfl ?_
      refine rn_ifle (t := 33) (q := 30) dX8_bestStake_27 rfl rfl (fun w27 => ?_) (fun w27 => ?_)
      · rw [am_cmpD] at w27
        refine rn_iincN (x := (i : Int)) (z := ((i + 1 : Nat) : Int)) (ls' := [some (.inr (.inr 1)), some (.inl (c : Int)), some (.inl (p : Int)), some (.inl (s : Int)), some (.inl ((i + 1 : Nat) : Int))]) (q := 36) dX8_bestStake_33 rfl (by decide) (by omega) (by unfold am_ok; omega) rfl rfl ?_
        refine rn_goto (t := 5) dX8_bestStake_36 rfl ?_
        obtain ⟨j, rfl⟩ : ∃ j, i = j + 1 := ⟨i - 1, by omega⟩
        rw [Nat.add_sub_cancel] at hs
        first | exact ih (by omega) (by omega) _ (by rw [Nat.add_sub_cancel, amx, ← hs, if_pos (by omega)]) | exact ih (by omega) (by omega) _ (by rw [Nat.add_sub_cancel, amx, ← hs, if_neg (by omega)])
      · rw [am_cmpC] at w27
        refine rn_iload (x := (i : Int)) (q := 32) dX8_bestStake_30 rfl rfl ?_
        refine rn_istore_n (ls' := [some (.inr (.inr 1)), some (.inl (c : Int)), some (.inl (p : Int)), some (.inl (i : Int)), some (.inl (i : Int))]) (q := 33) dX8_bestStake_32 (by decide) rfl rfl ?_
        refine rn_iincN (x := (i : Int)) (z := ((i + 1 : Nat) : Int)) (ls' := [some (.inr (.inr 1)), some (.inl (c : Int)), some (.inl (p : Int)), some (.inl (i : Int)), some (.inl ((i + 1 : Nat) : Int))]) (q := 36) dX8_bestStake_33 rfl (by decide) (by omega) (by unfold am_ok; omega) rfl rfl ?_
        refine rn_goto (t := 5) dX8_bestStake_36 rfl ?_
        obtain ⟨j, rfl⟩ : ∃ j, i = j + 1 := ⟨i - 1, by omega⟩
        rw [Nat.add_sub_cancel] at hs
        first | exact ih (by omega) (by omega) _ (by rw [Nat.add_sub_cancel, amx, ← hs, if_pos (by omega)]) | exact ih (by omega) (by omega) _ (by rw [Nat.add_sub_cancel, amx, ← hs, if_neg (by omega)])
  refine rn_iconst (q := 1) dX8_bestStake_0 (am_okd rfl) rfl ?_
  refine rn_istore_n (ls' := [some (.inr (.inr 1)), some (.inl (c : Int)), some (.inl (p : Int)), some (.inl 0), none]) (q := 2) dX8_bestStake_1 (by decide) rfl rfl ?_
  refine rn_iconst (q := 3) dX8_bestStake_2 (am_okd rfl) rfl ?_
  refine rn_istore (ls' := [some (.inr (.inr 1)), some (.inl (c : Int)), some (.inl (p : Int)), some (.inl 0), some (.inl 1)]) (q := 5) dX8_bestStake_3 (by decide) rfl rfl ?_
  exact L 1 (by omega) (by omega) 0 rfl
theorem c_bold {R : List Int} (hR : c_row R mem) (m g n p : Int) : am_Sm l G yX8_bold mt_X8_bold (d + 3) [.inr (.inr 1), .inl m, .inl g, .inl n, .inl p] mem (fun q m1 => (¬ (0 ≤ m ∧ m ≤ 20 ∧ 1 ≤ g ∧ g ≤ 20 ∧ 0 ≤ n ∧ n ≤ 8 ∧ 0 ≤ p ∧ p ≤ 10) → QC (-1) R mem q m1) ∧ (0 ≤ m ∧ m ≤ 20 ∧ 1 ≤ g ∧ g ≤ 20 ∧ 0 ≤ n ∧ n ≤ 8 ∧ 0 ≤ p ∧ p ≤ 10 → QC 0 (boldR g.toNat p.toNat n.toNat m.toNat) mem q m1)) := by
  refine am_enterQ (ls := [some (.inr (.inr 1)), some (.inl m), some (.inl g), some (.inl n), some (.inl p), none, none, none, none]) (by decide) rfl (Nat.le_of_ble_eq_true rfl) rfl (fun hok Q hQ => ?_)
  by_cases hv : 0 ≤ m ∧ m ≤ 20 ∧ 1 ≤ g ∧ g ≤ 20 ∧ 0 ≤ n ∧ n ≤ 8 ∧ 0 ≤ p ∧ p ≤ 10
  · obtain ⟨mN, rfl⟩ : ∃ x : Nat, m = (x : Int) := ⟨m.toNat, by omega⟩
    obtain ⟨gN, rfl⟩ : ∃ x : Nat, g = (x : Int) := ⟨g.toNat, by omega⟩
    obtain ⟨nN, rfl⟩ : ∃ x : Nat, n = (x : Int) := ⟨n.toNat, by omega⟩
    obtain ⟨pN, rfl⟩ : ∃ x : Nat, p = (x : Int) := ⟨p.toNat, by omega⟩
    have hp10 := p10_le (show nN ≤ 10 by omega)
    have hp0 : 0 < 10 ^ nN := Nat.pow_pos (by decide)
    have hb8 := bv8 (g := gN) (show pN ≤ 10 by omega) (show nN ≤ 8 by omega) mN
    have LZ : ∀ (st : Int) (m0 : am_M), st = (if nN = 0 then -1 else (amx (fun s => chF (bv gN pN (nN - 1)) pN s mN) mN : Int)) → -1 ≤ st ∧ st ≤ 20 → frS s8r mem m0 → am_Rn l G mt_X8_bold (d + 3) 201 [some (.inr (.inr 1)), some (.inl (mN : Int)), some (.inl (gN : Int)), some (.inl (nN : Int)), some (.inl (pN : Int)), some (.inl 1), some (.inl st), some (.inr (.inl (bv gN pN nN mN : Int))), none] [] m0 Q := by
      intro st m0 hst hst2 hf
      refine rn_aload_n (x := 0) (q := 202) dX8_bold_201 rfl rfl ?_
      refine rn_get (a := 0) (v := .inr (.inr 4)) (q := 205) dX8_bold_202 fl_X8_19 rfl rfl rfl ?_
      refine rn_callV (b := 3) (as := []) (rest := []) (q := 208) dX8_bold_205 ml_X8_328 sm_X3_clear rfl rfl (by decide) (by omega) rfl rfl (Nat.le_of_ble_eq_true rfl) rfl (s_Rclear (d := d + 2) ) ?_
      intro r205 mem205 hq205
      obtain ⟨rfl, rfl⟩ := hq205
      show am_Rn l G _ _ 208 [some (.inr (.inr 1)), some (.inl (mN : Int)), some (.inl (gN : Int)), some (.inl (nN : Int)), some (.inl (pN : Int)), some (.inl 1), some (.inl st), some (.inr (.inl (bv gN pN nN mN : Int))), none] [] (am_up m0 3 1 0) _
      refine rn_aload_n (x := 0) (q := 209) dX8_bold_208 rfl rfl ?_
      refine rn_lload (x := (bv gN pN nN mN : Int)) (q := 211) dX8_bold_209 rfl rfl ?_
      refine rn_iload_n (x := (nN : Int)) (q := 212) dX8_bold_211 rfl rfl ?_
      refine rn_callS (as := [.inl (nN : Int)]) (rest := [.inr (.inl (bv gN pN nN mN : Int)), .inr (.inr 1)]) (q := 215) dX8_bold_212 ml_X8_367 sm_X8_tenToThe (by omega) rfl rfl (Nat.le_of_ble_eq_true rfl) rfl (s_ten8 (d := d + 2) nN (by omega)) ?_
      intro r212 mem212 hq212
      obtain ⟨rfl, rfl⟩ := hq212
      show am_Rn l G _ _ 215 [some (.inr (.inr 1)), some (.inl (mN : Int)), some (.inl (gN : Int)), some (.inl (nN : Int)), some (.inl (pN : Int)), some (.inl 1), some (.inl st), some (.inr (.inl (bv gN pN nN mN : Int))), none] [.inr (.inl ((10 ^ nN : Nat) : Int)), .inr (.inl (bv gN pN nN mN : Int)), .inr (.inr 1)] (am_up m0 3 1 0) _
      refine rn_callV (b := 0) (as := [.inr (.inl (bv gN pN nN mN : Int)), .inr (.inl ((10 ^ nN : Nat) : Int))]) (rest := []) (q := 218) dX8_bold_215 ml_X8_371 sm_X8_tellFraction rfl rfl (by decide) (by omega) rfl rfl (Nat.le_of_ble_eq_true rfl) rfl (s_tellFr (d := d + 1) (R := []) c_row0 (by decide) (bv gN pN nN mN) (10 ^ nN) hp0 hp10 (by omega)) ?_
      intro r215 mem215 hq215
      obtain ⟨rfl, hr215, hf215, -⟩ := hq215
      show am_Rn l G _ _ 218 [some (.inr (.inr 1)), some (.inl (mN : Int)), some (.inl (gN : Int)), some (.inl (nN : Int)), some (.inl (pN : Int)), some (.inl 1), some (.inl st), some (.inr (.inl (bv gN pN nN mN : Int))), none] [] mem215 _
      refine rn_aload_n (x := 0) (q := 219) dX8_bold_218 rfl rfl ?_
      refine rn_get (a := 0) (v := .inr (.inr 4)) (q := 222) dX8_bold_219 fl_X8_19 rfl rfl rfl ?_
      refine rn_iload (x := st) (q := 224) dX8_bold_222 rfl rfl ?_
      refine rn_i2l (q := 225) dX8_bold_224 rfl ?_
      refine rn_callV (b := 3) (as := [.inr (.inl st)]) (rest := []) (q := 228) dX8_bold_225 ml_X8_334 sm_X3_add rfl rfl (by decide) (by omega) rfl rfl (Nat.le_of_ble_eq_true rfl) rfl (c_add (d := d + 2) hr215 (show (2 : Nat) < 9 by decide) st) ?_
      intro r225 mem225 hq225
      obtain ⟨rfl, hr225, hf225⟩ := hq225
      show am_Rn l G _ _ 228 [some (.inr (.inr 1)), some (.inl (mN : Int)), some (.inl (gN : Int)), some (.inl (nN : Int)), some (.inl (pN : Int)), some (.inl 1), some (.inl st), some (.inr (.inl (bv gN pN nN mN : Int))), none] [] mem225 _
      refine rn_iconst (q := 229) dX8_bold_228 (am_okd rfl) rfl ?_
      refine rn_iret dX8_bold_229 rfl ?_
      exact hQ _ _ ⟨fun h => absurd hv h, fun _ => ⟨rfl, (((frS.up (a := 3) (k := 1) (x := 0) hf rfl).tr hf215).tr hf225), by show c_row (frc (bv gN pN nN mN) (10 ^ nN) ++ [if nN = 0 then -1 else (amx (fun s => chF (bv gN pN (nN - 1)) pN s mN) mN : Int)]) _; rw [← hst]; exact hr225⟩⟩
    have LY : ∀ (m0 : am_M) (i : Nat) (lx : Option am_V), frS s8r mem m0 → (∀ c, c ≤ 20 → m0 81 c = (bv gN pN (nN - 1) c : Int)) → am_Rn l G mt_X8_bold (d + 3) 160 [some (.inr (.inr 1)), some (.inl (mN : Int)), some (.inl (gN : Int)), some (.inl (nN : Int)), some (.inl (pN : Int)), some (.inl 1), some (.inl (i : Int)), lx, none] [] m0 Q := by
      intro m0 i lx hf hB
      by_cases h0 : nN = 0
      · subst h0
        refine rn_iload_n (x := ((0 : Nat) : Int)) (q := 161) dX8_bold_160 rfl rfl ?_
        refine rn_ifne (t := 168) (q := 164) dX8_bold_161 rfl rfl (fun h => absurd h (by omega)) (fun w161 => ?_)
        refine rn_iconst (q := 165) dX8_bold_164 (am_okd rfl) rfl ?_
        refine rn_goto (t := 175) dX8_bold_165 rfl ?_
        refine rn_istore (ls' := [some (.inr (.inr 1)), some (.inl (mN : Int)), some (.inl (gN : Int)), some (.inl ((0 : Nat) : Int)), some (.inl (pN : Int)), some (.inl 1), some (.inl (-1)), lx, none]) (q := 177) dX8_bold_175 (by decide) rfl rfl ?_
        refine rn_iload_n (x := ((0 : Nat) : Int)) (q := 178) dX8_bold_177 rfl rfl ?_
        refine rn_ifne (t := 190) (q := 181) dX8_bold_178 rfl rfl (fun h => absurd h (by omega)) (fun w178 => ?_)
        refine rn_aload_n (x := 0) (q := 182) dX8_bold_181 rfl rfl ?_
        refine rn_get (a := 0) (v := .inr (.inr 82)) (q := 185) dX8_bold_182 fl_X8_87 rfl rfl rfl ?_
        refine rn_iload_n (x := (mN : Int)) (q := 186) dX8_bold_185 rfl rfl ?_
        refine rn_laldV (a := 81) (v := (bv gN pN 0 mN : Int)) (q := 187) dX8_bold_186 rfl (by omega) (by omega) (hB mN (by omega)) rfl ?_
        refine rn_goto (t := 199) dX8_bold_187 rfl ?_
        refine rn_lstore (ls' := [some (.inr (.inr 1)), some (.inl (mN : Int)), some (.inl (gN : Int)), some (.inl ((0 : Nat) : Int)), some (.inl (pN : Int)), some (.inl 1), some (.inl (-1)), some (.inr (.inl (bv gN pN 0 mN : Int))), none]) (q := 201) dX8_bold_199 (by decide) rfl rfl ?_
        exact LZ (-1) m0 rfl (by omega) hf
      · have hb7 := bv7 (g := gN) (p := pN) (t := nN - 1) (by omega) (by omega)
        have oa := (amx_ok (f := fun s => chF (bv gN pN (nN - 1)) pN s mN) mN)
        have eb : chF (bv gN pN (nN - 1)) pN (amx (fun s => chF (bv gN pN (nN - 1)) pN s mN) mN) mN = bv gN pN nN mN := by
          obtain ⟨k, hk⟩ : ∃ k, nN = k + 1 := ⟨nN - 1, by omega⟩
          have e3 := oa.2.1
          rw [hk, Nat.add_sub_cancel] at e3
          rw [hk, Nat.add_sub_cancel, bv_s]
          exact e3
        refine rn_iload_n (x := (nN : Int)) (q := 161) dX8_bold_160 rfl rfl ?_
        refine rn_ifne (t := 168) (q := 164) dX8_bold_161 rfl rfl (fun w161 => ?_) (fun h => absurd h (by omega))
        refine rn_aload_n (x := 0) (q := 169) dX8_bold_168 rfl rfl ?_
        refine rn_iload_n (x := (mN : Int)) (q := 170) dX8_bold_169 rfl rfl ?_
        refine rn_iload (x := (pN : Int)) (q := 172) dX8_bold_170 rfl rfl ?_
        refine rn_callV (b := 0) (as := [.inl (mN : Int), .inl (pN : Int)]) (rest := []) (q := 175) dX8_bold_172 ml_X8_354 sm_X8_bestStake rfl rfl (by decide) (by omega) rfl rfl (Nat.le_of_ble_eq_true rfl) rfl (c_bestStake (d := d + 0) hB hb7 mN pN (by omega) (by omega)) ?_
        intro r172 mem172 hq172
        obtain ⟨rfl, rfl⟩ := hq172
        show am_Rn l G _ _ 175 [some (.inr (.inr 1)), some (.inl (mN : Int)), some (.inl (gN : Int)), some (.inl (nN : Int)), some (.inl (pN : Int)), some (.inl 1), some (.inl (i : Int)), lx, none] [.inl (amx (fun s => chF (bv gN pN (nN - 1)) pN s mN) mN : Int)] m0 _
        refine rn_istore (ls' := [some (.inr (.inr 1)), some (.inl (mN : Int)), some (.inl (gN : Int)), some (.inl (nN : Int)), some (.inl (pN : Int)), some (.inl 1), some (.inl (amx (fun s => chF (bv gN pN (nN - 1)) pN s mN) mN : Int)), lx, none]) (q := 177) dX8_bold_175 (by decide) rfl rfl ?_
        refine rn_iload_n (x := (nN : Int)) (q := 178) dX8_bold_177 rfl rfl ?_
        refine rn_ifne (t := 190) (q := 181) dX8_bold_178 rfl rfl (fun w178 => ?_) (fun h => absurd h (by omega))
        refine rn_aload_n (x := 0) (q := 191) dX8_bold_190 rfl rfl ?_
        refine rn_iload (x := (amx (fun s => chF (bv gN pN (nN - 1)) pN s mN) mN : Int)) (q := 193) dX8_bold_191 rfl rfl ?_
        refine rn_iload_n (x := (mN : Int)) (q := 194) dX8_bold_193 rfl rfl ?_
        refine rn_iload (x := (pN : Int)) (q := 196) dX8_bold_194 rfl rfl ?_
        refine rn_callV (b := 0) (as := [.inl (amx (fun s => chF (bv gN pN (nN - 1)) pN s mN) mN : Int), .inl (mN : Int), .inl (pN : Int)]) (rest := []) (q := 199) dX8_bold_196 ml_X8_357 sm_X8_chanceBy rfl rfl (by decide) (by omega) rfl rfl (Nat.le_of_ble_eq_true rfl) rfl (c_chanceBy (d := d + 1) hB hb7 (amx (fun s => chF (bv gN pN (nN - 1)) pN s mN) mN) mN pN (by omega) (by omega) (by omega)) ?_
        intro r196 mem196 hq196
        obtain ⟨rfl, rfl⟩ := hq196
        show am_Rn l G _ _ 199 [some (.inr (.inr 1)), some (.inl (mN : Int)), some (.inl (gN : Int)), some (.inl (nN : Int)), some (.inl (pN : Int)), some (.inl 1), some (.inl (amx (fun s => chF (bv gN pN (nN - 1)) pN s mN) mN : Int)), lx, none] [.inr (.inl (chF (bv gN pN (nN - 1)) pN (amx (fun s => chF (bv gN pN (nN - 1)) pN s mN) mN) mN : Int))] m0 _
        rw [eb]
        refine rn_lstore (ls' := [some (.inr (.inr 1)), some (.inl (mN : Int)), some (.inl (gN : Int)), some (.inl (nN : Int)), some (.inl (pN : Int)), some (.inl 1), some (.inl (amx (fun s => chF (bv gN pN (nN - 1)) pN s mN) mN : Int)), some (.inr (.inl (bv gN pN nN mN : Int))), none]) (q := 201) dX8_bold_199 (by decide) rfl rfl ?_
        exact LZ _ m0 (by rw [if_neg h0]) (by omega) hf
    have LX : ∀ (i : Nat), i ≤ max 1 nN → 1 ≤ i → ∀ (m0 : am_M) (lx : Option am_V), frS s8r mem m0 → (∀ c, c ≤ 20 → m0 81 c = (bv gN pN (i - 1) c : Int)) → am_Rn l G mt_X8_bold (d + 3) 94 [some (.inr (.inr 1)), some (.inl (mN : Int)), some (.inl (gN : Int)), some (.inl (nN : Int)), some (.inl (pN : Int)), some (.inl 1), some (.inl (i : Int)), lx, none] [] m0 Q := by
      refine am_dn (max 1 nN) (fun i hi ih h1 m0 lx hf hB => ?_)
      have LW : i < nN → ∀ (c : Nat), c ≤ 21 → ∀ (m1 : am_M), frS s8r mem m1 → (∀ c, c ≤ 20 → m1 81 c = (bv gN pN (i - 1) c : Int)) → (∀ j, j < c → m1 82 j = (bv gN pN i j : Int)) → am_Rn l G mt_X8_bold (d + 3) 103 [some (.inr (.inr 1)), some (.inl (mN : Int)), some (.inl (gN : Int)), some (.inl (nN : Int)), some (.inl (pN : Int)), some (.inl 1), some (.inl (i : Int)), some (.inl (c : Int)), none] [] m1 Q := by
        intro hlt
        refine am_dn 21 (fun c hc ih2 m1 hf hB hN => ?_)
        have hb7 := bv7 (g := gN) (p := pN) (t := i - 1) (by omega) (by omega)
        have oa := (amx_ok (f := fun s => chF (bv gN pN (i - 1)) pN s c) c)
        have eb : chF (bv gN pN (i - 1)) pN (amx (fun s => chF (bv gN pN (i - 1)) pN s c) c) c = bv gN pN i c := by
          obtain ⟨k, hk⟩ : ∃ k, i = k + 1 := ⟨i - 1, by omega⟩
          have e3 := oa.2.1
          rw [hk, Nat.add_sub_cancel] at e3
          rw [hk, Nat.add_sub_cancel, bv_s]
          exact e3
        refine rn_iload (x := (c : Int)) (q := 105) dX8_bold_103 rfl rfl ?_
        refine rn_bipush (q := 107) dX8_bold_105 ⟨by decide, by decide⟩ rfl ?_
        refine rn_cmpgt (t := 139) (q := 110) dX8_bold_107 rfl rfl (fun w107 => ?_) (fun w107 => ?_)
        · refine rn_aload_n (x := 0) (q := 140) dX8_bold_139 rfl rfl ?_
          refine rn_get (a := 0) (v := .inr (.inr 83)) (q := 143) dX8_bold_140 fl_X8_90 rfl rfl rfl ?_
          refine rn_iconst (q := 144) dX8_bold_143 (am_okd rfl) rfl ?_
          refine rn_aload_n (x := 0) (q := 145) dX8_bold_144 rfl rfl ?_
          refine rn_get (a := 0) (v := .inr (.inr 82)) (q := 148) dX8_bold_145 fl_X8_87 rfl rfl rfl ?_
          refine rn_iconst (q := 149) dX8_bold_148 (am_okd rfl) rfl ?_
          refine rn_bipush (q := 151) dX8_bold_149 ⟨by decide, by decide⟩ rfl ?_
          refine rn_copyl (a0 := 82) (a1 := 81) (q := 154) dX8_bold_151 am_ac_X8_361 am_arrc rfl rfl (by omega) (by omega) (by omega) (by omega) (by omega) (Nat.le_of_ble_eq_true rfl) rfl ?_
          refine rn_iincN (x := (i : Int)) (z := ((i + 1 : Nat) : Int)) (ls' := [some (.inr (.inr 1)), some (.inl (mN : Int)), some (.inl (gN : Int)), some (.inl (nN : Int)), some (.inl (pN : Int)), some (.inl 1), some (.inl ((i + 1 : Nat) : Int)), some (.inl (c : Int)), none]) (q := 157) dX8_bold_154 rfl (by decide) (by omega) (by unfold am_ok; omega) rfl rfl ?_
          refine rn_goto (t := 94) dX8_bold_157 rfl ?_
          refine ih (by omega) (by omega) _ _ (frS.cpy (a0 := 82) (sp := 0) (a1 := 81) (dp := 0) (n := 21) hf (fun _ => rfl)) (fun c2 hc2 => ?_)
          show am_cpy m1 82 0 81 0 21 81 c2 = _
          rw [am_cpy_at, if_pos (by omega), show 0 + (c2 - 0) = c2 by omega]
          exact hN c2 (by omega)
        · refine rn_aload_n (x := 0) (q := 111) dX8_bold_110 rfl rfl ?_
          refine rn_get (a := 0) (v := .inr (.inr 83)) (q := 114) dX8_bold_111 fl_X8_90 rfl rfl rfl ?_
          refine rn_iload (x := (c : Int)) (q := 116) dX8_bold_114 rfl rfl ?_
          refine rn_aload_n (x := 0) (q := 117) dX8_bold_116 rfl rfl ?_
          refine rn_aload_n (x := 0) (q := 118) dX8_bold_117 rfl rfl ?_
          refine rn_iload (x := (c : Int)) (q := 120) dX8_bold_118 rfl rfl ?_
          refine rn_iload (x := (pN : Int)) (q := 122) dX8_bold_120 rfl rfl ?_
          refine rn_callV (b := 0) (as := [.inl (c : Int), .inl (pN : Int)]) (rest := [.inr (.inr 1), .inl (c : Int), .inr (.inr 83)]) (q := 125) dX8_bold_122 ml_X8_354 sm_X8_bestStake rfl rfl (by decide) (by omega) rfl rfl (Nat.le_of_ble_eq_true rfl) rfl (c_bestStake (d := d + 0) hB hb7 c pN (by omega) (by omega)) ?_
          intro r122 mem122 hq122
          obtain ⟨rfl, rfl⟩ := hq122
          show am_Rn l G _ _ 125 [some (.inr (.inr 1)), some (.inl (mN : Int)), some (.inl (gN : Int)), some (.inl (nN : Int)), some (.inl (pN : Int)), some (.inl 1), some (.inl (i : Int)), some (.inl (c : Int)), none] [.inl (amx (fun s => chF (bv gN pN (i - 1)) pN s c) c : Int), .inr (.inr 1), .inl (c : Int), .inr (.inr 83)] m1 _
          refine rn_iload (x := (c : Int)) (q := 127) dX8_bold_125 rfl rfl ?_
          refine rn_iload (x := (pN : Int)) (q := 129) dX8_bold_127 rfl rfl ?_
          refine rn_callV (b := 0) (as := [.inl (amx (fun s => chF (bv gN pN (i - 1)) pN s c) c : Int), .inl (c : Int), .inl (pN : Int)]) (rest := [.inl (c : Int), .inr (.inr 83)]) (q := 132) dX8_bold_129 ml_X8_357 sm_X8_chanceBy rfl rfl (by decide) (by omega) rfl rfl (Nat.le_of_ble_eq_true rfl) rfl (c_chanceBy (d := d + 1) hB hb7 (amx (fun s => chF (bv gN pN (i - 1)) pN s c) c) c pN (by omega) (by omega) (by omega)) ?_
          intro r129 mem129 hq129
          obtain ⟨rfl, rfl⟩ := hq129
          show am_Rn l G _ _ 132 [some (.inr (.inr 1)), some (.inl (mN : Int)), some (.inl (gN : Int)), some (.inl (nN : Int)), some (.inl (pN : Int)), some (.inl 1), some (.inl (i : Int)), some (.inl (c : Int)), none] [.inr (.inl (chF (bv gN pN (i - 1)) pN (amx (fun s => chF (bv gN pN (i - 1)) pN s c) c) c : Int)), .inl (c : Int), .inr (.inr 83)] m1 _
          rw [eb]
          refine rn_lastV (a := 82) (m1 := am_up m1 82 c (bv gN pN i c : Int)) (q := 133) dX8_bold_132 rfl (by omega) (by omega) rfl rfl ?_
          refine rn_iincN (x := (c : Int)) (z := ((c + 1 : Nat) : Int)) (ls' := [some (.inr (.inr 1)), some (.inl (mN : Int)), some (.inl (gN : Int)), some (.inl (nN : Int)), some (.inl (pN : Int)), some (.inl 1), some (.inl (i : Int)), some (.inl ((c + 1 : Nat) : Int)), none]) (q := 136) dX8_bold_133 rfl (by decide) (by omega) (by unfold am_ok; omega) rfl rfl ?_
          refine rn_goto (t := 103) dX8_bold_136 rfl ?_
          refine ih2 (by omega) _ (frS.up (a := 82) (k := c) (x := (bv gN pN i c : Int)) hf rfl) hB (fun j hj => ?_)
          rw [am_up_at]
          by_cases e : j = c
          · rw [if_pos e, e]
          · rw [if_neg e]; exact hN j (by omega)
      refine rn_iload (x := (i : Int)) (q := 96) dX8_bold_94 rfl rfl ?_
      refine rn_iload_n (x := (nN : Int)) (q := 97) dX8_bold_96 rfl rfl ?_
      refine rn_cmpge (t := 160) (q := 100) dX8_bold_97 rfl rfl (fun w97 => ?_) (fun w97 => ?_)
      · exact LY m0 i lx hf (by rw [show nN - 1 = i - 1 by omega]; exact hB)
      · refine rn_iconst (q := 101) dX8_bold_100 (am_okd rfl) rfl ?_
        refine rn_istore (ls' := [some (.inr (.inr 1)), some (.inl (mN : Int)), some (.inl (gN : Int)), some (.inl (nN : Int)), some (.inl (pN : Int)), some (.inl 1), some (.inl (i : Int)), some (.inl 0), none]) (q := 103) dX8_bold_101 (by decide) rfl rfl ?_
        exact LW (by omega) 0 (by omega) m0 hf hB (fun j hj => absurd hj (Nat.not_lt_zero _))
    have LV : ∀ (c : Nat), c ≤ 21 → ∀ (m0 : am_M), frS s8r mem m0 → (∀ j, j < c → m0 81 j = (bv gN pN 0 j : Int)) → am_Rn l G mt_X8_bold (d + 3) 60 [some (.inr (.inr 1)), some (.inl (mN : Int)), some (.inl (gN : Int)), some (.inl (nN : Int)), some (.inl (pN : Int)), some (.inl 1), some (.inl (c : Int)), none, none] [] m0 Q := by
      refine am_dn 21 (fun c hc ih m0 hf hB => ?_)
      refine rn_iload (x := (c : Int)) (q := 62) dX8_bold_60 rfl rfl ?_
      refine rn_bipush (q := 64) dX8_bold_62 ⟨by decide, by decide⟩ rfl ?_
      refine rn_cmpgt (t := 91) (q := 67) dX8_bold_64 rfl rfl (fun w64 => ?_) (fun w64 => ?_)
      · refine rn_iconst (q := 92) dX8_bold_91 (am_okd rfl) rfl ?_
        refine rn_istore (ls' := [some (.inr (.inr 1)), some (.inl (mN : Int)), some (.inl (gN : Int)), some (.inl (nN : Int)), some (.inl (pN : Int)), some (.inl 1), some (.inl 1), none, none]) (q := 94) dX8_bold_92 (by decide) rfl rfl ?_
        exact LX 1 (by omega) (by omega) m0 _ hf (fun c2 hc2 => hB c2 (by omega))
      · refine rn_aload_n (x := 0) (q := 68) dX8_bold_67 rfl rfl ?_
        refine rn_get (a := 0) (v := .inr (.inr 82)) (q := 71) dX8_bold_68 fl_X8_87 rfl rfl rfl ?_
        refine rn_iload (x := (c : Int)) (q := 73) dX8_bold_71 rfl rfl ?_
        refine rn_iload (x := (c : Int)) (q := 75) dX8_bold_73 rfl rfl ?_
        refine rn_iload_n (x := (gN : Int)) (q := 76) dX8_bold_75 rfl rfl ?_
        refine rn_cmplt (t := 83) (q := 79) dX8_bold_76 rfl rfl (fun w76 => ?_) (fun w76 => ?_)
        · refine rn_lconst0 (q := 84) dX8_bold_83 rfl ?_
          refine rn_lastV (a := 81) (m1 := am_up m0 81 c 0) (q := 85) dX8_bold_84 rfl (by omega) (by omega) rfl rfl ?_
          refine rn_iincN (x := (c : Int)) (z := ((c + 1 : Nat) : Int)) (ls' := [some (.inr (.inr 1)), some (.inl (mN : Int)), some (.inl (gN : Int)), some (.inl (nN : Int)), some (.inl (pN : Int)), some (.inl 1), some (.inl ((c + 1 : Nat) : Int)), none, none]) (q := 88) dX8_bold_85 rfl (by decide) (by omega) (by unfold am_ok; omega) rfl rfl ?_
          refine rn_goto (t := 60) dX8_bold_88 rfl ?_
          refine ih (by omega) _ (frS.up (a := 81) (k := c) (x := 0) hf rfl) (fun j hj => ?_)
          rw [am_up_at]
          by_cases e : j = c
          · rw [if_pos e, e]
            show _ = (((if gN ≤ c then 1 else 0) : Nat) : Int)
            first | rw [if_pos (by omega)]; rfl | rw [if_neg (by omega)]; rfl
          · rw [if_neg e]; exact hB j (by omega)
        · refine rn_lconst1 (q := 80) dX8_bold_79 rfl ?_
          refine rn_goto (t := 84) dX8_bold_80 rfl ?_
          refine rn_lastV (a := 81) (m1 := am_up m0 81 c 1) (q := 85) dX8_bold_84 rfl (by omega) (by omega) rfl rfl ?_
          refine rn_iincN (x := (c : Int)) (z := ((c + 1 : Nat) : Int)) (ls' := [some (.inr (.inr 1)), some (.inl (mN : Int)), some (.inl (gN : Int)), some (.inl (nN : Int)), some (.inl (pN : Int)), some (.inl 1), some (.inl ((c + 1 : Nat) : Int)), none, none]) (q := 88) dX8_bold_85 rfl (by decide) (by omega) (by unfold am_ok; omega) rfl rfl ?_
          refine rn_goto (t := 60) dX8_bold_88 rfl ?_
          refine ih (by omega) _ (frS.up (a := 81) (k := c) (x := 1) hf rfl) (fun j hj => ?_)
          rw [am_up_at]
          by_cases e : j = c
          · rw [if_pos e, e]
            show _ = (((if gN ≤ c then 1 else 0) : Nat) : Int)
            first | rw [if_pos (by omega)]; rfl | rw [if_neg (by omega)]; rfl
          · rw [if_neg e]; exact hB j (by omega)
    refine rn_iload_n (x := (mN : Int)) (q := 1) dX8_bold_0 rfl rfl ?_
    refine rn_iflt (t := 47) (q := 4) dX8_bold_1 rfl rfl (fun h => absurd h (by omega)) (fun w1 => ?_)
    refine rn_iload_n (x := (mN : Int)) (q := 5) dX8_bold_4 rfl rfl ?_
    refine rn_bipush (q := 7) dX8_bold_5 ⟨by decide, by decide⟩ rfl ?_
    refine rn_cmpgt (t := 47) (q := 10) dX8_bold_7 rfl rfl (fun h => absurd h (by omega)) (fun w7 => ?_)
    refine rn_iload_n (x := (gN : Int)) (q := 11) dX8_bold_10 rfl rfl ?_
    refine rn_iconst (q := 12) dX8_bold_11 (am_okd rfl) rfl ?_
    refine rn_cmplt (t := 47) (q := 15) dX8_bold_12 rfl rfl (fun h => absurd h (by omega)) (fun w12 => ?_)
    refine rn_iload_n (x := (gN : Int)) (q := 16) dX8_bold_15 rfl rfl ?_
    refine rn_bipush (q := 18) dX8_bold_16 ⟨by decide, by decide⟩ rfl ?_
    refine rn_cmpgt (t := 47) (q := 21) dX8_bold_18 rfl rfl (fun h => absurd h (by omega)) (fun w18 => ?_)
    refine rn_iload_n (x := (nN : Int)) (q := 22) dX8_bold_21 rfl rfl ?_
    refine rn_iflt (t := 47) (q := 25) dX8_bold_22 rfl rfl (fun h => absurd h (by omega)) (fun w22 => ?_)
    refine rn_iload_n (x := (nN : Int)) (q := 26) dX8_bold_25 rfl rfl ?_
    refine rn_bipush (q := 28) dX8_bold_26 ⟨by decide, by decide⟩ rfl ?_
    refine rn_cmpgt (t := 47) (q := 31) dX8_bold_28 rfl rfl (fun h => absurd h (by omega)) (fun w28 => ?_)
    refine rn_iload (x := (pN : Int)) (q := 33) dX8_bold_31 rfl rfl ?_
    refine rn_iflt (t := 47) (q := 36) dX8_bold_33 rfl rfl (fun h => absurd h (by omega)) (fun w33 => ?_)
    refine rn_iload (x := (pN : Int)) (q := 38) dX8_bold_36 rfl rfl ?_
    refine rn_bipush (q := 40) dX8_bold_38 ⟨by decide, by decide⟩ rfl ?_
    refine rn_cmpgt (t := 47) (q := 43) dX8_bold_40 rfl rfl (fun h => absurd h (by omega)) (fun w40 => ?_)
    refine rn_iconst (q := 44) dX8_bold_43 (am_okd rfl) rfl ?_
    refine rn_goto (t := 48) dX8_bold_44 rfl ?_
    refine rn_istore (ls' := [some (.inr (.inr 1)), some (.inl (mN : Int)), some (.inl (gN : Int)), some (.inl (nN : Int)), some (.inl (pN : Int)), some (.inl 1), none, none, none]) (q := 50) dX8_bold_48 (by decide) rfl rfl ?_
    refine rn_iload (x := 1) (q := 52) dX8_bold_50 rfl rfl ?_
    refine rn_ifne (t := 57) (q := 55) dX8_bold_52 rfl rfl (fun w52 => ?_) (fun h => absurd h (by decide))
    refine rn_iconst (q := 58) dX8_bold_57 (am_okd rfl) rfl ?_
    refine rn_istore (ls' := [some (.inr (.inr 1)), some (.inl (mN : Int)), some (.inl (gN : Int)), some (.inl (nN : Int)), some (.inl (pN : Int)), some (.inl 1), some (.inl 0), none, none]) (q := 60) dX8_bold_58 (by decide) rfl rfl ?_
    exact LV 0 (by omega) mem frS.rf (fun j hj => absurd hj (Nat.not_lt_zero _))
  · refine rn_iload_n (x := m) (q := 1) dX8_bold_0 rfl rfl ?_
    refine rn_iflt (t := 47) (q := 4) dX8_bold_1 rfl rfl (fun w1 => ?_) (fun w1 => ?_)
    · refine rn_iconst (q := 48) dX8_bold_47 (am_okd rfl) rfl ?_
      refine rn_istore (ls' := [some (.inr (.inr 1)), some (.inl m), some (.inl g), some (.inl n), some (.inl p), some (.inl 0), none, none, none]) (q := 50) dX8_bold_48 (by decide) rfl rfl ?_
      refine rn_iload (x := 0) (q := 52) dX8_bold_50 rfl rfl ?_
      refine rn_ifne (t := 57) (q := 55) dX8_bold_52 rfl rfl (fun h => absurd h (by decide)) (fun w52 => ?_)
      refine rn_iconst (q := 56) dX8_bold_55 (am_okd rfl) rfl ?_
      refine rn_iret dX8_bold_56 rfl ?_
      exact hQ _ _ ⟨fun _ => ⟨rfl, frS.rf, hR⟩, fun h => absurd h hv⟩
    · refine rn_iload_n (x := m) (q := 5) dX8_bold_4 rfl rfl ?_
      refine rn_bipush (q := 7) dX8_bold_5 ⟨by decide, by decide⟩ rfl ?_
      refine rn_cmpgt (t := 47) (q := 10) dX8_bold_7 rfl rfl (fun w7 => ?_) (fun w7 => ?_)
      · refine rn_iconst (q := 48) dX8_bold_47 (am_okd rfl) rfl ?_
        refine rn_istore (ls' := [some (.inr (.inr 1)), some (.inl m), some (.inl g), some (.inl n), some (.inl p), some (.inl 0), none, none, none]) (q := 50) dX8_bold_48 (by decide) rfl rfl ?_
        refine rn_iload (x := 0) (q := 52) dX8_bold_50 rfl rfl ?_
        refine rn_ifne (t := 57) (q := 55) dX8_bold_52 rfl rfl (fun h => absurd h (by decide)) (fun w52 => ?_)
        refine rn_iconst (q := 56) dX8_bold_55 (am_okd rfl) rfl ?_
        refine rn_iret dX8_bold_56 rfl ?_
        exact hQ _ _ ⟨fun _ => ⟨rfl, frS.rf, hR⟩, fun h => absurd h hv⟩
      · refine rn_iload_n (x := g) (q := 11) dX8_bold_10 rfl rfl ?_
        refine rn_iconst (q := 12) dX8_bold_11 (am_okd rfl) rfl ?_
        refine rn_cmplt (t := 47) (q := 15) dX8_bold_12 rfl rfl (fun w12 => ?_) (fun w12 => ?_)
        · refine rn_iconst (q := 48) dX8_bold_47 (am_okd rfl) rfl ?_
          refine rn_istore (ls' := [some (.inr (.inr 1)), some (.inl m), some (.inl g), some (.inl n), some (.inl p), some (.inl 0), none, none, none]) (q := 50) dX8_bold_48 (by decide) rfl rfl ?_
          refine rn_iload (x := 0) (q := 52) dX8_bold_50 rfl rfl ?_
          refine rn_ifne (t := 57) (q := 55) dX8_bold_52 rfl rfl (fun h => absurd h (by decide)) (fun w52 => ?_)
          refine rn_iconst (q := 56) dX8_bold_55 (am_okd rfl) rfl ?_
          refine rn_iret dX8_bold_56 rfl ?_
          exact hQ _ _ ⟨fun _ => ⟨rfl, frS.rf, hR⟩, fun h => absurd h hv⟩
        · refine rn_iload_n (x := g) (q := 16) dX8_bold_15 rfl rfl ?_
          refine rn_bipush (q := 18) dX8_bold_16 ⟨by decide, by decide⟩ rfl ?_
          refine rn_cmpgt (t := 47) (q := 21) dX8_bold_18 rfl rfl (fun w18 => ?_) (fun w18 => ?_)
          · refine rn_iconst (q := 48) dX8_bold_47 (am_okd rfl) rfl ?_
            refine rn_istore (ls' := [some (.inr (.inr 1)), some (.inl m), some (.inl g), some (.inl n), some (.inl p), some (.inl 0), none, none, none]) (q := 50) dX8_bold_48 (by decide) rfl rfl ?_
            refine rn_iload (x := 0) (q := 52) dX8_bold_50 rfl rfl ?_
            refine rn_ifne (t := 57) (q := 55) dX8_bold_52 rfl rfl (fun h => absurd h (by decide)) (fun w52 => ?_)
            refine rn_iconst (q := 56) dX8_bold_55 (am_okd rfl) rfl ?_
            refine rn_iret dX8_bold_56 rfl ?_
            exact hQ _ _ ⟨fun _ => ⟨rfl, frS.rf, hR⟩, fun h => absurd h hv⟩
          · refine rn_iload_n (x := n) (q := 22) dX8_bold_21 rfl rfl ?_
            refine rn_iflt (t := 47) (q := 25) dX8_bold_22 rfl rfl (fun w22 => ?_) (fun w22 => ?_)
            · refine rn_iconst (q := 48) dX8_bold_47 (am_okd rfl) rfl ?_
              refine rn_istore (ls' := [some (.inr (.inr 1)), some (.inl m), some (.inl g), some (.inl n), some (.inl p), some (.inl 0), none, none, none]) (q := 50) dX8_bold_48 (by decide) rfl rfl ?_
              refine rn_iload (x := 0) (q := 52) dX8_bold_50 rfl rfl ?_
              refine rn_ifne (t := 57) (q := 55) dX8_bold_52 rfl rfl (fun h => absurd h (by decide)) (fun w52 => ?_)
              refine rn_iconst (q := 56) dX8_bold_55 (am_okd rfl) rfl ?_
              refine rn_iret dX8_bold_56 rfl ?_
              exact hQ _ _ ⟨fun _ => ⟨rfl, frS.rf, hR⟩, fun h => absurd h hv⟩
            · refine rn_iload_n (x := n) (q := 26) dX8_bold_25 rfl rfl ?_
              refine rn_bipush (q := 28) dX8_bold_26 ⟨by decide, by decide⟩ rfl ?_
              refine rn_cmpgt (t := 47) (q := 31) dX8_bold_28 rfl rfl (fun w28 => ?_) (fun w28 => ?_)
              · refine rn_iconst (q := 48) dX8_bold_47 (am_okd rfl) rfl ?_
                refine rn_istore (ls' := [some (.inr (.inr 1)), some (.inl m), some (.inl g), some (.inl n), some (.inl p), some (.inl 0), none, none, none]) (q := 50) dX8_bold_48 (by decide) rfl rfl ?_
                refine rn_iload (x := 0) (q := 52) dX8_bold_50 rfl rfl ?_
                refine rn_ifne (t := 57) (q := 55) dX8_bold_52 rfl rfl (fun h => absurd h (by decide)) (fun w52 => ?_)
                refine rn_iconst (q := 56) dX8_bold_55 (am_okd rfl) rfl ?_
                refine rn_iret dX8_bold_56 rfl ?_
                exact hQ _ _ ⟨fun _ => ⟨rfl, frS.rf, hR⟩, fun h => absurd h hv⟩
              · refine rn_iload (x := p) (q := 33) dX8_bold_31 rfl rfl ?_
                refine rn_iflt (t := 47) (q := 36) dX8_bold_33 rfl rfl (fun w33 => ?_) (fun w33 => ?_)
                · refine rn_iconst (q := 48) dX8_bold_47 (am_okd rfl) rfl ?_
                  refine rn_istore (ls' := [some (.inr (.inr 1)), some (.inl m), some (.inl g), some (.inl n), some (.inl p), some (.inl 0), none, none, none]) (q := 50) dX8_bold_48 (by decide) rfl rfl ?_
                  refine rn_iload (x := 0) (q := 52) dX8_bold_50 rfl rfl ?_
                  refine rn_ifne (t := 57) (q := 55) dX8_bold_52 rfl rfl (fun h => absurd h (by decide)) (fun w52 => ?_)
                  refine rn_iconst (q := 56) dX8_bold_55 (am_okd rfl) rfl ?_
                  refine rn_iret dX8_bold_56 rfl ?_
                  exact hQ _ _ ⟨fun _ => ⟨rfl, frS.rf, hR⟩, fun h => absurd h hv⟩
                · refine rn_iload (x := p) (q := 38) dX8_bold_36 rfl rfl ?_
                  refine rn_bipush (q := 40) dX8_bold_38 ⟨by decide, by decide⟩ rfl ?_
                  refine rn_cmpgt (t := 47) (q := 43) dX8_bold_40 rfl rfl (fun w40 => ?_) (fun w40 => ?_)
                  · refine rn_iconst (q := 48) dX8_bold_47 (am_okd rfl) rfl ?_
                    refine rn_istore (ls' := [some (.inr (.inr 1)), some (.inl m), some (.inl g), some (.inl n), some (.inl p), some (.inl 0), none, none, none]) (q := 50) dX8_bold_48 (by decide) rfl rfl ?_
                    refine rn_iload (x := 0) (q := 52) dX8_bold_50 rfl rfl ?_
                    refine rn_ifne (t := 57) (q := 55) dX8_bold_52 rfl rfl (fun h => absurd h (by decide)) (fun w52 => ?_)
                    refine rn_iconst (q := 56) dX8_bold_55 (am_okd rfl) rfl ?_
                    refine rn_iret dX8_bold_56 rfl ?_
                    exact hQ _ _ ⟨fun _ => ⟨rfl, frS.rf, hR⟩, fun h => absurd h hv⟩
                  · exfalso; omega
end P68
