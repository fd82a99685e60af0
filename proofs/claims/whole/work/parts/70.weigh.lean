/-! sings, counts -/
def cw (p : Nat) (w : Nat → Nat) : Nat → Nat → Nat
  | 0 => fun s => if s = 0 then 1 else 0
  | k + 1 => fun s => cw p w k s * (10 - p) + (if w k ≤ s then cw p w k (s - w k) * p else 0)
theorem cw_s {p : Nat} {w : Nat → Nat} {k s : Nat} : cw p w (k + 1) s = cw p w k s * (10 - p) + (if w k ≤ s then cw p w k (s - w k) * p else 0) := rfl
theorem cw_z {p : Nat} {w : Nat → Nat} (hw : ∀ k, w k ≤ 9) : ∀ k s, 9 * k < s → cw p w k s = 0 := by
  intro k
  induction k with
  | zero => intro s h; show (if s = 0 then 1 else 0) = 0; rw [if_neg (by omega)]
  | succ k ih =>
    intro s h
    have := hw k
    rw [cw_s, ih s (by omega), ih (s - w k) (by omega), Nat.zero_mul, Nat.zero_mul]
    split <;> rfl
theorem cw_le {p : Nat} {w : Nat → Nat} (hp : p ≤ 10) : ∀ k s, cw p w k s ≤ 10 ^ k := by
  intro k
  induction k with
  | zero => intro s; show (if s = 0 then 1 else 0) ≤ 1; split <;> omega
  | succ k ih =>
    intro s
    have h1 : cw p w k s * (10 - p) ≤ 10 ^ k * (10 - p) := Nat.mul_le_mul_right _ (ih _)
    have h2 : cw p w k (s - w k) * p ≤ 10 ^ k * p := Nat.mul_le_mul_right _ (ih _)
    have h3 : 10 ^ k * (10 - p) + 10 ^ k * p = 10 ^ k * 10 := by rw [← Nat.mul_add]; congr 1; omega
    rw [cw_s, Nat.pow_succ]
    split <;> omega
/-- sums over stretches -/
def sA (f : Nat → Nat) (v : Nat) : Nat → Nat
  | 0 => 0
  | j + 1 => sA f v j + f (v + j)
theorem sA_front {f : Nat → Nat} {v : Nat} : ∀ j, sA f v (j + 1) = f v + sA f (v + 1) j := by
  intro j
  induction j with
  | zero => rw [sA, sA, sA]; simp
  | succ j ih => rw [sA, ih, sA, show v + (j + 1) = v + 1 + j by omega]; omega
theorem sA_zero {f : Nat → Nat} {v a : Nat} (h : ∀ s, v + a ≤ s → f s = 0) : ∀ b, sA f v (a + b) = sA f v a := by
  intro b
  induction b with
  | zero => rfl
  | succ b ih => rw [← Nat.add_assoc, sA, ih, h _ (by omega)]; rfl
theorem sA_mul {f : Nat → Nat} {v c : Nat} : ∀ j, sA (fun s => f s * c) v j = sA f v j * c := by
  intro j
  induction j with
  | zero => rw [sA, sA, Nat.zero_mul]
  | succ j ih => rw [sA, sA, ih, Nat.add_mul]
theorem sA_add {f g : Nat → Nat} {v : Nat} : ∀ j, sA (fun s => f s + g s) v j = sA f v j + sA g v j := by
  intro j
  induction j with
  | zero => rfl
  | succ j ih => rw [sA, sA, sA, ih]; omega
theorem sA_shift {f : Nat → Nat} {w : Nat} : ∀ j, sA (fun s => if w ≤ s then f (s - w) else 0) 0 (w + j) = sA f 0 j := by
  intro j
  induction j with
  | zero =>
    have : ∀ i, i ≤ w → sA (fun s => if w ≤ s then f (s - w) else 0) 0 i = 0 := by
      intro i
      induction i with
      | zero => intro _; rfl
      | succ i ih => intro hi; rw [sA, ih (by omega), if_neg (by omega)]
    exact this w (Nat.le_refl _)
  | succ j ih => rw [← Nat.add_assoc, sA, ih, sA, if_pos (by omega), show 0 + (w + j) - w = 0 + j by omega]
theorem sA_cong {f g : Nat → Nat} {v : Nat} : ∀ j, (∀ s, v ≤ s → s < v + j → f s = g s) → sA f v j = sA g v j := by
  intro j
  induction j with
  | zero => intro _; rfl
  | succ j ih => intro h; rw [sA, sA, ih (fun s a b => h s a (by omega)), h (v + j) (by omega) (by omega)]
theorem cw_tot {p : Nat} {w : Nat → Nat} (hp : p ≤ 10) (hw : ∀ k, w k ≤ 9) : ∀ k, k ≤ 10 → sA (cw p w k) 0 100 = 10 ^ k := by
  intro k
  induction k with
  | zero =>
    intro _
    have h1 := sA_zero (f := cw p w 0) (v := 0) (a := 1) (fun s h => cw_z hw 0 s (by omega)) 99
    rw [show 1 + 99 = 100 from rfl] at h1
    rw [h1]; rfl
  | succ k ih =>
    intro hk
    have h0 := hw k
    have h1 := ih (by omega)
    have h2 : sA (cw p w (k + 1)) 0 100 = sA (fun s => cw p w k s * (10 - p)) 0 100 + sA (fun s => (if w k ≤ s then cw p w k (s - w k) else 0) * p) 0 100 := by
      rw [← sA_add]
      refine sA_cong 100 (fun s _ _ => ?_)
      rw [cw_s]
      split
      · rfl
      · rw [Nat.zero_mul]
    have h3 := sA_shift (f := cw p w k) (w := w k) (100 - w k)
    rw [show w k + (100 - w k) = 100 by omega] at h3
    have h4 := sA_zero (f := cw p w k) (v := 0) (a := 100 - w k) (fun s h => cw_z hw k s (by omega)) (w k)
    rw [show 100 - w k + w k = 100 by omega] at h4
    rw [h2, sA_mul, sA_mul, h3, ← h4, h1, ← Nat.mul_add, Nat.pow_succ]
    congr 1; omega
theorem cw_S {p : Nat} {w : Nat → Nat} (hw : ∀ k, w k ≤ 9) {n v : Nat} (hn : n ≤ 10) (hv : v ≤ 99) : sA (cw p w n) v (100 - v) = sA (cw p w n) v (91 - v) := by
  have h := sA_zero (f := cw p w n) (v := v) (a := 91 - v) (fun s h => cw_z hw n s (by omega)) (100 - v - (91 - v))
  rw [show 91 - v + (100 - v - (91 - v)) = 100 - v by omega] at h
  exact h
theorem sA_le {f : Nat → Nat} {v M : Nat} (h : ∀ s, f s ≤ M) : ∀ j, sA f v j ≤ M * j := by
  intro j
  induction j with
  | zero => exact Nat.le_refl _
  | succ j ih => have := h (v + j); rw [sA, Nat.mul_succ]; omega
theorem cw10 {p : Nat} {w : Nat → Nat} (hp : p ≤ 10) {k : Nat} (hk : k ≤ 10) (s : Nat) : cw p w k s ≤ 10000000000 := Nat.le_trans (cw_le hp k s) (p10_le hk)
theorem mulL {x p : Nat} (hx : x ≤ 10000000000) (hp : p ≤ 10) : ∃ y : Nat, y ≤ 100000000000 ∧ y = x * p ∧ (x : Int) * (p : Int) = (y : Int) ∧ (p : Int) * (x : Int) = (y : Int) := ⟨x * p, by have := Nat.mul_le_mul hx hp; omega, rfl, by rw [Int.natCast_mul], by rw [Int.natCast_mul, Int.mul_comm]⟩
def cdn (P : Nat → Bool) : Nat → Nat
  | 0 => 0
  | v + 1 => if P (v + 1) = true then v + 1 else cdn P v
def sW (sn : Nat) (sg : Nat → Nat) (e : est) : Nat → Nat := fun k => sg ((eN e + k) % sn)
section P70
variable {l : Launch} {G : am_G} {d : Nat} {r : Nat} {X : List Nat} {C : List Int} {sn : Nat} {sg : Nat → Nat} {h : hrs} {e : est} {NB : Nat} {mem m : am_M}
theorem c_weigh (q : CQ r X C sn sg h e NB mem) (n p : Nat) (hn : n ≤ 10) (hp : p ≤ 10) : am_Sm l G yX8_weigh mt_X8_weigh (d + 1) [.inr (.inr 1), .inl (n : Int), .inl (p : Int)] mem (fun q m => q = none ∧ frS s8 mem m ∧ ∀ s, s ≤ 90 → m 80 s = (cw p (sW sn sg e) n s : Int)) := by
  refine am_enterQ (ls := [some (.inr (.inr 1)), some (.inl (n : Int)), some (.inl (p : Int)), none, none, none, none, none]) (by decide) rfl (Nat.le_of_ble_eq_true rfl) rfl (fun hok Q hQ => ?_)
  have b := q.bd
  have hw : ∀ k, sW sn sg e k ≤ 9 := fun k => q.sng.2.2.2.1 _
  have L2 : ∀ i : Nat, i ≤ n → ∀ (m : am_M) (l4 l5 l6 : Option am_V), frS s8 mem m → (∀ s, s ≤ 90 → m 80 s = (cw p (sW sn sg e) i s : Int)) → am_Rn l G mt_X8_weigh (d + 1) 31 [some (.inr (.inr 1)), some (.inl (n : Int)), some (.inl (p : Int)), some (.inl (i : Int)), l4, l5, l6, none] [] m Q := by
    refine am_dn n (fun i hi ih m l4 l5 l6 hf hB => ?_)
    have hwi := hw i
    have L3 : i < n → ∀ (f : Nat), f ≤ 91 → ∀ (m : am_M) (l6 : Option am_V), frS s8 mem m → (∀ s, s < f → m 80 s = (cw p (sW sn sg e) i s : Int)) → (∀ s, f ≤ s → s ≤ 90 → m 80 s = (cw p (sW sn sg e) (i + 1) s : Int)) → am_Rn l G mt_X8_weigh (d + 1) 58 [some (.inr (.inr 1)), some (.inl (n : Int)), some (.inl (p : Int)), some (.inl (i : Int)), some (.inl (sW sn sg e i : Int)), some (.inl ((f : Int) - 1)), l6, none] [] m Q := by
      intro hlt f
      induction f with
      | zero =>
        intro _ m l6 hf _ hB2
        refine rn_iload (x := (((0 : Nat) : Int) - 1)) (q := 60) dX8_weigh_58 rfl rfl ?_
        refine rn_iflt (t := 118) (q := 63) dX8_weigh_60 rfl rfl (fun w60 => ?_) (fun h => absurd h (by omega))
        refine rn_iincN (x := (i : Int)) (z := ((i + 1 : Nat) : Int)) (ls' := [some (.inr (.inr 1)), some (.inl (n : Int)), some (.inl (p : Int)), some (.inl ((i + 1 : Nat) : Int)), some (.inl (sW sn sg e i : Int)), some (.inl (((0 : Nat) : Int) - 1)), l6, none]) (q := 121) dX8_weigh_118 rfl (by decide) (by omega) (by unfold am_ok; omega) rfl rfl ?_
        refine rn_goto (t := 31) dX8_weigh_121 rfl ?_
        exact ih hlt m _ _ _ hf (fun s hs => hB2 s (Nat.zero_le _) hs)
      | succ f ihf =>
        intro hf9 m l6 hf hA hB2
        obtain ⟨x1, a1, a2, a3, -⟩ := mulL (cw10 (w := sW sn sg e) (k := i) hp (by omega) f) (show 10 - p ≤ 10 by omega)
        obtain ⟨x2, b1, b2, b3, -⟩ := mulL (cw10 (w := sW sn sg e) (k := i) hp (by omega) (f - sW sn sg e i)) hp
        have fin : ∀ (y : Nat) (l6 : Int), y = cw p (sW sn sg e) (i + 1) f → am_Rn l G mt_X8_weigh (d + 1) 58 [some (.inr (.inr 1)), some (.inl (n : Int)), some (.inl (p : Int)), some (.inl (i : Int)), some (.inl (sW sn sg e i : Int)), some (.inl ((f : Int) - 1)), some (.inr (.inl l6)), none] [] (am_up m 80 f (y : Int)) Q := by
          intro y l6 hy
          refine ihf (by omega) _ _ (hf.up rfl) (fun s hs => ?_) (fun s h1 h2 => ?_)
          · rw [am_up_neq (by omega)]; exact hA s (by omega)
          · rw [am_up_at]
            by_cases e1 : s = f
            · rw [if_pos e1, e1, hy]
            · rw [if_neg e1]; exact hB2 s (by omega) h2
        have ef : ((f + 1 : Nat) : Int) - 1 = (f : Int) := by omega
        rw [ef]
        by_cases hws : sW sn sg e i ≤ f
        · refine rn_iload (x := (f : Int)) (q := 60) dX8_weigh_58 rfl rfl ?_
          refine rn_iflt (t := 118) (q := 63) dX8_weigh_60 rfl rfl (fun h => absurd h (by omega)) (fun w60 => ?_)
          refine rn_iload (x := (f : Int)) (q := 65) dX8_weigh_63 rfl rfl ?_
          refine rn_iload (x := (sW sn sg e i : Int)) (q := 67) dX8_weigh_65 rfl rfl ?_
          refine rn_cmplt (t := 83) (q := 70) dX8_weigh_67 rfl rfl (fun h => absurd h (by omega)) (fun w67 => ?_)
          refine rn_aload_n (x := 0) (q := 71) dX8_weigh_70 rfl rfl ?_
          refine rn_get (a := 0) (v := .inr (.inr 81)) (q := 74) dX8_weigh_71 fl_X8_83 rfl rfl rfl ?_
          refine rn_iload (x := (f : Int)) (q := 76) dX8_weigh_74 rfl rfl ?_
          refine rn_iload (x := (sW sn sg e i : Int)) (q := 78) dX8_weigh_76 rfl rfl ?_
          refine rn_isubN (z := ((f - sW sn sg e i : Nat) : Int)) (q := 79) dX8_weigh_78 (by omega) (by unfold am_ok; omega) rfl ?_
          refine rn_laldV (a := 80) (v := (cw p (sW sn sg e) i (f - sW sn sg e i) : Int)) (q := 80) dX8_weigh_79 rfl (by omega) (by omega) (hA _ (by omega)) rfl ?_
          refine rn_goto (t := 84) dX8_weigh_80 rfl ?_
          refine rn_lstore (ls' := [some (.inr (.inr 1)), some (.inl (n : Int)), some (.inl (p : Int)), some (.inl (i : Int)), some (.inl (sW sn sg e i : Int)), some (.inl (f : Int)), some (.inr (.inl (cw p (sW sn sg e) i (f - sW sn sg e i) : Int))), none]) (q := 86) dX8_weigh_84 (by decide) rfl rfl ?_
          refine rn_aload_n (x := 0) (q := 87) dX8_weigh_86 rfl rfl ?_
          refine rn_get (a := 0) (v := .inr (.inr 81)) (q := 90) dX8_weigh_87 fl_X8_83 rfl rfl rfl ?_
          refine rn_iload (x := (f : Int)) (q := 92) dX8_weigh_90 rfl rfl ?_
          refine rn_aload_n (x := 0) (q := 93) dX8_weigh_92 rfl rfl ?_
          refine rn_get (a := 0) (v := .inr (.inr 81)) (q := 96) dX8_weigh_93 fl_X8_83 rfl rfl rfl ?_
          refine rn_iload (x := (f : Int)) (q := 98) dX8_weigh_96 rfl rfl ?_
          refine rn_laldV (a := 80) (v := (cw p (sW sn sg e) i f : Int)) (q := 99) dX8_weigh_98 rfl (by omega) (by omega) (hA f (by omega)) rfl ?_
          refine rn_bipush (q := 101) dX8_weigh_99 ⟨by decide, by decide⟩ rfl ?_
          refine rn_iload_n (x := (p : Int)) (q := 102) dX8_weigh_101 rfl rfl ?_
          refine rn_isubN (z := ((10 - p : Nat) : Int)) (q := 103) dX8_weigh_102 (by omega) (by unfold am_ok; omega) rfl ?_
          refine rn_i2l (q := 104) dX8_weigh_103 rfl ?_
          refine rn_lmulN (z := (x1 : Int)) (q := 105) dX8_weigh_104 a3 (by rw [a3]; unfold am_okl; omega) rfl ?_
          refine rn_lload (x := (cw p (sW sn sg e) i (f - sW sn sg e i) : Int)) (q := 107) dX8_weigh_105 rfl rfl ?_
          refine rn_iload_n (x := (p : Int)) (q := 108) dX8_weigh_107 rfl rfl ?_
          refine rn_i2l (q := 109) dX8_weigh_108 rfl ?_
          refine rn_lmulN (z := (x2 : Int)) (q := 110) dX8_weigh_109 b3 (by rw [b3]; unfold am_okl; omega) rfl ?_
          refine rn_laddN (z := ((x1 + x2 : Nat) : Int)) (q := 111) dX8_weigh_110 (by omega) (by unfold am_okl; omega) rfl ?_
          refine rn_lastV (a := 80) (m1 := am_up m 80 f ((x1 + x2 : Nat) : Int)) (q := 112) dX8_weigh_111 rfl (by omega) (by omega) rfl rfl ?_
          refine rn_iincN (x := (f : Int)) (z := (f : Int) - 1) (ls' := [some (.inr (.inr 1)), some (.inl (n : Int)), some (.inl (p : Int)), some (.inl (i : Int)), some (.inl (sW sn sg e i : Int)), some (.inl ((f : Int) - 1)), some (.inr (.inl (cw p (sW sn sg e) i (f - sW sn sg e i) : Int))), none]) (q := 115) dX8_weigh_112 rfl (by decide) (by omega) (by unfold am_ok; omega) rfl rfl ?_
          refine rn_goto (t := 58) dX8_weigh_115 rfl ?_
          exact fin _ _ (by rw [cw_s, if_pos hws, a2, b2])
        · refine rn_iload (x := (f : Int)) (q := 60) dX8_weigh_58 rfl rfl ?_
          refine rn_iflt (t := 118) (q := 63) dX8_weigh_60 rfl rfl (fun h => absurd h (by omega)) (fun w60 => ?_)
          refine rn_iload (x := (f : Int)) (q := 65) dX8_weigh_63 rfl rfl ?_
          refine rn_iload (x := (sW sn sg e i : Int)) (q := 67) dX8_weigh_65 rfl rfl ?_
          refine rn_cmplt (t := 83) (q := 70) dX8_weigh_67 rfl rfl (fun w67 => ?_) (fun h => absurd h (by omega))
          refine rn_lconst0 (q := 84) dX8_weigh_83 rfl ?_
          refine rn_lstore (ls' := [some (.inr (.inr 1)), some (.inl (n : Int)), some (.inl (p : Int)), some (.inl (i : Int)), some (.inl (sW sn sg e i : Int)), some (.inl (f : Int)), some (.inr (.inl 0)), none]) (q := 86) dX8_weigh_84 (by decide) rfl rfl ?_
          refine rn_aload_n (x := 0) (q := 87) dX8_weigh_86 rfl rfl ?_
          refine rn_get (a := 0) (v := .inr (.inr 81)) (q := 90) dX8_weigh_87 fl_X8_83 rfl rfl rfl ?_
          refine rn_iload (x := (f : Int)) (q := 92) dX8_weigh_90 rfl rfl ?_
          refine rn_aload_n (x := 0) (q := 93) dX8_weigh_92 rfl rfl ?_
          refine rn_get (a := 0) (v := .inr (.inr 81)) (q := 96) dX8_weigh_93 fl_X8_83 rfl rfl rfl ?_
          refine rn_iload (x := (f : Int)) (q := 98) dX8_weigh_96 rfl rfl ?_
          refine rn_laldV (a := 80) (v := (cw p (sW sn sg e) i f : Int)) (q := 99) dX8_weigh_98 rfl (by omega) (by omega) (hA f (by omega)) rfl ?_
          refine rn_bipush (q := 101) dX8_weigh_99 ⟨by decide, by decide⟩ rfl ?_
          refine rn_iload_n (x := (p : Int)) (q := 102) dX8_weigh_101 rfl rfl ?_
          refine rn_isubN (z := ((10 - p : Nat) : Int)) (q := 103) dX8_weigh_102 (by omega) (by unfold am_ok; omega) rfl ?_
          refine rn_i2l (q := 104) dX8_weigh_103 rfl ?_
          refine rn_lmulN (z := (x1 : Int)) (q := 105) dX8_weigh_104 a3 (by rw [a3]; unfold am_okl; omega) rfl ?_
          refine rn_lload (x := 0) (q := 107) dX8_weigh_105 rfl rfl ?_
          refine rn_iload_n (x := (p : Int)) (q := 108) dX8_weigh_107 rfl rfl ?_
          refine rn_i2l (q := 109) dX8_weigh_108 rfl ?_
          refine rn_lmulN (z := 0) (q := 110) dX8_weigh_109 (Int.zero_mul _) (by rw [Int.zero_mul]; exact ⟨by decide, by decide⟩) rfl ?_
          refine rn_laddN (z := (x1 : Int)) (q := 111) dX8_weigh_110 (by omega) (by unfold am_okl; omega) rfl ?_
          refine rn_lastV (a := 80) (m1 := am_up m 80 f (x1 : Int)) (q := 112) dX8_weigh_111 rfl (by omega) (by omega) rfl rfl ?_
          refine rn_iincN (x := (f : Int)) (z := (f : Int) - 1) (ls' := [some (.inr (.inr 1)), some (.inl (n : Int)), some (.inl (p : Int)), some (.inl (i : Int)), some (.inl (sW sn sg e i : Int)), some (.inl ((f : Int) - 1)), some (.inr (.inl 0)), none]) (q := 115) dX8_weigh_112 rfl (by decide) (by omega) (by unfold am_ok; omega) rfl rfl ?_
          refine rn_goto (t := 58) dX8_weigh_115 rfl ?_
          exact fin _ _ (by rw [cw_s, if_neg hws, a2]; rfl)
    refine rn_iload_n (x := (i : Int)) (q := 32) dX8_weigh_31 rfl rfl ?_
    refine rn_iload_n (x := (n : Int)) (q := 33) dX8_weigh_32 rfl rfl ?_
    refine rn_cmpge (t := 124) (q := 36) dX8_weigh_33 rfl rfl (fun w33 => ?_) (fun w33 => ?_)
    · refine rn_vret dX8_weigh_124 rfl ?_
      exact hQ _ _ ⟨rfl, hf, by rw [show i = n by omega] at hB; exact hB⟩
    · refine rn_aload_n (x := 0) (q := 37) dX8_weigh_36 rfl rfl ?_
      refine rn_get (a := 0) (v := .inr (.inr 6)) (q := 40) dX8_weigh_37 fl_X8_26 rfl rfl rfl ?_
      refine rn_aload_n (x := 0) (q := 41) dX8_weigh_40 rfl rfl ?_
      refine rn_get (a := 0) (v := .inr (.inr 17)) (q := 44) dX8_weigh_41 fl_X8_33 rfl rfl rfl ?_
      refine rn_get (a := 16) (v := .inl (eN e : Int)) (q := 47) dX8_weigh_44 fl_X8_184 rfl (am_gi (q.kept hf.r8).nt) rfl ?_
      refine rn_iload_n (x := (i : Int)) (q := 48) dX8_weigh_47 rfl rfl ?_
      refine rn_iaddN (z := (((eN e) + i : Nat) : Int)) (q := 49) dX8_weigh_48 (by omega) (by unfold am_ok; omega) rfl ?_
      refine rn_callV (b := 5) (as := [.inl (((eN e) + i : Nat) : Int)]) (rest := []) (q := 52) dX8_weigh_49 ml_X8_196 sm_X6_songOn rfl rfl (by decide) (by omega) rfl rfl (Nat.le_of_ble_eq_true rfl) rfl (c_songOn (d := d + 0) (q.kept hf.r8) ((eN e) + i) (by omega)) ?_
      intro r49 mem49 hq49
      obtain ⟨rfl, rfl⟩ := hq49
      show am_Rn l G _ _ 52 [some (.inr (.inr 1)), some (.inl (n : Int)), some (.inl (p : Int)), some (.inl (i : Int)), l4, l5, l6, none] [.inl (sg (((eN e) + i) % sn) : Int)] m _
      refine rn_istore (ls' := [some (.inr (.inr 1)), some (.inl (n : Int)), some (.inl (p : Int)), some (.inl (i : Int)), some (.inl (sg (((eN e) + i) % sn) : Int)), l5, l6, none]) (q := 54) dX8_weigh_52 (by decide) rfl rfl ?_
      refine rn_bipush (q := 56) dX8_weigh_54 ⟨by decide, by decide⟩ rfl ?_
      refine rn_istore (ls' := [some (.inr (.inr 1)), some (.inl (n : Int)), some (.inl (p : Int)), some (.inl (i : Int)), some (.inl (sg (((eN e) + i) % sn) : Int)), some (.inl 90), l6, none]) (q := 58) dX8_weigh_56 (by decide) rfl rfl ?_
      exact L3 (by omega) 91 (by omega) m _ hf (fun s hs => hB s (by omega)) (fun s h1 h2 => absurd h2 (by omega))
  have L1 : ∀ i : Nat, i ≤ 91 → ∀ m : am_M, frS s8 mem m → (∀ s, s < i → m 80 s = (cw p (sW sn sg e) 0 s : Int)) → am_Rn l G mt_X8_weigh (d + 1) 2 [some (.inr (.inr 1)), some (.inl (n : Int)), some (.inl (p : Int)), some (.inl (i : Int)), none, none, none, none] [] m Q := by
    refine am_dn 91 (fun i hi ih m hf hB => ?_)
    refine rn_iload_n (x := (i : Int)) (q := 3) dX8_weigh_2 rfl rfl ?_
    refine rn_bipush (q := 5) dX8_weigh_3 ⟨by decide, by decide⟩ rfl ?_
    refine rn_cmpgt (t := 29) (q := 8) dX8_weigh_5 rfl rfl (fun w5 => ?_) (fun w5 => ?_)
    · refine rn_iconst (q := 30) dX8_weigh_29 (am_okd rfl) rfl ?_
      refine rn_istore_n (ls' := [some (.inr (.inr 1)), some (.inl (n : Int)), some (.inl (p : Int)), some (.inl 0), none, none, none, none]) (q := 31) dX8_weigh_30 (by decide) rfl rfl ?_
      exact L2 0 (Nat.zero_le _) m _ _ _ hf (fun s hs => hB s (by omega))
    · refine rn_aload_n (x := 0) (q := 9) dX8_weigh_8 rfl rfl ?_
      refine rn_get (a := 0) (v := .inr (.inr 81)) (q := 12) dX8_weigh_9 fl_X8_83 rfl rfl rfl ?_
      refine rn_iload_n (x := (i : Int)) (q := 13) dX8_weigh_12 rfl rfl ?_
      refine rn_iload_n (x := (i : Int)) (q := 14) dX8_weigh_13 rfl rfl ?_
      refine rn_ifne (t := 21) (q := 17) dX8_weigh_14 rfl rfl (fun w14 => ?_) (fun w14 => ?_)
      · refine rn_lconst0 (q := 22) dX8_weigh_21 rfl ?_
        refine rn_lastV (a := 80) (m1 := am_up m 80 i 0) (q := 23) dX8_weigh_22 rfl (by omega) (by omega) rfl rfl ?_
        refine rn_iincN (x := (i : Int)) (z := ((i + 1 : Nat) : Int)) (ls' := [some (.inr (.inr 1)), some (.inl (n : Int)), some (.inl (p : Int)), some (.inl ((i + 1 : Nat) : Int)), none, none, none, none]) (q := 26) dX8_weigh_23 rfl (by decide) (by omega) (by unfold am_ok; omega) rfl rfl ?_
        refine rn_goto (t := 2) dX8_weigh_26 rfl ?_
        refine ih (by omega) _ (frS.up (a := 80) (k := i) (x := 0) hf rfl) (fun s hs => ?_)
        rw [am_up_at]
        by_cases e1 : s = i
        · rw [if_pos e1, e1]
          show _ = (((if i = 0 then 1 else 0) : Nat) : Int)
          first | rw [if_pos (by omega)]; rfl | rw [if_neg (by omega)]; rfl
        · rw [if_neg e1]; exact hB s (by omega)
      · refine rn_lconst1 (q := 18) dX8_weigh_17 rfl ?_
        refine rn_goto (t := 22) dX8_weigh_18 rfl ?_
        refine rn_lastV (a := 80) (m1 := am_up m 80 i 1) (q := 23) dX8_weigh_22 rfl (by omega) (by omega) rfl rfl ?_
        refine rn_iincN (x := (i : Int)) (z := ((i + 1 : Nat) : Int)) (ls' := [some (.inr (.inr 1)), some (.inl (n : Int)), some (.inl (p : Int)), some (.inl ((i + 1 : Nat) : Int)), none, none, none, none]) (q := 26) dX8_weigh_23 rfl (by decide) (by omega) (by unfold am_ok; omega) rfl rfl ?_
        refine rn_goto (t := 2) dX8_weigh_26 rfl ?_
        refine ih (by omega) _ (frS.up (a := 80) (k := i) (x := 1) hf rfl) (fun s hs => ?_)
        rw [am_up_at]
        by_cases e1 : s = i
        · rw [if_pos e1, e1]
          show _ = (((if i = 0 then 1 else 0) : Nat) : Int)
          first | rw [if_pos (by omega)]; rfl | rw [if_neg (by omega)]; rfl
        · rw [if_neg e1]; exact hB s (by omega)
  refine rn_iconst (q := 1) dX8_weigh_0 (am_okd rfl) rfl ?_
  refine rn_istore_n (ls' := [some (.inr (.inr 1)), some (.inl (n : Int)), some (.inl (p : Int)), some (.inl 0), none, none, none, none]) (q := 2) dX8_weigh_1 (by decide) rfl rfl ?_
  exact L1 0 (by omega) mem frS.rf (fun s hs => absurd hs (Nat.not_lt_zero _))
theorem m_laySums (q : DQ X sn sg h e NB mem) (n p : Nat) (hn : n ≤ 10) (hp : p ≤ 10) : am_Sm l G yX9_laySums mt_X9_laySums (d + 1) [.inr (.inr 96), .inl (n : Int), .inl (p : Int)] mem (fun q m => q = none ∧ frS s9 mem m ∧ ∀ s, s ≤ 99 → m 120 s = (cw p (sW sn sg e) n s : Int)) := by
  refine am_enterQ (ls := [some (.inr (.inr 96)), some (.inl (n : Int)), some (.inl (p : Int)), none, none, none]) (by decide) rfl (Nat.le_of_ble_eq_true rfl) rfl (fun hok Q hQ => ?_)
  have b := q.bd
  have hw : ∀ k, sW sn sg e k ≤ 9 := fun k => q.sng.2.2.2.1 _
  have L2 : ∀ i : Nat, i ≤ n → ∀ (m : am_M) (l4 l5 : Option am_V), frS s9 mem m → (∀ s, s ≤ 99 → m 120 s = (cw p (sW sn sg e) i s : Int)) → am_Rn l G mt_X9_laySums (d + 1) 31 [some (.inr (.inr 96)), some (.inl (n : Int)), some (.inl (p : Int)), some (.inl (i : Int)), l4, l5] [] m Q := by
    refine am_dn n (fun i hi ih m l4 l5 hf hB => ?_)
    have hwi := hw i
    have L3 : i < n → ∀ (f : Nat), f ≤ 100 → ∀ (m : am_M), frS s9 mem m → (∀ s, s < f → m 120 s = (cw p (sW sn sg e) i s : Int)) → (∀ s, f ≤ s → s ≤ 99 → m 120 s = (cw p (sW sn sg e) (i + 1) s : Int)) → am_Rn l G mt_X9_laySums (d + 1) 55 [some (.inr (.inr 96)), some (.inl (n : Int)), some (.inl (p : Int)), some (.inl (i : Int)), some (.inl (sW sn sg e i : Int)), some (.inl ((f : Int) - 1))] [] m Q := by
      intro hlt f
      induction f with
      | zero =>
        intro _ m hf _ hB2
        refine rn_iload (x := (((0 : Nat) : Int) - 1)) (q := 57) dX9_laySums_55 rfl rfl ?_
        refine rn_iflt (t := 111) (q := 60) dX9_laySums_57 rfl rfl (fun w57 => ?_) (fun h => absurd h (by omega))
        refine rn_iincN (x := (i : Int)) (z := ((i + 1 : Nat) : Int)) (ls' := [some (.inr (.inr 96)), some (.inl (n : Int)), some (.inl (p : Int)), some (.inl ((i + 1 : Nat) : Int)), some (.inl (sW sn sg e i : Int)), some (.inl (((0 : Nat) : Int) - 1))]) (q := 114) dX9_laySums_111 rfl (by decide) (by omega) (by unfold am_ok; omega) rfl rfl ?_
        refine rn_goto (t := 31) dX9_laySums_114 rfl ?_
        exact ih hlt m _ _ hf (fun s hs => hB2 s (Nat.zero_le _) hs)
      | succ f ihf =>
        intro hf9 m hf hA hB2
        obtain ⟨x1, a1, a2, -, a3⟩ := mulL (cw10 (w := sW sn sg e) (k := i) hp (by omega) f) (show 10 - p ≤ 10 by omega)
        obtain ⟨x2, b1, b2, -, b3⟩ := mulL (cw10 (w := sW sn sg e) (k := i) hp (by omega) (f - sW sn sg e i)) hp
        have fin : ∀ (y : Nat), y = cw p (sW sn sg e) (i + 1) f → am_Rn l G mt_X9_laySums (d + 1) 55 [some (.inr (.inr 96)), some (.inl (n : Int)), some (.inl (p : Int)), some (.inl (i : Int)), some (.inl (sW sn sg e i : Int)), some (.inl ((f : Int) - 1))] [] (am_up m 120 f (y : Int)) Q := by
          intro y hy
          refine ihf (by omega) _ (hf.up rfl) (fun s hs => ?_) (fun s h1 h2 => ?_)
          · rw [am_up_neq (by omega)]; exact hA s (by omega)
          · rw [am_up_at]
            by_cases e1 : s = f
            · rw [if_pos e1, e1, hy]
            · rw [if_neg e1]; exact hB2 s (by omega) h2
        have ef : ((f + 1 : Nat) : Int) - 1 = (f : Int) := by omega
        rw [ef]
        by_cases hws : sW sn sg e i ≤ f
        · refine rn_iload (x := (f : Int)) (q := 57) dX9_laySums_55 rfl rfl ?_
          refine rn_iflt (t := 111) (q := 60) dX9_laySums_57 rfl rfl (fun h => absurd h (by omega)) (fun w57 => ?_)
          refine rn_aload_n (x := 95) (q := 61) dX9_laySums_60 rfl rfl ?_
          refine rn_get (a := 95) (v := .inr (.inr 121)) (q := 64) dX9_laySums_61 fl_X9_88 rfl rfl rfl ?_
          refine rn_iload (x := (f : Int)) (q := 66) dX9_laySums_64 rfl rfl ?_
          refine rn_bipush (q := 68) dX9_laySums_66 ⟨by decide, by decide⟩ rfl ?_
          refine rn_iload_n (x := (p : Int)) (q := 69) dX9_laySums_68 rfl rfl ?_
          refine rn_isubN (z := ((10 - p : Nat) : Int)) (q := 70) dX9_laySums_69 (by omega) (by unfold am_ok; omega) rfl ?_
          refine rn_i2l (q := 71) dX9_laySums_70 rfl ?_
          refine rn_aload_n (x := 95) (q := 72) dX9_laySums_71 rfl rfl ?_
          refine rn_get (a := 95) (v := .inr (.inr 121)) (q := 75) dX9_laySums_72 fl_X9_88 rfl rfl rfl ?_
          refine rn_iload (x := (f : Int)) (q := 77) dX9_laySums_75 rfl rfl ?_
          refine rn_laldV (a := 120) (v := (cw p (sW sn sg e) i f : Int)) (q := 78) dX9_laySums_77 rfl (by omega) (by omega) (hA f (by omega)) rfl ?_
          refine rn_lmulN (z := (x1 : Int)) (q := 79) dX9_laySums_78 a3 (by rw [a3]; unfold am_okl; omega) rfl ?_
          refine rn_iload (x := (f : Int)) (q := 81) dX9_laySums_79 rfl rfl ?_
          refine rn_iload (x := (sW sn sg e i : Int)) (q := 83) dX9_laySums_81 rfl rfl ?_
          refine rn_cmplt (t := 102) (q := 86) dX9_laySums_83 rfl rfl (fun h => absurd h (by omega)) (fun w83 => ?_)
          refine rn_iload_n (x := (p : Int)) (q := 87) dX9_laySums_86 rfl rfl ?_
          refine rn_i2l (q := 88) dX9_laySums_87 rfl ?_
          refine rn_aload_n (x := 95) (q := 89) dX9_laySums_88 rfl rfl ?_
          refine rn_get (a := 95) (v := .inr (.inr 121)) (q := 92) dX9_laySums_89 fl_X9_88 rfl rfl rfl ?_
          refine rn_iload (x := (f : Int)) (q := 94) dX9_laySums_92 rfl rfl ?_
          refine rn_iload (x := (sW sn sg e i : Int)) (q := 96) dX9_laySums_94 rfl rfl ?_
          refine rn_isubN (z := ((f - sW sn sg e i : Nat) : Int)) (q := 97) dX9_laySums_96 (by omega) (by unfold am_ok; omega) rfl ?_
          refine rn_laldV (a := 120) (v := (cw p (sW sn sg e) i (f - sW sn sg e i) : Int)) (q := 98) dX9_laySums_97 rfl (by omega) (by omega) (hA _ (by omega)) rfl ?_
          refine rn_lmulN (z := (x2 : Int)) (q := 99) dX9_laySums_98 b3 (by rw [b3]; unfold am_okl; omega) rfl ?_
          refine rn_goto (t := 103) dX9_laySums_99 rfl ?_
          refine rn_laddN (z := ((x1 + x2 : Nat) : Int)) (q := 104) dX9_laySums_103 (by omega) (by unfold am_okl; omega) rfl ?_
          refine rn_lastV (a := 120) (m1 := am_up m 120 f ((x1 + x2 : Nat) : Int)) (q := 105) dX9_laySums_104 rfl (by omega) (by omega) rfl rfl ?_
          refine rn_iincN (x := (f : Int)) (z := (f : Int) - 1) (ls' := [some (.inr (.inr 96)), some (.inl (n : Int)), some (.inl (p : Int)), some (.inl (i : Int)), some (.inl (sW sn sg e i : Int)), some (.inl ((f : Int) - 1))]) (q := 108) dX9_laySums_105 rfl (by decide) (by omega) (by unfold am_ok; omega) rfl rfl ?_
          refine rn_goto (t := 55) dX9_laySums_108 rfl ?_
          exact fin _ (by rw [cw_s, if_pos hws, a2, b2])
        · refine rn_iload (x := (f : Int)) (q := 57) dX9_laySums_55 rfl rfl ?_
          refine rn_iflt (t := 111) (q := 60) dX9_laySums_57 rfl rfl (fun h => absurd h (by omega)) (fun w57 => ?_)
          refine rn_aload_n (x := 95) (q := 61) dX9_laySums_60 rfl rfl ?_
          refine rn_get (a := 95) (v := .inr (.inr 121)) (q := 64) dX9_laySums_61 fl_X9_88 rfl rfl rfl ?_
          refine rn_iload (x := (f : Int)) (q := 66) dX9_laySums_64 rfl rfl ?_
          refine rn_bipush (q := 68) dX9_laySums_66 ⟨by decide, by decide⟩ rfl ?_
          refine rn_iload_n (x := (p : Int)) (q := 69) dX9_laySums_68 rfl rfl ?_
          refine rn_isubN (z := ((10 - p : Nat) : Int)) (q := 70) dX9_laySums_69 (by omega) (by unfold am_ok; omega) rfl ?_
          refine rn_i2l (q := 71) dX9_laySums_70 rfl ?_
          refine rn_aload_n (x := 95) (q := 72) dX9_laySums_71 rfl rfl ?_
          refine rn_get (a := 95) (v := .inr (.inr 121)) (q := 75) dX9_laySums_72 fl_X9_88 rfl rfl rfl ?_
          refine rn_iload (x := (f : Int)) (q := 77) dX9_laySums_75 rfl rfl ?_
          refine rn_laldV (a := 120) (v := (cw p (sW sn sg e) i f : Int)) (q := 78) dX9_laySums_77 rfl (by omega) (by omega) (hA f (by omega)) rfl ?_
          refine rn_lmulN (z := (x1 : Int)) (q := 79) dX9_laySums_78 a3 (by rw [a3]; unfold am_okl; omega) rfl ?_
          refine rn_iload (x := (f : Int)) (q := 81) dX9_laySums_79 rfl rfl ?_
          refine rn_iload (x := (sW sn sg e i : Int)) (q := 83) dX9_laySums_81 rfl rfl ?_
          refine rn_cmplt (t := 102) (q := 86) dX9_laySums_83 rfl rfl (fun w83 => ?_) (fun h => absurd h (by omega))
          refine rn_lconst0 (q := 103) dX9_laySums_102 rfl ?_
          refine rn_laddN (z := (x1 : Int)) (q := 104) dX9_laySums_103 (by omega) (by unfold am_okl; omega) rfl ?_
          refine rn_lastV (a := 120) (m1 := am_up m 120 f (x1 : Int)) (q := 105) dX9_laySums_104 rfl (by omega) (by omega) rfl rfl ?_
          refine rn_iincN (x := (f : Int)) (z := (f : Int) - 1) (ls' := [some (.inr (.inr 96)), some (.inl (n : Int)), some (.inl (p : Int)), some (.inl (i : Int)), some (.inl (sW sn sg e i : Int)), some (.inl ((f : Int) - 1))]) (q := 108) dX9_laySums_105 rfl (by decide) (by omega) (by unfold am_ok; omega) rfl rfl ?_
          refine rn_goto (t := 55) dX9_laySums_108 rfl ?_
          exact fin _ (by rw [cw_s, if_neg hws, a2]; rfl)
    refine rn_iload_n (x := (i : Int)) (q := 32) dX9_laySums_31 rfl rfl ?_
    refine rn_iload_n (x := (n : Int)) (q := 33) dX9_laySums_32 rfl rfl ?_
    refine rn_cmpge (t := 117) (q := 36) dX9_laySums_33 rfl rfl (fun w33 => ?_) (fun w33 => ?_)
    · refine rn_vret dX9_laySums_117 rfl ?_
      exact hQ _ _ ⟨rfl, hf, by rw [show i = n by omega] at hB; exact hB⟩
    · refine rn_aload_n (x := 95) (q := 37) dX9_laySums_36 rfl rfl ?_
      refine rn_aload_n (x := 95) (q := 38) dX9_laySums_37 rfl rfl ?_
      refine rn_get (a := 95) (v := .inr (.inr 97)) (q := 41) dX9_laySums_38 fl_X9_9 rfl rfl rfl ?_
      refine rn_bipush (q := 43) dX9_laySums_41 ⟨by decide, by decide⟩ rfl ?_
      refine rn_ialdV (a := 96) (v := (eN e : Int)) (q := 44) dX9_laySums_43 rfl (by omega) (by omega) (q.kept hf.r9).nt rfl ?_
      refine rn_iload_n (x := (i : Int)) (q := 45) dX9_laySums_44 rfl rfl ?_
      refine rn_iaddN (z := (((eN e) + i : Nat) : Int)) (q := 46) dX9_laySums_45 (by omega) (by unfold am_ok; omega) rfl ?_
      refine rn_callV (b := 95) (as := [.inl (((eN e) + i : Nat) : Int)]) (rest := []) (q := 49) dX9_laySums_46 ml_X9_213 sm_X9_worthOn rfl rfl (by decide) (by omega) rfl rfl (Nat.le_of_ble_eq_true rfl) rfl (m_worthOn (d := d + 0) (q.kept hf.r9) ((eN e) + i) (by omega)) ?_
      intro r46 mem46 hq46
      obtain ⟨rfl, rfl⟩ := hq46
      show am_Rn l G _ _ 49 [some (.inr (.inr 96)), some (.inl (n : Int)), some (.inl (p : Int)), some (.inl (i : Int)), l4, l5] [.inl (sg (((eN e) + i) % sn) : Int)] m _
      refine rn_istore (ls' := [some (.inr (.inr 96)), some (.inl (n : Int)), some (.inl (p : Int)), some (.inl (i : Int)), some (.inl (sg (((eN e) + i) % sn) : Int)), l5]) (q := 51) dX9_laySums_49 (by decide) rfl rfl ?_
      refine rn_bipush (q := 53) dX9_laySums_51 ⟨by decide, by decide⟩ rfl ?_
      refine rn_istore (ls' := [some (.inr (.inr 96)), some (.inl (n : Int)), some (.inl (p : Int)), some (.inl (i : Int)), some (.inl (sg (((eN e) + i) % sn) : Int)), some (.inl 99)]) (q := 55) dX9_laySums_53 (by decide) rfl rfl ?_
      exact L3 (by omega) 100 (by omega) m hf (fun s hs => hB s (by omega)) (fun s h1 h2 => absurd h2 (by omega))
  have L1 : ∀ i : Nat, i ≤ 100 → ∀ m : am_M, frS s9 mem m → (∀ s, s < i → m 120 s = (cw p (sW sn sg e) 0 s : Int)) → am_Rn l G mt_X9_laySums (d + 1) 2 [some (.inr (.inr 96)), some (.inl (n : Int)), some (.inl (p : Int)), some (.inl (i : Int)), none, none] [] m Q := by
    refine am_dn 100 (fun i hi ih m hf hB => ?_)
    refine rn_iload_n (x := (i : Int)) (q := 3) dX9_laySums_2 rfl rfl ?_
    refine rn_bipush (q := 5) dX9_laySums_3 ⟨by decide, by decide⟩ rfl ?_
    refine rn_cmpgt (t := 29) (q := 8) dX9_laySums_5 rfl rfl (fun w5 => ?_) (fun w5 => ?_)
    · refine rn_iconst (q := 30) dX9_laySums_29 (am_okd rfl) rfl ?_
      refine rn_istore_n (ls' := [some (.inr (.inr 96)), some (.inl (n : Int)), some (.inl (p : Int)), some (.inl 0), none, none]) (q := 31) dX9_laySums_30 (by decide) rfl rfl ?_
      exact L2 0 (Nat.zero_le _) m _ _ hf (fun s hs => hB s (by omega))
    · refine rn_aload_n (x := 95) (q := 9) dX9_laySums_8 rfl rfl ?_
      refine rn_get (a := 95) (v := .inr (.inr 121)) (q := 12) dX9_laySums_9 fl_X9_88 rfl rfl rfl ?_
      refine rn_iload_n (x := (i : Int)) (q := 13) dX9_laySums_12 rfl rfl ?_
      refine rn_iload_n (x := (i : Int)) (q := 14) dX9_laySums_13 rfl rfl ?_
      refine rn_ifne (t := 21) (q := 17) dX9_laySums_14 rfl rfl (fun w14 => ?_) (fun w14 => ?_)
      · refine rn_lconst0 (q := 22) dX9_laySums_21 rfl ?_
        refine rn_lastV (a := 120) (m1 := am_up m 120 i 0) (q := 23) dX9_laySums_22 rfl (by omega) (by omega) rfl rfl ?_
        refine rn_iincN (x := (i : Int)) (z := ((i + 1 : Nat) : Int)) (ls' := [some (.inr (.inr 96)), some (.inl (n : Int)), some (.inl (p : Int)), some (.inl ((i + 1 : Nat) : Int)), none, none]) (q := 26) dX9_laySums_23 rfl (by decide) (by omega) (by unfold am_ok; omega) rfl rfl ?_
        refine rn_goto (t := 2) dX9_laySums_26 rfl ?_
        refine ih (by omega) _ (frS.up (a := 120) (k := i) (x := 0) hf rfl) (fun s hs => ?_)
        rw [am_up_at]
        by_cases e1 : s = i
        · rw [if_pos e1, e1]
          show _ = (((if i = 0 then 1 else 0) : Nat) : Int)
          first | rw [if_pos (by omega)]; rfl | rw [if_neg (by omega)]; rfl
        · rw [if_neg e1]; exact hB s (by omega)
      · refine rn_lconst1 (q := 18) dX9_laySums_17 rfl ?_
        refine rn_goto (t := 22) dX9_laySums_18 rfl ?_
        refine rn_lastV (a := 120) (m1 := am_up m 120 i 1) (q := 23) dX9_laySums_22 rfl (by omega) (by omega) rfl rfl ?_
        refine rn_iincN (x := (i : Int)) (z := ((i + 1 : Nat) : Int)) (ls' := [some (.inr (.inr 96)), some (.inl (n : Int)), some (.inl (p : Int)), some (.inl ((i + 1 : Nat) : Int)), none, none]) (q := 26) dX9_laySums_23 rfl (by decide) (by omega) (by unfold am_ok; omega) rfl rfl ?_
        refine rn_goto (t := 2) dX9_laySums_26 rfl ?_
        refine ih (by omega) _ (frS.up (a := 120) (k := i) (x := 1) hf rfl) (fun s hs => ?_)
        rw [am_up_at]
        by_cases e1 : s = i
        · rw [if_pos e1, e1]
          show _ = (((if i = 0 then 1 else 0) : Nat) : Int)
          first | rw [if_pos (by omega)]; rfl | rw [if_neg (by omega)]; rfl
        · rw [if_neg e1]; exact hB s (by omega)
  refine rn_iconst (q := 1) dX9_laySums_0 (am_okd rfl) rfl ?_
  refine rn_istore_n (ls' := [some (.inr (.inr 96)), some (.inl (n : Int)), some (.inl (p : Int)), some (.inl 0), none, none]) (q := 2) dX9_laySums_1 (by decide) rfl rfl ?_
  exact L1 0 (by omega) mem frS.rf (fun s hs => absurd hs (Nat.not_lt_zero _))
end P70
