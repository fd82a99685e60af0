/-- what is left when i hearers have had theirs; mv: what each may have, mk: who is there -/
def pL (mv : Nat → Int) (mk : Nat) (w : Int) : Nat → Int
  | 0 => w
  | i + 1 => pL mv mk w i - (if mk.testBit i then min (pL mv mk w i) (mv i) else 0)
def pP (mv : Nat → Int) (mk : Nat) (w : Int) (i : Nat) : Int := if mk.testBit i then min (pL mv mk w i) (mv i) else 0
def pD (mv : Nat → Int) (mk : Nat) (w : Int) (py : Nat → Nat) : Nat → Int
  | 0 => 0
  | i + 1 => pD mv mk w py i + pP mv mk w i * (py i : Int)
def pH (mv : Nat → Int) (mk : Nat) (w : Int) : Nat → Nat
  | 0 => 0
  | i + 1 => if 0 < pP mv mk w i then pH mv mk w i + 2 ^ i else pH mv mk w i
theorem pL_ok {mv : Nat → Int} {mk : Nat} {w : Int} (hm : ∀ i, 0 ≤ mv i) (hw : 0 ≤ w ∧ w ≤ 9) : ∀ i, 0 ≤ pL mv mk w i ∧ pL mv mk w i ≤ 9 := by
  intro i
  induction i with
  | zero => exact hw
  | succ i ih =>
    have := hm i
    rw [pL]
    split <;> omega
theorem pP_ok {mv : Nat → Int} {mk : Nat} {w : Int} (hm : ∀ i, 0 ≤ mv i) (hw : 0 ≤ w ∧ w ≤ 9) (i : Nat) : 0 ≤ pP mv mk w i ∧ pP mv mk w i ≤ 9 := by
  have h1 := pL_ok (mk := mk) hm hw i
  have h2 := hm i
  unfold pP
  split <;> omega
theorem pD_ok {mv : Nat → Int} {mk : Nat} {w : Int} {py : Nat → Nat} (hm : ∀ i, 0 ≤ mv i) (hw : 0 ≤ w ∧ w ≤ 9) (hp : ∀ i, py i ≤ 9) : ∀ i, 0 ≤ pD mv mk w py i ∧ pD mv mk w py i ≤ 81 * (i : Int) := by
  intro i
  induction i with
  | zero => exact ⟨Int.le_refl _, Int.le_refl _⟩
  | succ i ih =>
    have h1 := pP_ok (mk := mk) hm hw i
    have h2 := hp i
    have h3 : 0 ≤ pP mv mk w i * (py i : Int) := Int.mul_nonneg h1.1 (by omega)
    have h4 : pP mv mk w i * (py i : Int) ≤ 9 * 9 := Int.mul_le_mul h1.2 (by omega) (by omega) (by omega)
    rw [pD]
    omega
theorem pH_ok {mv : Nat → Int} {mk : Nat} {w : Int} : ∀ i, pH mv mk w i < 2 ^ i := by
  intro i
  induction i with
  | zero => show 0 < 2 ^ 0; decide
  | succ i ih =>
    rw [pH, Nat.pow_succ]
    split <;> omega
theorem mayV_nn {X : List Nat} {h : hrs} {sv i hd nt ct : Nat} : 0 ≤ mayV X h sv i hd nt ct := by unfold mayV; omega
theorem shr_bit : ∀ b : Nat, b < 256 → ∀ i : Nat, i < 8 → am_and (am_shr (b : Int) (i : Int)) 1 = if b.testBit i then 1 else 0 := by decide +kernel
theorem or_bit : ∀ i : Nat, i < 8 → ∀ b : Nat, b < 2 ^ i → am_or (b : Int) (am_shl 1 (i : Int)) = ((b + 2 ^ i : Nat) : Int) := by decide +kernel
theorem or_zero : ∀ b : Nat, b < 256 → am_or (b : Int) 0 = (b : Int) := by decide +kernel
theorem am_est_r {a : Nat} (h : am_est a) : (16 ≤ a ∧ a ≤ 60) ∨ (89 ≤ a ∧ a ≤ 92) := by
  have : ∀ a ∈ am_estL, (16 ≤ a ∧ a ≤ 60) ∨ (89 ≤ a ∧ a ≤ 92) := by decide
  exact this a h
def fr_part (r : Nat) (mem m : am_M) : Prop := (∀ b, b ≠ 5 → b ≠ 10 → b ≠ r + 3 → b ≠ r + 4 → m b = mem b) ∧ ∀ k, k < 8 → m 5 k = mem 5 k
theorem fr_part.song {r : Nat} {mem m : am_M} (hr : am_rul r) (hf : fr_part r mem m) {sn : Nat} {sg : Nat → Nat} (h : c_song sn sg mem) : c_song sn sg m := by
  have o := am_rul_or hr
  exact ⟨by rw [hf.2 5 (by decide)]; exact h.1, h.2.1, h.2.2.1, h.2.2.2.1, fun i hi => by rw [hf.1 6 (by decide) (by decide) (by omega) (by omega)]; exact h.2.2.2.2 i hi⟩
theorem fr_part.hrs {r : Nat} {mem m : am_M} (hr : am_rul r) (hf : fr_part r mem m) {h : hrs} (hh : c_hrs h mem) : c_hrs h m := by
  have o := am_rul_or hr
  refine ⟨hh.1, by rw [hf.2 6 (by decide)]; exact hh.2.1, fun i hi => ?_⟩
  rw [hf.1 7 (by decide) (by decide) (by omega) (by omega), hf.1 8 (by decide) (by decide) (by omega) (by omega), hf.1 9 (by decide) (by decide) (by omega) (by omega)]
  exact hh.2.2 i hi
theorem fr_part.code {r : Nat} {mem m : am_M} (hr : am_rul r) (hf : fr_part r mem m) {C : List Int} (h : c_code r C mem) : c_code r C m := by
  have o := am_rul_or hr
  exact ⟨by rw [hf.1 r (by omega) (by omega) (by omega) (by omega)]; exact h.1, fun i hi => by rw [hf.1 (r + 1) (by omega) (by omega) (by omega) (by omega)]; exact h.2.1 i hi, h.2.2⟩
section P42
variable {l : Launch} {G : am_G} {d : Nat} {mem M : am_M}
theorem s_part31 {r : Nat} (hr : am_rul r) {a : Nat} (ha : am_est a) {X : List Nat} {C : List Int} (hok : ruleOK X C) (hC : c_code r C mem) {sn : Nat} {sg : Nat → Nat} (hs : c_song sn sg mem) {h : hrs} (hh : c_hrs h mem) {hd : Nat → Nat} (hhd : ∀ i, hd i ≤ 99) (hhm : ∀ i, i < 8 → mem (a + 1) i = (hd i : Int)) {nt : Nat} (hnt : nt < 1000000) (hnm : mem a 3 = (nt : Int)) {mk ct : Nat} (hmk : mk < 256) {mv : Nat → Int} (hmv : ∀ i, mv i = mayV X h (sg (nt % sn)) i (hd i) nt ct) {w : Int} (hw : 0 ≤ w ∧ w ≤ 9) {Q : Option am_V → am_M → Prop} (hQ : ∀ m : am_M, fr_part r mem m → (∀ j, j < h.1 → m 10 j = pP mv mk w j) → m 5 8 = pD mv mk w h.2.2.2 h.1 → m 5 9 = pL mv mk w h.1 → m 5 10 = (pH mv mk w h.1 : Int) → Q none m) : ∀ (k i : Nat) (m : am_M), i + k = h.1 → fr_part r mem m → (∀ j, j < i → m 10 j = pP mv mk w j) → m 5 8 = pD mv mk w h.2.2.2 i → m 5 9 = pL mv mk w i → m 5 10 = (pH mv mk w i : Int) → am_Rn l G mt_X6_part (d + 4) 31 [some (.inr (.inr 6)), some (.inr (.inr (a + 1))), some (.inl (mk : Int)), some (.inr (.inr (r + 1))), some (.inl (ct : Int)), some (.inl (i : Int))] [] m Q := by
  have o := am_rul_or hr
  have oa := am_est_r ha
  have hmn : ∀ i, 0 ≤ mv i := fun i => by rw [hmv]; exact mayV_nn
  have h8 : h.1 ≤ 8 := hh.1.1
  have hpy := hh.1.2.2.2
  intro k
  induction k with
  | zero =>
    intro i m hi hf hp h58 h59 h510
    have hi2 : i = h.1 := by omega
    have e6 := (hf.hrs hr hh).2.1
    refine rn_iload (x := (i : Int)) (q := 33) dX6_part_31 rfl rfl ?_
    refine rn_aload_n (x := 5) (q := 34) dX6_part_33 rfl rfl ?_
    refine rn_get (a := 5) (v := .inl (h.1 : Int)) (q := 37) dX6_part_34 fl_X6_38 rfl (am_gi e6) rfl ?_
    refine rn_cmpge (t := 171) (q := 40) dX6_part_37 rfl rfl (fun w37 => ?_) (fun h => absurd h (by omega))
    refine rn_vret dX6_part_171 rfl ?_
    exact hQ m hf (by rw [← hi2]; exact hp) (by rw [← hi2]; exact h58) (by rw [← hi2]; exact h59) (by rw [← hi2]; exact h510)
  | succ k ih =>
    intro i m hi hf hp h58 h59 h510
    have e6 := (hf.hrs hr hh).2.1
    have hL := pL_ok (mk := mk) hmn hw i
    have hPk := pP_ok (mk := mk) hmn hw i
    have hD := pD_ok (mk := mk) hmn hw hpy i
    have hHb := pH_ok (mv := mv) (mk := mk) (w := w) i
    have hmi := hmn i
    have hi8 : i < 8 := by omega
    have hH8 : pH mv mk w i < 256 := Nat.lt_of_lt_of_le hHb (Nat.le_trans (Nat.pow_le_pow_right (by decide) (Nat.le_of_lt hi8)) (by decide))
    have hz : pP mv mk w i = 0 → am_Rn l G mt_X6_part (d + 4) 31 [some (.inr (.inr 6)), some (.inr (.inr (a + 1))), some (.inl (mk : Int)), some (.inr (.inr (r + 1))), some (.inl (ct : Int)), some (.inl ((i + 1 : Nat) : Int))] [] (am_up m 10 i 0) Q := by
      intro e0
      refine ih (i + 1) _ (by omega) ⟨fun b b1 b2 b3 b4 => (am_up_ne b2).trans (hf.1 b b1 b2 b3 b4), fun k hk => hf.2 k hk⟩ (fun j hj => ?_) ?_ ?_ ?_
      · rw [am_up_at]
        by_cases e : j = i
        · rw [if_pos e, e, e0]
        · rw [if_neg e]; exact hp j (by omega)
      · rw [am_up_ne (by decide), h58, pD, e0]; omega
      · rw [am_up_ne (by decide), h59, pL]; change _ = _ - pP mv mk w i; rw [e0]; omega
      · rw [am_up_ne (by decide), h510, pH, if_neg (by omega)]
    by_cases hbt : mk.testBit i = true
    · by_cases hl0 : pL mv mk w i ≤ 0
      · have e0 : pP mv mk w i = 0 := by unfold pP; rw [if_pos hbt]; omega
        refine rn_iload (x := (i : Int)) (q := 33) dX6_part_31 rfl rfl ?_
        refine rn_aload_n (x := 5) (q := 34) dX6_part_33 rfl rfl ?_
        refine rn_get (a := 5) (v := .inl (h.1 : Int)) (q := 37) dX6_part_34 fl_X6_38 rfl (am_gi e6) rfl ?_
        refine rn_cmpge (t := 171) (q := 40) dX6_part_37 rfl rfl (fun h => absurd h (by omega)) (fun w37 => ?_)
        refine rn_aload_n (x := 5) (q := 41) dX6_part_40 rfl rfl ?_
        refine rn_get (a := 5) (v := .inr (.inr 11)) (q := 44) dX6_part_41 fl_X6_24 rfl rfl rfl ?_
        refine rn_iload (x := (i : Int)) (q := 46) dX6_part_44 rfl rfl ?_
        refine rn_iconst (q := 47) dX6_part_46 (am_okd rfl) rfl ?_
        refine rn_iastV (a := 10) (m1 := am_up m 10 i 0) (q := 48) dX6_part_47 rfl (by omega) (by omega) rfl rfl ?_
        refine rn_iload_n (x := (mk : Int)) (q := 49) dX6_part_48 rfl rfl ?_
        refine rn_iload (x := (i : Int)) (q := 51) dX6_part_49 rfl rfl ?_
        refine rn_ishr (q := 52) dX6_part_51 rfl ?_
        refine rn_iconst (q := 53) dX6_part_52 (am_okd rfl) rfl ?_
        refine rn_iand (q := 54) dX6_part_53 rfl ?_
        rw [show am_and (am_shr (mk : Int) (i : Int)) 1 = 1 from ((shr_bit mk hmk i hi8).trans (if_pos hbt))]
        refine rn_ifeq (t := 165) (q := 57) dX6_part_54 rfl rfl (fun h => absurd h (by decide)) (fun w54 => ?_)
        refine rn_aload_n (x := 5) (q := 58) dX6_part_57 rfl rfl ?_
        refine rn_get (a := 5) (v := .inl (pL mv mk w i)) (q := 61) dX6_part_58 fl_X6_78 rfl (am_gi h59) rfl ?_
        refine rn_ifle (t := 165) (q := 64) dX6_part_61 rfl rfl (fun w61 => ?_) (fun h => absurd h (by omega))
        refine rn_iincN (x := (i : Int)) (z := ((i + 1 : Nat) : Int)) (ls' := [some (.inr (.inr 6)), some (.inr (.inr (a + 1))), some (.inl (mk : Int)), some (.inr (.inr (r + 1))), some (.inl (ct : Int)), some (.inl ((i + 1 : Nat) : Int))]) (q := 168) dX6_part_165 rfl (by decide) (by omega) (by unfold am_ok; omega) rfl rfl ?_
        refine rn_goto (t := 31) dX6_part_168 rfl ?_
        exact hz e0
      · have hM := s_may8 (l := l) (G := G) (d := d) (mem := am_up m 10 i 0) hr hok (fr_part.code (mem := mem) hr ⟨fun b b1 b2 b3 b4 => (am_up_ne b2).trans (hf.1 b b1 b2 b3 b4), fun k hk => hf.2 k hk⟩ hC) (fr_part.song (mem := mem) hr ⟨fun b b1 b2 b3 b4 => (am_up_ne b2).trans (hf.1 b b1 b2 b3 b4), fun k hk => hf.2 k hk⟩ hs) (fr_part.hrs (mem := mem) hr ⟨fun b b1 b2 b3 b4 => (am_up_ne b2).trans (hf.1 b b1 b2 b3 b4), fun k hk => hf.2 k hk⟩ hh) nt i (hd i) ct hnt (by omega) (hhd i)
        rw [← hmv i] at hM
        have eP1 : min (pL mv mk w i) (mv i) = pP mv mk w i := by unfold pP; rw [if_pos hbt]
        have hpy9 := hpy i
        have hmu : 0 ≤ pP mv mk w i * (h.2.2.2 i : Int) ∧ pP mv mk w i * (h.2.2.2 i : Int) ≤ 81 := ⟨Int.mul_nonneg hPk.1 (by omega), by have := Int.mul_le_mul hPk.2 (show (h.2.2.2 i : Int) ≤ 9 by omega) (by omega) (by omega); omega⟩
        have hfin : ∀ (m2 : am_M), (∀ b, b ≠ r + 3 → b ≠ r + 4 → m2 b = am_up m 10 i 0 b) → am_Rn l G mt_X6_part (d + 4) 31 [some (.inr (.inr 6)), some (.inr (.inr (a + 1))), some (.inl (mk : Int)), some (.inr (.inr (r + 1))), some (.inl (ct : Int)), some (.inl ((i + 1 : Nat) : Int))] [] (am_up (am_up (am_up (am_up m2 10 i (pP mv mk w i)) 5 9 (pL mv mk w (i + 1))) 5 8 (pD mv mk w h.2.2.2 (i + 1))) 5 10 (pH mv mk w (i + 1) : Int)) Q := by
          intro m2 h2
          refine ih (i + 1) _ (by omega) ⟨fun b b1 b2 b3 b4 => ?_, fun k hk => ?_⟩ (fun j hj => ?_) rfl rfl rfl
          · rw [am_up_ne b1, am_up_ne b1, am_up_ne b1, am_up_ne b2, h2 b b3 b4, am_up_ne b2]; exact hf.1 b b1 b2 b3 b4
          · rw [am_up_neq (by omega), am_up_neq (by omega), am_up_neq (by omega), am_up_ne (by decide), h2 5 (by omega) (by omega), am_up_ne (by decide)]; exact hf.2 k hk
          · rw [am_up_ne (by decide), am_up_ne (by decide), am_up_ne (by decide), am_up_at]
            by_cases e : j = i
            · rw [if_pos e, e]
            · rw [if_neg e, h2 10 (by omega) (by omega), am_up_neq e]; exact hp j (by omega)
        by_cases hpos : 0 < pP mv mk w i
        · skip
          refine rn_iload (x := (i : Int)) (q := 33) dX6_part_31 rfl rfl ?_
          refine rn_aload_n (x := 5) (q := 34) dX6_part_33 rfl rfl ?_
          refine rn_get (a := 5) (v := .inl (h.1 : Int)) (q := 37) dX6_part_34 fl_X6_38 rfl (am_gi e6) rfl ?_
          refine rn_cmpge (t := 171) (q := 40) dX6_part_37 rfl rfl (fun h => absurd h (by omega)) (fun w37 => ?_)
          refine rn_aload_n (x := 5) (q := 41) dX6_part_40 rfl rfl ?_
          refine rn_get (a := 5) (v := .inr (.inr 11)) (q := 44) dX6_part_41 fl_X6_24 rfl rfl rfl ?_
          refine rn_iload (x := (i : Int)) (q := 46) dX6_part_44 rfl rfl ?_
          refine rn_iconst (q := 47) dX6_part_46 (am_okd rfl) rfl ?_
          refine rn_iastV (a := 10) (m1 := am_up m 10 i 0) (q := 48) dX6_part_47 rfl (by omega) (by omega) rfl rfl ?_
          refine rn_iload_n (x := (mk : Int)) (q := 49) dX6_part_48 rfl rfl ?_
          refine rn_iload (x := (i : Int)) (q := 51) dX6_part_49 rfl rfl ?_
          refine rn_ishr (q := 52) dX6_part_51 rfl ?_
          refine rn_iconst (q := 53) dX6_part_52 (am_okd rfl) rfl ?_
          refine rn_iand (q := 54) dX6_part_53 rfl ?_
          rw [show am_and (am_shr (mk : Int) (i : Int)) 1 = 1 from ((shr_bit mk hmk i hi8).trans (if_pos hbt))]
          refine rn_ifeq (t := 165) (q := 57) dX6_part_54 rfl rfl (fun h => absurd h (by decide)) (fun w54 => ?_)
          refine rn_aload_n (x := 5) (q := 58) dX6_part_57 rfl rfl ?_
          refine rn_get (a := 5) (v := .inl (pL mv mk w i)) (q := 61) dX6_part_58 fl_X6_78 rfl (am_gi h59) rfl ?_
          refine rn_ifle (t := 165) (q := 64) dX6_part_61 rfl rfl (fun h => absurd h (by omega)) (fun w61 => ?_)
          refine rn_aload_n (x := 5) (q := 65) dX6_part_64 rfl rfl ?_
          refine rn_get (a := 5) (v := .inr (.inr 11)) (q := 68) dX6_part_65 fl_X6_24 rfl rfl rfl ?_
          refine rn_iload (x := (i : Int)) (q := 70) dX6_part_68 rfl rfl ?_
          refine rn_aload_n (x := 5) (q := 71) dX6_part_70 rfl rfl ?_
          refine rn_get (a := 5) (v := .inl (pL mv mk w i)) (q := 74) dX6_part_71 fl_X6_78 rfl (am_gi h59) rfl ?_
          refine rn_aload_n (x := 5) (q := 75) dX6_part_74 rfl rfl ?_
          refine rn_aload_n (x := r) (q := 76) dX6_part_75 rfl rfl ?_
          refine rn_aload_n (x := a) (q := 77) dX6_part_76 rfl rfl ?_
          refine rn_get (a := a) (v := .inl (nt : Int)) (q := 80) dX6_part_77 fl_X6_73 (am_est_k ha) (am_gi ((by rw [am_up_ne (by omega), hf.1 a (by omega) (by omega) (by omega) (by omega)]; exact hnm) : am_up m 10 i 0 a 3 = (nt : Int))) rfl ?_
          refine rn_iload (x := (i : Int)) (q := 82) dX6_part_80 rfl rfl ?_
          refine rn_aload_n (x := a) (q := 83) dX6_part_82 rfl rfl ?_
          refine rn_get (a := a) (v := .inr (.inr (a + 1 + 1))) (q := 86) dX6_part_83 fl_X6_87 (am_est_k ha) (am_est_f0 ha) rfl ?_
          refine rn_iload (x := (i : Int)) (q := 88) dX6_part_86 rfl rfl ?_
          refine rn_ialdV (a := (a + 1)) (v := (hd i : Int)) (q := 89) dX6_part_88 (am_est_k1 ha) (by omega) (by omega) (by rw [am_up_ne (by omega), hf.1 (a + 1) (by omega) (by omega) (by omega) (by omega)]; exact hhm i hi8) rfl ?_
          refine rn_iload (x := (ct : Int)) (q := 91) dX6_part_89 rfl rfl ?_
          refine rn_callV (b := 5) (as := [.inr (.inr (r + 1)), .inl (nt : Int), .inl (i : Int), .inl (hd i : Int), .inl (ct : Int)]) (rest := [.inl (pL mv mk w i), .inl (i : Int), .inr (.inr 11)]) (q := 94) dX6_part_91 ml_X6_90 sm_X6_may rfl rfl (by decide) (by omega) rfl rfl (Nat.le_of_ble_eq_true rfl) rfl (hM) ?_
          intro r91 mem91 hq91
          obtain ⟨rfl, hfr⟩ := hq91
          show am_Rn l G _ _ 94 [some (.inr (.inr 6)), some (.inr (.inr (a + 1))), some (.inl (mk : Int)), some (.inr (.inr (r + 1))), some (.inl (ct : Int)), some (.inl (i : Int))] [.inl (mv i), .inl (pL mv mk w i), .inl (i : Int), .inr (.inr 11)] mem91 _
          refine rn_mmin (q := 97) dX6_part_94 am_mm_X6_44 am_mminw (Nat.le_of_ble_eq_true rfl) rfl ?_
          rw [eP1]
          refine rn_iastV (a := 10) (m1 := am_up mem91 10 i (pP mv mk w i)) (q := 98) dX6_part_97 rfl (by omega) (by omega) rfl rfl ?_
          refine rn_aload_n (x := 5) (q := 99) dX6_part_98 rfl rfl ?_
          refine rn_dup (q := 100) dX6_part_99 rfl rfl ?_
          refine rn_get (a := 5) (v := .inl (pL mv mk w i)) (q := 103) dX6_part_100 fl_X6_78 rfl (am_gi ((by show mem91 5 9 = _; rw [hfr 5 (by omega) (by omega)]; exact h59) : mem91 5 9 = pL mv mk w i)) rfl ?_
          refine rn_aload_n (x := 5) (q := 104) dX6_part_103 rfl rfl ?_
          refine rn_get (a := 5) (v := .inr (.inr 11)) (q := 107) dX6_part_104 fl_X6_24 rfl rfl rfl ?_
          refine rn_iload (x := (i : Int)) (q := 109) dX6_part_107 rfl rfl ?_
          refine rn_ialdV (a := 10) (v := pP mv mk w i) (q := 110) dX6_part_109 rfl (by omega) (by omega) am_up_self rfl ?_
          refine rn_isubN (z := pL mv mk w (i + 1)) (q := 111) dX6_part_110 (by rw [pL, pP]) (by unfold am_ok; omega) rfl ?_
          refine rn_puti (a := 5) (q := 114) dX6_part_111 fl_X6_78 rfl rfl rfl rfl ?_
          refine rn_aload_n (x := 5) (q := 115) dX6_part_114 rfl rfl ?_
          refine rn_dup (q := 116) dX6_part_115 rfl rfl ?_
          refine rn_get (a := 5) (v := .inl (pD mv mk w h.2.2.2 i)) (q := 119) dX6_part_116 fl_X6_81 rfl (am_gi ((by show mem91 5 8 = _; rw [hfr 5 (by omega) (by omega)]; exact h58) : mem91 5 8 = pD mv mk w h.2.2.2 i)) rfl ?_
          refine rn_aload_n (x := 5) (q := 120) dX6_part_119 rfl rfl ?_
          refine rn_get (a := 5) (v := .inr (.inr 11)) (q := 123) dX6_part_120 fl_X6_24 rfl rfl rfl ?_
          refine rn_iload (x := (i : Int)) (q := 125) dX6_part_123 rfl rfl ?_
          refine rn_ialdV (a := 10) (v := pP mv mk w i) (q := 126) dX6_part_125 rfl (by omega) (by omega) (by (repeat rw [am_up_ne (by decide)]); exact am_up_self) rfl ?_
          refine rn_aload_n (x := 5) (q := 127) dX6_part_126 rfl rfl ?_
          refine rn_get (a := 5) (v := .inr (.inr 10)) (q := 130) dX6_part_127 fl_X6_21 rfl rfl rfl ?_
          refine rn_iload (x := (i : Int)) (q := 132) dX6_part_130 rfl rfl ?_
          refine rn_ialdV (a := 9) (v := (h.2.2.2 i : Int)) (q := 133) dX6_part_132 rfl (by omega) (by omega) (by (repeat rw [am_up_ne (by decide)]); rw [hfr 9 (by omega) (by omega), am_up_ne (by decide)]; exact ((hf.hrs hr hh).2.2 i (by omega)).2.2) rfl ?_
          refine rn_imulN (z := pP mv mk w i * (h.2.2.2 i : Int)) (q := 134) dX6_part_133 rfl (by unfold am_ok; omega) rfl ?_
          refine rn_iaddN (z := pD mv mk w h.2.2.2 (i + 1)) (q := 135) dX6_part_134 (by rw [pD]) (by unfold am_ok; omega) rfl ?_
          refine rn_puti (a := 5) (q := 138) dX6_part_135 fl_X6_81 rfl rfl rfl rfl ?_
          refine rn_aload_n (x := 5) (q := 139) dX6_part_138 rfl rfl ?_
          refine rn_dup (q := 140) dX6_part_139 rfl rfl ?_
          refine rn_get (a := 5) (v := .inl (pH mv mk w i : Int)) (q := 143) dX6_part_140 fl_X6_84 rfl (am_gi ((by show mem91 5 10 = _; rw [hfr 5 (by omega) (by omega)]; exact h510) : mem91 5 10 = (pH mv mk w i : Int))) rfl ?_
          refine rn_aload_n (x := 5) (q := 144) dX6_part_143 rfl rfl ?_
          refine rn_get (a := 5) (v := .inr (.inr 11)) (q := 147) dX6_part_144 fl_X6_24 rfl rfl rfl ?_
          refine rn_iload (x := (i : Int)) (q := 149) dX6_part_147 rfl rfl ?_
          refine rn_ialdV (a := 10) (v := pP mv mk w i) (q := 150) dX6_part_149 rfl (by omega) (by omega) (by (repeat rw [am_up_ne (by decide)]); exact am_up_self) rfl ?_
          refine rn_ifle (t := 160) (q := 153) dX6_part_150 rfl rfl (fun h => absurd h (by omega)) (fun w150 => ?_)
          refine rn_iconst (q := 154) dX6_part_153 (am_okd rfl) rfl ?_
          refine rn_iload (x := (i : Int)) (q := 156) dX6_part_154 rfl rfl ?_
          refine rn_ishl (q := 157) dX6_part_156 rfl ?_
          refine rn_goto (t := 161) dX6_part_157 rfl ?_
          refine rn_ior (q := 162) dX6_part_161 rfl ?_
          rw [show am_or (pH mv mk w i : Int) (am_shl 1 (i : Int)) = (pH mv mk w (i + 1) : Int) from ((or_bit i hi8 _ hHb).trans (by rw [pH, if_pos hpos]))]
          refine rn_puti (a := 5) (q := 165) dX6_part_162 fl_X6_84 rfl rfl rfl rfl ?_
          refine rn_iincN (x := (i : Int)) (z := ((i + 1 : Nat) : Int)) (ls' := [some (.inr (.inr 6)), some (.inr (.inr (a + 1))), some (.inl (mk : Int)), some (.inr (.inr (r + 1))), some (.inl (ct : Int)), some (.inl ((i + 1 : Nat) : Int))]) (q := 168) dX6_part_165 rfl (by decide) (by omega) (by unfold am_ok; omega) rfl rfl ?_
          refine rn_goto (t := 31) dX6_part_168 rfl ?_
          exact hfin mem91 hfr
        · skip
          refine rn_iload (x := (i : Int)) (q := 33) dX6_part_31 rfl rfl ?_
          refine rn_aload_n (x := 5) (q := 34) dX6_part_33 rfl rfl ?_
          refine rn_get (a := 5) (v := .inl (h.1 : Int)) (q := 37) dX6_part_34 fl_X6_38 rfl (am_gi e6) rfl ?_
          refine rn_cmpge (t := 171) (q := 40) dX6_part_37 rfl rfl (fun h => absurd h (by omega)) (fun w37 => ?_)
          refine rn_aload_n (x := 5) (q := 41) dX6_part_40 rfl rfl ?_
          refine rn_get (a := 5) (v := .inr (.inr 11)) (q := 44) dX6_part_41 fl_X6_24 rfl rfl rfl ?_
          refine rn_iload (x := (i : Int)) (q := 46) dX6_part_44 rfl rfl ?_
          refine rn_iconst (q := 47) dX6_part_46 (am_okd rfl) rfl ?_
          refine rn_iastV (a := 10) (m1 := am_up m 10 i 0) (q := 48) dX6_part_47 rfl (by omega) (by omega) rfl rfl ?_
          refine rn_iload_n (x := (mk : Int)) (q := 49) dX6_part_48 rfl rfl ?_
          refine rn_iload (x := (i : Int)) (q := 51) dX6_part_49 rfl rfl ?_
          refine rn_ishr (q := 52) dX6_part_51 rfl ?_
          refine rn_iconst (q := 53) dX6_part_52 (am_okd rfl) rfl ?_
          refine rn_iand (q := 54) dX6_part_53 rfl ?_
          rw [show am_and (am_shr (mk : Int) (i : Int)) 1 = 1 from ((shr_bit mk hmk i hi8).trans (if_pos hbt))]
          refine rn_ifeq (t := 165) (q := 57) dX6_part_54 rfl rfl (fun h => absurd h (by decide)) (fun w54 => ?_)
          refine rn_aload_n (x := 5) (q := 58) dX6_part_57 rfl rfl ?_
          refine rn_get (a := 5) (v := .inl (pL mv mk w i)) (q := 61) dX6_part_58 fl_X6_78 rfl (am_gi h59) rfl ?_
          refine rn_ifle (t := 165) (q := 64) dX6_part_61 rfl rfl (fun h => absurd h (by omega)) (fun w61 => ?_)
          refine rn_aload_n (x := 5) (q := 65) dX6_part_64 rfl rfl ?_
          refine rn_get (a := 5) (v := .inr (.inr 11)) (q := 68) dX6_part_65 fl_X6_24 rfl rfl rfl ?_
          refine rn_iload (x := (i : Int)) (q := 70) dX6_part_68 rfl rfl ?_
          refine rn_aload_n (x := 5) (q := 71) dX6_part_70 rfl rfl ?_
          refine rn_get (a := 5) (v := .inl (pL mv mk w i)) (q := 74) dX6_part_71 fl_X6_78 rfl (am_gi h59) rfl ?_
          refine rn_aload_n (x := 5) (q := 75) dX6_part_74 rfl rfl ?_
          refine rn_aload_n (x := r) (q := 76) dX6_part_75 rfl rfl ?_
          refine rn_aload_n (x := a) (q := 77) dX6_part_76 rfl rfl ?_
          refine rn_get (a := a) (v := .inl (nt : Int)) (q := 80) dX6_part_77 fl_X6_73 (am_est_k ha) (am_gi ((by rw [am_up_ne (by omega), hf.1 a (by omega) (by omega) (by omega) (by omega)]; exact hnm) : am_up m 10 i 0 a 3 = (nt : Int))) rfl ?_
          refine rn_iload (x := (i : Int)) (q := 82) dX6_part_80 rfl rfl ?_
          refine rn_aload_n (x := a) (q := 83) dX6_part_82 rfl rfl ?_
          refine rn_get (a := a) (v := .inr (.inr (a + 1 + 1))) (q := 86) dX6_part_83 fl_X6_87 (am_est_k ha) (am_est_f0 ha) rfl ?_
          refine rn_iload (x := (i : Int)) (q := 88) dX6_part_86 rfl rfl ?_
          refine rn_ialdV (a := (a + 1)) (v := (hd i : Int)) (q := 89) dX6_part_88 (am_est_k1 ha) (by omega) (by omega) (by rw [am_up_ne (by omega), hf.1 (a + 1) (by omega) (by omega) (by omega) (by omega)]; exact hhm i hi8) rfl ?_
          refine rn_iload (x := (ct : Int)) (q := 91) dX6_part_89 rfl rfl ?_
          refine rn_callV (b := 5) (as := [.inr (.inr (r + 1)), .inl (nt : Int), .inl (i : Int), .inl (hd i : Int), .inl (ct : Int)]) (rest := [.inl (pL mv mk w i), .inl (i : Int), .inr (.inr 11)]) (q := 94) dX6_part_91 ml_X6_90 sm_X6_may rfl rfl (by decide) (by omega) rfl rfl (Nat.le_of_ble_eq_true rfl) rfl (hM) ?_
          intro r91 mem91 hq91
          obtain ⟨rfl, hfr⟩ := hq91
          show am_Rn l G _ _ 94 [some (.inr (.inr 6)), some (.inr (.inr (a + 1))), some (.inl (mk : Int)), some (.inr (.inr (r + 1))), some (.inl (ct : Int)), some (.inl (i : Int))] [.inl (mv i), .inl (pL mv mk w i), .inl (i : Int), .inr (.inr 11)] mem91 _
          refine rn_mmin (q := 97) dX6_part_94 am_mm_X6_44 am_mminw (Nat.le_of_ble_eq_true rfl) rfl ?_
          rw [eP1]
          refine rn_iastV (a := 10) (m1 := am_up mem91 10 i (pP mv mk w i)) (q := 98) dX6_part_97 rfl (by omega) (by omega) rfl rfl ?_
          refine rn_aload_n (x := 5) (q := 99) dX6_part_98 rfl rfl ?_
          refine rn_dup (q := 100) dX6_part_99 rfl rfl ?_
          refine rn_get (a := 5) (v := .inl (pL mv mk w i)) (q := 103) dX6_part_100 fl_X6_78 rfl (am_gi ((by show mem91 5 9 = _; rw [hfr 5 (by omega) (by omega)]; exact h59) : mem91 5 9 = pL mv mk w i)) rfl ?_
          refine rn_aload_n (x := 5) (q := 104) dX6_part_103 rfl rfl ?_
          refine rn_get (a := 5) (v := .inr (.inr 11)) (q := 107) dX6_part_104 fl_X6_24 rfl rfl rfl ?_
          refine rn_iload (x := (i : Int)) (q := 109) dX6_part_107 rfl rfl ?_
          refine rn_ialdV (a := 10) (v := pP mv mk w i) (q := 110) dX6_part_109 rfl (by omega) (by omega) am_up_self rfl ?_
          refine rn_isubN (z := pL mv mk w (i + 1)) (q := 111) dX6_part_110 (by rw [pL, pP]) (by unfold am_ok; omega) rfl ?_
          refine rn_puti (a := 5) (q := 114) dX6_part_111 fl_X6_78 rfl rfl rfl rfl ?_
          refine rn_aload_n (x := 5) (q := 115) dX6_part_114 rfl rfl ?_
          refine rn_dup (q := 116) dX6_part_115 rfl rfl ?_
          refine rn_get (a := 5) (v := .inl (pD mv mk w h.2.2.2 i)) (q := 119) dX6_part_116 fl_X6_81 rfl (am_gi ((by show mem91 5 8 = _; rw [hfr 5 (by omega) (by omega)]; exact h58) : mem91 5 8 = pD mv mk w h.2.2.2 i)) rfl ?_
          refine rn_aload_n (x := 5) (q := 120) dX6_part_119 rfl rfl ?_
          refine rn_get (a := 5) (v := .inr (.inr 11)) (q := 123) dX6_part_120 fl_X6_24 rfl rfl rfl ?_
          refine rn_iload (x := (i : Int)) (q := 125) dX6_part_123 rfl rfl ?_
          refine rn_ialdV (a := 10) (v := pP mv mk w i) (q := 126) dX6_part_125 rfl (by omega) (by omega) (by (repeat rw [am_up_ne (by decide)]); exact am_up_self) rfl ?_
          refine rn_aload_n (x := 5) (q := 127) dX6_part_126 rfl rfl ?_
          refine rn_get (a := 5) (v := .inr (.inr 10)) (q := 130) dX6_part_127 fl_X6_21 rfl rfl rfl ?_
          refine rn_iload (x := (i : Int)) (q := 132) dX6_part_130 rfl rfl ?_
          refine rn_ialdV (a := 9) (v := (h.2.2.2 i : Int)) (q := 133) dX6_part_132 rfl (by omega) (by omega) (by (repeat rw [am_up_ne (by decide)]); rw [hfr 9 (by omega) (by omega), am_up_ne (by decide)]; exact ((hf.hrs hr hh).2.2 i (by omega)).2.2) rfl ?_
          refine rn_imulN (z := pP mv mk w i * (h.2.2.2 i : Int)) (q := 134) dX6_part_133 rfl (by unfold am_ok; omega) rfl ?_
          refine rn_iaddN (z := pD mv mk w h.2.2.2 (i + 1)) (q := 135) dX6_part_134 (by rw [pD]) (by unfold am_ok; omega) rfl ?_
          refine rn_puti (a := 5) (q := 138) dX6_part_135 fl_X6_81 rfl rfl rfl rfl ?_
          refine rn_aload_n (x := 5) (q := 139) dX6_part_138 rfl rfl ?_
          refine rn_dup (q := 140) dX6_part_139 rfl rfl ?_
          refine rn_get (a := 5) (v := .inl (pH mv mk w i : Int)) (q := 143) dX6_part_140 fl_X6_84 rfl (am_gi ((by show mem91 5 10 = _; rw [hfr 5 (by omega) (by omega)]; exact h510) : mem91 5 10 = (pH mv mk w i : Int))) rfl ?_
          refine rn_aload_n (x := 5) (q := 144) dX6_part_143 rfl rfl ?_
          refine rn_get (a := 5) (v := .inr (.inr 11)) (q := 147) dX6_part_144 fl_X6_24 rfl rfl rfl ?_
          refine rn_iload (x := (i : Int)) (q := 149) dX6_part_147 rfl rfl ?_
          refine rn_ialdV (a := 10) (v := pP mv mk w i) (q := 150) dX6_part_149 rfl (by omega) (by omega) (by (repeat rw [am_up_ne (by decide)]); exact am_up_self) rfl ?_
          refine rn_ifle (t := 160) (q := 153) dX6_part_150 rfl rfl (fun w150 => ?_) (fun h => absurd h (by omega))
          refine rn_iconst (q := 161) dX6_part_160 (am_okd rfl) rfl ?_
          refine rn_ior (q := 162) dX6_part_161 rfl ?_
          rw [show am_or (pH mv mk w i : Int) 0 = (pH mv mk w (i + 1) : Int) from ((or_zero _ hH8).trans (by rw [pH, if_neg hpos]))]
          refine rn_puti (a := 5) (q := 165) dX6_part_162 fl_X6_84 rfl rfl rfl rfl ?_
          refine rn_iincN (x := (i : Int)) (z := ((i + 1 : Nat) : Int)) (ls' := [some (.inr (.inr 6)), some (.inr (.inr (a + 1))), some (.inl (mk : Int)), some (.inr (.inr (r + 1))), some (.inl (ct : Int)), some (.inl ((i + 1 : Nat) : Int))]) (q := 168) dX6_part_165 rfl (by decide) (by omega) (by unfold am_ok; omega) rfl rfl ?_
          refine rn_goto (t := 31) dX6_part_168 rfl ?_
          exact hfin mem91 hfr
    · have e0 : pP mv mk w i = 0 := by unfold pP; rw [if_neg hbt]
      refine rn_iload (x := (i : Int)) (q := 33) dX6_part_31 rfl rfl ?_
      refine rn_aload_n (x := 5) (q := 34) dX6_part_33 rfl rfl ?_
      refine rn_get (a := 5) (v := .inl (h.1 : Int)) (q := 37) dX6_part_34 fl_X6_38 rfl (am_gi e6) rfl ?_
      refine rn_cmpge (t := 171) (q := 40) dX6_part_37 rfl rfl (fun h => absurd h (by omega)) (fun w37 => ?_)
      refine rn_aload_n (x := 5) (q := 41) dX6_part_40 rfl rfl ?_
      refine rn_get (a := 5) (v := .inr (.inr 11)) (q := 44) dX6_part_41 fl_X6_24 rfl rfl rfl ?_
      refine rn_iload (x := (i : Int)) (q := 46) dX6_part_44 rfl rfl ?_
      refine rn_iconst (q := 47) dX6_part_46 (am_okd rfl) rfl ?_
      refine rn_iastV (a := 10) (m1 := am_up m 10 i 0) (q := 48) dX6_part_47 rfl (by omega) (by omega) rfl rfl ?_
      refine rn_iload_n (x := (mk : Int)) (q := 49) dX6_part_48 rfl rfl ?_
      refine rn_iload (x := (i : Int)) (q := 51) dX6_part_49 rfl rfl ?_
      refine rn_ishr (q := 52) dX6_part_51 rfl ?_
      refine rn_iconst (q := 53) dX6_part_52 (am_okd rfl) rfl ?_
      refine rn_iand (q := 54) dX6_part_53 rfl ?_
      rw [show am_and (am_shr (mk : Int) (i : Int)) 1 = 0 from ((shr_bit mk hmk i hi8).trans (if_neg hbt))]
      refine rn_ifeq (t := 165) (q := 57) dX6_part_54 rfl rfl (fun w54 => ?_) (fun h => absurd h (by decide))
      refine rn_iincN (x := (i : Int)) (z := ((i + 1 : Nat) : Int)) (ls' := [some (.inr (.inr 6)), some (.inr (.inr (a + 1))), some (.inl (mk : Int)), some (.inr (.inr (r + 1))), some (.inl (ct : Int)), some (.inl ((i + 1 : Nat) : Int))]) (q := 168) dX6_part_165 rfl (by decide) (by omega) (by unfold am_ok; omega) rfl rfl ?_
      refine rn_goto (t := 31) dX6_part_168 rfl ?_
      exact hz e0
end P42
