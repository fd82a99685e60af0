/-! the most that can be paid: mostPaid -/
def cap (sh : Nat → Int) (py : Nat → Nat) (mk t : Nat) : Nat → Int
  | 0 => 0
  | i + 1 => cap sh py mk t i + (if mk.testBit i = true ∧ t ≤ py i then sh i else 0)
def eqc (sh : Nat → Int) (py : Nat → Nat) (mk p : Nat) : Nat → Int
  | 0 => 0
  | i + 1 => eqc sh py mk p i + (if mk.testBit i = true ∧ py i = p then sh i else 0)
def gvS (f : Nat → Int) : Nat → Int
  | 0 => 0
  | t + 1 => gvS f t + f (t + 1)
def gm (sh : Nat → Int) (py : Nat → Nat) (mk n : Nat) (w : Int) (t : Nat) : Int := min w (cap sh py mk t n)
def gv (sh : Nat → Int) (py : Nat → Nat) (mk n : Nat) (w : Int) : Int := gvS (gm sh py mk n w) 9
section G74
variable {sh : Nat → Int} {py : Nat → Nat} {mk n : Nat} {w : Int}
theorem cap_nn (hs : ∀ i, 0 ≤ sh i) (t : Nat) : ∀ i, 0 ≤ cap sh py mk t i := by
  intro i
  induction i with
  | zero => exact Int.le_refl _
  | succ i ih => have := hs i; rw [cap]; split <;> omega
theorem eqc_nn (hs : ∀ i, 0 ≤ sh i) (t : Nat) : ∀ i, 0 ≤ eqc sh py mk t i := by
  intro i
  induction i with
  | zero => exact Int.le_refl _
  | succ i ih => have := hs i; rw [eqc]; split <;> omega
theorem cap_eq (p : Nat) : ∀ i, cap sh py mk p i = cap sh py mk (p + 1) i + eqc sh py mk p i := by
  intro i
  induction i with
  | zero => rfl
  | succ i ih =>
    rw [cap, cap, eqc, ih]
    by_cases hb : mk.testBit i = true
    · by_cases h1 : py i = p
      · rw [if_pos ⟨hb, by omega⟩, if_neg (by omega), if_pos ⟨hb, h1⟩]; omega
      · by_cases h2 : p ≤ py i
        · rw [if_pos ⟨hb, h2⟩, if_pos ⟨hb, by omega⟩, if_neg (fun q => h1 q.2)]; omega
        · rw [if_neg (fun q => h2 q.2), if_neg (fun q => by omega), if_neg (fun q => h1 q.2)]; omega
    · rw [if_neg (fun q => hb q.1), if_neg (fun q => hb q.1), if_neg (fun q => hb q.1)]; omega
theorem cap_10 (hp : ∀ i, py i ≤ 9) : ∀ i, cap sh py mk 10 i = 0 := by
  intro i
  induction i with
  | zero => rfl
  | succ i ih => have := hp i; rw [cap, ih, if_neg (fun q => by omega)]; rfl
theorem gm_ok (hs : ∀ i, 0 ≤ sh i) (hw : 0 ≤ w ∧ w ≤ 9) (t : Nat) : 0 ≤ gm sh py mk n w t ∧ gm sh py mk n w t ≤ 9 := by
  have := cap_nn (py := py) (mk := mk) hs t n
  unfold gm; omega
theorem gvS_ok {f : Nat → Int} (h : ∀ t, 0 ≤ f t ∧ f t ≤ 9) : ∀ t, 0 ≤ gvS f t ∧ gvS f t ≤ 9 * (t : Int) := by
  intro t
  induction t with
  | zero => exact ⟨Int.le_refl _, Int.le_refl _⟩
  | succ t ih => have := h (t + 1); rw [gvS]; omega
theorem gv_ok (hs : ∀ i, 0 ≤ sh i) (hw : 0 ≤ w ∧ w ≤ 9) : 0 ≤ gv sh py mk n w ∧ gv sh py mk n w ≤ 81 := by
  have := gvS_ok (gm_ok (py := py) (mk := mk) (n := n) hs hw) 9
  unfold gv; omega
/-- what is paid when those who pay p and more have had theirs -/
def gpd (sh : Nat → Int) (py : Nat → Nat) (mk n : Nat) (w : Int) (p : Nat) : Int := (p : Int) * gm sh py mk n w p + (gv sh py mk n w - gvS (gm sh py mk n w) p)
theorem gpd_s {p : Nat} : gpd sh py mk n w p = gpd sh py mk n w (p + 1) + (p : Int) * (gm sh py mk n w p - gm sh py mk n w (p + 1)) := by
  unfold gpd
  rw [gvS, Int.mul_sub, show ((p + 1 : Nat) : Int) = (p : Int) + 1 by omega, Int.add_mul, Int.one_mul]
  omega
theorem gpd_10 (hp : ∀ i, py i ≤ 9) (hw : 0 ≤ w) : gpd sh py mk n w 10 = 0 := by
  have h0 : gm sh py mk n w 10 = 0 := by unfold gm; rw [cap_10 hp]; omega
  have h1 : gvS (gm sh py mk n w) 10 = gvS (gm sh py mk n w) 9 + gm sh py mk n w 10 := rfl
  unfold gpd gv
  rw [h1, h0]
  omega
theorem gpd_1 : gpd sh py mk n w 1 = gv sh py mk n w := by
  have h1 : gvS (gm sh py mk n w) 1 = 0 + gm sh py mk n w 1 := rfl
  unfold gpd
  rw [h1]
  omega
theorem gvS_mono {f : Nat → Int} (h : ∀ t, 0 ≤ f t ∧ f t ≤ 9) : ∀ j t, gvS f (t + j) - gvS f t ≤ 9 * (j : Int) ∧ 0 ≤ gvS f (t + j) - gvS f t := by
  intro j
  induction j with
  | zero => intro t; rw [Nat.add_zero]; omega
  | succ j ih => intro t; have := h (t + j + 1); have := ih t; rw [← Nat.add_assoc, gvS]; omega
theorem gpd_ok (hs : ∀ i, 0 ≤ sh i) (hw : 0 ≤ w ∧ w ≤ 9) {p : Nat} (hp : p ≤ 9) : 0 ≤ gpd sh py mk n w p ∧ gpd sh py mk n w p ≤ 81 := by
  have h1 := gm_ok (py := py) (mk := mk) (n := n) hs hw p
  have h2 := gvS_mono (gm_ok (py := py) (mk := mk) (n := n) hs hw) (9 - p) p
  rw [show p + (9 - p) = 9 by omega] at h2
  have h3 : (p : Int) * gm sh py mk n w p ≤ (p : Int) * 9 := Int.mul_le_mul_of_nonneg_left h1.2 (by omega)
  have h4 : 0 ≤ (p : Int) * gm sh py mk n w p := Int.mul_nonneg (by omega) h1.1
  unfold gpd gv
  omega
theorem gp_step {B p x y m : Int} : B + p * (x - m) + (y - x) * p = B + p * (y - m) := by
  rw [Int.mul_comm (y - x) p, Int.mul_sub, Int.mul_sub, Int.mul_sub]; omega
end G74
section P74
variable {l : Launch} {G : am_G} {d : Nat} {r : Nat} {X : List Nat} {C : List Int} {sn : Nat} {sg : Nat → Nat} {h : hrs} {e : est} {NB : Nat} {mem m : am_M}
theorem c_mostPaid (q : CQ r X C sn sg h e NB mem) {sh : Nat → Int} (hsh : ∀ i, i < h.1 → mem 79 i = sh i) (hs0 : ∀ i, 0 ≤ sh i) (mk : Nat) (hmk : mk < 256) (w : Int) (hw : 0 ≤ w ∧ w ≤ 9) : am_Sm l G yX8_mostPaid mt_X8_mostPaid d [.inr (.inr 1), .inl (mk : Int), .inl w] mem (am_rr (some (.inl (gv sh h.2.2.2 mk h.1 w))) mem) := by
  refine am_enterQ (ls := [some (.inr (.inr 1)), some (.inl (mk : Int)), some (.inl w), none, none, none, none, none]) (by decide) rfl (Nat.le_of_ble_eq_true rfl) rfl (fun hok Q hQ => ?_)
  have b := q.bd
  have hp9 := q.pa9
  have L : ∀ (p : Nat) (l6 l7 : Option am_V), p ≤ 9 → am_Rn l G mt_X8_mostPaid d 9 [some (.inr (.inr 1)), some (.inl (mk : Int)), some (.inl w), some (.inl (w - gm sh h.2.2.2 mk h.1 w (p + 1))), some (.inl (gpd sh h.2.2.2 mk h.1 w (p + 1))), some (.inl (p : Int)), l6, l7] [] mem Q := by
    intro p
    induction p with
    | zero =>
      intro l6 l7 _
      refine rn_iload (x := ((0 : Nat) : Int)) (q := 11) dX8_mostPaid_9 rfl rfl ?_
      refine rn_ifle (t := 93) (q := 14) dX8_mostPaid_11 rfl rfl (fun w11 => ?_) (fun h => absurd h (by omega))
      refine rn_iload (x := (gpd sh h.2.2.2 mk h.1 w (0 + 1))) (q := 95) dX8_mostPaid_93 rfl rfl ?_
      refine rn_iret dX8_mostPaid_95 rfl ?_
      exact hQ _ _ ⟨by rw [Nat.zero_add, gpd_1], rfl⟩
    | succ p ihp =>
      intro l6 l7 hp
      obtain ⟨P, eP⟩ : ∃ P, P = p + 1 := ⟨_, rfl⟩
      rw [← eP]
      have g1 := gm_ok (py := h.2.2.2) (mk := mk) (n := h.1) hs0 hw (P + 1)
      have g2 : 0 ≤ gpd sh h.2.2.2 mk h.1 w (P + 1) ∧ gpd sh h.2.2.2 mk h.1 w (P + 1) ≤ 81 := by
        by_cases h10 : P + 1 = 10
        · rw [h10, gpd_10 hp9 hw.1]; omega
        · exact gpd_ok hs0 hw (by omega)
      have c0 := cap_nn (py := h.2.2.2) (mk := mk) hs0 (P + 1) h.1
      have K : ∀ i : Nat, i ≤ h.1 → ∀ (x y : Int) (l7 : Option am_V), x = w - min w (cap sh h.2.2.2 mk (P + 1) h.1 + eqc sh h.2.2.2 mk P i) → y = gpd sh h.2.2.2 mk h.1 w (P + 1) + (P : Int) * (min w (cap sh h.2.2.2 mk (P + 1) h.1 + eqc sh h.2.2.2 mk P i) - gm sh h.2.2.2 mk h.1 w (P + 1)) → am_Rn l G mt_X8_mostPaid d 17 [some (.inr (.inr 1)), some (.inl (mk : Int)), some (.inl w), some (.inl x), some (.inl y), some (.inl (P : Int)), some (.inl (i : Int)), l7] [] mem Q := by
        refine am_dn h.1 (fun i hi ih x y l7 hx hy => ?_)
        have e0 := eqc_nn (py := h.2.2.2) (mk := mk) hs0 P i
        have s0 := hs0 i
        by_cases hin : i < h.1
        · have e1 : eqc sh h.2.2.2 mk P (i + 1) = eqc sh h.2.2.2 mk P i + (if mk.testBit i = true ∧ h.2.2.2 i = P then sh i else 0) := rfl
          obtain ⟨A, hA⟩ : ∃ A, A = min w (cap sh h.2.2.2 mk (P + 1) h.1 + eqc sh h.2.2.2 mk P i) := ⟨_, rfl⟩
          have hAm : gm sh h.2.2.2 mk h.1 w (P + 1) ≤ A := by unfold gm; omega
          have hy9 : 0 ≤ (P : Int) * (A - gm sh h.2.2.2 mk h.1 w (P + 1)) ∧ (P : Int) * (A - gm sh h.2.2.2 mk h.1 w (P + 1)) ≤ 81 := ⟨Int.mul_nonneg (by omega) (by omega), by have := Int.mul_le_mul (show (P : Int) ≤ 9 by omega) (show A - gm sh h.2.2.2 mk h.1 w (P + 1) ≤ 9 by omega) (by omega) (by omega); omega⟩
          have hmu : 0 ≤ min x (sh i) * (P : Int) ∧ min x (sh i) * (P : Int) ≤ 81 := ⟨Int.mul_nonneg (by omega) (by omega), by have := Int.mul_le_mul (show min x (sh i) ≤ 9 by omega) (show (P : Int) ≤ 9 by omega) (by omega) (by omega); omega⟩
          rw [← hA] at hx hy
          refine rn_iload (x := (i : Int)) (q := 19) dX8_mostPaid_17 rfl rfl ?_
          refine rn_aload_n (x := 0) (q := 20) dX8_mostPaid_19 rfl rfl ?_
          refine rn_get (a := 0) (v := .inr (.inr 6)) (q := 23) dX8_mostPaid_20 fl_X8_26 rfl rfl rfl ?_
          refine rn_get (a := 5) (v := .inl (h.1 : Int)) (q := 26) dX8_mostPaid_23 fl_X8_136 rfl (am_gi q.n) rfl ?_
          refine rn_cmpge (t := 87) (q := 29) dX8_mostPaid_26 rfl rfl (fun h => absurd h (by omega)) (fun w26 => ?_)
          refine rn_iload_n (x := (mk : Int)) (q := 30) dX8_mostPaid_29 rfl rfl ?_
          refine rn_iload (x := (i : Int)) (q := 32) dX8_mostPaid_30 rfl rfl ?_
          refine rn_ishr (q := 33) dX8_mostPaid_32 rfl ?_
          refine rn_iconst (q := 34) dX8_mostPaid_33 (am_okd rfl) rfl ?_
          refine rn_iand (q := 35) dX8_mostPaid_34 rfl ?_
          rw [am_bit (b := mk) (i := i) (by omega) (by omega)]
          by_cases b34 : Nat.testBit mk i = true
          · rw [if_pos b34]
            refine rn_ifeq (t := 81) (q := 38) dX8_mostPaid_35 rfl rfl (fun h => absurd h (by decide)) (fun w35 => ?_)
            refine rn_aload_n (x := 0) (q := 39) dX8_mostPaid_38 rfl rfl ?_
            refine rn_get (a := 0) (v := .inr (.inr 6)) (q := 42) dX8_mostPaid_39 fl_X8_26 rfl rfl rfl ?_
            refine rn_get (a := 5) (v := .inr (.inr 10)) (q := 45) dX8_mostPaid_42 fl_X8_156 rfl rfl rfl ?_
            refine rn_iload (x := (i : Int)) (q := 47) dX8_mostPaid_45 rfl rfl ?_
            refine rn_ialdV (a := 9) (v := (h.2.2.2 i : Int)) (q := 48) dX8_mostPaid_47 rfl (by omega) (by omega) (q.pay (by omega)) rfl ?_
            refine rn_iload (x := (P : Int)) (q := 50) dX8_mostPaid_48 rfl rfl ?_
            refine rn_cmpne (t := 81) (q := 53) dX8_mostPaid_50 rfl rfl (fun w50 => ?_) (fun w50 => ?_)
            · refine rn_iincN (x := (i : Int)) (z := ((i + 1 : Nat) : Int)) (ls' := [some (.inr (.inr 1)), some (.inl (mk : Int)), some (.inl w), some (.inl x), some (.inl y), some (.inl (P : Int)), some (.inl ((i + 1 : Nat) : Int)), l7]) (q := 84) dX8_mostPaid_81 rfl (by decide) (by omega) (by unfold am_ok; omega) rfl rfl ?_
              refine rn_goto (t := 17) dX8_mostPaid_84 rfl ?_
              first | exact ih hin _ _ _ (by rw [e1, if_pos ⟨by assumption, by omega⟩]; omega) (by rw [e1, if_pos ⟨by assumption, by omega⟩, hy, show min x (sh i) = min w (cap sh h.2.2.2 mk (P + 1) h.1 + (eqc sh h.2.2.2 mk P i + sh i)) - A by omega]; exact gp_step) | exact ih hin _ _ _ (by rw [e1, if_neg (fun q => by first | exact b34 q.1 | omega), Int.add_zero, ← hA]; exact hx) (by rw [e1, if_neg (fun q => by first | exact b34 q.1 | omega), Int.add_zero, ← hA]; exact hy)
            · refine rn_iload_n (x := x) (q := 54) dX8_mostPaid_53 rfl rfl ?_
              refine rn_aload_n (x := 0) (q := 55) dX8_mostPaid_54 rfl rfl ?_
              refine rn_get (a := 0) (v := .inr (.inr 80)) (q := 58) dX8_mostPaid_55 fl_X8_80 rfl rfl rfl ?_
              refine rn_iload (x := (i : Int)) (q := 60) dX8_mostPaid_58 rfl rfl ?_
              refine rn_ialdV (a := 79) (v := sh i) (q := 61) dX8_mostPaid_60 rfl (by omega) (by omega) (hsh i hin) rfl ?_
              refine rn_mmin (q := 64) dX8_mostPaid_61 am_mm_X8_130 am_mminw (Nat.le_of_ble_eq_true rfl) rfl ?_
              refine rn_istore (ls' := [some (.inr (.inr 1)), some (.inl (mk : Int)), some (.inl w), some (.inl x), some (.inl y), some (.inl (P : Int)), some (.inl (i : Int)), some (.inl (min x (sh i)))]) (q := 66) dX8_mostPaid_64 (by decide) rfl rfl ?_
              refine rn_iload_n (x := x) (q := 67) dX8_mostPaid_66 rfl rfl ?_
              refine rn_iload (x := (min x (sh i))) (q := 69) dX8_mostPaid_67 rfl rfl ?_
              refine rn_isubN (z := (x - (min x (sh i)))) (q := 70) dX8_mostPaid_69 rfl (by unfold am_ok; omega) rfl ?_
              refine rn_istore_n (ls' := [some (.inr (.inr 1)), some (.inl (mk : Int)), some (.inl w), some (.inl (x - (min x (sh i)))), some (.inl y), some (.inl (P : Int)), some (.inl (i : Int)), some (.inl (min x (sh i)))]) (q := 71) dX8_mostPaid_70 (by decide) rfl rfl ?_
              refine rn_iload (x := y) (q := 73) dX8_mostPaid_71 rfl rfl ?_
              refine rn_iload (x := (min x (sh i))) (q := 75) dX8_mostPaid_73 rfl rfl ?_
              refine rn_iload (x := (P : Int)) (q := 77) dX8_mostPaid_75 rfl rfl ?_
              refine rn_imulN (z := min x (sh i) * (P : Int)) (q := 78) dX8_mostPaid_77 rfl (by unfold am_ok; omega) rfl ?_
              refine rn_iaddN (z := (y + (min x (sh i) * (P : Int)))) (q := 79) dX8_mostPaid_78 rfl (by unfold am_ok; omega) rfl ?_
              refine rn_istore (ls' := [some (.inr (.inr 1)), some (.inl (mk : Int)), some (.inl w), some (.inl (x - (min x (sh i)))), some (.inl (y + (min x (sh i) * (P : Int)))), some (.inl (P : Int)), some (.inl (i : Int)), some (.inl (min x (sh i)))]) (q := 81) dX8_mostPaid_79 (by decide) rfl rfl ?_
              refine rn_iincN (x := (i : Int)) (z := ((i + 1 : Nat) : Int)) (ls' := [some (.inr (.inr 1)), some (.inl (mk : Int)), some (.inl w), some (.inl (x - (min x (sh i)))), some (.inl (y + (min x (sh i) * (P : Int)))), some (.inl (P : Int)), some (.inl ((i + 1 : Nat) : Int)), some (.inl (min x (sh i)))]) (q := 84) dX8_mostPaid_81 rfl (by decide) (by omega) (by unfold am_ok; omega) rfl rfl ?_
              refine rn_goto (t := 17) dX8_mostPaid_84 rfl ?_
              first | exact ih hin _ _ _ (by rw [e1, if_pos ⟨by assumption, by omega⟩]; omega) (by rw [e1, if_pos ⟨by assumption, by omega⟩, hy, show min x (sh i) = min w (cap sh h.2.2.2 mk (P + 1) h.1 + (eqc sh h.2.2.2 mk P i + sh i)) - A by omega]; exact gp_step) | exact ih hin _ _ _ (by rw [e1, if_neg (fun q => by first | exact b34 q.1 | omega), Int.add_zero, ← hA]; exact hx) (by rw [e1, if_neg (fun q => by first | exact b34 q.1 | omega), Int.add_zero, ← hA]; exact hy)
          · rw [if_neg b34]
            refine rn_ifeq (t := 81) (q := 38) dX8_mostPaid_35 rfl rfl (fun w35 => ?_) (fun h => absurd h (by decide))
            refine rn_iincN (x := (i : Int)) (z := ((i + 1 : Nat) : Int)) (ls' := [some (.inr (.inr 1)), some (.inl (mk : Int)), some (.inl w), some (.inl x), some (.inl y), some (.inl (P : Int)), some (.inl ((i + 1 : Nat) : Int)), l7]) (q := 84) dX8_mostPaid_81 rfl (by decide) (by omega) (by unfold am_ok; omega) rfl rfl ?_
            refine rn_goto (t := 17) dX8_mostPaid_84 rfl ?_
            first | exact ih hin _ _ _ (by rw [e1, if_pos ⟨by assumption, by omega⟩]; omega) (by rw [e1, if_pos ⟨by assumption, by omega⟩, hy, show min x (sh i) = min w (cap sh h.2.2.2 mk (P + 1) h.1 + (eqc sh h.2.2.2 mk P i + sh i)) - A by omega]; exact gp_step) | exact ih hin _ _ _ (by rw [e1, if_neg (fun q => by first | exact b34 q.1 | omega), Int.add_zero, ← hA]; exact hx) (by rw [e1, if_neg (fun q => by first | exact b34 q.1 | omega), Int.add_zero, ← hA]; exact hy)
        · obtain rfl : i = h.1 := by omega
          have ec := cap_eq (sh := sh) (py := h.2.2.2) (mk := mk) P h.1
          rw [← ec] at hx hy
          have hx2 : x = w - gm sh h.2.2.2 mk h.1 w (p + 1) := by rw [hx, ← eP]; rfl
          have hy2 : y = gpd sh h.2.2.2 mk h.1 w (p + 1) := by rw [hy, ← eP, gpd_s (p := P)]; rfl
          rw [hx2, hy2]
          refine rn_iload (x := (h.1 : Int)) (q := 19) dX8_mostPaid_17 rfl rfl ?_
          refine rn_aload_n (x := 0) (q := 20) dX8_mostPaid_19 rfl rfl ?_
          refine rn_get (a := 0) (v := .inr (.inr 6)) (q := 23) dX8_mostPaid_20 fl_X8_26 rfl rfl rfl ?_
          refine rn_get (a := 5) (v := .inl (h.1 : Int)) (q := 26) dX8_mostPaid_23 fl_X8_136 rfl (am_gi q.n) rfl ?_
          refine rn_cmpge (t := 87) (q := 29) dX8_mostPaid_26 rfl rfl (fun w26 => ?_) (fun h => absurd h (by omega))
          refine rn_iincN (x := (P : Int)) (z := (p : Int)) (ls' := [some (.inr (.inr 1)), some (.inl (mk : Int)), some (.inl w), some (.inl (w - gm sh h.2.2.2 mk h.1 w (p + 1))), some (.inl (gpd sh h.2.2.2 mk h.1 w (p + 1))), some (.inl (p : Int)), some (.inl (h.1 : Int)), l7]) (q := 90) dX8_mostPaid_87 rfl (by decide) (by omega) (by unfold am_ok; omega) rfl rfl ?_
          refine rn_goto (t := 9) dX8_mostPaid_90 rfl ?_
          exact ihp _ _ (by omega)
      refine rn_iload (x := (P : Int)) (q := 11) dX8_mostPaid_9 rfl rfl ?_
      refine rn_ifle (t := 93) (q := 14) dX8_mostPaid_11 rfl rfl (fun h => absurd h (by omega)) (fun w11 => ?_)
      refine rn_iconst (q := 15) dX8_mostPaid_14 (am_okd rfl) rfl ?_
      refine rn_istore (ls' := [some (.inr (.inr 1)), some (.inl (mk : Int)), some (.inl w), some (.inl (w - gm sh h.2.2.2 mk h.1 w (P + 1))), some (.inl (gpd sh h.2.2.2 mk h.1 w (P + 1))), some (.inl (P : Int)), some (.inl 0), l7]) (q := 17) dX8_mostPaid_15 (by decide) rfl rfl ?_
      exact K 0 (Nat.zero_le _) _ _ _ (by show _ = w - min w (_ + 0); rw [Int.add_zero]; rfl) (by show _ = _ + (P : Int) * (min w (_ + 0) - _); rw [Int.add_zero]; unfold gm; rw [Int.sub_self, Int.mul_zero, Int.add_zero])
  refine rn_iload_n (x := w) (q := 1) dX8_mostPaid_0 rfl rfl ?_
  refine rn_istore_n (ls' := [some (.inr (.inr 1)), some (.inl (mk : Int)), some (.inl w), some (.inl w), none, none, none, none]) (q := 2) dX8_mostPaid_1 (by decide) rfl rfl ?_
  refine rn_iconst (q := 3) dX8_mostPaid_2 (am_okd rfl) rfl ?_
  refine rn_istore (ls' := [some (.inr (.inr 1)), some (.inl (mk : Int)), some (.inl w), some (.inl w), some (.inl 0), none, none, none]) (q := 5) dX8_mostPaid_3 (by decide) rfl rfl ?_
  refine rn_bipush (q := 7) dX8_mostPaid_5 ⟨by decide, by decide⟩ rfl ?_
  refine rn_istore (ls' := [some (.inr (.inr 1)), some (.inl (mk : Int)), some (.inl w), some (.inl w), some (.inl 0), some (.inl 9), none, none]) (q := 9) dX8_mostPaid_7 (by decide) rfl rfl ?_
  have h9 := L 9 none none (Nat.le_refl _)
  have e1 : gm sh h.2.2.2 mk h.1 w (9 + 1) = 0 := by unfold gm; rw [cap_10 hp9]; omega
  rw [e1, gpd_10 hp9 hw.1, Int.sub_zero] at h9
  exact h9
end P74
