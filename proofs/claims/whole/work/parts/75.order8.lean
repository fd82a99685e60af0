/-! order: the least best row -/
def ovl (sh : Nat → Int) (py : Nat → Nat) (n mk : Nat) (w : Int) (i : Nat) : Int := min w (sh i) * (py i : Int) + gv sh py (clrB mk i) n (w - min w (sh i))
def ordP (sh : Nat → Int) (py : Nat → Nat) (n mk : Nat) (w : Int) (i : Nat) : Bool := mk.testBit i && decide (ovl sh py n mk w i = gv sh py mk n w)
def ordF (sh : Nat → Int) (py : Nat → Nat) (n : Nat) : Nat → Nat → Int → List Nat
  | 0, _, _ => []
  | f + 1, b0, w => match srch (ordP sh py n b0 w) n 0 with
    | some i => i :: ordF sh py n f (clrB b0 i) (w - min w (sh i))
    | none => []
theorem srch_is {P : Nat → Bool} : ∀ (f k x : Nat), srch P f k = some x → P x = true := by
  intro f
  induction f with
  | zero => intro k x h; cases h
  | succ f ih =>
    intro k x h
    rw [srch] at h
    split at h
    · rename_i hk; cases h; exact hk
    · exact ih _ _ h
theorem srch_lt {P : Nat → Bool} : ∀ (f k x : Nat), srch P f k = some x → ∀ j, k ≤ j → j < x → P j = false := by
  intro f
  induction f with
  | zero => intro k x h; cases h
  | succ f ih =>
    intro k x h j h1 h2
    rw [srch] at h
    split at h
    · cases h; omega
    · rename_i hk
      by_cases e : j = k
      · subst e; simpa using hk
      · exact ih _ _ h j (by omega) h2
section G75
variable {sh : Nat → Int} {py : Nat → Nat} {mk n : Nat} {w : Int}
theorem cap_clr {i : Nat} (hmk : mk < 256) (hi : i < 8) (hb : mk.testBit i = true) (t : Nat) : ∀ k, k ≤ 8 → cap sh py (clrB mk i) t k = cap sh py mk t k - (if i < k ∧ t ≤ py i then sh i else 0) := by
  have hc := (clr_lt mk hmk i hi).2
  intro k
  induction k with
  | zero => intro _; rw [cap, cap, if_neg (by omega)]; rfl
  | succ k ih =>
    intro hk
    rw [cap, cap, ih (by omega), hc k (by omega)]
    by_cases e : k = i
    · subst e
      rw [hb]
      by_cases ht : t ≤ py k
      · rw [if_neg (by omega), if_neg (fun q => by simp at q), if_pos ⟨rfl, ht⟩, if_pos ⟨by omega, ht⟩]; omega
      · rw [if_neg (by omega), if_neg (fun q => by simp at q), if_neg (fun q => ht q.2), if_neg (fun q => ht q.2)]; omega
    · have h1 : (mk.testBit k && !decide (k = i)) = mk.testBit k := by simp [e]
      rw [h1]
      have h2 : (i < k + 1 ∧ t ≤ py i) ↔ (i < k ∧ t ≤ py i) := by omega
      by_cases h3 : i < k ∧ t ≤ py i
      · rw [if_pos h3, if_pos (h2.mpr h3)]; omega
      · rw [if_neg h3, if_neg (fun q => h3 (h2.mp q))]; omega
theorem gvS_le {f g : Nat → Int} : ∀ k, (∀ t, 1 ≤ t → t ≤ k → f t ≤ g t) → gvS f k ≤ gvS g k := by
  intro k
  induction k with
  | zero => intro _; exact Int.le_refl _
  | succ k ih => intro h; have h1 := ih (fun t a b => h t a (by omega)); have h2 := h (k + 1) (by omega) (by omega); rw [gvS, gvS]; omega
theorem gvS_cg {f g : Nat → Int} : ∀ k, (∀ t, 1 ≤ t → t ≤ k → f t = g t) → gvS f k = gvS g k := by
  intro k
  induction k with
  | zero => intro _; rfl
  | succ k ih => intro h; rw [gvS, gvS, ih (fun t a b => h t a (by omega)), h (k + 1) (by omega) (by omega)]
theorem gvS_add {f g : Nat → Int} : ∀ k, gvS (fun t => f t + g t) k = gvS f k + gvS g k := by
  intro k
  induction k with
  | zero => rfl
  | succ k ih => rw [gvS, gvS, gvS, ih]; omega
theorem gvS_const {s : Int} {p : Nat} : ∀ k, gvS (fun t => if t ≤ p then s else 0) k = s * ((min k p : Nat) : Int) := by
  intro k
  induction k with
  | zero => rw [gvS, Nat.zero_min]; simp
  | succ k ih =>
    rw [gvS, ih]
    by_cases h : k + 1 ≤ p
    · rw [if_pos h, show min (k + 1) p = min k p + 1 by omega, show ((min k p + 1 : Nat) : Int) = ((min k p : Nat) : Int) + 1 by omega, Int.mul_add, Int.mul_one]
    · rw [if_neg h, show min (k + 1) p = min k p by omega, Int.add_zero]
theorem ovl_eq {i : Nat} (hp : py i ≤ 9) : ovl sh py n mk w i = gvS (fun t => (if t ≤ py i then min w (sh i) else 0) + gm sh py (clrB mk i) n (w - min w (sh i)) t) 9 := by
  rw [gvS_add, gvS_const, show min 9 (py i) = py i by omega]; rfl
theorem ovl_le {i : Nat} (hs : ∀ i, 0 ≤ sh i) (hw : 0 ≤ w) (hmk : mk < 256) (hn : n ≤ 8) (hi : i < n) (hb : mk.testBit i = true) (hp : py i ≤ 9) : ovl sh py n mk w i ≤ gv sh py mk n w := by
  rw [ovl_eq hp]
  refine gvS_le 9 (fun t _ _ => ?_)
  have h0 := hs i
  unfold gm
  rw [cap_clr hmk (by omega) hb t n hn]
  by_cases ht : t ≤ py i
  · rw [if_pos ht, if_pos ⟨hi, ht⟩]; omega
  · rw [if_neg ht, if_neg (fun q => ht q.2)]; omega
theorem cap_top {p : Nat} : ∀ k, (∀ j, j < k → mk.testBit j = true → py j ≤ p) → ∀ t, p < t → cap sh py mk t k = 0 := by
  intro k
  induction k with
  | zero => intro _ t _; rfl
  | succ k ih => intro h t ht; rw [cap, ih (fun j a b => h j (by omega) b) t ht, if_neg (fun q => by have := h k (by omega) q.1; omega)]; rfl
theorem cap_ge {i t : Nat} (hs : ∀ i, 0 ≤ sh i) (hb : mk.testBit i = true) (ht : t ≤ py i) : ∀ k, i < k → sh i ≤ cap sh py mk t k := by
  intro k
  induction k with
  | zero => intro h; exact absurd h (Nat.not_lt_zero _)
  | succ k ih =>
    intro h
    rw [cap]
    by_cases e : i = k
    · subst e
      have := cap_nn (py := py) (mk := mk) hs t i
      rw [if_pos ⟨hb, ht⟩]; omega
    · have h1 := ih (by omega)
      have h2 := hs k
      split <;> omega
theorem ovl_top {i : Nat} (hs : ∀ i, 0 ≤ sh i) (hw : 0 ≤ w) (hmk : mk < 256) (hn : n ≤ 8) (hi : i < n) (hb : mk.testBit i = true) (hp : py i ≤ 9) (ht : ∀ j, j < n → mk.testBit j = true → py j ≤ py i) : ovl sh py n mk w i = gv sh py mk n w := by
  rw [ovl_eq hp]
  refine gvS_cg 9 (fun t _ _ => ?_)
  have h0 := hs i
  unfold gm
  rw [cap_clr hmk (by omega) hb t n hn]
  by_cases h1 : t ≤ py i
  · have h2 := cap_ge hs hb h1 n hi
    rw [if_pos h1, if_pos ⟨hi, h1⟩]; omega
  · rw [if_neg h1, if_neg (fun q => h1 q.2), cap_top n ht t (by omega)]; omega
theorem top_ex : ∀ k, (∀ j, j < k → ¬ mk.testBit j = true) ∨ ∃ i, i < k ∧ mk.testBit i = true ∧ ∀ j, j < k → mk.testBit j = true → py j ≤ py i := by
  intro k
  induction k with
  | zero => exact Or.inl (fun j h => absurd h (Nat.not_lt_zero _))
  | succ k ih =>
    by_cases hb : mk.testBit k = true
    · rcases ih with h | ⟨i, h1, h2, h3⟩
      · refine Or.inr ⟨k, by omega, hb, fun j hj hjb => ?_⟩
        by_cases e : j = k
        · rw [e]; exact Nat.le_refl _
        · exact absurd hjb (h j (by omega))
      · by_cases hle : py i ≤ py k
        · refine Or.inr ⟨k, by omega, hb, fun j hj hjb => ?_⟩
          by_cases e : j = k
          · rw [e]; exact Nat.le_refl _
          · exact Nat.le_trans (h3 j (by omega) hjb) hle
        · refine Or.inr ⟨i, by omega, h2, fun j hj hjb => ?_⟩
          by_cases e : j = k
          · rw [e]; omega
          · exact h3 j (by omega) hjb
    · rcases ih with h | ⟨i, h1, h2, h3⟩
      · refine Or.inl (fun j hj => ?_)
        by_cases e : j = k
        · rw [e]; exact hb
        · exact h j (by omega)
      · refine Or.inr ⟨i, by omega, h2, fun j hj hjb => ?_⟩
        by_cases e : j = k
        · rw [e] at hjb; exact absurd hjb hb
        · exact h3 j (by omega) hjb
theorem pc_clr : ∀ b, b < 256 → ∀ i, i < 8 → b.testBit i = true → pc (clrB b i) + 1 = pc b := by decide +kernel
theorem bit_ex : ∀ b, b < 256 → ∀ n, n < 9 → b < 2 ^ n → 0 < pc b → ∃ i, i < n ∧ b.testBit i = true := by decide +kernel
theorem ord_some (hs : ∀ i, 0 ≤ sh i) (hw : 0 ≤ w) (hn : n ≤ 8) (hm : mk < 2 ^ n) (hp : ∀ i, py i ≤ 9) (h0 : 0 < pc mk) : ∃ i, srch (ordP sh py n mk w) n 0 = some i ∧ i < n ∧ mk.testBit i = true ∧ ovl sh py n mk w i = gv sh py mk n w ∧ ∀ j, j < i → mk.testBit j = true → ovl sh py n mk w j < gv sh py mk n w := by
  have hmk : mk < 256 := Nat.lt_of_lt_of_le hm (p2_8 hn)
  rcases top_ex (mk := mk) (py := py) n with h | ⟨i, h1, h2, h3⟩
  · obtain ⟨i, h1, h2⟩ := bit_ex mk hmk n (by omega) hm h0
    exact absurd h2 (h i h1)
  · have e := ovl_top (n := n) hs hw hmk hn h1 h2 (hp i) h3
    cases hS : srch (ordP sh py n mk w) n 0 with
    | none =>
      have := (srch_none n 0).mp hS i (Nat.zero_le _) (by omega)
      unfold ordP at this
      rw [h2, decide_eq_true e] at this
      cases this
    | some k =>
      have hk := srch_ge _ _ _ hS
      have hP := srch_is _ _ _ hS
      unfold ordP at hP
      rw [Bool.and_eq_true, decide_eq_true_iff] at hP
      refine ⟨k, rfl, by omega, hP.1, hP.2, fun j hj hjb => ?_⟩
      have h4 := srch_lt _ _ _ hS j (Nat.zero_le _) hj
      unfold ordP at h4
      rw [hjb] at h4
      have h5 := of_decide_eq_false h4
      have h6 := ovl_le (n := n) hs hw hmk hn (show j < n by omega) hjb (hp j)
      omega
end G75
section P75
variable {l : Launch} {G : am_G} {d : Nat} {r : Nat} {X : List Nat} {C : List Int} {sn : Nat} {sg : Nat → Nat} {h : hrs} {e : est} {NB : Nat} {mem m : am_M}
theorem c_mayTonight (q : CQ r X C sn sg h e NB mem) (i : Nat) (hi : i < h.1) : am_Sm l G yX8_mayTonight mt_X8_mayTonight (d + 4) [.inr (.inr 1), .inl (i : Int)] mem (fun q m => q = some (.inl (mvK X h sn sg e (eP e) i)) ∧ frS s8 mem m ∧ m 79 = mem 79) := by
  refine am_enterQ (ls := [some (.inr (.inr 1)), some (.inl (i : Int))]) (by decide) rfl (Nat.le_of_ble_eq_true rfl) rfl (fun hok Q hQ => ?_)
  have b := q.bd
  have o := am_rul_or q.rul
  refine rn_aload_n (x := 0) (q := 1) dX8_mayTonight_0 rfl rfl ?_
  refine rn_get (a := 0) (v := .inr (.inr 6)) (q := 4) dX8_mayTonight_1 fl_X8_26 rfl rfl rfl ?_
  refine rn_aload_n (x := 0) (q := 5) dX8_mayTonight_4 rfl rfl ?_
  refine rn_get (a := 0) (v := .inr (.inr 6)) (q := 8) dX8_mayTonight_5 fl_X8_26 rfl rfl rfl ?_
  refine rn_get (a := 5) (v := .inr (.inr (r + 1))) (q := 11) dX8_mayTonight_8 fl_X8_172 rfl (show Sum.inr (Sum.inr (mem 5 7).toNat) = _ by rw [q.rl]; rfl) rfl ?_
  refine rn_aload_n (x := 0) (q := 12) dX8_mayTonight_11 rfl rfl ?_
  refine rn_get (a := 0) (v := .inr (.inr 17)) (q := 15) dX8_mayTonight_12 fl_X8_33 rfl rfl rfl ?_
  refine rn_get (a := 16) (v := .inl (eN e : Int)) (q := 18) dX8_mayTonight_15 fl_X8_184 rfl (am_gi q.nt) rfl ?_
  refine rn_iload_n (x := (i : Int)) (q := 19) dX8_mayTonight_18 rfl rfl ?_
  refine rn_aload_n (x := 0) (q := 20) dX8_mayTonight_19 rfl rfl ?_
  refine rn_get (a := 0) (v := .inr (.inr 17)) (q := 23) dX8_mayTonight_20 fl_X8_33 rfl rfl rfl ?_
  refine rn_get (a := 16) (v := .inr (.inr 18)) (q := 26) dX8_mayTonight_23 fl_X8_159 rfl rfl rfl ?_
  refine rn_iload_n (x := (i : Int)) (q := 27) dX8_mayTonight_26 rfl rfl ?_
  refine rn_ialdV (a := 17) (v := (eH e i : Int)) (q := 28) dX8_mayTonight_27 rfl (by omega) (by omega) (q.hd (by omega)) rfl ?_
  refine rn_aload_n (x := 0) (q := 29) dX8_mayTonight_28 rfl rfl ?_
  refine rn_get (a := 0) (v := .inr (.inr 17)) (q := 32) dX8_mayTonight_29 fl_X8_33 rfl rfl rfl ?_
  refine rn_get (a := 16) (v := .inl (eP e : Int)) (q := 35) dX8_mayTonight_32 fl_X8_165 rfl (am_gi q.pr) rfl ?_
  refine rn_callS (as := [.inl (eP e : Int)]) (rest := [.inl (eH e i : Int), .inl (i : Int), .inl (eN e : Int), .inr (.inr (r + 1)), .inr (.inr 6)]) (q := 38) dX8_mayTonight_35 ml_X8_187 sm_J6_bitCount_0f7a4 (by omega) rfl rfl (Nat.le_of_ble_eq_true rfl) rfl (s_bitCount (d := d + 3) (eP e) (by omega)) ?_
  intro r35 mem35 hq35
  obtain ⟨rfl, rfl⟩ := hq35
  show am_Rn l G _ _ 38 [some (.inr (.inr 1)), some (.inl (i : Int))] [.inl (pc (eP e) : Int), .inl (eH e i : Int), .inl (i : Int), .inl (eN e : Int), .inr (.inr (r + 1)), .inr (.inr 6)] mem _
  refine rn_callV (b := 5) (as := [.inr (.inr (r + 1)), .inl (eN e : Int), .inl (i : Int), .inl (eH e i : Int), .inl (pc (eP e) : Int)]) (rest := []) (q := 41) dX8_mayTonight_38 ml_X8_192 sm_X6_may rfl rfl (by decide) (by omega) rfl rfl (Nat.le_of_ble_eq_true rfl) rfl (s_may8 (d := d + 0) q.rul q.ok q.cd q.sng q.hs (eN e) i (eH e i) (pc (eP e)) (by omega) hi (q.hd9 i)) ?_
  intro r38 mem38 hq38
  obtain ⟨rfl, hf38⟩ := hq38
  show am_Rn l G _ _ 41 [some (.inr (.inr 1)), some (.inl (i : Int))] [.inl (mvK X h sn sg e (eP e) i)] mem38 _
  refine rn_iret dX8_mayTonight_41 rfl ?_
  refine hQ _ _ ⟨rfl, fun b2 k hb => ?_, hf38 79 (by omega) (by omega)⟩
  unfold s8 at hb
  simp [ble_f] at hb
  rw [hf38 b2 (by omega) (by omega)]
theorem c_firstToGo (q : CQ r X C sn sg h e NB mem) {sh : Nat → Int} (hsh : ∀ i, i < h.1 → mem 79 i = sh i) (hs0 : ∀ i, 0 ≤ sh i) (mk : Nat) (hm : mk < 2 ^ h.1) (w : Int) (hw : 0 ≤ w ∧ w ≤ 9) (h0 : 0 < pc mk) (op : Int) (hop : op = gv sh h.2.2.2 mk h.1 w) : am_Sm l G yX8_firstToGo mt_X8_firstToGo (d + 1) [.inr (.inr 1), .inl (mk : Int), .inl w, .inl op] mem (fun q m => (∃ i : Nat, q = some (.inl (i : Int)) ∧ srch (ordP sh h.2.2.2 h.1 mk w) h.1 0 = some i) ∧ mem = m) := by
  refine am_enterQ (ls := [some (.inr (.inr 1)), some (.inl (mk : Int)), some (.inl w), some (.inl op), none, none]) (by decide) rfl (Nat.le_of_ble_eq_true rfl) rfl (fun hok Q hQ => ?_)
  have b := q.bd
  obtain ⟨i0, hS, hi0, hb0, ho0, hlt0⟩ := ord_some hs0 hw.1 b.1 hm q.pa9 h0
  have L : ∀ i : Nat, i ≤ i0 → ∀ lx : Option am_V, am_Rn l G mt_X8_firstToGo (d + 1) 3 [some (.inr (.inr 1)), some (.inl (mk : Int)), some (.inl w), some (.inl op), some (.inl (i : Int)), lx] [] mem Q := by
    refine am_dn i0 (fun i hi ih lx => ?_)
    have hcl := clr_lt mk (by omega) i (by omega)
    have s0 := hs0 i
    have p9 := q.pa9 i
    have hmu : 0 ≤ min w (sh i) * (h.2.2.2 i : Int) ∧ min w (sh i) * (h.2.2.2 i : Int) ≤ 81 := ⟨Int.mul_nonneg (by omega) (by omega), by have := Int.mul_le_mul (show min w (sh i) ≤ 9 by omega) (show (h.2.2.2 i : Int) ≤ 9 by omega) (by omega) (by omega); omega⟩
    have hg := gv_ok (py := h.2.2.2) (mk := clrB mk i) (n := h.1) (w := w - min w (sh i)) hs0 (by omega)
    refine rn_iload (x := (i : Int)) (q := 5) dX8_firstToGo_3 rfl rfl ?_
    refine rn_aload_n (x := 0) (q := 6) dX8_firstToGo_5 rfl rfl ?_
    refine rn_get (a := 0) (v := .inr (.inr 6)) (q := 9) dX8_firstToGo_6 fl_X8_26 rfl rfl rfl ?_
    refine rn_get (a := 5) (v := .inl (h.1 : Int)) (q := 12) dX8_firstToGo_9 fl_X8_136 rfl (am_gi q.n) rfl ?_
    refine rn_cmpge (t := 80) (q := 15) dX8_firstToGo_12 rfl rfl (fun h => absurd h (by omega)) (fun w12 => ?_)
    refine rn_iload_n (x := (mk : Int)) (q := 16) dX8_firstToGo_15 rfl rfl ?_
    refine rn_iload (x := (i : Int)) (q := 18) dX8_firstToGo_16 rfl rfl ?_
    refine rn_ishr (q := 19) dX8_firstToGo_18 rfl ?_
    refine rn_iconst (q := 20) dX8_firstToGo_19 (am_okd rfl) rfl ?_
    refine rn_iand (q := 21) dX8_firstToGo_20 rfl ?_
    rw [am_bit (b := mk) (i := i) (by omega) (by omega)]
    by_cases b20 : Nat.testBit mk i = true
    · rw [if_pos b20]
      refine rn_ifeq (t := 74) (q := 24) dX8_firstToGo_21 rfl rfl (fun h => absurd h (by decide)) (fun w21 => ?_)
      refine rn_iload_n (x := w) (q := 25) dX8_firstToGo_24 rfl rfl ?_
      refine rn_aload_n (x := 0) (q := 26) dX8_firstToGo_25 rfl rfl ?_
      refine rn_get (a := 0) (v := .inr (.inr 80)) (q := 29) dX8_firstToGo_26 fl_X8_80 rfl rfl rfl ?_
      refine rn_iload (x := (i : Int)) (q := 31) dX8_firstToGo_29 rfl rfl ?_
      refine rn_ialdV (a := 79) (v := sh i) (q := 32) dX8_firstToGo_31 rfl (by omega) (by omega) (hsh i (by omega)) rfl ?_
      refine rn_mmin (q := 35) dX8_firstToGo_32 am_mm_X8_130 am_mminw (Nat.le_of_ble_eq_true rfl) rfl ?_
      refine rn_istore (ls' := [some (.inr (.inr 1)), some (.inl (mk : Int)), some (.inl w), some (.inl op), some (.inl (i : Int)), some (.inl (min w (sh i)))]) (q := 37) dX8_firstToGo_35 (by decide) rfl rfl ?_
      refine rn_iload (x := (min w (sh i))) (q := 39) dX8_firstToGo_37 rfl rfl ?_
      refine rn_aload_n (x := 0) (q := 40) dX8_firstToGo_39 rfl rfl ?_
      refine rn_get (a := 0) (v := .inr (.inr 6)) (q := 43) dX8_firstToGo_40 fl_X8_26 rfl rfl rfl ?_
      refine rn_get (a := 5) (v := .inr (.inr 10)) (q := 46) dX8_firstToGo_43 fl_X8_156 rfl rfl rfl ?_
      refine rn_iload (x := (i : Int)) (q := 48) dX8_firstToGo_46 rfl rfl ?_
      refine rn_ialdV (a := 9) (v := (h.2.2.2 i : Int)) (q := 49) dX8_firstToGo_48 rfl (by omega) (by omega) (q.pay (by omega)) rfl ?_
      refine rn_imulN (z := min w (sh i) * (h.2.2.2 i : Int)) (q := 50) dX8_firstToGo_49 rfl (by unfold am_ok; omega) rfl ?_
      refine rn_aload_n (x := 0) (q := 51) dX8_firstToGo_50 rfl rfl ?_
      refine rn_iload_n (x := (mk : Int)) (q := 52) dX8_firstToGo_51 rfl rfl ?_
      refine rn_iconst (q := 53) dX8_firstToGo_52 (am_okd rfl) rfl ?_
      refine rn_iload (x := (i : Int)) (q := 55) dX8_firstToGo_53 rfl rfl ?_
      refine rn_ishl (q := 56) dX8_firstToGo_55 rfl ?_
      rw [show am_shl 1 (i : Int) = ((2 ^ i : Nat) : Int) from am_shl1 _ (by omega)]
      refine rn_iconst (q := 57) dX8_firstToGo_56 (am_okd rfl) rfl ?_
      refine rn_ixor (q := 58) dX8_firstToGo_57 rfl ?_
      refine rn_iand (q := 59) dX8_firstToGo_58 rfl ?_
      rw [show am_and (mk : Int) (am_xor ((2 ^ i : Nat) : Int) (-1)) = ((clrB mk i : Nat) : Int) from and_cl (by omega) (by omega)]
      refine rn_iload_n (x := w) (q := 60) dX8_firstToGo_59 rfl rfl ?_
      refine rn_iload (x := (min w (sh i))) (q := 62) dX8_firstToGo_60 rfl rfl ?_
      refine rn_isubN (z := (w - (min w (sh i)))) (q := 63) dX8_firstToGo_62 rfl (by unfold am_ok; omega) rfl ?_
      refine rn_callV (b := 0) (as := [.inl ((clrB mk i : Nat) : Int), .inl (w - (min w (sh i)))]) (rest := [.inl (min w (sh i) * (h.2.2.2 i : Int))]) (q := 66) dX8_firstToGo_63 ml_X8_318 sm_X8_mostPaid rfl rfl (by decide) (by omega) rfl rfl (Nat.le_of_ble_eq_true rfl) rfl (c_mostPaid (d := d + 0) q hsh hs0 (clrB mk i) (by omega) (w - (min w (sh i))) (by omega)) ?_
      intro r63 mem63 hq63
      obtain ⟨rfl, rfl⟩ := hq63
      show am_Rn l G _ _ 66 [some (.inr (.inr 1)), some (.inl (mk : Int)), some (.inl w), some (.inl op), some (.inl (i : Int)), some (.inl (min w (sh i)))] [.inl (gv sh h.2.2.2 (clrB mk i) h.1 (w - min w (sh i))), .inl (min w (sh i) * (h.2.2.2 i : Int))] mem _
      refine rn_iaddN (z := ovl sh h.2.2.2 h.1 mk w i) (q := 67) dX8_firstToGo_66 rfl (by unfold am_ok; omega) rfl ?_
      refine rn_iload_n (x := op) (q := 68) dX8_firstToGo_67 rfl rfl ?_
      refine rn_cmpne (t := 74) (q := 71) dX8_firstToGo_68 rfl rfl (fun w68 => ?_) (fun w68 => ?_)
      · refine rn_iincN (x := (i : Int)) (z := ((i + 1 : Nat) : Int)) (ls' := [some (.inr (.inr 1)), some (.inl (mk : Int)), some (.inl w), some (.inl op), some (.inl ((i + 1 : Nat) : Int)), some (.inl (min w (sh i)))]) (q := 77) dX8_firstToGo_74 rfl (by decide) (by omega) (by unfold am_ok; omega) rfl rfl ?_
        refine rn_goto (t := 3) dX8_firstToGo_77 rfl ?_
        refine ih (Nat.lt_of_le_of_ne hi (fun z => ?_)) _
        subst z
        first | exact b20 hb0 | omega
      · refine rn_iload (x := (i : Int)) (q := 73) dX8_firstToGo_71 rfl rfl ?_
        refine rn_iret dX8_firstToGo_73 rfl ?_
        refine hQ _ _ ⟨⟨i, rfl, ?_⟩, rfl⟩
        by_cases e : i = i0
        · rw [e]; exact hS
        · have := hlt0 i (by omega) b20
          omega
    · rw [if_neg b20]
      refine rn_ifeq (t := 74) (q := 24) dX8_firstToGo_21 rfl rfl (fun w21 => ?_) (fun h => absurd h (by decide))
      refine rn_iincN (x := (i : Int)) (z := ((i + 1 : Nat) : Int)) (ls' := [some (.inr (.inr 1)), some (.inl (mk : Int)), some (.inl w), some (.inl op), some (.inl ((i + 1 : Nat) : Int)), lx]) (q := 77) dX8_firstToGo_74 rfl (by decide) (by omega) (by unfold am_ok; omega) rfl rfl ?_
      refine rn_goto (t := 3) dX8_firstToGo_77 rfl ?_
      refine ih (Nat.lt_of_le_of_ne hi (fun z => ?_)) _
      subst z
      first | exact b20 hb0 | omega
  refine rn_iconst (q := 1) dX8_firstToGo_0 (am_okd rfl) rfl ?_
  refine rn_istore (ls' := [some (.inr (.inr 1)), some (.inl (mk : Int)), some (.inl w), some (.inl op), some (.inl 0), none]) (q := 3) dX8_firstToGo_1 (by decide) rfl rfl ?_
  exact L 0 (Nat.zero_le _) _
theorem c_order (q : CQ r X C sn sg h e NB mem) : am_Sm l G yX8_order mt_X8_order (d + 5) [.inr (.inr 1)] mem (QC (gv (mvK X h sn sg e (eP e)) h.2.2.2 (eP e) h.1 (wE sn sg e)) ((ordF (mvK X h sn sg e (eP e)) h.2.2.2 h.1 (pc (eP e)) (eP e) (wE sn sg e)).map (fun i : Nat => (i : Int))) mem) := by
  refine am_enterQ (ls := [some (.inr (.inr 1)), none, none, none, none, none, none, none]) (by decide) rfl (Nat.le_of_ble_eq_true rfl) rfl (fun hok Q hQ => ?_)
  have b := q.bd
  obtain ⟨sh, esh⟩ : ∃ f, f = mvK X h sn sg e (eP e) := ⟨_, rfl⟩
  have hs0 : ∀ i, 0 ≤ sh i := fun i => by rw [esh]; exact mvK_nn i
  have hw := wE_ok (sn := sn) (e := e) q.sng.2.2.2.1
  have pn := pc_n (eP e) h.1 b.2.2.1 b.1
  rw [← esh] at hQ
  have L2 : ∀ (f mk : Nat) (w : Int) (R0 : List Int) (m : am_M) (l6 l7 : Option am_V), f = pc mk → mk < 2 ^ h.1 → 0 ≤ w ∧ w ≤ 9 → R0.length + f ≤ 8 → c_row R0 m → frS s8r mem m → (∀ i, i < h.1 → m 79 i = sh i) → (ordF sh h.2.2.2 h.1 (pc (eP e)) (eP e) (wE sn sg e)).map (fun i : Nat => (i : Int)) = R0 ++ (ordF sh h.2.2.2 h.1 f mk w).map (fun i : Nat => (i : Int)) → am_Rn l G mt_X8_order (d + 5) 76 [some (.inr (.inr 1)), some (.inl (mk : Int)), some (.inl w), some (.inl (gv sh h.2.2.2 (eP e) h.1 (wE sn sg e))), some (.inl (gv sh h.2.2.2 mk h.1 w)), some (.inl (f : Int)), l6, l7] [] m Q := by
    intro f
    induction f with
    | zero =>
      intro mk w R0 m l6 l7 hfk hm hw hl hr hf hsh hR
      rw [ordF, List.map_nil, List.append_nil] at hR
      refine rn_iload (x := ((0 : Nat) : Int)) (q := 78) dX8_order_76 rfl rfl ?_
      refine rn_ifle (t := 167) (q := 81) dX8_order_78 rfl rfl (fun w78 => ?_) (fun h => absurd h (by omega))
      refine rn_iload_n (x := (gv sh h.2.2.2 (eP e) h.1 (wE sn sg e))) (q := 168) dX8_order_167 rfl rfl ?_
      refine rn_iret dX8_order_168 rfl ?_
      exact hQ _ _ ⟨rfl, hf, by rw [hR]; exact hr⟩
    | succ f ih =>
      intro mk w R0 m l6 l7 hfk hm hw hl hr hf hsh hR
      obtain ⟨i, hS, hi, hb, ho, -⟩ := ord_some hs0 hw.1 b.1 hm q.pa9 (show 0 < pc mk by omega)
      have hcl := clr_lt mk (by omega) i (by omega)
      have hpc := pc_clr mk (by omega) i (by omega) hb
      have s0 := hs0 i
      have p9 := q.pa9 i
      have hmu : 0 ≤ min w (sh i) * (h.2.2.2 i : Int) ∧ min w (sh i) * (h.2.2.2 i : Int) ≤ 81 := ⟨Int.mul_nonneg (by omega) (by omega), by have := Int.mul_le_mul (show min w (sh i) ≤ 9 by omega) (show (h.2.2.2 i : Int) ≤ 9 by omega) (by omega) (by omega); omega⟩
      have hg := gv_ok (py := h.2.2.2) (mk := mk) (n := h.1) (w := w) hs0 hw
      have hov : gv sh h.2.2.2 mk h.1 w - min w (sh i) * (h.2.2.2 i : Int) = gv sh h.2.2.2 (clrB mk i) h.1 (w - min w (sh i)) := by rw [← ho]; unfold ovl; omega
      have eF : ordF sh h.2.2.2 h.1 (f + 1) mk w = i :: ordF sh h.2.2.2 h.1 f (clrB mk i) (w - min w (sh i)) := by rw [ordF, hS]
      rw [eF, List.map_cons] at hR
      refine rn_iload (x := ((f + 1 : Nat) : Int)) (q := 78) dX8_order_76 rfl rfl ?_
      refine rn_ifle (t := 167) (q := 81) dX8_order_78 rfl rfl (fun h => absurd h (by omega)) (fun w78 => ?_)
      refine rn_aload_n (x := 0) (q := 82) dX8_order_81 rfl rfl ?_
      refine rn_iload_n (x := (mk : Int)) (q := 83) dX8_order_82 rfl rfl ?_
      refine rn_iload_n (x := w) (q := 84) dX8_order_83 rfl rfl ?_
      refine rn_iload (x := (gv sh h.2.2.2 mk h.1 w)) (q := 86) dX8_order_84 rfl rfl ?_
      refine rn_callV (b := 0) (as := [.inl (mk : Int), .inl w, .inl (gv sh h.2.2.2 mk h.1 w)]) (rest := []) (q := 89) dX8_order_86 ml_X8_331 sm_X8_firstToGo rfl rfl (by decide) (by omega) rfl rfl (Nat.le_of_ble_eq_true rfl) rfl (c_firstToGo (d := d + 3) (q.kept hf) hsh hs0 mk hm w hw (by omega) (gv sh h.2.2.2 mk h.1 w) rfl) ?_
      intro r86 mem86 hq86
      obtain ⟨⟨i2, rfl, hS2⟩, rfl⟩ := hq86
      show am_Rn l G _ _ 89 [some (.inr (.inr 1)), some (.inl (mk : Int)), some (.inl w), some (.inl (gv sh h.2.2.2 (eP e) h.1 (wE sn sg e))), some (.inl (gv sh h.2.2.2 mk h.1 w)), some (.inl ((f + 1 : Nat) : Int)), l6, l7] [.inl (i2 : Int)] m _
      obtain rfl : i2 = i := Option.some.inj (hS2.symm.trans hS)
      refine rn_istore (ls' := [some (.inr (.inr 1)), some (.inl (mk : Int)), some (.inl w), some (.inl (gv sh h.2.2.2 (eP e) h.1 (wE sn sg e))), some (.inl (gv sh h.2.2.2 mk h.1 w)), some (.inl ((f + 1 : Nat) : Int)), some (.inl (i2 : Int)), l7]) (q := 91) dX8_order_89 (by decide) rfl rfl ?_
      refine rn_aload_n (x := 0) (q := 92) dX8_order_91 rfl rfl ?_
      refine rn_get (a := 0) (v := .inr (.inr 6)) (q := 95) dX8_order_92 fl_X8_26 rfl rfl rfl ?_
      refine rn_iload (x := (i2 : Int)) (q := 97) dX8_order_95 rfl rfl ?_
      refine rn_callV (b := 5) (as := [.inl (i2 : Int)]) (rest := []) (q := 100) dX8_order_97 ml_X8_175 sm_X6_has rfl rfl (by decide) (by omega) rfl rfl (Nat.le_of_ble_eq_true rfl) rfl (c_has (d := d + 4) (q.kept hf) (i2 : Int)) ?_
      intro r97 mem97 hq97
      obtain ⟨⟨rfl, hh97⟩ | ⟨rfl, hh97⟩, rfl⟩ := hq97
      · show am_Rn l G _ _ 100 [some (.inr (.inr 1)), some (.inl (mk : Int)), some (.inl w), some (.inl (gv sh h.2.2.2 (eP e) h.1 (wE sn sg e))), some (.inl (gv sh h.2.2.2 mk h.1 w)), some (.inl ((f + 1 : Nat) : Int)), some (.inl (i2 : Int)), l7] [.inl 1] m _
        refine rn_ifne (t := 106) (q := 103) dX8_order_100 rfl rfl (fun w100 => ?_) (fun h => absurd h (by decide))
        refine rn_iload_n (x := w) (q := 107) dX8_order_106 rfl rfl ?_
        refine rn_aload_n (x := 0) (q := 108) dX8_order_107 rfl rfl ?_
        refine rn_get (a := 0) (v := .inr (.inr 80)) (q := 111) dX8_order_108 fl_X8_80 rfl rfl rfl ?_
        refine rn_iload (x := (i2 : Int)) (q := 113) dX8_order_111 rfl rfl ?_
        refine rn_ialdV (a := 79) (v := sh i2) (q := 114) dX8_order_113 rfl (by omega) (by omega) (hsh i2 hi) rfl ?_
        refine rn_mmin (q := 117) dX8_order_114 am_mm_X8_130 am_mminw (Nat.le_of_ble_eq_true rfl) rfl ?_
        refine rn_istore (ls' := [some (.inr (.inr 1)), some (.inl (mk : Int)), some (.inl w), some (.inl (gv sh h.2.2.2 (eP e) h.1 (wE sn sg e))), some (.inl (gv sh h.2.2.2 mk h.1 w)), some (.inl ((f + 1 : Nat) : Int)), some (.inl (i2 : Int)), some (.inl (min w (sh i2)))]) (q := 119) dX8_order_117 (by decide) rfl rfl ?_
        refine rn_iload_n (x := w) (q := 120) dX8_order_119 rfl rfl ?_
        refine rn_iload (x := (min w (sh i2))) (q := 122) dX8_order_120 rfl rfl ?_
        refine rn_isubN (z := (w - (min w (sh i2)))) (q := 123) dX8_order_122 rfl (by unfold am_ok; omega) rfl ?_
        refine rn_istore_n (ls' := [some (.inr (.inr 1)), some (.inl (mk : Int)), some (.inl (w - (min w (sh i2)))), some (.inl (gv sh h.2.2.2 (eP e) h.1 (wE sn sg e))), some (.inl (gv sh h.2.2.2 mk h.1 w)), some (.inl ((f + 1 : Nat) : Int)), some (.inl (i2 : Int)), some (.inl (min w (sh i2)))]) (q := 124) dX8_order_123 (by decide) rfl rfl ?_
        refine rn_iload (x := (gv sh h.2.2.2 mk h.1 w)) (q := 126) dX8_order_124 rfl rfl ?_
        refine rn_iload (x := (min w (sh i2))) (q := 128) dX8_order_126 rfl rfl ?_
        refine rn_aload_n (x := 0) (q := 129) dX8_order_128 rfl rfl ?_
        refine rn_get (a := 0) (v := .inr (.inr 6)) (q := 132) dX8_order_129 fl_X8_26 rfl rfl rfl ?_
        refine rn_get (a := 5) (v := .inr (.inr 10)) (q := 135) dX8_order_132 fl_X8_156 rfl rfl rfl ?_
        refine rn_iload (x := (i2 : Int)) (q := 137) dX8_order_135 rfl rfl ?_
        refine rn_ialdV (a := 9) (v := (h.2.2.2 i2 : Int)) (q := 138) dX8_order_137 rfl (by omega) (by omega) ((q.kept hf).pay (by omega)) rfl ?_
        refine rn_imulN (z := min w (sh i2) * (h.2.2.2 i2 : Int)) (q := 139) dX8_order_138 rfl (by unfold am_ok; omega) rfl ?_
        refine rn_isubN (z := gv sh h.2.2.2 (clrB mk i2) h.1 (w - min w (sh i2))) (q := 140) dX8_order_139 hov (by unfold am_ok; omega) rfl ?_
        refine rn_istore (ls' := [some (.inr (.inr 1)), some (.inl (mk : Int)), some (.inl (w - (min w (sh i2)))), some (.inl (gv sh h.2.2.2 (eP e) h.1 (wE sn sg e))), some (.inl (gv sh h.2.2.2 (clrB mk i2) h.1 (w - min w (sh i2)))), some (.inl ((f + 1 : Nat) : Int)), some (.inl (i2 : Int)), some (.inl (min w (sh i2)))]) (q := 142) dX8_order_140 (by decide) rfl rfl ?_
        refine rn_iload_n (x := (mk : Int)) (q := 143) dX8_order_142 rfl rfl ?_
        refine rn_iconst (q := 144) dX8_order_143 (am_okd rfl) rfl ?_
        refine rn_iload (x := (i2 : Int)) (q := 146) dX8_order_144 rfl rfl ?_
        refine rn_ishl (q := 147) dX8_order_146 rfl ?_
        rw [show am_shl 1 (i2 : Int) = ((2 ^ i2 : Nat) : Int) from am_shl1 _ (by omega)]
        refine rn_iconst (q := 148) dX8_order_147 (am_okd rfl) rfl ?_
        refine rn_ixor (q := 149) dX8_order_148 rfl ?_
        refine rn_iand (q := 150) dX8_order_149 rfl ?_
        rw [show am_and (mk : Int) (am_xor ((2 ^ i2 : Nat) : Int) (-1)) = ((clrB mk i2 : Nat) : Int) from and_cl (by omega) (by omega)]
        refine rn_istore_n (ls' := [some (.inr (.inr 1)), some (.inl ((clrB mk i2 : Nat) : Int)), some (.inl (w - (min w (sh i2)))), some (.inl (gv sh h.2.2.2 (eP e) h.1 (wE sn sg e))), some (.inl (gv sh h.2.2.2 (clrB mk i2) h.1 (w - min w (sh i2)))), some (.inl ((f + 1 : Nat) : Int)), some (.inl (i2 : Int)), some (.inl (min w (sh i2)))]) (q := 151) dX8_order_150 (by decide) rfl rfl ?_
        refine rn_aload_n (x := 0) (q := 152) dX8_order_151 rfl rfl ?_
        refine rn_get (a := 0) (v := .inr (.inr 4)) (q := 155) dX8_order_152 fl_X8_19 rfl rfl rfl ?_
        refine rn_iload (x := (i2 : Int)) (q := 157) dX8_order_155 rfl rfl ?_
        refine rn_i2l (q := 158) dX8_order_157 rfl ?_
        refine rn_callV (b := 3) (as := [.inr (.inl (i2 : Int))]) (rest := []) (q := 161) dX8_order_158 ml_X8_334 sm_X3_add rfl rfl (by decide) (by omega) rfl rfl (Nat.le_of_ble_eq_true rfl) rfl (c_addA (d := d + 4) hr (by omega) (i2 : Int)) ?_
        intro r158 mem158 hq158
        obtain ⟨rfl, hr158, hf158, hf158a⟩ := hq158
        show am_Rn l G _ _ 161 [some (.inr (.inr 1)), some (.inl ((clrB mk i2 : Nat) : Int)), some (.inl (w - (min w (sh i2)))), some (.inl (gv sh h.2.2.2 (eP e) h.1 (wE sn sg e))), some (.inl (gv sh h.2.2.2 (clrB mk i2) h.1 (w - min w (sh i2)))), some (.inl ((f + 1 : Nat) : Int)), some (.inl (i2 : Int)), some (.inl (min w (sh i2)))] [] mem158 _
        refine rn_iincN (x := ((f + 1 : Nat) : Int)) (z := (f : Int)) (ls' := [some (.inr (.inr 1)), some (.inl ((clrB mk i2 : Nat) : Int)), some (.inl (w - (min w (sh i2)))), some (.inl (gv sh h.2.2.2 (eP e) h.1 (wE sn sg e))), some (.inl (gv sh h.2.2.2 (clrB mk i2) h.1 (w - min w (sh i2)))), some (.inl (f : Int)), some (.inl (i2 : Int)), some (.inl (min w (sh i2)))]) (q := 164) dX8_order_161 rfl (by decide) (by omega) (by unfold am_ok; omega) rfl rfl ?_
        refine rn_goto (t := 76) dX8_order_164 rfl ?_
        exact ih _ _ _ _ _ _ (by omega) (by omega) (by omega) (by rw [List.length_append]; show R0.length + 1 + f ≤ 8; omega) hr158 (hf.tr hf158) (fun j hj => (hf158a 79 j rfl rfl).trans (hsh j hj)) (by rw [hR, List.append_assoc]; rfl)
      · show am_Rn l G _ _ 100 [some (.inr (.inr 1)), some (.inl (mk : Int)), some (.inl w), some (.inl (gv sh h.2.2.2 (eP e) h.1 (wE sn sg e))), some (.inl (gv sh h.2.2.2 mk h.1 w)), some (.inl ((f + 1 : Nat) : Int)), some (.inl (i2 : Int)), l7] [.inl 0] m _
        refine rn_ifne (t := 106) (q := 103) dX8_order_100 rfl rfl (fun h => absurd h (by decide)) (fun w100 => ?_)
        exfalso; omega
  have L1 : ∀ i : Nat, i ≤ h.1 → ∀ (m : am_M), frS s8 mem m → (∀ j, j < i → m 79 j = sh j) → am_Rn l G mt_X8_order (d + 5) 2 [some (.inr (.inr 1)), some (.inl (i : Int)), none, none, none, none, none, none] [] m Q := by
    refine am_dn h.1 (fun i hi ih m hf hj => ?_)
    by_cases hin : i < h.1
    · refine rn_iload_n (x := (i : Int)) (q := 3) dX8_order_2 rfl rfl ?_
      refine rn_aload_n (x := 0) (q := 4) dX8_order_3 rfl rfl ?_
      refine rn_get (a := 0) (v := .inr (.inr 6)) (q := 7) dX8_order_4 fl_X8_26 rfl rfl rfl ?_
      refine rn_get (a := 5) (v := .inl (h.1 : Int)) (q := 10) dX8_order_7 fl_X8_136 rfl (am_gi (q.kept hf.r8).n) rfl ?_
      refine rn_cmpge (t := 30) (q := 13) dX8_order_10 rfl rfl (fun h => absurd h (by omega)) (fun w10 => ?_)
      refine rn_aload_n (x := 0) (q := 14) dX8_order_13 rfl rfl ?_
      refine rn_get (a := 0) (v := .inr (.inr 80)) (q := 17) dX8_order_14 fl_X8_80 rfl rfl rfl ?_
      refine rn_iload_n (x := (i : Int)) (q := 18) dX8_order_17 rfl rfl ?_
      refine rn_aload_n (x := 0) (q := 19) dX8_order_18 rfl rfl ?_
      refine rn_iload_n (x := (i : Int)) (q := 20) dX8_order_19 rfl rfl ?_
      refine rn_callV (b := 0) (as := [.inl (i : Int)]) (rest := [.inl (i : Int), .inr (.inr 80)]) (q := 23) dX8_order_20 ml_X8_181 sm_X8_mayTonight rfl rfl (by decide) (by omega) rfl rfl (Nat.le_of_ble_eq_true rfl) rfl (c_mayTonight (d := d + 0) (q.kept hf.r8) i hin) ?_
      intro r20 mem20 hq20
      obtain ⟨rfl, hf20, h7920⟩ := hq20
      show am_Rn l G _ _ 23 [some (.inr (.inr 1)), some (.inl (i : Int)), none, none, none, none, none, none] [.inl (mvK X h sn sg e (eP e) i), .inl (i : Int), .inr (.inr 80)] mem20 _
      refine rn_iastV (a := 79) (m1 := am_up mem20 79 i (mvK X h sn sg e (eP e) i)) (q := 24) dX8_order_23 rfl (by omega) (by omega) rfl rfl ?_
      refine rn_iincN (x := (i : Int)) (z := ((i + 1 : Nat) : Int)) (ls' := [some (.inr (.inr 1)), some (.inl ((i + 1 : Nat) : Int)), none, none, none, none, none, none]) (q := 27) dX8_order_24 rfl (by decide) (by omega) (by unfold am_ok; omega) rfl rfl ?_
      refine rn_goto (t := 2) dX8_order_27 rfl ?_
      refine ih hin _ ((hf.tr hf20).up rfl) (fun j hj2 => ?_)
      rw [am_up_at]
      by_cases e1 : j = i
      · rw [if_pos e1, e1, esh]
      · rw [if_neg e1, h7920]; exact hj j (by omega)
    · obtain rfl : i = h.1 := by omega
      refine rn_iload_n (x := (h.1 : Int)) (q := 3) dX8_order_2 rfl rfl ?_
      refine rn_aload_n (x := 0) (q := 4) dX8_order_3 rfl rfl ?_
      refine rn_get (a := 0) (v := .inr (.inr 6)) (q := 7) dX8_order_4 fl_X8_26 rfl rfl rfl ?_
      refine rn_get (a := 5) (v := .inl (h.1 : Int)) (q := 10) dX8_order_7 fl_X8_136 rfl (am_gi (q.kept hf.r8).n) rfl ?_
      refine rn_cmpge (t := 30) (q := 13) dX8_order_10 rfl rfl (fun w10 => ?_) (fun h => absurd h (by omega))
      refine rn_aload_n (x := 0) (q := 31) dX8_order_30 rfl rfl ?_
      refine rn_get (a := 0) (v := .inr (.inr 17)) (q := 34) dX8_order_31 fl_X8_33 rfl rfl rfl ?_
      refine rn_get (a := 16) (v := .inl (eP e : Int)) (q := 37) dX8_order_34 fl_X8_165 rfl (am_gi (q.kept hf.r8).pr) rfl ?_
      refine rn_istore_n (ls' := [some (.inr (.inr 1)), some (.inl (eP e : Int)), none, none, none, none, none, none]) (q := 38) dX8_order_37 (by decide) rfl rfl ?_
      refine rn_aload_n (x := 0) (q := 39) dX8_order_38 rfl rfl ?_
      refine rn_get (a := 0) (v := .inr (.inr 6)) (q := 42) dX8_order_39 fl_X8_26 rfl rfl rfl ?_
      refine rn_aload_n (x := 0) (q := 43) dX8_order_42 rfl rfl ?_
      refine rn_get (a := 0) (v := .inr (.inr 17)) (q := 46) dX8_order_43 fl_X8_33 rfl rfl rfl ?_
      refine rn_get (a := 16) (v := .inl (eN e : Int)) (q := 49) dX8_order_46 fl_X8_184 rfl (am_gi (q.kept hf.r8).nt) rfl ?_
      refine rn_callV (b := 5) (as := [.inl (eN e : Int)]) (rest := []) (q := 52) dX8_order_49 ml_X8_196 sm_X6_songOn rfl rfl (by decide) (by omega) rfl rfl (Nat.le_of_ble_eq_true rfl) rfl (c_songOn (d := d + 4) (q.kept hf.r8) (eN e) (by omega)) ?_
      intro r49 mem49 hq49
      obtain ⟨rfl, rfl⟩ := hq49
      show am_Rn l G _ _ 52 [some (.inr (.inr 1)), some (.inl (eP e : Int)), none, none, none, none, none, none] [.inl (sg ((eN e) % sn) : Int)] m _
      show am_Rn l G _ _ 52 [some (.inr (.inr 1)), some (.inl (eP e : Int)), none, none, none, none, none, none] [.inl (wE sn sg e)] m _
      refine rn_istore_n (ls' := [some (.inr (.inr 1)), some (.inl (eP e : Int)), some (.inl (wE sn sg e)), none, none, none, none, none]) (q := 53) dX8_order_52 (by decide) rfl rfl ?_
      refine rn_aload_n (x := 0) (q := 54) dX8_order_53 rfl rfl ?_
      refine rn_iload_n (x := (eP e : Int)) (q := 55) dX8_order_54 rfl rfl ?_
      refine rn_iload_n (x := (wE sn sg e)) (q := 56) dX8_order_55 rfl rfl ?_
      refine rn_callV (b := 0) (as := [.inl (eP e : Int), .inl (wE sn sg e)]) (rest := []) (q := 59) dX8_order_56 ml_X8_318 sm_X8_mostPaid rfl rfl (by decide) (by omega) rfl rfl (Nat.le_of_ble_eq_true rfl) rfl (c_mostPaid (d := d + 4) (q.kept hf.r8) hj hs0 (eP e) (by omega) (wE sn sg e) hw) ?_
      intro r56 mem56 hq56
      obtain ⟨rfl, rfl⟩ := hq56
      show am_Rn l G _ _ 59 [some (.inr (.inr 1)), some (.inl (eP e : Int)), some (.inl (wE sn sg e)), none, none, none, none, none] [.inl (gv sh h.2.2.2 (eP e) h.1 (wE sn sg e))] m _
      refine rn_istore_n (ls' := [some (.inr (.inr 1)), some (.inl (eP e : Int)), some (.inl (wE sn sg e)), some (.inl (gv sh h.2.2.2 (eP e) h.1 (wE sn sg e))), none, none, none, none]) (q := 60) dX8_order_59 (by decide) rfl rfl ?_
      refine rn_iload_n (x := (gv sh h.2.2.2 (eP e) h.1 (wE sn sg e))) (q := 61) dX8_order_60 rfl rfl ?_
      refine rn_istore (ls' := [some (.inr (.inr 1)), some (.inl (eP e : Int)), some (.inl (wE sn sg e)), some (.inl (gv sh h.2.2.2 (eP e) h.1 (wE sn sg e))), some (.inl (gv sh h.2.2.2 (eP e) h.1 (wE sn sg e))), none, none, none]) (q := 63) dX8_order_61 (by decide) rfl rfl ?_
      refine rn_aload_n (x := 0) (q := 64) dX8_order_63 rfl rfl ?_
      refine rn_get (a := 0) (v := .inr (.inr 4)) (q := 67) dX8_order_64 fl_X8_19 rfl rfl rfl ?_
      refine rn_callV (b := 3) (as := []) (rest := []) (q := 70) dX8_order_67 ml_X8_328 sm_X3_clear rfl rfl (by decide) (by omega) rfl rfl (Nat.le_of_ble_eq_true rfl) rfl (s_Rclear (d := d + 4) ) ?_
      intro r67 mem67 hq67
      obtain ⟨rfl, rfl⟩ := hq67
      show am_Rn l G _ _ 70 [some (.inr (.inr 1)), some (.inl (eP e : Int)), some (.inl (wE sn sg e)), some (.inl (gv sh h.2.2.2 (eP e) h.1 (wE sn sg e))), some (.inl (gv sh h.2.2.2 (eP e) h.1 (wE sn sg e))), none, none, none] [] (am_up m 3 1 0) _
      refine rn_iload_n (x := (eP e : Int)) (q := 71) dX8_order_70 rfl rfl ?_
      refine rn_callS (as := [.inl (eP e : Int)]) (rest := []) (q := 74) dX8_order_71 ml_X8_187 sm_J6_bitCount_0f7a4 (by omega) rfl rfl (Nat.le_of_ble_eq_true rfl) rfl (s_bitCount (d := d + 4) (eP e) (by omega)) ?_
      intro r71 mem71 hq71
      obtain ⟨rfl, rfl⟩ := hq71
      show am_Rn l G _ _ 74 [some (.inr (.inr 1)), some (.inl (eP e : Int)), some (.inl (wE sn sg e)), some (.inl (gv sh h.2.2.2 (eP e) h.1 (wE sn sg e))), some (.inl (gv sh h.2.2.2 (eP e) h.1 (wE sn sg e))), none, none, none] [.inl (pc (eP e) : Int)] (am_up m 3 1 0) _
      refine rn_istore (ls' := [some (.inr (.inr 1)), some (.inl (eP e : Int)), some (.inl (wE sn sg e)), some (.inl (gv sh h.2.2.2 (eP e) h.1 (wE sn sg e))), some (.inl (gv sh h.2.2.2 (eP e) h.1 (wE sn sg e))), some (.inl (pc (eP e) : Int)), none, none]) (q := 76) dX8_order_74 (by decide) rfl rfl ?_
      exact L2 (pc (eP e)) (eP e) (wE sn sg e) [] _ _ _ rfl b.2.2.1 hw (by show 0 + pc (eP e) ≤ 8; omega) c_row0 (frS.up (a := 3) (k := 1) (x := 0) hf.r8 rfl) hj (by rw [List.nil_append])
  refine rn_iconst (q := 1) dX8_order_0 (am_okd rfl) rfl ?_
  refine rn_istore_n (ls' := [some (.inr (.inr 1)), some (.inl 0), none, none, none, none, none, none]) (q := 2) dX8_order_1 (by decide) rfl rfl ?_
  exact L1 0 (Nat.zero_le _) mem frS.rf (fun j hj => absurd hj (Nat.not_lt_zero _))
end P75
