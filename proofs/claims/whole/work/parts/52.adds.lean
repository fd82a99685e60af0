/-! sums of HEARD: adds, nearest -/
def hsm (f : Nat → Nat) (mk : Nat) : Nat → Nat
  | 0 => 0
  | i + 1 => hsm f mk i + (if mk.testBit i then f i else 0)
theorem hsm_ok {f : Nat → Nat} {mk : Nat} (hf : ∀ i, f i ≤ 99) : ∀ i, hsm f mk i ≤ 99 * i := by
  intro i
  induction i with
  | zero => exact Nat.le_refl _
  | succ i ih => have := hf i; rw [hsm]; split <;> omega
def ad8 (H : Nat → Nat) (v : Int) (R : List Int) : Nat → Int × List Int
  | 0 => (-2, R)
  | k + 1 => if (H k : Int) = v ∧ ((ad8 H v R k).1 < 0 ∨ (pc k : Int) < (ad8 H v R k).1) then ((pc k : Int), [(k : Int)]) else ad8 H v R k
def ad9 (H : Nat → Nat) (v : Int) : Nat → Int
  | 0 => -1
  | k + 1 => if (H k : Int) = v ∧ (ad9 H v k = -1 ∨ (pc k : Int) < (pc (ad9 H v k).toNat : Int)) then (k : Int) else ad9 H v k
theorem ad9_ok {H : Nat → Nat} {v : Int} : ∀ k, ad9 H v k = -1 ∨ (0 ≤ ad9 H v k ∧ ad9 H v k < k) := by
  intro k
  induction k with
  | zero => exact Or.inl rfl
  | succ k ih => rw [ad9]; split <;> omega
theorem ad89 {H : Nat → Nat} {v : Int} {R : List Int} : ∀ k, ad8 H v R k = if ad9 H v k = -1 then (-2, R) else ((pc (ad9 H v k).toNat : Int), [ad9 H v k]) := by
  intro k
  induction k with
  | zero => rfl
  | succ k ih =>
    have o := ad9_ok (H := H) (v := v) k
    by_cases h1 : ad9 H v k = -1
    · by_cases h2 : (H k : Int) = v
      · rw [show ad9 H v (k + 1) = (k : Int) from if_pos ⟨h2, Or.inl h1⟩, if_neg (by omega), ad8, ih, if_pos h1, if_pos ⟨h2, Or.inl (show (-2 : Int) < 0 by decide)⟩]; rfl
      · rw [show ad9 H v (k + 1) = ad9 H v k from if_neg (fun q => h2 q.1), ad8, if_neg (fun q => h2 q.1), ih]
    · rw [if_neg h1] at ih
      by_cases h2 : (H k : Int) = v ∧ (pc k : Int) < (pc (ad9 H v k).toNat : Int)
      · rw [show ad9 H v (k + 1) = (k : Int) from if_pos ⟨h2.1, Or.inr h2.2⟩, if_neg (by omega), ad8, ih, if_pos ⟨h2.1, Or.inr h2.2⟩]; rfl
      · rw [show ad9 H v (k + 1) = ad9 H v k from if_neg (fun q => h2 ⟨q.1, by have := q.2; omega⟩), if_neg h1, ad8, ih, if_neg (fun q => h2 ⟨q.1, by have := q.2; have e : ((pc (ad9 H v k).toNat : Int), [ad9 H v k]).1 = (pc (ad9 H v k).toNat : Int) := rfl; rw [e] at this; omega⟩)]
theorem pc_le : ∀ b, b < 1024 → pc b ≤ 10 := by decide +kernel
section P52
variable {l : Launch} {G : am_G} {d : Nat} {r : Nat} {X : List Nat} {C : List Int} {sn : Nat} {sg : Nat → Nat} {h : hrs} {e : est} {NB : Nat} {mem m : am_M}
theorem c_heardBy (q : CQ r X C sn sg h e NB mem) (mk : Nat) (hm : mk < 256) : am_Sm l G yX8_heardBy mt_X8_heardBy d [.inr (.inr 1), .inl (mk : Int)] mem (am_rr (some (.inl (hsm (eH e) mk h.1 : Int))) mem) := by
  refine am_enterQ (ls := [some (.inr (.inr 1)), some (.inl (mk : Int)), none, none]) (by decide) rfl (Nat.le_of_ble_eq_true rfl) rfl (fun hok Q hQ => ?_)
  have b := q.bd
  have L : ∀ i : Nat, i ≤ h.1 → ∀ s : Nat, s = hsm (eH e) mk i → am_Rn l G mt_X8_heardBy d 4 [some (.inr (.inr 1)), some (.inl (mk : Int)), some (.inl (s : Int)), some (.inl (i : Int))] [] mem Q := by
    refine am_dn h.1 (fun i hi ih s hs => ?_)
    have h9 := q.hd9 i
    have hs9 := hsm_ok (mk := mk) q.hd9 i
    refine rn_iload_n (x := (i : Int)) (q := 5) dX8_heardBy_4 rfl rfl ?_
    refine rn_aload_n (x := 0) (q := 6) dX8_heardBy_5 rfl rfl ?_
    refine rn_get (a := 0) (v := .inr (.inr 6)) (q := 9) dX8_heardBy_6 fl_X8_26 rfl rfl rfl ?_
    refine rn_get (a := 5) (v := .inl (h.1 : Int)) (q := 12) dX8_heardBy_9 fl_X8_136 rfl (am_gi q.n) rfl ?_
    refine rn_cmpge (t := 41) (q := 15) dX8_heardBy_12 rfl rfl (fun w12 => ?_) (fun w12 => ?_)
    · refine rn_iload_n (x := (s : Int)) (q := 42) dX8_heardBy_41 rfl rfl ?_
      refine rn_iret dX8_heardBy_42 rfl ?_
      exact hQ _ _ ⟨by rw [hs, show i = h.1 by omega], rfl⟩
    · refine rn_iload_n (x := (mk : Int)) (q := 16) dX8_heardBy_15 rfl rfl ?_
      refine rn_iload_n (x := (i : Int)) (q := 17) dX8_heardBy_16 rfl rfl ?_
      refine rn_ishr (q := 18) dX8_heardBy_17 rfl ?_
      refine rn_iconst (q := 19) dX8_heardBy_18 (am_okd rfl) rfl ?_
      refine rn_iand (q := 20) dX8_heardBy_19 rfl ?_
      rw [am_bit (b := mk) (i := i) (by omega) (by omega)]
      by_cases b19 : Nat.testBit mk i = true
      · rw [if_pos b19]
        refine rn_ifeq (t := 35) (q := 23) dX8_heardBy_20 rfl rfl (fun h => absurd h (by decide)) (fun w20 => ?_)
        refine rn_iload_n (x := (s : Int)) (q := 24) dX8_heardBy_23 rfl rfl ?_
        refine rn_aload_n (x := 0) (q := 25) dX8_heardBy_24 rfl rfl ?_
        refine rn_get (a := 0) (v := .inr (.inr 17)) (q := 28) dX8_heardBy_25 fl_X8_33 rfl rfl rfl ?_
        refine rn_get (a := 16) (v := .inr (.inr 18)) (q := 31) dX8_heardBy_28 fl_X8_159 rfl rfl rfl ?_
        refine rn_iload_n (x := (i : Int)) (q := 32) dX8_heardBy_31 rfl rfl ?_
        refine rn_ialdV (a := 17) (v := (eH e i : Int)) (q := 33) dX8_heardBy_32 rfl (by omega) (by omega) (q.hd (by omega)) rfl ?_
        refine rn_iaddN (z := ((s + (eH e i) : Nat) : Int)) (q := 34) dX8_heardBy_33 (by omega) (by unfold am_ok; omega) rfl ?_
        refine rn_istore_n (ls' := [some (.inr (.inr 1)), some (.inl (mk : Int)), some (.inl ((s + (eH e i) : Nat) : Int)), some (.inl (i : Int))]) (q := 35) dX8_heardBy_34 (by decide) rfl rfl ?_
        refine rn_iincN (x := (i : Int)) (z := ((i + 1 : Nat) : Int)) (ls' := [some (.inr (.inr 1)), some (.inl (mk : Int)), some (.inl ((s + (eH e i) : Nat) : Int)), some (.inl ((i + 1 : Nat) : Int))]) (q := 38) dX8_heardBy_35 rfl (by decide) (by omega) (by unfold am_ok; omega) rfl rfl ?_
        refine rn_goto (t := 4) dX8_heardBy_38 rfl ?_
        exact ih (by omega) _ (by rw [hsm, hs]; simp [b19])
      · rw [if_neg b19]
        refine rn_ifeq (t := 35) (q := 23) dX8_heardBy_20 rfl rfl (fun w20 => ?_) (fun h => absurd h (by decide))
        refine rn_iincN (x := (i : Int)) (z := ((i + 1 : Nat) : Int)) (ls' := [some (.inr (.inr 1)), some (.inl (mk : Int)), some (.inl (s : Int)), some (.inl ((i + 1 : Nat) : Int))]) (q := 38) dX8_heardBy_35 rfl (by decide) (by omega) (by unfold am_ok; omega) rfl rfl ?_
        refine rn_goto (t := 4) dX8_heardBy_38 rfl ?_
        exact ih (by omega) _ (by rw [hsm, hs]; simp [b19])
  refine rn_iconst (q := 1) dX8_heardBy_0 (am_okd rfl) rfl ?_
  refine rn_istore_n (ls' := [some (.inr (.inr 1)), some (.inl (mk : Int)), some (.inl 0), none]) (q := 2) dX8_heardBy_1 (by decide) rfl rfl ?_
  refine rn_iconst (q := 3) dX8_heardBy_2 (am_okd rfl) rfl ?_
  refine rn_istore_n (ls' := [some (.inr (.inr 1)), some (.inl (mk : Int)), some (.inl 0), some (.inl 0)]) (q := 4) dX8_heardBy_3 (by decide) rfl rfl ?_
  exact L 0 (Nat.zero_le _) 0 rfl
theorem m_heardOf (q : DQ X sn sg h e NB mem) (mk : Nat) (hm : mk < 256) : am_Sm l G yX9_heardOf mt_X9_heardOf (d + 1) [.inr (.inr 96), .inl (mk : Int)] mem (am_rr (some (.inl (hsm (eH e) mk h.1 : Int))) mem) := by
  refine am_enterQ (ls := [some (.inr (.inr 96)), some (.inl (mk : Int)), none, none]) (by decide) rfl (Nat.le_of_ble_eq_true rfl) rfl (fun hok Q hQ => ?_)
  have b := q.bd
  have L : ∀ i : Nat, i ≤ h.1 → ∀ s : Nat, s = hsm (eH e) mk i → am_Rn l G mt_X9_heardOf (d + 1) 4 [some (.inr (.inr 96)), some (.inl (mk : Int)), some (.inl (s : Int)), some (.inl (i : Int))] [] mem Q := by
    refine am_dn h.1 (fun i hi ih s hs => ?_)
    have h9 := q.hd9 i
    have hs9 := hsm_ok (mk := mk) q.hd9 i
    refine rn_iload_n (x := (i : Int)) (q := 5) dX9_heardOf_4 rfl rfl ?_
    refine rn_aload_n (x := 95) (q := 6) dX9_heardOf_5 rfl rfl ?_
    refine rn_get (a := 95) (v := .inl (h.1 : Int)) (q := 9) dX9_heardOf_6 fl_X9_113 rfl (am_gi q.n) rfl ?_
    refine rn_cmpge (t := 39) (q := 12) dX9_heardOf_9 rfl rfl (fun w9 => ?_) (fun w9 => ?_)
    · refine rn_iload_n (x := (s : Int)) (q := 40) dX9_heardOf_39 rfl rfl ?_
      refine rn_iret dX9_heardOf_40 rfl ?_
      exact hQ _ _ ⟨by rw [hs, show i = h.1 by omega], rfl⟩
    · refine rn_iload_n (x := (s : Int)) (q := 13) dX9_heardOf_12 rfl rfl ?_
      refine rn_iload_n (x := (mk : Int)) (q := 14) dX9_heardOf_13 rfl rfl ?_
      refine rn_iload_n (x := (i : Int)) (q := 15) dX9_heardOf_14 rfl rfl ?_
      refine rn_callS (as := [.inl (mk : Int), .inl (i : Int)]) (rest := [.inl (s : Int)]) (q := 18) dX9_heardOf_15 ml_X9_309 sm_X9_has (by omega) rfl rfl (Nat.le_of_ble_eq_true rfl) rfl (s_has9 (d := d + 0) mk i (by omega) (by omega)) ?_
      intro r15 mem15 hq15
      obtain ⟨⟨rfl, hb15⟩ | ⟨rfl, hb15⟩, rfl⟩ := hq15
      · show am_Rn l G _ _ 18 [some (.inr (.inr 96)), some (.inl (mk : Int)), some (.inl (s : Int)), some (.inl (i : Int))] [.inl 1, .inl (s : Int)] mem _
        refine rn_ifeq (t := 30) (q := 21) dX9_heardOf_18 rfl rfl (fun h => absurd h (by decide)) (fun w18 => ?_)
        refine rn_aload_n (x := 95) (q := 22) dX9_heardOf_21 rfl rfl ?_
        refine rn_get (a := 95) (v := .inr (.inr 97)) (q := 25) dX9_heardOf_22 fl_X9_9 rfl rfl rfl ?_
        refine rn_iload_n (x := (i : Int)) (q := 26) dX9_heardOf_25 rfl rfl ?_
        refine rn_ialdV (a := 96) (v := (eH e i : Int)) (q := 27) dX9_heardOf_26 rfl (by omega) (by omega) (q.hd (by omega)) rfl ?_
        refine rn_goto (t := 31) dX9_heardOf_27 rfl ?_
        refine rn_iaddN (z := ((s + (eH e i) : Nat) : Int)) (q := 32) dX9_heardOf_31 (by omega) (by unfold am_ok; omega) rfl ?_
        refine rn_istore_n (ls' := [some (.inr (.inr 96)), some (.inl (mk : Int)), some (.inl ((s + (eH e i) : Nat) : Int)), some (.inl (i : Int))]) (q := 33) dX9_heardOf_32 (by decide) rfl rfl ?_
        refine rn_iincN (x := (i : Int)) (z := ((i + 1 : Nat) : Int)) (ls' := [some (.inr (.inr 96)), some (.inl (mk : Int)), some (.inl ((s + (eH e i) : Nat) : Int)), some (.inl ((i + 1 : Nat) : Int))]) (q := 36) dX9_heardOf_33 rfl (by decide) (by omega) (by unfold am_ok; omega) rfl rfl ?_
        refine rn_goto (t := 4) dX9_heardOf_36 rfl ?_
        exact ih (by omega) _ (by rw [hsm, hs]; simp [hb15])
      · show am_Rn l G _ _ 18 [some (.inr (.inr 96)), some (.inl (mk : Int)), some (.inl (s : Int)), some (.inl (i : Int))] [.inl 0, .inl (s : Int)] mem _
        refine rn_ifeq (t := 30) (q := 21) dX9_heardOf_18 rfl rfl (fun w18 => ?_) (fun h => absurd h (by decide))
        refine rn_iconst (q := 31) dX9_heardOf_30 (am_okd rfl) rfl ?_
        refine rn_iaddN (z := ((s + 0 : Nat) : Int)) (q := 32) dX9_heardOf_31 (by omega) (by unfold am_ok; omega) rfl ?_
        refine rn_istore_n (ls' := [some (.inr (.inr 96)), some (.inl (mk : Int)), some (.inl ((s + 0 : Nat) : Int)), some (.inl (i : Int))]) (q := 33) dX9_heardOf_32 (by decide) rfl rfl ?_
        refine rn_iincN (x := (i : Int)) (z := ((i + 1 : Nat) : Int)) (ls' := [some (.inr (.inr 96)), some (.inl (mk : Int)), some (.inl ((s + 0 : Nat) : Int)), some (.inl ((i + 1 : Nat) : Int))]) (q := 36) dX9_heardOf_33 rfl (by decide) (by omega) (by unfold am_ok; omega) rfl rfl ?_
        refine rn_goto (t := 4) dX9_heardOf_36 rfl ?_
        exact ih (by omega) _ (by rw [hsm, hs]; simp [hb15])
  refine rn_iconst (q := 1) dX9_heardOf_0 (am_okd rfl) rfl ?_
  refine rn_istore_n (ls' := [some (.inr (.inr 96)), some (.inl (mk : Int)), some (.inl 0), none]) (q := 2) dX9_heardOf_1 (by decide) rfl rfl ?_
  refine rn_iconst (q := 3) dX9_heardOf_2 (am_okd rfl) rfl ?_
  refine rn_istore_n (ls' := [some (.inr (.inr 96)), some (.inl (mk : Int)), some (.inl 0), some (.inl 0)]) (q := 4) dX9_heardOf_3 (by decide) rfl rfl ?_
  exact L 0 (Nat.zero_le _) 0 rfl
theorem c_adds (q : CQ r X C sn sg h e NB mem) {R : List Int} (hR : c_row R mem) (v : Int) : am_Sm l G yX8_adds mt_X8_adds (d + 2) [.inr (.inr 1), .inl v] mem (fun q m => (¬ (0 ≤ v ∧ v ≤ 999) → QC (-1) R mem q m) ∧ (0 ≤ v ∧ v ≤ 999 → QC (ad8 (fun k => hsm (eH e) k h.1) v R (2 ^ h.1)).1 (ad8 (fun k => hsm (eH e) k h.1) v R (2 ^ h.1)).2 mem q m)) := by
  refine am_enterQ (ls := [some (.inr (.inr 1)), some (.inl v), none, none, none]) (by decide) rfl (Nat.le_of_ble_eq_true rfl) rfl (fun hok Q hQ => ?_)
  have b := q.bd
  have L : ∀ i : Nat, i ≤ 2 ^ h.1 → ∀ (m : am_M) (s : Int) (lx : Option am_V), frS s8r mem m → s = (ad8 (fun k => hsm (eH e) k h.1) v R i).1 → c_row (ad8 (fun k => hsm (eH e) k h.1) v R i).2 m → 0 ≤ v ∧ v ≤ 999 → am_Rn l G mt_X8_adds (d + 2) 18 [some (.inr (.inr 1)), some (.inl v), some (.inl s), some (.inl (i : Int)), lx] [] m Q := by
    refine am_dn (2 ^ h.1) (fun i hi ih m s lx hf hs hr hv => ?_)
    refine rn_iload_n (x := (i : Int)) (q := 19) dX8_adds_18 rfl rfl ?_
    refine rn_iconst (q := 20) dX8_adds_19 (am_okd rfl) rfl ?_
    refine rn_aload_n (x := 0) (q := 21) dX8_adds_20 rfl rfl ?_
    refine rn_get (a := 0) (v := .inr (.inr 6)) (q := 24) dX8_adds_21 fl_X8_26 rfl rfl rfl ?_
    refine rn_get (a := 5) (v := .inl (h.1 : Int)) (q := 27) dX8_adds_24 fl_X8_136 rfl (am_gi (q.kept hf).n) rfl ?_
    refine rn_ishl (q := 28) dX8_adds_27 rfl ?_
    rw [show am_shl 1 (h.1 : Int) = ((2 ^ h.1 : Nat) : Int) from am_shl1 _ (by omega)]
    refine rn_cmpge (t := 74) (q := 31) dX8_adds_28 rfl rfl (fun w28 => ?_) (fun w28 => ?_)
    · refine rn_iload_n (x := s) (q := 75) dX8_adds_74 rfl rfl ?_
      refine rn_iret dX8_adds_75 rfl ?_
      exact hQ _ _ ⟨fun hn => absurd hv hn, fun _ => ⟨by rw [hs, show i = 2 ^ h.1 by omega], hf, by rw [show 2 ^ h.1 = i by omega]; exact hr⟩⟩
    · refine rn_iload_n (x := (i : Int)) (q := 32) dX8_adds_31 rfl rfl ?_
      refine rn_callS (as := [.inl (i : Int)]) (rest := []) (q := 35) dX8_adds_32 ml_X8_187 sm_J6_bitCount_0f7a4 (by omega) rfl rfl (Nat.le_of_ble_eq_true rfl) rfl (s_bitCount (d := d + 1) i (by omega)) ?_
      intro r32 mem32 hq32
      obtain ⟨rfl, rfl⟩ := hq32
      show am_Rn l G _ _ 35 [some (.inr (.inr 1)), some (.inl v), some (.inl s), some (.inl (i : Int)), lx] [.inl (pc i : Int)] m _
      refine rn_istore (ls' := [some (.inr (.inr 1)), some (.inl v), some (.inl s), some (.inl (i : Int)), some (.inl (pc i : Int))]) (q := 37) dX8_adds_35 (by decide) rfl rfl ?_
      refine rn_aload_n (x := 0) (q := 38) dX8_adds_37 rfl rfl ?_
      refine rn_iload_n (x := (i : Int)) (q := 39) dX8_adds_38 rfl rfl ?_
      refine rn_callV (b := 0) (as := [.inl (i : Int)]) (rest := []) (q := 42) dX8_adds_39 ml_X8_341 sm_X8_heardBy rfl rfl (by decide) (by omega) rfl rfl (Nat.le_of_ble_eq_true rfl) rfl (c_heardBy (d := d + 1) (q.kept hf) i (by omega)) ?_
      intro r39 mem39 hq39
      obtain ⟨rfl, rfl⟩ := hq39
      show am_Rn l G _ _ 42 [some (.inr (.inr 1)), some (.inl v), some (.inl s), some (.inl (i : Int)), some (.inl (pc i : Int))] [.inl (hsm (eH e) i h.1 : Int)] m _
      refine rn_iload_n (x := v) (q := 43) dX8_adds_42 rfl rfl ?_
      refine rn_cmpne (t := 68) (q := 46) dX8_adds_43 rfl rfl (fun w43 => ?_) (fun w43 => ?_)
      · refine rn_iincN (x := (i : Int)) (z := ((i + 1 : Nat) : Int)) (ls' := [some (.inr (.inr 1)), some (.inl v), some (.inl s), some (.inl ((i + 1 : Nat) : Int)), some (.inl (pc i : Int))]) (q := 71) dX8_adds_68 rfl (by decide) (by omega) (by unfold am_ok; omega) rfl rfl ?_
        refine rn_goto (t := 18) dX8_adds_71 rfl ?_
        first | exact ih (by omega) _ _ _ hf (by rw [ad8, if_pos ⟨by omega, by omega⟩]) (by rw [ad8, if_pos ⟨by omega, by omega⟩]; exact hr65) hv | exact ih (by omega) _ _ _ hf (by rw [ad8, if_neg (fun w => by have := w.1; have := w.2; omega)]; exact hs) (by rw [ad8, if_neg (fun w => by have := w.1; have := w.2; omega)]; exact hr) hv
      · refine rn_iload_n (x := s) (q := 47) dX8_adds_46 rfl rfl ?_
        refine rn_iflt (t := 56) (q := 50) dX8_adds_47 rfl rfl (fun w47 => ?_) (fun w47 => ?_)
        · refine rn_iload (x := (pc i : Int)) (q := 58) dX8_adds_56 rfl rfl ?_
          refine rn_istore_n (ls' := [some (.inr (.inr 1)), some (.inl v), some (.inl (pc i : Int)), some (.inl (i : Int)), some (.inl (pc i : Int))]) (q := 59) dX8_adds_58 (by decide) rfl rfl ?_
          refine rn_aload_n (x := 0) (q := 60) dX8_adds_59 rfl rfl ?_
          refine rn_get (a := 0) (v := .inr (.inr 4)) (q := 63) dX8_adds_60 fl_X8_19 rfl rfl rfl ?_
          refine rn_iload_n (x := (i : Int)) (q := 64) dX8_adds_63 rfl rfl ?_
          refine rn_i2l (q := 65) dX8_adds_64 rfl ?_
          refine rn_callV (b := 3) (as := [.inr (.inl (i : Int))]) (rest := []) (q := 68) dX8_adds_65 ml_X8_299 sm_X3_tell rfl rfl (by decide) (by omega) rfl rfl (Nat.le_of_ble_eq_true rfl) rfl (s_Rtell (d := d + 0) (i : Int)) ?_
          intro r65 mem65 hq65
          obtain ⟨rfl, hr65, hf65⟩ := hq65
          show am_Rn l G _ _ 68 [some (.inr (.inr 1)), some (.inl v), some (.inl (pc i : Int)), some (.inl (i : Int)), some (.inl (pc i : Int))] [] mem65 _
          refine rn_iincN (x := (i : Int)) (z := ((i + 1 : Nat) : Int)) (ls' := [some (.inr (.inr 1)), some (.inl v), some (.inl (pc i : Int)), some (.inl ((i + 1 : Nat) : Int)), some (.inl (pc i : Int))]) (q := 71) dX8_adds_68 rfl (by decide) (by omega) (by unfold am_ok; omega) rfl rfl ?_
          refine rn_goto (t := 18) dX8_adds_71 rfl ?_
          first | exact ih (by omega) _ _ _ (hf.tr (fr_row hf65)) (by rw [ad8, if_pos ⟨by omega, by omega⟩]) (by rw [ad8, if_pos ⟨by omega, by omega⟩]; exact hr65) hv | exact ih (by omega) _ _ _ (hf.tr (fr_row hf65)) (by rw [ad8, if_neg (fun w => by have := w.1; have := w.2; omega)]; exact hs) (by rw [ad8, if_neg (fun w => by have := w.1; have := w.2; omega)]; exact hr) hv
        · refine rn_iload (x := (pc i : Int)) (q := 52) dX8_adds_50 rfl rfl ?_
          refine rn_iload_n (x := s) (q := 53) dX8_adds_52 rfl rfl ?_
          refine rn_cmpge (t := 68) (q := 56) dX8_adds_53 rfl rfl (fun w53 => ?_) (fun w53 => ?_)
          · refine rn_iincN (x := (i : Int)) (z := ((i + 1 : Nat) : Int)) (ls' := [some (.inr (.inr 1)), some (.inl v), some (.inl s), some (.inl ((i + 1 : Nat) : Int)), some (.inl (pc i : Int))]) (q := 71) dX8_adds_68 rfl (by decide) (by omega) (by unfold am_ok; omega) rfl rfl ?_
            refine rn_goto (t := 18) dX8_adds_71 rfl ?_
            first | exact ih (by omega) _ _ _ hf (by rw [ad8, if_pos ⟨by omega, by omega⟩]) (by rw [ad8, if_pos ⟨by omega, by omega⟩]; exact hr65) hv | exact ih (by omega) _ _ _ hf (by rw [ad8, if_neg (fun w => by have := w.1; have := w.2; omega)]; exact hs) (by rw [ad8, if_neg (fun w => by have := w.1; have := w.2; omega)]; exact hr) hv
          · refine rn_iload (x := (pc i : Int)) (q := 58) dX8_adds_56 rfl rfl ?_
            refine rn_istore_n (ls' := [some (.inr (.inr 1)), some (.inl v), some (.inl (pc i : Int)), some (.inl (i : Int)), some (.inl (pc i : Int))]) (q := 59) dX8_adds_58 (by decide) rfl rfl ?_
            refine rn_aload_n (x := 0) (q := 60) dX8_adds_59 rfl rfl ?_
            refine rn_get (a := 0) (v := .inr (.inr 4)) (q := 63) dX8_adds_60 fl_X8_19 rfl rfl rfl ?_
            refine rn_iload_n (x := (i : Int)) (q := 64) dX8_adds_63 rfl rfl ?_
            refine rn_i2l (q := 65) dX8_adds_64 rfl ?_
            refine rn_callV (b := 3) (as := [.inr (.inl (i : Int))]) (rest := []) (q := 68) dX8_adds_65 ml_X8_299 sm_X3_tell rfl rfl (by decide) (by omega) rfl rfl (Nat.le_of_ble_eq_true rfl) rfl (s_Rtell (d := d + 0) (i : Int)) ?_
            intro r65 mem65 hq65
            obtain ⟨rfl, hr65, hf65⟩ := hq65
            show am_Rn l G _ _ 68 [some (.inr (.inr 1)), some (.inl v), some (.inl (pc i : Int)), some (.inl (i : Int)), some (.inl (pc i : Int))] [] mem65 _
            refine rn_iincN (x := (i : Int)) (z := ((i + 1 : Nat) : Int)) (ls' := [some (.inr (.inr 1)), some (.inl v), some (.inl (pc i : Int)), some (.inl ((i + 1 : Nat) : Int)), some (.inl (pc i : Int))]) (q := 71) dX8_adds_68 rfl (by decide) (by omega) (by unfold am_ok; omega) rfl rfl ?_
            refine rn_goto (t := 18) dX8_adds_71 rfl ?_
            first | exact ih (by omega) _ _ _ (hf.tr (fr_row hf65)) (by rw [ad8, if_pos ⟨by omega, by omega⟩]) (by rw [ad8, if_pos ⟨by omega, by omega⟩]; exact hr65) hv | exact ih (by omega) _ _ _ (hf.tr (fr_row hf65)) (by rw [ad8, if_neg (fun w => by have := w.1; have := w.2; omega)]; exact hs) (by rw [ad8, if_neg (fun w => by have := w.1; have := w.2; omega)]; exact hr) hv
  refine rn_iload_n (x := v) (q := 1) dX8_adds_0 rfl rfl ?_
  refine rn_iflt (t := 11) (q := 4) dX8_adds_1 rfl rfl (fun w1 => ?_) (fun w1 => ?_)
  · refine rn_iconst (q := 12) dX8_adds_11 (am_okd rfl) rfl ?_
    refine rn_iret dX8_adds_12 rfl ?_
    exact hQ _ _ ⟨fun _ => ⟨rfl, frS.rf, hR⟩, fun hn => by omega⟩
  · refine rn_iload_n (x := v) (q := 5) dX8_adds_4 rfl rfl ?_
    refine rn_sipush (q := 8) dX8_adds_5 ⟨by decide, by decide⟩ rfl ?_
    refine rn_cmple (t := 13) (q := 11) dX8_adds_8 rfl rfl (fun w8 => ?_) (fun w8 => ?_)
    · refine rn_bipush (q := 15) dX8_adds_13 ⟨by decide, by decide⟩ rfl ?_
      refine rn_istore_n (ls' := [some (.inr (.inr 1)), some (.inl v), some (.inl (-2)), none, none]) (q := 16) dX8_adds_15 (by decide) rfl rfl ?_
      refine rn_iconst (q := 17) dX8_adds_16 (am_okd rfl) rfl ?_
      refine rn_istore_n (ls' := [some (.inr (.inr 1)), some (.inl v), some (.inl (-2)), some (.inl 0), none]) (q := 18) dX8_adds_17 (by decide) rfl rfl ?_
      exact L 0 (Nat.zero_le _) mem _ _ frS.rf rfl hR (by omega)
    · refine rn_iconst (q := 12) dX8_adds_11 (am_okd rfl) rfl ?_
      refine rn_iret dX8_adds_12 rfl ?_
      exact hQ _ _ ⟨fun _ => ⟨rfl, frS.rf, hR⟩, fun hn => by omega⟩
theorem m_adds (q : DQ X sn sg h e NB mem) {R : List Int} (hR : m_row R mem) (v : Int) : am_Sm l G yX9_adds mt_X9_adds (d + 3) [.inr (.inr 96), .inl v] mem (fun q m => (¬ (0 ≤ v ∧ v ≤ 999) → QM (-1) R mem q m) ∧ (0 ≤ v ∧ v ≤ 999 → QM (ad8 (fun k => hsm (eH e) k h.1) v R (2 ^ h.1)).1 (ad8 (fun k => hsm (eH e) k h.1) v R (2 ^ h.1)).2 mem q m)) := by
  refine am_enterQ (ls := [some (.inr (.inr 96)), some (.inl v), none, none]) (by decide) rfl (Nat.le_of_ble_eq_true rfl) rfl (fun hok Q hQ => ?_)
  have b := q.bd
  have L : ∀ i : Nat, i ≤ 2 ^ h.1 → ∀ (s : Int), s = ad9 (fun k => hsm (eH e) k h.1) v i → 0 ≤ v ∧ v ≤ 999 → am_Rn l G mt_X9_adds (d + 3) 22 [some (.inr (.inr 96)), some (.inl v), some (.inl s), some (.inl (i : Int))] [] (am_up mem 95 11 0) Q := by
    refine am_dn (2 ^ h.1) (fun i hi ih s hs hv => ?_)
    have o := ad9_ok (H := fun k => hsm (eH e) k h.1) (v := v) i
    rw [← hs] at o
    refine rn_iload_n (x := (i : Int)) (q := 23) dX9_adds_22 rfl rfl ?_
    refine rn_iconst (q := 24) dX9_adds_23 (am_okd rfl) rfl ?_
    refine rn_aload_n (x := 95) (q := 25) dX9_adds_24 rfl rfl ?_
    refine rn_get (a := 95) (v := .inl (h.1 : Int)) (q := 28) dX9_adds_25 fl_X9_113 rfl (am_gi (q.kept (frS.up (a := 95) (k := 11) (x := 0) frS.rf rfl)).n) rfl ?_
    refine rn_ishl (q := 29) dX9_adds_28 rfl ?_
    rw [show am_shl 1 (h.1 : Int) = ((2 ^ h.1 : Nat) : Int) from am_shl1 _ (by omega)]
    refine rn_cmpge (t := 65) (q := 32) dX9_adds_29 rfl rfl (fun w29 => ?_) (fun w29 => ?_)
    · refine rn_iload_n (x := s) (q := 66) dX9_adds_65 rfl rfl ?_
      refine rn_iconst (q := 67) dX9_adds_66 (am_okd rfl) rfl ?_
      refine rn_cmpne (t := 73) (q := 70) dX9_adds_67 rfl rfl (fun w67 => ?_) (fun w67 => ?_)
      · refine rn_aload_n (x := 95) (q := 74) dX9_adds_73 rfl rfl ?_
        refine rn_iconst (q := 75) dX9_adds_74 (am_okd rfl) rfl ?_
        refine rn_puti (a := 95) (q := 78) dX9_adds_75 fl_X9_110 rfl rfl rfl rfl ?_
        refine rn_aload_n (x := 95) (q := 79) dX9_adds_78 rfl rfl ?_
        refine rn_iload_n (x := s) (q := 80) dX9_adds_79 rfl rfl ?_
        refine rn_i2l (q := 81) dX9_adds_80 rfl ?_
        refine rn_callV (b := 95) (as := [.inr (.inl s)]) (rest := []) (q := 84) dX9_adds_81 ml_X9_275 sm_X9_tell rfl rfl (by decide) (by omega) rfl rfl (Nat.le_of_ble_eq_true rfl) rfl (m_tell (d := d + 2) m_row0 (by first | decide | simp | omega) s) ?_
        intro r81 mem81 hq81
        obtain ⟨rfl, hr81, hf81⟩ := hq81
        show am_Rn l G _ _ 84 [some (.inr (.inr 96)), some (.inl v), some (.inl s), some (.inl (i : Int))] [] mem81 _
        refine rn_iload_n (x := s) (q := 85) dX9_adds_84 rfl rfl ?_
        obtain ⟨sN, rfl⟩ : ∃ x : Nat, s = (x : Int) := ⟨s.toNat, by omega⟩
        refine rn_callS (as := [.inl (sN : Int)]) (rest := []) (q := 88) dX9_adds_85 ml_X9_220 sm_J6_bitCount_0f7a4 (by omega) rfl rfl (Nat.le_of_ble_eq_true rfl) rfl (s_bitCount (d := d + 2) sN (by omega)) ?_
        intro r85 mem85 hq85
        obtain ⟨rfl, rfl⟩ := hq85
        show am_Rn l G _ _ 88 [some (.inr (.inr 96)), some (.inl v), some (.inl (sN : Int)), some (.inl (i : Int))] [.inl (pc sN : Int)] mem81 _
        refine rn_iret dX9_adds_88 rfl ?_
        exact hQ _ _ ⟨fun hn => absurd hv hn, fun _ => by rw [ad89, show 2 ^ h.1 = i by omega, if_neg (by omega), ← hs]; exact ⟨rfl, ((frS.up (a := 95) (k := 10) (x := 0) (frS.up (a := 95) (k := 11) (x := 0) frS.rf rfl) rfl).tr hf81), hr81⟩⟩
      · refine rn_bipush (q := 72) dX9_adds_70 ⟨by decide, by decide⟩ rfl ?_
        refine rn_iret dX9_adds_72 rfl ?_
        exact hQ _ _ ⟨fun hn => absurd hv hn, fun _ => by rw [ad89, show 2 ^ h.1 = i by omega, if_pos (by omega)]; exact ⟨rfl, frS.rf.up rfl, hR.kept (frS.rf.up rfl)⟩⟩
    · refine rn_aload_n (x := 95) (q := 33) dX9_adds_32 rfl rfl ?_
      refine rn_iload_n (x := (i : Int)) (q := 34) dX9_adds_33 rfl rfl ?_
      refine rn_callV (b := 95) (as := [.inl (i : Int)]) (rest := []) (q := 37) dX9_adds_34 ml_X9_317 sm_X9_heardOf rfl rfl (by decide) (by omega) rfl rfl (Nat.le_of_ble_eq_true rfl) rfl (m_heardOf (d := d + 1) (q.kept (frS.up (a := 95) (k := 11) (x := 0) frS.rf rfl)) i (by omega)) ?_
      intro r34 mem34 hq34
      obtain ⟨rfl, rfl⟩ := hq34
      show am_Rn l G _ _ 37 [some (.inr (.inr 96)), some (.inl v), some (.inl s), some (.inl (i : Int))] [.inl (hsm (eH e) i h.1 : Int)] (am_up mem 95 11 0) _
      refine rn_iload_n (x := v) (q := 38) dX9_adds_37 rfl rfl ?_
      refine rn_cmpne (t := 59) (q := 41) dX9_adds_38 rfl rfl (fun w38 => ?_) (fun w38 => ?_)
      · refine rn_iincN (x := (i : Int)) (z := ((i + 1 : Nat) : Int)) (ls' := [some (.inr (.inr 96)), some (.inl v), some (.inl s), some (.inl ((i + 1 : Nat) : Int))]) (q := 62) dX9_adds_59 rfl (by decide) (by omega) (by unfold am_ok; omega) rfl rfl ?_
        refine rn_goto (t := 22) dX9_adds_62 rfl ?_
        first | exact ih (by omega) _ (by rw [ad9, ← hs]; (try rw [Int.toNat_natCast]); rw [if_pos ⟨by omega, by omega⟩]) hv | exact ih (by omega) _ (by rw [ad9, ← hs]; (try rw [Int.toNat_natCast]); rw [if_neg (fun w => by have := w.1; have := w.2; omega)]) hv
      · refine rn_iload_n (x := s) (q := 42) dX9_adds_41 rfl rfl ?_
        refine rn_iconst (q := 43) dX9_adds_42 (am_okd rfl) rfl ?_
        refine rn_cmpeq (t := 57) (q := 46) dX9_adds_43 rfl rfl (fun w43 => ?_) (fun w43 => ?_)
        · refine rn_iload_n (x := (i : Int)) (q := 58) dX9_adds_57 rfl rfl ?_
          refine rn_istore_n (ls' := [some (.inr (.inr 96)), some (.inl v), some (.inl (i : Int)), some (.inl (i : Int))]) (q := 59) dX9_adds_58 (by decide) rfl rfl ?_
          refine rn_iincN (x := (i : Int)) (z := ((i + 1 : Nat) : Int)) (ls' := [some (.inr (.inr 96)), some (.inl v), some (.inl (i : Int)), some (.inl ((i + 1 : Nat) : Int))]) (q := 62) dX9_adds_59 rfl (by decide) (by omega) (by unfold am_ok; omega) rfl rfl ?_
          refine rn_goto (t := 22) dX9_adds_62 rfl ?_
          first | exact ih (by omega) _ (by rw [ad9, ← hs]; (try rw [Int.toNat_natCast]); rw [if_pos ⟨by omega, by omega⟩]) hv | exact ih (by omega) _ (by rw [ad9, ← hs]; (try rw [Int.toNat_natCast]); rw [if_neg (fun w => by have := w.1; have := w.2; omega)]) hv
        · refine rn_iload_n (x := (i : Int)) (q := 47) dX9_adds_46 rfl rfl ?_
          refine rn_callS (as := [.inl (i : Int)]) (rest := []) (q := 50) dX9_adds_47 ml_X9_220 sm_J6_bitCount_0f7a4 (by omega) rfl rfl (Nat.le_of_ble_eq_true rfl) rfl (s_bitCount (d := d + 2) i (by omega)) ?_
          intro r47 mem47 hq47
          obtain ⟨rfl, rfl⟩ := hq47
          show am_Rn l G _ _ 50 [some (.inr (.inr 96)), some (.inl v), some (.inl s), some (.inl (i : Int))] [.inl (pc i : Int)] (am_up mem 95 11 0) _
          refine rn_iload_n (x := s) (q := 51) dX9_adds_50 rfl rfl ?_
          obtain ⟨sN, rfl⟩ : ∃ x : Nat, s = (x : Int) := ⟨s.toNat, by omega⟩
          refine rn_callS (as := [.inl (sN : Int)]) (rest := [.inl (pc i : Int)]) (q := 54) dX9_adds_51 ml_X9_220 sm_J6_bitCount_0f7a4 (by omega) rfl rfl (Nat.le_of_ble_eq_true rfl) rfl (s_bitCount (d := d + 2) sN (by omega)) ?_
          intro r51 mem51 hq51
          obtain ⟨rfl, rfl⟩ := hq51
          show am_Rn l G _ _ 54 [some (.inr (.inr 96)), some (.inl v), some (.inl (sN : Int)), some (.inl (i : Int))] [.inl (pc sN : Int), .inl (pc i : Int)] (am_up mem 95 11 0) _
          refine rn_cmpge (t := 59) (q := 57) dX9_adds_54 rfl rfl (fun w54 => ?_) (fun w54 => ?_)
          · refine rn_iincN (x := (i : Int)) (z := ((i + 1 : Nat) : Int)) (ls' := [some (.inr (.inr 96)), some (.inl v), some (.inl (sN : Int)), some (.inl ((i + 1 : Nat) : Int))]) (q := 62) dX9_adds_59 rfl (by decide) (by omega) (by unfold am_ok; omega) rfl rfl ?_
            refine rn_goto (t := 22) dX9_adds_62 rfl ?_
            first | exact ih (by omega) _ (by rw [ad9, ← hs]; (try rw [Int.toNat_natCast]); rw [if_pos ⟨by omega, by omega⟩]) hv | exact ih (by omega) _ (by rw [ad9, ← hs]; (try rw [Int.toNat_natCast]); rw [if_neg (fun w => by have := w.1; have := w.2; omega)]) hv
          · refine rn_iload_n (x := (i : Int)) (q := 58) dX9_adds_57 rfl rfl ?_
            refine rn_istore_n (ls' := [some (.inr (.inr 96)), some (.inl v), some (.inl (i : Int)), some (.inl (i : Int))]) (q := 59) dX9_adds_58 (by decide) rfl rfl ?_
            refine rn_iincN (x := (i : Int)) (z := ((i + 1 : Nat) : Int)) (ls' := [some (.inr (.inr 96)), some (.inl v), some (.inl (i : Int)), some (.inl ((i + 1 : Nat) : Int))]) (q := 62) dX9_adds_59 rfl (by decide) (by omega) (by unfold am_ok; omega) rfl rfl ?_
            refine rn_goto (t := 22) dX9_adds_62 rfl ?_
            first | exact ih (by omega) _ (by rw [ad9, ← hs]; (try rw [Int.toNat_natCast]); rw [if_pos ⟨by omega, by omega⟩]) hv | exact ih (by omega) _ (by rw [ad9, ← hs]; (try rw [Int.toNat_natCast]); rw [if_neg (fun w => by have := w.1; have := w.2; omega)]) hv
  refine rn_aload_n (x := 95) (q := 1) dX9_adds_0 rfl rfl ?_
  refine rn_iconst (q := 2) dX9_adds_1 (am_okd rfl) rfl ?_
  refine rn_puti (a := 95) (q := 5) dX9_adds_2 fl_X9_107 rfl rfl rfl rfl ?_
  refine rn_iload_n (x := v) (q := 6) dX9_adds_5 rfl rfl ?_
  refine rn_iconst (q := 7) dX9_adds_6 (am_okd rfl) rfl ?_
  refine rn_sipush (q := 10) dX9_adds_7 ⟨by decide, by decide⟩ rfl ?_
  refine rn_callS (as := [.inl v, .inl 0, .inl 999]) (rest := []) (q := 13) dX9_adds_10 ml_X9_116 sm_X9_in (by omega) rfl rfl (Nat.le_of_ble_eq_true rfl) rfl (s_in9 (d := d + 2) v 0 999) ?_
  intro r10 mem10 hq10
  obtain ⟨⟨rfl, hi10⟩ | ⟨rfl, hi10⟩, rfl⟩ := hq10
  · show am_Rn l G _ _ 13 [some (.inr (.inr 96)), some (.inl v), none, none] [.inl 1] (am_up mem 95 11 0) _
    refine rn_ifne (t := 18) (q := 16) dX9_adds_13 rfl rfl (fun w13 => ?_) (fun h => absurd h (by decide))
    refine rn_iconst (q := 19) dX9_adds_18 (am_okd rfl) rfl ?_
    refine rn_istore_n (ls' := [some (.inr (.inr 96)), some (.inl v), some (.inl (-1)), none]) (q := 20) dX9_adds_19 (by decide) rfl rfl ?_
    refine rn_iconst (q := 21) dX9_adds_20 (am_okd rfl) rfl ?_
    refine rn_istore_n (ls' := [some (.inr (.inr 96)), some (.inl v), some (.inl (-1)), some (.inl 0)]) (q := 22) dX9_adds_21 (by decide) rfl rfl ?_
    exact L 0 (Nat.zero_le _) _ rfl (by omega)
  · show am_Rn l G _ _ 13 [some (.inr (.inr 96)), some (.inl v), none, none] [.inl 0] (am_up mem 95 11 0) _
    refine rn_ifne (t := 18) (q := 16) dX9_adds_13 rfl rfl (fun h => absurd h (by decide)) (fun w13 => ?_)
    refine rn_iconst (q := 17) dX9_adds_16 (am_okd rfl) rfl ?_
    refine rn_iret dX9_adds_17 rfl ?_
    exact hQ _ _ ⟨fun _ => ⟨rfl, (frS.up (a := 95) (k := 11) (x := 0) frS.rf rfl), hR.kept (frS.rf.up rfl)⟩, fun hn => by omega⟩
end P52
