/-! nights ahead: words and small callees of the questions -/
theorem ble_f {a b : Nat} : (Nat.ble a b = false) = (b < a) := by
  apply propext
  constructor
  · intro h
    apply Nat.lt_of_not_le
    intro q
    rw [Nat.ble_eq_true_of_le q] at h
    cases h
  · intro h
    cases e : Nat.ble a b with
    | false => rfl
    | true => exact absurd (Nat.le_of_ble_eq_true e) (by omega)
def itE (X : List Nat) (h : hrs) (sn : Nat) (sg : Nat → Nat) (e : est) : Nat → est
  | 0 => e
  | k + 1 => nextE X h sn sg (itE X h sn sg e k)
theorem itE_ok {X : List Nat} {h : hrs} {sn : Nat} {sg : Nat → Nat} {e : est} {NB : Nat} (he : e_ok h.1 NB e) : ∀ k, e_ok h.1 (NB + k) (itE X h sn sg e k) := by
  intro k
  induction k with
  | zero => exact he
  | succ k ih => exact nextE_ok ih
theorem fr_n9.to9 {arr : Nat} {mem m : am_M} (f : fr_n9 arr mem m) (ha : arr = 109 ∨ arr = 110) : frS s9 mem m := by
  intro b k hb
  unfold s9 at hb
  simp [ble_f] at hb
  by_cases h95 : b = 95
  · subst h95
    rw [f.2 k (by omega) (by omega) (by omega)]
  · rw [f.1 b h95 (by omega) (by omega) (by omega) (by omega)]
theorem fr_p9.to9 {mem m : am_M} (f : fr_p9 mem m) : frS s9 mem m := by
  intro b k hb
  unfold s9 at hb
  simp [ble_f] at hb
  by_cases h95 : b = 95
  · subst h95
    rw [f.2 k (by omega) (by omega) (by omega)]
  · rw [f.1 b h95 (by omega) (by omega) (by omega)]
theorem fr_part.to8 {r : Nat} {mem m : am_M} (hr : am_rul r) (f : fr_part r mem m) : frS s8 mem m := by
  have o := am_rul_or hr
  intro b k hb
  unfold s8 at hb
  simp [ble_f] at hb
  by_cases h5 : b = 5
  · subst h5
    by_cases hk : k < 8
    · exact f.2 k hk
    · exfalso; omega
  · rw [f.1 b h5 (by omega) (by omega) (by omega)]
section P62a
variable {l : Launch} {G : am_G} {d : Nat} {mem M : am_M}
theorem s_goNight9x {arr : Nat} (ha : am_ks[arr]? = some (100, 29)) (a1 : arr ≠ 95) (a2 : arr ≠ 106) (a3 : arr ≠ 111) (a4 : arr ≠ 112) {rq : Nat} {X : List Nat} (hx4 : X.length ≤ 40) (hx2 : ∀ j, X.getD j 0 < 256) (hR : m_rul rq X mem) {sn : Nat} {sg : Nat → Nat} (hs : m_song sn sg mem) {h : hrs} (hh : m_hrs h mem) {e : est} {NB : Nat} (hNB : NB < 1000000) (heo : e_ok h.1 NB e) (hem : m_est e arr 0 mem) (hask : mem 95 21 = 0) : am_Sm l G yX9_goNight mt_X9_goNight (d + 178) [.inr (.inr 96), .inr (.inr (arr + 1))] mem (fun q m => q = none ∧ m_est (nextE X h sn sg e) arr 0 m ∧ fr_n9 arr mem m ∧ m 95 30 = pD (mvE X h sn sg e) (eP e) (wE sn sg e) h.2.2.2 h.1 ∧ m 95 31 = pL (mvE X h sn sg e) (eP e) (wE sn sg e) h.1) := by
  refine am_enter (ls := [some (.inr (.inr 96)), some (.inr (.inr (arr + 1))), none]) (by decide) rfl (Nat.le_of_ble_eq_true rfl) rfl ?_
  have hw := wE_ok (sn := sn) (e := e) hs.2.2.2.1
  have hmn := mvE_nn (X := X) (h := h) (sn := sn) (sg := sg) (e := e)
  have h8 : h.1 ≤ 8 := hh.1.1
  have hpk := pP_ok (mk := eP e) hmn hw
  have hlk := pL_ok (mk := eP e) hmn hw h.1
  have hdk := pD_ok (mk := eP e) hmn hw hh.1.2.2.2 h.1
  obtain ⟨o1, o2, o3, o4, o5, o6, o7, o8⟩ := heo
  refine rn_aload_n (x := 95) (q := 1) dX9_goNight_0 rfl rfl ?_
  refine rn_aload_n (x := arr) (q := 2) dX9_goNight_1 rfl rfl ?_
  refine rn_callV (b := 95) (as := [.inr (.inr (arr + 1))]) (rest := []) (q := 5) dX9_goNight_2 ml_X9_258 sm_X9_part rfl rfl (by decide) (by omega) rfl rfl (Nat.le_of_ble_eq_true rfl) rfl (s_part9 (d := d) ha a1 a2 a3 a4 hx4 hx2 hR hs hh hNB ⟨o1, o2, o3, o4, o5, o6, o7, o8⟩ hem hask (mv := mvE X h sn sg e) (fun _ => rfl)) ?_
  intro r2 mem2 hq2
  obtain ⟨rfl, hf, hp, h30, h31⟩ := hq2
  show am_Rn l G _ _ 5 [some (.inr (.inr 96)), some (.inr (.inr (arr + 1))), none] [] mem2 _
  refine rn_iconst (q := 6) dX9_goNight_5 (am_okd rfl) rfl ?_
  refine rn_istore_n (ls' := [some (.inr (.inr 96)), some (.inr (.inr (arr + 1))), some (.inl 0)]) (q := 7) dX9_goNight_6 (by decide) rfl rfl ?_
  obtain ⟨y1, y2, y3, y4, y5, y6, y7, y8⟩ := hf.est a1 a2 a3 a4 hem
  refine s_goN_7 (d := d + 177) ha a1 a4 (m0 := mem2) h8 (hf.hrs hh).2.1 (hd := eH e) o1 (p := pP (mvE X h sn sg e) (eP e) (wE sn sg e)) hpk hp (fun m lx f1 f2 f3 => ?_) h.1 0 mem2 (by omega) (fun _ _ => rfl) (fun j hj => ?_) (fun _ _ => rfl)
  · have f95 : m 95 = mem2 95 := f1 95 (fun q => a1 q.symm)
    refine s_goN_39 (d := d + 177) ha a1 (nt := eN e) (eb := eB e) (em := eM e) (ek := eK e) (eg := eG e) (pd := pD (mvE X h sn sg e) (eP e) (wE sn sg e) h.2.2.2 h.1) (pl := pL (mvE X h sn sg e) (eP e) (wE sn sg e) h.1) (by omega) o5 o6 o7 o8 (by omega) hlk ((f3 24 (by decide)).trans y4) ((f3 25 (by decide)).trans y5) ((f3 26 (by decide)).trans y6) ((f3 27 (by decide)).trans y7) ((f3 28 (by decide)).trans y8) (by rw [f95]; exact h30) (by rw [f95]; exact h31) (fun m1 g1 g2 g3 g4 g5 g6 g7 => ⟨rfl, ⟨fun i hi => ?_, fun i hi => ?_, fun i hi => ?_, ?_, ?_, ?_, ?_, ?_⟩, ⟨fun b b1 b2 b3 b4 b5 => ?_, fun k hk k1 k2 => ?_⟩, ?_, ?_⟩)
    · rw [Nat.zero_add, g2 i (by omega), f2 i hi]
      have := hpk i
      show _ = (((if i < h.1 then (min 99 ((eH e i : Int) + pP (mvE X h sn sg e) (eP e) (wE sn sg e) i)).toNat else eH e i) : Nat) : Int)
      split <;> omega
    · have := y2 i hi
      rw [Nat.zero_add] at this ⊢
      rw [g2 (8 + i) (by omega), f3 (8 + i) (by omega)]; exact this
    · have := y3 i hi
      rw [Nat.zero_add] at this ⊢
      rw [g2 (16 + i) (by omega), f3 (16 + i) (by omega)]; exact this
    · rw [Nat.zero_add, g3]
      show _ = (((min 9999 ((eB e : Int) + pL (mvE X h sn sg e) (eP e) (wE sn sg e) h.1)).toNat : Nat) : Int)
      omega
    · rw [Nat.zero_add, g4]
      show _ = (((min 9999 ((eM e : Int) + pD (mvE X h sn sg e) (eP e) (wE sn sg e) h.2.2.2 h.1)).toNat : Nat) : Int)
      omega
    · rw [Nat.zero_add, g5]
      show _ = (((if eN e % 7 = 6 then (max 0 (min 9999 ((eK e : Int) + ((eK e : Int) * eG e).tdiv 10))).toNat else eK e) : Nat) : Int)
      split
      · generalize ((eK e : Int) * eG e).tdiv 10 = z; omega
      · rfl
    · rw [Nat.zero_add, g6]; rfl
    · rw [Nat.zero_add, g7]; rfl
    · rw [g1 b b5, f1 b b5]; exact hf.1 b b1 b2 b3 b4
    · rw [g1 95 (fun q => a1 q.symm), f95]; exact hf.2 k hk k1 k2
    · rw [g1 95 (fun q => a1 q.symm), f95]; exact h30
    · rw [g1 95 (fun q => a1 q.symm), f95]; exact h31
  · have := y1 j hj
    rw [Nat.zero_add] at this
    rw [if_neg (by omega)]; exact this
end P62a

section P62b
variable {l : Launch} {G : am_G} {d : Nat} {mem M : am_M}
theorem s_part9_47x {arr : Nat} (ha : am_ks[arr]? = some (100, 29)) (a1 : arr ≠ 95) (a2 : arr ≠ 106) (a3 : arr ≠ 111) (a4 : arr ≠ 112) {h : hrs} (hh : m_hrs h mem) {mk : Nat} (hem : ∀ i, i < 8 → mem arr (16 + i) = if mk.testBit i then 1 else 0) {mv : Nat → Int} (hmn : ∀ i, 0 ≤ mv i) {w : Int} (hw : 0 ≤ w ∧ w ≤ 9) {Q : Option am_V → am_M → Prop} (hQ : ∀ m : am_M, fr_p9 mem m → (∀ j, j < h.1 → m 112 j = pP mv mk w j) → m 95 30 = pD mv mk w h.2.2.2 h.1 → m 95 31 = pL mv mk w h.1 → (∀ j, j < h.1 → m 111 j = mv j) → Q none m) : ∀ (k i : Nat) (m : am_M), i + k = h.1 → fr_p9 mem m → (∀ j, j < h.1 → m 111 j = mv j) → (∀ j, j < i → m 112 j = pP mv mk w j) → m 95 30 = pD mv mk w h.2.2.2 i → m 95 31 = pL mv mk w i → am_Rn l G mt_X9_part (d + 1) 47 [some (.inr (.inr 96)), some (.inr (.inr (arr + 1))), some (.inl (i : Int))] [] m Q := by
  have h8 : h.1 ≤ 8 := hh.1.1
  have hpy := hh.1.2.2.2
  intro k
  induction k with
  | zero =>
    intro i m hi hf hm hp h30 h31
    have e1 := (hf.hrs hh).2.1
    have hi2 : i = h.1 := by omega
    refine rn_iload_n (x := (i : Int)) (q := 48) dX9_part_47 rfl rfl ?_
    refine rn_aload_n (x := 95) (q := 49) dX9_part_48 rfl rfl ?_
    refine rn_get (a := 95) (v := .inl (h.1 : Int)) (q := 52) dX9_part_49 fl_X9_113 rfl (am_gi e1) rfl ?_
    refine rn_cmpge (t := 131) (q := 55) dX9_part_52 rfl rfl (fun w52 => ?_) (fun h => absurd h (by omega))
    refine rn_vret dX9_part_131 rfl ?_
    exact hQ m hf (by rw [← hi2]; exact hp) (by rw [← hi2]; exact h30) (by rw [← hi2]; exact h31) hm
  | succ k ih =>
    intro i m hi hf hm hp h30 h31
    have e1 := (hf.hrs hh).2.1
    have hL := pL_ok (mk := mk) hmn hw i
    have hPk := pP_ok (mk := mk) hmn hw i
    have hD := pD_ok (mk := mk) hmn hw hpy i
    have hmi := hmn i
    have hpy9 := hpy i
    have hmu : 0 ≤ (h.2.2.2 i : Int) * pP mv mk w i ∧ (h.2.2.2 i : Int) * pP mv mk w i ≤ 81 := ⟨Int.mul_nonneg (by omega) hPk.1, by have := Int.mul_le_mul (show (h.2.2.2 i : Int) ≤ 9 by omega) hPk.2 hPk.1 (by omega); omega⟩
    have hpay : m 99 i = (h.2.2.2 i : Int) := ((hf.hrs hh).2.2 i (by omega)).2.2
    have hin : m arr (16 + i) = if mk.testBit i then 1 else 0 := by rw [hf.1 arr a1 a2 a3 a4]; exact hem i (by omega)
    have hfin : am_Rn l G mt_X9_part (d + 1) 47 [some (.inr (.inr 96)), some (.inr (.inr (arr + 1))), some (.inl ((i + 1 : Nat) : Int))] [] (am_up (am_up (am_up m 112 i (pP mv mk w i)) 95 31 (pL mv mk w (i + 1))) 95 30 (pD mv mk w h.2.2.2 (i + 1))) Q := by
      refine ih (i + 1) _ (by omega) ⟨fun b b1 b2 b3 b4 => ?_, fun k hk k1 k2 => ?_⟩ (fun j hj => ?_) (fun j hj => ?_) rfl rfl
      · rw [am_up_ne b1, am_up_ne b1, am_up_ne b4]; exact hf.1 b b1 b2 b3 b4
      · rw [am_up_neq k1, am_up_neq k2, am_up_ne (by decide)]; exact hf.2 k hk k1 k2
      · rw [am_up_ne (by decide), am_up_ne (by decide), am_up_ne (by decide)]; exact hm j hj
      · rw [am_up_ne (by decide), am_up_ne (by decide), am_up_at]
        by_cases ej : j = i
        · rw [if_pos ej, ej]
        · rw [if_neg ej]; exact hp j (by omega)
    by_cases hbt : mk.testBit i = true
    · rw [if_pos hbt] at hin
      have eP1 : min (mv i) (pL mv mk w i) = pP mv mk w i := by unfold pP; rw [if_pos hbt]; omega
      refine rn_iload_n (x := (i : Int)) (q := 48) dX9_part_47 rfl rfl ?_
      refine rn_aload_n (x := 95) (q := 49) dX9_part_48 rfl rfl ?_
      refine rn_get (a := 95) (v := .inl (h.1 : Int)) (q := 52) dX9_part_49 fl_X9_113 rfl (am_gi e1) rfl ?_
      refine rn_cmpge (t := 131) (q := 55) dX9_part_52 rfl rfl (fun h => absurd h (by omega)) (fun w52 => ?_)
      refine rn_aload_n (x := 95) (q := 56) dX9_part_55 rfl rfl ?_
      refine rn_get (a := 95) (v := .inr (.inr 113)) (q := 59) dX9_part_56 fl_X9_64 rfl rfl rfl ?_
      refine rn_iload_n (x := (i : Int)) (q := 60) dX9_part_59 rfl rfl ?_
      refine rn_aload_n (x := arr) (q := 61) dX9_part_60 rfl rfl ?_
      refine rn_bipush (q := 63) dX9_part_61 ⟨by decide, by decide⟩ rfl ?_
      refine rn_iload_n (x := (i : Int)) (q := 64) dX9_part_63 rfl rfl ?_
      refine rn_iaddN (z := ((16 + i : Nat) : Int)) (q := 65) dX9_part_64 (by omega) (by unfold am_ok; omega) rfl ?_
      refine rn_ialdV (a := arr) (v := 1) (q := 66) dX9_part_65 ha (by omega) (by omega) hin rfl ?_
      refine rn_iconst (q := 67) dX9_part_66 (am_okd rfl) rfl ?_
      refine rn_cmpne (t := 86) (q := 70) dX9_part_67 rfl rfl (fun h => absurd h (by decide)) (fun w67 => ?_)
      refine rn_aload_n (x := 95) (q := 71) dX9_part_70 rfl rfl ?_
      refine rn_get (a := 95) (v := .inr (.inr 112)) (q := 74) dX9_part_71 fl_X9_61 rfl rfl rfl ?_
      refine rn_iload_n (x := (i : Int)) (q := 75) dX9_part_74 rfl rfl ?_
      refine rn_ialdV (a := 111) (v := mv i) (q := 76) dX9_part_75 rfl (by omega) (by omega) (hm i (by omega)) rfl ?_
      refine rn_aload_n (x := 95) (q := 77) dX9_part_76 rfl rfl ?_
      refine rn_get (a := 95) (v := .inl (pL mv mk w i)) (q := 80) dX9_part_77 fl_X9_252 rfl (am_gi h31) rfl ?_
      refine rn_mmin (q := 83) dX9_part_80 am_mm_X9_225 am_mminw (Nat.le_of_ble_eq_true rfl) rfl ?_
      refine rn_goto (t := 87) dX9_part_83 rfl ?_
      rw [eP1]
      refine rn_iastV (a := 112) (m1 := am_up m 112 i (pP mv mk w i)) (q := 88) dX9_part_87 rfl (by omega) (by omega) rfl rfl ?_
      refine rn_aload_n (x := 95) (q := 89) dX9_part_88 rfl rfl ?_
      refine rn_dup (q := 90) dX9_part_89 rfl rfl ?_
      refine rn_get (a := 95) (v := .inl (pL mv mk w i)) (q := 93) dX9_part_90 fl_X9_252 rfl (am_gi h31) rfl ?_
      refine rn_aload_n (x := 95) (q := 94) dX9_part_93 rfl rfl ?_
      refine rn_get (a := 95) (v := .inr (.inr 113)) (q := 97) dX9_part_94 fl_X9_64 rfl rfl rfl ?_
      refine rn_iload_n (x := (i : Int)) (q := 98) dX9_part_97 rfl rfl ?_
      refine rn_ialdV (a := 112) (v := pP mv mk w i) (q := 99) dX9_part_98 rfl (by omega) (by omega) am_up_self rfl ?_
      refine rn_isubN (z := pL mv mk w (i + 1)) (q := 100) dX9_part_99 (by rw [pL, pP]) (by unfold am_ok; omega) rfl ?_
      refine rn_puti (a := 95) (q := 103) dX9_part_100 fl_X9_252 rfl rfl rfl rfl ?_
      refine rn_aload_n (x := 95) (q := 104) dX9_part_103 rfl rfl ?_
      refine rn_dup (q := 105) dX9_part_104 rfl rfl ?_
      refine rn_get (a := 95) (v := .inl (pD mv mk w h.2.2.2 i)) (q := 108) dX9_part_105 fl_X9_255 rfl (am_gi h30) rfl ?_
      refine rn_aload_n (x := 95) (q := 109) dX9_part_108 rfl rfl ?_
      refine rn_get (a := 95) (v := .inr (.inr 100)) (q := 112) dX9_part_109 fl_X9_19 rfl rfl rfl ?_
      refine rn_iload_n (x := (i : Int)) (q := 113) dX9_part_112 rfl rfl ?_
      refine rn_ialdV (a := 99) (v := (h.2.2.2 i : Int)) (q := 114) dX9_part_113 rfl (by omega) (by omega) hpay rfl ?_
      refine rn_aload_n (x := 95) (q := 115) dX9_part_114 rfl rfl ?_
      refine rn_get (a := 95) (v := .inr (.inr 113)) (q := 118) dX9_part_115 fl_X9_64 rfl rfl rfl ?_
      refine rn_iload_n (x := (i : Int)) (q := 119) dX9_part_118 rfl rfl ?_
      refine rn_ialdV (a := 112) (v := pP mv mk w i) (q := 120) dX9_part_119 rfl (by omega) (by omega) (by (repeat rw [am_up_ne (by decide)]); exact am_up_self) rfl ?_
      refine rn_imulN (z := (h.2.2.2 i : Int) * pP mv mk w i) (q := 121) dX9_part_120 rfl (by unfold am_ok; omega) rfl ?_
      refine rn_iaddN (z := pD mv mk w h.2.2.2 (i + 1)) (q := 122) dX9_part_121 (by rw [pD, Int.mul_comm]) (by unfold am_ok; omega) rfl ?_
      refine rn_puti (a := 95) (q := 125) dX9_part_122 fl_X9_255 rfl rfl rfl rfl ?_
      refine rn_iincN (x := (i : Int)) (z := ((i + 1 : Nat) : Int)) (ls' := [some (.inr (.inr 96)), some (.inr (.inr (arr + 1))), some (.inl ((i + 1 : Nat) : Int))]) (q := 128) dX9_part_125 rfl (by decide) (by omega) (by unfold am_ok; omega) rfl rfl ?_
      refine rn_goto (t := 47) dX9_part_128 rfl ?_
      exact hfin
    · rw [if_neg hbt] at hin
      have e0 : pP mv mk w i = 0 := by unfold pP; rw [if_neg hbt]
      refine rn_iload_n (x := (i : Int)) (q := 48) dX9_part_47 rfl rfl ?_
      refine rn_aload_n (x := 95) (q := 49) dX9_part_48 rfl rfl ?_
      refine rn_get (a := 95) (v := .inl (h.1 : Int)) (q := 52) dX9_part_49 fl_X9_113 rfl (am_gi e1) rfl ?_
      refine rn_cmpge (t := 131) (q := 55) dX9_part_52 rfl rfl (fun h => absurd h (by omega)) (fun w52 => ?_)
      refine rn_aload_n (x := 95) (q := 56) dX9_part_55 rfl rfl ?_
      refine rn_get (a := 95) (v := .inr (.inr 113)) (q := 59) dX9_part_56 fl_X9_64 rfl rfl rfl ?_
      refine rn_iload_n (x := (i : Int)) (q := 60) dX9_part_59 rfl rfl ?_
      refine rn_aload_n (x := arr) (q := 61) dX9_part_60 rfl rfl ?_
      refine rn_bipush (q := 63) dX9_part_61 ⟨by decide, by decide⟩ rfl ?_
      refine rn_iload_n (x := (i : Int)) (q := 64) dX9_part_63 rfl rfl ?_
      refine rn_iaddN (z := ((16 + i : Nat) : Int)) (q := 65) dX9_part_64 (by omega) (by unfold am_ok; omega) rfl ?_
      refine rn_ialdV (a := arr) (v := 0) (q := 66) dX9_part_65 ha (by omega) (by omega) hin rfl ?_
      refine rn_iconst (q := 67) dX9_part_66 (am_okd rfl) rfl ?_
      refine rn_cmpne (t := 86) (q := 70) dX9_part_67 rfl rfl (fun w67 => ?_) (fun h => absurd h (by decide))
      refine rn_iconst (q := 87) dX9_part_86 (am_okd rfl) rfl ?_
      rw [show (0 : Int) = pP mv mk w i from e0.symm]
      refine rn_iastV (a := 112) (m1 := am_up m 112 i (pP mv mk w i)) (q := 88) dX9_part_87 rfl (by omega) (by omega) rfl rfl ?_
      refine rn_aload_n (x := 95) (q := 89) dX9_part_88 rfl rfl ?_
      refine rn_dup (q := 90) dX9_part_89 rfl rfl ?_
      refine rn_get (a := 95) (v := .inl (pL mv mk w i)) (q := 93) dX9_part_90 fl_X9_252 rfl (am_gi h31) rfl ?_
      refine rn_aload_n (x := 95) (q := 94) dX9_part_93 rfl rfl ?_
      refine rn_get (a := 95) (v := .inr (.inr 113)) (q := 97) dX9_part_94 fl_X9_64 rfl rfl rfl ?_
      refine rn_iload_n (x := (i : Int)) (q := 98) dX9_part_97 rfl rfl ?_
      refine rn_ialdV (a := 112) (v := pP mv mk w i) (q := 99) dX9_part_98 rfl (by omega) (by omega) am_up_self rfl ?_
      refine rn_isubN (z := pL mv mk w (i + 1)) (q := 100) dX9_part_99 (by rw [pL, pP]) (by unfold am_ok; omega) rfl ?_
      refine rn_puti (a := 95) (q := 103) dX9_part_100 fl_X9_252 rfl rfl rfl rfl ?_
      refine rn_aload_n (x := 95) (q := 104) dX9_part_103 rfl rfl ?_
      refine rn_dup (q := 105) dX9_part_104 rfl rfl ?_
      refine rn_get (a := 95) (v := .inl (pD mv mk w h.2.2.2 i)) (q := 108) dX9_part_105 fl_X9_255 rfl (am_gi h30) rfl ?_
      refine rn_aload_n (x := 95) (q := 109) dX9_part_108 rfl rfl ?_
      refine rn_get (a := 95) (v := .inr (.inr 100)) (q := 112) dX9_part_109 fl_X9_19 rfl rfl rfl ?_
      refine rn_iload_n (x := (i : Int)) (q := 113) dX9_part_112 rfl rfl ?_
      refine rn_ialdV (a := 99) (v := (h.2.2.2 i : Int)) (q := 114) dX9_part_113 rfl (by omega) (by omega) hpay rfl ?_
      refine rn_aload_n (x := 95) (q := 115) dX9_part_114 rfl rfl ?_
      refine rn_get (a := 95) (v := .inr (.inr 113)) (q := 118) dX9_part_115 fl_X9_64 rfl rfl rfl ?_
      refine rn_iload_n (x := (i : Int)) (q := 119) dX9_part_118 rfl rfl ?_
      refine rn_ialdV (a := 112) (v := pP mv mk w i) (q := 120) dX9_part_119 rfl (by omega) (by omega) (by (repeat rw [am_up_ne (by decide)]); exact am_up_self) rfl ?_
      refine rn_imulN (z := (h.2.2.2 i : Int) * pP mv mk w i) (q := 121) dX9_part_120 rfl (by unfold am_ok; omega) rfl ?_
      refine rn_iaddN (z := pD mv mk w h.2.2.2 (i + 1)) (q := 122) dX9_part_121 (by rw [pD, Int.mul_comm]) (by unfold am_ok; omega) rfl ?_
      refine rn_puti (a := 95) (q := 125) dX9_part_122 fl_X9_255 rfl rfl rfl rfl ?_
      refine rn_iincN (x := (i : Int)) (z := ((i + 1 : Nat) : Int)) (ls' := [some (.inr (.inr 96)), some (.inr (.inr (arr + 1))), some (.inl ((i + 1 : Nat) : Int))]) (q := 128) dX9_part_125 rfl (by decide) (by omega) (by unfold am_ok; omega) rfl rfl ?_
      refine rn_goto (t := 47) dX9_part_128 rfl ?_
      exact hfin
theorem s_part9x {arr : Nat} (ha : am_ks[arr]? = some (100, 29)) (a1 : arr ≠ 95) (a2 : arr ≠ 106) (a3 : arr ≠ 111) (a4 : arr ≠ 112) {rq : Nat} {X : List Nat} (hx4 : X.length ≤ 40) (hx2 : ∀ j, X.getD j 0 < 256) (hR : m_rul rq X mem) {sn : Nat} {sg : Nat → Nat} (hs : m_song sn sg mem) {h : hrs} (hh : m_hrs h mem) {e : est} {NB : Nat} (hNB : NB < 1000000) (heo : e_ok h.1 NB e) (hem : m_est e arr 0 mem) (hask : mem 95 21 = 0) {mv : Nat → Int} (hmv : ∀ i, mv i = mayV X h (sg (eN e % sn)) i (eH e i) (eN e) (pc (eP e))) : am_Sm l G yX9_part mt_X9_part (d + 177) [.inr (.inr 96), .inr (.inr (arr + 1))] mem (fun q m => q = none ∧ fr_p9 mem m ∧ (∀ j, j < h.1 → m 112 j = pP mv (eP e) (sg (eN e % sn) : Int) j) ∧ m 95 30 = pD mv (eP e) (sg (eN e % sn) : Int) h.2.2.2 h.1 ∧ m 95 31 = pL mv (eP e) (sg (eN e % sn) : Int) h.1 ∧ ∀ j, j < h.1 → m 111 j = mv j) := by
  refine am_enter (ls := [some (.inr (.inr 96)), some (.inr (.inr (arr + 1))), none]) (by decide) rfl (Nat.le_of_ble_eq_true rfl) rfl ?_
  have hsg := hs.2.2.2.1 (eN e % sn)
  have eN9 := heo.2.2.2.1
  have x3 : ∀ j, j < 8 → mem arr (16 + j) = if (eP e).testBit j then 1 else 0 := fun j hj => by have := hem.2.2.1 j hj; rwa [Nat.zero_add] at this
  have K : ∀ (m : am_M) (lx : Option am_V), fr_p9 mem m → (∀ j, j < h.1 → m 111 j = mv j) → am_Rn l G mt_X9_part (d + 177) 28 [some (.inr (.inr 96)), some (.inr (.inr (arr + 1))), lx] [] m (fun q m => q = none ∧ fr_p9 mem m ∧ (∀ j, j < h.1 → m 112 j = pP mv (eP e) (sg (eN e % sn) : Int) j) ∧ m 95 30 = pD mv (eP e) (sg (eN e % sn) : Int) h.2.2.2 h.1 ∧ m 95 31 = pL mv (eP e) (sg (eN e % sn) : Int) h.1 ∧ ∀ j, j < h.1 → m 111 j = mv j) := by
    intro m lx hf hm
    have x2 : m arr 28 = (eN e : Int) := (hf.est a1 a2 a3 a4 hem).2.2.2.2.2.2.2
    refine rn_aload_n (x := 95) (q := 29) dX9_part_28 rfl rfl ?_
    refine rn_aload_n (x := 95) (q := 30) dX9_part_29 rfl rfl ?_
    refine rn_aload_n (x := arr) (q := 31) dX9_part_30 rfl rfl ?_
    refine rn_bipush (q := 33) dX9_part_31 ⟨by decide, by decide⟩ rfl ?_
    refine rn_ialdV (a := arr) (v := (eN e : Int)) (q := 34) dX9_part_33 ha (by omega) (by omega) x2 rfl ?_
    refine rn_callV (b := 95) (as := [.inl (eN e : Int)]) (rest := [.inr (.inr 96)]) (q := 37) dX9_part_34 ml_X9_213 sm_X9_worthOn rfl rfl (by decide) (by omega) rfl rfl (Nat.le_of_ble_eq_true rfl) rfl (s_worthOn (d := d + 176) (hf.song hs) (eN e) (by omega)) ?_
    intro r34 mem34 hq34
    obtain ⟨rfl, rfl⟩ := hq34
    show am_Rn l G _ _ 37 [some (.inr (.inr 96)), some (.inr (.inr (arr + 1))), lx] [.inl (sg (eN e % sn) : Int), .inr (.inr 96)] m _
    refine rn_puti (a := 95) (q := 40) dX9_part_37 fl_X9_252 rfl rfl rfl rfl ?_
    refine rn_aload_n (x := 95) (q := 41) dX9_part_40 rfl rfl ?_
    refine rn_iconst (q := 42) dX9_part_41 (am_okd rfl) rfl ?_
    refine rn_puti (a := 95) (q := 45) dX9_part_42 fl_X9_255 rfl rfl rfl rfl ?_
    refine rn_iconst (q := 46) dX9_part_45 (am_okd rfl) rfl ?_
    refine rn_istore_n (ls' := [some (.inr (.inr 96)), some (.inr (.inr (arr + 1))), some (.inl 0)]) (q := 47) dX9_part_46 (by decide) rfl rfl ?_
    refine s_part9_47x (d := d + 176) ha a1 a2 a3 a4 hh x3 (mv := mv) (fun i => by rw [hmv]; exact mayV_nn) (w := (sg (eN e % sn) : Int)) (by omega) (fun m p1 p2 p3 p4 p5 => ⟨rfl, p1, p2, p3, p4, p5⟩) h.1 0 _ (by omega) ⟨fun b b1 b2 b3 b4 => ?_, fun k hk k1 k2 => ?_⟩ (fun j hj => ?_) (fun j hj => absurd hj (Nat.not_lt_zero _)) rfl rfl
    · rw [am_up_ne b1, am_up_ne b1]; exact hf.1 b b1 b2 b3 b4
    · rw [am_up_neq k1, am_up_neq k2]; exact hf.2 k hk k1 k2
    · rw [am_up_ne (by decide), am_up_ne (by decide)]; exact hm j hj
  refine rn_iconst (q := 1) dX9_part_0 (am_okd rfl) rfl ?_
  refine rn_istore_n (ls' := [some (.inr (.inr 96)), some (.inr (.inr (arr + 1))), some (.inl 0)]) (q := 2) dX9_part_1 (by decide) rfl rfl ?_
  exact s_part9_2 ha a1 a2 a3 a4 hx4 hx2 hR hs hh hNB heo hem hask hmv K h.1 0 mem (by omega) ⟨fun _ _ _ _ _ => rfl, fun _ _ _ _ => rfl⟩ (fun j hj => absurd hj (Nat.not_lt_zero _))
end P62b

theorem fr_ps.to8 {r : Nat} {mem m : am_M} (hr : am_rul r) (f : fr_ps r 22 mem m) : frS s8 mem m := by
  have o := am_rul_or hr
  intro b k hb
  unfold s8 at hb
  simp [ble_f] at hb
  by_cases h5 : b = 5
  · subst h5
    by_cases hk : k < 8
    · exact f.2 k hk
    · exfalso; omega
  · rw [f.1 b h5 (by omega) (by omega) (by omega) (by omega) (by omega)]
def mvK (X : List Nat) (h : hrs) (sn : Nat) (sg : Nat → Nat) (e : est) (mk : Nat) : Nat → Int := fun i => mayV X h (sg (eN e % sn)) i (eH e i) (eN e) (pc mk)
theorem mvK_nn {X : List Nat} {h : hrs} {sn : Nat} {sg : Nat → Nat} {e : est} {mk : Nat} (i : Nat) : 0 ≤ mvK X h sn sg e mk i := mayV_nn
section P62
variable {l : Launch} {G : am_G} {d : Nat} {r : Nat} {X : List Nat} {C : List Int} {sn : Nat} {sg : Nat → Nat} {h : hrs} {e : est} {NB : Nat} {mem m : am_M}
theorem c_partQ (q : CQ r X C sn sg h e NB mem) (mk : Nat) (hmk : mk < 256) : am_Sm l G yX6_part mt_X6_part (d + 4) [.inr (.inr 6), .inr (.inr 17), .inl (mk : Int), .inr (.inr (r + 1))] mem (fun q m => q = none ∧ frS s8 mem m ∧ (∀ j, j < h.1 → m 10 j = pP (mvK X h sn sg e mk) mk (wE sn sg e) j) ∧ m 5 8 = pD (mvK X h sn sg e mk) mk (wE sn sg e) h.2.2.2 h.1 ∧ m 5 9 = pL (mvK X h sn sg e mk) mk (wE sn sg e) h.1 ∧ m 5 10 = (pH (mvK X h sn sg e mk) mk (wE sn sg e) h.1 : Int)) := by
  have b := q.bd
  refine am_Sm_mono (s_part8 (a := 16) q.rul (show 16 ∈ am_estL by decide) q.ok q.cd q.sng q.hs q.hd9 q.es.1 (nt := eN e) (by omega) q.es.2.2.2.1 hmk (mv := mvK X h sn sg e mk) (fun _ => rfl)) (fun r m hq => ?_)
  obtain ⟨a1, a2, a3⟩ := hq
  exact ⟨a1, fr_part.to8 q.rul a2, a3⟩
theorem c_copyA (q : CQ r X C sn sg h e NB mem) : am_Sm l G yX0_copy mt_X0_copy d [.inr (.inr 23), .inr (.inr 17)] mem (fun r m => r = none ∧ c_est e 22 m ∧ frS s8 mem m) := by
  refine am_Sm_mono (s_copy (a := 22) (b := 16) (show 22 ∈ am_estL by decide) (show 16 ∈ am_estL by decide) (by decide) q.es) (fun r m hq => ?_)
  obtain ⟨a1, a2, a3⟩ := hq
  refine ⟨a1, a2, fun b k hb => ?_⟩
  unfold s8 at hb
  simp [ble_f] at hb
  rw [a3 b (by omega) (by omega) (by omega)]
theorem c_passA (q : CQ r X C sn sg h e NB mem) {e2 : est} {k : Nat} (hk : k ≤ 99) (he : e_ok h.1 (NB + k) e2) (hE : c_est e2 22 mem) : am_Sm l G yX6_pass mt_X6_pass (d + 5) [.inr (.inr 6), .inr (.inr 23), .inr (.inr (r + 1))] mem (fun q m => q = none ∧ c_est (nextE X h sn sg e2) 22 m ∧ m 5 10 = (pH (mvE X h sn sg e2) (eP e2) (wE sn sg e2) h.1 : Int) ∧ frS s8 mem m) := by
  have hb := q.2.2.2.2.2.2.2.2
  refine am_Sm_mono (s_pass8 (a := 22) q.rul (show 22 ∈ am_estL by decide) q.ok q.cd q.sng q.hs (NB := NB + k) (by omega) he hE) (fun r m hq => ?_)
  obtain ⟨a1, a2, a3, a4⟩ := hq
  exact ⟨a1, a2, a3, fr_ps.to8 q.rul a4⟩
theorem m_partA (q : DQ X sn sg h e NB mem) {arr : Nat} (ha : arr = 96 ∨ arr = 109 ∨ arr = 110) {e2 : est} {k : Nat} (hk : k ≤ 99) (he : e_ok h.1 (NB + k) e2) (hE : m_est e2 arr 0 mem) : am_Sm l G yX9_part mt_X9_part (d + 177) [.inr (.inr 96), .inr (.inr (arr + 1))] mem (fun q m => q = none ∧ frS s9 mem m ∧ (∀ j, j < h.1 → m 112 j = pP (mvE X h sn sg e2) (eP e2) (wE sn sg e2) j) ∧ m 95 30 = pD (mvE X h sn sg e2) (eP e2) (wE sn sg e2) h.2.2.2 h.1 ∧ m 95 31 = pL (mvE X h sn sg e2) (eP e2) (wE sn sg e2) h.1 ∧ (∀ j, j < h.1 → m 111 j = mvE X h sn sg e2 j) ∧ m 109 = mem 109 ∧ m 110 = mem 110) := by
  have hb := q.2.2.2.2.2.2.2
  have hks : am_ks[arr]? = some (100, 29) := by rcases ha with rfl | rfl | rfl <;> rfl
  refine am_Sm_mono (s_part9x (mv := mvE X h sn sg e2) hks (by omega) (by omega) (by omega) (by omega) q.1.1 q.1.2 q.rl q.sng q.hs (NB := NB + k) (by omega) he hE q.2.2.1 (fun _ => rfl)) (fun r m hq => ?_)
  obtain ⟨a1, a2, a3, a4, a5, a6⟩ := hq
  exact ⟨a1, a2.to9, a3, a4, a5, a6, a2.1 109 (by decide) (by decide) (by decide) (by decide), a2.1 110 (by decide) (by decide) (by decide) (by decide)⟩
theorem m_layA (q : DQ X sn sg h e NB mem) {arr : Nat} (ha : arr = 109 ∨ arr = 110) : am_Sm l G yX9_lay mt_X9_lay d [.inr (.inr 97), .inr (.inr (arr + 1)), .inl 0] mem (fun r m => r = none ∧ m_est e arr 0 m ∧ frS s9 mem m) := by
  have hks : am_ks[arr]? = some (100, 29) := by rcases ha with rfl | rfl <;> rfl
  refine am_Sm_mono (s_lay (f := 96) (t := arr) rfl hks (by omega) 0 (by omega) (by omega) (by omega)) (fun r m hq => ?_)
  obtain ⟨rfl, rfl⟩ := hq
  refine ⟨rfl, q.es.cpy, frS.rf.cpy (fun k => ?_)⟩
  rcases ha with rfl | rfl <;> rfl
theorem m_goNightA (q : DQ X sn sg h e NB mem) {arr : Nat} (ha : arr = 109 ∨ arr = 110) {e2 : est} {k : Nat} (hk : k ≤ 99) (he : e_ok h.1 (NB + k) e2) (hE : m_est e2 arr 0 mem) : am_Sm l G yX9_goNight mt_X9_goNight (d + 178) [.inr (.inr 96), .inr (.inr (arr + 1))] mem (fun q m => q = none ∧ m_est (nextE X h sn sg e2) arr 0 m ∧ frS s9 mem m ∧ m 95 30 = pD (mvE X h sn sg e2) (eP e2) (wE sn sg e2) h.2.2.2 h.1 ∧ m 95 31 = pL (mvE X h sn sg e2) (eP e2) (wE sn sg e2) h.1) := by
  have hb := q.2.2.2.2.2.2.2
  have hks : am_ks[arr]? = some (100, 29) := by rcases ha with rfl | rfl <;> rfl
  refine am_Sm_mono (s_goNight9x hks (by omega) (by omega) (by omega) (by omega) q.1.1 q.1.2 q.rl q.sng q.hs (NB := NB + k) (by omega) he hE q.2.2.1) (fun r m hq => ?_)
  obtain ⟨a1, a2, a3, a4, a5⟩ := hq
  exact ⟨a1, a2, a3.to9 ha, a4, a5⟩
end P62
