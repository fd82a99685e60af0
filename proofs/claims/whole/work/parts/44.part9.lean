def fr_p9 (mem m : am_M) : Prop := (∀ b, b ≠ 95 → b ≠ 106 → b ≠ 111 → b ≠ 112 → m b = mem b) ∧ ∀ k, (k < 12 ∨ 16 < k) → k ≠ 30 → k ≠ 31 → m 95 k = mem 95 k
theorem fr_p9.rul {mem m : am_M} (hf : fr_p9 mem m) {rq : Nat} {X : List Nat} (h : m_rul rq X mem) : m_rul rq X m := by
  have q := h.1
  exact ⟨q, by rw [hf.2 18 (by decide) (by decide) (by decide)]; exact h.2.1, by rw [hf.2 20 (by decide) (by decide) (by decide)]; exact h.2.2.1, fun j hj => by rw [hf.1 rq (by omega) (by omega) (by omega) (by omega)]; exact h.2.2.2 j hj⟩
theorem fr_p9.song {mem m : am_M} (hf : fr_p9 mem m) {sn : Nat} {sg : Nat → Nat} (h : m_song sn sg mem) : m_song sn sg m :=
  ⟨by rw [hf.2 6 (by decide) (by decide) (by decide)]; exact h.1, h.2.1, h.2.2.1, h.2.2.2.1, fun i hi => by rw [hf.1 100 (by decide) (by decide) (by decide) (by decide)]; exact h.2.2.2.2 i hi⟩
theorem fr_p9.hrs {mem m : am_M} (hf : fr_p9 mem m) {h : hrs} (hh : m_hrs h mem) : m_hrs h m := by
  refine ⟨hh.1, by rw [hf.2 1 (by decide) (by decide) (by decide)]; exact hh.2.1, fun i hi => ?_⟩
  rw [hf.1 97 (by decide) (by decide) (by decide) (by decide), hf.1 98 (by decide) (by decide) (by decide) (by decide), hf.1 99 (by decide) (by decide) (by decide) (by decide)]
  exact hh.2.2 i hi
theorem fr_p9.est {mem m : am_M} (hf : fr_p9 mem m) {e : est} {arr : Nat} (h1 : arr ≠ 95) (h2 : arr ≠ 106) (h3 : arr ≠ 111) (h4 : arr ≠ 112) (h : m_est e arr 0 mem) : m_est e arr 0 m := by
  have q := hf.1 arr h1 h2 h3 h4
  unfold m_est at h ⊢
  rw [q]; exact h
section P44
variable {l : Launch} {G : am_G} {d : Nat} {mem M : am_M}
theorem s_part9_2 {arr : Nat} (ha : am_ks[arr]? = some (100, 29)) (a1 : arr ≠ 95) (a2 : arr ≠ 106) (a3 : arr ≠ 111) (a4 : arr ≠ 112) {rq : Nat} {X : List Nat} (hx4 : X.length ≤ 40) (hx2 : ∀ j, X.getD j 0 < 256) (hR : m_rul rq X mem) {sn : Nat} {sg : Nat → Nat} (hs : m_song sn sg mem) {h : hrs} (hh : m_hrs h mem) {e : est} {NB : Nat} (hNB : NB < 1000000) (heo : e_ok h.1 NB e) (hem : m_est e arr 0 mem) (hask : mem 95 21 = 0) {mv : Nat → Int} (hmv : ∀ i, mv i = mayV X h (sg (eN e % sn)) i (eH e i) (eN e) (pc (eP e))) {Q : Option am_V → am_M → Prop} (hQ : ∀ (m : am_M) (lx : Option am_V), fr_p9 mem m → (∀ j, j < h.1 → m 111 j = mv j) → am_Rn l G mt_X9_part (d + 177) 28 [some (.inr (.inr 96)), some (.inr (.inr (arr + 1))), lx] [] m Q) : ∀ (k i : Nat) (m : am_M), i + k = h.1 → fr_p9 mem m → (∀ j, j < i → m 111 j = mv j) → am_Rn l G mt_X9_part (d + 177) 2 [some (.inr (.inr 96)), some (.inr (.inr (arr + 1))), some (.inl (i : Int))] [] m Q := by
  have h8 : h.1 ≤ 8 := hh.1.1
  intro k
  induction k with
  | zero =>
    intro i m hi hf hp
    have e1 := (hf.hrs hh).2.1
    refine rn_iload_n (x := (i : Int)) (q := 3) dX9_part_2 rfl rfl ?_
    refine rn_aload_n (x := 95) (q := 4) dX9_part_3 rfl rfl ?_
    refine rn_get (a := 95) (v := .inl (h.1 : Int)) (q := 7) dX9_part_4 fl_X9_113 rfl (am_gi e1) rfl ?_
    refine rn_cmpge (t := 28) (q := 10) dX9_part_7 rfl rfl (fun w7 => ?_) (fun h => absurd h (by omega))
    exact hQ m _ hf (fun j hj => hp j (by omega))
  | succ k ih =>
    intro i m hi hf hp
    have e1 := (hf.hrs hh).2.1
    have hM := s_mayOf9 (l := l) (G := G) (d := d) ha a2 a1 hx4 hx2 (hf.rul hR) (hf.song hs) (hf.hrs hh) hNB heo (hf.est a1 a2 a3 a4 hem) (by rw [hf.2 21 (by decide) (by decide) (by decide)]; exact hask) i (by omega)
    rw [← hmv i] at hM
    refine rn_iload_n (x := (i : Int)) (q := 3) dX9_part_2 rfl rfl ?_
    refine rn_aload_n (x := 95) (q := 4) dX9_part_3 rfl rfl ?_
    refine rn_get (a := 95) (v := .inl (h.1 : Int)) (q := 7) dX9_part_4 fl_X9_113 rfl (am_gi e1) rfl ?_
    refine rn_cmpge (t := 28) (q := 10) dX9_part_7 rfl rfl (fun h => absurd h (by omega)) (fun w7 => ?_)
    refine rn_aload_n (x := 95) (q := 11) dX9_part_10 rfl rfl ?_
    refine rn_get (a := 95) (v := .inr (.inr 112)) (q := 14) dX9_part_11 fl_X9_61 rfl rfl rfl ?_
    refine rn_iload_n (x := (i : Int)) (q := 15) dX9_part_14 rfl rfl ?_
    refine rn_aload_n (x := 95) (q := 16) dX9_part_15 rfl rfl ?_
    refine rn_aload_n (x := arr) (q := 17) dX9_part_16 rfl rfl ?_
    refine rn_iload_n (x := (i : Int)) (q := 18) dX9_part_17 rfl rfl ?_
    refine rn_callV (b := 95) (as := [.inr (.inr (arr + 1)), .inl (i : Int)]) (rest := [.inl (i : Int), .inr (.inr 112)]) (q := 21) dX9_part_18 ml_X9_241 sm_X9_mayOf rfl rfl (by decide) (by omega) rfl rfl (Nat.le_of_ble_eq_true rfl) rfl (hM) ?_
    intro r18 mem18 hq18
    obtain ⟨rfl, hfm⟩ := hq18
    show am_Rn l G _ _ 21 [some (.inr (.inr 96)), some (.inr (.inr (arr + 1))), some (.inl (i : Int))] [.inl (mv i), .inl (i : Int), .inr (.inr 112)] mem18 _
    refine rn_iastV (a := 111) (m1 := am_up mem18 111 i (mv i)) (q := 22) dX9_part_21 rfl (by omega) (by omega) rfl rfl ?_
    refine rn_iincN (x := (i : Int)) (z := ((i + 1 : Nat) : Int)) (ls' := [some (.inr (.inr 96)), some (.inr (.inr (arr + 1))), some (.inl ((i + 1 : Nat) : Int))]) (q := 25) dX9_part_22 rfl (by decide) (by omega) (by unfold am_ok; omega) rfl rfl ?_
    refine rn_goto (t := 2) dX9_part_25 rfl ?_
    refine ih (i + 1) _ (by omega) ⟨fun b b1 b2 b3 b4 => ?_, fun k hk k1 k2 => ?_⟩ (fun j hj => ?_)
    · rw [am_up_ne b3, hfm.1 b b1 b2]; exact hf.1 b b1 b2 b3 b4
    · rw [am_up_ne (by decide), hfm.2 k hk]; exact hf.2 k hk k1 k2
    · rw [am_up_at]
      by_cases ej : j = i
      · rw [if_pos ej, ej]
      · rw [if_neg ej, hfm.1 111 (by decide) (by decide)]; exact hp j (by omega)
theorem s_part9_47 {arr : Nat} (ha : am_ks[arr]? = some (100, 29)) (a1 : arr ≠ 95) (a2 : arr ≠ 106) (a3 : arr ≠ 111) (a4 : arr ≠ 112) {h : hrs} (hh : m_hrs h mem) {mk : Nat} (hem : ∀ i, i < 8 → mem arr (16 + i) = if mk.testBit i then 1 else 0) {mv : Nat → Int} (hmn : ∀ i, 0 ≤ mv i) {w : Int} (hw : 0 ≤ w ∧ w ≤ 9) {Q : Option am_V → am_M → Prop} (hQ : ∀ m : am_M, fr_p9 mem m → (∀ j, j < h.1 → m 112 j = pP mv mk w j) → m 95 30 = pD mv mk w h.2.2.2 h.1 → m 95 31 = pL mv mk w h.1 → Q none m) : ∀ (k i : Nat) (m : am_M), i + k = h.1 → fr_p9 mem m → (∀ j, j < h.1 → m 111 j = mv j) → (∀ j, j < i → m 112 j = pP mv mk w j) → m 95 30 = pD mv mk w h.2.2.2 i → m 95 31 = pL mv mk w i → am_Rn l G mt_X9_part (d + 1) 47 [some (.inr (.inr 96)), some (.inr (.inr (arr + 1))), some (.inl (i : Int))] [] m Q := by
  have h8 : h.1 ≤ 8 := hh.1.1
  have hpy := hh.1.2.2.2
  intro k
  induction k with
  | zero =>
    intro i m hi hf hm hp h30 h31
    have e1 := (hf.hrs hh).2.1
    have hi2 : i = h.1 := by omega
    refine rn_iload_n (x := (i : Int)) (q := 48) dX9_part_47 rfl rfl ?_
    refine rn_aload_n (x := 95) (q := 49) dX9_part_48 rfl rfl ?_
    refine rn_get (a := 95) (v := .inl (h.1 : Int)) (q := 52) dX9_part_49 fl_X9_113 rfl (am_gi e1) rfl ?_
    refine rn_cmpge (t := 131) (q := 55) dX9_part_52 rfl rfl (fun w52 => ?_) (fun h => absurd h (by omega))
    refine rn_vret dX9_part_131 rfl ?_
    exact hQ m hf (by rw [← hi2]; exact hp) (by rw [← hi2]; exact h30) (by rw [← hi2]; exact h31)
  | succ k ih =>
    intro i m hi hf hm hp h30 h31
    have e1 := (hf.hrs hh).2.1
    have hL := pL_ok (mk := mk) hmn hw i
    have hPk := pP_ok (mk := mk) hmn hw i
    have hD := pD_ok (mk := mk) hmn hw hpy i
    have hmi := hmn i
    have hpy9 := hpy i
    have hmu : 0 ≤ (h.2.2.2 i : Int) * pP mv mk w i ∧ (h.2.2.2 i : Int) * pP mv mk w i ≤ 81 := ⟨Int.mul_nonneg (by omega) hPk.1, by have := Int.mul_le_mul (show (h.2.2.2 i : Int) ≤ 9 by omega) hPk.2 hPk.1 (by omega); omega⟩
    have hpay : m 99 i = (h.2.2.2 i : Int) := ((hf.hrs hh).2.2 i (by omega)).2.2
    have hin : m arr (16 + i) = if mk.testBit i then 1 else 0 := by rw [hf.1 arr a1 a2 a3 a4]; exact hem i (by omega)
    have hfin : am_Rn l G mt_X9_part (d + 1) 47 [some (.inr (.inr 96)), some (.inr (.inr (arr + 1))), some (.inl ((i + 1 : Nat) : Int))] [] (am_up (am_up (am_up m 112 i (pP mv mk w i)) 95 31 (pL mv mk w (i + 1))) 95 30 (pD mv mk w h.2.2.2 (i + 1))) Q := by
      refine ih (i + 1) _ (by omega) ⟨fun b b1 b2 b3 b4 => ?_, fun k hk k1 k2 => ?_⟩ (fun j hj => ?_) (fun j hj => ?_) rfl rfl
      · rw [am_up_ne b1, am_up_ne b1, am_up_ne b4]; exact hf.1 b b1 b2 b3 b4
      · rw [am_up_neq k1, am_up_neq k2, am_up_ne (by decide)]; exact hf.2 k hk k1 k2
      · rw [am_up_ne (by decide), am_up_ne (by decide), am_up_ne (by decide)]; exact hm j hj
      · rw [am_up_ne (by decide), am_up_ne (by decide), am_up_at]
        by_cases ej : j = i
        · rw [if_pos ej, ej]
        · rw [if_neg ej]; exact hp j (by omega)
    by_cases hbt : mk.testBit i = true
    · rw [if_pos hbt] at hin
      have eP1 : min (mv i) (pL mv mk w i) = pP mv mk w i := by unfold pP; rw [if_pos hbt]; omega
      refine rn_iload_n (x := (i : Int)) (q := 48) dX9_part_47 rfl rfl ?_
      refine rn_aload_n (x := 95) (q := 49) dX9_part_48 rfl rfl ?_
      refine rn_get (a := 95) (v := .inl (h.1 : Int)) (q := 52) dX9_part_49 fl_X9_113 rfl (am_gi e1) rfl ?_
      refine rn_cmpge (t := 131) (q := 55) dX9_part_52 rfl rfl (fun h => absurd h (by omega)) (fun w52 => ?_)
      refine rn_aload_n (x := 95) (q := 56) dX9_part_55 rfl rfl ?_
      refine rn_get (a := 95) (v := .inr (.inr 113)) (q := 59) dX9_part_56 fl_X9_64 rfl rfl rfl ?_
      refine rn_iload_n (x := (i : Int)) (q := 60) dX9_part_59 rfl rfl ?_
      refine rn_aload_n (x := arr) (q := 61) dX9_part_60 rfl rfl ?_
      refine rn_bipush (q := 63) dX9_part_61 ⟨by decide, by decide⟩ rfl ?_
      refine rn_iload_n (x := (i : Int)) (q := 64) dX9_part_63 rfl rfl ?_
      refine rn_iaddN (z := ((16 + i : Nat) : Int)) (q := 65) dX9_part_64 (by omega) (by unfold am_ok; omega) rfl ?_
      refine rn_ialdV (a := arr) (v := 1) (q := 66) dX9_part_65 ha (by omega) (by omega) hin rfl ?_
      refine rn_iconst (q := 67) dX9_part_66 (am_okd rfl) rfl ?_
      refine rn_cmpne (t := 86) (q := 70) dX9_part_67 rfl rfl (fun h => absurd h (by decide)) (fun w67 => ?_)
      refine rn_aload_n (x := 95) (q := 71) dX9_part_70 rfl rfl ?_
      refine rn_get (a := 95) (v := .inr (.inr 112)) (q := 74) dX9_part_71 fl_X9_61 rfl rfl rfl ?_
      refine rn_iload_n (x := (i : Int)) (q := 75) dX9_part_74 rfl rfl ?_
      refine rn_ialdV (a := 111) (v := mv i) (q := 76) dX9_part_75 rfl (by omega) (by omega) (hm i (by omega)) rfl ?_
      refine rn_aload_n (x := 95) (q := 77) dX9_part_76 rfl rfl ?_
      refine rn_get (a := 95) (v := .inl (pL mv mk w i)) (q := 80) dX9_part_77 fl_X9_252 rfl (am_gi h31) rfl ?_
      refine rn_mmin (q := 83) dX9_part_80 am_mm_X9_225 am_mminw (Nat.le_of_ble_eq_true rfl) rfl ?_
      refine rn_goto (t := 87) dX9_part_83 rfl ?_
      rw [eP1]
      refine rn_iastV (a := 112) (m1 := am_up m 112 i (pP mv mk w i)) (q := 88) dX9_part_87 rfl (by omega) (by omega) rfl rfl ?_
      refine rn_aload_n (x := 95) (q := 89) dX9_part_88 rfl rfl ?_
      refine rn_dup (q := 90) dX9_part_89 rfl rfl ?_
      refine rn_get (a := 95) (v := .inl (pL mv mk w i)) (q := 93) dX9_part_90 fl_X9_252 rfl (am_gi h31) rfl ?_
      refine rn_aload_n (x := 95) (q := 94) dX9_part_93 rfl rfl ?_
      refine rn_get (a := 95) (v := .inr (.inr 113)) (q := 97) dX9_part_94 fl_X9_64 rfl rfl rfl ?_
      refine rn_iload_n (x := (i : Int)) (q := 98) dX9_part_97 rfl rfl ?_
      refine rn_ialdV (a := 112) (v := pP mv mk w i) (q := 99) dX9_part_98 rfl (by omega) (by omega) am_up_self rfl ?_
      refine rn_isubN (z := pL mv mk w (i + 1)) (q := 100) dX9_part_99 (by rw [pL, pP]) (by unfold am_ok; omega) rfl ?_
      refine rn_puti (a := 95) (q := 103) dX9_part_100 fl_X9_252 rfl rfl rfl rfl ?_
      refine rn_aload_n (x := 95) (q := 104) dX9_part_103 rfl rfl ?_
      refine rn_dup (q := 105) dX9_part_104 rfl rfl ?_
      refine rn_get (a := 95) (v := .inl (pD mv mk w h.2.2.2 i)) (q := 108) dX9_part_105 fl_X9_255 rfl (am_gi h30) rfl ?_
      refine rn_aload_n (x := 95) (q := 109) dX9_part_108 rfl rfl ?_
      refine rn_get (a := 95) (v := .inr (.inr 100)) (q := 112) dX9_part_109 fl_X9_19 rfl rfl rfl ?_
      refine rn_iload_n (x := (i : Int)) (q := 113) dX9_part_112 rfl rfl ?_
      refine rn_ialdV (a := 99) (v := (h.2.2.2 i : Int)) (q := 114) dX9_part_113 rfl (by omega) (by omega) hpay rfl ?_
      refine rn_aload_n (x := 95) (q := 115) dX9_part_114 rfl rfl ?_
      refine rn_get (a := 95) (v := .inr (.inr 113)) (q := 118) dX9_part_115 fl_X9_64 rfl rfl rfl ?_
      refine rn_iload_n (x := (i : Int)) (q := 119) dX9_part_118 rfl rfl ?_
      refine rn_ialdV (a := 112) (v := pP mv mk w i) (q := 120) dX9_part_119 rfl (by omega) (by omega) (by (repeat rw [am_up_ne (by decide)]); exact am_up_self) rfl ?_
      refine rn_imulN (z := (h.2.2.2 i : Int) * pP mv mk w i) (q := 121) dX9_part_120 rfl (by unfold am_ok; omega) rfl ?_
      refine rn_iaddN (z := pD mv mk w h.2.2.2 (i + 1)) (q := 122) dX9_part_121 (by rw [pD, Int.mul_comm]) (by unfold am_ok; omega) rfl ?_
      refine rn_puti (a := 95) (q := 125) dX9_part_122 fl_X9_255 rfl rfl rfl rfl ?_
      refine rn_iincN (x := (i : Int)) (z := ((i + 1 : Nat) : Int)) (ls' := [some (.inr (.inr 96)), some (.inr (.inr (arr + 1))), some (.inl ((i + 1 : Nat) : Int))]) (q := 128) dX9_part_125 rfl (by decide) (by omega) (by unfold am_ok; omega) rfl rfl ?_
      refine rn_goto (t := 47) dX9_part_128 rfl ?_
      exact hfin
    · rw [if_neg hbt] at hin
      have e0 : pP mv mk w i = 0 := by unfold pP; rw [if_neg hbt]
      refine rn_iload_n (x := (i : Int)) (q := 48) dX9_part_47 rfl rfl ?_
      refine rn_aload_n (x := 95) (q := 49) dX9_part_48 rfl rfl ?_
      refine rn_get (a := 95) (v := .inl (h.1 : Int)) (q := 52) dX9_part_49 fl_X9_113 rfl (am_gi e1) rfl ?_
      refine rn_cmpge (t := 131) (q := 55) dX9_part_52 rfl rfl (fun h => absurd h (by omega)) (fun w52 => ?_)
      refine rn_aload_n (x := 95) (q := 56) dX9_part_55 rfl rfl ?_
      refine rn_get (a := 95) (v := .inr (.inr 113)) (q := 59) dX9_part_56 fl_X9_64 rfl rfl rfl ?_
      refine rn_iload_n (x := (i : Int)) (q := 60) dX9_part_59 rfl rfl ?_
      refine rn_aload_n (x := arr) (q := 61) dX9_part_60 rfl rfl ?_
      refine rn_bipush (q := 63) dX9_part_61 ⟨by decide, by decide⟩ rfl ?_
      refine rn_iload_n (x := (i : Int)) (q := 64) dX9_part_63 rfl rfl ?_
      refine rn_iaddN (z := ((16 + i : Nat) : Int)) (q := 65) dX9_part_64 (by omega) (by unfold am_ok; omega) rfl ?_
      refine rn_ialdV (a := arr) (v := 0) (q := 66) dX9_part_65 ha (by omega) (by omega) hin rfl ?_
      refine rn_iconst (q := 67) dX9_part_66 (am_okd rfl) rfl ?_
      refine rn_cmpne (t := 86) (q := 70) dX9_part_67 rfl rfl (fun w67 => ?_) (fun h => absurd h (by decide))
      refine rn_iconst (q := 87) dX9_part_86 (am_okd rfl) rfl ?_
      rw [show (0 : Int) = pP mv mk w i from e0.symm]
      refine rn_iastV (a := 112) (m1 := am_up m 112 i (pP mv mk w i)) (q := 88) dX9_part_87 rfl (by omega) (by omega) rfl rfl ?_
      refine rn_aload_n (x := 95) (q := 89) dX9_part_88 rfl rfl ?_
      refine rn_dup (q := 90) dX9_part_89 rfl rfl ?_
      refine rn_get (a := 95) (v := .inl (pL mv mk w i)) (q := 93) dX9_part_90 fl_X9_252 rfl (am_gi h31) rfl ?_
      refine rn_aload_n (x := 95) (q := 94) dX9_part_93 rfl rfl ?_
      refine rn_get (a := 95) (v := .inr (.inr 113)) (q := 97) dX9_part_94 fl_X9_64 rfl rfl rfl ?_
      refine rn_iload_n (x := (i : Int)) (q := 98) dX9_part_97 rfl rfl ?_
      refine rn_ialdV (a := 112) (v := pP mv mk w i) (q := 99) dX9_part_98 rfl (by omega) (by omega) am_up_self rfl ?_
      refine rn_isubN (z := pL mv mk w (i + 1)) (q := 100) dX9_part_99 (by rw [pL, pP]) (by unfold am_ok; omega) rfl ?_
      refine rn_puti (a := 95) (q := 103) dX9_part_100 fl_X9_252 rfl rfl rfl rfl ?_
      refine rn_aload_n (x := 95) (q := 104) dX9_part_103 rfl rfl ?_
      refine rn_dup (q := 105) dX9_part_104 rfl rfl ?_
      refine rn_get (a := 95) (v := .inl (pD mv mk w h.2.2.2 i)) (q := 108) dX9_part_105 fl_X9_255 rfl (am_gi h30) rfl ?_
      refine rn_aload_n (x := 95) (q := 109) dX9_part_108 rfl rfl ?_
      refine rn_get (a := 95) (v := .inr (.inr 100)) (q := 112) dX9_part_109 fl_X9_19 rfl rfl rfl ?_
      refine rn_iload_n (x := (i : Int)) (q := 113) dX9_part_112 rfl rfl ?_
      refine rn_ialdV (a := 99) (v := (h.2.2.2 i : Int)) (q := 114) dX9_part_113 rfl (by omega) (by omega) hpay rfl ?_
      refine rn_aload_n (x := 95) (q := 115) dX9_part_114 rfl rfl ?_
      refine rn_get (a := 95) (v := .inr (.inr 113)) (q := 118) dX9_part_115 fl_X9_64 rfl rfl rfl ?_
      refine rn_iload_n (x := (i : Int)) (q := 119) dX9_part_118 rfl rfl ?_
      refine rn_ialdV (a := 112) (v := pP mv mk w i) (q := 120) dX9_part_119 rfl (by omega) (by omega) (by (repeat rw [am_up_ne (by decide)]); exact am_up_self) rfl ?_
      refine rn_imulN (z := (h.2.2.2 i : Int) * pP mv mk w i) (q := 121) dX9_part_120 rfl (by unfold am_ok; omega) rfl ?_
      refine rn_iaddN (z := pD mv mk w h.2.2.2 (i + 1)) (q := 122) dX9_part_121 (by rw [pD, Int.mul_comm]) (by unfold am_ok; omega) rfl ?_
      refine rn_puti (a := 95) (q := 125) dX9_part_122 fl_X9_255 rfl rfl rfl rfl ?_
      refine rn_iincN (x := (i : Int)) (z := ((i + 1 : Nat) : Int)) (ls' := [some (.inr (.inr 96)), some (.inr (.inr (arr + 1))), some (.inl ((i + 1 : Nat) : Int))]) (q := 128) dX9_part_125 rfl (by decide) (by omega) (by unfold am_ok; omega) rfl rfl ?_
      refine rn_goto (t := 47) dX9_part_128 rfl ?_
      exact hfin
end P44
