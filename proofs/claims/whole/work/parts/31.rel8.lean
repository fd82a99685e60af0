section P31
variable {l : Launch} {G : am_G} {d : Nat} {mem : am_M}
theorem s_bnd (x : Int) : am_Sm l G yX4_bindingOf mt_X4_bindingOf d [.inl x] mem (am_rr (some (.inl (bnd x))) mem) := by
  refine am_enter (ls := [some (.inl x)]) (by decide) rfl (Nat.le_of_ble_eq_true rfl) rfl ?_
  by_cases h42 : x = 42
  · subst h42
    refine rn_iload_n (x := 42) (q := 1) dX4_bindingOf_0 rfl rfl ?_
    refine rn_look (o1 := 79) (t := 80) dX4_bindingOf_1 rfl rfl rfl ?_
    refine rn_iconst (q := 81) dX4_bindingOf_80 (am_okd rfl) rfl ?_
    refine rn_iret dX4_bindingOf_81 rfl ?_
    exact ⟨rfl, rfl⟩
  by_cases h43 : x = 43
  · subst h43
    refine rn_iload_n (x := 43) (q := 1) dX4_bindingOf_0 rfl rfl ?_
    refine rn_look (o1 := 77) (t := 78) dX4_bindingOf_1 rfl rfl rfl ?_
    refine rn_iconst (q := 79) dX4_bindingOf_78 (am_okd rfl) rfl ?_
    refine rn_iret dX4_bindingOf_79 rfl ?_
    exact ⟨rfl, rfl⟩
  by_cases h45 : x = 45
  · subst h45
    refine rn_iload_n (x := 45) (q := 1) dX4_bindingOf_0 rfl rfl ?_
    refine rn_look (o1 := 77) (t := 78) dX4_bindingOf_1 rfl rfl rfl ?_
    refine rn_iconst (q := 79) dX4_bindingOf_78 (am_okd rfl) rfl ?_
    refine rn_iret dX4_bindingOf_79 rfl ?_
    exact ⟨rfl, rfl⟩
  by_cases h47 : x = 47
  · subst h47
    refine rn_iload_n (x := 47) (q := 1) dX4_bindingOf_0 rfl rfl ?_
    refine rn_look (o1 := 79) (t := 80) dX4_bindingOf_1 rfl rfl rfl ?_
    refine rn_iconst (q := 81) dX4_bindingOf_80 (am_okd rfl) rfl ?_
    refine rn_iret dX4_bindingOf_81 rfl ?_
    exact ⟨rfl, rfl⟩
  by_cases h60 : x = 60
  · subst h60
    refine rn_iload_n (x := 60) (q := 1) dX4_bindingOf_0 rfl rfl ?_
    refine rn_look (o1 := 75) (t := 76) dX4_bindingOf_1 rfl rfl rfl ?_
    refine rn_iconst (q := 77) dX4_bindingOf_76 (am_okd rfl) rfl ?_
    refine rn_iret dX4_bindingOf_77 rfl ?_
    exact ⟨rfl, rfl⟩
  by_cases h61 : x = 61
  · subst h61
    refine rn_iload_n (x := 61) (q := 1) dX4_bindingOf_0 rfl rfl ?_
    refine rn_look (o1 := 75) (t := 76) dX4_bindingOf_1 rfl rfl rfl ?_
    refine rn_iconst (q := 77) dX4_bindingOf_76 (am_okd rfl) rfl ?_
    refine rn_iret dX4_bindingOf_77 rfl ?_
    exact ⟨rfl, rfl⟩
  by_cases h62 : x = 62
  · subst h62
    refine rn_iload_n (x := 62) (q := 1) dX4_bindingOf_0 rfl rfl ?_
    refine rn_look (o1 := 75) (t := 76) dX4_bindingOf_1 rfl rfl rfl ?_
    refine rn_iconst (q := 77) dX4_bindingOf_76 (am_okd rfl) rfl ?_
    refine rn_iret dX4_bindingOf_77 rfl ?_
    exact ⟨rfl, rfl⟩
  by_cases h256 : x = 256
  · subst h256
    refine rn_iload_n (x := 256) (q := 1) dX4_bindingOf_0 rfl rfl ?_
    refine rn_look (o1 := 81) (t := 82) dX4_bindingOf_1 rfl rfl rfl ?_
    refine rn_iconst (q := 83) dX4_bindingOf_82 (am_okd rfl) rfl ?_
    refine rn_iret dX4_bindingOf_83 rfl ?_
    exact ⟨rfl, rfl⟩
  have hout : ∀ p ∈ ([(42, 79), (43, 77), (45, 77), (47, 79), (60, 75), (61, 75), (62, 75), (256, 81)] : List (Int × Int)), p.1 ≠ x := by simp; omega
  refine rn_iload_n (x := x) (q := 1) dX4_bindingOf_0 rfl rfl ?_
  refine rn_look (o1 := 83) (t := 84) dX4_bindingOf_1 rfl (lk_out hout) rfl ?_
  refine rn_iconst (q := 85) dX4_bindingOf_84 (am_okd rfl) rfl ?_
  refine rn_iret dX4_bindingOf_85 rfl ?_
  exact ⟨by unfold bnd; rw [if_neg (by omega), if_neg (by omega), if_neg (by omega), if_neg h256], rfl⟩
theorem s_emit {r : Nat} (hr : am_rul r) {C HS : List Int} (hC : c_ch r C HS mem) (hl : C.length + HS.length < 40) (x : Int) : am_Sm l G yX4_emit mt_X4_emit d [.inr (.inr (r + 1)), .inl x] mem (fun q m => q = none ∧ c_ch r (C ++ [x]) HS m ∧ fr_ch r mem m) := by
  refine am_enter (ls := [some (.inr (.inr (r + 1))), some (.inl x)]) (by decide) rfl (Nat.le_of_ble_eq_true rfl) rfl ?_
  obtain ⟨c1, c2, c3, c4, c5, c6⟩ := hC
  refine rn_aload_n (x := r) (q := 1) dX4_emit_0 rfl rfl ?_
  refine rn_get (a := r) (v := .inl (C.length : Int)) (q := 4) dX4_emit_1 fl_X4_32 (am_rul_k hr) (am_gi c1) rfl ?_
  refine rn_bipush (q := 6) dX4_emit_4 ⟨by decide, by decide⟩ rfl ?_
  refine rn_cmpge (t := 29) (q := 9) dX4_emit_6 rfl rfl (fun h => absurd h (by omega)) (fun w6 => ?_)
  refine rn_aload_n (x := r) (q := 10) dX4_emit_9 rfl rfl ?_
  refine rn_get (a := r) (v := .inr (.inr (r + 1 + 1))) (q := 13) dX4_emit_10 fl_X4_9 (am_rul_k hr) (am_rul_f0 hr) rfl ?_
  refine rn_aload_n (x := r) (q := 14) dX4_emit_13 rfl rfl ?_
  refine rn_get (a := r) (v := .inl (C.length : Int)) (q := 17) dX4_emit_14 fl_X4_32 (am_rul_k hr) (am_gi c1) rfl ?_
  refine rn_iload_n (x := x) (q := 18) dX4_emit_17 rfl rfl ?_
  refine rn_iastV (a := (r + 1)) (m1 := am_up mem (r + 1) (((C.length : Int)).toNat) x) (q := 19) dX4_emit_18 (am_rul_k1 hr) (by omega) (by omega) rfl rfl ?_
  refine rn_aload_n (x := r) (q := 20) dX4_emit_19 rfl rfl ?_
  refine rn_dup (q := 21) dX4_emit_20 rfl rfl ?_
  refine rn_get (a := r) (v := .inl (C.length : Int)) (q := 24) dX4_emit_21 fl_X4_32 (am_rul_k hr) (am_gi (by show am_up mem (r + 1) C.length x r 4 = _; rw [am_up_ne (by omega)]; exact c1)) rfl ?_
  refine rn_iconst (q := 25) dX4_emit_24 (am_okd rfl) rfl ?_
  refine rn_iaddN (z := ((C.length + 1 : Nat) : Int)) (q := 26) dX4_emit_25 (by omega) (by unfold am_ok; omega) rfl ?_
  refine rn_puti (a := r) (q := 29) dX4_emit_26 fl_X4_32 (am_rul_k hr) rfl rfl rfl ?_
  refine rn_vret dX4_emit_29 rfl ?_
  refine ⟨rfl, ⟨by rw [am_up_self]; simp, fun i hi => ?_, ?_, fun i hi => ?_, by simp; omega, c6⟩, fun b h1 h2 h3 => ?_, fun k h4 h5 => ?_⟩
  · rw [am_up_ne (by omega), am_up_at, Int.toNat_natCast, lg_app hi]
    by_cases hiC : i = C.length
    · rw [if_pos hiC, if_pos hiC]
    · rw [if_neg hiC, if_neg hiC]; exact c2 i (by simp at hi; omega)
  · rw [am_up_neq (by decide), am_up_ne (by omega)]; exact c3
  · rw [am_up_ne (by omega), am_up_ne (by omega)]; exact c4 i hi
  · rw [am_up_ne h1, am_up_ne h2]
  · rw [am_up_neq h4, am_up_ne (by omega)]
theorem s_hold {r : Nat} (hr : am_rul r) {C HS : List Int} (hC : c_ch r C HS mem) (hl : C.length + HS.length < 40) (x : Int) (hx : 0 ≤ x ∧ x ≤ 256) : am_Sm l G yX4_hold mt_X4_hold d [.inr (.inr (r + 1)), .inl x] mem (fun q m => q = none ∧ c_ch r C (x :: HS) m ∧ fr_ch r mem m) := by
  refine am_enter (ls := [some (.inr (.inr (r + 1))), some (.inl x)]) (by decide) rfl (Nat.le_of_ble_eq_true rfl) rfl ?_
  obtain ⟨c1, c2, c3, c4, c5, c6⟩ := hC
  refine rn_aload_n (x := r) (q := 1) dX4_hold_0 rfl rfl ?_
  refine rn_get (a := r) (v := .inl (HS.length : Int)) (q := 4) dX4_hold_1 fl_X4_36 (am_rul_k hr) (am_gi c3) rfl ?_
  refine rn_bipush (q := 6) dX4_hold_4 ⟨by decide, by decide⟩ rfl ?_
  refine rn_cmpge (t := 29) (q := 9) dX4_hold_6 rfl rfl (fun h => absurd h (by omega)) (fun w6 => ?_)
  refine rn_aload_n (x := r) (q := 10) dX4_hold_9 rfl rfl ?_
  refine rn_get (a := r) (v := .inr (.inr (r + 2 + 1))) (q := 13) dX4_hold_10 fl_X4_15 (am_rul_k hr) (am_rul_f1 hr) rfl ?_
  refine rn_aload_n (x := r) (q := 14) dX4_hold_13 rfl rfl ?_
  refine rn_get (a := r) (v := .inl (HS.length : Int)) (q := 17) dX4_hold_14 fl_X4_36 (am_rul_k hr) (am_gi c3) rfl ?_
  refine rn_iload_n (x := x) (q := 18) dX4_hold_17 rfl rfl ?_
  refine rn_iastV (a := (r + 2)) (m1 := am_up mem (r + 2) (((HS.length : Int)).toNat) x) (q := 19) dX4_hold_18 (am_rul_k2 hr) (by omega) (by omega) rfl rfl ?_
  refine rn_aload_n (x := r) (q := 20) dX4_hold_19 rfl rfl ?_
  refine rn_dup (q := 21) dX4_hold_20 rfl rfl ?_
  refine rn_get (a := r) (v := .inl (HS.length : Int)) (q := 24) dX4_hold_21 fl_X4_36 (am_rul_k hr) (am_gi (by show am_up mem (r + 2) HS.length x r 5 = _; rw [am_up_ne (by omega)]; exact c3)) rfl ?_
  refine rn_iconst (q := 25) dX4_hold_24 (am_okd rfl) rfl ?_
  refine rn_iaddN (z := ((HS.length + 1 : Nat) : Int)) (q := 26) dX4_hold_25 (by omega) (by unfold am_ok; omega) rfl ?_
  refine rn_puti (a := r) (q := 29) dX4_hold_26 fl_X4_36 (am_rul_k hr) rfl rfl rfl ?_
  refine rn_vret dX4_hold_29 rfl ?_
  refine ⟨rfl, ⟨?_, fun i hi => ?_, by rw [am_up_self]; simp, fun i hi => ?_, by simp; omega, ?_⟩, fun b h1 h2 h3 => ?_, fun k h4 h5 => ?_⟩
  · rw [am_up_neq (by decide), am_up_ne (by omega)]; exact c1
  · rw [am_up_ne (by omega), am_up_ne (by omega)]; exact c2 i hi
  · rw [am_up_ne (by omega), am_up_at, Int.toNat_natCast, List.reverse_cons, lg_app (by simpa using hi)]
    rw [List.length_reverse]
    by_cases hiC : i = HS.length
    · rw [if_pos hiC, if_pos hiC]
    · rw [if_neg hiC, if_neg hiC]; exact c4 i (by simp at hi; omega)
  · intro y hy
    rcases List.mem_cons.mp hy with rfl | hy
    · exact hx
    · exact c6 y hy
  · rw [am_up_ne h1, am_up_ne h3]
  · rw [am_up_neq h5, am_up_ne (by omega)]
theorem relC_len (b : Int) : ∀ (HS C : List Int), (relC b C HS).1.length + (relC b C HS).2.length = C.length + HS.length := by
  intro HS
  induction HS with
  | nil => intro C; rfl
  | cons h t ih =>
    intro C
    rw [relC]
    split
    · rw [ih]; simp; omega
    · rfl
theorem s_release {r : Nat} (hr : am_rul r) (b : Int) : ∀ (HS C : List Int) (m1 : am_M), c_ch r C HS m1 → fr_ch r mem m1 → am_Rn l G mt_X4_release (d + 1) 0 [some (.inr (.inr (r + 1))), some (.inl b)] [] m1 (fun q m => q = none ∧ c_ch r (relC b C HS).1 (relC b C HS).2 m ∧ fr_ch r mem m) := by
  intro HS
  induction HS with
  | nil =>
    intro C m1 hC hf
    have c3 := hC.2.2.1
    refine rn_aload_n (x := r) (q := 1) dX4_release_0 rfl rfl ?_
    refine rn_get (a := r) (v := .inl 0) (q := 4) dX4_release_1 fl_X4_36 (am_rul_k hr) (am_gi c3) rfl ?_
    refine rn_ifle (t := 52) (q := 7) dX4_release_4 rfl rfl (fun w4 => ?_) (fun h => absurd h (by decide))
    refine rn_vret dX4_release_52 rfl ?_
    exact ⟨rfl, hC, hf⟩
  | cons h t ih =>
    intro C m1 hC hf
    obtain ⟨c1, c2, c3, c4, c5, c6⟩ := id hC
    rw [List.length_cons] at c5
    have ht : (h :: t).reverse.getD t.length 0 = h := by
      rw [List.reverse_cons, lg_app (by simp)]; simp
    have hh := c6 h List.mem_cons_self
    have e5 : m1 (r + 2) t.length = h := by rw [c4 t.length (by simp)]; exact ht
    by_cases hb : b ≤ bnd h
    · have hC2 : c_ch r C t (am_up m1 r 5 (t.length : Int)) := by
        refine ⟨by rw [am_up_neq (by decide)]; exact c1, fun i hi => by rw [am_up_ne (by omega)]; exact c2 i hi, am_up_self, fun i hi => ?_, by omega, fun y hy => c6 y (List.mem_cons_of_mem _ hy)⟩
        rw [am_up_ne (by omega), c4 i (by simp; omega), List.reverse_cons, lg_app (by simp; omega), if_neg (by simp; omega)]
      have hf2 : fr_ch r mem (am_up m1 r 5 (t.length : Int)) := hf.tr ⟨fun x x0 x1 x2 => am_up_ne x0, fun k h4 h5 => am_up_neq h5⟩
      rw [relC, if_pos hb]
      refine rn_aload_n (x := r) (q := 1) dX4_release_0 rfl rfl ?_
      refine rn_get (a := r) (v := .inl ((t.length + 1 : Nat) : Int)) (q := 4) dX4_release_1 fl_X4_36 (am_rul_k hr) (am_gi c3) rfl ?_
      refine rn_ifle (t := 52) (q := 7) dX4_release_4 rfl rfl (fun h => absurd h (by omega)) (fun w4 => ?_)
      refine rn_aload_n (x := r) (q := 8) dX4_release_7 rfl rfl ?_
      refine rn_get (a := r) (v := .inr (.inr (r + 2 + 1))) (q := 11) dX4_release_8 fl_X4_15 (am_rul_k hr) (am_rul_f1 hr) rfl ?_
      refine rn_aload_n (x := r) (q := 12) dX4_release_11 rfl rfl ?_
      refine rn_get (a := r) (v := .inl ((t.length + 1 : Nat) : Int)) (q := 15) dX4_release_12 fl_X4_36 (am_rul_k hr) (am_gi c3) rfl ?_
      refine rn_iconst (q := 16) dX4_release_15 (am_okd rfl) rfl ?_
      refine rn_isubN (z := (t.length : Int)) (q := 17) dX4_release_16 (by omega) (by unfold am_ok; omega) rfl ?_
      refine rn_ialdV (a := (r + 2)) (v := h) (q := 18) dX4_release_17 (am_rul_k2 hr) (by omega) (by omega) e5 rfl ?_
      refine rn_callS (as := [.inl h]) (rest := []) (q := 21) dX4_release_18 ml_X4_96 sm_X4_bindingOf (by omega) rfl rfl (Nat.le_of_ble_eq_true rfl) rfl (s_bnd (d := d) h) ?_
      intro r18 mem18 hq18
      obtain ⟨rfl, rfl⟩ := hq18
      show am_Rn l G _ _ 21 [some (.inr (.inr (r + 1))), some (.inl b)] [.inl (bnd h)] m1 _
      refine rn_iload_n (x := b) (q := 22) dX4_release_21 rfl rfl ?_
      refine rn_cmplt (t := 52) (q := 25) dX4_release_22 rfl rfl (fun h => absurd h (by omega)) (fun w22 => ?_)
      refine rn_aload_n (x := r) (q := 26) dX4_release_25 rfl rfl ?_
      refine rn_dup (q := 27) dX4_release_26 rfl rfl ?_
      refine rn_get (a := r) (v := .inl ((t.length + 1 : Nat) : Int)) (q := 30) dX4_release_27 fl_X4_36 (am_rul_k hr) (am_gi c3) rfl ?_
      refine rn_iconst (q := 31) dX4_release_30 (am_okd rfl) rfl ?_
      refine rn_isubN (z := (t.length : Int)) (q := 32) dX4_release_31 (by omega) (by unfold am_ok; omega) rfl ?_
      refine rn_puti (a := r) (q := 35) dX4_release_32 fl_X4_36 (am_rul_k hr) rfl rfl rfl ?_
      refine rn_aload_n (x := r) (q := 36) dX4_release_35 rfl rfl ?_
      refine rn_aload_n (x := r) (q := 37) dX4_release_36 rfl rfl ?_
      refine rn_get (a := r) (v := .inr (.inr (r + 2 + 1))) (q := 40) dX4_release_37 fl_X4_15 (am_rul_k hr) (am_rul_f1 hr) rfl ?_
      refine rn_aload_n (x := r) (q := 41) dX4_release_40 rfl rfl ?_
      refine rn_get (a := r) (v := .inl (t.length : Int)) (q := 44) dX4_release_41 fl_X4_36 (am_rul_k hr) (am_gi (show (am_up m1 r 5 (t.length : Int)) r 5 = (t.length : Int) by simp [am_up])) rfl ?_
      refine rn_ialdV (a := (r + 2)) (v := h) (q := 45) dX4_release_44 (am_rul_k2 hr) (by omega) (by omega) (by show am_up m1 r 5 (t.length : Int) (r + 2) t.length = h; rw [am_up_ne (by omega)]; exact e5) rfl ?_
      refine rn_inegN (z := (-h)) (q := 46) dX4_release_45 rfl (by unfold am_ok; omega) rfl ?_
      refine rn_callV (b := r) (as := [.inl (-h)]) (rest := []) (q := 49) dX4_release_46 ml_X4_82 sm_X4_emit rfl (am_rul_k hr) (by decide) (by omega) rfl rfl (Nat.le_of_ble_eq_true rfl) rfl (s_emit (d := d) hr hC2 (by omega) (-h)) ?_
      intro r46 mem46 hq46
      obtain ⟨rfl, hc3, hc4⟩ := hq46
      show am_Rn l G _ _ 49 [some (.inr (.inr (r + 1))), some (.inl b)] [] mem46 _
      refine rn_goto (t := 0) dX4_release_49 rfl ?_
      exact ih _ _ hc3 (hf2.tr hc4)
    · rw [relC, if_neg hb]
      refine rn_aload_n (x := r) (q := 1) dX4_release_0 rfl rfl ?_
      refine rn_get (a := r) (v := .inl ((t.length + 1 : Nat) : Int)) (q := 4) dX4_release_1 fl_X4_36 (am_rul_k hr) (am_gi c3) rfl ?_
      refine rn_ifle (t := 52) (q := 7) dX4_release_4 rfl rfl (fun h => absurd h (by omega)) (fun w4 => ?_)
      refine rn_aload_n (x := r) (q := 8) dX4_release_7 rfl rfl ?_
      refine rn_get (a := r) (v := .inr (.inr (r + 2 + 1))) (q := 11) dX4_release_8 fl_X4_15 (am_rul_k hr) (am_rul_f1 hr) rfl ?_
      refine rn_aload_n (x := r) (q := 12) dX4_release_11 rfl rfl ?_
      refine rn_get (a := r) (v := .inl ((t.length + 1 : Nat) : Int)) (q := 15) dX4_release_12 fl_X4_36 (am_rul_k hr) (am_gi c3) rfl ?_
      refine rn_iconst (q := 16) dX4_release_15 (am_okd rfl) rfl ?_
      refine rn_isubN (z := (t.length : Int)) (q := 17) dX4_release_16 (by omega) (by unfold am_ok; omega) rfl ?_
      refine rn_ialdV (a := (r + 2)) (v := h) (q := 18) dX4_release_17 (am_rul_k2 hr) (by omega) (by omega) e5 rfl ?_
      refine rn_callS (as := [.inl h]) (rest := []) (q := 21) dX4_release_18 ml_X4_96 sm_X4_bindingOf (by omega) rfl rfl (Nat.le_of_ble_eq_true rfl) rfl (s_bnd (d := d) h) ?_
      intro r18 mem18 hq18
      obtain ⟨rfl, rfl⟩ := hq18
      show am_Rn l G _ _ 21 [some (.inr (.inr (r + 1))), some (.inl b)] [.inl (bnd h)] m1 _
      refine rn_iload_n (x := b) (q := 22) dX4_release_21 rfl rfl ?_
      refine rn_cmplt (t := 52) (q := 25) dX4_release_22 rfl rfl (fun w22 => ?_) (fun h => absurd h (by omega))
      refine rn_vret dX4_release_52 rfl ?_
      exact ⟨rfl, hC, hf⟩
theorem s_rel {r : Nat} (hr : am_rul r) (b : Int) {HS C : List Int} (hC : c_ch r C HS mem) : am_Sm l G yX4_release mt_X4_release (d + 1) [.inr (.inr (r + 1)), .inl b] mem (fun q m => q = none ∧ c_ch r (relC b C HS).1 (relC b C HS).2 m ∧ fr_ch r mem m) := by
  refine am_enter (ls := [some (.inr (.inr (r + 1))), some (.inl b)]) (by decide) rfl (Nat.le_of_ble_eq_true rfl) rfl ?_
  exact s_release hr b HS C mem hC ⟨fun _ _ _ _ => rfl, fun _ _ _ => rfl⟩
end P31
