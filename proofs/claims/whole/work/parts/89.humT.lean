/-! hum of the reference, on then -/
section P89
variable {l : Launch} {G : am_G} {d : Nat} {r : Nat} {X : List Nat} {C : List Int} {sn : Nat} {sg : Nat → Nat} {h : hrs} {e : est} {NB : Nat} {mem m : am_M}
variable {e2 : est}
theorem m_refusesHumT (q : DQ X sn sg h e NB mem) (hE : m_est e2 109 0 mem) (hB : eB e2 ≤ 9999) (i n : Int) : am_Sm l G yX9_refusesHum mt_X9_refusesHum (d + 2) [.inr (.inr 96), .inr (.inr 110), .inl i, .inl n] mem (fun q m => ((¬ humOK h i n ∧ q = some (.inl (-1))) ∨ (humOK h i n ∧ (eB e2 : Int) < n ∧ q = some (.inl (-2))) ∨ (humR h e2 i n ∧ q = some (.inl 0))) ∧ mem = m) := by
  refine am_enterQ (ls := [some (.inr (.inr 96)), some (.inr (.inr 110)), some (.inl i), some (.inl n)]) (by decide) rfl (Nat.le_of_ble_eq_true rfl) rfl (fun hok Q hQ => ?_)
  have b := q.bd
  refine rn_aload_n (x := 95) (q := 1) dX9_refusesHum_0 rfl rfl ?_
  refine rn_iload_n (x := i) (q := 2) dX9_refusesHum_1 rfl rfl ?_
  refine rn_callV (b := 95) (as := [.inl i]) (rest := []) (q := 5) dX9_refusesHum_2 ml_X9_234 sm_X9_isMan rfl rfl (by decide) (by omega) rfl rfl (Nat.le_of_ble_eq_true rfl) rfl (s_isMan9 (d := d + 0) q i) ?_
  intro r2 mem2 hq2
  obtain ⟨⟨rfl, hh2⟩ | ⟨rfl, hh2⟩, rfl⟩ := hq2
  · show am_Rn l G _ _ 5 [some (.inr (.inr 96)), some (.inr (.inr 110)), some (.inl i), some (.inl n)] [.inl 1] mem _
    refine rn_ifeq (t := 18) (q := 8) dX9_refusesHum_5 rfl rfl (fun h => absurd h (by decide)) (fun w5 => ?_)
    refine rn_iload_n (x := n) (q := 9) dX9_refusesHum_8 rfl rfl ?_
    refine rn_iconst (q := 10) dX9_refusesHum_9 (am_okd rfl) rfl ?_
    refine rn_bipush (q := 12) dX9_refusesHum_10 ⟨by decide, by decide⟩ rfl ?_
    refine rn_callS (as := [.inl n, .inl 1, .inl 9]) (rest := []) (q := 15) dX9_refusesHum_12 ml_X9_116 sm_X9_in (by omega) rfl rfl (Nat.le_of_ble_eq_true rfl) rfl (s_in9 (d := d + 1) n 1 9) ?_
    intro r12 mem12 hq12
    obtain ⟨⟨rfl, hi12⟩ | ⟨rfl, hi12⟩, rfl⟩ := hq12
    · show am_Rn l G _ _ 15 [some (.inr (.inr 96)), some (.inr (.inr 110)), some (.inl i), some (.inl n)] [.inl 1] mem _
      refine rn_ifne (t := 20) (q := 18) dX9_refusesHum_15 rfl rfl (fun w15 => ?_) (fun h => absurd h (by decide))
      refine rn_aload_n (x := 109) (q := 21) dX9_refusesHum_20 rfl rfl ?_
      refine rn_bipush (q := 23) dX9_refusesHum_21 ⟨by decide, by decide⟩ rfl ?_
      refine rn_ialdV (a := 109) (v := (eB e2 : Int)) (q := 24) dX9_refusesHum_23 rfl (by omega) (by omega) hE.a.2.2.2.1 rfl ?_
      refine rn_iload_n (x := n) (q := 25) dX9_refusesHum_24 rfl rfl ?_
      refine rn_cmpge (t := 33) (q := 28) dX9_refusesHum_25 rfl rfl (fun w25 => ?_) (fun w25 => ?_)
      · refine rn_iconst (q := 34) dX9_refusesHum_33 (am_okd rfl) rfl ?_
        refine rn_iret dX9_refusesHum_34 rfl ?_
        first | (exact hQ _ _ ⟨Or.inl ⟨by unfold humOK; omega, rfl⟩, rfl⟩) | (exact hQ _ _ ⟨Or.inr (Or.inl ⟨by unfold humOK; omega, by omega, rfl⟩), rfl⟩) | (exact hQ _ _ ⟨Or.inr (Or.inr ⟨by unfold humR humOK; omega, rfl⟩), rfl⟩)
      · refine rn_bipush (q := 30) dX9_refusesHum_28 ⟨by decide, by decide⟩ rfl ?_
        refine rn_goto (t := 34) dX9_refusesHum_30 rfl ?_
        refine rn_iret dX9_refusesHum_34 rfl ?_
        first | (exact hQ _ _ ⟨Or.inl ⟨by unfold humOK; omega, rfl⟩, rfl⟩) | (exact hQ _ _ ⟨Or.inr (Or.inl ⟨by unfold humOK; omega, by omega, rfl⟩), rfl⟩) | (exact hQ _ _ ⟨Or.inr (Or.inr ⟨by unfold humR humOK; omega, rfl⟩), rfl⟩)
    · show am_Rn l G _ _ 15 [some (.inr (.inr 96)), some (.inr (.inr 110)), some (.inl i), some (.inl n)] [.inl 0] mem _
      refine rn_ifne (t := 20) (q := 18) dX9_refusesHum_15 rfl rfl (fun h => absurd h (by decide)) (fun w15 => ?_)
      refine rn_iconst (q := 19) dX9_refusesHum_18 (am_okd rfl) rfl ?_
      refine rn_iret dX9_refusesHum_19 rfl ?_
      first | (exact hQ _ _ ⟨Or.inl ⟨by unfold humOK; omega, rfl⟩, rfl⟩) | (exact hQ _ _ ⟨Or.inr (Or.inl ⟨by unfold humOK; omega, by omega, rfl⟩), rfl⟩) | (exact hQ _ _ ⟨Or.inr (Or.inr ⟨by unfold humR humOK; omega, rfl⟩), rfl⟩)
  · show am_Rn l G _ _ 5 [some (.inr (.inr 96)), some (.inr (.inr 110)), some (.inl i), some (.inl n)] [.inl 0] mem _
    refine rn_ifeq (t := 18) (q := 8) dX9_refusesHum_5 rfl rfl (fun w5 => ?_) (fun h => absurd h (by decide))
    refine rn_iconst (q := 19) dX9_refusesHum_18 (am_okd rfl) rfl ?_
    refine rn_iret dX9_refusesHum_19 rfl ?_
    first | (exact hQ _ _ ⟨Or.inl ⟨by unfold humOK; omega, rfl⟩, rfl⟩) | (exact hQ _ _ ⟨Or.inr (Or.inl ⟨by unfold humOK; omega, by omega, rfl⟩), rfl⟩) | (exact hQ _ _ ⟨Or.inr (Or.inr ⟨by unfold humR humOK; omega, rfl⟩), rfl⟩)
theorem m_goHumT (q : DQ X sn sg h e NB mem) (he : e_ok h.1 NB e2) (hE : m_est e2 109 0 mem) (k n : Nat) (hk : k < h.1) (hn : n ≤ 9) (hnB : n ≤ eB e2) : am_Sm l G yX9_goHum mt_X9_goHum (d + 1) [.inr (.inr 96), .inr (.inr 110), .inl (k : Int), .inl (n : Int)] mem (fun q m => q = none ∧ m_est (humU h e2 k n) 109 0 m ∧ ∀ b, b ≠ 109 → m b = mem b) := by
  refine am_enterQ (ls := [some (.inr (.inr 96)), some (.inr (.inr 110)), some (.inl (k : Int)), some (.inl (n : Int))]) (by decide) rfl (Nat.le_of_ble_eq_true rfl) rfl (fun hok Q hQ => ?_)
  have b := q.bd
  have bB := he.2.2.2.2.1
  have bM := he.2.2.2.2.2.1
  have b1 := he.1 k
  have b2 := he.2.1 k
  have b3 := q.pa9 k
  have b4 := Nat.mul_le_mul (Nat.mul_le_mul (Nat.le_refl 2) b3) hn
  refine rn_aload_n (x := 109) (q := 1) dX9_goHum_0 rfl rfl ?_
  refine rn_bipush (q := 3) dX9_goHum_1 ⟨by decide, by decide⟩ rfl ?_
  refine rn_dup2 (q := 4) dX9_goHum_3 rfl rfl rfl ?_
  refine rn_ialdV (a := 109) (v := (eB e2 : Int)) (q := 5) dX9_goHum_4 rfl (by omega) (by omega) hE.a.2.2.2.1 rfl ?_
  refine rn_iload_n (x := (n : Int)) (q := 6) dX9_goHum_5 rfl rfl ?_
  refine rn_isubN (z := ((eB e2 : Int) - (n : Int))) (q := 7) dX9_goHum_6 rfl (by unfold am_ok; omega) rfl ?_
  refine rn_iastV (a := 109) (m1 := am_up mem 109 24 ((eB e2 : Int) - (n : Int))) (q := 8) dX9_goHum_7 rfl (by omega) (by omega) rfl rfl ?_
  refine rn_aload_n (x := 109) (q := 9) dX9_goHum_8 rfl rfl ?_
  refine rn_iload_n (x := (k : Int)) (q := 10) dX9_goHum_9 rfl rfl ?_
  refine rn_bipush (q := 12) dX9_goHum_10 ⟨by decide, by decide⟩ rfl ?_
  refine rn_aload_n (x := 109) (q := 13) dX9_goHum_12 rfl rfl ?_
  refine rn_iload_n (x := (k : Int)) (q := 14) dX9_goHum_13 rfl rfl ?_
  refine rn_ialdV (a := 109) (v := (eH e2 k : Int)) (q := 15) dX9_goHum_14 rfl (by omega) (by omega) (show am_up mem 109 24 ((eB e2 : Int) - (n : Int)) 109 k = _ by rw [am_up_neq (by omega)]; exact hE.a.1 _ (by omega)) rfl ?_
  refine rn_iload_n (x := (n : Int)) (q := 16) dX9_goHum_15 rfl rfl ?_
  refine rn_iaddN (z := (((eH e2 k) + n : Nat) : Int)) (q := 17) dX9_goHum_16 (by omega) (by unfold am_ok; omega) rfl ?_
  refine rn_mmin (q := 20) dX9_goHum_17 am_mm_X9_225 am_mminw (Nat.le_of_ble_eq_true rfl) rfl ?_
  refine rn_iastV (a := 109) (m1 := am_up (am_up mem 109 24 ((eB e2 : Int) - (n : Int))) 109 k (min 99 (((eH e2 k) + n : Nat) : Int))) (q := 21) dX9_goHum_20 rfl (by omega) (by omega) rfl rfl ?_
  refine rn_aload_n (x := 109) (q := 22) dX9_goHum_21 rfl rfl ?_
  refine rn_bipush (q := 24) dX9_goHum_22 ⟨by decide, by decide⟩ rfl ?_
  refine rn_iload_n (x := (k : Int)) (q := 25) dX9_goHum_24 rfl rfl ?_
  refine rn_iaddN (z := ((8 + k : Nat) : Int)) (q := 26) dX9_goHum_25 (by omega) (by unfold am_ok; omega) rfl ?_
  refine rn_bipush (q := 28) dX9_goHum_26 ⟨by decide, by decide⟩ rfl ?_
  refine rn_aload_n (x := 109) (q := 29) dX9_goHum_28 rfl rfl ?_
  refine rn_bipush (q := 31) dX9_goHum_29 ⟨by decide, by decide⟩ rfl ?_
  refine rn_iload_n (x := (k : Int)) (q := 32) dX9_goHum_31 rfl rfl ?_
  refine rn_iaddN (z := ((8 + k : Nat) : Int)) (q := 33) dX9_goHum_32 (by omega) (by unfold am_ok; omega) rfl ?_
  refine rn_ialdV (a := 109) (v := (eS e2 k : Int)) (q := 34) dX9_goHum_33 rfl (by omega) (by omega) (show am_up (am_up mem 109 24 ((eB e2 : Int) - (n : Int))) 109 k (min 99 ((eH e2 k : Int) + (n : Int))) 109 (8 + k) = _ by rw [am_up_neq (by omega), am_up_neq (by omega)]; exact hE.a.2.1 _ (by omega)) rfl ?_
  refine rn_iconst (q := 35) dX9_goHum_34 (am_okd rfl) rfl ?_
  refine rn_iaddN (z := (((eS e2 k) + 1 : Nat) : Int)) (q := 36) dX9_goHum_35 (by omega) (by unfold am_ok; omega) rfl ?_
  refine rn_mmin (q := 39) dX9_goHum_36 am_mm_X9_225 am_mminw (Nat.le_of_ble_eq_true rfl) rfl ?_
  refine rn_iastV (a := 109) (m1 := am_up (am_up (am_up mem 109 24 ((eB e2 : Int) - (n : Int))) 109 k (min 99 (((eH e2 k) + n : Nat) : Int))) 109 (8 + k) (min 99 (((eS e2 k) + 1 : Nat) : Int))) (q := 40) dX9_goHum_39 rfl (by omega) (by omega) rfl rfl ?_
  refine rn_aload_n (x := 109) (q := 41) dX9_goHum_40 rfl rfl ?_
  refine rn_bipush (q := 43) dX9_goHum_41 ⟨by decide, by decide⟩ rfl ?_
  refine rn_aload_n (x := 109) (q := 44) dX9_goHum_43 rfl rfl ?_
  refine rn_bipush (q := 46) dX9_goHum_44 ⟨by decide, by decide⟩ rfl ?_
  refine rn_ialdV (a := 109) (v := (eM e2 : Int)) (q := 47) dX9_goHum_46 rfl (by omega) (by omega) (by rw [am_up_neq (by omega), am_up_neq (by omega), am_up_neq (by omega)]; exact hE.a.2.2.2.2.1) rfl ?_
  refine rn_iconst (q := 48) dX9_goHum_47 (am_okd rfl) rfl ?_
  refine rn_aload_n (x := 95) (q := 49) dX9_goHum_48 rfl rfl ?_
  refine rn_get (a := 95) (v := .inr (.inr 100)) (q := 52) dX9_goHum_49 fl_X9_19 rfl rfl rfl ?_
  refine rn_iload_n (x := (k : Int)) (q := 53) dX9_goHum_52 rfl rfl ?_
  refine rn_ialdV (a := 99) (v := (h.2.2.2 k : Int)) (q := 54) dX9_goHum_53 rfl (by omega) (by omega) (q.pay hk) rfl ?_
  refine rn_imulN (z := ((2 * (h.2.2.2 k) : Nat) : Int)) (q := 55) dX9_goHum_54 (by omega) (by unfold am_ok; omega) rfl ?_
  refine rn_iload_n (x := (n : Int)) (q := 56) dX9_goHum_55 rfl rfl ?_
  refine rn_imulN (z := (((2 * (h.2.2.2 k)) * n : Nat) : Int)) (q := 57) dX9_goHum_56 (Int.natCast_mul _ _).symm (by unfold am_ok; omega) rfl ?_
  refine rn_iaddN (z := (((eM e2) + ((2 * (h.2.2.2 k)) * n) : Nat) : Int)) (q := 58) dX9_goHum_57 (by omega) (by unfold am_ok; omega) rfl ?_
  refine rn_callS (as := [.inl (((eM e2) + ((2 * (h.2.2.2 k)) * n) : Nat) : Int)]) (rest := [.inl 25, .inr (.inr 110)]) (q := 61) dX9_goHum_58 ml_X9_262 sm_X9_full (by omega) rfl rfl (Nat.le_of_ble_eq_true rfl) rfl (s_full (d := d + 0) (((eM e2) + ((2 * (h.2.2.2 k)) * n) : Nat) : Int)) ?_
  intro r58 mem58 hq58
  obtain ⟨rfl, rfl⟩ := hq58
  show am_Rn l G _ _ 61 [some (.inr (.inr 96)), some (.inr (.inr 110)), some (.inl (k : Int)), some (.inl (n : Int))] [.inl (max 0 (min 9999 (((eM e2) + ((2 * (h.2.2.2 k)) * n) : Nat) : Int))), .inl 25, .inr (.inr 110)] (am_up (am_up (am_up mem 109 24 ((eB e2 : Int) - (n : Int))) 109 k (min 99 (((eH e2 k) + n : Nat) : Int))) 109 (8 + k) (min 99 (((eS e2 k) + 1 : Nat) : Int))) _
  refine rn_iastV (a := 109) (m1 := am_up (am_up (am_up (am_up mem 109 24 ((eB e2 : Int) - (n : Int))) 109 k (min 99 (((eH e2 k) + n : Nat) : Int))) 109 (8 + k) (min 99 (((eS e2 k) + 1 : Nat) : Int))) 109 25 (max 0 (min 9999 (((eM e2) + ((2 * (h.2.2.2 k)) * n) : Nat) : Int)))) (q := 62) dX9_goHum_61 rfl (by omega) (by omega) rfl rfl ?_
  refine rn_vret dX9_goHum_62 rfl ?_
  have A := hE.a
  refine hQ _ _ ⟨rfl, m_est_of (fun j hj => ?_) (fun j hj => ?_) (fun j hj => ?_) ?_ ?_ ?_ ?_ ?_, fun b2 hb => by rw [am_up_ne hb, am_up_ne hb, am_up_ne hb, am_up_ne hb]⟩
  · rw [am_up_neq (by omega), am_up_neq (by omega), am_up_at, am_up_neq (by omega), A.1 j hj]
    show _ = ((if j = k then min 99 (eH e2 j + n) else eH e2 j : Nat) : Int)
    by_cases hj2 : j = k
    · subst hj2; rw [if_pos rfl, if_pos rfl]; omega
    · rw [if_neg hj2, if_neg hj2]
  · rw [am_up_neq (by omega), am_up_at, am_up_neq (by omega), am_up_neq (by omega), A.2.1 j hj]
    show _ = ((if j = k then min 99 (eS e2 j + 1) else eS e2 j : Nat) : Int)
    by_cases hj2 : j = k
    · subst hj2; rw [if_pos rfl, if_pos rfl]; omega
    · rw [if_neg (by omega), if_neg hj2]
  · rw [am_up_neq (by omega), am_up_neq (by omega), am_up_neq (by omega), am_up_neq (by omega)]; exact A.2.2.1 j hj
  · rw [am_up_neq (by omega), am_up_neq (by omega), am_up_neq (by omega), am_up_self]; show _ = ((eB e2 - n : Nat) : Int); omega
  · rw [am_up_self]; show _ = ((min 9999 (eM e2 + 2 * h.2.2.2 k * n) : Nat) : Int); generalize 2 * h.2.2.2 k * n = Z; omega
  · rw [am_up_neq (by omega), am_up_neq (by omega), am_up_neq (by omega), am_up_neq (by omega)]; exact A.2.2.2.2.2.1
  · rw [am_up_neq (by omega), am_up_neq (by omega), am_up_neq (by omega), am_up_neq (by omega)]; exact A.2.2.2.2.2.2.1
  · rw [am_up_neq (by omega), am_up_neq (by omega), am_up_neq (by omega), am_up_neq (by omega)]; exact A.2.2.2.2.2.2.2
end P89
