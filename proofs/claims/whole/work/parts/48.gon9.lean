section P48
variable {l : Launch} {G : am_G} {d : Nat} {mem M : am_M}
theorem s_goN_39 {arr : Nat} (ha : am_ks[arr]? = some (100, 29)) (a1 : arr ≠ 95) {nt eb em ek : Nat} {eg pd pl : Int} (hnt : nt < 1000000) (hb : eb ≤ 9999) (hm : em ≤ 9999) (hk : ek ≤ 9999) (hg : -5 ≤ eg ∧ eg ≤ 5) (hpd : 0 ≤ pd ∧ pd ≤ 1000) (hpl : 0 ≤ pl ∧ pl ≤ 9) {m : am_M} (x24 : m arr 24 = (eb : Int)) (x25 : m arr 25 = (em : Int)) (x26 : m arr 26 = (ek : Int)) (x27 : m arr 27 = eg) (x28 : m arr 28 = (nt : Int)) (h30 : m 95 30 = pd) (h31 : m 95 31 = pl) {lx : Option am_V} {Q : Option am_V → am_M → Prop} (hQ : ∀ m1 : am_M, (∀ b, b ≠ arr → m1 b = m b) → (∀ j, j < 24 → m1 arr j = m arr j) → m1 arr 24 = max 0 (min 9999 ((eb : Int) + pl)) → m1 arr 25 = max 0 (min 9999 ((em : Int) + pd)) → m1 arr 26 = (if nt % 7 = 6 then max 0 (min 9999 ((ek : Int) + ((ek : Int) * eg).tdiv 10)) else (ek : Int)) → m1 arr 27 = eg → m1 arr 28 = ((nt + 1 : Nat) : Int) → Q none m1) : am_Rn l G mt_X9_goNight (d + 1) 39 [some (.inr (.inr 96)), some (.inr (.inr (arr + 1))), lx] [] m Q := by
  have hp : -50000 ≤ (ek : Int) * eg ∧ (ek : Int) * eg ≤ 50000 := by
    constructor
    · have : (ek : Int) * (-5) ≤ (ek : Int) * eg := Int.mul_le_mul_of_nonneg_left hg.1 (by omega)
      omega
    · have : (ek : Int) * eg ≤ (ek : Int) * 5 := Int.mul_le_mul_of_nonneg_left hg.2 (by omega)
      omega
  have ht : -50000 ≤ ((ek : Int) * eg).tdiv 10 ∧ ((ek : Int) * eg).tdiv 10 ≤ 50000 := by
    generalize (ek : Int) * eg = z at hp ⊢
    rw [am_td10]
    split <;> omega
  obtain ⟨V25, hV25⟩ : ∃ x, x = max 0 (min 9999 ((em : Int) + pd)) := ⟨_, rfl⟩
  obtain ⟨V24, hV24⟩ : ∃ x, x = max 0 (min 9999 ((eb : Int) + pl)) := ⟨_, rfl⟩
  obtain ⟨V26, hV26⟩ : ∃ x, x = max 0 (min 9999 ((ek : Int) + ((ek : Int) * eg).tdiv 10)) := ⟨_, rfl⟩
  rw [← hV24, ← hV25, ← hV26] at hQ
  by_cases h6 : nt % 7 = 6
  · rw [if_pos h6] at hQ
    refine rn_aload_n (x := arr) (q := 40) dX9_goNight_39 rfl rfl ?_
    refine rn_bipush (q := 42) dX9_goNight_40 ⟨by decide, by decide⟩ rfl ?_
    refine rn_aload_n (x := arr) (q := 43) dX9_goNight_42 rfl rfl ?_
    refine rn_bipush (q := 45) dX9_goNight_43 ⟨by decide, by decide⟩ rfl ?_
    refine rn_ialdV (a := arr) (v := (em : Int)) (q := 46) dX9_goNight_45 ha (by omega) (by omega) x25 rfl ?_
    refine rn_aload_n (x := 95) (q := 47) dX9_goNight_46 rfl rfl ?_
    refine rn_get (a := 95) (v := .inl pd) (q := 50) dX9_goNight_47 fl_X9_255 rfl (am_gi h30) rfl ?_
    refine rn_iaddN (z := (em : Int) + pd) (q := 51) dX9_goNight_50 (by omega) (by unfold am_ok; omega) rfl ?_
    refine rn_callS (as := [.inl ((em : Int) + pd)]) (rest := [.inl 25, .inr (.inr (arr + 1))]) (q := 54) dX9_goNight_51 ml_X9_262 sm_X9_full (by omega) rfl rfl (Nat.le_of_ble_eq_true rfl) rfl (s_full (d := d) ((em : Int) + pd)) ?_
    intro r51 mem51 hq51
    obtain ⟨rfl, rfl⟩ := hq51
    show am_Rn l G _ _ 54 [some (.inr (.inr 96)), some (.inr (.inr (arr + 1))), lx] [.inl (max 0 (min 9999 ((em : Int) + pd))), .inl 25, .inr (.inr (arr + 1))] m _
    rw [← hV25]
    refine rn_iastV (a := arr) (m1 := am_up m arr 25 V25) (q := 55) dX9_goNight_54 ha (by omega) (by omega) rfl rfl ?_
    refine rn_aload_n (x := arr) (q := 56) dX9_goNight_55 rfl rfl ?_
    refine rn_bipush (q := 58) dX9_goNight_56 ⟨by decide, by decide⟩ rfl ?_
    refine rn_aload_n (x := arr) (q := 59) dX9_goNight_58 rfl rfl ?_
    refine rn_bipush (q := 61) dX9_goNight_59 ⟨by decide, by decide⟩ rfl ?_
    refine rn_ialdV (a := arr) (v := (eb : Int)) (q := 62) dX9_goNight_61 ha (by omega) (by omega) (by rw [am_up_neq (by decide)]; exact x24) rfl ?_
    refine rn_aload_n (x := 95) (q := 63) dX9_goNight_62 rfl rfl ?_
    refine rn_get (a := 95) (v := .inl pl) (q := 66) dX9_goNight_63 fl_X9_252 rfl (am_gi ((by rw [am_up_ne (fun q => a1 q.symm)]; exact h31) : am_up m arr 25 V25 95 31 = pl)) rfl ?_
    refine rn_iaddN (z := (eb : Int) + pl) (q := 67) dX9_goNight_66 (by omega) (by unfold am_ok; omega) rfl ?_
    refine rn_callS (as := [.inl ((eb : Int) + pl)]) (rest := [.inl 24, .inr (.inr (arr + 1))]) (q := 70) dX9_goNight_67 ml_X9_262 sm_X9_full (by omega) rfl rfl (Nat.le_of_ble_eq_true rfl) rfl (s_full (d := d) ((eb : Int) + pl)) ?_
    intro r67 mem67 hq67
    obtain ⟨rfl, rfl⟩ := hq67
    show am_Rn l G _ _ 70 [some (.inr (.inr 96)), some (.inr (.inr (arr + 1))), lx] [.inl (max 0 (min 9999 ((eb : Int) + pl))), .inl 24, .inr (.inr (arr + 1))] (am_up m arr 25 V25) _
    rw [← hV24]
    refine rn_iastV (a := arr) (m1 := am_up (am_up m arr 25 V25) arr 24 V24) (q := 71) dX9_goNight_70 ha (by omega) (by omega) rfl rfl ?_
    refine rn_aload_n (x := arr) (q := 72) dX9_goNight_71 rfl rfl ?_
    refine rn_bipush (q := 74) dX9_goNight_72 ⟨by decide, by decide⟩ rfl ?_
    refine rn_ialdV (a := arr) (v := (nt : Int)) (q := 75) dX9_goNight_74 ha (by omega) (by omega) (by rw [am_up_neq (by decide), am_up_neq (by decide)]; exact x28) rfl ?_
    refine rn_bipush (q := 77) dX9_goNight_75 ⟨by decide, by decide⟩ rfl ?_
    refine rn_iremN (z := ((nt % 7 : Nat) : Int)) (q := 78) dX9_goNight_77 (by decide) rfl (by unfold am_ok; omega) rfl ?_
    refine rn_bipush (q := 80) dX9_goNight_78 ⟨by decide, by decide⟩ rfl ?_
    refine rn_cmpne (t := 107) (q := 83) dX9_goNight_80 rfl rfl (fun h => absurd h (by omega)) (fun w80 => ?_)
    refine rn_aload_n (x := arr) (q := 84) dX9_goNight_83 rfl rfl ?_
    refine rn_bipush (q := 86) dX9_goNight_84 ⟨by decide, by decide⟩ rfl ?_
    refine rn_aload_n (x := arr) (q := 87) dX9_goNight_86 rfl rfl ?_
    refine rn_bipush (q := 89) dX9_goNight_87 ⟨by decide, by decide⟩ rfl ?_
    refine rn_ialdV (a := arr) (v := (ek : Int)) (q := 90) dX9_goNight_89 ha (by omega) (by omega) (by rw [am_up_neq (by decide), am_up_neq (by decide)]; exact x26) rfl ?_
    refine rn_aload_n (x := arr) (q := 91) dX9_goNight_90 rfl rfl ?_
    refine rn_bipush (q := 93) dX9_goNight_91 ⟨by decide, by decide⟩ rfl ?_
    refine rn_ialdV (a := arr) (v := (ek : Int)) (q := 94) dX9_goNight_93 ha (by omega) (by omega) (by rw [am_up_neq (by decide), am_up_neq (by decide)]; exact x26) rfl ?_
    refine rn_aload_n (x := arr) (q := 95) dX9_goNight_94 rfl rfl ?_
    refine rn_bipush (q := 97) dX9_goNight_95 ⟨by decide, by decide⟩ rfl ?_
    refine rn_ialdV (a := arr) (v := eg) (q := 98) dX9_goNight_97 ha (by omega) (by omega) (by rw [am_up_neq (by decide), am_up_neq (by decide)]; exact x27) rfl ?_
    refine rn_imulN (z := (ek : Int) * eg) (q := 99) dX9_goNight_98 rfl (by unfold am_ok; omega) rfl ?_
    refine rn_bipush (q := 101) dX9_goNight_99 ⟨by decide, by decide⟩ rfl ?_
    refine rn_idivN (z := ((ek : Int) * eg).tdiv 10) (q := 102) dX9_goNight_101 (by decide) rfl (by unfold am_ok; omega) rfl ?_
    refine rn_iaddN (z := (ek : Int) + ((ek : Int) * eg).tdiv 10) (q := 103) dX9_goNight_102 (by omega) (by unfold am_ok; omega) rfl ?_
    refine rn_callS (as := [.inl ((ek : Int) + ((ek : Int) * eg).tdiv 10)]) (rest := [.inl 26, .inr (.inr (arr + 1))]) (q := 106) dX9_goNight_103 ml_X9_262 sm_X9_full (by omega) rfl rfl (Nat.le_of_ble_eq_true rfl) rfl (s_full (d := d) ((ek : Int) + ((ek : Int) * eg).tdiv 10)) ?_
    intro r103 mem103 hq103
    obtain ⟨rfl, rfl⟩ := hq103
    show am_Rn l G _ _ 106 [some (.inr (.inr 96)), some (.inr (.inr (arr + 1))), lx] [.inl (max 0 (min 9999 ((ek : Int) + ((ek : Int) * eg).tdiv 10))), .inl 26, .inr (.inr (arr + 1))] (am_up (am_up m arr 25 V25) arr 24 V24) _
    rw [← hV26]
    refine rn_iastV (a := arr) (m1 := am_up (am_up (am_up m arr 25 V25) arr 24 V24) arr 26 V26) (q := 107) dX9_goNight_106 ha (by omega) (by omega) rfl rfl ?_
    refine rn_aload_n (x := arr) (q := 108) dX9_goNight_107 rfl rfl ?_
    refine rn_bipush (q := 110) dX9_goNight_108 ⟨by decide, by decide⟩ rfl ?_
    refine rn_dup2 (q := 111) dX9_goNight_110 rfl rfl rfl ?_
    refine rn_ialdV (a := arr) (v := (nt : Int)) (q := 112) dX9_goNight_111 ha (by omega) (by omega) (by rw [am_up_neq (by decide), am_up_neq (by decide), am_up_neq (by decide)]; exact x28) rfl ?_
    refine rn_iconst (q := 113) dX9_goNight_112 (am_okd rfl) rfl ?_
    refine rn_iaddN (z := ((nt + 1 : Nat) : Int)) (q := 114) dX9_goNight_113 (by omega) (by unfold am_ok; omega) rfl ?_
    refine rn_iastV (a := arr) (m1 := am_up (am_up (am_up (am_up m arr 25 V25) arr 24 V24) arr 26 V26) arr 28 ((nt + 1 : Nat) : Int)) (q := 115) dX9_goNight_114 ha (by omega) (by omega) rfl rfl ?_
    refine rn_vret dX9_goNight_115 rfl ?_
    refine hQ _ (fun b b1 => ?_) (fun j hj => ?_) ?_ ?_ ?_ ?_ am_up_self
    · rw [am_up_ne b1, am_up_ne b1, am_up_ne b1, am_up_ne b1]
    · rw [am_up_neq (by omega), am_up_neq (by omega), am_up_neq (by omega), am_up_neq (by omega)]
    · rw [am_up_neq (by decide), am_up_neq (by decide), am_up_self]
    · rw [am_up_neq (by decide), am_up_neq (by decide), am_up_neq (by decide), am_up_self]
    · rw [am_up_neq (by decide), am_up_self]
    · rw [am_up_neq (by decide), am_up_neq (by decide), am_up_neq (by decide), am_up_neq (by decide)]; exact x27
  · rw [if_neg h6] at hQ
    refine rn_aload_n (x := arr) (q := 40) dX9_goNight_39 rfl rfl ?_
    refine rn_bipush (q := 42) dX9_goNight_40 ⟨by decide, by decide⟩ rfl ?_
    refine rn_aload_n (x := arr) (q := 43) dX9_goNight_42 rfl rfl ?_
    refine rn_bipush (q := 45) dX9_goNight_43 ⟨by decide, by decide⟩ rfl ?_
    refine rn_ialdV (a := arr) (v := (em : Int)) (q := 46) dX9_goNight_45 ha (by omega) (by omega) x25 rfl ?_
    refine rn_aload_n (x := 95) (q := 47) dX9_goNight_46 rfl rfl ?_
    refine rn_get (a := 95) (v := .inl pd) (q := 50) dX9_goNight_47 fl_X9_255 rfl (am_gi h30) rfl ?_
    refine rn_iaddN (z := (em : Int) + pd) (q := 51) dX9_goNight_50 (by omega) (by unfold am_ok; omega) rfl ?_
    refine rn_callS (as := [.inl ((em : Int) + pd)]) (rest := [.inl 25, .inr (.inr (arr + 1))]) (q := 54) dX9_goNight_51 ml_X9_262 sm_X9_full (by omega) rfl rfl (Nat.le_of_ble_eq_true rfl) rfl (s_full (d := d) ((em : Int) + pd)) ?_
    intro r51 mem51 hq51
    obtain ⟨rfl, rfl⟩ := hq51
    show am_Rn l G _ _ 54 [some (.inr (.inr 96)), some (.inr (.inr (arr + 1))), lx] [.inl (max 0 (min 9999 ((em : Int) + pd))), .inl 25, .inr (.inr (arr + 1))] m _
    rw [← hV25]
    refine rn_iastV (a := arr) (m1 := am_up m arr 25 V25) (q := 55) dX9_goNight_54 ha (by omega) (by omega) rfl rfl ?_
    refine rn_aload_n (x := arr) (q := 56) dX9_goNight_55 rfl rfl ?_
    refine rn_bipush (q := 58) dX9_goNight_56 ⟨by decide, by decide⟩ rfl ?_
    refine rn_aload_n (x := arr) (q := 59) dX9_goNight_58 rfl rfl ?_
    refine rn_bipush (q := 61) dX9_goNight_59 ⟨by decide, by decide⟩ rfl ?_
    refine rn_ialdV (a := arr) (v := (eb : Int)) (q := 62) dX9_goNight_61 ha (by omega) (by omega) (by rw [am_up_neq (by decide)]; exact x24) rfl ?_
    refine rn_aload_n (x := 95) (q := 63) dX9_goNight_62 rfl rfl ?_
    refine rn_get (a := 95) (v := .inl pl) (q := 66) dX9_goNight_63 fl_X9_252 rfl (am_gi ((by rw [am_up_ne (fun q => a1 q.symm)]; exact h31) : am_up m arr 25 V25 95 31 = pl)) rfl ?_
    refine rn_iaddN (z := (eb : Int) + pl) (q := 67) dX9_goNight_66 (by omega) (by unfold am_ok; omega) rfl ?_
    refine rn_callS (as := [.inl ((eb : Int) + pl)]) (rest := [.inl 24, .inr (.inr (arr + 1))]) (q := 70) dX9_goNight_67 ml_X9_262 sm_X9_full (by omega) rfl rfl (Nat.le_of_ble_eq_true rfl) rfl (s_full (d := d) ((eb : Int) + pl)) ?_
    intro r67 mem67 hq67
    obtain ⟨rfl, rfl⟩ := hq67
    show am_Rn l G _ _ 70 [some (.inr (.inr 96)), some (.inr (.inr (arr + 1))), lx] [.inl (max 0 (min 9999 ((eb : Int) + pl))), .inl 24, .inr (.inr (arr + 1))] (am_up m arr 25 V25) _
    rw [← hV24]
    refine rn_iastV (a := arr) (m1 := am_up (am_up m arr 25 V25) arr 24 V24) (q := 71) dX9_goNight_70 ha (by omega) (by omega) rfl rfl ?_
    refine rn_aload_n (x := arr) (q := 72) dX9_goNight_71 rfl rfl ?_
    refine rn_bipush (q := 74) dX9_goNight_72 ⟨by decide, by decide⟩ rfl ?_
    refine rn_ialdV (a := arr) (v := (nt : Int)) (q := 75) dX9_goNight_74 ha (by omega) (by omega) (by rw [am_up_neq (by decide), am_up_neq (by decide)]; exact x28) rfl ?_
    refine rn_bipush (q := 77) dX9_goNight_75 ⟨by decide, by decide⟩ rfl ?_
    refine rn_iremN (z := ((nt % 7 : Nat) : Int)) (q := 78) dX9_goNight_77 (by decide) rfl (by unfold am_ok; omega) rfl ?_
    refine rn_bipush (q := 80) dX9_goNight_78 ⟨by decide, by decide⟩ rfl ?_
    refine rn_cmpne (t := 107) (q := 83) dX9_goNight_80 rfl rfl (fun w80 => ?_) (fun h => absurd h (by omega))
    refine rn_aload_n (x := arr) (q := 108) dX9_goNight_107 rfl rfl ?_
    refine rn_bipush (q := 110) dX9_goNight_108 ⟨by decide, by decide⟩ rfl ?_
    refine rn_dup2 (q := 111) dX9_goNight_110 rfl rfl rfl ?_
    refine rn_ialdV (a := arr) (v := (nt : Int)) (q := 112) dX9_goNight_111 ha (by omega) (by omega) (by rw [am_up_neq (by decide), am_up_neq (by decide)]; exact x28) rfl ?_
    refine rn_iconst (q := 113) dX9_goNight_112 (am_okd rfl) rfl ?_
    refine rn_iaddN (z := ((nt + 1 : Nat) : Int)) (q := 114) dX9_goNight_113 (by omega) (by unfold am_ok; omega) rfl ?_
    refine rn_iastV (a := arr) (m1 := am_up (am_up (am_up m arr 25 V25) arr 24 V24) arr 28 ((nt + 1 : Nat) : Int)) (q := 115) dX9_goNight_114 ha (by omega) (by omega) rfl rfl ?_
    refine rn_vret dX9_goNight_115 rfl ?_
    refine hQ _ (fun b b1 => ?_) (fun j hj => ?_) ?_ ?_ ?_ ?_ am_up_self
    · rw [am_up_ne b1, am_up_ne b1, am_up_ne b1]
    · rw [am_up_neq (by omega), am_up_neq (by omega), am_up_neq (by omega)]
    · rw [am_up_neq (by decide), am_up_self]
    · rw [am_up_neq (by decide), am_up_neq (by decide), am_up_self]
    · rw [am_up_neq (by decide), am_up_neq (by decide), am_up_neq (by decide)]; exact x26
    · rw [am_up_neq (by decide), am_up_neq (by decide), am_up_neq (by decide)]; exact x27
end P48
