/-! spring of the reference -/
section P9a
variable {l : Launch} {G : am_G} {d : Nat} {r : Nat} {X : List Nat} {C : List Int} {sn : Nat} {sg : Nat → Nat} {h : hrs} {e : est} {NB : Nat} {mem m : am_M}
variable {T : List Nat} {U : List est} {R : List Int} {M : am_M}
theorem fr_n9.of96 (f : ∀ b, b ≠ 96 → m b = mem b) : fr_n9 96 mem m := ⟨fun b _ _ _ _ h => f b h, fun k _ _ _ => by rw [f 95 (by decide)]⟩
theorem turn_e9 (q : DQ X sn sg h e NB mem) (k : Nat) (hn : k < h.1) : m_est (turnE h e (k : Int)) 96 0 (am_up mem 96 (16 + k) (1 - if (eP e).testBit k then 1 else 0)) := by
  have b := q.bd
  have e1 : turnE h e (k : Int) = (eH e, eS e, Nat.xor (eP e) (2 ^ k), eN e, eB e, eM e, eK e, eG e) := by unfold turnE; rw [if_pos ⟨by omega, by omega⟩, Int.toNat_natCast]
  rw [e1]
  have A := q.es.a
  refine m_est_of (fun j hj => ?_) (fun j hj => ?_) (fun j hj => ?_) ?_ ?_ ?_ ?_ ?_
  · rw [am_up_neq (by omega)]; exact A.1 j hj
  · rw [am_up_neq (by omega)]; exact A.2.1 j hj
  · rw [am_up_at]
    show _ = if (Nat.xor (eP e) (2 ^ k)).testBit j then (1 : Int) else 0
    have ex : (Nat.xor (eP e) (2 ^ k)).testBit j = ((eP e).testBit j ^^ decide (k = j)) := by
      show ((eP e) ^^^ (2 ^ k)).testBit j = _
      rw [Nat.testBit_xor, Nat.testBit_two_pow]
    rw [ex]
    by_cases hj2 : j = k
    · subst hj2
      rw [if_pos rfl]
      cases (eP e).testBit j <;> simp
    · rw [if_neg (by omega), A.2.2.1 j hj]
      have : decide (k = j) = false := by simp; omega
      rw [this]
      cases (eP e).testBit j <;> simp
  · rw [am_up_neq (by omega)]; exact A.2.2.2.1
  · rw [am_up_neq (by omega)]; exact A.2.2.2.2.1
  · rw [am_up_neq (by omega)]; exact A.2.2.2.2.2.1
  · rw [am_up_neq (by omega)]; exact A.2.2.2.2.2.2.1
  · rw [am_up_neq (by omega)]; exact A.2.2.2.2.2.2.2
theorem adv_est (q : DQ X sn sg h e NB mem) (n : Int) (hn : n ≤ (eB e : Int)) : m_est (eH e, eS e, eP e, eN e, ((eB e : Int) - n).toNat, eM e, eK e, eG e) 96 0 (am_up mem 96 24 ((eB e : Int) - n)) := by
  have A := q.es.a
  refine m_est_of (fun j hj => ?_) (fun j hj => ?_) (fun j hj => ?_) ?_ ?_ ?_ ?_ ?_
  · rw [am_up_neq (by omega)]; exact A.1 j hj
  · rw [am_up_neq (by omega)]; exact A.2.1 j hj
  · rw [am_up_neq (by omega)]; exact A.2.2.1 j hj
  · show (eB e : Int) - n = ((((eB e : Int) - n).toNat : Nat) : Int); omega
  · exact A.2.2.2.2.1
  · exact A.2.2.2.2.2.1
  · exact A.2.2.2.2.2.2.1
  · exact A.2.2.2.2.2.2.2
def acM (X : List Nat) (h : hrs) (sn : Nat) (sg : Nat → Nat) (c d1 d2 : Nat) (e : est) (mem : am_M) : Option am_V → am_M → Prop := fun q m => ∃ v e2, actP X h sn sg c d1 d2 e v e2 ∧ q = some (.inl (if 0 ≤ v then 1 else 0)) ∧ m_est e2 96 0 m ∧ fr_n9 96 mem m
theorem ac_no {c d1 d2 : Nat} (q : DQ X sn sg h e NB mem) {v : Int} {e2 : est} (hv : v < 0) (hp : actP X h sn sg c d1 d2 e v e2) : acM X h sn sg c d1 d2 e mem (some (.inl 0)) mem := by
  have := actP_neg hp hv
  subst this
  exact ⟨v, e2, hp, by rw [if_neg (by omega)], q.es, fr_n9.rf⟩
theorem ac_yes {c d1 d2 : Nat} {v : Int} {e2 : est} (hv : 0 ≤ v) (hp : actP X h sn sg c d1 d2 e v e2) (hE : m_est e2 96 0 m) (hf : fr_n9 96 mem m) : acM X h sn sg c d1 d2 e mem (some (.inl 1)) m := ⟨v, e2, hp, by rw [if_pos hv], hE, hf⟩
theorem m_act (q : DQ X sn sg h e NB mem) (c d1 d2 : Nat) (bb : Int) (h9 : d1 ≤ 9) (hd : c = 104 → bb = (d2 : Int)) (hc : c = 104 ∨ c = 110 ∨ c = 99 ∨ c = 115 ∨ c = 98 ∨ c = 97) : am_Sm l G yX9_act mt_X9_act (d + 180) [.inr (.inr 96), .inl (c : Int), .inl (d1 : Int), .inl bb] mem (acM X h sn sg c d1 d2 e mem) := by
  refine am_enterQ (ls := [some (.inr (.inr 96)), some (.inl (c : Int)), some (.inl (d1 : Int)), some (.inl bb), none]) (by decide) rfl (Nat.le_of_ble_eq_true rfl) rfl (fun hok Q hQ => ?_)
  have b := q.bd
  rcases hc with rfl | rfl | rfl | rfl | rfl | rfl
  · obtain rfl := hd rfl
    by_cases hn : humR h e (d1 : Int) (d2 : Int)
    · have hn2 : ((0 ≤ (d1 : Int) ∧ (d1 : Int) < h.1) ∧ 1 ≤ (d2 : Int) ∧ (d2 : Int) ≤ 9) ∧ (d2 : Int) ≤ (eB e : Int) := hn
      refine rn_iload_n (x := 104) (q := 1) dX9_act_0 rfl rfl ?_
      refine rn_look (o1 := 86) (t := 87) dX9_act_1 rfl rfl rfl ?_
      refine rn_aload_n (x := 95) (q := 88) dX9_act_87 rfl rfl ?_
      refine rn_aload_n (x := 95) (q := 89) dX9_act_88 rfl rfl ?_
      refine rn_get (a := 95) (v := .inr (.inr 97)) (q := 92) dX9_act_89 fl_X9_9 rfl rfl rfl ?_
      refine rn_iload_n (x := (d1 : Int)) (q := 93) dX9_act_92 rfl rfl ?_
      refine rn_iload_n (x := (d2 : Int)) (q := 94) dX9_act_93 rfl rfl ?_
      refine rn_callV (b := 95) (as := [.inr (.inr 97), .inl (d1 : Int), .inl (d2 : Int)]) (rest := []) (q := 97) dX9_act_94 ml_X9_279 sm_X9_refusesHum rfl rfl (by decide) (by omega) rfl rfl (Nat.le_of_ble_eq_true rfl) rfl (m_refHumY (d := d + 177) q (d1 : Int) (d2 : Int) hn) ?_
      intro r94 mem94 hq94
      obtain ⟨rfl, rfl⟩ := hq94
      show am_Rn l G _ _ 97 [some (.inr (.inr 96)), some (.inl 104), some (.inl (d1 : Int)), some (.inl (d2 : Int)), none] [.inl 0] mem _
      refine rn_ifge (t := 102) (q := 100) dX9_act_97 rfl rfl (fun w97 => ?_) (fun h => absurd h (by decide))
      refine rn_aload_n (x := 95) (q := 103) dX9_act_102 rfl rfl ?_
      refine rn_aload_n (x := 95) (q := 104) dX9_act_103 rfl rfl ?_
      refine rn_get (a := 95) (v := .inr (.inr 97)) (q := 107) dX9_act_104 fl_X9_9 rfl rfl rfl ?_
      refine rn_iload_n (x := (d1 : Int)) (q := 108) dX9_act_107 rfl rfl ?_
      refine rn_iload_n (x := (d2 : Int)) (q := 109) dX9_act_108 rfl rfl ?_
      refine rn_callV (b := 95) (as := [.inr (.inr 97), .inl (d1 : Int), .inl (d2 : Int)]) (rest := []) (q := 112) dX9_act_109 ml_X9_283 sm_X9_goHum rfl rfl (by decide) (by omega) rfl rfl (Nat.le_of_ble_eq_true rfl) rfl (m_goHum (d := d + 178) q d1 d2 (by omega) (by omega) (by omega)) ?_
      intro r109 mem109 hq109
      obtain ⟨rfl, he109, hf109⟩ := hq109
      show am_Rn l G _ _ 112 [some (.inr (.inr 96)), some (.inl 104), some (.inl (d1 : Int)), some (.inl (d2 : Int)), none] [] mem109 _
      refine rn_iconst (q := 113) dX9_act_112 (am_okd rfl) rfl ?_
      refine rn_zret dX9_act_113 rfl (by omega) ?_
      exact hQ _ _ (ac_yes (v := (eM (humU h e d1 d2) : Int)) (by omega) (Or.inr (Or.inr ⟨hn, rfl, rfl⟩)) he109 (fr_n9.of96 hf109))
    · refine rn_iload_n (x := 104) (q := 1) dX9_act_0 rfl rfl ?_
      refine rn_look (o1 := 86) (t := 87) dX9_act_1 rfl rfl rfl ?_
      refine rn_aload_n (x := 95) (q := 88) dX9_act_87 rfl rfl ?_
      refine rn_aload_n (x := 95) (q := 89) dX9_act_88 rfl rfl ?_
      refine rn_get (a := 95) (v := .inr (.inr 97)) (q := 92) dX9_act_89 fl_X9_9 rfl rfl rfl ?_
      refine rn_iload_n (x := (d1 : Int)) (q := 93) dX9_act_92 rfl rfl ?_
      refine rn_iload_n (x := (d2 : Int)) (q := 94) dX9_act_93 rfl rfl ?_
      refine rn_callV (b := 95) (as := [.inr (.inr 97), .inl (d1 : Int), .inl (d2 : Int)]) (rest := []) (q := 97) dX9_act_94 ml_X9_279 sm_X9_refusesHum rfl rfl (by decide) (by omega) rfl rfl (Nat.le_of_ble_eq_true rfl) rfl (m_refHumN (d := d + 177) q (d1 : Int) (d2 : Int) hn) ?_
      intro r94 mem94 hq94
      obtain ⟨v, rfl, hv, hp, rfl⟩ := hq94
      show am_Rn l G _ _ 97 [some (.inr (.inr 96)), some (.inl 104), some (.inl (d1 : Int)), some (.inl (d2 : Int)), none] [.inl v] mem _
      refine rn_ifge (t := 102) (q := 100) dX9_act_97 rfl rfl (fun h => absurd h (by omega)) (fun w97 => ?_)
      refine rn_iconst (q := 101) dX9_act_100 (am_okd rfl) rfl ?_
      refine rn_zret dX9_act_101 rfl (by omega) ?_
      exact hQ _ _ (ac_no q hv hp)
  · refine rn_iload_n (x := 110) (q := 1) dX9_act_0 rfl rfl ?_
    refine rn_look (o1 := 43) (t := 44) dX9_act_1 rfl rfl rfl ?_
    refine rn_aload_n (x := 95) (q := 45) dX9_act_44 rfl rfl ?_
    refine rn_aload_n (x := 95) (q := 46) dX9_act_45 rfl rfl ?_
    refine rn_get (a := 95) (v := .inr (.inr 97)) (q := 49) dX9_act_46 fl_X9_9 rfl rfl rfl ?_
    refine rn_iload_n (x := (d1 : Int)) (q := 50) dX9_act_49 rfl rfl ?_
    refine rn_callV (b := 95) (as := [.inr (.inr 97), .inl (d1 : Int)]) (rest := []) (q := 53) dX9_act_50 ml_X9_271 sm_X9_goNights rfl rfl (by decide) (by omega) rfl rfl (Nat.le_of_ble_eq_true rfl) rfl (m_goNightsN (d := d + 0) q d1 (by omega)) ?_
    intro r50 mem50 hq50
    obtain ⟨rfl, he50, hf50⟩ := hq50
    show am_Rn l G _ _ 53 [some (.inr (.inr 96)), some (.inl 110), some (.inl (d1 : Int)), some (.inl bb), none] [] mem50 _
    refine rn_iconst (q := 54) dX9_act_53 (am_okd rfl) rfl ?_
    refine rn_zret dX9_act_54 rfl (by omega) ?_
    exact hQ _ _ (ac_yes (v := (eB (itE X h sn sg e d1) : Int)) (by omega) ⟨rfl, rfl⟩ he50 hf50)
  · have e1 : ¬ (d1 < h.1) → turnE h e (d1 : Int) = e := fun z => by unfold turnE; rw [if_neg (by omega)]
    have e3 : ¬ (d1 < h.1) → turnA h e (d1 : Int) = -1 := fun z => by unfold turnA; rw [if_neg (by omega)]
    have e4 : d1 < h.1 → 0 ≤ turnA h e (d1 : Int) := fun z => by unfold turnA; rw [if_pos (by omega)]; omega
    refine rn_iload_n (x := 99) (q := 1) dX9_act_0 rfl rfl ?_
    refine rn_look (o1 := 54) (t := 55) dX9_act_1 rfl rfl rfl ?_
    refine rn_aload_n (x := 95) (q := 56) dX9_act_55 rfl rfl ?_
    refine rn_iload_n (x := (d1 : Int)) (q := 57) dX9_act_56 rfl rfl ?_
    refine rn_callV (b := 95) (as := [.inl (d1 : Int)]) (rest := []) (q := 60) dX9_act_57 ml_X9_234 sm_X9_isMan rfl rfl (by decide) (by omega) rfl rfl (Nat.le_of_ble_eq_true rfl) rfl (s_isMan9 (d := d + 178) q (d1 : Int)) ?_
    intro r57 mem57 hq57
    obtain ⟨⟨rfl, hh57⟩ | ⟨rfl, hh57⟩, rfl⟩ := hq57
    · show am_Rn l G _ _ 60 [some (.inr (.inr 96)), some (.inl 99), some (.inl (d1 : Int)), some (.inl bb), none] [.inl 1] mem _
      refine rn_ifne (t := 65) (q := 63) dX9_act_60 rfl rfl (fun w60 => ?_) (fun h => absurd h (by decide))
      refine rn_aload_n (x := 95) (q := 66) dX9_act_65 rfl rfl ?_
      refine rn_get (a := 95) (v := .inr (.inr 97)) (q := 69) dX9_act_66 fl_X9_9 rfl rfl rfl ?_
      refine rn_bipush (q := 71) dX9_act_69 ⟨by decide, by decide⟩ rfl ?_
      refine rn_iload_n (x := (d1 : Int)) (q := 72) dX9_act_71 rfl rfl ?_
      refine rn_iaddN (z := ((16 + d1 : Nat) : Int)) (q := 73) dX9_act_72 (by omega) (by unfold am_ok; omega) rfl ?_
      refine rn_iconst (q := 74) dX9_act_73 (am_okd rfl) rfl ?_
      refine rn_aload_n (x := 95) (q := 75) dX9_act_74 rfl rfl ?_
      refine rn_get (a := 95) (v := .inr (.inr 97)) (q := 78) dX9_act_75 fl_X9_9 rfl rfl rfl ?_
      refine rn_bipush (q := 80) dX9_act_78 ⟨by decide, by decide⟩ rfl ?_
      refine rn_iload_n (x := (d1 : Int)) (q := 81) dX9_act_80 rfl rfl ?_
      refine rn_iaddN (z := ((16 + d1 : Nat) : Int)) (q := 82) dX9_act_81 (by omega) (by unfold am_ok; omega) rfl ?_
      refine rn_ialdV (a := 96) (v := (if (eP e).testBit d1 then 1 else 0)) (q := 83) dX9_act_82 rfl (by omega) (by omega) (q.pr (by omega)) rfl ?_
      refine rn_isubN (z := (1 - if (eP e).testBit d1 then 1 else 0)) (q := 84) dX9_act_83 (by omega) (by unfold am_ok; omega) rfl ?_
      refine rn_iastV (a := 96) (m1 := am_up mem 96 (16 + d1) (1 - if (eP e).testBit d1 then 1 else 0)) (q := 85) dX9_act_84 rfl (by omega) (by omega) rfl rfl ?_
      refine rn_iconst (q := 86) dX9_act_85 (am_okd rfl) rfl ?_
      refine rn_zret dX9_act_86 rfl (by omega) ?_
      exact hQ _ _ (ac_yes (v := turnA h e (d1 : Int)) (e4 (by omega)) ⟨rfl, rfl⟩ (turn_e9 q d1 (by omega)) (fr_n9.of96 (fun b2 hb => am_up_ne hb)))
    · show am_Rn l G _ _ 60 [some (.inr (.inr 96)), some (.inl 99), some (.inl (d1 : Int)), some (.inl bb), none] [.inl 0] mem _
      refine rn_ifne (t := 65) (q := 63) dX9_act_60 rfl rfl (fun h => absurd h (by decide)) (fun w60 => ?_)
      refine rn_iconst (q := 64) dX9_act_63 (am_okd rfl) rfl ?_
      refine rn_zret dX9_act_64 rfl (by omega) ?_
      exact hQ _ _ (ac_no q (v := turnA h e (d1 : Int)) (by rw [e3 (by omega)]; decide) ⟨rfl, rfl⟩)
  · refine rn_iload_n (x := 115) (q := 1) dX9_act_0 rfl rfl ?_
    refine rn_look (o1 := 136) (t := 137) dX9_act_1 rfl rfl rfl ?_
    refine rn_iload_n (x := 115) (q := 138) dX9_act_137 rfl rfl ?_
    refine rn_bipush (q := 140) dX9_act_138 ⟨by decide, by decide⟩ rfl ?_
    refine rn_cmpne (t := 147) (q := 143) dX9_act_140 rfl rfl (fun h => absurd h (by decide)) (fun w140 => ?_)
    refine rn_iload_n (x := (d1 : Int)) (q := 144) dX9_act_143 rfl rfl ?_
    refine rn_goto (t := 149) dX9_act_144 rfl ?_
    refine rn_istore (ls' := [some (.inr (.inr 96)), some (.inl 115), some (.inl (d1 : Int)), some (.inl bb), some (.inl (d1 : Int))]) (q := 151) dX9_act_149 (by decide) rfl rfl ?_
    refine rn_aload_n (x := 95) (q := 152) dX9_act_151 rfl rfl ?_
    refine rn_iload (x := (d1 : Int)) (q := 154) dX9_act_152 rfl rfl ?_
    refine rn_callV (b := 95) (as := [.inl (d1 : Int)]) (rest := []) (q := 157) dX9_act_154 ml_X9_287 sm_X9_refusesStake rfl rfl (by decide) (by omega) rfl rfl (Nat.le_of_ble_eq_true rfl) rfl (m_refusesStake (d := d + 178) q (d1 : Int)) ?_
    intro r154 mem154 hq154
    obtain ⟨v, rfl, rfl, hp⟩ := hq154
    show am_Rn l G _ _ 157 [some (.inr (.inr 96)), some (.inl 115), some (.inl (d1 : Int)), some (.inl bb), some (.inl (d1 : Int))] [.inl v] mem _
    refine rn_ifge (t := 162) (q := 160) dX9_act_157 rfl rfl (fun w157 => ?_) (fun w157 => ?_)
    · refine rn_aload_n (x := 95) (q := 163) dX9_act_162 rfl rfl ?_
      refine rn_iload (x := (d1 : Int)) (q := 165) dX9_act_163 rfl rfl ?_
      refine rn_callV (b := 95) (as := [.inl (d1 : Int)]) (rest := []) (q := 168) dX9_act_165 ml_X9_290 sm_X9_goStake rfl rfl (by decide) (by omega) rfl rfl (Nat.le_of_ble_eq_true rfl) rfl (m_goStake (d := d + 179) q (d1 : Int) (by omega) (by omega) (by omega)) ?_
      intro r165 mem165 hq165
      obtain ⟨rfl, he165, hf165⟩ := hq165
      show am_Rn l G _ _ 168 [some (.inr (.inr 96)), some (.inl 115), some (.inl (d1 : Int)), some (.inl bb), some (.inl (d1 : Int))] [] mem165 _
      refine rn_iconst (q := 169) dX9_act_168 (am_okd rfl) rfl ?_
      refine rn_zret dX9_act_169 rfl (by omega) ?_
      exact hQ _ _ (ac_yes (v := (eK e : Int) + (d1 : Int)) (by omega) (Or.inr (Or.inr (Or.inr ⟨by omega, by omega, by omega, by omega, by omega, rfl, rfl⟩))) he165 (fr_n9.of96 hf165))
    · refine rn_iconst (q := 161) dX9_act_160 (am_okd rfl) rfl ?_
      refine rn_zret dX9_act_161 rfl (by omega) ?_
      rcases hp with ⟨a, hp⟩ | ⟨a, -⟩
      · exact hQ _ _ (ac_no q a hp)
      · omega
  · refine rn_iload_n (x := 98) (q := 1) dX9_act_0 rfl rfl ?_
    refine rn_look (o1 := 136) (t := 137) dX9_act_1 rfl rfl rfl ?_
    refine rn_iload_n (x := 98) (q := 138) dX9_act_137 rfl rfl ?_
    refine rn_bipush (q := 140) dX9_act_138 ⟨by decide, by decide⟩ rfl ?_
    refine rn_cmpne (t := 147) (q := 143) dX9_act_140 rfl rfl (fun w140 => ?_) (fun h => absurd h (by decide))
    refine rn_iload_n (x := (d1 : Int)) (q := 148) dX9_act_147 rfl rfl ?_
    refine rn_inegN (z := (-(d1 : Int))) (q := 149) dX9_act_148 rfl (by unfold am_ok; omega) rfl ?_
    refine rn_istore (ls' := [some (.inr (.inr 96)), some (.inl 98), some (.inl (d1 : Int)), some (.inl bb), some (.inl (-(d1 : Int)))]) (q := 151) dX9_act_149 (by decide) rfl rfl ?_
    refine rn_aload_n (x := 95) (q := 152) dX9_act_151 rfl rfl ?_
    refine rn_iload (x := (-(d1 : Int))) (q := 154) dX9_act_152 rfl rfl ?_
    refine rn_callV (b := 95) (as := [.inl (-(d1 : Int))]) (rest := []) (q := 157) dX9_act_154 ml_X9_287 sm_X9_refusesStake rfl rfl (by decide) (by omega) rfl rfl (Nat.le_of_ble_eq_true rfl) rfl (m_refusesStake (d := d + 178) q (-(d1 : Int))) ?_
    intro r154 mem154 hq154
    obtain ⟨v, rfl, rfl, hp⟩ := hq154
    show am_Rn l G _ _ 157 [some (.inr (.inr 96)), some (.inl 98), some (.inl (d1 : Int)), some (.inl bb), some (.inl (-(d1 : Int)))] [.inl v] mem _
    refine rn_ifge (t := 162) (q := 160) dX9_act_157 rfl rfl (fun w157 => ?_) (fun w157 => ?_)
    · refine rn_aload_n (x := 95) (q := 163) dX9_act_162 rfl rfl ?_
      refine rn_iload (x := (-(d1 : Int))) (q := 165) dX9_act_163 rfl rfl ?_
      refine rn_callV (b := 95) (as := [.inl (-(d1 : Int))]) (rest := []) (q := 168) dX9_act_165 ml_X9_290 sm_X9_goStake rfl rfl (by decide) (by omega) rfl rfl (Nat.le_of_ble_eq_true rfl) rfl (m_goStake (d := d + 179) q (-(d1 : Int)) (by omega) (by omega) (by omega)) ?_
      intro r165 mem165 hq165
      obtain ⟨rfl, he165, hf165⟩ := hq165
      show am_Rn l G _ _ 168 [some (.inr (.inr 96)), some (.inl 98), some (.inl (d1 : Int)), some (.inl bb), some (.inl (-(d1 : Int)))] [] mem165 _
      refine rn_iconst (q := 169) dX9_act_168 (am_okd rfl) rfl ?_
      refine rn_zret dX9_act_169 rfl (by omega) ?_
      exact hQ _ _ (ac_yes (v := (eK e : Int) + -(d1 : Int)) (by omega) (Or.inr (Or.inr (Or.inr ⟨by omega, by omega, by omega, by omega, by omega, rfl, rfl⟩))) he165 (fr_n9.of96 hf165))
    · refine rn_iconst (q := 161) dX9_act_160 (am_okd rfl) rfl ?_
      refine rn_zret dX9_act_161 rfl (by omega) ?_
      rcases hp with ⟨a, hp⟩ | ⟨a, -⟩
      · exact hQ _ _ (ac_no q a hp)
      · omega
  · refine rn_iload_n (x := 97) (q := 1) dX9_act_0 rfl rfl ?_
    refine rn_look (o1 := 113) (t := 114) dX9_act_1 rfl rfl rfl ?_
    refine rn_aload_n (x := 95) (q := 115) dX9_act_114 rfl rfl ?_
    refine rn_iload_n (x := (d1 : Int)) (q := 116) dX9_act_115 rfl rfl ?_
    refine rn_callV (b := 95) (as := [.inl (d1 : Int)]) (rest := []) (q := 119) dX9_act_116 ml_X9_293 sm_X9_refusesAdvance rfl rfl (by decide) (by omega) rfl rfl (Nat.le_of_ble_eq_true rfl) rfl (m_refusesAdvance (d := d + 178) q (d1 : Int)) ?_
    intro r116 mem116 hq116
    obtain ⟨v, rfl, rfl, hp⟩ := hq116
    show am_Rn l G _ _ 119 [some (.inr (.inr 96)), some (.inl 97), some (.inl (d1 : Int)), some (.inl bb), none] [.inl v] mem _
    refine rn_ifge (t := 124) (q := 122) dX9_act_119 rfl rfl (fun w119 => ?_) (fun w119 => ?_)
    · refine rn_aload_n (x := 95) (q := 125) dX9_act_124 rfl rfl ?_
      refine rn_get (a := 95) (v := .inr (.inr 97)) (q := 128) dX9_act_125 fl_X9_9 rfl rfl rfl ?_
      refine rn_bipush (q := 130) dX9_act_128 ⟨by decide, by decide⟩ rfl ?_
      refine rn_dup2 (q := 131) dX9_act_130 rfl rfl rfl ?_
      refine rn_ialdV (a := 96) (v := (eB e : Int)) (q := 132) dX9_act_131 rfl (by omega) (by omega) q.bk rfl ?_
      refine rn_iload_n (x := (d1 : Int)) (q := 133) dX9_act_132 rfl rfl ?_
      refine rn_isubN (z := ((eB e : Int) - (d1 : Int))) (q := 134) dX9_act_133 rfl (by unfold am_ok; omega) rfl ?_
      refine rn_iastV (a := 96) (m1 := am_up mem 96 24 ((eB e : Int) - (d1 : Int))) (q := 135) dX9_act_134 rfl (by omega) (by omega) rfl rfl ?_
      refine rn_iconst (q := 136) dX9_act_135 (am_okd rfl) rfl ?_
      refine rn_zret dX9_act_136 rfl (by omega) ?_
      exact hQ _ _ (ac_yes (v := (eB e : Int) - (d1 : Int)) (by omega) (Or.inr (Or.inr ⟨by omega, by omega, rfl, rfl⟩)) (adv_est q (d1 : Int) (by omega)) (fr_n9.of96 (fun b2 hb => am_up_ne hb)))
    · refine rn_iconst (q := 123) dX9_act_122 (am_okd rfl) rfl ?_
      refine rn_zret dX9_act_123 rfl (by omega) ?_
      rcases hp with ⟨a, hp⟩ | ⟨a, -⟩
      · exact hQ _ _ (ac_no q a hp)
      · omega
end P9a
