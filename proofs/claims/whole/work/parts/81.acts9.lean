/-! acts of the reference: nights, comes, hum, stake, gain, advance, undo -/
theorem m_est_of {e : est} {a : Nat} {mem : am_M} (h0 : ∀ i, i < 8 → mem a i = (eH e i : Int)) (h1 : ∀ i, i < 8 → mem a (8 + i) = (eS e i : Int)) (h2 : ∀ i, i < 8 → mem a (16 + i) = if (eP e).testBit i then 1 else 0) (h3 : mem a 24 = (eB e : Int)) (h4 : mem a 25 = (eM e : Int)) (h5 : mem a 26 = (eK e : Int)) (h6 : mem a 27 = eG e) (h7 : mem a 28 = (eN e : Int)) : m_est e a 0 mem := by
  unfold m_est
  simp only [Nat.zero_add]
  exact ⟨h0, h1, h2, h3, h4, h5, h6, h7⟩
theorem fr_n9.to9a {mem m : am_M} (f : fr_n9 96 mem m) : frS s9a mem m := by
  intro b k hb
  unfold s9a s9r s9 at hb
  simp [ble_f] at hb
  by_cases h95 : b = 95
  · subst h95; exact f.2 k (by omega) (by omega) (by omega)
  · rw [f.1 b h95 (by omega) (by omega) (by omega) (by omega)]
theorem fr_rem {mem m : am_M} (f : ∀ b, b ≠ 107 → b ≠ 95 → m b = mem b) (g : ∀ k, k ≠ 24 → m 95 k = mem 95 k) : frS s9a mem m := by
  intro b k hb
  unfold s9a at hb
  simp [ble_f] at hb
  by_cases h95 : b = 95
  · subst h95; exact g k (by omega)
  · rw [f b (by omega) h95]
theorem fr_96 {mem m : am_M} (f : ∀ b, b ≠ 96 → m b = mem b) : frS s9a mem m := by
  intro b k hb
  unfold s9a at hb
  simp [ble_f] at hb
  rw [f b (by omega)]
section P81
variable {l : Launch} {G : am_G} {d : Nat} {r : Nat} {X : List Nat} {C : List Int} {sn : Nat} {sg : Nat → Nat} {h : hrs} {e : est} {NB : Nat} {mem m : am_M}
variable {e2 : est} {U : List est} {R : List Int}
theorem DQ.setE (q : DQ X sn sg h e NB mem) {NB2 : Nat} (hE : m_est e2 96 0 m) (he : e_ok h.1 NB2 e2) (hN : NB2 < 900000) (f : frS s9a mem m) : DQ X sn sg h e2 NB2 m := by
  obtain ⟨q1, q2, q3, q5, q6, q7, q8⟩ := q
  exact ⟨q1, ⟨q2.1, (f 95 18 rfl).trans q2.2.1, (f 95 20 rfl).trans q2.2.2.1, fun j hj => (f 104 j rfl).trans (q2.2.2.2 j hj)⟩, (f 95 21 rfl).trans q3, ⟨(f 95 6 rfl).trans q5.1, q5.2.1, q5.2.2.1, q5.2.2.2.1, fun i hi => (f 100 i rfl).trans (q5.2.2.2.2 i hi)⟩, ⟨q6.1, (f 95 1 rfl).trans q6.2.1, fun i hi => ⟨(f 97 i rfl).trans (q6.2.2 i hi).1, (f 98 i rfl).trans (q6.2.2 i hi).2.1, (f 99 i rfl).trans (q6.2.2 i hi).2.2⟩⟩, hE, he, hN⟩
theorem m_remQ (q : DQ X sn sg h e NB mem) (hU : m_undo U mem) : am_Sm l G yX9_remember mt_X9_remember (d + 1) [.inr (.inr 96), .inr (.inr 97)] mem (fun r m => r = none ∧ m_undo (pushU U e) m ∧ DQ X sn sg h e NB m ∧ (∀ b, b ≠ 107 → b ≠ 95 → m b = mem b) ∧ ∀ k, k ≠ 24 → m 95 k = mem 95 k) := by
  refine am_Sm_mono (s_remember hU 96 rfl (by decide) q.es) (fun r m hq => ?_)
  obtain ⟨h1, h2, h3, h4⟩ := hq
  exact ⟨h1, h2, q.setE (q.es.kept (h3 96 (by decide) (by decide))) q.eo q.2.2.2.2.2.2.2 (fr_rem h3 h4), h3, h4⟩
theorem act_no9 (q : DQ X sn sg h e NB mem) (hR : m_row R mem) (hU : m_undo U mem) {v : Int} : AM v e U R mem (some (.inl v)) (am_up mem 95 11 0) := ⟨rfl, q.es.kept rfl, hU.keptU rfl rfl, hR, frS.rf.up rfl⟩
theorem act_end9 (hR : m_row R mem) {m1 m2 : am_M} {v : Int} (hu : m_undo (pushU U e) m1) (f1 : ∀ b, b ≠ 107 → b ≠ 95 → m1 b = am_up mem 95 11 0 b) (g1 : ∀ k, k ≠ 24 → m1 95 k = am_up mem 95 11 0 95 k) (h2 : m_est e2 96 0 m2) (f2 : ∀ b, b ≠ 96 → m2 b = m1 b) : AM v e2 (pushU U e) R mem (some (.inl v)) m2 := by
  refine ⟨rfl, h2, hu.keptU (f2 107 (by decide)) (by rw [f2 95 (by decide)]), ⟨?_, hR.2.1, fun i hi => ?_⟩, ?_⟩
  · rw [f2 95 (by decide), g1 10 (by decide)]; exact hR.1
  · rw [f2 102 (by decide), f1 102 (by decide) (by decide)]; exact hR.2.2 i hi
  · exact (frS.tr (frS.rf.up (a := 95) (k := 11) (x := 0) rfl) (fr_rem f1 g1)).tr (fr_96 f2)
theorem m_comes (q : DQ X sn sg h e NB mem) {R : List Int} (hR : m_row R mem) (hU : m_undo U mem) (i : Int) : am_Sm l G yX9_comes mt_X9_comes (d + 2) [.inr (.inr 96), .inl i] mem (AM (turnA h e i) (turnE h e i) (if 0 ≤ turnA h e i then pushU U e else U) R mem) := by
  refine am_enterQ (ls := [some (.inr (.inr 96)), some (.inl i)]) (by decide) rfl (Nat.le_of_ble_eq_true rfl) rfl (fun hok Q hQ => ?_)
  have b := q.bd
  by_cases hn : 0 ≤ i ∧ i < h.1
  · obtain ⟨k, rfl⟩ : ∃ k : Nat, i = (k : Int) := ⟨i.toNat, by omega⟩
    have hx : Nat.xor (eP e) (2 ^ k) < 2 ^ h.1 := Nat.xor_lt_two_pow b.2.2.1 (Nat.pow_lt_pow_right (a := 2) (by decide) (by omega))
    have e1 : turnE h e (k : Int) = (eH e, eS e, Nat.xor (eP e) (2 ^ k), eN e, eB e, eM e, eK e, eG e) := by unfold turnE; rw [if_pos hn, Int.toNat_natCast]
    have e3 : turnA h e (k : Int) = (pc (Nat.xor (eP e) (2 ^ k)) : Int) := by unfold turnA; rw [if_pos hn, Int.toNat_natCast]
    have hE : ∀ m1 : am_M, DQ X sn sg h e NB m1 → m_est (turnE h e (k : Int)) 96 0 (am_up m1 96 (16 + k) (1 - if (eP e).testBit k then 1 else 0)) := by
      intro m1 q1
      rw [e1]
      have A := q1.es.a
      refine m_est_of (fun j hj => ?_) (fun j hj => ?_) (fun j hj => ?_) ?_ ?_ ?_ ?_ ?_
      · rw [am_up_neq (by omega)]; exact A.1 j hj
      · rw [am_up_neq (by omega)]; exact A.2.1 j hj
      · rw [am_up_at]
        show _ = if (Nat.xor (eP e) (2 ^ k)).testBit j then (1 : Int) else 0
        have ex : (Nat.xor (eP e) (2 ^ k)).testBit j = ((eP e).testBit j ^^ decide (k = j)) := by
          show ((eP e) ^^^ (2 ^ k)).testBit j = _
          rw [Nat.testBit_xor, Nat.testBit_two_pow]
        rw [ex]
        by_cases hj2 : j = k
        · subst hj2
          rw [if_pos rfl]
          cases (eP e).testBit j <;> simp
        · rw [if_neg (by omega), A.2.2.1 j hj]
          have : decide (k = j) = false := by simp; omega
          rw [this]
          cases (eP e).testBit j <;> simp
      · rw [am_up_neq (by omega)]; exact A.2.2.2.1
      · rw [am_up_neq (by omega)]; exact A.2.2.2.2.1
      · rw [am_up_neq (by omega)]; exact A.2.2.2.2.2.1
      · rw [am_up_neq (by omega)]; exact A.2.2.2.2.2.2.1
      · rw [am_up_neq (by omega)]; exact A.2.2.2.2.2.2.2
    rw [show (if 0 ≤ turnA h e (k : Int) then pushU U e else U) = pushU U e from if_pos (by rw [e3]; omega), e3] at hQ
    refine rn_aload_n (x := 95) (q := 1) dX9_comes_0 rfl rfl ?_
    refine rn_iconst (q := 2) dX9_comes_1 (am_okd rfl) rfl ?_
    refine rn_puti (a := 95) (q := 5) dX9_comes_2 fl_X9_107 rfl rfl rfl rfl ?_
    refine rn_aload_n (x := 95) (q := 6) dX9_comes_5 rfl rfl ?_
    refine rn_iload_n (x := (k : Int)) (q := 7) dX9_comes_6 rfl rfl ?_
    refine rn_callV (b := 95) (as := [.inl (k : Int)]) (rest := []) (q := 10) dX9_comes_7 ml_X9_234 sm_X9_isMan rfl rfl (by decide) (by omega) rfl rfl (Nat.le_of_ble_eq_true rfl) rfl (s_isMan9 (d := d + 0) (q.kept (frS.up (a := 95) (k := 11) (x := 0) frS.rf rfl)) (k : Int)) ?_
    intro r7 mem7 hq7
    obtain ⟨⟨rfl, hh7⟩ | ⟨rfl, hh7⟩, rfl⟩ := hq7
    · show am_Rn l G _ _ 10 [some (.inr (.inr 96)), some (.inl (k : Int))] [.inl 1] (am_up mem 95 11 0) _
      refine rn_ifne (t := 15) (q := 13) dX9_comes_10 rfl rfl (fun w10 => ?_) (fun h => absurd h (by decide))
      refine rn_aload_n (x := 95) (q := 16) dX9_comes_15 rfl rfl ?_
      refine rn_aload_n (x := 95) (q := 17) dX9_comes_16 rfl rfl ?_
      refine rn_get (a := 95) (v := .inr (.inr 97)) (q := 20) dX9_comes_17 fl_X9_9 rfl rfl rfl ?_
      refine rn_callV (b := 95) (as := [.inr (.inr 97)]) (rest := []) (q := 23) dX9_comes_20 ml_X9_268 sm_X9_remember rfl rfl (by decide) (by omega) rfl rfl (Nat.le_of_ble_eq_true rfl) rfl (m_remQ (d := d + 0) (q.kept (frS.up (a := 95) (k := 11) (x := 0) frS.rf rfl)) (hU.keptU (b := (am_up mem 95 11 0)) rfl rfl)) ?_
      intro r20 mem20 hq20
      obtain ⟨rfl, hu20, hd20, hf20, hg20⟩ := hq20
      show am_Rn l G _ _ 23 [some (.inr (.inr 96)), some (.inl (k : Int))] [] mem20 _
      refine rn_aload_n (x := 95) (q := 24) dX9_comes_23 rfl rfl ?_
      refine rn_get (a := 95) (v := .inr (.inr 97)) (q := 27) dX9_comes_24 fl_X9_9 rfl rfl rfl ?_
      refine rn_bipush (q := 29) dX9_comes_27 ⟨by decide, by decide⟩ rfl ?_
      refine rn_iload_n (x := (k : Int)) (q := 30) dX9_comes_29 rfl rfl ?_
      refine rn_iaddN (z := ((16 + k : Nat) : Int)) (q := 31) dX9_comes_30 (by omega) (by unfold am_ok; omega) rfl ?_
      refine rn_iconst (q := 32) dX9_comes_31 (am_okd rfl) rfl ?_
      refine rn_aload_n (x := 95) (q := 33) dX9_comes_32 rfl rfl ?_
      refine rn_get (a := 95) (v := .inr (.inr 97)) (q := 36) dX9_comes_33 fl_X9_9 rfl rfl rfl ?_
      refine rn_bipush (q := 38) dX9_comes_36 ⟨by decide, by decide⟩ rfl ?_
      refine rn_iload_n (x := (k : Int)) (q := 39) dX9_comes_38 rfl rfl ?_
      refine rn_iaddN (z := ((16 + k : Nat) : Int)) (q := 40) dX9_comes_39 (by omega) (by unfold am_ok; omega) rfl ?_
      refine rn_ialdV (a := 96) (v := (if (eP e).testBit k then 1 else 0)) (q := 41) dX9_comes_40 rfl (by omega) (by omega) (hd20.pr (by omega)) rfl ?_
      refine rn_isubN (z := (1 - if (eP e).testBit k then 1 else 0)) (q := 42) dX9_comes_41 (by omega) (by unfold am_ok; omega) rfl ?_
      refine rn_iastV (a := 96) (m1 := am_up mem20 96 (16 + k) (1 - if (eP e).testBit k then 1 else 0)) (q := 43) dX9_comes_42 rfl (by omega) (by omega) rfl rfl ?_
      refine rn_aload_n (x := 95) (q := 44) dX9_comes_43 rfl rfl ?_
      refine rn_aload_n (x := 95) (q := 45) dX9_comes_44 rfl rfl ?_
      refine rn_get (a := 95) (v := .inr (.inr 97)) (q := 48) dX9_comes_45 fl_X9_9 rfl rfl rfl ?_
      refine rn_callV (b := 95) (as := [.inr (.inr 97)]) (rest := []) (q := 51) dX9_comes_48 ml_X9_216 sm_X9_present rfl rfl (by decide) (by omega) rfl rfl (Nat.le_of_ble_eq_true rfl) rfl (s_present9 (d := d + 1) 96 h.1 (Nat.xor (eP e) (2 ^ k)) rfl hd20.n b.1 hx (by have := (hE _ hd20).a.2.2.1; rw [e1] at this; exact this)) ?_
      intro r48 mem48 hq48
      obtain ⟨rfl, rfl⟩ := hq48
      show am_Rn l G _ _ 51 [some (.inr (.inr 96)), some (.inl (k : Int))] [.inl (Nat.xor (eP e) (2 ^ k) : Int)] (am_up mem20 96 (16 + k) (1 - if (eP e).testBit k then 1 else 0)) _
      refine rn_callS (as := [.inl (Nat.xor (eP e) (2 ^ k) : Int)]) (rest := []) (q := 54) dX9_comes_51 ml_X9_220 sm_J6_bitCount_0f7a4 (by omega) rfl rfl (Nat.le_of_ble_eq_true rfl) rfl (s_bitCount (d := d + 1) (Nat.xor (eP e) (2 ^ k)) (by omega)) ?_
      intro r51 mem51 hq51
      obtain ⟨rfl, rfl⟩ := hq51
      show am_Rn l G _ _ 54 [some (.inr (.inr 96)), some (.inl (k : Int))] [.inl (pc (Nat.xor (eP e) (2 ^ k)) : Int)] (am_up mem20 96 (16 + k) (1 - if (eP e).testBit k then 1 else 0)) _
      refine rn_iret dX9_comes_54 rfl ?_
      have hA := act_end9 (v := turnA h e (k : Int)) hR hu20 hf20 hg20 (hE _ hd20) (fun b2 hb => am_up_ne hb)
      rw [e3] at hA
      exact hQ _ _ hA
    · show am_Rn l G _ _ 10 [some (.inr (.inr 96)), some (.inl (k : Int))] [.inl 0] (am_up mem 95 11 0) _
      refine rn_ifne (t := 15) (q := 13) dX9_comes_10 rfl rfl (fun h => absurd h (by decide)) (fun w10 => ?_)
      refine rn_iconst (q := 14) dX9_comes_13 (am_okd rfl) rfl ?_
      refine rn_iret dX9_comes_14 rfl ?_
      exfalso; omega
  · have e1 : turnE h e i = e := by unfold turnE; rw [if_neg hn]
    have e3 : turnA h e i = -1 := by unfold turnA; rw [if_neg hn]
    rw [e1, e3, if_neg (by decide)] at hQ
    refine rn_aload_n (x := 95) (q := 1) dX9_comes_0 rfl rfl ?_
    refine rn_iconst (q := 2) dX9_comes_1 (am_okd rfl) rfl ?_
    refine rn_puti (a := 95) (q := 5) dX9_comes_2 fl_X9_107 rfl rfl rfl rfl ?_
    refine rn_aload_n (x := 95) (q := 6) dX9_comes_5 rfl rfl ?_
    refine rn_iload_n (x := i) (q := 7) dX9_comes_6 rfl rfl ?_
    refine rn_callV (b := 95) (as := [.inl i]) (rest := []) (q := 10) dX9_comes_7 ml_X9_234 sm_X9_isMan rfl rfl (by decide) (by omega) rfl rfl (Nat.le_of_ble_eq_true rfl) rfl (s_isMan9 (d := d + 0) (q.kept (frS.up (a := 95) (k := 11) (x := 0) frS.rf rfl)) i) ?_
    intro r7 mem7 hq7
    obtain ⟨⟨rfl, hh7⟩ | ⟨rfl, hh7⟩, rfl⟩ := hq7
    · show am_Rn l G _ _ 10 [some (.inr (.inr 96)), some (.inl i)] [.inl 1] (am_up mem 95 11 0) _
      refine rn_ifne (t := 15) (q := 13) dX9_comes_10 rfl rfl (fun w10 => ?_) (fun h => absurd h (by decide))
      exfalso; omega
    · show am_Rn l G _ _ 10 [some (.inr (.inr 96)), some (.inl i)] [.inl 0] (am_up mem 95 11 0) _
      refine rn_ifne (t := 15) (q := 13) dX9_comes_10 rfl rfl (fun h => absurd h (by decide)) (fun w10 => ?_)
      refine rn_iconst (q := 14) dX9_comes_13 (am_okd rfl) rfl ?_
      refine rn_iret dX9_comes_14 rfl ?_
      exact hQ _ _ (act_no9 q hR hU)
theorem m_refusesHum (q : DQ X sn sg h e NB mem) (i n : Int) : am_Sm l G yX9_refusesHum mt_X9_refusesHum (d + 2) [.inr (.inr 96), .inr (.inr 97), .inl i, .inl n] mem (fun q m => ((¬ humOK h i n ∧ q = some (.inl (-1))) ∨ (humOK h i n ∧ (eB e : Int) < n ∧ q = some (.inl (-2))) ∨ (humR h e i n ∧ q = some (.inl 0))) ∧ mem = m) := by
  refine am_enterQ (ls := [some (.inr (.inr 96)), some (.inr (.inr 97)), some (.inl i), some (.inl n)]) (by decide) rfl (Nat.le_of_ble_eq_true rfl) rfl (fun hok Q hQ => ?_)
  have b := q.bd
  refine rn_aload_n (x := 95) (q := 1) dX9_refusesHum_0 rfl rfl ?_
  refine rn_iload_n (x := i) (q := 2) dX9_refusesHum_1 rfl rfl ?_
  refine rn_callV (b := 95) (as := [.inl i]) (rest := []) (q := 5) dX9_refusesHum_2 ml_X9_234 sm_X9_isMan rfl rfl (by decide) (by omega) rfl rfl (Nat.le_of_ble_eq_true rfl) rfl (s_isMan9 (d := d + 0) q i) ?_
  intro r2 mem2 hq2
  obtain ⟨⟨rfl, hh2⟩ | ⟨rfl, hh2⟩, rfl⟩ := hq2
  · show am_Rn l G _ _ 5 [some (.inr (.inr 96)), some (.inr (.inr 97)), some (.inl i), some (.inl n)] [.inl 1] mem _
    refine rn_ifeq (t := 18) (q := 8) dX9_refusesHum_5 rfl rfl (fun h => absurd h (by decide)) (fun w5 => ?_)
    refine rn_iload_n (x := n) (q := 9) dX9_refusesHum_8 rfl rfl ?_
    refine rn_iconst (q := 10) dX9_refusesHum_9 (am_okd rfl) rfl ?_
    refine rn_bipush (q := 12) dX9_refusesHum_10 ⟨by decide, by decide⟩ rfl ?_
    refine rn_callS (as := [.inl n, .inl 1, .inl 9]) (rest := []) (q := 15) dX9_refusesHum_12 ml_X9_116 sm_X9_in (by omega) rfl rfl (Nat.le_of_ble_eq_true rfl) rfl (s_in9 (d := d + 1) n 1 9) ?_
    intro r12 mem12 hq12
    obtain ⟨⟨rfl, hi12⟩ | ⟨rfl, hi12⟩, rfl⟩ := hq12
    · show am_Rn l G _ _ 15 [some (.inr (.inr 96)), some (.inr (.inr 97)), some (.inl i), some (.inl n)] [.inl 1] mem _
      refine rn_ifne (t := 20) (q := 18) dX9_refusesHum_15 rfl rfl (fun w15 => ?_) (fun h => absurd h (by decide))
      refine rn_aload_n (x := 96) (q := 21) dX9_refusesHum_20 rfl rfl ?_
      refine rn_bipush (q := 23) dX9_refusesHum_21 ⟨by decide, by decide⟩ rfl ?_
      refine rn_ialdV (a := 96) (v := (eB e : Int)) (q := 24) dX9_refusesHum_23 rfl (by omega) (by omega) q.bk rfl ?_
      refine rn_iload_n (x := n) (q := 25) dX9_refusesHum_24 rfl rfl ?_
      refine rn_cmpge (t := 33) (q := 28) dX9_refusesHum_25 rfl rfl (fun w25 => ?_) (fun w25 => ?_)
      · refine rn_iconst (q := 34) dX9_refusesHum_33 (am_okd rfl) rfl ?_
        refine rn_iret dX9_refusesHum_34 rfl ?_
        first | (exact hQ _ _ ⟨Or.inl ⟨by unfold humOK; omega, rfl⟩, rfl⟩) | (exact hQ _ _ ⟨Or.inr (Or.inl ⟨by unfold humOK; omega, by omega, rfl⟩), rfl⟩) | (exact hQ _ _ ⟨Or.inr (Or.inr ⟨by unfold humR humOK; omega, rfl⟩), rfl⟩)
      · refine rn_bipush (q := 30) dX9_refusesHum_28 ⟨by decide, by decide⟩ rfl ?_
        refine rn_goto (t := 34) dX9_refusesHum_30 rfl ?_
        refine rn_iret dX9_refusesHum_34 rfl ?_
        first | (exact hQ _ _ ⟨Or.inl ⟨by unfold humOK; omega, rfl⟩, rfl⟩) | (exact hQ _ _ ⟨Or.inr (Or.inl ⟨by unfold humOK; omega, by omega, rfl⟩), rfl⟩) | (exact hQ _ _ ⟨Or.inr (Or.inr ⟨by unfold humR humOK; omega, rfl⟩), rfl⟩)
    · show am_Rn l G _ _ 15 [some (.inr (.inr 96)), some (.inr (.inr 97)), some (.inl i), some (.inl n)] [.inl 0] mem _
      refine rn_ifne (t := 20) (q := 18) dX9_refusesHum_15 rfl rfl (fun h => absurd h (by decide)) (fun w15 => ?_)
      refine rn_iconst (q := 19) dX9_refusesHum_18 (am_okd rfl) rfl ?_
      refine rn_iret dX9_refusesHum_19 rfl ?_
      first | (exact hQ _ _ ⟨Or.inl ⟨by unfold humOK; omega, rfl⟩, rfl⟩) | (exact hQ _ _ ⟨Or.inr (Or.inl ⟨by unfold humOK; omega, by omega, rfl⟩), rfl⟩) | (exact hQ _ _ ⟨Or.inr (Or.inr ⟨by unfold humR humOK; omega, rfl⟩), rfl⟩)
  · show am_Rn l G _ _ 5 [some (.inr (.inr 96)), some (.inr (.inr 97)), some (.inl i), some (.inl n)] [.inl 0] mem _
    refine rn_ifeq (t := 18) (q := 8) dX9_refusesHum_5 rfl rfl (fun w5 => ?_) (fun h => absurd h (by decide))
    refine rn_iconst (q := 19) dX9_refusesHum_18 (am_okd rfl) rfl ?_
    refine rn_iret dX9_refusesHum_19 rfl ?_
    first | (exact hQ _ _ ⟨Or.inl ⟨by unfold humOK; omega, rfl⟩, rfl⟩) | (exact hQ _ _ ⟨Or.inr (Or.inl ⟨by unfold humOK; omega, by omega, rfl⟩), rfl⟩) | (exact hQ _ _ ⟨Or.inr (Or.inr ⟨by unfold humR humOK; omega, rfl⟩), rfl⟩)
theorem m_refHumY (q : DQ X sn sg h e NB mem) (i n : Int) (hn : humR h e i n) : am_Sm l G yX9_refusesHum mt_X9_refusesHum (d + 2) [.inr (.inr 96), .inr (.inr 97), .inl i, .inl n] mem (fun r m => r = some (.inl 0) ∧ mem = m) := by
  refine am_Sm_mono (m_refusesHum q i n) (fun r m hq => ?_)
  have hb := hn.2
  obtain ⟨⟨a, -⟩ | ⟨-, a, -⟩ | ⟨-, a⟩, hm⟩ := hq
  · exact absurd hn.1 a
  · omega
  · exact ⟨a, hm⟩
theorem m_refHumN (q : DQ X sn sg h e NB mem) (i n : Int) (hn : ¬ humR h e i n) : am_Sm l G yX9_refusesHum mt_X9_refusesHum (d + 2) [.inr (.inr 96), .inr (.inr 97), .inl i, .inl n] mem (fun r m => ∃ v, r = some (.inl v) ∧ v < 0 ∧ humP h e i n v e ∧ mem = m) := by
  refine am_Sm_mono (m_refusesHum q i n) (fun r m hq => ?_)
  obtain ⟨⟨a, a2⟩ | ⟨a1, a, a2⟩ | ⟨a, -⟩, hm⟩ := hq
  · exact ⟨_, a2, by decide, Or.inl ⟨a, rfl, rfl⟩, hm⟩
  · exact ⟨_, a2, by decide, Or.inr (Or.inl ⟨a1, a, rfl, rfl⟩), hm⟩
  · exact absurd a hn
theorem m_goHum (q : DQ X sn sg h e NB mem) (k n : Nat) (hk : k < h.1) (hn : n ≤ 9) (hnB : n ≤ eB e) : am_Sm l G yX9_goHum mt_X9_goHum (d + 1) [.inr (.inr 96), .inr (.inr 97), .inl (k : Int), .inl (n : Int)] mem (fun q m => q = none ∧ m_est (humU h e k n) 96 0 m ∧ ∀ b, b ≠ 96 → m b = mem b) := by
  refine am_enterQ (ls := [some (.inr (.inr 96)), some (.inr (.inr 97)), some (.inl (k : Int)), some (.inl (n : Int))]) (by decide) rfl (Nat.le_of_ble_eq_true rfl) rfl (fun hok Q hQ => ?_)
  have b := q.bd
  have b1 := q.hd9 k
  have b2 := q.sc9 k
  have b3 := q.pa9 k
  have b4 := Nat.mul_le_mul (Nat.mul_le_mul (Nat.le_refl 2) b3) hn
  refine rn_aload_n (x := 96) (q := 1) dX9_goHum_0 rfl rfl ?_
  refine rn_bipush (q := 3) dX9_goHum_1 ⟨by decide, by decide⟩ rfl ?_
  refine rn_dup2 (q := 4) dX9_goHum_3 rfl rfl rfl ?_
  refine rn_ialdV (a := 96) (v := (eB e : Int)) (q := 5) dX9_goHum_4 rfl (by omega) (by omega) q.bk rfl ?_
  refine rn_iload_n (x := (n : Int)) (q := 6) dX9_goHum_5 rfl rfl ?_
  refine rn_isubN (z := ((eB e : Int) - (n : Int))) (q := 7) dX9_goHum_6 rfl (by unfold am_ok; omega) rfl ?_
  refine rn_iastV (a := 96) (m1 := am_up mem 96 24 ((eB e : Int) - (n : Int))) (q := 8) dX9_goHum_7 rfl (by omega) (by omega) rfl rfl ?_
  refine rn_aload_n (x := 96) (q := 9) dX9_goHum_8 rfl rfl ?_
  refine rn_iload_n (x := (k : Int)) (q := 10) dX9_goHum_9 rfl rfl ?_
  refine rn_bipush (q := 12) dX9_goHum_10 ⟨by decide, by decide⟩ rfl ?_
  refine rn_aload_n (x := 96) (q := 13) dX9_goHum_12 rfl rfl ?_
  refine rn_iload_n (x := (k : Int)) (q := 14) dX9_goHum_13 rfl rfl ?_
  refine rn_ialdV (a := 96) (v := (eH e k : Int)) (q := 15) dX9_goHum_14 rfl (by omega) (by omega) (show am_up mem 96 24 ((eB e : Int) - (n : Int)) 96 k = _ by rw [am_up_neq (by omega)]; exact q.hd (by omega)) rfl ?_
  refine rn_iload_n (x := (n : Int)) (q := 16) dX9_goHum_15 rfl rfl ?_
  refine rn_iaddN (z := (((eH e k) + n : Nat) : Int)) (q := 17) dX9_goHum_16 (by omega) (by unfold am_ok; omega) rfl ?_
  refine rn_mmin (q := 20) dX9_goHum_17 am_mm_X9_225 am_mminw (Nat.le_of_ble_eq_true rfl) rfl ?_
  refine rn_iastV (a := 96) (m1 := am_up (am_up mem 96 24 ((eB e : Int) - (n : Int))) 96 k (min 99 (((eH e k) + n : Nat) : Int))) (q := 21) dX9_goHum_20 rfl (by omega) (by omega) rfl rfl ?_
  refine rn_aload_n (x := 96) (q := 22) dX9_goHum_21 rfl rfl ?_
  refine rn_bipush (q := 24) dX9_goHum_22 ⟨by decide, by decide⟩ rfl ?_
  refine rn_iload_n (x := (k : Int)) (q := 25) dX9_goHum_24 rfl rfl ?_
  refine rn_iaddN (z := ((8 + k : Nat) : Int)) (q := 26) dX9_goHum_25 (by omega) (by unfold am_ok; omega) rfl ?_
  refine rn_bipush (q := 28) dX9_goHum_26 ⟨by decide, by decide⟩ rfl ?_
  refine rn_aload_n (x := 96) (q := 29) dX9_goHum_28 rfl rfl ?_
  refine rn_bipush (q := 31) dX9_goHum_29 ⟨by decide, by decide⟩ rfl ?_
  refine rn_iload_n (x := (k : Int)) (q := 32) dX9_goHum_31 rfl rfl ?_
  refine rn_iaddN (z := ((8 + k : Nat) : Int)) (q := 33) dX9_goHum_32 (by omega) (by unfold am_ok; omega) rfl ?_
  refine rn_ialdV (a := 96) (v := (eS e k : Int)) (q := 34) dX9_goHum_33 rfl (by omega) (by omega) (show am_up (am_up mem 96 24 ((eB e : Int) - (n : Int))) 96 k (min 99 ((eH e k : Int) + (n : Int))) 96 (8 + k) = _ by rw [am_up_neq (by omega), am_up_neq (by omega)]; exact q.sc (by omega)) rfl ?_
  refine rn_iconst (q := 35) dX9_goHum_34 (am_okd rfl) rfl ?_
  refine rn_iaddN (z := (((eS e k) + 1 : Nat) : Int)) (q := 36) dX9_goHum_35 (by omega) (by unfold am_ok; omega) rfl ?_
  refine rn_mmin (q := 39) dX9_goHum_36 am_mm_X9_225 am_mminw (Nat.le_of_ble_eq_true rfl) rfl ?_
  refine rn_iastV (a := 96) (m1 := am_up (am_up (am_up mem 96 24 ((eB e : Int) - (n : Int))) 96 k (min 99 (((eH e k) + n : Nat) : Int))) 96 (8 + k) (min 99 (((eS e k) + 1 : Nat) : Int))) (q := 40) dX9_goHum_39 rfl (by omega) (by omega) rfl rfl ?_
  refine rn_aload_n (x := 96) (q := 41) dX9_goHum_40 rfl rfl ?_
  refine rn_bipush (q := 43) dX9_goHum_41 ⟨by decide, by decide⟩ rfl ?_
  refine rn_aload_n (x := 96) (q := 44) dX9_goHum_43 rfl rfl ?_
  refine rn_bipush (q := 46) dX9_goHum_44 ⟨by decide, by decide⟩ rfl ?_
  refine rn_ialdV (a := 96) (v := (eM e : Int)) (q := 47) dX9_goHum_46 rfl (by omega) (by omega) (by rw [am_up_neq (by omega), am_up_neq (by omega), am_up_neq (by omega)]; exact q.mn) rfl ?_
  refine rn_iconst (q := 48) dX9_goHum_47 (am_okd rfl) rfl ?_
  refine rn_aload_n (x := 95) (q := 49) dX9_goHum_48 rfl rfl ?_
  refine rn_get (a := 95) (v := .inr (.inr 100)) (q := 52) dX9_goHum_49 fl_X9_19 rfl rfl rfl ?_
  refine rn_iload_n (x := (k : Int)) (q := 53) dX9_goHum_52 rfl rfl ?_
  refine rn_ialdV (a := 99) (v := (h.2.2.2 k : Int)) (q := 54) dX9_goHum_53 rfl (by omega) (by omega) (q.pay hk) rfl ?_
  refine rn_imulN (z := ((2 * (h.2.2.2 k) : Nat) : Int)) (q := 55) dX9_goHum_54 (by omega) (by unfold am_ok; omega) rfl ?_
  refine rn_iload_n (x := (n : Int)) (q := 56) dX9_goHum_55 rfl rfl ?_
  refine rn_imulN (z := (((2 * (h.2.2.2 k)) * n : Nat) : Int)) (q := 57) dX9_goHum_56 (Int.natCast_mul _ _).symm (by unfold am_ok; omega) rfl ?_
  refine rn_iaddN (z := (((eM e) + ((2 * (h.2.2.2 k)) * n) : Nat) : Int)) (q := 58) dX9_goHum_57 (by omega) (by unfold am_ok; omega) rfl ?_
  refine rn_callS (as := [.inl (((eM e) + ((2 * (h.2.2.2 k)) * n) : Nat) : Int)]) (rest := [.inl 25, .inr (.inr 97)]) (q := 61) dX9_goHum_58 ml_X9_262 sm_X9_full (by omega) rfl rfl (Nat.le_of_ble_eq_true rfl) rfl (s_full (d := d + 0) (((eM e) + ((2 * (h.2.2.2 k)) * n) : Nat) : Int)) ?_
  intro r58 mem58 hq58
  obtain ⟨rfl, rfl⟩ := hq58
  show am_Rn l G _ _ 61 [some (.inr (.inr 96)), some (.inr (.inr 97)), some (.inl (k : Int)), some (.inl (n : Int))] [.inl (max 0 (min 9999 (((eM e) + ((2 * (h.2.2.2 k)) * n) : Nat) : Int))), .inl 25, .inr (.inr 97)] (am_up (am_up (am_up mem 96 24 ((eB e : Int) - (n : Int))) 96 k (min 99 (((eH e k) + n : Nat) : Int))) 96 (8 + k) (min 99 (((eS e k) + 1 : Nat) : Int))) _
  refine rn_iastV (a := 96) (m1 := am_up (am_up (am_up (am_up mem 96 24 ((eB e : Int) - (n : Int))) 96 k (min 99 (((eH e k) + n : Nat) : Int))) 96 (8 + k) (min 99 (((eS e k) + 1 : Nat) : Int))) 96 25 (max 0 (min 9999 (((eM e) + ((2 * (h.2.2.2 k)) * n) : Nat) : Int)))) (q := 62) dX9_goHum_61 rfl (by omega) (by omega) rfl rfl ?_
  refine rn_vret dX9_goHum_62 rfl ?_
  have A := q.es.a
  refine hQ _ _ ⟨rfl, m_est_of (fun j hj => ?_) (fun j hj => ?_) (fun j hj => ?_) ?_ ?_ ?_ ?_ ?_, fun b2 hb => by rw [am_up_ne hb, am_up_ne hb, am_up_ne hb, am_up_ne hb]⟩
  · rw [am_up_neq (by omega), am_up_neq (by omega), am_up_at, am_up_neq (by omega), A.1 j hj]
    show _ = ((if j = k then min 99 (eH e j + n) else eH e j : Nat) : Int)
    by_cases hj2 : j = k
    · subst hj2; rw [if_pos rfl, if_pos rfl]; omega
    · rw [if_neg hj2, if_neg hj2]
  · rw [am_up_neq (by omega), am_up_at, am_up_neq (by omega), am_up_neq (by omega), A.2.1 j hj]
    show _ = ((if j = k then min 99 (eS e j + 1) else eS e j : Nat) : Int)
    by_cases hj2 : j = k
    · subst hj2; rw [if_pos rfl, if_pos rfl]; omega
    · rw [if_neg (by omega), if_neg hj2]
  · rw [am_up_neq (by omega), am_up_neq (by omega), am_up_neq (by omega), am_up_neq (by omega)]; exact A.2.2.1 j hj
  · rw [am_up_neq (by omega), am_up_neq (by omega), am_up_neq (by omega), am_up_self]; show _ = ((eB e - n : Nat) : Int); omega
  · rw [am_up_self]; show _ = ((min 9999 (eM e + 2 * h.2.2.2 k * n) : Nat) : Int); generalize 2 * h.2.2.2 k * n = Z; omega
  · rw [am_up_neq (by omega), am_up_neq (by omega), am_up_neq (by omega), am_up_neq (by omega)]; exact A.2.2.2.2.2.1
  · rw [am_up_neq (by omega), am_up_neq (by omega), am_up_neq (by omega), am_up_neq (by omega)]; exact A.2.2.2.2.2.2.1
  · rw [am_up_neq (by omega), am_up_neq (by omega), am_up_neq (by omega), am_up_neq (by omega)]; exact A.2.2.2.2.2.2.2
theorem m_hum (q : DQ X sn sg h e NB mem) {R : List Int} (hR : m_row R mem) (hU : m_undo U mem) (i n : Int) : am_Sm l G yX9_hum mt_X9_hum (d + 3) [.inr (.inr 96), .inl i, .inl n] mem (fun q m => ∃ v e3, humP h e i n v e3 ∧ AM v e3 (if 0 ≤ v then pushU U e else U) R mem q m) := by
  refine am_enterQ (ls := [some (.inr (.inr 96)), some (.inl i), some (.inl n), none]) (by decide) rfl (Nat.le_of_ble_eq_true rfl) rfl (fun hok Q hQ => ?_)
  have b := q.bd
  by_cases hn : humR h e i n
  · have hn2 : ((0 ≤ i ∧ i < h.1) ∧ 1 ≤ n ∧ n ≤ 9) ∧ n ≤ (eB e : Int) := hn
    obtain ⟨k, rfl⟩ : ∃ k : Nat, i = (k : Int) := ⟨i.toNat, by omega⟩
    obtain ⟨j, rfl⟩ : ∃ j : Nat, n = (j : Int) := ⟨n.toNat, by omega⟩
    refine rn_aload_n (x := 95) (q := 1) dX9_hum_0 rfl rfl ?_
    refine rn_iconst (q := 2) dX9_hum_1 (am_okd rfl) rfl ?_
    refine rn_puti (a := 95) (q := 5) dX9_hum_2 fl_X9_107 rfl rfl rfl rfl ?_
    refine rn_aload_n (x := 95) (q := 6) dX9_hum_5 rfl rfl ?_
    refine rn_aload_n (x := 95) (q := 7) dX9_hum_6 rfl rfl ?_
    refine rn_get (a := 95) (v := .inr (.inr 97)) (q := 10) dX9_hum_7 fl_X9_9 rfl rfl rfl ?_
    refine rn_iload_n (x := (k : Int)) (q := 11) dX9_hum_10 rfl rfl ?_
    refine rn_iload_n (x := (j : Int)) (q := 12) dX9_hum_11 rfl rfl ?_
    refine rn_callV (b := 95) (as := [.inr (.inr 97), .inl (k : Int), .inl (j : Int)]) (rest := []) (q := 15) dX9_hum_12 ml_X9_279 sm_X9_refusesHum rfl rfl (by decide) (by omega) rfl rfl (Nat.le_of_ble_eq_true rfl) rfl (m_refHumY (d := d + 0) (q.kept (frS.up (a := 95) (k := 11) (x := 0) frS.rf rfl)) (k : Int) (j : Int) hn) ?_
    intro r12 mem12 hq12
    obtain ⟨rfl, rfl⟩ := hq12
    show am_Rn l G _ _ 15 [some (.inr (.inr 96)), some (.inl (k : Int)), some (.inl (j : Int)), none] [.inl 0] (am_up mem 95 11 0) _
    refine rn_istore_n (ls' := [some (.inr (.inr 96)), some (.inl (k : Int)), some (.inl (j : Int)), some (.inl 0)]) (q := 16) dX9_hum_15 (by decide) rfl rfl ?_
    refine rn_iload_n (x := 0) (q := 17) dX9_hum_16 rfl rfl ?_
    refine rn_ifge (t := 22) (q := 20) dX9_hum_17 rfl rfl (fun w17 => ?_) (fun h => absurd h (by decide))
    refine rn_aload_n (x := 95) (q := 23) dX9_hum_22 rfl rfl ?_
    refine rn_aload_n (x := 95) (q := 24) dX9_hum_23 rfl rfl ?_
    refine rn_get (a := 95) (v := .inr (.inr 97)) (q := 27) dX9_hum_24 fl_X9_9 rfl rfl rfl ?_
    refine rn_callV (b := 95) (as := [.inr (.inr 97)]) (rest := []) (q := 30) dX9_hum_27 ml_X9_268 sm_X9_remember rfl rfl (by decide) (by omega) rfl rfl (Nat.le_of_ble_eq_true rfl) rfl (m_remQ (d := d + 1) (q.kept (frS.up (a := 95) (k := 11) (x := 0) frS.rf rfl)) (hU.keptU (b := (am_up mem 95 11 0)) rfl rfl)) ?_
    intro r27 mem27 hq27
    obtain ⟨rfl, hu27, hd27, hf27, hg27⟩ := hq27
    show am_Rn l G _ _ 30 [some (.inr (.inr 96)), some (.inl (k : Int)), some (.inl (j : Int)), some (.inl 0)] [] mem27 _
    refine rn_aload_n (x := 95) (q := 31) dX9_hum_30 rfl rfl ?_
    refine rn_aload_n (x := 95) (q := 32) dX9_hum_31 rfl rfl ?_
    refine rn_get (a := 95) (v := .inr (.inr 97)) (q := 35) dX9_hum_32 fl_X9_9 rfl rfl rfl ?_
    refine rn_iload_n (x := (k : Int)) (q := 36) dX9_hum_35 rfl rfl ?_
    refine rn_iload_n (x := (j : Int)) (q := 37) dX9_hum_36 rfl rfl ?_
    refine rn_callV (b := 95) (as := [.inr (.inr 97), .inl (k : Int), .inl (j : Int)]) (rest := []) (q := 40) dX9_hum_37 ml_X9_283 sm_X9_goHum rfl rfl (by decide) (by omega) rfl rfl (Nat.le_of_ble_eq_true rfl) rfl (m_goHum (d := d + 1) hd27 k j (by omega) (by omega) (by omega)) ?_
    intro r37 mem37 hq37
    obtain ⟨rfl, he37, hf37⟩ := hq37
    show am_Rn l G _ _ 40 [some (.inr (.inr 96)), some (.inl (k : Int)), some (.inl (j : Int)), some (.inl 0)] [] mem37 _
    refine rn_aload_n (x := 95) (q := 41) dX9_hum_40 rfl rfl ?_
    refine rn_get (a := 95) (v := .inr (.inr 97)) (q := 44) dX9_hum_41 fl_X9_9 rfl rfl rfl ?_
    refine rn_bipush (q := 46) dX9_hum_44 ⟨by decide, by decide⟩ rfl ?_
    refine rn_ialdV (a := 96) (v := (eM (humU h e k j) : Int)) (q := 47) dX9_hum_46 rfl (by omega) (by omega) he37.a.2.2.2.2.1 rfl ?_
    refine rn_iret dX9_hum_47 rfl ?_
    refine hQ _ _ ⟨_, _, Or.inr (Or.inr ⟨hn, rfl, rfl⟩), ?_⟩
    rw [if_pos (by omega)]
    exact act_end9 hR hu27 hf27 hg27 he37 hf37
  · refine rn_aload_n (x := 95) (q := 1) dX9_hum_0 rfl rfl ?_
    refine rn_iconst (q := 2) dX9_hum_1 (am_okd rfl) rfl ?_
    refine rn_puti (a := 95) (q := 5) dX9_hum_2 fl_X9_107 rfl rfl rfl rfl ?_
    refine rn_aload_n (x := 95) (q := 6) dX9_hum_5 rfl rfl ?_
    refine rn_aload_n (x := 95) (q := 7) dX9_hum_6 rfl rfl ?_
    refine rn_get (a := 95) (v := .inr (.inr 97)) (q := 10) dX9_hum_7 fl_X9_9 rfl rfl rfl ?_
    refine rn_iload_n (x := i) (q := 11) dX9_hum_10 rfl rfl ?_
    refine rn_iload_n (x := n) (q := 12) dX9_hum_11 rfl rfl ?_
    refine rn_callV (b := 95) (as := [.inr (.inr 97), .inl i, .inl n]) (rest := []) (q := 15) dX9_hum_12 ml_X9_279 sm_X9_refusesHum rfl rfl (by decide) (by omega) rfl rfl (Nat.le_of_ble_eq_true rfl) rfl (m_refHumN (d := d + 0) (q.kept (frS.up (a := 95) (k := 11) (x := 0) frS.rf rfl)) i n hn) ?_
    intro r12 mem12 hq12
    obtain ⟨v, rfl, hv, hp, rfl⟩ := hq12
    show am_Rn l G _ _ 15 [some (.inr (.inr 96)), some (.inl i), some (.inl n), none] [.inl v] (am_up mem 95 11 0) _
    refine rn_istore_n (ls' := [some (.inr (.inr 96)), some (.inl i), some (.inl n), some (.inl v)]) (q := 16) dX9_hum_15 (by decide) rfl rfl ?_
    refine rn_iload_n (x := v) (q := 17) dX9_hum_16 rfl rfl ?_
    refine rn_ifge (t := 22) (q := 20) dX9_hum_17 rfl rfl (fun w17 => ?_) (fun w17 => ?_)
    · exfalso; omega
    · refine rn_iload_n (x := v) (q := 21) dX9_hum_20 rfl rfl ?_
      refine rn_iret dX9_hum_21 rfl ?_
      refine hQ _ _ ⟨_, _, hp, ?_⟩
      rw [if_neg (by omega)]
      exact act_no9 q hR hU
theorem m_refusesStake (q : DQ X sn sg h e NB mem) (n : Int) : am_Sm l G yX9_refusesStake mt_X9_refusesStake (d + 1) [.inr (.inr 96), .inl n] mem (fun q m => ∃ v, q = some (.inl v) ∧ mem = m ∧ ((v < 0 ∧ wagP e n v e) ∨ (v = 0 ∧ (n ≠ 0 ∧ -9999 ≤ n ∧ n ≤ 9999) ∧ 0 ≤ (eK e : Int) + n ∧ 0 ≤ (eM e : Int) - n ∧ (eK e : Int) + n ≤ 9999 ∧ (eM e : Int) - n ≤ 9999))) := by
  refine am_enterQ (ls := [some (.inr (.inr 96)), some (.inl n)]) (by decide) rfl (Nat.le_of_ble_eq_true rfl) rfl (fun hok Q hQ => ?_)
  have b := q.bd
  refine rn_iload_n (x := n) (q := 1) dX9_refusesStake_0 rfl rfl ?_
  refine rn_ifeq (t := 17) (q := 4) dX9_refusesStake_1 rfl rfl (fun w1 => ?_) (fun w1 => ?_)
  · refine rn_iconst (q := 18) dX9_refusesStake_17 (am_okd rfl) rfl ?_
    refine rn_iret dX9_refusesStake_18 rfl ?_
    first | (exfalso; omega) | (exact hQ _ _ ⟨_, rfl, rfl, Or.inl ⟨by omega, by unfold wagP; omega⟩⟩) | (exact hQ _ _ ⟨_, rfl, rfl, Or.inl ⟨by omega, by unfold wagP; simp only [and_true]; omega⟩⟩) | (exact hQ _ _ ⟨_, rfl, rfl, Or.inr ⟨rfl, by omega⟩⟩)
  · refine rn_iload_n (x := n) (q := 5) dX9_refusesStake_4 rfl rfl ?_
    refine rn_sipush (q := 8) dX9_refusesStake_5 ⟨by decide, by decide⟩ rfl ?_
    refine rn_sipush (q := 11) dX9_refusesStake_8 ⟨by decide, by decide⟩ rfl ?_
    refine rn_callS (as := [.inl n, .inl (-9999), .inl 9999]) (rest := []) (q := 14) dX9_refusesStake_11 ml_X9_116 sm_X9_in (by omega) rfl rfl (Nat.le_of_ble_eq_true rfl) rfl (s_in9 (d := d + 0) n (-9999) 9999) ?_
    intro r11 mem11 hq11
    obtain ⟨⟨rfl, hi11⟩ | ⟨rfl, hi11⟩, rfl⟩ := hq11
    · show am_Rn l G _ _ 14 [some (.inr (.inr 96)), some (.inl n)] [.inl 1] mem _
      refine rn_ifne (t := 19) (q := 17) dX9_refusesStake_14 rfl rfl (fun w14 => ?_) (fun h => absurd h (by decide))
      refine rn_iload_n (x := n) (q := 20) dX9_refusesStake_19 rfl rfl ?_
      refine rn_ifle (t := 37) (q := 23) dX9_refusesStake_20 rfl rfl (fun w20 => ?_) (fun w20 => ?_)
      · refine rn_aload_n (x := 95) (q := 38) dX9_refusesStake_37 rfl rfl ?_
        refine rn_get (a := 95) (v := .inr (.inr 97)) (q := 41) dX9_refusesStake_38 fl_X9_9 rfl rfl rfl ?_
        refine rn_bipush (q := 43) dX9_refusesStake_41 ⟨by decide, by decide⟩ rfl ?_
        refine rn_ialdV (a := 96) (v := (eK e : Int)) (q := 44) dX9_refusesStake_43 rfl (by omega) (by omega) q.sk rfl ?_
        refine rn_iload_n (x := n) (q := 45) dX9_refusesStake_44 rfl rfl ?_
        refine rn_inegN (z := (-n)) (q := 46) dX9_refusesStake_45 rfl (by unfold am_ok; omega) rfl ?_
        refine rn_cmpge (t := 52) (q := 49) dX9_refusesStake_46 rfl rfl (fun w46 => ?_) (fun w46 => ?_)
        · refine rn_aload_n (x := 95) (q := 53) dX9_refusesStake_52 rfl rfl ?_
          refine rn_get (a := 95) (v := .inr (.inr 97)) (q := 56) dX9_refusesStake_53 fl_X9_9 rfl rfl rfl ?_
          refine rn_bipush (q := 58) dX9_refusesStake_56 ⟨by decide, by decide⟩ rfl ?_
          refine rn_ialdV (a := 96) (v := (eK e : Int)) (q := 59) dX9_refusesStake_58 rfl (by omega) (by omega) q.sk rfl ?_
          refine rn_iload_n (x := n) (q := 60) dX9_refusesStake_59 rfl rfl ?_
          refine rn_iaddN (z := ((eK e : Int) + n)) (q := 61) dX9_refusesStake_60 rfl (by unfold am_ok; omega) rfl ?_
          refine rn_sipush (q := 64) dX9_refusesStake_61 ⟨by decide, by decide⟩ rfl ?_
          refine rn_cmpgt (t := 82) (q := 67) dX9_refusesStake_64 rfl rfl (fun w64 => ?_) (fun w64 => ?_)
          · refine rn_bipush (q := 84) dX9_refusesStake_82 ⟨by decide, by decide⟩ rfl ?_
            refine rn_goto (t := 88) dX9_refusesStake_84 rfl ?_
            refine rn_iret dX9_refusesStake_88 rfl ?_
            first | (exfalso; omega) | (exact hQ _ _ ⟨_, rfl, rfl, Or.inl ⟨by omega, by unfold wagP; omega⟩⟩) | (exact hQ _ _ ⟨_, rfl, rfl, Or.inl ⟨by omega, by unfold wagP; simp only [and_true]; omega⟩⟩) | (exact hQ _ _ ⟨_, rfl, rfl, Or.inr ⟨rfl, by omega⟩⟩)
          · refine rn_aload_n (x := 95) (q := 68) dX9_refusesStake_67 rfl rfl ?_
            refine rn_get (a := 95) (v := .inr (.inr 97)) (q := 71) dX9_refusesStake_68 fl_X9_9 rfl rfl rfl ?_
            refine rn_bipush (q := 73) dX9_refusesStake_71 ⟨by decide, by decide⟩ rfl ?_
            refine rn_ialdV (a := 96) (v := (eM e : Int)) (q := 74) dX9_refusesStake_73 rfl (by omega) (by omega) q.mn rfl ?_
            refine rn_iload_n (x := n) (q := 75) dX9_refusesStake_74 rfl rfl ?_
            refine rn_isubN (z := ((eM e : Int) - n)) (q := 76) dX9_refusesStake_75 rfl (by unfold am_ok; omega) rfl ?_
            refine rn_sipush (q := 79) dX9_refusesStake_76 ⟨by decide, by decide⟩ rfl ?_
            refine rn_cmple (t := 87) (q := 82) dX9_refusesStake_79 rfl rfl (fun w79 => ?_) (fun w79 => ?_)
            · refine rn_iconst (q := 88) dX9_refusesStake_87 (am_okd rfl) rfl ?_
              refine rn_iret dX9_refusesStake_88 rfl ?_
              first | (exfalso; omega) | (exact hQ _ _ ⟨_, rfl, rfl, Or.inl ⟨by omega, by unfold wagP; omega⟩⟩) | (exact hQ _ _ ⟨_, rfl, rfl, Or.inl ⟨by omega, by unfold wagP; simp only [and_true]; omega⟩⟩) | (exact hQ _ _ ⟨_, rfl, rfl, Or.inr ⟨rfl, by omega⟩⟩)
            · refine rn_bipush (q := 84) dX9_refusesStake_82 ⟨by decide, by decide⟩ rfl ?_
              refine rn_goto (t := 88) dX9_refusesStake_84 rfl ?_
              refine rn_iret dX9_refusesStake_88 rfl ?_
              first | (exfalso; omega) | (exact hQ _ _ ⟨_, rfl, rfl, Or.inl ⟨by omega, by unfold wagP; omega⟩⟩) | (exact hQ _ _ ⟨_, rfl, rfl, Or.inl ⟨by omega, by unfold wagP; simp only [and_true]; omega⟩⟩) | (exact hQ _ _ ⟨_, rfl, rfl, Or.inr ⟨rfl, by omega⟩⟩)
        · refine rn_bipush (q := 51) dX9_refusesStake_49 ⟨by decide, by decide⟩ rfl ?_
          refine rn_iret dX9_refusesStake_51 rfl ?_
          first | (exfalso; omega) | (exact hQ _ _ ⟨_, rfl, rfl, Or.inl ⟨by omega, by unfold wagP; omega⟩⟩) | (exact hQ _ _ ⟨_, rfl, rfl, Or.inl ⟨by omega, by unfold wagP; simp only [and_true]; omega⟩⟩) | (exact hQ _ _ ⟨_, rfl, rfl, Or.inr ⟨rfl, by omega⟩⟩)
      · refine rn_aload_n (x := 95) (q := 24) dX9_refusesStake_23 rfl rfl ?_
        refine rn_get (a := 95) (v := .inr (.inr 97)) (q := 27) dX9_refusesStake_24 fl_X9_9 rfl rfl rfl ?_
        refine rn_bipush (q := 29) dX9_refusesStake_27 ⟨by decide, by decide⟩ rfl ?_
        refine rn_ialdV (a := 96) (v := (eM e : Int)) (q := 30) dX9_refusesStake_29 rfl (by omega) (by omega) q.mn rfl ?_
        refine rn_iload_n (x := n) (q := 31) dX9_refusesStake_30 rfl rfl ?_
        refine rn_cmpge (t := 52) (q := 34) dX9_refusesStake_31 rfl rfl (fun w31 => ?_) (fun w31 => ?_)
        · refine rn_aload_n (x := 95) (q := 53) dX9_refusesStake_52 rfl rfl ?_
          refine rn_get (a := 95) (v := .inr (.inr 97)) (q := 56) dX9_refusesStake_53 fl_X9_9 rfl rfl rfl ?_
          refine rn_bipush (q := 58) dX9_refusesStake_56 ⟨by decide, by decide⟩ rfl ?_
          refine rn_ialdV (a := 96) (v := (eK e : Int)) (q := 59) dX9_refusesStake_58 rfl (by omega) (by omega) q.sk rfl ?_
          refine rn_iload_n (x := n) (q := 60) dX9_refusesStake_59 rfl rfl ?_
          refine rn_iaddN (z := ((eK e : Int) + n)) (q := 61) dX9_refusesStake_60 rfl (by unfold am_ok; omega) rfl ?_
          refine rn_sipush (q := 64) dX9_refusesStake_61 ⟨by decide, by decide⟩ rfl ?_
          refine rn_cmpgt (t := 82) (q := 67) dX9_refusesStake_64 rfl rfl (fun w64 => ?_) (fun w64 => ?_)
          · refine rn_bipush (q := 84) dX9_refusesStake_82 ⟨by decide, by decide⟩ rfl ?_
            refine rn_goto (t := 88) dX9_refusesStake_84 rfl ?_
            refine rn_iret dX9_refusesStake_88 rfl ?_
            first | (exfalso; omega) | (exact hQ _ _ ⟨_, rfl, rfl, Or.inl ⟨by omega, by unfold wagP; omega⟩⟩) | (exact hQ _ _ ⟨_, rfl, rfl, Or.inl ⟨by omega, by unfold wagP; simp only [and_true]; omega⟩⟩) | (exact hQ _ _ ⟨_, rfl, rfl, Or.inr ⟨rfl, by omega⟩⟩)
          · refine rn_aload_n (x := 95) (q := 68) dX9_refusesStake_67 rfl rfl ?_
            refine rn_get (a := 95) (v := .inr (.inr 97)) (q := 71) dX9_refusesStake_68 fl_X9_9 rfl rfl rfl ?_
            refine rn_bipush (q := 73) dX9_refusesStake_71 ⟨by decide, by decide⟩ rfl ?_
            refine rn_ialdV (a := 96) (v := (eM e : Int)) (q := 74) dX9_refusesStake_73 rfl (by omega) (by omega) q.mn rfl ?_
            refine rn_iload_n (x := n) (q := 75) dX9_refusesStake_74 rfl rfl ?_
            refine rn_isubN (z := ((eM e : Int) - n)) (q := 76) dX9_refusesStake_75 rfl (by unfold am_ok; omega) rfl ?_
            refine rn_sipush (q := 79) dX9_refusesStake_76 ⟨by decide, by decide⟩ rfl ?_
            refine rn_cmple (t := 87) (q := 82) dX9_refusesStake_79 rfl rfl (fun w79 => ?_) (fun w79 => ?_)
            · refine rn_iconst (q := 88) dX9_refusesStake_87 (am_okd rfl) rfl ?_
              refine rn_iret dX9_refusesStake_88 rfl ?_
              first | (exfalso; omega) | (exact hQ _ _ ⟨_, rfl, rfl, Or.inl ⟨by omega, by unfold wagP; omega⟩⟩) | (exact hQ _ _ ⟨_, rfl, rfl, Or.inl ⟨by omega, by unfold wagP; simp only [and_true]; omega⟩⟩) | (exact hQ _ _ ⟨_, rfl, rfl, Or.inr ⟨rfl, by omega⟩⟩)
            · refine rn_bipush (q := 84) dX9_refusesStake_82 ⟨by decide, by decide⟩ rfl ?_
              refine rn_goto (t := 88) dX9_refusesStake_84 rfl ?_
              refine rn_iret dX9_refusesStake_88 rfl ?_
              first | (exfalso; omega) | (exact hQ _ _ ⟨_, rfl, rfl, Or.inl ⟨by omega, by unfold wagP; omega⟩⟩) | (exact hQ _ _ ⟨_, rfl, rfl, Or.inl ⟨by omega, by unfold wagP; simp only [and_true]; omega⟩⟩) | (exact hQ _ _ ⟨_, rfl, rfl, Or.inr ⟨rfl, by omega⟩⟩)
        · refine rn_goto (t := 49) dX9_refusesStake_34 rfl ?_
          refine rn_bipush (q := 51) dX9_refusesStake_49 ⟨by decide, by decide⟩ rfl ?_
          refine rn_iret dX9_refusesStake_51 rfl ?_
          first | (exfalso; omega) | (exact hQ _ _ ⟨_, rfl, rfl, Or.inl ⟨by omega, by unfold wagP; omega⟩⟩) | (exact hQ _ _ ⟨_, rfl, rfl, Or.inl ⟨by omega, by unfold wagP; simp only [and_true]; omega⟩⟩) | (exact hQ _ _ ⟨_, rfl, rfl, Or.inr ⟨rfl, by omega⟩⟩)
    · show am_Rn l G _ _ 14 [some (.inr (.inr 96)), some (.inl n)] [.inl 0] mem _
      refine rn_ifne (t := 19) (q := 17) dX9_refusesStake_14 rfl rfl (fun h => absurd h (by decide)) (fun w14 => ?_)
      refine rn_iconst (q := 18) dX9_refusesStake_17 (am_okd rfl) rfl ?_
      refine rn_iret dX9_refusesStake_18 rfl ?_
      first | (exfalso; omega) | (exact hQ _ _ ⟨_, rfl, rfl, Or.inl ⟨by omega, by unfold wagP; omega⟩⟩) | (exact hQ _ _ ⟨_, rfl, rfl, Or.inl ⟨by omega, by unfold wagP; simp only [and_true]; omega⟩⟩) | (exact hQ _ _ ⟨_, rfl, rfl, Or.inr ⟨rfl, by omega⟩⟩)
theorem wag_est (A : m_est e 96 0 mem) (n : Int) (h1 : 0 ≤ (eM e : Int) - n) (h2 : 0 ≤ (eK e : Int) + n) : m_est (eH e, eS e, eP e, eN e, eB e, ((eM e : Int) - n).toNat, ((eK e : Int) + n).toNat, eG e) 96 0 (am_up (am_up mem 96 25 ((eM e : Int) - n)) 96 26 ((eK e : Int) + n)) := by
  have A := A.a
  refine m_est_of (fun j hj => ?_) (fun j hj => ?_) (fun j hj => ?_) ?_ ?_ ?_ ?_ ?_
  · rw [am_up_neq (by omega), am_up_neq (by omega)]; exact A.1 j hj
  · rw [am_up_neq (by omega), am_up_neq (by omega)]; exact A.2.1 j hj
  · rw [am_up_neq (by omega), am_up_neq (by omega)]; exact A.2.2.1 j hj
  · exact A.2.2.2.1
  · show (eM e : Int) - n = ((((eM e : Int) - n).toNat : Nat) : Int); omega
  · show (eK e : Int) + n = ((((eK e : Int) + n).toNat : Nat) : Int); omega
  · exact A.2.2.2.2.2.2.1
  · exact A.2.2.2.2.2.2.2
theorem m_goStake (q : DQ X sn sg h e NB mem) (n : Int) (h1 : 0 ≤ (eM e : Int) - n) (h2 : 0 ≤ (eK e : Int) + n) (h3 : -9999 ≤ n ∧ n ≤ 9999) : am_Sm l G yX9_goStake mt_X9_goStake d [.inr (.inr 96), .inl n] mem (fun q m => q = none ∧ m_est (eH e, eS e, eP e, eN e, eB e, ((eM e : Int) - n).toNat, ((eK e : Int) + n).toNat, eG e) 96 0 m ∧ ∀ b, b ≠ 96 → m b = mem b) := by
  refine am_enterQ (ls := [some (.inr (.inr 96)), some (.inl n)]) (by decide) rfl (Nat.le_of_ble_eq_true rfl) rfl (fun hok Q hQ => ?_)
  have b := q.bd
  refine rn_aload_n (x := 95) (q := 1) dX9_goStake_0 rfl rfl ?_
  refine rn_get (a := 95) (v := .inr (.inr 97)) (q := 4) dX9_goStake_1 fl_X9_9 rfl rfl rfl ?_
  refine rn_bipush (q := 6) dX9_goStake_4 ⟨by decide, by decide⟩ rfl ?_
  refine rn_dup2 (q := 7) dX9_goStake_6 rfl rfl rfl ?_
  refine rn_ialdV (a := 96) (v := (eM e : Int)) (q := 8) dX9_goStake_7 rfl (by omega) (by omega) q.mn rfl ?_
  refine rn_iload_n (x := n) (q := 9) dX9_goStake_8 rfl rfl ?_
  refine rn_isubN (z := ((eM e : Int) - n)) (q := 10) dX9_goStake_9 rfl (by unfold am_ok; omega) rfl ?_
  refine rn_iastV (a := 96) (m1 := am_up mem 96 25 ((eM e : Int) - n)) (q := 11) dX9_goStake_10 rfl (by omega) (by omega) rfl rfl ?_
  refine rn_aload_n (x := 95) (q := 12) dX9_goStake_11 rfl rfl ?_
  refine rn_get (a := 95) (v := .inr (.inr 97)) (q := 15) dX9_goStake_12 fl_X9_9 rfl rfl rfl ?_
  refine rn_bipush (q := 17) dX9_goStake_15 ⟨by decide, by decide⟩ rfl ?_
  refine rn_dup2 (q := 18) dX9_goStake_17 rfl rfl rfl ?_
  refine rn_ialdV (a := 96) (v := (eK e : Int)) (q := 19) dX9_goStake_18 rfl (by omega) (by omega) q.sk rfl ?_
  refine rn_iload_n (x := n) (q := 20) dX9_goStake_19 rfl rfl ?_
  refine rn_iaddN (z := ((eK e : Int) + n)) (q := 21) dX9_goStake_20 rfl (by unfold am_ok; omega) rfl ?_
  refine rn_iastV (a := 96) (m1 := am_up (am_up mem 96 25 ((eM e : Int) - n)) 96 26 ((eK e : Int) + n)) (q := 22) dX9_goStake_21 rfl (by omega) (by omega) rfl rfl ?_
  refine rn_vret dX9_goStake_22 rfl ?_
  exact hQ _ _ ⟨rfl, wag_est q.es n h1 h2, fun b2 hb => by rw [am_up_ne hb, am_up_ne hb]⟩
theorem m_stake (q : DQ X sn sg h e NB mem) {R : List Int} (hR : m_row R mem) (hU : m_undo U mem) (n : Int) : am_Sm l G yX9_stake mt_X9_stake (d + 2) [.inr (.inr 96), .inl n] mem (fun q m => ∃ v e3, wagP e n v e3 ∧ AM v e3 (if 0 ≤ v then pushU U e else U) R mem q m) := by
  refine am_enterQ (ls := [some (.inr (.inr 96)), some (.inl n), none]) (by decide) rfl (Nat.le_of_ble_eq_true rfl) rfl (fun hok Q hQ => ?_)
  have b := q.bd
  refine rn_aload_n (x := 95) (q := 1) dX9_stake_0 rfl rfl ?_
  refine rn_iconst (q := 2) dX9_stake_1 (am_okd rfl) rfl ?_
  refine rn_puti (a := 95) (q := 5) dX9_stake_2 fl_X9_107 rfl rfl rfl rfl ?_
  refine rn_aload_n (x := 95) (q := 6) dX9_stake_5 rfl rfl ?_
  refine rn_iload_n (x := n) (q := 7) dX9_stake_6 rfl rfl ?_
  refine rn_callV (b := 95) (as := [.inl n]) (rest := []) (q := 10) dX9_stake_7 ml_X9_287 sm_X9_refusesStake rfl rfl (by decide) (by omega) rfl rfl (Nat.le_of_ble_eq_true rfl) rfl (m_refusesStake (d := d + 0) (q.kept (frS.up (a := 95) (k := 11) (x := 0) frS.rf rfl)) n) ?_
  intro r7 mem7 hq7
  obtain ⟨v, rfl, rfl, hp⟩ := hq7
  show am_Rn l G _ _ 10 [some (.inr (.inr 96)), some (.inl n), none] [.inl v] (am_up mem 95 11 0) _
  refine rn_istore_n (ls' := [some (.inr (.inr 96)), some (.inl n), some (.inl v)]) (q := 11) dX9_stake_10 (by decide) rfl rfl ?_
  refine rn_iload_n (x := v) (q := 12) dX9_stake_11 rfl rfl ?_
  refine rn_ifge (t := 17) (q := 15) dX9_stake_12 rfl rfl (fun w12 => ?_) (fun w12 => ?_)
  · refine rn_aload_n (x := 95) (q := 18) dX9_stake_17 rfl rfl ?_
    refine rn_aload_n (x := 95) (q := 19) dX9_stake_18 rfl rfl ?_
    refine rn_get (a := 95) (v := .inr (.inr 97)) (q := 22) dX9_stake_19 fl_X9_9 rfl rfl rfl ?_
    refine rn_callV (b := 95) (as := [.inr (.inr 97)]) (rest := []) (q := 25) dX9_stake_22 ml_X9_268 sm_X9_remember rfl rfl (by decide) (by omega) rfl rfl (Nat.le_of_ble_eq_true rfl) rfl (m_remQ (d := d + 0) (q.kept (frS.up (a := 95) (k := 11) (x := 0) frS.rf rfl)) (hU.keptU (b := (am_up mem 95 11 0)) rfl rfl)) ?_
    intro r22 mem22 hq22
    obtain ⟨rfl, hu22, hd22, hf22, hg22⟩ := hq22
    show am_Rn l G _ _ 25 [some (.inr (.inr 96)), some (.inl n), some (.inl v)] [] mem22 _
    refine rn_aload_n (x := 95) (q := 26) dX9_stake_25 rfl rfl ?_
    refine rn_iload_n (x := n) (q := 27) dX9_stake_26 rfl rfl ?_
    refine rn_callV (b := 95) (as := [.inl n]) (rest := []) (q := 30) dX9_stake_27 ml_X9_290 sm_X9_goStake rfl rfl (by decide) (by omega) rfl rfl (Nat.le_of_ble_eq_true rfl) rfl (m_goStake (d := d + 1) hd22 n (by omega) (by omega) (by omega)) ?_
    intro r27 mem27 hq27
    obtain ⟨rfl, he27, hf27⟩ := hq27
    show am_Rn l G _ _ 30 [some (.inr (.inr 96)), some (.inl n), some (.inl v)] [] mem27 _
    refine rn_aload_n (x := 95) (q := 31) dX9_stake_30 rfl rfl ?_
    refine rn_get (a := 95) (v := .inr (.inr 97)) (q := 34) dX9_stake_31 fl_X9_9 rfl rfl rfl ?_
    refine rn_bipush (q := 36) dX9_stake_34 ⟨by decide, by decide⟩ rfl ?_
    refine rn_ialdV (a := 96) (v := ((eK e : Int) + n)) (q := 37) dX9_stake_36 rfl (by omega) (by omega) (he27.a.2.2.2.2.2.1.trans (show ((((eK e : Int) + n).toNat : Nat) : Int) = _ by omega)) rfl ?_
    refine rn_iret dX9_stake_37 rfl ?_
    refine hQ _ _ ⟨(eK e : Int) + n, _, Or.inr (Or.inr (Or.inr ⟨by omega, by omega, by omega, by omega, by omega, rfl, rfl⟩)), ?_⟩
    rw [if_pos (by omega)]
    exact act_end9 hR hu22 hf22 hg22 he27 hf27
  · refine rn_iload_n (x := v) (q := 16) dX9_stake_15 rfl rfl ?_
    refine rn_iret dX9_stake_16 rfl ?_
    rcases hp with ⟨a, hp⟩ | ⟨a, -⟩
    · refine hQ _ _ ⟨_, _, hp, ?_⟩
      rw [if_neg (by omega)]
      exact act_no9 q hR hU
    · omega
theorem m_refusesAdvance (q : DQ X sn sg h e NB mem) (n : Int) : am_Sm l G yX9_refusesAdvance mt_X9_refusesAdvance (d + 1) [.inr (.inr 96), .inl n] mem (fun q m => ∃ v, q = some (.inl v) ∧ mem = m ∧ ((v < 0 ∧ hanP e n v e) ∨ (v = 0 ∧ (1 ≤ n ∧ n ≤ 9999) ∧ n ≤ ((eB e / 4 : Nat) : Int)))) := by
  refine am_enterQ (ls := [some (.inr (.inr 96)), some (.inl n)]) (by decide) rfl (Nat.le_of_ble_eq_true rfl) rfl (fun hok Q hQ => ?_)
  have b := q.bd
  refine rn_iload_n (x := n) (q := 1) dX9_refusesAdvance_0 rfl rfl ?_
  refine rn_iconst (q := 2) dX9_refusesAdvance_1 (am_okd rfl) rfl ?_
  refine rn_sipush (q := 5) dX9_refusesAdvance_2 ⟨by decide, by decide⟩ rfl ?_
  refine rn_callS (as := [.inl n, .inl 1, .inl 9999]) (rest := []) (q := 8) dX9_refusesAdvance_5 ml_X9_116 sm_X9_in (by omega) rfl rfl (Nat.le_of_ble_eq_true rfl) rfl (s_in9 (d := d + 0) n 1 9999) ?_
  intro r5 mem5 hq5
  obtain ⟨⟨rfl, hi5⟩ | ⟨rfl, hi5⟩, rfl⟩ := hq5
  · show am_Rn l G _ _ 8 [some (.inr (.inr 96)), some (.inl n)] [.inl 1] mem _
    refine rn_ifne (t := 13) (q := 11) dX9_refusesAdvance_8 rfl rfl (fun w8 => ?_) (fun h => absurd h (by decide))
    refine rn_iload_n (x := n) (q := 14) dX9_refusesAdvance_13 rfl rfl ?_
    refine rn_aload_n (x := 95) (q := 15) dX9_refusesAdvance_14 rfl rfl ?_
    refine rn_get (a := 95) (v := .inr (.inr 97)) (q := 18) dX9_refusesAdvance_15 fl_X9_9 rfl rfl rfl ?_
    refine rn_bipush (q := 20) dX9_refusesAdvance_18 ⟨by decide, by decide⟩ rfl ?_
    refine rn_ialdV (a := 96) (v := (eB e : Int)) (q := 21) dX9_refusesAdvance_20 rfl (by omega) (by omega) q.bk rfl ?_
    refine rn_iconst (q := 22) dX9_refusesAdvance_21 (am_okd rfl) rfl ?_
    refine rn_idivN (z := (((eB e) / 4 : Nat) : Int)) (q := 23) dX9_refusesAdvance_22 (by decide) rfl (by unfold am_ok; omega) rfl ?_
    refine rn_cmple (t := 31) (q := 26) dX9_refusesAdvance_23 rfl rfl (fun w23 => ?_) (fun w23 => ?_)
    · refine rn_iconst (q := 32) dX9_refusesAdvance_31 (am_okd rfl) rfl ?_
      refine rn_iret dX9_refusesAdvance_32 rfl ?_
      first | (exfalso; omega) | (exact hQ _ _ ⟨_, rfl, rfl, Or.inl ⟨by omega, by unfold hanP; simp only [and_true]; omega⟩⟩) | (exact hQ _ _ ⟨_, rfl, rfl, Or.inr ⟨rfl, by omega⟩⟩)
    · refine rn_bipush (q := 28) dX9_refusesAdvance_26 ⟨by decide, by decide⟩ rfl ?_
      refine rn_goto (t := 32) dX9_refusesAdvance_28 rfl ?_
      refine rn_iret dX9_refusesAdvance_32 rfl ?_
      first | (exfalso; omega) | (exact hQ _ _ ⟨_, rfl, rfl, Or.inl ⟨by omega, by unfold hanP; simp only [and_true]; omega⟩⟩) | (exact hQ _ _ ⟨_, rfl, rfl, Or.inr ⟨rfl, by omega⟩⟩)
  · show am_Rn l G _ _ 8 [some (.inr (.inr 96)), some (.inl n)] [.inl 0] mem _
    refine rn_ifne (t := 13) (q := 11) dX9_refusesAdvance_8 rfl rfl (fun h => absurd h (by decide)) (fun w8 => ?_)
    refine rn_iconst (q := 12) dX9_refusesAdvance_11 (am_okd rfl) rfl ?_
    refine rn_iret dX9_refusesAdvance_12 rfl ?_
    first | (exfalso; omega) | (exact hQ _ _ ⟨_, rfl, rfl, Or.inl ⟨by omega, by unfold hanP; simp only [and_true]; omega⟩⟩) | (exact hQ _ _ ⟨_, rfl, rfl, Or.inr ⟨rfl, by omega⟩⟩)
theorem m_advance (q : DQ X sn sg h e NB mem) {R : List Int} (hR : m_row R mem) (hU : m_undo U mem) (n : Int) : am_Sm l G yX9_advance mt_X9_advance (d + 2) [.inr (.inr 96), .inl n] mem (fun q m => ∃ v e3, hanP e n v e3 ∧ AM v e3 (if 0 ≤ v then pushU U e else U) R mem q m) := by
  refine am_enterQ (ls := [some (.inr (.inr 96)), some (.inl n), none]) (by decide) rfl (Nat.le_of_ble_eq_true rfl) rfl (fun hok Q hQ => ?_)
  have b := q.bd
  refine rn_aload_n (x := 95) (q := 1) dX9_advance_0 rfl rfl ?_
  refine rn_iconst (q := 2) dX9_advance_1 (am_okd rfl) rfl ?_
  refine rn_puti (a := 95) (q := 5) dX9_advance_2 fl_X9_107 rfl rfl rfl rfl ?_
  refine rn_aload_n (x := 95) (q := 6) dX9_advance_5 rfl rfl ?_
  refine rn_iload_n (x := n) (q := 7) dX9_advance_6 rfl rfl ?_
  refine rn_callV (b := 95) (as := [.inl n]) (rest := []) (q := 10) dX9_advance_7 ml_X9_293 sm_X9_refusesAdvance rfl rfl (by decide) (by omega) rfl rfl (Nat.le_of_ble_eq_true rfl) rfl (m_refusesAdvance (d := d + 0) (q.kept (frS.up (a := 95) (k := 11) (x := 0) frS.rf rfl)) n) ?_
  intro r7 mem7 hq7
  obtain ⟨v, rfl, rfl, hp⟩ := hq7
  show am_Rn l G _ _ 10 [some (.inr (.inr 96)), some (.inl n), none] [.inl v] (am_up mem 95 11 0) _
  refine rn_istore_n (ls' := [some (.inr (.inr 96)), some (.inl n), some (.inl v)]) (q := 11) dX9_advance_10 (by decide) rfl rfl ?_
  refine rn_iload_n (x := v) (q := 12) dX9_advance_11 rfl rfl ?_
  refine rn_ifge (t := 17) (q := 15) dX9_advance_12 rfl rfl (fun w12 => ?_) (fun w12 => ?_)
  · refine rn_aload_n (x := 95) (q := 18) dX9_advance_17 rfl rfl ?_
    refine rn_aload_n (x := 95) (q := 19) dX9_advance_18 rfl rfl ?_
    refine rn_get (a := 95) (v := .inr (.inr 97)) (q := 22) dX9_advance_19 fl_X9_9 rfl rfl rfl ?_
    refine rn_callV (b := 95) (as := [.inr (.inr 97)]) (rest := []) (q := 25) dX9_advance_22 ml_X9_268 sm_X9_remember rfl rfl (by decide) (by omega) rfl rfl (Nat.le_of_ble_eq_true rfl) rfl (m_remQ (d := d + 0) (q.kept (frS.up (a := 95) (k := 11) (x := 0) frS.rf rfl)) (hU.keptU (b := (am_up mem 95 11 0)) rfl rfl)) ?_
    intro r22 mem22 hq22
    obtain ⟨rfl, hu22, hd22, hf22, hg22⟩ := hq22
    show am_Rn l G _ _ 25 [some (.inr (.inr 96)), some (.inl n), some (.inl v)] [] mem22 _
    refine rn_aload_n (x := 95) (q := 26) dX9_advance_25 rfl rfl ?_
    refine rn_get (a := 95) (v := .inr (.inr 97)) (q := 29) dX9_advance_26 fl_X9_9 rfl rfl rfl ?_
    refine rn_bipush (q := 31) dX9_advance_29 ⟨by decide, by decide⟩ rfl ?_
    refine rn_dup2 (q := 32) dX9_advance_31 rfl rfl rfl ?_
    refine rn_ialdV (a := 96) (v := (eB e : Int)) (q := 33) dX9_advance_32 rfl (by omega) (by omega) hd22.bk rfl ?_
    refine rn_iload_n (x := n) (q := 34) dX9_advance_33 rfl rfl ?_
    refine rn_isubN (z := ((eB e : Int) - n)) (q := 35) dX9_advance_34 rfl (by unfold am_ok; omega) rfl ?_
    refine rn_iastV (a := 96) (m1 := am_up mem22 96 24 ((eB e : Int) - n)) (q := 36) dX9_advance_35 rfl (by omega) (by omega) rfl rfl ?_
    refine rn_aload_n (x := 95) (q := 37) dX9_advance_36 rfl rfl ?_
    refine rn_get (a := 95) (v := .inr (.inr 97)) (q := 40) dX9_advance_37 fl_X9_9 rfl rfl rfl ?_
    refine rn_bipush (q := 42) dX9_advance_40 ⟨by decide, by decide⟩ rfl ?_
    refine rn_ialdV (a := 96) (v := ((eB e : Int) - n)) (q := 43) dX9_advance_42 rfl (by omega) (by omega) rfl rfl ?_
    refine rn_iret dX9_advance_43 rfl ?_
    refine hQ _ _ ⟨(eB e : Int) - n, _, Or.inr (Or.inr ⟨by omega, by omega, rfl, rfl⟩), ?_⟩
    rw [if_pos (by omega)]
    have A := hd22.es.a
    refine act_end9 hR hu22 hf22 hg22 (m_est_of (fun j hj => ?_) (fun j hj => ?_) (fun j hj => ?_) ?_ ?_ ?_ ?_ ?_) (fun b2 hb => am_up_ne hb)
    · rw [am_up_neq (by omega)]; exact A.1 j hj
    · rw [am_up_neq (by omega)]; exact A.2.1 j hj
    · rw [am_up_neq (by omega)]; exact A.2.2.1 j hj
    · show (eB e : Int) - n = ((((eB e : Int) - n).toNat : Nat) : Int); omega
    · exact A.2.2.2.2.1
    · exact A.2.2.2.2.2.1
    · exact A.2.2.2.2.2.2.1
    · exact A.2.2.2.2.2.2.2
  · refine rn_iload_n (x := v) (q := 16) dX9_advance_15 rfl rfl ?_
    refine rn_iret dX9_advance_16 rfl ?_
    rcases hp with ⟨a, hp⟩ | ⟨a, -⟩
    · refine hQ _ _ ⟨_, _, hp, ?_⟩
      rw [if_neg (by omega)]
      exact act_no9 q hR hU
    · omega
theorem m_gain (q : DQ X sn sg h e NB mem) {R : List Int} (hR : m_row R mem) (hU : m_undo U mem) (v : Int) : am_Sm l G yX9_gain mt_X9_gain (d + 2) [.inr (.inr 96), .inl v] mem (fun q m => (¬ (-5 ≤ v ∧ v ≤ 5) → AM (-1) e U R mem q m) ∧ (-5 ≤ v ∧ v ≤ 5 → AM (10 + eG e) (eH e, eS e, eP e, eN e, eB e, eM e, eK e, v) (pushU U e) R mem q m)) := by
  refine am_enterQ (ls := [some (.inr (.inr 96)), some (.inl v), none]) (by decide) rfl (Nat.le_of_ble_eq_true rfl) rfl (fun hok Q hQ => ?_)
  have b := q.bd
  refine rn_aload_n (x := 95) (q := 1) dX9_gain_0 rfl rfl ?_
  refine rn_iconst (q := 2) dX9_gain_1 (am_okd rfl) rfl ?_
  refine rn_puti (a := 95) (q := 5) dX9_gain_2 fl_X9_107 rfl rfl rfl rfl ?_
  refine rn_iload_n (x := v) (q := 6) dX9_gain_5 rfl rfl ?_
  refine rn_bipush (q := 8) dX9_gain_6 ⟨by decide, by decide⟩ rfl ?_
  refine rn_iconst (q := 9) dX9_gain_8 (am_okd rfl) rfl ?_
  refine rn_callS (as := [.inl v, .inl (-5), .inl 5]) (rest := []) (q := 12) dX9_gain_9 ml_X9_116 sm_X9_in (by omega) rfl rfl (Nat.le_of_ble_eq_true rfl) rfl (s_in9 (d := d + 1) v (-5) 5) ?_
  intro r9 mem9 hq9
  obtain ⟨⟨rfl, hi9⟩ | ⟨rfl, hi9⟩, rfl⟩ := hq9
  · show am_Rn l G _ _ 12 [some (.inr (.inr 96)), some (.inl v), none] [.inl 1] (am_up mem 95 11 0) _
    refine rn_ifne (t := 17) (q := 15) dX9_gain_12 rfl rfl (fun w12 => ?_) (fun h => absurd h (by decide))
    refine rn_aload_n (x := 95) (q := 18) dX9_gain_17 rfl rfl ?_
    refine rn_aload_n (x := 95) (q := 19) dX9_gain_18 rfl rfl ?_
    refine rn_get (a := 95) (v := .inr (.inr 97)) (q := 22) dX9_gain_19 fl_X9_9 rfl rfl rfl ?_
    refine rn_callV (b := 95) (as := [.inr (.inr 97)]) (rest := []) (q := 25) dX9_gain_22 ml_X9_268 sm_X9_remember rfl rfl (by decide) (by omega) rfl rfl (Nat.le_of_ble_eq_true rfl) rfl (m_remQ (d := d + 0) (q.kept (frS.up (a := 95) (k := 11) (x := 0) frS.rf rfl)) (hU.keptU (b := (am_up mem 95 11 0)) rfl rfl)) ?_
    intro r22 mem22 hq22
    obtain ⟨rfl, hu22, hd22, hf22, hg22⟩ := hq22
    show am_Rn l G _ _ 25 [some (.inr (.inr 96)), some (.inl v), none] [] mem22 _
    refine rn_aload_n (x := 95) (q := 26) dX9_gain_25 rfl rfl ?_
    refine rn_get (a := 95) (v := .inr (.inr 97)) (q := 29) dX9_gain_26 fl_X9_9 rfl rfl rfl ?_
    refine rn_bipush (q := 31) dX9_gain_29 ⟨by decide, by decide⟩ rfl ?_
    refine rn_ialdV (a := 96) (v := (eG e)) (q := 32) dX9_gain_31 rfl (by omega) (by omega) hd22.gn rfl ?_
    refine rn_istore_n (ls' := [some (.inr (.inr 96)), some (.inl v), some (.inl (eG e))]) (q := 33) dX9_gain_32 (by decide) rfl rfl ?_
    refine rn_aload_n (x := 95) (q := 34) dX9_gain_33 rfl rfl ?_
    refine rn_get (a := 95) (v := .inr (.inr 97)) (q := 37) dX9_gain_34 fl_X9_9 rfl rfl rfl ?_
    refine rn_bipush (q := 39) dX9_gain_37 ⟨by decide, by decide⟩ rfl ?_
    refine rn_iload_n (x := v) (q := 40) dX9_gain_39 rfl rfl ?_
    refine rn_iastV (a := 96) (m1 := am_up mem22 96 27 v) (q := 41) dX9_gain_40 rfl (by omega) (by omega) rfl rfl ?_
    refine rn_bipush (q := 43) dX9_gain_41 ⟨by decide, by decide⟩ rfl ?_
    refine rn_iload_n (x := (eG e)) (q := 44) dX9_gain_43 rfl rfl ?_
    refine rn_iaddN (z := (10 + (eG e))) (q := 45) dX9_gain_44 rfl (by unfold am_ok; omega) rfl ?_
    refine rn_iret dX9_gain_45 rfl ?_
    refine hQ _ _ ⟨fun z => absurd (by omega) z, fun _ => ?_⟩
    have A := hd22.es.a
    refine act_end9 hR hu22 hf22 hg22 (m_est_of (fun j hj => ?_) (fun j hj => ?_) (fun j hj => ?_) ?_ ?_ ?_ ?_ ?_) (fun b2 hb => am_up_ne hb)
    · rw [am_up_neq (by omega)]; exact A.1 j hj
    · rw [am_up_neq (by omega)]; exact A.2.1 j hj
    · rw [am_up_neq (by omega)]; exact A.2.2.1 j hj
    · exact A.2.2.2.1
    · exact A.2.2.2.2.1
    · exact A.2.2.2.2.2.1
    · rfl
    · exact A.2.2.2.2.2.2.2
  · show am_Rn l G _ _ 12 [some (.inr (.inr 96)), some (.inl v), none] [.inl 0] (am_up mem 95 11 0) _
    refine rn_ifne (t := 17) (q := 15) dX9_gain_12 rfl rfl (fun h => absurd h (by decide)) (fun w12 => ?_)
    refine rn_iconst (q := 16) dX9_gain_15 (am_okd rfl) rfl ?_
    refine rn_iret dX9_gain_16 rfl ?_
    exact hQ _ _ ⟨fun _ => act_no9 q hR hU, fun z => by omega⟩
theorem m_goNightsN (q : DQ X sn sg h e NB mem) (n : Nat) (hn : n ≤ 99) : am_Sm l G yX9_goNights mt_X9_goNights (d + 179) [.inr (.inr 96), .inr (.inr 97), .inl (n : Int)] mem (fun q m => q = none ∧ m_est (itE X h sn sg e n) 96 0 m ∧ fr_n9 96 mem m) := s_goNights9 (arr := 96) (Or.inl rfl) q.1.1 q.1.2 q.rl q.sng q.hs n hn q.2.2.2.2.2.2.2 q.eo q.es q.2.2.1
theorem nts_end {m1 m2 m3 : am_M} {e3 : est} {R : List Int} {v : Int} (f1 : frS s9a mem m1) (u1 : m_undo U m1) (e2h : m_est e3 96 0 m2) (f2 : fr_n9 96 m1 m2) (hr : m_row R m3) (f3 : frS s9r m2 m3) : AM v e3 U R mem (some (.inl v)) m3 := by
  refine ⟨rfl, e2h.to (fun j _ => f3 96 _ rfl), ?_, hr, (f1.tr f2.to9a).tr f3.a9⟩
  refine ⟨(f3 95 24 rfl).trans ((f2.2 24 (by decide) (by decide) (by decide)).trans u1.1), u1.2.1, fun j hj => (u1.2.2 j hj).to (fun i _ => ?_)⟩
  rw [f3 107 _ rfl, f2.1 107 (by decide) (by decide) (by decide) (by decide) (by decide)]
theorem m_nights (q : DQ X sn sg h e NB mem) {R : List Int} (hR : m_row R mem) (hU : m_undo U mem) (n : Int) : am_Sm l G yX9_nights mt_X9_nights (d + 180) [.inr (.inr 96), .inl n] mem (fun q m => (¬ (0 ≤ n ∧ n ≤ 60) → AM (-1) e U R mem q m) ∧ (0 ≤ n ∧ n ≤ 60 → AM (eB (itE X h sn sg e n.toNat) : Int) (itE X h sn sg e n.toNat) (if 0 < n then pushU U e else U) [(eM (itE X h sn sg e n.toNat) : Int) - (eM e : Int), (eK (itE X h sn sg e n.toNat) : Int)] mem q m)) := by
  refine am_enterQ (ls := [some (.inr (.inr 96)), some (.inl n), none]) (by decide) rfl (Nat.le_of_ble_eq_true rfl) rfl (fun hok Q hQ => ?_)
  have b := q.bd
  by_cases hn : 0 ≤ n ∧ n ≤ 60
  · obtain ⟨k, rfl⟩ : ∃ k : Nat, n = (k : Int) := ⟨n.toNat, by omega⟩
    have io := itE_ok (X := X) (sn := sn) (sg := sg) q.eo k
    have io1 := io.2.2.2.2.2.1
    have io2 := io.2.2.2.2.2.2.1
    rw [Int.toNat_natCast] at hQ
    by_cases h0 : k = 0
    · refine rn_aload_n (x := 95) (q := 1) dX9_nights_0 rfl rfl ?_
      refine rn_iconst (q := 2) dX9_nights_1 (am_okd rfl) rfl ?_
      refine rn_puti (a := 95) (q := 5) dX9_nights_2 fl_X9_107 rfl rfl rfl rfl ?_
      refine rn_iload_n (x := (k : Int)) (q := 6) dX9_nights_5 rfl rfl ?_
      refine rn_iconst (q := 7) dX9_nights_6 (am_okd rfl) rfl ?_
      refine rn_bipush (q := 9) dX9_nights_7 ⟨by decide, by decide⟩ rfl ?_
      refine rn_callS (as := [.inl (k : Int), .inl 0, .inl 60]) (rest := []) (q := 12) dX9_nights_9 ml_X9_116 sm_X9_in (by omega) rfl rfl (Nat.le_of_ble_eq_true rfl) rfl (s_in9 (d := d + 179) (k : Int) 0 60) ?_
      intro r9 mem9 hq9
      obtain ⟨⟨rfl, hi9⟩ | ⟨rfl, hi9⟩, rfl⟩ := hq9
      · show am_Rn l G _ _ 12 [some (.inr (.inr 96)), some (.inl (k : Int)), none] [.inl 1] (am_up mem 95 11 0) _
        refine rn_ifne (t := 17) (q := 15) dX9_nights_12 rfl rfl (fun w12 => ?_) (fun h => absurd h (by decide))
        refine rn_iload_n (x := (k : Int)) (q := 18) dX9_nights_17 rfl rfl ?_
        refine rn_ifle (t := 29) (q := 21) dX9_nights_18 rfl rfl (fun w18 => ?_) (fun h => absurd h (by omega))
        refine rn_aload_n (x := 95) (q := 30) dX9_nights_29 rfl rfl ?_
        refine rn_get (a := 95) (v := .inr (.inr 97)) (q := 33) dX9_nights_30 fl_X9_9 rfl rfl rfl ?_
        refine rn_bipush (q := 35) dX9_nights_33 ⟨by decide, by decide⟩ rfl ?_
        refine rn_ialdV (a := 96) (v := (eM e : Int)) (q := 36) dX9_nights_35 rfl (by omega) (by omega) (q.kept (frS.up (a := 95) (k := 11) (x := 0) frS.rf rfl)).mn rfl ?_
        refine rn_istore_n (ls' := [some (.inr (.inr 96)), some (.inl (k : Int)), some (.inl (eM e : Int))]) (q := 37) dX9_nights_36 (by decide) rfl rfl ?_
        refine rn_aload_n (x := 95) (q := 38) dX9_nights_37 rfl rfl ?_
        refine rn_aload_n (x := 95) (q := 39) dX9_nights_38 rfl rfl ?_
        refine rn_get (a := 95) (v := .inr (.inr 97)) (q := 42) dX9_nights_39 fl_X9_9 rfl rfl rfl ?_
        refine rn_iload_n (x := (k : Int)) (q := 43) dX9_nights_42 rfl rfl ?_
        refine rn_callV (b := 95) (as := [.inr (.inr 97), .inl (k : Int)]) (rest := []) (q := 46) dX9_nights_43 ml_X9_271 sm_X9_goNights rfl rfl (by decide) (by omega) rfl rfl (Nat.le_of_ble_eq_true rfl) rfl (m_goNightsN (d := d + 0) (q.kept (frS.up (a := 95) (k := 11) (x := 0) frS.rf rfl)) k (by omega)) ?_
        intro r43 mem43 hq43
        obtain ⟨rfl, he43, hf43⟩ := hq43
        show am_Rn l G _ _ 46 [some (.inr (.inr 96)), some (.inl (k : Int)), some (.inl (eM e : Int))] [] mem43 _
        refine rn_aload_n (x := 95) (q := 47) dX9_nights_46 rfl rfl ?_
        refine rn_iconst (q := 48) dX9_nights_47 (am_okd rfl) rfl ?_
        refine rn_puti (a := 95) (q := 51) dX9_nights_48 fl_X9_110 rfl rfl rfl rfl ?_
        refine rn_aload_n (x := 95) (q := 52) dX9_nights_51 rfl rfl ?_
        refine rn_aload_n (x := 95) (q := 53) dX9_nights_52 rfl rfl ?_
        refine rn_get (a := 95) (v := .inr (.inr 97)) (q := 56) dX9_nights_53 fl_X9_9 rfl rfl rfl ?_
        refine rn_bipush (q := 58) dX9_nights_56 ⟨by decide, by decide⟩ rfl ?_
        refine rn_ialdV (a := 96) (v := (eM (itE X h sn sg e k) : Int)) (q := 59) dX9_nights_58 rfl (by omega) (by omega) he43.a.2.2.2.2.1 rfl ?_
        refine rn_iload_n (x := (eM e : Int)) (q := 60) dX9_nights_59 rfl rfl ?_
        refine rn_isubN (z := ((eM (itE X h sn sg e k) : Int) - (eM e : Int))) (q := 61) dX9_nights_60 rfl (by unfold am_ok; omega) rfl ?_
        refine rn_i2l (q := 62) dX9_nights_61 rfl ?_
        refine rn_callV (b := 95) (as := [.inr (.inl ((eM (itE X h sn sg e k) : Int) - (eM e : Int)))]) (rest := []) (q := 65) dX9_nights_62 ml_X9_275 sm_X9_tell rfl rfl (by decide) (by omega) rfl rfl (Nat.le_of_ble_eq_true rfl) rfl (m_tellC (d := d + 179) m_row0 (by decide) ((eM (itE X h sn sg e k) : Int) - (eM e : Int))) ?_
        intro r62 mem62 hq62
        obtain ⟨rfl, hr62, hf62, hf62a, -⟩ := hq62
        show am_Rn l G _ _ 65 [some (.inr (.inr 96)), some (.inl (k : Int)), some (.inl (eM e : Int))] [] mem62 _
        refine rn_aload_n (x := 95) (q := 66) dX9_nights_65 rfl rfl ?_
        refine rn_aload_n (x := 95) (q := 67) dX9_nights_66 rfl rfl ?_
        refine rn_get (a := 95) (v := .inr (.inr 97)) (q := 70) dX9_nights_67 fl_X9_9 rfl rfl rfl ?_
        refine rn_bipush (q := 72) dX9_nights_70 ⟨by decide, by decide⟩ rfl ?_
        refine rn_ialdV (a := 96) (v := (eK (itE X h sn sg e k) : Int)) (q := 73) dX9_nights_72 rfl (by omega) (by omega) ((hf62a 96 26 rfl rfl).trans he43.a.2.2.2.2.2.1) rfl ?_
        refine rn_i2l (q := 74) dX9_nights_73 rfl ?_
        refine rn_callV (b := 95) (as := [.inr (.inl (eK (itE X h sn sg e k) : Int))]) (rest := []) (q := 77) dX9_nights_74 ml_X9_275 sm_X9_tell rfl rfl (by decide) (by omega) rfl rfl (Nat.le_of_ble_eq_true rfl) rfl (m_tellC (d := d + 179) hr62 (by simp) (eK (itE X h sn sg e k) : Int)) ?_
        intro r74 mem74 hq74
        obtain ⟨rfl, hr74, hf74, hf74a, -⟩ := hq74
        show am_Rn l G _ _ 77 [some (.inr (.inr 96)), some (.inl (k : Int)), some (.inl (eM e : Int))] [] mem74 _
        refine rn_aload_n (x := 95) (q := 78) dX9_nights_77 rfl rfl ?_
        refine rn_get (a := 95) (v := .inr (.inr 97)) (q := 81) dX9_nights_78 fl_X9_9 rfl rfl rfl ?_
        refine rn_bipush (q := 83) dX9_nights_81 ⟨by decide, by decide⟩ rfl ?_
        refine rn_ialdV (a := 96) (v := (eB (itE X h sn sg e k) : Int)) (q := 84) dX9_nights_83 rfl (by omega) (by omega) ((hf74a 96 24 rfl rfl).trans ((hf62a 96 24 rfl rfl).trans he43.a.2.2.2.1)) rfl ?_
        refine rn_iret dX9_nights_84 rfl ?_
        refine hQ _ _ ⟨fun z => absurd hn z, fun _ => ?_⟩
        rw [if_neg (by omega)]
        exact nts_end (m1 := am_up mem 95 11 0) (frS.rf.up rfl) (hU.keptU rfl rfl) he43 hf43 hr74 (((frS.rf.up rfl).tr hf62).tr hf74)
      · show am_Rn l G _ _ 12 [some (.inr (.inr 96)), some (.inl (k : Int)), none] [.inl 0] (am_up mem 95 11 0) _
        refine rn_ifne (t := 17) (q := 15) dX9_nights_12 rfl rfl (fun h => absurd h (by decide)) (fun w12 => ?_)
        refine rn_iconst (q := 16) dX9_nights_15 (am_okd rfl) rfl ?_
        refine rn_iret dX9_nights_16 rfl ?_
        exfalso; omega
    · refine rn_aload_n (x := 95) (q := 1) dX9_nights_0 rfl rfl ?_
      refine rn_iconst (q := 2) dX9_nights_1 (am_okd rfl) rfl ?_
      refine rn_puti (a := 95) (q := 5) dX9_nights_2 fl_X9_107 rfl rfl rfl rfl ?_
      refine rn_iload_n (x := (k : Int)) (q := 6) dX9_nights_5 rfl rfl ?_
      refine rn_iconst (q := 7) dX9_nights_6 (am_okd rfl) rfl ?_
      refine rn_bipush (q := 9) dX9_nights_7 ⟨by decide, by decide⟩ rfl ?_
      refine rn_callS (as := [.inl (k : Int), .inl 0, .inl 60]) (rest := []) (q := 12) dX9_nights_9 ml_X9_116 sm_X9_in (by omega) rfl rfl (Nat.le_of_ble_eq_true rfl) rfl (s_in9 (d := d + 179) (k : Int) 0 60) ?_
      intro r9 mem9 hq9
      obtain ⟨⟨rfl, hi9⟩ | ⟨rfl, hi9⟩, rfl⟩ := hq9
      · show am_Rn l G _ _ 12 [some (.inr (.inr 96)), some (.inl (k : Int)), none] [.inl 1] (am_up mem 95 11 0) _
        refine rn_ifne (t := 17) (q := 15) dX9_nights_12 rfl rfl (fun w12 => ?_) (fun h => absurd h (by decide))
        refine rn_iload_n (x := (k : Int)) (q := 18) dX9_nights_17 rfl rfl ?_
        refine rn_ifle (t := 29) (q := 21) dX9_nights_18 rfl rfl (fun h => absurd h (by omega)) (fun w18 => ?_)
        refine rn_aload_n (x := 95) (q := 22) dX9_nights_21 rfl rfl ?_
        refine rn_aload_n (x := 95) (q := 23) dX9_nights_22 rfl rfl ?_
        refine rn_get (a := 95) (v := .inr (.inr 97)) (q := 26) dX9_nights_23 fl_X9_9 rfl rfl rfl ?_
        refine rn_callV (b := 95) (as := [.inr (.inr 97)]) (rest := []) (q := 29) dX9_nights_26 ml_X9_268 sm_X9_remember rfl rfl (by decide) (by omega) rfl rfl (Nat.le_of_ble_eq_true rfl) rfl (m_remQ (d := d + 178) (q.kept (frS.up (a := 95) (k := 11) (x := 0) frS.rf rfl)) (hU.keptU (b := (am_up mem 95 11 0)) rfl rfl)) ?_
        intro r26 mem26 hq26
        obtain ⟨rfl, hu26, hd26, hf26, hg26⟩ := hq26
        show am_Rn l G _ _ 29 [some (.inr (.inr 96)), some (.inl (k : Int)), none] [] mem26 _
        refine rn_aload_n (x := 95) (q := 30) dX9_nights_29 rfl rfl ?_
        refine rn_get (a := 95) (v := .inr (.inr 97)) (q := 33) dX9_nights_30 fl_X9_9 rfl rfl rfl ?_
        refine rn_bipush (q := 35) dX9_nights_33 ⟨by decide, by decide⟩ rfl ?_
        refine rn_ialdV (a := 96) (v := (eM e : Int)) (q := 36) dX9_nights_35 rfl (by omega) (by omega) hd26.mn rfl ?_
        refine rn_istore_n (ls' := [some (.inr (.inr 96)), some (.inl (k : Int)), some (.inl (eM e : Int))]) (q := 37) dX9_nights_36 (by decide) rfl rfl ?_
        refine rn_aload_n (x := 95) (q := 38) dX9_nights_37 rfl rfl ?_
        refine rn_aload_n (x := 95) (q := 39) dX9_nights_38 rfl rfl ?_
        refine rn_get (a := 95) (v := .inr (.inr 97)) (q := 42) dX9_nights_39 fl_X9_9 rfl rfl rfl ?_
        refine rn_iload_n (x := (k : Int)) (q := 43) dX9_nights_42 rfl rfl ?_
        refine rn_callV (b := 95) (as := [.inr (.inr 97), .inl (k : Int)]) (rest := []) (q := 46) dX9_nights_43 ml_X9_271 sm_X9_goNights rfl rfl (by decide) (by omega) rfl rfl (Nat.le_of_ble_eq_true rfl) rfl (m_goNightsN (d := d + 0) hd26 k (by omega)) ?_
        intro r43 mem43 hq43
        obtain ⟨rfl, he43, hf43⟩ := hq43
        show am_Rn l G _ _ 46 [some (.inr (.inr 96)), some (.inl (k : Int)), some (.inl (eM e : Int))] [] mem43 _
        refine rn_aload_n (x := 95) (q := 47) dX9_nights_46 rfl rfl ?_
        refine rn_iconst (q := 48) dX9_nights_47 (am_okd rfl) rfl ?_
        refine rn_puti (a := 95) (q := 51) dX9_nights_48 fl_X9_110 rfl rfl rfl rfl ?_
        refine rn_aload_n (x := 95) (q := 52) dX9_nights_51 rfl rfl ?_
        refine rn_aload_n (x := 95) (q := 53) dX9_nights_52 rfl rfl ?_
        refine rn_get (a := 95) (v := .inr (.inr 97)) (q := 56) dX9_nights_53 fl_X9_9 rfl rfl rfl ?_
        refine rn_bipush (q := 58) dX9_nights_56 ⟨by decide, by decide⟩ rfl ?_
        refine rn_ialdV (a := 96) (v := (eM (itE X h sn sg e k) : Int)) (q := 59) dX9_nights_58 rfl (by omega) (by omega) he43.a.2.2.2.2.1 rfl ?_
        refine rn_iload_n (x := (eM e : Int)) (q := 60) dX9_nights_59 rfl rfl ?_
        refine rn_isubN (z := ((eM (itE X h sn sg e k) : Int) - (eM e : Int))) (q := 61) dX9_nights_60 rfl (by unfold am_ok; omega) rfl ?_
        refine rn_i2l (q := 62) dX9_nights_61 rfl ?_
        refine rn_callV (b := 95) (as := [.inr (.inl ((eM (itE X h sn sg e k) : Int) - (eM e : Int)))]) (rest := []) (q := 65) dX9_nights_62 ml_X9_275 sm_X9_tell rfl rfl (by decide) (by omega) rfl rfl (Nat.le_of_ble_eq_true rfl) rfl (m_tellC (d := d + 179) m_row0 (by decide) ((eM (itE X h sn sg e k) : Int) - (eM e : Int))) ?_
        intro r62 mem62 hq62
        obtain ⟨rfl, hr62, hf62, hf62a, -⟩ := hq62
        show am_Rn l G _ _ 65 [some (.inr (.inr 96)), some (.inl (k : Int)), some (.inl (eM e : Int))] [] mem62 _
        refine rn_aload_n (x := 95) (q := 66) dX9_nights_65 rfl rfl ?_
        refine rn_aload_n (x := 95) (q := 67) dX9_nights_66 rfl rfl ?_
        refine rn_get (a := 95) (v := .inr (.inr 97)) (q := 70) dX9_nights_67 fl_X9_9 rfl rfl rfl ?_
        refine rn_bipush (q := 72) dX9_nights_70 ⟨by decide, by decide⟩ rfl ?_
        refine rn_ialdV (a := 96) (v := (eK (itE X h sn sg e k) : Int)) (q := 73) dX9_nights_72 rfl (by omega) (by omega) ((hf62a 96 26 rfl rfl).trans he43.a.2.2.2.2.2.1) rfl ?_
        refine rn_i2l (q := 74) dX9_nights_73 rfl ?_
        refine rn_callV (b := 95) (as := [.inr (.inl (eK (itE X h sn sg e k) : Int))]) (rest := []) (q := 77) dX9_nights_74 ml_X9_275 sm_X9_tell rfl rfl (by decide) (by omega) rfl rfl (Nat.le_of_ble_eq_true rfl) rfl (m_tellC (d := d + 179) hr62 (by simp) (eK (itE X h sn sg e k) : Int)) ?_
        intro r74 mem74 hq74
        obtain ⟨rfl, hr74, hf74, hf74a, -⟩ := hq74
        show am_Rn l G _ _ 77 [some (.inr (.inr 96)), some (.inl (k : Int)), some (.inl (eM e : Int))] [] mem74 _
        refine rn_aload_n (x := 95) (q := 78) dX9_nights_77 rfl rfl ?_
        refine rn_get (a := 95) (v := .inr (.inr 97)) (q := 81) dX9_nights_78 fl_X9_9 rfl rfl rfl ?_
        refine rn_bipush (q := 83) dX9_nights_81 ⟨by decide, by decide⟩ rfl ?_
        refine rn_ialdV (a := 96) (v := (eB (itE X h sn sg e k) : Int)) (q := 84) dX9_nights_83 rfl (by omega) (by omega) ((hf74a 96 24 rfl rfl).trans ((hf62a 96 24 rfl rfl).trans he43.a.2.2.2.1)) rfl ?_
        refine rn_iret dX9_nights_84 rfl ?_
        refine hQ _ _ ⟨fun z => absurd hn z, fun _ => ?_⟩
        rw [if_pos (by omega)]
        exact nts_end (m1 := mem26) (frS.tr (frS.rf.up (a := 95) (k := 11) (x := 0) rfl) (fr_rem hf26 hg26)) hu26 he43 hf43 hr74 (((frS.rf.up rfl).tr hf62).tr hf74)
      · show am_Rn l G _ _ 12 [some (.inr (.inr 96)), some (.inl (k : Int)), none] [.inl 0] (am_up mem 95 11 0) _
        refine rn_ifne (t := 17) (q := 15) dX9_nights_12 rfl rfl (fun h => absurd h (by decide)) (fun w12 => ?_)
        refine rn_iconst (q := 16) dX9_nights_15 (am_okd rfl) rfl ?_
        refine rn_iret dX9_nights_16 rfl ?_
        exfalso; omega
  · refine rn_aload_n (x := 95) (q := 1) dX9_nights_0 rfl rfl ?_
    refine rn_iconst (q := 2) dX9_nights_1 (am_okd rfl) rfl ?_
    refine rn_puti (a := 95) (q := 5) dX9_nights_2 fl_X9_107 rfl rfl rfl rfl ?_
    refine rn_iload_n (x := n) (q := 6) dX9_nights_5 rfl rfl ?_
    refine rn_iconst (q := 7) dX9_nights_6 (am_okd rfl) rfl ?_
    refine rn_bipush (q := 9) dX9_nights_7 ⟨by decide, by decide⟩ rfl ?_
    refine rn_callS (as := [.inl n, .inl 0, .inl 60]) (rest := []) (q := 12) dX9_nights_9 ml_X9_116 sm_X9_in (by omega) rfl rfl (Nat.le_of_ble_eq_true rfl) rfl (s_in9 (d := d + 179) n 0 60) ?_
    intro r9 mem9 hq9
    obtain ⟨⟨rfl, hi9⟩ | ⟨rfl, hi9⟩, rfl⟩ := hq9
    · show am_Rn l G _ _ 12 [some (.inr (.inr 96)), some (.inl n), none] [.inl 1] (am_up mem 95 11 0) _
      refine rn_ifne (t := 17) (q := 15) dX9_nights_12 rfl rfl (fun w12 => ?_) (fun h => absurd h (by decide))
      exfalso; omega
    · show am_Rn l G _ _ 12 [some (.inr (.inr 96)), some (.inl n), none] [.inl 0] (am_up mem 95 11 0) _
      refine rn_ifne (t := 17) (q := 15) dX9_nights_12 rfl rfl (fun h => absurd h (by decide)) (fun w12 => ?_)
      refine rn_iconst (q := 16) dX9_nights_15 (am_okd rfl) rfl ?_
      refine rn_iret dX9_nights_16 rfl ?_
      exact hQ _ _ ⟨fun _ => act_no9 q hR hU, fun z => absurd z hn⟩
theorem m_undoC (q : DQ X sn sg h e NB mem) {R : List Int} (hR : m_row R mem) (hU : m_undo U mem) : am_Sm l G yX9_undo mt_X9_undo d [.inr (.inr 96)] mem (fun q m => (U = [] → AM (-1) e U R mem q m) ∧ (U ≠ [] → AM ((U.length : Int) - 1) (U.getD (U.length - 1) est0) U.dropLast R mem q m)) := by
  refine am_enterQ (ls := [some (.inr (.inr 96)), none]) (by decide) rfl (Nat.le_of_ble_eq_true rfl) rfl (fun hok Q hQ => ?_)
  by_cases hn : U = []
  · have h0 : mem 95 24 = 0 := by rw [hU.1, hn]; rfl
    refine rn_aload_n (x := 95) (q := 1) dX9_undo_0 rfl rfl ?_
    refine rn_iconst (q := 2) dX9_undo_1 (am_okd rfl) rfl ?_
    refine rn_puti (a := 95) (q := 5) dX9_undo_2 fl_X9_107 rfl rfl rfl rfl ?_
    refine rn_aload_n (x := 95) (q := 6) dX9_undo_5 rfl rfl ?_
    refine rn_get (a := 95) (v := .inl 0) (q := 9) dX9_undo_6 fl_X9_175 rfl (am_gi h0) rfl ?_
    refine rn_ifne (t := 14) (q := 12) dX9_undo_9 rfl rfl (fun h => absurd h (by omega)) (fun w9 => ?_)
    refine rn_iconst (q := 13) dX9_undo_12 (am_okd rfl) rfl ?_
    refine rn_iret dX9_undo_13 rfl ?_
    exact hQ _ _ ⟨fun _ => act_no9 q hR hU, fun z => absurd hn z⟩
  · have hp := List.length_pos_iff.mpr hn
    have h12 := hU.2.1
    have hj := hU.2.2 (U.length - 1) (by omega)
    have L : ∀ i : Nat, i ≤ 29 → ∀ (m : am_M), (∀ b, b ≠ 96 → m b = am_up (am_up mem 95 11 0) 95 24 ((U.length : Int) - 1) b) → (∀ j, j < i → m 96 j = mem 107 (29 * (U.length - 1) + j)) → am_Rn l G mt_X9_undo d 26 [some (.inr (.inr 96)), some (.inl (i : Int))] [] m Q := by
      refine am_dn 29 (fun i hi ih m hf hE => ?_)
      have e24 : m 95 24 = ((U.length - 1 : Nat) : Int) := by rw [hf 95 (by decide), am_up_self]; omega
      refine rn_iload_n (x := (i : Int)) (q := 27) dX9_undo_26 rfl rfl ?_
      refine rn_bipush (q := 29) dX9_undo_27 ⟨by decide, by decide⟩ rfl ?_
      refine rn_cmpge (t := 58) (q := 32) dX9_undo_29 rfl rfl (fun w29 => ?_) (fun w29 => ?_)
      · refine rn_aload_n (x := 95) (q := 59) dX9_undo_58 rfl rfl ?_
        refine rn_get (a := 95) (v := .inl ((U.length - 1 : Nat) : Int)) (q := 62) dX9_undo_59 fl_X9_175 rfl (am_gi e24) rfl ?_
        refine rn_iret dX9_undo_62 rfl ?_
        obtain rfl : i = 29 := by omega
        have ev : ((U.length - 1 : Nat) : Int) = (U.length : Int) - 1 := by omega
        rw [ev]
        refine hQ _ _ ⟨fun z => absurd z hn, fun _ => ⟨rfl, hj.to (fun j hj2 => ?_), ⟨?_, ?_, fun j hj2 => ?_⟩, ⟨?_, hR.2.1, fun i hi => ?_⟩, ?_⟩⟩
        · rw [Nat.zero_add]; exact hE j hj2
        · rw [e24, List.length_dropLast]
        · rw [List.length_dropLast]; omega
        · rw [List.length_dropLast] at hj2
          have := (hU.2.2 j (by omega)).kept (m2 := m) (by rw [hf 107 (by decide)]; rfl)
          rwa [show U.dropLast.getD j est0 = U.getD j est0 by rw [List.getD_eq_getElem?_getD, List.getD_eq_getElem?_getD, List.getElem?_dropLast, if_pos hj2]]
        · rw [hf 95 (by decide)]; exact hR.1
        · rw [hf 102 (by decide)]; exact hR.2.2 i hi
        · exact (frS.tr ((frS.rf.up (a := 95) (k := 11) (x := 0) rfl).up (a := 95) (k := 24) (x := (U.length : Int) - 1) rfl) (fr_96 hf))
      · refine rn_aload_n (x := 95) (q := 33) dX9_undo_32 rfl rfl ?_
        refine rn_get (a := 95) (v := .inr (.inr 97)) (q := 36) dX9_undo_33 fl_X9_9 rfl rfl rfl ?_
        refine rn_iload_n (x := (i : Int)) (q := 37) dX9_undo_36 rfl rfl ?_
        refine rn_aload_n (x := 95) (q := 38) dX9_undo_37 rfl rfl ?_
        refine rn_get (a := 95) (v := .inr (.inr 108)) (q := 41) dX9_undo_38 fl_X9_49 rfl rfl rfl ?_
        refine rn_bipush (q := 43) dX9_undo_41 ⟨by decide, by decide⟩ rfl ?_
        refine rn_aload_n (x := 95) (q := 44) dX9_undo_43 rfl rfl ?_
        refine rn_get (a := 95) (v := .inl ((U.length - 1 : Nat) : Int)) (q := 47) dX9_undo_44 fl_X9_175 rfl (am_gi e24) rfl ?_
        refine rn_imulN (z := ((29 * (U.length - 1) : Nat) : Int)) (q := 48) dX9_undo_47 (by omega) (by unfold am_ok; omega) rfl ?_
        refine rn_iload_n (x := (i : Int)) (q := 49) dX9_undo_48 rfl rfl ?_
        refine rn_iaddN (z := ((29 * (U.length - 1) + i : Nat) : Int)) (q := 50) dX9_undo_49 (by omega) (by unfold am_ok; omega) rfl ?_
        refine rn_ialdV (a := 107) (v := (mem 107 (29 * (U.length - 1) + i))) (q := 51) dX9_undo_50 rfl (by omega) (by omega) (show m 107 (29 * (U.length - 1) + i) = _ by rw [hf 107 (by decide)]; rfl) rfl ?_
        refine rn_iastV (a := 96) (m1 := am_up m 96 i (mem 107 (29 * (U.length - 1) + i))) (q := 52) dX9_undo_51 rfl (by omega) (by omega) rfl rfl ?_
        refine rn_iincN (x := (i : Int)) (z := ((i + 1 : Nat) : Int)) (ls' := [some (.inr (.inr 96)), some (.inl ((i + 1 : Nat) : Int))]) (q := 55) dX9_undo_52 rfl (by decide) (by omega) (by unfold am_ok; omega) rfl rfl ?_
        refine rn_goto (t := 26) dX9_undo_55 rfl ?_
        refine ih (by omega) _ (fun b2 hb => by rw [am_up_ne hb]; exact hf b2 hb) (fun j hj2 => ?_)
        rw [am_up_at]
        by_cases hji : j = i
        · rw [if_pos hji, hji]
        · rw [if_neg hji]; exact hE j (by omega)
    refine rn_aload_n (x := 95) (q := 1) dX9_undo_0 rfl rfl ?_
    refine rn_iconst (q := 2) dX9_undo_1 (am_okd rfl) rfl ?_
    refine rn_puti (a := 95) (q := 5) dX9_undo_2 fl_X9_107 rfl rfl rfl rfl ?_
    refine rn_aload_n (x := 95) (q := 6) dX9_undo_5 rfl rfl ?_
    refine rn_get (a := 95) (v := .inl (U.length : Int)) (q := 9) dX9_undo_6 fl_X9_175 rfl (am_gi hU.1) rfl ?_
    refine rn_ifne (t := 14) (q := 12) dX9_undo_9 rfl rfl (fun w9 => ?_) (fun h => absurd h (by omega))
    refine rn_aload_n (x := 95) (q := 15) dX9_undo_14 rfl rfl ?_
    refine rn_dup (q := 16) dX9_undo_15 rfl rfl ?_
    refine rn_get (a := 95) (v := .inl (U.length : Int)) (q := 19) dX9_undo_16 fl_X9_175 rfl (am_gi hU.1) rfl ?_
    refine rn_iconst (q := 20) dX9_undo_19 (am_okd rfl) rfl ?_
    refine rn_isubN (z := ((U.length : Int) - 1)) (q := 21) dX9_undo_20 rfl (by unfold am_ok; omega) rfl ?_
    refine rn_puti (a := 95) (q := 24) dX9_undo_21 fl_X9_175 rfl rfl rfl rfl ?_
    refine rn_iconst (q := 25) dX9_undo_24 (am_okd rfl) rfl ?_
    refine rn_istore_n (ls' := [some (.inr (.inr 96)), some (.inl 0)]) (q := 26) dX9_undo_25 (by decide) rfl rfl ?_
    exact L 0 (by decide) _ (fun _ _ => rfl) (fun j hj2 => absurd hj2 (Nat.not_lt_zero j))
end P81
