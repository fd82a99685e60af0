/-! questions: words for their ends, small callees -/
def QC (v : Int) (R : List Int) (mem : am_M) : Option am_V → am_M → Prop := fun q m => q = some (.inl v) ∧ frS s8r mem m ∧ c_row R m
def QM (v : Int) (R : List Int) (mem : am_M) : Option am_V → am_M → Prop := fun q m => q = some (.inl v) ∧ frS s9r mem m ∧ m_row R m
theorem c_row0 {m : am_M} : c_row [] (am_up m 3 1 0) := ⟨am_up_self, Nat.zero_le _, fun i hi => absurd hi (Nat.not_lt_zero _)⟩
theorem m_row0 {m : am_M} : m_row [] (am_up m 95 10 0) := ⟨am_up_self, Nat.zero_le _, fun i hi => absurd hi (Nat.not_lt_zero _)⟩
theorem c_row.kept {R : List Int} {a b : am_M} (q : c_row R a) (f : frS s8 a b) : c_row R b := ⟨(f 3 1 rfl).trans q.1, q.2.1, fun i hi => (f 4 i rfl).trans (q.2.2 i hi)⟩
theorem m_row.kept {R : List Int} {a b : am_M} (q : m_row R a) (f : frS s9 a b) : m_row R b := ⟨(f 95 10 rfl).trans q.1, q.2.1, fun i hi => (f 102 i rfl).trans (q.2.2 i hi)⟩
theorem am_Sm_mono {l : Launch} {G : am_G} {y : MethodName} {M : am_Mt} {d : Nat} {as : List am_V} {mem : am_M} {Q Q' : Option am_V → am_M → Prop} (h : am_Sm l G y M d as mem Q) (hq : ∀ r m, Q r m → Q' r m) : am_Sm l G y M d as mem Q' := by
  intro hok p e ha hc hk s m args below hf happ hP hK
  obtain ⟨n, o, h1, h2, h3, ⟨⟨r, m', q1, q2⟩, q3⟩, q4⟩ := h hok p e ha hc hk s m args below hf happ hP hK
  exact ⟨n, o, h1, h2, h3, ⟨⟨r, m', hq _ _ q1, q2⟩, q3⟩, q4⟩
section P51
variable {l : Launch} {G : am_G} {d : Nat} {r : Nat} {X : List Nat} {C : List Int} {sn : Nat} {sg : Nat → Nat} {h : hrs} {e : est} {NB : Nat} {mem m : am_M}
theorem c_has (q : CQ r X C sn sg h e NB mem) (i : Int) : am_Sm l G yX6_has mt_X6_has d [.inr (.inr 6), .inl i] mem (fun q m => ((q = some (.inl 1) ∧ 0 ≤ i ∧ i < h.1) ∨ (q = some (.inl 0) ∧ ¬ (0 ≤ i ∧ i < h.1))) ∧ mem = m) := by
  have := s_has (l := l) (G := G) (d := d) i h.1 q.n
  refine am_Sm_mono this (fun r m hq => ?_)
  obtain ⟨rfl, rfl⟩ := hq
  refine ⟨?_, rfl⟩
  by_cases hh : 0 ≤ i ∧ i < h.1
  · rw [if_pos hh]; exact Or.inl ⟨rfl, hh⟩
  · rw [if_neg hh]; exact Or.inr ⟨rfl, hh⟩
theorem c_songOn (q : CQ r X C sn sg h e NB mem) (t : Nat) (ht : t < 1000000) : am_Sm l G yX6_songOn mt_X6_songOn d [.inr (.inr 6), .inl (t : Int)] mem (am_rr (some (.inl (sg (t % sn) : Int))) mem) := s_songOn q.sng t ht
theorem m_worthOn (q : DQ X sn sg h e NB mem) (t : Nat) (ht : t < 1000000) : am_Sm l G yX9_worthOn mt_X9_worthOn d [.inr (.inr 96), .inl (t : Int)] mem (am_rr (some (.inl (sg (t % sn) : Int))) mem) := s_worthOn q.sng t ht
theorem c_add {L : List Int} (hr : c_row L mem) (hl : L.length < 9) (x : Int) : am_Sm l G yX3_add mt_X3_add d [.inr (.inr 4), .inr (.inl x)] mem (fun q m => q = none ∧ c_row (L ++ [x]) m ∧ frS s8r mem m) := by
  refine am_Sm_mono (s_Radd L.length hl hr.1 x) (fun r m hq => ?_)
  obtain ⟨rfl, rfl⟩ := hq
  refine ⟨rfl, ⟨?_, by simp; omega, fun i hi => ?_⟩, (frS.rf.up rfl).up rfl⟩
  · rw [am_up_self]; simp
  · rw [lg_app hi]
    show am_up mem 4 L.length x 4 i = _
    rw [am_up_at]
    by_cases e : i = L.length
    · rw [if_pos e, if_pos e]
    · rw [if_neg e, if_neg e]; exact hr.2.2 i (by simp at hi; omega)
theorem m_tell {L : List Int} (hr : m_row L mem) (hl : L.length < 9) (x : Int) : am_Sm l G yX9_tell mt_X9_tell d [.inr (.inr 96), .inr (.inl x)] mem (fun q m => q = none ∧ m_row (L ++ [x]) m ∧ frS s9r mem m) := by
  refine am_Sm_mono (s_tell9 L.length (by omega) hr.1 x) (fun r m hq => ?_)
  obtain ⟨rfl, rfl⟩ := hq
  refine ⟨rfl, ⟨?_, by simp; omega, fun i hi => ?_⟩, (frS.rf.up rfl).up rfl⟩
  · rw [am_up_self]; simp
  · rw [lg_app hi]
    show am_up mem 102 L.length x 102 i = _
    rw [am_up_at]
    by_cases e : i = L.length
    · rw [if_pos e, if_pos e]
    · rw [if_neg e, if_neg e]; exact hr.2.2 i (by simp at hi; omega)
theorem s_in9 (v a b : Int) : am_Sm l G yX9_in mt_X9_in d [.inl v, .inl a, .inl b] mem (fun q m => ((q = some (.inl 1) ∧ a ≤ v ∧ v ≤ b) ∨ (q = some (.inl 0) ∧ ¬ (a ≤ v ∧ v ≤ b))) ∧ mem = m) := by
  refine am_enterQ (ls := [some (.inl v), some (.inl a), some (.inl b)]) (by decide) rfl (Nat.le_of_ble_eq_true rfl) rfl (fun hok Q hQ => ?_)
  refine rn_iload_n (x := v) (q := 1) dX9_in_0 rfl rfl ?_
  refine rn_iload_n (x := a) (q := 2) dX9_in_1 rfl rfl ?_
  refine rn_cmplt (t := 14) (q := 5) dX9_in_2 rfl rfl (fun w2 => ?_) (fun w2 => ?_)
  · refine rn_iconst (q := 15) dX9_in_14 (am_okd rfl) rfl ?_
    refine rn_zret dX9_in_15 rfl (by omega) ?_
    exact hQ _ _ ⟨by first | exact Or.inl ⟨rfl, by omega⟩ | exact Or.inr ⟨rfl, by omega⟩, rfl⟩
  · refine rn_iload_n (x := v) (q := 6) dX9_in_5 rfl rfl ?_
    refine rn_iload_n (x := b) (q := 7) dX9_in_6 rfl rfl ?_
    refine rn_cmpgt (t := 14) (q := 10) dX9_in_7 rfl rfl (fun w7 => ?_) (fun w7 => ?_)
    · refine rn_iconst (q := 15) dX9_in_14 (am_okd rfl) rfl ?_
      refine rn_zret dX9_in_15 rfl (by omega) ?_
      exact hQ _ _ ⟨by first | exact Or.inl ⟨rfl, by omega⟩ | exact Or.inr ⟨rfl, by omega⟩, rfl⟩
    · refine rn_iconst (q := 11) dX9_in_10 (am_okd rfl) rfl ?_
      refine rn_goto (t := 15) dX9_in_11 rfl ?_
      refine rn_zret dX9_in_15 rfl (by omega) ?_
      exact hQ _ _ ⟨by first | exact Or.inl ⟨rfl, by omega⟩ | exact Or.inr ⟨rfl, by omega⟩, rfl⟩
theorem s_has9 (b i : Nat) (hb : b < 2147483648) (hi : i < 32) : am_Sm l G yX9_has mt_X9_has d [.inl (b : Int), .inl (i : Int)] mem (fun q m => ((q = some (.inl 1) ∧ b.testBit i = true) ∨ (q = some (.inl 0) ∧ ¬ b.testBit i = true)) ∧ mem = m) := by
  refine am_enterQ (ls := [some (.inl (b : Int)), some (.inl (i : Int))]) (by decide) rfl (Nat.le_of_ble_eq_true rfl) rfl (fun hok Q hQ => ?_)
  refine rn_iload_n (x := (b : Int)) (q := 1) dX9_has_0 rfl rfl ?_
  refine rn_iload_n (x := (i : Int)) (q := 2) dX9_has_1 rfl rfl ?_
  refine rn_ishr (q := 3) dX9_has_2 rfl ?_
  refine rn_iconst (q := 4) dX9_has_3 (am_okd rfl) rfl ?_
  refine rn_iand (q := 5) dX9_has_4 rfl ?_
  rw [am_bit (b := b) (i := i) (by omega) (by omega)]
  by_cases b4 : Nat.testBit b i = true
  · rw [if_pos b4]
    refine rn_iconst (q := 6) dX9_has_5 (am_okd rfl) rfl ?_
    refine rn_cmpne (t := 13) (q := 9) dX9_has_6 rfl rfl (fun h => absurd h (by decide)) (fun w6 => ?_)
    refine rn_iconst (q := 10) dX9_has_9 (am_okd rfl) rfl ?_
    refine rn_goto (t := 14) dX9_has_10 rfl ?_
    refine rn_zret dX9_has_14 rfl (by omega) ?_
    exact hQ _ _ ⟨by first | exact Or.inl ⟨rfl, b4⟩ | exact Or.inr ⟨rfl, b4⟩, rfl⟩
  · rw [if_neg b4]
    refine rn_iconst (q := 6) dX9_has_5 (am_okd rfl) rfl ?_
    refine rn_cmpne (t := 13) (q := 9) dX9_has_6 rfl rfl (fun w6 => ?_) (fun h => absurd h (by decide))
    refine rn_iconst (q := 14) dX9_has_13 (am_okd rfl) rfl ?_
    refine rn_zret dX9_has_14 rfl (by omega) ?_
    exact hQ _ _ ⟨by first | exact Or.inl ⟨rfl, b4⟩ | exact Or.inr ⟨rfl, b4⟩, rfl⟩
theorem s_isMan9 (q : DQ X sn sg h e NB mem) (i : Int) : am_Sm l G yX9_isMan mt_X9_isMan (d + 1) [.inr (.inr 96), .inl i] mem (fun q m => ((q = some (.inl 1) ∧ 0 ≤ i ∧ i < h.1) ∨ (q = some (.inl 0) ∧ ¬ (0 ≤ i ∧ i < h.1))) ∧ mem = m) := by
  refine am_enterQ (ls := [some (.inr (.inr 96)), some (.inl i)]) (by decide) rfl (Nat.le_of_ble_eq_true rfl) rfl (fun hok Q hQ => ?_)
  have b := q.bd
  refine rn_iload_n (x := i) (q := 1) dX9_isMan_0 rfl rfl ?_
  refine rn_iconst (q := 2) dX9_isMan_1 (am_okd rfl) rfl ?_
  refine rn_aload_n (x := 95) (q := 3) dX9_isMan_2 rfl rfl ?_
  refine rn_get (a := 95) (v := .inl (h.1 : Int)) (q := 6) dX9_isMan_3 fl_X9_113 rfl (am_gi q.n) rfl ?_
  refine rn_iconst (q := 7) dX9_isMan_6 (am_okd rfl) rfl ?_
  refine rn_isubN (z := ((h.1 : Int) - 1)) (q := 8) dX9_isMan_7 rfl (by unfold am_ok; omega) rfl ?_
  refine rn_callS (as := [.inl i, .inl 0, .inl ((h.1 : Int) - 1)]) (rest := []) (q := 11) dX9_isMan_8 ml_X9_116 sm_X9_in (by omega) rfl rfl (Nat.le_of_ble_eq_true rfl) rfl (s_in9 (d := d + 0) i 0 ((h.1 : Int) - 1)) ?_
  intro r8 mem8 hq8
  obtain ⟨⟨rfl, hi8⟩ | ⟨rfl, hi8⟩, rfl⟩ := hq8
  · show am_Rn l G _ _ 11 [some (.inr (.inr 96)), some (.inl i)] [.inl 1] mem _
    refine rn_zret dX9_isMan_11 rfl (by omega) ?_
    exact hQ _ _ ⟨by first | exact Or.inl ⟨rfl, by omega⟩ | exact Or.inr ⟨rfl, by omega⟩, rfl⟩
  · show am_Rn l G _ _ 11 [some (.inr (.inr 96)), some (.inl i)] [.inl 0] mem _
    refine rn_zret dX9_isMan_11 rfl (by omega) ?_
    exact hQ _ _ ⟨by first | exact Or.inl ⟨rfl, by omega⟩ | exact Or.inr ⟨rfl, by omega⟩, rfl⟩
end P51
