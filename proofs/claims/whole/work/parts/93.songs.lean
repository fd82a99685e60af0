/-! songs -/
def dgc (c : Nat) : Prop := 48 ≤ c ∧ c ≤ 57
def sgBad (T : List Nat) (p : Nat) : Prop := p ≤ 16 ∧ (∀ j, j < p → dgc (T.getD j 0)) ∧ ((p < T.length ∧ (p = 16 ∨ ¬ dgc (T.getD p 0))) ∨ (T = [] ∧ p = 0))
def sgOK (T : List Nat) : Prop := 0 < T.length ∧ T.length ≤ 16 ∧ ∀ j, j < T.length → dgc (T.getD j 0)
theorem sgBad_le {T : List Nat} {p p2 : Nat} (h : sgBad T p) (g : sgBad T p2) : p ≤ p2 := by
  obtain ⟨h1, h2, h3⟩ := h
  obtain ⟨g1, g2, g3⟩ := g
  refine Nat.le_of_not_lt (fun hl => ?_)
  have hd := h2 p2 hl
  rcases g3 with ⟨g4, g5 | g5⟩ | ⟨g4, g5⟩
  · omega
  · exact g5 hd
  · subst g4
    rcases h3 with ⟨h4, -⟩ | ⟨-, h4⟩
    · exact absurd h4 (Nat.not_lt_zero _)
    · omega
theorem sgBad_un {T : List Nat} {p p2 : Nat} (h : sgBad T p) (g : sgBad T p2) : p = p2 := Nat.le_antisymm (sgBad_le h g) (sgBad_le g h)
theorem sgBad_no {T : List Nat} {p : Nat} (h : sgBad T p) (g : sgOK T) : False := by
  obtain ⟨h1, h2, h3⟩ := h
  obtain ⟨g1, g2, g3⟩ := g
  rcases h3 with ⟨g4, g5 | g5⟩ | ⟨g4, g5⟩
  · omega
  · exact g5 (g3 p g4)
  · subst g4; exact absurd g1 (by decide)
theorem txAt_n {T : List Nat} {p : Nat} (h : p < T.length) : txAt T (p : Int) = (T.getD p 0 : Int) := by
  unfold txAt
  rw [if_pos ⟨by omega, by omega⟩, Int.toNat_natCast]
theorem txAt_o {T : List Nat} {p : Nat} (h : T.length ≤ p) : txAt T (p : Int) = -1 := by
  unfold txAt
  rw [if_neg (by omega)]
theorem txDg_iff {T : List Nat} {p : Nat} (h : p < T.length) : 0 ≤ txDg T (p : Int) ↔ dgc (T.getD p 0) := by
  unfold txDg dgc
  rw [txAt_n h]
  split <;> omega
theorem txDg_v {T : List Nat} {p : Nat} (h : p < T.length) (hd : dgc (T.getD p 0)) : txDg T (p : Int) = ((T.getD p 0 - 48 : Nat) : Int) := by
  unfold txDg dgc at *
  rw [txAt_n h, if_pos (by omega)]
  omega
def sgF (T : List Nat) (i : Nat) : Nat := T.getD i 0 - 48
theorem sgF_9 {T : List Nat} (h : sgOK T) (i : Nat) : sgF T i ≤ 9 := by
  unfold sgF
  by_cases hi : i < T.length
  · have := h.2.2 i hi
    unfold dgc at this; omega
  · rw [List.getD_eq_getElem?_getD, List.getElem?_eq_none (by omega)]; exact Nat.zero_le _
def s8s (b k : Nat) : Bool := s8 b k || b == 1 || (b == 5 && k == 5) || b == 6
def s9s (b k : Nat) : Bool := s9 b k || (b == 95 && (k == 8 || k == 6)) || b == 100
section P93
variable {l : Launch} {G : am_G} {d : Nat} {r : Nat} {X : List Nat} {C : List Int} {sn : Nat} {sg : Nat → Nat} {h : hrs} {e : est} {NB : Nat} {mem m : am_M}
variable {T : List Nat} {M : am_M}
theorem aw_oc {a w x : Int} {c k : Nat} (h : c ≠ 95) : am_up (aw M a w) c k x = aw (am_up M c k x) a w := by
  funext b
  unfold aw
  by_cases hb : b = 95
  · subst hb
    funext j
    rw [am_up_ne (Ne.symm h)]
    rw [am_up_at, am_up_at, am_up_at, am_up_at, am_up_ne (Ne.symm h)]
  · rw [am_up_ne (a := 95) hb, am_up_ne (a := 95) hb]
    by_cases hc : b = c
    · subst hc
      rw [am_up_eq, am_up_eq, am_up_ne hb, am_up_ne hb]
    · rw [am_up_ne hc, am_up_ne hc, am_up_ne hb, am_up_ne hb]
theorem rd_of (hT : m_text T mem) (tp : Nat) (ht : tp ≤ 60) : m_rd (T.take tp) 101 T.length (am_up (bgn (am_up mem 95 11 0) 101 (T.length : Int) (tp : Int)) 95 8 0) := by
  obtain ⟨h1, h2, h3, h4⟩ := hT
  have hT2 : (T.take tp).length = min tp T.length := List.length_take
  refine ⟨⟨80, rfl, by omega⟩, rfl, rfl, h2, ⟨tp, rfl, ht, by omega⟩, take_256 h3, fun i hi => ?_⟩
  rw [take_gd (by omega), am_up_ne (by decide), bgn_ne (by decide), am_up_ne (by decide)]
  exact h4 i (by omega)
theorem m_rd.put {rd L : Nat} (h : m_rd T rd L M) {c k : Nat} {x : Int} (h1 : c ≠ 95) (h2 : c ≠ rd) : m_rd T rd L (am_up M c k x) := by
  obtain ⟨q1, q2, q3, q4, q5, q6, q7⟩ := h
  refine ⟨q1, by rw [am_up_ne (Ne.symm h1)]; exact q2, by rw [am_up_ne (Ne.symm h1)]; exact q3, q4, by rw [am_up_ne (Ne.symm h1)]; exact q5, q6, fun i hi => by rw [am_up_ne (Ne.symm h2)]; exact q7 i hi⟩
theorem c_faultInSongs (hT : c_text T mem) : am_Sm l G yX8_faultInSongs mt_X8_faultInSongs (d + 2) [.inr (.inr 1)] mem (fun q m => ((sgOK T ∧ q = some (.inl (-1))) ∨ ∃ p : Nat, sgBad T p ∧ q = some (.inl (p : Int))) ∧ mem = m) := by
  refine am_enterQ (ls := [some (.inr (.inr 1)), none]) (by decide) rfl (Nat.le_of_ble_eq_true rfl) rfl (fun hok Q hQ => ?_)
  have hl := hT.len
  have L : ∀ p : Nat, p ≤ T.length → p ≤ 16 → (∀ j, j < p → dgc (T.getD j 0)) → am_Rn l G mt_X8_faultInSongs (d + 2) 2 [some (.inr (.inr 1)), some (.inl (p : Int))] [] mem Q := by
    refine am_dn T.length (fun p hp ih h16 hj => ?_)
    refine rn_iload_n (x := (p : Int)) (q := 3) dX8_faultInSongs_2 rfl rfl ?_
    refine rn_aload_n (x := 0) (q := 4) dX8_faultInSongs_3 rfl rfl ?_
    refine rn_get (a := 0) (v := .inr (.inr 2)) (q := 7) dX8_faultInSongs_4 fl_X8_10 rfl rfl rfl ?_
    refine rn_get (a := 1) (v := .inl (T.length : Int)) (q := 10) dX8_faultInSongs_7 fl_X8_107 rfl (am_gi hT.1) rfl ?_
    refine rn_cmpge (t := 38) (q := 13) dX8_faultInSongs_10 rfl rfl (fun w10 => ?_) (fun w10 => ?_)
    · refine rn_aload_n (x := 0) (q := 39) dX8_faultInSongs_38 rfl rfl ?_
      refine rn_get (a := 0) (v := .inr (.inr 2)) (q := 42) dX8_faultInSongs_39 fl_X8_10 rfl rfl rfl ?_
      refine rn_get (a := 1) (v := .inl (T.length : Int)) (q := 45) dX8_faultInSongs_42 fl_X8_107 rfl (am_gi hT.1) rfl ?_
      refine rn_ifne (t := 52) (q := 48) dX8_faultInSongs_45 rfl rfl (fun w45 => ?_) (fun w45 => ?_)
      · refine rn_iconst (q := 53) dX8_faultInSongs_52 (am_okd rfl) rfl ?_
        refine rn_iret dX8_faultInSongs_53 rfl ?_
        obtain rfl : p = T.length := by omega
        first | exact hQ _ _ ⟨Or.inl ⟨⟨by omega, h16, hj⟩, rfl⟩, rfl⟩ | exact hQ _ _ ⟨Or.inr ⟨0, ⟨by decide, fun j hj2 => absurd hj2 (Nat.not_lt_zero j), Or.inr ⟨List.eq_nil_of_length_eq_zero (by omega), rfl⟩⟩, rfl⟩, rfl⟩
      · refine rn_iconst (q := 49) dX8_faultInSongs_48 (am_okd rfl) rfl ?_
        refine rn_goto (t := 53) dX8_faultInSongs_49 rfl ?_
        refine rn_iret dX8_faultInSongs_53 rfl ?_
        obtain rfl : p = T.length := by omega
        first | exact hQ _ _ ⟨Or.inl ⟨⟨by omega, h16, hj⟩, rfl⟩, rfl⟩ | exact hQ _ _ ⟨Or.inr ⟨0, ⟨by decide, fun j hj2 => absurd hj2 (Nat.not_lt_zero j), Or.inr ⟨List.eq_nil_of_length_eq_zero (by omega), rfl⟩⟩, rfl⟩, rfl⟩
    · refine rn_iload_n (x := (p : Int)) (q := 14) dX8_faultInSongs_13 rfl rfl ?_
      refine rn_bipush (q := 16) dX8_faultInSongs_14 ⟨by decide, by decide⟩ rfl ?_
      refine rn_cmpge (t := 30) (q := 19) dX8_faultInSongs_16 rfl rfl (fun w16 => ?_) (fun w16 => ?_)
      · refine rn_iload_n (x := (p : Int)) (q := 31) dX8_faultInSongs_30 rfl rfl ?_
        refine rn_iret dX8_faultInSongs_31 rfl ?_
        first | exact hQ _ _ ⟨Or.inr ⟨p, ⟨h16, hj, Or.inl ⟨by omega, Or.inl (by omega)⟩⟩, rfl⟩, rfl⟩ | exact hQ _ _ ⟨Or.inr ⟨p, ⟨h16, hj, Or.inl ⟨by omega, Or.inr (fun z => by have := (txDg_iff (T := T) (p := p) (by omega)).mpr z; omega)⟩⟩, rfl⟩, rfl⟩
      · refine rn_aload_n (x := 0) (q := 20) dX8_faultInSongs_19 rfl rfl ?_
        refine rn_get (a := 0) (v := .inr (.inr 2)) (q := 23) dX8_faultInSongs_20 fl_X8_10 rfl rfl rfl ?_
        refine rn_iload_n (x := (p : Int)) (q := 24) dX8_faultInSongs_23 rfl rfl ?_
        refine rn_callV (b := 1) (as := [.inl (p : Int)]) (rest := []) (q := 27) dX8_faultInSongs_24 ml_X8_119 sm_X7_digit rfl rfl (by decide) (by omega) rfl rfl (Nat.le_of_ble_eq_true rfl) rfl (s_Tdigit (d := d + 0) hT (p : Int)) ?_
        intro r24 mem24 hq24
        obtain ⟨rfl, rfl⟩ := hq24
        show am_Rn l G _ _ 27 [some (.inr (.inr 1)), some (.inl (p : Int))] [.inl (txDg T (p : Int))] mem _
        refine rn_ifge (t := 32) (q := 30) dX8_faultInSongs_27 rfl rfl (fun w27 => ?_) (fun w27 => ?_)
        · refine rn_iincN (x := (p : Int)) (z := ((p + 1 : Nat) : Int)) (ls' := [some (.inr (.inr 1)), some (.inl ((p + 1 : Nat) : Int))]) (q := 35) dX8_faultInSongs_32 rfl (by decide) (by omega) (by unfold am_ok; omega) rfl rfl ?_
          refine rn_goto (t := 2) dX8_faultInSongs_35 rfl ?_
          refine ih (by omega) (by omega) (fun j hj2 => ?_)
          by_cases hjp : j = p
          · rw [hjp]; exact (txDg_iff (by omega)).mp w27
          · exact hj j (by omega)
        · refine rn_iload_n (x := (p : Int)) (q := 31) dX8_faultInSongs_30 rfl rfl ?_
          refine rn_iret dX8_faultInSongs_31 rfl ?_
          first | exact hQ _ _ ⟨Or.inr ⟨p, ⟨h16, hj, Or.inl ⟨by omega, Or.inl (by omega)⟩⟩, rfl⟩, rfl⟩ | exact hQ _ _ ⟨Or.inr ⟨p, ⟨h16, hj, Or.inl ⟨by omega, Or.inr (fun z => by have := (txDg_iff (T := T) (p := p) (by omega)).mpr z; omega)⟩⟩, rfl⟩, rfl⟩
  refine rn_iconst (q := 1) dX8_faultInSongs_0 (am_okd rfl) rfl ?_
  refine rn_istore_n (ls' := [some (.inr (.inr 1)), some (.inl 0)]) (q := 2) dX8_faultInSongs_1 (by decide) rfl rfl ?_
  exact L 0 (Nat.zero_le _) (by decide) (fun j hj2 => absurd hj2 (Nat.not_lt_zero j))
theorem c_learn (hT : c_text T mem) (hs : sgOK T) : am_Sm l G yX6_learn mt_X6_learn (d + 2) [.inr (.inr 6), .inr (.inr 2)] mem (fun q m => q = none ∧ c_song T.length (sgF T) m ∧ (∀ b, b ≠ 5 → b ≠ 6 → m b = mem b) ∧ ∀ k, k ≠ 5 → m 5 k = mem 5 k) := by
  refine am_enterQ (ls := [some (.inr (.inr 6)), some (.inr (.inr 2)), none]) (by decide) rfl (Nat.le_of_ble_eq_true rfl) rfl (fun hok Q hQ => ?_)
  have hl := hs.2.1
  have L : ∀ p : Nat, p ≤ T.length → ∀ m : am_M, (∀ b, b ≠ 5 → b ≠ 6 → m b = mem b) → (∀ k, k ≠ 5 → m 5 k = mem 5 k) → m 5 5 = (T.length : Int) → (∀ j, j < p → m 6 j = (sgF T j : Int)) → am_Rn l G mt_X6_learn (d + 2) 15 [some (.inr (.inr 6)), some (.inr (.inr 2)), some (.inl (p : Int))] [] m Q := by
    refine am_dn T.length (fun p hp ih m hf hg h5 hj => ?_)
    have hT2 : c_text T m := ⟨by rw [hf 1 (by decide) (by decide)]; exact hT.1, hT.2.1, hT.2.2.1, fun i hi => by rw [hf 2 (by decide) (by decide)]; exact hT.2.2.2 i hi⟩
    refine rn_iload_n (x := (p : Int)) (q := 16) dX6_learn_15 rfl rfl ?_
    refine rn_aload_n (x := 5) (q := 17) dX6_learn_16 rfl rfl ?_
    refine rn_get (a := 5) (v := .inl (T.length : Int)) (q := 20) dX6_learn_17 fl_X6_27 rfl (am_gi h5) rfl ?_
    refine rn_cmpge (t := 40) (q := 23) dX6_learn_20 rfl rfl (fun w20 => ?_) (fun w20 => ?_)
    · refine rn_vret dX6_learn_40 rfl ?_
      obtain rfl : p = T.length := by omega
      exact hQ _ _ ⟨rfl, ⟨h5, hs.1, hl, sgF_9 hs, hj⟩, hf, hg⟩
    · refine rn_aload_n (x := 5) (q := 24) dX6_learn_23 rfl rfl ?_
      refine rn_get (a := 5) (v := .inr (.inr 7)) (q := 27) dX6_learn_24 fl_X6_9 rfl rfl rfl ?_
      refine rn_iload_n (x := (p : Int)) (q := 28) dX6_learn_27 rfl rfl ?_
      refine rn_aload_n (x := 1) (q := 29) dX6_learn_28 rfl rfl ?_
      refine rn_iload_n (x := (p : Int)) (q := 30) dX6_learn_29 rfl rfl ?_
      refine rn_callV (b := 1) (as := [.inl (p : Int)]) (rest := [.inl (p : Int), .inr (.inr 7)]) (q := 33) dX6_learn_30 ml_X6_50 sm_X7_digit rfl rfl (by decide) (by omega) rfl rfl (Nat.le_of_ble_eq_true rfl) rfl (s_Tdigit (d := d + 0) hT2 (p : Int)) ?_
      intro r30 mem30 hq30
      obtain ⟨rfl, rfl⟩ := hq30
      show am_Rn l G _ _ 33 [some (.inr (.inr 6)), some (.inr (.inr 2)), some (.inl (p : Int))] [.inl (txDg T (p : Int)), .inl (p : Int), .inr (.inr 7)] m _
      refine rn_iastV (a := 6) (m1 := am_up m 6 p (txDg T (p : Int))) (q := 34) dX6_learn_33 rfl (by omega) (by omega) rfl rfl ?_
      refine rn_iincN (x := (p : Int)) (z := ((p + 1 : Nat) : Int)) (ls' := [some (.inr (.inr 6)), some (.inr (.inr 2)), some (.inl ((p + 1 : Nat) : Int))]) (q := 37) dX6_learn_34 rfl (by decide) (by omega) (by unfold am_ok; omega) rfl rfl ?_
      refine rn_goto (t := 15) dX6_learn_37 rfl ?_
      refine ih (by omega) _ (fun b h1 h2 => by rw [am_up_ne h2]; exact hf b h1 h2) (fun k hk => by rw [am_up_ne (by decide)]; exact hg k hk) h5 (fun j hj2 => ?_)
      rw [am_up_at]
      by_cases hjp : j = p
      · rw [if_pos hjp, txDg_v (by omega) (hs.2.2 p (by omega)), hjp]; rfl
      · rw [if_neg hjp]; exact hj j (by omega)
  refine rn_aload_n (x := 5) (q := 1) dX6_learn_0 rfl rfl ?_
  refine rn_aload_n (x := 1) (q := 2) dX6_learn_1 rfl rfl ?_
  refine rn_get (a := 1) (v := .inl (T.length : Int)) (q := 5) dX6_learn_2 fl_X6_41 rfl (am_gi hT.1) rfl ?_
  refine rn_bipush (q := 7) dX6_learn_5 ⟨by decide, by decide⟩ rfl ?_
  refine rn_mmin (q := 10) dX6_learn_7 am_mm_X6_44 am_mminw (Nat.le_of_ble_eq_true rfl) rfl ?_
  rw [show (min (T.length : Int) 16) = (T.length : Int) from (by omega)]
  refine rn_puti (a := 5) (q := 13) dX6_learn_10 fl_X6_27 rfl rfl rfl rfl ?_
  refine rn_iconst (q := 14) dX6_learn_13 (am_okd rfl) rfl ?_
  refine rn_istore_n (ls' := [some (.inr (.inr 6)), some (.inr (.inr 2)), some (.inl 0)]) (q := 15) dX6_learn_14 (by decide) rfl rfl ?_
  exact L 0 (Nat.zero_le _) _ (fun b h1 h2 => am_up_ne h1) (fun k hk => am_up_neq hk) rfl (fun j hj2 => absurd hj2 (Nat.not_lt_zero j))
theorem c_songs (hT : c_text T mem) : am_Sm l G yX8_songs mt_X8_songs (d + 3) [.inr (.inr 1)] mem (fun q m => ((sgOK T ∧ q = some (.inl (T.length : Int)) ∧ c_song T.length (sgF T) m) ∨ ∃ p : Nat, sgBad T p ∧ q = some (.inl (-1 - (p : Int))) ∧ frS s8 (am_up mem 1 1 0) m) ∧ m 1 1 = 0 ∧ frS s8s mem m) := by
  refine am_enterQ (ls := [some (.inr (.inr 1)), none, none]) (by decide) rfl (Nat.le_of_ble_eq_true rfl) rfl (fun hok Q hQ => ?_)
  have hl := hT.len
  refine rn_aload_n (x := 0) (q := 1) dX8_songs_0 rfl rfl ?_
  refine rn_callV (b := 0) (as := []) (rest := []) (q := 4) dX8_songs_1 ml_X8_111 sm_X8_faultInSongs rfl rfl (by decide) (by omega) rfl rfl (Nat.le_of_ble_eq_true rfl) rfl (c_faultInSongs (d := d + 0) hT) ?_
  intro r1 mem1 hq1
  obtain ⟨⟨hs1, rfl⟩ | ⟨p, hs1, rfl⟩, rfl⟩ := hq1
  · show am_Rn l G _ _ 4 [some (.inr (.inr 1)), none, none] [.inl (-1)] mem _
    refine rn_istore_n (ls' := [some (.inr (.inr 1)), some (.inl (-1)), none]) (q := 5) dX8_songs_4 (by decide) rfl rfl ?_
    refine rn_iconst (q := 6) dX8_songs_5 (am_okd rfl) rfl ?_
    refine rn_iload_n (x := (-1)) (q := 7) dX8_songs_6 rfl rfl ?_
    refine rn_isubN (z := 0) (q := 8) dX8_songs_7 rfl (by have := hs1.1; unfold am_ok; omega) rfl ?_
    refine rn_istore_n (ls' := [some (.inr (.inr 1)), some (.inl (-1)), some (.inl 0)]) (q := 9) dX8_songs_8 (by decide) rfl rfl ?_
    refine rn_iload_n (x := (-1)) (q := 10) dX8_songs_9 rfl rfl ?_
    refine rn_iconst (q := 11) dX8_songs_10 (am_okd rfl) rfl ?_
    refine rn_cmpne (t := 33) (q := 14) dX8_songs_11 rfl rfl (fun h => absurd h (by decide)) (fun w11 => ?_)
    refine rn_aload_n (x := 0) (q := 15) dX8_songs_14 rfl rfl ?_
    refine rn_get (a := 0) (v := .inr (.inr 2)) (q := 18) dX8_songs_15 fl_X8_10 rfl rfl rfl ?_
    refine rn_get (a := 1) (v := .inl (T.length : Int)) (q := 21) dX8_songs_18 fl_X8_107 rfl (am_gi hT.1) rfl ?_
    refine rn_istore_n (ls' := [some (.inr (.inr 1)), some (.inl (-1)), some (.inl (T.length : Int))]) (q := 22) dX8_songs_21 (by decide) rfl rfl ?_
    refine rn_aload_n (x := 0) (q := 23) dX8_songs_22 rfl rfl ?_
    refine rn_get (a := 0) (v := .inr (.inr 6)) (q := 26) dX8_songs_23 fl_X8_26 rfl rfl rfl ?_
    refine rn_aload_n (x := 0) (q := 27) dX8_songs_26 rfl rfl ?_
    refine rn_get (a := 0) (v := .inr (.inr 2)) (q := 30) dX8_songs_27 fl_X8_10 rfl rfl rfl ?_
    refine rn_callV (b := 5) (as := [.inr (.inr 2)]) (rest := []) (q := 33) dX8_songs_30 ml_X8_115 sm_X6_learn rfl rfl (by decide) (by omega) rfl rfl (Nat.le_of_ble_eq_true rfl) rfl (c_learn (d := d + 0) hT hs1) ?_
    intro r30 mem30 hq30
    obtain ⟨rfl, hc30, hf30, hg30⟩ := hq30
    show am_Rn l G _ _ 33 [some (.inr (.inr 1)), some (.inl (-1)), some (.inl (T.length : Int))] [] mem30 _
    refine rn_aload_n (x := 0) (q := 34) dX8_songs_33 rfl rfl ?_
    refine rn_get (a := 0) (v := .inr (.inr 2)) (q := 37) dX8_songs_34 fl_X8_10 rfl rfl rfl ?_
    refine rn_iconst (q := 38) dX8_songs_37 (am_okd rfl) rfl ?_
    refine rn_puti (a := 1) (q := 41) dX8_songs_38 fl_X8_107 rfl rfl rfl rfl ?_
    refine rn_iload_n (x := (T.length : Int)) (q := 42) dX8_songs_41 rfl rfl ?_
    refine rn_iret dX8_songs_42 rfl ?_
    first | exact hQ _ _ ⟨Or.inr ⟨p, hs1, rfl, frS.rf⟩, rfl, frS.rf.up rfl⟩ | exact hQ _ _ ⟨Or.inl ⟨hs1, rfl, ⟨hc30.1, hc30.2⟩⟩, rfl, frS.up (fun b k hb => by
      unfold s8s at hb
      simp at hb
      by_cases h5 : b = 5
      · subst h5; exact hg30 k (by omega)
      · rw [hf30 b h5 (by omega)]) rfl⟩
  · show am_Rn l G _ _ 4 [some (.inr (.inr 1)), none, none] [.inl (p : Int)] mem _
    refine rn_istore_n (ls' := [some (.inr (.inr 1)), some (.inl (p : Int)), none]) (q := 5) dX8_songs_4 (by decide) rfl rfl ?_
    refine rn_iconst (q := 6) dX8_songs_5 (am_okd rfl) rfl ?_
    refine rn_iload_n (x := (p : Int)) (q := 7) dX8_songs_6 rfl rfl ?_
    refine rn_isubN (z := ((-1) - (p : Int))) (q := 8) dX8_songs_7 rfl (by have := hs1.1; unfold am_ok; omega) rfl ?_
    refine rn_istore_n (ls' := [some (.inr (.inr 1)), some (.inl (p : Int)), some (.inl ((-1) - (p : Int)))]) (q := 9) dX8_songs_8 (by decide) rfl rfl ?_
    refine rn_iload_n (x := (p : Int)) (q := 10) dX8_songs_9 rfl rfl ?_
    refine rn_iconst (q := 11) dX8_songs_10 (am_okd rfl) rfl ?_
    refine rn_cmpne (t := 33) (q := 14) dX8_songs_11 rfl rfl (fun w11 => ?_) (fun h => absurd h (by omega))
    refine rn_aload_n (x := 0) (q := 34) dX8_songs_33 rfl rfl ?_
    refine rn_get (a := 0) (v := .inr (.inr 2)) (q := 37) dX8_songs_34 fl_X8_10 rfl rfl rfl ?_
    refine rn_iconst (q := 38) dX8_songs_37 (am_okd rfl) rfl ?_
    refine rn_puti (a := 1) (q := 41) dX8_songs_38 fl_X8_107 rfl rfl rfl rfl ?_
    refine rn_iload_n (x := ((-1) - (p : Int))) (q := 42) dX8_songs_41 rfl rfl ?_
    refine rn_iret dX8_songs_42 rfl ?_
    first | exact hQ _ _ ⟨Or.inr ⟨p, hs1, rfl, frS.rf⟩, rfl, frS.rf.up rfl⟩ | exact hQ _ _ ⟨Or.inl ⟨hs1, rfl, ⟨hc30.1, hc30.2⟩⟩, rfl, frS.up (fun b k hb => by
      unfold s8s at hb
      simp at hb
      by_cases h5 : b = 5
      · subst h5; exact hg30 k (by omega)
      · rw [hf30 b h5 (by omega)]) rfl⟩
theorem txTk {n : Nat} (h : n < 16) (h2 : n < T.length) : txAt (T.take 16) (n : Int) = (T.getD n 0 : Int) := by
  rw [txAt_n (by rw [List.length_take]; omega), take_gd h]
theorem txTkO {n : Nat} (h : 16 ≤ n ∨ T.length ≤ n) : txAt (T.take 16) (n : Int) = -1 := txAt_o (by rw [List.length_take]; omega)
theorem s_digY {rd L : Nat} {X : List Nat} (hr : m_rd X rd L M) (n : Nat) (hn : n < 900) (hd : 48 ≤ txAt X (n : Int) ∧ txAt X (n : Int) ≤ 57) : am_Sm l G yX9_oneOf mt_X9_oneOf (d + 2) [.inr (.inr 96), .inl 48, .inl 10] (aw M (n : Int) (-1)) (fun q m => q = some (.inl (txAt X (n : Int) - 48)) ∧ m = aw M ((n + 1 : Nat) : Int) (-1)) := by
  refine am_Sm_mono (s_oneOf9 hr n (-1) 48 10 (by omega) (by omega) (by omega) (by omega)) (fun q m hq => ?_)
  obtain ⟨h1, h2⟩ := hq
  rw [if_pos ⟨rfl, by omega, by omega⟩] at h1 h2
  exact ⟨h1, h2.symm⟩
theorem s_digN {rd L : Nat} {X : List Nat} (hr : m_rd X rd L M) (n : Nat) (hn : n < 900) (hd : ¬ (48 ≤ txAt X (n : Int) ∧ txAt X (n : Int) ≤ 57)) : am_Sm l G yX9_oneOf mt_X9_oneOf (d + 2) [.inr (.inr 96), .inl 48, .inl 10] (aw M (n : Int) (-1)) (fun q m => q = some (.inl 0) ∧ m = aw M (n : Int) (n : Int)) := by
  refine am_Sm_mono (s_oneOf9 hr n (-1) 48 10 (by omega) (by omega) (by omega) (by omega)) (fun q m hq => ?_)
  obtain ⟨h1, h2⟩ := hq
  rw [if_neg (fun z => hd ⟨z.2.1, by omega⟩)] at h1 h2
  rw [if_pos rfl] at h2
  exact ⟨h1, h2.symm⟩
theorem s_wrY (L : Nat) (hL : M 95 13 = (L : Int)) (a : Nat) (h : L ≤ a) : am_Sm l G yX9_wasRight mt_X9_wasRight (d + 2) [.inr (.inr 96)] (aw M (a : Int) (-1)) (fun q m => q = some (.inl 1) ∧ m = aw M (a : Int) (-1)) := by
  refine am_Sm_mono (s_wasRight9 L hL a (-1)) (fun q m hq => ?_)
  obtain ⟨h1, h2⟩ := hq
  rw [show wrF a L (-1) = -1 by unfold wrF; rw [if_neg (by omega)]] at h1 h2
  rw [if_pos rfl] at h1
  exact ⟨h1, h2.symm⟩
theorem s_wrN (L : Nat) (hL : M 95 13 = (L : Int)) (a : Nat) (w : Int) (p : Nat) (hp : (w = -1 ∧ a < L ∧ p = a) ∨ w = (p : Int)) : am_Sm l G yX9_wasRight mt_X9_wasRight (d + 2) [.inr (.inr 96)] (aw M (a : Int) w) (fun q m => q = some (.inl 0) ∧ m = aw M (a : Int) (p : Int)) := by
  refine am_Sm_mono (s_wasRight9 L hL a w) (fun q m hq => ?_)
  obtain ⟨h1, h2⟩ := hq
  have e : wrF a L w = (p : Int) := by
    unfold wrF
    rcases hp with ⟨p1, p2, p3⟩ | p1
    · rw [if_pos p2, if_pos p1, p3]
    · by_cases hl : a < L
      · rw [if_pos hl, if_neg (by omega)]; exact p1
      · rw [if_neg hl]; exact p1
  rw [e] at h1 h2
  rw [if_neg (by omega)] at h1
  exact ⟨h1, h2.symm⟩
theorem m_songs (hT : m_text T mem) : am_Sm l G yX9_songs mt_X9_songs (d + 3) [.inr (.inr 96)] mem (fun q m => ((sgOK T ∧ q = some (.inl (T.length : Int)) ∧ m_song T.length (sgF T) m) ∨ ∃ p : Nat, sgBad T p ∧ q = some (.inl (-1 - (p : Int))) ∧ frS s9 (am_up mem 95 8 0) m) ∧ m 95 8 = 0 ∧ frS s9s mem m) := by
  refine am_enterQ (ls := [some (.inr (.inr 96)), none, none]) (by decide) rfl (Nat.le_of_ble_eq_true rfl) rfl (fun hok Q hQ => ?_)
  have hl := hT.len
  have B : ∀ (M : am_M) (n a p : Nat) (w : Int), frS s9 (am_up mem 95 8 0) M → M 95 13 = (T.length : Int) → ((w = -1 ∧ a < T.length ∧ p = a) ∨ w = (p : Int)) → sgBad T p → am_Rn l G mt_X9_songs (d + 3) 52 [some (.inr (.inr 96)), some (.inl (n : Int)), none] [] (aw M (a : Int) w) Q := by
    intro M n a p w hf h13 hp hb
    have h16 := hb.1
    refine rn_aload_n (x := 95) (q := 53) dX9_songs_52 rfl rfl ?_
    refine rn_callV (b := 95) (as := []) (rest := []) (q := 56) dX9_songs_53 ml_X9_165 sm_X9_wasRight rfl rfl (by decide) (by omega) rfl rfl (Nat.le_of_ble_eq_true rfl) rfl (s_wrN (d := d + 0) T.length h13 a w p hp) ?_
    intro r53 mem53 hq53
    obtain ⟨rfl, rfl⟩ := hq53
    show am_Rn l G _ _ 56 [some (.inr (.inr 96)), some (.inl (n : Int)), none] [.inl 0] (aw M (a : Int) (p : Int)) _
    refine rn_ifne (t := 66) (q := 59) dX9_songs_56 rfl rfl (fun h => absurd h (by decide)) (fun w56 => ?_)
    refine rn_iconst (q := 60) dX9_songs_59 (am_okd rfl) rfl ?_
    refine rn_aload_n (x := 95) (q := 61) dX9_songs_60 rfl rfl ?_
    refine rn_get (a := 95) (v := .inl (p : Int)) (q := 64) dX9_songs_61 fl_X9_135 rfl rfl rfl ?_
    refine rn_isubN (z := ((-1) - (p : Int))) (q := 65) dX9_songs_64 rfl (by unfold am_ok; omega) rfl ?_
    refine rn_iret dX9_songs_65 rfl ?_
    have hf2 : frS s9 (am_up mem 95 8 0) (aw M (a : Int) (p : Int)) := (hf.up (a := 95) (k := 15) (x := (a : Int)) rfl).up rfl
    refine hQ _ _ ⟨Or.inr ⟨p, hb, rfl, hf2⟩, (hf2 95 8 rfl), ?_⟩
    exact frS.tr (frS.rf.up (a := 95) (k := 8) (x := 0) rfl) (hf2.mono (fun x k hk => by unfold s9s at hk; simp at hk; exact hk.1.1))
  have Y : ∀ M : am_M, frS s9 (am_up mem 95 8 0) M → M 95 13 = (T.length : Int) → sgOK T → (∀ j, j < T.length → M 103 j = (sgF T j : Int)) → am_Rn l G mt_X9_songs (d + 3) 52 [some (.inr (.inr 96)), some (.inl (T.length : Int)), none] [] (aw M (T.length : Int) (-1)) Q := by
    intro M hf h13 hs h103
    have h16 := hs.2.1
    have hf2 : frS s9 (am_up mem 95 8 0) (aw M (T.length : Int) (-1)) := (hf.up (a := 95) (k := 15) (x := (T.length : Int)) rfl).up rfl
    have L2 : ∀ i : Nat, i ≤ T.length → ∀ m : am_M, (∀ b, b ≠ 100 → m b = am_up (aw M (T.length : Int) (-1)) 95 6 (T.length : Int) b) → (∀ j, j < i → m 100 j = (sgF T j : Int)) → am_Rn l G mt_X9_songs (d + 3) 73 [some (.inr (.inr 96)), some (.inl (T.length : Int)), some (.inl (i : Int))] [] m Q := by
      refine am_dn T.length (fun i hi ih m hm hj => ?_)
      refine rn_iload_n (x := (i : Int)) (q := 74) dX9_songs_73 rfl rfl ?_
      refine rn_iload_n (x := (T.length : Int)) (q := 75) dX9_songs_74 rfl rfl ?_
      refine rn_cmpge (t := 96) (q := 78) dX9_songs_75 rfl rfl (fun w75 => ?_) (fun w75 => ?_)
      · refine rn_iload_n (x := (T.length : Int)) (q := 97) dX9_songs_96 rfl rfl ?_
        refine rn_iret dX9_songs_97 rfl ?_
        obtain rfl : i = T.length := by omega
        have f3 : frS s9s mem (aw M (T.length : Int) (-1)) := frS.tr (frS.rf.up (a := 95) (k := 8) (x := 0) rfl) (hf2.mono (fun x k hk => by unfold s9s at hk; simp at hk; exact hk.1.1))
        refine hQ _ _ ⟨Or.inl ⟨hs, rfl, ⟨by rw [hm 95 (by decide)]; rfl, hs.1, h16, sgF_9 hs, hj⟩⟩, by rw [hm 95 (by decide)]; exact hf2 95 8 rfl, ?_⟩
        refine (f3.up (a := 95) (k := 6) (x := (T.length : Int)) rfl).tr (fun b k hb => ?_)
        rw [hm b (fun e => by subst e; exact absurd hb (by simp [s9s]))]
      · refine rn_aload_n (x := 95) (q := 79) dX9_songs_78 rfl rfl ?_
        refine rn_get (a := 95) (v := .inr (.inr 101)) (q := 82) dX9_songs_79 fl_X9_22 rfl rfl rfl ?_
        refine rn_iload_n (x := (i : Int)) (q := 83) dX9_songs_82 rfl rfl ?_
        refine rn_aload_n (x := 95) (q := 84) dX9_songs_83 rfl rfl ?_
        refine rn_get (a := 95) (v := .inr (.inr 104)) (q := 87) dX9_songs_84 fl_X9_37 rfl rfl rfl ?_
        refine rn_iload_n (x := (i : Int)) (q := 88) dX9_songs_87 rfl rfl ?_
        refine rn_ialdV (a := 103) (v := (sgF T i : Int)) (q := 89) dX9_songs_88 rfl (by omega) (by omega) (show m 103 i = _ by rw [hm 103 (by decide)]; exact h103 i (by omega)) rfl ?_
        refine rn_iastV (a := 100) (m1 := am_up m 100 i (sgF T i : Int)) (q := 90) dX9_songs_89 rfl (by omega) (by omega) rfl rfl ?_
        refine rn_iincN (x := (i : Int)) (z := ((i + 1 : Nat) : Int)) (ls' := [some (.inr (.inr 96)), some (.inl (T.length : Int)), some (.inl ((i + 1 : Nat) : Int))]) (q := 93) dX9_songs_90 rfl (by decide) (by omega) (by unfold am_ok; omega) rfl rfl ?_
        refine rn_goto (t := 73) dX9_songs_93 rfl ?_
        refine ih (by omega) _ (fun b hb => by rw [am_up_ne hb]; exact hm b hb) (fun j hj2 => ?_)
        rw [am_up_at]
        by_cases hji : j = i
        · rw [if_pos hji, hji]
        · rw [if_neg hji]; exact hj j (by omega)
    refine rn_aload_n (x := 95) (q := 53) dX9_songs_52 rfl rfl ?_
    refine rn_callV (b := 95) (as := []) (rest := []) (q := 56) dX9_songs_53 ml_X9_165 sm_X9_wasRight rfl rfl (by decide) (by omega) rfl rfl (Nat.le_of_ble_eq_true rfl) rfl (s_wrY (d := d + 0) T.length h13 T.length (Nat.le_refl _)) ?_
    intro r53 mem53 hq53
    obtain ⟨rfl, rfl⟩ := hq53
    show am_Rn l G _ _ 56 [some (.inr (.inr 96)), some (.inl (T.length : Int)), none] [.inl 1] (aw M (T.length : Int) (-1)) _
    refine rn_ifne (t := 66) (q := 59) dX9_songs_56 rfl rfl (fun w56 => ?_) (fun h => absurd h (by decide))
    refine rn_aload_n (x := 95) (q := 67) dX9_songs_66 rfl rfl ?_
    refine rn_iload_n (x := (T.length : Int)) (q := 68) dX9_songs_67 rfl rfl ?_
    refine rn_puti (a := 95) (q := 71) dX9_songs_68 fl_X9_25 rfl rfl rfl rfl ?_
    refine rn_iconst (q := 72) dX9_songs_71 (am_okd rfl) rfl ?_
    refine rn_istore_n (ls' := [some (.inr (.inr 96)), some (.inl (T.length : Int)), some (.inl 0)]) (q := 73) dX9_songs_72 (by decide) rfl rfl ?_
    exact L2 0 (Nat.zero_le _) _ (fun _ _ => rfl) (fun j hj2 => absurd hj2 (Nat.not_lt_zero j))
  have L : ∀ n : Nat, n ≤ min 16 T.length → ∀ M : am_M, frS s9 (am_up mem 95 8 0) M → m_rd (T.take 16) 101 T.length M → (∀ j, j < n → M 103 j = (sgF T j : Int) ∧ dgc (T.getD j 0)) → am_Rn l G mt_X9_songs (d + 3) 13 [some (.inr (.inr 96)), some (.inl (n : Int)), none] [] (aw M (n : Int) (-1)) Q := by
    refine am_dn (min 16 T.length) (fun n hn ih M hf hr hj => ?_)
    have h13 : M 95 13 = (T.length : Int) := hr.2.2.1
    have N : (n < T.length ∧ n < 16 ∨ T.length = 0) → am_Rn l G mt_X9_songs (d + 3) 32 [some (.inr (.inr 96)), some (.inl (n : Int)), none] [] (aw M (n : Int) (-1)) Q := by
      intro hc
      by_cases hd : 48 ≤ txAt (T.take 16) (n : Int) ∧ txAt (T.take 16) (n : Int) ≤ 57
      · have hc2 : n < T.length ∧ n < 16 := by
          rcases hc with hc | hc
          · exact hc
          · rw [txTkO (by omega)] at hd; omega
        have e1 := txTk (T := T) hc2.2 hc2.1
        have hdg : dgc (T.getD n 0) := by unfold dgc; omega
        refine rn_aload_n (x := 95) (q := 33) dX9_songs_32 rfl rfl ?_
        refine rn_get (a := 95) (v := .inr (.inr 104)) (q := 36) dX9_songs_33 fl_X9_37 rfl rfl rfl ?_
        refine rn_iload_n (x := (n : Int)) (q := 37) dX9_songs_36 rfl rfl ?_
        refine rn_aload_n (x := 95) (q := 38) dX9_songs_37 rfl rfl ?_
        refine rn_bipush (q := 40) dX9_songs_38 ⟨by decide, by decide⟩ rfl ?_
        refine rn_bipush (q := 42) dX9_songs_40 ⟨by decide, by decide⟩ rfl ?_
        refine rn_callV (b := 95) (as := [.inl 48, .inl 10]) (rest := [.inl (n : Int), .inr (.inr 104)]) (q := 45) dX9_songs_42 ml_X9_158 sm_X9_oneOf rfl rfl (by decide) (by omega) rfl rfl (Nat.le_of_ble_eq_true rfl) rfl (s_digY (d := d + 0) hr n (by omega) hd) ?_
        intro r42 mem42 hq42
        obtain ⟨rfl, rfl⟩ := hq42
        show am_Rn l G _ _ 45 [some (.inr (.inr 96)), some (.inl (n : Int)), none] [.inl (txAt (T.take 16) (n : Int) - 48), .inl (n : Int), .inr (.inr 104)] (aw M ((n + 1 : Nat) : Int) (-1)) _
        refine rn_iastV (a := 103) (m1 := am_up (aw M ((n + 1 : Nat) : Int) (-1)) 103 n (txAt (T.take 16) (n : Int) - 48)) (q := 46) dX9_songs_45 rfl (by omega) (by omega) rfl rfl ?_
        refine rn_iincN (x := (n : Int)) (z := ((n + 1 : Nat) : Int)) (ls' := [some (.inr (.inr 96)), some (.inl ((n + 1 : Nat) : Int)), none]) (q := 49) dX9_songs_46 rfl (by decide) (by omega) (by unfold am_ok; omega) rfl rfl ?_
        refine rn_goto (t := 13) dX9_songs_49 rfl ?_
        rw [aw_oc (by decide)]
        refine ih (by omega) _ (hf.up rfl) (hr.put (by decide) (by decide)) (fun j hj2 => ?_)
        rw [am_up_at]
        by_cases hjn : j = n
        · rw [if_pos hjn, hjn, e1]; refine ⟨?_, hdg⟩; unfold sgF; unfold dgc at hdg; omega
        · rw [if_neg hjn]; exact hj j (by omega)
      · have hb : sgBad T n := by
          refine ⟨by omega, fun j hj2 => (hj j hj2).2, ?_⟩
          rcases hc with hc | hc
          · refine Or.inl ⟨hc.1, Or.inr (fun z => hd ?_)⟩
            rw [txTk hc.2 hc.1]; unfold dgc at z; omega
          · exact Or.inr ⟨List.eq_nil_of_length_eq_zero hc, by omega⟩
        refine rn_aload_n (x := 95) (q := 33) dX9_songs_32 rfl rfl ?_
        refine rn_get (a := 95) (v := .inr (.inr 104)) (q := 36) dX9_songs_33 fl_X9_37 rfl rfl rfl ?_
        refine rn_iload_n (x := (n : Int)) (q := 37) dX9_songs_36 rfl rfl ?_
        refine rn_aload_n (x := 95) (q := 38) dX9_songs_37 rfl rfl ?_
        refine rn_bipush (q := 40) dX9_songs_38 ⟨by decide, by decide⟩ rfl ?_
        refine rn_bipush (q := 42) dX9_songs_40 ⟨by decide, by decide⟩ rfl ?_
        refine rn_callV (b := 95) (as := [.inl 48, .inl 10]) (rest := [.inl (n : Int), .inr (.inr 104)]) (q := 45) dX9_songs_42 ml_X9_158 sm_X9_oneOf rfl rfl (by decide) (by omega) rfl rfl (Nat.le_of_ble_eq_true rfl) rfl (s_digN (d := d + 0) hr n (by omega) hd) ?_
        intro r42 mem42 hq42
        obtain ⟨rfl, rfl⟩ := hq42
        show am_Rn l G _ _ 45 [some (.inr (.inr 96)), some (.inl (n : Int)), none] [.inl 0, .inl (n : Int), .inr (.inr 104)] (aw M (n : Int) (n : Int)) _
        refine rn_iastV (a := 103) (m1 := am_up (aw M (n : Int) (n : Int)) 103 n 0) (q := 46) dX9_songs_45 rfl (by omega) (by omega) rfl rfl ?_
        rw [aw_oc (by decide)]
        refine rn_iincN (x := (n : Int)) (z := ((n + 1 : Nat) : Int)) (ls' := [some (.inr (.inr 96)), some (.inl ((n + 1 : Nat) : Int)), none]) (q := 49) dX9_songs_46 rfl (by decide) (by omega) (by unfold am_ok; omega) rfl rfl ?_
        refine rn_goto (t := 13) dX9_songs_49 rfl ?_
        refine rn_aload_n (x := 95) (q := 14) dX9_songs_13 rfl rfl ?_
        refine rn_callV (b := 95) (as := []) (rest := []) (q := 17) dX9_songs_14 ml_X9_142 sm_X9_fine rfl rfl (by decide) (by omega) rfl rfl (Nat.le_of_ble_eq_true rfl) rfl (s_fineF (d := d + 2) (M := am_up M 103 n 0) (n : Int) (n : Int) (by omega)) ?_
        intro r14 mem14 hq14
        obtain ⟨rfl, rfl⟩ := hq14
        show am_Rn l G _ _ 17 [some (.inr (.inr 96)), some (.inl ((n + 1 : Nat) : Int)), none] [.inl 0] (aw (am_up M 103 n 0) (n : Int) (n : Int)) _
        refine rn_ifeq (t := 52) (q := 20) dX9_songs_17 rfl rfl (fun w17 => ?_) (fun h => absurd h (by decide))
        exact B _ (n + 1) n n _ (hf.up rfl) (by rw [am_up_ne (by decide)]; exact h13) (Or.inr rfl) hb
    by_cases h0 : n = 0
    · refine rn_aload_n (x := 95) (q := 14) dX9_songs_13 rfl rfl ?_
      refine rn_callV (b := 95) (as := []) (rest := []) (q := 17) dX9_songs_14 ml_X9_142 sm_X9_fine rfl rfl (by decide) (by omega) rfl rfl (Nat.le_of_ble_eq_true rfl) rfl (s_fineT (d := d + 2) (n : Int)) ?_
      intro r14 mem14 hq14
      obtain ⟨rfl, rfl⟩ := hq14
      show am_Rn l G _ _ 17 [some (.inr (.inr 96)), some (.inl (n : Int)), none] [.inl 1] (aw M (n : Int) (-1)) _
      refine rn_ifeq (t := 52) (q := 20) dX9_songs_17 rfl rfl (fun h => absurd h (by decide)) (fun w17 => ?_)
      refine rn_iload_n (x := (n : Int)) (q := 21) dX9_songs_20 rfl rfl ?_
      refine rn_ifeq (t := 32) (q := 24) dX9_songs_21 rfl rfl (fun w21 => ?_) (fun h => absurd h (by omega))
      exact N (by omega)
    · by_cases hc : n < T.length ∧ n < 16
      · have e1 := txTk (T := T) hc.2 hc.1
        refine rn_aload_n (x := 95) (q := 14) dX9_songs_13 rfl rfl ?_
        refine rn_callV (b := 95) (as := []) (rest := []) (q := 17) dX9_songs_14 ml_X9_142 sm_X9_fine rfl rfl (by decide) (by omega) rfl rfl (Nat.le_of_ble_eq_true rfl) rfl (s_fineT (d := d + 2) (n : Int)) ?_
        intro r14 mem14 hq14
        obtain ⟨rfl, rfl⟩ := hq14
        show am_Rn l G _ _ 17 [some (.inr (.inr 96)), some (.inl (n : Int)), none] [.inl 1] (aw M (n : Int) (-1)) _
        refine rn_ifeq (t := 52) (q := 20) dX9_songs_17 rfl rfl (fun h => absurd h (by decide)) (fun w17 => ?_)
        refine rn_iload_n (x := (n : Int)) (q := 21) dX9_songs_20 rfl rfl ?_
        refine rn_ifeq (t := 32) (q := 24) dX9_songs_21 rfl rfl (fun h => absurd h (by omega)) (fun w21 => ?_)
        refine rn_aload_n (x := 95) (q := 25) dX9_songs_24 rfl rfl ?_
        refine rn_callV (b := 95) (as := []) (rest := []) (q := 28) dX9_songs_25 ml_X9_146 sm_X9_here rfl rfl (by decide) (by omega) rfl rfl (Nat.le_of_ble_eq_true rfl) rfl (s_here9 (d := d + 2) hr n (-1) (by omega)) ?_
        intro r25 mem25 hq25
        obtain ⟨rfl, rfl⟩ := hq25
        show am_Rn l G _ _ 28 [some (.inr (.inr 96)), some (.inl (n : Int)), none] [.inl (txAt (T.take 16) (n : Int))] (aw M (n : Int) (-1)) _
        refine rn_iconst (q := 29) dX9_songs_28 (am_okd rfl) rfl ?_
        refine rn_cmpeq (t := 52) (q := 32) dX9_songs_29 rfl rfl (fun h => absurd h (by omega)) (fun w29 => ?_)
        exact N (by omega)
      · have e1 := txTkO (T := T) (n := n) (by omega)
        refine rn_aload_n (x := 95) (q := 14) dX9_songs_13 rfl rfl ?_
        refine rn_callV (b := 95) (as := []) (rest := []) (q := 17) dX9_songs_14 ml_X9_142 sm_X9_fine rfl rfl (by decide) (by omega) rfl rfl (Nat.le_of_ble_eq_true rfl) rfl (s_fineT (d := d + 2) (n : Int)) ?_
        intro r14 mem14 hq14
        obtain ⟨rfl, rfl⟩ := hq14
        show am_Rn l G _ _ 17 [some (.inr (.inr 96)), some (.inl (n : Int)), none] [.inl 1] (aw M (n : Int) (-1)) _
        refine rn_ifeq (t := 52) (q := 20) dX9_songs_17 rfl rfl (fun h => absurd h (by decide)) (fun w17 => ?_)
        refine rn_iload_n (x := (n : Int)) (q := 21) dX9_songs_20 rfl rfl ?_
        refine rn_ifeq (t := 32) (q := 24) dX9_songs_21 rfl rfl (fun h => absurd h (by omega)) (fun w21 => ?_)
        refine rn_aload_n (x := 95) (q := 25) dX9_songs_24 rfl rfl ?_
        refine rn_callV (b := 95) (as := []) (rest := []) (q := 28) dX9_songs_25 ml_X9_146 sm_X9_here rfl rfl (by decide) (by omega) rfl rfl (Nat.le_of_ble_eq_true rfl) rfl (s_here9 (d := d + 2) hr n (-1) (by omega)) ?_
        intro r25 mem25 hq25
        obtain ⟨rfl, rfl⟩ := hq25
        show am_Rn l G _ _ 28 [some (.inr (.inr 96)), some (.inl (n : Int)), none] [.inl (txAt (T.take 16) (n : Int))] (aw M (n : Int) (-1)) _
        refine rn_iconst (q := 29) dX9_songs_28 (am_okd rfl) rfl ?_
        refine rn_cmpeq (t := 52) (q := 32) dX9_songs_29 rfl rfl (fun w29 => ?_) (fun h => absurd h (by omega))
        by_cases h17 : T.length ≤ 16
        · obtain rfl : n = T.length := by omega
          exact Y M hf h13 ⟨by omega, h17, fun j hj2 => (hj j hj2).2⟩ (fun j hj2 => (hj j hj2).1)
        · exact B M n n n _ hf h13 (Or.inl ⟨rfl, by omega, rfl⟩) ⟨by omega, fun j hj2 => (hj j hj2).2, Or.inl ⟨by omega, Or.inl (by omega)⟩⟩
  have hT1 : m_text T (am_up mem 95 11 0) := ⟨hT.1, hT.2⟩
  refine rn_aload_n (x := 95) (q := 1) dX9_songs_0 rfl rfl ?_
  refine rn_iconst (q := 2) dX9_songs_1 (am_okd rfl) rfl ?_
  refine rn_puti (a := 95) (q := 5) dX9_songs_2 fl_X9_107 rfl rfl rfl rfl ?_
  refine rn_aload_n (x := 95) (q := 6) dX9_songs_5 rfl rfl ?_
  refine rn_bipush (q := 8) dX9_songs_6 ⟨by decide, by decide⟩ rfl ?_
  refine rn_callV (b := 95) (as := [.inl 16]) (rest := []) (q := 11) dX9_songs_8 ml_X9_162 sm_X9_beginText rfl rfl (by decide) (by omega) rfl rfl (Nat.le_of_ble_eq_true rfl) rfl (s_beginText9 (d := d + 1) hT1 16) ?_
  intro r8 mem8 hq8
  obtain ⟨rfl, rfl⟩ := hq8
  show am_Rn l G _ _ 11 [some (.inr (.inr 96)), none, none] [] (aw (am_up (bgn (am_up mem 95 11 0) 101 (T.length : Int) 16) 95 8 0) 0 (-1)) _
  refine rn_iconst (q := 12) dX9_songs_11 (am_okd rfl) rfl ?_
  refine rn_istore_n (ls' := [some (.inr (.inr 96)), some (.inl 0), none]) (q := 13) dX9_songs_12 (by decide) rfl rfl ?_
  refine L 0 (Nat.zero_le _) _ ?_ (rd_of hT 16 (by decide)) (fun j hj2 => absurd hj2 (Nat.not_lt_zero j))
  intro b k hb
  by_cases h95 : b = 95
  · subst h95
    unfold s9 at hb
    simp [ble_f] at hb
    rw [am_up_at, am_up_at]
    by_cases h8 : k = 8
    · rw [if_pos h8, if_pos h8]
    · rw [if_neg h8, if_neg h8, bgn_k (by omega) (by omega) (by omega), am_up_neq (by omega)]
  · rw [am_up_ne h95, am_up_ne h95, bgn_ne h95, am_up_ne h95]
end P93
