theorem aw_out {M : am_M} {a w x : Int} {k : Nat} (h1 : k ≠ 15) (h2 : k ≠ 16) : am_up (aw M a w) 95 k x = aw (am_up M 95 k x) a w := by
  funext b
  by_cases hb : b = 95
  · subst hb
    funext j
    unfold aw
    rw [am_up_at, am_up_at, am_up_at, am_up_at, am_up_at, am_up_at]
    by_cases e1 : j = k
    · rw [if_pos e1, if_neg (by omega), if_neg (by omega), if_pos e1]
    · rw [if_neg e1, if_neg e1]
  · unfold aw
    rw [am_up_ne hb, am_up_ne hb, am_up_ne hb, am_up_ne hb, am_up_ne hb, am_up_ne hb]
def bgn (mem : am_M) (rd : Nat) (L tp : Int) : am_M := am_up (am_up (am_up mem 95 12 ((rd + 1 : Nat) : Int)) 95 13 L) 95 14 tp
theorem bgn_ne {mem : am_M} {rd b : Nat} {L tp : Int} (h : b ≠ 95) : bgn mem rd L tp b = mem b := by
  unfold bgn
  rw [am_up_ne h, am_up_ne h, am_up_ne h]
theorem bgn_k {mem : am_M} {rd k : Nat} {L tp : Int} (h1 : k ≠ 12) (h2 : k ≠ 13) (h3 : k ≠ 14) : bgn mem rd L tp 95 k = mem 95 k := by
  unfold bgn
  rw [am_up_neq h3, am_up_neq h2, am_up_neq h1]
/-- the place of the fault, when the reading is over -/
def wrF (a L : Nat) (w : Int) : Int := if a < L then (if w = -1 then (a : Int) else w) else w
section P37
variable {l : Launch} {G : am_G} {d : Nat} {mem M : am_M}
theorem s_begin9 (rd : Nat) (hrd : rd < 127) (L tp : Int) : am_Sm l G yX9_begin mt_X9_begin d [.inr (.inr 96), .inr (.inr (rd + 1)), .inl L, .inl tp] mem (am_rr none (aw (bgn mem rd L tp) 0 (-1))) := by
  refine am_enter (ls := [some (.inr (.inr 96)), some (.inr (.inr (rd + 1))), some (.inl L), some (.inl tp)]) (by decide) rfl (Nat.le_of_ble_eq_true rfl) rfl ?_
  refine rn_aload_n (x := 95) (q := 1) dX9_begin_0 rfl rfl ?_
  refine rn_aload_n (x := rd) (q := 2) dX9_begin_1 rfl rfl ?_
  refine rn_puta (a := 95) (b := rd + 1) (q := 5) dX9_begin_2 fl_X9_123 rfl rfl rfl (by omega) rfl ?_
  refine rn_aload_n (x := 95) (q := 6) dX9_begin_5 rfl rfl ?_
  refine rn_iload_n (x := L) (q := 7) dX9_begin_6 rfl rfl ?_
  refine rn_puti (a := 95) (q := 10) dX9_begin_7 fl_X9_126 rfl rfl rfl rfl ?_
  refine rn_aload_n (x := 95) (q := 11) dX9_begin_10 rfl rfl ?_
  refine rn_iload_n (x := tp) (q := 12) dX9_begin_11 rfl rfl ?_
  refine rn_puti (a := 95) (q := 15) dX9_begin_12 fl_X9_129 rfl rfl rfl rfl ?_
  refine rn_aload_n (x := 95) (q := 16) dX9_begin_15 rfl rfl ?_
  refine rn_iconst (q := 17) dX9_begin_16 (am_okd rfl) rfl ?_
  refine rn_puti (a := 95) (q := 20) dX9_begin_17 fl_X9_132 rfl rfl rfl rfl ?_
  refine rn_aload_n (x := 95) (q := 21) dX9_begin_20 rfl rfl ?_
  refine rn_iconst (q := 22) dX9_begin_21 (am_okd rfl) rfl ?_
  refine rn_puti (a := 95) (q := 25) dX9_begin_22 fl_X9_135 rfl rfl rfl rfl ?_
  refine rn_vret dX9_begin_25 rfl ?_
  exact ⟨rfl, rfl⟩
theorem s_beginText9 {X : List Nat} (hX : m_text X mem) (tp : Int) : am_Sm l G yX9_beginText mt_X9_beginText (d + 1) [.inr (.inr 96), .inl tp] mem (am_rr none (aw (am_up (bgn mem 101 (X.length : Int) tp) 95 8 0) 0 (-1))) := by
  refine am_enter (ls := [some (.inr (.inr 96)), some (.inl tp)]) (by decide) rfl (Nat.le_of_ble_eq_true rfl) rfl ?_
  refine rn_aload_n (x := 95) (q := 1) dX9_beginText_0 rfl rfl ?_
  refine rn_aload_n (x := 95) (q := 2) dX9_beginText_1 rfl rfl ?_
  refine rn_get (a := 95) (v := .inr (.inr 102)) (q := 5) dX9_beginText_2 fl_X9_29 rfl rfl rfl ?_
  refine rn_aload_n (x := 95) (q := 6) dX9_beginText_5 rfl rfl ?_
  refine rn_get (a := 95) (v := .inl (X.length : Int)) (q := 9) dX9_beginText_6 fl_X9_120 rfl (am_gi hX.1) rfl ?_
  refine rn_iload_n (x := tp) (q := 10) dX9_beginText_9 rfl rfl ?_
  refine rn_callV (b := 95) (as := [.inr (.inr 102), .inl (X.length : Int), .inl tp]) (rest := []) (q := 13) dX9_beginText_10 ml_X9_138 sm_X9_begin rfl rfl (by decide) (by omega) rfl rfl (Nat.le_of_ble_eq_true rfl) rfl (s_begin9 (d := d) 101 (by decide) (X.length : Int) tp) ?_
  intro r10 mem10 hq10
  obtain ⟨rfl, rfl⟩ := hq10
  show am_Rn l G _ _ 13 [some (.inr (.inr 96)), some (.inl tp)] [] (aw (bgn mem 101 (X.length : Int) tp) 0 (-1)) _
  refine rn_aload_n (x := 95) (q := 14) dX9_beginText_13 rfl rfl ?_
  refine rn_iconst (q := 15) dX9_beginText_14 (am_okd rfl) rfl ?_
  refine rn_puti (a := 95) (q := 18) dX9_beginText_15 fl_X9_120 rfl rfl rfl rfl ?_
  refine rn_vret dX9_beginText_18 rfl ?_
  exact ⟨rfl, (aw_out (by decide) (by decide)).symm⟩
theorem s_wasRight9 (L : Nat) (hL : M 95 13 = (L : Int)) (a : Nat) (w : Int) : am_Sm l G yX9_wasRight mt_X9_wasRight (d + 2) [.inr (.inr 96)] (aw M (a : Int) w) (am_rr (some (.inl (if wrF a L w = -1 then 1 else 0))) (aw M (a : Int) (wrF a L w))) := by
  refine am_enter (ls := [some (.inr (.inr 96))]) (by decide) rfl (Nat.le_of_ble_eq_true rfl) rfl ?_
  unfold wrF
  by_cases h : a < L
  · rw [if_pos h]
    refine rn_aload_n (x := 95) (q := 1) dX9_wasRight_0 rfl rfl ?_
    refine rn_get (a := 95) (v := .inl (a : Int)) (q := 4) dX9_wasRight_1 fl_X9_132 rfl rfl rfl ?_
    refine rn_aload_n (x := 95) (q := 5) dX9_wasRight_4 rfl rfl ?_
    refine rn_get (a := 95) (v := .inl (L : Int)) (q := 8) dX9_wasRight_5 fl_X9_126 rfl (am_gi hL) rfl ?_
    refine rn_cmpge (t := 19) (q := 11) dX9_wasRight_8 rfl rfl (fun h => absurd h (by omega)) (fun w8 => ?_)
    refine rn_aload_n (x := 95) (q := 12) dX9_wasRight_11 rfl rfl ?_
    refine rn_aload_n (x := 95) (q := 13) dX9_wasRight_12 rfl rfl ?_
    refine rn_get (a := 95) (v := .inl (a : Int)) (q := 16) dX9_wasRight_13 fl_X9_132 rfl rfl rfl ?_
    refine rn_callV (b := 95) (as := [.inl (a : Int)]) (rest := []) (q := 19) dX9_wasRight_16 ml_X9_154 sm_X9_fault rfl rfl (by decide) (by omega) rfl rfl (Nat.le_of_ble_eq_true rfl) rfl (s_fault9 (d := d) (a : Int) w (a : Int)) ?_
    intro r16 mem16 hq16
    obtain ⟨rfl, rfl⟩ := hq16
    show am_Rn l G _ _ 19 [some (.inr (.inr 96))] [] (aw M (a : Int) (if w = -1 then (a : Int) else w)) _
    refine rn_aload_n (x := 95) (q := 20) dX9_wasRight_19 rfl rfl ?_
    refine rn_callV (b := 95) (as := []) (rest := []) (q := 23) dX9_wasRight_20 ml_X9_142 sm_X9_fine rfl rfl (by decide) (by omega) rfl rfl (Nat.le_of_ble_eq_true rfl) rfl (s_fine9 (d := d + 1) (a : Int) (if w = -1 then (a : Int) else w)) ?_
    intro r20 mem20 hq20
    obtain ⟨rfl, rfl⟩ := hq20
    show am_Rn l G _ _ 23 [some (.inr (.inr 96))] [.inl (if (if w = -1 then (a : Int) else w) = -1 then 1 else 0)] (aw M (a : Int) (if w = -1 then (a : Int) else w)) _
    refine rn_zret dX9_wasRight_23 rfl (if_b _) ?_
    exact ⟨rfl, rfl⟩
  · rw [if_neg h]
    refine rn_aload_n (x := 95) (q := 1) dX9_wasRight_0 rfl rfl ?_
    refine rn_get (a := 95) (v := .inl (a : Int)) (q := 4) dX9_wasRight_1 fl_X9_132 rfl rfl rfl ?_
    refine rn_aload_n (x := 95) (q := 5) dX9_wasRight_4 rfl rfl ?_
    refine rn_get (a := 95) (v := .inl (L : Int)) (q := 8) dX9_wasRight_5 fl_X9_126 rfl (am_gi hL) rfl ?_
    refine rn_cmpge (t := 19) (q := 11) dX9_wasRight_8 rfl rfl (fun w8 => ?_) (fun h => absurd h (by omega))
    refine rn_aload_n (x := 95) (q := 20) dX9_wasRight_19 rfl rfl ?_
    refine rn_callV (b := 95) (as := []) (rest := []) (q := 23) dX9_wasRight_20 ml_X9_142 sm_X9_fine rfl rfl (by decide) (by omega) rfl rfl (Nat.le_of_ble_eq_true rfl) rfl (s_fine9 (d := d + 1) (a : Int) w) ?_
    intro r20 mem20 hq20
    obtain ⟨rfl, rfl⟩ := hq20
    show am_Rn l G _ _ 23 [some (.inr (.inr 96))] [.inl (if w = -1 then 1 else 0)] (aw M (a : Int) w) _
    refine rn_zret dX9_wasRight_23 rfl (if_b _) ?_
    exact ⟨rfl, rfl⟩
/-- the memory in which the model reads a rule from its text -/
def rdM (X : List Nat) (mem : am_M) : am_M := am_up (am_up (bgn mem 101 (X.length : Int) 40) 95 8 0) 95 21 0
theorem rdM_rd {X : List Nat} (hX : m_text X mem) : m_rd (X.take 40) 101 X.length (rdM X mem) := by
  obtain ⟨h1, h2, h3, h4⟩ := hX
  have hT : (X.take 40).length = min 40 X.length := List.length_take
  refine ⟨⟨80, rfl, by omega⟩, rfl, rfl, h2, ⟨40, rfl, by decide, by omega⟩, txAt_tk h3, fun i hi => ?_⟩
  have e : rdM X mem 101 = mem 101 := by unfold rdM; rw [am_up_ne (by decide), am_up_ne (by decide), bgn_ne (by decide)]
  have h5 : (X.take 40).getD i 0 = X.getD i 0 := by
    rw [List.getD_eq_getElem?_getD, List.getD_eq_getElem?_getD, List.getElem?_take, if_pos (by omega)]
  rw [e, h5]
  exact h4 i (by omega)
theorem s_readRule9 {X : List Nat} (hX : m_text X mem) {r : Int × Nat × Int} (hz : X ≠ []) (hr : ps (X.take 40) (fun _ => 0) 168 5 0 0 0 (-1) = some r) : am_Sm l G yX9_readRule mt_X9_readRule (d + 176) [.inr (.inr 96)] mem (am_rr (some (.inl (if wrF r.2.1 X.length r.2.2 = -1 then 1 else 0))) (aw (rdM X mem) (r.2.1 : Int) (wrF r.2.1 X.length r.2.2))) := by
  refine am_enter (ls := [some (.inr (.inr 96))]) (by decide) rfl (Nat.le_of_ble_eq_true rfl) rfl ?_
  have hln : 1 ≤ X.length := by
    cases X with
    | nil => exact absurd rfl hz
    | cons a t => simp
  have hH := (ps_run (l := l) (G := G) (rdM_rd hX) (f := fun _ => 0) (.inl ⟨rfl, fun _ => rfl⟩) 168 (d + 175) (by omega)).2.2.2.2.2 0 0 (-1) r (by decide) (Nat.zero_le _) hr
  refine rn_aload_n (x := 95) (q := 1) dX9_readRule_0 rfl rfl ?_
  refine rn_bipush (q := 3) dX9_readRule_1 ⟨by decide, by decide⟩ rfl ?_
  refine rn_callV (b := 95) (as := [.inl 40]) (rest := []) (q := 6) dX9_readRule_3 ml_X9_162 sm_X9_beginText rfl rfl (by decide) (by omega) rfl rfl (Nat.le_of_ble_eq_true rfl) rfl (s_beginText9 (d := d + 174) hX 40) ?_
  intro r3 mem3 hq3
  obtain ⟨rfl, rfl⟩ := hq3
  show am_Rn l G _ _ 6 [some (.inr (.inr 96))] [] (aw (am_up (bgn mem 101 (X.length : Int) 40) 95 8 0) 0 (-1)) _
  refine rn_aload_n (x := 95) (q := 7) dX9_readRule_6 rfl rfl ?_
  refine rn_iconst (q := 8) dX9_readRule_7 (am_okd rfl) rfl ?_
  refine rn_putz (a := 95) (q := 11) dX9_readRule_8 fl_X9_203 rfl rfl rfl (by omega) rfl ?_
  rw [aw_out (by decide) (by decide)]
  change am_Rn l G _ _ _ _ _ (aw (rdM X mem) 0 (-1)) _
  refine rn_aload_n (x := 95) (q := 12) dX9_readRule_11 rfl rfl ?_
  refine rn_get (a := 95) (v := .inl (X.length : Int)) (q := 15) dX9_readRule_12 fl_X9_126 rfl (am_gi (rfl : rdM X mem 95 13 = (X.length : Int))) rfl ?_
  refine rn_ifle (t := 24) (q := 18) dX9_readRule_15 rfl rfl (fun h => absurd h (by omega)) (fun w15 => ?_)
  refine rn_aload_n (x := 95) (q := 19) dX9_readRule_18 rfl rfl ?_
  refine rn_iconst (q := 20) dX9_readRule_19 (am_okd rfl) rfl ?_
  refine rn_callV (b := 95) (as := [.inl 0]) (rest := []) (q := 23) dX9_readRule_20 ml_X9_190 sm_X9_held rfl rfl (by decide) (by omega) rfl rfl (Nat.le_of_ble_eq_true rfl) rfl (hH) ?_
  intro r20 mem20 hq20
  obtain ⟨rfl, rfl⟩ := hq20
  show am_Rn l G _ _ 23 [some (.inr (.inr 96))] [.inl r.1] (aw (rdM X mem) (r.2.1 : Int) r.2.2) _
  refine rn_pop (q := 24) dX9_readRule_23 rfl rfl ?_
  refine rn_aload_n (x := 95) (q := 25) dX9_readRule_24 rfl rfl ?_
  refine rn_callV (b := 95) (as := []) (rest := []) (q := 28) dX9_readRule_25 ml_X9_165 sm_X9_wasRight rfl rfl (by decide) (by omega) rfl rfl (Nat.le_of_ble_eq_true rfl) rfl (s_wasRight9 (d := d + 173) X.length rfl r.2.1 r.2.2) ?_
  intro r25 mem25 hq25
  obtain ⟨rfl, rfl⟩ := hq25
  show am_Rn l G _ _ 28 [some (.inr (.inr 96))] [.inl (if wrF r.2.1 X.length r.2.2 = -1 then 1 else 0)] (aw (rdM X mem) (r.2.1 : Int) (wrF r.2.1 X.length r.2.2)) _
  refine rn_zret dX9_readRule_28 rfl (if_b _) ?_
  exact ⟨rfl, rfl⟩
theorem s_readRule90 (hX : m_text [] mem) : am_Sm l G yX9_readRule mt_X9_readRule (d + 176) [.inr (.inr 96)] mem (am_rr (some (.inl 1)) (aw (rdM [] mem) 0 (-1))) := by
  refine am_enter (ls := [some (.inr (.inr 96))]) (by decide) rfl (Nat.le_of_ble_eq_true rfl) rfl ?_
  refine rn_aload_n (x := 95) (q := 1) dX9_readRule_0 rfl rfl ?_
  refine rn_bipush (q := 3) dX9_readRule_1 ⟨by decide, by decide⟩ rfl ?_
  refine rn_callV (b := 95) (as := [.inl 40]) (rest := []) (q := 6) dX9_readRule_3 ml_X9_162 sm_X9_beginText rfl rfl (by decide) (by omega) rfl rfl (Nat.le_of_ble_eq_true rfl) rfl (s_beginText9 (d := d + 174) hX 40) ?_
  intro r3 mem3 hq3
  obtain ⟨rfl, rfl⟩ := hq3
  show am_Rn l G _ _ 6 [some (.inr (.inr 96))] [] (aw (am_up (bgn mem 101 (([] : List Nat).length : Int) 40) 95 8 0) 0 (-1)) _
  refine rn_aload_n (x := 95) (q := 7) dX9_readRule_6 rfl rfl ?_
  refine rn_iconst (q := 8) dX9_readRule_7 (am_okd rfl) rfl ?_
  refine rn_putz (a := 95) (q := 11) dX9_readRule_8 fl_X9_203 rfl rfl rfl (by omega) rfl ?_
  rw [aw_out (by decide) (by decide)]
  change am_Rn l G _ _ _ _ _ (aw (rdM [] mem) 0 (-1)) _
  refine rn_aload_n (x := 95) (q := 12) dX9_readRule_11 rfl rfl ?_
  refine rn_get (a := 95) (v := .inl 0) (q := 15) dX9_readRule_12 fl_X9_126 rfl (am_gi (rfl : rdM [] mem 95 13 = 0)) rfl ?_
  refine rn_ifle (t := 24) (q := 18) dX9_readRule_15 rfl rfl (fun w15 => ?_) (fun h => absurd h (by decide))
  refine rn_aload_n (x := 95) (q := 25) dX9_readRule_24 rfl rfl ?_
  refine rn_callV (b := 95) (as := []) (rest := []) (q := 28) dX9_readRule_25 ml_X9_165 sm_X9_wasRight rfl rfl (by decide) (by omega) rfl rfl (Nat.le_of_ble_eq_true rfl) rfl (s_wasRight9 (d := d + 173) 0 rfl 0 (-1)) ?_
  intro r25 mem25 hq25
  obtain ⟨rfl, rfl⟩ := hq25
  show am_Rn l G _ _ 28 [some (.inr (.inr 96))] [.inl 1] (aw (rdM [] mem) 0 (-1)) _
  refine rn_zret dX9_readRule_28 rfl (by omega) ?_
  exact ⟨rfl, rfl⟩
end P37
