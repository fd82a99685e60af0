/-! the reference's reader: thing, product, sum, held by what ps answers -/
section P26
variable {l : Launch} {G : am_G} {M : am_M} {T : List Nat} {rd L : Nat} {f : Nat → Int}
theorem s_faultT {d : Nat} (a p : Int) : am_Sm l G yX9_fault mt_X9_fault (d + 1) [.inr (.inr 96), .inl p] (aw M a (-1)) (am_rr none (aw M a p)) := s_fault9 a (-1) p
theorem ltr_b (c : Int) : ltr c = -1 ∨ (0 ≤ ltr c ∧ ltr c ≤ 6) := by unfold ltr; repeat' split <;> omega
def PSt (l : Launch) (G : am_G) (M : am_M) (T : List Nat) (f : Nat → Int) (n d : Nat) : Prop :=
  (∀ (dp a : Nat) (w : Int) (r : Int × Nat × Int), dp ≤ 4 → a ≤ T.length → ps T f n 0 dp 0 a w = some r → am_Sm l G yX9_thing mt_X9_thing d [.inr (.inr 96), .inl (dp : Int)] (aw M (a : Int) w) (am_rr (some (.inl r.1)) (aw M (r.2.1 : Int) r.2.2))) ∧
  (∀ (dp : Nat) (v : Int) (a : Nat) (w : Int) (r : Int × Nat × Int) (lx ly : Option am_V), dp ≤ 4 → a ≤ T.length → ps T f n 1 dp v a w = some r → am_Rn l G mt_X9_product d 6 [some (.inr (.inr 96)), some (.inl (dp : Int)), some (.inl v), lx, ly] [] (aw M (a : Int) w) (am_rr (some (.inl r.1)) (aw M (r.2.1 : Int) r.2.2))) ∧
  (∀ (dp a : Nat) (w : Int) (r : Int × Nat × Int), dp ≤ 4 → a ≤ T.length → ps T f n 2 dp 0 a w = some r → am_Sm l G yX9_product mt_X9_product d [.inr (.inr 96), .inl (dp : Int)] (aw M (a : Int) w) (am_rr (some (.inl r.1)) (aw M (r.2.1 : Int) r.2.2))) ∧
  (∀ (dp : Nat) (v : Int) (a : Nat) (w : Int) (r : Int × Nat × Int) (lx ly : Option am_V), dp ≤ 4 → a ≤ T.length → ps T f n 3 dp v a w = some r → am_Rn l G mt_X9_sum d 6 [some (.inr (.inr 96)), some (.inl (dp : Int)), some (.inl v), lx, ly] [] (aw M (a : Int) w) (am_rr (some (.inl r.1)) (aw M (r.2.1 : Int) r.2.2))) ∧
  (∀ (dp a : Nat) (w : Int) (r : Int × Nat × Int), dp ≤ 4 → a ≤ T.length → ps T f n 4 dp 0 a w = some r → am_Sm l G yX9_sum mt_X9_sum d [.inr (.inr 96), .inl (dp : Int)] (aw M (a : Int) w) (am_rr (some (.inl r.1)) (aw M (r.2.1 : Int) r.2.2))) ∧
  (∀ (dp a : Nat) (w : Int) (r : Int × Nat × Int), dp ≤ 4 → a ≤ T.length → ps T f n 5 dp 0 a w = some r → am_Sm l G yX9_held mt_X9_held d [.inr (.inr 96), .inl (dp : Int)] (aw M (a : Int) w) (am_rr (some (.inl r.1)) (aw M (r.2.1 : Int) r.2.2)))
def m_ask (f : Nat → Int) (M : am_M) : Prop := (M 95 21 = 0 ∧ ∀ i, f i = 0) ∨ (M 95 21 = 1 ∧ ∀ i, i < 7 → M 106 i = f i)
set_option maxHeartbeats 4000000 in
theorem ps_run0 (hr : m_rd T rd L M) (hf : m_ask f M) {n k : Nat} (I : PSt l G M T f n (k + 6)) : ∀ (dp a : Nat) (w : Int) (r : Int × Nat × Int), dp ≤ 4 → a ≤ T.length → ps T f (n + 1) 0 dp 0 a w = some r → am_Sm l G yX9_thing mt_X9_thing (k + 7) [.inr (.inr 96), .inl (dp : Int)] (aw M (a : Int) w) (am_rr (some (.inl r.1)) (aw M (r.2.1 : Int) r.2.2)) := by
  intro dp a w r hdp ha hh
  have hTl : T.length ≤ 80 := by obtain ⟨-, -, -, g1, ⟨tp, -, -, g2⟩, -⟩ := hr; omega
  have ho := txAt_ok (p := (a : Int)) hr.2.2.2.2.2.1
  refine am_enter (ls := [some (.inr (.inr 96)), some (.inl (dp : Int)), none, none]) (by decide) rfl (Nat.le_of_ble_eq_true rfl) rfl ?_
  rw [ps] at hh
  split at hh
  · rename_i hc
    obtain ⟨rfl, h45⟩ := hc
    have hl := txAt_lt (T := T) (a := a) (by omega)
    obtain ⟨x, hx, rfl⟩ := Option.map_eq_some_iff.mp hh
    refine rn_aload_n (x := 95) (q := 1) dX9_thing_0 rfl rfl ?_
    refine rn_bipush (q := 3) dX9_thing_1 ⟨by decide, by decide⟩ rfl ?_
    refine rn_callV (b := 95) (as := [.inl 45]) (rest := []) (q := 6) dX9_thing_3 ml_X9_150 sm_X9_passes rfl rfl (by decide) (by omega) rfl rfl (Nat.le_of_ble_eq_true rfl) rfl (s_passY (d := k) hr a (-1) 45 (by omega) ⟨rfl, h45⟩) ?_
    intro r3 mem3 hq3
    obtain ⟨rfl, rfl⟩ := hq3
    show am_Rn l G _ _ 6 [some (.inr (.inr 96)), some (.inl (dp : Int)), none, none] [.inl 1] (aw M ((a + 1 : Nat) : Int) (-1)) _
    refine rn_ifeq (t := 16) (q := 9) dX9_thing_6 rfl rfl (fun h => absurd h (by decide)) (fun w6 => ?_)
    refine rn_aload_n (x := 95) (q := 10) dX9_thing_9 rfl rfl ?_
    refine rn_iload_n (x := (dp : Int)) (q := 11) dX9_thing_10 rfl rfl ?_
    refine rn_callV (b := 95) (as := [.inl (dp : Int)]) (rest := []) (q := 14) dX9_thing_11 ml_X9_187 sm_X9_thing rfl rfl (by decide) (by omega) rfl rfl (Nat.le_of_ble_eq_true rfl) rfl (I.1 dp (a + 1) (-1) x hdp (by omega) hx) ?_
    intro r11 mem11 hq11
    obtain ⟨rfl, rfl⟩ := hq11
    show am_Rn l G _ _ 14 [some (.inr (.inr 96)), some (.inl (dp : Int)), none, none] [.inl x.1] (aw M (x.2.1 : Int) x.2.2) _
    refine rn_ineg (q := 15) dX9_thing_14 rfl ?_
    refine rn_iret dX9_thing_15 rfl ?_
    exact ⟨rfl, rfl⟩
  · rename_i hn45
    split at hh
    · rename_i hw
      obtain rfl := Option.some.inj hh
      refine rn_aload_n (x := 95) (q := 1) dX9_thing_0 rfl rfl ?_
      refine rn_bipush (q := 3) dX9_thing_1 ⟨by decide, by decide⟩ rfl ?_
      refine rn_callV (b := 95) (as := [.inl 45]) (rest := []) (q := 6) dX9_thing_3 ml_X9_150 sm_X9_passes rfl rfl (by decide) (by omega) rfl rfl (Nat.le_of_ble_eq_true rfl) rfl (s_passN (d := k) hr a w 45 (by omega) hn45) ?_
      intro r3 mem3 hq3
      obtain ⟨rfl, rfl⟩ := hq3
      show am_Rn l G _ _ 6 [some (.inr (.inr 96)), some (.inl (dp : Int)), none, none] [.inl 0] (aw M (a : Int) w) _
      refine rn_ifeq (t := 16) (q := 9) dX9_thing_6 rfl rfl (fun w6 => ?_) (fun h => absurd h (by decide))
      refine rn_aload_n (x := 95) (q := 17) dX9_thing_16 rfl rfl ?_
      refine rn_callV (b := 95) (as := []) (rest := []) (q := 20) dX9_thing_17 ml_X9_142 sm_X9_fine rfl rfl (by decide) (by omega) rfl rfl (Nat.le_of_ble_eq_true rfl) rfl (s_fineF (d := k) _ w hw) ?_
      intro r17 mem17 hq17
      obtain ⟨rfl, rfl⟩ := hq17
      show am_Rn l G _ _ 20 [some (.inr (.inr 96)), some (.inl (dp : Int)), none, none] [.inl 0] (aw M (a : Int) w) _
      refine rn_ifne (t := 25) (q := 23) dX9_thing_20 rfl rfl (fun h => absurd h (by decide)) (fun w20 => ?_)
      refine rn_iconst (q := 24) dX9_thing_23 (am_okd rfl) rfl ?_
      refine rn_iret dX9_thing_24 rfl ?_
      exact ⟨rfl, rfl⟩
    · rename_i hw
      have hw : w = -1 := Classical.not_not.mp hw
      subst hw
      have h45 : ¬ txAt T (a : Int) = 45 := fun z => hn45 ⟨rfl, z⟩
      split at hh
      · rename_i hc
        obtain ⟨h40, hd4⟩ := hc
        have hl := txAt_lt (T := T) (a := a) (by omega)
        obtain ⟨x, hx, rfl⟩ := Option.map_eq_some_iff.mp hh
        have hxa := ps_at T f n 5 (dp + 1) 0 (a + 1) (-1) x hx (by omega)
        by_cases hz : x.2.2 = -1 ∧ txAt T (x.2.1 : Int) = 41
        · rw [if_pos hz]
          refine rn_aload_n (x := 95) (q := 1) dX9_thing_0 rfl rfl ?_
          refine rn_bipush (q := 3) dX9_thing_1 ⟨by decide, by decide⟩ rfl ?_
          refine rn_callV (b := 95) (as := [.inl 45]) (rest := []) (q := 6) dX9_thing_3 ml_X9_150 sm_X9_passes rfl rfl (by decide) (by omega) rfl rfl (Nat.le_of_ble_eq_true rfl) rfl (s_passN (d := k) hr a (-1) 45 (by omega) hn45) ?_
          intro r3 mem3 hq3
          obtain ⟨rfl, rfl⟩ := hq3
          show am_Rn l G _ _ 6 [some (.inr (.inr 96)), some (.inl (dp : Int)), none, none] [.inl 0] (aw M (a : Int) (-1)) _
          refine rn_ifeq (t := 16) (q := 9) dX9_thing_6 rfl rfl (fun w6 => ?_) (fun h => absurd h (by decide))
          refine rn_aload_n (x := 95) (q := 17) dX9_thing_16 rfl rfl ?_
          refine rn_callV (b := 95) (as := []) (rest := []) (q := 20) dX9_thing_17 ml_X9_142 sm_X9_fine rfl rfl (by decide) (by omega) rfl rfl (Nat.le_of_ble_eq_true rfl) rfl (s_fineT (d := k) _) ?_
          intro r17 mem17 hq17
          obtain ⟨rfl, rfl⟩ := hq17
          show am_Rn l G _ _ 20 [some (.inr (.inr 96)), some (.inl (dp : Int)), none, none] [.inl 1] (aw M (a : Int) (-1)) _
          refine rn_ifne (t := 25) (q := 23) dX9_thing_20 rfl rfl (fun w20 => ?_) (fun h => absurd h (by decide))
          refine rn_aload_n (x := 95) (q := 26) dX9_thing_25 rfl rfl ?_
          refine rn_callV (b := 95) (as := []) (rest := []) (q := 29) dX9_thing_26 ml_X9_146 sm_X9_here rfl rfl (by decide) (by omega) rfl rfl (Nat.le_of_ble_eq_true rfl) rfl (s_here9 (d := k) hr a (-1) (by omega)) ?_
          intro r26 mem26 hq26
          obtain ⟨rfl, rfl⟩ := hq26
          show am_Rn l G _ _ 29 [some (.inr (.inr 96)), some (.inl (dp : Int)), none, none] [.inl (txAt T (a : Int))] (aw M (a : Int) (-1)) _
          refine rn_istore_n (ls' := [some (.inr (.inr 96)), some (.inl (dp : Int)), some (.inl (txAt T (a : Int))), none]) (q := 30) dX9_thing_29 (by decide) rfl rfl ?_
          refine rn_iload_n (x := (txAt T (a : Int))) (q := 31) dX9_thing_30 rfl rfl ?_
          refine rn_bipush (q := 33) dX9_thing_31 ⟨by decide, by decide⟩ rfl ?_
          refine rn_cmpne (t := 67) (q := 36) dX9_thing_33 rfl rfl (fun h => absurd h (by omega)) (fun w33 => ?_)
          refine rn_iload_n (x := (dp : Int)) (q := 37) dX9_thing_36 rfl rfl ?_
          refine rn_iconst (q := 38) dX9_thing_37 (am_okd rfl) rfl ?_
          refine rn_cmpge (t := 67) (q := 41) dX9_thing_38 rfl rfl (fun h => absurd h (by omega)) (fun w38 => ?_)
          refine rn_aload_n (x := 95) (q := 42) dX9_thing_41 rfl rfl ?_
          refine rn_dup (q := 43) dX9_thing_42 rfl rfl ?_
          refine rn_get (a := 95) (v := .inl (a : Int)) (q := 46) dX9_thing_43 fl_X9_132 rfl rfl rfl ?_
          refine rn_iconst (q := 47) dX9_thing_46 (am_okd rfl) rfl ?_
          refine rn_iaddN (z := ((a + 1 : Nat) : Int)) (q := 48) dX9_thing_47 (by omega) (by unfold am_ok; omega) rfl ?_
          refine rn_puti (a := 95) (q := 51) dX9_thing_48 fl_X9_132 rfl rfl rfl rfl ?_
          rw [aw_at]
          refine rn_aload_n (x := 95) (q := 52) dX9_thing_51 rfl rfl ?_
          refine rn_iload_n (x := (dp : Int)) (q := 53) dX9_thing_52 rfl rfl ?_
          refine rn_iconst (q := 54) dX9_thing_53 (am_okd rfl) rfl ?_
          refine rn_iaddN (z := ((dp + 1 : Nat) : Int)) (q := 55) dX9_thing_54 (by omega) (by unfold am_ok; omega) rfl ?_
          refine rn_callV (b := 95) (as := [.inl ((dp + 1 : Nat) : Int)]) (rest := []) (q := 58) dX9_thing_55 ml_X9_190 sm_X9_held rfl rfl (by decide) (by omega) rfl rfl (Nat.le_of_ble_eq_true rfl) rfl (I.2.2.2.2.2 (dp + 1) (a + 1) (-1) x (by omega) (by omega) hx) ?_
          intro r55 mem55 hq55
          obtain ⟨rfl, rfl⟩ := hq55
          show am_Rn l G _ _ 58 [some (.inr (.inr 96)), some (.inl (dp : Int)), some (.inl (txAt T (a : Int))), none] [.inl x.1] (aw M (x.2.1 : Int) x.2.2) _
          refine rn_istore_n (ls' := [some (.inr (.inr 96)), some (.inl (dp : Int)), some (.inl (txAt T (a : Int))), some (.inl x.1)]) (q := 59) dX9_thing_58 (by decide) rfl rfl ?_
          refine rn_aload_n (x := 95) (q := 60) dX9_thing_59 rfl rfl ?_
          refine rn_bipush (q := 62) dX9_thing_60 ⟨by decide, by decide⟩ rfl ?_
          refine rn_callV (b := 95) (as := [.inl 41]) (rest := []) (q := 65) dX9_thing_62 ml_X9_193 sm_X9_need rfl rfl (by decide) (by omega) rfl rfl (Nat.le_of_ble_eq_true rfl) rfl (s_needY (d := k) hr x.2.1 x.2.2 41 (by omega) hz) ?_
          intro r62 mem62 hq62
          obtain ⟨rfl, rfl⟩ := hq62
          show am_Rn l G _ _ 65 [some (.inr (.inr 96)), some (.inl (dp : Int)), some (.inl (txAt T (a : Int))), some (.inl x.1)] [] (aw M ((x.2.1 + 1 : Nat) : Int) x.2.2) _
          refine rn_iload_n (x := x.1) (q := 66) dX9_thing_65 rfl rfl ?_
          refine rn_iret dX9_thing_66 rfl ?_
          exact ⟨rfl, rfl⟩
        · rw [if_neg hz]
          refine rn_aload_n (x := 95) (q := 1) dX9_thing_0 rfl rfl ?_
          refine rn_bipush (q := 3) dX9_thing_1 ⟨by decide, by decide⟩ rfl ?_
          refine rn_callV (b := 95) (as := [.inl 45]) (rest := []) (q := 6) dX9_thing_3 ml_X9_150 sm_X9_passes rfl rfl (by decide) (by omega) rfl rfl (Nat.le_of_ble_eq_true rfl) rfl (s_passN (d := k) hr a (-1) 45 (by omega) hn45) ?_
          intro r3 mem3 hq3
          obtain ⟨rfl, rfl⟩ := hq3
          show am_Rn l G _ _ 6 [some (.inr (.inr 96)), some (.inl (dp : Int)), none, none] [.inl 0] (aw M (a : Int) (-1)) _
          refine rn_ifeq (t := 16) (q := 9) dX9_thing_6 rfl rfl (fun w6 => ?_) (fun h => absurd h (by decide))
          refine rn_aload_n (x := 95) (q := 17) dX9_thing_16 rfl rfl ?_
          refine rn_callV (b := 95) (as := []) (rest := []) (q := 20) dX9_thing_17 ml_X9_142 sm_X9_fine rfl rfl (by decide) (by omega) rfl rfl (Nat.le_of_ble_eq_true rfl) rfl (s_fineT (d := k) _) ?_
          intro r17 mem17 hq17
          obtain ⟨rfl, rfl⟩ := hq17
          show am_Rn l G _ _ 20 [some (.inr (.inr 96)), some (.inl (dp : Int)), none, none] [.inl 1] (aw M (a : Int) (-1)) _
          refine rn_ifne (t := 25) (q := 23) dX9_thing_20 rfl rfl (fun w20 => ?_) (fun h => absurd h (by decide))
          refine rn_aload_n (x := 95) (q := 26) dX9_thing_25 rfl rfl ?_
          refine rn_callV (b := 95) (as := []) (rest := []) (q := 29) dX9_thing_26 ml_X9_146 sm_X9_here rfl rfl (by decide) (by omega) rfl rfl (Nat.le_of_ble_eq_true rfl) rfl (s_here9 (d := k) hr a (-1) (by omega)) ?_
          intro r26 mem26 hq26
          obtain ⟨rfl, rfl⟩ := hq26
          show am_Rn l G _ _ 29 [some (.inr (.inr 96)), some (.inl (dp : Int)), none, none] [.inl (txAt T (a : Int))] (aw M (a : Int) (-1)) _
          refine rn_istore_n (ls' := [some (.inr (.inr 96)), some (.inl (dp : Int)), some (.inl (txAt T (a : Int))), none]) (q := 30) dX9_thing_29 (by decide) rfl rfl ?_
          refine rn_iload_n (x := (txAt T (a : Int))) (q := 31) dX9_thing_30 rfl rfl ?_
          refine rn_bipush (q := 33) dX9_thing_31 ⟨by decide, by decide⟩ rfl ?_
          refine rn_cmpne (t := 67) (q := 36) dX9_thing_33 rfl rfl (fun h => absurd h (by omega)) (fun w33 => ?_)
          refine rn_iload_n (x := (dp : Int)) (q := 37) dX9_thing_36 rfl rfl ?_
          refine rn_iconst (q := 38) dX9_thing_37 (am_okd rfl) rfl ?_
          refine rn_cmpge (t := 67) (q := 41) dX9_thing_38 rfl rfl (fun h => absurd h (by omega)) (fun w38 => ?_)
          refine rn_aload_n (x := 95) (q := 42) dX9_thing_41 rfl rfl ?_
          refine rn_dup (q := 43) dX9_thing_42 rfl rfl ?_
          refine rn_get (a := 95) (v := .inl (a : Int)) (q := 46) dX9_thing_43 fl_X9_132 rfl rfl rfl ?_
          refine rn_iconst (q := 47) dX9_thing_46 (am_okd rfl) rfl ?_
          refine rn_iaddN (z := ((a + 1 : Nat) : Int)) (q := 48) dX9_thing_47 (by omega) (by unfold am_ok; omega) rfl ?_
          refine rn_puti (a := 95) (q := 51) dX9_thing_48 fl_X9_132 rfl rfl rfl rfl ?_
          rw [aw_at]
          refine rn_aload_n (x := 95) (q := 52) dX9_thing_51 rfl rfl ?_
          refine rn_iload_n (x := (dp : Int)) (q := 53) dX9_thing_52 rfl rfl ?_
          refine rn_iconst (q := 54) dX9_thing_53 (am_okd rfl) rfl ?_
          refine rn_iaddN (z := ((dp + 1 : Nat) : Int)) (q := 55) dX9_thing_54 (by omega) (by unfold am_ok; omega) rfl ?_
          refine rn_callV (b := 95) (as := [.inl ((dp + 1 : Nat) : Int)]) (rest := []) (q := 58) dX9_thing_55 ml_X9_190 sm_X9_held rfl rfl (by decide) (by omega) rfl rfl (Nat.le_of_ble_eq_true rfl) rfl (I.2.2.2.2.2 (dp + 1) (a + 1) (-1) x (by omega) (by omega) hx) ?_
          intro r55 mem55 hq55
          obtain ⟨rfl, rfl⟩ := hq55
          show am_Rn l G _ _ 58 [some (.inr (.inr 96)), some (.inl (dp : Int)), some (.inl (txAt T (a : Int))), none] [.inl x.1] (aw M (x.2.1 : Int) x.2.2) _
          refine rn_istore_n (ls' := [some (.inr (.inr 96)), some (.inl (dp : Int)), some (.inl (txAt T (a : Int))), some (.inl x.1)]) (q := 59) dX9_thing_58 (by decide) rfl rfl ?_
          refine rn_aload_n (x := 95) (q := 60) dX9_thing_59 rfl rfl ?_
          refine rn_bipush (q := 62) dX9_thing_60 ⟨by decide, by decide⟩ rfl ?_
          refine rn_callV (b := 95) (as := [.inl 41]) (rest := []) (q := 65) dX9_thing_62 ml_X9_193 sm_X9_need rfl rfl (by decide) (by omega) rfl rfl (Nat.le_of_ble_eq_true rfl) rfl (s_needN (d := k) hr x.2.1 x.2.2 41 (by omega) hz) ?_
          intro r62 mem62 hq62
          obtain ⟨rfl, rfl⟩ := hq62
          show am_Rn l G _ _ 65 [some (.inr (.inr 96)), some (.inl (dp : Int)), some (.inl (txAt T (a : Int))), some (.inl x.1)] [] (aw M (x.2.1 : Int) (if x.2.2 = -1 then (x.2.1 : Int) else x.2.2)) _
          refine rn_iload_n (x := x.1) (q := 66) dX9_thing_65 rfl rfl ?_
          refine rn_iret dX9_thing_66 rfl ?_
          exact ⟨rfl, rfl⟩
      · rename_i hn40
        split at hh
        · rename_i hdg
          obtain rfl := Option.some.inj hh
          refine rn_aload_n (x := 95) (q := 1) dX9_thing_0 rfl rfl ?_
          refine rn_bipush (q := 3) dX9_thing_1 ⟨by decide, by decide⟩ rfl ?_
          refine rn_callV (b := 95) (as := [.inl 45]) (rest := []) (q := 6) dX9_thing_3 ml_X9_150 sm_X9_passes rfl rfl (by decide) (by omega) rfl rfl (Nat.le_of_ble_eq_true rfl) rfl (s_passN (d := k) hr a (-1) 45 (by omega) hn45) ?_
          intro r3 mem3 hq3
          obtain ⟨rfl, rfl⟩ := hq3
          show am_Rn l G _ _ 6 [some (.inr (.inr 96)), some (.inl (dp : Int)), none, none] [.inl 0] (aw M (a : Int) (-1)) _
          refine rn_ifeq (t := 16) (q := 9) dX9_thing_6 rfl rfl (fun w6 => ?_) (fun h => absurd h (by decide))
          refine rn_aload_n (x := 95) (q := 17) dX9_thing_16 rfl rfl ?_
          refine rn_callV (b := 95) (as := []) (rest := []) (q := 20) dX9_thing_17 ml_X9_142 sm_X9_fine rfl rfl (by decide) (by omega) rfl rfl (Nat.le_of_ble_eq_true rfl) rfl (s_fineT (d := k) _) ?_
          intro r17 mem17 hq17
          obtain ⟨rfl, rfl⟩ := hq17
          show am_Rn l G _ _ 20 [some (.inr (.inr 96)), some (.inl (dp : Int)), none, none] [.inl 1] (aw M (a : Int) (-1)) _
          refine rn_ifne (t := 25) (q := 23) dX9_thing_20 rfl rfl (fun w20 => ?_) (fun h => absurd h (by decide))
          refine rn_aload_n (x := 95) (q := 26) dX9_thing_25 rfl rfl ?_
          refine rn_callV (b := 95) (as := []) (rest := []) (q := 29) dX9_thing_26 ml_X9_146 sm_X9_here rfl rfl (by decide) (by omega) rfl rfl (Nat.le_of_ble_eq_true rfl) rfl (s_here9 (d := k) hr a (-1) (by omega)) ?_
          intro r26 mem26 hq26
          obtain ⟨rfl, rfl⟩ := hq26
          show am_Rn l G _ _ 29 [some (.inr (.inr 96)), some (.inl (dp : Int)), none, none] [.inl (txAt T (a : Int))] (aw M (a : Int) (-1)) _
          refine rn_istore_n (ls' := [some (.inr (.inr 96)), some (.inl (dp : Int)), some (.inl (txAt T (a : Int))), none]) (q := 30) dX9_thing_29 (by decide) rfl rfl ?_
          refine rn_iload_n (x := (txAt T (a : Int))) (q := 31) dX9_thing_30 rfl rfl ?_
          refine rn_bipush (q := 33) dX9_thing_31 ⟨by decide, by decide⟩ rfl ?_
          refine rn_cmpne (t := 67) (q := 36) dX9_thing_33 rfl rfl (fun w33 => ?_) (fun h => absurd h (by omega))
          refine rn_iload_n (x := (txAt T (a : Int))) (q := 68) dX9_thing_67 rfl rfl ?_
          refine rn_bipush (q := 70) dX9_thing_68 ⟨by decide, by decide⟩ rfl ?_
          refine rn_bipush (q := 72) dX9_thing_70 ⟨by decide, by decide⟩ rfl ?_
          refine rn_callS (as := [.inl (txAt T (a : Int)), .inl 48, .inl 57]) (rest := []) (q := 75) dX9_thing_72 ml_X9_116 sm_X9_in (by omega) rfl rfl (Nat.le_of_ble_eq_true rfl) rfl (s_inY (d := k) _ _ _ hdg) ?_
          intro r72 mem72 hq72
          obtain ⟨rfl, rfl⟩ := hq72
          show am_Rn l G _ _ 75 [some (.inr (.inr 96)), some (.inl (dp : Int)), some (.inl (txAt T (a : Int))), none] [.inl 1] (aw M (a : Int) (-1)) _
          refine rn_ifeq (t := 84) (q := 78) dX9_thing_75 rfl rfl (fun h => absurd h (by decide)) (fun w75 => ?_)
          refine rn_aload_n (x := 95) (q := 79) dX9_thing_78 rfl rfl ?_
          refine rn_iconst (q := 80) dX9_thing_79 (am_okd rfl) rfl ?_
          refine rn_callV (b := 95) (as := [.inl 3]) (rest := []) (q := 83) dX9_thing_80 ml_X9_197 sm_X9_number rfl rfl (by decide) (by omega) rfl rfl (Nat.le_of_ble_eq_true rfl) rfl (s_number9 (d := k) hr a hdg (by omega)) ?_
          intro r80 mem80 hq80
          obtain ⟨rfl, rfl⟩ := hq80
          show am_Rn l G _ _ 83 [some (.inr (.inr 96)), some (.inl (dp : Int)), some (.inl (txAt T (a : Int))), none] [.inl ((nm3 T a).1)] (aw M ((nm3 T a).2 : Int) (-1)) _
          refine rn_iret dX9_thing_83 rfl ?_
          exact ⟨rfl, rfl⟩
        · rename_i hdg
          have hin : ¬ ((48 : Int) ≤ txAt T (a : Int) ∧ txAt T (a : Int) ≤ 57) := hdg
          split at hh
          · rename_i hl
            obtain rfl := Option.some.inj hh
            refine rn_aload_n (x := 95) (q := 1) dX9_thing_0 rfl rfl ?_
            refine rn_bipush (q := 3) dX9_thing_1 ⟨by decide, by decide⟩ rfl ?_
            refine rn_callV (b := 95) (as := [.inl 45]) (rest := []) (q := 6) dX9_thing_3 ml_X9_150 sm_X9_passes rfl rfl (by decide) (by omega) rfl rfl (Nat.le_of_ble_eq_true rfl) rfl (s_passN (d := k) hr a (-1) 45 (by omega) hn45) ?_
            intro r3 mem3 hq3
            obtain ⟨rfl, rfl⟩ := hq3
            show am_Rn l G _ _ 6 [some (.inr (.inr 96)), some (.inl (dp : Int)), none, none] [.inl 0] (aw M (a : Int) (-1)) _
            refine rn_ifeq (t := 16) (q := 9) dX9_thing_6 rfl rfl (fun w6 => ?_) (fun h => absurd h (by decide))
            refine rn_aload_n (x := 95) (q := 17) dX9_thing_16 rfl rfl ?_
            refine rn_callV (b := 95) (as := []) (rest := []) (q := 20) dX9_thing_17 ml_X9_142 sm_X9_fine rfl rfl (by decide) (by omega) rfl rfl (Nat.le_of_ble_eq_true rfl) rfl (s_fineT (d := k) _) ?_
            intro r17 mem17 hq17
            obtain ⟨rfl, rfl⟩ := hq17
            show am_Rn l G _ _ 20 [some (.inr (.inr 96)), some (.inl (dp : Int)), none, none] [.inl 1] (aw M (a : Int) (-1)) _
            refine rn_ifne (t := 25) (q := 23) dX9_thing_20 rfl rfl (fun w20 => ?_) (fun h => absurd h (by decide))
            refine rn_aload_n (x := 95) (q := 26) dX9_thing_25 rfl rfl ?_
            refine rn_callV (b := 95) (as := []) (rest := []) (q := 29) dX9_thing_26 ml_X9_146 sm_X9_here rfl rfl (by decide) (by omega) rfl rfl (Nat.le_of_ble_eq_true rfl) rfl (s_here9 (d := k) hr a (-1) (by omega)) ?_
            intro r26 mem26 hq26
            obtain ⟨rfl, rfl⟩ := hq26
            show am_Rn l G _ _ 29 [some (.inr (.inr 96)), some (.inl (dp : Int)), none, none] [.inl (txAt T (a : Int))] (aw M (a : Int) (-1)) _
            refine rn_istore_n (ls' := [some (.inr (.inr 96)), some (.inl (dp : Int)), some (.inl (txAt T (a : Int))), none]) (q := 30) dX9_thing_29 (by decide) rfl rfl ?_
            refine rn_iload_n (x := (txAt T (a : Int))) (q := 31) dX9_thing_30 rfl rfl ?_
            refine rn_bipush (q := 33) dX9_thing_31 ⟨by decide, by decide⟩ rfl ?_
            refine rn_cmpne (t := 67) (q := 36) dX9_thing_33 rfl rfl (fun w33 => ?_) (fun w33 => ?_)
            · refine rn_iload_n (x := (txAt T (a : Int))) (q := 68) dX9_thing_67 rfl rfl ?_
              refine rn_bipush (q := 70) dX9_thing_68 ⟨by decide, by decide⟩ rfl ?_
              refine rn_bipush (q := 72) dX9_thing_70 ⟨by decide, by decide⟩ rfl ?_
              refine rn_callS (as := [.inl (txAt T (a : Int)), .inl 48, .inl 57]) (rest := []) (q := 75) dX9_thing_72 ml_X9_116 sm_X9_in (by omega) rfl rfl (Nat.le_of_ble_eq_true rfl) rfl (s_inN (d := k) _ _ _ hin) ?_
              intro r72 mem72 hq72
              obtain ⟨rfl, rfl⟩ := hq72
              show am_Rn l G _ _ 75 [some (.inr (.inr 96)), some (.inl (dp : Int)), some (.inl (txAt T (a : Int))), none] [.inl 0] (aw M (a : Int) (-1)) _
              refine rn_ifeq (t := 84) (q := 78) dX9_thing_75 rfl rfl (fun w75 => ?_) (fun h => absurd h (by decide))
              refine rn_iload_n (x := (txAt T (a : Int))) (q := 85) dX9_thing_84 rfl rfl ?_
              refine rn_callS (as := [.inl (txAt T (a : Int))]) (rest := []) (q := 88) dX9_thing_85 ml_X9_200 sm_X9_letterOf (by omega) rfl rfl (Nat.le_of_ble_eq_true rfl) rfl (s_letterOf9 (d := k) _) ?_
              intro r85 mem85 hq85
              obtain ⟨rfl, rfl⟩ := hq85
              show am_Rn l G _ _ 88 [some (.inr (.inr 96)), some (.inl (dp : Int)), some (.inl (txAt T (a : Int))), none] [.inl (ltr (txAt T (a : Int)))] (aw M (a : Int) (-1)) _
              refine rn_iconst (q := 89) dX9_thing_88 (am_okd rfl) rfl ?_
              refine rn_cmpne (t := 102) (q := 92) dX9_thing_89 rfl rfl (fun h => absurd h (by omega)) (fun w89 => ?_)
              refine rn_aload_n (x := 95) (q := 93) dX9_thing_92 rfl rfl ?_
              refine rn_aload_n (x := 95) (q := 94) dX9_thing_93 rfl rfl ?_
              refine rn_get (a := 95) (v := .inl (a : Int)) (q := 97) dX9_thing_94 fl_X9_132 rfl rfl rfl ?_
              refine rn_callV (b := 95) (as := [.inl (a : Int)]) (rest := []) (q := 100) dX9_thing_97 ml_X9_154 sm_X9_fault rfl rfl (by decide) (by omega) rfl rfl (Nat.le_of_ble_eq_true rfl) rfl (s_faultT (d := k) (a : Int) (a : Int)) ?_
              intro r97 mem97 hq97
              obtain ⟨rfl, rfl⟩ := hq97
              show am_Rn l G _ _ 100 [some (.inr (.inr 96)), some (.inl (dp : Int)), some (.inl (txAt T (a : Int))), none] [] (aw M (a : Int) (a : Int)) _
              refine rn_iconst (q := 101) dX9_thing_100 (am_okd rfl) rfl ?_
              refine rn_iret dX9_thing_101 rfl ?_
              exact ⟨rfl, rfl⟩
            · refine rn_iload_n (x := (dp : Int)) (q := 37) dX9_thing_36 rfl rfl ?_
              refine rn_iconst (q := 38) dX9_thing_37 (am_okd rfl) rfl ?_
              refine rn_cmpge (t := 67) (q := 41) dX9_thing_38 rfl rfl (fun w38 => ?_) (fun h => absurd h (by omega))
              refine rn_iload_n (x := (txAt T (a : Int))) (q := 68) dX9_thing_67 rfl rfl ?_
              refine rn_bipush (q := 70) dX9_thing_68 ⟨by decide, by decide⟩ rfl ?_
              refine rn_bipush (q := 72) dX9_thing_70 ⟨by decide, by decide⟩ rfl ?_
              refine rn_callS (as := [.inl (txAt T (a : Int)), .inl 48, .inl 57]) (rest := []) (q := 75) dX9_thing_72 ml_X9_116 sm_X9_in (by omega) rfl rfl (Nat.le_of_ble_eq_true rfl) rfl (s_inN (d := k) _ _ _ hin) ?_
              intro r72 mem72 hq72
              obtain ⟨rfl, rfl⟩ := hq72
              show am_Rn l G _ _ 75 [some (.inr (.inr 96)), some (.inl (dp : Int)), some (.inl (txAt T (a : Int))), none] [.inl 0] (aw M (a : Int) (-1)) _
              refine rn_ifeq (t := 84) (q := 78) dX9_thing_75 rfl rfl (fun w75 => ?_) (fun h => absurd h (by decide))
              refine rn_iload_n (x := (txAt T (a : Int))) (q := 85) dX9_thing_84 rfl rfl ?_
              refine rn_callS (as := [.inl (txAt T (a : Int))]) (rest := []) (q := 88) dX9_thing_85 ml_X9_200 sm_X9_letterOf (by omega) rfl rfl (Nat.le_of_ble_eq_true rfl) rfl (s_letterOf9 (d := k) _) ?_
              intro r85 mem85 hq85
              obtain ⟨rfl, rfl⟩ := hq85
              show am_Rn l G _ _ 88 [some (.inr (.inr 96)), some (.inl (dp : Int)), some (.inl (txAt T (a : Int))), none] [.inl (ltr (txAt T (a : Int)))] (aw M (a : Int) (-1)) _
              refine rn_iconst (q := 89) dX9_thing_88 (am_okd rfl) rfl ?_
              refine rn_cmpne (t := 102) (q := 92) dX9_thing_89 rfl rfl (fun h => absurd h (by omega)) (fun w89 => ?_)
              refine rn_aload_n (x := 95) (q := 93) dX9_thing_92 rfl rfl ?_
              refine rn_aload_n (x := 95) (q := 94) dX9_thing_93 rfl rfl ?_
              refine rn_get (a := 95) (v := .inl (a : Int)) (q := 97) dX9_thing_94 fl_X9_132 rfl rfl rfl ?_
              refine rn_callV (b := 95) (as := [.inl (a : Int)]) (rest := []) (q := 100) dX9_thing_97 ml_X9_154 sm_X9_fault rfl rfl (by decide) (by omega) rfl rfl (Nat.le_of_ble_eq_true rfl) rfl (s_faultT (d := k) (a : Int) (a : Int)) ?_
              intro r97 mem97 hq97
              obtain ⟨rfl, rfl⟩ := hq97
              show am_Rn l G _ _ 100 [some (.inr (.inr 96)), some (.inl (dp : Int)), some (.inl (txAt T (a : Int))), none] [] (aw M (a : Int) (a : Int)) _
              refine rn_iconst (q := 101) dX9_thing_100 (am_okd rfl) rfl ?_
              refine rn_iret dX9_thing_101 rfl ?_
              exact ⟨rfl, rfl⟩
          · rename_i hl
            obtain rfl := Option.some.inj hh
            have hlb := ltr_b (txAt T (a : Int))
            have hal := txAt_lt (T := T) (a := a) (fun z => hl (by rw [z]; decide))
            rcases hf with ⟨hf0, hf1⟩ | ⟨hf0, hf1⟩
            · rw [show f (ltr (txAt T (a : Int))).toNat = 0 from hf1 _]
              refine rn_aload_n (x := 95) (q := 1) dX9_thing_0 rfl rfl ?_
              refine rn_bipush (q := 3) dX9_thing_1 ⟨by decide, by decide⟩ rfl ?_
              refine rn_callV (b := 95) (as := [.inl 45]) (rest := []) (q := 6) dX9_thing_3 ml_X9_150 sm_X9_passes rfl rfl (by decide) (by omega) rfl rfl (Nat.le_of_ble_eq_true rfl) rfl (s_passN (d := k) hr a (-1) 45 (by omega) hn45) ?_
              intro r3 mem3 hq3
              obtain ⟨rfl, rfl⟩ := hq3
              show am_Rn l G _ _ 6 [some (.inr (.inr 96)), some (.inl (dp : Int)), none, none] [.inl 0] (aw M (a : Int) (-1)) _
              refine rn_ifeq (t := 16) (q := 9) dX9_thing_6 rfl rfl (fun w6 => ?_) (fun h => absurd h (by decide))
              refine rn_aload_n (x := 95) (q := 17) dX9_thing_16 rfl rfl ?_
              refine rn_callV (b := 95) (as := []) (rest := []) (q := 20) dX9_thing_17 ml_X9_142 sm_X9_fine rfl rfl (by decide) (by omega) rfl rfl (Nat.le_of_ble_eq_true rfl) rfl (s_fineT (d := k) _) ?_
              intro r17 mem17 hq17
              obtain ⟨rfl, rfl⟩ := hq17
              show am_Rn l G _ _ 20 [some (.inr (.inr 96)), some (.inl (dp : Int)), none, none] [.inl 1] (aw M (a : Int) (-1)) _
              refine rn_ifne (t := 25) (q := 23) dX9_thing_20 rfl rfl (fun w20 => ?_) (fun h => absurd h (by decide))
              refine rn_aload_n (x := 95) (q := 26) dX9_thing_25 rfl rfl ?_
              refine rn_callV (b := 95) (as := []) (rest := []) (q := 29) dX9_thing_26 ml_X9_146 sm_X9_here rfl rfl (by decide) (by omega) rfl rfl (Nat.le_of_ble_eq_true rfl) rfl (s_here9 (d := k) hr a (-1) (by omega)) ?_
              intro r26 mem26 hq26
              obtain ⟨rfl, rfl⟩ := hq26
              show am_Rn l G _ _ 29 [some (.inr (.inr 96)), some (.inl (dp : Int)), none, none] [.inl (txAt T (a : Int))] (aw M (a : Int) (-1)) _
              refine rn_istore_n (ls' := [some (.inr (.inr 96)), some (.inl (dp : Int)), some (.inl (txAt T (a : Int))), none]) (q := 30) dX9_thing_29 (by decide) rfl rfl ?_
              refine rn_iload_n (x := (txAt T (a : Int))) (q := 31) dX9_thing_30 rfl rfl ?_
              refine rn_bipush (q := 33) dX9_thing_31 ⟨by decide, by decide⟩ rfl ?_
              refine rn_cmpne (t := 67) (q := 36) dX9_thing_33 rfl rfl (fun w33 => ?_) (fun w33 => ?_)
              · refine rn_iload_n (x := (txAt T (a : Int))) (q := 68) dX9_thing_67 rfl rfl ?_
                refine rn_bipush (q := 70) dX9_thing_68 ⟨by decide, by decide⟩ rfl ?_
                refine rn_bipush (q := 72) dX9_thing_70 ⟨by decide, by decide⟩ rfl ?_
                refine rn_callS (as := [.inl (txAt T (a : Int)), .inl 48, .inl 57]) (rest := []) (q := 75) dX9_thing_72 ml_X9_116 sm_X9_in (by omega) rfl rfl (Nat.le_of_ble_eq_true rfl) rfl (s_inN (d := k) _ _ _ hin) ?_
                intro r72 mem72 hq72
                obtain ⟨rfl, rfl⟩ := hq72
                show am_Rn l G _ _ 75 [some (.inr (.inr 96)), some (.inl (dp : Int)), some (.inl (txAt T (a : Int))), none] [.inl 0] (aw M (a : Int) (-1)) _
                refine rn_ifeq (t := 84) (q := 78) dX9_thing_75 rfl rfl (fun w75 => ?_) (fun h => absurd h (by decide))
                refine rn_iload_n (x := (txAt T (a : Int))) (q := 85) dX9_thing_84 rfl rfl ?_
                refine rn_callS (as := [.inl (txAt T (a : Int))]) (rest := []) (q := 88) dX9_thing_85 ml_X9_200 sm_X9_letterOf (by omega) rfl rfl (Nat.le_of_ble_eq_true rfl) rfl (s_letterOf9 (d := k) _) ?_
                intro r85 mem85 hq85
                obtain ⟨rfl, rfl⟩ := hq85
                show am_Rn l G _ _ 88 [some (.inr (.inr 96)), some (.inl (dp : Int)), some (.inl (txAt T (a : Int))), none] [.inl (ltr (txAt T (a : Int)))] (aw M (a : Int) (-1)) _
                refine rn_iconst (q := 89) dX9_thing_88 (am_okd rfl) rfl ?_
                refine rn_cmpne (t := 102) (q := 92) dX9_thing_89 rfl rfl (fun w89 => ?_) (fun h => absurd h (by omega))
                refine rn_aload_n (x := 95) (q := 103) dX9_thing_102 rfl rfl ?_
                refine rn_dup (q := 104) dX9_thing_103 rfl rfl ?_
                refine rn_get (a := 95) (v := .inl (a : Int)) (q := 107) dX9_thing_104 fl_X9_132 rfl rfl rfl ?_
                refine rn_iconst (q := 108) dX9_thing_107 (am_okd rfl) rfl ?_
                refine rn_iaddN (z := ((a + 1 : Nat) : Int)) (q := 109) dX9_thing_108 (by omega) (by unfold am_ok; omega) rfl ?_
                refine rn_puti (a := 95) (q := 112) dX9_thing_109 fl_X9_132 rfl rfl rfl rfl ?_
                rw [aw_at]
                refine rn_aload_n (x := 95) (q := 113) dX9_thing_112 rfl rfl ?_
                refine rn_get (a := 95) (v := .inl 0) (q := 116) dX9_thing_113 fl_X9_203 rfl (am_gi hf0) rfl ?_
                refine rn_ifeq (t := 131) (q := 119) dX9_thing_116 rfl rfl (fun w116 => ?_) (fun h => absurd h (by decide))
                refine rn_iconst (q := 132) dX9_thing_131 (am_okd rfl) rfl ?_
                refine rn_iret dX9_thing_132 rfl ?_
                exact ⟨rfl, rfl⟩
              · refine rn_iload_n (x := (dp : Int)) (q := 37) dX9_thing_36 rfl rfl ?_
                refine rn_iconst (q := 38) dX9_thing_37 (am_okd rfl) rfl ?_
                refine rn_cmpge (t := 67) (q := 41) dX9_thing_38 rfl rfl (fun w38 => ?_) (fun h => absurd h (by omega))
                refine rn_iload_n (x := (txAt T (a : Int))) (q := 68) dX9_thing_67 rfl rfl ?_
                refine rn_bipush (q := 70) dX9_thing_68 ⟨by decide, by decide⟩ rfl ?_
                refine rn_bipush (q := 72) dX9_thing_70 ⟨by decide, by decide⟩ rfl ?_
                refine rn_callS (as := [.inl (txAt T (a : Int)), .inl 48, .inl 57]) (rest := []) (q := 75) dX9_thing_72 ml_X9_116 sm_X9_in (by omega) rfl rfl (Nat.le_of_ble_eq_true rfl) rfl (s_inN (d := k) _ _ _ hin) ?_
                intro r72 mem72 hq72
                obtain ⟨rfl, rfl⟩ := hq72
                show am_Rn l G _ _ 75 [some (.inr (.inr 96)), some (.inl (dp : Int)), some (.inl (txAt T (a : Int))), none] [.inl 0] (aw M (a : Int) (-1)) _
                refine rn_ifeq (t := 84) (q := 78) dX9_thing_75 rfl rfl (fun w75 => ?_) (fun h => absurd h (by decide))
                refine rn_iload_n (x := (txAt T (a : Int))) (q := 85) dX9_thing_84 rfl rfl ?_
                refine rn_callS (as := [.inl (txAt T (a : Int))]) (rest := []) (q := 88) dX9_thing_85 ml_X9_200 sm_X9_letterOf (by omega) rfl rfl (Nat.le_of_ble_eq_true rfl) rfl (s_letterOf9 (d := k) _) ?_
                intro r85 mem85 hq85
                obtain ⟨rfl, rfl⟩ := hq85
                show am_Rn l G _ _ 88 [some (.inr (.inr 96)), some (.inl (dp : Int)), some (.inl (txAt T (a : Int))), none] [.inl (ltr (txAt T (a : Int)))] (aw M (a : Int) (-1)) _
                refine rn_iconst (q := 89) dX9_thing_88 (am_okd rfl) rfl ?_
                refine rn_cmpne (t := 102) (q := 92) dX9_thing_89 rfl rfl (fun w89 => ?_) (fun h => absurd h (by omega))
                refine rn_aload_n (x := 95) (q := 103) dX9_thing_102 rfl rfl ?_
                refine rn_dup (q := 104) dX9_thing_103 rfl rfl ?_
                refine rn_get (a := 95) (v := .inl (a : Int)) (q := 107) dX9_thing_104 fl_X9_132 rfl rfl rfl ?_
                refine rn_iconst (q := 108) dX9_thing_107 (am_okd rfl) rfl ?_
                refine rn_iaddN (z := ((a + 1 : Nat) : Int)) (q := 109) dX9_thing_108 (by omega) (by unfold am_ok; omega) rfl ?_
                refine rn_puti (a := 95) (q := 112) dX9_thing_109 fl_X9_132 rfl rfl rfl rfl ?_
                rw [aw_at]
                refine rn_aload_n (x := 95) (q := 113) dX9_thing_112 rfl rfl ?_
                refine rn_get (a := 95) (v := .inl 0) (q := 116) dX9_thing_113 fl_X9_203 rfl (am_gi hf0) rfl ?_
                refine rn_ifeq (t := 131) (q := 119) dX9_thing_116 rfl rfl (fun w116 => ?_) (fun h => absurd h (by decide))
                refine rn_iconst (q := 132) dX9_thing_131 (am_okd rfl) rfl ?_
                refine rn_iret dX9_thing_132 rfl ?_
                exact ⟨rfl, rfl⟩
            · refine rn_aload_n (x := 95) (q := 1) dX9_thing_0 rfl rfl ?_
              refine rn_bipush (q := 3) dX9_thing_1 ⟨by decide, by decide⟩ rfl ?_
              refine rn_callV (b := 95) (as := [.inl 45]) (rest := []) (q := 6) dX9_thing_3 ml_X9_150 sm_X9_passes rfl rfl (by decide) (by omega) rfl rfl (Nat.le_of_ble_eq_true rfl) rfl (s_passN (d := k) hr a (-1) 45 (by omega) hn45) ?_
              intro r3 mem3 hq3
              obtain ⟨rfl, rfl⟩ := hq3
              show am_Rn l G _ _ 6 [some (.inr (.inr 96)), some (.inl (dp : Int)), none, none] [.inl 0] (aw M (a : Int) (-1)) _
              refine rn_ifeq (t := 16) (q := 9) dX9_thing_6 rfl rfl (fun w6 => ?_) (fun h => absurd h (by decide))
              refine rn_aload_n (x := 95) (q := 17) dX9_thing_16 rfl rfl ?_
              refine rn_callV (b := 95) (as := []) (rest := []) (q := 20) dX9_thing_17 ml_X9_142 sm_X9_fine rfl rfl (by decide) (by omega) rfl rfl (Nat.le_of_ble_eq_true rfl) rfl (s_fineT (d := k) _) ?_
              intro r17 mem17 hq17
              obtain ⟨rfl, rfl⟩ := hq17
              show am_Rn l G _ _ 20 [some (.inr (.inr 96)), some (.inl (dp : Int)), none, none] [.inl 1] (aw M (a : Int) (-1)) _
              refine rn_ifne (t := 25) (q := 23) dX9_thing_20 rfl rfl (fun w20 => ?_) (fun h => absurd h (by decide))
              refine rn_aload_n (x := 95) (q := 26) dX9_thing_25 rfl rfl ?_
              refine rn_callV (b := 95) (as := []) (rest := []) (q := 29) dX9_thing_26 ml_X9_146 sm_X9_here rfl rfl (by decide) (by omega) rfl rfl (Nat.le_of_ble_eq_true rfl) rfl (s_here9 (d := k) hr a (-1) (by omega)) ?_
              intro r26 mem26 hq26
              obtain ⟨rfl, rfl⟩ := hq26
              show am_Rn l G _ _ 29 [some (.inr (.inr 96)), some (.inl (dp : Int)), none, none] [.inl (txAt T (a : Int))] (aw M (a : Int) (-1)) _
              refine rn_istore_n (ls' := [some (.inr (.inr 96)), some (.inl (dp : Int)), some (.inl (txAt T (a : Int))), none]) (q := 30) dX9_thing_29 (by decide) rfl rfl ?_
              refine rn_iload_n (x := (txAt T (a : Int))) (q := 31) dX9_thing_30 rfl rfl ?_
              refine rn_bipush (q := 33) dX9_thing_31 ⟨by decide, by decide⟩ rfl ?_
              refine rn_cmpne (t := 67) (q := 36) dX9_thing_33 rfl rfl (fun w33 => ?_) (fun w33 => ?_)
              · refine rn_iload_n (x := (txAt T (a : Int))) (q := 68) dX9_thing_67 rfl rfl ?_
                refine rn_bipush (q := 70) dX9_thing_68 ⟨by decide, by decide⟩ rfl ?_
                refine rn_bipush (q := 72) dX9_thing_70 ⟨by decide, by decide⟩ rfl ?_
                refine rn_callS (as := [.inl (txAt T (a : Int)), .inl 48, .inl 57]) (rest := []) (q := 75) dX9_thing_72 ml_X9_116 sm_X9_in (by omega) rfl rfl (Nat.le_of_ble_eq_true rfl) rfl (s_inN (d := k) _ _ _ hin) ?_
                intro r72 mem72 hq72
                obtain ⟨rfl, rfl⟩ := hq72
                show am_Rn l G _ _ 75 [some (.inr (.inr 96)), some (.inl (dp : Int)), some (.inl (txAt T (a : Int))), none] [.inl 0] (aw M (a : Int) (-1)) _
                refine rn_ifeq (t := 84) (q := 78) dX9_thing_75 rfl rfl (fun w75 => ?_) (fun h => absurd h (by decide))
                refine rn_iload_n (x := (txAt T (a : Int))) (q := 85) dX9_thing_84 rfl rfl ?_
                refine rn_callS (as := [.inl (txAt T (a : Int))]) (rest := []) (q := 88) dX9_thing_85 ml_X9_200 sm_X9_letterOf (by omega) rfl rfl (Nat.le_of_ble_eq_true rfl) rfl (s_letterOf9 (d := k) _) ?_
                intro r85 mem85 hq85
                obtain ⟨rfl, rfl⟩ := hq85
                show am_Rn l G _ _ 88 [some (.inr (.inr 96)), some (.inl (dp : Int)), some (.inl (txAt T (a : Int))), none] [.inl (ltr (txAt T (a : Int)))] (aw M (a : Int) (-1)) _
                refine rn_iconst (q := 89) dX9_thing_88 (am_okd rfl) rfl ?_
                refine rn_cmpne (t := 102) (q := 92) dX9_thing_89 rfl rfl (fun w89 => ?_) (fun h => absurd h (by omega))
                refine rn_aload_n (x := 95) (q := 103) dX9_thing_102 rfl rfl ?_
                refine rn_dup (q := 104) dX9_thing_103 rfl rfl ?_
                refine rn_get (a := 95) (v := .inl (a : Int)) (q := 107) dX9_thing_104 fl_X9_132 rfl rfl rfl ?_
                refine rn_iconst (q := 108) dX9_thing_107 (am_okd rfl) rfl ?_
                refine rn_iaddN (z := ((a + 1 : Nat) : Int)) (q := 109) dX9_thing_108 (by omega) (by unfold am_ok; omega) rfl ?_
                refine rn_puti (a := 95) (q := 112) dX9_thing_109 fl_X9_132 rfl rfl rfl rfl ?_
                rw [aw_at]
                refine rn_aload_n (x := 95) (q := 113) dX9_thing_112 rfl rfl ?_
                refine rn_get (a := 95) (v := .inl 1) (q := 116) dX9_thing_113 fl_X9_203 rfl (am_gi hf0) rfl ?_
                refine rn_ifeq (t := 131) (q := 119) dX9_thing_116 rfl rfl (fun h => absurd h (by decide)) (fun w116 => ?_)
                refine rn_aload_n (x := 95) (q := 120) dX9_thing_119 rfl rfl ?_
                refine rn_get (a := 95) (v := .inr (.inr 107)) (q := 123) dX9_thing_120 fl_X9_46 rfl rfl rfl ?_
                refine rn_iload_n (x := (txAt T (a : Int))) (q := 124) dX9_thing_123 rfl rfl ?_
                refine rn_callS (as := [.inl (txAt T (a : Int))]) (rest := [.inr (.inr 107)]) (q := 127) dX9_thing_124 ml_X9_200 sm_X9_letterOf (by omega) rfl rfl (Nat.le_of_ble_eq_true rfl) rfl (s_letterOf9 (d := k) _) ?_
                intro r124 mem124 hq124
                obtain ⟨rfl, rfl⟩ := hq124
                show am_Rn l G _ _ 127 [some (.inr (.inr 96)), some (.inl (dp : Int)), some (.inl (txAt T (a : Int))), none] [.inl (ltr (txAt T (a : Int))), .inr (.inr 107)] (aw M ((a + 1 : Nat) : Int) (-1)) _
                refine rn_ialdV (a := 106) (v := f (ltr (txAt T (a : Int))).toNat) (q := 128) dX9_thing_127 rfl (by omega) (by omega) (hf1 _ (by omega)) rfl ?_
                refine rn_goto (t := 132) dX9_thing_128 rfl ?_
                refine rn_iret dX9_thing_132 rfl ?_
                exact ⟨rfl, rfl⟩
              · refine rn_iload_n (x := (dp : Int)) (q := 37) dX9_thing_36 rfl rfl ?_
                refine rn_iconst (q := 38) dX9_thing_37 (am_okd rfl) rfl ?_
                refine rn_cmpge (t := 67) (q := 41) dX9_thing_38 rfl rfl (fun w38 => ?_) (fun h => absurd h (by omega))
                refine rn_iload_n (x := (txAt T (a : Int))) (q := 68) dX9_thing_67 rfl rfl ?_
                refine rn_bipush (q := 70) dX9_thing_68 ⟨by decide, by decide⟩ rfl ?_
                refine rn_bipush (q := 72) dX9_thing_70 ⟨by decide, by decide⟩ rfl ?_
                refine rn_callS (as := [.inl (txAt T (a : Int)), .inl 48, .inl 57]) (rest := []) (q := 75) dX9_thing_72 ml_X9_116 sm_X9_in (by omega) rfl rfl (Nat.le_of_ble_eq_true rfl) rfl (s_inN (d := k) _ _ _ hin) ?_
                intro r72 mem72 hq72
                obtain ⟨rfl, rfl⟩ := hq72
                show am_Rn l G _ _ 75 [some (.inr (.inr 96)), some (.inl (dp : Int)), some (.inl (txAt T (a : Int))), none] [.inl 0] (aw M (a : Int) (-1)) _
                refine rn_ifeq (t := 84) (q := 78) dX9_thing_75 rfl rfl (fun w75 => ?_) (fun h => absurd h (by decide))
                refine rn_iload_n (x := (txAt T (a : Int))) (q := 85) dX9_thing_84 rfl rfl ?_
                refine rn_callS (as := [.inl (txAt T (a : Int))]) (rest := []) (q := 88) dX9_thing_85 ml_X9_200 sm_X9_letterOf (by omega) rfl rfl (Nat.le_of_ble_eq_true rfl) rfl (s_letterOf9 (d := k) _) ?_
                intro r85 mem85 hq85
                obtain ⟨rfl, rfl⟩ := hq85
                show am_Rn l G _ _ 88 [some (.inr (.inr 96)), some (.inl (dp : Int)), some (.inl (txAt T (a : Int))), none] [.inl (ltr (txAt T (a : Int)))] (aw M (a : Int) (-1)) _
                refine rn_iconst (q := 89) dX9_thing_88 (am_okd rfl) rfl ?_
                refine rn_cmpne (t := 102) (q := 92) dX9_thing_89 rfl rfl (fun w89 => ?_) (fun h => absurd h (by omega))
                refine rn_aload_n (x := 95) (q := 103) dX9_thing_102 rfl rfl ?_
                refine rn_dup (q := 104) dX9_thing_103 rfl rfl ?_
                refine rn_get (a := 95) (v := .inl (a : Int)) (q := 107) dX9_thing_104 fl_X9_132 rfl rfl rfl ?_
                refine rn_iconst (q := 108) dX9_thing_107 (am_okd rfl) rfl ?_
                refine rn_iaddN (z := ((a + 1 : Nat) : Int)) (q := 109) dX9_thing_108 (by omega) (by unfold am_ok; omega) rfl ?_
                refine rn_puti (a := 95) (q := 112) dX9_thing_109 fl_X9_132 rfl rfl rfl rfl ?_
                rw [aw_at]
                refine rn_aload_n (x := 95) (q := 113) dX9_thing_112 rfl rfl ?_
                refine rn_get (a := 95) (v := .inl 1) (q := 116) dX9_thing_113 fl_X9_203 rfl (am_gi hf0) rfl ?_
                refine rn_ifeq (t := 131) (q := 119) dX9_thing_116 rfl rfl (fun h => absurd h (by decide)) (fun w116 => ?_)
                refine rn_aload_n (x := 95) (q := 120) dX9_thing_119 rfl rfl ?_
                refine rn_get (a := 95) (v := .inr (.inr 107)) (q := 123) dX9_thing_120 fl_X9_46 rfl rfl rfl ?_
                refine rn_iload_n (x := (txAt T (a : Int))) (q := 124) dX9_thing_123 rfl rfl ?_
                refine rn_callS (as := [.inl (txAt T (a : Int))]) (rest := [.inr (.inr 107)]) (q := 127) dX9_thing_124 ml_X9_200 sm_X9_letterOf (by omega) rfl rfl (Nat.le_of_ble_eq_true rfl) rfl (s_letterOf9 (d := k) _) ?_
                intro r124 mem124 hq124
                obtain ⟨rfl, rfl⟩ := hq124
                show am_Rn l G _ _ 127 [some (.inr (.inr 96)), some (.inl (dp : Int)), some (.inl (txAt T (a : Int))), none] [.inl (ltr (txAt T (a : Int))), .inr (.inr 107)] (aw M ((a + 1 : Nat) : Int) (-1)) _
                refine rn_ialdV (a := 106) (v := f (ltr (txAt T (a : Int))).toNat) (q := 128) dX9_thing_127 rfl (by omega) (by omega) (hf1 _ (by omega)) rfl ?_
                refine rn_goto (t := 132) dX9_thing_128 rfl ?_
                refine rn_iret dX9_thing_132 rfl ?_
                exact ⟨rfl, rfl⟩
set_option maxHeartbeats 4000000 in
theorem ps_run1 (hr : m_rd T rd L M) {n k : Nat} (I : PSt l G M T f n (k + 6)) (J : PSt l G M T f n (k + 7)) : ∀ (dp : Nat) (v : Int) (a : Nat) (w : Int) (r : Int × Nat × Int) (lx ly : Option am_V), dp ≤ 4 → a ≤ T.length → ps T f (n + 1) 1 dp v a w = some r → am_Rn l G mt_X9_product (k + 7) 6 [some (.inr (.inr 96)), some (.inl (dp : Int)), some (.inl v), lx, ly] [] (aw M (a : Int) w) (am_rr (some (.inl r.1)) (aw M (r.2.1 : Int) r.2.2)) := by
  intro dp v a w r lx ly hdp ha hh
  have hTl : T.length ≤ 80 := by obtain ⟨-, -, -, g1, ⟨tp, -, -, g2⟩, -⟩ := hr; omega
  rw [ps] at hh
  split at hh
  · rename_i hc
    obtain ⟨rfl, hc⟩ := hc
    have hl := txAt_lt (T := T) (a := a) (by omega)
    obtain ⟨x, hx, hh⟩ := Option.bind_eq_some_iff.mp hh
    have hxa := ps_at T f n 0 dp 0 (a + 1) (-1) x hx (by omega)
    by_cases h1 : txAt T (a : Int) = 42
    · have e : mulv (txAt T (a : Int)) v x.1 = am_w32 (v * x.1) := by unfold mulv; rw [if_pos h1]
      rw [e] at hh
      refine rn_aload_n (x := 95) (q := 7) dX9_product_6 rfl rfl ?_
      refine rn_callV (b := 95) (as := []) (rest := []) (q := 10) dX9_product_7 ml_X9_142 sm_X9_fine rfl rfl (by decide) (by omega) rfl rfl (Nat.le_of_ble_eq_true rfl) rfl (s_fineT (d := k) _) ?_
      intro r7 mem7 hq7
      obtain ⟨rfl, rfl⟩ := hq7
      show am_Rn l G _ _ 10 [some (.inr (.inr 96)), some (.inl (dp : Int)), some (.inl v), lx, ly] [.inl 1] (aw M (a : Int) (-1)) _
      refine rn_ifeq (t := 91) (q := 13) dX9_product_10 rfl rfl (fun h => absurd h (by decide)) (fun w10 => ?_)
      refine rn_aload_n (x := 95) (q := 14) dX9_product_13 rfl rfl ?_
      refine rn_callV (b := 95) (as := []) (rest := []) (q := 17) dX9_product_14 ml_X9_146 sm_X9_here rfl rfl (by decide) (by omega) rfl rfl (Nat.le_of_ble_eq_true rfl) rfl (s_here9 (d := k) hr a (-1) (by omega)) ?_
      intro r14 mem14 hq14
      obtain ⟨rfl, rfl⟩ := hq14
      show am_Rn l G _ _ 17 [some (.inr (.inr 96)), some (.inl (dp : Int)), some (.inl v), lx, ly] [.inl (txAt T (a : Int))] (aw M (a : Int) (-1)) _
      refine rn_bipush (q := 19) dX9_product_17 ⟨by decide, by decide⟩ rfl ?_
      refine rn_cmpeq (t := 31) (q := 22) dX9_product_19 rfl rfl (fun w19 => ?_) (fun h => absurd h (by omega))
      refine rn_aload_n (x := 95) (q := 32) dX9_product_31 rfl rfl ?_
      refine rn_callV (b := 95) (as := []) (rest := []) (q := 35) dX9_product_32 ml_X9_146 sm_X9_here rfl rfl (by decide) (by omega) rfl rfl (Nat.le_of_ble_eq_true rfl) rfl (s_here9 (d := k) hr a (-1) (by omega)) ?_
      intro r32 mem32 hq32
      obtain ⟨rfl, rfl⟩ := hq32
      show am_Rn l G _ _ 35 [some (.inr (.inr 96)), some (.inl (dp : Int)), some (.inl v), lx, ly] [.inl (txAt T (a : Int))] (aw M (a : Int) (-1)) _
      refine rn_bipush (q := 37) dX9_product_35 ⟨by decide, by decide⟩ rfl ?_
      refine rn_cmpne (t := 44) (q := 40) dX9_product_37 rfl rfl (fun h => absurd h (by omega)) (fun w37 => ?_)
      refine rn_iconst (q := 41) dX9_product_40 (am_okd rfl) rfl ?_
      refine rn_goto (t := 45) dX9_product_41 rfl ?_
      refine rn_istore_n (ls' := [some (.inr (.inr 96)), some (.inl (dp : Int)), some (.inl v), some (.inl 1), ly]) (q := 46) dX9_product_45 (by decide) rfl rfl ?_
      refine rn_aload_n (x := 95) (q := 47) dX9_product_46 rfl rfl ?_
      refine rn_dup (q := 48) dX9_product_47 rfl rfl ?_
      refine rn_get (a := 95) (v := .inl (a : Int)) (q := 51) dX9_product_48 fl_X9_132 rfl rfl rfl ?_
      refine rn_iconst (q := 52) dX9_product_51 (am_okd rfl) rfl ?_
      refine rn_iaddN (z := ((a + 1 : Nat) : Int)) (q := 53) dX9_product_52 (by omega) (by unfold am_ok; omega) rfl ?_
      refine rn_puti (a := 95) (q := 56) dX9_product_53 fl_X9_132 rfl rfl rfl rfl ?_
      rw [aw_at]
      refine rn_aload_n (x := 95) (q := 57) dX9_product_56 rfl rfl ?_
      refine rn_iload_n (x := (dp : Int)) (q := 58) dX9_product_57 rfl rfl ?_
      refine rn_callV (b := 95) (as := [.inl (dp : Int)]) (rest := []) (q := 61) dX9_product_58 ml_X9_187 sm_X9_thing rfl rfl (by decide) (by omega) rfl rfl (Nat.le_of_ble_eq_true rfl) rfl (I.1 dp (a + 1) (-1) x hdp (by omega) hx) ?_
      intro r58 mem58 hq58
      obtain ⟨rfl, rfl⟩ := hq58
      show am_Rn l G _ _ 61 [some (.inr (.inr 96)), some (.inl (dp : Int)), some (.inl v), some (.inl 1), ly] [.inl x.1] (aw M (x.2.1 : Int) x.2.2) _
      refine rn_istore (ls' := [some (.inr (.inr 96)), some (.inl (dp : Int)), some (.inl v), some (.inl 1), some (.inl x.1)]) (q := 63) dX9_product_61 (by decide) rfl rfl ?_
      refine rn_iload_n (x := 1) (q := 64) dX9_product_63 rfl rfl ?_
      refine rn_ifeq (t := 74) (q := 67) dX9_product_64 rfl rfl (fun h => absurd h (by decide)) (fun w64 => ?_)
      refine rn_iload_n (x := v) (q := 68) dX9_product_67 rfl rfl ?_
      refine rn_iload (x := x.1) (q := 70) dX9_product_68 rfl rfl ?_
      refine rn_imul (q := 71) dX9_product_70 rfl ?_
      refine rn_goto (t := 87) dX9_product_71 rfl ?_
      refine rn_istore_n (ls' := [some (.inr (.inr 96)), some (.inl (dp : Int)), some (.inl (am_w32 (v * x.1))), some (.inl 1), some (.inl x.1)]) (q := 88) dX9_product_87 (by decide) rfl rfl ?_
      refine rn_goto (t := 6) dX9_product_88 rfl ?_
      exact J.2.1 dp _ _ _ r _ _ hdp hxa.2 hh
    · by_cases h0 : x.1 = 0
      · have e : mulv (txAt T (a : Int)) v x.1 = 0 := by unfold mulv; rw [if_neg h1, if_pos h0]
        rw [e] at hh
        refine rn_aload_n (x := 95) (q := 7) dX9_product_6 rfl rfl ?_
        refine rn_callV (b := 95) (as := []) (rest := []) (q := 10) dX9_product_7 ml_X9_142 sm_X9_fine rfl rfl (by decide) (by omega) rfl rfl (Nat.le_of_ble_eq_true rfl) rfl (s_fineT (d := k) _) ?_
        intro r7 mem7 hq7
        obtain ⟨rfl, rfl⟩ := hq7
        show am_Rn l G _ _ 10 [some (.inr (.inr 96)), some (.inl (dp : Int)), some (.inl v), lx, ly] [.inl 1] (aw M (a : Int) (-1)) _
        refine rn_ifeq (t := 91) (q := 13) dX9_product_10 rfl rfl (fun h => absurd h (by decide)) (fun w10 => ?_)
        refine rn_aload_n (x := 95) (q := 14) dX9_product_13 rfl rfl ?_
        refine rn_callV (b := 95) (as := []) (rest := []) (q := 17) dX9_product_14 ml_X9_146 sm_X9_here rfl rfl (by decide) (by omega) rfl rfl (Nat.le_of_ble_eq_true rfl) rfl (s_here9 (d := k) hr a (-1) (by omega)) ?_
        intro r14 mem14 hq14
        obtain ⟨rfl, rfl⟩ := hq14
        show am_Rn l G _ _ 17 [some (.inr (.inr 96)), some (.inl (dp : Int)), some (.inl v), lx, ly] [.inl (txAt T (a : Int))] (aw M (a : Int) (-1)) _
        refine rn_bipush (q := 19) dX9_product_17 ⟨by decide, by decide⟩ rfl ?_
        refine rn_cmpeq (t := 31) (q := 22) dX9_product_19 rfl rfl (fun h => absurd h (by omega)) (fun w19 => ?_)
        refine rn_aload_n (x := 95) (q := 23) dX9_product_22 rfl rfl ?_
        refine rn_callV (b := 95) (as := []) (rest := []) (q := 26) dX9_product_23 ml_X9_146 sm_X9_here rfl rfl (by decide) (by omega) rfl rfl (Nat.le_of_ble_eq_true rfl) rfl (s_here9 (d := k) hr a (-1) (by omega)) ?_
        intro r23 mem23 hq23
        obtain ⟨rfl, rfl⟩ := hq23
        show am_Rn l G _ _ 26 [some (.inr (.inr 96)), some (.inl (dp : Int)), some (.inl v), lx, ly] [.inl (txAt T (a : Int))] (aw M (a : Int) (-1)) _
        refine rn_bipush (q := 28) dX9_product_26 ⟨by decide, by decide⟩ rfl ?_
        refine rn_cmpne (t := 91) (q := 31) dX9_product_28 rfl rfl (fun h => absurd h (by omega)) (fun w28 => ?_)
        refine rn_aload_n (x := 95) (q := 32) dX9_product_31 rfl rfl ?_
        refine rn_callV (b := 95) (as := []) (rest := []) (q := 35) dX9_product_32 ml_X9_146 sm_X9_here rfl rfl (by decide) (by omega) rfl rfl (Nat.le_of_ble_eq_true rfl) rfl (s_here9 (d := k) hr a (-1) (by omega)) ?_
        intro r32 mem32 hq32
        obtain ⟨rfl, rfl⟩ := hq32
        show am_Rn l G _ _ 35 [some (.inr (.inr 96)), some (.inl (dp : Int)), some (.inl v), lx, ly] [.inl (txAt T (a : Int))] (aw M (a : Int) (-1)) _
        refine rn_bipush (q := 37) dX9_product_35 ⟨by decide, by decide⟩ rfl ?_
        refine rn_cmpne (t := 44) (q := 40) dX9_product_37 rfl rfl (fun w37 => ?_) (fun h => absurd h (by omega))
        refine rn_iconst (q := 45) dX9_product_44 (am_okd rfl) rfl ?_
        refine rn_istore_n (ls' := [some (.inr (.inr 96)), some (.inl (dp : Int)), some (.inl v), some (.inl 0), ly]) (q := 46) dX9_product_45 (by decide) rfl rfl ?_
        refine rn_aload_n (x := 95) (q := 47) dX9_product_46 rfl rfl ?_
        refine rn_dup (q := 48) dX9_product_47 rfl rfl ?_
        refine rn_get (a := 95) (v := .inl (a : Int)) (q := 51) dX9_product_48 fl_X9_132 rfl rfl rfl ?_
        refine rn_iconst (q := 52) dX9_product_51 (am_okd rfl) rfl ?_
        refine rn_iaddN (z := ((a + 1 : Nat) : Int)) (q := 53) dX9_product_52 (by omega) (by unfold am_ok; omega) rfl ?_
        refine rn_puti (a := 95) (q := 56) dX9_product_53 fl_X9_132 rfl rfl rfl rfl ?_
        rw [aw_at]
        refine rn_aload_n (x := 95) (q := 57) dX9_product_56 rfl rfl ?_
        refine rn_iload_n (x := (dp : Int)) (q := 58) dX9_product_57 rfl rfl ?_
        refine rn_callV (b := 95) (as := [.inl (dp : Int)]) (rest := []) (q := 61) dX9_product_58 ml_X9_187 sm_X9_thing rfl rfl (by decide) (by omega) rfl rfl (Nat.le_of_ble_eq_true rfl) rfl (I.1 dp (a + 1) (-1) x hdp (by omega) hx) ?_
        intro r58 mem58 hq58
        obtain ⟨rfl, rfl⟩ := hq58
        show am_Rn l G _ _ 61 [some (.inr (.inr 96)), some (.inl (dp : Int)), some (.inl v), some (.inl 0), ly] [.inl x.1] (aw M (x.2.1 : Int) x.2.2) _
        refine rn_istore (ls' := [some (.inr (.inr 96)), some (.inl (dp : Int)), some (.inl v), some (.inl 0), some (.inl x.1)]) (q := 63) dX9_product_61 (by decide) rfl rfl ?_
        refine rn_iload_n (x := 0) (q := 64) dX9_product_63 rfl rfl ?_
        refine rn_ifeq (t := 74) (q := 67) dX9_product_64 rfl rfl (fun w64 => ?_) (fun h => absurd h (by decide))
        refine rn_iload (x := x.1) (q := 76) dX9_product_74 rfl rfl ?_
        refine rn_ifne (t := 83) (q := 79) dX9_product_76 rfl rfl (fun h => absurd h (by omega)) (fun w76 => ?_)
        refine rn_iconst (q := 80) dX9_product_79 (am_okd rfl) rfl ?_
        refine rn_goto (t := 87) dX9_product_80 rfl ?_
        refine rn_istore_n (ls' := [some (.inr (.inr 96)), some (.inl (dp : Int)), some (.inl 0), some (.inl 0), some (.inl x.1)]) (q := 88) dX9_product_87 (by decide) rfl rfl ?_
        refine rn_goto (t := 6) dX9_product_88 rfl ?_
        exact J.2.1 dp _ _ _ r _ _ hdp hxa.2 hh
      · have e : mulv (txAt T (a : Int)) v x.1 = am_w32 (v.tdiv x.1) := by unfold mulv; rw [if_neg h1, if_neg h0]
        rw [e] at hh
        refine rn_aload_n (x := 95) (q := 7) dX9_product_6 rfl rfl ?_
        refine rn_callV (b := 95) (as := []) (rest := []) (q := 10) dX9_product_7 ml_X9_142 sm_X9_fine rfl rfl (by decide) (by omega) rfl rfl (Nat.le_of_ble_eq_true rfl) rfl (s_fineT (d := k) _) ?_
        intro r7 mem7 hq7
        obtain ⟨rfl, rfl⟩ := hq7
        show am_Rn l G _ _ 10 [some (.inr (.inr 96)), some (.inl (dp : Int)), some (.inl v), lx, ly] [.inl 1] (aw M (a : Int) (-1)) _
        refine rn_ifeq (t := 91) (q := 13) dX9_product_10 rfl rfl (fun h => absurd h (by decide)) (fun w10 => ?_)
        refine rn_aload_n (x := 95) (q := 14) dX9_product_13 rfl rfl ?_
        refine rn_callV (b := 95) (as := []) (rest := []) (q := 17) dX9_product_14 ml_X9_146 sm_X9_here rfl rfl (by decide) (by omega) rfl rfl (Nat.le_of_ble_eq_true rfl) rfl (s_here9 (d := k) hr a (-1) (by omega)) ?_
        intro r14 mem14 hq14
        obtain ⟨rfl, rfl⟩ := hq14
        show am_Rn l G _ _ 17 [some (.inr (.inr 96)), some (.inl (dp : Int)), some (.inl v), lx, ly] [.inl (txAt T (a : Int))] (aw M (a : Int) (-1)) _
        refine rn_bipush (q := 19) dX9_product_17 ⟨by decide, by decide⟩ rfl ?_
        refine rn_cmpeq (t := 31) (q := 22) dX9_product_19 rfl rfl (fun h => absurd h (by omega)) (fun w19 => ?_)
        refine rn_aload_n (x := 95) (q := 23) dX9_product_22 rfl rfl ?_
        refine rn_callV (b := 95) (as := []) (rest := []) (q := 26) dX9_product_23 ml_X9_146 sm_X9_here rfl rfl (by decide) (by omega) rfl rfl (Nat.le_of_ble_eq_true rfl) rfl (s_here9 (d := k) hr a (-1) (by omega)) ?_
        intro r23 mem23 hq23
        obtain ⟨rfl, rfl⟩ := hq23
        show am_Rn l G _ _ 26 [some (.inr (.inr 96)), some (.inl (dp : Int)), some (.inl v), lx, ly] [.inl (txAt T (a : Int))] (aw M (a : Int) (-1)) _
        refine rn_bipush (q := 28) dX9_product_26 ⟨by decide, by decide⟩ rfl ?_
        refine rn_cmpne (t := 91) (q := 31) dX9_product_28 rfl rfl (fun h => absurd h (by omega)) (fun w28 => ?_)
        refine rn_aload_n (x := 95) (q := 32) dX9_product_31 rfl rfl ?_
        refine rn_callV (b := 95) (as := []) (rest := []) (q := 35) dX9_product_32 ml_X9_146 sm_X9_here rfl rfl (by decide) (by omega) rfl rfl (Nat.le_of_ble_eq_true rfl) rfl (s_here9 (d := k) hr a (-1) (by omega)) ?_
        intro r32 mem32 hq32
        obtain ⟨rfl, rfl⟩ := hq32
        show am_Rn l G _ _ 35 [some (.inr (.inr 96)), some (.inl (dp : Int)), some (.inl v), lx, ly] [.inl (txAt T (a : Int))] (aw M (a : Int) (-1)) _
        refine rn_bipush (q := 37) dX9_product_35 ⟨by decide, by decide⟩ rfl ?_
        refine rn_cmpne (t := 44) (q := 40) dX9_product_37 rfl rfl (fun w37 => ?_) (fun h => absurd h (by omega))
        refine rn_iconst (q := 45) dX9_product_44 (am_okd rfl) rfl ?_
        refine rn_istore_n (ls' := [some (.inr (.inr 96)), some (.inl (dp : Int)), some (.inl v), some (.inl 0), ly]) (q := 46) dX9_product_45 (by decide) rfl rfl ?_
        refine rn_aload_n (x := 95) (q := 47) dX9_product_46 rfl rfl ?_
        refine rn_dup (q := 48) dX9_product_47 rfl rfl ?_
        refine rn_get (a := 95) (v := .inl (a : Int)) (q := 51) dX9_product_48 fl_X9_132 rfl rfl rfl ?_
        refine rn_iconst (q := 52) dX9_product_51 (am_okd rfl) rfl ?_
        refine rn_iaddN (z := ((a + 1 : Nat) : Int)) (q := 53) dX9_product_52 (by omega) (by unfold am_ok; omega) rfl ?_
        refine rn_puti (a := 95) (q := 56) dX9_product_53 fl_X9_132 rfl rfl rfl rfl ?_
        rw [aw_at]
        refine rn_aload_n (x := 95) (q := 57) dX9_product_56 rfl rfl ?_
        refine rn_iload_n (x := (dp : Int)) (q := 58) dX9_product_57 rfl rfl ?_
        refine rn_callV (b := 95) (as := [.inl (dp : Int)]) (rest := []) (q := 61) dX9_product_58 ml_X9_187 sm_X9_thing rfl rfl (by decide) (by omega) rfl rfl (Nat.le_of_ble_eq_true rfl) rfl (I.1 dp (a + 1) (-1) x hdp (by omega) hx) ?_
        intro r58 mem58 hq58
        obtain ⟨rfl, rfl⟩ := hq58
        show am_Rn l G _ _ 61 [some (.inr (.inr 96)), some (.inl (dp : Int)), some (.inl v), some (.inl 0), ly] [.inl x.1] (aw M (x.2.1 : Int) x.2.2) _
        refine rn_istore (ls' := [some (.inr (.inr 96)), some (.inl (dp : Int)), some (.inl v), some (.inl 0), some (.inl x.1)]) (q := 63) dX9_product_61 (by decide) rfl rfl ?_
        refine rn_iload_n (x := 0) (q := 64) dX9_product_63 rfl rfl ?_
        refine rn_ifeq (t := 74) (q := 67) dX9_product_64 rfl rfl (fun w64 => ?_) (fun h => absurd h (by decide))
        refine rn_iload (x := x.1) (q := 76) dX9_product_74 rfl rfl ?_
        refine rn_ifne (t := 83) (q := 79) dX9_product_76 rfl rfl (fun w76 => ?_) (fun h => absurd h (by omega))
        refine rn_iload_n (x := v) (q := 84) dX9_product_83 rfl rfl ?_
        refine rn_iload (x := x.1) (q := 86) dX9_product_84 rfl rfl ?_
        refine rn_idiv (q := 87) dX9_product_86 h0 rfl ?_
        refine rn_istore_n (ls' := [some (.inr (.inr 96)), some (.inl (dp : Int)), some (.inl (am_w32 ((v).tdiv x.1))), some (.inl 0), some (.inl x.1)]) (q := 88) dX9_product_87 (by decide) rfl rfl ?_
        refine rn_goto (t := 6) dX9_product_88 rfl ?_
        exact J.2.1 dp _ _ _ r _ _ hdp hxa.2 hh
  · rename_i hc
    obtain rfl := Option.some.inj hh
    by_cases hw : w = -1
    · subst hw
      have hc1 : ¬ (txAt T (a : Int) = 42 ∨ txAt T (a : Int) = 47) := fun z => hc ⟨rfl, z⟩
      refine rn_aload_n (x := 95) (q := 7) dX9_product_6 rfl rfl ?_
      refine rn_callV (b := 95) (as := []) (rest := []) (q := 10) dX9_product_7 ml_X9_142 sm_X9_fine rfl rfl (by decide) (by omega) rfl rfl (Nat.le_of_ble_eq_true rfl) rfl (s_fineT (d := k) _) ?_
      intro r7 mem7 hq7
      obtain ⟨rfl, rfl⟩ := hq7
      show am_Rn l G _ _ 10 [some (.inr (.inr 96)), some (.inl (dp : Int)), some (.inl v), lx, ly] [.inl 1] (aw M (a : Int) (-1)) _
      refine rn_ifeq (t := 91) (q := 13) dX9_product_10 rfl rfl (fun h => absurd h (by decide)) (fun w10 => ?_)
      refine rn_aload_n (x := 95) (q := 14) dX9_product_13 rfl rfl ?_
      refine rn_callV (b := 95) (as := []) (rest := []) (q := 17) dX9_product_14 ml_X9_146 sm_X9_here rfl rfl (by decide) (by omega) rfl rfl (Nat.le_of_ble_eq_true rfl) rfl (s_here9 (d := k) hr a (-1) (by omega)) ?_
      intro r14 mem14 hq14
      obtain ⟨rfl, rfl⟩ := hq14
      show am_Rn l G _ _ 17 [some (.inr (.inr 96)), some (.inl (dp : Int)), some (.inl v), lx, ly] [.inl (txAt T (a : Int))] (aw M (a : Int) (-1)) _
      refine rn_bipush (q := 19) dX9_product_17 ⟨by decide, by decide⟩ rfl ?_
      refine rn_cmpeq (t := 31) (q := 22) dX9_product_19 rfl rfl (fun h => absurd h (by omega)) (fun w19 => ?_)
      refine rn_aload_n (x := 95) (q := 23) dX9_product_22 rfl rfl ?_
      refine rn_callV (b := 95) (as := []) (rest := []) (q := 26) dX9_product_23 ml_X9_146 sm_X9_here rfl rfl (by decide) (by omega) rfl rfl (Nat.le_of_ble_eq_true rfl) rfl (s_here9 (d := k) hr a (-1) (by omega)) ?_
      intro r23 mem23 hq23
      obtain ⟨rfl, rfl⟩ := hq23
      show am_Rn l G _ _ 26 [some (.inr (.inr 96)), some (.inl (dp : Int)), some (.inl v), lx, ly] [.inl (txAt T (a : Int))] (aw M (a : Int) (-1)) _
      refine rn_bipush (q := 28) dX9_product_26 ⟨by decide, by decide⟩ rfl ?_
      refine rn_cmpne (t := 91) (q := 31) dX9_product_28 rfl rfl (fun w28 => ?_) (fun h => absurd h (by omega))
      refine rn_iload_n (x := v) (q := 92) dX9_product_91 rfl rfl ?_
      refine rn_iret dX9_product_92 rfl ?_
      exact ⟨rfl, rfl⟩
    · refine rn_aload_n (x := 95) (q := 7) dX9_product_6 rfl rfl ?_
      refine rn_callV (b := 95) (as := []) (rest := []) (q := 10) dX9_product_7 ml_X9_142 sm_X9_fine rfl rfl (by decide) (by omega) rfl rfl (Nat.le_of_ble_eq_true rfl) rfl (s_fineF (d := k) _ w hw) ?_
      intro r7 mem7 hq7
      obtain ⟨rfl, rfl⟩ := hq7
      show am_Rn l G _ _ 10 [some (.inr (.inr 96)), some (.inl (dp : Int)), some (.inl v), lx, ly] [.inl 0] (aw M (a : Int) w) _
      refine rn_ifeq (t := 91) (q := 13) dX9_product_10 rfl rfl (fun w10 => ?_) (fun h => absurd h (by decide))
      refine rn_iload_n (x := v) (q := 92) dX9_product_91 rfl rfl ?_
      refine rn_iret dX9_product_92 rfl ?_
      exact ⟨rfl, rfl⟩
set_option maxHeartbeats 4000000 in
theorem ps_run3 (hr : m_rd T rd L M) {n k : Nat} (I : PSt l G M T f n (k + 6)) (J : PSt l G M T f n (k + 7)) : ∀ (dp : Nat) (v : Int) (a : Nat) (w : Int) (r : Int × Nat × Int) (lx ly : Option am_V), dp ≤ 4 → a ≤ T.length → ps T f (n + 1) 3 dp v a w = some r → am_Rn l G mt_X9_sum (k + 7) 6 [some (.inr (.inr 96)), some (.inl (dp : Int)), some (.inl v), lx, ly] [] (aw M (a : Int) w) (am_rr (some (.inl r.1)) (aw M (r.2.1 : Int) r.2.2)) := by
  intro dp v a w r lx ly hdp ha hh
  have hTl : T.length ≤ 80 := by obtain ⟨-, -, -, g1, ⟨tp, -, -, g2⟩, -⟩ := hr; omega
  rw [ps] at hh
  split at hh
  · rename_i hc
    obtain ⟨rfl, hc⟩ := hc
    have hl := txAt_lt (T := T) (a := a) (by omega)
    obtain ⟨x, hx, hh⟩ := Option.bind_eq_some_iff.mp hh
    have hxa := ps_at T f n 2 dp 0 (a + 1) (-1) x hx (by omega)
    by_cases h1 : txAt T (a : Int) = 43
    · have e : addv (txAt T (a : Int)) v x.1 = am_w32 (v + x.1) := by unfold addv; rw [if_pos h1]
      rw [e] at hh
      refine rn_aload_n (x := 95) (q := 7) dX9_sum_6 rfl rfl ?_
      refine rn_callV (b := 95) (as := []) (rest := []) (q := 10) dX9_sum_7 ml_X9_142 sm_X9_fine rfl rfl (by decide) (by omega) rfl rfl (Nat.le_of_ble_eq_true rfl) rfl (s_fineT (d := k) _) ?_
      intro r7 mem7 hq7
      obtain ⟨rfl, rfl⟩ := hq7
      show am_Rn l G _ _ 10 [some (.inr (.inr 96)), some (.inl (dp : Int)), some (.inl v), lx, ly] [.inl 1] (aw M (a : Int) (-1)) _
      refine rn_ifeq (t := 82) (q := 13) dX9_sum_10 rfl rfl (fun h => absurd h (by decide)) (fun w10 => ?_)
      refine rn_aload_n (x := 95) (q := 14) dX9_sum_13 rfl rfl ?_
      refine rn_callV (b := 95) (as := []) (rest := []) (q := 17) dX9_sum_14 ml_X9_146 sm_X9_here rfl rfl (by decide) (by omega) rfl rfl (Nat.le_of_ble_eq_true rfl) rfl (s_here9 (d := k) hr a (-1) (by omega)) ?_
      intro r14 mem14 hq14
      obtain ⟨rfl, rfl⟩ := hq14
      show am_Rn l G _ _ 17 [some (.inr (.inr 96)), some (.inl (dp : Int)), some (.inl v), lx, ly] [.inl (txAt T (a : Int))] (aw M (a : Int) (-1)) _
      refine rn_bipush (q := 19) dX9_sum_17 ⟨by decide, by decide⟩ rfl ?_
      refine rn_cmpeq (t := 31) (q := 22) dX9_sum_19 rfl rfl (fun w19 => ?_) (fun h => absurd h (by omega))
      refine rn_aload_n (x := 95) (q := 32) dX9_sum_31 rfl rfl ?_
      refine rn_callV (b := 95) (as := []) (rest := []) (q := 35) dX9_sum_32 ml_X9_146 sm_X9_here rfl rfl (by decide) (by omega) rfl rfl (Nat.le_of_ble_eq_true rfl) rfl (s_here9 (d := k) hr a (-1) (by omega)) ?_
      intro r32 mem32 hq32
      obtain ⟨rfl, rfl⟩ := hq32
      show am_Rn l G _ _ 35 [some (.inr (.inr 96)), some (.inl (dp : Int)), some (.inl v), lx, ly] [.inl (txAt T (a : Int))] (aw M (a : Int) (-1)) _
      refine rn_bipush (q := 37) dX9_sum_35 ⟨by decide, by decide⟩ rfl ?_
      refine rn_cmpne (t := 44) (q := 40) dX9_sum_37 rfl rfl (fun h => absurd h (by omega)) (fun w37 => ?_)
      refine rn_iconst (q := 41) dX9_sum_40 (am_okd rfl) rfl ?_
      refine rn_goto (t := 45) dX9_sum_41 rfl ?_
      refine rn_istore_n (ls' := [some (.inr (.inr 96)), some (.inl (dp : Int)), some (.inl v), some (.inl 1), ly]) (q := 46) dX9_sum_45 (by decide) rfl rfl ?_
      refine rn_aload_n (x := 95) (q := 47) dX9_sum_46 rfl rfl ?_
      refine rn_dup (q := 48) dX9_sum_47 rfl rfl ?_
      refine rn_get (a := 95) (v := .inl (a : Int)) (q := 51) dX9_sum_48 fl_X9_132 rfl rfl rfl ?_
      refine rn_iconst (q := 52) dX9_sum_51 (am_okd rfl) rfl ?_
      refine rn_iaddN (z := ((a + 1 : Nat) : Int)) (q := 53) dX9_sum_52 (by omega) (by unfold am_ok; omega) rfl ?_
      refine rn_puti (a := 95) (q := 56) dX9_sum_53 fl_X9_132 rfl rfl rfl rfl ?_
      rw [aw_at]
      refine rn_aload_n (x := 95) (q := 57) dX9_sum_56 rfl rfl ?_
      refine rn_iload_n (x := (dp : Int)) (q := 58) dX9_sum_57 rfl rfl ?_
      refine rn_callV (b := 95) (as := [.inl (dp : Int)]) (rest := []) (q := 61) dX9_sum_58 ml_X9_184 sm_X9_product rfl rfl (by decide) (by omega) rfl rfl (Nat.le_of_ble_eq_true rfl) rfl (I.2.2.1 dp (a + 1) (-1) x hdp (by omega) hx) ?_
      intro r58 mem58 hq58
      obtain ⟨rfl, rfl⟩ := hq58
      show am_Rn l G _ _ 61 [some (.inr (.inr 96)), some (.inl (dp : Int)), some (.inl v), some (.inl 1), ly] [.inl x.1] (aw M (x.2.1 : Int) x.2.2) _
      refine rn_istore (ls' := [some (.inr (.inr 96)), some (.inl (dp : Int)), some (.inl v), some (.inl 1), some (.inl x.1)]) (q := 63) dX9_sum_61 (by decide) rfl rfl ?_
      refine rn_iload_n (x := 1) (q := 64) dX9_sum_63 rfl rfl ?_
      refine rn_ifeq (t := 74) (q := 67) dX9_sum_64 rfl rfl (fun h => absurd h (by decide)) (fun w64 => ?_)
      refine rn_iload_n (x := v) (q := 68) dX9_sum_67 rfl rfl ?_
      refine rn_iload (x := x.1) (q := 70) dX9_sum_68 rfl rfl ?_
      refine rn_iadd (q := 71) dX9_sum_70 rfl ?_
      refine rn_goto (t := 78) dX9_sum_71 rfl ?_
      refine rn_istore_n (ls' := [some (.inr (.inr 96)), some (.inl (dp : Int)), some (.inl (am_w32 (v + x.1))), some (.inl 1), some (.inl x.1)]) (q := 79) dX9_sum_78 (by decide) rfl rfl ?_
      refine rn_goto (t := 6) dX9_sum_79 rfl ?_
      exact J.2.2.2.1 dp _ _ _ r _ _ hdp hxa.2 hh
    · have e : addv (txAt T (a : Int)) v x.1 = am_w32 (v - x.1) := by unfold addv; rw [if_neg h1]
      rw [e] at hh
      refine rn_aload_n (x := 95) (q := 7) dX9_sum_6 rfl rfl ?_
      refine rn_callV (b := 95) (as := []) (rest := []) (q := 10) dX9_sum_7 ml_X9_142 sm_X9_fine rfl rfl (by decide) (by omega) rfl rfl (Nat.le_of_ble_eq_true rfl) rfl (s_fineT (d := k) _) ?_
      intro r7 mem7 hq7
      obtain ⟨rfl, rfl⟩ := hq7
      show am_Rn l G _ _ 10 [some (.inr (.inr 96)), some (.inl (dp : Int)), some (.inl v), lx, ly] [.inl 1] (aw M (a : Int) (-1)) _
      refine rn_ifeq (t := 82) (q := 13) dX9_sum_10 rfl rfl (fun h => absurd h (by decide)) (fun w10 => ?_)
      refine rn_aload_n (x := 95) (q := 14) dX9_sum_13 rfl rfl ?_
      refine rn_callV (b := 95) (as := []) (rest := []) (q := 17) dX9_sum_14 ml_X9_146 sm_X9_here rfl rfl (by decide) (by omega) rfl rfl (Nat.le_of_ble_eq_true rfl) rfl (s_here9 (d := k) hr a (-1) (by omega)) ?_
      intro r14 mem14 hq14
      obtain ⟨rfl, rfl⟩ := hq14
      show am_Rn l G _ _ 17 [some (.inr (.inr 96)), some (.inl (dp : Int)), some (.inl v), lx, ly] [.inl (txAt T (a : Int))] (aw M (a : Int) (-1)) _
      refine rn_bipush (q := 19) dX9_sum_17 ⟨by decide, by decide⟩ rfl ?_
      refine rn_cmpeq (t := 31) (q := 22) dX9_sum_19 rfl rfl (fun h => absurd h (by omega)) (fun w19 => ?_)
      refine rn_aload_n (x := 95) (q := 23) dX9_sum_22 rfl rfl ?_
      refine rn_callV (b := 95) (as := []) (rest := []) (q := 26) dX9_sum_23 ml_X9_146 sm_X9_here rfl rfl (by decide) (by omega) rfl rfl (Nat.le_of_ble_eq_true rfl) rfl (s_here9 (d := k) hr a (-1) (by omega)) ?_
      intro r23 mem23 hq23
      obtain ⟨rfl, rfl⟩ := hq23
      show am_Rn l G _ _ 26 [some (.inr (.inr 96)), some (.inl (dp : Int)), some (.inl v), lx, ly] [.inl (txAt T (a : Int))] (aw M (a : Int) (-1)) _
      refine rn_bipush (q := 28) dX9_sum_26 ⟨by decide, by decide⟩ rfl ?_
      refine rn_cmpne (t := 82) (q := 31) dX9_sum_28 rfl rfl (fun h => absurd h (by omega)) (fun w28 => ?_)
      refine rn_aload_n (x := 95) (q := 32) dX9_sum_31 rfl rfl ?_
      refine rn_callV (b := 95) (as := []) (rest := []) (q := 35) dX9_sum_32 ml_X9_146 sm_X9_here rfl rfl (by decide) (by omega) rfl rfl (Nat.le_of_ble_eq_true rfl) rfl (s_here9 (d := k) hr a (-1) (by omega)) ?_
      intro r32 mem32 hq32
      obtain ⟨rfl, rfl⟩ := hq32
      show am_Rn l G _ _ 35 [some (.inr (.inr 96)), some (.inl (dp : Int)), some (.inl v), lx, ly] [.inl (txAt T (a : Int))] (aw M (a : Int) (-1)) _
      refine rn_bipush (q := 37) dX9_sum_35 ⟨by decide, by decide⟩ rfl ?_
      refine rn_cmpne (t := 44) (q := 40) dX9_sum_37 rfl rfl (fun w37 => ?_) (fun h => absurd h (by omega))
      refine rn_iconst (q := 45) dX9_sum_44 (am_okd rfl) rfl ?_
      refine rn_istore_n (ls' := [some (.inr (.inr 96)), some (.inl (dp : Int)), some (.inl v), some (.inl 0), ly]) (q := 46) dX9_sum_45 (by decide) rfl rfl ?_
      refine rn_aload_n (x := 95) (q := 47) dX9_sum_46 rfl rfl ?_
      refine rn_dup (q := 48) dX9_sum_47 rfl rfl ?_
      refine rn_get (a := 95) (v := .inl (a : Int)) (q := 51) dX9_sum_48 fl_X9_132 rfl rfl rfl ?_
      refine rn_iconst (q := 52) dX9_sum_51 (am_okd rfl) rfl ?_
      refine rn_iaddN (z := ((a + 1 : Nat) : Int)) (q := 53) dX9_sum_52 (by omega) (by unfold am_ok; omega) rfl ?_
      refine rn_puti (a := 95) (q := 56) dX9_sum_53 fl_X9_132 rfl rfl rfl rfl ?_
      rw [aw_at]
      refine rn_aload_n (x := 95) (q := 57) dX9_sum_56 rfl rfl ?_
      refine rn_iload_n (x := (dp : Int)) (q := 58) dX9_sum_57 rfl rfl ?_
      refine rn_callV (b := 95) (as := [.inl (dp : Int)]) (rest := []) (q := 61) dX9_sum_58 ml_X9_184 sm_X9_product rfl rfl (by decide) (by omega) rfl rfl (Nat.le_of_ble_eq_true rfl) rfl (I.2.2.1 dp (a + 1) (-1) x hdp (by omega) hx) ?_
      intro r58 mem58 hq58
      obtain ⟨rfl, rfl⟩ := hq58
      show am_Rn l G _ _ 61 [some (.inr (.inr 96)), some (.inl (dp : Int)), some (.inl v), some (.inl 0), ly] [.inl x.1] (aw M (x.2.1 : Int) x.2.2) _
      refine rn_istore (ls' := [some (.inr (.inr 96)), some (.inl (dp : Int)), some (.inl v), some (.inl 0), some (.inl x.1)]) (q := 63) dX9_sum_61 (by decide) rfl rfl ?_
      refine rn_iload_n (x := 0) (q := 64) dX9_sum_63 rfl rfl ?_
      refine rn_ifeq (t := 74) (q := 67) dX9_sum_64 rfl rfl (fun w64 => ?_) (fun h => absurd h (by decide))
      refine rn_iload_n (x := v) (q := 75) dX9_sum_74 rfl rfl ?_
      refine rn_iload (x := x.1) (q := 77) dX9_sum_75 rfl rfl ?_
      refine rn_isub (q := 78) dX9_sum_77 rfl ?_
      refine rn_istore_n (ls' := [some (.inr (.inr 96)), some (.inl (dp : Int)), some (.inl (am_w32 (v - x.1))), some (.inl 0), some (.inl x.1)]) (q := 79) dX9_sum_78 (by decide) rfl rfl ?_
      refine rn_goto (t := 6) dX9_sum_79 rfl ?_
      exact J.2.2.2.1 dp _ _ _ r _ _ hdp hxa.2 hh
  · rename_i hc
    obtain rfl := Option.some.inj hh
    by_cases hw : w = -1
    · subst hw
      have hc1 : ¬ (txAt T (a : Int) = 43 ∨ txAt T (a : Int) = 45) := fun z => hc ⟨rfl, z⟩
      refine rn_aload_n (x := 95) (q := 7) dX9_sum_6 rfl rfl ?_
      refine rn_callV (b := 95) (as := []) (rest := []) (q := 10) dX9_sum_7 ml_X9_142 sm_X9_fine rfl rfl (by decide) (by omega) rfl rfl (Nat.le_of_ble_eq_true rfl) rfl (s_fineT (d := k) _) ?_
      intro r7 mem7 hq7
      obtain ⟨rfl, rfl⟩ := hq7
      show am_Rn l G _ _ 10 [some (.inr (.inr 96)), some (.inl (dp : Int)), some (.inl v), lx, ly] [.inl 1] (aw M (a : Int) (-1)) _
      refine rn_ifeq (t := 82) (q := 13) dX9_sum_10 rfl rfl (fun h => absurd h (by decide)) (fun w10 => ?_)
      refine rn_aload_n (x := 95) (q := 14) dX9_sum_13 rfl rfl ?_
      refine rn_callV (b := 95) (as := []) (rest := []) (q := 17) dX9_sum_14 ml_X9_146 sm_X9_here rfl rfl (by decide) (by omega) rfl rfl (Nat.le_of_ble_eq_true rfl) rfl (s_here9 (d := k) hr a (-1) (by omega)) ?_
      intro r14 mem14 hq14
      obtain ⟨rfl, rfl⟩ := hq14
      show am_Rn l G _ _ 17 [some (.inr (.inr 96)), some (.inl (dp : Int)), some (.inl v), lx, ly] [.inl (txAt T (a : Int))] (aw M (a : Int) (-1)) _
      refine rn_bipush (q := 19) dX9_sum_17 ⟨by decide, by decide⟩ rfl ?_
      refine rn_cmpeq (t := 31) (q := 22) dX9_sum_19 rfl rfl (fun h => absurd h (by omega)) (fun w19 => ?_)
      refine rn_aload_n (x := 95) (q := 23) dX9_sum_22 rfl rfl ?_
      refine rn_callV (b := 95) (as := []) (rest := []) (q := 26) dX9_sum_23 ml_X9_146 sm_X9_here rfl rfl (by decide) (by omega) rfl rfl (Nat.le_of_ble_eq_true rfl) rfl (s_here9 (d := k) hr a (-1) (by omega)) ?_
      intro r23 mem23 hq23
      obtain ⟨rfl, rfl⟩ := hq23
      show am_Rn l G _ _ 26 [some (.inr (.inr 96)), some (.inl (dp : Int)), some (.inl v), lx, ly] [.inl (txAt T (a : Int))] (aw M (a : Int) (-1)) _
      refine rn_bipush (q := 28) dX9_sum_26 ⟨by decide, by decide⟩ rfl ?_
      refine rn_cmpne (t := 82) (q := 31) dX9_sum_28 rfl rfl (fun w28 => ?_) (fun h => absurd h (by omega))
      refine rn_iload_n (x := v) (q := 83) dX9_sum_82 rfl rfl ?_
      refine rn_iret dX9_sum_83 rfl ?_
      exact ⟨rfl, rfl⟩
    · refine rn_aload_n (x := 95) (q := 7) dX9_sum_6 rfl rfl ?_
      refine rn_callV (b := 95) (as := []) (rest := []) (q := 10) dX9_sum_7 ml_X9_142 sm_X9_fine rfl rfl (by decide) (by omega) rfl rfl (Nat.le_of_ble_eq_true rfl) rfl (s_fineF (d := k) _ w hw) ?_
      intro r7 mem7 hq7
      obtain ⟨rfl, rfl⟩ := hq7
      show am_Rn l G _ _ 10 [some (.inr (.inr 96)), some (.inl (dp : Int)), some (.inl v), lx, ly] [.inl 0] (aw M (a : Int) w) _
      refine rn_ifeq (t := 82) (q := 13) dX9_sum_10 rfl rfl (fun w10 => ?_) (fun h => absurd h (by decide))
      refine rn_iload_n (x := v) (q := 83) dX9_sum_82 rfl rfl ?_
      refine rn_iret dX9_sum_83 rfl ?_
      exact ⟨rfl, rfl⟩
theorem ps_run2 (hr : m_rd T rd L M) {n k : Nat} (I : PSt l G M T f n (k + 6)) (J : PSt l G M T f n (k + 7)) : ∀ (dp a : Nat) (w : Int) (r : Int × Nat × Int), dp ≤ 4 → a ≤ T.length → ps T f (n + 1) 2 dp 0 a w = some r → am_Sm l G yX9_product mt_X9_product (k + 7) [.inr (.inr 96), .inl (dp : Int)] (aw M (a : Int) w) (am_rr (some (.inl r.1)) (aw M (r.2.1 : Int) r.2.2)) := by
  intro dp a w r hdp ha hh
  rw [ps] at hh
  obtain ⟨x, hx, hh⟩ := Option.bind_eq_some_iff.mp hh
  have hxa := ps_at T f n 0 dp 0 a w x hx ha
  refine am_enter (ls := [some (.inr (.inr 96)), some (.inl (dp : Int)), none, none, none]) (by decide) rfl (Nat.le_of_ble_eq_true rfl) rfl ?_
  refine rn_aload_n (x := 95) (q := 1) dX9_product_0 rfl rfl ?_
  refine rn_iload_n (x := (dp : Int)) (q := 2) dX9_product_1 rfl rfl ?_
  refine rn_callV (b := 95) (as := [.inl (dp : Int)]) (rest := []) (q := 5) dX9_product_2 ml_X9_187 sm_X9_thing rfl rfl (by decide) (by omega) rfl rfl (Nat.le_of_ble_eq_true rfl) rfl (I.1 dp a w x hdp ha hx) ?_
  intro r2 mem2 hq2
  obtain ⟨rfl, rfl⟩ := hq2
  show am_Rn l G _ _ 5 [some (.inr (.inr 96)), some (.inl (dp : Int)), none, none, none] [.inl x.1] (aw M (x.2.1 : Int) x.2.2) _
  refine rn_istore_n (ls' := [some (.inr (.inr 96)), some (.inl (dp : Int)), some (.inl x.1), none, none]) (q := 6) dX9_product_5 (by decide) rfl rfl ?_
  exact J.2.1 dp _ _ _ r _ _ hdp hxa.2 hh
theorem ps_run4 (hr : m_rd T rd L M) {n k : Nat} (I : PSt l G M T f n (k + 6)) (J : PSt l G M T f n (k + 7)) : ∀ (dp a : Nat) (w : Int) (r : Int × Nat × Int), dp ≤ 4 → a ≤ T.length → ps T f (n + 1) 4 dp 0 a w = some r → am_Sm l G yX9_sum mt_X9_sum (k + 7) [.inr (.inr 96), .inl (dp : Int)] (aw M (a : Int) w) (am_rr (some (.inl r.1)) (aw M (r.2.1 : Int) r.2.2)) := by
  intro dp a w r hdp ha hh
  rw [ps] at hh
  obtain ⟨x, hx, hh⟩ := Option.bind_eq_some_iff.mp hh
  have hxa := ps_at T f n 2 dp 0 a w x hx ha
  refine am_enter (ls := [some (.inr (.inr 96)), some (.inl (dp : Int)), none, none, none]) (by decide) rfl (Nat.le_of_ble_eq_true rfl) rfl ?_
  refine rn_aload_n (x := 95) (q := 1) dX9_sum_0 rfl rfl ?_
  refine rn_iload_n (x := (dp : Int)) (q := 2) dX9_sum_1 rfl rfl ?_
  refine rn_callV (b := 95) (as := [.inl (dp : Int)]) (rest := []) (q := 5) dX9_sum_2 ml_X9_184 sm_X9_product rfl rfl (by decide) (by omega) rfl rfl (Nat.le_of_ble_eq_true rfl) rfl (I.2.2.1 dp a w x hdp ha hx) ?_
  intro r2 mem2 hq2
  obtain ⟨rfl, rfl⟩ := hq2
  show am_Rn l G _ _ 5 [some (.inr (.inr 96)), some (.inl (dp : Int)), none, none, none] [.inl x.1] (aw M (x.2.1 : Int) x.2.2) _
  refine rn_istore_n (ls' := [some (.inr (.inr 96)), some (.inl (dp : Int)), some (.inl x.1), none, none]) (q := 6) dX9_sum_5 (by decide) rfl rfl ?_
  exact J.2.2.2.1 dp _ _ _ r _ _ hdp hxa.2 hh
theorem ps_5 (n dp : Nat) (v : Int) (a : Nat) (w : Int) : ps T f (n + 1) 5 dp v a w = (ps T f n 4 dp 0 a w).bind (fun r => if r.2.2 = -1 ∧ (txAt T (r.2.1 : Int) = 60 ∨ txAt T (r.2.1 : Int) = 62 ∨ txAt T (r.2.1 : Int) = 61) then (ps T f n 4 dp 0 (r.2.1 + 1) r.2.2).map (fun s => (cmpv (txAt T (r.2.1 : Int)) r.1 s.1, s.2)) else some r) := by rw [ps] <;> omega
set_option maxHeartbeats 4000000 in
theorem ps_run5 (hr : m_rd T rd L M) {n k : Nat} (I : PSt l G M T f n (k + 6)) : ∀ (dp a : Nat) (w : Int) (r : Int × Nat × Int), dp ≤ 4 → a ≤ T.length → ps T f (n + 1) 5 dp 0 a w = some r → am_Sm l G yX9_held mt_X9_held (k + 7) [.inr (.inr 96), .inl (dp : Int)] (aw M (a : Int) w) (am_rr (some (.inl r.1)) (aw M (r.2.1 : Int) r.2.2)) := by
  intro dp a w r hdp ha hh
  have hTl : T.length ≤ 80 := by obtain ⟨-, -, -, g1, ⟨tp, -, -, g2⟩, -⟩ := hr; omega
  rw [ps_5] at hh
  obtain ⟨x, hx, hh⟩ := Option.bind_eq_some_iff.mp hh
  have hxa := ps_at T f n 4 dp 0 a w x hx ha
  refine am_enter (ls := [some (.inr (.inr 96)), some (.inl (dp : Int)), none]) (by decide) rfl (Nat.le_of_ble_eq_true rfl) rfl ?_
  obtain ⟨x1, xa, xw⟩ := x
  dsimp only at hh hxa
  split at hh
  · rename_i hc
    obtain ⟨rfl, hc⟩ := hc
    have hl := txAt_lt (T := T) (a := xa) (by omega)
    obtain ⟨y, hy, rfl⟩ := Option.map_eq_some_iff.mp hh
    have o1 : ∀ p q : Prop, True := fun _ _ => trivial
    rcases hc with hc | hc | hc
    · refine rn_aload_n (x := 95) (q := 1) dX9_held_0 rfl rfl ?_
      refine rn_iload_n (x := (dp : Int)) (q := 2) dX9_held_1 rfl rfl ?_
      refine rn_callV (b := 95) (as := [.inl (dp : Int)]) (rest := []) (q := 5) dX9_held_2 ml_X9_181 sm_X9_sum rfl rfl (by decide) (by omega) rfl rfl (Nat.le_of_ble_eq_true rfl) rfl (I.2.2.2.2.1 dp a w (x1, xa, -1) hdp ha hx) ?_
      intro r2 mem2 hq2
      obtain ⟨rfl, rfl⟩ := hq2
      show am_Rn l G _ _ 5 [some (.inr (.inr 96)), some (.inl (dp : Int)), none] [.inl x1] (aw M (xa : Int) (-1)) _
      refine rn_istore_n (ls' := [some (.inr (.inr 96)), some (.inl (dp : Int)), some (.inl x1)]) (q := 6) dX9_held_5 (by decide) rfl rfl ?_
      refine rn_aload_n (x := 95) (q := 7) dX9_held_6 rfl rfl ?_
      refine rn_bipush (q := 9) dX9_held_7 ⟨by decide, by decide⟩ rfl ?_
      refine rn_callV (b := 95) (as := [.inl 60]) (rest := []) (q := 12) dX9_held_9 ml_X9_150 sm_X9_passes rfl rfl (by decide) (by omega) rfl rfl (Nat.le_of_ble_eq_true rfl) rfl (s_passY (d := k) hr xa (-1) 60 (by omega) ⟨rfl, hc⟩) ?_
      intro r9 mem9 hq9
      obtain ⟨rfl, rfl⟩ := hq9
      show am_Rn l G _ _ 12 [some (.inr (.inr 96)), some (.inl (dp : Int)), some (.inl x1)] [.inl 1] (aw M ((xa + 1 : Nat) : Int) (-1)) _
      refine rn_ifeq (t := 30) (q := 15) dX9_held_12 rfl rfl (fun h => absurd h (by decide)) (fun w12 => ?_)
      refine rn_iload_n (x := x1) (q := 16) dX9_held_15 rfl rfl ?_
      refine rn_aload_n (x := 95) (q := 17) dX9_held_16 rfl rfl ?_
      refine rn_iload_n (x := (dp : Int)) (q := 18) dX9_held_17 rfl rfl ?_
      refine rn_callV (b := 95) (as := [.inl (dp : Int)]) (rest := [.inl x1]) (q := 21) dX9_held_18 ml_X9_181 sm_X9_sum rfl rfl (by decide) (by omega) rfl rfl (Nat.le_of_ble_eq_true rfl) rfl (I.2.2.2.2.1 dp (xa + 1) (-1) y hdp (by omega) hy) ?_
      intro r18 mem18 hq18
      obtain ⟨rfl, rfl⟩ := hq18
      show am_Rn l G _ _ 21 [some (.inr (.inr 96)), some (.inl (dp : Int)), some (.inl x1)] [.inl y.1, .inl x1] (aw M (y.2.1 : Int) y.2.2) _
      refine rn_cmpge (t := 28) (q := 24) dX9_held_21 rfl rfl (fun w21 => ?_) (fun w21 => ?_)
      · refine rn_iconst (q := 29) dX9_held_28 (am_okd rfl) rfl ?_
        refine rn_iret dX9_held_29 rfl ?_
        exact ⟨by show _ = some (Sum.inl (cmpv (txAt T (xa : Int)) x1 y.1)); unfold cmpv; rw [hc]; simp; omega, rfl⟩
      · refine rn_iconst (q := 25) dX9_held_24 (am_okd rfl) rfl ?_
        refine rn_goto (t := 29) dX9_held_25 rfl ?_
        refine rn_iret dX9_held_29 rfl ?_
        exact ⟨by show _ = some (Sum.inl (cmpv (txAt T (xa : Int)) x1 y.1)); unfold cmpv; rw [hc]; simp; omega, rfl⟩
    · refine rn_aload_n (x := 95) (q := 1) dX9_held_0 rfl rfl ?_
      refine rn_iload_n (x := (dp : Int)) (q := 2) dX9_held_1 rfl rfl ?_
      refine rn_callV (b := 95) (as := [.inl (dp : Int)]) (rest := []) (q := 5) dX9_held_2 ml_X9_181 sm_X9_sum rfl rfl (by decide) (by omega) rfl rfl (Nat.le_of_ble_eq_true rfl) rfl (I.2.2.2.2.1 dp a w (x1, xa, -1) hdp ha hx) ?_
      intro r2 mem2 hq2
      obtain ⟨rfl, rfl⟩ := hq2
      show am_Rn l G _ _ 5 [some (.inr (.inr 96)), some (.inl (dp : Int)), none] [.inl x1] (aw M (xa : Int) (-1)) _
      refine rn_istore_n (ls' := [some (.inr (.inr 96)), some (.inl (dp : Int)), some (.inl x1)]) (q := 6) dX9_held_5 (by decide) rfl rfl ?_
      refine rn_aload_n (x := 95) (q := 7) dX9_held_6 rfl rfl ?_
      refine rn_bipush (q := 9) dX9_held_7 ⟨by decide, by decide⟩ rfl ?_
      refine rn_callV (b := 95) (as := [.inl 60]) (rest := []) (q := 12) dX9_held_9 ml_X9_150 sm_X9_passes rfl rfl (by decide) (by omega) rfl rfl (Nat.le_of_ble_eq_true rfl) rfl (s_passN (d := k) hr xa (-1) 60 (by omega) (fun z => absurd z.2 (by omega))) ?_
      intro r9 mem9 hq9
      obtain ⟨rfl, rfl⟩ := hq9
      show am_Rn l G _ _ 12 [some (.inr (.inr 96)), some (.inl (dp : Int)), some (.inl x1)] [.inl 0] (aw M (xa : Int) (-1)) _
      refine rn_ifeq (t := 30) (q := 15) dX9_held_12 rfl rfl (fun w12 => ?_) (fun h => absurd h (by decide))
      refine rn_aload_n (x := 95) (q := 31) dX9_held_30 rfl rfl ?_
      refine rn_bipush (q := 33) dX9_held_31 ⟨by decide, by decide⟩ rfl ?_
      refine rn_callV (b := 95) (as := [.inl 62]) (rest := []) (q := 36) dX9_held_33 ml_X9_150 sm_X9_passes rfl rfl (by decide) (by omega) rfl rfl (Nat.le_of_ble_eq_true rfl) rfl (s_passY (d := k) hr xa (-1) 62 (by omega) ⟨rfl, hc⟩) ?_
      intro r33 mem33 hq33
      obtain ⟨rfl, rfl⟩ := hq33
      show am_Rn l G _ _ 36 [some (.inr (.inr 96)), some (.inl (dp : Int)), some (.inl x1)] [.inl 1] (aw M ((xa + 1 : Nat) : Int) (-1)) _
      refine rn_ifeq (t := 54) (q := 39) dX9_held_36 rfl rfl (fun h => absurd h (by decide)) (fun w36 => ?_)
      refine rn_iload_n (x := x1) (q := 40) dX9_held_39 rfl rfl ?_
      refine rn_aload_n (x := 95) (q := 41) dX9_held_40 rfl rfl ?_
      refine rn_iload_n (x := (dp : Int)) (q := 42) dX9_held_41 rfl rfl ?_
      refine rn_callV (b := 95) (as := [.inl (dp : Int)]) (rest := [.inl x1]) (q := 45) dX9_held_42 ml_X9_181 sm_X9_sum rfl rfl (by decide) (by omega) rfl rfl (Nat.le_of_ble_eq_true rfl) rfl (I.2.2.2.2.1 dp (xa + 1) (-1) y hdp (by omega) hy) ?_
      intro r42 mem42 hq42
      obtain ⟨rfl, rfl⟩ := hq42
      show am_Rn l G _ _ 45 [some (.inr (.inr 96)), some (.inl (dp : Int)), some (.inl x1)] [.inl y.1, .inl x1] (aw M (y.2.1 : Int) y.2.2) _
      refine rn_cmple (t := 52) (q := 48) dX9_held_45 rfl rfl (fun w45 => ?_) (fun w45 => ?_)
      · refine rn_iconst (q := 53) dX9_held_52 (am_okd rfl) rfl ?_
        refine rn_iret dX9_held_53 rfl ?_
        exact ⟨by show _ = some (Sum.inl (cmpv (txAt T (xa : Int)) x1 y.1)); unfold cmpv; rw [hc]; simp; omega, rfl⟩
      · refine rn_iconst (q := 49) dX9_held_48 (am_okd rfl) rfl ?_
        refine rn_goto (t := 53) dX9_held_49 rfl ?_
        refine rn_iret dX9_held_53 rfl ?_
        exact ⟨by show _ = some (Sum.inl (cmpv (txAt T (xa : Int)) x1 y.1)); unfold cmpv; rw [hc]; simp; omega, rfl⟩
    · refine rn_aload_n (x := 95) (q := 1) dX9_held_0 rfl rfl ?_
      refine rn_iload_n (x := (dp : Int)) (q := 2) dX9_held_1 rfl rfl ?_
      refine rn_callV (b := 95) (as := [.inl (dp : Int)]) (rest := []) (q := 5) dX9_held_2 ml_X9_181 sm_X9_sum rfl rfl (by decide) (by omega) rfl rfl (Nat.le_of_ble_eq_true rfl) rfl (I.2.2.2.2.1 dp a w (x1, xa, -1) hdp ha hx) ?_
      intro r2 mem2 hq2
      obtain ⟨rfl, rfl⟩ := hq2
      show am_Rn l G _ _ 5 [some (.inr (.inr 96)), some (.inl (dp : Int)), none] [.inl x1] (aw M (xa : Int) (-1)) _
      refine rn_istore_n (ls' := [some (.inr (.inr 96)), some (.inl (dp : Int)), some (.inl x1)]) (q := 6) dX9_held_5 (by decide) rfl rfl ?_
      refine rn_aload_n (x := 95) (q := 7) dX9_held_6 rfl rfl ?_
      refine rn_bipush (q := 9) dX9_held_7 ⟨by decide, by decide⟩ rfl ?_
      refine rn_callV (b := 95) (as := [.inl 60]) (rest := []) (q := 12) dX9_held_9 ml_X9_150 sm_X9_passes rfl rfl (by decide) (by omega) rfl rfl (Nat.le_of_ble_eq_true rfl) rfl (s_passN (d := k) hr xa (-1) 60 (by omega) (fun z => absurd z.2 (by omega))) ?_
      intro r9 mem9 hq9
      obtain ⟨rfl, rfl⟩ := hq9
      show am_Rn l G _ _ 12 [some (.inr (.inr 96)), some (.inl (dp : Int)), some (.inl x1)] [.inl 0] (aw M (xa : Int) (-1)) _
      refine rn_ifeq (t := 30) (q := 15) dX9_held_12 rfl rfl (fun w12 => ?_) (fun h => absurd h (by decide))
      refine rn_aload_n (x := 95) (q := 31) dX9_held_30 rfl rfl ?_
      refine rn_bipush (q := 33) dX9_held_31 ⟨by decide, by decide⟩ rfl ?_
      refine rn_callV (b := 95) (as := [.inl 62]) (rest := []) (q := 36) dX9_held_33 ml_X9_150 sm_X9_passes rfl rfl (by decide) (by omega) rfl rfl (Nat.le_of_ble_eq_true rfl) rfl (s_passN (d := k) hr xa (-1) 62 (by omega) (fun z => absurd z.2 (by omega))) ?_
      intro r33 mem33 hq33
      obtain ⟨rfl, rfl⟩ := hq33
      show am_Rn l G _ _ 36 [some (.inr (.inr 96)), some (.inl (dp : Int)), some (.inl x1)] [.inl 0] (aw M (xa : Int) (-1)) _
      refine rn_ifeq (t := 54) (q := 39) dX9_held_36 rfl rfl (fun w36 => ?_) (fun h => absurd h (by decide))
      refine rn_aload_n (x := 95) (q := 55) dX9_held_54 rfl rfl ?_
      refine rn_bipush (q := 57) dX9_held_55 ⟨by decide, by decide⟩ rfl ?_
      refine rn_callV (b := 95) (as := [.inl 61]) (rest := []) (q := 60) dX9_held_57 ml_X9_150 sm_X9_passes rfl rfl (by decide) (by omega) rfl rfl (Nat.le_of_ble_eq_true rfl) rfl (s_passY (d := k) hr xa (-1) 61 (by omega) ⟨rfl, hc⟩) ?_
      intro r57 mem57 hq57
      obtain ⟨rfl, rfl⟩ := hq57
      show am_Rn l G _ _ 60 [some (.inr (.inr 96)), some (.inl (dp : Int)), some (.inl x1)] [.inl 1] (aw M ((xa + 1 : Nat) : Int) (-1)) _
      refine rn_ifeq (t := 78) (q := 63) dX9_held_60 rfl rfl (fun h => absurd h (by decide)) (fun w60 => ?_)
      refine rn_iload_n (x := x1) (q := 64) dX9_held_63 rfl rfl ?_
      refine rn_aload_n (x := 95) (q := 65) dX9_held_64 rfl rfl ?_
      refine rn_iload_n (x := (dp : Int)) (q := 66) dX9_held_65 rfl rfl ?_
      refine rn_callV (b := 95) (as := [.inl (dp : Int)]) (rest := [.inl x1]) (q := 69) dX9_held_66 ml_X9_181 sm_X9_sum rfl rfl (by decide) (by omega) rfl rfl (Nat.le_of_ble_eq_true rfl) rfl (I.2.2.2.2.1 dp (xa + 1) (-1) y hdp (by omega) hy) ?_
      intro r66 mem66 hq66
      obtain ⟨rfl, rfl⟩ := hq66
      show am_Rn l G _ _ 69 [some (.inr (.inr 96)), some (.inl (dp : Int)), some (.inl x1)] [.inl y.1, .inl x1] (aw M (y.2.1 : Int) y.2.2) _
      refine rn_cmpne (t := 76) (q := 72) dX9_held_69 rfl rfl (fun w69 => ?_) (fun w69 => ?_)
      · refine rn_iconst (q := 77) dX9_held_76 (am_okd rfl) rfl ?_
        refine rn_iret dX9_held_77 rfl ?_
        exact ⟨by show _ = some (Sum.inl (cmpv (txAt T (xa : Int)) x1 y.1)); unfold cmpv; rw [hc]; simp; omega, rfl⟩
      · refine rn_iconst (q := 73) dX9_held_72 (am_okd rfl) rfl ?_
        refine rn_goto (t := 77) dX9_held_73 rfl ?_
        refine rn_iret dX9_held_77 rfl ?_
        exact ⟨by show _ = some (Sum.inl (cmpv (txAt T (xa : Int)) x1 y.1)); unfold cmpv; rw [hc]; simp; omega, rfl⟩
  · rename_i hc
    obtain rfl := Option.some.inj hh
    refine rn_aload_n (x := 95) (q := 1) dX9_held_0 rfl rfl ?_
    refine rn_iload_n (x := (dp : Int)) (q := 2) dX9_held_1 rfl rfl ?_
    refine rn_callV (b := 95) (as := [.inl (dp : Int)]) (rest := []) (q := 5) dX9_held_2 ml_X9_181 sm_X9_sum rfl rfl (by decide) (by omega) rfl rfl (Nat.le_of_ble_eq_true rfl) rfl (I.2.2.2.2.1 dp a w (x1, xa, xw) hdp ha hx) ?_
    intro r2 mem2 hq2
    obtain ⟨rfl, rfl⟩ := hq2
    show am_Rn l G _ _ 5 [some (.inr (.inr 96)), some (.inl (dp : Int)), none] [.inl x1] (aw M (xa : Int) xw) _
    refine rn_istore_n (ls' := [some (.inr (.inr 96)), some (.inl (dp : Int)), some (.inl x1)]) (q := 6) dX9_held_5 (by decide) rfl rfl ?_
    refine rn_aload_n (x := 95) (q := 7) dX9_held_6 rfl rfl ?_
    refine rn_bipush (q := 9) dX9_held_7 ⟨by decide, by decide⟩ rfl ?_
    refine rn_callV (b := 95) (as := [.inl 60]) (rest := []) (q := 12) dX9_held_9 ml_X9_150 sm_X9_passes rfl rfl (by decide) (by omega) rfl rfl (Nat.le_of_ble_eq_true rfl) rfl (s_passN (d := k) hr xa xw 60 (by omega) (fun z => hc ⟨z.1, Or.inl z.2⟩)) ?_
    intro r9 mem9 hq9
    obtain ⟨rfl, rfl⟩ := hq9
    show am_Rn l G _ _ 12 [some (.inr (.inr 96)), some (.inl (dp : Int)), some (.inl x1)] [.inl 0] (aw M (xa : Int) xw) _
    refine rn_ifeq (t := 30) (q := 15) dX9_held_12 rfl rfl (fun w12 => ?_) (fun h => absurd h (by decide))
    refine rn_aload_n (x := 95) (q := 31) dX9_held_30 rfl rfl ?_
    refine rn_bipush (q := 33) dX9_held_31 ⟨by decide, by decide⟩ rfl ?_
    refine rn_callV (b := 95) (as := [.inl 62]) (rest := []) (q := 36) dX9_held_33 ml_X9_150 sm_X9_passes rfl rfl (by decide) (by omega) rfl rfl (Nat.le_of_ble_eq_true rfl) rfl (s_passN (d := k) hr xa xw 62 (by omega) (fun z => hc ⟨z.1, Or.inr (Or.inl z.2)⟩)) ?_
    intro r33 mem33 hq33
    obtain ⟨rfl, rfl⟩ := hq33
    show am_Rn l G _ _ 36 [some (.inr (.inr 96)), some (.inl (dp : Int)), some (.inl x1)] [.inl 0] (aw M (xa : Int) xw) _
    refine rn_ifeq (t := 54) (q := 39) dX9_held_36 rfl rfl (fun w36 => ?_) (fun h => absurd h (by decide))
    refine rn_aload_n (x := 95) (q := 55) dX9_held_54 rfl rfl ?_
    refine rn_bipush (q := 57) dX9_held_55 ⟨by decide, by decide⟩ rfl ?_
    refine rn_callV (b := 95) (as := [.inl 61]) (rest := []) (q := 60) dX9_held_57 ml_X9_150 sm_X9_passes rfl rfl (by decide) (by omega) rfl rfl (Nat.le_of_ble_eq_true rfl) rfl (s_passN (d := k) hr xa xw 61 (by omega) (fun z => hc ⟨z.1, Or.inr (Or.inr z.2)⟩)) ?_
    intro r57 mem57 hq57
    obtain ⟨rfl, rfl⟩ := hq57
    show am_Rn l G _ _ 60 [some (.inr (.inr 96)), some (.inl (dp : Int)), some (.inl x1)] [.inl 0] (aw M (xa : Int) xw) _
    refine rn_ifeq (t := 78) (q := 63) dX9_held_60 rfl rfl (fun w60 => ?_) (fun h => absurd h (by decide))
    refine rn_iload_n (x := x1) (q := 79) dX9_held_78 rfl rfl ?_
    refine rn_iret dX9_held_79 rfl ?_
    exact ⟨rfl, rfl⟩
/-- the reader answers what ps answers -/
theorem ps_run (hr : m_rd T rd L M) (hf : m_ask f M) : ∀ n d, n + 7 ≤ d → PSt l G M T f n d := by
  intro n
  induction n with
  | zero => intro d _; exact ⟨fun _ _ _ _ _ _ z => by simp [ps] at z, fun _ _ _ _ _ _ _ _ _ z => by simp [ps] at z, fun _ _ _ _ _ _ z => by simp [ps] at z, fun _ _ _ _ _ _ _ _ _ z => by simp [ps] at z, fun _ _ _ _ _ _ z => by simp [ps] at z, fun _ _ _ _ _ _ z => by simp [ps] at z⟩
  | succ n ih =>
    intro d hd
    obtain ⟨k, rfl⟩ : ∃ k, d = k + 7 := ⟨d - 7, by omega⟩
    have I := ih (k + 6) (by omega)
    have J := ih (k + 7) (by omega)
    exact ⟨ps_run0 hr hf I, ps_run1 hr I J, ps_run2 hr I J, ps_run3 hr I J, ps_run4 hr I J, ps_run5 hr I⟩
end P26
