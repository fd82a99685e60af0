section P43
variable {l : Launch} {G : am_G} {d : Nat} {mem M : am_M}
theorem s_part8 {r : Nat} (hr : am_rul r) {a : Nat} (ha : am_est a) {X : List Nat} {C : List Int} (hok : ruleOK X C) (hC : c_code r C mem) {sn : Nat} {sg : Nat → Nat} (hs : c_song sn sg mem) {h : hrs} (hh : c_hrs h mem) {hd : Nat → Nat} (hhd : ∀ i, hd i ≤ 99) (hhm : ∀ i, i < 8 → mem (a + 1) i = (hd i : Int)) {nt : Nat} (hnt : nt < 1000000) (hnm : mem a 3 = (nt : Int)) {mk : Nat} (hmk : mk < 256) {mv : Nat → Int} (hmv : ∀ i, mv i = mayV X h (sg (nt % sn)) i (hd i) nt (pc mk)) : am_Sm l G yX6_part mt_X6_part (d + 4) [.inr (.inr 6), .inr (.inr (a + 1)), .inl (mk : Int), .inr (.inr (r + 1))] mem (fun q m => q = none ∧ fr_part r mem m ∧ (∀ j, j < h.1 → m 10 j = pP mv mk (sg (nt % sn) : Int) j) ∧ m 5 8 = pD mv mk (sg (nt % sn) : Int) h.2.2.2 h.1 ∧ m 5 9 = pL mv mk (sg (nt % sn) : Int) h.1 ∧ m 5 10 = (pH mv mk (sg (nt % sn) : Int) h.1 : Int)) := by
  refine am_enter (ls := [some (.inr (.inr 6)), some (.inr (.inr (a + 1))), some (.inl (mk : Int)), some (.inr (.inr (r + 1))), none, none]) (by decide) rfl (Nat.le_of_ble_eq_true rfl) rfl ?_
  have hsg := hs.2.2.2.1 (nt % sn)
  refine rn_iload_n (x := (mk : Int)) (q := 1) dX6_part_0 rfl rfl ?_
  refine rn_callS (as := [.inl (mk : Int)]) (rest := []) (q := 4) dX6_part_1 ml_X6_68 sm_J6_bitCount_0f7a4 (by omega) rfl rfl (Nat.le_of_ble_eq_true rfl) rfl (s_bitCount (d := d + 3) mk (by omega)) ?_
  intro r1 mem1 hq1
  obtain ⟨rfl, rfl⟩ := hq1
  show am_Rn l G _ _ 4 [some (.inr (.inr 6)), some (.inr (.inr (a + 1))), some (.inl (mk : Int)), some (.inr (.inr (r + 1))), none, none] [.inl (pc mk : Int)] mem _
  refine rn_istore (ls' := [some (.inr (.inr 6)), some (.inr (.inr (a + 1))), some (.inl (mk : Int)), some (.inr (.inr (r + 1))), some (.inl (pc mk : Int)), none]) (q := 6) dX6_part_4 (by decide) rfl rfl ?_
  refine rn_aload_n (x := 5) (q := 7) dX6_part_6 rfl rfl ?_
  refine rn_aload_n (x := 5) (q := 8) dX6_part_7 rfl rfl ?_
  refine rn_aload_n (x := a) (q := 9) dX6_part_8 rfl rfl ?_
  refine rn_get (a := a) (v := .inl (nt : Int)) (q := 12) dX6_part_9 fl_X6_73 (am_est_k ha) (am_gi hnm) rfl ?_
  refine rn_callV (b := 5) (as := [.inl (nt : Int)]) (rest := [.inr (.inr 6)]) (q := 15) dX6_part_12 ml_X6_57 sm_X6_songOn rfl rfl (by decide) (by omega) rfl rfl (Nat.le_of_ble_eq_true rfl) rfl (s_songOn (d := d + 3) hs nt hnt) ?_
  intro r12 mem12 hq12
  obtain ⟨rfl, rfl⟩ := hq12
  show am_Rn l G _ _ 15 [some (.inr (.inr 6)), some (.inr (.inr (a + 1))), some (.inl (mk : Int)), some (.inr (.inr (r + 1))), some (.inl (pc mk : Int)), none] [.inl (sg (nt % sn) : Int), .inr (.inr 6)] mem _
  refine rn_puti (a := 5) (q := 18) dX6_part_15 fl_X6_78 rfl rfl rfl rfl ?_
  refine rn_aload_n (x := 5) (q := 19) dX6_part_18 rfl rfl ?_
  refine rn_iconst (q := 20) dX6_part_19 (am_okd rfl) rfl ?_
  refine rn_puti (a := 5) (q := 23) dX6_part_20 fl_X6_81 rfl rfl rfl rfl ?_
  refine rn_aload_n (x := 5) (q := 24) dX6_part_23 rfl rfl ?_
  refine rn_iconst (q := 25) dX6_part_24 (am_okd rfl) rfl ?_
  refine rn_puti (a := 5) (q := 28) dX6_part_25 fl_X6_84 rfl rfl rfl rfl ?_
  refine rn_iconst (q := 29) dX6_part_28 (am_okd rfl) rfl ?_
  refine rn_istore (ls' := [some (.inr (.inr 6)), some (.inr (.inr (a + 1))), some (.inl (mk : Int)), some (.inr (.inr (r + 1))), some (.inl (pc mk : Int)), some (.inl 0)]) (q := 31) dX6_part_29 (by decide) rfl rfl ?_
  exact s_part31 hr ha hok hC hs hh hhd hhm hnt hnm hmk hmv (w := (sg (nt % sn) : Int)) (by omega) (fun m p1 p2 p3 p4 p5 => ⟨rfl, p1, p2, p3, p4, p5⟩) h.1 0 _ (by omega) ⟨fun b b1 _ _ _ => by rw [am_up_ne b1, am_up_ne b1, am_up_ne b1], fun k hk => by rw [am_up_neq (by omega), am_up_neq (by omega), am_up_neq (by omega)]⟩ (fun j hj => absurd hj (Nat.not_lt_zero _)) rfl rfl rfl
end P43
