def fct (h : hrs) (sv i hd nt ct : Nat) : Nat → Int := fun k => if k = 0 then (sv : Int) else if k = 1 then (h.2.1 i : Int) else if k = 2 then (hd : Int) else if k = 3 then (h.2.2.1 i : Int) else if k = 4 then (h.2.2.2 i : Int) else if k = 5 then ((nt % 7 : Nat) : Int) else if k = 6 then (ct : Int) else 0
/-- what the rule of the signs X answers to the facts f -/
def rv (X : List Nat) (f : Nat → Int) : Int := if X = [] then f 0 - f 1 - f 2 / 10 else match ps X f 168 5 0 0 0 (-1) with
  | some r => r.1
  | none => 0
def mayV (X : List Nat) (h : hrs) (sv i hd nt ct : Nat) : Int := max 0 (min (h.2.2.1 i : Int) (rv X (fct h sv i hd nt ct)))
theorem rv_nil {f : Nat → Int} : rv [] f = f 0 - f 1 - f 2 / 10 := by unfold rv; rw [if_pos rfl]
theorem rv_ps {X : List Nat} {f : Nat → Int} {r : Int × Nat × Int} (hz : X ≠ []) (h : ps X f 168 5 0 0 0 (-1) = some r) : rv X f = r.1 := by unfold rv; rw [if_neg hz, h]
section P40
variable {l : Launch} {G : am_G} {d : Nat} {mem M : am_M}
theorem s_may66 {r : Nat} (hr : am_rul r) {X : List Nat} {C : List Int} (hok : ruleOK X C) {m : am_M} (hC : c_code r C m) {f : Nat → Int} (hF : c_fact r f m) (hb : ∀ k, k < 3 → 0 ≤ f k ∧ f k ≤ 1000000) {n i hd ct : Nat} (hi : i < 8) {wt : Int} (hw : m 8 i = wt) {Q : Option am_V → am_M → Prop} (hQ : ∀ m1 : am_M, (∀ b, b ≠ r + 3 → m1 b = m b) → Q (some (.inl (max 0 (min wt (rv X f))))) m1) : am_Rn l G mt_X6_may (d + 3) 66 [some (.inr (.inr 6)), some (.inr (.inr (r + 1))), some (.inl (n : Int)), some (.inl (i : Int)), some (.inl (hd : Int)), some (.inl (ct : Int)), some (.inr (.inr (r + 4 + 1)))] [] m Q := by
  have o := am_rul_or hr
  obtain ⟨-, -, ⟨hz, hc⟩ | ⟨hz, hp⟩⟩ := hok
  · subst hz hc
    rw [rv_nil] at hQ
    refine rn_aload_n (x := r) (q := 67) dX6_may_66 rfl rfl ?_
    refine rn_callV (b := r) (as := []) (rest := []) (q := 70) dX6_may_67 ml_X6_60 sm_X4_answer rfl (am_rul_k hr) (by decide) (by omega) rfl rfl (Nat.le_of_ble_eq_true rfl) rfl (s_answer0 (d := d) hr hC hF hb) ?_
    intro r67 mem67 hq67
    obtain ⟨rfl, rfl⟩ := hq67
    show am_Rn l G _ _ 70 [some (.inr (.inr 6)), some (.inr (.inr (r + 1))), some (.inl (n : Int)), some (.inl (i : Int)), some (.inl (hd : Int)), some (.inl (ct : Int)), some (.inr (.inr ((r + 4) + 1)))] [.inl (f 0 - f 1 - f 2 / 10)] m _
    refine rn_iconst (q := 71) dX6_may_70 (am_okd rfl) rfl ?_
    refine rn_aload_n (x := 5) (q := 72) dX6_may_71 rfl rfl ?_
    refine rn_get (a := 5) (v := .inr (.inr 9)) (q := 75) dX6_may_72 fl_X6_18 rfl rfl rfl ?_
    refine rn_iload_n (x := (i : Int)) (q := 76) dX6_may_75 rfl rfl ?_
    refine rn_ialdV (a := 8) (v := wt) (q := 77) dX6_may_76 rfl (by omega) (by omega) hw rfl ?_
    refine rn_callSN (as := [.inl (f 0 - f 1 - f 2 / 10), .inl 0, .inl wt]) (rest := []) (q := 80) dX6_may_77 (ml_X6_64 G) sm_X8_put (by omega) rfl rfl (Nat.le_of_ble_eq_true rfl) rfl (s_put (d := d + 2) (f 0 - f 1 - f 2 / 10) 0 wt) ?_
    intro r77 mem77 hq77
    obtain ⟨rfl, rfl⟩ := hq77
    show am_Rn l G _ _ 80 [some (.inr (.inr 6)), some (.inr (.inr (r + 1))), some (.inl (n : Int)), some (.inl (i : Int)), some (.inl (hd : Int)), some (.inl (ct : Int)), some (.inr (.inr ((r + 4) + 1)))] [.inl (max 0 (min wt (f 0 - f 1 - f 2 / 10)))] m _
    refine rn_iret dX6_may_80 rfl ?_
    exact hQ m (fun _ _ => rfl)
  · obtain ⟨p, hp1, hp2⟩ := hp f
    rw [rv_ps hz hp1] at hQ
    refine rn_aload_n (x := r) (q := 67) dX6_may_66 rfl rfl ?_
    refine rn_callV (b := r) (as := []) (rest := []) (q := 70) dX6_may_67 ml_X6_60 sm_X4_answer rfl (am_rul_k hr) (by decide) (by omega) rfl rfl (Nat.le_of_ble_eq_true rfl) rfl (s_answer (d := d) hr hC hF hp2) ?_
    intro r67 mem67 hq67
    obtain ⟨rfl, hfr⟩ := hq67
    show am_Rn l G _ _ 70 [some (.inr (.inr 6)), some (.inr (.inr (r + 1))), some (.inl (n : Int)), some (.inl (i : Int)), some (.inl (hd : Int)), some (.inl (ct : Int)), some (.inr (.inr ((r + 4) + 1)))] [.inl p.1] mem67 _
    refine rn_iconst (q := 71) dX6_may_70 (am_okd rfl) rfl ?_
    refine rn_aload_n (x := 5) (q := 72) dX6_may_71 rfl rfl ?_
    refine rn_get (a := 5) (v := .inr (.inr 9)) (q := 75) dX6_may_72 fl_X6_18 rfl rfl rfl ?_
    refine rn_iload_n (x := (i : Int)) (q := 76) dX6_may_75 rfl rfl ?_
    refine rn_ialdV (a := 8) (v := wt) (q := 77) dX6_may_76 rfl (by omega) (by omega) (by rw [hfr 8 (by omega)]; exact hw) rfl ?_
    refine rn_callSN (as := [.inl p.1, .inl 0, .inl wt]) (rest := []) (q := 80) dX6_may_77 (ml_X6_64 G) sm_X8_put (by omega) rfl rfl (Nat.le_of_ble_eq_true rfl) rfl (s_put (d := d + 2) p.1 0 wt) ?_
    intro r77 mem77 hq77
    obtain ⟨rfl, rfl⟩ := hq77
    show am_Rn l G _ _ 80 [some (.inr (.inr 6)), some (.inr (.inr (r + 1))), some (.inl (n : Int)), some (.inl (i : Int)), some (.inl (hd : Int)), some (.inl (ct : Int)), some (.inr (.inr ((r + 4) + 1)))] [.inl (max 0 (min wt p.1))] mem67 _
    refine rn_iret dX6_may_80 rfl ?_
    exact hQ mem67 hfr
theorem s_may8 {r : Nat} (hr : am_rul r) {X : List Nat} {C : List Int} (hok : ruleOK X C) (hC : c_code r C mem) {sn : Nat} {sg : Nat → Nat} (hs : c_song sn sg mem) {h : hrs} (hh : c_hrs h mem) (n i hd ct : Nat) (hn : n < 1000000) (hi : i < h.1) (hd9 : hd ≤ 99) : am_Sm l G yX6_may mt_X6_may (d + 3) [.inr (.inr 6), .inr (.inr (r + 1)), .inl (n : Int), .inl (i : Int), .inl (hd : Int), .inl (ct : Int)] mem (fun q m => q = some (.inl (mayV X h (sg (n % sn)) i hd n ct)) ∧ ∀ b, b ≠ r + 3 → b ≠ r + 4 → m b = mem b) := by
  refine am_enter (ls := [some (.inr (.inr 6)), some (.inr (.inr (r + 1))), some (.inl (n : Int)), some (.inl (i : Int)), some (.inl (hd : Int)), some (.inl (ct : Int)), none]) (by decide) rfl (Nat.le_of_ble_eq_true rfl) rfl ?_
  have o := am_rul_or hr
  obtain ⟨⟨k1, k2, k3, k4⟩, h6, hv⟩ := hh
  obtain ⟨v1, v2, v3⟩ := hv i hi
  have hsg := hs.2.2.2.1 (n % sn)
  have k2' := k2 i
  have hm7 : ((n : Int)).tmod 7 = ((n % 7 : Nat) : Int) := rfl
  refine rn_aload_n (x := r) (q := 1) dX6_may_0 rfl rfl ?_
  refine rn_get (a := r) (v := .inr (.inr (r + 4 + 1))) (q := 4) dX6_may_1 fl_X6_54 (am_rul_k hr) (am_rul_f3 hr) rfl ?_
  refine rn_astore (ls' := [some (.inr (.inr 6)), some (.inr (.inr (r + 1))), some (.inl (n : Int)), some (.inl (i : Int)), some (.inl (hd : Int)), some (.inl (ct : Int)), some (.inr (.inr (r + 4 + 1)))]) (q := 6) dX6_may_4 (by decide) rfl rfl ?_
  refine rn_aload (x := r + 4) (q := 8) dX6_may_6 rfl rfl ?_
  refine rn_iconst (q := 9) dX6_may_8 (am_okd rfl) rfl ?_
  refine rn_aload_n (x := 5) (q := 10) dX6_may_9 rfl rfl ?_
  refine rn_iload_n (x := (n : Int)) (q := 11) dX6_may_10 rfl rfl ?_
  refine rn_callV (b := 5) (as := [.inl (n : Int)]) (rest := [.inl 0, .inr (.inr (r + 4 + 1))]) (q := 14) dX6_may_11 ml_X6_57 sm_X6_songOn rfl rfl (by decide) (by omega) rfl rfl (Nat.le_of_ble_eq_true rfl) rfl (s_songOn (d := d + 2) hs n hn) ?_
  intro r11 mem11 hq11
  obtain ⟨rfl, rfl⟩ := hq11
  show am_Rn l G _ _ 14 [some (.inr (.inr 6)), some (.inr (.inr (r + 1))), some (.inl (n : Int)), some (.inl (i : Int)), some (.inl (hd : Int)), some (.inl (ct : Int)), some (.inr (.inr (r + 4 + 1)))] [.inl (sg (n % sn) : Int), .inl 0, .inr (.inr (r + 4 + 1))] mem _
  refine rn_iastV (a := (r + 4)) (m1 := am_up mem (r + 4) 0 (sg (n % sn) : Int)) (q := 15) dX6_may_14 (am_rul_k4 hr) (by omega) (by omega) rfl rfl ?_
  refine rn_aload (x := r + 4) (q := 17) dX6_may_15 rfl rfl ?_
  refine rn_iconst (q := 18) dX6_may_17 (am_okd rfl) rfl ?_
  refine rn_aload_n (x := 5) (q := 19) dX6_may_18 rfl rfl ?_
  refine rn_get (a := 5) (v := .inr (.inr 8)) (q := 22) dX6_may_19 fl_X6_15 rfl rfl rfl ?_
  refine rn_iload_n (x := (i : Int)) (q := 23) dX6_may_22 rfl rfl ?_
  refine rn_ialdV (a := 7) (v := (h.2.1 i : Int)) (q := 24) dX6_may_23 rfl (by omega) (by omega) (by (repeat rw [am_up_ne (by omega)]); exact v1) rfl ?_
  refine rn_iastV (a := (r + 4)) (m1 := am_up (am_up mem (r + 4) 0 (sg (n % sn) : Int)) (r + 4) 1 (h.2.1 i : Int)) (q := 25) dX6_may_24 (am_rul_k4 hr) (by omega) (by omega) rfl rfl ?_
  refine rn_aload (x := r + 4) (q := 27) dX6_may_25 rfl rfl ?_
  refine rn_iconst (q := 28) dX6_may_27 (am_okd rfl) rfl ?_
  refine rn_iload (x := (hd : Int)) (q := 30) dX6_may_28 rfl rfl ?_
  refine rn_iastV (a := (r + 4)) (m1 := am_up (am_up (am_up mem (r + 4) 0 (sg (n % sn) : Int)) (r + 4) 1 (h.2.1 i : Int)) (r + 4) 2 (hd : Int)) (q := 31) dX6_may_30 (am_rul_k4 hr) (by omega) (by omega) rfl rfl ?_
  refine rn_aload (x := r + 4) (q := 33) dX6_may_31 rfl rfl ?_
  refine rn_iconst (q := 34) dX6_may_33 (am_okd rfl) rfl ?_
  refine rn_aload_n (x := 5) (q := 35) dX6_may_34 rfl rfl ?_
  refine rn_get (a := 5) (v := .inr (.inr 9)) (q := 38) dX6_may_35 fl_X6_18 rfl rfl rfl ?_
  refine rn_iload_n (x := (i : Int)) (q := 39) dX6_may_38 rfl rfl ?_
  refine rn_ialdV (a := 8) (v := (h.2.2.1 i : Int)) (q := 40) dX6_may_39 rfl (by omega) (by omega) (by (repeat rw [am_up_ne (by omega)]); exact v2) rfl ?_
  refine rn_iastV (a := (r + 4)) (m1 := am_up (am_up (am_up (am_up mem (r + 4) 0 (sg (n % sn) : Int)) (r + 4) 1 (h.2.1 i : Int)) (r + 4) 2 (hd : Int)) (r + 4) 3 (h.2.2.1 i : Int)) (q := 41) dX6_may_40 (am_rul_k4 hr) (by omega) (by omega) rfl rfl ?_
  refine rn_aload (x := r + 4) (q := 43) dX6_may_41 rfl rfl ?_
  refine rn_iconst (q := 44) dX6_may_43 (am_okd rfl) rfl ?_
  refine rn_aload_n (x := 5) (q := 45) dX6_may_44 rfl rfl ?_
  refine rn_get (a := 5) (v := .inr (.inr 10)) (q := 48) dX6_may_45 fl_X6_21 rfl rfl rfl ?_
  refine rn_iload_n (x := (i : Int)) (q := 49) dX6_may_48 rfl rfl ?_
  refine rn_ialdV (a := 9) (v := (h.2.2.2 i : Int)) (q := 50) dX6_may_49 rfl (by omega) (by omega) (by (repeat rw [am_up_ne (by omega)]); exact v3) rfl ?_
  refine rn_iastV (a := (r + 4)) (m1 := am_up (am_up (am_up (am_up (am_up mem (r + 4) 0 (sg (n % sn) : Int)) (r + 4) 1 (h.2.1 i : Int)) (r + 4) 2 (hd : Int)) (r + 4) 3 (h.2.2.1 i : Int)) (r + 4) 4 (h.2.2.2 i : Int)) (q := 51) dX6_may_50 (am_rul_k4 hr) (by omega) (by omega) rfl rfl ?_
  refine rn_aload (x := r + 4) (q := 53) dX6_may_51 rfl rfl ?_
  refine rn_iconst (q := 54) dX6_may_53 (am_okd rfl) rfl ?_
  refine rn_iload_n (x := (n : Int)) (q := 55) dX6_may_54 rfl rfl ?_
  refine rn_bipush (q := 57) dX6_may_55 ⟨by decide, by decide⟩ rfl ?_
  refine rn_iremN (z := ((n % 7 : Nat) : Int)) (q := 58) dX6_may_57 (by decide) hm7 (by unfold am_ok; omega) rfl ?_
  refine rn_iastV (a := (r + 4)) (m1 := am_up (am_up (am_up (am_up (am_up (am_up mem (r + 4) 0 (sg (n % sn) : Int)) (r + 4) 1 (h.2.1 i : Int)) (r + 4) 2 (hd : Int)) (r + 4) 3 (h.2.2.1 i : Int)) (r + 4) 4 (h.2.2.2 i : Int)) (r + 4) 5 ((n % 7 : Nat) : Int)) (q := 59) dX6_may_58 (am_rul_k4 hr) (by omega) (by omega) rfl rfl ?_
  refine rn_aload (x := r + 4) (q := 61) dX6_may_59 rfl rfl ?_
  refine rn_bipush (q := 63) dX6_may_61 ⟨by decide, by decide⟩ rfl ?_
  refine rn_iload (x := (ct : Int)) (q := 65) dX6_may_63 rfl rfl ?_
  refine rn_iastV (a := (r + 4)) (m1 := am_up (am_up (am_up (am_up (am_up (am_up (am_up mem (r + 4) 0 (sg (n % sn) : Int)) (r + 4) 1 (h.2.1 i : Int)) (r + 4) 2 (hd : Int)) (r + 4) 3 (h.2.2.1 i : Int)) (r + 4) 4 (h.2.2.2 i : Int)) (r + 4) 5 ((n % 7 : Nat) : Int)) (r + 4) 6 (ct : Int)) (q := 66) dX6_may_65 (am_rul_k4 hr) (by omega) (by omega) rfl rfl ?_
  refine s_may66 hr hok (f := fct h (sg (n % sn)) i hd n ct) (wt := (h.2.2.1 i : Int)) ⟨?_, fun j hj => ?_, hC.2.2⟩ (fun k hk => ?_) (fun k hk => ?_) (by omega) ?_ (fun m1 hm1 => ⟨rfl, fun b b3 b4 => ?_⟩)
  · (repeat rw [am_up_ne (by omega)]); exact hC.1
  · (repeat rw [am_up_ne (by omega)]); exact hC.2.1 j hj
  · have hk7 : k = 0 ∨ k = 1 ∨ k = 2 ∨ k = 3 ∨ k = 4 ∨ k = 5 ∨ k = 6 := by omega
    rcases hk7 with rfl | rfl | rfl | rfl | rfl | rfl | rfl <;> simp [am_up, fct]
  · have hk3 : k = 0 ∨ k = 1 ∨ k = 2 := by omega
    rcases hk3 with rfl | rfl | rfl
    · show 0 ≤ (sg (n % sn) : Int) ∧ (sg (n % sn) : Int) ≤ 1000000; omega
    · show 0 ≤ (h.2.1 i : Int) ∧ (h.2.1 i : Int) ≤ 1000000; omega
    · show 0 ≤ (hd : Int) ∧ (hd : Int) ≤ 1000000; omega
  · (repeat rw [am_up_ne (by omega)]); exact v2
  · rw [hm1 b b3]; (repeat rw [am_up_ne b4])
end P40
