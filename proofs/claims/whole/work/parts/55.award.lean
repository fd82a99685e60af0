/-! awards, rests -/
def por (s H : Nat → Nat) : Nat → Int
  | 0 => -1
  | i + 1 => if s i < H i ∧ (por s H i = -1 ∨ s i < s (por s H i).toNat) then (i : Int) else por s H i
theorem por_ok {s H : Nat → Nat} : ∀ i, por s H i = -1 ∨ (0 ≤ por s H i ∧ por s H i < i ∧ s (por s H i).toNat < H (por s H i).toNat) := by
  intro i
  induction i with
  | zero => exact Or.inl rfl
  | succ i ih =>
    rw [por]
    split
    · rename_i hc
      exact Or.inr ⟨by omega, by omega, by rw [Int.toNat_natCast]; exact hc.1⟩
    · rcases ih with ih | ih
      · exact Or.inl ih
      · exact Or.inr ⟨ih.1, by omega, ih.2.2⟩
def upN (s : Nat → Nat) (p : Nat) : Nat → Nat := fun j => if j = p then s j + 1 else s j
def awR (H : Nat → Nat) (n : Nat) : Nat → (Nat → Nat) → (Nat → Nat) × Nat
  | 0, s => (s, 0)
  | f + 1, s => if por s H n = -1 then (s, f + 1) else awR H n f (upN s (por s H n).toNat)
def rowN (s : Nat → Nat) (n : Nat) : List Int := (List.range n).map (fun i => (s i : Int))
theorem rowN_s {s : Nat → Nat} {n : Nat} : rowN s (n + 1) = rowN s n ++ [(s n : Int)] := by
  unfold rowN; rw [List.range_succ, List.map_append]; rfl
theorem rowN_l {s : Nat → Nat} {n : Nat} : (rowN s n).length = n := by unfold rowN; simp
section P55
variable {l : Launch} {G : am_G} {d : Nat} {r : Nat} {X : List Nat} {C : List Int} {sn : Nat} {sg : Nat → Nat} {h : hrs} {e : est} {NB : Nat} {mem m : am_M}
theorem c_addA {L : List Int} (hr : c_row L mem) (hl : L.length < 9) (x : Int) : am_Sm l G yX3_add mt_X3_add d [.inr (.inr 4), .inr (.inl x)] mem (fun q m => q = none ∧ c_row (L ++ [x]) m ∧ frS s8r mem m ∧ ∀ b k, (b == 3) = false → (b == 4) = false → m b k = mem b k) := by
  refine am_Sm_mono (s_Radd L.length hl hr.1 x) (fun r m hq => ?_)
  obtain ⟨rfl, rfl⟩ := hq
  refine ⟨rfl, ⟨?_, by simp; omega, fun i hi => ?_⟩, (frS.rf.up rfl).up rfl, fun b k h3 h4 => ?_⟩
  · rw [am_up_self]; simp
  · rw [lg_app hi]
    show am_up mem 4 L.length x 4 i = _
    rw [am_up_at]
    by_cases e : i = L.length
    · rw [if_pos e, if_pos e]
    · rw [if_neg e, if_neg e]; exact hr.2.2 i (by simp at hi; omega)
  · rw [am_up_ne (by simpa using h3), am_up_ne (by simpa using h4)]
theorem c_poorest (q : CQ r X C sn sg h e NB mem) {s : Nat → Nat} (hs : ∀ i, i < 8 → mem 79 i = (s i : Int)) : am_Sm l G yX8_poorest mt_X8_poorest d [.inr (.inr 1)] mem (am_rr (some (.inl (por s (eH e) h.1))) mem) := by
  refine am_enterQ (ls := [some (.inr (.inr 1)), none, none]) (by decide) rfl (Nat.le_of_ble_eq_true rfl) rfl (fun hok Q hQ => ?_)
  have b := q.bd
  have L : ∀ i : Nat, i ≤ h.1 → ∀ x : Int, x = por s (eH e) i → am_Rn l G mt_X8_poorest d 4 [some (.inr (.inr 1)), some (.inl x), some (.inl (i : Int))] [] mem Q := by
    refine am_dn h.1 (fun i hi ih x hx => ?_)
    have o := por_ok (s := s) (H := eH e) i
    rw [← hx] at o
    refine rn_iload_n (x := (i : Int)) (q := 5) dX8_poorest_4 rfl rfl ?_
    refine rn_aload_n (x := 0) (q := 6) dX8_poorest_5 rfl rfl ?_
    refine rn_get (a := 0) (v := .inr (.inr 6)) (q := 9) dX8_poorest_6 fl_X8_26 rfl rfl rfl ?_
    refine rn_get (a := 5) (v := .inl (h.1 : Int)) (q := 12) dX8_poorest_9 fl_X8_136 rfl (am_gi q.n) rfl ?_
    refine rn_cmpge (t := 60) (q := 15) dX8_poorest_12 rfl rfl (fun w12 => ?_) (fun w12 => ?_)
    · refine rn_iload_n (x := x) (q := 61) dX8_poorest_60 rfl rfl ?_
      refine rn_iret dX8_poorest_61 rfl ?_
      exact hQ _ _ ⟨by rw [hx, show i = h.1 by omega], rfl⟩
    · refine rn_aload_n (x := 0) (q := 16) dX8_poorest_15 rfl rfl ?_
      refine rn_get (a := 0) (v := .inr (.inr 80)) (q := 19) dX8_poorest_16 fl_X8_80 rfl rfl rfl ?_
      refine rn_iload_n (x := (i : Int)) (q := 20) dX8_poorest_19 rfl rfl ?_
      refine rn_ialdV (a := 79) (v := (s i : Int)) (q := 21) dX8_poorest_20 rfl (by omega) (by omega) (hs i (by omega)) rfl ?_
      refine rn_aload_n (x := 0) (q := 22) dX8_poorest_21 rfl rfl ?_
      refine rn_get (a := 0) (v := .inr (.inr 17)) (q := 25) dX8_poorest_22 fl_X8_33 rfl rfl rfl ?_
      refine rn_get (a := 16) (v := .inr (.inr 18)) (q := 28) dX8_poorest_25 fl_X8_159 rfl rfl rfl ?_
      refine rn_iload_n (x := (i : Int)) (q := 29) dX8_poorest_28 rfl rfl ?_
      refine rn_ialdV (a := 17) (v := (eH e i : Int)) (q := 30) dX8_poorest_29 rfl (by omega) (by omega) (q.hd (by omega)) rfl ?_
      refine rn_cmpge (t := 54) (q := 33) dX8_poorest_30 rfl rfl (fun w30 => ?_) (fun w30 => ?_)
      · refine rn_iincN (x := (i : Int)) (z := ((i + 1 : Nat) : Int)) (ls' := [some (.inr (.inr 1)), some (.inl x), some (.inl ((i + 1 : Nat) : Int))]) (q := 57) dX8_poorest_54 rfl (by decide) (by omega) (by unfold am_ok; omega) rfl rfl ?_
        refine rn_goto (t := 4) dX8_poorest_57 rfl ?_
        first | exact ih (by omega) _ (by rw [por, ← hx, if_pos ⟨by omega, by omega⟩]) | exact ih (by omega) _ (by rw [por, ← hx, if_neg (by omega)])
      · refine rn_iload_n (x := x) (q := 34) dX8_poorest_33 rfl rfl ?_
        refine rn_iflt (t := 52) (q := 37) dX8_poorest_34 rfl rfl (fun w34 => ?_) (fun w34 => ?_)
        · refine rn_iload_n (x := (i : Int)) (q := 53) dX8_poorest_52 rfl rfl ?_
          refine rn_istore_n (ls' := [some (.inr (.inr 1)), some (.inl (i : Int)), some (.inl (i : Int))]) (q := 54) dX8_poorest_53 (by decide) rfl rfl ?_
          refine rn_iincN (x := (i : Int)) (z := ((i + 1 : Nat) : Int)) (ls' := [some (.inr (.inr 1)), some (.inl (i : Int)), some (.inl ((i + 1 : Nat) : Int))]) (q := 57) dX8_poorest_54 rfl (by decide) (by omega) (by unfold am_ok; omega) rfl rfl ?_
          refine rn_goto (t := 4) dX8_poorest_57 rfl ?_
          first | exact ih (by omega) _ (by rw [por, ← hx, if_pos ⟨by omega, by omega⟩]) | exact ih (by omega) _ (by rw [por, ← hx, if_neg (by omega)])
        · refine rn_aload_n (x := 0) (q := 38) dX8_poorest_37 rfl rfl ?_
          refine rn_get (a := 0) (v := .inr (.inr 80)) (q := 41) dX8_poorest_38 fl_X8_80 rfl rfl rfl ?_
          refine rn_iload_n (x := (i : Int)) (q := 42) dX8_poorest_41 rfl rfl ?_
          refine rn_ialdV (a := 79) (v := (s i : Int)) (q := 43) dX8_poorest_42 rfl (by omega) (by omega) (hs i (by omega)) rfl ?_
          refine rn_aload_n (x := 0) (q := 44) dX8_poorest_43 rfl rfl ?_
          refine rn_get (a := 0) (v := .inr (.inr 80)) (q := 47) dX8_poorest_44 fl_X8_80 rfl rfl rfl ?_
          refine rn_iload_n (x := x) (q := 48) dX8_poorest_47 rfl rfl ?_
          refine rn_ialdV (a := 79) (v := (s x.toNat : Int)) (q := 49) dX8_poorest_48 rfl (by omega) (by omega) (hs x.toNat (by omega)) rfl ?_
          refine rn_cmpge (t := 54) (q := 52) dX8_poorest_49 rfl rfl (fun w49 => ?_) (fun w49 => ?_)
          · refine rn_iincN (x := (i : Int)) (z := ((i + 1 : Nat) : Int)) (ls' := [some (.inr (.inr 1)), some (.inl x), some (.inl ((i + 1 : Nat) : Int))]) (q := 57) dX8_poorest_54 rfl (by decide) (by omega) (by unfold am_ok; omega) rfl rfl ?_
            refine rn_goto (t := 4) dX8_poorest_57 rfl ?_
            first | exact ih (by omega) _ (by rw [por, ← hx, if_pos ⟨by omega, by omega⟩]) | exact ih (by omega) _ (by rw [por, ← hx, if_neg (by omega)])
          · refine rn_iload_n (x := (i : Int)) (q := 53) dX8_poorest_52 rfl rfl ?_
            refine rn_istore_n (ls' := [some (.inr (.inr 1)), some (.inl (i : Int)), some (.inl (i : Int))]) (q := 54) dX8_poorest_53 (by decide) rfl rfl ?_
            refine rn_iincN (x := (i : Int)) (z := ((i + 1 : Nat) : Int)) (ls' := [some (.inr (.inr 1)), some (.inl (i : Int)), some (.inl ((i + 1 : Nat) : Int))]) (q := 57) dX8_poorest_54 rfl (by decide) (by omega) (by unfold am_ok; omega) rfl rfl ?_
            refine rn_goto (t := 4) dX8_poorest_57 rfl ?_
            first | exact ih (by omega) _ (by rw [por, ← hx, if_pos ⟨by omega, by omega⟩]) | exact ih (by omega) _ (by rw [por, ← hx, if_neg (by omega)])
  refine rn_iconst (q := 1) dX8_poorest_0 (am_okd rfl) rfl ?_
  refine rn_istore_n (ls' := [some (.inr (.inr 1)), some (.inl (-1)), none]) (q := 2) dX8_poorest_1 (by decide) rfl rfl ?_
  refine rn_iconst (q := 3) dX8_poorest_2 (am_okd rfl) rfl ?_
  refine rn_istore_n (ls' := [some (.inr (.inr 1)), some (.inl (-1)), some (.inl 0)]) (q := 4) dX8_poorest_3 (by decide) rfl rfl ?_
  exact L 0 (Nat.zero_le _) _ rfl
theorem c_awards (q : CQ r X C sn sg h e NB mem) {R : List Int} (hR : c_row R mem) (v : Int) : am_Sm l G yX8_awards mt_X8_awards (d + 2) [.inr (.inr 1), .inl v] mem (fun q m => (¬ (0 ≤ v ∧ v ≤ 999) → QC (-1) R mem q m) ∧ (0 ≤ v ∧ v ≤ 999 → QC ((awR (eH e) h.1 v.toNat (fun _ => 0)).1 0 : Int) (rowN (awR (eH e) h.1 v.toNat (fun _ => 0)).1 h.1 ++ [((awR (eH e) h.1 v.toNat (fun _ => 0)).2 : Int)]) mem q m)) := by
  refine am_enterQ (ls := [some (.inr (.inr 1)), some (.inl v), none, none, none]) (by decide) rfl (Nat.le_of_ble_eq_true rfl) rfl (fun hok Q hQ => ?_)
  have b := q.bd
  have L3 : 0 ≤ v ∧ v ≤ 999 → ∀ (s : Nat → Nat) (f : Nat), f ≤ 999 → awR (eH e) h.1 v.toNat (fun _ => 0) = (s, f) → ∀ i : Nat, i ≤ h.1 → ∀ (m : am_M) (lx : Option am_V), frS s8r mem m → (∀ j, j < 8 → m 79 j = (s j : Int)) → c_row (rowN s i) m → am_Rn l G mt_X8_awards (d + 2) 93 [some (.inr (.inr 1)), some (.inl v), some (.inl (f : Int)), some (.inl (i : Int)), lx] [] m Q := by
    intro hv s f hf9 hA
    refine am_dn h.1 (fun i hi ih m lx hf hs hr => ?_)
    have hl := rowN_l (s := s) (n := i)
    refine rn_iload_n (x := (i : Int)) (q := 94) dX8_awards_93 rfl rfl ?_
    refine rn_aload_n (x := 0) (q := 95) dX8_awards_94 rfl rfl ?_
    refine rn_get (a := 0) (v := .inr (.inr 6)) (q := 98) dX8_awards_95 fl_X8_26 rfl rfl rfl ?_
    refine rn_get (a := 5) (v := .inl (h.1 : Int)) (q := 101) dX8_awards_98 fl_X8_136 rfl (am_gi (q.kept hf).n) rfl ?_
    refine rn_cmpge (t := 124) (q := 104) dX8_awards_101 rfl rfl (fun w101 => ?_) (fun w101 => ?_)
    · refine rn_aload_n (x := 0) (q := 125) dX8_awards_124 rfl rfl ?_
      refine rn_get (a := 0) (v := .inr (.inr 4)) (q := 128) dX8_awards_125 fl_X8_19 rfl rfl rfl ?_
      refine rn_iload_n (x := (f : Int)) (q := 129) dX8_awards_128 rfl rfl ?_
      refine rn_i2l (q := 130) dX8_awards_129 rfl ?_
      refine rn_callV (b := 3) (as := [.inr (.inl (f : Int))]) (rest := []) (q := 133) dX8_awards_130 ml_X8_334 sm_X3_add rfl rfl (by decide) (by omega) rfl rfl (Nat.le_of_ble_eq_true rfl) rfl (c_addA (d := d + 1) hr (by omega) (f : Int)) ?_
      intro r130 mem130 hq130
      obtain ⟨rfl, hr130, hf130, hf130a⟩ := hq130
      show am_Rn l G _ _ 133 [some (.inr (.inr 1)), some (.inl v), some (.inl (f : Int)), some (.inl (i : Int)), lx] [] mem130 _
      refine rn_aload_n (x := 0) (q := 134) dX8_awards_133 rfl rfl ?_
      refine rn_get (a := 0) (v := .inr (.inr 80)) (q := 137) dX8_awards_134 fl_X8_80 rfl rfl rfl ?_
      refine rn_iconst (q := 138) dX8_awards_137 (am_okd rfl) rfl ?_
      refine rn_ialdV (a := 79) (v := (s 0 : Int)) (q := 139) dX8_awards_138 rfl (by omega) (by omega) ((hf130a 79 0 rfl rfl).trans (hs 0 (by omega))) rfl ?_
      refine rn_iret dX8_awards_139 rfl ?_
      exact hQ _ _ ⟨fun hn => absurd hv hn, fun _ => by rw [hA]; exact ⟨rfl, (hf.tr hf130), by rw [show i = h.1 by omega] at hr130; exact hr130⟩⟩
    · refine rn_aload_n (x := 0) (q := 105) dX8_awards_104 rfl rfl ?_
      refine rn_get (a := 0) (v := .inr (.inr 4)) (q := 108) dX8_awards_105 fl_X8_19 rfl rfl rfl ?_
      refine rn_aload_n (x := 0) (q := 109) dX8_awards_108 rfl rfl ?_
      refine rn_get (a := 0) (v := .inr (.inr 80)) (q := 112) dX8_awards_109 fl_X8_80 rfl rfl rfl ?_
      refine rn_iload_n (x := (i : Int)) (q := 113) dX8_awards_112 rfl rfl ?_
      refine rn_ialdV (a := 79) (v := (s i : Int)) (q := 114) dX8_awards_113 rfl (by omega) (by omega) (hs i (by omega)) rfl ?_
      refine rn_i2l (q := 115) dX8_awards_114 rfl ?_
      refine rn_callV (b := 3) (as := [.inr (.inl (s i : Int))]) (rest := []) (q := 118) dX8_awards_115 ml_X8_334 sm_X3_add rfl rfl (by decide) (by omega) rfl rfl (Nat.le_of_ble_eq_true rfl) rfl (c_addA (d := d + 1) hr (by omega) (s i : Int)) ?_
      intro r115 mem115 hq115
      obtain ⟨rfl, hr115, hf115, hf115a⟩ := hq115
      show am_Rn l G _ _ 118 [some (.inr (.inr 1)), some (.inl v), some (.inl (f : Int)), some (.inl (i : Int)), lx] [] mem115 _
      refine rn_iincN (x := (i : Int)) (z := ((i + 1 : Nat) : Int)) (ls' := [some (.inr (.inr 1)), some (.inl v), some (.inl (f : Int)), some (.inl ((i + 1 : Nat) : Int)), lx]) (q := 121) dX8_awards_118 rfl (by decide) (by omega) (by unfold am_ok; omega) rfl rfl ?_
      refine rn_goto (t := 93) dX8_awards_121 rfl ?_
      exact ih (by omega) _ _ (hf.tr hf115) (fun j hj => (hf115a 79 j rfl rfl).trans (hs j hj)) (by rw [rowN_s]; exact hr115)
  have L2 : 0 ≤ v ∧ v ≤ 999 → ∀ (f c : Nat) (s : Nat → Nat) (m : am_M) (lx : Option am_V), c + f = v.toNat → frS s8r mem m → (∀ j, j < 8 → m 79 j = (s j : Int)) → (∀ j, s j ≤ 99) → awR (eH e) h.1 v.toNat (fun _ => 0) = awR (eH e) h.1 f s → am_Rn l G mt_X8_awards (d + 2) 38 [some (.inr (.inr 1)), some (.inl v), some (.inl (f : Int)), some (.inl (c : Int)), lx] [] m Q := by
    intro hv f
    induction f with
    | zero =>
      intro c s m lx hc hf hs hs9 hA
      refine rn_iload_n (x := (c : Int)) (q := 39) dX8_awards_38 rfl rfl ?_
      refine rn_iload_n (x := v) (q := 40) dX8_awards_39 rfl rfl ?_
      refine rn_cmpge (t := 84) (q := 43) dX8_awards_40 rfl rfl (fun w40 => ?_) (fun h => absurd h (by omega))
      refine rn_aload_n (x := 0) (q := 85) dX8_awards_84 rfl rfl ?_
      refine rn_get (a := 0) (v := .inr (.inr 4)) (q := 88) dX8_awards_85 fl_X8_19 rfl rfl rfl ?_
      refine rn_callV (b := 3) (as := []) (rest := []) (q := 91) dX8_awards_88 ml_X8_328 sm_X3_clear rfl rfl (by decide) (by omega) rfl rfl (Nat.le_of_ble_eq_true rfl) rfl (s_Rclear (d := d + 1) ) ?_
      intro r88 mem88 hq88
      obtain ⟨rfl, rfl⟩ := hq88
      show am_Rn l G _ _ 91 [some (.inr (.inr 1)), some (.inl v), some (.inl ((0 : Nat) : Int)), some (.inl (c : Int)), lx] [] (am_up m 3 1 0) _
      refine rn_iconst (q := 92) dX8_awards_91 (am_okd rfl) rfl ?_
      refine rn_istore_n (ls' := [some (.inr (.inr 1)), some (.inl v), some (.inl ((0 : Nat) : Int)), some (.inl 0), lx]) (q := 93) dX8_awards_92 (by decide) rfl rfl ?_
      exact L3 hv s 0 (by omega) hA 0 (Nat.zero_le _) _ _ (frS.up (a := 3) (k := 1) (x := 0) hf rfl) hs c_row0
    | succ f ih =>
      intro c s m lx hc hf hs hs9 hA
      have o := por_ok (s := s) (H := eH e) h.1
      by_cases hp : por s (eH e) h.1 = -1
      · rw [awR, if_pos hp] at hA
        refine rn_iload_n (x := (c : Int)) (q := 39) dX8_awards_38 rfl rfl ?_
        refine rn_iload_n (x := v) (q := 40) dX8_awards_39 rfl rfl ?_
        refine rn_cmpge (t := 84) (q := 43) dX8_awards_40 rfl rfl (fun h => absurd h (by omega)) (fun w40 => ?_)
        refine rn_aload_n (x := 0) (q := 44) dX8_awards_43 rfl rfl ?_
        refine rn_callV (b := 0) (as := []) (rest := []) (q := 47) dX8_awards_44 ml_X8_351 sm_X8_poorest rfl rfl (by decide) (by omega) rfl rfl (Nat.le_of_ble_eq_true rfl) rfl (c_poorest (d := d + 1) (q.kept hf) hs) ?_
        intro r44 mem44 hq44
        obtain ⟨rfl, rfl⟩ := hq44
        show am_Rn l G _ _ 47 [some (.inr (.inr 1)), some (.inl v), some (.inl ((f + 1 : Nat) : Int)), some (.inl (c : Int)), lx] [.inl (por s (eH e) h.1)] m _
        refine rn_istore (ls' := [some (.inr (.inr 1)), some (.inl v), some (.inl ((f + 1 : Nat) : Int)), some (.inl (c : Int)), some (.inl (por s (eH e) h.1))]) (q := 49) dX8_awards_47 (by decide) rfl rfl ?_
        refine rn_aload_n (x := 0) (q := 50) dX8_awards_49 rfl rfl ?_
        refine rn_get (a := 0) (v := .inr (.inr 6)) (q := 53) dX8_awards_50 fl_X8_26 rfl rfl rfl ?_
        refine rn_iload (x := (por s (eH e) h.1)) (q := 55) dX8_awards_53 rfl rfl ?_
        refine rn_callV (b := 5) (as := [.inl (por s (eH e) h.1)]) (rest := []) (q := 58) dX8_awards_55 ml_X8_175 sm_X6_has rfl rfl (by decide) (by omega) rfl rfl (Nat.le_of_ble_eq_true rfl) rfl (c_has (d := d + 1) (q.kept hf) (por s (eH e) h.1)) ?_
        intro r55 mem55 hq55
        obtain ⟨⟨rfl, hh55⟩ | ⟨rfl, hh55⟩, rfl⟩ := hq55
        · show am_Rn l G _ _ 58 [some (.inr (.inr 1)), some (.inl v), some (.inl ((f + 1 : Nat) : Int)), some (.inl (c : Int)), some (.inl (por s (eH e) h.1))] [.inl 1] m _
          refine rn_ifne (t := 64) (q := 61) dX8_awards_58 rfl rfl (fun w58 => ?_) (fun h => absurd h (by decide))
          exfalso; omega
        · show am_Rn l G _ _ 58 [some (.inr (.inr 1)), some (.inl v), some (.inl ((f + 1 : Nat) : Int)), some (.inl (c : Int)), some (.inl (por s (eH e) h.1))] [.inl 0] m _
          refine rn_ifne (t := 64) (q := 61) dX8_awards_58 rfl rfl (fun h => absurd h (by decide)) (fun w58 => ?_)
          refine rn_goto (t := 84) dX8_awards_61 rfl ?_
          refine rn_aload_n (x := 0) (q := 85) dX8_awards_84 rfl rfl ?_
          refine rn_get (a := 0) (v := .inr (.inr 4)) (q := 88) dX8_awards_85 fl_X8_19 rfl rfl rfl ?_
          refine rn_callV (b := 3) (as := []) (rest := []) (q := 91) dX8_awards_88 ml_X8_328 sm_X3_clear rfl rfl (by decide) (by omega) rfl rfl (Nat.le_of_ble_eq_true rfl) rfl (s_Rclear (d := d + 1) ) ?_
          intro r88 mem88 hq88
          obtain ⟨rfl, rfl⟩ := hq88
          show am_Rn l G _ _ 91 [some (.inr (.inr 1)), some (.inl v), some (.inl ((f + 1 : Nat) : Int)), some (.inl (c : Int)), some (.inl (por s (eH e) h.1))] [] (am_up m 3 1 0) _
          refine rn_iconst (q := 92) dX8_awards_91 (am_okd rfl) rfl ?_
          refine rn_istore_n (ls' := [some (.inr (.inr 1)), some (.inl v), some (.inl ((f + 1 : Nat) : Int)), some (.inl 0), some (.inl (por s (eH e) h.1))]) (q := 93) dX8_awards_92 (by decide) rfl rfl ?_
          exact L3 hv s (f + 1) (by omega) hA 0 (Nat.zero_le _) _ _ (frS.up (a := 3) (k := 1) (x := 0) hf rfl) hs c_row0
      · rw [awR, if_neg hp] at hA
        obtain ⟨p, ep⟩ : ∃ p : Nat, por s (eH e) h.1 = (p : Int) := ⟨(por s (eH e) h.1).toNat, by omega⟩
        rw [ep, Int.toNat_natCast] at hA o
        have h9 := q.hd9 p
        have s9 := hs9 p
        refine rn_iload_n (x := (c : Int)) (q := 39) dX8_awards_38 rfl rfl ?_
        refine rn_iload_n (x := v) (q := 40) dX8_awards_39 rfl rfl ?_
        refine rn_cmpge (t := 84) (q := 43) dX8_awards_40 rfl rfl (fun h => absurd h (by omega)) (fun w40 => ?_)
        refine rn_aload_n (x := 0) (q := 44) dX8_awards_43 rfl rfl ?_
        refine rn_callV (b := 0) (as := []) (rest := []) (q := 47) dX8_awards_44 ml_X8_351 sm_X8_poorest rfl rfl (by decide) (by omega) rfl rfl (Nat.le_of_ble_eq_true rfl) rfl (c_poorest (d := d + 1) (q.kept hf) hs) ?_
        intro r44 mem44 hq44
        obtain ⟨rfl, rfl⟩ := hq44
        show am_Rn l G _ _ 47 [some (.inr (.inr 1)), some (.inl v), some (.inl ((f + 1 : Nat) : Int)), some (.inl (c : Int)), lx] [.inl (por s (eH e) h.1)] m _
        rw [ep]
        refine rn_istore (ls' := [some (.inr (.inr 1)), some (.inl v), some (.inl ((f + 1 : Nat) : Int)), some (.inl (c : Int)), some (.inl (p : Int))]) (q := 49) dX8_awards_47 (by decide) rfl rfl ?_
        refine rn_aload_n (x := 0) (q := 50) dX8_awards_49 rfl rfl ?_
        refine rn_get (a := 0) (v := .inr (.inr 6)) (q := 53) dX8_awards_50 fl_X8_26 rfl rfl rfl ?_
        refine rn_iload (x := (p : Int)) (q := 55) dX8_awards_53 rfl rfl ?_
        refine rn_callV (b := 5) (as := [.inl (p : Int)]) (rest := []) (q := 58) dX8_awards_55 ml_X8_175 sm_X6_has rfl rfl (by decide) (by omega) rfl rfl (Nat.le_of_ble_eq_true rfl) rfl (c_has (d := d + 1) (q.kept hf) (p : Int)) ?_
        intro r55 mem55 hq55
        obtain ⟨⟨rfl, hh55⟩ | ⟨rfl, hh55⟩, rfl⟩ := hq55
        · show am_Rn l G _ _ 58 [some (.inr (.inr 1)), some (.inl v), some (.inl ((f + 1 : Nat) : Int)), some (.inl (c : Int)), some (.inl (p : Int))] [.inl 1] m _
          refine rn_ifne (t := 64) (q := 61) dX8_awards_58 rfl rfl (fun w58 => ?_) (fun h => absurd h (by decide))
          refine rn_aload_n (x := 0) (q := 65) dX8_awards_64 rfl rfl ?_
          refine rn_get (a := 0) (v := .inr (.inr 80)) (q := 68) dX8_awards_65 fl_X8_80 rfl rfl rfl ?_
          refine rn_iload (x := (p : Int)) (q := 70) dX8_awards_68 rfl rfl ?_
          refine rn_dup2 (q := 71) dX8_awards_70 rfl rfl rfl ?_
          refine rn_ialdV (a := 79) (v := (s p : Int)) (q := 72) dX8_awards_71 rfl (by omega) (by omega) (hs p (by omega)) rfl ?_
          refine rn_iconst (q := 73) dX8_awards_72 (am_okd rfl) rfl ?_
          refine rn_iaddN (z := (((s p) + 1 : Nat) : Int)) (q := 74) dX8_awards_73 (by omega) (by unfold am_ok; omega) rfl ?_
          refine rn_iastV (a := 79) (m1 := am_up m 79 p (((s p) + 1 : Nat) : Int)) (q := 75) dX8_awards_74 rfl (by omega) (by omega) rfl rfl ?_
          refine rn_iincN (x := ((f + 1 : Nat) : Int)) (z := (f : Int)) (ls' := [some (.inr (.inr 1)), some (.inl v), some (.inl (f : Int)), some (.inl (c : Int)), some (.inl (p : Int))]) (q := 78) dX8_awards_75 rfl (by decide) (by omega) (by unfold am_ok; omega) rfl rfl ?_
          refine rn_iincN (x := (c : Int)) (z := ((c + 1 : Nat) : Int)) (ls' := [some (.inr (.inr 1)), some (.inl v), some (.inl (f : Int)), some (.inl ((c + 1 : Nat) : Int)), some (.inl (p : Int))]) (q := 81) dX8_awards_78 rfl (by decide) (by omega) (by unfold am_ok; omega) rfl rfl ?_
          refine rn_goto (t := 38) dX8_awards_81 rfl ?_
          refine ih (c + 1) (upN s p) _ _ (by omega) (frS.up (a := 79) (k := p) (x := (((s p) + 1 : Nat) : Int)) hf rfl) (fun j hj => ?_) (fun j => ?_) hA
          · unfold upN
            rw [am_up_at]
            by_cases ej : j = p
            · rw [if_pos ej, if_pos ej, ej]
            · rw [if_neg ej, if_neg ej]; exact hs j hj
          · unfold upN
            have := hs9 j
            split
            · rename_i ej; subst ej; omega
            · exact this
        · show am_Rn l G _ _ 58 [some (.inr (.inr 1)), some (.inl v), some (.inl ((f + 1 : Nat) : Int)), some (.inl (c : Int)), some (.inl (p : Int))] [.inl 0] m _
          refine rn_ifne (t := 64) (q := 61) dX8_awards_58 rfl rfl (fun h => absurd h (by decide)) (fun w58 => ?_)
          exfalso; omega
  have L1 : 0 ≤ v ∧ v ≤ 999 → ∀ i : Nat, i ≤ 8 → ∀ m : am_M, frS s8r mem m → (∀ j, j < i → m 79 j = 0) → am_Rn l G mt_X8_awards (d + 2) 15 [some (.inr (.inr 1)), some (.inl v), some (.inl (i : Int)), none, none] [] m Q := by
    intro hv
    refine am_dn 8 (fun i hi ih m hf hs => ?_)
    refine rn_iload_n (x := (i : Int)) (q := 16) dX8_awards_15 rfl rfl ?_
    refine rn_bipush (q := 18) dX8_awards_16 ⟨by decide, by decide⟩ rfl ?_
    refine rn_cmpge (t := 34) (q := 21) dX8_awards_18 rfl rfl (fun w18 => ?_) (fun w18 => ?_)
    · have hvn : v = (v.toNat : Int) := by omega
      refine rn_iload_n (x := v) (q := 35) dX8_awards_34 rfl rfl ?_
      refine rn_istore_n (ls' := [some (.inr (.inr 1)), some (.inl v), some (.inl v), none, none]) (q := 36) dX8_awards_35 (by decide) rfl rfl ?_
      refine rn_iconst (q := 37) dX8_awards_36 (am_okd rfl) rfl ?_
      refine rn_istore_n (ls' := [some (.inr (.inr 1)), some (.inl v), some (.inl v), some (.inl 0), none]) (q := 38) dX8_awards_37 (by decide) rfl rfl ?_
      have hvn : v = (v.toNat : Int) := by omega
      have := L2 hv v.toNat 0 (fun _ => 0) m none (by omega) hf (fun j hj => hs j (by omega)) (fun _ => by omega) rfl
      rw [← hvn] at this
      exact this
    · refine rn_aload_n (x := 0) (q := 22) dX8_awards_21 rfl rfl ?_
      refine rn_get (a := 0) (v := .inr (.inr 80)) (q := 25) dX8_awards_22 fl_X8_80 rfl rfl rfl ?_
      refine rn_iload_n (x := (i : Int)) (q := 26) dX8_awards_25 rfl rfl ?_
      refine rn_iconst (q := 27) dX8_awards_26 (am_okd rfl) rfl ?_
      refine rn_iastV (a := 79) (m1 := am_up m 79 i 0) (q := 28) dX8_awards_27 rfl (by omega) (by omega) rfl rfl ?_
      refine rn_iincN (x := (i : Int)) (z := ((i + 1 : Nat) : Int)) (ls' := [some (.inr (.inr 1)), some (.inl v), some (.inl ((i + 1 : Nat) : Int)), none, none]) (q := 31) dX8_awards_28 rfl (by decide) (by omega) (by unfold am_ok; omega) rfl rfl ?_
      refine rn_goto (t := 15) dX8_awards_31 rfl ?_
      refine ih (by omega) _ (frS.up (a := 79) (k := i) (x := 0) hf rfl) (fun j hj => ?_)
      rw [am_up_at]
      by_cases ej : j = i
      · rw [if_pos ej]
      · rw [if_neg ej]; exact hs j (by omega)
  refine rn_iload_n (x := v) (q := 1) dX8_awards_0 rfl rfl ?_
  refine rn_iflt (t := 11) (q := 4) dX8_awards_1 rfl rfl (fun w1 => ?_) (fun w1 => ?_)
  · refine rn_iconst (q := 12) dX8_awards_11 (am_okd rfl) rfl ?_
    refine rn_iret dX8_awards_12 rfl ?_
    exact hQ _ _ ⟨fun _ => ⟨rfl, frS.rf, hR⟩, fun hn => by omega⟩
  · refine rn_iload_n (x := v) (q := 5) dX8_awards_4 rfl rfl ?_
    refine rn_sipush (q := 8) dX8_awards_5 ⟨by decide, by decide⟩ rfl ?_
    refine rn_cmple (t := 13) (q := 11) dX8_awards_8 rfl rfl (fun w8 => ?_) (fun w8 => ?_)
    · refine rn_iconst (q := 14) dX8_awards_13 (am_okd rfl) rfl ?_
      refine rn_istore_n (ls' := [some (.inr (.inr 1)), some (.inl v), some (.inl 0), none, none]) (q := 15) dX8_awards_14 (by decide) rfl rfl ?_
      exact L1 (by omega) 0 (Nat.zero_le _) mem frS.rf (fun j hj => absurd hj (Nat.not_lt_zero _))
    · refine rn_iconst (q := 12) dX8_awards_11 (am_okd rfl) rfl ?_
      refine rn_iret dX8_awards_12 rfl ?_
      exact hQ _ _ ⟨fun _ => ⟨rfl, frS.rf, hR⟩, fun hn => by omega⟩
end P55
