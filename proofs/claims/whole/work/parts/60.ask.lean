/-! fits, ask -/
def isSoP (h : hrs) (e : est) (i : Nat) (w v : Int) : Prop := (w = 0 ∧ (h.2.1 i : Int) = v) ∨ (w = 1 ∧ v ≤ (h.2.2.1 i : Int)) ∨ (w = 2 ∧ (eH e i : Int) ≤ v) ∨ (w = 3 ∧ (0 < eS e i ↔ v = 1)) ∨ (w = 4 ∧ (h.2.2.2 i : Int) = v)
def y_ok (Y : List (Int × Int)) : Prop := ∀ j, j < Y.length → 0 ≤ (Y.getD j (0, 0)).1 ∧ (Y.getD j (0, 0)).1 ≤ 4
noncomputable def fsB (h : hrs) (e : est) (Y : List (Int × Int)) (i : Nat) : Bool := @decide (∀ j, j < Y.length → isSoP h e i (Y.getD j (0, 0)).1 (Y.getD j (0, 0)).2) (Classical.propDecidable _)
noncomputable def susp (h : hrs) (e : est) (Y : List (Int × Int)) : Nat := bitsF (fsB h e Y) h.1
def akC (b : Nat) (py : Nat → Nat) (v : Nat) : Nat → Nat
  | 0 => 0
  | i + 1 => akC b py v i + (if b.testBit i = true ∧ py i ≤ v then 1 else 0)
def akF (b : Nat) (py : Nat → Nat) (n v : Nat) : Nat := max (akC b py v n) (pc b - akC b py v n)
theorem akC_fl {b : Nat} {py : Nat → Nat} {v : Nat} : ∀ i, akC b py v i ≤ ((List.range i).filter (fun i => b.testBit i)).length := by
  intro i
  induction i with
  | zero => exact Nat.le_refl _
  | succ i ih =>
    rw [akC, List.range_succ, List.filter_append, List.length_append]
    by_cases hb : b.testBit i = true
    · have : ((List.filter (fun i => b.testBit i) [i]).length) = 1 := by simp [hb]
      rw [this]
      split <;> omega
    · rw [if_neg (fun z => hb z.1)]
      omega
theorem fl_mono {b i : Nat} : ∀ j, ((List.range i).filter (fun i => b.testBit i)).length ≤ ((List.range (i + j)).filter (fun i => b.testBit i)).length := by
  intro j
  induction j with
  | zero => exact Nat.le_refl _
  | succ j ih => rw [← Nat.add_assoc, List.range_succ, List.filter_append, List.length_append]; omega
theorem akC_le {b : Nat} {py : Nat → Nat} {v i : Nat} (hi : i ≤ 10) : akC b py v i ≤ pc b := by
  have h1 := akC_fl (b := b) (py := py) (v := v) i
  have h2 := fl_mono (b := b) (i := i) (10 - i)
  rw [show i + (10 - i) = 10 by omega] at h2
  unfold pc
  omega
theorem pc_zero : ∀ b, b < 256 → (pc b = 0 ↔ b = 0) := by decide +kernel
theorem susp_lt {h : hrs} {e : est} {Y : List (Int × Int)} (h8 : h.1 ≤ 8) : susp h e Y < 256 := Nat.lt_of_lt_of_le (bitsF_lt _) (p2_8 h8)
noncomputable def askA (h : hrs) (e : est) (Y : List (Int × Int)) : Int := if susp h e Y = 0 then -2 else (tri (akF (susp h e Y) h.2.2.2 h.1) 10).1
noncomputable def askR (R : List Int) (h : hrs) (e : est) (Y : List (Int × Int)) : List Int := if susp h e Y = 0 then R else [(tri (akF (susp h e Y) h.2.2.2 h.1) 10).2]
theorem fsB_t {h : hrs} {e : est} {Y : List (Int × Int)} {i : Nat} : fsB h e Y i = true ↔ ∀ j, j < Y.length → isSoP h e i (Y.getD j (0, 0)).1 (Y.getD j (0, 0)).2 := by unfold fsB; exact @decide_eq_true_iff _ (Classical.propDecidable _)
section P60
variable {l : Launch} {G : am_G} {d : Nat} {r : Nat} {X : List Nat} {C : List Int} {sn : Nat} {sg : Nat → Nat} {h : hrs} {e : est} {NB : Nat} {mem m : am_M}
variable {Y : List (Int × Int)}
theorem s_isSo (q : CQ r X C sn sg h e NB mem) (i : Nat) (hi : i < h.1) (w v : Int) (hw : 0 ≤ w ∧ w ≤ 4) : am_Sm l G yX8_isSo mt_X8_isSo d [.inr (.inr 1), .inl (i : Int), .inl w, .inl v] mem (fun q m => ((q = some (.inl 1) ∧ isSoP h e i w v) ∨ (q = some (.inl 0) ∧ ¬ isSoP h e i w v)) ∧ mem = m) := by
  refine am_enterQ (ls := [some (.inr (.inr 1)), some (.inl (i : Int)), some (.inl w), some (.inl v)]) (by decide) rfl (Nat.le_of_ble_eq_true rfl) rfl (fun hok Q hQ => ?_)
  have b := q.bd
  refine rn_iload_n (x := w) (q := 1) dX8_isSo_0 rfl rfl ?_
  by_cases sw0 : w = 0
  · subst sw0
    refine rn_tabIn (o1 := 31) (t := 32) dX8_isSo_1 (by decide) (by decide) rfl rfl ?_
    refine rn_aload_n (x := 0) (q := 33) dX8_isSo_32 rfl rfl ?_
    refine rn_get (a := 0) (v := .inr (.inr 6)) (q := 36) dX8_isSo_33 fl_X8_26 rfl rfl rfl ?_
    refine rn_get (a := 5) (v := .inr (.inr 8)) (q := 39) dX8_isSo_36 fl_X8_150 rfl rfl rfl ?_
    refine rn_iload_n (x := (i : Int)) (q := 40) dX8_isSo_39 rfl rfl ?_
    refine rn_ialdV (a := 7) (v := (h.2.1 i : Int)) (q := 41) dX8_isSo_40 rfl (by omega) (by omega) (q.sort (by omega)) rfl ?_
    refine rn_iload_n (x := v) (q := 42) dX8_isSo_41 rfl rfl ?_
    refine rn_cmpne (t := 49) (q := 45) dX8_isSo_42 rfl rfl (fun w42 => ?_) (fun w42 => ?_)
    · refine rn_iconst (q := 50) dX8_isSo_49 (am_okd rfl) rfl ?_
      refine rn_zret dX8_isSo_50 rfl (by omega) ?_
      exact hQ _ _ ⟨by unfold isSoP; first | exact Or.inl ⟨rfl, by omega⟩ | exact Or.inr ⟨rfl, by omega⟩, rfl⟩
    · refine rn_iconst (q := 46) dX8_isSo_45 (am_okd rfl) rfl ?_
      refine rn_goto (t := 50) dX8_isSo_46 rfl ?_
      refine rn_zret dX8_isSo_50 rfl (by omega) ?_
      exact hQ _ _ ⟨by unfold isSoP; first | exact Or.inl ⟨rfl, by omega⟩ | exact Or.inr ⟨rfl, by omega⟩, rfl⟩
  · by_cases sw1 : w = 1
    · subst sw1
      refine rn_tabIn (o1 := 50) (t := 51) dX8_isSo_1 (by decide) (by decide) rfl rfl ?_
      refine rn_aload_n (x := 0) (q := 52) dX8_isSo_51 rfl rfl ?_
      refine rn_get (a := 0) (v := .inr (.inr 6)) (q := 55) dX8_isSo_52 fl_X8_26 rfl rfl rfl ?_
      refine rn_get (a := 5) (v := .inr (.inr 9)) (q := 58) dX8_isSo_55 fl_X8_153 rfl rfl rfl ?_
      refine rn_iload_n (x := (i : Int)) (q := 59) dX8_isSo_58 rfl rfl ?_
      refine rn_ialdV (a := 8) (v := (h.2.2.1 i : Int)) (q := 60) dX8_isSo_59 rfl (by omega) (by omega) (q.want (by omega)) rfl ?_
      refine rn_iload_n (x := v) (q := 61) dX8_isSo_60 rfl rfl ?_
      refine rn_cmplt (t := 68) (q := 64) dX8_isSo_61 rfl rfl (fun w61 => ?_) (fun w61 => ?_)
      · refine rn_iconst (q := 69) dX8_isSo_68 (am_okd rfl) rfl ?_
        refine rn_zret dX8_isSo_69 rfl (by omega) ?_
        exact hQ _ _ ⟨by unfold isSoP; first | exact Or.inl ⟨rfl, by omega⟩ | exact Or.inr ⟨rfl, by omega⟩, rfl⟩
      · refine rn_iconst (q := 65) dX8_isSo_64 (am_okd rfl) rfl ?_
        refine rn_goto (t := 69) dX8_isSo_65 rfl ?_
        refine rn_zret dX8_isSo_69 rfl (by omega) ?_
        exact hQ _ _ ⟨by unfold isSoP; first | exact Or.inl ⟨rfl, by omega⟩ | exact Or.inr ⟨rfl, by omega⟩, rfl⟩
    · by_cases sw2 : w = 2
      · subst sw2
        refine rn_tabIn (o1 := 69) (t := 70) dX8_isSo_1 (by decide) (by decide) rfl rfl ?_
        refine rn_aload_n (x := 0) (q := 71) dX8_isSo_70 rfl rfl ?_
        refine rn_get (a := 0) (v := .inr (.inr 17)) (q := 74) dX8_isSo_71 fl_X8_33 rfl rfl rfl ?_
        refine rn_get (a := 16) (v := .inr (.inr 18)) (q := 77) dX8_isSo_74 fl_X8_159 rfl rfl rfl ?_
        refine rn_iload_n (x := (i : Int)) (q := 78) dX8_isSo_77 rfl rfl ?_
        refine rn_ialdV (a := 17) (v := (eH e i : Int)) (q := 79) dX8_isSo_78 rfl (by omega) (by omega) (q.hd (by omega)) rfl ?_
        refine rn_iload_n (x := v) (q := 80) dX8_isSo_79 rfl rfl ?_
        refine rn_cmpgt (t := 87) (q := 83) dX8_isSo_80 rfl rfl (fun w80 => ?_) (fun w80 => ?_)
        · refine rn_iconst (q := 88) dX8_isSo_87 (am_okd rfl) rfl ?_
          refine rn_zret dX8_isSo_88 rfl (by omega) ?_
          exact hQ _ _ ⟨by unfold isSoP; first | exact Or.inl ⟨rfl, by omega⟩ | exact Or.inr ⟨rfl, by omega⟩, rfl⟩
        · refine rn_iconst (q := 84) dX8_isSo_83 (am_okd rfl) rfl ?_
          refine rn_goto (t := 88) dX8_isSo_84 rfl ?_
          refine rn_zret dX8_isSo_88 rfl (by omega) ?_
          exact hQ _ _ ⟨by unfold isSoP; first | exact Or.inl ⟨rfl, by omega⟩ | exact Or.inr ⟨rfl, by omega⟩, rfl⟩
      · by_cases sw3 : w = 3
        · subst sw3
          refine rn_tabIn (o1 := 88) (t := 89) dX8_isSo_1 (by decide) (by decide) rfl rfl ?_
          refine rn_aload_n (x := 0) (q := 90) dX8_isSo_89 rfl rfl ?_
          refine rn_get (a := 0) (v := .inr (.inr 17)) (q := 93) dX8_isSo_90 fl_X8_33 rfl rfl rfl ?_
          refine rn_get (a := 16) (v := .inr (.inr 19)) (q := 96) dX8_isSo_93 fl_X8_162 rfl rfl rfl ?_
          refine rn_iload_n (x := (i : Int)) (q := 97) dX8_isSo_96 rfl rfl ?_
          refine rn_ialdV (a := 18) (v := (eS e i : Int)) (q := 98) dX8_isSo_97 rfl (by omega) (by omega) (q.sc (by omega)) rfl ?_
          refine rn_ifle (t := 105) (q := 101) dX8_isSo_98 rfl rfl (fun w98 => ?_) (fun w98 => ?_)
          · refine rn_iconst (q := 106) dX8_isSo_105 (am_okd rfl) rfl ?_
            refine rn_iload_n (x := v) (q := 107) dX8_isSo_106 rfl rfl ?_
            refine rn_iconst (q := 108) dX8_isSo_107 (am_okd rfl) rfl ?_
            refine rn_cmpne (t := 115) (q := 111) dX8_isSo_108 rfl rfl (fun w108 => ?_) (fun w108 => ?_)
            · refine rn_iconst (q := 116) dX8_isSo_115 (am_okd rfl) rfl ?_
              refine rn_cmpne (t := 123) (q := 119) dX8_isSo_116 rfl rfl (fun h => absurd h (by decide)) (fun w116 => ?_)
              refine rn_iconst (q := 120) dX8_isSo_119 (am_okd rfl) rfl ?_
              refine rn_goto (t := 124) dX8_isSo_120 rfl ?_
              refine rn_zret dX8_isSo_124 rfl (by omega) ?_
              exact hQ _ _ ⟨by unfold isSoP; first | exact Or.inl ⟨rfl, by omega⟩ | exact Or.inr ⟨rfl, by omega⟩, rfl⟩
            · refine rn_iconst (q := 112) dX8_isSo_111 (am_okd rfl) rfl ?_
              refine rn_goto (t := 116) dX8_isSo_112 rfl ?_
              refine rn_cmpne (t := 123) (q := 119) dX8_isSo_116 rfl rfl (fun w116 => ?_) (fun h => absurd h (by decide))
              refine rn_iconst (q := 124) dX8_isSo_123 (am_okd rfl) rfl ?_
              refine rn_zret dX8_isSo_124 rfl (by omega) ?_
              exact hQ _ _ ⟨by unfold isSoP; first | exact Or.inl ⟨rfl, by omega⟩ | exact Or.inr ⟨rfl, by omega⟩, rfl⟩
          · refine rn_iconst (q := 102) dX8_isSo_101 (am_okd rfl) rfl ?_
            refine rn_goto (t := 106) dX8_isSo_102 rfl ?_
            refine rn_iload_n (x := v) (q := 107) dX8_isSo_106 rfl rfl ?_
            refine rn_iconst (q := 108) dX8_isSo_107 (am_okd rfl) rfl ?_
            refine rn_cmpne (t := 115) (q := 111) dX8_isSo_108 rfl rfl (fun w108 => ?_) (fun w108 => ?_)
            · refine rn_iconst (q := 116) dX8_isSo_115 (am_okd rfl) rfl ?_
              refine rn_cmpne (t := 123) (q := 119) dX8_isSo_116 rfl rfl (fun w116 => ?_) (fun h => absurd h (by decide))
              refine rn_iconst (q := 124) dX8_isSo_123 (am_okd rfl) rfl ?_
              refine rn_zret dX8_isSo_124 rfl (by omega) ?_
              exact hQ _ _ ⟨by unfold isSoP; first | exact Or.inl ⟨rfl, by omega⟩ | exact Or.inr ⟨rfl, by omega⟩, rfl⟩
            · refine rn_iconst (q := 112) dX8_isSo_111 (am_okd rfl) rfl ?_
              refine rn_goto (t := 116) dX8_isSo_112 rfl ?_
              refine rn_cmpne (t := 123) (q := 119) dX8_isSo_116 rfl rfl (fun h => absurd h (by decide)) (fun w116 => ?_)
              refine rn_iconst (q := 120) dX8_isSo_119 (am_okd rfl) rfl ?_
              refine rn_goto (t := 124) dX8_isSo_120 rfl ?_
              refine rn_zret dX8_isSo_124 rfl (by omega) ?_
              exact hQ _ _ ⟨by unfold isSoP; first | exact Or.inl ⟨rfl, by omega⟩ | exact Or.inr ⟨rfl, by omega⟩, rfl⟩
        · refine rn_tabOut (t := 125) dX8_isSo_1 (by omega) rfl ?_
          refine rn_aload_n (x := 0) (q := 126) dX8_isSo_125 rfl rfl ?_
          refine rn_get (a := 0) (v := .inr (.inr 6)) (q := 129) dX8_isSo_126 fl_X8_26 rfl rfl rfl ?_
          refine rn_get (a := 5) (v := .inr (.inr 10)) (q := 132) dX8_isSo_129 fl_X8_156 rfl rfl rfl ?_
          refine rn_iload_n (x := (i : Int)) (q := 133) dX8_isSo_132 rfl rfl ?_
          refine rn_ialdV (a := 9) (v := (h.2.2.2 i : Int)) (q := 134) dX8_isSo_133 rfl (by omega) (by omega) (q.pay (by omega)) rfl ?_
          refine rn_iload_n (x := v) (q := 135) dX8_isSo_134 rfl rfl ?_
          refine rn_cmpne (t := 142) (q := 138) dX8_isSo_135 rfl rfl (fun w135 => ?_) (fun w135 => ?_)
          · refine rn_iconst (q := 143) dX8_isSo_142 (am_okd rfl) rfl ?_
            refine rn_zret dX8_isSo_143 rfl (by omega) ?_
            exact hQ _ _ ⟨by unfold isSoP; first | exact Or.inl ⟨rfl, by omega⟩ | exact Or.inr ⟨rfl, by omega⟩, rfl⟩
          · refine rn_iconst (q := 139) dX8_isSo_138 (am_okd rfl) rfl ?_
            refine rn_goto (t := 143) dX8_isSo_139 rfl ?_
            refine rn_zret dX8_isSo_143 rfl (by omega) ?_
            exact hQ _ _ ⟨by unfold isSoP; first | exact Or.inl ⟨rfl, by omega⟩ | exact Or.inr ⟨rfl, by omega⟩, rfl⟩
theorem s_fitsP (q : DQ X sn sg h e NB mem) (i : Nat) (hi : i < h.1) (w v : Int) (hw : 0 ≤ w ∧ w ≤ 4) : am_Sm l G yX9_fits mt_X9_fits d [.inr (.inr 96), .inl (i : Int), .inl w, .inl v] mem (fun q m => ((q = some (.inl 1) ∧ isSoP h e i w v) ∨ (q = some (.inl 0) ∧ ¬ isSoP h e i w v)) ∧ mem = m) := by
  refine am_enterQ (ls := [some (.inr (.inr 96)), some (.inl (i : Int)), some (.inl w), some (.inl v)]) (by decide) rfl (Nat.le_of_ble_eq_true rfl) rfl (fun hok Q hQ => ?_)
  have b := q.bd
  refine rn_iload_n (x := w) (q := 1) dX9_fits_0 rfl rfl ?_
  by_cases sw0 : w = 0
  · subst sw0
    refine rn_tabIn (o1 := 31) (t := 32) dX9_fits_1 (by decide) (by decide) rfl rfl ?_
    refine rn_aload_n (x := 95) (q := 33) dX9_fits_32 rfl rfl ?_
    refine rn_get (a := 95) (v := .inr (.inr 98)) (q := 36) dX9_fits_33 fl_X9_13 rfl rfl rfl ?_
    refine rn_iload_n (x := (i : Int)) (q := 37) dX9_fits_36 rfl rfl ?_
    refine rn_ialdV (a := 97) (v := (h.2.1 i : Int)) (q := 38) dX9_fits_37 rfl (by omega) (by omega) (q.sort (by omega)) rfl ?_
    refine rn_iload_n (x := v) (q := 39) dX9_fits_38 rfl rfl ?_
    refine rn_cmpne (t := 46) (q := 42) dX9_fits_39 rfl rfl (fun w39 => ?_) (fun w39 => ?_)
    · refine rn_iconst (q := 47) dX9_fits_46 (am_okd rfl) rfl ?_
      refine rn_zret dX9_fits_47 rfl (by omega) ?_
      exact hQ _ _ ⟨by unfold isSoP; first | exact Or.inl ⟨rfl, by omega⟩ | exact Or.inr ⟨rfl, by omega⟩, rfl⟩
    · refine rn_iconst (q := 43) dX9_fits_42 (am_okd rfl) rfl ?_
      refine rn_goto (t := 47) dX9_fits_43 rfl ?_
      refine rn_zret dX9_fits_47 rfl (by omega) ?_
      exact hQ _ _ ⟨by unfold isSoP; first | exact Or.inl ⟨rfl, by omega⟩ | exact Or.inr ⟨rfl, by omega⟩, rfl⟩
  · by_cases sw1 : w = 1
    · subst sw1
      refine rn_tabIn (o1 := 47) (t := 48) dX9_fits_1 (by decide) (by decide) rfl rfl ?_
      refine rn_aload_n (x := 95) (q := 49) dX9_fits_48 rfl rfl ?_
      refine rn_get (a := 95) (v := .inr (.inr 99)) (q := 52) dX9_fits_49 fl_X9_16 rfl rfl rfl ?_
      refine rn_iload_n (x := (i : Int)) (q := 53) dX9_fits_52 rfl rfl ?_
      refine rn_ialdV (a := 98) (v := (h.2.2.1 i : Int)) (q := 54) dX9_fits_53 rfl (by omega) (by omega) (q.want (by omega)) rfl ?_
      refine rn_iload_n (x := v) (q := 55) dX9_fits_54 rfl rfl ?_
      refine rn_cmplt (t := 62) (q := 58) dX9_fits_55 rfl rfl (fun w55 => ?_) (fun w55 => ?_)
      · refine rn_iconst (q := 63) dX9_fits_62 (am_okd rfl) rfl ?_
        refine rn_zret dX9_fits_63 rfl (by omega) ?_
        exact hQ _ _ ⟨by unfold isSoP; first | exact Or.inl ⟨rfl, by omega⟩ | exact Or.inr ⟨rfl, by omega⟩, rfl⟩
      · refine rn_iconst (q := 59) dX9_fits_58 (am_okd rfl) rfl ?_
        refine rn_goto (t := 63) dX9_fits_59 rfl ?_
        refine rn_zret dX9_fits_63 rfl (by omega) ?_
        exact hQ _ _ ⟨by unfold isSoP; first | exact Or.inl ⟨rfl, by omega⟩ | exact Or.inr ⟨rfl, by omega⟩, rfl⟩
    · by_cases sw2 : w = 2
      · subst sw2
        refine rn_tabIn (o1 := 63) (t := 64) dX9_fits_1 (by decide) (by decide) rfl rfl ?_
        refine rn_aload_n (x := 95) (q := 65) dX9_fits_64 rfl rfl ?_
        refine rn_get (a := 95) (v := .inr (.inr 97)) (q := 68) dX9_fits_65 fl_X9_9 rfl rfl rfl ?_
        refine rn_iload_n (x := (i : Int)) (q := 69) dX9_fits_68 rfl rfl ?_
        refine rn_ialdV (a := 96) (v := (eH e i : Int)) (q := 70) dX9_fits_69 rfl (by omega) (by omega) (q.hd (by omega)) rfl ?_
        refine rn_iload_n (x := v) (q := 71) dX9_fits_70 rfl rfl ?_
        refine rn_cmpgt (t := 78) (q := 74) dX9_fits_71 rfl rfl (fun w71 => ?_) (fun w71 => ?_)
        · refine rn_iconst (q := 79) dX9_fits_78 (am_okd rfl) rfl ?_
          refine rn_zret dX9_fits_79 rfl (by omega) ?_
          exact hQ _ _ ⟨by unfold isSoP; first | exact Or.inl ⟨rfl, by omega⟩ | exact Or.inr ⟨rfl, by omega⟩, rfl⟩
        · refine rn_iconst (q := 75) dX9_fits_74 (am_okd rfl) rfl ?_
          refine rn_goto (t := 79) dX9_fits_75 rfl ?_
          refine rn_zret dX9_fits_79 rfl (by omega) ?_
          exact hQ _ _ ⟨by unfold isSoP; first | exact Or.inl ⟨rfl, by omega⟩ | exact Or.inr ⟨rfl, by omega⟩, rfl⟩
      · by_cases sw3 : w = 3
        · subst sw3
          refine rn_tabIn (o1 := 79) (t := 80) dX9_fits_1 (by decide) (by decide) rfl rfl ?_
          refine rn_aload_n (x := 95) (q := 81) dX9_fits_80 rfl rfl ?_
          refine rn_get (a := 95) (v := .inr (.inr 97)) (q := 84) dX9_fits_81 fl_X9_9 rfl rfl rfl ?_
          refine rn_bipush (q := 86) dX9_fits_84 ⟨by decide, by decide⟩ rfl ?_
          refine rn_iload_n (x := (i : Int)) (q := 87) dX9_fits_86 rfl rfl ?_
          refine rn_iaddN (z := ((8 + i : Nat) : Int)) (q := 88) dX9_fits_87 (by omega) (by unfold am_ok; omega) rfl ?_
          refine rn_ialdV (a := 96) (v := (eS e i : Int)) (q := 89) dX9_fits_88 rfl (by omega) (by omega) (q.sc (by omega)) rfl ?_
          refine rn_ifle (t := 96) (q := 92) dX9_fits_89 rfl rfl (fun w89 => ?_) (fun w89 => ?_)
          · refine rn_iconst (q := 97) dX9_fits_96 (am_okd rfl) rfl ?_
            refine rn_iload_n (x := v) (q := 98) dX9_fits_97 rfl rfl ?_
            refine rn_iconst (q := 99) dX9_fits_98 (am_okd rfl) rfl ?_
            refine rn_cmpne (t := 106) (q := 102) dX9_fits_99 rfl rfl (fun w99 => ?_) (fun w99 => ?_)
            · refine rn_iconst (q := 107) dX9_fits_106 (am_okd rfl) rfl ?_
              refine rn_cmpne (t := 114) (q := 110) dX9_fits_107 rfl rfl (fun h => absurd h (by decide)) (fun w107 => ?_)
              refine rn_iconst (q := 111) dX9_fits_110 (am_okd rfl) rfl ?_
              refine rn_goto (t := 115) dX9_fits_111 rfl ?_
              refine rn_zret dX9_fits_115 rfl (by omega) ?_
              exact hQ _ _ ⟨by unfold isSoP; first | exact Or.inl ⟨rfl, by omega⟩ | exact Or.inr ⟨rfl, by omega⟩, rfl⟩
            · refine rn_iconst (q := 103) dX9_fits_102 (am_okd rfl) rfl ?_
              refine rn_goto (t := 107) dX9_fits_103 rfl ?_
              refine rn_cmpne (t := 114) (q := 110) dX9_fits_107 rfl rfl (fun w107 => ?_) (fun h => absurd h (by decide))
              refine rn_iconst (q := 115) dX9_fits_114 (am_okd rfl) rfl ?_
              refine rn_zret dX9_fits_115 rfl (by omega) ?_
              exact hQ _ _ ⟨by unfold isSoP; first | exact Or.inl ⟨rfl, by omega⟩ | exact Or.inr ⟨rfl, by omega⟩, rfl⟩
          · refine rn_iconst (q := 93) dX9_fits_92 (am_okd rfl) rfl ?_
            refine rn_goto (t := 97) dX9_fits_93 rfl ?_
            refine rn_iload_n (x := v) (q := 98) dX9_fits_97 rfl rfl ?_
            refine rn_iconst (q := 99) dX9_fits_98 (am_okd rfl) rfl ?_
            refine rn_cmpne (t := 106) (q := 102) dX9_fits_99 rfl rfl (fun w99 => ?_) (fun w99 => ?_)
            · refine rn_iconst (q := 107) dX9_fits_106 (am_okd rfl) rfl ?_
              refine rn_cmpne (t := 114) (q := 110) dX9_fits_107 rfl rfl (fun w107 => ?_) (fun h => absurd h (by decide))
              refine rn_iconst (q := 115) dX9_fits_114 (am_okd rfl) rfl ?_
              refine rn_zret dX9_fits_115 rfl (by omega) ?_
              exact hQ _ _ ⟨by unfold isSoP; first | exact Or.inl ⟨rfl, by omega⟩ | exact Or.inr ⟨rfl, by omega⟩, rfl⟩
            · refine rn_iconst (q := 103) dX9_fits_102 (am_okd rfl) rfl ?_
              refine rn_goto (t := 107) dX9_fits_103 rfl ?_
              refine rn_cmpne (t := 114) (q := 110) dX9_fits_107 rfl rfl (fun h => absurd h (by decide)) (fun w107 => ?_)
              refine rn_iconst (q := 111) dX9_fits_110 (am_okd rfl) rfl ?_
              refine rn_goto (t := 115) dX9_fits_111 rfl ?_
              refine rn_zret dX9_fits_115 rfl (by omega) ?_
              exact hQ _ _ ⟨by unfold isSoP; first | exact Or.inl ⟨rfl, by omega⟩ | exact Or.inr ⟨rfl, by omega⟩, rfl⟩
        · refine rn_tabOut (t := 116) dX9_fits_1 (by omega) rfl ?_
          refine rn_aload_n (x := 95) (q := 117) dX9_fits_116 rfl rfl ?_
          refine rn_get (a := 95) (v := .inr (.inr 100)) (q := 120) dX9_fits_117 fl_X9_19 rfl rfl rfl ?_
          refine rn_iload_n (x := (i : Int)) (q := 121) dX9_fits_120 rfl rfl ?_
          refine rn_ialdV (a := 99) (v := (h.2.2.2 i : Int)) (q := 122) dX9_fits_121 rfl (by omega) (by omega) (q.pay (by omega)) rfl ?_
          refine rn_iload_n (x := v) (q := 123) dX9_fits_122 rfl rfl ?_
          refine rn_cmpne (t := 130) (q := 126) dX9_fits_123 rfl rfl (fun w123 => ?_) (fun w123 => ?_)
          · refine rn_iconst (q := 131) dX9_fits_130 (am_okd rfl) rfl ?_
            refine rn_zret dX9_fits_131 rfl (by omega) ?_
            exact hQ _ _ ⟨by unfold isSoP; first | exact Or.inl ⟨rfl, by omega⟩ | exact Or.inr ⟨rfl, by omega⟩, rfl⟩
          · refine rn_iconst (q := 127) dX9_fits_126 (am_okd rfl) rfl ?_
            refine rn_goto (t := 131) dX9_fits_127 rfl ?_
            refine rn_zret dX9_fits_131 rfl (by omega) ?_
            exact hQ _ _ ⟨by unfold isSoP; first | exact Or.inl ⟨rfl, by omega⟩ | exact Or.inr ⟨rfl, by omega⟩, rfl⟩
theorem c_suspects (q : CQ r X C sn sg h e NB mem) (hY : c_said 68 Y mem) (yo : y_ok Y) : am_Sm l G yX8_suspects mt_X8_suspects (d + 1) [.inr (.inr 1)] mem (am_rr (some (.inl (susp h e Y : Int))) mem) := by
  refine am_enterQ (ls := [some (.inr (.inr 1)), none, none, none, none]) (by decide) rfl (Nat.le_of_ble_eq_true rfl) rfl (fun hok Q hQ => ?_)
  have b := q.bd
  obtain ⟨t1, t2, t3⟩ := hY
  have L : ∀ i : Nat, i ≤ h.1 → ∀ (s : Nat) (lx ly : Option am_V), s = bitsF (fsB h e Y) i → am_Rn l G mt_X8_suspects (d + 1) 4 [some (.inr (.inr 1)), some (.inl (s : Int)), some (.inl (i : Int)), lx, ly] [] mem Q := by
    refine am_dn h.1 (fun i hi ih s lx ly hs => ?_)
    have o := bitsF_lt (f := fsB h e Y) i
    rw [← hs] at o
    have p8 := p2_8 (show i ≤ 8 by omega)
    have K : i < h.1 → ∀ j : Nat, j ≤ Y.length → ∀ z : Int, (z = 1 ∧ ∀ k, k < j → isSoP h e i (Y.getD k (0, 0)).1 (Y.getD k (0, 0)).2) ∨ (z = 0 ∧ ¬ ∀ k, k < Y.length → isSoP h e i (Y.getD k (0, 0)).1 (Y.getD k (0, 0)).2) → am_Rn l G mt_X8_suspects (d + 1) 20 [some (.inr (.inr 1)), some (.inl (s : Int)), some (.inl (i : Int)), some (.inl z), some (.inl (j : Int))] [] mem Q := by
      intro hlt
      refine am_dn Y.length (fun j hj ih2 z hz => ?_)
      by_cases hjn : j < Y.length
      · have yj := yo j hjn
        refine rn_iload (x := (j : Int)) (q := 22) dX8_suspects_20 rfl rfl ?_
        refine rn_aload_n (x := 0) (q := 23) dX8_suspects_22 rfl rfl ?_
        refine rn_get (a := 0) (v := .inr (.inr 69)) (q := 26) dX8_suspects_23 fl_X8_65 rfl rfl rfl ?_
        refine rn_get (a := 68) (v := .inl (Y.length : Int)) (q := 29) dX8_suspects_26 fl_X8_385 rfl (am_gi t1) rfl ?_
        refine rn_cmpge (t := 76) (q := 32) dX8_suspects_29 rfl rfl (fun h => absurd h (by omega)) (fun w29 => ?_)
        refine rn_iload_n (x := z) (q := 33) dX8_suspects_32 rfl rfl ?_
        refine rn_ifeq (t := 68) (q := 36) dX8_suspects_33 rfl rfl (fun w33 => ?_) (fun w33 => ?_)
        · refine rn_iconst (q := 69) dX8_suspects_68 (am_okd rfl) rfl ?_
          refine rn_istore_n (ls' := [some (.inr (.inr 1)), some (.inl (s : Int)), some (.inl (i : Int)), some (.inl 0), some (.inl (j : Int))]) (q := 70) dX8_suspects_69 (by decide) rfl rfl ?_
          refine rn_iincN (x := (j : Int)) (z := ((j + 1 : Nat) : Int)) (ls' := [some (.inr (.inr 1)), some (.inl (s : Int)), some (.inl (i : Int)), some (.inl 0), some (.inl ((j + 1 : Nat) : Int))]) (q := 73) dX8_suspects_70 rfl (by decide) (by omega) (by unfold am_ok; omega) rfl rfl ?_
          refine rn_goto (t := 20) dX8_suspects_73 rfl ?_
          first | exact ih2 hjn _ (Or.inr ⟨rfl, fun w => hc58 (w j hjn)⟩) | exact ih2 hjn _ (Or.inl ⟨rfl, fun k hk => by rcases hz with hz | hz; by_cases e2 : k = j; rw [e2]; exact hc58; exact hz.2 k (by omega); exact absurd hz.1 w33⟩) | exact ih2 hjn _ (Or.inr (by rcases hz with hz | hz; omega; exact ⟨rfl, hz.2⟩))
        · refine rn_aload_n (x := 0) (q := 37) dX8_suspects_36 rfl rfl ?_
          refine rn_iload_n (x := (i : Int)) (q := 38) dX8_suspects_37 rfl rfl ?_
          refine rn_aload_n (x := 0) (q := 39) dX8_suspects_38 rfl rfl ?_
          refine rn_get (a := 0) (v := .inr (.inr 69)) (q := 42) dX8_suspects_39 fl_X8_65 rfl rfl rfl ?_
          refine rn_get (a := 68) (v := .inr (.inr 70)) (q := 45) dX8_suspects_42 fl_X8_389 rfl rfl rfl ?_
          refine rn_iload (x := (j : Int)) (q := 47) dX8_suspects_45 rfl rfl ?_
          refine rn_ialdV (a := 69) (v := (Y.getD j (0, 0)).1) (q := 48) dX8_suspects_47 rfl (by omega) (by omega) (t3 j hjn).1 rfl ?_
          refine rn_aload_n (x := 0) (q := 49) dX8_suspects_48 rfl rfl ?_
          refine rn_get (a := 0) (v := .inr (.inr 69)) (q := 52) dX8_suspects_49 fl_X8_65 rfl rfl rfl ?_
          refine rn_get (a := 68) (v := .inr (.inr 71)) (q := 55) dX8_suspects_52 fl_X8_395 rfl rfl rfl ?_
          refine rn_iload (x := (j : Int)) (q := 57) dX8_suspects_55 rfl rfl ?_
          refine rn_ialdV (a := 70) (v := (Y.getD j (0, 0)).2) (q := 58) dX8_suspects_57 rfl (by omega) (by omega) (t3 j hjn).2 rfl ?_
          refine rn_callV (b := 0) (as := [.inl (i : Int), .inl ((Y.getD j (0, 0)).1), .inl ((Y.getD j (0, 0)).2)]) (rest := []) (q := 61) dX8_suspects_58 ml_X8_413 sm_X8_isSo rfl rfl (by decide) (by omega) rfl rfl (Nat.le_of_ble_eq_true rfl) rfl (s_isSo (d := d + 0) q i hlt ((Y.getD j (0, 0)).1) ((Y.getD j (0, 0)).2) yj) ?_
          intro r58 mem58 hq58
          obtain ⟨⟨rfl, hc58⟩ | ⟨rfl, hc58⟩, rfl⟩ := hq58
          · show am_Rn l G _ _ 61 [some (.inr (.inr 1)), some (.inl (s : Int)), some (.inl (i : Int)), some (.inl z), some (.inl (j : Int))] [.inl 1] mem _
            refine rn_ifeq (t := 68) (q := 64) dX8_suspects_61 rfl rfl (fun h => absurd h (by decide)) (fun w61 => ?_)
            refine rn_iconst (q := 65) dX8_suspects_64 (am_okd rfl) rfl ?_
            refine rn_goto (t := 69) dX8_suspects_65 rfl ?_
            refine rn_istore_n (ls' := [some (.inr (.inr 1)), some (.inl (s : Int)), some (.inl (i : Int)), some (.inl 1), some (.inl (j : Int))]) (q := 70) dX8_suspects_69 (by decide) rfl rfl ?_
            refine rn_iincN (x := (j : Int)) (z := ((j + 1 : Nat) : Int)) (ls' := [some (.inr (.inr 1)), some (.inl (s : Int)), some (.inl (i : Int)), some (.inl 1), some (.inl ((j + 1 : Nat) : Int))]) (q := 73) dX8_suspects_70 rfl (by decide) (by omega) (by unfold am_ok; omega) rfl rfl ?_
            refine rn_goto (t := 20) dX8_suspects_73 rfl ?_
            first | exact ih2 hjn _ (Or.inr ⟨rfl, fun w => hc58 (w j hjn)⟩) | exact ih2 hjn _ (Or.inl ⟨rfl, fun k hk => by rcases hz with hz | hz; by_cases e2 : k = j; rw [e2]; exact hc58; exact hz.2 k (by omega); exact absurd hz.1 w33⟩) | exact ih2 hjn _ (Or.inr (by rcases hz with hz | hz; omega; exact ⟨rfl, hz.2⟩))
          · show am_Rn l G _ _ 61 [some (.inr (.inr 1)), some (.inl (s : Int)), some (.inl (i : Int)), some (.inl z), some (.inl (j : Int))] [.inl 0] mem _
            refine rn_ifeq (t := 68) (q := 64) dX8_suspects_61 rfl rfl (fun w61 => ?_) (fun h => absurd h (by decide))
            refine rn_iconst (q := 69) dX8_suspects_68 (am_okd rfl) rfl ?_
            refine rn_istore_n (ls' := [some (.inr (.inr 1)), some (.inl (s : Int)), some (.inl (i : Int)), some (.inl 0), some (.inl (j : Int))]) (q := 70) dX8_suspects_69 (by decide) rfl rfl ?_
            refine rn_iincN (x := (j : Int)) (z := ((j + 1 : Nat) : Int)) (ls' := [some (.inr (.inr 1)), some (.inl (s : Int)), some (.inl (i : Int)), some (.inl 0), some (.inl ((j + 1 : Nat) : Int))]) (q := 73) dX8_suspects_70 rfl (by decide) (by omega) (by unfold am_ok; omega) rfl rfl ?_
            refine rn_goto (t := 20) dX8_suspects_73 rfl ?_
            first | exact ih2 hjn _ (Or.inr ⟨rfl, fun w => hc58 (w j hjn)⟩) | exact ih2 hjn _ (Or.inl ⟨rfl, fun k hk => by rcases hz with hz | hz; by_cases e2 : k = j; rw [e2]; exact hc58; exact hz.2 k (by omega); exact absurd hz.1 w33⟩) | exact ih2 hjn _ (Or.inr (by rcases hz with hz | hz; omega; exact ⟨rfl, hz.2⟩))
      · obtain rfl : j = Y.length := by omega
        refine rn_iload (x := (Y.length : Int)) (q := 22) dX8_suspects_20 rfl rfl ?_
        refine rn_aload_n (x := 0) (q := 23) dX8_suspects_22 rfl rfl ?_
        refine rn_get (a := 0) (v := .inr (.inr 69)) (q := 26) dX8_suspects_23 fl_X8_65 rfl rfl rfl ?_
        refine rn_get (a := 68) (v := .inl (Y.length : Int)) (q := 29) dX8_suspects_26 fl_X8_385 rfl (am_gi t1) rfl ?_
        refine rn_cmpge (t := 76) (q := 32) dX8_suspects_29 rfl rfl (fun w29 => ?_) (fun h => absurd h (by omega))
        refine rn_iload_n (x := z) (q := 77) dX8_suspects_76 rfl rfl ?_
        refine rn_ifeq (t := 86) (q := 80) dX8_suspects_77 rfl rfl (fun w77 => ?_) (fun w77 => ?_)
        · refine rn_iincN (x := (i : Int)) (z := ((i + 1 : Nat) : Int)) (ls' := [some (.inr (.inr 1)), some (.inl (s : Int)), some (.inl ((i + 1 : Nat) : Int)), some (.inl z), some (.inl (Y.length : Int))]) (q := 89) dX8_suspects_86 rfl (by decide) (by omega) (by unfold am_ok; omega) rfl rfl ?_
          refine rn_goto (t := 4) dX8_suspects_89 rfl ?_
          first | exact ih hlt _ _ _ (by rw [bitsF, ← hs, if_pos (fsB_t.mpr (by rcases hz with hz | hz; exact hz.2; exact absurd hz.1 w77))]) | exact ih hlt _ _ _ (by rw [bitsF, ← hs, if_neg (fun w => by rcases hz with hz | hz; omega; exact hz.2 (fsB_t.mp w))])
        · refine rn_iload_n (x := (s : Int)) (q := 81) dX8_suspects_80 rfl rfl ?_
          refine rn_iconst (q := 82) dX8_suspects_81 (am_okd rfl) rfl ?_
          refine rn_iload_n (x := (i : Int)) (q := 83) dX8_suspects_82 rfl rfl ?_
          refine rn_ishl (q := 84) dX8_suspects_83 rfl ?_
          rw [show am_shl 1 (i : Int) = ((2 ^ i : Nat) : Int) from am_shl1 _ (by omega)]
          refine rn_ior (q := 85) dX8_suspects_84 rfl ?_
          rw [show am_or (s : Int) ((2 ^ i : Nat) : Int) = ((s + 2 ^ i : Nat) : Int) from or_up (by omega) (by omega)]
          refine rn_istore_n (ls' := [some (.inr (.inr 1)), some (.inl ((s + 2 ^ i : Nat) : Int)), some (.inl (i : Int)), some (.inl z), some (.inl (Y.length : Int))]) (q := 86) dX8_suspects_85 (by decide) rfl rfl ?_
          refine rn_iincN (x := (i : Int)) (z := ((i + 1 : Nat) : Int)) (ls' := [some (.inr (.inr 1)), some (.inl ((s + 2 ^ i : Nat) : Int)), some (.inl ((i + 1 : Nat) : Int)), some (.inl z), some (.inl (Y.length : Int))]) (q := 89) dX8_suspects_86 rfl (by decide) (by omega) (by unfold am_ok; omega) rfl rfl ?_
          refine rn_goto (t := 4) dX8_suspects_89 rfl ?_
          first | exact ih hlt _ _ _ (by rw [bitsF, ← hs, if_pos (fsB_t.mpr (by rcases hz with hz | hz; exact hz.2; exact absurd hz.1 w77))]) | exact ih hlt _ _ _ (by rw [bitsF, ← hs, if_neg (fun w => by rcases hz with hz | hz; omega; exact hz.2 (fsB_t.mp w))])
    refine rn_iload_n (x := (i : Int)) (q := 5) dX8_suspects_4 rfl rfl ?_
    refine rn_aload_n (x := 0) (q := 6) dX8_suspects_5 rfl rfl ?_
    refine rn_get (a := 0) (v := .inr (.inr 6)) (q := 9) dX8_suspects_6 fl_X8_26 rfl rfl rfl ?_
    refine rn_get (a := 5) (v := .inl (h.1 : Int)) (q := 12) dX8_suspects_9 fl_X8_136 rfl (am_gi q.n) rfl ?_
    refine rn_cmpge (t := 92) (q := 15) dX8_suspects_12 rfl rfl (fun w12 => ?_) (fun w12 => ?_)
    · refine rn_iload_n (x := (s : Int)) (q := 93) dX8_suspects_92 rfl rfl ?_
      refine rn_iret dX8_suspects_93 rfl ?_
      exact hQ _ _ ⟨by rw [hs, show i = h.1 by omega]; rfl, rfl⟩
    · refine rn_iconst (q := 16) dX8_suspects_15 (am_okd rfl) rfl ?_
      refine rn_istore_n (ls' := [some (.inr (.inr 1)), some (.inl (s : Int)), some (.inl (i : Int)), some (.inl 1), ly]) (q := 17) dX8_suspects_16 (by decide) rfl rfl ?_
      refine rn_iconst (q := 18) dX8_suspects_17 (am_okd rfl) rfl ?_
      refine rn_istore (ls' := [some (.inr (.inr 1)), some (.inl (s : Int)), some (.inl (i : Int)), some (.inl 1), some (.inl 0)]) (q := 20) dX8_suspects_18 (by decide) rfl rfl ?_
      exact K (by omega) 0 (Nat.zero_le _) _ (Or.inl ⟨rfl, fun k hk => absurd hk (Nat.not_lt_zero _)⟩)
  refine rn_iconst (q := 1) dX8_suspects_0 (am_okd rfl) rfl ?_
  refine rn_istore_n (ls' := [some (.inr (.inr 1)), some (.inl 0), none, none, none]) (q := 2) dX8_suspects_1 (by decide) rfl rfl ?_
  refine rn_iconst (q := 3) dX8_suspects_2 (am_okd rfl) rfl ?_
  refine rn_istore_n (ls' := [some (.inr (.inr 1)), some (.inl 0), some (.inl 0), none, none]) (q := 4) dX8_suspects_3 (by decide) rfl rfl ?_
  exact L 0 (Nat.zero_le _) 0 _ _ rfl
theorem m_fitting (q : DQ X sn sg h e NB mem) (hY : m_told Y mem) (yo : y_ok Y) : am_Sm l G yX9_fitting mt_X9_fitting (d + 1) [.inr (.inr 96)] mem (am_rr (some (.inl (susp h e Y : Int))) mem) := by
  refine am_enterQ (ls := [some (.inr (.inr 96)), none, none, none, none]) (by decide) rfl (Nat.le_of_ble_eq_true rfl) rfl (fun hok Q hQ => ?_)
  have b := q.bd
  obtain ⟨t1, t2, t3⟩ := hY
  have L : ∀ i : Nat, i ≤ h.1 → ∀ (s : Nat) (lx ly : Option am_V), s = bitsF (fsB h e Y) i → am_Rn l G mt_X9_fitting (d + 1) 4 [some (.inr (.inr 96)), some (.inl (s : Int)), some (.inl (i : Int)), lx, ly] [] mem Q := by
    refine am_dn h.1 (fun i hi ih s lx ly hs => ?_)
    have o := bitsF_lt (f := fsB h e Y) i
    rw [← hs] at o
    have p8 := p2_8 (show i ≤ 8 by omega)
    have K : i < h.1 → ∀ j : Nat, j ≤ Y.length → ∀ z : Int, (z = 1 ∧ ∀ k, k < j → isSoP h e i (Y.getD k (0, 0)).1 (Y.getD k (0, 0)).2) ∨ (z = 0 ∧ ¬ ∀ k, k < Y.length → isSoP h e i (Y.getD k (0, 0)).1 (Y.getD k (0, 0)).2) → am_Rn l G mt_X9_fitting (d + 1) 17 [some (.inr (.inr 96)), some (.inl (s : Int)), some (.inl (i : Int)), some (.inl z), some (.inl (j : Int))] [] mem Q := by
      intro hlt
      refine am_dn Y.length (fun j hj ih2 z hz => ?_)
      by_cases hjn : j < Y.length
      · have yj := yo j hjn
        refine rn_iload (x := (j : Int)) (q := 19) dX9_fitting_17 rfl rfl ?_
        refine rn_aload_n (x := 95) (q := 20) dX9_fitting_19 rfl rfl ?_
        refine rn_get (a := 95) (v := .inl (Y.length : Int)) (q := 23) dX9_fitting_20 fl_X9_370 rfl (am_gi t1) rfl ?_
        refine rn_cmpge (t := 64) (q := 26) dX9_fitting_23 rfl rfl (fun h => absurd h (by omega)) (fun w23 => ?_)
        refine rn_iload_n (x := z) (q := 27) dX9_fitting_26 rfl rfl ?_
        refine rn_ifeq (t := 56) (q := 30) dX9_fitting_27 rfl rfl (fun w27 => ?_) (fun w27 => ?_)
        · refine rn_iconst (q := 57) dX9_fitting_56 (am_okd rfl) rfl ?_
          refine rn_istore_n (ls' := [some (.inr (.inr 96)), some (.inl (s : Int)), some (.inl (i : Int)), some (.inl 0), some (.inl (j : Int))]) (q := 58) dX9_fitting_57 (by decide) rfl rfl ?_
          refine rn_iincN (x := (j : Int)) (z := ((j + 1 : Nat) : Int)) (ls' := [some (.inr (.inr 96)), some (.inl (s : Int)), some (.inl (i : Int)), some (.inl 0), some (.inl ((j + 1 : Nat) : Int))]) (q := 61) dX9_fitting_58 rfl (by decide) (by omega) (by unfold am_ok; omega) rfl rfl ?_
          refine rn_goto (t := 17) dX9_fitting_61 rfl ?_
          first | exact ih2 hjn _ (Or.inr ⟨rfl, fun w => hc46 (w j hjn)⟩) | exact ih2 hjn _ (Or.inl ⟨rfl, fun k hk => by rcases hz with hz | hz; by_cases e2 : k = j; rw [e2]; exact hc46; exact hz.2 k (by omega); exact absurd hz.1 w27⟩) | exact ih2 hjn _ (Or.inr (by rcases hz with hz | hz; omega; exact ⟨rfl, hz.2⟩))
        · refine rn_aload_n (x := 95) (q := 31) dX9_fitting_30 rfl rfl ?_
          refine rn_iload_n (x := (i : Int)) (q := 32) dX9_fitting_31 rfl rfl ?_
          refine rn_aload_n (x := 95) (q := 33) dX9_fitting_32 rfl rfl ?_
          refine rn_get (a := 95) (v := .inr (.inr 122)) (q := 36) dX9_fitting_33 fl_X9_91 rfl rfl rfl ?_
          refine rn_iload (x := (j : Int)) (q := 38) dX9_fitting_36 rfl rfl ?_
          refine rn_ialdV (a := 121) (v := (Y.getD j (0, 0)).1) (q := 39) dX9_fitting_38 rfl (by omega) (by omega) (t3 j hjn).1 rfl ?_
          refine rn_aload_n (x := 95) (q := 40) dX9_fitting_39 rfl rfl ?_
          refine rn_get (a := 95) (v := .inr (.inr 123)) (q := 43) dX9_fitting_40 fl_X9_94 rfl rfl rfl ?_
          refine rn_iload (x := (j : Int)) (q := 45) dX9_fitting_43 rfl rfl ?_
          refine rn_ialdV (a := 122) (v := (Y.getD j (0, 0)).2) (q := 46) dX9_fitting_45 rfl (by omega) (by omega) (t3 j hjn).2 rfl ?_
          refine rn_callV (b := 95) (as := [.inl (i : Int), .inl ((Y.getD j (0, 0)).1), .inl ((Y.getD j (0, 0)).2)]) (rest := []) (q := 49) dX9_fitting_46 ml_X9_373 sm_X9_fits rfl rfl (by decide) (by omega) rfl rfl (Nat.le_of_ble_eq_true rfl) rfl (s_fitsP (d := d + 0) q i hlt ((Y.getD j (0, 0)).1) ((Y.getD j (0, 0)).2) yj) ?_
          intro r46 mem46 hq46
          obtain ⟨⟨rfl, hc46⟩ | ⟨rfl, hc46⟩, rfl⟩ := hq46
          · show am_Rn l G _ _ 49 [some (.inr (.inr 96)), some (.inl (s : Int)), some (.inl (i : Int)), some (.inl z), some (.inl (j : Int))] [.inl 1] mem _
            refine rn_ifeq (t := 56) (q := 52) dX9_fitting_49 rfl rfl (fun h => absurd h (by decide)) (fun w49 => ?_)
            refine rn_iconst (q := 53) dX9_fitting_52 (am_okd rfl) rfl ?_
            refine rn_goto (t := 57) dX9_fitting_53 rfl ?_
            refine rn_istore_n (ls' := [some (.inr (.inr 96)), some (.inl (s : Int)), some (.inl (i : Int)), some (.inl 1), some (.inl (j : Int))]) (q := 58) dX9_fitting_57 (by decide) rfl rfl ?_
            refine rn_iincN (x := (j : Int)) (z := ((j + 1 : Nat) : Int)) (ls' := [some (.inr (.inr 96)), some (.inl (s : Int)), some (.inl (i : Int)), some (.inl 1), some (.inl ((j + 1 : Nat) : Int))]) (q := 61) dX9_fitting_58 rfl (by decide) (by omega) (by unfold am_ok; omega) rfl rfl ?_
            refine rn_goto (t := 17) dX9_fitting_61 rfl ?_
            first | exact ih2 hjn _ (Or.inr ⟨rfl, fun w => hc46 (w j hjn)⟩) | exact ih2 hjn _ (Or.inl ⟨rfl, fun k hk => by rcases hz with hz | hz; by_cases e2 : k = j; rw [e2]; exact hc46; exact hz.2 k (by omega); exact absurd hz.1 w27⟩) | exact ih2 hjn _ (Or.inr (by rcases hz with hz | hz; omega; exact ⟨rfl, hz.2⟩))
          · show am_Rn l G _ _ 49 [some (.inr (.inr 96)), some (.inl (s : Int)), some (.inl (i : Int)), some (.inl z), some (.inl (j : Int))] [.inl 0] mem _
            refine rn_ifeq (t := 56) (q := 52) dX9_fitting_49 rfl rfl (fun w49 => ?_) (fun h => absurd h (by decide))
            refine rn_iconst (q := 57) dX9_fitting_56 (am_okd rfl) rfl ?_
            refine rn_istore_n (ls' := [some (.inr (.inr 96)), some (.inl (s : Int)), some (.inl (i : Int)), some (.inl 0), some (.inl (j : Int))]) (q := 58) dX9_fitting_57 (by decide) rfl rfl ?_
            refine rn_iincN (x := (j : Int)) (z := ((j + 1 : Nat) : Int)) (ls' := [some (.inr (.inr 96)), some (.inl (s : Int)), some (.inl (i : Int)), some (.inl 0), some (.inl ((j + 1 : Nat) : Int))]) (q := 61) dX9_fitting_58 rfl (by decide) (by omega) (by unfold am_ok; omega) rfl rfl ?_
            refine rn_goto (t := 17) dX9_fitting_61 rfl ?_
            first | exact ih2 hjn _ (Or.inr ⟨rfl, fun w => hc46 (w j hjn)⟩) | exact ih2 hjn _ (Or.inl ⟨rfl, fun k hk => by rcases hz with hz | hz; by_cases e2 : k = j; rw [e2]; exact hc46; exact hz.2 k (by omega); exact absurd hz.1 w27⟩) | exact ih2 hjn _ (Or.inr (by rcases hz with hz | hz; omega; exact ⟨rfl, hz.2⟩))
      · obtain rfl : j = Y.length := by omega
        refine rn_iload (x := (Y.length : Int)) (q := 19) dX9_fitting_17 rfl rfl ?_
        refine rn_aload_n (x := 95) (q := 20) dX9_fitting_19 rfl rfl ?_
        refine rn_get (a := 95) (v := .inl (Y.length : Int)) (q := 23) dX9_fitting_20 fl_X9_370 rfl (am_gi t1) rfl ?_
        refine rn_cmpge (t := 64) (q := 26) dX9_fitting_23 rfl rfl (fun w23 => ?_) (fun h => absurd h (by omega))
        refine rn_iload_n (x := (s : Int)) (q := 65) dX9_fitting_64 rfl rfl ?_
        refine rn_iload_n (x := z) (q := 66) dX9_fitting_65 rfl rfl ?_
        refine rn_ifeq (t := 75) (q := 69) dX9_fitting_66 rfl rfl (fun w66 => ?_) (fun w66 => ?_)
        · refine rn_iconst (q := 76) dX9_fitting_75 (am_okd rfl) rfl ?_
          refine rn_ior (q := 77) dX9_fitting_76 rfl ?_
          rw [show am_or (s : Int) 0 = (s : Int) from or_z (by omega)]
          refine rn_istore_n (ls' := [some (.inr (.inr 96)), some (.inl (s : Int)), some (.inl (i : Int)), some (.inl z), some (.inl (Y.length : Int))]) (q := 78) dX9_fitting_77 (by decide) rfl rfl ?_
          refine rn_iincN (x := (i : Int)) (z := ((i + 1 : Nat) : Int)) (ls' := [some (.inr (.inr 96)), some (.inl (s : Int)), some (.inl ((i + 1 : Nat) : Int)), some (.inl z), some (.inl (Y.length : Int))]) (q := 81) dX9_fitting_78 rfl (by decide) (by omega) (by unfold am_ok; omega) rfl rfl ?_
          refine rn_goto (t := 4) dX9_fitting_81 rfl ?_
          first | exact ih hlt _ _ _ (by rw [bitsF, ← hs, if_pos (fsB_t.mpr (by rcases hz with hz | hz; exact hz.2; exact absurd hz.1 w66))]) | exact ih hlt _ _ _ (by rw [bitsF, ← hs, if_neg (fun w => by rcases hz with hz | hz; omega; exact hz.2 (fsB_t.mp w))])
        · refine rn_iconst (q := 70) dX9_fitting_69 (am_okd rfl) rfl ?_
          refine rn_iload_n (x := (i : Int)) (q := 71) dX9_fitting_70 rfl rfl ?_
          refine rn_ishl (q := 72) dX9_fitting_71 rfl ?_
          rw [show am_shl 1 (i : Int) = ((2 ^ i : Nat) : Int) from am_shl1 _ (by omega)]
          refine rn_goto (t := 76) dX9_fitting_72 rfl ?_
          refine rn_ior (q := 77) dX9_fitting_76 rfl ?_
          rw [show am_or (s : Int) ((2 ^ i : Nat) : Int) = ((s + 2 ^ i : Nat) : Int) from or_up (by omega) (by omega)]
          refine rn_istore_n (ls' := [some (.inr (.inr 96)), some (.inl ((s + 2 ^ i : Nat) : Int)), some (.inl (i : Int)), some (.inl z), some (.inl (Y.length : Int))]) (q := 78) dX9_fitting_77 (by decide) rfl rfl ?_
          refine rn_iincN (x := (i : Int)) (z := ((i + 1 : Nat) : Int)) (ls' := [some (.inr (.inr 96)), some (.inl ((s + 2 ^ i : Nat) : Int)), some (.inl ((i + 1 : Nat) : Int)), some (.inl z), some (.inl (Y.length : Int))]) (q := 81) dX9_fitting_78 rfl (by decide) (by omega) (by unfold am_ok; omega) rfl rfl ?_
          refine rn_goto (t := 4) dX9_fitting_81 rfl ?_
          first | exact ih hlt _ _ _ (by rw [bitsF, ← hs, if_pos (fsB_t.mpr (by rcases hz with hz | hz; exact hz.2; exact absurd hz.1 w66))]) | exact ih hlt _ _ _ (by rw [bitsF, ← hs, if_neg (fun w => by rcases hz with hz | hz; omega; exact hz.2 (fsB_t.mp w))])
    refine rn_iload_n (x := (i : Int)) (q := 5) dX9_fitting_4 rfl rfl ?_
    refine rn_aload_n (x := 95) (q := 6) dX9_fitting_5 rfl rfl ?_
    refine rn_get (a := 95) (v := .inl (h.1 : Int)) (q := 9) dX9_fitting_6 fl_X9_113 rfl (am_gi q.n) rfl ?_
    refine rn_cmpge (t := 84) (q := 12) dX9_fitting_9 rfl rfl (fun w9 => ?_) (fun w9 => ?_)
    · refine rn_iload_n (x := (s : Int)) (q := 85) dX9_fitting_84 rfl rfl ?_
      refine rn_iret dX9_fitting_85 rfl ?_
      exact hQ _ _ ⟨by rw [hs, show i = h.1 by omega]; rfl, rfl⟩
    · refine rn_iconst (q := 13) dX9_fitting_12 (am_okd rfl) rfl ?_
      refine rn_istore_n (ls' := [some (.inr (.inr 96)), some (.inl (s : Int)), some (.inl (i : Int)), some (.inl 1), ly]) (q := 14) dX9_fitting_13 (by decide) rfl rfl ?_
      refine rn_iconst (q := 15) dX9_fitting_14 (am_okd rfl) rfl ?_
      refine rn_istore (ls' := [some (.inr (.inr 96)), some (.inl (s : Int)), some (.inl (i : Int)), some (.inl 1), some (.inl 0)]) (q := 17) dX9_fitting_15 (by decide) rfl rfl ?_
      exact K (by omega) 0 (Nat.zero_le _) _ (Or.inl ⟨rfl, fun k hk => absurd hk (Nat.not_lt_zero _)⟩)
  refine rn_iconst (q := 1) dX9_fitting_0 (am_okd rfl) rfl ?_
  refine rn_istore_n (ls' := [some (.inr (.inr 96)), some (.inl 0), none, none, none]) (q := 2) dX9_fitting_1 (by decide) rfl rfl ?_
  refine rn_iconst (q := 3) dX9_fitting_2 (am_okd rfl) rfl ?_
  refine rn_istore_n (ls' := [some (.inr (.inr 96)), some (.inl 0), some (.inl 0), none, none]) (q := 4) dX9_fitting_3 (by decide) rfl rfl ?_
  exact L 0 (Nat.zero_le _) 0 _ _ rfl
theorem c_fits (q : CQ r X C sn sg h e NB mem) (hY : c_said 68 Y mem) (yo : y_ok Y) : am_Sm l G yX8_fits mt_X8_fits (d + 2) [.inr (.inr 1)] mem (QC (susp h e Y : Int) [(pc (susp h e Y) : Int)] mem) := by
  refine am_enterQ (ls := [some (.inr (.inr 1)), none]) (by decide) rfl (Nat.le_of_ble_eq_true rfl) rfl (fun hok Q hQ => ?_)
  have b := q.bd
  have o := susp_lt (e := e) (Y := Y) b.1
  refine rn_aload_n (x := 0) (q := 1) dX8_fits_0 rfl rfl ?_
  refine rn_callV (b := 0) (as := []) (rest := []) (q := 4) dX8_fits_1 ml_X8_410 sm_X8_suspects rfl rfl (by decide) (by omega) rfl rfl (Nat.le_of_ble_eq_true rfl) rfl (c_suspects (d := d + 0) q hY yo) ?_
  intro r1 mem1 hq1
  obtain ⟨rfl, rfl⟩ := hq1
  show am_Rn l G _ _ 4 [some (.inr (.inr 1)), none] [.inl (susp h e Y : Int)] mem _
  refine rn_istore_n (ls' := [some (.inr (.inr 1)), some (.inl (susp h e Y : Int))]) (q := 5) dX8_fits_4 (by decide) rfl rfl ?_
  refine rn_aload_n (x := 0) (q := 6) dX8_fits_5 rfl rfl ?_
  refine rn_get (a := 0) (v := .inr (.inr 4)) (q := 9) dX8_fits_6 fl_X8_19 rfl rfl rfl ?_
  refine rn_iload_n (x := (susp h e Y : Int)) (q := 10) dX8_fits_9 rfl rfl ?_
  refine rn_callS (as := [.inl (susp h e Y : Int)]) (rest := [.inr (.inr 4)]) (q := 13) dX8_fits_10 ml_X8_187 sm_J6_bitCount_0f7a4 (by omega) rfl rfl (Nat.le_of_ble_eq_true rfl) rfl (s_bitCount (d := d + 1) (susp h e Y) (by omega)) ?_
  intro r10 mem10 hq10
  obtain ⟨rfl, rfl⟩ := hq10
  show am_Rn l G _ _ 13 [some (.inr (.inr 1)), some (.inl (susp h e Y : Int))] [.inl (pc (susp h e Y) : Int), .inr (.inr 4)] mem _
  refine rn_i2l (q := 14) dX8_fits_13 rfl ?_
  refine rn_callV (b := 3) (as := [.inr (.inl (pc (susp h e Y) : Int))]) (rest := []) (q := 17) dX8_fits_14 ml_X8_299 sm_X3_tell rfl rfl (by decide) (by omega) rfl rfl (Nat.le_of_ble_eq_true rfl) rfl (s_Rtell (d := d + 0) (pc (susp h e Y) : Int)) ?_
  intro r14 mem14 hq14
  obtain ⟨rfl, hr14, hf14⟩ := hq14
  show am_Rn l G _ _ 17 [some (.inr (.inr 1)), some (.inl (susp h e Y : Int))] [] mem14 _
  refine rn_iload_n (x := (susp h e Y : Int)) (q := 18) dX8_fits_17 rfl rfl ?_
  refine rn_iret dX8_fits_18 rfl ?_
  exact hQ _ _ ⟨rfl, (fr_row hf14), hr14⟩
theorem m_fits (q : DQ X sn sg h e NB mem) (hY : m_told Y mem) (yo : y_ok Y) : am_Sm l G yX9_fits_ mt_X9_fits_ (d + 2) [.inr (.inr 96)] mem (QM (susp h e Y : Int) [(pc (susp h e Y) : Int)] mem) := by
  refine am_enterQ (ls := [some (.inr (.inr 96))]) (by decide) rfl (Nat.le_of_ble_eq_true rfl) rfl (fun hok Q hQ => ?_)
  have b := q.bd
  have o := susp_lt (e := e) (Y := Y) b.1
  have fY : ∀ m, frS s9r mem m → m_told Y m := fun m f => ⟨(f 95 45 rfl).trans hY.1, hY.2.1, fun i hi => ⟨(f 121 i rfl).trans (hY.2.2 i hi).1, (f 122 i rfl).trans (hY.2.2 i hi).2⟩⟩
  refine rn_aload_n (x := 95) (q := 1) dX9_fits__0 rfl rfl ?_
  refine rn_iconst (q := 2) dX9_fits__1 (am_okd rfl) rfl ?_
  refine rn_puti (a := 95) (q := 5) dX9_fits__2 fl_X9_107 rfl rfl rfl rfl ?_
  refine rn_aload_n (x := 95) (q := 6) dX9_fits__5 rfl rfl ?_
  refine rn_iconst (q := 7) dX9_fits__6 (am_okd rfl) rfl ?_
  refine rn_puti (a := 95) (q := 10) dX9_fits__7 fl_X9_110 rfl rfl rfl rfl ?_
  refine rn_aload_n (x := 95) (q := 11) dX9_fits__10 rfl rfl ?_
  refine rn_aload_n (x := 95) (q := 12) dX9_fits__11 rfl rfl ?_
  refine rn_callV (b := 95) (as := []) (rest := [.inr (.inr 96)]) (q := 15) dX9_fits__12 ml_X9_376 sm_X9_fitting rfl rfl (by decide) (by omega) rfl rfl (Nat.le_of_ble_eq_true rfl) rfl (m_fitting (d := d + 0) (q.kept (frS.up (a := 95) (k := 10) (x := 0) (frS.up (a := 95) (k := 11) (x := 0) frS.rf rfl) rfl)) (fY _ (frS.up (a := 95) (k := 10) (x := 0) (frS.up (a := 95) (k := 11) (x := 0) frS.rf rfl) rfl)) yo) ?_
  intro r12 mem12 hq12
  obtain ⟨rfl, rfl⟩ := hq12
  show am_Rn l G _ _ 15 [some (.inr (.inr 96))] [.inl (susp h e Y : Int), .inr (.inr 96)] (am_up (am_up mem 95 11 0) 95 10 0) _
  refine rn_callS (as := [.inl (susp h e Y : Int)]) (rest := [.inr (.inr 96)]) (q := 18) dX9_fits__15 ml_X9_220 sm_J6_bitCount_0f7a4 (by omega) rfl rfl (Nat.le_of_ble_eq_true rfl) rfl (s_bitCount (d := d + 1) (susp h e Y) (by omega)) ?_
  intro r15 mem15 hq15
  obtain ⟨rfl, rfl⟩ := hq15
  show am_Rn l G _ _ 18 [some (.inr (.inr 96))] [.inl (pc (susp h e Y) : Int), .inr (.inr 96)] (am_up (am_up mem 95 11 0) 95 10 0) _
  refine rn_i2l (q := 19) dX9_fits__18 rfl ?_
  refine rn_callV (b := 95) (as := [.inr (.inl (pc (susp h e Y) : Int))]) (rest := []) (q := 22) dX9_fits__19 ml_X9_275 sm_X9_tell rfl rfl (by decide) (by omega) rfl rfl (Nat.le_of_ble_eq_true rfl) rfl (m_tell (d := d + 1) m_row0 (by first | decide | simp | omega) (pc (susp h e Y) : Int)) ?_
  intro r19 mem19 hq19
  obtain ⟨rfl, hr19, hf19⟩ := hq19
  show am_Rn l G _ _ 22 [some (.inr (.inr 96))] [] mem19 _
  refine rn_aload_n (x := 95) (q := 23) dX9_fits__22 rfl rfl ?_
  refine rn_callV (b := 95) (as := []) (rest := []) (q := 26) dX9_fits__23 ml_X9_376 sm_X9_fitting rfl rfl (by decide) (by omega) rfl rfl (Nat.le_of_ble_eq_true rfl) rfl (m_fitting (d := d + 0) (q.kept ((frS.up (a := 95) (k := 10) (x := 0) (frS.up (a := 95) (k := 11) (x := 0) frS.rf rfl) rfl).tr hf19)) (fY _ ((frS.up (a := 95) (k := 10) (x := 0) (frS.up (a := 95) (k := 11) (x := 0) frS.rf rfl) rfl).tr hf19)) yo) ?_
  intro r23 mem23 hq23
  obtain ⟨rfl, rfl⟩ := hq23
  show am_Rn l G _ _ 26 [some (.inr (.inr 96))] [.inl (susp h e Y : Int)] mem19 _
  refine rn_iret dX9_fits__26 rfl ?_
  exact hQ _ _ ⟨rfl, ((frS.up (a := 95) (k := 10) (x := 0) (frS.up (a := 95) (k := 11) (x := 0) frS.rf rfl) rfl).tr hf19), hr19⟩
theorem c_ask (q : CQ r X C sn sg h e NB mem) {R : List Int} (hR : c_row R mem) (hY : c_said 68 Y mem) (yo : y_ok Y) : am_Sm l G yX8_ask mt_X8_ask (d + 2) [.inr (.inr 1)] mem (QC (askA h e Y) (askR R h e Y) mem) := by
  refine am_enterQ (ls := [some (.inr (.inr 1)), none, none, none, none, none, none, none]) (by decide) rfl (Nat.le_of_ble_eq_true rfl) rfl (fun hok Q hQ => ?_)
  have b := q.bd
  have o := susp_lt (e := e) (Y := Y) b.1
  have o2 := pc_zero (susp h e Y) o
  have o3 := pc_le (susp h e Y) (by omega)
  have L : 0 < pc (susp h e Y) → ∀ v : Nat, v ≤ 10 → ∀ (s t : Int) (lx ly : Option am_V), v = 0 ∧ s = 0 ∧ t = ((pc (susp h e Y) + 1 : Nat) : Int) ∨ 0 < v ∧ s = (tri (akF (susp h e Y) h.2.2.2 h.1) v).1 ∧ t = (tri (akF (susp h e Y) h.2.2.2 h.1) v).2 → am_Rn l G mt_X8_ask (d + 2) 27 [some (.inr (.inr 1)), some (.inl (susp h e Y : Int)), some (.inl (pc (susp h e Y) : Int)), some (.inl s), some (.inl t), some (.inl (v : Int)), lx, ly] [] mem Q := by
    intro hpos
    refine am_dn 10 (fun v hv ih s t lx ly hs => ?_)
    have ht0 : v ≠ 0 ∨ (tri (akF (susp h e Y) h.2.2.2 h.1) v).2 = 1000000 := by
      by_cases z : v = 0
      · subst z; exact Or.inr rfl
      · exact Or.inl z
    have hall := akC_le (b := susp h e Y) (py := h.2.2.2) (v := v) (i := h.1) (by omega)
    have eF : ((akF (susp h e Y) h.2.2.2 h.1 v : Nat) : Int) = max (akC (susp h e Y) h.2.2.2 v h.1 : Int) ((pc (susp h e Y) : Int) - (akC (susp h e Y) h.2.2.2 v h.1 : Int)) := by unfold akF; omega
    have K : v < 10 → ∀ i : Nat, i ≤ h.1 → ∀ z : Nat, z = akC (susp h e Y) h.2.2.2 v i → am_Rn l G mt_X8_ask (d + 2) 40 [some (.inr (.inr 1)), some (.inl (susp h e Y : Int)), some (.inl (pc (susp h e Y) : Int)), some (.inl s), some (.inl t), some (.inl (v : Int)), some (.inl (z : Int)), some (.inl (i : Int))] [] mem Q := by
      intro hlt
      refine am_dn h.1 (fun i hi ih2 z hz => ?_)
      have hz9 := akC_le (b := susp h e Y) (py := h.2.2.2) (v := v) (i := i) (by omega)
      by_cases hin : i < h.1
      · refine rn_iload (x := (i : Int)) (q := 42) dX8_ask_40 rfl rfl ?_
        refine rn_aload_n (x := 0) (q := 43) dX8_ask_42 rfl rfl ?_
        refine rn_get (a := 0) (v := .inr (.inr 6)) (q := 46) dX8_ask_43 fl_X8_26 rfl rfl rfl ?_
        refine rn_get (a := 5) (v := .inl (h.1 : Int)) (q := 49) dX8_ask_46 fl_X8_136 rfl (am_gi q.n) rfl ?_
        refine rn_cmpge (t := 85) (q := 52) dX8_ask_49 rfl rfl (fun h => absurd h (by omega)) (fun w49 => ?_)
        refine rn_iload_n (x := (susp h e Y : Int)) (q := 53) dX8_ask_52 rfl rfl ?_
        refine rn_iload (x := (i : Int)) (q := 55) dX8_ask_53 rfl rfl ?_
        refine rn_ishr (q := 56) dX8_ask_55 rfl ?_
        refine rn_iconst (q := 57) dX8_ask_56 (am_okd rfl) rfl ?_
        refine rn_iand (q := 58) dX8_ask_57 rfl ?_
        rw [am_bit (b := susp h e Y) (i := i) (by omega) (by omega)]
        by_cases b57 : Nat.testBit (susp h e Y) i = true
        · rw [if_pos b57]
          refine rn_ifeq (t := 79) (q := 61) dX8_ask_58 rfl rfl (fun h => absurd h (by decide)) (fun w58 => ?_)
          refine rn_aload_n (x := 0) (q := 62) dX8_ask_61 rfl rfl ?_
          refine rn_get (a := 0) (v := .inr (.inr 6)) (q := 65) dX8_ask_62 fl_X8_26 rfl rfl rfl ?_
          refine rn_get (a := 5) (v := .inr (.inr 10)) (q := 68) dX8_ask_65 fl_X8_156 rfl rfl rfl ?_
          refine rn_iload (x := (i : Int)) (q := 70) dX8_ask_68 rfl rfl ?_
          refine rn_ialdV (a := 9) (v := (h.2.2.2 i : Int)) (q := 71) dX8_ask_70 rfl (by omega) (by omega) (q.pay (by omega)) rfl ?_
          refine rn_iload (x := (v : Int)) (q := 73) dX8_ask_71 rfl rfl ?_
          refine rn_cmpgt (t := 79) (q := 76) dX8_ask_73 rfl rfl (fun w73 => ?_) (fun w73 => ?_)
          · refine rn_iincN (x := (i : Int)) (z := ((i + 1 : Nat) : Int)) (ls' := [some (.inr (.inr 1)), some (.inl (susp h e Y : Int)), some (.inl (pc (susp h e Y) : Int)), some (.inl s), some (.inl t), some (.inl (v : Int)), some (.inl (z : Int)), some (.inl ((i + 1 : Nat) : Int))]) (q := 82) dX8_ask_79 rfl (by decide) (by omega) (by unfold am_ok; omega) rfl rfl ?_
            refine rn_goto (t := 40) dX8_ask_82 rfl ?_
            first | exact ih2 hin _ (by rw [akC, ← hz, if_pos ⟨by assumption, by omega⟩]) | exact ih2 hin _ (by rw [akC, ← hz, if_neg (fun w => by first | exact b57 w.1 | omega)]; rfl)
          · refine rn_iincN (x := (z : Int)) (z := ((z + 1 : Nat) : Int)) (ls' := [some (.inr (.inr 1)), some (.inl (susp h e Y : Int)), some (.inl (pc (susp h e Y) : Int)), some (.inl s), some (.inl t), some (.inl (v : Int)), some (.inl ((z + 1 : Nat) : Int)), some (.inl (i : Int))]) (q := 79) dX8_ask_76 rfl (by decide) (by omega) (by unfold am_ok; omega) rfl rfl ?_
            refine rn_iincN (x := (i : Int)) (z := ((i + 1 : Nat) : Int)) (ls' := [some (.inr (.inr 1)), some (.inl (susp h e Y : Int)), some (.inl (pc (susp h e Y) : Int)), some (.inl s), some (.inl t), some (.inl (v : Int)), some (.inl ((z + 1 : Nat) : Int)), some (.inl ((i + 1 : Nat) : Int))]) (q := 82) dX8_ask_79 rfl (by decide) (by omega) (by unfold am_ok; omega) rfl rfl ?_
            refine rn_goto (t := 40) dX8_ask_82 rfl ?_
            first | exact ih2 hin _ (by rw [akC, ← hz, if_pos ⟨by assumption, by omega⟩]) | exact ih2 hin _ (by rw [akC, ← hz, if_neg (fun w => by first | exact b57 w.1 | omega)]; rfl)
        · rw [if_neg b57]
          refine rn_ifeq (t := 79) (q := 61) dX8_ask_58 rfl rfl (fun w58 => ?_) (fun h => absurd h (by decide))
          refine rn_iincN (x := (i : Int)) (z := ((i + 1 : Nat) : Int)) (ls' := [some (.inr (.inr 1)), some (.inl (susp h e Y : Int)), some (.inl (pc (susp h e Y) : Int)), some (.inl s), some (.inl t), some (.inl (v : Int)), some (.inl (z : Int)), some (.inl ((i + 1 : Nat) : Int))]) (q := 82) dX8_ask_79 rfl (by decide) (by omega) (by unfold am_ok; omega) rfl rfl ?_
          refine rn_goto (t := 40) dX8_ask_82 rfl ?_
          first | exact ih2 hin _ (by rw [akC, ← hz, if_pos ⟨by assumption, by omega⟩]) | exact ih2 hin _ (by rw [akC, ← hz, if_neg (fun w => by first | exact b57 w.1 | omega)]; rfl)
      · obtain rfl : i = h.1 := by omega
        rw [← hz] at eF
        refine rn_iload (x := (h.1 : Int)) (q := 42) dX8_ask_40 rfl rfl ?_
        refine rn_aload_n (x := 0) (q := 43) dX8_ask_42 rfl rfl ?_
        refine rn_get (a := 0) (v := .inr (.inr 6)) (q := 46) dX8_ask_43 fl_X8_26 rfl rfl rfl ?_
        refine rn_get (a := 5) (v := .inl (h.1 : Int)) (q := 49) dX8_ask_46 fl_X8_136 rfl (am_gi q.n) rfl ?_
        refine rn_cmpge (t := 85) (q := 52) dX8_ask_49 rfl rfl (fun w49 => ?_) (fun h => absurd h (by omega))
        refine rn_iload (x := (z : Int)) (q := 87) dX8_ask_85 rfl rfl ?_
        refine rn_iload_n (x := (pc (susp h e Y) : Int)) (q := 88) dX8_ask_87 rfl rfl ?_
        refine rn_iload (x := (z : Int)) (q := 90) dX8_ask_88 rfl rfl ?_
        refine rn_isubN (z := ((pc (susp h e Y) : Int) - (z : Int))) (q := 91) dX8_ask_90 rfl (by unfold am_ok; omega) rfl ?_
        refine rn_mmax (q := 94) dX8_ask_91 am_mm_X8_209 am_mmaxw (Nat.le_of_ble_eq_true rfl) rfl ?_
        refine rn_istore (ls' := [some (.inr (.inr 1)), some (.inl (susp h e Y : Int)), some (.inl (pc (susp h e Y) : Int)), some (.inl s), some (.inl t), some (.inl (v : Int)), some (.inl (z : Int)), some (.inl (max (z : Int) ((pc (susp h e Y) : Int) - (z : Int))))]) (q := 96) dX8_ask_94 (by decide) rfl rfl ?_
        refine rn_iload (x := (max (z : Int) ((pc (susp h e Y) : Int) - (z : Int)))) (q := 98) dX8_ask_96 rfl rfl ?_
        refine rn_iload (x := t) (q := 100) dX8_ask_98 rfl rfl ?_
        refine rn_cmpge (t := 110) (q := 103) dX8_ask_100 rfl rfl (fun w100 => ?_) (fun w100 => ?_)
        · refine rn_iincN (x := (v : Int)) (z := ((v + 1 : Nat) : Int)) (ls' := [some (.inr (.inr 1)), some (.inl (susp h e Y : Int)), some (.inl (pc (susp h e Y) : Int)), some (.inl s), some (.inl t), some (.inl ((v + 1 : Nat) : Int)), some (.inl (z : Int)), some (.inl (max (z : Int) ((pc (susp h e Y) : Int) - (z : Int))))]) (q := 113) dX8_ask_110 rfl (by decide) (by omega) (by unfold am_ok; omega) rfl rfl ?_
          refine rn_goto (t := 27) dX8_ask_113 rfl ?_
          first | (exfalso; omega) | exact ih hlt _ _ _ _ (Or.inr ⟨by omega, by rw [tri, if_pos (by rw [eF]; omega)], by rw [tri, if_pos (by rw [eF]; omega), eF]⟩) | exact ih hlt _ _ _ _ (Or.inr ⟨by omega, by rw [tri, if_neg (by rw [eF]; omega)]; omega, by rw [tri, if_neg (by rw [eF]; omega)]; omega⟩)
        · refine rn_iload (x := (v : Int)) (q := 105) dX8_ask_103 rfl rfl ?_
          refine rn_istore_n (ls' := [some (.inr (.inr 1)), some (.inl (susp h e Y : Int)), some (.inl (pc (susp h e Y) : Int)), some (.inl (v : Int)), some (.inl t), some (.inl (v : Int)), some (.inl (z : Int)), some (.inl (max (z : Int) ((pc (susp h e Y) : Int) - (z : Int))))]) (q := 106) dX8_ask_105 (by decide) rfl rfl ?_
          refine rn_iload (x := (max (z : Int) ((pc (susp h e Y) : Int) - (z : Int)))) (q := 108) dX8_ask_106 rfl rfl ?_
          refine rn_istore (ls' := [some (.inr (.inr 1)), some (.inl (susp h e Y : Int)), some (.inl (pc (susp h e Y) : Int)), some (.inl (v : Int)), some (.inl (max (z : Int) ((pc (susp h e Y) : Int) - (z : Int)))), some (.inl (v : Int)), some (.inl (z : Int)), some (.inl (max (z : Int) ((pc (susp h e Y) : Int) - (z : Int))))]) (q := 110) dX8_ask_108 (by decide) rfl rfl ?_
          refine rn_iincN (x := (v : Int)) (z := ((v + 1 : Nat) : Int)) (ls' := [some (.inr (.inr 1)), some (.inl (susp h e Y : Int)), some (.inl (pc (susp h e Y) : Int)), some (.inl (v : Int)), some (.inl (max (z : Int) ((pc (susp h e Y) : Int) - (z : Int)))), some (.inl ((v + 1 : Nat) : Int)), some (.inl (z : Int)), some (.inl (max (z : Int) ((pc (susp h e Y) : Int) - (z : Int))))]) (q := 113) dX8_ask_110 rfl (by decide) (by omega) (by unfold am_ok; omega) rfl rfl ?_
          refine rn_goto (t := 27) dX8_ask_113 rfl ?_
          first | (exfalso; omega) | exact ih hlt _ _ _ _ (Or.inr ⟨by omega, by rw [tri, if_pos (by rw [eF]; omega)], by rw [tri, if_pos (by rw [eF]; omega), eF]⟩) | exact ih hlt _ _ _ _ (Or.inr ⟨by omega, by rw [tri, if_neg (by rw [eF]; omega)]; omega, by rw [tri, if_neg (by rw [eF]; omega)]; omega⟩)
    refine rn_iload (x := (v : Int)) (q := 29) dX8_ask_27 rfl rfl ?_
    refine rn_bipush (q := 31) dX8_ask_29 ⟨by decide, by decide⟩ rfl ?_
    refine rn_cmpgt (t := 116) (q := 34) dX8_ask_31 rfl rfl (fun w31 => ?_) (fun w31 => ?_)
    · refine rn_aload_n (x := 0) (q := 117) dX8_ask_116 rfl rfl ?_
      refine rn_get (a := 0) (v := .inr (.inr 4)) (q := 120) dX8_ask_117 fl_X8_19 rfl rfl rfl ?_
      refine rn_iload (x := t) (q := 122) dX8_ask_120 rfl rfl ?_
      refine rn_i2l (q := 123) dX8_ask_122 rfl ?_
      refine rn_callV (b := 3) (as := [.inr (.inl t)]) (rest := []) (q := 126) dX8_ask_123 ml_X8_299 sm_X3_tell rfl rfl (by decide) (by omega) rfl rfl (Nat.le_of_ble_eq_true rfl) rfl (s_Rtell (d := d + 0) t) ?_
      intro r123 mem123 hq123
      obtain ⟨rfl, hr123, hf123⟩ := hq123
      show am_Rn l G _ _ 126 [some (.inr (.inr 1)), some (.inl (susp h e Y : Int)), some (.inl (pc (susp h e Y) : Int)), some (.inl s), some (.inl t), some (.inl (v : Int)), lx, ly] [] mem123 _
      refine rn_iload_n (x := s) (q := 127) dX8_ask_126 rfl rfl ?_
      refine rn_iret dX8_ask_127 rfl ?_
      have h10 : 10 = v := by omega
      exact hQ _ _ (by unfold askA askR; rw [if_neg (by omega), if_neg (by omega), h10]; exact ⟨by rw [show s = (tri (akF (susp h e Y) h.2.2.2 h.1) v).1 by omega], (fr_row hf123), by rw [show (tri (akF (susp h e Y) h.2.2.2 h.1) v).2 = t by omega]; exact hr123⟩)
    · refine rn_iconst (q := 35) dX8_ask_34 (am_okd rfl) rfl ?_
      refine rn_istore (ls' := [some (.inr (.inr 1)), some (.inl (susp h e Y : Int)), some (.inl (pc (susp h e Y) : Int)), some (.inl s), some (.inl t), some (.inl (v : Int)), some (.inl 0), ly]) (q := 37) dX8_ask_35 (by decide) rfl rfl ?_
      refine rn_iconst (q := 38) dX8_ask_37 (am_okd rfl) rfl ?_
      refine rn_istore (ls' := [some (.inr (.inr 1)), some (.inl (susp h e Y : Int)), some (.inl (pc (susp h e Y) : Int)), some (.inl s), some (.inl t), some (.inl (v : Int)), some (.inl 0), some (.inl 0)]) (q := 40) dX8_ask_38 (by decide) rfl rfl ?_
      exact K (by omega) 0 (Nat.zero_le _) 0 rfl
  refine rn_aload_n (x := 0) (q := 1) dX8_ask_0 rfl rfl ?_
  refine rn_callV (b := 0) (as := []) (rest := []) (q := 4) dX8_ask_1 ml_X8_410 sm_X8_suspects rfl rfl (by decide) (by omega) rfl rfl (Nat.le_of_ble_eq_true rfl) rfl (c_suspects (d := d + 0) q hY yo) ?_
  intro r1 mem1 hq1
  obtain ⟨rfl, rfl⟩ := hq1
  show am_Rn l G _ _ 4 [some (.inr (.inr 1)), none, none, none, none, none, none, none] [.inl (susp h e Y : Int)] mem _
  refine rn_istore_n (ls' := [some (.inr (.inr 1)), some (.inl (susp h e Y : Int)), none, none, none, none, none, none]) (q := 5) dX8_ask_4 (by decide) rfl rfl ?_
  refine rn_iload_n (x := (susp h e Y : Int)) (q := 6) dX8_ask_5 rfl rfl ?_
  refine rn_callS (as := [.inl (susp h e Y : Int)]) (rest := []) (q := 9) dX8_ask_6 ml_X8_187 sm_J6_bitCount_0f7a4 (by omega) rfl rfl (Nat.le_of_ble_eq_true rfl) rfl (s_bitCount (d := d + 1) (susp h e Y) (by omega)) ?_
  intro r6 mem6 hq6
  obtain ⟨rfl, rfl⟩ := hq6
  show am_Rn l G _ _ 9 [some (.inr (.inr 1)), some (.inl (susp h e Y : Int)), none, none, none, none, none, none] [.inl (pc (susp h e Y) : Int)] mem _
  refine rn_istore_n (ls' := [some (.inr (.inr 1)), some (.inl (susp h e Y : Int)), some (.inl (pc (susp h e Y) : Int)), none, none, none, none, none]) (q := 10) dX8_ask_9 (by decide) rfl rfl ?_
  refine rn_iload_n (x := (pc (susp h e Y) : Int)) (q := 11) dX8_ask_10 rfl rfl ?_
  refine rn_ifne (t := 17) (q := 14) dX8_ask_11 rfl rfl (fun w11 => ?_) (fun w11 => ?_)
  · refine rn_iconst (q := 18) dX8_ask_17 (am_okd rfl) rfl ?_
    refine rn_istore_n (ls' := [some (.inr (.inr 1)), some (.inl (susp h e Y : Int)), some (.inl (pc (susp h e Y) : Int)), some (.inl 0), none, none, none, none]) (q := 19) dX8_ask_18 (by decide) rfl rfl ?_
    refine rn_iload_n (x := (pc (susp h e Y) : Int)) (q := 20) dX8_ask_19 rfl rfl ?_
    refine rn_iconst (q := 21) dX8_ask_20 (am_okd rfl) rfl ?_
    refine rn_iaddN (z := (((pc (susp h e Y)) + 1 : Nat) : Int)) (q := 22) dX8_ask_21 (by omega) (by unfold am_ok; omega) rfl ?_
    refine rn_istore (ls' := [some (.inr (.inr 1)), some (.inl (susp h e Y : Int)), some (.inl (pc (susp h e Y) : Int)), some (.inl 0), some (.inl (((pc (susp h e Y)) + 1 : Nat) : Int)), none, none, none]) (q := 24) dX8_ask_22 (by decide) rfl rfl ?_
    refine rn_iconst (q := 25) dX8_ask_24 (am_okd rfl) rfl ?_
    refine rn_istore (ls' := [some (.inr (.inr 1)), some (.inl (susp h e Y : Int)), some (.inl (pc (susp h e Y) : Int)), some (.inl 0), some (.inl (((pc (susp h e Y)) + 1 : Nat) : Int)), some (.inl 0), none, none]) (q := 27) dX8_ask_25 (by decide) rfl rfl ?_
    exact L (by omega) 0 (by omega) _ _ _ _ (Or.inl ⟨rfl, rfl, rfl⟩)
  · refine rn_bipush (q := 16) dX8_ask_14 ⟨by decide, by decide⟩ rfl ?_
    refine rn_iret dX8_ask_16 rfl ?_
    exact hQ _ _ (by unfold askA askR; rw [if_pos (by omega), if_pos (by omega)]; exact ⟨rfl, frS.rf, hR⟩)
theorem m_askC (q : DQ X sn sg h e NB mem) {R : List Int} (hR : m_row R mem) (hY : m_told Y mem) (yo : y_ok Y) : am_Sm l G yX9_ask mt_X9_ask (d + 2) [.inr (.inr 96)] mem (QM (askA h e Y) (askR R h e Y) mem) := by
  refine am_enterQ (ls := [some (.inr (.inr 96)), none, none, none, none, none, none]) (by decide) rfl (Nat.le_of_ble_eq_true rfl) rfl (fun hok Q hQ => ?_)
  have b := q.bd
  have o := susp_lt (e := e) (Y := Y) b.1
  have o3 := pc_le (susp h e Y) (by omega)
  have L : ¬ susp h e Y = 0 → ∀ v : Nat, v ≤ 10 → ∀ (s t : Int) (lx ly : Option am_V), s = (tri (akF (susp h e Y) h.2.2.2 h.1) v).1 → t = (tri (akF (susp h e Y) h.2.2.2 h.1) v).2 → am_Rn l G mt_X9_ask (d + 2) 26 [some (.inr (.inr 96)), some (.inl (susp h e Y : Int)), some (.inl s), some (.inl t), some (.inl (v : Int)), lx, ly] [] (am_up mem 95 11 0) Q := by
    intro hpos
    refine am_dn 10 (fun v hv ih s t lx ly hs ht => ?_)
    have hall := akC_le (b := susp h e Y) (py := h.2.2.2) (v := v) (i := h.1) (by omega)
    have eF : ((akF (susp h e Y) h.2.2.2 h.1 v : Nat) : Int) = max (akC (susp h e Y) h.2.2.2 v h.1 : Int) ((pc (susp h e Y) : Int) - (akC (susp h e Y) h.2.2.2 v h.1 : Int)) := by unfold akF; omega
    have K : v < 10 → ∀ i : Nat, i ≤ h.1 → ∀ z : Nat, z = akC (susp h e Y) h.2.2.2 v i → am_Rn l G mt_X9_ask (d + 2) 39 [some (.inr (.inr 96)), some (.inl (susp h e Y : Int)), some (.inl s), some (.inl t), some (.inl (v : Int)), some (.inl (z : Int)), some (.inl (i : Int))] [] (am_up mem 95 11 0) Q := by
      intro hlt
      refine am_dn h.1 (fun i hi ih2 z hz => ?_)
      have hz9 := akC_le (b := susp h e Y) (py := h.2.2.2) (v := v) (i := i) (by omega)
      by_cases hin : i < h.1
      · refine rn_iload (x := (i : Int)) (q := 41) dX9_ask_39 rfl rfl ?_
        refine rn_aload_n (x := 95) (q := 42) dX9_ask_41 rfl rfl ?_
        refine rn_get (a := 95) (v := .inl (h.1 : Int)) (q := 45) dX9_ask_42 fl_X9_113 rfl (am_gi (q.kept (frS.up (a := 95) (k := 11) (x := 0) frS.rf rfl)).n) rfl ?_
        refine rn_cmpge (t := 85) (q := 48) dX9_ask_45 rfl rfl (fun h => absurd h (by omega)) (fun w45 => ?_)
        refine rn_iload (x := (z : Int)) (q := 50) dX9_ask_48 rfl rfl ?_
        refine rn_iload_n (x := (susp h e Y : Int)) (q := 51) dX9_ask_50 rfl rfl ?_
        refine rn_iload (x := (i : Int)) (q := 53) dX9_ask_51 rfl rfl ?_
        refine rn_callS (as := [.inl (susp h e Y : Int), .inl (i : Int)]) (rest := [.inl (z : Int)]) (q := 56) dX9_ask_53 ml_X9_309 sm_X9_has (by omega) rfl rfl (Nat.le_of_ble_eq_true rfl) rfl (s_has9 (d := d + 1) (susp h e Y) i (by omega) (by omega)) ?_
        intro r53 mem53 hq53
        obtain ⟨⟨rfl, hb53⟩ | ⟨rfl, hb53⟩, rfl⟩ := hq53
        · show am_Rn l G _ _ 56 [some (.inr (.inr 96)), some (.inl (susp h e Y : Int)), some (.inl s), some (.inl t), some (.inl (v : Int)), some (.inl (z : Int)), some (.inl (i : Int))] [.inl 1, .inl (z : Int)] (am_up mem 95 11 0) _
          refine rn_ifeq (t := 75) (q := 59) dX9_ask_56 rfl rfl (fun h => absurd h (by decide)) (fun w56 => ?_)
          refine rn_aload_n (x := 95) (q := 60) dX9_ask_59 rfl rfl ?_
          refine rn_get (a := 95) (v := .inr (.inr 100)) (q := 63) dX9_ask_60 fl_X9_19 rfl rfl rfl ?_
          refine rn_iload (x := (i : Int)) (q := 65) dX9_ask_63 rfl rfl ?_
          refine rn_ialdV (a := 99) (v := (h.2.2.2 i : Int)) (q := 66) dX9_ask_65 rfl (by omega) (by omega) ((q.kept (frS.up (a := 95) (k := 11) (x := 0) frS.rf rfl)).pay (by omega)) rfl ?_
          refine rn_iload (x := (v : Int)) (q := 68) dX9_ask_66 rfl rfl ?_
          refine rn_cmpgt (t := 75) (q := 71) dX9_ask_68 rfl rfl (fun w68 => ?_) (fun w68 => ?_)
          · refine rn_iconst (q := 76) dX9_ask_75 (am_okd rfl) rfl ?_
            refine rn_iaddN (z := ((z + 0 : Nat) : Int)) (q := 77) dX9_ask_76 (by omega) (by unfold am_ok; omega) rfl ?_
            refine rn_istore (ls' := [some (.inr (.inr 96)), some (.inl (susp h e Y : Int)), some (.inl s), some (.inl t), some (.inl (v : Int)), some (.inl ((z + 0 : Nat) : Int)), some (.inl (i : Int))]) (q := 79) dX9_ask_77 (by decide) rfl rfl ?_
            refine rn_iincN (x := (i : Int)) (z := ((i + 1 : Nat) : Int)) (ls' := [some (.inr (.inr 96)), some (.inl (susp h e Y : Int)), some (.inl s), some (.inl t), some (.inl (v : Int)), some (.inl ((z + 0 : Nat) : Int)), some (.inl ((i + 1 : Nat) : Int))]) (q := 82) dX9_ask_79 rfl (by decide) (by omega) (by unfold am_ok; omega) rfl rfl ?_
            refine rn_goto (t := 39) dX9_ask_82 rfl ?_
            first | exact ih2 hin _ (by rw [akC, ← hz, if_pos ⟨by assumption, by omega⟩]) | exact ih2 hin _ (by rw [akC, ← hz, if_neg (fun w => by first | exact hb53 w.1 | omega)])
          · refine rn_iconst (q := 72) dX9_ask_71 (am_okd rfl) rfl ?_
            refine rn_goto (t := 76) dX9_ask_72 rfl ?_
            refine rn_iaddN (z := ((z + 1 : Nat) : Int)) (q := 77) dX9_ask_76 (by omega) (by unfold am_ok; omega) rfl ?_
            refine rn_istore (ls' := [some (.inr (.inr 96)), some (.inl (susp h e Y : Int)), some (.inl s), some (.inl t), some (.inl (v : Int)), some (.inl ((z + 1 : Nat) : Int)), some (.inl (i : Int))]) (q := 79) dX9_ask_77 (by decide) rfl rfl ?_
            refine rn_iincN (x := (i : Int)) (z := ((i + 1 : Nat) : Int)) (ls' := [some (.inr (.inr 96)), some (.inl (susp h e Y : Int)), some (.inl s), some (.inl t), some (.inl (v : Int)), some (.inl ((z + 1 : Nat) : Int)), some (.inl ((i + 1 : Nat) : Int))]) (q := 82) dX9_ask_79 rfl (by decide) (by omega) (by unfold am_ok; omega) rfl rfl ?_
            refine rn_goto (t := 39) dX9_ask_82 rfl ?_
            first | exact ih2 hin _ (by rw [akC, ← hz, if_pos ⟨by assumption, by omega⟩]) | exact ih2 hin _ (by rw [akC, ← hz, if_neg (fun w => by first | exact hb53 w.1 | omega)])
        · show am_Rn l G _ _ 56 [some (.inr (.inr 96)), some (.inl (susp h e Y : Int)), some (.inl s), some (.inl t), some (.inl (v : Int)), some (.inl (z : Int)), some (.inl (i : Int))] [.inl 0, .inl (z : Int)] (am_up mem 95 11 0) _
          refine rn_ifeq (t := 75) (q := 59) dX9_ask_56 rfl rfl (fun w56 => ?_) (fun h => absurd h (by decide))
          refine rn_iconst (q := 76) dX9_ask_75 (am_okd rfl) rfl ?_
          refine rn_iaddN (z := ((z + 0 : Nat) : Int)) (q := 77) dX9_ask_76 (by omega) (by unfold am_ok; omega) rfl ?_
          refine rn_istore (ls' := [some (.inr (.inr 96)), some (.inl (susp h e Y : Int)), some (.inl s), some (.inl t), some (.inl (v : Int)), some (.inl ((z + 0 : Nat) : Int)), some (.inl (i : Int))]) (q := 79) dX9_ask_77 (by decide) rfl rfl ?_
          refine rn_iincN (x := (i : Int)) (z := ((i + 1 : Nat) : Int)) (ls' := [some (.inr (.inr 96)), some (.inl (susp h e Y : Int)), some (.inl s), some (.inl t), some (.inl (v : Int)), some (.inl ((z + 0 : Nat) : Int)), some (.inl ((i + 1 : Nat) : Int))]) (q := 82) dX9_ask_79 rfl (by decide) (by omega) (by unfold am_ok; omega) rfl rfl ?_
          refine rn_goto (t := 39) dX9_ask_82 rfl ?_
          first | exact ih2 hin _ (by rw [akC, ← hz, if_pos ⟨by assumption, by omega⟩]) | exact ih2 hin _ (by rw [akC, ← hz, if_neg (fun w => by first | exact hb53 w.1 | omega)])
      · obtain rfl : i = h.1 := by omega
        rw [← hz] at eF
        refine rn_iload (x := (h.1 : Int)) (q := 41) dX9_ask_39 rfl rfl ?_
        refine rn_aload_n (x := 95) (q := 42) dX9_ask_41 rfl rfl ?_
        refine rn_get (a := 95) (v := .inl (h.1 : Int)) (q := 45) dX9_ask_42 fl_X9_113 rfl (am_gi (q.kept (frS.up (a := 95) (k := 11) (x := 0) frS.rf rfl)).n) rfl ?_
        refine rn_cmpge (t := 85) (q := 48) dX9_ask_45 rfl rfl (fun w45 => ?_) (fun h => absurd h (by omega))
        refine rn_iload (x := (z : Int)) (q := 87) dX9_ask_85 rfl rfl ?_
        refine rn_iload_n (x := (susp h e Y : Int)) (q := 88) dX9_ask_87 rfl rfl ?_
        refine rn_callS (as := [.inl (susp h e Y : Int)]) (rest := [.inl (z : Int)]) (q := 91) dX9_ask_88 ml_X9_220 sm_J6_bitCount_0f7a4 (by omega) rfl rfl (Nat.le_of_ble_eq_true rfl) rfl (s_bitCount (d := d + 1) (susp h e Y) (by omega)) ?_
        intro r88 mem88 hq88
        obtain ⟨rfl, rfl⟩ := hq88
        show am_Rn l G _ _ 91 [some (.inr (.inr 96)), some (.inl (susp h e Y : Int)), some (.inl s), some (.inl t), some (.inl (v : Int)), some (.inl (z : Int)), some (.inl (h.1 : Int))] [.inl (pc (susp h e Y) : Int), .inl (z : Int)] (am_up mem 95 11 0) _
        refine rn_iload (x := (z : Int)) (q := 93) dX9_ask_91 rfl rfl ?_
        refine rn_isubN (z := ((pc (susp h e Y) : Int) - (z : Int))) (q := 94) dX9_ask_93 rfl (by unfold am_ok; omega) rfl ?_
        refine rn_mmax (q := 97) dX9_ask_94 am_mm_X9_231 am_mmaxw (Nat.le_of_ble_eq_true rfl) rfl ?_
        refine rn_istore (ls' := [some (.inr (.inr 96)), some (.inl (susp h e Y : Int)), some (.inl s), some (.inl t), some (.inl (v : Int)), some (.inl (z : Int)), some (.inl (max (z : Int) ((pc (susp h e Y) : Int) - (z : Int))))]) (q := 99) dX9_ask_97 (by decide) rfl rfl ?_
        refine rn_iload (x := (max (z : Int) ((pc (susp h e Y) : Int) - (z : Int)))) (q := 101) dX9_ask_99 rfl rfl ?_
        refine rn_iload_n (x := t) (q := 102) dX9_ask_101 rfl rfl ?_
        refine rn_cmplt (t := 108) (q := 105) dX9_ask_102 rfl rfl (fun w102 => ?_) (fun w102 => ?_)
        · refine rn_iload (x := (v : Int)) (q := 110) dX9_ask_108 rfl rfl ?_
          refine rn_istore_n (ls' := [some (.inr (.inr 96)), some (.inl (susp h e Y : Int)), some (.inl (v : Int)), some (.inl t), some (.inl (v : Int)), some (.inl (z : Int)), some (.inl (max (z : Int) ((pc (susp h e Y) : Int) - (z : Int))))]) (q := 111) dX9_ask_110 (by decide) rfl rfl ?_
          refine rn_iload (x := (max (z : Int) ((pc (susp h e Y) : Int) - (z : Int)))) (q := 113) dX9_ask_111 rfl rfl ?_
          refine rn_istore_n (ls' := [some (.inr (.inr 96)), some (.inl (susp h e Y : Int)), some (.inl (v : Int)), some (.inl (max (z : Int) ((pc (susp h e Y) : Int) - (z : Int)))), some (.inl (v : Int)), some (.inl (z : Int)), some (.inl (max (z : Int) ((pc (susp h e Y) : Int) - (z : Int))))]) (q := 114) dX9_ask_113 (by decide) rfl rfl ?_
          refine rn_iincN (x := (v : Int)) (z := ((v + 1 : Nat) : Int)) (ls' := [some (.inr (.inr 96)), some (.inl (susp h e Y : Int)), some (.inl (v : Int)), some (.inl (max (z : Int) ((pc (susp h e Y) : Int) - (z : Int)))), some (.inl ((v + 1 : Nat) : Int)), some (.inl (z : Int)), some (.inl (max (z : Int) ((pc (susp h e Y) : Int) - (z : Int))))]) (q := 117) dX9_ask_114 rfl (by decide) (by omega) (by unfold am_ok; omega) rfl rfl ?_
          refine rn_goto (t := 26) dX9_ask_117 rfl ?_
          first | exact ih hlt _ _ _ _ (by rw [tri, if_pos (by rw [eF]; omega)]) (by rw [tri, if_pos (by rw [eF]; omega), eF]) | exact ih hlt _ _ _ _ (by rw [tri, if_neg (by rw [eF]; omega)]; exact hs) (by rw [tri, if_neg (by rw [eF]; omega)]; exact ht)
        · refine rn_goto (t := 114) dX9_ask_105 rfl ?_
          refine rn_iincN (x := (v : Int)) (z := ((v + 1 : Nat) : Int)) (ls' := [some (.inr (.inr 96)), some (.inl (susp h e Y : Int)), some (.inl s), some (.inl t), some (.inl ((v + 1 : Nat) : Int)), some (.inl (z : Int)), some (.inl (max (z : Int) ((pc (susp h e Y) : Int) - (z : Int))))]) (q := 117) dX9_ask_114 rfl (by decide) (by omega) (by unfold am_ok; omega) rfl rfl ?_
          refine rn_goto (t := 26) dX9_ask_117 rfl ?_
          first | exact ih hlt _ _ _ _ (by rw [tri, if_pos (by rw [eF]; omega)]) (by rw [tri, if_pos (by rw [eF]; omega), eF]) | exact ih hlt _ _ _ _ (by rw [tri, if_neg (by rw [eF]; omega)]; exact hs) (by rw [tri, if_neg (by rw [eF]; omega)]; exact ht)
    refine rn_iload (x := (v : Int)) (q := 28) dX9_ask_26 rfl rfl ?_
    refine rn_bipush (q := 30) dX9_ask_28 ⟨by decide, by decide⟩ rfl ?_
    refine rn_cmpgt (t := 120) (q := 33) dX9_ask_30 rfl rfl (fun w30 => ?_) (fun w30 => ?_)
    · refine rn_aload_n (x := 95) (q := 121) dX9_ask_120 rfl rfl ?_
      refine rn_iconst (q := 122) dX9_ask_121 (am_okd rfl) rfl ?_
      refine rn_puti (a := 95) (q := 125) dX9_ask_122 fl_X9_110 rfl rfl rfl rfl ?_
      refine rn_aload_n (x := 95) (q := 126) dX9_ask_125 rfl rfl ?_
      refine rn_iload_n (x := t) (q := 127) dX9_ask_126 rfl rfl ?_
      refine rn_i2l (q := 128) dX9_ask_127 rfl ?_
      refine rn_callV (b := 95) (as := [.inr (.inl t)]) (rest := []) (q := 131) dX9_ask_128 ml_X9_275 sm_X9_tell rfl rfl (by decide) (by omega) rfl rfl (Nat.le_of_ble_eq_true rfl) rfl (m_tell (d := d + 1) m_row0 (by first | decide | simp | omega) t) ?_
      intro r128 mem128 hq128
      obtain ⟨rfl, hr128, hf128⟩ := hq128
      show am_Rn l G _ _ 131 [some (.inr (.inr 96)), some (.inl (susp h e Y : Int)), some (.inl s), some (.inl t), some (.inl (v : Int)), lx, ly] [] mem128 _
      refine rn_iload_n (x := s) (q := 132) dX9_ask_131 rfl rfl ?_
      refine rn_iret dX9_ask_132 rfl ?_
      obtain rfl : v = 10 := by omega
      exact hQ _ _ (by unfold askA askR; rw [if_neg hpos, if_neg hpos]; exact ⟨by rw [hs], ((frS.up (a := 95) (k := 10) (x := 0) (frS.up (a := 95) (k := 11) (x := 0) frS.rf rfl) rfl).tr hf128), by rw [← ht]; exact hr128⟩)
    · refine rn_iconst (q := 34) dX9_ask_33 (am_okd rfl) rfl ?_
      refine rn_istore (ls' := [some (.inr (.inr 96)), some (.inl (susp h e Y : Int)), some (.inl s), some (.inl t), some (.inl (v : Int)), some (.inl 0), ly]) (q := 36) dX9_ask_34 (by decide) rfl rfl ?_
      refine rn_iconst (q := 37) dX9_ask_36 (am_okd rfl) rfl ?_
      refine rn_istore (ls' := [some (.inr (.inr 96)), some (.inl (susp h e Y : Int)), some (.inl s), some (.inl t), some (.inl (v : Int)), some (.inl 0), some (.inl 0)]) (q := 39) dX9_ask_37 (by decide) rfl rfl ?_
      exact K (by omega) 0 (Nat.zero_le _) 0 rfl
  refine rn_aload_n (x := 95) (q := 1) dX9_ask_0 rfl rfl ?_
  refine rn_iconst (q := 2) dX9_ask_1 (am_okd rfl) rfl ?_
  refine rn_puti (a := 95) (q := 5) dX9_ask_2 fl_X9_107 rfl rfl rfl rfl ?_
  refine rn_aload_n (x := 95) (q := 6) dX9_ask_5 rfl rfl ?_
  refine rn_callV (b := 95) (as := []) (rest := []) (q := 9) dX9_ask_6 ml_X9_376 sm_X9_fitting rfl rfl (by decide) (by omega) rfl rfl (Nat.le_of_ble_eq_true rfl) rfl (m_fitting (d := d + 0) (q.kept (frS.up (a := 95) (k := 11) (x := 0) frS.rf rfl)) (show m_told Y (am_up mem 95 11 0) from hY) yo) ?_
  intro r6 mem6 hq6
  obtain ⟨rfl, rfl⟩ := hq6
  show am_Rn l G _ _ 9 [some (.inr (.inr 96)), none, none, none, none, none, none] [.inl (susp h e Y : Int)] (am_up mem 95 11 0) _
  refine rn_istore_n (ls' := [some (.inr (.inr 96)), some (.inl (susp h e Y : Int)), none, none, none, none, none]) (q := 10) dX9_ask_9 (by decide) rfl rfl ?_
  refine rn_iload_n (x := (susp h e Y : Int)) (q := 11) dX9_ask_10 rfl rfl ?_
  refine rn_ifne (t := 17) (q := 14) dX9_ask_11 rfl rfl (fun w11 => ?_) (fun w11 => ?_)
  · refine rn_iconst (q := 18) dX9_ask_17 (am_okd rfl) rfl ?_
    refine rn_istore_n (ls' := [some (.inr (.inr 96)), some (.inl (susp h e Y : Int)), some (.inl (-1)), none, none, none, none]) (q := 19) dX9_ask_18 (by decide) rfl rfl ?_
    refine rn_ldcw (n := 1000000) (q := 22) dX9_ask_19 kc_X9_323 rfl (am_okd rfl) rfl ?_
    refine rn_istore_n (ls' := [some (.inr (.inr 96)), some (.inl (susp h e Y : Int)), some (.inl (-1)), some (.inl 1000000), none, none, none]) (q := 23) dX9_ask_22 (by decide) rfl rfl ?_
    refine rn_iconst (q := 24) dX9_ask_23 (am_okd rfl) rfl ?_
    refine rn_istore (ls' := [some (.inr (.inr 96)), some (.inl (susp h e Y : Int)), some (.inl (-1)), some (.inl 1000000), some (.inl 0), none, none]) (q := 26) dX9_ask_24 (by decide) rfl rfl ?_
    exact L (by omega) 0 (by omega) _ _ _ _ rfl rfl
  · refine rn_bipush (q := 16) dX9_ask_14 ⟨by decide, by decide⟩ rfl ?_
    refine rn_iret dX9_ask_16 rfl ?_
    exact hQ _ _ (by unfold askA askR; rw [if_pos (by omega), if_pos (by omega)]; exact ⟨rfl, (frS.up (a := 95) (k := 11) (x := 0) frS.rf rfl), hR.kept (frS.rf.up rfl)⟩)
end P60
