/-! enough, hears, quiet, drains -/
/-- runs of quiet nights: the most, where they begin, the run now -/
def qtU (b : Bool) (u : Nat) : Nat := if b = true then u + 1 else 0
def qt (z : Nat → Bool) : Nat → Nat × Int × Nat
  | 0 => (0, -1, 0)
  | k + 1 => if (qt z k).1 < qtU (z k) (qt z k).2.2 then (qtU (z k) (qt z k).2.2, (k : Int) - (qtU (z k) (qt z k).2.2 : Int) + 1, qtU (z k) (qt z k).2.2) else ((qt z k).1, (qt z k).2.1, qtU (z k) (qt z k).2.2)
theorem qt_ok {z : Nat → Bool} : ∀ k, (qt z k).2.2 ≤ k ∧ (qt z k).1 ≤ k := by
  intro k
  induction k with
  | zero => exact ⟨Nat.le_refl _, Nat.le_refl _⟩
  | succ k ih =>
    have hr : qtU (z k) (qt z k).2.2 ≤ k + 1 := by unfold qtU; split <;> omega
    rw [qt]
    split
    · exact ⟨hr, hr⟩
    · exact ⟨hr, by show (qt z k).1 ≤ k + 1; omega⟩
theorem srY {P : Nat → Bool} {f k : Nat} (hf : 0 < f) (h : P k = true) : srch P f k = some k := by
  obtain ⟨g, rfl⟩ : ∃ g, f = g + 1 := ⟨f - 1, by omega⟩
  rw [srch, if_pos h]
theorem srN {P : Nat → Bool} {f k : Nat} (hf : 0 < f) (h : ¬ P k = true) : srch P f k = srch P (f - 1) (k + 1) := by
  obtain ⟨g, rfl⟩ : ∃ g, f = g + 1 := ⟨f - 1, by omega⟩
  rw [srch, if_neg h]; rfl
theorem srZ {P : Nat → Bool} {f k : Nat} (hf : f = 0) : srch P f k = none := by subst hf; rfl
theorem pH_pL {mv : Nat → Int} {mk : Nat} {w : Int} (hm : ∀ i, 0 ≤ mv i) (hw : 0 ≤ w ∧ w ≤ 9) : ∀ i, (pH mv mk w i = 0 ↔ pL mv mk w i = w) ∧ pL mv mk w i ≤ w := by
  intro i
  induction i with
  | zero => exact ⟨⟨fun _ => rfl, fun _ => rfl⟩, Int.le_refl _⟩
  | succ i ih =>
    have h1 := (pP_ok (mk := mk) hm hw i).1
    have e1 : pL mv mk w (i + 1) = pL mv mk w i - pP mv mk w i := by rw [pL, pP]
    rw [e1, pH]
    have p2 : 0 < 2 ^ i := Nat.two_pow_pos i
    refine ⟨?_, by omega⟩
    by_cases h2 : 0 < pP mv mk w i
    · rw [if_pos h2]
      constructor
      · intro h; omega
      · intro h; omega
    · rw [if_neg h2]
      constructor
      · intro h; have := ih.1.mp h; omega
      · intro h; exact ih.1.mpr (by omega)
def qtZ (X : List Nat) (h : hrs) (sn : Nat) (sg : Nat → Nat) (e : est) (k : Nat) : Bool := decide (pH (mvE X h sn sg (itE X h sn sg e k)) (eP (itE X h sn sg e k)) (wE sn sg (itE X h sn sg e k)) h.1 = 0)
def offE (e : est) (i : Nat) : est := (eH e, eS e, clrB (eP e) i, eN e, eB e, eM e, eK e, eG e)
theorem clr_lt : ∀ b, b < 256 → ∀ i, i < 8 → clrB b i ≤ b ∧ ∀ j, j < 8 → (clrB b i).testBit j = (b.testBit j && !decide (j = i)) := by decide +kernel
/-- drains: who, how much -/
def drn (p : Nat) (f : Nat → Int) : Nat → Int × Int
  | 0 => (-2, -1000000)
  | i + 1 => if p.testBit i = true ∧ (drn p f i).2 < f i then ((i : Int), f i) else drn p f i
theorem drn_ok {p : Nat} {f : Nat → Int} (hf : ∀ i, -100 ≤ f i ∧ f i ≤ 100) : ∀ i, drn p f i = (-2, -1000000) ∨ (0 ≤ (drn p f i).1 ∧ (drn p f i).1 < i ∧ -100 ≤ (drn p f i).2 ∧ (drn p f i).2 ≤ 100) := by
  intro i
  induction i with
  | zero => exact Or.inl rfl
  | succ i ih =>
    rw [drn]
    split
    · exact Or.inr ⟨by show (0 : Int) ≤ (i : Int); omega, by show (i : Int) < ((i + 1 : Nat) : Int); omega, (hf i).1, (hf i).2⟩
    · rcases ih with ih | ih
      · exact Or.inl ih
      · exact Or.inr ⟨ih.1, by omega, ih.2.2⟩
def drF (X : List Nat) (h : hrs) (sn : Nat) (sg : Nat → Nat) (e : est) (i : Nat) : Int := pL (mvK X h sn sg e (clrB (eP e) i)) (clrB (eP e) i) (wE sn sg e) h.1 - pL (mvK X h sn sg e (eP e)) (eP e) (wE sn sg e) h.1
theorem drF_ok {X : List Nat} {h : hrs} {sn : Nat} {sg : Nat → Nat} {e : est} (hs : ∀ i, sg i ≤ 9) (i : Nat) : -100 ≤ drF X h sn sg e i ∧ drF X h sn sg e i ≤ 100 := by
  have hw := wE_ok (sn := sn) (e := e) hs
  have h1 := pL_ok (mk := eP e) (mvK_nn (X := X) (h := h) (sn := sn) (sg := sg) (e := e) (mk := eP e)) hw h.1
  have h2 := pL_ok (mk := clrB (eP e) i) (mvK_nn (X := X) (h := h) (sn := sn) (sg := sg) (e := e) (mk := clrB (eP e) i)) hw h.1
  unfold drF
  omega
def drR (R : List Int) (s : Int × Int) : List Int := if s.1 = -2 then R else [s.2]
section P64
variable {l : Launch} {G : am_G} {d : Nat} {r : Nat} {X : List Nat} {C : List Int} {sn : Nat} {sg : Nat → Nat} {h : hrs} {e : est} {NB : Nat} {mem m : am_M}
theorem c_enough (q : CQ r X C sn sg h e NB mem) {R : List Int} (hR : c_row R mem) (v : Int) : am_Sm l G yX8_enough mt_X8_enough (d + 6) [.inr (.inr 1), .inl v] mem (fun q m => (¬ (0 ≤ v ∧ v ≤ 9999) → QC (-1) R mem q m) ∧ (0 ≤ v ∧ v ≤ 9999 → QC (srA (srch (fun k => decide (v ≤ (eB (itE X h sn sg e k) : Int))) 100 0)) (srR R (fun k => eM (itE X h sn sg e k)) (srch (fun k => decide (v ≤ (eB (itE X h sn sg e k) : Int))) 100 0)) mem q m)) := by
  refine am_enterQ (ls := [some (.inr (.inr 1)), some (.inl v), none]) (by decide) rfl (Nat.le_of_ble_eq_true rfl) rfl (fun hok Q hQ => ?_)
  have b := q.bd
  have L : 0 ≤ v ∧ v ≤ 9999 → ∀ i : Nat, i ≤ 100 → ∀ (m : am_M), frS s8 mem m → c_est (itE X h sn sg e i) 22 m → srch (fun k => decide (v ≤ (eB (itE X h sn sg e k) : Int))) 100 0 = srch (fun k => decide (v ≤ (eB (itE X h sn sg e k) : Int))) (100 - i) i → am_Rn l G mt_X8_enough (d + 6) 26 [some (.inr (.inr 1)), some (.inl v), some (.inl (i : Int))] [] m Q := by
    intro hv
    refine am_dn 100 (fun i hi ih m hf hE hS => ?_)
    refine rn_iload_n (x := (i : Int)) (q := 27) dX8_enough_26 rfl rfl ?_
    refine rn_bipush (q := 29) dX8_enough_27 ⟨by decide, by decide⟩ rfl ?_
    refine rn_cmpgt (t := 84) (q := 32) dX8_enough_29 rfl rfl (fun w29 => ?_) (fun w29 => ?_)
    · refine rn_bipush (q := 86) dX8_enough_84 ⟨by decide, by decide⟩ rfl ?_
      refine rn_iret dX8_enough_86 rfl ?_
      replace hS := hS.trans (srZ (by omega))
      exact hQ _ _ ⟨fun h => absurd hv h, fun _ => by rw [hS]; exact ⟨rfl, hf.r8, hR.kept hf⟩⟩
    · refine rn_aload_n (x := 0) (q := 33) dX8_enough_32 rfl rfl ?_
      refine rn_get (a := 0) (v := .inr (.inr 23)) (q := 36) dX8_enough_33 fl_X8_40 rfl rfl rfl ?_
      refine rn_get (a := 22) (v := .inl (eB (itE X h sn sg e i) : Int)) (q := 39) dX8_enough_36 fl_X8_256 rfl (am_gi hE.2.2.2.2.1) rfl ?_
      refine rn_iload_n (x := v) (q := 40) dX8_enough_39 rfl rfl ?_
      refine rn_cmplt (t := 60) (q := 43) dX8_enough_40 rfl rfl (fun w40 => ?_) (fun w40 => ?_)
      · refine rn_aload_n (x := 0) (q := 61) dX8_enough_60 rfl rfl ?_
        refine rn_get (a := 0) (v := .inr (.inr 6)) (q := 64) dX8_enough_61 fl_X8_26 rfl rfl rfl ?_
        refine rn_aload_n (x := 0) (q := 65) dX8_enough_64 rfl rfl ?_
        refine rn_get (a := 0) (v := .inr (.inr 23)) (q := 68) dX8_enough_65 fl_X8_40 rfl rfl rfl ?_
        refine rn_aload_n (x := 0) (q := 69) dX8_enough_68 rfl rfl ?_
        refine rn_get (a := 0) (v := .inr (.inr 6)) (q := 72) dX8_enough_69 fl_X8_26 rfl rfl rfl ?_
        refine rn_get (a := 5) (v := .inr (.inr (r + 1))) (q := 75) dX8_enough_72 fl_X8_172 rfl (show Sum.inr (Sum.inr (m 5 7).toNat) = _ by rw [(q.kept hf.r8).rl]; rfl) rfl ?_
        refine rn_callV (b := 5) (as := [.inr (.inr 23), .inr (.inr (r + 1))]) (rest := []) (q := 78) dX8_enough_75 ml_X8_252 sm_X6_pass rfl rfl (by decide) (by omega) rfl rfl (Nat.le_of_ble_eq_true rfl) rfl (c_passA (d := d + 0) (q.kept hf.r8) (k := i) (by omega) (itE_ok q.eo i) hE) ?_
        intro r75 mem75 hq75
        obtain ⟨rfl, he75, -, hf75⟩ := hq75
        show am_Rn l G _ _ 78 [some (.inr (.inr 1)), some (.inl v), some (.inl (i : Int))] [] mem75 _
        refine rn_iincN (x := (i : Int)) (z := ((i + 1 : Nat) : Int)) (ls' := [some (.inr (.inr 1)), some (.inl v), some (.inl ((i + 1 : Nat) : Int))]) (q := 81) dX8_enough_78 rfl (by decide) (by omega) (by unfold am_ok; omega) rfl rfl ?_
        refine rn_goto (t := 26) dX8_enough_81 rfl ?_
        exact ih (by omega) _ (hf.tr hf75) he75 (hS.trans (srN (by omega) (by intro z; have := of_decide_eq_true z; omega)))
      · refine rn_aload_n (x := 0) (q := 44) dX8_enough_43 rfl rfl ?_
        refine rn_get (a := 0) (v := .inr (.inr 4)) (q := 47) dX8_enough_44 fl_X8_19 rfl rfl rfl ?_
        refine rn_aload_n (x := 0) (q := 48) dX8_enough_47 rfl rfl ?_
        refine rn_get (a := 0) (v := .inr (.inr 23)) (q := 51) dX8_enough_48 fl_X8_40 rfl rfl rfl ?_
        refine rn_get (a := 22) (v := .inl (eM (itE X h sn sg e i) : Int)) (q := 54) dX8_enough_51 fl_X8_223 rfl (am_gi hE.2.2.2.2.2.1) rfl ?_
        refine rn_i2l (q := 55) dX8_enough_54 rfl ?_
        refine rn_callV (b := 3) (as := [.inr (.inl (eM (itE X h sn sg e i) : Int))]) (rest := []) (q := 58) dX8_enough_55 ml_X8_299 sm_X3_tell rfl rfl (by decide) (by omega) rfl rfl (Nat.le_of_ble_eq_true rfl) rfl (s_Rtell (d := d + 4) (eM (itE X h sn sg e i) : Int)) ?_
        intro r55 mem55 hq55
        obtain ⟨rfl, hr55, hf55⟩ := hq55
        show am_Rn l G _ _ 58 [some (.inr (.inr 1)), some (.inl v), some (.inl (i : Int))] [] mem55 _
        refine rn_iload_n (x := (i : Int)) (q := 59) dX8_enough_58 rfl rfl ?_
        refine rn_iret dX8_enough_59 rfl ?_
        replace hS := hS.trans (srY (by omega) (decide_eq_true (by omega)))
        exact hQ _ _ ⟨fun h => absurd hv h, fun _ => by rw [hS]; exact ⟨rfl, (hf.r8.tr (fr_row hf55)), hr55⟩⟩
  refine rn_iload_n (x := v) (q := 1) dX8_enough_0 rfl rfl ?_
  refine rn_iflt (t := 11) (q := 4) dX8_enough_1 rfl rfl (fun w1 => ?_) (fun w1 => ?_)
  · refine rn_iconst (q := 12) dX8_enough_11 (am_okd rfl) rfl ?_
    refine rn_iret dX8_enough_12 rfl ?_
    exact hQ _ _ ⟨fun _ => ⟨rfl, frS.rf, hR⟩, fun hn => by omega⟩
  · refine rn_iload_n (x := v) (q := 5) dX8_enough_4 rfl rfl ?_
    refine rn_sipush (q := 8) dX8_enough_5 ⟨by decide, by decide⟩ rfl ?_
    refine rn_cmple (t := 13) (q := 11) dX8_enough_8 rfl rfl (fun w8 => ?_) (fun w8 => ?_)
    · refine rn_aload_n (x := 0) (q := 14) dX8_enough_13 rfl rfl ?_
      refine rn_get (a := 0) (v := .inr (.inr 23)) (q := 17) dX8_enough_14 fl_X8_40 rfl rfl rfl ?_
      refine rn_aload_n (x := 0) (q := 18) dX8_enough_17 rfl rfl ?_
      refine rn_get (a := 0) (v := .inr (.inr 17)) (q := 21) dX8_enough_18 fl_X8_33 rfl rfl rfl ?_
      refine rn_callV (b := 22) (as := [.inr (.inr 17)]) (rest := []) (q := 24) dX8_enough_21 ml_X8_212 sm_X0_copy rfl rfl (by decide) (by omega) rfl rfl (Nat.le_of_ble_eq_true rfl) rfl (c_copyA (d := d + 5) q) ?_
      intro r21 mem21 hq21
      obtain ⟨rfl, he21, hf21⟩ := hq21
      show am_Rn l G _ _ 24 [some (.inr (.inr 1)), some (.inl v), none] [] mem21 _
      refine rn_iconst (q := 25) dX8_enough_24 (am_okd rfl) rfl ?_
      refine rn_istore_n (ls' := [some (.inr (.inr 1)), some (.inl v), some (.inl 0)]) (q := 26) dX8_enough_25 (by decide) rfl rfl ?_
      exact L (by omega) 0 (by omega) _ hf21 he21 rfl
    · refine rn_iconst (q := 12) dX8_enough_11 (am_okd rfl) rfl ?_
      refine rn_iret dX8_enough_12 rfl ?_
      exact hQ _ _ ⟨fun _ => ⟨rfl, frS.rf, hR⟩, fun hn => by omega⟩
theorem m_enough (q : DQ X sn sg h e NB mem) {R : List Int} (hR : m_row R mem) (v : Int) : am_Sm l G yX9_enough mt_X9_enough (d + 179) [.inr (.inr 96), .inl v] mem (fun q m => (¬ (0 ≤ v ∧ v ≤ 9999) → QM (-1) R mem q m) ∧ (0 ≤ v ∧ v ≤ 9999 → QM (srA (srch (fun k => decide (v ≤ (eB (itE X h sn sg e k) : Int))) 100 0)) (srR R (fun k => eM (itE X h sn sg e k)) (srch (fun k => decide (v ≤ (eB (itE X h sn sg e k) : Int))) 100 0)) mem q m)) := by
  refine am_enterQ (ls := [some (.inr (.inr 96)), some (.inl v), none]) (by decide) rfl (Nat.le_of_ble_eq_true rfl) rfl (fun hok Q hQ => ?_)
  have b := q.bd
  have L : 0 ≤ v ∧ v ≤ 9999 → ∀ i : Nat, i ≤ 100 → ∀ (m : am_M), frS s9 mem m → m_est (itE X h sn sg e i) 109 0 m → srch (fun k => decide (v ≤ (eB (itE X h sn sg e k) : Int))) 100 0 = srch (fun k => decide (v ≤ (eB (itE X h sn sg e k) : Int))) (100 - i) i → am_Rn l G mt_X9_enough (d + 179) 32 [some (.inr (.inr 96)), some (.inl v), some (.inl (i : Int))] [] m Q := by
    intro hv
    refine am_dn 100 (fun i hi ih m hf hE hS => ?_)
    refine rn_iload_n (x := (i : Int)) (q := 33) dX9_enough_32 rfl rfl ?_
    refine rn_bipush (q := 35) dX9_enough_33 ⟨by decide, by decide⟩ rfl ?_
    refine rn_cmpgt (t := 82) (q := 38) dX9_enough_35 rfl rfl (fun w35 => ?_) (fun w35 => ?_)
    · refine rn_bipush (q := 84) dX9_enough_82 ⟨by decide, by decide⟩ rfl ?_
      refine rn_iret dX9_enough_84 rfl ?_
      replace hS := hS.trans (srZ (by omega))
      exact hQ _ _ ⟨fun h => absurd hv h, fun _ => by rw [hS]; exact ⟨rfl, hf.r9, hR.kept hf⟩⟩
    · refine rn_aload_n (x := 95) (q := 39) dX9_enough_38 rfl rfl ?_
      refine rn_get (a := 95) (v := .inr (.inr 110)) (q := 42) dX9_enough_39 fl_X9_55 rfl rfl rfl ?_
      refine rn_bipush (q := 44) dX9_enough_42 ⟨by decide, by decide⟩ rfl ?_
      refine rn_ialdV (a := 109) (v := (eB (itE X h sn sg e i) : Int)) (q := 45) dX9_enough_44 rfl (by omega) (by omega) hE.a.2.2.2.1 rfl ?_
      refine rn_iload_n (x := v) (q := 46) dX9_enough_45 rfl rfl ?_
      refine rn_cmplt (t := 68) (q := 49) dX9_enough_46 rfl rfl (fun w46 => ?_) (fun w46 => ?_)
      · refine rn_aload_n (x := 95) (q := 69) dX9_enough_68 rfl rfl ?_
        refine rn_aload_n (x := 95) (q := 70) dX9_enough_69 rfl rfl ?_
        refine rn_get (a := 95) (v := .inr (.inr 110)) (q := 73) dX9_enough_70 fl_X9_55 rfl rfl rfl ?_
        refine rn_callV (b := 95) (as := [.inr (.inr 110)]) (rest := []) (q := 76) dX9_enough_73 ml_X9_265 sm_X9_goNight rfl rfl (by decide) (by omega) rfl rfl (Nat.le_of_ble_eq_true rfl) rfl (m_goNightA (d := d + 0) (q.kept hf.r9) (Or.inl rfl) (k := i) (by omega) (itE_ok q.eo i) hE) ?_
        intro r73 mem73 hq73
        obtain ⟨rfl, he73, hf73, -, -⟩ := hq73
        show am_Rn l G _ _ 76 [some (.inr (.inr 96)), some (.inl v), some (.inl (i : Int))] [] mem73 _
        refine rn_iincN (x := (i : Int)) (z := ((i + 1 : Nat) : Int)) (ls' := [some (.inr (.inr 96)), some (.inl v), some (.inl ((i + 1 : Nat) : Int))]) (q := 79) dX9_enough_76 rfl (by decide) (by omega) (by unfold am_ok; omega) rfl rfl ?_
        refine rn_goto (t := 32) dX9_enough_79 rfl ?_
        exact ih (by omega) _ (hf.tr hf73) he73 (hS.trans (srN (by omega) (by intro z; have := of_decide_eq_true z; omega)))
      · refine rn_aload_n (x := 95) (q := 50) dX9_enough_49 rfl rfl ?_
        refine rn_iconst (q := 51) dX9_enough_50 (am_okd rfl) rfl ?_
        refine rn_puti (a := 95) (q := 54) dX9_enough_51 fl_X9_110 rfl rfl rfl rfl ?_
        refine rn_aload_n (x := 95) (q := 55) dX9_enough_54 rfl rfl ?_
        refine rn_aload_n (x := 95) (q := 56) dX9_enough_55 rfl rfl ?_
        refine rn_get (a := 95) (v := .inr (.inr 110)) (q := 59) dX9_enough_56 fl_X9_55 rfl rfl rfl ?_
        refine rn_bipush (q := 61) dX9_enough_59 ⟨by decide, by decide⟩ rfl ?_
        refine rn_ialdV (a := 109) (v := (eM (itE X h sn sg e i) : Int)) (q := 62) dX9_enough_61 rfl (by omega) (by omega) hE.a.2.2.2.2.1 rfl ?_
        refine rn_i2l (q := 63) dX9_enough_62 rfl ?_
        refine rn_callV (b := 95) (as := [.inr (.inl (eM (itE X h sn sg e i) : Int))]) (rest := []) (q := 66) dX9_enough_63 ml_X9_275 sm_X9_tell rfl rfl (by decide) (by omega) rfl rfl (Nat.le_of_ble_eq_true rfl) rfl (m_tell (d := d + 178) m_row0 (by first | decide | simp | omega) (eM (itE X h sn sg e i) : Int)) ?_
        intro r63 mem63 hq63
        obtain ⟨rfl, hr63, hf63⟩ := hq63
        show am_Rn l G _ _ 66 [some (.inr (.inr 96)), some (.inl v), some (.inl (i : Int))] [] mem63 _
        refine rn_iload_n (x := (i : Int)) (q := 67) dX9_enough_66 rfl rfl ?_
        refine rn_iret dX9_enough_67 rfl ?_
        replace hS := hS.trans (srY (by omega) (decide_eq_true (by omega)))
        exact hQ _ _ ⟨fun h => absurd hv h, fun _ => by rw [hS]; exact ⟨rfl, ((frS.up (a := 95) (k := 10) (x := 0) hf.r9 rfl).tr hf63), hr63⟩⟩
  refine rn_aload_n (x := 95) (q := 1) dX9_enough_0 rfl rfl ?_
  refine rn_iconst (q := 2) dX9_enough_1 (am_okd rfl) rfl ?_
  refine rn_puti (a := 95) (q := 5) dX9_enough_2 fl_X9_107 rfl rfl rfl rfl ?_
  refine rn_iload_n (x := v) (q := 6) dX9_enough_5 rfl rfl ?_
  refine rn_iconst (q := 7) dX9_enough_6 (am_okd rfl) rfl ?_
  refine rn_sipush (q := 10) dX9_enough_7 ⟨by decide, by decide⟩ rfl ?_
  refine rn_callS (as := [.inl v, .inl 0, .inl 9999]) (rest := []) (q := 13) dX9_enough_10 ml_X9_116 sm_X9_in (by omega) rfl rfl (Nat.le_of_ble_eq_true rfl) rfl (s_in9 (d := d + 178) v 0 9999) ?_
  intro r10 mem10 hq10
  obtain ⟨⟨rfl, hi10⟩ | ⟨rfl, hi10⟩, rfl⟩ := hq10
  · show am_Rn l G _ _ 13 [some (.inr (.inr 96)), some (.inl v), none] [.inl 1] (am_up mem 95 11 0) _
    refine rn_ifne (t := 18) (q := 16) dX9_enough_13 rfl rfl (fun w13 => ?_) (fun h => absurd h (by decide))
    refine rn_aload_n (x := 95) (q := 19) dX9_enough_18 rfl rfl ?_
    refine rn_get (a := 95) (v := .inr (.inr 97)) (q := 22) dX9_enough_19 fl_X9_9 rfl rfl rfl ?_
    refine rn_aload_n (x := 95) (q := 23) dX9_enough_22 rfl rfl ?_
    refine rn_get (a := 95) (v := .inr (.inr 110)) (q := 26) dX9_enough_23 fl_X9_55 rfl rfl rfl ?_
    refine rn_iconst (q := 27) dX9_enough_26 (am_okd rfl) rfl ?_
    refine rn_callS (as := [.inr (.inr 97), .inr (.inr 110), .inl 0]) (rest := []) (q := 30) dX9_enough_27 ml_X9_248 sm_X9_lay (by omega) rfl rfl (Nat.le_of_ble_eq_true rfl) rfl (m_layA (d := d + 178) (q.kept (frS.up (a := 95) (k := 11) (x := 0) frS.rf rfl)) (Or.inl rfl)) ?_
    intro r27 mem27 hq27
    obtain ⟨rfl, he27, hf27⟩ := hq27
    show am_Rn l G _ _ 30 [some (.inr (.inr 96)), some (.inl v), none] [] mem27 _
    refine rn_iconst (q := 31) dX9_enough_30 (am_okd rfl) rfl ?_
    refine rn_istore_n (ls' := [some (.inr (.inr 96)), some (.inl v), some (.inl 0)]) (q := 32) dX9_enough_31 (by decide) rfl rfl ?_
    exact L (by omega) 0 (by omega) _ ((frS.rf.up rfl).tr hf27) he27 rfl
  · show am_Rn l G _ _ 13 [some (.inr (.inr 96)), some (.inl v), none] [.inl 0] (am_up mem 95 11 0) _
    refine rn_ifne (t := 18) (q := 16) dX9_enough_13 rfl rfl (fun h => absurd h (by decide)) (fun w13 => ?_)
    refine rn_iconst (q := 17) dX9_enough_16 (am_okd rfl) rfl ?_
    refine rn_iret dX9_enough_17 rfl ?_
    exact hQ _ _ ⟨fun _ => ⟨rfl, (frS.up (a := 95) (k := 11) (x := 0) frS.rf rfl), hR.kept (frS.rf.up rfl)⟩, fun hn => by omega⟩
theorem c_hears (q : CQ r X C sn sg h e NB mem) {R : List Int} (hR : c_row R mem) (i v : Int) : am_Sm l G yX8_hears mt_X8_hears (d + 6) [.inr (.inr 1), .inl i, .inl v] mem (fun q m => (¬ ((0 ≤ i ∧ i < h.1) ∧ 0 ≤ v ∧ v ≤ 99) → QC (-1) R mem q m) ∧ ((0 ≤ i ∧ i < h.1) ∧ 0 ≤ v ∧ v ≤ 99 → QC (srA (srch (fun k => decide (v ≤ (eH (itE X h sn sg e k) i.toNat : Int))) 100 0)) (srR R (fun k => eB (itE X h sn sg e k)) (srch (fun k => decide (v ≤ (eH (itE X h sn sg e k) i.toNat : Int))) 100 0)) mem q m)) := by
  refine am_enterQ (ls := [some (.inr (.inr 1)), some (.inl i), some (.inl v), none]) (by decide) rfl (Nat.le_of_ble_eq_true rfl) rfl (fun hok Q hQ => ?_)
  have b := q.bd
  have L : (0 ≤ i ∧ i < h.1) ∧ 0 ≤ v ∧ v ≤ 99 → ∀ j : Nat, j ≤ 100 → ∀ (m : am_M), frS s8 mem m → c_est (itE X h sn sg e j) 22 m → srch (fun k => decide (v ≤ (eH (itE X h sn sg e k) i.toNat : Int))) 100 0 = srch (fun k => decide (v ≤ (eH (itE X h sn sg e k) i.toNat : Int))) (100 - j) j → am_Rn l G mt_X8_hears (d + 6) 36 [some (.inr (.inr 1)), some (.inl i), some (.inl v), some (.inl (j : Int))] [] m Q := by
    intro hv
    refine am_dn 100 (fun j hj ih m hf hE hS => ?_)
    refine rn_iload_n (x := (j : Int)) (q := 37) dX8_hears_36 rfl rfl ?_
    refine rn_bipush (q := 39) dX8_hears_37 ⟨by decide, by decide⟩ rfl ?_
    refine rn_cmpgt (t := 96) (q := 42) dX8_hears_39 rfl rfl (fun w39 => ?_) (fun w39 => ?_)
    · refine rn_bipush (q := 98) dX8_hears_96 ⟨by decide, by decide⟩ rfl ?_
      refine rn_iret dX8_hears_98 rfl ?_
      replace hS := hS.trans (srZ (by omega))
      exact hQ _ _ ⟨fun h => absurd hv h, fun _ => by rw [hS]; exact ⟨rfl, hf.r8, hR.kept hf⟩⟩
    · refine rn_aload_n (x := 0) (q := 43) dX8_hears_42 rfl rfl ?_
      refine rn_get (a := 0) (v := .inr (.inr 23)) (q := 46) dX8_hears_43 fl_X8_40 rfl rfl rfl ?_
      refine rn_get (a := 22) (v := .inr (.inr 24)) (q := 49) dX8_hears_46 fl_X8_159 rfl rfl rfl ?_
      refine rn_iload_n (x := i) (q := 50) dX8_hears_49 rfl rfl ?_
      refine rn_ialdV (a := 23) (v := (eH (itE X h sn sg e j) i.toNat : Int)) (q := 51) dX8_hears_50 rfl (by omega) (by omega) (hE.1 i.toNat (by omega)) rfl ?_
      refine rn_iload_n (x := v) (q := 52) dX8_hears_51 rfl rfl ?_
      refine rn_cmplt (t := 72) (q := 55) dX8_hears_52 rfl rfl (fun w52 => ?_) (fun w52 => ?_)
      · refine rn_aload_n (x := 0) (q := 73) dX8_hears_72 rfl rfl ?_
        refine rn_get (a := 0) (v := .inr (.inr 6)) (q := 76) dX8_hears_73 fl_X8_26 rfl rfl rfl ?_
        refine rn_aload_n (x := 0) (q := 77) dX8_hears_76 rfl rfl ?_
        refine rn_get (a := 0) (v := .inr (.inr 23)) (q := 80) dX8_hears_77 fl_X8_40 rfl rfl rfl ?_
        refine rn_aload_n (x := 0) (q := 81) dX8_hears_80 rfl rfl ?_
        refine rn_get (a := 0) (v := .inr (.inr 6)) (q := 84) dX8_hears_81 fl_X8_26 rfl rfl rfl ?_
        refine rn_get (a := 5) (v := .inr (.inr (r + 1))) (q := 87) dX8_hears_84 fl_X8_172 rfl (show Sum.inr (Sum.inr (m 5 7).toNat) = _ by rw [(q.kept hf.r8).rl]; rfl) rfl ?_
        refine rn_callV (b := 5) (as := [.inr (.inr 23), .inr (.inr (r + 1))]) (rest := []) (q := 90) dX8_hears_87 ml_X8_252 sm_X6_pass rfl rfl (by decide) (by omega) rfl rfl (Nat.le_of_ble_eq_true rfl) rfl (c_passA (d := d + 0) (q.kept hf.r8) (k := j) (by omega) (itE_ok q.eo j) hE) ?_
        intro r87 mem87 hq87
        obtain ⟨rfl, he87, -, hf87⟩ := hq87
        show am_Rn l G _ _ 90 [some (.inr (.inr 1)), some (.inl i), some (.inl v), some (.inl (j : Int))] [] mem87 _
        refine rn_iincN (x := (j : Int)) (z := ((j + 1 : Nat) : Int)) (ls' := [some (.inr (.inr 1)), some (.inl i), some (.inl v), some (.inl ((j + 1 : Nat) : Int))]) (q := 93) dX8_hears_90 rfl (by decide) (by omega) (by unfold am_ok; omega) rfl rfl ?_
        refine rn_goto (t := 36) dX8_hears_93 rfl ?_
        exact ih (by omega) _ (hf.tr hf87) he87 (hS.trans (srN (by omega) (by intro z; have := of_decide_eq_true z; omega)))
      · refine rn_aload_n (x := 0) (q := 56) dX8_hears_55 rfl rfl ?_
        refine rn_get (a := 0) (v := .inr (.inr 4)) (q := 59) dX8_hears_56 fl_X8_19 rfl rfl rfl ?_
        refine rn_aload_n (x := 0) (q := 60) dX8_hears_59 rfl rfl ?_
        refine rn_get (a := 0) (v := .inr (.inr 23)) (q := 63) dX8_hears_60 fl_X8_40 rfl rfl rfl ?_
        refine rn_get (a := 22) (v := .inl (eB (itE X h sn sg e j) : Int)) (q := 66) dX8_hears_63 fl_X8_256 rfl (am_gi hE.2.2.2.2.1) rfl ?_
        refine rn_i2l (q := 67) dX8_hears_66 rfl ?_
        refine rn_callV (b := 3) (as := [.inr (.inl (eB (itE X h sn sg e j) : Int))]) (rest := []) (q := 70) dX8_hears_67 ml_X8_299 sm_X3_tell rfl rfl (by decide) (by omega) rfl rfl (Nat.le_of_ble_eq_true rfl) rfl (s_Rtell (d := d + 4) (eB (itE X h sn sg e j) : Int)) ?_
        intro r67 mem67 hq67
        obtain ⟨rfl, hr67, hf67⟩ := hq67
        show am_Rn l G _ _ 70 [some (.inr (.inr 1)), some (.inl i), some (.inl v), some (.inl (j : Int))] [] mem67 _
        refine rn_iload_n (x := (j : Int)) (q := 71) dX8_hears_70 rfl rfl ?_
        refine rn_iret dX8_hears_71 rfl ?_
        replace hS := hS.trans (srY (by omega) (decide_eq_true (by omega)))
        exact hQ _ _ ⟨fun h => absurd hv h, fun _ => by rw [hS]; exact ⟨rfl, (hf.r8.tr (fr_row hf67)), hr67⟩⟩
  refine rn_aload_n (x := 0) (q := 1) dX8_hears_0 rfl rfl ?_
  refine rn_get (a := 0) (v := .inr (.inr 6)) (q := 4) dX8_hears_1 fl_X8_26 rfl rfl rfl ?_
  refine rn_iload_n (x := i) (q := 5) dX8_hears_4 rfl rfl ?_
  refine rn_callV (b := 5) (as := [.inl i]) (rest := []) (q := 8) dX8_hears_5 ml_X8_175 sm_X6_has rfl rfl (by decide) (by omega) rfl rfl (Nat.le_of_ble_eq_true rfl) rfl (c_has (d := d + 5) q i) ?_
  intro r5 mem5 hq5
  obtain ⟨⟨rfl, hh5⟩ | ⟨rfl, hh5⟩, rfl⟩ := hq5
  · show am_Rn l G _ _ 8 [some (.inr (.inr 1)), some (.inl i), some (.inl v), none] [.inl 1] mem _
    refine rn_ifeq (t := 21) (q := 11) dX8_hears_8 rfl rfl (fun h => absurd h (by decide)) (fun w8 => ?_)
    refine rn_iload_n (x := v) (q := 12) dX8_hears_11 rfl rfl ?_
    refine rn_iflt (t := 21) (q := 15) dX8_hears_12 rfl rfl (fun w12 => ?_) (fun w12 => ?_)
    · refine rn_iconst (q := 22) dX8_hears_21 (am_okd rfl) rfl ?_
      refine rn_iret dX8_hears_22 rfl ?_
      exact hQ _ _ ⟨fun _ => ⟨rfl, frS.rf, hR⟩, fun hn => by omega⟩
    · refine rn_iload_n (x := v) (q := 16) dX8_hears_15 rfl rfl ?_
      refine rn_bipush (q := 18) dX8_hears_16 ⟨by decide, by decide⟩ rfl ?_
      refine rn_cmple (t := 23) (q := 21) dX8_hears_18 rfl rfl (fun w18 => ?_) (fun w18 => ?_)
      · refine rn_aload_n (x := 0) (q := 24) dX8_hears_23 rfl rfl ?_
        refine rn_get (a := 0) (v := .inr (.inr 23)) (q := 27) dX8_hears_24 fl_X8_40 rfl rfl rfl ?_
        refine rn_aload_n (x := 0) (q := 28) dX8_hears_27 rfl rfl ?_
        refine rn_get (a := 0) (v := .inr (.inr 17)) (q := 31) dX8_hears_28 fl_X8_33 rfl rfl rfl ?_
        refine rn_callV (b := 22) (as := [.inr (.inr 17)]) (rest := []) (q := 34) dX8_hears_31 ml_X8_212 sm_X0_copy rfl rfl (by decide) (by omega) rfl rfl (Nat.le_of_ble_eq_true rfl) rfl (c_copyA (d := d + 5) q) ?_
        intro r31 mem31 hq31
        obtain ⟨rfl, he31, hf31⟩ := hq31
        show am_Rn l G _ _ 34 [some (.inr (.inr 1)), some (.inl i), some (.inl v), none] [] mem31 _
        refine rn_iconst (q := 35) dX8_hears_34 (am_okd rfl) rfl ?_
        refine rn_istore_n (ls' := [some (.inr (.inr 1)), some (.inl i), some (.inl v), some (.inl 0)]) (q := 36) dX8_hears_35 (by decide) rfl rfl ?_
        exact L (by omega) 0 (by omega) _ hf31 he31 rfl
      · refine rn_iconst (q := 22) dX8_hears_21 (am_okd rfl) rfl ?_
        refine rn_iret dX8_hears_22 rfl ?_
        exact hQ _ _ ⟨fun _ => ⟨rfl, frS.rf, hR⟩, fun hn => by omega⟩
  · show am_Rn l G _ _ 8 [some (.inr (.inr 1)), some (.inl i), some (.inl v), none] [.inl 0] mem _
    refine rn_ifeq (t := 21) (q := 11) dX8_hears_8 rfl rfl (fun w8 => ?_) (fun h => absurd h (by decide))
    refine rn_iconst (q := 22) dX8_hears_21 (am_okd rfl) rfl ?_
    refine rn_iret dX8_hears_22 rfl ?_
    exact hQ _ _ ⟨fun _ => ⟨rfl, frS.rf, hR⟩, fun hn => by omega⟩
theorem m_hears (q : DQ X sn sg h e NB mem) {R : List Int} (hR : m_row R mem) (i v : Int) : am_Sm l G yX9_hears mt_X9_hears (d + 179) [.inr (.inr 96), .inl i, .inl v] mem (fun q m => (¬ ((0 ≤ i ∧ i < h.1) ∧ 0 ≤ v ∧ v ≤ 99) → QM (-1) R mem q m) ∧ ((0 ≤ i ∧ i < h.1) ∧ 0 ≤ v ∧ v ≤ 99 → QM (srA (srch (fun k => decide (v ≤ (eH (itE X h sn sg e k) i.toNat : Int))) 100 0)) (srR R (fun k => eB (itE X h sn sg e k)) (srch (fun k => decide (v ≤ (eH (itE X h sn sg e k) i.toNat : Int))) 100 0)) mem q m)) := by
  refine am_enterQ (ls := [some (.inr (.inr 96)), some (.inl i), some (.inl v), none]) (by decide) rfl (Nat.le_of_ble_eq_true rfl) rfl (fun hok Q hQ => ?_)
  have b := q.bd
  have L : (0 ≤ i ∧ i < h.1) ∧ 0 ≤ v ∧ v ≤ 99 → ∀ j : Nat, j ≤ 100 → ∀ (m : am_M), frS s9 mem m → m_est (itE X h sn sg e j) 109 0 m → srch (fun k => decide (v ≤ (eH (itE X h sn sg e k) i.toNat : Int))) 100 0 = srch (fun k => decide (v ≤ (eH (itE X h sn sg e k) i.toNat : Int))) (100 - j) j → am_Rn l G mt_X9_hears (d + 179) 39 [some (.inr (.inr 96)), some (.inl i), some (.inl v), some (.inl (j : Int))] [] m Q := by
    intro hv
    refine am_dn 100 (fun j hj ih m hf hE hS => ?_)
    refine rn_iload_n (x := (j : Int)) (q := 40) dX9_hears_39 rfl rfl ?_
    refine rn_bipush (q := 42) dX9_hears_40 ⟨by decide, by decide⟩ rfl ?_
    refine rn_cmpgt (t := 88) (q := 45) dX9_hears_42 rfl rfl (fun w42 => ?_) (fun w42 => ?_)
    · refine rn_bipush (q := 90) dX9_hears_88 ⟨by decide, by decide⟩ rfl ?_
      refine rn_iret dX9_hears_90 rfl ?_
      replace hS := hS.trans (srZ (by omega))
      exact hQ _ _ ⟨fun h => absurd hv h, fun _ => by rw [hS]; exact ⟨rfl, hf.r9, hR.kept hf⟩⟩
    · refine rn_aload_n (x := 95) (q := 46) dX9_hears_45 rfl rfl ?_
      refine rn_get (a := 95) (v := .inr (.inr 110)) (q := 49) dX9_hears_46 fl_X9_55 rfl rfl rfl ?_
      refine rn_iload_n (x := i) (q := 50) dX9_hears_49 rfl rfl ?_
      refine rn_ialdV (a := 109) (v := (eH (itE X h sn sg e j) i.toNat : Int)) (q := 51) dX9_hears_50 rfl (by omega) (by omega) (hE.a.1 i.toNat (by omega)) rfl ?_
      refine rn_iload_n (x := v) (q := 52) dX9_hears_51 rfl rfl ?_
      refine rn_cmplt (t := 74) (q := 55) dX9_hears_52 rfl rfl (fun w52 => ?_) (fun w52 => ?_)
      · refine rn_aload_n (x := 95) (q := 75) dX9_hears_74 rfl rfl ?_
        refine rn_aload_n (x := 95) (q := 76) dX9_hears_75 rfl rfl ?_
        refine rn_get (a := 95) (v := .inr (.inr 110)) (q := 79) dX9_hears_76 fl_X9_55 rfl rfl rfl ?_
        refine rn_callV (b := 95) (as := [.inr (.inr 110)]) (rest := []) (q := 82) dX9_hears_79 ml_X9_265 sm_X9_goNight rfl rfl (by decide) (by omega) rfl rfl (Nat.le_of_ble_eq_true rfl) rfl (m_goNightA (d := d + 0) (q.kept hf.r9) (Or.inl rfl) (k := j) (by omega) (itE_ok q.eo j) hE) ?_
        intro r79 mem79 hq79
        obtain ⟨rfl, he79, hf79, -, -⟩ := hq79
        show am_Rn l G _ _ 82 [some (.inr (.inr 96)), some (.inl i), some (.inl v), some (.inl (j : Int))] [] mem79 _
        refine rn_iincN (x := (j : Int)) (z := ((j + 1 : Nat) : Int)) (ls' := [some (.inr (.inr 96)), some (.inl i), some (.inl v), some (.inl ((j + 1 : Nat) : Int))]) (q := 85) dX9_hears_82 rfl (by decide) (by omega) (by unfold am_ok; omega) rfl rfl ?_
        refine rn_goto (t := 39) dX9_hears_85 rfl ?_
        exact ih (by omega) _ (hf.tr hf79) he79 (hS.trans (srN (by omega) (by intro z; have := of_decide_eq_true z; omega)))
      · refine rn_aload_n (x := 95) (q := 56) dX9_hears_55 rfl rfl ?_
        refine rn_iconst (q := 57) dX9_hears_56 (am_okd rfl) rfl ?_
        refine rn_puti (a := 95) (q := 60) dX9_hears_57 fl_X9_110 rfl rfl rfl rfl ?_
        refine rn_aload_n (x := 95) (q := 61) dX9_hears_60 rfl rfl ?_
        refine rn_aload_n (x := 95) (q := 62) dX9_hears_61 rfl rfl ?_
        refine rn_get (a := 95) (v := .inr (.inr 110)) (q := 65) dX9_hears_62 fl_X9_55 rfl rfl rfl ?_
        refine rn_bipush (q := 67) dX9_hears_65 ⟨by decide, by decide⟩ rfl ?_
        refine rn_ialdV (a := 109) (v := (eB (itE X h sn sg e j) : Int)) (q := 68) dX9_hears_67 rfl (by omega) (by omega) hE.a.2.2.2.1 rfl ?_
        refine rn_i2l (q := 69) dX9_hears_68 rfl ?_
        refine rn_callV (b := 95) (as := [.inr (.inl (eB (itE X h sn sg e j) : Int))]) (rest := []) (q := 72) dX9_hears_69 ml_X9_275 sm_X9_tell rfl rfl (by decide) (by omega) rfl rfl (Nat.le_of_ble_eq_true rfl) rfl (m_tell (d := d + 178) m_row0 (by first | decide | simp | omega) (eB (itE X h sn sg e j) : Int)) ?_
        intro r69 mem69 hq69
        obtain ⟨rfl, hr69, hf69⟩ := hq69
        show am_Rn l G _ _ 72 [some (.inr (.inr 96)), some (.inl i), some (.inl v), some (.inl (j : Int))] [] mem69 _
        refine rn_iload_n (x := (j : Int)) (q := 73) dX9_hears_72 rfl rfl ?_
        refine rn_iret dX9_hears_73 rfl ?_
        replace hS := hS.trans (srY (by omega) (decide_eq_true (by omega)))
        exact hQ _ _ ⟨fun h => absurd hv h, fun _ => by rw [hS]; exact ⟨rfl, ((frS.up (a := 95) (k := 10) (x := 0) hf.r9 rfl).tr hf69), hr69⟩⟩
  refine rn_aload_n (x := 95) (q := 1) dX9_hears_0 rfl rfl ?_
  refine rn_iconst (q := 2) dX9_hears_1 (am_okd rfl) rfl ?_
  refine rn_puti (a := 95) (q := 5) dX9_hears_2 fl_X9_107 rfl rfl rfl rfl ?_
  refine rn_aload_n (x := 95) (q := 6) dX9_hears_5 rfl rfl ?_
  refine rn_iload_n (x := i) (q := 7) dX9_hears_6 rfl rfl ?_
  refine rn_callV (b := 95) (as := [.inl i]) (rest := []) (q := 10) dX9_hears_7 ml_X9_234 sm_X9_isMan rfl rfl (by decide) (by omega) rfl rfl (Nat.le_of_ble_eq_true rfl) rfl (s_isMan9 (d := d + 177) (q.kept (frS.up (a := 95) (k := 11) (x := 0) frS.rf rfl)) i) ?_
  intro r7 mem7 hq7
  obtain ⟨⟨rfl, hh7⟩ | ⟨rfl, hh7⟩, rfl⟩ := hq7
  · show am_Rn l G _ _ 10 [some (.inr (.inr 96)), some (.inl i), some (.inl v), none] [.inl 1] (am_up mem 95 11 0) _
    refine rn_ifeq (t := 23) (q := 13) dX9_hears_10 rfl rfl (fun h => absurd h (by decide)) (fun w10 => ?_)
    refine rn_iload_n (x := v) (q := 14) dX9_hears_13 rfl rfl ?_
    refine rn_iconst (q := 15) dX9_hears_14 (am_okd rfl) rfl ?_
    refine rn_bipush (q := 17) dX9_hears_15 ⟨by decide, by decide⟩ rfl ?_
    refine rn_callS (as := [.inl v, .inl 0, .inl 99]) (rest := []) (q := 20) dX9_hears_17 ml_X9_116 sm_X9_in (by omega) rfl rfl (Nat.le_of_ble_eq_true rfl) rfl (s_in9 (d := d + 178) v 0 99) ?_
    intro r17 mem17 hq17
    obtain ⟨⟨rfl, hi17⟩ | ⟨rfl, hi17⟩, rfl⟩ := hq17
    · show am_Rn l G _ _ 20 [some (.inr (.inr 96)), some (.inl i), some (.inl v), none] [.inl 1] (am_up mem 95 11 0) _
      refine rn_ifne (t := 25) (q := 23) dX9_hears_20 rfl rfl (fun w20 => ?_) (fun h => absurd h (by decide))
      refine rn_aload_n (x := 95) (q := 26) dX9_hears_25 rfl rfl ?_
      refine rn_get (a := 95) (v := .inr (.inr 97)) (q := 29) dX9_hears_26 fl_X9_9 rfl rfl rfl ?_
      refine rn_aload_n (x := 95) (q := 30) dX9_hears_29 rfl rfl ?_
      refine rn_get (a := 95) (v := .inr (.inr 110)) (q := 33) dX9_hears_30 fl_X9_55 rfl rfl rfl ?_
      refine rn_iconst (q := 34) dX9_hears_33 (am_okd rfl) rfl ?_
      refine rn_callS (as := [.inr (.inr 97), .inr (.inr 110), .inl 0]) (rest := []) (q := 37) dX9_hears_34 ml_X9_248 sm_X9_lay (by omega) rfl rfl (Nat.le_of_ble_eq_true rfl) rfl (m_layA (d := d + 178) (q.kept (frS.up (a := 95) (k := 11) (x := 0) frS.rf rfl)) (Or.inl rfl)) ?_
      intro r34 mem34 hq34
      obtain ⟨rfl, he34, hf34⟩ := hq34
      show am_Rn l G _ _ 37 [some (.inr (.inr 96)), some (.inl i), some (.inl v), none] [] mem34 _
      refine rn_iconst (q := 38) dX9_hears_37 (am_okd rfl) rfl ?_
      refine rn_istore_n (ls' := [some (.inr (.inr 96)), some (.inl i), some (.inl v), some (.inl 0)]) (q := 39) dX9_hears_38 (by decide) rfl rfl ?_
      exact L (by omega) 0 (by omega) _ ((frS.rf.up rfl).tr hf34) he34 rfl
    · show am_Rn l G _ _ 20 [some (.inr (.inr 96)), some (.inl i), some (.inl v), none] [.inl 0] (am_up mem 95 11 0) _
      refine rn_ifne (t := 25) (q := 23) dX9_hears_20 rfl rfl (fun h => absurd h (by decide)) (fun w20 => ?_)
      refine rn_iconst (q := 24) dX9_hears_23 (am_okd rfl) rfl ?_
      refine rn_iret dX9_hears_24 rfl ?_
      exact hQ _ _ ⟨fun _ => ⟨rfl, (frS.up (a := 95) (k := 11) (x := 0) frS.rf rfl), hR.kept (frS.rf.up rfl)⟩, fun hn => by omega⟩
  · show am_Rn l G _ _ 10 [some (.inr (.inr 96)), some (.inl i), some (.inl v), none] [.inl 0] (am_up mem 95 11 0) _
    refine rn_ifeq (t := 23) (q := 13) dX9_hears_10 rfl rfl (fun w10 => ?_) (fun h => absurd h (by decide))
    refine rn_iconst (q := 24) dX9_hears_23 (am_okd rfl) rfl ?_
    refine rn_iret dX9_hears_24 rfl ?_
    exact hQ _ _ ⟨fun _ => ⟨rfl, (frS.up (a := 95) (k := 11) (x := 0) frS.rf rfl), hR.kept (frS.rf.up rfl)⟩, fun hn => by omega⟩
theorem c_quiet (q : CQ r X C sn sg h e NB mem) {R : List Int} (hR : c_row R mem) (n : Int) : am_Sm l G yX8_quiet mt_X8_quiet (d + 6) [.inr (.inr 1), .inl n] mem (fun q m => (¬ (0 ≤ n ∧ n ≤ 60) → QC (-1) R mem q m) ∧ (0 ≤ n ∧ n ≤ 60 → QC ((qt (qtZ X h sn sg e) n.toNat).1 : Int) [(qt (qtZ X h sn sg e) n.toNat).2.1] mem q m)) := by
  refine am_enterQ (ls := [some (.inr (.inr 1)), some (.inl n), none, none, none, none]) (by decide) rfl (Nat.le_of_ble_eq_true rfl) rfl (fun hok Q hQ => ?_)
  have b := q.bd
  have L : 0 ≤ n ∧ n ≤ 60 → ∀ i : Nat, i ≤ n.toNat → ∀ (m : am_M) (s : Nat) (t : Int) (u : Nat), frS s8 mem m → c_est (itE X h sn sg e i) 22 m → s = (qt (qtZ X h sn sg e) i).1 → t = (qt (qtZ X h sn sg e) i).2.1 → u = (qt (qtZ X h sn sg e) i).2.2 → am_Rn l G mt_X8_quiet (d + 6) 33 [some (.inr (.inr 1)), some (.inl n), some (.inl (s : Int)), some (.inl t), some (.inl (u : Int)), some (.inl (i : Int))] [] m Q := by
    intro hv
    refine am_dn n.toNat (fun i hi ih m s t u hf hE hs ht hu => ?_)
    have o := qt_ok (z := qtZ X h sn sg e) i
    refine rn_iload (x := (i : Int)) (q := 35) dX8_quiet_33 rfl rfl ?_
    refine rn_iload_n (x := n) (q := 36) dX8_quiet_35 rfl rfl ?_
    refine rn_cmpge (t := 100) (q := 39) dX8_quiet_36 rfl rfl (fun w36 => ?_) (fun w36 => ?_)
    · refine rn_aload_n (x := 0) (q := 101) dX8_quiet_100 rfl rfl ?_
      refine rn_get (a := 0) (v := .inr (.inr 4)) (q := 104) dX8_quiet_101 fl_X8_19 rfl rfl rfl ?_
      refine rn_iload_n (x := t) (q := 105) dX8_quiet_104 rfl rfl ?_
      refine rn_i2l (q := 106) dX8_quiet_105 rfl ?_
      refine rn_callV (b := 3) (as := [.inr (.inl t)]) (rest := []) (q := 109) dX8_quiet_106 ml_X8_299 sm_X3_tell rfl rfl (by decide) (by omega) rfl rfl (Nat.le_of_ble_eq_true rfl) rfl (s_Rtell (d := d + 4) t) ?_
      intro r106 mem106 hq106
      obtain ⟨rfl, hr106, hf106⟩ := hq106
      show am_Rn l G _ _ 109 [some (.inr (.inr 1)), some (.inl n), some (.inl (s : Int)), some (.inl t), some (.inl (u : Int)), some (.inl (i : Int))] [] mem106 _
      refine rn_iload_n (x := (s : Int)) (q := 110) dX8_quiet_109 rfl rfl ?_
      refine rn_iret dX8_quiet_110 rfl ?_
      obtain rfl : i = n.toNat := by omega
      exact hQ _ _ ⟨fun h => absurd hv h, fun _ => by rw [← hs, ← ht]; exact ⟨rfl, (hf.r8.tr (fr_row hf106)), hr106⟩⟩
    · refine rn_aload_n (x := 0) (q := 40) dX8_quiet_39 rfl rfl ?_
      refine rn_get (a := 0) (v := .inr (.inr 6)) (q := 43) dX8_quiet_40 fl_X8_26 rfl rfl rfl ?_
      refine rn_aload_n (x := 0) (q := 44) dX8_quiet_43 rfl rfl ?_
      refine rn_get (a := 0) (v := .inr (.inr 23)) (q := 47) dX8_quiet_44 fl_X8_40 rfl rfl rfl ?_
      refine rn_aload_n (x := 0) (q := 48) dX8_quiet_47 rfl rfl ?_
      refine rn_get (a := 0) (v := .inr (.inr 6)) (q := 51) dX8_quiet_48 fl_X8_26 rfl rfl rfl ?_
      refine rn_get (a := 5) (v := .inr (.inr (r + 1))) (q := 54) dX8_quiet_51 fl_X8_172 rfl (show Sum.inr (Sum.inr (m 5 7).toNat) = _ by rw [(q.kept hf.r8).rl]; rfl) rfl ?_
      refine rn_callV (b := 5) (as := [.inr (.inr 23), .inr (.inr (r + 1))]) (rest := []) (q := 57) dX8_quiet_54 ml_X8_252 sm_X6_pass rfl rfl (by decide) (by omega) rfl rfl (Nat.le_of_ble_eq_true rfl) rfl (c_passA (d := d + 0) (q.kept hf.r8) (k := i) (by omega) (itE_ok q.eo i) hE) ?_
      intro r54 mem54 hq54
      obtain ⟨rfl, he54, hh54, hf54⟩ := hq54
      show am_Rn l G _ _ 57 [some (.inr (.inr 1)), some (.inl n), some (.inl (s : Int)), some (.inl t), some (.inl (u : Int)), some (.inl (i : Int))] [] mem54 _
      refine rn_aload_n (x := 0) (q := 58) dX8_quiet_57 rfl rfl ?_
      refine rn_get (a := 0) (v := .inr (.inr 6)) (q := 61) dX8_quiet_58 fl_X8_26 rfl rfl rfl ?_
      refine rn_get (a := 5) (v := .inl (pH (mvE X h sn sg (itE X h sn sg e i)) (eP (itE X h sn sg e i)) (wE sn sg (itE X h sn sg e i)) h.1 : Int)) (q := 64) dX8_quiet_61 fl_X8_292 rfl (am_gi hh54) rfl ?_
      refine rn_ifne (t := 74) (q := 67) dX8_quiet_64 rfl rfl (fun w64 => ?_) (fun w64 => ?_)
      · refine rn_iconst (q := 75) dX8_quiet_74 (am_okd rfl) rfl ?_
        refine rn_istore (ls' := [some (.inr (.inr 1)), some (.inl n), some (.inl (s : Int)), some (.inl t), some (.inl 0), some (.inl (i : Int))]) (q := 77) dX8_quiet_75 (by decide) rfl rfl ?_
        refine rn_iload (x := 0) (q := 79) dX8_quiet_77 rfl rfl ?_
        refine rn_iload_n (x := (s : Int)) (q := 80) dX8_quiet_79 rfl rfl ?_
        refine rn_cmple (t := 94) (q := 83) dX8_quiet_80 rfl rfl (fun w80 => ?_) (fun w80 => ?_)
        · refine rn_iincN (x := (i : Int)) (z := ((i + 1 : Nat) : Int)) (ls' := [some (.inr (.inr 1)), some (.inl n), some (.inl (s : Int)), some (.inl t), some (.inl 0), some (.inl ((i + 1 : Nat) : Int))]) (q := 97) dX8_quiet_94 rfl (by decide) (by omega) (by unfold am_ok; omega) rfl rfl ?_
          refine rn_goto (t := 33) dX8_quiet_97 rfl ?_
          have zc : qtZ X h sn sg e i = true ↔ pH (mvE X h sn sg (itE X h sn sg e i)) (eP (itE X h sn sg e i)) (wE sn sg (itE X h sn sg e i)) h.1 = 0 := decide_eq_true_iff
          have eU1 : pH (mvE X h sn sg (itE X h sn sg e i)) (eP (itE X h sn sg e i)) (wE sn sg (itE X h sn sg e i)) h.1 = 0 → qtU (qtZ X h sn sg e i) (qt (qtZ X h sn sg e) i).2.2 = u + 1 := fun z => by unfold qtU; rw [if_pos (zc.mpr z), ← hu]
          have eU0 : ¬ pH (mvE X h sn sg (itE X h sn sg e i)) (eP (itE X h sn sg e i)) (wE sn sg (itE X h sn sg e i)) h.1 = 0 → qtU (qtZ X h sn sg e i) (qt (qtZ X h sn sg e) i).2.2 = 0 := fun z => by unfold qtU; rw [if_neg (fun y => z (zc.mp y))]
          first | (exfalso; omega) | exact ih (by omega) _ _ _ (u + 1) (hf.tr hf54) he54 (by rw [qt, eU1 (by omega), ← hs, if_pos (by omega)]) (by rw [qt, eU1 (by omega), ← hs, if_pos (by omega)]) (by rw [qt, eU1 (by omega), ← hs, if_pos (by omega)]) | exact ih (by omega) _ _ _ (u + 1) (hf.tr hf54) he54 (by rw [qt, eU1 (by omega), ← hs, if_neg (by omega)]) (by rw [qt, eU1 (by omega), ← hs, if_neg (by omega)]; exact ht) (by rw [qt, eU1 (by omega), ← hs, if_neg (by omega)]) | exact ih (by omega) _ _ _ 0 (hf.tr hf54) he54 (by rw [qt, eU0 (by omega), ← hs, if_neg (by omega)]) (by rw [qt, eU0 (by omega), ← hs, if_neg (by omega)]; exact ht) (by rw [qt, eU0 (by omega), ← hs, if_neg (by omega)])
        · refine rn_iload (x := 0) (q := 85) dX8_quiet_83 rfl rfl ?_
          refine rn_istore_n (ls' := [some (.inr (.inr 1)), some (.inl n), some (.inl 0), some (.inl t), some (.inl 0), some (.inl (i : Int))]) (q := 86) dX8_quiet_85 (by decide) rfl rfl ?_
          refine rn_iload (x := (i : Int)) (q := 88) dX8_quiet_86 rfl rfl ?_
          refine rn_iload (x := 0) (q := 90) dX8_quiet_88 rfl rfl ?_
          refine rn_isubN (z := ((i : Int) - 0)) (q := 91) dX8_quiet_90 rfl (by unfold am_ok; omega) rfl ?_
          refine rn_iconst (q := 92) dX8_quiet_91 (am_okd rfl) rfl ?_
          refine rn_iaddN (z := (((i : Int) - 0) + 1)) (q := 93) dX8_quiet_92 rfl (by unfold am_ok; omega) rfl ?_
          refine rn_istore_n (ls' := [some (.inr (.inr 1)), some (.inl n), some (.inl 0), some (.inl (((i : Int) - 0) + 1)), some (.inl 0), some (.inl (i : Int))]) (q := 94) dX8_quiet_93 (by decide) rfl rfl ?_
          refine rn_iincN (x := (i : Int)) (z := ((i + 1 : Nat) : Int)) (ls' := [some (.inr (.inr 1)), some (.inl n), some (.inl 0), some (.inl (((i : Int) - 0) + 1)), some (.inl 0), some (.inl ((i + 1 : Nat) : Int))]) (q := 97) dX8_quiet_94 rfl (by decide) (by omega) (by unfold am_ok; omega) rfl rfl ?_
          refine rn_goto (t := 33) dX8_quiet_97 rfl ?_
          have zc : qtZ X h sn sg e i = true ↔ pH (mvE X h sn sg (itE X h sn sg e i)) (eP (itE X h sn sg e i)) (wE sn sg (itE X h sn sg e i)) h.1 = 0 := decide_eq_true_iff
          have eU1 : pH (mvE X h sn sg (itE X h sn sg e i)) (eP (itE X h sn sg e i)) (wE sn sg (itE X h sn sg e i)) h.1 = 0 → qtU (qtZ X h sn sg e i) (qt (qtZ X h sn sg e) i).2.2 = u + 1 := fun z => by unfold qtU; rw [if_pos (zc.mpr z), ← hu]
          have eU0 : ¬ pH (mvE X h sn sg (itE X h sn sg e i)) (eP (itE X h sn sg e i)) (wE sn sg (itE X h sn sg e i)) h.1 = 0 → qtU (qtZ X h sn sg e i) (qt (qtZ X h sn sg e) i).2.2 = 0 := fun z => by unfold qtU; rw [if_neg (fun y => z (zc.mp y))]
          first | (exfalso; omega) | exact ih (by omega) _ _ _ (u + 1) (hf.tr hf54) he54 (by rw [qt, eU1 (by omega), ← hs, if_pos (by omega)]) (by rw [qt, eU1 (by omega), ← hs, if_pos (by omega)]) (by rw [qt, eU1 (by omega), ← hs, if_pos (by omega)]) | exact ih (by omega) _ _ _ (u + 1) (hf.tr hf54) he54 (by rw [qt, eU1 (by omega), ← hs, if_neg (by omega)]) (by rw [qt, eU1 (by omega), ← hs, if_neg (by omega)]; exact ht) (by rw [qt, eU1 (by omega), ← hs, if_neg (by omega)]) | exact ih (by omega) _ _ _ 0 (hf.tr hf54) he54 (by rw [qt, eU0 (by omega), ← hs, if_neg (by omega)]) (by rw [qt, eU0 (by omega), ← hs, if_neg (by omega)]; exact ht) (by rw [qt, eU0 (by omega), ← hs, if_neg (by omega)])
      · refine rn_iload (x := (u : Int)) (q := 69) dX8_quiet_67 rfl rfl ?_
        refine rn_iconst (q := 70) dX8_quiet_69 (am_okd rfl) rfl ?_
        refine rn_iaddN (z := ((u + 1 : Nat) : Int)) (q := 71) dX8_quiet_70 (by omega) (by unfold am_ok; omega) rfl ?_
        refine rn_goto (t := 75) dX8_quiet_71 rfl ?_
        refine rn_istore (ls' := [some (.inr (.inr 1)), some (.inl n), some (.inl (s : Int)), some (.inl t), some (.inl ((u + 1 : Nat) : Int)), some (.inl (i : Int))]) (q := 77) dX8_quiet_75 (by decide) rfl rfl ?_
        refine rn_iload (x := ((u + 1 : Nat) : Int)) (q := 79) dX8_quiet_77 rfl rfl ?_
        refine rn_iload_n (x := (s : Int)) (q := 80) dX8_quiet_79 rfl rfl ?_
        refine rn_cmple (t := 94) (q := 83) dX8_quiet_80 rfl rfl (fun w80 => ?_) (fun w80 => ?_)
        · refine rn_iincN (x := (i : Int)) (z := ((i + 1 : Nat) : Int)) (ls' := [some (.inr (.inr 1)), some (.inl n), some (.inl (s : Int)), some (.inl t), some (.inl ((u + 1 : Nat) : Int)), some (.inl ((i + 1 : Nat) : Int))]) (q := 97) dX8_quiet_94 rfl (by decide) (by omega) (by unfold am_ok; omega) rfl rfl ?_
          refine rn_goto (t := 33) dX8_quiet_97 rfl ?_
          have zc : qtZ X h sn sg e i = true ↔ pH (mvE X h sn sg (itE X h sn sg e i)) (eP (itE X h sn sg e i)) (wE sn sg (itE X h sn sg e i)) h.1 = 0 := decide_eq_true_iff
          have eU1 : pH (mvE X h sn sg (itE X h sn sg e i)) (eP (itE X h sn sg e i)) (wE sn sg (itE X h sn sg e i)) h.1 = 0 → qtU (qtZ X h sn sg e i) (qt (qtZ X h sn sg e) i).2.2 = u + 1 := fun z => by unfold qtU; rw [if_pos (zc.mpr z), ← hu]
          have eU0 : ¬ pH (mvE X h sn sg (itE X h sn sg e i)) (eP (itE X h sn sg e i)) (wE sn sg (itE X h sn sg e i)) h.1 = 0 → qtU (qtZ X h sn sg e i) (qt (qtZ X h sn sg e) i).2.2 = 0 := fun z => by unfold qtU; rw [if_neg (fun y => z (zc.mp y))]
          first | (exfalso; omega) | exact ih (by omega) _ _ _ (u + 1) (hf.tr hf54) he54 (by rw [qt, eU1 (by omega), ← hs, if_pos (by omega)]) (by rw [qt, eU1 (by omega), ← hs, if_pos (by omega)]) (by rw [qt, eU1 (by omega), ← hs, if_pos (by omega)]) | exact ih (by omega) _ _ _ (u + 1) (hf.tr hf54) he54 (by rw [qt, eU1 (by omega), ← hs, if_neg (by omega)]) (by rw [qt, eU1 (by omega), ← hs, if_neg (by omega)]; exact ht) (by rw [qt, eU1 (by omega), ← hs, if_neg (by omega)]) | exact ih (by omega) _ _ _ 0 (hf.tr hf54) he54 (by rw [qt, eU0 (by omega), ← hs, if_neg (by omega)]) (by rw [qt, eU0 (by omega), ← hs, if_neg (by omega)]; exact ht) (by rw [qt, eU0 (by omega), ← hs, if_neg (by omega)])
        · refine rn_iload (x := ((u + 1 : Nat) : Int)) (q := 85) dX8_quiet_83 rfl rfl ?_
          refine rn_istore_n (ls' := [some (.inr (.inr 1)), some (.inl n), some (.inl ((u + 1 : Nat) : Int)), some (.inl t), some (.inl ((u + 1 : Nat) : Int)), some (.inl (i : Int))]) (q := 86) dX8_quiet_85 (by decide) rfl rfl ?_
          refine rn_iload (x := (i : Int)) (q := 88) dX8_quiet_86 rfl rfl ?_
          refine rn_iload (x := ((u + 1 : Nat) : Int)) (q := 90) dX8_quiet_88 rfl rfl ?_
          refine rn_isubN (z := ((i : Int) - ((u + 1 : Nat) : Int))) (q := 91) dX8_quiet_90 rfl (by unfold am_ok; omega) rfl ?_
          refine rn_iconst (q := 92) dX8_quiet_91 (am_okd rfl) rfl ?_
          refine rn_iaddN (z := (((i : Int) - ((u + 1 : Nat) : Int)) + 1)) (q := 93) dX8_quiet_92 rfl (by unfold am_ok; omega) rfl ?_
          refine rn_istore_n (ls' := [some (.inr (.inr 1)), some (.inl n), some (.inl ((u + 1 : Nat) : Int)), some (.inl (((i : Int) - ((u + 1 : Nat) : Int)) + 1)), some (.inl ((u + 1 : Nat) : Int)), some (.inl (i : Int))]) (q := 94) dX8_quiet_93 (by decide) rfl rfl ?_
          refine rn_iincN (x := (i : Int)) (z := ((i + 1 : Nat) : Int)) (ls' := [some (.inr (.inr 1)), some (.inl n), some (.inl ((u + 1 : Nat) : Int)), some (.inl (((i : Int) - ((u + 1 : Nat) : Int)) + 1)), some (.inl ((u + 1 : Nat) : Int)), some (.inl ((i + 1 : Nat) : Int))]) (q := 97) dX8_quiet_94 rfl (by decide) (by omega) (by unfold am_ok; omega) rfl rfl ?_
          refine rn_goto (t := 33) dX8_quiet_97 rfl ?_
          have zc : qtZ X h sn sg e i = true ↔ pH (mvE X h sn sg (itE X h sn sg e i)) (eP (itE X h sn sg e i)) (wE sn sg (itE X h sn sg e i)) h.1 = 0 := decide_eq_true_iff
          have eU1 : pH (mvE X h sn sg (itE X h sn sg e i)) (eP (itE X h sn sg e i)) (wE sn sg (itE X h sn sg e i)) h.1 = 0 → qtU (qtZ X h sn sg e i) (qt (qtZ X h sn sg e) i).2.2 = u + 1 := fun z => by unfold qtU; rw [if_pos (zc.mpr z), ← hu]
          have eU0 : ¬ pH (mvE X h sn sg (itE X h sn sg e i)) (eP (itE X h sn sg e i)) (wE sn sg (itE X h sn sg e i)) h.1 = 0 → qtU (qtZ X h sn sg e i) (qt (qtZ X h sn sg e) i).2.2 = 0 := fun z => by unfold qtU; rw [if_neg (fun y => z (zc.mp y))]
          first | (exfalso; omega) | exact ih (by omega) _ _ _ (u + 1) (hf.tr hf54) he54 (by rw [qt, eU1 (by omega), ← hs, if_pos (by omega)]) (by rw [qt, eU1 (by omega), ← hs, if_pos (by omega)]) (by rw [qt, eU1 (by omega), ← hs, if_pos (by omega)]) | exact ih (by omega) _ _ _ (u + 1) (hf.tr hf54) he54 (by rw [qt, eU1 (by omega), ← hs, if_neg (by omega)]) (by rw [qt, eU1 (by omega), ← hs, if_neg (by omega)]; exact ht) (by rw [qt, eU1 (by omega), ← hs, if_neg (by omega)]) | exact ih (by omega) _ _ _ 0 (hf.tr hf54) he54 (by rw [qt, eU0 (by omega), ← hs, if_neg (by omega)]) (by rw [qt, eU0 (by omega), ← hs, if_neg (by omega)]; exact ht) (by rw [qt, eU0 (by omega), ← hs, if_neg (by omega)])
  refine rn_iload_n (x := n) (q := 1) dX8_quiet_0 rfl rfl ?_
  refine rn_iflt (t := 10) (q := 4) dX8_quiet_1 rfl rfl (fun w1 => ?_) (fun w1 => ?_)
  · refine rn_iconst (q := 11) dX8_quiet_10 (am_okd rfl) rfl ?_
    refine rn_iret dX8_quiet_11 rfl ?_
    exact hQ _ _ ⟨fun _ => ⟨rfl, frS.rf, hR⟩, fun hn => by omega⟩
  · refine rn_iload_n (x := n) (q := 5) dX8_quiet_4 rfl rfl ?_
    refine rn_bipush (q := 7) dX8_quiet_5 ⟨by decide, by decide⟩ rfl ?_
    refine rn_cmple (t := 12) (q := 10) dX8_quiet_7 rfl rfl (fun w7 => ?_) (fun w7 => ?_)
    · refine rn_aload_n (x := 0) (q := 13) dX8_quiet_12 rfl rfl ?_
      refine rn_get (a := 0) (v := .inr (.inr 23)) (q := 16) dX8_quiet_13 fl_X8_40 rfl rfl rfl ?_
      refine rn_aload_n (x := 0) (q := 17) dX8_quiet_16 rfl rfl ?_
      refine rn_get (a := 0) (v := .inr (.inr 17)) (q := 20) dX8_quiet_17 fl_X8_33 rfl rfl rfl ?_
      refine rn_callV (b := 22) (as := [.inr (.inr 17)]) (rest := []) (q := 23) dX8_quiet_20 ml_X8_212 sm_X0_copy rfl rfl (by decide) (by omega) rfl rfl (Nat.le_of_ble_eq_true rfl) rfl (c_copyA (d := d + 5) q) ?_
      intro r20 mem20 hq20
      obtain ⟨rfl, he20, hf20⟩ := hq20
      show am_Rn l G _ _ 23 [some (.inr (.inr 1)), some (.inl n), none, none, none, none] [] mem20 _
      refine rn_iconst (q := 24) dX8_quiet_23 (am_okd rfl) rfl ?_
      refine rn_istore_n (ls' := [some (.inr (.inr 1)), some (.inl n), some (.inl 0), none, none, none]) (q := 25) dX8_quiet_24 (by decide) rfl rfl ?_
      refine rn_iconst (q := 26) dX8_quiet_25 (am_okd rfl) rfl ?_
      refine rn_istore_n (ls' := [some (.inr (.inr 1)), some (.inl n), some (.inl 0), some (.inl (-1)), none, none]) (q := 27) dX8_quiet_26 (by decide) rfl rfl ?_
      refine rn_iconst (q := 28) dX8_quiet_27 (am_okd rfl) rfl ?_
      refine rn_istore (ls' := [some (.inr (.inr 1)), some (.inl n), some (.inl 0), some (.inl (-1)), some (.inl 0), none]) (q := 30) dX8_quiet_28 (by decide) rfl rfl ?_
      refine rn_iconst (q := 31) dX8_quiet_30 (am_okd rfl) rfl ?_
      refine rn_istore (ls' := [some (.inr (.inr 1)), some (.inl n), some (.inl 0), some (.inl (-1)), some (.inl 0), some (.inl 0)]) (q := 33) dX8_quiet_31 (by decide) rfl rfl ?_
      exact L (by omega) 0 (by omega) _ 0 _ 0 hf20 he20 rfl rfl rfl
    · refine rn_iconst (q := 11) dX8_quiet_10 (am_okd rfl) rfl ?_
      refine rn_iret dX8_quiet_11 rfl ?_
      exact hQ _ _ ⟨fun _ => ⟨rfl, frS.rf, hR⟩, fun hn => by omega⟩
theorem m_quiet (q : DQ X sn sg h e NB mem) {R : List Int} (hR : m_row R mem) (n : Int) : am_Sm l G yX9_quiet mt_X9_quiet (d + 179) [.inr (.inr 96), .inl n] mem (fun q m => (¬ (0 ≤ n ∧ n ≤ 60) → QM (-1) R mem q m) ∧ (0 ≤ n ∧ n ≤ 60 → QM ((qt (qtZ X h sn sg e) n.toNat).1 : Int) [(qt (qtZ X h sn sg e) n.toNat).2.1] mem q m)) := by
  refine am_enterQ (ls := [some (.inr (.inr 96)), some (.inl n), none, none, none, none, none]) (by decide) rfl (Nat.le_of_ble_eq_true rfl) rfl (fun hok Q hQ => ?_)
  have b := q.bd
  have L : 0 ≤ n ∧ n ≤ 60 → ∀ i : Nat, i ≤ n.toNat → ∀ (m : am_M) (s : Nat) (t : Int) (u : Nat) (lx : Option am_V), frS s9 mem m → m_est (itE X h sn sg e i) 109 0 m → s = (qt (qtZ X h sn sg e) i).1 → t = (qt (qtZ X h sn sg e) i).2.1 → u = (qt (qtZ X h sn sg e) i).2.2 → am_Rn l G mt_X9_quiet (d + 179) 39 [some (.inr (.inr 96)), some (.inl n), some (.inl (s : Int)), some (.inl t), some (.inl (u : Int)), some (.inl (i : Int)), lx] [] m Q := by
    intro hv
    refine am_dn n.toNat (fun i hi ih m s t u lx hf hE hs ht hu => ?_)
    have o := qt_ok (z := qtZ X h sn sg e) i
    have hNB := q.2.2.2.2.2.2.2
    have ho := (itE_ok (X := X) (sn := sn) (sg := sg) q.eo i).2.2.2.1
    have hw := wE_ok (sn := sn) (e := itE X h sn sg e i) q.sng.2.2.2.1
    have hpl := (pH_pL (mk := eP (itE X h sn sg e i)) (mvE_nn (X := X) (h := h) (sn := sn) (sg := sg) (e := itE X h sn sg e i)) hw h.1).1
    have hwe : wE sn sg (itE X h sn sg e i) = (sg (eN (itE X h sn sg e i) % sn) : Int) := rfl
    refine rn_iload (x := (i : Int)) (q := 41) dX9_quiet_39 rfl rfl ?_
    refine rn_iload_n (x := n) (q := 42) dX9_quiet_41 rfl rfl ?_
    refine rn_cmpge (t := 111) (q := 45) dX9_quiet_42 rfl rfl (fun w42 => ?_) (fun w42 => ?_)
    · refine rn_aload_n (x := 95) (q := 112) dX9_quiet_111 rfl rfl ?_
      refine rn_iconst (q := 113) dX9_quiet_112 (am_okd rfl) rfl ?_
      refine rn_puti (a := 95) (q := 116) dX9_quiet_113 fl_X9_110 rfl rfl rfl rfl ?_
      refine rn_aload_n (x := 95) (q := 117) dX9_quiet_116 rfl rfl ?_
      refine rn_iload_n (x := t) (q := 118) dX9_quiet_117 rfl rfl ?_
      refine rn_i2l (q := 119) dX9_quiet_118 rfl ?_
      refine rn_callV (b := 95) (as := [.inr (.inl t)]) (rest := []) (q := 122) dX9_quiet_119 ml_X9_275 sm_X9_tell rfl rfl (by decide) (by omega) rfl rfl (Nat.le_of_ble_eq_true rfl) rfl (m_tell (d := d + 178) m_row0 (by first | decide | simp | omega) t) ?_
      intro r119 mem119 hq119
      obtain ⟨rfl, hr119, hf119⟩ := hq119
      show am_Rn l G _ _ 122 [some (.inr (.inr 96)), some (.inl n), some (.inl (s : Int)), some (.inl t), some (.inl (u : Int)), some (.inl (i : Int)), lx] [] mem119 _
      refine rn_iload_n (x := (s : Int)) (q := 123) dX9_quiet_122 rfl rfl ?_
      refine rn_iret dX9_quiet_123 rfl ?_
      obtain rfl : i = n.toNat := by omega
      exact hQ _ _ ⟨fun h => absurd hv h, fun _ => by rw [← hs, ← ht]; exact ⟨rfl, ((frS.up (a := 95) (k := 10) (x := 0) hf.r9 rfl).tr hf119), hr119⟩⟩
    · refine rn_aload_n (x := 95) (q := 46) dX9_quiet_45 rfl rfl ?_
      refine rn_aload_n (x := 95) (q := 47) dX9_quiet_46 rfl rfl ?_
      refine rn_get (a := 95) (v := .inr (.inr 110)) (q := 50) dX9_quiet_47 fl_X9_55 rfl rfl rfl ?_
      refine rn_bipush (q := 52) dX9_quiet_50 ⟨by decide, by decide⟩ rfl ?_
      refine rn_ialdV (a := 109) (v := (eN (itE X h sn sg e i) : Int)) (q := 53) dX9_quiet_52 rfl (by omega) (by omega) hE.a.2.2.2.2.2.2.2 rfl ?_
      refine rn_callV (b := 95) (as := [.inl (eN (itE X h sn sg e i) : Int)]) (rest := []) (q := 56) dX9_quiet_53 ml_X9_213 sm_X9_worthOn rfl rfl (by decide) (by omega) rfl rfl (Nat.le_of_ble_eq_true rfl) rfl (m_worthOn (d := d + 178) (q.kept hf.r9) (eN (itE X h sn sg e i)) (by omega)) ?_
      intro r53 mem53 hq53
      obtain ⟨rfl, rfl⟩ := hq53
      show am_Rn l G _ _ 56 [some (.inr (.inr 96)), some (.inl n), some (.inl (s : Int)), some (.inl t), some (.inl (u : Int)), some (.inl (i : Int)), lx] [.inl (sg ((eN (itE X h sn sg e i)) % sn) : Int)] m _
      refine rn_istore (ls' := [some (.inr (.inr 96)), some (.inl n), some (.inl (s : Int)), some (.inl t), some (.inl (u : Int)), some (.inl (i : Int)), some (.inl (sg ((eN (itE X h sn sg e i)) % sn) : Int))]) (q := 58) dX9_quiet_56 (by decide) rfl rfl ?_
      refine rn_aload_n (x := 95) (q := 59) dX9_quiet_58 rfl rfl ?_
      refine rn_aload_n (x := 95) (q := 60) dX9_quiet_59 rfl rfl ?_
      refine rn_get (a := 95) (v := .inr (.inr 110)) (q := 63) dX9_quiet_60 fl_X9_55 rfl rfl rfl ?_
      refine rn_callV (b := 95) (as := [.inr (.inr 110)]) (rest := []) (q := 66) dX9_quiet_63 ml_X9_265 sm_X9_goNight rfl rfl (by decide) (by omega) rfl rfl (Nat.le_of_ble_eq_true rfl) rfl (m_goNightA (d := d + 0) (q.kept hf.r9) (Or.inl rfl) (k := i) (by omega) (itE_ok q.eo i) hE) ?_
      intro r63 mem63 hq63
      obtain ⟨rfl, he63, hf63, -, hl63⟩ := hq63
      show am_Rn l G _ _ 66 [some (.inr (.inr 96)), some (.inl n), some (.inl (s : Int)), some (.inl t), some (.inl (u : Int)), some (.inl (i : Int)), some (.inl (sg ((eN (itE X h sn sg e i)) % sn) : Int))] [] mem63 _
      refine rn_aload_n (x := 95) (q := 67) dX9_quiet_66 rfl rfl ?_
      refine rn_get (a := 95) (v := .inl (pL (mvE X h sn sg (itE X h sn sg e i)) (eP (itE X h sn sg e i)) (wE sn sg (itE X h sn sg e i)) h.1)) (q := 70) dX9_quiet_67 fl_X9_252 rfl (am_gi hl63) rfl ?_
      refine rn_iload (x := (sg ((eN (itE X h sn sg e i)) % sn) : Int)) (q := 72) dX9_quiet_70 rfl rfl ?_
      refine rn_cmpne (t := 82) (q := 75) dX9_quiet_72 rfl rfl (fun w72 => ?_) (fun w72 => ?_)
      · refine rn_iconst (q := 83) dX9_quiet_82 (am_okd rfl) rfl ?_
        refine rn_istore (ls' := [some (.inr (.inr 96)), some (.inl n), some (.inl (s : Int)), some (.inl t), some (.inl 0), some (.inl (i : Int)), some (.inl (sg ((eN (itE X h sn sg e i)) % sn) : Int))]) (q := 85) dX9_quiet_83 (by decide) rfl rfl ?_
        refine rn_iload (x := 0) (q := 87) dX9_quiet_85 rfl rfl ?_
        refine rn_iload_n (x := (s : Int)) (q := 88) dX9_quiet_87 rfl rfl ?_
        refine rn_cmpgt (t := 94) (q := 91) dX9_quiet_88 rfl rfl (fun w88 => ?_) (fun w88 => ?_)
        · refine rn_iload (x := 0) (q := 96) dX9_quiet_94 rfl rfl ?_
          refine rn_istore_n (ls' := [some (.inr (.inr 96)), some (.inl n), some (.inl 0), some (.inl t), some (.inl 0), some (.inl (i : Int)), some (.inl (sg ((eN (itE X h sn sg e i)) % sn) : Int))]) (q := 97) dX9_quiet_96 (by decide) rfl rfl ?_
          refine rn_iload (x := (i : Int)) (q := 99) dX9_quiet_97 rfl rfl ?_
          refine rn_iload (x := 0) (q := 101) dX9_quiet_99 rfl rfl ?_
          refine rn_isubN (z := ((i : Int) - 0)) (q := 102) dX9_quiet_101 rfl (by unfold am_ok; omega) rfl ?_
          refine rn_iconst (q := 103) dX9_quiet_102 (am_okd rfl) rfl ?_
          refine rn_iaddN (z := (((i : Int) - 0) + 1)) (q := 104) dX9_quiet_103 rfl (by unfold am_ok; omega) rfl ?_
          refine rn_istore_n (ls' := [some (.inr (.inr 96)), some (.inl n), some (.inl 0), some (.inl (((i : Int) - 0) + 1)), some (.inl 0), some (.inl (i : Int)), some (.inl (sg ((eN (itE X h sn sg e i)) % sn) : Int))]) (q := 105) dX9_quiet_104 (by decide) rfl rfl ?_
          refine rn_iincN (x := (i : Int)) (z := ((i + 1 : Nat) : Int)) (ls' := [some (.inr (.inr 96)), some (.inl n), some (.inl 0), some (.inl (((i : Int) - 0) + 1)), some (.inl 0), some (.inl ((i + 1 : Nat) : Int)), some (.inl (sg ((eN (itE X h sn sg e i)) % sn) : Int))]) (q := 108) dX9_quiet_105 rfl (by decide) (by omega) (by unfold am_ok; omega) rfl rfl ?_
          refine rn_goto (t := 39) dX9_quiet_108 rfl ?_
          have zc : qtZ X h sn sg e i = true ↔ pL (mvE X h sn sg (itE X h sn sg e i)) (eP (itE X h sn sg e i)) (wE sn sg (itE X h sn sg e i)) h.1 = wE sn sg (itE X h sn sg e i) := Iff.trans decide_eq_true_iff hpl
          have eU1 : pL (mvE X h sn sg (itE X h sn sg e i)) (eP (itE X h sn sg e i)) (wE sn sg (itE X h sn sg e i)) h.1 = wE sn sg (itE X h sn sg e i) → qtU (qtZ X h sn sg e i) (qt (qtZ X h sn sg e) i).2.2 = u + 1 := fun z => by unfold qtU; rw [if_pos (zc.mpr z), ← hu]
          have eU0 : ¬ pL (mvE X h sn sg (itE X h sn sg e i)) (eP (itE X h sn sg e i)) (wE sn sg (itE X h sn sg e i)) h.1 = wE sn sg (itE X h sn sg e i) → qtU (qtZ X h sn sg e i) (qt (qtZ X h sn sg e) i).2.2 = 0 := fun z => by unfold qtU; rw [if_neg (fun y => z (zc.mp y))]
          first | (exfalso; omega) | exact ih (by omega) _ _ _ (u + 1) _ (hf.tr hf63) he63 (by rw [qt, eU1 (by omega), ← hs, if_pos (by omega)]) (by rw [qt, eU1 (by omega), ← hs, if_pos (by omega)]) (by rw [qt, eU1 (by omega), ← hs, if_pos (by omega)]) | exact ih (by omega) _ _ _ (u + 1) _ (hf.tr hf63) he63 (by rw [qt, eU1 (by omega), ← hs, if_neg (by omega)]) (by rw [qt, eU1 (by omega), ← hs, if_neg (by omega)]; exact ht) (by rw [qt, eU1 (by omega), ← hs, if_neg (by omega)]) | exact ih (by omega) _ _ _ 0 _ (hf.tr hf63) he63 (by rw [qt, eU0 (by omega), ← hs, if_neg (by omega)]) (by rw [qt, eU0 (by omega), ← hs, if_neg (by omega)]; exact ht) (by rw [qt, eU0 (by omega), ← hs, if_neg (by omega)])
        · refine rn_goto (t := 105) dX9_quiet_91 rfl ?_
          refine rn_iincN (x := (i : Int)) (z := ((i + 1 : Nat) : Int)) (ls' := [some (.inr (.inr 96)), some (.inl n), some (.inl (s : Int)), some (.inl t), some (.inl 0), some (.inl ((i + 1 : Nat) : Int)), some (.inl (sg ((eN (itE X h sn sg e i)) % sn) : Int))]) (q := 108) dX9_quiet_105 rfl (by decide) (by omega) (by unfold am_ok; omega) rfl rfl ?_
          refine rn_goto (t := 39) dX9_quiet_108 rfl ?_
          have zc : qtZ X h sn sg e i = true ↔ pL (mvE X h sn sg (itE X h sn sg e i)) (eP (itE X h sn sg e i)) (wE sn sg (itE X h sn sg e i)) h.1 = wE sn sg (itE X h sn sg e i) := Iff.trans decide_eq_true_iff hpl
          have eU1 : pL (mvE X h sn sg (itE X h sn sg e i)) (eP (itE X h sn sg e i)) (wE sn sg (itE X h sn sg e i)) h.1 = wE sn sg (itE X h sn sg e i) → qtU (qtZ X h sn sg e i) (qt (qtZ X h sn sg e) i).2.2 = u + 1 := fun z => by unfold qtU; rw [if_pos (zc.mpr z), ← hu]
          have eU0 : ¬ pL (mvE X h sn sg (itE X h sn sg e i)) (eP (itE X h sn sg e i)) (wE sn sg (itE X h sn sg e i)) h.1 = wE sn sg (itE X h sn sg e i) → qtU (qtZ X h sn sg e i) (qt (qtZ X h sn sg e) i).2.2 = 0 := fun z => by unfold qtU; rw [if_neg (fun y => z (zc.mp y))]
          first | (exfalso; omega) | exact ih (by omega) _ _ _ (u + 1) _ (hf.tr hf63) he63 (by rw [qt, eU1 (by omega), ← hs, if_pos (by omega)]) (by rw [qt, eU1 (by omega), ← hs, if_pos (by omega)]) (by rw [qt, eU1 (by omega), ← hs, if_pos (by omega)]) | exact ih (by omega) _ _ _ (u + 1) _ (hf.tr hf63) he63 (by rw [qt, eU1 (by omega), ← hs, if_neg (by omega)]) (by rw [qt, eU1 (by omega), ← hs, if_neg (by omega)]; exact ht) (by rw [qt, eU1 (by omega), ← hs, if_neg (by omega)]) | exact ih (by omega) _ _ _ 0 _ (hf.tr hf63) he63 (by rw [qt, eU0 (by omega), ← hs, if_neg (by omega)]) (by rw [qt, eU0 (by omega), ← hs, if_neg (by omega)]; exact ht) (by rw [qt, eU0 (by omega), ← hs, if_neg (by omega)])
      · refine rn_iload (x := (u : Int)) (q := 77) dX9_quiet_75 rfl rfl ?_
        refine rn_iconst (q := 78) dX9_quiet_77 (am_okd rfl) rfl ?_
        refine rn_iaddN (z := ((u + 1 : Nat) : Int)) (q := 79) dX9_quiet_78 (by omega) (by unfold am_ok; omega) rfl ?_
        refine rn_goto (t := 83) dX9_quiet_79 rfl ?_
        refine rn_istore (ls' := [some (.inr (.inr 96)), some (.inl n), some (.inl (s : Int)), some (.inl t), some (.inl ((u + 1 : Nat) : Int)), some (.inl (i : Int)), some (.inl (sg ((eN (itE X h sn sg e i)) % sn) : Int))]) (q := 85) dX9_quiet_83 (by decide) rfl rfl ?_
        refine rn_iload (x := ((u + 1 : Nat) : Int)) (q := 87) dX9_quiet_85 rfl rfl ?_
        refine rn_iload_n (x := (s : Int)) (q := 88) dX9_quiet_87 rfl rfl ?_
        refine rn_cmpgt (t := 94) (q := 91) dX9_quiet_88 rfl rfl (fun w88 => ?_) (fun w88 => ?_)
        · refine rn_iload (x := ((u + 1 : Nat) : Int)) (q := 96) dX9_quiet_94 rfl rfl ?_
          refine rn_istore_n (ls' := [some (.inr (.inr 96)), some (.inl n), some (.inl ((u + 1 : Nat) : Int)), some (.inl t), some (.inl ((u + 1 : Nat) : Int)), some (.inl (i : Int)), some (.inl (sg ((eN (itE X h sn sg e i)) % sn) : Int))]) (q := 97) dX9_quiet_96 (by decide) rfl rfl ?_
          refine rn_iload (x := (i : Int)) (q := 99) dX9_quiet_97 rfl rfl ?_
          refine rn_iload (x := ((u + 1 : Nat) : Int)) (q := 101) dX9_quiet_99 rfl rfl ?_
          refine rn_isubN (z := ((i : Int) - ((u + 1 : Nat) : Int))) (q := 102) dX9_quiet_101 rfl (by unfold am_ok; omega) rfl ?_
          refine rn_iconst (q := 103) dX9_quiet_102 (am_okd rfl) rfl ?_
          refine rn_iaddN (z := (((i : Int) - ((u + 1 : Nat) : Int)) + 1)) (q := 104) dX9_quiet_103 rfl (by unfold am_ok; omega) rfl ?_
          refine rn_istore_n (ls' := [some (.inr (.inr 96)), some (.inl n), some (.inl ((u + 1 : Nat) : Int)), some (.inl (((i : Int) - ((u + 1 : Nat) : Int)) + 1)), some (.inl ((u + 1 : Nat) : Int)), some (.inl (i : Int)), some (.inl (sg ((eN (itE X h sn sg e i)) % sn) : Int))]) (q := 105) dX9_quiet_104 (by decide) rfl rfl ?_
          refine rn_iincN (x := (i : Int)) (z := ((i + 1 : Nat) : Int)) (ls' := [some (.inr (.inr 96)), some (.inl n), some (.inl ((u + 1 : Nat) : Int)), some (.inl (((i : Int) - ((u + 1 : Nat) : Int)) + 1)), some (.inl ((u + 1 : Nat) : Int)), some (.inl ((i + 1 : Nat) : Int)), some (.inl (sg ((eN (itE X h sn sg e i)) % sn) : Int))]) (q := 108) dX9_quiet_105 rfl (by decide) (by omega) (by unfold am_ok; omega) rfl rfl ?_
          refine rn_goto (t := 39) dX9_quiet_108 rfl ?_
          have zc : qtZ X h sn sg e i = true ↔ pL (mvE X h sn sg (itE X h sn sg e i)) (eP (itE X h sn sg e i)) (wE sn sg (itE X h sn sg e i)) h.1 = wE sn sg (itE X h sn sg e i) := Iff.trans decide_eq_true_iff hpl
          have eU1 : pL (mvE X h sn sg (itE X h sn sg e i)) (eP (itE X h sn sg e i)) (wE sn sg (itE X h sn sg e i)) h.1 = wE sn sg (itE X h sn sg e i) → qtU (qtZ X h sn sg e i) (qt (qtZ X h sn sg e) i).2.2 = u + 1 := fun z => by unfold qtU; rw [if_pos (zc.mpr z), ← hu]
          have eU0 : ¬ pL (mvE X h sn sg (itE X h sn sg e i)) (eP (itE X h sn sg e i)) (wE sn sg (itE X h sn sg e i)) h.1 = wE sn sg (itE X h sn sg e i) → qtU (qtZ X h sn sg e i) (qt (qtZ X h sn sg e) i).2.2 = 0 := fun z => by unfold qtU; rw [if_neg (fun y => z (zc.mp y))]
          first | (exfalso; omega) | exact ih (by omega) _ _ _ (u + 1) _ (hf.tr hf63) he63 (by rw [qt, eU1 (by omega), ← hs, if_pos (by omega)]) (by rw [qt, eU1 (by omega), ← hs, if_pos (by omega)]) (by rw [qt, eU1 (by omega), ← hs, if_pos (by omega)]) | exact ih (by omega) _ _ _ (u + 1) _ (hf.tr hf63) he63 (by rw [qt, eU1 (by omega), ← hs, if_neg (by omega)]) (by rw [qt, eU1 (by omega), ← hs, if_neg (by omega)]; exact ht) (by rw [qt, eU1 (by omega), ← hs, if_neg (by omega)]) | exact ih (by omega) _ _ _ 0 _ (hf.tr hf63) he63 (by rw [qt, eU0 (by omega), ← hs, if_neg (by omega)]) (by rw [qt, eU0 (by omega), ← hs, if_neg (by omega)]; exact ht) (by rw [qt, eU0 (by omega), ← hs, if_neg (by omega)])
        · refine rn_goto (t := 105) dX9_quiet_91 rfl ?_
          refine rn_iincN (x := (i : Int)) (z := ((i + 1 : Nat) : Int)) (ls' := [some (.inr (.inr 96)), some (.inl n), some (.inl (s : Int)), some (.inl t), some (.inl ((u + 1 : Nat) : Int)), some (.inl ((i + 1 : Nat) : Int)), some (.inl (sg ((eN (itE X h sn sg e i)) % sn) : Int))]) (q := 108) dX9_quiet_105 rfl (by decide) (by omega) (by unfold am_ok; omega) rfl rfl ?_
          refine rn_goto (t := 39) dX9_quiet_108 rfl ?_
          have zc : qtZ X h sn sg e i = true ↔ pL (mvE X h sn sg (itE X h sn sg e i)) (eP (itE X h sn sg e i)) (wE sn sg (itE X h sn sg e i)) h.1 = wE sn sg (itE X h sn sg e i) := Iff.trans decide_eq_true_iff hpl
          have eU1 : pL (mvE X h sn sg (itE X h sn sg e i)) (eP (itE X h sn sg e i)) (wE sn sg (itE X h sn sg e i)) h.1 = wE sn sg (itE X h sn sg e i) → qtU (qtZ X h sn sg e i) (qt (qtZ X h sn sg e) i).2.2 = u + 1 := fun z => by unfold qtU; rw [if_pos (zc.mpr z), ← hu]
          have eU0 : ¬ pL (mvE X h sn sg (itE X h sn sg e i)) (eP (itE X h sn sg e i)) (wE sn sg (itE X h sn sg e i)) h.1 = wE sn sg (itE X h sn sg e i) → qtU (qtZ X h sn sg e i) (qt (qtZ X h sn sg e) i).2.2 = 0 := fun z => by unfold qtU; rw [if_neg (fun y => z (zc.mp y))]
          first | (exfalso; omega) | exact ih (by omega) _ _ _ (u + 1) _ (hf.tr hf63) he63 (by rw [qt, eU1 (by omega), ← hs, if_pos (by omega)]) (by rw [qt, eU1 (by omega), ← hs, if_pos (by omega)]) (by rw [qt, eU1 (by omega), ← hs, if_pos (by omega)]) | exact ih (by omega) _ _ _ (u + 1) _ (hf.tr hf63) he63 (by rw [qt, eU1 (by omega), ← hs, if_neg (by omega)]) (by rw [qt, eU1 (by omega), ← hs, if_neg (by omega)]; exact ht) (by rw [qt, eU1 (by omega), ← hs, if_neg (by omega)]) | exact ih (by omega) _ _ _ 0 _ (hf.tr hf63) he63 (by rw [qt, eU0 (by omega), ← hs, if_neg (by omega)]) (by rw [qt, eU0 (by omega), ← hs, if_neg (by omega)]; exact ht) (by rw [qt, eU0 (by omega), ← hs, if_neg (by omega)])
  refine rn_aload_n (x := 95) (q := 1) dX9_quiet_0 rfl rfl ?_
  refine rn_iconst (q := 2) dX9_quiet_1 (am_okd rfl) rfl ?_
  refine rn_puti (a := 95) (q := 5) dX9_quiet_2 fl_X9_107 rfl rfl rfl rfl ?_
  refine rn_iload_n (x := n) (q := 6) dX9_quiet_5 rfl rfl ?_
  refine rn_iconst (q := 7) dX9_quiet_6 (am_okd rfl) rfl ?_
  refine rn_bipush (q := 9) dX9_quiet_7 ⟨by decide, by decide⟩ rfl ?_
  refine rn_callS (as := [.inl n, .inl 0, .inl 60]) (rest := []) (q := 12) dX9_quiet_9 ml_X9_116 sm_X9_in (by omega) rfl rfl (Nat.le_of_ble_eq_true rfl) rfl (s_in9 (d := d + 178) n 0 60) ?_
  intro r9 mem9 hq9
  obtain ⟨⟨rfl, hi9⟩ | ⟨rfl, hi9⟩, rfl⟩ := hq9
  · show am_Rn l G _ _ 12 [some (.inr (.inr 96)), some (.inl n), none, none, none, none, none] [.inl 1] (am_up mem 95 11 0) _
    refine rn_ifne (t := 17) (q := 15) dX9_quiet_12 rfl rfl (fun w12 => ?_) (fun h => absurd h (by decide))
    refine rn_aload_n (x := 95) (q := 18) dX9_quiet_17 rfl rfl ?_
    refine rn_get (a := 95) (v := .inr (.inr 97)) (q := 21) dX9_quiet_18 fl_X9_9 rfl rfl rfl ?_
    refine rn_aload_n (x := 95) (q := 22) dX9_quiet_21 rfl rfl ?_
    refine rn_get (a := 95) (v := .inr (.inr 110)) (q := 25) dX9_quiet_22 fl_X9_55 rfl rfl rfl ?_
    refine rn_iconst (q := 26) dX9_quiet_25 (am_okd rfl) rfl ?_
    refine rn_callS (as := [.inr (.inr 97), .inr (.inr 110), .inl 0]) (rest := []) (q := 29) dX9_quiet_26 ml_X9_248 sm_X9_lay (by omega) rfl rfl (Nat.le_of_ble_eq_true rfl) rfl (m_layA (d := d + 178) (q.kept (frS.up (a := 95) (k := 11) (x := 0) frS.rf rfl)) (Or.inl rfl)) ?_
    intro r26 mem26 hq26
    obtain ⟨rfl, he26, hf26⟩ := hq26
    show am_Rn l G _ _ 29 [some (.inr (.inr 96)), some (.inl n), none, none, none, none, none] [] mem26 _
    refine rn_iconst (q := 30) dX9_quiet_29 (am_okd rfl) rfl ?_
    refine rn_istore_n (ls' := [some (.inr (.inr 96)), some (.inl n), some (.inl 0), none, none, none, none]) (q := 31) dX9_quiet_30 (by decide) rfl rfl ?_
    refine rn_iconst (q := 32) dX9_quiet_31 (am_okd rfl) rfl ?_
    refine rn_istore_n (ls' := [some (.inr (.inr 96)), some (.inl n), some (.inl 0), some (.inl (-1)), none, none, none]) (q := 33) dX9_quiet_32 (by decide) rfl rfl ?_
    refine rn_iconst (q := 34) dX9_quiet_33 (am_okd rfl) rfl ?_
    refine rn_istore (ls' := [some (.inr (.inr 96)), some (.inl n), some (.inl 0), some (.inl (-1)), some (.inl 0), none, none]) (q := 36) dX9_quiet_34 (by decide) rfl rfl ?_
    refine rn_iconst (q := 37) dX9_quiet_36 (am_okd rfl) rfl ?_
    refine rn_istore (ls' := [some (.inr (.inr 96)), some (.inl n), some (.inl 0), some (.inl (-1)), some (.inl 0), some (.inl 0), none]) (q := 39) dX9_quiet_37 (by decide) rfl rfl ?_
    exact L (by omega) 0 (by omega) _ 0 _ 0 _ ((frS.rf.up rfl).tr hf26) he26 rfl rfl rfl
  · show am_Rn l G _ _ 12 [some (.inr (.inr 96)), some (.inl n), none, none, none, none, none] [.inl 0] (am_up mem 95 11 0) _
    refine rn_ifne (t := 17) (q := 15) dX9_quiet_12 rfl rfl (fun h => absurd h (by decide)) (fun w12 => ?_)
    refine rn_iconst (q := 16) dX9_quiet_15 (am_okd rfl) rfl ?_
    refine rn_iret dX9_quiet_16 rfl ?_
    exact hQ _ _ ⟨fun _ => ⟨rfl, (frS.up (a := 95) (k := 11) (x := 0) frS.rf rfl), hR.kept (frS.rf.up rfl)⟩, fun hn => by omega⟩
end P64
