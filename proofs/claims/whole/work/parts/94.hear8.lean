/-! hearers of the class -/
def fitL (T : List Nat) (p : Nat) : Prop := if p % 4 = 0 then 0 ≤ srt (T.getD p 0 : Int) else if p % 4 = 1 then 49 ≤ T.getD p 0 ∧ T.getD p 0 ≤ 57 else if p % 4 = 2 then dgc (T.getD p 0) else T.getD p 0 = 59
def lnBad (T : List Nat) (n p : Nat) : Prop := p ≤ T.length ∧ p ≤ 31 ∧ (∀ j, j < p → fitL T j ∧ j / 4 + n < 8) ∧ ((p < T.length ∧ p < 31 ∧ ¬ (fitL T p ∧ p / 4 + n < 8)) ∨ (p = T.length ∧ 0 < p ∧ p % 4 ≠ 3) ∨ (p = 31 ∧ 31 < T.length))
def lnOK (T : List Nat) (n : Nat) : Prop := T.length ≤ 31 ∧ (T.length = 0 ∨ T.length % 4 = 3) ∧ ∀ j, j < T.length → fitL T j ∧ j / 4 + n < 8
theorem lnBad_le {T : List Nat} {n p p2 : Nat} (h : lnBad T n p) (g : lnBad T n p2) : p ≤ p2 := by
  obtain ⟨h0, h1, h2, h3⟩ := h
  obtain ⟨g0, g1, g2, g3⟩ := g
  refine Nat.le_of_not_lt (fun hl => ?_)
  have hd := h2 p2 hl
  rcases g3 with ⟨g4, g5, g6⟩ | ⟨g4, g5, g6⟩ | ⟨g4, g5⟩
  · exact g6 hd
  · omega
  · omega
theorem lnBad_un {T : List Nat} {n p p2 : Nat} (h : lnBad T n p) (g : lnBad T n p2) : p = p2 := Nat.le_antisymm (lnBad_le h g) (lnBad_le g h)
theorem lnBad_no {T : List Nat} {n p : Nat} (h : lnBad T n p) (g : lnOK T n) : False := by
  obtain ⟨h0, h1, h2, h3⟩ := h
  obtain ⟨g1, g2, g3⟩ := g
  rcases h3 with ⟨g4, g5, g6⟩ | ⟨g4, g5, g6⟩ | ⟨g4, g5⟩
  · exact g6 (g3 p g4)
  · omega
  · omega
theorem fitL0 {T : List Nat} {p : Nat} (h : p % 4 = 0) : fitL T p ↔ 0 ≤ srt (T.getD p 0 : Int) := by unfold fitL; rw [if_pos h]
theorem fitL1 {T : List Nat} {p : Nat} (h : p % 4 = 1) : fitL T p ↔ (49 ≤ T.getD p 0 ∧ T.getD p 0 ≤ 57) := by unfold fitL; rw [if_neg (by omega), if_pos h]
theorem fitL2 {T : List Nat} {p : Nat} (h : p % 4 = 2) : fitL T p ↔ dgc (T.getD p 0) := by unfold fitL; rw [if_neg (by omega), if_neg (by omega), if_pos h]
theorem fitL3 {T : List Nat} {p : Nat} (h : p % 4 = 3) : fitL T p ↔ T.getD p 0 = 59 := by unfold fitL; rw [if_neg (by omega), if_neg (by omega), if_neg (by omega)]
theorem txDg_e {T : List Nat} {p : Nat} (h : p < T.length) : txDg T (p : Int) = if 48 ≤ T.getD p 0 ∧ T.getD p 0 ≤ 57 then ((T.getD p 0 - 48 : Nat) : Int) else -1 := by
  by_cases hd : 48 ≤ T.getD p 0 ∧ T.getD p 0 ≤ 57
  · rw [if_pos hd, txDg_v h hd]
  · rw [if_neg hd]
    unfold txDg
    rw [txAt_n h, if_neg (by omega)]
def updN (f : Nat → Nat) (n v : Nat) : Nat → Nat := fun j => if j = n then v else f j
def hA (T : List Nat) (k : Nat) (h : hrs) : hrs := (h.1 + 1, updN h.2.1 h.1 (srt (T.getD (4 * k) 0 : Int)).toNat, updN h.2.2.1 h.1 (T.getD (4 * k + 1) 0 - 48), updN h.2.2.2 h.1 (T.getD (4 * k + 2) 0 - 48))
def eA (n : Nat) (e : est) : est := (updN (eH e) n 0, updN (eS e) n 0, eP e + 2 ^ n, eN e, eB e, eM e, eK e, eG e)
def hNn (T : List Nat) (h : hrs) : Nat → hrs
  | 0 => h
  | k + 1 => hA T k (hNn T h k)
def eNn (n : Nat) (e : est) : Nat → est
  | 0 => e
  | k + 1 => eA (n + k) (eNn n e k)
theorem hNn_1 {T : List Nat} {h : hrs} (k : Nat) : (hNn T h k).1 = h.1 + k := by
  induction k with
  | zero => rfl
  | succ k ih => show (hNn T h k).1 + 1 = _; rw [ih]; rfl
theorem srt_le (c : Int) : srt c ≤ 3 := by unfold srt; split <;> (try split) <;> (try split) <;> (try split) <;> omega
theorem srt_ge (c : Int) : -1 ≤ srt c := by unfold srt; split <;> (try split) <;> (try split) <;> (try split) <;> omega
theorem updN_le {f : Nat → Nat} {n v b : Nat} (h : ∀ i, f i ≤ b) (hv : v ≤ b) (i : Nat) : updN f n v i ≤ b := by
  unfold updN
  by_cases e : i = n
  · rw [if_pos e]; exact hv
  · rw [if_neg e]; exact h i
theorem hA_ok {T : List Nat} {k : Nat} {h : hrs} (ho : h_ok h) (h8 : h.1 < 8) (f1 : fitL T (4 * k + 1)) (f2 : fitL T (4 * k + 2)) : h_ok (hA T k h) := by
  rw [fitL1 (by omega)] at f1
  rw [fitL2 (by omega)] at f2
  unfold dgc at f2
  have := srt_le (T.getD (4 * k) 0 : Int)
  exact ⟨h8, updN_le ho.2.1 (by omega), updN_le ho.2.2.1 (by omega), updN_le ho.2.2.2 (by omega)⟩
theorem eA_ok {n NB : Nat} {e : est} (h : e_ok n NB e) : e_ok (n + 1) NB (eA n e) := by
  obtain ⟨h1, h2, h3, h4⟩ := h
  refine ⟨updN_le h1 (Nat.zero_le _), updN_le h2 (Nat.zero_le _), ?_, h4⟩
  show eP e + 2 ^ n < 2 ^ (n + 1)
  rw [Nat.pow_succ]; omega
theorem lnOK_at {T : List Nat} {n k : Nat} (h : lnOK T n) (hk : k < (T.length + 1) / 4) : 4 * k + 2 < T.length ∧ k + n < 8 ∧ fitL T (4 * k) ∧ fitL T (4 * k + 1) ∧ fitL T (4 * k + 2) := by
  have h1 : 4 * k + 2 < T.length := by have := h.2.1; omega
  have h2 := (h.2.2 (4 * k) (by omega)).2
  exact ⟨h1, by omega, (h.2.2 _ (by omega)).1, (h.2.2 _ (by omega)).1, (h.2.2 _ (by omega)).1⟩
theorem hNn_ok {T : List Nat} {h : hrs} {e : est} {NB : Nat} (ho : h_ok h) (eo : e_ok h.1 NB e) (hk : lnOK T h.1) : ∀ k, k ≤ (T.length + 1) / 4 → h_ok (hNn T h k) ∧ e_ok (hNn T h k).1 NB (eNn h.1 e k)
  | 0, _ => ⟨ho, eo⟩
  | k + 1, hl => by
    obtain ⟨i1, i2⟩ := hNn_ok ho eo hk k (by omega)
    obtain ⟨a1, a2, a3, a4, a5⟩ := lnOK_at hk (k := k) (by omega)
    rw [hNn_1] at i2
    refine ⟨hA_ok i1 (by rw [hNn_1]; omega) a4 a5, ?_⟩
    rw [hNn_1]
    exact eA_ok i2
def s8h (b k : Nat) : Bool := (b == 5 && k == 6) || (Nat.ble 7 b && Nat.ble b 9) || (Nat.ble 16 b && Nat.ble b 18)
section P94
variable {l : Launch} {G : am_G} {d : Nat} {r : Nat} {X : List Nat} {C : List Int} {sn : Nat} {sg : Nat → Nat} {h : hrs} {e : est} {NB : Nat} {mem m : am_M}
variable {T : List Nat}
theorem CQ.setH {h2 : hrs} {e2 : est} (q : CQ r X C sn sg h e NB mem) (hH : c_hrs h2 m) (hE : c_est e2 16 m) (he : e_ok h2.1 NB e2) (f : frS s8h mem m) : CQ r X C sn sg h2 e2 NB m := by
  obtain ⟨q1, q2, q3, q4, q5, q6, q7, q8, q9⟩ := q
  have o := am_rul_or q1
  refine ⟨q1, (f 5 7 rfl).trans q2, q3, ⟨?_, fun i hi => ?_, q4.2.2⟩, ⟨(f 5 5 rfl).trans q5.1, q5.2.1, q5.2.2.1, q5.2.2.2.1, fun i hi => (f 6 i rfl).trans (q5.2.2.2.2 i hi)⟩, hH, hE, he, q9⟩
  · rcases o with rfl | rfl
    · exact (f 11 4 rfl).trans q4.1
    · exact (f 84 4 rfl).trans q4.1
  · rcases o with rfl | rfl
    · exact (f 12 i rfl).trans (q4.2.1 i hi)
    · exact (f 85 i rfl).trans (q4.2.1 i hi)
theorem c_text.keptT (hT : c_text T mem) (h1 : m 1 = mem 1) (h2 : m 2 = mem 2) : c_text T m := ⟨by rw [h1]; exact hT.1, hT.2.1, hT.2.2.1, fun i hi => by rw [h2]; exact hT.2.2.2 i hi⟩
theorem c_fitsInLine (hT : c_text T mem) (p : Nat) (hp : p < T.length) : am_Sm l G yX8_fitsInLine mt_X8_fitsInLine (d + 4) [.inr (.inr 1), .inl (p : Int)] mem (fun q m => ((fitL T p ∧ q = some (.inl 1)) ∨ (¬ fitL T p ∧ q = some (.inl 0))) ∧ mem = m) := by
  refine am_enterQ (ls := [some (.inr (.inr 1)), some (.inl (p : Int))]) (by decide) rfl (Nat.le_of_ble_eq_true rfl) rfl (fun hok Q hQ => ?_)
  have hl := hT.len
  have h256 := hT.2.2.1 p
  have e1 := txAt_n hp
  have e2 := txDg_e hp
  have c4 : Int.tmod (p : Int) 4 = ((p % 4 : Nat) : Int) := rfl
  rcases (show p % 4 = 0 ∨ p % 4 = 1 ∨ p % 4 = 2 ∨ p % 4 = 3 by omega) with h4 | h4 | h4 | h4
  · have hf := fitL0 (T := T) h4
    refine rn_iload_n (x := (p : Int)) (q := 1) dX8_fitsInLine_0 rfl rfl ?_
    refine rn_iconst (q := 2) dX8_fitsInLine_1 (am_okd rfl) rfl ?_
    refine rn_iremN (z := 0) (q := 3) dX8_fitsInLine_2 (by decide) (by rw [c4, h4]; rfl) (by unfold am_ok; omega) rfl ?_
    refine rn_tabIn (o1 := 25) (t := 28) dX8_fitsInLine_3 (by decide) (by decide) rfl rfl ?_
    refine rn_ldcS_X8 (q := 30) dX8_fitsInLine_28 rfl rfl ?_
    refine rn_aload_n (x := 0) (q := 31) dX8_fitsInLine_30 rfl rfl ?_
    refine rn_get (a := 0) (v := .inr (.inr 2)) (q := 34) dX8_fitsInLine_31 fl_X8_10 rfl rfl rfl ?_
    refine rn_iload_n (x := (p : Int)) (q := 35) dX8_fitsInLine_34 rfl rfl ?_
    refine rn_callV (b := 1) (as := [.inl (p : Int)]) (rest := [.inr (.inr 1003)]) (q := 38) dX8_fitsInLine_35 ml_X8_142 sm_X7_at rfl rfl (by decide) (by omega) rfl rfl (Nat.le_of_ble_eq_true rfl) rfl (s_Tat (d := d + 3) hT (p : Int)) ?_
    intro r35 mem35 hq35
    obtain ⟨rfl, rfl⟩ := hq35
    show am_Rn l G _ _ 38 [some (.inr (.inr 1)), some (.inl (p : Int))] [.inl (txAt T (p : Int)), .inr (.inr 1003)] mem _
    refine rn_i2c (q := 39) dX8_fitsInLine_38 rfl ?_
    rw [show txAt T (p : Int) % 65536 = (T.getD p 0 : Int) by rw [e1]; omega]
    refine rn_callVS 1 (by decide) (as := [.inl (T.getD p 0 : Int)]) (rest := []) (q := 42) dX8_fitsInLine_39 ml_X8_145 sm_J0_indexOf_0f7a4 (by omega) rfl rfl (Nat.le_of_ble_eq_true rfl) rfl (s_ix1 (d := d + 0) (T.getD p 0 : Int)) ?_
    intro r39 mem39 hq39
    obtain ⟨rfl, rfl⟩ := hq39
    show am_Rn l G _ _ 42 [some (.inr (.inr 1)), some (.inl (p : Int))] [.inl (srt (T.getD p 0 : Int))] mem _
    refine rn_iflt (t := 49) (q := 45) dX8_fitsInLine_42 rfl rfl (fun w42 => ?_) (fun w42 => ?_)
    · refine rn_iconst (q := 50) dX8_fitsInLine_49 (am_okd rfl) rfl ?_
      refine rn_zret dX8_fitsInLine_50 rfl (by omega) ?_
      first | exact hQ _ _ ⟨Or.inl ⟨hf.mpr w42, rfl⟩, rfl⟩ | exact hQ _ _ ⟨Or.inl ⟨hf.mpr (by omega), rfl⟩, rfl⟩ | exact hQ _ _ ⟨Or.inr ⟨fun z => by have := hf.mp z; omega, rfl⟩, rfl⟩
    · refine rn_iconst (q := 46) dX8_fitsInLine_45 (am_okd rfl) rfl ?_
      refine rn_goto (t := 50) dX8_fitsInLine_46 rfl ?_
      refine rn_zret dX8_fitsInLine_50 rfl (by omega) ?_
      first | exact hQ _ _ ⟨Or.inl ⟨hf.mpr w42, rfl⟩, rfl⟩ | exact hQ _ _ ⟨Or.inl ⟨hf.mpr (by omega), rfl⟩, rfl⟩ | exact hQ _ _ ⟨Or.inr ⟨fun z => by have := hf.mp z; omega, rfl⟩, rfl⟩
  · have hf := fitL1 (T := T) h4
    refine rn_iload_n (x := (p : Int)) (q := 1) dX8_fitsInLine_0 rfl rfl ?_
    refine rn_iconst (q := 2) dX8_fitsInLine_1 (am_okd rfl) rfl ?_
    refine rn_iremN (z := 1) (q := 3) dX8_fitsInLine_2 (by decide) (by rw [c4, h4]; rfl) (by unfold am_ok; omega) rfl ?_
    refine rn_tabIn (o1 := 48) (t := 51) dX8_fitsInLine_3 (by decide) (by decide) rfl rfl ?_
    refine rn_aload_n (x := 0) (q := 52) dX8_fitsInLine_51 rfl rfl ?_
    refine rn_get (a := 0) (v := .inr (.inr 2)) (q := 55) dX8_fitsInLine_52 fl_X8_10 rfl rfl rfl ?_
    refine rn_iload_n (x := (p : Int)) (q := 56) dX8_fitsInLine_55 rfl rfl ?_
    refine rn_callV (b := 1) (as := [.inl (p : Int)]) (rest := []) (q := 59) dX8_fitsInLine_56 ml_X8_119 sm_X7_digit rfl rfl (by decide) (by omega) rfl rfl (Nat.le_of_ble_eq_true rfl) rfl (s_Tdigit (d := d + 2) hT (p : Int)) ?_
    intro r56 mem56 hq56
    obtain ⟨rfl, rfl⟩ := hq56
    show am_Rn l G _ _ 59 [some (.inr (.inr 1)), some (.inl (p : Int))] [.inl (txDg T (p : Int))] mem _
    refine rn_ifle (t := 66) (q := 62) dX8_fitsInLine_59 rfl rfl (fun w59 => ?_) (fun w59 => ?_)
    · refine rn_iconst (q := 67) dX8_fitsInLine_66 (am_okd rfl) rfl ?_
      refine rn_zret dX8_fitsInLine_67 rfl (by omega) ?_
      split at e2
      · first | exact hQ _ _ ⟨Or.inl ⟨hf.mpr (by omega), rfl⟩, rfl⟩ | exact hQ _ _ ⟨Or.inr ⟨fun z => by have := hf.mp z; omega, rfl⟩, rfl⟩
      · first | exact hQ _ _ ⟨Or.inr ⟨fun z => by have := hf.mp z; omega, rfl⟩, rfl⟩ | (exfalso; omega)
    · refine rn_iconst (q := 63) dX8_fitsInLine_62 (am_okd rfl) rfl ?_
      refine rn_goto (t := 67) dX8_fitsInLine_63 rfl ?_
      refine rn_zret dX8_fitsInLine_67 rfl (by omega) ?_
      split at e2
      · first | exact hQ _ _ ⟨Or.inl ⟨hf.mpr (by omega), rfl⟩, rfl⟩ | exact hQ _ _ ⟨Or.inr ⟨fun z => by have := hf.mp z; omega, rfl⟩, rfl⟩
      · first | exact hQ _ _ ⟨Or.inr ⟨fun z => by have := hf.mp z; omega, rfl⟩, rfl⟩ | (exfalso; omega)
  · have hf := fitL2 (T := T) h4
    have hf2 := txDg_iff hp
    refine rn_iload_n (x := (p : Int)) (q := 1) dX8_fitsInLine_0 rfl rfl ?_
    refine rn_iconst (q := 2) dX8_fitsInLine_1 (am_okd rfl) rfl ?_
    refine rn_iremN (z := 2) (q := 3) dX8_fitsInLine_2 (by decide) (by rw [c4, h4]; rfl) (by unfold am_ok; omega) rfl ?_
    refine rn_tabIn (o1 := 65) (t := 68) dX8_fitsInLine_3 (by decide) (by decide) rfl rfl ?_
    refine rn_aload_n (x := 0) (q := 69) dX8_fitsInLine_68 rfl rfl ?_
    refine rn_get (a := 0) (v := .inr (.inr 2)) (q := 72) dX8_fitsInLine_69 fl_X8_10 rfl rfl rfl ?_
    refine rn_iload_n (x := (p : Int)) (q := 73) dX8_fitsInLine_72 rfl rfl ?_
    refine rn_callV (b := 1) (as := [.inl (p : Int)]) (rest := []) (q := 76) dX8_fitsInLine_73 ml_X8_119 sm_X7_digit rfl rfl (by decide) (by omega) rfl rfl (Nat.le_of_ble_eq_true rfl) rfl (s_Tdigit (d := d + 2) hT (p : Int)) ?_
    intro r73 mem73 hq73
    obtain ⟨rfl, rfl⟩ := hq73
    show am_Rn l G _ _ 76 [some (.inr (.inr 1)), some (.inl (p : Int))] [.inl (txDg T (p : Int))] mem _
    refine rn_iflt (t := 83) (q := 79) dX8_fitsInLine_76 rfl rfl (fun w76 => ?_) (fun w76 => ?_)
    · refine rn_iconst (q := 84) dX8_fitsInLine_83 (am_okd rfl) rfl ?_
      refine rn_zret dX8_fitsInLine_84 rfl (by omega) ?_
      first | exact hQ _ _ ⟨Or.inl ⟨hf.mpr (hf2.mp (by omega)), rfl⟩, rfl⟩ | exact hQ _ _ ⟨Or.inr ⟨fun z => by have := hf2.mpr (hf.mp z); omega, rfl⟩, rfl⟩
    · refine rn_iconst (q := 80) dX8_fitsInLine_79 (am_okd rfl) rfl ?_
      refine rn_goto (t := 84) dX8_fitsInLine_80 rfl ?_
      refine rn_zret dX8_fitsInLine_84 rfl (by omega) ?_
      first | exact hQ _ _ ⟨Or.inl ⟨hf.mpr (hf2.mp (by omega)), rfl⟩, rfl⟩ | exact hQ _ _ ⟨Or.inr ⟨fun z => by have := hf2.mpr (hf.mp z); omega, rfl⟩, rfl⟩
  · have hf := fitL3 (T := T) h4
    refine rn_iload_n (x := (p : Int)) (q := 1) dX8_fitsInLine_0 rfl rfl ?_
    refine rn_iconst (q := 2) dX8_fitsInLine_1 (am_okd rfl) rfl ?_
    refine rn_iremN (z := 3) (q := 3) dX8_fitsInLine_2 (by decide) (by rw [c4, h4]; rfl) (by unfold am_ok; omega) rfl ?_
    refine rn_tabOut (t := 85) dX8_fitsInLine_3 (by decide) rfl ?_
    refine rn_aload_n (x := 0) (q := 86) dX8_fitsInLine_85 rfl rfl ?_
    refine rn_get (a := 0) (v := .inr (.inr 2)) (q := 89) dX8_fitsInLine_86 fl_X8_10 rfl rfl rfl ?_
    refine rn_iload_n (x := (p : Int)) (q := 90) dX8_fitsInLine_89 rfl rfl ?_
    refine rn_callV (b := 1) (as := [.inl (p : Int)]) (rest := []) (q := 93) dX8_fitsInLine_90 ml_X8_142 sm_X7_at rfl rfl (by decide) (by omega) rfl rfl (Nat.le_of_ble_eq_true rfl) rfl (s_Tat (d := d + 3) hT (p : Int)) ?_
    intro r90 mem90 hq90
    obtain ⟨rfl, rfl⟩ := hq90
    show am_Rn l G _ _ 93 [some (.inr (.inr 1)), some (.inl (p : Int))] [.inl (txAt T (p : Int))] mem _
    refine rn_bipush (q := 95) dX8_fitsInLine_93 ⟨by decide, by decide⟩ rfl ?_
    refine rn_cmpne (t := 102) (q := 98) dX8_fitsInLine_95 rfl rfl (fun w95 => ?_) (fun w95 => ?_)
    · refine rn_iconst (q := 103) dX8_fitsInLine_102 (am_okd rfl) rfl ?_
      refine rn_zret dX8_fitsInLine_103 rfl (by omega) ?_
      first | exact hQ _ _ ⟨Or.inl ⟨hf.mpr (by omega), rfl⟩, rfl⟩ | exact hQ _ _ ⟨Or.inr ⟨fun z => by have := hf.mp z; omega, rfl⟩, rfl⟩
    · refine rn_iconst (q := 99) dX8_fitsInLine_98 (am_okd rfl) rfl ?_
      refine rn_goto (t := 103) dX8_fitsInLine_99 rfl ?_
      refine rn_zret dX8_fitsInLine_103 rfl (by omega) ?_
      first | exact hQ _ _ ⟨Or.inl ⟨hf.mpr (by omega), rfl⟩, rfl⟩ | exact hQ _ _ ⟨Or.inr ⟨fun z => by have := hf.mp z; omega, rfl⟩, rfl⟩
theorem c_faultInLines (q : CQ r X C sn sg h e NB mem) (hT : c_text T mem) : am_Sm l G yX8_faultInLines mt_X8_faultInLines (d + 5) [.inr (.inr 1)] mem (fun q m => ((lnOK T h.1 ∧ q = some (.inl (-1))) ∨ ∃ p : Nat, lnBad T h.1 p ∧ q = some (.inl (p : Int))) ∧ mem = m) := by
  refine am_enterQ (ls := [some (.inr (.inr 1)), none, none, none]) (by decide) rfl (Nat.le_of_ble_eq_true rfl) rfl (fun hok Q hQ => ?_)
  have hl := hT.len
  have b := q.bd
  obtain ⟨Ln, hLn⟩ : ∃ Ln, Ln = min T.length 31 := ⟨_, rfl⟩
  have L : ∀ p : Nat, p ≤ Ln → (∀ j, j < p → fitL T j ∧ j / 4 + h.1 < 8) → am_Rn l G mt_X8_faultInLines (d + 5) 26 [some (.inr (.inr 1)), some (.inl (Ln : Int)), some (.inl (8 - (h.1 : Int))), some (.inl (p : Int))] [] mem Q := by
    refine am_dn Ln (fun p hp ih hj => ?_)
    refine rn_iload_n (x := (p : Int)) (q := 27) dX8_faultInLines_26 rfl rfl ?_
    refine rn_iload_n (x := (Ln : Int)) (q := 28) dX8_faultInLines_27 rfl rfl ?_
    refine rn_cmpge (t := 54) (q := 31) dX8_faultInLines_28 rfl rfl (fun w28 => ?_) (fun w28 => ?_)
    · refine rn_iload_n (x := (Ln : Int)) (q := 55) dX8_faultInLines_54 rfl rfl ?_
      refine rn_ifle (t := 67) (q := 58) dX8_faultInLines_55 rfl rfl (fun w55 => ?_) (fun w55 => ?_)
      · refine rn_aload_n (x := 0) (q := 68) dX8_faultInLines_67 rfl rfl ?_
        refine rn_get (a := 0) (v := .inr (.inr 2)) (q := 71) dX8_faultInLines_68 fl_X8_10 rfl rfl rfl ?_
        refine rn_get (a := 1) (v := .inl (T.length : Int)) (q := 74) dX8_faultInLines_71 fl_X8_107 rfl (am_gi hT.1) rfl ?_
        refine rn_bipush (q := 76) dX8_faultInLines_74 ⟨by decide, by decide⟩ rfl ?_
        refine rn_cmple (t := 84) (q := 79) dX8_faultInLines_76 rfl rfl (fun w76 => ?_) (fun w76 => ?_)
        · refine rn_iconst (q := 85) dX8_faultInLines_84 (am_okd rfl) rfl ?_
          refine rn_iret dX8_faultInLines_85 rfl ?_
          obtain rfl : p = Ln := by omega
          first | exact hQ _ _ ⟨Or.inr ⟨31, ⟨by omega, by omega, fun j hj2 => hj j (by omega), Or.inr (Or.inr ⟨rfl, by omega⟩)⟩, rfl⟩, rfl⟩ | exact hQ _ _ ⟨Or.inl ⟨⟨by omega, by omega, fun j hj2 => hj j (by omega)⟩, rfl⟩, rfl⟩
        · refine rn_bipush (q := 81) dX8_faultInLines_79 ⟨by decide, by decide⟩ rfl ?_
          refine rn_goto (t := 85) dX8_faultInLines_81 rfl ?_
          refine rn_iret dX8_faultInLines_85 rfl ?_
          obtain rfl : p = Ln := by omega
          first | exact hQ _ _ ⟨Or.inr ⟨31, ⟨by omega, by omega, fun j hj2 => hj j (by omega), Or.inr (Or.inr ⟨rfl, by omega⟩)⟩, rfl⟩, rfl⟩ | exact hQ _ _ ⟨Or.inl ⟨⟨by omega, by omega, fun j hj2 => hj j (by omega)⟩, rfl⟩, rfl⟩
      · refine rn_iload_n (x := (Ln : Int)) (q := 59) dX8_faultInLines_58 rfl rfl ?_
        refine rn_iconst (q := 60) dX8_faultInLines_59 (am_okd rfl) rfl ?_
        refine rn_iremN (z := ((Ln % 4 : Nat) : Int)) (q := 61) dX8_faultInLines_60 (by decide) rfl (by unfold am_ok; omega) rfl ?_
        refine rn_iconst (q := 62) dX8_faultInLines_61 (am_okd rfl) rfl ?_
        refine rn_cmpeq (t := 67) (q := 65) dX8_faultInLines_62 rfl rfl (fun w62 => ?_) (fun w62 => ?_)
        · refine rn_aload_n (x := 0) (q := 68) dX8_faultInLines_67 rfl rfl ?_
          refine rn_get (a := 0) (v := .inr (.inr 2)) (q := 71) dX8_faultInLines_68 fl_X8_10 rfl rfl rfl ?_
          refine rn_get (a := 1) (v := .inl (T.length : Int)) (q := 74) dX8_faultInLines_71 fl_X8_107 rfl (am_gi hT.1) rfl ?_
          refine rn_bipush (q := 76) dX8_faultInLines_74 ⟨by decide, by decide⟩ rfl ?_
          refine rn_cmple (t := 84) (q := 79) dX8_faultInLines_76 rfl rfl (fun w76 => ?_) (fun w76 => ?_)
          · refine rn_iconst (q := 85) dX8_faultInLines_84 (am_okd rfl) rfl ?_
            refine rn_iret dX8_faultInLines_85 rfl ?_
            obtain rfl : p = Ln := by omega
            first | exact hQ _ _ ⟨Or.inr ⟨31, ⟨by omega, by omega, fun j hj2 => hj j (by omega), Or.inr (Or.inr ⟨rfl, by omega⟩)⟩, rfl⟩, rfl⟩ | exact hQ _ _ ⟨Or.inl ⟨⟨by omega, by omega, fun j hj2 => hj j (by omega)⟩, rfl⟩, rfl⟩
          · refine rn_bipush (q := 81) dX8_faultInLines_79 ⟨by decide, by decide⟩ rfl ?_
            refine rn_goto (t := 85) dX8_faultInLines_81 rfl ?_
            refine rn_iret dX8_faultInLines_85 rfl ?_
            obtain rfl : p = Ln := by omega
            first | exact hQ _ _ ⟨Or.inr ⟨31, ⟨by omega, by omega, fun j hj2 => hj j (by omega), Or.inr (Or.inr ⟨rfl, by omega⟩)⟩, rfl⟩, rfl⟩ | exact hQ _ _ ⟨Or.inl ⟨⟨by omega, by omega, fun j hj2 => hj j (by omega)⟩, rfl⟩, rfl⟩
        · refine rn_iload_n (x := (Ln : Int)) (q := 66) dX8_faultInLines_65 rfl rfl ?_
          refine rn_iret dX8_faultInLines_66 rfl ?_
          obtain rfl : p = Ln := by omega
          exact hQ _ _ ⟨Or.inr ⟨p, ⟨by omega, by omega, hj, Or.inr (Or.inl ⟨by omega, by omega, by omega⟩)⟩, rfl⟩, rfl⟩
    · refine rn_aload_n (x := 0) (q := 32) dX8_faultInLines_31 rfl rfl ?_
      refine rn_iload_n (x := (p : Int)) (q := 33) dX8_faultInLines_32 rfl rfl ?_
      refine rn_callV (b := 0) (as := [.inl (p : Int)]) (rest := []) (q := 36) dX8_faultInLines_33 ml_X8_137 sm_X8_fitsInLine rfl rfl (by decide) (by omega) rfl rfl (Nat.le_of_ble_eq_true rfl) rfl (c_fitsInLine (d := d + 0) hT p (by omega)) ?_
      intro r33 mem33 hq33
      obtain ⟨⟨hx33, rfl⟩ | ⟨hx33, rfl⟩, rfl⟩ := hq33
      · show am_Rn l G _ _ 36 [some (.inr (.inr 1)), some (.inl (Ln : Int)), some (.inl (8 - (h.1 : Int))), some (.inl (p : Int))] [.inl 1] mem _
        refine rn_ifeq (t := 46) (q := 39) dX8_faultInLines_36 rfl rfl (fun h => absurd h (by decide)) (fun w36 => ?_)
        refine rn_iload_n (x := (p : Int)) (q := 40) dX8_faultInLines_39 rfl rfl ?_
        refine rn_iconst (q := 41) dX8_faultInLines_40 (am_okd rfl) rfl ?_
        refine rn_idivN (z := ((p / 4 : Nat) : Int)) (q := 42) dX8_faultInLines_41 (by decide) rfl (by unfold am_ok; omega) rfl ?_
        refine rn_iload_n (x := (8 - (h.1 : Int))) (q := 43) dX8_faultInLines_42 rfl rfl ?_
        refine rn_cmplt (t := 48) (q := 46) dX8_faultInLines_43 rfl rfl (fun w43 => ?_) (fun w43 => ?_)
        · refine rn_iincN (x := (p : Int)) (z := ((p + 1 : Nat) : Int)) (ls' := [some (.inr (.inr 1)), some (.inl (Ln : Int)), some (.inl (8 - (h.1 : Int))), some (.inl ((p + 1 : Nat) : Int))]) (q := 51) dX8_faultInLines_48 rfl (by decide) (by omega) (by unfold am_ok; omega) rfl rfl ?_
          refine rn_goto (t := 26) dX8_faultInLines_51 rfl ?_
          refine ih (by omega) (fun j hj2 => ?_)
          by_cases hjp : j = p
          · rw [hjp]; exact ⟨hx33, by omega⟩
          · exact hj j (by omega)
        · refine rn_iload_n (x := (p : Int)) (q := 47) dX8_faultInLines_46 rfl rfl ?_
          refine rn_iret dX8_faultInLines_47 rfl ?_
          first | exact hQ _ _ ⟨Or.inr ⟨p, ⟨by omega, by omega, hj, Or.inl ⟨by omega, by omega, fun z => by have := z.2; omega⟩⟩, rfl⟩, rfl⟩ | exact hQ _ _ ⟨Or.inr ⟨p, ⟨by omega, by omega, hj, Or.inl ⟨by omega, by omega, fun z => hx33 z.1⟩⟩, rfl⟩, rfl⟩
      · show am_Rn l G _ _ 36 [some (.inr (.inr 1)), some (.inl (Ln : Int)), some (.inl (8 - (h.1 : Int))), some (.inl (p : Int))] [.inl 0] mem _
        refine rn_ifeq (t := 46) (q := 39) dX8_faultInLines_36 rfl rfl (fun w36 => ?_) (fun h => absurd h (by decide))
        refine rn_iload_n (x := (p : Int)) (q := 47) dX8_faultInLines_46 rfl rfl ?_
        refine rn_iret dX8_faultInLines_47 rfl ?_
        first | exact hQ _ _ ⟨Or.inr ⟨p, ⟨by omega, by omega, hj, Or.inl ⟨by omega, by omega, fun z => by have := z.2; omega⟩⟩, rfl⟩, rfl⟩ | exact hQ _ _ ⟨Or.inr ⟨p, ⟨by omega, by omega, hj, Or.inl ⟨by omega, by omega, fun z => hx33 z.1⟩⟩, rfl⟩, rfl⟩
  refine rn_aload_n (x := 0) (q := 1) dX8_faultInLines_0 rfl rfl ?_
  refine rn_get (a := 0) (v := .inr (.inr 2)) (q := 4) dX8_faultInLines_1 fl_X8_10 rfl rfl rfl ?_
  refine rn_get (a := 1) (v := .inl (T.length : Int)) (q := 7) dX8_faultInLines_4 fl_X8_107 rfl (am_gi hT.1) rfl ?_
  refine rn_bipush (q := 9) dX8_faultInLines_7 ⟨by decide, by decide⟩ rfl ?_
  refine rn_mmin (q := 12) dX8_faultInLines_9 am_mm_X8_130 am_mminw (Nat.le_of_ble_eq_true rfl) rfl ?_
  rw [show (min (T.length : Int) 31) = (Ln : Int) from (by omega)]
  refine rn_istore_n (ls' := [some (.inr (.inr 1)), some (.inl (Ln : Int)), none, none]) (q := 13) dX8_faultInLines_12 (by decide) rfl rfl ?_
  refine rn_bipush (q := 15) dX8_faultInLines_13 ⟨by decide, by decide⟩ rfl ?_
  refine rn_aload_n (x := 0) (q := 16) dX8_faultInLines_15 rfl rfl ?_
  refine rn_get (a := 0) (v := .inr (.inr 6)) (q := 19) dX8_faultInLines_16 fl_X8_26 rfl rfl rfl ?_
  refine rn_get (a := 5) (v := .inl (h.1 : Int)) (q := 22) dX8_faultInLines_19 fl_X8_136 rfl (am_gi q.n) rfl ?_
  refine rn_isubN (z := (8 - (h.1 : Int))) (q := 23) dX8_faultInLines_22 rfl (by unfold am_ok; omega) rfl ?_
  refine rn_istore_n (ls' := [some (.inr (.inr 1)), some (.inl (Ln : Int)), some (.inl (8 - (h.1 : Int))), none]) (q := 24) dX8_faultInLines_23 (by decide) rfl rfl ?_
  refine rn_iconst (q := 25) dX8_faultInLines_24 (am_okd rfl) rfl ?_
  refine rn_istore_n (ls' := [some (.inr (.inr 1)), some (.inl (Ln : Int)), some (.inl (8 - (h.1 : Int))), some (.inl 0)]) (q := 26) dX8_faultInLines_25 (by decide) rfl rfl ?_
  exact L 0 (Nat.zero_le _) (fun j hj2 => absurd hj2 (Nat.not_lt_zero j))
theorem c_admit (q : CQ r X C sn sg h e NB mem) (hT : c_text T mem) (k : Nat) (h8 : h.1 < 8) (hk : 4 * k + 2 < T.length) (f0 : fitL T (4 * k)) (f1 : fitL T (4 * k + 1)) (f2 : fitL T (4 * k + 2)) : am_Sm l G yX8_admit mt_X8_admit (d + 4) [.inr (.inr 1), .inl ((4 * k : Nat) : Int)] mem (fun q m => q = none ∧ CQ r X C sn sg (hA T k h) (eA h.1 e) NB m ∧ frS s8h mem m) := by
  refine am_enterQ (ls := [some (.inr (.inr 1)), some (.inl ((4 * k : Nat) : Int)), none]) (by decide) rfl (Nat.le_of_ble_eq_true rfl) rfl (fun hok Q hQ => ?_)
  have hl := hT.len
  have b := q.bd
  have g0 := (fitL0 (by omega)).mp f0
  have g1 := (fitL1 (by omega)).mp f1
  have g2 := (fitL2 (by omega)).mp f2
  have a0 := txAt_n (T := T) (p := 4 * k) (by omega)
  have h256 := hT.2.2.1 (4 * k)
  have a1 : txDg T ((4 * k + 1 : Nat) : Int) = ((T.getD (4 * k + 1) 0 - 48 : Nat) : Int) := txDg_v (by omega) (by unfold dgc; omega)
  have a2 : txDg T ((4 * k + 2 : Nat) : Int) = ((T.getD (4 * k + 2) 0 - 48 : Nat) : Int) := txDg_v (by omega) g2
  obtain ⟨s0, hs0⟩ := Int.eq_ofNat_of_zero_le g0
  refine rn_aload_n (x := 0) (q := 1) dX8_admit_0 rfl rfl ?_
  refine rn_get (a := 0) (v := .inr (.inr 6)) (q := 4) dX8_admit_1 fl_X8_26 rfl rfl rfl ?_
  refine rn_get (a := 5) (v := .inl (h.1 : Int)) (q := 7) dX8_admit_4 fl_X8_136 rfl (am_gi q.n) rfl ?_
  refine rn_istore_n (ls' := [some (.inr (.inr 1)), some (.inl ((4 * k : Nat) : Int)), some (.inl (h.1 : Int))]) (q := 8) dX8_admit_7 (by decide) rfl rfl ?_
  refine rn_iload_n (x := (h.1 : Int)) (q := 9) dX8_admit_8 rfl rfl ?_
  refine rn_iflt (t := 18) (q := 12) dX8_admit_9 rfl rfl (fun h => absurd h (by omega)) (fun w9 => ?_)
  refine rn_iload_n (x := (h.1 : Int)) (q := 13) dX8_admit_12 rfl rfl ?_
  refine rn_bipush (q := 15) dX8_admit_13 ⟨by decide, by decide⟩ rfl ?_
  refine rn_cmplt (t := 19) (q := 18) dX8_admit_15 rfl rfl (fun w15 => ?_) (fun h => absurd h (by omega))
  refine rn_aload_n (x := 0) (q := 20) dX8_admit_19 rfl rfl ?_
  refine rn_get (a := 0) (v := .inr (.inr 6)) (q := 23) dX8_admit_20 fl_X8_26 rfl rfl rfl ?_
  refine rn_get (a := 5) (v := .inr (.inr 8)) (q := 26) dX8_admit_23 fl_X8_150 rfl rfl rfl ?_
  refine rn_iload_n (x := (h.1 : Int)) (q := 27) dX8_admit_26 rfl rfl ?_
  refine rn_ldcS_X8 (q := 29) dX8_admit_27 rfl rfl ?_
  refine rn_aload_n (x := 0) (q := 30) dX8_admit_29 rfl rfl ?_
  refine rn_get (a := 0) (v := .inr (.inr 2)) (q := 33) dX8_admit_30 fl_X8_10 rfl rfl rfl ?_
  refine rn_iload_n (x := ((4 * k : Nat) : Int)) (q := 34) dX8_admit_33 rfl rfl ?_
  refine rn_callV (b := 1) (as := [.inl ((4 * k : Nat) : Int)]) (rest := [.inr (.inr 1003), .inl (h.1 : Int), .inr (.inr 8)]) (q := 37) dX8_admit_34 ml_X8_142 sm_X7_at rfl rfl (by decide) (by omega) rfl rfl (Nat.le_of_ble_eq_true rfl) rfl (s_Tat (d := d + 3) hT ((4 * k : Nat) : Int)) ?_
  intro r34 mem34 hq34
  obtain ⟨rfl, rfl⟩ := hq34
  show am_Rn l G _ _ 37 [some (.inr (.inr 1)), some (.inl ((4 * k : Nat) : Int)), some (.inl (h.1 : Int))] [.inl (txAt T ((4 * k : Nat) : Int)), .inr (.inr 1003), .inl (h.1 : Int), .inr (.inr 8)] mem _
  refine rn_i2c (q := 38) dX8_admit_37 rfl ?_
  rw [show txAt T ((4 * k : Nat) : Int) % 65536 = (T.getD (4 * k) 0 : Int) by rw [a0]; omega]
  refine rn_callVS 1 (by decide) (as := [.inl (T.getD (4 * k) 0 : Int)]) (rest := [.inl (h.1 : Int), .inr (.inr 8)]) (q := 41) dX8_admit_38 ml_X8_145 sm_J0_indexOf_0f7a4 (by omega) rfl rfl (Nat.le_of_ble_eq_true rfl) rfl (s_ix1 (d := d + 0) (T.getD (4 * k) 0 : Int)) ?_
  intro r38 mem38 hq38
  obtain ⟨rfl, rfl⟩ := hq38
  show am_Rn l G _ _ 41 [some (.inr (.inr 1)), some (.inl ((4 * k : Nat) : Int)), some (.inl (h.1 : Int))] [.inl (srt (T.getD (4 * k) 0 : Int)), .inl (h.1 : Int), .inr (.inr 8)] mem _
  refine rn_iastV (a := 7) (m1 := am_up mem 7 h.1 (srt (T.getD (4 * k) 0 : Int))) (q := 42) dX8_admit_41 rfl (by omega) (by omega) rfl rfl ?_
  refine rn_aload_n (x := 0) (q := 43) dX8_admit_42 rfl rfl ?_
  refine rn_get (a := 0) (v := .inr (.inr 6)) (q := 46) dX8_admit_43 fl_X8_26 rfl rfl rfl ?_
  refine rn_get (a := 5) (v := .inr (.inr 9)) (q := 49) dX8_admit_46 fl_X8_153 rfl rfl rfl ?_
  refine rn_iload_n (x := (h.1 : Int)) (q := 50) dX8_admit_49 rfl rfl ?_
  refine rn_aload_n (x := 0) (q := 51) dX8_admit_50 rfl rfl ?_
  refine rn_get (a := 0) (v := .inr (.inr 2)) (q := 54) dX8_admit_51 fl_X8_10 rfl rfl rfl ?_
  refine rn_iload_n (x := ((4 * k : Nat) : Int)) (q := 55) dX8_admit_54 rfl rfl ?_
  refine rn_iconst (q := 56) dX8_admit_55 (am_okd rfl) rfl ?_
  refine rn_iaddN (z := (((4 * k) + 1 : Nat) : Int)) (q := 57) dX8_admit_56 (by omega) (by unfold am_ok; omega) rfl ?_
  refine rn_callV (b := 1) (as := [.inl (((4 * k) + 1 : Nat) : Int)]) (rest := [.inl (h.1 : Int), .inr (.inr 9)]) (q := 60) dX8_admit_57 ml_X8_119 sm_X7_digit rfl rfl (by decide) (by omega) rfl rfl (Nat.le_of_ble_eq_true rfl) rfl (s_Tdigit (d := d + 2) (hT.keptT (m := (am_up mem 7 h.1 (srt (T.getD (4 * k) 0 : Int)))) rfl rfl) (((4 * k) + 1 : Nat) : Int)) ?_
  intro r57 mem57 hq57
  obtain ⟨rfl, rfl⟩ := hq57
  show am_Rn l G _ _ 60 [some (.inr (.inr 1)), some (.inl ((4 * k : Nat) : Int)), some (.inl (h.1 : Int))] [.inl (txDg T (((4 * k) + 1 : Nat) : Int)), .inl (h.1 : Int), .inr (.inr 9)] (am_up mem 7 h.1 (srt (T.getD (4 * k) 0 : Int))) _
  refine rn_iastV (a := 8) (m1 := am_up (am_up mem 7 h.1 (srt (T.getD (4 * k) 0 : Int))) 8 h.1 (txDg T (((4 * k) + 1 : Nat) : Int))) (q := 61) dX8_admit_60 rfl (by omega) (by omega) rfl rfl ?_
  refine rn_aload_n (x := 0) (q := 62) dX8_admit_61 rfl rfl ?_
  refine rn_get (a := 0) (v := .inr (.inr 6)) (q := 65) dX8_admit_62 fl_X8_26 rfl rfl rfl ?_
  refine rn_get (a := 5) (v := .inr (.inr 10)) (q := 68) dX8_admit_65 fl_X8_156 rfl rfl rfl ?_
  refine rn_iload_n (x := (h.1 : Int)) (q := 69) dX8_admit_68 rfl rfl ?_
  refine rn_aload_n (x := 0) (q := 70) dX8_admit_69 rfl rfl ?_
  refine rn_get (a := 0) (v := .inr (.inr 2)) (q := 73) dX8_admit_70 fl_X8_10 rfl rfl rfl ?_
  refine rn_iload_n (x := ((4 * k : Nat) : Int)) (q := 74) dX8_admit_73 rfl rfl ?_
  refine rn_iconst (q := 75) dX8_admit_74 (am_okd rfl) rfl ?_
  refine rn_iaddN (z := (((4 * k) + 2 : Nat) : Int)) (q := 76) dX8_admit_75 (by omega) (by unfold am_ok; omega) rfl ?_
  refine rn_callV (b := 1) (as := [.inl (((4 * k) + 2 : Nat) : Int)]) (rest := [.inl (h.1 : Int), .inr (.inr 10)]) (q := 79) dX8_admit_76 ml_X8_119 sm_X7_digit rfl rfl (by decide) (by omega) rfl rfl (Nat.le_of_ble_eq_true rfl) rfl (s_Tdigit (d := d + 2) (hT.keptT (m := (am_up (am_up mem 7 h.1 (srt (T.getD (4 * k) 0 : Int))) 8 h.1 (txDg T (((4 * k) + 1 : Nat) : Int)))) rfl rfl) (((4 * k) + 2 : Nat) : Int)) ?_
  intro r76 mem76 hq76
  obtain ⟨rfl, rfl⟩ := hq76
  show am_Rn l G _ _ 79 [some (.inr (.inr 1)), some (.inl ((4 * k : Nat) : Int)), some (.inl (h.1 : Int))] [.inl (txDg T (((4 * k) + 2 : Nat) : Int)), .inl (h.1 : Int), .inr (.inr 10)] (am_up (am_up mem 7 h.1 (srt (T.getD (4 * k) 0 : Int))) 8 h.1 (txDg T (((4 * k) + 1 : Nat) : Int))) _
  refine rn_iastV (a := 9) (m1 := am_up (am_up (am_up mem 7 h.1 (srt (T.getD (4 * k) 0 : Int))) 8 h.1 (txDg T (((4 * k) + 1 : Nat) : Int))) 9 h.1 (txDg T (((4 * k) + 2 : Nat) : Int))) (q := 80) dX8_admit_79 rfl (by omega) (by omega) rfl rfl ?_
  refine rn_aload_n (x := 0) (q := 81) dX8_admit_80 rfl rfl ?_
  refine rn_get (a := 0) (v := .inr (.inr 6)) (q := 84) dX8_admit_81 fl_X8_26 rfl rfl rfl ?_
  refine rn_iload_n (x := (h.1 : Int)) (q := 85) dX8_admit_84 rfl rfl ?_
  refine rn_iconst (q := 86) dX8_admit_85 (am_okd rfl) rfl ?_
  refine rn_iaddN (z := ((h.1 + 1 : Nat) : Int)) (q := 87) dX8_admit_86 (by omega) (by unfold am_ok; omega) rfl ?_
  refine rn_puti (a := 5) (q := 90) dX8_admit_87 fl_X8_136 rfl rfl rfl rfl ?_
  refine rn_aload_n (x := 0) (q := 91) dX8_admit_90 rfl rfl ?_
  refine rn_get (a := 0) (v := .inr (.inr 17)) (q := 94) dX8_admit_91 fl_X8_33 rfl rfl rfl ?_
  refine rn_get (a := 16) (v := .inr (.inr 18)) (q := 97) dX8_admit_94 fl_X8_159 rfl rfl rfl ?_
  refine rn_iload_n (x := (h.1 : Int)) (q := 98) dX8_admit_97 rfl rfl ?_
  refine rn_iconst (q := 99) dX8_admit_98 (am_okd rfl) rfl ?_
  refine rn_iastV (a := 17) (m1 := am_up (am_up (am_up (am_up (am_up mem 7 h.1 (srt (T.getD (4 * k) 0 : Int))) 8 h.1 (txDg T (((4 * k) + 1 : Nat) : Int))) 9 h.1 (txDg T (((4 * k) + 2 : Nat) : Int))) 5 6 ((h.1 + 1 : Nat) : Int)) 17 h.1 0) (q := 100) dX8_admit_99 rfl (by omega) (by omega) rfl rfl ?_
  refine rn_aload_n (x := 0) (q := 101) dX8_admit_100 rfl rfl ?_
  refine rn_get (a := 0) (v := .inr (.inr 17)) (q := 104) dX8_admit_101 fl_X8_33 rfl rfl rfl ?_
  refine rn_get (a := 16) (v := .inr (.inr 19)) (q := 107) dX8_admit_104 fl_X8_162 rfl rfl rfl ?_
  refine rn_iload_n (x := (h.1 : Int)) (q := 108) dX8_admit_107 rfl rfl ?_
  refine rn_iconst (q := 109) dX8_admit_108 (am_okd rfl) rfl ?_
  refine rn_iastV (a := 18) (m1 := am_up (am_up (am_up (am_up (am_up (am_up mem 7 h.1 (srt (T.getD (4 * k) 0 : Int))) 8 h.1 (txDg T (((4 * k) + 1 : Nat) : Int))) 9 h.1 (txDg T (((4 * k) + 2 : Nat) : Int))) 5 6 ((h.1 + 1 : Nat) : Int)) 17 h.1 0) 18 h.1 0) (q := 110) dX8_admit_109 rfl (by omega) (by omega) rfl rfl ?_
  refine rn_aload_n (x := 0) (q := 111) dX8_admit_110 rfl rfl ?_
  refine rn_get (a := 0) (v := .inr (.inr 17)) (q := 114) dX8_admit_111 fl_X8_33 rfl rfl rfl ?_
  refine rn_dup (q := 115) dX8_admit_114 rfl rfl ?_
  refine rn_get (a := 16) (v := .inl (eP e : Int)) (q := 118) dX8_admit_115 fl_X8_165 rfl (am_gi q.pr) rfl ?_
  refine rn_iconst (q := 119) dX8_admit_118 (am_okd rfl) rfl ?_
  refine rn_iload_n (x := (h.1 : Int)) (q := 120) dX8_admit_119 rfl rfl ?_
  refine rn_ishl (q := 121) dX8_admit_120 rfl ?_
  rw [show am_shl 1 (h.1 : Int) = ((2 ^ h.1 : Nat) : Int) from am_shl1 _ (by omega)]
  refine rn_ior (q := 122) dX8_admit_121 rfl ?_
  rw [show am_or (eP e : Int) ((2 ^ h.1 : Nat) : Int) = (((eP e) + 2 ^ h.1 : Nat) : Int) from or_up (by omega) b.2.2.1]
  refine rn_puti (a := 16) (q := 125) dX8_admit_122 fl_X8_165 rfl rfl rfl rfl ?_
  refine rn_vret dX8_admit_125 rfl ?_
  rw [a1, a2, hs0]
  have hh : h_ok (hA T k h) := hA_ok q.hs.1 h8 f1 f2
  have e7 : (hA T k h).2.1 = updN h.2.1 h.1 s0 := by show updN h.2.1 h.1 (srt (T.getD (4 * k) 0 : Int)).toNat = _; rw [hs0]; rfl
  refine hQ _ _ ⟨rfl, q.setH ⟨hh, rfl, fun i hi => ?_⟩ ⟨fun i hi => ?_, fun i hi => ?_, rfl, q.nt, q.bk, q.mn, q.sk, q.gn⟩ (eA_ok q.eo) ?_, ?_⟩
  · have hi2 : i < h.1 + 1 := hi
    rw [e7]
    show am_up mem 7 h.1 (s0 : Int) 7 i = ((if i = h.1 then s0 else h.2.1 i : Nat) : Int) ∧ am_up mem 8 h.1 ((T.getD (4 * k + 1) 0 - 48 : Nat) : Int) 8 i = ((if i = h.1 then T.getD (4 * k + 1) 0 - 48 else h.2.2.1 i : Nat) : Int) ∧ am_up mem 9 h.1 ((T.getD (4 * k + 2) 0 - 48 : Nat) : Int) 9 i = ((if i = h.1 then T.getD (4 * k + 2) 0 - 48 else h.2.2.2 i : Nat) : Int)
    rw [am_up_at, am_up_at, am_up_at]
    by_cases hi3 : i = h.1
    · rw [if_pos hi3, if_pos hi3, if_pos hi3, if_pos hi3, if_pos hi3, if_pos hi3]; exact ⟨rfl, rfl, rfl⟩
    · rw [if_neg hi3, if_neg hi3, if_neg hi3, if_neg hi3, if_neg hi3, if_neg hi3]; exact ⟨q.sort (by omega), q.want (by omega), q.pay (by omega)⟩
  · show am_up mem 17 h.1 0 17 i = ((if i = h.1 then 0 else eH e i : Nat) : Int)
    rw [am_up_at]
    by_cases hi3 : i = h.1
    · rw [if_pos hi3, if_pos hi3]; rfl
    · rw [if_neg hi3, if_neg hi3]; exact q.hd hi
  · show am_up mem 18 h.1 0 18 i = ((if i = h.1 then 0 else eS e i : Nat) : Int)
    rw [am_up_at]
    by_cases hi3 : i = h.1
    · rw [if_pos hi3, if_pos hi3]; rfl
    · rw [if_neg hi3, if_neg hi3]; exact q.sc hi
  · exact ((((((frS.rf.up rfl).up rfl).up rfl).up rfl).up rfl).up rfl).up rfl
  · exact ((((((frS.rf.up rfl).up rfl).up rfl).up rfl).up rfl).up rfl).up rfl
theorem c_hearers (q : CQ r X C sn sg h e NB mem) (hT : c_text T mem) : am_Sm l G yX8_hearers mt_X8_hearers (d + 6) [.inr (.inr 1)] mem (fun q m => ((lnOK T h.1 ∧ q = some (.inl (((T.length + 1) / 4 : Nat) : Int)) ∧ ∃ m0, CQ r X C sn sg (hNn T h ((T.length + 1) / 4)) (eNn h.1 e ((T.length + 1) / 4)) NB m0 ∧ frS s8h mem m0 ∧ m = am_up (if 0 < (T.length + 1) / 4 then am_up m0 25 1 0 else m0) 1 1 0) ∨ ∃ p : Nat, lnBad T h.1 p ∧ q = some (.inl (-1 - (p : Int))) ∧ m = am_up mem 1 1 0)) := by
  refine am_enterQ (ls := [some (.inr (.inr 1)), none, none, none]) (by decide) rfl (Nat.le_of_ble_eq_true rfl) rfl (fun hok Q hQ => ?_)
  have hl := hT.len
  have b := q.bd
  have L : lnOK T h.1 → ∀ k : Nat, k ≤ (T.length + 1) / 4 → ∀ m : am_M, CQ r X C sn sg (hNn T h k) (eNn h.1 e k) NB m → frS s8h mem m → am_Rn l G mt_X8_hearers (d + 6) 28 [some (.inr (.inr 1)), some (.inl (-1)), some (.inl (((T.length + 1) / 4 : Nat) : Int)), some (.inl (k : Int))] [] m Q := by
    intro hk
    refine am_dn ((T.length + 1) / 4) (fun k hkl ih m hq hf => ?_)
    have hT2 : c_text T m := ⟨(hf 1 1 rfl).trans hT.1, hT.2.1, hT.2.2.1, fun i hi => (hf 2 i rfl).trans (hT.2.2.2 i hi)⟩
    refine rn_iload_n (x := (k : Int)) (q := 29) dX8_hearers_28 rfl rfl ?_
    refine rn_iload_n (x := (((T.length + 1) / 4 : Nat) : Int)) (q := 30) dX8_hearers_29 rfl rfl ?_
    refine rn_cmpge (t := 46) (q := 33) dX8_hearers_30 rfl rfl (fun w30 => ?_) (fun w30 => ?_)
    · refine rn_iload_n (x := (((T.length + 1) / 4 : Nat) : Int)) (q := 47) dX8_hearers_46 rfl rfl ?_
      refine rn_ifle (t := 58) (q := 50) dX8_hearers_47 rfl rfl (fun w47 => ?_) (fun w47 => ?_)
      · refine rn_aload_n (x := 0) (q := 59) dX8_hearers_58 rfl rfl ?_
        refine rn_get (a := 0) (v := .inr (.inr 2)) (q := 62) dX8_hearers_59 fl_X8_10 rfl rfl rfl ?_
        refine rn_iconst (q := 63) dX8_hearers_62 (am_okd rfl) rfl ?_
        refine rn_puti (a := 1) (q := 66) dX8_hearers_63 fl_X8_107 rfl rfl rfl rfl ?_
        refine rn_iload_n (x := (((T.length + 1) / 4 : Nat) : Int)) (q := 67) dX8_hearers_66 rfl rfl ?_
        refine rn_iret dX8_hearers_67 rfl ?_
        obtain rfl : k = (T.length + 1) / 4 := by omega
        first | exact hQ _ _ (Or.inl ⟨hk, rfl, m, hq, hf, by rw [if_pos (by omega)]⟩) | exact hQ _ _ (Or.inl ⟨hk, rfl, m, hq, hf, by rw [if_neg (by omega)]⟩)
      · refine rn_aload_n (x := 0) (q := 51) dX8_hearers_50 rfl rfl ?_
        refine rn_get (a := 0) (v := .inr (.inr 26)) (q := 54) dX8_hearers_51 fl_X8_46 rfl rfl rfl ?_
        refine rn_iconst (q := 55) dX8_hearers_54 (am_okd rfl) rfl ?_
        refine rn_puti (a := 25) (q := 58) dX8_hearers_55 fl_X8_129 rfl rfl rfl rfl ?_
        refine rn_aload_n (x := 0) (q := 59) dX8_hearers_58 rfl rfl ?_
        refine rn_get (a := 0) (v := .inr (.inr 2)) (q := 62) dX8_hearers_59 fl_X8_10 rfl rfl rfl ?_
        refine rn_iconst (q := 63) dX8_hearers_62 (am_okd rfl) rfl ?_
        refine rn_puti (a := 1) (q := 66) dX8_hearers_63 fl_X8_107 rfl rfl rfl rfl ?_
        refine rn_iload_n (x := (((T.length + 1) / 4 : Nat) : Int)) (q := 67) dX8_hearers_66 rfl rfl ?_
        refine rn_iret dX8_hearers_67 rfl ?_
        obtain rfl : k = (T.length + 1) / 4 := by omega
        first | exact hQ _ _ (Or.inl ⟨hk, rfl, m, hq, hf, by rw [if_pos (by omega)]⟩) | exact hQ _ _ (Or.inl ⟨hk, rfl, m, hq, hf, by rw [if_neg (by omega)]⟩)
    · obtain ⟨a1, a2, a3, a4, a5⟩ := lnOK_at hk (k := k) (by omega)
      have hn1 := hNn_1 (T := T) (h := h) k
      refine rn_aload_n (x := 0) (q := 34) dX8_hearers_33 rfl rfl ?_
      refine rn_iconst (q := 35) dX8_hearers_34 (am_okd rfl) rfl ?_
      refine rn_iload_n (x := (k : Int)) (q := 36) dX8_hearers_35 rfl rfl ?_
      refine rn_imulN (z := ((4 * k : Nat) : Int)) (q := 37) dX8_hearers_36 (by omega) (by unfold am_ok; omega) rfl ?_
      refine rn_callV (b := 0) (as := [.inl ((4 * k : Nat) : Int)]) (rest := []) (q := 40) dX8_hearers_37 ml_X8_126 sm_X8_admit rfl rfl (by decide) (by omega) rfl rfl (Nat.le_of_ble_eq_true rfl) rfl (c_admit (d := d + 1) hq hT2 k (by omega) (by omega) a3 a4 a5) ?_
      intro r37 mem37 hq37
      obtain ⟨rfl, hc37, hf37⟩ := hq37
      show am_Rn l G _ _ 40 [some (.inr (.inr 1)), some (.inl (-1)), some (.inl (((T.length + 1) / 4 : Nat) : Int)), some (.inl (k : Int))] [] mem37 _
      refine rn_iincN (x := (k : Int)) (z := ((k + 1 : Nat) : Int)) (ls' := [some (.inr (.inr 1)), some (.inl (-1)), some (.inl (((T.length + 1) / 4 : Nat) : Int)), some (.inl ((k + 1 : Nat) : Int))]) (q := 43) dX8_hearers_40 rfl (by decide) (by omega) (by unfold am_ok; omega) rfl rfl ?_
      refine rn_goto (t := 28) dX8_hearers_43 rfl ?_
      rw [hn1] at hc37
      exact ih (by omega) _ hc37 (hf.tr hf37)
  refine rn_aload_n (x := 0) (q := 1) dX8_hearers_0 rfl rfl ?_
  refine rn_callV (b := 0) (as := []) (rest := []) (q := 4) dX8_hearers_1 ml_X8_123 sm_X8_faultInLines rfl rfl (by decide) (by omega) rfl rfl (Nat.le_of_ble_eq_true rfl) rfl (c_faultInLines (d := d + 0) q hT) ?_
  intro r1 mem1 hq1
  obtain ⟨⟨hs1, rfl⟩ | ⟨p, hs1, rfl⟩, rfl⟩ := hq1
  · show am_Rn l G _ _ 4 [some (.inr (.inr 1)), none, none, none] [.inl (-1)] mem _
    refine rn_istore_n (ls' := [some (.inr (.inr 1)), some (.inl (-1)), none, none]) (q := 5) dX8_hearers_4 (by decide) rfl rfl ?_
    refine rn_iconst (q := 6) dX8_hearers_5 (am_okd rfl) rfl ?_
    refine rn_iload_n (x := (-1)) (q := 7) dX8_hearers_6 rfl rfl ?_
    refine rn_isubN (z := 0) (q := 8) dX8_hearers_7 rfl (by have := hs1.2.1; unfold am_ok; omega) rfl ?_
    refine rn_istore_n (ls' := [some (.inr (.inr 1)), some (.inl (-1)), some (.inl 0), none]) (q := 9) dX8_hearers_8 (by decide) rfl rfl ?_
    refine rn_iload_n (x := (-1)) (q := 10) dX8_hearers_9 rfl rfl ?_
    refine rn_iconst (q := 11) dX8_hearers_10 (am_okd rfl) rfl ?_
    refine rn_cmpne (t := 46) (q := 14) dX8_hearers_11 rfl rfl (fun h => absurd h (by decide)) (fun w11 => ?_)
    refine rn_aload_n (x := 0) (q := 15) dX8_hearers_14 rfl rfl ?_
    refine rn_get (a := 0) (v := .inr (.inr 2)) (q := 18) dX8_hearers_15 fl_X8_10 rfl rfl rfl ?_
    refine rn_get (a := 1) (v := .inl (T.length : Int)) (q := 21) dX8_hearers_18 fl_X8_107 rfl (am_gi hT.1) rfl ?_
    refine rn_iconst (q := 22) dX8_hearers_21 (am_okd rfl) rfl ?_
    refine rn_iaddN (z := ((T.length + 1 : Nat) : Int)) (q := 23) dX8_hearers_22 (by omega) (by unfold am_ok; omega) rfl ?_
    refine rn_iconst (q := 24) dX8_hearers_23 (am_okd rfl) rfl ?_
    refine rn_idivN (z := (((T.length + 1) / 4 : Nat) : Int)) (q := 25) dX8_hearers_24 (by decide) rfl (by unfold am_ok; omega) rfl ?_
    refine rn_istore_n (ls' := [some (.inr (.inr 1)), some (.inl (-1)), some (.inl (((T.length + 1) / 4 : Nat) : Int)), none]) (q := 26) dX8_hearers_25 (by decide) rfl rfl ?_
    refine rn_iconst (q := 27) dX8_hearers_26 (am_okd rfl) rfl ?_
    refine rn_istore_n (ls' := [some (.inr (.inr 1)), some (.inl (-1)), some (.inl (((T.length + 1) / 4 : Nat) : Int)), some (.inl 0)]) (q := 28) dX8_hearers_27 (by decide) rfl rfl ?_
    exact L hs1 0 (Nat.zero_le _) mem q frS.rf
  · show am_Rn l G _ _ 4 [some (.inr (.inr 1)), none, none, none] [.inl (p : Int)] mem _
    refine rn_istore_n (ls' := [some (.inr (.inr 1)), some (.inl (p : Int)), none, none]) (q := 5) dX8_hearers_4 (by decide) rfl rfl ?_
    refine rn_iconst (q := 6) dX8_hearers_5 (am_okd rfl) rfl ?_
    refine rn_iload_n (x := (p : Int)) (q := 7) dX8_hearers_6 rfl rfl ?_
    refine rn_isubN (z := ((-1) - (p : Int))) (q := 8) dX8_hearers_7 rfl (by have := hs1.2.1; unfold am_ok; omega) rfl ?_
    refine rn_istore_n (ls' := [some (.inr (.inr 1)), some (.inl (p : Int)), some (.inl ((-1) - (p : Int))), none]) (q := 9) dX8_hearers_8 (by decide) rfl rfl ?_
    refine rn_iload_n (x := (p : Int)) (q := 10) dX8_hearers_9 rfl rfl ?_
    refine rn_iconst (q := 11) dX8_hearers_10 (am_okd rfl) rfl ?_
    refine rn_cmpne (t := 46) (q := 14) dX8_hearers_11 rfl rfl (fun w11 => ?_) (fun h => absurd h (by omega))
    refine rn_iload_n (x := ((-1) - (p : Int))) (q := 47) dX8_hearers_46 rfl rfl ?_
    refine rn_ifle (t := 58) (q := 50) dX8_hearers_47 rfl rfl (fun w47 => ?_) (fun h => absurd h (by omega))
    refine rn_aload_n (x := 0) (q := 59) dX8_hearers_58 rfl rfl ?_
    refine rn_get (a := 0) (v := .inr (.inr 2)) (q := 62) dX8_hearers_59 fl_X8_10 rfl rfl rfl ?_
    refine rn_iconst (q := 63) dX8_hearers_62 (am_okd rfl) rfl ?_
    refine rn_puti (a := 1) (q := 66) dX8_hearers_63 fl_X8_107 rfl rfl rfl rfl ?_
    refine rn_iload_n (x := ((-1) - (p : Int))) (q := 67) dX8_hearers_66 rfl rfl ?_
    refine rn_iret dX8_hearers_67 rfl ?_
    exact hQ _ _ (Or.inr ⟨p, hs1, rfl, rfl⟩)
end P94
