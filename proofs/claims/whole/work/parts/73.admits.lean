/-! admits, fills -/
def onE (e : est) (s : Nat) : est := (eH e, eS e, s, eN e, eB e, eM e, eK e, eG e)
theorem onE_ok {e : est} {n NB s : Nat} (hs : s < 2 ^ n) (q : e_ok n NB e) : e_ok n NB (onE e s) := ⟨q.1, q.2.1, hs, q.2.2.2⟩
def aD (X : List Nat) (h : hrs) (sn : Nat) (sg : Nat → Nat) (e : est) (s : Nat) : Int := pD (mvK X h sn sg e s) s (wE sn sg e) h.2.2.2 h.1
def aL (X : List Nat) (h : hrs) (sn : Nat) (sg : Nat → Nat) (e : est) (s : Nat) : Int := pL (mvK X h sn sg e s) s (wE sn sg e) h.1
theorem aD_ok {X : List Nat} {h : hrs} {sn : Nat} {sg : Nat → Nat} {e : est} (hs : ∀ i, sg i ≤ 9) (ho : h_ok h) (s : Nat) : 0 ≤ aD X h sn sg e s ∧ aD X h sn sg e s ≤ 700 := by
  have h1 := pD_ok (mk := s) (mvK_nn (X := X) (h := h) (sn := sn) (sg := sg) (e := e) (mk := s)) (wE_ok (sn := sn) (e := e) hs) ho.2.2.2 h.1
  have h2 := ho.1
  unfold aD
  omega
theorem aL_ok {X : List Nat} {h : hrs} {sn : Nat} {sg : Nat → Nat} {e : est} (hs : ∀ i, sg i ≤ 9) (s : Nat) : 0 ≤ aL X h sn sg e s ∧ aL X h sn sg e s ≤ 9 := pL_ok (mvK_nn (mk := s)) (wE_ok hs) h.1
/-- whom, how much is paid, what is left -/
def adm (D L : Nat → Int) (k : Int) : Nat → Int × Int × Int
  | 0 => (-1, -1, 0)
  | s + 1 => if k ≤ L s ∧ (adm D L k s).2.1 < D s then ((s : Int), D s, L s) else adm D L k s
theorem adm_ok {D L : Nat → Int} {k : Int} (hD : ∀ s, 0 ≤ D s ∧ D s ≤ 700) : ∀ s, adm D L k s = (-1, -1, 0) ∨ (0 ≤ (adm D L k s).1 ∧ (adm D L k s).1 < s ∧ 0 ≤ (adm D L k s).2.1 ∧ (adm D L k s).2.1 ≤ 700) := by
  intro s
  induction s with
  | zero => exact Or.inl rfl
  | succ s ih =>
    rw [adm]
    split
    · have := hD s
      exact Or.inr ⟨by show (0 : Int) ≤ (s : Int); omega, by show (s : Int) < ((s + 1 : Nat) : Int); omega, this.1, this.2⟩
    · rcases ih with ih | ih
      · exact Or.inl ih
      · exact Or.inr ⟨ih.1, by omega, ih.2.2⟩
def admA (s : Int × Int × Int) : Int := if s.1 = -1 then -2 else s.2.1
def admR (R : List Int) (s : Int × Int × Int) : List Int := if s.1 = -1 then R else [s.1, s.2.2]
def fil (L : Nat → Int) : Nat → Int
  | 0 => -1
  | s + 1 => if (fil L s = -1 ∨ pc s < pc (fil L s).toNat) ∧ L s = 0 then (s : Int) else fil L s
theorem fil_ok {L : Nat → Int} : ∀ s, fil L s = -1 ∨ (0 ≤ fil L s ∧ fil L s < s) := by
  intro s
  induction s with
  | zero => exact Or.inl rfl
  | succ s ih => rw [fil]; split <;> omega
def filA (s : Int) : Int := if s = -1 then -2 else (pc s.toNat : Int)
def filR (R : List Int) (s : Int) : List Int := if s = -1 then R else [s]
theorem pc_pos : ∀ s, s < 256 → ∀ i, s.testBit i = true → 1 ≤ pc s := by
  intro s hs i hi
  have h0 := pc_zero s hs
  by_cases e : s = 0
  · subst e; simp at hi
  · omega
theorem pc_n : ∀ s n, s < 2 ^ n → n ≤ 8 → pc s ≤ n := by
  intro s n hs hn
  have : ∀ n, n < 9 → ∀ s, s < 256 → s < 2 ^ n → pc s ≤ n := by decide +kernel
  exact this n (by omega) s (Nat.lt_of_lt_of_le hs (p2_8 hn)) hs
section P73
variable {l : Launch} {G : am_G} {d : Nat} {r : Nat} {X : List Nat} {C : List Int} {sn : Nat} {sg : Nat → Nat} {h : hrs} {e : est} {NB : Nat} {mem m : am_M}
theorem m_admit (q : DQ X sn sg h e NB mem) {arr : Nat} (ha : arr = 109 ∨ arr = 110) {e2 : est} (hP : eP e2 < 2 ^ h.1) (hE : m_est e2 arr 0 mem) (s : Nat) (hs : s < 2 ^ h.1) : am_Sm l G yX9_admit mt_X9_admit d [.inr (.inr 96), .inr (.inr (arr + 1)), .inl (s : Int)] mem (fun q m => q = none ∧ m_est (onE e2 s) arr 0 m ∧ ∀ b, b ≠ arr → m b = mem b) := by
  refine am_enterQ (ls := [some (.inr (.inr 96)), some (.inr (.inr (arr + 1))), some (.inl (s : Int)), none]) (by decide) rfl (Nat.le_of_ble_eq_true rfl) rfl (fun hok Q hQ => ?_)
  have b := q.bd
  have hks : am_ks[arr]? = some (100, 29) := by rcases ha with rfl | rfl <;> rfl
  obtain ⟨q1, q2, q3, q4, q5, q6, q7, q8⟩ := hE.a
  have L : ∀ i : Nat, i ≤ h.1 → ∀ m : am_M, (∀ b, b ≠ arr → m b = mem b) → (∀ j, j < i → m arr (16 + j) = if s.testBit j then 1 else 0) → (∀ j, j < 16 ∨ 16 + i ≤ j → m arr j = mem arr j) → am_Rn l G mt_X9_admit d 2 [some (.inr (.inr 96)), some (.inr (.inr (arr + 1))), some (.inl (s : Int)), some (.inl (i : Int))] [] m Q := by
    refine am_dn h.1 (fun i hi ih m hf hp hr => ?_)
    have e1 : m 95 1 = (h.1 : Int) := by rw [hf 95 (by omega)]; exact q.n
    have go : ∀ x : Int, x = (if s.testBit i then 1 else 0) → i < h.1 → am_Rn l G mt_X9_admit d 2 [some (.inr (.inr 96)), some (.inr (.inr (arr + 1))), some (.inl (s : Int)), some (.inl ((i + 1 : Nat) : Int))] [] (am_up m arr (16 + i) x) Q := by
      intro x hx hlt
      refine ih hlt _ (fun b2 hb => (am_up_ne hb).trans (hf b2 hb)) (fun j hj => ?_) (fun j hj => ?_)
      · rw [am_up_at]
        by_cases e2 : j = i
        · rw [if_pos (by omega), hx, e2]
        · rw [if_neg (by omega)]; exact hp j (by omega)
      · rw [am_up_neq (by omega)]; exact hr j (by omega)
    refine rn_iload_n (x := (i : Int)) (q := 3) dX9_admit_2 rfl rfl ?_
    refine rn_aload_n (x := 95) (q := 4) dX9_admit_3 rfl rfl ?_
    refine rn_get (a := 95) (v := .inl (h.1 : Int)) (q := 7) dX9_admit_4 fl_X9_113 rfl (am_gi e1) rfl ?_
    refine rn_cmpge (t := 27) (q := 10) dX9_admit_7 rfl rfl (fun w7 => ?_) (fun w7 => ?_)
    · refine rn_vret dX9_admit_27 rfl ?_
      refine hQ _ _ ⟨rfl, ?_, hf⟩
      obtain rfl : i = h.1 := by omega
      unfold m_est
      simp only [Nat.zero_add]
      refine ⟨fun j hj => ?_, fun j hj => ?_, fun j hj => ?_, ?_, ?_, ?_, ?_, ?_⟩
      · rw [hr j (by omega)]; exact q1 j hj
      · rw [hr (8 + j) (by omega)]; exact q2 j hj
      · by_cases hjn : j < h.1
        · exact hp j hjn
        · have t1 : (eP e2).testBit j = false := Nat.testBit_lt_two_pow (Nat.lt_of_lt_of_le hP (Nat.pow_le_pow_right (n := 2) (by decide) (by omega)))
          have t2 : s.testBit j = false := Nat.testBit_lt_two_pow (Nat.lt_of_lt_of_le hs (Nat.pow_le_pow_right (n := 2) (by decide) (by omega)))
          rw [hr (16 + j) (by omega), q3 j hj, t1]
          show _ = if s.testBit j = true then 1 else 0
          rw [t2]
      · rw [hr 24 (by omega)]; exact q4
      · rw [hr 25 (by omega)]; exact q5
      · rw [hr 26 (by omega)]; exact q6
      · rw [hr 27 (by omega)]; exact q7
      · rw [hr 28 (by omega)]; exact q8
    · refine rn_aload_n (x := arr) (q := 11) dX9_admit_10 rfl rfl ?_
      refine rn_bipush (q := 13) dX9_admit_11 ⟨by decide, by decide⟩ rfl ?_
      refine rn_iload_n (x := (i : Int)) (q := 14) dX9_admit_13 rfl rfl ?_
      refine rn_iaddN (z := ((16 + i : Nat) : Int)) (q := 15) dX9_admit_14 (by omega) (by unfold am_ok; omega) rfl ?_
      refine rn_iload_n (x := (s : Int)) (q := 16) dX9_admit_15 rfl rfl ?_
      refine rn_iload_n (x := (i : Int)) (q := 17) dX9_admit_16 rfl rfl ?_
      refine rn_ishr (q := 18) dX9_admit_17 rfl ?_
      refine rn_iconst (q := 19) dX9_admit_18 (am_okd rfl) rfl ?_
      refine rn_iand (q := 20) dX9_admit_19 rfl ?_
      rw [am_bit (b := s) (i := i) (by omega) (by omega)]
      by_cases b19 : Nat.testBit s i = true
      · rw [if_pos b19]
        refine rn_iastV (a := arr) (m1 := am_up m arr (16 + i) 1) (q := 21) dX9_admit_20 hks (by omega) (by omega) rfl rfl ?_
        refine rn_iincN (x := (i : Int)) (z := ((i + 1 : Nat) : Int)) (ls' := [some (.inr (.inr 96)), some (.inr (.inr (arr + 1))), some (.inl (s : Int)), some (.inl ((i + 1 : Nat) : Int))]) (q := 24) dX9_admit_21 rfl (by decide) (by omega) (by unfold am_ok; omega) rfl rfl ?_
        refine rn_goto (t := 2) dX9_admit_24 rfl ?_
        first | exact go 1 (by rw [if_pos b19]) (by omega) | exact go 0 (by rw [if_neg b19]) (by omega)
      · rw [if_neg b19]
        refine rn_iastV (a := arr) (m1 := am_up m arr (16 + i) 0) (q := 21) dX9_admit_20 hks (by omega) (by omega) rfl rfl ?_
        refine rn_iincN (x := (i : Int)) (z := ((i + 1 : Nat) : Int)) (ls' := [some (.inr (.inr 96)), some (.inr (.inr (arr + 1))), some (.inl (s : Int)), some (.inl ((i + 1 : Nat) : Int))]) (q := 24) dX9_admit_21 rfl (by decide) (by omega) (by unfold am_ok; omega) rfl rfl ?_
        refine rn_goto (t := 2) dX9_admit_24 rfl ?_
        first | exact go 1 (by rw [if_pos b19]) (by omega) | exact go 0 (by rw [if_neg b19]) (by omega)
  refine rn_iconst (q := 1) dX9_admit_0 (am_okd rfl) rfl ?_
  refine rn_istore_n (ls' := [some (.inr (.inr 96)), some (.inr (.inr (arr + 1))), some (.inl (s : Int)), some (.inl 0)]) (q := 2) dX9_admit_1 (by decide) rfl rfl ?_
  exact L 0 (Nat.zero_le _) mem (fun _ _ => rfl) (fun j hj => absurd hj (Nat.not_lt_zero _)) (fun _ _ => rfl)
theorem fr_arr {arr : Nat} (ha : arr = 109 ∨ arr = 110) (f : ∀ b, b ≠ arr → m b = mem b) : frS s9 mem m := fun b k hb => by
  by_cases e1 : b = arr
  · subst e1; rcases ha with rfl | rfl <;> cases hb
  · rw [f b e1]
theorem c_admits (q : CQ r X C sn sg h e NB mem) {R : List Int} (hR : c_row R mem) (z72 : ∀ i, i < 8 → mem 72 i = 0) (k : Int) : am_Sm l G yX8_admits mt_X8_admits (d + 5) [.inr (.inr 1), .inl k] mem (fun q m => (¬ (0 ≤ k ∧ k ≤ 9) → QC (-1) R mem q m) ∧ (0 ≤ k ∧ k ≤ 9 → QC (admA (adm (aD X h sn sg e) (aL X h sn sg e) k (2 ^ h.1))) (admR R (adm (aD X h sn sg e) (aL X h sn sg e) k (2 ^ h.1))) mem q m)) := by
  refine am_enterQ (ls := [some (.inr (.inr 1)), some (.inl k), none, none]) (by decide) rfl (Nat.le_of_ble_eq_true rfl) rfl (fun hok Q hQ => ?_)
  have b := q.bd
  have hw := wE_ok (sn := sn) (e := e) q.sng.2.2.2.1
  have L : 0 ≤ k ∧ k ≤ 9 → ∀ s : Nat, s ≤ 2 ^ h.1 → ∀ (m : am_M) (x : Int), frS s8r mem m → m 71 4 = wE sn sg e → (∀ i pr, i < h.1 → 1 ≤ pr → pr ≤ h.1 → m 74 ((i * 1 + 0) * 9 + pr) = mayV X h (sg (eN e % sn)) i (min 99 (eH e i + 0)) (eN e) pr) → x = admA (adm (aD X h sn sg e) (aL X h sn sg e) k s) → c_row (admR R (adm (aD X h sn sg e) (aL X h sn sg e) k s)) m → am_Rn l G mt_X8_admits (d + 5) 40 [some (.inr (.inr 1)), some (.inl k), some (.inl x), some (.inl (s : Int))] [] m Q := by
    intro hk
    refine am_dn (2 ^ h.1) (fun s hs ih m x hf h4 hT hx hr => ?_)
    have oD := aD_ok (X := X) (sn := sn) (e := e) q.sng.2.2.2.1 q.hs.1 s
    have oL := aL_ok (X := X) (h := h) (sn := sn) (e := e) q.sng.2.2.2.1 s
    have oA := adm_ok (D := aD X h sn sg e) (L := aL X h sn sg e) (k := k) (aD_ok (X := X) (sn := sn) (e := e) q.sng.2.2.2.1 q.hs.1) s
    have ex : (adm (aD X h sn sg e) (aL X h sn sg e) k s = (-1, -1, 0) ∧ x = -2 ∧ (adm (aD X h sn sg e) (aL X h sn sg e) k s).2.1 = -1) ∨ (x = (adm (aD X h sn sg e) (aL X h sn sg e) k s).2.1 ∧ 0 ≤ x) := by
      rcases oA with oA | oA
      · left; rw [oA] at hx ⊢; exact ⟨rfl, hx, rfl⟩
      · right; unfold admA at hx; rw [if_neg (by omega)] at hx; omega
    refine rn_iload_n (x := (s : Int)) (q := 41) dX8_admits_40 rfl rfl ?_
    refine rn_iconst (q := 42) dX8_admits_41 (am_okd rfl) rfl ?_
    refine rn_aload_n (x := 0) (q := 43) dX8_admits_42 rfl rfl ?_
    refine rn_get (a := 0) (v := .inr (.inr 6)) (q := 46) dX8_admits_43 fl_X8_26 rfl rfl rfl ?_
    refine rn_get (a := 5) (v := .inl (h.1 : Int)) (q := 49) dX8_admits_46 fl_X8_136 rfl (am_gi (q.kept hf).n) rfl ?_
    refine rn_ishl (q := 50) dX8_admits_49 rfl ?_
    rw [show am_shl 1 (h.1 : Int) = ((2 ^ h.1 : Nat) : Int) from am_shl1 _ (by omega)]
    refine rn_cmpge (t := 118) (q := 53) dX8_admits_50 rfl rfl (fun w50 => ?_) (fun w50 => ?_)
    · refine rn_iload_n (x := x) (q := 119) dX8_admits_118 rfl rfl ?_
      refine rn_iret dX8_admits_119 rfl ?_
      have es : s = 2 ^ h.1 := by omega
      exact hQ _ _ ⟨fun hn => absurd hk hn, fun _ => by rw [← es]; exact ⟨by rw [hx], hf, hr⟩⟩
    · refine rn_aload_n (x := 0) (q := 54) dX8_admits_53 rfl rfl ?_
      refine rn_get (a := 0) (v := .inr (.inr 72)) (q := 57) dX8_admits_54 fl_X8_73 rfl rfl rfl ?_
      refine rn_aload_n (x := 0) (q := 58) dX8_admits_57 rfl rfl ?_
      refine rn_get (a := 0) (v := .inr (.inr 6)) (q := 61) dX8_admits_58 fl_X8_26 rfl rfl rfl ?_
      refine rn_iload_n (x := (s : Int)) (q := 62) dX8_admits_61 rfl rfl ?_
      refine rn_callV (b := 71) (as := [.inr (.inr 6), .inl (s : Int)]) (rest := []) (q := 65) dX8_admits_62 ml_X8_306 sm_X1_share rfl rfl (by decide) (by omega) rfl rfl (Nat.le_of_ble_eq_true rfl) rfl (c_share71 (d := d + 3) (q.kept hf) s (by omega) (mo := fun _ => 0) (fun i hi => ⟨(hf 72 i rfl).trans (z72 i (by omega)), by decide⟩) (mv := mvK X h sn sg e s) (fun i hi hb => (hT i (pc s) hi (pc_pos s (by omega) i hb) (pc_n s h.1 (by omega) (by omega))).trans (by have := q.hd9 i; unfold mvK; rw [show min 99 (eH e i + 0) = eH e i by omega])) mvK_nn h4 hw) ?_
      intro r62 mem62 hq62
      obtain ⟨rfl, hp62, hd62, hl62, h462, hf62, hg62⟩ := hq62
      show am_Rn l G _ _ 65 [some (.inr (.inr 1)), some (.inl k), some (.inl x), some (.inl (s : Int))] [] mem62 _
      refine rn_aload_n (x := 0) (q := 66) dX8_admits_65 rfl rfl ?_
      refine rn_get (a := 0) (v := .inr (.inr 72)) (q := 69) dX8_admits_66 fl_X8_73 rfl rfl rfl ?_
      refine rn_get (a := 71) (v := .inl (aL X h sn sg e s)) (q := 72) dX8_admits_69 fl_X8_310 rfl (am_gi hl62) rfl ?_
      refine rn_iload_n (x := k) (q := 73) dX8_admits_72 rfl rfl ?_
      refine rn_cmplt (t := 112) (q := 76) dX8_admits_73 rfl rfl (fun w73 => ?_) (fun w73 => ?_)
      · refine rn_iincN (x := (s : Int)) (z := ((s + 1 : Nat) : Int)) (ls' := [some (.inr (.inr 1)), some (.inl k), some (.inl x), some (.inl ((s + 1 : Nat) : Int))]) (q := 115) dX8_admits_112 rfl (by decide) (by omega) (by unfold am_ok; omega) rfl rfl ?_
        refine rn_goto (t := 40) dX8_admits_115 rfl ?_
        first | (have e1 : adm (aD X h sn sg e) (aL X h sn sg e) k (s + 1) = _ := if_pos ⟨by omega, by omega⟩; exact ih (by omega) _ _ (hf.tr (hf62.r8)) ((congrFun (hf109 71 (by decide) (by decide)) 4).trans h462) (fun i pr a1 a2 a3 => (congrFun (hf109 74 (by decide) (by decide)) _).trans ((hg62 74 _ rfl rfl).trans (hT i pr a1 a2 a3))) (by rw [e1]; unfold admA; rw [if_neg (by show ¬ (_ : Int) = _; omega)]) (by rw [e1]; unfold admR; rw [if_neg (by show ¬ (_ : Int) = _; omega)]; exact hr109)) | (have e1 : adm (aD X h sn sg e) (aL X h sn sg e) k (s + 1) = _ := if_neg (fun w => by have := w.1; have := w.2; omega); exact ih (by omega) _ _ (hf.tr (hf62.r8)) h462 (fun i pr a1 a2 a3 => (hg62 74 _ rfl rfl).trans (hT i pr a1 a2 a3)) (by rw [e1]; exact hx) (by rw [e1]; exact hr.kept hf62))
      · refine rn_aload_n (x := 0) (q := 77) dX8_admits_76 rfl rfl ?_
        refine rn_get (a := 0) (v := .inr (.inr 72)) (q := 80) dX8_admits_77 fl_X8_73 rfl rfl rfl ?_
        refine rn_get (a := 71) (v := .inl (aD X h sn sg e s)) (q := 83) dX8_admits_80 fl_X8_311 rfl (am_gi hd62) rfl ?_
        refine rn_iload_n (x := x) (q := 84) dX8_admits_83 rfl rfl ?_
        refine rn_cmple (t := 112) (q := 87) dX8_admits_84 rfl rfl (fun w84 => ?_) (fun w84 => ?_)
        · refine rn_iincN (x := (s : Int)) (z := ((s + 1 : Nat) : Int)) (ls' := [some (.inr (.inr 1)), some (.inl k), some (.inl x), some (.inl ((s + 1 : Nat) : Int))]) (q := 115) dX8_admits_112 rfl (by decide) (by omega) (by unfold am_ok; omega) rfl rfl ?_
          refine rn_goto (t := 40) dX8_admits_115 rfl ?_
          first | (have e1 : adm (aD X h sn sg e) (aL X h sn sg e) k (s + 1) = _ := if_pos ⟨by omega, by omega⟩; exact ih (by omega) _ _ (hf.tr (hf62.r8)) ((congrFun (hf109 71 (by decide) (by decide)) 4).trans h462) (fun i pr a1 a2 a3 => (congrFun (hf109 74 (by decide) (by decide)) _).trans ((hg62 74 _ rfl rfl).trans (hT i pr a1 a2 a3))) (by rw [e1]; unfold admA; rw [if_neg (by show ¬ (_ : Int) = _; omega)]) (by rw [e1]; unfold admR; rw [if_neg (by show ¬ (_ : Int) = _; omega)]; exact hr109)) | (have e1 : adm (aD X h sn sg e) (aL X h sn sg e) k (s + 1) = _ := if_neg (fun w => by have := w.1; have := w.2; omega); exact ih (by omega) _ _ (hf.tr (hf62.r8)) h462 (fun i pr a1 a2 a3 => (hg62 74 _ rfl rfl).trans (hT i pr a1 a2 a3)) (by rw [e1]; exact hx) (by rw [e1]; exact hr.kept hf62))
        · refine rn_aload_n (x := 0) (q := 88) dX8_admits_87 rfl rfl ?_
          refine rn_get (a := 0) (v := .inr (.inr 72)) (q := 91) dX8_admits_88 fl_X8_73 rfl rfl rfl ?_
          refine rn_get (a := 71) (v := .inl (aD X h sn sg e s)) (q := 94) dX8_admits_91 fl_X8_311 rfl (am_gi hd62) rfl ?_
          refine rn_istore_n (ls' := [some (.inr (.inr 1)), some (.inl k), some (.inl (aD X h sn sg e s)), some (.inl (s : Int))]) (q := 95) dX8_admits_94 (by decide) rfl rfl ?_
          refine rn_aload_n (x := 0) (q := 96) dX8_admits_95 rfl rfl ?_
          refine rn_get (a := 0) (v := .inr (.inr 4)) (q := 99) dX8_admits_96 fl_X8_19 rfl rfl rfl ?_
          refine rn_iload_n (x := (s : Int)) (q := 100) dX8_admits_99 rfl rfl ?_
          refine rn_i2l (q := 101) dX8_admits_100 rfl ?_
          refine rn_aload_n (x := 0) (q := 102) dX8_admits_101 rfl rfl ?_
          refine rn_get (a := 0) (v := .inr (.inr 72)) (q := 105) dX8_admits_102 fl_X8_73 rfl rfl rfl ?_
          refine rn_get (a := 71) (v := .inl (aL X h sn sg e s)) (q := 108) dX8_admits_105 fl_X8_310 rfl (am_gi hl62) rfl ?_
          refine rn_i2l (q := 109) dX8_admits_108 rfl ?_
          refine rn_callV (b := 3) (as := [.inr (.inl (s : Int)), .inr (.inl (aL X h sn sg e s))]) (rest := []) (q := 112) dX8_admits_109 ml_X8_229 sm_X3_tell_ rfl rfl (by decide) (by omega) rfl rfl (Nat.le_of_ble_eq_true rfl) rfl (s_Rtell2 (d := d + 3) (s : Int) (aL X h sn sg e s)) ?_
          intro r109 mem109 hq109
          obtain ⟨rfl, hr109, hf109⟩ := hq109
          show am_Rn l G _ _ 112 [some (.inr (.inr 1)), some (.inl k), some (.inl (aD X h sn sg e s)), some (.inl (s : Int))] [] mem109 _
          refine rn_iincN (x := (s : Int)) (z := ((s + 1 : Nat) : Int)) (ls' := [some (.inr (.inr 1)), some (.inl k), some (.inl (aD X h sn sg e s)), some (.inl ((s + 1 : Nat) : Int))]) (q := 115) dX8_admits_112 rfl (by decide) (by omega) (by unfold am_ok; omega) rfl rfl ?_
          refine rn_goto (t := 40) dX8_admits_115 rfl ?_
          first | (have e1 : adm (aD X h sn sg e) (aL X h sn sg e) k (s + 1) = _ := if_pos ⟨by omega, by omega⟩; exact ih (by omega) _ _ ((hf.tr (hf62.r8)).tr (fr_row hf109)) ((congrFun (hf109 71 (by decide) (by decide)) 4).trans h462) (fun i pr a1 a2 a3 => (congrFun (hf109 74 (by decide) (by decide)) _).trans ((hg62 74 _ rfl rfl).trans (hT i pr a1 a2 a3))) (by rw [e1]; unfold admA; rw [if_neg (by show ¬ (_ : Int) = _; omega)]) (by rw [e1]; unfold admR; rw [if_neg (by show ¬ (_ : Int) = _; omega)]; exact hr109)) | (have e1 : adm (aD X h sn sg e) (aL X h sn sg e) k (s + 1) = _ := if_neg (fun w => by have := w.1; have := w.2; omega); exact ih (by omega) _ _ ((hf.tr (hf62.r8)).tr (fr_row hf109)) h462 (fun i pr a1 a2 a3 => (hg62 74 _ rfl rfl).trans (hT i pr a1 a2 a3)) (by rw [e1]; exact hx) (by rw [e1]; exact hr.kept hf62))
  refine rn_iload_n (x := k) (q := 1) dX8_admits_0 rfl rfl ?_
  refine rn_iflt (t := 10) (q := 4) dX8_admits_1 rfl rfl (fun w1 => ?_) (fun w1 => ?_)
  · refine rn_iconst (q := 11) dX8_admits_10 (am_okd rfl) rfl ?_
    refine rn_iret dX8_admits_11 rfl ?_
    exact hQ _ _ ⟨fun _ => ⟨rfl, frS.rf, hR⟩, fun hn => by omega⟩
  · refine rn_iload_n (x := k) (q := 5) dX8_admits_4 rfl rfl ?_
    refine rn_bipush (q := 7) dX8_admits_5 ⟨by decide, by decide⟩ rfl ?_
    refine rn_cmple (t := 12) (q := 10) dX8_admits_7 rfl rfl (fun w7 => ?_) (fun w7 => ?_)
    · refine rn_aload_n (x := 0) (q := 13) dX8_admits_12 rfl rfl ?_
      refine rn_get (a := 0) (v := .inr (.inr 72)) (q := 16) dX8_admits_13 fl_X8_73 rfl rfl rfl ?_
      refine rn_aload_n (x := 0) (q := 17) dX8_admits_16 rfl rfl ?_
      refine rn_get (a := 0) (v := .inr (.inr 6)) (q := 20) dX8_admits_17 fl_X8_26 rfl rfl rfl ?_
      refine rn_aload_n (x := 0) (q := 21) dX8_admits_20 rfl rfl ?_
      refine rn_get (a := 0) (v := .inr (.inr 17)) (q := 24) dX8_admits_21 fl_X8_33 rfl rfl rfl ?_
      refine rn_aload_n (x := 0) (q := 25) dX8_admits_24 rfl rfl ?_
      refine rn_get (a := 0) (v := .inr (.inr 17)) (q := 28) dX8_admits_25 fl_X8_33 rfl rfl rfl ?_
      refine rn_get (a := 16) (v := .inl (eN e : Int)) (q := 31) dX8_admits_28 fl_X8_184 rfl (am_gi q.nt) rfl ?_
      refine rn_iconst (q := 32) dX8_admits_31 (am_okd rfl) rfl ?_
      refine rn_callV (b := 71) (as := [.inr (.inr 6), .inr (.inr 17), .inl (eN e : Int), .inl 0]) (rest := []) (q := 35) dX8_admits_32 ml_X8_302 sm_X1_ready rfl rfl (by decide) (by omega) rfl rfl (Nat.le_of_ble_eq_true rfl) rfl (c_ready71 (d := d + 0) q (eN e) 0 (by omega) (by decide)) ?_
      intro r32 mem32 hq32
      obtain ⟨rfl, h432, hT32, hf32, -⟩ := hq32
      show am_Rn l G _ _ 35 [some (.inr (.inr 1)), some (.inl k), none, none] [] mem32 _
      refine rn_bipush (q := 37) dX8_admits_35 ⟨by decide, by decide⟩ rfl ?_
      refine rn_istore_n (ls' := [some (.inr (.inr 1)), some (.inl k), some (.inl (-2)), none]) (q := 38) dX8_admits_37 (by decide) rfl rfl ?_
      refine rn_iconst (q := 39) dX8_admits_38 (am_okd rfl) rfl ?_
      refine rn_istore_n (ls' := [some (.inr (.inr 1)), some (.inl k), some (.inl (-2)), some (.inl 0)]) (q := 40) dX8_admits_39 (by decide) rfl rfl ?_
      exact L (by omega) 0 (Nat.zero_le _) _ _ (hf32.r8) h432 (fun i pr a1 a2 a3 => hT32 i 0 pr a1 (Nat.le_refl _) a2 a3) rfl (hR.kept hf32)
    · refine rn_iconst (q := 11) dX8_admits_10 (am_okd rfl) rfl ?_
      refine rn_iret dX8_admits_11 rfl ?_
      exact hQ _ _ ⟨fun _ => ⟨rfl, frS.rf, hR⟩, fun hn => by omega⟩
theorem c_fills (q : CQ r X C sn sg h e NB mem) {R : List Int} (hR : c_row R mem) (z72 : ∀ i, i < 8 → mem 72 i = 0) : am_Sm l G yX8_fills mt_X8_fills (d + 5) [.inr (.inr 1)] mem (QC (filA (fil (aL X h sn sg e) (2 ^ h.1))) (filR R (fil (aL X h sn sg e) (2 ^ h.1))) mem) := by
  refine am_enterQ (ls := [some (.inr (.inr 1)), none, none, none]) (by decide) rfl (Nat.le_of_ble_eq_true rfl) rfl (fun hok Q hQ => ?_)
  have b := q.bd
  have hw := wE_ok (sn := sn) (e := e) q.sng.2.2.2.1
  have L : ∀ s : Nat, s ≤ 2 ^ h.1 → ∀ (m : am_M) (x : Int) (lx : Option am_V), frS s8r mem m → m 71 4 = wE sn sg e → (∀ i pr, i < h.1 → 1 ≤ pr → pr ≤ h.1 → m 74 ((i * 1 + 0) * 9 + pr) = mayV X h (sg (eN e % sn)) i (min 99 (eH e i + 0)) (eN e) pr) → x = filA (fil (aL X h sn sg e) s) → c_row (filR R (fil (aL X h sn sg e) s)) m → am_Rn l G mt_X8_fills (d + 5) 28 [some (.inr (.inr 1)), some (.inl x), some (.inl (s : Int)), lx] [] m Q := by
    refine am_dn (2 ^ h.1) (fun s hs ih m x lx hf h4 hT hx hr => ?_)
    have oL := aL_ok (X := X) (h := h) (sn := sn) (e := e) q.sng.2.2.2.1 s
    have oF := fil_ok (L := aL X h sn sg e) s
    have ex : (fil (aL X h sn sg e) s = -1 ∧ x = -2) ∨ (¬ fil (aL X h sn sg e) s = -1 ∧ x = (pc (fil (aL X h sn sg e) s).toNat : Int)) := by
      unfold filA at hx
      split at hx
      · left; omega
      · right; exact ⟨by omega, hx⟩
    refine rn_iload_n (x := (s : Int)) (q := 29) dX8_fills_28 rfl rfl ?_
    refine rn_iconst (q := 30) dX8_fills_29 (am_okd rfl) rfl ?_
    refine rn_aload_n (x := 0) (q := 31) dX8_fills_30 rfl rfl ?_
    refine rn_get (a := 0) (v := .inr (.inr 6)) (q := 34) dX8_fills_31 fl_X8_26 rfl rfl rfl ?_
    refine rn_get (a := 5) (v := .inl (h.1 : Int)) (q := 37) dX8_fills_34 fl_X8_136 rfl (am_gi (q.kept hf).n) rfl ?_
    refine rn_ishl (q := 38) dX8_fills_37 rfl ?_
    rw [show am_shl 1 (h.1 : Int) = ((2 ^ h.1 : Nat) : Int) from am_shl1 _ (by omega)]
    refine rn_cmpge (t := 94) (q := 41) dX8_fills_38 rfl rfl (fun w38 => ?_) (fun w38 => ?_)
    · refine rn_iload_n (x := x) (q := 95) dX8_fills_94 rfl rfl ?_
      refine rn_iret dX8_fills_95 rfl ?_
      have es : s = 2 ^ h.1 := by omega
      exact hQ _ _ (by rw [← es]; exact ⟨by rw [hx], hf, hr⟩)
    · refine rn_iload_n (x := (s : Int)) (q := 42) dX8_fills_41 rfl rfl ?_
      refine rn_callS (as := [.inl (s : Int)]) (rest := []) (q := 45) dX8_fills_42 ml_X8_187 sm_J6_bitCount_0f7a4 (by omega) rfl rfl (Nat.le_of_ble_eq_true rfl) rfl (s_bitCount (d := d + 4) s (by omega)) ?_
      intro r42 mem42 hq42
      obtain ⟨rfl, rfl⟩ := hq42
      show am_Rn l G _ _ 45 [some (.inr (.inr 1)), some (.inl x), some (.inl (s : Int)), lx] [.inl (pc s : Int)] m _
      refine rn_istore_n (ls' := [some (.inr (.inr 1)), some (.inl x), some (.inl (s : Int)), some (.inl (pc s : Int))]) (q := 46) dX8_fills_45 (by decide) rfl rfl ?_
      refine rn_iload_n (x := x) (q := 47) dX8_fills_46 rfl rfl ?_
      refine rn_iflt (t := 55) (q := 50) dX8_fills_47 rfl rfl (fun w47 => ?_) (fun w47 => ?_)
      · refine rn_aload_n (x := 0) (q := 56) dX8_fills_55 rfl rfl ?_
        refine rn_get (a := 0) (v := .inr (.inr 72)) (q := 59) dX8_fills_56 fl_X8_73 rfl rfl rfl ?_
        refine rn_aload_n (x := 0) (q := 60) dX8_fills_59 rfl rfl ?_
        refine rn_get (a := 0) (v := .inr (.inr 6)) (q := 63) dX8_fills_60 fl_X8_26 rfl rfl rfl ?_
        refine rn_iload_n (x := (s : Int)) (q := 64) dX8_fills_63 rfl rfl ?_
        refine rn_callV (b := 71) (as := [.inr (.inr 6), .inl (s : Int)]) (rest := []) (q := 67) dX8_fills_64 ml_X8_306 sm_X1_share rfl rfl (by decide) (by omega) rfl rfl (Nat.le_of_ble_eq_true rfl) rfl (c_share71 (d := d + 3) (q.kept hf) s (by omega) (mo := fun _ => 0) (fun i hi => ⟨(hf 72 i rfl).trans (z72 i (by omega)), by decide⟩) (mv := mvK X h sn sg e s) (fun i hi hb => (hT i (pc s) hi (pc_pos s (by omega) i hb) (pc_n s h.1 (by omega) (by omega))).trans (by have := q.hd9 i; unfold mvK; rw [show min 99 (eH e i + 0) = eH e i by omega])) mvK_nn h4 hw) ?_
        intro r64 mem64 hq64
        obtain ⟨rfl, hp64, hd64, hl64, h464, hf64, hg64⟩ := hq64
        show am_Rn l G _ _ 67 [some (.inr (.inr 1)), some (.inl x), some (.inl (s : Int)), some (.inl (pc s : Int))] [] mem64 _
        refine rn_aload_n (x := 0) (q := 68) dX8_fills_67 rfl rfl ?_
        refine rn_get (a := 0) (v := .inr (.inr 72)) (q := 71) dX8_fills_68 fl_X8_73 rfl rfl rfl ?_
        refine rn_get (a := 71) (v := .inl (aL X h sn sg e s)) (q := 74) dX8_fills_71 fl_X8_310 rfl (am_gi hl64) rfl ?_
        refine rn_ifne (t := 88) (q := 77) dX8_fills_74 rfl rfl (fun w74 => ?_) (fun w74 => ?_)
        · refine rn_iincN (x := (s : Int)) (z := ((s + 1 : Nat) : Int)) (ls' := [some (.inr (.inr 1)), some (.inl x), some (.inl ((s + 1 : Nat) : Int)), some (.inl (pc s : Int))]) (q := 91) dX8_fills_88 rfl (by decide) (by omega) (by unfold am_ok; omega) rfl rfl ?_
          refine rn_goto (t := 28) dX8_fills_91 rfl ?_
          first | (exfalso; omega) | (have e1 : fil (aL X h sn sg e) (s + 1) = _ := if_pos ⟨by omega, by assumption⟩; exact ih (by omega) _ _ _ (hf.tr (hf64.r8)) ((congrFun (hf85 71 (by decide) (by decide)) 4).trans h464) (fun i pr a1 a2 a3 => (congrFun (hf85 74 (by decide) (by decide)) _).trans ((hg64 74 _ rfl rfl).trans (hT i pr a1 a2 a3))) (by rw [e1]; unfold filA; rw [if_neg (by omega), Int.toNat_natCast]) (by rw [e1]; unfold filR; rw [if_neg (by omega)]; exact hr85)) | (have e1 : fil (aL X h sn sg e) (s + 1) = _ := if_neg (fun w => by have := w.1; have := w.2; omega); first | exact ih (by omega) _ _ _ (hf.tr (hf64.r8)) h464 (fun i pr a1 a2 a3 => (hg64 74 _ rfl rfl).trans (hT i pr a1 a2 a3)) (by rw [e1]; exact hx) (by rw [e1]; exact hr.kept hf64) | exact ih (by omega) _ _ _ (hf.tr (hf64.r8)) h4 hT (by rw [e1]; exact hx) (by rw [e1]; exact hr))
        · refine rn_iload_n (x := (pc s : Int)) (q := 78) dX8_fills_77 rfl rfl ?_
          refine rn_istore_n (ls' := [some (.inr (.inr 1)), some (.inl (pc s : Int)), some (.inl (s : Int)), some (.inl (pc s : Int))]) (q := 79) dX8_fills_78 (by decide) rfl rfl ?_
          refine rn_aload_n (x := 0) (q := 80) dX8_fills_79 rfl rfl ?_
          refine rn_get (a := 0) (v := .inr (.inr 4)) (q := 83) dX8_fills_80 fl_X8_19 rfl rfl rfl ?_
          refine rn_iload_n (x := (s : Int)) (q := 84) dX8_fills_83 rfl rfl ?_
          refine rn_i2l (q := 85) dX8_fills_84 rfl ?_
          refine rn_callV (b := 3) (as := [.inr (.inl (s : Int))]) (rest := []) (q := 88) dX8_fills_85 ml_X8_299 sm_X3_tell rfl rfl (by decide) (by omega) rfl rfl (Nat.le_of_ble_eq_true rfl) rfl (s_Rtell (d := d + 3) (s : Int)) ?_
          intro r85 mem85 hq85
          obtain ⟨rfl, hr85, hf85⟩ := hq85
          show am_Rn l G _ _ 88 [some (.inr (.inr 1)), some (.inl (pc s : Int)), some (.inl (s : Int)), some (.inl (pc s : Int))] [] mem85 _
          refine rn_iincN (x := (s : Int)) (z := ((s + 1 : Nat) : Int)) (ls' := [some (.inr (.inr 1)), some (.inl (pc s : Int)), some (.inl ((s + 1 : Nat) : Int)), some (.inl (pc s : Int))]) (q := 91) dX8_fills_88 rfl (by decide) (by omega) (by unfold am_ok; omega) rfl rfl ?_
          refine rn_goto (t := 28) dX8_fills_91 rfl ?_
          first | (exfalso; omega) | (have e1 : fil (aL X h sn sg e) (s + 1) = _ := if_pos ⟨by omega, by assumption⟩; exact ih (by omega) _ _ _ ((hf.tr (hf64.r8)).tr (fr_row hf85)) ((congrFun (hf85 71 (by decide) (by decide)) 4).trans h464) (fun i pr a1 a2 a3 => (congrFun (hf85 74 (by decide) (by decide)) _).trans ((hg64 74 _ rfl rfl).trans (hT i pr a1 a2 a3))) (by rw [e1]; unfold filA; rw [if_neg (by omega), Int.toNat_natCast]) (by rw [e1]; unfold filR; rw [if_neg (by omega)]; exact hr85)) | (have e1 : fil (aL X h sn sg e) (s + 1) = _ := if_neg (fun w => by have := w.1; have := w.2; omega); first | exact ih (by omega) _ _ _ ((hf.tr (hf64.r8)).tr (fr_row hf85)) h464 (fun i pr a1 a2 a3 => (hg64 74 _ rfl rfl).trans (hT i pr a1 a2 a3)) (by rw [e1]; exact hx) (by rw [e1]; exact hr.kept hf64) | exact ih (by omega) _ _ _ ((hf.tr (hf64.r8)).tr (fr_row hf85)) h4 hT (by rw [e1]; exact hx) (by rw [e1]; exact hr))
      · refine rn_iload_n (x := (pc s : Int)) (q := 51) dX8_fills_50 rfl rfl ?_
        refine rn_iload_n (x := x) (q := 52) dX8_fills_51 rfl rfl ?_
        refine rn_cmpge (t := 88) (q := 55) dX8_fills_52 rfl rfl (fun w52 => ?_) (fun w52 => ?_)
        · refine rn_iincN (x := (s : Int)) (z := ((s + 1 : Nat) : Int)) (ls' := [some (.inr (.inr 1)), some (.inl x), some (.inl ((s + 1 : Nat) : Int)), some (.inl (pc s : Int))]) (q := 91) dX8_fills_88 rfl (by decide) (by omega) (by unfold am_ok; omega) rfl rfl ?_
          refine rn_goto (t := 28) dX8_fills_91 rfl ?_
          first | (exfalso; omega) | (have e1 : fil (aL X h sn sg e) (s + 1) = _ := if_pos ⟨by omega, by assumption⟩; exact ih (by omega) _ _ _ hf ((congrFun (hf85 71 (by decide) (by decide)) 4).trans h464) (fun i pr a1 a2 a3 => (congrFun (hf85 74 (by decide) (by decide)) _).trans ((hg64 74 _ rfl rfl).trans (hT i pr a1 a2 a3))) (by rw [e1]; unfold filA; rw [if_neg (by omega), Int.toNat_natCast]) (by rw [e1]; unfold filR; rw [if_neg (by omega)]; exact hr85)) | (have e1 : fil (aL X h sn sg e) (s + 1) = _ := if_neg (fun w => by have := w.1; have := w.2; omega); first | exact ih (by omega) _ _ _ hf h464 (fun i pr a1 a2 a3 => (hg64 74 _ rfl rfl).trans (hT i pr a1 a2 a3)) (by rw [e1]; exact hx) (by rw [e1]; exact hr.kept hf64) | exact ih (by omega) _ _ _ hf h4 hT (by rw [e1]; exact hx) (by rw [e1]; exact hr))
        · refine rn_aload_n (x := 0) (q := 56) dX8_fills_55 rfl rfl ?_
          refine rn_get (a := 0) (v := .inr (.inr 72)) (q := 59) dX8_fills_56 fl_X8_73 rfl rfl rfl ?_
          refine rn_aload_n (x := 0) (q := 60) dX8_fills_59 rfl rfl ?_
          refine rn_get (a := 0) (v := .inr (.inr 6)) (q := 63) dX8_fills_60 fl_X8_26 rfl rfl rfl ?_
          refine rn_iload_n (x := (s : Int)) (q := 64) dX8_fills_63 rfl rfl ?_
          refine rn_callV (b := 71) (as := [.inr (.inr 6), .inl (s : Int)]) (rest := []) (q := 67) dX8_fills_64 ml_X8_306 sm_X1_share rfl rfl (by decide) (by omega) rfl rfl (Nat.le_of_ble_eq_true rfl) rfl (c_share71 (d := d + 3) (q.kept hf) s (by omega) (mo := fun _ => 0) (fun i hi => ⟨(hf 72 i rfl).trans (z72 i (by omega)), by decide⟩) (mv := mvK X h sn sg e s) (fun i hi hb => (hT i (pc s) hi (pc_pos s (by omega) i hb) (pc_n s h.1 (by omega) (by omega))).trans (by have := q.hd9 i; unfold mvK; rw [show min 99 (eH e i + 0) = eH e i by omega])) mvK_nn h4 hw) ?_
          intro r64 mem64 hq64
          obtain ⟨rfl, hp64, hd64, hl64, h464, hf64, hg64⟩ := hq64
          show am_Rn l G _ _ 67 [some (.inr (.inr 1)), some (.inl x), some (.inl (s : Int)), some (.inl (pc s : Int))] [] mem64 _
          refine rn_aload_n (x := 0) (q := 68) dX8_fills_67 rfl rfl ?_
          refine rn_get (a := 0) (v := .inr (.inr 72)) (q := 71) dX8_fills_68 fl_X8_73 rfl rfl rfl ?_
          refine rn_get (a := 71) (v := .inl (aL X h sn sg e s)) (q := 74) dX8_fills_71 fl_X8_310 rfl (am_gi hl64) rfl ?_
          refine rn_ifne (t := 88) (q := 77) dX8_fills_74 rfl rfl (fun w74 => ?_) (fun w74 => ?_)
          · refine rn_iincN (x := (s : Int)) (z := ((s + 1 : Nat) : Int)) (ls' := [some (.inr (.inr 1)), some (.inl x), some (.inl ((s + 1 : Nat) : Int)), some (.inl (pc s : Int))]) (q := 91) dX8_fills_88 rfl (by decide) (by omega) (by unfold am_ok; omega) rfl rfl ?_
            refine rn_goto (t := 28) dX8_fills_91 rfl ?_
            first | (exfalso; omega) | (have e1 : fil (aL X h sn sg e) (s + 1) = _ := if_pos ⟨by omega, by assumption⟩; exact ih (by omega) _ _ _ (hf.tr (hf64.r8)) ((congrFun (hf85 71 (by decide) (by decide)) 4).trans h464) (fun i pr a1 a2 a3 => (congrFun (hf85 74 (by decide) (by decide)) _).trans ((hg64 74 _ rfl rfl).trans (hT i pr a1 a2 a3))) (by rw [e1]; unfold filA; rw [if_neg (by omega), Int.toNat_natCast]) (by rw [e1]; unfold filR; rw [if_neg (by omega)]; exact hr85)) | (have e1 : fil (aL X h sn sg e) (s + 1) = _ := if_neg (fun w => by have := w.1; have := w.2; omega); first | exact ih (by omega) _ _ _ (hf.tr (hf64.r8)) h464 (fun i pr a1 a2 a3 => (hg64 74 _ rfl rfl).trans (hT i pr a1 a2 a3)) (by rw [e1]; exact hx) (by rw [e1]; exact hr.kept hf64) | exact ih (by omega) _ _ _ (hf.tr (hf64.r8)) h4 hT (by rw [e1]; exact hx) (by rw [e1]; exact hr))
          · refine rn_iload_n (x := (pc s : Int)) (q := 78) dX8_fills_77 rfl rfl ?_
            refine rn_istore_n (ls' := [some (.inr (.inr 1)), some (.inl (pc s : Int)), some (.inl (s : Int)), some (.inl (pc s : Int))]) (q := 79) dX8_fills_78 (by decide) rfl rfl ?_
            refine rn_aload_n (x := 0) (q := 80) dX8_fills_79 rfl rfl ?_
            refine rn_get (a := 0) (v := .inr (.inr 4)) (q := 83) dX8_fills_80 fl_X8_19 rfl rfl rfl ?_
            refine rn_iload_n (x := (s : Int)) (q := 84) dX8_fills_83 rfl rfl ?_
            refine rn_i2l (q := 85) dX8_fills_84 rfl ?_
            refine rn_callV (b := 3) (as := [.inr (.inl (s : Int))]) (rest := []) (q := 88) dX8_fills_85 ml_X8_299 sm_X3_tell rfl rfl (by decide) (by omega) rfl rfl (Nat.le_of_ble_eq_true rfl) rfl (s_Rtell (d := d + 3) (s : Int)) ?_
            intro r85 mem85 hq85
            obtain ⟨rfl, hr85, hf85⟩ := hq85
            show am_Rn l G _ _ 88 [some (.inr (.inr 1)), some (.inl (pc s : Int)), some (.inl (s : Int)), some (.inl (pc s : Int))] [] mem85 _
            refine rn_iincN (x := (s : Int)) (z := ((s + 1 : Nat) : Int)) (ls' := [some (.inr (.inr 1)), some (.inl (pc s : Int)), some (.inl ((s + 1 : Nat) : Int)), some (.inl (pc s : Int))]) (q := 91) dX8_fills_88 rfl (by decide) (by omega) (by unfold am_ok; omega) rfl rfl ?_
            refine rn_goto (t := 28) dX8_fills_91 rfl ?_
            first | (exfalso; omega) | (have e1 : fil (aL X h sn sg e) (s + 1) = _ := if_pos ⟨by omega, by assumption⟩; exact ih (by omega) _ _ _ ((hf.tr (hf64.r8)).tr (fr_row hf85)) ((congrFun (hf85 71 (by decide) (by decide)) 4).trans h464) (fun i pr a1 a2 a3 => (congrFun (hf85 74 (by decide) (by decide)) _).trans ((hg64 74 _ rfl rfl).trans (hT i pr a1 a2 a3))) (by rw [e1]; unfold filA; rw [if_neg (by omega), Int.toNat_natCast]) (by rw [e1]; unfold filR; rw [if_neg (by omega)]; exact hr85)) | (have e1 : fil (aL X h sn sg e) (s + 1) = _ := if_neg (fun w => by have := w.1; have := w.2; omega); first | exact ih (by omega) _ _ _ ((hf.tr (hf64.r8)).tr (fr_row hf85)) h464 (fun i pr a1 a2 a3 => (hg64 74 _ rfl rfl).trans (hT i pr a1 a2 a3)) (by rw [e1]; exact hx) (by rw [e1]; exact hr.kept hf64) | exact ih (by omega) _ _ _ ((hf.tr (hf64.r8)).tr (fr_row hf85)) h4 hT (by rw [e1]; exact hx) (by rw [e1]; exact hr))
  refine rn_aload_n (x := 0) (q := 1) dX8_fills_0 rfl rfl ?_
  refine rn_get (a := 0) (v := .inr (.inr 72)) (q := 4) dX8_fills_1 fl_X8_73 rfl rfl rfl ?_
  refine rn_aload_n (x := 0) (q := 5) dX8_fills_4 rfl rfl ?_
  refine rn_get (a := 0) (v := .inr (.inr 6)) (q := 8) dX8_fills_5 fl_X8_26 rfl rfl rfl ?_
  refine rn_aload_n (x := 0) (q := 9) dX8_fills_8 rfl rfl ?_
  refine rn_get (a := 0) (v := .inr (.inr 17)) (q := 12) dX8_fills_9 fl_X8_33 rfl rfl rfl ?_
  refine rn_aload_n (x := 0) (q := 13) dX8_fills_12 rfl rfl ?_
  refine rn_get (a := 0) (v := .inr (.inr 17)) (q := 16) dX8_fills_13 fl_X8_33 rfl rfl rfl ?_
  refine rn_get (a := 16) (v := .inl (eN e : Int)) (q := 19) dX8_fills_16 fl_X8_184 rfl (am_gi q.nt) rfl ?_
  refine rn_iconst (q := 20) dX8_fills_19 (am_okd rfl) rfl ?_
  refine rn_callV (b := 71) (as := [.inr (.inr 6), .inr (.inr 17), .inl (eN e : Int), .inl 0]) (rest := []) (q := 23) dX8_fills_20 ml_X8_302 sm_X1_ready rfl rfl (by decide) (by omega) rfl rfl (Nat.le_of_ble_eq_true rfl) rfl (c_ready71 (d := d + 0) q (eN e) 0 (by omega) (by decide)) ?_
  intro r20 mem20 hq20
  obtain ⟨rfl, h420, hT20, hf20, -⟩ := hq20
  show am_Rn l G _ _ 23 [some (.inr (.inr 1)), none, none, none] [] mem20 _
  refine rn_bipush (q := 25) dX8_fills_23 ⟨by decide, by decide⟩ rfl ?_
  refine rn_istore_n (ls' := [some (.inr (.inr 1)), some (.inl (-2)), none, none]) (q := 26) dX8_fills_25 (by decide) rfl rfl ?_
  refine rn_iconst (q := 27) dX8_fills_26 (am_okd rfl) rfl ?_
  refine rn_istore_n (ls' := [some (.inr (.inr 1)), some (.inl (-2)), some (.inl 0), none]) (q := 28) dX8_fills_27 (by decide) rfl rfl ?_
  exact L 0 (Nat.zero_le _) _ _ _ (hf20.r8) h420 (fun i pr a1 a2 a3 => hT20 i 0 pr a1 (Nat.le_refl _) a2 a3) rfl (hR.kept hf20)
theorem m_admits (q : DQ X sn sg h e NB mem) {R : List Int} (hR : m_row R mem) (k : Int) : am_Sm l G yX9_admits mt_X9_admits (d + 178) [.inr (.inr 96), .inl k] mem (fun q m => (¬ (0 ≤ k ∧ k ≤ 9) → QM (-1) R mem q m) ∧ (0 ≤ k ∧ k ≤ 9 → QM (admA (adm (aD X h sn sg e) (aL X h sn sg e) k (2 ^ h.1))) (admR R (adm (aD X h sn sg e) (aL X h sn sg e) k (2 ^ h.1))) mem q m)) := by
  refine am_enterQ (ls := [some (.inr (.inr 96)), some (.inl k), none, none, none, none]) (by decide) rfl (Nat.le_of_ble_eq_true rfl) rfl (fun hok Q hQ => ?_)
  have b := q.bd
  have L : 0 ≤ k ∧ k ≤ 9 → ∀ s : Nat, s ≤ 2 ^ h.1 → ∀ (m : am_M) (x : Int × Int × Int), frS s9 mem m → x = adm (aD X h sn sg e) (aL X h sn sg e) k s → am_Rn l G mt_X9_admits (d + 178) 27 [some (.inr (.inr 96)), some (.inl k), some (.inl x.1), some (.inl x.2.1), some (.inl x.2.2), some (.inl (s : Int))] [] m Q := by
    intro hk
    refine am_dn (2 ^ h.1) (fun s hs ih m x hf hx => ?_)
    by_cases hin : s < 2 ^ h.1
    · refine rn_iload (x := (s : Int)) (q := 29) dX9_admits_27 rfl rfl ?_
      refine rn_iconst (q := 30) dX9_admits_29 (am_okd rfl) rfl ?_
      refine rn_aload_n (x := 95) (q := 31) dX9_admits_30 rfl rfl ?_
      refine rn_get (a := 95) (v := .inl (h.1 : Int)) (q := 34) dX9_admits_31 fl_X9_113 rfl (am_gi (q.kept hf.r9).n) rfl ?_
      refine rn_ishl (q := 35) dX9_admits_34 rfl ?_
      rw [show am_shl 1 (h.1 : Int) = ((2 ^ h.1 : Nat) : Int) from am_shl1 _ (by omega)]
      refine rn_cmpge (t := 107) (q := 38) dX9_admits_35 rfl rfl (fun h => absurd h (by omega)) (fun w35 => ?_)
      refine rn_aload_n (x := 95) (q := 39) dX9_admits_38 rfl rfl ?_
      refine rn_get (a := 95) (v := .inr (.inr 97)) (q := 42) dX9_admits_39 fl_X9_9 rfl rfl rfl ?_
      refine rn_aload_n (x := 95) (q := 43) dX9_admits_42 rfl rfl ?_
      refine rn_get (a := 95) (v := .inr (.inr 110)) (q := 46) dX9_admits_43 fl_X9_55 rfl rfl rfl ?_
      refine rn_iconst (q := 47) dX9_admits_46 (am_okd rfl) rfl ?_
      refine rn_callS (as := [.inr (.inr 97), .inr (.inr 110), .inl 0]) (rest := []) (q := 50) dX9_admits_47 ml_X9_248 sm_X9_lay (by omega) rfl rfl (Nat.le_of_ble_eq_true rfl) rfl (m_layA (d := d + 177) (q.kept hf.r9) (Or.inl rfl)) ?_
      intro r47 mem47 hq47
      obtain ⟨rfl, he47, hf47⟩ := hq47
      show am_Rn l G _ _ 50 [some (.inr (.inr 96)), some (.inl k), some (.inl x.1), some (.inl x.2.1), some (.inl x.2.2), some (.inl (s : Int))] [] mem47 _
      refine rn_aload_n (x := 95) (q := 51) dX9_admits_50 rfl rfl ?_
      refine rn_aload_n (x := 95) (q := 52) dX9_admits_51 rfl rfl ?_
      refine rn_get (a := 95) (v := .inr (.inr 110)) (q := 55) dX9_admits_52 fl_X9_55 rfl rfl rfl ?_
      refine rn_iload (x := (s : Int)) (q := 57) dX9_admits_55 rfl rfl ?_
      refine rn_callV (b := 95) (as := [.inr (.inr 110), .inl (s : Int)]) (rest := []) (q := 60) dX9_admits_57 ml_X9_303 sm_X9_admit rfl rfl (by decide) (by omega) rfl rfl (Nat.le_of_ble_eq_true rfl) rfl (m_admit (d := d + 177) (q.kept (hf.r9.tr (hf47.r9))) (arr := 109) (Or.inl rfl) (by omega) he47 s hin) ?_
      intro r57 mem57 hq57
      obtain ⟨rfl, he57, hg57⟩ := hq57
      show am_Rn l G _ _ 60 [some (.inr (.inr 96)), some (.inl k), some (.inl x.1), some (.inl x.2.1), some (.inl x.2.2), some (.inl (s : Int))] [] mem57 _
      refine rn_aload_n (x := 95) (q := 61) dX9_admits_60 rfl rfl ?_
      refine rn_aload_n (x := 95) (q := 62) dX9_admits_61 rfl rfl ?_
      refine rn_get (a := 95) (v := .inr (.inr 110)) (q := 65) dX9_admits_62 fl_X9_55 rfl rfl rfl ?_
      refine rn_callV (b := 95) (as := [.inr (.inr 110)]) (rest := []) (q := 68) dX9_admits_65 ml_X9_258 sm_X9_part rfl rfl (by decide) (by omega) rfl rfl (Nat.le_of_ble_eq_true rfl) rfl (m_partA (d := d + 0) (e2 := onE e s) (q.kept ((hf.r9.tr (hf47.r9)).tr ((fr_arr (Or.inl rfl) hg57).r9))) (Or.inr (Or.inl rfl)) (k := 0) (by omega) (onE_ok hin q.eo) he57) ?_
      intro r65 mem65 hq65
      obtain ⟨rfl, hf65, -, hd65, hl65, -, -, -⟩ := hq65
      show am_Rn l G _ _ 68 [some (.inr (.inr 96)), some (.inl k), some (.inl x.1), some (.inl x.2.1), some (.inl x.2.2), some (.inl (s : Int))] [] mem65 _
      refine rn_aload_n (x := 95) (q := 69) dX9_admits_68 rfl rfl ?_
      refine rn_get (a := 95) (v := .inl (aL X h sn sg e s)) (q := 72) dX9_admits_69 fl_X9_252 rfl (am_gi hl65) rfl ?_
      refine rn_iload_n (x := k) (q := 73) dX9_admits_72 rfl rfl ?_
      refine rn_cmplt (t := 101) (q := 76) dX9_admits_73 rfl rfl (fun w73 => ?_) (fun w73 => ?_)
      · refine rn_iincN (x := (s : Int)) (z := ((s + 1 : Nat) : Int)) (ls' := [some (.inr (.inr 96)), some (.inl k), some (.inl x.1), some (.inl x.2.1), some (.inl x.2.2), some (.inl ((s + 1 : Nat) : Int))]) (q := 104) dX9_admits_101 rfl (by decide) (by omega) (by unfold am_ok; omega) rfl rfl ?_
        refine rn_goto (t := 27) dX9_admits_104 rfl ?_
        first | exact ih hin _ (_, _, _) (hf.tr (hf47.tr ((fr_arr (Or.inl rfl) hg57).tr hf65))) (by rw [adm, ← hx, if_pos ⟨by omega, by omega⟩]; rfl) | exact ih hin _ x (hf.tr (hf47.tr ((fr_arr (Or.inl rfl) hg57).tr hf65))) (by rw [adm, ← hx, if_neg (fun w => by have := w.1; have := w.2; omega)])
      · refine rn_aload_n (x := 95) (q := 77) dX9_admits_76 rfl rfl ?_
        refine rn_get (a := 95) (v := .inl (aD X h sn sg e s)) (q := 80) dX9_admits_77 fl_X9_255 rfl (am_gi hd65) rfl ?_
        refine rn_iload_n (x := x.2.1) (q := 81) dX9_admits_80 rfl rfl ?_
        refine rn_cmpgt (t := 87) (q := 84) dX9_admits_81 rfl rfl (fun w81 => ?_) (fun w81 => ?_)
        · refine rn_iload (x := (s : Int)) (q := 89) dX9_admits_87 rfl rfl ?_
          refine rn_istore_n (ls' := [some (.inr (.inr 96)), some (.inl k), some (.inl (s : Int)), some (.inl x.2.1), some (.inl x.2.2), some (.inl (s : Int))]) (q := 90) dX9_admits_89 (by decide) rfl rfl ?_
          refine rn_aload_n (x := 95) (q := 91) dX9_admits_90 rfl rfl ?_
          refine rn_get (a := 95) (v := .inl (aD X h sn sg e s)) (q := 94) dX9_admits_91 fl_X9_255 rfl (am_gi hd65) rfl ?_
          refine rn_istore_n (ls' := [some (.inr (.inr 96)), some (.inl k), some (.inl (s : Int)), some (.inl (aD X h sn sg e s)), some (.inl x.2.2), some (.inl (s : Int))]) (q := 95) dX9_admits_94 (by decide) rfl rfl ?_
          refine rn_aload_n (x := 95) (q := 96) dX9_admits_95 rfl rfl ?_
          refine rn_get (a := 95) (v := .inl (aL X h sn sg e s)) (q := 99) dX9_admits_96 fl_X9_252 rfl (am_gi hl65) rfl ?_
          refine rn_istore (ls' := [some (.inr (.inr 96)), some (.inl k), some (.inl (s : Int)), some (.inl (aD X h sn sg e s)), some (.inl (aL X h sn sg e s)), some (.inl (s : Int))]) (q := 101) dX9_admits_99 (by decide) rfl rfl ?_
          refine rn_iincN (x := (s : Int)) (z := ((s + 1 : Nat) : Int)) (ls' := [some (.inr (.inr 96)), some (.inl k), some (.inl (s : Int)), some (.inl (aD X h sn sg e s)), some (.inl (aL X h sn sg e s)), some (.inl ((s + 1 : Nat) : Int))]) (q := 104) dX9_admits_101 rfl (by decide) (by omega) (by unfold am_ok; omega) rfl rfl ?_
          refine rn_goto (t := 27) dX9_admits_104 rfl ?_
          first | exact ih hin _ (_, _, _) (hf.tr (hf47.tr ((fr_arr (Or.inl rfl) hg57).tr hf65))) (by rw [adm, ← hx, if_pos ⟨by omega, by omega⟩]; rfl) | exact ih hin _ x (hf.tr (hf47.tr ((fr_arr (Or.inl rfl) hg57).tr hf65))) (by rw [adm, ← hx, if_neg (fun w => by have := w.1; have := w.2; omega)])
        · refine rn_goto (t := 101) dX9_admits_84 rfl ?_
          refine rn_iincN (x := (s : Int)) (z := ((s + 1 : Nat) : Int)) (ls' := [some (.inr (.inr 96)), some (.inl k), some (.inl x.1), some (.inl x.2.1), some (.inl x.2.2), some (.inl ((s + 1 : Nat) : Int))]) (q := 104) dX9_admits_101 rfl (by decide) (by omega) (by unfold am_ok; omega) rfl rfl ?_
          refine rn_goto (t := 27) dX9_admits_104 rfl ?_
          first | exact ih hin _ (_, _, _) (hf.tr (hf47.tr ((fr_arr (Or.inl rfl) hg57).tr hf65))) (by rw [adm, ← hx, if_pos ⟨by omega, by omega⟩]; rfl) | exact ih hin _ x (hf.tr (hf47.tr ((fr_arr (Or.inl rfl) hg57).tr hf65))) (by rw [adm, ← hx, if_neg (fun w => by have := w.1; have := w.2; omega)])
    · obtain rfl : s = 2 ^ h.1 := by omega
      refine rn_iload (x := ((2 ^ h.1 : Nat) : Int)) (q := 29) dX9_admits_27 rfl rfl ?_
      refine rn_iconst (q := 30) dX9_admits_29 (am_okd rfl) rfl ?_
      refine rn_aload_n (x := 95) (q := 31) dX9_admits_30 rfl rfl ?_
      refine rn_get (a := 95) (v := .inl (h.1 : Int)) (q := 34) dX9_admits_31 fl_X9_113 rfl (am_gi (q.kept hf.r9).n) rfl ?_
      refine rn_ishl (q := 35) dX9_admits_34 rfl ?_
      rw [show am_shl 1 (h.1 : Int) = ((2 ^ h.1 : Nat) : Int) from am_shl1 _ (by omega)]
      refine rn_cmpge (t := 107) (q := 38) dX9_admits_35 rfl rfl (fun w35 => ?_) (fun h => absurd h (by omega))
      refine rn_iload_n (x := x.1) (q := 108) dX9_admits_107 rfl rfl ?_
      refine rn_iconst (q := 109) dX9_admits_108 (am_okd rfl) rfl ?_
      refine rn_cmpne (t := 115) (q := 112) dX9_admits_109 rfl rfl (fun w109 => ?_) (fun w109 => ?_)
      · refine rn_aload_n (x := 95) (q := 116) dX9_admits_115 rfl rfl ?_
        refine rn_iconst (q := 117) dX9_admits_116 (am_okd rfl) rfl ?_
        refine rn_puti (a := 95) (q := 120) dX9_admits_117 fl_X9_110 rfl rfl rfl rfl ?_
        refine rn_aload_n (x := 95) (q := 121) dX9_admits_120 rfl rfl ?_
        refine rn_iload_n (x := x.1) (q := 122) dX9_admits_121 rfl rfl ?_
        refine rn_i2l (q := 123) dX9_admits_122 rfl ?_
        refine rn_callV (b := 95) (as := [.inr (.inl x.1)]) (rest := []) (q := 126) dX9_admits_123 ml_X9_275 sm_X9_tell rfl rfl (by decide) (by omega) rfl rfl (Nat.le_of_ble_eq_true rfl) rfl (m_tell (d := d + 177) m_row0 (by first | decide | simp | omega) x.1) ?_
        intro r123 mem123 hq123
        obtain ⟨rfl, hr123, hf123⟩ := hq123
        show am_Rn l G _ _ 126 [some (.inr (.inr 96)), some (.inl k), some (.inl x.1), some (.inl x.2.1), some (.inl x.2.2), some (.inl ((2 ^ h.1 : Nat) : Int))] [] mem123 _
        refine rn_aload_n (x := 95) (q := 127) dX9_admits_126 rfl rfl ?_
        refine rn_iload (x := x.2.2) (q := 129) dX9_admits_127 rfl rfl ?_
        refine rn_i2l (q := 130) dX9_admits_129 rfl ?_
        refine rn_callV (b := 95) (as := [.inr (.inl x.2.2)]) (rest := []) (q := 133) dX9_admits_130 ml_X9_275 sm_X9_tell rfl rfl (by decide) (by omega) rfl rfl (Nat.le_of_ble_eq_true rfl) rfl (m_tell (d := d + 177) hr123 (by first | decide | simp | omega) x.2.2) ?_
        intro r130 mem130 hq130
        obtain ⟨rfl, hr130, hf130⟩ := hq130
        show am_Rn l G _ _ 133 [some (.inr (.inr 96)), some (.inl k), some (.inl x.1), some (.inl x.2.1), some (.inl x.2.2), some (.inl ((2 ^ h.1 : Nat) : Int))] [] mem130 _
        refine rn_iload_n (x := x.2.1) (q := 134) dX9_admits_133 rfl rfl ?_
        refine rn_iret dX9_admits_134 rfl ?_
        exact hQ _ _ ⟨fun hn => absurd hk hn, fun _ => by rw [← hx]; unfold admA admR; rw [if_neg (by omega), if_neg (by omega)]; exact ⟨rfl, (((frS.up (a := 95) (k := 10) (x := 0) hf.r9 rfl).tr hf123).tr hf130), hr130⟩⟩
      · refine rn_bipush (q := 114) dX9_admits_112 ⟨by decide, by decide⟩ rfl ?_
        refine rn_iret dX9_admits_114 rfl ?_
        exact hQ _ _ ⟨fun hn => absurd hk hn, fun _ => by rw [← hx]; unfold admA admR; rw [if_pos (by omega), if_pos (by omega)]; exact ⟨rfl, hf.r9, hR.kept hf⟩⟩
  refine rn_aload_n (x := 95) (q := 1) dX9_admits_0 rfl rfl ?_
  refine rn_iconst (q := 2) dX9_admits_1 (am_okd rfl) rfl ?_
  refine rn_puti (a := 95) (q := 5) dX9_admits_2 fl_X9_107 rfl rfl rfl rfl ?_
  refine rn_iload_n (x := k) (q := 6) dX9_admits_5 rfl rfl ?_
  refine rn_iconst (q := 7) dX9_admits_6 (am_okd rfl) rfl ?_
  refine rn_bipush (q := 9) dX9_admits_7 ⟨by decide, by decide⟩ rfl ?_
  refine rn_callS (as := [.inl k, .inl 0, .inl 9]) (rest := []) (q := 12) dX9_admits_9 ml_X9_116 sm_X9_in (by omega) rfl rfl (Nat.le_of_ble_eq_true rfl) rfl (s_in9 (d := d + 177) k 0 9) ?_
  intro r9 mem9 hq9
  obtain ⟨⟨rfl, hi9⟩ | ⟨rfl, hi9⟩, rfl⟩ := hq9
  · show am_Rn l G _ _ 12 [some (.inr (.inr 96)), some (.inl k), none, none, none, none] [.inl 1] (am_up mem 95 11 0) _
    refine rn_ifne (t := 17) (q := 15) dX9_admits_12 rfl rfl (fun w12 => ?_) (fun h => absurd h (by decide))
    refine rn_iconst (q := 18) dX9_admits_17 (am_okd rfl) rfl ?_
    refine rn_istore_n (ls' := [some (.inr (.inr 96)), some (.inl k), some (.inl (-1)), none, none, none]) (q := 19) dX9_admits_18 (by decide) rfl rfl ?_
    refine rn_iconst (q := 20) dX9_admits_19 (am_okd rfl) rfl ?_
    refine rn_istore_n (ls' := [some (.inr (.inr 96)), some (.inl k), some (.inl (-1)), some (.inl (-1)), none, none]) (q := 21) dX9_admits_20 (by decide) rfl rfl ?_
    refine rn_iconst (q := 22) dX9_admits_21 (am_okd rfl) rfl ?_
    refine rn_istore (ls' := [some (.inr (.inr 96)), some (.inl k), some (.inl (-1)), some (.inl (-1)), some (.inl 0), none]) (q := 24) dX9_admits_22 (by decide) rfl rfl ?_
    refine rn_iconst (q := 25) dX9_admits_24 (am_okd rfl) rfl ?_
    refine rn_istore (ls' := [some (.inr (.inr 96)), some (.inl k), some (.inl (-1)), some (.inl (-1)), some (.inl 0), some (.inl 0)]) (q := 27) dX9_admits_25 (by decide) rfl rfl ?_
    exact L (by omega) 0 (Nat.zero_le _) _ (-1, -1, 0) (frS.rf.up rfl) rfl
  · show am_Rn l G _ _ 12 [some (.inr (.inr 96)), some (.inl k), none, none, none, none] [.inl 0] (am_up mem 95 11 0) _
    refine rn_ifne (t := 17) (q := 15) dX9_admits_12 rfl rfl (fun h => absurd h (by decide)) (fun w12 => ?_)
    refine rn_iconst (q := 16) dX9_admits_15 (am_okd rfl) rfl ?_
    refine rn_iret dX9_admits_16 rfl ?_
    exact hQ _ _ ⟨fun _ => ⟨rfl, (frS.up (a := 95) (k := 11) (x := 0) frS.rf rfl), hR.kept (frS.rf.up rfl)⟩, fun hn => by omega⟩
theorem m_fills (q : DQ X sn sg h e NB mem) {R : List Int} (hR : m_row R mem) : am_Sm l G yX9_fills mt_X9_fills (d + 178) [.inr (.inr 96)] mem (QM (filA (fil (aL X h sn sg e) (2 ^ h.1))) (filR R (fil (aL X h sn sg e) (2 ^ h.1))) mem) := by
  refine am_enterQ (ls := [some (.inr (.inr 96)), none, none]) (by decide) rfl (Nat.le_of_ble_eq_true rfl) rfl (fun hok Q hQ => ?_)
  have b := q.bd
  have L : ∀ s : Nat, s ≤ 2 ^ h.1 → ∀ (m : am_M) (x : Int), frS s9 mem m → x = fil (aL X h sn sg e) s → am_Rn l G mt_X9_fills (d + 178) 9 [some (.inr (.inr 96)), some (.inl x), some (.inl (s : Int))] [] m Q := by
    refine am_dn (2 ^ h.1) (fun s hs ih m x hf hx => ?_)
    have oF := fil_ok (L := aL X h sn sg e) s
    rw [← hx] at oF
    by_cases hin : s < 2 ^ h.1
    · by_cases hx1 : x = -1
      · subst hx1
        refine rn_iload_n (x := (s : Int)) (q := 10) dX9_fills_9 rfl rfl ?_
        refine rn_iconst (q := 11) dX9_fills_10 (am_okd rfl) rfl ?_
        refine rn_aload_n (x := 95) (q := 12) dX9_fills_11 rfl rfl ?_
        refine rn_get (a := 95) (v := .inl (h.1 : Int)) (q := 15) dX9_fills_12 fl_X9_113 rfl (am_gi (q.kept hf.r9).n) rfl ?_
        refine rn_ishl (q := 16) dX9_fills_15 rfl ?_
        rw [show am_shl 1 (h.1 : Int) = ((2 ^ h.1 : Nat) : Int) from am_shl1 _ (by omega)]
        refine rn_cmpge (t := 82) (q := 19) dX9_fills_16 rfl rfl (fun h => absurd h (by omega)) (fun w16 => ?_)
        refine rn_iload_n (x := (-1)) (q := 20) dX9_fills_19 rfl rfl ?_
        refine rn_iconst (q := 21) dX9_fills_20 (am_okd rfl) rfl ?_
        refine rn_cmpeq (t := 38) (q := 24) dX9_fills_21 rfl rfl (fun w21 => ?_) (fun h => absurd h (by omega))
        refine rn_aload_n (x := 95) (q := 39) dX9_fills_38 rfl rfl ?_
        refine rn_get (a := 95) (v := .inr (.inr 97)) (q := 42) dX9_fills_39 fl_X9_9 rfl rfl rfl ?_
        refine rn_aload_n (x := 95) (q := 43) dX9_fills_42 rfl rfl ?_
        refine rn_get (a := 95) (v := .inr (.inr 110)) (q := 46) dX9_fills_43 fl_X9_55 rfl rfl rfl ?_
        refine rn_iconst (q := 47) dX9_fills_46 (am_okd rfl) rfl ?_
        refine rn_callS (as := [.inr (.inr 97), .inr (.inr 110), .inl 0]) (rest := []) (q := 50) dX9_fills_47 ml_X9_248 sm_X9_lay (by omega) rfl rfl (Nat.le_of_ble_eq_true rfl) rfl (m_layA (d := d + 177) (q.kept hf.r9) (Or.inl rfl)) ?_
        intro r47 mem47 hq47
        obtain ⟨rfl, he47, hf47⟩ := hq47
        show am_Rn l G _ _ 50 [some (.inr (.inr 96)), some (.inl (-1)), some (.inl (s : Int))] [] mem47 _
        refine rn_aload_n (x := 95) (q := 51) dX9_fills_50 rfl rfl ?_
        refine rn_aload_n (x := 95) (q := 52) dX9_fills_51 rfl rfl ?_
        refine rn_get (a := 95) (v := .inr (.inr 110)) (q := 55) dX9_fills_52 fl_X9_55 rfl rfl rfl ?_
        refine rn_iload_n (x := (s : Int)) (q := 56) dX9_fills_55 rfl rfl ?_
        refine rn_callV (b := 95) (as := [.inr (.inr 110), .inl (s : Int)]) (rest := []) (q := 59) dX9_fills_56 ml_X9_303 sm_X9_admit rfl rfl (by decide) (by omega) rfl rfl (Nat.le_of_ble_eq_true rfl) rfl (m_admit (d := d + 177) (q.kept (hf.r9.tr (hf47.r9))) (arr := 109) (Or.inl rfl) (by omega) he47 s hin) ?_
        intro r56 mem56 hq56
        obtain ⟨rfl, he56, hg56⟩ := hq56
        show am_Rn l G _ _ 59 [some (.inr (.inr 96)), some (.inl (-1)), some (.inl (s : Int))] [] mem56 _
        refine rn_aload_n (x := 95) (q := 60) dX9_fills_59 rfl rfl ?_
        refine rn_aload_n (x := 95) (q := 61) dX9_fills_60 rfl rfl ?_
        refine rn_get (a := 95) (v := .inr (.inr 110)) (q := 64) dX9_fills_61 fl_X9_55 rfl rfl rfl ?_
        refine rn_callV (b := 95) (as := [.inr (.inr 110)]) (rest := []) (q := 67) dX9_fills_64 ml_X9_258 sm_X9_part rfl rfl (by decide) (by omega) rfl rfl (Nat.le_of_ble_eq_true rfl) rfl (m_partA (d := d + 0) (e2 := onE e s) (q.kept ((hf.r9.tr (hf47.r9)).tr ((fr_arr (Or.inl rfl) hg56).r9))) (Or.inr (Or.inl rfl)) (k := 0) (by omega) (onE_ok hin q.eo) he56) ?_
        intro r64 mem64 hq64
        obtain ⟨rfl, hf64, -, -, hl64, -, -, -⟩ := hq64
        show am_Rn l G _ _ 67 [some (.inr (.inr 96)), some (.inl (-1)), some (.inl (s : Int))] [] mem64 _
        refine rn_aload_n (x := 95) (q := 68) dX9_fills_67 rfl rfl ?_
        refine rn_get (a := 95) (v := .inl (aL X h sn sg e s)) (q := 71) dX9_fills_68 fl_X9_252 rfl (am_gi hl64) rfl ?_
        refine rn_ifne (t := 76) (q := 74) dX9_fills_71 rfl rfl (fun w71 => ?_) (fun w71 => ?_)
        · refine rn_iincN (x := (s : Int)) (z := ((s + 1 : Nat) : Int)) (ls' := [some (.inr (.inr 96)), some (.inl (-1)), some (.inl ((s + 1 : Nat) : Int))]) (q := 79) dX9_fills_76 rfl (by decide) (by omega) (by unfold am_ok; omega) rfl rfl ?_
          refine rn_goto (t := 9) dX9_fills_79 rfl ?_
          first | exact ih hin _ _ (hf.tr (hf47.tr ((fr_arr (Or.inl rfl) hg56).tr hf64))) (by rw [fil, ← hx, if_pos ⟨Or.inl rfl, by assumption⟩]) | exact ih hin _ _ (hf.tr (hf47.tr ((fr_arr (Or.inl rfl) hg56).tr hf64))) (by rw [fil, ← hx, if_neg (fun w => by have := w.2; omega)])
        · refine rn_iload_n (x := (s : Int)) (q := 75) dX9_fills_74 rfl rfl ?_
          refine rn_istore_n (ls' := [some (.inr (.inr 96)), some (.inl (s : Int)), some (.inl (s : Int))]) (q := 76) dX9_fills_75 (by decide) rfl rfl ?_
          refine rn_iincN (x := (s : Int)) (z := ((s + 1 : Nat) : Int)) (ls' := [some (.inr (.inr 96)), some (.inl (s : Int)), some (.inl ((s + 1 : Nat) : Int))]) (q := 79) dX9_fills_76 rfl (by decide) (by omega) (by unfold am_ok; omega) rfl rfl ?_
          refine rn_goto (t := 9) dX9_fills_79 rfl ?_
          first | exact ih hin _ _ (hf.tr (hf47.tr ((fr_arr (Or.inl rfl) hg56).tr hf64))) (by rw [fil, ← hx, if_pos ⟨Or.inl rfl, by assumption⟩]) | exact ih hin _ _ (hf.tr (hf47.tr ((fr_arr (Or.inl rfl) hg56).tr hf64))) (by rw [fil, ← hx, if_neg (fun w => by have := w.2; omega)])
      · obtain ⟨xN, rfl⟩ : ∃ y : Nat, x = (y : Int) := ⟨x.toNat, by omega⟩
        refine rn_iload_n (x := (s : Int)) (q := 10) dX9_fills_9 rfl rfl ?_
        refine rn_iconst (q := 11) dX9_fills_10 (am_okd rfl) rfl ?_
        refine rn_aload_n (x := 95) (q := 12) dX9_fills_11 rfl rfl ?_
        refine rn_get (a := 95) (v := .inl (h.1 : Int)) (q := 15) dX9_fills_12 fl_X9_113 rfl (am_gi (q.kept hf.r9).n) rfl ?_
        refine rn_ishl (q := 16) dX9_fills_15 rfl ?_
        rw [show am_shl 1 (h.1 : Int) = ((2 ^ h.1 : Nat) : Int) from am_shl1 _ (by omega)]
        refine rn_cmpge (t := 82) (q := 19) dX9_fills_16 rfl rfl (fun h => absurd h (by omega)) (fun w16 => ?_)
        refine rn_iload_n (x := (xN : Int)) (q := 20) dX9_fills_19 rfl rfl ?_
        refine rn_iconst (q := 21) dX9_fills_20 (am_okd rfl) rfl ?_
        refine rn_cmpeq (t := 38) (q := 24) dX9_fills_21 rfl rfl (fun h => absurd h (by omega)) (fun w21 => ?_)
        refine rn_iload_n (x := (s : Int)) (q := 25) dX9_fills_24 rfl rfl ?_
        refine rn_callS (as := [.inl (s : Int)]) (rest := []) (q := 28) dX9_fills_25 ml_X9_220 sm_J6_bitCount_0f7a4 (by omega) rfl rfl (Nat.le_of_ble_eq_true rfl) rfl (s_bitCount (d := d + 177) s (by omega)) ?_
        intro r25 mem25 hq25
        obtain ⟨rfl, rfl⟩ := hq25
        show am_Rn l G _ _ 28 [some (.inr (.inr 96)), some (.inl (xN : Int)), some (.inl (s : Int))] [.inl (pc s : Int)] m _
        refine rn_iload_n (x := (xN : Int)) (q := 29) dX9_fills_28 rfl rfl ?_
        refine rn_callS (as := [.inl (xN : Int)]) (rest := [.inl (pc s : Int)]) (q := 32) dX9_fills_29 ml_X9_220 sm_J6_bitCount_0f7a4 (by omega) rfl rfl (Nat.le_of_ble_eq_true rfl) rfl (s_bitCount (d := d + 177) xN (by omega)) ?_
        intro r29 mem29 hq29
        obtain ⟨rfl, rfl⟩ := hq29
        show am_Rn l G _ _ 32 [some (.inr (.inr 96)), some (.inl (xN : Int)), some (.inl (s : Int))] [.inl (pc xN : Int), .inl (pc s : Int)] m _
        refine rn_cmplt (t := 38) (q := 35) dX9_fills_32 rfl rfl (fun w32 => ?_) (fun w32 => ?_)
        · refine rn_aload_n (x := 95) (q := 39) dX9_fills_38 rfl rfl ?_
          refine rn_get (a := 95) (v := .inr (.inr 97)) (q := 42) dX9_fills_39 fl_X9_9 rfl rfl rfl ?_
          refine rn_aload_n (x := 95) (q := 43) dX9_fills_42 rfl rfl ?_
          refine rn_get (a := 95) (v := .inr (.inr 110)) (q := 46) dX9_fills_43 fl_X9_55 rfl rfl rfl ?_
          refine rn_iconst (q := 47) dX9_fills_46 (am_okd rfl) rfl ?_
          refine rn_callS (as := [.inr (.inr 97), .inr (.inr 110), .inl 0]) (rest := []) (q := 50) dX9_fills_47 ml_X9_248 sm_X9_lay (by omega) rfl rfl (Nat.le_of_ble_eq_true rfl) rfl (m_layA (d := d + 177) (q.kept hf.r9) (Or.inl rfl)) ?_
          intro r47 mem47 hq47
          obtain ⟨rfl, he47, hf47⟩ := hq47
          show am_Rn l G _ _ 50 [some (.inr (.inr 96)), some (.inl (xN : Int)), some (.inl (s : Int))] [] mem47 _
          refine rn_aload_n (x := 95) (q := 51) dX9_fills_50 rfl rfl ?_
          refine rn_aload_n (x := 95) (q := 52) dX9_fills_51 rfl rfl ?_
          refine rn_get (a := 95) (v := .inr (.inr 110)) (q := 55) dX9_fills_52 fl_X9_55 rfl rfl rfl ?_
          refine rn_iload_n (x := (s : Int)) (q := 56) dX9_fills_55 rfl rfl ?_
          refine rn_callV (b := 95) (as := [.inr (.inr 110), .inl (s : Int)]) (rest := []) (q := 59) dX9_fills_56 ml_X9_303 sm_X9_admit rfl rfl (by decide) (by omega) rfl rfl (Nat.le_of_ble_eq_true rfl) rfl (m_admit (d := d + 177) (q.kept (hf.r9.tr (hf47.r9))) (arr := 109) (Or.inl rfl) (by omega) he47 s hin) ?_
          intro r56 mem56 hq56
          obtain ⟨rfl, he56, hg56⟩ := hq56
          show am_Rn l G _ _ 59 [some (.inr (.inr 96)), some (.inl (xN : Int)), some (.inl (s : Int))] [] mem56 _
          refine rn_aload_n (x := 95) (q := 60) dX9_fills_59 rfl rfl ?_
          refine rn_aload_n (x := 95) (q := 61) dX9_fills_60 rfl rfl ?_
          refine rn_get (a := 95) (v := .inr (.inr 110)) (q := 64) dX9_fills_61 fl_X9_55 rfl rfl rfl ?_
          refine rn_callV (b := 95) (as := [.inr (.inr 110)]) (rest := []) (q := 67) dX9_fills_64 ml_X9_258 sm_X9_part rfl rfl (by decide) (by omega) rfl rfl (Nat.le_of_ble_eq_true rfl) rfl (m_partA (d := d + 0) (e2 := onE e s) (q.kept ((hf.r9.tr (hf47.r9)).tr ((fr_arr (Or.inl rfl) hg56).r9))) (Or.inr (Or.inl rfl)) (k := 0) (by omega) (onE_ok hin q.eo) he56) ?_
          intro r64 mem64 hq64
          obtain ⟨rfl, hf64, -, -, hl64, -, -, -⟩ := hq64
          show am_Rn l G _ _ 67 [some (.inr (.inr 96)), some (.inl (xN : Int)), some (.inl (s : Int))] [] mem64 _
          refine rn_aload_n (x := 95) (q := 68) dX9_fills_67 rfl rfl ?_
          refine rn_get (a := 95) (v := .inl (aL X h sn sg e s)) (q := 71) dX9_fills_68 fl_X9_252 rfl (am_gi hl64) rfl ?_
          refine rn_ifne (t := 76) (q := 74) dX9_fills_71 rfl rfl (fun w71 => ?_) (fun w71 => ?_)
          · refine rn_iincN (x := (s : Int)) (z := ((s + 1 : Nat) : Int)) (ls' := [some (.inr (.inr 96)), some (.inl (xN : Int)), some (.inl ((s + 1 : Nat) : Int))]) (q := 79) dX9_fills_76 rfl (by decide) (by omega) (by unfold am_ok; omega) rfl rfl ?_
            refine rn_goto (t := 9) dX9_fills_79 rfl ?_
            first | exact ih hin _ _ (hf.tr (hf47.tr ((fr_arr (Or.inl rfl) hg56).tr hf64))) (by rw [fil, ← hx, Int.toNat_natCast, if_pos ⟨Or.inr (by omega), by assumption⟩]) | exact ih hin _ _ (hf.tr (hf47.tr ((fr_arr (Or.inl rfl) hg56).tr hf64))) (by rw [fil, ← hx, Int.toNat_natCast, if_neg (fun w => by have := w.2; omega)]) | exact ih hin _ _ hf (by rw [fil, ← hx, Int.toNat_natCast, if_neg (fun w => by have := w.1; omega)])
          · refine rn_iload_n (x := (s : Int)) (q := 75) dX9_fills_74 rfl rfl ?_
            refine rn_istore_n (ls' := [some (.inr (.inr 96)), some (.inl (s : Int)), some (.inl (s : Int))]) (q := 76) dX9_fills_75 (by decide) rfl rfl ?_
            refine rn_iincN (x := (s : Int)) (z := ((s + 1 : Nat) : Int)) (ls' := [some (.inr (.inr 96)), some (.inl (s : Int)), some (.inl ((s + 1 : Nat) : Int))]) (q := 79) dX9_fills_76 rfl (by decide) (by omega) (by unfold am_ok; omega) rfl rfl ?_
            refine rn_goto (t := 9) dX9_fills_79 rfl ?_
            first | exact ih hin _ _ (hf.tr (hf47.tr ((fr_arr (Or.inl rfl) hg56).tr hf64))) (by rw [fil, ← hx, Int.toNat_natCast, if_pos ⟨Or.inr (by omega), by assumption⟩]) | exact ih hin _ _ (hf.tr (hf47.tr ((fr_arr (Or.inl rfl) hg56).tr hf64))) (by rw [fil, ← hx, Int.toNat_natCast, if_neg (fun w => by have := w.2; omega)]) | exact ih hin _ _ hf (by rw [fil, ← hx, Int.toNat_natCast, if_neg (fun w => by have := w.1; omega)])
        · refine rn_goto (t := 76) dX9_fills_35 rfl ?_
          refine rn_iincN (x := (s : Int)) (z := ((s + 1 : Nat) : Int)) (ls' := [some (.inr (.inr 96)), some (.inl (xN : Int)), some (.inl ((s + 1 : Nat) : Int))]) (q := 79) dX9_fills_76 rfl (by decide) (by omega) (by unfold am_ok; omega) rfl rfl ?_
          refine rn_goto (t := 9) dX9_fills_79 rfl ?_
          first | exact ih hin _ _ (hf.tr (hf47.tr ((fr_arr (Or.inl rfl) hg56).tr hf64))) (by rw [fil, ← hx, Int.toNat_natCast, if_pos ⟨Or.inr (by omega), by assumption⟩]) | exact ih hin _ _ (hf.tr (hf47.tr ((fr_arr (Or.inl rfl) hg56).tr hf64))) (by rw [fil, ← hx, Int.toNat_natCast, if_neg (fun w => by have := w.2; omega)]) | exact ih hin _ _ hf (by rw [fil, ← hx, Int.toNat_natCast, if_neg (fun w => by have := w.1; omega)])
    · obtain rfl : s = 2 ^ h.1 := by omega
      by_cases hx1 : x = -1
      · subst hx1
        refine rn_iload_n (x := ((2 ^ h.1 : Nat) : Int)) (q := 10) dX9_fills_9 rfl rfl ?_
        refine rn_iconst (q := 11) dX9_fills_10 (am_okd rfl) rfl ?_
        refine rn_aload_n (x := 95) (q := 12) dX9_fills_11 rfl rfl ?_
        refine rn_get (a := 95) (v := .inl (h.1 : Int)) (q := 15) dX9_fills_12 fl_X9_113 rfl (am_gi (q.kept hf.r9).n) rfl ?_
        refine rn_ishl (q := 16) dX9_fills_15 rfl ?_
        rw [show am_shl 1 (h.1 : Int) = ((2 ^ h.1 : Nat) : Int) from am_shl1 _ (by omega)]
        refine rn_cmpge (t := 82) (q := 19) dX9_fills_16 rfl rfl (fun w16 => ?_) (fun h => absurd h (by omega))
        refine rn_iload_n (x := (-1)) (q := 83) dX9_fills_82 rfl rfl ?_
        refine rn_iconst (q := 84) dX9_fills_83 (am_okd rfl) rfl ?_
        refine rn_cmpne (t := 90) (q := 87) dX9_fills_84 rfl rfl (fun h => absurd h (by decide)) (fun w84 => ?_)
        refine rn_bipush (q := 89) dX9_fills_87 ⟨by decide, by decide⟩ rfl ?_
        refine rn_iret dX9_fills_89 rfl ?_
        exact hQ _ _ (by rw [← hx]; exact ⟨rfl, hf.r9, hR.kept hf⟩)
      · obtain ⟨xN, rfl⟩ : ∃ y : Nat, x = (y : Int) := ⟨x.toNat, by omega⟩
        refine rn_iload_n (x := ((2 ^ h.1 : Nat) : Int)) (q := 10) dX9_fills_9 rfl rfl ?_
        refine rn_iconst (q := 11) dX9_fills_10 (am_okd rfl) rfl ?_
        refine rn_aload_n (x := 95) (q := 12) dX9_fills_11 rfl rfl ?_
        refine rn_get (a := 95) (v := .inl (h.1 : Int)) (q := 15) dX9_fills_12 fl_X9_113 rfl (am_gi (q.kept hf.r9).n) rfl ?_
        refine rn_ishl (q := 16) dX9_fills_15 rfl ?_
        rw [show am_shl 1 (h.1 : Int) = ((2 ^ h.1 : Nat) : Int) from am_shl1 _ (by omega)]
        refine rn_cmpge (t := 82) (q := 19) dX9_fills_16 rfl rfl (fun w16 => ?_) (fun h => absurd h (by omega))
        refine rn_iload_n (x := (xN : Int)) (q := 83) dX9_fills_82 rfl rfl ?_
        refine rn_iconst (q := 84) dX9_fills_83 (am_okd rfl) rfl ?_
        refine rn_cmpne (t := 90) (q := 87) dX9_fills_84 rfl rfl (fun w84 => ?_) (fun h => absurd h (by omega))
        refine rn_aload_n (x := 95) (q := 91) dX9_fills_90 rfl rfl ?_
        refine rn_iconst (q := 92) dX9_fills_91 (am_okd rfl) rfl ?_
        refine rn_puti (a := 95) (q := 95) dX9_fills_92 fl_X9_110 rfl rfl rfl rfl ?_
        refine rn_aload_n (x := 95) (q := 96) dX9_fills_95 rfl rfl ?_
        refine rn_iload_n (x := (xN : Int)) (q := 97) dX9_fills_96 rfl rfl ?_
        refine rn_i2l (q := 98) dX9_fills_97 rfl ?_
        refine rn_callV (b := 95) (as := [.inr (.inl (xN : Int))]) (rest := []) (q := 101) dX9_fills_98 ml_X9_275 sm_X9_tell rfl rfl (by decide) (by omega) rfl rfl (Nat.le_of_ble_eq_true rfl) rfl (m_tell (d := d + 177) m_row0 (by first | decide | simp | omega) (xN : Int)) ?_
        intro r98 mem98 hq98
        obtain ⟨rfl, hr98, hf98⟩ := hq98
        show am_Rn l G _ _ 101 [some (.inr (.inr 96)), some (.inl (xN : Int)), some (.inl ((2 ^ h.1 : Nat) : Int))] [] mem98 _
        refine rn_iload_n (x := (xN : Int)) (q := 102) dX9_fills_101 rfl rfl ?_
        refine rn_callS (as := [.inl (xN : Int)]) (rest := []) (q := 105) dX9_fills_102 ml_X9_220 sm_J6_bitCount_0f7a4 (by omega) rfl rfl (Nat.le_of_ble_eq_true rfl) rfl (s_bitCount (d := d + 177) xN (by omega)) ?_
        intro r102 mem102 hq102
        obtain ⟨rfl, rfl⟩ := hq102
        show am_Rn l G _ _ 105 [some (.inr (.inr 96)), some (.inl (xN : Int)), some (.inl ((2 ^ h.1 : Nat) : Int))] [.inl (pc xN : Int)] mem98 _
        refine rn_iret dX9_fills_105 rfl ?_
        exact hQ _ _ (by rw [← hx]; unfold filA filR; rw [if_neg hx1, if_neg hx1]; exact ⟨rfl, ((frS.up (a := 95) (k := 10) (x := 0) hf.r9 rfl).tr hf98), hr98⟩)
  refine rn_aload_n (x := 95) (q := 1) dX9_fills_0 rfl rfl ?_
  refine rn_iconst (q := 2) dX9_fills_1 (am_okd rfl) rfl ?_
  refine rn_puti (a := 95) (q := 5) dX9_fills_2 fl_X9_107 rfl rfl rfl rfl ?_
  refine rn_iconst (q := 6) dX9_fills_5 (am_okd rfl) rfl ?_
  refine rn_istore_n (ls' := [some (.inr (.inr 96)), some (.inl (-1)), none]) (q := 7) dX9_fills_6 (by decide) rfl rfl ?_
  refine rn_iconst (q := 8) dX9_fills_7 (am_okd rfl) rfl ?_
  refine rn_istore_n (ls' := [some (.inr (.inr 96)), some (.inl (-1)), some (.inl 0)]) (q := 9) dX9_fills_8 (by decide) rfl rfl ?_
  exact L 0 (Nat.zero_le _) _ _ (frS.rf.up rfl) rfl
end P73
