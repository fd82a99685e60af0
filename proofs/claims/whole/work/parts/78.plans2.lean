/-! plans of both -/
def tab2 (X : List Nat) (h : hrs) (sn : Nat) (sg : Nat → Nat) (e : est) (m : am_M) : Prop := m 75 4 = (sg ((eN e + 1) % sn) : Int) ∧ ∀ i mo pr, i < h.1 → mo ≤ sg (eN e % sn) → 1 ≤ pr → pr ≤ h.1 → m 78 ((i * 10 + mo) * 9 + pr) = mayV X h (sg ((eN e + 1) % sn)) i (min 99 (eH e i + mo)) (eN e + 1) pr
def tab1 (X : List Nat) (h : hrs) (sn : Nat) (sg : Nat → Nat) (e : est) (m : am_M) : Prop := m 71 4 = wE sn sg e ∧ ∀ i pr, i < h.1 → 1 ≤ pr → pr ≤ h.1 → m 74 ((i * 1 + 0) * 9 + pr) = mayV X h (sg (eN e % sn)) i (min 99 (eH e i + 0)) (eN e) pr
theorem n2_may {X : List Nat} {h : hrs} {sn : Nat} {sg : Nat → Nat} {e : est} {o t i : Nat} (hi : i < h.1) (h9 : 0 ≤ pP (mvK X h sn sg e o) o (wE sn sg e) i) : mvE X h sn sg (n2E X h sn sg e o t) i = mayV X h (sg ((eN e + 1) % sn)) i (min 99 (eH e i + (pP (mvK X h sn sg e o) o (wE sn sg e) i).toNat)) (eN e + 1) (pc t) := by
  show mayV X h (sg ((eN e + 1) % sn)) i (if i < h.1 then (min 99 ((eH e i : Int) + pP (mvK X h sn sg e o) o (wE sn sg e) i)).toNat else eH e i) (eN e + 1) (pc t) = _
  rw [if_pos hi, show (min 99 ((eH e i : Int) + pP (mvK X h sn sg e o) o (wE sn sg e) i)).toNat = min 99 (eH e i + (pP (mvK X h sn sg e o) o (wE sn sg e) i).toNat) by omega]
section P78
variable {l : Launch} {G : am_G} {d : Nat} {r : Nat} {X : List Nat} {C : List Int} {sn : Nat} {sg : Nat → Nat} {h : hrs} {e : est} {NB : Nat} {mem m : am_M}
theorem c_bestSecond (q : CQ r X C sn sg h e NB mem) {R : List Int} (o : Nat) (ho : o < 2 ^ h.1) (k : Int) (hk : 0 ≤ k ∧ k ≤ 18) {s : plT} (hs : plG s) (hr : c_row (plR R s) mem) (hT : tab2 X h sn sg e mem) (hp : ∀ i, i < h.1 → mem 73 i = pP (mvK X h sn sg e o) o (wE sn sg e) i) (h5 : mem 71 5 = aD X h sn sg e o) (h6 : mem 71 6 = aL X h sn sg e o) : am_Sm l G yX8_bestSecond mt_X8_bestSecond (d + 2) [.inr (.inr 1), .inl (o : Int), .inl k, .inl (plA s)] mem (fun q m => q = some (.inl (plA (plI (plD X h sn sg e) (plL X h sn sg e) k o s (2 ^ h.1)))) ∧ c_row (plR R (plI (plD X h sn sg e) (plL X h sn sg e) k o s (2 ^ h.1))) m ∧ frS s8r mem m ∧ (∀ b k2, (b == 3) = false → (b == 4) = false → (b == 75) = false → (b == 76) = false → (b == 77) = false → m b k2 = mem b k2) ∧ m 75 4 = mem 75 4) := by
  refine am_enterQ (ls := [some (.inr (.inr 1)), some (.inl (o : Int)), some (.inl k), some (.inl (plA s)), none, none]) (by decide) rfl (Nat.le_of_ble_eq_true rfl) rfl (fun hok Q hQ => ?_)
  have b := q.bd
  have hw := wE_ok (sn := sn) (e := e) q.sng.2.2.2.1
  have hmn := mvK_nn (X := X) (h := h) (sn := sn) (sg := sg) (e := e) (mk := o)
  have hp9 := pP_ok (mk := o) hmn hw
  have hD := plD_ok (X := X) (sn := sn) (e := e) q.sng.2.2.2.1 q.hs.1
  have oD := aD_ok (X := X) (sn := sn) (e := e) q.sng.2.2.2.1 q.hs.1 o
  have oL := aL_ok (X := X) (h := h) (sn := sn) (e := e) q.sng.2.2.2.1 o
  have hpw : ∀ i, pP (mvK X h sn sg e o) o (wE sn sg e) i ≤ wE sn sg e := by
    intro i
    have h1 := (pH_pL (mk := o) hmn hw i).2
    have h2 := pL_ok (mk := o) hmn hw i
    unfold pP
    split <;> omega
  have hw1 : wE sn sg e = (sg (eN e % sn) : Int) := rfl
  have L : ∀ t : Nat, t ≤ 2 ^ h.1 → ∀ (m : am_M) (x : Int), frS s8r mem m → (∀ b k2, (b == 3) = false → (b == 4) = false → (b == 75) = false → (b == 76) = false → (b == 77) = false → m b k2 = mem b k2) → m 75 4 = mem 75 4 → (∀ i, i < h.1 → m 76 i = pP (mvK X h sn sg e o) o (wE sn sg e) i) → x = plA (plI (plD X h sn sg e) (plL X h sn sg e) k o s t) → c_row (plR R (plI (plD X h sn sg e) (plL X h sn sg e) k o s t)) m → am_Rn l G mt_X8_bestSecond (d + 2) 21 [some (.inr (.inr 1)), some (.inl (o : Int)), some (.inl k), some (.inl (plA s)), some (.inl x), some (.inl (t : Int))] [] m Q := by
    refine am_dn (2 ^ h.1) (fun t ht ih m x hf hg h75 h76 hx hr => ?_)
    have hG := plI_ok (L := plL X h sn sg e) (k := k) (o := o) hD hs t
    have hDt := hD o t
    have hw2 := wE_ok (sn := sn) (e := n2E X h sn sg e o t) q.sng.2.2.2.1
    have hmn2 := mvE_nn (X := X) (h := h) (sn := sn) (sg := sg) (e := n2E X h sn sg e o t)
    have o2 := pL_ok (mk := t) hmn2 hw2 h.1
    have o3 := pD_ok (mk := t) hmn2 hw2 q.hs.1.2.2.2 h.1
    have ex : (plI (plD X h sn sg e) (plL X h sn sg e) k o s t = (-1, -1, -1) ∧ x = -2 ∧ (plI (plD X h sn sg e) (plL X h sn sg e) k o s t).1 = -1) ∨ (x = (plI (plD X h sn sg e) (plL X h sn sg e) k o s t).1 ∧ 0 ≤ x ∧ x ≤ 1400) := by
      rcases hG with hG | hG
      · left; rw [hG] at hx ⊢; exact ⟨rfl, hx, rfl⟩
      · right; unfold plA at hx; rw [if_neg (by omega)] at hx; omega
    have fin : ∀ (m2 : am_M) (x2 : Int), t < 2 ^ h.1 → frS s8r mem m2 → (∀ b k2, (b == 3) = false → (b == 4) = false → (b == 75) = false → (b == 76) = false → (b == 77) = false → m2 b k2 = mem b k2) → m2 75 4 = mem 75 4 → (∀ i, i < h.1 → m2 76 i = pP (mvK X h sn sg e o) o (wE sn sg e) i) → (¬ (k ≤ plL X h sn sg e o t ∧ (plI (plD X h sn sg e) (plL X h sn sg e) k o s t).1 < plD X h sn sg e o t) ∧ x2 = x ∧ c_row (plR R (plI (plD X h sn sg e) (plL X h sn sg e) k o s t)) m2 ∨ (k ≤ plL X h sn sg e o t ∧ (plI (plD X h sn sg e) (plL X h sn sg e) k o s t).1 < plD X h sn sg e o t) ∧ x2 = plD X h sn sg e o t ∧ c_row [(o : Int), (t : Int)] m2) → am_Rn l G mt_X8_bestSecond (d + 2) 21 [some (.inr (.inr 1)), some (.inl (o : Int)), some (.inl k), some (.inl (plA s)), some (.inl x2), some (.inl ((t + 1 : Nat) : Int))] [] m2 Q := by
      intro m2 x2 hlt f1 f2 f3 f4 hres
      rcases hres with ⟨c1, c2, c3⟩ | ⟨c1, c2, c3⟩
      · have e1 : plI (plD X h sn sg e) (plL X h sn sg e) k o s (t + 1) = plI (plD X h sn sg e) (plL X h sn sg e) k o s t := if_neg c1
        exact ih hlt m2 x2 f1 f2 f3 f4 (by rw [e1, c2]; exact hx) (by rw [e1]; exact c3)
      · have e1 : plI (plD X h sn sg e) (plL X h sn sg e) k o s (t + 1) = (plD X h sn sg e o t, (o : Int), (t : Int)) := if_pos c1
        exact ih hlt m2 x2 f1 f2 f3 f4 (by rw [e1, c2]; unfold plA; rw [if_neg (by show ¬ (o : Int) = -1; omega)]) (by rw [e1]; unfold plR; rw [if_neg (by show ¬ (o : Int) = -1; omega)]; exact c3)
    refine rn_iload (x := (t : Int)) (q := 23) dX8_bestSecond_21 rfl rfl ?_
    refine rn_iconst (q := 24) dX8_bestSecond_23 (am_okd rfl) rfl ?_
    refine rn_aload_n (x := 0) (q := 25) dX8_bestSecond_24 rfl rfl ?_
    refine rn_get (a := 0) (v := .inr (.inr 6)) (q := 28) dX8_bestSecond_25 fl_X8_26 rfl rfl rfl ?_
    refine rn_get (a := 5) (v := .inl (h.1 : Int)) (q := 31) dX8_bestSecond_28 fl_X8_136 rfl (am_gi (q.kept hf).n) rfl ?_
    refine rn_ishl (q := 32) dX8_bestSecond_31 rfl ?_
    rw [show am_shl 1 (h.1 : Int) = ((2 ^ h.1 : Nat) : Int) from am_shl1 _ (by omega)]
    refine rn_cmpge (t := 122) (q := 35) dX8_bestSecond_32 rfl rfl (fun w32 => ?_) (fun w32 => ?_)
    · refine rn_iload (x := x) (q := 124) dX8_bestSecond_122 rfl rfl ?_
      refine rn_iret dX8_bestSecond_124 rfl ?_
      have et : t = 2 ^ h.1 := by omega
      exact hQ _ _ (by rw [← et]; exact ⟨by rw [hx], hr, hf, hg, h75⟩)
    · refine rn_aload_n (x := 0) (q := 36) dX8_bestSecond_35 rfl rfl ?_
      refine rn_get (a := 0) (v := .inr (.inr 76)) (q := 39) dX8_bestSecond_36 fl_X8_77 rfl rfl rfl ?_
      refine rn_aload_n (x := 0) (q := 40) dX8_bestSecond_39 rfl rfl ?_
      refine rn_get (a := 0) (v := .inr (.inr 6)) (q := 43) dX8_bestSecond_40 fl_X8_26 rfl rfl rfl ?_
      refine rn_iload (x := (t : Int)) (q := 45) dX8_bestSecond_43 rfl rfl ?_
      refine rn_callV (b := 75) (as := [.inr (.inr 6), .inl (t : Int)]) (rest := []) (q := 48) dX8_bestSecond_45 ml_X8_306 sm_X1_share rfl rfl (by decide) (by omega) rfl rfl (Nat.le_of_ble_eq_true rfl) rfl (c_share75 (d := d + 0) (q.kept hf) t (by omega) (mo := fun i => (pP (mvK X h sn sg e o) o (wE sn sg e) i).toNat) (fun i hi => ⟨(h76 i hi).trans (by have := (hp9 i).1; omega), by have := hp9 i; show (pP (mvK X h sn sg e o) o (wE sn sg e) i).toNat < 10; omega⟩) (mv := mvE X h sn sg (n2E X h sn sg e o t)) (fun i hi hb => by rw [hg 78 _ rfl rfl rfl rfl rfl, hT.2 i _ (pc t) hi (by have := hpw i; have := (hp9 i).1; omega) (pc_pos t (by omega) i hb) (pc_n t h.1 (by omega) (by omega)), n2_may hi (hp9 i).1]) hmn2 (w := wE sn sg (n2E X h sn sg e o t)) (h75.trans hT.1) hw2) ?_
      intro r45 mem45 hq45
      obtain ⟨rfl, hp45, hd45, hl45, h445, hf45, hg45⟩ := hq45
      show am_Rn l G _ _ 48 [some (.inr (.inr 1)), some (.inl (o : Int)), some (.inl k), some (.inl (plA s)), some (.inl x), some (.inl (t : Int))] [] mem45 _
      refine rn_aload_n (x := 0) (q := 49) dX8_bestSecond_48 rfl rfl ?_
      refine rn_get (a := 0) (v := .inr (.inr 72)) (q := 52) dX8_bestSecond_49 fl_X8_73 rfl rfl rfl ?_
      refine rn_get (a := 71) (v := .inl (aL X h sn sg e o)) (q := 55) dX8_bestSecond_52 fl_X8_310 rfl (am_gi ((hg45 71 6 rfl rfl).trans ((hg 71 6 rfl rfl rfl rfl rfl).trans h6))) rfl ?_
      refine rn_aload_n (x := 0) (q := 56) dX8_bestSecond_55 rfl rfl ?_
      refine rn_get (a := 0) (v := .inr (.inr 76)) (q := 59) dX8_bestSecond_56 fl_X8_77 rfl rfl rfl ?_
      refine rn_get (a := 75) (v := .inl (pL (mvE X h sn sg (n2E X h sn sg e o t)) t (wE sn sg (n2E X h sn sg e o t)) h.1)) (q := 62) dX8_bestSecond_59 fl_X8_310 rfl (am_gi hl45) rfl ?_
      refine rn_iaddN (z := plL X h sn sg e o t) (q := 63) dX8_bestSecond_62 rfl (by unfold am_ok; omega) rfl ?_
      refine rn_iload_n (x := k) (q := 64) dX8_bestSecond_63 rfl rfl ?_
      refine rn_cmplt (t := 116) (q := 67) dX8_bestSecond_64 rfl rfl (fun w64 => ?_) (fun w64 => ?_)
      · refine rn_iincN (x := (t : Int)) (z := ((t + 1 : Nat) : Int)) (ls' := [some (.inr (.inr 1)), some (.inl (o : Int)), some (.inl k), some (.inl (plA s)), some (.inl x), some (.inl ((t + 1 : Nat) : Int))]) (q := 119) dX8_bestSecond_116 rfl (by decide) (by omega) (by unfold am_ok; omega) rfl rfl ?_
        refine rn_goto (t := 21) dX8_bestSecond_119 rfl ?_
        have hs8 : ∀ b2 k2, (b2 == 3) = false → (b2 == 4) = false → (b2 == 75) = false → (b2 == 76) = false → (b2 == 77) = false → mem45 b2 k2 = mem b2 k2 := fun b2 k2 a1 a2 a3 a4 a5 => (hg45 b2 k2 a3 a5).trans (hg b2 k2 a1 a2 a3 a4 a5)
        have h754 : mem45 75 4 = mem 75 4 := h445.trans hT.1.symm
        have h76b : ∀ i, i < h.1 → mem45 76 i = pP (mvK X h sn sg e o) o (wE sn sg e) i := fun i hi => (hg45 76 i rfl rfl).trans (h76 i hi)
        first | exact fin _ _ (by omega) (hf.tr (hf45.r8)) (fun b2 k2 a1 a2 a3 a4 a5 => (congrFun (hf113 b2 (by simpa using a1) (by simpa using a2)) k2).trans (hs8 b2 k2 a1 a2 a3 a4 a5)) ((congrFun (hf113 75 (by decide) (by decide)) 4).trans h754) (fun i hi => (congrFun (hf113 76 (by decide) (by decide)) i).trans (h76b i hi)) (Or.inr ⟨⟨by omega, by omega⟩, rfl, hr113⟩) | exact fin _ _ (by omega) (hf.tr (hf45.r8)) hs8 h754 h76b (Or.inl ⟨fun w => by have := w.1; have := w.2; omega, rfl, hr.kept hf45⟩)
      · refine rn_aload_n (x := 0) (q := 68) dX8_bestSecond_67 rfl rfl ?_
        refine rn_get (a := 0) (v := .inr (.inr 72)) (q := 71) dX8_bestSecond_68 fl_X8_73 rfl rfl rfl ?_
        refine rn_get (a := 71) (v := .inl (aD X h sn sg e o)) (q := 74) dX8_bestSecond_71 fl_X8_311 rfl (am_gi ((hg45 71 5 rfl rfl).trans ((hg 71 5 rfl rfl rfl rfl rfl).trans h5))) rfl ?_
        refine rn_aload_n (x := 0) (q := 75) dX8_bestSecond_74 rfl rfl ?_
        refine rn_get (a := 0) (v := .inr (.inr 76)) (q := 78) dX8_bestSecond_75 fl_X8_77 rfl rfl rfl ?_
        refine rn_get (a := 75) (v := .inl (pD (mvE X h sn sg (n2E X h sn sg e o t)) t (wE sn sg (n2E X h sn sg e o t)) h.2.2.2 h.1)) (q := 81) dX8_bestSecond_78 fl_X8_311 rfl (am_gi hd45) rfl ?_
        refine rn_iaddN (z := plD X h sn sg e o t) (q := 82) dX8_bestSecond_81 rfl (by unfold am_ok; omega) rfl ?_
        refine rn_iload (x := x) (q := 84) dX8_bestSecond_82 rfl rfl ?_
        refine rn_cmple (t := 116) (q := 87) dX8_bestSecond_84 rfl rfl (fun w84 => ?_) (fun w84 => ?_)
        · refine rn_iincN (x := (t : Int)) (z := ((t + 1 : Nat) : Int)) (ls' := [some (.inr (.inr 1)), some (.inl (o : Int)), some (.inl k), some (.inl (plA s)), some (.inl x), some (.inl ((t + 1 : Nat) : Int))]) (q := 119) dX8_bestSecond_116 rfl (by decide) (by omega) (by unfold am_ok; omega) rfl rfl ?_
          refine rn_goto (t := 21) dX8_bestSecond_119 rfl ?_
          have hs8 : ∀ b2 k2, (b2 == 3) = false → (b2 == 4) = false → (b2 == 75) = false → (b2 == 76) = false → (b2 == 77) = false → mem45 b2 k2 = mem b2 k2 := fun b2 k2 a1 a2 a3 a4 a5 => (hg45 b2 k2 a3 a5).trans (hg b2 k2 a1 a2 a3 a4 a5)
          have h754 : mem45 75 4 = mem 75 4 := h445.trans hT.1.symm
          have h76b : ∀ i, i < h.1 → mem45 76 i = pP (mvK X h sn sg e o) o (wE sn sg e) i := fun i hi => (hg45 76 i rfl rfl).trans (h76 i hi)
          first | exact fin _ _ (by omega) (hf.tr (hf45.r8)) (fun b2 k2 a1 a2 a3 a4 a5 => (congrFun (hf113 b2 (by simpa using a1) (by simpa using a2)) k2).trans (hs8 b2 k2 a1 a2 a3 a4 a5)) ((congrFun (hf113 75 (by decide) (by decide)) 4).trans h754) (fun i hi => (congrFun (hf113 76 (by decide) (by decide)) i).trans (h76b i hi)) (Or.inr ⟨⟨by omega, by omega⟩, rfl, hr113⟩) | exact fin _ _ (by omega) (hf.tr (hf45.r8)) hs8 h754 h76b (Or.inl ⟨fun w => by have := w.1; have := w.2; omega, rfl, hr.kept hf45⟩)
        · refine rn_aload_n (x := 0) (q := 88) dX8_bestSecond_87 rfl rfl ?_
          refine rn_get (a := 0) (v := .inr (.inr 72)) (q := 91) dX8_bestSecond_88 fl_X8_73 rfl rfl rfl ?_
          refine rn_get (a := 71) (v := .inl (aD X h sn sg e o)) (q := 94) dX8_bestSecond_91 fl_X8_311 rfl (am_gi ((hg45 71 5 rfl rfl).trans ((hg 71 5 rfl rfl rfl rfl rfl).trans h5))) rfl ?_
          refine rn_aload_n (x := 0) (q := 95) dX8_bestSecond_94 rfl rfl ?_
          refine rn_get (a := 0) (v := .inr (.inr 76)) (q := 98) dX8_bestSecond_95 fl_X8_77 rfl rfl rfl ?_
          refine rn_get (a := 75) (v := .inl (pD (mvE X h sn sg (n2E X h sn sg e o t)) t (wE sn sg (n2E X h sn sg e o t)) h.2.2.2 h.1)) (q := 101) dX8_bestSecond_98 fl_X8_311 rfl (am_gi hd45) rfl ?_
          refine rn_iaddN (z := plD X h sn sg e o t) (q := 102) dX8_bestSecond_101 rfl (by unfold am_ok; omega) rfl ?_
          refine rn_istore (ls' := [some (.inr (.inr 1)), some (.inl (o : Int)), some (.inl k), some (.inl (plA s)), some (.inl (plD X h sn sg e o t)), some (.inl (t : Int))]) (q := 104) dX8_bestSecond_102 (by decide) rfl rfl ?_
          refine rn_aload_n (x := 0) (q := 105) dX8_bestSecond_104 rfl rfl ?_
          refine rn_get (a := 0) (v := .inr (.inr 4)) (q := 108) dX8_bestSecond_105 fl_X8_19 rfl rfl rfl ?_
          refine rn_iload_n (x := (o : Int)) (q := 109) dX8_bestSecond_108 rfl rfl ?_
          refine rn_i2l (q := 110) dX8_bestSecond_109 rfl ?_
          refine rn_iload (x := (t : Int)) (q := 112) dX8_bestSecond_110 rfl rfl ?_
          refine rn_i2l (q := 113) dX8_bestSecond_112 rfl ?_
          refine rn_callV (b := 3) (as := [.inr (.inl (o : Int)), .inr (.inl (t : Int))]) (rest := []) (q := 116) dX8_bestSecond_113 ml_X8_229 sm_X3_tell_ rfl rfl (by decide) (by omega) rfl rfl (Nat.le_of_ble_eq_true rfl) rfl (s_Rtell2 (d := d + 0) (o : Int) (t : Int)) ?_
          intro r113 mem113 hq113
          obtain ⟨rfl, hr113, hf113⟩ := hq113
          show am_Rn l G _ _ 116 [some (.inr (.inr 1)), some (.inl (o : Int)), some (.inl k), some (.inl (plA s)), some (.inl (plD X h sn sg e o t)), some (.inl (t : Int))] [] mem113 _
          refine rn_iincN (x := (t : Int)) (z := ((t + 1 : Nat) : Int)) (ls' := [some (.inr (.inr 1)), some (.inl (o : Int)), some (.inl k), some (.inl (plA s)), some (.inl (plD X h sn sg e o t)), some (.inl ((t + 1 : Nat) : Int))]) (q := 119) dX8_bestSecond_116 rfl (by decide) (by omega) (by unfold am_ok; omega) rfl rfl ?_
          refine rn_goto (t := 21) dX8_bestSecond_119 rfl ?_
          have hs8 : ∀ b2 k2, (b2 == 3) = false → (b2 == 4) = false → (b2 == 75) = false → (b2 == 76) = false → (b2 == 77) = false → mem45 b2 k2 = mem b2 k2 := fun b2 k2 a1 a2 a3 a4 a5 => (hg45 b2 k2 a3 a5).trans (hg b2 k2 a1 a2 a3 a4 a5)
          have h754 : mem45 75 4 = mem 75 4 := h445.trans hT.1.symm
          have h76b : ∀ i, i < h.1 → mem45 76 i = pP (mvK X h sn sg e o) o (wE sn sg e) i := fun i hi => (hg45 76 i rfl rfl).trans (h76 i hi)
          first | exact fin _ _ (by omega) ((hf.tr (hf45.r8)).tr (fr_row hf113)) (fun b2 k2 a1 a2 a3 a4 a5 => (congrFun (hf113 b2 (by simpa using a1) (by simpa using a2)) k2).trans (hs8 b2 k2 a1 a2 a3 a4 a5)) ((congrFun (hf113 75 (by decide) (by decide)) 4).trans h754) (fun i hi => (congrFun (hf113 76 (by decide) (by decide)) i).trans (h76b i hi)) (Or.inr ⟨⟨by omega, by omega⟩, rfl, hr113⟩) | exact fin _ _ (by omega) ((hf.tr (hf45.r8)).tr (fr_row hf113)) hs8 h754 h76b (Or.inl ⟨fun w => by have := w.1; have := w.2; omega, rfl, hr.kept hf45⟩)
  refine rn_aload_n (x := 0) (q := 1) dX8_bestSecond_0 rfl rfl ?_
  refine rn_get (a := 0) (v := .inr (.inr 76)) (q := 4) dX8_bestSecond_1 fl_X8_77 rfl rfl rfl ?_
  refine rn_aload_n (x := 0) (q := 5) dX8_bestSecond_4 rfl rfl ?_
  refine rn_get (a := 0) (v := .inr (.inr 6)) (q := 8) dX8_bestSecond_5 fl_X8_26 rfl rfl rfl ?_
  refine rn_aload_n (x := 0) (q := 9) dX8_bestSecond_8 rfl rfl ?_
  refine rn_get (a := 0) (v := .inr (.inr 72)) (q := 12) dX8_bestSecond_9 fl_X8_73 rfl rfl rfl ?_
  refine rn_callV (b := 75) (as := [.inr (.inr 6), .inr (.inr 72)]) (rest := []) (q := 15) dX8_bestSecond_12 ml_X8_324 sm_X1_follow rfl rfl (by decide) (by omega) rfl rfl (Nat.le_of_ble_eq_true rfl) rfl (c_follow (d := d + 1) q hp hp9) ?_
  intro r12 mem12 hq12
  obtain ⟨rfl, hj12, hg12⟩ := hq12
  show am_Rn l G _ _ 15 [some (.inr (.inr 1)), some (.inl (o : Int)), some (.inl k), some (.inl (plA s)), none, none] [] mem12 _
  refine rn_iload_n (x := (plA s)) (q := 16) dX8_bestSecond_15 rfl rfl ?_
  refine rn_istore (ls' := [some (.inr (.inr 1)), some (.inl (o : Int)), some (.inl k), some (.inl (plA s)), some (.inl (plA s)), none]) (q := 18) dX8_bestSecond_16 (by decide) rfl rfl ?_
  refine rn_iconst (q := 19) dX8_bestSecond_18 (am_okd rfl) rfl ?_
  refine rn_istore (ls' := [some (.inr (.inr 1)), some (.inl (o : Int)), some (.inl k), some (.inl (plA s)), some (.inl (plA s)), some (.inl 0)]) (q := 21) dX8_bestSecond_19 (by decide) rfl rfl ?_
  refine L 0 (Nat.zero_le _) _ _ (fun b2 k2 hb => ?_) (fun b2 k2 a1 a2 a3 a4 a5 => congrFun (hg12 b2 (by simpa using a4)) k2) (congrFun (hg12 75 (by decide)) 4) hj12 rfl ?_
  · by_cases e76 : b2 = 76
    · subst e76; cases hb
    · rw [hg12 b2 e76]
  · exact hr.kept (fun b2 k2 hb => by
      by_cases e76 : b2 = 76
      · subst e76; cases hb
      · rw [hg12 b2 e76])
theorem c_plans (q : CQ r X C sn sg h e NB mem) {R : List Int} (hR : c_row R mem) (z72 : ∀ i, i < 8 → mem 72 i = 0) (k : Int) : am_Sm l G yX8_plans mt_X8_plans (d + 5) [.inr (.inr 1), .inl k] mem (fun q m => (¬ (0 ≤ k ∧ k ≤ 18) → QC (-1) R mem q m) ∧ (0 ≤ k ∧ k ≤ 18 → QC (plA (plO (plD X h sn sg e) (plL X h sn sg e) k (2 ^ h.1) (2 ^ h.1))) (plR R (plO (plD X h sn sg e) (plL X h sn sg e) k (2 ^ h.1) (2 ^ h.1))) mem q m)) := by
  refine am_enterQ (ls := [some (.inr (.inr 1)), some (.inl k), none, none, none, none]) (by decide) rfl (Nat.le_of_ble_eq_true rfl) rfl (fun hok Q hQ => ?_)
  have b := q.bd
  have hw := wE_ok (sn := sn) (e := e) q.sng.2.2.2.1
  have hD := plD_ok (X := X) (sn := sn) (e := e) q.sng.2.2.2.1 q.hs.1
  have hs1 := q.sng.2.2.2.1 (eN e % sn)
  have hs2 := q.sng.2.2.2.1 ((eN e + 1) % sn)
  have h2p : 1 ≤ 2 ^ h.1 := Nat.one_le_two_pow
  have hall : ∀ i, i < h.1 → (2 ^ h.1 - 1).testBit i = true := fun i hi => by rw [Nat.testBit_two_pow_sub_one]; exact decide_eq_true hi
  have L : 0 ≤ k ∧ k ≤ 18 → ∀ (sh : Nat → Int), (∀ i, 0 ≤ sh i) → (∀ i, i < h.1 → ∀ mo pr, mo ≤ sg (eN e % sn) → 1 ≤ pr → pr ≤ h.1 → mayV X h (sg ((eN e + 1) % sn)) i (min 99 (eH e i + mo)) (eN e + 1) pr ≤ sh i) → ∀ o : Nat, o ≤ 2 ^ h.1 → ∀ (m : am_M) (lx : Option am_V), frS s8r mem m → tab1 X h sn sg e m → tab2 X h sn sg e m → (∀ i, i < h.1 → m 79 i = sh i) → c_row (plR R (plO (plD X h sn sg e) (plL X h sn sg e) k (2 ^ h.1) o)) m → am_Rn l G mt_X8_plans (d + 5) 131 [some (.inr (.inr 1)), some (.inl k), some (.inl ((2 ^ h.1 - 1 : Nat) : Int)), some (.inl (plA (plO (plD X h sn sg e) (plL X h sn sg e) k (2 ^ h.1) o))), some (.inl (o : Int)), lx] [] m Q := by
    intro hk sh hs0 hsh
    refine am_dn (2 ^ h.1) (fun o ho ih m lx hf hT1 hT2 h79 hr => ?_)
    by_cases hin : o < 2 ^ h.1
    · have hG := plO_ok (L := plL X h sn sg e) (k := k) (N := 2 ^ h.1) hD o
      have oD := aD_ok (X := X) (sn := sn) (e := e) q.sng.2.2.2.1 q.hs.1 o
      have oL := aL_ok (X := X) (h := h) (sn := sn) (e := e) q.sng.2.2.2.1 o
      have hmn := mvK_nn (X := X) (h := h) (sn := sn) (sg := sg) (e := e) (mk := o)
      have hp9 := pP_ok (mk := o) hmn hw
      have ex : ((plO (plD X h sn sg e) (plL X h sn sg e) k (2 ^ h.1) o) = (-1, -1, -1) ∧ plA (plO (plD X h sn sg e) (plL X h sn sg e) k (2 ^ h.1) o) = -2) ∨ (plA (plO (plD X h sn sg e) (plL X h sn sg e) k (2 ^ h.1) o) = (plO (plD X h sn sg e) (plL X h sn sg e) k (2 ^ h.1) o).1 ∧ 0 ≤ plA (plO (plD X h sn sg e) (plL X h sn sg e) k (2 ^ h.1) o) ∧ plA (plO (plD X h sn sg e) (plL X h sn sg e) k (2 ^ h.1) o) ≤ 1400) := by
        rcases hG with hG | hG
        · left; rw [hG]; exact ⟨rfl, rfl⟩
        · right; unfold plA; rw [if_neg (by omega)]; omega
      have hL0 : ∀ t, 0 ≤ plL X h sn sg e o t - aL X h sn sg e o ∧ plL X h sn sg e o t - aL X h sn sg e o ≤ (sg ((eN e + 1) % sn) : Int) := by
        intro t
        have hw2 := wE_ok (sn := sn) (e := n2E X h sn sg e o t) q.sng.2.2.2.1
        have hwe : wE sn sg (n2E X h sn sg e o t) = (sg ((eN e + 1) % sn) : Int) := rfl
        have h1 := pL_ok (mk := t) (mvE_nn (X := X) (h := h) (sn := sn) (sg := sg) (e := n2E X h sn sg e o t)) hw2 h.1
        have h2 := (pH_pL (mk := t) (mvE_nn (X := X) (h := h) (sn := sn) (sg := sg) (e := n2E X h sn sg e o t)) hw2 h.1).2
        unfold plL
        omega
      have bound : ∀ t op, t < 2 ^ h.1 → (sg ((eN e + 1) % sn) : Int) - (plL X h sn sg e o t - aL X h sn sg e o) ≤ op → plD X h sn sg e o t ≤ aD X h sn sg e o + gv sh h.2.2.2 (2 ^ h.1 - 1) h.1 op := by
        intro t op ht hop
        have hw2 := wE_ok (sn := sn) (e := n2E X h sn sg e o t) q.sng.2.2.2.1
        have hwe : wE sn sg (n2E X h sn sg e o t) = (sg ((eN e + 1) % sn) : Int) := rfl
        have hpw : ∀ i, pP (mvK X h sn sg e o) o (wE sn sg e) i ≤ wE sn sg e := by
          intro i
          have h1 := (pH_pL (mk := o) hmn hw i).2
          have h2 := pL_ok (mk := o) hmn hw i
          unfold pP
          split <;> omega
        have hw1 : wE sn sg e = (sg (eN e % sn) : Int) := rfl
        obtain ⟨gg, hgg⟩ : ∃ f : Nat → Int, f = fun i => if t.testBit i = true ∧ i < h.1 then mvE X h sn sg (n2E X h sn sg e o t) i else 0 := ⟨_, rfl⟩
        have hgn : ∀ i, 0 ≤ gg i := fun i => by
          rw [hgg]
          show 0 ≤ (if t.testBit i = true ∧ i < h.1 then mvE X h sn sg (n2E X h sn sg e o t) i else 0)
          split
          · exact mvE_nn i
          · exact Int.le_refl _
        have hcg := pcg (f := mvE X h sn sg (n2E X h sn sg e o t)) (g := gg) (mk := t) (w := wE sn sg (n2E X h sn sg e o t)) h.1 (fun i hi hb => by rw [hgg]; exact (if_pos ⟨hb, hi⟩).symm)
        have hpd : ∀ j, j ≤ h.1 → pD (mvE X h sn sg (n2E X h sn sg e o t)) t (wE sn sg (n2E X h sn sg e o t)) h.2.2.2 j = pD gg t (wE sn sg (n2E X h sn sg e o t)) h.2.2.2 j := by
          intro j
          induction j with
          | zero => intro _; rfl
          | succ j ihj => intro hj; rw [pD, pD, ihj (by omega), hcg.2 j (by omega)]
        have h1 := pD_gv (mv := gg) (mk := t) (ev := 2 ^ h.1 - 1) (n := h.1) (op := op) (py := h.2.2.2) (sh := sh) hgn hw2 q.pa9 hall (fun i hi => by
          rw [hgg]
          show (if t.testBit i = true ∧ i < h.1 then mvE X h sn sg (n2E X h sn sg e o t) i else 0) ≤ sh i
          split
          · rename_i hc
            rw [n2_may hi (hp9 i).1]
            exact hsh i hi _ _ (by have := hpw i; have := (hp9 i).1; omega) (pc_pos t (by omega) i hc.1) (pc_n t h.1 ht b.1)
          · exact hs0 i) hs0 (by have h9 := hcg.1; unfold plL at hop; omega)
        have h2 := hpd h.1 (Nat.le_refl _)
        unfold plD
        omega
      have next : ∀ (m2 : am_M) (lx : Option am_V), frS s8r mem m2 → tab1 X h sn sg e m2 → tab2 X h sn sg e m2 → (∀ i, i < h.1 → m2 79 i = sh i) → c_row (plR R (plO (plD X h sn sg e) (plL X h sn sg e) k (2 ^ h.1) o)) m2 → (∀ j, j < 2 ^ h.1 → k ≤ plL X h sn sg e o j → plD X h sn sg e o j ≤ (plO (plD X h sn sg e) (plL X h sn sg e) k (2 ^ h.1) o).1) → am_Rn l G mt_X8_plans (d + 5) 131 [some (.inr (.inr 1)), some (.inl k), some (.inl ((2 ^ h.1 - 1 : Nat) : Int)), some (.inl (plA (plO (plD X h sn sg e) (plL X h sn sg e) k (2 ^ h.1) o))), some (.inl ((o + 1 : Nat) : Int)), lx] [] m2 Q := by
        intro m2 lx f1 f2 f3 f4 f5 hsame
        have e1 : plO (plD X h sn sg e) (plL X h sn sg e) k (2 ^ h.1) (o + 1) = (plO (plD X h sn sg e) (plL X h sn sg e) k (2 ^ h.1) o) := plI_same (2 ^ h.1) hsame
        have h2 := ih hin m2 lx f1 f2 f3 f4 (by rw [e1]; exact f5)
        rw [e1] at h2
        exact h2
      refine rn_iload (x := (o : Int)) (q := 133) dX8_plans_131 rfl rfl ?_
      refine rn_iconst (q := 134) dX8_plans_133 (am_okd rfl) rfl ?_
      refine rn_aload_n (x := 0) (q := 135) dX8_plans_134 rfl rfl ?_
      refine rn_get (a := 0) (v := .inr (.inr 6)) (q := 138) dX8_plans_135 fl_X8_26 rfl rfl rfl ?_
      refine rn_get (a := 5) (v := .inl (h.1 : Int)) (q := 141) dX8_plans_138 fl_X8_136 rfl (am_gi (q.kept hf).n) rfl ?_
      refine rn_ishl (q := 142) dX8_plans_141 rfl ?_
      rw [show am_shl 1 (h.1 : Int) = ((2 ^ h.1 : Nat) : Int) from am_shl1 _ (by omega)]
      refine rn_cmpge (t := 220) (q := 145) dX8_plans_142 rfl rfl (fun h => absurd h (by omega)) (fun w142 => ?_)
      refine rn_aload_n (x := 0) (q := 146) dX8_plans_145 rfl rfl ?_
      refine rn_get (a := 0) (v := .inr (.inr 72)) (q := 149) dX8_plans_146 fl_X8_73 rfl rfl rfl ?_
      refine rn_aload_n (x := 0) (q := 150) dX8_plans_149 rfl rfl ?_
      refine rn_get (a := 0) (v := .inr (.inr 6)) (q := 153) dX8_plans_150 fl_X8_26 rfl rfl rfl ?_
      refine rn_iload (x := (o : Int)) (q := 155) dX8_plans_153 rfl rfl ?_
      refine rn_callV (b := 71) (as := [.inr (.inr 6), .inl (o : Int)]) (rest := []) (q := 158) dX8_plans_155 ml_X8_306 sm_X1_share rfl rfl (by decide) (by omega) rfl rfl (Nat.le_of_ble_eq_true rfl) rfl (c_share71 (d := d + 3) (q.kept hf) o (by omega) (mo := fun _ => 0) (fun i hi => ⟨(hf 72 i rfl).trans (z72 i (by omega)), by decide⟩) (mv := mvK X h sn sg e o) (fun i hi hb => (hT1.2 i (pc o) hi (pc_pos o (by omega) i hb) (pc_n o h.1 (by omega) (by omega))).trans (by have := q.hd9 i; unfold mvK; rw [show min 99 (eH e i + 0) = eH e i by omega])) mvK_nn hT1.1 hw) ?_
      intro r155 mem155 hq155
      obtain ⟨rfl, hp155, hd155, hl155, h4155, hf155, hg155⟩ := hq155
      show am_Rn l G _ _ 158 [some (.inr (.inr 1)), some (.inl k), some (.inl ((2 ^ h.1 - 1 : Nat) : Int)), some (.inl (plA (plO (plD X h sn sg e) (plL X h sn sg e) k (2 ^ h.1) o))), some (.inl (o : Int)), lx] [] mem155 _
      refine rn_aload_n (x := 0) (q := 159) dX8_plans_158 rfl rfl ?_
      refine rn_get (a := 0) (v := .inr (.inr 76)) (q := 162) dX8_plans_159 fl_X8_77 rfl rfl rfl ?_
      refine rn_get (a := 75) (v := .inl (sg ((eN e + 1) % sn) : Int)) (q := 165) dX8_plans_162 fl_X8_312 rfl (am_gi ((hg155 75 4 rfl rfl).trans hT2.1)) rfl ?_
      refine rn_iconst (q := 166) dX8_plans_165 (am_okd rfl) rfl ?_
      refine rn_iload_n (x := k) (q := 167) dX8_plans_166 rfl rfl ?_
      refine rn_aload_n (x := 0) (q := 168) dX8_plans_167 rfl rfl ?_
      refine rn_get (a := 0) (v := .inr (.inr 72)) (q := 171) dX8_plans_168 fl_X8_73 rfl rfl rfl ?_
      refine rn_get (a := 71) (v := .inl (aL X h sn sg e o)) (q := 174) dX8_plans_171 fl_X8_310 rfl (am_gi hl155) rfl ?_
      refine rn_isubN (z := (k - (aL X h sn sg e o))) (q := 175) dX8_plans_174 rfl (by unfold am_ok; omega) rfl ?_
      refine rn_mmax (q := 178) dX8_plans_175 am_mm_X8_209 am_mmaxw (Nat.le_of_ble_eq_true rfl) rfl ?_
      refine rn_isubN (z := ((sg ((eN e + 1) % sn) : Int) - (max 0 (k - (aL X h sn sg e o))))) (q := 179) dX8_plans_178 rfl (by unfold am_ok; omega) rfl ?_
      refine rn_istore (ls' := [some (.inr (.inr 1)), some (.inl k), some (.inl ((2 ^ h.1 - 1 : Nat) : Int)), some (.inl (plA (plO (plD X h sn sg e) (plL X h sn sg e) k (2 ^ h.1) o))), some (.inl (o : Int)), some (.inl ((sg ((eN e + 1) % sn) : Int) - (max 0 (k - (aL X h sn sg e o)))))]) (q := 181) dX8_plans_179 (by decide) rfl rfl ?_
      obtain ⟨op, eop⟩ : ∃ x, x = (sg ((eN e + 1) % sn) : Int) - max 0 (k - aL X h sn sg e o) := ⟨_, rfl⟩
      rw [← eop]
      have t1 : tab1 X h sn sg e mem155 := ⟨h4155, fun i pr a1 a2 a3 => (hg155 74 _ rfl rfl).trans (hT1.2 i pr a1 a2 a3)⟩
      have t2 : tab2 X h sn sg e mem155 := ⟨(hg155 75 4 rfl rfl).trans hT2.1, fun i mo pr a1 a2 a3 a4 => (hg155 78 _ rfl rfl).trans (hT2.2 i mo pr a1 a2 a3 a4)⟩
      have t3 : ∀ i, i < h.1 → mem155 79 i = sh i := fun i hi => (hg155 79 i rfl rfl).trans (h79 i hi)
      refine rn_iload (x := op) (q := 183) dX8_plans_181 rfl rfl ?_
      refine rn_iflt (t := 214) (q := 186) dX8_plans_183 rfl rfl (fun w183 => ?_) (fun w183 => ?_)
      · refine rn_iincN (x := (o : Int)) (z := ((o + 1 : Nat) : Int)) (ls' := [some (.inr (.inr 1)), some (.inl k), some (.inl ((2 ^ h.1 - 1 : Nat) : Int)), some (.inl (plA (plO (plD X h sn sg e) (plL X h sn sg e) k (2 ^ h.1) o))), some (.inl ((o + 1 : Nat) : Int)), some (.inl op)]) (q := 217) dX8_plans_214 rfl (by decide) (by omega) (by unfold am_ok; omega) rfl rfl ?_
        refine rn_goto (t := 131) dX8_plans_217 rfl ?_
        first | exact ih hin _ _ (hf.tr (hf155.r8)) ⟨(hg210 71 4 rfl rfl rfl rfl rfl).trans t1.1, fun i pr a1 a2 a3 => (hg210 74 _ rfl rfl rfl rfl rfl).trans (t1.2 i pr a1 a2 a3)⟩ ⟨h75210.trans t2.1, fun i mo pr a1 a2 a3 a4 => (hg210 78 _ rfl rfl rfl rfl rfl).trans (t2.2 i mo pr a1 a2 a3 a4)⟩ (fun i hi => (hg210 79 i rfl rfl rfl rfl rfl).trans (t3 i hi)) hr210 | exact next _ _ (hf.tr (hf155.r8)) t1 t2 t3 (hr.kept hf155) (fun j hj hkj => by have h1 := hL0 j; first | (exfalso; omega) | (have h2 := bound j op hj (by omega); omega))
      · refine rn_aload_n (x := 0) (q := 187) dX8_plans_186 rfl rfl ?_
        refine rn_get (a := 0) (v := .inr (.inr 72)) (q := 190) dX8_plans_187 fl_X8_73 rfl rfl rfl ?_
        refine rn_get (a := 71) (v := .inl (aD X h sn sg e o)) (q := 193) dX8_plans_190 fl_X8_311 rfl (am_gi hd155) rfl ?_
        refine rn_aload_n (x := 0) (q := 194) dX8_plans_193 rfl rfl ?_
        refine rn_iload_n (x := ((2 ^ h.1 - 1 : Nat) : Int)) (q := 195) dX8_plans_194 rfl rfl ?_
        refine rn_iload (x := op) (q := 197) dX8_plans_195 rfl rfl ?_
        refine rn_callV (b := 0) (as := [.inl ((2 ^ h.1 - 1 : Nat) : Int), .inl op]) (rest := [.inl (aD X h sn sg e o)]) (q := 200) dX8_plans_197 ml_X8_318 sm_X8_mostPaid rfl rfl (by decide) (by omega) rfl rfl (Nat.le_of_ble_eq_true rfl) rfl (c_mostPaid (d := d + 4) (q.kept (hf.tr (hf155.r8))) t3 hs0 (2 ^ h.1 - 1) (by omega) op (by omega)) ?_
        intro r197 mem197 hq197
        obtain ⟨rfl, rfl⟩ := hq197
        show am_Rn l G _ _ 200 [some (.inr (.inr 1)), some (.inl k), some (.inl ((2 ^ h.1 - 1 : Nat) : Int)), some (.inl (plA (plO (plD X h sn sg e) (plL X h sn sg e) k (2 ^ h.1) o))), some (.inl (o : Int)), some (.inl op)] [.inl (gv sh h.2.2.2 (2 ^ h.1 - 1) h.1 op), .inl (aD X h sn sg e o)] mem155 _
        have hgo := gv_ok (py := h.2.2.2) (mk := 2 ^ h.1 - 1) (n := h.1) (w := op) hs0 (by omega)
        refine rn_iaddN (z := ((aD X h sn sg e o) + (gv sh h.2.2.2 (2 ^ h.1 - 1) h.1 op))) (q := 201) dX8_plans_200 rfl (by unfold am_ok; omega) rfl ?_
        refine rn_iload_n (x := (plA (plO (plD X h sn sg e) (plL X h sn sg e) k (2 ^ h.1) o))) (q := 202) dX8_plans_201 rfl rfl ?_
        refine rn_cmple (t := 214) (q := 205) dX8_plans_202 rfl rfl (fun w202 => ?_) (fun w202 => ?_)
        · refine rn_iincN (x := (o : Int)) (z := ((o + 1 : Nat) : Int)) (ls' := [some (.inr (.inr 1)), some (.inl k), some (.inl ((2 ^ h.1 - 1 : Nat) : Int)), some (.inl (plA (plO (plD X h sn sg e) (plL X h sn sg e) k (2 ^ h.1) o))), some (.inl ((o + 1 : Nat) : Int)), some (.inl op)]) (q := 217) dX8_plans_214 rfl (by decide) (by omega) (by unfold am_ok; omega) rfl rfl ?_
          refine rn_goto (t := 131) dX8_plans_217 rfl ?_
          first | exact ih hin _ _ (hf.tr (hf155.r8)) ⟨(hg210 71 4 rfl rfl rfl rfl rfl).trans t1.1, fun i pr a1 a2 a3 => (hg210 74 _ rfl rfl rfl rfl rfl).trans (t1.2 i pr a1 a2 a3)⟩ ⟨h75210.trans t2.1, fun i mo pr a1 a2 a3 a4 => (hg210 78 _ rfl rfl rfl rfl rfl).trans (t2.2 i mo pr a1 a2 a3 a4)⟩ (fun i hi => (hg210 79 i rfl rfl rfl rfl rfl).trans (t3 i hi)) hr210 | exact next _ _ (hf.tr (hf155.r8)) t1 t2 t3 (hr.kept hf155) (fun j hj hkj => by have h1 := hL0 j; first | (exfalso; omega) | (have h2 := bound j op hj (by omega); omega))
        · refine rn_aload_n (x := 0) (q := 206) dX8_plans_205 rfl rfl ?_
          refine rn_iload (x := (o : Int)) (q := 208) dX8_plans_206 rfl rfl ?_
          refine rn_iload_n (x := k) (q := 209) dX8_plans_208 rfl rfl ?_
          refine rn_iload_n (x := (plA (plO (plD X h sn sg e) (plL X h sn sg e) k (2 ^ h.1) o))) (q := 210) dX8_plans_209 rfl rfl ?_
          refine rn_callV (b := 0) (as := [.inl (o : Int), .inl k, .inl (plA (plO (plD X h sn sg e) (plL X h sn sg e) k (2 ^ h.1) o))]) (rest := []) (q := 213) dX8_plans_210 ml_X8_321 sm_X8_bestSecond rfl rfl (by decide) (by omega) rfl rfl (Nat.le_of_ble_eq_true rfl) rfl (c_bestSecond (d := d + 2) (q.kept (hf.tr (hf155.r8))) (R := R) o hin k hk hG (hr.kept hf155) t2 hp155 hd155 hl155) ?_
          intro r210 mem210 hq210
          obtain ⟨rfl, hr210, hf210, hg210, h75210⟩ := hq210
          show am_Rn l G _ _ 213 [some (.inr (.inr 1)), some (.inl k), some (.inl ((2 ^ h.1 - 1 : Nat) : Int)), some (.inl (plA (plO (plD X h sn sg e) (plL X h sn sg e) k (2 ^ h.1) o))), some (.inl (o : Int)), some (.inl op)] [.inl (plA (plI (plD X h sn sg e) (plL X h sn sg e) k o (plO (plD X h sn sg e) (plL X h sn sg e) k (2 ^ h.1) o) (2 ^ h.1)))] mem210 _
          refine rn_istore_n (ls' := [some (.inr (.inr 1)), some (.inl k), some (.inl ((2 ^ h.1 - 1 : Nat) : Int)), some (.inl (plA (plI (plD X h sn sg e) (plL X h sn sg e) k o (plO (plD X h sn sg e) (plL X h sn sg e) k (2 ^ h.1) o) (2 ^ h.1)))), some (.inl (o : Int)), some (.inl op)]) (q := 214) dX8_plans_213 (by decide) rfl rfl ?_
          refine rn_iincN (x := (o : Int)) (z := ((o + 1 : Nat) : Int)) (ls' := [some (.inr (.inr 1)), some (.inl k), some (.inl ((2 ^ h.1 - 1 : Nat) : Int)), some (.inl (plA (plI (plD X h sn sg e) (plL X h sn sg e) k o (plO (plD X h sn sg e) (plL X h sn sg e) k (2 ^ h.1) o) (2 ^ h.1)))), some (.inl ((o + 1 : Nat) : Int)), some (.inl op)]) (q := 217) dX8_plans_214 rfl (by decide) (by omega) (by unfold am_ok; omega) rfl rfl ?_
          refine rn_goto (t := 131) dX8_plans_217 rfl ?_
          first | exact ih hin _ _ ((hf.tr (hf155.r8)).tr hf210) ⟨(hg210 71 4 rfl rfl rfl rfl rfl).trans t1.1, fun i pr a1 a2 a3 => (hg210 74 _ rfl rfl rfl rfl rfl).trans (t1.2 i pr a1 a2 a3)⟩ ⟨h75210.trans t2.1, fun i mo pr a1 a2 a3 a4 => (hg210 78 _ rfl rfl rfl rfl rfl).trans (t2.2 i mo pr a1 a2 a3 a4)⟩ (fun i hi => (hg210 79 i rfl rfl rfl rfl rfl).trans (t3 i hi)) hr210 | exact next _ _ ((hf.tr (hf155.r8)).tr hf210) t1 t2 t3 (hr.kept hf155) (fun j hj hkj => by have h1 := hL0 j; first | (exfalso; omega) | (have h2 := bound j op hj (by omega); omega))
    · obtain rfl : o = 2 ^ h.1 := by omega
      refine rn_iload (x := ((2 ^ h.1 : Nat) : Int)) (q := 133) dX8_plans_131 rfl rfl ?_
      refine rn_iconst (q := 134) dX8_plans_133 (am_okd rfl) rfl ?_
      refine rn_aload_n (x := 0) (q := 135) dX8_plans_134 rfl rfl ?_
      refine rn_get (a := 0) (v := .inr (.inr 6)) (q := 138) dX8_plans_135 fl_X8_26 rfl rfl rfl ?_
      refine rn_get (a := 5) (v := .inl (h.1 : Int)) (q := 141) dX8_plans_138 fl_X8_136 rfl (am_gi (q.kept hf).n) rfl ?_
      refine rn_ishl (q := 142) dX8_plans_141 rfl ?_
      rw [show am_shl 1 (h.1 : Int) = ((2 ^ h.1 : Nat) : Int) from am_shl1 _ (by omega)]
      refine rn_cmpge (t := 220) (q := 145) dX8_plans_142 rfl rfl (fun w142 => ?_) (fun h => absurd h (by omega))
      refine rn_iload_n (x := (plA (plO (plD X h sn sg e) (plL X h sn sg e) k (2 ^ h.1) (2 ^ h.1)))) (q := 221) dX8_plans_220 rfl rfl ?_
      refine rn_iret dX8_plans_221 rfl ?_
      exact hQ _ _ ⟨fun hn => absurd hk hn, fun _ => ⟨rfl, hf, hr⟩⟩
  have L1 : 0 ≤ k ∧ k ≤ 18 → ∀ i : Nat, i ≤ h.1 → ∀ (m : am_M) (sh : Nat → Int), frS s8r mem m → tab1 X h sn sg e m → tab2 X h sn sg e m → c_row R m → (∀ j, 0 ≤ sh j) → (∀ j, j < i → m 79 j = sh j ∧ ∀ mo pr, mo ≤ sg (eN e % sn) → 1 ≤ pr → pr ≤ h.1 → mayV X h (sg ((eN e + 1) % sn)) j (min 99 (eH e j + mo)) (eN e + 1) pr ≤ sh j) → am_Rn l G mt_X8_plans (d + 5) 68 [some (.inr (.inr 1)), some (.inl k), some (.inl (i : Int)), none, none, none] [] m Q := by
    intro hk
    refine am_dn h.1 (fun i hi ih m sh hf hT1 hT2 hr hs0 hj => ?_)
    by_cases hin : i < h.1
    · have hw9 := q.wa9 i
      refine rn_iload_n (x := (i : Int)) (q := 69) dX8_plans_68 rfl rfl ?_
      refine rn_aload_n (x := 0) (q := 70) dX8_plans_69 rfl rfl ?_
      refine rn_get (a := 0) (v := .inr (.inr 6)) (q := 73) dX8_plans_70 fl_X8_26 rfl rfl rfl ?_
      refine rn_get (a := 5) (v := .inl (h.1 : Int)) (q := 76) dX8_plans_73 fl_X8_136 rfl (am_gi (q.kept hf).n) rfl ?_
      refine rn_cmpge (t := 113) (q := 79) dX8_plans_76 rfl rfl (fun h => absurd h (by omega)) (fun w76 => ?_)
      refine rn_aload_n (x := 0) (q := 80) dX8_plans_79 rfl rfl ?_
      refine rn_get (a := 0) (v := .inr (.inr 80)) (q := 83) dX8_plans_80 fl_X8_80 rfl rfl rfl ?_
      refine rn_iload_n (x := (i : Int)) (q := 84) dX8_plans_83 rfl rfl ?_
      refine rn_aload_n (x := 0) (q := 85) dX8_plans_84 rfl rfl ?_
      refine rn_get (a := 0) (v := .inr (.inr 76)) (q := 88) dX8_plans_85 fl_X8_77 rfl rfl rfl ?_
      refine rn_iload_n (x := (i : Int)) (q := 89) dX8_plans_88 rfl rfl ?_
      refine rn_aload_n (x := 0) (q := 90) dX8_plans_89 rfl rfl ?_
      refine rn_get (a := 0) (v := .inr (.inr 6)) (q := 93) dX8_plans_90 fl_X8_26 rfl rfl rfl ?_
      refine rn_get (a := 5) (v := .inl (h.1 : Int)) (q := 96) dX8_plans_93 fl_X8_136 rfl (am_gi (q.kept hf).n) rfl ?_
      refine rn_aload_n (x := 0) (q := 97) dX8_plans_96 rfl rfl ?_
      refine rn_get (a := 0) (v := .inr (.inr 72)) (q := 100) dX8_plans_97 fl_X8_73 rfl rfl rfl ?_
      refine rn_get (a := 71) (v := .inl (sg (eN e % sn) : Int)) (q := 103) dX8_plans_100 fl_X8_312 rfl (am_gi hT1.1) rfl ?_
      refine rn_callV (b := 75) (as := [.inl (i : Int), .inl (h.1 : Int), .inl (sg (eN e % sn) : Int)]) (rest := [.inl (i : Int), .inr (.inr 80)]) (q := 106) dX8_plans_103 ml_X8_315 sm_X1_mostOf rfl rfl (by decide) (by omega) rfl rfl (Nat.le_of_ble_eq_true rfl) rfl (c_mostOf (d := d + 3) (T := fun mo pr => mayV X h (sg ((eN e + 1) % sn)) i (min 99 (eH e i + mo)) (eN e + 1) pr) h.1 (sg (eN e % sn)) i b.1 (by omega) (by omega) (fun mo pr a1 a2 a3 => hT2.2 i mo pr hin a1 a2 a3) (fun mo pr => ⟨mayV_nn, by show mayV _ _ _ _ _ _ _ ≤ (9 : Int); unfold mayV; omega⟩)) ?_
      intro r103 mem103 hq103
      obtain ⟨⟨x, rfl, hx9, hxm⟩, rfl⟩ := hq103
      show am_Rn l G _ _ 106 [some (.inr (.inr 1)), some (.inl k), some (.inl (i : Int)), none, none, none] [.inl x, .inl (i : Int), .inr (.inr 80)] m _
      refine rn_iastV (a := 79) (m1 := am_up m 79 i x) (q := 107) dX8_plans_106 rfl (by omega) (by omega) rfl rfl ?_
      refine rn_iincN (x := (i : Int)) (z := ((i + 1 : Nat) : Int)) (ls' := [some (.inr (.inr 1)), some (.inl k), some (.inl ((i + 1 : Nat) : Int)), none, none, none]) (q := 110) dX8_plans_107 rfl (by decide) (by omega) (by unfold am_ok; omega) rfl rfl ?_
      refine rn_goto (t := 68) dX8_plans_110 rfl ?_
      refine ih hin _ (fun j => if j = i then x else sh j) (frS.up (a := 79) (k := i) (x := x) hf rfl) hT1 hT2 (hr.kept (frS.rf.up rfl)) (fun j => ?_) (fun j hj2 => ?_)
      · show 0 ≤ if j = i then x else sh j
        split
        · exact hx9.1
        · exact hs0 j
      · rw [am_up_at]
        by_cases e1 : j = i
        · subst e1
          refine ⟨by rw [if_pos rfl, if_pos rfl], fun mo pr a1 a2 a3 => ?_⟩
          rw [if_pos rfl]; exact hxm mo pr a1 a2 a3
        · refine ⟨by rw [if_neg e1, if_neg e1]; exact (hj j (by omega)).1, fun mo pr a1 a2 a3 => ?_⟩
          rw [if_neg e1]; exact (hj j (by omega)).2 mo pr a1 a2 a3
    · obtain rfl : i = h.1 := by omega
      refine rn_iload_n (x := (h.1 : Int)) (q := 69) dX8_plans_68 rfl rfl ?_
      refine rn_aload_n (x := 0) (q := 70) dX8_plans_69 rfl rfl ?_
      refine rn_get (a := 0) (v := .inr (.inr 6)) (q := 73) dX8_plans_70 fl_X8_26 rfl rfl rfl ?_
      refine rn_get (a := 5) (v := .inl (h.1 : Int)) (q := 76) dX8_plans_73 fl_X8_136 rfl (am_gi (q.kept hf).n) rfl ?_
      refine rn_cmpge (t := 113) (q := 79) dX8_plans_76 rfl rfl (fun w76 => ?_) (fun h => absurd h (by omega))
      refine rn_iconst (q := 114) dX8_plans_113 (am_okd rfl) rfl ?_
      refine rn_aload_n (x := 0) (q := 115) dX8_plans_114 rfl rfl ?_
      refine rn_get (a := 0) (v := .inr (.inr 6)) (q := 118) dX8_plans_115 fl_X8_26 rfl rfl rfl ?_
      refine rn_get (a := 5) (v := .inl (h.1 : Int)) (q := 121) dX8_plans_118 fl_X8_136 rfl (am_gi (q.kept hf).n) rfl ?_
      refine rn_ishl (q := 122) dX8_plans_121 rfl ?_
      rw [show am_shl 1 (h.1 : Int) = ((2 ^ h.1 : Nat) : Int) from am_shl1 _ (by omega)]
      refine rn_iconst (q := 123) dX8_plans_122 (am_okd rfl) rfl ?_
      refine rn_isubN (z := ((2 ^ h.1 - 1 : Nat) : Int)) (q := 124) dX8_plans_123 (by omega) (by unfold am_ok; omega) rfl ?_
      refine rn_istore_n (ls' := [some (.inr (.inr 1)), some (.inl k), some (.inl ((2 ^ h.1 - 1 : Nat) : Int)), none, none, none]) (q := 125) dX8_plans_124 (by decide) rfl rfl ?_
      refine rn_bipush (q := 127) dX8_plans_125 ⟨by decide, by decide⟩ rfl ?_
      refine rn_istore_n (ls' := [some (.inr (.inr 1)), some (.inl k), some (.inl ((2 ^ h.1 - 1 : Nat) : Int)), some (.inl (-2)), none, none]) (q := 128) dX8_plans_127 (by decide) rfl rfl ?_
      refine rn_iconst (q := 129) dX8_plans_128 (am_okd rfl) rfl ?_
      refine rn_istore (ls' := [some (.inr (.inr 1)), some (.inl k), some (.inl ((2 ^ h.1 - 1 : Nat) : Int)), some (.inl (-2)), some (.inl 0), none]) (q := 131) dX8_plans_129 (by decide) rfl rfl ?_
      exact L hk sh hs0 (fun j hj2 => (hj j hj2).2) 0 (Nat.zero_le _) m _ hf hT1 hT2 (fun j hj2 => (hj j hj2).1) hr
  refine rn_iload_n (x := k) (q := 1) dX8_plans_0 rfl rfl ?_
  refine rn_iflt (t := 10) (q := 4) dX8_plans_1 rfl rfl (fun w1 => ?_) (fun w1 => ?_)
  · refine rn_iconst (q := 11) dX8_plans_10 (am_okd rfl) rfl ?_
    refine rn_iret dX8_plans_11 rfl ?_
    exact hQ _ _ ⟨fun _ => ⟨rfl, frS.rf, hR⟩, fun hn => by omega⟩
  · refine rn_iload_n (x := k) (q := 5) dX8_plans_4 rfl rfl ?_
    refine rn_bipush (q := 7) dX8_plans_5 ⟨by decide, by decide⟩ rfl ?_
    refine rn_cmple (t := 12) (q := 10) dX8_plans_7 rfl rfl (fun w7 => ?_) (fun w7 => ?_)
    · refine rn_aload_n (x := 0) (q := 13) dX8_plans_12 rfl rfl ?_
      refine rn_get (a := 0) (v := .inr (.inr 72)) (q := 16) dX8_plans_13 fl_X8_73 rfl rfl rfl ?_
      refine rn_aload_n (x := 0) (q := 17) dX8_plans_16 rfl rfl ?_
      refine rn_get (a := 0) (v := .inr (.inr 6)) (q := 20) dX8_plans_17 fl_X8_26 rfl rfl rfl ?_
      refine rn_aload_n (x := 0) (q := 21) dX8_plans_20 rfl rfl ?_
      refine rn_get (a := 0) (v := .inr (.inr 17)) (q := 24) dX8_plans_21 fl_X8_33 rfl rfl rfl ?_
      refine rn_aload_n (x := 0) (q := 25) dX8_plans_24 rfl rfl ?_
      refine rn_get (a := 0) (v := .inr (.inr 17)) (q := 28) dX8_plans_25 fl_X8_33 rfl rfl rfl ?_
      refine rn_get (a := 16) (v := .inl (eN e : Int)) (q := 31) dX8_plans_28 fl_X8_184 rfl (am_gi q.nt) rfl ?_
      refine rn_iconst (q := 32) dX8_plans_31 (am_okd rfl) rfl ?_
      refine rn_callV (b := 71) (as := [.inr (.inr 6), .inr (.inr 17), .inl (eN e : Int), .inl 0]) (rest := []) (q := 35) dX8_plans_32 ml_X8_302 sm_X1_ready rfl rfl (by decide) (by omega) rfl rfl (Nat.le_of_ble_eq_true rfl) rfl (c_ready71 (d := d + 0) q (eN e) 0 (by omega) (by decide)) ?_
      intro r32 mem32 hq32
      obtain ⟨rfl, h432, hT32, hf32, -⟩ := hq32
      show am_Rn l G _ _ 35 [some (.inr (.inr 1)), some (.inl k), none, none, none, none] [] mem32 _
      refine rn_aload_n (x := 0) (q := 36) dX8_plans_35 rfl rfl ?_
      refine rn_get (a := 0) (v := .inr (.inr 76)) (q := 39) dX8_plans_36 fl_X8_77 rfl rfl rfl ?_
      refine rn_aload_n (x := 0) (q := 40) dX8_plans_39 rfl rfl ?_
      refine rn_get (a := 0) (v := .inr (.inr 6)) (q := 43) dX8_plans_40 fl_X8_26 rfl rfl rfl ?_
      refine rn_aload_n (x := 0) (q := 44) dX8_plans_43 rfl rfl ?_
      refine rn_get (a := 0) (v := .inr (.inr 17)) (q := 47) dX8_plans_44 fl_X8_33 rfl rfl rfl ?_
      refine rn_aload_n (x := 0) (q := 48) dX8_plans_47 rfl rfl ?_
      refine rn_get (a := 0) (v := .inr (.inr 17)) (q := 51) dX8_plans_48 fl_X8_33 rfl rfl rfl ?_
      refine rn_get (a := 16) (v := .inl (eN e : Int)) (q := 54) dX8_plans_51 fl_X8_184 rfl (am_gi (q.kept (hf32.r8)).nt) rfl ?_
      refine rn_iconst (q := 55) dX8_plans_54 (am_okd rfl) rfl ?_
      refine rn_iaddN (z := (((eN e) + 1 : Nat) : Int)) (q := 56) dX8_plans_55 (by omega) (by unfold am_ok; omega) rfl ?_
      refine rn_aload_n (x := 0) (q := 57) dX8_plans_56 rfl rfl ?_
      refine rn_get (a := 0) (v := .inr (.inr 72)) (q := 60) dX8_plans_57 fl_X8_73 rfl rfl rfl ?_
      refine rn_get (a := 71) (v := .inl (sg (eN e % sn) : Int)) (q := 63) dX8_plans_60 fl_X8_312 rfl (am_gi h432) rfl ?_
      refine rn_callV (b := 75) (as := [.inr (.inr 6), .inr (.inr 17), .inl (((eN e) + 1 : Nat) : Int), .inl (sg (eN e % sn) : Int)]) (rest := []) (q := 66) dX8_plans_63 ml_X8_302 sm_X1_ready rfl rfl (by decide) (by omega) rfl rfl (Nat.le_of_ble_eq_true rfl) rfl (c_ready75 (d := d + 0) (q.kept (hf32.r8)) ((eN e) + 1) (sg (eN e % sn)) (by omega) (by omega)) ?_
      intro r63 mem63 hq63
      obtain ⟨rfl, h463, hT63, hf63, hg63⟩ := hq63
      show am_Rn l G _ _ 66 [some (.inr (.inr 1)), some (.inl k), none, none, none, none] [] mem63 _
      refine rn_iconst (q := 67) dX8_plans_66 (am_okd rfl) rfl ?_
      refine rn_istore_n (ls' := [some (.inr (.inr 1)), some (.inl k), some (.inl 0), none, none, none]) (q := 68) dX8_plans_67 (by decide) rfl rfl ?_
      exact L1 (by omega) 0 (Nat.zero_le _) _ (fun _ => 0) ((hf32.r8).tr (hf63.r8)) ⟨(hg63 71 4 rfl rfl rfl).trans h432, fun i pr a1 a2 a3 => (hg63 74 _ rfl rfl rfl).trans (hT32 i 0 pr a1 (Nat.le_refl _) a2 a3)⟩ ⟨h463, hT63⟩ (hR.kept (hf32.tr hf63)) (fun _ => Int.le_refl _) (fun j hj => absurd hj (Nat.not_lt_zero _))
    · refine rn_iconst (q := 11) dX8_plans_10 (am_okd rfl) rfl ?_
      refine rn_iret dX8_plans_11 rfl ?_
      exact hQ _ _ ⟨fun _ => ⟨rfl, frS.rf, hR⟩, fun hn => by omega⟩
theorem m_plans (q : DQ X sn sg h e NB mem) {R : List Int} (hR : m_row R mem) (k : Int) : am_Sm l G yX9_plans mt_X9_plans (d + 179) [.inr (.inr 96), .inl k] mem (fun q m => (¬ (0 ≤ k ∧ k ≤ 18) → QM (-1) R mem q m) ∧ (0 ≤ k ∧ k ≤ 18 → QM (plA (plO (plD X h sn sg e) (plL X h sn sg e) k (2 ^ h.1) (2 ^ h.1))) (plR R (plO (plD X h sn sg e) (plL X h sn sg e) k (2 ^ h.1) (2 ^ h.1))) mem q m)) := by
  refine am_enterQ (ls := [some (.inr (.inr 96)), some (.inl k), none, none, none, none, none, none, none]) (by decide) rfl (Nat.le_of_ble_eq_true rfl) rfl (fun hok Q hQ => ?_)
  have b := q.bd
  have hD := plD_ok (X := X) (sn := sn) (e := e) q.sng.2.2.2.1 q.hs.1
  have L : 0 ≤ k ∧ k ≤ 18 → ∀ o : Nat, o ≤ 2 ^ h.1 → ∀ (m : am_M) (s : plT) (l6 l7 l8 : Option am_V), frS s9 mem m → s = (plO (plD X h sn sg e) (plL X h sn sg e) k (2 ^ h.1) o) → am_Rn l G mt_X9_plans (d + 179) 27 [some (.inr (.inr 96)), some (.inl k), some (.inl s.1), some (.inl s.2.1), some (.inl s.2.2), some (.inl (o : Int)), l6, l7, l8] [] m Q := by
    intro hk
    refine am_dn (2 ^ h.1) (fun o ho ih m s l6 l7 l8 hf hs => ?_)
    by_cases hin : o < 2 ^ h.1
    · have oD := aD_ok (X := X) (sn := sn) (e := e) q.sng.2.2.2.1 q.hs.1 o
      have oL := aL_ok (X := X) (h := h) (sn := sn) (e := e) q.sng.2.2.2.1 o
      have hP2 : eP (nextE X h sn sg (onE e o)) = o := rfl
      have K : ∀ t : Nat, t ≤ 2 ^ h.1 → ∀ (m : am_M) (s2 : plT) (e2 : est), eP e2 < 2 ^ h.1 → e_ok h.1 (NB + 1) e2 → (∀ t2, onE e2 t2 = n2E X h sn sg e o t2) → m_est e2 110 0 m → frS s9 mem m → s2 = plI (plD X h sn sg e) (plL X h sn sg e) k o s t → am_Rn l G mt_X9_plans (d + 179) 83 [some (.inr (.inr 96)), some (.inl k), some (.inl s2.1), some (.inl s2.2.1), some (.inl s2.2.2), some (.inl (o : Int)), some (.inl (aD X h sn sg e o)), some (.inl (aL X h sn sg e o)), some (.inl (t : Int))] [] m Q := by
        refine am_dn (2 ^ h.1) (fun t ht ih2 m s2 e2 hp2 he2 hn2 hE hf hs2 => ?_)
        by_cases hit : t < 2 ^ h.1
        · have hw2 := wE_ok (sn := sn) (e := n2E X h sn sg e o t) q.sng.2.2.2.1
          have hmn2 := mvE_nn (X := X) (h := h) (sn := sn) (sg := sg) (e := n2E X h sn sg e o t)
          have o2 := pL_ok (mk := t) hmn2 hw2 h.1
          have o3 := pD_ok (mk := t) hmn2 hw2 q.hs.1.2.2.2 h.1
          refine rn_iload (x := (t : Int)) (q := 85) dX9_plans_83 rfl rfl ?_
          refine rn_iconst (q := 86) dX9_plans_85 (am_okd rfl) rfl ?_
          refine rn_aload_n (x := 95) (q := 87) dX9_plans_86 rfl rfl ?_
          refine rn_get (a := 95) (v := .inl (h.1 : Int)) (q := 90) dX9_plans_87 fl_X9_113 rfl (am_gi (q.kept hf.r9).n) rfl ?_
          refine rn_ishl (q := 91) dX9_plans_90 rfl ?_
          rw [show am_shl 1 (h.1 : Int) = ((2 ^ h.1 : Nat) : Int) from am_shl1 _ (by omega)]
          refine rn_cmpge (t := 158) (q := 94) dX9_plans_91 rfl rfl (fun h => absurd h (by omega)) (fun w91 => ?_)
          refine rn_aload_n (x := 95) (q := 95) dX9_plans_94 rfl rfl ?_
          refine rn_aload_n (x := 95) (q := 96) dX9_plans_95 rfl rfl ?_
          refine rn_get (a := 95) (v := .inr (.inr 111)) (q := 99) dX9_plans_96 fl_X9_58 rfl rfl rfl ?_
          refine rn_iload (x := (t : Int)) (q := 101) dX9_plans_99 rfl rfl ?_
          refine rn_callV (b := 95) (as := [.inr (.inr 111), .inl (t : Int)]) (rest := []) (q := 104) dX9_plans_101 ml_X9_303 sm_X9_admit rfl rfl (by decide) (by omega) rfl rfl (Nat.le_of_ble_eq_true rfl) rfl (m_admit (d := d + 178) (q.kept hf.r9) (arr := 110) (Or.inr rfl) hp2 hE t hit) ?_
          intro r101 mem101 hq101
          obtain ⟨rfl, he101, hg101⟩ := hq101
          show am_Rn l G _ _ 104 [some (.inr (.inr 96)), some (.inl k), some (.inl s2.1), some (.inl s2.2.1), some (.inl s2.2.2), some (.inl (o : Int)), some (.inl (aD X h sn sg e o)), some (.inl (aL X h sn sg e o)), some (.inl (t : Int))] [] mem101 _
          refine rn_aload_n (x := 95) (q := 105) dX9_plans_104 rfl rfl ?_
          refine rn_aload_n (x := 95) (q := 106) dX9_plans_105 rfl rfl ?_
          refine rn_get (a := 95) (v := .inr (.inr 111)) (q := 109) dX9_plans_106 fl_X9_58 rfl rfl rfl ?_
          refine rn_callV (b := 95) (as := [.inr (.inr 111)]) (rest := []) (q := 112) dX9_plans_109 ml_X9_258 sm_X9_part rfl rfl (by decide) (by omega) rfl rfl (Nat.le_of_ble_eq_true rfl) rfl (m_partA (d := d + 1) (e2 := onE e2 t) (q.kept (hf.r9.tr ((fr_arr (Or.inr rfl) hg101).r9))) (Or.inr (Or.inr rfl)) (k := 1) (by omega) (onE_ok hit he2) he101) ?_
          intro r109 mem109 hq109
          obtain ⟨rfl, hf109, -, hd109, hl109, -, -, h110109⟩ := hq109
          show am_Rn l G _ _ 112 [some (.inr (.inr 96)), some (.inl k), some (.inl s2.1), some (.inl s2.2.1), some (.inl s2.2.2), some (.inl (o : Int)), some (.inl (aD X h sn sg e o)), some (.inl (aL X h sn sg e o)), some (.inl (t : Int))] [] mem109 _
          rw [hn2] at hd109 hl109
          refine rn_iload (x := (aL X h sn sg e o)) (q := 114) dX9_plans_112 rfl rfl ?_
          refine rn_aload_n (x := 95) (q := 115) dX9_plans_114 rfl rfl ?_
          refine rn_get (a := 95) (v := .inl (pL (mvE X h sn sg (n2E X h sn sg e o t)) t (wE sn sg (n2E X h sn sg e o t)) h.1)) (q := 118) dX9_plans_115 fl_X9_252 rfl (am_gi hl109) rfl ?_
          refine rn_iaddN (z := plL X h sn sg e o t) (q := 119) dX9_plans_118 rfl (by unfold am_ok; omega) rfl ?_
          refine rn_iload_n (x := k) (q := 120) dX9_plans_119 rfl rfl ?_
          refine rn_cmplt (t := 152) (q := 123) dX9_plans_120 rfl rfl (fun w120 => ?_) (fun w120 => ?_)
          · refine rn_iincN (x := (t : Int)) (z := ((t + 1 : Nat) : Int)) (ls' := [some (.inr (.inr 96)), some (.inl k), some (.inl s2.1), some (.inl s2.2.1), some (.inl s2.2.2), some (.inl (o : Int)), some (.inl (aD X h sn sg e o)), some (.inl (aL X h sn sg e o)), some (.inl ((t + 1 : Nat) : Int))]) (q := 155) dX9_plans_152 rfl (by decide) (by omega) (by unfold am_ok; omega) rfl rfl ?_
            refine rn_goto (t := 83) dX9_plans_155 rfl ?_
            have hE2 : m_est (onE e2 t) 110 0 mem109 := he101.kept h110109
            have hff := hf.tr ((fr_arr (Or.inr rfl) hg101).tr hf109)
            first | exact ih2 hit _ (_, _, _) (onE e2 t) hit (onE_ok hit he2) (fun t2 => hn2 t2) hE2 hff (by rw [plI, ← hs2, if_pos ⟨by omega, by omega⟩]; rfl) | exact ih2 hit _ s2 (onE e2 t) hit (onE_ok hit he2) (fun t2 => hn2 t2) hE2 hff (by rw [plI, ← hs2, if_neg (fun w => by have := w.1; have := w.2; omega)])
          · refine rn_iload (x := (aD X h sn sg e o)) (q := 125) dX9_plans_123 rfl rfl ?_
            refine rn_aload_n (x := 95) (q := 126) dX9_plans_125 rfl rfl ?_
            refine rn_get (a := 95) (v := .inl (pD (mvE X h sn sg (n2E X h sn sg e o t)) t (wE sn sg (n2E X h sn sg e o t)) h.2.2.2 h.1)) (q := 129) dX9_plans_126 fl_X9_255 rfl (am_gi hd109) rfl ?_
            refine rn_iaddN (z := plD X h sn sg e o t) (q := 130) dX9_plans_129 rfl (by unfold am_ok; omega) rfl ?_
            refine rn_iload_n (x := s2.1) (q := 131) dX9_plans_130 rfl rfl ?_
            refine rn_cmpgt (t := 137) (q := 134) dX9_plans_131 rfl rfl (fun w131 => ?_) (fun w131 => ?_)
            · refine rn_iload (x := (aD X h sn sg e o)) (q := 139) dX9_plans_137 rfl rfl ?_
              refine rn_aload_n (x := 95) (q := 140) dX9_plans_139 rfl rfl ?_
              refine rn_get (a := 95) (v := .inl (pD (mvE X h sn sg (n2E X h sn sg e o t)) t (wE sn sg (n2E X h sn sg e o t)) h.2.2.2 h.1)) (q := 143) dX9_plans_140 fl_X9_255 rfl (am_gi hd109) rfl ?_
              refine rn_iaddN (z := plD X h sn sg e o t) (q := 144) dX9_plans_143 rfl (by unfold am_ok; omega) rfl ?_
              refine rn_istore_n (ls' := [some (.inr (.inr 96)), some (.inl k), some (.inl (plD X h sn sg e o t)), some (.inl s2.2.1), some (.inl s2.2.2), some (.inl (o : Int)), some (.inl (aD X h sn sg e o)), some (.inl (aL X h sn sg e o)), some (.inl (t : Int))]) (q := 145) dX9_plans_144 (by decide) rfl rfl ?_
              refine rn_iload (x := (o : Int)) (q := 147) dX9_plans_145 rfl rfl ?_
              refine rn_istore_n (ls' := [some (.inr (.inr 96)), some (.inl k), some (.inl (plD X h sn sg e o t)), some (.inl (o : Int)), some (.inl s2.2.2), some (.inl (o : Int)), some (.inl (aD X h sn sg e o)), some (.inl (aL X h sn sg e o)), some (.inl (t : Int))]) (q := 148) dX9_plans_147 (by decide) rfl rfl ?_
              refine rn_iload (x := (t : Int)) (q := 150) dX9_plans_148 rfl rfl ?_
              refine rn_istore (ls' := [some (.inr (.inr 96)), some (.inl k), some (.inl (plD X h sn sg e o t)), some (.inl (o : Int)), some (.inl (t : Int)), some (.inl (o : Int)), some (.inl (aD X h sn sg e o)), some (.inl (aL X h sn sg e o)), some (.inl (t : Int))]) (q := 152) dX9_plans_150 (by decide) rfl rfl ?_
              refine rn_iincN (x := (t : Int)) (z := ((t + 1 : Nat) : Int)) (ls' := [some (.inr (.inr 96)), some (.inl k), some (.inl (plD X h sn sg e o t)), some (.inl (o : Int)), some (.inl (t : Int)), some (.inl (o : Int)), some (.inl (aD X h sn sg e o)), some (.inl (aL X h sn sg e o)), some (.inl ((t + 1 : Nat) : Int))]) (q := 155) dX9_plans_152 rfl (by decide) (by omega) (by unfold am_ok; omega) rfl rfl ?_
              refine rn_goto (t := 83) dX9_plans_155 rfl ?_
              have hE2 : m_est (onE e2 t) 110 0 mem109 := he101.kept h110109
              have hff := hf.tr ((fr_arr (Or.inr rfl) hg101).tr hf109)
              first | exact ih2 hit _ (_, _, _) (onE e2 t) hit (onE_ok hit he2) (fun t2 => hn2 t2) hE2 hff (by rw [plI, ← hs2, if_pos ⟨by omega, by omega⟩]; rfl) | exact ih2 hit _ s2 (onE e2 t) hit (onE_ok hit he2) (fun t2 => hn2 t2) hE2 hff (by rw [plI, ← hs2, if_neg (fun w => by have := w.1; have := w.2; omega)])
            · refine rn_goto (t := 152) dX9_plans_134 rfl ?_
              refine rn_iincN (x := (t : Int)) (z := ((t + 1 : Nat) : Int)) (ls' := [some (.inr (.inr 96)), some (.inl k), some (.inl s2.1), some (.inl s2.2.1), some (.inl s2.2.2), some (.inl (o : Int)), some (.inl (aD X h sn sg e o)), some (.inl (aL X h sn sg e o)), some (.inl ((t + 1 : Nat) : Int))]) (q := 155) dX9_plans_152 rfl (by decide) (by omega) (by unfold am_ok; omega) rfl rfl ?_
              refine rn_goto (t := 83) dX9_plans_155 rfl ?_
              have hE2 : m_est (onE e2 t) 110 0 mem109 := he101.kept h110109
              have hff := hf.tr ((fr_arr (Or.inr rfl) hg101).tr hf109)
              first | exact ih2 hit _ (_, _, _) (onE e2 t) hit (onE_ok hit he2) (fun t2 => hn2 t2) hE2 hff (by rw [plI, ← hs2, if_pos ⟨by omega, by omega⟩]; rfl) | exact ih2 hit _ s2 (onE e2 t) hit (onE_ok hit he2) (fun t2 => hn2 t2) hE2 hff (by rw [plI, ← hs2, if_neg (fun w => by have := w.1; have := w.2; omega)])
        · obtain rfl : t = 2 ^ h.1 := by omega
          refine rn_iload (x := ((2 ^ h.1 : Nat) : Int)) (q := 85) dX9_plans_83 rfl rfl ?_
          refine rn_iconst (q := 86) dX9_plans_85 (am_okd rfl) rfl ?_
          refine rn_aload_n (x := 95) (q := 87) dX9_plans_86 rfl rfl ?_
          refine rn_get (a := 95) (v := .inl (h.1 : Int)) (q := 90) dX9_plans_87 fl_X9_113 rfl (am_gi (q.kept hf.r9).n) rfl ?_
          refine rn_ishl (q := 91) dX9_plans_90 rfl ?_
          rw [show am_shl 1 (h.1 : Int) = ((2 ^ h.1 : Nat) : Int) from am_shl1 _ (by omega)]
          refine rn_cmpge (t := 158) (q := 94) dX9_plans_91 rfl rfl (fun w91 => ?_) (fun h => absurd h (by omega))
          refine rn_iincN (x := (o : Int)) (z := ((o + 1 : Nat) : Int)) (ls' := [some (.inr (.inr 96)), some (.inl k), some (.inl s2.1), some (.inl s2.2.1), some (.inl s2.2.2), some (.inl ((o + 1 : Nat) : Int)), some (.inl (aD X h sn sg e o)), some (.inl (aL X h sn sg e o)), some (.inl ((2 ^ h.1 : Nat) : Int))]) (q := 161) dX9_plans_158 rfl (by decide) (by omega) (by unfold am_ok; omega) rfl rfl ?_
          refine rn_goto (t := 27) dX9_plans_161 rfl ?_
          exact ih hin m s2 _ _ _ hf (by rw [hs2, hs]; rfl)
      refine rn_iload (x := (o : Int)) (q := 29) dX9_plans_27 rfl rfl ?_
      refine rn_iconst (q := 30) dX9_plans_29 (am_okd rfl) rfl ?_
      refine rn_aload_n (x := 95) (q := 31) dX9_plans_30 rfl rfl ?_
      refine rn_get (a := 95) (v := .inl (h.1 : Int)) (q := 34) dX9_plans_31 fl_X9_113 rfl (am_gi (q.kept hf.r9).n) rfl ?_
      refine rn_ishl (q := 35) dX9_plans_34 rfl ?_
      rw [show am_shl 1 (h.1 : Int) = ((2 ^ h.1 : Nat) : Int) from am_shl1 _ (by omega)]
      refine rn_cmpge (t := 164) (q := 38) dX9_plans_35 rfl rfl (fun h => absurd h (by omega)) (fun w35 => ?_)
      refine rn_aload_n (x := 95) (q := 39) dX9_plans_38 rfl rfl ?_
      refine rn_get (a := 95) (v := .inr (.inr 97)) (q := 42) dX9_plans_39 fl_X9_9 rfl rfl rfl ?_
      refine rn_aload_n (x := 95) (q := 43) dX9_plans_42 rfl rfl ?_
      refine rn_get (a := 95) (v := .inr (.inr 111)) (q := 46) dX9_plans_43 fl_X9_58 rfl rfl rfl ?_
      refine rn_iconst (q := 47) dX9_plans_46 (am_okd rfl) rfl ?_
      refine rn_callS (as := [.inr (.inr 97), .inr (.inr 111), .inl 0]) (rest := []) (q := 50) dX9_plans_47 ml_X9_248 sm_X9_lay (by omega) rfl rfl (Nat.le_of_ble_eq_true rfl) rfl (m_layA (d := d + 178) (q.kept hf.r9) (arr := 110) (Or.inr rfl)) ?_
      intro r47 mem47 hq47
      obtain ⟨rfl, he47, hf47⟩ := hq47
      show am_Rn l G _ _ 50 [some (.inr (.inr 96)), some (.inl k), some (.inl s.1), some (.inl s.2.1), some (.inl s.2.2), some (.inl (o : Int)), l6, l7, l8] [] mem47 _
      refine rn_aload_n (x := 95) (q := 51) dX9_plans_50 rfl rfl ?_
      refine rn_aload_n (x := 95) (q := 52) dX9_plans_51 rfl rfl ?_
      refine rn_get (a := 95) (v := .inr (.inr 111)) (q := 55) dX9_plans_52 fl_X9_58 rfl rfl rfl ?_
      refine rn_iload (x := (o : Int)) (q := 57) dX9_plans_55 rfl rfl ?_
      refine rn_callV (b := 95) (as := [.inr (.inr 111), .inl (o : Int)]) (rest := []) (q := 60) dX9_plans_57 ml_X9_303 sm_X9_admit rfl rfl (by decide) (by omega) rfl rfl (Nat.le_of_ble_eq_true rfl) rfl (m_admit (d := d + 178) (q.kept (hf.r9.tr (hf47.r9))) (arr := 110) (Or.inr rfl) (by omega) he47 o hin) ?_
      intro r57 mem57 hq57
      obtain ⟨rfl, he57, hg57⟩ := hq57
      show am_Rn l G _ _ 60 [some (.inr (.inr 96)), some (.inl k), some (.inl s.1), some (.inl s.2.1), some (.inl s.2.2), some (.inl (o : Int)), l6, l7, l8] [] mem57 _
      refine rn_aload_n (x := 95) (q := 61) dX9_plans_60 rfl rfl ?_
      refine rn_aload_n (x := 95) (q := 62) dX9_plans_61 rfl rfl ?_
      refine rn_get (a := 95) (v := .inr (.inr 111)) (q := 65) dX9_plans_62 fl_X9_58 rfl rfl rfl ?_
      refine rn_callV (b := 95) (as := [.inr (.inr 111)]) (rest := []) (q := 68) dX9_plans_65 ml_X9_265 sm_X9_goNight rfl rfl (by decide) (by omega) rfl rfl (Nat.le_of_ble_eq_true rfl) rfl (m_goNightA (d := d + 0) (q.kept ((hf.r9.tr (hf47.r9)).tr ((fr_arr (Or.inr rfl) hg57).r9))) (arr := 110) (Or.inr rfl) (k := 0) (by omega) (onE_ok hin q.eo) he57) ?_
      intro r65 mem65 hq65
      obtain ⟨rfl, he65, hf65, hd65, hl65⟩ := hq65
      show am_Rn l G _ _ 68 [some (.inr (.inr 96)), some (.inl k), some (.inl s.1), some (.inl s.2.1), some (.inl s.2.2), some (.inl (o : Int)), l6, l7, l8] [] mem65 _
      refine rn_aload_n (x := 95) (q := 69) dX9_plans_68 rfl rfl ?_
      refine rn_get (a := 95) (v := .inl (aD X h sn sg e o)) (q := 72) dX9_plans_69 fl_X9_255 rfl (am_gi hd65) rfl ?_
      refine rn_istore (ls' := [some (.inr (.inr 96)), some (.inl k), some (.inl s.1), some (.inl s.2.1), some (.inl s.2.2), some (.inl (o : Int)), some (.inl (aD X h sn sg e o)), l7, l8]) (q := 74) dX9_plans_72 (by decide) rfl rfl ?_
      refine rn_aload_n (x := 95) (q := 75) dX9_plans_74 rfl rfl ?_
      refine rn_get (a := 95) (v := .inl (aL X h sn sg e o)) (q := 78) dX9_plans_75 fl_X9_252 rfl (am_gi hl65) rfl ?_
      refine rn_istore (ls' := [some (.inr (.inr 96)), some (.inl k), some (.inl s.1), some (.inl s.2.1), some (.inl s.2.2), some (.inl (o : Int)), some (.inl (aD X h sn sg e o)), some (.inl (aL X h sn sg e o)), l8]) (q := 80) dX9_plans_78 (by decide) rfl rfl ?_
      refine rn_iconst (q := 81) dX9_plans_80 (am_okd rfl) rfl ?_
      refine rn_istore (ls' := [some (.inr (.inr 96)), some (.inl k), some (.inl s.1), some (.inl s.2.1), some (.inl s.2.2), some (.inl (o : Int)), some (.inl (aD X h sn sg e o)), some (.inl (aL X h sn sg e o)), some (.inl 0)]) (q := 83) dX9_plans_81 (by decide) rfl rfl ?_
      exact K 0 (Nat.zero_le _) _ s _ hin (nextE_ok (onE_ok hin q.eo)) (fun t2 => rfl) he65 (hf.tr (hf47.tr ((fr_arr (Or.inr rfl) hg57).tr hf65))) rfl
    · obtain rfl : o = 2 ^ h.1 := by omega
      have hG := plO_ok (L := plL X h sn sg e) (k := k) (N := 2 ^ h.1) hD (2 ^ h.1)
      rw [← hs] at hG
      refine rn_iload (x := ((2 ^ h.1 : Nat) : Int)) (q := 29) dX9_plans_27 rfl rfl ?_
      refine rn_iconst (q := 30) dX9_plans_29 (am_okd rfl) rfl ?_
      refine rn_aload_n (x := 95) (q := 31) dX9_plans_30 rfl rfl ?_
      refine rn_get (a := 95) (v := .inl (h.1 : Int)) (q := 34) dX9_plans_31 fl_X9_113 rfl (am_gi (q.kept hf.r9).n) rfl ?_
      refine rn_ishl (q := 35) dX9_plans_34 rfl ?_
      rw [show am_shl 1 (h.1 : Int) = ((2 ^ h.1 : Nat) : Int) from am_shl1 _ (by omega)]
      refine rn_cmpge (t := 164) (q := 38) dX9_plans_35 rfl rfl (fun w35 => ?_) (fun h => absurd h (by omega))
      refine rn_iload_n (x := s.2.1) (q := 165) dX9_plans_164 rfl rfl ?_
      refine rn_iconst (q := 166) dX9_plans_165 (am_okd rfl) rfl ?_
      refine rn_cmpne (t := 172) (q := 169) dX9_plans_166 rfl rfl (fun w166 => ?_) (fun w166 => ?_)
      · refine rn_aload_n (x := 95) (q := 173) dX9_plans_172 rfl rfl ?_
        refine rn_iconst (q := 174) dX9_plans_173 (am_okd rfl) rfl ?_
        refine rn_puti (a := 95) (q := 177) dX9_plans_174 fl_X9_110 rfl rfl rfl rfl ?_
        refine rn_aload_n (x := 95) (q := 178) dX9_plans_177 rfl rfl ?_
        refine rn_iload_n (x := s.2.1) (q := 179) dX9_plans_178 rfl rfl ?_
        refine rn_i2l (q := 180) dX9_plans_179 rfl ?_
        refine rn_callV (b := 95) (as := [.inr (.inl s.2.1)]) (rest := []) (q := 183) dX9_plans_180 ml_X9_275 sm_X9_tell rfl rfl (by decide) (by omega) rfl rfl (Nat.le_of_ble_eq_true rfl) rfl (m_tell (d := d + 178) m_row0 (by first | decide | simp | omega) s.2.1) ?_
        intro r180 mem180 hq180
        obtain ⟨rfl, hr180, hf180⟩ := hq180
        show am_Rn l G _ _ 183 [some (.inr (.inr 96)), some (.inl k), some (.inl s.1), some (.inl s.2.1), some (.inl s.2.2), some (.inl ((2 ^ h.1 : Nat) : Int)), l6, l7, l8] [] mem180 _
        refine rn_aload_n (x := 95) (q := 184) dX9_plans_183 rfl rfl ?_
        refine rn_iload (x := s.2.2) (q := 186) dX9_plans_184 rfl rfl ?_
        refine rn_i2l (q := 187) dX9_plans_186 rfl ?_
        refine rn_callV (b := 95) (as := [.inr (.inl s.2.2)]) (rest := []) (q := 190) dX9_plans_187 ml_X9_275 sm_X9_tell rfl rfl (by decide) (by omega) rfl rfl (Nat.le_of_ble_eq_true rfl) rfl (m_tell (d := d + 178) hr180 (by first | decide | simp | omega) s.2.2) ?_
        intro r187 mem187 hq187
        obtain ⟨rfl, hr187, hf187⟩ := hq187
        show am_Rn l G _ _ 190 [some (.inr (.inr 96)), some (.inl k), some (.inl s.1), some (.inl s.2.1), some (.inl s.2.2), some (.inl ((2 ^ h.1 : Nat) : Int)), l6, l7, l8] [] mem187 _
        refine rn_iload_n (x := s.1) (q := 191) dX9_plans_190 rfl rfl ?_
        refine rn_iret dX9_plans_191 rfl ?_
        exact hQ _ _ ⟨fun hn => absurd hk hn, fun _ => by rw [← hs]; unfold plA plR; rw [if_neg (by omega), if_neg (by omega)]; exact ⟨rfl, (((frS.up (a := 95) (k := 10) (x := 0) hf.r9 rfl).tr hf180).tr hf187), hr187⟩⟩
      · refine rn_bipush (q := 171) dX9_plans_169 ⟨by decide, by decide⟩ rfl ?_
        refine rn_iret dX9_plans_171 rfl ?_
        exact hQ _ _ ⟨fun hn => absurd hk hn, fun _ => by rw [← hs]; unfold plA plR; rw [if_pos (by omega), if_pos (by omega)]; exact ⟨rfl, hf.r9, hR.kept hf⟩⟩
  refine rn_aload_n (x := 95) (q := 1) dX9_plans_0 rfl rfl ?_
  refine rn_iconst (q := 2) dX9_plans_1 (am_okd rfl) rfl ?_
  refine rn_puti (a := 95) (q := 5) dX9_plans_2 fl_X9_107 rfl rfl rfl rfl ?_
  refine rn_iload_n (x := k) (q := 6) dX9_plans_5 rfl rfl ?_
  refine rn_iconst (q := 7) dX9_plans_6 (am_okd rfl) rfl ?_
  refine rn_bipush (q := 9) dX9_plans_7 ⟨by decide, by decide⟩ rfl ?_
  refine rn_callS (as := [.inl k, .inl 0, .inl 18]) (rest := []) (q := 12) dX9_plans_9 ml_X9_116 sm_X9_in (by omega) rfl rfl (Nat.le_of_ble_eq_true rfl) rfl (s_in9 (d := d + 178) k 0 18) ?_
  intro r9 mem9 hq9
  obtain ⟨⟨rfl, hi9⟩ | ⟨rfl, hi9⟩, rfl⟩ := hq9
  · show am_Rn l G _ _ 12 [some (.inr (.inr 96)), some (.inl k), none, none, none, none, none, none, none] [.inl 1] (am_up mem 95 11 0) _
    refine rn_ifne (t := 17) (q := 15) dX9_plans_12 rfl rfl (fun w12 => ?_) (fun h => absurd h (by decide))
    refine rn_iconst (q := 18) dX9_plans_17 (am_okd rfl) rfl ?_
    refine rn_istore_n (ls' := [some (.inr (.inr 96)), some (.inl k), some (.inl (-1)), none, none, none, none, none, none]) (q := 19) dX9_plans_18 (by decide) rfl rfl ?_
    refine rn_iconst (q := 20) dX9_plans_19 (am_okd rfl) rfl ?_
    refine rn_istore_n (ls' := [some (.inr (.inr 96)), some (.inl k), some (.inl (-1)), some (.inl (-1)), none, none, none, none, none]) (q := 21) dX9_plans_20 (by decide) rfl rfl ?_
    refine rn_iconst (q := 22) dX9_plans_21 (am_okd rfl) rfl ?_
    refine rn_istore (ls' := [some (.inr (.inr 96)), some (.inl k), some (.inl (-1)), some (.inl (-1)), some (.inl (-1)), none, none, none, none]) (q := 24) dX9_plans_22 (by decide) rfl rfl ?_
    refine rn_iconst (q := 25) dX9_plans_24 (am_okd rfl) rfl ?_
    refine rn_istore (ls' := [some (.inr (.inr 96)), some (.inl k), some (.inl (-1)), some (.inl (-1)), some (.inl (-1)), some (.inl 0), none, none, none]) (q := 27) dX9_plans_25 (by decide) rfl rfl ?_
    exact L (by omega) 0 (Nat.zero_le _) _ (-1, -1, -1) _ _ _ (frS.rf.up rfl) rfl
  · show am_Rn l G _ _ 12 [some (.inr (.inr 96)), some (.inl k), none, none, none, none, none, none, none] [.inl 0] (am_up mem 95 11 0) _
    refine rn_ifne (t := 17) (q := 15) dX9_plans_12 rfl rfl (fun h => absurd h (by decide)) (fun w12 => ?_)
    refine rn_iconst (q := 16) dX9_plans_15 (am_okd rfl) rfl ?_
    refine rn_iret dX9_plans_16 rfl ?_
    exact hQ _ _ ⟨fun _ => ⟨rfl, (frS.up (a := 95) (k := 11) (x := 0) frS.rf rfl), hR.kept (frS.rf.up rfl)⟩, fun hn => by omega⟩
end P78
