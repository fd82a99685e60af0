/-! plans -/
abbrev plT : Type := Int × Int × Int
def plI (D L : Nat → Nat → Int) (k : Int) (o : Nat) (s : plT) : Nat → plT
  | 0 => s
  | t + 1 => if k ≤ L o t ∧ (plI D L k o s t).1 < D o t then (D o t, (o : Int), (t : Int)) else plI D L k o s t
def plO (D L : Nat → Nat → Int) (k : Int) (N : Nat) : Nat → plT
  | 0 => (-1, -1, -1)
  | o + 1 => plI D L k o (plO D L k N o) N
def plA (s : plT) : Int := if s.2.1 = -1 then -2 else s.1
def plR (R : List Int) (s : plT) : List Int := if s.2.1 = -1 then R else [s.2.1, s.2.2]
def plG (s : plT) : Prop := s = (-1, -1, -1) ∨ (0 ≤ s.1 ∧ s.1 ≤ 1400 ∧ 0 ≤ s.2.1)
theorem plI_ok {D L : Nat → Nat → Int} {k : Int} {o : Nat} {s : plT} (hD : ∀ o t, 0 ≤ D o t ∧ D o t ≤ 1400) (hs : plG s) : ∀ t, plG (plI D L k o s t) := by
  intro t
  induction t with
  | zero => exact hs
  | succ t ih =>
    rw [plI]
    split
    · exact Or.inr ⟨(hD o t).1, (hD o t).2, by show (0 : Int) ≤ (o : Int); omega⟩
    · exact ih
theorem plO_ok {D L : Nat → Nat → Int} {k : Int} {N : Nat} (hD : ∀ o t, 0 ≤ D o t ∧ D o t ≤ 1400) : ∀ o, plG (plO D L k N o) := by
  intro o
  induction o with
  | zero => exact Or.inl rfl
  | succ o ih => exact plI_ok hD ih N
theorem plI_same {D L : Nat → Nat → Int} {k : Int} {o : Nat} {s : plT} : ∀ t, (∀ j, j < t → k ≤ L o j → D o j ≤ s.1) → plI D L k o s t = s := by
  intro t
  induction t with
  | zero => intro _; rfl
  | succ t ih =>
    intro h
    have h1 := ih (fun j hj => h j (by omega))
    rw [plI, h1, if_neg (fun q => by have := h t (by omega) q.1; omega)]
def n2E (X : List Nat) (h : hrs) (sn : Nat) (sg : Nat → Nat) (e : est) (o t : Nat) : est := onE (nextE X h sn sg (onE e o)) t
def plD (X : List Nat) (h : hrs) (sn : Nat) (sg : Nat → Nat) (e : est) (o t : Nat) : Int := aD X h sn sg e o + pD (mvE X h sn sg (n2E X h sn sg e o t)) t (wE sn sg (n2E X h sn sg e o t)) h.2.2.2 h.1
def plL (X : List Nat) (h : hrs) (sn : Nat) (sg : Nat → Nat) (e : est) (o t : Nat) : Int := aL X h sn sg e o + pL (mvE X h sn sg (n2E X h sn sg e o t)) t (wE sn sg (n2E X h sn sg e o t)) h.1
theorem plD_ok {X : List Nat} {h : hrs} {sn : Nat} {sg : Nat → Nat} {e : est} (hs : ∀ i, sg i ≤ 9) (ho : h_ok h) (o t : Nat) : 0 ≤ plD X h sn sg e o t ∧ plD X h sn sg e o t ≤ 1400 := by
  have h0 := aD_ok (X := X) (sn := sn) (e := e) hs ho o
  have h1 := pD_ok (mk := t) (mvE_nn (X := X) (h := h) (sn := sn) (sg := sg) (e := n2E X h sn sg e o t)) (wE_ok (sn := sn) (e := n2E X h sn sg e o t) hs) ho.2.2.2 h.1
  have h2 := ho.1
  unfold plD
  omega
/-- what is paid to those who pay t and more -/
def px (p : Nat → Int) (py : Nat → Nat) (t : Nat) : Nat → Int
  | 0 => 0
  | i + 1 => px p py t i + (if t ≤ py i then p i else 0)
theorem pD_px {mv : Nat → Int} {mk : Nat} {w : Int} {py : Nat → Nat} (hp : ∀ i, py i ≤ 9) : ∀ i, pD mv mk w py i = gvS (fun t => px (pP mv mk w) py t i) 9 := by
  intro i
  induction i with
  | zero => rfl
  | succ i ih =>
    have h1 : gvS (fun t => px (pP mv mk w) py t (i + 1)) 9 = gvS (fun t => px (pP mv mk w) py t i) 9 + gvS (fun t => if t ≤ py i then pP mv mk w i else 0) 9 := by
      rw [← gvS_add]; rfl
    rw [pD, h1, ih, gvS_const, show min 9 (py i) = py i by have := hp i; omega]
theorem px_le {p : Nat → Int} {py : Nat → Nat} {t : Nat} {sh : Nat → Int} {n mk : Nat} (h0 : ∀ i, 0 ≤ p i) (hb : ∀ i, i < n → mk.testBit i = true) (hp : ∀ i, i < n → p i ≤ sh i) : ∀ i, i ≤ n → px p py t i ≤ cap sh py mk t i := by
  intro i
  induction i with
  | zero => intro _; exact Int.le_refl _
  | succ i ih =>
    intro hi
    have h1 := ih (by omega)
    have h2 := hp i (by omega)
    rw [px, cap]
    by_cases ht : t ≤ py i
    · rw [if_pos ht, if_pos ⟨hb i (by omega), ht⟩]; omega
    · rw [if_neg ht, if_neg (fun q => ht q.2)]; omega
theorem px_tot {mv : Nat → Int} {mk : Nat} {w : Int} {py : Nat → Nat} {t : Nat} (h0 : ∀ i, 0 ≤ pP mv mk w i) : ∀ i, px (pP mv mk w) py t i ≤ w - pL mv mk w i := by
  intro i
  induction i with
  | zero => show (0 : Int) ≤ w - w; omega
  | succ i ih =>
    have h1 := h0 i
    have e1 : pL mv mk w (i + 1) = pL mv mk w i - pP mv mk w i := by rw [pL, pP]
    rw [px, e1]
    split <;> omega
theorem pD_gv {mv : Nat → Int} {mk ev n : Nat} {w op : Int} {py : Nat → Nat} {sh : Nat → Int} (hmn : ∀ i, 0 ≤ mv i) (hw : 0 ≤ w ∧ w ≤ 9) (hp : ∀ i, py i ≤ 9) (hb : ∀ i, i < n → ev.testBit i = true) (hsh : ∀ i, i < n → mv i ≤ sh i) (hs0 : ∀ i, 0 ≤ sh i) (ho : w - pL mv mk w n ≤ op) : pD mv mk w py n ≤ gv sh py ev n op := by
  rw [pD_px hp]
  refine gvS_le 9 (fun t _ _ => ?_)
  have h1 := px_tot (py := py) (t := t) (fun i => (pP_ok (mk := mk) hmn hw i).1) n
  have h2 := px_le (py := py) (t := t) (sh := sh) (n := n) (mk := ev) (fun i => (pP_ok (mk := mk) hmn hw i).1) hb (fun i hi => by
    have := hsh i hi
    have h3 := pL_ok (mk := mk) hmn hw i
    have h4 := hs0 i
    unfold pP
    split <;> omega) n (Nat.le_refl _)
  unfold gm
  omega
theorem pcg {f g : Nat → Int} {mk : Nat} {w : Int} : ∀ n, (∀ i, i < n → mk.testBit i = true → f i = g i) → pL f mk w n = pL g mk w n ∧ ∀ i, i < n → pP f mk w i = pP g mk w i := by
  intro n
  induction n with
  | zero => intro _; exact ⟨rfl, fun i hi => absurd hi (Nat.not_lt_zero _)⟩
  | succ n ih =>
    intro h
    obtain ⟨h1, h2⟩ := ih (fun i hi => h i (by omega))
    have h3 : pP f mk w n = pP g mk w n := by
      unfold pP
      by_cases hb : mk.testBit n = true
      · rw [if_pos hb, if_pos hb, h1, h n (by omega) hb]
      · rw [if_neg hb, if_neg hb]
    have e1 : pL f mk w (n + 1) = pL f mk w n - pP f mk w n := by rw [pL, pP]
    have e2 : pL g mk w (n + 1) = pL g mk w n - pP g mk w n := by rw [pL, pP]
    refine ⟨by rw [e1, e2, h1, h3], fun i hi => ?_⟩
    by_cases e : i = n
    · rw [e]; exact h3
    · exact h2 i (by omega)
section P77
variable {l : Launch} {G : am_G} {d : Nat} {r : Nat} {X : List Nat} {C : List Int} {sn : Nat} {sg : Nat → Nat} {h : hrs} {e : est} {NB : Nat} {mem m : am_M}
theorem c_follow (q : CQ r X C sn sg h e NB mem) {p : Nat → Int} (hp : ∀ i, i < h.1 → mem 73 i = p i) (hp9 : ∀ i, 0 ≤ p i ∧ p i ≤ 9) : am_Sm l G yX1_follow mt_X1_follow d [.inr (.inr 76), .inr (.inr 6), .inr (.inr 72)] mem (fun q m => q = none ∧ (∀ i, i < h.1 → m 76 i = p i) ∧ ∀ b, b ≠ 76 → m b = mem b) := by
  refine am_enterQ (ls := [some (.inr (.inr 76)), some (.inr (.inr 6)), some (.inr (.inr 72)), none]) (by decide) rfl (Nat.le_of_ble_eq_true rfl) rfl (fun hok Q hQ => ?_)
  have b := q.bd
  have L : ∀ i : Nat, i ≤ h.1 → ∀ m : am_M, (∀ b, b ≠ 76 → m b = mem b) → (∀ j, j < i → m 76 j = p j) → am_Rn l G mt_X1_follow d 2 [some (.inr (.inr 76)), some (.inr (.inr 6)), some (.inr (.inr 72)), some (.inl (i : Int))] [] m Q := by
    refine am_dn h.1 (fun i hi ih m hf hj => ?_)
    have p9 := hp9 i
    have e6 : m 5 6 = (h.1 : Int) := by rw [hf 5 (by decide)]; exact q.n
    refine rn_iload_n (x := (i : Int)) (q := 3) dX1_follow_2 rfl rfl ?_
    refine rn_aload_n (x := 5) (q := 4) dX1_follow_3 rfl rfl ?_
    refine rn_get (a := 5) (v := .inl (h.1 : Int)) (q := 7) dX1_follow_4 fl_X1_38 rfl (am_gi e6) rfl ?_
    refine rn_cmpge (t := 37) (q := 10) dX1_follow_7 rfl rfl (fun w7 => ?_) (fun w7 => ?_)
    · refine rn_vret dX1_follow_37 rfl ?_
      obtain rfl : i = h.1 := by omega
      exact hQ _ _ ⟨rfl, hj, hf⟩
    · refine rn_aload_n (x := 75) (q := 11) dX1_follow_10 rfl rfl ?_
      refine rn_get (a := 75) (v := .inr (.inr 77)) (q := 14) dX1_follow_11 fl_X1_9 rfl rfl rfl ?_
      refine rn_iload_n (x := (i : Int)) (q := 15) dX1_follow_14 rfl rfl ?_
      refine rn_aload_n (x := 71) (q := 16) dX1_follow_15 rfl rfl ?_
      refine rn_get (a := 71) (v := .inr (.inr 74)) (q := 19) dX1_follow_16 fl_X1_15 rfl rfl rfl ?_
      refine rn_iload_n (x := (i : Int)) (q := 20) dX1_follow_19 rfl rfl ?_
      refine rn_ialdV (a := 73) (v := p i) (q := 21) dX1_follow_20 rfl (by omega) (by omega) ((congrFun (hf 73 (by decide)) i).trans (hp i (by omega))) rfl ?_
      refine rn_aload_n (x := 75) (q := 22) dX1_follow_21 rfl rfl ?_
      refine rn_get (a := 75) (v := .inl 10) (q := 25) dX1_follow_22 fl_X1_22 rfl rfl rfl ?_
      refine rn_iconst (q := 26) dX1_follow_25 (am_okd rfl) rfl ?_
      refine rn_isubN (z := 9) (q := 27) dX1_follow_26 rfl (by unfold am_ok; omega) rfl ?_
      refine rn_mmin (q := 30) dX1_follow_27 am_mm_X1_46 am_mminw (Nat.le_of_ble_eq_true rfl) rfl ?_
      rw [show (min (p i) 9) = p i from (by omega)]
      refine rn_iastV (a := 76) (m1 := am_up m 76 i (p i)) (q := 31) dX1_follow_30 rfl (by omega) (by omega) rfl rfl ?_
      refine rn_iincN (x := (i : Int)) (z := ((i + 1 : Nat) : Int)) (ls' := [some (.inr (.inr 76)), some (.inr (.inr 6)), some (.inr (.inr 72)), some (.inl ((i + 1 : Nat) : Int))]) (q := 34) dX1_follow_31 rfl (by decide) (by omega) (by unfold am_ok; omega) rfl rfl ?_
      refine rn_goto (t := 2) dX1_follow_34 rfl ?_
      refine ih (by omega) _ (fun b2 hb => (am_up_ne hb).trans (hf b2 hb)) (fun j hj2 => ?_)
      rw [am_up_at]
      by_cases e1 : j = i
      · rw [if_pos e1, e1]
      · rw [if_neg e1]; exact hj j (by omega)
  refine rn_iconst (q := 1) dX1_follow_0 (am_okd rfl) rfl ?_
  refine rn_istore_n (ls' := [some (.inr (.inr 76)), some (.inr (.inr 6)), some (.inr (.inr 72)), some (.inl 0)]) (q := 2) dX1_follow_1 (by decide) rfl rfl ?_
  exact L 0 (Nat.zero_le _) mem (fun _ _ => rfl) (fun j hj => absurd hj (Nat.not_lt_zero _))
theorem c_mostOf {T : Nat → Nat → Int} (n mm i : Nat) (hn : n ≤ 8) (hm : mm ≤ 9) (hi : i < 8) (hT : ∀ mo pr, mo ≤ mm → 1 ≤ pr → pr ≤ n → mem 78 ((i * 10 + mo) * 9 + pr) = T mo pr) (hT9 : ∀ mo pr, 0 ≤ T mo pr ∧ T mo pr ≤ 9) : am_Sm l G yX1_mostOf mt_X1_mostOf (d + 1) [.inr (.inr 76), .inl (i : Int), .inl (n : Int), .inl (mm : Int)] mem (fun q m => (∃ x : Int, q = some (.inl x) ∧ (0 ≤ x ∧ x ≤ 9) ∧ ∀ mo pr, mo ≤ mm → 1 ≤ pr → pr ≤ n → T mo pr ≤ x) ∧ mem = m) := by
  refine am_enterQ (ls := [some (.inr (.inr 76)), some (.inl (i : Int)), some (.inl (n : Int)), some (.inl (mm : Int)), none, none, none]) (by decide) rfl (Nat.le_of_ble_eq_true rfl) rfl (fun hok Q hQ => ?_)
  have L : ∀ c : Nat, c ≤ mm + 1 → ∀ (x : Int) (lx : Option am_V), 0 ≤ x ∧ x ≤ 9 → (∀ mo pr, mo < c → 1 ≤ pr → pr ≤ n → T mo pr ≤ x) → am_Rn l G mt_X1_mostOf (d + 1) 6 [some (.inr (.inr 76)), some (.inl (i : Int)), some (.inl (n : Int)), some (.inl (mm : Int)), some (.inl x), some (.inl (c : Int)), lx] [] mem Q := by
    refine am_dn (mm + 1) (fun c hc ih x lx hx hj => ?_)
    have K : c < mm + 1 → ∀ p : Nat, p ≤ n + 1 → 1 ≤ p → ∀ x : Int, 0 ≤ x ∧ x ≤ 9 → (∀ mo pr, mo < c ∨ (mo = c ∧ pr < p) → 1 ≤ pr → pr ≤ n → T mo pr ≤ x) → am_Rn l G mt_X1_mostOf (d + 1) 24 [some (.inr (.inr 76)), some (.inl (i : Int)), some (.inl (n : Int)), some (.inl (mm : Int)), some (.inl x), some (.inl (c : Int)), some (.inl (p : Int))] [] mem Q := by
      intro hlt
      refine am_dn (n + 1) (fun p hp ih2 h1 x hx hj => ?_)
      have t9 := hT9 c p
      refine rn_iload (x := (p : Int)) (q := 26) dX1_mostOf_24 rfl rfl ?_
      refine rn_iload_n (x := (n : Int)) (q := 27) dX1_mostOf_26 rfl rfl ?_
      refine rn_cmpgt (t := 64) (q := 30) dX1_mostOf_27 rfl rfl (fun w27 => ?_) (fun w27 => ?_)
      · refine rn_iincN (x := (c : Int)) (z := ((c + 1 : Nat) : Int)) (ls' := [some (.inr (.inr 76)), some (.inl (i : Int)), some (.inl (n : Int)), some (.inl (mm : Int)), some (.inl x), some (.inl ((c + 1 : Nat) : Int)), some (.inl (p : Int))]) (q := 67) dX1_mostOf_64 rfl (by decide) (by omega) (by unfold am_ok; omega) rfl rfl ?_
        refine rn_goto (t := 6) dX1_mostOf_67 rfl ?_
        exact ih hlt x _ hx (fun mo pr a1 a2 a3 => hj mo pr (by omega) a2 a3)
      · refine rn_iload (x := (p : Int)) (q := 32) dX1_mostOf_30 rfl rfl ?_
        refine rn_bipush (q := 34) dX1_mostOf_32 ⟨by decide, by decide⟩ rfl ?_
        refine rn_cmpgt (t := 64) (q := 37) dX1_mostOf_34 rfl rfl (fun h => absurd h (by omega)) (fun w34 => ?_)
        refine rn_iload (x := x) (q := 39) dX1_mostOf_37 rfl rfl ?_
        refine rn_aload_n (x := 75) (q := 40) dX1_mostOf_39 rfl rfl ?_
        refine rn_get (a := 75) (v := .inr (.inr 79)) (q := 43) dX1_mostOf_40 fl_X1_26 rfl rfl rfl ?_
        refine rn_aload_n (x := 75) (q := 44) dX1_mostOf_43 rfl rfl ?_
        refine rn_iload_n (x := (i : Int)) (q := 45) dX1_mostOf_44 rfl rfl ?_
        refine rn_iload (x := (c : Int)) (q := 47) dX1_mostOf_45 rfl rfl ?_
        refine rn_iload (x := (p : Int)) (q := 49) dX1_mostOf_47 rfl rfl ?_
        refine rn_callV (b := 75) (as := [.inl (i : Int), .inl (c : Int), .inl (p : Int)]) (rest := [.inr (.inr 79), .inl x]) (q := 52) dX1_mostOf_49 ml_X1_52 sm_X1_place rfl rfl (by decide) (by omega) rfl rfl (Nat.le_of_ble_eq_true rfl) rfl (s_place75 (d := d + 0) i c p (by omega) (by omega) (by omega)) ?_
        intro r49 mem49 hq49
        obtain ⟨rfl, rfl⟩ := hq49
        show am_Rn l G _ _ 52 [some (.inr (.inr 76)), some (.inl (i : Int)), some (.inl (n : Int)), some (.inl (mm : Int)), some (.inl x), some (.inl (c : Int)), some (.inl (p : Int))] [.inl (((i * 10 + c) * 9 + p : Nat) : Int), .inr (.inr 79), .inl x] mem _
        refine rn_ialdV (a := 78) (v := T c p) (q := 53) dX1_mostOf_52 rfl (by omega) (by omega) (hT c p (by omega) (by omega) (by omega)) rfl ?_
        refine rn_mmax (q := 56) dX1_mostOf_53 am_mm_X1_63 am_mmaxw (Nat.le_of_ble_eq_true rfl) rfl ?_
        refine rn_istore (ls' := [some (.inr (.inr 76)), some (.inl (i : Int)), some (.inl (n : Int)), some (.inl (mm : Int)), some (.inl (max x (T c p))), some (.inl (c : Int)), some (.inl (p : Int))]) (q := 58) dX1_mostOf_56 (by decide) rfl rfl ?_
        refine rn_iincN (x := (p : Int)) (z := ((p + 1 : Nat) : Int)) (ls' := [some (.inr (.inr 76)), some (.inl (i : Int)), some (.inl (n : Int)), some (.inl (mm : Int)), some (.inl (max x (T c p))), some (.inl (c : Int)), some (.inl ((p + 1 : Nat) : Int))]) (q := 61) dX1_mostOf_58 rfl (by decide) (by omega) (by unfold am_ok; omega) rfl rfl ?_
        refine rn_goto (t := 24) dX1_mostOf_61 rfl ?_
        refine ih2 (by omega) (by omega) _ (by omega) (fun mo pr a1 a2 a3 => ?_)
        by_cases e1 : mo = c ∧ pr = p
        · rw [e1.1, e1.2]; omega
        · have := hj mo pr (by omega) a2 a3; omega
    refine rn_iload (x := (c : Int)) (q := 8) dX1_mostOf_6 rfl rfl ?_
    refine rn_iload_n (x := (mm : Int)) (q := 9) dX1_mostOf_8 rfl rfl ?_
    refine rn_cmpgt (t := 70) (q := 12) dX1_mostOf_9 rfl rfl (fun w9 => ?_) (fun w9 => ?_)
    · refine rn_iload (x := x) (q := 72) dX1_mostOf_70 rfl rfl ?_
      refine rn_iret dX1_mostOf_72 rfl ?_
      first | exact hQ _ _ ⟨⟨x, rfl, hx, fun mo pr a1 a2 a3 => hj mo pr (by omega) a2 a3⟩, rfl⟩ | (exfalso; omega)
    · refine rn_iload (x := (c : Int)) (q := 14) dX1_mostOf_12 rfl rfl ?_
      refine rn_aload_n (x := 75) (q := 15) dX1_mostOf_14 rfl rfl ?_
      refine rn_get (a := 75) (v := .inl 10) (q := 18) dX1_mostOf_15 fl_X1_22 rfl rfl rfl ?_
      refine rn_cmpge (t := 70) (q := 21) dX1_mostOf_18 rfl rfl (fun w18 => ?_) (fun w18 => ?_)
      · refine rn_iload (x := x) (q := 72) dX1_mostOf_70 rfl rfl ?_
        refine rn_iret dX1_mostOf_72 rfl ?_
        first | exact hQ _ _ ⟨⟨x, rfl, hx, fun mo pr a1 a2 a3 => hj mo pr (by omega) a2 a3⟩, rfl⟩ | (exfalso; omega)
      · refine rn_iconst (q := 22) dX1_mostOf_21 (am_okd rfl) rfl ?_
        refine rn_istore (ls' := [some (.inr (.inr 76)), some (.inl (i : Int)), some (.inl (n : Int)), some (.inl (mm : Int)), some (.inl x), some (.inl (c : Int)), some (.inl 1)]) (q := 24) dX1_mostOf_22 (by decide) rfl rfl ?_
        exact K (by omega) 1 (by omega) (by omega) x hx (fun mo pr a1 a2 a3 => hj mo pr (by omega) a2 a3)
  refine rn_iconst (q := 1) dX1_mostOf_0 (am_okd rfl) rfl ?_
  refine rn_istore (ls' := [some (.inr (.inr 76)), some (.inl (i : Int)), some (.inl (n : Int)), some (.inl (mm : Int)), some (.inl 0), none, none]) (q := 3) dX1_mostOf_1 (by decide) rfl rfl ?_
  refine rn_iconst (q := 4) dX1_mostOf_3 (am_okd rfl) rfl ?_
  refine rn_istore (ls' := [some (.inr (.inr 76)), some (.inl (i : Int)), some (.inl (n : Int)), some (.inl (mm : Int)), some (.inl 0), some (.inl 0), none]) (q := 6) dX1_mostOf_4 (by decide) rfl rfl ?_
  exact L 0 (by omega) 0 _ (by omega) (fun mo pr a1 => absurd a1 (Nat.not_lt_zero _))
end P77
