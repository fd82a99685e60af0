/-! nearest, raises, grows, envy -/
abbrev nrc (a b v : Int) (x y : Nat) : Prop := (a - v).natAbs < (b - v).natAbs ∨ ((a - v).natAbs = (b - v).natAbs ∧ (a < b ∨ (a = b ∧ x < y)))
def nr (H : Nat → Nat) (v : Int) : Nat → Nat
  | 0 => 0
  | k + 1 => if nrc (H k) (H (nr H v k)) v (pc k) (pc (nr H v k)) then k else nr H v k
theorem nr_ok {H : Nat → Nat} {v : Int} : ∀ k, nr H v k = 0 ∨ nr H v k < k := by
  intro k
  induction k with
  | zero => exact Or.inl rfl
  | succ k ih => rw [nr]; split <;> omega
/-- raises: whom, how much (1000000: nobody) -/
def rai (py : Nat → Nat) (lk bk : Int) : Nat → Int × Int
  | 0 => (-1, 1000000)
  | i + 1 => if py i ≠ 0 ∧ (lk + 2 * (py i : Int) - 1).tdiv (2 * (py i : Int)) ≤ bk ∧ (lk + 2 * (py i : Int) - 1).tdiv (2 * (py i : Int)) < (rai py lk bk i).2 then ((i : Int), (lk + 2 * (py i : Int) - 1).tdiv (2 * (py i : Int))) else rai py lk bk i
theorem rai_q {py : Nat} {lk : Int} (h0 : py ≠ 0) (h1 : 0 < lk ∧ lk ≤ 9999) (h9 : py ≤ 9) : 0 ≤ (lk + 2 * (py : Int) - 1).tdiv (2 * (py : Int)) ∧ (lk + 2 * (py : Int) - 1).tdiv (2 * (py : Int)) ≤ 10100 := by
  rw [Int.tdiv_eq_ediv_of_nonneg (by omega)]
  refine ⟨Int.ediv_nonneg (by omega) (by omega), ?_⟩
  have := Int.ediv_le_self (a := lk + 2 * (py : Int) - 1) (2 * (py : Int)) (by omega)
  omega
theorem rai_ok {py : Nat → Nat} {lk bk : Int} (h1 : 0 < lk ∧ lk ≤ 9999) (h9 : ∀ i, py i ≤ 9) : ∀ i, (rai py lk bk i = (-1, 1000000)) ∨ (0 ≤ (rai py lk bk i).1 ∧ (rai py lk bk i).1 < i ∧ 0 ≤ (rai py lk bk i).2 ∧ (rai py lk bk i).2 ≤ 10100) := by
  intro i
  induction i with
  | zero => exact Or.inl rfl
  | succ i ih =>
    rw [rai]
    split
    · rename_i hc
      have := rai_q hc.1 h1 (h9 i)
      exact Or.inr ⟨by show (0 : Int) ≤ (i : Int); omega, by show (i : Int) < ((i + 1 : Nat) : Int); omega, this.1, this.2⟩
    · rcases ih with ih | ih
      · exact Or.inl ih
      · exact Or.inr ⟨ih.1, by omega, ih.2.2⟩
/-- grows: coins, changes -/
def grw (s g : Int) : Nat → Int × Nat
  | 0 => (s, 0)
  | k + 1 => (max 0 (min 9999 ((grw s g k).1 + ((grw s g k).1 * g).tdiv 10)), (grw s g k).2 + (if max 0 (min 9999 ((grw s g k).1 + ((grw s g k).1 * g).tdiv 10)) = (grw s g k).1 then 0 else 1))
theorem grw_ok {s g : Int} (hs : 0 ≤ s ∧ s ≤ 9999) : ∀ k, 0 ≤ (grw s g k).1 ∧ (grw s g k).1 ≤ 9999 ∧ (grw s g k).2 ≤ k := by
  intro k
  induction k with
  | zero => exact ⟨hs.1, hs.2, Nat.le_refl _⟩
  | succ k ih =>
    rw [grw]
    refine ⟨by show 0 ≤ max 0 _; omega, by show max 0 (min 9999 _) ≤ (9999 : Int); omega, ?_⟩
    show (grw s g k).2 + (if _ then 0 else 1) ≤ k + 1
    split <;> omega
theorem tdm {c g : Int} (hc : 0 ≤ c ∧ c ≤ 9999) (hg : -5 ≤ g ∧ g ≤ 5) : -50000 ≤ c * g ∧ c * g ≤ 50000 ∧ -50000 ≤ (c * g).tdiv 10 ∧ (c * g).tdiv 10 ≤ 50000 := by
  have hp : -50000 ≤ c * g ∧ c * g ≤ 50000 := by
    constructor
    · have : c * (-5) ≤ c * g := Int.mul_le_mul_of_nonneg_left hg.1 hc.1
      omega
    · have : c * g ≤ c * 5 := Int.mul_le_mul_of_nonneg_left hg.2 hc.1
      omega
  refine ⟨hp.1, hp.2, ?_⟩
  generalize c * g = z at hp ⊢
  rw [am_td10]
  split <;> omega
/-- envy: how much (-1: no pair), the pair -/
abbrev enT : Type := Int × Int × Int
def enS (f : Nat → Nat) (i j : Nat) (s : enT) : enT := if s.1 < (((f i : Int) - (f j : Int)).natAbs : Int) then ((((f i : Int) - (f j : Int)).natAbs : Int), (i : Int), (j : Int)) else s
def enI (f : Nat → Nat) (i : Nat) (s : enT) : Nat → enT
  | 0 => s
  | j + 1 => if i < j then enS f i j (enI f i s j) else enI f i s j
def enO (f : Nat → Nat) (n : Nat) : Nat → enT
  | 0 => (-1, -1, -1)
  | i + 1 => enI f i (enO f n i) n
theorem enI_0 {f : Nat → Nat} {i : Nat} {s : enT} : ∀ j, j ≤ i + 1 → enI f i s j = s := by
  intro j
  induction j with
  | zero => intro _; rfl
  | succ j ih => intro hj; rw [enI, if_neg (by omega)]; exact ih (by omega)
theorem enI_ok {f : Nat → Nat} {i : Nat} {s : enT} (hf : ∀ i, f i ≤ 99) (h : -1 ≤ s.1 ∧ s.1 ≤ 99) : ∀ j, -1 ≤ (enI f i s j).1 ∧ (enI f i s j).1 ≤ 99 := by
  intro j
  induction j with
  | zero => exact h
  | succ j ih =>
    rw [enI]
    split
    · unfold enS
      have := hf i; have := hf j
      split
      · show -1 ≤ (((f i : Int) - (f j : Int)).natAbs : Int) ∧ (((f i : Int) - (f j : Int)).natAbs : Int) ≤ 99
        omega
      · exact ih
    · exact ih
theorem enO_ok {f : Nat → Nat} {n : Nat} (hf : ∀ i, f i ≤ 99) : ∀ i, -1 ≤ (enO f n i).1 ∧ (enO f n i).1 ≤ 99 := by
  intro i
  induction i with
  | zero => exact ⟨(by decide : (-1 : Int) ≤ -1), (by decide : (-1 : Int) ≤ 99)⟩
  | succ i ih => exact enI_ok hf ih n
def enR (R : List Int) (s : enT) : List Int := if s.1 = -1 then R else [s.2.1, s.2.2]
def enV (s : enT) : Int := if s.1 = -1 then -2 else s.1
section P53
variable {l : Launch} {G : am_G} {d : Nat} {r : Nat} {X : List Nat} {C : List Int} {sn : Nat} {sg : Nat → Nat} {h : hrs} {e : est} {NB : Nat} {mem m : am_M}
theorem s_closer (a b v : Int) (ha : 0 ≤ a ∧ a ≤ 10000) (hb : 0 ≤ b ∧ b ≤ 10000) (hv : 0 ≤ v ∧ v ≤ 10000) : am_Sm l G yX8_closer mt_X8_closer d [.inl a, .inl b, .inl v] mem (fun q m => ((q = some (.inl 1) ∧ ((a - v).natAbs < (b - v).natAbs ∨ ((a - v).natAbs = (b - v).natAbs ∧ a < b))) ∨ (q = some (.inl 0) ∧ ¬ ((a - v).natAbs < (b - v).natAbs ∨ ((a - v).natAbs = (b - v).natAbs ∧ a < b)))) ∧ mem = m) := by
  refine am_enterQ (ls := [some (.inl a), some (.inl b), some (.inl v), none, none]) (by decide) rfl (Nat.le_of_ble_eq_true rfl) rfl (fun hok Q hQ => ?_)
  refine rn_iload_n (x := a) (q := 1) dX8_closer_0 rfl rfl ?_
  refine rn_iload_n (x := v) (q := 2) dX8_closer_1 rfl rfl ?_
  refine rn_isubN (z := (a - v)) (q := 3) dX8_closer_2 rfl (by unfold am_ok; omega) rfl ?_
  refine rn_mabs (q := 6) dX8_closer_3 am_mm_X8_348 am_mabsw (by omega) (Nat.le_of_ble_eq_true rfl) rfl ?_
  refine rn_istore_n (ls' := [some (.inl a), some (.inl b), some (.inl v), some (.inl (((a - v)).natAbs : Int)), none]) (q := 7) dX8_closer_6 (by decide) rfl rfl ?_
  refine rn_iload_n (x := b) (q := 8) dX8_closer_7 rfl rfl ?_
  refine rn_iload_n (x := v) (q := 9) dX8_closer_8 rfl rfl ?_
  refine rn_isubN (z := (b - v)) (q := 10) dX8_closer_9 rfl (by unfold am_ok; omega) rfl ?_
  refine rn_mabs (q := 13) dX8_closer_10 am_mm_X8_348 am_mabsw (by omega) (Nat.le_of_ble_eq_true rfl) rfl ?_
  refine rn_istore (ls' := [some (.inl a), some (.inl b), some (.inl v), some (.inl (((a - v)).natAbs : Int)), some (.inl (((b - v)).natAbs : Int))]) (q := 15) dX8_closer_13 (by decide) rfl rfl ?_
  refine rn_iload_n (x := (((a - v)).natAbs : Int)) (q := 16) dX8_closer_15 rfl rfl ?_
  refine rn_iload (x := (((b - v)).natAbs : Int)) (q := 18) dX8_closer_16 rfl rfl ?_
  refine rn_cmplt (t := 32) (q := 21) dX8_closer_18 rfl rfl (fun w18 => ?_) (fun w18 => ?_)
  · refine rn_iconst (q := 33) dX8_closer_32 (am_okd rfl) rfl ?_
    refine rn_goto (t := 37) dX8_closer_33 rfl ?_
    refine rn_zret dX8_closer_37 rfl (by omega) ?_
    exact hQ _ _ ⟨by first | exact Or.inl ⟨rfl, by omega⟩ | exact Or.inr ⟨rfl, by omega⟩, rfl⟩
  · refine rn_iload_n (x := (((a - v)).natAbs : Int)) (q := 22) dX8_closer_21 rfl rfl ?_
    refine rn_iload (x := (((b - v)).natAbs : Int)) (q := 24) dX8_closer_22 rfl rfl ?_
    refine rn_cmpne (t := 36) (q := 27) dX8_closer_24 rfl rfl (fun w24 => ?_) (fun w24 => ?_)
    · refine rn_iconst (q := 37) dX8_closer_36 (am_okd rfl) rfl ?_
      refine rn_zret dX8_closer_37 rfl (by omega) ?_
      exact hQ _ _ ⟨by first | exact Or.inl ⟨rfl, by omega⟩ | exact Or.inr ⟨rfl, by omega⟩, rfl⟩
    · refine rn_iload_n (x := a) (q := 28) dX8_closer_27 rfl rfl ?_
      refine rn_iload_n (x := b) (q := 29) dX8_closer_28 rfl rfl ?_
      refine rn_cmpge (t := 36) (q := 32) dX8_closer_29 rfl rfl (fun w29 => ?_) (fun w29 => ?_)
      · refine rn_iconst (q := 37) dX8_closer_36 (am_okd rfl) rfl ?_
        refine rn_zret dX8_closer_37 rfl (by omega) ?_
        exact hQ _ _ ⟨by first | exact Or.inl ⟨rfl, by omega⟩ | exact Or.inr ⟨rfl, by omega⟩, rfl⟩
      · refine rn_iconst (q := 33) dX8_closer_32 (am_okd rfl) rfl ?_
        refine rn_goto (t := 37) dX8_closer_33 rfl ?_
        refine rn_zret dX8_closer_37 rfl (by omega) ?_
        exact hQ _ _ ⟨by first | exact Or.inl ⟨rfl, by omega⟩ | exact Or.inr ⟨rfl, by omega⟩, rfl⟩
theorem c_nearest (q : CQ r X C sn sg h e NB mem) {R : List Int} (hR : c_row R mem) (v : Int) : am_Sm l G yX8_nearest mt_X8_nearest (d + 2) [.inr (.inr 1), .inl v] mem (fun q m => (¬ (0 ≤ v ∧ v ≤ 999) → QC (-1) R mem q m) ∧ (0 ≤ v ∧ v ≤ 999 → QC (hsm (eH e) (nr (fun k => hsm (eH e) k h.1) v (2 ^ h.1)) h.1 : Int) [(nr (fun k => hsm (eH e) k h.1) v (2 ^ h.1) : Int)] mem q m)) := by
  refine am_enterQ (ls := [some (.inr (.inr 1)), some (.inl v), none, none, none, none, none]) (by decide) rfl (Nat.le_of_ble_eq_true rfl) rfl (fun hok Q hQ => ?_)
  have b := q.bd
  have L : ∀ i : Nat, i ≤ 2 ^ h.1 → ∀ (s : Nat) (lx ly : Option am_V), s = nr (fun k => hsm (eH e) k h.1) v i → 0 ≤ v ∧ v ≤ 999 → am_Rn l G mt_X8_nearest (d + 2) 20 [some (.inr (.inr 1)), some (.inl v), some (.inl (s : Int)), some (.inl (hsm (eH e) s h.1 : Int)), some (.inl (i : Int)), lx, ly] [] mem Q := by
    refine am_dn (2 ^ h.1) (fun i hi ih s lx ly hs hv => ?_)
    have o := nr_ok (H := fun k => hsm (eH e) k h.1) (v := v) i
    rw [← hs] at o
    have o1 := hsm_ok (mk := s) q.hd9 h.1
    have o2 := hsm_ok (mk := i) q.hd9 h.1
    refine rn_iload (x := (i : Int)) (q := 22) dX8_nearest_20 rfl rfl ?_
    refine rn_iconst (q := 23) dX8_nearest_22 (am_okd rfl) rfl ?_
    refine rn_aload_n (x := 0) (q := 24) dX8_nearest_23 rfl rfl ?_
    refine rn_get (a := 0) (v := .inr (.inr 6)) (q := 27) dX8_nearest_24 fl_X8_26 rfl rfl rfl ?_
    refine rn_get (a := 5) (v := .inl (h.1 : Int)) (q := 30) dX8_nearest_27 fl_X8_136 rfl (am_gi q.n) rfl ?_
    refine rn_ishl (q := 31) dX8_nearest_30 rfl ?_
    rw [show am_shl 1 (h.1 : Int) = ((2 ^ h.1 : Nat) : Int) from am_shl1 _ (by omega)]
    refine rn_cmpge (t := 94) (q := 34) dX8_nearest_31 rfl rfl (fun w31 => ?_) (fun w31 => ?_)
    · refine rn_aload_n (x := 0) (q := 95) dX8_nearest_94 rfl rfl ?_
      refine rn_get (a := 0) (v := .inr (.inr 4)) (q := 98) dX8_nearest_95 fl_X8_19 rfl rfl rfl ?_
      refine rn_iload_n (x := (s : Int)) (q := 99) dX8_nearest_98 rfl rfl ?_
      refine rn_i2l (q := 100) dX8_nearest_99 rfl ?_
      refine rn_callV (b := 3) (as := [.inr (.inl (s : Int))]) (rest := []) (q := 103) dX8_nearest_100 ml_X8_299 sm_X3_tell rfl rfl (by decide) (by omega) rfl rfl (Nat.le_of_ble_eq_true rfl) rfl (s_Rtell (d := d + 0) (s : Int)) ?_
      intro r100 mem100 hq100
      obtain ⟨rfl, hr100, hf100⟩ := hq100
      show am_Rn l G _ _ 103 [some (.inr (.inr 1)), some (.inl v), some (.inl (s : Int)), some (.inl (hsm (eH e) s h.1 : Int)), some (.inl (i : Int)), lx, ly] [] mem100 _
      refine rn_iload_n (x := (hsm (eH e) s h.1 : Int)) (q := 104) dX8_nearest_103 rfl rfl ?_
      refine rn_iret dX8_nearest_104 rfl ?_
      exact hQ _ _ ⟨fun hn => absurd hv hn, fun _ => by rw [show 2 ^ h.1 = i by omega, ← hs]; exact ⟨rfl, (fr_row hf100), hr100⟩⟩
    · refine rn_aload_n (x := 0) (q := 35) dX8_nearest_34 rfl rfl ?_
      refine rn_iload (x := (i : Int)) (q := 37) dX8_nearest_35 rfl rfl ?_
      refine rn_callV (b := 0) (as := [.inl (i : Int)]) (rest := []) (q := 40) dX8_nearest_37 ml_X8_341 sm_X8_heardBy rfl rfl (by decide) (by omega) rfl rfl (Nat.le_of_ble_eq_true rfl) rfl (c_heardBy (d := d + 1) q i (by omega)) ?_
      intro r37 mem37 hq37
      obtain ⟨rfl, rfl⟩ := hq37
      show am_Rn l G _ _ 40 [some (.inr (.inr 1)), some (.inl v), some (.inl (s : Int)), some (.inl (hsm (eH e) s h.1 : Int)), some (.inl (i : Int)), lx, ly] [.inl (hsm (eH e) i h.1 : Int)] mem _
      refine rn_istore (ls' := [some (.inr (.inr 1)), some (.inl v), some (.inl (s : Int)), some (.inl (hsm (eH e) s h.1 : Int)), some (.inl (i : Int)), some (.inl (hsm (eH e) i h.1 : Int)), ly]) (q := 42) dX8_nearest_40 (by decide) rfl rfl ?_
      refine rn_iload (x := (hsm (eH e) i h.1 : Int)) (q := 44) dX8_nearest_42 rfl rfl ?_
      refine rn_iload_n (x := (hsm (eH e) s h.1 : Int)) (q := 45) dX8_nearest_44 rfl rfl ?_
      refine rn_cmpne (t := 64) (q := 48) dX8_nearest_45 rfl rfl (fun w45 => ?_) (fun w45 => ?_)
      · refine rn_iconst (q := 65) dX8_nearest_64 (am_okd rfl) rfl ?_
        refine rn_istore (ls' := [some (.inr (.inr 1)), some (.inl v), some (.inl (s : Int)), some (.inl (hsm (eH e) s h.1 : Int)), some (.inl (i : Int)), some (.inl (hsm (eH e) i h.1 : Int)), some (.inl 0)]) (q := 67) dX8_nearest_65 (by decide) rfl rfl ?_
        refine rn_iload (x := 0) (q := 69) dX8_nearest_67 rfl rfl ?_
        refine rn_ifne (t := 82) (q := 72) dX8_nearest_69 rfl rfl (fun h => absurd h (by decide)) (fun w69 => ?_)
        refine rn_iload (x := (hsm (eH e) i h.1 : Int)) (q := 74) dX8_nearest_72 rfl rfl ?_
        refine rn_iload_n (x := (hsm (eH e) s h.1 : Int)) (q := 75) dX8_nearest_74 rfl rfl ?_
        refine rn_iload_n (x := v) (q := 76) dX8_nearest_75 rfl rfl ?_
        refine rn_callS (as := [.inl (hsm (eH e) i h.1 : Int), .inl (hsm (eH e) s h.1 : Int), .inl v]) (rest := []) (q := 79) dX8_nearest_76 ml_X8_344 sm_X8_closer (by omega) rfl rfl (Nat.le_of_ble_eq_true rfl) rfl (s_closer (d := d + 1) (hsm (eH e) i h.1 : Int) (hsm (eH e) s h.1 : Int) v (by omega) (by omega) (by omega)) ?_
        intro r76 mem76 hq76
        obtain ⟨⟨rfl, hc76⟩ | ⟨rfl, hc76⟩, rfl⟩ := hq76
        · show am_Rn l G _ _ 79 [some (.inr (.inr 1)), some (.inl v), some (.inl (s : Int)), some (.inl (hsm (eH e) s h.1 : Int)), some (.inl (i : Int)), some (.inl (hsm (eH e) i h.1 : Int)), some (.inl 0)] [.inl 1] mem _
          refine rn_ifeq (t := 88) (q := 82) dX8_nearest_79 rfl rfl (fun h => absurd h (by decide)) (fun w79 => ?_)
          refine rn_iload (x := (i : Int)) (q := 84) dX8_nearest_82 rfl rfl ?_
          refine rn_istore_n (ls' := [some (.inr (.inr 1)), some (.inl v), some (.inl (i : Int)), some (.inl (hsm (eH e) s h.1 : Int)), some (.inl (i : Int)), some (.inl (hsm (eH e) i h.1 : Int)), some (.inl 0)]) (q := 85) dX8_nearest_84 (by decide) rfl rfl ?_
          refine rn_iload (x := (hsm (eH e) i h.1 : Int)) (q := 87) dX8_nearest_85 rfl rfl ?_
          refine rn_istore_n (ls' := [some (.inr (.inr 1)), some (.inl v), some (.inl (i : Int)), some (.inl (hsm (eH e) i h.1 : Int)), some (.inl (i : Int)), some (.inl (hsm (eH e) i h.1 : Int)), some (.inl 0)]) (q := 88) dX8_nearest_87 (by decide) rfl rfl ?_
          refine rn_iincN (x := (i : Int)) (z := ((i + 1 : Nat) : Int)) (ls' := [some (.inr (.inr 1)), some (.inl v), some (.inl (i : Int)), some (.inl (hsm (eH e) i h.1 : Int)), some (.inl ((i + 1 : Nat) : Int)), some (.inl (hsm (eH e) i h.1 : Int)), some (.inl 0)]) (q := 91) dX8_nearest_88 rfl (by decide) (by omega) (by unfold am_ok; omega) rfl rfl ?_
          refine rn_goto (t := 20) dX8_nearest_91 rfl ?_
          first | exact ih (by omega) _ _ _ (by rw [nr, ← hs, if_pos (by omega)]) hv | exact ih (by omega) _ _ _ (by rw [nr, ← hs, if_neg (by omega)]) hv
        · show am_Rn l G _ _ 79 [some (.inr (.inr 1)), some (.inl v), some (.inl (s : Int)), some (.inl (hsm (eH e) s h.1 : Int)), some (.inl (i : Int)), some (.inl (hsm (eH e) i h.1 : Int)), some (.inl 0)] [.inl 0] mem _
          refine rn_ifeq (t := 88) (q := 82) dX8_nearest_79 rfl rfl (fun w79 => ?_) (fun h => absurd h (by decide))
          refine rn_iincN (x := (i : Int)) (z := ((i + 1 : Nat) : Int)) (ls' := [some (.inr (.inr 1)), some (.inl v), some (.inl (s : Int)), some (.inl (hsm (eH e) s h.1 : Int)), some (.inl ((i + 1 : Nat) : Int)), some (.inl (hsm (eH e) i h.1 : Int)), some (.inl 0)]) (q := 91) dX8_nearest_88 rfl (by decide) (by omega) (by unfold am_ok; omega) rfl rfl ?_
          refine rn_goto (t := 20) dX8_nearest_91 rfl ?_
          first | exact ih (by omega) _ _ _ (by rw [nr, ← hs, if_pos (by omega)]) hv | exact ih (by omega) _ _ _ (by rw [nr, ← hs, if_neg (by omega)]) hv
      · refine rn_iload (x := (i : Int)) (q := 50) dX8_nearest_48 rfl rfl ?_
        refine rn_callS (as := [.inl (i : Int)]) (rest := []) (q := 53) dX8_nearest_50 ml_X8_187 sm_J6_bitCount_0f7a4 (by omega) rfl rfl (Nat.le_of_ble_eq_true rfl) rfl (s_bitCount (d := d + 1) i (by omega)) ?_
        intro r50 mem50 hq50
        obtain ⟨rfl, rfl⟩ := hq50
        show am_Rn l G _ _ 53 [some (.inr (.inr 1)), some (.inl v), some (.inl (s : Int)), some (.inl (hsm (eH e) s h.1 : Int)), some (.inl (i : Int)), some (.inl (hsm (eH e) i h.1 : Int)), ly] [.inl (pc i : Int)] mem _
        refine rn_iload_n (x := (s : Int)) (q := 54) dX8_nearest_53 rfl rfl ?_
        refine rn_callS (as := [.inl (s : Int)]) (rest := [.inl (pc i : Int)]) (q := 57) dX8_nearest_54 ml_X8_187 sm_J6_bitCount_0f7a4 (by omega) rfl rfl (Nat.le_of_ble_eq_true rfl) rfl (s_bitCount (d := d + 1) s (by omega)) ?_
        intro r54 mem54 hq54
        obtain ⟨rfl, rfl⟩ := hq54
        show am_Rn l G _ _ 57 [some (.inr (.inr 1)), some (.inl v), some (.inl (s : Int)), some (.inl (hsm (eH e) s h.1 : Int)), some (.inl (i : Int)), some (.inl (hsm (eH e) i h.1 : Int)), ly] [.inl (pc s : Int), .inl (pc i : Int)] mem _
        refine rn_cmpge (t := 64) (q := 60) dX8_nearest_57 rfl rfl (fun w57 => ?_) (fun w57 => ?_)
        · refine rn_iconst (q := 65) dX8_nearest_64 (am_okd rfl) rfl ?_
          refine rn_istore (ls' := [some (.inr (.inr 1)), some (.inl v), some (.inl (s : Int)), some (.inl (hsm (eH e) s h.1 : Int)), some (.inl (i : Int)), some (.inl (hsm (eH e) i h.1 : Int)), some (.inl 0)]) (q := 67) dX8_nearest_65 (by decide) rfl rfl ?_
          refine rn_iload (x := 0) (q := 69) dX8_nearest_67 rfl rfl ?_
          refine rn_ifne (t := 82) (q := 72) dX8_nearest_69 rfl rfl (fun h => absurd h (by decide)) (fun w69 => ?_)
          refine rn_iload (x := (hsm (eH e) i h.1 : Int)) (q := 74) dX8_nearest_72 rfl rfl ?_
          refine rn_iload_n (x := (hsm (eH e) s h.1 : Int)) (q := 75) dX8_nearest_74 rfl rfl ?_
          refine rn_iload_n (x := v) (q := 76) dX8_nearest_75 rfl rfl ?_
          refine rn_callS (as := [.inl (hsm (eH e) i h.1 : Int), .inl (hsm (eH e) s h.1 : Int), .inl v]) (rest := []) (q := 79) dX8_nearest_76 ml_X8_344 sm_X8_closer (by omega) rfl rfl (Nat.le_of_ble_eq_true rfl) rfl (s_closer (d := d + 1) (hsm (eH e) i h.1 : Int) (hsm (eH e) s h.1 : Int) v (by omega) (by omega) (by omega)) ?_
          intro r76 mem76 hq76
          obtain ⟨⟨rfl, hc76⟩ | ⟨rfl, hc76⟩, rfl⟩ := hq76
          · show am_Rn l G _ _ 79 [some (.inr (.inr 1)), some (.inl v), some (.inl (s : Int)), some (.inl (hsm (eH e) s h.1 : Int)), some (.inl (i : Int)), some (.inl (hsm (eH e) i h.1 : Int)), some (.inl 0)] [.inl 1] mem _
            refine rn_ifeq (t := 88) (q := 82) dX8_nearest_79 rfl rfl (fun h => absurd h (by decide)) (fun w79 => ?_)
            refine rn_iload (x := (i : Int)) (q := 84) dX8_nearest_82 rfl rfl ?_
            refine rn_istore_n (ls' := [some (.inr (.inr 1)), some (.inl v), some (.inl (i : Int)), some (.inl (hsm (eH e) s h.1 : Int)), some (.inl (i : Int)), some (.inl (hsm (eH e) i h.1 : Int)), some (.inl 0)]) (q := 85) dX8_nearest_84 (by decide) rfl rfl ?_
            refine rn_iload (x := (hsm (eH e) i h.1 : Int)) (q := 87) dX8_nearest_85 rfl rfl ?_
            refine rn_istore_n (ls' := [some (.inr (.inr 1)), some (.inl v), some (.inl (i : Int)), some (.inl (hsm (eH e) i h.1 : Int)), some (.inl (i : Int)), some (.inl (hsm (eH e) i h.1 : Int)), some (.inl 0)]) (q := 88) dX8_nearest_87 (by decide) rfl rfl ?_
            refine rn_iincN (x := (i : Int)) (z := ((i + 1 : Nat) : Int)) (ls' := [some (.inr (.inr 1)), some (.inl v), some (.inl (i : Int)), some (.inl (hsm (eH e) i h.1 : Int)), some (.inl ((i + 1 : Nat) : Int)), some (.inl (hsm (eH e) i h.1 : Int)), some (.inl 0)]) (q := 91) dX8_nearest_88 rfl (by decide) (by omega) (by unfold am_ok; omega) rfl rfl ?_
            refine rn_goto (t := 20) dX8_nearest_91 rfl ?_
            first | exact ih (by omega) _ _ _ (by rw [nr, ← hs, if_pos (by omega)]) hv | exact ih (by omega) _ _ _ (by rw [nr, ← hs, if_neg (by omega)]) hv
          · show am_Rn l G _ _ 79 [some (.inr (.inr 1)), some (.inl v), some (.inl (s : Int)), some (.inl (hsm (eH e) s h.1 : Int)), some (.inl (i : Int)), some (.inl (hsm (eH e) i h.1 : Int)), some (.inl 0)] [.inl 0] mem _
            refine rn_ifeq (t := 88) (q := 82) dX8_nearest_79 rfl rfl (fun w79 => ?_) (fun h => absurd h (by decide))
            refine rn_iincN (x := (i : Int)) (z := ((i + 1 : Nat) : Int)) (ls' := [some (.inr (.inr 1)), some (.inl v), some (.inl (s : Int)), some (.inl (hsm (eH e) s h.1 : Int)), some (.inl ((i + 1 : Nat) : Int)), some (.inl (hsm (eH e) i h.1 : Int)), some (.inl 0)]) (q := 91) dX8_nearest_88 rfl (by decide) (by omega) (by unfold am_ok; omega) rfl rfl ?_
            refine rn_goto (t := 20) dX8_nearest_91 rfl ?_
            first | exact ih (by omega) _ _ _ (by rw [nr, ← hs, if_pos (by omega)]) hv | exact ih (by omega) _ _ _ (by rw [nr, ← hs, if_neg (by omega)]) hv
        · refine rn_iconst (q := 61) dX8_nearest_60 (am_okd rfl) rfl ?_
          refine rn_goto (t := 65) dX8_nearest_61 rfl ?_
          refine rn_istore (ls' := [some (.inr (.inr 1)), some (.inl v), some (.inl (s : Int)), some (.inl (hsm (eH e) s h.1 : Int)), some (.inl (i : Int)), some (.inl (hsm (eH e) i h.1 : Int)), some (.inl 1)]) (q := 67) dX8_nearest_65 (by decide) rfl rfl ?_
          refine rn_iload (x := 1) (q := 69) dX8_nearest_67 rfl rfl ?_
          refine rn_ifne (t := 82) (q := 72) dX8_nearest_69 rfl rfl (fun w69 => ?_) (fun h => absurd h (by decide))
          refine rn_iload (x := (i : Int)) (q := 84) dX8_nearest_82 rfl rfl ?_
          refine rn_istore_n (ls' := [some (.inr (.inr 1)), some (.inl v), some (.inl (i : Int)), some (.inl (hsm (eH e) s h.1 : Int)), some (.inl (i : Int)), some (.inl (hsm (eH e) i h.1 : Int)), some (.inl 1)]) (q := 85) dX8_nearest_84 (by decide) rfl rfl ?_
          refine rn_iload (x := (hsm (eH e) i h.1 : Int)) (q := 87) dX8_nearest_85 rfl rfl ?_
          refine rn_istore_n (ls' := [some (.inr (.inr 1)), some (.inl v), some (.inl (i : Int)), some (.inl (hsm (eH e) i h.1 : Int)), some (.inl (i : Int)), some (.inl (hsm (eH e) i h.1 : Int)), some (.inl 1)]) (q := 88) dX8_nearest_87 (by decide) rfl rfl ?_
          refine rn_iincN (x := (i : Int)) (z := ((i + 1 : Nat) : Int)) (ls' := [some (.inr (.inr 1)), some (.inl v), some (.inl (i : Int)), some (.inl (hsm (eH e) i h.1 : Int)), some (.inl ((i + 1 : Nat) : Int)), some (.inl (hsm (eH e) i h.1 : Int)), some (.inl 1)]) (q := 91) dX8_nearest_88 rfl (by decide) (by omega) (by unfold am_ok; omega) rfl rfl ?_
          refine rn_goto (t := 20) dX8_nearest_91 rfl ?_
          first | exact ih (by omega) _ _ _ (by rw [nr, ← hs, if_pos (by omega)]) hv | exact ih (by omega) _ _ _ (by rw [nr, ← hs, if_neg (by omega)]) hv
  refine rn_iload_n (x := v) (q := 1) dX8_nearest_0 rfl rfl ?_
  refine rn_iflt (t := 11) (q := 4) dX8_nearest_1 rfl rfl (fun w1 => ?_) (fun w1 => ?_)
  · refine rn_iconst (q := 12) dX8_nearest_11 (am_okd rfl) rfl ?_
    refine rn_iret dX8_nearest_12 rfl ?_
    exact hQ _ _ ⟨fun _ => ⟨rfl, frS.rf, hR⟩, fun hn => by omega⟩
  · refine rn_iload_n (x := v) (q := 5) dX8_nearest_4 rfl rfl ?_
    refine rn_sipush (q := 8) dX8_nearest_5 ⟨by decide, by decide⟩ rfl ?_
    refine rn_cmple (t := 13) (q := 11) dX8_nearest_8 rfl rfl (fun w8 => ?_) (fun w8 => ?_)
    · refine rn_iconst (q := 14) dX8_nearest_13 (am_okd rfl) rfl ?_
      refine rn_istore_n (ls' := [some (.inr (.inr 1)), some (.inl v), some (.inl 0), none, none, none, none]) (q := 15) dX8_nearest_14 (by decide) rfl rfl ?_
      refine rn_iconst (q := 16) dX8_nearest_15 (am_okd rfl) rfl ?_
      refine rn_istore_n (ls' := [some (.inr (.inr 1)), some (.inl v), some (.inl 0), some (.inl 0), none, none, none]) (q := 17) dX8_nearest_16 (by decide) rfl rfl ?_
      refine rn_iconst (q := 18) dX8_nearest_17 (am_okd rfl) rfl ?_
      refine rn_istore (ls' := [some (.inr (.inr 1)), some (.inl v), some (.inl 0), some (.inl 0), some (.inl 1), none, none]) (q := 20) dX8_nearest_18 (by decide) rfl rfl ?_
      have z0 : hsm (eH e) 0 h.1 = 0 := by
        generalize h.1 = n
        induction n with
        | zero => rfl
        | succ n ih => rw [hsm, ih]; simp
      have := L 1 (Nat.one_le_two_pow) 0 none none (by rw [nr, nr]; simp) (by omega)
      rw [z0] at this
      exact this
    · refine rn_iconst (q := 12) dX8_nearest_11 (am_okd rfl) rfl ?_
      refine rn_iret dX8_nearest_12 rfl ?_
      exact hQ _ _ ⟨fun _ => ⟨rfl, frS.rf, hR⟩, fun hn => by omega⟩
theorem m_nearest (q : DQ X sn sg h e NB mem) {R : List Int} (hR : m_row R mem) (v : Int) : am_Sm l G yX9_nearest mt_X9_nearest (d + 3) [.inr (.inr 96), .inl v] mem (fun q m => (¬ (0 ≤ v ∧ v ≤ 999) → QM (-1) R mem q m) ∧ (0 ≤ v ∧ v ≤ 999 → QM (hsm (eH e) (nr (fun k => hsm (eH e) k h.1) v (2 ^ h.1)) h.1 : Int) [(nr (fun k => hsm (eH e) k h.1) v (2 ^ h.1) : Int)] mem q m)) := by
  refine am_enterQ (ls := [some (.inr (.inr 96)), some (.inl v), none, none, none, none, none, none]) (by decide) rfl (Nat.le_of_ble_eq_true rfl) rfl (fun hok Q hQ => ?_)
  have b := q.bd
  have L : ∀ i : Nat, i ≤ 2 ^ h.1 → ∀ (s : Nat) (lx ly lz lw : Option am_V), s = nr (fun k => hsm (eH e) k h.1) v i → 0 ≤ v ∧ v ≤ 999 → am_Rn l G mt_X9_nearest (d + 3) 22 [some (.inr (.inr 96)), some (.inl v), some (.inl (s : Int)), some (.inl (i : Int)), lx, ly, lz, lw] [] (am_up mem 95 11 0) Q := by
    refine am_dn (2 ^ h.1) (fun i hi ih s lx ly lz lw hs hv => ?_)
    have o := nr_ok (H := fun k => hsm (eH e) k h.1) (v := v) i
    rw [← hs] at o
    have o1 := hsm_ok (mk := s) q.hd9 h.1
    have o2 := hsm_ok (mk := i) q.hd9 h.1
    refine rn_iload_n (x := (i : Int)) (q := 23) dX9_nearest_22 rfl rfl ?_
    refine rn_iconst (q := 24) dX9_nearest_23 (am_okd rfl) rfl ?_
    refine rn_aload_n (x := 95) (q := 25) dX9_nearest_24 rfl rfl ?_
    refine rn_get (a := 95) (v := .inl (h.1 : Int)) (q := 28) dX9_nearest_25 fl_X9_113 rfl (am_gi (q.kept (frS.up (a := 95) (k := 11) (x := 0) frS.rf rfl)).n) rfl ?_
    refine rn_ishl (q := 29) dX9_nearest_28 rfl ?_
    rw [show am_shl 1 (h.1 : Int) = ((2 ^ h.1 : Nat) : Int) from am_shl1 _ (by omega)]
    refine rn_cmpge (t := 122) (q := 32) dX9_nearest_29 rfl rfl (fun w29 => ?_) (fun w29 => ?_)
    · refine rn_aload_n (x := 95) (q := 123) dX9_nearest_122 rfl rfl ?_
      refine rn_iconst (q := 124) dX9_nearest_123 (am_okd rfl) rfl ?_
      refine rn_puti (a := 95) (q := 127) dX9_nearest_124 fl_X9_110 rfl rfl rfl rfl ?_
      refine rn_aload_n (x := 95) (q := 128) dX9_nearest_127 rfl rfl ?_
      refine rn_iload_n (x := (s : Int)) (q := 129) dX9_nearest_128 rfl rfl ?_
      refine rn_i2l (q := 130) dX9_nearest_129 rfl ?_
      refine rn_callV (b := 95) (as := [.inr (.inl (s : Int))]) (rest := []) (q := 133) dX9_nearest_130 ml_X9_275 sm_X9_tell rfl rfl (by decide) (by omega) rfl rfl (Nat.le_of_ble_eq_true rfl) rfl (m_tell (d := d + 2) m_row0 (by first | decide | simp | omega) (s : Int)) ?_
      intro r130 mem130 hq130
      obtain ⟨rfl, hr130, hf130⟩ := hq130
      show am_Rn l G _ _ 133 [some (.inr (.inr 96)), some (.inl v), some (.inl (s : Int)), some (.inl (i : Int)), lx, ly, lz, lw] [] mem130 _
      refine rn_aload_n (x := 95) (q := 134) dX9_nearest_133 rfl rfl ?_
      refine rn_iload_n (x := (s : Int)) (q := 135) dX9_nearest_134 rfl rfl ?_
      refine rn_callV (b := 95) (as := [.inl (s : Int)]) (rest := []) (q := 138) dX9_nearest_135 ml_X9_317 sm_X9_heardOf rfl rfl (by decide) (by omega) rfl rfl (Nat.le_of_ble_eq_true rfl) rfl (m_heardOf (d := d + 1) (q.kept ((frS.up (a := 95) (k := 10) (x := 0) (frS.up (a := 95) (k := 11) (x := 0) frS.rf rfl) rfl).tr hf130)) s (by omega)) ?_
      intro r135 mem135 hq135
      obtain ⟨rfl, rfl⟩ := hq135
      show am_Rn l G _ _ 138 [some (.inr (.inr 96)), some (.inl v), some (.inl (s : Int)), some (.inl (i : Int)), lx, ly, lz, lw] [.inl (hsm (eH e) s h.1 : Int)] mem130 _
      refine rn_iret dX9_nearest_138 rfl ?_
      exact hQ _ _ ⟨fun hn => absurd hv hn, fun _ => by rw [show 2 ^ h.1 = i by omega, ← hs]; exact ⟨rfl, ((frS.up (a := 95) (k := 10) (x := 0) (frS.up (a := 95) (k := 11) (x := 0) frS.rf rfl) rfl).tr hf130), hr130⟩⟩
    · refine rn_aload_n (x := 95) (q := 33) dX9_nearest_32 rfl rfl ?_
      refine rn_iload_n (x := (i : Int)) (q := 34) dX9_nearest_33 rfl rfl ?_
      refine rn_callV (b := 95) (as := [.inl (i : Int)]) (rest := []) (q := 37) dX9_nearest_34 ml_X9_317 sm_X9_heardOf rfl rfl (by decide) (by omega) rfl rfl (Nat.le_of_ble_eq_true rfl) rfl (m_heardOf (d := d + 1) (q.kept (frS.up (a := 95) (k := 11) (x := 0) frS.rf rfl)) i (by omega)) ?_
      intro r34 mem34 hq34
      obtain ⟨rfl, rfl⟩ := hq34
      show am_Rn l G _ _ 37 [some (.inr (.inr 96)), some (.inl v), some (.inl (s : Int)), some (.inl (i : Int)), lx, ly, lz, lw] [.inl (hsm (eH e) i h.1 : Int)] (am_up mem 95 11 0) _
      refine rn_istore (ls' := [some (.inr (.inr 96)), some (.inl v), some (.inl (s : Int)), some (.inl (i : Int)), some (.inl (hsm (eH e) i h.1 : Int)), ly, lz, lw]) (q := 39) dX9_nearest_37 (by decide) rfl rfl ?_
      refine rn_aload_n (x := 95) (q := 40) dX9_nearest_39 rfl rfl ?_
      refine rn_iload_n (x := (s : Int)) (q := 41) dX9_nearest_40 rfl rfl ?_
      refine rn_callV (b := 95) (as := [.inl (s : Int)]) (rest := []) (q := 44) dX9_nearest_41 ml_X9_317 sm_X9_heardOf rfl rfl (by decide) (by omega) rfl rfl (Nat.le_of_ble_eq_true rfl) rfl (m_heardOf (d := d + 1) (q.kept (frS.up (a := 95) (k := 11) (x := 0) frS.rf rfl)) s (by omega)) ?_
      intro r41 mem41 hq41
      obtain ⟨rfl, rfl⟩ := hq41
      show am_Rn l G _ _ 44 [some (.inr (.inr 96)), some (.inl v), some (.inl (s : Int)), some (.inl (i : Int)), some (.inl (hsm (eH e) i h.1 : Int)), ly, lz, lw] [.inl (hsm (eH e) s h.1 : Int)] (am_up mem 95 11 0) _
      refine rn_istore (ls' := [some (.inr (.inr 96)), some (.inl v), some (.inl (s : Int)), some (.inl (i : Int)), some (.inl (hsm (eH e) i h.1 : Int)), some (.inl (hsm (eH e) s h.1 : Int)), lz, lw]) (q := 46) dX9_nearest_44 (by decide) rfl rfl ?_
      refine rn_iload (x := (hsm (eH e) i h.1 : Int)) (q := 48) dX9_nearest_46 rfl rfl ?_
      refine rn_iload_n (x := v) (q := 49) dX9_nearest_48 rfl rfl ?_
      refine rn_isubN (z := ((hsm (eH e) i h.1 : Int) - v)) (q := 50) dX9_nearest_49 rfl (by unfold am_ok; omega) rfl ?_
      refine rn_mabs (q := 53) dX9_nearest_50 am_mm_X9_320 am_mabsw (by omega) (Nat.le_of_ble_eq_true rfl) rfl ?_
      refine rn_iload (x := (hsm (eH e) s h.1 : Int)) (q := 55) dX9_nearest_53 rfl rfl ?_
      refine rn_iload_n (x := v) (q := 56) dX9_nearest_55 rfl rfl ?_
      refine rn_isubN (z := ((hsm (eH e) s h.1 : Int) - v)) (q := 57) dX9_nearest_56 rfl (by unfold am_ok; omega) rfl ?_
      refine rn_mabs (q := 60) dX9_nearest_57 am_mm_X9_320 am_mabsw (by omega) (Nat.le_of_ble_eq_true rfl) rfl ?_
      refine rn_isubN (z := (((((hsm (eH e) i h.1 : Int) - v)).natAbs : Int) - ((((hsm (eH e) s h.1 : Int) - v)).natAbs : Int))) (q := 61) dX9_nearest_60 rfl (by unfold am_ok; omega) rfl ?_
      refine rn_istore (ls' := [some (.inr (.inr 96)), some (.inl v), some (.inl (s : Int)), some (.inl (i : Int)), some (.inl (hsm (eH e) i h.1 : Int)), some (.inl (hsm (eH e) s h.1 : Int)), some (.inl (((((hsm (eH e) i h.1 : Int) - v)).natAbs : Int) - ((((hsm (eH e) s h.1 : Int) - v)).natAbs : Int))), lw]) (q := 63) dX9_nearest_61 (by decide) rfl rfl ?_
      refine rn_iload (x := (((((hsm (eH e) i h.1 : Int) - v)).natAbs : Int) - ((((hsm (eH e) s h.1 : Int) - v)).natAbs : Int))) (q := 65) dX9_nearest_63 rfl rfl ?_
      refine rn_iflt (t := 98) (q := 68) dX9_nearest_65 rfl rfl (fun w65 => ?_) (fun w65 => ?_)
      · refine rn_iconst (q := 99) dX9_nearest_98 (am_okd rfl) rfl ?_
        refine rn_goto (t := 103) dX9_nearest_99 rfl ?_
        refine rn_istore (ls' := [some (.inr (.inr 96)), some (.inl v), some (.inl (s : Int)), some (.inl (i : Int)), some (.inl (hsm (eH e) i h.1 : Int)), some (.inl (hsm (eH e) s h.1 : Int)), some (.inl (((((hsm (eH e) i h.1 : Int) - v)).natAbs : Int) - ((((hsm (eH e) s h.1 : Int) - v)).natAbs : Int))), some (.inl 1)]) (q := 105) dX9_nearest_103 (by decide) rfl rfl ?_
        refine rn_iload (x := 1) (q := 107) dX9_nearest_105 rfl rfl ?_
        refine rn_ifeq (t := 114) (q := 110) dX9_nearest_107 rfl rfl (fun h => absurd h (by decide)) (fun w107 => ?_)
        refine rn_iload_n (x := (i : Int)) (q := 111) dX9_nearest_110 rfl rfl ?_
        refine rn_goto (t := 115) dX9_nearest_111 rfl ?_
        refine rn_istore_n (ls' := [some (.inr (.inr 96)), some (.inl v), some (.inl (i : Int)), some (.inl (i : Int)), some (.inl (hsm (eH e) i h.1 : Int)), some (.inl (hsm (eH e) s h.1 : Int)), some (.inl (((((hsm (eH e) i h.1 : Int) - v)).natAbs : Int) - ((((hsm (eH e) s h.1 : Int) - v)).natAbs : Int))), some (.inl 1)]) (q := 116) dX9_nearest_115 (by decide) rfl rfl ?_
        refine rn_iincN (x := (i : Int)) (z := ((i + 1 : Nat) : Int)) (ls' := [some (.inr (.inr 96)), some (.inl v), some (.inl (i : Int)), some (.inl ((i + 1 : Nat) : Int)), some (.inl (hsm (eH e) i h.1 : Int)), some (.inl (hsm (eH e) s h.1 : Int)), some (.inl (((((hsm (eH e) i h.1 : Int) - v)).natAbs : Int) - ((((hsm (eH e) s h.1 : Int) - v)).natAbs : Int))), some (.inl 1)]) (q := 119) dX9_nearest_116 rfl (by decide) (by omega) (by unfold am_ok; omega) rfl rfl ?_
        refine rn_goto (t := 22) dX9_nearest_119 rfl ?_
        first | exact ih (by omega) _ _ _ _ _ (by rw [nr, ← hs, if_pos (by omega)]) hv | exact ih (by omega) _ _ _ _ _ (by rw [nr, ← hs, if_neg (by omega)]) hv
      · refine rn_iload (x := (((((hsm (eH e) i h.1 : Int) - v)).natAbs : Int) - ((((hsm (eH e) s h.1 : Int) - v)).natAbs : Int))) (q := 70) dX9_nearest_68 rfl rfl ?_
        refine rn_ifne (t := 102) (q := 73) dX9_nearest_70 rfl rfl (fun w70 => ?_) (fun w70 => ?_)
        · refine rn_iconst (q := 103) dX9_nearest_102 (am_okd rfl) rfl ?_
          refine rn_istore (ls' := [some (.inr (.inr 96)), some (.inl v), some (.inl (s : Int)), some (.inl (i : Int)), some (.inl (hsm (eH e) i h.1 : Int)), some (.inl (hsm (eH e) s h.1 : Int)), some (.inl (((((hsm (eH e) i h.1 : Int) - v)).natAbs : Int) - ((((hsm (eH e) s h.1 : Int) - v)).natAbs : Int))), some (.inl 0)]) (q := 105) dX9_nearest_103 (by decide) rfl rfl ?_
          refine rn_iload (x := 0) (q := 107) dX9_nearest_105 rfl rfl ?_
          refine rn_ifeq (t := 114) (q := 110) dX9_nearest_107 rfl rfl (fun w107 => ?_) (fun h => absurd h (by decide))
          refine rn_iload_n (x := (s : Int)) (q := 115) dX9_nearest_114 rfl rfl ?_
          refine rn_istore_n (ls' := [some (.inr (.inr 96)), some (.inl v), some (.inl (s : Int)), some (.inl (i : Int)), some (.inl (hsm (eH e) i h.1 : Int)), some (.inl (hsm (eH e) s h.1 : Int)), some (.inl (((((hsm (eH e) i h.1 : Int) - v)).natAbs : Int) - ((((hsm (eH e) s h.1 : Int) - v)).natAbs : Int))), some (.inl 0)]) (q := 116) dX9_nearest_115 (by decide) rfl rfl ?_
          refine rn_iincN (x := (i : Int)) (z := ((i + 1 : Nat) : Int)) (ls' := [some (.inr (.inr 96)), some (.inl v), some (.inl (s : Int)), some (.inl ((i + 1 : Nat) : Int)), some (.inl (hsm (eH e) i h.1 : Int)), some (.inl (hsm (eH e) s h.1 : Int)), some (.inl (((((hsm (eH e) i h.1 : Int) - v)).natAbs : Int) - ((((hsm (eH e) s h.1 : Int) - v)).natAbs : Int))), some (.inl 0)]) (q := 119) dX9_nearest_116 rfl (by decide) (by omega) (by unfold am_ok; omega) rfl rfl ?_
          refine rn_goto (t := 22) dX9_nearest_119 rfl ?_
          first | exact ih (by omega) _ _ _ _ _ (by rw [nr, ← hs, if_pos (by omega)]) hv | exact ih (by omega) _ _ _ _ _ (by rw [nr, ← hs, if_neg (by omega)]) hv
        · refine rn_iload (x := (hsm (eH e) i h.1 : Int)) (q := 75) dX9_nearest_73 rfl rfl ?_
          refine rn_iload (x := (hsm (eH e) s h.1 : Int)) (q := 77) dX9_nearest_75 rfl rfl ?_
          refine rn_cmplt (t := 98) (q := 80) dX9_nearest_77 rfl rfl (fun w77 => ?_) (fun w77 => ?_)
          · refine rn_iconst (q := 99) dX9_nearest_98 (am_okd rfl) rfl ?_
            refine rn_goto (t := 103) dX9_nearest_99 rfl ?_
            refine rn_istore (ls' := [some (.inr (.inr 96)), some (.inl v), some (.inl (s : Int)), some (.inl (i : Int)), some (.inl (hsm (eH e) i h.1 : Int)), some (.inl (hsm (eH e) s h.1 : Int)), some (.inl (((((hsm (eH e) i h.1 : Int) - v)).natAbs : Int) - ((((hsm (eH e) s h.1 : Int) - v)).natAbs : Int))), some (.inl 1)]) (q := 105) dX9_nearest_103 (by decide) rfl rfl ?_
            refine rn_iload (x := 1) (q := 107) dX9_nearest_105 rfl rfl ?_
            refine rn_ifeq (t := 114) (q := 110) dX9_nearest_107 rfl rfl (fun h => absurd h (by decide)) (fun w107 => ?_)
            refine rn_iload_n (x := (i : Int)) (q := 111) dX9_nearest_110 rfl rfl ?_
            refine rn_goto (t := 115) dX9_nearest_111 rfl ?_
            refine rn_istore_n (ls' := [some (.inr (.inr 96)), some (.inl v), some (.inl (i : Int)), some (.inl (i : Int)), some (.inl (hsm (eH e) i h.1 : Int)), some (.inl (hsm (eH e) s h.1 : Int)), some (.inl (((((hsm (eH e) i h.1 : Int) - v)).natAbs : Int) - ((((hsm (eH e) s h.1 : Int) - v)).natAbs : Int))), some (.inl 1)]) (q := 116) dX9_nearest_115 (by decide) rfl rfl ?_
            refine rn_iincN (x := (i : Int)) (z := ((i + 1 : Nat) : Int)) (ls' := [some (.inr (.inr 96)), some (.inl v), some (.inl (i : Int)), some (.inl ((i + 1 : Nat) : Int)), some (.inl (hsm (eH e) i h.1 : Int)), some (.inl (hsm (eH e) s h.1 : Int)), some (.inl (((((hsm (eH e) i h.1 : Int) - v)).natAbs : Int) - ((((hsm (eH e) s h.1 : Int) - v)).natAbs : Int))), some (.inl 1)]) (q := 119) dX9_nearest_116 rfl (by decide) (by omega) (by unfold am_ok; omega) rfl rfl ?_
            refine rn_goto (t := 22) dX9_nearest_119 rfl ?_
            first | exact ih (by omega) _ _ _ _ _ (by rw [nr, ← hs, if_pos (by omega)]) hv | exact ih (by omega) _ _ _ _ _ (by rw [nr, ← hs, if_neg (by omega)]) hv
          · refine rn_iload (x := (hsm (eH e) i h.1 : Int)) (q := 82) dX9_nearest_80 rfl rfl ?_
            refine rn_iload (x := (hsm (eH e) s h.1 : Int)) (q := 84) dX9_nearest_82 rfl rfl ?_
            refine rn_cmpne (t := 102) (q := 87) dX9_nearest_84 rfl rfl (fun w84 => ?_) (fun w84 => ?_)
            · refine rn_iconst (q := 103) dX9_nearest_102 (am_okd rfl) rfl ?_
              refine rn_istore (ls' := [some (.inr (.inr 96)), some (.inl v), some (.inl (s : Int)), some (.inl (i : Int)), some (.inl (hsm (eH e) i h.1 : Int)), some (.inl (hsm (eH e) s h.1 : Int)), some (.inl (((((hsm (eH e) i h.1 : Int) - v)).natAbs : Int) - ((((hsm (eH e) s h.1 : Int) - v)).natAbs : Int))), some (.inl 0)]) (q := 105) dX9_nearest_103 (by decide) rfl rfl ?_
              refine rn_iload (x := 0) (q := 107) dX9_nearest_105 rfl rfl ?_
              refine rn_ifeq (t := 114) (q := 110) dX9_nearest_107 rfl rfl (fun w107 => ?_) (fun h => absurd h (by decide))
              refine rn_iload_n (x := (s : Int)) (q := 115) dX9_nearest_114 rfl rfl ?_
              refine rn_istore_n (ls' := [some (.inr (.inr 96)), some (.inl v), some (.inl (s : Int)), some (.inl (i : Int)), some (.inl (hsm (eH e) i h.1 : Int)), some (.inl (hsm (eH e) s h.1 : Int)), some (.inl (((((hsm (eH e) i h.1 : Int) - v)).natAbs : Int) - ((((hsm (eH e) s h.1 : Int) - v)).natAbs : Int))), some (.inl 0)]) (q := 116) dX9_nearest_115 (by decide) rfl rfl ?_
              refine rn_iincN (x := (i : Int)) (z := ((i + 1 : Nat) : Int)) (ls' := [some (.inr (.inr 96)), some (.inl v), some (.inl (s : Int)), some (.inl ((i + 1 : Nat) : Int)), some (.inl (hsm (eH e) i h.1 : Int)), some (.inl (hsm (eH e) s h.1 : Int)), some (.inl (((((hsm (eH e) i h.1 : Int) - v)).natAbs : Int) - ((((hsm (eH e) s h.1 : Int) - v)).natAbs : Int))), some (.inl 0)]) (q := 119) dX9_nearest_116 rfl (by decide) (by omega) (by unfold am_ok; omega) rfl rfl ?_
              refine rn_goto (t := 22) dX9_nearest_119 rfl ?_
              first | exact ih (by omega) _ _ _ _ _ (by rw [nr, ← hs, if_pos (by omega)]) hv | exact ih (by omega) _ _ _ _ _ (by rw [nr, ← hs, if_neg (by omega)]) hv
            · refine rn_iload_n (x := (i : Int)) (q := 88) dX9_nearest_87 rfl rfl ?_
              refine rn_callS (as := [.inl (i : Int)]) (rest := []) (q := 91) dX9_nearest_88 ml_X9_220 sm_J6_bitCount_0f7a4 (by omega) rfl rfl (Nat.le_of_ble_eq_true rfl) rfl (s_bitCount (d := d + 2) i (by omega)) ?_
              intro r88 mem88 hq88
              obtain ⟨rfl, rfl⟩ := hq88
              show am_Rn l G _ _ 91 [some (.inr (.inr 96)), some (.inl v), some (.inl (s : Int)), some (.inl (i : Int)), some (.inl (hsm (eH e) i h.1 : Int)), some (.inl (hsm (eH e) s h.1 : Int)), some (.inl (((((hsm (eH e) i h.1 : Int) - v)).natAbs : Int) - ((((hsm (eH e) s h.1 : Int) - v)).natAbs : Int))), lw] [.inl (pc i : Int)] (am_up mem 95 11 0) _
              refine rn_iload_n (x := (s : Int)) (q := 92) dX9_nearest_91 rfl rfl ?_
              refine rn_callS (as := [.inl (s : Int)]) (rest := [.inl (pc i : Int)]) (q := 95) dX9_nearest_92 ml_X9_220 sm_J6_bitCount_0f7a4 (by omega) rfl rfl (Nat.le_of_ble_eq_true rfl) rfl (s_bitCount (d := d + 2) s (by omega)) ?_
              intro r92 mem92 hq92
              obtain ⟨rfl, rfl⟩ := hq92
              show am_Rn l G _ _ 95 [some (.inr (.inr 96)), some (.inl v), some (.inl (s : Int)), some (.inl (i : Int)), some (.inl (hsm (eH e) i h.1 : Int)), some (.inl (hsm (eH e) s h.1 : Int)), some (.inl (((((hsm (eH e) i h.1 : Int) - v)).natAbs : Int) - ((((hsm (eH e) s h.1 : Int) - v)).natAbs : Int))), lw] [.inl (pc s : Int), .inl (pc i : Int)] (am_up mem 95 11 0) _
              refine rn_cmpge (t := 102) (q := 98) dX9_nearest_95 rfl rfl (fun w95 => ?_) (fun w95 => ?_)
              · refine rn_iconst (q := 103) dX9_nearest_102 (am_okd rfl) rfl ?_
                refine rn_istore (ls' := [some (.inr (.inr 96)), some (.inl v), some (.inl (s : Int)), some (.inl (i : Int)), some (.inl (hsm (eH e) i h.1 : Int)), some (.inl (hsm (eH e) s h.1 : Int)), some (.inl (((((hsm (eH e) i h.1 : Int) - v)).natAbs : Int) - ((((hsm (eH e) s h.1 : Int) - v)).natAbs : Int))), some (.inl 0)]) (q := 105) dX9_nearest_103 (by decide) rfl rfl ?_
                refine rn_iload (x := 0) (q := 107) dX9_nearest_105 rfl rfl ?_
                refine rn_ifeq (t := 114) (q := 110) dX9_nearest_107 rfl rfl (fun w107 => ?_) (fun h => absurd h (by decide))
                refine rn_iload_n (x := (s : Int)) (q := 115) dX9_nearest_114 rfl rfl ?_
                refine rn_istore_n (ls' := [some (.inr (.inr 96)), some (.inl v), some (.inl (s : Int)), some (.inl (i : Int)), some (.inl (hsm (eH e) i h.1 : Int)), some (.inl (hsm (eH e) s h.1 : Int)), some (.inl (((((hsm (eH e) i h.1 : Int) - v)).natAbs : Int) - ((((hsm (eH e) s h.1 : Int) - v)).natAbs : Int))), some (.inl 0)]) (q := 116) dX9_nearest_115 (by decide) rfl rfl ?_
                refine rn_iincN (x := (i : Int)) (z := ((i + 1 : Nat) : Int)) (ls' := [some (.inr (.inr 96)), some (.inl v), some (.inl (s : Int)), some (.inl ((i + 1 : Nat) : Int)), some (.inl (hsm (eH e) i h.1 : Int)), some (.inl (hsm (eH e) s h.1 : Int)), some (.inl (((((hsm (eH e) i h.1 : Int) - v)).natAbs : Int) - ((((hsm (eH e) s h.1 : Int) - v)).natAbs : Int))), some (.inl 0)]) (q := 119) dX9_nearest_116 rfl (by decide) (by omega) (by unfold am_ok; omega) rfl rfl ?_
                refine rn_goto (t := 22) dX9_nearest_119 rfl ?_
                first | exact ih (by omega) _ _ _ _ _ (by rw [nr, ← hs, if_pos (by omega)]) hv | exact ih (by omega) _ _ _ _ _ (by rw [nr, ← hs, if_neg (by omega)]) hv
              · refine rn_iconst (q := 99) dX9_nearest_98 (am_okd rfl) rfl ?_
                refine rn_goto (t := 103) dX9_nearest_99 rfl ?_
                refine rn_istore (ls' := [some (.inr (.inr 96)), some (.inl v), some (.inl (s : Int)), some (.inl (i : Int)), some (.inl (hsm (eH e) i h.1 : Int)), some (.inl (hsm (eH e) s h.1 : Int)), some (.inl (((((hsm (eH e) i h.1 : Int) - v)).natAbs : Int) - ((((hsm (eH e) s h.1 : Int) - v)).natAbs : Int))), some (.inl 1)]) (q := 105) dX9_nearest_103 (by decide) rfl rfl ?_
                refine rn_iload (x := 1) (q := 107) dX9_nearest_105 rfl rfl ?_
                refine rn_ifeq (t := 114) (q := 110) dX9_nearest_107 rfl rfl (fun h => absurd h (by decide)) (fun w107 => ?_)
                refine rn_iload_n (x := (i : Int)) (q := 111) dX9_nearest_110 rfl rfl ?_
                refine rn_goto (t := 115) dX9_nearest_111 rfl ?_
                refine rn_istore_n (ls' := [some (.inr (.inr 96)), some (.inl v), some (.inl (i : Int)), some (.inl (i : Int)), some (.inl (hsm (eH e) i h.1 : Int)), some (.inl (hsm (eH e) s h.1 : Int)), some (.inl (((((hsm (eH e) i h.1 : Int) - v)).natAbs : Int) - ((((hsm (eH e) s h.1 : Int) - v)).natAbs : Int))), some (.inl 1)]) (q := 116) dX9_nearest_115 (by decide) rfl rfl ?_
                refine rn_iincN (x := (i : Int)) (z := ((i + 1 : Nat) : Int)) (ls' := [some (.inr (.inr 96)), some (.inl v), some (.inl (i : Int)), some (.inl ((i + 1 : Nat) : Int)), some (.inl (hsm (eH e) i h.1 : Int)), some (.inl (hsm (eH e) s h.1 : Int)), some (.inl (((((hsm (eH e) i h.1 : Int) - v)).natAbs : Int) - ((((hsm (eH e) s h.1 : Int) - v)).natAbs : Int))), some (.inl 1)]) (q := 119) dX9_nearest_116 rfl (by decide) (by omega) (by unfold am_ok; omega) rfl rfl ?_
                refine rn_goto (t := 22) dX9_nearest_119 rfl ?_
                first | exact ih (by omega) _ _ _ _ _ (by rw [nr, ← hs, if_pos (by omega)]) hv | exact ih (by omega) _ _ _ _ _ (by rw [nr, ← hs, if_neg (by omega)]) hv
  refine rn_aload_n (x := 95) (q := 1) dX9_nearest_0 rfl rfl ?_
  refine rn_iconst (q := 2) dX9_nearest_1 (am_okd rfl) rfl ?_
  refine rn_puti (a := 95) (q := 5) dX9_nearest_2 fl_X9_107 rfl rfl rfl rfl ?_
  refine rn_iload_n (x := v) (q := 6) dX9_nearest_5 rfl rfl ?_
  refine rn_iconst (q := 7) dX9_nearest_6 (am_okd rfl) rfl ?_
  refine rn_sipush (q := 10) dX9_nearest_7 ⟨by decide, by decide⟩ rfl ?_
  refine rn_callS (as := [.inl v, .inl 0, .inl 999]) (rest := []) (q := 13) dX9_nearest_10 ml_X9_116 sm_X9_in (by omega) rfl rfl (Nat.le_of_ble_eq_true rfl) rfl (s_in9 (d := d + 2) v 0 999) ?_
  intro r10 mem10 hq10
  obtain ⟨⟨rfl, hi10⟩ | ⟨rfl, hi10⟩, rfl⟩ := hq10
  · show am_Rn l G _ _ 13 [some (.inr (.inr 96)), some (.inl v), none, none, none, none, none, none] [.inl 1] (am_up mem 95 11 0) _
    refine rn_ifne (t := 18) (q := 16) dX9_nearest_13 rfl rfl (fun w13 => ?_) (fun h => absurd h (by decide))
    refine rn_iconst (q := 19) dX9_nearest_18 (am_okd rfl) rfl ?_
    refine rn_istore_n (ls' := [some (.inr (.inr 96)), some (.inl v), some (.inl 0), none, none, none, none, none]) (q := 20) dX9_nearest_19 (by decide) rfl rfl ?_
    refine rn_iconst (q := 21) dX9_nearest_20 (am_okd rfl) rfl ?_
    refine rn_istore_n (ls' := [some (.inr (.inr 96)), some (.inl v), some (.inl 0), some (.inl 1), none, none, none, none]) (q := 22) dX9_nearest_21 (by decide) rfl rfl ?_
    exact L 1 (Nat.one_le_two_pow) 0 _ _ _ _ (by rw [nr, nr]; simp) (by omega)
  · show am_Rn l G _ _ 13 [some (.inr (.inr 96)), some (.inl v), none, none, none, none, none, none] [.inl 0] (am_up mem 95 11 0) _
    refine rn_ifne (t := 18) (q := 16) dX9_nearest_13 rfl rfl (fun h => absurd h (by decide)) (fun w13 => ?_)
    refine rn_iconst (q := 17) dX9_nearest_16 (am_okd rfl) rfl ?_
    refine rn_iret dX9_nearest_17 rfl ?_
    exact hQ _ _ ⟨fun _ => ⟨rfl, (frS.up (a := 95) (k := 11) (x := 0) frS.rf rfl), hR.kept (frS.rf.up rfl)⟩, fun hn => by omega⟩
theorem c_raises (q : CQ r X C sn sg h e NB mem) {R : List Int} (hR : c_row R mem) (v : Int) : am_Sm l G yX8_raises mt_X8_raises (d + 2) [.inr (.inr 1), .inl v] mem (fun q m => (¬ (0 ≤ v ∧ v ≤ 9999) → QC (-1) R mem q m) ∧ (0 ≤ v ∧ v ≤ 9999 → (v - (eM e : Int) ≤ 0 → QC 0 [-1] mem q m) ∧ (0 < v - (eM e : Int) → QC (if (rai h.2.2.2 (v - (eM e : Int)) (eB e) h.1).2 = 1000000 then -2 else (rai h.2.2.2 (v - (eM e : Int)) (eB e) h.1).2) (if (rai h.2.2.2 (v - (eM e : Int)) (eB e) h.1).2 = 1000000 then R else [(rai h.2.2.2 (v - (eM e : Int)) (eB e) h.1).1]) mem q m))) := by
  refine am_enterQ (ls := [some (.inr (.inr 1)), some (.inl v), none, none, none, none, none]) (by decide) rfl (Nat.le_of_ble_eq_true rfl) rfl (fun hok Q hQ => ?_)
  have b := q.bd
  have L : 0 ≤ v ∧ v ≤ 9999 → 0 < v - (eM e : Int) → ∀ i : Nat, i ≤ h.1 → ∀ (m : am_M) (s : Int) (lx ly : Option am_V), frS s8r mem m → s = (if (rai h.2.2.2 (v - (eM e : Int)) (eB e) i).2 = 1000000 then -2 else (rai h.2.2.2 (v - (eM e : Int)) (eB e) i).2) → c_row (if (rai h.2.2.2 (v - (eM e : Int)) (eB e) i).2 = 1000000 then R else [(rai h.2.2.2 (v - (eM e : Int)) (eB e) i).1]) m → am_Rn l G mt_X8_raises (d + 2) 45 [some (.inr (.inr 1)), some (.inl v), some (.inl (v - (eM e : Int))), some (.inl s), some (.inl (i : Int)), lx, ly] [] m Q := by
    intro hv hl
    refine am_dn h.1 (fun i hi ih m s lx ly hf hs hr => ?_)
    have p9 := q.pa9 i
    have o := rai_ok (py := h.2.2.2) (lk := v - (eM e : Int)) (bk := (eB e : Int)) (by omega) q.pa9 i
    have stay : ¬ (h.2.2.2 i ≠ 0 ∧ (v - (eM e : Int) + 2 * (h.2.2.2 i : Int) - 1).tdiv (2 * (h.2.2.2 i : Int)) ≤ (eB e : Int) ∧ (v - (eM e : Int) + 2 * (h.2.2.2 i : Int) - 1).tdiv (2 * (h.2.2.2 i : Int)) < (rai h.2.2.2 (v - (eM e : Int)) (eB e) i).2) → ∀ lx ly, i < h.1 → am_Rn l G mt_X8_raises (d + 2) 45 [some (.inr (.inr 1)), some (.inl v), some (.inl (v - (eM e : Int))), some (.inl s), some (.inl ((i + 1 : Nat) : Int)), lx, ly] [] m Q := by
      intro hn lx ly hlt
      exact ih hlt m s lx ly hf (by rw [rai, if_neg hn]; exact hs) (by rw [rai, if_neg hn]; exact hr)
    have es : s = -2 ∧ (rai h.2.2.2 (v - (eM e : Int)) (eB e) i).2 = 1000000 ∨ s = (rai h.2.2.2 (v - (eM e : Int)) (eB e) i).2 ∧ 0 ≤ s ∧ s ≤ 10100 := by
      rcases o with o | o
      · left; rw [o] at hs ⊢; exact ⟨hs, rfl⟩
      · right; rw [if_neg (by omega)] at hs; omega
    by_cases hp : h.2.2.2 i = 0
    · have ep : (h.2.2.2 i : Int) = 0 := by omega
      refine rn_iload (x := (i : Int)) (q := 47) dX8_raises_45 rfl rfl ?_
      refine rn_aload_n (x := 0) (q := 48) dX8_raises_47 rfl rfl ?_
      refine rn_get (a := 0) (v := .inr (.inr 6)) (q := 51) dX8_raises_48 fl_X8_26 rfl rfl rfl ?_
      refine rn_get (a := 5) (v := .inl (h.1 : Int)) (q := 54) dX8_raises_51 fl_X8_136 rfl (am_gi (q.kept hf).n) rfl ?_
      refine rn_cmpge (t := 134) (q := 57) dX8_raises_54 rfl rfl (fun w54 => ?_) (fun w54 => ?_)
      · refine rn_iload_n (x := s) (q := 135) dX8_raises_134 rfl rfl ?_
        refine rn_iret dX8_raises_135 rfl ?_
        exact hQ _ _ ⟨fun hn => absurd hv hn, fun _ => ⟨fun hn => by omega, fun _ => by rw [show h.1 = i by omega]; exact ⟨by rw [hs], hf, hr⟩⟩⟩
      · refine rn_iconst (q := 58) dX8_raises_57 (am_okd rfl) rfl ?_
        refine rn_aload_n (x := 0) (q := 59) dX8_raises_58 rfl rfl ?_
        refine rn_get (a := 0) (v := .inr (.inr 6)) (q := 62) dX8_raises_59 fl_X8_26 rfl rfl rfl ?_
        refine rn_get (a := 5) (v := .inr (.inr 10)) (q := 65) dX8_raises_62 fl_X8_156 rfl rfl rfl ?_
        refine rn_iload (x := (i : Int)) (q := 67) dX8_raises_65 rfl rfl ?_
        refine rn_ialdV (a := 9) (v := (h.2.2.2 i : Int)) (q := 68) dX8_raises_67 rfl (by omega) (by omega) ((q.kept hf).pay (by omega)) rfl ?_
        refine rn_imulN (z := ((2 * (h.2.2.2 i) : Nat) : Int)) (q := 69) dX8_raises_68 (by omega) (by unfold am_ok; omega) rfl ?_
        refine rn_istore (ls' := [some (.inr (.inr 1)), some (.inl v), some (.inl (v - (eM e : Int))), some (.inl s), some (.inl (i : Int)), some (.inl ((2 * (h.2.2.2 i) : Nat) : Int)), ly]) (q := 71) dX8_raises_69 (by decide) rfl rfl ?_
        refine rn_iload (x := ((2 * (h.2.2.2 i) : Nat) : Int)) (q := 73) dX8_raises_71 rfl rfl ?_
        refine rn_ifle (t := 88) (q := 76) dX8_raises_73 rfl rfl (fun w73 => ?_) (fun h => absurd h (by omega))
        refine rn_sipush (q := 91) dX8_raises_88 ⟨by decide, by decide⟩ rfl ?_
        refine rn_istore (ls' := [some (.inr (.inr 1)), some (.inl v), some (.inl (v - (eM e : Int))), some (.inl s), some (.inl (i : Int)), some (.inl ((2 * (h.2.2.2 i) : Nat) : Int)), some (.inl 10000)]) (q := 93) dX8_raises_91 (by decide) rfl rfl ?_
        refine rn_iload (x := 10000) (q := 95) dX8_raises_93 rfl rfl ?_
        refine rn_aload_n (x := 0) (q := 96) dX8_raises_95 rfl rfl ?_
        refine rn_get (a := 0) (v := .inr (.inr 17)) (q := 99) dX8_raises_96 fl_X8_33 rfl rfl rfl ?_
        refine rn_get (a := 16) (v := .inl (eB e : Int)) (q := 102) dX8_raises_99 fl_X8_256 rfl (am_gi (q.kept hf).bk) rfl ?_
        refine rn_cmpgt (t := 128) (q := 105) dX8_raises_102 rfl rfl (fun w102 => ?_) (fun h => absurd h (by omega))
        refine rn_iincN (x := (i : Int)) (z := ((i + 1 : Nat) : Int)) (ls' := [some (.inr (.inr 1)), some (.inl v), some (.inl (v - (eM e : Int))), some (.inl s), some (.inl ((i + 1 : Nat) : Int)), some (.inl ((2 * (h.2.2.2 i) : Nat) : Int)), some (.inl 10000)]) (q := 131) dX8_raises_128 rfl (by decide) (by omega) (by unfold am_ok; omega) rfl rfl ?_
        refine rn_goto (t := 45) dX8_raises_131 rfl ?_
        exact stay (fun w => w.1 hp) _ _ (by omega)
    · have qq := rai_q (lk := v - (eM e : Int)) hp (by omega) p9
      refine rn_iload (x := (i : Int)) (q := 47) dX8_raises_45 rfl rfl ?_
      refine rn_aload_n (x := 0) (q := 48) dX8_raises_47 rfl rfl ?_
      refine rn_get (a := 0) (v := .inr (.inr 6)) (q := 51) dX8_raises_48 fl_X8_26 rfl rfl rfl ?_
      refine rn_get (a := 5) (v := .inl (h.1 : Int)) (q := 54) dX8_raises_51 fl_X8_136 rfl (am_gi (q.kept hf).n) rfl ?_
      refine rn_cmpge (t := 134) (q := 57) dX8_raises_54 rfl rfl (fun w54 => ?_) (fun w54 => ?_)
      · refine rn_iload_n (x := s) (q := 135) dX8_raises_134 rfl rfl ?_
        refine rn_iret dX8_raises_135 rfl ?_
        exact hQ _ _ ⟨fun hn => absurd hv hn, fun _ => ⟨fun hn => by omega, fun _ => by rw [show h.1 = i by omega]; exact ⟨by rw [hs], hf, hr⟩⟩⟩
      · refine rn_iconst (q := 58) dX8_raises_57 (am_okd rfl) rfl ?_
        refine rn_aload_n (x := 0) (q := 59) dX8_raises_58 rfl rfl ?_
        refine rn_get (a := 0) (v := .inr (.inr 6)) (q := 62) dX8_raises_59 fl_X8_26 rfl rfl rfl ?_
        refine rn_get (a := 5) (v := .inr (.inr 10)) (q := 65) dX8_raises_62 fl_X8_156 rfl rfl rfl ?_
        refine rn_iload (x := (i : Int)) (q := 67) dX8_raises_65 rfl rfl ?_
        refine rn_ialdV (a := 9) (v := (h.2.2.2 i : Int)) (q := 68) dX8_raises_67 rfl (by omega) (by omega) ((q.kept hf).pay (by omega)) rfl ?_
        refine rn_imulN (z := 2 * (h.2.2.2 i : Int)) (q := 69) dX8_raises_68 rfl (by unfold am_ok; omega) rfl ?_
        refine rn_istore (ls' := [some (.inr (.inr 1)), some (.inl v), some (.inl (v - (eM e : Int))), some (.inl s), some (.inl (i : Int)), some (.inl (2 * (h.2.2.2 i : Int))), ly]) (q := 71) dX8_raises_69 (by decide) rfl rfl ?_
        refine rn_iload (x := 2 * (h.2.2.2 i : Int)) (q := 73) dX8_raises_71 rfl rfl ?_
        refine rn_ifle (t := 88) (q := 76) dX8_raises_73 rfl rfl (fun h => absurd h (by omega)) (fun w73 => ?_)
        refine rn_iload_n (x := (v - (eM e : Int))) (q := 77) dX8_raises_76 rfl rfl ?_
        refine rn_iload (x := 2 * (h.2.2.2 i : Int)) (q := 79) dX8_raises_77 rfl rfl ?_
        refine rn_iaddN (z := ((v - (eM e : Int)) + (2 * (h.2.2.2 i : Int)))) (q := 80) dX8_raises_79 rfl (by unfold am_ok; omega) rfl ?_
        refine rn_iconst (q := 81) dX8_raises_80 (am_okd rfl) rfl ?_
        refine rn_isubN (z := (((v - (eM e : Int)) + (2 * (h.2.2.2 i : Int))) - 1)) (q := 82) dX8_raises_81 rfl (by unfold am_ok; omega) rfl ?_
        refine rn_iload (x := 2 * (h.2.2.2 i : Int)) (q := 84) dX8_raises_82 rfl rfl ?_
        refine rn_idivN (z := (v - (eM e : Int) + 2 * (h.2.2.2 i : Int) - 1).tdiv (2 * (h.2.2.2 i : Int))) (q := 85) dX8_raises_84 (by omega) rfl (by unfold am_ok; omega) rfl ?_
        refine rn_goto (t := 91) dX8_raises_85 rfl ?_
        refine rn_istore (ls' := [some (.inr (.inr 1)), some (.inl v), some (.inl (v - (eM e : Int))), some (.inl s), some (.inl (i : Int)), some (.inl (2 * (h.2.2.2 i : Int))), some (.inl ((v - (eM e : Int) + 2 * (h.2.2.2 i : Int) - 1).tdiv (2 * (h.2.2.2 i : Int))))]) (q := 93) dX8_raises_91 (by decide) rfl rfl ?_
        refine rn_iload (x := (v - (eM e : Int) + 2 * (h.2.2.2 i : Int) - 1).tdiv (2 * (h.2.2.2 i : Int))) (q := 95) dX8_raises_93 rfl rfl ?_
        refine rn_aload_n (x := 0) (q := 96) dX8_raises_95 rfl rfl ?_
        refine rn_get (a := 0) (v := .inr (.inr 17)) (q := 99) dX8_raises_96 fl_X8_33 rfl rfl rfl ?_
        refine rn_get (a := 16) (v := .inl (eB e : Int)) (q := 102) dX8_raises_99 fl_X8_256 rfl (am_gi (q.kept hf).bk) rfl ?_
        refine rn_cmpgt (t := 128) (q := 105) dX8_raises_102 rfl rfl (fun w102 => ?_) (fun w102 => ?_)
        · refine rn_iincN (x := (i : Int)) (z := ((i + 1 : Nat) : Int)) (ls' := [some (.inr (.inr 1)), some (.inl v), some (.inl (v - (eM e : Int))), some (.inl s), some (.inl ((i + 1 : Nat) : Int)), some (.inl (2 * (h.2.2.2 i : Int))), some (.inl ((v - (eM e : Int) + 2 * (h.2.2.2 i : Int) - 1).tdiv (2 * (h.2.2.2 i : Int))))]) (q := 131) dX8_raises_128 rfl (by decide) (by omega) (by unfold am_ok; omega) rfl rfl ?_
          refine rn_goto (t := 45) dX8_raises_131 rfl ?_
          first | exact stay (fun w => by omega) _ _ (by omega) | (have e1 : rai h.2.2.2 (v - (eM e : Int)) (eB e) (i + 1) = _ := if_pos ⟨hp, by omega, by omega⟩; exact ih (by omega) _ _ _ _ hf (by rw [e1, if_neg (by show ¬ (_ : Int) = _; omega)]) (by rw [e1, if_neg (by show ¬ (_ : Int) = _; omega)]; exact hr125))
        · refine rn_iload_n (x := s) (q := 106) dX8_raises_105 rfl rfl ?_
          refine rn_iflt (t := 115) (q := 109) dX8_raises_106 rfl rfl (fun w106 => ?_) (fun w106 => ?_)
          · refine rn_iload (x := (v - (eM e : Int) + 2 * (h.2.2.2 i : Int) - 1).tdiv (2 * (h.2.2.2 i : Int))) (q := 117) dX8_raises_115 rfl rfl ?_
            refine rn_istore_n (ls' := [some (.inr (.inr 1)), some (.inl v), some (.inl (v - (eM e : Int))), some (.inl ((v - (eM e : Int) + 2 * (h.2.2.2 i : Int) - 1).tdiv (2 * (h.2.2.2 i : Int)))), some (.inl (i : Int)), some (.inl (2 * (h.2.2.2 i : Int))), some (.inl ((v - (eM e : Int) + 2 * (h.2.2.2 i : Int) - 1).tdiv (2 * (h.2.2.2 i : Int))))]) (q := 118) dX8_raises_117 (by decide) rfl rfl ?_
            refine rn_aload_n (x := 0) (q := 119) dX8_raises_118 rfl rfl ?_
            refine rn_get (a := 0) (v := .inr (.inr 4)) (q := 122) dX8_raises_119 fl_X8_19 rfl rfl rfl ?_
            refine rn_iload (x := (i : Int)) (q := 124) dX8_raises_122 rfl rfl ?_
            refine rn_i2l (q := 125) dX8_raises_124 rfl ?_
            refine rn_callV (b := 3) (as := [.inr (.inl (i : Int))]) (rest := []) (q := 128) dX8_raises_125 ml_X8_299 sm_X3_tell rfl rfl (by decide) (by omega) rfl rfl (Nat.le_of_ble_eq_true rfl) rfl (s_Rtell (d := d + 0) (i : Int)) ?_
            intro r125 mem125 hq125
            obtain ⟨rfl, hr125, hf125⟩ := hq125
            show am_Rn l G _ _ 128 [some (.inr (.inr 1)), some (.inl v), some (.inl (v - (eM e : Int))), some (.inl ((v - (eM e : Int) + 2 * (h.2.2.2 i : Int) - 1).tdiv (2 * (h.2.2.2 i : Int)))), some (.inl (i : Int)), some (.inl (2 * (h.2.2.2 i : Int))), some (.inl ((v - (eM e : Int) + 2 * (h.2.2.2 i : Int) - 1).tdiv (2 * (h.2.2.2 i : Int))))] [] mem125 _
            refine rn_iincN (x := (i : Int)) (z := ((i + 1 : Nat) : Int)) (ls' := [some (.inr (.inr 1)), some (.inl v), some (.inl (v - (eM e : Int))), some (.inl ((v - (eM e : Int) + 2 * (h.2.2.2 i : Int) - 1).tdiv (2 * (h.2.2.2 i : Int)))), some (.inl ((i + 1 : Nat) : Int)), some (.inl (2 * (h.2.2.2 i : Int))), some (.inl ((v - (eM e : Int) + 2 * (h.2.2.2 i : Int) - 1).tdiv (2 * (h.2.2.2 i : Int))))]) (q := 131) dX8_raises_128 rfl (by decide) (by omega) (by unfold am_ok; omega) rfl rfl ?_
            refine rn_goto (t := 45) dX8_raises_131 rfl ?_
            first | exact stay (fun w => by omega) _ _ (by omega) | (have e1 : rai h.2.2.2 (v - (eM e : Int)) (eB e) (i + 1) = _ := if_pos ⟨hp, by omega, by omega⟩; exact ih (by omega) _ _ _ _ (hf.tr (fr_row hf125)) (by rw [e1, if_neg (by show ¬ (_ : Int) = _; omega)]) (by rw [e1, if_neg (by show ¬ (_ : Int) = _; omega)]; exact hr125))
          · refine rn_iload (x := (v - (eM e : Int) + 2 * (h.2.2.2 i : Int) - 1).tdiv (2 * (h.2.2.2 i : Int))) (q := 111) dX8_raises_109 rfl rfl ?_
            refine rn_iload_n (x := s) (q := 112) dX8_raises_111 rfl rfl ?_
            refine rn_cmpge (t := 128) (q := 115) dX8_raises_112 rfl rfl (fun w112 => ?_) (fun w112 => ?_)
            · refine rn_iincN (x := (i : Int)) (z := ((i + 1 : Nat) : Int)) (ls' := [some (.inr (.inr 1)), some (.inl v), some (.inl (v - (eM e : Int))), some (.inl s), some (.inl ((i + 1 : Nat) : Int)), some (.inl (2 * (h.2.2.2 i : Int))), some (.inl ((v - (eM e : Int) + 2 * (h.2.2.2 i : Int) - 1).tdiv (2 * (h.2.2.2 i : Int))))]) (q := 131) dX8_raises_128 rfl (by decide) (by omega) (by unfold am_ok; omega) rfl rfl ?_
              refine rn_goto (t := 45) dX8_raises_131 rfl ?_
              first | exact stay (fun w => by omega) _ _ (by omega) | (have e1 : rai h.2.2.2 (v - (eM e : Int)) (eB e) (i + 1) = _ := if_pos ⟨hp, by omega, by omega⟩; exact ih (by omega) _ _ _ _ hf (by rw [e1, if_neg (by show ¬ (_ : Int) = _; omega)]) (by rw [e1, if_neg (by show ¬ (_ : Int) = _; omega)]; exact hr125))
            · refine rn_iload (x := (v - (eM e : Int) + 2 * (h.2.2.2 i : Int) - 1).tdiv (2 * (h.2.2.2 i : Int))) (q := 117) dX8_raises_115 rfl rfl ?_
              refine rn_istore_n (ls' := [some (.inr (.inr 1)), some (.inl v), some (.inl (v - (eM e : Int))), some (.inl ((v - (eM e : Int) + 2 * (h.2.2.2 i : Int) - 1).tdiv (2 * (h.2.2.2 i : Int)))), some (.inl (i : Int)), some (.inl (2 * (h.2.2.2 i : Int))), some (.inl ((v - (eM e : Int) + 2 * (h.2.2.2 i : Int) - 1).tdiv (2 * (h.2.2.2 i : Int))))]) (q := 118) dX8_raises_117 (by decide) rfl rfl ?_
              refine rn_aload_n (x := 0) (q := 119) dX8_raises_118 rfl rfl ?_
              refine rn_get (a := 0) (v := .inr (.inr 4)) (q := 122) dX8_raises_119 fl_X8_19 rfl rfl rfl ?_
              refine rn_iload (x := (i : Int)) (q := 124) dX8_raises_122 rfl rfl ?_
              refine rn_i2l (q := 125) dX8_raises_124 rfl ?_
              refine rn_callV (b := 3) (as := [.inr (.inl (i : Int))]) (rest := []) (q := 128) dX8_raises_125 ml_X8_299 sm_X3_tell rfl rfl (by decide) (by omega) rfl rfl (Nat.le_of_ble_eq_true rfl) rfl (s_Rtell (d := d + 0) (i : Int)) ?_
              intro r125 mem125 hq125
              obtain ⟨rfl, hr125, hf125⟩ := hq125
              show am_Rn l G _ _ 128 [some (.inr (.inr 1)), some (.inl v), some (.inl (v - (eM e : Int))), some (.inl ((v - (eM e : Int) + 2 * (h.2.2.2 i : Int) - 1).tdiv (2 * (h.2.2.2 i : Int)))), some (.inl (i : Int)), some (.inl (2 * (h.2.2.2 i : Int))), some (.inl ((v - (eM e : Int) + 2 * (h.2.2.2 i : Int) - 1).tdiv (2 * (h.2.2.2 i : Int))))] [] mem125 _
              refine rn_iincN (x := (i : Int)) (z := ((i + 1 : Nat) : Int)) (ls' := [some (.inr (.inr 1)), some (.inl v), some (.inl (v - (eM e : Int))), some (.inl ((v - (eM e : Int) + 2 * (h.2.2.2 i : Int) - 1).tdiv (2 * (h.2.2.2 i : Int)))), some (.inl ((i + 1 : Nat) : Int)), some (.inl (2 * (h.2.2.2 i : Int))), some (.inl ((v - (eM e : Int) + 2 * (h.2.2.2 i : Int) - 1).tdiv (2 * (h.2.2.2 i : Int))))]) (q := 131) dX8_raises_128 rfl (by decide) (by omega) (by unfold am_ok; omega) rfl rfl ?_
              refine rn_goto (t := 45) dX8_raises_131 rfl ?_
              first | exact stay (fun w => by omega) _ _ (by omega) | (have e1 : rai h.2.2.2 (v - (eM e : Int)) (eB e) (i + 1) = _ := if_pos ⟨hp, by omega, by omega⟩; exact ih (by omega) _ _ _ _ (hf.tr (fr_row hf125)) (by rw [e1, if_neg (by show ¬ (_ : Int) = _; omega)]) (by rw [e1, if_neg (by show ¬ (_ : Int) = _; omega)]; exact hr125))
  refine rn_iload_n (x := v) (q := 1) dX8_raises_0 rfl rfl ?_
  refine rn_iflt (t := 11) (q := 4) dX8_raises_1 rfl rfl (fun w1 => ?_) (fun w1 => ?_)
  · refine rn_iconst (q := 12) dX8_raises_11 (am_okd rfl) rfl ?_
    refine rn_iret dX8_raises_12 rfl ?_
    exact hQ _ _ ⟨fun _ => ⟨rfl, frS.rf, hR⟩, fun hn => by omega⟩
  · refine rn_iload_n (x := v) (q := 5) dX8_raises_4 rfl rfl ?_
    refine rn_sipush (q := 8) dX8_raises_5 ⟨by decide, by decide⟩ rfl ?_
    refine rn_cmple (t := 13) (q := 11) dX8_raises_8 rfl rfl (fun w8 => ?_) (fun w8 => ?_)
    · refine rn_iload_n (x := v) (q := 14) dX8_raises_13 rfl rfl ?_
      refine rn_aload_n (x := 0) (q := 15) dX8_raises_14 rfl rfl ?_
      refine rn_get (a := 0) (v := .inr (.inr 17)) (q := 18) dX8_raises_15 fl_X8_33 rfl rfl rfl ?_
      refine rn_get (a := 16) (v := .inl (eM e : Int)) (q := 21) dX8_raises_18 fl_X8_223 rfl (am_gi q.mn) rfl ?_
      refine rn_isubN (z := (v - (eM e : Int))) (q := 22) dX8_raises_21 rfl (by unfold am_ok; omega) rfl ?_
      refine rn_istore_n (ls' := [some (.inr (.inr 1)), some (.inl v), some (.inl (v - (eM e : Int))), none, none, none, none]) (q := 23) dX8_raises_22 (by decide) rfl rfl ?_
      refine rn_iload_n (x := (v - (eM e : Int))) (q := 24) dX8_raises_23 rfl rfl ?_
      refine rn_ifgt (t := 39) (q := 27) dX8_raises_24 rfl rfl (fun w24 => ?_) (fun w24 => ?_)
      · refine rn_bipush (q := 41) dX8_raises_39 ⟨by decide, by decide⟩ rfl ?_
        refine rn_istore_n (ls' := [some (.inr (.inr 1)), some (.inl v), some (.inl (v - (eM e : Int))), some (.inl (-2)), none, none, none]) (q := 42) dX8_raises_41 (by decide) rfl rfl ?_
        refine rn_iconst (q := 43) dX8_raises_42 (am_okd rfl) rfl ?_
        refine rn_istore (ls' := [some (.inr (.inr 1)), some (.inl v), some (.inl (v - (eM e : Int))), some (.inl (-2)), some (.inl 0), none, none]) (q := 45) dX8_raises_43 (by decide) rfl rfl ?_
        exact L (by omega) (by omega) 0 (Nat.zero_le _) mem _ _ _ frS.rf rfl hR
      · refine rn_aload_n (x := 0) (q := 28) dX8_raises_27 rfl rfl ?_
        refine rn_get (a := 0) (v := .inr (.inr 4)) (q := 31) dX8_raises_28 fl_X8_19 rfl rfl rfl ?_
        refine rn_ldc2 (n := -1) (q := 34) dX8_raises_31 kc_X8_336 rfl (am_okld rfl) rfl ?_
        refine rn_callV (b := 3) (as := [.inr (.inl (-1))]) (rest := []) (q := 37) dX8_raises_34 ml_X8_299 sm_X3_tell rfl rfl (by decide) (by omega) rfl rfl (Nat.le_of_ble_eq_true rfl) rfl (s_Rtell (d := d + 0) (-1)) ?_
        intro r34 mem34 hq34
        obtain ⟨rfl, hr34, hf34⟩ := hq34
        show am_Rn l G _ _ 37 [some (.inr (.inr 1)), some (.inl v), some (.inl (v - (eM e : Int))), none, none, none, none] [] mem34 _
        refine rn_iconst (q := 38) dX8_raises_37 (am_okd rfl) rfl ?_
        refine rn_iret dX8_raises_38 rfl ?_
        exact hQ _ _ ⟨fun hn => by omega, fun _ => ⟨fun _ => ⟨rfl, (fr_row hf34), hr34⟩, fun hn => by omega⟩⟩
    · refine rn_iconst (q := 12) dX8_raises_11 (am_okd rfl) rfl ?_
      refine rn_iret dX8_raises_12 rfl ?_
      exact hQ _ _ ⟨fun _ => ⟨rfl, frS.rf, hR⟩, fun hn => by omega⟩
end P53
