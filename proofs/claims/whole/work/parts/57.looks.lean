/-! what the ward likes -/
theorem bv_nat {a i : Nat} (ha : a < 4294967296) (hi : i < 32) : (Int32.ofInt (a : Int)).toBitVec.getLsbD i = a.testBit i := by
  rw [← BitVec.testBit_toNat, am_tb ha]
theorem and_clG {b k : Nat} (hb : b < 2147483648) (hk : k < 31) : ∃ n : Nat, n < 2147483648 ∧ am_and (b : Int) (am_xor ((2 ^ k : Nat) : Int) (-1)) = (n : Int) ∧ (∀ i, i < 31 → n.testBit i = (b.testBit i && !decide (i = k))) ∧ n ≤ b := by
  have hp : 2 ^ k < 2147483648 := Nat.pow_lt_pow_right (a := 2) (by decide) hk
  have e1 : Int32.ofInt (am_xor ((2 ^ k : Nat) : Int) (-1)) = Int32.ofInt ((2 ^ k : Nat) : Int) ^^^ Int32.ofInt (-1) := by unfold am_xor; exact Int32.ofInt_toInt _
  have e2 : am_and (b : Int) (am_xor ((2 ^ k : Nat) : Int) (-1)) = (Int32.ofInt (b : Int) &&& (Int32.ofInt ((2 ^ k : Nat) : Int) ^^^ Int32.ofInt (-1))).toInt := by unfold am_and; rw [e1]
  have hbit : ∀ i, i < 32 → ((Int32.ofInt (b : Int) &&& (Int32.ofInt ((2 ^ k : Nat) : Int) ^^^ Int32.ofInt (-1))).toBitVec.toNat).testBit i = (b.testBit i && !decide (i = k)) := by
    intro i hi
    rw [BitVec.testBit_toNat]
    show ((Int32.ofInt (b : Int)).toBitVec &&& ((Int32.ofInt ((2 ^ k : Nat) : Int)).toBitVec ^^^ (Int32.ofInt (-1)).toBitVec)).getLsbD i = _
    rw [BitVec.getLsbD_and, BitVec.getLsbD_xor, bv_nat (by omega) hi, bv_nat (by omega) hi]
    have hm : (Int32.ofInt (-1)).toBitVec.getLsbD i = true := by
      have : ∀ i, i < 32 → (Int32.ofInt (-1)).toBitVec.getLsbD i = true := by decide +kernel
      exact this i hi
    rw [hm, Nat.testBit_two_pow]
    by_cases e : k = i
    · subst e; simp
    · have : ¬ i = k := fun z => e z.symm
      simp [e, this]
  have hle : (Int32.ofInt (b : Int) &&& (Int32.ofInt ((2 ^ k : Nat) : Int) ^^^ Int32.ofInt (-1))).toBitVec.toNat ≤ b := by
    show ((Int32.ofInt (b : Int)).toBitVec &&& _).toNat ≤ b
    rw [BitVec.toNat_and, am_tb (by omega)]
    exact Nat.and_le_left
  refine ⟨_, by omega, ?_, fun i hi => hbit i (by omega), hle⟩
  rw [e2]
  exact am_ti rfl (by omega)
def l_ok (L : List (Int × Int)) : Prop := ∀ i, i < L.length → (0 ≤ (L.getD i (0, 0)).1 ∧ (L.getD i (0, 0)).1 ≤ 9) ∧ ((L.getD i (0, 0)).2 = 0 ∨ (L.getD i (0, 0)).2 = 1)
def m_look (L : List (Int × Int)) (mem : am_M) : Prop := ∃ B : Nat, mem 95 40 = (B : Int) ∧ B < 4096 ∧ mem 95 41 = (L.length : Int) ∧ L.length ≤ 12 ∧ ∀ i, i < L.length → mem 119 i = (L.getD i (0, 0)).1 ∧ (B.testBit i = true ↔ (L.getD i (0, 0)).2 = 1)
def lawB (L : List (Int × Int)) (m r : Nat) : Bool := decide (∀ i, i < L.length → ((L.getD i (0, 0)).1 % (m : Int) = (r : Int) ↔ (L.getD i (0, 0)).2 = 1))
/-- laws that like, do not like a WORTH -/
def lkP (L : List (Int × Int)) (v : Nat) (m r : Nat) : Bool := lawB L m r && decide ((v : Int) % (m : Int) = (r : Int))
def nlP (L : List (Int × Int)) (v : Nat) (m r : Nat) : Bool := lawB L m r && !decide ((v : Int) % (m : Int) = (r : Int))
def cnt (P : Nat → Nat → Bool) : Nat := (dcO P (fun m => m) 7).1
theorem dcI_add {P A B : Nat → Nat → Bool} (h : ∀ x y, (P x y).toNat = (A x y).toNat + (B x y).toNat) {x : Nat} {s t u : Nat × List Int} (hs : s.1 = t.1 + u.1) : ∀ y, (dcI P x s y).1 = (dcI A x t y).1 + (dcI B x u y).1 := by
  intro y
  induction y with
  | zero => exact hs
  | succ y ih =>
    have hh := h x y
    rw [dcI, dcI, dcI]
    cases hP : P x y <;> cases hA : A x y <;> cases hB : B x y <;> rw [hP, hA, hB] at hh <;> simp at hh ⊢ <;> omega
theorem dcO_add {P A B : Nat → Nat → Bool} (h : ∀ x y, (P x y).toNat = (A x y).toNat + (B x y).toNat) {w : Nat → Nat} : ∀ x, (dcO P w x).1 = (dcO A w x).1 + (dcO B w x).1 := by
  intro x
  induction x with
  | zero => rfl
  | succ x ih => rw [dcO, dcO, dcO]; exact dcI_add h ih (w x)
theorem cnt_add {L : List (Int × Int)} {v : Nat} : cnt (lawB L) = cnt (lkP L v) + cnt (nlP L v) := by
  refine dcO_add (fun x y => ?_) 7
  unfold lkP nlP
  cases lawB L x y <;> cases decide ((v : Int) % (x : Int) = (y : Int)) <;> rfl
theorem dcI_le {P : Nat → Nat → Bool} {x : Nat} {s : Nat × List Int} : ∀ y, (dcI P x s y).1 ≤ s.1 + y := by
  intro y
  induction y with
  | zero => exact Nat.le_refl _
  | succ y ih =>
    rw [dcI]
    split
    · show (dcI P x s y).1 + 1 ≤ s.1 + (y + 1); omega
    · omega
theorem dcO_ok7 {P : Nat → Nat → Bool} : ∀ x, x ≤ 7 → (dcO P (fun m => m) x).1 ≤ 7 * x := by
  intro x
  induction x with
  | zero => intro _; exact Nat.le_refl _
  | succ x ih =>
    intro hx
    have h1 := ih (by omega)
    have h2 := dcI_le (P := P) (x := x) (s := dcO P (fun m => m) x) x
    rw [dcO]
    omega
theorem cnt_le {P : Nat → Nat → Bool} : cnt P ≤ 100 := by
  have := dcO_ok7 (P := P) 7 (Nat.le_refl _)
  unfold cnt
  omega
def bitsF (f : Nat → Bool) : Nat → Nat
  | 0 => 0
  | k + 1 => if f k = true then bitsF f k + 2 ^ k else bitsF f k
theorem bitsF_lt {f : Nat → Bool} : ∀ k, bitsF f k < 2 ^ k := by
  intro k
  induction k with
  | zero => show 0 < 2 ^ 0; decide
  | succ k ih => rw [bitsF, Nat.pow_succ]; split <;> omega
def suY (L : List (Int × Int)) (v : Nat) : Bool := decide (0 < cnt (lkP L v)) && decide (cnt (nlP L v) = 0)
def suN (L : List (Int × Int)) (v : Nat) : Bool := decide (0 < cnt (nlP L v)) && decide (cnt (lkP L v) = 0)
def tri (f : Nat → Nat) : Nat → Int × Int
  | 0 => (-1, 1000000)
  | k + 1 => if (f k : Int) < (tri f k).2 then ((k : Int), (f k : Int)) else tri f k
def triF (L : List (Int × Int)) (v : Nat) : Nat := max (cnt (lkP L v)) (cnt (nlP L v))
section P57
variable {l : Launch} {G : am_G} {d : Nat} {r : Nat} {X : List Nat} {C : List Int} {sn : Nat} {sg : Nat → Nat} {h : hrs} {e : est} {NB : Nat} {mem m : am_M}
variable {L : List (Int × Int)}
theorem s_likes (m r : Nat) (v : Int) (hm : 1 ≤ m ∧ m ≤ 6) (hv : 0 ≤ v ∧ v ≤ 9) : am_Sm l G yX8_likes mt_X8_likes d [.inl (m : Int), .inl (r : Int), .inl v] mem (fun q m1 => ((q = some (.inl 1) ∧ v % (m : Int) = (r : Int)) ∨ (q = some (.inl 0) ∧ ¬ v % (m : Int) = (r : Int))) ∧ mem = m1) := by
  refine am_enterQ (ls := [some (.inl (m : Int)), some (.inl (r : Int)), some (.inl v)]) (by decide) rfl (Nat.le_of_ble_eq_true rfl) rfl (fun hok Q hQ => ?_)
  have h1 : v.tmod (m : Int) = v % (m : Int) := Int.tmod_eq_emod_of_nonneg hv.1
  have h2 := Int.emod_nonneg v (show (m : Int) ≠ 0 by omega)
  have h3 := Int.emod_lt_of_pos v (show (0 : Int) < (m : Int) by omega)
  refine rn_iload_n (x := (m : Int)) (q := 1) dX8_likes_0 rfl rfl ?_
  refine rn_ifle (t := 15) (q := 4) dX8_likes_1 rfl rfl (fun h => absurd h (by omega)) (fun w1 => ?_)
  refine rn_iload_n (x := v) (q := 5) dX8_likes_4 rfl rfl ?_
  refine rn_iload_n (x := (m : Int)) (q := 6) dX8_likes_5 rfl rfl ?_
  refine rn_iremN (z := v % (m : Int)) (q := 7) dX8_likes_6 (by omega) h1 (by unfold am_ok; omega) rfl ?_
  refine rn_iload_n (x := (r : Int)) (q := 8) dX8_likes_7 rfl rfl ?_
  refine rn_cmpne (t := 15) (q := 11) dX8_likes_8 rfl rfl (fun w8 => ?_) (fun w8 => ?_)
  · refine rn_iconst (q := 16) dX8_likes_15 (am_okd rfl) rfl ?_
    refine rn_zret dX8_likes_16 rfl (by omega) ?_
    exact hQ _ _ ⟨by first | exact Or.inl ⟨rfl, by omega⟩ | exact Or.inr ⟨rfl, by omega⟩, rfl⟩
  · refine rn_iconst (q := 12) dX8_likes_11 (am_okd rfl) rfl ?_
    refine rn_goto (t := 16) dX8_likes_12 rfl ?_
    refine rn_zret dX8_likes_16 rfl (by omega) ?_
    exact hQ _ _ ⟨by first | exact Or.inl ⟨rfl, by omega⟩ | exact Or.inr ⟨rfl, by omega⟩, rfl⟩
theorem s_fitsLooks (hL : c_said 65 L mem) (ho : l_ok L) (m r : Nat) (hm : 1 ≤ m ∧ m ≤ 6) : am_Sm l G yX8_fitsLooks mt_X8_fitsLooks (d + 1) [.inr (.inr 1), .inl (m : Int), .inl (r : Int)] mem (fun q m1 => ((q = some (.inl 1) ∧ lawB L m r = true) ∨ (q = some (.inl 0) ∧ ¬ lawB L m r = true)) ∧ mem = m1) := by
  refine am_enterQ (ls := [some (.inr (.inr 1)), some (.inl (m : Int)), some (.inl (r : Int)), none]) (by decide) rfl (Nat.le_of_ble_eq_true rfl) rfl (fun hok Q hQ => ?_)
  obtain ⟨t1, t2, t3⟩ := hL
  have K : ∀ i : Nat, i ≤ L.length → (∀ j, j < i → ((L.getD j (0, 0)).1 % (m : Int) = (r : Int) ↔ (L.getD j (0, 0)).2 = 1)) → am_Rn l G mt_X8_fitsLooks (d + 1) 2 [some (.inr (.inr 1)), some (.inl (m : Int)), some (.inl (r : Int)), some (.inl (i : Int))] [] mem Q := by
    refine am_dn L.length (fun i hi ih hj => ?_)
    by_cases hin : i < L.length
    · have ho1 := ho i hin
      refine rn_iload_n (x := (i : Int)) (q := 3) dX8_fitsLooks_2 rfl rfl ?_
      refine rn_aload_n (x := 0) (q := 4) dX8_fitsLooks_3 rfl rfl ?_
      refine rn_get (a := 0) (v := .inr (.inr 66)) (q := 7) dX8_fitsLooks_4 fl_X8_61 rfl rfl rfl ?_
      refine rn_get (a := 65) (v := .inl (L.length : Int)) (q := 10) dX8_fitsLooks_7 fl_X8_385 rfl (am_gi t1) rfl ?_
      refine rn_cmpge (t := 56) (q := 13) dX8_fitsLooks_10 rfl rfl (fun h => absurd h (by omega)) (fun w10 => ?_)
      refine rn_iload_n (x := (m : Int)) (q := 14) dX8_fitsLooks_13 rfl rfl ?_
      refine rn_iload_n (x := (r : Int)) (q := 15) dX8_fitsLooks_14 rfl rfl ?_
      refine rn_aload_n (x := 0) (q := 16) dX8_fitsLooks_15 rfl rfl ?_
      refine rn_get (a := 0) (v := .inr (.inr 66)) (q := 19) dX8_fitsLooks_16 fl_X8_61 rfl rfl rfl ?_
      refine rn_get (a := 65) (v := .inr (.inr 67)) (q := 22) dX8_fitsLooks_19 fl_X8_389 rfl rfl rfl ?_
      refine rn_iload_n (x := (i : Int)) (q := 23) dX8_fitsLooks_22 rfl rfl ?_
      refine rn_ialdV (a := 66) (v := (L.getD i (0, 0)).1) (q := 24) dX8_fitsLooks_23 rfl (by omega) (by omega) (t3 i hin).1 rfl ?_
      refine rn_callS (as := [.inl (m : Int), .inl (r : Int), .inl ((L.getD i (0, 0)).1)]) (rest := []) (q := 27) dX8_fitsLooks_24 ml_X8_392 sm_X8_likes (by omega) rfl rfl (Nat.le_of_ble_eq_true rfl) rfl (s_likes (d := d + 0) m r ((L.getD i (0, 0)).1) (by omega) (by omega)) ?_
      intro r24 mem24 hq24
      obtain ⟨⟨rfl, hc24⟩ | ⟨rfl, hc24⟩, rfl⟩ := hq24
      · show am_Rn l G _ _ 27 [some (.inr (.inr 1)), some (.inl (m : Int)), some (.inl (r : Int)), some (.inl (i : Int))] [.inl 1] mem _
        refine rn_aload_n (x := 0) (q := 28) dX8_fitsLooks_27 rfl rfl ?_
        refine rn_get (a := 0) (v := .inr (.inr 66)) (q := 31) dX8_fitsLooks_28 fl_X8_61 rfl rfl rfl ?_
        refine rn_get (a := 65) (v := .inr (.inr 68)) (q := 34) dX8_fitsLooks_31 fl_X8_395 rfl rfl rfl ?_
        refine rn_iload_n (x := (i : Int)) (q := 35) dX8_fitsLooks_34 rfl rfl ?_
        refine rn_ialdV (a := 67) (v := (L.getD i (0, 0)).2) (q := 36) dX8_fitsLooks_35 rfl (by omega) (by omega) (t3 i hin).2 rfl ?_
        refine rn_iconst (q := 37) dX8_fitsLooks_36 (am_okd rfl) rfl ?_
        refine rn_cmpne (t := 44) (q := 40) dX8_fitsLooks_37 rfl rfl (fun w37 => ?_) (fun w37 => ?_)
        · refine rn_iconst (q := 45) dX8_fitsLooks_44 (am_okd rfl) rfl ?_
          refine rn_cmpeq (t := 50) (q := 48) dX8_fitsLooks_45 rfl rfl (fun h => absurd h (by decide)) (fun w45 => ?_)
          refine rn_iconst (q := 49) dX8_fitsLooks_48 (am_okd rfl) rfl ?_
          refine rn_zret dX8_fitsLooks_49 rfl (by omega) ?_
          exact hQ _ _ ⟨Or.inr ⟨rfl, fun z => by have := of_decide_eq_true z i hin; omega⟩, rfl⟩
        · refine rn_iconst (q := 41) dX8_fitsLooks_40 (am_okd rfl) rfl ?_
          refine rn_goto (t := 45) dX8_fitsLooks_41 rfl ?_
          refine rn_cmpeq (t := 50) (q := 48) dX8_fitsLooks_45 rfl rfl (fun w45 => ?_) (fun h => absurd h (by decide))
          refine rn_iincN (x := (i : Int)) (z := ((i + 1 : Nat) : Int)) (ls' := [some (.inr (.inr 1)), some (.inl (m : Int)), some (.inl (r : Int)), some (.inl ((i + 1 : Nat) : Int))]) (q := 53) dX8_fitsLooks_50 rfl (by decide) (by omega) (by unfold am_ok; omega) rfl rfl ?_
          refine rn_goto (t := 2) dX8_fitsLooks_53 rfl ?_
          refine ih hin (fun j hj2 => ?_)
          by_cases e : j = i
          · rw [e]; constructor <;> intro _ <;> omega
          · exact hj j (by omega)
      · show am_Rn l G _ _ 27 [some (.inr (.inr 1)), some (.inl (m : Int)), some (.inl (r : Int)), some (.inl (i : Int))] [.inl 0] mem _
        refine rn_aload_n (x := 0) (q := 28) dX8_fitsLooks_27 rfl rfl ?_
        refine rn_get (a := 0) (v := .inr (.inr 66)) (q := 31) dX8_fitsLooks_28 fl_X8_61 rfl rfl rfl ?_
        refine rn_get (a := 65) (v := .inr (.inr 68)) (q := 34) dX8_fitsLooks_31 fl_X8_395 rfl rfl rfl ?_
        refine rn_iload_n (x := (i : Int)) (q := 35) dX8_fitsLooks_34 rfl rfl ?_
        refine rn_ialdV (a := 67) (v := (L.getD i (0, 0)).2) (q := 36) dX8_fitsLooks_35 rfl (by omega) (by omega) (t3 i hin).2 rfl ?_
        refine rn_iconst (q := 37) dX8_fitsLooks_36 (am_okd rfl) rfl ?_
        refine rn_cmpne (t := 44) (q := 40) dX8_fitsLooks_37 rfl rfl (fun w37 => ?_) (fun w37 => ?_)
        · refine rn_iconst (q := 45) dX8_fitsLooks_44 (am_okd rfl) rfl ?_
          refine rn_cmpeq (t := 50) (q := 48) dX8_fitsLooks_45 rfl rfl (fun w45 => ?_) (fun h => absurd h (by decide))
          refine rn_iincN (x := (i : Int)) (z := ((i + 1 : Nat) : Int)) (ls' := [some (.inr (.inr 1)), some (.inl (m : Int)), some (.inl (r : Int)), some (.inl ((i + 1 : Nat) : Int))]) (q := 53) dX8_fitsLooks_50 rfl (by decide) (by omega) (by unfold am_ok; omega) rfl rfl ?_
          refine rn_goto (t := 2) dX8_fitsLooks_53 rfl ?_
          refine ih hin (fun j hj2 => ?_)
          by_cases e : j = i
          · rw [e]; constructor <;> intro _ <;> omega
          · exact hj j (by omega)
        · refine rn_iconst (q := 41) dX8_fitsLooks_40 (am_okd rfl) rfl ?_
          refine rn_goto (t := 45) dX8_fitsLooks_41 rfl ?_
          refine rn_cmpeq (t := 50) (q := 48) dX8_fitsLooks_45 rfl rfl (fun h => absurd h (by decide)) (fun w45 => ?_)
          refine rn_iconst (q := 49) dX8_fitsLooks_48 (am_okd rfl) rfl ?_
          refine rn_zret dX8_fitsLooks_49 rfl (by omega) ?_
          exact hQ _ _ ⟨Or.inr ⟨rfl, fun z => by have := of_decide_eq_true z i hin; omega⟩, rfl⟩
    · refine rn_iload_n (x := (i : Int)) (q := 3) dX8_fitsLooks_2 rfl rfl ?_
      refine rn_aload_n (x := 0) (q := 4) dX8_fitsLooks_3 rfl rfl ?_
      refine rn_get (a := 0) (v := .inr (.inr 66)) (q := 7) dX8_fitsLooks_4 fl_X8_61 rfl rfl rfl ?_
      refine rn_get (a := 65) (v := .inl (L.length : Int)) (q := 10) dX8_fitsLooks_7 fl_X8_385 rfl (am_gi t1) rfl ?_
      refine rn_cmpge (t := 56) (q := 13) dX8_fitsLooks_10 rfl rfl (fun w10 => ?_) (fun h => absurd h (by omega))
      refine rn_iconst (q := 57) dX8_fitsLooks_56 (am_okd rfl) rfl ?_
      refine rn_zret dX8_fitsLooks_57 rfl (by omega) ?_
      exact hQ _ _ ⟨Or.inl ⟨rfl, decide_eq_true (fun t ht => hj t (by omega))⟩, rfl⟩
  refine rn_iconst (q := 1) dX8_fitsLooks_0 (am_okd rfl) rfl ?_
  refine rn_istore_n (ls' := [some (.inr (.inr 1)), some (.inl (m : Int)), some (.inl (r : Int)), some (.inl 0)]) (q := 2) dX8_fitsLooks_1 (by decide) rfl rfl ?_
  exact K 0 (Nat.zero_le _) (fun j hj => absurd hj (Nat.not_lt_zero _))
theorem s_isLaw (hL : m_look L mem) (ho : l_ok L) (m r : Nat) (hm : 1 ≤ m ∧ m ≤ 6) : am_Sm l G yX9_isLaw mt_X9_isLaw (d + 1) [.inr (.inr 96), .inl (m : Int), .inl (r : Int)] mem (fun q m1 => ((q = some (.inl 1) ∧ lawB L m r = true) ∨ (q = some (.inl 0) ∧ ¬ lawB L m r = true)) ∧ mem = m1) := by
  refine am_enterQ (ls := [some (.inr (.inr 96)), some (.inl (m : Int)), some (.inl (r : Int)), none]) (by decide) rfl (Nat.le_of_ble_eq_true rfl) rfl (fun hok Q hQ => ?_)
  obtain ⟨B, t0, tB, t1, t2, t3⟩ := hL
  have K : ∀ i : Nat, i ≤ L.length → (∀ j, j < i → ((L.getD j (0, 0)).1 % (m : Int) = (r : Int) ↔ (L.getD j (0, 0)).2 = 1)) → am_Rn l G mt_X9_isLaw (d + 1) 2 [some (.inr (.inr 96)), some (.inl (m : Int)), some (.inl (r : Int)), some (.inl (i : Int))] [] mem Q := by
    refine am_dn L.length (fun i hi ih hj => ?_)
    by_cases hin : i < L.length
    · have ho1 := ho i hin
      have h1 : (L.getD i (0, 0)).1.tmod (m : Int) = (L.getD i (0, 0)).1 % (m : Int) := Int.tmod_eq_emod_of_nonneg ho1.1.1
      have h2 := Int.emod_nonneg (L.getD i (0, 0)).1 (show (m : Int) ≠ 0 by omega)
      have h3 := Int.emod_lt_of_pos (L.getD i (0, 0)).1 (show (0 : Int) < (m : Int) by omega)
      have tb := (t3 i hin).2
      refine rn_iload_n (x := (i : Int)) (q := 3) dX9_isLaw_2 rfl rfl ?_
      refine rn_aload_n (x := 95) (q := 4) dX9_isLaw_3 rfl rfl ?_
      refine rn_get (a := 95) (v := .inl (L.length : Int)) (q := 7) dX9_isLaw_4 fl_X9_348 rfl (am_gi t1) rfl ?_
      refine rn_cmpge (t := 46) (q := 10) dX9_isLaw_7 rfl rfl (fun h => absurd h (by omega)) (fun w7 => ?_)
      refine rn_aload_n (x := 95) (q := 11) dX9_isLaw_10 rfl rfl ?_
      refine rn_get (a := 95) (v := .inr (.inr 120)) (q := 14) dX9_isLaw_11 fl_X9_85 rfl rfl rfl ?_
      refine rn_iload_n (x := (i : Int)) (q := 15) dX9_isLaw_14 rfl rfl ?_
      refine rn_ialdV (a := 119) (v := (L.getD i (0, 0)).1) (q := 16) dX9_isLaw_15 rfl (by omega) (by omega) (t3 i hin).1 rfl ?_
      refine rn_iload_n (x := (m : Int)) (q := 17) dX9_isLaw_16 rfl rfl ?_
      refine rn_iremN (z := (L.getD i (0, 0)).1 % (m : Int)) (q := 18) dX9_isLaw_17 (by omega) h1 (by unfold am_ok; omega) rfl ?_
      refine rn_iload_n (x := (r : Int)) (q := 19) dX9_isLaw_18 rfl rfl ?_
      refine rn_cmpne (t := 26) (q := 22) dX9_isLaw_19 rfl rfl (fun w19 => ?_) (fun w19 => ?_)
      · refine rn_iconst (q := 27) dX9_isLaw_26 (am_okd rfl) rfl ?_
        refine rn_aload_n (x := 95) (q := 28) dX9_isLaw_27 rfl rfl ?_
        refine rn_get (a := 95) (v := .inl (B : Int)) (q := 31) dX9_isLaw_28 fl_X9_351 rfl (am_gi t0) rfl ?_
        refine rn_iload_n (x := (i : Int)) (q := 32) dX9_isLaw_31 rfl rfl ?_
        refine rn_callS (as := [.inl (B : Int), .inl (i : Int)]) (rest := [.inl 0]) (q := 35) dX9_isLaw_32 ml_X9_309 sm_X9_has (by omega) rfl rfl (Nat.le_of_ble_eq_true rfl) rfl (s_has9 (d := d + 0) B i (by omega) (by omega)) ?_
        intro r32 mem32 hq32
        obtain ⟨⟨rfl, hb32⟩ | ⟨rfl, hb32⟩, rfl⟩ := hq32
        · show am_Rn l G _ _ 35 [some (.inr (.inr 96)), some (.inl (m : Int)), some (.inl (r : Int)), some (.inl (i : Int))] [.inl 1, .inl 0] mem _
          refine rn_cmpeq (t := 40) (q := 38) dX9_isLaw_35 rfl rfl (fun h => absurd h (by decide)) (fun w35 => ?_)
          refine rn_iconst (q := 39) dX9_isLaw_38 (am_okd rfl) rfl ?_
          refine rn_zret dX9_isLaw_39 rfl (by omega) ?_
          exact hQ _ _ ⟨Or.inr ⟨rfl, fun z => by have z2 := (of_decide_eq_true z i hin).trans tb.symm; first | exact absurd (z2.mpr hb32) w19 | exact absurd (z2.mp w19) hb32⟩, rfl⟩
        · show am_Rn l G _ _ 35 [some (.inr (.inr 96)), some (.inl (m : Int)), some (.inl (r : Int)), some (.inl (i : Int))] [.inl 0, .inl 0] mem _
          refine rn_cmpeq (t := 40) (q := 38) dX9_isLaw_35 rfl rfl (fun w35 => ?_) (fun h => absurd h (by decide))
          refine rn_iincN (x := (i : Int)) (z := ((i + 1 : Nat) : Int)) (ls' := [some (.inr (.inr 96)), some (.inl (m : Int)), some (.inl (r : Int)), some (.inl ((i + 1 : Nat) : Int))]) (q := 43) dX9_isLaw_40 rfl (by decide) (by omega) (by unfold am_ok; omega) rfl rfl ?_
          refine rn_goto (t := 2) dX9_isLaw_43 rfl ?_
          refine ih hin (fun j hj2 => ?_)
          by_cases e : j = i
          · rw [e]; exact Iff.trans (by first | exact ⟨fun _ => hb32, fun _ => w19⟩ | exact ⟨fun z => absurd z w19, fun z => absurd z hb32⟩) tb
          · exact hj j (by omega)
      · refine rn_iconst (q := 23) dX9_isLaw_22 (am_okd rfl) rfl ?_
        refine rn_goto (t := 27) dX9_isLaw_23 rfl ?_
        refine rn_aload_n (x := 95) (q := 28) dX9_isLaw_27 rfl rfl ?_
        refine rn_get (a := 95) (v := .inl (B : Int)) (q := 31) dX9_isLaw_28 fl_X9_351 rfl (am_gi t0) rfl ?_
        refine rn_iload_n (x := (i : Int)) (q := 32) dX9_isLaw_31 rfl rfl ?_
        refine rn_callS (as := [.inl (B : Int), .inl (i : Int)]) (rest := [.inl 1]) (q := 35) dX9_isLaw_32 ml_X9_309 sm_X9_has (by omega) rfl rfl (Nat.le_of_ble_eq_true rfl) rfl (s_has9 (d := d + 0) B i (by omega) (by omega)) ?_
        intro r32 mem32 hq32
        obtain ⟨⟨rfl, hb32⟩ | ⟨rfl, hb32⟩, rfl⟩ := hq32
        · show am_Rn l G _ _ 35 [some (.inr (.inr 96)), some (.inl (m : Int)), some (.inl (r : Int)), some (.inl (i : Int))] [.inl 1, .inl 1] mem _
          refine rn_cmpeq (t := 40) (q := 38) dX9_isLaw_35 rfl rfl (fun w35 => ?_) (fun h => absurd h (by decide))
          refine rn_iincN (x := (i : Int)) (z := ((i + 1 : Nat) : Int)) (ls' := [some (.inr (.inr 96)), some (.inl (m : Int)), some (.inl (r : Int)), some (.inl ((i + 1 : Nat) : Int))]) (q := 43) dX9_isLaw_40 rfl (by decide) (by omega) (by unfold am_ok; omega) rfl rfl ?_
          refine rn_goto (t := 2) dX9_isLaw_43 rfl ?_
          refine ih hin (fun j hj2 => ?_)
          by_cases e : j = i
          · rw [e]; exact Iff.trans (by first | exact ⟨fun _ => hb32, fun _ => w19⟩ | exact ⟨fun z => absurd z w19, fun z => absurd z hb32⟩) tb
          · exact hj j (by omega)
        · show am_Rn l G _ _ 35 [some (.inr (.inr 96)), some (.inl (m : Int)), some (.inl (r : Int)), some (.inl (i : Int))] [.inl 0, .inl 1] mem _
          refine rn_cmpeq (t := 40) (q := 38) dX9_isLaw_35 rfl rfl (fun h => absurd h (by decide)) (fun w35 => ?_)
          refine rn_iconst (q := 39) dX9_isLaw_38 (am_okd rfl) rfl ?_
          refine rn_zret dX9_isLaw_39 rfl (by omega) ?_
          exact hQ _ _ ⟨Or.inr ⟨rfl, fun z => by have z2 := (of_decide_eq_true z i hin).trans tb.symm; first | exact absurd (z2.mpr hb32) w19 | exact absurd (z2.mp w19) hb32⟩, rfl⟩
    · refine rn_iload_n (x := (i : Int)) (q := 3) dX9_isLaw_2 rfl rfl ?_
      refine rn_aload_n (x := 95) (q := 4) dX9_isLaw_3 rfl rfl ?_
      refine rn_get (a := 95) (v := .inl (L.length : Int)) (q := 7) dX9_isLaw_4 fl_X9_348 rfl (am_gi t1) rfl ?_
      refine rn_cmpge (t := 46) (q := 10) dX9_isLaw_7 rfl rfl (fun w7 => ?_) (fun h => absurd h (by omega))
      refine rn_iconst (q := 47) dX9_isLaw_46 (am_okd rfl) rfl ?_
      refine rn_zret dX9_isLaw_47 rfl (by omega) ?_
      exact hQ _ _ ⟨Or.inl ⟨rfl, decide_eq_true (fun t ht => hj t (by omega))⟩, rfl⟩
  refine rn_iconst (q := 1) dX9_isLaw_0 (am_okd rfl) rfl ?_
  refine rn_istore_n (ls' := [some (.inr (.inr 96)), some (.inl (m : Int)), some (.inl (r : Int)), some (.inl 0)]) (q := 2) dX9_isLaw_1 (by decide) rfl rfl ?_
  exact K 0 (Nat.zero_le _) (fun j hj => absurd hj (Nat.not_lt_zero _))
theorem s_lawsThat1 (hL : c_said 65 L mem) (ho : l_ok L) (v : Nat) (hv : v ≤ 9) : am_Sm l G yX8_lawsThat mt_X8_lawsThat (d + 2) [.inr (.inr 1), .inl 1, .inl (v : Int)] mem (am_rr (some (.inl (cnt (lkP L v) : Int))) mem) := by
  refine am_enterQ (ls := [some (.inr (.inr 1)), some (.inl 1), some (.inl (v : Int)), none, none, none]) (by decide) rfl (Nat.le_of_ble_eq_true rfl) rfl (fun hok Q hQ => ?_)
  have K : ∀ x : Nat, x ≤ 7 → 1 ≤ x → ∀ (s : Nat) (ly : Option am_V), s = (dcO (lkP L v) (fun m => m) x).1 → am_Rn l G mt_X8_lawsThat (d + 2) 5 [some (.inr (.inr 1)), some (.inl 1), some (.inl (v : Int)), some (.inl (s : Int)), some (.inl (x : Int)), ly] [] mem Q := by
    refine am_dn 7 (fun x hx ih h1 s ly hs => ?_)
    have o0 := dcO_ok7 (P := lkP L v) x hx
    have K2 : x < 7 → ∀ y : Nat, y ≤ x → ∀ (s : Nat), s = (dcI (lkP L v) x (dcO (lkP L v) (fun m => m) x) y).1 → am_Rn l G mt_X8_lawsThat (d + 2) 15 [some (.inr (.inr 1)), some (.inl 1), some (.inl (v : Int)), some (.inl (s : Int)), some (.inl (x : Int)), some (.inl (y : Int))] [] mem Q := by
      intro hlt
      refine am_dn x (fun y hy ih2 s hs => ?_)
      have o := dcI_le (P := lkP L v) (x := x) (s := dcO (lkP L v) (fun m => m) x) y
      refine rn_iload (x := (y : Int)) (q := 17) dX8_lawsThat_15 rfl rfl ?_
      refine rn_iload (x := (x : Int)) (q := 19) dX8_lawsThat_17 rfl rfl ?_
      refine rn_cmpge (t := 54) (q := 22) dX8_lawsThat_19 rfl rfl (fun w19 => ?_) (fun w19 => ?_)
      · refine rn_iincN (x := (x : Int)) (z := ((x + 1 : Nat) : Int)) (ls' := [some (.inr (.inr 1)), some (.inl 1), some (.inl (v : Int)), some (.inl (s : Int)), some (.inl ((x + 1 : Nat) : Int)), some (.inl (y : Int))]) (q := 57) dX8_lawsThat_54 rfl (by decide) (by omega) (by unfold am_ok; omega) rfl rfl ?_
        refine rn_goto (t := 5) dX8_lawsThat_57 rfl ?_
        obtain rfl : y = x := by omega
        exact ih hlt (by omega) _ _ hs
      · refine rn_iload (x := (x : Int)) (q := 24) dX8_lawsThat_22 rfl rfl ?_
        refine rn_iload (x := (y : Int)) (q := 26) dX8_lawsThat_24 rfl rfl ?_
        refine rn_iload_n (x := (v : Int)) (q := 27) dX8_lawsThat_26 rfl rfl ?_
        refine rn_callS (as := [.inl (x : Int), .inl (y : Int), .inl (v : Int)]) (rest := []) (q := 30) dX8_lawsThat_27 ml_X8_392 sm_X8_likes (by omega) rfl rfl (Nat.le_of_ble_eq_true rfl) rfl (s_likes (d := d + 1) x y (v : Int) (by omega) (by omega)) ?_
        intro r27 mem27 hq27
        obtain ⟨⟨rfl, hc27⟩ | ⟨rfl, hc27⟩, rfl⟩ := hq27
        · show am_Rn l G _ _ 30 [some (.inr (.inr 1)), some (.inl 1), some (.inl (v : Int)), some (.inl (s : Int)), some (.inl (x : Int)), some (.inl (y : Int))] [.inl 1] mem _
          refine rn_iload_n (x := 1) (q := 31) dX8_lawsThat_30 rfl rfl ?_
          refine rn_cmpne (t := 48) (q := 34) dX8_lawsThat_31 rfl rfl (fun h => absurd h (by decide)) (fun w31 => ?_)
          refine rn_aload_n (x := 0) (q := 35) dX8_lawsThat_34 rfl rfl ?_
          refine rn_iload (x := (x : Int)) (q := 37) dX8_lawsThat_35 rfl rfl ?_
          refine rn_iload (x := (y : Int)) (q := 39) dX8_lawsThat_37 rfl rfl ?_
          refine rn_callV (b := 0) (as := [.inl (x : Int), .inl (y : Int)]) (rest := []) (q := 42) dX8_lawsThat_39 ml_X8_386 sm_X8_fitsLooks rfl rfl (by decide) (by omega) rfl rfl (Nat.le_of_ble_eq_true rfl) rfl (s_fitsLooks (d := d + 0) hL ho x y (by omega)) ?_
          intro r39 mem39 hq39
          obtain ⟨⟨rfl, hc39⟩ | ⟨rfl, hc39⟩, rfl⟩ := hq39
          · show am_Rn l G _ _ 42 [some (.inr (.inr 1)), some (.inl 1), some (.inl (v : Int)), some (.inl (s : Int)), some (.inl (x : Int)), some (.inl (y : Int))] [.inl 1] mem _
            refine rn_ifeq (t := 48) (q := 45) dX8_lawsThat_42 rfl rfl (fun h => absurd h (by decide)) (fun w42 => ?_)
            refine rn_iincN (x := (s : Int)) (z := ((s + 1 : Nat) : Int)) (ls' := [some (.inr (.inr 1)), some (.inl 1), some (.inl (v : Int)), some (.inl ((s + 1 : Nat) : Int)), some (.inl (x : Int)), some (.inl (y : Int))]) (q := 48) dX8_lawsThat_45 rfl (by decide) (by omega) (by unfold am_ok; omega) rfl rfl ?_
            refine rn_iincN (x := (y : Int)) (z := ((y + 1 : Nat) : Int)) (ls' := [some (.inr (.inr 1)), some (.inl 1), some (.inl (v : Int)), some (.inl ((s + 1 : Nat) : Int)), some (.inl (x : Int)), some (.inl ((y + 1 : Nat) : Int))]) (q := 51) dX8_lawsThat_48 rfl (by decide) (by omega) (by unfold am_ok; omega) rfl rfl ?_
            refine rn_goto (t := 15) dX8_lawsThat_51 rfl ?_
            first | exact ih2 (by omega) _ (by rw [dcI, if_pos (by unfold lkP; rw [hc39, decide_eq_true hc27]; rfl), hs]) | exact ih2 (by omega) _ (by rw [dcI, if_neg (by unfold lkP; intro z; rw [Bool.and_eq_true] at z; first | exact hc39 z.1 | exact hc27 (of_decide_eq_true z.2)), hs])
          · show am_Rn l G _ _ 42 [some (.inr (.inr 1)), some (.inl 1), some (.inl (v : Int)), some (.inl (s : Int)), some (.inl (x : Int)), some (.inl (y : Int))] [.inl 0] mem _
            refine rn_ifeq (t := 48) (q := 45) dX8_lawsThat_42 rfl rfl (fun w42 => ?_) (fun h => absurd h (by decide))
            refine rn_iincN (x := (y : Int)) (z := ((y + 1 : Nat) : Int)) (ls' := [some (.inr (.inr 1)), some (.inl 1), some (.inl (v : Int)), some (.inl (s : Int)), some (.inl (x : Int)), some (.inl ((y + 1 : Nat) : Int))]) (q := 51) dX8_lawsThat_48 rfl (by decide) (by omega) (by unfold am_ok; omega) rfl rfl ?_
            refine rn_goto (t := 15) dX8_lawsThat_51 rfl ?_
            first | exact ih2 (by omega) _ (by rw [dcI, if_pos (by unfold lkP; rw [hc39, decide_eq_true hc27]; rfl), hs]) | exact ih2 (by omega) _ (by rw [dcI, if_neg (by unfold lkP; intro z; rw [Bool.and_eq_true] at z; first | exact hc39 z.1 | exact hc27 (of_decide_eq_true z.2)), hs])
        · show am_Rn l G _ _ 30 [some (.inr (.inr 1)), some (.inl 1), some (.inl (v : Int)), some (.inl (s : Int)), some (.inl (x : Int)), some (.inl (y : Int))] [.inl 0] mem _
          refine rn_iload_n (x := 1) (q := 31) dX8_lawsThat_30 rfl rfl ?_
          refine rn_cmpne (t := 48) (q := 34) dX8_lawsThat_31 rfl rfl (fun w31 => ?_) (fun h => absurd h (by decide))
          refine rn_iincN (x := (y : Int)) (z := ((y + 1 : Nat) : Int)) (ls' := [some (.inr (.inr 1)), some (.inl 1), some (.inl (v : Int)), some (.inl (s : Int)), some (.inl (x : Int)), some (.inl ((y + 1 : Nat) : Int))]) (q := 51) dX8_lawsThat_48 rfl (by decide) (by omega) (by unfold am_ok; omega) rfl rfl ?_
          refine rn_goto (t := 15) dX8_lawsThat_51 rfl ?_
          first | exact ih2 (by omega) _ (by rw [dcI, if_pos (by unfold lkP; rw [hc39, decide_eq_true hc27]; rfl), hs]) | exact ih2 (by omega) _ (by rw [dcI, if_neg (by unfold lkP; intro z; rw [Bool.and_eq_true] at z; first | exact hc39 z.1 | exact hc27 (of_decide_eq_true z.2)), hs])
    refine rn_iload (x := (x : Int)) (q := 7) dX8_lawsThat_5 rfl rfl ?_
    refine rn_bipush (q := 9) dX8_lawsThat_7 ⟨by decide, by decide⟩ rfl ?_
    refine rn_cmpgt (t := 60) (q := 12) dX8_lawsThat_9 rfl rfl (fun w9 => ?_) (fun w9 => ?_)
    · refine rn_iload_n (x := (s : Int)) (q := 61) dX8_lawsThat_60 rfl rfl ?_
      refine rn_iret dX8_lawsThat_61 rfl ?_
      obtain rfl : x = 7 := by omega
      exact hQ _ _ ⟨by rw [hs]; rfl, rfl⟩
    · refine rn_iconst (q := 13) dX8_lawsThat_12 (am_okd rfl) rfl ?_
      refine rn_istore (ls' := [some (.inr (.inr 1)), some (.inl 1), some (.inl (v : Int)), some (.inl (s : Int)), some (.inl (x : Int)), some (.inl 0)]) (q := 15) dX8_lawsThat_13 (by decide) rfl rfl ?_
      exact K2 (by omega) 0 (by omega) s hs
  refine rn_iconst (q := 1) dX8_lawsThat_0 (am_okd rfl) rfl ?_
  refine rn_istore_n (ls' := [some (.inr (.inr 1)), some (.inl 1), some (.inl (v : Int)), some (.inl 0), none, none]) (q := 2) dX8_lawsThat_1 (by decide) rfl rfl ?_
  refine rn_iconst (q := 3) dX8_lawsThat_2 (am_okd rfl) rfl ?_
  refine rn_istore (ls' := [some (.inr (.inr 1)), some (.inl 1), some (.inl (v : Int)), some (.inl 0), some (.inl 1), none]) (q := 5) dX8_lawsThat_3 (by decide) rfl rfl ?_
  exact K 1 (by omega) (by omega) 0 _ rfl
theorem s_lawsThat0 (hL : c_said 65 L mem) (ho : l_ok L) (v : Nat) (hv : v ≤ 9) : am_Sm l G yX8_lawsThat mt_X8_lawsThat (d + 2) [.inr (.inr 1), .inl 0, .inl (v : Int)] mem (am_rr (some (.inl (cnt (nlP L v) : Int))) mem) := by
  refine am_enterQ (ls := [some (.inr (.inr 1)), some (.inl 0), some (.inl (v : Int)), none, none, none]) (by decide) rfl (Nat.le_of_ble_eq_true rfl) rfl (fun hok Q hQ => ?_)
  have K : ∀ x : Nat, x ≤ 7 → 1 ≤ x → ∀ (s : Nat) (ly : Option am_V), s = (dcO (nlP L v) (fun m => m) x).1 → am_Rn l G mt_X8_lawsThat (d + 2) 5 [some (.inr (.inr 1)), some (.inl 0), some (.inl (v : Int)), some (.inl (s : Int)), some (.inl (x : Int)), ly] [] mem Q := by
    refine am_dn 7 (fun x hx ih h1 s ly hs => ?_)
    have o0 := dcO_ok7 (P := nlP L v) x hx
    have K2 : x < 7 → ∀ y : Nat, y ≤ x → ∀ (s : Nat), s = (dcI (nlP L v) x (dcO (nlP L v) (fun m => m) x) y).1 → am_Rn l G mt_X8_lawsThat (d + 2) 15 [some (.inr (.inr 1)), some (.inl 0), some (.inl (v : Int)), some (.inl (s : Int)), some (.inl (x : Int)), some (.inl (y : Int))] [] mem Q := by
      intro hlt
      refine am_dn x (fun y hy ih2 s hs => ?_)
      have o := dcI_le (P := nlP L v) (x := x) (s := dcO (nlP L v) (fun m => m) x) y
      refine rn_iload (x := (y : Int)) (q := 17) dX8_lawsThat_15 rfl rfl ?_
      refine rn_iload (x := (x : Int)) (q := 19) dX8_lawsThat_17 rfl rfl ?_
      refine rn_cmpge (t := 54) (q := 22) dX8_lawsThat_19 rfl rfl (fun w19 => ?_) (fun w19 => ?_)
      · refine rn_iincN (x := (x : Int)) (z := ((x + 1 : Nat) : Int)) (ls' := [some (.inr (.inr 1)), some (.inl 0), some (.inl (v : Int)), some (.inl (s : Int)), some (.inl ((x + 1 : Nat) : Int)), some (.inl (y : Int))]) (q := 57) dX8_lawsThat_54 rfl (by decide) (by omega) (by unfold am_ok; omega) rfl rfl ?_
        refine rn_goto (t := 5) dX8_lawsThat_57 rfl ?_
        obtain rfl : y = x := by omega
        exact ih hlt (by omega) _ _ hs
      · refine rn_iload (x := (x : Int)) (q := 24) dX8_lawsThat_22 rfl rfl ?_
        refine rn_iload (x := (y : Int)) (q := 26) dX8_lawsThat_24 rfl rfl ?_
        refine rn_iload_n (x := (v : Int)) (q := 27) dX8_lawsThat_26 rfl rfl ?_
        refine rn_callS (as := [.inl (x : Int), .inl (y : Int), .inl (v : Int)]) (rest := []) (q := 30) dX8_lawsThat_27 ml_X8_392 sm_X8_likes (by omega) rfl rfl (Nat.le_of_ble_eq_true rfl) rfl (s_likes (d := d + 1) x y (v : Int) (by omega) (by omega)) ?_
        intro r27 mem27 hq27
        obtain ⟨⟨rfl, hc27⟩ | ⟨rfl, hc27⟩, rfl⟩ := hq27
        · show am_Rn l G _ _ 30 [some (.inr (.inr 1)), some (.inl 0), some (.inl (v : Int)), some (.inl (s : Int)), some (.inl (x : Int)), some (.inl (y : Int))] [.inl 1] mem _
          refine rn_iload_n (x := 0) (q := 31) dX8_lawsThat_30 rfl rfl ?_
          refine rn_cmpne (t := 48) (q := 34) dX8_lawsThat_31 rfl rfl (fun w31 => ?_) (fun h => absurd h (by decide))
          refine rn_iincN (x := (y : Int)) (z := ((y + 1 : Nat) : Int)) (ls' := [some (.inr (.inr 1)), some (.inl 0), some (.inl (v : Int)), some (.inl (s : Int)), some (.inl (x : Int)), some (.inl ((y + 1 : Nat) : Int))]) (q := 51) dX8_lawsThat_48 rfl (by decide) (by omega) (by unfold am_ok; omega) rfl rfl ?_
          refine rn_goto (t := 15) dX8_lawsThat_51 rfl ?_
          first | exact ih2 (by omega) _ (by rw [dcI, if_pos (by unfold nlP; rw [hc39, decide_eq_false hc27]; rfl), hs]) | exact ih2 (by omega) _ (by rw [dcI, if_neg (by unfold nlP; intro z; rw [Bool.and_eq_true] at z; first | exact hc39 z.1 | exact absurd (decide_eq_true hc27) (by have := z.2; simpa using this)), hs])
        · show am_Rn l G _ _ 30 [some (.inr (.inr 1)), some (.inl 0), some (.inl (v : Int)), some (.inl (s : Int)), some (.inl (x : Int)), some (.inl (y : Int))] [.inl 0] mem _
          refine rn_iload_n (x := 0) (q := 31) dX8_lawsThat_30 rfl rfl ?_
          refine rn_cmpne (t := 48) (q := 34) dX8_lawsThat_31 rfl rfl (fun h => absurd h (by decide)) (fun w31 => ?_)
          refine rn_aload_n (x := 0) (q := 35) dX8_lawsThat_34 rfl rfl ?_
          refine rn_iload (x := (x : Int)) (q := 37) dX8_lawsThat_35 rfl rfl ?_
          refine rn_iload (x := (y : Int)) (q := 39) dX8_lawsThat_37 rfl rfl ?_
          refine rn_callV (b := 0) (as := [.inl (x : Int), .inl (y : Int)]) (rest := []) (q := 42) dX8_lawsThat_39 ml_X8_386 sm_X8_fitsLooks rfl rfl (by decide) (by omega) rfl rfl (Nat.le_of_ble_eq_true rfl) rfl (s_fitsLooks (d := d + 0) hL ho x y (by omega)) ?_
          intro r39 mem39 hq39
          obtain ⟨⟨rfl, hc39⟩ | ⟨rfl, hc39⟩, rfl⟩ := hq39
          · show am_Rn l G _ _ 42 [some (.inr (.inr 1)), some (.inl 0), some (.inl (v : Int)), some (.inl (s : Int)), some (.inl (x : Int)), some (.inl (y : Int))] [.inl 1] mem _
            refine rn_ifeq (t := 48) (q := 45) dX8_lawsThat_42 rfl rfl (fun h => absurd h (by decide)) (fun w42 => ?_)
            refine rn_iincN (x := (s : Int)) (z := ((s + 1 : Nat) : Int)) (ls' := [some (.inr (.inr 1)), some (.inl 0), some (.inl (v : Int)), some (.inl ((s + 1 : Nat) : Int)), some (.inl (x : Int)), some (.inl (y : Int))]) (q := 48) dX8_lawsThat_45 rfl (by decide) (by omega) (by unfold am_ok; omega) rfl rfl ?_
            refine rn_iincN (x := (y : Int)) (z := ((y + 1 : Nat) : Int)) (ls' := [some (.inr (.inr 1)), some (.inl 0), some (.inl (v : Int)), some (.inl ((s + 1 : Nat) : Int)), some (.inl (x : Int)), some (.inl ((y + 1 : Nat) : Int))]) (q := 51) dX8_lawsThat_48 rfl (by decide) (by omega) (by unfold am_ok; omega) rfl rfl ?_
            refine rn_goto (t := 15) dX8_lawsThat_51 rfl ?_
            first | exact ih2 (by omega) _ (by rw [dcI, if_pos (by unfold nlP; rw [hc39, decide_eq_false hc27]; rfl), hs]) | exact ih2 (by omega) _ (by rw [dcI, if_neg (by unfold nlP; intro z; rw [Bool.and_eq_true] at z; first | exact hc39 z.1 | exact absurd (decide_eq_true hc27) (by have := z.2; simpa using this)), hs])
          · show am_Rn l G _ _ 42 [some (.inr (.inr 1)), some (.inl 0), some (.inl (v : Int)), some (.inl (s : Int)), some (.inl (x : Int)), some (.inl (y : Int))] [.inl 0] mem _
            refine rn_ifeq (t := 48) (q := 45) dX8_lawsThat_42 rfl rfl (fun w42 => ?_) (fun h => absurd h (by decide))
            refine rn_iincN (x := (y : Int)) (z := ((y + 1 : Nat) : Int)) (ls' := [some (.inr (.inr 1)), some (.inl 0), some (.inl (v : Int)), some (.inl (s : Int)), some (.inl (x : Int)), some (.inl ((y + 1 : Nat) : Int))]) (q := 51) dX8_lawsThat_48 rfl (by decide) (by omega) (by unfold am_ok; omega) rfl rfl ?_
            refine rn_goto (t := 15) dX8_lawsThat_51 rfl ?_
            first | exact ih2 (by omega) _ (by rw [dcI, if_pos (by unfold nlP; rw [hc39, decide_eq_false hc27]; rfl), hs]) | exact ih2 (by omega) _ (by rw [dcI, if_neg (by unfold nlP; intro z; rw [Bool.and_eq_true] at z; first | exact hc39 z.1 | exact absurd (decide_eq_true hc27) (by have := z.2; simpa using this)), hs])
    refine rn_iload (x := (x : Int)) (q := 7) dX8_lawsThat_5 rfl rfl ?_
    refine rn_bipush (q := 9) dX8_lawsThat_7 ⟨by decide, by decide⟩ rfl ?_
    refine rn_cmpgt (t := 60) (q := 12) dX8_lawsThat_9 rfl rfl (fun w9 => ?_) (fun w9 => ?_)
    · refine rn_iload_n (x := (s : Int)) (q := 61) dX8_lawsThat_60 rfl rfl ?_
      refine rn_iret dX8_lawsThat_61 rfl ?_
      obtain rfl : x = 7 := by omega
      exact hQ _ _ ⟨by rw [hs]; rfl, rfl⟩
    · refine rn_iconst (q := 13) dX8_lawsThat_12 (am_okd rfl) rfl ?_
      refine rn_istore (ls' := [some (.inr (.inr 1)), some (.inl 0), some (.inl (v : Int)), some (.inl (s : Int)), some (.inl (x : Int)), some (.inl 0)]) (q := 15) dX8_lawsThat_13 (by decide) rfl rfl ?_
      exact K2 (by omega) 0 (by omega) s hs
  refine rn_iconst (q := 1) dX8_lawsThat_0 (am_okd rfl) rfl ?_
  refine rn_istore_n (ls' := [some (.inr (.inr 1)), some (.inl 0), some (.inl (v : Int)), some (.inl 0), none, none]) (q := 2) dX8_lawsThat_1 (by decide) rfl rfl ?_
  refine rn_iconst (q := 3) dX8_lawsThat_2 (am_okd rfl) rfl ?_
  refine rn_istore (ls' := [some (.inr (.inr 1)), some (.inl 0), some (.inl (v : Int)), some (.inl 0), some (.inl 1), none]) (q := 5) dX8_lawsThat_3 (by decide) rfl rfl ?_
  exact K 1 (by omega) (by omega) 0 _ rfl
end P57
