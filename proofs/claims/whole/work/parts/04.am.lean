/-- the cells of the two objects and of the law's row, in the order in which they are made: kind (below 100: an object of that number in vwCl; 100 int, 101 long, 102 byte, 103 boolean, 104 Estate rows) and length -/
def am_ks : List (Nat × Nat) := [(8, 20), (7, 2), (100, 80), (3, 2), (101, 9), (6, 11), (100, 16), (100, 8), (100, 8), (100, 8), (100, 8), (4, 10), (100, 40), (100, 40), (100, 40), (100, 7), (0, 8), (100, 8), (100, 8), (0, 8), (100, 8), (100, 8), (0, 8), (100, 8), (100, 8), (2, 2), (104, 12), (0, 8), (100, 8), (100, 8), (0, 8), (100, 8), (100, 8), (0, 8), (100, 8), (100, 8), (0, 8), (100, 8), (100, 8), (0, 8), (100, 8), (100, 8), (0, 8), (100, 8), (100, 8), (0, 8), (100, 8), (100, 8), (0, 8), (100, 8), (100, 8), (0, 8), (100, 8), (100, 8), (0, 8), (100, 8), (100, 8), (0, 8), (100, 8), (100, 8), (0, 8), (100, 8), (100, 8), (104, 2), (100, 2), (5, 3), (100, 12), (100, 12), (5, 3), (100, 12), (100, 12), (1, 7), (100, 8), (100, 8), (100, 72), (1, 7), (100, 8), (100, 8), (100, 720), (100, 8), (101, 91), (101, 21), (101, 21), (100, 61), (4, 10), (100, 40), (100, 40), (100, 40), (100, 7), (0, 8), (100, 8), (100, 8), (0, 8), (100, 8), (100, 8), (9, 51), (100, 29), (100, 8), (100, 8), (100, 8), (100, 16), (102, 80), (101, 16), (100, 24), (102, 40), (102, 40), (100, 7), (100, 348), (100, 29), (100, 29), (100, 29), (100, 8), (100, 8), (100, 240), (100, 8), (100, 8), (100, 8), (101, 189), (100, 610), (100, 12), (101, 100), (100, 12), (100, 12), (100, 58), (103, 2), (100, 2), (101, 1)]
/-- final fields: numbers, and references by code (0: null, a + 1: the cell a) -/
def am_finL : List (List Nat) := [[2, 4, 6, 17, 20, 23, 26, 64, 65, 66, 69, 72, 76, 80, 81, 82, 83, 84, 0, 0], [3, 0], [], [5, 0], [], [7, 8, 9, 10, 11, 0, 0, 0, 0, 0, 0], [], [], [], [], [], [13, 14, 15, 16, 0, 0, 0, 0, 0, 0], [], [], [], [], [18, 19, 0, 0, 0, 0, 0, 0], [], [], [21, 22, 0, 0, 0, 0, 0, 0], [], [], [24, 25, 0, 0, 0, 0, 0, 0], [], [], [27, 0], [], [29, 30, 0, 0, 0, 0, 0, 0], [], [], [32, 33, 0, 0, 0, 0, 0, 0], [], [], [35, 36, 0, 0, 0, 0, 0, 0], [], [], [38, 39, 0, 0, 0, 0, 0, 0], [], [], [41, 42, 0, 0, 0, 0, 0, 0], [], [], [44, 45, 0, 0, 0, 0, 0, 0], [], [], [47, 48, 0, 0, 0, 0, 0, 0], [], [], [50, 51, 0, 0, 0, 0, 0, 0], [], [], [53, 54, 0, 0, 0, 0, 0, 0], [], [], [56, 57, 0, 0, 0, 0, 0, 0], [], [], [59, 60, 0, 0, 0, 0, 0, 0], [], [], [62, 63, 0, 0, 0, 0, 0, 0], [], [], [], [], [67, 68, 0], [], [], [70, 71, 0], [], [], [1, 75, 73, 74, 0, 0, 0], [], [], [], [10, 79, 77, 78, 0, 0, 0], [], [], [], [], [], [], [], [], [86, 87, 88, 89, 0, 0, 0, 0, 0, 0], [], [], [], [], [91, 92, 0, 0, 0, 0, 0, 0], [], [], [94, 95, 0, 0, 0, 0, 0, 0], [], [], [97, 0, 98, 99, 100, 101, 0, 102, 0, 103, 0, 0, 0, 0, 0, 0, 0, 104, 0, 0, 0, 0, 107, 108, 0, 109, 110, 111, 112, 113, 0, 0, 114, 115, 116, 0, 117, 118, 119, 120, 0, 0, 121, 122, 123, 0, 0, 0, 124, 125, 126], [], [], [], [], [], [], [], [], [], [], [], [], [], [], [], [], [], [], [], [], [], [], [], [], [], [], [], [], [], [], []]
def am_fin (a k : Nat) : Nat := (am_finL.getD a []).getD k 0
/-- kinds of the fields: 0 int, 1 long, 2 reference, 3 boolean -/
def am_ftL : List (List Nat) := [[2, 2, 0, 0, 0, 0, 0, 0], [0, 2, 2, 2, 0, 0, 0], [2, 0], [2, 0], [2, 2, 2, 2, 0, 0, 0, 0, 0, 3], [2, 2, 0], [2, 2, 2, 2, 2, 0, 0, 2, 0, 0, 0], [2, 0], [2, 2, 2, 2, 2, 2, 2, 2, 2, 2, 2, 2, 2, 2, 2, 2, 2, 2, 2, 0], [2, 0, 2, 2, 2, 2, 0, 2, 0, 2, 0, 0, 2, 0, 0, 0, 0, 2, 2, 2, 0, 3, 2, 2, 0, 2, 2, 2, 2, 2, 0, 0, 2, 2, 2, 0, 2, 2, 2, 2, 0, 0, 2, 2, 2, 0, 0, 0, 2, 2, 2]]
def am_ft (c k : Nat) : Nat := (am_ftL.getD c []).getD k 0
def am_ffL : List (List Bool) := [[true, true, false, false, false, false, false, false], [true, true, true, true, false, false, false], [true, false], [true, false], [true, true, true, true, false, false, false, false, false, false], [true, true, false], [true, true, true, true, true, false, false, false, false, false, false], [true, false], [true, true, true, true, true, true, true, true, true, true, true, true, true, true, true, true, true, true, false, false], [true, false, true, true, true, true, false, true, false, true, false, false, false, false, false, false, false, true, false, false, false, false, true, true, false, true, true, true, true, true, false, false, true, true, true, false, true, true, true, true, false, false, true, true, true, false, false, false, true, true, true]]
def am_ff (c k : Nat) : Bool := (am_ffL.getD c []).getD k false
abbrev am_V : Type := Int ⊕ Int ⊕ Nat
abbrev am_M : Type := Nat → Nat → Int
abbrev am_L : Type := List (Option am_V)
/-- where the cells begin, the classes' numbers and slots, the row classes, the addresses outside (the script, String constants) -/
abbrev am_G : Type := Nat × va_G × (Nat → ClassId) × (Nat → Nat)
/-- a method: its class, its bytes, its locals, its answer's type -/
abbrev am_Mt : Type := String × ByteArray × Nat × Option FieldType
def am_w32 (x : Int) : Int := (x + 2147483648) % 4294967296 - 2147483648
def am_w64 (x : Int) : Int := (x + 9223372036854775808) % 18446744073709551616 - 9223372036854775808
def am_i2b (x : Int) : Int := (x + 128) % 256 - 128
def am_i2s (x : Int) : Int := (x + 32768) % 65536 - 32768
def am_and (x y : Int) : Int := (Int32.ofInt x &&& Int32.ofInt y).toInt
def am_or (x y : Int) : Int := (Int32.ofInt x ||| Int32.ofInt y).toInt
def am_xor (x y : Int) : Int := (Int32.ofInt x ^^^ Int32.ofInt y).toInt
def am_shl (x y : Int) : Int := (Int32.ofInt x <<< (Int32.ofInt y &&& 31)).toInt
def am_shr (x y : Int) : Int := (Int32.ofInt x >>> (Int32.ofInt y &&& 31)).toInt
def am_ushr (x y : Int) : Int := ((Int32.ofInt x).toUInt32 >>> ((Int32.ofInt y).toUInt32 &&& Int32.toUInt32 31)).toInt32.toInt
def am_cmp (x y : Int) : Int := if x < y then -1 else if x = y then 0 else 1
def am_ok (x : Int) : Prop := -2147483648 ≤ x ∧ x ≤ 2147483647
def am_okl (x : Int) : Prop := -9223372036854775808 ≤ x ∧ x ≤ 9223372036854775807
def am_okv (v : am_V) : Prop := match v with
  | .inl x => am_ok x
  | .inr (.inl x) => am_okl x
  | .inr (.inr _) => True
def am_okt (t : Nat) (x : Int) : Prop := match t with
  | 1 => am_okl x
  | 3 => x = 0 ∨ x = 1
  | 4 => -128 ≤ x ∧ x ≤ 127
  | _ => am_ok x
def am_ad (G : am_G) (c : Nat) : Nat := if c < 1000 then G.1 + c else G.2.2.2 (c - 1000)
def am_rf (G : am_G) (c : Nat) : Option Nat := match c with
  | 0 => none
  | c + 1 => some (am_ad G c)
def am_enc (G : am_G) (v : am_V) : Value := match v with
  | .inl x => .int (Int32.ofInt x)
  | .inr (.inl x) => .long (Int64.ofInt x)
  | .inr (.inr c) => va_rf (am_rf G c)
def am_tag (t : Nat) (x : Int) : am_V := match t with
  | 1 => .inr (.inl x)
  | 2 => .inr (.inr x.toNat)
  | _ => .inl x
/-- what a field of a cell of class c holds -/
def am_rd (mem : am_M) (c a k : Nat) : Int := if am_ff c k = true then (am_fin a k : Int) else mem a k
def am_cell (G : am_G) (mem : am_M) (a : Nat) : va_E := match am_ks[a]? with
  | none => .inr (0, [])
  | some (kd, n) =>
    if kd < 100 then .inr (kd, (List.range n).map (fun k => am_enc G (am_tag (am_ft kd k) (am_rd mem kd a k))))
    else if kd = 101 then .inl (G.2.2.1 1, n, .inr (.inl (fun j => Int64.ofInt (mem a j))))
    else if kd = 104 then .inl (G.2.2.1 4, n, .inr (.inr (.inr (.inr (fun j => am_rf G (mem a j).toNat)))))
    else .inl (G.2.2.1 (kd - 100), n, .inl (fun j => Int32.ofInt (mem a j)))
def am_ws (G : am_G) (mem : am_M) : va_W := (List.range 127).map (fun a => (G.1 + a, am_cell G mem a))
def am_tys (G : am_G) : List (ClassId × FieldType) := [(G.2.2.1 0, .int), (G.2.2.1 1, .long), (G.2.2.1 2, .byte), (G.2.2.1 3, .boolean), (G.2.2.1 4, .object "HeldInTrust$Estate")]
/-- the kind of number that slot j of the cell a holds -/
def am_sl (a j : Nat) : Nat := match am_ks[a]? with
  | none => 0
  | some (kd, _) => if kd < 100 then am_ft kd j else if kd = 101 then 1 else if kd = 102 then 4 else if kd = 103 then 3 else 0
def am_okM (mem : am_M) : Prop := ∀ a j, am_okt (am_sl a j) (mem a j)
def am_A (G : am_G) : Nat → Prop := fun q => G.1 ≤ q
def am_P (G : am_G) (mem : am_M) (H : Heap) : Prop := va_P G.2.1 vwCl (am_ws G mem) H ∧ am_okM mem
def am_up (m : am_M) (a k : Nat) (x : Int) : am_M := fun b => if b = a then (fun j => if j = k then x else m a j) else m b
theorem am_ks_len : am_ks.length = 127 := by decide +kernel
theorem am_w32_ok (x : Int) : am_ok (am_w32 x) := by unfold am_w32 am_ok; omega
theorem am_w64_ok (x : Int) : am_okl (am_w64 x) := by unfold am_w64 am_okl; omega
theorem am_bmod32 (x : Int) : x.bmod 4294967296 = am_w32 x := by unfold am_w32; rw [Int.bmod_def]; omega
theorem am_bmod64 (x : Int) : x.bmod 18446744073709551616 = am_w64 x := by unfold am_w64; rw [Int.bmod_def]; omega
theorem am_w32_id {x : Int} (h : am_ok x) : am_w32 x = x := by unfold am_ok at h; unfold am_w32; omega
theorem am_w64_id {x : Int} (h : am_okl x) : am_w64 x = x := by unfold am_okl at h; unfold am_w64; omega
theorem am_i_toInt (x : Int) : (Int32.ofInt x).toInt = am_w32 x := by rw [Int32.toInt_ofInt]; exact am_bmod32 x
theorem am_l_toInt (x : Int) : (Int64.ofInt x).toInt = am_w64 x := by rw [Int64.toInt_ofInt]; exact am_bmod64 x
theorem am_i_ok {x : Int} (h : am_ok x) : (Int32.ofInt x).toInt = x := by rw [am_i_toInt, am_w32_id h]
theorem am_l_ok {x : Int} (h : am_okl x) : (Int64.ofInt x).toInt = x := by rw [am_l_toInt, am_w64_id h]
theorem am_ok_i (i : Int32) : am_ok i.toInt := by
  have h1 := i.toInt_lt; have h2 := i.le_toInt
  unfold am_ok; constructor <;> omega
theorem am_ok_l (i : Int64) : am_okl i.toInt := by
  have h1 := i.toInt_lt; have h2 := i.le_toInt
  unfold am_okl; constructor <;> omega
theorem am_w32_of (x : Int) : Int32.ofInt (am_w32 x) = Int32.ofInt x := by rw [← am_i_toInt, Int32.ofInt_toInt]
theorem am_w64_of (x : Int) : Int64.ofInt (am_w64 x) = Int64.ofInt x := by rw [← am_l_toInt, Int64.ofInt_toInt]
theorem am_nat {x : Int} (h0 : 0 ≤ x) (h1 : am_ok x) : (Int32.ofInt x).toNatClampNeg = x.toNat := by
  show (Int32.ofInt x).toInt.toNat = _
  rw [am_i_ok h1]
theorem am_in {x : Int} {n : Nat} (h0 : 0 ≤ x) (hn : x < n) (h1 : am_ok x) : vp_in (Int32.ofInt x) n := by
  rw [vp_in_iff, am_i_ok h1]; exact ⟨h0, hn⟩
theorem am_lt {x y : Int} (hx : am_ok x) (hy : am_ok y) : Int32.ofInt x < Int32.ofInt y ↔ x < y := by rw [Int32.lt_iff_toInt_lt, am_i_ok hx, am_i_ok hy]
theorem am_le {x y : Int} (hx : am_ok x) (hy : am_ok y) : Int32.ofInt x ≤ Int32.ofInt y ↔ x ≤ y := by rw [Int32.le_iff_toInt_le, am_i_ok hx, am_i_ok hy]
theorem am_eq {x y : Int} (hx : am_ok x) (hy : am_ok y) : Int32.ofInt x = Int32.ofInt y ↔ x = y := by rw [← Int32.toInt_inj, am_i_ok hx, am_i_ok hy]
theorem am_llt {x y : Int} (hx : am_okl x) (hy : am_okl y) : Int64.ofInt x < Int64.ofInt y ↔ x < y := by rw [Int64.lt_iff_toInt_lt, am_l_ok hx, am_l_ok hy]
theorem am_leq {x y : Int} (hx : am_okl x) (hy : am_okl y) : Int64.ofInt x = Int64.ofInt y ↔ x = y := by rw [← Int64.toInt_inj, am_l_ok hx, am_l_ok hy]
theorem am_okt_ok {t : Nat} {x : Int} (h : am_okt t x) (ht : t ≠ 1) : am_ok x := by
  unfold am_okt at h; unfold am_ok
  split at h
  · exact absurd rfl ht
  · rcases h with h | h <;> omega
  · omega
  · exact h
theorem am_ws_get {G : am_G} {mem : am_M} {a : Nat} (h : a < 127) : (am_ws G mem)[a]? = some (G.1 + a, am_cell G mem a) := by
  unfold am_ws
  rw [List.getElem?_map, List.getElem?_range h]; rfl
theorem am_ws_some {G : am_G} {mem : am_M} {a : Nat} {q : Nat × va_E} (h : (am_ws G mem)[a]? = some q) : a < 127 ∧ q = (G.1 + a, am_cell G mem a) := by
  have hl : a < 127 := by
    have := (List.getElem?_eq_some_iff.mp h).1
    simpa [am_ws] using this
  rw [am_ws_get hl] at h
  exact ⟨hl, (Option.some.inj h).symm⟩
theorem am_ks_lt {a : Nat} {q : Nat × Nat} (h : am_ks[a]? = some q) : a < 127 := by
  have := (List.getElem?_eq_some_iff.mp h).1
  rwa [am_ks_len] at this
theorem am_D (G : am_G) (mem : am_M) : va_D (am_A G) (am_ws G mem) := by
  refine ⟨fun i j p q hi hj e => ?_, fun k q hk => ?_⟩
  · obtain ⟨-, rfl⟩ := am_ws_some hi
    obtain ⟨-, rfl⟩ := am_ws_some hj
    have e : G.1 + i = G.1 + j := e
    omega
  · obtain ⟨-, rfl⟩ := am_ws_some hk
    exact Nat.le_add_right _ _
theorem am_ad_lt {G : am_G} {a : Nat} (h : a < 127) : am_ad G a = G.1 + a := by unfold am_ad; rw [if_pos (by omega)]
theorem am_up_ne {m : am_M} {a k b : Nat} {x : Int} (h : b ≠ a) : am_up m a k x b = m b := by unfold am_up; rw [if_neg h]
theorem am_up_eq {m : am_M} {a k : Nat} {x : Int} : am_up m a k x a = fun j => if j = k then x else m a j := by unfold am_up; rw [if_pos rfl]
/-- a world whose cells are those of mem but at a: that of mem set at a -/
theorem am_ws_set {G : am_G} {mem mem2 : am_M} {a : Nat} (h : ∀ b, b ≠ a → mem2 b = mem b) : (am_ws G mem).set a (G.1 + a, am_cell G mem2 a) = am_ws G mem2 := by
  apply List.ext_getElem?
  intro i
  by_cases hi : i < 127
  · by_cases ha : i = a
    · subst ha
      rw [List.getElem?_set_self (by simpa [am_ws] using hi), am_ws_get hi]
    · rw [List.getElem?_set_ne (Ne.symm ha), am_ws_get hi, am_ws_get hi]
      congr 2
      unfold am_cell am_rd
      rw [h i ha]
  · rw [List.getElem?_eq_none (by simpa [am_ws] using hi), List.getElem?_eq_none (by simpa [am_ws] using hi)]
theorem am_okM_up {m : am_M} {a k : Nat} {x : Int} (h : am_okM m) (hx : am_okt (am_sl a k) x) : am_okM (am_up m a k x) := by
  intro b j
  unfold am_up
  by_cases hb : b = a
  · subst hb
    rw [if_pos rfl]
    by_cases hj : j = k
    · subst hj; rw [if_pos rfl]; exact hx
    · rw [if_neg hj]; exact h b j
  · rw [if_neg hb]; exact h b j
