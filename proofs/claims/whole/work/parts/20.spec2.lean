theorem am_gi {x y : Int} (h : x = y) : (Sum.inl x : am_V) = Sum.inl y := by rw [h]
def c_song (sn : Nat) (sg : Nat → Nat) (mem : am_M) : Prop := mem 5 5 = (sn : Int) ∧ 1 ≤ sn ∧ sn ≤ 16 ∧ (∀ i, sg i ≤ 9) ∧ ∀ i, i < sn → mem 6 i = (sg i : Int)
def m_song (sn : Nat) (sg : Nat → Nat) (mem : am_M) : Prop := mem 95 6 = (sn : Int) ∧ 1 ≤ sn ∧ sn ≤ 16 ∧ (∀ i, sg i ≤ 9) ∧ ∀ i, i < sn → mem 100 i = (sg i : Int)
/-- HEARERS' natures: how many, SORT, WANT, PAY -/
abbrev hrs : Type := Nat × (Nat → Nat) × (Nat → Nat) × (Nat → Nat)
def h_ok (h : hrs) : Prop := h.1 ≤ 8 ∧ (∀ i, h.2.1 i ≤ 3) ∧ (∀ i, h.2.2.1 i ≤ 9) ∧ ∀ i, h.2.2.2 i ≤ 9
def c_hrs (h : hrs) (mem : am_M) : Prop := h_ok h ∧ mem 5 6 = (h.1 : Int) ∧ ∀ i, i < h.1 → mem 7 i = (h.2.1 i : Int) ∧ mem 8 i = (h.2.2.1 i : Int) ∧ mem 9 i = (h.2.2.2 i : Int)
def m_hrs (h : hrs) (mem : am_M) : Prop := h_ok h ∧ mem 95 1 = (h.1 : Int) ∧ ∀ i, i < h.1 → mem 97 i = (h.2.1 i : Int) ∧ mem 98 i = (h.2.2.1 i : Int) ∧ mem 99 i = (h.2.2.2 i : Int)
def txAt (X : List Nat) (p : Int) : Int := if 0 ≤ p ∧ p < X.length then (X.getD p.toNat 0 : Int) else -1
def txDg (X : List Nat) (p : Int) : Int := if 48 ≤ txAt X p ∧ txAt X p ≤ 57 then txAt X p - 48 else -1
def sb (c : Nat) : Int := if c < 128 then (c : Int) else (c : Int) - 256
def c_text (X : List Nat) (mem : am_M) : Prop := mem 1 1 = (X.length : Int) ∧ X.length ≤ 80 ∧ (∀ i, X.getD i 0 < 256) ∧ ∀ i, i < X.length → mem 2 i = (X.getD i 0 : Int)
def m_text (X : List Nat) (mem : am_M) : Prop := mem 95 8 = (X.length : Int) ∧ X.length ≤ 80 ∧ (∀ i, X.getD i 0 < 256) ∧ ∀ i, i < X.length → mem 101 i = sb (X.getD i 0)
def c_row (R : List Int) (mem : am_M) : Prop := mem 3 1 = (R.length : Int) ∧ R.length ≤ 9 ∧ ∀ i, i < R.length → mem 4 i = R.getD i 0
def m_row (R : List Int) (mem : am_M) : Prop := mem 95 10 = (R.length : Int) ∧ R.length ≤ 9 ∧ ∀ i, i < R.length → mem 102 i = R.getD i 0
/-- pairs that were said -/
def c_said (a : Nat) (T : List (Int × Int)) (mem : am_M) : Prop := mem a 2 = (T.length : Int) ∧ T.length ≤ 12 ∧ ∀ i, i < T.length → mem (a + 1) i = (T.getD i (0, 0)).1 ∧ mem (a + 2) i = (T.getD i (0, 0)).2
theorem txAt_ok {X : List Nat} {p : Int} (h : ∀ i, X.getD i 0 < 256) : -1 ≤ txAt X p ∧ txAt X p ≤ 255 := by
  unfold txAt
  have := h p.toNat
  split <;> omega
theorem txDg_ok {X : List Nat} {p : Int} : -1 ≤ txDg X p ∧ txDg X p ≤ 9 := by
  unfold txDg
  split <;> omega
theorem lg_app {α : Type} {L : List α} {x d : α} {i : Nat} (h : i < (L ++ [x]).length) : (L ++ [x]).getD i d = if i = L.length then x else L.getD i d := by
  rw [List.getD_eq_getElem?_getD, List.getElem?_append]
  by_cases hi : i = L.length
  · subst hi; simp
  · rw [if_pos (by simp at h; omega), if_neg hi, List.getD_eq_getElem?_getD]
theorem am_td10 (z : Int) : z.tdiv 10 = if 0 ≤ z then z / 10 else -((-z) / 10) := by
  by_cases h : 0 ≤ z
  · rw [if_pos h, Int.tdiv_eq_ediv_of_nonneg h]
  · rw [if_neg h]
    have e : z = -(-z) := by omega
    rw [e, Int.neg_tdiv, Int.tdiv_eq_ediv_of_nonneg (by omega)]
    simp
/-- the estates of the past, and which of the kept rooms they lie in -/
def pastL : List Nat := [27, 30, 33, 36, 39, 42, 45, 48, 51, 54, 57, 60]
theorem pastL_est0 : ∀ a ∈ pastL, a ∈ am_estL ∧ a ≠ 16 ∧ a ≠ 19 ∧ a ≠ 22 ∧ 26 < a ∧ a < 61 := by decide +kernel
theorem pastL_est : ∀ a ∈ pastL, am_est a ∧ a ≠ 16 ∧ a ≠ 19 ∧ a ≠ 22 ∧ 26 < a ∧ a < 61 := pastL_est0
def est0 : est := (fun _ => 0, fun _ => 0, 0, 0, 0, 0, 0, 0)
def c_undo (U : List est) (mem : am_M) : Prop := mem 25 1 = (U.length : Int) ∧ U.length ≤ 12 ∧ ∃ p : Nat → Nat, (∀ j, j < 12 → mem 26 j = ((p j + 1 : Nat) : Int) ∧ p j ∈ pastL) ∧ (∀ i j, i < 12 → j < 12 → p i = p j → i = j) ∧ ∀ j, j < U.length → c_est (U.getD j est0) (p j) mem
def m_undo (U : List est) (mem : am_M) : Prop := mem 95 24 = (U.length : Int) ∧ U.length ≤ 12 ∧ ∀ j, j < U.length → m_est (U.getD j est0) 107 (29 * j) mem
def pushU (U : List est) (e : est) : List est := if U.length = 12 then U.tail ++ [e] else U ++ [e]
theorem lg_tail {α : Type} (L : List α) (i : Nat) (d : α) : L.tail.getD i d = L.getD (i + 1) d := by cases L <;> simp
