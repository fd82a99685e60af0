/-! the words of the state -/
/-- HEARD, SURCHARGED, PRESENT (bits), NIGHT, BOOK, MONEY, STAKE, GAIN -/
abbrev est : Type := (Nat → Nat) × (Nat → Nat) × Nat × Nat × Nat × Nat × Nat × Int
abbrev eH (e : est) : Nat → Nat := e.1
abbrev eS (e : est) : Nat → Nat := e.2.1
abbrev eP (e : est) : Nat := e.2.2.1
abbrev eN (e : est) : Nat := e.2.2.2.1
abbrev eB (e : est) : Nat := e.2.2.2.2.1
abbrev eM (e : est) : Nat := e.2.2.2.2.2.1
abbrev eK (e : est) : Nat := e.2.2.2.2.2.2.1
abbrev eG (e : est) : Int := e.2.2.2.2.2.2.2
def e_ok (n NB : Nat) (e : est) : Prop := (∀ i, eH e i ≤ 99) ∧ (∀ i, eS e i ≤ 99) ∧ eP e < 2 ^ n ∧ eN e ≤ NB ∧ eB e ≤ 9999 ∧ eM e ≤ 9999 ∧ eK e ≤ 9999 ∧ -5 ≤ eG e ∧ eG e ≤ 5
/-- the class's Estate at a holds e -/
def c_est (e : est) (a : Nat) (mem : am_M) : Prop := (∀ i, i < 8 → mem (a + 1) i = (eH e i : Int)) ∧ (∀ i, i < 8 → mem (a + 2) i = (eS e i : Int)) ∧ mem a 2 = (eP e : Int) ∧ mem a 3 = (eN e : Int) ∧ mem a 4 = (eB e : Int) ∧ mem a 5 = (eM e : Int) ∧ mem a 6 = (eK e : Int) ∧ mem a 7 = eG e
/-- the reference's row arr holds e from off on -/
def m_est (e : est) (arr off : Nat) (mem : am_M) : Prop := (∀ i, i < 8 → mem arr (off + i) = (eH e i : Int)) ∧ (∀ i, i < 8 → mem arr (off + (8 + i)) = (eS e i : Int)) ∧ (∀ i, i < 8 → mem arr (off + (16 + i)) = if (eP e).testBit i then 1 else 0) ∧ mem arr (off + 24) = (eB e : Int) ∧ mem arr (off + 25) = (eM e : Int) ∧ mem arr (off + 26) = (eK e : Int) ∧ mem arr (off + 27) = eG e ∧ mem arr (off + 28) = (eN e : Int)
def am_estL : List Nat := [16, 19, 22, 27, 30, 33, 36, 39, 42, 45, 48, 51, 54, 57, 60, 89, 92]
def am_est (a : Nat) : Prop := a ∈ am_estL
theorem am_est_all : ∀ a ∈ am_estL, am_ks[a]? = some (0, 8) ∧ am_ks[a + 1]? = some (100, 8) ∧ am_ks[a + 2]? = some (100, 8) ∧ am_fin a 0 = a + 1 + 1 ∧ am_fin a 1 = a + 2 + 1 ∧ a < 95 := by decide +kernel
theorem am_est_k {a : Nat} (h : am_est a) : am_ks[a]? = some (0, 8) := (am_est_all a h).1
theorem am_est_k1 {a : Nat} (h : am_est a) : am_ks[a + 1]? = some (100, 8) := (am_est_all a h).2.1
theorem am_est_k2 {a : Nat} (h : am_est a) : am_ks[a + 2]? = some (100, 8) := (am_est_all a h).2.2.1
theorem am_est_f0 {a : Nat} {mem : am_M} (h : am_est a) : am_tag (am_ft 0 0) (am_rd mem 0 a 0) = .inr (.inr (a + 1 + 1)) := by
  show Sum.inr (Sum.inr (Int.toNat (am_fin a 0 : Int))) = _
  rw [(am_est_all a h).2.2.2.1]; rfl
theorem am_est_f1 {a : Nat} {mem : am_M} (h : am_est a) : am_tag (am_ft 0 1) (am_rd mem 0 a 1) = .inr (.inr (a + 2 + 1)) := by
  show Sum.inr (Sum.inr (Int.toNat (am_fin a 1 : Int))) = _
  rw [(am_est_all a h).2.2.2.2.1]; rfl
theorem am_est_ap0 : ∀ a ∈ am_estL, ∀ b ∈ am_estL, a = b ∨ (a + 1 ≠ b ∧ a + 2 ≠ b ∧ b + 1 ≠ a ∧ b + 2 ≠ a ∧ a + 1 ≠ b + 1 ∧ a + 2 ≠ b + 1 ∧ a + 1 ≠ b + 2 ∧ a + 2 ≠ b + 2) := by decide +kernel
theorem am_est_ap {a b : Nat} (ha : am_est a) (hb : am_est b) (h : a ≠ b) : a + 1 ≠ b ∧ a + 2 ≠ b ∧ b + 1 ≠ a ∧ b + 2 ≠ a ∧ a + 1 ≠ b + 1 ∧ a + 2 ≠ b + 1 ∧ a + 1 ≠ b + 2 ∧ a + 2 ≠ b + 2 := (am_est_ap0 a ha b hb).resolve_left h
theorem c_est.kept {e : est} {a : Nat} {m m2 : am_M} (h : c_est e a m) (h0 : m2 a = m a) (h1 : m2 (a + 1) = m (a + 1)) (h2 : m2 (a + 2) = m (a + 2)) : c_est e a m2 := by
  unfold c_est at *; rw [h0, h1, h2]; exact h
theorem m_est.kept {e : est} {a off : Nat} {m m2 : am_M} (h : m_est e a off m) (h0 : m2 a = m a) : m_est e a off m2 := by
  unfold m_est at *; rw [h0]; exact h
theorem am_cpy_at {mem : am_M} {a0 sp a1 dp n : Nat} (j : Nat) : am_cpy mem a0 sp a1 dp n a1 j = if dp ≤ j ∧ j < dp + n then mem a0 (sp + (j - dp)) else mem a1 j := by rw [am_cpy_eq]
theorem am_up_at {m : am_M} {a k : Nat} {x : Int} (j : Nat) : am_up m a k x a j = if j = k then x else m a j := by rw [am_up_eq]
theorem am_up_self {m : am_M} {a k : Nat} {x : Int} : am_up m a k x a k = x := by rw [am_up_at, if_pos rfl]
theorem am_up_neq {m : am_M} {a k j : Nat} {x : Int} (h : j ≠ k) : am_up m a k x a j = m a j := by rw [am_up_at, if_neg h]
theorem am_cpy_0 {mem : am_M} {a0 sp a1 dp : Nat} : am_cpy mem a0 sp a1 dp 0 = mem := by
  funext b
  by_cases h : b = a1
  · subst h; rw [am_cpy_eq]; funext j; rw [if_neg (by omega)]
  · rw [am_cpy_ne h]
theorem am_cpy_s {mem : am_M} {a0 sp a1 dp n : Nat} : am_up (am_cpy mem a0 sp a1 dp n) a1 (dp + n) (mem a0 (sp + n)) = am_cpy mem a0 sp a1 dp (n + 1) := by
  funext b
  by_cases h : b = a1
  · subst h
    funext j
    rw [am_up_at, am_cpy_at, am_cpy_at]
    by_cases hj : j = dp + n
    · subst hj; rw [if_pos rfl, if_pos (by omega)]; congr 1; omega
    · rw [if_neg hj]
      by_cases h2 : dp ≤ j ∧ j < dp + n
      · rw [if_pos h2, if_pos (by omega)]
      · rw [if_neg h2, if_neg (by omega)]
  · rw [am_up_ne h, am_cpy_ne h, am_cpy_ne h]
theorem m_est.cpy {e : est} {a0 o0 a1 o1 : Nat} {mem : am_M} (h : m_est e a0 o0 mem) : m_est e a1 o1 (am_cpy mem a0 o0 a1 o1 29) := by
  have g : ∀ j, j < 29 → am_cpy mem a0 o0 a1 o1 29 a1 (o1 + j) = mem a0 (o0 + j) := by
    intro j hj
    rw [am_cpy_at, if_pos (by omega)]
    congr 1; omega
  obtain ⟨h1, h2, h3, h4, h5, h6, h7, h8⟩ := h
  refine ⟨fun i hi => ?_, fun i hi => ?_, fun i hi => ?_, ?_, ?_, ?_, ?_, ?_⟩
  · rw [g i (by omega)]; exact h1 i hi
  · rw [g (8 + i) (by omega)]; exact h2 i hi
  · rw [g (16 + i) (by omega)]; exact h3 i hi
  · rw [g 24 (by omega)]; exact h4
  · rw [g 25 (by omega)]; exact h5
  · rw [g 26 (by omega)]; exact h6
  · rw [g 27 (by omega)]; exact h7
  · rw [g 28 (by omega)]; exact h8
theorem m_est.to {e : est} {a o a2 o2 : Nat} {m m2 : am_M} (h : m_est e a o m) (g : ∀ j, j < 29 → m2 a2 (o2 + j) = m a (o + j)) : m_est e a2 o2 m2 := by
  obtain ⟨h1, h2, h3, h4, h5, h6, h7, h8⟩ := h
  refine ⟨fun i hi => ?_, fun i hi => ?_, fun i hi => ?_, ?_, ?_, ?_, ?_, ?_⟩
  · rw [g i (by omega)]; exact h1 i hi
  · rw [g (8 + i) (by omega)]; exact h2 i hi
  · rw [g (16 + i) (by omega)]; exact h3 i hi
  · rw [g 24 (by omega)]; exact h4
  · rw [g 25 (by omega)]; exact h5
  · rw [g 26 (by omega)]; exact h6
  · rw [g 27 (by omega)]; exact h7
  · rw [g 28 (by omega)]; exact h8
