/-! the class's reader of rules -/
def am_rul (r : Nat) : Prop := r ∈ [11, 84]
theorem am_rul_all : ∀ r ∈ [11, 84], am_ks[r]? = some (4, 10) ∧ am_ks[r + 1]? = some (100, 40) ∧ am_ks[r + 2]? = some (100, 40) ∧ am_ks[r + 3]? = some (100, 40) ∧ am_ks[r + 4]? = some (100, 7) ∧ am_fin r 0 = r + 1 + 1 ∧ am_fin r 1 = r + 2 + 1 ∧ am_fin r 2 = r + 3 + 1 ∧ am_fin r 3 = r + 4 + 1 := by decide +kernel
theorem am_rul_k {r : Nat} (h : am_rul r) : am_ks[r]? = some (4, 10) := (am_rul_all r h).1
theorem am_rul_k1 {r : Nat} (h : am_rul r) : am_ks[r + 1]? = some (100, 40) := (am_rul_all r h).2.1
theorem am_rul_k2 {r : Nat} (h : am_rul r) : am_ks[r + 2]? = some (100, 40) := (am_rul_all r h).2.2.1
theorem am_rul_k3 {r : Nat} (h : am_rul r) : am_ks[r + 3]? = some (100, 40) := (am_rul_all r h).2.2.2.1
theorem am_rul_k4 {r : Nat} (h : am_rul r) : am_ks[r + 4]? = some (100, 7) := (am_rul_all r h).2.2.2.2.1
theorem am_rul_f0 {r : Nat} {mem : am_M} (h : am_rul r) : am_tag (am_ft 4 0) (am_rd mem 4 r 0) = .inr (.inr (r + 1 + 1)) := by
  show Sum.inr (Sum.inr (Int.toNat (am_fin r 0 : Int))) = _
  rw [(am_rul_all r h).2.2.2.2.2.1]; rfl
theorem am_rul_f1 {r : Nat} {mem : am_M} (h : am_rul r) : am_tag (am_ft 4 1) (am_rd mem 4 r 1) = .inr (.inr (r + 2 + 1)) := by
  show Sum.inr (Sum.inr (Int.toNat (am_fin r 1 : Int))) = _
  rw [(am_rul_all r h).2.2.2.2.2.2.1]; rfl
theorem am_rul_f2 {r : Nat} {mem : am_M} (h : am_rul r) : am_tag (am_ft 4 2) (am_rd mem 4 r 2) = .inr (.inr (r + 3 + 1)) := by
  show Sum.inr (Sum.inr (Int.toNat (am_fin r 2 : Int))) = _
  rw [(am_rul_all r h).2.2.2.2.2.2.2.1]; rfl
theorem am_rul_f3 {r : Nat} {mem : am_M} (h : am_rul r) : am_tag (am_ft 4 3) (am_rd mem 4 r 3) = .inr (.inr (r + 4 + 1)) := by
  show Sum.inr (Sum.inr (Int.toNat (am_fin r 3 : Int))) = _
  rw [(am_rul_all r h).2.2.2.2.2.2.2.2]; rfl
def bnd (c : Int) : Int := if c = 60 ∨ c = 61 ∨ c = 62 then 1 else if c = 43 ∨ c = 45 then 2 else if c = 42 ∨ c = 47 then 3 else if c = 256 then 4 else 0
def relC (b : Int) : List Int → List Int → List Int × List Int
  | C, [] => (C, [])
  | C, h :: t => if b ≤ bnd h then relC b (C ++ [-h]) t else (C, h :: t)
/-- the signs that are read so far: the code C, the held signs HS (the last one first) -/
def c_ch (r : Nat) (C HS : List Int) (mem : am_M) : Prop := mem r 4 = (C.length : Int) ∧ (∀ i, i < C.length → mem (r + 1) i = C.getD i 0) ∧ mem r 5 = (HS.length : Int) ∧ (∀ i, i < HS.length → mem (r + 2) i = HS.reverse.getD i 0) ∧ C.length + HS.length ≤ 40 ∧ ∀ h ∈ HS, 0 ≤ h ∧ h ≤ 256
def fr_ch (r : Nat) (mem m : am_M) : Prop := (∀ b, b ≠ r → b ≠ r + 1 → b ≠ r + 2 → m b = mem b) ∧ ∀ k, k ≠ 4 → k ≠ 5 → m r k = mem r k
theorem fr_ch.tr {r : Nat} {a b c : am_M} (h1 : fr_ch r a b) (h2 : fr_ch r b c) : fr_ch r a c := ⟨fun x x0 x1 x2 => (h2.1 x x0 x1 x2).trans (h1.1 x x0 x1 x2), fun k h4 h5 => (h2.2 k h4 h5).trans (h1.2 k h4 h5)⟩
theorem lk_out {l : List (Int × Int)} {d x : Int} (h : ∀ p ∈ l, p.1 ≠ x) : Op.lookupswitch.offset l d x = d := by
  induction l with
  | nil => rfl
  | cons p t ih =>
    obtain ⟨a, o⟩ := p
    rw [Op.lookupswitch.offset_cons, if_neg (h (a, o) List.mem_cons_self)]
    exact ih (fun q hq => h q (List.mem_cons_of_mem _ hq))
