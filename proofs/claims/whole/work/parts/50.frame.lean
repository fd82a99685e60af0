/-! frames: what a question may change; the state that questions read -/
theorem am_enterQ {l : Launch} {G : am_G} {M : am_Mt} {d : Nat} {ls : am_L} {mem : am_M} {Q : Option am_V → am_M → Prop} {y : MethodName} {as : List am_V} (hy : plainName y.cls = true) (hc : y.cls = M.1) (hn : (am_lay as).length ≤ M.2.2.1) (hl : am_lay as ++ List.replicate (M.2.2.1 - (am_lay as).length) none = ls) (k : (∀ v ∈ as, am_okv v) → ∀ Q' : Option am_V → am_M → Prop, (∀ r m, Q r m → Q' r m) → am_Rn l G M d 0 ls [] mem Q') : am_Sm l G y M d as mem Q := fun hok => am_enter hy hc hn hl (k hok Q (fun _ _ h => h)) hok
theorem am_dn {P : Nat → Prop} (n : Nat) (h : ∀ i, i ≤ n → (i < n → P (i + 1)) → P i) : ∀ i, i ≤ n → P i :=
  am_down (h n (Nat.le_refl _) (fun q => absurd q (Nat.lt_irrefl _))) (fun k hk ih => h k (Nat.le_of_lt hk) (fun _ => ih))
def frS (s : Nat → Nat → Bool) (mem m : am_M) : Prop := ∀ b k, s b k = false → m b k = mem b k
theorem frS.rf {s : Nat → Nat → Bool} {mem : am_M} : frS s mem mem := fun _ _ _ => rfl
theorem frS.tr {s : Nat → Nat → Bool} {a b c : am_M} (h : frS s a b) (g : frS s b c) : frS s a c := fun x k hk => (g x k hk).trans (h x k hk)
theorem frS.up {s : Nat → Nat → Bool} {mem m : am_M} (h : frS s mem m) {a k : Nat} {x : Int} (hs : s a k = true) : frS s mem (am_up m a k x) := by
  intro b j hb
  by_cases e : b = a
  · subst e
    by_cases e2 : j = k
    · subst e2; rw [hs] at hb; cases hb
    · rw [am_up_neq e2]; exact h b j hb
  · rw [am_up_ne e]; exact h b j hb
theorem frS.cpy {s : Nat → Nat → Bool} {mem m : am_M} (h : frS s mem m) {a0 sp a1 dp n : Nat} (hs : ∀ k, s a1 k = true) : frS s mem (am_cpy m a0 sp a1 dp n) := by
  intro b j hb
  by_cases e : b = a1
  · subst e; rw [hs j] at hb; cases hb
  · rw [am_cpy_ne e]; exact h b j hb
theorem frS.mono {s t : Nat → Nat → Bool} {a b : am_M} (h : frS s a b) (g : ∀ x k, t x k = false → s x k = false) : frS t a b := fun x k hk => h x k (g x k hk)
/-- what the class's questions use up -/
def s8 (b k : Nat) : Bool := (b == 5 && Nat.ble 8 k) || b == 10 || b == 13 || b == 14 || b == 15 || (Nat.ble 19 b && Nat.ble b 24) || (b == 71 || (Nat.ble 73 b && Nat.ble b 83)) || b == 86 || b == 87 || b == 88 || (b == 0 && k == 19)
def s8r (b k : Nat) : Bool := b == 3 || b == 4 || s8 b k
/-- what the reference's use up -/
def s9 (b k : Nat) : Bool := (b == 95 && ((Nat.ble 11 k && Nat.ble k 16) || k == 30 || k == 31 || k == 35 || k == 46)) || b == 103 || b == 105 || b == 106 || (Nat.ble 108 b && Nat.ble b 118) || b == 120
def s9r (b k : Nat) : Bool := b == 102 || (b == 95 && k == 10) || s9 b k
theorem frS.r8 {a b : am_M} (h : frS s8 a b) : frS s8r a b := h.mono (fun x k hk => by unfold s8r at hk; simp at hk; exact hk.2)
theorem frS.r9 {a b : am_M} (h : frS s9 a b) : frS s9r a b := h.mono (fun x k hk => by unfold s9r at hk; simp at hk; exact hk.2)
theorem fr_row {mem m : am_M} (h : ∀ b, b ≠ 3 → b ≠ 4 → m b = mem b) : frS s8r mem m := fun b k hb => by
  unfold s8r at hb; simp at hb
  rw [h b hb.1.1 hb.1.2]
/-- the class, as questions read it -/
def CQ (r : Nat) (X : List Nat) (C : List Int) (sn : Nat) (sg : Nat → Nat) (h : hrs) (e : est) (NB : Nat) (mem : am_M) : Prop := am_rul r ∧ mem 5 7 = ((r + 1 : Nat) : Int) ∧ ruleOK X C ∧ c_code r C mem ∧ c_song sn sg mem ∧ c_hrs h mem ∧ c_est e 16 mem ∧ e_ok h.1 NB e ∧ NB < 900000
def DQ (X : List Nat) (sn : Nat) (sg : Nat → Nat) (h : hrs) (e : est) (NB : Nat) (mem : am_M) : Prop := (X.length ≤ 40 ∧ ∀ j, X.getD j 0 < 256) ∧ m_rul 104 X mem ∧ mem 95 21 = 0 ∧ m_song sn sg mem ∧ m_hrs h mem ∧ m_est e 96 0 mem ∧ e_ok h.1 NB e ∧ NB < 900000
section P50
variable {r : Nat} {X : List Nat} {C : List Int} {sn : Nat} {sg : Nat → Nat} {h : hrs} {e : est} {NB : Nat} {mem m : am_M}
theorem CQ.kept (q : CQ r X C sn sg h e NB mem) (f : frS s8r mem m) : CQ r X C sn sg h e NB m := by
  obtain ⟨q1, q2, q3, q4, q5, q6, q7, q8⟩ := q
  have o := am_rul_or q1
  refine ⟨q1, (f 5 7 rfl).trans q2, q3, ⟨?_, fun i hi => ?_, q4.2.2⟩, ⟨(f 5 5 rfl).trans q5.1, q5.2.1, q5.2.2.1, q5.2.2.2.1, fun i hi => (f 6 i rfl).trans (q5.2.2.2.2 i hi)⟩, ⟨q6.1, (f 5 6 rfl).trans q6.2.1, fun i hi => ⟨(f 7 i rfl).trans (q6.2.2 i hi).1, (f 8 i rfl).trans (q6.2.2 i hi).2.1, (f 9 i rfl).trans (q6.2.2 i hi).2.2⟩⟩, ⟨fun i hi => (f 17 i rfl).trans (q7.1 i hi), fun i hi => (f 18 i rfl).trans (q7.2.1 i hi), (f 16 2 rfl).trans q7.2.2.1, (f 16 3 rfl).trans q7.2.2.2.1, (f 16 4 rfl).trans q7.2.2.2.2.1, (f 16 5 rfl).trans q7.2.2.2.2.2.1, (f 16 6 rfl).trans q7.2.2.2.2.2.2.1, (f 16 7 rfl).trans q7.2.2.2.2.2.2.2⟩, q8⟩
  · rcases o with rfl | rfl
    · exact (f 11 4 rfl).trans q4.1
    · exact (f 84 4 rfl).trans q4.1
  · rcases o with rfl | rfl
    · exact (f 12 i rfl).trans (q4.2.1 i hi)
    · exact (f 85 i rfl).trans (q4.2.1 i hi)
theorem CQ.n (q : CQ r X C sn sg h e NB mem) : mem 5 6 = (h.1 : Int) := q.2.2.2.2.2.1.2.1
theorem CQ.rl (q : CQ r X C sn sg h e NB mem) : mem 5 7 = ((r + 1 : Nat) : Int) := q.2.1
theorem CQ.sort (q : CQ r X C sn sg h e NB mem) {i : Nat} (hi : i < h.1) : mem 7 i = (h.2.1 i : Int) := (q.2.2.2.2.2.1.2.2 i hi).1
theorem CQ.want (q : CQ r X C sn sg h e NB mem) {i : Nat} (hi : i < h.1) : mem 8 i = (h.2.2.1 i : Int) := (q.2.2.2.2.2.1.2.2 i hi).2.1
theorem CQ.pay (q : CQ r X C sn sg h e NB mem) {i : Nat} (hi : i < h.1) : mem 9 i = (h.2.2.2 i : Int) := (q.2.2.2.2.2.1.2.2 i hi).2.2
theorem CQ.es (q : CQ r X C sn sg h e NB mem) : c_est e 16 mem := q.2.2.2.2.2.2.1
theorem CQ.hd (q : CQ r X C sn sg h e NB mem) {i : Nat} (hi : i < 8) : mem 17 i = (eH e i : Int) := q.es.1 i hi
theorem CQ.sc (q : CQ r X C sn sg h e NB mem) {i : Nat} (hi : i < 8) : mem 18 i = (eS e i : Int) := q.es.2.1 i hi
theorem CQ.pr (q : CQ r X C sn sg h e NB mem) : mem 16 2 = (eP e : Int) := q.es.2.2.1
theorem CQ.nt (q : CQ r X C sn sg h e NB mem) : mem 16 3 = (eN e : Int) := q.es.2.2.2.1
theorem CQ.bk (q : CQ r X C sn sg h e NB mem) : mem 16 4 = (eB e : Int) := q.es.2.2.2.2.1
theorem CQ.mn (q : CQ r X C sn sg h e NB mem) : mem 16 5 = (eM e : Int) := q.es.2.2.2.2.2.1
theorem CQ.sk (q : CQ r X C sn sg h e NB mem) : mem 16 6 = (eK e : Int) := q.es.2.2.2.2.2.2.1
theorem CQ.gn (q : CQ r X C sn sg h e NB mem) : mem 16 7 = eG e := q.es.2.2.2.2.2.2.2
theorem CQ.rul (q : CQ r X C sn sg h e NB mem) : am_rul r := q.1
theorem CQ.ok (q : CQ r X C sn sg h e NB mem) : ruleOK X C := q.2.2.1
theorem CQ.cd (q : CQ r X C sn sg h e NB mem) : c_code r C mem := q.2.2.2.1
theorem CQ.sng (q : CQ r X C sn sg h e NB mem) : c_song sn sg mem := q.2.2.2.2.1
theorem CQ.hs (q : CQ r X C sn sg h e NB mem) : c_hrs h mem := q.2.2.2.2.2.1
theorem CQ.eo (q : CQ r X C sn sg h e NB mem) : e_ok h.1 NB e := q.2.2.2.2.2.2.2.1
theorem p2_8 {n : Nat} (h : n ≤ 8) : 2 ^ n ≤ 256 := Nat.pow_le_pow_right (n := 2) (by decide) h
theorem q_bd {h : hrs} (ho : h_ok h) (eo : e_ok h.1 NB e) (hn : NB < 900000) : h.1 ≤ 8 ∧ eP e < 256 ∧ eP e < 2 ^ h.1 ∧ 2 ^ h.1 ≤ 256 ∧ eN e < 900000 ∧ eB e ≤ 9999 ∧ eM e ≤ 9999 ∧ eK e ≤ 9999 ∧ -5 ≤ eG e ∧ eG e ≤ 5 := by
  obtain ⟨-, -, h3, h4, h5, h6, h7, h8, h9⟩ := eo
  have := p2_8 ho.1
  exact ⟨ho.1, by omega, h3, this, by omega, h5, h6, h7, h8, h9⟩
theorem CQ.bd (q : CQ r X C sn sg h e NB mem) : h.1 ≤ 8 ∧ eP e < 256 ∧ eP e < 2 ^ h.1 ∧ 2 ^ h.1 ≤ 256 ∧ eN e < 900000 ∧ eB e ≤ 9999 ∧ eM e ≤ 9999 ∧ eK e ≤ 9999 ∧ -5 ≤ eG e ∧ eG e ≤ 5 := q_bd q.hs.1 q.eo q.2.2.2.2.2.2.2.2
theorem CQ.hd9 (q : CQ r X C sn sg h e NB mem) (i : Nat) : eH e i ≤ 99 := q.eo.1 i
theorem CQ.sc9 (q : CQ r X C sn sg h e NB mem) (i : Nat) : eS e i ≤ 99 := q.eo.2.1 i
theorem CQ.so3 (q : CQ r X C sn sg h e NB mem) (i : Nat) : h.2.1 i ≤ 3 := q.hs.1.2.1 i
theorem CQ.wa9 (q : CQ r X C sn sg h e NB mem) (i : Nat) : h.2.2.1 i ≤ 9 := q.hs.1.2.2.1 i
theorem CQ.pa9 (q : CQ r X C sn sg h e NB mem) (i : Nat) : h.2.2.2 i ≤ 9 := q.hs.1.2.2.2 i
theorem DQ.kept (q : DQ X sn sg h e NB mem) (f : frS s9r mem m) : DQ X sn sg h e NB m := by
  obtain ⟨q1, q2, q3, q5, q6, q7, q8⟩ := q
  refine ⟨q1, ⟨q2.1, (f 95 18 rfl).trans q2.2.1, (f 95 20 rfl).trans q2.2.2.1, fun j hj => (f 104 j rfl).trans (q2.2.2.2 j hj)⟩, (f 95 21 rfl).trans q3, ⟨(f 95 6 rfl).trans q5.1, q5.2.1, q5.2.2.1, q5.2.2.2.1, fun i hi => (f 100 i rfl).trans (q5.2.2.2.2 i hi)⟩, ⟨q6.1, (f 95 1 rfl).trans q6.2.1, fun i hi => ⟨(f 97 i rfl).trans (q6.2.2 i hi).1, (f 98 i rfl).trans (q6.2.2 i hi).2.1, (f 99 i rfl).trans (q6.2.2 i hi).2.2⟩⟩, q7.to (fun j _ => f 96 (0 + j) rfl), q8⟩
theorem DQ.n (q : DQ X sn sg h e NB mem) : mem 95 1 = (h.1 : Int) := q.2.2.2.2.1.2.1
theorem DQ.sort (q : DQ X sn sg h e NB mem) {i : Nat} (hi : i < h.1) : mem 97 i = (h.2.1 i : Int) := (q.2.2.2.2.1.2.2 i hi).1
theorem DQ.want (q : DQ X sn sg h e NB mem) {i : Nat} (hi : i < h.1) : mem 98 i = (h.2.2.1 i : Int) := (q.2.2.2.2.1.2.2 i hi).2.1
theorem DQ.pay (q : DQ X sn sg h e NB mem) {i : Nat} (hi : i < h.1) : mem 99 i = (h.2.2.2 i : Int) := (q.2.2.2.2.1.2.2 i hi).2.2
theorem DQ.es (q : DQ X sn sg h e NB mem) : m_est e 96 0 mem := q.2.2.2.2.2.1
theorem m_est.a {e : est} {a : Nat} {mem : am_M} (q : m_est e a 0 mem) : (∀ i, i < 8 → mem a i = (eH e i : Int)) ∧ (∀ i, i < 8 → mem a (8 + i) = (eS e i : Int)) ∧ (∀ i, i < 8 → mem a (16 + i) = if (eP e).testBit i then 1 else 0) ∧ mem a 24 = (eB e : Int) ∧ mem a 25 = (eM e : Int) ∧ mem a 26 = (eK e : Int) ∧ mem a 27 = eG e ∧ mem a 28 = (eN e : Int) := by
  unfold m_est at q
  simp only [Nat.zero_add] at q
  exact q
theorem DQ.hd (q : DQ X sn sg h e NB mem) {i : Nat} (hi : i < 8) : mem 96 i = (eH e i : Int) := q.es.a.1 i hi
theorem DQ.sc (q : DQ X sn sg h e NB mem) {i : Nat} (hi : i < 8) : mem 96 (8 + i) = (eS e i : Int) := q.es.a.2.1 i hi
theorem DQ.pr (q : DQ X sn sg h e NB mem) {i : Nat} (hi : i < 8) : mem 96 (16 + i) = if (eP e).testBit i then 1 else 0 := q.es.a.2.2.1 i hi
theorem DQ.bk (q : DQ X sn sg h e NB mem) : mem 96 24 = (eB e : Int) := q.es.a.2.2.2.1
theorem DQ.mn (q : DQ X sn sg h e NB mem) : mem 96 25 = (eM e : Int) := q.es.a.2.2.2.2.1
theorem DQ.sk (q : DQ X sn sg h e NB mem) : mem 96 26 = (eK e : Int) := q.es.a.2.2.2.2.2.1
theorem DQ.gn (q : DQ X sn sg h e NB mem) : mem 96 27 = eG e := q.es.a.2.2.2.2.2.2.1
theorem DQ.nt (q : DQ X sn sg h e NB mem) : mem 96 28 = (eN e : Int) := q.es.a.2.2.2.2.2.2.2
theorem DQ.rl (q : DQ X sn sg h e NB mem) : m_rul 104 X mem := q.2.1
theorem DQ.sng (q : DQ X sn sg h e NB mem) : m_song sn sg mem := q.2.2.2.1
theorem DQ.hs (q : DQ X sn sg h e NB mem) : m_hrs h mem := q.2.2.2.2.1
theorem DQ.eo (q : DQ X sn sg h e NB mem) : e_ok h.1 NB e := q.2.2.2.2.2.2.1
theorem DQ.bd (q : DQ X sn sg h e NB mem) : h.1 ≤ 8 ∧ eP e < 256 ∧ eP e < 2 ^ h.1 ∧ 2 ^ h.1 ≤ 256 ∧ eN e < 900000 ∧ eB e ≤ 9999 ∧ eM e ≤ 9999 ∧ eK e ≤ 9999 ∧ -5 ≤ eG e ∧ eG e ≤ 5 := q_bd q.hs.1 q.eo q.2.2.2.2.2.2.2
theorem DQ.hd9 (q : DQ X sn sg h e NB mem) (i : Nat) : eH e i ≤ 99 := q.eo.1 i
theorem DQ.sc9 (q : DQ X sn sg h e NB mem) (i : Nat) : eS e i ≤ 99 := q.eo.2.1 i
theorem DQ.so3 (q : DQ X sn sg h e NB mem) (i : Nat) : h.2.1 i ≤ 3 := q.hs.1.2.1 i
theorem DQ.wa9 (q : DQ X sn sg h e NB mem) (i : Nat) : h.2.2.1 i ≤ 9 := q.hs.1.2.2.1 i
theorem DQ.pa9 (q : DQ X sn sg h e NB mem) (i : Nat) : h.2.2.2 i ≤ 9 := q.hs.1.2.2.2 i
end P50
/-! bits and comparisons -/
theorem or_up {a i : Nat} (hi : i < 31) (h : a < 2 ^ i) : am_or (a : Int) ((2 ^ i : Nat) : Int) = ((a + 2 ^ i : Nat) : Int) := by
  have h31 : 2 ^ i < 2147483648 := Nat.pow_lt_pow_right (a := 2) (by decide) hi
  rw [am_orN (by omega) h31]
  have := Nat.two_pow_add_eq_or_of_lt (i := i) (b := a) h 1
  rw [Nat.mul_one] at this
  rw [Nat.or_comm, ← this, Nat.add_comm]
theorem or_z {a : Nat} (h : a < 2147483648) : am_or (a : Int) 0 = (a : Int) := by
  have := am_orN (a := a) (b := 0) h (by decide)
  rw [Nat.or_zero] at this
  exact this
def clrB (b i : Nat) : Nat := b - (if b.testBit i then 2 ^ i else 0)
theorem and_cl {b i : Nat} (hb : b < 256) (hi : i < 8) : am_and (b : Int) (am_xor ((2 ^ i : Nat) : Int) (-1)) = ((clrB b i : Nat) : Int) := bit_clear b hb i hi
theorem am_cmpA {x y : Int} : am_cmp x y < 0 ↔ x < y := by unfold am_cmp; split <;> (try split) <;> omega
theorem am_cmpB {x y : Int} : 0 ≤ am_cmp x y ↔ y ≤ x := by unfold am_cmp; split <;> (try split) <;> omega
theorem am_cmpC {x y : Int} : 0 < am_cmp x y ↔ y < x := by unfold am_cmp; split <;> (try split) <;> omega
theorem am_cmpD {x y : Int} : am_cmp x y ≤ 0 ↔ x ≤ y := by unfold am_cmp; split <;> (try split) <;> omega
theorem am_cmpE {x y : Int} : am_cmp x y = 0 ↔ x = y := by unfold am_cmp; split <;> (try split) <;> omega
