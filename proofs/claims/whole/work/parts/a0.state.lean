/-! one state of both objects -/
def CR (T : List Nat) (R : List Int) (U : List est) (K : Nat → Option est) (L Y : List (Int × Int)) (n : Nat) (mem : am_M) : Prop := c_text T mem ∧ c_row R mem ∧ c_undo U mem ∧ c_kept K n mem ∧ c_said 65 L mem ∧ c_said 68 Y mem ∧ (∀ i, i < 8 → mem 72 i = 0) ∧ (∃ dg : Nat, dg ≤ 3 ∧ mem 11 8 = (dg : Int)) ∧ ∃ dg : Nat, dg ≤ 3 ∧ mem 84 8 = (dg : Int)
def CC (T : List Nat) (R : List Int) (X : List Nat) (sn : Nat) (sg : Nat → Nat) (h : hrs) (e : est) (NB : Nat) (U : List est) (K : Nat → Option est) (L Y : List (Int × Int)) (mem : am_M) : Prop := ∃ (r : Nat) (C : List Int) (r2 : Nat), CQ r X C sn sg h e NB mem ∧ am_rul r2 ∧ r2 ≠ r ∧ mem 0 18 = ((r2 + 1 : Nat) : Int) ∧ CR T R U K L Y h.1 mem
def DR (T : List Nat) (R : List Int) (U : List est) (K : Nat → Option est) (L Y : List (Int × Int)) (n : Nat) (mem : am_M) : Prop := m_text T mem ∧ m_row R mem ∧ m_undo U mem ∧ m_kept K n mem ∧ m_look L mem ∧ m_told Y mem ∧ mem 95 19 = 106
def DD (T : List Nat) (R : List Int) (X : List Nat) (sn : Nat) (sg : Nat → Nat) (h : hrs) (e : est) (NB : Nat) (U : List est) (K : Nat → Option est) (L Y : List (Int × Int)) (mem : am_M) : Prop := DQ X sn sg h e NB mem ∧ DR T R U K L Y h.1 mem
def PU (n NB : Nat) (U : List est) (K : Nat → Option est) (L Y : List (Int × Int)) : Prop := l_ok L ∧ y_ok Y ∧ (∀ j, j < U.length → e_ok n NB (U.getD j est0)) ∧ ∀ i, i < 2 → ∀ e2, K i = some e2 → e_ok n NB e2
def Inv (N : Nat) (mem : am_M) : Prop := ∃ (T : List Nat) (R : List Int) (X : List Nat) (sn : Nat) (sg : Nat → Nat) (h : hrs) (e : est) (NB : Nat) (U : List est) (K : Nat → Option est) (L Y : List (Int × Int)), CC T R X sn sg h e NB U K L Y mem ∧ DD T R X sn sg h e NB U K L Y mem ∧ PU h.1 NB U K L Y ∧ NB ≤ 300 * N
def PI (l : Launch) (G : am_G) (yC : MethodName) (MC : am_Mt) (yM : MethodName) (MM : am_Mt) (as : List am_V) : Prop := ∀ (N : Nat) (mem : am_M), N ≤ 600 → Inv N mem → ∃ (v : Int) (Mid : am_M → Prop), am_Sm l G yC MC 200 (.inr (.inr 1) :: as) mem (fun q m => q = some (.inl v) ∧ Mid m) ∧ ∀ m, Mid m → am_Sm l G yM MM 200 (.inr (.inr 96) :: as) m (fun q m => q = some (.inl v) ∧ Inv (N + 1) m)
theorem e_ok.up {n NB NB2 : Nat} {e : est} (h : e_ok n NB e) (hN : NB ≤ NB2) : e_ok n NB2 e := ⟨h.1, h.2.1, h.2.2.1, Nat.le_trans h.2.2.2.1 hN, h.2.2.2.2⟩
theorem PU.up {n NB NB2 : Nat} {U : List est} {K : Nat → Option est} {L Y : List (Int × Int)} (h : PU n NB U K L Y) (hN : NB ≤ NB2) : PU n NB2 U K L Y := ⟨h.1, h.2.1, fun j hj => (h.2.2.1 j hj).up hN, fun i hi e2 he => (h.2.2.2 i hi e2 he).up hN⟩
theorem c_row.keptC {R : List Int} {mem m : am_M} (h : c_row R mem) (h3 : m 3 = mem 3) (h4 : m 4 = mem 4) : c_row R m := ⟨by rw [h3]; exact h.1, h.2.1, fun i hi => by rw [h4]; exact h.2.2 i hi⟩
theorem c_said.keptS {a : Nat} {L : List (Int × Int)} {mem m : am_M} (h : c_said a L mem) (h0 : m a = mem a) (h1 : m (a + 1) = mem (a + 1)) (h2 : m (a + 2) = mem (a + 2)) : c_said a L m := ⟨by rw [h0]; exact h.1, h.2.1, fun i hi => by rw [h1, h2]; exact h.2.2 i hi⟩
theorem c_kept.keptK {K : Nat → Option est} {n : Nat} {mem m : am_M} (h : c_kept K n mem) (h3 : m 63 = mem 63) (h4 : m 64 = mem 64) (g : ∀ b, 89 ≤ b → b ≤ 94 → m b = mem b) : c_kept K n m := fun i hi => by
  obtain ⟨a1, a2, a3, a4⟩ := h i hi
  rw [h3, h4]
  exact ⟨a1, a2, a3, fun e2 he => ⟨(a4 e2 he).1, (a4 e2 he).2.kept (g _ (by omega) (by omega)) (g _ (by omega) (by omega)) (g _ (by omega) (by omega))⟩⟩
/-- the class's rest, but the ROW and the list to undo -/
theorem CR.keptR {T : List Nat} {R R2 : List Int} {U U2 : List est} {K : Nat → Option est} {L Y : List (Int × Int)} {n : Nat} {mem m : am_M} (c : CR T R U K L Y n mem) (hr : c_row R2 m) (hu : c_undo U2 m) (g : ∀ b, (b = 1 ∨ b = 2 ∨ (63 ≤ b ∧ b ≤ 70) ∨ b = 72 ∨ (89 ≤ b ∧ b ≤ 94)) → m b = mem b) (g1 : m 11 8 = mem 11 8) (g2 : m 84 8 = mem 84 8) : CR T R2 U2 K L Y n m := by
  obtain ⟨a1, a2, a3, a4, a5, a6, a7, a8, a9⟩ := c
  refine ⟨a1.keptT (g 1 (by omega)) (g 2 (by omega)), hr, hu, a4.keptK (g 63 (by omega)) (g 64 (by omega)) (fun b h1 h2 => g b (by omega)), a5.keptS (g 65 (by omega)) (g 66 (by omega)) (g 67 (by omega)), a6.keptS (g 68 (by omega)) (g 69 (by omega)) (g 70 (by omega)), fun i hi => by rw [g 72 (by omega)]; exact a7 i hi, by rw [g1]; exact a8, by rw [g2]; exact a9⟩
theorem s8a_cell {mem m : am_M} (f : frS s8a mem m) {b : Nat} (hb : b = 1 ∨ b = 2 ∨ (63 ≤ b ∧ b ≤ 70) ∨ b = 72 ∨ 89 ≤ b) : m b = mem b := funext (fun k => f b k (by
  rw [Bool.eq_false_iff]
  intro z
  unfold s8a s8r s8 at z
  simp [Nat.ble_eq] at z
  omega))
theorem s8r_undo {mem m : am_M} (f : frS s8r mem m) {b : Nat} (hb : 25 ≤ b ∧ b ≤ 62) : m b = mem b := funext (fun k => f b k (by
  rw [Bool.eq_false_iff]
  intro z
  unfold s8r s8 at z
  simp [Nat.ble_eq] at z
  omega))
theorem s9a_cell {mem m : am_M} (f : frS s9a mem m) {b : Nat} (hb : b < 95 ∨ b = 101 ∨ b = 119 ∨ (121 ≤ b)) : m b = mem b := funext (fun k => f b k (by
  rw [Bool.eq_false_iff]
  intro z
  unfold s9a s9r s9 at z
  simp [Nat.ble_eq] at z
  omega))
theorem DR.keptR {T : List Nat} {R R2 : List Int} {U U2 : List est} {K : Nat → Option est} {L Y : List (Int × Int)} {n : Nat} {mem m : am_M} (c : DR T R U K L Y n mem) (hr : m_row R2 m) (hu : m_undo U2 m) (f : frS s9a mem m) : DR T R2 U2 K L Y n m := by
  obtain ⟨a1, a2, a3, a4, ⟨B, b1, b2, b3, b4, b5⟩, a6, a7⟩ := c
  refine ⟨⟨(f 95 8 rfl).trans a1.1, a1.2.1, a1.2.2.1, fun i hi => by rw [s9a_cell f (by omega)]; exact a1.2.2.2 i hi⟩, hr, hu, ⟨by rw [f 95 47 rfl]; exact a4.1, by rw [f 95 47 rfl]; exact a4.2.1, fun i hi => ?_⟩, ⟨B, (f 95 40 rfl).trans b1, b2, (f 95 41 rfl).trans b3, b4, fun i hi => by rw [s9a_cell f (by omega)]; exact b5 i hi⟩, ⟨(f 95 45 rfl).trans a6.1, a6.2.1, fun i hi => by rw [s9a_cell f (b := 121) (by omega), s9a_cell f (b := 122) (by omega)]; exact a6.2.2 i hi⟩, (f 95 19 rfl).trans a7⟩
  rw [s9a_cell f (b := 124) (by omega), s9a_cell f (b := 125) (by omega), f 95 47 rfl]
  obtain ⟨k1, k2, k3, k4⟩ := a4.2.2 i hi
  exact ⟨k1, k2, k3, fun e2 he => ⟨(k4 e2 he).1, (k4 e2 he).2.1, (k4 e2 he).2.2.kept (s9a_cell f (by omega))⟩⟩
theorem DQ.cells {X : List Nat} {sn : Nat} {sg : Nat → Nat} {h : hrs} {e : est} {NB : Nat} {mem m : am_M} (q : DQ X sn sg h e NB mem) (g : ∀ b, 95 ≤ b → m b = mem b) : DQ X sn sg h e NB m := by
  unfold DQ m_rul m_song m_hrs m_est at *
  rw [g 95 (by omega), g 96 (by omega), g 97 (by omega), g 98 (by omega), g 99 (by omega), g 100 (by omega), g 104 (by omega)]
  exact q
theorem DR.cells {T : List Nat} {R : List Int} {U : List est} {K : Nat → Option est} {L Y : List (Int × Int)} {n : Nat} {mem m : am_M} (c : DR T R U K L Y n mem) (g : ∀ b, 95 ≤ b → m b = mem b) : DR T R U K L Y n m := by
  unfold DR m_text m_row m_undo m_kept m_look m_told m_est at *
  rw [g 95 (by omega), g 101 (by omega), g 102 (by omega), g 107 (by omega), g 119 (by omega), g 121 (by omega), g 122 (by omega), g 123 (by omega), g 124 (by omega), g 125 (by omega)]
  exact c
theorem DD.cells {T : List Nat} {R : List Int} {X : List Nat} {sn : Nat} {sg : Nat → Nat} {h : hrs} {e : est} {NB : Nat} {U : List est} {K : Nat → Option est} {L Y : List (Int × Int)} {mem m : am_M} (c : DD T R X sn sg h e NB U K L Y mem) (g : ∀ b, 95 ≤ b → m b = mem b) : DD T R X sn sg h e NB U K L Y m := ⟨c.1.cells g, c.2.cells g⟩
theorem CC.cells {T : List Nat} {R : List Int} {X : List Nat} {sn : Nat} {sg : Nat → Nat} {h : hrs} {e : est} {NB : Nat} {U : List est} {K : Nat → Option est} {L Y : List (Int × Int)} {mem m : am_M} (c : CC T R X sn sg h e NB U K L Y mem) (g : ∀ b, b < 95 → m b = mem b) : CC T R X sn sg h e NB U K L Y m := by
  obtain ⟨r, C, r2, q, h1, h2, h3, c⟩ := c
  have o := am_rul_or q.1
  have a3 := c.2.2.1
  refine ⟨r, C, r2, q.cells (fun b hb => g b (by omega)), h1, h2, by rw [g 0 (by omega)]; exact h3, c.keptR (c.2.1.keptC (g 3 (by omega)) (g 4 (by omega))) (a3.keptU (fun x x1 x2 => g x (by omega))) (fun b hb => g b (by omega)) (by rw [g 11 (by omega)]) (by rw [g 84 (by omega)])⟩
theorem CC.act {T : List Nat} {R : List Int} {X : List Nat} {sn : Nat} {sg : Nat → Nat} {h : hrs} {e : est} {NB : Nat} {U : List est} {K : Nat → Option est} {L Y : List (Int × Int)} {mem m : am_M} {R2 : List Int} {U2 : List est} {e2 : est} {NB2 : Nat} (c : CC T R X sn sg h e NB U K L Y mem) (hE : c_est e2 16 m) (he : e_ok h.1 NB2 e2) (hN : NB2 < 900000) (hu : c_undo U2 m) (hr : c_row R2 m) (f : frS s8a mem m) : CC T R2 X sn sg h e2 NB2 U2 K L Y m := by
  obtain ⟨r, C, r2, q, h1, h2, h3, c⟩ := c
  exact ⟨r, C, r2, q.setE hE he hN f, h1, h2, (f 0 18 rfl).trans h3, c.keptR hr hu (fun b hb => s8a_cell f (by omega)) (f 11 8 rfl) (f 84 8 rfl)⟩
theorem CC.ask {T : List Nat} {R : List Int} {X : List Nat} {sn : Nat} {sg : Nat → Nat} {h : hrs} {e : est} {NB : Nat} {U : List est} {K : Nat → Option est} {L Y : List (Int × Int)} {mem m : am_M} {R2 : List Int} (c : CC T R X sn sg h e NB U K L Y mem) (hr : c_row R2 m) (f : frS s8r mem m) : CC T R2 X sn sg h e NB U K L Y m := by
  obtain ⟨r, C, r2, q, h1, h2, h3, c⟩ := c
  have a3 := c.2.2.1
  exact ⟨r, C, r2, q.kept f, h1, h2, (f 0 18 rfl).trans h3, c.keptR hr (a3.keptU (fun x x1 x2 => s8r_undo f ⟨x1, x2⟩)) (fun b hb => s8a_cell f.a8 (by omega)) (f 11 8 rfl) (f 84 8 rfl)⟩
theorem DD.act {T : List Nat} {R : List Int} {X : List Nat} {sn : Nat} {sg : Nat → Nat} {h : hrs} {e : est} {NB : Nat} {U : List est} {K : Nat → Option est} {L Y : List (Int × Int)} {mem m : am_M} {R2 : List Int} {U2 : List est} {e2 : est} {NB2 : Nat} (c : DD T R X sn sg h e NB U K L Y mem) (hE : m_est e2 96 0 m) (he : e_ok h.1 NB2 e2) (hN : NB2 < 900000) (hu : m_undo U2 m) (hr : m_row R2 m) (f : frS s9a mem m) : DD T R2 X sn sg h e2 NB2 U2 K L Y m := ⟨c.1.setE hE he hN f, c.2.keptR hr hu f⟩
theorem DD.ask {T : List Nat} {R : List Int} {X : List Nat} {sn : Nat} {sg : Nat → Nat} {h : hrs} {e : est} {NB : Nat} {U : List est} {K : Nat → Option est} {L Y : List (Int × Int)} {mem m : am_M} {R2 : List Int} (c : DD T R X sn sg h e NB U K L Y mem) (hr : m_row R2 m) (f : frS s9r mem m) : DD T R2 X sn sg h e NB U K L Y m := ⟨c.1.kept f, c.2.keptR hr (c.2.2.2.1.keptU (funext (fun i => f 107 i rfl)) (f 95 24 rfl)) f.a9⟩
theorem CC.n9 {T : List Nat} {R : List Int} {X : List Nat} {sn : Nat} {sg : Nat → Nat} {h : hrs} {e : est} {NB : Nat} {U : List est} {K : Nat → Option est} {L Y : List (Int × Int)} {mem : am_M} (c : CC T R X sn sg h e NB U K L Y mem) : NB < 900000 ∧ e_ok h.1 NB e := by
  obtain ⟨r, C, r2, q, -⟩ := c
  exact ⟨q.2.2.2.2.2.2.2.2, q.eo⟩
section PA0
variable {l : Launch} {G : am_G} {yC yM : MethodName} {MC MM : am_Mt} {as : List am_V}
/-- a question -/
theorem PI_q (H : ∀ (T : List Nat) (R : List Int) (X : List Nat) (sn : Nat) (sg : Nat → Nat) (h : hrs) (e : est) (NB : Nat) (U : List est) (K : Nat → Option est) (L Y : List (Int × Int)), PU h.1 NB U K L Y → NB + 600 < 900000 → ∃ (v : Int) (R2 : List Int), (∀ r C mem, CQ r X C sn sg h e NB mem → c_row R mem → CR T R U K L Y h.1 mem → am_Sm l G yC MC 200 (.inr (.inr 1) :: as) mem (QC v R2 mem)) ∧ ∀ mem, DQ X sn sg h e NB mem → m_row R mem → DR T R U K L Y h.1 mem → am_Sm l G yM MM 200 (.inr (.inr 96) :: as) mem (QM v R2 mem)) : PI l G yC MC yM MM as := by
  intro N mem hN hI
  obtain ⟨T, R, X, sn, sg, h, e, NB, U, K, L, Y, cc, dd, pu, hB⟩ := hI
  obtain ⟨v, R2, hc, hm⟩ := H T R X sn sg h e NB U K L Y pu (by omega)
  refine ⟨v, fun m => CC T R2 X sn sg h e NB U K L Y m ∧ DD T R X sn sg h e NB U K L Y m, ?_, fun m hm2 => ?_⟩
  · obtain ⟨r, C, r2, q, h1, h2, h3, c⟩ := cc
    refine am_Sm_mono (hc r C mem q c.2.1 c) (fun q2 m hq => ⟨hq.1, ?_, dd.cells (fun b hb => s8a_cell hq.2.1.a8 (by omega))⟩)
    exact CC.ask ⟨r, C, r2, q, h1, h2, h3, c⟩ hq.2.2 hq.2.1
  · refine am_Sm_mono (hm m hm2.2.1 hm2.2.2.2.1 hm2.2.2) (fun q2 m2 hq => ⟨hq.1, T, R2, X, sn, sg, h, e, NB, U, K, L, Y, ?_, hm2.2.ask hq.2.2 hq.2.1, pu, by omega⟩)
    exact hm2.1.cells (fun b hb => s9a_cell hq.2.1.a9 (by omega))
/-- an act -/
theorem PI_a (H : ∀ (T : List Nat) (R : List Int) (X : List Nat) (sn : Nat) (sg : Nat → Nat) (h : hrs) (e : est) (NB : Nat) (U : List est) (K : Nat → Option est) (L Y : List (Int × Int)), PU h.1 NB U K L Y → e_ok h.1 NB e → NB + 600 < 900000 → ∃ (v : Int) (e2 : est) (U2 : List est) (R2 : List Int) (NB2 : Nat), NB ≤ NB2 ∧ NB2 ≤ NB + 300 ∧ e_ok h.1 NB2 e2 ∧ (∀ j, j < U2.length → e_ok h.1 NB2 (U2.getD j est0)) ∧ (∀ r C mem, CQ r X C sn sg h e NB mem → c_row R mem → CR T R U K L Y h.1 mem → am_Sm l G yC MC 200 (.inr (.inr 1) :: as) mem (AC v e2 U2 R2 mem)) ∧ ∀ mem, DQ X sn sg h e NB mem → m_row R mem → DR T R U K L Y h.1 mem → am_Sm l G yM MM 200 (.inr (.inr 96) :: as) mem (AM v e2 U2 R2 mem)) : PI l G yC MC yM MM as := by
  intro N mem hN hI
  obtain ⟨T, R, X, sn, sg, h, e, NB, U, K, L, Y, cc, dd, pu, hB⟩ := hI
  obtain ⟨v, e2, U2, R2, NB2, b1, b2, b3, b4, hc, hm⟩ := H T R X sn sg h e NB U K L Y pu cc.n9.2 (by omega)
  refine ⟨v, fun m => CC T R2 X sn sg h e2 NB2 U2 K L Y m ∧ DD T R X sn sg h e NB U K L Y m, ?_, fun m hm2 => ?_⟩
  · obtain ⟨r, C, r2, q, h1, h2, h3, c⟩ := cc
    refine am_Sm_mono (hc r C mem q c.2.1 c) (fun q2 m hq => ⟨hq.1, ?_, dd.cells (fun b hb => s8a_cell hq.2.2.2.2 (by omega))⟩)
    exact CC.act ⟨r, C, r2, q, h1, h2, h3, c⟩ hq.2.1 b3 (by omega) hq.2.2.1 hq.2.2.2.1 hq.2.2.2.2
  · refine am_Sm_mono (hm m hm2.2.1 hm2.2.2.2.1 hm2.2.2) (fun q2 m2 hq => ⟨hq.1, T, R2, X, sn, sg, h, e2, NB2, U2, K, L, Y, ?_, hm2.2.act hq.2.1 b3 (by omega) hq.2.2.1 hq.2.2.2.1 hq.2.2.2.2, ?_, by omega⟩)
    · exact hm2.1.cells (fun b hb => s9a_cell hq.2.2.2.2 (by omega))
    · exact ⟨pu.1, pu.2.1, b4, (pu.up b1).2.2.2⟩
end PA0
