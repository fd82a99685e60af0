/-! pairs: what changes more -/
theorem PI_g {l : Launch} {G : am_G} {yC yM : MethodName} {MC MM : am_Mt} {as : List am_V} (H : ∀ (T : List Nat) (R : List Int) (X : List Nat) (sn : Nat) (sg : Nat → Nat) (h : hrs) (e : est) (NB : Nat) (U : List est) (K : Nat → Option est) (L Y : List (Int × Int)), PU h.1 NB U K L Y → e_ok h.1 NB e → h_ok h → T.length ≤ 80 → (∀ i, T.getD i 0 < 256) → NB + 600 < 900000 → ∃ (v : Int) (T2 : List Nat) (R2 : List Int) (X2 : List Nat) (sn2 : Nat) (sg2 : Nat → Nat) (h2 : hrs) (e2 : est) (NB2 : Nat) (U2 : List est) (K2 : Nat → Option est) (L2 Y2 : List (Int × Int)), NB2 ≤ NB + 300 ∧ PU h2.1 NB2 U2 K2 L2 Y2 ∧ (∀ mem, CC T R X sn sg h e NB U K L Y mem → am_Sm l G yC MC 200 (.inr (.inr 1) :: as) mem (fun q m => q = some (.inl v) ∧ CC T2 R2 X2 sn2 sg2 h2 e2 NB2 U2 K2 L2 Y2 m ∧ ∀ b, 95 ≤ b → m b = mem b)) ∧ ∀ mem, DD T R X sn sg h e NB U K L Y mem → am_Sm l G yM MM 200 (.inr (.inr 96) :: as) mem (fun q m => q = some (.inl v) ∧ DD T2 R2 X2 sn2 sg2 h2 e2 NB2 U2 K2 L2 Y2 m ∧ ∀ b, b < 95 → m b = mem b)) : PI l G yC MC yM MM as := by
  intro N mem hN hI
  obtain ⟨T, R, X, sn, sg, h, e, NB, U, K, L, Y, cc, dd, pu, hB⟩ := hI
  have hho : h_ok h := dd.1.hs.1
  obtain ⟨v, T2, R2, X2, sn2, sg2, h2, e2, NB2, U2, K2, L2, Y2, b1, b2, hc, hm⟩ := H T R X sn sg h e NB U K L Y pu cc.n9.2 hho dd.2.1.2.1 dd.2.1.2.2.1 (by omega)
  refine ⟨v, fun m => CC T2 R2 X2 sn2 sg2 h2 e2 NB2 U2 K2 L2 Y2 m ∧ DD T R X sn sg h e NB U K L Y m, am_Sm_mono (hc mem cc) (fun q2 m hq => ⟨hq.1, hq.2.1, dd.cells hq.2.2⟩), fun m hm2 => ?_⟩
  exact am_Sm_mono (hm m hm2.2) (fun q2 m2 hq => ⟨hq.1, T2, R2, X2, sn2, sg2, h2, e2, NB2, U2, K2, L2, Y2, hm2.1.cells hq.2.2, hq.2.1, b2, by omega⟩)
section KF
variable {mem m : am_M} {s : Nat → Nat → Bool}
theorem m_text.kf {T : List Nat} (c : m_text T mem) (f : frS s mem m) (h1 : s 95 8 = false) (h2 : ∀ k, s 101 k = false) : m_text T m := ⟨(f 95 8 h1).trans c.1, c.2.1, c.2.2.1, fun i hi => (f 101 i (h2 i)).trans (c.2.2.2 i hi)⟩
theorem m_row.kf {R : List Int} (c : m_row R mem) (f : frS s mem m) (h1 : s 95 10 = false) (h2 : ∀ k, s 102 k = false) : m_row R m := ⟨(f 95 10 h1).trans c.1, c.2.1, fun i hi => (f 102 i (h2 i)).trans (c.2.2 i hi)⟩
theorem m_undo.kf {U : List est} (c : m_undo U mem) (f : frS s mem m) (h1 : s 95 24 = false) (h2 : ∀ k, s 107 k = false) : m_undo U m := c.keptU (funext (fun k => f 107 k (h2 k))) (f 95 24 h1)
theorem m_kept.kf {K : Nat → Option est} {n : Nat} (c : m_kept K n mem) (f : frS s mem m) (h1 : s 95 47 = false) (h2 : ∀ k, s 123 k = false) (h3 : ∀ k, s 124 k = false) (h4 : ∀ k, s 125 k = false) : m_kept K n m := by
  have e1 := f 95 47 h1
  have e2 : m 123 = mem 123 := funext (fun k => f 123 k (h2 k))
  have e3 : m 124 = mem 124 := funext (fun k => f 124 k (h3 k))
  have e4 : m 125 = mem 125 := funext (fun k => f 125 k (h4 k))
  refine ⟨by rw [e1]; exact c.1, by rw [e1]; exact c.2.1, fun i hi => ?_⟩
  obtain ⟨k1, k2, k3, k4⟩ := c.2.2 i hi
  rw [e1, e3, e4]
  exact ⟨k1, k2, k3, fun e2' he => ⟨(k4 e2' he).1, (k4 e2' he).2.1, (k4 e2' he).2.2.kept e2⟩⟩
theorem m_look.kf {L : List (Int × Int)} (c : m_look L mem) (f : frS s mem m) (h1 : s 95 40 = false) (h2 : s 95 41 = false) (h3 : ∀ k, s 119 k = false) : m_look L m := by
  obtain ⟨B, b1, b2, b3, b4, b5⟩ := c
  exact ⟨B, (f 95 40 h1).trans b1, b2, (f 95 41 h2).trans b3, b4, fun i hi => by rw [f 119 i (h3 i)]; exact b5 i hi⟩
theorem m_told.kf {L : List (Int × Int)} (c : m_told L mem) (f : frS s mem m) (h1 : s 95 45 = false) (h2 : ∀ k, s 121 k = false) (h3 : ∀ k, s 122 k = false) : m_told L m := ⟨(f 95 45 h1).trans c.1, c.2.1, fun i hi => by rw [f 121 i (h2 i), f 122 i (h3 i)]; exact c.2.2 i hi⟩
theorem DQ.kf {X : List Nat} {sn : Nat} {sg : Nat → Nat} {h : hrs} {e : est} {NB : Nat} (q : DQ X sn sg h e NB mem) (f : frS s mem m) (h1 : s 95 18 = false) (h2 : s 95 20 = false) (h3 : s 95 21 = false) (h4 : s 95 6 = false) (h5 : s 95 1 = false) (h6 : ∀ k, s 96 k = false) (h7 : ∀ k, s 97 k = false) (h8 : ∀ k, s 98 k = false) (h9 : ∀ k, s 99 k = false) (h10 : ∀ k, s 100 k = false) (h11 : ∀ k, s 104 k = false) : DQ X sn sg h e NB m := by
  obtain ⟨q1, q2, q3, q4, q5, q6, q7⟩ := q
  refine ⟨q1, ⟨q2.1, (f 95 18 h1).trans q2.2.1, (f 95 20 h2).trans q2.2.2.1, fun j hj => (f 104 j (h11 j)).trans (q2.2.2.2 j hj)⟩, (f 95 21 h3).trans q3, ⟨(f 95 6 h4).trans q4.1, q4.2.1, q4.2.2.1, q4.2.2.2.1, fun i hi => (f 100 i (h10 i)).trans (q4.2.2.2.2 i hi)⟩, ⟨q5.1, (f 95 1 h5).trans q5.2.1, fun i hi => by rw [f 97 i (h7 i), f 98 i (h8 i), f 99 i (h9 i)]; exact q5.2.2 i hi⟩, q6.kept (funext (fun k => f 96 k (h6 k))), q7⟩
/-- the class's rest, with what is told anew -/
theorem CR.gen {T T2 : List Nat} {R : List Int} {U U2 : List est} {K K2 : Nat → Option est} {L L2 Y Y2 : List (Int × Int)} {n n2 : Nat} (c : CR T R U K L Y n mem) (t : c_text T2 m) (u : c_undo U2 m) (k : c_kept K2 n2 m) (l : c_said 65 L2 m) (y : c_said 68 Y2 m) (g : ∀ b, b = 3 ∨ b = 4 ∨ b = 72 ∨ b = 11 ∨ b = 84 → m b = mem b) : CR T2 R U2 K2 L2 Y2 n2 m := ⟨t, c.2.1.keptC (g 3 (by omega)) (g 4 (by omega)), u, k, l, y, fun i hi => by rw [g 72 (by omega)]; exact c.2.2.2.2.2.2.1 i hi, by rw [g 11 (by omega)]; exact c.2.2.2.2.2.2.2.1, by rw [g 84 (by omega)]; exact c.2.2.2.2.2.2.2.2⟩
end KF
/-- only the cells of the text change -/
theorem CC.text {T : List Nat} {R : List Int} {X : List Nat} {sn : Nat} {sg : Nat → Nat} {h : hrs} {e : est} {NB : Nat} {U : List est} {K : Nat → Option est} {L Y : List (Int × Int)} {mem m : am_M} {T2 : List Nat} (c : CC T R X sn sg h e NB U K L Y mem) (t : c_text T2 m) (g : ∀ b, b ≠ 1 → b ≠ 2 → m b = mem b) : CC T2 R X sn sg h e NB U K L Y m := by
  obtain ⟨r, C, r2, q, h1, h2, h3, c⟩ := c
  have o := am_rul_or q.1
  have a3 := c.2.2.1
  exact ⟨r, C, r2, q.cells (fun b hb => g b (by omega) (by omega)), h1, h2, by rw [g 0 (by omega) (by omega)]; exact h3, c.gen t (a3.keptU (fun x _ _ => g x (by omega) (by omega))) (c.2.2.2.1.keptK (g 63 (by omega) (by omega)) (g 64 (by omega) (by omega)) (fun b _ _ => g b (by omega) (by omega))) (c.2.2.2.2.1.keptS (g 65 (by omega) (by omega)) (g 66 (by omega) (by omega)) (g 67 (by omega) (by omega))) (c.2.2.2.2.2.1.keptS (g 68 (by omega) (by omega)) (g 69 (by omega) (by omega)) (g 70 (by omega) (by omega))) (fun b hb => g b (by omega) (by omega))⟩
theorem c_text_nil {m : am_M} (h : m 1 1 = 0) : c_text [] m := ⟨h, by decide, fun i => by rw [List.getD_nil]; decide, fun i hi => absurd hi (Nat.not_lt_zero i)⟩
theorem m_text_nil {m : am_M} (h : m 95 8 = 0) : m_text [] m := ⟨h, by decide, fun i => by rw [List.getD_nil]; decide, fun i hi => absurd hi (Nat.not_lt_zero i)⟩
theorem CC.text0 {T : List Nat} {R : List Int} {X : List Nat} {sn : Nat} {sg : Nat → Nat} {h : hrs} {e : est} {NB : Nat} {U : List est} {K : Nat → Option est} {L Y : List (Int × Int)} {mem : am_M} (c : CC T R X sn sg h e NB U K L Y mem) : CC [] R X sn sg h e NB U K L Y (am_up mem 1 1 0) := c.text (c_text_nil rfl) (fun b h1 h2 => am_up_ne h1)
def sTx (b k : Nat) : Bool := (b == 95 && (k == 8 || k == 11)) || b == 101
theorem DD.text {T : List Nat} {R : List Int} {X : List Nat} {sn : Nat} {sg : Nat → Nat} {h : hrs} {e : est} {NB : Nat} {U : List est} {K : Nat → Option est} {L Y : List (Int × Int)} {mem m : am_M} {T2 : List Nat} (c : DD T R X sn sg h e NB U K L Y mem) (t : m_text T2 m) (f : frS sTx mem m) : DD T2 R X sn sg h e NB U K L Y m := by
  obtain ⟨q, a1, a2, a3, a4, a5, a6, a7⟩ := c
  exact ⟨q.kf f rfl rfl rfl rfl rfl (fun _ => rfl) (fun _ => rfl) (fun _ => rfl) (fun _ => rfl) (fun _ => rfl) (fun _ => rfl), t, a2.kf f rfl (fun _ => rfl), a3.kf f rfl (fun _ => rfl), a4.kf f rfl (fun _ => rfl) (fun _ => rfl) (fun _ => rfl), a5.kf f rfl rfl (fun _ => rfl), a6.kf f rfl (fun _ => rfl) (fun _ => rfl), (f 95 19 rfl).trans a7⟩
theorem DD.text0 {T : List Nat} {R : List Int} {X : List Nat} {sn : Nat} {sg : Nat → Nat} {h : hrs} {e : est} {NB : Nat} {U : List est} {K : Nat → Option est} {L Y : List (Int × Int)} {mem : am_M} (c : DD T R X sn sg h e NB U K L Y mem) : DD [] R X sn sg h e NB U K L Y (am_up mem 95 8 0) := c.text (m_text_nil rfl) (frS.rf.up rfl)
/-- the reference's own scratch -/
theorem DD.scr {T : List Nat} {R : List Int} {X : List Nat} {sn : Nat} {sg : Nat → Nat} {h : hrs} {e : est} {NB : Nat} {U : List est} {K : Nat → Option est} {L Y : List (Int × Int)} {mem m : am_M} (c : DD T R X sn sg h e NB U K L Y mem) (f : frS s9 mem m) : DD T R X sn sg h e NB U K L Y m := c.ask (c.2.2.1.kept f) f.r9
theorem CC.scr {T : List Nat} {R : List Int} {X : List Nat} {sn : Nat} {sg : Nat → Nat} {h : hrs} {e : est} {NB : Nat} {U : List est} {K : Nat → Option est} {L Y : List (Int × Int)} {mem m : am_M} (c : CC T R X sn sg h e NB U K L Y mem) (f : frS s8 mem m) : CC T R X sn sg h e NB U K L Y m := by
  obtain ⟨r, C, r2, q, h1, h2, h3, c⟩ := c
  exact CC.ask ⟨r, C, r2, q, h1, h2, h3, c⟩ (c.2.1.kept f) f.r8
theorem s9_lo {mem m : am_M} (f : frS s9 mem m) {b : Nat} (hb : b < 95) : m b = mem b := s9a_cell f.r9.a9 (by omega)
theorem s8_hi {mem m : am_M} (f : frS s8 mem m) {b : Nat} (hb : 95 ≤ b) : m b = mem b := s8a_cell f.r8.a8 (by omega)
theorem fbad {P : Nat → Prop} (n : Nat) : (∀ j, j < n → P j) ∨ ∃ p, p < n ∧ (∀ j, j < p → P j) ∧ ¬ P p := by
  induction n with
  | zero => exact Or.inl (fun j hj => absurd hj (Nat.not_lt_zero j))
  | succ n ih =>
    rcases ih with ih | ⟨p, h1, h2, h3⟩
    · by_cases hp : P n
      · refine Or.inl (fun j hj => ?_)
        by_cases e : j = n
        · rw [e]; exact hp
        · exact ih j (by omega)
      · exact Or.inr ⟨n, by omega, ih, hp⟩
    · exact Or.inr ⟨p, by omega, h2, h3⟩
theorem sg_tot (T : List Nat) : sgOK T ∨ ∃ p, sgBad T p := by
  rcases fbad (P := fun j => dgc (T.getD j 0)) (min T.length 16) with h | ⟨p, h1, h2, h3⟩
  · by_cases h0 : T = []
    · exact Or.inr ⟨0, by omega, fun j hj => absurd hj (Nat.not_lt_zero j), Or.inr ⟨h0, rfl⟩⟩
    · have hp := List.length_pos_iff.mpr h0
      by_cases h6 : T.length ≤ 16
      · exact Or.inl ⟨hp, h6, fun j hj => h j (by omega)⟩
      · exact Or.inr ⟨16, by omega, fun j hj => h j (by omega), Or.inl ⟨by omega, Or.inl rfl⟩⟩
  · exact Or.inr ⟨p, by omega, h2, Or.inl ⟨by omega, Or.inr h3⟩⟩
theorem ln_tot (T : List Nat) (n : Nat) : lnOK T n ∨ ∃ p, lnBad T n p := by
  rcases fbad (P := fun j => fitL T j ∧ j / 4 + n < 8) (min T.length 31) with h | ⟨p, h1, h2, h3⟩
  · by_cases h6 : T.length ≤ 31
    · by_cases h0 : T.length = 0 ∨ T.length % 4 = 3
      · exact Or.inl ⟨h6, h0, fun j hj => h j (by omega)⟩
      · exact Or.inr ⟨T.length, by omega, h6, fun j hj => h j (by omega), Or.inr (Or.inl ⟨rfl, by omega, by omega⟩)⟩
    · exact Or.inr ⟨31, by omega, by omega, fun j hj => h j (by omega), Or.inr (Or.inr ⟨rfl, by omega⟩)⟩
  · exact Or.inr ⟨p, by omega, by omega, h2, Or.inl ⟨by omega, by omega, h3⟩⟩
theorem gd_ap3 {L : List (Int × Int)} {x : Int × Int} {i : Nat} (h : i < (L ++ [x]).length) : (L ++ [x]).getD i (0, 0) = if i < L.length then L.getD i (0, 0) else x := by
  rw [List.length_append] at h
  by_cases hi : i < L.length
  · rw [if_pos hi, List.getD_eq_getElem?_getD, List.getElem?_append_left hi, ← List.getD_eq_getElem?_getD]
  · have e : i = L.length := by simp at h; omega
    rw [if_neg hi, e, List.getD_eq_getElem?_getD, List.getElem?_append_right (Nat.le_refl _)]
    simp
def sKp (b k : Nat) : Bool := (b == 95 && k == 11) || b == 123 || b == 124 || b == 125
theorem sLk_lo {b k : Nat} (hb : b < 95) : sLk b k = false := by
  rw [Bool.eq_false_iff]
  intro z
  unfold sLk at z
  simp at z
  omega
theorem sTd_lo {b k : Nat} (hb : b < 95) : sTd b k = false := by
  rw [Bool.eq_false_iff]
  intro z
  unfold sTd at z
  simp at z
  omega
section PA3
variable {l : Launch} {G : am_G}
theorem p_sign (v : Int) : PI l G yX8_sign mt_X8_sign yX9_sign mt_X9_sign [.inl v] := by
  refine PI_g (fun T R X sn sg h e NB U K L Y pu eo ho hT8 hTb hN9 => ?_)
  by_cases hn : T.length ≤ 76
  · refine ⟨(T.length : Int) + 4, sgT T v, R, X, sn, sg, h, e, NB, U, K, L, Y, by omega, pu, fun mem c => ?_, fun mem c => ?_⟩
    · have hc := c
      obtain ⟨r, C, r2, q, h1, h2, h3, c1⟩ := c
      exact am_Sm_mono (c_sign (d := 199) c1.1 v) (fun _ m z => ⟨(z.2 hn).1, hc.text (z.2 hn).2.1 (z.2 hn).2.2, fun b hb => (z.2 hn).2.2 b (by omega) (by omega)⟩)
    · refine am_Sm_mono (m_sign (d := 200) c.2.1 v) (fun _ m z => ?_)
      obtain ⟨z1, z2, z3, z4⟩ := z.2 hn
      refine ⟨z1, c.text z2 (fun b k hb => ?_), fun b hb => z3 b (by omega) (by omega)⟩
      unfold sTx at hb
      by_cases e5 : b = 95
      · subst e5
        simp at hb
        exact z4 k hb.1 hb.2
      · simp [e5] at hb
        rw [z3 b e5 hb]
  · refine ⟨-1, T, R, X, sn, sg, h, e, NB, U, K, L, Y, by omega, pu, fun mem c => ?_, fun mem c => ?_⟩
    · have hc := c
      obtain ⟨r, C, r2, q, h1, h2, h3, c1⟩ := c
      exact am_Sm_mono (c_sign (d := 199) c1.1 v) (fun _ m z => by obtain ⟨z1, rfl⟩ := z.1 (by omega); exact ⟨z1, hc, fun _ _ => rfl⟩)
    · exact am_Sm_mono (m_sign (d := 200) c.2.1 v) (fun _ m z => by obtain ⟨z1, rfl⟩ := z.1 (by omega); exact ⟨z1, c.scr (frS.rf.up rfl), fun b hb => am_up_ne (by omega)⟩)
theorem p_end (n : Int) : PI l G yX8_end mt_X8_end yX9_end mt_X9_end [.inl n] := by
  refine PI_g (fun T R X sn sg h e NB U K L Y pu eo ho hT8 hTb hN9 => ?_)
  by_cases hn : 0 ≤ n ∧ n ≤ T.length
  · refine ⟨1, T.take n.toNat, R, X, sn, sg, h, e, NB, U, K, L, Y, by omega, pu, fun mem c => ?_, fun mem c => ?_⟩
    · have hc := c
      obtain ⟨r, C, r2, q, h1, h2, h3, c1⟩ := c
      exact am_Sm_mono (c_end (d := 200) c1.1 n) (fun _ m z => by obtain ⟨z1, z2, rfl⟩ := z.2 hn; exact ⟨z1, hc.text z2 (fun b h1 h2 => am_up_ne h1), fun b hb => am_up_ne (by omega)⟩)
    · exact am_Sm_mono (m_end (d := 199) c.2.1 n) (fun _ m z => by obtain ⟨z1, z2, rfl⟩ := z.2 hn; exact ⟨z1, c.text z2 ((frS.rf.up rfl).up rfl), fun b hb => by rw [am_up_ne (by omega), am_up_ne (by omega)]⟩)
  · refine ⟨0, T, R, X, sn, sg, h, e, NB, U, K, L, Y, by omega, pu, fun mem c => ?_, fun mem c => ?_⟩
    · have hc := c
      obtain ⟨r, C, r2, q, h1, h2, h3, c1⟩ := c
      exact am_Sm_mono (c_end (d := 200) c1.1 n) (fun _ m z => by obtain ⟨z1, rfl⟩ := z.1 hn; exact ⟨z1, hc, fun _ _ => rfl⟩)
    · exact am_Sm_mono (m_end (d := 199) c.2.1 n) (fun _ m z => by obtain ⟨z1, rfl⟩ := z.1 hn; exact ⟨z1, c.scr (frS.rf.up rfl), fun b hb => am_up_ne (by omega)⟩)
theorem p_look (v w : Int) : PI l G yX8_look mt_X8_look yX9_look mt_X9_look [.inl v, .inl w] := by
  refine PI_g (fun T R X sn sg h e NB U K L Y pu eo ho hT8 hTb hN9 => ?_)
  by_cases hn : (0 ≤ v ∧ v ≤ 9 ∧ 0 ≤ w ∧ w ≤ 1) ∧ L.length ≠ 12
  · refine ⟨((L.length + 1 : Nat) : Int), T, R, X, sn, sg, h, e, NB, U, K, L ++ [(v, w)], Y, by omega, ⟨fun i hi => ?_, pu.2⟩, fun mem c => ?_, fun mem c => ?_⟩
    · rw [gd_ap3 hi]
      by_cases hl : i < L.length
      · rw [if_pos hl]; exact pu.1 i hl
      · rw [if_neg hl]; exact ⟨⟨by omega, by omega⟩, by show w = 0 ∨ w = 1; omega⟩
    · obtain ⟨r, C, r2, q, h1, h2, h3, c⟩ := c
      refine am_Sm_mono (c_look (d := 199) c.2.2.2.2.1 v w) (fun _ m z => ?_)
      obtain ⟨z1, z2, g⟩ := z.2 hn
      have o := am_rul_or q.1
      have a3 := c.2.2.1
      refine ⟨z1, ⟨r, C, r2, q.cells (fun b hb => g b (by omega) (by omega) (by omega)), h1, h2, by rw [g 0 (by omega) (by omega) (by omega)]; exact h3, c.gen (c.1.keptT (g 1 (by omega) (by omega) (by omega)) (g 2 (by omega) (by omega) (by omega))) (a3.keptU (fun x _ _ => g x (by omega) (by omega) (by omega))) (c.2.2.2.1.keptK (g 63 (by omega) (by omega) (by omega)) (g 64 (by omega) (by omega) (by omega)) (fun b _ _ => g b (by omega) (by omega) (by omega))) z2 (c.2.2.2.2.2.1.keptS (g 68 (by omega) (by omega) (by omega)) (g 69 (by omega) (by omega) (by omega)) (g 70 (by omega) (by omega) (by omega))) (fun b hb => g b (by omega) (by omega) (by omega))⟩, fun b hb => g b (by omega) (by omega) (by omega)⟩
    · obtain ⟨q, a1, a2, a3, a4, a5, a6, a7⟩ := c
      refine am_Sm_mono (m_lookC (d := 199) a5 v w) (fun _ m z => ?_)
      obtain ⟨z1, z2, f⟩ := z.2 hn
      exact ⟨z1, ⟨q.kf f rfl rfl rfl rfl rfl (fun _ => rfl) (fun _ => rfl) (fun _ => rfl) (fun _ => rfl) (fun _ => rfl) (fun _ => rfl), a1.kf f rfl (fun _ => rfl), a2.kf f rfl (fun _ => rfl), a3.kf f rfl (fun _ => rfl), a4.kf f rfl (fun _ => rfl) (fun _ => rfl) (fun _ => rfl), z2, a6.kf f rfl (fun _ => rfl) (fun _ => rfl), (f 95 19 rfl).trans a7⟩, fun b hb => funext (fun k => f b k (sLk_lo hb))⟩
  · have hn2 : ¬ (0 ≤ v ∧ v ≤ 9 ∧ 0 ≤ w ∧ w ≤ 1) ∨ L.length = 12 := by omega
    refine ⟨-1, T, R, X, sn, sg, h, e, NB, U, K, L, Y, by omega, pu, fun mem c => ?_, fun mem c => ?_⟩
    · have hc := c
      obtain ⟨r, C, r2, q, h1, h2, h3, c1⟩ := c
      exact am_Sm_mono (c_look (d := 199) c1.2.2.2.2.1 v w) (fun _ m z => by obtain ⟨z1, rfl⟩ := z.1 hn2; exact ⟨z1, hc, fun _ _ => rfl⟩)
    · exact am_Sm_mono (m_lookC (d := 199) c.2.2.2.2.2.1 v w) (fun _ m z => ⟨(z.1 hn2).1, c.scr (z.1 hn2).2, fun b hb => s9_lo (z.1 hn2).2 hb⟩)
theorem p_forget : PI l G yX8_forget mt_X8_forget yX9_forget mt_X9_forget [] := by
  refine PI_g (fun T R X sn sg h e NB U K L Y pu eo ho hT8 hTb hN9 => ?_)
  refine ⟨(L.length : Int), T, R, X, sn, sg, h, e, NB, U, K, [], Y, by omega, ⟨fun i hi => absurd hi (Nat.not_lt_zero i), pu.2⟩, fun mem c => ?_, fun mem c => ?_⟩
  · obtain ⟨r, C, r2, q, h1, h2, h3, c⟩ := c
    refine am_Sm_mono (c_forget (d := 200) c.2.2.2.2.1) (fun _ m z => ?_)
    obtain ⟨z1, z2, g⟩ := z
    have o := am_rul_or q.1
    have a3 := c.2.2.1
    refine ⟨z1, ⟨r, C, r2, q.cells (fun b hb => g b (by omega)), h1, h2, by rw [g 0 (by omega)]; exact h3, c.gen (c.1.keptT (g 1 (by omega)) (g 2 (by omega))) (a3.keptU (fun x _ _ => g x (by omega))) (c.2.2.2.1.keptK (g 63 (by omega)) (g 64 (by omega)) (fun b _ _ => g b (by omega))) z2 (c.2.2.2.2.2.1.keptS (g 68 (by omega)) (g 69 (by omega)) (g 70 (by omega))) (fun b hb => g b (by omega))⟩, fun b hb => g b (by omega)⟩
  · obtain ⟨q, a1, a2, a3, a4, a5, a6, a7⟩ := c
    refine am_Sm_mono (m_forget (d := 200) a5) (fun _ m z => ?_)
    obtain ⟨z1, z2, f⟩ := z
    exact ⟨z1, ⟨q.kf f rfl rfl rfl rfl rfl (fun _ => rfl) (fun _ => rfl) (fun _ => rfl) (fun _ => rfl) (fun _ => rfl) (fun _ => rfl), a1.kf f rfl (fun _ => rfl), a2.kf f rfl (fun _ => rfl), a3.kf f rfl (fun _ => rfl), a4.kf f rfl (fun _ => rfl) (fun _ => rfl) (fun _ => rfl), z2, a6.kf f rfl (fun _ => rfl) (fun _ => rfl), (f 95 19 rfl).trans a7⟩, fun b hb => funext (fun k => f b k (sLk_lo hb))⟩
theorem p_told (w v : Int) : PI l G yX8_told mt_X8_told yX9_told mt_X9_told [.inl w, .inl v] := by
  refine PI_g (fun T R X sn sg h e NB U K L Y pu eo ho hT8 hTb hN9 => ?_)
  by_cases hn : toldOK w v ∧ Y.length ≠ 12
  · refine ⟨((Y.length + 1 : Nat) : Int), T, R, X, sn, sg, h, e, NB, U, K, L, Y ++ [(w, v)], by omega, ⟨pu.1, fun i hi => ?_, pu.2.2⟩, fun mem c => ?_, fun mem c => ?_⟩
    · rw [gd_ap3 hi]
      by_cases hl : i < Y.length
      · rw [if_pos hl]; exact pu.2.1 i hl
      · rw [if_neg hl]
        have ht := hn.1
        unfold toldOK at ht
        show 0 ≤ w ∧ w ≤ 4
        omega
    · obtain ⟨r, C, r2, q, h1, h2, h3, c⟩ := c
      refine am_Sm_mono (c_told (d := 199) c.2.2.2.2.2.1 w v) (fun _ m z => ?_)
      obtain ⟨z1, z2, g⟩ := z.2 hn
      have o := am_rul_or q.1
      have a3 := c.2.2.1
      refine ⟨z1, ⟨r, C, r2, q.cells (fun b hb => g b (by omega) (by omega) (by omega)), h1, h2, by rw [g 0 (by omega) (by omega) (by omega)]; exact h3, c.gen (c.1.keptT (g 1 (by omega) (by omega) (by omega)) (g 2 (by omega) (by omega) (by omega))) (a3.keptU (fun x _ _ => g x (by omega) (by omega) (by omega))) (c.2.2.2.1.keptK (g 63 (by omega) (by omega) (by omega)) (g 64 (by omega) (by omega) (by omega)) (fun b _ _ => g b (by omega) (by omega) (by omega))) (c.2.2.2.2.1.keptS (g 65 (by omega) (by omega) (by omega)) (g 66 (by omega) (by omega) (by omega)) (g 67 (by omega) (by omega) (by omega))) z2 (fun b hb => g b (by omega) (by omega) (by omega))⟩, fun b hb => g b (by omega) (by omega) (by omega)⟩
    · obtain ⟨q, a1, a2, a3, a4, a5, a6, a7⟩ := c
      refine am_Sm_mono (m_toldC (d := 199) a6 w v) (fun _ m z => ?_)
      obtain ⟨z1, z2, f⟩ := z.2 hn
      exact ⟨z1, ⟨q.kf f rfl rfl rfl rfl rfl (fun _ => rfl) (fun _ => rfl) (fun _ => rfl) (fun _ => rfl) (fun _ => rfl) (fun _ => rfl), a1.kf f rfl (fun _ => rfl), a2.kf f rfl (fun _ => rfl), a3.kf f rfl (fun _ => rfl), a4.kf f rfl (fun _ => rfl) (fun _ => rfl) (fun _ => rfl), a5.kf f rfl rfl (fun _ => rfl), z2, (f 95 19 rfl).trans a7⟩, fun b hb => funext (fun k => f b k (sTd_lo hb))⟩
  · have hn2 : ¬ toldOK w v ∨ Y.length = 12 := by
      by_cases ht : toldOK w v
      · exact Or.inr (Classical.byContradiction (fun z => hn ⟨ht, z⟩))
      · exact Or.inl ht
    refine ⟨-1, T, R, X, sn, sg, h, e, NB, U, K, L, Y, by omega, pu, fun mem c => ?_, fun mem c => ?_⟩
    · have hc := c
      obtain ⟨r, C, r2, q, h1, h2, h3, c1⟩ := c
      exact am_Sm_mono (c_told (d := 199) c1.2.2.2.2.2.1 w v) (fun _ m z => by obtain ⟨z1, rfl⟩ := z.1 hn2; exact ⟨z1, hc, fun _ _ => rfl⟩)
    · exact am_Sm_mono (m_toldC (d := 199) c.2.2.2.2.2.2.1 w v) (fun _ m z => ⟨(z.1 hn2).1, c.scr (z.1 hn2).2, fun b hb => s9_lo (z.1 hn2).2 hb⟩)
theorem p_deny : PI l G yX8_deny mt_X8_deny yX9_deny mt_X9_deny [] := by
  refine PI_g (fun T R X sn sg h e NB U K L Y pu eo ho hT8 hTb hN9 => ?_)
  refine ⟨(Y.length : Int), T, R, X, sn, sg, h, e, NB, U, K, L, [], by omega, ⟨pu.1, fun i hi => absurd hi (Nat.not_lt_zero i), pu.2.2⟩, fun mem c => ?_, fun mem c => ?_⟩
  · obtain ⟨r, C, r2, q, h1, h2, h3, c⟩ := c
    refine am_Sm_mono (c_deny (d := 200) c.2.2.2.2.2.1) (fun _ m z => ?_)
    obtain ⟨z1, z2, g⟩ := z
    have o := am_rul_or q.1
    have a3 := c.2.2.1
    refine ⟨z1, ⟨r, C, r2, q.cells (fun b hb => g b (by omega)), h1, h2, by rw [g 0 (by omega)]; exact h3, c.gen (c.1.keptT (g 1 (by omega)) (g 2 (by omega))) (a3.keptU (fun x _ _ => g x (by omega))) (c.2.2.2.1.keptK (g 63 (by omega)) (g 64 (by omega)) (fun b _ _ => g b (by omega))) (c.2.2.2.2.1.keptS (g 65 (by omega)) (g 66 (by omega)) (g 67 (by omega))) z2 (fun b hb => g b (by omega))⟩, fun b hb => g b (by omega)⟩
  · obtain ⟨q, a1, a2, a3, a4, a5, a6, a7⟩ := c
    refine am_Sm_mono (m_deny (d := 200) a6) (fun _ m z => ?_)
    obtain ⟨z1, z2, f⟩ := z
    exact ⟨z1, ⟨q.kf f rfl rfl rfl rfl rfl (fun _ => rfl) (fun _ => rfl) (fun _ => rfl) (fun _ => rfl) (fun _ => rfl) (fun _ => rfl), a1.kf f rfl (fun _ => rfl), a2.kf f rfl (fun _ => rfl), a3.kf f rfl (fun _ => rfl), a4.kf f rfl (fun _ => rfl) (fun _ => rfl) (fun _ => rfl), a5.kf f rfl rfl (fun _ => rfl), z2, (f 95 19 rfl).trans a7⟩, fun b hb => funext (fun k => f b k (sTd_lo hb))⟩
theorem p_keep (i : Int) : PI l G yX8_keep mt_X8_keep yX9_keep mt_X9_keep [.inl i] := by
  refine PI_g (fun T R X sn sg h e NB U K L Y pu eo ho hT8 hTb hN9 => ?_)
  by_cases hn : 0 ≤ i ∧ i < 2
  · refine ⟨1, T, R, X, sn, sg, h, e, NB, U, keepK K i.toNat e, L, Y, by omega, ⟨pu.1, pu.2.1, pu.2.2.1, fun j hj e2 he => ?_⟩, fun mem c => ?_, fun mem c => ?_⟩
    · unfold keepK at he
      by_cases hj2 : j = i.toNat
      · rw [if_pos hj2] at he; rw [← Option.some.inj he]; exact eo
      · rw [if_neg hj2] at he; exact pu.2.2.2 j hj e2 he
    · obtain ⟨r, C, r2, q, h1, h2, h3, c⟩ := c
      refine am_Sm_mono (c_keep (d := 199) q c.2.2.2.1 i) (fun _ m z => ?_)
      obtain ⟨z1, z2, g⟩ := z.2 hn
      have o := am_rul_or q.1
      have a3 := c.2.2.1
      refine ⟨z1, ⟨r, C, r2, q.cells (fun b hb => g b (by omega) (by omega)), h1, h2, by rw [g 0 (by omega) (by omega)]; exact h3, c.gen (c.1.keptT (g 1 (by omega) (by omega)) (g 2 (by omega) (by omega))) (a3.keptU (fun x _ _ => g x (by omega) (by omega))) z2 (c.2.2.2.2.1.keptS (g 65 (by omega) (by omega)) (g 66 (by omega) (by omega)) (g 67 (by omega) (by omega))) (c.2.2.2.2.2.1.keptS (g 68 (by omega) (by omega)) (g 69 (by omega) (by omega)) (g 70 (by omega) (by omega))) (fun b hb => g b (by omega) (by omega))⟩, fun b hb => g b (by omega) (by omega)⟩
    · refine am_Sm_mono (m_keep (d := 199) c.1 c.2.2.2.2.1 i) (fun _ m z => ?_)
      obtain ⟨z1, z2, g⟩ := z.2 hn
      obtain ⟨q, a1, a2, a3, a4, a5, a6, a7⟩ := c
      have f : frS sKp mem m := fun b k hb => by
        unfold sKp at hb
        simp at hb
        rw [g b (by omega) (by omega) (by omega)]
        exact frS.up (s := fun b k => b == 95 && k == 11) frS.rf rfl b k (by simp; omega)
      exact ⟨z1, ⟨q.kf f rfl rfl rfl rfl rfl (fun _ => rfl) (fun _ => rfl) (fun _ => rfl) (fun _ => rfl) (fun _ => rfl) (fun _ => rfl), a1.kf f rfl (fun _ => rfl), a2.kf f rfl (fun _ => rfl), a3.kf f rfl (fun _ => rfl), z2, a5.kf f rfl rfl (fun _ => rfl), a6.kf f rfl (fun _ => rfl) (fun _ => rfl), (f 95 19 rfl).trans a7⟩, fun b hb => by rw [g b (by omega) (by omega) (by omega), am_up_ne (by omega)]⟩
  · refine ⟨0, T, R, X, sn, sg, h, e, NB, U, K, L, Y, by omega, pu, fun mem c => ?_, fun mem c => ?_⟩
    · have hc := c
      obtain ⟨r, C, r2, q, h1, h2, h3, c1⟩ := c
      exact am_Sm_mono (c_keep (d := 199) q c1.2.2.2.1 i) (fun _ m z => by obtain ⟨z1, rfl⟩ := z.1 hn; exact ⟨z1, hc, fun _ _ => rfl⟩)
    · exact am_Sm_mono (m_keep (d := 199) c.1 c.2.2.2.2.1 i) (fun _ m z => by obtain ⟨z1, rfl⟩ := z.1 hn; exact ⟨z1, c.scr (frS.rf.up rfl), fun b hb => am_up_ne (by omega)⟩)
end PA3
