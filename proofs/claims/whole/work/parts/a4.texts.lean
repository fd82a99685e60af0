/-! pairs: texts -/
theorem s9s_lo {b k : Nat} (hb : b < 95) : s9s b k = false := by
  rw [Bool.eq_false_iff]
  intro z
  unfold s9s s9 at z
  simp [Nat.ble_eq] at z
  omega
theorem s9h_lo {b k : Nat} (hb : b < 95) : s9h b k = false := by
  rw [Bool.eq_false_iff]
  intro z
  unfold s9h s9 at z
  simp [Nat.ble_eq] at z
  omega
theorem s8s_no {b k : Nat} (hb : b = 0 ∧ k = 18 ∨ b = 2 ∨ b = 3 ∨ b = 4 ∨ b = 11 ∨ b = 12 ∨ b = 7 ∨ b = 8 ∨ b = 9 ∨ (16 ≤ b ∧ b ≤ 18) ∨ (25 ≤ b ∧ b ≤ 70) ∨ b = 72 ∨ b = 84 ∨ b = 85 ∨ 89 ≤ b) : s8s b k = false := by
  rw [Bool.eq_false_iff]
  intro z
  unfold s8s s8 at z
  simp [Nat.ble_eq] at z
  omega
theorem s8h_no {b k : Nat} (hb : b < 5 ∨ (10 ≤ b ∧ b ≤ 15) ∨ 19 ≤ b) : s8h b k = false := by
  rw [Bool.eq_false_iff]
  intro z
  unfold s8h at z
  simp [Nat.ble_eq] at z
  omega
theorem CC.song {T : List Nat} {R : List Int} {X : List Nat} {sn : Nat} {sg : Nat → Nat} {h : hrs} {e : est} {NB : Nat} {U : List est} {K : Nat → Option est} {L Y : List (Int × Int)} {mem m : am_M} {sn2 : Nat} {sg2 : Nat → Nat} (c : CC T R X sn sg h e NB U K L Y mem) (hs : c_song sn2 sg2 m) (h1 : m 1 1 = 0) (f : frS s8s mem m) : CC [] R X sn2 sg2 h e NB U K L Y m := by
  obtain ⟨r, C, r2, q, h1r, h2, h3, c⟩ := c
  have o := am_rul_or q.1
  have a3 := c.2.2.1
  have g : ∀ b, (b = 2 ∨ b = 3 ∨ b = 4 ∨ b = 11 ∨ b = 12 ∨ b = 7 ∨ b = 8 ∨ b = 9 ∨ (16 ≤ b ∧ b ≤ 18) ∨ (25 ≤ b ∧ b ≤ 70) ∨ b = 72 ∨ b = 84 ∨ b = 85 ∨ 89 ≤ b) → m b = mem b := fun b hb => funext (fun k => f b k (s8s_no (by omega)))
  obtain ⟨q1, q2, q3, q4, q5, q6, q7, q8⟩ := q
  refine ⟨r, C, r2, ⟨q1, (f 5 7 rfl).trans q2, q3, ⟨by rw [g r (by omega)]; exact q4.1, fun i hi => by rw [g (r + 1) (by omega)]; exact q4.2.1 i hi, q4.2.2⟩, hs, ⟨q6.1, (f 5 6 rfl).trans q6.2.1, fun i hi => by rw [g 7 (by omega), g 8 (by omega), g 9 (by omega)]; exact q6.2.2 i hi⟩, q7.kept (g 16 (by omega)) (g 17 (by omega)) (g 18 (by omega)), q8⟩, h1r, h2, (f 0 18 rfl).trans h3, c.gen (c_text_nil h1) (a3.keptU (fun x _ _ => g x (by omega))) (c.2.2.2.1.keptK (g 63 (by omega)) (g 64 (by omega)) (fun b _ _ => g b (by omega))) (c.2.2.2.2.1.keptS (g 65 (by omega)) (g 66 (by omega)) (g 67 (by omega))) (c.2.2.2.2.2.1.keptS (g 68 (by omega)) (g 69 (by omega)) (g 70 (by omega))) (fun b hb => g b (by omega))⟩
theorem DD.song {T : List Nat} {R : List Int} {X : List Nat} {sn : Nat} {sg : Nat → Nat} {h : hrs} {e : est} {NB : Nat} {U : List est} {K : Nat → Option est} {L Y : List (Int × Int)} {mem m : am_M} {sn2 : Nat} {sg2 : Nat → Nat} (c : DD T R X sn sg h e NB U K L Y mem) (hs : m_song sn2 sg2 m) (h1 : m 95 8 = 0) (f : frS s9s mem m) : DD [] R X sn2 sg2 h e NB U K L Y m := by
  obtain ⟨⟨q1, q2, q3, q4, q5, q6, q7⟩, a1, a2, a3, a4, a5, a6, a7⟩ := c
  exact ⟨⟨q1, ⟨q2.1, (f 95 18 rfl).trans q2.2.1, (f 95 20 rfl).trans q2.2.2.1, fun j hj => (f 104 j rfl).trans (q2.2.2.2 j hj)⟩, (f 95 21 rfl).trans q3, hs, ⟨q5.1, (f 95 1 rfl).trans q5.2.1, fun i hi => by rw [f 97 i rfl, f 98 i rfl, f 99 i rfl]; exact q5.2.2 i hi⟩, q6.kept (funext (fun k => f 96 k rfl)), q7⟩, m_text_nil h1, a2.kf f rfl (fun _ => rfl), a3.kf f rfl (fun _ => rfl), a4.kf f rfl (fun _ => rfl) (fun _ => rfl) (fun _ => rfl), a5.kf f rfl rfl (fun _ => rfl), a6.kf f rfl (fun _ => rfl) (fun _ => rfl), (f 95 19 rfl).trans a7⟩
section PA4
variable {l : Launch} {G : am_G}
theorem p_songs : PI l G yX8_songs mt_X8_songs yX9_songs mt_X9_songs [] := by
  refine PI_g (fun T R X sn sg h e NB U K L Y pu eo ho hT8 hTb hN9 => ?_)
  rcases sg_tot T with hn | ⟨p, hn⟩
  · refine ⟨(T.length : Int), [], R, X, T.length, sgF T, h, e, NB, U, K, L, Y, by omega, pu, fun mem c => ?_, fun mem c => ?_⟩
    · have hc := c
      obtain ⟨r, C, r2, q, h1, h2, h3, c1⟩ := c
      refine am_Sm_mono (c_songs (d := 197) c1.1) (fun _ m z => ?_)
      obtain ⟨z1, z2, z3⟩ := z
      rcases z1 with ⟨-, y2, y3⟩ | ⟨p, y1, -⟩
      · exact ⟨y2, hc.song y3 z2 z3, fun b hb => funext (fun k => z3 b k (s8s_no (by omega)))⟩
      · exact absurd hn (fun z => sgBad_no y1 z)
    · refine am_Sm_mono (m_songs (d := 197) c.2.1) (fun _ m z => ?_)
      obtain ⟨z1, z2, z3⟩ := z
      rcases z1 with ⟨-, y2, y3⟩ | ⟨p, y1, -⟩
      · exact ⟨y2, c.song y3 z2 z3, fun b hb => funext (fun k => z3 b k (s9s_lo hb))⟩
      · exact absurd hn (fun z => sgBad_no y1 z)
  · refine ⟨-1 - (p : Int), [], R, X, sn, sg, h, e, NB, U, K, L, Y, by omega, pu, fun mem c => ?_, fun mem c => ?_⟩
    · have hc := c
      obtain ⟨r, C, r2, q, h1, h2, h3, c1⟩ := c
      refine am_Sm_mono (c_songs (d := 197) c1.1) (fun _ m z => ?_)
      obtain ⟨z1, z2, z3⟩ := z
      rcases z1 with ⟨y1, -⟩ | ⟨p2, y1, y2, y3⟩
      · exact absurd y1 (fun z => sgBad_no hn z)
      · rw [sgBad_un hn y1]
        exact ⟨y2, hc.text0.scr y3, fun b hb => by rw [s8_hi y3 hb, am_up_ne (by omega)]⟩
    · refine am_Sm_mono (m_songs (d := 197) c.2.1) (fun _ m z => ?_)
      obtain ⟨z1, z2, z3⟩ := z
      rcases z1 with ⟨y1, -⟩ | ⟨p2, y1, y2, y3⟩
      · exact absurd y1 (fun z => sgBad_no hn z)
      · rw [sgBad_un hn y1]
        exact ⟨y2, c.text0.scr y3, fun b hb => by rw [s9_lo y3 hb, am_up_ne (by omega)]⟩
theorem p_hearers : PI l G yX8_hearers mt_X8_hearers yX9_hearers mt_X9_hearers [] := by
  refine PI_g (fun T R X sn sg h e NB U K L Y pu eo ho hT8 hTb hN9 => ?_)
  rcases ln_tot T h.1 with hn | ⟨p, hn⟩
  · by_cases h0 : T.length = 0
    · have hk0 : (T.length + 1) / 4 = 0 := by omega
      refine ⟨0, [], R, X, sn, sg, h, e, NB, U, K, L, Y, by omega, pu, fun mem c => ?_, fun mem c => ?_⟩
      · have hc := c
        obtain ⟨r, C, r2, q, h1, h2, h3, c1⟩ := c
        refine am_Sm_mono (c_hearers (d := 194) q c1.1) (fun _ m z => ?_)
        rcases z with ⟨-, y2, m0, y3, y4, y5⟩ | ⟨p, y1, -⟩
        · rw [hk0, if_neg (by omega)] at y5
          rw [hk0] at y2 y3
          subst y5
          have o := am_rul_or q.1
          have g : ∀ b, (b < 5 ∨ (10 ≤ b ∧ b ≤ 15) ∨ 19 ≤ b) → m0 b = mem b := fun b hb => funext (fun k => y4 b k (s8h_no (by omega)))
          have a3 := c1.2.2.1
          have cm : CC T R X sn sg h e NB U K L Y m0 := ⟨r, C, r2, y3, h1, h2, by rw [g 0 (by omega)]; exact h3, c1.gen (c1.1.keptT (g 1 (by omega)) (g 2 (by omega))) (a3.keptU (fun x _ _ => g x (by omega))) (c1.2.2.2.1.keptK (g 63 (by omega)) (g 64 (by omega)) (fun b _ _ => g b (by omega))) (c1.2.2.2.2.1.keptS (g 65 (by omega)) (g 66 (by omega)) (g 67 (by omega))) (c1.2.2.2.2.2.1.keptS (g 68 (by omega)) (g 69 (by omega)) (g 70 (by omega))) (fun b hb => g b (by omega))⟩
          exact ⟨y2, cm.text0, fun b hb => by rw [am_up_ne (by omega), g b (by omega)]⟩
        · exact absurd hn (fun z => lnBad_no y1 z)
      · refine am_Sm_mono (m_hearers (d := 196) c.1 c.2.1 ⟨c.2.2.2.2.1.1, by have := c.2.2.2.2.1.2.1; have := ho.1; omega⟩) (fun _ m z => ?_)
        rcases z with ⟨-, -, y2, y3⟩ | ⟨-, y1, -⟩ | ⟨p, y1, -⟩
        · exact ⟨y2, c.text0.scr y3, fun b hb => by rw [s9_lo y3 hb, am_up_ne (by omega)]⟩
        · exact absurd y1 (by omega)
        · exact absurd hn (fun z => lnBad_no y1 z)
    · have hk1 : 0 < (T.length + 1) / 4 := by have := hn.2.1; omega
      refine ⟨(((T.length + 1) / 4 : Nat) : Int), [], R, X, sn, sg, hNn T h ((T.length + 1) / 4), eNn h.1 e ((T.length + 1) / 4), NB, [], fun _ => none, L, Y, by omega, ⟨pu.1, pu.2.1, fun j hj => absurd hj (Nat.not_lt_zero j), fun i hi e2 he => by cases he⟩, fun mem c => ?_, fun mem c => ?_⟩
      · obtain ⟨r, C, r2, q, h1, h2, h3, c1⟩ := c
        refine am_Sm_mono (c_hearers (d := 194) q c1.1) (fun _ m z => ?_)
        rcases z with ⟨-, y2, m0, y3, y4, y5⟩ | ⟨p, y1, -⟩
        · rw [if_pos hk1] at y5
          have o := am_rul_or q.1
          have g : ∀ b, (b < 5 ∨ (10 ≤ b ∧ b ≤ 15) ∨ 19 ≤ b) → m0 b = mem b := fun b hb => funext (fun k => y4 b k (s8h_no (by omega)))
          have g2 : ∀ b, b ≠ 1 → b ≠ 25 → m b = m0 b := fun b e1 e2 => by rw [y5, am_up_ne e1, am_up_ne e2]
          have g3 : ∀ b, b ≠ 1 → b ≠ 25 → (b < 5 ∨ (10 ≤ b ∧ b ≤ 15) ∨ 19 ≤ b) → m b = mem b := fun b e1 e2 e3 => by rw [g2 b e1 e2, g b e3]
          have a3 := c1.2.2.1
          have u2 : c_undo [] (am_up m0 25 1 0) := c_undo_nil (a3.keptU (fun x _ _ => g x (by omega)))
          refine ⟨y2, ⟨r, C, r2, y3.cells (fun b hb => g2 b (by omega) (by omega)), h1, h2, by rw [g3 0 (by omega) (by omega) (by omega)]; exact h3, c1.gen (c_text_nil (by rw [y5]; rfl)) (u2.keptU (fun x _ _ => by rw [y5, am_up_ne (by omega)])) (fun i hi => ?_) (c1.2.2.2.2.1.keptS (g3 65 (by omega) (by omega) (by omega)) (g3 66 (by omega) (by omega) (by omega)) (g3 67 (by omega) (by omega) (by omega))) (c1.2.2.2.2.2.1.keptS (g3 68 (by omega) (by omega) (by omega)) (g3 69 (by omega) (by omega) (by omega)) (g3 70 (by omega) (by omega) (by omega))) (fun b hb => g3 b (by omega) (by omega) (by omega))⟩, fun b hb => g3 b (by omega) (by omega) (by omega)⟩
          obtain ⟨k1, k2, k3, k4⟩ := c1.2.2.2.1 i hi
          rw [g3 63 (by omega) (by omega) (by omega), g3 64 (by omega) (by omega) (by omega), hNn_1]
          refine ⟨k1, k2, fun _ => ?_, fun e2 he => by cases he⟩
          rcases hKi : K i with _ | e2
          · have := k3 hKi; omega
          · have := (k4 e2 hKi).1; omega
        · exact absurd hn (fun z => lnBad_no y1 z)
      · have m0c := c
        refine am_Sm_mono (m_hearers (d := 196) c.1 c.2.1 ⟨c.2.2.2.2.1.1, by have := c.2.2.2.2.1.2.1; have := ho.1; omega⟩) (fun _ m z => ?_)
        obtain ⟨q, a1, a2, a3, a4, a5, a6, a7⟩ := c
        rcases z with ⟨-, y1, -⟩ | ⟨-, -, y2, y3, y4, y5, y6, f⟩ | ⟨p, y1, -⟩
        · exact absurd y1 h0
        · refine ⟨y2, ⟨y3, m_text_nil y4, a2.kf f rfl (fun _ => rfl), ⟨y5, by decide, fun j hj => absurd hj (Nat.not_lt_zero j)⟩, ⟨by have := a4.1; omega, by have := a4.2.1; rw [hNn_1]; omega, fun i hi => ?_⟩, a5.kf f rfl rfl (fun _ => rfl), a6.kf f rfl (fun _ => rfl) (fun _ => rfl), (f 95 19 rfl).trans a7⟩, fun b hb => funext (fun k => f b k (s9h_lo hb))⟩
          obtain ⟨k1, k2, k3, k4⟩ := a4.2.2 i hi
          rw [f 124 i rfl, f 125 i rfl, y6]
          refine ⟨k1, k2, fun _ => ?_, fun e2 he => by cases he⟩
          rcases hKi : K i with _ | e2
          · have := k3 hKi; omega
          · have := (k4 e2 hKi).2.1; omega
        · exact absurd hn (fun z => lnBad_no y1 z)
  · refine ⟨-1 - (p : Int), [], R, X, sn, sg, h, e, NB, U, K, L, Y, by omega, pu, fun mem c => ?_, fun mem c => ?_⟩
    · have hc := c
      obtain ⟨r, C, r2, q, h1, h2, h3, c1⟩ := c
      refine am_Sm_mono (c_hearers (d := 194) q c1.1) (fun _ m z => ?_)
      rcases z with ⟨y1, -⟩ | ⟨p2, y1, y2, y3⟩
      · exact absurd y1 (fun z => lnBad_no hn z)
      · rw [lnBad_un hn y1, y3]
        exact ⟨y2, hc.text0, fun b hb => am_up_ne (by omega)⟩
    · refine am_Sm_mono (m_hearers (d := 196) c.1 c.2.1 ⟨c.2.2.2.2.1.1, by have := c.2.2.2.2.1.2.1; have := ho.1; omega⟩) (fun _ m z => ?_)
      rcases z with ⟨y1, -⟩ | ⟨y1, -⟩ | ⟨p2, y1, y2, y3⟩
      · exact absurd y1 (fun z => lnBad_no hn z)
      · exact absurd y1 (fun z => lnBad_no hn z)
      · rw [lnBad_un hn y1]
        exact ⟨y2, c.text0.scr y3, fun b hb => by rw [s9_lo y3 hb, am_up_ne (by omega)]⟩
/-- the digits of the spare rule -/
theorem CR.dg {T : List Nat} {R : List Int} {U : List est} {K : Nat → Option est} {L Y : List (Int × Int)} {n : Nat} {mem : am_M} (c : CR T R U K L Y n mem) {r2 : Nat} (h : am_rul r2) : ∃ dg : Nat, dg ≤ 3 ∧ mem r2 8 = (dg : Int) := by
  rcases am_rul_or h with rfl | rfl
  · exact c.2.2.2.2.2.2.2.1
  · exact c.2.2.2.2.2.2.2.2
/-- the spare rule was read into -/
theorem CC.spare {T : List Nat} {R : List Int} {X : List Nat} {sn : Nat} {sg : Nat → Nat} {h : hrs} {e : est} {NB : Nat} {U : List est} {K : Nat → Option est} {L Y : List (Int × Int)} {mem m : am_M} {r r2 : Nat} {C : List Int} (q : CQ r X C sn sg h e NB mem) (h1 : am_rul r2) (h2 : r2 ≠ r) (h3 : mem 0 18 = ((r2 + 1 : Nat) : Int)) (c : CR T R U K L Y h.1 mem) (f : fr_rs r2 mem m) (hd : ∃ d2 : Nat, d2 ≤ 3 ∧ m r2 8 = (d2 : Int)) : CQ r X C sn sg h e NB m ∧ m 0 18 = ((r2 + 1 : Nat) : Int) ∧ CR T R U K L Y h.1 m := by
  have o := am_rul_or q.1
  have o2 := am_rul_or h1
  have a3 := c.2.2.1
  have g : ∀ b, b < 11 ∨ (14 ≤ b ∧ b < 84) ∨ 87 ≤ b → m b = mem b := fun b hb => f b (by omega) (by omega) (by omega)
  refine ⟨q.spare h1 h2 f, by rw [g 0 (by omega)]; exact h3, c.1.keptT (g 1 (by omega)) (g 2 (by omega)), c.2.1.keptC (g 3 (by omega)) (g 4 (by omega)), a3.keptU (fun x _ _ => g x (by omega)), c.2.2.2.1.keptK (g 63 (by omega)) (g 64 (by omega)) (fun b _ _ => g b (by omega)), c.2.2.2.2.1.keptS (g 65 (by omega)) (g 66 (by omega)) (g 67 (by omega)), c.2.2.2.2.2.1.keptS (g 68 (by omega)) (g 69 (by omega)) (g 70 (by omega)), fun i hi => by rw [g 72 (by omega)]; exact c.2.2.2.2.2.2.1 i hi, ?_, ?_⟩
  · rcases o2 with rfl | rfl
    · exact hd
    · rw [f 11 (by omega) (by omega) (by omega)]; exact c.2.2.2.2.2.2.2.1
  · rcases o2 with rfl | rfl
    · rw [f 84 (by omega) (by omega) (by omega)]; exact c.2.2.2.2.2.2.2.2
    · exact hd
def sRl (b k : Nat) : Bool := s9 b k || b == 104 || (b == 95 && (k == 20 || k == 8))
theorem sRl_lo {b k : Nat} (hb : b < 95) : sRl b k = false := by
  rw [Bool.eq_false_iff]
  intro z
  unfold sRl s9 at z
  simp [Nat.ble_eq] at z
  omega
theorem p_rule : PI l G yX8_rule mt_X8_rule yX9_rule mt_X9_rule [] := by
  refine PI_g (fun T R X sn sg h e NB U K L Y pu eo ho hT8 hTb hN9 => ?_)
  by_cases hn : rlV T = -1
  · refine ⟨0, [], R, T, sn, sg, h, e, NB, U, K, L, Y, by omega, pu, fun mem c => ?_, fun mem c => ?_⟩
    · obtain ⟨r, C, r2, q, h1, h2, h3, c1⟩ := c
      obtain ⟨dg, d1, d2⟩ := c1.dg h1
      refine am_Sm_mono (c_rule (d := 194) q c1.1 h1 h3 d1 d2) (fun _ m z => ?_)
      obtain ⟨m0, f, hd, z⟩ := z
      obtain ⟨q0, h30, c0⟩ := CC.spare q h1 h2 h3 c1 f hd
      have o := am_rul_or q.1
      have o2 := am_rul_or h1
      rcases z with ⟨y1, -⟩ | ⟨-, y2, ⟨C2, y3, y4⟩, y5⟩
      · exact absurd hn y1
      · have g : ∀ b, b ≠ 0 → b ≠ 1 → b ≠ 5 → m b = m0 b := fun b e0 e1 e5 => by rw [y5, am_up_ne e0, am_up_ne e5, am_up_ne e1]
        have g5 : ∀ k, k ≠ 7 → m 5 k = m0 5 k := fun k hk => by
          rw [y5, am_up_ne (by omega), am_up_eq]
          show (if k = 7 then _ else am_up m0 1 1 0 5 k) = _
          rw [if_neg hk, am_up_ne (by omega)]
        obtain ⟨q1, q2, q3, q4, q5, q6, q7, q8⟩ := q0
        have a3 := c0.2.2.1
        refine ⟨y2, ⟨r2, C2, r, ⟨h1, by rw [y5]; rfl, y4, ⟨by rw [g r2 (by omega) (by omega) (by omega)]; exact y3.1, fun i hi => by rw [g (r2 + 1) (by omega) (by omega) (by omega)]; exact y3.2.1 i hi, y3.2.2⟩, ⟨by rw [g5 5 (by omega)]; exact q5.1, q5.2.1, q5.2.2.1, q5.2.2.2.1, fun i hi => by rw [g 6 (by omega) (by omega) (by omega)]; exact q5.2.2.2.2 i hi⟩, ⟨q6.1, by rw [g5 6 (by omega)]; exact q6.2.1, fun i hi => by rw [g 7 (by omega) (by omega) (by omega), g 8 (by omega) (by omega) (by omega), g 9 (by omega) (by omega) (by omega)]; exact q6.2.2 i hi⟩, q7.kept (g 16 (by omega) (by omega) (by omega)) (g 17 (by omega) (by omega) (by omega)) (g 18 (by omega) (by omega) (by omega)), q8⟩, q.1, fun z => h2 z.symm, by rw [y5]; rfl, c0.gen (c_text_nil (by rw [y5]; rfl)) (a3.keptU (fun x _ _ => g x (by omega) (by omega) (by omega))) (c0.2.2.2.1.keptK (g 63 (by omega) (by omega) (by omega)) (g 64 (by omega) (by omega) (by omega)) (fun b _ _ => g b (by omega) (by omega) (by omega))) (c0.2.2.2.2.1.keptS (g 65 (by omega) (by omega) (by omega)) (g 66 (by omega) (by omega) (by omega)) (g 67 (by omega) (by omega) (by omega))) (c0.2.2.2.2.2.1.keptS (g 68 (by omega) (by omega) (by omega)) (g 69 (by omega) (by omega) (by omega)) (g 70 (by omega) (by omega) (by omega))) (fun b hb => g b (by omega) (by omega) (by omega))⟩, fun b hb => by rw [g b (by omega) (by omega) (by omega), f b (by omega) (by omega) (by omega)]⟩
    · refine am_Sm_mono (m_rule (d := 23) c.1 c.2.1) (fun _ m z => ?_)
      obtain ⟨q, a1, a2, a3, a4, a5, a6, a7⟩ := c
      rcases z with ⟨y1, -⟩ | ⟨-, y2, y3, y4⟩
      · exact absurd hn y1
      · have f : frS sRl mem m := fun b k hb => by
          unfold sRl at hb
          simp at hb
          rw [y4 b k hb.1.2 (by omega) hb.1.1]
          exact frS.up (s := fun b k => b == 95 && k == 8) frS.rf rfl b k (by simp; omega)
        exact ⟨y2, ⟨y3, m_text_nil (y4 95 8 (by decide) (by decide) rfl), a2.kf f rfl (fun _ => rfl), a3.kf f rfl (fun _ => rfl), a4.kf f rfl (fun _ => rfl) (fun _ => rfl) (fun _ => rfl), a5.kf f rfl rfl (fun _ => rfl), a6.kf f rfl (fun _ => rfl) (fun _ => rfl), (f 95 19 rfl).trans a7⟩, fun b hb => funext (fun k => f b k (sRl_lo hb))⟩
  · refine ⟨-1 - rlV T, [], R, X, sn, sg, h, e, NB, U, K, L, Y, by omega, pu, fun mem c => ?_, fun mem c => ?_⟩
    · obtain ⟨r, C, r2, q, h1, h2, h3, c1⟩ := c
      obtain ⟨dg, d1, d2⟩ := c1.dg h1
      have o2 := am_rul_or h1
      refine am_Sm_mono (c_rule (d := 194) q c1.1 h1 h3 d1 d2) (fun _ m z => ?_)
      obtain ⟨m0, f, hd, z⟩ := z
      obtain ⟨q0, h30, c0⟩ := CC.spare q h1 h2 h3 c1 f hd
      rcases z with ⟨-, y2, y3⟩ | ⟨y1, -⟩
      · rw [y3]
        exact ⟨y2, CC.text0 ⟨r, C, r2, q0, h1, h2, h30, c0⟩, fun b hb => by rw [am_up_ne (by omega), f b (by omega) (by omega) (by omega)]⟩
      · exact absurd y1 hn
    · refine am_Sm_mono (m_rule (d := 23) c.1 c.2.1) (fun _ m z => ?_)
      rcases z with ⟨-, y2, y3⟩ | ⟨y1, -⟩
      · exact ⟨y2, c.text0.scr y3, fun b hb => by rw [s9_lo y3 hb, am_up_ne (by omega)]⟩
      · exact absurd y1 hn
theorem p_law : PI l G yX8_law mt_X8_law yX9_law mt_X9_law [] := by
  refine PI_g (fun T R X sn sg h e NB U K L Y pu eo ho hT8 hTb hN9 => ?_)
  by_cases hn : rlV T = -1
  · refine ⟨(eB (itE T h sn sg e 20) : Int) - (eB (itE X h sn sg e 20) : Int), [], [(eB (itE T h sn sg e 20) : Int), (eB (itE X h sn sg e 20) : Int)], X, sn, sg, h, e, NB, U, K, L, Y, by omega, pu, fun mem c => ?_, fun mem c => ?_⟩
    · obtain ⟨r, C, r2, q, h1, h2, h3, c1⟩ := c
      obtain ⟨dg, d1, d2⟩ := c1.dg h1
      have o2 := am_rul_or h1
      refine am_Sm_mono (c_law (d := 193) q c1.1 h1 h2 h3 d1 d2) (fun _ m z => ?_)
      obtain ⟨m0, f, hd, z⟩ := z
      obtain ⟨q0, h30, c0⟩ := CC.spare q h1 h2 h3 c1 f hd
      rcases z with ⟨y1, -⟩ | ⟨-, y2, y3, y4⟩
      · exact absurd hn y1
      · exact ⟨y2, CC.ask (CC.text0 ⟨r, C, r2, q0, h1, h2, h30, c0⟩) y3 y4, fun b hb => by rw [s8a_cell y4.a8 (by omega), am_up_ne (by omega), f b (by omega) (by omega) (by omega)]⟩
    · refine am_Sm_mono (m_law (d := 19) c.1 c.2.1 c.2.2.2.2.2.2.2) (fun _ m z => ?_)
      rcases z with ⟨y1, -⟩ | ⟨-, y2, y3, y4⟩
      · exact absurd hn y1
      · exact ⟨y2, c.text0.ask y3 y4, fun b hb => by rw [s9a_cell y4.a9 (by omega), am_up_ne (by omega)]⟩
  · refine ⟨-10000 - rlV T, [], R, X, sn, sg, h, e, NB, U, K, L, Y, by omega, pu, fun mem c => ?_, fun mem c => ?_⟩
    · obtain ⟨r, C, r2, q, h1, h2, h3, c1⟩ := c
      obtain ⟨dg, d1, d2⟩ := c1.dg h1
      have o2 := am_rul_or h1
      refine am_Sm_mono (c_law (d := 193) q c1.1 h1 h2 h3 d1 d2) (fun _ m z => ?_)
      obtain ⟨m0, f, hd, z⟩ := z
      obtain ⟨q0, h30, c0⟩ := CC.spare q h1 h2 h3 c1 f hd
      rcases z with ⟨-, y2, y3⟩ | ⟨y1, -⟩
      · rw [y3]
        exact ⟨y2, CC.text0 ⟨r, C, r2, q0, h1, h2, h30, c0⟩, fun b hb => by rw [am_up_ne (by omega), f b (by omega) (by omega) (by omega)]⟩
      · exact absurd y1 hn
    · refine am_Sm_mono (m_law (d := 19) c.1 c.2.1 c.2.2.2.2.2.2.2) (fun _ m z => ?_)
      rcases z with ⟨-, y2, y3⟩ | ⟨y1, -⟩
      · exact ⟨y2, c.text0.scr y3, fun b hb => by rw [s9_lo y3 hb, am_up_ne (by omega)]⟩
      · exact absurd y1 hn
theorem p_spring : PI l G yX8_spring mt_X8_spring yX9_spring mt_X9_spring [] := by
  refine PI_g (fun T R X sn sg h e NB U K L Y pu eo ho hT8 hTb hN9 => ?_)
  by_cases hn : spF T 61 0 = -1
  · obtain ⟨n, hs⟩ := spF_ok (T := T) 61 0 (Nat.zero_le _) (by show min T.length 60 - 0 < 61; omega) (fun j hj => absurd hj (Nat.not_lt_zero j)) hn
    obtain ⟨k, hk⟩ := exD_ex X h sn sg T e n
    have hk2 := saP_2 hs n (Nat.le_refl _)
    have hk3 := hs.1
    have hk4 := hs.2.1
    have hk5 := hk.1
    refine ⟨(k : Int), [], [if k < n then 1 else 0, (eM (exE X h sn sg T e k) : Int)], X, sn, sg, h, exE X h sn sg T e k, NB + 9 * k, if 0 < k then pushU U e else U, K, L, Y, by omega, ⟨pu.1, pu.2.1, ifU_ok (pu.up (NB2 := NB + 9 * k) (by omega)).2.2.1 (eo.up (by omega)), (pu.up (NB2 := NB + 9 * k) (by omega)).2.2.2⟩, fun mem c => ?_, fun mem c => ?_⟩
    · have hc := c
      obtain ⟨r, C, r2, q, h1, h2, h3, c1⟩ := c
      refine am_Sm_mono (c_spring (d := 192) q c1.2.2.1 c1.1 (by omega)) (fun _ m z => ?_)
      obtain ⟨z1, z2, z3, z4, z5⟩ := z.2 hn n k hs hk
      exact ⟨z1, hc.text0.act z2 (exE_ok eo hs k hk5) (by omega) z3 z4 z5, fun b hb => by rw [s8a_cell z5 (by omega), am_up_ne (by omega)]⟩
    · refine am_Sm_mono (m_spring (d := 19) c.1 c.2.2.2.1 c.2.1 (by omega)) (fun _ m z => ?_)
      obtain ⟨z1, z2, z3, z4, z5⟩ := z.2 hn n k hs hk
      exact ⟨z1, c.text0.act z2 (exE_ok eo hs k hk5) (by omega) z3 z4 z5, fun b hb => by rw [s9a_cell z5 (by omega), am_up_ne (by omega)]⟩
  · refine ⟨-1 - spF T 61 0, [], R, X, sn, sg, h, e, NB, U, K, L, Y, by omega, pu, fun mem c => ?_, fun mem c => ?_⟩
    · have hc := c
      obtain ⟨r, C, r2, q, h1, h2, h3, c1⟩ := c
      refine am_Sm_mono (c_spring (d := 192) q c1.2.2.1 c1.1 (by omega)) (fun _ m z => ?_)
      obtain ⟨z1, z2⟩ := z.1 hn
      rw [z2]
      exact ⟨z1, hc.text0, fun b hb => am_up_ne (by omega)⟩
    · refine am_Sm_mono (m_spring (d := 19) c.1 c.2.2.2.1 c.2.1 (by omega)) (fun _ m z => ?_)
      obtain ⟨z1, z2⟩ := z.1 hn
      exact ⟨z1, c.text0.scr z2, fun b hb => by rw [s9_lo z2 hb, am_up_ne (by omega)]⟩
end PA4
