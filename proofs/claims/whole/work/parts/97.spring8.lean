/-! spring: what acts do; the class's reading and acts -/
def dgB (c : Int) : Nat := if c = 104 then 2 else if c = 110 ∨ c = 99 ∨ c = 115 ∨ c = 98 ∨ c = 97 then 1 else 0
def lsB (c : Int) : Int := if c = 115 ∨ c = 98 ∨ c = 97 then 1 else 0
def wfA (T : List Nat) (s : Nat) : Int := if dgB (T.getD s 0) = 0 then (s : Int) else if ¬ (s + 1 < min T.length 60 ∧ lsB (T.getD s 0) ≤ txDg T ((s + 1 : Nat) : Int)) then ((s + 1 : Nat) : Int) else if dgB (T.getD s 0) = 2 ∧ ¬ (s + 2 < min T.length 60 ∧ 0 ≤ txDg T ((s + 2 : Nat) : Int)) then ((s + 2 : Nat) : Int) else -1
def nxA (T : List Nat) (s : Nat) : Nat := s + 1 + dgB (T.getD s 0)
def spF (T : List Nat) : Nat → Nat → Int
  | 0, _ => -1
  | f + 1, s => if min T.length 60 ≤ s then (if 60 < T.length then 60 else -1) else if wfA T s = -1 then spF T f (nxA T s) else wfA T s
def saP (T : List Nat) : Nat → Nat
  | 0 => 0
  | k + 1 => nxA T (saP T k)
theorem dgB_3 (c : Int) : dgB c ≤ 2 := by unfold dgB; split <;> (try split) <;> omega
theorem wfA_ok {T : List Nat} {s : Nat} (h : wfA T s = -1) : 0 < dgB (T.getD s 0) ∧ s + 1 < min T.length 60 ∧ lsB (T.getD s 0) ≤ txDg T ((s + 1 : Nat) : Int) ∧ (dgB (T.getD s 0) = 2 → s + 2 < min T.length 60 ∧ 0 ≤ txDg T ((s + 2 : Nat) : Int)) ∧ nxA T s ≤ min T.length 60 := by
  have h3 := dgB_3 (T.getD s 0)
  unfold wfA at h
  unfold nxA
  by_cases c0 : dgB (T.getD s 0) = 0
  · rw [if_pos c0] at h; omega
  · rw [if_neg c0] at h
    by_cases c1 : s + 1 < min T.length 60 ∧ lsB (T.getD s 0) ≤ txDg T ((s + 1 : Nat) : Int)
    · rw [if_neg (fun z => z c1)] at h
      by_cases c2 : dgB (T.getD s 0) = 2 ∧ ¬ (s + 2 < min T.length 60 ∧ 0 ≤ txDg T ((s + 2 : Nat) : Int))
      · rw [if_pos c2] at h; omega
      · have c3 : dgB (T.getD s 0) = 2 → s + 2 < min T.length 60 ∧ 0 ≤ txDg T ((s + 2 : Nat) : Int) := fun z => Classical.byContradiction (fun w => c2 ⟨z, w⟩)
        refine ⟨by omega, c1.1, c1.2, c3, ?_⟩
        by_cases e2 : dgB (T.getD s 0) = 2
        · have := (c3 e2).1; omega
        · omega
    · rw [if_pos c1] at h; omega
theorem wfA_no {T : List Nat} {s : Nat} (h : wfA T s ≠ -1) : (dgB (T.getD s 0) = 0 ∧ wfA T s = (s : Int)) ∨ (0 < dgB (T.getD s 0) ∧ ¬ (s + 1 < min T.length 60 ∧ lsB (T.getD s 0) ≤ txDg T ((s + 1 : Nat) : Int)) ∧ wfA T s = ((s + 1 : Nat) : Int)) ∨ (dgB (T.getD s 0) = 2 ∧ (s + 1 < min T.length 60 ∧ lsB (T.getD s 0) ≤ txDg T ((s + 1 : Nat) : Int)) ∧ ¬ (s + 2 < min T.length 60 ∧ 0 ≤ txDg T ((s + 2 : Nat) : Int)) ∧ wfA T s = ((s + 2 : Nat) : Int)) := by
  unfold wfA at h ⊢
  by_cases c0 : dgB (T.getD s 0) = 0
  · rw [if_pos c0]; exact Or.inl ⟨c0, rfl⟩
  · rw [if_neg c0] at h ⊢
    by_cases c1 : s + 1 < min T.length 60 ∧ lsB (T.getD s 0) ≤ txDg T ((s + 1 : Nat) : Int)
    · rw [if_neg (fun z => z c1)] at h ⊢
      by_cases c2 : dgB (T.getD s 0) = 2 ∧ ¬ (s + 2 < min T.length 60 ∧ 0 ≤ txDg T ((s + 2 : Nat) : Int))
      · rw [if_pos c2]; exact Or.inr (Or.inr ⟨c2.1, c1, c2.2, rfl⟩)
      · rw [if_neg c2] at h; exact absurd rfl h
    · rw [if_pos c1]; exact Or.inr (Or.inl ⟨by omega, c1, rfl⟩)
def spOK (T : List Nat) (n : Nat) : Prop := T.length ≤ 60 ∧ saP T n = T.length ∧ ∀ k, k < n → wfA T (saP T k) = -1 ∧ saP T k < T.length
theorem spF_ok {T : List Nat} : ∀ (f k : Nat), saP T k ≤ min T.length 60 → min T.length 60 - saP T k < f → (∀ j, j < k → wfA T (saP T j) = -1 ∧ saP T j < T.length) → spF T f (saP T k) = -1 → ∃ n, spOK T n
  | 0, _, _, h, _, _ => absurd h (Nat.not_lt_zero _)
  | f + 1, k, h0, h1, h2, h3 => by
    unfold spF at h3
    by_cases c : min T.length 60 ≤ saP T k
    · rw [if_pos c] at h3
      by_cases c6 : 60 < T.length
      · rw [if_pos c6] at h3; omega
      · exact ⟨k, by omega, by omega, h2⟩
    · rw [if_neg c] at h3
      by_cases cw : wfA T (saP T k) = -1
      · rw [if_pos cw] at h3
        have hn := (wfA_ok cw).2.2.2.2
        have hd := (wfA_ok cw).1
        refine spF_ok f (k + 1) hn ?_ (fun j hj => ?_) h3
        · show _ - nxA T (saP T k) < f
          unfold nxA at hn ⊢; omega
        · by_cases e : j = k
          · rw [e]; exact ⟨cw, by omega⟩
          · exact h2 j (by omega)
      · rw [if_neg cw] at h3; exact absurd h3 cw
theorem spF_ge {T : List Nat} : ∀ (f s : Nat), -1 ≤ spF T f s ∧ spF T f s ≤ 62
  | 0, _ => ⟨(show (-1 : Int) ≤ -1 by decide), (show (-1 : Int) ≤ 62 by decide)⟩
  | f + 1, s => by
    unfold spF
    split
    · split <;> omega
    · split
      · exact spF_ge f _
      · rename_i c cw
        rcases wfA_no cw with ⟨-, a⟩ | ⟨-, -, a⟩ | ⟨-, -, -, a⟩ <;> rw [a] <;> omega
theorem saP_2 {T : List Nat} {n : Nat} (h : spOK T n) : ∀ k, k ≤ n → 2 * k ≤ saP T k
  | 0, _ => Nat.zero_le _
  | k + 1, hk => by
    have := saP_2 h k (by omega)
    have := (wfA_ok (h.2.2 k (by omega)).1).1
    show 2 * (k + 1) ≤ nxA T (saP T k)
    unfold nxA; omega
theorem saP_mono {T : List Nat} {n : Nat} (h : spOK T n) : ∀ k, n ≤ k → T.length ≤ saP T k := by
  intro k hk
  obtain ⟨j, rfl⟩ := Nat.exists_eq_add_of_le hk
  induction j with
  | zero => exact Nat.le_of_eq h.2.1.symm
  | succ j ih =>
    have := ih (by omega)
    show _ ≤ nxA T (saP T (n + j))
    unfold nxA; omega
theorem spOK_un {T : List Nat} {n n2 : Nat} (h : spOK T n) (g : spOK T n2) : n = n2 := by
  rcases Nat.lt_trichotomy n n2 with c | c | c
  · have := (g.2.2 n c).2
    have := h.2.1; omega
  · exact c
  · have := (h.2.2 n2 c).2
    have := g.2.1; omega
/-- an act of a spring: its answer, and what is then -/
def actP (X : List Nat) (h : hrs) (sn : Nat) (sg : Nat → Nat) (c d1 d2 : Nat) (e : est) (v : Int) (e2 : est) : Prop := if c = 110 then v = (eB (itE X h sn sg e d1) : Int) ∧ e2 = itE X h sn sg e d1 else if c = 99 then v = turnA h e (d1 : Int) ∧ e2 = turnE h e (d1 : Int) else if c = 104 then humP h e (d1 : Int) (d2 : Int) v e2 else if c = 97 then hanP e (d1 : Int) v e2 else wagP e (if c = 115 then (d1 : Int) else -(d1 : Int)) v e2
theorem humP_un {h : hrs} {e e2 e3 : est} {i n v w : Int} (p : humP h e i n v e2) (g : humP h e i n w e3) : v = w ∧ e2 = e3 := by
  unfold humP humR at *
  rcases p with ⟨p1, p2, p3⟩ | ⟨p1, p4, p2, p3⟩ | ⟨p1, p2, p3⟩ <;> rcases g with ⟨g1, g2, g3⟩ | ⟨g1, g4, g2, g3⟩ | ⟨g1, g2, g3⟩ <;> first | exact ⟨p2.trans g2.symm, p3.trans g3.symm⟩ | exact absurd g1 p1 | exact absurd p1 g1 | exact absurd g1.1 p1 | exact absurd p1.1 g1 | (exfalso; omega)
theorem humP_ex (h : hrs) (e : est) (i n : Int) : ∃ v e2, humP h e i n v e2 := by
  unfold humP humR
  by_cases c1 : humOK h i n
  · by_cases c2 : (eB e : Int) < n
    · exact ⟨_, _, Or.inr (Or.inl ⟨c1, c2, rfl, rfl⟩)⟩
    · exact ⟨_, _, Or.inr (Or.inr ⟨⟨c1, by omega⟩, rfl, rfl⟩)⟩
  · exact ⟨_, _, Or.inl ⟨c1, rfl, rfl⟩⟩
theorem hanP_un {e e2 e3 : est} {n v w : Int} (p : hanP e n v e2) (g : hanP e n w e3) : v = w ∧ e2 = e3 := by
  unfold hanP at *
  rcases p with ⟨p1, p2, p3⟩ | ⟨p1, p4, p2, p3⟩ | ⟨p1, p4, p2, p3⟩ <;> rcases g with ⟨g1, g2, g3⟩ | ⟨g1, g4, g2, g3⟩ | ⟨g1, g4, g2, g3⟩ <;> first | exact ⟨p2.trans g2.symm, p3.trans g3.symm⟩ | (exfalso; omega)
theorem hanP_ex (e : est) (n : Int) : ∃ v e2, hanP e n v e2 := by
  unfold hanP
  by_cases c1 : 1 ≤ n ∧ n ≤ 9999
  · by_cases c2 : ((eB e / 4 : Nat) : Int) < n
    · exact ⟨_, _, Or.inr (Or.inl ⟨c1, c2, rfl, rfl⟩)⟩
    · exact ⟨_, _, Or.inr (Or.inr ⟨c1, by omega, rfl, rfl⟩)⟩
  · exact ⟨_, _, Or.inl ⟨c1, rfl, rfl⟩⟩
theorem wagP_un {e e2 e3 : est} {n v w : Int} (p : wagP e n v e2) (g : wagP e n w e3) : v = w ∧ e2 = e3 := by
  unfold wagP at *
  rcases p with ⟨p1, p2, p3⟩ | ⟨p1, p4, p2, p3⟩ | ⟨p1, p4, p5, p6, p2, p3⟩ | ⟨p1, p4, p5, p6, p7, p2, p3⟩ <;> rcases g with ⟨g1, g2, g3⟩ | ⟨g1, g4, g2, g3⟩ | ⟨g1, g4, g5, g6, g2, g3⟩ | ⟨g1, g4, g5, g6, g7, g2, g3⟩ <;> first | exact ⟨p2.trans g2.symm, p3.trans g3.symm⟩ | (exfalso; omega)
theorem wagP_ex (e : est) (n : Int) : ∃ v e2, wagP e n v e2 := by
  unfold wagP
  by_cases c1 : n ≠ 0 ∧ -9999 ≤ n ∧ n ≤ 9999
  · by_cases c2 : (eK e : Int) + n < 0 ∨ (eM e : Int) - n < 0
    · exact ⟨_, _, Or.inr (Or.inl ⟨c1, c2, rfl, rfl⟩)⟩
    · by_cases c3 : 9999 < (eK e : Int) + n ∨ 9999 < (eM e : Int) - n
      · exact ⟨_, _, Or.inr (Or.inr (Or.inl ⟨c1, by omega, by omega, c3, rfl, rfl⟩))⟩
      · exact ⟨_, _, Or.inr (Or.inr (Or.inr ⟨c1, by omega, by omega, by omega, by omega, rfl, rfl⟩))⟩
  · exact ⟨_, _, Or.inl ⟨by omega, rfl, rfl⟩⟩
theorem actP_un {X : List Nat} {h : hrs} {sn : Nat} {sg : Nat → Nat} {c d1 d2 : Nat} {e e2 e3 : est} {v w : Int} (p : actP X h sn sg c d1 d2 e v e2) (g : actP X h sn sg c d1 d2 e w e3) : v = w ∧ e2 = e3 := by
  unfold actP at p g
  by_cases c1 : c = 110
  · rw [if_pos c1] at p g; exact ⟨p.1.trans g.1.symm, p.2.trans g.2.symm⟩
  rw [if_neg c1] at p g
  by_cases c2 : c = 99
  · rw [if_pos c2] at p g; exact ⟨p.1.trans g.1.symm, p.2.trans g.2.symm⟩
  rw [if_neg c2] at p g
  by_cases c3 : c = 104
  · rw [if_pos c3] at p g; exact humP_un p g
  rw [if_neg c3] at p g
  by_cases c4 : c = 97
  · rw [if_pos c4] at p g; exact hanP_un p g
  rw [if_neg c4] at p g
  exact wagP_un p g
theorem actP_ex (X : List Nat) (h : hrs) (sn : Nat) (sg : Nat → Nat) (c d1 d2 : Nat) (e : est) : ∃ v e2, actP X h sn sg c d1 d2 e v e2 := by
  unfold actP
  by_cases c1 : c = 110
  · simp only [if_pos c1]; exact ⟨_, _, rfl, rfl⟩
  simp only [if_neg c1]
  by_cases c2 : c = 99
  · simp only [if_pos c2]; exact ⟨_, _, rfl, rfl⟩
  simp only [if_neg c2]
  by_cases c3 : c = 104
  · simp only [if_pos c3]; exact humP_ex ..
  simp only [if_neg c3]
  by_cases c4 : c = 97
  · simp only [if_pos c4]; exact hanP_ex ..
  simp only [if_neg c4]
  exact wagP_ex ..
theorem actP_ok {X : List Nat} {h : hrs} {sn : Nat} {sg : Nat → Nat} {c d1 d2 : Nat} {e e2 : est} {v : Int} {NB : Nat} (hd : d1 ≤ 9) (q : e_ok h.1 NB e) (p : actP X h sn sg c d1 d2 e v e2) : e_ok h.1 (NB + 9) e2 := by
  have up : ∀ {N : Nat} {z : est}, N ≤ NB + 9 → e_ok h.1 N z → e_ok h.1 (NB + 9) z := fun hN hz => ⟨hz.1, hz.2.1, hz.2.2.1, Nat.le_trans hz.2.2.2.1 hN, hz.2.2.2.2⟩
  unfold actP at p
  by_cases c1 : c = 110
  · rw [if_pos c1] at p; rw [p.2]; exact up (by omega) (itE_ok q d1)
  rw [if_neg c1] at p
  by_cases c2 : c = 99
  · rw [if_pos c2] at p; rw [p.2]; exact up (by omega) (turnE_ok q)
  rw [if_neg c2] at p
  by_cases c3 : c = 104
  · rw [if_pos c3] at p; exact up (by omega) (humP_ok q p)
  rw [if_neg c3] at p
  by_cases c4 : c = 97
  · rw [if_pos c4] at p; exact up (by omega) (hanP_ok q p)
  rw [if_neg c4] at p
  exact up (by omega) (wagP_ok q p)
theorem actP_neg {X : List Nat} {h : hrs} {sn : Nat} {sg : Nat → Nat} {c d1 d2 : Nat} {e e2 : est} {v : Int} (p : actP X h sn sg c d1 d2 e v e2) (hv : v < 0) : e2 = e := by
  unfold actP at p
  by_cases c1 : c = 110
  · rw [if_pos c1] at p; omega
  rw [if_neg c1] at p
  by_cases c2 : c = 99
  · rw [if_pos c2] at p
    unfold turnA turnE at p
    by_cases c5 : 0 ≤ (d1 : Int) ∧ (d1 : Int) < h.1
    · rw [if_pos c5] at p; omega
    · rw [if_neg c5, if_neg c5] at p; exact p.2
  rw [if_neg c2] at p
  by_cases c3 : c = 104
  · rw [if_pos c3] at p
    rcases p with ⟨p1, p2, p3⟩ | ⟨p1, p4, p2, p3⟩ | ⟨p1, p2, p3⟩
    · exact p3
    · exact p3
    · omega
  rw [if_neg c3] at p
  by_cases c4 : c = 97
  · rw [if_pos c4] at p
    rcases p with ⟨p1, p2, p3⟩ | ⟨p1, p4, p2, p3⟩ | ⟨p1, p4, p2, p3⟩
    · exact p3
    · exact p3
    · omega
  rw [if_neg c4] at p
  rcases p with ⟨p1, p2, p3⟩ | ⟨p1, p4, p2, p3⟩ | ⟨p1, p4, p5, p6, p2, p3⟩ | ⟨p1, p4, p5, p6, p7, p2, p3⟩
  · exact p3
  · exact p3
  · exact p3
  · omega
noncomputable def actS (X : List Nat) (h : hrs) (sn : Nat) (sg : Nat → Nat) (c d1 d2 : Nat) (e : est) : est := Classical.choose (Classical.choose_spec (actP_ex X h sn sg c d1 d2 e))
noncomputable def actV (X : List Nat) (h : hrs) (sn : Nat) (sg : Nat → Nat) (c d1 d2 : Nat) (e : est) : Int := Classical.choose (actP_ex X h sn sg c d1 d2 e)
theorem actS_P {X : List Nat} {h : hrs} {sn : Nat} {sg : Nat → Nat} {c d1 d2 : Nat} {e : est} : actP X h sn sg c d1 d2 e (actV X h sn sg c d1 d2 e) (actS X h sn sg c d1 d2 e) := Classical.choose_spec (Classical.choose_spec (actP_ex X h sn sg c d1 d2 e))
/-- after k acts, all gone through -/
noncomputable def exE (X : List Nat) (h : hrs) (sn : Nat) (sg : Nat → Nat) (T : List Nat) (e : est) : Nat → est
  | 0 => e
  | k + 1 => actS X h sn sg (T.getD (saP T k) 0) (T.getD (saP T k + 1) 0 - 48) (T.getD (saP T k + 2) 0 - 48) (exE X h sn sg T e k)
noncomputable def exV (X : List Nat) (h : hrs) (sn : Nat) (sg : Nat → Nat) (T : List Nat) (e : est) (k : Nat) : Int := actV X h sn sg (T.getD (saP T k) 0) (T.getD (saP T k + 1) 0 - 48) (T.getD (saP T k + 2) 0 - 48) (exE X h sn sg T e k)
def exD (X : List Nat) (h : hrs) (sn : Nat) (sg : Nat → Nat) (T : List Nat) (e : est) (n k : Nat) : Prop := k ≤ n ∧ (∀ j, j < k → 0 ≤ exV X h sn sg T e j) ∧ (k < n → exV X h sn sg T e k < 0)
theorem exD_un {X : List Nat} {h : hrs} {sn : Nat} {sg : Nat → Nat} {T : List Nat} {e : est} {n k k2 : Nat} (p : exD X h sn sg T e n k) (g : exD X h sn sg T e n k2) : k = k2 := by
  rcases Nat.lt_trichotomy k k2 with c | c | c
  · have := g.2.1 k c
    have := p.2.2 (Nat.lt_of_lt_of_le c g.1); omega
  · exact c
  · have := p.2.1 k2 c
    have := g.2.2 (Nat.lt_of_lt_of_le c p.1); omega
theorem exD_ex (X : List Nat) (h : hrs) (sn : Nat) (sg : Nat → Nat) (T : List Nat) (e : est) (n : Nat) : ∃ k, exD X h sn sg T e n k := by
  have G : ∀ j : Nat, j ≤ n → (∀ i, i < n - j → 0 ≤ exV X h sn sg T e i) → ∃ k, exD X h sn sg T e n k := by
    intro j
    induction j with
    | zero => exact fun _ hi => ⟨n, Nat.le_refl _, fun i h2 => hi i h2, fun z => absurd z (Nat.lt_irrefl _)⟩
    | succ j ih =>
      intro hj hi
      by_cases c : 0 ≤ exV X h sn sg T e (n - (j + 1))
      · refine ih (by omega) (fun i h2 => ?_)
        by_cases ei : i = n - (j + 1)
        · rw [ei]; exact c
        · exact hi i (by omega)
      · exact ⟨n - (j + 1), by omega, hi, fun _ => by omega⟩
  exact G n (Nat.le_refl _) (fun i h2 => by omega)
theorem dig_9 {T : List Nat} {s : Nat} (h : s < T.length) (h0 : 0 ≤ txDg T (s : Int)) : T.getD s 0 - 48 ≤ 9 ∧ txDg T (s : Int) = ((T.getD s 0 - 48 : Nat) : Int) := by
  have hd := (txDg_iff h).mp h0
  refine ⟨?_, txDg_v h hd⟩
  unfold dgc at hd; omega
theorem lsB_0 (c : Int) : 0 ≤ lsB c := by unfold lsB; split <;> omega
theorem exE_ok {X : List Nat} {h : hrs} {sn : Nat} {sg : Nat → Nat} {T : List Nat} {e : est} {NB n : Nat} (q : e_ok h.1 NB e) (hs : spOK T n) : ∀ k, k ≤ n → e_ok h.1 (NB + 9 * k) (exE X h sn sg T e k)
  | 0, _ => q
  | k + 1, hk => by
    have ih := exE_ok (X := X) (sn := sn) (sg := sg) q hs k (by omega)
    have w := wfA_ok (hs.2.2 k (by omega)).1
    have := lsB_0 (T.getD (saP T k) 0)
    have d9 := (dig_9 (T := T) (s := saP T k + 1) (by omega) (by omega)).1
    exact actP_ok d9 ih actS_P
section P97
variable {l : Launch} {G : am_G} {d : Nat} {r : Nat} {X : List Nat} {C : List Int} {sn : Nat} {sg : Nat → Nat} {h : hrs} {e : est} {NB : Nat} {mem m : am_M}
variable {T : List Nat} {U : List est} {R : List Int}
theorem c_digitsBehind (c : Int) : am_Sm l G yX8_digitsBehind mt_X8_digitsBehind d [.inl c] mem (fun q m => q = some (.inl (dgB c : Int)) ∧ mem = m) := by
  refine am_enterQ (ls := [some (.inl c)]) (by decide) rfl (Nat.le_of_ble_eq_true rfl) rfl (fun hok Q hQ => ?_)
  by_cases c1 : c = 104
  · subst c1
    refine rn_iload_n (x := 104) (q := 1) dX8_digitsBehind_0 rfl rfl ?_
    refine rn_tabIn (o1 := 91) (t := 92) dX8_digitsBehind_1 (by decide) (by decide) rfl rfl ?_
    refine rn_iconst (q := 93) dX8_digitsBehind_92 (am_okd rfl) rfl ?_
    refine rn_iret dX8_digitsBehind_93 rfl ?_
    exact hQ _ _ ⟨rfl, rfl⟩
  by_cases c2 : c = 110
  · subst c2
    refine rn_iload_n (x := 110) (q := 1) dX8_digitsBehind_0 rfl rfl ?_
    refine rn_tabIn (o1 := 93) (t := 94) dX8_digitsBehind_1 (by decide) (by decide) rfl rfl ?_
    refine rn_iconst (q := 95) dX8_digitsBehind_94 (am_okd rfl) rfl ?_
    refine rn_iret dX8_digitsBehind_95 rfl ?_
    exact hQ _ _ ⟨rfl, rfl⟩
  by_cases c3 : c = 99
  · subst c3
    refine rn_iload_n (x := 99) (q := 1) dX8_digitsBehind_0 rfl rfl ?_
    refine rn_tabIn (o1 := 93) (t := 94) dX8_digitsBehind_1 (by decide) (by decide) rfl rfl ?_
    refine rn_iconst (q := 95) dX8_digitsBehind_94 (am_okd rfl) rfl ?_
    refine rn_iret dX8_digitsBehind_95 rfl ?_
    exact hQ _ _ ⟨rfl, rfl⟩
  by_cases c4 : c = 115
  · subst c4
    refine rn_iload_n (x := 115) (q := 1) dX8_digitsBehind_0 rfl rfl ?_
    refine rn_tabIn (o1 := 93) (t := 94) dX8_digitsBehind_1 (by decide) (by decide) rfl rfl ?_
    refine rn_iconst (q := 95) dX8_digitsBehind_94 (am_okd rfl) rfl ?_
    refine rn_iret dX8_digitsBehind_95 rfl ?_
    exact hQ _ _ ⟨rfl, rfl⟩
  by_cases c5 : c = 98
  · subst c5
    refine rn_iload_n (x := 98) (q := 1) dX8_digitsBehind_0 rfl rfl ?_
    refine rn_tabIn (o1 := 93) (t := 94) dX8_digitsBehind_1 (by decide) (by decide) rfl rfl ?_
    refine rn_iconst (q := 95) dX8_digitsBehind_94 (am_okd rfl) rfl ?_
    refine rn_iret dX8_digitsBehind_95 rfl ?_
    exact hQ _ _ ⟨rfl, rfl⟩
  by_cases c6 : c = 97
  · subst c6
    refine rn_iload_n (x := 97) (q := 1) dX8_digitsBehind_0 rfl rfl ?_
    refine rn_tabIn (o1 := 93) (t := 94) dX8_digitsBehind_1 (by decide) (by decide) rfl rfl ?_
    refine rn_iconst (q := 95) dX8_digitsBehind_94 (am_okd rfl) rfl ?_
    refine rn_iret dX8_digitsBehind_95 rfl ?_
    exact hQ _ _ ⟨rfl, rfl⟩
  have e0 : dgB c = 0 := by unfold dgB; rw [if_neg c1, if_neg (by omega)]
  rw [e0] at hQ
  by_cases co : c < 97 ∨ 115 < c
  · refine rn_iload_n (x := c) (q := 1) dX8_digitsBehind_0 rfl rfl ?_
    refine rn_tabOut (t := 96) dX8_digitsBehind_1 (by omega) rfl ?_
    refine rn_iconst (q := 97) dX8_digitsBehind_96 (am_okd rfl) rfl ?_
    refine rn_iret dX8_digitsBehind_97 rfl ?_
    exact hQ _ _ ⟨rfl, rfl⟩
  · rcases (show c = 100 ∨ c = 101 ∨ c = 102 ∨ c = 103 ∨ c = 105 ∨ c = 106 ∨ c = 107 ∨ c = 108 ∨ c = 109 ∨ c = 111 ∨ c = 112 ∨ c = 113 ∨ c = 114 by omega) with rfl | rfl | rfl | rfl | rfl | rfl | rfl | rfl | rfl | rfl | rfl | rfl | rfl
    · refine rn_iload_n (x := 100) (q := 1) dX8_digitsBehind_0 rfl rfl ?_
      refine rn_tabIn (o1 := 95) (t := 96) dX8_digitsBehind_1 (by decide) (by decide) rfl rfl ?_
      refine rn_iconst (q := 97) dX8_digitsBehind_96 (am_okd rfl) rfl ?_
      refine rn_iret dX8_digitsBehind_97 rfl ?_
      exact hQ _ _ ⟨rfl, rfl⟩
    · refine rn_iload_n (x := 101) (q := 1) dX8_digitsBehind_0 rfl rfl ?_
      refine rn_tabIn (o1 := 95) (t := 96) dX8_digitsBehind_1 (by decide) (by decide) rfl rfl ?_
      refine rn_iconst (q := 97) dX8_digitsBehind_96 (am_okd rfl) rfl ?_
      refine rn_iret dX8_digitsBehind_97 rfl ?_
      exact hQ _ _ ⟨rfl, rfl⟩
    · refine rn_iload_n (x := 102) (q := 1) dX8_digitsBehind_0 rfl rfl ?_
      refine rn_tabIn (o1 := 95) (t := 96) dX8_digitsBehind_1 (by decide) (by decide) rfl rfl ?_
      refine rn_iconst (q := 97) dX8_digitsBehind_96 (am_okd rfl) rfl ?_
      refine rn_iret dX8_digitsBehind_97 rfl ?_
      exact hQ _ _ ⟨rfl, rfl⟩
    · refine rn_iload_n (x := 103) (q := 1) dX8_digitsBehind_0 rfl rfl ?_
      refine rn_tabIn (o1 := 95) (t := 96) dX8_digitsBehind_1 (by decide) (by decide) rfl rfl ?_
      refine rn_iconst (q := 97) dX8_digitsBehind_96 (am_okd rfl) rfl ?_
      refine rn_iret dX8_digitsBehind_97 rfl ?_
      exact hQ _ _ ⟨rfl, rfl⟩
    · refine rn_iload_n (x := 105) (q := 1) dX8_digitsBehind_0 rfl rfl ?_
      refine rn_tabIn (o1 := 95) (t := 96) dX8_digitsBehind_1 (by decide) (by decide) rfl rfl ?_
      refine rn_iconst (q := 97) dX8_digitsBehind_96 (am_okd rfl) rfl ?_
      refine rn_iret dX8_digitsBehind_97 rfl ?_
      exact hQ _ _ ⟨rfl, rfl⟩
    · refine rn_iload_n (x := 106) (q := 1) dX8_digitsBehind_0 rfl rfl ?_
      refine rn_tabIn (o1 := 95) (t := 96) dX8_digitsBehind_1 (by decide) (by decide) rfl rfl ?_
      refine rn_iconst (q := 97) dX8_digitsBehind_96 (am_okd rfl) rfl ?_
      refine rn_iret dX8_digitsBehind_97 rfl ?_
      exact hQ _ _ ⟨rfl, rfl⟩
    · refine rn_iload_n (x := 107) (q := 1) dX8_digitsBehind_0 rfl rfl ?_
      refine rn_tabIn (o1 := 95) (t := 96) dX8_digitsBehind_1 (by decide) (by decide) rfl rfl ?_
      refine rn_iconst (q := 97) dX8_digitsBehind_96 (am_okd rfl) rfl ?_
      refine rn_iret dX8_digitsBehind_97 rfl ?_
      exact hQ _ _ ⟨rfl, rfl⟩
    · refine rn_iload_n (x := 108) (q := 1) dX8_digitsBehind_0 rfl rfl ?_
      refine rn_tabIn (o1 := 95) (t := 96) dX8_digitsBehind_1 (by decide) (by decide) rfl rfl ?_
      refine rn_iconst (q := 97) dX8_digitsBehind_96 (am_okd rfl) rfl ?_
      refine rn_iret dX8_digitsBehind_97 rfl ?_
      exact hQ _ _ ⟨rfl, rfl⟩
    · refine rn_iload_n (x := 109) (q := 1) dX8_digitsBehind_0 rfl rfl ?_
      refine rn_tabIn (o1 := 95) (t := 96) dX8_digitsBehind_1 (by decide) (by decide) rfl rfl ?_
      refine rn_iconst (q := 97) dX8_digitsBehind_96 (am_okd rfl) rfl ?_
      refine rn_iret dX8_digitsBehind_97 rfl ?_
      exact hQ _ _ ⟨rfl, rfl⟩
    · refine rn_iload_n (x := 111) (q := 1) dX8_digitsBehind_0 rfl rfl ?_
      refine rn_tabIn (o1 := 95) (t := 96) dX8_digitsBehind_1 (by decide) (by decide) rfl rfl ?_
      refine rn_iconst (q := 97) dX8_digitsBehind_96 (am_okd rfl) rfl ?_
      refine rn_iret dX8_digitsBehind_97 rfl ?_
      exact hQ _ _ ⟨rfl, rfl⟩
    · refine rn_iload_n (x := 112) (q := 1) dX8_digitsBehind_0 rfl rfl ?_
      refine rn_tabIn (o1 := 95) (t := 96) dX8_digitsBehind_1 (by decide) (by decide) rfl rfl ?_
      refine rn_iconst (q := 97) dX8_digitsBehind_96 (am_okd rfl) rfl ?_
      refine rn_iret dX8_digitsBehind_97 rfl ?_
      exact hQ _ _ ⟨rfl, rfl⟩
    · refine rn_iload_n (x := 113) (q := 1) dX8_digitsBehind_0 rfl rfl ?_
      refine rn_tabIn (o1 := 95) (t := 96) dX8_digitsBehind_1 (by decide) (by decide) rfl rfl ?_
      refine rn_iconst (q := 97) dX8_digitsBehind_96 (am_okd rfl) rfl ?_
      refine rn_iret dX8_digitsBehind_97 rfl ?_
      exact hQ _ _ ⟨rfl, rfl⟩
    · refine rn_iload_n (x := 114) (q := 1) dX8_digitsBehind_0 rfl rfl ?_
      refine rn_tabIn (o1 := 95) (t := 96) dX8_digitsBehind_1 (by decide) (by decide) rfl rfl ?_
      refine rn_iconst (q := 97) dX8_digitsBehind_96 (am_okd rfl) rfl ?_
      refine rn_iret dX8_digitsBehind_97 rfl ?_
      exact hQ _ _ ⟨rfl, rfl⟩
theorem c_leastBehind (c : Int) : am_Sm l G yX8_leastBehind mt_X8_leastBehind d [.inl c] mem (fun q m => q = some (.inl (lsB c)) ∧ mem = m) := by
  refine am_enterQ (ls := [some (.inl c)]) (by decide) rfl (Nat.le_of_ble_eq_true rfl) rfl (fun hok Q hQ => ?_)
  refine rn_iload_n (x := c) (q := 1) dX8_leastBehind_0 rfl rfl ?_
  refine rn_bipush (q := 3) dX8_leastBehind_1 ⟨by decide, by decide⟩ rfl ?_
  refine rn_cmpeq (t := 18) (q := 6) dX8_leastBehind_3 rfl rfl (fun w3 => ?_) (fun w3 => ?_)
  · refine rn_iconst (q := 19) dX8_leastBehind_18 (am_okd rfl) rfl ?_
    refine rn_goto (t := 23) dX8_leastBehind_19 rfl ?_
    refine rn_iret dX8_leastBehind_23 rfl ?_
    refine hQ _ _ ⟨?_, rfl⟩
    unfold lsB
    first | rw [if_pos (by omega)] | rw [if_neg (by omega)]
  · refine rn_iload_n (x := c) (q := 7) dX8_leastBehind_6 rfl rfl ?_
    refine rn_bipush (q := 9) dX8_leastBehind_7 ⟨by decide, by decide⟩ rfl ?_
    refine rn_cmpeq (t := 18) (q := 12) dX8_leastBehind_9 rfl rfl (fun w9 => ?_) (fun w9 => ?_)
    · refine rn_iconst (q := 19) dX8_leastBehind_18 (am_okd rfl) rfl ?_
      refine rn_goto (t := 23) dX8_leastBehind_19 rfl ?_
      refine rn_iret dX8_leastBehind_23 rfl ?_
      refine hQ _ _ ⟨?_, rfl⟩
      unfold lsB
      first | rw [if_pos (by omega)] | rw [if_neg (by omega)]
    · refine rn_iload_n (x := c) (q := 13) dX8_leastBehind_12 rfl rfl ?_
      refine rn_bipush (q := 15) dX8_leastBehind_13 ⟨by decide, by decide⟩ rfl ?_
      refine rn_cmpne (t := 22) (q := 18) dX8_leastBehind_15 rfl rfl (fun w15 => ?_) (fun w15 => ?_)
      · refine rn_iconst (q := 23) dX8_leastBehind_22 (am_okd rfl) rfl ?_
        refine rn_iret dX8_leastBehind_23 rfl ?_
        refine hQ _ _ ⟨?_, rfl⟩
        unfold lsB
        first | rw [if_pos (by omega)] | rw [if_neg (by omega)]
      · refine rn_iconst (q := 19) dX8_leastBehind_18 (am_okd rfl) rfl ?_
        refine rn_goto (t := 23) dX8_leastBehind_19 rfl ?_
        refine rn_iret dX8_leastBehind_23 rfl ?_
        refine hQ _ _ ⟨?_, rfl⟩
        unfold lsB
        first | rw [if_pos (by omega)] | rw [if_neg (by omega)]
theorem c_faultInSpring (hT : c_text T mem) : am_Sm l G yX8_faultInSpring mt_X8_faultInSpring (d + 2) [.inr (.inr 1)] mem (fun q m => q = some (.inl (spF T 61 0)) ∧ mem = m) := by
  refine am_enterQ (ls := [some (.inr (.inr 1)), none, none, none, none]) (by decide) rfl (Nat.le_of_ble_eq_true rfl) rfl (fun hok Q hQ => ?_)
  have hl := hT.len
  obtain ⟨N, hN⟩ : ∃ N, N = min T.length 60 := ⟨_, rfl⟩
  obtain ⟨F, hF⟩ : ∃ F, F = spF T 61 0 := ⟨_, rfl⟩
  rw [← hF] at hQ
  have O : ∀ (ow : Nat) (le : Int), 0 < ow → F = (N : Int) → am_Rn l G mt_X8_faultInSpring (d + 2) 20 [some (.inr (.inr 1)), some (.inl (N : Int)), some (.inl (ow : Int)), some (.inl le), some (.inl (N : Int))] [] mem Q := by
    intro ow le h0 hFN
    refine rn_iload (x := (N : Int)) (q := 22) dX8_faultInSpring_20 rfl rfl ?_
    refine rn_iload_n (x := (N : Int)) (q := 23) dX8_faultInSpring_22 rfl rfl ?_
    refine rn_cmpge (t := 91) (q := 26) dX8_faultInSpring_23 rfl rfl (fun w23 => ?_) (fun h => absurd h (by omega))
    refine rn_iload_n (x := (ow : Int)) (q := 92) dX8_faultInSpring_91 rfl rfl ?_
    refine rn_ifle (t := 97) (q := 95) dX8_faultInSpring_92 rfl rfl (fun h => absurd h (by omega)) (fun w92 => ?_)
    refine rn_iload_n (x := (N : Int)) (q := 96) dX8_faultInSpring_95 rfl rfl ?_
    refine rn_iret dX8_faultInSpring_96 rfl ?_
    rw [← hFN]; exact hQ _ _ ⟨rfl, rfl⟩
  have SL : ∀ (s : Nat) (le : Int), s < N → 0 < dgB (T.getD s 0) → am_Rn l G mt_X8_faultInSpring (d + 2) 20 [some (.inr (.inr 1)), some (.inl (N : Int)), some (.inl (dgB (T.getD s 0) : Int)), some (.inl (lsB (T.getD s 0))), some (.inl ((s + 1 : Nat) : Int))] [] mem Q → am_Rn l G mt_X8_faultInSpring (d + 2) 20 [some (.inr (.inr 1)), some (.inl (N : Int)), some (.inl 0), some (.inl le), some (.inl (s : Int))] [] mem Q := by
    intro s le hs hd k
    have e1 := txAt_n (T := T) (p := s) (by omega)
    refine rn_iload (x := (s : Int)) (q := 22) dX8_faultInSpring_20 rfl rfl ?_
    refine rn_iload_n (x := (N : Int)) (q := 23) dX8_faultInSpring_22 rfl rfl ?_
    refine rn_cmpge (t := 91) (q := 26) dX8_faultInSpring_23 rfl rfl (fun h => absurd h (by omega)) (fun w23 => ?_)
    refine rn_iload_n (x := 0) (q := 27) dX8_faultInSpring_26 rfl rfl ?_
    refine rn_ifle (t := 52) (q := 30) dX8_faultInSpring_27 rfl rfl (fun w27 => ?_) (fun h => absurd h (by decide))
    refine rn_aload_n (x := 0) (q := 53) dX8_faultInSpring_52 rfl rfl ?_
    refine rn_get (a := 0) (v := .inr (.inr 2)) (q := 56) dX8_faultInSpring_53 fl_X8_10 rfl rfl rfl ?_
    refine rn_iload (x := (s : Int)) (q := 58) dX8_faultInSpring_56 rfl rfl ?_
    refine rn_callV (b := 1) (as := [.inl (s : Int)]) (rest := []) (q := 61) dX8_faultInSpring_58 ml_X8_142 sm_X7_at rfl rfl (by decide) (by omega) rfl rfl (Nat.le_of_ble_eq_true rfl) rfl (s_Tat (d := d + 1) hT (s : Int)) ?_
    intro r58 mem58 hq58
    obtain ⟨rfl, rfl⟩ := hq58
    show am_Rn l G _ _ 61 [some (.inr (.inr 1)), some (.inl (N : Int)), some (.inl 0), some (.inl le), some (.inl (s : Int))] [.inl (txAt T (s : Int))] mem _
    rw [e1]
    refine rn_callS (as := [.inl (T.getD s 0 : Int)]) (rest := []) (q := 64) dX8_faultInSpring_61 ml_X8_272 sm_X8_digitsBehind (by omega) rfl rfl (Nat.le_of_ble_eq_true rfl) rfl (c_digitsBehind (d := d + 1) (T.getD s 0 : Int)) ?_
    intro r61 mem61 hq61
    obtain ⟨rfl, rfl⟩ := hq61
    show am_Rn l G _ _ 64 [some (.inr (.inr 1)), some (.inl (N : Int)), some (.inl 0), some (.inl le), some (.inl (s : Int))] [.inl (dgB (T.getD s 0 : Int) : Int)] mem _
    refine rn_istore_n (ls' := [some (.inr (.inr 1)), some (.inl (N : Int)), some (.inl (dgB (T.getD s 0 : Int) : Int)), some (.inl le), some (.inl (s : Int))]) (q := 65) dX8_faultInSpring_64 (by decide) rfl rfl ?_
    refine rn_iload_n (x := (dgB (T.getD s 0 : Int) : Int)) (q := 66) dX8_faultInSpring_65 rfl rfl ?_
    refine rn_ifne (t := 72) (q := 69) dX8_faultInSpring_66 rfl rfl (fun w66 => ?_) (fun h => absurd h (by omega))
    refine rn_aload_n (x := 0) (q := 73) dX8_faultInSpring_72 rfl rfl ?_
    refine rn_get (a := 0) (v := .inr (.inr 2)) (q := 76) dX8_faultInSpring_73 fl_X8_10 rfl rfl rfl ?_
    refine rn_iload (x := (s : Int)) (q := 78) dX8_faultInSpring_76 rfl rfl ?_
    refine rn_callV (b := 1) (as := [.inl (s : Int)]) (rest := []) (q := 81) dX8_faultInSpring_78 ml_X8_142 sm_X7_at rfl rfl (by decide) (by omega) rfl rfl (Nat.le_of_ble_eq_true rfl) rfl (s_Tat (d := d + 1) hT (s : Int)) ?_
    intro r78 mem78 hq78
    obtain ⟨rfl, rfl⟩ := hq78
    show am_Rn l G _ _ 81 [some (.inr (.inr 1)), some (.inl (N : Int)), some (.inl (dgB (T.getD s 0 : Int) : Int)), some (.inl le), some (.inl (s : Int))] [.inl (txAt T (s : Int))] mem _
    rw [e1]
    refine rn_callS (as := [.inl (T.getD s 0 : Int)]) (rest := []) (q := 84) dX8_faultInSpring_81 ml_X8_275 sm_X8_leastBehind (by omega) rfl rfl (Nat.le_of_ble_eq_true rfl) rfl (c_leastBehind (d := d + 1) (T.getD s 0 : Int)) ?_
    intro r81 mem81 hq81
    obtain ⟨rfl, rfl⟩ := hq81
    show am_Rn l G _ _ 84 [some (.inr (.inr 1)), some (.inl (N : Int)), some (.inl (dgB (T.getD s 0 : Int) : Int)), some (.inl le), some (.inl (s : Int))] [.inl (lsB (T.getD s 0 : Int))] mem _
    refine rn_istore_n (ls' := [some (.inr (.inr 1)), some (.inl (N : Int)), some (.inl (dgB (T.getD s 0 : Int) : Int)), some (.inl (lsB (T.getD s 0 : Int))), some (.inl (s : Int))]) (q := 85) dX8_faultInSpring_84 (by decide) rfl rfl ?_
    refine rn_iincN (x := (s : Int)) (z := ((s + 1 : Nat) : Int)) (ls' := [some (.inr (.inr 1)), some (.inl (N : Int)), some (.inl (dgB (T.getD s 0 : Int) : Int)), some (.inl (lsB (T.getD s 0 : Int))), some (.inl ((s + 1 : Nat) : Int))]) (q := 88) dX8_faultInSpring_85 rfl (by decide) (by omega) (by unfold am_ok; omega) rfl rfl ?_
    refine rn_goto (t := 20) dX8_faultInSpring_88 rfl ?_
    exact k
  have SLb : ∀ (s : Nat) (le : Int), s < N → dgB (T.getD s 0) = 0 → F = (s : Int) → am_Rn l G mt_X8_faultInSpring (d + 2) 20 [some (.inr (.inr 1)), some (.inl (N : Int)), some (.inl 0), some (.inl le), some (.inl (s : Int))] [] mem Q := by
    intro s le hs hd k
    have e1 := txAt_n (T := T) (p := s) (by omega)
    refine rn_iload (x := (s : Int)) (q := 22) dX8_faultInSpring_20 rfl rfl ?_
    refine rn_iload_n (x := (N : Int)) (q := 23) dX8_faultInSpring_22 rfl rfl ?_
    refine rn_cmpge (t := 91) (q := 26) dX8_faultInSpring_23 rfl rfl (fun h => absurd h (by omega)) (fun w23 => ?_)
    refine rn_iload_n (x := 0) (q := 27) dX8_faultInSpring_26 rfl rfl ?_
    refine rn_ifle (t := 52) (q := 30) dX8_faultInSpring_27 rfl rfl (fun w27 => ?_) (fun h => absurd h (by decide))
    refine rn_aload_n (x := 0) (q := 53) dX8_faultInSpring_52 rfl rfl ?_
    refine rn_get (a := 0) (v := .inr (.inr 2)) (q := 56) dX8_faultInSpring_53 fl_X8_10 rfl rfl rfl ?_
    refine rn_iload (x := (s : Int)) (q := 58) dX8_faultInSpring_56 rfl rfl ?_
    refine rn_callV (b := 1) (as := [.inl (s : Int)]) (rest := []) (q := 61) dX8_faultInSpring_58 ml_X8_142 sm_X7_at rfl rfl (by decide) (by omega) rfl rfl (Nat.le_of_ble_eq_true rfl) rfl (s_Tat (d := d + 1) hT (s : Int)) ?_
    intro r58 mem58 hq58
    obtain ⟨rfl, rfl⟩ := hq58
    show am_Rn l G _ _ 61 [some (.inr (.inr 1)), some (.inl (N : Int)), some (.inl 0), some (.inl le), some (.inl (s : Int))] [.inl (txAt T (s : Int))] mem _
    rw [e1]
    refine rn_callS (as := [.inl (T.getD s 0 : Int)]) (rest := []) (q := 64) dX8_faultInSpring_61 ml_X8_272 sm_X8_digitsBehind (by omega) rfl rfl (Nat.le_of_ble_eq_true rfl) rfl (c_digitsBehind (d := d + 1) (T.getD s 0 : Int)) ?_
    intro r61 mem61 hq61
    obtain ⟨rfl, rfl⟩ := hq61
    show am_Rn l G _ _ 64 [some (.inr (.inr 1)), some (.inl (N : Int)), some (.inl 0), some (.inl le), some (.inl (s : Int))] [.inl (dgB (T.getD s 0 : Int) : Int)] mem _
    refine rn_istore_n (ls' := [some (.inr (.inr 1)), some (.inl (N : Int)), some (.inl (dgB (T.getD s 0 : Int) : Int)), some (.inl le), some (.inl (s : Int))]) (q := 65) dX8_faultInSpring_64 (by decide) rfl rfl ?_
    refine rn_iload_n (x := (dgB (T.getD s 0 : Int) : Int)) (q := 66) dX8_faultInSpring_65 rfl rfl ?_
    refine rn_ifne (t := 72) (q := 69) dX8_faultInSpring_66 rfl rfl (fun h => absurd h (by omega)) (fun w66 => ?_)
    refine rn_iload (x := (s : Int)) (q := 71) dX8_faultInSpring_69 rfl rfl ?_
    refine rn_iret dX8_faultInSpring_71 rfl ?_
    rw [← k]; exact hQ _ _ ⟨rfl, rfl⟩
  have SD : ∀ (ow p : Nat) (le : Int), p < N → 0 < ow → ow ≤ 2 → le ≤ txDg T (p : Int) → am_Rn l G mt_X8_faultInSpring (d + 2) 20 [some (.inr (.inr 1)), some (.inl (N : Int)), some (.inl ((ow - 1 : Nat) : Int)), some (.inl le), some (.inl ((p + 1 : Nat) : Int))] [] mem Q → am_Rn l G mt_X8_faultInSpring (d + 2) 20 [some (.inr (.inr 1)), some (.inl (N : Int)), some (.inl (ow : Int)), some (.inl le), some (.inl (p : Int))] [] mem Q := by
    intro ow p le hs hd hd2 hle k
    refine rn_iload (x := (p : Int)) (q := 22) dX8_faultInSpring_20 rfl rfl ?_
    refine rn_iload_n (x := (N : Int)) (q := 23) dX8_faultInSpring_22 rfl rfl ?_
    refine rn_cmpge (t := 91) (q := 26) dX8_faultInSpring_23 rfl rfl (fun h => absurd h (by omega)) (fun w23 => ?_)
    refine rn_iload_n (x := (ow : Int)) (q := 27) dX8_faultInSpring_26 rfl rfl ?_
    refine rn_ifle (t := 52) (q := 30) dX8_faultInSpring_27 rfl rfl (fun h => absurd h (by omega)) (fun w27 => ?_)
    refine rn_aload_n (x := 0) (q := 31) dX8_faultInSpring_30 rfl rfl ?_
    refine rn_get (a := 0) (v := .inr (.inr 2)) (q := 34) dX8_faultInSpring_31 fl_X8_10 rfl rfl rfl ?_
    refine rn_iload (x := (p : Int)) (q := 36) dX8_faultInSpring_34 rfl rfl ?_
    refine rn_callV (b := 1) (as := [.inl (p : Int)]) (rest := []) (q := 39) dX8_faultInSpring_36 ml_X8_119 sm_X7_digit rfl rfl (by decide) (by omega) rfl rfl (Nat.le_of_ble_eq_true rfl) rfl (s_Tdigit (d := d + 0) hT (p : Int)) ?_
    intro r36 mem36 hq36
    obtain ⟨rfl, rfl⟩ := hq36
    show am_Rn l G _ _ 39 [some (.inr (.inr 1)), some (.inl (N : Int)), some (.inl (ow : Int)), some (.inl le), some (.inl (p : Int))] [.inl (txDg T (p : Int))] mem _
    refine rn_iload_n (x := le) (q := 40) dX8_faultInSpring_39 rfl rfl ?_
    refine rn_cmpge (t := 46) (q := 43) dX8_faultInSpring_40 rfl rfl (fun w40 => ?_) (fun h => absurd h (by omega))
    refine rn_iincN (x := (ow : Int)) (z := ((ow - 1 : Nat) : Int)) (ls' := [some (.inr (.inr 1)), some (.inl (N : Int)), some (.inl ((ow - 1 : Nat) : Int)), some (.inl le), some (.inl (p : Int))]) (q := 49) dX8_faultInSpring_46 rfl (by decide) (by omega) (by unfold am_ok; omega) rfl rfl ?_
    refine rn_goto (t := 85) dX8_faultInSpring_49 rfl ?_
    refine rn_iincN (x := (p : Int)) (z := ((p + 1 : Nat) : Int)) (ls' := [some (.inr (.inr 1)), some (.inl (N : Int)), some (.inl ((ow - 1 : Nat) : Int)), some (.inl le), some (.inl ((p + 1 : Nat) : Int))]) (q := 88) dX8_faultInSpring_85 rfl (by decide) (by omega) (by unfold am_ok; omega) rfl rfl ?_
    refine rn_goto (t := 20) dX8_faultInSpring_88 rfl ?_
    exact k
  have SDb : ∀ (ow p : Nat) (le : Int), p < N → 0 < ow → ow ≤ 2 → ¬ le ≤ txDg T (p : Int) → F = (p : Int) → am_Rn l G mt_X8_faultInSpring (d + 2) 20 [some (.inr (.inr 1)), some (.inl (N : Int)), some (.inl (ow : Int)), some (.inl le), some (.inl (p : Int))] [] mem Q := by
    intro ow p le hs hd hd2 hle k
    refine rn_iload (x := (p : Int)) (q := 22) dX8_faultInSpring_20 rfl rfl ?_
    refine rn_iload_n (x := (N : Int)) (q := 23) dX8_faultInSpring_22 rfl rfl ?_
    refine rn_cmpge (t := 91) (q := 26) dX8_faultInSpring_23 rfl rfl (fun h => absurd h (by omega)) (fun w23 => ?_)
    refine rn_iload_n (x := (ow : Int)) (q := 27) dX8_faultInSpring_26 rfl rfl ?_
    refine rn_ifle (t := 52) (q := 30) dX8_faultInSpring_27 rfl rfl (fun h => absurd h (by omega)) (fun w27 => ?_)
    refine rn_aload_n (x := 0) (q := 31) dX8_faultInSpring_30 rfl rfl ?_
    refine rn_get (a := 0) (v := .inr (.inr 2)) (q := 34) dX8_faultInSpring_31 fl_X8_10 rfl rfl rfl ?_
    refine rn_iload (x := (p : Int)) (q := 36) dX8_faultInSpring_34 rfl rfl ?_
    refine rn_callV (b := 1) (as := [.inl (p : Int)]) (rest := []) (q := 39) dX8_faultInSpring_36 ml_X8_119 sm_X7_digit rfl rfl (by decide) (by omega) rfl rfl (Nat.le_of_ble_eq_true rfl) rfl (s_Tdigit (d := d + 0) hT (p : Int)) ?_
    intro r36 mem36 hq36
    obtain ⟨rfl, rfl⟩ := hq36
    show am_Rn l G _ _ 39 [some (.inr (.inr 1)), some (.inl (N : Int)), some (.inl (ow : Int)), some (.inl le), some (.inl (p : Int))] [.inl (txDg T (p : Int))] mem _
    refine rn_iload_n (x := le) (q := 40) dX8_faultInSpring_39 rfl rfl ?_
    refine rn_cmpge (t := 46) (q := 43) dX8_faultInSpring_40 rfl rfl (fun h => absurd h (by omega)) (fun w40 => ?_)
    refine rn_iload (x := (p : Int)) (q := 45) dX8_faultInSpring_43 rfl rfl ?_
    refine rn_iret dX8_faultInSpring_45 rfl ?_
    rw [← k]; exact hQ _ _ ⟨rfl, rfl⟩
  have L : ∀ (f s : Nat) (le : Int), s ≤ N → N - s < f → spF T f s = F → am_Rn l G mt_X8_faultInSpring (d + 2) 20 [some (.inr (.inr 1)), some (.inl (N : Int)), some (.inl 0), some (.inl le), some (.inl (s : Int))] [] mem Q := by
    intro f
    induction f with
    | zero => exact fun s le _ h _ => absurd h (Nat.not_lt_zero _)
    | succ f ih =>
      intro s le hs hf hsp
      unfold spF at hsp
      rw [← hN] at hsp
      have h3 := dgB_3 (T.getD s 0)
      by_cases c : N ≤ s
      · rw [if_pos c] at hsp
        refine rn_iload (x := (s : Int)) (q := 22) dX8_faultInSpring_20 rfl rfl ?_
        refine rn_iload_n (x := (N : Int)) (q := 23) dX8_faultInSpring_22 rfl rfl ?_
        refine rn_cmpge (t := 91) (q := 26) dX8_faultInSpring_23 rfl rfl (fun w23 => ?_) (fun h => absurd h (by omega))
        refine rn_iload_n (x := 0) (q := 92) dX8_faultInSpring_91 rfl rfl ?_
        refine rn_ifle (t := 97) (q := 95) dX8_faultInSpring_92 rfl rfl (fun w92 => ?_) (fun h => absurd h (by decide))
        refine rn_aload_n (x := 0) (q := 98) dX8_faultInSpring_97 rfl rfl ?_
        refine rn_get (a := 0) (v := .inr (.inr 2)) (q := 101) dX8_faultInSpring_98 fl_X8_10 rfl rfl rfl ?_
        refine rn_get (a := 1) (v := .inl (T.length : Int)) (q := 104) dX8_faultInSpring_101 fl_X8_107 rfl (am_gi hT.1) rfl ?_
        refine rn_bipush (q := 106) dX8_faultInSpring_104 ⟨by decide, by decide⟩ rfl ?_
        refine rn_cmple (t := 114) (q := 109) dX8_faultInSpring_106 rfl rfl (fun w106 => ?_) (fun w106 => ?_)
        · refine rn_iconst (q := 115) dX8_faultInSpring_114 (am_okd rfl) rfl ?_
          refine rn_iret dX8_faultInSpring_115 rfl ?_
          first | (rw [if_pos (by omega)] at hsp; rw [← hsp] at hQ; exact hQ _ _ ⟨rfl, rfl⟩) | (rw [if_neg (by omega)] at hsp; rw [← hsp] at hQ; exact hQ _ _ ⟨rfl, rfl⟩)
        · refine rn_bipush (q := 111) dX8_faultInSpring_109 ⟨by decide, by decide⟩ rfl ?_
          refine rn_goto (t := 115) dX8_faultInSpring_111 rfl ?_
          refine rn_iret dX8_faultInSpring_115 rfl ?_
          first | (rw [if_pos (by omega)] at hsp; rw [← hsp] at hQ; exact hQ _ _ ⟨rfl, rfl⟩) | (rw [if_neg (by omega)] at hsp; rw [← hsp] at hQ; exact hQ _ _ ⟨rfl, rfl⟩)
      · rw [if_neg c] at hsp
        have l0 : dgB (T.getD s 0) = 2 → lsB (T.getD s 0) = 0 := by
          intro c2
          unfold dgB at c2; unfold lsB
          rw [if_neg (fun z => by rw [if_neg (by omega)] at c2; split at c2 <;> omega)]
        by_cases cw : wfA T s = -1
        · rw [if_pos cw] at hsp
          obtain ⟨w1, w2, w3, w4, w5⟩ := wfA_ok cw
          rw [← hN] at w2 w4 w5
          refine SL s le (by omega) w1 (SD _ _ _ (by omega) w1 h3 w3 ?_)
          unfold nxA at hsp w5
          by_cases c2 : dgB (T.getD s 0) = 2
          · obtain ⟨w6, w7⟩ := w4 c2
            rw [c2] at hsp
            refine SD _ (s + 2) _ (by omega) (by omega) (by omega) (by rw [l0 c2]; exact w7) ?_
            rw [c2]
            exact ih (s + 3) _ (by omega) (by omega) hsp
          · have c1 : dgB (T.getD s 0) = 1 := by omega
            rw [c1] at hsp ⊢
            exact ih (s + 2) _ (by omega) (by omega) hsp
        · rw [if_neg cw] at hsp
          rcases wfA_no cw with ⟨d0, a⟩ | ⟨d0, d1, a⟩ | ⟨d0, d1, d2, a⟩
          · exact SLb s le (by omega) d0 (by rw [← hsp, a])
          · rw [← hN] at d1
            refine SL s le (by omega) d0 ?_
            by_cases e : s + 1 < N
            · exact SDb _ _ _ e d0 h3 (fun z => d1 ⟨e, z⟩) (by rw [← hsp, a])
            · have e2 : s + 1 = N := by omega
              rw [e2]
              exact O _ _ d0 (by rw [← hsp, a, e2])
          · rw [← hN] at d1 d2
            refine SL s le (by omega) (by omega) (SD _ _ _ (by omega) (by omega) h3 d1.2 ?_)
            by_cases e : s + 2 < N
            · exact SDb _ (s + 2) _ e (by omega) (by omega) (fun z => d2 ⟨e, by rw [l0 d0] at z; exact z⟩) (by rw [← hsp, a])
            · have e2 : s + 1 + 1 = N := by omega
              rw [e2]
              exact O _ _ (by omega) (by rw [← hsp, a, ← e2])
  refine rn_aload_n (x := 0) (q := 1) dX8_faultInSpring_0 rfl rfl ?_
  refine rn_get (a := 0) (v := .inr (.inr 2)) (q := 4) dX8_faultInSpring_1 fl_X8_10 rfl rfl rfl ?_
  refine rn_get (a := 1) (v := .inl (T.length : Int)) (q := 7) dX8_faultInSpring_4 fl_X8_107 rfl (am_gi hT.1) rfl ?_
  refine rn_bipush (q := 9) dX8_faultInSpring_7 ⟨by decide, by decide⟩ rfl ?_
  refine rn_mmin (q := 12) dX8_faultInSpring_9 am_mm_X8_130 am_mminw (Nat.le_of_ble_eq_true rfl) rfl ?_
  rw [show (min (T.length : Int) 60) = (N : Int) from (by omega)]
  refine rn_istore_n (ls' := [some (.inr (.inr 1)), some (.inl (N : Int)), none, none, none]) (q := 13) dX8_faultInSpring_12 (by decide) rfl rfl ?_
  refine rn_iconst (q := 14) dX8_faultInSpring_13 (am_okd rfl) rfl ?_
  refine rn_istore_n (ls' := [some (.inr (.inr 1)), some (.inl (N : Int)), some (.inl 0), none, none]) (q := 15) dX8_faultInSpring_14 (by decide) rfl rfl ?_
  refine rn_iconst (q := 16) dX8_faultInSpring_15 (am_okd rfl) rfl ?_
  refine rn_istore_n (ls' := [some (.inr (.inr 1)), some (.inl (N : Int)), some (.inl 0), some (.inl 0), none]) (q := 17) dX8_faultInSpring_16 (by decide) rfl rfl ?_
  refine rn_iconst (q := 18) dX8_faultInSpring_17 (am_okd rfl) rfl ?_
  refine rn_istore (ls' := [some (.inr (.inr 1)), some (.inl (N : Int)), some (.inl 0), some (.inl 0), some (.inl 0)]) (q := 20) dX8_faultInSpring_18 (by decide) rfl rfl ?_
  exact L 61 0 0 (Nat.zero_le _) (by omega) hF.symm
end P97
