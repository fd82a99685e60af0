/-! the class's reader of rules as a pure machine, and that it reads as the model's -/
def jn (c x y : Int) : Int := if c = 60 ∨ c = 61 ∨ c = 62 then cmpv c x y else if c = 43 ∨ c = 45 then addv c x y else mulv c x y
def evs (f : Nat → Int) (S : List Int) (x : Int) : List Int :=
  if -7 ≤ x then (if 0 ≤ x then x else f (-1 - x).toNat) :: S
  else if x = -256 then (match S with | [] => [] | y :: t => am_w32 (-y) :: t)
  else (match S with | y :: z :: t => jn (-x) z y :: t | S => S)
def ev (f : Nat → Int) (C : List Int) : List Int := C.foldl (evs f) []
def ng (P : List Int) : List Int := P.map (fun h => -h)
theorem ev_snoc {f : Nat → Int} (C : List Int) (x : Int) : ev f (C ++ [x]) = evs f (ev f C) x := by unfold ev; rw [List.foldl_append]; rfl
theorem ng_snoc (P : List Int) (x : Int) : ng (P ++ [x]) = ng P ++ [-x] := by simp [ng]
theorem relC_pre {b : Int} {HS : List Int} (hH : ∀ h ∈ HS.head?, bnd h < b) : ∀ (P C : List Int), (∀ h ∈ P, b ≤ bnd h) → relC b C (P ++ HS) = (C ++ ng P, HS) := by
  intro P
  induction P with
  | nil =>
    intro C _
    cases HS with
    | nil => simp [relC, ng]
    | cons h t =>
      have := hH h rfl
      rw [List.nil_append, relC, if_neg (by omega)]; simp [ng]
  | cons p t ih =>
    intro C hp
    rw [List.cons_append, relC, if_pos (hp p List.mem_cons_self), ih _ (fun h hh => hp h (List.mem_cons_of_mem _ hh))]
    simp [ng]
theorem evs_bin {f : Nat → Int} {c y z : Int} {t : List Int} (h : 7 < c ∧ c < 256) : evs f (y :: z :: t) (-c) = jn c z y :: t := by
  unfold evs
  rw [if_neg (by omega), if_neg (by omega), Int.neg_neg]
theorem evs_neg {f : Nat → Int} {y : Int} {t : List Int} : evs f (y :: t) (-256) = am_w32 (-y) :: t := by
  unfold evs
  rw [if_neg (by omega), if_pos rfl]
theorem evs_num {f : Nat → Int} {x : Int} {S : List Int} (h : 0 ≤ x) : evs f S x = x :: S := by
  unfold evs
  rw [if_pos (by omega), if_pos h]
theorem evs_let {f : Nat → Int} {k : Int} {S : List Int} (h : 0 ≤ k ∧ k ≤ 6) : evs f S (-1 - k) = f k.toNat :: S := by
  unfold evs
  rw [if_pos (by omega), if_neg (by omega)]
  have : -1 - (-1 - k) = k := by omega
  rw [this]
abbrev RS : Type := List Int × List Int × Nat × Nat × Nat × Bool
def bt (c d : Nat) : Nat := c / 2 ^ d % 2
def sbt (c d : Nat) : Nat := if bt c d = 1 then c else c + 2 ^ d
def cbt (c d : Nat) : Nat := if bt c d = 1 then c - 2 ^ d else c
theorem sbt_all : ∀ c, c < 32 → ∀ d, d < 5 → sbt c d < 32 ∧ bt (sbt c d) d = 1 ∧ ∀ k, k < d → bt (sbt c d) k = bt c k := by decide +kernel
theorem cbt_all : ∀ c, c < 32 → ∀ d, d < 5 → cbt c d < 32 ∧ bt (cbt c d) d = 0 ∧ ∀ k, k < d → bt (cbt c d) k = bt c k := by decide +kernel
def rth (s : RS) (c : Int) : Option RS :=
  if c = 45 then some (s.1, 256 :: s.2.1, s.2.2.1, s.2.2.2.1, s.2.2.2.2.1, true)
  else if c = 40 then (if 4 ≤ s.2.2.1 then none else some (s.1, 40 :: s.2.1, s.2.2.1 + 1, cbt s.2.2.2.1 (s.2.2.1 + 1), s.2.2.2.2.1, true))
  else if 48 ≤ c ∧ c ≤ 57 then some (s.1 ++ [c - 48], s.2.1, s.2.2.1, s.2.2.2.1, 1, false)
  else if ltr c = -1 then none
  else some (s.1 ++ [-1 - ltr c], s.2.1, s.2.2.1, s.2.2.2.1, 3, false)
def rnx (s : RS) (c : Int) : Option RS :=
  if 48 ≤ c ∧ c ≤ 57 then (if 3 ≤ s.2.2.2.2.1 ∨ s.1 = [] then none else some (s.1.dropLast ++ [s.1.getLastD 0 * 10 + (c - 48)], s.2.1, s.2.2.1, s.2.2.2.1, s.2.2.2.2.1 + 1, false))
  else if c = 41 then (if s.2.2.1 = 0 then none else some ((relC 1 s.1 s.2.1).1, (relC 1 s.1 s.2.1).2.tail, s.2.2.1 - 1, s.2.2.2.1, 3, false))
  else if bnd c = 0 ∨ (bnd c = 1 ∧ bt s.2.2.2.1 s.2.2.1 = 1) then none
  else some ((relC (bnd c) s.1 s.2.1).1, c :: (relC (bnd c) s.1 s.2.1).2, s.2.2.1, if bnd c = 1 then sbt s.2.2.2.1 s.2.2.1 else s.2.2.2.1, s.2.2.2.2.1, true)
def stp (s : RS) (c : Int) : Option RS := if s.2.2.2.2.2 = true then rth s c else rnx s c
def go (T : List Nat) : Nat → RS → Nat → Nat ⊕ (List Int × List Int)
  | 0, s, a => if s.2.2.2.2.2 = true ∨ 0 < s.2.2.1 then .inl a else .inr (s.1, s.2.1)
  | k + 1, s, a => match stp s (txAt T (a : Int)) with
    | none => .inl a
    | some s1 => go T k s1 (a + 1)
def run (T : List Nat) (s : RS) (a : Nat) : Nat ⊕ (List Int × List Int) := go T (T.length - a) s a
theorem run_some {T : List Nat} {s s1 : RS} {a : Nat} (h : a < T.length) (e : stp s (txAt T (a : Int)) = some s1) : run T s a = run T s1 (a + 1) := by
  unfold run
  obtain ⟨k, hk⟩ : ∃ k, T.length - a = k + 1 := ⟨T.length - a - 1, by omega⟩
  have h2 : T.length - (a + 1) = k := by omega
  rw [hk, h2, go, e]
theorem run_none {T : List Nat} {s : RS} {a : Nat} (h : a < T.length) (e : stp s (txAt T (a : Int)) = none) : run T s a = .inl a := by
  unfold run
  obtain ⟨k, hk⟩ : ∃ k, T.length - a = k + 1 := ⟨T.length - a - 1, by omega⟩
  rw [hk, go, e]
theorem run_end {T : List Nat} {s : RS} {a : Nat} (h : a = T.length) : run T s a = if s.2.2.2.2.2 = true ∨ 0 < s.2.2.1 then .inl a else .inr (s.1, s.2.1) := by
  unfold run
  rw [h, Nat.sub_self, go]
def RO (T : List Nat) (f : Nat → Int) (b b2 : Int) (S0 HS : List Int) (dp cb j : Nat) (e : Bool) (R : Nat ⊕ (List Int × List Int)) (r : Int × Nat × Int) : Prop :=
  (∃ i : Nat, r.2.2 = (i : Int) ∧ R = .inl i) ∨
  (r.2.2 = -1 ∧ ∃ (C P : List Int) (c2 dg : Nat), R = run T (C, P ++ HS, dp, c2, dg, false) r.2.1 ∧ (∀ h ∈ P, b ≤ bnd h) ∧ ev f (C ++ ng P) = r.1 :: S0 ∧ c2 < 32 ∧ (∀ k, k < j → bt c2 k = bt cb k) ∧ (3 ≤ dg ∨ ¬ (48 ≤ txAt T (r.2.1 : Int) ∧ txAt T (r.2.1 : Int) ≤ 57)) ∧ bnd (txAt T (r.2.1 : Int)) < b2 ∧ (e = true → bnd (txAt T (r.2.1 : Int)) = 1 → bt c2 dp = 1))
def Q0 (T : List Nat) (f : Nat → Int) (n : Nat) : Prop := ∀ (dp a : Nat) (r : Int × Nat × Int) (C HS : List Int) (cb dg : Nat), ps T f n 0 dp 0 a (-1) = some r → a ≤ T.length → dp ≤ 4 → cb < 32 → RO T f 4 4 (ev f C) HS dp cb (dp + 1) false (run T (C, HS, dp, cb, dg, true) a) r
def Qo (T : List Nat) (f : Nat → Int) (n md : Nat) (b : Int) : Prop := ∀ (dp a : Nat) (r : Int × Nat × Int) (C HS : List Int) (cb dg : Nat), ps T f n md dp 0 a (-1) = some r → a ≤ T.length → dp ≤ 4 → cb < 32 → (∀ h ∈ HS.head?, bnd h < b) → RO T f b b (ev f C) HS dp cb (dp + 1) false (run T (C, HS, dp, cb, dg, true) a) r
def Ql (T : List Nat) (f : Nat → Int) (n md : Nat) (b : Int) : Prop := ∀ (dp : Nat) (v : Int) (a : Nat) (r : Int × Nat × Int) (C P HS S0 : List Int) (cb0 cb dg : Nat), ps T f n md dp v a (-1) = some r → a ≤ T.length → dp ≤ 4 → cb < 32 → (∀ k, k < dp + 1 → bt cb k = bt cb0 k) → (∀ h ∈ P, b ≤ bnd h) → (∀ h ∈ HS.head?, bnd h < b) → ev f (C ++ ng P) = v :: S0 → (3 ≤ dg ∨ ¬ (48 ≤ txAt T (a : Int) ∧ txAt T (a : Int) ≤ 57)) → bnd (txAt T (a : Int)) < b + 1 → RO T f b b S0 HS dp cb0 (dp + 1) false (run T (C, P ++ HS, dp, cb, dg, false) a) r
def Q5 (T : List Nat) (f : Nat → Int) (n : Nat) : Prop := ∀ (dp a : Nat) (r : Int × Nat × Int) (C HS : List Int) (cb dg : Nat), ps T f n 5 dp 0 a (-1) = some r → a ≤ T.length → dp ≤ 4 → cb < 32 → (∀ h ∈ HS.head?, bnd h < 1) → bt cb dp = 0 → RO T f 1 2 (ev f C) HS dp cb dp true (run T (C, HS, dp, cb, dg, true) a) r
theorem bnd_lt4 {c : Int} (h : c ≤ 255) : bnd c < 4 := by
  unfold bnd
  split
  · decide
  · split
    · decide
    · split
      · decide
      · rw [if_neg (by omega)]; decide
theorem bnd_3 {c : Int} (h : bnd c < 4) (h1 : ¬ (c = 42 ∨ c = 47)) : bnd c < 3 := by
  unfold bnd at h ⊢
  by_cases h2 : c = 60 ∨ c = 61 ∨ c = 62
  · rw [if_pos h2]; decide
  · rw [if_neg h2] at h ⊢
    by_cases h3 : c = 43 ∨ c = 45
    · rw [if_pos h3]; decide
    · rw [if_neg h3, if_neg h1] at h ⊢
      by_cases h4 : c = 256
      · rw [if_pos h4] at h; exact absurd h (by decide)
      · rw [if_neg h4]; decide
theorem bnd_2 {c : Int} (h : bnd c < 3) (h1 : ¬ (c = 43 ∨ c = 45)) : bnd c < 2 := by
  unfold bnd at h ⊢
  by_cases h2 : c = 60 ∨ c = 61 ∨ c = 62
  · rw [if_pos h2]; decide
  · rw [if_neg h2, if_neg h1] at h ⊢
    by_cases h3 : c = 42 ∨ c = 47
    · rw [if_pos h3] at h; exact absurd h (by decide)
    · rw [if_neg h3] at h ⊢
      by_cases h4 : c = 256
      · rw [if_pos h4] at h; exact absurd h (by decide)
      · rw [if_neg h4]; decide
theorem bnd_1 {c : Int} (h : bnd c = 1) : c = 60 ∨ c = 61 ∨ c = 62 := by
  unfold bnd at h
  split at h
  · assumption
  · split at h
    · exact absurd h (by decide)
    · split at h
      · exact absurd h (by decide)
      · split at h
        · exact absurd h (by decide)
        · exact absurd h (by decide)
theorem bnd_nn (c : Int) : 0 ≤ bnd c := by
  unfold bnd
  split
  · decide
  · split
    · decide
    · split
      · decide
      · split <;> decide
theorem ltr_ok (c : Int) : -1 ≤ ltr c ∧ ltr c ≤ 6 := by
  unfold ltr
  repeat' split
  all_goals decide
theorem RO.imp {T : List Nat} {f : Nat → Int} {b b2 : Int} {S0 HS : List Int} {dp cb j : Nat} {e : Bool} {R R1 : Nat ⊕ (List Int × List Int)} {r : Int × Nat × Int} (h : RO T f b b2 S0 HS dp cb j e R r) (hR : R1 = R) : RO T f b b2 S0 HS dp cb j e R1 r := hR ▸ h
theorem rq0 {T : List Nat} {f : Nat → Int} {n : Nat} (hT : ∀ i, T.getD i 0 < 256) (I0 : Q0 T f n) (I5 : Q5 T f n) : Q0 T f (n + 1) := by
  intro dp a r C HS cb dg h ha hd hc
  have hB : ∀ p : Nat, bnd (txAt T (p : Int)) < 4 := fun p => bnd_lt4 (txAt_ok hT).2
  rw [ps] at h
  split at h
  · rename_i h1
    have hl := txAt_lt (T := T) (a := a) (by rw [h1.2]; decide)
    obtain ⟨r0, hr0, rfl⟩ := Option.map_eq_some_iff.mp h
    refine RO.imp ?_ (run_some hl (s1 := (C, 256 :: HS, dp, cb, dg, true)) (by rw [h1.2]; rfl))
    rcases I0 dp (a + 1) r0 C (256 :: HS) cb dg hr0 hl hd hc with ⟨i, hi, hR⟩ | ⟨hw, C', P, c2, dg2, hR, hP, hE, hc2, hk, hdg, hb, _⟩
    · exact .inl ⟨i, hi, hR⟩
    · refine .inr ⟨hw, C', P ++ [256], c2, dg2, ?_, ?_, ?_, hc2, hk, hdg, hb, fun e => by cases e⟩
      · rw [hR, List.append_assoc]; rfl
      · intro x hx
        rcases List.mem_append.mp hx with hx | hx
        · exact hP x hx
        · rw [List.mem_singleton.mp hx]; decide
      · rw [ng_snoc, ← List.append_assoc, ev_snoc, hE, evs_neg]
  · rename_i h1
    rw [if_neg (by decide)] at h
    have h45 : txAt T (a : Int) ≠ 45 := fun e => h1 ⟨rfl, e⟩
    split at h
    · rename_i h2
      have hl := txAt_lt (T := T) (a := a) (by rw [h2.1]; decide)
      obtain ⟨r0, hr0, rfl⟩ := Option.map_eq_some_iff.mp h
      have hcb := cbt_all cb hc (dp + 1) (by omega)
      refine RO.imp ?_ (run_some hl (s1 := (C, 40 :: HS, dp + 1, cbt cb (dp + 1), dg, true)) (by rw [h2.1]; show (if 4 ≤ dp then _ else _) = _; rw [if_neg (by omega)]))
      rcases I5 (dp + 1) (a + 1) r0 C (40 :: HS) (cbt cb (dp + 1)) dg hr0 hl (by omega) hcb.1 (fun x hx => by cases hx; decide) hcb.2.1 with ⟨i, hi, hR⟩ | ⟨hw, C', P, c2, dg2, hR, hP, hE, hc2, hk, hdg, hb, he⟩
      · have hn : ¬ r0.2.2 = -1 := by omega
        refine .inl ⟨i, ?_, hR⟩
        rw [if_neg (fun q => hn q.1)]
        show (if r0.2.2 = -1 then _ else _) = _
        rw [if_neg hn, hi]
      · by_cases h41 : txAt T (r0.2.1 : Int) = 41
        · rw [if_pos ⟨hw, h41⟩]
          have hl2 := txAt_lt (T := T) (a := r0.2.1) (by rw [h41]; decide)
          have hrel := relC_pre (b := 1) (HS := 40 :: HS) (fun x hx => by cases hx; decide) P C' hP
          refine .inr ⟨hw, C' ++ ng P, [], c2, 3, ?_, by simp, ?_, hc2, fun k hk2 => ?_, .inl (by decide), hB _, fun e => by cases e⟩
          · rw [hR]
            refine run_some hl2 ?_
            rw [h41]
            show some ((relC 1 C' (P ++ 40 :: HS)).1, (relC 1 C' (P ++ 40 :: HS)).2.tail, dp, c2, 3, false) = _
            rw [hrel]; rfl
          · rw [show ng [] = [] from rfl, List.append_nil]; exact hE
          · rw [hk k hk2, hcb.2.2 k hk2]
        · rw [if_neg (fun q => h41 q.2)]
          refine .inl ⟨r0.2.1, ?_, ?_⟩
          · show (if r0.2.2 = -1 then _ else _) = _
            rw [if_pos hw]
          · rw [hR]
            by_cases hl2 : r0.2.1 < T.length
            · refine run_none hl2 ?_
              show rnx _ _ = none
              unfold rnx
              split
              · rename_i h5
                rw [if_pos (.inl (by rcases hdg with q | q; exact q; exact absurd h5 q))]
              · rw [if_pos]
                have := bnd_nn (txAt T (r0.2.1 : Int))
                by_cases h6 : bnd (txAt T (r0.2.1 : Int)) = 1
                · exact .inr ⟨h6, he rfl h6⟩
                · exact .inl (by omega)
            · have hle := (ps_at T f n 5 (dp + 1) 0 (a + 1) (-1) r0 hr0 hl).2
              rw [run_end (by omega)]
              rw [if_pos (.inr (by show 0 < dp + 1; omega))]
    · rename_i h2
      split at h
      · rename_i h3
        have hl := txAt_lt (T := T) (a := a) (by omega)
        obtain rfl := Option.some.inj h
        have s1 : stp (C, HS, dp, cb, dg, true) (txAt T (a : Int)) = some (C ++ [txAt T (a : Int) - 48], HS, dp, cb, 1, false) := by
          show rth _ _ = _
          unfold rth
          rw [if_neg h45, if_neg (by omega), if_pos h3]
        refine RO.imp ?_ (run_some hl s1)
        unfold nm3
        by_cases h4 : 48 ≤ txAt T ((a + 1 : Nat) : Int) ∧ txAt T ((a + 1 : Nat) : Int) ≤ 57
        · rw [if_pos h4]
          have hl2 := txAt_lt (T := T) (a := a + 1) (by omega)
          have s2 : stp (C ++ [txAt T (a : Int) - 48], HS, dp, cb, 1, false) (txAt T ((a + 1 : Nat) : Int)) = some (C ++ [10 * (txAt T (a : Int) - 48) + (txAt T ((a + 1 : Nat) : Int) - 48)], HS, dp, cb, 2, false) := by
            show rnx _ _ = _
            unfold rnx
            rw [if_pos h4, if_neg (by simp)]
            simp [Int.mul_comm]
          refine RO.imp ?_ (run_some hl2 s2)
          by_cases h5 : 48 ≤ txAt T ((a + 2 : Nat) : Int) ∧ txAt T ((a + 2 : Nat) : Int) ≤ 57
          · rw [if_pos h5]
            have hl3 := txAt_lt (T := T) (a := a + 2) (by omega)
            have s3 : stp (C ++ [10 * (txAt T (a : Int) - 48) + (txAt T ((a + 1 : Nat) : Int) - 48)], HS, dp, cb, 2, false) (txAt T ((a + 2 : Nat) : Int)) = some (C ++ [10 * (10 * (txAt T (a : Int) - 48) + (txAt T ((a + 1 : Nat) : Int) - 48)) + (txAt T ((a + 2 : Nat) : Int) - 48)], HS, dp, cb, 3, false) := by
              show rnx _ _ = _
              unfold rnx
              rw [if_pos h5, if_neg (by simp)]
              simp [Int.mul_comm]
            refine RO.imp ?_ (run_some hl3 s3)
            refine .inr ⟨rfl, _, [], cb, 3, rfl, by simp, ?_, hc, fun _ _ => rfl, .inl (by decide), hB _, fun e => by cases e⟩
            rw [show ng [] = [] from rfl, List.append_nil, ev_snoc, evs_num (by omega)]
          · rw [if_neg h5]
            refine .inr ⟨rfl, _, [], cb, 2, rfl, by simp, ?_, hc, fun _ _ => rfl, .inr h5, hB _, fun e => by cases e⟩
            rw [show ng [] = [] from rfl, List.append_nil, ev_snoc, evs_num (by omega)]
        · rw [if_neg h4]
          refine .inr ⟨rfl, _, [], cb, 1, rfl, by simp, ?_, hc, fun _ _ => rfl, .inr h4, hB _, fun e => by cases e⟩
          rw [show ng [] = [] from rfl, List.append_nil, ev_snoc, evs_num (by omega)]
      · rename_i h3
        split at h
        · rename_i h4
          obtain rfl := Option.some.inj h
          refine .inl ⟨a, rfl, ?_⟩
          by_cases hl : a < T.length
          · refine run_none hl ?_
            show rth _ _ = none
            unfold rth
            rw [if_neg h45]
            by_cases h40 : txAt T (a : Int) = 40
            · rw [if_pos h40, if_pos (by show 4 ≤ dp; omega)]
            · rw [if_neg h40, if_neg h3, if_pos h4]
          · rw [run_end (by omega), if_pos (.inl rfl)]
        · rename_i h4
          obtain rfl := Option.some.inj h
          have hlt := ltr_ok (txAt T (a : Int))
          have h40 : txAt T (a : Int) ≠ 40 := by intro e; rw [e] at h4; exact h4 (by decide)
          have hl := txAt_lt (T := T) (a := a) (by intro e; rw [e] at h4; exact h4 (by decide))
          refine RO.imp ?_ (run_some hl (s1 := (C ++ [-1 - ltr (txAt T (a : Int))], HS, dp, cb, 3, false)) (by show rth _ _ = _; unfold rth; rw [if_neg h45, if_neg h40, if_neg h3, if_neg h4]))
          refine .inr ⟨rfl, _, [], cb, 3, rfl, by simp, ?_, hc, fun _ _ => rfl, .inl (by decide), hB _, fun e => by cases e⟩
          rw [show ng [] = [] from rfl, List.append_nil, ev_snoc, evs_let (by omega)]
theorem ps_bad1 {T : List Nat} {f : Nat → Int} {n dp a : Nat} {v w : Int} {r : Int × Nat × Int} (hw : w ≠ -1) (h : ps T f n 1 dp v a w = some r) : r = (v, a, w) := by
  cases n with
  | zero => simp [ps] at h
  | succ n => rw [ps, if_neg (fun q => hw q.1)] at h; exact (Option.some.inj h).symm
theorem ps_bad3 {T : List Nat} {f : Nat → Int} {n dp a : Nat} {v w : Int} {r : Int × Nat × Int} (hw : w ≠ -1) (h : ps T f n 3 dp v a w = some r) : r = (v, a, w) := by
  cases n with
  | zero => simp [ps] at h
  | succ n => rw [ps, if_neg (fun q => hw q.1)] at h; exact (Option.some.inj h).symm
/-- a sign between: what the reader does with it -/
theorem stp_op {C P HS : List Int} {dp cb dg : Nat} {c b : Int} (hb : bnd c = b) (h0 : 0 < b) (h4 : b < 4) (hP : ∀ h ∈ P, b ≤ bnd h) (hH : ∀ h ∈ HS.head?, bnd h < b) (hk : b = 1 → bt cb dp = 0) : stp (C, P ++ HS, dp, cb, dg, false) c = some (C ++ ng P, c :: HS, dp, if b = 1 then sbt cb dp else cb, dg, true) := by
  have hrel := relC_pre hH P C hP
  show rnx _ _ = _
  unfold rnx
  have h1 : ¬ (48 ≤ c ∧ c ≤ 57) := by
    intro q
    unfold bnd at hb
    rw [if_neg (by omega), if_neg (by omega), if_neg (by omega), if_neg (by omega)] at hb
    omega
  have h2 : c ≠ 41 := by
    intro q
    rw [q] at hb
    have : bnd 41 = 0 := by decide
    omega
  rw [if_neg h1, if_neg h2, hb, if_neg]
  · show some ((relC b C (P ++ HS)).1, c :: (relC b C (P ++ HS)).2, _) = _
    rw [hrel]
  · intro q
    rcases q with q | q
    · omega
    · have := hk q.1
      have h3 : bt cb dp = 1 := q.2
      omega
theorem rq1 {T : List Nat} {f : Nat → Int} {n : Nat} (I0 : Q0 T f n) (I1 : Ql T f n 1 3) : Ql T f (n + 1) 1 3 := by
  intro dp v a r C P HS S0 cb0 cb dg h ha hd hc hk hP hH hE hdg hb
  rw [ps] at h
  by_cases h1 : (-1 : Int) = -1 ∧ (txAt T (a : Int) = 42 ∨ txAt T (a : Int) = 47)
  · rw [if_pos h1] at h
    obtain ⟨r0, hr0, h⟩ := Option.bind_eq_some_iff.mp h
    have hl := txAt_lt (T := T) (a := a) (by omega)
    have hb3 : bnd (txAt T (a : Int)) = 3 := by rcases h1.2 with q | q <;> rw [q] <;> decide
    have hc7 : 7 < txAt T (a : Int) ∧ txAt T (a : Int) < 256 := by omega
    refine RO.imp ?_ (run_some hl (stp_op hb3 (by decide) (by decide) hP hH (fun q => absurd q (by decide))))
    rw [if_neg (by decide)]
    rcases I0 dp (a + 1) r0 (C ++ ng P) (txAt T (a : Int) :: HS) cb dg hr0 hl hd hc with ⟨i, hi, hR⟩ | ⟨hw, C', P', c2, dg2, hR, hP', hE', hc2, hk', hdg', hb', _⟩
    · obtain rfl := ps_bad1 (by omega) h
      exact .inl ⟨i, hi, hR⟩
    · rw [hw] at h
      have hl2 := (ps_at T f n 0 dp 0 (a + 1) (-1) r0 hr0 hl).2
      refine RO.imp (I1 dp _ r0.2.1 r C' (P' ++ [txAt T (a : Int)]) HS S0 cb0 c2 dg2 h hl2 hd hc2 (fun k hk2 => (hk' k hk2).trans (hk k hk2)) ?_ hH ?_ hdg' hb') ?_
      · intro x hx
        rcases List.mem_append.mp hx with hx | hx
        · have := hP' x hx; omega
        · rw [List.mem_singleton.mp hx, hb3]; decide
      · rw [ng_snoc, ← List.append_assoc, ev_snoc, hE', hE, evs_bin hc7]
        unfold jn
        rw [if_neg (by omega), if_neg (by omega)]
      · rw [hR, List.append_assoc]; rfl
  · rw [if_neg h1] at h
    obtain rfl := Option.some.inj h
    exact .inr ⟨rfl, C, P, cb, dg, rfl, hP, hE, hc, hk, hdg, bnd_3 hb (fun q => h1 ⟨rfl, q⟩), fun e => by cases e⟩
theorem rq3 {T : List Nat} {f : Nat → Int} {n : Nat} (I2 : Qo T f n 2 3) (I3 : Ql T f n 3 2) : Ql T f (n + 1) 3 2 := by
  intro dp v a r C P HS S0 cb0 cb dg h ha hd hc hk hP hH hE hdg hb
  rw [ps] at h
  by_cases h1 : (-1 : Int) = -1 ∧ (txAt T (a : Int) = 43 ∨ txAt T (a : Int) = 45)
  · rw [if_pos h1] at h
    obtain ⟨r0, hr0, h⟩ := Option.bind_eq_some_iff.mp h
    have hl := txAt_lt (T := T) (a := a) (by omega)
    have hb3 : bnd (txAt T (a : Int)) = 2 := by rcases h1.2 with q | q <;> rw [q] <;> decide
    have hc7 : 7 < txAt T (a : Int) ∧ txAt T (a : Int) < 256 := by omega
    refine RO.imp ?_ (run_some hl (stp_op hb3 (by decide) (by decide) hP hH (fun q => absurd q (by decide))))
    rw [if_neg (by decide)]
    rcases I2 dp (a + 1) r0 (C ++ ng P) (txAt T (a : Int) :: HS) cb dg hr0 hl hd hc (fun x hx => by cases hx; rw [hb3]; decide) with ⟨i, hi, hR⟩ | ⟨hw, C', P', c2, dg2, hR, hP', hE', hc2, hk', hdg', hb', _⟩
    · obtain rfl := ps_bad3 (by omega) h
      exact .inl ⟨i, hi, hR⟩
    · rw [hw] at h
      have hl2 := (ps_at T f n 2 dp 0 (a + 1) (-1) r0 hr0 hl).2
      refine RO.imp (I3 dp _ r0.2.1 r C' (P' ++ [txAt T (a : Int)]) HS S0 cb0 c2 dg2 h hl2 hd hc2 (fun k hk2 => (hk' k hk2).trans (hk k hk2)) ?_ hH ?_ hdg' hb') ?_
      · intro x hx
        rcases List.mem_append.mp hx with hx | hx
        · have := hP' x hx; omega
        · rw [List.mem_singleton.mp hx, hb3]; decide
      · rw [ng_snoc, ← List.append_assoc, ev_snoc, hE', hE, evs_bin hc7]
        unfold jn
        rw [if_neg (by omega), if_pos (by omega)]
      · rw [hR, List.append_assoc]; rfl
  · rw [if_neg h1] at h
    obtain rfl := Option.some.inj h
    exact .inr ⟨rfl, C, P, cb, dg, rfl, hP, hE, hc, hk, hdg, bnd_2 hb (fun q => h1 ⟨rfl, q⟩), fun e => by cases e⟩
theorem rq2 {T : List Nat} {f : Nat → Int} {n : Nat} (I0 : Q0 T f n) (I1 : Ql T f n 1 3) : Qo T f (n + 1) 2 3 := by
  intro dp a r C HS cb dg h ha hd hc hH
  rw [ps] at h
  obtain ⟨r0, hr0, h⟩ := Option.bind_eq_some_iff.mp h
  rcases I0 dp a r0 C HS cb dg hr0 ha hd hc with ⟨i, hi, hR⟩ | ⟨hw, C', P', c2, dg2, hR, hP', hE', hc2, hk', hdg', hb', _⟩
  · obtain rfl := ps_bad1 (by omega) h
    exact .inl ⟨i, hi, hR⟩
  · rw [hw] at h
    have hl2 := (ps_at T f n 0 dp 0 a (-1) r0 hr0 ha).2
    exact RO.imp (I1 dp _ r0.2.1 r C' P' HS (ev f C) cb c2 dg2 h hl2 hd hc2 hk' (fun x hx => by have := hP' x hx; omega) hH hE' hdg' hb') hR
theorem rq4 {T : List Nat} {f : Nat → Int} {n : Nat} (I2 : Qo T f n 2 3) (I3 : Ql T f n 3 2) : Qo T f (n + 1) 4 2 := by
  intro dp a r C HS cb dg h ha hd hc hH
  rw [ps] at h
  obtain ⟨r0, hr0, h⟩ := Option.bind_eq_some_iff.mp h
  rcases I2 dp a r0 C HS cb dg hr0 ha hd hc (fun x hx => by have := hH x hx; omega) with ⟨i, hi, hR⟩ | ⟨hw, C', P', c2, dg2, hR, hP', hE', hc2, hk', hdg', hb', _⟩
  · obtain rfl := ps_bad3 (by omega) h
    exact .inl ⟨i, hi, hR⟩
  · rw [hw] at h
    have hl2 := (ps_at T f n 2 dp 0 a (-1) r0 hr0 ha).2
    exact RO.imp (I3 dp _ r0.2.1 r C' P' HS (ev f C) cb c2 dg2 h hl2 hd hc2 hk' (fun x hx => by have := hP' x hx; omega) hH hE' hdg' hb') hR
theorem rq5 {T : List Nat} {f : Nat → Int} {n : Nat} (I4 : Qo T f n 4 2) : Q5 T f (n + 1) := by
  intro dp a r C HS cb dg h ha hd hc hH hz
  rw [ps_5] at h
  obtain ⟨r0, hr0, h⟩ := Option.bind_eq_some_iff.mp h
  have hl2 := (ps_at T f n 4 dp 0 a (-1) r0 hr0 ha).2
  rcases I4 dp a r0 C HS cb dg hr0 ha hd hc (fun x hx => by have := hH x hx; omega) with ⟨i, hi, hR⟩ | ⟨hw, C', P', c2, dg2, hR, hP', hE', hc2, hk', hdg', hb', _⟩
  · rw [if_neg (fun q => by have := q.1; omega)] at h
    obtain rfl := Option.some.inj h
    exact .inl ⟨i, hi, hR⟩
  · by_cases h1 : r0.2.2 = -1 ∧ (txAt T (r0.2.1 : Int) = 60 ∨ txAt T (r0.2.1 : Int) = 62 ∨ txAt T (r0.2.1 : Int) = 61)
    · rw [if_pos h1] at h
      obtain ⟨s, hs, rfl⟩ := Option.map_eq_some_iff.mp h
      rw [hw] at hs
      have hl := txAt_lt (T := T) (a := r0.2.1) (by omega)
      have hb1 : bnd (txAt T (r0.2.1 : Int)) = 1 := by rcases h1.2 with q | q | q <;> rw [q] <;> decide
      have hc7 : 7 < txAt T (r0.2.1 : Int) ∧ txAt T (r0.2.1 : Int) < 256 := by omega
      have hz2 : bt c2 dp = 0 := by rw [hk' dp (by omega)]; exact hz
      have hsb := sbt_all c2 hc2 dp (by omega)
      refine RO.imp ?_ (hR.trans (run_some hl (stp_op hb1 (by decide) (by decide) (fun x hx => by have := hP' x hx; omega) hH (fun _ => hz2))))
      rw [if_pos rfl]
      rcases I4 dp (r0.2.1 + 1) s (C' ++ ng P') (txAt T (r0.2.1 : Int) :: HS) (sbt c2 dp) dg2 hs hl hd hsb.1 (fun x hx => by cases hx; rw [hb1]; decide) with ⟨i, hi, hR3⟩ | ⟨hw3, C3, P3, c3, dg3, hR3, hP3, hE3, hc3, hk3, hdg3, hb3, _⟩
      · exact .inl ⟨i, hi, hR3⟩
      · refine .inr ⟨hw3, C3, P3 ++ [txAt T (r0.2.1 : Int)], c3, dg3, ?_, ?_, ?_, hc3, fun k hk2 => ?_, hdg3, hb3, fun _ _ => ?_⟩
        · rw [hR3, List.append_assoc]; rfl
        · intro x hx
          rcases List.mem_append.mp hx with hx | hx
          · have := hP3 x hx; omega
          · rw [List.mem_singleton.mp hx, hb1]; decide
        · rw [ng_snoc, ← List.append_assoc, ev_snoc, hE3, hE', evs_bin hc7]
          unfold jn
          rw [if_pos (by omega)]
        · rw [hk3 k (by omega), hsb.2.2 k hk2, hk' k (by omega)]
        · rw [hk3 dp (by omega)]; exact hsb.2.1
    · rw [if_neg h1] at h
      obtain rfl := Option.some.inj h
      refine .inr ⟨hw, C', P', c2, dg2, hR, fun x hx => by have := hP' x hx; omega, hE', hc2, fun k hk2 => hk' k (by omega), hdg', hb', fun _ q => ?_⟩
      have := bnd_1 q
      exact absurd ⟨hw, by omega⟩ h1
theorem rp_all {T : List Nat} {f : Nat → Int} (hT : ∀ i, T.getD i 0 < 256) : ∀ n, Q0 T f n ∧ Ql T f n 1 3 ∧ Qo T f n 2 3 ∧ Ql T f n 3 2 ∧ Qo T f n 4 2 ∧ Q5 T f n := by
  intro n
  induction n with
  | zero =>
    refine ⟨?_, ?_, ?_, ?_, ?_, ?_⟩
    · intro dp a r C HS cb dg h; simp [ps] at h
    · intro dp v a r C P HS S0 cb0 cb dg h; simp [ps] at h
    · intro dp a r C HS cb dg h; simp [ps] at h
    · intro dp v a r C P HS S0 cb0 cb dg h; simp [ps] at h
    · intro dp a r C HS cb dg h; simp [ps] at h
    · intro dp a r C HS cb dg h; simp [ps] at h
  | succ n ih =>
    obtain ⟨i0, i1, i2, i3, i4, i5⟩ := ih
    exact ⟨rq0 hT i0 i5, rq1 i0 i1, rq2 i0 i1, rq3 i2 i3, rq4 i2 i3, rq5 i4⟩
/-- the whole text: the reader faults where the model's does, or its code leaves the model's value -/
theorem rp_top {T : List Nat} {f : Nat → Int} (hT : ∀ i, T.getD i 0 < 256) {n dg : Nat} {r : Int × Nat × Int} (h : ps T f n 5 0 0 0 (-1) = some r) : (∃ i : Nat, r.2.2 = (i : Int) ∧ run T ([], [], 0, 0, dg, true) 0 = .inl i) ∨ (r.2.2 = -1 ∧ r.2.1 < T.length ∧ run T ([], [], 0, 0, dg, true) 0 = .inl r.2.1) ∨ (r.2.2 = -1 ∧ r.2.1 = T.length ∧ ∃ C HS, run T ([], [], 0, 0, dg, true) 0 = .inr (C, HS) ∧ ev f (relC 0 C HS).1 = [r.1] ∧ (relC 0 C HS).2 = []) := by
  have hl2 := (ps_at T f n 5 0 0 0 (-1) r h (Nat.zero_le _)).2
  rcases (rp_all (f := f) hT n).2.2.2.2.2 0 0 r [] [] 0 dg h (Nat.zero_le _) (Nat.zero_le _) (by decide) (fun x hx => by cases hx) (by decide) with ⟨i, hi, hR⟩ | ⟨hw, C, P, c2, dg2, hR, hP, hE, hc2, hk, hdg, hb, he⟩
  · exact .inl ⟨i, hi, hR⟩
  · by_cases hl : r.2.1 < T.length
    · refine .inr (.inl ⟨hw, hl, ?_⟩)
      rw [hR]
      refine run_none hl ?_
      show rnx _ _ = none
      unfold rnx
      by_cases h5 : 48 ≤ txAt T (r.2.1 : Int) ∧ txAt T (r.2.1 : Int) ≤ 57
      · rw [if_pos h5, if_pos (.inl (by rcases hdg with q | q; exact q; exact absurd h5 q))]
      · rw [if_neg h5]
        by_cases h41 : txAt T (r.2.1 : Int) = 41
        · rw [if_pos h41]; rfl
        · rw [if_neg h41, if_pos]
          have := bnd_nn (txAt T (r.2.1 : Int))
          by_cases h6 : bnd (txAt T (r.2.1 : Int)) = 1
          · exact .inr ⟨h6, he rfl h6⟩
          · exact .inl (by omega)
    · refine .inr (.inr ⟨hw, by omega, C, P, ?_, ?_⟩)
      · rw [hR, run_end (by omega), List.append_nil]
        rfl
      · have hrel := relC_pre (b := 0) (HS := []) (fun x hx => by cases hx) P C (fun x hx => bnd_nn x)
        rw [List.append_nil] at hrel
        rw [hrel]
        exact ⟨hE, rfl⟩
