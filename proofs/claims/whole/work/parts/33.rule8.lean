def cm (m : Nat) : Nat := if m = 0 then 1 else if m = 1 then 1 else if m = 2 then 2 else if m = 3 then 1 else if m = 4 then 3 else 4
/-- enough fuel: the parser answers -/
theorem ps_tot (T : List Nat) (f : Nat → Int) : ∀ (n mode dp : Nat) (v : Int) (a : Nat) (w : Int), mode ≤ 5 → a ≤ T.length → 4 * (T.length - a) + cm mode ≤ n → ∃ r, ps T f n mode dp v a w = some r := by
  intro n
  induction n with
  | zero => intro mode dp v a w hm ha hn; exfalso; have : 1 ≤ cm mode := by unfold cm; (repeat' split) <;> omega
            omega
  | succ n ih =>
    intro mode dp v a w hm ha hn
    match mode, hm with
    | 0, _ =>
      rw [show cm 0 = 1 from rfl] at hn
      rw [ps]
      split
      · rename_i h1
        have hl := txAt_lt (T := T) (a := a) (by rw [h1.2]; decide)
        obtain ⟨r, hr⟩ := ih 0 dp 0 (a + 1) w (by decide) hl (by rw [show cm 0 = 1 from rfl]; omega)
        rw [hr]; exact ⟨_, rfl⟩
      · split
        · exact ⟨_, rfl⟩
        · split
          · rename_i h1
            have hl := txAt_lt (T := T) (a := a) (by rw [h1.1]; decide)
            obtain ⟨r, hr⟩ := ih 5 (dp + 1) 0 (a + 1) w (by decide) hl (by rw [show cm 5 = 4 from rfl]; omega)
            rw [hr]; exact ⟨_, rfl⟩
          · split
            · exact ⟨_, rfl⟩
            · split
              · exact ⟨_, rfl⟩
              · exact ⟨_, rfl⟩
    | 1, _ =>
      rw [show cm 1 = 1 from rfl] at hn
      rw [ps]
      split
      · rename_i h1
        have hl := txAt_lt (T := T) (a := a) (by omega)
        obtain ⟨r, hr⟩ := ih 0 dp 0 (a + 1) w (by decide) hl (by rw [show cm 0 = 1 from rfl]; omega)
        have hb := ps_at T f n 0 dp 0 (a + 1) w r hr hl
        rw [hr]
        exact ih 1 dp _ r.2.1 r.2.2 (by decide) hb.2 (by rw [show cm 1 = 1 from rfl]; omega)
      · exact ⟨_, rfl⟩
    | 2, _ =>
      rw [show cm 2 = 2 from rfl] at hn
      rw [ps]
      obtain ⟨r, hr⟩ := ih 0 dp 0 a w (by decide) ha (by rw [show cm 0 = 1 from rfl]; omega)
      have hb := ps_at T f n 0 dp 0 a w r hr ha
      rw [hr]
      exact ih 1 dp _ r.2.1 r.2.2 (by decide) hb.2 (by rw [show cm 1 = 1 from rfl]; omega)
    | 3, _ =>
      rw [show cm 3 = 1 from rfl] at hn
      rw [ps]
      split
      · rename_i h1
        have hl := txAt_lt (T := T) (a := a) (by omega)
        obtain ⟨r, hr⟩ := ih 2 dp 0 (a + 1) w (by decide) hl (by rw [show cm 2 = 2 from rfl]; omega)
        have hb := ps_at T f n 2 dp 0 (a + 1) w r hr hl
        rw [hr]
        exact ih 3 dp _ r.2.1 r.2.2 (by decide) hb.2 (by rw [show cm 3 = 1 from rfl]; omega)
      · exact ⟨_, rfl⟩
    | 4, _ =>
      rw [show cm 4 = 3 from rfl] at hn
      rw [ps]
      obtain ⟨r, hr⟩ := ih 2 dp 0 a w (by decide) ha (by rw [show cm 2 = 2 from rfl]; omega)
      have hb := ps_at T f n 2 dp 0 a w r hr ha
      rw [hr]
      exact ih 3 dp _ r.2.1 r.2.2 (by decide) hb.2 (by rw [show cm 3 = 1 from rfl]; omega)
    | 5, _ =>
      rw [show cm 5 = 4 from rfl] at hn
      rw [ps_5]
      obtain ⟨r, hr⟩ := ih 4 dp 0 a w (by decide) ha (by rw [show cm 4 = 3 from rfl]; omega)
      have hb := ps_at T f n 4 dp 0 a w r hr ha
      rw [hr]
      show ∃ r1, (if r.2.2 = -1 ∧ (txAt T (r.2.1 : Int) = 60 ∨ txAt T (r.2.1 : Int) = 62 ∨ txAt T (r.2.1 : Int) = 61) then (ps T f n 4 dp 0 (r.2.1 + 1) r.2.2).map (fun s => (cmpv (txAt T (r.2.1 : Int)) r.1 s.1, s.2)) else some r) = some r1
      split
      · rename_i h1
        have hl := txAt_lt (T := T) (a := r.2.1) (by omega)
        obtain ⟨s, hs⟩ := ih 4 dp 0 (r.2.1 + 1) r.2.2 (by decide) hl (by rw [show cm 4 = 3 from rfl]; omega)
        rw [hs]; exact ⟨_, rfl⟩
      · exact ⟨_, rfl⟩
def c_rs (r : Nat) (s : RS) (mem : am_M) : Prop := c_ch r s.1 s.2.1 mem ∧ mem r 6 = (s.2.2.1 : Int) ∧ mem r 7 = (s.2.2.2.1 : Int) ∧ mem r 8 = (s.2.2.2.2.1 : Int) ∧ mem r 9 = (if s.2.2.2.2.2 = true then 1 else 0)
def v_rs (s : RS) : Prop := s.2.2.1 ≤ 4 ∧ s.2.2.2.1 < 32 ∧ s.2.2.2.2.1 ≤ 3 ∧ (s.2.2.2.2.2 = false → s.1 ≠ [] ∧ 1 ≤ s.2.2.2.2.1 ∧ (s.2.2.2.2.1 = 1 → 0 ≤ s.1.getLastD 0 ∧ s.1.getLastD 0 ≤ 9) ∧ (s.2.2.2.2.1 = 2 → 0 ≤ s.1.getLastD 0 ∧ s.1.getLastD 0 ≤ 99))
def fr_rs (r : Nat) (mem m : am_M) : Prop := ∀ b, b ≠ r → b ≠ r + 1 → b ≠ r + 2 → m b = mem b
theorem fr_ch.rs {r : Nat} {a b : am_M} (h : fr_ch r a b) : fr_rs r a b := h.1
theorem fr_rs.rf {r : Nat} {a : am_M} : fr_rs r a a := fun _ _ _ _ => rfl
theorem fr_rs.tr {r : Nat} {a b c : am_M} (h1 : fr_rs r a b) (h2 : fr_rs r b c) : fr_rs r a c := fun x x0 x1 x2 => (h2 x x0 x1 x2).trans (h1 x x0 x1 x2)
theorem fr_rs.up {r : Nat} {a b : am_M} (h1 : fr_rs r a b) (k : Nat) (x : Int) : fr_rs r a (am_up b r k x) := fun y x0 x1 x2 => (am_up_ne x0).trans (h1 y x0 x1 x2)
theorem fr_rs.up1 {r : Nat} {a b : am_M} (h1 : fr_rs r a b) (k : Nat) (x : Int) : fr_rs r a (am_up b (r + 1) k x) := fun y x0 x1 x2 => (am_up_ne x1).trans (h1 y x0 x1 x2)
def o_rs (r : Nat) (mem : am_M) (o : Option RS) : Option am_V → am_M → Prop := fun q m => q = some (.inl (if o.isSome = true then 1 else 0)) ∧ (∀ s1, o = some s1 → c_rs r s1 m) ∧ (o = none → m = mem) ∧ fr_rs r mem m
theorem o_no {r : Nat} {mem : am_M} {o : Option RS} (ho : o = none) (hf : fr_rs r mem mem) : o_rs r mem o (some (.inl 0)) mem := by
  subst ho
  exact ⟨rfl, fun _ h => (by cases h), fun _ => rfl, hf⟩
theorem o_yes {r : Nat} {mem m : am_M} {o : Option RS} {s : RS} (ho : o = some s) (hs : c_rs r s m) (hf : fr_rs r mem m) : o_rs r mem o (some (.inl 1)) m := by
  subst ho
  exact ⟨rfl, fun s1 h => (by cases h; exact hs), fun h => (by cases h), hf⟩
/-- a field of the reader other than its two counts may change -/
theorem c_ch.up {r k : Nat} {C HS : List Int} {mem : am_M} {x : Int} (h : c_ch r C HS mem) (h4 : 4 ≠ k) (h5 : 5 ≠ k) : c_ch r C HS (am_up mem r k x) :=
  ⟨(am_up_neq h4).trans h.1, fun i hi => by rw [am_up_ne (by omega)]; exact h.2.1 i hi, (am_up_neq h5).trans h.2.2.1, fun i hi => by rw [am_up_ne (by omega)]; exact h.2.2.2.1 i hi, h.2.2.2.2⟩
theorem c_ch.tl {r : Nat} {C HS : List Int} {mem : am_M} (h : c_ch r C HS mem) : c_ch r C HS.tail (am_up mem r 5 (HS.tail.length : Int)) := by
  obtain ⟨c1, c2, c3, c4, c5, c6⟩ := h
  refine ⟨(am_up_neq (by decide)).trans c1, fun i hi => by rw [am_up_ne (by omega)]; exact c2 i hi, am_up_self, fun i hi => ?_, by rw [List.length_tail]; omega, fun y hy => c6 y (List.mem_of_mem_tail hy)⟩
  rw [am_up_ne (by omega)]
  cases HS with
  | nil => simp at hi
  | cons h t =>
    have hi2 : i < t.length := hi
    rw [c4 i (by simp; omega), List.reverse_cons, lg_app (by simp; omega), if_neg (by simp; omega)]; rfl
theorem cl_all : ∀ c : Nat, c < 32 → ∀ e : Nat, e < 5 → am_and (c : Int) (am_xor (am_shl 1 (e : Int)) (-1)) = (cbt c e : Int) := by decide +kernel
theorem st_all : ∀ c : Nat, c < 32 → ∀ e : Nat, e < 5 → am_or (c : Int) (am_shl 1 (e : Int)) = (sbt c e : Int) := by decide +kernel
theorem tb_all : ∀ c : Nat, c < 32 → ∀ e : Nat, e < 5 → am_and (am_shr (c : Int) (e : Int)) 1 = (bt c e : Int) := by decide +kernel
section P33
variable {l : Launch} {G : am_G} {d : Nat} {mem : am_M}
theorem s_readDigit {r : Nat} (hr : am_rul r) {C HS : List Int} {dp cb dg : Nat} (hs : c_rs r (C, HS, dp, cb, dg, false) mem) (hv : v_rs (C, HS, dp, cb, dg, false)) {c : Int} (hc : 48 ≤ c ∧ c ≤ 57) : am_Sm l G yX4_readDigit mt_X4_readDigit d [.inr (.inr (r + 1)), .inl (c - 48)] mem (o_rs r mem (rnx (C, HS, dp, cb, dg, false) c)) := by
  refine am_enter (ls := [some (.inr (.inr (r + 1))), some (.inl (c - 48))]) (by decide) rfl (Nat.le_of_ble_eq_true rfl) rfl ?_
  obtain ⟨hch, h6, h7, h8, h9⟩ := hs
  change c_ch r C HS mem at hch
  obtain ⟨v1, v2, v3, v4⟩ := hv
  obtain ⟨v5, v6, v7, v8⟩ := v4 rfl
  change mem r 8 = (dg : Int) at h8
  by_cases h3 : 3 ≤ dg
  · have hn : rnx (C, HS, dp, cb, dg, false) c = none := by unfold rnx; rw [if_pos hc, if_pos (.inl h3)]
    refine rn_aload_n (x := r) (q := 1) dX4_readDigit_0 rfl rfl ?_
    refine rn_get (a := r) (v := .inl (dg : Int)) (q := 4) dX4_readDigit_1 fl_X4_85 (am_rul_k hr) (am_gi h8) rfl ?_
    refine rn_iconst (q := 5) dX4_readDigit_4 (am_okd rfl) rfl ?_
    refine rn_cmpge (t := 15) (q := 8) dX4_readDigit_5 rfl rfl (fun w5 => ?_) (fun h => absurd h (by omega))
    refine rn_iconst (q := 16) dX4_readDigit_15 (am_okd rfl) rfl ?_
    refine rn_zret dX4_readDigit_16 rfl (by omega) ?_
    exact o_no hn fr_rs.rf
  · have hC := List.dropLast_concat_getLast v5
    generalize C.dropLast = C0 at hC
    generalize C.getLast v5 = x at hC
    subst hC
    have hg : (C0 ++ [x]).getLastD 0 = x := by simp
    change (dg = 1 → 0 ≤ (C0 ++ [x]).getLastD 0 ∧ (C0 ++ [x]).getLastD 0 ≤ 9) at v7
    change (dg = 2 → 0 ≤ (C0 ++ [x]).getLastD 0 ∧ (C0 ++ [x]).getLastD 0 ≤ 99) at v8
    change 1 ≤ dg at v6
    rw [hg] at v7 v8
    have hx : 0 ≤ x ∧ x ≤ 99 := by
      by_cases q : dg = 1
      · have := v7 q; omega
      · have := v8 (by omega); omega
    have hn : rnx (C0 ++ [x], HS, dp, cb, dg, false) c = some (C0 ++ [x * 10 + (c - 48)], HS, dp, cb, dg + 1, false) := by
      unfold rnx
      rw [if_pos hc, if_neg (by intro q; rcases q with q | q; exact h3 q; simp at q)]
      simp
    obtain ⟨c1, c2, c3, c4, c5, c6⟩ := hch
    change mem r 4 = (((C0 ++ [x]).length : Nat) : Int) at c1
    have hln : (C0 ++ [x]).length = C0.length + 1 := by simp
    rw [hln] at c1
    change (C0 ++ [x]).length + HS.length ≤ 40 at c5
    have e1 : mem (r + 1) C0.length = x := by
      rw [c2 C0.length (by show _ < (C0 ++ [x]).length; omega)]
      show (C0 ++ [x]).getD C0.length 0 = x
      rw [lg_app (by omega), if_pos rfl]
    refine rn_aload_n (x := r) (q := 1) dX4_readDigit_0 rfl rfl ?_
    refine rn_get (a := r) (v := .inl (dg : Int)) (q := 4) dX4_readDigit_1 fl_X4_85 (am_rul_k hr) (am_gi h8) rfl ?_
    refine rn_iconst (q := 5) dX4_readDigit_4 (am_okd rfl) rfl ?_
    refine rn_cmpge (t := 15) (q := 8) dX4_readDigit_5 rfl rfl (fun h => absurd h (by omega)) (fun w5 => ?_)
    refine rn_aload_n (x := r) (q := 9) dX4_readDigit_8 rfl rfl ?_
    refine rn_get (a := r) (v := .inl ((C0.length + 1 : Nat) : Int)) (q := 12) dX4_readDigit_9 fl_X4_32 (am_rul_k hr) (am_gi c1) rfl ?_
    refine rn_ifgt (t := 17) (q := 15) dX4_readDigit_12 rfl rfl (fun w12 => ?_) (fun h => absurd h (by omega))
    refine rn_aload_n (x := r) (q := 18) dX4_readDigit_17 rfl rfl ?_
    refine rn_get (a := r) (v := .inr (.inr (r + 1 + 1))) (q := 21) dX4_readDigit_18 fl_X4_9 (am_rul_k hr) (am_rul_f0 hr) rfl ?_
    refine rn_aload_n (x := r) (q := 22) dX4_readDigit_21 rfl rfl ?_
    refine rn_get (a := r) (v := .inl ((C0.length + 1 : Nat) : Int)) (q := 25) dX4_readDigit_22 fl_X4_32 (am_rul_k hr) (am_gi c1) rfl ?_
    refine rn_iconst (q := 26) dX4_readDigit_25 (am_okd rfl) rfl ?_
    refine rn_isubN (z := (C0.length : Int)) (q := 27) dX4_readDigit_26 (by omega) (by unfold am_ok; omega) rfl ?_
    refine rn_aload_n (x := r) (q := 28) dX4_readDigit_27 rfl rfl ?_
    refine rn_get (a := r) (v := .inr (.inr (r + 1 + 1))) (q := 31) dX4_readDigit_28 fl_X4_9 (am_rul_k hr) (am_rul_f0 hr) rfl ?_
    refine rn_aload_n (x := r) (q := 32) dX4_readDigit_31 rfl rfl ?_
    refine rn_get (a := r) (v := .inl ((C0.length + 1 : Nat) : Int)) (q := 35) dX4_readDigit_32 fl_X4_32 (am_rul_k hr) (am_gi c1) rfl ?_
    refine rn_iconst (q := 36) dX4_readDigit_35 (am_okd rfl) rfl ?_
    refine rn_isubN (z := (C0.length : Int)) (q := 37) dX4_readDigit_36 (by omega) (by unfold am_ok; omega) rfl ?_
    refine rn_ialdV (a := (r + 1)) (v := x) (q := 38) dX4_readDigit_37 (am_rul_k1 hr) (by omega) (by omega) e1 rfl ?_
    refine rn_bipush (q := 40) dX4_readDigit_38 ⟨by decide, by decide⟩ rfl ?_
    refine rn_imulN (z := x * 10) (q := 41) dX4_readDigit_40 (by omega) (by unfold am_ok; omega) rfl ?_
    refine rn_iload_n (x := (c - 48)) (q := 42) dX4_readDigit_41 rfl rfl ?_
    refine rn_iaddN (z := x * 10 + (c - 48)) (q := 43) dX4_readDigit_42 (by omega) (by unfold am_ok; omega) rfl ?_
    refine rn_iastV (a := (r + 1)) (m1 := am_up mem (r + 1) (((C0.length : Int)).toNat) (x * 10 + (c - 48))) (q := 44) dX4_readDigit_43 (am_rul_k1 hr) (by omega) (by omega) rfl rfl ?_
    refine rn_aload_n (x := r) (q := 45) dX4_readDigit_44 rfl rfl ?_
    refine rn_dup (q := 46) dX4_readDigit_45 rfl rfl ?_
    refine rn_get (a := r) (v := .inl (dg : Int)) (q := 49) dX4_readDigit_46 fl_X4_85 (am_rul_k hr) (am_gi (by show am_up mem (r + 1) C0.length (x * 10 + (c - 48)) r 8 = _; rw [am_up_ne (by omega)]; exact h8)) rfl ?_
    refine rn_iconst (q := 50) dX4_readDigit_49 (am_okd rfl) rfl ?_
    refine rn_iaddN (z := ((dg + 1 : Nat) : Int)) (q := 51) dX4_readDigit_50 (by omega) (by unfold am_ok; omega) rfl ?_
    refine rn_puti (a := r) (q := 54) dX4_readDigit_51 fl_X4_85 (am_rul_k hr) rfl rfl rfl ?_
    refine rn_iconst (q := 55) dX4_readDigit_54 (am_okd rfl) rfl ?_
    refine rn_zret dX4_readDigit_55 rfl (by omega) ?_
    refine o_yes hn ⟨⟨?_, fun i hi => ?_, ?_, fun i hi => ?_, ?_, c6⟩, ?_, ?_, am_up_self, ?_⟩ ((fr_rs.rf.up1 _ _).up _ _)
    · rw [am_up_neq (by decide), am_up_ne (by omega), c1]; simp
    · rw [am_up_ne (by omega), am_up_at, Int.toNat_natCast]
      show _ = (C0 ++ [x * 10 + (c - 48)]).getD i 0
      have hi2 : i < (C0 ++ [x * 10 + (c - 48)]).length := hi
      rw [lg_app hi2]
      by_cases hiC : i = C0.length
      · rw [if_pos hiC, if_pos hiC]
      · rw [if_neg hiC, if_neg hiC]
        have hi3 : i < (C0 ++ [x]).length := by simp at hi2 ⊢; omega
        rw [c2 i hi3]
        show (C0 ++ [x]).getD i 0 = _
        rw [lg_app hi3, if_neg hiC]
    · rw [am_up_neq (by decide), am_up_ne (by omega)]; exact c3
    · rw [am_up_ne (by omega), am_up_ne (by omega)]; exact c4 i hi
    · show (C0 ++ [x * 10 + (c - 48)]).length + HS.length ≤ 40; simp at c5 ⊢; omega
    · rw [am_up_neq (by decide), am_up_ne (by omega)]; exact h6
    · rw [am_up_neq (by decide), am_up_ne (by omega)]; exact h7
    · rw [am_up_neq (by decide), am_up_ne (by omega)]; exact h9
theorem s_close {r : Nat} (hr : am_rul r) {C HS : List Int} {dp cb dg : Nat} (hs : c_rs r (C, HS, dp, cb, dg, false) mem) (hd4 : dp ≤ 4) : am_Sm l G yX4_close mt_X4_close (d + 2) [.inr (.inr (r + 1))] mem (o_rs r mem (rnx (C, HS, dp, cb, dg, false) 41)) := by
  refine am_enter (ls := [some (.inr (.inr (r + 1)))]) (by decide) rfl (Nat.le_of_ble_eq_true rfl) rfl ?_
  obtain ⟨hch, h6, h7, h8, h9⟩ := hs
  change c_ch r C HS mem at hch
  change mem r 6 = (dp : Int) at h6
  by_cases h0 : dp = 0
  · have hn : rnx (C, HS, dp, cb, dg, false) 41 = none := by subst h0; rfl
    refine rn_aload_n (x := r) (q := 1) dX4_close_0 rfl rfl ?_
    refine rn_get (a := r) (v := .inl (dp : Int)) (q := 4) dX4_close_1 fl_X4_39 (am_rul_k hr) (am_gi h6) rfl ?_
    refine rn_ifne (t := 9) (q := 7) dX4_close_4 rfl rfl (fun h => absurd h (by omega)) (fun w4 => ?_)
    refine rn_iconst (q := 8) dX4_close_7 (am_okd rfl) rfl ?_
    refine rn_zret dX4_close_8 rfl (by omega) ?_
    exact o_no hn fr_rs.rf
  · obtain ⟨e, rfl⟩ : ∃ e, dp = e + 1 := ⟨dp - 1, by omega⟩
    have hn : rnx (C, HS, e + 1, cb, dg, false) 41 = some ((relC 1 C HS).1, (relC 1 C HS).2.tail, e, cb, 3, false) := rfl
    refine rn_aload_n (x := r) (q := 1) dX4_close_0 rfl rfl ?_
    refine rn_get (a := r) (v := .inl ((e + 1 : Nat) : Int)) (q := 4) dX4_close_1 fl_X4_39 (am_rul_k hr) (am_gi h6) rfl ?_
    refine rn_ifne (t := 9) (q := 7) dX4_close_4 rfl rfl (fun w4 => ?_) (fun h => absurd h (by omega))
    refine rn_aload_n (x := r) (q := 10) dX4_close_9 rfl rfl ?_
    refine rn_iconst (q := 11) dX4_close_10 (am_okd rfl) rfl ?_
    refine rn_callV (b := r) (as := [.inl 1]) (rest := []) (q := 14) dX4_close_11 ml_X4_72 sm_X4_release rfl (am_rul_k hr) (by decide) (by omega) rfl rfl (Nat.le_of_ble_eq_true rfl) rfl (s_rel (d := d) hr 1 hch) ?_
    intro r11 mem11 hq11
    obtain ⟨rfl, hc3, hc4⟩ := hq11
    show am_Rn l G _ _ 14 [some (.inr (.inr (r + 1)))] [] mem11 _
    refine rn_aload_n (x := r) (q := 15) dX4_close_14 rfl rfl ?_
    refine rn_iconst (q := 16) dX4_close_15 (am_okd rfl) rfl ?_
    refine rn_aload_n (x := r) (q := 17) dX4_close_16 rfl rfl ?_
    refine rn_get (a := r) (v := .inl ((relC 1 C HS).2.length : Int)) (q := 20) dX4_close_17 fl_X4_36 (am_rul_k hr) (am_gi hc3.2.2.1) rfl ?_
    refine rn_iconst (q := 21) dX4_close_20 (am_okd rfl) rfl ?_
    refine rn_isubN (z := ((relC 1 C HS).2.length : Int) - 1) (q := 22) dX4_close_21 rfl (by have := hc3.2.2.2.2.1; unfold am_ok; omega) rfl ?_
    refine rn_mmax (q := 25) dX4_close_22 am_mm_X4_99 am_mmaxw (Nat.le_of_ble_eq_true rfl) rfl ?_
    rw [show (max 0 (((relC 1 C HS).2.length : Int) - 1)) = ((relC 1 C HS).2.tail.length : Int) by rw [List.length_tail]; omega]
    refine rn_puti (a := r) (q := 28) dX4_close_25 fl_X4_36 (am_rul_k hr) rfl rfl rfl ?_
    refine rn_aload_n (x := r) (q := 29) dX4_close_28 rfl rfl ?_
    refine rn_dup (q := 30) dX4_close_29 rfl rfl ?_
    refine rn_get (a := r) (v := .inl ((e + 1 : Nat) : Int)) (q := 33) dX4_close_30 fl_X4_39 (am_rul_k hr) (am_gi ((show (am_up mem11 r 5 ((relC 1 C HS).2.tail.length : Int)) r 6 = mem11 r 6 by simp [am_up]).trans ((hc4.2 6 (by decide) (by decide)).trans h6))) rfl ?_
    refine rn_iconst (q := 34) dX4_close_33 (am_okd rfl) rfl ?_
    refine rn_isubN (z := (e : Int)) (q := 35) dX4_close_34 (by omega) (by unfold am_ok; omega) rfl ?_
    refine rn_puti (a := r) (q := 38) dX4_close_35 fl_X4_39 (am_rul_k hr) rfl rfl rfl ?_
    refine rn_aload_n (x := r) (q := 39) dX4_close_38 rfl rfl ?_
    refine rn_iconst (q := 40) dX4_close_39 (am_okd rfl) rfl ?_
    refine rn_puti (a := r) (q := 43) dX4_close_40 fl_X4_85 (am_rul_k hr) rfl rfl rfl ?_
    refine rn_iconst (q := 44) dX4_close_43 (am_okd rfl) rfl ?_
    refine rn_zret dX4_close_44 rfl (by omega) ?_
    refine o_yes hn ⟨(hc3.tl.up (by decide) (by decide)).up (by decide) (by decide), ?_, ?_, am_up_self, ?_⟩ (((hc4.rs.up _ _).up _ _).up _ _)
    · rw [am_up_neq (by decide), am_up_self]
    · rw [am_up_neq (by decide), am_up_neq (by decide), am_up_neq (by decide), hc4.2 7 (by decide) (by decide)]; exact h7
    · rw [am_up_neq (by decide), am_up_neq (by decide), am_up_neq (by decide), hc4.2 9 (by decide) (by decide)]; exact h9
theorem s_readThing {r : Nat} (hr : am_rul r) {C HS : List Int} {dp cb dg : Nat} (hs : c_rs r (C, HS, dp, cb, dg, true) mem) (hv : v_rs (C, HS, dp, cb, dg, true)) (hl : C.length + HS.length < 40) {c : Int} (hc : -1 ≤ c ∧ c ≤ 255) (h1 : c ≠ -1) : am_Sm l G yX4_readThing mt_X4_readThing (d + 4) [.inr (.inr (r + 1)), .inl c, .inl (if 48 ≤ c ∧ c ≤ 57 then c - 48 else -1)] mem (o_rs r mem (rth (C, HS, dp, cb, dg, true) c)) := by
  refine am_enter (ls := [some (.inr (.inr (r + 1))), some (.inl c), some (.inl (if 48 ≤ c ∧ c ≤ 57 then c - 48 else -1)), none]) (by decide) rfl (Nat.le_of_ble_eq_true rfl) rfl ?_
  obtain ⟨hch, h6, h7, h8, h9⟩ := hs
  change c_ch r C HS mem at hch
  obtain ⟨v1, v2, v3, v4⟩ := hv
  change mem r 6 = (dp : Int) at h6
  change mem r 7 = (cb : Int) at h7
  change mem r 8 = (dg : Int) at h8
  change mem r 9 = 1 at h9
  change dp ≤ 4 at v1
  change cb < 32 at v2
  by_cases h45 : c = 45
  · subst h45
    refine rn_iload_n (x := 45) (q := 1) dX4_readThing_0 rfl rfl ?_
    refine rn_bipush (q := 3) dX4_readThing_1 ⟨by decide, by decide⟩ rfl ?_
    refine rn_cmpne (t := 15) (q := 6) dX4_readThing_3 rfl rfl (fun h => absurd h (by decide)) (fun w3 => ?_)
    refine rn_aload_n (x := r) (q := 7) dX4_readThing_6 rfl rfl ?_
    refine rn_sipush (q := 10) dX4_readThing_7 ⟨by decide, by decide⟩ rfl ?_
    refine rn_callV (b := r) (as := [.inl 256]) (rest := []) (q := 13) dX4_readThing_10 ml_X4_76 sm_X4_hold rfl (am_rul_k hr) (by decide) (by omega) rfl rfl (Nat.le_of_ble_eq_true rfl) rfl (s_hold (d := d + 3) hr hch hl 256 (by decide)) ?_
    intro r10 mem10 hq10
    obtain ⟨rfl, hc3, hc4⟩ := hq10
    show am_Rn l G _ _ 13 [some (.inr (.inr (r + 1))), some (.inl 45), some (.inl (-1)), none] [] mem10 _
    refine rn_iconst (q := 14) dX4_readThing_13 (am_okd rfl) rfl ?_
    refine rn_zret dX4_readThing_14 rfl (by omega) ?_
    exact o_yes (s := (C, 256 :: HS, dp, cb, dg, true)) rfl ⟨hc3, (hc4.2 6 (by decide) (by decide)).trans h6, (hc4.2 7 (by decide) (by decide)).trans h7, (hc4.2 8 (by decide) (by decide)).trans h8, (hc4.2 9 (by decide) (by decide)).trans h9⟩ hc4.rs
  by_cases h40 : c = 40
  · subst h40
    by_cases h4 : 4 ≤ dp
    · have hn : rth (C, HS, dp, cb, dg, true) 40 = none := by show (if 4 ≤ dp then none else _) = none; rw [if_pos h4]
      refine rn_iload_n (x := 40) (q := 1) dX4_readThing_0 rfl rfl ?_
      refine rn_bipush (q := 3) dX4_readThing_1 ⟨by decide, by decide⟩ rfl ?_
      refine rn_cmpne (t := 15) (q := 6) dX4_readThing_3 rfl rfl (fun w3 => ?_) (fun h => absurd h (by decide))
      refine rn_iload_n (x := 40) (q := 16) dX4_readThing_15 rfl rfl ?_
      refine rn_bipush (q := 18) dX4_readThing_16 ⟨by decide, by decide⟩ rfl ?_
      refine rn_cmpne (t := 65) (q := 21) dX4_readThing_18 rfl rfl (fun h => absurd h (by decide)) (fun w18 => ?_)
      refine rn_aload_n (x := r) (q := 22) dX4_readThing_21 rfl rfl ?_
      refine rn_get (a := r) (v := .inl (dp : Int)) (q := 25) dX4_readThing_22 fl_X4_39 (am_rul_k hr) (am_gi h6) rfl ?_
      refine rn_iconst (q := 26) dX4_readThing_25 (am_okd rfl) rfl ?_
      refine rn_cmplt (t := 31) (q := 29) dX4_readThing_26 rfl rfl (fun h => absurd h (by omega)) (fun w26 => ?_)
      refine rn_iconst (q := 30) dX4_readThing_29 (am_okd rfl) rfl ?_
      refine rn_zret dX4_readThing_30 rfl (by omega) ?_
      exact o_no hn fr_rs.rf
    · have hn : rth (C, HS, dp, cb, dg, true) 40 = some (C, 40 :: HS, dp + 1, cbt cb (dp + 1), dg, true) := by show (if 4 ≤ dp then none else _) = _; rw [if_neg h4]
      refine rn_iload_n (x := 40) (q := 1) dX4_readThing_0 rfl rfl ?_
      refine rn_bipush (q := 3) dX4_readThing_1 ⟨by decide, by decide⟩ rfl ?_
      refine rn_cmpne (t := 15) (q := 6) dX4_readThing_3 rfl rfl (fun w3 => ?_) (fun h => absurd h (by decide))
      refine rn_iload_n (x := 40) (q := 16) dX4_readThing_15 rfl rfl ?_
      refine rn_bipush (q := 18) dX4_readThing_16 ⟨by decide, by decide⟩ rfl ?_
      refine rn_cmpne (t := 65) (q := 21) dX4_readThing_18 rfl rfl (fun h => absurd h (by decide)) (fun w18 => ?_)
      refine rn_aload_n (x := r) (q := 22) dX4_readThing_21 rfl rfl ?_
      refine rn_get (a := r) (v := .inl (dp : Int)) (q := 25) dX4_readThing_22 fl_X4_39 (am_rul_k hr) (am_gi h6) rfl ?_
      refine rn_iconst (q := 26) dX4_readThing_25 (am_okd rfl) rfl ?_
      refine rn_cmplt (t := 31) (q := 29) dX4_readThing_26 rfl rfl (fun w26 => ?_) (fun h => absurd h (by omega))
      refine rn_aload_n (x := r) (q := 32) dX4_readThing_31 rfl rfl ?_
      refine rn_dup (q := 33) dX4_readThing_32 rfl rfl ?_
      refine rn_get (a := r) (v := .inl (dp : Int)) (q := 36) dX4_readThing_33 fl_X4_39 (am_rul_k hr) (am_gi h6) rfl ?_
      refine rn_iconst (q := 37) dX4_readThing_36 (am_okd rfl) rfl ?_
      refine rn_iaddN (z := ((dp + 1 : Nat) : Int)) (q := 38) dX4_readThing_37 (by omega) (by unfold am_ok; omega) rfl ?_
      refine rn_puti (a := r) (q := 41) dX4_readThing_38 fl_X4_39 (am_rul_k hr) rfl rfl rfl ?_
      refine rn_aload_n (x := r) (q := 42) dX4_readThing_41 rfl rfl ?_
      refine rn_dup (q := 43) dX4_readThing_42 rfl rfl ?_
      refine rn_get (a := r) (v := .inl (cb : Int)) (q := 46) dX4_readThing_43 fl_X4_42 (am_rul_k hr) (am_gi ((show (am_up mem r 6 ((dp + 1 : Nat) : Int)) r 7 = mem r 7 by simp [am_up]).trans h7)) rfl ?_
      refine rn_iconst (q := 47) dX4_readThing_46 (am_okd rfl) rfl ?_
      refine rn_aload_n (x := r) (q := 48) dX4_readThing_47 rfl rfl ?_
      refine rn_get (a := r) (v := .inl ((dp + 1 : Nat) : Int)) (q := 51) dX4_readThing_48 fl_X4_39 (am_rul_k hr) (am_gi (show (am_up mem r 6 ((dp + 1 : Nat) : Int)) r 6 = ((dp + 1 : Nat) : Int) by simp [am_up])) rfl ?_
      refine rn_ishl (q := 52) dX4_readThing_51 rfl ?_
      refine rn_iconst (q := 53) dX4_readThing_52 (am_okd rfl) rfl ?_
      refine rn_ixor (q := 54) dX4_readThing_53 rfl ?_
      refine rn_iand (q := 55) dX4_readThing_54 rfl ?_
      rw [show am_and (cb : Int) (am_xor (am_shl 1 ((dp + 1 : Nat) : Int)) (-1)) = (cbt cb (dp + 1) : Int) from cl_all cb v2 (dp + 1) (by omega)]
      refine rn_puti (a := r) (q := 58) dX4_readThing_55 fl_X4_42 (am_rul_k hr) rfl rfl rfl ?_
      refine rn_aload_n (x := r) (q := 59) dX4_readThing_58 rfl rfl ?_
      refine rn_iload_n (x := 40) (q := 60) dX4_readThing_59 rfl rfl ?_
      refine rn_callV (b := r) (as := [.inl 40]) (rest := []) (q := 63) dX4_readThing_60 ml_X4_76 sm_X4_hold rfl (am_rul_k hr) (by decide) (by omega) rfl rfl (Nat.le_of_ble_eq_true rfl) rfl (s_hold (d := d + 3) hr ((hch.up (k := 6) (x := ((dp + 1 : Nat) : Int)) (by decide) (by decide)).up (k := 7) (x := (cbt cb (dp + 1) : Int)) (by decide) (by decide)) hl 40 (by decide)) ?_
      intro r60 mem60 hq60
      obtain ⟨rfl, hc3, hc4⟩ := hq60
      show am_Rn l G _ _ 63 [some (.inr (.inr (r + 1))), some (.inl 40), some (.inl (-1)), none] [] mem60 _
      refine rn_iconst (q := 64) dX4_readThing_63 (am_okd rfl) rfl ?_
      refine rn_zret dX4_readThing_64 rfl (by omega) ?_
      refine o_yes hn ⟨hc3, (hc4.2 6 (by decide) (by decide)).trans ?_, (hc4.2 7 (by decide) (by decide)).trans am_up_self, (hc4.2 8 (by decide) (by decide)).trans ?_, (hc4.2 9 (by decide) (by decide)).trans ?_⟩ (((fr_rs.rf.up _ _).up _ _).tr hc4.rs)
      · rw [am_up_neq (by decide), am_up_self]
      · rw [am_up_neq (by decide), am_up_neq (by decide)]; exact h8
      · rw [am_up_neq (by decide), am_up_neq (by decide)]; exact h9
  have hcm : c % 65536 = c := by omega
  have hlt := ltr_ok c
  by_cases h48 : 48 ≤ c ∧ c ≤ 57
  · have hn : rth (C, HS, dp, cb, dg, true) c = some (C ++ [c - 48], HS, dp, cb, 1, false) := by unfold rth; rw [if_neg h45, if_neg h40, if_pos h48]
    rw [if_pos h48]
    refine rn_iload_n (x := c) (q := 1) dX4_readThing_0 rfl rfl ?_
    refine rn_bipush (q := 3) dX4_readThing_1 ⟨by decide, by decide⟩ rfl ?_
    refine rn_cmpne (t := 15) (q := 6) dX4_readThing_3 rfl rfl (fun w3 => ?_) (fun h => absurd h (by omega))
    refine rn_iload_n (x := c) (q := 16) dX4_readThing_15 rfl rfl ?_
    refine rn_bipush (q := 18) dX4_readThing_16 ⟨by decide, by decide⟩ rfl ?_
    refine rn_cmpne (t := 65) (q := 21) dX4_readThing_18 rfl rfl (fun w18 => ?_) (fun h => absurd h (by omega))
    refine rn_ldcS_X4 (q := 67) dX4_readThing_65 rfl rfl ?_
    refine rn_iload_n (x := c) (q := 68) dX4_readThing_67 rfl rfl ?_
    refine rn_i2c (q := 69) dX4_readThing_68 rfl ?_
    rw [hcm]
    refine rn_callVS 0 (by decide) (as := [.inl c]) (rest := []) (q := 72) dX4_readThing_69 ml_X4_79 sm_J0_indexOf_0f7a4 (by omega) rfl rfl (Nat.le_of_ble_eq_true rfl) rfl (s_ix0 (d := d) c) ?_
    intro r69 mem69 hq69
    obtain ⟨rfl, rfl⟩ := hq69
    show am_Rn l G _ _ 72 [some (.inr (.inr (r + 1))), some (.inl c), some (.inl (c - 48)), none] [.inl (ltr c)] mem _
    refine rn_istore_n (ls' := [some (.inr (.inr (r + 1))), some (.inl c), some (.inl (c - 48)), some (.inl (ltr c))]) (q := 73) dX4_readThing_72 (by decide) rfl rfl ?_
    refine rn_iload_n (x := (c - 48)) (q := 74) dX4_readThing_73 rfl rfl ?_
    refine rn_ifge (t := 83) (q := 77) dX4_readThing_74 rfl rfl (fun w74 => ?_) (fun h => absurd h (by omega))
    refine rn_aload_n (x := r) (q := 84) dX4_readThing_83 rfl rfl ?_
    refine rn_iload_n (x := (c - 48)) (q := 85) dX4_readThing_84 rfl rfl ?_
    refine rn_iflt (t := 92) (q := 88) dX4_readThing_85 rfl rfl (fun h => absurd h (by omega)) (fun w85 => ?_)
    refine rn_iload_n (x := (c - 48)) (q := 89) dX4_readThing_88 rfl rfl ?_
    refine rn_goto (t := 95) dX4_readThing_89 rfl ?_
    refine rn_callV (b := r) (as := [.inl (c - 48)]) (rest := []) (q := 98) dX4_readThing_95 ml_X4_82 sm_X4_emit rfl (am_rul_k hr) (by decide) (by omega) rfl rfl (Nat.le_of_ble_eq_true rfl) rfl (s_emit (d := d + 3) hr hch hl (c - 48)) ?_
    intro r95 mem95 hq95
    obtain ⟨rfl, hc3, hc4⟩ := hq95
    show am_Rn l G _ _ 98 [some (.inr (.inr (r + 1))), some (.inl c), some (.inl (c - 48)), some (.inl (ltr c))] [] mem95 _
    refine rn_aload_n (x := r) (q := 99) dX4_readThing_98 rfl rfl ?_
    refine rn_iload_n (x := (c - 48)) (q := 100) dX4_readThing_99 rfl rfl ?_
    refine rn_iflt (t := 107) (q := 103) dX4_readThing_100 rfl rfl (fun h => absurd h (by omega)) (fun w100 => ?_)
    refine rn_iconst (q := 104) dX4_readThing_103 (am_okd rfl) rfl ?_
    refine rn_goto (t := 108) dX4_readThing_104 rfl ?_
    refine rn_puti (a := r) (q := 111) dX4_readThing_108 fl_X4_85 (am_rul_k hr) rfl rfl rfl ?_
    refine rn_aload_n (x := r) (q := 112) dX4_readThing_111 rfl rfl ?_
    refine rn_iconst (q := 113) dX4_readThing_112 (am_okd rfl) rfl ?_
    refine rn_putz (a := r) (q := 116) dX4_readThing_113 fl_X4_45 (am_rul_k hr) rfl rfl (by omega) rfl ?_
    refine rn_iconst (q := 117) dX4_readThing_116 (am_okd rfl) rfl ?_
    refine rn_zret dX4_readThing_117 rfl (by omega) ?_
    exact o_yes hn ⟨(hc3.up (by decide) (by decide)).up (by decide) (by decide), by rw [am_up_neq (by decide), am_up_neq (by decide), hc4.2 6 (by decide) (by decide)]; exact h6, by rw [am_up_neq (by decide), am_up_neq (by decide), hc4.2 7 (by decide) (by decide)]; exact h7, by rw [am_up_neq (by decide), am_up_self]; rfl, by rw [am_up_self]; rfl⟩ ((hc4.rs.up _ _).up _ _)
  rw [if_neg h48]
  by_cases hL : ltr c = -1
  · have hn : rth (C, HS, dp, cb, dg, true) c = none := by unfold rth; rw [if_neg h45, if_neg h40, if_neg h48, if_pos hL]
    refine rn_iload_n (x := c) (q := 1) dX4_readThing_0 rfl rfl ?_
    refine rn_bipush (q := 3) dX4_readThing_1 ⟨by decide, by decide⟩ rfl ?_
    refine rn_cmpne (t := 15) (q := 6) dX4_readThing_3 rfl rfl (fun w3 => ?_) (fun h => absurd h (by omega))
    refine rn_iload_n (x := c) (q := 16) dX4_readThing_15 rfl rfl ?_
    refine rn_bipush (q := 18) dX4_readThing_16 ⟨by decide, by decide⟩ rfl ?_
    refine rn_cmpne (t := 65) (q := 21) dX4_readThing_18 rfl rfl (fun w18 => ?_) (fun h => absurd h (by omega))
    refine rn_ldcS_X4 (q := 67) dX4_readThing_65 rfl rfl ?_
    refine rn_iload_n (x := c) (q := 68) dX4_readThing_67 rfl rfl ?_
    refine rn_i2c (q := 69) dX4_readThing_68 rfl ?_
    rw [hcm]
    refine rn_callVS 0 (by decide) (as := [.inl c]) (rest := []) (q := 72) dX4_readThing_69 ml_X4_79 sm_J0_indexOf_0f7a4 (by omega) rfl rfl (Nat.le_of_ble_eq_true rfl) rfl (s_ix0 (d := d) c) ?_
    intro r69 mem69 hq69
    obtain ⟨rfl, rfl⟩ := hq69
    show am_Rn l G _ _ 72 [some (.inr (.inr (r + 1))), some (.inl c), some (.inl (-1)), none] [.inl (ltr c)] mem _
    refine rn_istore_n (ls' := [some (.inr (.inr (r + 1))), some (.inl c), some (.inl (-1)), some (.inl (ltr c))]) (q := 73) dX4_readThing_72 (by decide) rfl rfl ?_
    refine rn_iload_n (x := (-1)) (q := 74) dX4_readThing_73 rfl rfl ?_
    refine rn_ifge (t := 83) (q := 77) dX4_readThing_74 rfl rfl (fun h => absurd h (by decide)) (fun w74 => ?_)
    refine rn_iload_n (x := (ltr c)) (q := 78) dX4_readThing_77 rfl rfl ?_
    refine rn_ifge (t := 83) (q := 81) dX4_readThing_78 rfl rfl (fun h => absurd h (by omega)) (fun w78 => ?_)
    refine rn_iconst (q := 82) dX4_readThing_81 (am_okd rfl) rfl ?_
    refine rn_zret dX4_readThing_82 rfl (by omega) ?_
    exact o_no hn fr_rs.rf
  · have hn : rth (C, HS, dp, cb, dg, true) c = some (C ++ [-1 - ltr c], HS, dp, cb, 3, false) := by unfold rth; rw [if_neg h45, if_neg h40, if_neg h48, if_neg hL]
    refine rn_iload_n (x := c) (q := 1) dX4_readThing_0 rfl rfl ?_
    refine rn_bipush (q := 3) dX4_readThing_1 ⟨by decide, by decide⟩ rfl ?_
    refine rn_cmpne (t := 15) (q := 6) dX4_readThing_3 rfl rfl (fun w3 => ?_) (fun h => absurd h (by omega))
    refine rn_iload_n (x := c) (q := 16) dX4_readThing_15 rfl rfl ?_
    refine rn_bipush (q := 18) dX4_readThing_16 ⟨by decide, by decide⟩ rfl ?_
    refine rn_cmpne (t := 65) (q := 21) dX4_readThing_18 rfl rfl (fun w18 => ?_) (fun h => absurd h (by omega))
    refine rn_ldcS_X4 (q := 67) dX4_readThing_65 rfl rfl ?_
    refine rn_iload_n (x := c) (q := 68) dX4_readThing_67 rfl rfl ?_
    refine rn_i2c (q := 69) dX4_readThing_68 rfl ?_
    rw [hcm]
    refine rn_callVS 0 (by decide) (as := [.inl c]) (rest := []) (q := 72) dX4_readThing_69 ml_X4_79 sm_J0_indexOf_0f7a4 (by omega) rfl rfl (Nat.le_of_ble_eq_true rfl) rfl (s_ix0 (d := d) c) ?_
    intro r69 mem69 hq69
    obtain ⟨rfl, rfl⟩ := hq69
    show am_Rn l G _ _ 72 [some (.inr (.inr (r + 1))), some (.inl c), some (.inl (-1)), none] [.inl (ltr c)] mem _
    refine rn_istore_n (ls' := [some (.inr (.inr (r + 1))), some (.inl c), some (.inl (-1)), some (.inl (ltr c))]) (q := 73) dX4_readThing_72 (by decide) rfl rfl ?_
    refine rn_iload_n (x := (-1)) (q := 74) dX4_readThing_73 rfl rfl ?_
    refine rn_ifge (t := 83) (q := 77) dX4_readThing_74 rfl rfl (fun h => absurd h (by decide)) (fun w74 => ?_)
    refine rn_iload_n (x := (ltr c)) (q := 78) dX4_readThing_77 rfl rfl ?_
    refine rn_ifge (t := 83) (q := 81) dX4_readThing_78 rfl rfl (fun w78 => ?_) (fun h => absurd h (by omega))
    refine rn_aload_n (x := r) (q := 84) dX4_readThing_83 rfl rfl ?_
    refine rn_iload_n (x := (-1)) (q := 85) dX4_readThing_84 rfl rfl ?_
    refine rn_iflt (t := 92) (q := 88) dX4_readThing_85 rfl rfl (fun w85 => ?_) (fun h => absurd h (by decide))
    refine rn_iconst (q := 93) dX4_readThing_92 (am_okd rfl) rfl ?_
    refine rn_iload_n (x := (ltr c)) (q := 94) dX4_readThing_93 rfl rfl ?_
    refine rn_isubN (z := -1 - ltr c) (q := 95) dX4_readThing_94 (by omega) (by unfold am_ok; omega) rfl ?_
    refine rn_callV (b := r) (as := [.inl (-1 - ltr c)]) (rest := []) (q := 98) dX4_readThing_95 ml_X4_82 sm_X4_emit rfl (am_rul_k hr) (by decide) (by omega) rfl rfl (Nat.le_of_ble_eq_true rfl) rfl (s_emit (d := d + 3) hr hch hl (-1 - ltr c)) ?_
    intro r95 mem95 hq95
    obtain ⟨rfl, hc3, hc4⟩ := hq95
    show am_Rn l G _ _ 98 [some (.inr (.inr (r + 1))), some (.inl c), some (.inl (-1)), some (.inl (ltr c))] [] mem95 _
    refine rn_aload_n (x := r) (q := 99) dX4_readThing_98 rfl rfl ?_
    refine rn_iload_n (x := (-1)) (q := 100) dX4_readThing_99 rfl rfl ?_
    refine rn_iflt (t := 107) (q := 103) dX4_readThing_100 rfl rfl (fun w100 => ?_) (fun h => absurd h (by decide))
    refine rn_iconst (q := 108) dX4_readThing_107 (am_okd rfl) rfl ?_
    refine rn_puti (a := r) (q := 111) dX4_readThing_108 fl_X4_85 (am_rul_k hr) rfl rfl rfl ?_
    refine rn_aload_n (x := r) (q := 112) dX4_readThing_111 rfl rfl ?_
    refine rn_iconst (q := 113) dX4_readThing_112 (am_okd rfl) rfl ?_
    refine rn_putz (a := r) (q := 116) dX4_readThing_113 fl_X4_45 (am_rul_k hr) rfl rfl (by omega) rfl ?_
    refine rn_iconst (q := 117) dX4_readThing_116 (am_okd rfl) rfl ?_
    refine rn_zret dX4_readThing_117 rfl (by omega) ?_
    exact o_yes hn ⟨(hc3.up (by decide) (by decide)).up (by decide) (by decide), by rw [am_up_neq (by decide), am_up_neq (by decide), hc4.2 6 (by decide) (by decide)]; exact h6, by rw [am_up_neq (by decide), am_up_neq (by decide), hc4.2 7 (by decide) (by decide)]; exact h7, by rw [am_up_neq (by decide), am_up_self]; rfl, by rw [am_up_self]; rfl⟩ ((hc4.rs.up _ _).up _ _)
end P33
