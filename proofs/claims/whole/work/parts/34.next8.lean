def u_rs (s : RS) : Prop := (∀ x ∈ s.1, -256 ≤ x ∧ x ≤ 999) ∧ ∀ h ∈ s.2.1, 0 ≤ h ∧ h ≤ 256
theorem relC_u (b : Int) : ∀ (HS C : List Int), (∀ x ∈ C, -256 ≤ x ∧ x ≤ 999) → (∀ h ∈ HS, 0 ≤ h ∧ h ≤ 256) → (∀ x ∈ (relC b C HS).1, -256 ≤ x ∧ x ≤ 999) ∧ ∀ h ∈ (relC b C HS).2, 0 ≤ h ∧ h ≤ 256 := by
  intro HS
  induction HS with
  | nil => intro C h1 h2; exact ⟨h1, h2⟩
  | cons h t ih =>
    intro C h1 h2
    rw [relC]
    split
    · refine ih (C ++ [-h]) ?_ (fun y hy => h2 y (List.mem_cons_of_mem _ hy))
      intro x hx
      rcases List.mem_append.mp hx with hx | hx
      · exact h1 x hx
      · have := h2 h List.mem_cons_self
        rw [List.mem_singleton.mp hx]; omega
    · exact ⟨h1, h2⟩
theorem relC_grow (b : Int) : ∀ (HS C : List Int), C ≠ [] → (relC b C HS).1 ≠ [] := by
  intro HS
  induction HS with
  | nil => intro C h; exact h
  | cons h t ih =>
    intro C hC
    rw [relC]
    split
    · exact ih _ (by simp)
    · exact hC
theorem stp_inv {s s1 : RS} {c : Int} (hv : v_rs s) (hu : u_rs s) (hc : -1 ≤ c ∧ c ≤ 255) (h : stp s c = some s1) : v_rs s1 ∧ u_rs s1 ∧ s1.1.length + s1.2.1.length ≤ s.1.length + s.2.1.length + 1 := by
  obtain ⟨C, HS, dp, cb, dg, o⟩ := s
  obtain ⟨v1, v2, v3, v4⟩ := hv
  obtain ⟨u1, u2⟩ := hu
  change dp ≤ 4 at v1
  change cb < 32 at v2
  change dg ≤ 3 at v3
  change ∀ x ∈ C, -256 ≤ x ∧ x ≤ 999 at u1
  change ∀ h ∈ HS, 0 ≤ h ∧ h ≤ 256 at u2
  have hsn : ∀ y : Int, (-256 ≤ y ∧ y ≤ 999) → ∀ x ∈ C ++ [y], -256 ≤ x ∧ x ≤ 999 := by
    intro y hy x hx
    rcases List.mem_append.mp hx with hx | hx
    · exact u1 x hx
    · rw [List.mem_singleton.mp hx]; exact hy
  have hcn : ∀ y : Int, (0 ≤ y ∧ y ≤ 256) → ∀ x ∈ y :: HS, 0 ≤ x ∧ x ≤ 256 := by
    intro y hy x hx
    rcases List.mem_cons.mp hx with rfl | hx
    · exact hy
    · exact u2 x hx
  cases o with
  | true =>
    change rth _ _ = _ at h
    unfold rth at h
    by_cases h45 : c = 45
    · rw [if_pos h45] at h
      obtain rfl := Option.some.inj h
      exact ⟨⟨v1, v2, v3, fun e => by cases e⟩, ⟨u1, hcn 256 (by decide)⟩, by show C.length + (256 :: HS).length ≤ C.length + HS.length + 1; simp; omega⟩
    rw [if_neg h45] at h
    by_cases h40 : c = 40
    · rw [if_pos h40] at h
      by_cases h4 : 4 ≤ dp
      · have h' : (if 4 ≤ dp then none else _) = some s1 := h
        rw [if_pos h4] at h'; cases h'
      · have h' : (if 4 ≤ dp then none else some (C, 40 :: HS, dp + 1, cbt cb (dp + 1), dg, true)) = some s1 := h
        rw [if_neg h4] at h'
        obtain rfl := Option.some.inj h'
        exact ⟨⟨by show dp + 1 ≤ 4; omega, (cbt_all cb v2 (dp + 1) (by omega)).1, v3, fun e => by cases e⟩, ⟨u1, hcn 40 (by decide)⟩, by show C.length + (40 :: HS).length ≤ C.length + HS.length + 1; simp; omega⟩
    rw [if_neg h40] at h
    by_cases h48 : 48 ≤ c ∧ c ≤ 57
    · rw [if_pos h48] at h
      obtain rfl := Option.some.inj h
      have hg : (C ++ [c - 48]).getLastD 0 = c - 48 := by simp
      refine ⟨⟨v1, v2, by show 1 ≤ 3; decide, fun _ => ⟨by simp, by show 1 ≤ 1; decide, fun _ => ?_, fun e => by cases e⟩⟩, ⟨hsn _ (by omega), u2⟩, by show (C ++ [c - 48]).length + HS.length ≤ C.length + HS.length + 1; simp; omega⟩
      show 0 ≤ (C ++ [c - 48]).getLastD 0 ∧ (C ++ [c - 48]).getLastD 0 ≤ 9
      rw [hg]; omega
    rw [if_neg h48] at h
    by_cases hL : ltr c = -1
    · rw [if_pos hL] at h; cases h
    · rw [if_neg hL] at h
      obtain rfl := Option.some.inj h
      have := ltr_ok c
      exact ⟨⟨v1, v2, by show 3 ≤ 3; decide, fun _ => ⟨by simp, by show 1 ≤ 3; decide, fun e => (by cases e), fun e => by cases e⟩⟩, ⟨hsn _ (by omega), u2⟩, by show (C ++ [-1 - ltr c]).length + HS.length ≤ C.length + HS.length + 1; simp; omega⟩
  | false =>
    obtain ⟨v5, v6, v7, v8⟩ := v4 rfl
    change C ≠ [] at v5
    change 1 ≤ dg at v6
    change dg = 1 → 0 ≤ C.getLastD 0 ∧ C.getLastD 0 ≤ 9 at v7
    change dg = 2 → 0 ≤ C.getLastD 0 ∧ C.getLastD 0 ≤ 99 at v8
    change rnx _ _ = _ at h
    unfold rnx at h
    by_cases h48 : 48 ≤ c ∧ c ≤ 57
    · rw [if_pos h48] at h
      have h' : (if 3 ≤ dg ∨ C = [] then none else some (C.dropLast ++ [C.getLastD 0 * 10 + (c - 48)], HS, dp, cb, dg + 1, false)) = some s1 := h
      by_cases h3 : 3 ≤ dg ∨ C = []
      · rw [if_pos h3] at h'; cases h'
      · rw [if_neg h3] at h'
        obtain rfl := Option.some.inj h'
        have hg : (C.dropLast ++ [C.getLastD 0 * 10 + (c - 48)]).getLastD 0 = C.getLastD 0 * 10 + (c - 48) := by simp
        have hd3 : dg < 3 := by
          by_cases q : 3 ≤ dg
          · exact absurd (Or.inl q) h3
          · omega
        have hln : 1 ≤ C.length := by
          cases C with
          | nil => exact absurd rfl v5
          | cons a t => simp
        have hx : 0 ≤ C.getLastD 0 ∧ C.getLastD 0 ≤ 99 ∧ (dg = 1 → C.getLastD 0 ≤ 9) := by
          by_cases q : dg = 1
          · have := v7 q; omega
          · have := v8 (by omega); omega
        refine ⟨⟨v1, v2, by show dg + 1 ≤ 3; omega, fun _ => ⟨by simp, by show 1 ≤ dg + 1; omega, fun e => ?_, fun e => ?_⟩⟩, ⟨?_, u2⟩, by show (C.dropLast ++ [C.getLastD 0 * 10 + (c - 48)]).length + HS.length ≤ C.length + HS.length + 1; simp; omega⟩
        · have e' : dg + 1 = 1 := e
          omega
        · have e' : dg + 1 = 2 := e
          have := hx.2.2 (by omega)
          show 0 ≤ (C.dropLast ++ [C.getLastD 0 * 10 + (c - 48)]).getLastD 0 ∧ (C.dropLast ++ [C.getLastD 0 * 10 + (c - 48)]).getLastD 0 ≤ 99
          rw [hg]; omega
        · intro x hx2
          rcases List.mem_append.mp hx2 with hx2 | hx2
          · exact u1 x ((List.dropLast_sublist C).subset hx2)
          · rw [List.mem_singleton.mp hx2]; omega
    rw [if_neg h48] at h
    by_cases h41 : c = 41
    · rw [if_pos h41] at h
      have h' : (if dp = 0 then none else some ((relC 1 C HS).1, (relC 1 C HS).2.tail, dp - 1, cb, 3, false)) = some s1 := h
      by_cases h0 : dp = 0
      · rw [if_pos h0] at h'; cases h'
      · rw [if_neg h0] at h'
        obtain rfl := Option.some.inj h'
        have hl := relC_len 1 HS C
        have hu := relC_u 1 HS C u1 u2
        exact ⟨⟨by show dp - 1 ≤ 4; omega, v2, by show 3 ≤ 3; decide, fun _ => ⟨relC_grow 1 HS C v5, by show 1 ≤ 3; decide, fun e => (by cases e), fun e => by cases e⟩⟩, ⟨hu.1, fun y hy => hu.2 y (List.mem_of_mem_tail hy)⟩, by show (relC 1 C HS).1.length + (relC 1 C HS).2.tail.length ≤ C.length + HS.length + 1; rw [List.length_tail]; omega⟩
    rw [if_neg h41] at h
    by_cases hb : bnd c = 0 ∨ (bnd c = 1 ∧ bt cb dp = 1)
    · have h' : (if bnd c = 0 ∨ (bnd c = 1 ∧ bt cb dp = 1) then none else _) = some s1 := h
      rw [if_pos hb] at h'; cases h'
    · have h' : (if bnd c = 0 ∨ (bnd c = 1 ∧ bt cb dp = 1) then none else some ((relC (bnd c) C HS).1, c :: (relC (bnd c) C HS).2, dp, if bnd c = 1 then sbt cb dp else cb, dg, true)) = some s1 := h
      rw [if_neg hb] at h'
      obtain rfl := Option.some.inj h'
      have hl := relC_len (bnd c) HS C
      have hu := relC_u (bnd c) HS C u1 u2
      have hc0 : 0 ≤ c := by
        by_cases q : c = -1
        · rw [q] at hb; exact absurd (Or.inl (by decide)) hb
        · omega
      refine ⟨⟨v1, ?_, v3, fun e => by cases e⟩, ⟨hu.1, fun y hy => ?_⟩, by show (relC (bnd c) C HS).1.length + (c :: (relC (bnd c) C HS).2).length ≤ C.length + HS.length + 1; simp; omega⟩
      · show (if bnd c = 1 then sbt cb dp else cb) < 32
        split
        · exact (sbt_all cb v2 dp (by omega)).1
        · exact v2
      · rcases List.mem_cons.mp hy with rfl | hy
        · omega
        · exact hu.2 y hy
section P34
variable {l : Launch} {G : am_G} {d : Nat} {mem : am_M}
theorem s_readNext {r : Nat} (hr : am_rul r) {C HS : List Int} {dp cb dg : Nat} (hs : c_rs r (C, HS, dp, cb, dg, false) mem) (hv : v_rs (C, HS, dp, cb, dg, false)) (hl : C.length + HS.length < 40) {c : Int} (hc : -1 ≤ c ∧ c ≤ 255) : am_Sm l G yX4_readNext mt_X4_readNext (d + 3) [.inr (.inr (r + 1)), .inl c, .inl (if 48 ≤ c ∧ c ≤ 57 then c - 48 else -1)] mem (o_rs r mem (rnx (C, HS, dp, cb, dg, false) c)) := by
  refine am_enter (ls := [some (.inr (.inr (r + 1))), some (.inl c), some (.inl (if 48 ≤ c ∧ c ≤ 57 then c - 48 else -1)), none]) (by decide) rfl (Nat.le_of_ble_eq_true rfl) rfl ?_
  by_cases h48 : 48 ≤ c ∧ c ≤ 57
  · rw [if_pos h48]
    refine rn_iload_n (x := (c - 48)) (q := 1) dX4_readNext_0 rfl rfl ?_
    refine rn_iflt (t := 10) (q := 4) dX4_readNext_1 rfl rfl (fun h => absurd h (by omega)) (fun w1 => ?_)
    refine rn_aload_n (x := r) (q := 5) dX4_readNext_4 rfl rfl ?_
    refine rn_iload_n (x := (c - 48)) (q := 6) dX4_readNext_5 rfl rfl ?_
    refine rn_callV (b := r) (as := [.inl (c - 48)]) (rest := []) (q := 9) dX4_readNext_6 ml_X4_88 sm_X4_readDigit rfl (am_rul_k hr) (by decide) (by omega) rfl rfl (Nat.le_of_ble_eq_true rfl) rfl (s_readDigit (d := d + 2) hr hs hv h48) ?_
    intro r6 mem6 hq6
    obtain ⟨rfl, hs1, hf1⟩ := hq6
    show am_Rn l G _ _ 9 [some (.inr (.inr (r + 1))), some (.inl c), some (.inl (c - 48)), none] [.inl (if (rnx (C, HS, dp, cb, dg, false) c).isSome = true then 1 else 0)] mem6 _
    refine rn_zret dX4_readNext_9 rfl (if_b _) ?_
    exact ⟨rfl, hs1, hf1⟩
  rw [if_neg h48]
  have hdp := hv.1
  change dp ≤ 4 at hdp
  by_cases h41 : c = 41
  · subst h41
    refine rn_iload_n (x := (-1)) (q := 1) dX4_readNext_0 rfl rfl ?_
    refine rn_iflt (t := 10) (q := 4) dX4_readNext_1 rfl rfl (fun w1 => ?_) (fun h => absurd h (by decide))
    refine rn_iload_n (x := 41) (q := 11) dX4_readNext_10 rfl rfl ?_
    refine rn_bipush (q := 13) dX4_readNext_11 ⟨by decide, by decide⟩ rfl ?_
    refine rn_cmpne (t := 21) (q := 16) dX4_readNext_13 rfl rfl (fun h => absurd h (by decide)) (fun w13 => ?_)
    refine rn_aload_n (x := r) (q := 17) dX4_readNext_16 rfl rfl ?_
    refine rn_callV (b := r) (as := []) (rest := []) (q := 20) dX4_readNext_17 ml_X4_92 sm_X4_close rfl (am_rul_k hr) (by decide) (by omega) rfl rfl (Nat.le_of_ble_eq_true rfl) rfl (s_close (d := d) hr hs hdp) ?_
    intro r17 mem17 hq17
    obtain ⟨rfl, hs1, hf1⟩ := hq17
    show am_Rn l G _ _ 20 [some (.inr (.inr (r + 1))), some (.inl 41), some (.inl (-1)), none] [.inl (if (rnx (C, HS, dp, cb, dg, false) 41).isSome = true then 1 else 0)] mem17 _
    refine rn_zret dX4_readNext_20 rfl (if_b _) ?_
    exact ⟨rfl, hs1, hf1⟩
  obtain ⟨hch, h6, h7, h8, h9⟩ := hs
  obtain ⟨v1, v2, v3, v4⟩ := hv
  change c_ch r C HS mem at hch
  change mem r 6 = (dp : Int) at h6
  change mem r 7 = (cb : Int) at h7
  change mem r 8 = (dg : Int) at h8
  change mem r 9 = 0 at h9
  change cb < 32 at v2
  by_cases hb0 : bnd c = 0
  · have hn : rnx (C, HS, dp, cb, dg, false) c = none := by unfold rnx; rw [if_neg h48, if_neg h41, if_pos (.inl hb0)]
    refine rn_iload_n (x := (-1)) (q := 1) dX4_readNext_0 rfl rfl ?_
    refine rn_iflt (t := 10) (q := 4) dX4_readNext_1 rfl rfl (fun w1 => ?_) (fun h => absurd h (by decide))
    refine rn_iload_n (x := c) (q := 11) dX4_readNext_10 rfl rfl ?_
    refine rn_bipush (q := 13) dX4_readNext_11 ⟨by decide, by decide⟩ rfl ?_
    refine rn_cmpne (t := 21) (q := 16) dX4_readNext_13 rfl rfl (fun w13 => ?_) (fun h => absurd h (by omega))
    refine rn_iload_n (x := c) (q := 22) dX4_readNext_21 rfl rfl ?_
    refine rn_callS (as := [.inl c]) (rest := []) (q := 25) dX4_readNext_22 ml_X4_96 sm_X4_bindingOf (by omega) rfl rfl (Nat.le_of_ble_eq_true rfl) rfl (s_bnd (d := d + 2) c) ?_
    intro r22 mem22 hq22
    obtain ⟨rfl, rfl⟩ := hq22
    show am_Rn l G _ _ 25 [some (.inr (.inr (r + 1))), some (.inl c), some (.inl (-1)), none] [.inl (bnd c)] mem _
    refine rn_istore_n (ls' := [some (.inr (.inr (r + 1))), some (.inl c), some (.inl (-1)), some (.inl (bnd c))]) (q := 26) dX4_readNext_25 (by decide) rfl rfl ?_
    refine rn_iload_n (x := (bnd c)) (q := 27) dX4_readNext_26 rfl rfl ?_
    refine rn_ifeq (t := 49) (q := 30) dX4_readNext_27 rfl rfl (fun w27 => ?_) (fun h => absurd h (by omega))
    refine rn_iconst (q := 50) dX4_readNext_49 (am_okd rfl) rfl ?_
    refine rn_zret dX4_readNext_50 rfl (by omega) ?_
    exact o_no hn fr_rs.rf
  have hc0 : 0 ≤ c ∧ c ≤ 256 := by
    by_cases q : c = -1
    · rw [q] at hb0; exact absurd (by decide) hb0
    · omega
  by_cases hb1 : bnd c = 1
  · by_cases hbt : bt cb dp = 1
    · have hn : rnx (C, HS, dp, cb, dg, false) c = none := by unfold rnx; rw [if_neg h48, if_neg h41, if_pos (.inr ⟨hb1, hbt⟩)]
      refine rn_iload_n (x := (-1)) (q := 1) dX4_readNext_0 rfl rfl ?_
      refine rn_iflt (t := 10) (q := 4) dX4_readNext_1 rfl rfl (fun w1 => ?_) (fun h => absurd h (by decide))
      refine rn_iload_n (x := c) (q := 11) dX4_readNext_10 rfl rfl ?_
      refine rn_bipush (q := 13) dX4_readNext_11 ⟨by decide, by decide⟩ rfl ?_
      refine rn_cmpne (t := 21) (q := 16) dX4_readNext_13 rfl rfl (fun w13 => ?_) (fun h => absurd h (by omega))
      refine rn_iload_n (x := c) (q := 22) dX4_readNext_21 rfl rfl ?_
      refine rn_callS (as := [.inl c]) (rest := []) (q := 25) dX4_readNext_22 ml_X4_96 sm_X4_bindingOf (by omega) rfl rfl (Nat.le_of_ble_eq_true rfl) rfl (s_bnd (d := d + 2) c) ?_
      intro r22 mem22 hq22
      obtain ⟨rfl, rfl⟩ := hq22
      show am_Rn l G _ _ 25 [some (.inr (.inr (r + 1))), some (.inl c), some (.inl (-1)), none] [.inl (bnd c)] mem _
      refine rn_istore_n (ls' := [some (.inr (.inr (r + 1))), some (.inl c), some (.inl (-1)), some (.inl (bnd c))]) (q := 26) dX4_readNext_25 (by decide) rfl rfl ?_
      refine rn_iload_n (x := (bnd c)) (q := 27) dX4_readNext_26 rfl rfl ?_
      refine rn_ifeq (t := 49) (q := 30) dX4_readNext_27 rfl rfl (fun h => absurd h (by omega)) (fun w27 => ?_)
      refine rn_iload_n (x := (bnd c)) (q := 31) dX4_readNext_30 rfl rfl ?_
      refine rn_iconst (q := 32) dX4_readNext_31 (am_okd rfl) rfl ?_
      refine rn_cmpne (t := 51) (q := 35) dX4_readNext_32 rfl rfl (fun h => absurd h (by omega)) (fun w32 => ?_)
      refine rn_aload_n (x := r) (q := 36) dX4_readNext_35 rfl rfl ?_
      refine rn_get (a := r) (v := .inl (cb : Int)) (q := 39) dX4_readNext_36 fl_X4_42 (am_rul_k hr) (am_gi h7) rfl ?_
      refine rn_aload_n (x := r) (q := 40) dX4_readNext_39 rfl rfl ?_
      refine rn_get (a := r) (v := .inl (dp : Int)) (q := 43) dX4_readNext_40 fl_X4_39 (am_rul_k hr) (am_gi h6) rfl ?_
      refine rn_ishr (q := 44) dX4_readNext_43 rfl ?_
      refine rn_iconst (q := 45) dX4_readNext_44 (am_okd rfl) rfl ?_
      refine rn_iand (q := 46) dX4_readNext_45 rfl ?_
      rw [show am_and (am_shr (cb : Int) (dp : Int)) 1 = (bt cb dp : Int) from tb_all cb v2 dp (by omega)]
      refine rn_ifeq (t := 51) (q := 49) dX4_readNext_46 rfl rfl (fun h => absurd h (by omega)) (fun w46 => ?_)
      refine rn_iconst (q := 50) dX4_readNext_49 (am_okd rfl) rfl ?_
      refine rn_zret dX4_readNext_50 rfl (by omega) ?_
      exact o_no hn fr_rs.rf
    · have hn : rnx (C, HS, dp, cb, dg, false) c = some ((relC (bnd c) C HS).1, c :: (relC (bnd c) C HS).2, dp, sbt cb dp, dg, true) := by
        unfold rnx
        rw [if_neg h48, if_neg h41, if_neg (by intro q; rcases q with q | q; exact hb0 q; exact hbt q.2), if_pos hb1]
      have hbz : bt cb dp = 0 := by have : bt cb dp < 2 := Nat.mod_lt _ (by decide); omega
      refine rn_iload_n (x := (-1)) (q := 1) dX4_readNext_0 rfl rfl ?_
      refine rn_iflt (t := 10) (q := 4) dX4_readNext_1 rfl rfl (fun w1 => ?_) (fun h => absurd h (by decide))
      refine rn_iload_n (x := c) (q := 11) dX4_readNext_10 rfl rfl ?_
      refine rn_bipush (q := 13) dX4_readNext_11 ⟨by decide, by decide⟩ rfl ?_
      refine rn_cmpne (t := 21) (q := 16) dX4_readNext_13 rfl rfl (fun w13 => ?_) (fun h => absurd h (by omega))
      refine rn_iload_n (x := c) (q := 22) dX4_readNext_21 rfl rfl ?_
      refine rn_callS (as := [.inl c]) (rest := []) (q := 25) dX4_readNext_22 ml_X4_96 sm_X4_bindingOf (by omega) rfl rfl (Nat.le_of_ble_eq_true rfl) rfl (s_bnd (d := d + 2) c) ?_
      intro r22 mem22 hq22
      obtain ⟨rfl, rfl⟩ := hq22
      show am_Rn l G _ _ 25 [some (.inr (.inr (r + 1))), some (.inl c), some (.inl (-1)), none] [.inl (bnd c)] mem _
      refine rn_istore_n (ls' := [some (.inr (.inr (r + 1))), some (.inl c), some (.inl (-1)), some (.inl (bnd c))]) (q := 26) dX4_readNext_25 (by decide) rfl rfl ?_
      refine rn_iload_n (x := (bnd c)) (q := 27) dX4_readNext_26 rfl rfl ?_
      refine rn_ifeq (t := 49) (q := 30) dX4_readNext_27 rfl rfl (fun h => absurd h (by omega)) (fun w27 => ?_)
      refine rn_iload_n (x := (bnd c)) (q := 31) dX4_readNext_30 rfl rfl ?_
      refine rn_iconst (q := 32) dX4_readNext_31 (am_okd rfl) rfl ?_
      refine rn_cmpne (t := 51) (q := 35) dX4_readNext_32 rfl rfl (fun h => absurd h (by omega)) (fun w32 => ?_)
      refine rn_aload_n (x := r) (q := 36) dX4_readNext_35 rfl rfl ?_
      refine rn_get (a := r) (v := .inl (cb : Int)) (q := 39) dX4_readNext_36 fl_X4_42 (am_rul_k hr) (am_gi h7) rfl ?_
      refine rn_aload_n (x := r) (q := 40) dX4_readNext_39 rfl rfl ?_
      refine rn_get (a := r) (v := .inl (dp : Int)) (q := 43) dX4_readNext_40 fl_X4_39 (am_rul_k hr) (am_gi h6) rfl ?_
      refine rn_ishr (q := 44) dX4_readNext_43 rfl ?_
      refine rn_iconst (q := 45) dX4_readNext_44 (am_okd rfl) rfl ?_
      refine rn_iand (q := 46) dX4_readNext_45 rfl ?_
      rw [show am_and (am_shr (cb : Int) (dp : Int)) 1 = (bt cb dp : Int) from tb_all cb v2 dp (by omega)]
      refine rn_ifeq (t := 51) (q := 49) dX4_readNext_46 rfl rfl (fun w46 => ?_) (fun h => absurd h (by omega))
      refine rn_iload_n (x := (bnd c)) (q := 52) dX4_readNext_51 rfl rfl ?_
      refine rn_iconst (q := 53) dX4_readNext_52 (am_okd rfl) rfl ?_
      refine rn_cmpne (t := 71) (q := 56) dX4_readNext_53 rfl rfl (fun h => absurd h (by omega)) (fun w53 => ?_)
      refine rn_aload_n (x := r) (q := 57) dX4_readNext_56 rfl rfl ?_
      refine rn_dup (q := 58) dX4_readNext_57 rfl rfl ?_
      refine rn_get (a := r) (v := .inl (cb : Int)) (q := 61) dX4_readNext_58 fl_X4_42 (am_rul_k hr) (am_gi h7) rfl ?_
      refine rn_iconst (q := 62) dX4_readNext_61 (am_okd rfl) rfl ?_
      refine rn_aload_n (x := r) (q := 63) dX4_readNext_62 rfl rfl ?_
      refine rn_get (a := r) (v := .inl (dp : Int)) (q := 66) dX4_readNext_63 fl_X4_39 (am_rul_k hr) (am_gi h6) rfl ?_
      refine rn_ishl (q := 67) dX4_readNext_66 rfl ?_
      refine rn_ior (q := 68) dX4_readNext_67 rfl ?_
      rw [show am_or (cb : Int) (am_shl 1 (dp : Int)) = (sbt cb dp : Int) from st_all cb v2 dp (by omega)]
      refine rn_puti (a := r) (q := 71) dX4_readNext_68 fl_X4_42 (am_rul_k hr) rfl rfl rfl ?_
      refine rn_aload_n (x := r) (q := 72) dX4_readNext_71 rfl rfl ?_
      refine rn_iload_n (x := (bnd c)) (q := 73) dX4_readNext_72 rfl rfl ?_
      refine rn_callV (b := r) (as := [.inl (bnd c)]) (rest := []) (q := 76) dX4_readNext_73 ml_X4_72 sm_X4_release rfl (am_rul_k hr) (by decide) (by omega) rfl rfl (Nat.le_of_ble_eq_true rfl) rfl (s_rel (d := d + 1) hr (bnd c) (hch.up (k := 7) (x := (sbt cb dp : Int)) (by decide) (by decide))) ?_
      intro r73 mem73 hq73
      obtain ⟨rfl, hc3, hc4⟩ := hq73
      show am_Rn l G _ _ 76 [some (.inr (.inr (r + 1))), some (.inl c), some (.inl (-1)), some (.inl (bnd c))] [] mem73 _
      refine rn_aload_n (x := r) (q := 77) dX4_readNext_76 rfl rfl ?_
      refine rn_iload_n (x := c) (q := 78) dX4_readNext_77 rfl rfl ?_
      refine rn_callV (b := r) (as := [.inl c]) (rest := []) (q := 81) dX4_readNext_78 ml_X4_76 sm_X4_hold rfl (am_rul_k hr) (by decide) (by omega) rfl rfl (Nat.le_of_ble_eq_true rfl) rfl (s_hold (d := d + 2) hr hc3 (by rw [relC_len]; exact hl) c hc0) ?_
      intro r78 mem78 hq78
      obtain ⟨rfl, hc5, hc6⟩ := hq78
      show am_Rn l G _ _ 81 [some (.inr (.inr (r + 1))), some (.inl c), some (.inl (-1)), some (.inl (bnd c))] [] mem78 _
      refine rn_aload_n (x := r) (q := 82) dX4_readNext_81 rfl rfl ?_
      refine rn_iconst (q := 83) dX4_readNext_82 (am_okd rfl) rfl ?_
      refine rn_putz (a := r) (q := 86) dX4_readNext_83 fl_X4_45 (am_rul_k hr) rfl rfl (by omega) rfl ?_
      refine rn_iconst (q := 87) dX4_readNext_86 (am_okd rfl) rfl ?_
      refine rn_zret dX4_readNext_87 rfl (by omega) ?_
      refine o_yes hn ⟨hc5.up (by decide) (by decide), ?_, ?_, ?_, am_up_self⟩ ((((fr_rs.rf.up _ _).tr hc4.rs).tr hc6.rs).up _ _)
      · rw [am_up_neq (by decide), hc6.2 6 (by decide) (by decide), hc4.2 6 (by decide) (by decide), am_up_neq (by decide)]; exact h6
      · rw [am_up_neq (by decide), hc6.2 7 (by decide) (by decide), hc4.2 7 (by decide) (by decide), am_up_self]
      · rw [am_up_neq (by decide), hc6.2 8 (by decide) (by decide), hc4.2 8 (by decide) (by decide), am_up_neq (by decide)]; exact h8
  · have hn : rnx (C, HS, dp, cb, dg, false) c = some ((relC (bnd c) C HS).1, c :: (relC (bnd c) C HS).2, dp, cb, dg, true) := by
      unfold rnx
      rw [if_neg h48, if_neg h41, if_neg (by intro q; rcases q with q | q; exact hb0 q; exact hb1 q.1), if_neg hb1]
    refine rn_iload_n (x := (-1)) (q := 1) dX4_readNext_0 rfl rfl ?_
    refine rn_iflt (t := 10) (q := 4) dX4_readNext_1 rfl rfl (fun w1 => ?_) (fun h => absurd h (by decide))
    refine rn_iload_n (x := c) (q := 11) dX4_readNext_10 rfl rfl ?_
    refine rn_bipush (q := 13) dX4_readNext_11 ⟨by decide, by decide⟩ rfl ?_
    refine rn_cmpne (t := 21) (q := 16) dX4_readNext_13 rfl rfl (fun w13 => ?_) (fun h => absurd h (by omega))
    refine rn_iload_n (x := c) (q := 22) dX4_readNext_21 rfl rfl ?_
    refine rn_callS (as := [.inl c]) (rest := []) (q := 25) dX4_readNext_22 ml_X4_96 sm_X4_bindingOf (by omega) rfl rfl (Nat.le_of_ble_eq_true rfl) rfl (s_bnd (d := d + 2) c) ?_
    intro r22 mem22 hq22
    obtain ⟨rfl, rfl⟩ := hq22
    show am_Rn l G _ _ 25 [some (.inr (.inr (r + 1))), some (.inl c), some (.inl (-1)), none] [.inl (bnd c)] mem _
    refine rn_istore_n (ls' := [some (.inr (.inr (r + 1))), some (.inl c), some (.inl (-1)), some (.inl (bnd c))]) (q := 26) dX4_readNext_25 (by decide) rfl rfl ?_
    refine rn_iload_n (x := (bnd c)) (q := 27) dX4_readNext_26 rfl rfl ?_
    refine rn_ifeq (t := 49) (q := 30) dX4_readNext_27 rfl rfl (fun h => absurd h (by omega)) (fun w27 => ?_)
    refine rn_iload_n (x := (bnd c)) (q := 31) dX4_readNext_30 rfl rfl ?_
    refine rn_iconst (q := 32) dX4_readNext_31 (am_okd rfl) rfl ?_
    refine rn_cmpne (t := 51) (q := 35) dX4_readNext_32 rfl rfl (fun w32 => ?_) (fun h => absurd h (by omega))
    refine rn_iload_n (x := (bnd c)) (q := 52) dX4_readNext_51 rfl rfl ?_
    refine rn_iconst (q := 53) dX4_readNext_52 (am_okd rfl) rfl ?_
    refine rn_cmpne (t := 71) (q := 56) dX4_readNext_53 rfl rfl (fun w53 => ?_) (fun h => absurd h (by omega))
    refine rn_aload_n (x := r) (q := 72) dX4_readNext_71 rfl rfl ?_
    refine rn_iload_n (x := (bnd c)) (q := 73) dX4_readNext_72 rfl rfl ?_
    refine rn_callV (b := r) (as := [.inl (bnd c)]) (rest := []) (q := 76) dX4_readNext_73 ml_X4_72 sm_X4_release rfl (am_rul_k hr) (by decide) (by omega) rfl rfl (Nat.le_of_ble_eq_true rfl) rfl (s_rel (d := d + 1) hr (bnd c) hch) ?_
    intro r73 mem73 hq73
    obtain ⟨rfl, hc3, hc4⟩ := hq73
    show am_Rn l G _ _ 76 [some (.inr (.inr (r + 1))), some (.inl c), some (.inl (-1)), some (.inl (bnd c))] [] mem73 _
    refine rn_aload_n (x := r) (q := 77) dX4_readNext_76 rfl rfl ?_
    refine rn_iload_n (x := c) (q := 78) dX4_readNext_77 rfl rfl ?_
    refine rn_callV (b := r) (as := [.inl c]) (rest := []) (q := 81) dX4_readNext_78 ml_X4_76 sm_X4_hold rfl (am_rul_k hr) (by decide) (by omega) rfl rfl (Nat.le_of_ble_eq_true rfl) rfl (s_hold (d := d + 2) hr hc3 (by rw [relC_len]; exact hl) c hc0) ?_
    intro r78 mem78 hq78
    obtain ⟨rfl, hc5, hc6⟩ := hq78
    show am_Rn l G _ _ 81 [some (.inr (.inr (r + 1))), some (.inl c), some (.inl (-1)), some (.inl (bnd c))] [] mem78 _
    refine rn_aload_n (x := r) (q := 82) dX4_readNext_81 rfl rfl ?_
    refine rn_iconst (q := 83) dX4_readNext_82 (am_okd rfl) rfl ?_
    refine rn_putz (a := r) (q := 86) dX4_readNext_83 fl_X4_45 (am_rul_k hr) rfl rfl (by omega) rfl ?_
    refine rn_iconst (q := 87) dX4_readNext_86 (am_okd rfl) rfl ?_
    refine rn_zret dX4_readNext_87 rfl (by omega) ?_
    refine o_yes hn ⟨hc5.up (by decide) (by decide), ?_, ?_, ?_, am_up_self⟩ ((hc4.rs.tr hc6.rs).up _ _)
    · rw [am_up_neq (by decide), hc6.2 6 (by decide) (by decide), hc4.2 6 (by decide) (by decide)]; exact h6
    · rw [am_up_neq (by decide), hc6.2 7 (by decide) (by decide), hc4.2 7 (by decide) (by decide)]; exact h7
    · rw [am_up_neq (by decide), hc6.2 8 (by decide) (by decide), hc4.2 8 (by decide) (by decide)]; exact h8
end P34
