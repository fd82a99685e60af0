/-! the class's past, what was said -/
section P27
variable {l : Launch} {G : am_G} {d : Nat} {mem : am_M}
theorem s_push {U : List est} {e : est} {b : Nat} (hU : c_undo U mem) (hb : am_est b) (hb2 : b + 2 < 25) (he : c_est e b mem) : am_Sm l G yX2_push mt_X2_push (d + 1) [.inr (.inr 26), .inr (.inr (b + 1))] mem (fun r m => r = none ∧ c_undo (pushU U e) m ∧ ∀ x, x < 25 ∨ 62 < x → m x = mem x) := by
  refine am_enter (ls := [some (.inr (.inr 26)), some (.inr (.inr (b + 1))), none, none]) (by decide) rfl (Nat.le_of_ble_eq_true rfl) rfl ?_
  obtain ⟨u1, u2, p, u3, u4, u5⟩ := hU
  have tail : ∀ (lx ly : Option am_V) (k : Nat) (m1 : am_M) (p : Nat → Nat), k < 12 → m1 25 1 = (k : Int) → (∀ j, j < 12 → m1 26 j = ((p j + 1 : Nat) : Int) ∧ p j ∈ pastL) → (∀ i j, i < 12 → j < 12 → p i = p j → i = j) → (∀ j, j < k → c_est ((pushU U e).getD j est0) (p j) m1) → c_est e b m1 → (pushU U e).length = k + 1 → (pushU U e).getD k est0 = e → (∀ x, x < 25 ∨ 62 < x → m1 x = mem x) → am_Rn l G mt_X2_push (d + 1) 58 [some (.inr (.inr 26)), some (.inr (.inr (b + 1))), lx, ly] [] m1 (fun r m => r = none ∧ c_undo (pushU U e) m ∧ ∀ x, x < 25 ∨ 62 < x → m x = mem x) := by
    intro lx ly k m1 p hk h25 hp hinj hall hee hlen hlast hfr
    have hpk := pastL_est _ (hp k hk).2
    refine rn_aload_n (x := 25) (q := 59) dX2_push_58 rfl rfl ?_
    refine rn_get (a := 25) (v := .inr (.inr 27)) (q := 62) dX2_push_59 fl_X2_11 rfl rfl rfl ?_
    refine rn_aload_n (x := 25) (q := 63) dX2_push_62 rfl rfl ?_
    refine rn_get (a := 25) (v := .inl (k : Int)) (q := 66) dX2_push_63 fl_X2_18 rfl (am_gi h25) rfl ?_
    refine rn_aaldV (a := 26) (c := p k + 1) (q := 67) dX2_push_66 rfl (by omega) (by omega) (by show (m1 26 k).toNat = _; rw [(hp k hk).1]; rfl) rfl ?_
    refine rn_aload_n (x := b) (q := 68) dX2_push_67 rfl rfl ?_
    refine rn_callV (b := (p k)) (as := [.inr (.inr (b + 1))]) (rest := []) (q := 71) dX2_push_68 ml_X2_22 sm_X0_copy rfl (am_est_k hpk.1) (by decide) (by omega) rfl rfl (Nat.le_of_ble_eq_true rfl) rfl (s_copy (d := d) hpk.1 hb (by omega) hee) ?_
    intro r68 mem68 hq68
    obtain ⟨rfl, hc1, hc2⟩ := hq68
    show am_Rn l G _ _ 71 [some (.inr (.inr 26)), some (.inr (.inr (b + 1))), lx, ly] [] mem68 _
    refine rn_aload_n (x := 25) (q := 72) dX2_push_71 rfl rfl ?_
    refine rn_dup (q := 73) dX2_push_72 rfl rfl ?_
    refine rn_get (a := 25) (v := .inl (k : Int)) (q := 76) dX2_push_73 fl_X2_18 rfl (am_gi (show mem68 25 1 = (k : Int) by rw [hc2 25 (by omega) (by omega) (by omega)]; exact h25)) rfl ?_
    refine rn_iconst (q := 77) dX2_push_76 (am_okd rfl) rfl ?_
    refine rn_iaddN (z := ((k + 1 : Nat) : Int)) (q := 78) dX2_push_77 (by omega) (by unfold am_ok; omega) rfl ?_
    refine rn_puti (a := 25) (q := 81) dX2_push_78 fl_X2_18 rfl rfl rfl rfl ?_
    refine rn_vret dX2_push_81 rfl ?_
    refine ⟨rfl, ⟨by rw [am_up_self, hlen], by omega, p, fun j hj => ?_, hinj, fun j hj => ?_⟩, fun x hx => ?_⟩
    · rw [am_up_ne (by decide), hc2 26 (by omega) (by omega) (by omega)]; exact hp j hj
    · have hpj := pastL_est _ (hp j (by omega)).2
      by_cases hjk : j = k
      · rw [hjk, hlast]
        exact hc1.kept (am_up_ne (by omega)) (am_up_ne (by omega)) (am_up_ne (by omega))
      · have hne : p j ≠ p k := fun z => hjk (hinj j k (by omega) hk z)
        have hap := am_est_ap hpj.1 hpk.1 hne
        refine (hall j (by omega)).kept ?_ ?_ ?_
        · rw [am_up_ne (by omega), hc2 _ (by omega) (by omega) (by omega)]
        · rw [am_up_ne (by omega), hc2 _ (by omega) (by omega) (by omega)]
        · rw [am_up_ne (by omega), hc2 _ (by omega) (by omega) (by omega)]
    · rw [am_up_ne (by omega), hc2 x (by omega) (by omega) (by omega)]; exact hfr x hx
  have big : U.length = 12 → am_Rn l G mt_X2_push (d + 1) 9 [some (.inr (.inr 26)), some (.inr (.inr (b + 1))), none, none] [] mem (fun r m => r = none ∧ c_undo (pushU U e) m ∧ ∀ x, x < 25 ∨ 62 < x → m x = mem x) := by
    intro h12
    have hp : pushU U e = U.tail ++ [e] := by unfold pushU; rw [if_pos h12]
    have hp0 := pastL_est _ (u3 0 (by decide)).2
    have key : ∀ k : Nat, k ≤ 11 → am_Rn l G mt_X2_push (d + 1) 18 [some (.inr (.inr 26)), some (.inr (.inr (b + 1))), some (.inr (.inr (p 0 + 1))), some (.inl ((k + 1 : Nat) : Int))] [] (am_cpy mem 26 1 26 0 k) (fun r m => r = none ∧ c_undo (pushU U e) m ∧ ∀ x, x < 25 ∨ 62 < x → m x = mem x) := by
      refine am_down ?_ (fun k hk ih => ?_)
      · refine rn_iload_n (x := ((11 + 1 : Nat) : Int)) (q := 19) dX2_push_18 rfl rfl ?_
        refine rn_bipush (q := 21) dX2_push_19 ⟨by decide, by decide⟩ rfl ?_
        refine rn_cmpge (t := 44) (q := 24) dX2_push_21 rfl rfl (fun w21 => ?_) (fun h => absurd h (by omega))
        refine rn_aload_n (x := 25) (q := 45) dX2_push_44 rfl rfl ?_
        refine rn_get (a := 25) (v := .inr (.inr 27)) (q := 48) dX2_push_45 fl_X2_11 rfl rfl rfl ?_
        refine rn_bipush (q := 50) dX2_push_48 ⟨by decide, by decide⟩ rfl ?_
        refine rn_aload_n (x := p 0) (q := 51) dX2_push_50 rfl rfl ?_
        refine rn_aast (a := 26) (b := (p 0)) (q := 52) dX2_push_51 rfl (am_est_k hp0.1) (by omega) (by omega) rfl ?_
        refine rn_aload_n (x := 25) (q := 53) dX2_push_52 rfl rfl ?_
        refine rn_bipush (q := 55) dX2_push_53 ⟨by decide, by decide⟩ rfl ?_
        refine rn_puti (a := 25) (q := 58) dX2_push_55 fl_X2_18 rfl rfl rfl rfl ?_
        refine tail _ _ 11 _ (fun j => if j = 11 then p 0 else p (j + 1)) (by decide) am_up_self (fun j hj => ?_) (fun i j hi hj hij => ?_) (fun j hj => ?_) ?_ (by rw [hp]; simp; omega) ?_ (fun x hx => by rw [am_up_ne (by omega), am_up_ne (by omega), am_cpy_ne (by omega)])
        · rw [am_up_ne (by decide)]
          by_cases hj1 : j = 11
          · subst hj1
            rw [if_pos rfl]
            exact ⟨am_up_self, (u3 0 (by decide)).2⟩
          · rw [if_neg hj1]
            refine ⟨?_, (u3 (j + 1) (by omega)).2⟩
            rw [show (11 : Int).toNat = 11 from rfl, am_up_neq hj1, am_cpy_at, if_pos (by omega), ← (u3 (j + 1) (by omega)).1]
            congr 1; omega
        · split at hij <;> split at hij
          · omega
          · have := u4 _ _ (by omega) (by omega) hij; omega
          · have := u4 _ _ (by omega) (by omega) hij; omega
          · have := u4 _ _ (by omega) (by omega) hij; omega
        · rw [hp, lg_app (by simp; omega), if_neg (by simp; omega), lg_tail, if_neg (by omega)]
          have hpj := pastL_est _ (u3 (j + 1) (by omega)).2
          refine (u5 (j + 1) (by omega)).kept ?_ ?_ ?_
          · rw [am_up_ne (by omega), am_up_ne (by omega), am_cpy_ne (by omega)]
          · rw [am_up_ne (by omega), am_up_ne (by omega), am_cpy_ne (by omega)]
          · rw [am_up_ne (by omega), am_up_ne (by omega), am_cpy_ne (by omega)]
        · refine he.kept ?_ ?_ ?_
          · rw [am_up_ne (by omega), am_up_ne (by omega), am_cpy_ne (by omega)]
          · rw [am_up_ne (by omega), am_up_ne (by omega), am_cpy_ne (by omega)]
          · rw [am_up_ne (by omega), am_up_ne (by omega), am_cpy_ne (by omega)]
        · rw [hp, lg_app (by simp; omega), if_pos (by simp; omega)]
      · have hpk := pastL_est _ (u3 (k + 1) (by omega)).2
        refine rn_iload_n (x := ((k + 1 : Nat) : Int)) (q := 19) dX2_push_18 rfl rfl ?_
        refine rn_bipush (q := 21) dX2_push_19 ⟨by decide, by decide⟩ rfl ?_
        refine rn_cmpge (t := 44) (q := 24) dX2_push_21 rfl rfl (fun h => absurd h (by omega)) (fun w21 => ?_)
        refine rn_aload_n (x := 25) (q := 25) dX2_push_24 rfl rfl ?_
        refine rn_get (a := 25) (v := .inr (.inr 27)) (q := 28) dX2_push_25 fl_X2_11 rfl rfl rfl ?_
        refine rn_iload_n (x := ((k + 1 : Nat) : Int)) (q := 29) dX2_push_28 rfl rfl ?_
        refine rn_iconst (q := 30) dX2_push_29 (am_okd rfl) rfl ?_
        refine rn_isubN (z := (k : Int)) (q := 31) dX2_push_30 (by omega) (by unfold am_ok; omega) rfl ?_
        refine rn_aload_n (x := 25) (q := 32) dX2_push_31 rfl rfl ?_
        refine rn_get (a := 25) (v := .inr (.inr 27)) (q := 35) dX2_push_32 fl_X2_11 rfl rfl rfl ?_
        refine rn_iload_n (x := ((k + 1 : Nat) : Int)) (q := 36) dX2_push_35 rfl rfl ?_
        refine rn_aaldV (a := 26) (c := p (k + 1) + 1) (q := 37) dX2_push_36 rfl (by omega) (by omega) (by show (am_cpy mem 26 1 26 0 k 26 (k + 1)).toNat = _; rw [am_cpy_at, if_neg (by omega), (u3 (k + 1) (by omega)).1]; rfl) rfl ?_
        refine rn_aast (a := 26) (b := (p (k + 1))) (q := 38) dX2_push_37 rfl (am_est_k hpk.1) (by omega) (by omega) rfl ?_
        rw [show am_up (am_cpy mem 26 1 26 0 k) 26 ((k : Int)).toNat ((p (k + 1) + 1 : Nat) : Int) = am_cpy mem 26 1 26 0 (k + 1) by rw [← am_cpy_s, ← (u3 (k + 1) (by omega)).1, Nat.zero_add, Nat.add_comm 1 k]; rfl]
        refine rn_iincN (x := ((k + 1 : Nat) : Int)) (z := ((k + 1 + 1 : Nat) : Int)) (ls' := [some (.inr (.inr 26)), some (.inr (.inr (b + 1))), some (.inr (.inr (p 0 + 1))), some (.inl ((k + 1 + 1 : Nat) : Int))]) (q := 41) dX2_push_38 rfl (by decide) (by omega) (by unfold am_ok; omega) rfl rfl ?_
        refine rn_goto (t := 18) dX2_push_41 rfl ?_
        exact ih
    refine rn_aload_n (x := 25) (q := 10) dX2_push_9 rfl rfl ?_
    refine rn_get (a := 25) (v := .inr (.inr 27)) (q := 13) dX2_push_10 fl_X2_11 rfl rfl rfl ?_
    refine rn_iconst (q := 14) dX2_push_13 (am_okd rfl) rfl ?_
    refine rn_aaldV (a := 26) (c := p 0 + 1) (q := 15) dX2_push_14 rfl (by omega) (by omega) (by show (mem 26 0).toNat = _; rw [(u3 0 (by decide)).1]; rfl) rfl ?_
    refine rn_astore_n (ls' := [some (.inr (.inr 26)), some (.inr (.inr (b + 1))), some (.inr (.inr (p 0 + 1))), none]) (q := 16) dX2_push_15 (by decide) rfl rfl ?_
    refine rn_iconst (q := 17) dX2_push_16 (am_okd rfl) rfl ?_
    refine rn_istore_n (ls' := [some (.inr (.inr 26)), some (.inr (.inr (b + 1))), some (.inr (.inr (p 0 + 1))), some (.inl 1)]) (q := 18) dX2_push_17 (by decide) rfl rfl ?_
    have hk0 := key 0 (by omega)
    rw [am_cpy_0] at hk0
    exact hk0
  refine rn_aload_n (x := 25) (q := 1) dX2_push_0 rfl rfl ?_
  refine rn_get (a := 25) (v := .inl (U.length : Int)) (q := 4) dX2_push_1 fl_X2_18 rfl (am_gi u1) rfl ?_
  refine rn_bipush (q := 6) dX2_push_4 ⟨by decide, by decide⟩ rfl ?_
  refine rn_cmplt (t := 58) (q := 9) dX2_push_6 rfl rfl (fun w6 => ?_) (fun w6 => ?_)
  · have hne : U.length ≠ 12 := by omega
    have hp : pushU U e = U ++ [e] := by unfold pushU; rw [if_neg hne]
    refine tail _ _ U.length mem p (by omega) u1 u3 u4 (fun j hj => ?_) he (by rw [hp]; simp) (by rw [hp]; simp) (fun _ _ => rfl)
    rw [hp, lg_app (by simp; omega), if_neg (by omega)]
    exact u5 j hj
  · exact big (by omega)
theorem s_pop {U : List est} {b : Nat} (hU : c_undo U mem) (hb : am_est b) (hb2 : b + 2 < 25) : am_Sm l G yX2_pop mt_X2_pop (d + 1) [.inr (.inr 26), .inr (.inr (b + 1))] mem (fun r m => (U = [] ∧ r = some (.inl 0) ∧ m = mem) ∨ (U ≠ [] ∧ r = some (.inl 1) ∧ c_undo U.dropLast m ∧ c_est (U.getD (U.length - 1) est0) b m ∧ ∀ x, x ≠ b → x ≠ b + 1 → x ≠ b + 2 → x ≠ 25 → m x = mem x)) := by
  refine am_enter (ls := [some (.inr (.inr 26)), some (.inr (.inr (b + 1)))]) (by decide) rfl (Nat.le_of_ble_eq_true rfl) rfl ?_
  obtain ⟨u1, u2, p, u3, u4, u5⟩ := hU
  by_cases h0 : U = []
  · subst h0
    refine rn_aload_n (x := 25) (q := 1) dX2_pop_0 rfl rfl ?_
    refine rn_get (a := 25) (v := .inl 0) (q := 4) dX2_pop_1 fl_X2_18 rfl (am_gi u1) rfl ?_
    refine rn_ifgt (t := 9) (q := 7) dX2_pop_4 rfl rfl (fun h => absurd h (by decide)) (fun w4 => ?_)
    refine rn_iconst (q := 8) dX2_pop_7 (am_okd rfl) rfl ?_
    refine rn_zret dX2_pop_8 rfl (by omega) ?_
    exact Or.inl ⟨rfl, rfl, rfl⟩
  · have hl : 0 < U.length := List.length_pos_iff.mpr h0
    obtain ⟨k, hk⟩ : ∃ k, U.length = k + 1 := ⟨U.length - 1, by omega⟩
    rw [hk] at u1
    have hpk := pastL_est _ (u3 k (by omega)).2
    have hek : c_est (U.getD k est0) (p k) (am_up mem 25 1 (k : Int)) := (u5 k (by omega)).kept (am_up_ne (by omega)) (am_up_ne (by omega)) (am_up_ne (by omega))
    refine rn_aload_n (x := 25) (q := 1) dX2_pop_0 rfl rfl ?_
    refine rn_get (a := 25) (v := .inl ((k + 1 : Nat) : Int)) (q := 4) dX2_pop_1 fl_X2_18 rfl (am_gi u1) rfl ?_
    refine rn_ifgt (t := 9) (q := 7) dX2_pop_4 rfl rfl (fun w4 => ?_) (fun h => absurd h (by omega))
    refine rn_aload_n (x := 25) (q := 10) dX2_pop_9 rfl rfl ?_
    refine rn_dup (q := 11) dX2_pop_10 rfl rfl ?_
    refine rn_get (a := 25) (v := .inl ((k + 1 : Nat) : Int)) (q := 14) dX2_pop_11 fl_X2_18 rfl (am_gi u1) rfl ?_
    refine rn_iconst (q := 15) dX2_pop_14 (am_okd rfl) rfl ?_
    refine rn_isubN (z := (k : Int)) (q := 16) dX2_pop_15 (by omega) (by unfold am_ok; omega) rfl ?_
    refine rn_puti (a := 25) (q := 19) dX2_pop_16 fl_X2_18 rfl rfl rfl rfl ?_
    refine rn_aload_n (x := b) (q := 20) dX2_pop_19 rfl rfl ?_
    refine rn_aload_n (x := 25) (q := 21) dX2_pop_20 rfl rfl ?_
    refine rn_get (a := 25) (v := .inr (.inr 27)) (q := 24) dX2_pop_21 fl_X2_11 rfl rfl rfl ?_
    refine rn_aload_n (x := 25) (q := 25) dX2_pop_24 rfl rfl ?_
    refine rn_get (a := 25) (v := .inl (k : Int)) (q := 28) dX2_pop_25 fl_X2_18 rfl rfl rfl ?_
    refine rn_aaldV (a := 26) (c := p k + 1) (q := 29) dX2_pop_28 rfl (by omega) (by omega) (by show (mem 26 k).toNat = _; rw [(u3 k (by omega)).1]; rfl) rfl ?_
    refine rn_callV (b := b) (as := [.inr (.inr (p k + 1))]) (rest := []) (q := 32) dX2_pop_29 ml_X2_22 sm_X0_copy rfl (am_est_k hb) (by decide) (by omega) rfl rfl (Nat.le_of_ble_eq_true rfl) rfl (s_copy (d := d) hb hpk.1 (by omega) hek) ?_
    intro r29 mem29 hq29
    obtain ⟨rfl, hc1, hc2⟩ := hq29
    show am_Rn l G _ _ 32 [some (.inr (.inr 26)), some (.inr (.inr (b + 1)))] [] mem29 _
    refine rn_iconst (q := 33) dX2_pop_32 (am_okd rfl) rfl ?_
    refine rn_zret dX2_pop_33 rfl (by omega) ?_
    refine Or.inr ⟨h0, rfl, ⟨?_, by simp; omega, p, fun j hj => ?_, u4, fun j hj => ?_⟩, ?_, fun x x0 x1 x2 x3 => ?_⟩
    · rw [hc2 25 (by omega) (by omega) (by omega), am_up_self]; simp; omega
    · rw [hc2 26 (by omega) (by omega) (by omega), am_up_ne (by decide)]; exact u3 j hj
    · have hj2 : j < k := by simp at hj; omega
      have hpj := pastL_est _ (u3 j (by omega)).2
      have e1 : U.dropLast.getD j est0 = U.getD j est0 := by rw [List.getD_eq_getElem?_getD, List.getD_eq_getElem?_getD, List.getElem?_dropLast, if_pos (by omega)]
      rw [e1]
      refine (u5 j (by omega)).kept ?_ ?_ ?_
      · rw [hc2 _ (by omega) (by omega) (by omega), am_up_ne (by omega)]
      · rw [hc2 _ (by omega) (by omega) (by omega), am_up_ne (by omega)]
      · rw [hc2 _ (by omega) (by omega) (by omega), am_up_ne (by omega)]
    · rw [hk]; exact hc1
    · rw [hc2 x x0 x1 x2, am_up_ne x3]
theorem s_said {a : Nat} (ha : a = 65 ∨ a = 68) {T : List (Int × Int)} (hT : c_said a T mem) (x y : Int) : am_Sm l G yX5_add mt_X5_add d [.inr (.inr (a + 1)), .inl x, .inl y] mem (fun r m => (T.length = 12 ∧ r = some (.inl 0) ∧ m = mem) ∨ (T.length < 12 ∧ r = some (.inl 1) ∧ c_said a (T ++ [(x, y)]) m ∧ ∀ b, b ≠ a → b ≠ a + 1 → b ≠ a + 2 → m b = mem b)) := by
  refine am_enter (ls := [some (.inr (.inr (a + 1))), some (.inl x), some (.inl y)]) (by decide) rfl (Nat.le_of_ble_eq_true rfl) rfl ?_
  obtain ⟨t1, t2, t3⟩ := hT
  rcases ha with rfl | rfl
  · by_cases h12 : T.length = 12
    · refine rn_aload_n (x := 65) (q := 1) dX5_add_0 rfl rfl ?_
      refine rn_get (a := 65) (v := .inl (T.length : Int)) (q := 4) dX5_add_1 fl_X5_18 rfl (am_gi t1) rfl ?_
      refine rn_iflt (t := 16) (q := 7) dX5_add_4 rfl rfl (fun h => absurd h (by omega)) (fun w4 => ?_)
      refine rn_aload_n (x := 65) (q := 8) dX5_add_7 rfl rfl ?_
      refine rn_get (a := 65) (v := .inl (T.length : Int)) (q := 11) dX5_add_8 fl_X5_18 rfl (am_gi t1) rfl ?_
      refine rn_bipush (q := 13) dX5_add_11 ⟨by decide, by decide⟩ rfl ?_
      refine rn_cmplt (t := 18) (q := 16) dX5_add_13 rfl rfl (fun h => absurd h (by omega)) (fun w13 => ?_)
      refine rn_iconst (q := 17) dX5_add_16 (am_okd rfl) rfl ?_
      refine rn_zret dX5_add_17 rfl (by omega) ?_
      exact Or.inl ⟨h12, rfl, rfl⟩
    · refine rn_aload_n (x := 65) (q := 1) dX5_add_0 rfl rfl ?_
      refine rn_get (a := 65) (v := .inl (T.length : Int)) (q := 4) dX5_add_1 fl_X5_18 rfl (am_gi t1) rfl ?_
      refine rn_iflt (t := 16) (q := 7) dX5_add_4 rfl rfl (fun h => absurd h (by omega)) (fun w4 => ?_)
      refine rn_aload_n (x := 65) (q := 8) dX5_add_7 rfl rfl ?_
      refine rn_get (a := 65) (v := .inl (T.length : Int)) (q := 11) dX5_add_8 fl_X5_18 rfl (am_gi t1) rfl ?_
      refine rn_bipush (q := 13) dX5_add_11 ⟨by decide, by decide⟩ rfl ?_
      refine rn_cmplt (t := 18) (q := 16) dX5_add_13 rfl rfl (fun w13 => ?_) (fun h => absurd h (by omega))
      refine rn_aload_n (x := 65) (q := 19) dX5_add_18 rfl rfl ?_
      refine rn_get (a := 65) (v := .inr (.inr 67)) (q := 22) dX5_add_19 fl_X5_9 rfl rfl rfl ?_
      refine rn_aload_n (x := 65) (q := 23) dX5_add_22 rfl rfl ?_
      refine rn_get (a := 65) (v := .inl (T.length : Int)) (q := 26) dX5_add_23 fl_X5_18 rfl (am_gi t1) rfl ?_
      refine rn_iload_n (x := x) (q := 27) dX5_add_26 rfl rfl ?_
      refine rn_iastV (a := 66) (m1 := am_up mem 66 (((T.length : Int)).toNat) x) (q := 28) dX5_add_27 rfl (by omega) (by omega) rfl rfl ?_
      refine rn_aload_n (x := 65) (q := 29) dX5_add_28 rfl rfl ?_
      refine rn_get (a := 65) (v := .inr (.inr 68)) (q := 32) dX5_add_29 fl_X5_15 rfl rfl rfl ?_
      refine rn_aload_n (x := 65) (q := 33) dX5_add_32 rfl rfl ?_
      refine rn_get (a := 65) (v := .inl (T.length : Int)) (q := 36) dX5_add_33 fl_X5_18 rfl (am_gi t1) rfl ?_
      refine rn_iload_n (x := y) (q := 37) dX5_add_36 rfl rfl ?_
      refine rn_iastV (a := 67) (m1 := am_up (am_up mem 66 (((T.length : Int)).toNat) x) 67 (((T.length : Int)).toNat) y) (q := 38) dX5_add_37 rfl (by omega) (by omega) rfl rfl ?_
      refine rn_aload_n (x := 65) (q := 39) dX5_add_38 rfl rfl ?_
      refine rn_dup (q := 40) dX5_add_39 rfl rfl ?_
      refine rn_get (a := 65) (v := .inl (T.length : Int)) (q := 43) dX5_add_40 fl_X5_18 rfl (am_gi t1) rfl ?_
      refine rn_iconst (q := 44) dX5_add_43 (am_okd rfl) rfl ?_
      refine rn_iaddN (z := ((T.length + 1 : Nat) : Int)) (q := 45) dX5_add_44 (by omega) (by unfold am_ok; omega) rfl ?_
      refine rn_puti (a := 65) (q := 48) dX5_add_45 fl_X5_18 rfl rfl rfl rfl ?_
      refine rn_iconst (q := 49) dX5_add_48 (am_okd rfl) rfl ?_
      refine rn_zret dX5_add_49 rfl (by omega) ?_
      refine Or.inr ⟨by omega, rfl, ⟨by rw [am_up_self]; simp, by simp; omega, fun i hi => ?_⟩, fun b h1 h2 h3 => ?_⟩
      · rw [lg_app hi]
        by_cases hiT : i = T.length
        · subst hiT; rw [if_pos rfl]; exact ⟨by simp [am_up], by simp [am_up]⟩
        · rw [if_neg hiT]
          have := t3 i (by simp at hi; omega)
          exact ⟨by simp [am_up, hiT]; exact this.1, by simp [am_up, hiT]; exact this.2⟩
      · simp [am_up, h1, h2, h3]
  · by_cases h12 : T.length = 12
    · refine rn_aload_n (x := 68) (q := 1) dX5_add_0 rfl rfl ?_
      refine rn_get (a := 68) (v := .inl (T.length : Int)) (q := 4) dX5_add_1 fl_X5_18 rfl (am_gi t1) rfl ?_
      refine rn_iflt (t := 16) (q := 7) dX5_add_4 rfl rfl (fun h => absurd h (by omega)) (fun w4 => ?_)
      refine rn_aload_n (x := 68) (q := 8) dX5_add_7 rfl rfl ?_
      refine rn_get (a := 68) (v := .inl (T.length : Int)) (q := 11) dX5_add_8 fl_X5_18 rfl (am_gi t1) rfl ?_
      refine rn_bipush (q := 13) dX5_add_11 ⟨by decide, by decide⟩ rfl ?_
      refine rn_cmplt (t := 18) (q := 16) dX5_add_13 rfl rfl (fun h => absurd h (by omega)) (fun w13 => ?_)
      refine rn_iconst (q := 17) dX5_add_16 (am_okd rfl) rfl ?_
      refine rn_zret dX5_add_17 rfl (by omega) ?_
      exact Or.inl ⟨h12, rfl, rfl⟩
    · refine rn_aload_n (x := 68) (q := 1) dX5_add_0 rfl rfl ?_
      refine rn_get (a := 68) (v := .inl (T.length : Int)) (q := 4) dX5_add_1 fl_X5_18 rfl (am_gi t1) rfl ?_
      refine rn_iflt (t := 16) (q := 7) dX5_add_4 rfl rfl (fun h => absurd h (by omega)) (fun w4 => ?_)
      refine rn_aload_n (x := 68) (q := 8) dX5_add_7 rfl rfl ?_
      refine rn_get (a := 68) (v := .inl (T.length : Int)) (q := 11) dX5_add_8 fl_X5_18 rfl (am_gi t1) rfl ?_
      refine rn_bipush (q := 13) dX5_add_11 ⟨by decide, by decide⟩ rfl ?_
      refine rn_cmplt (t := 18) (q := 16) dX5_add_13 rfl rfl (fun w13 => ?_) (fun h => absurd h (by omega))
      refine rn_aload_n (x := 68) (q := 19) dX5_add_18 rfl rfl ?_
      refine rn_get (a := 68) (v := .inr (.inr 70)) (q := 22) dX5_add_19 fl_X5_9 rfl rfl rfl ?_
      refine rn_aload_n (x := 68) (q := 23) dX5_add_22 rfl rfl ?_
      refine rn_get (a := 68) (v := .inl (T.length : Int)) (q := 26) dX5_add_23 fl_X5_18 rfl (am_gi t1) rfl ?_
      refine rn_iload_n (x := x) (q := 27) dX5_add_26 rfl rfl ?_
      refine rn_iastV (a := 69) (m1 := am_up mem 69 (((T.length : Int)).toNat) x) (q := 28) dX5_add_27 rfl (by omega) (by omega) rfl rfl ?_
      refine rn_aload_n (x := 68) (q := 29) dX5_add_28 rfl rfl ?_
      refine rn_get (a := 68) (v := .inr (.inr 71)) (q := 32) dX5_add_29 fl_X5_15 rfl rfl rfl ?_
      refine rn_aload_n (x := 68) (q := 33) dX5_add_32 rfl rfl ?_
      refine rn_get (a := 68) (v := .inl (T.length : Int)) (q := 36) dX5_add_33 fl_X5_18 rfl (am_gi t1) rfl ?_
      refine rn_iload_n (x := y) (q := 37) dX5_add_36 rfl rfl ?_
      refine rn_iastV (a := 70) (m1 := am_up (am_up mem 69 (((T.length : Int)).toNat) x) 70 (((T.length : Int)).toNat) y) (q := 38) dX5_add_37 rfl (by omega) (by omega) rfl rfl ?_
      refine rn_aload_n (x := 68) (q := 39) dX5_add_38 rfl rfl ?_
      refine rn_dup (q := 40) dX5_add_39 rfl rfl ?_
      refine rn_get (a := 68) (v := .inl (T.length : Int)) (q := 43) dX5_add_40 fl_X5_18 rfl (am_gi t1) rfl ?_
      refine rn_iconst (q := 44) dX5_add_43 (am_okd rfl) rfl ?_
      refine rn_iaddN (z := ((T.length + 1 : Nat) : Int)) (q := 45) dX5_add_44 (by omega) (by unfold am_ok; omega) rfl ?_
      refine rn_puti (a := 68) (q := 48) dX5_add_45 fl_X5_18 rfl rfl rfl rfl ?_
      refine rn_iconst (q := 49) dX5_add_48 (am_okd rfl) rfl ?_
      refine rn_zret dX5_add_49 rfl (by omega) ?_
      refine Or.inr ⟨by omega, rfl, ⟨by rw [am_up_self]; simp, by simp; omega, fun i hi => ?_⟩, fun b h1 h2 h3 => ?_⟩
      · rw [lg_app hi]
        by_cases hiT : i = T.length
        · subst hiT; rw [if_pos rfl]; exact ⟨by simp [am_up], by simp [am_up]⟩
        · rw [if_neg hiT]
          have := t3 i (by simp at hi; omega)
          exact ⟨by simp [am_up, hiT]; exact this.1, by simp [am_up, hiT]; exact this.2⟩
      · simp [am_up, h1, h2, h3]
end P27
