def c_fact (r : Nat) (f : Nat → Int) (m : am_M) : Prop := ∀ k, k < 7 → m (r + 4) k = f k
/-- the stack of values, the last one first -/
def c_stk (r : Nat) (S : List Int) (m : am_M) : Prop := ∀ j, j < S.length → m (r + 3) j = S.reverse.getD j 0
theorem c_stk_top {r : Nat} {y : Int} {t : List Int} {m : am_M} (h : c_stk r (y :: t) m) : m (r + 3) t.length = y := by
  rw [h t.length (by simp), List.reverse_cons, lg_app (by simp)]; simp
theorem c_stk_tl {r : Nat} {y : Int} {t : List Int} {m : am_M} (h : c_stk r (y :: t) m) : c_stk r t m := by
  intro j hj
  rw [h j (by simp; omega), List.reverse_cons, lg_app (by simp; omega), if_neg (by simp; omega)]
theorem c_stk_put {r : Nat} {y : Int} {t : List Int} {m : am_M} (h : c_stk r t m) : c_stk r (y :: t) (am_up m (r + 3) t.length y) := by
  intro j hj
  rw [am_up_at, List.reverse_cons, lg_app (by simp at hj ⊢; omega), List.length_reverse]
  by_cases e : j = t.length
  · rw [if_pos e, if_pos e]
  · rw [if_neg e, if_neg e]; exact h j (by simp at hj; omega)
theorem getD_mem {C : List Int} {i : Nat} (h : i < C.length) : C.getD i 0 ∈ C := by
  rw [List.getD_eq_getElem?_getD, List.getElem?_eq_getElem h]
  exact List.getElem_mem h
theorem take_snoc {C : List Int} {i : Nat} (h : i < C.length) : C.take (i + 1) = C.take i ++ [C.getD i 0] := by
  rw [List.take_succ, List.getElem?_eq_getElem h, List.getD_eq_getElem?_getD, List.getElem?_eq_getElem h]
  rfl
theorem evs_len {f : Nat → Int} (S : List Int) (x : Int) : (evs f S x).length ≤ S.length + 1 := by
  unfold evs
  split
  · simp
  · split
    · cases S with
      | nil => simp
      | cons y t => simp
    · match S with
      | [] => simp
      | [y] => simp
      | y :: z :: t => simp
section P36
variable {l : Launch} {G : am_G} {d : Nat} {mem : am_M}
theorem s_ans35 {r : Nat} (hr : am_rul r) {C : List Int} (hC : c_code r C mem) {f : Nat → Int} (hF : c_fact r f mem) {v : Int} (hE : ev f C = [v]) : ∀ (k i : Nat) (S : List Int) (m : am_M) (x3 : Option am_V), i + k = C.length → S = ev f (C.take i) → S.length ≤ i → c_stk r S m → (∀ b, b ≠ r + 3 → m b = mem b) → am_Rn l G mt_X4_answer (d + 2) 35 [some (.inr (.inr (r + 1))), some (.inl (S.length : Int)), some (.inl (i : Int)), x3] [] m (fun q m1 => q = some (.inl v) ∧ ∀ b, b ≠ r + 3 → m1 b = mem b) := by
  have hC4 := hC.2.2.1
  intro k
  induction k with
  | zero =>
    intro i S m x3 hi hS hl hk hf
    have hi2 : i = C.length := by omega
    rw [hi2, List.take_length, hE] at hS
    have e4 : m r 4 = (C.length : Int) := by rw [hf r (by omega)]; exact hC.1
    have e0 : m (r + 3) 0 = v := by rw [hS] at hk; exact hk 0 (by simp)
    refine rn_iload_n (x := (i : Int)) (q := 36) dX4_answer_35 rfl rfl ?_
    refine rn_aload_n (x := r) (q := 37) dX4_answer_36 rfl rfl ?_
    refine rn_get (a := r) (v := .inl (C.length : Int)) (q := 40) dX4_answer_37 fl_X4_32 (am_rul_k hr) (am_gi e4) rfl ?_
    refine rn_cmpge (t := 166) (q := 43) dX4_answer_40 rfl rfl (fun w40 => ?_) (fun h => absurd h (by omega))
    refine rn_aload_n (x := r) (q := 167) dX4_answer_166 rfl rfl ?_
    refine rn_get (a := r) (v := .inr (.inr (r + 3 + 1))) (q := 170) dX4_answer_167 fl_X4_18 (am_rul_k hr) (am_rul_f2 hr) rfl ?_
    refine rn_iconst (q := 171) dX4_answer_170 (am_okd rfl) rfl ?_
    refine rn_ialdV (a := (r + 3)) (v := v) (q := 172) dX4_answer_171 (am_rul_k3 hr) (by omega) (by omega) e0 rfl ?_
    refine rn_iret dX4_answer_172 rfl ?_
    exact ⟨rfl, hf⟩
  | succ k ih =>
    intro i S m x3 hi hS hl hk hf
    have hil : i < C.length := by omega
    have e4 : m r 4 = (C.length : Int) := by rw [hf r (by omega)]; exact hC.1
    have hxv := hC.2.2.2 _ (getD_mem hil)
    have ex : m (r + 1) i = C.getD i 0 := by rw [hf (r + 1) (by omega)]; exact hC.2.1 i hil
    have hsn : ev f (C.take (i + 1)) = evs f S (C.getD i 0) := by rw [take_snoc hil, ev_snoc, ← hS]
    have hln := evs_len (f := f) S (C.getD i 0)
    generalize C.getD i 0 = x at hxv ex hsn hln
    have IH : ∀ (S1 : List Int) (m1 : am_M), S1 = evs f S x → c_stk r S1 m1 → (∀ b, b ≠ r + 3 → m1 b = mem b) → am_Rn l G mt_X4_answer (d + 2) 35 [some (.inr (.inr (r + 1))), some (.inl (S1.length : Int)), some (.inl ((i + 1 : Nat) : Int)), some (.inl x)] [] m1 (fun q m1 => q = some (.inl v) ∧ ∀ b, b ≠ r + 3 → m1 b = mem b) := fun S1 m1 h1 h2 h3 => ih (i + 1) S1 m1 _ (by omega) (by rw [h1, hsn]) (by rw [h1]; omega) h2 h3
    by_cases h7 : -7 ≤ x
    · by_cases h0 : 0 ≤ x
      · have he : evs f S x = x :: S := evs_num h0
        refine rn_iload_n (x := (i : Int)) (q := 36) dX4_answer_35 rfl rfl ?_
        refine rn_aload_n (x := r) (q := 37) dX4_answer_36 rfl rfl ?_
        refine rn_get (a := r) (v := .inl (C.length : Int)) (q := 40) dX4_answer_37 fl_X4_32 (am_rul_k hr) (am_gi e4) rfl ?_
        refine rn_cmpge (t := 166) (q := 43) dX4_answer_40 rfl rfl (fun h => absurd h (by omega)) (fun w40 => ?_)
        refine rn_aload_n (x := r) (q := 44) dX4_answer_43 rfl rfl ?_
        refine rn_get (a := r) (v := .inr (.inr (r + 1 + 1))) (q := 47) dX4_answer_44 fl_X4_9 (am_rul_k hr) (am_rul_f0 hr) rfl ?_
        refine rn_iload_n (x := (i : Int)) (q := 48) dX4_answer_47 rfl rfl ?_
        refine rn_ialdV (a := (r + 1)) (v := x) (q := 49) dX4_answer_48 (am_rul_k1 hr) (by omega) (by omega) ex rfl ?_
        refine rn_istore_n (ls' := [some (.inr (.inr (r + 1))), some (.inl (S.length : Int)), some (.inl (i : Int)), some (.inl x)]) (q := 50) dX4_answer_49 (by decide) rfl rfl ?_
        refine rn_iload_n (x := x) (q := 51) dX4_answer_50 rfl rfl ?_
        refine rn_ldcS_X4 (q := 53) dX4_answer_51 rfl rfl ?_
        refine rn_callVS 0 (by decide) (as := []) (rest := [.inl x]) (q := 56) dX4_answer_53 ml_X4_23 sm_J0_length_8abf5 (by omega) rfl rfl (Nat.le_of_ble_eq_true rfl) rfl (s_slen0 (d := d)) ?_
        intro r53 mem53 hq53
        obtain ⟨rfl, rfl⟩ := hq53
        show am_Rn l G _ _ 56 [some (.inr (.inr (r + 1))), some (.inl (S.length : Int)), some (.inl (i : Int)), some (.inl x)] [.inl 7, .inl x] m _
        refine rn_inegN (z := (-7)) (q := 57) dX4_answer_56 rfl (by unfold am_ok; omega) rfl ?_
        refine rn_cmplt (t := 94) (q := 60) dX4_answer_57 rfl rfl (fun h => absurd h (by omega)) (fun w57 => ?_)
        refine rn_iload_n (x := (S.length : Int)) (q := 61) dX4_answer_60 rfl rfl ?_
        refine rn_bipush (q := 63) dX4_answer_61 ⟨by decide, by decide⟩ rfl ?_
        refine rn_cmpge (t := 94) (q := 66) dX4_answer_63 rfl rfl (fun h => absurd h (by omega)) (fun w63 => ?_)
        refine rn_aload_n (x := r) (q := 67) dX4_answer_66 rfl rfl ?_
        refine rn_get (a := r) (v := .inr (.inr (r + 3 + 1))) (q := 70) dX4_answer_67 fl_X4_18 (am_rul_k hr) (am_rul_f2 hr) rfl ?_
        refine rn_iload_n (x := (S.length : Int)) (q := 71) dX4_answer_70 rfl rfl ?_
        refine rn_iload_n (x := x) (q := 72) dX4_answer_71 rfl rfl ?_
        refine rn_iflt (t := 79) (q := 75) dX4_answer_72 rfl rfl (fun h => absurd h (by omega)) (fun w72 => ?_)
        refine rn_iload_n (x := x) (q := 76) dX4_answer_75 rfl rfl ?_
        refine rn_goto (t := 87) dX4_answer_76 rfl ?_
        refine rn_iastV (a := (r + 3)) (m1 := am_up m (r + 3) (((S.length : Int)).toNat) x) (q := 88) dX4_answer_87 (am_rul_k3 hr) (by omega) (by omega) rfl rfl ?_
        refine rn_iincN (x := (S.length : Int)) (z := ((S.length + 1 : Nat) : Int)) (ls' := [some (.inr (.inr (r + 1))), some (.inl ((S.length + 1 : Nat) : Int)), some (.inl (i : Int)), some (.inl x)]) (q := 91) dX4_answer_88 rfl (by decide) (by omega) (by unfold am_ok; omega) rfl rfl ?_
        refine rn_goto (t := 160) dX4_answer_91 rfl ?_
        refine rn_iincN (x := (i : Int)) (z := ((i + 1 : Nat) : Int)) (ls' := [some (.inr (.inr (r + 1))), some (.inl ((S.length + 1 : Nat) : Int)), some (.inl ((i + 1 : Nat) : Int)), some (.inl x)]) (q := 163) dX4_answer_160 rfl (by decide) (by omega) (by unfold am_ok; omega) rfl rfl ?_
        refine rn_goto (t := 35) dX4_answer_163 rfl ?_
        exact IH (x :: S) _ he.symm (c_stk_put hk) (fun b hb => (am_up_ne hb).trans (hf b hb))
      · have he : evs f S x = f (-1 - x).toNat :: S := by unfold evs; rw [if_pos h7, if_neg h0]
        have ef : m (r + 4) (-1 - x).toNat = f (-1 - x).toNat := by rw [hf (r + 4) (by omega)]; exact hF _ (by omega)
        refine rn_iload_n (x := (i : Int)) (q := 36) dX4_answer_35 rfl rfl ?_
        refine rn_aload_n (x := r) (q := 37) dX4_answer_36 rfl rfl ?_
        refine rn_get (a := r) (v := .inl (C.length : Int)) (q := 40) dX4_answer_37 fl_X4_32 (am_rul_k hr) (am_gi e4) rfl ?_
        refine rn_cmpge (t := 166) (q := 43) dX4_answer_40 rfl rfl (fun h => absurd h (by omega)) (fun w40 => ?_)
        refine rn_aload_n (x := r) (q := 44) dX4_answer_43 rfl rfl ?_
        refine rn_get (a := r) (v := .inr (.inr (r + 1 + 1))) (q := 47) dX4_answer_44 fl_X4_9 (am_rul_k hr) (am_rul_f0 hr) rfl ?_
        refine rn_iload_n (x := (i : Int)) (q := 48) dX4_answer_47 rfl rfl ?_
        refine rn_ialdV (a := (r + 1)) (v := x) (q := 49) dX4_answer_48 (am_rul_k1 hr) (by omega) (by omega) ex rfl ?_
        refine rn_istore_n (ls' := [some (.inr (.inr (r + 1))), some (.inl (S.length : Int)), some (.inl (i : Int)), some (.inl x)]) (q := 50) dX4_answer_49 (by decide) rfl rfl ?_
        refine rn_iload_n (x := x) (q := 51) dX4_answer_50 rfl rfl ?_
        refine rn_ldcS_X4 (q := 53) dX4_answer_51 rfl rfl ?_
        refine rn_callVS 0 (by decide) (as := []) (rest := [.inl x]) (q := 56) dX4_answer_53 ml_X4_23 sm_J0_length_8abf5 (by omega) rfl rfl (Nat.le_of_ble_eq_true rfl) rfl (s_slen0 (d := d)) ?_
        intro r53 mem53 hq53
        obtain ⟨rfl, rfl⟩ := hq53
        show am_Rn l G _ _ 56 [some (.inr (.inr (r + 1))), some (.inl (S.length : Int)), some (.inl (i : Int)), some (.inl x)] [.inl 7, .inl x] m _
        refine rn_inegN (z := (-7)) (q := 57) dX4_answer_56 rfl (by unfold am_ok; omega) rfl ?_
        refine rn_cmplt (t := 94) (q := 60) dX4_answer_57 rfl rfl (fun h => absurd h (by omega)) (fun w57 => ?_)
        refine rn_iload_n (x := (S.length : Int)) (q := 61) dX4_answer_60 rfl rfl ?_
        refine rn_bipush (q := 63) dX4_answer_61 ⟨by decide, by decide⟩ rfl ?_
        refine rn_cmpge (t := 94) (q := 66) dX4_answer_63 rfl rfl (fun h => absurd h (by omega)) (fun w63 => ?_)
        refine rn_aload_n (x := r) (q := 67) dX4_answer_66 rfl rfl ?_
        refine rn_get (a := r) (v := .inr (.inr (r + 3 + 1))) (q := 70) dX4_answer_67 fl_X4_18 (am_rul_k hr) (am_rul_f2 hr) rfl ?_
        refine rn_iload_n (x := (S.length : Int)) (q := 71) dX4_answer_70 rfl rfl ?_
        refine rn_iload_n (x := x) (q := 72) dX4_answer_71 rfl rfl ?_
        refine rn_iflt (t := 79) (q := 75) dX4_answer_72 rfl rfl (fun w72 => ?_) (fun h => absurd h (by omega))
        refine rn_aload_n (x := r) (q := 80) dX4_answer_79 rfl rfl ?_
        refine rn_get (a := r) (v := .inr (.inr (r + 4 + 1))) (q := 83) dX4_answer_80 fl_X4_29 (am_rul_k hr) (am_rul_f3 hr) rfl ?_
        refine rn_iconst (q := 84) dX4_answer_83 (am_okd rfl) rfl ?_
        refine rn_iload_n (x := x) (q := 85) dX4_answer_84 rfl rfl ?_
        refine rn_isubN (z := -1 - x) (q := 86) dX4_answer_85 (by omega) (by unfold am_ok; omega) rfl ?_
        refine rn_ialdV (a := (r + 4)) (v := f (-1 - x).toNat) (q := 87) dX4_answer_86 (am_rul_k4 hr) (by omega) (by omega) ef rfl ?_
        refine rn_iastV (a := (r + 3)) (m1 := am_up m (r + 3) (((S.length : Int)).toNat) (f (-1 - x).toNat)) (q := 88) dX4_answer_87 (am_rul_k3 hr) (by omega) (by omega) rfl rfl ?_
        refine rn_iincN (x := (S.length : Int)) (z := ((S.length + 1 : Nat) : Int)) (ls' := [some (.inr (.inr (r + 1))), some (.inl ((S.length + 1 : Nat) : Int)), some (.inl (i : Int)), some (.inl x)]) (q := 91) dX4_answer_88 rfl (by decide) (by omega) (by unfold am_ok; omega) rfl rfl ?_
        refine rn_goto (t := 160) dX4_answer_91 rfl ?_
        refine rn_iincN (x := (i : Int)) (z := ((i + 1 : Nat) : Int)) (ls' := [some (.inr (.inr (r + 1))), some (.inl ((S.length + 1 : Nat) : Int)), some (.inl ((i + 1 : Nat) : Int)), some (.inl x)]) (q := 163) dX4_answer_160 rfl (by decide) (by omega) (by unfold am_ok; omega) rfl rfl ?_
        refine rn_goto (t := 35) dX4_answer_163 rfl ?_
        exact IH (f (-1 - x).toNat :: S) _ he.symm (c_stk_put hk) (fun b hb => (am_up_ne hb).trans (hf b hb))
    by_cases h256 : x = -256
    · match S, hS, hl, hk, hsn, hln, IH with
      | [], hS, hl, hk, hsn, hln, IH =>
        have he : evs f [] x = [] := by rw [h256]; rfl
        refine rn_iload_n (x := (i : Int)) (q := 36) dX4_answer_35 rfl rfl ?_
        refine rn_aload_n (x := r) (q := 37) dX4_answer_36 rfl rfl ?_
        refine rn_get (a := r) (v := .inl (C.length : Int)) (q := 40) dX4_answer_37 fl_X4_32 (am_rul_k hr) (am_gi e4) rfl ?_
        refine rn_cmpge (t := 166) (q := 43) dX4_answer_40 rfl rfl (fun h => absurd h (by omega)) (fun w40 => ?_)
        refine rn_aload_n (x := r) (q := 44) dX4_answer_43 rfl rfl ?_
        refine rn_get (a := r) (v := .inr (.inr (r + 1 + 1))) (q := 47) dX4_answer_44 fl_X4_9 (am_rul_k hr) (am_rul_f0 hr) rfl ?_
        refine rn_iload_n (x := (i : Int)) (q := 48) dX4_answer_47 rfl rfl ?_
        refine rn_ialdV (a := (r + 1)) (v := x) (q := 49) dX4_answer_48 (am_rul_k1 hr) (by omega) (by omega) ex rfl ?_
        refine rn_istore_n (ls' := [some (.inr (.inr (r + 1))), some (.inl 0), some (.inl (i : Int)), some (.inl x)]) (q := 50) dX4_answer_49 (by decide) rfl rfl ?_
        refine rn_iload_n (x := x) (q := 51) dX4_answer_50 rfl rfl ?_
        refine rn_ldcS_X4 (q := 53) dX4_answer_51 rfl rfl ?_
        refine rn_callVS 0 (by decide) (as := []) (rest := [.inl x]) (q := 56) dX4_answer_53 ml_X4_23 sm_J0_length_8abf5 (by omega) rfl rfl (Nat.le_of_ble_eq_true rfl) rfl (s_slen0 (d := d)) ?_
        intro r53 mem53 hq53
        obtain ⟨rfl, rfl⟩ := hq53
        show am_Rn l G _ _ 56 [some (.inr (.inr (r + 1))), some (.inl 0), some (.inl (i : Int)), some (.inl x)] [.inl 7, .inl x] m _
        refine rn_inegN (z := (-7)) (q := 57) dX4_answer_56 rfl (by unfold am_ok; omega) rfl ?_
        refine rn_cmplt (t := 94) (q := 60) dX4_answer_57 rfl rfl (fun w57 => ?_) (fun h => absurd h (by omega))
        refine rn_iload_n (x := x) (q := 95) dX4_answer_94 rfl rfl ?_
        refine rn_sipush (q := 98) dX4_answer_95 ⟨by decide, by decide⟩ rfl ?_
        refine rn_cmpne (t := 125) (q := 101) dX4_answer_98 rfl rfl (fun h => absurd h (by omega)) (fun w98 => ?_)
        refine rn_iload_n (x := 0) (q := 102) dX4_answer_101 rfl rfl ?_
        refine rn_ifle (t := 125) (q := 105) dX4_answer_102 rfl rfl (fun w102 => ?_) (fun h => absurd h (by decide))
        refine rn_iload_n (x := 0) (q := 126) dX4_answer_125 rfl rfl ?_
        refine rn_iconst (q := 127) dX4_answer_126 (am_okd rfl) rfl ?_
        refine rn_cmple (t := 160) (q := 130) dX4_answer_127 rfl rfl (fun w127 => ?_) (fun h => absurd h (by decide))
        refine rn_iincN (x := (i : Int)) (z := ((i + 1 : Nat) : Int)) (ls' := [some (.inr (.inr (r + 1))), some (.inl 0), some (.inl ((i + 1 : Nat) : Int)), some (.inl x)]) (q := 163) dX4_answer_160 rfl (by decide) (by omega) (by unfold am_ok; omega) rfl rfl ?_
        refine rn_goto (t := 35) dX4_answer_163 rfl ?_
        exact IH [] _ he.symm hk hf
      | y :: t, hS, hl, hk, hsn, hln, IH =>
        have he : evs f (y :: t) x = am_w32 (-y) :: t := by rw [h256]; exact evs_neg
        have hl2 : t.length + 1 ≤ i := hl
        refine rn_iload_n (x := (i : Int)) (q := 36) dX4_answer_35 rfl rfl ?_
        refine rn_aload_n (x := r) (q := 37) dX4_answer_36 rfl rfl ?_
        refine rn_get (a := r) (v := .inl (C.length : Int)) (q := 40) dX4_answer_37 fl_X4_32 (am_rul_k hr) (am_gi e4) rfl ?_
        refine rn_cmpge (t := 166) (q := 43) dX4_answer_40 rfl rfl (fun h => absurd h (by omega)) (fun w40 => ?_)
        refine rn_aload_n (x := r) (q := 44) dX4_answer_43 rfl rfl ?_
        refine rn_get (a := r) (v := .inr (.inr (r + 1 + 1))) (q := 47) dX4_answer_44 fl_X4_9 (am_rul_k hr) (am_rul_f0 hr) rfl ?_
        refine rn_iload_n (x := (i : Int)) (q := 48) dX4_answer_47 rfl rfl ?_
        refine rn_ialdV (a := (r + 1)) (v := x) (q := 49) dX4_answer_48 (am_rul_k1 hr) (by omega) (by omega) ex rfl ?_
        refine rn_istore_n (ls' := [some (.inr (.inr (r + 1))), some (.inl ((t.length + 1 : Nat) : Int)), some (.inl (i : Int)), some (.inl x)]) (q := 50) dX4_answer_49 (by decide) rfl rfl ?_
        refine rn_iload_n (x := x) (q := 51) dX4_answer_50 rfl rfl ?_
        refine rn_ldcS_X4 (q := 53) dX4_answer_51 rfl rfl ?_
        refine rn_callVS 0 (by decide) (as := []) (rest := [.inl x]) (q := 56) dX4_answer_53 ml_X4_23 sm_J0_length_8abf5 (by omega) rfl rfl (Nat.le_of_ble_eq_true rfl) rfl (s_slen0 (d := d)) ?_
        intro r53 mem53 hq53
        obtain ⟨rfl, rfl⟩ := hq53
        show am_Rn l G _ _ 56 [some (.inr (.inr (r + 1))), some (.inl ((t.length + 1 : Nat) : Int)), some (.inl (i : Int)), some (.inl x)] [.inl 7, .inl x] m _
        refine rn_inegN (z := (-7)) (q := 57) dX4_answer_56 rfl (by unfold am_ok; omega) rfl ?_
        refine rn_cmplt (t := 94) (q := 60) dX4_answer_57 rfl rfl (fun w57 => ?_) (fun h => absurd h (by omega))
        refine rn_iload_n (x := x) (q := 95) dX4_answer_94 rfl rfl ?_
        refine rn_sipush (q := 98) dX4_answer_95 ⟨by decide, by decide⟩ rfl ?_
        refine rn_cmpne (t := 125) (q := 101) dX4_answer_98 rfl rfl (fun h => absurd h (by omega)) (fun w98 => ?_)
        refine rn_iload_n (x := ((t.length + 1 : Nat) : Int)) (q := 102) dX4_answer_101 rfl rfl ?_
        refine rn_ifle (t := 125) (q := 105) dX4_answer_102 rfl rfl (fun h => absurd h (by omega)) (fun w102 => ?_)
        refine rn_aload_n (x := r) (q := 106) dX4_answer_105 rfl rfl ?_
        refine rn_get (a := r) (v := .inr (.inr (r + 3 + 1))) (q := 109) dX4_answer_106 fl_X4_18 (am_rul_k hr) (am_rul_f2 hr) rfl ?_
        refine rn_iload_n (x := ((t.length + 1 : Nat) : Int)) (q := 110) dX4_answer_109 rfl rfl ?_
        refine rn_iconst (q := 111) dX4_answer_110 (am_okd rfl) rfl ?_
        refine rn_isubN (z := (t.length : Int)) (q := 112) dX4_answer_111 (by omega) (by unfold am_ok; omega) rfl ?_
        refine rn_aload_n (x := r) (q := 113) dX4_answer_112 rfl rfl ?_
        refine rn_get (a := r) (v := .inr (.inr (r + 3 + 1))) (q := 116) dX4_answer_113 fl_X4_18 (am_rul_k hr) (am_rul_f2 hr) rfl ?_
        refine rn_iload_n (x := ((t.length + 1 : Nat) : Int)) (q := 117) dX4_answer_116 rfl rfl ?_
        refine rn_iconst (q := 118) dX4_answer_117 (am_okd rfl) rfl ?_
        refine rn_isubN (z := (t.length : Int)) (q := 119) dX4_answer_118 (by omega) (by unfold am_ok; omega) rfl ?_
        refine rn_ialdV (a := (r + 3)) (v := y) (q := 120) dX4_answer_119 (am_rul_k3 hr) (by omega) (by omega) (c_stk_top hk) rfl ?_
        refine rn_ineg (q := 121) dX4_answer_120 rfl ?_
        refine rn_iastV (a := (r + 3)) (m1 := am_up m (r + 3) (((t.length : Int)).toNat) (am_w32 (-y))) (q := 122) dX4_answer_121 (am_rul_k3 hr) (by omega) (by omega) rfl rfl ?_
        refine rn_goto (t := 160) dX4_answer_122 rfl ?_
        refine rn_iincN (x := (i : Int)) (z := ((i + 1 : Nat) : Int)) (ls' := [some (.inr (.inr (r + 1))), some (.inl ((t.length + 1 : Nat) : Int)), some (.inl ((i + 1 : Nat) : Int)), some (.inl x)]) (q := 163) dX4_answer_160 rfl (by decide) (by omega) (by unfold am_ok; omega) rfl rfl ?_
        refine rn_goto (t := 35) dX4_answer_163 rfl ?_
        exact IH (am_w32 (-y) :: t) _ he.symm (c_stk_put (c_stk_tl hk)) (fun b hb => (am_up_ne hb).trans (hf b hb))
    · match S, hS, hl, hk, hsn, hln, IH with
      | [], hS, hl, hk, hsn, hln, IH =>
        have he : evs f [] x = [] := by unfold evs; rw [if_neg h7, if_neg h256]
        refine rn_iload_n (x := (i : Int)) (q := 36) dX4_answer_35 rfl rfl ?_
        refine rn_aload_n (x := r) (q := 37) dX4_answer_36 rfl rfl ?_
        refine rn_get (a := r) (v := .inl (C.length : Int)) (q := 40) dX4_answer_37 fl_X4_32 (am_rul_k hr) (am_gi e4) rfl ?_
        refine rn_cmpge (t := 166) (q := 43) dX4_answer_40 rfl rfl (fun h => absurd h (by omega)) (fun w40 => ?_)
        refine rn_aload_n (x := r) (q := 44) dX4_answer_43 rfl rfl ?_
        refine rn_get (a := r) (v := .inr (.inr (r + 1 + 1))) (q := 47) dX4_answer_44 fl_X4_9 (am_rul_k hr) (am_rul_f0 hr) rfl ?_
        refine rn_iload_n (x := (i : Int)) (q := 48) dX4_answer_47 rfl rfl ?_
        refine rn_ialdV (a := (r + 1)) (v := x) (q := 49) dX4_answer_48 (am_rul_k1 hr) (by omega) (by omega) ex rfl ?_
        refine rn_istore_n (ls' := [some (.inr (.inr (r + 1))), some (.inl 0), some (.inl (i : Int)), some (.inl x)]) (q := 50) dX4_answer_49 (by decide) rfl rfl ?_
        refine rn_iload_n (x := x) (q := 51) dX4_answer_50 rfl rfl ?_
        refine rn_ldcS_X4 (q := 53) dX4_answer_51 rfl rfl ?_
        refine rn_callVS 0 (by decide) (as := []) (rest := [.inl x]) (q := 56) dX4_answer_53 ml_X4_23 sm_J0_length_8abf5 (by omega) rfl rfl (Nat.le_of_ble_eq_true rfl) rfl (s_slen0 (d := d)) ?_
        intro r53 mem53 hq53
        obtain ⟨rfl, rfl⟩ := hq53
        show am_Rn l G _ _ 56 [some (.inr (.inr (r + 1))), some (.inl 0), some (.inl (i : Int)), some (.inl x)] [.inl 7, .inl x] m _
        refine rn_inegN (z := (-7)) (q := 57) dX4_answer_56 rfl (by unfold am_ok; omega) rfl ?_
        refine rn_cmplt (t := 94) (q := 60) dX4_answer_57 rfl rfl (fun w57 => ?_) (fun h => absurd h (by omega))
        refine rn_iload_n (x := x) (q := 95) dX4_answer_94 rfl rfl ?_
        refine rn_sipush (q := 98) dX4_answer_95 ⟨by decide, by decide⟩ rfl ?_
        refine rn_cmpne (t := 125) (q := 101) dX4_answer_98 rfl rfl (fun w98 => ?_) (fun h => absurd h (by omega))
        refine rn_iload_n (x := 0) (q := 126) dX4_answer_125 rfl rfl ?_
        refine rn_iconst (q := 127) dX4_answer_126 (am_okd rfl) rfl ?_
        refine rn_cmple (t := 160) (q := 130) dX4_answer_127 rfl rfl (fun w127 => ?_) (fun h => absurd h (by decide))
        refine rn_iincN (x := (i : Int)) (z := ((i + 1 : Nat) : Int)) (ls' := [some (.inr (.inr (r + 1))), some (.inl 0), some (.inl ((i + 1 : Nat) : Int)), some (.inl x)]) (q := 163) dX4_answer_160 rfl (by decide) (by omega) (by unfold am_ok; omega) rfl rfl ?_
        refine rn_goto (t := 35) dX4_answer_163 rfl ?_
        exact IH [] _ he.symm hk hf
      | [y], hS, hl, hk, hsn, hln, IH =>
        have he : evs f [y] x = [y] := by unfold evs; rw [if_neg h7, if_neg h256]
        refine rn_iload_n (x := (i : Int)) (q := 36) dX4_answer_35 rfl rfl ?_
        refine rn_aload_n (x := r) (q := 37) dX4_answer_36 rfl rfl ?_
        refine rn_get (a := r) (v := .inl (C.length : Int)) (q := 40) dX4_answer_37 fl_X4_32 (am_rul_k hr) (am_gi e4) rfl ?_
        refine rn_cmpge (t := 166) (q := 43) dX4_answer_40 rfl rfl (fun h => absurd h (by omega)) (fun w40 => ?_)
        refine rn_aload_n (x := r) (q := 44) dX4_answer_43 rfl rfl ?_
        refine rn_get (a := r) (v := .inr (.inr (r + 1 + 1))) (q := 47) dX4_answer_44 fl_X4_9 (am_rul_k hr) (am_rul_f0 hr) rfl ?_
        refine rn_iload_n (x := (i : Int)) (q := 48) dX4_answer_47 rfl rfl ?_
        refine rn_ialdV (a := (r + 1)) (v := x) (q := 49) dX4_answer_48 (am_rul_k1 hr) (by omega) (by omega) ex rfl ?_
        refine rn_istore_n (ls' := [some (.inr (.inr (r + 1))), some (.inl 1), some (.inl (i : Int)), some (.inl x)]) (q := 50) dX4_answer_49 (by decide) rfl rfl ?_
        refine rn_iload_n (x := x) (q := 51) dX4_answer_50 rfl rfl ?_
        refine rn_ldcS_X4 (q := 53) dX4_answer_51 rfl rfl ?_
        refine rn_callVS 0 (by decide) (as := []) (rest := [.inl x]) (q := 56) dX4_answer_53 ml_X4_23 sm_J0_length_8abf5 (by omega) rfl rfl (Nat.le_of_ble_eq_true rfl) rfl (s_slen0 (d := d)) ?_
        intro r53 mem53 hq53
        obtain ⟨rfl, rfl⟩ := hq53
        show am_Rn l G _ _ 56 [some (.inr (.inr (r + 1))), some (.inl 1), some (.inl (i : Int)), some (.inl x)] [.inl 7, .inl x] m _
        refine rn_inegN (z := (-7)) (q := 57) dX4_answer_56 rfl (by unfold am_ok; omega) rfl ?_
        refine rn_cmplt (t := 94) (q := 60) dX4_answer_57 rfl rfl (fun w57 => ?_) (fun h => absurd h (by omega))
        refine rn_iload_n (x := x) (q := 95) dX4_answer_94 rfl rfl ?_
        refine rn_sipush (q := 98) dX4_answer_95 ⟨by decide, by decide⟩ rfl ?_
        refine rn_cmpne (t := 125) (q := 101) dX4_answer_98 rfl rfl (fun w98 => ?_) (fun h => absurd h (by omega))
        refine rn_iload_n (x := 1) (q := 126) dX4_answer_125 rfl rfl ?_
        refine rn_iconst (q := 127) dX4_answer_126 (am_okd rfl) rfl ?_
        refine rn_cmple (t := 160) (q := 130) dX4_answer_127 rfl rfl (fun w127 => ?_) (fun h => absurd h (by decide))
        refine rn_iincN (x := (i : Int)) (z := ((i + 1 : Nat) : Int)) (ls' := [some (.inr (.inr (r + 1))), some (.inl 1), some (.inl ((i + 1 : Nat) : Int)), some (.inl x)]) (q := 163) dX4_answer_160 rfl (by decide) (by omega) (by unfold am_ok; omega) rfl rfl ?_
        refine rn_goto (t := 35) dX4_answer_163 rfl ?_
        exact IH [y] _ he.symm hk hf
      | y :: z :: t, hS, hl, hk, hsn, hln, IH =>
        have he : evs f (y :: z :: t) x = jn (-x) z y :: t := by unfold evs; rw [if_neg h7, if_neg h256]
        have hl2 : t.length + 1 + 1 ≤ i := hl
        have ey : m (r + 3) (t.length + 1) = y := c_stk_top hk
        have ez : m (r + 3) t.length = z := c_stk_top (c_stk_tl hk)
        refine rn_iload_n (x := (i : Int)) (q := 36) dX4_answer_35 rfl rfl ?_
        refine rn_aload_n (x := r) (q := 37) dX4_answer_36 rfl rfl ?_
        refine rn_get (a := r) (v := .inl (C.length : Int)) (q := 40) dX4_answer_37 fl_X4_32 (am_rul_k hr) (am_gi e4) rfl ?_
        refine rn_cmpge (t := 166) (q := 43) dX4_answer_40 rfl rfl (fun h => absurd h (by omega)) (fun w40 => ?_)
        refine rn_aload_n (x := r) (q := 44) dX4_answer_43 rfl rfl ?_
        refine rn_get (a := r) (v := .inr (.inr (r + 1 + 1))) (q := 47) dX4_answer_44 fl_X4_9 (am_rul_k hr) (am_rul_f0 hr) rfl ?_
        refine rn_iload_n (x := (i : Int)) (q := 48) dX4_answer_47 rfl rfl ?_
        refine rn_ialdV (a := (r + 1)) (v := x) (q := 49) dX4_answer_48 (am_rul_k1 hr) (by omega) (by omega) ex rfl ?_
        refine rn_istore_n (ls' := [some (.inr (.inr (r + 1))), some (.inl ((t.length + 1 + 1 : Nat) : Int)), some (.inl (i : Int)), some (.inl x)]) (q := 50) dX4_answer_49 (by decide) rfl rfl ?_
        refine rn_iload_n (x := x) (q := 51) dX4_answer_50 rfl rfl ?_
        refine rn_ldcS_X4 (q := 53) dX4_answer_51 rfl rfl ?_
        refine rn_callVS 0 (by decide) (as := []) (rest := [.inl x]) (q := 56) dX4_answer_53 ml_X4_23 sm_J0_length_8abf5 (by omega) rfl rfl (Nat.le_of_ble_eq_true rfl) rfl (s_slen0 (d := d)) ?_
        intro r53 mem53 hq53
        obtain ⟨rfl, rfl⟩ := hq53
        show am_Rn l G _ _ 56 [some (.inr (.inr (r + 1))), some (.inl ((t.length + 1 + 1 : Nat) : Int)), some (.inl (i : Int)), some (.inl x)] [.inl 7, .inl x] m _
        refine rn_inegN (z := (-7)) (q := 57) dX4_answer_56 rfl (by unfold am_ok; omega) rfl ?_
        refine rn_cmplt (t := 94) (q := 60) dX4_answer_57 rfl rfl (fun w57 => ?_) (fun h => absurd h (by omega))
        refine rn_iload_n (x := x) (q := 95) dX4_answer_94 rfl rfl ?_
        refine rn_sipush (q := 98) dX4_answer_95 ⟨by decide, by decide⟩ rfl ?_
        refine rn_cmpne (t := 125) (q := 101) dX4_answer_98 rfl rfl (fun w98 => ?_) (fun h => absurd h (by omega))
        refine rn_iload_n (x := ((t.length + 1 + 1 : Nat) : Int)) (q := 126) dX4_answer_125 rfl rfl ?_
        refine rn_iconst (q := 127) dX4_answer_126 (am_okd rfl) rfl ?_
        refine rn_cmple (t := 160) (q := 130) dX4_answer_127 rfl rfl (fun h => absurd h (by omega)) (fun w127 => ?_)
        refine rn_iincN (x := ((t.length + 1 + 1 : Nat) : Int)) (z := ((t.length + 1 : Nat) : Int)) (ls' := [some (.inr (.inr (r + 1))), some (.inl ((t.length + 1 : Nat) : Int)), some (.inl (i : Int)), some (.inl x)]) (q := 133) dX4_answer_130 rfl (by decide) (by omega) (by unfold am_ok; omega) rfl rfl ?_
        refine rn_aload_n (x := r) (q := 134) dX4_answer_133 rfl rfl ?_
        refine rn_get (a := r) (v := .inr (.inr (r + 3 + 1))) (q := 137) dX4_answer_134 fl_X4_18 (am_rul_k hr) (am_rul_f2 hr) rfl ?_
        refine rn_iload_n (x := ((t.length + 1 : Nat) : Int)) (q := 138) dX4_answer_137 rfl rfl ?_
        refine rn_iconst (q := 139) dX4_answer_138 (am_okd rfl) rfl ?_
        refine rn_isubN (z := (t.length : Int)) (q := 140) dX4_answer_139 (by omega) (by unfold am_ok; omega) rfl ?_
        refine rn_iload_n (x := x) (q := 141) dX4_answer_140 rfl rfl ?_
        refine rn_inegN (z := (-x)) (q := 142) dX4_answer_141 rfl (by unfold am_ok; omega) rfl ?_
        refine rn_aload_n (x := r) (q := 143) dX4_answer_142 rfl rfl ?_
        refine rn_get (a := r) (v := .inr (.inr (r + 3 + 1))) (q := 146) dX4_answer_143 fl_X4_18 (am_rul_k hr) (am_rul_f2 hr) rfl ?_
        refine rn_iload_n (x := ((t.length + 1 : Nat) : Int)) (q := 147) dX4_answer_146 rfl rfl ?_
        refine rn_iconst (q := 148) dX4_answer_147 (am_okd rfl) rfl ?_
        refine rn_isubN (z := (t.length : Int)) (q := 149) dX4_answer_148 (by omega) (by unfold am_ok; omega) rfl ?_
        refine rn_ialdV (a := (r + 3)) (v := z) (q := 150) dX4_answer_149 (am_rul_k3 hr) (by omega) (by omega) ez rfl ?_
        refine rn_aload_n (x := r) (q := 151) dX4_answer_150 rfl rfl ?_
        refine rn_get (a := r) (v := .inr (.inr (r + 3 + 1))) (q := 154) dX4_answer_151 fl_X4_18 (am_rul_k hr) (am_rul_f2 hr) rfl ?_
        refine rn_iload_n (x := ((t.length + 1 : Nat) : Int)) (q := 155) dX4_answer_154 rfl rfl ?_
        refine rn_ialdV (a := (r + 3)) (v := y) (q := 156) dX4_answer_155 (am_rul_k3 hr) (by omega) (by omega) ey rfl ?_
        refine rn_callS (as := [.inl (-x), .inl z, .inl y]) (rest := [.inl (t.length : Int), .inr (.inr (r + 3 + 1))]) (q := 159) dX4_answer_156 ml_X4_102 sm_X4_join (by omega) rfl rfl (Nat.le_of_ble_eq_true rfl) rfl (s_join (d := d + 1) (-x) z y) ?_
        intro r156 mem156 hq156
        obtain ⟨rfl, rfl⟩ := hq156
        show am_Rn l G _ _ 159 [some (.inr (.inr (r + 1))), some (.inl ((t.length + 1 : Nat) : Int)), some (.inl (i : Int)), some (.inl x)] [.inl (jn (-x) z y), .inl (t.length : Int), .inr (.inr (r + 3 + 1))] m _
        refine rn_iastV (a := (r + 3)) (m1 := am_up m (r + 3) (((t.length : Int)).toNat) (jn (-x) z y)) (q := 160) dX4_answer_159 (am_rul_k3 hr) (by omega) (by omega) rfl rfl ?_
        refine rn_iincN (x := (i : Int)) (z := ((i + 1 : Nat) : Int)) (ls' := [some (.inr (.inr (r + 1))), some (.inl ((t.length + 1 : Nat) : Int)), some (.inl ((i + 1 : Nat) : Int)), some (.inl x)]) (q := 163) dX4_answer_160 rfl (by decide) (by omega) (by unfold am_ok; omega) rfl rfl ?_
        refine rn_goto (t := 35) dX4_answer_163 rfl ?_
        exact IH (jn (-x) z y :: t) _ he.symm (c_stk_put (c_stk_tl (c_stk_tl hk))) (fun b hb => (am_up_ne hb).trans (hf b hb))
theorem s_answer {r : Nat} (hr : am_rul r) {C : List Int} (hC : c_code r C mem) {f : Nat → Int} (hF : c_fact r f mem) {v : Int} (hE : ev f C = [v]) : am_Sm l G yX4_answer mt_X4_answer (d + 2) [.inr (.inr (r + 1))] mem (fun q m1 => q = some (.inl v) ∧ ∀ b, b ≠ r + 3 → m1 b = mem b) := by
  refine am_enter (ls := [some (.inr (.inr (r + 1))), none, none, none]) (by decide) rfl (Nat.le_of_ble_eq_true rfl) rfl ?_
  have hn : C.length ≠ 0 := by intro e; rw [List.eq_nil_of_length_eq_zero e] at hE; cases hE
  refine rn_aload_n (x := r) (q := 1) dX4_answer_0 rfl rfl ?_
  refine rn_get (a := r) (v := .inl (C.length : Int)) (q := 4) dX4_answer_1 fl_X4_32 (am_rul_k hr) (am_gi hC.1) rfl ?_
  refine rn_ifne (t := 31) (q := 7) dX4_answer_4 rfl rfl (fun w4 => ?_) (fun h => absurd h (by omega))
  refine rn_iconst (q := 32) dX4_answer_31 (am_okd rfl) rfl ?_
  refine rn_istore_n (ls' := [some (.inr (.inr (r + 1))), some (.inl 0), none, none]) (q := 33) dX4_answer_32 (by decide) rfl rfl ?_
  refine rn_iconst (q := 34) dX4_answer_33 (am_okd rfl) rfl ?_
  refine rn_istore_n (ls' := [some (.inr (.inr (r + 1))), some (.inl 0), some (.inl 0), none]) (q := 35) dX4_answer_34 (by decide) rfl rfl ?_
  exact s_ans35 hr hC hF hE C.length 0 [] mem none (by omega) rfl (Nat.le_refl 0) (fun j hj => absurd hj (Nat.not_lt_zero _)) (fun _ _ => rfl)
theorem s_answer0 {r : Nat} (hr : am_rul r) (hC : c_code r [] mem) {f : Nat → Int} (hF : c_fact r f mem) (hb : ∀ k, k < 3 → 0 ≤ f k ∧ f k ≤ 1000000) : am_Sm l G yX4_answer mt_X4_answer (d + 2) [.inr (.inr (r + 1))] mem (am_rr (some (.inl (f 0 - f 1 - f 2 / 10))) mem) := by
  refine am_enter (ls := [some (.inr (.inr (r + 1))), none, none, none]) (by decide) rfl (Nat.le_of_ble_eq_true rfl) rfl ?_
  have b0 := hb 0 (by decide)
  have b1 := hb 1 (by decide)
  have b2 := hb 2 (by decide)
  refine rn_aload_n (x := r) (q := 1) dX4_answer_0 rfl rfl ?_
  refine rn_get (a := r) (v := .inl 0) (q := 4) dX4_answer_1 fl_X4_32 (am_rul_k hr) (am_gi hC.1) rfl ?_
  refine rn_ifne (t := 31) (q := 7) dX4_answer_4 rfl rfl (fun h => absurd h (by decide)) (fun w4 => ?_)
  refine rn_aload_n (x := r) (q := 8) dX4_answer_7 rfl rfl ?_
  refine rn_get (a := r) (v := .inr (.inr (r + 4 + 1))) (q := 11) dX4_answer_8 fl_X4_29 (am_rul_k hr) (am_rul_f3 hr) rfl ?_
  refine rn_iconst (q := 12) dX4_answer_11 (am_okd rfl) rfl ?_
  refine rn_ialdV (a := (r + 4)) (v := f 0) (q := 13) dX4_answer_12 (am_rul_k4 hr) (by omega) (by omega) (hF 0 (by decide)) rfl ?_
  refine rn_aload_n (x := r) (q := 14) dX4_answer_13 rfl rfl ?_
  refine rn_get (a := r) (v := .inr (.inr (r + 4 + 1))) (q := 17) dX4_answer_14 fl_X4_29 (am_rul_k hr) (am_rul_f3 hr) rfl ?_
  refine rn_iconst (q := 18) dX4_answer_17 (am_okd rfl) rfl ?_
  refine rn_ialdV (a := (r + 4)) (v := f 1) (q := 19) dX4_answer_18 (am_rul_k4 hr) (by omega) (by omega) (hF 1 (by decide)) rfl ?_
  refine rn_isubN (z := f 0 - f 1) (q := 20) dX4_answer_19 (by omega) (by unfold am_ok; omega) rfl ?_
  refine rn_aload_n (x := r) (q := 21) dX4_answer_20 rfl rfl ?_
  refine rn_get (a := r) (v := .inr (.inr (r + 4 + 1))) (q := 24) dX4_answer_21 fl_X4_29 (am_rul_k hr) (am_rul_f3 hr) rfl ?_
  refine rn_iconst (q := 25) dX4_answer_24 (am_okd rfl) rfl ?_
  refine rn_ialdV (a := (r + 4)) (v := f 2) (q := 26) dX4_answer_25 (am_rul_k4 hr) (by omega) (by omega) (hF 2 (by decide)) rfl ?_
  refine rn_bipush (q := 28) dX4_answer_26 ⟨by decide, by decide⟩ rfl ?_
  refine rn_idivN (z := f 2 / 10) (q := 29) dX4_answer_28 (by decide) (Int.tdiv_eq_ediv_of_nonneg b2.1) (by unfold am_ok; omega) rfl ?_
  refine rn_isubN (z := f 0 - f 1 - f 2 / 10) (q := 30) dX4_answer_29 (by omega) (by unfold am_ok; omega) rfl ?_
  refine rn_iret dX4_answer_30 rfl ?_
  exact ⟨rfl, rfl⟩
end P36
