/-! the reference's order -/
def frG (m m1 : am_M) : Prop := (∀ b, b ≠ 95 → b ≠ 114 → b ≠ 115 → m1 b = m b) ∧ ∀ k, k ≠ 35 → m1 95 k = m 95 k
theorem frG.rf {m : am_M} : frG m m := ⟨fun _ _ _ _ => rfl, fun _ _ => rfl⟩
theorem frG.tr {a b c : am_M} (f : frG a b) (g : frG b c) : frG a c := ⟨fun x h1 h2 h3 => (g.1 x h1 h2 h3).trans (f.1 x h1 h2 h3), fun k h => (g.2 k h).trans (f.2 k h)⟩
theorem frG.to9 {a b : am_M} (f : frG a b) : frS s9 a b := fun x k hb => by
  unfold s9 at hb
  simp [ble_f] at hb
  by_cases h95 : x = 95
  · subst h95; exact f.2 k (by omega)
  · rw [f.1 x h95 (by omega) (by omega)]
theorem gv_0 {sh : Nat → Int} {py : Nat → Nat} {n : Nat} {w : Int} (hw : 0 ≤ w) : gv sh py 0 n w = 0 := by
  have hc : ∀ t k, cap sh py 0 t k = 0 := by
    intro t k
    induction k with
    | zero => rfl
    | succ k ih => rw [cap, ih, if_neg (fun q => by simp at q)]; rfl
  have hg : ∀ k, gvS (gm sh py 0 n w) k = 0 := by
    intro k
    induction k with
    | zero => rfl
    | succ k ih => rw [gvS, ih]; unfold gm; rw [hc]; omega
  exact hg 9
theorem gd_app {L : List Nat} {x j : Nat} (h : j < L.length + 1) : (L ++ [x]).getD j 0 = if j = L.length then x else L.getD j 0 := lg_app (by rw [List.length_append]; exact h)
theorem take_s {L : List Nat} {i : Nat} (h : i < L.length) : L.take (i + 1) = L.take i ++ [L.getD i 0] := by
  rw [List.take_succ, List.getD_eq_getElem?_getD, List.getElem?_eq_getElem h]; rfl
theorem ordF_len {sh : Nat → Int} {py : Nat → Nat} {n : Nat} (hs : ∀ i, 0 ≤ sh i) (hn : n ≤ 8) (hp : ∀ i, py i ≤ 9) : ∀ (f b0 : Nat) (w : Int), 0 ≤ w → b0 < 2 ^ n → f = pc b0 → (ordF sh py n f b0 w).length = f := by
  intro f
  induction f with
  | zero => intro b0 w _ _ _; rfl
  | succ f ih =>
    intro b0 w hw hm hf
    obtain ⟨i, hS, hi, hb, -, -⟩ := ord_some hs hw hn hm hp (show 0 < pc b0 by omega)
    have h8 := p2_8 hn
    have hc := clr_lt b0 (by omega) i (by omega)
    have hpc := pc_clr b0 (by omega) i (by omega) hb
    have e1 : ordF sh py n (f + 1) b0 w = i :: ordF sh py n f (clrB b0 i) (w - min w (sh i)) := by rw [ordF, hS]
    have h0 := hs i
    rw [e1, List.length_cons, ih (clrB b0 i) (w - min w (sh i)) (by omega) (by omega) (by omega)]
section P76
variable {l : Launch} {G : am_G} {d : Nat} {r : Nat} {X : List Nat} {C : List Int} {sn : Nat} {sg : Nat → Nat} {h : hrs} {e : est} {NB : Nat} {mem m : am_M}
theorem m_tellC {L : List Int} (hr : m_row L mem) (hl : L.length < 9) (x : Int) : am_Sm l G yX9_tell mt_X9_tell d [.inr (.inr 96), .inr (.inl x)] mem (fun q m => q = none ∧ m_row (L ++ [x]) m ∧ frS s9r mem m ∧ (∀ b k, (b == 95) = false → (b == 102) = false → m b k = mem b k) ∧ ∀ k, k ≠ 10 → m 95 k = mem 95 k) := by
  refine am_Sm_mono (s_tell9 L.length (by omega) hr.1 x) (fun r m hq => ?_)
  obtain ⟨rfl, rfl⟩ := hq
  refine ⟨rfl, ⟨?_, by simp; omega, fun i hi => ?_⟩, (frS.rf.up rfl).up rfl, fun b k h3 h4 => ?_, fun k h3 => ?_⟩
  · rw [am_up_self]; simp
  · rw [lg_app hi]
    show am_up mem 102 L.length x 102 i = _
    rw [am_up_at]
    by_cases e : i = L.length
    · rw [if_pos e, if_pos e]
    · rw [if_neg e, if_neg e]; exact hr.2.2 i (by simp at hi; omega)
  · rw [am_up_ne (by simpa using h3), am_up_ne (by simpa using h4)]
  · rw [am_up_neq h3, am_up_ne (by decide)]
theorem m_present (q : DQ X sn sg h e NB mem) : am_Sm l G yX9_present mt_X9_present d [.inr (.inr 96), .inr (.inr 97)] mem (am_rr (some (.inl (eP e : Int))) mem) := s_present9 96 h.1 (eP e) rfl q.n q.bd.1 q.bd.2.2.1 q.es.a.2.2.1
def oR (sh : Nat → Int) (h : hrs) (T : Nat) (r k S : Nat) (w sum M : Int) (pre : List Nat) (mem : am_M) : Option am_V → am_M → Prop := fun q m => q = none ∧ frG mem m ∧ (∀ j, j < k → m 114 j = mem 114 j) ∧ ((sum + gv sh h.2.2.2 S h.1 w ≤ M ∧ m 95 35 = M ∧ ∀ j, m 115 j = mem 115 j) ∨ (M < sum + gv sh h.2.2.2 S h.1 w ∧ m 95 35 = sum + gv sh h.2.2.2 S h.1 w ∧ ∀ j, j < pc T → m 115 j = (((pre ++ ordF sh h.2.2.2 h.1 r S w).getD j 0 : Nat) : Int)))
theorem m_goOrder {sh : Nat → Int} (hs0 : ∀ i, 0 ≤ sh i) : ∀ (r : Nat) (mem : am_M) (k told S : Nat) (w sum M : Int) (pre : List Nat), DQ X sn sg h e NB mem → r = pc S → k + r = pc (eP e) → S < 2 ^ h.1 → (∀ i, i < 8 → S.testBit i = ((eP e).testBit i && !told.testBit i)) → told < 256 → 0 ≤ w ∧ w ≤ 9 → 0 ≤ sum ∧ sum ≤ 81 * (k : Int) → -1 ≤ M ∧ M ≤ 1000 → (∀ i, i < h.1 → mem 111 i = sh i) → mem 95 35 = M → pre.length = k → (∀ j, j < k → mem 114 j = ((pre.getD j 0 : Nat) : Int)) → am_Sm l G yX9_goOrder mt_X9_goOrder (d + 2 + r) [.inr (.inr 96), .inl (k : Int), .inl (told : Int), .inl w, .inl sum] mem (oR sh h (eP e) r k S w sum M pre mem) := by
  intro r
  induction r with
  | zero =>
    intro mem k told S w sum M pre q hr hk hS hbits htold hw hsum hM hsh h35 hpl hpre
    have b := q.bd
    have pn := pc_n (eP e) h.1 b.2.2.1 b.1
    obtain rfl : S = 0 := (pc_zero S (by omega)).mp hr.symm
    refine am_enterQ (ls := [some (.inr (.inr 96)), some (.inl (k : Int)), some (.inl (told : Int)), some (.inl w), some (.inl sum), none, none, none]) (by decide) rfl (Nat.le_of_ble_eq_true rfl) rfl (fun hok Q hQ => ?_)
    have g0 := gv_0 (sh := sh) (py := h.2.2.2) (n := h.1) hw.1
    have K : M < sum → ∀ i : Nat, i ≤ k → ∀ (m : am_M) (l7 : Option am_V), frG mem m → m 95 35 = sum → (∀ j, j < k → m 114 j = mem 114 j) → (∀ j, j < i → m 115 j = ((pre.getD j 0 : Nat) : Int)) → am_Rn l G mt_X9_goOrder (d + 2 + 0) 38 [some (.inr (.inr 96)), some (.inl (k : Int)), some (.inl (told : Int)), some (.inl w), some (.inl sum), some (.inl (eP e : Int)), some (.inl (i : Int)), l7] [] m Q := by
      intro hlt
      refine am_dn k (fun i hi ih m l7 hf h35 h114 hc => ?_)
      refine rn_iload (x := (i : Int)) (q := 40) dX9_goOrder_38 rfl rfl ?_
      refine rn_iload_n (x := (k : Int)) (q := 41) dX9_goOrder_40 rfl rfl ?_
      refine rn_cmpge (t := 64) (q := 44) dX9_goOrder_41 rfl rfl (fun w41 => ?_) (fun w41 => ?_)
      · refine rn_vret dX9_goOrder_64 rfl ?_
        obtain rfl : i = k := by omega
        exact hQ _ _ ⟨rfl, hf, h114, Or.inr ⟨by rw [g0]; omega, by rw [g0, h35]; omega, fun j hj => by rw [ordF, List.append_nil]; exact hc j (by omega)⟩⟩
      · refine rn_aload_n (x := 95) (q := 45) dX9_goOrder_44 rfl rfl ?_
        refine rn_get (a := 95) (v := .inr (.inr 116)) (q := 48) dX9_goOrder_45 fl_X9_73 rfl rfl rfl ?_
        refine rn_iload (x := (i : Int)) (q := 50) dX9_goOrder_48 rfl rfl ?_
        refine rn_aload_n (x := 95) (q := 51) dX9_goOrder_50 rfl rfl ?_
        refine rn_get (a := 95) (v := .inr (.inr 115)) (q := 54) dX9_goOrder_51 fl_X9_70 rfl rfl rfl ?_
        refine rn_iload (x := (i : Int)) (q := 56) dX9_goOrder_54 rfl rfl ?_
        refine rn_ialdV (a := 114) (v := ((pre.getD i 0 : Nat) : Int)) (q := 57) dX9_goOrder_56 rfl (by omega) (by omega) ((h114 i (by omega)).trans (hpre i (by omega))) rfl ?_
        refine rn_iastV (a := 115) (m1 := am_up m 115 i ((pre.getD i 0 : Nat) : Int)) (q := 58) dX9_goOrder_57 rfl (by omega) (by omega) rfl rfl ?_
        refine rn_iincN (x := (i : Int)) (z := ((i + 1 : Nat) : Int)) (ls' := [some (.inr (.inr 96)), some (.inl (k : Int)), some (.inl (told : Int)), some (.inl w), some (.inl sum), some (.inl (eP e : Int)), some (.inl ((i + 1 : Nat) : Int)), l7]) (q := 61) dX9_goOrder_58 rfl (by decide) (by omega) (by unfold am_ok; omega) rfl rfl ?_
        refine rn_goto (t := 38) dX9_goOrder_61 rfl ?_
        refine ih (by omega) _ _ ⟨fun b2 h1 h2 h3 => (am_up_ne h3).trans (hf.1 b2 h1 h2 h3), fun k2 h1 => hf.2 k2 h1⟩ h35 h114 (fun j hj => ?_)
        rw [am_up_at]
        by_cases e1 : j = i
        · rw [if_pos e1, e1]
        · rw [if_neg e1]; exact hc j (by omega)
    refine rn_aload_n (x := 95) (q := 1) dX9_goOrder_0 rfl rfl ?_
    refine rn_aload_n (x := 95) (q := 2) dX9_goOrder_1 rfl rfl ?_
    refine rn_get (a := 95) (v := .inr (.inr 97)) (q := 5) dX9_goOrder_2 fl_X9_9 rfl rfl rfl ?_
    refine rn_callV (b := 95) (as := [.inr (.inr 97)]) (rest := []) (q := 8) dX9_goOrder_5 ml_X9_216 sm_X9_present rfl rfl (by decide) (by omega) rfl rfl (Nat.le_of_ble_eq_true rfl) rfl (m_present (d := d + 1) q) ?_
    intro r5 mem5 hq5
    obtain ⟨rfl, rfl⟩ := hq5
    show am_Rn l G _ _ 8 [some (.inr (.inr 96)), some (.inl (k : Int)), some (.inl (told : Int)), some (.inl w), some (.inl sum), none, none, none] [.inl (eP e : Int)] mem _
    refine rn_istore (ls' := [some (.inr (.inr 96)), some (.inl (k : Int)), some (.inl (told : Int)), some (.inl w), some (.inl sum), some (.inl (eP e : Int)), none, none]) (q := 10) dX9_goOrder_8 (by decide) rfl rfl ?_
    refine rn_iload_n (x := (k : Int)) (q := 11) dX9_goOrder_10 rfl rfl ?_
    refine rn_iload (x := (eP e : Int)) (q := 13) dX9_goOrder_11 rfl rfl ?_
    refine rn_callS (as := [.inl (eP e : Int)]) (rest := [.inl (k : Int)]) (q := 16) dX9_goOrder_13 ml_X9_220 sm_J6_bitCount_0f7a4 (by omega) rfl rfl (Nat.le_of_ble_eq_true rfl) rfl (s_bitCount (d := d + 1) (eP e) (by omega)) ?_
    intro r13 mem13 hq13
    obtain ⟨rfl, rfl⟩ := hq13
    show am_Rn l G _ _ 16 [some (.inr (.inr 96)), some (.inl (k : Int)), some (.inl (told : Int)), some (.inl w), some (.inl sum), some (.inl (eP e : Int)), none, none] [.inl (pc (eP e) : Int), .inl (k : Int)] mem _
    refine rn_cmpne (t := 65) (q := 19) dX9_goOrder_16 rfl rfl (fun h => absurd h (by omega)) (fun w16 => ?_)
    refine rn_iload (x := sum) (q := 21) dX9_goOrder_19 rfl rfl ?_
    refine rn_aload_n (x := 95) (q := 22) dX9_goOrder_21 rfl rfl ?_
    refine rn_get (a := 95) (v := .inl M) (q := 25) dX9_goOrder_22 fl_X9_306 rfl (am_gi h35) rfl ?_
    refine rn_cmpgt (t := 29) (q := 28) dX9_goOrder_25 rfl rfl (fun w25 => ?_) (fun w25 => ?_)
    · refine rn_aload_n (x := 95) (q := 30) dX9_goOrder_29 rfl rfl ?_
      refine rn_iload (x := sum) (q := 32) dX9_goOrder_30 rfl rfl ?_
      refine rn_puti (a := 95) (q := 35) dX9_goOrder_32 fl_X9_306 rfl rfl rfl rfl ?_
      refine rn_iconst (q := 36) dX9_goOrder_35 (am_okd rfl) rfl ?_
      refine rn_istore (ls' := [some (.inr (.inr 96)), some (.inl (k : Int)), some (.inl (told : Int)), some (.inl w), some (.inl sum), some (.inl (eP e : Int)), some (.inl 0), none]) (q := 38) dX9_goOrder_36 (by decide) rfl rfl ?_
      exact K (by omega) 0 (Nat.zero_le _) _ _ ⟨fun b2 h1 h2 h3 => am_up_ne h1, fun k2 h1 => am_up_neq h1⟩ am_up_self (fun j hj => rfl) (fun j hj => absurd hj (Nat.not_lt_zero _))
    · refine rn_vret dX9_goOrder_28 rfl ?_
      exact hQ _ _ ⟨rfl, frG.rf, fun _ _ => rfl, Or.inl ⟨by rw [g0]; omega, h35, fun _ => rfl⟩⟩
  | succ r ihr =>
    intro mem k told S w sum M pre q hr hk hS hbits htold hw hsum hM hsh h35 hpl hpre
    have b := q.bd
    have pn := pc_n (eP e) h.1 b.2.2.1 b.1
    refine am_enterQ (ls := [some (.inr (.inr 96)), some (.inl (k : Int)), some (.inl (told : Int)), some (.inl w), some (.inl sum), none, none, none]) (by decide) rfl (Nat.le_of_ble_eq_true rfl) rfl (fun hok Q hQ => ?_)
    obtain ⟨i0, hS0, hi0, hb0, ho0, hlt0⟩ := ord_some hs0 hw.1 b.1 hS q.pa9 (show 0 < pc S by omega)
    have eF : ordF sh h.2.2.2 h.1 (r + 1) S w = i0 :: ordF sh h.2.2.2 h.1 r (clrB S i0) (w - min w (sh i0)) := by rw [ordF, hS0]
    have hgv := gv_ok (py := h.2.2.2) (mk := S) (n := h.1) (w := w) hs0 hw
    have K : ∀ i : Nat, i ≤ h.1 → ∀ (m : am_M) (l7 : Option am_V), frG mem m → (∀ j, j < k → m 114 j = mem 114 j) → (((∀ j, j < i → S.testBit j = true → sum + ovl sh h.2.2.2 h.1 S w j ≤ M) ∧ m 95 35 = M ∧ ∀ j, m 115 j = mem 115 j) ∨ (∃ j0, j0 < i ∧ S.testBit j0 = true ∧ M < sum + ovl sh h.2.2.2 h.1 S w j0 ∧ m 95 35 = sum + ovl sh h.2.2.2 h.1 S w j0 ∧ (∀ j, j < j0 → S.testBit j = true → ovl sh h.2.2.2 h.1 S w j < ovl sh h.2.2.2 h.1 S w j0) ∧ (∀ j, j < i → S.testBit j = true → ovl sh h.2.2.2 h.1 S w j ≤ ovl sh h.2.2.2 h.1 S w j0) ∧ ∀ j, j < pc (eP e) → m 115 j = (((pre ++ j0 :: ordF sh h.2.2.2 h.1 r (clrB S j0) (w - min w (sh j0))).getD j 0 : Nat) : Int))) → am_Rn l G mt_X9_goOrder (d + 2 + (r + 1)) 68 [some (.inr (.inr 96)), some (.inl (k : Int)), some (.inl (told : Int)), some (.inl w), some (.inl sum), some (.inl (eP e : Int)), some (.inl (i : Int)), l7] [] m Q := by
      refine am_dn h.1 (fun i hi ih m l7 hf h114 hst => ?_)
      have hqm := q.kept hf.to9.r9
      by_cases hin : i < h.1
      · have hbi := hbits i (by omega)
        have skip : ¬ S.testBit i = true → ∀ l7, am_Rn l G mt_X9_goOrder (d + 2 + (r + 1)) 68 [some (.inr (.inr 96)), some (.inl (k : Int)), some (.inl (told : Int)), some (.inl w), some (.inl sum), some (.inl (eP e : Int)), some (.inl ((i + 1 : Nat) : Int)), l7] [] m Q := by
          intro hn l7
          refine ih hin m l7 hf h114 ?_
          rcases hst with ⟨a1, a2, a3⟩ | ⟨j0, a0, a1, a2, a3, a4, a5, a6⟩
          · refine Or.inl ⟨fun j hj hjb => ?_, a2, a3⟩
            by_cases e1 : j = i
            · rw [e1] at hjb; exact absurd hjb hn
            · exact a1 j (by omega) hjb
          · refine Or.inr ⟨j0, by omega, a1, a2, a3, a4, fun j hj hjb => ?_, a6⟩
            by_cases e1 : j = i
            · rw [e1] at hjb; exact absurd hjb hn
            · exact a5 j (by omega) hjb
        by_cases hSi : S.testBit i = true
        · have hT : (eP e).testBit i = true ∧ told.testBit i = false := by
            rw [hSi] at hbi
            have := hbi.symm
            rw [Bool.and_eq_true] at this
            exact ⟨this.1, by simpa using this.2⟩
          have s0 := hs0 i
          have p9 := q.pa9 i
          have hcl := clr_lt S (by omega) i (by omega)
          have hpc := pc_clr S (by omega) i (by omega) hSi
          have hmu : 0 ≤ min w (sh i) * (h.2.2.2 i : Int) ∧ min w (sh i) * (h.2.2.2 i : Int) ≤ 81 := ⟨Int.mul_nonneg (by omega) (by omega), by have := Int.mul_le_mul (show min w (sh i) ≤ 9 by omega) (show (h.2.2.2 i : Int) ≤ 9 by omega) (by omega) (by omega); omega⟩
          have h2i : 2 ^ i < 256 := Nat.lt_of_lt_of_le (Nat.pow_lt_pow_right (a := 2) (by decide) (show i < 8 by omega)) (by decide)
          have hov : ovl sh h.2.2.2 h.1 S w i ≤ gv sh h.2.2.2 S h.1 w := ovl_le hs0 hw.1 (by omega) b.1 hin hSi p9
          obtain ⟨M1, hM1⟩ : ∃ x, x = m 95 35 := ⟨_, rfl⟩
          have hM1b : -1 ≤ M1 ∧ M1 ≤ 1000 := by
            rcases hst with ⟨a1, a2, a3⟩ | ⟨j0, a0, a1, a2, a3, -⟩
            · rw [hM1, a2]; exact hM
            · have h5 := ovl_le (w := w) hs0 hw.1 (show S < 256 by omega) b.1 (show j0 < h.1 by omega) a1 (q.pa9 j0)
              rw [hM1, a3]; omega
          have hc := ihr (am_up m 114 k (i : Int)) (k + 1) (Nat.lor told (2 ^ i)) (clrB S i) (w - min w (sh i)) (sum + min w (sh i) * (h.2.2.2 i : Int)) M1 (pre ++ [i]) (q.kept (hf.to9.r9.up rfl)) (by omega) (by omega) (by omega) (fun j hj => by
            rw [hcl.2 j hj, hbits j hj, show (Nat.lor told (2 ^ i)).testBit j = (told.testBit j || (2 ^ i).testBit j) from Nat.testBit_or .., Nat.testBit_two_pow]
            by_cases e1 : j = i
            · simp [e1]
            · have : ¬ i = j := fun z => e1 z.symm
              simp [e1, this]) (Nat.or_lt_two_pow (n := 8) htold h2i) (by omega) (by omega) hM1b (fun j hj => by show m 111 j = _; rw [hf.1 111 (by decide) (by decide) (by decide)]; exact hsh j hj) hM1.symm (by rw [List.length_append, hpl]; rfl) (fun j hj => by
            rw [am_up_at, gd_app (by omega), hpl]
            by_cases e1 : j = k
            · rw [if_pos e1, if_pos e1]
            · rw [if_neg e1, if_neg e1, h114 j (by omega)]; exact hpre j (by omega))
          have eV : sum + min w (sh i) * (h.2.2.2 i : Int) + gv sh h.2.2.2 (clrB S i) h.1 (w - min w (sh i)) = sum + ovl sh h.2.2.2 h.1 S w i := by unfold ovl; omega
          have main : ∀ (m2 : am_M) (l7 : Option am_V), frG (am_up m 114 k (i : Int)) m2 → (∀ j, j < k + 1 → m2 114 j = am_up m 114 k (i : Int) 114 j) → ((sum + min w (sh i) * (h.2.2.2 i : Int) + gv sh h.2.2.2 (clrB S i) h.1 (w - min w (sh i)) ≤ M1 ∧ m2 95 35 = M1 ∧ ∀ j, m2 115 j = am_up m 114 k (i : Int) 115 j) ∨ (M1 < sum + min w (sh i) * (h.2.2.2 i : Int) + gv sh h.2.2.2 (clrB S i) h.1 (w - min w (sh i)) ∧ m2 95 35 = sum + min w (sh i) * (h.2.2.2 i : Int) + gv sh h.2.2.2 (clrB S i) h.1 (w - min w (sh i)) ∧ ∀ j, j < pc (eP e) → m2 115 j = ((((pre ++ [i]) ++ ordF sh h.2.2.2 h.1 r (clrB S i) (w - min w (sh i))).getD j 0 : Nat) : Int))) → am_Rn l G mt_X9_goOrder (d + 2 + (r + 1)) 68 [some (.inr (.inr 96)), some (.inl (k : Int)), some (.inl (told : Int)), some (.inl w), some (.inl sum), some (.inl (eP e : Int)), some (.inl ((i + 1 : Nat) : Int)), l7] [] m2 Q := by
            intro m2 l7 hg h4 hres
            rw [eV] at hres
            refine ih hin m2 l7 (hf.tr (frG.tr ⟨fun b2 h1 h2 h3 => am_up_ne h2, fun _ _ => rfl⟩ hg)) (fun j hj => by rw [h4 j (by omega), am_up_neq (by omega)]; exact h114 j hj) ?_
            rcases hres with ⟨c1, c2, c3⟩ | ⟨c1, c2, c3⟩
            · rcases hst with ⟨a1, a2, a3⟩ | ⟨j0, a0, a1, a2, a3, a4, a5, a6⟩
              · refine Or.inl ⟨fun j hj hjb => ?_, by rw [c2, hM1]; exact a2, fun j => (c3 j).trans (a3 j)⟩
                by_cases e1 : j = i
                · rw [e1, ← a2, ← hM1]; exact c1
                · exact a1 j (by omega) hjb
              · refine Or.inr ⟨j0, by omega, a1, a2, by rw [c2, hM1]; exact a3, a4, fun j hj hjb => ?_, fun j hj => (c3 j).trans (a6 j hj)⟩
                by_cases e1 : j = i
                · rw [e1]; rw [hM1, a3] at c1; omega
                · exact a5 j (by omega) hjb
            · refine Or.inr ⟨i, by omega, hSi, ?_, c2, fun j hj hjb => ?_, fun j hj hjb => ?_, fun j hj => ?_⟩
              · rcases hst with ⟨a1, a2, a3⟩ | ⟨j0, a0, a1, a2, a3, -⟩
                · rw [hM1, a2] at c1; exact c1
                · rw [hM1, a3] at c1; omega
              · rcases hst with ⟨a1, a2, a3⟩ | ⟨j0, a0, a1, a2, a3, a4, a5, -⟩
                · have := a1 j hj hjb; rw [hM1, a2] at c1; omega
                · have := a5 j hj hjb; rw [hM1, a3] at c1; omega
              · by_cases e1 : j = i
                · rw [e1]; exact Int.le_refl _
                · rcases hst with ⟨a1, a2, a3⟩ | ⟨j0, a0, a1, a2, a3, a4, a5, -⟩
                  · have := a1 j (by omega) hjb; rw [hM1, a2] at c1; omega
                  · have := a5 j (by omega) hjb; rw [hM1, a3] at c1; omega
              · rw [c3 j hj, List.append_assoc]; rfl
          refine rn_iload (x := (i : Int)) (q := 70) dX9_goOrder_68 rfl rfl ?_
          refine rn_aload_n (x := 95) (q := 71) dX9_goOrder_70 rfl rfl ?_
          refine rn_get (a := 95) (v := .inl (h.1 : Int)) (q := 74) dX9_goOrder_71 fl_X9_113 rfl (am_gi (q.kept hf.to9.r9).n) rfl ?_
          refine rn_cmpge (t := 156) (q := 77) dX9_goOrder_74 rfl rfl (fun h => absurd h (by omega)) (fun w74 => ?_)
          refine rn_iload (x := (eP e : Int)) (q := 79) dX9_goOrder_77 rfl rfl ?_
          refine rn_iload (x := (i : Int)) (q := 81) dX9_goOrder_79 rfl rfl ?_
          refine rn_callS (as := [.inl (eP e : Int), .inl (i : Int)]) (rest := []) (q := 84) dX9_goOrder_81 ml_X9_309 sm_X9_has (by omega) rfl rfl (Nat.le_of_ble_eq_true rfl) rfl (s_has9 (d := d + 1) (eP e) i (by omega) (by omega)) ?_
          intro r81 mem81 hq81
          obtain ⟨⟨rfl, hb81⟩ | ⟨rfl, hb81⟩, rfl⟩ := hq81
          · show am_Rn l G _ _ 84 [some (.inr (.inr 96)), some (.inl (k : Int)), some (.inl (told : Int)), some (.inl w), some (.inl sum), some (.inl (eP e : Int)), some (.inl (i : Int)), l7] [.inl 1] m _
            refine rn_ifeq (t := 150) (q := 87) dX9_goOrder_84 rfl rfl (fun h => absurd h (by decide)) (fun w84 => ?_)
            refine rn_iload_n (x := (told : Int)) (q := 88) dX9_goOrder_87 rfl rfl ?_
            refine rn_iload (x := (i : Int)) (q := 90) dX9_goOrder_88 rfl rfl ?_
            refine rn_callS (as := [.inl (told : Int), .inl (i : Int)]) (rest := []) (q := 93) dX9_goOrder_90 ml_X9_309 sm_X9_has (by omega) rfl rfl (Nat.le_of_ble_eq_true rfl) rfl (s_has9 (d := d + 1) told i (by omega) (by omega)) ?_
            intro r90 mem90 hq90
            obtain ⟨⟨rfl, hb90⟩ | ⟨rfl, hb90⟩, rfl⟩ := hq90
            · show am_Rn l G _ _ 93 [some (.inr (.inr 96)), some (.inl (k : Int)), some (.inl (told : Int)), some (.inl w), some (.inl sum), some (.inl (eP e : Int)), some (.inl (i : Int)), l7] [.inl 1] m _
              refine rn_ifeq (t := 99) (q := 96) dX9_goOrder_93 rfl rfl (fun h => absurd h (by decide)) (fun w93 => ?_)
              refine rn_goto (t := 150) dX9_goOrder_96 rfl ?_
              refine rn_iincN (x := (i : Int)) (z := ((i + 1 : Nat) : Int)) (ls' := [some (.inr (.inr 96)), some (.inl (k : Int)), some (.inl (told : Int)), some (.inl w), some (.inl sum), some (.inl (eP e : Int)), some (.inl ((i + 1 : Nat) : Int)), l7]) (q := 153) dX9_goOrder_150 rfl (by decide) (by omega) (by unfold am_ok; omega) rfl rfl ?_
              refine rn_goto (t := 68) dX9_goOrder_153 rfl ?_
              first | exact absurd hT.1 hb81 | exact absurd (hT.2.symm.trans hb90) (by decide) | exact main _ _ hg h4 hres
            · show am_Rn l G _ _ 93 [some (.inr (.inr 96)), some (.inl (k : Int)), some (.inl (told : Int)), some (.inl w), some (.inl sum), some (.inl (eP e : Int)), some (.inl (i : Int)), l7] [.inl 0] m _
              refine rn_ifeq (t := 99) (q := 96) dX9_goOrder_93 rfl rfl (fun w93 => ?_) (fun h => absurd h (by decide))
              refine rn_aload_n (x := 95) (q := 100) dX9_goOrder_99 rfl rfl ?_
              refine rn_get (a := 95) (v := .inr (.inr 115)) (q := 103) dX9_goOrder_100 fl_X9_70 rfl rfl rfl ?_
              refine rn_iload_n (x := (k : Int)) (q := 104) dX9_goOrder_103 rfl rfl ?_
              refine rn_iload (x := (i : Int)) (q := 106) dX9_goOrder_104 rfl rfl ?_
              refine rn_iastV (a := 114) (m1 := am_up m 114 k (i : Int)) (q := 107) dX9_goOrder_106 rfl (by omega) (by omega) rfl rfl ?_
              refine rn_aload_n (x := 95) (q := 108) dX9_goOrder_107 rfl rfl ?_
              refine rn_get (a := 95) (v := .inr (.inr 112)) (q := 111) dX9_goOrder_108 fl_X9_61 rfl rfl rfl ?_
              refine rn_iload (x := (i : Int)) (q := 113) dX9_goOrder_111 rfl rfl ?_
              refine rn_ialdV (a := 111) (v := sh i) (q := 114) dX9_goOrder_113 rfl (by omega) (by omega) ((congrFun (hf.1 111 (by decide) (by decide) (by decide)) i).trans (hsh i hin)) rfl ?_
              refine rn_iload_n (x := w) (q := 115) dX9_goOrder_114 rfl rfl ?_
              refine rn_mmin (q := 118) dX9_goOrder_115 am_mm_X9_225 am_mminw (Nat.le_of_ble_eq_true rfl) rfl ?_
              rw [show (min (sh i) w) = min w (sh i) from (by omega)]
              refine rn_istore (ls' := [some (.inr (.inr 96)), some (.inl (k : Int)), some (.inl (told : Int)), some (.inl w), some (.inl sum), some (.inl (eP e : Int)), some (.inl (i : Int)), some (.inl (min w (sh i)))]) (q := 120) dX9_goOrder_118 (by decide) rfl rfl ?_
              refine rn_aload_n (x := 95) (q := 121) dX9_goOrder_120 rfl rfl ?_
              refine rn_iload_n (x := (k : Int)) (q := 122) dX9_goOrder_121 rfl rfl ?_
              refine rn_iconst (q := 123) dX9_goOrder_122 (am_okd rfl) rfl ?_
              refine rn_iaddN (z := ((k + 1 : Nat) : Int)) (q := 124) dX9_goOrder_123 (by omega) (by unfold am_ok; omega) rfl ?_
              refine rn_iload_n (x := (told : Int)) (q := 125) dX9_goOrder_124 rfl rfl ?_
              refine rn_iconst (q := 126) dX9_goOrder_125 (am_okd rfl) rfl ?_
              refine rn_iload (x := (i : Int)) (q := 128) dX9_goOrder_126 rfl rfl ?_
              refine rn_ishl (q := 129) dX9_goOrder_128 rfl ?_
              rw [show am_shl 1 (i : Int) = ((2 ^ i : Nat) : Int) from am_shl1 _ (by omega)]
              refine rn_ior (q := 130) dX9_goOrder_129 rfl ?_
              rw [show am_or (told : Int) ((2 ^ i : Nat) : Int) = ((Nat.lor told (2 ^ i) : Nat) : Int) from (am_orN (by omega) (by omega))]
              refine rn_iload_n (x := w) (q := 131) dX9_goOrder_130 rfl rfl ?_
              refine rn_iload (x := min w (sh i)) (q := 133) dX9_goOrder_131 rfl rfl ?_
              refine rn_isubN (z := (w - (min w (sh i)))) (q := 134) dX9_goOrder_133 rfl (by unfold am_ok; omega) rfl ?_
              refine rn_iload (x := sum) (q := 136) dX9_goOrder_134 rfl rfl ?_
              refine rn_iload (x := min w (sh i)) (q := 138) dX9_goOrder_136 rfl rfl ?_
              refine rn_aload_n (x := 95) (q := 139) dX9_goOrder_138 rfl rfl ?_
              refine rn_get (a := 95) (v := .inr (.inr 100)) (q := 142) dX9_goOrder_139 fl_X9_19 rfl rfl rfl ?_
              refine rn_iload (x := (i : Int)) (q := 144) dX9_goOrder_142 rfl rfl ?_
              refine rn_ialdV (a := 99) (v := (h.2.2.2 i : Int)) (q := 145) dX9_goOrder_144 rfl (by omega) (by omega) ((q.kept (frS.up (a := 114) (k := k) (x := (i : Int)) hf.to9.r9 rfl)).pay (by omega)) rfl ?_
              refine rn_imulN (z := min w (sh i) * (h.2.2.2 i : Int)) (q := 146) dX9_goOrder_145 rfl (by unfold am_ok; omega) rfl ?_
              refine rn_iaddN (z := (sum + (min w (sh i) * (h.2.2.2 i : Int)))) (q := 147) dX9_goOrder_146 rfl (by unfold am_ok; omega) rfl ?_
              refine rn_callV (b := 95) (as := [.inl ((k + 1 : Nat) : Int), .inl ((Nat.lor told (2 ^ i) : Nat) : Int), .inl (w - (min w (sh i))), .inl (sum + (min w (sh i) * (h.2.2.2 i : Int)))]) (rest := []) (q := 150) dX9_goOrder_147 ml_X9_313 sm_X9_goOrder rfl rfl (by decide) (by omega) rfl rfl (Nat.le_of_ble_eq_true rfl) rfl ((fun (d : Nat) (h : d = d) => hc) (d := d + 1) rfl) ?_
              intro r147 mem147 hq147
              obtain ⟨rfl, hg, h4, hres⟩ := hq147
              show am_Rn l G _ _ 150 [some (.inr (.inr 96)), some (.inl (k : Int)), some (.inl (told : Int)), some (.inl w), some (.inl sum), some (.inl (eP e : Int)), some (.inl (i : Int)), some (.inl (min w (sh i)))] [] mem147 _
              refine rn_iincN (x := (i : Int)) (z := ((i + 1 : Nat) : Int)) (ls' := [some (.inr (.inr 96)), some (.inl (k : Int)), some (.inl (told : Int)), some (.inl w), some (.inl sum), some (.inl (eP e : Int)), some (.inl ((i + 1 : Nat) : Int)), some (.inl (min w (sh i)))]) (q := 153) dX9_goOrder_150 rfl (by decide) (by omega) (by unfold am_ok; omega) rfl rfl ?_
              refine rn_goto (t := 68) dX9_goOrder_153 rfl ?_
              first | exact absurd hT.1 hb81 | exact absurd (hT.2.symm.trans hb90) (by decide) | exact main _ _ hg h4 hres
          · show am_Rn l G _ _ 84 [some (.inr (.inr 96)), some (.inl (k : Int)), some (.inl (told : Int)), some (.inl w), some (.inl sum), some (.inl (eP e : Int)), some (.inl (i : Int)), l7] [.inl 0] m _
            refine rn_ifeq (t := 150) (q := 87) dX9_goOrder_84 rfl rfl (fun w84 => ?_) (fun h => absurd h (by decide))
            refine rn_iincN (x := (i : Int)) (z := ((i + 1 : Nat) : Int)) (ls' := [some (.inr (.inr 96)), some (.inl (k : Int)), some (.inl (told : Int)), some (.inl w), some (.inl sum), some (.inl (eP e : Int)), some (.inl ((i + 1 : Nat) : Int)), l7]) (q := 153) dX9_goOrder_150 rfl (by decide) (by omega) (by unfold am_ok; omega) rfl rfl ?_
            refine rn_goto (t := 68) dX9_goOrder_153 rfl ?_
            first | exact absurd hT.1 hb81 | exact absurd (hT.2.symm.trans hb90) (by decide) | exact main _ _ hg h4 hres
        · skip
          refine rn_iload (x := (i : Int)) (q := 70) dX9_goOrder_68 rfl rfl ?_
          refine rn_aload_n (x := 95) (q := 71) dX9_goOrder_70 rfl rfl ?_
          refine rn_get (a := 95) (v := .inl (h.1 : Int)) (q := 74) dX9_goOrder_71 fl_X9_113 rfl (am_gi (q.kept hf.to9.r9).n) rfl ?_
          refine rn_cmpge (t := 156) (q := 77) dX9_goOrder_74 rfl rfl (fun h => absurd h (by omega)) (fun w74 => ?_)
          refine rn_iload (x := (eP e : Int)) (q := 79) dX9_goOrder_77 rfl rfl ?_
          refine rn_iload (x := (i : Int)) (q := 81) dX9_goOrder_79 rfl rfl ?_
          refine rn_callS (as := [.inl (eP e : Int), .inl (i : Int)]) (rest := []) (q := 84) dX9_goOrder_81 ml_X9_309 sm_X9_has (by omega) rfl rfl (Nat.le_of_ble_eq_true rfl) rfl (s_has9 (d := d + 1) (eP e) i (by omega) (by omega)) ?_
          intro r81 mem81 hq81
          obtain ⟨⟨rfl, hb81⟩ | ⟨rfl, hb81⟩, rfl⟩ := hq81
          · show am_Rn l G _ _ 84 [some (.inr (.inr 96)), some (.inl (k : Int)), some (.inl (told : Int)), some (.inl w), some (.inl sum), some (.inl (eP e : Int)), some (.inl (i : Int)), l7] [.inl 1] m _
            refine rn_ifeq (t := 150) (q := 87) dX9_goOrder_84 rfl rfl (fun h => absurd h (by decide)) (fun w84 => ?_)
            refine rn_iload_n (x := (told : Int)) (q := 88) dX9_goOrder_87 rfl rfl ?_
            refine rn_iload (x := (i : Int)) (q := 90) dX9_goOrder_88 rfl rfl ?_
            refine rn_callS (as := [.inl (told : Int), .inl (i : Int)]) (rest := []) (q := 93) dX9_goOrder_90 ml_X9_309 sm_X9_has (by omega) rfl rfl (Nat.le_of_ble_eq_true rfl) rfl (s_has9 (d := d + 1) told i (by omega) (by omega)) ?_
            intro r90 mem90 hq90
            obtain ⟨⟨rfl, hb90⟩ | ⟨rfl, hb90⟩, rfl⟩ := hq90
            · show am_Rn l G _ _ 93 [some (.inr (.inr 96)), some (.inl (k : Int)), some (.inl (told : Int)), some (.inl w), some (.inl sum), some (.inl (eP e : Int)), some (.inl (i : Int)), l7] [.inl 1] m _
              refine rn_ifeq (t := 99) (q := 96) dX9_goOrder_93 rfl rfl (fun h => absurd h (by decide)) (fun w93 => ?_)
              refine rn_goto (t := 150) dX9_goOrder_96 rfl ?_
              refine rn_iincN (x := (i : Int)) (z := ((i + 1 : Nat) : Int)) (ls' := [some (.inr (.inr 96)), some (.inl (k : Int)), some (.inl (told : Int)), some (.inl w), some (.inl sum), some (.inl (eP e : Int)), some (.inl ((i + 1 : Nat) : Int)), l7]) (q := 153) dX9_goOrder_150 rfl (by decide) (by omega) (by unfold am_ok; omega) rfl rfl ?_
              refine rn_goto (t := 68) dX9_goOrder_153 rfl ?_
              exact skip hSi _
            · show am_Rn l G _ _ 93 [some (.inr (.inr 96)), some (.inl (k : Int)), some (.inl (told : Int)), some (.inl w), some (.inl sum), some (.inl (eP e : Int)), some (.inl (i : Int)), l7] [.inl 0] m _
              refine rn_ifeq (t := 99) (q := 96) dX9_goOrder_93 rfl rfl (fun w93 => ?_) (fun h => absurd h (by decide))
              exact absurd (hbi.trans (by rw [hb81]; simp [hb90])) hSi
          · show am_Rn l G _ _ 84 [some (.inr (.inr 96)), some (.inl (k : Int)), some (.inl (told : Int)), some (.inl w), some (.inl sum), some (.inl (eP e : Int)), some (.inl (i : Int)), l7] [.inl 0] m _
            refine rn_ifeq (t := 150) (q := 87) dX9_goOrder_84 rfl rfl (fun w84 => ?_) (fun h => absurd h (by decide))
            refine rn_iincN (x := (i : Int)) (z := ((i + 1 : Nat) : Int)) (ls' := [some (.inr (.inr 96)), some (.inl (k : Int)), some (.inl (told : Int)), some (.inl w), some (.inl sum), some (.inl (eP e : Int)), some (.inl ((i + 1 : Nat) : Int)), l7]) (q := 153) dX9_goOrder_150 rfl (by decide) (by omega) (by unfold am_ok; omega) rfl rfl ?_
            refine rn_goto (t := 68) dX9_goOrder_153 rfl ?_
            exact skip hSi _
      · obtain rfl : i = h.1 := by omega
        refine rn_iload (x := (h.1 : Int)) (q := 70) dX9_goOrder_68 rfl rfl ?_
        refine rn_aload_n (x := 95) (q := 71) dX9_goOrder_70 rfl rfl ?_
        refine rn_get (a := 95) (v := .inl (h.1 : Int)) (q := 74) dX9_goOrder_71 fl_X9_113 rfl (am_gi (q.kept hf.to9.r9).n) rfl ?_
        refine rn_cmpge (t := 156) (q := 77) dX9_goOrder_74 rfl rfl (fun w74 => ?_) (fun h => absurd h (by omega))
        refine rn_vret dX9_goOrder_156 rfl ?_
        refine hQ _ _ ⟨rfl, hf, h114, ?_⟩
        rcases hst with ⟨a1, a2, a3⟩ | ⟨j0, a0, a1, a2, a3, a4, a5, a6⟩
        · exact Or.inl ⟨by rw [← ho0]; exact a1 i0 hi0 hb0, a2, a3⟩
        · have h5 := ovl_le (w := w) hs0 hw.1 (show S < 256 by omega) b.1 a0 a1 (q.pa9 j0)
          have h6 := a5 i0 hi0 hb0
          have ej : j0 = i0 := by
            by_cases h7 : j0 < i0
            · have := hlt0 j0 h7 a1; omega
            · by_cases h8 : i0 < j0
              · have := a4 i0 h8 hb0; omega
              · omega
          subst ej
          exact Or.inr ⟨by rw [← ho0]; exact a2, by rw [← ho0]; exact a3, by rw [eF]; exact a6⟩
    refine rn_aload_n (x := 95) (q := 1) dX9_goOrder_0 rfl rfl ?_
    refine rn_aload_n (x := 95) (q := 2) dX9_goOrder_1 rfl rfl ?_
    refine rn_get (a := 95) (v := .inr (.inr 97)) (q := 5) dX9_goOrder_2 fl_X9_9 rfl rfl rfl ?_
    refine rn_callV (b := 95) (as := [.inr (.inr 97)]) (rest := []) (q := 8) dX9_goOrder_5 ml_X9_216 sm_X9_present rfl rfl (by decide) (by omega) rfl rfl (Nat.le_of_ble_eq_true rfl) rfl (m_present (d := d + 1) q) ?_
    intro r5 mem5 hq5
    obtain ⟨rfl, rfl⟩ := hq5
    show am_Rn l G _ _ 8 [some (.inr (.inr 96)), some (.inl (k : Int)), some (.inl (told : Int)), some (.inl w), some (.inl sum), none, none, none] [.inl (eP e : Int)] mem _
    refine rn_istore (ls' := [some (.inr (.inr 96)), some (.inl (k : Int)), some (.inl (told : Int)), some (.inl w), some (.inl sum), some (.inl (eP e : Int)), none, none]) (q := 10) dX9_goOrder_8 (by decide) rfl rfl ?_
    refine rn_iload_n (x := (k : Int)) (q := 11) dX9_goOrder_10 rfl rfl ?_
    refine rn_iload (x := (eP e : Int)) (q := 13) dX9_goOrder_11 rfl rfl ?_
    refine rn_callS (as := [.inl (eP e : Int)]) (rest := [.inl (k : Int)]) (q := 16) dX9_goOrder_13 ml_X9_220 sm_J6_bitCount_0f7a4 (by omega) rfl rfl (Nat.le_of_ble_eq_true rfl) rfl (s_bitCount (d := d + 1) (eP e) (by omega)) ?_
    intro r13 mem13 hq13
    obtain ⟨rfl, rfl⟩ := hq13
    show am_Rn l G _ _ 16 [some (.inr (.inr 96)), some (.inl (k : Int)), some (.inl (told : Int)), some (.inl w), some (.inl sum), some (.inl (eP e : Int)), none, none] [.inl (pc (eP e) : Int), .inl (k : Int)] mem _
    refine rn_cmpne (t := 65) (q := 19) dX9_goOrder_16 rfl rfl (fun w16 => ?_) (fun h => absurd h (by omega))
    refine rn_iconst (q := 66) dX9_goOrder_65 (am_okd rfl) rfl ?_
    refine rn_istore (ls' := [some (.inr (.inr 96)), some (.inl (k : Int)), some (.inl (told : Int)), some (.inl w), some (.inl sum), some (.inl (eP e : Int)), some (.inl 0), none]) (q := 68) dX9_goOrder_66 (by decide) rfl rfl ?_
    exact K 0 (Nat.zero_le _) mem _ frG.rf (fun _ _ => rfl) (Or.inl ⟨fun j hj => absurd hj (Nat.not_lt_zero _), h35, fun _ => rfl⟩)
theorem m_order (q : DQ X sn sg h e NB mem) : am_Sm l G yX9_order mt_X9_order (d + 178) [.inr (.inr 96)] mem (QM (gv (mvK X h sn sg e (eP e)) h.2.2.2 (eP e) h.1 (wE sn sg e)) ((ordF (mvK X h sn sg e (eP e)) h.2.2.2 h.1 (pc (eP e)) (eP e) (wE sn sg e)).map (fun i : Nat => (i : Int))) mem) := by
  refine am_enterQ (ls := [some (.inr (.inr 96)), none]) (by decide) rfl (Nat.le_of_ble_eq_true rfl) rfl (fun hok Q hQ => ?_)
  have b := q.bd
  obtain ⟨sh, esh⟩ : ∃ f, f = mvK X h sn sg e (eP e) := ⟨_, rfl⟩
  have hs0 : ∀ i, 0 ≤ sh i := fun i => by rw [esh]; exact mvK_nn i
  have hw := wE_ok (sn := sn) (e := e) q.sng.2.2.2.1
  have pn := pc_n (eP e) h.1 b.2.2.1 b.1
  have hgv := gv_ok (py := h.2.2.2) (mk := eP e) (n := h.1) (w := wE sn sg e) hs0 hw
  rw [← esh] at hQ
  have eL := ordF_len (py := h.2.2.2) hs0 b.1 q.pa9 (pc (eP e)) (eP e) (wE sn sg e) hw.1 b.2.2.1 rfl
  obtain ⟨OL, hOL⟩ : ∃ L, L = ordF sh h.2.2.2 h.1 (pc (eP e)) (eP e) (wE sn sg e) := ⟨_, rfl⟩
  rw [← hOL] at hQ eL
  have K : ∀ i : Nat, i ≤ pc (eP e) → ∀ (m : am_M), frS s9r mem m → (∀ j, j < pc (eP e) → m 115 j = ((OL.getD j 0 : Nat) : Int)) → m 95 35 = gv sh h.2.2.2 (eP e) h.1 (wE sn sg e) → m_row ((OL.take i).map (fun i : Nat => (i : Int))) m → am_Rn l G mt_X9_order (d + 178) 43 [some (.inr (.inr 96)), some (.inl (i : Int))] [] m Q := by
    refine am_dn (pc (eP e)) (fun i hi ih m hf h115 h35 hr => ?_)
    refine rn_iload_n (x := (i : Int)) (q := 44) dX9_order_43 rfl rfl ?_
    refine rn_aload_n (x := 95) (q := 45) dX9_order_44 rfl rfl ?_
    refine rn_aload_n (x := 95) (q := 46) dX9_order_45 rfl rfl ?_
    refine rn_get (a := 95) (v := .inr (.inr 97)) (q := 49) dX9_order_46 fl_X9_9 rfl rfl rfl ?_
    refine rn_callV (b := 95) (as := [.inr (.inr 97)]) (rest := [.inl (i : Int)]) (q := 52) dX9_order_49 ml_X9_216 sm_X9_present rfl rfl (by decide) (by omega) rfl rfl (Nat.le_of_ble_eq_true rfl) rfl (m_present (d := d + 177) (q.kept hf)) ?_
    intro r49 mem49 hq49
    obtain ⟨rfl, rfl⟩ := hq49
    show am_Rn l G _ _ 52 [some (.inr (.inr 96)), some (.inl (i : Int))] [.inl (eP e : Int), .inl (i : Int)] m _
    refine rn_callS (as := [.inl (eP e : Int)]) (rest := [.inl (i : Int)]) (q := 55) dX9_order_52 ml_X9_220 sm_J6_bitCount_0f7a4 (by omega) rfl rfl (Nat.le_of_ble_eq_true rfl) rfl (s_bitCount (d := d + 177) (eP e) (by omega)) ?_
    intro r52 mem52 hq52
    obtain ⟨rfl, rfl⟩ := hq52
    show am_Rn l G _ _ 55 [some (.inr (.inr 96)), some (.inl (i : Int))] [.inl (pc (eP e) : Int), .inl (i : Int)] m _
    refine rn_cmpge (t := 75) (q := 58) dX9_order_55 rfl rfl (fun w55 => ?_) (fun w55 => ?_)
    · refine rn_aload_n (x := 95) (q := 76) dX9_order_75 rfl rfl ?_
      refine rn_get (a := 95) (v := .inl (gv sh h.2.2.2 (eP e) h.1 (wE sn sg e))) (q := 79) dX9_order_76 fl_X9_306 rfl (am_gi h35) rfl ?_
      refine rn_iret dX9_order_79 rfl ?_
      obtain rfl : i = pc (eP e) := by omega
      exact hQ _ _ ⟨rfl, hf, by rw [List.take_of_length_le (by omega)] at hr; exact hr⟩
    · refine rn_aload_n (x := 95) (q := 59) dX9_order_58 rfl rfl ?_
      refine rn_aload_n (x := 95) (q := 60) dX9_order_59 rfl rfl ?_
      refine rn_get (a := 95) (v := .inr (.inr 116)) (q := 63) dX9_order_60 fl_X9_73 rfl rfl rfl ?_
      refine rn_iload_n (x := (i : Int)) (q := 64) dX9_order_63 rfl rfl ?_
      refine rn_ialdV (a := 115) (v := ((OL.getD i 0 : Nat) : Int)) (q := 65) dX9_order_64 rfl (by omega) (by omega) (h115 i (by omega)) rfl ?_
      refine rn_i2l (q := 66) dX9_order_65 rfl ?_
      refine rn_callV (b := 95) (as := [.inr (.inl ((OL.getD i 0 : Nat) : Int))]) (rest := []) (q := 69) dX9_order_66 ml_X9_275 sm_X9_tell rfl rfl (by decide) (by omega) rfl rfl (Nat.le_of_ble_eq_true rfl) rfl (m_tellC (d := d + 177) hr (by rw [List.length_map, List.length_take]; omega) ((OL.getD i 0 : Nat) : Int)) ?_
      intro r66 mem66 hq66
      obtain ⟨rfl, hr66, hf66, hf66a, hf66b⟩ := hq66
      show am_Rn l G _ _ 69 [some (.inr (.inr 96)), some (.inl (i : Int))] [] mem66 _
      refine rn_iincN (x := (i : Int)) (z := ((i + 1 : Nat) : Int)) (ls' := [some (.inr (.inr 96)), some (.inl ((i + 1 : Nat) : Int))]) (q := 72) dX9_order_69 rfl (by decide) (by omega) (by unfold am_ok; omega) rfl rfl ?_
      refine rn_goto (t := 43) dX9_order_72 rfl ?_
      exact ih (by omega) _ (hf.tr hf66) (fun j hj => (hf66a 115 j rfl rfl).trans (h115 j hj)) ((hf66b 35 (by decide)).trans h35) (by rw [take_s (by omega), List.map_append]; exact hr66)
  refine rn_aload_n (x := 95) (q := 1) dX9_order_0 rfl rfl ?_
  refine rn_iconst (q := 2) dX9_order_1 (am_okd rfl) rfl ?_
  refine rn_puti (a := 95) (q := 5) dX9_order_2 fl_X9_107 rfl rfl rfl rfl ?_
  refine rn_aload_n (x := 95) (q := 6) dX9_order_5 rfl rfl ?_
  refine rn_aload_n (x := 95) (q := 7) dX9_order_6 rfl rfl ?_
  refine rn_get (a := 95) (v := .inr (.inr 97)) (q := 10) dX9_order_7 fl_X9_9 rfl rfl rfl ?_
  refine rn_callV (b := 95) (as := [.inr (.inr 97)]) (rest := []) (q := 13) dX9_order_10 ml_X9_258 sm_X9_part rfl rfl (by decide) (by omega) rfl rfl (Nat.le_of_ble_eq_true rfl) rfl (m_partA (d := d + 0) (q.kept (frS.up (a := 95) (k := 11) (x := 0) frS.rf rfl)) (Or.inl rfl) (k := 0) (by omega) (q.kept (frS.up (a := 95) (k := 11) (x := 0) frS.rf rfl)).eo (q.kept (frS.up (a := 95) (k := 11) (x := 0) frS.rf rfl)).es) ?_
  intro r10 mem10 hq10
  obtain ⟨rfl, hf10, hp10, hd10, hl10, hm10, -, -⟩ := hq10
  show am_Rn l G _ _ 13 [some (.inr (.inr 96)), none] [] mem10 _
  refine rn_aload_n (x := 95) (q := 14) dX9_order_13 rfl rfl ?_
  refine rn_iconst (q := 15) dX9_order_14 (am_okd rfl) rfl ?_
  refine rn_puti (a := 95) (q := 18) dX9_order_15 fl_X9_306 rfl rfl rfl rfl ?_
  have hgo := m_goOrder (l := l) (G := G) (d := d) (X := X) (sn := sn) (sg := sg) (NB := NB) hs0 (pc (eP e)) (am_up mem10 95 35 (-1)) 0 0 (eP e) (wE sn sg e) 0 (-1) [] (q.kept (frS.up (a := 95) (k := 35) (x := (-1)) ((frS.up (a := 95) (k := 11) (x := 0) frS.rf rfl).tr (hf10.r9)) rfl)) rfl (by omega) b.2.2.1 (fun i hi => by simp) (by decide) hw (by omega) (by omega) (fun i hi => by rw [esh]; exact hm10 i hi) am_up_self rfl (fun j hj => absurd hj (Nat.not_lt_zero _))
  refine rn_aload_n (x := 95) (q := 19) dX9_order_18 rfl rfl ?_
  refine rn_iconst (q := 20) dX9_order_19 (am_okd rfl) rfl ?_
  refine rn_iconst (q := 21) dX9_order_20 (am_okd rfl) rfl ?_
  refine rn_aload_n (x := 95) (q := 22) dX9_order_21 rfl rfl ?_
  refine rn_aload_n (x := 95) (q := 23) dX9_order_22 rfl rfl ?_
  refine rn_get (a := 95) (v := .inr (.inr 97)) (q := 26) dX9_order_23 fl_X9_9 rfl rfl rfl ?_
  refine rn_bipush (q := 28) dX9_order_26 ⟨by decide, by decide⟩ rfl ?_
  refine rn_ialdV (a := 96) (v := (eN e : Int)) (q := 29) dX9_order_28 rfl (by omega) (by omega) (q.kept (frS.up (a := 95) (k := 35) (x := (-1)) ((frS.up (a := 95) (k := 11) (x := 0) frS.rf rfl).tr (hf10.r9)) rfl)).nt rfl ?_
  refine rn_callV (b := 95) (as := [.inl (eN e : Int)]) (rest := [.inl 0, .inl 0, .inr (.inr 96)]) (q := 32) dX9_order_29 ml_X9_213 sm_X9_worthOn rfl rfl (by decide) (by omega) rfl rfl (Nat.le_of_ble_eq_true rfl) rfl (m_worthOn (d := d + 177) (q.kept (frS.up (a := 95) (k := 35) (x := (-1)) ((frS.up (a := 95) (k := 11) (x := 0) frS.rf rfl).tr (hf10.r9)) rfl)) (eN e) (by omega)) ?_
  intro r29 mem29 hq29
  obtain ⟨rfl, rfl⟩ := hq29
  show am_Rn l G _ _ 32 [some (.inr (.inr 96)), none] [.inl (sg ((eN e) % sn) : Int), .inl 0, .inl 0, .inr (.inr 96)] (am_up mem10 95 35 (-1)) _
  refine rn_iconst (q := 33) dX9_order_32 (am_okd rfl) rfl ?_
  refine rn_callV (b := 95) (as := [.inl 0, .inl 0, .inl (sg ((eN e) % sn) : Int), .inl 0]) (rest := []) (q := 36) dX9_order_33 ml_X9_313 sm_X9_goOrder rfl rfl (by decide) (by omega) rfl rfl (Nat.le_of_ble_eq_true rfl) rfl ((fun (d : Nat) (h : d = d) => hgo) (d := d + 1) rfl) ?_
  intro r33 mem33 hq33
  obtain ⟨rfl, hg, -, hres⟩ := hq33
  show am_Rn l G _ _ 36 [some (.inr (.inr 96)), none] [] mem33 _
  have hr2 := hres.resolve_left (fun z => by omega)
  refine rn_aload_n (x := 95) (q := 37) dX9_order_36 rfl rfl ?_
  refine rn_iconst (q := 38) dX9_order_37 (am_okd rfl) rfl ?_
  refine rn_puti (a := 95) (q := 41) dX9_order_38 fl_X9_110 rfl rfl rfl rfl ?_
  refine rn_iconst (q := 42) dX9_order_41 (am_okd rfl) rfl ?_
  refine rn_istore_n (ls' := [some (.inr (.inr 96)), some (.inl 0)]) (q := 43) dX9_order_42 (by decide) rfl rfl ?_
  exact K 0 (Nat.zero_le _) _ (frS.up (a := 95) (k := 10) (x := 0) ((frS.up (a := 95) (k := 35) (x := (-1)) ((frS.up (a := 95) (k := 11) (x := 0) frS.rf rfl).tr (hf10.r9)) rfl).tr (hg.to9.r9)) rfl) (fun j hj => by rw [hOL]; exact hr2.2.2 j hj) (by show mem33 95 35 = _; rw [hr2.2.1]; omega) m_row0
end P76
