/-- the model's rule: its signs are X -/
def m_rul (rq : Nat) (X : List Nat) (mem : am_M) : Prop := (rq = 104 ∨ rq = 105) ∧ mem 95 18 = ((rq + 1 : Nat) : Int) ∧ mem 95 20 = (X.length : Int) ∧ ∀ j, j < X.length → mem rq j = sb (X.getD j 0)
theorem m_rul_k {rq : Nat} (h : rq = 104 ∨ rq = 105) : am_ks[rq]? = some (102, 40) := by
  rcases h with rfl | rfl <;> rfl
/-- the reader's places and the facts may change -/
def fr_may (mem m : am_M) : Prop := (∀ b, b ≠ 95 → b ≠ 106 → m b = mem b) ∧ ∀ k, (k < 12 ∨ 16 < k) → m 95 k = mem 95 k
section P41
variable {l : Launch} {G : am_G} {d : Nat} {mem M : am_M}
theorem s_mayOf102 {arr : Nat} (ha : am_ks[arr]? = some (100, 29)) (ha1 : arr ≠ 106) (ha2 : arr ≠ 95) {rq : Nat} {X : List Nat} (hx4 : X.length ≤ 40) (hx2 : ∀ j, X.getD j 0 < 256) (hz : X ≠ []) {n : Nat} (hn8 : n ≤ 8) {h : hrs} {e : est} {sv i : Nat} (hi : i < 8) (hep : eP e < 2 ^ n) {m6 : am_M} (hR : m_rul rq X m6) (hmen : m6 95 1 = (n : Int)) (hask : m6 95 21 = 0) (he : ∀ i, i < 8 → m6 arr (16 + i) = if (eP e).testBit i then 1 else 0) (hwt : m6 98 i = (h.2.2.1 i : Int)) (hf : ∀ k, k < 6 → m6 106 k = fct h sv i (eH e i) (eN e) (pc (eP e)) k) {lx : Option am_V} {Q : Option am_V → am_M → Prop} (hQ : ∀ m : am_M, fr_may m6 m → Q (some (.inl (mayV X h sv i (eH e i) (eN e) (pc (eP e))))) m) : am_Rn l G mt_X9_mayOf (d + 176) 102 [some (.inr (.inr 96)), some (.inr (.inr (arr + 1))), some (.inl (i : Int)), lx] [] m6 Q := by
  obtain ⟨q1, q2, q3, q4⟩ := hR
  have hpb : eP e < 1024 := Nat.lt_of_lt_of_le hep (Nat.le_trans (Nat.pow_le_pow_right (by decide) hn8) (by decide))
  have hln : 1 ≤ X.length := by
    cases X with
    | nil => exact absurd rfl hz
    | cons a t => simp
  obtain ⟨r, hr⟩ := ps_tot X (fct h sv i (eH e i) (eN e) (pc (eP e))) 168 5 0 0 0 (-1) (by decide) (Nat.zero_le _) (by rw [show cm 5 = 4 from rfl]; omega)
  have hrd : m_rd X rq X.length (am_up (bgn (am_up m6 106 6 (pc (eP e) : Int)) rq (X.length : Int) 40) 95 21 1) := by
    refine ⟨⟨40, m_rul_k q1, hx4⟩, rfl, rfl, by omega, ⟨40, rfl, by decide, by omega⟩, hx2, fun j hj => ?_⟩
    rw [am_up_ne (by omega), bgn_ne (by omega), am_up_ne (by omega)]
    exact q4 j hj
  have hak : m_ask (fct h sv i (eH e i) (eN e) (pc (eP e))) (am_up (bgn (am_up m6 106 6 (pc (eP e) : Int)) rq (X.length : Int) 40) 95 21 1) := by
    refine .inr ⟨rfl, fun k hk => ?_⟩
    rw [am_up_ne (by decide), bgn_ne (by decide), am_up_at]
    by_cases e6 : k = 6
    · rw [if_pos e6, e6]; rfl
    · rw [if_neg e6]; exact hf k (by omega)
  have hH := (ps_run (l := l) (G := G) hrd hak 168 (d + 175) (by omega)).2.2.2.2.2 0 0 (-1) r (by decide) (Nat.zero_le _) hr
  have hv : mayV X h sv i (eH e i) (eN e) (pc (eP e)) = max 0 (min (h.2.2.1 i : Int) r.1) := by unfold mayV; rw [rv_ps hz hr]
  rw [hv] at hQ
  generalize hM : am_up (bgn (am_up m6 106 6 (pc (eP e) : Int)) rq (X.length : Int) 40) 95 21 1 = M at hrd hak hH
  refine rn_aload_n (x := 95) (q := 103) dX9_mayOf_102 rfl rfl ?_
  refine rn_get (a := 95) (v := .inr (.inr 107)) (q := 106) dX9_mayOf_103 fl_X9_46 rfl rfl rfl ?_
  refine rn_bipush (q := 108) dX9_mayOf_106 ⟨by decide, by decide⟩ rfl ?_
  refine rn_aload_n (x := 95) (q := 109) dX9_mayOf_108 rfl rfl ?_
  refine rn_aload_n (x := arr) (q := 110) dX9_mayOf_109 rfl rfl ?_
  refine rn_callV (b := 95) (as := [.inr (.inr (arr + 1))]) (rest := [.inl 6, .inr (.inr 107)]) (q := 113) dX9_mayOf_110 ml_X9_216 sm_X9_present rfl rfl (by decide) (by omega) rfl rfl (Nat.le_of_ble_eq_true rfl) rfl (s_present9 (d := d + 175) arr n (eP e) ha hmen hn8 hep he) ?_
  intro r110 mem110 hq110
  obtain ⟨rfl, rfl⟩ := hq110
  show am_Rn l G _ _ 113 [some (.inr (.inr 96)), some (.inr (.inr (arr + 1))), some (.inl (i : Int)), lx] [.inl (eP e : Int), .inl 6, .inr (.inr 107)] m6 _
  refine rn_callS (as := [.inl (eP e : Int)]) (rest := [.inl 6, .inr (.inr 107)]) (q := 116) dX9_mayOf_113 ml_X9_220 sm_J6_bitCount_0f7a4 (by omega) rfl rfl (Nat.le_of_ble_eq_true rfl) rfl (s_bitCount (d := d + 175) (eP e) hpb) ?_
  intro r113 mem113 hq113
  obtain ⟨rfl, rfl⟩ := hq113
  show am_Rn l G _ _ 116 [some (.inr (.inr 96)), some (.inr (.inr (arr + 1))), some (.inl (i : Int)), lx] [.inl (pc (eP e) : Int), .inl 6, .inr (.inr 107)] m6 _
  refine rn_iastV (a := 106) (m1 := am_up m6 106 6 (pc (eP e) : Int)) (q := 117) dX9_mayOf_116 rfl (by omega) (by omega) rfl rfl ?_
  refine rn_aload_n (x := 95) (q := 118) dX9_mayOf_117 rfl rfl ?_
  refine rn_aload_n (x := 95) (q := 119) dX9_mayOf_118 rfl rfl ?_
  refine rn_get (a := 95) (v := .inr (.inr (rq + 1))) (q := 122) dX9_mayOf_119 fl_X9_40 rfl (show Sum.inr (Sum.inr (m6 95 18).toNat) = _ by rw [q2]; rfl) rfl ?_
  refine rn_aload_n (x := 95) (q := 123) dX9_mayOf_122 rfl rfl ?_
  refine rn_get (a := 95) (v := .inl (X.length : Int)) (q := 126) dX9_mayOf_123 fl_X9_210 rfl (am_gi q3) rfl ?_
  refine rn_bipush (q := 128) dX9_mayOf_126 ⟨by decide, by decide⟩ rfl ?_
  refine rn_callV (b := 95) (as := [.inr (.inr (rq + 1)), .inl (X.length : Int), .inl 40]) (rest := []) (q := 131) dX9_mayOf_128 ml_X9_138 sm_X9_begin rfl rfl (by decide) (by omega) rfl rfl (Nat.le_of_ble_eq_true rfl) rfl (s_begin9 (d := d + 175) rq (by omega) (X.length : Int) 40) ?_
  intro r128 mem128 hq128
  obtain ⟨rfl, rfl⟩ := hq128
  show am_Rn l G _ _ 131 [some (.inr (.inr 96)), some (.inr (.inr (arr + 1))), some (.inl (i : Int)), lx] [] (aw (bgn (am_up m6 106 6 (pc (eP e) : Int)) rq (X.length : Int) 40) 0 (-1)) _
  refine rn_aload_n (x := 95) (q := 132) dX9_mayOf_131 rfl rfl ?_
  refine rn_iconst (q := 133) dX9_mayOf_132 (am_okd rfl) rfl ?_
  refine rn_putz (a := 95) (q := 136) dX9_mayOf_133 fl_X9_203 rfl rfl rfl (by omega) rfl ?_
  rw [aw_out (by decide) (by decide), hM]
  refine rn_aload_n (x := 95) (q := 137) dX9_mayOf_136 rfl rfl ?_
  refine rn_iconst (q := 138) dX9_mayOf_137 (am_okd rfl) rfl ?_
  refine rn_callV (b := 95) (as := [.inl 0]) (rest := []) (q := 141) dX9_mayOf_138 ml_X9_190 sm_X9_held rfl rfl (by decide) (by omega) rfl rfl (Nat.le_of_ble_eq_true rfl) rfl (hH) ?_
  intro r138 mem138 hq138
  obtain ⟨rfl, rfl⟩ := hq138
  show am_Rn l G _ _ 141 [some (.inr (.inr 96)), some (.inr (.inr (arr + 1))), some (.inl (i : Int)), lx] [.inl r.1] (aw M (r.2.1 : Int) r.2.2) _
  refine rn_istore_n (ls' := [some (.inr (.inr 96)), some (.inr (.inr (arr + 1))), some (.inl (i : Int)), some (.inl r.1)]) (q := 142) dX9_mayOf_141 (by decide) rfl rfl ?_
  refine rn_aload_n (x := 95) (q := 143) dX9_mayOf_142 rfl rfl ?_
  refine rn_iconst (q := 144) dX9_mayOf_143 (am_okd rfl) rfl ?_
  refine rn_putz (a := 95) (q := 147) dX9_mayOf_144 fl_X9_203 rfl rfl rfl (by omega) rfl ?_
  refine rn_iconst (q := 148) dX9_mayOf_147 (am_okd rfl) rfl ?_
  refine rn_aload_n (x := 95) (q := 149) dX9_mayOf_148 rfl rfl ?_
  refine rn_get (a := 95) (v := .inr (.inr 99)) (q := 152) dX9_mayOf_149 fl_X9_16 rfl rfl rfl ?_
  refine rn_iload_n (x := (i : Int)) (q := 153) dX9_mayOf_152 rfl rfl ?_
  refine rn_ialdV (a := 98) (v := (h.2.2.1 i : Int)) (q := 154) dX9_mayOf_153 rfl (by omega) (by omega) (by rw [am_up_ne (by decide), ← hM]; show m6 98 i = _; exact hwt) rfl ?_
  refine rn_iload_n (x := r.1) (q := 155) dX9_mayOf_154 rfl rfl ?_
  refine rn_mmin (q := 158) dX9_mayOf_155 am_mm_X9_225 am_mminw (Nat.le_of_ble_eq_true rfl) rfl ?_
  refine rn_mmax (q := 161) dX9_mayOf_158 am_mm_X9_231 am_mmaxw (Nat.le_of_ble_eq_true rfl) rfl ?_
  refine rn_iret dX9_mayOf_161 rfl ?_
  refine hQ _ ⟨fun b b1 b2 => ?_, fun k hk => ?_⟩
  · rw [am_up_ne b1]; unfold aw; rw [am_up_ne b1, am_up_ne b1, ← hM, am_up_ne b1, bgn_ne b1, am_up_ne b2]
  · rw [am_up_at]
    by_cases e21 : k = 21
    · rw [if_pos e21, e21, hask]
    · rw [if_neg e21]; unfold aw; rw [am_up_neq (by omega), am_up_neq (by omega), ← hM, am_up_neq e21, bgn_k (by omega) (by omega) (by omega), am_up_ne (by decide)]
theorem s_mayOf9 {arr : Nat} (ha : am_ks[arr]? = some (100, 29)) (ha1 : arr ≠ 106) (ha2 : arr ≠ 95) {rq : Nat} {X : List Nat} (hx4 : X.length ≤ 40) (hx2 : ∀ j, X.getD j 0 < 256) (hR : m_rul rq X mem) {sn : Nat} {sg : Nat → Nat} (hs : m_song sn sg mem) {h : hrs} (hh : m_hrs h mem) {e : est} {NB : Nat} (hNB : NB < 1000000) (heo : e_ok h.1 NB e) (hem : m_est e arr 0 mem) (hask : mem 95 21 = 0) (i : Nat) (hi : i < h.1) : am_Sm l G yX9_mayOf mt_X9_mayOf (d + 176) [.inr (.inr 96), .inr (.inr (arr + 1)), .inl (i : Int)] mem (fun q m => q = some (.inl (mayV X h (sg (eN e % sn)) i (eH e i) (eN e) (pc (eP e)))) ∧ fr_may mem m) := by
  refine am_enter (ls := [some (.inr (.inr 96)), some (.inr (.inr (arr + 1))), some (.inl (i : Int)), none]) (by decide) rfl (Nat.le_of_ble_eq_true rfl) rfl ?_
  obtain ⟨⟨k1, k2, k3, k4⟩, h6, hv⟩ := hh
  obtain ⟨v1, v2, v3⟩ := hv i hi
  have hsg := hs.2.2.2.1 (eN e % sn)
  have k2' := k2 i
  have eh9 := heo.1 i
  have eN9 := heo.2.2.2.1
  have x1 : mem arr i = (eH e i : Int) := by have := hem.1 i (by omega); rwa [Nat.zero_add] at this
  have x2 : mem arr 28 = (eN e : Int) := hem.2.2.2.2.2.2.2
  have x3 : ∀ j, j < 8 → mem arr (16 + j) = if (eP e).testBit j then 1 else 0 := fun j hj => by have := hem.2.2.1 j hj; rwa [Nat.zero_add] at this
  have hm7 : ((eN e : Int)).tmod 7 = ((eN e % 7 : Nat) : Int) := rfl
  by_cases hz : X = []
  · subst hz
    refine rn_aload_n (x := 95) (q := 1) dX9_mayOf_0 rfl rfl ?_
    refine rn_aload_n (x := arr) (q := 2) dX9_mayOf_1 rfl rfl ?_
    refine rn_bipush (q := 4) dX9_mayOf_2 ⟨by decide, by decide⟩ rfl ?_
    refine rn_ialdV (a := arr) (v := (eN e : Int)) (q := 5) dX9_mayOf_4 ha (by omega) (by omega) x2 rfl ?_
    refine rn_callV (b := 95) (as := [.inl (eN e : Int)]) (rest := []) (q := 8) dX9_mayOf_5 ml_X9_213 sm_X9_worthOn rfl rfl (by decide) (by omega) rfl rfl (Nat.le_of_ble_eq_true rfl) rfl (s_worthOn (d := d + 175) hs (eN e) (by omega)) ?_
    intro r5 mem5 hq5
    obtain ⟨rfl, rfl⟩ := hq5
    show am_Rn l G _ _ 8 [some (.inr (.inr 96)), some (.inr (.inr (arr + 1))), some (.inl (i : Int)), none] [.inl (sg (eN e % sn) : Int)] mem _
    refine rn_aload_n (x := 95) (q := 9) dX9_mayOf_8 rfl rfl ?_
    refine rn_get (a := 95) (v := .inr (.inr 98)) (q := 12) dX9_mayOf_9 fl_X9_13 rfl rfl rfl ?_
    refine rn_iload_n (x := (i : Int)) (q := 13) dX9_mayOf_12 rfl rfl ?_
    refine rn_ialdV (a := 97) (v := (h.2.1 i : Int)) (q := 14) dX9_mayOf_13 rfl (by omega) (by omega) v1 rfl ?_
    refine rn_isubN (z := (sg (eN e % sn) : Int) - (h.2.1 i : Int)) (q := 15) dX9_mayOf_14 (by omega) (by unfold am_ok; omega) rfl ?_
    refine rn_aload_n (x := arr) (q := 16) dX9_mayOf_15 rfl rfl ?_
    refine rn_iload_n (x := (i : Int)) (q := 17) dX9_mayOf_16 rfl rfl ?_
    refine rn_ialdV (a := arr) (v := (eH e i : Int)) (q := 18) dX9_mayOf_17 ha (by omega) (by omega) x1 rfl ?_
    refine rn_bipush (q := 20) dX9_mayOf_18 ⟨by decide, by decide⟩ rfl ?_
    refine rn_idivN (z := (eH e i : Int) / 10) (q := 21) dX9_mayOf_20 (by decide) (Int.tdiv_eq_ediv_of_nonneg (by omega)) (by unfold am_ok; omega) rfl ?_
    refine rn_isubN (z := (sg (eN e % sn) : Int) - (h.2.1 i : Int) - (eH e i : Int) / 10) (q := 22) dX9_mayOf_21 (by omega) (by unfold am_ok; omega) rfl ?_
    refine rn_istore_n (ls' := [some (.inr (.inr 96)), some (.inr (.inr (arr + 1))), some (.inl (i : Int)), some (.inl ((sg (eN e % sn) : Int) - (h.2.1 i : Int) - (eH e i : Int) / 10))]) (q := 23) dX9_mayOf_22 (by decide) rfl rfl ?_
    refine rn_aload_n (x := 95) (q := 24) dX9_mayOf_23 rfl rfl ?_
    refine rn_get (a := 95) (v := .inl 0) (q := 27) dX9_mayOf_24 fl_X9_210 rfl (am_gi hR.2.2.1) rfl ?_
    refine rn_ifle (t := 147) (q := 30) dX9_mayOf_27 rfl rfl (fun w27 => ?_) (fun h => absurd h (by decide))
    refine rn_iconst (q := 148) dX9_mayOf_147 (am_okd rfl) rfl ?_
    refine rn_aload_n (x := 95) (q := 149) dX9_mayOf_148 rfl rfl ?_
    refine rn_get (a := 95) (v := .inr (.inr 99)) (q := 152) dX9_mayOf_149 fl_X9_16 rfl rfl rfl ?_
    refine rn_iload_n (x := (i : Int)) (q := 153) dX9_mayOf_152 rfl rfl ?_
    refine rn_ialdV (a := 98) (v := (h.2.2.1 i : Int)) (q := 154) dX9_mayOf_153 rfl (by omega) (by omega) v2 rfl ?_
    refine rn_iload_n (x := (sg (eN e % sn) : Int) - (h.2.1 i : Int) - (eH e i : Int) / 10) (q := 155) dX9_mayOf_154 rfl rfl ?_
    refine rn_mmin (q := 158) dX9_mayOf_155 am_mm_X9_225 am_mminw (Nat.le_of_ble_eq_true rfl) rfl ?_
    refine rn_mmax (q := 161) dX9_mayOf_158 am_mm_X9_231 am_mmaxw (Nat.le_of_ble_eq_true rfl) rfl ?_
    refine rn_iret dX9_mayOf_161 rfl ?_
    exact ⟨by unfold mayV; rw [rv_nil]; rfl, fun _ _ _ => rfl, fun _ _ => rfl⟩
  · have hln : 1 ≤ X.length := by
      cases X with
      | nil => exact absurd rfl hz
      | cons a t => simp
    refine rn_aload_n (x := 95) (q := 1) dX9_mayOf_0 rfl rfl ?_
    refine rn_aload_n (x := arr) (q := 2) dX9_mayOf_1 rfl rfl ?_
    refine rn_bipush (q := 4) dX9_mayOf_2 ⟨by decide, by decide⟩ rfl ?_
    refine rn_ialdV (a := arr) (v := (eN e : Int)) (q := 5) dX9_mayOf_4 ha (by omega) (by omega) x2 rfl ?_
    refine rn_callV (b := 95) (as := [.inl (eN e : Int)]) (rest := []) (q := 8) dX9_mayOf_5 ml_X9_213 sm_X9_worthOn rfl rfl (by decide) (by omega) rfl rfl (Nat.le_of_ble_eq_true rfl) rfl (s_worthOn (d := d + 175) hs (eN e) (by omega)) ?_
    intro r5 mem5 hq5
    obtain ⟨rfl, rfl⟩ := hq5
    show am_Rn l G _ _ 8 [some (.inr (.inr 96)), some (.inr (.inr (arr + 1))), some (.inl (i : Int)), none] [.inl (sg (eN e % sn) : Int)] mem _
    refine rn_aload_n (x := 95) (q := 9) dX9_mayOf_8 rfl rfl ?_
    refine rn_get (a := 95) (v := .inr (.inr 98)) (q := 12) dX9_mayOf_9 fl_X9_13 rfl rfl rfl ?_
    refine rn_iload_n (x := (i : Int)) (q := 13) dX9_mayOf_12 rfl rfl ?_
    refine rn_ialdV (a := 97) (v := (h.2.1 i : Int)) (q := 14) dX9_mayOf_13 rfl (by omega) (by omega) v1 rfl ?_
    refine rn_isubN (z := (sg (eN e % sn) : Int) - (h.2.1 i : Int)) (q := 15) dX9_mayOf_14 (by omega) (by unfold am_ok; omega) rfl ?_
    refine rn_aload_n (x := arr) (q := 16) dX9_mayOf_15 rfl rfl ?_
    refine rn_iload_n (x := (i : Int)) (q := 17) dX9_mayOf_16 rfl rfl ?_
    refine rn_ialdV (a := arr) (v := (eH e i : Int)) (q := 18) dX9_mayOf_17 ha (by omega) (by omega) x1 rfl ?_
    refine rn_bipush (q := 20) dX9_mayOf_18 ⟨by decide, by decide⟩ rfl ?_
    refine rn_idivN (z := (eH e i : Int) / 10) (q := 21) dX9_mayOf_20 (by decide) (Int.tdiv_eq_ediv_of_nonneg (by omega)) (by unfold am_ok; omega) rfl ?_
    refine rn_isubN (z := (sg (eN e % sn) : Int) - (h.2.1 i : Int) - (eH e i : Int) / 10) (q := 22) dX9_mayOf_21 (by omega) (by unfold am_ok; omega) rfl ?_
    refine rn_istore_n (ls' := [some (.inr (.inr 96)), some (.inr (.inr (arr + 1))), some (.inl (i : Int)), some (.inl ((sg (eN e % sn) : Int) - (h.2.1 i : Int) - (eH e i : Int) / 10))]) (q := 23) dX9_mayOf_22 (by decide) rfl rfl ?_
    refine rn_aload_n (x := 95) (q := 24) dX9_mayOf_23 rfl rfl ?_
    refine rn_get (a := 95) (v := .inl (X.length : Int)) (q := 27) dX9_mayOf_24 fl_X9_210 rfl (am_gi hR.2.2.1) rfl ?_
    refine rn_ifle (t := 147) (q := 30) dX9_mayOf_27 rfl rfl (fun h => absurd h (by omega)) (fun w27 => ?_)
    refine rn_aload_n (x := 95) (q := 31) dX9_mayOf_30 rfl rfl ?_
    refine rn_get (a := 95) (v := .inr (.inr 107)) (q := 34) dX9_mayOf_31 fl_X9_46 rfl rfl rfl ?_
    refine rn_iconst (q := 35) dX9_mayOf_34 (am_okd rfl) rfl ?_
    refine rn_aload_n (x := 95) (q := 36) dX9_mayOf_35 rfl rfl ?_
    refine rn_aload_n (x := arr) (q := 37) dX9_mayOf_36 rfl rfl ?_
    refine rn_bipush (q := 39) dX9_mayOf_37 ⟨by decide, by decide⟩ rfl ?_
    refine rn_ialdV (a := arr) (v := (eN e : Int)) (q := 40) dX9_mayOf_39 ha (by omega) (by omega) x2 rfl ?_
    refine rn_callV (b := 95) (as := [.inl (eN e : Int)]) (rest := [.inl 0, .inr (.inr 107)]) (q := 43) dX9_mayOf_40 ml_X9_213 sm_X9_worthOn rfl rfl (by decide) (by omega) rfl rfl (Nat.le_of_ble_eq_true rfl) rfl (s_worthOn (d := d + 175) hs (eN e) (by omega)) ?_
    intro r40 mem40 hq40
    obtain ⟨rfl, rfl⟩ := hq40
    show am_Rn l G _ _ 43 [some (.inr (.inr 96)), some (.inr (.inr (arr + 1))), some (.inl (i : Int)), some (.inl ((sg (eN e % sn) : Int) - (h.2.1 i : Int) - (eH e i : Int) / 10))] [.inl (sg (eN e % sn) : Int), .inl 0, .inr (.inr 107)] mem _
    refine rn_iastV (a := 106) (m1 := am_up mem 106 0 (sg (eN e % sn) : Int)) (q := 44) dX9_mayOf_43 rfl (by omega) (by omega) rfl rfl ?_
    refine rn_aload_n (x := 95) (q := 45) dX9_mayOf_44 rfl rfl ?_
    refine rn_get (a := 95) (v := .inr (.inr 107)) (q := 48) dX9_mayOf_45 fl_X9_46 rfl rfl rfl ?_
    refine rn_iconst (q := 49) dX9_mayOf_48 (am_okd rfl) rfl ?_
    refine rn_aload_n (x := 95) (q := 50) dX9_mayOf_49 rfl rfl ?_
    refine rn_get (a := 95) (v := .inr (.inr 98)) (q := 53) dX9_mayOf_50 fl_X9_13 rfl rfl rfl ?_
    refine rn_iload_n (x := (i : Int)) (q := 54) dX9_mayOf_53 rfl rfl ?_
    refine rn_ialdV (a := 97) (v := (h.2.1 i : Int)) (q := 55) dX9_mayOf_54 rfl (by omega) (by omega) (by (repeat rw [am_up_ne (by decide)]); exact v1) rfl ?_
    refine rn_iastV (a := 106) (m1 := am_up (am_up mem 106 0 (sg (eN e % sn) : Int)) 106 1 (h.2.1 i : Int)) (q := 56) dX9_mayOf_55 rfl (by omega) (by omega) rfl rfl ?_
    refine rn_aload_n (x := 95) (q := 57) dX9_mayOf_56 rfl rfl ?_
    refine rn_get (a := 95) (v := .inr (.inr 107)) (q := 60) dX9_mayOf_57 fl_X9_46 rfl rfl rfl ?_
    refine rn_iconst (q := 61) dX9_mayOf_60 (am_okd rfl) rfl ?_
    refine rn_aload_n (x := arr) (q := 62) dX9_mayOf_61 rfl rfl ?_
    refine rn_iload_n (x := (i : Int)) (q := 63) dX9_mayOf_62 rfl rfl ?_
    refine rn_ialdV (a := arr) (v := (eH e i : Int)) (q := 64) dX9_mayOf_63 ha (by omega) (by omega) (by (repeat rw [am_up_ne ha1]); exact x1) rfl ?_
    refine rn_iastV (a := 106) (m1 := am_up (am_up (am_up mem 106 0 (sg (eN e % sn) : Int)) 106 1 (h.2.1 i : Int)) 106 2 (eH e i : Int)) (q := 65) dX9_mayOf_64 rfl (by omega) (by omega) rfl rfl ?_
    refine rn_aload_n (x := 95) (q := 66) dX9_mayOf_65 rfl rfl ?_
    refine rn_get (a := 95) (v := .inr (.inr 107)) (q := 69) dX9_mayOf_66 fl_X9_46 rfl rfl rfl ?_
    refine rn_iconst (q := 70) dX9_mayOf_69 (am_okd rfl) rfl ?_
    refine rn_aload_n (x := 95) (q := 71) dX9_mayOf_70 rfl rfl ?_
    refine rn_get (a := 95) (v := .inr (.inr 99)) (q := 74) dX9_mayOf_71 fl_X9_16 rfl rfl rfl ?_
    refine rn_iload_n (x := (i : Int)) (q := 75) dX9_mayOf_74 rfl rfl ?_
    refine rn_ialdV (a := 98) (v := (h.2.2.1 i : Int)) (q := 76) dX9_mayOf_75 rfl (by omega) (by omega) (by (repeat rw [am_up_ne (by decide)]); exact v2) rfl ?_
    refine rn_iastV (a := 106) (m1 := am_up (am_up (am_up (am_up mem 106 0 (sg (eN e % sn) : Int)) 106 1 (h.2.1 i : Int)) 106 2 (eH e i : Int)) 106 3 (h.2.2.1 i : Int)) (q := 77) dX9_mayOf_76 rfl (by omega) (by omega) rfl rfl ?_
    refine rn_aload_n (x := 95) (q := 78) dX9_mayOf_77 rfl rfl ?_
    refine rn_get (a := 95) (v := .inr (.inr 107)) (q := 81) dX9_mayOf_78 fl_X9_46 rfl rfl rfl ?_
    refine rn_iconst (q := 82) dX9_mayOf_81 (am_okd rfl) rfl ?_
    refine rn_aload_n (x := 95) (q := 83) dX9_mayOf_82 rfl rfl ?_
    refine rn_get (a := 95) (v := .inr (.inr 100)) (q := 86) dX9_mayOf_83 fl_X9_19 rfl rfl rfl ?_
    refine rn_iload_n (x := (i : Int)) (q := 87) dX9_mayOf_86 rfl rfl ?_
    refine rn_ialdV (a := 99) (v := (h.2.2.2 i : Int)) (q := 88) dX9_mayOf_87 rfl (by omega) (by omega) (by (repeat rw [am_up_ne (by decide)]); exact v3) rfl ?_
    refine rn_iastV (a := 106) (m1 := am_up (am_up (am_up (am_up (am_up mem 106 0 (sg (eN e % sn) : Int)) 106 1 (h.2.1 i : Int)) 106 2 (eH e i : Int)) 106 3 (h.2.2.1 i : Int)) 106 4 (h.2.2.2 i : Int)) (q := 89) dX9_mayOf_88 rfl (by omega) (by omega) rfl rfl ?_
    refine rn_aload_n (x := 95) (q := 90) dX9_mayOf_89 rfl rfl ?_
    refine rn_get (a := 95) (v := .inr (.inr 107)) (q := 93) dX9_mayOf_90 fl_X9_46 rfl rfl rfl ?_
    refine rn_iconst (q := 94) dX9_mayOf_93 (am_okd rfl) rfl ?_
    refine rn_aload_n (x := arr) (q := 95) dX9_mayOf_94 rfl rfl ?_
    refine rn_bipush (q := 97) dX9_mayOf_95 ⟨by decide, by decide⟩ rfl ?_
    refine rn_ialdV (a := arr) (v := (eN e : Int)) (q := 98) dX9_mayOf_97 ha (by omega) (by omega) (by (repeat rw [am_up_ne ha1]); exact x2) rfl ?_
    refine rn_bipush (q := 100) dX9_mayOf_98 ⟨by decide, by decide⟩ rfl ?_
    refine rn_iremN (z := ((eN e % 7 : Nat) : Int)) (q := 101) dX9_mayOf_100 (by decide) hm7 (by unfold am_ok; omega) rfl ?_
    refine rn_iastV (a := 106) (m1 := am_up (am_up (am_up (am_up (am_up (am_up mem 106 0 (sg (eN e % sn) : Int)) 106 1 (h.2.1 i : Int)) 106 2 (eH e i : Int)) 106 3 (h.2.2.1 i : Int)) 106 4 (h.2.2.2 i : Int)) 106 5 ((eN e % 7 : Nat) : Int)) (q := 102) dX9_mayOf_101 rfl (by omega) (by omega) rfl rfl ?_
    refine s_mayOf102 (m6 := am_up (am_up (am_up (am_up (am_up (am_up mem 106 0 (sg (eN e % sn) : Int)) 106 1 (h.2.1 i : Int)) 106 2 (eH e i : Int)) 106 3 (h.2.2.1 i : Int)) 106 4 (h.2.2.2 i : Int)) 106 5 ((eN e % 7 : Nat) : Int)) ha ha1 ha2 hx4 hx2 hz k1 (h := h) (e := e) (sv := sg (eN e % sn)) (by omega) heo.2.2.1 ⟨hR.1, hR.2.1, hR.2.2.1, fun j hj => ?_⟩ h6 hask (fun j hj => ?_) v2 (fun k hk => ?_) (fun m hm => ⟨rfl, ⟨fun b b1 b2 => ?_, fun k hk => ?_⟩⟩)
    · have := hR.1
      (repeat rw [am_up_ne (by omega)]); exact hR.2.2.2 j hj
    · (repeat rw [am_up_ne ha1]); exact x3 j hj
    · have hk7 : k = 0 ∨ k = 1 ∨ k = 2 ∨ k = 3 ∨ k = 4 ∨ k = 5 := by omega
      rcases hk7 with rfl | rfl | rfl | rfl | rfl | rfl <;> simp [am_up, fct]
    · rw [hm.1 b b1 b2]; (repeat rw [am_up_ne b2])
    · rw [hm.2 k hk]; (repeat rw [am_up_ne (by decide)])
end P41
