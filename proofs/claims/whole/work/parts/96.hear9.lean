/-! hearers of the reference, the whole -/
theorem fitL_tk {T : List Nat} {p : Nat} (h : p < 31) : fitL (T.take 31) p ↔ fitL T p := by
  unfold fitL
  rw [take_gd h]
theorem ln_mid {T : List Nat} {n p : Nat} (h0 : 0 < T.length) (h1 : p ≤ (T.take 31).length) (h2 : ∀ j, j < p → fitL (T.take 31) j ∧ j / 4 + n < 8) (h3 : p % 4 ≠ 3) (h4 : p < (T.take 31).length → ¬ (fitL (T.take 31) p ∧ p / 4 + n < 8)) : lnBad T n p := by
  have hl : (T.take 31).length = min 31 T.length := List.length_take
  refine ⟨by omega, by omega, fun j hj => ⟨(fitL_tk (by omega)).mp (h2 j hj).1, (h2 j hj).2⟩, ?_⟩
  by_cases hp : p < (T.take 31).length
  · refine Or.inl ⟨by omega, by omega, fun z => h4 hp ⟨(fitL_tk (by omega)).mpr z.1, z.2⟩⟩
  · exact Or.inr (Or.inl ⟨by omega, by omega, h3⟩)
section P96
variable {l : Launch} {G : am_G} {d : Nat} {r : Nat} {X : List Nat} {C : List Int} {sn : Nat} {sg : Nat → Nat} {h : hrs} {e : est} {NB : Nat} {mem m : am_M}
variable {T : List Nat} {M : am_M}
theorem DQ.push {n k s0 w0 p0 : Nat} (q : DQ X sn sg h e NB m) (hn : h.1 = n) (h8 : n < 8) (f1 : fitL T (4 * k + 1)) (f2 : fitL T (4 * k + 2)) (hs : srt (T.getD (4 * k) 0 : Int) = (s0 : Int)) (hw : T.getD (4 * k + 1) 0 - 48 = w0) (hp : T.getD (4 * k + 2) 0 - 48 = p0) : DQ X sn sg (hA T k h) (eA n e) NB (am_up (am_up (am_up (am_up (am_up (am_up (am_up m 97 n (s0 : Int)) 98 n (w0 : Int)) 99 n (p0 : Int)) 96 n 0) 96 (8 + n) 0) 96 (16 + n) 1) 95 1 ((n + 1 : Nat) : Int)) := by
  subst hn
  have hh : h_ok (hA T k h) := hA_ok q.hs.1 h8 f1 f2
  have e7 : hA T k h = (h.1 + 1, updN h.2.1 h.1 s0, updN h.2.2.1 h.1 w0, updN h.2.2.2 h.1 p0) := by unfold hA; rw [hs, hw, hp]; rfl
  have hb := q.bd
  have A := q.es.a
  refine q.setH ⟨hh, rfl, fun i hi => ?_⟩ (m_est_of (fun i hi => ?_) (fun i hi => ?_) (fun i hi => ?_) ?_ ?_ ?_ ?_ ?_) (eA_ok q.eo) ?_
  · have hi2 : i < h.1 + 1 := hi
    rw [e7]
    show am_up m 97 h.1 (s0 : Int) 97 i = ((if i = h.1 then s0 else h.2.1 i : Nat) : Int) ∧ am_up m 98 h.1 (w0 : Int) 98 i = ((if i = h.1 then w0 else h.2.2.1 i : Nat) : Int) ∧ am_up m 99 h.1 (p0 : Int) 99 i = ((if i = h.1 then p0 else h.2.2.2 i : Nat) : Int)
    rw [am_up_at, am_up_at, am_up_at]
    by_cases hi3 : i = h.1
    · rw [if_pos hi3, if_pos hi3, if_pos hi3, if_pos hi3, if_pos hi3, if_pos hi3]; exact ⟨rfl, rfl, rfl⟩
    · rw [if_neg hi3, if_neg hi3, if_neg hi3, if_neg hi3, if_neg hi3, if_neg hi3]; exact ⟨q.sort (by omega), q.want (by omega), q.pay (by omega)⟩
  · show _ = ((if i = h.1 then 0 else eH e i : Nat) : Int)
    rw [am_up_ne (by decide), am_up_neq (by omega), am_up_neq (by omega), am_up_at, am_up_ne (by decide), am_up_ne (by decide), am_up_ne (by decide)]
    by_cases hi3 : i = h.1
    · rw [if_pos hi3, if_pos hi3]; rfl
    · rw [if_neg hi3, if_neg hi3]; exact A.1 i hi
  · show _ = ((if i = h.1 then 0 else eS e i : Nat) : Int)
    rw [am_up_ne (by decide), am_up_neq (by omega), am_up_at, am_up_neq (by omega), am_up_ne (by decide), am_up_ne (by decide), am_up_ne (by decide)]
    by_cases hi3 : i = h.1
    · rw [if_pos (by omega), if_pos hi3]; rfl
    · rw [if_neg (by omega), if_neg hi3]; exact A.2.1 i hi
  · show _ = if (eP e + 2 ^ h.1).testBit i then (1 : Int) else 0
    rw [tb_add hb.2.2.1, am_up_ne (by decide), am_up_at, am_up_neq (by omega), am_up_neq (by omega), am_up_ne (by decide), am_up_ne (by decide), am_up_ne (by decide)]
    by_cases hi3 : i = h.1
    · rw [if_pos (by omega)]; simp [hi3]
    · rw [if_neg (by omega), A.2.2.1 i hi]; simp [hi3]
  · rw [am_up_ne (by decide), am_up_neq (by omega), am_up_neq (by omega), am_up_neq (by omega)]; exact A.2.2.2.1
  · rw [am_up_ne (by decide), am_up_neq (by omega), am_up_neq (by omega), am_up_neq (by omega)]; exact A.2.2.2.2.1
  · rw [am_up_ne (by decide), am_up_neq (by omega), am_up_neq (by omega), am_up_neq (by omega)]; exact A.2.2.2.2.2.1
  · rw [am_up_ne (by decide), am_up_neq (by omega), am_up_neq (by omega), am_up_neq (by omega)]; exact A.2.2.2.2.2.2.1
  · rw [am_up_ne (by decide), am_up_neq (by omega), am_up_neq (by omega), am_up_neq (by omega)]; exact A.2.2.2.2.2.2.2
  · exact ((((((frS.rf.up rfl).up rfl).up rfl).up rfl).up rfl).up rfl).up rfl
theorem m_hearers (q : DQ X sn sg h e NB mem) (hT : m_text T mem) (h47 : 0 ≤ mem 95 47 ∧ mem 95 47 ≤ 8) : am_Sm l G yX9_hearers mt_X9_hearers (d + 4) [.inr (.inr 96)] mem (fun q m => (lnOK T h.1 ∧ T.length = 0 ∧ q = some (.inl 0) ∧ frS s9 (am_up mem 95 8 0) m) ∨ (lnOK T h.1 ∧ 0 < (T.length + 1) / 4 ∧ q = some (.inl (((T.length + 1) / 4 : Nat) : Int)) ∧ DQ X sn sg (hNn T h ((T.length + 1) / 4)) (eNn h.1 e ((T.length + 1) / 4)) NB m ∧ m 95 8 = 0 ∧ m 95 24 = 0 ∧ m 95 47 = mem 95 47 + 1 ∧ frS s9h mem m) ∨ ∃ p : Nat, lnBad T h.1 p ∧ q = some (.inl (-1 - (p : Int))) ∧ frS s9 (am_up mem 95 8 0) m) := by
  refine am_enterQ (ls := [some (.inr (.inr 96)), none, none, none]) (by decide) rfl (Nat.le_of_ble_eq_true rfl) rfl (fun hok Q hQ => ?_)
  have hl := hT.len
  have b := q.bd
  obtain ⟨Z, hZ⟩ : ∃ Z, Z = T.take 31 := ⟨_, rfl⟩
  have hZl : Z.length = min 31 T.length := by rw [hZ]; exact List.length_take
  have zg : ∀ j, j < 31 → Z.getD j 0 = T.getD j 0 := fun j hj => by rw [hZ]; exact take_gd hj
  have zf : ∀ j, j < 31 → (fitL Z j ↔ fitL T j) := fun j hj => by rw [hZ]; exact fitL_tk hj
  have B : ∀ (M : am_M) (n a p : Nat) (w : Int), frS s9 (am_up mem 95 8 0) M → M 95 13 = (T.length : Int) → ((w = -1 ∧ a < T.length ∧ p = a) ∨ w = (p : Int)) → lnBad T h.1 p → am_Rn l G mt_X9_hearers (d + 4) 77 [some (.inr (.inr 96)), some (.inl (n : Int)), some (.inl 0), none] [] (aw M (a : Int) w) Q := by
    intro M n a p w hf h13 hp hb
    have h16 := hb.2.1
    refine rn_aload_n (x := 95) (q := 78) dX9_hearers_77 rfl rfl ?_
    refine rn_callV (b := 95) (as := []) (rest := []) (q := 81) dX9_hearers_78 ml_X9_165 sm_X9_wasRight rfl rfl (by decide) (by omega) rfl rfl (Nat.le_of_ble_eq_true rfl) rfl (s_wrN (d := d + 1) T.length h13 a w p hp) ?_
    intro r78 mem78 hq78
    obtain ⟨rfl, rfl⟩ := hq78
    show am_Rn l G _ _ 81 [some (.inr (.inr 96)), some (.inl (n : Int)), some (.inl 0), none] [.inl 0] (aw M (a : Int) (p : Int)) _
    refine rn_ifne (t := 91) (q := 84) dX9_hearers_81 rfl rfl (fun h => absurd h (by decide)) (fun w81 => ?_)
    refine rn_iconst (q := 85) dX9_hearers_84 (am_okd rfl) rfl ?_
    refine rn_aload_n (x := 95) (q := 86) dX9_hearers_85 rfl rfl ?_
    refine rn_get (a := 95) (v := .inl (p : Int)) (q := 89) dX9_hearers_86 fl_X9_135 rfl rfl rfl ?_
    refine rn_isubN (z := ((-1) - (p : Int))) (q := 90) dX9_hearers_89 rfl (by unfold am_ok; omega) rfl ?_
    refine rn_iret dX9_hearers_90 rfl ?_
    exact hQ _ _ (Or.inr (Or.inr ⟨p, hb, rfl, (hf.up (a := 95) (k := 15) (x := (a : Int)) rfl).up rfl⟩))
  have Y : ∀ (M : am_M), frS s9 (am_up mem 95 8 0) M → M 95 13 = (T.length : Int) → lnOK T h.1 → 0 < (T.length + 1) / 4 → cmO T ((T.length + 1) / 4) M → am_Rn l G mt_X9_hearers (d + 4) 77 [some (.inr (.inr 96)), some (.inl (((T.length + 1) / 4 : Nat) : Int)), some (.inl 0), none] [] (aw M (T.length : Int) (-1)) Q := by
    intro M hf h13 hs hpos hcm
    have hf2 : frS s9 (am_up mem 95 8 0) (aw M (T.length : Int) (-1)) := (hf.up (a := 95) (k := 15) (x := (T.length : Int)) rfl).up rfl
    have f0 : frS s9h mem (aw M (T.length : Int) (-1)) := frS.tr (frS.rf.up (a := 95) (k := 8) (x := 0) rfl) (hf2.mono (fun x k hk => by unfold s9h at hk; simp at hk; exact hk.1.1))
    have L2 : ∀ k : Nat, k ≤ (T.length + 1) / 4 → ∀ m : am_M, DQ X sn sg (hNn T h k) (eNn h.1 e k) NB m → frS s9h mem m → (∀ j, m 103 j = M 103 j) → m 95 8 = 0 → m 95 47 = mem 95 47 → am_Rn l G mt_X9_hearers (d + 4) 93 [some (.inr (.inr 96)), some (.inl (((T.length + 1) / 4 : Nat) : Int)), some (.inl 0), some (.inl (k : Int))] [] m Q := by
      refine am_dn ((T.length + 1) / 4) (fun k hkl ih m hq hfm h103 h8 h47m => ?_)
      have hn1 := hNn_1 (T := T) (h := h) k
      have h1 : m 95 1 = ((h.1 + k : Nat) : Int) := by rw [hq.n, hn1]
      refine rn_iload_n (x := (k : Int)) (q := 94) dX9_hearers_93 rfl rfl ?_
      refine rn_iload_n (x := (((T.length + 1) / 4 : Nat) : Int)) (q := 95) dX9_hearers_94 rfl rfl ?_
      refine rn_cmpge (t := 205) (q := 98) dX9_hearers_95 rfl rfl (fun w95 => ?_) (fun w95 => ?_)
      · refine rn_aload_n (x := 95) (q := 206) dX9_hearers_205 rfl rfl ?_
        refine rn_iconst (q := 207) dX9_hearers_206 (am_okd rfl) rfl ?_
        refine rn_puti (a := 95) (q := 210) dX9_hearers_207 fl_X9_175 rfl rfl rfl rfl ?_
        refine rn_aload_n (x := 95) (q := 211) dX9_hearers_210 rfl rfl ?_
        refine rn_dup (q := 212) dX9_hearers_211 rfl rfl ?_
        refine rn_get (a := 95) (v := .inl (mem 95 47)) (q := 215) dX9_hearers_212 fl_X9_178 rfl (am_gi h47m) rfl ?_
        refine rn_iconst (q := 216) dX9_hearers_215 (am_okd rfl) rfl ?_
        refine rn_iaddN (z := ((mem 95 47) + 1)) (q := 217) dX9_hearers_216 rfl (by unfold am_ok; omega) rfl ?_
        refine rn_puti (a := 95) (q := 220) dX9_hearers_217 fl_X9_178 rfl rfl rfl rfl ?_
        refine rn_iload_n (x := (((T.length + 1) / 4 : Nat) : Int)) (q := 221) dX9_hearers_220 rfl rfl ?_
        refine rn_iret dX9_hearers_221 rfl ?_
        obtain rfl : k = (T.length + 1) / 4 := by omega
        refine hQ _ _ (Or.inr (Or.inl ⟨hs, hpos, rfl, hq.setH ⟨hq.hs.1, hq.hs.2.1, hq.hs.2.2⟩ (hq.es.kept rfl) hq.eo ((frS.rf.up rfl).up rfl), h8, rfl, rfl, (hfm.up rfl).up rfl⟩))
      · obtain ⟨a1, a2, a3, a4, a5⟩ := lnOK_at hs (k := k) (by omega)
        obtain ⟨s0, hs0⟩ := Int.eq_ofNat_of_zero_le ((fitL0 (by omega)).mp a3)
        have hc := hcm k (by omega)
        refine rn_aload_n (x := 95) (q := 99) dX9_hearers_98 rfl rfl ?_
        refine rn_get (a := 95) (v := .inr (.inr 98)) (q := 102) dX9_hearers_99 fl_X9_13 rfl rfl rfl ?_
        refine rn_aload_n (x := 95) (q := 103) dX9_hearers_102 rfl rfl ?_
        refine rn_get (a := 95) (v := .inl ((h.1 + k : Nat) : Int)) (q := 106) dX9_hearers_103 fl_X9_113 rfl (am_gi h1) rfl ?_
        refine rn_aload_n (x := 95) (q := 107) dX9_hearers_106 rfl rfl ?_
        refine rn_get (a := 95) (v := .inr (.inr 104)) (q := 110) dX9_hearers_107 fl_X9_37 rfl rfl rfl ?_
        refine rn_iconst (q := 111) dX9_hearers_110 (am_okd rfl) rfl ?_
        refine rn_iload_n (x := (k : Int)) (q := 112) dX9_hearers_111 rfl rfl ?_
        refine rn_imulN (z := ((3 * k : Nat) : Int)) (q := 113) dX9_hearers_112 (by omega) (by unfold am_ok; omega) rfl ?_
        refine rn_ialdV (a := 103) (v := (s0 : Int)) (q := 114) dX9_hearers_113 rfl (by omega) (by omega) (show m 103 (3 * k) = _ by rw [h103, hc.1]; exact hs0) rfl ?_
        refine rn_iastV (a := 97) (m1 := am_up m 97 (h.1 + k) (s0 : Int)) (q := 115) dX9_hearers_114 rfl (by omega) (by omega) rfl rfl ?_
        refine rn_aload_n (x := 95) (q := 116) dX9_hearers_115 rfl rfl ?_
        refine rn_get (a := 95) (v := .inr (.inr 99)) (q := 119) dX9_hearers_116 fl_X9_16 rfl rfl rfl ?_
        refine rn_aload_n (x := 95) (q := 120) dX9_hearers_119 rfl rfl ?_
        refine rn_get (a := 95) (v := .inl ((h.1 + k : Nat) : Int)) (q := 123) dX9_hearers_120 fl_X9_113 rfl (am_gi h1) rfl ?_
        refine rn_aload_n (x := 95) (q := 124) dX9_hearers_123 rfl rfl ?_
        refine rn_get (a := 95) (v := .inr (.inr 104)) (q := 127) dX9_hearers_124 fl_X9_37 rfl rfl rfl ?_
        refine rn_iconst (q := 128) dX9_hearers_127 (am_okd rfl) rfl ?_
        refine rn_iload_n (x := (k : Int)) (q := 129) dX9_hearers_128 rfl rfl ?_
        refine rn_imulN (z := ((3 * k : Nat) : Int)) (q := 130) dX9_hearers_129 (by omega) (by unfold am_ok; omega) rfl ?_
        refine rn_iconst (q := 131) dX9_hearers_130 (am_okd rfl) rfl ?_
        refine rn_iaddN (z := (((3 * k) + 1 : Nat) : Int)) (q := 132) dX9_hearers_131 (by omega) (by unfold am_ok; omega) rfl ?_
        refine rn_ialdV (a := 103) (v := ((T.getD (4 * k + 1) 0 - 48 : Nat) : Int)) (q := 133) dX9_hearers_132 rfl (by omega) (by omega) (show m 103 (3 * k + 1) = _ by rw [h103]; exact hc.2.1) rfl ?_
        refine rn_iastV (a := 98) (m1 := am_up (am_up m 97 (h.1 + k) (s0 : Int)) 98 (h.1 + k) ((T.getD (4 * k + 1) 0 - 48 : Nat) : Int)) (q := 134) dX9_hearers_133 rfl (by omega) (by omega) rfl rfl ?_
        refine rn_aload_n (x := 95) (q := 135) dX9_hearers_134 rfl rfl ?_
        refine rn_get (a := 95) (v := .inr (.inr 100)) (q := 138) dX9_hearers_135 fl_X9_19 rfl rfl rfl ?_
        refine rn_aload_n (x := 95) (q := 139) dX9_hearers_138 rfl rfl ?_
        refine rn_get (a := 95) (v := .inl ((h.1 + k : Nat) : Int)) (q := 142) dX9_hearers_139 fl_X9_113 rfl (am_gi h1) rfl ?_
        refine rn_aload_n (x := 95) (q := 143) dX9_hearers_142 rfl rfl ?_
        refine rn_get (a := 95) (v := .inr (.inr 104)) (q := 146) dX9_hearers_143 fl_X9_37 rfl rfl rfl ?_
        refine rn_iconst (q := 147) dX9_hearers_146 (am_okd rfl) rfl ?_
        refine rn_iload_n (x := (k : Int)) (q := 148) dX9_hearers_147 rfl rfl ?_
        refine rn_imulN (z := ((3 * k : Nat) : Int)) (q := 149) dX9_hearers_148 (by omega) (by unfold am_ok; omega) rfl ?_
        refine rn_iconst (q := 150) dX9_hearers_149 (am_okd rfl) rfl ?_
        refine rn_iaddN (z := (((3 * k) + 2 : Nat) : Int)) (q := 151) dX9_hearers_150 (by omega) (by unfold am_ok; omega) rfl ?_
        refine rn_ialdV (a := 103) (v := ((T.getD (4 * k + 2) 0 - 48 : Nat) : Int)) (q := 152) dX9_hearers_151 rfl (by omega) (by omega) (show m 103 (3 * k + 2) = _ by rw [h103]; exact hc.2.2) rfl ?_
        refine rn_iastV (a := 99) (m1 := am_up (am_up (am_up m 97 (h.1 + k) (s0 : Int)) 98 (h.1 + k) ((T.getD (4 * k + 1) 0 - 48 : Nat) : Int)) 99 (h.1 + k) ((T.getD (4 * k + 2) 0 - 48 : Nat) : Int)) (q := 153) dX9_hearers_152 rfl (by omega) (by omega) rfl rfl ?_
        refine rn_aload_n (x := 95) (q := 154) dX9_hearers_153 rfl rfl ?_
        refine rn_get (a := 95) (v := .inr (.inr 97)) (q := 157) dX9_hearers_154 fl_X9_9 rfl rfl rfl ?_
        refine rn_aload_n (x := 95) (q := 158) dX9_hearers_157 rfl rfl ?_
        refine rn_get (a := 95) (v := .inl ((h.1 + k : Nat) : Int)) (q := 161) dX9_hearers_158 fl_X9_113 rfl (am_gi h1) rfl ?_
        refine rn_iconst (q := 162) dX9_hearers_161 (am_okd rfl) rfl ?_
        refine rn_iastV (a := 96) (m1 := am_up (am_up (am_up (am_up m 97 (h.1 + k) (s0 : Int)) 98 (h.1 + k) ((T.getD (4 * k + 1) 0 - 48 : Nat) : Int)) 99 (h.1 + k) ((T.getD (4 * k + 2) 0 - 48 : Nat) : Int)) 96 (h.1 + k) 0) (q := 163) dX9_hearers_162 rfl (by omega) (by omega) rfl rfl ?_
        refine rn_aload_n (x := 95) (q := 164) dX9_hearers_163 rfl rfl ?_
        refine rn_get (a := 95) (v := .inr (.inr 97)) (q := 167) dX9_hearers_164 fl_X9_9 rfl rfl rfl ?_
        refine rn_bipush (q := 169) dX9_hearers_167 ⟨by decide, by decide⟩ rfl ?_
        refine rn_aload_n (x := 95) (q := 170) dX9_hearers_169 rfl rfl ?_
        refine rn_get (a := 95) (v := .inl ((h.1 + k : Nat) : Int)) (q := 173) dX9_hearers_170 fl_X9_113 rfl (am_gi h1) rfl ?_
        refine rn_iaddN (z := ((8 + (h.1 + k) : Nat) : Int)) (q := 174) dX9_hearers_173 (by omega) (by unfold am_ok; omega) rfl ?_
        refine rn_iconst (q := 175) dX9_hearers_174 (am_okd rfl) rfl ?_
        refine rn_iastV (a := 96) (m1 := am_up (am_up (am_up (am_up (am_up m 97 (h.1 + k) (s0 : Int)) 98 (h.1 + k) ((T.getD (4 * k + 1) 0 - 48 : Nat) : Int)) 99 (h.1 + k) ((T.getD (4 * k + 2) 0 - 48 : Nat) : Int)) 96 (h.1 + k) 0) 96 (8 + (h.1 + k)) 0) (q := 176) dX9_hearers_175 rfl (by omega) (by omega) rfl rfl ?_
        refine rn_aload_n (x := 95) (q := 177) dX9_hearers_176 rfl rfl ?_
        refine rn_get (a := 95) (v := .inr (.inr 97)) (q := 180) dX9_hearers_177 fl_X9_9 rfl rfl rfl ?_
        refine rn_bipush (q := 182) dX9_hearers_180 ⟨by decide, by decide⟩ rfl ?_
        refine rn_aload_n (x := 95) (q := 183) dX9_hearers_182 rfl rfl ?_
        refine rn_get (a := 95) (v := .inl ((h.1 + k : Nat) : Int)) (q := 186) dX9_hearers_183 fl_X9_113 rfl (am_gi h1) rfl ?_
        refine rn_iaddN (z := ((16 + (h.1 + k) : Nat) : Int)) (q := 187) dX9_hearers_186 (by omega) (by unfold am_ok; omega) rfl ?_
        refine rn_iconst (q := 188) dX9_hearers_187 (am_okd rfl) rfl ?_
        refine rn_iastV (a := 96) (m1 := am_up (am_up (am_up (am_up (am_up (am_up m 97 (h.1 + k) (s0 : Int)) 98 (h.1 + k) ((T.getD (4 * k + 1) 0 - 48 : Nat) : Int)) 99 (h.1 + k) ((T.getD (4 * k + 2) 0 - 48 : Nat) : Int)) 96 (h.1 + k) 0) 96 (8 + (h.1 + k)) 0) 96 (16 + (h.1 + k)) 1) (q := 189) dX9_hearers_188 rfl (by omega) (by omega) rfl rfl ?_
        refine rn_aload_n (x := 95) (q := 190) dX9_hearers_189 rfl rfl ?_
        refine rn_dup (q := 191) dX9_hearers_190 rfl rfl ?_
        refine rn_get (a := 95) (v := .inl ((h.1 + k : Nat) : Int)) (q := 194) dX9_hearers_191 fl_X9_113 rfl (am_gi h1) rfl ?_
        refine rn_iconst (q := 195) dX9_hearers_194 (am_okd rfl) rfl ?_
        refine rn_iaddN (z := (((h.1 + k) + 1 : Nat) : Int)) (q := 196) dX9_hearers_195 (by omega) (by unfold am_ok; omega) rfl ?_
        refine rn_puti (a := 95) (q := 199) dX9_hearers_196 fl_X9_113 rfl rfl rfl rfl ?_
        refine rn_iincN (x := (k : Int)) (z := ((k + 1 : Nat) : Int)) (ls' := [some (.inr (.inr 96)), some (.inl (((T.length + 1) / 4 : Nat) : Int)), some (.inl 0), some (.inl ((k + 1 : Nat) : Int))]) (q := 202) dX9_hearers_199 rfl (by decide) (by omega) (by unfold am_ok; omega) rfl rfl ?_
        refine rn_goto (t := 93) dX9_hearers_202 rfl ?_
        refine ih (by omega) _ (DQ.push hq hn1 (by omega) a4 a5 hs0 rfl rfl) ?_ (fun j => h103 j) h8 h47m
        · exact ((((((hfm.up rfl).up rfl).up rfl).up rfl).up rfl).up rfl).up rfl
    refine rn_aload_n (x := 95) (q := 78) dX9_hearers_77 rfl rfl ?_
    refine rn_callV (b := 95) (as := []) (rest := []) (q := 81) dX9_hearers_78 ml_X9_165 sm_X9_wasRight rfl rfl (by decide) (by omega) rfl rfl (Nat.le_of_ble_eq_true rfl) rfl (s_wrY (d := d + 1) T.length h13 T.length (Nat.le_refl _)) ?_
    intro r78 mem78 hq78
    obtain ⟨rfl, rfl⟩ := hq78
    show am_Rn l G _ _ 81 [some (.inr (.inr 96)), some (.inl (((T.length + 1) / 4 : Nat) : Int)), some (.inl 0), none] [.inl 1] (aw M (T.length : Int) (-1)) _
    refine rn_ifne (t := 91) (q := 84) dX9_hearers_81 rfl rfl (fun w81 => ?_) (fun h => absurd h (by decide))
    refine rn_iconst (q := 92) dX9_hearers_91 (am_okd rfl) rfl ?_
    refine rn_istore_n (ls' := [some (.inr (.inr 96)), some (.inl (((T.length + 1) / 4 : Nat) : Int)), some (.inl 0), some (.inl 0)]) (q := 93) dX9_hearers_92 (by decide) rfl rfl ?_
    refine L2 0 (Nat.zero_le _) _ (q.setH ⟨q.hs.1, (hf2 95 1 rfl).trans q.hs.2.1, fun i hi => ⟨(hf2 97 i rfl).trans (q.sort hi), (hf2 98 i rfl).trans (q.want hi), (hf2 99 i rfl).trans (q.pay hi)⟩⟩ (q.es.kept (funext (fun i => hf2 96 i rfl))) q.eo f0) f0 (fun j => by rw [aw_ne (by decide)]) (hf2 95 8 rfl) (hf2 95 47 rfl)
  have L : ∀ n : Nat, n ≤ 8 → n + h.1 ≤ 8 → 0 < T.length → ∀ M : am_M, frS s9 (am_up mem 95 8 0) M → m_rd Z 101 T.length M → cmO T n M → (∀ j, j < 4 * n → j < Z.length ∧ fitL Z j) → am_Rn l G mt_X9_hearers (d + 4) 24 [some (.inr (.inr 96)), some (.inl (n : Int)), some (.inl 1), none] [] (aw M ((4 * n : Nat) : Int) (-1)) Q := by
    refine am_dn 8 (fun n hn ih hnh hpos M hf hr hcm hj => ?_)
    have h13 : M 95 13 = (T.length : Int) := hr.2.2.1
    have h95 : M 95 1 = (h.1 : Int) := (hf 95 1 rfl).trans q.n
    have hle : 4 * n ≤ Z.length := by
      by_cases h0 : n = 0
      · omega
      · have := (hj (4 * n - 1) (by omega)).1; omega
    have hroom : ∀ j, j < 4 * n → fitL Z j ∧ j / 4 + h.1 < 8 := fun j hj2 => ⟨(hj j hj2).2, by omega⟩
    by_cases hfull : h.1 + n = 8
    · refine rn_iload_n (x := 1) (q := 25) dX9_hearers_24 rfl rfl ?_
      refine rn_ifeq (t := 77) (q := 28) dX9_hearers_25 rfl rfl (fun h => absurd h (by decide)) (fun w25 => ?_)
      refine rn_aload_n (x := 95) (q := 29) dX9_hearers_28 rfl rfl ?_
      refine rn_callV (b := 95) (as := []) (rest := []) (q := 32) dX9_hearers_29 ml_X9_142 sm_X9_fine rfl rfl (by decide) (by omega) rfl rfl (Nat.le_of_ble_eq_true rfl) rfl (s_fineT (d := d + 3) ((4 * n : Nat) : Int)) ?_
      intro r29 mem29 hq29
      obtain ⟨rfl, rfl⟩ := hq29
      show am_Rn l G _ _ 32 [some (.inr (.inr 96)), some (.inl (n : Int)), some (.inl 1), none] [.inl 1] (aw M ((4 * n : Nat) : Int) (-1)) _
      refine rn_ifeq (t := 77) (q := 35) dX9_hearers_32 rfl rfl (fun h => absurd h (by decide)) (fun w32 => ?_)
      refine rn_aload_n (x := 95) (q := 36) dX9_hearers_35 rfl rfl ?_
      refine rn_get (a := 95) (v := .inl (h.1 : Int)) (q := 39) dX9_hearers_36 fl_X9_113 rfl (am_gi h95) rfl ?_
      refine rn_iload_n (x := (n : Int)) (q := 40) dX9_hearers_39 rfl rfl ?_
      refine rn_iaddN (z := ((h.1 + n : Nat) : Int)) (q := 41) dX9_hearers_40 (by omega) (by unfold am_ok; omega) rfl ?_
      refine rn_bipush (q := 43) dX9_hearers_41 ⟨by decide, by decide⟩ rfl ?_
      refine rn_cmpne (t := 57) (q := 46) dX9_hearers_43 rfl rfl (fun h => absurd h (by omega)) (fun w43 => ?_)
      refine rn_aload_n (x := 95) (q := 47) dX9_hearers_46 rfl rfl ?_
      refine rn_aload_n (x := 95) (q := 48) dX9_hearers_47 rfl rfl ?_
      refine rn_get (a := 95) (v := .inl ((4 * n : Nat) : Int)) (q := 51) dX9_hearers_48 fl_X9_132 rfl rfl rfl ?_
      refine rn_callV (b := 95) (as := [.inl ((4 * n : Nat) : Int)]) (rest := []) (q := 54) dX9_hearers_51 ml_X9_154 sm_X9_fault rfl rfl (by decide) (by omega) rfl rfl (Nat.le_of_ble_eq_true rfl) rfl (s_faultT (d := d + 2) ((4 * n : Nat) : Int) ((4 * n : Nat) : Int)) ?_
      intro r51 mem51 hq51
      obtain ⟨rfl, rfl⟩ := hq51
      show am_Rn l G _ _ 54 [some (.inr (.inr 96)), some (.inl (n : Int)), some (.inl 1), none] [] (aw M ((4 * n : Nat) : Int) ((4 * n : Nat) : Int)) _
      refine rn_goto (t := 64) dX9_hearers_54 rfl ?_
      refine rn_iincN (x := (n : Int)) (z := ((n + 1 : Nat) : Int)) (ls' := [some (.inr (.inr 96)), some (.inl ((n + 1 : Nat) : Int)), some (.inl 1), none]) (q := 67) dX9_hearers_64 rfl (by decide) (by omega) (by unfold am_ok; omega) rfl rfl ?_
      refine rn_aload_n (x := 95) (q := 68) dX9_hearers_67 rfl rfl ?_
      refine rn_bipush (q := 70) dX9_hearers_68 ⟨by decide, by decide⟩ rfl ?_
      refine rn_callV (b := 95) (as := [.inl 59]) (rest := []) (q := 73) dX9_hearers_70 ml_X9_150 sm_X9_passes rfl rfl (by decide) (by omega) rfl rfl (Nat.le_of_ble_eq_true rfl) rfl (s_passN (d := d + 2) hr (4 * n) ((4 * n : Nat) : Int) 59 (by omega) (fun z => by have := z.1; omega)) ?_
      intro r70 mem70 hq70
      obtain ⟨rfl, rfl⟩ := hq70
      show am_Rn l G _ _ 73 [some (.inr (.inr 96)), some (.inl ((n + 1 : Nat) : Int)), some (.inl 1), none] [.inl 0] (aw M ((4 * n : Nat) : Int) ((4 * n : Nat) : Int)) _
      refine rn_istore_n (ls' := [some (.inr (.inr 96)), some (.inl ((n + 1 : Nat) : Int)), some (.inl 0), none]) (q := 74) dX9_hearers_73 (by decide) rfl rfl ?_
      refine rn_goto (t := 24) dX9_hearers_74 rfl ?_
      refine rn_iload_n (x := 0) (q := 25) dX9_hearers_24 rfl rfl ?_
      refine rn_ifeq (t := 77) (q := 28) dX9_hearers_25 rfl rfl (fun w25 => ?_) (fun h => absurd h (by decide))
      exact B M (n + 1) (4 * n) (4 * n) _ hf h13 (Or.inr rfl) (by rw [hZ] at hle hroom; exact ln_mid hpos hle hroom (by omega) (fun _ z => by have := z.2; omega))
    · have GO : ∀ m2 : am_M, rmP Z n M m2 → am_Rn l G mt_X9_hearers (d + 4) 64 [some (.inr (.inr 96)), some (.inl (n : Int)), some (.inl 1), none] [] m2 Q := by
        intro m2 hg
        obtain ⟨M2, g1, g2, g3⟩ := hg
        have hf2 : frS s9 (am_up mem 95 8 0) M2 := hf.tr (fun b2 k2 hb2 => by rw [g1 b2 (fun e => by subst e; exact absurd hb2 (by simp [s9]))])
        have hr2 : m_rd Z 101 T.length M2 := ⟨hr.1, by rw [g1 95 (by decide)]; exact hr.2.1, by rw [g1 95 (by decide)]; exact hr.2.2.1, hr.2.2.2.1, by rw [g1 95 (by decide)]; exact hr.2.2.2.2.1, hr.2.2.2.2.2.1, fun i hi => by rw [g1 101 (by decide)]; exact hr.2.2.2.2.2.2 i hi⟩
        have h13b : M2 95 13 = (T.length : Int) := hr2.2.2.1
        rcases g3 with ⟨k1, k2, k3, k4, k5, rfl⟩ | ⟨p, a, k1, k2, k3, k4, k5, rfl⟩
        · have k20 := k2 0 (by decide)
          have k21 := k2 1 (by decide)
          have k22 := k2 2 (by decide)
          have hcm2 : cmO T (n + 1) M2 := by
            intro k hk
            by_cases hkn : k = n
            · subst hkn
              rw [← zg _ (by omega), ← zg _ (by omega), ← zg _ (by omega)]
              exact ⟨k3, k4, k5⟩
            · rw [g2 _ (by omega), g2 _ (by omega), g2 _ (by omega)]; exact hcm k (by omega)
          have hj3 : ∀ j, j < 4 * n + 3 → j < Z.length ∧ fitL Z j := by
            intro j hj2
            by_cases h4 : j < 4 * n
            · exact hj j h4
            · rcases (show j = 4 * n ∨ j = 4 * n + 1 ∨ j = 4 * n + 2 by omega) with rfl | rfl | rfl
              · exact ⟨by omega, k20⟩
              · exact ⟨by omega, k21⟩
              · exact ⟨by omega, k22⟩
          by_cases h59 : txAt Z ((4 * n + 3 : Nat) : Int) = 59
          · have i3 : 4 * n + 3 < Z.length := tx_in (by omega)
            have k23 : fitL Z (4 * n + 3) := by rw [fitL3 (by omega)]; have := txAt_n i3; omega
            refine rn_iincN (x := (n : Int)) (z := ((n + 1 : Nat) : Int)) (ls' := [some (.inr (.inr 96)), some (.inl ((n + 1 : Nat) : Int)), some (.inl 1), none]) (q := 67) dX9_hearers_64 rfl (by decide) (by omega) (by unfold am_ok; omega) rfl rfl ?_
            refine rn_aload_n (x := 95) (q := 68) dX9_hearers_67 rfl rfl ?_
            refine rn_bipush (q := 70) dX9_hearers_68 ⟨by decide, by decide⟩ rfl ?_
            refine rn_callV (b := 95) (as := [.inl 59]) (rest := []) (q := 73) dX9_hearers_70 ml_X9_150 sm_X9_passes rfl rfl (by decide) (by omega) rfl rfl (Nat.le_of_ble_eq_true rfl) rfl (s_passY (d := d + 2) hr2 (4 * n + 3) (-1) 59 (by omega) ⟨rfl, h59⟩) ?_
            intro r70 mem70 hq70
            obtain ⟨rfl, rfl⟩ := hq70
            show am_Rn l G _ _ 73 [some (.inr (.inr 96)), some (.inl ((n + 1 : Nat) : Int)), some (.inl 1), none] [.inl 1] (aw M2 ((4 * n + 3 + 1 : Nat) : Int) (-1)) _
            refine rn_istore_n (ls' := [some (.inr (.inr 96)), some (.inl ((n + 1 : Nat) : Int)), some (.inl 1), none]) (q := 74) dX9_hearers_73 (by decide) rfl rfl ?_
            refine rn_goto (t := 24) dX9_hearers_74 rfl ?_
            refine ih (by omega) (by omega) hpos M2 hf2 hr2 hcm2 (fun j hj2 => ?_)
            by_cases h4 : j < 4 * n + 3
            · exact hj3 j h4
            · obtain rfl : j = 4 * n + 3 := by omega
              exact ⟨i3, k23⟩
          · refine rn_iincN (x := (n : Int)) (z := ((n + 1 : Nat) : Int)) (ls' := [some (.inr (.inr 96)), some (.inl ((n + 1 : Nat) : Int)), some (.inl 1), none]) (q := 67) dX9_hearers_64 rfl (by decide) (by omega) (by unfold am_ok; omega) rfl rfl ?_
            refine rn_aload_n (x := 95) (q := 68) dX9_hearers_67 rfl rfl ?_
            refine rn_bipush (q := 70) dX9_hearers_68 ⟨by decide, by decide⟩ rfl ?_
            refine rn_callV (b := 95) (as := [.inl 59]) (rest := []) (q := 73) dX9_hearers_70 ml_X9_150 sm_X9_passes rfl rfl (by decide) (by omega) rfl rfl (Nat.le_of_ble_eq_true rfl) rfl (s_passN (d := d + 2) hr2 (4 * n + 3) (-1) 59 (by omega) (fun z => h59 z.2)) ?_
            intro r70 mem70 hq70
            obtain ⟨rfl, rfl⟩ := hq70
            show am_Rn l G _ _ 73 [some (.inr (.inr 96)), some (.inl ((n + 1 : Nat) : Int)), some (.inl 1), none] [.inl 0] (aw M2 ((4 * n + 3 : Nat) : Int) (-1)) _
            refine rn_istore_n (ls' := [some (.inr (.inr 96)), some (.inl ((n + 1 : Nat) : Int)), some (.inl 0), none]) (q := 74) dX9_hearers_73 (by decide) rfl rfl ?_
            refine rn_goto (t := 24) dX9_hearers_74 rfl ?_
            refine rn_iload_n (x := 0) (q := 25) dX9_hearers_24 rfl rfl ?_
            refine rn_ifeq (t := 77) (q := 28) dX9_hearers_25 rfl rfl (fun w25 => ?_) (fun h => absurd h (by decide))
            by_cases hlt : 4 * n + 3 < T.length
            · refine B M2 (n + 1) (4 * n + 3) (4 * n + 3) _ hf2 h13b (Or.inl ⟨rfl, hlt, rfl⟩) ⟨by omega, by omega, fun j hj2 => ⟨(zf j (by omega)).mp (hj3 j hj2).2, by omega⟩, ?_⟩
              by_cases h31 : 4 * n + 3 < 31
              · refine Or.inl ⟨hlt, h31, fun z => h59 ?_⟩
                have z1 := (zf _ h31).mpr z.1
                rw [fitL3 (by omega)] at z1
                rw [txAt_n (by omega)]; omega
              · exact Or.inr (Or.inr ⟨by omega, by omega⟩)
            · have e4 : n + 1 = (T.length + 1) / 4 := by omega
              have e5 : 4 * n + 3 = T.length := by omega
              rw [e5]
              rw [e4] at hcm2 ⊢
              exact Y M2 hf2 h13b ⟨by omega, by omega, fun j hj2 => ⟨(zf j (by omega)).mp (hj3 j (by omega)).2, by omega⟩⟩ (by omega) hcm2
        · have hple : p ≤ Z.length := by
            by_cases h0 : p = 4 * n
            · omega
            · have := (k3 (p - 1) (by omega) (by omega)).1; omega
          have hbad : lnBad T h.1 p := by
            rw [hZ] at hple hroom k3 k4
            refine ln_mid hpos hple (fun j hj2 => ?_) (by omega) (fun hp2 z => k4 ⟨hp2, z.1⟩)
            by_cases h4 : j < 4 * n
            · exact hroom j h4
            · exact ⟨(k3 j (by omega) hj2).2, by omega⟩
          refine rn_iincN (x := (n : Int)) (z := ((n + 1 : Nat) : Int)) (ls' := [some (.inr (.inr 96)), some (.inl ((n + 1 : Nat) : Int)), some (.inl 1), none]) (q := 67) dX9_hearers_64 rfl (by decide) (by omega) (by unfold am_ok; omega) rfl rfl ?_
          refine rn_aload_n (x := 95) (q := 68) dX9_hearers_67 rfl rfl ?_
          refine rn_bipush (q := 70) dX9_hearers_68 ⟨by decide, by decide⟩ rfl ?_
          refine rn_callV (b := 95) (as := [.inl 59]) (rest := []) (q := 73) dX9_hearers_70 ml_X9_150 sm_X9_passes rfl rfl (by decide) (by omega) rfl rfl (Nat.le_of_ble_eq_true rfl) rfl (s_passN (d := d + 2) hr2 a (p : Int) 59 (by omega) (fun z => by have := z.1; omega)) ?_
          intro r70 mem70 hq70
          obtain ⟨rfl, rfl⟩ := hq70
          show am_Rn l G _ _ 73 [some (.inr (.inr 96)), some (.inl ((n + 1 : Nat) : Int)), some (.inl 1), none] [.inl 0] (aw M2 (a : Int) (p : Int)) _
          refine rn_istore_n (ls' := [some (.inr (.inr 96)), some (.inl ((n + 1 : Nat) : Int)), some (.inl 0), none]) (q := 74) dX9_hearers_73 (by decide) rfl rfl ?_
          refine rn_goto (t := 24) dX9_hearers_74 rfl ?_
          refine rn_iload_n (x := 0) (q := 25) dX9_hearers_24 rfl rfl ?_
          refine rn_ifeq (t := 77) (q := 28) dX9_hearers_25 rfl rfl (fun w25 => ?_) (fun h => absurd h (by decide))
          exact B M2 (n + 1) a p _ hf2 h13b (Or.inr rfl) hbad
      refine rn_iload_n (x := 1) (q := 25) dX9_hearers_24 rfl rfl ?_
      refine rn_ifeq (t := 77) (q := 28) dX9_hearers_25 rfl rfl (fun h => absurd h (by decide)) (fun w25 => ?_)
      refine rn_aload_n (x := 95) (q := 29) dX9_hearers_28 rfl rfl ?_
      refine rn_callV (b := 95) (as := []) (rest := []) (q := 32) dX9_hearers_29 ml_X9_142 sm_X9_fine rfl rfl (by decide) (by omega) rfl rfl (Nat.le_of_ble_eq_true rfl) rfl (s_fineT (d := d + 3) ((4 * n : Nat) : Int)) ?_
      intro r29 mem29 hq29
      obtain ⟨rfl, rfl⟩ := hq29
      show am_Rn l G _ _ 32 [some (.inr (.inr 96)), some (.inl (n : Int)), some (.inl 1), none] [.inl 1] (aw M ((4 * n : Nat) : Int) (-1)) _
      refine rn_ifeq (t := 77) (q := 35) dX9_hearers_32 rfl rfl (fun h => absurd h (by decide)) (fun w32 => ?_)
      refine rn_aload_n (x := 95) (q := 36) dX9_hearers_35 rfl rfl ?_
      refine rn_get (a := 95) (v := .inl (h.1 : Int)) (q := 39) dX9_hearers_36 fl_X9_113 rfl (am_gi h95) rfl ?_
      refine rn_iload_n (x := (n : Int)) (q := 40) dX9_hearers_39 rfl rfl ?_
      refine rn_iaddN (z := ((h.1 + n : Nat) : Int)) (q := 41) dX9_hearers_40 (by omega) (by unfold am_ok; omega) rfl ?_
      refine rn_bipush (q := 43) dX9_hearers_41 ⟨by decide, by decide⟩ rfl ?_
      refine rn_cmpne (t := 57) (q := 46) dX9_hearers_43 rfl rfl (fun w43 => ?_) (fun h => absurd h (by omega))
      refine rn_aload_n (x := 95) (q := 58) dX9_hearers_57 rfl rfl ?_
      refine rn_iconst (q := 59) dX9_hearers_58 (am_okd rfl) rfl ?_
      refine rn_iload_n (x := (n : Int)) (q := 60) dX9_hearers_59 rfl rfl ?_
      refine rn_imulN (z := ((3 * n : Nat) : Int)) (q := 61) dX9_hearers_60 (by omega) (by unfold am_ok; omega) rfl ?_
      refine rn_callV (b := 95) (as := [.inl ((3 * n : Nat) : Int)]) (rest := []) (q := 64) dX9_hearers_61 ml_X9_172 sm_X9_readMan rfl rfl (by decide) (by omega) rfl rfl (Nat.le_of_ble_eq_true rfl) rfl (m_readMan (d := d + 0) hr n (by omega)) ?_
      intro r61 mem61 hq61
      obtain ⟨rfl, hg61⟩ := hq61
      show am_Rn l G _ _ 64 [some (.inr (.inr 96)), some (.inl (n : Int)), some (.inl 1), none] [] mem61 _
      exact GO _ hg61
  have hT1 : m_text T (am_up mem 95 11 0) := ⟨hT.1, hT.2⟩
  have fb : frS s9 (am_up mem 95 8 0) (am_up (bgn (am_up mem 95 11 0) 101 (T.length : Int) 31) 95 8 0) := by
    intro b k hb
    by_cases h95 : b = 95
    · subst h95
      unfold s9 at hb
      simp [ble_f] at hb
      rw [am_up_at, am_up_at]
      by_cases h8 : k = 8
      · rw [if_pos h8, if_pos h8]
      · rw [if_neg h8, if_neg h8, bgn_k (by omega) (by omega) (by omega), am_up_neq (by omega)]
    · rw [am_up_ne h95, am_up_ne h95, bgn_ne h95, am_up_ne h95]
  refine rn_aload_n (x := 95) (q := 1) dX9_hearers_0 rfl rfl ?_
  refine rn_iconst (q := 2) dX9_hearers_1 (am_okd rfl) rfl ?_
  refine rn_puti (a := 95) (q := 5) dX9_hearers_2 fl_X9_107 rfl rfl rfl rfl ?_
  refine rn_aload_n (x := 95) (q := 6) dX9_hearers_5 rfl rfl ?_
  refine rn_bipush (q := 8) dX9_hearers_6 ⟨by decide, by decide⟩ rfl ?_
  refine rn_callV (b := 95) (as := [.inl 31]) (rest := []) (q := 11) dX9_hearers_8 ml_X9_162 sm_X9_beginText rfl rfl (by decide) (by omega) rfl rfl (Nat.le_of_ble_eq_true rfl) rfl (s_beginText9 (d := d + 2) hT1 31) ?_
  intro r8 mem8 hq8
  obtain ⟨rfl, rfl⟩ := hq8
  show am_Rn l G _ _ 11 [some (.inr (.inr 96)), none, none, none] [] (aw (am_up (bgn (am_up mem 95 11 0) 101 (T.length : Int) 31) 95 8 0) 0 (-1)) _
  refine rn_aload_n (x := 95) (q := 12) dX9_hearers_11 rfl rfl ?_
  refine rn_get (a := 95) (v := .inl (T.length : Int)) (q := 15) dX9_hearers_12 fl_X9_126 rfl rfl rfl ?_
  refine rn_ifne (t := 20) (q := 18) dX9_hearers_15 rfl rfl (fun w15 => ?_) (fun w15 => ?_)
  · refine rn_iconst (q := 21) dX9_hearers_20 (am_okd rfl) rfl ?_
    refine rn_istore_n (ls' := [some (.inr (.inr 96)), some (.inl 0), none, none]) (q := 22) dX9_hearers_21 (by decide) rfl rfl ?_
    refine rn_iconst (q := 23) dX9_hearers_22 (am_okd rfl) rfl ?_
    refine rn_istore_n (ls' := [some (.inr (.inr 96)), some (.inl 0), some (.inl 1), none]) (q := 24) dX9_hearers_23 (by decide) rfl rfl ?_
    exact L 0 (Nat.zero_le _) (by omega) (by omega) _ fb (by rw [hZ]; exact rd_of hT 31 (by decide)) (fun j hj => absurd hj (Nat.not_lt_zero j)) (fun j hj => absurd hj (by omega))
  · refine rn_iconst (q := 19) dX9_hearers_18 (am_okd rfl) rfl ?_
    refine rn_iret dX9_hearers_19 rfl ?_
    exact hQ _ _ (Or.inl ⟨⟨by omega, Or.inl (by omega), fun j hj => by omega⟩, by omega, rfl, (fb.up (a := 95) (k := 15) (x := 0) rfl).up rfl⟩)
end P96
