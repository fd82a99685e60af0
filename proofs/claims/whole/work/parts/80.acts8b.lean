/-! acts of the class: nights, comes, hum, stake, gain, advance, undo -/
def s8a (b k : Nat) : Bool := s8r b k || (Nat.ble 16 b && Nat.ble b 18) || (Nat.ble 25 b && Nat.ble b 62)
def s9a (b k : Nat) : Bool := s9r b k || b == 96 || b == 107 || (b == 95 && k == 24)
theorem frS.a8 {a b : am_M} (h : frS s8r a b) : frS s8a a b := h.mono (fun x k hk => by unfold s8a at hk; simp at hk; exact hk.1.1)
theorem frS.a9 {a b : am_M} (h : frS s9r a b) : frS s9a a b := h.mono (fun x k hk => by unfold s9a at hk; simp at hk; exact hk.1.1.1)
def AC (v : Int) (e2 : est) (U : List est) (R : List Int) (mem : am_M) : Option am_V → am_M → Prop := fun q m => q = some (.inl v) ∧ c_est e2 16 m ∧ c_undo U m ∧ c_row R m ∧ frS s8a mem m
def AM (v : Int) (e2 : est) (U : List est) (R : List Int) (mem : am_M) : Option am_V → am_M → Prop := fun q m => q = some (.inl v) ∧ m_est e2 96 0 m ∧ m_undo U m ∧ m_row R m ∧ frS s9a mem m
theorem fr_ps.rf {r a : Nat} {m : am_M} : fr_ps r a m m := ⟨fun _ _ _ _ _ _ _ => rfl, fun _ _ => rfl⟩
theorem fr_ps.tr {r a : Nat} {x y z : am_M} (f : fr_ps r a x y) (g : fr_ps r a y z) : fr_ps r a x z := ⟨fun b h1 h2 h3 h4 h5 h6 => (g.1 b h1 h2 h3 h4 h5 h6).trans (f.1 b h1 h2 h3 h4 h5 h6), fun k h => (g.2 k h).trans (f.2 k h)⟩
theorem c_undo.keptU {U : List est} {a b : am_M} (q : c_undo U a) (f : ∀ x, 25 ≤ x → x ≤ 62 → b x = a x) : c_undo U b := by
  obtain ⟨q1, q2, p, q3, q4, q5⟩ := q
  refine ⟨by rw [f 25 (by decide) (by decide)]; exact q1, q2, p, fun j hj => by rw [f 26 (by decide) (by decide)]; exact q3 j hj, q4, fun j hj => ?_⟩
  have hp := pastL_est _ (q3 j (by omega)).2
  exact (q5 j hj).kept (f _ (by omega) (by omega)) (f _ (by omega) (by omega)) (f _ (by omega) (by omega))
theorem m_undo.keptU {U : List est} {a b : am_M} (q : m_undo U a) (f1 : b 107 = a 107) (f2 : b 95 24 = a 95 24) : m_undo U b := ⟨f2.trans q.1, q.2.1, fun j hj => (q.2.2 j hj).kept f1⟩
section P80
variable {l : Launch} {G : am_G} {d : Nat} {r : Nat} {X : List Nat} {C : List Int} {sn : Nat} {sg : Nat → Nat} {h : hrs} {e : est} {NB : Nat} {mem m : am_M}
variable {e2 : est} {U : List est}
theorem CQ.setE (q : CQ r X C sn sg h e NB mem) {NB2 : Nat} (hE : c_est e2 16 m) (he : e_ok h.1 NB2 e2) (hN : NB2 < 900000) (f : frS s8a mem m) : CQ r X C sn sg h e2 NB2 m := by
  obtain ⟨q1, q2, q3, q4, q5, q6, q7, q8⟩ := q
  have o := am_rul_or q1
  refine ⟨q1, (f 5 7 rfl).trans q2, q3, ⟨?_, fun i hi => ?_, q4.2.2⟩, ⟨(f 5 5 rfl).trans q5.1, q5.2.1, q5.2.2.1, q5.2.2.2.1, fun i hi => (f 6 i rfl).trans (q5.2.2.2.2 i hi)⟩, ⟨q6.1, (f 5 6 rfl).trans q6.2.1, fun i hi => ⟨(f 7 i rfl).trans (q6.2.2 i hi).1, (f 8 i rfl).trans (q6.2.2 i hi).2.1, (f 9 i rfl).trans (q6.2.2 i hi).2.2⟩⟩, hE, he, hN⟩
  · rcases o with rfl | rfl
    · exact (f 11 4 rfl).trans q4.1
    · exact (f 84 4 rfl).trans q4.1
  · rcases o with rfl | rfl
    · exact (f 12 i rfl).trans (q4.2.1 i hi)
    · exact (f 85 i rfl).trans (q4.2.1 i hi)
theorem fr_ps.to8a (hr : am_rul r) (f : fr_ps r 16 mem m) : frS s8a mem m := by
  have o := am_rul_or hr
  intro b k hb
  unfold s8a s8r s8 at hb
  simp [ble_f] at hb
  by_cases h5 : b = 5
  · subst h5
    by_cases hk : k < 8
    · exact f.2 k hk
    · exfalso; omega
  · rw [f.1 b h5 (by omega) (by omega) (by omega) (by omega) (by omega)]
theorem fr3.to8a (f : fr3 16 mem m) : frS s8a mem m := fun b k hb => by
  unfold s8a at hb
  simp [ble_f] at hb
  rw [f b (by omega) (by omega) (by omega)]
theorem fr_b19 (f : ∀ x, x ≠ 19 → x ≠ 20 → x ≠ 21 → m x = mem x) : frS s8 mem m := fun b k hb => by
  unfold s8 at hb
  simp [ble_f] at hb
  rw [f b (by omega) (by omega) (by omega)]
theorem fr_push (f : ∀ x, x < 25 ∨ 62 < x → m x = mem x) : frS s8a mem m := fun b k hb => by
  unfold s8a at hb
  simp [ble_f] at hb
  rw [f b (by omega)]
theorem c_copyB (q : CQ r X C sn sg h e NB mem) : am_Sm l G yX0_copy mt_X0_copy d [.inr (.inr 20), .inr (.inr 17)] mem (fun r m => r = none ∧ c_est e 19 m ∧ ∀ x, x ≠ 19 → x ≠ 20 → x ≠ 21 → m x = mem x) := s_copy (a := 19) (b := 16) (show 19 ∈ am_estL by decide) (show 16 ∈ am_estL by decide) (by decide) q.es
theorem s_popQ {b : Nat} (hU : c_undo U mem) (hb : am_est b) (hb2 : b + 2 < 25) : am_Sm l G yX2_pop mt_X2_pop (d + 1) [.inr (.inr 26), .inr (.inr (b + 1))] mem (fun r m => (U = [] ∧ r = some (.inl 0) ∧ mem = m) ∨ (U ≠ [] ∧ r = some (.inl 1) ∧ c_undo U.dropLast m ∧ c_est (U.getD (U.length - 1) est0) b m ∧ ∀ x, x ≠ b → x ≠ b + 1 → x ≠ b + 2 → x ≠ 25 → m x = mem x)) := by
  refine am_Sm_mono (s_pop hU hb hb2) (fun r m hq => ?_)
  rcases hq with ⟨a1, a2, a3⟩ | hq
  · exact Or.inl ⟨a1, a2, a3.symm⟩
  · exact Or.inr hq
theorem c_goOn (q : CQ r X C sn sg h e NB mem) (hN : NB + 60 < 900000) (n : Int) : am_Sm l G yX8_goOn mt_X8_goOn (d + 6) [.inr (.inr 1), .inr (.inr 17), .inl n] mem (fun q m => (¬ (0 ≤ n ∧ n ≤ 60) → q = some (.inl (-1)) ∧ mem = m) ∧ (0 ≤ n ∧ n ≤ 60 → q = some (.inl (eB (itE X h sn sg e n.toNat) : Int)) ∧ c_est (itE X h sn sg e n.toNat) 16 m ∧ fr_ps r 16 mem m)) := by
  refine am_enterQ (ls := [some (.inr (.inr 1)), some (.inr (.inr 17)), some (.inl n), none]) (by decide) rfl (Nat.le_of_ble_eq_true rfl) rfl (fun hok Q hQ => ?_)
  have b := q.bd
  have L : 0 ≤ n ∧ n ≤ 60 → ∀ i : Nat, i ≤ n.toNat → ∀ (m : am_M), fr_ps r 16 mem m → c_est (itE X h sn sg e i) 16 m → am_Rn l G mt_X8_goOn (d + 6) 14 [some (.inr (.inr 1)), some (.inr (.inr 17)), some (.inl n), some (.inl (i : Int))] [] m Q := by
    intro hn
    refine am_dn n.toNat (fun i hi ih m hf hE => ?_)
    have hqm := q.setE (NB2 := NB + i) hE (itE_ok q.eo i) (by omega) (fr_ps.to8a q.rul hf)
    refine rn_iload_n (x := (i : Int)) (q := 15) dX8_goOn_14 rfl rfl ?_
    refine rn_iload_n (x := n) (q := 16) dX8_goOn_15 rfl rfl ?_
    refine rn_cmpge (t := 40) (q := 19) dX8_goOn_16 rfl rfl (fun w16 => ?_) (fun w16 => ?_)
    · refine rn_aload_n (x := 16) (q := 41) dX8_goOn_40 rfl rfl ?_
      refine rn_get (a := 16) (v := .inl (eB (itE X h sn sg e i) : Int)) (q := 44) dX8_goOn_41 fl_X8_256 rfl (am_gi hE.2.2.2.2.1) rfl ?_
      refine rn_iret dX8_goOn_44 rfl ?_
      obtain rfl : i = n.toNat := by omega
      exact hQ _ _ ⟨fun h => absurd hn h, fun _ => ⟨rfl, hE, hf⟩⟩
    · refine rn_aload_n (x := 0) (q := 20) dX8_goOn_19 rfl rfl ?_
      refine rn_get (a := 0) (v := .inr (.inr 6)) (q := 23) dX8_goOn_20 fl_X8_26 rfl rfl rfl ?_
      refine rn_aload_n (x := 16) (q := 24) dX8_goOn_23 rfl rfl ?_
      refine rn_aload_n (x := 0) (q := 25) dX8_goOn_24 rfl rfl ?_
      refine rn_get (a := 0) (v := .inr (.inr 6)) (q := 28) dX8_goOn_25 fl_X8_26 rfl rfl rfl ?_
      refine rn_get (a := 5) (v := .inr (.inr (r + 1))) (q := 31) dX8_goOn_28 fl_X8_172 rfl (show Sum.inr (Sum.inr (m 5 7).toNat) = _ by rw [hqm.rl]; rfl) rfl ?_
      refine rn_callV (b := 5) (as := [.inr (.inr 17), .inr (.inr (r + 1))]) (rest := []) (q := 34) dX8_goOn_31 ml_X8_252 sm_X6_pass rfl rfl (by decide) (by omega) rfl rfl (Nat.le_of_ble_eq_true rfl) rfl (s_pass8 (d := d + 0) (a := 16) q.rul (show 16 ∈ am_estL by decide) q.ok hqm.cd hqm.sng hqm.hs (NB := NB + i) (by omega) (itE_ok q.eo i) hE) ?_
      intro r31 mem31 hq31
      obtain ⟨rfl, he31, -, hf31⟩ := hq31
      show am_Rn l G _ _ 34 [some (.inr (.inr 1)), some (.inr (.inr 17)), some (.inl n), some (.inl (i : Int))] [] mem31 _
      refine rn_iincN (x := (i : Int)) (z := ((i + 1 : Nat) : Int)) (ls' := [some (.inr (.inr 1)), some (.inr (.inr 17)), some (.inl n), some (.inl ((i + 1 : Nat) : Int))]) (q := 37) dX8_goOn_34 rfl (by decide) (by omega) (by unfold am_ok; omega) rfl rfl ?_
      refine rn_goto (t := 14) dX8_goOn_37 rfl ?_
      exact ih (by omega) _ (hf.tr hf31) he31
  refine rn_iload_n (x := n) (q := 1) dX8_goOn_0 rfl rfl ?_
  refine rn_iflt (t := 10) (q := 4) dX8_goOn_1 rfl rfl (fun w1 => ?_) (fun w1 => ?_)
  · refine rn_iconst (q := 11) dX8_goOn_10 (am_okd rfl) rfl ?_
    refine rn_iret dX8_goOn_11 rfl ?_
    exact hQ _ _ ⟨fun _ => ⟨rfl, rfl⟩, fun h => by omega⟩
  · refine rn_iload_n (x := n) (q := 5) dX8_goOn_4 rfl rfl ?_
    refine rn_bipush (q := 7) dX8_goOn_5 ⟨by decide, by decide⟩ rfl ?_
    refine rn_cmple (t := 12) (q := 10) dX8_goOn_7 rfl rfl (fun w7 => ?_) (fun w7 => ?_)
    · refine rn_iconst (q := 13) dX8_goOn_12 (am_okd rfl) rfl ?_
      refine rn_istore_n (ls' := [some (.inr (.inr 1)), some (.inr (.inr 17)), some (.inl n), some (.inl 0)]) (q := 14) dX8_goOn_13 (by decide) rfl rfl ?_
      exact L (by omega) 0 (Nat.zero_le _) mem fr_ps.rf q.es
    · refine rn_iconst (q := 11) dX8_goOn_10 (am_okd rfl) rfl ?_
      refine rn_iret dX8_goOn_11 rfl ?_
      exact hQ _ _ ⟨fun _ => ⟨rfl, rfl⟩, fun h => by omega⟩
theorem c_remembered (hU : c_undo U mem) (hB : c_est e2 19 mem) (v : Int) : am_Sm l G yX8_remembered mt_X8_remembered (d + 2) [.inr (.inr 1), .inl v] mem (fun q m => q = some (.inl v) ∧ (v < 0 → mem = m) ∧ (0 ≤ v → c_undo (pushU U e2) m ∧ ∀ x, x < 25 ∨ 62 < x → m x = mem x)) := by
  refine am_enterQ (ls := [some (.inr (.inr 1)), some (.inl v)]) (by decide) rfl (Nat.le_of_ble_eq_true rfl) rfl (fun hok Q hQ => ?_)
  refine rn_iload_n (x := v) (q := 1) dX8_remembered_0 rfl rfl ?_
  refine rn_iflt (t := 15) (q := 4) dX8_remembered_1 rfl rfl (fun w1 => ?_) (fun w1 => ?_)
  · refine rn_iload_n (x := v) (q := 16) dX8_remembered_15 rfl rfl ?_
    refine rn_iret dX8_remembered_16 rfl ?_
    first | exact hQ _ _ ⟨rfl, fun _ => rfl, fun z => by omega⟩ | exact hQ _ _ ⟨rfl, fun z => by omega, fun _ => ⟨hu12, hg12⟩⟩
  · refine rn_aload_n (x := 0) (q := 5) dX8_remembered_4 rfl rfl ?_
    refine rn_get (a := 0) (v := .inr (.inr 26)) (q := 8) dX8_remembered_5 fl_X8_46 rfl rfl rfl ?_
    refine rn_aload_n (x := 0) (q := 9) dX8_remembered_8 rfl rfl ?_
    refine rn_get (a := 0) (v := .inr (.inr 20)) (q := 12) dX8_remembered_9 fl_X8_37 rfl rfl rfl ?_
    refine rn_callV (b := 25) (as := [.inr (.inr 20)]) (rest := []) (q := 15) dX8_remembered_12 ml_X8_220 sm_X2_push rfl rfl (by decide) (by omega) rfl rfl (Nat.le_of_ble_eq_true rfl) rfl (s_push (d := d + 0) (b := 19) hU (show 19 ∈ am_estL by decide) (by decide) hB) ?_
    intro r12 mem12 hq12
    obtain ⟨rfl, hu12, hg12⟩ := hq12
    show am_Rn l G _ _ 15 [some (.inr (.inr 1)), some (.inl v)] [] mem12 _
    refine rn_iload_n (x := v) (q := 16) dX8_remembered_15 rfl rfl ?_
    refine rn_iret dX8_remembered_16 rfl ?_
    first | exact hQ _ _ ⟨rfl, fun _ => rfl, fun z => by omega⟩ | exact hQ _ _ ⟨rfl, fun z => by omega, fun _ => ⟨hu12, hg12⟩⟩
/-- what an act on now, with what was before, leaves -/
theorem act_end (q : CQ r X C sn sg h e NB mem) {R : List Int} (hR : c_row R mem) (hU : c_undo U mem) {m1 m2 m3 : am_M} {v : Int} {e2 : est} (h1 : c_est e 19 m1 ∧ ∀ x, x ≠ 19 → x ≠ 20 → x ≠ 21 → m1 x = mem x) (h2 : c_est e2 16 m2) (f2 : fr3 16 m1 m2) (h3 : (v < 0 → m2 = m3) ∧ (0 ≤ v → c_undo (pushU U e) m3 ∧ ∀ x, x < 25 ∨ 62 < x → m3 x = m2 x)) : AC v e2 (if 0 ≤ v then pushU U e else U) R mem (some (.inl v)) m3 := by
  have hu2 : c_undo U m2 := hU.keptU (fun x a1 a2 => by rw [f2 x (by omega) (by omega) (by omega), h1.2 x (by omega) (by omega) (by omega)])
  have hr2 : c_row R m2 := by
    have e3 : m2 3 = mem 3 := by rw [f2 3 (by decide) (by decide) (by decide), h1.2 3 (by decide) (by decide) (by decide)]
    have e4 : m2 4 = mem 4 := by rw [f2 4 (by decide) (by decide) (by decide), h1.2 4 (by decide) (by decide) (by decide)]
    exact ⟨by rw [e3]; exact hR.1, hR.2.1, fun i hi => by rw [e4]; exact hR.2.2 i hi⟩
  have fm : frS s8a mem m2 := (fr_b19 h1.2).r8.a8.tr f2.to8a
  by_cases hv : 0 ≤ v
  · rw [if_pos hv]
    obtain ⟨u3, g3⟩ := h3.2 hv
    exact ⟨rfl, h2.kept (g3 16 (by decide)) (g3 17 (by decide)) (g3 18 (by decide)), u3, ⟨by rw [g3 3 (by decide)]; exact hr2.1, hr2.2.1, fun i hi => by rw [g3 4 (by decide)]; exact hr2.2.2 i hi⟩, fm.tr (fr_push g3)⟩
  · rw [if_neg hv]
    have e3 := h3.1 (by omega)
    subst e3
    exact ⟨rfl, h2, hu2, hr2, fm⟩
theorem c_comes (q : CQ r X C sn sg h e NB mem) {R : List Int} (hR : c_row R mem) (hU : c_undo U mem) (i : Int) : am_Sm l G yX8_comes mt_X8_comes (d + 3) [.inr (.inr 1), .inl i] mem (AC (turnA h e i) (turnE h e i) (if 0 ≤ turnA h e i then pushU U e else U) R mem) := by
  refine am_enterQ (ls := [some (.inr (.inr 1)), some (.inl i)]) (by decide) rfl (Nat.le_of_ble_eq_true rfl) rfl (fun hok Q hQ => ?_)
  have b := q.bd
  refine rn_aload_n (x := 0) (q := 1) dX8_comes_0 rfl rfl ?_
  refine rn_get (a := 0) (v := .inr (.inr 20)) (q := 4) dX8_comes_1 fl_X8_37 rfl rfl rfl ?_
  refine rn_aload_n (x := 0) (q := 5) dX8_comes_4 rfl rfl ?_
  refine rn_get (a := 0) (v := .inr (.inr 17)) (q := 8) dX8_comes_5 fl_X8_33 rfl rfl rfl ?_
  refine rn_callV (b := 19) (as := [.inr (.inr 17)]) (rest := []) (q := 11) dX8_comes_8 ml_X8_212 sm_X0_copy rfl rfl (by decide) (by omega) rfl rfl (Nat.le_of_ble_eq_true rfl) rfl (c_copyB (d := d + 2) q) ?_
  intro r8 mem8 hq8
  obtain ⟨rfl, he8, hg8⟩ := hq8
  show am_Rn l G _ _ 11 [some (.inr (.inr 1)), some (.inl i)] [] mem8 _
  refine rn_aload_n (x := 0) (q := 12) dX8_comes_11 rfl rfl ?_
  refine rn_aload_n (x := 0) (q := 13) dX8_comes_12 rfl rfl ?_
  refine rn_aload_n (x := 0) (q := 14) dX8_comes_13 rfl rfl ?_
  refine rn_get (a := 0) (v := .inr (.inr 17)) (q := 17) dX8_comes_14 fl_X8_33 rfl rfl rfl ?_
  refine rn_iload_n (x := i) (q := 18) dX8_comes_17 rfl rfl ?_
  refine rn_callV (b := 0) (as := [.inr (.inr 17), .inl i]) (rest := [.inr (.inr 1)]) (q := 21) dX8_comes_18 ml_X8_233 sm_X8_turn rfl rfl (by decide) (by omega) rfl rfl (Nat.le_of_ble_eq_true rfl) rfl (c_turn (d := d + 1) (q.kept ((fr_b19 hg8).r8)) (show 16 ∈ am_estL by decide) (q.kept ((fr_b19 hg8).r8)).es (by omega) i) ?_
  intro r18 mem18 hq18
  obtain ⟨rfl, he18, hg18⟩ := hq18
  show am_Rn l G _ _ 21 [some (.inr (.inr 1)), some (.inl i)] [.inl (turnA h e i), .inr (.inr 1)] mem18 _
  refine rn_callV (b := 0) (as := [.inl (turnA h e i)]) (rest := []) (q := 24) dX8_comes_21 ml_X8_236 sm_X8_remembered rfl rfl (by decide) (by omega) rfl rfl (Nat.le_of_ble_eq_true rfl) rfl (c_remembered (d := d + 0) (e2 := e) (hU.keptU (fun x a1 a2 => by rw [hg18 x (by omega) (by omega) (by omega), hg8 x (by omega) (by omega) (by omega)])) (he8.kept (hg18 19 (by decide) (by decide) (by decide)) (hg18 20 (by decide) (by decide) (by decide)) (hg18 21 (by decide) (by decide) (by decide))) (turnA h e i)) ?_
  intro r21 mem21 hq21
  obtain ⟨rfl, h321⟩ := hq21
  show am_Rn l G _ _ 24 [some (.inr (.inr 1)), some (.inl i)] [.inl (turnA h e i)] mem21 _
  refine rn_iret dX8_comes_24 rfl ?_
  exact hQ _ _ (act_end q hR hU ⟨he8, hg8⟩ he18 hg18 h321)
theorem c_hum (q : CQ r X C sn sg h e NB mem) {R : List Int} (hR : c_row R mem) (hU : c_undo U mem) (i n : Int) : am_Sm l G yX8_hum mt_X8_hum (d + 3) [.inr (.inr 1), .inl i, .inl n] mem (fun q m => ∃ v e3, humP h e i n v e3 ∧ AC v e3 (if 0 ≤ v then pushU U e else U) R mem q m) := by
  refine am_enterQ (ls := [some (.inr (.inr 1)), some (.inl i), some (.inl n)]) (by decide) rfl (Nat.le_of_ble_eq_true rfl) rfl (fun hok Q hQ => ?_)
  have b := q.bd
  refine rn_aload_n (x := 0) (q := 1) dX8_hum_0 rfl rfl ?_
  refine rn_get (a := 0) (v := .inr (.inr 20)) (q := 4) dX8_hum_1 fl_X8_37 rfl rfl rfl ?_
  refine rn_aload_n (x := 0) (q := 5) dX8_hum_4 rfl rfl ?_
  refine rn_get (a := 0) (v := .inr (.inr 17)) (q := 8) dX8_hum_5 fl_X8_33 rfl rfl rfl ?_
  refine rn_callV (b := 19) (as := [.inr (.inr 17)]) (rest := []) (q := 11) dX8_hum_8 ml_X8_212 sm_X0_copy rfl rfl (by decide) (by omega) rfl rfl (Nat.le_of_ble_eq_true rfl) rfl (c_copyB (d := d + 2) q) ?_
  intro r8 mem8 hq8
  obtain ⟨rfl, he8, hg8⟩ := hq8
  show am_Rn l G _ _ 11 [some (.inr (.inr 1)), some (.inl i), some (.inl n)] [] mem8 _
  refine rn_aload_n (x := 0) (q := 12) dX8_hum_11 rfl rfl ?_
  refine rn_aload_n (x := 0) (q := 13) dX8_hum_12 rfl rfl ?_
  refine rn_aload_n (x := 0) (q := 14) dX8_hum_13 rfl rfl ?_
  refine rn_get (a := 0) (v := .inr (.inr 17)) (q := 17) dX8_hum_14 fl_X8_33 rfl rfl rfl ?_
  refine rn_iload_n (x := i) (q := 18) dX8_hum_17 rfl rfl ?_
  refine rn_iload_n (x := n) (q := 19) dX8_hum_18 rfl rfl ?_
  refine rn_callV (b := 0) (as := [.inr (.inr 17), .inl i, .inl n]) (rest := [.inr (.inr 1)]) (q := 22) dX8_hum_19 ml_X8_239 sm_X8_surcharge rfl rfl (by decide) (by omega) rfl rfl (Nat.le_of_ble_eq_true rfl) rfl (c_surcharge (d := d + 1) (q.kept ((fr_b19 hg8).r8)) (show 16 ∈ am_estL by decide) (q.kept ((fr_b19 hg8).r8)).es (q.kept ((fr_b19 hg8).r8)).eo i n) ?_
  intro r19 mem19 hq19
  obtain ⟨v, e3, rfl, hp, he19, hg19⟩ := hq19
  show am_Rn l G _ _ 22 [some (.inr (.inr 1)), some (.inl i), some (.inl n)] [.inl v, .inr (.inr 1)] mem19 _
  refine rn_callV (b := 0) (as := [.inl v]) (rest := []) (q := 25) dX8_hum_22 ml_X8_236 sm_X8_remembered rfl rfl (by decide) (by omega) rfl rfl (Nat.le_of_ble_eq_true rfl) rfl (c_remembered (d := d + 0) (e2 := e) (hU.keptU (fun x a1 a2 => by rw [hg19 x (by omega) (by omega) (by omega), hg8 x (by omega) (by omega) (by omega)])) (he8.kept (hg19 19 (by decide) (by decide) (by decide)) (hg19 20 (by decide) (by decide) (by decide)) (hg19 21 (by decide) (by decide) (by decide))) v) ?_
  intro r22 mem22 hq22
  obtain ⟨rfl, h322⟩ := hq22
  show am_Rn l G _ _ 25 [some (.inr (.inr 1)), some (.inl i), some (.inl n)] [.inl v] mem22 _
  refine rn_iret dX8_hum_25 rfl ?_
  exact hQ _ _ ⟨v, e3, hp, act_end q hR hU ⟨he8, hg8⟩ he19 hg19 h322⟩
theorem c_stake (q : CQ r X C sn sg h e NB mem) {R : List Int} (hR : c_row R mem) (hU : c_undo U mem) (n : Int) : am_Sm l G yX8_stake mt_X8_stake (d + 3) [.inr (.inr 1), .inl n] mem (fun q m => ∃ v e3, wagP e n v e3 ∧ AC v e3 (if 0 ≤ v then pushU U e else U) R mem q m) := by
  refine am_enterQ (ls := [some (.inr (.inr 1)), some (.inl n)]) (by decide) rfl (Nat.le_of_ble_eq_true rfl) rfl (fun hok Q hQ => ?_)
  have b := q.bd
  refine rn_aload_n (x := 0) (q := 1) dX8_stake_0 rfl rfl ?_
  refine rn_get (a := 0) (v := .inr (.inr 20)) (q := 4) dX8_stake_1 fl_X8_37 rfl rfl rfl ?_
  refine rn_aload_n (x := 0) (q := 5) dX8_stake_4 rfl rfl ?_
  refine rn_get (a := 0) (v := .inr (.inr 17)) (q := 8) dX8_stake_5 fl_X8_33 rfl rfl rfl ?_
  refine rn_callV (b := 19) (as := [.inr (.inr 17)]) (rest := []) (q := 11) dX8_stake_8 ml_X8_212 sm_X0_copy rfl rfl (by decide) (by omega) rfl rfl (Nat.le_of_ble_eq_true rfl) rfl (c_copyB (d := d + 2) q) ?_
  intro r8 mem8 hq8
  obtain ⟨rfl, he8, hg8⟩ := hq8
  show am_Rn l G _ _ 11 [some (.inr (.inr 1)), some (.inl n)] [] mem8 _
  refine rn_aload_n (x := 0) (q := 12) dX8_stake_11 rfl rfl ?_
  refine rn_aload_n (x := 0) (q := 13) dX8_stake_12 rfl rfl ?_
  refine rn_aload_n (x := 0) (q := 14) dX8_stake_13 rfl rfl ?_
  refine rn_get (a := 0) (v := .inr (.inr 17)) (q := 17) dX8_stake_14 fl_X8_33 rfl rfl rfl ?_
  refine rn_iload_n (x := n) (q := 18) dX8_stake_17 rfl rfl ?_
  refine rn_callV (b := 0) (as := [.inr (.inr 17), .inl n]) (rest := [.inr (.inr 1)]) (q := 21) dX8_stake_18 ml_X8_243 sm_X8_wager rfl rfl (by decide) (by omega) rfl rfl (Nat.le_of_ble_eq_true rfl) rfl (c_wager (d := d + 2) (show 16 ∈ am_estL by decide) (q.kept ((fr_b19 hg8).r8)).es (by omega) (by omega) n) ?_
  intro r18 mem18 hq18
  obtain ⟨v, e3, rfl, hp, he18, hg18⟩ := hq18
  show am_Rn l G _ _ 21 [some (.inr (.inr 1)), some (.inl n)] [.inl v, .inr (.inr 1)] mem18 _
  refine rn_callV (b := 0) (as := [.inl v]) (rest := []) (q := 24) dX8_stake_21 ml_X8_236 sm_X8_remembered rfl rfl (by decide) (by omega) rfl rfl (Nat.le_of_ble_eq_true rfl) rfl (c_remembered (d := d + 0) (e2 := e) (hU.keptU (fun x a1 a2 => by rw [hg18 x (by omega) (by omega) (by omega), hg8 x (by omega) (by omega) (by omega)])) (he8.kept (hg18 19 (by decide) (by decide) (by decide)) (hg18 20 (by decide) (by decide) (by decide)) (hg18 21 (by decide) (by decide) (by decide))) v) ?_
  intro r21 mem21 hq21
  obtain ⟨rfl, h321⟩ := hq21
  show am_Rn l G _ _ 24 [some (.inr (.inr 1)), some (.inl n)] [.inl v] mem21 _
  refine rn_iret dX8_stake_24 rfl ?_
  exact hQ _ _ ⟨v, e3, hp, act_end q hR hU ⟨he8, hg8⟩ he18 hg18 h321⟩
theorem c_advance (q : CQ r X C sn sg h e NB mem) {R : List Int} (hR : c_row R mem) (hU : c_undo U mem) (n : Int) : am_Sm l G yX8_advance mt_X8_advance (d + 3) [.inr (.inr 1), .inl n] mem (fun q m => ∃ v e3, hanP e n v e3 ∧ AC v e3 (if 0 ≤ v then pushU U e else U) R mem q m) := by
  refine am_enterQ (ls := [some (.inr (.inr 1)), some (.inl n)]) (by decide) rfl (Nat.le_of_ble_eq_true rfl) rfl (fun hok Q hQ => ?_)
  have b := q.bd
  refine rn_aload_n (x := 0) (q := 1) dX8_advance_0 rfl rfl ?_
  refine rn_get (a := 0) (v := .inr (.inr 20)) (q := 4) dX8_advance_1 fl_X8_37 rfl rfl rfl ?_
  refine rn_aload_n (x := 0) (q := 5) dX8_advance_4 rfl rfl ?_
  refine rn_get (a := 0) (v := .inr (.inr 17)) (q := 8) dX8_advance_5 fl_X8_33 rfl rfl rfl ?_
  refine rn_callV (b := 19) (as := [.inr (.inr 17)]) (rest := []) (q := 11) dX8_advance_8 ml_X8_212 sm_X0_copy rfl rfl (by decide) (by omega) rfl rfl (Nat.le_of_ble_eq_true rfl) rfl (c_copyB (d := d + 2) q) ?_
  intro r8 mem8 hq8
  obtain ⟨rfl, he8, hg8⟩ := hq8
  show am_Rn l G _ _ 11 [some (.inr (.inr 1)), some (.inl n)] [] mem8 _
  refine rn_aload_n (x := 0) (q := 12) dX8_advance_11 rfl rfl ?_
  refine rn_aload_n (x := 0) (q := 13) dX8_advance_12 rfl rfl ?_
  refine rn_aload_n (x := 0) (q := 14) dX8_advance_13 rfl rfl ?_
  refine rn_get (a := 0) (v := .inr (.inr 17)) (q := 17) dX8_advance_14 fl_X8_33 rfl rfl rfl ?_
  refine rn_iload_n (x := n) (q := 18) dX8_advance_17 rfl rfl ?_
  refine rn_callV (b := 0) (as := [.inr (.inr 17), .inl n]) (rest := [.inr (.inr 1)]) (q := 21) dX8_advance_18 ml_X8_249 sm_X8_handOver rfl rfl (by decide) (by omega) rfl rfl (Nat.le_of_ble_eq_true rfl) rfl (c_handOver (d := d + 2) (show 16 ∈ am_estL by decide) (q.kept ((fr_b19 hg8).r8)).es (by omega) n) ?_
  intro r18 mem18 hq18
  obtain ⟨v, e3, rfl, hp, he18, hg18⟩ := hq18
  show am_Rn l G _ _ 21 [some (.inr (.inr 1)), some (.inl n)] [.inl v, .inr (.inr 1)] mem18 _
  refine rn_callV (b := 0) (as := [.inl v]) (rest := []) (q := 24) dX8_advance_21 ml_X8_236 sm_X8_remembered rfl rfl (by decide) (by omega) rfl rfl (Nat.le_of_ble_eq_true rfl) rfl (c_remembered (d := d + 0) (e2 := e) (hU.keptU (fun x a1 a2 => by rw [hg18 x (by omega) (by omega) (by omega), hg8 x (by omega) (by omega) (by omega)])) (he8.kept (hg18 19 (by decide) (by decide) (by decide)) (hg18 20 (by decide) (by decide) (by decide)) (hg18 21 (by decide) (by decide) (by decide))) v) ?_
  intro r21 mem21 hq21
  obtain ⟨rfl, h321⟩ := hq21
  show am_Rn l G _ _ 24 [some (.inr (.inr 1)), some (.inl n)] [.inl v] mem21 _
  refine rn_iret dX8_advance_24 rfl ?_
  exact hQ _ _ ⟨v, e3, hp, act_end q hR hU ⟨he8, hg8⟩ he18 hg18 h321⟩
theorem c_gain (q : CQ r X C sn sg h e NB mem) {R : List Int} (hR : c_row R mem) (hU : c_undo U mem) (v : Int) : am_Sm l G yX8_gain mt_X8_gain (d + 3) [.inr (.inr 1), .inl v] mem (fun q m => (¬ (-5 ≤ v ∧ v ≤ 5) → AC (-1) e U R mem q m) ∧ (-5 ≤ v ∧ v ≤ 5 → AC (10 + eG e) (eH e, eS e, eP e, eN e, eB e, eM e, eK e, v) (pushU U e) R mem q m)) := by
  refine am_enterQ (ls := [some (.inr (.inr 1)), some (.inl v)]) (by decide) rfl (Nat.le_of_ble_eq_true rfl) rfl (fun hok Q hQ => ?_)
  have b := q.bd
  refine rn_iload_n (x := v) (q := 1) dX8_gain_0 rfl rfl ?_
  refine rn_bipush (q := 3) dX8_gain_1 ⟨by decide, by decide⟩ rfl ?_
  refine rn_cmplt (t := 11) (q := 6) dX8_gain_3 rfl rfl (fun w3 => ?_) (fun w3 => ?_)
  · refine rn_iconst (q := 12) dX8_gain_11 (am_okd rfl) rfl ?_
    refine rn_iret dX8_gain_12 rfl ?_
    exact hQ _ _ ⟨fun _ => ⟨rfl, q.es, hU, hR, frS.rf⟩, fun z => by omega⟩
  · refine rn_iload_n (x := v) (q := 7) dX8_gain_6 rfl rfl ?_
    refine rn_iconst (q := 8) dX8_gain_7 (am_okd rfl) rfl ?_
    refine rn_cmple (t := 13) (q := 11) dX8_gain_8 rfl rfl (fun w8 => ?_) (fun w8 => ?_)
    · refine rn_aload_n (x := 0) (q := 14) dX8_gain_13 rfl rfl ?_
      refine rn_get (a := 0) (v := .inr (.inr 20)) (q := 17) dX8_gain_14 fl_X8_37 rfl rfl rfl ?_
      refine rn_aload_n (x := 0) (q := 18) dX8_gain_17 rfl rfl ?_
      refine rn_get (a := 0) (v := .inr (.inr 17)) (q := 21) dX8_gain_18 fl_X8_33 rfl rfl rfl ?_
      refine rn_callV (b := 19) (as := [.inr (.inr 17)]) (rest := []) (q := 24) dX8_gain_21 ml_X8_212 sm_X0_copy rfl rfl (by decide) (by omega) rfl rfl (Nat.le_of_ble_eq_true rfl) rfl (c_copyB (d := d + 2) q) ?_
      intro r21 mem21 hq21
      obtain ⟨rfl, he21, hg21⟩ := hq21
      show am_Rn l G _ _ 24 [some (.inr (.inr 1)), some (.inl v)] [] mem21 _
      refine rn_aload_n (x := 0) (q := 25) dX8_gain_24 rfl rfl ?_
      refine rn_get (a := 0) (v := .inr (.inr 17)) (q := 28) dX8_gain_25 fl_X8_33 rfl rfl rfl ?_
      refine rn_iload_n (x := v) (q := 29) dX8_gain_28 rfl rfl ?_
      refine rn_puti (a := 16) (q := 32) dX8_gain_29 fl_X8_246 rfl rfl rfl rfl ?_
      refine rn_aload_n (x := 0) (q := 33) dX8_gain_32 rfl rfl ?_
      refine rn_bipush (q := 35) dX8_gain_33 ⟨by decide, by decide⟩ rfl ?_
      refine rn_aload_n (x := 0) (q := 36) dX8_gain_35 rfl rfl ?_
      refine rn_get (a := 0) (v := .inr (.inr 20)) (q := 39) dX8_gain_36 fl_X8_37 rfl rfl rfl ?_
      refine rn_get (a := 19) (v := .inl (eG e)) (q := 42) dX8_gain_39 fl_X8_246 rfl (am_gi he21.2.2.2.2.2.2.2) rfl ?_
      refine rn_iaddN (z := (10 + (eG e))) (q := 43) dX8_gain_42 rfl (by unfold am_ok; omega) rfl ?_
      refine rn_callV (b := 0) (as := [.inl (10 + (eG e))]) (rest := []) (q := 46) dX8_gain_43 ml_X8_236 sm_X8_remembered rfl rfl (by decide) (by omega) rfl rfl (Nat.le_of_ble_eq_true rfl) rfl (c_remembered (d := d + 0) (mem := am_up mem21 16 7 v) (e2 := e) (hU.keptU (b := am_up mem21 16 7 v) (fun x a1 a2 => by rw [am_up_ne (by omega), hg21 x (by omega) (by omega) (by omega)])) (he21.kept (m2 := am_up mem21 16 7 v) rfl rfl rfl) (10 + (eG e))) ?_
      intro r43 mem43 hq43
      obtain ⟨rfl, h343⟩ := hq43
      show am_Rn l G _ _ 46 [some (.inr (.inr 1)), some (.inl v)] [.inl (10 + (eG e))] mem43 _
      refine rn_iret dX8_gain_46 rfl ?_
      have hA := act_end (v := 10 + eG e) (m2 := am_up mem21 16 7 v) (e2 := (eH e, eS e, eP e, eN e, eB e, eM e, eK e, v)) q hR hU ⟨he21, hg21⟩ ⟨fun j hj => by show mem21 17 j = _; rw [hg21 17 (by decide) (by decide) (by decide)]; exact q.hd hj, fun j hj => by show mem21 18 j = _; rw [hg21 18 (by decide) (by decide) (by decide)]; exact q.sc hj, by show mem21 16 2 = _; rw [hg21 16 (by decide) (by decide) (by decide)]; exact q.pr, by show mem21 16 3 = _; rw [hg21 16 (by decide) (by decide) (by decide)]; exact q.nt, by show mem21 16 4 = _; rw [hg21 16 (by decide) (by decide) (by decide)]; exact q.bk, by show mem21 16 5 = _; rw [hg21 16 (by decide) (by decide) (by decide)]; exact q.mn, by show mem21 16 6 = _; rw [hg21 16 (by decide) (by decide) (by decide)]; exact q.sk, rfl⟩ (fun b2 a1 _ _ => am_up_ne a1) h343
      rw [if_pos (by omega)] at hA
      exact hQ _ _ ⟨fun z => absurd (by omega) z, fun _ => hA⟩
    · refine rn_iconst (q := 12) dX8_gain_11 (am_okd rfl) rfl ?_
      refine rn_iret dX8_gain_12 rfl ?_
      exact hQ _ _ ⟨fun _ => ⟨rfl, q.es, hU, hR, frS.rf⟩, fun z => by omega⟩
theorem c_nights (q : CQ r X C sn sg h e NB mem) {R : List Int} (hR : c_row R mem) (hU : c_undo U mem) (hN : NB + 60 < 900000) (n : Int) : am_Sm l G yX8_nights mt_X8_nights (d + 7) [.inr (.inr 1), .inl n] mem (fun q m => (¬ (0 ≤ n ∧ n ≤ 60) → AC (-1) e U R mem q m) ∧ (0 ≤ n ∧ n ≤ 60 → AC (eB (itE X h sn sg e n.toNat) : Int) (itE X h sn sg e n.toNat) (if 0 < n then pushU U e else U) [(eM (itE X h sn sg e n.toNat) : Int) - (eM e : Int), (eK (itE X h sn sg e n.toNat) : Int)] mem q m)) := by
  refine am_enterQ (ls := [some (.inr (.inr 1)), some (.inl n), none]) (by decide) rfl (Nat.le_of_ble_eq_true rfl) rfl (fun hok Q hQ => ?_)
  have b := q.bd
  by_cases hn : 0 ≤ n ∧ n ≤ 60
  · have io := itE_ok (X := X) (sn := sn) (sg := sg) q.eo n.toNat
    have io1 := io.2.2.2.2.2.1
    have io2 := io.2.2.2.2.2.2.1
    have o := am_rul_or q.rul
    have ps : ∀ m1 m2 : am_M, fr_ps r 16 m1 m2 → ∀ x, (19 ≤ x ∧ x ≤ 62) → m2 x = m1 x := fun m1 m2 f x hx => f.1 x (by omega) (by omega) (by omega) (by omega) (by omega) (by omega)
    refine rn_aload_n (x := 0) (q := 1) dX8_nights_0 rfl rfl ?_
    refine rn_get (a := 0) (v := .inr (.inr 20)) (q := 4) dX8_nights_1 fl_X8_37 rfl rfl rfl ?_
    refine rn_aload_n (x := 0) (q := 5) dX8_nights_4 rfl rfl ?_
    refine rn_get (a := 0) (v := .inr (.inr 17)) (q := 8) dX8_nights_5 fl_X8_33 rfl rfl rfl ?_
    refine rn_callV (b := 19) (as := [.inr (.inr 17)]) (rest := []) (q := 11) dX8_nights_8 ml_X8_212 sm_X0_copy rfl rfl (by decide) (by omega) rfl rfl (Nat.le_of_ble_eq_true rfl) rfl (c_copyB (d := d + 6) q) ?_
    intro r8 mem8 hq8
    obtain ⟨rfl, he8, hg8⟩ := hq8
    show am_Rn l G _ _ 11 [some (.inr (.inr 1)), some (.inl n), none] [] mem8 _
    refine rn_aload_n (x := 0) (q := 12) dX8_nights_11 rfl rfl ?_
    refine rn_aload_n (x := 0) (q := 13) dX8_nights_12 rfl rfl ?_
    refine rn_get (a := 0) (v := .inr (.inr 17)) (q := 16) dX8_nights_13 fl_X8_33 rfl rfl rfl ?_
    refine rn_iload_n (x := n) (q := 17) dX8_nights_16 rfl rfl ?_
    refine rn_callV (b := 0) (as := [.inr (.inr 17), .inl n]) (rest := []) (q := 20) dX8_nights_17 ml_X8_216 sm_X8_goOn rfl rfl (by decide) (by omega) rfl rfl (Nat.le_of_ble_eq_true rfl) rfl (c_goOn (d := d + 0) (q.kept ((fr_b19 hg8).r8)) hN n) ?_
    intro r17 mem17 hq17
    obtain ⟨rfl, he17, hf17⟩ := hq17.2 hn
    show am_Rn l G _ _ 20 [some (.inr (.inr 1)), some (.inl n), none] [.inl (eB (itE X h sn sg e n.toNat) : Int)] mem17 _
    refine rn_istore_n (ls' := [some (.inr (.inr 1)), some (.inl n), some (.inl (eB (itE X h sn sg e n.toNat) : Int))]) (q := 21) dX8_nights_20 (by decide) rfl rfl ?_
    refine rn_iload_n (x := (eB (itE X h sn sg e n.toNat) : Int)) (q := 22) dX8_nights_21 rfl rfl ?_
    refine rn_ifge (t := 27) (q := 25) dX8_nights_22 rfl rfl (fun w22 => ?_) (fun h => absurd h (by omega))
    refine rn_iload_n (x := n) (q := 28) dX8_nights_27 rfl rfl ?_
    refine rn_ifle (t := 42) (q := 31) dX8_nights_28 rfl rfl (fun w28 => ?_) (fun w28 => ?_)
    · refine rn_aload_n (x := 0) (q := 43) dX8_nights_42 rfl rfl ?_
      refine rn_get (a := 0) (v := .inr (.inr 4)) (q := 46) dX8_nights_43 fl_X8_19 rfl rfl rfl ?_
      refine rn_aload_n (x := 0) (q := 47) dX8_nights_46 rfl rfl ?_
      refine rn_get (a := 0) (v := .inr (.inr 17)) (q := 50) dX8_nights_47 fl_X8_33 rfl rfl rfl ?_
      refine rn_get (a := 16) (v := .inl (eM (itE X h sn sg e n.toNat) : Int)) (q := 53) dX8_nights_50 fl_X8_223 rfl (am_gi he17.2.2.2.2.2.1) rfl ?_
      refine rn_aload_n (x := 0) (q := 54) dX8_nights_53 rfl rfl ?_
      refine rn_get (a := 0) (v := .inr (.inr 20)) (q := 57) dX8_nights_54 fl_X8_37 rfl rfl rfl ?_
      refine rn_get (a := 19) (v := .inl (eM e : Int)) (q := 60) dX8_nights_57 fl_X8_223 rfl (am_gi (he8.kept (ps _ _ hf17 19 (by omega)) (ps _ _ hf17 20 (by omega)) (ps _ _ hf17 21 (by omega))).2.2.2.2.2.1) rfl ?_
      refine rn_isubN (z := ((eM (itE X h sn sg e n.toNat) : Int) - (eM e : Int))) (q := 61) dX8_nights_60 rfl (by unfold am_ok; omega) rfl ?_
      refine rn_i2l (q := 62) dX8_nights_61 rfl ?_
      refine rn_aload_n (x := 0) (q := 63) dX8_nights_62 rfl rfl ?_
      refine rn_get (a := 0) (v := .inr (.inr 17)) (q := 66) dX8_nights_63 fl_X8_33 rfl rfl rfl ?_
      refine rn_get (a := 16) (v := .inl (eK (itE X h sn sg e n.toNat) : Int)) (q := 69) dX8_nights_66 fl_X8_226 rfl (am_gi he17.2.2.2.2.2.2.1) rfl ?_
      refine rn_i2l (q := 70) dX8_nights_69 rfl ?_
      refine rn_callV (b := 3) (as := [.inr (.inl ((eM (itE X h sn sg e n.toNat) : Int) - (eM e : Int))), .inr (.inl (eK (itE X h sn sg e n.toNat) : Int))]) (rest := []) (q := 73) dX8_nights_70 ml_X8_229 sm_X3_tell_ rfl rfl (by decide) (by omega) rfl rfl (Nat.le_of_ble_eq_true rfl) rfl (s_Rtell2 (d := d + 5) ((eM (itE X h sn sg e n.toNat) : Int) - (eM e : Int)) (eK (itE X h sn sg e n.toNat) : Int)) ?_
      intro r70 mem70 hq70
      obtain ⟨rfl, hr70, hf70⟩ := hq70
      show am_Rn l G _ _ 73 [some (.inr (.inr 1)), some (.inl n), some (.inl (eB (itE X h sn sg e n.toNat) : Int))] [] mem70 _
      refine rn_iload_n (x := (eB (itE X h sn sg e n.toNat) : Int)) (q := 74) dX8_nights_73 rfl rfl ?_
      refine rn_iret dX8_nights_74 rfl ?_
      have fm : frS s8a mem mem17 := (fr_b19 hg8).r8.a8.tr (fr_ps.to8a q.rul hf17)
      first | exact hQ _ _ ⟨fun z => absurd hn z, fun _ => by rw [if_pos (by omega)]; exact ⟨rfl, he17.kept ((hf70 16 (by decide) (by decide)).trans (hg39 16 (by decide))) ((hf70 17 (by decide) (by decide)).trans (hg39 17 (by decide))) ((hf70 18 (by decide) (by decide)).trans (hg39 18 (by decide))), hu39.keptU (fun x a1 a2 => hf70 x (by omega) (by omega)), hr70, (fm.tr (fr_push hg39)).tr (fr_row hf70).a8⟩⟩ | exact hQ _ _ ⟨fun z => absurd hn z, fun _ => by rw [if_neg (by omega)]; exact ⟨rfl, he17.kept (hf70 16 (by decide) (by decide)) (hf70 17 (by decide) (by decide)) (hf70 18 (by decide) (by decide)), (hU.keptU (fun x a1 a2 => by rw [ps _ _ hf17 x (by omega), hg8 x (by omega) (by omega) (by omega)])).keptU (fun x a1 a2 => hf70 x (by omega) (by omega)), hr70, fm.tr (fr_row hf70).a8⟩⟩
    · refine rn_aload_n (x := 0) (q := 32) dX8_nights_31 rfl rfl ?_
      refine rn_get (a := 0) (v := .inr (.inr 26)) (q := 35) dX8_nights_32 fl_X8_46 rfl rfl rfl ?_
      refine rn_aload_n (x := 0) (q := 36) dX8_nights_35 rfl rfl ?_
      refine rn_get (a := 0) (v := .inr (.inr 20)) (q := 39) dX8_nights_36 fl_X8_37 rfl rfl rfl ?_
      refine rn_callV (b := 25) (as := [.inr (.inr 20)]) (rest := []) (q := 42) dX8_nights_39 ml_X8_220 sm_X2_push rfl rfl (by decide) (by omega) rfl rfl (Nat.le_of_ble_eq_true rfl) rfl (s_push (d := d + 5) (b := 19) (hU.keptU (fun x a1 a2 => by rw [ps _ _ hf17 x (by omega), hg8 x (by omega) (by omega) (by omega)])) (show 19 ∈ am_estL by decide) (by decide) (he8.kept (ps _ _ hf17 19 (by omega)) (ps _ _ hf17 20 (by omega)) (ps _ _ hf17 21 (by omega)))) ?_
      intro r39 mem39 hq39
      obtain ⟨rfl, hu39, hg39⟩ := hq39
      show am_Rn l G _ _ 42 [some (.inr (.inr 1)), some (.inl n), some (.inl (eB (itE X h sn sg e n.toNat) : Int))] [] mem39 _
      refine rn_aload_n (x := 0) (q := 43) dX8_nights_42 rfl rfl ?_
      refine rn_get (a := 0) (v := .inr (.inr 4)) (q := 46) dX8_nights_43 fl_X8_19 rfl rfl rfl ?_
      refine rn_aload_n (x := 0) (q := 47) dX8_nights_46 rfl rfl ?_
      refine rn_get (a := 0) (v := .inr (.inr 17)) (q := 50) dX8_nights_47 fl_X8_33 rfl rfl rfl ?_
      refine rn_get (a := 16) (v := .inl (eM (itE X h sn sg e n.toNat) : Int)) (q := 53) dX8_nights_50 fl_X8_223 rfl (am_gi ((congrFun (hg39 16 (by decide)) 5).trans he17.2.2.2.2.2.1)) rfl ?_
      refine rn_aload_n (x := 0) (q := 54) dX8_nights_53 rfl rfl ?_
      refine rn_get (a := 0) (v := .inr (.inr 20)) (q := 57) dX8_nights_54 fl_X8_37 rfl rfl rfl ?_
      refine rn_get (a := 19) (v := .inl (eM e : Int)) (q := 60) dX8_nights_57 fl_X8_223 rfl (am_gi ((congrFun (hg39 19 (by decide)) 5).trans (he8.kept (ps _ _ hf17 19 (by omega)) (ps _ _ hf17 20 (by omega)) (ps _ _ hf17 21 (by omega))).2.2.2.2.2.1)) rfl ?_
      refine rn_isubN (z := ((eM (itE X h sn sg e n.toNat) : Int) - (eM e : Int))) (q := 61) dX8_nights_60 rfl (by unfold am_ok; omega) rfl ?_
      refine rn_i2l (q := 62) dX8_nights_61 rfl ?_
      refine rn_aload_n (x := 0) (q := 63) dX8_nights_62 rfl rfl ?_
      refine rn_get (a := 0) (v := .inr (.inr 17)) (q := 66) dX8_nights_63 fl_X8_33 rfl rfl rfl ?_
      refine rn_get (a := 16) (v := .inl (eK (itE X h sn sg e n.toNat) : Int)) (q := 69) dX8_nights_66 fl_X8_226 rfl (am_gi ((congrFun (hg39 16 (by decide)) 6).trans he17.2.2.2.2.2.2.1)) rfl ?_
      refine rn_i2l (q := 70) dX8_nights_69 rfl ?_
      refine rn_callV (b := 3) (as := [.inr (.inl ((eM (itE X h sn sg e n.toNat) : Int) - (eM e : Int))), .inr (.inl (eK (itE X h sn sg e n.toNat) : Int))]) (rest := []) (q := 73) dX8_nights_70 ml_X8_229 sm_X3_tell_ rfl rfl (by decide) (by omega) rfl rfl (Nat.le_of_ble_eq_true rfl) rfl (s_Rtell2 (d := d + 5) ((eM (itE X h sn sg e n.toNat) : Int) - (eM e : Int)) (eK (itE X h sn sg e n.toNat) : Int)) ?_
      intro r70 mem70 hq70
      obtain ⟨rfl, hr70, hf70⟩ := hq70
      show am_Rn l G _ _ 73 [some (.inr (.inr 1)), some (.inl n), some (.inl (eB (itE X h sn sg e n.toNat) : Int))] [] mem70 _
      refine rn_iload_n (x := (eB (itE X h sn sg e n.toNat) : Int)) (q := 74) dX8_nights_73 rfl rfl ?_
      refine rn_iret dX8_nights_74 rfl ?_
      have fm : frS s8a mem mem17 := (fr_b19 hg8).r8.a8.tr (fr_ps.to8a q.rul hf17)
      first | exact hQ _ _ ⟨fun z => absurd hn z, fun _ => by rw [if_pos (by omega)]; exact ⟨rfl, he17.kept ((hf70 16 (by decide) (by decide)).trans (hg39 16 (by decide))) ((hf70 17 (by decide) (by decide)).trans (hg39 17 (by decide))) ((hf70 18 (by decide) (by decide)).trans (hg39 18 (by decide))), hu39.keptU (fun x a1 a2 => hf70 x (by omega) (by omega)), hr70, (fm.tr (fr_push hg39)).tr (fr_row hf70).a8⟩⟩ | exact hQ _ _ ⟨fun z => absurd hn z, fun _ => by rw [if_neg (by omega)]; exact ⟨rfl, he17.kept (hf70 16 (by decide) (by decide)) (hf70 17 (by decide) (by decide)) (hf70 18 (by decide) (by decide)), (hU.keptU (fun x a1 a2 => by rw [ps _ _ hf17 x (by omega), hg8 x (by omega) (by omega) (by omega)])).keptU (fun x a1 a2 => hf70 x (by omega) (by omega)), hr70, fm.tr (fr_row hf70).a8⟩⟩
  · refine rn_aload_n (x := 0) (q := 1) dX8_nights_0 rfl rfl ?_
    refine rn_get (a := 0) (v := .inr (.inr 20)) (q := 4) dX8_nights_1 fl_X8_37 rfl rfl rfl ?_
    refine rn_aload_n (x := 0) (q := 5) dX8_nights_4 rfl rfl ?_
    refine rn_get (a := 0) (v := .inr (.inr 17)) (q := 8) dX8_nights_5 fl_X8_33 rfl rfl rfl ?_
    refine rn_callV (b := 19) (as := [.inr (.inr 17)]) (rest := []) (q := 11) dX8_nights_8 ml_X8_212 sm_X0_copy rfl rfl (by decide) (by omega) rfl rfl (Nat.le_of_ble_eq_true rfl) rfl (c_copyB (d := d + 6) q) ?_
    intro r8 mem8 hq8
    obtain ⟨rfl, he8, hg8⟩ := hq8
    show am_Rn l G _ _ 11 [some (.inr (.inr 1)), some (.inl n), none] [] mem8 _
    refine rn_aload_n (x := 0) (q := 12) dX8_nights_11 rfl rfl ?_
    refine rn_aload_n (x := 0) (q := 13) dX8_nights_12 rfl rfl ?_
    refine rn_get (a := 0) (v := .inr (.inr 17)) (q := 16) dX8_nights_13 fl_X8_33 rfl rfl rfl ?_
    refine rn_iload_n (x := n) (q := 17) dX8_nights_16 rfl rfl ?_
    refine rn_callV (b := 0) (as := [.inr (.inr 17), .inl n]) (rest := []) (q := 20) dX8_nights_17 ml_X8_216 sm_X8_goOn rfl rfl (by decide) (by omega) rfl rfl (Nat.le_of_ble_eq_true rfl) rfl (c_goOn (d := d + 0) (q.kept ((fr_b19 hg8).r8)) hN n) ?_
    intro r17 mem17 hq17
    obtain ⟨rfl, rfl⟩ := hq17.1 hn
    show am_Rn l G _ _ 20 [some (.inr (.inr 1)), some (.inl n), none] [.inl (-1)] mem8 _
    refine rn_istore_n (ls' := [some (.inr (.inr 1)), some (.inl n), some (.inl (-1))]) (q := 21) dX8_nights_20 (by decide) rfl rfl ?_
    refine rn_iload_n (x := (-1)) (q := 22) dX8_nights_21 rfl rfl ?_
    refine rn_ifge (t := 27) (q := 25) dX8_nights_22 rfl rfl (fun h => absurd h (by decide)) (fun w22 => ?_)
    refine rn_iconst (q := 26) dX8_nights_25 (am_okd rfl) rfl ?_
    refine rn_iret dX8_nights_26 rfl ?_
    exact hQ _ _ ⟨fun _ => ⟨rfl, q.es.kept (hg8 16 (by decide) (by decide) (by decide)) (hg8 17 (by decide) (by decide) (by decide)) (hg8 18 (by decide) (by decide) (by decide)), hU.keptU (fun x a1 a2 => hg8 x (by omega) (by omega) (by omega)), hR.kept (fr_b19 hg8), (fr_b19 hg8).r8.a8⟩, fun z => absurd z hn⟩
theorem c_undoC (q : CQ r X C sn sg h e NB mem) {R : List Int} (hR : c_row R mem) (hU : c_undo U mem) : am_Sm l G yX8_undo mt_X8_undo (d + 2) [.inr (.inr 1)] mem (fun q m => (U = [] → AC (-1) e U R mem q m) ∧ (U ≠ [] → AC ((U.length : Int) - 1) (U.getD (U.length - 1) est0) U.dropLast R mem q m)) := by
  refine am_enterQ (ls := [some (.inr (.inr 1))]) (by decide) rfl (Nat.le_of_ble_eq_true rfl) rfl (fun hok Q hQ => ?_)
  refine rn_aload_n (x := 0) (q := 1) dX8_undo_0 rfl rfl ?_
  refine rn_get (a := 0) (v := .inr (.inr 26)) (q := 4) dX8_undo_1 fl_X8_46 rfl rfl rfl ?_
  refine rn_aload_n (x := 0) (q := 5) dX8_undo_4 rfl rfl ?_
  refine rn_get (a := 0) (v := .inr (.inr 17)) (q := 8) dX8_undo_5 fl_X8_33 rfl rfl rfl ?_
  refine rn_callV (b := 25) (as := [.inr (.inr 17)]) (rest := []) (q := 11) dX8_undo_8 ml_X8_278 sm_X2_pop rfl rfl (by decide) (by omega) rfl rfl (Nat.le_of_ble_eq_true rfl) rfl (s_popQ (d := d + 0) (b := 16) hU (show 16 ∈ am_estL by decide) (by decide)) ?_
  intro r8 mem8 hq8
  obtain ⟨hn, rfl, rfl⟩ | ⟨hn, rfl, hu8, he8, hg8⟩ := hq8
  · show am_Rn l G _ _ 11 [some (.inr (.inr 1))] [.inl 0] mem _
    refine rn_ifeq (t := 24) (q := 14) dX8_undo_11 rfl rfl (fun w11 => ?_) (fun h => absurd h (by decide))
    refine rn_iconst (q := 25) dX8_undo_24 (am_okd rfl) rfl ?_
    refine rn_iret dX8_undo_25 rfl ?_
    first | exact hQ _ _ ⟨fun _ => ⟨rfl, q.es, hU, hR, frS.rf⟩, fun z => absurd hn z⟩ | exact hQ _ _ ⟨fun z => absurd z hn, fun _ => ⟨rfl, he8, hu8, ⟨by rw [hg8 3 (by decide) (by decide) (by decide) (by decide)]; exact hR.1, hR.2.1, fun i hi => by rw [hg8 4 (by decide) (by decide) (by decide) (by decide)]; exact hR.2.2 i hi⟩, fun b2 k hb => by unfold s8a at hb; simp [ble_f] at hb; rw [hg8 b2 (by omega) (by omega) (by omega) (by omega)]⟩⟩
  · show am_Rn l G _ _ 11 [some (.inr (.inr 1))] [.inl 1] mem8 _
    refine rn_ifeq (t := 24) (q := 14) dX8_undo_11 rfl rfl (fun h => absurd h (by decide)) (fun w11 => ?_)
    refine rn_aload_n (x := 0) (q := 15) dX8_undo_14 rfl rfl ?_
    refine rn_get (a := 0) (v := .inr (.inr 26)) (q := 18) dX8_undo_15 fl_X8_46 rfl rfl rfl ?_
    refine rn_get (a := 25) (v := .inl ((U.length : Int) - 1)) (q := 21) dX8_undo_18 fl_X8_129 rfl (am_gi (show mem8 25 1 = (U.length : Int) - 1 by rw [hu8.1, List.length_dropLast]; have := List.length_pos_iff.mpr hn; omega)) rfl ?_
    refine rn_goto (t := 25) dX8_undo_21 rfl ?_
    refine rn_iret dX8_undo_25 rfl ?_
    first | exact hQ _ _ ⟨fun _ => ⟨rfl, q.es, hU, hR, frS.rf⟩, fun z => absurd hn z⟩ | exact hQ _ _ ⟨fun z => absurd z hn, fun _ => ⟨rfl, he8, hu8, ⟨by rw [hg8 3 (by decide) (by decide) (by decide) (by decide)]; exact hR.1, hR.2.1, fun i hi => by rw [hg8 4 (by decide) (by decide) (by decide) (by decide)]; exact hR.2.2 i hi⟩, fun b2 k hb => by unfold s8a at hb; simp [ble_f] at hb; rw [hg8 b2 (by omega) (by omega) (by omega) (by omega)]⟩⟩
end P80
