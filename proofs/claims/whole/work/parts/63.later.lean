/-! tonight, later, enough, hears -/
theorem c_code.kept {r : Nat} {C : List Int} {a b : am_M} (hr : am_rul r) (q : c_code r C a) (f : frS s8 a b) : c_code r C b := by
  have o := am_rul_or hr
  refine ⟨?_, fun i hi => ?_, q.2.2⟩
  · rcases o with rfl | rfl
    · exact (f 11 4 rfl).trans q.1
    · exact (f 84 4 rfl).trans q.1
  · rcases o with rfl | rfl
    · exact (f 12 i rfl).trans (q.2.1 i hi)
    · exact (f 85 i rfl).trans (q.2.1 i hi)
theorem fr_n9.rf {arr : Nat} {mem : am_M} : fr_n9 arr mem mem := ⟨fun _ _ _ _ _ _ => rfl, fun _ _ _ _ => rfl⟩
theorem fr_n9.tr {arr : Nat} {a b c : am_M} (f : fr_n9 arr a b) (g : fr_n9 arr b c) : fr_n9 arr a c := ⟨fun x h1 h2 h3 h4 h5 => (g.1 x h1 h2 h3 h4 h5).trans (f.1 x h1 h2 h3 h4 h5), fun k h1 h2 h3 => (g.2 k h1 h2 h3).trans (f.2 k h1 h2 h3)⟩
def srch (P : Nat → Bool) : Nat → Nat → Option Nat
  | 0, _ => none
  | f + 1, k => if P k = true then some k else srch P f (k + 1)
def srA (o : Option Nat) : Int := match o with
  | some k => (k : Int)
  | none => -2
def srR (R : List Int) (f : Nat → Nat) (o : Option Nat) : List Int := match o with
  | some k => [(f k : Int)]
  | none => R
section P63
variable {l : Launch} {G : am_G} {d : Nat} {r : Nat} {X : List Nat} {C : List Int} {sn : Nat} {sg : Nat → Nat} {h : hrs} {e : est} {NB : Nat} {mem m : am_M}
theorem m_tellB {L : List Int} (hr : m_row L mem) (hl : L.length < 9) (x : Int) : am_Sm l G yX9_tell mt_X9_tell d [.inr (.inr 96), .inr (.inl x)] mem (fun q m => q = none ∧ m_row (L ++ [x]) m ∧ frS s9r mem m ∧ ∀ k, k ≠ 10 → m 95 k = mem 95 k) := by
  refine am_Sm_mono (s_tell9 L.length (by omega) hr.1 x) (fun r m hq => ?_)
  obtain ⟨rfl, rfl⟩ := hq
  refine ⟨rfl, ⟨?_, by simp; omega, fun i hi => ?_⟩, (frS.rf.up rfl).up rfl, fun k h3 => ?_⟩
  · rw [am_up_self]; simp
  · rw [lg_app hi]
    show am_up mem 102 L.length x 102 i = _
    rw [am_up_at]
    by_cases e : i = L.length
    · rw [if_pos e, if_pos e]
    · rw [if_neg e, if_neg e]; exact hr.2.2 i (by simp at hi; omega)
  · rw [am_up_neq h3, am_up_ne (by decide)]
theorem c_tonight (q : CQ r X C sn sg h e NB mem) : am_Sm l G yX8_tonight mt_X8_tonight (d + 5) [.inr (.inr 1)] mem (QC (pH (mvE X h sn sg e) (eP e) (wE sn sg e) h.1 : Int) [pD (mvE X h sn sg e) (eP e) (wE sn sg e) h.2.2.2 h.1, pL (mvE X h sn sg e) (eP e) (wE sn sg e) h.1] mem) := by
  refine am_enterQ (ls := [some (.inr (.inr 1))]) (by decide) rfl (Nat.le_of_ble_eq_true rfl) rfl (fun hok Q hQ => ?_)
  have b := q.bd
  refine rn_aload_n (x := 0) (q := 1) dX8_tonight_0 rfl rfl ?_
  refine rn_get (a := 0) (v := .inr (.inr 6)) (q := 4) dX8_tonight_1 fl_X8_26 rfl rfl rfl ?_
  refine rn_aload_n (x := 0) (q := 5) dX8_tonight_4 rfl rfl ?_
  refine rn_get (a := 0) (v := .inr (.inr 17)) (q := 8) dX8_tonight_5 fl_X8_33 rfl rfl rfl ?_
  refine rn_aload_n (x := 0) (q := 9) dX8_tonight_8 rfl rfl ?_
  refine rn_get (a := 0) (v := .inr (.inr 17)) (q := 12) dX8_tonight_9 fl_X8_33 rfl rfl rfl ?_
  refine rn_get (a := 16) (v := .inl (eP e : Int)) (q := 15) dX8_tonight_12 fl_X8_165 rfl (am_gi q.pr) rfl ?_
  refine rn_aload_n (x := 0) (q := 16) dX8_tonight_15 rfl rfl ?_
  refine rn_get (a := 0) (v := .inr (.inr 6)) (q := 19) dX8_tonight_16 fl_X8_26 rfl rfl rfl ?_
  refine rn_get (a := 5) (v := .inr (.inr (r + 1))) (q := 22) dX8_tonight_19 fl_X8_172 rfl (show Sum.inr (Sum.inr (mem 5 7).toNat) = _ by rw [q.rl]; rfl) rfl ?_
  refine rn_callV (b := 5) (as := [.inr (.inr 17), .inl (eP e : Int), .inr (.inr (r + 1))]) (rest := []) (q := 25) dX8_tonight_22 ml_X8_282 sm_X6_part rfl rfl (by decide) (by omega) rfl rfl (Nat.le_of_ble_eq_true rfl) rfl (c_partQ (d := d + 0) q (eP e) (by omega)) ?_
  intro r22 mem22 hq22
  obtain ⟨rfl, hf22, hp22, hd22, hl22, hv22⟩ := hq22
  show am_Rn l G _ _ 25 [some (.inr (.inr 1))] [] mem22 _
  refine rn_aload_n (x := 0) (q := 26) dX8_tonight_25 rfl rfl ?_
  refine rn_get (a := 0) (v := .inr (.inr 4)) (q := 29) dX8_tonight_26 fl_X8_19 rfl rfl rfl ?_
  refine rn_aload_n (x := 0) (q := 30) dX8_tonight_29 rfl rfl ?_
  refine rn_get (a := 0) (v := .inr (.inr 6)) (q := 33) dX8_tonight_30 fl_X8_26 rfl rfl rfl ?_
  refine rn_get (a := 5) (v := .inl (pD (mvK X h sn sg e (eP e)) (eP e) (wE sn sg e) h.2.2.2 h.1)) (q := 36) dX8_tonight_33 fl_X8_286 rfl (am_gi hd22) rfl ?_
  refine rn_i2l (q := 37) dX8_tonight_36 rfl ?_
  refine rn_aload_n (x := 0) (q := 38) dX8_tonight_37 rfl rfl ?_
  refine rn_get (a := 0) (v := .inr (.inr 6)) (q := 41) dX8_tonight_38 fl_X8_26 rfl rfl rfl ?_
  refine rn_get (a := 5) (v := .inl (pL (mvK X h sn sg e (eP e)) (eP e) (wE sn sg e) h.1)) (q := 44) dX8_tonight_41 fl_X8_289 rfl (am_gi hl22) rfl ?_
  refine rn_i2l (q := 45) dX8_tonight_44 rfl ?_
  refine rn_callV (b := 3) (as := [.inr (.inl (pD (mvK X h sn sg e (eP e)) (eP e) (wE sn sg e) h.2.2.2 h.1)), .inr (.inl (pL (mvK X h sn sg e (eP e)) (eP e) (wE sn sg e) h.1))]) (rest := []) (q := 48) dX8_tonight_45 ml_X8_229 sm_X3_tell_ rfl rfl (by decide) (by omega) rfl rfl (Nat.le_of_ble_eq_true rfl) rfl (s_Rtell2 (d := d + 3) (pD (mvK X h sn sg e (eP e)) (eP e) (wE sn sg e) h.2.2.2 h.1) (pL (mvK X h sn sg e (eP e)) (eP e) (wE sn sg e) h.1)) ?_
  intro r45 mem45 hq45
  obtain ⟨rfl, hr45, hf45⟩ := hq45
  show am_Rn l G _ _ 48 [some (.inr (.inr 1))] [] mem45 _
  refine rn_aload_n (x := 0) (q := 49) dX8_tonight_48 rfl rfl ?_
  refine rn_get (a := 0) (v := .inr (.inr 6)) (q := 52) dX8_tonight_49 fl_X8_26 rfl rfl rfl ?_
  refine rn_get (a := 5) (v := .inl (pH (mvK X h sn sg e (eP e)) (eP e) (wE sn sg e) h.1 : Int)) (q := 55) dX8_tonight_52 fl_X8_292 rfl (am_gi ((hf45 5 (by decide) (by decide) ▸ hv22 : mem45 5 10 = _))) rfl ?_
  refine rn_iret dX8_tonight_55 rfl ?_
  exact hQ _ _ ⟨rfl, ((hf22.r8).tr (fr_row hf45)), hr45⟩
theorem m_tonight (q : DQ X sn sg h e NB mem) : am_Sm l G yX9_tonight mt_X9_tonight (d + 178) [.inr (.inr 96)] mem (QM (pH (mvE X h sn sg e) (eP e) (wE sn sg e) h.1 : Int) [pD (mvE X h sn sg e) (eP e) (wE sn sg e) h.2.2.2 h.1, pL (mvE X h sn sg e) (eP e) (wE sn sg e) h.1] mem) := by
  refine am_enterQ (ls := [some (.inr (.inr 96)), none, none]) (by decide) rfl (Nat.le_of_ble_eq_true rfl) rfl (fun hok Q hQ => ?_)
  have b := q.bd
  have L : ∀ (m0 : am_M), frS s9r mem m0 → (∀ j, j < h.1 → m0 112 j = pP (mvE X h sn sg e) (eP e) (wE sn sg e) j) → m0 95 30 = pD (mvE X h sn sg e) (eP e) (wE sn sg e) h.2.2.2 h.1 → m0 95 31 = pL (mvE X h sn sg e) (eP e) (wE sn sg e) h.1 → ∀ i : Nat, i ≤ h.1 → ∀ s : Nat, s = pH (mvE X h sn sg e) (eP e) (wE sn sg e) i → am_Rn l G mt_X9_tonight (d + 178) 17 [some (.inr (.inr 96)), some (.inl (s : Int)), some (.inl (i : Int))] [] m0 Q := by
    intro m0 hf hp hd hl
    refine am_dn h.1 (fun i hi ih s hs => ?_)
    have o := pH_ok (mv := mvE X h sn sg e) (mk := eP e) (w := wE sn sg e) i
    rw [← hs] at o
    have p8 := p2_8 (show i ≤ 8 by omega)
    by_cases hin : i < h.1
    · refine rn_iload_n (x := (i : Int)) (q := 18) dX9_tonight_17 rfl rfl ?_
      refine rn_aload_n (x := 95) (q := 19) dX9_tonight_18 rfl rfl ?_
      refine rn_get (a := 95) (v := .inl (h.1 : Int)) (q := 22) dX9_tonight_19 fl_X9_113 rfl (am_gi (q.kept hf).n) rfl ?_
      refine rn_cmpge (t := 50) (q := 25) dX9_tonight_22 rfl rfl (fun h => absurd h (by omega)) (fun w22 => ?_)
      refine rn_iload_n (x := (s : Int)) (q := 26) dX9_tonight_25 rfl rfl ?_
      refine rn_aload_n (x := 95) (q := 27) dX9_tonight_26 rfl rfl ?_
      refine rn_get (a := 95) (v := .inr (.inr 113)) (q := 30) dX9_tonight_27 fl_X9_64 rfl rfl rfl ?_
      refine rn_iload_n (x := (i : Int)) (q := 31) dX9_tonight_30 rfl rfl ?_
      refine rn_ialdV (a := 112) (v := pP (mvE X h sn sg e) (eP e) (wE sn sg e) i) (q := 32) dX9_tonight_31 rfl (by omega) (by omega) (hp i hin) rfl ?_
      refine rn_ifle (t := 41) (q := 35) dX9_tonight_32 rfl rfl (fun w32 => ?_) (fun w32 => ?_)
      · refine rn_iconst (q := 42) dX9_tonight_41 (am_okd rfl) rfl ?_
        refine rn_ior (q := 43) dX9_tonight_42 rfl ?_
        rw [show am_or (s : Int) 0 = (s : Int) from or_z (by omega)]
        refine rn_istore_n (ls' := [some (.inr (.inr 96)), some (.inl (s : Int)), some (.inl (i : Int))]) (q := 44) dX9_tonight_43 (by decide) rfl rfl ?_
        refine rn_iincN (x := (i : Int)) (z := ((i + 1 : Nat) : Int)) (ls' := [some (.inr (.inr 96)), some (.inl (s : Int)), some (.inl ((i + 1 : Nat) : Int))]) (q := 47) dX9_tonight_44 rfl (by decide) (by omega) (by unfold am_ok; omega) rfl rfl ?_
        refine rn_goto (t := 17) dX9_tonight_47 rfl ?_
        first | exact ih hin _ (by rw [pH, ← hs, if_pos (by omega)]) | exact ih hin _ (by rw [pH, ← hs, if_neg (by omega)])
      · refine rn_iconst (q := 36) dX9_tonight_35 (am_okd rfl) rfl ?_
        refine rn_iload_n (x := (i : Int)) (q := 37) dX9_tonight_36 rfl rfl ?_
        refine rn_ishl (q := 38) dX9_tonight_37 rfl ?_
        rw [show am_shl 1 (i : Int) = ((2 ^ i : Nat) : Int) from am_shl1 _ (by omega)]
        refine rn_goto (t := 42) dX9_tonight_38 rfl ?_
        refine rn_ior (q := 43) dX9_tonight_42 rfl ?_
        rw [show am_or (s : Int) ((2 ^ i : Nat) : Int) = ((s + 2 ^ i : Nat) : Int) from or_up (by omega) (by omega)]
        refine rn_istore_n (ls' := [some (.inr (.inr 96)), some (.inl ((s + 2 ^ i : Nat) : Int)), some (.inl (i : Int))]) (q := 44) dX9_tonight_43 (by decide) rfl rfl ?_
        refine rn_iincN (x := (i : Int)) (z := ((i + 1 : Nat) : Int)) (ls' := [some (.inr (.inr 96)), some (.inl ((s + 2 ^ i : Nat) : Int)), some (.inl ((i + 1 : Nat) : Int))]) (q := 47) dX9_tonight_44 rfl (by decide) (by omega) (by unfold am_ok; omega) rfl rfl ?_
        refine rn_goto (t := 17) dX9_tonight_47 rfl ?_
        first | exact ih hin _ (by rw [pH, ← hs, if_pos (by omega)]) | exact ih hin _ (by rw [pH, ← hs, if_neg (by omega)])
    · obtain rfl : i = h.1 := by omega
      refine rn_iload_n (x := (h.1 : Int)) (q := 18) dX9_tonight_17 rfl rfl ?_
      refine rn_aload_n (x := 95) (q := 19) dX9_tonight_18 rfl rfl ?_
      refine rn_get (a := 95) (v := .inl (h.1 : Int)) (q := 22) dX9_tonight_19 fl_X9_113 rfl (am_gi (q.kept hf).n) rfl ?_
      refine rn_cmpge (t := 50) (q := 25) dX9_tonight_22 rfl rfl (fun w22 => ?_) (fun h => absurd h (by omega))
      refine rn_aload_n (x := 95) (q := 51) dX9_tonight_50 rfl rfl ?_
      refine rn_iconst (q := 52) dX9_tonight_51 (am_okd rfl) rfl ?_
      refine rn_puti (a := 95) (q := 55) dX9_tonight_52 fl_X9_110 rfl rfl rfl rfl ?_
      refine rn_aload_n (x := 95) (q := 56) dX9_tonight_55 rfl rfl ?_
      refine rn_aload_n (x := 95) (q := 57) dX9_tonight_56 rfl rfl ?_
      refine rn_get (a := 95) (v := .inl (pD (mvE X h sn sg e) (eP e) (wE sn sg e) h.2.2.2 h.1)) (q := 60) dX9_tonight_57 fl_X9_255 rfl (am_gi hd) rfl ?_
      refine rn_i2l (q := 61) dX9_tonight_60 rfl ?_
      refine rn_callV (b := 95) (as := [.inr (.inl (pD (mvE X h sn sg e) (eP e) (wE sn sg e) h.2.2.2 h.1))]) (rest := []) (q := 64) dX9_tonight_61 ml_X9_275 sm_X9_tell rfl rfl (by decide) (by omega) rfl rfl (Nat.le_of_ble_eq_true rfl) rfl (m_tellB (d := d + 177) m_row0 (by decide) (pD (mvE X h sn sg e) (eP e) (wE sn sg e) h.2.2.2 h.1)) ?_
      intro r61 mem61 hq61
      obtain ⟨rfl, hr61, hf61, hf61b⟩ := hq61
      show am_Rn l G _ _ 64 [some (.inr (.inr 96)), some (.inl (s : Int)), some (.inl (h.1 : Int))] [] mem61 _
      refine rn_aload_n (x := 95) (q := 65) dX9_tonight_64 rfl rfl ?_
      refine rn_aload_n (x := 95) (q := 66) dX9_tonight_65 rfl rfl ?_
      refine rn_get (a := 95) (v := .inl (pL (mvE X h sn sg e) (eP e) (wE sn sg e) h.1)) (q := 69) dX9_tonight_66 fl_X9_252 rfl (am_gi ((hf61b 31 (by decide)).trans hl)) rfl ?_
      refine rn_i2l (q := 70) dX9_tonight_69 rfl ?_
      refine rn_callV (b := 95) (as := [.inr (.inl (pL (mvE X h sn sg e) (eP e) (wE sn sg e) h.1))]) (rest := []) (q := 73) dX9_tonight_70 ml_X9_275 sm_X9_tell rfl rfl (by decide) (by omega) rfl rfl (Nat.le_of_ble_eq_true rfl) rfl (m_tell (d := d + 177) hr61 (by simp) (pL (mvE X h sn sg e) (eP e) (wE sn sg e) h.1)) ?_
      intro r70 mem70 hq70
      obtain ⟨rfl, hr70, hf70⟩ := hq70
      show am_Rn l G _ _ 73 [some (.inr (.inr 96)), some (.inl (s : Int)), some (.inl (h.1 : Int))] [] mem70 _
      refine rn_iload_n (x := (s : Int)) (q := 74) dX9_tonight_73 rfl rfl ?_
      refine rn_iret dX9_tonight_74 rfl ?_
      exact hQ _ _ ⟨by rw [hs], (((frS.up (a := 95) (k := 10) (x := 0) hf rfl).tr hf61).tr hf70), hr70⟩
  refine rn_aload_n (x := 95) (q := 1) dX9_tonight_0 rfl rfl ?_
  refine rn_iconst (q := 2) dX9_tonight_1 (am_okd rfl) rfl ?_
  refine rn_puti (a := 95) (q := 5) dX9_tonight_2 fl_X9_107 rfl rfl rfl rfl ?_
  refine rn_aload_n (x := 95) (q := 6) dX9_tonight_5 rfl rfl ?_
  refine rn_aload_n (x := 95) (q := 7) dX9_tonight_6 rfl rfl ?_
  refine rn_get (a := 95) (v := .inr (.inr 97)) (q := 10) dX9_tonight_7 fl_X9_9 rfl rfl rfl ?_
  refine rn_callV (b := 95) (as := [.inr (.inr 97)]) (rest := []) (q := 13) dX9_tonight_10 ml_X9_258 sm_X9_part rfl rfl (by decide) (by omega) rfl rfl (Nat.le_of_ble_eq_true rfl) rfl (m_partA (d := d + 0) (q.kept (frS.up (a := 95) (k := 11) (x := 0) frS.rf rfl)) (Or.inl rfl) (k := 0) (by omega) (q.kept (frS.up (a := 95) (k := 11) (x := 0) frS.rf rfl)).eo (q.kept (frS.up (a := 95) (k := 11) (x := 0) frS.rf rfl)).es) ?_
  intro r10 mem10 hq10
  obtain ⟨rfl, hf10, hp10, hd10, hl10, hm10, -, -⟩ := hq10
  show am_Rn l G _ _ 13 [some (.inr (.inr 96)), none, none] [] mem10 _
  refine rn_iconst (q := 14) dX9_tonight_13 (am_okd rfl) rfl ?_
  refine rn_istore_n (ls' := [some (.inr (.inr 96)), some (.inl 0), none]) (q := 15) dX9_tonight_14 (by decide) rfl rfl ?_
  refine rn_iconst (q := 16) dX9_tonight_15 (am_okd rfl) rfl ?_
  refine rn_istore_n (ls' := [some (.inr (.inr 96)), some (.inl 0), some (.inl 0)]) (q := 17) dX9_tonight_16 (by decide) rfl rfl ?_
  exact L _ ((frS.up (a := 95) (k := 11) (x := 0) frS.rf rfl).tr (hf10.r9)) hp10 hd10 hl10 0 (Nat.zero_le _) 0 rfl
theorem c_bookIn (q : CQ r X C sn sg h e NB mem) {r2 : Nat} {X2 : List Nat} {C2 : List Int} (hr2 : am_rul r2) (ho2 : ruleOK X2 C2) (hc2 : c_code r2 C2 mem) (n : Nat) (hn : n ≤ 99) : am_Sm l G yX8_bookIn mt_X8_bookIn (d + 6) [.inr (.inr 1), .inl (n : Int), .inr (.inr (r2 + 1))] mem (fun q m => q = some (.inl (eB (itE X2 h sn sg e n) : Int)) ∧ c_est (itE X2 h sn sg e n) 22 m ∧ frS s8 mem m) := by
  refine am_enterQ (ls := [some (.inr (.inr 1)), some (.inl (n : Int)), some (.inr (.inr (r2 + 1))), none]) (by decide) rfl (Nat.le_of_ble_eq_true rfl) rfl (fun hok Q hQ => ?_)
  have b := q.bd
  have hNB := q.2.2.2.2.2.2.2.2
  have L : ∀ i : Nat, i ≤ n → ∀ (m : am_M), frS s8 mem m → c_est (itE X2 h sn sg e i) 22 m → am_Rn l G mt_X8_bookIn (d + 6) 13 [some (.inr (.inr 1)), some (.inl (n : Int)), some (.inr (.inr (r2 + 1))), some (.inl (i : Int))] [] m Q := by
    refine am_dn n (fun i hi ih m hf hE => ?_)
    have hqm := q.kept hf.r8
    refine rn_iload_n (x := (i : Int)) (q := 14) dX8_bookIn_13 rfl rfl ?_
    refine rn_iload_n (x := (n : Int)) (q := 15) dX8_bookIn_14 rfl rfl ?_
    refine rn_cmpge (t := 36) (q := 18) dX8_bookIn_15 rfl rfl (fun w15 => ?_) (fun w15 => ?_)
    · refine rn_aload_n (x := 0) (q := 37) dX8_bookIn_36 rfl rfl ?_
      refine rn_get (a := 0) (v := .inr (.inr 23)) (q := 40) dX8_bookIn_37 fl_X8_40 rfl rfl rfl ?_
      refine rn_get (a := 22) (v := .inl (eB (itE X2 h sn sg e i) : Int)) (q := 43) dX8_bookIn_40 fl_X8_256 rfl (am_gi hE.2.2.2.2.1) rfl ?_
      refine rn_iret dX8_bookIn_43 rfl ?_
      exact hQ _ _ ⟨by rw [show i = n by omega], by rw [show i = n by omega] at hE; exact hE, hf⟩
    · refine rn_aload_n (x := 0) (q := 19) dX8_bookIn_18 rfl rfl ?_
      refine rn_get (a := 0) (v := .inr (.inr 6)) (q := 22) dX8_bookIn_19 fl_X8_26 rfl rfl rfl ?_
      refine rn_aload_n (x := 0) (q := 23) dX8_bookIn_22 rfl rfl ?_
      refine rn_get (a := 0) (v := .inr (.inr 23)) (q := 26) dX8_bookIn_23 fl_X8_40 rfl rfl rfl ?_
      refine rn_aload_n (x := r2) (q := 27) dX8_bookIn_26 rfl rfl ?_
      refine rn_callV (b := 5) (as := [.inr (.inr 23), .inr (.inr (r2 + 1))]) (rest := []) (q := 30) dX8_bookIn_27 ml_X8_252 sm_X6_pass rfl rfl (by decide) (by omega) rfl rfl (Nat.le_of_ble_eq_true rfl) rfl (s_pass8 (d := d + 0) (a := 22) hr2 (show 22 ∈ am_estL by decide) ho2 (hc2.kept hr2 hf) hqm.sng hqm.hs (NB := NB + i) (by omega) (itE_ok q.eo i) hE) ?_
      intro r27 mem27 hq27
      obtain ⟨rfl, he27, -, hf27⟩ := hq27
      show am_Rn l G _ _ 30 [some (.inr (.inr 1)), some (.inl (n : Int)), some (.inr (.inr (r2 + 1))), some (.inl (i : Int))] [] mem27 _
      refine rn_iincN (x := (i : Int)) (z := ((i + 1 : Nat) : Int)) (ls' := [some (.inr (.inr 1)), some (.inl (n : Int)), some (.inr (.inr (r2 + 1))), some (.inl ((i + 1 : Nat) : Int))]) (q := 33) dX8_bookIn_30 rfl (by decide) (by omega) (by unfold am_ok; omega) rfl rfl ?_
      refine rn_goto (t := 13) dX8_bookIn_33 rfl ?_
      exact ih (by omega) _ (hf.tr (fr_ps.to8 hr2 hf27)) he27
  refine rn_aload_n (x := 0) (q := 1) dX8_bookIn_0 rfl rfl ?_
  refine rn_get (a := 0) (v := .inr (.inr 23)) (q := 4) dX8_bookIn_1 fl_X8_40 rfl rfl rfl ?_
  refine rn_aload_n (x := 0) (q := 5) dX8_bookIn_4 rfl rfl ?_
  refine rn_get (a := 0) (v := .inr (.inr 17)) (q := 8) dX8_bookIn_5 fl_X8_33 rfl rfl rfl ?_
  refine rn_callV (b := 22) (as := [.inr (.inr 17)]) (rest := []) (q := 11) dX8_bookIn_8 ml_X8_212 sm_X0_copy rfl rfl (by decide) (by omega) rfl rfl (Nat.le_of_ble_eq_true rfl) rfl (c_copyA (d := d + 5) q) ?_
  intro r8 mem8 hq8
  obtain ⟨rfl, he8, hf8⟩ := hq8
  show am_Rn l G _ _ 11 [some (.inr (.inr 1)), some (.inl (n : Int)), some (.inr (.inr (r2 + 1))), none] [] mem8 _
  refine rn_iconst (q := 12) dX8_bookIn_11 (am_okd rfl) rfl ?_
  refine rn_istore_n (ls' := [some (.inr (.inr 1)), some (.inl (n : Int)), some (.inr (.inr (r2 + 1))), some (.inl 0)]) (q := 13) dX8_bookIn_12 (by decide) rfl rfl ?_
  exact L 0 (Nat.zero_le _) _ hf8 he8
theorem c_later (q : CQ r X C sn sg h e NB mem) {R : List Int} (hR : c_row R mem) (n : Int) : am_Sm l G yX8_later mt_X8_later (d + 7) [.inr (.inr 1), .inl n] mem (fun q m => (¬ (0 ≤ n ∧ n ≤ 99) → QC (-1) R mem q m) ∧ (0 ≤ n ∧ n ≤ 99 → QC (eB (itE X h sn sg e n.toNat) : Int) [(eM (itE X h sn sg e n.toNat) : Int), (eK (itE X h sn sg e n.toNat) : Int)] mem q m)) := by
  refine am_enterQ (ls := [some (.inr (.inr 1)), some (.inl n), none]) (by decide) rfl (Nat.le_of_ble_eq_true rfl) rfl (fun hok Q hQ => ?_)
  have b := q.bd
  by_cases hn : 0 ≤ n ∧ n ≤ 99
  · obtain ⟨k, rfl⟩ : ∃ k : Nat, n = (k : Int) := ⟨n.toNat, by omega⟩
    refine rn_iload_n (x := (k : Int)) (q := 1) dX8_later_0 rfl rfl ?_
    refine rn_iflt (t := 10) (q := 4) dX8_later_1 rfl rfl (fun h => absurd h (by omega)) (fun w1 => ?_)
    refine rn_iload_n (x := (k : Int)) (q := 5) dX8_later_4 rfl rfl ?_
    refine rn_bipush (q := 7) dX8_later_5 ⟨by decide, by decide⟩ rfl ?_
    refine rn_cmple (t := 12) (q := 10) dX8_later_7 rfl rfl (fun w7 => ?_) (fun h => absurd h (by omega))
    refine rn_aload_n (x := 0) (q := 13) dX8_later_12 rfl rfl ?_
    refine rn_iload_n (x := (k : Int)) (q := 14) dX8_later_13 rfl rfl ?_
    refine rn_aload_n (x := 0) (q := 15) dX8_later_14 rfl rfl ?_
    refine rn_get (a := 0) (v := .inr (.inr 6)) (q := 18) dX8_later_15 fl_X8_26 rfl rfl rfl ?_
    refine rn_get (a := 5) (v := .inr (.inr (r + 1))) (q := 21) dX8_later_18 fl_X8_172 rfl (show Sum.inr (Sum.inr (mem 5 7).toNat) = _ by rw [q.rl]; rfl) rfl ?_
    refine rn_callV (b := 0) (as := [.inl (k : Int), .inr (.inr (r + 1))]) (rest := []) (q := 24) dX8_later_21 ml_X8_295 sm_X8_bookIn rfl rfl (by decide) (by omega) rfl rfl (Nat.le_of_ble_eq_true rfl) rfl (c_bookIn (d := d + 0) q q.rul q.ok q.cd k (by omega)) ?_
    intro r21 mem21 hq21
    obtain ⟨rfl, he21, hf21⟩ := hq21
    show am_Rn l G _ _ 24 [some (.inr (.inr 1)), some (.inl (k : Int)), none] [.inl (eB (itE X h sn sg e k) : Int)] mem21 _
    refine rn_istore_n (ls' := [some (.inr (.inr 1)), some (.inl (k : Int)), some (.inl (eB (itE X h sn sg e k) : Int))]) (q := 25) dX8_later_24 (by decide) rfl rfl ?_
    refine rn_aload_n (x := 0) (q := 26) dX8_later_25 rfl rfl ?_
    refine rn_get (a := 0) (v := .inr (.inr 4)) (q := 29) dX8_later_26 fl_X8_19 rfl rfl rfl ?_
    refine rn_aload_n (x := 0) (q := 30) dX8_later_29 rfl rfl ?_
    refine rn_get (a := 0) (v := .inr (.inr 23)) (q := 33) dX8_later_30 fl_X8_40 rfl rfl rfl ?_
    refine rn_get (a := 22) (v := .inl (eM (itE X h sn sg e k) : Int)) (q := 36) dX8_later_33 fl_X8_223 rfl (am_gi he21.2.2.2.2.2.1) rfl ?_
    refine rn_i2l (q := 37) dX8_later_36 rfl ?_
    refine rn_aload_n (x := 0) (q := 38) dX8_later_37 rfl rfl ?_
    refine rn_get (a := 0) (v := .inr (.inr 23)) (q := 41) dX8_later_38 fl_X8_40 rfl rfl rfl ?_
    refine rn_get (a := 22) (v := .inl (eK (itE X h sn sg e k) : Int)) (q := 44) dX8_later_41 fl_X8_226 rfl (am_gi he21.2.2.2.2.2.2.1) rfl ?_
    refine rn_i2l (q := 45) dX8_later_44 rfl ?_
    refine rn_callV (b := 3) (as := [.inr (.inl (eM (itE X h sn sg e k) : Int)), .inr (.inl (eK (itE X h sn sg e k) : Int))]) (rest := []) (q := 48) dX8_later_45 ml_X8_229 sm_X3_tell_ rfl rfl (by decide) (by omega) rfl rfl (Nat.le_of_ble_eq_true rfl) rfl (s_Rtell2 (d := d + 5) (eM (itE X h sn sg e k) : Int) (eK (itE X h sn sg e k) : Int)) ?_
    intro r45 mem45 hq45
    obtain ⟨rfl, hr45, hf45⟩ := hq45
    show am_Rn l G _ _ 48 [some (.inr (.inr 1)), some (.inl (k : Int)), some (.inl (eB (itE X h sn sg e k) : Int))] [] mem45 _
    refine rn_iload_n (x := (eB (itE X h sn sg e k) : Int)) (q := 49) dX8_later_48 rfl rfl ?_
    refine rn_iret dX8_later_49 rfl ?_
    exact hQ _ _ ⟨fun h => absurd hn h, fun _ => ⟨rfl, ((hf21.r8).tr (fr_row hf45)), hr45⟩⟩
  · refine rn_iload_n (x := n) (q := 1) dX8_later_0 rfl rfl ?_
    refine rn_iflt (t := 10) (q := 4) dX8_later_1 rfl rfl (fun w1 => ?_) (fun w1 => ?_)
    · refine rn_iconst (q := 11) dX8_later_10 (am_okd rfl) rfl ?_
      refine rn_iret dX8_later_11 rfl ?_
      exact hQ _ _ ⟨fun _ => ⟨rfl, frS.rf, hR⟩, fun h => absurd h hn⟩
    · refine rn_iload_n (x := n) (q := 5) dX8_later_4 rfl rfl ?_
      refine rn_bipush (q := 7) dX8_later_5 ⟨by decide, by decide⟩ rfl ?_
      refine rn_cmple (t := 12) (q := 10) dX8_later_7 rfl rfl (fun w7 => ?_) (fun w7 => ?_)
      · exfalso; omega
      · refine rn_iconst (q := 11) dX8_later_10 (am_okd rfl) rfl ?_
        refine rn_iret dX8_later_11 rfl ?_
        exact hQ _ _ ⟨fun _ => ⟨rfl, frS.rf, hR⟩, fun h => absurd h hn⟩
theorem s_goNights9 {arr : Nat} (ha : arr = 96 ∨ arr = 109 ∨ arr = 110) {rq : Nat} (hx4 : X.length ≤ 40) (hx2 : ∀ j, X.getD j 0 < 256) (hR : m_rul rq X mem) (hs : m_song sn sg mem) (hh : m_hrs h mem) {NB : Nat} (n : Nat) (hn : n ≤ 99) (hNB : NB < 900000) (heo : e_ok h.1 NB e) (hem : m_est e arr 0 mem) (hask : mem 95 21 = 0) : am_Sm l G yX9_goNights mt_X9_goNights (d + 179) [.inr (.inr 96), .inr (.inr (arr + 1)), .inl (n : Int)] mem (fun q m => q = none ∧ m_est (itE X h sn sg e n) arr 0 m ∧ fr_n9 arr mem m) := by
  refine am_enterQ (ls := [some (.inr (.inr 96)), some (.inr (.inr (arr + 1))), some (.inl (n : Int)), none]) (by decide) rfl (Nat.le_of_ble_eq_true rfl) rfl (fun hok Q hQ => ?_)
  have hks : am_ks[arr]? = some (100, 29) := by rcases ha with rfl | rfl | rfl <;> rfl
  have hrq := hR.1
  have L : ∀ i : Nat, i ≤ n → ∀ (m : am_M), fr_n9 arr mem m → m_est (itE X h sn sg e i) arr 0 m → am_Rn l G mt_X9_goNights (d + 179) 2 [some (.inr (.inr 96)), some (.inr (.inr (arr + 1))), some (.inl (n : Int)), some (.inl (i : Int))] [] m Q := by
    refine am_dn n (fun i hi ih m hf hE => ?_)
    have g1 : m_rul rq X m := ⟨hrq, by rw [hf.2 18 (by decide) (by decide) (by decide)]; exact hR.2.1, by rw [hf.2 20 (by decide) (by decide) (by decide)]; exact hR.2.2.1, fun j hj => by rw [hf.1 rq (by omega) (by omega) (by omega) (by omega) (by omega)]; exact hR.2.2.2 j hj⟩
    have g2 : m_song sn sg m := ⟨by rw [hf.2 6 (by decide) (by decide) (by decide)]; exact hs.1, hs.2.1, hs.2.2.1, hs.2.2.2.1, fun i hi => by rw [hf.1 100 (by omega) (by omega) (by omega) (by omega) (by omega)]; exact hs.2.2.2.2 i hi⟩
    have g3 : m_hrs h m := by
      refine ⟨hh.1, by rw [hf.2 1 (by decide) (by decide) (by decide)]; exact hh.2.1, fun i hi => ?_⟩
      rw [hf.1 97 (by omega) (by omega) (by omega) (by omega) (by omega), hf.1 98 (by omega) (by omega) (by omega) (by omega) (by omega), hf.1 99 (by omega) (by omega) (by omega) (by omega) (by omega)]
      exact hh.2.2 i hi
    have g4 : m 95 21 = 0 := by rw [hf.2 21 (by decide) (by decide) (by decide)]; exact hask
    refine rn_iload_n (x := (i : Int)) (q := 3) dX9_goNights_2 rfl rfl ?_
    refine rn_iload_n (x := (n : Int)) (q := 4) dX9_goNights_3 rfl rfl ?_
    refine rn_cmpge (t := 18) (q := 7) dX9_goNights_4 rfl rfl (fun w4 => ?_) (fun w4 => ?_)
    · refine rn_vret dX9_goNights_18 rfl ?_
      exact hQ _ _ ⟨rfl, by rw [show i = n by omega] at hE; exact hE, hf⟩
    · refine rn_aload_n (x := 95) (q := 8) dX9_goNights_7 rfl rfl ?_
      refine rn_aload_n (x := arr) (q := 9) dX9_goNights_8 rfl rfl ?_
      refine rn_callV (b := 95) (as := [.inr (.inr (arr + 1))]) (rest := []) (q := 12) dX9_goNights_9 ml_X9_265 sm_X9_goNight rfl rfl (by decide) (by omega) rfl rfl (Nat.le_of_ble_eq_true rfl) rfl (s_goNight9 (d := d + 0) hks (by omega) (by omega) (by omega) (by omega) hx4 hx2 g1 g2 g3 (NB := NB + i) (by omega) (itE_ok heo i) hE g4) ?_
      intro r9 mem9 hq9
      obtain ⟨rfl, he9, hf9⟩ := hq9
      show am_Rn l G _ _ 12 [some (.inr (.inr 96)), some (.inr (.inr (arr + 1))), some (.inl (n : Int)), some (.inl (i : Int))] [] mem9 _
      refine rn_iincN (x := (i : Int)) (z := ((i + 1 : Nat) : Int)) (ls' := [some (.inr (.inr 96)), some (.inr (.inr (arr + 1))), some (.inl (n : Int)), some (.inl ((i + 1 : Nat) : Int))]) (q := 15) dX9_goNights_12 rfl (by decide) (by omega) (by unfold am_ok; omega) rfl rfl ?_
      refine rn_goto (t := 2) dX9_goNights_15 rfl ?_
      exact ih (by omega) _ (hf.tr hf9) he9
  refine rn_iconst (q := 1) dX9_goNights_0 (am_okd rfl) rfl ?_
  refine rn_istore_n (ls' := [some (.inr (.inr 96)), some (.inr (.inr (arr + 1))), some (.inl (n : Int)), some (.inl 0)]) (q := 2) dX9_goNights_1 (by decide) rfl rfl ?_
  exact L 0 (Nat.zero_le _) mem fr_n9.rf hem
theorem m_later (q : DQ X sn sg h e NB mem) {R : List Int} (hR : m_row R mem) (n : Int) : am_Sm l G yX9_later mt_X9_later (d + 180) [.inr (.inr 96), .inl n] mem (fun q m => (¬ (0 ≤ n ∧ n ≤ 99) → QM (-1) R mem q m) ∧ (0 ≤ n ∧ n ≤ 99 → QM (eB (itE X h sn sg e n.toNat) : Int) [(eM (itE X h sn sg e n.toNat) : Int), (eK (itE X h sn sg e n.toNat) : Int)] mem q m)) := by
  refine am_enterQ (ls := [some (.inr (.inr 96)), some (.inl n)]) (by decide) rfl (Nat.le_of_ble_eq_true rfl) rfl (fun hok Q hQ => ?_)
  have b := q.bd
  by_cases hn : 0 ≤ n ∧ n ≤ 99
  · obtain ⟨k, rfl⟩ : ∃ k : Nat, n = (k : Int) := ⟨n.toNat, by omega⟩
    refine rn_aload_n (x := 95) (q := 1) dX9_later_0 rfl rfl ?_
    refine rn_iconst (q := 2) dX9_later_1 (am_okd rfl) rfl ?_
    refine rn_puti (a := 95) (q := 5) dX9_later_2 fl_X9_107 rfl rfl rfl rfl ?_
    refine rn_iload_n (x := (k : Int)) (q := 6) dX9_later_5 rfl rfl ?_
    refine rn_iconst (q := 7) dX9_later_6 (am_okd rfl) rfl ?_
    refine rn_bipush (q := 9) dX9_later_7 ⟨by decide, by decide⟩ rfl ?_
    refine rn_callS (as := [.inl (k : Int), .inl 0, .inl 99]) (rest := []) (q := 12) dX9_later_9 ml_X9_116 sm_X9_in (by omega) rfl rfl (Nat.le_of_ble_eq_true rfl) rfl (s_in9 (d := d + 179) (k : Int) 0 99) ?_
    intro r9 mem9 hq9
    obtain ⟨⟨rfl, hi9⟩ | ⟨rfl, hi9⟩, rfl⟩ := hq9
    · show am_Rn l G _ _ 12 [some (.inr (.inr 96)), some (.inl (k : Int))] [.inl 1] (am_up mem 95 11 0) _
      refine rn_ifne (t := 17) (q := 15) dX9_later_12 rfl rfl (fun w12 => ?_) (fun h => absurd h (by decide))
      refine rn_aload_n (x := 95) (q := 18) dX9_later_17 rfl rfl ?_
      refine rn_get (a := 95) (v := .inr (.inr 97)) (q := 21) dX9_later_18 fl_X9_9 rfl rfl rfl ?_
      refine rn_aload_n (x := 95) (q := 22) dX9_later_21 rfl rfl ?_
      refine rn_get (a := 95) (v := .inr (.inr 110)) (q := 25) dX9_later_22 fl_X9_55 rfl rfl rfl ?_
      refine rn_iconst (q := 26) dX9_later_25 (am_okd rfl) rfl ?_
      refine rn_callS (as := [.inr (.inr 97), .inr (.inr 110), .inl 0]) (rest := []) (q := 29) dX9_later_26 ml_X9_248 sm_X9_lay (by omega) rfl rfl (Nat.le_of_ble_eq_true rfl) rfl (m_layA (d := d + 179) (q.kept (frS.up (a := 95) (k := 11) (x := 0) frS.rf rfl)) (Or.inl rfl)) ?_
      intro r26 mem26 hq26
      obtain ⟨rfl, he26, hf26⟩ := hq26
      show am_Rn l G _ _ 29 [some (.inr (.inr 96)), some (.inl (k : Int))] [] mem26 _
      refine rn_aload_n (x := 95) (q := 30) dX9_later_29 rfl rfl ?_
      refine rn_aload_n (x := 95) (q := 31) dX9_later_30 rfl rfl ?_
      refine rn_get (a := 95) (v := .inr (.inr 110)) (q := 34) dX9_later_31 fl_X9_55 rfl rfl rfl ?_
      refine rn_iload_n (x := (k : Int)) (q := 35) dX9_later_34 rfl rfl ?_
      refine rn_callV (b := 95) (as := [.inr (.inr 110), .inl (k : Int)]) (rest := []) (q := 38) dX9_later_35 ml_X9_271 sm_X9_goNights rfl rfl (by decide) (by omega) rfl rfl (Nat.le_of_ble_eq_true rfl) rfl (s_goNights9 (d := d + 0) (arr := 109) (Or.inr (Or.inl rfl)) (q.kept ((frS.up (a := 95) (k := 11) (x := 0) frS.rf rfl).tr (hf26.r9))).1.1 (q.kept ((frS.up (a := 95) (k := 11) (x := 0) frS.rf rfl).tr (hf26.r9))).1.2 (q.kept ((frS.up (a := 95) (k := 11) (x := 0) frS.rf rfl).tr (hf26.r9))).rl (q.kept ((frS.up (a := 95) (k := 11) (x := 0) frS.rf rfl).tr (hf26.r9))).sng (q.kept ((frS.up (a := 95) (k := 11) (x := 0) frS.rf rfl).tr (hf26.r9))).hs k (by omega) q.2.2.2.2.2.2.2 (q.kept ((frS.up (a := 95) (k := 11) (x := 0) frS.rf rfl).tr (hf26.r9))).eo he26 (q.kept ((frS.up (a := 95) (k := 11) (x := 0) frS.rf rfl).tr (hf26.r9))).2.2.1) ?_
      intro r35 mem35 hq35
      obtain ⟨rfl, he35, hf35⟩ := hq35
      show am_Rn l G _ _ 38 [some (.inr (.inr 96)), some (.inl (k : Int))] [] mem35 _
      refine rn_aload_n (x := 95) (q := 39) dX9_later_38 rfl rfl ?_
      refine rn_iconst (q := 40) dX9_later_39 (am_okd rfl) rfl ?_
      refine rn_puti (a := 95) (q := 43) dX9_later_40 fl_X9_110 rfl rfl rfl rfl ?_
      refine rn_aload_n (x := 95) (q := 44) dX9_later_43 rfl rfl ?_
      refine rn_aload_n (x := 95) (q := 45) dX9_later_44 rfl rfl ?_
      refine rn_get (a := 95) (v := .inr (.inr 110)) (q := 48) dX9_later_45 fl_X9_55 rfl rfl rfl ?_
      refine rn_bipush (q := 50) dX9_later_48 ⟨by decide, by decide⟩ rfl ?_
      refine rn_ialdV (a := 109) (v := (eM (itE X h sn sg e k) : Int)) (q := 51) dX9_later_50 rfl (by omega) (by omega) he35.a.2.2.2.2.1 rfl ?_
      refine rn_i2l (q := 52) dX9_later_51 rfl ?_
      refine rn_callV (b := 95) (as := [.inr (.inl (eM (itE X h sn sg e k) : Int))]) (rest := []) (q := 55) dX9_later_52 ml_X9_275 sm_X9_tell rfl rfl (by decide) (by omega) rfl rfl (Nat.le_of_ble_eq_true rfl) rfl (m_tellA (d := d + 179) m_row0 (by decide) (eM (itE X h sn sg e k) : Int)) ?_
      intro r52 mem52 hq52
      obtain ⟨rfl, hr52, hf52, hf52a⟩ := hq52
      show am_Rn l G _ _ 55 [some (.inr (.inr 96)), some (.inl (k : Int))] [] mem52 _
      refine rn_aload_n (x := 95) (q := 56) dX9_later_55 rfl rfl ?_
      refine rn_aload_n (x := 95) (q := 57) dX9_later_56 rfl rfl ?_
      refine rn_get (a := 95) (v := .inr (.inr 110)) (q := 60) dX9_later_57 fl_X9_55 rfl rfl rfl ?_
      refine rn_bipush (q := 62) dX9_later_60 ⟨by decide, by decide⟩ rfl ?_
      refine rn_ialdV (a := 109) (v := (eK (itE X h sn sg e k) : Int)) (q := 63) dX9_later_62 rfl (by omega) (by omega) ((hf52a 109 26 rfl rfl).trans he35.a.2.2.2.2.2.1) rfl ?_
      refine rn_i2l (q := 64) dX9_later_63 rfl ?_
      refine rn_callV (b := 95) (as := [.inr (.inl (eK (itE X h sn sg e k) : Int))]) (rest := []) (q := 67) dX9_later_64 ml_X9_275 sm_X9_tell rfl rfl (by decide) (by omega) rfl rfl (Nat.le_of_ble_eq_true rfl) rfl (m_tellA (d := d + 179) hr52 (by simp) (eK (itE X h sn sg e k) : Int)) ?_
      intro r64 mem64 hq64
      obtain ⟨rfl, hr64, hf64, hf64a⟩ := hq64
      show am_Rn l G _ _ 67 [some (.inr (.inr 96)), some (.inl (k : Int))] [] mem64 _
      refine rn_aload_n (x := 95) (q := 68) dX9_later_67 rfl rfl ?_
      refine rn_get (a := 95) (v := .inr (.inr 110)) (q := 71) dX9_later_68 fl_X9_55 rfl rfl rfl ?_
      refine rn_bipush (q := 73) dX9_later_71 ⟨by decide, by decide⟩ rfl ?_
      refine rn_ialdV (a := 109) (v := (eB (itE X h sn sg e k) : Int)) (q := 74) dX9_later_73 rfl (by omega) (by omega) ((hf64a 109 24 rfl rfl).trans ((hf52a 109 24 rfl rfl).trans he35.a.2.2.2.1)) rfl ?_
      refine rn_iret dX9_later_74 rfl ?_
      exact hQ _ _ ⟨fun h => absurd hn h, fun _ => ⟨rfl, (((frS.up (a := 95) (k := 10) (x := 0) (((frS.up (a := 95) (k := 11) (x := 0) frS.rf rfl).tr (hf26.r9)).tr ((hf35.to9 (Or.inl rfl)).r9)) rfl).tr hf52).tr hf64), hr64⟩⟩
    · show am_Rn l G _ _ 12 [some (.inr (.inr 96)), some (.inl (k : Int))] [.inl 0] (am_up mem 95 11 0) _
      refine rn_ifne (t := 17) (q := 15) dX9_later_12 rfl rfl (fun h => absurd h (by decide)) (fun w12 => ?_)
      refine rn_iconst (q := 16) dX9_later_15 (am_okd rfl) rfl ?_
      refine rn_iret dX9_later_16 rfl ?_
      exfalso; omega
  · refine rn_aload_n (x := 95) (q := 1) dX9_later_0 rfl rfl ?_
    refine rn_iconst (q := 2) dX9_later_1 (am_okd rfl) rfl ?_
    refine rn_puti (a := 95) (q := 5) dX9_later_2 fl_X9_107 rfl rfl rfl rfl ?_
    refine rn_iload_n (x := n) (q := 6) dX9_later_5 rfl rfl ?_
    refine rn_iconst (q := 7) dX9_later_6 (am_okd rfl) rfl ?_
    refine rn_bipush (q := 9) dX9_later_7 ⟨by decide, by decide⟩ rfl ?_
    refine rn_callS (as := [.inl n, .inl 0, .inl 99]) (rest := []) (q := 12) dX9_later_9 ml_X9_116 sm_X9_in (by omega) rfl rfl (Nat.le_of_ble_eq_true rfl) rfl (s_in9 (d := d + 179) n 0 99) ?_
    intro r9 mem9 hq9
    obtain ⟨⟨rfl, hi9⟩ | ⟨rfl, hi9⟩, rfl⟩ := hq9
    · show am_Rn l G _ _ 12 [some (.inr (.inr 96)), some (.inl n)] [.inl 1] (am_up mem 95 11 0) _
      refine rn_ifne (t := 17) (q := 15) dX9_later_12 rfl rfl (fun w12 => ?_) (fun h => absurd h (by decide))
      exfalso; omega
    · show am_Rn l G _ _ 12 [some (.inr (.inr 96)), some (.inl n)] [.inl 0] (am_up mem 95 11 0) _
      refine rn_ifne (t := 17) (q := 15) dX9_later_12 rfl rfl (fun h => absurd h (by decide)) (fun w12 => ?_)
      refine rn_iconst (q := 16) dX9_later_15 (am_okd rfl) rfl ?_
      refine rn_iret dX9_later_16 rfl ?_
      exact hQ _ _ ⟨fun _ => ⟨rfl, (frS.up (a := 95) (k := 11) (x := 0) frS.rf rfl), hR.kept (frS.rf.up rfl)⟩, fun h => absurd h hn⟩
end P63
