/-! years of the class -/
def humX (h : hrs) (e : est) (i n : Nat) : est := if n ≤ eB e then humU h e i n else e
def yrS (X : List Nat) (h : hrs) (sn : Nat) (sg : Nat → Nat) (v : Int) (e : est) : Int × est := if drA v 4 < 2 then (nxD v, nextE X h sn sg e) else if h.1 = 0 then (nxD v, e) else if drA v 4 = 2 then (nxD (nxD v), turnE h e (drA (nxD v) h.1 : Int)) else (nxD (nxD (nxD v)), humX h e (drA (nxD v) h.1) (drA (nxD (nxD v)) 9 + 1))
def yrI (X : List Nat) (h : hrs) (sn : Nat) (sg : Nat → Nat) (v : Int) (e : est) : Nat → Int × est
  | 0 => (v, e)
  | n + 1 => yrS X h sn sg (yrI X h sn sg v e n).1 (yrI X h sn sg v e n).2
theorem e_ok_up {n NB NB2 : Nat} {e : est} (q : e_ok n NB e) (hN : NB ≤ NB2) : e_ok n NB2 e := ⟨q.1, q.2.1, q.2.2.1, Nat.le_trans q.2.2.2.1 hN, q.2.2.2.2⟩
theorem humX_ok {h : hrs} {e : est} {NB i n : Nat} (q : e_ok h.1 NB e) : e_ok h.1 NB (humX h e i n) := by
  unfold humX
  split
  · exact humU_ok q
  · exact q
theorem yrS_ok {X : List Nat} {h : hrs} {sn : Nat} {sg : Nat → Nat} {v : Int} {e : est} {NB : Nat} (q : e_ok h.1 NB e) : e_ok h.1 (NB + 1) (yrS X h sn sg v e).2 := by
  unfold yrS
  split
  · exact nextE_ok q
  split
  · exact e_ok_up q (by omega)
  split
  · exact e_ok_up (turnE_ok q) (by omega)
  · exact e_ok_up (humX_ok q) (by omega)
theorem yrI_ok {X : List Nat} {h : hrs} {sn : Nat} {sg : Nat → Nat} {v : Int} {e : est} {NB : Nat} (q : e_ok h.1 NB e) : ∀ k, e_ok h.1 (NB + k) (yrI X h sn sg v e k).2 := by
  intro k
  induction k with
  | zero => exact q
  | succ k ih => exact yrS_ok ih
theorem humP_X {h : hrs} {e : est} {i n : Nat} {v : Int} {e2 : est} (hi : i < h.1) (h1 : 1 ≤ n) (h9 : n ≤ 9) (p : humP h e (i : Int) (n : Int) v e2) : e2 = humX h e i n := by
  unfold humX
  rcases p with ⟨a, -, rfl⟩ | ⟨-, a, -, rfl⟩ | ⟨⟨-, a⟩, -, rfl⟩
  · exact absurd ⟨⟨by omega, by omega⟩, by omega, by omega⟩ a
  · rw [if_neg (by omega)]
  · rw [if_pos (by omega), Int.toNat_natCast, Int.toNat_natCast]
theorem fr3.to8 {mem m : am_M} (f : fr3 22 mem m) : frS s8 mem m := fun b k hb => by
  unfold s8 at hb
  simp [ble_f] at hb
  rw [f b (by omega) (by omega) (by omega)]
section P87
variable {l : Launch} {G : am_G} {d : Nat} {r : Nat} {X : List Nat} {C : List Int} {sn : Nat} {sg : Nat → Nat} {h : hrs} {e : est} {NB : Nat} {mem m : am_M}
variable {e2 : est}
theorem c_passY (q : CQ r X C sn sg h e NB mem) {k : Nat} (hk : k ≤ 99) (he : e_ok h.1 (NB + k) e2) (hE : c_est e2 22 mem) : am_Sm l G yX6_pass mt_X6_pass (d + 5) [.inr (.inr 6), .inr (.inr 23), .inr (.inr (r + 1))] mem (fun q m => q = none ∧ c_est (nextE X h sn sg e2) 22 m ∧ m 0 = mem 0 ∧ frS s8 mem m) := by
  have hb := q.2.2.2.2.2.2.2.2
  have o := am_rul_or q.rul
  refine am_Sm_mono (s_pass8 (a := 22) q.rul (show 22 ∈ am_estL by decide) q.ok q.cd q.sng q.hs (NB := NB + k) (by omega) he hE) (fun r m hq => ?_)
  obtain ⟨a1, a2, a3, a4⟩ := hq
  exact ⟨a1, a2, a4.1 0 (by omega) (by omega) (by omega) (by omega) (by omega) (by omega), fr_ps.to8 q.rul a4⟩
theorem CQ.upN (q : CQ r X C sn sg h e NB mem) {NB2 : Nat} (h1 : NB ≤ NB2) (h2 : NB2 < 900000) : CQ r X C sn sg h e NB2 mem := by
  obtain ⟨q1, q2, q3, q4, q5, q6, q7, q8, q9⟩ := q
  exact ⟨q1, q2, q3, q4, q5, q6, q7, e_ok_up q8 h1, h2⟩
theorem c_drawYear (q : CQ r X C sn sg h e NB mem) {k : Nat} (hk : k ≤ 99) (hN : NB + k < 900000) (he : e_ok h.1 (NB + k) e2) (hE : c_est e2 22 mem) (v : Int) (hv : mem 0 19 = v) : am_Sm l G yX8_drawYear mt_X8_drawYear (d + 6) [.inr (.inr 1)] mem (fun q m => q = none ∧ m 0 19 = (yrS X h sn sg v e2).1 ∧ c_est (yrS X h sn sg v e2).2 22 m ∧ frS s8 mem m) := by
  refine am_enterQ (ls := [some (.inr (.inr 1)), none, none]) (by decide) rfl (Nat.le_of_ble_eq_true rfl) rfl (fun hok Q hQ => ?_)
  have b := q.bd
  have l4 := drA_lt (v := v) (n := 4) (by decide)
  have lh : 0 < h.1 → drA (nxD v) h.1 < h.1 := fun z => drA_lt z
  have l9 := drA_lt (v := nxD (nxD v)) (n := 9) (by decide)
  unfold yrS at hQ
  refine rn_aload_n (x := 0) (q := 1) dX8_drawYear_0 rfl rfl ?_
  refine rn_iconst (q := 2) dX8_drawYear_1 (am_okd rfl) rfl ?_
  refine rn_callV (b := 0) (as := [.inl 4]) (rest := []) (q := 5) dX8_drawYear_2 ml_X8_430 sm_X8_draw rfl rfl (by decide) (by omega) rfl rfl (Nat.le_of_ble_eq_true rfl) rfl (c_draw (d := d + 5) v hv 4 (by decide) (by decide)) ?_
  intro r2 mem2 hq2
  obtain ⟨rfl, rfl⟩ := hq2
  show am_Rn l G _ _ 5 [some (.inr (.inr 1)), none, none] [.inl (drA v 4 : Int)] (am_up mem 0 19 (nxD v)) _
  refine rn_istore_n (ls' := [some (.inr (.inr 1)), some (.inl (drA v 4 : Int)), none]) (q := 6) dX8_drawYear_5 (by decide) rfl rfl ?_
  refine rn_iload_n (x := (drA v 4 : Int)) (q := 7) dX8_drawYear_6 rfl rfl ?_
  refine rn_iconst (q := 8) dX8_drawYear_7 (am_okd rfl) rfl ?_
  refine rn_cmpge (t := 32) (q := 11) dX8_drawYear_8 rfl rfl (fun w8 => ?_) (fun w8 => ?_)
  · refine rn_aload_n (x := 0) (q := 33) dX8_drawYear_32 rfl rfl ?_
    refine rn_get (a := 0) (v := .inr (.inr 6)) (q := 36) dX8_drawYear_33 fl_X8_26 rfl rfl rfl ?_
    refine rn_get (a := 5) (v := .inl (h.1 : Int)) (q := 39) dX8_drawYear_36 fl_X8_136 rfl (am_gi (q.kept (frS.up (a := 0) (k := 19) (x := nxD v) frS.rf rfl)).n) rfl ?_
    refine rn_ifle (t := 90) (q := 42) dX8_drawYear_39 rfl rfl (fun w39 => ?_) (fun w39 => ?_)
    · refine rn_vret dX8_drawYear_90 rfl ?_
      first | (rw [if_pos (by omega)] at hQ; exact hQ _ _ ⟨rfl, congrFun h026 19, he26, (frS.rf.up rfl).tr hf26⟩) | (rw [if_neg (by omega), if_pos (by omega)] at hQ; exact hQ _ _ ⟨rfl, rfl, hE.kept rfl rfl rfl, frS.rf.up rfl⟩) | (rw [if_neg (by omega), if_neg (by omega), if_pos (by omega)] at hQ; exact hQ _ _ ⟨rfl, congrFun (hf65 0 (by decide) (by decide) (by decide)) 19, he65, ((frS.rf.up rfl).up rfl).tr (fr3.to8 hf65)⟩) | (rw [if_neg (by omega), if_neg (by omega), if_neg (by omega)] at hQ; have hX := humP_X (lh (by omega)) (by omega) (by omega) hp; subst hX; exact hQ _ _ ⟨rfl, congrFun (hf86 0 (by decide) (by decide) (by decide)) 19, he86, (((frS.rf.up rfl).up rfl).up rfl).tr (fr3.to8 hf86)⟩)
    · refine rn_aload_n (x := 0) (q := 43) dX8_drawYear_42 rfl rfl ?_
      refine rn_aload_n (x := 0) (q := 44) dX8_drawYear_43 rfl rfl ?_
      refine rn_get (a := 0) (v := .inr (.inr 6)) (q := 47) dX8_drawYear_44 fl_X8_26 rfl rfl rfl ?_
      refine rn_get (a := 5) (v := .inl (h.1 : Int)) (q := 50) dX8_drawYear_47 fl_X8_136 rfl (am_gi (q.kept (frS.up (a := 0) (k := 19) (x := nxD v) frS.rf rfl)).n) rfl ?_
      refine rn_callV (b := 0) (as := [.inl (h.1 : Int)]) (rest := []) (q := 53) dX8_drawYear_50 ml_X8_430 sm_X8_draw rfl rfl (by decide) (by omega) rfl rfl (Nat.le_of_ble_eq_true rfl) rfl (c_draw (d := d + 5) (nxD v) rfl h.1 (by omega) (by omega)) ?_
      intro r50 mem50 hq50
      obtain ⟨rfl, rfl⟩ := hq50
      show am_Rn l G _ _ 53 [some (.inr (.inr 1)), some (.inl (drA v 4 : Int)), none] [.inl (drA (nxD v) h.1 : Int)] (am_up (am_up mem 0 19 (nxD v)) 0 19 (nxD (nxD v))) _
      refine rn_istore_n (ls' := [some (.inr (.inr 1)), some (.inl (drA v 4 : Int)), some (.inl (drA (nxD v) h.1 : Int))]) (q := 54) dX8_drawYear_53 (by decide) rfl rfl ?_
      refine rn_iload_n (x := (drA v 4 : Int)) (q := 55) dX8_drawYear_54 rfl rfl ?_
      refine rn_iconst (q := 56) dX8_drawYear_55 (am_okd rfl) rfl ?_
      refine rn_cmpne (t := 72) (q := 59) dX8_drawYear_56 rfl rfl (fun w56 => ?_) (fun w56 => ?_)
      · refine rn_aload_n (x := 0) (q := 73) dX8_drawYear_72 rfl rfl ?_
        refine rn_aload_n (x := 0) (q := 74) dX8_drawYear_73 rfl rfl ?_
        refine rn_get (a := 0) (v := .inr (.inr 23)) (q := 77) dX8_drawYear_74 fl_X8_40 rfl rfl rfl ?_
        refine rn_iload_n (x := (drA (nxD v) h.1 : Int)) (q := 78) dX8_drawYear_77 rfl rfl ?_
        refine rn_aload_n (x := 0) (q := 79) dX8_drawYear_78 rfl rfl ?_
        refine rn_bipush (q := 81) dX8_drawYear_79 ⟨by decide, by decide⟩ rfl ?_
        refine rn_callV (b := 0) (as := [.inl 9]) (rest := [.inl (drA (nxD v) h.1 : Int), .inr (.inr 23), .inr (.inr 1)]) (q := 84) dX8_drawYear_81 ml_X8_430 sm_X8_draw rfl rfl (by decide) (by omega) rfl rfl (Nat.le_of_ble_eq_true rfl) rfl (c_draw (d := d + 5) (nxD (nxD v)) rfl 9 (by decide) (by decide)) ?_
        intro r81 mem81 hq81
        obtain ⟨rfl, rfl⟩ := hq81
        show am_Rn l G _ _ 84 [some (.inr (.inr 1)), some (.inl (drA v 4 : Int)), some (.inl (drA (nxD v) h.1 : Int))] [.inl (drA (nxD (nxD v)) 9 : Int), .inl (drA (nxD v) h.1 : Int), .inr (.inr 23), .inr (.inr 1)] (am_up (am_up (am_up mem 0 19 (nxD v)) 0 19 (nxD (nxD v))) 0 19 (nxD (nxD (nxD v)))) _
        refine rn_iconst (q := 85) dX8_drawYear_84 (am_okd rfl) rfl ?_
        refine rn_iaddN (z := (((drA (nxD (nxD v)) 9) + 1 : Nat) : Int)) (q := 86) dX8_drawYear_85 (by omega) (by unfold am_ok; omega) rfl ?_
        refine rn_callV (b := 0) (as := [.inr (.inr 23), .inl (drA (nxD v) h.1 : Int), .inl (((drA (nxD (nxD v)) 9) + 1 : Nat) : Int)]) (rest := []) (q := 89) dX8_drawYear_86 ml_X8_239 sm_X8_surcharge rfl rfl (by decide) (by omega) rfl rfl (Nat.le_of_ble_eq_true rfl) rfl (c_surcharge (d := d + 4) (((q.kept (frS.up (a := 0) (k := 19) (x := nxD (nxD (nxD v))) (frS.up (a := 0) (k := 19) (x := nxD (nxD v)) (frS.up (a := 0) (k := 19) (x := nxD v) frS.rf rfl) rfl) rfl))).upN (NB2 := NB + k) (by omega) hN) (a := 22) (show 22 ∈ am_estL by decide) (e2 := e2) (hE.kept rfl rfl rfl) he (drA (nxD v) h.1 : Int) (((drA (nxD (nxD v)) 9) + 1 : Nat) : Int)) ?_
        intro r86 mem86 hq86
        obtain ⟨w, e3, rfl, hp, he86, hf86⟩ := hq86
        show am_Rn l G _ _ 89 [some (.inr (.inr 1)), some (.inl (drA v 4 : Int)), some (.inl (drA (nxD v) h.1 : Int))] [.inl w] mem86 _
        refine rn_pop (q := 90) dX8_drawYear_89 rfl rfl ?_
        refine rn_vret dX8_drawYear_90 rfl ?_
        first | (rw [if_pos (by omega)] at hQ; exact hQ _ _ ⟨rfl, congrFun h026 19, he26, (frS.rf.up rfl).tr hf26⟩) | (rw [if_neg (by omega), if_pos (by omega)] at hQ; exact hQ _ _ ⟨rfl, rfl, hE.kept rfl rfl rfl, frS.rf.up rfl⟩) | (rw [if_neg (by omega), if_neg (by omega), if_pos (by omega)] at hQ; exact hQ _ _ ⟨rfl, congrFun (hf65 0 (by decide) (by decide) (by decide)) 19, he65, ((frS.rf.up rfl).up rfl).tr (fr3.to8 hf65)⟩) | (rw [if_neg (by omega), if_neg (by omega), if_neg (by omega)] at hQ; have hX := humP_X (lh (by omega)) (by omega) (by omega) hp; subst hX; exact hQ _ _ ⟨rfl, congrFun (hf86 0 (by decide) (by decide) (by decide)) 19, he86, (((frS.rf.up rfl).up rfl).up rfl).tr (fr3.to8 hf86)⟩)
      · refine rn_aload_n (x := 0) (q := 60) dX8_drawYear_59 rfl rfl ?_
        refine rn_aload_n (x := 0) (q := 61) dX8_drawYear_60 rfl rfl ?_
        refine rn_get (a := 0) (v := .inr (.inr 23)) (q := 64) dX8_drawYear_61 fl_X8_40 rfl rfl rfl ?_
        refine rn_iload_n (x := (drA (nxD v) h.1 : Int)) (q := 65) dX8_drawYear_64 rfl rfl ?_
        refine rn_callV (b := 0) (as := [.inr (.inr 23), .inl (drA (nxD v) h.1 : Int)]) (rest := []) (q := 68) dX8_drawYear_65 ml_X8_233 sm_X8_turn rfl rfl (by decide) (by omega) rfl rfl (Nat.le_of_ble_eq_true rfl) rfl (c_turn (d := d + 4) (q.kept (frS.up (a := 0) (k := 19) (x := nxD (nxD v)) (frS.up (a := 0) (k := 19) (x := nxD v) frS.rf rfl) rfl)) (a := 22) (show 22 ∈ am_estL by decide) (e2 := e2) (hE.kept rfl rfl rfl) (Nat.lt_of_lt_of_le he.2.2.1 b.2.2.2.1) (drA (nxD v) h.1 : Int)) ?_
        intro r65 mem65 hq65
        obtain ⟨rfl, he65, hf65⟩ := hq65
        show am_Rn l G _ _ 68 [some (.inr (.inr 1)), some (.inl (drA v 4 : Int)), some (.inl (drA (nxD v) h.1 : Int))] [.inl (turnA h e2 (drA (nxD v) h.1 : Int))] mem65 _
        refine rn_pop (q := 69) dX8_drawYear_68 rfl rfl ?_
        refine rn_goto (t := 90) dX8_drawYear_69 rfl ?_
        refine rn_vret dX8_drawYear_90 rfl ?_
        first | (rw [if_pos (by omega)] at hQ; exact hQ _ _ ⟨rfl, congrFun h026 19, he26, (frS.rf.up rfl).tr hf26⟩) | (rw [if_neg (by omega), if_pos (by omega)] at hQ; exact hQ _ _ ⟨rfl, rfl, hE.kept rfl rfl rfl, frS.rf.up rfl⟩) | (rw [if_neg (by omega), if_neg (by omega), if_pos (by omega)] at hQ; exact hQ _ _ ⟨rfl, congrFun (hf65 0 (by decide) (by decide) (by decide)) 19, he65, ((frS.rf.up rfl).up rfl).tr (fr3.to8 hf65)⟩) | (rw [if_neg (by omega), if_neg (by omega), if_neg (by omega)] at hQ; have hX := humP_X (lh (by omega)) (by omega) (by omega) hp; subst hX; exact hQ _ _ ⟨rfl, congrFun (hf86 0 (by decide) (by decide) (by decide)) 19, he86, (((frS.rf.up rfl).up rfl).up rfl).tr (fr3.to8 hf86)⟩)
  · refine rn_aload_n (x := 0) (q := 12) dX8_drawYear_11 rfl rfl ?_
    refine rn_get (a := 0) (v := .inr (.inr 6)) (q := 15) dX8_drawYear_12 fl_X8_26 rfl rfl rfl ?_
    refine rn_aload_n (x := 0) (q := 16) dX8_drawYear_15 rfl rfl ?_
    refine rn_get (a := 0) (v := .inr (.inr 23)) (q := 19) dX8_drawYear_16 fl_X8_40 rfl rfl rfl ?_
    refine rn_aload_n (x := 0) (q := 20) dX8_drawYear_19 rfl rfl ?_
    refine rn_get (a := 0) (v := .inr (.inr 6)) (q := 23) dX8_drawYear_20 fl_X8_26 rfl rfl rfl ?_
    refine rn_get (a := 5) (v := .inr (.inr (r + 1))) (q := 26) dX8_drawYear_23 fl_X8_172 rfl (show Sum.inr (Sum.inr (mem 5 7).toNat) = _ by rw [q.rl]; rfl) rfl ?_
    refine rn_callV (b := 5) (as := [.inr (.inr 23), .inr (.inr (r + 1))]) (rest := []) (q := 29) dX8_drawYear_26 ml_X8_252 sm_X6_pass rfl rfl (by decide) (by omega) rfl rfl (Nat.le_of_ble_eq_true rfl) rfl (c_passY (d := d + 0) (q.kept (frS.up (a := 0) (k := 19) (x := nxD v) frS.rf rfl)) hk he (hE.kept rfl rfl rfl)) ?_
    intro r26 mem26 hq26
    obtain ⟨rfl, he26, h026, hf26⟩ := hq26
    show am_Rn l G _ _ 29 [some (.inr (.inr 1)), some (.inl (drA v 4 : Int)), none] [] mem26 _
    refine rn_goto (t := 90) dX8_drawYear_29 rfl ?_
    refine rn_vret dX8_drawYear_90 rfl ?_
    first | (rw [if_pos (by omega)] at hQ; exact hQ _ _ ⟨rfl, congrFun h026 19, he26, (frS.rf.up rfl).tr hf26⟩) | (rw [if_neg (by omega), if_pos (by omega)] at hQ; exact hQ _ _ ⟨rfl, rfl, hE.kept rfl rfl rfl, frS.rf.up rfl⟩) | (rw [if_neg (by omega), if_neg (by omega), if_pos (by omega)] at hQ; exact hQ _ _ ⟨rfl, congrFun (hf65 0 (by decide) (by decide) (by decide)) 19, he65, ((frS.rf.up rfl).up rfl).tr (fr3.to8 hf65)⟩) | (rw [if_neg (by omega), if_neg (by omega), if_neg (by omega)] at hQ; have hX := humP_X (lh (by omega)) (by omega) (by omega) hp; subst hX; exact hQ _ _ ⟨rfl, congrFun (hf86 0 (by decide) (by decide) (by decide)) 19, he86, (((frS.rf.up rfl).up rfl).up rfl).tr (fr3.to8 hf86)⟩)
end P87
