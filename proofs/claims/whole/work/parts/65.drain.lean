/-! drains, notes, worth -/
theorem offE_est {e : est} {a i : Nat} {m : am_M} (hp : eP e < 256) (hi : i < 8) (q : m_est e a 0 m) : m_est (offE e i) a 0 (am_up m a (16 + i) 0) := by
  obtain ⟨q1, q2, q3, q4, q5, q6, q7, q8⟩ := q.a
  have hc := (clr_lt (eP e) hp i hi).2
  unfold m_est
  simp only [Nat.zero_add]
  refine ⟨fun j hj => ?_, fun j hj => ?_, fun j hj => ?_, ?_, ?_, ?_, ?_, ?_⟩
  · rw [am_up_neq (by omega)]; exact q1 j hj
  · rw [am_up_neq (by omega)]; exact q2 j hj
  · show _ = if (clrB (eP e) i).testBit j then 1 else 0
    rw [am_up_at, hc j hj]
    by_cases ej : j = i
    · rw [if_pos (by omega)]; simp [ej]
    · rw [if_neg (by omega), q3 j hj]; simp [ej]
  · rw [am_up_neq (by omega)]; exact q4
  · rw [am_up_neq (by omega)]; exact q5
  · rw [am_up_neq (by omega)]; exact q6
  · rw [am_up_neq (by omega)]; exact q7
  · rw [am_up_neq (by omega)]; exact q8
theorem offE_ok {e : est} {n NB i : Nat} (hp : eP e < 256) (hi : i < 8) (q : e_ok n NB e) : e_ok n NB (offE e i) := by
  obtain ⟨q1, q2, q3, q4, q5⟩ := q
  have hc := (clr_lt (eP e) hp i hi).1
  exact ⟨q1, q2, by show clrB (eP e) i < _; omega, q4, q5⟩
section P65
variable {l : Launch} {G : am_G} {d : Nat} {r : Nat} {X : List Nat} {C : List Int} {sn : Nat} {sg : Nat → Nat} {h : hrs} {e : est} {NB : Nat} {mem m : am_M}
theorem c_drains (q : CQ r X C sn sg h e NB mem) {R : List Int} (hR : c_row R mem) : am_Sm l G yX8_drains mt_X8_drains (d + 5) [.inr (.inr 1)] mem (QC (drn (eP e) (drF X h sn sg e) h.1).1 (drR R (drn (eP e) (drF X h sn sg e) h.1)) mem) := by
  refine am_enterQ (ls := [some (.inr (.inr 1)), none, none, none, none]) (by decide) rfl (Nat.le_of_ble_eq_true rfl) rfl (fun hok Q hQ => ?_)
  have b := q.bd
  have hw := wE_ok (sn := sn) (e := e) q.sng.2.2.2.1
  have h1 := pL_ok (mk := eP e) (mvK_nn (X := X) (h := h) (sn := sn) (sg := sg) (e := e) (mk := eP e)) hw h.1
  have L : ∀ i : Nat, i ≤ h.1 → ∀ (m : am_M) (s t : Int), frS s8 mem m → (drn (eP e) (drF X h sn sg e) i = (-2, -1000000) ∧ s = -2 ∧ t = 0) ∨ (s = (drn (eP e) (drF X h sn sg e) i).1 ∧ t = (drn (eP e) (drF X h sn sg e) i).2 ∧ 0 ≤ s) → am_Rn l G mt_X8_drains (d + 5) 41 [some (.inr (.inr 1)), some (.inl (pL (mvK X h sn sg e (eP e)) (eP e) (wE sn sg e) h.1)), some (.inl s), some (.inl t), some (.inl (i : Int))] [] m Q := by
    refine am_dn h.1 (fun i hi ih m s t hf hs => ?_)
    by_cases hin : i < h.1
    · have hc := clr_lt (eP e) (by omega) i (by omega)
      have h2 := pL_ok (mk := clrB (eP e) i) (mvK_nn (X := X) (h := h) (sn := sn) (sg := sg) (e := e) (mk := clrB (eP e) i)) hw h.1
      have h3 := drF_ok (X := X) (h := h) (sn := sn) (e := e) q.sng.2.2.2.1 i
      have e2 : (drn (eP e) (drF X h sn sg e) i = (-2, -1000000) ∧ s = -2 ∧ t = 0 ∧ (drn (eP e) (drF X h sn sg e) i).2 = -1000000) ∨ (s = (drn (eP e) (drF X h sn sg e) i).1 ∧ t = (drn (eP e) (drF X h sn sg e) i).2 ∧ 0 ≤ s) := by
        rcases hs with hs | hs
        · exact Or.inl ⟨hs.1, hs.2.1, hs.2.2, by rw [hs.1]⟩
        · exact Or.inr hs
      refine rn_iload (x := (i : Int)) (q := 43) dX8_drains_41 rfl rfl ?_
      refine rn_aload_n (x := 0) (q := 44) dX8_drains_43 rfl rfl ?_
      refine rn_get (a := 0) (v := .inr (.inr 6)) (q := 47) dX8_drains_44 fl_X8_26 rfl rfl rfl ?_
      refine rn_get (a := 5) (v := .inl (h.1 : Int)) (q := 50) dX8_drains_47 fl_X8_136 rfl (am_gi (q.kept hf.r8).n) rfl ?_
      refine rn_cmpge (t := 136) (q := 53) dX8_drains_50 rfl rfl (fun h => absurd h (by omega)) (fun w50 => ?_)
      refine rn_aload_n (x := 0) (q := 54) dX8_drains_53 rfl rfl ?_
      refine rn_get (a := 0) (v := .inr (.inr 17)) (q := 57) dX8_drains_54 fl_X8_33 rfl rfl rfl ?_
      refine rn_get (a := 16) (v := .inl (eP e : Int)) (q := 60) dX8_drains_57 fl_X8_165 rfl (am_gi (q.kept hf.r8).pr) rfl ?_
      refine rn_iload (x := (i : Int)) (q := 62) dX8_drains_60 rfl rfl ?_
      refine rn_ishr (q := 63) dX8_drains_62 rfl ?_
      refine rn_iconst (q := 64) dX8_drains_63 (am_okd rfl) rfl ?_
      refine rn_iand (q := 65) dX8_drains_64 rfl ?_
      rw [am_bit (b := eP e) (i := i) (by omega) (by omega)]
      by_cases b64 : Nat.testBit (eP e) i = true
      · rw [if_pos b64]
        refine rn_ifeq (t := 130) (q := 68) dX8_drains_65 rfl rfl (fun h => absurd h (by decide)) (fun w65 => ?_)
        refine rn_aload_n (x := 0) (q := 69) dX8_drains_68 rfl rfl ?_
        refine rn_get (a := 0) (v := .inr (.inr 6)) (q := 72) dX8_drains_69 fl_X8_26 rfl rfl rfl ?_
        refine rn_aload_n (x := 0) (q := 73) dX8_drains_72 rfl rfl ?_
        refine rn_get (a := 0) (v := .inr (.inr 17)) (q := 76) dX8_drains_73 fl_X8_33 rfl rfl rfl ?_
        refine rn_aload_n (x := 0) (q := 77) dX8_drains_76 rfl rfl ?_
        refine rn_get (a := 0) (v := .inr (.inr 17)) (q := 80) dX8_drains_77 fl_X8_33 rfl rfl rfl ?_
        refine rn_get (a := 16) (v := .inl (eP e : Int)) (q := 83) dX8_drains_80 fl_X8_165 rfl (am_gi (q.kept hf.r8).pr) rfl ?_
        refine rn_iconst (q := 84) dX8_drains_83 (am_okd rfl) rfl ?_
        refine rn_iload (x := (i : Int)) (q := 86) dX8_drains_84 rfl rfl ?_
        refine rn_ishl (q := 87) dX8_drains_86 rfl ?_
        rw [show am_shl 1 (i : Int) = ((2 ^ i : Nat) : Int) from am_shl1 _ (by omega)]
        refine rn_iconst (q := 88) dX8_drains_87 (am_okd rfl) rfl ?_
        refine rn_ixor (q := 89) dX8_drains_88 rfl ?_
        refine rn_iand (q := 90) dX8_drains_89 rfl ?_
        rw [show am_and (eP e : Int) (am_xor ((2 ^ i : Nat) : Int) (-1)) = ((clrB (eP e) i : Nat) : Int) from and_cl (by omega) (by omega)]
        refine rn_aload_n (x := 0) (q := 91) dX8_drains_90 rfl rfl ?_
        refine rn_get (a := 0) (v := .inr (.inr 6)) (q := 94) dX8_drains_91 fl_X8_26 rfl rfl rfl ?_
        refine rn_get (a := 5) (v := .inr (.inr (r + 1))) (q := 97) dX8_drains_94 fl_X8_172 rfl (show Sum.inr (Sum.inr (m 5 7).toNat) = _ by rw [(q.kept hf.r8).rl]; rfl) rfl ?_
        refine rn_callV (b := 5) (as := [.inr (.inr 17), .inl ((clrB (eP e) i : Nat) : Int), .inr (.inr (r + 1))]) (rest := []) (q := 100) dX8_drains_97 ml_X8_282 sm_X6_part rfl rfl (by decide) (by omega) rfl rfl (Nat.le_of_ble_eq_true rfl) rfl (c_partQ (d := d + 0) (q.kept hf.r8) (clrB (eP e) i) (by omega)) ?_
        intro r97 mem97 hq97
        obtain ⟨rfl, hf97, hp97, hd97, hl97, hv97⟩ := hq97
        show am_Rn l G _ _ 100 [some (.inr (.inr 1)), some (.inl (pL (mvK X h sn sg e (eP e)) (eP e) (wE sn sg e) h.1)), some (.inl s), some (.inl t), some (.inl (i : Int))] [] mem97 _
        refine rn_iload_n (x := s) (q := 101) dX8_drains_100 rfl rfl ?_
        refine rn_iflt (t := 117) (q := 104) dX8_drains_101 rfl rfl (fun w101 => ?_) (fun w101 => ?_)
        · refine rn_iload (x := (i : Int)) (q := 119) dX8_drains_117 rfl rfl ?_
          refine rn_istore_n (ls' := [some (.inr (.inr 1)), some (.inl (pL (mvK X h sn sg e (eP e)) (eP e) (wE sn sg e) h.1)), some (.inl (i : Int)), some (.inl t), some (.inl (i : Int))]) (q := 120) dX8_drains_119 (by decide) rfl rfl ?_
          refine rn_aload_n (x := 0) (q := 121) dX8_drains_120 rfl rfl ?_
          refine rn_get (a := 0) (v := .inr (.inr 6)) (q := 124) dX8_drains_121 fl_X8_26 rfl rfl rfl ?_
          refine rn_get (a := 5) (v := .inl (pL (mvK X h sn sg e (clrB (eP e) i)) (clrB (eP e) i) (wE sn sg e) h.1)) (q := 127) dX8_drains_124 fl_X8_289 rfl (am_gi hl97) rfl ?_
          refine rn_iload_n (x := (pL (mvK X h sn sg e (eP e)) (eP e) (wE sn sg e) h.1)) (q := 128) dX8_drains_127 rfl rfl ?_
          refine rn_isubN (z := drF X h sn sg e i) (q := 129) dX8_drains_128 rfl (by unfold am_ok; omega) rfl ?_
          refine rn_istore_n (ls' := [some (.inr (.inr 1)), some (.inl (pL (mvK X h sn sg e (eP e)) (eP e) (wE sn sg e) h.1)), some (.inl (i : Int)), some (.inl (drF X h sn sg e i)), some (.inl (i : Int))]) (q := 130) dX8_drains_129 (by decide) rfl rfl ?_
          refine rn_iincN (x := (i : Int)) (z := ((i + 1 : Nat) : Int)) (ls' := [some (.inr (.inr 1)), some (.inl (pL (mvK X h sn sg e (eP e)) (eP e) (wE sn sg e) h.1)), some (.inl (i : Int)), some (.inl (drF X h sn sg e i)), some (.inl ((i + 1 : Nat) : Int))]) (q := 133) dX8_drains_130 rfl (by decide) (by omega) (by unfold am_ok; omega) rfl rfl ?_
          refine rn_goto (t := 41) dX8_drains_133 rfl ?_
          first | (have e1 : drn (eP e) (drF X h sn sg e) (i + 1) = _ := if_pos ⟨by assumption, by omega⟩; exact ih hin _ _ _ (hf.tr hf97) (Or.inr ⟨by rw [e1], by rw [e1], by omega⟩)) | (have e1 : drn (eP e) (drF X h sn sg e) (i + 1) = _ := if_neg (fun w => by have := w.2; first | omega | exact b64 w.1); first | exact ih hin _ _ _ (hf.tr hf97) (by rw [e1]; exact hs) | exact ih hin _ _ _ hf (by rw [e1]; exact hs))
        · refine rn_aload_n (x := 0) (q := 105) dX8_drains_104 rfl rfl ?_
          refine rn_get (a := 0) (v := .inr (.inr 6)) (q := 108) dX8_drains_105 fl_X8_26 rfl rfl rfl ?_
          refine rn_get (a := 5) (v := .inl (pL (mvK X h sn sg e (clrB (eP e) i)) (clrB (eP e) i) (wE sn sg e) h.1)) (q := 111) dX8_drains_108 fl_X8_289 rfl (am_gi hl97) rfl ?_
          refine rn_iload_n (x := (pL (mvK X h sn sg e (eP e)) (eP e) (wE sn sg e) h.1)) (q := 112) dX8_drains_111 rfl rfl ?_
          refine rn_isubN (z := drF X h sn sg e i) (q := 113) dX8_drains_112 rfl (by unfold am_ok; omega) rfl ?_
          refine rn_iload_n (x := t) (q := 114) dX8_drains_113 rfl rfl ?_
          refine rn_cmple (t := 130) (q := 117) dX8_drains_114 rfl rfl (fun w114 => ?_) (fun w114 => ?_)
          · refine rn_iincN (x := (i : Int)) (z := ((i + 1 : Nat) : Int)) (ls' := [some (.inr (.inr 1)), some (.inl (pL (mvK X h sn sg e (eP e)) (eP e) (wE sn sg e) h.1)), some (.inl s), some (.inl t), some (.inl ((i + 1 : Nat) : Int))]) (q := 133) dX8_drains_130 rfl (by decide) (by omega) (by unfold am_ok; omega) rfl rfl ?_
            refine rn_goto (t := 41) dX8_drains_133 rfl ?_
            first | (have e1 : drn (eP e) (drF X h sn sg e) (i + 1) = _ := if_pos ⟨by assumption, by omega⟩; exact ih hin _ _ _ (hf.tr hf97) (Or.inr ⟨by rw [e1], by rw [e1], by omega⟩)) | (have e1 : drn (eP e) (drF X h sn sg e) (i + 1) = _ := if_neg (fun w => by have := w.2; first | omega | exact b64 w.1); first | exact ih hin _ _ _ (hf.tr hf97) (by rw [e1]; exact hs) | exact ih hin _ _ _ hf (by rw [e1]; exact hs))
          · refine rn_iload (x := (i : Int)) (q := 119) dX8_drains_117 rfl rfl ?_
            refine rn_istore_n (ls' := [some (.inr (.inr 1)), some (.inl (pL (mvK X h sn sg e (eP e)) (eP e) (wE sn sg e) h.1)), some (.inl (i : Int)), some (.inl t), some (.inl (i : Int))]) (q := 120) dX8_drains_119 (by decide) rfl rfl ?_
            refine rn_aload_n (x := 0) (q := 121) dX8_drains_120 rfl rfl ?_
            refine rn_get (a := 0) (v := .inr (.inr 6)) (q := 124) dX8_drains_121 fl_X8_26 rfl rfl rfl ?_
            refine rn_get (a := 5) (v := .inl (pL (mvK X h sn sg e (clrB (eP e) i)) (clrB (eP e) i) (wE sn sg e) h.1)) (q := 127) dX8_drains_124 fl_X8_289 rfl (am_gi hl97) rfl ?_
            refine rn_iload_n (x := (pL (mvK X h sn sg e (eP e)) (eP e) (wE sn sg e) h.1)) (q := 128) dX8_drains_127 rfl rfl ?_
            refine rn_isubN (z := drF X h sn sg e i) (q := 129) dX8_drains_128 rfl (by unfold am_ok; omega) rfl ?_
            refine rn_istore_n (ls' := [some (.inr (.inr 1)), some (.inl (pL (mvK X h sn sg e (eP e)) (eP e) (wE sn sg e) h.1)), some (.inl (i : Int)), some (.inl (drF X h sn sg e i)), some (.inl (i : Int))]) (q := 130) dX8_drains_129 (by decide) rfl rfl ?_
            refine rn_iincN (x := (i : Int)) (z := ((i + 1 : Nat) : Int)) (ls' := [some (.inr (.inr 1)), some (.inl (pL (mvK X h sn sg e (eP e)) (eP e) (wE sn sg e) h.1)), some (.inl (i : Int)), some (.inl (drF X h sn sg e i)), some (.inl ((i + 1 : Nat) : Int))]) (q := 133) dX8_drains_130 rfl (by decide) (by omega) (by unfold am_ok; omega) rfl rfl ?_
            refine rn_goto (t := 41) dX8_drains_133 rfl ?_
            first | (have e1 : drn (eP e) (drF X h sn sg e) (i + 1) = _ := if_pos ⟨by assumption, by omega⟩; exact ih hin _ _ _ (hf.tr hf97) (Or.inr ⟨by rw [e1], by rw [e1], by omega⟩)) | (have e1 : drn (eP e) (drF X h sn sg e) (i + 1) = _ := if_neg (fun w => by have := w.2; first | omega | exact b64 w.1); first | exact ih hin _ _ _ (hf.tr hf97) (by rw [e1]; exact hs) | exact ih hin _ _ _ hf (by rw [e1]; exact hs))
      · rw [if_neg b64]
        refine rn_ifeq (t := 130) (q := 68) dX8_drains_65 rfl rfl (fun w65 => ?_) (fun h => absurd h (by decide))
        refine rn_iincN (x := (i : Int)) (z := ((i + 1 : Nat) : Int)) (ls' := [some (.inr (.inr 1)), some (.inl (pL (mvK X h sn sg e (eP e)) (eP e) (wE sn sg e) h.1)), some (.inl s), some (.inl t), some (.inl ((i + 1 : Nat) : Int))]) (q := 133) dX8_drains_130 rfl (by decide) (by omega) (by unfold am_ok; omega) rfl rfl ?_
        refine rn_goto (t := 41) dX8_drains_133 rfl ?_
        first | (have e1 : drn (eP e) (drF X h sn sg e) (i + 1) = _ := if_pos ⟨by assumption, by omega⟩; exact ih hin _ _ _ (hf.tr hf97) (Or.inr ⟨by rw [e1], by rw [e1], by omega⟩)) | (have e1 : drn (eP e) (drF X h sn sg e) (i + 1) = _ := if_neg (fun w => by have := w.2; first | omega | exact b64 w.1); first | exact ih hin _ _ _ (hf.tr hf97) (by rw [e1]; exact hs) | exact ih hin _ _ _ hf (by rw [e1]; exact hs))
    · obtain rfl : i = h.1 := by omega
      have o := drn_ok (p := eP e) (drF_ok (X := X) (h := h) (sn := sn) (e := e) q.sng.2.2.2.1) h.1
      refine rn_iload (x := (h.1 : Int)) (q := 43) dX8_drains_41 rfl rfl ?_
      refine rn_aload_n (x := 0) (q := 44) dX8_drains_43 rfl rfl ?_
      refine rn_get (a := 0) (v := .inr (.inr 6)) (q := 47) dX8_drains_44 fl_X8_26 rfl rfl rfl ?_
      refine rn_get (a := 5) (v := .inl (h.1 : Int)) (q := 50) dX8_drains_47 fl_X8_136 rfl (am_gi (q.kept hf.r8).n) rfl ?_
      refine rn_cmpge (t := 136) (q := 53) dX8_drains_50 rfl rfl (fun w50 => ?_) (fun h => absurd h (by omega))
      refine rn_iload_n (x := s) (q := 137) dX8_drains_136 rfl rfl ?_
      refine rn_iflt (t := 149) (q := 140) dX8_drains_137 rfl rfl (fun w137 => ?_) (fun w137 => ?_)
      · refine rn_iload_n (x := s) (q := 150) dX8_drains_149 rfl rfl ?_
        refine rn_iret dX8_drains_150 rfl ?_
        first | exact hQ _ _ (by rcases hs with hs | hs; unfold drR; rw [hs.1, if_pos rfl, hs.2.1]; exact ⟨rfl, hf.r8, hR.kept hf⟩; omega) | exact hQ _ _ (by rcases hs with hs | hs; omega; unfold drR; rw [if_neg (by omega), ← hs.1, ← hs.2.1]; exact ⟨rfl, hf.r8, hr146⟩)
      · refine rn_aload_n (x := 0) (q := 141) dX8_drains_140 rfl rfl ?_
        refine rn_get (a := 0) (v := .inr (.inr 4)) (q := 144) dX8_drains_141 fl_X8_19 rfl rfl rfl ?_
        refine rn_iload_n (x := t) (q := 145) dX8_drains_144 rfl rfl ?_
        refine rn_i2l (q := 146) dX8_drains_145 rfl ?_
        refine rn_callV (b := 3) (as := [.inr (.inl t)]) (rest := []) (q := 149) dX8_drains_146 ml_X8_299 sm_X3_tell rfl rfl (by decide) (by omega) rfl rfl (Nat.le_of_ble_eq_true rfl) rfl (s_Rtell (d := d + 3) t) ?_
        intro r146 mem146 hq146
        obtain ⟨rfl, hr146, hf146⟩ := hq146
        show am_Rn l G _ _ 149 [some (.inr (.inr 1)), some (.inl (pL (mvK X h sn sg e (eP e)) (eP e) (wE sn sg e) h.1)), some (.inl s), some (.inl t), some (.inl (h.1 : Int))] [] mem146 _
        refine rn_iload_n (x := s) (q := 150) dX8_drains_149 rfl rfl ?_
        refine rn_iret dX8_drains_150 rfl ?_
        first | exact hQ _ _ (by rcases hs with hs | hs; unfold drR; rw [hs.1, if_pos rfl, hs.2.1]; exact ⟨rfl, hf.r8, hR.kept hf⟩; omega) | exact hQ _ _ (by rcases hs with hs | hs; omega; unfold drR; rw [if_neg (by omega), ← hs.1, ← hs.2.1]; exact ⟨rfl, (hf.r8.tr (fr_row hf146)), hr146⟩)
  refine rn_aload_n (x := 0) (q := 1) dX8_drains_0 rfl rfl ?_
  refine rn_get (a := 0) (v := .inr (.inr 6)) (q := 4) dX8_drains_1 fl_X8_26 rfl rfl rfl ?_
  refine rn_aload_n (x := 0) (q := 5) dX8_drains_4 rfl rfl ?_
  refine rn_get (a := 0) (v := .inr (.inr 17)) (q := 8) dX8_drains_5 fl_X8_33 rfl rfl rfl ?_
  refine rn_aload_n (x := 0) (q := 9) dX8_drains_8 rfl rfl ?_
  refine rn_get (a := 0) (v := .inr (.inr 17)) (q := 12) dX8_drains_9 fl_X8_33 rfl rfl rfl ?_
  refine rn_get (a := 16) (v := .inl (eP e : Int)) (q := 15) dX8_drains_12 fl_X8_165 rfl (am_gi q.pr) rfl ?_
  refine rn_aload_n (x := 0) (q := 16) dX8_drains_15 rfl rfl ?_
  refine rn_get (a := 0) (v := .inr (.inr 6)) (q := 19) dX8_drains_16 fl_X8_26 rfl rfl rfl ?_
  refine rn_get (a := 5) (v := .inr (.inr (r + 1))) (q := 22) dX8_drains_19 fl_X8_172 rfl (show Sum.inr (Sum.inr (mem 5 7).toNat) = _ by rw [q.rl]; rfl) rfl ?_
  refine rn_callV (b := 5) (as := [.inr (.inr 17), .inl (eP e : Int), .inr (.inr (r + 1))]) (rest := []) (q := 25) dX8_drains_22 ml_X8_282 sm_X6_part rfl rfl (by decide) (by omega) rfl rfl (Nat.le_of_ble_eq_true rfl) rfl (c_partQ (d := d + 0) q (eP e) (by omega)) ?_
  intro r22 mem22 hq22
  obtain ⟨rfl, hf22, hp22, hd22, hl22, hv22⟩ := hq22
  show am_Rn l G _ _ 25 [some (.inr (.inr 1)), none, none, none, none] [] mem22 _
  refine rn_aload_n (x := 0) (q := 26) dX8_drains_25 rfl rfl ?_
  refine rn_get (a := 0) (v := .inr (.inr 6)) (q := 29) dX8_drains_26 fl_X8_26 rfl rfl rfl ?_
  refine rn_get (a := 5) (v := .inl (pL (mvK X h sn sg e (eP e)) (eP e) (wE sn sg e) h.1)) (q := 32) dX8_drains_29 fl_X8_289 rfl (am_gi hl22) rfl ?_
  refine rn_istore_n (ls' := [some (.inr (.inr 1)), some (.inl (pL (mvK X h sn sg e (eP e)) (eP e) (wE sn sg e) h.1)), none, none, none]) (q := 33) dX8_drains_32 (by decide) rfl rfl ?_
  refine rn_bipush (q := 35) dX8_drains_33 ⟨by decide, by decide⟩ rfl ?_
  refine rn_istore_n (ls' := [some (.inr (.inr 1)), some (.inl (pL (mvK X h sn sg e (eP e)) (eP e) (wE sn sg e) h.1)), some (.inl (-2)), none, none]) (q := 36) dX8_drains_35 (by decide) rfl rfl ?_
  refine rn_iconst (q := 37) dX8_drains_36 (am_okd rfl) rfl ?_
  refine rn_istore_n (ls' := [some (.inr (.inr 1)), some (.inl (pL (mvK X h sn sg e (eP e)) (eP e) (wE sn sg e) h.1)), some (.inl (-2)), some (.inl 0), none]) (q := 38) dX8_drains_37 (by decide) rfl rfl ?_
  refine rn_iconst (q := 39) dX8_drains_38 (am_okd rfl) rfl ?_
  refine rn_istore (ls' := [some (.inr (.inr 1)), some (.inl (pL (mvK X h sn sg e (eP e)) (eP e) (wE sn sg e) h.1)), some (.inl (-2)), some (.inl 0), some (.inl 0)]) (q := 41) dX8_drains_39 (by decide) rfl rfl ?_
  exact L 0 (Nat.zero_le _) _ _ _ hf22 (Or.inl ⟨rfl, rfl, rfl⟩)
theorem m_drains (q : DQ X sn sg h e NB mem) {R : List Int} (hR : m_row R mem) : am_Sm l G yX9_drains mt_X9_drains (d + 178) [.inr (.inr 96)] mem (QM (drn (eP e) (drF X h sn sg e) h.1).1 (drR R (drn (eP e) (drF X h sn sg e) h.1)) mem) := by
  refine am_enterQ (ls := [some (.inr (.inr 96)), none, none, none, none]) (by decide) rfl (Nat.le_of_ble_eq_true rfl) rfl (fun hok Q hQ => ?_)
  have b := q.bd
  have hw := wE_ok (sn := sn) (e := e) q.sng.2.2.2.1
  have h1 := pL_ok (mk := eP e) (mvE_nn (X := X) (h := h) (sn := sn) (sg := sg) (e := e)) hw h.1
  have L : ∀ i : Nat, i ≤ h.1 → ∀ (m : am_M) (s t : Int), frS s9 mem m → s = (drn (eP e) (drF X h sn sg e) i).1 → t = (drn (eP e) (drF X h sn sg e) i).2 → am_Rn l G mt_X9_drains (d + 178) 28 [some (.inr (.inr 96)), some (.inl (pL (mvE X h sn sg e) (eP e) (wE sn sg e) h.1)), some (.inl s), some (.inl t), some (.inl (i : Int))] [] m Q := by
    refine am_dn h.1 (fun i hi ih m s t hf hs ht => ?_)
    by_cases hin : i < h.1
    · have hc := clr_lt (eP e) (by omega) i (by omega)
      have h2 := pL_ok (mk := clrB (eP e) i) (mvK_nn (X := X) (h := h) (sn := sn) (sg := sg) (e := e) (mk := clrB (eP e) i)) hw h.1
      by_cases hb : (eP e).testBit i = true
      · refine rn_iload (x := (i : Int)) (q := 30) dX9_drains_28 rfl rfl ?_
        refine rn_aload_n (x := 95) (q := 31) dX9_drains_30 rfl rfl ?_
        refine rn_get (a := 95) (v := .inl (h.1 : Int)) (q := 34) dX9_drains_31 fl_X9_113 rfl (am_gi (q.kept hf.r9).n) rfl ?_
        refine rn_cmpge (t := 113) (q := 37) dX9_drains_34 rfl rfl (fun h => absurd h (by omega)) (fun w34 => ?_)
        refine rn_aload_n (x := 95) (q := 38) dX9_drains_37 rfl rfl ?_
        refine rn_get (a := 95) (v := .inr (.inr 97)) (q := 41) dX9_drains_38 fl_X9_9 rfl rfl rfl ?_
        refine rn_bipush (q := 43) dX9_drains_41 ⟨by decide, by decide⟩ rfl ?_
        refine rn_iload (x := (i : Int)) (q := 45) dX9_drains_43 rfl rfl ?_
        refine rn_iaddN (z := ((16 + i : Nat) : Int)) (q := 46) dX9_drains_45 (by omega) (by unfold am_ok; omega) rfl ?_
        refine rn_ialdV (a := 96) (v := 1) (q := 47) dX9_drains_46 rfl (by omega) (by omega) ((q.kept hf.r9).pr (show i < 8 by omega) |>.trans (if_pos hb)) rfl ?_
        refine rn_ifne (t := 53) (q := 50) dX9_drains_47 rfl rfl (fun w47 => ?_) (fun h => absurd h (by decide))
        refine rn_aload_n (x := 95) (q := 54) dX9_drains_53 rfl rfl ?_
        refine rn_get (a := 95) (v := .inr (.inr 97)) (q := 57) dX9_drains_54 fl_X9_9 rfl rfl rfl ?_
        refine rn_aload_n (x := 95) (q := 58) dX9_drains_57 rfl rfl ?_
        refine rn_get (a := 95) (v := .inr (.inr 110)) (q := 61) dX9_drains_58 fl_X9_55 rfl rfl rfl ?_
        refine rn_iconst (q := 62) dX9_drains_61 (am_okd rfl) rfl ?_
        refine rn_callS (as := [.inr (.inr 97), .inr (.inr 110), .inl 0]) (rest := []) (q := 65) dX9_drains_62 ml_X9_248 sm_X9_lay (by omega) rfl rfl (Nat.le_of_ble_eq_true rfl) rfl (m_layA (d := d + 177) (q.kept hf.r9) (Or.inl rfl)) ?_
        intro r62 mem62 hq62
        obtain ⟨rfl, he62, hf62⟩ := hq62
        show am_Rn l G _ _ 65 [some (.inr (.inr 96)), some (.inl (pL (mvE X h sn sg e) (eP e) (wE sn sg e) h.1)), some (.inl s), some (.inl t), some (.inl (i : Int))] [] mem62 _
        refine rn_aload_n (x := 95) (q := 66) dX9_drains_65 rfl rfl ?_
        refine rn_get (a := 95) (v := .inr (.inr 110)) (q := 69) dX9_drains_66 fl_X9_55 rfl rfl rfl ?_
        refine rn_bipush (q := 71) dX9_drains_69 ⟨by decide, by decide⟩ rfl ?_
        refine rn_iload (x := (i : Int)) (q := 73) dX9_drains_71 rfl rfl ?_
        refine rn_iaddN (z := ((16 + i : Nat) : Int)) (q := 74) dX9_drains_73 (by omega) (by unfold am_ok; omega) rfl ?_
        refine rn_iconst (q := 75) dX9_drains_74 (am_okd rfl) rfl ?_
        refine rn_iastV (a := 109) (m1 := am_up mem62 109 (16 + i) 0) (q := 76) dX9_drains_75 rfl (by omega) (by omega) rfl rfl ?_
        refine rn_aload_n (x := 95) (q := 77) dX9_drains_76 rfl rfl ?_
        refine rn_aload_n (x := 95) (q := 78) dX9_drains_77 rfl rfl ?_
        refine rn_get (a := 95) (v := .inr (.inr 110)) (q := 81) dX9_drains_78 fl_X9_55 rfl rfl rfl ?_
        refine rn_callV (b := 95) (as := [.inr (.inr 110)]) (rest := []) (q := 84) dX9_drains_81 ml_X9_258 sm_X9_part rfl rfl (by decide) (by omega) rfl rfl (Nat.le_of_ble_eq_true rfl) rfl (m_partA (d := d + 0) (e2 := offE e i) (q.kept (frS.up (a := 109) (k := (16 + i)) (x := 0) (hf.r9.tr (hf62.r9)) rfl)) (Or.inr (Or.inl rfl)) (k := 0) (by omega) (offE_ok (by omega) (by omega) q.eo) (offE_est (by omega) (by omega) he62)) ?_
        intro r81 mem81 hq81
        obtain ⟨rfl, hf81, -, -, hl81, -, -, -⟩ := hq81
        show am_Rn l G _ _ 84 [some (.inr (.inr 96)), some (.inl (pL (mvE X h sn sg e) (eP e) (wE sn sg e) h.1)), some (.inl s), some (.inl t), some (.inl (i : Int))] [] mem81 _
        refine rn_aload_n (x := 95) (q := 85) dX9_drains_84 rfl rfl ?_
        refine rn_get (a := 95) (v := .inl (pL (mvK X h sn sg e (clrB (eP e) i)) (clrB (eP e) i) (wE sn sg e) h.1)) (q := 88) dX9_drains_85 fl_X9_252 rfl (am_gi hl81) rfl ?_
        refine rn_iload_n (x := (pL (mvE X h sn sg e) (eP e) (wE sn sg e) h.1)) (q := 89) dX9_drains_88 rfl rfl ?_
        refine rn_isubN (z := drF X h sn sg e i) (q := 90) dX9_drains_89 rfl (by unfold am_ok; omega) rfl ?_
        refine rn_iload_n (x := t) (q := 91) dX9_drains_90 rfl rfl ?_
        refine rn_cmpgt (t := 97) (q := 94) dX9_drains_91 rfl rfl (fun w91 => ?_) (fun w91 => ?_)
        · refine rn_iload (x := (i : Int)) (q := 99) dX9_drains_97 rfl rfl ?_
          refine rn_istore_n (ls' := [some (.inr (.inr 96)), some (.inl (pL (mvE X h sn sg e) (eP e) (wE sn sg e) h.1)), some (.inl (i : Int)), some (.inl t), some (.inl (i : Int))]) (q := 100) dX9_drains_99 (by decide) rfl rfl ?_
          refine rn_aload_n (x := 95) (q := 101) dX9_drains_100 rfl rfl ?_
          refine rn_get (a := 95) (v := .inl (pL (mvK X h sn sg e (clrB (eP e) i)) (clrB (eP e) i) (wE sn sg e) h.1)) (q := 104) dX9_drains_101 fl_X9_252 rfl (am_gi hl81) rfl ?_
          refine rn_iload_n (x := (pL (mvE X h sn sg e) (eP e) (wE sn sg e) h.1)) (q := 105) dX9_drains_104 rfl rfl ?_
          refine rn_isubN (z := drF X h sn sg e i) (q := 106) dX9_drains_105 rfl (by unfold am_ok; omega) rfl ?_
          refine rn_istore_n (ls' := [some (.inr (.inr 96)), some (.inl (pL (mvE X h sn sg e) (eP e) (wE sn sg e) h.1)), some (.inl (i : Int)), some (.inl (drF X h sn sg e i)), some (.inl (i : Int))]) (q := 107) dX9_drains_106 (by decide) rfl rfl ?_
          refine rn_iincN (x := (i : Int)) (z := ((i + 1 : Nat) : Int)) (ls' := [some (.inr (.inr 96)), some (.inl (pL (mvE X h sn sg e) (eP e) (wE sn sg e) h.1)), some (.inl (i : Int)), some (.inl (drF X h sn sg e i)), some (.inl ((i + 1 : Nat) : Int))]) (q := 110) dX9_drains_107 rfl (by decide) (by omega) (by unfold am_ok; omega) rfl rfl ?_
          refine rn_goto (t := 28) dX9_drains_110 rfl ?_
          first | exact ih hin _ _ _ (hf.tr (hf62.tr ((frS.rf.up rfl).tr hf81))) (by rw [drn, if_pos ⟨hb, by omega⟩]) (by rw [drn, if_pos ⟨hb, by omega⟩]) | exact ih hin _ _ _ (hf.tr (hf62.tr ((frS.rf.up rfl).tr hf81))) (by rw [drn, if_neg (fun w => by have := w.2; omega)]; exact hs) (by rw [drn, if_neg (fun w => by have := w.2; omega)]; exact ht)
        · refine rn_goto (t := 107) dX9_drains_94 rfl ?_
          refine rn_iincN (x := (i : Int)) (z := ((i + 1 : Nat) : Int)) (ls' := [some (.inr (.inr 96)), some (.inl (pL (mvE X h sn sg e) (eP e) (wE sn sg e) h.1)), some (.inl s), some (.inl t), some (.inl ((i + 1 : Nat) : Int))]) (q := 110) dX9_drains_107 rfl (by decide) (by omega) (by unfold am_ok; omega) rfl rfl ?_
          refine rn_goto (t := 28) dX9_drains_110 rfl ?_
          first | exact ih hin _ _ _ (hf.tr (hf62.tr ((frS.rf.up rfl).tr hf81))) (by rw [drn, if_pos ⟨hb, by omega⟩]) (by rw [drn, if_pos ⟨hb, by omega⟩]) | exact ih hin _ _ _ (hf.tr (hf62.tr ((frS.rf.up rfl).tr hf81))) (by rw [drn, if_neg (fun w => by have := w.2; omega)]; exact hs) (by rw [drn, if_neg (fun w => by have := w.2; omega)]; exact ht)
      · refine rn_iload (x := (i : Int)) (q := 30) dX9_drains_28 rfl rfl ?_
        refine rn_aload_n (x := 95) (q := 31) dX9_drains_30 rfl rfl ?_
        refine rn_get (a := 95) (v := .inl (h.1 : Int)) (q := 34) dX9_drains_31 fl_X9_113 rfl (am_gi (q.kept hf.r9).n) rfl ?_
        refine rn_cmpge (t := 113) (q := 37) dX9_drains_34 rfl rfl (fun h => absurd h (by omega)) (fun w34 => ?_)
        refine rn_aload_n (x := 95) (q := 38) dX9_drains_37 rfl rfl ?_
        refine rn_get (a := 95) (v := .inr (.inr 97)) (q := 41) dX9_drains_38 fl_X9_9 rfl rfl rfl ?_
        refine rn_bipush (q := 43) dX9_drains_41 ⟨by decide, by decide⟩ rfl ?_
        refine rn_iload (x := (i : Int)) (q := 45) dX9_drains_43 rfl rfl ?_
        refine rn_iaddN (z := ((16 + i : Nat) : Int)) (q := 46) dX9_drains_45 (by omega) (by unfold am_ok; omega) rfl ?_
        refine rn_ialdV (a := 96) (v := 0) (q := 47) dX9_drains_46 rfl (by omega) (by omega) ((q.kept hf.r9).pr (show i < 8 by omega) |>.trans (if_neg hb)) rfl ?_
        refine rn_ifne (t := 53) (q := 50) dX9_drains_47 rfl rfl (fun h => absurd h (by decide)) (fun w47 => ?_)
        refine rn_goto (t := 107) dX9_drains_50 rfl ?_
        refine rn_iincN (x := (i : Int)) (z := ((i + 1 : Nat) : Int)) (ls' := [some (.inr (.inr 96)), some (.inl (pL (mvE X h sn sg e) (eP e) (wE sn sg e) h.1)), some (.inl s), some (.inl t), some (.inl ((i + 1 : Nat) : Int))]) (q := 110) dX9_drains_107 rfl (by decide) (by omega) (by unfold am_ok; omega) rfl rfl ?_
        refine rn_goto (t := 28) dX9_drains_110 rfl ?_
        exact ih hin _ _ _ hf (by rw [drn, if_neg (fun w => hb w.1)]; exact hs) (by rw [drn, if_neg (fun w => hb w.1)]; exact ht)
    · obtain rfl : i = h.1 := by omega
      refine rn_iload (x := (h.1 : Int)) (q := 30) dX9_drains_28 rfl rfl ?_
      refine rn_aload_n (x := 95) (q := 31) dX9_drains_30 rfl rfl ?_
      refine rn_get (a := 95) (v := .inl (h.1 : Int)) (q := 34) dX9_drains_31 fl_X9_113 rfl (am_gi (q.kept hf.r9).n) rfl ?_
      refine rn_cmpge (t := 113) (q := 37) dX9_drains_34 rfl rfl (fun w34 => ?_) (fun h => absurd h (by omega))
      refine rn_iload_n (x := s) (q := 114) dX9_drains_113 rfl rfl ?_
      refine rn_bipush (q := 116) dX9_drains_114 ⟨by decide, by decide⟩ rfl ?_
      refine rn_cmpne (t := 122) (q := 119) dX9_drains_116 rfl rfl (fun w116 => ?_) (fun w116 => ?_)
      · refine rn_aload_n (x := 95) (q := 123) dX9_drains_122 rfl rfl ?_
        refine rn_iconst (q := 124) dX9_drains_123 (am_okd rfl) rfl ?_
        refine rn_puti (a := 95) (q := 127) dX9_drains_124 fl_X9_110 rfl rfl rfl rfl ?_
        refine rn_aload_n (x := 95) (q := 128) dX9_drains_127 rfl rfl ?_
        refine rn_iload_n (x := t) (q := 129) dX9_drains_128 rfl rfl ?_
        refine rn_i2l (q := 130) dX9_drains_129 rfl ?_
        refine rn_callV (b := 95) (as := [.inr (.inl t)]) (rest := []) (q := 133) dX9_drains_130 ml_X9_275 sm_X9_tell rfl rfl (by decide) (by omega) rfl rfl (Nat.le_of_ble_eq_true rfl) rfl (m_tell (d := d + 177) m_row0 (by first | decide | simp | omega) t) ?_
        intro r130 mem130 hq130
        obtain ⟨rfl, hr130, hf130⟩ := hq130
        show am_Rn l G _ _ 133 [some (.inr (.inr 96)), some (.inl (pL (mvE X h sn sg e) (eP e) (wE sn sg e) h.1)), some (.inl s), some (.inl t), some (.inl (h.1 : Int))] [] mem130 _
        refine rn_iload_n (x := s) (q := 134) dX9_drains_133 rfl rfl ?_
        refine rn_iret dX9_drains_134 rfl ?_
        exact hQ _ _ (by unfold drR; rw [← hs, if_neg (by omega), ← ht]; exact ⟨rfl, ((frS.up (a := 95) (k := 10) (x := 0) hf.r9 rfl).tr hf130), hr130⟩)
      · refine rn_bipush (q := 121) dX9_drains_119 ⟨by decide, by decide⟩ rfl ?_
        refine rn_iret dX9_drains_121 rfl ?_
        exact hQ _ _ (by unfold drR; rw [← hs, if_pos (by omega)]; exact ⟨by rw [w116], hf.r9, hR.kept hf⟩)
  refine rn_aload_n (x := 95) (q := 1) dX9_drains_0 rfl rfl ?_
  refine rn_iconst (q := 2) dX9_drains_1 (am_okd rfl) rfl ?_
  refine rn_puti (a := 95) (q := 5) dX9_drains_2 fl_X9_107 rfl rfl rfl rfl ?_
  refine rn_aload_n (x := 95) (q := 6) dX9_drains_5 rfl rfl ?_
  refine rn_aload_n (x := 95) (q := 7) dX9_drains_6 rfl rfl ?_
  refine rn_get (a := 95) (v := .inr (.inr 97)) (q := 10) dX9_drains_7 fl_X9_9 rfl rfl rfl ?_
  refine rn_callV (b := 95) (as := [.inr (.inr 97)]) (rest := []) (q := 13) dX9_drains_10 ml_X9_258 sm_X9_part rfl rfl (by decide) (by omega) rfl rfl (Nat.le_of_ble_eq_true rfl) rfl (m_partA (d := d + 0) (q.kept (frS.up (a := 95) (k := 11) (x := 0) frS.rf rfl)) (Or.inl rfl) (k := 0) (by omega) (q.kept (frS.up (a := 95) (k := 11) (x := 0) frS.rf rfl)).eo (q.kept (frS.up (a := 95) (k := 11) (x := 0) frS.rf rfl)).es) ?_
  intro r10 mem10 hq10
  obtain ⟨rfl, hf10, hp10, hd10, hl10, hm10, -, -⟩ := hq10
  show am_Rn l G _ _ 13 [some (.inr (.inr 96)), none, none, none, none] [] mem10 _
  refine rn_aload_n (x := 95) (q := 14) dX9_drains_13 rfl rfl ?_
  refine rn_get (a := 95) (v := .inl (pL (mvE X h sn sg e) (eP e) (wE sn sg e) h.1)) (q := 17) dX9_drains_14 fl_X9_252 rfl (am_gi hl10) rfl ?_
  refine rn_istore_n (ls' := [some (.inr (.inr 96)), some (.inl (pL (mvE X h sn sg e) (eP e) (wE sn sg e) h.1)), none, none, none]) (q := 18) dX9_drains_17 (by decide) rfl rfl ?_
  refine rn_bipush (q := 20) dX9_drains_18 ⟨by decide, by decide⟩ rfl ?_
  refine rn_istore_n (ls' := [some (.inr (.inr 96)), some (.inl (pL (mvE X h sn sg e) (eP e) (wE sn sg e) h.1)), some (.inl (-2)), none, none]) (q := 21) dX9_drains_20 (by decide) rfl rfl ?_
  refine rn_ldcw (n := -1000000) (q := 24) dX9_drains_21 kc_X9_302 rfl (am_okd rfl) rfl ?_
  refine rn_istore_n (ls' := [some (.inr (.inr 96)), some (.inl (pL (mvE X h sn sg e) (eP e) (wE sn sg e) h.1)), some (.inl (-2)), some (.inl (-1000000)), none]) (q := 25) dX9_drains_24 (by decide) rfl rfl ?_
  refine rn_iconst (q := 26) dX9_drains_25 (am_okd rfl) rfl ?_
  refine rn_istore (ls' := [some (.inr (.inr 96)), some (.inl (pL (mvE X h sn sg e) (eP e) (wE sn sg e) h.1)), some (.inl (-2)), some (.inl (-1000000)), some (.inl 0)]) (q := 28) dX9_drains_26 (by decide) rfl rfl ?_
  exact L 0 (Nat.zero_le _) _ _ _ ((frS.rf.up rfl).tr hf10) rfl rfl
theorem c_worth (q : CQ r X C sn sg h e NB mem) (n : Int) : am_Sm l G yX8_worth mt_X8_worth (d + 1) [.inr (.inr 1), .inl n] mem (am_rr (some (.inl (if 0 ≤ n ∧ n ≤ 99 then (sg ((eN e + n.toNat) % sn) : Int) else -1))) mem) := by
  refine am_enterQ (ls := [some (.inr (.inr 1)), some (.inl n)]) (by decide) rfl (Nat.le_of_ble_eq_true rfl) rfl (fun hok Q hQ => ?_)
  have b := q.bd
  by_cases hn : 0 ≤ n ∧ n ≤ 99
  · obtain ⟨k, rfl⟩ : ∃ k : Nat, n = (k : Int) := ⟨n.toNat, by omega⟩
    refine rn_iload_n (x := (k : Int)) (q := 1) dX8_worth_0 rfl rfl ?_
    refine rn_iflt (t := 10) (q := 4) dX8_worth_1 rfl rfl (fun h => absurd h (by omega)) (fun w1 => ?_)
    refine rn_iload_n (x := (k : Int)) (q := 5) dX8_worth_4 rfl rfl ?_
    refine rn_bipush (q := 7) dX8_worth_5 ⟨by decide, by decide⟩ rfl ?_
    refine rn_cmple (t := 14) (q := 10) dX8_worth_7 rfl rfl (fun w7 => ?_) (fun w7 => ?_)
    · refine rn_aload_n (x := 0) (q := 15) dX8_worth_14 rfl rfl ?_
      refine rn_get (a := 0) (v := .inr (.inr 6)) (q := 18) dX8_worth_15 fl_X8_26 rfl rfl rfl ?_
      refine rn_aload_n (x := 0) (q := 19) dX8_worth_18 rfl rfl ?_
      refine rn_get (a := 0) (v := .inr (.inr 17)) (q := 22) dX8_worth_19 fl_X8_33 rfl rfl rfl ?_
      refine rn_get (a := 16) (v := .inl (eN e : Int)) (q := 25) dX8_worth_22 fl_X8_184 rfl (am_gi q.nt) rfl ?_
      refine rn_iload_n (x := (k : Int)) (q := 26) dX8_worth_25 rfl rfl ?_
      refine rn_iaddN (z := (((eN e) + k : Nat) : Int)) (q := 27) dX8_worth_26 (by omega) (by unfold am_ok; omega) rfl ?_
      refine rn_callV (b := 5) (as := [.inl (((eN e) + k : Nat) : Int)]) (rest := []) (q := 30) dX8_worth_27 ml_X8_196 sm_X6_songOn rfl rfl (by decide) (by omega) rfl rfl (Nat.le_of_ble_eq_true rfl) rfl (c_songOn (d := d + 0) q ((eN e) + k) (by omega)) ?_
      intro r27 mem27 hq27
      obtain ⟨rfl, rfl⟩ := hq27
      show am_Rn l G _ _ 30 [some (.inr (.inr 1)), some (.inl (k : Int))] [.inl (sg (((eN e) + k) % sn) : Int)] mem _
      refine rn_iret dX8_worth_30 rfl ?_
      first | (exfalso; omega) | exact hQ _ _ ⟨by rw [if_pos hn]; rfl, rfl⟩
    · refine rn_iconst (q := 11) dX8_worth_10 (am_okd rfl) rfl ?_
      refine rn_goto (t := 30) dX8_worth_11 rfl ?_
      refine rn_iret dX8_worth_30 rfl ?_
      first | (exfalso; omega) | exact hQ _ _ ⟨by rw [if_pos hn]; rfl, rfl⟩
  · refine rn_iload_n (x := n) (q := 1) dX8_worth_0 rfl rfl ?_
    refine rn_iflt (t := 10) (q := 4) dX8_worth_1 rfl rfl (fun w1 => ?_) (fun w1 => ?_)
    · refine rn_iconst (q := 11) dX8_worth_10 (am_okd rfl) rfl ?_
      refine rn_goto (t := 30) dX8_worth_11 rfl ?_
      refine rn_iret dX8_worth_30 rfl ?_
      first | exact hQ _ _ ⟨by rw [if_neg hn], rfl⟩ | (exfalso; omega)
    · refine rn_iload_n (x := n) (q := 5) dX8_worth_4 rfl rfl ?_
      refine rn_bipush (q := 7) dX8_worth_5 ⟨by decide, by decide⟩ rfl ?_
      refine rn_cmple (t := 14) (q := 10) dX8_worth_7 rfl rfl (fun w7 => ?_) (fun w7 => ?_)
      · refine rn_aload_n (x := 0) (q := 15) dX8_worth_14 rfl rfl ?_
        exfalso; omega
      · refine rn_iconst (q := 11) dX8_worth_10 (am_okd rfl) rfl ?_
        refine rn_goto (t := 30) dX8_worth_11 rfl ?_
        refine rn_iret dX8_worth_30 rfl ?_
        first | exact hQ _ _ ⟨by rw [if_neg hn], rfl⟩ | (exfalso; omega)
theorem m_worth (q : DQ X sn sg h e NB mem) (n : Int) : am_Sm l G yX9_worth mt_X9_worth (d + 1) [.inr (.inr 96), .inl n] mem (fun q m => q = some (.inl (if 0 ≤ n ∧ n ≤ 99 then (sg ((eN e + n.toNat) % sn) : Int) else -1)) ∧ frS s9 mem m) := by
  refine am_enterQ (ls := [some (.inr (.inr 96)), some (.inl n)]) (by decide) rfl (Nat.le_of_ble_eq_true rfl) rfl (fun hok Q hQ => ?_)
  have b := q.bd
  by_cases hn : 0 ≤ n ∧ n ≤ 99
  · obtain ⟨k, rfl⟩ : ∃ k : Nat, n = (k : Int) := ⟨n.toNat, by omega⟩
    refine rn_aload_n (x := 95) (q := 1) dX9_worth_0 rfl rfl ?_
    refine rn_iconst (q := 2) dX9_worth_1 (am_okd rfl) rfl ?_
    refine rn_puti (a := 95) (q := 5) dX9_worth_2 fl_X9_107 rfl rfl rfl rfl ?_
    refine rn_iload_n (x := (k : Int)) (q := 6) dX9_worth_5 rfl rfl ?_
    refine rn_iconst (q := 7) dX9_worth_6 (am_okd rfl) rfl ?_
    refine rn_bipush (q := 9) dX9_worth_7 ⟨by decide, by decide⟩ rfl ?_
    refine rn_callS (as := [.inl (k : Int), .inl 0, .inl 99]) (rest := []) (q := 12) dX9_worth_9 ml_X9_116 sm_X9_in (by omega) rfl rfl (Nat.le_of_ble_eq_true rfl) rfl (s_in9 (d := d + 0) (k : Int) 0 99) ?_
    intro r9 mem9 hq9
    obtain ⟨⟨rfl, hi9⟩ | ⟨rfl, hi9⟩, rfl⟩ := hq9
    · show am_Rn l G _ _ 12 [some (.inr (.inr 96)), some (.inl (k : Int))] [.inl 1] (am_up mem 95 11 0) _
      refine rn_ifeq (t := 31) (q := 15) dX9_worth_12 rfl rfl (fun h => absurd h (by decide)) (fun w12 => ?_)
      refine rn_aload_n (x := 95) (q := 16) dX9_worth_15 rfl rfl ?_
      refine rn_aload_n (x := 95) (q := 17) dX9_worth_16 rfl rfl ?_
      refine rn_get (a := 95) (v := .inr (.inr 97)) (q := 20) dX9_worth_17 fl_X9_9 rfl rfl rfl ?_
      refine rn_bipush (q := 22) dX9_worth_20 ⟨by decide, by decide⟩ rfl ?_
      refine rn_ialdV (a := 96) (v := (eN e : Int)) (q := 23) dX9_worth_22 rfl (by omega) (by omega) (q.kept (frS.up (a := 95) (k := 11) (x := 0) frS.rf rfl)).nt rfl ?_
      refine rn_iload_n (x := (k : Int)) (q := 24) dX9_worth_23 rfl rfl ?_
      refine rn_iaddN (z := (((eN e) + k : Nat) : Int)) (q := 25) dX9_worth_24 (by omega) (by unfold am_ok; omega) rfl ?_
      refine rn_callV (b := 95) (as := [.inl (((eN e) + k : Nat) : Int)]) (rest := []) (q := 28) dX9_worth_25 ml_X9_213 sm_X9_worthOn rfl rfl (by decide) (by omega) rfl rfl (Nat.le_of_ble_eq_true rfl) rfl (m_worthOn (d := d + 0) (q.kept (frS.up (a := 95) (k := 11) (x := 0) frS.rf rfl)) ((eN e) + k) (by omega)) ?_
      intro r25 mem25 hq25
      obtain ⟨rfl, rfl⟩ := hq25
      show am_Rn l G _ _ 28 [some (.inr (.inr 96)), some (.inl (k : Int))] [.inl (sg (((eN e) + k) % sn) : Int)] (am_up mem 95 11 0) _
      refine rn_goto (t := 32) dX9_worth_28 rfl ?_
      refine rn_iret dX9_worth_32 rfl ?_
      first | (exfalso; omega) | exact hQ _ _ ⟨by rw [if_pos hn]; rfl, frS.rf.up rfl⟩
    · show am_Rn l G _ _ 12 [some (.inr (.inr 96)), some (.inl (k : Int))] [.inl 0] (am_up mem 95 11 0) _
      refine rn_ifeq (t := 31) (q := 15) dX9_worth_12 rfl rfl (fun w12 => ?_) (fun h => absurd h (by decide))
      refine rn_iconst (q := 32) dX9_worth_31 (am_okd rfl) rfl ?_
      refine rn_iret dX9_worth_32 rfl ?_
      first | (exfalso; omega) | exact hQ _ _ ⟨by rw [if_pos hn]; rfl, frS.rf.up rfl⟩
  · refine rn_aload_n (x := 95) (q := 1) dX9_worth_0 rfl rfl ?_
    refine rn_iconst (q := 2) dX9_worth_1 (am_okd rfl) rfl ?_
    refine rn_puti (a := 95) (q := 5) dX9_worth_2 fl_X9_107 rfl rfl rfl rfl ?_
    refine rn_iload_n (x := n) (q := 6) dX9_worth_5 rfl rfl ?_
    refine rn_iconst (q := 7) dX9_worth_6 (am_okd rfl) rfl ?_
    refine rn_bipush (q := 9) dX9_worth_7 ⟨by decide, by decide⟩ rfl ?_
    refine rn_callS (as := [.inl n, .inl 0, .inl 99]) (rest := []) (q := 12) dX9_worth_9 ml_X9_116 sm_X9_in (by omega) rfl rfl (Nat.le_of_ble_eq_true rfl) rfl (s_in9 (d := d + 0) n 0 99) ?_
    intro r9 mem9 hq9
    obtain ⟨⟨rfl, hi9⟩ | ⟨rfl, hi9⟩, rfl⟩ := hq9
    · show am_Rn l G _ _ 12 [some (.inr (.inr 96)), some (.inl n)] [.inl 1] (am_up mem 95 11 0) _
      refine rn_ifeq (t := 31) (q := 15) dX9_worth_12 rfl rfl (fun h => absurd h (by decide)) (fun w12 => ?_)
      refine rn_aload_n (x := 95) (q := 16) dX9_worth_15 rfl rfl ?_
      exfalso; omega
    · show am_Rn l G _ _ 12 [some (.inr (.inr 96)), some (.inl n)] [.inl 0] (am_up mem 95 11 0) _
      refine rn_ifeq (t := 31) (q := 15) dX9_worth_12 rfl rfl (fun w12 => ?_) (fun h => absurd h (by decide))
      refine rn_iconst (q := 32) dX9_worth_31 (am_okd rfl) rfl ?_
      refine rn_iret dX9_worth_32 rfl ?_
      exact hQ _ _ ⟨by rw [if_neg hn], frS.rf.up rfl⟩
end P65
