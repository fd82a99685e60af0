/-! tries; look, forget; told, deny -/
theorem tri_ok {f : Nat → Nat} (hf : ∀ v, f v ≤ 1000) : ∀ k, 0 < k → 0 ≤ (tri f k).1 ∧ (tri f k).1 < k ∧ 0 ≤ (tri f k).2 ∧ (tri f k).2 ≤ 1000 := by
  intro k
  induction k with
  | zero => intro h; exact absurd h (by decide)
  | succ k ih =>
    intro _
    have h1 := hf k
    by_cases hk : 0 < k
    · have h2 := ih hk
      rw [tri]
      split
      · exact ⟨by show (0 : Int) ≤ (k : Int); omega, by show (k : Int) < ((k + 1 : Nat) : Int); omega, by show (0 : Int) ≤ (f k : Int); omega, by show (f k : Int) ≤ 1000; omega⟩
      · exact ⟨h2.1, by omega, h2.2.2⟩
    · obtain rfl : k = 0 := by omega
      rw [tri, if_pos (by show (f 0 : Int) < 1000000; omega)]
      exact ⟨(by decide : (0 : Int) ≤ 0), (by decide : (0 : Int) < 1), by show (0 : Int) ≤ (f 0 : Int); omega, by show (f 0 : Int) ≤ 1000; omega⟩
theorem triF_le {L : List (Int × Int)} (v : Nat) : triF L v ≤ 1000 := by
  have c1 := cnt_le (P := lkP L v)
  have c2 := cnt_le (P := nlP L v)
  unfold triF; omega
def triA (L : List (Int × Int)) : Int := if cnt (lawB L) = 0 then -2 else (tri (triF L) 10).1
def triR (R : List Int) (L : List (Int × Int)) : List Int := if cnt (lawB L) = 0 then R else [(tri (triF L) 10).2]
def m_told (Y : List (Int × Int)) (mem : am_M) : Prop := mem 95 45 = (Y.length : Int) ∧ Y.length ≤ 12 ∧ ∀ i, i < Y.length → mem 121 i = (Y.getD i (0, 0)).1 ∧ mem 122 i = (Y.getD i (0, 0)).2
def toldOK (w v : Int) : Prop := (w = 0 ∧ 0 ≤ v ∧ v ≤ 3) ∨ (w = 1 ∧ 1 ≤ v ∧ v ≤ 9) ∨ (w = 2 ∧ 0 ≤ v ∧ v ≤ 99) ∨ (w = 3 ∧ 0 ≤ v ∧ v ≤ 1) ∨ (w = 4 ∧ 0 ≤ v ∧ v ≤ 9)
def sLk (b k : Nat) : Bool := (b == 95 && (k == 11 || k == 40 || k == 41)) || b == 119
def sTd (b k : Nat) : Bool := (b == 95 && (k == 11 || k == 45)) || b == 121 || b == 122
section P59
variable {l : Launch} {G : am_G} {d : Nat} {r : Nat} {X : List Nat} {C : List Int} {sn : Nat} {sg : Nat → Nat} {h : hrs} {e : est} {NB : Nat} {mem m : am_M}
variable {L : List (Int × Int)}
theorem c_tries {R : List Int} (hR : c_row R mem) (hL : c_said 65 L mem) (ho : l_ok L) : am_Sm l G yX8_tries mt_X8_tries (d + 3) [.inr (.inr 1)] mem (QC (triA L) (triR R L) mem) := by
  refine am_enterQ (ls := [some (.inr (.inr 1)), none, none, none, none]) (by decide) rfl (Nat.le_of_ble_eq_true rfl) rfl (fun hok Q hQ => ?_)
  have K : ∀ v : Nat, v ≤ 10 → ∀ (s t : Int) (lx : Option am_V), (cnt (lawB L) = 0 ∨ v = 0) ∧ s = -2 ∧ t = 0 ∨ 0 < cnt (lawB L) ∧ 0 < v ∧ s = (tri (triF L) v).1 ∧ t = (tri (triF L) v).2 → am_Rn l G mt_X8_tries (d + 3) 7 [some (.inr (.inr 1)), some (.inl s), some (.inl t), some (.inl (v : Int)), lx] [] mem Q := by
    refine am_dn 10 (fun v hv ih s t lx hs => ?_)
    have c1 := cnt_le (P := lkP L v)
    have c2 := cnt_le (P := nlP L v)
    have ca := cnt_add (L := L) (v := v)
    have o := tri_ok (f := triF L) triF_le v
    have eF : ((triF L v : Nat) : Int) = max (cnt (lkP L v) : Int) (cnt (nlP L v) : Int) := by unfold triF; omega
    refine rn_iload_n (x := (v : Int)) (q := 8) dX8_tries_7 rfl rfl ?_
    refine rn_bipush (q := 10) dX8_tries_8 ⟨by decide, by decide⟩ rfl ?_
    refine rn_cmpgt (t := 56) (q := 13) dX8_tries_10 rfl rfl (fun w10 => ?_) (fun w10 => ?_)
    · refine rn_iload_n (x := s) (q := 57) dX8_tries_56 rfl rfl ?_
      refine rn_iflt (t := 69) (q := 60) dX8_tries_57 rfl rfl (fun w57 => ?_) (fun w57 => ?_)
      · refine rn_iload_n (x := s) (q := 70) dX8_tries_69 rfl rfl ?_
        refine rn_iret dX8_tries_70 rfl ?_
        obtain rfl : v = 10 := by omega
        first | (exfalso; omega) | exact hQ _ _ (by unfold triA triR; rw [if_pos (by omega), if_pos (by omega)]; exact ⟨by rw [show s = -2 by omega], frS.rf, hR⟩) | exact hQ _ _ (by unfold triA triR; rw [if_neg (by omega), if_neg (by omega)]; exact ⟨by rw [show s = (tri (triF L) 10).1 by omega], frS.rf, by rw [show (tri (triF L) 10).2 = t by omega]; exact hr66⟩)
      · refine rn_aload_n (x := 0) (q := 61) dX8_tries_60 rfl rfl ?_
        refine rn_get (a := 0) (v := .inr (.inr 4)) (q := 64) dX8_tries_61 fl_X8_19 rfl rfl rfl ?_
        refine rn_iload_n (x := t) (q := 65) dX8_tries_64 rfl rfl ?_
        refine rn_i2l (q := 66) dX8_tries_65 rfl ?_
        refine rn_callV (b := 3) (as := [.inr (.inl t)]) (rest := []) (q := 69) dX8_tries_66 ml_X8_299 sm_X3_tell rfl rfl (by decide) (by omega) rfl rfl (Nat.le_of_ble_eq_true rfl) rfl (s_Rtell (d := d + 1) t) ?_
        intro r66 mem66 hq66
        obtain ⟨rfl, hr66, hf66⟩ := hq66
        show am_Rn l G _ _ 69 [some (.inr (.inr 1)), some (.inl s), some (.inl t), some (.inl (v : Int)), lx] [] mem66 _
        refine rn_iload_n (x := s) (q := 70) dX8_tries_69 rfl rfl ?_
        refine rn_iret dX8_tries_70 rfl ?_
        obtain rfl : v = 10 := by omega
        first | (exfalso; omega) | exact hQ _ _ (by unfold triA triR; rw [if_pos (by omega), if_pos (by omega)]; exact ⟨by rw [show s = -2 by omega], frS.rf, hR⟩) | exact hQ _ _ (by unfold triA triR; rw [if_neg (by omega), if_neg (by omega)]; exact ⟨by rw [show s = (tri (triF L) 10).1 by omega], (fr_row hf66), by rw [show (tri (triF L) 10).2 = t by omega]; exact hr66⟩)
    · refine rn_aload_n (x := 0) (q := 14) dX8_tries_13 rfl rfl ?_
      refine rn_iconst (q := 15) dX8_tries_14 (am_okd rfl) rfl ?_
      refine rn_iload_n (x := (v : Int)) (q := 16) dX8_tries_15 rfl rfl ?_
      refine rn_callV (b := 0) (as := [.inl 1, .inl (v : Int)]) (rest := []) (q := 19) dX8_tries_16 ml_X8_398 sm_X8_lawsThat rfl rfl (by decide) (by omega) rfl rfl (Nat.le_of_ble_eq_true rfl) rfl (s_lawsThat1 (d := d + 0) hL ho v (by omega)) ?_
      intro r16 mem16 hq16
      obtain ⟨rfl, rfl⟩ := hq16
      show am_Rn l G _ _ 19 [some (.inr (.inr 1)), some (.inl s), some (.inl t), some (.inl (v : Int)), lx] [.inl (cnt (lkP L v) : Int)] mem _
      refine rn_aload_n (x := 0) (q := 20) dX8_tries_19 rfl rfl ?_
      refine rn_iconst (q := 21) dX8_tries_20 (am_okd rfl) rfl ?_
      refine rn_iload_n (x := (v : Int)) (q := 22) dX8_tries_21 rfl rfl ?_
      refine rn_callV (b := 0) (as := [.inl 0, .inl (v : Int)]) (rest := [.inl (cnt (lkP L v) : Int)]) (q := 25) dX8_tries_22 ml_X8_398 sm_X8_lawsThat rfl rfl (by decide) (by omega) rfl rfl (Nat.le_of_ble_eq_true rfl) rfl (s_lawsThat0 (d := d + 0) hL ho v (by omega)) ?_
      intro r22 mem22 hq22
      obtain ⟨rfl, rfl⟩ := hq22
      show am_Rn l G _ _ 25 [some (.inr (.inr 1)), some (.inl s), some (.inl t), some (.inl (v : Int)), lx] [.inl (cnt (nlP L v) : Int), .inl (cnt (lkP L v) : Int)] mem _
      refine rn_mmax (q := 28) dX8_tries_25 am_mm_X8_209 am_mmaxw (Nat.le_of_ble_eq_true rfl) rfl ?_
      refine rn_istore (ls' := [some (.inr (.inr 1)), some (.inl s), some (.inl t), some (.inl (v : Int)), some (.inl (max (cnt (lkP L v) : Int) (cnt (nlP L v) : Int)))]) (q := 30) dX8_tries_28 (by decide) rfl rfl ?_
      refine rn_iload (x := (max (cnt (lkP L v) : Int) (cnt (nlP L v) : Int))) (q := 32) dX8_tries_30 rfl rfl ?_
      refine rn_ifle (t := 50) (q := 35) dX8_tries_32 rfl rfl (fun w32 => ?_) (fun w32 => ?_)
      · refine rn_iincN (x := (v : Int)) (z := ((v + 1 : Nat) : Int)) (ls' := [some (.inr (.inr 1)), some (.inl s), some (.inl t), some (.inl ((v + 1 : Nat) : Int)), some (.inl (max (cnt (lkP L v) : Int) (cnt (nlP L v) : Int)))]) (q := 53) dX8_tries_50 rfl (by decide) (by omega) (by unfold am_ok; omega) rfl rfl ?_
        refine rn_goto (t := 7) dX8_tries_53 rfl ?_
        first | (exfalso; omega) | exact ih (by omega) _ _ _ (Or.inl ⟨Or.inl (by omega), by omega, by omega⟩) | exact ih (by omega) _ _ _ (Or.inr ⟨by omega, by omega, by rw [tri, if_pos (by rw [eF]; first | omega | (obtain rfl : v = 0 := (by omega); show _ < (1000000 : Int); omega))], by rw [tri, if_pos (by rw [eF]; first | omega | (obtain rfl : v = 0 := (by omega); show _ < (1000000 : Int); omega)), eF]⟩) | exact ih (by omega) _ _ _ (Or.inr ⟨by omega, by omega, by rw [tri, if_neg (by rw [eF]; omega)]; omega, by rw [tri, if_neg (by rw [eF]; omega)]; omega⟩)
      · refine rn_iload_n (x := s) (q := 36) dX8_tries_35 rfl rfl ?_
        refine rn_iflt (t := 45) (q := 39) dX8_tries_36 rfl rfl (fun w36 => ?_) (fun w36 => ?_)
        · refine rn_iload_n (x := (v : Int)) (q := 46) dX8_tries_45 rfl rfl ?_
          refine rn_istore_n (ls' := [some (.inr (.inr 1)), some (.inl (v : Int)), some (.inl t), some (.inl (v : Int)), some (.inl (max (cnt (lkP L v) : Int) (cnt (nlP L v) : Int)))]) (q := 47) dX8_tries_46 (by decide) rfl rfl ?_
          refine rn_iload (x := (max (cnt (lkP L v) : Int) (cnt (nlP L v) : Int))) (q := 49) dX8_tries_47 rfl rfl ?_
          refine rn_istore_n (ls' := [some (.inr (.inr 1)), some (.inl (v : Int)), some (.inl (max (cnt (lkP L v) : Int) (cnt (nlP L v) : Int))), some (.inl (v : Int)), some (.inl (max (cnt (lkP L v) : Int) (cnt (nlP L v) : Int)))]) (q := 50) dX8_tries_49 (by decide) rfl rfl ?_
          refine rn_iincN (x := (v : Int)) (z := ((v + 1 : Nat) : Int)) (ls' := [some (.inr (.inr 1)), some (.inl (v : Int)), some (.inl (max (cnt (lkP L v) : Int) (cnt (nlP L v) : Int))), some (.inl ((v + 1 : Nat) : Int)), some (.inl (max (cnt (lkP L v) : Int) (cnt (nlP L v) : Int)))]) (q := 53) dX8_tries_50 rfl (by decide) (by omega) (by unfold am_ok; omega) rfl rfl ?_
          refine rn_goto (t := 7) dX8_tries_53 rfl ?_
          first | (exfalso; omega) | exact ih (by omega) _ _ _ (Or.inl ⟨Or.inl (by omega), by omega, by omega⟩) | exact ih (by omega) _ _ _ (Or.inr ⟨by omega, by omega, by rw [tri, if_pos (by rw [eF]; first | omega | (obtain rfl : v = 0 := (by omega); show _ < (1000000 : Int); omega))], by rw [tri, if_pos (by rw [eF]; first | omega | (obtain rfl : v = 0 := (by omega); show _ < (1000000 : Int); omega)), eF]⟩) | exact ih (by omega) _ _ _ (Or.inr ⟨by omega, by omega, by rw [tri, if_neg (by rw [eF]; omega)]; omega, by rw [tri, if_neg (by rw [eF]; omega)]; omega⟩)
        · refine rn_iload (x := (max (cnt (lkP L v) : Int) (cnt (nlP L v) : Int))) (q := 41) dX8_tries_39 rfl rfl ?_
          refine rn_iload_n (x := t) (q := 42) dX8_tries_41 rfl rfl ?_
          refine rn_cmpge (t := 50) (q := 45) dX8_tries_42 rfl rfl (fun w42 => ?_) (fun w42 => ?_)
          · refine rn_iincN (x := (v : Int)) (z := ((v + 1 : Nat) : Int)) (ls' := [some (.inr (.inr 1)), some (.inl s), some (.inl t), some (.inl ((v + 1 : Nat) : Int)), some (.inl (max (cnt (lkP L v) : Int) (cnt (nlP L v) : Int)))]) (q := 53) dX8_tries_50 rfl (by decide) (by omega) (by unfold am_ok; omega) rfl rfl ?_
            refine rn_goto (t := 7) dX8_tries_53 rfl ?_
            first | (exfalso; omega) | exact ih (by omega) _ _ _ (Or.inl ⟨Or.inl (by omega), by omega, by omega⟩) | exact ih (by omega) _ _ _ (Or.inr ⟨by omega, by omega, by rw [tri, if_pos (by rw [eF]; first | omega | (obtain rfl : v = 0 := (by omega); show _ < (1000000 : Int); omega))], by rw [tri, if_pos (by rw [eF]; first | omega | (obtain rfl : v = 0 := (by omega); show _ < (1000000 : Int); omega)), eF]⟩) | exact ih (by omega) _ _ _ (Or.inr ⟨by omega, by omega, by rw [tri, if_neg (by rw [eF]; omega)]; omega, by rw [tri, if_neg (by rw [eF]; omega)]; omega⟩)
          · refine rn_iload_n (x := (v : Int)) (q := 46) dX8_tries_45 rfl rfl ?_
            refine rn_istore_n (ls' := [some (.inr (.inr 1)), some (.inl (v : Int)), some (.inl t), some (.inl (v : Int)), some (.inl (max (cnt (lkP L v) : Int) (cnt (nlP L v) : Int)))]) (q := 47) dX8_tries_46 (by decide) rfl rfl ?_
            refine rn_iload (x := (max (cnt (lkP L v) : Int) (cnt (nlP L v) : Int))) (q := 49) dX8_tries_47 rfl rfl ?_
            refine rn_istore_n (ls' := [some (.inr (.inr 1)), some (.inl (v : Int)), some (.inl (max (cnt (lkP L v) : Int) (cnt (nlP L v) : Int))), some (.inl (v : Int)), some (.inl (max (cnt (lkP L v) : Int) (cnt (nlP L v) : Int)))]) (q := 50) dX8_tries_49 (by decide) rfl rfl ?_
            refine rn_iincN (x := (v : Int)) (z := ((v + 1 : Nat) : Int)) (ls' := [some (.inr (.inr 1)), some (.inl (v : Int)), some (.inl (max (cnt (lkP L v) : Int) (cnt (nlP L v) : Int))), some (.inl ((v + 1 : Nat) : Int)), some (.inl (max (cnt (lkP L v) : Int) (cnt (nlP L v) : Int)))]) (q := 53) dX8_tries_50 rfl (by decide) (by omega) (by unfold am_ok; omega) rfl rfl ?_
            refine rn_goto (t := 7) dX8_tries_53 rfl ?_
            first | (exfalso; omega) | exact ih (by omega) _ _ _ (Or.inl ⟨Or.inl (by omega), by omega, by omega⟩) | exact ih (by omega) _ _ _ (Or.inr ⟨by omega, by omega, by rw [tri, if_pos (by rw [eF]; first | omega | (obtain rfl : v = 0 := (by omega); show _ < (1000000 : Int); omega))], by rw [tri, if_pos (by rw [eF]; first | omega | (obtain rfl : v = 0 := (by omega); show _ < (1000000 : Int); omega)), eF]⟩) | exact ih (by omega) _ _ _ (Or.inr ⟨by omega, by omega, by rw [tri, if_neg (by rw [eF]; omega)]; omega, by rw [tri, if_neg (by rw [eF]; omega)]; omega⟩)
  refine rn_bipush (q := 2) dX8_tries_0 ⟨by decide, by decide⟩ rfl ?_
  refine rn_istore_n (ls' := [some (.inr (.inr 1)), some (.inl (-2)), none, none, none]) (q := 3) dX8_tries_2 (by decide) rfl rfl ?_
  refine rn_iconst (q := 4) dX8_tries_3 (am_okd rfl) rfl ?_
  refine rn_istore_n (ls' := [some (.inr (.inr 1)), some (.inl (-2)), some (.inl 0), none, none]) (q := 5) dX8_tries_4 (by decide) rfl rfl ?_
  refine rn_iconst (q := 6) dX8_tries_5 (am_okd rfl) rfl ?_
  refine rn_istore_n (ls' := [some (.inr (.inr 1)), some (.inl (-2)), some (.inl 0), some (.inl 0), none]) (q := 7) dX8_tries_6 (by decide) rfl rfl ?_
  exact K 0 (by omega) _ _ _ (Or.inl ⟨Or.inr rfl, rfl, rfl⟩)
theorem m_tries {R : List Int} (hR : m_row R mem) (hL : m_look L mem) (ho : l_ok L) : am_Sm l G yX9_tries mt_X9_tries (d + 3) [.inr (.inr 96)] mem (QM (triA L) (triR R L) mem) := by
  refine am_enterQ (ls := [some (.inr (.inr 96)), none, none, none, none, none]) (by decide) rfl (Nat.le_of_ble_eq_true rfl) rfl (fun hok Q hQ => ?_)
  have fL : m_look L (am_up mem 95 11 0) := by
    obtain ⟨B, a1, a2, a3, a4, a5⟩ := hL
    exact ⟨B, a1, a2, a3, a4, a5⟩
  have cA := cnt_le (P := lawB L)
  have K : 0 < cnt (lawB L) → ∀ v : Nat, v ≤ 10 → ∀ (s t : Int) (lx : Option am_V), s = (tri (triF L) v).1 → t = (tri (triF L) v).2 → am_Rn l G mt_X9_tries (d + 3) 27 [some (.inr (.inr 96)), some (.inl (cnt (lawB L) : Int)), some (.inl s), some (.inl t), some (.inl (v : Int)), lx] [] (am_up mem 95 11 0) Q := by
    intro hpos
    refine am_dn 10 (fun v hv ih s t lx hs ht => ?_)
    have ca := cnt_add (L := L) (v := v)
    have eF : ((triF L v : Nat) : Int) = max (cnt (lkP L v) : Int) ((cnt (lawB L) : Int) - (cnt (lkP L v) : Int)) := by unfold triF; omega
    refine rn_iload (x := (v : Int)) (q := 29) dX9_tries_27 rfl rfl ?_
    refine rn_bipush (q := 31) dX9_tries_29 ⟨by decide, by decide⟩ rfl ?_
    refine rn_cmpgt (t := 74) (q := 34) dX9_tries_31 rfl rfl (fun w31 => ?_) (fun w31 => ?_)
    · refine rn_aload_n (x := 95) (q := 75) dX9_tries_74 rfl rfl ?_
      refine rn_iconst (q := 76) dX9_tries_75 (am_okd rfl) rfl ?_
      refine rn_puti (a := 95) (q := 79) dX9_tries_76 fl_X9_110 rfl rfl rfl rfl ?_
      refine rn_aload_n (x := 95) (q := 80) dX9_tries_79 rfl rfl ?_
      refine rn_iload_n (x := t) (q := 81) dX9_tries_80 rfl rfl ?_
      refine rn_i2l (q := 82) dX9_tries_81 rfl ?_
      refine rn_callV (b := 95) (as := [.inr (.inl t)]) (rest := []) (q := 85) dX9_tries_82 ml_X9_275 sm_X9_tell rfl rfl (by decide) (by omega) rfl rfl (Nat.le_of_ble_eq_true rfl) rfl (m_tell (d := d + 2) m_row0 (by first | decide | simp | omega) t) ?_
      intro r82 mem82 hq82
      obtain ⟨rfl, hr82, hf82⟩ := hq82
      show am_Rn l G _ _ 85 [some (.inr (.inr 96)), some (.inl (cnt (lawB L) : Int)), some (.inl s), some (.inl t), some (.inl (v : Int)), lx] [] mem82 _
      refine rn_iload_n (x := s) (q := 86) dX9_tries_85 rfl rfl ?_
      refine rn_iret dX9_tries_86 rfl ?_
      obtain rfl : v = 10 := by omega
      exact hQ _ _ (by unfold triA triR; rw [if_neg (by omega), if_neg (by omega)]; exact ⟨by rw [hs], ((frS.up (a := 95) (k := 10) (x := 0) (frS.up (a := 95) (k := 11) (x := 0) frS.rf rfl) rfl).tr hf82), by rw [← ht]; exact hr82⟩)
    · refine rn_aload_n (x := 95) (q := 35) dX9_tries_34 rfl rfl ?_
      refine rn_iload (x := (v : Int)) (q := 37) dX9_tries_35 rfl rfl ?_
      refine rn_callV (b := 95) (as := [.inl (v : Int)]) (rest := []) (q := 40) dX9_tries_37 ml_X9_357 sm_X9_liking rfl rfl (by decide) (by omega) rfl rfl (Nat.le_of_ble_eq_true rfl) rfl (s_liking (d := d + 0) fL ho v (by omega)) ?_
      intro r37 mem37 hq37
      obtain ⟨rfl, rfl⟩ := hq37
      show am_Rn l G _ _ 40 [some (.inr (.inr 96)), some (.inl (cnt (lawB L) : Int)), some (.inl s), some (.inl t), some (.inl (v : Int)), lx] [.inl (cnt (lkP L v) : Int)] (am_up mem 95 11 0) _
      refine rn_iload_n (x := (cnt (lawB L) : Int)) (q := 41) dX9_tries_40 rfl rfl ?_
      refine rn_aload_n (x := 95) (q := 42) dX9_tries_41 rfl rfl ?_
      refine rn_iload (x := (v : Int)) (q := 44) dX9_tries_42 rfl rfl ?_
      refine rn_callV (b := 95) (as := [.inl (v : Int)]) (rest := [.inl (cnt (lawB L) : Int), .inl (cnt (lkP L v) : Int)]) (q := 47) dX9_tries_44 ml_X9_357 sm_X9_liking rfl rfl (by decide) (by omega) rfl rfl (Nat.le_of_ble_eq_true rfl) rfl (s_liking (d := d + 0) fL ho v (by omega)) ?_
      intro r44 mem44 hq44
      obtain ⟨rfl, rfl⟩ := hq44
      show am_Rn l G _ _ 47 [some (.inr (.inr 96)), some (.inl (cnt (lawB L) : Int)), some (.inl s), some (.inl t), some (.inl (v : Int)), lx] [.inl (cnt (lkP L v) : Int), .inl (cnt (lawB L) : Int), .inl (cnt (lkP L v) : Int)] (am_up mem 95 11 0) _
      refine rn_isubN (z := ((cnt (lawB L) : Int) - (cnt (lkP L v) : Int))) (q := 48) dX9_tries_47 rfl (by unfold am_ok; omega) rfl ?_
      refine rn_mmax (q := 51) dX9_tries_48 am_mm_X9_231 am_mmaxw (Nat.le_of_ble_eq_true rfl) rfl ?_
      refine rn_istore (ls' := [some (.inr (.inr 96)), some (.inl (cnt (lawB L) : Int)), some (.inl s), some (.inl t), some (.inl (v : Int)), some (.inl (max (cnt (lkP L v) : Int) ((cnt (lawB L) : Int) - (cnt (lkP L v) : Int))))]) (q := 53) dX9_tries_51 (by decide) rfl rfl ?_
      refine rn_iload (x := (max (cnt (lkP L v) : Int) ((cnt (lawB L) : Int) - (cnt (lkP L v) : Int)))) (q := 55) dX9_tries_53 rfl rfl ?_
      refine rn_iload_n (x := t) (q := 56) dX9_tries_55 rfl rfl ?_
      refine rn_cmplt (t := 62) (q := 59) dX9_tries_56 rfl rfl (fun w56 => ?_) (fun w56 => ?_)
      · refine rn_iload (x := (v : Int)) (q := 64) dX9_tries_62 rfl rfl ?_
        refine rn_istore_n (ls' := [some (.inr (.inr 96)), some (.inl (cnt (lawB L) : Int)), some (.inl (v : Int)), some (.inl t), some (.inl (v : Int)), some (.inl (max (cnt (lkP L v) : Int) ((cnt (lawB L) : Int) - (cnt (lkP L v) : Int))))]) (q := 65) dX9_tries_64 (by decide) rfl rfl ?_
        refine rn_iload (x := (max (cnt (lkP L v) : Int) ((cnt (lawB L) : Int) - (cnt (lkP L v) : Int)))) (q := 67) dX9_tries_65 rfl rfl ?_
        refine rn_istore_n (ls' := [some (.inr (.inr 96)), some (.inl (cnt (lawB L) : Int)), some (.inl (v : Int)), some (.inl (max (cnt (lkP L v) : Int) ((cnt (lawB L) : Int) - (cnt (lkP L v) : Int)))), some (.inl (v : Int)), some (.inl (max (cnt (lkP L v) : Int) ((cnt (lawB L) : Int) - (cnt (lkP L v) : Int))))]) (q := 68) dX9_tries_67 (by decide) rfl rfl ?_
        refine rn_iincN (x := (v : Int)) (z := ((v + 1 : Nat) : Int)) (ls' := [some (.inr (.inr 96)), some (.inl (cnt (lawB L) : Int)), some (.inl (v : Int)), some (.inl (max (cnt (lkP L v) : Int) ((cnt (lawB L) : Int) - (cnt (lkP L v) : Int)))), some (.inl ((v + 1 : Nat) : Int)), some (.inl (max (cnt (lkP L v) : Int) ((cnt (lawB L) : Int) - (cnt (lkP L v) : Int))))]) (q := 71) dX9_tries_68 rfl (by decide) (by omega) (by unfold am_ok; omega) rfl rfl ?_
        refine rn_goto (t := 27) dX9_tries_71 rfl ?_
        first | exact ih (by omega) _ _ _ (by rw [tri, if_pos (by rw [eF]; omega)]) (by rw [tri, if_pos (by rw [eF]; omega), eF]) | exact ih (by omega) _ _ _ (by rw [tri, if_neg (by rw [eF]; omega)]; exact hs) (by rw [tri, if_neg (by rw [eF]; omega)]; exact ht)
      · refine rn_goto (t := 68) dX9_tries_59 rfl ?_
        refine rn_iincN (x := (v : Int)) (z := ((v + 1 : Nat) : Int)) (ls' := [some (.inr (.inr 96)), some (.inl (cnt (lawB L) : Int)), some (.inl s), some (.inl t), some (.inl ((v + 1 : Nat) : Int)), some (.inl (max (cnt (lkP L v) : Int) ((cnt (lawB L) : Int) - (cnt (lkP L v) : Int))))]) (q := 71) dX9_tries_68 rfl (by decide) (by omega) (by unfold am_ok; omega) rfl rfl ?_
        refine rn_goto (t := 27) dX9_tries_71 rfl ?_
        first | exact ih (by omega) _ _ _ (by rw [tri, if_pos (by rw [eF]; omega)]) (by rw [tri, if_pos (by rw [eF]; omega), eF]) | exact ih (by omega) _ _ _ (by rw [tri, if_neg (by rw [eF]; omega)]; exact hs) (by rw [tri, if_neg (by rw [eF]; omega)]; exact ht)
  refine rn_aload_n (x := 95) (q := 1) dX9_tries_0 rfl rfl ?_
  refine rn_iconst (q := 2) dX9_tries_1 (am_okd rfl) rfl ?_
  refine rn_puti (a := 95) (q := 5) dX9_tries_2 fl_X9_107 rfl rfl rfl rfl ?_
  refine rn_aload_n (x := 95) (q := 6) dX9_tries_5 rfl rfl ?_
  refine rn_iconst (q := 7) dX9_tries_6 (am_okd rfl) rfl ?_
  refine rn_callV (b := 95) (as := [.inl (-1)]) (rest := []) (q := 10) dX9_tries_7 ml_X9_357 sm_X9_liking rfl rfl (by decide) (by omega) rfl rfl (Nat.le_of_ble_eq_true rfl) rfl (s_likingA (d := d + 0) fL ho) ?_
  intro r7 mem7 hq7
  obtain ⟨rfl, rfl⟩ := hq7
  show am_Rn l G _ _ 10 [some (.inr (.inr 96)), none, none, none, none, none] [.inl (cnt (lawB L) : Int)] (am_up mem 95 11 0) _
  refine rn_istore_n (ls' := [some (.inr (.inr 96)), some (.inl (cnt (lawB L) : Int)), none, none, none, none]) (q := 11) dX9_tries_10 (by decide) rfl rfl ?_
  refine rn_iload_n (x := (cnt (lawB L) : Int)) (q := 12) dX9_tries_11 rfl rfl ?_
  refine rn_ifne (t := 18) (q := 15) dX9_tries_12 rfl rfl (fun w12 => ?_) (fun w12 => ?_)
  · refine rn_iconst (q := 19) dX9_tries_18 (am_okd rfl) rfl ?_
    refine rn_istore_n (ls' := [some (.inr (.inr 96)), some (.inl (cnt (lawB L) : Int)), some (.inl (-1)), none, none, none]) (q := 20) dX9_tries_19 (by decide) rfl rfl ?_
    refine rn_ldcw (n := 1000000) (q := 23) dX9_tries_20 kc_X9_323 rfl (am_okd rfl) rfl ?_
    refine rn_istore_n (ls' := [some (.inr (.inr 96)), some (.inl (cnt (lawB L) : Int)), some (.inl (-1)), some (.inl 1000000), none, none]) (q := 24) dX9_tries_23 (by decide) rfl rfl ?_
    refine rn_iconst (q := 25) dX9_tries_24 (am_okd rfl) rfl ?_
    refine rn_istore (ls' := [some (.inr (.inr 96)), some (.inl (cnt (lawB L) : Int)), some (.inl (-1)), some (.inl 1000000), some (.inl 0), none]) (q := 27) dX9_tries_25 (by decide) rfl rfl ?_
    exact K (by omega) 0 (by omega) _ _ _ rfl rfl
  · refine rn_bipush (q := 17) dX9_tries_15 ⟨by decide, by decide⟩ rfl ?_
    refine rn_iret dX9_tries_17 rfl ?_
    exact hQ _ _ (by unfold triA triR; rw [if_pos (by omega), if_pos (by omega)]; exact ⟨rfl, (frS.up (a := 95) (k := 11) (x := 0) frS.rf rfl), hR.kept (frS.rf.up rfl)⟩)
theorem s_saidQ {a : Nat} (ha : a = 65 ∨ a = 68) (hT : c_said a L mem) (x y : Int) : am_Sm l G yX5_add mt_X5_add d [.inr (.inr (a + 1)), .inl x, .inl y] mem (fun r m => (L.length = 12 ∧ r = some (.inl 0) ∧ mem = m) ∨ (L.length < 12 ∧ r = some (.inl 1) ∧ c_said a (L ++ [(x, y)]) m ∧ ∀ b, b ≠ a → b ≠ a + 1 → b ≠ a + 2 → m b = mem b)) := by
  refine am_Sm_mono (s_said ha hT x y) (fun r m hq => ?_)
  rcases hq with ⟨q1, q2, q3⟩ | hq
  · exact Or.inl ⟨q1, q2, q3.symm⟩
  · exact Or.inr hq
theorem c_look (hL : c_said 65 L mem) (v w : Int) : am_Sm l G yX8_look mt_X8_look (d + 1) [.inr (.inr 1), .inl v, .inl w] mem (fun q m => (¬ (0 ≤ v ∧ v ≤ 9 ∧ 0 ≤ w ∧ w ≤ 1) ∨ L.length = 12 → q = some (.inl (-1)) ∧ mem = m) ∧ ((0 ≤ v ∧ v ≤ 9 ∧ 0 ≤ w ∧ w ≤ 1) ∧ L.length ≠ 12 → q = some (.inl ((L.length + 1 : Nat) : Int)) ∧ c_said 65 (L ++ [(v, w)]) m ∧ ∀ b, b ≠ 65 → b ≠ 66 → b ≠ 67 → m b = mem b)) := by
  refine am_enterQ (ls := [some (.inr (.inr 1)), some (.inl v), some (.inl w)]) (by decide) rfl (Nat.le_of_ble_eq_true rfl) rfl (fun hok Q hQ => ?_)
  refine rn_iload_n (x := v) (q := 1) dX8_look_0 rfl rfl ?_
  refine rn_iflt (t := 19) (q := 4) dX8_look_1 rfl rfl (fun w1 => ?_) (fun w1 => ?_)
  · refine rn_iconst (q := 20) dX8_look_19 (am_okd rfl) rfl ?_
    refine rn_iret dX8_look_20 rfl ?_
    exact hQ _ _ ⟨fun _ => ⟨rfl, rfl⟩, fun hn => by omega⟩
  · refine rn_iload_n (x := v) (q := 5) dX8_look_4 rfl rfl ?_
    refine rn_bipush (q := 7) dX8_look_5 ⟨by decide, by decide⟩ rfl ?_
    refine rn_cmpgt (t := 19) (q := 10) dX8_look_7 rfl rfl (fun w7 => ?_) (fun w7 => ?_)
    · refine rn_iconst (q := 20) dX8_look_19 (am_okd rfl) rfl ?_
      refine rn_iret dX8_look_20 rfl ?_
      exact hQ _ _ ⟨fun _ => ⟨rfl, rfl⟩, fun hn => by omega⟩
    · refine rn_iload_n (x := w) (q := 11) dX8_look_10 rfl rfl ?_
      refine rn_iflt (t := 19) (q := 14) dX8_look_11 rfl rfl (fun w11 => ?_) (fun w11 => ?_)
      · refine rn_iconst (q := 20) dX8_look_19 (am_okd rfl) rfl ?_
        refine rn_iret dX8_look_20 rfl ?_
        exact hQ _ _ ⟨fun _ => ⟨rfl, rfl⟩, fun hn => by omega⟩
      · refine rn_iload_n (x := w) (q := 15) dX8_look_14 rfl rfl ?_
        refine rn_iconst (q := 16) dX8_look_15 (am_okd rfl) rfl ?_
        refine rn_cmple (t := 21) (q := 19) dX8_look_16 rfl rfl (fun w16 => ?_) (fun w16 => ?_)
        · refine rn_aload_n (x := 0) (q := 22) dX8_look_21 rfl rfl ?_
          refine rn_get (a := 0) (v := .inr (.inr 66)) (q := 25) dX8_look_22 fl_X8_61 rfl rfl rfl ?_
          refine rn_iload_n (x := v) (q := 26) dX8_look_25 rfl rfl ?_
          refine rn_iload_n (x := w) (q := 27) dX8_look_26 rfl rfl ?_
          refine rn_callV (b := 65) (as := [.inl v, .inl w]) (rest := []) (q := 30) dX8_look_27 ml_X8_382 sm_X5_add rfl rfl (by decide) (by omega) rfl rfl (Nat.le_of_ble_eq_true rfl) rfl (s_saidQ (d := d + 0) (Or.inl rfl) hL v w) ?_
          intro r27 mem27 hq27
          obtain ⟨t12, rfl, rfl⟩ | ⟨t12, rfl, hs27, hf27⟩ := hq27
          · show am_Rn l G _ _ 30 [some (.inr (.inr 1)), some (.inl v), some (.inl w)] [.inl 0] mem _
            refine rn_ifeq (t := 43) (q := 33) dX8_look_30 rfl rfl (fun w30 => ?_) (fun h => absurd h (by decide))
            refine rn_iconst (q := 44) dX8_look_43 (am_okd rfl) rfl ?_
            refine rn_iret dX8_look_44 rfl ?_
            first | exact hQ _ _ ⟨fun _ => ⟨rfl, rfl⟩, fun hn => by omega⟩ | exact hQ _ _ ⟨fun hn => by omega, fun _ => ⟨rfl, hs27, hf27⟩⟩
          · show am_Rn l G _ _ 30 [some (.inr (.inr 1)), some (.inl v), some (.inl w)] [.inl 1] mem27 _
            refine rn_ifeq (t := 43) (q := 33) dX8_look_30 rfl rfl (fun h => absurd h (by decide)) (fun w30 => ?_)
            refine rn_aload_n (x := 0) (q := 34) dX8_look_33 rfl rfl ?_
            refine rn_get (a := 0) (v := .inr (.inr 66)) (q := 37) dX8_look_34 fl_X8_61 rfl rfl rfl ?_
            refine rn_get (a := 65) (v := .inl ((L.length + 1 : Nat) : Int)) (q := 40) dX8_look_37 fl_X8_385 rfl (am_gi (by have := hs27.1; rw [List.length_append] at this; exact this)) rfl ?_
            refine rn_goto (t := 44) dX8_look_40 rfl ?_
            refine rn_iret dX8_look_44 rfl ?_
            first | exact hQ _ _ ⟨fun _ => ⟨rfl, rfl⟩, fun hn => by omega⟩ | exact hQ _ _ ⟨fun hn => by omega, fun _ => ⟨rfl, hs27, hf27⟩⟩
        · refine rn_iconst (q := 20) dX8_look_19 (am_okd rfl) rfl ?_
          refine rn_iret dX8_look_20 rfl ?_
          exact hQ _ _ ⟨fun _ => ⟨rfl, rfl⟩, fun hn => by omega⟩
theorem m_lookC (hL : m_look L mem) (v w : Int) : am_Sm l G yX9_look mt_X9_look (d + 1) [.inr (.inr 96), .inl v, .inl w] mem (fun q m => (¬ (0 ≤ v ∧ v ≤ 9 ∧ 0 ≤ w ∧ w ≤ 1) ∨ L.length = 12 → q = some (.inl (-1)) ∧ frS s9 mem m) ∧ ((0 ≤ v ∧ v ≤ 9 ∧ 0 ≤ w ∧ w ≤ 1) ∧ L.length ≠ 12 → q = some (.inl ((L.length + 1 : Nat) : Int)) ∧ m_look (L ++ [(v, w)]) m ∧ frS sLk mem m)) := by
  refine am_enterQ (ls := [some (.inr (.inr 96)), some (.inl v), some (.inl w)]) (by decide) rfl (Nat.le_of_ble_eq_true rfl) rfl (fun hok Q hQ => ?_)
  obtain ⟨B, a1, a2, a3, a4, a5⟩ := hL
  by_cases hv : (0 ≤ v ∧ v ≤ 9 ∧ 0 ≤ w ∧ w ≤ 1) ∧ L.length ≠ 12
  · obtain ⟨n, n1, n2, n3, n4⟩ := and_clG (b := B) (k := L.length) (by omega) (by omega)
    obtain ⟨iN, rfl⟩ : ∃ x : Nat, w = (x : Int) := ⟨w.toNat, by omega⟩
    have hsh : am_shl (iN : Int) (L.length : Int) = ((iN * 2 ^ L.length : Nat) : Int) := by
      have : ∀ x, x < 2 → ∀ k, k < 12 → am_shl ((x : Nat) : Int) ((k : Nat) : Int) = ((x * 2 ^ k : Nat) : Int) := by decide +kernel
      exact this iN (by omega) L.length (by omega)
    have hp : 2 ^ L.length < 4096 := Nat.pow_lt_pow_right (a := 2) (by decide) (show L.length < 12 by omega)
    have hi2 : iN * 2 ^ L.length ≤ 2 ^ L.length := by
      have : iN = 0 ∨ iN = 1 := by omega
      rcases this with e | e <;> subst e <;> simp
    refine rn_aload_n (x := 95) (q := 1) dX9_look_0 rfl rfl ?_
    refine rn_iconst (q := 2) dX9_look_1 (am_okd rfl) rfl ?_
    refine rn_puti (a := 95) (q := 5) dX9_look_2 fl_X9_107 rfl rfl rfl rfl ?_
    refine rn_iload_n (x := v) (q := 6) dX9_look_5 rfl rfl ?_
    refine rn_iconst (q := 7) dX9_look_6 (am_okd rfl) rfl ?_
    refine rn_bipush (q := 9) dX9_look_7 ⟨by decide, by decide⟩ rfl ?_
    refine rn_callS (as := [.inl v, .inl 0, .inl 9]) (rest := []) (q := 12) dX9_look_9 ml_X9_116 sm_X9_in (by omega) rfl rfl (Nat.le_of_ble_eq_true rfl) rfl (s_in9 (d := d + 0) v 0 9) ?_
    intro r9 mem9 hq9
    obtain ⟨⟨rfl, hi9⟩ | ⟨rfl, hi9⟩, rfl⟩ := hq9
    · show am_Rn l G _ _ 12 [some (.inr (.inr 96)), some (.inl v), some (.inl (iN : Int))] [.inl 1] (am_up mem 95 11 0) _
      refine rn_ifeq (t := 33) (q := 15) dX9_look_12 rfl rfl (fun h => absurd h (by decide)) (fun w12 => ?_)
      refine rn_iload_n (x := (iN : Int)) (q := 16) dX9_look_15 rfl rfl ?_
      refine rn_iconst (q := 17) dX9_look_16 (am_okd rfl) rfl ?_
      refine rn_iconst (q := 18) dX9_look_17 (am_okd rfl) rfl ?_
      refine rn_callS (as := [.inl (iN : Int), .inl 0, .inl 1]) (rest := []) (q := 21) dX9_look_18 ml_X9_116 sm_X9_in (by omega) rfl rfl (Nat.le_of_ble_eq_true rfl) rfl (s_in9 (d := d + 0) (iN : Int) 0 1) ?_
      intro r18 mem18 hq18
      obtain ⟨⟨rfl, hi18⟩ | ⟨rfl, hi18⟩, rfl⟩ := hq18
      · show am_Rn l G _ _ 21 [some (.inr (.inr 96)), some (.inl v), some (.inl (iN : Int))] [.inl 1] (am_up mem 95 11 0) _
        refine rn_ifeq (t := 33) (q := 24) dX9_look_21 rfl rfl (fun h => absurd h (by decide)) (fun w21 => ?_)
        refine rn_aload_n (x := 95) (q := 25) dX9_look_24 rfl rfl ?_
        refine rn_get (a := 95) (v := .inl (L.length : Int)) (q := 28) dX9_look_25 fl_X9_348 rfl (am_gi a3) rfl ?_
        refine rn_bipush (q := 30) dX9_look_28 ⟨by decide, by decide⟩ rfl ?_
        refine rn_cmpne (t := 35) (q := 33) dX9_look_30 rfl rfl (fun w30 => ?_) (fun w30 => ?_)
        · refine rn_aload_n (x := 95) (q := 36) dX9_look_35 rfl rfl ?_
          refine rn_get (a := 95) (v := .inr (.inr 120)) (q := 39) dX9_look_36 fl_X9_85 rfl rfl rfl ?_
          refine rn_aload_n (x := 95) (q := 40) dX9_look_39 rfl rfl ?_
          refine rn_get (a := 95) (v := .inl (L.length : Int)) (q := 43) dX9_look_40 fl_X9_348 rfl (am_gi a3) rfl ?_
          refine rn_iload_n (x := v) (q := 44) dX9_look_43 rfl rfl ?_
          refine rn_iastV (a := 119) (m1 := am_up (am_up mem 95 11 0) 119 L.length v) (q := 45) dX9_look_44 rfl (by omega) (by omega) rfl rfl ?_
          refine rn_aload_n (x := 95) (q := 46) dX9_look_45 rfl rfl ?_
          refine rn_aload_n (x := 95) (q := 47) dX9_look_46 rfl rfl ?_
          refine rn_get (a := 95) (v := .inl (B : Int)) (q := 50) dX9_look_47 fl_X9_351 rfl (am_gi a1) rfl ?_
          refine rn_iconst (q := 51) dX9_look_50 (am_okd rfl) rfl ?_
          refine rn_aload_n (x := 95) (q := 52) dX9_look_51 rfl rfl ?_
          refine rn_get (a := 95) (v := .inl (L.length : Int)) (q := 55) dX9_look_52 fl_X9_348 rfl (am_gi a3) rfl ?_
          refine rn_ishl (q := 56) dX9_look_55 rfl ?_
          rw [show am_shl 1 (L.length : Int) = ((2 ^ L.length : Nat) : Int) from am_shl1 _ (by omega)]
          refine rn_iconst (q := 57) dX9_look_56 (am_okd rfl) rfl ?_
          refine rn_ixor (q := 58) dX9_look_57 rfl ?_
          refine rn_iand (q := 59) dX9_look_58 rfl ?_
          rw [show am_and (B : Int) (am_xor ((2 ^ L.length : Nat) : Int) (-1)) = (n : Int) from n2]
          refine rn_iload_n (x := (iN : Int)) (q := 60) dX9_look_59 rfl rfl ?_
          refine rn_aload_n (x := 95) (q := 61) dX9_look_60 rfl rfl ?_
          refine rn_get (a := 95) (v := .inl (L.length : Int)) (q := 64) dX9_look_61 fl_X9_348 rfl (am_gi a3) rfl ?_
          refine rn_ishl (q := 65) dX9_look_64 rfl ?_
          rw [show am_shl (iN : Int) (L.length : Int) = ((iN * 2 ^ L.length : Nat) : Int) from hsh]
          refine rn_ior (q := 66) dX9_look_65 rfl ?_
          rw [show am_or (n : Int) ((iN * 2 ^ L.length : Nat) : Int) = ((Nat.lor n (iN * 2 ^ L.length) : Nat) : Int) from (am_orN (by omega) (by omega))]
          refine rn_puti (a := 95) (q := 69) dX9_look_66 fl_X9_351 rfl rfl rfl rfl ?_
          refine rn_aload_n (x := 95) (q := 70) dX9_look_69 rfl rfl ?_
          refine rn_dup (q := 71) dX9_look_70 rfl rfl ?_
          refine rn_get (a := 95) (v := .inl (L.length : Int)) (q := 74) dX9_look_71 fl_X9_348 rfl (am_gi a3) rfl ?_
          refine rn_iconst (q := 75) dX9_look_74 (am_okd rfl) rfl ?_
          refine rn_iaddN (z := ((L.length + 1 : Nat) : Int)) (q := 76) dX9_look_75 (by omega) (by unfold am_ok; omega) rfl ?_
          refine rn_puti (a := 95) (q := 79) dX9_look_76 fl_X9_348 rfl rfl rfl rfl ?_
          refine rn_aload_n (x := 95) (q := 80) dX9_look_79 rfl rfl ?_
          refine rn_get (a := 95) (v := .inl ((L.length + 1 : Nat) : Int)) (q := 83) dX9_look_80 fl_X9_348 rfl rfl rfl ?_
          refine rn_iret dX9_look_83 rfl ?_
          refine hQ _ _ ⟨fun hn => by omega, fun _ => ⟨rfl, ⟨n ||| iN * 2 ^ L.length, rfl, Nat.or_lt_two_pow (n := 12) (by omega) (by omega), ?_, by rw [List.length_append]; show L.length + 1 ≤ 12; omega, fun i hi => ?_⟩, ((((frS.rf.up rfl).up rfl).up rfl).up rfl)⟩⟩
          · rw [List.length_append]; rfl
          · rw [lg_app hi]
            show am_up (am_up mem 95 11 0) 119 L.length v 119 i = _ ∧ _
            rw [am_up_at, Nat.testBit_or, n3 i (by simp at hi; omega)]
            by_cases e : i = L.length
            · subst e
              rw [if_pos rfl, if_pos rfl]
              refine ⟨rfl, ?_⟩
              have : iN = 0 ∨ iN = 1 := by omega
              rcases this with z | z <;> subst z <;> simp
            · rw [if_neg e, if_neg e]
              have hlt : i < L.length := by simp at hi; omega
              refine ⟨(a5 i hlt).1, ?_⟩
              rw [← (a5 i hlt).2]
              have hz : (iN * 2 ^ L.length).testBit i = false := by
                have : iN = 0 ∨ iN = 1 := by omega
                rcases this with z | z <;> subst z
                · simp
                · rw [Nat.one_mul, Nat.testBit_two_pow]; simp; omega
              rw [hz]
              simp [e]
        · refine rn_iconst (q := 34) dX9_look_33 (am_okd rfl) rfl ?_
          refine rn_iret dX9_look_34 rfl ?_
          exfalso; omega
      · show am_Rn l G _ _ 21 [some (.inr (.inr 96)), some (.inl v), some (.inl (iN : Int))] [.inl 0] (am_up mem 95 11 0) _
        refine rn_ifeq (t := 33) (q := 24) dX9_look_21 rfl rfl (fun w21 => ?_) (fun h => absurd h (by decide))
        refine rn_iconst (q := 34) dX9_look_33 (am_okd rfl) rfl ?_
        refine rn_iret dX9_look_34 rfl ?_
        exfalso; omega
    · show am_Rn l G _ _ 12 [some (.inr (.inr 96)), some (.inl v), some (.inl (iN : Int))] [.inl 0] (am_up mem 95 11 0) _
      refine rn_ifeq (t := 33) (q := 15) dX9_look_12 rfl rfl (fun w12 => ?_) (fun h => absurd h (by decide))
      refine rn_iconst (q := 34) dX9_look_33 (am_okd rfl) rfl ?_
      refine rn_iret dX9_look_34 rfl ?_
      exfalso; omega
  · refine rn_aload_n (x := 95) (q := 1) dX9_look_0 rfl rfl ?_
    refine rn_iconst (q := 2) dX9_look_1 (am_okd rfl) rfl ?_
    refine rn_puti (a := 95) (q := 5) dX9_look_2 fl_X9_107 rfl rfl rfl rfl ?_
    refine rn_iload_n (x := v) (q := 6) dX9_look_5 rfl rfl ?_
    refine rn_iconst (q := 7) dX9_look_6 (am_okd rfl) rfl ?_
    refine rn_bipush (q := 9) dX9_look_7 ⟨by decide, by decide⟩ rfl ?_
    refine rn_callS (as := [.inl v, .inl 0, .inl 9]) (rest := []) (q := 12) dX9_look_9 ml_X9_116 sm_X9_in (by omega) rfl rfl (Nat.le_of_ble_eq_true rfl) rfl (s_in9 (d := d + 0) v 0 9) ?_
    intro r9 mem9 hq9
    obtain ⟨⟨rfl, hi9⟩ | ⟨rfl, hi9⟩, rfl⟩ := hq9
    · show am_Rn l G _ _ 12 [some (.inr (.inr 96)), some (.inl v), some (.inl w)] [.inl 1] (am_up mem 95 11 0) _
      refine rn_ifeq (t := 33) (q := 15) dX9_look_12 rfl rfl (fun h => absurd h (by decide)) (fun w12 => ?_)
      refine rn_iload_n (x := w) (q := 16) dX9_look_15 rfl rfl ?_
      refine rn_iconst (q := 17) dX9_look_16 (am_okd rfl) rfl ?_
      refine rn_iconst (q := 18) dX9_look_17 (am_okd rfl) rfl ?_
      refine rn_callS (as := [.inl w, .inl 0, .inl 1]) (rest := []) (q := 21) dX9_look_18 ml_X9_116 sm_X9_in (by omega) rfl rfl (Nat.le_of_ble_eq_true rfl) rfl (s_in9 (d := d + 0) w 0 1) ?_
      intro r18 mem18 hq18
      obtain ⟨⟨rfl, hi18⟩ | ⟨rfl, hi18⟩, rfl⟩ := hq18
      · show am_Rn l G _ _ 21 [some (.inr (.inr 96)), some (.inl v), some (.inl w)] [.inl 1] (am_up mem 95 11 0) _
        refine rn_ifeq (t := 33) (q := 24) dX9_look_21 rfl rfl (fun h => absurd h (by decide)) (fun w21 => ?_)
        refine rn_aload_n (x := 95) (q := 25) dX9_look_24 rfl rfl ?_
        refine rn_get (a := 95) (v := .inl (L.length : Int)) (q := 28) dX9_look_25 fl_X9_348 rfl (am_gi a3) rfl ?_
        refine rn_bipush (q := 30) dX9_look_28 ⟨by decide, by decide⟩ rfl ?_
        refine rn_cmpne (t := 35) (q := 33) dX9_look_30 rfl rfl (fun w30 => ?_) (fun w30 => ?_)
        · exfalso; omega
        · refine rn_iconst (q := 34) dX9_look_33 (am_okd rfl) rfl ?_
          refine rn_iret dX9_look_34 rfl ?_
          exact hQ _ _ ⟨fun _ => ⟨rfl, frS.rf.up rfl⟩, fun hn => absurd hn hv⟩
      · show am_Rn l G _ _ 21 [some (.inr (.inr 96)), some (.inl v), some (.inl w)] [.inl 0] (am_up mem 95 11 0) _
        refine rn_ifeq (t := 33) (q := 24) dX9_look_21 rfl rfl (fun w21 => ?_) (fun h => absurd h (by decide))
        refine rn_iconst (q := 34) dX9_look_33 (am_okd rfl) rfl ?_
        refine rn_iret dX9_look_34 rfl ?_
        exact hQ _ _ ⟨fun _ => ⟨rfl, frS.rf.up rfl⟩, fun hn => absurd hn hv⟩
    · show am_Rn l G _ _ 12 [some (.inr (.inr 96)), some (.inl v), some (.inl w)] [.inl 0] (am_up mem 95 11 0) _
      refine rn_ifeq (t := 33) (q := 15) dX9_look_12 rfl rfl (fun w12 => ?_) (fun h => absurd h (by decide))
      refine rn_iconst (q := 34) dX9_look_33 (am_okd rfl) rfl ?_
      refine rn_iret dX9_look_34 rfl ?_
      exact hQ _ _ ⟨fun _ => ⟨rfl, frS.rf.up rfl⟩, fun hn => absurd hn hv⟩
theorem c_forget (hL : c_said 65 L mem) : am_Sm l G yX8_forget mt_X8_forget d [.inr (.inr 1)] mem (fun q m => q = some (.inl (L.length : Int)) ∧ c_said 65 [] m ∧ ∀ b, b ≠ 65 → m b = mem b) := by
  refine am_enterQ (ls := [some (.inr (.inr 1)), none]) (by decide) rfl (Nat.le_of_ble_eq_true rfl) rfl (fun hok Q hQ => ?_)
  refine rn_aload_n (x := 0) (q := 1) dX8_forget_0 rfl rfl ?_
  refine rn_get (a := 0) (v := .inr (.inr 66)) (q := 4) dX8_forget_1 fl_X8_61 rfl rfl rfl ?_
  refine rn_get (a := 65) (v := .inl (L.length : Int)) (q := 7) dX8_forget_4 fl_X8_385 rfl (am_gi hL.1) rfl ?_
  refine rn_istore_n (ls' := [some (.inr (.inr 1)), some (.inl (L.length : Int))]) (q := 8) dX8_forget_7 (by decide) rfl rfl ?_
  refine rn_aload_n (x := 0) (q := 9) dX8_forget_8 rfl rfl ?_
  refine rn_get (a := 0) (v := .inr (.inr 66)) (q := 12) dX8_forget_9 fl_X8_61 rfl rfl rfl ?_
  refine rn_iconst (q := 13) dX8_forget_12 (am_okd rfl) rfl ?_
  refine rn_puti (a := 65) (q := 16) dX8_forget_13 fl_X8_385 rfl rfl rfl rfl ?_
  refine rn_iload_n (x := (L.length : Int)) (q := 17) dX8_forget_16 rfl rfl ?_
  refine rn_iret dX8_forget_17 rfl ?_
  exact hQ _ _ ⟨rfl, ⟨rfl, Nat.zero_le _, fun i hi => absurd hi (Nat.not_lt_zero _)⟩, fun b hb => am_up_ne hb⟩
theorem m_forget (hL : m_look L mem) : am_Sm l G yX9_forget mt_X9_forget d [.inr (.inr 96)] mem (fun q m => q = some (.inl (L.length : Int)) ∧ m_look [] m ∧ frS sLk mem m) := by
  refine am_enterQ (ls := [some (.inr (.inr 96)), none]) (by decide) rfl (Nat.le_of_ble_eq_true rfl) rfl (fun hok Q hQ => ?_)
  obtain ⟨B, a1, a2, a3, a4, a5⟩ := hL
  refine rn_aload_n (x := 95) (q := 1) dX9_forget_0 rfl rfl ?_
  refine rn_iconst (q := 2) dX9_forget_1 (am_okd rfl) rfl ?_
  refine rn_puti (a := 95) (q := 5) dX9_forget_2 fl_X9_107 rfl rfl rfl rfl ?_
  refine rn_aload_n (x := 95) (q := 6) dX9_forget_5 rfl rfl ?_
  refine rn_get (a := 95) (v := .inl (L.length : Int)) (q := 9) dX9_forget_6 fl_X9_348 rfl (am_gi a3) rfl ?_
  refine rn_istore_n (ls' := [some (.inr (.inr 96)), some (.inl (L.length : Int))]) (q := 10) dX9_forget_9 (by decide) rfl rfl ?_
  refine rn_aload_n (x := 95) (q := 11) dX9_forget_10 rfl rfl ?_
  refine rn_iconst (q := 12) dX9_forget_11 (am_okd rfl) rfl ?_
  refine rn_puti (a := 95) (q := 15) dX9_forget_12 fl_X9_348 rfl rfl rfl rfl ?_
  refine rn_iload_n (x := (L.length : Int)) (q := 16) dX9_forget_15 rfl rfl ?_
  refine rn_iret dX9_forget_16 rfl ?_
  exact hQ _ _ ⟨rfl, ⟨B, a1, a2, rfl, Nat.zero_le _, fun i hi => absurd hi (Nat.not_lt_zero _)⟩, (frS.rf.up rfl).up rfl⟩
theorem s_canBe (w v : Int) : am_Sm l G yX8_canBeTold mt_X8_canBeTold d [.inl w, .inl v] mem (fun q m => ((q = some (.inl 1) ∧ toldOK w v) ∨ (q = some (.inl 0) ∧ ¬ toldOK w v)) ∧ mem = m) := by
  refine am_enterQ (ls := [some (.inl w), some (.inl v)]) (by decide) rfl (Nat.le_of_ble_eq_true rfl) rfl (fun hok Q hQ => ?_)
  refine rn_iload_n (x := w) (q := 1) dX8_canBeTold_0 rfl rfl ?_
  by_cases sw0 : w = 0
  · subst sw0
    refine rn_tabIn (o1 := 35) (t := 36) dX8_canBeTold_1 (by decide) (by decide) rfl rfl ?_
    refine rn_iload_n (x := v) (q := 37) dX8_canBeTold_36 rfl rfl ?_
    refine rn_iflt (t := 49) (q := 40) dX8_canBeTold_37 rfl rfl (fun w37 => ?_) (fun w37 => ?_)
    · refine rn_iconst (q := 50) dX8_canBeTold_49 (am_okd rfl) rfl ?_
      refine rn_zret dX8_canBeTold_50 rfl (by omega) ?_
      exact hQ _ _ ⟨by unfold toldOK; first | exact Or.inl ⟨rfl, by omega⟩ | exact Or.inr ⟨rfl, by omega⟩, rfl⟩
    · refine rn_iload_n (x := v) (q := 41) dX8_canBeTold_40 rfl rfl ?_
      refine rn_iconst (q := 42) dX8_canBeTold_41 (am_okd rfl) rfl ?_
      refine rn_cmpgt (t := 49) (q := 45) dX8_canBeTold_42 rfl rfl (fun w42 => ?_) (fun w42 => ?_)
      · refine rn_iconst (q := 50) dX8_canBeTold_49 (am_okd rfl) rfl ?_
        refine rn_zret dX8_canBeTold_50 rfl (by omega) ?_
        exact hQ _ _ ⟨by unfold toldOK; first | exact Or.inl ⟨rfl, by omega⟩ | exact Or.inr ⟨rfl, by omega⟩, rfl⟩
      · refine rn_iconst (q := 46) dX8_canBeTold_45 (am_okd rfl) rfl ?_
        refine rn_goto (t := 50) dX8_canBeTold_46 rfl ?_
        refine rn_zret dX8_canBeTold_50 rfl (by omega) ?_
        exact hQ _ _ ⟨by unfold toldOK; first | exact Or.inl ⟨rfl, by omega⟩ | exact Or.inr ⟨rfl, by omega⟩, rfl⟩
  · by_cases sw1 : w = 1
    · subst sw1
      refine rn_tabIn (o1 := 50) (t := 51) dX8_canBeTold_1 (by decide) (by decide) rfl rfl ?_
      refine rn_iload_n (x := v) (q := 52) dX8_canBeTold_51 rfl rfl ?_
      refine rn_iconst (q := 53) dX8_canBeTold_52 (am_okd rfl) rfl ?_
      refine rn_cmplt (t := 66) (q := 56) dX8_canBeTold_53 rfl rfl (fun w53 => ?_) (fun w53 => ?_)
      · refine rn_iconst (q := 67) dX8_canBeTold_66 (am_okd rfl) rfl ?_
        refine rn_zret dX8_canBeTold_67 rfl (by omega) ?_
        exact hQ _ _ ⟨by unfold toldOK; first | exact Or.inl ⟨rfl, by omega⟩ | exact Or.inr ⟨rfl, by omega⟩, rfl⟩
      · refine rn_iload_n (x := v) (q := 57) dX8_canBeTold_56 rfl rfl ?_
        refine rn_bipush (q := 59) dX8_canBeTold_57 ⟨by decide, by decide⟩ rfl ?_
        refine rn_cmpgt (t := 66) (q := 62) dX8_canBeTold_59 rfl rfl (fun w59 => ?_) (fun w59 => ?_)
        · refine rn_iconst (q := 67) dX8_canBeTold_66 (am_okd rfl) rfl ?_
          refine rn_zret dX8_canBeTold_67 rfl (by omega) ?_
          exact hQ _ _ ⟨by unfold toldOK; first | exact Or.inl ⟨rfl, by omega⟩ | exact Or.inr ⟨rfl, by omega⟩, rfl⟩
        · refine rn_iconst (q := 63) dX8_canBeTold_62 (am_okd rfl) rfl ?_
          refine rn_goto (t := 67) dX8_canBeTold_63 rfl ?_
          refine rn_zret dX8_canBeTold_67 rfl (by omega) ?_
          exact hQ _ _ ⟨by unfold toldOK; first | exact Or.inl ⟨rfl, by omega⟩ | exact Or.inr ⟨rfl, by omega⟩, rfl⟩
    · by_cases sw2 : w = 2
      · subst sw2
        refine rn_tabIn (o1 := 67) (t := 68) dX8_canBeTold_1 (by decide) (by decide) rfl rfl ?_
        refine rn_iload_n (x := v) (q := 69) dX8_canBeTold_68 rfl rfl ?_
        refine rn_iflt (t := 82) (q := 72) dX8_canBeTold_69 rfl rfl (fun w69 => ?_) (fun w69 => ?_)
        · refine rn_iconst (q := 83) dX8_canBeTold_82 (am_okd rfl) rfl ?_
          refine rn_zret dX8_canBeTold_83 rfl (by omega) ?_
          exact hQ _ _ ⟨by unfold toldOK; first | exact Or.inl ⟨rfl, by omega⟩ | exact Or.inr ⟨rfl, by omega⟩, rfl⟩
        · refine rn_iload_n (x := v) (q := 73) dX8_canBeTold_72 rfl rfl ?_
          refine rn_bipush (q := 75) dX8_canBeTold_73 ⟨by decide, by decide⟩ rfl ?_
          refine rn_cmpgt (t := 82) (q := 78) dX8_canBeTold_75 rfl rfl (fun w75 => ?_) (fun w75 => ?_)
          · refine rn_iconst (q := 83) dX8_canBeTold_82 (am_okd rfl) rfl ?_
            refine rn_zret dX8_canBeTold_83 rfl (by omega) ?_
            exact hQ _ _ ⟨by unfold toldOK; first | exact Or.inl ⟨rfl, by omega⟩ | exact Or.inr ⟨rfl, by omega⟩, rfl⟩
          · refine rn_iconst (q := 79) dX8_canBeTold_78 (am_okd rfl) rfl ?_
            refine rn_goto (t := 83) dX8_canBeTold_79 rfl ?_
            refine rn_zret dX8_canBeTold_83 rfl (by omega) ?_
            exact hQ _ _ ⟨by unfold toldOK; first | exact Or.inl ⟨rfl, by omega⟩ | exact Or.inr ⟨rfl, by omega⟩, rfl⟩
      · by_cases sw3 : w = 3
        · subst sw3
          refine rn_tabIn (o1 := 83) (t := 84) dX8_canBeTold_1 (by decide) (by decide) rfl rfl ?_
          refine rn_iload_n (x := v) (q := 85) dX8_canBeTold_84 rfl rfl ?_
          refine rn_iflt (t := 97) (q := 88) dX8_canBeTold_85 rfl rfl (fun w85 => ?_) (fun w85 => ?_)
          · refine rn_iconst (q := 98) dX8_canBeTold_97 (am_okd rfl) rfl ?_
            refine rn_zret dX8_canBeTold_98 rfl (by omega) ?_
            exact hQ _ _ ⟨by unfold toldOK; first | exact Or.inl ⟨rfl, by omega⟩ | exact Or.inr ⟨rfl, by omega⟩, rfl⟩
          · refine rn_iload_n (x := v) (q := 89) dX8_canBeTold_88 rfl rfl ?_
            refine rn_iconst (q := 90) dX8_canBeTold_89 (am_okd rfl) rfl ?_
            refine rn_cmpgt (t := 97) (q := 93) dX8_canBeTold_90 rfl rfl (fun w90 => ?_) (fun w90 => ?_)
            · refine rn_iconst (q := 98) dX8_canBeTold_97 (am_okd rfl) rfl ?_
              refine rn_zret dX8_canBeTold_98 rfl (by omega) ?_
              exact hQ _ _ ⟨by unfold toldOK; first | exact Or.inl ⟨rfl, by omega⟩ | exact Or.inr ⟨rfl, by omega⟩, rfl⟩
            · refine rn_iconst (q := 94) dX8_canBeTold_93 (am_okd rfl) rfl ?_
              refine rn_goto (t := 98) dX8_canBeTold_94 rfl ?_
              refine rn_zret dX8_canBeTold_98 rfl (by omega) ?_
              exact hQ _ _ ⟨by unfold toldOK; first | exact Or.inl ⟨rfl, by omega⟩ | exact Or.inr ⟨rfl, by omega⟩, rfl⟩
        · by_cases sw4 : w = 4
          · subst sw4
            refine rn_tabIn (o1 := 98) (t := 99) dX8_canBeTold_1 (by decide) (by decide) rfl rfl ?_
            refine rn_iload_n (x := v) (q := 100) dX8_canBeTold_99 rfl rfl ?_
            refine rn_iflt (t := 113) (q := 103) dX8_canBeTold_100 rfl rfl (fun w100 => ?_) (fun w100 => ?_)
            · refine rn_iconst (q := 114) dX8_canBeTold_113 (am_okd rfl) rfl ?_
              refine rn_zret dX8_canBeTold_114 rfl (by omega) ?_
              exact hQ _ _ ⟨by unfold toldOK; first | exact Or.inl ⟨rfl, by omega⟩ | exact Or.inr ⟨rfl, by omega⟩, rfl⟩
            · refine rn_iload_n (x := v) (q := 104) dX8_canBeTold_103 rfl rfl ?_
              refine rn_bipush (q := 106) dX8_canBeTold_104 ⟨by decide, by decide⟩ rfl ?_
              refine rn_cmpgt (t := 113) (q := 109) dX8_canBeTold_106 rfl rfl (fun w106 => ?_) (fun w106 => ?_)
              · refine rn_iconst (q := 114) dX8_canBeTold_113 (am_okd rfl) rfl ?_
                refine rn_zret dX8_canBeTold_114 rfl (by omega) ?_
                exact hQ _ _ ⟨by unfold toldOK; first | exact Or.inl ⟨rfl, by omega⟩ | exact Or.inr ⟨rfl, by omega⟩, rfl⟩
              · refine rn_iconst (q := 110) dX8_canBeTold_109 (am_okd rfl) rfl ?_
                refine rn_goto (t := 114) dX8_canBeTold_110 rfl ?_
                refine rn_zret dX8_canBeTold_114 rfl (by omega) ?_
                exact hQ _ _ ⟨by unfold toldOK; first | exact Or.inl ⟨rfl, by omega⟩ | exact Or.inr ⟨rfl, by omega⟩, rfl⟩
          · refine rn_tabOut (t := 115) dX8_canBeTold_1 (by omega) rfl ?_
            refine rn_iconst (q := 116) dX8_canBeTold_115 (am_okd rfl) rfl ?_
            refine rn_zret dX8_canBeTold_116 rfl (by omega) ?_
            exact hQ _ _ ⟨by unfold toldOK; first | exact Or.inl ⟨rfl, by omega⟩ | exact Or.inr ⟨rfl, by omega⟩, rfl⟩
theorem c_told (hL : c_said 68 L mem) (w v : Int) : am_Sm l G yX8_told mt_X8_told (d + 1) [.inr (.inr 1), .inl w, .inl v] mem (fun q m => (¬ toldOK w v ∨ L.length = 12 → q = some (.inl (-1)) ∧ mem = m) ∧ (toldOK w v ∧ L.length ≠ 12 → q = some (.inl ((L.length + 1 : Nat) : Int)) ∧ c_said 68 (L ++ [(w, v)]) m ∧ ∀ b, b ≠ 68 → b ≠ 69 → b ≠ 70 → m b = mem b)) := by
  refine am_enterQ (ls := [some (.inr (.inr 1)), some (.inl w), some (.inl v)]) (by decide) rfl (Nat.le_of_ble_eq_true rfl) rfl (fun hok Q hQ => ?_)
  refine rn_iload_n (x := w) (q := 1) dX8_told_0 rfl rfl ?_
  refine rn_iload_n (x := v) (q := 2) dX8_told_1 rfl rfl ?_
  refine rn_callS (as := [.inl w, .inl v]) (rest := []) (q := 5) dX8_told_2 ml_X8_407 sm_X8_canBeTold (by omega) rfl rfl (Nat.le_of_ble_eq_true rfl) rfl (s_canBe (d := d + 0) w v) ?_
  intro r2 mem2 hq2
  obtain ⟨⟨rfl, hc2⟩ | ⟨rfl, hc2⟩, rfl⟩ := hq2
  · show am_Rn l G _ _ 5 [some (.inr (.inr 1)), some (.inl w), some (.inl v)] [.inl 1] mem _
    refine rn_ifne (t := 10) (q := 8) dX8_told_5 rfl rfl (fun w5 => ?_) (fun h => absurd h (by decide))
    refine rn_aload_n (x := 0) (q := 11) dX8_told_10 rfl rfl ?_
    refine rn_get (a := 0) (v := .inr (.inr 69)) (q := 14) dX8_told_11 fl_X8_65 rfl rfl rfl ?_
    refine rn_iload_n (x := w) (q := 15) dX8_told_14 rfl rfl ?_
    refine rn_iload_n (x := v) (q := 16) dX8_told_15 rfl rfl ?_
    refine rn_callV (b := 68) (as := [.inl w, .inl v]) (rest := []) (q := 19) dX8_told_16 ml_X8_382 sm_X5_add rfl rfl (by decide) (by omega) rfl rfl (Nat.le_of_ble_eq_true rfl) rfl (s_saidQ (d := d + 0) (Or.inr rfl) hL w v) ?_
    intro r16 mem16 hq16
    obtain ⟨t12, rfl, rfl⟩ | ⟨t12, rfl, hs16, hf16⟩ := hq16
    · show am_Rn l G _ _ 19 [some (.inr (.inr 1)), some (.inl w), some (.inl v)] [.inl 0] mem _
      refine rn_ifeq (t := 32) (q := 22) dX8_told_19 rfl rfl (fun w19 => ?_) (fun h => absurd h (by decide))
      refine rn_iconst (q := 33) dX8_told_32 (am_okd rfl) rfl ?_
      refine rn_iret dX8_told_33 rfl ?_
      first | exact hQ _ _ ⟨fun _ => ⟨rfl, rfl⟩, fun hn => absurd t12 hn.2⟩ | exact hQ _ _ ⟨fun hn => by rcases hn with hn | hn; exact absurd hc2 hn; omega, fun _ => ⟨rfl, hs16, hf16⟩⟩
    · show am_Rn l G _ _ 19 [some (.inr (.inr 1)), some (.inl w), some (.inl v)] [.inl 1] mem16 _
      refine rn_ifeq (t := 32) (q := 22) dX8_told_19 rfl rfl (fun h => absurd h (by decide)) (fun w19 => ?_)
      refine rn_aload_n (x := 0) (q := 23) dX8_told_22 rfl rfl ?_
      refine rn_get (a := 0) (v := .inr (.inr 69)) (q := 26) dX8_told_23 fl_X8_65 rfl rfl rfl ?_
      refine rn_get (a := 68) (v := .inl ((L.length + 1 : Nat) : Int)) (q := 29) dX8_told_26 fl_X8_385 rfl (am_gi (by have := hs16.1; rw [List.length_append] at this; exact this)) rfl ?_
      refine rn_goto (t := 33) dX8_told_29 rfl ?_
      refine rn_iret dX8_told_33 rfl ?_
      first | exact hQ _ _ ⟨fun _ => ⟨rfl, rfl⟩, fun hn => absurd t12 hn.2⟩ | exact hQ _ _ ⟨fun hn => by rcases hn with hn | hn; exact absurd hc2 hn; omega, fun _ => ⟨rfl, hs16, hf16⟩⟩
  · show am_Rn l G _ _ 5 [some (.inr (.inr 1)), some (.inl w), some (.inl v)] [.inl 0] mem _
    refine rn_ifne (t := 10) (q := 8) dX8_told_5 rfl rfl (fun h => absurd h (by decide)) (fun w5 => ?_)
    refine rn_iconst (q := 9) dX8_told_8 (am_okd rfl) rfl ?_
    refine rn_iret dX8_told_9 rfl ?_
    exact hQ _ _ ⟨fun _ => ⟨rfl, rfl⟩, fun hn => absurd hn.1 hc2⟩
theorem m_toldC (hL : m_told L mem) (w v : Int) : am_Sm l G yX9_told mt_X9_told (d + 1) [.inr (.inr 96), .inl w, .inl v] mem (fun q m => (¬ toldOK w v ∨ L.length = 12 → q = some (.inl (-1)) ∧ frS s9 mem m) ∧ (toldOK w v ∧ L.length ≠ 12 → q = some (.inl ((L.length + 1 : Nat) : Int)) ∧ m_told (L ++ [(w, v)]) m ∧ frS sTd mem m)) := by
  refine am_enterQ (ls := [some (.inr (.inr 96)), some (.inl w), some (.inl v), none]) (by decide) rfl (Nat.le_of_ble_eq_true rfl) rfl (fun hok Q hQ => ?_)
  obtain ⟨a3, a4, a5⟩ := hL
  have key : ∀ i, i < (L ++ [(w, v)]).length → am_up (am_up mem 95 11 0) 121 L.length w 121 i = ((L ++ [(w, v)]).getD i (0, 0)).1 ∧ am_up (am_up (am_up mem 95 11 0) 121 L.length w) 122 L.length v 122 i = ((L ++ [(w, v)]).getD i (0, 0)).2 := by
    intro i hi
    rw [lg_app hi, am_up_at, am_up_at]
    by_cases e : i = L.length
    · rw [if_pos e, if_pos e, if_pos e]; exact ⟨rfl, rfl⟩
    · rw [if_neg e, if_neg e, if_neg e]; exact a5 i (by simp at hi; omega)
  refine rn_aload_n (x := 95) (q := 1) dX9_told_0 rfl rfl ?_
  refine rn_iconst (q := 2) dX9_told_1 (am_okd rfl) rfl ?_
  refine rn_puti (a := 95) (q := 5) dX9_told_2 fl_X9_107 rfl rfl rfl rfl ?_
  refine rn_iload_n (x := w) (q := 6) dX9_told_5 rfl rfl ?_
  refine rn_ifne (t := 13) (q := 9) dX9_told_6 rfl rfl (fun w6 => ?_) (fun w6 => ?_)
  · refine rn_iload_n (x := w) (q := 14) dX9_told_13 rfl rfl ?_
    refine rn_iconst (q := 15) dX9_told_14 (am_okd rfl) rfl ?_
    refine rn_cmpne (t := 23) (q := 18) dX9_told_15 rfl rfl (fun w15 => ?_) (fun w15 => ?_)
    · refine rn_iload_n (x := w) (q := 24) dX9_told_23 rfl rfl ?_
      refine rn_iconst (q := 25) dX9_told_24 (am_okd rfl) rfl ?_
      refine rn_cmpne (t := 32) (q := 28) dX9_told_25 rfl rfl (fun w25 => ?_) (fun w25 => ?_)
      · refine rn_bipush (q := 34) dX9_told_32 ⟨by decide, by decide⟩ rfl ?_
        refine rn_istore_n (ls' := [some (.inr (.inr 96)), some (.inl w), some (.inl v), some (.inl 9)]) (q := 35) dX9_told_34 (by decide) rfl rfl ?_
        refine rn_iload_n (x := w) (q := 36) dX9_told_35 rfl rfl ?_
        refine rn_iconst (q := 37) dX9_told_36 (am_okd rfl) rfl ?_
        refine rn_iconst (q := 38) dX9_told_37 (am_okd rfl) rfl ?_
        refine rn_callS (as := [.inl w, .inl 0, .inl 4]) (rest := []) (q := 41) dX9_told_38 ml_X9_116 sm_X9_in (by omega) rfl rfl (Nat.le_of_ble_eq_true rfl) rfl (s_in9 (d := d + 0) w 0 4) ?_
        intro r38 mem38 hq38
        obtain ⟨⟨rfl, hi38⟩ | ⟨rfl, hi38⟩, rfl⟩ := hq38
        · show am_Rn l G _ _ 41 [some (.inr (.inr 96)), some (.inl w), some (.inl v), some (.inl 9)] [.inl 1] (am_up mem 95 11 0) _
          refine rn_ifeq (t := 71) (q := 44) dX9_told_41 rfl rfl (fun h => absurd h (by decide)) (fun w41 => ?_)
          refine rn_iload_n (x := v) (q := 45) dX9_told_44 rfl rfl ?_
          refine rn_iload_n (x := w) (q := 46) dX9_told_45 rfl rfl ?_
          refine rn_iconst (q := 47) dX9_told_46 (am_okd rfl) rfl ?_
          refine rn_cmpne (t := 54) (q := 50) dX9_told_47 rfl rfl (fun w47 => ?_) (fun w47 => ?_)
          · refine rn_iconst (q := 55) dX9_told_54 (am_okd rfl) rfl ?_
            refine rn_iload_n (x := 9) (q := 56) dX9_told_55 rfl rfl ?_
            refine rn_callS (as := [.inl v, .inl 0, .inl 9]) (rest := []) (q := 59) dX9_told_56 ml_X9_116 sm_X9_in (by omega) rfl rfl (Nat.le_of_ble_eq_true rfl) rfl (s_in9 (d := d + 0) v 0 9) ?_
            intro r56 mem56 hq56
            obtain ⟨⟨rfl, hi56⟩ | ⟨rfl, hi56⟩, rfl⟩ := hq56
            · show am_Rn l G _ _ 59 [some (.inr (.inr 96)), some (.inl w), some (.inl v), some (.inl 9)] [.inl 1] (am_up mem 95 11 0) _
              refine rn_ifeq (t := 71) (q := 62) dX9_told_59 rfl rfl (fun h => absurd h (by decide)) (fun w59 => ?_)
              refine rn_aload_n (x := 95) (q := 63) dX9_told_62 rfl rfl ?_
              refine rn_get (a := 95) (v := .inl (L.length : Int)) (q := 66) dX9_told_63 fl_X9_370 rfl (am_gi a3) rfl ?_
              refine rn_bipush (q := 68) dX9_told_66 ⟨by decide, by decide⟩ rfl ?_
              refine rn_cmpne (t := 73) (q := 71) dX9_told_68 rfl rfl (fun w68 => ?_) (fun w68 => ?_)
              · refine rn_aload_n (x := 95) (q := 74) dX9_told_73 rfl rfl ?_
                refine rn_get (a := 95) (v := .inr (.inr 122)) (q := 77) dX9_told_74 fl_X9_91 rfl rfl rfl ?_
                refine rn_aload_n (x := 95) (q := 78) dX9_told_77 rfl rfl ?_
                refine rn_get (a := 95) (v := .inl (L.length : Int)) (q := 81) dX9_told_78 fl_X9_370 rfl (am_gi a3) rfl ?_
                refine rn_iload_n (x := w) (q := 82) dX9_told_81 rfl rfl ?_
                refine rn_iastV (a := 121) (m1 := am_up (am_up mem 95 11 0) 121 L.length w) (q := 83) dX9_told_82 rfl (by omega) (by omega) rfl rfl ?_
                refine rn_aload_n (x := 95) (q := 84) dX9_told_83 rfl rfl ?_
                refine rn_get (a := 95) (v := .inr (.inr 123)) (q := 87) dX9_told_84 fl_X9_94 rfl rfl rfl ?_
                refine rn_aload_n (x := 95) (q := 88) dX9_told_87 rfl rfl ?_
                refine rn_get (a := 95) (v := .inl (L.length : Int)) (q := 91) dX9_told_88 fl_X9_370 rfl (am_gi a3) rfl ?_
                refine rn_iload_n (x := v) (q := 92) dX9_told_91 rfl rfl ?_
                refine rn_iastV (a := 122) (m1 := am_up (am_up (am_up mem 95 11 0) 121 L.length w) 122 L.length v) (q := 93) dX9_told_92 rfl (by omega) (by omega) rfl rfl ?_
                refine rn_aload_n (x := 95) (q := 94) dX9_told_93 rfl rfl ?_
                refine rn_dup (q := 95) dX9_told_94 rfl rfl ?_
                refine rn_get (a := 95) (v := .inl (L.length : Int)) (q := 98) dX9_told_95 fl_X9_370 rfl (am_gi a3) rfl ?_
                refine rn_iconst (q := 99) dX9_told_98 (am_okd rfl) rfl ?_
                refine rn_iaddN (z := ((L.length + 1 : Nat) : Int)) (q := 100) dX9_told_99 (by omega) (by unfold am_ok; omega) rfl ?_
                refine rn_puti (a := 95) (q := 103) dX9_told_100 fl_X9_370 rfl rfl rfl rfl ?_
                refine rn_aload_n (x := 95) (q := 104) dX9_told_103 rfl rfl ?_
                refine rn_get (a := 95) (v := .inl ((L.length + 1 : Nat) : Int)) (q := 107) dX9_told_104 fl_X9_370 rfl rfl rfl ?_
                refine rn_iret dX9_told_107 rfl ?_
                first | (exfalso; omega) | exact hQ _ _ ⟨fun hn => by unfold toldOK at hn; omega, fun _ => ⟨rfl, ⟨by rw [List.length_append]; rfl, by rw [List.length_append]; show L.length + 1 ≤ 12; omega, key⟩, (((frS.rf.up rfl).up rfl).up rfl).up rfl⟩⟩
              · refine rn_iconst (q := 72) dX9_told_71 (am_okd rfl) rfl ?_
                refine rn_iret dX9_told_72 rfl ?_
                exact hQ _ _ ⟨fun _ => ⟨rfl, frS.rf.up rfl⟩, fun hn => by unfold toldOK at hn; omega⟩
            · show am_Rn l G _ _ 59 [some (.inr (.inr 96)), some (.inl w), some (.inl v), some (.inl 9)] [.inl 0] (am_up mem 95 11 0) _
              refine rn_ifeq (t := 71) (q := 62) dX9_told_59 rfl rfl (fun w59 => ?_) (fun h => absurd h (by decide))
              refine rn_iconst (q := 72) dX9_told_71 (am_okd rfl) rfl ?_
              refine rn_iret dX9_told_72 rfl ?_
              exact hQ _ _ ⟨fun _ => ⟨rfl, frS.rf.up rfl⟩, fun hn => by unfold toldOK at hn; omega⟩
          · refine rn_iconst (q := 51) dX9_told_50 (am_okd rfl) rfl ?_
            refine rn_goto (t := 55) dX9_told_51 rfl ?_
            refine rn_iload_n (x := 9) (q := 56) dX9_told_55 rfl rfl ?_
            refine rn_callS (as := [.inl v, .inl 1, .inl 9]) (rest := []) (q := 59) dX9_told_56 ml_X9_116 sm_X9_in (by omega) rfl rfl (Nat.le_of_ble_eq_true rfl) rfl (s_in9 (d := d + 0) v 1 9) ?_
            intro r56 mem56 hq56
            obtain ⟨⟨rfl, hi56⟩ | ⟨rfl, hi56⟩, rfl⟩ := hq56
            · show am_Rn l G _ _ 59 [some (.inr (.inr 96)), some (.inl w), some (.inl v), some (.inl 9)] [.inl 1] (am_up mem 95 11 0) _
              refine rn_ifeq (t := 71) (q := 62) dX9_told_59 rfl rfl (fun h => absurd h (by decide)) (fun w59 => ?_)
              refine rn_aload_n (x := 95) (q := 63) dX9_told_62 rfl rfl ?_
              refine rn_get (a := 95) (v := .inl (L.length : Int)) (q := 66) dX9_told_63 fl_X9_370 rfl (am_gi a3) rfl ?_
              refine rn_bipush (q := 68) dX9_told_66 ⟨by decide, by decide⟩ rfl ?_
              refine rn_cmpne (t := 73) (q := 71) dX9_told_68 rfl rfl (fun w68 => ?_) (fun w68 => ?_)
              · refine rn_aload_n (x := 95) (q := 74) dX9_told_73 rfl rfl ?_
                refine rn_get (a := 95) (v := .inr (.inr 122)) (q := 77) dX9_told_74 fl_X9_91 rfl rfl rfl ?_
                refine rn_aload_n (x := 95) (q := 78) dX9_told_77 rfl rfl ?_
                refine rn_get (a := 95) (v := .inl (L.length : Int)) (q := 81) dX9_told_78 fl_X9_370 rfl (am_gi a3) rfl ?_
                refine rn_iload_n (x := w) (q := 82) dX9_told_81 rfl rfl ?_
                refine rn_iastV (a := 121) (m1 := am_up (am_up mem 95 11 0) 121 L.length w) (q := 83) dX9_told_82 rfl (by omega) (by omega) rfl rfl ?_
                refine rn_aload_n (x := 95) (q := 84) dX9_told_83 rfl rfl ?_
                refine rn_get (a := 95) (v := .inr (.inr 123)) (q := 87) dX9_told_84 fl_X9_94 rfl rfl rfl ?_
                refine rn_aload_n (x := 95) (q := 88) dX9_told_87 rfl rfl ?_
                refine rn_get (a := 95) (v := .inl (L.length : Int)) (q := 91) dX9_told_88 fl_X9_370 rfl (am_gi a3) rfl ?_
                refine rn_iload_n (x := v) (q := 92) dX9_told_91 rfl rfl ?_
                refine rn_iastV (a := 122) (m1 := am_up (am_up (am_up mem 95 11 0) 121 L.length w) 122 L.length v) (q := 93) dX9_told_92 rfl (by omega) (by omega) rfl rfl ?_
                refine rn_aload_n (x := 95) (q := 94) dX9_told_93 rfl rfl ?_
                refine rn_dup (q := 95) dX9_told_94 rfl rfl ?_
                refine rn_get (a := 95) (v := .inl (L.length : Int)) (q := 98) dX9_told_95 fl_X9_370 rfl (am_gi a3) rfl ?_
                refine rn_iconst (q := 99) dX9_told_98 (am_okd rfl) rfl ?_
                refine rn_iaddN (z := ((L.length + 1 : Nat) : Int)) (q := 100) dX9_told_99 (by omega) (by unfold am_ok; omega) rfl ?_
                refine rn_puti (a := 95) (q := 103) dX9_told_100 fl_X9_370 rfl rfl rfl rfl ?_
                refine rn_aload_n (x := 95) (q := 104) dX9_told_103 rfl rfl ?_
                refine rn_get (a := 95) (v := .inl ((L.length + 1 : Nat) : Int)) (q := 107) dX9_told_104 fl_X9_370 rfl rfl rfl ?_
                refine rn_iret dX9_told_107 rfl ?_
                first | (exfalso; omega) | exact hQ _ _ ⟨fun hn => by unfold toldOK at hn; omega, fun _ => ⟨rfl, ⟨by rw [List.length_append]; rfl, by rw [List.length_append]; show L.length + 1 ≤ 12; omega, key⟩, (((frS.rf.up rfl).up rfl).up rfl).up rfl⟩⟩
              · refine rn_iconst (q := 72) dX9_told_71 (am_okd rfl) rfl ?_
                refine rn_iret dX9_told_72 rfl ?_
                exact hQ _ _ ⟨fun _ => ⟨rfl, frS.rf.up rfl⟩, fun hn => by unfold toldOK at hn; omega⟩
            · show am_Rn l G _ _ 59 [some (.inr (.inr 96)), some (.inl w), some (.inl v), some (.inl 9)] [.inl 0] (am_up mem 95 11 0) _
              refine rn_ifeq (t := 71) (q := 62) dX9_told_59 rfl rfl (fun w59 => ?_) (fun h => absurd h (by decide))
              refine rn_iconst (q := 72) dX9_told_71 (am_okd rfl) rfl ?_
              refine rn_iret dX9_told_72 rfl ?_
              exact hQ _ _ ⟨fun _ => ⟨rfl, frS.rf.up rfl⟩, fun hn => by unfold toldOK at hn; omega⟩
        · show am_Rn l G _ _ 41 [some (.inr (.inr 96)), some (.inl w), some (.inl v), some (.inl 9)] [.inl 0] (am_up mem 95 11 0) _
          refine rn_ifeq (t := 71) (q := 44) dX9_told_41 rfl rfl (fun w41 => ?_) (fun h => absurd h (by decide))
          refine rn_iconst (q := 72) dX9_told_71 (am_okd rfl) rfl ?_
          refine rn_iret dX9_told_72 rfl ?_
          exact hQ _ _ ⟨fun _ => ⟨rfl, frS.rf.up rfl⟩, fun hn => by unfold toldOK at hn; omega⟩
      · refine rn_iconst (q := 29) dX9_told_28 (am_okd rfl) rfl ?_
        refine rn_goto (t := 34) dX9_told_29 rfl ?_
        refine rn_istore_n (ls' := [some (.inr (.inr 96)), some (.inl w), some (.inl v), some (.inl 1)]) (q := 35) dX9_told_34 (by decide) rfl rfl ?_
        refine rn_iload_n (x := w) (q := 36) dX9_told_35 rfl rfl ?_
        refine rn_iconst (q := 37) dX9_told_36 (am_okd rfl) rfl ?_
        refine rn_iconst (q := 38) dX9_told_37 (am_okd rfl) rfl ?_
        refine rn_callS (as := [.inl w, .inl 0, .inl 4]) (rest := []) (q := 41) dX9_told_38 ml_X9_116 sm_X9_in (by omega) rfl rfl (Nat.le_of_ble_eq_true rfl) rfl (s_in9 (d := d + 0) w 0 4) ?_
        intro r38 mem38 hq38
        obtain ⟨⟨rfl, hi38⟩ | ⟨rfl, hi38⟩, rfl⟩ := hq38
        · show am_Rn l G _ _ 41 [some (.inr (.inr 96)), some (.inl w), some (.inl v), some (.inl 1)] [.inl 1] (am_up mem 95 11 0) _
          refine rn_ifeq (t := 71) (q := 44) dX9_told_41 rfl rfl (fun h => absurd h (by decide)) (fun w41 => ?_)
          refine rn_iload_n (x := v) (q := 45) dX9_told_44 rfl rfl ?_
          refine rn_iload_n (x := w) (q := 46) dX9_told_45 rfl rfl ?_
          refine rn_iconst (q := 47) dX9_told_46 (am_okd rfl) rfl ?_
          refine rn_cmpne (t := 54) (q := 50) dX9_told_47 rfl rfl (fun w47 => ?_) (fun w47 => ?_)
          · refine rn_iconst (q := 55) dX9_told_54 (am_okd rfl) rfl ?_
            refine rn_iload_n (x := 1) (q := 56) dX9_told_55 rfl rfl ?_
            refine rn_callS (as := [.inl v, .inl 0, .inl 1]) (rest := []) (q := 59) dX9_told_56 ml_X9_116 sm_X9_in (by omega) rfl rfl (Nat.le_of_ble_eq_true rfl) rfl (s_in9 (d := d + 0) v 0 1) ?_
            intro r56 mem56 hq56
            obtain ⟨⟨rfl, hi56⟩ | ⟨rfl, hi56⟩, rfl⟩ := hq56
            · show am_Rn l G _ _ 59 [some (.inr (.inr 96)), some (.inl w), some (.inl v), some (.inl 1)] [.inl 1] (am_up mem 95 11 0) _
              refine rn_ifeq (t := 71) (q := 62) dX9_told_59 rfl rfl (fun h => absurd h (by decide)) (fun w59 => ?_)
              refine rn_aload_n (x := 95) (q := 63) dX9_told_62 rfl rfl ?_
              refine rn_get (a := 95) (v := .inl (L.length : Int)) (q := 66) dX9_told_63 fl_X9_370 rfl (am_gi a3) rfl ?_
              refine rn_bipush (q := 68) dX9_told_66 ⟨by decide, by decide⟩ rfl ?_
              refine rn_cmpne (t := 73) (q := 71) dX9_told_68 rfl rfl (fun w68 => ?_) (fun w68 => ?_)
              · refine rn_aload_n (x := 95) (q := 74) dX9_told_73 rfl rfl ?_
                refine rn_get (a := 95) (v := .inr (.inr 122)) (q := 77) dX9_told_74 fl_X9_91 rfl rfl rfl ?_
                refine rn_aload_n (x := 95) (q := 78) dX9_told_77 rfl rfl ?_
                refine rn_get (a := 95) (v := .inl (L.length : Int)) (q := 81) dX9_told_78 fl_X9_370 rfl (am_gi a3) rfl ?_
                refine rn_iload_n (x := w) (q := 82) dX9_told_81 rfl rfl ?_
                refine rn_iastV (a := 121) (m1 := am_up (am_up mem 95 11 0) 121 L.length w) (q := 83) dX9_told_82 rfl (by omega) (by omega) rfl rfl ?_
                refine rn_aload_n (x := 95) (q := 84) dX9_told_83 rfl rfl ?_
                refine rn_get (a := 95) (v := .inr (.inr 123)) (q := 87) dX9_told_84 fl_X9_94 rfl rfl rfl ?_
                refine rn_aload_n (x := 95) (q := 88) dX9_told_87 rfl rfl ?_
                refine rn_get (a := 95) (v := .inl (L.length : Int)) (q := 91) dX9_told_88 fl_X9_370 rfl (am_gi a3) rfl ?_
                refine rn_iload_n (x := v) (q := 92) dX9_told_91 rfl rfl ?_
                refine rn_iastV (a := 122) (m1 := am_up (am_up (am_up mem 95 11 0) 121 L.length w) 122 L.length v) (q := 93) dX9_told_92 rfl (by omega) (by omega) rfl rfl ?_
                refine rn_aload_n (x := 95) (q := 94) dX9_told_93 rfl rfl ?_
                refine rn_dup (q := 95) dX9_told_94 rfl rfl ?_
                refine rn_get (a := 95) (v := .inl (L.length : Int)) (q := 98) dX9_told_95 fl_X9_370 rfl (am_gi a3) rfl ?_
                refine rn_iconst (q := 99) dX9_told_98 (am_okd rfl) rfl ?_
                refine rn_iaddN (z := ((L.length + 1 : Nat) : Int)) (q := 100) dX9_told_99 (by omega) (by unfold am_ok; omega) rfl ?_
                refine rn_puti (a := 95) (q := 103) dX9_told_100 fl_X9_370 rfl rfl rfl rfl ?_
                refine rn_aload_n (x := 95) (q := 104) dX9_told_103 rfl rfl ?_
                refine rn_get (a := 95) (v := .inl ((L.length + 1 : Nat) : Int)) (q := 107) dX9_told_104 fl_X9_370 rfl rfl rfl ?_
                refine rn_iret dX9_told_107 rfl ?_
                first | (exfalso; omega) | exact hQ _ _ ⟨fun hn => by unfold toldOK at hn; omega, fun _ => ⟨rfl, ⟨by rw [List.length_append]; rfl, by rw [List.length_append]; show L.length + 1 ≤ 12; omega, key⟩, (((frS.rf.up rfl).up rfl).up rfl).up rfl⟩⟩
              · refine rn_iconst (q := 72) dX9_told_71 (am_okd rfl) rfl ?_
                refine rn_iret dX9_told_72 rfl ?_
                exact hQ _ _ ⟨fun _ => ⟨rfl, frS.rf.up rfl⟩, fun hn => by unfold toldOK at hn; omega⟩
            · show am_Rn l G _ _ 59 [some (.inr (.inr 96)), some (.inl w), some (.inl v), some (.inl 1)] [.inl 0] (am_up mem 95 11 0) _
              refine rn_ifeq (t := 71) (q := 62) dX9_told_59 rfl rfl (fun w59 => ?_) (fun h => absurd h (by decide))
              refine rn_iconst (q := 72) dX9_told_71 (am_okd rfl) rfl ?_
              refine rn_iret dX9_told_72 rfl ?_
              exact hQ _ _ ⟨fun _ => ⟨rfl, frS.rf.up rfl⟩, fun hn => by unfold toldOK at hn; omega⟩
          · refine rn_iconst (q := 51) dX9_told_50 (am_okd rfl) rfl ?_
            refine rn_goto (t := 55) dX9_told_51 rfl ?_
            refine rn_iload_n (x := 1) (q := 56) dX9_told_55 rfl rfl ?_
            refine rn_callS (as := [.inl v, .inl 1, .inl 1]) (rest := []) (q := 59) dX9_told_56 ml_X9_116 sm_X9_in (by omega) rfl rfl (Nat.le_of_ble_eq_true rfl) rfl (s_in9 (d := d + 0) v 1 1) ?_
            intro r56 mem56 hq56
            obtain ⟨⟨rfl, hi56⟩ | ⟨rfl, hi56⟩, rfl⟩ := hq56
            · show am_Rn l G _ _ 59 [some (.inr (.inr 96)), some (.inl w), some (.inl v), some (.inl 1)] [.inl 1] (am_up mem 95 11 0) _
              refine rn_ifeq (t := 71) (q := 62) dX9_told_59 rfl rfl (fun h => absurd h (by decide)) (fun w59 => ?_)
              refine rn_aload_n (x := 95) (q := 63) dX9_told_62 rfl rfl ?_
              refine rn_get (a := 95) (v := .inl (L.length : Int)) (q := 66) dX9_told_63 fl_X9_370 rfl (am_gi a3) rfl ?_
              refine rn_bipush (q := 68) dX9_told_66 ⟨by decide, by decide⟩ rfl ?_
              refine rn_cmpne (t := 73) (q := 71) dX9_told_68 rfl rfl (fun w68 => ?_) (fun w68 => ?_)
              · refine rn_aload_n (x := 95) (q := 74) dX9_told_73 rfl rfl ?_
                refine rn_get (a := 95) (v := .inr (.inr 122)) (q := 77) dX9_told_74 fl_X9_91 rfl rfl rfl ?_
                refine rn_aload_n (x := 95) (q := 78) dX9_told_77 rfl rfl ?_
                refine rn_get (a := 95) (v := .inl (L.length : Int)) (q := 81) dX9_told_78 fl_X9_370 rfl (am_gi a3) rfl ?_
                refine rn_iload_n (x := w) (q := 82) dX9_told_81 rfl rfl ?_
                refine rn_iastV (a := 121) (m1 := am_up (am_up mem 95 11 0) 121 L.length w) (q := 83) dX9_told_82 rfl (by omega) (by omega) rfl rfl ?_
                refine rn_aload_n (x := 95) (q := 84) dX9_told_83 rfl rfl ?_
                refine rn_get (a := 95) (v := .inr (.inr 123)) (q := 87) dX9_told_84 fl_X9_94 rfl rfl rfl ?_
                refine rn_aload_n (x := 95) (q := 88) dX9_told_87 rfl rfl ?_
                refine rn_get (a := 95) (v := .inl (L.length : Int)) (q := 91) dX9_told_88 fl_X9_370 rfl (am_gi a3) rfl ?_
                refine rn_iload_n (x := v) (q := 92) dX9_told_91 rfl rfl ?_
                refine rn_iastV (a := 122) (m1 := am_up (am_up (am_up mem 95 11 0) 121 L.length w) 122 L.length v) (q := 93) dX9_told_92 rfl (by omega) (by omega) rfl rfl ?_
                refine rn_aload_n (x := 95) (q := 94) dX9_told_93 rfl rfl ?_
                refine rn_dup (q := 95) dX9_told_94 rfl rfl ?_
                refine rn_get (a := 95) (v := .inl (L.length : Int)) (q := 98) dX9_told_95 fl_X9_370 rfl (am_gi a3) rfl ?_
                refine rn_iconst (q := 99) dX9_told_98 (am_okd rfl) rfl ?_
                refine rn_iaddN (z := ((L.length + 1 : Nat) : Int)) (q := 100) dX9_told_99 (by omega) (by unfold am_ok; omega) rfl ?_
                refine rn_puti (a := 95) (q := 103) dX9_told_100 fl_X9_370 rfl rfl rfl rfl ?_
                refine rn_aload_n (x := 95) (q := 104) dX9_told_103 rfl rfl ?_
                refine rn_get (a := 95) (v := .inl ((L.length + 1 : Nat) : Int)) (q := 107) dX9_told_104 fl_X9_370 rfl rfl rfl ?_
                refine rn_iret dX9_told_107 rfl ?_
                first | (exfalso; omega) | exact hQ _ _ ⟨fun hn => by unfold toldOK at hn; omega, fun _ => ⟨rfl, ⟨by rw [List.length_append]; rfl, by rw [List.length_append]; show L.length + 1 ≤ 12; omega, key⟩, (((frS.rf.up rfl).up rfl).up rfl).up rfl⟩⟩
              · refine rn_iconst (q := 72) dX9_told_71 (am_okd rfl) rfl ?_
                refine rn_iret dX9_told_72 rfl ?_
                exact hQ _ _ ⟨fun _ => ⟨rfl, frS.rf.up rfl⟩, fun hn => by unfold toldOK at hn; omega⟩
            · show am_Rn l G _ _ 59 [some (.inr (.inr 96)), some (.inl w), some (.inl v), some (.inl 1)] [.inl 0] (am_up mem 95 11 0) _
              refine rn_ifeq (t := 71) (q := 62) dX9_told_59 rfl rfl (fun w59 => ?_) (fun h => absurd h (by decide))
              refine rn_iconst (q := 72) dX9_told_71 (am_okd rfl) rfl ?_
              refine rn_iret dX9_told_72 rfl ?_
              exact hQ _ _ ⟨fun _ => ⟨rfl, frS.rf.up rfl⟩, fun hn => by unfold toldOK at hn; omega⟩
        · show am_Rn l G _ _ 41 [some (.inr (.inr 96)), some (.inl w), some (.inl v), some (.inl 1)] [.inl 0] (am_up mem 95 11 0) _
          refine rn_ifeq (t := 71) (q := 44) dX9_told_41 rfl rfl (fun w41 => ?_) (fun h => absurd h (by decide))
          refine rn_iconst (q := 72) dX9_told_71 (am_okd rfl) rfl ?_
          refine rn_iret dX9_told_72 rfl ?_
          exact hQ _ _ ⟨fun _ => ⟨rfl, frS.rf.up rfl⟩, fun hn => by unfold toldOK at hn; omega⟩
    · refine rn_bipush (q := 20) dX9_told_18 ⟨by decide, by decide⟩ rfl ?_
      refine rn_goto (t := 34) dX9_told_20 rfl ?_
      refine rn_istore_n (ls' := [some (.inr (.inr 96)), some (.inl w), some (.inl v), some (.inl 99)]) (q := 35) dX9_told_34 (by decide) rfl rfl ?_
      refine rn_iload_n (x := w) (q := 36) dX9_told_35 rfl rfl ?_
      refine rn_iconst (q := 37) dX9_told_36 (am_okd rfl) rfl ?_
      refine rn_iconst (q := 38) dX9_told_37 (am_okd rfl) rfl ?_
      refine rn_callS (as := [.inl w, .inl 0, .inl 4]) (rest := []) (q := 41) dX9_told_38 ml_X9_116 sm_X9_in (by omega) rfl rfl (Nat.le_of_ble_eq_true rfl) rfl (s_in9 (d := d + 0) w 0 4) ?_
      intro r38 mem38 hq38
      obtain ⟨⟨rfl, hi38⟩ | ⟨rfl, hi38⟩, rfl⟩ := hq38
      · show am_Rn l G _ _ 41 [some (.inr (.inr 96)), some (.inl w), some (.inl v), some (.inl 99)] [.inl 1] (am_up mem 95 11 0) _
        refine rn_ifeq (t := 71) (q := 44) dX9_told_41 rfl rfl (fun h => absurd h (by decide)) (fun w41 => ?_)
        refine rn_iload_n (x := v) (q := 45) dX9_told_44 rfl rfl ?_
        refine rn_iload_n (x := w) (q := 46) dX9_told_45 rfl rfl ?_
        refine rn_iconst (q := 47) dX9_told_46 (am_okd rfl) rfl ?_
        refine rn_cmpne (t := 54) (q := 50) dX9_told_47 rfl rfl (fun w47 => ?_) (fun w47 => ?_)
        · refine rn_iconst (q := 55) dX9_told_54 (am_okd rfl) rfl ?_
          refine rn_iload_n (x := 99) (q := 56) dX9_told_55 rfl rfl ?_
          refine rn_callS (as := [.inl v, .inl 0, .inl 99]) (rest := []) (q := 59) dX9_told_56 ml_X9_116 sm_X9_in (by omega) rfl rfl (Nat.le_of_ble_eq_true rfl) rfl (s_in9 (d := d + 0) v 0 99) ?_
          intro r56 mem56 hq56
          obtain ⟨⟨rfl, hi56⟩ | ⟨rfl, hi56⟩, rfl⟩ := hq56
          · show am_Rn l G _ _ 59 [some (.inr (.inr 96)), some (.inl w), some (.inl v), some (.inl 99)] [.inl 1] (am_up mem 95 11 0) _
            refine rn_ifeq (t := 71) (q := 62) dX9_told_59 rfl rfl (fun h => absurd h (by decide)) (fun w59 => ?_)
            refine rn_aload_n (x := 95) (q := 63) dX9_told_62 rfl rfl ?_
            refine rn_get (a := 95) (v := .inl (L.length : Int)) (q := 66) dX9_told_63 fl_X9_370 rfl (am_gi a3) rfl ?_
            refine rn_bipush (q := 68) dX9_told_66 ⟨by decide, by decide⟩ rfl ?_
            refine rn_cmpne (t := 73) (q := 71) dX9_told_68 rfl rfl (fun w68 => ?_) (fun w68 => ?_)
            · refine rn_aload_n (x := 95) (q := 74) dX9_told_73 rfl rfl ?_
              refine rn_get (a := 95) (v := .inr (.inr 122)) (q := 77) dX9_told_74 fl_X9_91 rfl rfl rfl ?_
              refine rn_aload_n (x := 95) (q := 78) dX9_told_77 rfl rfl ?_
              refine rn_get (a := 95) (v := .inl (L.length : Int)) (q := 81) dX9_told_78 fl_X9_370 rfl (am_gi a3) rfl ?_
              refine rn_iload_n (x := w) (q := 82) dX9_told_81 rfl rfl ?_
              refine rn_iastV (a := 121) (m1 := am_up (am_up mem 95 11 0) 121 L.length w) (q := 83) dX9_told_82 rfl (by omega) (by omega) rfl rfl ?_
              refine rn_aload_n (x := 95) (q := 84) dX9_told_83 rfl rfl ?_
              refine rn_get (a := 95) (v := .inr (.inr 123)) (q := 87) dX9_told_84 fl_X9_94 rfl rfl rfl ?_
              refine rn_aload_n (x := 95) (q := 88) dX9_told_87 rfl rfl ?_
              refine rn_get (a := 95) (v := .inl (L.length : Int)) (q := 91) dX9_told_88 fl_X9_370 rfl (am_gi a3) rfl ?_
              refine rn_iload_n (x := v) (q := 92) dX9_told_91 rfl rfl ?_
              refine rn_iastV (a := 122) (m1 := am_up (am_up (am_up mem 95 11 0) 121 L.length w) 122 L.length v) (q := 93) dX9_told_92 rfl (by omega) (by omega) rfl rfl ?_
              refine rn_aload_n (x := 95) (q := 94) dX9_told_93 rfl rfl ?_
              refine rn_dup (q := 95) dX9_told_94 rfl rfl ?_
              refine rn_get (a := 95) (v := .inl (L.length : Int)) (q := 98) dX9_told_95 fl_X9_370 rfl (am_gi a3) rfl ?_
              refine rn_iconst (q := 99) dX9_told_98 (am_okd rfl) rfl ?_
              refine rn_iaddN (z := ((L.length + 1 : Nat) : Int)) (q := 100) dX9_told_99 (by omega) (by unfold am_ok; omega) rfl ?_
              refine rn_puti (a := 95) (q := 103) dX9_told_100 fl_X9_370 rfl rfl rfl rfl ?_
              refine rn_aload_n (x := 95) (q := 104) dX9_told_103 rfl rfl ?_
              refine rn_get (a := 95) (v := .inl ((L.length + 1 : Nat) : Int)) (q := 107) dX9_told_104 fl_X9_370 rfl rfl rfl ?_
              refine rn_iret dX9_told_107 rfl ?_
              first | (exfalso; omega) | exact hQ _ _ ⟨fun hn => by unfold toldOK at hn; omega, fun _ => ⟨rfl, ⟨by rw [List.length_append]; rfl, by rw [List.length_append]; show L.length + 1 ≤ 12; omega, key⟩, (((frS.rf.up rfl).up rfl).up rfl).up rfl⟩⟩
            · refine rn_iconst (q := 72) dX9_told_71 (am_okd rfl) rfl ?_
              refine rn_iret dX9_told_72 rfl ?_
              exact hQ _ _ ⟨fun _ => ⟨rfl, frS.rf.up rfl⟩, fun hn => by unfold toldOK at hn; omega⟩
          · show am_Rn l G _ _ 59 [some (.inr (.inr 96)), some (.inl w), some (.inl v), some (.inl 99)] [.inl 0] (am_up mem 95 11 0) _
            refine rn_ifeq (t := 71) (q := 62) dX9_told_59 rfl rfl (fun w59 => ?_) (fun h => absurd h (by decide))
            refine rn_iconst (q := 72) dX9_told_71 (am_okd rfl) rfl ?_
            refine rn_iret dX9_told_72 rfl ?_
            exact hQ _ _ ⟨fun _ => ⟨rfl, frS.rf.up rfl⟩, fun hn => by unfold toldOK at hn; omega⟩
        · refine rn_iconst (q := 51) dX9_told_50 (am_okd rfl) rfl ?_
          refine rn_goto (t := 55) dX9_told_51 rfl ?_
          refine rn_iload_n (x := 99) (q := 56) dX9_told_55 rfl rfl ?_
          refine rn_callS (as := [.inl v, .inl 1, .inl 99]) (rest := []) (q := 59) dX9_told_56 ml_X9_116 sm_X9_in (by omega) rfl rfl (Nat.le_of_ble_eq_true rfl) rfl (s_in9 (d := d + 0) v 1 99) ?_
          intro r56 mem56 hq56
          obtain ⟨⟨rfl, hi56⟩ | ⟨rfl, hi56⟩, rfl⟩ := hq56
          · show am_Rn l G _ _ 59 [some (.inr (.inr 96)), some (.inl w), some (.inl v), some (.inl 99)] [.inl 1] (am_up mem 95 11 0) _
            refine rn_ifeq (t := 71) (q := 62) dX9_told_59 rfl rfl (fun h => absurd h (by decide)) (fun w59 => ?_)
            refine rn_aload_n (x := 95) (q := 63) dX9_told_62 rfl rfl ?_
            refine rn_get (a := 95) (v := .inl (L.length : Int)) (q := 66) dX9_told_63 fl_X9_370 rfl (am_gi a3) rfl ?_
            refine rn_bipush (q := 68) dX9_told_66 ⟨by decide, by decide⟩ rfl ?_
            refine rn_cmpne (t := 73) (q := 71) dX9_told_68 rfl rfl (fun w68 => ?_) (fun w68 => ?_)
            · refine rn_aload_n (x := 95) (q := 74) dX9_told_73 rfl rfl ?_
              refine rn_get (a := 95) (v := .inr (.inr 122)) (q := 77) dX9_told_74 fl_X9_91 rfl rfl rfl ?_
              refine rn_aload_n (x := 95) (q := 78) dX9_told_77 rfl rfl ?_
              refine rn_get (a := 95) (v := .inl (L.length : Int)) (q := 81) dX9_told_78 fl_X9_370 rfl (am_gi a3) rfl ?_
              refine rn_iload_n (x := w) (q := 82) dX9_told_81 rfl rfl ?_
              refine rn_iastV (a := 121) (m1 := am_up (am_up mem 95 11 0) 121 L.length w) (q := 83) dX9_told_82 rfl (by omega) (by omega) rfl rfl ?_
              refine rn_aload_n (x := 95) (q := 84) dX9_told_83 rfl rfl ?_
              refine rn_get (a := 95) (v := .inr (.inr 123)) (q := 87) dX9_told_84 fl_X9_94 rfl rfl rfl ?_
              refine rn_aload_n (x := 95) (q := 88) dX9_told_87 rfl rfl ?_
              refine rn_get (a := 95) (v := .inl (L.length : Int)) (q := 91) dX9_told_88 fl_X9_370 rfl (am_gi a3) rfl ?_
              refine rn_iload_n (x := v) (q := 92) dX9_told_91 rfl rfl ?_
              refine rn_iastV (a := 122) (m1 := am_up (am_up (am_up mem 95 11 0) 121 L.length w) 122 L.length v) (q := 93) dX9_told_92 rfl (by omega) (by omega) rfl rfl ?_
              refine rn_aload_n (x := 95) (q := 94) dX9_told_93 rfl rfl ?_
              refine rn_dup (q := 95) dX9_told_94 rfl rfl ?_
              refine rn_get (a := 95) (v := .inl (L.length : Int)) (q := 98) dX9_told_95 fl_X9_370 rfl (am_gi a3) rfl ?_
              refine rn_iconst (q := 99) dX9_told_98 (am_okd rfl) rfl ?_
              refine rn_iaddN (z := ((L.length + 1 : Nat) : Int)) (q := 100) dX9_told_99 (by omega) (by unfold am_ok; omega) rfl ?_
              refine rn_puti (a := 95) (q := 103) dX9_told_100 fl_X9_370 rfl rfl rfl rfl ?_
              refine rn_aload_n (x := 95) (q := 104) dX9_told_103 rfl rfl ?_
              refine rn_get (a := 95) (v := .inl ((L.length + 1 : Nat) : Int)) (q := 107) dX9_told_104 fl_X9_370 rfl rfl rfl ?_
              refine rn_iret dX9_told_107 rfl ?_
              first | (exfalso; omega) | exact hQ _ _ ⟨fun hn => by unfold toldOK at hn; omega, fun _ => ⟨rfl, ⟨by rw [List.length_append]; rfl, by rw [List.length_append]; show L.length + 1 ≤ 12; omega, key⟩, (((frS.rf.up rfl).up rfl).up rfl).up rfl⟩⟩
            · refine rn_iconst (q := 72) dX9_told_71 (am_okd rfl) rfl ?_
              refine rn_iret dX9_told_72 rfl ?_
              exact hQ _ _ ⟨fun _ => ⟨rfl, frS.rf.up rfl⟩, fun hn => by unfold toldOK at hn; omega⟩
          · show am_Rn l G _ _ 59 [some (.inr (.inr 96)), some (.inl w), some (.inl v), some (.inl 99)] [.inl 0] (am_up mem 95 11 0) _
            refine rn_ifeq (t := 71) (q := 62) dX9_told_59 rfl rfl (fun w59 => ?_) (fun h => absurd h (by decide))
            refine rn_iconst (q := 72) dX9_told_71 (am_okd rfl) rfl ?_
            refine rn_iret dX9_told_72 rfl ?_
            exact hQ _ _ ⟨fun _ => ⟨rfl, frS.rf.up rfl⟩, fun hn => by unfold toldOK at hn; omega⟩
      · show am_Rn l G _ _ 41 [some (.inr (.inr 96)), some (.inl w), some (.inl v), some (.inl 99)] [.inl 0] (am_up mem 95 11 0) _
        refine rn_ifeq (t := 71) (q := 44) dX9_told_41 rfl rfl (fun w41 => ?_) (fun h => absurd h (by decide))
        refine rn_iconst (q := 72) dX9_told_71 (am_okd rfl) rfl ?_
        refine rn_iret dX9_told_72 rfl ?_
        exact hQ _ _ ⟨fun _ => ⟨rfl, frS.rf.up rfl⟩, fun hn => by unfold toldOK at hn; omega⟩
  · refine rn_iconst (q := 10) dX9_told_9 (am_okd rfl) rfl ?_
    refine rn_goto (t := 34) dX9_told_10 rfl ?_
    refine rn_istore_n (ls' := [some (.inr (.inr 96)), some (.inl w), some (.inl v), some (.inl 3)]) (q := 35) dX9_told_34 (by decide) rfl rfl ?_
    refine rn_iload_n (x := w) (q := 36) dX9_told_35 rfl rfl ?_
    refine rn_iconst (q := 37) dX9_told_36 (am_okd rfl) rfl ?_
    refine rn_iconst (q := 38) dX9_told_37 (am_okd rfl) rfl ?_
    refine rn_callS (as := [.inl w, .inl 0, .inl 4]) (rest := []) (q := 41) dX9_told_38 ml_X9_116 sm_X9_in (by omega) rfl rfl (Nat.le_of_ble_eq_true rfl) rfl (s_in9 (d := d + 0) w 0 4) ?_
    intro r38 mem38 hq38
    obtain ⟨⟨rfl, hi38⟩ | ⟨rfl, hi38⟩, rfl⟩ := hq38
    · show am_Rn l G _ _ 41 [some (.inr (.inr 96)), some (.inl w), some (.inl v), some (.inl 3)] [.inl 1] (am_up mem 95 11 0) _
      refine rn_ifeq (t := 71) (q := 44) dX9_told_41 rfl rfl (fun h => absurd h (by decide)) (fun w41 => ?_)
      refine rn_iload_n (x := v) (q := 45) dX9_told_44 rfl rfl ?_
      refine rn_iload_n (x := w) (q := 46) dX9_told_45 rfl rfl ?_
      refine rn_iconst (q := 47) dX9_told_46 (am_okd rfl) rfl ?_
      refine rn_cmpne (t := 54) (q := 50) dX9_told_47 rfl rfl (fun w47 => ?_) (fun w47 => ?_)
      · refine rn_iconst (q := 55) dX9_told_54 (am_okd rfl) rfl ?_
        refine rn_iload_n (x := 3) (q := 56) dX9_told_55 rfl rfl ?_
        refine rn_callS (as := [.inl v, .inl 0, .inl 3]) (rest := []) (q := 59) dX9_told_56 ml_X9_116 sm_X9_in (by omega) rfl rfl (Nat.le_of_ble_eq_true rfl) rfl (s_in9 (d := d + 0) v 0 3) ?_
        intro r56 mem56 hq56
        obtain ⟨⟨rfl, hi56⟩ | ⟨rfl, hi56⟩, rfl⟩ := hq56
        · show am_Rn l G _ _ 59 [some (.inr (.inr 96)), some (.inl w), some (.inl v), some (.inl 3)] [.inl 1] (am_up mem 95 11 0) _
          refine rn_ifeq (t := 71) (q := 62) dX9_told_59 rfl rfl (fun h => absurd h (by decide)) (fun w59 => ?_)
          refine rn_aload_n (x := 95) (q := 63) dX9_told_62 rfl rfl ?_
          refine rn_get (a := 95) (v := .inl (L.length : Int)) (q := 66) dX9_told_63 fl_X9_370 rfl (am_gi a3) rfl ?_
          refine rn_bipush (q := 68) dX9_told_66 ⟨by decide, by decide⟩ rfl ?_
          refine rn_cmpne (t := 73) (q := 71) dX9_told_68 rfl rfl (fun w68 => ?_) (fun w68 => ?_)
          · refine rn_aload_n (x := 95) (q := 74) dX9_told_73 rfl rfl ?_
            refine rn_get (a := 95) (v := .inr (.inr 122)) (q := 77) dX9_told_74 fl_X9_91 rfl rfl rfl ?_
            refine rn_aload_n (x := 95) (q := 78) dX9_told_77 rfl rfl ?_
            refine rn_get (a := 95) (v := .inl (L.length : Int)) (q := 81) dX9_told_78 fl_X9_370 rfl (am_gi a3) rfl ?_
            refine rn_iload_n (x := w) (q := 82) dX9_told_81 rfl rfl ?_
            refine rn_iastV (a := 121) (m1 := am_up (am_up mem 95 11 0) 121 L.length w) (q := 83) dX9_told_82 rfl (by omega) (by omega) rfl rfl ?_
            refine rn_aload_n (x := 95) (q := 84) dX9_told_83 rfl rfl ?_
            refine rn_get (a := 95) (v := .inr (.inr 123)) (q := 87) dX9_told_84 fl_X9_94 rfl rfl rfl ?_
            refine rn_aload_n (x := 95) (q := 88) dX9_told_87 rfl rfl ?_
            refine rn_get (a := 95) (v := .inl (L.length : Int)) (q := 91) dX9_told_88 fl_X9_370 rfl (am_gi a3) rfl ?_
            refine rn_iload_n (x := v) (q := 92) dX9_told_91 rfl rfl ?_
            refine rn_iastV (a := 122) (m1 := am_up (am_up (am_up mem 95 11 0) 121 L.length w) 122 L.length v) (q := 93) dX9_told_92 rfl (by omega) (by omega) rfl rfl ?_
            refine rn_aload_n (x := 95) (q := 94) dX9_told_93 rfl rfl ?_
            refine rn_dup (q := 95) dX9_told_94 rfl rfl ?_
            refine rn_get (a := 95) (v := .inl (L.length : Int)) (q := 98) dX9_told_95 fl_X9_370 rfl (am_gi a3) rfl ?_
            refine rn_iconst (q := 99) dX9_told_98 (am_okd rfl) rfl ?_
            refine rn_iaddN (z := ((L.length + 1 : Nat) : Int)) (q := 100) dX9_told_99 (by omega) (by unfold am_ok; omega) rfl ?_
            refine rn_puti (a := 95) (q := 103) dX9_told_100 fl_X9_370 rfl rfl rfl rfl ?_
            refine rn_aload_n (x := 95) (q := 104) dX9_told_103 rfl rfl ?_
            refine rn_get (a := 95) (v := .inl ((L.length + 1 : Nat) : Int)) (q := 107) dX9_told_104 fl_X9_370 rfl rfl rfl ?_
            refine rn_iret dX9_told_107 rfl ?_
            first | (exfalso; omega) | exact hQ _ _ ⟨fun hn => by unfold toldOK at hn; omega, fun _ => ⟨rfl, ⟨by rw [List.length_append]; rfl, by rw [List.length_append]; show L.length + 1 ≤ 12; omega, key⟩, (((frS.rf.up rfl).up rfl).up rfl).up rfl⟩⟩
          · refine rn_iconst (q := 72) dX9_told_71 (am_okd rfl) rfl ?_
            refine rn_iret dX9_told_72 rfl ?_
            exact hQ _ _ ⟨fun _ => ⟨rfl, frS.rf.up rfl⟩, fun hn => by unfold toldOK at hn; omega⟩
        · show am_Rn l G _ _ 59 [some (.inr (.inr 96)), some (.inl w), some (.inl v), some (.inl 3)] [.inl 0] (am_up mem 95 11 0) _
          refine rn_ifeq (t := 71) (q := 62) dX9_told_59 rfl rfl (fun w59 => ?_) (fun h => absurd h (by decide))
          refine rn_iconst (q := 72) dX9_told_71 (am_okd rfl) rfl ?_
          refine rn_iret dX9_told_72 rfl ?_
          exact hQ _ _ ⟨fun _ => ⟨rfl, frS.rf.up rfl⟩, fun hn => by unfold toldOK at hn; omega⟩
      · refine rn_iconst (q := 51) dX9_told_50 (am_okd rfl) rfl ?_
        refine rn_goto (t := 55) dX9_told_51 rfl ?_
        refine rn_iload_n (x := 3) (q := 56) dX9_told_55 rfl rfl ?_
        refine rn_callS (as := [.inl v, .inl 1, .inl 3]) (rest := []) (q := 59) dX9_told_56 ml_X9_116 sm_X9_in (by omega) rfl rfl (Nat.le_of_ble_eq_true rfl) rfl (s_in9 (d := d + 0) v 1 3) ?_
        intro r56 mem56 hq56
        obtain ⟨⟨rfl, hi56⟩ | ⟨rfl, hi56⟩, rfl⟩ := hq56
        · show am_Rn l G _ _ 59 [some (.inr (.inr 96)), some (.inl w), some (.inl v), some (.inl 3)] [.inl 1] (am_up mem 95 11 0) _
          refine rn_ifeq (t := 71) (q := 62) dX9_told_59 rfl rfl (fun h => absurd h (by decide)) (fun w59 => ?_)
          refine rn_aload_n (x := 95) (q := 63) dX9_told_62 rfl rfl ?_
          refine rn_get (a := 95) (v := .inl (L.length : Int)) (q := 66) dX9_told_63 fl_X9_370 rfl (am_gi a3) rfl ?_
          refine rn_bipush (q := 68) dX9_told_66 ⟨by decide, by decide⟩ rfl ?_
          refine rn_cmpne (t := 73) (q := 71) dX9_told_68 rfl rfl (fun w68 => ?_) (fun w68 => ?_)
          · refine rn_aload_n (x := 95) (q := 74) dX9_told_73 rfl rfl ?_
            refine rn_get (a := 95) (v := .inr (.inr 122)) (q := 77) dX9_told_74 fl_X9_91 rfl rfl rfl ?_
            refine rn_aload_n (x := 95) (q := 78) dX9_told_77 rfl rfl ?_
            refine rn_get (a := 95) (v := .inl (L.length : Int)) (q := 81) dX9_told_78 fl_X9_370 rfl (am_gi a3) rfl ?_
            refine rn_iload_n (x := w) (q := 82) dX9_told_81 rfl rfl ?_
            refine rn_iastV (a := 121) (m1 := am_up (am_up mem 95 11 0) 121 L.length w) (q := 83) dX9_told_82 rfl (by omega) (by omega) rfl rfl ?_
            refine rn_aload_n (x := 95) (q := 84) dX9_told_83 rfl rfl ?_
            refine rn_get (a := 95) (v := .inr (.inr 123)) (q := 87) dX9_told_84 fl_X9_94 rfl rfl rfl ?_
            refine rn_aload_n (x := 95) (q := 88) dX9_told_87 rfl rfl ?_
            refine rn_get (a := 95) (v := .inl (L.length : Int)) (q := 91) dX9_told_88 fl_X9_370 rfl (am_gi a3) rfl ?_
            refine rn_iload_n (x := v) (q := 92) dX9_told_91 rfl rfl ?_
            refine rn_iastV (a := 122) (m1 := am_up (am_up (am_up mem 95 11 0) 121 L.length w) 122 L.length v) (q := 93) dX9_told_92 rfl (by omega) (by omega) rfl rfl ?_
            refine rn_aload_n (x := 95) (q := 94) dX9_told_93 rfl rfl ?_
            refine rn_dup (q := 95) dX9_told_94 rfl rfl ?_
            refine rn_get (a := 95) (v := .inl (L.length : Int)) (q := 98) dX9_told_95 fl_X9_370 rfl (am_gi a3) rfl ?_
            refine rn_iconst (q := 99) dX9_told_98 (am_okd rfl) rfl ?_
            refine rn_iaddN (z := ((L.length + 1 : Nat) : Int)) (q := 100) dX9_told_99 (by omega) (by unfold am_ok; omega) rfl ?_
            refine rn_puti (a := 95) (q := 103) dX9_told_100 fl_X9_370 rfl rfl rfl rfl ?_
            refine rn_aload_n (x := 95) (q := 104) dX9_told_103 rfl rfl ?_
            refine rn_get (a := 95) (v := .inl ((L.length + 1 : Nat) : Int)) (q := 107) dX9_told_104 fl_X9_370 rfl rfl rfl ?_
            refine rn_iret dX9_told_107 rfl ?_
            first | (exfalso; omega) | exact hQ _ _ ⟨fun hn => by unfold toldOK at hn; omega, fun _ => ⟨rfl, ⟨by rw [List.length_append]; rfl, by rw [List.length_append]; show L.length + 1 ≤ 12; omega, key⟩, (((frS.rf.up rfl).up rfl).up rfl).up rfl⟩⟩
          · refine rn_iconst (q := 72) dX9_told_71 (am_okd rfl) rfl ?_
            refine rn_iret dX9_told_72 rfl ?_
            exact hQ _ _ ⟨fun _ => ⟨rfl, frS.rf.up rfl⟩, fun hn => by unfold toldOK at hn; omega⟩
        · show am_Rn l G _ _ 59 [some (.inr (.inr 96)), some (.inl w), some (.inl v), some (.inl 3)] [.inl 0] (am_up mem 95 11 0) _
          refine rn_ifeq (t := 71) (q := 62) dX9_told_59 rfl rfl (fun w59 => ?_) (fun h => absurd h (by decide))
          refine rn_iconst (q := 72) dX9_told_71 (am_okd rfl) rfl ?_
          refine rn_iret dX9_told_72 rfl ?_
          exact hQ _ _ ⟨fun _ => ⟨rfl, frS.rf.up rfl⟩, fun hn => by unfold toldOK at hn; omega⟩
    · show am_Rn l G _ _ 41 [some (.inr (.inr 96)), some (.inl w), some (.inl v), some (.inl 3)] [.inl 0] (am_up mem 95 11 0) _
      refine rn_ifeq (t := 71) (q := 44) dX9_told_41 rfl rfl (fun w41 => ?_) (fun h => absurd h (by decide))
      refine rn_iconst (q := 72) dX9_told_71 (am_okd rfl) rfl ?_
      refine rn_iret dX9_told_72 rfl ?_
      exact hQ _ _ ⟨fun _ => ⟨rfl, frS.rf.up rfl⟩, fun hn => by unfold toldOK at hn; omega⟩
theorem c_deny (hL : c_said 68 L mem) : am_Sm l G yX8_deny mt_X8_deny d [.inr (.inr 1)] mem (fun q m => q = some (.inl (L.length : Int)) ∧ c_said 68 [] m ∧ ∀ b, b ≠ 68 → m b = mem b) := by
  refine am_enterQ (ls := [some (.inr (.inr 1)), none]) (by decide) rfl (Nat.le_of_ble_eq_true rfl) rfl (fun hok Q hQ => ?_)
  refine rn_aload_n (x := 0) (q := 1) dX8_deny_0 rfl rfl ?_
  refine rn_get (a := 0) (v := .inr (.inr 69)) (q := 4) dX8_deny_1 fl_X8_65 rfl rfl rfl ?_
  refine rn_get (a := 68) (v := .inl (L.length : Int)) (q := 7) dX8_deny_4 fl_X8_385 rfl (am_gi hL.1) rfl ?_
  refine rn_istore_n (ls' := [some (.inr (.inr 1)), some (.inl (L.length : Int))]) (q := 8) dX8_deny_7 (by decide) rfl rfl ?_
  refine rn_aload_n (x := 0) (q := 9) dX8_deny_8 rfl rfl ?_
  refine rn_get (a := 0) (v := .inr (.inr 69)) (q := 12) dX8_deny_9 fl_X8_65 rfl rfl rfl ?_
  refine rn_iconst (q := 13) dX8_deny_12 (am_okd rfl) rfl ?_
  refine rn_puti (a := 68) (q := 16) dX8_deny_13 fl_X8_385 rfl rfl rfl rfl ?_
  refine rn_iload_n (x := (L.length : Int)) (q := 17) dX8_deny_16 rfl rfl ?_
  refine rn_iret dX8_deny_17 rfl ?_
  exact hQ _ _ ⟨rfl, ⟨rfl, Nat.zero_le _, fun i hi => absurd hi (Nat.not_lt_zero _)⟩, fun b hb => am_up_ne hb⟩
theorem m_deny (hL : m_told L mem) : am_Sm l G yX9_deny mt_X9_deny d [.inr (.inr 96)] mem (fun q m => q = some (.inl (L.length : Int)) ∧ m_told [] m ∧ frS sTd mem m) := by
  refine am_enterQ (ls := [some (.inr (.inr 96)), none]) (by decide) rfl (Nat.le_of_ble_eq_true rfl) rfl (fun hok Q hQ => ?_)
  obtain ⟨a3, a4, a5⟩ := hL
  refine rn_aload_n (x := 95) (q := 1) dX9_deny_0 rfl rfl ?_
  refine rn_iconst (q := 2) dX9_deny_1 (am_okd rfl) rfl ?_
  refine rn_puti (a := 95) (q := 5) dX9_deny_2 fl_X9_107 rfl rfl rfl rfl ?_
  refine rn_aload_n (x := 95) (q := 6) dX9_deny_5 rfl rfl ?_
  refine rn_get (a := 95) (v := .inl (L.length : Int)) (q := 9) dX9_deny_6 fl_X9_370 rfl (am_gi a3) rfl ?_
  refine rn_istore_n (ls' := [some (.inr (.inr 96)), some (.inl (L.length : Int))]) (q := 10) dX9_deny_9 (by decide) rfl rfl ?_
  refine rn_aload_n (x := 95) (q := 11) dX9_deny_10 rfl rfl ?_
  refine rn_iconst (q := 12) dX9_deny_11 (am_okd rfl) rfl ?_
  refine rn_puti (a := 95) (q := 15) dX9_deny_12 fl_X9_370 rfl rfl rfl rfl ?_
  refine rn_iload_n (x := (L.length : Int)) (q := 16) dX9_deny_15 rfl rfl ?_
  refine rn_iret dX9_deny_16 rfl ?_
  exact hQ _ _ ⟨rfl, ⟨rfl, Nat.zero_le _, fun i hi => absurd hi (Nat.not_lt_zero _)⟩, (frS.rf.up rfl).up rfl⟩
end P59
