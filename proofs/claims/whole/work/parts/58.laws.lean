/-! looks: look, forget, laws, sure, tries -/
section P58
variable {l : Launch} {G : am_G} {d : Nat} {r : Nat} {X : List Nat} {C : List Int} {sn : Nat} {sg : Nat → Nat} {h : hrs} {e : est} {NB : Nat} {mem m : am_M}
variable {L : List (Int × Int)}
theorem s_likingA (hL : m_look L mem) (ho : l_ok L) : am_Sm l G yX9_liking mt_X9_liking (d + 2) [.inr (.inr 96), .inl (-1)] mem (am_rr (some (.inl (cnt (lawB L) : Int))) mem) := by
  refine am_enterQ (ls := [some (.inr (.inr 96)), some (.inl (-1)), none, none, none]) (by decide) rfl (Nat.le_of_ble_eq_true rfl) rfl (fun hok Q hQ => ?_)
  have K : ∀ x : Nat, x ≤ 7 → 1 ≤ x → ∀ (s : Nat) (ly : Option am_V), s = (dcO (lawB L) (fun m => m) x).1 → am_Rn l G mt_X9_liking (d + 2) 4 [some (.inr (.inr 96)), some (.inl (-1)), some (.inl (s : Int)), some (.inl (x : Int)), ly] [] mem Q := by
    refine am_dn 7 (fun x hx ih h1 s ly hs => ?_)
    have o0 := dcO_ok7 (P := lawB L) x hx
    have K2 : x < 7 → ∀ y : Nat, y ≤ x → ∀ (s : Nat), s = (dcI (lawB L) x (dcO (lawB L) (fun m => m) x) y).1 → am_Rn l G mt_X9_liking (d + 2) 13 [some (.inr (.inr 96)), some (.inl (-1)), some (.inl (s : Int)), some (.inl (x : Int)), some (.inl (y : Int))] [] mem Q := by
      intro hlt
      refine am_dn x (fun y hy ih2 s hs => ?_)
      have o := dcI_le (P := lawB L) (x := x) (s := dcO (lawB L) (fun m => m) x) y
      refine rn_iload (x := (y : Int)) (q := 15) dX9_liking_13 rfl rfl ?_
      refine rn_iload_n (x := (x : Int)) (q := 16) dX9_liking_15 rfl rfl ?_
      refine rn_cmpge (t := 56) (q := 19) dX9_liking_16 rfl rfl (fun w16 => ?_) (fun w16 => ?_)
      · refine rn_iincN (x := (x : Int)) (z := ((x + 1 : Nat) : Int)) (ls' := [some (.inr (.inr 96)), some (.inl (-1)), some (.inl (s : Int)), some (.inl ((x + 1 : Nat) : Int)), some (.inl (y : Int))]) (q := 59) dX9_liking_56 rfl (by decide) (by omega) (by unfold am_ok; omega) rfl rfl ?_
        refine rn_goto (t := 4) dX9_liking_59 rfl ?_
        obtain rfl : y = x := by omega
        exact ih hlt (by omega) _ _ hs
      · refine rn_iload_n (x := (s : Int)) (q := 20) dX9_liking_19 rfl rfl ?_
        refine rn_aload_n (x := 95) (q := 21) dX9_liking_20 rfl rfl ?_
        refine rn_iload_n (x := (x : Int)) (q := 22) dX9_liking_21 rfl rfl ?_
        refine rn_iload (x := (y : Int)) (q := 24) dX9_liking_22 rfl rfl ?_
        refine rn_callV (b := 95) (as := [.inl (x : Int), .inl (y : Int)]) (rest := [.inl (s : Int)]) (q := 27) dX9_liking_24 ml_X9_354 sm_X9_isLaw rfl rfl (by decide) (by omega) rfl rfl (Nat.le_of_ble_eq_true rfl) rfl (s_isLaw (d := d + 0) hL ho x y (by omega)) ?_
        intro r24 mem24 hq24
        obtain ⟨⟨rfl, hc24⟩ | ⟨rfl, hc24⟩, rfl⟩ := hq24
        · show am_Rn l G _ _ 27 [some (.inr (.inr 96)), some (.inl (-1)), some (.inl (s : Int)), some (.inl (x : Int)), some (.inl (y : Int))] [.inl 1, .inl (s : Int)] mem _
          refine rn_ifeq (t := 47) (q := 30) dX9_liking_27 rfl rfl (fun h => absurd h (by decide)) (fun w27 => ?_)
          refine rn_iload_n (x := (-1)) (q := 31) dX9_liking_30 rfl rfl ?_
          refine rn_iconst (q := 32) dX9_liking_31 (am_okd rfl) rfl ?_
          refine rn_cmpeq (t := 43) (q := 35) dX9_liking_32 rfl rfl (fun w32 => ?_) (fun h => absurd h (by decide))
          refine rn_iconst (q := 44) dX9_liking_43 (am_okd rfl) rfl ?_
          refine rn_goto (t := 48) dX9_liking_44 rfl ?_
          refine rn_iaddN (z := ((s + 1 : Nat) : Int)) (q := 49) dX9_liking_48 (by omega) (by unfold am_ok; omega) rfl ?_
          refine rn_istore_n (ls' := [some (.inr (.inr 96)), some (.inl (-1)), some (.inl ((s + 1 : Nat) : Int)), some (.inl (x : Int)), some (.inl (y : Int))]) (q := 50) dX9_liking_49 (by decide) rfl rfl ?_
          refine rn_iincN (x := (y : Int)) (z := ((y + 1 : Nat) : Int)) (ls' := [some (.inr (.inr 96)), some (.inl (-1)), some (.inl ((s + 1 : Nat) : Int)), some (.inl (x : Int)), some (.inl ((y + 1 : Nat) : Int))]) (q := 53) dX9_liking_50 rfl (by decide) (by omega) (by unfold am_ok; omega) rfl rfl ?_
          refine rn_goto (t := 13) dX9_liking_53 rfl ?_
          first | exact ih2 (by omega) _ (by rw [dcI, if_pos hc24, hs]) | exact ih2 (by omega) _ (by rw [dcI, if_neg hc24, hs]; rfl)
        · show am_Rn l G _ _ 27 [some (.inr (.inr 96)), some (.inl (-1)), some (.inl (s : Int)), some (.inl (x : Int)), some (.inl (y : Int))] [.inl 0, .inl (s : Int)] mem _
          refine rn_ifeq (t := 47) (q := 30) dX9_liking_27 rfl rfl (fun w27 => ?_) (fun h => absurd h (by decide))
          refine rn_iconst (q := 48) dX9_liking_47 (am_okd rfl) rfl ?_
          refine rn_iaddN (z := ((s + 0 : Nat) : Int)) (q := 49) dX9_liking_48 (by omega) (by unfold am_ok; omega) rfl ?_
          refine rn_istore_n (ls' := [some (.inr (.inr 96)), some (.inl (-1)), some (.inl ((s + 0 : Nat) : Int)), some (.inl (x : Int)), some (.inl (y : Int))]) (q := 50) dX9_liking_49 (by decide) rfl rfl ?_
          refine rn_iincN (x := (y : Int)) (z := ((y + 1 : Nat) : Int)) (ls' := [some (.inr (.inr 96)), some (.inl (-1)), some (.inl ((s + 0 : Nat) : Int)), some (.inl (x : Int)), some (.inl ((y + 1 : Nat) : Int))]) (q := 53) dX9_liking_50 rfl (by decide) (by omega) (by unfold am_ok; omega) rfl rfl ?_
          refine rn_goto (t := 13) dX9_liking_53 rfl ?_
          first | exact ih2 (by omega) _ (by rw [dcI, if_pos hc24, hs]) | exact ih2 (by omega) _ (by rw [dcI, if_neg hc24, hs]; rfl)
    refine rn_iload_n (x := (x : Int)) (q := 5) dX9_liking_4 rfl rfl ?_
    refine rn_bipush (q := 7) dX9_liking_5 ⟨by decide, by decide⟩ rfl ?_
    refine rn_cmpgt (t := 62) (q := 10) dX9_liking_7 rfl rfl (fun w7 => ?_) (fun w7 => ?_)
    · refine rn_iload_n (x := (s : Int)) (q := 63) dX9_liking_62 rfl rfl ?_
      refine rn_iret dX9_liking_63 rfl ?_
      obtain rfl : x = 7 := by omega
      exact hQ _ _ ⟨by rw [hs]; rfl, rfl⟩
    · refine rn_iconst (q := 11) dX9_liking_10 (am_okd rfl) rfl ?_
      refine rn_istore (ls' := [some (.inr (.inr 96)), some (.inl (-1)), some (.inl (s : Int)), some (.inl (x : Int)), some (.inl 0)]) (q := 13) dX9_liking_11 (by decide) rfl rfl ?_
      exact K2 (by omega) 0 (by omega) s hs
  refine rn_iconst (q := 1) dX9_liking_0 (am_okd rfl) rfl ?_
  refine rn_istore_n (ls' := [some (.inr (.inr 96)), some (.inl (-1)), some (.inl 0), none, none]) (q := 2) dX9_liking_1 (by decide) rfl rfl ?_
  refine rn_iconst (q := 3) dX9_liking_2 (am_okd rfl) rfl ?_
  refine rn_istore_n (ls' := [some (.inr (.inr 96)), some (.inl (-1)), some (.inl 0), some (.inl 1), none]) (q := 4) dX9_liking_3 (by decide) rfl rfl ?_
  exact K 1 (by omega) (by omega) 0 _ rfl
theorem s_liking (hL : m_look L mem) (ho : l_ok L) (v : Nat) (hv : v ≤ 9) : am_Sm l G yX9_liking mt_X9_liking (d + 2) [.inr (.inr 96), .inl (v : Int)] mem (am_rr (some (.inl (cnt (lkP L v) : Int))) mem) := by
  refine am_enterQ (ls := [some (.inr (.inr 96)), some (.inl (v : Int)), none, none, none]) (by decide) rfl (Nat.le_of_ble_eq_true rfl) rfl (fun hok Q hQ => ?_)
  have K : ∀ x : Nat, x ≤ 7 → 1 ≤ x → ∀ (s : Nat) (ly : Option am_V), s = (dcO (lkP L v) (fun m => m) x).1 → am_Rn l G mt_X9_liking (d + 2) 4 [some (.inr (.inr 96)), some (.inl (v : Int)), some (.inl (s : Int)), some (.inl (x : Int)), ly] [] mem Q := by
    refine am_dn 7 (fun x hx ih h1 s ly hs => ?_)
    have o0 := dcO_ok7 (P := lkP L v) x hx
    have K2 : x < 7 → ∀ y : Nat, y ≤ x → ∀ (s : Nat), s = (dcI (lkP L v) x (dcO (lkP L v) (fun m => m) x) y).1 → am_Rn l G mt_X9_liking (d + 2) 13 [some (.inr (.inr 96)), some (.inl (v : Int)), some (.inl (s : Int)), some (.inl (x : Int)), some (.inl (y : Int))] [] mem Q := by
      intro hlt
      refine am_dn x (fun y hy ih2 s hs => ?_)
      have o := dcI_le (P := lkP L v) (x := x) (s := dcO (lkP L v) (fun m => m) x) y
      have m1 : v % x < x := Nat.mod_lt _ (by omega)
      refine rn_iload (x := (y : Int)) (q := 15) dX9_liking_13 rfl rfl ?_
      refine rn_iload_n (x := (x : Int)) (q := 16) dX9_liking_15 rfl rfl ?_
      refine rn_cmpge (t := 56) (q := 19) dX9_liking_16 rfl rfl (fun w16 => ?_) (fun w16 => ?_)
      · refine rn_iincN (x := (x : Int)) (z := ((x + 1 : Nat) : Int)) (ls' := [some (.inr (.inr 96)), some (.inl (v : Int)), some (.inl (s : Int)), some (.inl ((x + 1 : Nat) : Int)), some (.inl (y : Int))]) (q := 59) dX9_liking_56 rfl (by decide) (by omega) (by unfold am_ok; omega) rfl rfl ?_
        refine rn_goto (t := 4) dX9_liking_59 rfl ?_
        obtain rfl : y = x := by omega
        exact ih hlt (by omega) _ _ hs
      · refine rn_iload_n (x := (s : Int)) (q := 20) dX9_liking_19 rfl rfl ?_
        refine rn_aload_n (x := 95) (q := 21) dX9_liking_20 rfl rfl ?_
        refine rn_iload_n (x := (x : Int)) (q := 22) dX9_liking_21 rfl rfl ?_
        refine rn_iload (x := (y : Int)) (q := 24) dX9_liking_22 rfl rfl ?_
        refine rn_callV (b := 95) (as := [.inl (x : Int), .inl (y : Int)]) (rest := [.inl (s : Int)]) (q := 27) dX9_liking_24 ml_X9_354 sm_X9_isLaw rfl rfl (by decide) (by omega) rfl rfl (Nat.le_of_ble_eq_true rfl) rfl (s_isLaw (d := d + 0) hL ho x y (by omega)) ?_
        intro r24 mem24 hq24
        obtain ⟨⟨rfl, hc24⟩ | ⟨rfl, hc24⟩, rfl⟩ := hq24
        · show am_Rn l G _ _ 27 [some (.inr (.inr 96)), some (.inl (v : Int)), some (.inl (s : Int)), some (.inl (x : Int)), some (.inl (y : Int))] [.inl 1, .inl (s : Int)] mem _
          refine rn_ifeq (t := 47) (q := 30) dX9_liking_27 rfl rfl (fun h => absurd h (by decide)) (fun w27 => ?_)
          refine rn_iload_n (x := (v : Int)) (q := 31) dX9_liking_30 rfl rfl ?_
          refine rn_iconst (q := 32) dX9_liking_31 (am_okd rfl) rfl ?_
          refine rn_cmpeq (t := 43) (q := 35) dX9_liking_32 rfl rfl (fun h => absurd h (by omega)) (fun w32 => ?_)
          refine rn_iload_n (x := (v : Int)) (q := 36) dX9_liking_35 rfl rfl ?_
          refine rn_iload_n (x := (x : Int)) (q := 37) dX9_liking_36 rfl rfl ?_
          refine rn_iremN (z := ((v % x : Nat) : Int)) (q := 38) dX9_liking_37 (by omega) (Int.ofNat_tmod v x).symm (by unfold am_ok; omega) rfl ?_
          refine rn_iload (x := (y : Int)) (q := 40) dX9_liking_38 rfl rfl ?_
          refine rn_cmpne (t := 47) (q := 43) dX9_liking_40 rfl rfl (fun w40 => ?_) (fun w40 => ?_)
          · refine rn_iconst (q := 48) dX9_liking_47 (am_okd rfl) rfl ?_
            refine rn_iaddN (z := ((s + 0 : Nat) : Int)) (q := 49) dX9_liking_48 (by omega) (by unfold am_ok; omega) rfl ?_
            refine rn_istore_n (ls' := [some (.inr (.inr 96)), some (.inl (v : Int)), some (.inl ((s + 0 : Nat) : Int)), some (.inl (x : Int)), some (.inl (y : Int))]) (q := 50) dX9_liking_49 (by decide) rfl rfl ?_
            refine rn_iincN (x := (y : Int)) (z := ((y + 1 : Nat) : Int)) (ls' := [some (.inr (.inr 96)), some (.inl (v : Int)), some (.inl ((s + 0 : Nat) : Int)), some (.inl (x : Int)), some (.inl ((y + 1 : Nat) : Int))]) (q := 53) dX9_liking_50 rfl (by decide) (by omega) (by unfold am_ok; omega) rfl rfl ?_
            refine rn_goto (t := 13) dX9_liking_53 rfl ?_
            first | exact ih2 (by omega) _ (by rw [dcI, if_pos (by unfold lkP; rw [hc24, decide_eq_true (by rw [← Int.natCast_emod]; exact w40)]; rfl), hs]) | exact ih2 (by omega) _ (by rw [dcI, if_neg (by unfold lkP; intro z; rw [Bool.and_eq_true] at z; first | exact hc24 z.1 | exact w40 (by have := of_decide_eq_true z.2; rwa [← Int.natCast_emod] at this)), hs]; rfl)
          · refine rn_iconst (q := 44) dX9_liking_43 (am_okd rfl) rfl ?_
            refine rn_goto (t := 48) dX9_liking_44 rfl ?_
            refine rn_iaddN (z := ((s + 1 : Nat) : Int)) (q := 49) dX9_liking_48 (by omega) (by unfold am_ok; omega) rfl ?_
            refine rn_istore_n (ls' := [some (.inr (.inr 96)), some (.inl (v : Int)), some (.inl ((s + 1 : Nat) : Int)), some (.inl (x : Int)), some (.inl (y : Int))]) (q := 50) dX9_liking_49 (by decide) rfl rfl ?_
            refine rn_iincN (x := (y : Int)) (z := ((y + 1 : Nat) : Int)) (ls' := [some (.inr (.inr 96)), some (.inl (v : Int)), some (.inl ((s + 1 : Nat) : Int)), some (.inl (x : Int)), some (.inl ((y + 1 : Nat) : Int))]) (q := 53) dX9_liking_50 rfl (by decide) (by omega) (by unfold am_ok; omega) rfl rfl ?_
            refine rn_goto (t := 13) dX9_liking_53 rfl ?_
            first | exact ih2 (by omega) _ (by rw [dcI, if_pos (by unfold lkP; rw [hc24, decide_eq_true (by rw [← Int.natCast_emod]; exact w40)]; rfl), hs]) | exact ih2 (by omega) _ (by rw [dcI, if_neg (by unfold lkP; intro z; rw [Bool.and_eq_true] at z; first | exact hc24 z.1 | exact w40 (by have := of_decide_eq_true z.2; rwa [← Int.natCast_emod] at this)), hs]; rfl)
        · show am_Rn l G _ _ 27 [some (.inr (.inr 96)), some (.inl (v : Int)), some (.inl (s : Int)), some (.inl (x : Int)), some (.inl (y : Int))] [.inl 0, .inl (s : Int)] mem _
          refine rn_ifeq (t := 47) (q := 30) dX9_liking_27 rfl rfl (fun w27 => ?_) (fun h => absurd h (by decide))
          refine rn_iconst (q := 48) dX9_liking_47 (am_okd rfl) rfl ?_
          refine rn_iaddN (z := ((s + 0 : Nat) : Int)) (q := 49) dX9_liking_48 (by omega) (by unfold am_ok; omega) rfl ?_
          refine rn_istore_n (ls' := [some (.inr (.inr 96)), some (.inl (v : Int)), some (.inl ((s + 0 : Nat) : Int)), some (.inl (x : Int)), some (.inl (y : Int))]) (q := 50) dX9_liking_49 (by decide) rfl rfl ?_
          refine rn_iincN (x := (y : Int)) (z := ((y + 1 : Nat) : Int)) (ls' := [some (.inr (.inr 96)), some (.inl (v : Int)), some (.inl ((s + 0 : Nat) : Int)), some (.inl (x : Int)), some (.inl ((y + 1 : Nat) : Int))]) (q := 53) dX9_liking_50 rfl (by decide) (by omega) (by unfold am_ok; omega) rfl rfl ?_
          refine rn_goto (t := 13) dX9_liking_53 rfl ?_
          first | exact ih2 (by omega) _ (by rw [dcI, if_pos (by unfold lkP; rw [hc24, decide_eq_true (by rw [← Int.natCast_emod]; exact w40)]; rfl), hs]) | exact ih2 (by omega) _ (by rw [dcI, if_neg (by unfold lkP; intro z; rw [Bool.and_eq_true] at z; first | exact hc24 z.1 | exact w40 (by have := of_decide_eq_true z.2; rwa [← Int.natCast_emod] at this)), hs]; rfl)
    refine rn_iload_n (x := (x : Int)) (q := 5) dX9_liking_4 rfl rfl ?_
    refine rn_bipush (q := 7) dX9_liking_5 ⟨by decide, by decide⟩ rfl ?_
    refine rn_cmpgt (t := 62) (q := 10) dX9_liking_7 rfl rfl (fun w7 => ?_) (fun w7 => ?_)
    · refine rn_iload_n (x := (s : Int)) (q := 63) dX9_liking_62 rfl rfl ?_
      refine rn_iret dX9_liking_63 rfl ?_
      obtain rfl : x = 7 := by omega
      exact hQ _ _ ⟨by rw [hs]; rfl, rfl⟩
    · refine rn_iconst (q := 11) dX9_liking_10 (am_okd rfl) rfl ?_
      refine rn_istore (ls' := [some (.inr (.inr 96)), some (.inl (v : Int)), some (.inl (s : Int)), some (.inl (x : Int)), some (.inl 0)]) (q := 13) dX9_liking_11 (by decide) rfl rfl ?_
      exact K2 (by omega) 0 (by omega) s hs
  refine rn_iconst (q := 1) dX9_liking_0 (am_okd rfl) rfl ?_
  refine rn_istore_n (ls' := [some (.inr (.inr 96)), some (.inl (v : Int)), some (.inl 0), none, none]) (q := 2) dX9_liking_1 (by decide) rfl rfl ?_
  refine rn_iconst (q := 3) dX9_liking_2 (am_okd rfl) rfl ?_
  refine rn_istore_n (ls' := [some (.inr (.inr 96)), some (.inl (v : Int)), some (.inl 0), some (.inl 1), none]) (q := 4) dX9_liking_3 (by decide) rfl rfl ?_
  exact K 1 (by omega) (by omega) 0 _ rfl
theorem c_laws (hL : c_said 65 L mem) (ho : l_ok L) : am_Sm l G yX8_laws mt_X8_laws (d + 2) [.inr (.inr 1)] mem (QC (cnt (lawB L) : Int) (dcO (lawB L) (fun m => m) 7).2 mem) := by
  refine am_enterQ (ls := [some (.inr (.inr 1)), none, none, none]) (by decide) rfl (Nat.le_of_ble_eq_true rfl) rfl (fun hok Q hQ => ?_)
  have fL : ∀ m, frS s8r mem m → c_said 65 L m := fun m f => ⟨(f 65 2 rfl).trans hL.1, hL.2.1, fun i hi => ⟨(f 66 i rfl).trans (hL.2.2 i hi).1, (f 67 i rfl).trans (hL.2.2 i hi).2⟩⟩
  have K : ∀ x : Nat, x ≤ 7 → 1 ≤ x → ∀ (m : am_M) (s : Nat) (ly : Option am_V), frS s8r mem m → s = (dcO (lawB L) (fun m => m) x).1 → c_row (dcO (lawB L) (fun m => m) x).2 m → am_Rn l G mt_X8_laws (d + 2) 11 [some (.inr (.inr 1)), some (.inl (s : Int)), some (.inl (x : Int)), ly] [] m Q := by
    refine am_dn 7 (fun x hx ih h1 m s ly hf hs hr => ?_)
    have o0 := dcO_ok7 (P := lawB L) x hx
    have K2 : x < 7 → ∀ y : Nat, y ≤ x → ∀ (m : am_M) (s : Nat), frS s8r mem m → s = (dcI (lawB L) x (dcO (lawB L) (fun m => m) x) y).1 → c_row (dcI (lawB L) x (dcO (lawB L) (fun m => m) x) y).2 m → am_Rn l G mt_X8_laws (d + 2) 19 [some (.inr (.inr 1)), some (.inl (s : Int)), some (.inl (x : Int)), some (.inl (y : Int))] [] m Q := by
      intro hlt
      refine am_dn x (fun y hy ih2 m s hf hs hr => ?_)
      have o := dcI_le (P := lawB L) (x := x) (s := dcO (lawB L) (fun m => m) x) y
      refine rn_iload_n (x := (y : Int)) (q := 20) dX8_laws_19 rfl rfl ?_
      refine rn_iload_n (x := (x : Int)) (q := 21) dX8_laws_20 rfl rfl ?_
      refine rn_cmpge (t := 57) (q := 24) dX8_laws_21 rfl rfl (fun w21 => ?_) (fun w21 => ?_)
      · refine rn_iincN (x := (x : Int)) (z := ((x + 1 : Nat) : Int)) (ls' := [some (.inr (.inr 1)), some (.inl (s : Int)), some (.inl ((x + 1 : Nat) : Int)), some (.inl (y : Int))]) (q := 60) dX8_laws_57 rfl (by decide) (by omega) (by unfold am_ok; omega) rfl rfl ?_
        refine rn_goto (t := 11) dX8_laws_60 rfl ?_
        obtain rfl : y = x := by omega
        exact ih hlt (by omega) _ _ _ hf hs hr
      · refine rn_aload_n (x := 0) (q := 25) dX8_laws_24 rfl rfl ?_
        refine rn_iload_n (x := (x : Int)) (q := 26) dX8_laws_25 rfl rfl ?_
        refine rn_iload_n (x := (y : Int)) (q := 27) dX8_laws_26 rfl rfl ?_
        refine rn_callV (b := 0) (as := [.inl (x : Int), .inl (y : Int)]) (rest := []) (q := 30) dX8_laws_27 ml_X8_386 sm_X8_fitsLooks rfl rfl (by decide) (by omega) rfl rfl (Nat.le_of_ble_eq_true rfl) rfl (s_fitsLooks (d := d + 0) (fL _ hf) ho x y (by omega)) ?_
        intro r27 mem27 hq27
        obtain ⟨⟨rfl, hc27⟩ | ⟨rfl, hc27⟩, rfl⟩ := hq27
        · show am_Rn l G _ _ 30 [some (.inr (.inr 1)), some (.inl (s : Int)), some (.inl (x : Int)), some (.inl (y : Int))] [.inl 1] m _
          refine rn_ifeq (t := 51) (q := 33) dX8_laws_30 rfl rfl (fun h => absurd h (by decide)) (fun w30 => ?_)
          refine rn_iload_n (x := (s : Int)) (q := 34) dX8_laws_33 rfl rfl ?_
          refine rn_ifne (t := 48) (q := 37) dX8_laws_34 rfl rfl (fun w34 => ?_) (fun w34 => ?_)
          · refine rn_iincN (x := (s : Int)) (z := ((s + 1 : Nat) : Int)) (ls' := [some (.inr (.inr 1)), some (.inl ((s + 1 : Nat) : Int)), some (.inl (x : Int)), some (.inl (y : Int))]) (q := 51) dX8_laws_48 rfl (by decide) (by omega) (by unfold am_ok; omega) rfl rfl ?_
            refine rn_iincN (x := (y : Int)) (z := ((y + 1 : Nat) : Int)) (ls' := [some (.inr (.inr 1)), some (.inl ((s + 1 : Nat) : Int)), some (.inl (x : Int)), some (.inl ((y + 1 : Nat) : Int))]) (q := 54) dX8_laws_51 rfl (by decide) (by omega) (by unfold am_ok; omega) rfl rfl ?_
            refine rn_goto (t := 19) dX8_laws_54 rfl ?_
            first | (have e1 : dcI (lawB L) x (dcO (lawB L) (fun m => m) x) (y + 1) = _ := if_pos hc27; first | exact ih2 (by omega) _ _ hf (by rw [e1, hs]) (by rw [e1]; show c_row (if _ then _ else _) _; rw [if_pos (by omega)]; exact hr45) | exact ih2 (by omega) _ _ hf (by rw [e1, hs]) (by rw [e1]; show c_row (if _ then _ else _) _; rw [if_neg (by omega)]; exact hr)) | (have e1 : dcI (lawB L) x (dcO (lawB L) (fun m => m) x) (y + 1) = _ := if_neg hc27; exact ih2 (by omega) _ _ hf (by rw [e1]; exact hs) (by rw [e1]; exact hr))
          · refine rn_aload_n (x := 0) (q := 38) dX8_laws_37 rfl rfl ?_
            refine rn_get (a := 0) (v := .inr (.inr 4)) (q := 41) dX8_laws_38 fl_X8_19 rfl rfl rfl ?_
            refine rn_iload_n (x := (x : Int)) (q := 42) dX8_laws_41 rfl rfl ?_
            refine rn_i2l (q := 43) dX8_laws_42 rfl ?_
            refine rn_iload_n (x := (y : Int)) (q := 44) dX8_laws_43 rfl rfl ?_
            refine rn_i2l (q := 45) dX8_laws_44 rfl ?_
            refine rn_callV (b := 3) (as := [.inr (.inl (x : Int)), .inr (.inl (y : Int))]) (rest := []) (q := 48) dX8_laws_45 ml_X8_229 sm_X3_tell_ rfl rfl (by decide) (by omega) rfl rfl (Nat.le_of_ble_eq_true rfl) rfl (s_Rtell2 (d := d + 0) (x : Int) (y : Int)) ?_
            intro r45 mem45 hq45
            obtain ⟨rfl, hr45, hf45⟩ := hq45
            show am_Rn l G _ _ 48 [some (.inr (.inr 1)), some (.inl (s : Int)), some (.inl (x : Int)), some (.inl (y : Int))] [] mem45 _
            refine rn_iincN (x := (s : Int)) (z := ((s + 1 : Nat) : Int)) (ls' := [some (.inr (.inr 1)), some (.inl ((s + 1 : Nat) : Int)), some (.inl (x : Int)), some (.inl (y : Int))]) (q := 51) dX8_laws_48 rfl (by decide) (by omega) (by unfold am_ok; omega) rfl rfl ?_
            refine rn_iincN (x := (y : Int)) (z := ((y + 1 : Nat) : Int)) (ls' := [some (.inr (.inr 1)), some (.inl ((s + 1 : Nat) : Int)), some (.inl (x : Int)), some (.inl ((y + 1 : Nat) : Int))]) (q := 54) dX8_laws_51 rfl (by decide) (by omega) (by unfold am_ok; omega) rfl rfl ?_
            refine rn_goto (t := 19) dX8_laws_54 rfl ?_
            first | (have e1 : dcI (lawB L) x (dcO (lawB L) (fun m => m) x) (y + 1) = _ := if_pos hc27; first | exact ih2 (by omega) _ _ (hf.tr (fr_row hf45)) (by rw [e1, hs]) (by rw [e1]; show c_row (if _ then _ else _) _; rw [if_pos (by omega)]; exact hr45) | exact ih2 (by omega) _ _ (hf.tr (fr_row hf45)) (by rw [e1, hs]) (by rw [e1]; show c_row (if _ then _ else _) _; rw [if_neg (by omega)]; exact hr)) | (have e1 : dcI (lawB L) x (dcO (lawB L) (fun m => m) x) (y + 1) = _ := if_neg hc27; exact ih2 (by omega) _ _ (hf.tr (fr_row hf45)) (by rw [e1]; exact hs) (by rw [e1]; exact hr))
        · show am_Rn l G _ _ 30 [some (.inr (.inr 1)), some (.inl (s : Int)), some (.inl (x : Int)), some (.inl (y : Int))] [.inl 0] m _
          refine rn_ifeq (t := 51) (q := 33) dX8_laws_30 rfl rfl (fun w30 => ?_) (fun h => absurd h (by decide))
          refine rn_iincN (x := (y : Int)) (z := ((y + 1 : Nat) : Int)) (ls' := [some (.inr (.inr 1)), some (.inl (s : Int)), some (.inl (x : Int)), some (.inl ((y + 1 : Nat) : Int))]) (q := 54) dX8_laws_51 rfl (by decide) (by omega) (by unfold am_ok; omega) rfl rfl ?_
          refine rn_goto (t := 19) dX8_laws_54 rfl ?_
          first | (have e1 : dcI (lawB L) x (dcO (lawB L) (fun m => m) x) (y + 1) = _ := if_pos hc27; first | exact ih2 (by omega) _ _ hf (by rw [e1, hs]) (by rw [e1]; show c_row (if _ then _ else _) _; rw [if_pos (by omega)]; exact hr45) | exact ih2 (by omega) _ _ hf (by rw [e1, hs]) (by rw [e1]; show c_row (if _ then _ else _) _; rw [if_neg (by omega)]; exact hr)) | (have e1 : dcI (lawB L) x (dcO (lawB L) (fun m => m) x) (y + 1) = _ := if_neg hc27; exact ih2 (by omega) _ _ hf (by rw [e1]; exact hs) (by rw [e1]; exact hr))
    refine rn_iload_n (x := (x : Int)) (q := 12) dX8_laws_11 rfl rfl ?_
    refine rn_bipush (q := 14) dX8_laws_12 ⟨by decide, by decide⟩ rfl ?_
    refine rn_cmpgt (t := 63) (q := 17) dX8_laws_14 rfl rfl (fun w14 => ?_) (fun w14 => ?_)
    · refine rn_iload_n (x := (s : Int)) (q := 64) dX8_laws_63 rfl rfl ?_
      refine rn_iret dX8_laws_64 rfl ?_
      obtain rfl : x = 7 := by omega
      exact hQ _ _ ⟨by rw [hs]; rfl, hf, hr⟩
    · refine rn_iconst (q := 18) dX8_laws_17 (am_okd rfl) rfl ?_
      refine rn_istore_n (ls' := [some (.inr (.inr 1)), some (.inl (s : Int)), some (.inl (x : Int)), some (.inl 0)]) (q := 19) dX8_laws_18 (by decide) rfl rfl ?_
      exact K2 (by omega) 0 (by omega) m s hf hs hr
  refine rn_iconst (q := 1) dX8_laws_0 (am_okd rfl) rfl ?_
  refine rn_istore_n (ls' := [some (.inr (.inr 1)), some (.inl 0), none, none]) (q := 2) dX8_laws_1 (by decide) rfl rfl ?_
  refine rn_aload_n (x := 0) (q := 3) dX8_laws_2 rfl rfl ?_
  refine rn_get (a := 0) (v := .inr (.inr 4)) (q := 6) dX8_laws_3 fl_X8_19 rfl rfl rfl ?_
  refine rn_callV (b := 3) (as := []) (rest := []) (q := 9) dX8_laws_6 ml_X8_328 sm_X3_clear rfl rfl (by decide) (by omega) rfl rfl (Nat.le_of_ble_eq_true rfl) rfl (s_Rclear (d := d + 1) ) ?_
  intro r6 mem6 hq6
  obtain ⟨rfl, rfl⟩ := hq6
  show am_Rn l G _ _ 9 [some (.inr (.inr 1)), some (.inl 0), none, none] [] (am_up mem 3 1 0) _
  refine rn_iconst (q := 10) dX8_laws_9 (am_okd rfl) rfl ?_
  refine rn_istore_n (ls' := [some (.inr (.inr 1)), some (.inl 0), some (.inl 1), none]) (q := 11) dX8_laws_10 (by decide) rfl rfl ?_
  exact K 1 (by omega) (by omega) _ 0 _ (frS.up (a := 3) (k := 1) (x := 0) frS.rf rfl) rfl c_row0
theorem m_laws (hL : m_look L mem) (ho : l_ok L) : am_Sm l G yX9_laws mt_X9_laws (d + 2) [.inr (.inr 96)] mem (QM (cnt (lawB L) : Int) (dcO (lawB L) (fun m => m) 7).2 mem) := by
  refine am_enterQ (ls := [some (.inr (.inr 96)), none, none, none]) (by decide) rfl (Nat.le_of_ble_eq_true rfl) rfl (fun hok Q hQ => ?_)
  have fL : ∀ m, frS s9r mem m → m_look L m := fun m f => by
    obtain ⟨B, a1, a2, a3, a4, a5⟩ := hL
    exact ⟨B, (f 95 40 rfl).trans a1, a2, (f 95 41 rfl).trans a3, a4, fun i hi => ⟨(f 119 i rfl).trans (a5 i hi).1, (a5 i hi).2⟩⟩
  have K : ∀ x : Nat, x ≤ 7 → 1 ≤ x → ∀ (m : am_M) (s : Nat) (ly : Option am_V), frS s9r mem m → s = (dcO (lawB L) (fun m => m) x).1 ∧ (s = 0 → (dcO (lawB L) (fun m => m) x).2 = []) → m_row (dcO (lawB L) (fun m => m) x).2 m → am_Rn l G mt_X9_laws (d + 2) 14 [some (.inr (.inr 96)), some (.inl (s : Int)), some (.inl (x : Int)), ly] [] m Q := by
    refine am_dn 7 (fun x hx ih h1 m s ly hf hs hr => ?_)
    have o0 := dcO_ok7 (P := lawB L) x hx
    have K2 : x < 7 → ∀ y : Nat, y ≤ x → ∀ (m : am_M) (s : Nat), frS s9r mem m → s = (dcI (lawB L) x (dcO (lawB L) (fun m => m) x) y).1 ∧ (s = 0 → (dcI (lawB L) x (dcO (lawB L) (fun m => m) x) y).2 = []) → m_row (dcI (lawB L) x (dcO (lawB L) (fun m => m) x) y).2 m → am_Rn l G mt_X9_laws (d + 2) 22 [some (.inr (.inr 96)), some (.inl (s : Int)), some (.inl (x : Int)), some (.inl (y : Int))] [] m Q := by
      intro hlt
      refine am_dn x (fun y hy ih2 m s hf hs hr => ?_)
      have o := dcI_le (P := lawB L) (x := x) (s := dcO (lawB L) (fun m => m) x) y
      refine rn_iload_n (x := (y : Int)) (q := 23) dX9_laws_22 rfl rfl ?_
      refine rn_iload_n (x := (x : Int)) (q := 24) dX9_laws_23 rfl rfl ?_
      refine rn_cmpge (t := 64) (q := 27) dX9_laws_24 rfl rfl (fun w24 => ?_) (fun w24 => ?_)
      · refine rn_iincN (x := (x : Int)) (z := ((x + 1 : Nat) : Int)) (ls' := [some (.inr (.inr 96)), some (.inl (s : Int)), some (.inl ((x + 1 : Nat) : Int)), some (.inl (y : Int))]) (q := 67) dX9_laws_64 rfl (by decide) (by omega) (by unfold am_ok; omega) rfl rfl ?_
        refine rn_goto (t := 14) dX9_laws_67 rfl ?_
        obtain rfl : y = x := by omega
        exact ih hlt (by omega) _ _ _ hf hs hr
      · refine rn_aload_n (x := 95) (q := 28) dX9_laws_27 rfl rfl ?_
        refine rn_iload_n (x := (x : Int)) (q := 29) dX9_laws_28 rfl rfl ?_
        refine rn_iload_n (x := (y : Int)) (q := 30) dX9_laws_29 rfl rfl ?_
        refine rn_callV (b := 95) (as := [.inl (x : Int), .inl (y : Int)]) (rest := []) (q := 33) dX9_laws_30 ml_X9_354 sm_X9_isLaw rfl rfl (by decide) (by omega) rfl rfl (Nat.le_of_ble_eq_true rfl) rfl (s_isLaw (d := d + 0) (fL _ hf) ho x y (by omega)) ?_
        intro r30 mem30 hq30
        obtain ⟨⟨rfl, hc30⟩ | ⟨rfl, hc30⟩, rfl⟩ := hq30
        · show am_Rn l G _ _ 33 [some (.inr (.inr 96)), some (.inl (s : Int)), some (.inl (x : Int)), some (.inl (y : Int))] [.inl 1] m _
          refine rn_ifne (t := 39) (q := 36) dX9_laws_33 rfl rfl (fun w33 => ?_) (fun h => absurd h (by decide))
          refine rn_iload_n (x := (s : Int)) (q := 40) dX9_laws_39 rfl rfl ?_
          refine rn_ifne (t := 55) (q := 43) dX9_laws_40 rfl rfl (fun w40 => ?_) (fun w40 => ?_)
          · refine rn_iincN (x := (s : Int)) (z := ((s + 1 : Nat) : Int)) (ls' := [some (.inr (.inr 96)), some (.inl ((s + 1 : Nat) : Int)), some (.inl (x : Int)), some (.inl (y : Int))]) (q := 58) dX9_laws_55 rfl (by decide) (by omega) (by unfold am_ok; omega) rfl rfl ?_
            refine rn_iincN (x := (y : Int)) (z := ((y + 1 : Nat) : Int)) (ls' := [some (.inr (.inr 96)), some (.inl ((s + 1 : Nat) : Int)), some (.inl (x : Int)), some (.inl ((y + 1 : Nat) : Int))]) (q := 61) dX9_laws_58 rfl (by decide) (by omega) (by unfold am_ok; omega) rfl rfl ?_
            refine rn_goto (t := 22) dX9_laws_61 rfl ?_
            first | (have e1 : dcI (lawB L) x (dcO (lawB L) (fun m => m) x) (y + 1) = _ := if_pos hc30; first | exact ih2 (by omega) _ _ hf (by rw [e1]; exact ⟨by rw [hs.1], fun z => absurd z (by omega)⟩) (by rw [e1]; show m_row (if _ then _ else _) _; rw [if_pos (by omega)]; exact hr52) | exact ih2 (by omega) _ _ hf (by rw [e1]; exact ⟨by rw [hs.1], fun z => absurd z (by omega)⟩) (by rw [e1]; show m_row (if _ then _ else _) _; rw [if_neg (by omega)]; exact hr)) | (have e1 : dcI (lawB L) x (dcO (lawB L) (fun m => m) x) (y + 1) = _ := if_neg hc30; exact ih2 (by omega) _ _ hf (by rw [e1]; exact hs) (by rw [e1]; exact hr))
          · refine rn_aload_n (x := 95) (q := 44) dX9_laws_43 rfl rfl ?_
            refine rn_iload_n (x := (x : Int)) (q := 45) dX9_laws_44 rfl rfl ?_
            refine rn_i2l (q := 46) dX9_laws_45 rfl ?_
            refine rn_callV (b := 95) (as := [.inr (.inl (x : Int))]) (rest := []) (q := 49) dX9_laws_46 ml_X9_275 sm_X9_tell rfl rfl (by decide) (by omega) rfl rfl (Nat.le_of_ble_eq_true rfl) rfl (m_tell (d := d + 1) (show m_row [] m by rw [← hs.2 (by omega)]; exact hr) (by decide) (x : Int)) ?_
            intro r46 mem46 hq46
            obtain ⟨rfl, hr46, hf46⟩ := hq46
            show am_Rn l G _ _ 49 [some (.inr (.inr 96)), some (.inl (s : Int)), some (.inl (x : Int)), some (.inl (y : Int))] [] mem46 _
            refine rn_aload_n (x := 95) (q := 50) dX9_laws_49 rfl rfl ?_
            refine rn_iload_n (x := (y : Int)) (q := 51) dX9_laws_50 rfl rfl ?_
            refine rn_i2l (q := 52) dX9_laws_51 rfl ?_
            refine rn_callV (b := 95) (as := [.inr (.inl (y : Int))]) (rest := []) (q := 55) dX9_laws_52 ml_X9_275 sm_X9_tell rfl rfl (by decide) (by omega) rfl rfl (Nat.le_of_ble_eq_true rfl) rfl (m_tell (d := d + 1) hr46 (by simp) (y : Int)) ?_
            intro r52 mem52 hq52
            obtain ⟨rfl, hr52, hf52⟩ := hq52
            show am_Rn l G _ _ 55 [some (.inr (.inr 96)), some (.inl (s : Int)), some (.inl (x : Int)), some (.inl (y : Int))] [] mem52 _
            refine rn_iincN (x := (s : Int)) (z := ((s + 1 : Nat) : Int)) (ls' := [some (.inr (.inr 96)), some (.inl ((s + 1 : Nat) : Int)), some (.inl (x : Int)), some (.inl (y : Int))]) (q := 58) dX9_laws_55 rfl (by decide) (by omega) (by unfold am_ok; omega) rfl rfl ?_
            refine rn_iincN (x := (y : Int)) (z := ((y + 1 : Nat) : Int)) (ls' := [some (.inr (.inr 96)), some (.inl ((s + 1 : Nat) : Int)), some (.inl (x : Int)), some (.inl ((y + 1 : Nat) : Int))]) (q := 61) dX9_laws_58 rfl (by decide) (by omega) (by unfold am_ok; omega) rfl rfl ?_
            refine rn_goto (t := 22) dX9_laws_61 rfl ?_
            first | (have e1 : dcI (lawB L) x (dcO (lawB L) (fun m => m) x) (y + 1) = _ := if_pos hc30; first | exact ih2 (by omega) _ _ ((hf.tr hf46).tr hf52) (by rw [e1]; exact ⟨by rw [hs.1], fun z => absurd z (by omega)⟩) (by rw [e1]; show m_row (if _ then _ else _) _; rw [if_pos (by omega)]; exact hr52) | exact ih2 (by omega) _ _ ((hf.tr hf46).tr hf52) (by rw [e1]; exact ⟨by rw [hs.1], fun z => absurd z (by omega)⟩) (by rw [e1]; show m_row (if _ then _ else _) _; rw [if_neg (by omega)]; exact hr)) | (have e1 : dcI (lawB L) x (dcO (lawB L) (fun m => m) x) (y + 1) = _ := if_neg hc30; exact ih2 (by omega) _ _ ((hf.tr hf46).tr hf52) (by rw [e1]; exact hs) (by rw [e1]; exact hr))
        · show am_Rn l G _ _ 33 [some (.inr (.inr 96)), some (.inl (s : Int)), some (.inl (x : Int)), some (.inl (y : Int))] [.inl 0] m _
          refine rn_ifne (t := 39) (q := 36) dX9_laws_33 rfl rfl (fun h => absurd h (by decide)) (fun w33 => ?_)
          refine rn_goto (t := 58) dX9_laws_36 rfl ?_
          refine rn_iincN (x := (y : Int)) (z := ((y + 1 : Nat) : Int)) (ls' := [some (.inr (.inr 96)), some (.inl (s : Int)), some (.inl (x : Int)), some (.inl ((y + 1 : Nat) : Int))]) (q := 61) dX9_laws_58 rfl (by decide) (by omega) (by unfold am_ok; omega) rfl rfl ?_
          refine rn_goto (t := 22) dX9_laws_61 rfl ?_
          first | (have e1 : dcI (lawB L) x (dcO (lawB L) (fun m => m) x) (y + 1) = _ := if_pos hc30; first | exact ih2 (by omega) _ _ hf (by rw [e1]; exact ⟨by rw [hs.1], fun z => absurd z (by omega)⟩) (by rw [e1]; show m_row (if _ then _ else _) _; rw [if_pos (by omega)]; exact hr52) | exact ih2 (by omega) _ _ hf (by rw [e1]; exact ⟨by rw [hs.1], fun z => absurd z (by omega)⟩) (by rw [e1]; show m_row (if _ then _ else _) _; rw [if_neg (by omega)]; exact hr)) | (have e1 : dcI (lawB L) x (dcO (lawB L) (fun m => m) x) (y + 1) = _ := if_neg hc30; exact ih2 (by omega) _ _ hf (by rw [e1]; exact hs) (by rw [e1]; exact hr))
    refine rn_iload_n (x := (x : Int)) (q := 15) dX9_laws_14 rfl rfl ?_
    refine rn_bipush (q := 17) dX9_laws_15 ⟨by decide, by decide⟩ rfl ?_
    refine rn_cmpgt (t := 70) (q := 20) dX9_laws_17 rfl rfl (fun w17 => ?_) (fun w17 => ?_)
    · refine rn_iload_n (x := (s : Int)) (q := 71) dX9_laws_70 rfl rfl ?_
      refine rn_iret dX9_laws_71 rfl ?_
      obtain rfl : x = 7 := by omega
      exact hQ _ _ ⟨by rw [hs.1]; rfl, hf, hr⟩
    · refine rn_iconst (q := 21) dX9_laws_20 (am_okd rfl) rfl ?_
      refine rn_istore_n (ls' := [some (.inr (.inr 96)), some (.inl (s : Int)), some (.inl (x : Int)), some (.inl 0)]) (q := 22) dX9_laws_21 (by decide) rfl rfl ?_
      exact K2 (by omega) 0 (by omega) m s hf hs hr
  refine rn_aload_n (x := 95) (q := 1) dX9_laws_0 rfl rfl ?_
  refine rn_iconst (q := 2) dX9_laws_1 (am_okd rfl) rfl ?_
  refine rn_puti (a := 95) (q := 5) dX9_laws_2 fl_X9_107 rfl rfl rfl rfl ?_
  refine rn_iconst (q := 6) dX9_laws_5 (am_okd rfl) rfl ?_
  refine rn_istore_n (ls' := [some (.inr (.inr 96)), some (.inl 0), none, none]) (q := 7) dX9_laws_6 (by decide) rfl rfl ?_
  refine rn_aload_n (x := 95) (q := 8) dX9_laws_7 rfl rfl ?_
  refine rn_iconst (q := 9) dX9_laws_8 (am_okd rfl) rfl ?_
  refine rn_puti (a := 95) (q := 12) dX9_laws_9 fl_X9_110 rfl rfl rfl rfl ?_
  refine rn_iconst (q := 13) dX9_laws_12 (am_okd rfl) rfl ?_
  refine rn_istore_n (ls' := [some (.inr (.inr 96)), some (.inl 0), some (.inl 1), none]) (q := 14) dX9_laws_13 (by decide) rfl rfl ?_
  exact K 1 (by omega) (by omega) _ 0 _ (frS.up (a := 95) (k := 10) (x := 0) (frS.up (a := 95) (k := 11) (x := 0) frS.rf rfl) rfl) ⟨rfl, fun _ => rfl⟩ m_row0
theorem c_sure (hL : c_said 65 L mem) (ho : l_ok L) : am_Sm l G yX8_sure mt_X8_sure (d + 3) [.inr (.inr 1)] mem (QC (bitsF (suY L) 10 : Int) [(bitsF (suN L) 10 : Int)] mem) := by
  refine am_enterQ (ls := [some (.inr (.inr 1)), none, none, none, none, none]) (by decide) rfl (Nat.le_of_ble_eq_true rfl) rfl (fun hok Q hQ => ?_)
  have K : ∀ v : Nat, v ≤ 10 → ∀ (s t : Nat) (lx ly : Option am_V), s = bitsF (suY L) v → t = bitsF (suN L) v → am_Rn l G mt_X8_sure (d + 3) 6 [some (.inr (.inr 1)), some (.inl (s : Int)), some (.inl (t : Int)), some (.inl (v : Int)), lx, ly] [] mem Q := by
    refine am_dn 10 (fun v hv ih s t lx ly hs ht => ?_)
    have o1 := bitsF_lt (f := suY L) v
    have o2 := bitsF_lt (f := suN L) v
    rw [← hs] at o1
    rw [← ht] at o2
    have p10 : 2 ^ v ≤ 1024 := Nat.pow_le_pow_right (n := 2) (by decide) hv
    have c1 := cnt_le (P := lkP L v)
    have c2 := cnt_le (P := nlP L v)
    refine rn_iload_n (x := (v : Int)) (q := 7) dX8_sure_6 rfl rfl ?_
    refine rn_bipush (q := 9) dX8_sure_7 ⟨by decide, by decide⟩ rfl ?_
    refine rn_cmpgt (t := 66) (q := 12) dX8_sure_9 rfl rfl (fun w9 => ?_) (fun w9 => ?_)
    · refine rn_aload_n (x := 0) (q := 67) dX8_sure_66 rfl rfl ?_
      refine rn_get (a := 0) (v := .inr (.inr 4)) (q := 70) dX8_sure_67 fl_X8_19 rfl rfl rfl ?_
      refine rn_iload_n (x := (t : Int)) (q := 71) dX8_sure_70 rfl rfl ?_
      refine rn_i2l (q := 72) dX8_sure_71 rfl ?_
      refine rn_callV (b := 3) (as := [.inr (.inl (t : Int))]) (rest := []) (q := 75) dX8_sure_72 ml_X8_299 sm_X3_tell rfl rfl (by decide) (by omega) rfl rfl (Nat.le_of_ble_eq_true rfl) rfl (s_Rtell (d := d + 1) (t : Int)) ?_
      intro r72 mem72 hq72
      obtain ⟨rfl, hr72, hf72⟩ := hq72
      show am_Rn l G _ _ 75 [some (.inr (.inr 1)), some (.inl (s : Int)), some (.inl (t : Int)), some (.inl (v : Int)), lx, ly] [] mem72 _
      refine rn_iload_n (x := (s : Int)) (q := 76) dX8_sure_75 rfl rfl ?_
      refine rn_iret dX8_sure_76 rfl ?_
      obtain rfl : v = 10 := by omega
      exact hQ _ _ ⟨by rw [hs], (fr_row hf72), by rw [← ht]; exact hr72⟩
    · refine rn_aload_n (x := 0) (q := 13) dX8_sure_12 rfl rfl ?_
      refine rn_iconst (q := 14) dX8_sure_13 (am_okd rfl) rfl ?_
      refine rn_iload_n (x := (v : Int)) (q := 15) dX8_sure_14 rfl rfl ?_
      refine rn_callV (b := 0) (as := [.inl 1, .inl (v : Int)]) (rest := []) (q := 18) dX8_sure_15 ml_X8_398 sm_X8_lawsThat rfl rfl (by decide) (by omega) rfl rfl (Nat.le_of_ble_eq_true rfl) rfl (s_lawsThat1 (d := d + 0) hL ho v (by omega)) ?_
      intro r15 mem15 hq15
      obtain ⟨rfl, rfl⟩ := hq15
      show am_Rn l G _ _ 18 [some (.inr (.inr 1)), some (.inl (s : Int)), some (.inl (t : Int)), some (.inl (v : Int)), lx, ly] [.inl (cnt (lkP L v) : Int)] mem _
      refine rn_istore (ls' := [some (.inr (.inr 1)), some (.inl (s : Int)), some (.inl (t : Int)), some (.inl (v : Int)), some (.inl (cnt (lkP L v) : Int)), ly]) (q := 20) dX8_sure_18 (by decide) rfl rfl ?_
      refine rn_aload_n (x := 0) (q := 21) dX8_sure_20 rfl rfl ?_
      refine rn_iconst (q := 22) dX8_sure_21 (am_okd rfl) rfl ?_
      refine rn_iload_n (x := (v : Int)) (q := 23) dX8_sure_22 rfl rfl ?_
      refine rn_callV (b := 0) (as := [.inl 0, .inl (v : Int)]) (rest := []) (q := 26) dX8_sure_23 ml_X8_398 sm_X8_lawsThat rfl rfl (by decide) (by omega) rfl rfl (Nat.le_of_ble_eq_true rfl) rfl (s_lawsThat0 (d := d + 0) hL ho v (by omega)) ?_
      intro r23 mem23 hq23
      obtain ⟨rfl, rfl⟩ := hq23
      show am_Rn l G _ _ 26 [some (.inr (.inr 1)), some (.inl (s : Int)), some (.inl (t : Int)), some (.inl (v : Int)), some (.inl (cnt (lkP L v) : Int)), ly] [.inl (cnt (nlP L v) : Int)] mem _
      refine rn_istore (ls' := [some (.inr (.inr 1)), some (.inl (s : Int)), some (.inl (t : Int)), some (.inl (v : Int)), some (.inl (cnt (lkP L v) : Int)), some (.inl (cnt (nlP L v) : Int))]) (q := 28) dX8_sure_26 (by decide) rfl rfl ?_
      refine rn_iload (x := (cnt (lkP L v) : Int)) (q := 30) dX8_sure_28 rfl rfl ?_
      refine rn_ifle (t := 44) (q := 33) dX8_sure_30 rfl rfl (fun w30 => ?_) (fun w30 => ?_)
      · refine rn_iload (x := (cnt (nlP L v) : Int)) (q := 46) dX8_sure_44 rfl rfl ?_
        refine rn_ifle (t := 60) (q := 49) dX8_sure_46 rfl rfl (fun w46 => ?_) (fun w46 => ?_)
        · refine rn_iincN (x := (v : Int)) (z := ((v + 1 : Nat) : Int)) (ls' := [some (.inr (.inr 1)), some (.inl (s : Int)), some (.inl (t : Int)), some (.inl ((v + 1 : Nat) : Int)), some (.inl (cnt (lkP L v) : Int)), some (.inl (cnt (nlP L v) : Int))]) (q := 63) dX8_sure_60 rfl (by decide) (by omega) (by unfold am_ok; omega) rfl rfl ?_
          refine rn_goto (t := 6) dX8_sure_63 rfl ?_
          first | (exfalso; omega) | exact ih (by omega) _ _ _ _ (by rw [bitsF, ← hs]; first | rw [if_pos (by unfold suY; rw [decide_eq_true (by omega), decide_eq_true (by omega)]; rfl)] | rw [if_neg (by unfold suY; intro z; rw [Bool.and_eq_true] at z; have := of_decide_eq_true z.1; have := of_decide_eq_true z.2; omega)]) (by rw [bitsF, ← ht]; first | rw [if_pos (by unfold suN; rw [decide_eq_true (by omega), decide_eq_true (by omega)]; rfl)] | rw [if_neg (by unfold suN; intro z; rw [Bool.and_eq_true] at z; have := of_decide_eq_true z.1; have := of_decide_eq_true z.2; omega)])
        · refine rn_iload (x := (cnt (lkP L v) : Int)) (q := 51) dX8_sure_49 rfl rfl ?_
          refine rn_ifne (t := 60) (q := 54) dX8_sure_51 rfl rfl (fun w51 => ?_) (fun w51 => ?_)
          · refine rn_iincN (x := (v : Int)) (z := ((v + 1 : Nat) : Int)) (ls' := [some (.inr (.inr 1)), some (.inl (s : Int)), some (.inl (t : Int)), some (.inl ((v + 1 : Nat) : Int)), some (.inl (cnt (lkP L v) : Int)), some (.inl (cnt (nlP L v) : Int))]) (q := 63) dX8_sure_60 rfl (by decide) (by omega) (by unfold am_ok; omega) rfl rfl ?_
            refine rn_goto (t := 6) dX8_sure_63 rfl ?_
            first | (exfalso; omega) | exact ih (by omega) _ _ _ _ (by rw [bitsF, ← hs]; first | rw [if_pos (by unfold suY; rw [decide_eq_true (by omega), decide_eq_true (by omega)]; rfl)] | rw [if_neg (by unfold suY; intro z; rw [Bool.and_eq_true] at z; have := of_decide_eq_true z.1; have := of_decide_eq_true z.2; omega)]) (by rw [bitsF, ← ht]; first | rw [if_pos (by unfold suN; rw [decide_eq_true (by omega), decide_eq_true (by omega)]; rfl)] | rw [if_neg (by unfold suN; intro z; rw [Bool.and_eq_true] at z; have := of_decide_eq_true z.1; have := of_decide_eq_true z.2; omega)])
          · refine rn_iload_n (x := (t : Int)) (q := 55) dX8_sure_54 rfl rfl ?_
            refine rn_iconst (q := 56) dX8_sure_55 (am_okd rfl) rfl ?_
            refine rn_iload_n (x := (v : Int)) (q := 57) dX8_sure_56 rfl rfl ?_
            refine rn_ishl (q := 58) dX8_sure_57 rfl ?_
            rw [show am_shl 1 (v : Int) = ((2 ^ v : Nat) : Int) from am_shl1 _ (by omega)]
            refine rn_ior (q := 59) dX8_sure_58 rfl ?_
            rw [show am_or (t : Int) ((2 ^ v : Nat) : Int) = ((t + 2 ^ v : Nat) : Int) from or_up (by omega) (by omega)]
            refine rn_istore_n (ls' := [some (.inr (.inr 1)), some (.inl (s : Int)), some (.inl ((t + 2 ^ v : Nat) : Int)), some (.inl (v : Int)), some (.inl (cnt (lkP L v) : Int)), some (.inl (cnt (nlP L v) : Int))]) (q := 60) dX8_sure_59 (by decide) rfl rfl ?_
            refine rn_iincN (x := (v : Int)) (z := ((v + 1 : Nat) : Int)) (ls' := [some (.inr (.inr 1)), some (.inl (s : Int)), some (.inl ((t + 2 ^ v : Nat) : Int)), some (.inl ((v + 1 : Nat) : Int)), some (.inl (cnt (lkP L v) : Int)), some (.inl (cnt (nlP L v) : Int))]) (q := 63) dX8_sure_60 rfl (by decide) (by omega) (by unfold am_ok; omega) rfl rfl ?_
            refine rn_goto (t := 6) dX8_sure_63 rfl ?_
            first | (exfalso; omega) | exact ih (by omega) _ _ _ _ (by rw [bitsF, ← hs]; first | rw [if_pos (by unfold suY; rw [decide_eq_true (by omega), decide_eq_true (by omega)]; rfl)] | rw [if_neg (by unfold suY; intro z; rw [Bool.and_eq_true] at z; have := of_decide_eq_true z.1; have := of_decide_eq_true z.2; omega)]) (by rw [bitsF, ← ht]; first | rw [if_pos (by unfold suN; rw [decide_eq_true (by omega), decide_eq_true (by omega)]; rfl)] | rw [if_neg (by unfold suN; intro z; rw [Bool.and_eq_true] at z; have := of_decide_eq_true z.1; have := of_decide_eq_true z.2; omega)])
      · refine rn_iload (x := (cnt (nlP L v) : Int)) (q := 35) dX8_sure_33 rfl rfl ?_
        refine rn_ifne (t := 44) (q := 38) dX8_sure_35 rfl rfl (fun w35 => ?_) (fun w35 => ?_)
        · refine rn_iload (x := (cnt (nlP L v) : Int)) (q := 46) dX8_sure_44 rfl rfl ?_
          refine rn_ifle (t := 60) (q := 49) dX8_sure_46 rfl rfl (fun w46 => ?_) (fun w46 => ?_)
          · refine rn_iincN (x := (v : Int)) (z := ((v + 1 : Nat) : Int)) (ls' := [some (.inr (.inr 1)), some (.inl (s : Int)), some (.inl (t : Int)), some (.inl ((v + 1 : Nat) : Int)), some (.inl (cnt (lkP L v) : Int)), some (.inl (cnt (nlP L v) : Int))]) (q := 63) dX8_sure_60 rfl (by decide) (by omega) (by unfold am_ok; omega) rfl rfl ?_
            refine rn_goto (t := 6) dX8_sure_63 rfl ?_
            first | (exfalso; omega) | exact ih (by omega) _ _ _ _ (by rw [bitsF, ← hs]; first | rw [if_pos (by unfold suY; rw [decide_eq_true (by omega), decide_eq_true (by omega)]; rfl)] | rw [if_neg (by unfold suY; intro z; rw [Bool.and_eq_true] at z; have := of_decide_eq_true z.1; have := of_decide_eq_true z.2; omega)]) (by rw [bitsF, ← ht]; first | rw [if_pos (by unfold suN; rw [decide_eq_true (by omega), decide_eq_true (by omega)]; rfl)] | rw [if_neg (by unfold suN; intro z; rw [Bool.and_eq_true] at z; have := of_decide_eq_true z.1; have := of_decide_eq_true z.2; omega)])
          · refine rn_iload (x := (cnt (lkP L v) : Int)) (q := 51) dX8_sure_49 rfl rfl ?_
            refine rn_ifne (t := 60) (q := 54) dX8_sure_51 rfl rfl (fun w51 => ?_) (fun w51 => ?_)
            · refine rn_iincN (x := (v : Int)) (z := ((v + 1 : Nat) : Int)) (ls' := [some (.inr (.inr 1)), some (.inl (s : Int)), some (.inl (t : Int)), some (.inl ((v + 1 : Nat) : Int)), some (.inl (cnt (lkP L v) : Int)), some (.inl (cnt (nlP L v) : Int))]) (q := 63) dX8_sure_60 rfl (by decide) (by omega) (by unfold am_ok; omega) rfl rfl ?_
              refine rn_goto (t := 6) dX8_sure_63 rfl ?_
              first | (exfalso; omega) | exact ih (by omega) _ _ _ _ (by rw [bitsF, ← hs]; first | rw [if_pos (by unfold suY; rw [decide_eq_true (by omega), decide_eq_true (by omega)]; rfl)] | rw [if_neg (by unfold suY; intro z; rw [Bool.and_eq_true] at z; have := of_decide_eq_true z.1; have := of_decide_eq_true z.2; omega)]) (by rw [bitsF, ← ht]; first | rw [if_pos (by unfold suN; rw [decide_eq_true (by omega), decide_eq_true (by omega)]; rfl)] | rw [if_neg (by unfold suN; intro z; rw [Bool.and_eq_true] at z; have := of_decide_eq_true z.1; have := of_decide_eq_true z.2; omega)])
            · refine rn_iload_n (x := (t : Int)) (q := 55) dX8_sure_54 rfl rfl ?_
              refine rn_iconst (q := 56) dX8_sure_55 (am_okd rfl) rfl ?_
              refine rn_iload_n (x := (v : Int)) (q := 57) dX8_sure_56 rfl rfl ?_
              refine rn_ishl (q := 58) dX8_sure_57 rfl ?_
              rw [show am_shl 1 (v : Int) = ((2 ^ v : Nat) : Int) from am_shl1 _ (by omega)]
              refine rn_ior (q := 59) dX8_sure_58 rfl ?_
              rw [show am_or (t : Int) ((2 ^ v : Nat) : Int) = ((t + 2 ^ v : Nat) : Int) from or_up (by omega) (by omega)]
              refine rn_istore_n (ls' := [some (.inr (.inr 1)), some (.inl (s : Int)), some (.inl ((t + 2 ^ v : Nat) : Int)), some (.inl (v : Int)), some (.inl (cnt (lkP L v) : Int)), some (.inl (cnt (nlP L v) : Int))]) (q := 60) dX8_sure_59 (by decide) rfl rfl ?_
              refine rn_iincN (x := (v : Int)) (z := ((v + 1 : Nat) : Int)) (ls' := [some (.inr (.inr 1)), some (.inl (s : Int)), some (.inl ((t + 2 ^ v : Nat) : Int)), some (.inl ((v + 1 : Nat) : Int)), some (.inl (cnt (lkP L v) : Int)), some (.inl (cnt (nlP L v) : Int))]) (q := 63) dX8_sure_60 rfl (by decide) (by omega) (by unfold am_ok; omega) rfl rfl ?_
              refine rn_goto (t := 6) dX8_sure_63 rfl ?_
              first | (exfalso; omega) | exact ih (by omega) _ _ _ _ (by rw [bitsF, ← hs]; first | rw [if_pos (by unfold suY; rw [decide_eq_true (by omega), decide_eq_true (by omega)]; rfl)] | rw [if_neg (by unfold suY; intro z; rw [Bool.and_eq_true] at z; have := of_decide_eq_true z.1; have := of_decide_eq_true z.2; omega)]) (by rw [bitsF, ← ht]; first | rw [if_pos (by unfold suN; rw [decide_eq_true (by omega), decide_eq_true (by omega)]; rfl)] | rw [if_neg (by unfold suN; intro z; rw [Bool.and_eq_true] at z; have := of_decide_eq_true z.1; have := of_decide_eq_true z.2; omega)])
        · refine rn_iload_n (x := (s : Int)) (q := 39) dX8_sure_38 rfl rfl ?_
          refine rn_iconst (q := 40) dX8_sure_39 (am_okd rfl) rfl ?_
          refine rn_iload_n (x := (v : Int)) (q := 41) dX8_sure_40 rfl rfl ?_
          refine rn_ishl (q := 42) dX8_sure_41 rfl ?_
          rw [show am_shl 1 (v : Int) = ((2 ^ v : Nat) : Int) from am_shl1 _ (by omega)]
          refine rn_ior (q := 43) dX8_sure_42 rfl ?_
          rw [show am_or (s : Int) ((2 ^ v : Nat) : Int) = ((s + 2 ^ v : Nat) : Int) from or_up (by omega) (by omega)]
          refine rn_istore_n (ls' := [some (.inr (.inr 1)), some (.inl ((s + 2 ^ v : Nat) : Int)), some (.inl (t : Int)), some (.inl (v : Int)), some (.inl (cnt (lkP L v) : Int)), some (.inl (cnt (nlP L v) : Int))]) (q := 44) dX8_sure_43 (by decide) rfl rfl ?_
          refine rn_iload (x := (cnt (nlP L v) : Int)) (q := 46) dX8_sure_44 rfl rfl ?_
          refine rn_ifle (t := 60) (q := 49) dX8_sure_46 rfl rfl (fun w46 => ?_) (fun w46 => ?_)
          · refine rn_iincN (x := (v : Int)) (z := ((v + 1 : Nat) : Int)) (ls' := [some (.inr (.inr 1)), some (.inl ((s + 2 ^ v : Nat) : Int)), some (.inl (t : Int)), some (.inl ((v + 1 : Nat) : Int)), some (.inl (cnt (lkP L v) : Int)), some (.inl (cnt (nlP L v) : Int))]) (q := 63) dX8_sure_60 rfl (by decide) (by omega) (by unfold am_ok; omega) rfl rfl ?_
            refine rn_goto (t := 6) dX8_sure_63 rfl ?_
            first | (exfalso; omega) | exact ih (by omega) _ _ _ _ (by rw [bitsF, ← hs]; first | rw [if_pos (by unfold suY; rw [decide_eq_true (by omega), decide_eq_true (by omega)]; rfl)] | rw [if_neg (by unfold suY; intro z; rw [Bool.and_eq_true] at z; have := of_decide_eq_true z.1; have := of_decide_eq_true z.2; omega)]) (by rw [bitsF, ← ht]; first | rw [if_pos (by unfold suN; rw [decide_eq_true (by omega), decide_eq_true (by omega)]; rfl)] | rw [if_neg (by unfold suN; intro z; rw [Bool.and_eq_true] at z; have := of_decide_eq_true z.1; have := of_decide_eq_true z.2; omega)])
          · refine rn_iload (x := (cnt (lkP L v) : Int)) (q := 51) dX8_sure_49 rfl rfl ?_
            refine rn_ifne (t := 60) (q := 54) dX8_sure_51 rfl rfl (fun w51 => ?_) (fun w51 => ?_)
            · refine rn_iincN (x := (v : Int)) (z := ((v + 1 : Nat) : Int)) (ls' := [some (.inr (.inr 1)), some (.inl ((s + 2 ^ v : Nat) : Int)), some (.inl (t : Int)), some (.inl ((v + 1 : Nat) : Int)), some (.inl (cnt (lkP L v) : Int)), some (.inl (cnt (nlP L v) : Int))]) (q := 63) dX8_sure_60 rfl (by decide) (by omega) (by unfold am_ok; omega) rfl rfl ?_
              refine rn_goto (t := 6) dX8_sure_63 rfl ?_
              first | (exfalso; omega) | exact ih (by omega) _ _ _ _ (by rw [bitsF, ← hs]; first | rw [if_pos (by unfold suY; rw [decide_eq_true (by omega), decide_eq_true (by omega)]; rfl)] | rw [if_neg (by unfold suY; intro z; rw [Bool.and_eq_true] at z; have := of_decide_eq_true z.1; have := of_decide_eq_true z.2; omega)]) (by rw [bitsF, ← ht]; first | rw [if_pos (by unfold suN; rw [decide_eq_true (by omega), decide_eq_true (by omega)]; rfl)] | rw [if_neg (by unfold suN; intro z; rw [Bool.and_eq_true] at z; have := of_decide_eq_true z.1; have := of_decide_eq_true z.2; omega)])
            · refine rn_iload_n (x := (t : Int)) (q := 55) dX8_sure_54 rfl rfl ?_
              refine rn_iconst (q := 56) dX8_sure_55 (am_okd rfl) rfl ?_
              refine rn_iload_n (x := (v : Int)) (q := 57) dX8_sure_56 rfl rfl ?_
              refine rn_ishl (q := 58) dX8_sure_57 rfl ?_
              rw [show am_shl 1 (v : Int) = ((2 ^ v : Nat) : Int) from am_shl1 _ (by omega)]
              refine rn_ior (q := 59) dX8_sure_58 rfl ?_
              rw [show am_or (t : Int) ((2 ^ v : Nat) : Int) = ((t + 2 ^ v : Nat) : Int) from or_up (by omega) (by omega)]
              refine rn_istore_n (ls' := [some (.inr (.inr 1)), some (.inl ((s + 2 ^ v : Nat) : Int)), some (.inl ((t + 2 ^ v : Nat) : Int)), some (.inl (v : Int)), some (.inl (cnt (lkP L v) : Int)), some (.inl (cnt (nlP L v) : Int))]) (q := 60) dX8_sure_59 (by decide) rfl rfl ?_
              refine rn_iincN (x := (v : Int)) (z := ((v + 1 : Nat) : Int)) (ls' := [some (.inr (.inr 1)), some (.inl ((s + 2 ^ v : Nat) : Int)), some (.inl ((t + 2 ^ v : Nat) : Int)), some (.inl ((v + 1 : Nat) : Int)), some (.inl (cnt (lkP L v) : Int)), some (.inl (cnt (nlP L v) : Int))]) (q := 63) dX8_sure_60 rfl (by decide) (by omega) (by unfold am_ok; omega) rfl rfl ?_
              refine rn_goto (t := 6) dX8_sure_63 rfl ?_
              first | (exfalso; omega) | exact ih (by omega) _ _ _ _ (by rw [bitsF, ← hs]; first | rw [if_pos (by unfold suY; rw [decide_eq_true (by omega), decide_eq_true (by omega)]; rfl)] | rw [if_neg (by unfold suY; intro z; rw [Bool.and_eq_true] at z; have := of_decide_eq_true z.1; have := of_decide_eq_true z.2; omega)]) (by rw [bitsF, ← ht]; first | rw [if_pos (by unfold suN; rw [decide_eq_true (by omega), decide_eq_true (by omega)]; rfl)] | rw [if_neg (by unfold suN; intro z; rw [Bool.and_eq_true] at z; have := of_decide_eq_true z.1; have := of_decide_eq_true z.2; omega)])
  refine rn_iconst (q := 1) dX8_sure_0 (am_okd rfl) rfl ?_
  refine rn_istore_n (ls' := [some (.inr (.inr 1)), some (.inl 0), none, none, none, none]) (q := 2) dX8_sure_1 (by decide) rfl rfl ?_
  refine rn_iconst (q := 3) dX8_sure_2 (am_okd rfl) rfl ?_
  refine rn_istore_n (ls' := [some (.inr (.inr 1)), some (.inl 0), some (.inl 0), none, none, none]) (q := 4) dX8_sure_3 (by decide) rfl rfl ?_
  refine rn_iconst (q := 5) dX8_sure_4 (am_okd rfl) rfl ?_
  refine rn_istore_n (ls' := [some (.inr (.inr 1)), some (.inl 0), some (.inl 0), some (.inl 0), none, none]) (q := 6) dX8_sure_5 (by decide) rfl rfl ?_
  exact K 0 (by omega) 0 0 _ _ rfl rfl
theorem m_sure (hL : m_look L mem) (ho : l_ok L) : am_Sm l G yX9_sure mt_X9_sure (d + 3) [.inr (.inr 96)] mem (QM (bitsF (suY L) 10 : Int) [(bitsF (suN L) 10 : Int)] mem) := by
  refine am_enterQ (ls := [some (.inr (.inr 96)), none, none, none, none]) (by decide) rfl (Nat.le_of_ble_eq_true rfl) rfl (fun hok Q hQ => ?_)
  have fL : m_look L (am_up mem 95 11 0) := by
    obtain ⟨B, a1, a2, a3, a4, a5⟩ := hL
    exact ⟨B, a1, a2, a3, a4, a5⟩
  have cA := cnt_le (P := lawB L)
  have K : 0 < cnt (lawB L) → ∀ v : Nat, v ≤ 10 → ∀ (s t : Nat), s = bitsF (suY L) v → t = bitsF (suN L) v → am_Rn l G mt_X9_sure (d + 3) 18 [some (.inr (.inr 96)), some (.inl (cnt (lawB L) : Int)), some (.inl (s : Int)), some (.inl (t : Int)), some (.inl (v : Int))] [] (am_up mem 95 11 0) Q := by
    intro hpos
    refine am_dn 10 (fun v hv ih s t hs ht => ?_)
    have o1 := bitsF_lt (f := suY L) v
    have o2 := bitsF_lt (f := suN L) v
    rw [← hs] at o1
    rw [← ht] at o2
    have p10 : 2 ^ v ≤ 1024 := Nat.pow_le_pow_right (n := 2) (by decide) hv
    have ca := cnt_add (L := L) (v := v)
    refine rn_iload (x := (v : Int)) (q := 20) dX9_sure_18 rfl rfl ?_
    refine rn_bipush (q := 22) dX9_sure_20 ⟨by decide, by decide⟩ rfl ?_
    refine rn_cmpgt (t := 76) (q := 25) dX9_sure_22 rfl rfl (fun w22 => ?_) (fun w22 => ?_)
    · refine rn_aload_n (x := 95) (q := 77) dX9_sure_76 rfl rfl ?_
      refine rn_iconst (q := 78) dX9_sure_77 (am_okd rfl) rfl ?_
      refine rn_puti (a := 95) (q := 81) dX9_sure_78 fl_X9_110 rfl rfl rfl rfl ?_
      refine rn_aload_n (x := 95) (q := 82) dX9_sure_81 rfl rfl ?_
      refine rn_iload_n (x := (t : Int)) (q := 83) dX9_sure_82 rfl rfl ?_
      refine rn_i2l (q := 84) dX9_sure_83 rfl ?_
      refine rn_callV (b := 95) (as := [.inr (.inl (t : Int))]) (rest := []) (q := 87) dX9_sure_84 ml_X9_275 sm_X9_tell rfl rfl (by decide) (by omega) rfl rfl (Nat.le_of_ble_eq_true rfl) rfl (m_tell (d := d + 2) m_row0 (by first | decide | simp | omega) (t : Int)) ?_
      intro r84 mem84 hq84
      obtain ⟨rfl, hr84, hf84⟩ := hq84
      show am_Rn l G _ _ 87 [some (.inr (.inr 96)), some (.inl (cnt (lawB L) : Int)), some (.inl (s : Int)), some (.inl (t : Int)), some (.inl (v : Int))] [] mem84 _
      refine rn_iload_n (x := (s : Int)) (q := 88) dX9_sure_87 rfl rfl ?_
      refine rn_iret dX9_sure_88 rfl ?_
      obtain rfl : v = 10 := by omega
      exact hQ _ _ ⟨by rw [hs], ((frS.up (a := 95) (k := 10) (x := 0) (frS.up (a := 95) (k := 11) (x := 0) frS.rf rfl) rfl).tr hf84), by rw [← ht]; exact hr84⟩
    · refine rn_iload_n (x := (cnt (lawB L) : Int)) (q := 26) dX9_sure_25 rfl rfl ?_
      refine rn_ifle (t := 76) (q := 29) dX9_sure_26 rfl rfl (fun h => absurd h (by omega)) (fun w26 => ?_)
      refine rn_iload_n (x := (s : Int)) (q := 30) dX9_sure_29 rfl rfl ?_
      refine rn_aload_n (x := 95) (q := 31) dX9_sure_30 rfl rfl ?_
      refine rn_iload (x := (v : Int)) (q := 33) dX9_sure_31 rfl rfl ?_
      refine rn_callV (b := 95) (as := [.inl (v : Int)]) (rest := [.inl (s : Int)]) (q := 36) dX9_sure_33 ml_X9_357 sm_X9_liking rfl rfl (by decide) (by omega) rfl rfl (Nat.le_of_ble_eq_true rfl) rfl (s_liking (d := d + 0) fL ho v (by omega)) ?_
      intro r33 mem33 hq33
      obtain ⟨rfl, rfl⟩ := hq33
      show am_Rn l G _ _ 36 [some (.inr (.inr 96)), some (.inl (cnt (lawB L) : Int)), some (.inl (s : Int)), some (.inl (t : Int)), some (.inl (v : Int))] [.inl (cnt (lkP L v) : Int), .inl (s : Int)] (am_up mem 95 11 0) _
      refine rn_iload_n (x := (cnt (lawB L) : Int)) (q := 37) dX9_sure_36 rfl rfl ?_
      refine rn_cmpne (t := 47) (q := 40) dX9_sure_37 rfl rfl (fun w37 => ?_) (fun w37 => ?_)
      · refine rn_iconst (q := 48) dX9_sure_47 (am_okd rfl) rfl ?_
        refine rn_ior (q := 49) dX9_sure_48 rfl ?_
        rw [show am_or (s : Int) 0 = (s : Int) from or_z (by omega)]
        refine rn_istore_n (ls' := [some (.inr (.inr 96)), some (.inl (cnt (lawB L) : Int)), some (.inl (s : Int)), some (.inl (t : Int)), some (.inl (v : Int))]) (q := 50) dX9_sure_49 (by decide) rfl rfl ?_
        refine rn_iload_n (x := (t : Int)) (q := 51) dX9_sure_50 rfl rfl ?_
        refine rn_aload_n (x := 95) (q := 52) dX9_sure_51 rfl rfl ?_
        refine rn_iload (x := (v : Int)) (q := 54) dX9_sure_52 rfl rfl ?_
        refine rn_callV (b := 95) (as := [.inl (v : Int)]) (rest := [.inl (t : Int)]) (q := 57) dX9_sure_54 ml_X9_357 sm_X9_liking rfl rfl (by decide) (by omega) rfl rfl (Nat.le_of_ble_eq_true rfl) rfl (s_liking (d := d + 0) fL ho v (by omega)) ?_
        intro r54 mem54 hq54
        obtain ⟨rfl, rfl⟩ := hq54
        show am_Rn l G _ _ 57 [some (.inr (.inr 96)), some (.inl (cnt (lawB L) : Int)), some (.inl (s : Int)), some (.inl (t : Int)), some (.inl (v : Int))] [.inl (cnt (lkP L v) : Int), .inl (t : Int)] (am_up mem 95 11 0) _
        refine rn_ifne (t := 67) (q := 60) dX9_sure_57 rfl rfl (fun w57 => ?_) (fun w57 => ?_)
        · refine rn_iconst (q := 68) dX9_sure_67 (am_okd rfl) rfl ?_
          refine rn_ior (q := 69) dX9_sure_68 rfl ?_
          rw [show am_or (t : Int) 0 = (t : Int) from or_z (by omega)]
          refine rn_istore_n (ls' := [some (.inr (.inr 96)), some (.inl (cnt (lawB L) : Int)), some (.inl (s : Int)), some (.inl (t : Int)), some (.inl (v : Int))]) (q := 70) dX9_sure_69 (by decide) rfl rfl ?_
          refine rn_iincN (x := (v : Int)) (z := ((v + 1 : Nat) : Int)) (ls' := [some (.inr (.inr 96)), some (.inl (cnt (lawB L) : Int)), some (.inl (s : Int)), some (.inl (t : Int)), some (.inl ((v + 1 : Nat) : Int))]) (q := 73) dX9_sure_70 rfl (by decide) (by omega) (by unfold am_ok; omega) rfl rfl ?_
          refine rn_goto (t := 18) dX9_sure_73 rfl ?_
          first | (exfalso; omega) | exact ih (by omega) _ _ (by rw [bitsF, ← hs]; first | rw [if_pos (by unfold suY; rw [decide_eq_true (by omega), decide_eq_true (by omega)]; rfl)] | rw [if_neg (by unfold suY; intro z; rw [Bool.and_eq_true] at z; have := of_decide_eq_true z.1; have := of_decide_eq_true z.2; omega)]) (by rw [bitsF, ← ht]; first | rw [if_pos (by unfold suN; rw [decide_eq_true (by omega), decide_eq_true (by omega)]; rfl)] | rw [if_neg (by unfold suN; intro z; rw [Bool.and_eq_true] at z; have := of_decide_eq_true z.1; have := of_decide_eq_true z.2; omega)])
        · refine rn_iconst (q := 61) dX9_sure_60 (am_okd rfl) rfl ?_
          refine rn_iload (x := (v : Int)) (q := 63) dX9_sure_61 rfl rfl ?_
          refine rn_ishl (q := 64) dX9_sure_63 rfl ?_
          rw [show am_shl 1 (v : Int) = ((2 ^ v : Nat) : Int) from am_shl1 _ (by omega)]
          refine rn_goto (t := 68) dX9_sure_64 rfl ?_
          refine rn_ior (q := 69) dX9_sure_68 rfl ?_
          rw [show am_or (t : Int) ((2 ^ v : Nat) : Int) = ((t + 2 ^ v : Nat) : Int) from or_up (by omega) (by omega)]
          refine rn_istore_n (ls' := [some (.inr (.inr 96)), some (.inl (cnt (lawB L) : Int)), some (.inl (s : Int)), some (.inl ((t + 2 ^ v : Nat) : Int)), some (.inl (v : Int))]) (q := 70) dX9_sure_69 (by decide) rfl rfl ?_
          refine rn_iincN (x := (v : Int)) (z := ((v + 1 : Nat) : Int)) (ls' := [some (.inr (.inr 96)), some (.inl (cnt (lawB L) : Int)), some (.inl (s : Int)), some (.inl ((t + 2 ^ v : Nat) : Int)), some (.inl ((v + 1 : Nat) : Int))]) (q := 73) dX9_sure_70 rfl (by decide) (by omega) (by unfold am_ok; omega) rfl rfl ?_
          refine rn_goto (t := 18) dX9_sure_73 rfl ?_
          first | (exfalso; omega) | exact ih (by omega) _ _ (by rw [bitsF, ← hs]; first | rw [if_pos (by unfold suY; rw [decide_eq_true (by omega), decide_eq_true (by omega)]; rfl)] | rw [if_neg (by unfold suY; intro z; rw [Bool.and_eq_true] at z; have := of_decide_eq_true z.1; have := of_decide_eq_true z.2; omega)]) (by rw [bitsF, ← ht]; first | rw [if_pos (by unfold suN; rw [decide_eq_true (by omega), decide_eq_true (by omega)]; rfl)] | rw [if_neg (by unfold suN; intro z; rw [Bool.and_eq_true] at z; have := of_decide_eq_true z.1; have := of_decide_eq_true z.2; omega)])
      · refine rn_iconst (q := 41) dX9_sure_40 (am_okd rfl) rfl ?_
        refine rn_iload (x := (v : Int)) (q := 43) dX9_sure_41 rfl rfl ?_
        refine rn_ishl (q := 44) dX9_sure_43 rfl ?_
        rw [show am_shl 1 (v : Int) = ((2 ^ v : Nat) : Int) from am_shl1 _ (by omega)]
        refine rn_goto (t := 48) dX9_sure_44 rfl ?_
        refine rn_ior (q := 49) dX9_sure_48 rfl ?_
        rw [show am_or (s : Int) ((2 ^ v : Nat) : Int) = ((s + 2 ^ v : Nat) : Int) from or_up (by omega) (by omega)]
        refine rn_istore_n (ls' := [some (.inr (.inr 96)), some (.inl (cnt (lawB L) : Int)), some (.inl ((s + 2 ^ v : Nat) : Int)), some (.inl (t : Int)), some (.inl (v : Int))]) (q := 50) dX9_sure_49 (by decide) rfl rfl ?_
        refine rn_iload_n (x := (t : Int)) (q := 51) dX9_sure_50 rfl rfl ?_
        refine rn_aload_n (x := 95) (q := 52) dX9_sure_51 rfl rfl ?_
        refine rn_iload (x := (v : Int)) (q := 54) dX9_sure_52 rfl rfl ?_
        refine rn_callV (b := 95) (as := [.inl (v : Int)]) (rest := [.inl (t : Int)]) (q := 57) dX9_sure_54 ml_X9_357 sm_X9_liking rfl rfl (by decide) (by omega) rfl rfl (Nat.le_of_ble_eq_true rfl) rfl (s_liking (d := d + 0) fL ho v (by omega)) ?_
        intro r54 mem54 hq54
        obtain ⟨rfl, rfl⟩ := hq54
        show am_Rn l G _ _ 57 [some (.inr (.inr 96)), some (.inl (cnt (lawB L) : Int)), some (.inl ((s + 2 ^ v : Nat) : Int)), some (.inl (t : Int)), some (.inl (v : Int))] [.inl (cnt (lkP L v) : Int), .inl (t : Int)] (am_up mem 95 11 0) _
        refine rn_ifne (t := 67) (q := 60) dX9_sure_57 rfl rfl (fun w57 => ?_) (fun w57 => ?_)
        · refine rn_iconst (q := 68) dX9_sure_67 (am_okd rfl) rfl ?_
          refine rn_ior (q := 69) dX9_sure_68 rfl ?_
          rw [show am_or (t : Int) 0 = (t : Int) from or_z (by omega)]
          refine rn_istore_n (ls' := [some (.inr (.inr 96)), some (.inl (cnt (lawB L) : Int)), some (.inl ((s + 2 ^ v : Nat) : Int)), some (.inl (t : Int)), some (.inl (v : Int))]) (q := 70) dX9_sure_69 (by decide) rfl rfl ?_
          refine rn_iincN (x := (v : Int)) (z := ((v + 1 : Nat) : Int)) (ls' := [some (.inr (.inr 96)), some (.inl (cnt (lawB L) : Int)), some (.inl ((s + 2 ^ v : Nat) : Int)), some (.inl (t : Int)), some (.inl ((v + 1 : Nat) : Int))]) (q := 73) dX9_sure_70 rfl (by decide) (by omega) (by unfold am_ok; omega) rfl rfl ?_
          refine rn_goto (t := 18) dX9_sure_73 rfl ?_
          first | (exfalso; omega) | exact ih (by omega) _ _ (by rw [bitsF, ← hs]; first | rw [if_pos (by unfold suY; rw [decide_eq_true (by omega), decide_eq_true (by omega)]; rfl)] | rw [if_neg (by unfold suY; intro z; rw [Bool.and_eq_true] at z; have := of_decide_eq_true z.1; have := of_decide_eq_true z.2; omega)]) (by rw [bitsF, ← ht]; first | rw [if_pos (by unfold suN; rw [decide_eq_true (by omega), decide_eq_true (by omega)]; rfl)] | rw [if_neg (by unfold suN; intro z; rw [Bool.and_eq_true] at z; have := of_decide_eq_true z.1; have := of_decide_eq_true z.2; omega)])
        · refine rn_iconst (q := 61) dX9_sure_60 (am_okd rfl) rfl ?_
          refine rn_iload (x := (v : Int)) (q := 63) dX9_sure_61 rfl rfl ?_
          refine rn_ishl (q := 64) dX9_sure_63 rfl ?_
          rw [show am_shl 1 (v : Int) = ((2 ^ v : Nat) : Int) from am_shl1 _ (by omega)]
          refine rn_goto (t := 68) dX9_sure_64 rfl ?_
          refine rn_ior (q := 69) dX9_sure_68 rfl ?_
          rw [show am_or (t : Int) ((2 ^ v : Nat) : Int) = ((t + 2 ^ v : Nat) : Int) from or_up (by omega) (by omega)]
          refine rn_istore_n (ls' := [some (.inr (.inr 96)), some (.inl (cnt (lawB L) : Int)), some (.inl ((s + 2 ^ v : Nat) : Int)), some (.inl ((t + 2 ^ v : Nat) : Int)), some (.inl (v : Int))]) (q := 70) dX9_sure_69 (by decide) rfl rfl ?_
          refine rn_iincN (x := (v : Int)) (z := ((v + 1 : Nat) : Int)) (ls' := [some (.inr (.inr 96)), some (.inl (cnt (lawB L) : Int)), some (.inl ((s + 2 ^ v : Nat) : Int)), some (.inl ((t + 2 ^ v : Nat) : Int)), some (.inl ((v + 1 : Nat) : Int))]) (q := 73) dX9_sure_70 rfl (by decide) (by omega) (by unfold am_ok; omega) rfl rfl ?_
          refine rn_goto (t := 18) dX9_sure_73 rfl ?_
          first | (exfalso; omega) | exact ih (by omega) _ _ (by rw [bitsF, ← hs]; first | rw [if_pos (by unfold suY; rw [decide_eq_true (by omega), decide_eq_true (by omega)]; rfl)] | rw [if_neg (by unfold suY; intro z; rw [Bool.and_eq_true] at z; have := of_decide_eq_true z.1; have := of_decide_eq_true z.2; omega)]) (by rw [bitsF, ← ht]; first | rw [if_pos (by unfold suN; rw [decide_eq_true (by omega), decide_eq_true (by omega)]; rfl)] | rw [if_neg (by unfold suN; intro z; rw [Bool.and_eq_true] at z; have := of_decide_eq_true z.1; have := of_decide_eq_true z.2; omega)])
  by_cases hpos : 0 < cnt (lawB L)
  · refine rn_aload_n (x := 95) (q := 1) dX9_sure_0 rfl rfl ?_
    refine rn_iconst (q := 2) dX9_sure_1 (am_okd rfl) rfl ?_
    refine rn_puti (a := 95) (q := 5) dX9_sure_2 fl_X9_107 rfl rfl rfl rfl ?_
    refine rn_aload_n (x := 95) (q := 6) dX9_sure_5 rfl rfl ?_
    refine rn_iconst (q := 7) dX9_sure_6 (am_okd rfl) rfl ?_
    refine rn_callV (b := 95) (as := [.inl (-1)]) (rest := []) (q := 10) dX9_sure_7 ml_X9_357 sm_X9_liking rfl rfl (by decide) (by omega) rfl rfl (Nat.le_of_ble_eq_true rfl) rfl (s_likingA (d := d + 0) fL ho) ?_
    intro r7 mem7 hq7
    obtain ⟨rfl, rfl⟩ := hq7
    show am_Rn l G _ _ 10 [some (.inr (.inr 96)), none, none, none, none] [.inl (cnt (lawB L) : Int)] (am_up mem 95 11 0) _
    refine rn_istore_n (ls' := [some (.inr (.inr 96)), some (.inl (cnt (lawB L) : Int)), none, none, none]) (q := 11) dX9_sure_10 (by decide) rfl rfl ?_
    refine rn_iconst (q := 12) dX9_sure_11 (am_okd rfl) rfl ?_
    refine rn_istore_n (ls' := [some (.inr (.inr 96)), some (.inl (cnt (lawB L) : Int)), some (.inl 0), none, none]) (q := 13) dX9_sure_12 (by decide) rfl rfl ?_
    refine rn_iconst (q := 14) dX9_sure_13 (am_okd rfl) rfl ?_
    refine rn_istore_n (ls' := [some (.inr (.inr 96)), some (.inl (cnt (lawB L) : Int)), some (.inl 0), some (.inl 0), none]) (q := 15) dX9_sure_14 (by decide) rfl rfl ?_
    refine rn_iconst (q := 16) dX9_sure_15 (am_okd rfl) rfl ?_
    refine rn_istore (ls' := [some (.inr (.inr 96)), some (.inl (cnt (lawB L) : Int)), some (.inl 0), some (.inl 0), some (.inl 0)]) (q := 18) dX9_sure_16 (by decide) rfl rfl ?_
    exact K hpos 0 (by omega) 0 0 rfl rfl
  · have z0 : ∀ v, bitsF (suY L) v = 0 ∧ bitsF (suN L) v = 0 := by
      intro v
      induction v with
      | zero => exact ⟨rfl, rfl⟩
      | succ v ih =>
        have ca := cnt_add (L := L) (v := v)
        rw [bitsF, bitsF, if_neg (by unfold suY; intro z; rw [Bool.and_eq_true] at z; have := of_decide_eq_true z.1; omega), if_neg (by unfold suN; intro z; rw [Bool.and_eq_true] at z; have := of_decide_eq_true z.1; omega)]
        exact ih
    refine rn_aload_n (x := 95) (q := 1) dX9_sure_0 rfl rfl ?_
    refine rn_iconst (q := 2) dX9_sure_1 (am_okd rfl) rfl ?_
    refine rn_puti (a := 95) (q := 5) dX9_sure_2 fl_X9_107 rfl rfl rfl rfl ?_
    refine rn_aload_n (x := 95) (q := 6) dX9_sure_5 rfl rfl ?_
    refine rn_iconst (q := 7) dX9_sure_6 (am_okd rfl) rfl ?_
    refine rn_callV (b := 95) (as := [.inl (-1)]) (rest := []) (q := 10) dX9_sure_7 ml_X9_357 sm_X9_liking rfl rfl (by decide) (by omega) rfl rfl (Nat.le_of_ble_eq_true rfl) rfl (s_likingA (d := d + 0) fL ho) ?_
    intro r7 mem7 hq7
    obtain ⟨rfl, rfl⟩ := hq7
    show am_Rn l G _ _ 10 [some (.inr (.inr 96)), none, none, none, none] [.inl (cnt (lawB L) : Int)] (am_up mem 95 11 0) _
    refine rn_istore_n (ls' := [some (.inr (.inr 96)), some (.inl (cnt (lawB L) : Int)), none, none, none]) (q := 11) dX9_sure_10 (by decide) rfl rfl ?_
    refine rn_iconst (q := 12) dX9_sure_11 (am_okd rfl) rfl ?_
    refine rn_istore_n (ls' := [some (.inr (.inr 96)), some (.inl (cnt (lawB L) : Int)), some (.inl 0), none, none]) (q := 13) dX9_sure_12 (by decide) rfl rfl ?_
    refine rn_iconst (q := 14) dX9_sure_13 (am_okd rfl) rfl ?_
    refine rn_istore_n (ls' := [some (.inr (.inr 96)), some (.inl (cnt (lawB L) : Int)), some (.inl 0), some (.inl 0), none]) (q := 15) dX9_sure_14 (by decide) rfl rfl ?_
    refine rn_iconst (q := 16) dX9_sure_15 (am_okd rfl) rfl ?_
    refine rn_istore (ls' := [some (.inr (.inr 96)), some (.inl (cnt (lawB L) : Int)), some (.inl 0), some (.inl 0), some (.inl 0)]) (q := 18) dX9_sure_16 (by decide) rfl rfl ?_
    refine rn_iload (x := 0) (q := 20) dX9_sure_18 rfl rfl ?_
    refine rn_bipush (q := 22) dX9_sure_20 ⟨by decide, by decide⟩ rfl ?_
    refine rn_cmpgt (t := 76) (q := 25) dX9_sure_22 rfl rfl (fun h => absurd h (by decide)) (fun w22 => ?_)
    refine rn_iload_n (x := (cnt (lawB L) : Int)) (q := 26) dX9_sure_25 rfl rfl ?_
    refine rn_ifle (t := 76) (q := 29) dX9_sure_26 rfl rfl (fun w26 => ?_) (fun h => absurd h (by omega))
    refine rn_aload_n (x := 95) (q := 77) dX9_sure_76 rfl rfl ?_
    refine rn_iconst (q := 78) dX9_sure_77 (am_okd rfl) rfl ?_
    refine rn_puti (a := 95) (q := 81) dX9_sure_78 fl_X9_110 rfl rfl rfl rfl ?_
    refine rn_aload_n (x := 95) (q := 82) dX9_sure_81 rfl rfl ?_
    refine rn_iload_n (x := 0) (q := 83) dX9_sure_82 rfl rfl ?_
    refine rn_i2l (q := 84) dX9_sure_83 rfl ?_
    refine rn_callV (b := 95) (as := [.inr (.inl 0)]) (rest := []) (q := 87) dX9_sure_84 ml_X9_275 sm_X9_tell rfl rfl (by decide) (by omega) rfl rfl (Nat.le_of_ble_eq_true rfl) rfl (m_tell (d := d + 2) m_row0 (by first | decide | simp | omega) 0) ?_
    intro r84 mem84 hq84
    obtain ⟨rfl, hr84, hf84⟩ := hq84
    show am_Rn l G _ _ 87 [some (.inr (.inr 96)), some (.inl (cnt (lawB L) : Int)), some (.inl 0), some (.inl 0), some (.inl 0)] [] mem84 _
    refine rn_iload_n (x := 0) (q := 88) dX9_sure_87 rfl rfl ?_
    refine rn_iret dX9_sure_88 rfl ?_
    exact hQ _ _ ⟨by rw [(z0 10).1]; rfl, ((frS.up (a := 95) (k := 10) (x := 0) (frS.up (a := 95) (k := 11) (x := 0) frS.rf rfl) rfl).tr hf84), by rw [(z0 10).2]; exact hr84⟩
end P58
