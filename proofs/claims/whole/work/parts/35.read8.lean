def c_code (r : Nat) (C : List Int) (m : am_M) : Prop := m r 4 = (C.length : Int) ∧ (∀ i, i < C.length → m (r + 1) i = C.getD i 0) ∧ C.length ≤ 40 ∧ ∀ x ∈ C, -256 ≤ x ∧ x ≤ 999
def o_read (r : Nat) (X : List Nat) (dg : Nat) (mem : am_M) : Option am_V → am_M → Prop := fun q m => fr_rs r mem m ∧ (∃ d2 : Nat, d2 ≤ 3 ∧ m r 8 = (d2 : Int)) ∧ ((X = [] ∧ q = some (.inl (-1)) ∧ c_code r [] m) ∨ (X ≠ [] ∧ ((∃ i : Nat, run (X.take 40) ([], [], 0, 0, dg, true) 0 = .inl i ∧ q = some (.inl (i : Int))) ∨ (∃ C HS, run (X.take 40) ([], [], 0, 0, dg, true) 0 = .inr (C, HS) ∧ c_code r (relC 0 C HS).1 m ∧ q = some (.inl (if 40 < X.length then 40 else -1))))))
theorem am_rul_or {r : Nat} (h : am_rul r) : r = 11 ∨ r = 84 := by
  unfold am_rul at h
  simpa using h
theorem txAt_take {X : List Nat} {i : Nat} (h : i < (X.take 40).length) : txAt X (i : Int) = txAt (X.take 40) (i : Int) := by
  have h1 : (X.take 40).length = min 40 X.length := List.length_take
  unfold txAt
  rw [if_pos (by omega), if_pos (by omega)]
  have h2 : (X.take 40).getD i 0 = X.getD i 0 := by
    rw [List.getD_eq_getElem?_getD, List.getD_eq_getElem?_getD, List.getElem?_take, if_pos (by omega)]
  rw [Int.toNat_natCast, h2]
theorem c_text.rs {X : List Nat} {r : Nat} {mem m : am_M} (hr : am_rul r) (h : c_text X mem) (hf : fr_rs r mem m) : c_text X m := by
  have h0 := am_rul_or hr
  have e1 : m 1 = mem 1 := hf 1 (by omega) (by omega) (by omega)
  have e2 : m 2 = mem 2 := hf 2 (by omega) (by omega) (by omega)
  exact ⟨by rw [e1]; exact h.1, h.2.1, h.2.2.1, fun i hi => by rw [e2]; exact h.2.2.2 i hi⟩
theorem txAt_tk {X : List Nat} (hX : ∀ i, X.getD i 0 < 256) (i : Nat) : (X.take 40).getD i 0 < 256 := by
  rw [List.getD_eq_getElem?_getD, List.getElem?_take]
  split
  · rw [← List.getD_eq_getElem?_getD]; exact hX i
  · decide
theorem c_ch.code {r : Nat} {C HS : List Int} {m : am_M} (h : c_ch r C HS m) (hu : ∀ x ∈ C, -256 ≤ x ∧ x ≤ 999) : c_code r C m := ⟨h.1, h.2.1, by have := h.2.2.2.2.1; omega, hu⟩
section P35
variable {l : Launch} {G : am_G} {d : Nat} {mem : am_M}
theorem s_read37 {r : Nat} (hr : am_rul r) {X : List Nat} (hX : c_text X mem) {dg0 : Nat} : ∀ (k i : Nat) (s : RS) (m : am_M), i + k = (X.take 40).length → v_rs s → u_rs s → c_rs r s m → s.1.length + s.2.1.length ≤ i → run (X.take 40) ([], [], 0, 0, dg0, true) 0 = run (X.take 40) s i → fr_rs r mem m → am_Rn l G mt_X4_read (d + 5) 37 [some (.inr (.inr (r + 1))), some (.inr (.inr 2)), some (.inl ((X.take 40).length : Int)), some (.inl (i : Int))] [] m (o_read r X dg0 mem) := by
  have hT : (X.take 40).length = min 40 X.length := List.length_take
  have hx80 := hX.2.1
  intro k
  induction k with
  | zero =>
    intro i s m hi hv hu hs hl hrun hf
    obtain ⟨C, HS, dp, cb, dg, o⟩ := s
    have hi2 : i = (X.take 40).length := by omega
    have hX1 := hX.rs hr hf
    have hE := run_end (T := X.take 40) (s := (C, HS, dp, cb, dg, o)) hi2
    obtain ⟨hch, h6, h7, h8, h9⟩ := hs
    change c_ch r C HS m at hch
    change m r 6 = (dp : Int) at h6
    change m r 8 = (dg : Int) at h8
    change C.length + HS.length ≤ i at hl
    have hdg : dg ≤ 3 := hv.2.2.1
    by_cases hz : X = []
    · have hx0 : X.length = 0 := by rw [hz]; rfl
      have hc0 : C = [] := List.eq_nil_of_length_eq_zero (by omega)
      have hh0 : HS = [] := List.eq_nil_of_length_eq_zero (by omega)
      subst hc0 hh0
      refine rn_iload_n (x := (i : Int)) (q := 38) dX4_read_37 rfl rfl ?_
      refine rn_iload_n (x := ((X.take 40).length : Int)) (q := 39) dX4_read_38 rfl rfl ?_
      refine rn_cmpge (t := 94) (q := 42) dX4_read_39 rfl rfl (fun w39 => ?_) (fun h => absurd h (by omega))
      refine rn_iload_n (x := ((X.take 40).length : Int)) (q := 95) dX4_read_94 rfl rfl ?_
      refine rn_ifle (t := 114) (q := 98) dX4_read_95 rfl rfl (fun w95 => ?_) (fun h => absurd h (by omega))
      refine rn_aload_n (x := r) (q := 115) dX4_read_114 rfl rfl ?_
      refine rn_iconst (q := 116) dX4_read_115 (am_okd rfl) rfl ?_
      refine rn_callV (b := r) (as := [.inl 0]) (rest := []) (q := 119) dX4_read_116 ml_X4_72 sm_X4_release rfl (am_rul_k hr) (by decide) (by omega) rfl rfl (Nat.le_of_ble_eq_true rfl) rfl (s_rel (d := d + 3) hr 0 hch) ?_
      intro r116 mem116 hq116
      obtain ⟨rfl, hc3, hc4⟩ := hq116
      show am_Rn l G _ _ 119 [some (.inr (.inr (r + 1))), some (.inr (.inr 2)), some (.inl ((X.take 40).length : Int)), some (.inl (i : Int))] [] mem116 _
      refine rn_aload_n (x := 1) (q := 120) dX4_read_119 rfl rfl ?_
      refine rn_get (a := 1) (v := .inl (X.length : Int)) (q := 123) dX4_read_120 fl_X4_49 rfl (am_gi ((by rw [hc4.1 1 (by have := am_rul_or hr; omega) (by have := am_rul_or hr; omega) (by have := am_rul_or hr; omega)]; exact hX1.1) : mem116 1 1 = (X.length : Int))) rfl ?_
      refine rn_bipush (q := 125) dX4_read_123 ⟨by decide, by decide⟩ rfl ?_
      refine rn_cmple (t := 133) (q := 128) dX4_read_125 rfl rfl (fun w125 => ?_) (fun h => absurd h (by omega))
      refine rn_iconst (q := 134) dX4_read_133 (am_okd rfl) rfl ?_
      refine rn_iret dX4_read_134 rfl ?_
      exact ⟨hf.tr hc4.rs, ⟨dg, hdg, by rw [hc4.2 8 (by decide) (by decide)]; exact h8⟩, .inl ⟨hz, rfl, hc3.code (fun _ h => by cases h)⟩⟩
    have hln : 1 ≤ X.length := by
      cases X with
      | nil => exact absurd rfl hz
      | cons a t => simp
    cases o with
    | true =>
      change m r 9 = 1 at h9
      rw [if_pos (.inl rfl)] at hE
      refine rn_iload_n (x := (i : Int)) (q := 38) dX4_read_37 rfl rfl ?_
      refine rn_iload_n (x := ((X.take 40).length : Int)) (q := 39) dX4_read_38 rfl rfl ?_
      refine rn_cmpge (t := 94) (q := 42) dX4_read_39 rfl rfl (fun w39 => ?_) (fun h => absurd h (by omega))
      refine rn_iload_n (x := ((X.take 40).length : Int)) (q := 95) dX4_read_94 rfl rfl ?_
      refine rn_ifle (t := 114) (q := 98) dX4_read_95 rfl rfl (fun h => absurd h (by omega)) (fun w95 => ?_)
      refine rn_aload_n (x := r) (q := 99) dX4_read_98 rfl rfl ?_
      refine rn_get (a := r) (v := .inl 1) (q := 102) dX4_read_99 fl_X4_45 (am_rul_k hr) (am_gi h9) rfl ?_
      refine rn_ifne (t := 112) (q := 105) dX4_read_102 rfl rfl (fun w102 => ?_) (fun h => absurd h (by decide))
      refine rn_iload_n (x := ((X.take 40).length : Int)) (q := 113) dX4_read_112 rfl rfl ?_
      refine rn_iret dX4_read_113 rfl ?_
      exact ⟨hf, ⟨dg, hdg, h8⟩, .inr ⟨hz, .inl ⟨i, hrun.trans hE, by rw [hi2]⟩⟩⟩
    | false =>
      change m r 9 = 0 at h9
      by_cases hd0 : 0 < dp
      · rw [if_pos (.inr hd0)] at hE
        refine rn_iload_n (x := (i : Int)) (q := 38) dX4_read_37 rfl rfl ?_
        refine rn_iload_n (x := ((X.take 40).length : Int)) (q := 39) dX4_read_38 rfl rfl ?_
        refine rn_cmpge (t := 94) (q := 42) dX4_read_39 rfl rfl (fun w39 => ?_) (fun h => absurd h (by omega))
        refine rn_iload_n (x := ((X.take 40).length : Int)) (q := 95) dX4_read_94 rfl rfl ?_
        refine rn_ifle (t := 114) (q := 98) dX4_read_95 rfl rfl (fun h => absurd h (by omega)) (fun w95 => ?_)
        refine rn_aload_n (x := r) (q := 99) dX4_read_98 rfl rfl ?_
        refine rn_get (a := r) (v := .inl 0) (q := 102) dX4_read_99 fl_X4_45 (am_rul_k hr) (am_gi h9) rfl ?_
        refine rn_ifne (t := 112) (q := 105) dX4_read_102 rfl rfl (fun h => absurd h (by decide)) (fun w102 => ?_)
        refine rn_aload_n (x := r) (q := 106) dX4_read_105 rfl rfl ?_
        refine rn_get (a := r) (v := .inl (dp : Int)) (q := 109) dX4_read_106 fl_X4_39 (am_rul_k hr) (am_gi h6) rfl ?_
        refine rn_ifle (t := 114) (q := 112) dX4_read_109 rfl rfl (fun h => absurd h (by omega)) (fun w109 => ?_)
        refine rn_iload_n (x := ((X.take 40).length : Int)) (q := 113) dX4_read_112 rfl rfl ?_
        refine rn_iret dX4_read_113 rfl ?_
        exact ⟨hf, ⟨dg, hdg, h8⟩, .inr ⟨hz, .inl ⟨i, hrun.trans hE, by rw [hi2]⟩⟩⟩
      · rw [if_neg (by intro q; rcases q with q | q; cases q; exact hd0 q)] at hE
        have hcu := relC_u 0 HS C hu.1 hu.2
        by_cases h40 : 40 < X.length
        · refine rn_iload_n (x := (i : Int)) (q := 38) dX4_read_37 rfl rfl ?_
          refine rn_iload_n (x := ((X.take 40).length : Int)) (q := 39) dX4_read_38 rfl rfl ?_
          refine rn_cmpge (t := 94) (q := 42) dX4_read_39 rfl rfl (fun w39 => ?_) (fun h => absurd h (by omega))
          refine rn_iload_n (x := ((X.take 40).length : Int)) (q := 95) dX4_read_94 rfl rfl ?_
          refine rn_ifle (t := 114) (q := 98) dX4_read_95 rfl rfl (fun h => absurd h (by omega)) (fun w95 => ?_)
          refine rn_aload_n (x := r) (q := 99) dX4_read_98 rfl rfl ?_
          refine rn_get (a := r) (v := .inl 0) (q := 102) dX4_read_99 fl_X4_45 (am_rul_k hr) (am_gi h9) rfl ?_
          refine rn_ifne (t := 112) (q := 105) dX4_read_102 rfl rfl (fun h => absurd h (by decide)) (fun w102 => ?_)
          refine rn_aload_n (x := r) (q := 106) dX4_read_105 rfl rfl ?_
          refine rn_get (a := r) (v := .inl (dp : Int)) (q := 109) dX4_read_106 fl_X4_39 (am_rul_k hr) (am_gi h6) rfl ?_
          refine rn_ifle (t := 114) (q := 112) dX4_read_109 rfl rfl (fun w109 => ?_) (fun h => absurd h (by omega))
          refine rn_aload_n (x := r) (q := 115) dX4_read_114 rfl rfl ?_
          refine rn_iconst (q := 116) dX4_read_115 (am_okd rfl) rfl ?_
          refine rn_callV (b := r) (as := [.inl 0]) (rest := []) (q := 119) dX4_read_116 ml_X4_72 sm_X4_release rfl (am_rul_k hr) (by decide) (by omega) rfl rfl (Nat.le_of_ble_eq_true rfl) rfl (s_rel (d := d + 3) hr 0 hch) ?_
          intro r116 mem116 hq116
          obtain ⟨rfl, hc3, hc4⟩ := hq116
          show am_Rn l G _ _ 119 [some (.inr (.inr (r + 1))), some (.inr (.inr 2)), some (.inl ((X.take 40).length : Int)), some (.inl (i : Int))] [] mem116 _
          refine rn_aload_n (x := 1) (q := 120) dX4_read_119 rfl rfl ?_
          refine rn_get (a := 1) (v := .inl (X.length : Int)) (q := 123) dX4_read_120 fl_X4_49 rfl (am_gi ((by rw [hc4.1 1 (by have := am_rul_or hr; omega) (by have := am_rul_or hr; omega) (by have := am_rul_or hr; omega)]; exact hX1.1) : mem116 1 1 = (X.length : Int))) rfl ?_
          refine rn_bipush (q := 125) dX4_read_123 ⟨by decide, by decide⟩ rfl ?_
          refine rn_cmple (t := 133) (q := 128) dX4_read_125 rfl rfl (fun h => absurd h (by omega)) (fun w125 => ?_)
          refine rn_bipush (q := 130) dX4_read_128 ⟨by decide, by decide⟩ rfl ?_
          refine rn_goto (t := 134) dX4_read_130 rfl ?_
          refine rn_iret dX4_read_134 rfl ?_
          exact ⟨hf.tr hc4.rs, ⟨dg, hdg, by rw [hc4.2 8 (by decide) (by decide)]; exact h8⟩, .inr ⟨hz, .inr ⟨C, HS, hrun.trans hE, hc3.code hcu.1, by rw [if_pos h40]⟩⟩⟩
        · refine rn_iload_n (x := (i : Int)) (q := 38) dX4_read_37 rfl rfl ?_
          refine rn_iload_n (x := ((X.take 40).length : Int)) (q := 39) dX4_read_38 rfl rfl ?_
          refine rn_cmpge (t := 94) (q := 42) dX4_read_39 rfl rfl (fun w39 => ?_) (fun h => absurd h (by omega))
          refine rn_iload_n (x := ((X.take 40).length : Int)) (q := 95) dX4_read_94 rfl rfl ?_
          refine rn_ifle (t := 114) (q := 98) dX4_read_95 rfl rfl (fun h => absurd h (by omega)) (fun w95 => ?_)
          refine rn_aload_n (x := r) (q := 99) dX4_read_98 rfl rfl ?_
          refine rn_get (a := r) (v := .inl 0) (q := 102) dX4_read_99 fl_X4_45 (am_rul_k hr) (am_gi h9) rfl ?_
          refine rn_ifne (t := 112) (q := 105) dX4_read_102 rfl rfl (fun h => absurd h (by decide)) (fun w102 => ?_)
          refine rn_aload_n (x := r) (q := 106) dX4_read_105 rfl rfl ?_
          refine rn_get (a := r) (v := .inl (dp : Int)) (q := 109) dX4_read_106 fl_X4_39 (am_rul_k hr) (am_gi h6) rfl ?_
          refine rn_ifle (t := 114) (q := 112) dX4_read_109 rfl rfl (fun w109 => ?_) (fun h => absurd h (by omega))
          refine rn_aload_n (x := r) (q := 115) dX4_read_114 rfl rfl ?_
          refine rn_iconst (q := 116) dX4_read_115 (am_okd rfl) rfl ?_
          refine rn_callV (b := r) (as := [.inl 0]) (rest := []) (q := 119) dX4_read_116 ml_X4_72 sm_X4_release rfl (am_rul_k hr) (by decide) (by omega) rfl rfl (Nat.le_of_ble_eq_true rfl) rfl (s_rel (d := d + 3) hr 0 hch) ?_
          intro r116 mem116 hq116
          obtain ⟨rfl, hc3, hc4⟩ := hq116
          show am_Rn l G _ _ 119 [some (.inr (.inr (r + 1))), some (.inr (.inr 2)), some (.inl ((X.take 40).length : Int)), some (.inl (i : Int))] [] mem116 _
          refine rn_aload_n (x := 1) (q := 120) dX4_read_119 rfl rfl ?_
          refine rn_get (a := 1) (v := .inl (X.length : Int)) (q := 123) dX4_read_120 fl_X4_49 rfl (am_gi ((by rw [hc4.1 1 (by have := am_rul_or hr; omega) (by have := am_rul_or hr; omega) (by have := am_rul_or hr; omega)]; exact hX1.1) : mem116 1 1 = (X.length : Int))) rfl ?_
          refine rn_bipush (q := 125) dX4_read_123 ⟨by decide, by decide⟩ rfl ?_
          refine rn_cmple (t := 133) (q := 128) dX4_read_125 rfl rfl (fun w125 => ?_) (fun h => absurd h (by omega))
          refine rn_iconst (q := 134) dX4_read_133 (am_okd rfl) rfl ?_
          refine rn_iret dX4_read_134 rfl ?_
          exact ⟨hf.tr hc4.rs, ⟨dg, hdg, by rw [hc4.2 8 (by decide) (by decide)]; exact h8⟩, .inr ⟨hz, .inr ⟨C, HS, hrun.trans hE, hc3.code hcu.1, by rw [if_neg h40]⟩⟩⟩
  | succ k ih =>
    intro i s m hi hv hu hs hl hrun hf
    obtain ⟨C, HS, dp, cb, dg, o⟩ := s
    have hX1 := hX.rs hr hf
    have hil : i < (X.take 40).length := by omega
    have hct := txAt_ok (X := X) (p := (i : Int)) hX.2.2.1
    have htk := txAt_take hil
    have hne : txAt X (i : Int) ≠ -1 := by
      unfold txAt
      rw [if_pos (by omega)]
      omega
    have hz : X ≠ [] := by intro e; rw [e] at hil; simp at hil
    have h8 : m r 8 = (dg : Int) := hs.2.2.2.1
    have hdg : dg ≤ 3 := hv.2.2.1
    change C.length + HS.length ≤ i at hl
    cases o with
    | true =>
      have h9 : m r 9 = 1 := hs.2.2.2.2
      have hT := s_readThing (l := l) (G := G) (d := d) hr hs hv (by omega) hct hne
      cases hq : rth (C, HS, dp, cb, dg, true) (txAt X (i : Int)) with
      | none =>
        rw [hq] at hT
        have hR := run_none (s := (C, HS, dp, cb, dg, true)) hil (by rw [← htk]; exact hq)
        refine rn_iload_n (x := (i : Int)) (q := 38) dX4_read_37 rfl rfl ?_
        refine rn_iload_n (x := ((X.take 40).length : Int)) (q := 39) dX4_read_38 rfl rfl ?_
        refine rn_cmpge (t := 94) (q := 42) dX4_read_39 rfl rfl (fun h => absurd h (by omega)) (fun w39 => ?_)
        refine rn_aload_n (x := r) (q := 43) dX4_read_42 rfl rfl ?_
        refine rn_get (a := r) (v := .inl 1) (q := 46) dX4_read_43 fl_X4_45 (am_rul_k hr) (am_gi h9) rfl ?_
        refine rn_ifeq (t := 69) (q := 49) dX4_read_46 rfl rfl (fun h => absurd h (by decide)) (fun w46 => ?_)
        refine rn_aload_n (x := r) (q := 50) dX4_read_49 rfl rfl ?_
        refine rn_aload_n (x := 1) (q := 51) dX4_read_50 rfl rfl ?_
        refine rn_iload_n (x := (i : Int)) (q := 52) dX4_read_51 rfl rfl ?_
        refine rn_callV (b := 1) (as := [.inl (i : Int)]) (rest := [.inr (.inr (r + 1))]) (q := 55) dX4_read_52 ml_X4_58 sm_X7_at rfl rfl (by decide) (by omega) rfl rfl (Nat.le_of_ble_eq_true rfl) rfl (s_Tat (d := d + 4) hX1 (i : Int)) ?_
        intro r52 mem52 hq52
        obtain ⟨rfl, rfl⟩ := hq52
        show am_Rn l G _ _ 55 [some (.inr (.inr (r + 1))), some (.inr (.inr 2)), some (.inl ((X.take 40).length : Int)), some (.inl (i : Int))] [.inl (txAt X (i : Int)), .inr (.inr (r + 1))] m _
        refine rn_aload_n (x := 1) (q := 56) dX4_read_55 rfl rfl ?_
        refine rn_iload_n (x := (i : Int)) (q := 57) dX4_read_56 rfl rfl ?_
        refine rn_callV (b := 1) (as := [.inl (i : Int)]) (rest := [.inl (txAt X (i : Int)), .inr (.inr (r + 1))]) (q := 60) dX4_read_57 ml_X4_62 sm_X7_digit rfl rfl (by decide) (by omega) rfl rfl (Nat.le_of_ble_eq_true rfl) rfl (s_Tdigit (d := d + 3) hX1 (i : Int)) ?_
        intro r57 mem57 hq57
        obtain ⟨rfl, rfl⟩ := hq57
        show am_Rn l G _ _ 60 [some (.inr (.inr (r + 1))), some (.inr (.inr 2)), some (.inl ((X.take 40).length : Int)), some (.inl (i : Int))] [.inl (txDg X (i : Int)), .inl (txAt X (i : Int)), .inr (.inr (r + 1))] m _
        refine rn_callV (b := r) (as := [.inl (txAt X (i : Int)), .inl (txDg X (i : Int))]) (rest := []) (q := 63) dX4_read_60 ml_X4_65 sm_X4_readThing rfl (am_rul_k hr) (by decide) (by omega) rfl rfl (Nat.le_of_ble_eq_true rfl) rfl (hT) ?_
        intro r60 mem60 hq60
        obtain ⟨rfl, hs1, hn1, hf1⟩ := hq60
        show am_Rn l G _ _ 63 [some (.inr (.inr (r + 1))), some (.inr (.inr 2)), some (.inl ((X.take 40).length : Int)), some (.inl (i : Int))] [.inl 0] mem60 _
        refine rn_ifeq (t := 86) (q := 66) dX4_read_63 rfl rfl (fun w63 => ?_) (fun h => absurd h (by decide))
        refine rn_iload_n (x := (i : Int)) (q := 87) dX4_read_86 rfl rfl ?_
        refine rn_iret dX4_read_87 rfl ?_
        exact ⟨hf.tr hf1, ⟨dg, hdg, by rw [hn1 rfl]; exact h8⟩, .inr ⟨hz, .inl ⟨i, hrun.trans hR, rfl⟩⟩⟩
      | some s1 =>
        rw [hq] at hT
        have hst : stp (C, HS, dp, cb, dg, true) (txAt X (i : Int)) = some s1 := hq
        have hR := run_some (s := (C, HS, dp, cb, dg, true)) hil (by rw [← htk]; exact hst)
        have hin := stp_inv hv hu hct hst
        refine rn_iload_n (x := (i : Int)) (q := 38) dX4_read_37 rfl rfl ?_
        refine rn_iload_n (x := ((X.take 40).length : Int)) (q := 39) dX4_read_38 rfl rfl ?_
        refine rn_cmpge (t := 94) (q := 42) dX4_read_39 rfl rfl (fun h => absurd h (by omega)) (fun w39 => ?_)
        refine rn_aload_n (x := r) (q := 43) dX4_read_42 rfl rfl ?_
        refine rn_get (a := r) (v := .inl 1) (q := 46) dX4_read_43 fl_X4_45 (am_rul_k hr) (am_gi h9) rfl ?_
        refine rn_ifeq (t := 69) (q := 49) dX4_read_46 rfl rfl (fun h => absurd h (by decide)) (fun w46 => ?_)
        refine rn_aload_n (x := r) (q := 50) dX4_read_49 rfl rfl ?_
        refine rn_aload_n (x := 1) (q := 51) dX4_read_50 rfl rfl ?_
        refine rn_iload_n (x := (i : Int)) (q := 52) dX4_read_51 rfl rfl ?_
        refine rn_callV (b := 1) (as := [.inl (i : Int)]) (rest := [.inr (.inr (r + 1))]) (q := 55) dX4_read_52 ml_X4_58 sm_X7_at rfl rfl (by decide) (by omega) rfl rfl (Nat.le_of_ble_eq_true rfl) rfl (s_Tat (d := d + 4) hX1 (i : Int)) ?_
        intro r52 mem52 hq52
        obtain ⟨rfl, rfl⟩ := hq52
        show am_Rn l G _ _ 55 [some (.inr (.inr (r + 1))), some (.inr (.inr 2)), some (.inl ((X.take 40).length : Int)), some (.inl (i : Int))] [.inl (txAt X (i : Int)), .inr (.inr (r + 1))] m _
        refine rn_aload_n (x := 1) (q := 56) dX4_read_55 rfl rfl ?_
        refine rn_iload_n (x := (i : Int)) (q := 57) dX4_read_56 rfl rfl ?_
        refine rn_callV (b := 1) (as := [.inl (i : Int)]) (rest := [.inl (txAt X (i : Int)), .inr (.inr (r + 1))]) (q := 60) dX4_read_57 ml_X4_62 sm_X7_digit rfl rfl (by decide) (by omega) rfl rfl (Nat.le_of_ble_eq_true rfl) rfl (s_Tdigit (d := d + 3) hX1 (i : Int)) ?_
        intro r57 mem57 hq57
        obtain ⟨rfl, rfl⟩ := hq57
        show am_Rn l G _ _ 60 [some (.inr (.inr (r + 1))), some (.inr (.inr 2)), some (.inl ((X.take 40).length : Int)), some (.inl (i : Int))] [.inl (txDg X (i : Int)), .inl (txAt X (i : Int)), .inr (.inr (r + 1))] m _
        refine rn_callV (b := r) (as := [.inl (txAt X (i : Int)), .inl (txDg X (i : Int))]) (rest := []) (q := 63) dX4_read_60 ml_X4_65 sm_X4_readThing rfl (am_rul_k hr) (by decide) (by omega) rfl rfl (Nat.le_of_ble_eq_true rfl) rfl (hT) ?_
        intro r60 mem60 hq60
        obtain ⟨rfl, hs1, hn1, hf1⟩ := hq60
        show am_Rn l G _ _ 63 [some (.inr (.inr (r + 1))), some (.inr (.inr 2)), some (.inl ((X.take 40).length : Int)), some (.inl (i : Int))] [.inl 1] mem60 _
        refine rn_ifeq (t := 86) (q := 66) dX4_read_63 rfl rfl (fun h => absurd h (by decide)) (fun w63 => ?_)
        refine rn_goto (t := 88) dX4_read_66 rfl ?_
        refine rn_iincN (x := (i : Int)) (z := ((i + 1 : Nat) : Int)) (ls' := [some (.inr (.inr (r + 1))), some (.inr (.inr 2)), some (.inl ((X.take 40).length : Int)), some (.inl ((i + 1 : Nat) : Int))]) (q := 91) dX4_read_88 rfl (by decide) (by omega) (by unfold am_ok; omega) rfl rfl ?_
        refine rn_goto (t := 37) dX4_read_91 rfl ?_
        exact ih (i + 1) s1 mem60 (by omega) hin.1 hin.2.1 (hs1 s1 rfl) (by have := hin.2.2; change _ ≤ C.length + HS.length + 1 at this; omega) (hrun.trans hR) (hf.tr hf1)
    | false =>
      have h9 : m r 9 = 0 := hs.2.2.2.2
      have hT := s_readNext (l := l) (G := G) (d := d + 1) hr hs hv (by omega) hct
      cases hq : rnx (C, HS, dp, cb, dg, false) (txAt X (i : Int)) with
      | none =>
        rw [hq] at hT
        have hR := run_none (s := (C, HS, dp, cb, dg, false)) hil (by rw [← htk]; exact hq)
        refine rn_iload_n (x := (i : Int)) (q := 38) dX4_read_37 rfl rfl ?_
        refine rn_iload_n (x := ((X.take 40).length : Int)) (q := 39) dX4_read_38 rfl rfl ?_
        refine rn_cmpge (t := 94) (q := 42) dX4_read_39 rfl rfl (fun h => absurd h (by omega)) (fun w39 => ?_)
        refine rn_aload_n (x := r) (q := 43) dX4_read_42 rfl rfl ?_
        refine rn_get (a := r) (v := .inl 0) (q := 46) dX4_read_43 fl_X4_45 (am_rul_k hr) (am_gi h9) rfl ?_
        refine rn_ifeq (t := 69) (q := 49) dX4_read_46 rfl rfl (fun w46 => ?_) (fun h => absurd h (by decide))
        refine rn_aload_n (x := r) (q := 70) dX4_read_69 rfl rfl ?_
        refine rn_aload_n (x := 1) (q := 71) dX4_read_70 rfl rfl ?_
        refine rn_iload_n (x := (i : Int)) (q := 72) dX4_read_71 rfl rfl ?_
        refine rn_callV (b := 1) (as := [.inl (i : Int)]) (rest := [.inr (.inr (r + 1))]) (q := 75) dX4_read_72 ml_X4_58 sm_X7_at rfl rfl (by decide) (by omega) rfl rfl (Nat.le_of_ble_eq_true rfl) rfl (s_Tat (d := d + 4) hX1 (i : Int)) ?_
        intro r72 mem72 hq72
        obtain ⟨rfl, rfl⟩ := hq72
        show am_Rn l G _ _ 75 [some (.inr (.inr (r + 1))), some (.inr (.inr 2)), some (.inl ((X.take 40).length : Int)), some (.inl (i : Int))] [.inl (txAt X (i : Int)), .inr (.inr (r + 1))] m _
        refine rn_aload_n (x := 1) (q := 76) dX4_read_75 rfl rfl ?_
        refine rn_iload_n (x := (i : Int)) (q := 77) dX4_read_76 rfl rfl ?_
        refine rn_callV (b := 1) (as := [.inl (i : Int)]) (rest := [.inl (txAt X (i : Int)), .inr (.inr (r + 1))]) (q := 80) dX4_read_77 ml_X4_62 sm_X7_digit rfl rfl (by decide) (by omega) rfl rfl (Nat.le_of_ble_eq_true rfl) rfl (s_Tdigit (d := d + 3) hX1 (i : Int)) ?_
        intro r77 mem77 hq77
        obtain ⟨rfl, rfl⟩ := hq77
        show am_Rn l G _ _ 80 [some (.inr (.inr (r + 1))), some (.inr (.inr 2)), some (.inl ((X.take 40).length : Int)), some (.inl (i : Int))] [.inl (txDg X (i : Int)), .inl (txAt X (i : Int)), .inr (.inr (r + 1))] m _
        refine rn_callV (b := r) (as := [.inl (txAt X (i : Int)), .inl (txDg X (i : Int))]) (rest := []) (q := 83) dX4_read_80 ml_X4_69 sm_X4_readNext rfl (am_rul_k hr) (by decide) (by omega) rfl rfl (Nat.le_of_ble_eq_true rfl) rfl (hT) ?_
        intro r80 mem80 hq80
        obtain ⟨rfl, hs1, hn1, hf1⟩ := hq80
        show am_Rn l G _ _ 83 [some (.inr (.inr (r + 1))), some (.inr (.inr 2)), some (.inl ((X.take 40).length : Int)), some (.inl (i : Int))] [.inl 0] mem80 _
        refine rn_ifne (t := 88) (q := 86) dX4_read_83 rfl rfl (fun h => absurd h (by decide)) (fun w83 => ?_)
        refine rn_iload_n (x := (i : Int)) (q := 87) dX4_read_86 rfl rfl ?_
        refine rn_iret dX4_read_87 rfl ?_
        exact ⟨hf.tr hf1, ⟨dg, hdg, by rw [hn1 rfl]; exact h8⟩, .inr ⟨hz, .inl ⟨i, hrun.trans hR, rfl⟩⟩⟩
      | some s1 =>
        rw [hq] at hT
        have hst : stp (C, HS, dp, cb, dg, false) (txAt X (i : Int)) = some s1 := hq
        have hR := run_some (s := (C, HS, dp, cb, dg, false)) hil (by rw [← htk]; exact hst)
        have hin := stp_inv hv hu hct hst
        refine rn_iload_n (x := (i : Int)) (q := 38) dX4_read_37 rfl rfl ?_
        refine rn_iload_n (x := ((X.take 40).length : Int)) (q := 39) dX4_read_38 rfl rfl ?_
        refine rn_cmpge (t := 94) (q := 42) dX4_read_39 rfl rfl (fun h => absurd h (by omega)) (fun w39 => ?_)
        refine rn_aload_n (x := r) (q := 43) dX4_read_42 rfl rfl ?_
        refine rn_get (a := r) (v := .inl 0) (q := 46) dX4_read_43 fl_X4_45 (am_rul_k hr) (am_gi h9) rfl ?_
        refine rn_ifeq (t := 69) (q := 49) dX4_read_46 rfl rfl (fun w46 => ?_) (fun h => absurd h (by decide))
        refine rn_aload_n (x := r) (q := 70) dX4_read_69 rfl rfl ?_
        refine rn_aload_n (x := 1) (q := 71) dX4_read_70 rfl rfl ?_
        refine rn_iload_n (x := (i : Int)) (q := 72) dX4_read_71 rfl rfl ?_
        refine rn_callV (b := 1) (as := [.inl (i : Int)]) (rest := [.inr (.inr (r + 1))]) (q := 75) dX4_read_72 ml_X4_58 sm_X7_at rfl rfl (by decide) (by omega) rfl rfl (Nat.le_of_ble_eq_true rfl) rfl (s_Tat (d := d + 4) hX1 (i : Int)) ?_
        intro r72 mem72 hq72
        obtain ⟨rfl, rfl⟩ := hq72
        show am_Rn l G _ _ 75 [some (.inr (.inr (r + 1))), some (.inr (.inr 2)), some (.inl ((X.take 40).length : Int)), some (.inl (i : Int))] [.inl (txAt X (i : Int)), .inr (.inr (r + 1))] m _
        refine rn_aload_n (x := 1) (q := 76) dX4_read_75 rfl rfl ?_
        refine rn_iload_n (x := (i : Int)) (q := 77) dX4_read_76 rfl rfl ?_
        refine rn_callV (b := 1) (as := [.inl (i : Int)]) (rest := [.inl (txAt X (i : Int)), .inr (.inr (r + 1))]) (q := 80) dX4_read_77 ml_X4_62 sm_X7_digit rfl rfl (by decide) (by omega) rfl rfl (Nat.le_of_ble_eq_true rfl) rfl (s_Tdigit (d := d + 3) hX1 (i : Int)) ?_
        intro r77 mem77 hq77
        obtain ⟨rfl, rfl⟩ := hq77
        show am_Rn l G _ _ 80 [some (.inr (.inr (r + 1))), some (.inr (.inr 2)), some (.inl ((X.take 40).length : Int)), some (.inl (i : Int))] [.inl (txDg X (i : Int)), .inl (txAt X (i : Int)), .inr (.inr (r + 1))] m _
        refine rn_callV (b := r) (as := [.inl (txAt X (i : Int)), .inl (txDg X (i : Int))]) (rest := []) (q := 83) dX4_read_80 ml_X4_69 sm_X4_readNext rfl (am_rul_k hr) (by decide) (by omega) rfl rfl (Nat.le_of_ble_eq_true rfl) rfl (hT) ?_
        intro r80 mem80 hq80
        obtain ⟨rfl, hs1, hn1, hf1⟩ := hq80
        show am_Rn l G _ _ 83 [some (.inr (.inr (r + 1))), some (.inr (.inr 2)), some (.inl ((X.take 40).length : Int)), some (.inl (i : Int))] [.inl 1] mem80 _
        refine rn_ifne (t := 88) (q := 86) dX4_read_83 rfl rfl (fun w83 => ?_) (fun h => absurd h (by decide))
        refine rn_iincN (x := (i : Int)) (z := ((i + 1 : Nat) : Int)) (ls' := [some (.inr (.inr (r + 1))), some (.inr (.inr 2)), some (.inl ((X.take 40).length : Int)), some (.inl ((i + 1 : Nat) : Int))]) (q := 91) dX4_read_88 rfl (by decide) (by omega) (by unfold am_ok; omega) rfl rfl ?_
        refine rn_goto (t := 37) dX4_read_91 rfl ?_
        exact ih (i + 1) s1 mem80 (by omega) hin.1 hin.2.1 (hs1 s1 rfl) (by have := hin.2.2; change _ ≤ C.length + HS.length + 1 at this; omega) (hrun.trans hR) (hf.tr hf1)
theorem s_read {r : Nat} (hr : am_rul r) {X : List Nat} (hX : c_text X mem) {dg : Nat} (hdg : dg ≤ 3) (h8 : mem r 8 = (dg : Int)) : am_Sm l G yX4_read mt_X4_read (d + 5) [.inr (.inr (r + 1)), .inr (.inr 2)] mem (o_read r X dg mem) := by
  refine am_enter (ls := [some (.inr (.inr (r + 1))), some (.inr (.inr 2)), none, none]) (by decide) rfl (Nat.le_of_ble_eq_true rfl) rfl ?_
  have hT : (X.take 40).length = min 40 X.length := List.length_take
  refine rn_aload_n (x := r) (q := 1) dX4_read_0 rfl rfl ?_
  refine rn_iconst (q := 2) dX4_read_1 (am_okd rfl) rfl ?_
  refine rn_puti (a := r) (q := 5) dX4_read_2 fl_X4_32 (am_rul_k hr) rfl rfl rfl ?_
  refine rn_aload_n (x := r) (q := 6) dX4_read_5 rfl rfl ?_
  refine rn_iconst (q := 7) dX4_read_6 (am_okd rfl) rfl ?_
  refine rn_puti (a := r) (q := 10) dX4_read_7 fl_X4_36 (am_rul_k hr) rfl rfl rfl ?_
  refine rn_aload_n (x := r) (q := 11) dX4_read_10 rfl rfl ?_
  refine rn_iconst (q := 12) dX4_read_11 (am_okd rfl) rfl ?_
  refine rn_puti (a := r) (q := 15) dX4_read_12 fl_X4_39 (am_rul_k hr) rfl rfl rfl ?_
  refine rn_aload_n (x := r) (q := 16) dX4_read_15 rfl rfl ?_
  refine rn_iconst (q := 17) dX4_read_16 (am_okd rfl) rfl ?_
  refine rn_puti (a := r) (q := 20) dX4_read_17 fl_X4_42 (am_rul_k hr) rfl rfl rfl ?_
  refine rn_aload_n (x := r) (q := 21) dX4_read_20 rfl rfl ?_
  refine rn_iconst (q := 22) dX4_read_21 (am_okd rfl) rfl ?_
  refine rn_putz (a := r) (q := 25) dX4_read_22 fl_X4_45 (am_rul_k hr) rfl rfl (by omega) rfl ?_
  have hf1 : fr_rs r mem (am_up (am_up (am_up (am_up (am_up mem r 4 0) r 5 0) r 6 0) r 7 0) r 9 1) := ((((fr_rs.rf.up _ _).up _ _).up _ _).up _ _).up _ _
  have hc1 : c_rs r ([], [], 0, 0, dg, true) (am_up (am_up (am_up (am_up (am_up mem r 4 0) r 5 0) r 6 0) r 7 0) r 9 1) := ⟨⟨by simp [am_up], fun i hi => absurd hi (Nat.not_lt_zero _), by simp [am_up], fun i hi => absurd hi (Nat.not_lt_zero _), by simp, fun h hh => by cases hh⟩, by simp [am_up], by simp [am_up], by simp [am_up]; exact h8, by simp [am_up]⟩
  generalize am_up (am_up (am_up (am_up (am_up mem r 4 0) r 5 0) r 6 0) r 7 0) r 9 1 = m1 at hf1 hc1
  have hX1 := hX.rs hr hf1
  refine rn_aload_n (x := 1) (q := 26) dX4_read_25 rfl rfl ?_
  refine rn_get (a := 1) (v := .inl (X.length : Int)) (q := 29) dX4_read_26 fl_X4_49 rfl (am_gi hX1.1) rfl ?_
  refine rn_bipush (q := 31) dX4_read_29 ⟨by decide, by decide⟩ rfl ?_
  refine rn_mmin (q := 34) dX4_read_31 am_mm_X4_52 am_mminw (Nat.le_of_ble_eq_true rfl) rfl ?_
  rw [show (min (X.length : Int) 40) = ((X.take 40).length : Int) by omega]
  refine rn_istore_n (ls' := [some (.inr (.inr (r + 1))), some (.inr (.inr 2)), some (.inl ((X.take 40).length : Int)), none]) (q := 35) dX4_read_34 (by decide) rfl rfl ?_
  refine rn_iconst (q := 36) dX4_read_35 (am_okd rfl) rfl ?_
  refine rn_istore_n (ls' := [some (.inr (.inr (r + 1))), some (.inr (.inr 2)), some (.inl ((X.take 40).length : Int)), some (.inl 0)]) (q := 37) dX4_read_36 (by decide) rfl rfl ?_
  exact s_read37 hr hX (X.take 40).length 0 ([], [], 0, 0, dg, true) m1 (by omega) ⟨Nat.zero_le _, (by show 0 < 32; decide), hdg, fun e => (by cases e)⟩ ⟨fun x h => (by cases h), fun x h => (by cases h)⟩ hc1 (Nat.le_refl 0) rfl hf1
theorem s_join (c x y : Int) : am_Sm l G yX4_join mt_X4_join d [.inl c, .inl x, .inl y] mem (am_rr (some (.inl (jn c x y))) mem) := by
  refine am_enter (ls := [some (.inl c), some (.inl x), some (.inl y)]) (by decide) rfl (Nat.le_of_ble_eq_true rfl) rfl ?_
  by_cases h42 : c = 42
  · subst h42
    refine rn_iload_n (x := 42) (q := 1) dX4_join_0 rfl rfl ?_
    refine rn_look (o1 := 100) (t := 101) dX4_join_1 rfl rfl rfl ?_
    refine rn_iload_n (x := x) (q := 102) dX4_join_101 rfl rfl ?_
    refine rn_iload_n (x := y) (q := 103) dX4_join_102 rfl rfl ?_
    refine rn_imul (q := 104) dX4_join_103 rfl ?_
    refine rn_iret dX4_join_104 rfl ?_
    exact ⟨rfl, rfl⟩
  by_cases h43 : c = 43
  · subst h43
    refine rn_iload_n (x := 43) (q := 1) dX4_join_0 rfl rfl ?_
    refine rn_look (o1 := 92) (t := 93) dX4_join_1 rfl rfl rfl ?_
    refine rn_iload_n (x := x) (q := 94) dX4_join_93 rfl rfl ?_
    refine rn_iload_n (x := y) (q := 95) dX4_join_94 rfl rfl ?_
    refine rn_iadd (q := 96) dX4_join_95 rfl ?_
    refine rn_iret dX4_join_96 rfl ?_
    exact ⟨rfl, rfl⟩
  by_cases h45 : c = 45
  · subst h45
    refine rn_iload_n (x := 45) (q := 1) dX4_join_0 rfl rfl ?_
    refine rn_look (o1 := 96) (t := 97) dX4_join_1 rfl rfl rfl ?_
    refine rn_iload_n (x := x) (q := 98) dX4_join_97 rfl rfl ?_
    refine rn_iload_n (x := y) (q := 99) dX4_join_98 rfl rfl ?_
    refine rn_isub (q := 100) dX4_join_99 rfl ?_
    refine rn_iret dX4_join_100 rfl ?_
    exact ⟨rfl, rfl⟩
  by_cases h60 : c = 60
  · subst h60
    refine rn_iload_n (x := 60) (q := 1) dX4_join_0 rfl rfl ?_
    refine rn_look (o1 := 59) (t := 60) dX4_join_1 rfl rfl rfl ?_
    refine rn_iload_n (x := x) (q := 61) dX4_join_60 rfl rfl ?_
    refine rn_iload_n (x := y) (q := 62) dX4_join_61 rfl rfl ?_
    refine rn_cmpge (t := 69) (q := 65) dX4_join_62 rfl rfl (fun w62 => ?_) (fun w62 => ?_)
    · refine rn_iconst (q := 70) dX4_join_69 (am_okd rfl) rfl ?_
      refine rn_iret dX4_join_70 rfl ?_
      exact ⟨by show _ = some (Sum.inl (if x < y then 1 else 0)); simp <;> omega, rfl⟩
    · refine rn_iconst (q := 66) dX4_join_65 (am_okd rfl) rfl ?_
      refine rn_goto (t := 70) dX4_join_66 rfl ?_
      refine rn_iret dX4_join_70 rfl ?_
      exact ⟨by show _ = some (Sum.inl (if x < y then 1 else 0)); simp <;> omega, rfl⟩
  by_cases h61 : c = 61
  · subst h61
    refine rn_iload_n (x := 61) (q := 1) dX4_join_0 rfl rfl ?_
    refine rn_look (o1 := 81) (t := 82) dX4_join_1 rfl rfl rfl ?_
    refine rn_iload_n (x := x) (q := 83) dX4_join_82 rfl rfl ?_
    refine rn_iload_n (x := y) (q := 84) dX4_join_83 rfl rfl ?_
    refine rn_cmpne (t := 91) (q := 87) dX4_join_84 rfl rfl (fun w84 => ?_) (fun w84 => ?_)
    · refine rn_iconst (q := 92) dX4_join_91 (am_okd rfl) rfl ?_
      refine rn_iret dX4_join_92 rfl ?_
      exact ⟨by show _ = some (Sum.inl (if x = y then 1 else 0)); simp <;> omega, rfl⟩
    · refine rn_iconst (q := 88) dX4_join_87 (am_okd rfl) rfl ?_
      refine rn_goto (t := 92) dX4_join_88 rfl ?_
      refine rn_iret dX4_join_92 rfl ?_
      exact ⟨by show _ = some (Sum.inl (if x = y then 1 else 0)); simp <;> omega, rfl⟩
  by_cases h62 : c = 62
  · subst h62
    refine rn_iload_n (x := 62) (q := 1) dX4_join_0 rfl rfl ?_
    refine rn_look (o1 := 70) (t := 71) dX4_join_1 rfl rfl rfl ?_
    refine rn_iload_n (x := x) (q := 72) dX4_join_71 rfl rfl ?_
    refine rn_iload_n (x := y) (q := 73) dX4_join_72 rfl rfl ?_
    refine rn_cmple (t := 80) (q := 76) dX4_join_73 rfl rfl (fun w73 => ?_) (fun w73 => ?_)
    · refine rn_iconst (q := 81) dX4_join_80 (am_okd rfl) rfl ?_
      refine rn_iret dX4_join_81 rfl ?_
      exact ⟨by show _ = some (Sum.inl (if y < x then 1 else 0)); simp <;> omega, rfl⟩
    · refine rn_iconst (q := 77) dX4_join_76 (am_okd rfl) rfl ?_
      refine rn_goto (t := 81) dX4_join_77 rfl ?_
      refine rn_iret dX4_join_81 rfl ?_
      exact ⟨by show _ = some (Sum.inl (if y < x then 1 else 0)); simp <;> omega, rfl⟩
  have hout : ∀ p ∈ ([(42, 100), (43, 92), (45, 96), (60, 59), (61, 81), (62, 70)] : List (Int × Int)), p.1 ≠ c := by simp; omega
  have hj : jn c x y = if y = 0 then 0 else am_w32 (x.tdiv y) := by unfold jn mulv; rw [if_neg (by omega), if_neg (by omega), if_neg h42]
  rw [hj]
  refine rn_iload_n (x := c) (q := 1) dX4_join_0 rfl rfl ?_
  refine rn_look (o1 := 104) (t := 105) dX4_join_1 rfl (lk_out hout) rfl ?_
  refine rn_iload_n (x := y) (q := 106) dX4_join_105 rfl rfl ?_
  refine rn_ifne (t := 113) (q := 109) dX4_join_106 rfl rfl (fun w106 => ?_) (fun w106 => ?_)
  · refine rn_iload_n (x := x) (q := 114) dX4_join_113 rfl rfl ?_
    refine rn_iload_n (x := y) (q := 115) dX4_join_114 rfl rfl ?_
    refine rn_idiv (q := 116) dX4_join_115 w106 rfl ?_
    refine rn_iret dX4_join_116 rfl ?_
    exact ⟨by first | rw [if_pos (by omega)] | rw [if_neg w106], rfl⟩
  · refine rn_iconst (q := 110) dX4_join_109 (am_okd rfl) rfl ?_
    refine rn_goto (t := 116) dX4_join_110 rfl ?_
    refine rn_iret dX4_join_116 rfl ?_
    exact ⟨by first | rw [if_pos (by omega)] | rw [if_neg w106], rfl⟩
end P35
