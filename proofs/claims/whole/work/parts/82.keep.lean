/-! keep and again -/
def c_kept (K : Nat → Option est) (n : Nat) (mem : am_M) : Prop := ∀ i, i < 2 → mem 63 i = ((89 + 3 * i + 1 : Nat) : Int) ∧ -1 ≤ mem 64 i ∧ (K i = none → mem 64 i < n) ∧ ∀ e, K i = some e → mem 64 i = n ∧ c_est e (89 + 3 * i) mem
def m_kept (K : Nat → Option est) (n : Nat) (mem : am_M) : Prop := 0 ≤ mem 95 47 ∧ mem 95 47 ≤ n ∧ ∀ i, i < 2 → (mem 124 i = 0 ∨ mem 124 i = 1) ∧ 0 ≤ mem 125 i ∧ (K i = none → mem 124 i = 0 ∨ mem 125 i < mem 95 47) ∧ ∀ e, K i = some e → mem 124 i = 1 ∧ mem 125 i = mem 95 47 ∧ m_est e 123 (29 * i) mem
def keepK (K : Nat → Option est) (k : Nat) (e : est) : Nat → Option est := fun j => if j = k then some e else K j
theorem c_undo_nil {U : List est} {m : am_M} (h : c_undo U m) : c_undo [] (am_up m 25 1 0) := by
  obtain ⟨q1, q2, p, q3, q4, q5⟩ := h
  exact ⟨rfl, by decide, p, q3, q4, fun j hj => absurd hj (Nat.not_lt_zero j)⟩
section P82
variable {l : Launch} {G : am_G} {d : Nat} {r : Nat} {X : List Nat} {C : List Int} {sn : Nat} {sg : Nat → Nat} {h : hrs} {e : est} {NB : Nat} {mem m : am_M}
variable {e2 : est} {U : List est} {R : List Int} {K : Nat → Option est}
theorem c_keep (q : CQ r X C sn sg h e NB mem) (hK : c_kept K h.1 mem) (i : Int) : am_Sm l G yX8_keep mt_X8_keep (d + 1) [.inr (.inr 1), .inl i] mem (fun q m => (¬ (0 ≤ i ∧ i < 2) → q = some (.inl 0) ∧ mem = m) ∧ (0 ≤ i ∧ i < 2 → q = some (.inl 1) ∧ c_kept (keepK K i.toNat e) h.1 m ∧ ∀ x, x ≠ 64 → (x < 89 ∨ 94 < x) → m x = mem x)) := by
  refine am_enterQ (ls := [some (.inr (.inr 1)), some (.inl i)]) (by decide) rfl (Nat.le_of_ble_eq_true rfl) rfl (fun hok Q hQ => ?_)
  have b := q.bd
  by_cases hn : 0 ≤ i ∧ i < 2
  · obtain ⟨k, rfl⟩ : ∃ k : Nat, i = (k : Int) := ⟨i.toNat, by omega⟩
    obtain ⟨a, ha, hak⟩ : ∃ a, am_est a ∧ a = 89 + 3 * k := by
      rcases (show k = 0 ∨ k = 1 by omega) with rfl | rfl
      · exact ⟨89, by unfold am_est; decide, rfl⟩
      · exact ⟨92, by unfold am_est; decide, rfl⟩
    have h63 := (hK k (by omega)).1
    refine rn_iload_n (x := (k : Int)) (q := 1) dX8_keep_0 rfl rfl ?_
    refine rn_iflt (t := 9) (q := 4) dX8_keep_1 rfl rfl (fun w1 => ?_) (fun w1 => ?_)
    · refine rn_iconst (q := 10) dX8_keep_9 (am_okd rfl) rfl ?_
      refine rn_zret dX8_keep_10 rfl (by omega) ?_
      exfalso; omega
    · refine rn_iload_n (x := (k : Int)) (q := 5) dX8_keep_4 rfl rfl ?_
      refine rn_iconst (q := 6) dX8_keep_5 (am_okd rfl) rfl ?_
      refine rn_cmplt (t := 11) (q := 9) dX8_keep_6 rfl rfl (fun w6 => ?_) (fun w6 => ?_)
      · refine rn_aload_n (x := 0) (q := 12) dX8_keep_11 rfl rfl ?_
        refine rn_get (a := 0) (v := .inr (.inr 64)) (q := 15) dX8_keep_12 fl_X8_50 rfl rfl rfl ?_
        refine rn_iload_n (x := (k : Int)) (q := 16) dX8_keep_15 rfl rfl ?_
        refine rn_aaldV (a := 63) (c := a + 1) (q := 17) dX8_keep_16 rfl (by omega) (by omega) (show (mem 63 k).toNat = a + 1 by rw [h63]; omega) rfl ?_
        refine rn_aload_n (x := 0) (q := 18) dX8_keep_17 rfl rfl ?_
        refine rn_get (a := 0) (v := .inr (.inr 17)) (q := 21) dX8_keep_18 fl_X8_33 rfl rfl rfl ?_
        refine rn_callV (b := a) (as := [.inr (.inr 17)]) (rest := []) (q := 24) dX8_keep_21 ml_X8_212 sm_X0_copy rfl (am_est_k ha) (by decide) (by omega) rfl rfl (Nat.le_of_ble_eq_true rfl) rfl (s_copy (d := d + 0) (a := a) (b := 16) ha (show 16 ∈ am_estL by decide) (by omega) q.es) ?_
        intro r21 mem21 hq21
        obtain ⟨rfl, he21, hg21⟩ := hq21
        show am_Rn l G _ _ 24 [some (.inr (.inr 1)), some (.inl (k : Int))] [] mem21 _
        refine rn_aload_n (x := 0) (q := 25) dX8_keep_24 rfl rfl ?_
        refine rn_get (a := 0) (v := .inr (.inr 65)) (q := 28) dX8_keep_25 fl_X8_54 rfl rfl rfl ?_
        refine rn_iload_n (x := (k : Int)) (q := 29) dX8_keep_28 rfl rfl ?_
        refine rn_aload_n (x := 0) (q := 30) dX8_keep_29 rfl rfl ?_
        refine rn_get (a := 0) (v := .inr (.inr 6)) (q := 33) dX8_keep_30 fl_X8_26 rfl rfl rfl ?_
        refine rn_get (a := 5) (v := .inl (h.1 : Int)) (q := 36) dX8_keep_33 fl_X8_136 rfl (am_gi ((congrFun (hg21 5 (by omega) (by omega) (by omega)) 6).trans q.n)) rfl ?_
        refine rn_iastV (a := 64) (m1 := am_up mem21 64 k (h.1 : Int)) (q := 37) dX8_keep_36 rfl (by omega) (by omega) rfl rfl ?_
        refine rn_iconst (q := 38) dX8_keep_37 (am_okd rfl) rfl ?_
        refine rn_zret dX8_keep_38 rfl (by omega) ?_
        refine hQ _ _ ⟨fun z => absurd hn z, fun _ => ⟨rfl, fun j hj => ⟨?_, ?_, ?_, ?_⟩, fun x h1 h2 => ?_⟩⟩
        · rw [am_up_ne (by decide), hg21 63 (by omega) (by omega) (by omega)]; exact (hK j hj).1
        · rw [am_up_at, hg21 64 (by omega) (by omega) (by omega)]
          by_cases hjk : j = k
          · rw [if_pos hjk]; omega
          · rw [if_neg hjk]; exact (hK j hj).2.1
        · intro hno
          unfold keepK at hno
          by_cases hjk : j = k
          · rw [if_pos (by omega)] at hno; cases hno
          · rw [if_neg (by omega)] at hno
            rw [am_up_at, if_neg hjk, hg21 64 (by omega) (by omega) (by omega)]; exact (hK j hj).2.2.1 hno
        · intro e3 hso
          unfold keepK at hso
          by_cases hjk : j = k
          · rw [if_pos (by omega)] at hso
            cases hso
            refine ⟨by rw [am_up_at, if_pos hjk], ?_⟩
            rw [hjk, ← hak]
            exact he21.kept (am_up_ne (by omega)) (am_up_ne (by omega)) (am_up_ne (by omega))
          · rw [if_neg (by omega)] at hso
            obtain ⟨s1, s2⟩ := (hK j hj).2.2.2 e3 hso
            refine ⟨by rw [am_up_at, if_neg hjk, hg21 64 (by omega) (by omega) (by omega)]; exact s1, ?_⟩
            exact s2.kept ((am_up_ne (by omega)).trans (hg21 _ (by omega) (by omega) (by omega))) ((am_up_ne (by omega)).trans (hg21 _ (by omega) (by omega) (by omega))) ((am_up_ne (by omega)).trans (hg21 _ (by omega) (by omega) (by omega)))
        · rw [am_up_ne h1, hg21 x (by omega) (by omega) (by omega)]
      · refine rn_iconst (q := 10) dX8_keep_9 (am_okd rfl) rfl ?_
        refine rn_zret dX8_keep_10 rfl (by omega) ?_
        exfalso; omega
  · refine rn_iload_n (x := i) (q := 1) dX8_keep_0 rfl rfl ?_
    refine rn_iflt (t := 9) (q := 4) dX8_keep_1 rfl rfl (fun w1 => ?_) (fun w1 => ?_)
    · refine rn_iconst (q := 10) dX8_keep_9 (am_okd rfl) rfl ?_
      refine rn_zret dX8_keep_10 rfl (by omega) ?_
      exact hQ _ _ ⟨fun _ => ⟨rfl, rfl⟩, fun z => absurd z hn⟩
    · refine rn_iload_n (x := i) (q := 5) dX8_keep_4 rfl rfl ?_
      refine rn_iconst (q := 6) dX8_keep_5 (am_okd rfl) rfl ?_
      refine rn_cmplt (t := 11) (q := 9) dX8_keep_6 rfl rfl (fun w6 => ?_) (fun w6 => ?_)
      · exfalso; omega
      · refine rn_iconst (q := 10) dX8_keep_9 (am_okd rfl) rfl ?_
        refine rn_zret dX8_keep_10 rfl (by omega) ?_
        exact hQ _ _ ⟨fun _ => ⟨rfl, rfl⟩, fun z => absurd z hn⟩
theorem c_again (q : CQ r X C sn sg h e NB mem) {R : List Int} (hR : c_row R mem) (hK : c_kept K h.1 mem) (hU : c_undo U mem) (i : Int) : am_Sm l G yX8_again mt_X8_again (d + 1) [.inr (.inr 1), .inl i] mem (fun q m => (¬ (0 ≤ i ∧ i < 2) ∨ K i.toNat = none → AC 0 e U R mem q m) ∧ (∀ e2, 0 ≤ i ∧ i < 2 → K i.toNat = some e2 → AC 1 e2 [] R mem q m)) := by
  refine am_enterQ (ls := [some (.inr (.inr 1)), some (.inl i)]) (by decide) rfl (Nat.le_of_ble_eq_true rfl) rfl (fun hok Q hQ => ?_)
  have b := q.bd
  by_cases hn : 0 ≤ i ∧ i < 2
  · obtain ⟨k, rfl⟩ : ∃ k : Nat, i = (k : Int) := ⟨i.toNat, by omega⟩
    rw [Int.toNat_natCast] at hQ
    obtain ⟨a, ha, hak⟩ : ∃ a, am_est a ∧ a = 89 + 3 * k := by
      rcases (show k = 0 ∨ k = 1 by omega) with rfl | rfl
      · exact ⟨89, by unfold am_est; decide, rfl⟩
      · exact ⟨92, by unfold am_est; decide, rfl⟩
    obtain ⟨h63, k1, k2, k3⟩ := hK k (by omega)
    rcases hk : K k with _ | e3
    · have k4 := k2 hk
      refine rn_iload_n (x := (k : Int)) (q := 1) dX8_again_0 rfl rfl ?_
      refine rn_iflt (t := 25) (q := 4) dX8_again_1 rfl rfl (fun w1 => ?_) (fun w1 => ?_)
      · refine rn_iconst (q := 26) dX8_again_25 (am_okd rfl) rfl ?_
        refine rn_zret dX8_again_26 rfl (by omega) ?_
        exact hQ _ _ ⟨fun _ => ⟨rfl, q.es, hU, hR, frS.rf⟩, fun e4 _ z => by rw [hk] at z; cases z⟩
      · refine rn_iload_n (x := (k : Int)) (q := 5) dX8_again_4 rfl rfl ?_
        refine rn_iconst (q := 6) dX8_again_5 (am_okd rfl) rfl ?_
        refine rn_cmpge (t := 25) (q := 9) dX8_again_6 rfl rfl (fun w6 => ?_) (fun w6 => ?_)
        · refine rn_iconst (q := 26) dX8_again_25 (am_okd rfl) rfl ?_
          refine rn_zret dX8_again_26 rfl (by omega) ?_
          exact hQ _ _ ⟨fun _ => ⟨rfl, q.es, hU, hR, frS.rf⟩, fun e4 _ z => by rw [hk] at z; cases z⟩
        · refine rn_aload_n (x := 0) (q := 10) dX8_again_9 rfl rfl ?_
          refine rn_get (a := 0) (v := .inr (.inr 65)) (q := 13) dX8_again_10 fl_X8_54 rfl rfl rfl ?_
          refine rn_iload_n (x := (k : Int)) (q := 14) dX8_again_13 rfl rfl ?_
          refine rn_ialdV (a := 64) (v := mem 64 k) (q := 15) dX8_again_14 rfl (by omega) (by omega) rfl rfl ?_
          refine rn_aload_n (x := 0) (q := 16) dX8_again_15 rfl rfl ?_
          refine rn_get (a := 0) (v := .inr (.inr 6)) (q := 19) dX8_again_16 fl_X8_26 rfl rfl rfl ?_
          refine rn_get (a := 5) (v := .inl (h.1 : Int)) (q := 22) dX8_again_19 fl_X8_136 rfl (am_gi q.n) rfl ?_
          refine rn_cmpeq (t := 27) (q := 25) dX8_again_22 rfl rfl (fun w22 => ?_) (fun w22 => ?_)
          · exfalso; omega
          · refine rn_iconst (q := 26) dX8_again_25 (am_okd rfl) rfl ?_
            refine rn_zret dX8_again_26 rfl (by omega) ?_
            exact hQ _ _ ⟨fun _ => ⟨rfl, q.es, hU, hR, frS.rf⟩, fun e4 _ z => by rw [hk] at z; cases z⟩
    · obtain ⟨k4, k5⟩ := k3 e3 hk
      refine rn_iload_n (x := (k : Int)) (q := 1) dX8_again_0 rfl rfl ?_
      refine rn_iflt (t := 25) (q := 4) dX8_again_1 rfl rfl (fun w1 => ?_) (fun w1 => ?_)
      · refine rn_iconst (q := 26) dX8_again_25 (am_okd rfl) rfl ?_
        refine rn_zret dX8_again_26 rfl (by omega) ?_
        exfalso; omega
      · refine rn_iload_n (x := (k : Int)) (q := 5) dX8_again_4 rfl rfl ?_
        refine rn_iconst (q := 6) dX8_again_5 (am_okd rfl) rfl ?_
        refine rn_cmpge (t := 25) (q := 9) dX8_again_6 rfl rfl (fun w6 => ?_) (fun w6 => ?_)
        · refine rn_iconst (q := 26) dX8_again_25 (am_okd rfl) rfl ?_
          refine rn_zret dX8_again_26 rfl (by omega) ?_
          exfalso; omega
        · refine rn_aload_n (x := 0) (q := 10) dX8_again_9 rfl rfl ?_
          refine rn_get (a := 0) (v := .inr (.inr 65)) (q := 13) dX8_again_10 fl_X8_54 rfl rfl rfl ?_
          refine rn_iload_n (x := (k : Int)) (q := 14) dX8_again_13 rfl rfl ?_
          refine rn_ialdV (a := 64) (v := mem 64 k) (q := 15) dX8_again_14 rfl (by omega) (by omega) rfl rfl ?_
          refine rn_aload_n (x := 0) (q := 16) dX8_again_15 rfl rfl ?_
          refine rn_get (a := 0) (v := .inr (.inr 6)) (q := 19) dX8_again_16 fl_X8_26 rfl rfl rfl ?_
          refine rn_get (a := 5) (v := .inl (h.1 : Int)) (q := 22) dX8_again_19 fl_X8_136 rfl (am_gi q.n) rfl ?_
          refine rn_cmpeq (t := 27) (q := 25) dX8_again_22 rfl rfl (fun w22 => ?_) (fun w22 => ?_)
          · refine rn_aload_n (x := 0) (q := 28) dX8_again_27 rfl rfl ?_
            refine rn_get (a := 0) (v := .inr (.inr 17)) (q := 31) dX8_again_28 fl_X8_33 rfl rfl rfl ?_
            refine rn_aload_n (x := 0) (q := 32) dX8_again_31 rfl rfl ?_
            refine rn_get (a := 0) (v := .inr (.inr 64)) (q := 35) dX8_again_32 fl_X8_50 rfl rfl rfl ?_
            refine rn_iload_n (x := (k : Int)) (q := 36) dX8_again_35 rfl rfl ?_
            refine rn_aaldV (a := 63) (c := a + 1) (q := 37) dX8_again_36 rfl (by omega) (by omega) (show (mem 63 k).toNat = a + 1 by rw [h63]; omega) rfl ?_
            refine rn_callV (b := 16) (as := [.inr (.inr (a + 1))]) (rest := []) (q := 40) dX8_again_37 ml_X8_212 sm_X0_copy rfl rfl (by decide) (by omega) rfl rfl (Nat.le_of_ble_eq_true rfl) rfl (s_copy (d := d + 0) (a := 16) (b := a) (show 16 ∈ am_estL by decide) ha (by omega) (by rw [hak]; exact k5)) ?_
            intro r37 mem37 hq37
            obtain ⟨rfl, he37, hg37⟩ := hq37
            show am_Rn l G _ _ 40 [some (.inr (.inr 1)), some (.inl (k : Int))] [] mem37 _
            refine rn_aload_n (x := 0) (q := 41) dX8_again_40 rfl rfl ?_
            refine rn_get (a := 0) (v := .inr (.inr 26)) (q := 44) dX8_again_41 fl_X8_46 rfl rfl rfl ?_
            refine rn_iconst (q := 45) dX8_again_44 (am_okd rfl) rfl ?_
            refine rn_puti (a := 25) (q := 48) dX8_again_45 fl_X8_129 rfl rfl rfl rfl ?_
            refine rn_iconst (q := 49) dX8_again_48 (am_okd rfl) rfl ?_
            refine rn_zret dX8_again_49 rfl (by omega) ?_
            refine hQ _ _ ⟨fun z => absurd z (fun z => by rw [hk] at z; simp [hn] at z), fun e4 _ z => ?_⟩
            rw [hk] at z
            cases z
            refine ⟨rfl, he37.kept rfl rfl rfl, c_undo_nil (hU.keptU (b := mem37) (fun x a1 a2 => hg37 x (by omega) (by omega) (by omega))), ⟨?_, hR.2.1, fun j hj => ?_⟩, ?_⟩
            · show mem37 3 1 = _; rw [hg37 3 (by decide) (by decide) (by decide)]; exact hR.1
            · show mem37 4 j = _; rw [hg37 4 (by decide) (by decide) (by decide)]; exact hR.2.2 j hj
            · exact (fr3.to8a (fun b2 h1 h2 h3 => hg37 b2 h1 h2 h3)).up rfl
          · refine rn_iconst (q := 26) dX8_again_25 (am_okd rfl) rfl ?_
            refine rn_zret dX8_again_26 rfl (by omega) ?_
            exfalso; omega
  · refine rn_iload_n (x := i) (q := 1) dX8_again_0 rfl rfl ?_
    refine rn_iflt (t := 25) (q := 4) dX8_again_1 rfl rfl (fun w1 => ?_) (fun w1 => ?_)
    · refine rn_iconst (q := 26) dX8_again_25 (am_okd rfl) rfl ?_
      refine rn_zret dX8_again_26 rfl (by omega) ?_
      exact hQ _ _ ⟨fun _ => ⟨rfl, q.es, hU, hR, frS.rf⟩, fun e4 z _ => absurd z hn⟩
    · refine rn_iload_n (x := i) (q := 5) dX8_again_4 rfl rfl ?_
      refine rn_iconst (q := 6) dX8_again_5 (am_okd rfl) rfl ?_
      refine rn_cmpge (t := 25) (q := 9) dX8_again_6 rfl rfl (fun w6 => ?_) (fun w6 => ?_)
      · refine rn_iconst (q := 26) dX8_again_25 (am_okd rfl) rfl ?_
        refine rn_zret dX8_again_26 rfl (by omega) ?_
        exact hQ _ _ ⟨fun _ => ⟨rfl, q.es, hU, hR, frS.rf⟩, fun e4 z _ => absurd z hn⟩
      · exfalso; omega
theorem keep9_end {n : Nat} (c0 : 0 ≤ mem 95 47) (c1 : mem 95 47 ≤ n) (hK : ∀ i, i < 2 → (mem 124 i = 0 ∨ mem 124 i = 1) ∧ 0 ≤ mem 125 i ∧ (K i = none → mem 124 i = 0 ∨ mem 125 i < mem 95 47) ∧ ∀ e, K i = some e → mem 124 i = 1 ∧ mem 125 i = mem 95 47 ∧ m_est e 123 (29 * i) mem) (hE : m_est e 96 0 mem) (k : Nat) (hk : k < 2) : m_kept (keepK K k e) n (am_cpy (am_up (am_up (am_up mem 95 11 0) 124 k 1) 125 k (mem 95 47)) 96 0 123 (29 * k) 29) := by
  have E := m_est.cpy (a1 := 123) (o1 := 29 * k) (hE.kept (m2 := am_up (am_up (am_up mem 95 11 0) 124 k 1) 125 k (mem 95 47)) rfl)
  have a4 : ∀ j, am_cpy (am_up (am_up (am_up mem 95 11 0) 124 k 1) 125 k (mem 95 47)) 96 0 123 (29 * k) 29 124 j = if j = k then 1 else mem 124 j := fun j => by
    rw [am_cpy_ne (by decide), am_up_ne (by decide), am_up_at, am_up_ne (by decide)]
  have a5 : ∀ j, am_cpy (am_up (am_up (am_up mem 95 11 0) 124 k 1) 125 k (mem 95 47)) 96 0 123 (29 * k) 29 125 j = if j = k then mem 95 47 else mem 125 j := fun j => by
    rw [am_cpy_ne (by decide), am_up_at, am_up_ne (by decide), am_up_ne (by decide)]
  have a3 : ∀ j, ¬ (29 * k ≤ j ∧ j < 29 * k + 29) → am_cpy (am_up (am_up (am_up mem 95 11 0) 124 k 1) 125 k (mem 95 47)) 96 0 123 (29 * k) 29 123 j = mem 123 j := fun j hj => by
    rw [am_cpy_at, if_neg hj, am_up_ne (by decide), am_up_ne (by decide), am_up_ne (by decide)]
  have a7 : am_cpy (am_up (am_up (am_up mem 95 11 0) 124 k 1) 125 k (mem 95 47)) 96 0 123 (29 * k) 29 95 47 = mem 95 47 := rfl
  revert E a3 a4 a5 a7
  generalize am_cpy (am_up (am_up (am_up mem 95 11 0) 124 k 1) 125 k (mem 95 47)) 96 0 123 (29 * k) 29 = M
  intro E a4 a5 a3 a7
  refine ⟨by rw [a7]; exact c0, by rw [a7]; exact c1, fun j hj => ?_⟩
  obtain ⟨b1, b2, b3, b4⟩ := hK j hj
  rw [a4, a5, a7]
  unfold keepK
  by_cases hjk : j = k
  · subst hjk
    rw [if_pos rfl, if_pos rfl, if_pos rfl]
    refine ⟨Or.inr rfl, c0, fun z => (by cases z), fun e3 z => ?_⟩
    cases z
    exact ⟨rfl, rfl, E⟩
  · rw [if_neg hjk, if_neg hjk, if_neg hjk]
    refine ⟨b1, b2, b3, fun e3 z => ?_⟩
    obtain ⟨d1, d2, d3⟩ := b4 e3 z
    exact ⟨d1, d2, d3.to (fun t ht => a3 _ (by omega))⟩
theorem m_keep (q : DQ X sn sg h e NB mem) (hK : m_kept K h.1 mem) (i : Int) : am_Sm l G yX9_keep mt_X9_keep (d + 1) [.inr (.inr 96), .inl i] mem (fun q m => (¬ (0 ≤ i ∧ i < 2) → q = some (.inl 0) ∧ m = am_up mem 95 11 0) ∧ (0 ≤ i ∧ i < 2 → q = some (.inl 1) ∧ m_kept (keepK K i.toNat e) h.1 m ∧ ∀ x, x ≠ 123 → x ≠ 124 → x ≠ 125 → m x = am_up mem 95 11 0 x)) := by
  refine am_enterQ (ls := [some (.inr (.inr 96)), some (.inl i)]) (by decide) rfl (Nat.le_of_ble_eq_true rfl) rfl (fun hok Q hQ => ?_)
  have b := q.bd
  by_cases hn : 0 ≤ i ∧ i < 2
  · obtain ⟨k, rfl⟩ : ∃ k : Nat, i = (k : Int) := ⟨i.toNat, by omega⟩
    obtain ⟨c0, c1, hK⟩ := hK
    refine rn_aload_n (x := 95) (q := 1) dX9_keep_0 rfl rfl ?_
    refine rn_iconst (q := 2) dX9_keep_1 (am_okd rfl) rfl ?_
    refine rn_puti (a := 95) (q := 5) dX9_keep_2 fl_X9_107 rfl rfl rfl rfl ?_
    refine rn_iload_n (x := (k : Int)) (q := 6) dX9_keep_5 rfl rfl ?_
    refine rn_iconst (q := 7) dX9_keep_6 (am_okd rfl) rfl ?_
    refine rn_iconst (q := 8) dX9_keep_7 (am_okd rfl) rfl ?_
    refine rn_callS (as := [.inl (k : Int), .inl 0, .inl 1]) (rest := []) (q := 11) dX9_keep_8 ml_X9_116 sm_X9_in (by omega) rfl rfl (Nat.le_of_ble_eq_true rfl) rfl (s_in9 (d := d + 0) (k : Int) 0 1) ?_
    intro r8 mem8 hq8
    obtain ⟨⟨rfl, hi8⟩ | ⟨rfl, hi8⟩, rfl⟩ := hq8
    · show am_Rn l G _ _ 11 [some (.inr (.inr 96)), some (.inl (k : Int))] [.inl 1] (am_up mem 95 11 0) _
      refine rn_ifne (t := 16) (q := 14) dX9_keep_11 rfl rfl (fun w11 => ?_) (fun h => absurd h (by decide))
      refine rn_aload_n (x := 95) (q := 17) dX9_keep_16 rfl rfl ?_
      refine rn_get (a := 95) (v := .inr (.inr 125)) (q := 20) dX9_keep_17 fl_X9_100 rfl rfl rfl ?_
      refine rn_iload_n (x := (k : Int)) (q := 21) dX9_keep_20 rfl rfl ?_
      refine rn_iconst (q := 22) dX9_keep_21 (am_okd rfl) rfl ?_
      refine rn_zastV (a := 124) (m1 := am_up (am_up mem 95 11 0) 124 k 1) (q := 23) dX9_keep_22 rfl (by omega) (by omega) (by omega) rfl rfl ?_
      refine rn_aload_n (x := 95) (q := 24) dX9_keep_23 rfl rfl ?_
      refine rn_get (a := 95) (v := .inr (.inr 126)) (q := 27) dX9_keep_24 fl_X9_104 rfl rfl rfl ?_
      refine rn_iload_n (x := (k : Int)) (q := 28) dX9_keep_27 rfl rfl ?_
      refine rn_aload_n (x := 95) (q := 29) dX9_keep_28 rfl rfl ?_
      refine rn_get (a := 95) (v := .inl (mem 95 47)) (q := 32) dX9_keep_29 fl_X9_178 rfl rfl rfl ?_
      refine rn_iastV (a := 125) (m1 := am_up (am_up (am_up mem 95 11 0) 124 k 1) 125 k (mem 95 47)) (q := 33) dX9_keep_32 rfl (by omega) (by omega) rfl rfl ?_
      refine rn_aload_n (x := 95) (q := 34) dX9_keep_33 rfl rfl ?_
      refine rn_get (a := 95) (v := .inr (.inr 97)) (q := 37) dX9_keep_34 fl_X9_9 rfl rfl rfl ?_
      refine rn_aload_n (x := 95) (q := 38) dX9_keep_37 rfl rfl ?_
      refine rn_get (a := 95) (v := .inr (.inr 124)) (q := 41) dX9_keep_38 fl_X9_97 rfl rfl rfl ?_
      refine rn_bipush (q := 43) dX9_keep_41 ⟨by decide, by decide⟩ rfl ?_
      refine rn_iload_n (x := (k : Int)) (q := 44) dX9_keep_43 rfl rfl ?_
      refine rn_imulN (z := ((29 * k : Nat) : Int)) (q := 45) dX9_keep_44 (by omega) (by unfold am_ok; omega) rfl ?_
      refine rn_callS (as := [.inr (.inr 97), .inr (.inr 124), .inl ((29 * k : Nat) : Int)]) (rest := []) (q := 48) dX9_keep_45 ml_X9_248 sm_X9_lay (by omega) rfl rfl (Nat.le_of_ble_eq_true rfl) rfl (s_lay (d := d + 0) (f := 96) (t := 123) (nf := 29) (nt := 58) rfl rfl (by decide) (29 * k) (by omega) (by decide) (by decide)) ?_
      intro r45 mem45 hq45
      obtain ⟨rfl, rfl⟩ := hq45
      show am_Rn l G _ _ 48 [some (.inr (.inr 96)), some (.inl (k : Int))] [] (am_cpy (am_up (am_up (am_up mem 95 11 0) 124 k 1) 125 k (mem 95 47)) 96 0 123 (29 * k) 29) _
      refine rn_iconst (q := 49) dX9_keep_48 (am_okd rfl) rfl ?_
      refine rn_zret dX9_keep_49 rfl (by omega) ?_
      exact hQ _ _ ⟨fun z => absurd hn z, fun _ => ⟨rfl, keep9_end c0 c1 hK q.es k (by omega), fun x h1 h2 h3 => by rw [am_cpy_ne h1, am_up_ne h3, am_up_ne h2]⟩⟩
    · show am_Rn l G _ _ 11 [some (.inr (.inr 96)), some (.inl (k : Int))] [.inl 0] (am_up mem 95 11 0) _
      refine rn_ifne (t := 16) (q := 14) dX9_keep_11 rfl rfl (fun h => absurd h (by decide)) (fun w11 => ?_)
      refine rn_iconst (q := 15) dX9_keep_14 (am_okd rfl) rfl ?_
      refine rn_zret dX9_keep_15 rfl (by omega) ?_
      exfalso; omega
  · refine rn_aload_n (x := 95) (q := 1) dX9_keep_0 rfl rfl ?_
    refine rn_iconst (q := 2) dX9_keep_1 (am_okd rfl) rfl ?_
    refine rn_puti (a := 95) (q := 5) dX9_keep_2 fl_X9_107 rfl rfl rfl rfl ?_
    refine rn_iload_n (x := i) (q := 6) dX9_keep_5 rfl rfl ?_
    refine rn_iconst (q := 7) dX9_keep_6 (am_okd rfl) rfl ?_
    refine rn_iconst (q := 8) dX9_keep_7 (am_okd rfl) rfl ?_
    refine rn_callS (as := [.inl i, .inl 0, .inl 1]) (rest := []) (q := 11) dX9_keep_8 ml_X9_116 sm_X9_in (by omega) rfl rfl (Nat.le_of_ble_eq_true rfl) rfl (s_in9 (d := d + 0) i 0 1) ?_
    intro r8 mem8 hq8
    obtain ⟨⟨rfl, hi8⟩ | ⟨rfl, hi8⟩, rfl⟩ := hq8
    · show am_Rn l G _ _ 11 [some (.inr (.inr 96)), some (.inl i)] [.inl 1] (am_up mem 95 11 0) _
      refine rn_ifne (t := 16) (q := 14) dX9_keep_11 rfl rfl (fun w11 => ?_) (fun h => absurd h (by decide))
      exfalso; omega
    · show am_Rn l G _ _ 11 [some (.inr (.inr 96)), some (.inl i)] [.inl 0] (am_up mem 95 11 0) _
      refine rn_ifne (t := 16) (q := 14) dX9_keep_11 rfl rfl (fun h => absurd h (by decide)) (fun w11 => ?_)
      refine rn_iconst (q := 15) dX9_keep_14 (am_okd rfl) rfl ?_
      refine rn_zret dX9_keep_15 rfl (by omega) ?_
      exact hQ _ _ ⟨fun _ => ⟨rfl, rfl⟩, fun z => absurd z hn⟩
theorem m_again (q : DQ X sn sg h e NB mem) {R : List Int} (hR : m_row R mem) (hK : m_kept K h.1 mem) (hU : m_undo U mem) (i : Int) : am_Sm l G yX9_again mt_X9_again (d + 1) [.inr (.inr 96), .inl i] mem (fun q m => (¬ (0 ≤ i ∧ i < 2) ∨ K i.toNat = none → AM 0 e U R mem q m) ∧ (∀ e2, 0 ≤ i ∧ i < 2 → K i.toNat = some e2 → AM 1 e2 [] R mem q m)) := by
  refine am_enterQ (ls := [some (.inr (.inr 96)), some (.inl i), none]) (by decide) rfl (Nat.le_of_ble_eq_true rfl) rfl (fun hok Q hQ => ?_)
  have b := q.bd
  by_cases hn : 0 ≤ i ∧ i < 2
  · obtain ⟨k, rfl⟩ : ∃ k : Nat, i = (k : Int) := ⟨i.toNat, by omega⟩
    rw [Int.toNat_natCast] at hQ
    obtain ⟨c0, c1, hK⟩ := hK
    obtain ⟨b1, b2, b3, b4⟩ := hK k (by omega)
    rcases hk : K k with _ | e3
    · have b5 := b3 hk
      refine rn_aload_n (x := 95) (q := 1) dX9_again_0 rfl rfl ?_
      refine rn_iconst (q := 2) dX9_again_1 (am_okd rfl) rfl ?_
      refine rn_puti (a := 95) (q := 5) dX9_again_2 fl_X9_107 rfl rfl rfl rfl ?_
      refine rn_iload_n (x := (k : Int)) (q := 6) dX9_again_5 rfl rfl ?_
      refine rn_iconst (q := 7) dX9_again_6 (am_okd rfl) rfl ?_
      refine rn_iconst (q := 8) dX9_again_7 (am_okd rfl) rfl ?_
      refine rn_callS (as := [.inl (k : Int), .inl 0, .inl 1]) (rest := []) (q := 11) dX9_again_8 ml_X9_116 sm_X9_in (by omega) rfl rfl (Nat.le_of_ble_eq_true rfl) rfl (s_in9 (d := d + 0) (k : Int) 0 1) ?_
      intro r8 mem8 hq8
      obtain ⟨⟨rfl, hi8⟩ | ⟨rfl, hi8⟩, rfl⟩ := hq8
      · show am_Rn l G _ _ 11 [some (.inr (.inr 96)), some (.inl (k : Int)), none] [.inl 1] (am_up mem 95 11 0) _
        refine rn_ifeq (t := 36) (q := 14) dX9_again_11 rfl rfl (fun h => absurd h (by decide)) (fun w11 => ?_)
        refine rn_aload_n (x := 95) (q := 15) dX9_again_14 rfl rfl ?_
        refine rn_get (a := 95) (v := .inr (.inr 125)) (q := 18) dX9_again_15 fl_X9_100 rfl rfl rfl ?_
        refine rn_iload_n (x := (k : Int)) (q := 19) dX9_again_18 rfl rfl ?_
        refine rn_zaldV (a := 124) (v := (mem 124 k)) (q := 20) dX9_again_19 rfl (by omega) (by omega) rfl rfl ?_
        refine rn_ifeq (t := 36) (q := 23) dX9_again_20 rfl rfl (fun w20 => ?_) (fun w20 => ?_)
        · refine rn_iconst (q := 37) dX9_again_36 (am_okd rfl) rfl ?_
          refine rn_zret dX9_again_37 rfl (by omega) ?_
          exact hQ _ _ ⟨fun _ => act_no9 q hR hU, fun e4 _ z => by rw [hk] at z; cases z⟩
        · refine rn_aload_n (x := 95) (q := 24) dX9_again_23 rfl rfl ?_
          refine rn_get (a := 95) (v := .inr (.inr 126)) (q := 27) dX9_again_24 fl_X9_104 rfl rfl rfl ?_
          refine rn_iload_n (x := (k : Int)) (q := 28) dX9_again_27 rfl rfl ?_
          refine rn_ialdV (a := 125) (v := (mem 125 k)) (q := 29) dX9_again_28 rfl (by omega) (by omega) rfl rfl ?_
          refine rn_aload_n (x := 95) (q := 30) dX9_again_29 rfl rfl ?_
          refine rn_get (a := 95) (v := .inl (mem 95 47)) (q := 33) dX9_again_30 fl_X9_178 rfl rfl rfl ?_
          refine rn_cmpeq (t := 38) (q := 36) dX9_again_33 rfl rfl (fun w33 => ?_) (fun w33 => ?_)
          · exfalso; omega
          · refine rn_iconst (q := 37) dX9_again_36 (am_okd rfl) rfl ?_
            refine rn_zret dX9_again_37 rfl (by omega) ?_
            exact hQ _ _ ⟨fun _ => act_no9 q hR hU, fun e4 _ z => by rw [hk] at z; cases z⟩
      · show am_Rn l G _ _ 11 [some (.inr (.inr 96)), some (.inl (k : Int)), none] [.inl 0] (am_up mem 95 11 0) _
        refine rn_ifeq (t := 36) (q := 14) dX9_again_11 rfl rfl (fun w11 => ?_) (fun h => absurd h (by decide))
        refine rn_iconst (q := 37) dX9_again_36 (am_okd rfl) rfl ?_
        refine rn_zret dX9_again_37 rfl (by omega) ?_
        exact hQ _ _ ⟨fun _ => act_no9 q hR hU, fun e4 _ z => by rw [hk] at z; cases z⟩
    · obtain ⟨d1, d2, d3⟩ := b4 e3 hk
      have L : ∀ t : Nat, t ≤ 29 → ∀ (m : am_M), (∀ b, b ≠ 96 → m b = am_up mem 95 11 0 b) → (∀ j, j < t → m 96 j = mem 123 (29 * k + j)) → am_Rn l G mt_X9_again (d + 1) 40 [some (.inr (.inr 96)), some (.inl (k : Int)), some (.inl (t : Int))] [] m Q := by
        refine am_dn 29 (fun t ht ih m hf hE => ?_)
        refine rn_iload_n (x := (t : Int)) (q := 41) dX9_again_40 rfl rfl ?_
        refine rn_bipush (q := 43) dX9_again_41 ⟨by decide, by decide⟩ rfl ?_
        refine rn_cmpge (t := 69) (q := 46) dX9_again_43 rfl rfl (fun w43 => ?_) (fun w43 => ?_)
        · refine rn_aload_n (x := 95) (q := 70) dX9_again_69 rfl rfl ?_
          refine rn_iconst (q := 71) dX9_again_70 (am_okd rfl) rfl ?_
          refine rn_puti (a := 95) (q := 74) dX9_again_71 fl_X9_175 rfl rfl rfl rfl ?_
          refine rn_iconst (q := 75) dX9_again_74 (am_okd rfl) rfl ?_
          refine rn_zret dX9_again_75 rfl (by omega) ?_
          obtain rfl : t = 29 := by omega
          refine hQ _ _ ⟨fun z => absurd z (fun z => by rw [hk] at z; simp [hn] at z), fun e4 _ z => ?_⟩
          rw [hk] at z
          cases z
          refine ⟨rfl, d3.to (fun j hj2 => ?_), ⟨rfl, by decide, fun j hj => absurd hj (Nat.not_lt_zero j)⟩, ⟨?_, hR.2.1, fun j hj => ?_⟩, ?_⟩
          · rw [Nat.zero_add]; exact hE j hj2
          · show m 95 10 = _; rw [hf 95 (by decide)]; exact hR.1
          · show m 102 j = _; rw [hf 102 (by decide)]; exact hR.2.2 j hj
          · exact (frS.tr (frS.rf.up (a := 95) (k := 11) (x := 0) rfl) (fr_96 hf)).up rfl
        · refine rn_aload_n (x := 95) (q := 47) dX9_again_46 rfl rfl ?_
          refine rn_get (a := 95) (v := .inr (.inr 97)) (q := 50) dX9_again_47 fl_X9_9 rfl rfl rfl ?_
          refine rn_iload_n (x := (t : Int)) (q := 51) dX9_again_50 rfl rfl ?_
          refine rn_aload_n (x := 95) (q := 52) dX9_again_51 rfl rfl ?_
          refine rn_get (a := 95) (v := .inr (.inr 124)) (q := 55) dX9_again_52 fl_X9_97 rfl rfl rfl ?_
          refine rn_bipush (q := 57) dX9_again_55 ⟨by decide, by decide⟩ rfl ?_
          refine rn_iload_n (x := (k : Int)) (q := 58) dX9_again_57 rfl rfl ?_
          refine rn_imulN (z := ((29 * k : Nat) : Int)) (q := 59) dX9_again_58 (by omega) (by unfold am_ok; omega) rfl ?_
          refine rn_iload_n (x := (t : Int)) (q := 60) dX9_again_59 rfl rfl ?_
          refine rn_iaddN (z := ((29 * k + t : Nat) : Int)) (q := 61) dX9_again_60 (by omega) (by unfold am_ok; omega) rfl ?_
          refine rn_ialdV (a := 123) (v := (mem 123 (29 * k + t))) (q := 62) dX9_again_61 rfl (by omega) (by omega) (show m 123 (29 * k + t) = _ by rw [hf 123 (by decide)]; rfl) rfl ?_
          refine rn_iastV (a := 96) (m1 := am_up m 96 t (mem 123 (29 * k + t))) (q := 63) dX9_again_62 rfl (by omega) (by omega) rfl rfl ?_
          refine rn_iincN (x := (t : Int)) (z := ((t + 1 : Nat) : Int)) (ls' := [some (.inr (.inr 96)), some (.inl (k : Int)), some (.inl ((t + 1 : Nat) : Int))]) (q := 66) dX9_again_63 rfl (by decide) (by omega) (by unfold am_ok; omega) rfl rfl ?_
          refine rn_goto (t := 40) dX9_again_66 rfl ?_
          refine ih (by omega) _ (fun b2 hb => by rw [am_up_ne hb]; exact hf b2 hb) (fun j hj2 => ?_)
          rw [am_up_at]
          by_cases hji : j = t
          · rw [if_pos hji, hji]
          · rw [if_neg hji]; exact hE j (by omega)
      refine rn_aload_n (x := 95) (q := 1) dX9_again_0 rfl rfl ?_
      refine rn_iconst (q := 2) dX9_again_1 (am_okd rfl) rfl ?_
      refine rn_puti (a := 95) (q := 5) dX9_again_2 fl_X9_107 rfl rfl rfl rfl ?_
      refine rn_iload_n (x := (k : Int)) (q := 6) dX9_again_5 rfl rfl ?_
      refine rn_iconst (q := 7) dX9_again_6 (am_okd rfl) rfl ?_
      refine rn_iconst (q := 8) dX9_again_7 (am_okd rfl) rfl ?_
      refine rn_callS (as := [.inl (k : Int), .inl 0, .inl 1]) (rest := []) (q := 11) dX9_again_8 ml_X9_116 sm_X9_in (by omega) rfl rfl (Nat.le_of_ble_eq_true rfl) rfl (s_in9 (d := d + 0) (k : Int) 0 1) ?_
      intro r8 mem8 hq8
      obtain ⟨⟨rfl, hi8⟩ | ⟨rfl, hi8⟩, rfl⟩ := hq8
      · show am_Rn l G _ _ 11 [some (.inr (.inr 96)), some (.inl (k : Int)), none] [.inl 1] (am_up mem 95 11 0) _
        refine rn_ifeq (t := 36) (q := 14) dX9_again_11 rfl rfl (fun h => absurd h (by decide)) (fun w11 => ?_)
        refine rn_aload_n (x := 95) (q := 15) dX9_again_14 rfl rfl ?_
        refine rn_get (a := 95) (v := .inr (.inr 125)) (q := 18) dX9_again_15 fl_X9_100 rfl rfl rfl ?_
        refine rn_iload_n (x := (k : Int)) (q := 19) dX9_again_18 rfl rfl ?_
        refine rn_zaldV (a := 124) (v := (mem 124 k)) (q := 20) dX9_again_19 rfl (by omega) (by omega) rfl rfl ?_
        refine rn_ifeq (t := 36) (q := 23) dX9_again_20 rfl rfl (fun w20 => ?_) (fun w20 => ?_)
        · refine rn_iconst (q := 37) dX9_again_36 (am_okd rfl) rfl ?_
          refine rn_zret dX9_again_37 rfl (by omega) ?_
          exfalso; omega
        · refine rn_aload_n (x := 95) (q := 24) dX9_again_23 rfl rfl ?_
          refine rn_get (a := 95) (v := .inr (.inr 126)) (q := 27) dX9_again_24 fl_X9_104 rfl rfl rfl ?_
          refine rn_iload_n (x := (k : Int)) (q := 28) dX9_again_27 rfl rfl ?_
          refine rn_ialdV (a := 125) (v := (mem 125 k)) (q := 29) dX9_again_28 rfl (by omega) (by omega) rfl rfl ?_
          refine rn_aload_n (x := 95) (q := 30) dX9_again_29 rfl rfl ?_
          refine rn_get (a := 95) (v := .inl (mem 95 47)) (q := 33) dX9_again_30 fl_X9_178 rfl rfl rfl ?_
          refine rn_cmpeq (t := 38) (q := 36) dX9_again_33 rfl rfl (fun w33 => ?_) (fun w33 => ?_)
          · refine rn_iconst (q := 39) dX9_again_38 (am_okd rfl) rfl ?_
            refine rn_istore_n (ls' := [some (.inr (.inr 96)), some (.inl (k : Int)), some (.inl 0)]) (q := 40) dX9_again_39 (by decide) rfl rfl ?_
            exact L 0 (by decide) _ (fun _ _ => rfl) (fun j hj2 => absurd hj2 (Nat.not_lt_zero j))
          · refine rn_iconst (q := 37) dX9_again_36 (am_okd rfl) rfl ?_
            refine rn_zret dX9_again_37 rfl (by omega) ?_
            exfalso; omega
      · show am_Rn l G _ _ 11 [some (.inr (.inr 96)), some (.inl (k : Int)), none] [.inl 0] (am_up mem 95 11 0) _
        refine rn_ifeq (t := 36) (q := 14) dX9_again_11 rfl rfl (fun w11 => ?_) (fun h => absurd h (by decide))
        refine rn_iconst (q := 37) dX9_again_36 (am_okd rfl) rfl ?_
        refine rn_zret dX9_again_37 rfl (by omega) ?_
        exfalso; omega
  · refine rn_aload_n (x := 95) (q := 1) dX9_again_0 rfl rfl ?_
    refine rn_iconst (q := 2) dX9_again_1 (am_okd rfl) rfl ?_
    refine rn_puti (a := 95) (q := 5) dX9_again_2 fl_X9_107 rfl rfl rfl rfl ?_
    refine rn_iload_n (x := i) (q := 6) dX9_again_5 rfl rfl ?_
    refine rn_iconst (q := 7) dX9_again_6 (am_okd rfl) rfl ?_
    refine rn_iconst (q := 8) dX9_again_7 (am_okd rfl) rfl ?_
    refine rn_callS (as := [.inl i, .inl 0, .inl 1]) (rest := []) (q := 11) dX9_again_8 ml_X9_116 sm_X9_in (by omega) rfl rfl (Nat.le_of_ble_eq_true rfl) rfl (s_in9 (d := d + 0) i 0 1) ?_
    intro r8 mem8 hq8
    obtain ⟨⟨rfl, hi8⟩ | ⟨rfl, hi8⟩, rfl⟩ := hq8
    · show am_Rn l G _ _ 11 [some (.inr (.inr 96)), some (.inl i), none] [.inl 1] (am_up mem 95 11 0) _
      refine rn_ifeq (t := 36) (q := 14) dX9_again_11 rfl rfl (fun h => absurd h (by decide)) (fun w11 => ?_)
      exfalso; omega
    · show am_Rn l G _ _ 11 [some (.inr (.inr 96)), some (.inl i), none] [.inl 0] (am_up mem 95 11 0) _
      refine rn_ifeq (t := 36) (q := 14) dX9_again_11 rfl rfl (fun w11 => ?_) (fun h => absurd h (by decide))
      refine rn_iconst (q := 37) dX9_again_36 (am_okd rfl) rfl ?_
      refine rn_zret dX9_again_37 rfl (by omega) ?_
      exact hQ _ _ ⟨fun _ => act_no9 q hR hU, fun e4 z _ => absurd z hn⟩
end P82
