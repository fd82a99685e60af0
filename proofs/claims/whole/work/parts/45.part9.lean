section P45
variable {l : Launch} {G : am_G} {d : Nat} {mem M : am_M}
theorem s_part9 {arr : Nat} (ha : am_ks[arr]? = some (100, 29)) (a1 : arr ≠ 95) (a2 : arr ≠ 106) (a3 : arr ≠ 111) (a4 : arr ≠ 112) {rq : Nat} {X : List Nat} (hx4 : X.length ≤ 40) (hx2 : ∀ j, X.getD j 0 < 256) (hR : m_rul rq X mem) {sn : Nat} {sg : Nat → Nat} (hs : m_song sn sg mem) {h : hrs} (hh : m_hrs h mem) {e : est} {NB : Nat} (hNB : NB < 1000000) (heo : e_ok h.1 NB e) (hem : m_est e arr 0 mem) (hask : mem 95 21 = 0) {mv : Nat → Int} (hmv : ∀ i, mv i = mayV X h (sg (eN e % sn)) i (eH e i) (eN e) (pc (eP e))) : am_Sm l G yX9_part mt_X9_part (d + 177) [.inr (.inr 96), .inr (.inr (arr + 1))] mem (fun q m => q = none ∧ fr_p9 mem m ∧ (∀ j, j < h.1 → m 112 j = pP mv (eP e) (sg (eN e % sn) : Int) j) ∧ m 95 30 = pD mv (eP e) (sg (eN e % sn) : Int) h.2.2.2 h.1 ∧ m 95 31 = pL mv (eP e) (sg (eN e % sn) : Int) h.1) := by
  refine am_enter (ls := [some (.inr (.inr 96)), some (.inr (.inr (arr + 1))), none]) (by decide) rfl (Nat.le_of_ble_eq_true rfl) rfl ?_
  have hsg := hs.2.2.2.1 (eN e % sn)
  have eN9 := heo.2.2.2.1
  have x3 : ∀ j, j < 8 → mem arr (16 + j) = if (eP e).testBit j then 1 else 0 := fun j hj => by have := hem.2.2.1 j hj; rwa [Nat.zero_add] at this
  have K : ∀ (m : am_M) (lx : Option am_V), fr_p9 mem m → (∀ j, j < h.1 → m 111 j = mv j) → am_Rn l G mt_X9_part (d + 177) 28 [some (.inr (.inr 96)), some (.inr (.inr (arr + 1))), lx] [] m (fun q m => q = none ∧ fr_p9 mem m ∧ (∀ j, j < h.1 → m 112 j = pP mv (eP e) (sg (eN e % sn) : Int) j) ∧ m 95 30 = pD mv (eP e) (sg (eN e % sn) : Int) h.2.2.2 h.1 ∧ m 95 31 = pL mv (eP e) (sg (eN e % sn) : Int) h.1) := by
    intro m lx hf hm
    have x2 : m arr 28 = (eN e : Int) := (hf.est a1 a2 a3 a4 hem).2.2.2.2.2.2.2
    refine rn_aload_n (x := 95) (q := 29) dX9_part_28 rfl rfl ?_
    refine rn_aload_n (x := 95) (q := 30) dX9_part_29 rfl rfl ?_
    refine rn_aload_n (x := arr) (q := 31) dX9_part_30 rfl rfl ?_
    refine rn_bipush (q := 33) dX9_part_31 ⟨by decide, by decide⟩ rfl ?_
    refine rn_ialdV (a := arr) (v := (eN e : Int)) (q := 34) dX9_part_33 ha (by omega) (by omega) x2 rfl ?_
    refine rn_callV (b := 95) (as := [.inl (eN e : Int)]) (rest := [.inr (.inr 96)]) (q := 37) dX9_part_34 ml_X9_213 sm_X9_worthOn rfl rfl (by decide) (by omega) rfl rfl (Nat.le_of_ble_eq_true rfl) rfl (s_worthOn (d := d + 176) (hf.song hs) (eN e) (by omega)) ?_
    intro r34 mem34 hq34
    obtain ⟨rfl, rfl⟩ := hq34
    show am_Rn l G _ _ 37 [some (.inr (.inr 96)), some (.inr (.inr (arr + 1))), lx] [.inl (sg (eN e % sn) : Int), .inr (.inr 96)] m _
    refine rn_puti (a := 95) (q := 40) dX9_part_37 fl_X9_252 rfl rfl rfl rfl ?_
    refine rn_aload_n (x := 95) (q := 41) dX9_part_40 rfl rfl ?_
    refine rn_iconst (q := 42) dX9_part_41 (am_okd rfl) rfl ?_
    refine rn_puti (a := 95) (q := 45) dX9_part_42 fl_X9_255 rfl rfl rfl rfl ?_
    refine rn_iconst (q := 46) dX9_part_45 (am_okd rfl) rfl ?_
    refine rn_istore_n (ls' := [some (.inr (.inr 96)), some (.inr (.inr (arr + 1))), some (.inl 0)]) (q := 47) dX9_part_46 (by decide) rfl rfl ?_
    refine s_part9_47 (d := d + 176) ha a1 a2 a3 a4 hh x3 (mv := mv) (fun i => by rw [hmv]; exact mayV_nn) (w := (sg (eN e % sn) : Int)) (by omega) (fun m p1 p2 p3 p4 => ⟨rfl, p1, p2, p3, p4⟩) h.1 0 _ (by omega) ⟨fun b b1 b2 b3 b4 => ?_, fun k hk k1 k2 => ?_⟩ (fun j hj => ?_) (fun j hj => absurd hj (Nat.not_lt_zero _)) rfl rfl
    · rw [am_up_ne b1, am_up_ne b1]; exact hf.1 b b1 b2 b3 b4
    · rw [am_up_neq k1, am_up_neq k2]; exact hf.2 k hk k1 k2
    · rw [am_up_ne (by decide), am_up_ne (by decide)]; exact hm j hj
  refine rn_iconst (q := 1) dX9_part_0 (am_okd rfl) rfl ?_
  refine rn_istore_n (ls' := [some (.inr (.inr 96)), some (.inr (.inr (arr + 1))), some (.inl 0)]) (q := 2) dX9_part_1 (by decide) rfl rfl ?_
  exact s_part9_2 ha a1 a2 a3 a4 hx4 hx2 hR hs hh hNB heo hem hask hmv K h.1 0 mem (by omega) ⟨fun _ _ _ _ _ => rfl, fun _ _ _ _ => rfl⟩ (fun j hj => absurd hj (Nat.not_lt_zero _))
end P45
