def fr_n9 (arr : Nat) (mem m : am_M) : Prop := (∀ b, b ≠ 95 → b ≠ 106 → b ≠ 111 → b ≠ 112 → b ≠ arr → m b = mem b) ∧ ∀ k, (k < 12 ∨ 16 < k) → k ≠ 30 → k ≠ 31 → m 95 k = mem 95 k
section P49
variable {l : Launch} {G : am_G} {d : Nat} {mem M : am_M}
theorem s_goNight9 {arr : Nat} (ha : am_ks[arr]? = some (100, 29)) (a1 : arr ≠ 95) (a2 : arr ≠ 106) (a3 : arr ≠ 111) (a4 : arr ≠ 112) {rq : Nat} {X : List Nat} (hx4 : X.length ≤ 40) (hx2 : ∀ j, X.getD j 0 < 256) (hR : m_rul rq X mem) {sn : Nat} {sg : Nat → Nat} (hs : m_song sn sg mem) {h : hrs} (hh : m_hrs h mem) {e : est} {NB : Nat} (hNB : NB < 1000000) (heo : e_ok h.1 NB e) (hem : m_est e arr 0 mem) (hask : mem 95 21 = 0) : am_Sm l G yX9_goNight mt_X9_goNight (d + 178) [.inr (.inr 96), .inr (.inr (arr + 1))] mem (fun q m => q = none ∧ m_est (nextE X h sn sg e) arr 0 m ∧ fr_n9 arr mem m) := by
  refine am_enter (ls := [some (.inr (.inr 96)), some (.inr (.inr (arr + 1))), none]) (by decide) rfl (Nat.le_of_ble_eq_true rfl) rfl ?_
  have hw := wE_ok (sn := sn) (e := e) hs.2.2.2.1
  have hmn := mvE_nn (X := X) (h := h) (sn := sn) (sg := sg) (e := e)
  have h8 : h.1 ≤ 8 := hh.1.1
  have hpk := pP_ok (mk := eP e) hmn hw
  have hlk := pL_ok (mk := eP e) hmn hw h.1
  have hdk := pD_ok (mk := eP e) hmn hw hh.1.2.2.2 h.1
  obtain ⟨o1, o2, o3, o4, o5, o6, o7, o8⟩ := heo
  refine rn_aload_n (x := 95) (q := 1) dX9_goNight_0 rfl rfl ?_
  refine rn_aload_n (x := arr) (q := 2) dX9_goNight_1 rfl rfl ?_
  refine rn_callV (b := 95) (as := [.inr (.inr (arr + 1))]) (rest := []) (q := 5) dX9_goNight_2 ml_X9_258 sm_X9_part rfl rfl (by decide) (by omega) rfl rfl (Nat.le_of_ble_eq_true rfl) rfl (s_part9 (d := d) ha a1 a2 a3 a4 hx4 hx2 hR hs hh hNB ⟨o1, o2, o3, o4, o5, o6, o7, o8⟩ hem hask (mv := mvE X h sn sg e) (fun _ => rfl)) ?_
  intro r2 mem2 hq2
  obtain ⟨rfl, hf, hp, h30, h31⟩ := hq2
  show am_Rn l G _ _ 5 [some (.inr (.inr 96)), some (.inr (.inr (arr + 1))), none] [] mem2 _
  refine rn_iconst (q := 6) dX9_goNight_5 (am_okd rfl) rfl ?_
  refine rn_istore_n (ls' := [some (.inr (.inr 96)), some (.inr (.inr (arr + 1))), some (.inl 0)]) (q := 7) dX9_goNight_6 (by decide) rfl rfl ?_
  obtain ⟨y1, y2, y3, y4, y5, y6, y7, y8⟩ := hf.est a1 a2 a3 a4 hem
  refine s_goN_7 (d := d + 177) ha a1 a4 (m0 := mem2) h8 (hf.hrs hh).2.1 (hd := eH e) o1 (p := pP (mvE X h sn sg e) (eP e) (wE sn sg e)) hpk hp (fun m lx f1 f2 f3 => ?_) h.1 0 mem2 (by omega) (fun _ _ => rfl) (fun j hj => ?_) (fun _ _ => rfl)
  · have f95 : m 95 = mem2 95 := f1 95 (fun q => a1 q.symm)
    refine s_goN_39 (d := d + 177) ha a1 (nt := eN e) (eb := eB e) (em := eM e) (ek := eK e) (eg := eG e) (pd := pD (mvE X h sn sg e) (eP e) (wE sn sg e) h.2.2.2 h.1) (pl := pL (mvE X h sn sg e) (eP e) (wE sn sg e) h.1) (by omega) o5 o6 o7 o8 (by omega) hlk ((f3 24 (by decide)).trans y4) ((f3 25 (by decide)).trans y5) ((f3 26 (by decide)).trans y6) ((f3 27 (by decide)).trans y7) ((f3 28 (by decide)).trans y8) (by rw [f95]; exact h30) (by rw [f95]; exact h31) (fun m1 g1 g2 g3 g4 g5 g6 g7 => ⟨rfl, ⟨fun i hi => ?_, fun i hi => ?_, fun i hi => ?_, ?_, ?_, ?_, ?_, ?_⟩, fun b b1 b2 b3 b4 b5 => ?_, fun k hk k1 k2 => ?_⟩)
    · rw [Nat.zero_add, g2 i (by omega), f2 i hi]
      have := hpk i
      show _ = (((if i < h.1 then (min 99 ((eH e i : Int) + pP (mvE X h sn sg e) (eP e) (wE sn sg e) i)).toNat else eH e i) : Nat) : Int)
      split <;> omega
    · have := y2 i hi
      rw [Nat.zero_add] at this ⊢
      rw [g2 (8 + i) (by omega), f3 (8 + i) (by omega)]; exact this
    · have := y3 i hi
      rw [Nat.zero_add] at this ⊢
      rw [g2 (16 + i) (by omega), f3 (16 + i) (by omega)]; exact this
    · rw [Nat.zero_add, g3]
      show _ = (((min 9999 ((eB e : Int) + pL (mvE X h sn sg e) (eP e) (wE sn sg e) h.1)).toNat : Nat) : Int)
      omega
    · rw [Nat.zero_add, g4]
      show _ = (((min 9999 ((eM e : Int) + pD (mvE X h sn sg e) (eP e) (wE sn sg e) h.2.2.2 h.1)).toNat : Nat) : Int)
      omega
    · rw [Nat.zero_add, g5]
      show _ = (((if eN e % 7 = 6 then (max 0 (min 9999 ((eK e : Int) + ((eK e : Int) * eG e).tdiv 10))).toNat else eK e) : Nat) : Int)
      split
      · generalize ((eK e : Int) * eG e).tdiv 10 = z; omega
      · rfl
    · rw [Nat.zero_add, g6]; rfl
    · rw [Nat.zero_add, g7]; rfl
    · rw [g1 b b5, f1 b b5]; exact hf.1 b b1 b2 b3 b4
    · rw [g1 95 (fun q => a1 q.symm), f95]; exact hf.2 k hk k1 k2
  · have := y1 j hj
    rw [Nat.zero_add] at this
    rw [if_neg (by omega)]; exact this
end P49
