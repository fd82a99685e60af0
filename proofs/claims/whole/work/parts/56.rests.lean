/-! the reference's awards; rests of both -/
/-- counting pairs, the first one being told -/
def dcI (P : Nat → Nat → Bool) (x : Nat) (s : Nat × List Int) : Nat → Nat × List Int
  | 0 => s
  | y + 1 => if P x y = true then ((dcI P x s y).1 + 1, if (dcI P x s y).1 = 0 then [(x : Int), (y : Int)] else (dcI P x s y).2) else dcI P x s y
def dcO (P : Nat → Nat → Bool) (w : Nat → Nat) : Nat → Nat × List Int
  | 0 => (0, [])
  | x + 1 => dcI P x (dcO P w x) (w x)
theorem dcI_ok {P : Nat → Nat → Bool} {x : Nat} {s : Nat × List Int} {k : Nat} (hs : s.1 ≤ k ∧ (s.1 = 0 → s.2 = [])) : ∀ y, (dcI P x s y).1 ≤ k + y ∧ ((dcI P x s y).1 = 0 → (dcI P x s y).2 = []) := by
  intro y
  induction y with
  | zero => exact hs
  | succ y ih =>
    rw [dcI]
    split
    · exact ⟨by show (dcI P x s y).1 + 1 ≤ k + (y + 1); omega, fun h0 => absurd h0 (by show ¬ (dcI P x s y).1 + 1 = 0; omega)⟩
    · exact ⟨by omega, ih.2⟩
theorem dcO_ok {P : Nat → Nat → Bool} {w : Nat → Nat} (hw : ∀ x, w x ≤ 10) : ∀ x, (dcO P w x).1 ≤ 10 * x ∧ ((dcO P w x).1 = 0 → (dcO P w x).2 = []) := by
  intro x
  induction x with
  | zero => exact ⟨Nat.le_refl _, fun _ => rfl⟩
  | succ x ih =>
    have h1 := dcI_ok (P := P) (x := x) ih (w x)
    have := hw x
    rw [dcO]
    exact ⟨by omega, h1.2⟩
def rsG (v c : Int) (own other : Nat) : Int := (if 9 ≤ own + other then v else v.tdiv 2) - c * (own : Int)
def rsB (v c : Int) (own other : Nat) : Bool := decide (∀ t : Nat, t < 10 → rsG v c t other ≤ rsG v c own other)
def rsP (v a b : Int) (x y : Nat) : Bool := rsB v a x y && rsB v b y x
theorem rsM {c : Int} {t : Nat} (hc : 0 ≤ c ∧ c ≤ 5) (ht : t ≤ 9) : 0 ≤ c * (t : Int) ∧ c * (t : Int) ≤ 45 := ⟨Int.mul_nonneg hc.1 (by omega), by have := Int.mul_le_mul hc.2 (show (t : Int) ≤ 9 by omega) (by omega) (by omega); omega⟩
theorem rsG_ok {v c : Int} {t o : Nat} (hv : 0 ≤ v ∧ v ≤ 20) (hc : 0 ≤ c ∧ c ≤ 5) (ht : t ≤ 9) : -100 ≤ rsG v c t o ∧ rsG v c t o ≤ 100 := by
  have := rsM hc ht
  unfold rsG
  have h2 : v.tdiv 2 = v / 2 := Int.tdiv_eq_ediv_of_nonneg hv.1
  rw [h2]
  split <;> omega
section P56
variable {l : Launch} {G : am_G} {d : Nat} {r : Nat} {X : List Nat} {C : List Int} {sn : Nat} {sg : Nat → Nat} {h : hrs} {e : est} {NB : Nat} {mem m : am_M}
theorem m_tellA {L : List Int} (hr : m_row L mem) (hl : L.length < 9) (x : Int) : am_Sm l G yX9_tell mt_X9_tell d [.inr (.inr 96), .inr (.inl x)] mem (fun q m => q = none ∧ m_row (L ++ [x]) m ∧ frS s9r mem m ∧ ∀ b k, (b == 95) = false → (b == 102) = false → m b k = mem b k) := by
  refine am_Sm_mono (s_tell9 L.length (by omega) hr.1 x) (fun r m hq => ?_)
  obtain ⟨rfl, rfl⟩ := hq
  refine ⟨rfl, ⟨?_, by simp; omega, fun i hi => ?_⟩, (frS.rf.up rfl).up rfl, fun b k h3 h4 => ?_⟩
  · rw [am_up_self]; simp
  · rw [lg_app hi]
    show am_up mem 102 L.length x 102 i = _
    rw [am_up_at]
    by_cases e : i = L.length
    · rw [if_pos e, if_pos e]
    · rw [if_neg e, if_neg e]; exact hr.2.2 i (by simp at hi; omega)
  · rw [am_up_ne (by simpa using h3), am_up_ne (by simpa using h4)]
theorem m_awards (q : DQ X sn sg h e NB mem) {R : List Int} (hR : m_row R mem) (v : Int) : am_Sm l G yX9_awards mt_X9_awards (d + 2) [.inr (.inr 96), .inl v] mem (fun q m => (¬ (0 ≤ v ∧ v ≤ 999) → QM (-1) R mem q m) ∧ (0 ≤ v ∧ v ≤ 999 → QM (if h.1 = 0 then 0 else ((awR (eH e) h.1 v.toNat (fun _ => 0)).1 0 : Int)) (rowN (awR (eH e) h.1 v.toNat (fun _ => 0)).1 h.1 ++ [((awR (eH e) h.1 v.toNat (fun _ => 0)).2 : Int)]) mem q m)) := by
  refine am_enterQ (ls := [some (.inr (.inr 96)), some (.inl v), none, none, none, none]) (by decide) rfl (Nat.le_of_ble_eq_true rfl) rfl (fun hok Q hQ => ?_)
  have b := q.bd
  have L3 : 0 ≤ v ∧ v ≤ 999 → ∀ (s : Nat → Nat) (f : Nat), f ≤ 999 → awR (eH e) h.1 v.toNat (fun _ => 0) = (s, f) → ∀ (l3 : Int) (l5 : Option am_V), ∀ i : Nat, i ≤ h.1 → ∀ (m : am_M), frS s9r mem m → (∀ j, j < h.1 → m 116 j = (s j : Int)) → m_row (rowN s i) m → am_Rn l G mt_X9_awards (d + 2) 159 [some (.inr (.inr 96)), some (.inl v), some (.inl (f : Int)), some (.inl l3), some (.inl (i : Int)), l5] [] m Q := by
    intro hv s f hf9 hA l3 l5
    refine am_dn h.1 (fun i hi ih m hf hs hr => ?_)
    have hl := rowN_l (s := s) (n := i)
    refine rn_iload (x := (i : Int)) (q := 161) dX9_awards_159 rfl rfl ?_
    refine rn_aload_n (x := 95) (q := 162) dX9_awards_161 rfl rfl ?_
    refine rn_get (a := 95) (v := .inl (h.1 : Int)) (q := 165) dX9_awards_162 fl_X9_113 rfl (am_gi (q.kept hf).n) rfl ?_
    refine rn_cmpge (t := 186) (q := 168) dX9_awards_165 rfl rfl (fun w165 => ?_) (fun w165 => ?_)
    · refine rn_aload_n (x := 95) (q := 187) dX9_awards_186 rfl rfl ?_
      refine rn_iload_n (x := (f : Int)) (q := 188) dX9_awards_187 rfl rfl ?_
      refine rn_i2l (q := 189) dX9_awards_188 rfl ?_
      refine rn_callV (b := 95) (as := [.inr (.inl (f : Int))]) (rest := []) (q := 192) dX9_awards_189 ml_X9_275 sm_X9_tell rfl rfl (by decide) (by omega) rfl rfl (Nat.le_of_ble_eq_true rfl) rfl (m_tellA (d := d + 1) hr (by omega) (f : Int)) ?_
      intro r189 mem189 hq189
      obtain ⟨rfl, hr189, hf189, hf189a⟩ := hq189
      show am_Rn l G _ _ 192 [some (.inr (.inr 96)), some (.inl v), some (.inl (f : Int)), some (.inl l3), some (.inl (i : Int)), l5] [] mem189 _
      refine rn_aload_n (x := 95) (q := 193) dX9_awards_192 rfl rfl ?_
      refine rn_get (a := 95) (v := .inl (h.1 : Int)) (q := 196) dX9_awards_193 fl_X9_113 rfl (am_gi (q.kept (hf.tr hf189)).n) rfl ?_
      refine rn_ifne (t := 203) (q := 199) dX9_awards_196 rfl rfl (fun w196 => ?_) (fun w196 => ?_)
      · refine rn_aload_n (x := 95) (q := 204) dX9_awards_203 rfl rfl ?_
        refine rn_get (a := 95) (v := .inr (.inr 117)) (q := 207) dX9_awards_204 fl_X9_76 rfl rfl rfl ?_
        refine rn_iconst (q := 208) dX9_awards_207 (am_okd rfl) rfl ?_
        refine rn_ialdV (a := 116) (v := (s 0 : Int)) (q := 209) dX9_awards_208 rfl (by omega) (by omega) ((hf189a 116 0 rfl rfl).trans (hs 0 (by omega))) rfl ?_
        refine rn_iret dX9_awards_209 rfl ?_
        first | exact hQ _ _ ⟨fun hn => absurd hv hn, fun _ => by rw [hA, if_pos (by omega)]; exact ⟨rfl, (hf.tr hf189), by rw [show i = h.1 by omega] at hr189; exact hr189⟩⟩ | exact hQ _ _ ⟨fun hn => absurd hv hn, fun _ => by rw [hA, if_neg (by omega)]; exact ⟨rfl, (hf.tr hf189), by rw [show i = h.1 by omega] at hr189; exact hr189⟩⟩
      · refine rn_iconst (q := 200) dX9_awards_199 (am_okd rfl) rfl ?_
        refine rn_goto (t := 209) dX9_awards_200 rfl ?_
        refine rn_iret dX9_awards_209 rfl ?_
        first | exact hQ _ _ ⟨fun hn => absurd hv hn, fun _ => by rw [hA, if_pos (by omega)]; exact ⟨rfl, (hf.tr hf189), by rw [show i = h.1 by omega] at hr189; exact hr189⟩⟩ | exact hQ _ _ ⟨fun hn => absurd hv hn, fun _ => by rw [hA, if_neg (by omega)]; exact ⟨rfl, (hf.tr hf189), by rw [show i = h.1 by omega] at hr189; exact hr189⟩⟩
    · refine rn_aload_n (x := 95) (q := 169) dX9_awards_168 rfl rfl ?_
      refine rn_aload_n (x := 95) (q := 170) dX9_awards_169 rfl rfl ?_
      refine rn_get (a := 95) (v := .inr (.inr 117)) (q := 173) dX9_awards_170 fl_X9_76 rfl rfl rfl ?_
      refine rn_iload (x := (i : Int)) (q := 175) dX9_awards_173 rfl rfl ?_
      refine rn_ialdV (a := 116) (v := (s i : Int)) (q := 176) dX9_awards_175 rfl (by omega) (by omega) (hs i (by omega)) rfl ?_
      refine rn_i2l (q := 177) dX9_awards_176 rfl ?_
      refine rn_callV (b := 95) (as := [.inr (.inl (s i : Int))]) (rest := []) (q := 180) dX9_awards_177 ml_X9_275 sm_X9_tell rfl rfl (by decide) (by omega) rfl rfl (Nat.le_of_ble_eq_true rfl) rfl (m_tellA (d := d + 1) hr (by omega) (s i : Int)) ?_
      intro r177 mem177 hq177
      obtain ⟨rfl, hr177, hf177, hf177a⟩ := hq177
      show am_Rn l G _ _ 180 [some (.inr (.inr 96)), some (.inl v), some (.inl (f : Int)), some (.inl l3), some (.inl (i : Int)), l5] [] mem177 _
      refine rn_iincN (x := (i : Int)) (z := ((i + 1 : Nat) : Int)) (ls' := [some (.inr (.inr 96)), some (.inl v), some (.inl (f : Int)), some (.inl l3), some (.inl ((i + 1 : Nat) : Int)), l5]) (q := 183) dX9_awards_180 rfl (by decide) (by omega) (by unfold am_ok; omega) rfl rfl ?_
      refine rn_goto (t := 159) dX9_awards_183 rfl ?_
      exact ih (by omega) _ (hf.tr hf177) (fun j hj => (hf177a 116 j rfl rfl).trans (hs j hj)) (by rw [rowN_s]; exact hr177)
  have L2 : 0 ≤ v ∧ v ≤ 999 → ∀ (f : Nat) (s : Nat → Nat) (m : am_M) (lx ly : Option am_V), f ≤ 999 → frS s9r mem m → (∀ j, j < h.1 → m 116 j = (s j : Int)) → (∀ j, s j ≤ 99) → awR (eH e) h.1 v.toNat (fun _ => 0) = awR (eH e) h.1 f s → am_Rn l G mt_X9_awards (d + 2) 45 [some (.inr (.inr 96)), some (.inl v), some (.inl (f : Int)), some (.inl 1), lx, ly] [] m Q := by
    intro hv f
    induction f with
    | zero =>
      intro s m lx ly hf9 hf hs hs9 hA
      refine rn_iload_n (x := ((0 : Nat) : Int)) (q := 46) dX9_awards_45 rfl rfl ?_
      refine rn_ifle (t := 151) (q := 49) dX9_awards_46 rfl rfl (fun w46 => ?_) (fun h => absurd h (by omega))
      refine rn_aload_n (x := 95) (q := 152) dX9_awards_151 rfl rfl ?_
      refine rn_iconst (q := 153) dX9_awards_152 (am_okd rfl) rfl ?_
      refine rn_puti (a := 95) (q := 156) dX9_awards_153 fl_X9_110 rfl rfl rfl rfl ?_
      refine rn_iconst (q := 157) dX9_awards_156 (am_okd rfl) rfl ?_
      refine rn_istore (ls' := [some (.inr (.inr 96)), some (.inl v), some (.inl ((0 : Nat) : Int)), some (.inl 1), some (.inl 0), ly]) (q := 159) dX9_awards_157 (by decide) rfl rfl ?_
      exact L3 hv s 0 (by omega) hA _ _ 0 (Nat.zero_le _) _ (frS.up (a := 95) (k := 10) (x := 0) hf rfl) hs m_row0
    | succ f ih =>
      intro s m lx ly hf9 hf hs hs9 hA
      have K : ∀ i : Nat, i ≤ h.1 → ∀ x : Int, x = por s (eH e) i → am_Rn l G mt_X9_awards (d + 2) 59 [some (.inr (.inr 96)), some (.inl v), some (.inl ((f + 1 : Nat) : Int)), some (.inl 1), some (.inl x), some (.inl (i : Int))] [] m Q := by
        refine am_dn h.1 (fun i hi ih2 x hx => ?_)
        have o := por_ok (s := s) (H := eH e) i
        rw [← hx] at o
        by_cases hin : i < h.1
        · refine rn_iload (x := (i : Int)) (q := 61) dX9_awards_59 rfl rfl ?_
          refine rn_aload_n (x := 95) (q := 62) dX9_awards_61 rfl rfl ?_
          refine rn_get (a := 95) (v := .inl (h.1 : Int)) (q := 65) dX9_awards_62 fl_X9_113 rfl (am_gi (q.kept hf).n) rfl ?_
          refine rn_cmpge (t := 118) (q := 68) dX9_awards_65 rfl rfl (fun h => absurd h (by omega)) (fun w65 => ?_)
          refine rn_aload_n (x := 95) (q := 69) dX9_awards_68 rfl rfl ?_
          refine rn_get (a := 95) (v := .inr (.inr 117)) (q := 72) dX9_awards_69 fl_X9_76 rfl rfl rfl ?_
          refine rn_iload (x := (i : Int)) (q := 74) dX9_awards_72 rfl rfl ?_
          refine rn_ialdV (a := 116) (v := (s i : Int)) (q := 75) dX9_awards_74 rfl (by omega) (by omega) (hs i (by omega)) rfl ?_
          refine rn_aload_n (x := 95) (q := 76) dX9_awards_75 rfl rfl ?_
          refine rn_get (a := 95) (v := .inr (.inr 97)) (q := 79) dX9_awards_76 fl_X9_9 rfl rfl rfl ?_
          refine rn_iload (x := (i : Int)) (q := 81) dX9_awards_79 rfl rfl ?_
          refine rn_ialdV (a := 96) (v := (eH e i : Int)) (q := 82) dX9_awards_81 rfl (by omega) (by omega) ((q.kept hf).hd (by omega)) rfl ?_
          refine rn_cmpge (t := 112) (q := 85) dX9_awards_82 rfl rfl (fun w82 => ?_) (fun w82 => ?_)
          · refine rn_iincN (x := (i : Int)) (z := ((i + 1 : Nat) : Int)) (ls' := [some (.inr (.inr 96)), some (.inl v), some (.inl ((f + 1 : Nat) : Int)), some (.inl 1), some (.inl x), some (.inl ((i + 1 : Nat) : Int))]) (q := 115) dX9_awards_112 rfl (by decide) (by omega) (by unfold am_ok; omega) rfl rfl ?_
            refine rn_goto (t := 59) dX9_awards_115 rfl ?_
            first | exact ih2 (by omega) _ (by rw [por, ← hx, if_pos ⟨by omega, by omega⟩]) | exact ih2 (by omega) _ (by rw [por, ← hx, if_neg (by omega)])
          · refine rn_iload (x := x) (q := 87) dX9_awards_85 rfl rfl ?_
            refine rn_iconst (q := 88) dX9_awards_87 (am_okd rfl) rfl ?_
            refine rn_cmpeq (t := 108) (q := 91) dX9_awards_88 rfl rfl (fun w88 => ?_) (fun w88 => ?_)
            · refine rn_iload (x := (i : Int)) (q := 110) dX9_awards_108 rfl rfl ?_
              refine rn_istore (ls' := [some (.inr (.inr 96)), some (.inl v), some (.inl ((f + 1 : Nat) : Int)), some (.inl 1), some (.inl (i : Int)), some (.inl (i : Int))]) (q := 112) dX9_awards_110 (by decide) rfl rfl ?_
              refine rn_iincN (x := (i : Int)) (z := ((i + 1 : Nat) : Int)) (ls' := [some (.inr (.inr 96)), some (.inl v), some (.inl ((f + 1 : Nat) : Int)), some (.inl 1), some (.inl (i : Int)), some (.inl ((i + 1 : Nat) : Int))]) (q := 115) dX9_awards_112 rfl (by decide) (by omega) (by unfold am_ok; omega) rfl rfl ?_
              refine rn_goto (t := 59) dX9_awards_115 rfl ?_
              first | exact ih2 (by omega) _ (by rw [por, ← hx, if_pos ⟨by omega, by omega⟩]) | exact ih2 (by omega) _ (by rw [por, ← hx, if_neg (by omega)])
            · refine rn_aload_n (x := 95) (q := 92) dX9_awards_91 rfl rfl ?_
              refine rn_get (a := 95) (v := .inr (.inr 117)) (q := 95) dX9_awards_92 fl_X9_76 rfl rfl rfl ?_
              refine rn_iload (x := (i : Int)) (q := 97) dX9_awards_95 rfl rfl ?_
              refine rn_ialdV (a := 116) (v := (s i : Int)) (q := 98) dX9_awards_97 rfl (by omega) (by omega) (hs i (by omega)) rfl ?_
              refine rn_aload_n (x := 95) (q := 99) dX9_awards_98 rfl rfl ?_
              refine rn_get (a := 95) (v := .inr (.inr 117)) (q := 102) dX9_awards_99 fl_X9_76 rfl rfl rfl ?_
              refine rn_iload (x := x) (q := 104) dX9_awards_102 rfl rfl ?_
              refine rn_ialdV (a := 116) (v := (s x.toNat : Int)) (q := 105) dX9_awards_104 rfl (by omega) (by omega) (hs x.toNat (by omega)) rfl ?_
              refine rn_cmpge (t := 112) (q := 108) dX9_awards_105 rfl rfl (fun w105 => ?_) (fun w105 => ?_)
              · refine rn_iincN (x := (i : Int)) (z := ((i + 1 : Nat) : Int)) (ls' := [some (.inr (.inr 96)), some (.inl v), some (.inl ((f + 1 : Nat) : Int)), some (.inl 1), some (.inl x), some (.inl ((i + 1 : Nat) : Int))]) (q := 115) dX9_awards_112 rfl (by decide) (by omega) (by unfold am_ok; omega) rfl rfl ?_
                refine rn_goto (t := 59) dX9_awards_115 rfl ?_
                first | exact ih2 (by omega) _ (by rw [por, ← hx, if_pos ⟨by omega, by omega⟩]) | exact ih2 (by omega) _ (by rw [por, ← hx, if_neg (by omega)])
              · refine rn_iload (x := (i : Int)) (q := 110) dX9_awards_108 rfl rfl ?_
                refine rn_istore (ls' := [some (.inr (.inr 96)), some (.inl v), some (.inl ((f + 1 : Nat) : Int)), some (.inl 1), some (.inl (i : Int)), some (.inl (i : Int))]) (q := 112) dX9_awards_110 (by decide) rfl rfl ?_
                refine rn_iincN (x := (i : Int)) (z := ((i + 1 : Nat) : Int)) (ls' := [some (.inr (.inr 96)), some (.inl v), some (.inl ((f + 1 : Nat) : Int)), some (.inl 1), some (.inl (i : Int)), some (.inl ((i + 1 : Nat) : Int))]) (q := 115) dX9_awards_112 rfl (by decide) (by omega) (by unfold am_ok; omega) rfl rfl ?_
                refine rn_goto (t := 59) dX9_awards_115 rfl ?_
                first | exact ih2 (by omega) _ (by rw [por, ← hx, if_pos ⟨by omega, by omega⟩]) | exact ih2 (by omega) _ (by rw [por, ← hx, if_neg (by omega)])
        · obtain rfl : i = h.1 := by omega
          by_cases hp : x = -1
          · rw [awR, if_pos (by rw [← hx]; exact hp)] at hA
            refine rn_iload (x := (h.1 : Int)) (q := 61) dX9_awards_59 rfl rfl ?_
            refine rn_aload_n (x := 95) (q := 62) dX9_awards_61 rfl rfl ?_
            refine rn_get (a := 95) (v := .inl (h.1 : Int)) (q := 65) dX9_awards_62 fl_X9_113 rfl (am_gi (q.kept hf).n) rfl ?_
            refine rn_cmpge (t := 118) (q := 68) dX9_awards_65 rfl rfl (fun w65 => ?_) (fun h => absurd h (by omega))
            refine rn_iload (x := x) (q := 120) dX9_awards_118 rfl rfl ?_
            refine rn_iconst (q := 121) dX9_awards_120 (am_okd rfl) rfl ?_
            refine rn_cmpeq (t := 128) (q := 124) dX9_awards_121 rfl rfl (fun w121 => ?_) (fun h => absurd h (by omega))
            refine rn_iconst (q := 129) dX9_awards_128 (am_okd rfl) rfl ?_
            refine rn_istore_n (ls' := [some (.inr (.inr 96)), some (.inl v), some (.inl ((f + 1 : Nat) : Int)), some (.inl 0), some (.inl x), some (.inl (h.1 : Int))]) (q := 130) dX9_awards_129 (by decide) rfl rfl ?_
            refine rn_iload_n (x := 0) (q := 131) dX9_awards_130 rfl rfl ?_
            refine rn_ifeq (t := 148) (q := 134) dX9_awards_131 rfl rfl (fun w131 => ?_) (fun h => absurd h (by decide))
            refine rn_goto (t := 45) dX9_awards_148 rfl ?_
            refine rn_iload_n (x := ((f + 1 : Nat) : Int)) (q := 46) dX9_awards_45 rfl rfl ?_
            refine rn_ifle (t := 151) (q := 49) dX9_awards_46 rfl rfl (fun h => absurd h (by omega)) (fun w46 => ?_)
            refine rn_iload_n (x := 0) (q := 50) dX9_awards_49 rfl rfl ?_
            refine rn_ifeq (t := 151) (q := 53) dX9_awards_50 rfl rfl (fun w50 => ?_) (fun h => absurd h (by decide))
            refine rn_aload_n (x := 95) (q := 152) dX9_awards_151 rfl rfl ?_
            refine rn_iconst (q := 153) dX9_awards_152 (am_okd rfl) rfl ?_
            refine rn_puti (a := 95) (q := 156) dX9_awards_153 fl_X9_110 rfl rfl rfl rfl ?_
            refine rn_iconst (q := 157) dX9_awards_156 (am_okd rfl) rfl ?_
            refine rn_istore (ls' := [some (.inr (.inr 96)), some (.inl v), some (.inl ((f + 1 : Nat) : Int)), some (.inl 0), some (.inl 0), some (.inl (h.1 : Int))]) (q := 159) dX9_awards_157 (by decide) rfl rfl ?_
            exact L3 hv s (f + 1) (by omega) hA _ _ 0 (Nat.zero_le _) _ (frS.up (a := 95) (k := 10) (x := 0) hf rfl) hs m_row0
          · rw [awR, if_neg (by rw [← hx]; exact hp), ← hx] at hA
            obtain ⟨p, rfl⟩ : ∃ p : Nat, x = (p : Int) := ⟨x.toNat, by omega⟩
            rw [Int.toNat_natCast] at hA o
            have h9 := q.hd9 p
            have s9 := hs9 p
            refine rn_iload (x := (h.1 : Int)) (q := 61) dX9_awards_59 rfl rfl ?_
            refine rn_aload_n (x := 95) (q := 62) dX9_awards_61 rfl rfl ?_
            refine rn_get (a := 95) (v := .inl (h.1 : Int)) (q := 65) dX9_awards_62 fl_X9_113 rfl (am_gi (q.kept hf).n) rfl ?_
            refine rn_cmpge (t := 118) (q := 68) dX9_awards_65 rfl rfl (fun w65 => ?_) (fun h => absurd h (by omega))
            refine rn_iload (x := (p : Int)) (q := 120) dX9_awards_118 rfl rfl ?_
            refine rn_iconst (q := 121) dX9_awards_120 (am_okd rfl) rfl ?_
            refine rn_cmpeq (t := 128) (q := 124) dX9_awards_121 rfl rfl (fun h => absurd h (by omega)) (fun w121 => ?_)
            refine rn_iconst (q := 125) dX9_awards_124 (am_okd rfl) rfl ?_
            refine rn_goto (t := 129) dX9_awards_125 rfl ?_
            refine rn_istore_n (ls' := [some (.inr (.inr 96)), some (.inl v), some (.inl ((f + 1 : Nat) : Int)), some (.inl 1), some (.inl (p : Int)), some (.inl (h.1 : Int))]) (q := 130) dX9_awards_129 (by decide) rfl rfl ?_
            refine rn_iload_n (x := 1) (q := 131) dX9_awards_130 rfl rfl ?_
            refine rn_ifeq (t := 148) (q := 134) dX9_awards_131 rfl rfl (fun h => absurd h (by decide)) (fun w131 => ?_)
            refine rn_aload_n (x := 95) (q := 135) dX9_awards_134 rfl rfl ?_
            refine rn_get (a := 95) (v := .inr (.inr 117)) (q := 138) dX9_awards_135 fl_X9_76 rfl rfl rfl ?_
            refine rn_iload (x := (p : Int)) (q := 140) dX9_awards_138 rfl rfl ?_
            refine rn_dup2 (q := 141) dX9_awards_140 rfl rfl rfl ?_
            refine rn_ialdV (a := 116) (v := (s p : Int)) (q := 142) dX9_awards_141 rfl (by omega) (by omega) (hs p (by omega)) rfl ?_
            refine rn_iconst (q := 143) dX9_awards_142 (am_okd rfl) rfl ?_
            refine rn_iaddN (z := (((s p) + 1 : Nat) : Int)) (q := 144) dX9_awards_143 (by omega) (by unfold am_ok; omega) rfl ?_
            refine rn_iastV (a := 116) (m1 := am_up m 116 p (((s p) + 1 : Nat) : Int)) (q := 145) dX9_awards_144 rfl (by omega) (by omega) rfl rfl ?_
            refine rn_iincN (x := ((f + 1 : Nat) : Int)) (z := (f : Int)) (ls' := [some (.inr (.inr 96)), some (.inl v), some (.inl (f : Int)), some (.inl 1), some (.inl (p : Int)), some (.inl (h.1 : Int))]) (q := 148) dX9_awards_145 rfl (by decide) (by omega) (by unfold am_ok; omega) rfl rfl ?_
            refine rn_goto (t := 45) dX9_awards_148 rfl ?_
            refine ih (upN s p) _ _ _ (by omega) (frS.up (a := 116) (k := p) (x := (((s p) + 1 : Nat) : Int)) hf rfl) (fun j hj => ?_) (fun j => ?_) hA
            · unfold upN
              rw [am_up_at]
              by_cases ej : j = p
              · rw [if_pos ej, if_pos ej, ej]
              · rw [if_neg ej, if_neg ej]; exact hs j hj
            · unfold upN
              have := hs9 j
              split
              · rename_i ej; subst ej; omega
              · exact this
      refine rn_iload_n (x := ((f + 1 : Nat) : Int)) (q := 46) dX9_awards_45 rfl rfl ?_
      refine rn_ifle (t := 151) (q := 49) dX9_awards_46 rfl rfl (fun h => absurd h (by omega)) (fun w46 => ?_)
      refine rn_iload_n (x := 1) (q := 50) dX9_awards_49 rfl rfl ?_
      refine rn_ifeq (t := 151) (q := 53) dX9_awards_50 rfl rfl (fun h => absurd h (by decide)) (fun w50 => ?_)
      refine rn_iconst (q := 54) dX9_awards_53 (am_okd rfl) rfl ?_
      refine rn_istore (ls' := [some (.inr (.inr 96)), some (.inl v), some (.inl ((f + 1 : Nat) : Int)), some (.inl 1), some (.inl (-1)), ly]) (q := 56) dX9_awards_54 (by decide) rfl rfl ?_
      refine rn_iconst (q := 57) dX9_awards_56 (am_okd rfl) rfl ?_
      refine rn_istore (ls' := [some (.inr (.inr 96)), some (.inl v), some (.inl ((f + 1 : Nat) : Int)), some (.inl 1), some (.inl (-1)), some (.inl 0)]) (q := 59) dX9_awards_57 (by decide) rfl rfl ?_
      exact K 0 (Nat.zero_le _) _ rfl
  have L1 : 0 ≤ v ∧ v ≤ 999 → ∀ i : Nat, i ≤ h.1 → ∀ m : am_M, frS s9r mem m → (∀ j, j < i → m 116 j = 0) → am_Rn l G mt_X9_awards (d + 2) 20 [some (.inr (.inr 96)), some (.inl v), some (.inl (i : Int)), none, none, none] [] m Q := by
    intro hv
    refine am_dn h.1 (fun i hi ih m hf hs => ?_)
    refine rn_iload_n (x := (i : Int)) (q := 21) dX9_awards_20 rfl rfl ?_
    refine rn_aload_n (x := 95) (q := 22) dX9_awards_21 rfl rfl ?_
    refine rn_get (a := 95) (v := .inl (h.1 : Int)) (q := 25) dX9_awards_22 fl_X9_113 rfl (am_gi (q.kept hf).n) rfl ?_
    refine rn_cmpge (t := 41) (q := 28) dX9_awards_25 rfl rfl (fun w25 => ?_) (fun w25 => ?_)
    · refine rn_iload_n (x := v) (q := 42) dX9_awards_41 rfl rfl ?_
      refine rn_istore_n (ls' := [some (.inr (.inr 96)), some (.inl v), some (.inl v), none, none, none]) (q := 43) dX9_awards_42 (by decide) rfl rfl ?_
      refine rn_iconst (q := 44) dX9_awards_43 (am_okd rfl) rfl ?_
      refine rn_istore_n (ls' := [some (.inr (.inr 96)), some (.inl v), some (.inl v), some (.inl 1), none, none]) (q := 45) dX9_awards_44 (by decide) rfl rfl ?_
      have hvn : v = (v.toNat : Int) := by omega
      have := L2 hv v.toNat (fun _ => 0) m none none (by omega) hf (fun j hj => hs j (by omega)) (fun _ => by omega) rfl
      rw [← hvn] at this
      exact this
    · refine rn_aload_n (x := 95) (q := 29) dX9_awards_28 rfl rfl ?_
      refine rn_get (a := 95) (v := .inr (.inr 117)) (q := 32) dX9_awards_29 fl_X9_76 rfl rfl rfl ?_
      refine rn_iload_n (x := (i : Int)) (q := 33) dX9_awards_32 rfl rfl ?_
      refine rn_iconst (q := 34) dX9_awards_33 (am_okd rfl) rfl ?_
      refine rn_iastV (a := 116) (m1 := am_up m 116 i 0) (q := 35) dX9_awards_34 rfl (by omega) (by omega) rfl rfl ?_
      refine rn_iincN (x := (i : Int)) (z := ((i + 1 : Nat) : Int)) (ls' := [some (.inr (.inr 96)), some (.inl v), some (.inl ((i + 1 : Nat) : Int)), none, none, none]) (q := 38) dX9_awards_35 rfl (by decide) (by omega) (by unfold am_ok; omega) rfl rfl ?_
      refine rn_goto (t := 20) dX9_awards_38 rfl ?_
      refine ih (by omega) _ (frS.up (a := 116) (k := i) (x := 0) hf rfl) (fun j hj => ?_)
      rw [am_up_at]
      by_cases ej : j = i
      · rw [if_pos ej]
      · rw [if_neg ej]; exact hs j (by omega)
  refine rn_aload_n (x := 95) (q := 1) dX9_awards_0 rfl rfl ?_
  refine rn_iconst (q := 2) dX9_awards_1 (am_okd rfl) rfl ?_
  refine rn_puti (a := 95) (q := 5) dX9_awards_2 fl_X9_107 rfl rfl rfl rfl ?_
  refine rn_iload_n (x := v) (q := 6) dX9_awards_5 rfl rfl ?_
  refine rn_iconst (q := 7) dX9_awards_6 (am_okd rfl) rfl ?_
  refine rn_sipush (q := 10) dX9_awards_7 ⟨by decide, by decide⟩ rfl ?_
  refine rn_callS (as := [.inl v, .inl 0, .inl 999]) (rest := []) (q := 13) dX9_awards_10 ml_X9_116 sm_X9_in (by omega) rfl rfl (Nat.le_of_ble_eq_true rfl) rfl (s_in9 (d := d + 1) v 0 999) ?_
  intro r10 mem10 hq10
  obtain ⟨⟨rfl, hi10⟩ | ⟨rfl, hi10⟩, rfl⟩ := hq10
  · show am_Rn l G _ _ 13 [some (.inr (.inr 96)), some (.inl v), none, none, none, none] [.inl 1] (am_up mem 95 11 0) _
    refine rn_ifne (t := 18) (q := 16) dX9_awards_13 rfl rfl (fun w13 => ?_) (fun h => absurd h (by decide))
    refine rn_iconst (q := 19) dX9_awards_18 (am_okd rfl) rfl ?_
    refine rn_istore_n (ls' := [some (.inr (.inr 96)), some (.inl v), some (.inl 0), none, none, none]) (q := 20) dX9_awards_19 (by decide) rfl rfl ?_
    exact L1 (by omega) 0 (Nat.zero_le _) _ (frS.up (a := 95) (k := 11) (x := 0) frS.rf rfl) (fun j hj => absurd hj (Nat.not_lt_zero _))
  · show am_Rn l G _ _ 13 [some (.inr (.inr 96)), some (.inl v), none, none, none, none] [.inl 0] (am_up mem 95 11 0) _
    refine rn_ifne (t := 18) (q := 16) dX9_awards_13 rfl rfl (fun h => absurd h (by decide)) (fun w13 => ?_)
    refine rn_iconst (q := 17) dX9_awards_16 (am_okd rfl) rfl ?_
    refine rn_iret dX9_awards_17 rfl ?_
    exact hQ _ _ ⟨fun _ => ⟨rfl, (frS.up (a := 95) (k := 11) (x := 0) frS.rf rfl), hR.kept (frS.rf.up rfl)⟩, fun hn => by omega⟩
theorem s_had (v c : Int) (t o : Nat) (hv : 0 ≤ v ∧ v ≤ 20) (hc : 0 ≤ c ∧ c ≤ 5) (ht : t ≤ 9) (ho : o ≤ 9) : am_Sm l G yX8_had mt_X8_had d [.inl v, .inl c, .inl (t : Int), .inl (o : Int)] mem (am_rr (some (.inl (rsG v c t o))) mem) := by
  refine am_enterQ (ls := [some (.inl v), some (.inl c), some (.inl (t : Int)), some (.inl (o : Int))]) (by decide) rfl (Nat.le_of_ble_eq_true rfl) rfl (fun hok Q hQ => ?_)
  have hm := rsM hc ht
  have h2 : v.tdiv 2 = v / 2 := Int.tdiv_eq_ediv_of_nonneg hv.1
  refine rn_iload_n (x := (t : Int)) (q := 1) dX8_had_0 rfl rfl ?_
  refine rn_iload_n (x := (o : Int)) (q := 2) dX8_had_1 rfl rfl ?_
  refine rn_iaddN (z := ((t + o : Nat) : Int)) (q := 3) dX8_had_2 (by omega) (by unfold am_ok; omega) rfl ?_
  refine rn_bipush (q := 5) dX8_had_3 ⟨by decide, by decide⟩ rfl ?_
  refine rn_cmplt (t := 12) (q := 8) dX8_had_5 rfl rfl (fun w5 => ?_) (fun w5 => ?_)
  · refine rn_iload_n (x := v) (q := 13) dX8_had_12 rfl rfl ?_
    refine rn_iconst (q := 14) dX8_had_13 (am_okd rfl) rfl ?_
    refine rn_idivN (z := v / 2) (q := 15) dX8_had_14 (by decide) h2 (by unfold am_ok; omega) rfl ?_
    refine rn_iload_n (x := c) (q := 16) dX8_had_15 rfl rfl ?_
    refine rn_iload_n (x := (t : Int)) (q := 17) dX8_had_16 rfl rfl ?_
    refine rn_imulN (z := c * (t : Int)) (q := 18) dX8_had_17 rfl (by unfold am_ok; omega) rfl ?_
    refine rn_isubN (z := ((v / 2) - (c * (t : Int)))) (q := 19) dX8_had_18 rfl (by unfold am_ok; omega) rfl ?_
    refine rn_iret dX8_had_19 rfl ?_
    exact hQ _ _ ⟨by unfold rsG; first | rw [if_pos (by omega)] | rw [if_neg (by omega), h2], rfl⟩
  · refine rn_iload_n (x := v) (q := 9) dX8_had_8 rfl rfl ?_
    refine rn_goto (t := 15) dX8_had_9 rfl ?_
    refine rn_iload_n (x := c) (q := 16) dX8_had_15 rfl rfl ?_
    refine rn_iload_n (x := (t : Int)) (q := 17) dX8_had_16 rfl rfl ?_
    refine rn_imulN (z := c * (t : Int)) (q := 18) dX8_had_17 rfl (by unfold am_ok; omega) rfl ?_
    refine rn_isubN (z := (v - (c * (t : Int)))) (q := 19) dX8_had_18 rfl (by unfold am_ok; omega) rfl ?_
    refine rn_iret dX8_had_19 rfl ?_
    exact hQ _ _ ⟨by unfold rsG; first | rw [if_pos (by omega)] | rw [if_neg (by omega), h2], rfl⟩
theorem s_content (v c : Int) (t o : Nat) (hv : 0 ≤ v ∧ v ≤ 20) (hc : 0 ≤ c ∧ c ≤ 5) (ht : t ≤ 9) (ho : o ≤ 9) : am_Sm l G yX8_content mt_X8_content (d + 1) [.inl v, .inl c, .inl (t : Int), .inl (o : Int)] mem (fun q m => ((q = some (.inl 1) ∧ rsB v c t o = true) ∨ (q = some (.inl 0) ∧ ¬ rsB v c t o = true)) ∧ mem = m) := by
  refine am_enterQ (ls := [some (.inl v), some (.inl c), some (.inl (t : Int)), some (.inl (o : Int)), none, none]) (by decide) rfl (Nat.le_of_ble_eq_true rfl) rfl (fun hok Q hQ => ?_)
  have L : ∀ i : Nat, i ≤ 10 → (∀ j, j < i → rsG v c j o ≤ rsG v c t o) → am_Rn l G mt_X8_content (d + 1) 12 [some (.inl v), some (.inl c), some (.inl (t : Int)), some (.inl (o : Int)), some (.inl (rsG v c t o)), some (.inl (i : Int))] [] mem Q := by
    refine am_dn 10 (fun i hi ih hj => ?_)
    refine rn_iload (x := (i : Int)) (q := 14) dX8_content_12 rfl rfl ?_
    refine rn_bipush (q := 16) dX8_content_14 ⟨by decide, by decide⟩ rfl ?_
    refine rn_cmpgt (t := 40) (q := 19) dX8_content_16 rfl rfl (fun w16 => ?_) (fun w16 => ?_)
    · refine rn_iconst (q := 41) dX8_content_40 (am_okd rfl) rfl ?_
      refine rn_zret dX8_content_41 rfl (by omega) ?_
      exact hQ _ _ ⟨Or.inl ⟨rfl, decide_eq_true (fun t ht => hj t (by omega))⟩, rfl⟩
    · refine rn_iload_n (x := v) (q := 20) dX8_content_19 rfl rfl ?_
      refine rn_iload_n (x := c) (q := 21) dX8_content_20 rfl rfl ?_
      refine rn_iload (x := (i : Int)) (q := 23) dX8_content_21 rfl rfl ?_
      refine rn_iload_n (x := (o : Int)) (q := 24) dX8_content_23 rfl rfl ?_
      refine rn_callS (as := [.inl v, .inl c, .inl (i : Int), .inl (o : Int)]) (rest := []) (q := 27) dX8_content_24 ml_X8_420 sm_X8_had (by omega) rfl rfl (Nat.le_of_ble_eq_true rfl) rfl (s_had (d := d + 0) v c i o (by omega) (by omega) (by omega) (by omega)) ?_
      intro r24 mem24 hq24
      obtain ⟨rfl, rfl⟩ := hq24
      show am_Rn l G _ _ 27 [some (.inl v), some (.inl c), some (.inl (t : Int)), some (.inl (o : Int)), some (.inl (rsG v c t o)), some (.inl (i : Int))] [.inl (rsG v c i o)] mem _
      refine rn_iload (x := (rsG v c t o)) (q := 29) dX8_content_27 rfl rfl ?_
      refine rn_cmple (t := 34) (q := 32) dX8_content_29 rfl rfl (fun w29 => ?_) (fun w29 => ?_)
      · refine rn_iincN (x := (i : Int)) (z := ((i + 1 : Nat) : Int)) (ls' := [some (.inl v), some (.inl c), some (.inl (t : Int)), some (.inl (o : Int)), some (.inl (rsG v c t o)), some (.inl ((i + 1 : Nat) : Int))]) (q := 37) dX8_content_34 rfl (by decide) (by omega) (by unfold am_ok; omega) rfl rfl ?_
        refine rn_goto (t := 12) dX8_content_37 rfl ?_
        refine ih (by omega) (fun j hj2 => ?_)
        by_cases e : j = i
        · rw [e]; omega
        · exact hj j (by omega)
      · refine rn_iconst (q := 33) dX8_content_32 (am_okd rfl) rfl ?_
        refine rn_zret dX8_content_33 rfl (by omega) ?_
        exact hQ _ _ ⟨Or.inr ⟨rfl, fun z => by have := of_decide_eq_true z i (by omega); omega⟩, rfl⟩
  refine rn_iload_n (x := v) (q := 1) dX8_content_0 rfl rfl ?_
  refine rn_iload_n (x := c) (q := 2) dX8_content_1 rfl rfl ?_
  refine rn_iload_n (x := (t : Int)) (q := 3) dX8_content_2 rfl rfl ?_
  refine rn_iload_n (x := (o : Int)) (q := 4) dX8_content_3 rfl rfl ?_
  refine rn_callS (as := [.inl v, .inl c, .inl (t : Int), .inl (o : Int)]) (rest := []) (q := 7) dX8_content_4 ml_X8_420 sm_X8_had (by omega) rfl rfl (Nat.le_of_ble_eq_true rfl) rfl (s_had (d := d + 0) v c t o (by omega) (by omega) (by omega) (by omega)) ?_
  intro r4 mem4 hq4
  obtain ⟨rfl, rfl⟩ := hq4
  show am_Rn l G _ _ 7 [some (.inl v), some (.inl c), some (.inl (t : Int)), some (.inl (o : Int)), none, none] [.inl (rsG v c t o)] mem _
  refine rn_istore (ls' := [some (.inl v), some (.inl c), some (.inl (t : Int)), some (.inl (o : Int)), some (.inl (rsG v c t o)), none]) (q := 9) dX8_content_7 (by decide) rfl rfl ?_
  refine rn_iconst (q := 10) dX8_content_9 (am_okd rfl) rfl ?_
  refine rn_istore (ls' := [some (.inl v), some (.inl c), some (.inl (t : Int)), some (.inl (o : Int)), some (.inl (rsG v c t o)), some (.inl 0)]) (q := 12) dX8_content_10 (by decide) rfl rfl ?_
  exact L 0 (by omega) (fun j hj => absurd hj (Nat.not_lt_zero _))
theorem s_gets (v c : Int) (t o : Nat) (hv : 0 ≤ v ∧ v ≤ 20) (hc : 0 ≤ c ∧ c ≤ 5) (ht : t ≤ 9) (ho : o ≤ 9) : am_Sm l G yX9_gets mt_X9_gets d [.inl (t : Int), .inl (o : Int), .inl v, .inl c] mem (am_rr (some (.inl (rsG v c t o))) mem) := by
  refine am_enterQ (ls := [some (.inl (t : Int)), some (.inl (o : Int)), some (.inl v), some (.inl c)]) (by decide) rfl (Nat.le_of_ble_eq_true rfl) rfl (fun hok Q hQ => ?_)
  have hm := rsM hc ht
  have h2 : v.tdiv 2 = v / 2 := Int.tdiv_eq_ediv_of_nonneg hv.1
  refine rn_iload_n (x := (t : Int)) (q := 1) dX9_gets_0 rfl rfl ?_
  refine rn_iload_n (x := (o : Int)) (q := 2) dX9_gets_1 rfl rfl ?_
  refine rn_iaddN (z := ((t + o : Nat) : Int)) (q := 3) dX9_gets_2 (by omega) (by unfold am_ok; omega) rfl ?_
  refine rn_bipush (q := 5) dX9_gets_3 ⟨by decide, by decide⟩ rfl ?_
  refine rn_cmplt (t := 12) (q := 8) dX9_gets_5 rfl rfl (fun w5 => ?_) (fun w5 => ?_)
  · refine rn_iload_n (x := v) (q := 13) dX9_gets_12 rfl rfl ?_
    refine rn_iconst (q := 14) dX9_gets_13 (am_okd rfl) rfl ?_
    refine rn_idivN (z := v / 2) (q := 15) dX9_gets_14 (by decide) h2 (by unfold am_ok; omega) rfl ?_
    refine rn_iload_n (x := (t : Int)) (q := 16) dX9_gets_15 rfl rfl ?_
    refine rn_iload_n (x := c) (q := 17) dX9_gets_16 rfl rfl ?_
    refine rn_imulN (z := c * (t : Int)) (q := 18) dX9_gets_17 (Int.mul_comm _ _) (by rw [Int.mul_comm]; unfold am_ok; omega) rfl ?_
    refine rn_isubN (z := ((v / 2) - (c * (t : Int)))) (q := 19) dX9_gets_18 rfl (by unfold am_ok; omega) rfl ?_
    refine rn_iret dX9_gets_19 rfl ?_
    exact hQ _ _ ⟨by unfold rsG; first | rw [if_pos (by omega)] | rw [if_neg (by omega), h2], rfl⟩
  · refine rn_iload_n (x := v) (q := 9) dX9_gets_8 rfl rfl ?_
    refine rn_goto (t := 15) dX9_gets_9 rfl ?_
    refine rn_iload_n (x := (t : Int)) (q := 16) dX9_gets_15 rfl rfl ?_
    refine rn_iload_n (x := c) (q := 17) dX9_gets_16 rfl rfl ?_
    refine rn_imulN (z := c * (t : Int)) (q := 18) dX9_gets_17 (Int.mul_comm _ _) (by rw [Int.mul_comm]; unfold am_ok; omega) rfl ?_
    refine rn_isubN (z := (v - (c * (t : Int)))) (q := 19) dX9_gets_18 rfl (by unfold am_ok; omega) rfl ?_
    refine rn_iret dX9_gets_19 rfl ?_
    exact hQ _ _ ⟨by unfold rsG; first | rw [if_pos (by omega)] | rw [if_neg (by omega), h2], rfl⟩
theorem s_isBest (v c : Int) (t o : Nat) (hv : 0 ≤ v ∧ v ≤ 20) (hc : 0 ≤ c ∧ c ≤ 5) (ht : t ≤ 9) (ho : o ≤ 9) : am_Sm l G yX9_isBest mt_X9_isBest (d + 1) [.inl (t : Int), .inl (o : Int), .inl v, .inl c] mem (fun q m => ((q = some (.inl 1) ∧ rsB v c t o = true) ∨ (q = some (.inl 0) ∧ ¬ rsB v c t o = true)) ∧ mem = m) := by
  refine am_enterQ (ls := [some (.inl (t : Int)), some (.inl (o : Int)), some (.inl v), some (.inl c), none]) (by decide) rfl (Nat.le_of_ble_eq_true rfl) rfl (fun hok Q hQ => ?_)
  have L : ∀ i : Nat, i ≤ 10 → (∀ j, j < i → rsG v c j o ≤ rsG v c t o) → am_Rn l G mt_X9_isBest (d + 1) 3 [some (.inl (t : Int)), some (.inl (o : Int)), some (.inl v), some (.inl c), some (.inl (i : Int))] [] mem Q := by
    refine am_dn 10 (fun i hi ih hj => ?_)
    refine rn_iload (x := (i : Int)) (q := 5) dX9_isBest_3 rfl rfl ?_
    refine rn_bipush (q := 7) dX9_isBest_5 ⟨by decide, by decide⟩ rfl ?_
    refine rn_cmpgt (t := 36) (q := 10) dX9_isBest_7 rfl rfl (fun w7 => ?_) (fun w7 => ?_)
    · refine rn_iconst (q := 37) dX9_isBest_36 (am_okd rfl) rfl ?_
      refine rn_zret dX9_isBest_37 rfl (by omega) ?_
      exact hQ _ _ ⟨Or.inl ⟨rfl, decide_eq_true (fun t ht => hj t (by omega))⟩, rfl⟩
    · refine rn_iload (x := (i : Int)) (q := 12) dX9_isBest_10 rfl rfl ?_
      refine rn_iload_n (x := (o : Int)) (q := 13) dX9_isBest_12 rfl rfl ?_
      refine rn_iload_n (x := v) (q := 14) dX9_isBest_13 rfl rfl ?_
      refine rn_iload_n (x := c) (q := 15) dX9_isBest_14 rfl rfl ?_
      refine rn_callS (as := [.inl (i : Int), .inl (o : Int), .inl v, .inl c]) (rest := []) (q := 18) dX9_isBest_15 ml_X9_379 sm_X9_gets (by omega) rfl rfl (Nat.le_of_ble_eq_true rfl) rfl (s_gets (d := d + 0) v c i o (by omega) (by omega) (by omega) (by omega)) ?_
      intro r15 mem15 hq15
      obtain ⟨rfl, rfl⟩ := hq15
      show am_Rn l G _ _ 18 [some (.inl (t : Int)), some (.inl (o : Int)), some (.inl v), some (.inl c), some (.inl (i : Int))] [.inl (rsG v c i o)] mem _
      refine rn_iload_n (x := (t : Int)) (q := 19) dX9_isBest_18 rfl rfl ?_
      refine rn_iload_n (x := (o : Int)) (q := 20) dX9_isBest_19 rfl rfl ?_
      refine rn_iload_n (x := v) (q := 21) dX9_isBest_20 rfl rfl ?_
      refine rn_iload_n (x := c) (q := 22) dX9_isBest_21 rfl rfl ?_
      refine rn_callS (as := [.inl (t : Int), .inl (o : Int), .inl v, .inl c]) (rest := [.inl (rsG v c i o)]) (q := 25) dX9_isBest_22 ml_X9_379 sm_X9_gets (by omega) rfl rfl (Nat.le_of_ble_eq_true rfl) rfl (s_gets (d := d + 0) v c t o (by omega) (by omega) (by omega) (by omega)) ?_
      intro r22 mem22 hq22
      obtain ⟨rfl, rfl⟩ := hq22
      show am_Rn l G _ _ 25 [some (.inl (t : Int)), some (.inl (o : Int)), some (.inl v), some (.inl c), some (.inl (i : Int))] [.inl (rsG v c t o), .inl (rsG v c i o)] mem _
      refine rn_cmple (t := 30) (q := 28) dX9_isBest_25 rfl rfl (fun w25 => ?_) (fun w25 => ?_)
      · refine rn_iincN (x := (i : Int)) (z := ((i + 1 : Nat) : Int)) (ls' := [some (.inl (t : Int)), some (.inl (o : Int)), some (.inl v), some (.inl c), some (.inl ((i + 1 : Nat) : Int))]) (q := 33) dX9_isBest_30 rfl (by decide) (by omega) (by unfold am_ok; omega) rfl rfl ?_
        refine rn_goto (t := 3) dX9_isBest_33 rfl ?_
        refine ih (by omega) (fun j hj2 => ?_)
        by_cases e : j = i
        · rw [e]; omega
        · exact hj j (by omega)
      · refine rn_iconst (q := 29) dX9_isBest_28 (am_okd rfl) rfl ?_
        refine rn_zret dX9_isBest_29 rfl (by omega) ?_
        exact hQ _ _ ⟨Or.inr ⟨rfl, fun z => by have := of_decide_eq_true z i (by omega); omega⟩, rfl⟩
  refine rn_iconst (q := 1) dX9_isBest_0 (am_okd rfl) rfl ?_
  refine rn_istore (ls' := [some (.inl (t : Int)), some (.inl (o : Int)), some (.inl v), some (.inl c), some (.inl 0)]) (q := 3) dX9_isBest_1 (by decide) rfl rfl ?_
  exact L 0 (by omega) (fun j hj => absurd hj (Nat.not_lt_zero _))
theorem c_rests {R : List Int} (hR : c_row R mem) (v a b : Int) : am_Sm l G yX8_rests mt_X8_rests (d + 2) [.inr (.inr 1), .inl v, .inl a, .inl b] mem (fun q m => (¬ (0 ≤ v ∧ v ≤ 20 ∧ 0 ≤ a ∧ a ≤ 5 ∧ 0 ≤ b ∧ b ≤ 5) → QC (-1) R mem q m) ∧ (0 ≤ v ∧ v ≤ 20 ∧ 0 ≤ a ∧ a ≤ 5 ∧ 0 ≤ b ∧ b ≤ 5 → QC ((dcO (rsP v a b) (fun _ => 10) 10).1 : Int) (dcO (rsP v a b) (fun _ => 10) 10).2 mem q m)) := by
  refine am_enterQ (ls := [some (.inr (.inr 1)), some (.inl v), some (.inl a), some (.inl b), none, none, none]) (by decide) rfl (Nat.le_of_ble_eq_true rfl) rfl (fun hok Q hQ => ?_)
  have L : 0 ≤ v ∧ v ≤ 20 ∧ 0 ≤ a ∧ a ≤ 5 ∧ 0 ≤ b ∧ b ≤ 5 → ∀ x : Nat, x ≤ 10 → ∀ (m : am_M) (s : Nat) (ly : Option am_V), frS s8r mem m → s = (dcO (rsP v a b) (fun _ => 10) x).1 → c_row (dcO (rsP v a b) (fun _ => 10) x).2 m → am_Rn l G mt_X8_rests (d + 2) 43 [some (.inr (.inr 1)), some (.inl v), some (.inl a), some (.inl b), some (.inl (s : Int)), some (.inl (x : Int)), ly] [] m Q := by
    intro hv
    refine am_dn 10 (fun x hx ih m s ly hf hs hr => ?_)
    have o0 := dcO_ok (P := rsP v a b) (w := fun _ => 10) (fun _ => Nat.le_refl _) x
    have K : x < 10 → ∀ y : Nat, y ≤ 10 → ∀ (m : am_M) (s : Nat), frS s8r mem m → s = (dcI (rsP v a b) x (dcO (rsP v a b) (fun _ => 10) x) y).1 → c_row (dcI (rsP v a b) x (dcO (rsP v a b) (fun _ => 10) x) y).2 m → am_Rn l G mt_X8_rests (d + 2) 53 [some (.inr (.inr 1)), some (.inl v), some (.inl a), some (.inl b), some (.inl (s : Int)), some (.inl (x : Int)), some (.inl (y : Int))] [] m Q := by
      intro hlt
      refine am_dn 10 (fun y hy ih2 m s hf hs hr => ?_)
      have o := dcI_ok (P := rsP v a b) (x := x) o0 y
      refine rn_iload (x := (y : Int)) (q := 55) dX8_rests_53 rfl rfl ?_
      refine rn_bipush (q := 57) dX8_rests_55 ⟨by decide, by decide⟩ rfl ?_
      refine rn_cmpgt (t := 111) (q := 60) dX8_rests_57 rfl rfl (fun w57 => ?_) (fun w57 => ?_)
      · refine rn_iincN (x := (x : Int)) (z := ((x + 1 : Nat) : Int)) (ls' := [some (.inr (.inr 1)), some (.inl v), some (.inl a), some (.inl b), some (.inl (s : Int)), some (.inl ((x + 1 : Nat) : Int)), some (.inl (y : Int))]) (q := 114) dX8_rests_111 rfl (by decide) (by omega) (by unfold am_ok; omega) rfl rfl ?_
        refine rn_goto (t := 43) dX8_rests_114 rfl ?_
        obtain rfl : y = 10 := by omega
        exact ih hlt _ _ _ hf hs hr
      · refine rn_iload_n (x := v) (q := 61) dX8_rests_60 rfl rfl ?_
        refine rn_iload_n (x := a) (q := 62) dX8_rests_61 rfl rfl ?_
        refine rn_iload (x := (x : Int)) (q := 64) dX8_rests_62 rfl rfl ?_
        refine rn_iload (x := (y : Int)) (q := 66) dX8_rests_64 rfl rfl ?_
        refine rn_callS (as := [.inl v, .inl a, .inl (x : Int), .inl (y : Int)]) (rest := []) (q := 69) dX8_rests_66 ml_X8_416 sm_X8_content (by omega) rfl rfl (Nat.le_of_ble_eq_true rfl) rfl (s_content (d := d + 0) v a x y (by omega) (by omega) (by omega) (by omega)) ?_
        intro r66 mem66 hq66
        obtain ⟨⟨rfl, hc66⟩ | ⟨rfl, hc66⟩, rfl⟩ := hq66
        · show am_Rn l G _ _ 69 [some (.inr (.inr 1)), some (.inl v), some (.inl a), some (.inl b), some (.inl (s : Int)), some (.inl (x : Int)), some (.inl (y : Int))] [.inl 1] m _
          refine rn_ifeq (t := 105) (q := 72) dX8_rests_69 rfl rfl (fun h => absurd h (by decide)) (fun w69 => ?_)
          refine rn_iload_n (x := v) (q := 73) dX8_rests_72 rfl rfl ?_
          refine rn_iload_n (x := b) (q := 74) dX8_rests_73 rfl rfl ?_
          refine rn_iload (x := (y : Int)) (q := 76) dX8_rests_74 rfl rfl ?_
          refine rn_iload (x := (x : Int)) (q := 78) dX8_rests_76 rfl rfl ?_
          refine rn_callS (as := [.inl v, .inl b, .inl (y : Int), .inl (x : Int)]) (rest := []) (q := 81) dX8_rests_78 ml_X8_416 sm_X8_content (by omega) rfl rfl (Nat.le_of_ble_eq_true rfl) rfl (s_content (d := d + 0) v b y x (by omega) (by omega) (by omega) (by omega)) ?_
          intro r78 mem78 hq78
          obtain ⟨⟨rfl, hc78⟩ | ⟨rfl, hc78⟩, rfl⟩ := hq78
          · show am_Rn l G _ _ 81 [some (.inr (.inr 1)), some (.inl v), some (.inl a), some (.inl b), some (.inl (s : Int)), some (.inl (x : Int)), some (.inl (y : Int))] [.inl 1] m _
            refine rn_ifeq (t := 105) (q := 84) dX8_rests_81 rfl rfl (fun h => absurd h (by decide)) (fun w81 => ?_)
            refine rn_iload (x := (s : Int)) (q := 86) dX8_rests_84 rfl rfl ?_
            refine rn_ifne (t := 102) (q := 89) dX8_rests_86 rfl rfl (fun w86 => ?_) (fun w86 => ?_)
            · refine rn_iincN (x := (s : Int)) (z := ((s + 1 : Nat) : Int)) (ls' := [some (.inr (.inr 1)), some (.inl v), some (.inl a), some (.inl b), some (.inl ((s + 1 : Nat) : Int)), some (.inl (x : Int)), some (.inl (y : Int))]) (q := 105) dX8_rests_102 rfl (by decide) (by omega) (by unfold am_ok; omega) rfl rfl ?_
              refine rn_iincN (x := (y : Int)) (z := ((y + 1 : Nat) : Int)) (ls' := [some (.inr (.inr 1)), some (.inl v), some (.inl a), some (.inl b), some (.inl ((s + 1 : Nat) : Int)), some (.inl (x : Int)), some (.inl ((y + 1 : Nat) : Int))]) (q := 108) dX8_rests_105 rfl (by decide) (by omega) (by unfold am_ok; omega) rfl rfl ?_
              refine rn_goto (t := 53) dX8_rests_108 rfl ?_
              first | (have e1 : dcI (rsP v a b) x (dcO (rsP v a b) (fun _ => 10) x) (y + 1) = _ := if_pos (by unfold rsP; rw [hc66, hc78]; rfl); first | exact ih2 (by omega) _ _ hf (by rw [e1, hs]) (by rw [e1]; show c_row (if _ then _ else _) _; rw [if_pos (by omega)]; exact hr99) | exact ih2 (by omega) _ _ hf (by rw [e1, hs]) (by rw [e1]; show c_row (if _ then _ else _) _; rw [if_neg (by omega)]; exact hr)) | (have e1 : dcI (rsP v a b) x (dcO (rsP v a b) (fun _ => 10) x) (y + 1) = _ := if_neg (by unfold rsP; intro z; rw [Bool.and_eq_true] at z; first | exact hc66 z.1 | exact hc78 z.2); exact ih2 (by omega) _ _ hf (by rw [e1]; exact hs) (by rw [e1]; exact hr))
            · refine rn_aload_n (x := 0) (q := 90) dX8_rests_89 rfl rfl ?_
              refine rn_get (a := 0) (v := .inr (.inr 4)) (q := 93) dX8_rests_90 fl_X8_19 rfl rfl rfl ?_
              refine rn_iload (x := (x : Int)) (q := 95) dX8_rests_93 rfl rfl ?_
              refine rn_i2l (q := 96) dX8_rests_95 rfl ?_
              refine rn_iload (x := (y : Int)) (q := 98) dX8_rests_96 rfl rfl ?_
              refine rn_i2l (q := 99) dX8_rests_98 rfl ?_
              refine rn_callV (b := 3) (as := [.inr (.inl (x : Int)), .inr (.inl (y : Int))]) (rest := []) (q := 102) dX8_rests_99 ml_X8_229 sm_X3_tell_ rfl rfl (by decide) (by omega) rfl rfl (Nat.le_of_ble_eq_true rfl) rfl (s_Rtell2 (d := d + 0) (x : Int) (y : Int)) ?_
              intro r99 mem99 hq99
              obtain ⟨rfl, hr99, hf99⟩ := hq99
              show am_Rn l G _ _ 102 [some (.inr (.inr 1)), some (.inl v), some (.inl a), some (.inl b), some (.inl (s : Int)), some (.inl (x : Int)), some (.inl (y : Int))] [] mem99 _
              refine rn_iincN (x := (s : Int)) (z := ((s + 1 : Nat) : Int)) (ls' := [some (.inr (.inr 1)), some (.inl v), some (.inl a), some (.inl b), some (.inl ((s + 1 : Nat) : Int)), some (.inl (x : Int)), some (.inl (y : Int))]) (q := 105) dX8_rests_102 rfl (by decide) (by omega) (by unfold am_ok; omega) rfl rfl ?_
              refine rn_iincN (x := (y : Int)) (z := ((y + 1 : Nat) : Int)) (ls' := [some (.inr (.inr 1)), some (.inl v), some (.inl a), some (.inl b), some (.inl ((s + 1 : Nat) : Int)), some (.inl (x : Int)), some (.inl ((y + 1 : Nat) : Int))]) (q := 108) dX8_rests_105 rfl (by decide) (by omega) (by unfold am_ok; omega) rfl rfl ?_
              refine rn_goto (t := 53) dX8_rests_108 rfl ?_
              first | (have e1 : dcI (rsP v a b) x (dcO (rsP v a b) (fun _ => 10) x) (y + 1) = _ := if_pos (by unfold rsP; rw [hc66, hc78]; rfl); first | exact ih2 (by omega) _ _ (hf.tr (fr_row hf99)) (by rw [e1, hs]) (by rw [e1]; show c_row (if _ then _ else _) _; rw [if_pos (by omega)]; exact hr99) | exact ih2 (by omega) _ _ (hf.tr (fr_row hf99)) (by rw [e1, hs]) (by rw [e1]; show c_row (if _ then _ else _) _; rw [if_neg (by omega)]; exact hr)) | (have e1 : dcI (rsP v a b) x (dcO (rsP v a b) (fun _ => 10) x) (y + 1) = _ := if_neg (by unfold rsP; intro z; rw [Bool.and_eq_true] at z; first | exact hc66 z.1 | exact hc78 z.2); exact ih2 (by omega) _ _ (hf.tr (fr_row hf99)) (by rw [e1]; exact hs) (by rw [e1]; exact hr))
          · show am_Rn l G _ _ 81 [some (.inr (.inr 1)), some (.inl v), some (.inl a), some (.inl b), some (.inl (s : Int)), some (.inl (x : Int)), some (.inl (y : Int))] [.inl 0] m _
            refine rn_ifeq (t := 105) (q := 84) dX8_rests_81 rfl rfl (fun w81 => ?_) (fun h => absurd h (by decide))
            refine rn_iincN (x := (y : Int)) (z := ((y + 1 : Nat) : Int)) (ls' := [some (.inr (.inr 1)), some (.inl v), some (.inl a), some (.inl b), some (.inl (s : Int)), some (.inl (x : Int)), some (.inl ((y + 1 : Nat) : Int))]) (q := 108) dX8_rests_105 rfl (by decide) (by omega) (by unfold am_ok; omega) rfl rfl ?_
            refine rn_goto (t := 53) dX8_rests_108 rfl ?_
            first | (have e1 : dcI (rsP v a b) x (dcO (rsP v a b) (fun _ => 10) x) (y + 1) = _ := if_pos (by unfold rsP; rw [hc66, hc78]; rfl); first | exact ih2 (by omega) _ _ hf (by rw [e1, hs]) (by rw [e1]; show c_row (if _ then _ else _) _; rw [if_pos (by omega)]; exact hr99) | exact ih2 (by omega) _ _ hf (by rw [e1, hs]) (by rw [e1]; show c_row (if _ then _ else _) _; rw [if_neg (by omega)]; exact hr)) | (have e1 : dcI (rsP v a b) x (dcO (rsP v a b) (fun _ => 10) x) (y + 1) = _ := if_neg (by unfold rsP; intro z; rw [Bool.and_eq_true] at z; first | exact hc66 z.1 | exact hc78 z.2); exact ih2 (by omega) _ _ hf (by rw [e1]; exact hs) (by rw [e1]; exact hr))
        · show am_Rn l G _ _ 69 [some (.inr (.inr 1)), some (.inl v), some (.inl a), some (.inl b), some (.inl (s : Int)), some (.inl (x : Int)), some (.inl (y : Int))] [.inl 0] m _
          refine rn_ifeq (t := 105) (q := 72) dX8_rests_69 rfl rfl (fun w69 => ?_) (fun h => absurd h (by decide))
          refine rn_iincN (x := (y : Int)) (z := ((y + 1 : Nat) : Int)) (ls' := [some (.inr (.inr 1)), some (.inl v), some (.inl a), some (.inl b), some (.inl (s : Int)), some (.inl (x : Int)), some (.inl ((y + 1 : Nat) : Int))]) (q := 108) dX8_rests_105 rfl (by decide) (by omega) (by unfold am_ok; omega) rfl rfl ?_
          refine rn_goto (t := 53) dX8_rests_108 rfl ?_
          first | (have e1 : dcI (rsP v a b) x (dcO (rsP v a b) (fun _ => 10) x) (y + 1) = _ := if_pos (by unfold rsP; rw [hc66, hc78]; rfl); first | exact ih2 (by omega) _ _ hf (by rw [e1, hs]) (by rw [e1]; show c_row (if _ then _ else _) _; rw [if_pos (by omega)]; exact hr99) | exact ih2 (by omega) _ _ hf (by rw [e1, hs]) (by rw [e1]; show c_row (if _ then _ else _) _; rw [if_neg (by omega)]; exact hr)) | (have e1 : dcI (rsP v a b) x (dcO (rsP v a b) (fun _ => 10) x) (y + 1) = _ := if_neg (by unfold rsP; intro z; rw [Bool.and_eq_true] at z; first | exact hc66 z.1 | exact hc78 z.2); exact ih2 (by omega) _ _ hf (by rw [e1]; exact hs) (by rw [e1]; exact hr))
    refine rn_iload (x := (x : Int)) (q := 45) dX8_rests_43 rfl rfl ?_
    refine rn_bipush (q := 47) dX8_rests_45 ⟨by decide, by decide⟩ rfl ?_
    refine rn_cmpgt (t := 117) (q := 50) dX8_rests_47 rfl rfl (fun w47 => ?_) (fun w47 => ?_)
    · refine rn_iload (x := (s : Int)) (q := 119) dX8_rests_117 rfl rfl ?_
      refine rn_iret dX8_rests_119 rfl ?_
      obtain rfl : x = 10 := by omega
      exact hQ _ _ ⟨fun hn => absurd hv hn, fun _ => ⟨by rw [hs], hf, hr⟩⟩
    · refine rn_iconst (q := 51) dX8_rests_50 (am_okd rfl) rfl ?_
      refine rn_istore (ls' := [some (.inr (.inr 1)), some (.inl v), some (.inl a), some (.inl b), some (.inl (s : Int)), some (.inl (x : Int)), some (.inl 0)]) (q := 53) dX8_rests_51 (by decide) rfl rfl ?_
      exact K (by omega) 0 (by omega) m s hf hs hr
  refine rn_iload_n (x := v) (q := 1) dX8_rests_0 rfl rfl ?_
  refine rn_iflt (t := 28) (q := 4) dX8_rests_1 rfl rfl (fun w1 => ?_) (fun w1 => ?_)
  · refine rn_iconst (q := 29) dX8_rests_28 (am_okd rfl) rfl ?_
    refine rn_iret dX8_rests_29 rfl ?_
    exact hQ _ _ ⟨fun _ => ⟨rfl, frS.rf, hR⟩, fun hn => by omega⟩
  · refine rn_iload_n (x := v) (q := 5) dX8_rests_4 rfl rfl ?_
    refine rn_bipush (q := 7) dX8_rests_5 ⟨by decide, by decide⟩ rfl ?_
    refine rn_cmpgt (t := 28) (q := 10) dX8_rests_7 rfl rfl (fun w7 => ?_) (fun w7 => ?_)
    · refine rn_iconst (q := 29) dX8_rests_28 (am_okd rfl) rfl ?_
      refine rn_iret dX8_rests_29 rfl ?_
      exact hQ _ _ ⟨fun _ => ⟨rfl, frS.rf, hR⟩, fun hn => by omega⟩
    · refine rn_iload_n (x := a) (q := 11) dX8_rests_10 rfl rfl ?_
      refine rn_iflt (t := 28) (q := 14) dX8_rests_11 rfl rfl (fun w11 => ?_) (fun w11 => ?_)
      · refine rn_iconst (q := 29) dX8_rests_28 (am_okd rfl) rfl ?_
        refine rn_iret dX8_rests_29 rfl ?_
        exact hQ _ _ ⟨fun _ => ⟨rfl, frS.rf, hR⟩, fun hn => by omega⟩
      · refine rn_iload_n (x := a) (q := 15) dX8_rests_14 rfl rfl ?_
        refine rn_iconst (q := 16) dX8_rests_15 (am_okd rfl) rfl ?_
        refine rn_cmpgt (t := 28) (q := 19) dX8_rests_16 rfl rfl (fun w16 => ?_) (fun w16 => ?_)
        · refine rn_iconst (q := 29) dX8_rests_28 (am_okd rfl) rfl ?_
          refine rn_iret dX8_rests_29 rfl ?_
          exact hQ _ _ ⟨fun _ => ⟨rfl, frS.rf, hR⟩, fun hn => by omega⟩
        · refine rn_iload_n (x := b) (q := 20) dX8_rests_19 rfl rfl ?_
          refine rn_iflt (t := 28) (q := 23) dX8_rests_20 rfl rfl (fun w20 => ?_) (fun w20 => ?_)
          · refine rn_iconst (q := 29) dX8_rests_28 (am_okd rfl) rfl ?_
            refine rn_iret dX8_rests_29 rfl ?_
            exact hQ _ _ ⟨fun _ => ⟨rfl, frS.rf, hR⟩, fun hn => by omega⟩
          · refine rn_iload_n (x := b) (q := 24) dX8_rests_23 rfl rfl ?_
            refine rn_iconst (q := 25) dX8_rests_24 (am_okd rfl) rfl ?_
            refine rn_cmple (t := 30) (q := 28) dX8_rests_25 rfl rfl (fun w25 => ?_) (fun w25 => ?_)
            · refine rn_iconst (q := 31) dX8_rests_30 (am_okd rfl) rfl ?_
              refine rn_istore (ls' := [some (.inr (.inr 1)), some (.inl v), some (.inl a), some (.inl b), some (.inl 0), none, none]) (q := 33) dX8_rests_31 (by decide) rfl rfl ?_
              refine rn_aload_n (x := 0) (q := 34) dX8_rests_33 rfl rfl ?_
              refine rn_get (a := 0) (v := .inr (.inr 4)) (q := 37) dX8_rests_34 fl_X8_19 rfl rfl rfl ?_
              refine rn_callV (b := 3) (as := []) (rest := []) (q := 40) dX8_rests_37 ml_X8_328 sm_X3_clear rfl rfl (by decide) (by omega) rfl rfl (Nat.le_of_ble_eq_true rfl) rfl (s_Rclear (d := d + 1) ) ?_
              intro r37 mem37 hq37
              obtain ⟨rfl, rfl⟩ := hq37
              show am_Rn l G _ _ 40 [some (.inr (.inr 1)), some (.inl v), some (.inl a), some (.inl b), some (.inl 0), none, none] [] (am_up mem 3 1 0) _
              refine rn_iconst (q := 41) dX8_rests_40 (am_okd rfl) rfl ?_
              refine rn_istore (ls' := [some (.inr (.inr 1)), some (.inl v), some (.inl a), some (.inl b), some (.inl 0), some (.inl 0), none]) (q := 43) dX8_rests_41 (by decide) rfl rfl ?_
              exact L (by omega) 0 (by omega) _ 0 _ (frS.up (a := 3) (k := 1) (x := 0) frS.rf rfl) rfl c_row0
            · refine rn_iconst (q := 29) dX8_rests_28 (am_okd rfl) rfl ?_
              refine rn_iret dX8_rests_29 rfl ?_
              exact hQ _ _ ⟨fun _ => ⟨rfl, frS.rf, hR⟩, fun hn => by omega⟩
theorem m_rests {R : List Int} (hR : m_row R mem) (v a b : Int) : am_Sm l G yX9_rests mt_X9_rests (d + 2) [.inr (.inr 96), .inl v, .inl a, .inl b] mem (fun q m => (¬ (0 ≤ v ∧ v ≤ 20 ∧ 0 ≤ a ∧ a ≤ 5 ∧ 0 ≤ b ∧ b ≤ 5) → QM (-1) R mem q m) ∧ (0 ≤ v ∧ v ≤ 20 ∧ 0 ≤ a ∧ a ≤ 5 ∧ 0 ≤ b ∧ b ≤ 5 → QM ((dcO (rsP v a b) (fun _ => 10) 10).1 : Int) (dcO (rsP v a b) (fun _ => 10) 10).2 mem q m)) := by
  refine am_enterQ (ls := [some (.inr (.inr 96)), some (.inl v), some (.inl a), some (.inl b), none, none, none]) (by decide) rfl (Nat.le_of_ble_eq_true rfl) rfl (fun hok Q hQ => ?_)
  have L : 0 ≤ v ∧ v ≤ 20 ∧ 0 ≤ a ∧ a ≤ 5 ∧ 0 ≤ b ∧ b ≤ 5 → ∀ x : Nat, x ≤ 10 → ∀ (m : am_M) (s : Nat) (ly : Option am_V), frS s9r mem m → s = (dcO (rsP v a b) (fun _ => 10) x).1 → m_row (dcO (rsP v a b) (fun _ => 10) x).2 m → am_Rn l G mt_X9_rests (d + 2) 46 [some (.inr (.inr 96)), some (.inl v), some (.inl a), some (.inl b), some (.inl (s : Int)), some (.inl (x : Int)), ly] [] m Q := by
    intro hv
    refine am_dn 10 (fun x hx ih m s ly hf hs hr => ?_)
    have o0 := dcO_ok (P := rsP v a b) (w := fun _ => 10) (fun _ => Nat.le_refl _) x
    have K : x < 10 → ∀ y : Nat, y ≤ 10 → ∀ (m : am_M) (s : Nat), frS s9r mem m → s = (dcI (rsP v a b) x (dcO (rsP v a b) (fun _ => 10) x) y).1 → m_row (dcI (rsP v a b) x (dcO (rsP v a b) (fun _ => 10) x) y).2 m → am_Rn l G mt_X9_rests (d + 2) 56 [some (.inr (.inr 96)), some (.inl v), some (.inl a), some (.inl b), some (.inl (s : Int)), some (.inl (x : Int)), some (.inl (y : Int))] [] m Q := by
      intro hlt
      refine am_dn 10 (fun y hy ih2 m s hf hs hr => ?_)
      have o := dcI_ok (P := rsP v a b) (x := x) o0 y
      refine rn_iload (x := (y : Int)) (q := 58) dX9_rests_56 rfl rfl ?_
      refine rn_bipush (q := 60) dX9_rests_58 ⟨by decide, by decide⟩ rfl ?_
      refine rn_cmpgt (t := 118) (q := 63) dX9_rests_60 rfl rfl (fun w60 => ?_) (fun w60 => ?_)
      · refine rn_iincN (x := (x : Int)) (z := ((x + 1 : Nat) : Int)) (ls' := [some (.inr (.inr 96)), some (.inl v), some (.inl a), some (.inl b), some (.inl (s : Int)), some (.inl ((x + 1 : Nat) : Int)), some (.inl (y : Int))]) (q := 121) dX9_rests_118 rfl (by decide) (by omega) (by unfold am_ok; omega) rfl rfl ?_
        refine rn_goto (t := 46) dX9_rests_121 rfl ?_
        obtain rfl : y = 10 := by omega
        exact ih hlt _ _ _ hf hs hr
      · refine rn_iload (x := (x : Int)) (q := 65) dX9_rests_63 rfl rfl ?_
        refine rn_iload (x := (y : Int)) (q := 67) dX9_rests_65 rfl rfl ?_
        refine rn_iload_n (x := v) (q := 68) dX9_rests_67 rfl rfl ?_
        refine rn_iload_n (x := a) (q := 69) dX9_rests_68 rfl rfl ?_
        refine rn_callS (as := [.inl (x : Int), .inl (y : Int), .inl v, .inl a]) (rest := []) (q := 72) dX9_rests_69 ml_X9_383 sm_X9_isBest (by omega) rfl rfl (Nat.le_of_ble_eq_true rfl) rfl (s_isBest (d := d + 0) v a x y (by omega) (by omega) (by omega) (by omega)) ?_
        intro r69 mem69 hq69
        obtain ⟨⟨rfl, hc69⟩ | ⟨rfl, hc69⟩, rfl⟩ := hq69
        · show am_Rn l G _ _ 72 [some (.inr (.inr 96)), some (.inl v), some (.inl a), some (.inl b), some (.inl (s : Int)), some (.inl (x : Int)), some (.inl (y : Int))] [.inl 1] m _
          refine rn_ifeq (t := 112) (q := 75) dX9_rests_72 rfl rfl (fun h => absurd h (by decide)) (fun w72 => ?_)
          refine rn_iload (x := (y : Int)) (q := 77) dX9_rests_75 rfl rfl ?_
          refine rn_iload (x := (x : Int)) (q := 79) dX9_rests_77 rfl rfl ?_
          refine rn_iload_n (x := v) (q := 80) dX9_rests_79 rfl rfl ?_
          refine rn_iload_n (x := b) (q := 81) dX9_rests_80 rfl rfl ?_
          refine rn_callS (as := [.inl (y : Int), .inl (x : Int), .inl v, .inl b]) (rest := []) (q := 84) dX9_rests_81 ml_X9_383 sm_X9_isBest (by omega) rfl rfl (Nat.le_of_ble_eq_true rfl) rfl (s_isBest (d := d + 0) v b y x (by omega) (by omega) (by omega) (by omega)) ?_
          intro r81 mem81 hq81
          obtain ⟨⟨rfl, hc81⟩ | ⟨rfl, hc81⟩, rfl⟩ := hq81
          · show am_Rn l G _ _ 84 [some (.inr (.inr 96)), some (.inl v), some (.inl a), some (.inl b), some (.inl (s : Int)), some (.inl (x : Int)), some (.inl (y : Int))] [.inl 1] m _
            refine rn_ifne (t := 90) (q := 87) dX9_rests_84 rfl rfl (fun w84 => ?_) (fun h => absurd h (by decide))
            refine rn_iload (x := (s : Int)) (q := 92) dX9_rests_90 rfl rfl ?_
            refine rn_ifne (t := 109) (q := 95) dX9_rests_92 rfl rfl (fun w92 => ?_) (fun w92 => ?_)
            · refine rn_iincN (x := (s : Int)) (z := ((s + 1 : Nat) : Int)) (ls' := [some (.inr (.inr 96)), some (.inl v), some (.inl a), some (.inl b), some (.inl ((s + 1 : Nat) : Int)), some (.inl (x : Int)), some (.inl (y : Int))]) (q := 112) dX9_rests_109 rfl (by decide) (by omega) (by unfold am_ok; omega) rfl rfl ?_
              refine rn_iincN (x := (y : Int)) (z := ((y + 1 : Nat) : Int)) (ls' := [some (.inr (.inr 96)), some (.inl v), some (.inl a), some (.inl b), some (.inl ((s + 1 : Nat) : Int)), some (.inl (x : Int)), some (.inl ((y + 1 : Nat) : Int))]) (q := 115) dX9_rests_112 rfl (by decide) (by omega) (by unfold am_ok; omega) rfl rfl ?_
              refine rn_goto (t := 56) dX9_rests_115 rfl ?_
              first | (have e1 : dcI (rsP v a b) x (dcO (rsP v a b) (fun _ => 10) x) (y + 1) = _ := if_pos (by unfold rsP; rw [hc69, hc81]; rfl); first | exact ih2 (by omega) _ _ hf (by rw [e1, hs]) (by rw [e1]; show m_row (if _ then _ else _) _; rw [if_pos (by omega)]; exact hr106) | exact ih2 (by omega) _ _ hf (by rw [e1, hs]) (by rw [e1]; show m_row (if _ then _ else _) _; rw [if_neg (by omega)]; exact hr)) | (have e1 : dcI (rsP v a b) x (dcO (rsP v a b) (fun _ => 10) x) (y + 1) = _ := if_neg (by unfold rsP; intro z; rw [Bool.and_eq_true] at z; first | exact hc69 z.1 | exact hc81 z.2); exact ih2 (by omega) _ _ hf (by rw [e1]; exact hs) (by rw [e1]; exact hr))
            · refine rn_aload_n (x := 95) (q := 96) dX9_rests_95 rfl rfl ?_
              refine rn_iload (x := (x : Int)) (q := 98) dX9_rests_96 rfl rfl ?_
              refine rn_i2l (q := 99) dX9_rests_98 rfl ?_
              refine rn_callV (b := 95) (as := [.inr (.inl (x : Int))]) (rest := []) (q := 102) dX9_rests_99 ml_X9_275 sm_X9_tell rfl rfl (by decide) (by omega) rfl rfl (Nat.le_of_ble_eq_true rfl) rfl (m_tell (d := d + 1) (show m_row [] m by rw [← o.2 (by omega)]; exact hr) (by decide) (x : Int)) ?_
              intro r99 mem99 hq99
              obtain ⟨rfl, hr99, hf99⟩ := hq99
              show am_Rn l G _ _ 102 [some (.inr (.inr 96)), some (.inl v), some (.inl a), some (.inl b), some (.inl (s : Int)), some (.inl (x : Int)), some (.inl (y : Int))] [] mem99 _
              refine rn_aload_n (x := 95) (q := 103) dX9_rests_102 rfl rfl ?_
              refine rn_iload (x := (y : Int)) (q := 105) dX9_rests_103 rfl rfl ?_
              refine rn_i2l (q := 106) dX9_rests_105 rfl ?_
              refine rn_callV (b := 95) (as := [.inr (.inl (y : Int))]) (rest := []) (q := 109) dX9_rests_106 ml_X9_275 sm_X9_tell rfl rfl (by decide) (by omega) rfl rfl (Nat.le_of_ble_eq_true rfl) rfl (m_tell (d := d + 1) hr99 (by simp) (y : Int)) ?_
              intro r106 mem106 hq106
              obtain ⟨rfl, hr106, hf106⟩ := hq106
              show am_Rn l G _ _ 109 [some (.inr (.inr 96)), some (.inl v), some (.inl a), some (.inl b), some (.inl (s : Int)), some (.inl (x : Int)), some (.inl (y : Int))] [] mem106 _
              refine rn_iincN (x := (s : Int)) (z := ((s + 1 : Nat) : Int)) (ls' := [some (.inr (.inr 96)), some (.inl v), some (.inl a), some (.inl b), some (.inl ((s + 1 : Nat) : Int)), some (.inl (x : Int)), some (.inl (y : Int))]) (q := 112) dX9_rests_109 rfl (by decide) (by omega) (by unfold am_ok; omega) rfl rfl ?_
              refine rn_iincN (x := (y : Int)) (z := ((y + 1 : Nat) : Int)) (ls' := [some (.inr (.inr 96)), some (.inl v), some (.inl a), some (.inl b), some (.inl ((s + 1 : Nat) : Int)), some (.inl (x : Int)), some (.inl ((y + 1 : Nat) : Int))]) (q := 115) dX9_rests_112 rfl (by decide) (by omega) (by unfold am_ok; omega) rfl rfl ?_
              refine rn_goto (t := 56) dX9_rests_115 rfl ?_
              first | (have e1 : dcI (rsP v a b) x (dcO (rsP v a b) (fun _ => 10) x) (y + 1) = _ := if_pos (by unfold rsP; rw [hc69, hc81]; rfl); first | exact ih2 (by omega) _ _ ((hf.tr hf99).tr hf106) (by rw [e1, hs]) (by rw [e1]; show m_row (if _ then _ else _) _; rw [if_pos (by omega)]; exact hr106) | exact ih2 (by omega) _ _ ((hf.tr hf99).tr hf106) (by rw [e1, hs]) (by rw [e1]; show m_row (if _ then _ else _) _; rw [if_neg (by omega)]; exact hr)) | (have e1 : dcI (rsP v a b) x (dcO (rsP v a b) (fun _ => 10) x) (y + 1) = _ := if_neg (by unfold rsP; intro z; rw [Bool.and_eq_true] at z; first | exact hc69 z.1 | exact hc81 z.2); exact ih2 (by omega) _ _ ((hf.tr hf99).tr hf106) (by rw [e1]; exact hs) (by rw [e1]; exact hr))
          · show am_Rn l G _ _ 84 [some (.inr (.inr 96)), some (.inl v), some (.inl a), some (.inl b), some (.inl (s : Int)), some (.inl (x : Int)), some (.inl (y : Int))] [.inl 0] m _
            refine rn_ifne (t := 90) (q := 87) dX9_rests_84 rfl rfl (fun h => absurd h (by decide)) (fun w84 => ?_)
            refine rn_goto (t := 112) dX9_rests_87 rfl ?_
            refine rn_iincN (x := (y : Int)) (z := ((y + 1 : Nat) : Int)) (ls' := [some (.inr (.inr 96)), some (.inl v), some (.inl a), some (.inl b), some (.inl (s : Int)), some (.inl (x : Int)), some (.inl ((y + 1 : Nat) : Int))]) (q := 115) dX9_rests_112 rfl (by decide) (by omega) (by unfold am_ok; omega) rfl rfl ?_
            refine rn_goto (t := 56) dX9_rests_115 rfl ?_
            first | (have e1 : dcI (rsP v a b) x (dcO (rsP v a b) (fun _ => 10) x) (y + 1) = _ := if_pos (by unfold rsP; rw [hc69, hc81]; rfl); first | exact ih2 (by omega) _ _ hf (by rw [e1, hs]) (by rw [e1]; show m_row (if _ then _ else _) _; rw [if_pos (by omega)]; exact hr106) | exact ih2 (by omega) _ _ hf (by rw [e1, hs]) (by rw [e1]; show m_row (if _ then _ else _) _; rw [if_neg (by omega)]; exact hr)) | (have e1 : dcI (rsP v a b) x (dcO (rsP v a b) (fun _ => 10) x) (y + 1) = _ := if_neg (by unfold rsP; intro z; rw [Bool.and_eq_true] at z; first | exact hc69 z.1 | exact hc81 z.2); exact ih2 (by omega) _ _ hf (by rw [e1]; exact hs) (by rw [e1]; exact hr))
        · show am_Rn l G _ _ 72 [some (.inr (.inr 96)), some (.inl v), some (.inl a), some (.inl b), some (.inl (s : Int)), some (.inl (x : Int)), some (.inl (y : Int))] [.inl 0] m _
          refine rn_ifeq (t := 112) (q := 75) dX9_rests_72 rfl rfl (fun w72 => ?_) (fun h => absurd h (by decide))
          refine rn_iincN (x := (y : Int)) (z := ((y + 1 : Nat) : Int)) (ls' := [some (.inr (.inr 96)), some (.inl v), some (.inl a), some (.inl b), some (.inl (s : Int)), some (.inl (x : Int)), some (.inl ((y + 1 : Nat) : Int))]) (q := 115) dX9_rests_112 rfl (by decide) (by omega) (by unfold am_ok; omega) rfl rfl ?_
          refine rn_goto (t := 56) dX9_rests_115 rfl ?_
          first | (have e1 : dcI (rsP v a b) x (dcO (rsP v a b) (fun _ => 10) x) (y + 1) = _ := if_pos (by unfold rsP; rw [hc69, hc81]; rfl); first | exact ih2 (by omega) _ _ hf (by rw [e1, hs]) (by rw [e1]; show m_row (if _ then _ else _) _; rw [if_pos (by omega)]; exact hr106) | exact ih2 (by omega) _ _ hf (by rw [e1, hs]) (by rw [e1]; show m_row (if _ then _ else _) _; rw [if_neg (by omega)]; exact hr)) | (have e1 : dcI (rsP v a b) x (dcO (rsP v a b) (fun _ => 10) x) (y + 1) = _ := if_neg (by unfold rsP; intro z; rw [Bool.and_eq_true] at z; first | exact hc69 z.1 | exact hc81 z.2); exact ih2 (by omega) _ _ hf (by rw [e1]; exact hs) (by rw [e1]; exact hr))
    refine rn_iload (x := (x : Int)) (q := 48) dX9_rests_46 rfl rfl ?_
    refine rn_bipush (q := 50) dX9_rests_48 ⟨by decide, by decide⟩ rfl ?_
    refine rn_cmpgt (t := 124) (q := 53) dX9_rests_50 rfl rfl (fun w50 => ?_) (fun w50 => ?_)
    · refine rn_iload (x := (s : Int)) (q := 126) dX9_rests_124 rfl rfl ?_
      refine rn_iret dX9_rests_126 rfl ?_
      obtain rfl : x = 10 := by omega
      exact hQ _ _ ⟨fun hn => absurd hv hn, fun _ => ⟨by rw [hs], hf, hr⟩⟩
    · refine rn_iconst (q := 54) dX9_rests_53 (am_okd rfl) rfl ?_
      refine rn_istore (ls' := [some (.inr (.inr 96)), some (.inl v), some (.inl a), some (.inl b), some (.inl (s : Int)), some (.inl (x : Int)), some (.inl 0)]) (q := 56) dX9_rests_54 (by decide) rfl rfl ?_
      exact K (by omega) 0 (by omega) m s hf hs hr
  refine rn_aload_n (x := 95) (q := 1) dX9_rests_0 rfl rfl ?_
  refine rn_iconst (q := 2) dX9_rests_1 (am_okd rfl) rfl ?_
  refine rn_puti (a := 95) (q := 5) dX9_rests_2 fl_X9_107 rfl rfl rfl rfl ?_
  refine rn_iload_n (x := v) (q := 6) dX9_rests_5 rfl rfl ?_
  refine rn_iconst (q := 7) dX9_rests_6 (am_okd rfl) rfl ?_
  refine rn_bipush (q := 9) dX9_rests_7 ⟨by decide, by decide⟩ rfl ?_
  refine rn_callS (as := [.inl v, .inl 0, .inl 20]) (rest := []) (q := 12) dX9_rests_9 ml_X9_116 sm_X9_in (by omega) rfl rfl (Nat.le_of_ble_eq_true rfl) rfl (s_in9 (d := d + 1) v 0 20) ?_
  intro r9 mem9 hq9
  obtain ⟨⟨rfl, hi9⟩ | ⟨rfl, hi9⟩, rfl⟩ := hq9
  · show am_Rn l G _ _ 12 [some (.inr (.inr 96)), some (.inl v), some (.inl a), some (.inl b), none, none, none] [.inl 1] (am_up mem 95 11 0) _
    refine rn_ifeq (t := 33) (q := 15) dX9_rests_12 rfl rfl (fun h => absurd h (by decide)) (fun w12 => ?_)
    refine rn_iload_n (x := a) (q := 16) dX9_rests_15 rfl rfl ?_
    refine rn_iconst (q := 17) dX9_rests_16 (am_okd rfl) rfl ?_
    refine rn_iconst (q := 18) dX9_rests_17 (am_okd rfl) rfl ?_
    refine rn_callS (as := [.inl a, .inl 0, .inl 5]) (rest := []) (q := 21) dX9_rests_18 ml_X9_116 sm_X9_in (by omega) rfl rfl (Nat.le_of_ble_eq_true rfl) rfl (s_in9 (d := d + 1) a 0 5) ?_
    intro r18 mem18 hq18
    obtain ⟨⟨rfl, hi18⟩ | ⟨rfl, hi18⟩, rfl⟩ := hq18
    · show am_Rn l G _ _ 21 [some (.inr (.inr 96)), some (.inl v), some (.inl a), some (.inl b), none, none, none] [.inl 1] (am_up mem 95 11 0) _
      refine rn_ifeq (t := 33) (q := 24) dX9_rests_21 rfl rfl (fun h => absurd h (by decide)) (fun w21 => ?_)
      refine rn_iload_n (x := b) (q := 25) dX9_rests_24 rfl rfl ?_
      refine rn_iconst (q := 26) dX9_rests_25 (am_okd rfl) rfl ?_
      refine rn_iconst (q := 27) dX9_rests_26 (am_okd rfl) rfl ?_
      refine rn_callS (as := [.inl b, .inl 0, .inl 5]) (rest := []) (q := 30) dX9_rests_27 ml_X9_116 sm_X9_in (by omega) rfl rfl (Nat.le_of_ble_eq_true rfl) rfl (s_in9 (d := d + 1) b 0 5) ?_
      intro r27 mem27 hq27
      obtain ⟨⟨rfl, hi27⟩ | ⟨rfl, hi27⟩, rfl⟩ := hq27
      · show am_Rn l G _ _ 30 [some (.inr (.inr 96)), some (.inl v), some (.inl a), some (.inl b), none, none, none] [.inl 1] (am_up mem 95 11 0) _
        refine rn_ifne (t := 35) (q := 33) dX9_rests_30 rfl rfl (fun w30 => ?_) (fun h => absurd h (by decide))
        refine rn_iconst (q := 36) dX9_rests_35 (am_okd rfl) rfl ?_
        refine rn_istore (ls' := [some (.inr (.inr 96)), some (.inl v), some (.inl a), some (.inl b), some (.inl 0), none, none]) (q := 38) dX9_rests_36 (by decide) rfl rfl ?_
        refine rn_aload_n (x := 95) (q := 39) dX9_rests_38 rfl rfl ?_
        refine rn_iconst (q := 40) dX9_rests_39 (am_okd rfl) rfl ?_
        refine rn_puti (a := 95) (q := 43) dX9_rests_40 fl_X9_110 rfl rfl rfl rfl ?_
        refine rn_iconst (q := 44) dX9_rests_43 (am_okd rfl) rfl ?_
        refine rn_istore (ls' := [some (.inr (.inr 96)), some (.inl v), some (.inl a), some (.inl b), some (.inl 0), some (.inl 0), none]) (q := 46) dX9_rests_44 (by decide) rfl rfl ?_
        exact L (by omega) 0 (by omega) _ 0 _ (frS.up (a := 95) (k := 10) (x := 0) (frS.up (a := 95) (k := 11) (x := 0) frS.rf rfl) rfl) rfl m_row0
      · show am_Rn l G _ _ 30 [some (.inr (.inr 96)), some (.inl v), some (.inl a), some (.inl b), none, none, none] [.inl 0] (am_up mem 95 11 0) _
        refine rn_ifne (t := 35) (q := 33) dX9_rests_30 rfl rfl (fun h => absurd h (by decide)) (fun w30 => ?_)
        refine rn_iconst (q := 34) dX9_rests_33 (am_okd rfl) rfl ?_
        refine rn_iret dX9_rests_34 rfl ?_
        exact hQ _ _ ⟨fun _ => ⟨rfl, (frS.up (a := 95) (k := 11) (x := 0) frS.rf rfl), hR.kept (frS.rf.up rfl)⟩, fun hn => by omega⟩
    · show am_Rn l G _ _ 21 [some (.inr (.inr 96)), some (.inl v), some (.inl a), some (.inl b), none, none, none] [.inl 0] (am_up mem 95 11 0) _
      refine rn_ifeq (t := 33) (q := 24) dX9_rests_21 rfl rfl (fun w21 => ?_) (fun h => absurd h (by decide))
      refine rn_iconst (q := 34) dX9_rests_33 (am_okd rfl) rfl ?_
      refine rn_iret dX9_rests_34 rfl ?_
      exact hQ _ _ ⟨fun _ => ⟨rfl, (frS.up (a := 95) (k := 11) (x := 0) frS.rf rfl), hR.kept (frS.rf.up rfl)⟩, fun hn => by omega⟩
  · show am_Rn l G _ _ 12 [some (.inr (.inr 96)), some (.inl v), some (.inl a), some (.inl b), none, none, none] [.inl 0] (am_up mem 95 11 0) _
    refine rn_ifeq (t := 33) (q := 15) dX9_rests_12 rfl rfl (fun w12 => ?_) (fun h => absurd h (by decide))
    refine rn_iconst (q := 34) dX9_rests_33 (am_okd rfl) rfl ?_
    refine rn_iret dX9_rests_34 rfl ?_
    exact hQ _ _ ⟨fun _ => ⟨rfl, (frS.up (a := 95) (k := 11) (x := 0) frS.rf rfl), hR.kept (frS.rf.up rfl)⟩, fun hn => by omega⟩
end P56
