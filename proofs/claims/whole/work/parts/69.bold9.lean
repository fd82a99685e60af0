/-! the reference's bold -/
section P69
variable {l : Launch} {G : am_G} {d : Nat} {r : Nat} {X : List Nat} {C : List Int} {sn : Nat} {sg : Nat → Nat} {h : hrs} {e : est} {NB : Nat} {mem m : am_M}
theorem m_luckOf {B : Nat → Nat} (t : Nat) (ht : t ≤ 8) (hB : ∀ c, c ≤ 20 → mem 117 (21 * t + c) = (B c : Int)) (c : Nat) (hc : c ≤ 1000) : am_Sm l G yX9_luckOf mt_X9_luckOf d [.inr (.inr 96), .inl (t : Int), .inl (c : Int)] mem (am_rr (some (.inr (.inl (B (min 20 c) : Int)))) mem) := by
  refine am_enterQ (ls := [some (.inr (.inr 96)), some (.inl (t : Int)), some (.inl (c : Int))]) (by decide) rfl (Nat.le_of_ble_eq_true rfl) rfl (fun hok Q hQ => ?_)
  refine rn_aload_n (x := 95) (q := 1) dX9_luckOf_0 rfl rfl ?_
  refine rn_get (a := 95) (v := .inr (.inr 118)) (q := 4) dX9_luckOf_1 fl_X9_79 rfl rfl rfl ?_
  refine rn_bipush (q := 6) dX9_luckOf_4 ⟨by decide, by decide⟩ rfl ?_
  refine rn_iload_n (x := (t : Int)) (q := 7) dX9_luckOf_6 rfl rfl ?_
  refine rn_imulN (z := ((21 * t : Nat) : Int)) (q := 8) dX9_luckOf_7 (by omega) (by unfold am_ok; omega) rfl ?_
  refine rn_bipush (q := 10) dX9_luckOf_8 ⟨by decide, by decide⟩ rfl ?_
  refine rn_iload_n (x := (c : Int)) (q := 11) dX9_luckOf_10 rfl rfl ?_
  refine rn_mmin (q := 14) dX9_luckOf_11 am_mm_X9_225 am_mminw (Nat.le_of_ble_eq_true rfl) rfl ?_
  rw [show (min 20 (c : Int)) = ((min 20 c : Nat) : Int) from (by omega)]
  refine rn_iaddN (z := (((21 * t) + (min 20 c) : Nat) : Int)) (q := 15) dX9_luckOf_14 (by omega) (by unfold am_ok; omega) rfl ?_
  refine rn_laldV (a := 117) (v := (B (min 20 c) : Int)) (q := 16) dX9_luckOf_15 rfl (by omega) (by omega) (hB (min 20 c) (by omega)) rfl ?_
  refine rn_lret dX9_luckOf_16 rfl ?_
  exact hQ _ _ ⟨rfl, rfl⟩
theorem m_luckBy {B : Nat → Nat} (t : Nat) (ht : t ≤ 7) (hB : ∀ c, c ≤ 20 → mem 117 (21 * t + c) = (B c : Int)) (hM : ∀ c, B c ≤ 10000000) (s c p : Nat) (hs : s ≤ c) (hc : c ≤ 20) (hp : p ≤ 10) : am_Sm l G yX9_luckBy mt_X9_luckBy (d + 1) [.inr (.inr 96), .inl ((t + 1 : Nat) : Int), .inl (c : Int), .inl (s : Int), .inl (p : Int)] mem (am_rr (some (.inr (.inl (chF B p s c : Int)))) mem) := by
  refine am_enterQ (ls := [some (.inr (.inr 96)), some (.inl ((t + 1 : Nat) : Int)), some (.inl (c : Int)), some (.inl (s : Int)), some (.inl (p : Int))]) (by decide) rfl (Nat.le_of_ble_eq_true rfl) rfl (fun hok Q hQ => ?_)
  obtain ⟨x1, a1, a2, -, a3⟩ := mul10 (hM (min 20 (c + s))) hp
  obtain ⟨x2, b1, b2, -, b3⟩ := mul10 (hM (c - s)) (show 10 - p ≤ 10 by omega)
  have e20 : min 20 (c - s) = c - s := by omega
  refine rn_iload (x := (p : Int)) (q := 2) dX9_luckBy_0 rfl rfl ?_
  refine rn_i2l (q := 3) dX9_luckBy_2 rfl ?_
  refine rn_aload_n (x := 95) (q := 4) dX9_luckBy_3 rfl rfl ?_
  refine rn_iload_n (x := ((t + 1 : Nat) : Int)) (q := 5) dX9_luckBy_4 rfl rfl ?_
  refine rn_iconst (q := 6) dX9_luckBy_5 (am_okd rfl) rfl ?_
  refine rn_isubN (z := (t : Int)) (q := 7) dX9_luckBy_6 (by omega) (by unfold am_ok; omega) rfl ?_
  refine rn_iload_n (x := (c : Int)) (q := 8) dX9_luckBy_7 rfl rfl ?_
  refine rn_iload_n (x := (s : Int)) (q := 9) dX9_luckBy_8 rfl rfl ?_
  refine rn_iaddN (z := ((c + s : Nat) : Int)) (q := 10) dX9_luckBy_9 (by omega) (by unfold am_ok; omega) rfl ?_
  refine rn_callV (b := 95) (as := [.inl (t : Int), .inl ((c + s : Nat) : Int)]) (rest := [.inr (.inl (p : Int))]) (q := 13) dX9_luckBy_10 ml_X9_328 sm_X9_luckOf rfl rfl (by decide) (by omega) rfl rfl (Nat.le_of_ble_eq_true rfl) rfl (m_luckOf (d := d + 0) t (by omega) hB (c + s) (by omega)) ?_
  intro r10 mem10 hq10
  obtain ⟨rfl, rfl⟩ := hq10
  show am_Rn l G _ _ 13 [some (.inr (.inr 96)), some (.inl ((t + 1 : Nat) : Int)), some (.inl (c : Int)), some (.inl (s : Int)), some (.inl (p : Int))] [.inr (.inl (B (min 20 (c + s)) : Int)), .inr (.inl (p : Int))] mem _
  refine rn_lmulN (z := (x1 : Int)) (q := 14) dX9_luckBy_13 a3 (by rw [a3]; unfold am_okl; omega) rfl ?_
  refine rn_bipush (q := 16) dX9_luckBy_14 ⟨by decide, by decide⟩ rfl ?_
  refine rn_iload (x := (p : Int)) (q := 18) dX9_luckBy_16 rfl rfl ?_
  refine rn_isubN (z := ((10 - p : Nat) : Int)) (q := 19) dX9_luckBy_18 (by omega) (by unfold am_ok; omega) rfl ?_
  refine rn_i2l (q := 20) dX9_luckBy_19 rfl ?_
  refine rn_aload_n (x := 95) (q := 21) dX9_luckBy_20 rfl rfl ?_
  refine rn_iload_n (x := ((t + 1 : Nat) : Int)) (q := 22) dX9_luckBy_21 rfl rfl ?_
  refine rn_iconst (q := 23) dX9_luckBy_22 (am_okd rfl) rfl ?_
  refine rn_isubN (z := (t : Int)) (q := 24) dX9_luckBy_23 (by omega) (by unfold am_ok; omega) rfl ?_
  refine rn_iload_n (x := (c : Int)) (q := 25) dX9_luckBy_24 rfl rfl ?_
  refine rn_iload_n (x := (s : Int)) (q := 26) dX9_luckBy_25 rfl rfl ?_
  refine rn_isubN (z := ((c - s : Nat) : Int)) (q := 27) dX9_luckBy_26 (by omega) (by unfold am_ok; omega) rfl ?_
  refine rn_callV (b := 95) (as := [.inl (t : Int), .inl ((c - s : Nat) : Int)]) (rest := [.inr (.inl ((10 - p : Nat) : Int)), .inr (.inl (x1 : Int))]) (q := 30) dX9_luckBy_27 ml_X9_328 sm_X9_luckOf rfl rfl (by decide) (by omega) rfl rfl (Nat.le_of_ble_eq_true rfl) rfl (m_luckOf (d := d + 0) t (by omega) hB (c - s) (by omega)) ?_
  intro r27 mem27 hq27
  obtain ⟨rfl, rfl⟩ := hq27
  show am_Rn l G _ _ 30 [some (.inr (.inr 96)), some (.inl ((t + 1 : Nat) : Int)), some (.inl (c : Int)), some (.inl (s : Int)), some (.inl (p : Int))] [.inr (.inl (B (min 20 (c - s)) : Int)), .inr (.inl ((10 - p : Nat) : Int)), .inr (.inl (x1 : Int))] mem _
  rw [e20]
  refine rn_lmulN (z := (x2 : Int)) (q := 31) dX9_luckBy_30 b3 (by rw [b3]; unfold am_okl; omega) rfl ?_
  refine rn_laddN (z := ((x1 + x2 : Nat) : Int)) (q := 32) dX9_luckBy_31 (by omega) (by unfold am_okl; omega) rfl ?_
  refine rn_lret dX9_luckBy_32 rfl ?_
  exact hQ _ _ ⟨by rw [a2, b2]; rfl, rfl⟩
theorem m_bold {R : List Int} (hR : m_row R mem) (m g n p : Int) : am_Sm l G yX9_bold mt_X9_bold (d + 71) [.inr (.inr 96), .inl m, .inl g, .inl n, .inl p] mem (fun q m1 => (¬ (0 ≤ m ∧ m ≤ 20 ∧ 1 ≤ g ∧ g ≤ 20 ∧ 0 ≤ n ∧ n ≤ 8 ∧ 0 ≤ p ∧ p ≤ 10) → QM (-1) R mem q m1) ∧ (0 ≤ m ∧ m ≤ 20 ∧ 1 ≤ g ∧ g ≤ 20 ∧ 0 ≤ n ∧ n ≤ 8 ∧ 0 ≤ p ∧ p ≤ 10 → QM 0 (boldR g.toNat p.toNat n.toNat m.toNat) mem q m1)) := by
  refine am_enterQ (ls := [some (.inr (.inr 96)), some (.inl m), some (.inl g), some (.inl n), some (.inl p), none, none, none, none, none]) (by decide) rfl (Nat.le_of_ble_eq_true rfl) rfl (fun hok Q hQ => ?_)
  by_cases hv : 0 ≤ m ∧ m ≤ 20 ∧ 1 ≤ g ∧ g ≤ 20 ∧ 0 ≤ n ∧ n ≤ 8 ∧ 0 ≤ p ∧ p ≤ 10
  · obtain ⟨mN, rfl⟩ : ∃ x : Nat, m = (x : Int) := ⟨m.toNat, by omega⟩
    obtain ⟨gN, rfl⟩ : ∃ x : Nat, g = (x : Int) := ⟨g.toNat, by omega⟩
    obtain ⟨nN, rfl⟩ : ∃ x : Nat, n = (x : Int) := ⟨n.toNat, by omega⟩
    obtain ⟨pN, rfl⟩ : ∃ x : Nat, p = (x : Int) := ⟨p.toNat, by omega⟩
    have hp10 := p10_le (show nN ≤ 10 by omega)
    have hp0 : 0 < 10 ^ nN := Nat.pow_pos (by decide)
    have hb8 := bv8 (g := gN) (show pN ≤ 10 by omega) (show nN ≤ 8 by omega) mN
    have e20 : min 20 mN = mN := by omega
    have LZ : ∀ (st : Int) (m0 : am_M) (l6 l7 l8 l9 : Option am_V), st = (if nN = 0 then -1 else (amx (fun s => chF (bv gN pN (nN - 1)) pN s mN) mN : Int)) → frS s9r mem m0 → (∀ c, c ≤ 20 → m0 117 (21 * nN + c) = (bv gN pN nN c : Int)) → am_Rn l G mt_X9_bold (d + 71) 207 [some (.inr (.inr 96)), some (.inl (mN : Int)), some (.inl (gN : Int)), some (.inl (nN : Int)), some (.inl (pN : Int)), some (.inl st), l6, l7, l8, l9] [] m0 Q := by
      intro st m0 l6 l7 l8 l9 hst hf hB
      refine rn_aload_n (x := 95) (q := 208) dX9_bold_207 rfl rfl ?_
      refine rn_iconst (q := 209) dX9_bold_208 (am_okd rfl) rfl ?_
      refine rn_puti (a := 95) (q := 212) dX9_bold_209 fl_X9_110 rfl rfl rfl rfl ?_
      refine rn_aload_n (x := 95) (q := 213) dX9_bold_212 rfl rfl ?_
      refine rn_aload_n (x := 95) (q := 214) dX9_bold_213 rfl rfl ?_
      refine rn_iload_n (x := (nN : Int)) (q := 215) dX9_bold_214 rfl rfl ?_
      refine rn_iload_n (x := (mN : Int)) (q := 216) dX9_bold_215 rfl rfl ?_
      refine rn_callV (b := 95) (as := [.inl (nN : Int), .inl (mN : Int)]) (rest := [.inr (.inr 96)]) (q := 219) dX9_bold_216 ml_X9_328 sm_X9_luckOf rfl rfl (by decide) (by omega) rfl rfl (Nat.le_of_ble_eq_true rfl) rfl (m_luckOf (d := d + 70) nN (by omega) (show ∀ c, c ≤ 20 → am_up m0 95 10 0 117 (21 * nN + c) = (bv gN pN nN c : Int) from hB) mN (by omega)) ?_
      intro r216 mem216 hq216
      obtain ⟨rfl, rfl⟩ := hq216
      show am_Rn l G _ _ 219 [some (.inr (.inr 96)), some (.inl (mN : Int)), some (.inl (gN : Int)), some (.inl (nN : Int)), some (.inl (pN : Int)), some (.inl st), l6, l7, l8, l9] [.inr (.inl (bv gN pN nN (min 20 mN) : Int)), .inr (.inr 96)] (am_up m0 95 10 0) _
      rw [e20]
      refine rn_ldc2 (n := 10) (q := 222) dX9_bold_219 kc_X9_338 rfl (am_okld rfl) rfl ?_
      refine rn_iload_n (x := (nN : Int)) (q := 223) dX9_bold_222 rfl rfl ?_
      refine rn_callS (as := [.inr (.inl 10), .inl (nN : Int)]) (rest := [.inr (.inl (bv gN pN nN mN : Int)), .inr (.inr 96)]) (q := 226) dX9_bold_223 ml_X9_340 sm_X9_power (by omega) rfl rfl (Nat.le_of_ble_eq_true rfl) rfl (s_pow9 (d := d + 70) nN (by omega)) ?_
      intro r223 mem223 hq223
      obtain ⟨rfl, rfl⟩ := hq223
      show am_Rn l G _ _ 226 [some (.inr (.inr 96)), some (.inl (mN : Int)), some (.inl (gN : Int)), some (.inl (nN : Int)), some (.inl (pN : Int)), some (.inl st), l6, l7, l8, l9] [.inr (.inl ((10 ^ nN : Nat) : Int)), .inr (.inl (bv gN pN nN mN : Int)), .inr (.inr 96)] (am_up m0 95 10 0) _
      refine rn_callV (b := 95) (as := [.inr (.inl (bv gN pN nN mN : Int)), .inr (.inl ((10 ^ nN : Nat) : Int))]) (rest := []) (q := 229) dX9_bold_226 ml_X9_344 sm_X9_tellPart rfl rfl (by decide) (by omega) rfl rfl (Nat.le_of_ble_eq_true rfl) rfl (s_tellPart (d := d + 0) (R := []) m_row0 (by decide) (bv gN pN nN mN) (10 ^ nN) hp0 hp10 (by omega)) ?_
      intro r226 mem226 hq226
      obtain ⟨rfl, hr226, hf226, -⟩ := hq226
      show am_Rn l G _ _ 229 [some (.inr (.inr 96)), some (.inl (mN : Int)), some (.inl (gN : Int)), some (.inl (nN : Int)), some (.inl (pN : Int)), some (.inl st), l6, l7, l8, l9] [] mem226 _
      refine rn_aload_n (x := 95) (q := 230) dX9_bold_229 rfl rfl ?_
      refine rn_iload (x := st) (q := 232) dX9_bold_230 rfl rfl ?_
      refine rn_i2l (q := 233) dX9_bold_232 rfl ?_
      refine rn_callV (b := 95) (as := [.inr (.inl st)]) (rest := []) (q := 236) dX9_bold_233 ml_X9_275 sm_X9_tell rfl rfl (by decide) (by omega) rfl rfl (Nat.le_of_ble_eq_true rfl) rfl (m_tell (d := d + 70) hr226 (show (2 : Nat) < 9 by decide) st) ?_
      intro r233 mem233 hq233
      obtain ⟨rfl, hr233, hf233⟩ := hq233
      show am_Rn l G _ _ 236 [some (.inr (.inr 96)), some (.inl (mN : Int)), some (.inl (gN : Int)), some (.inl (nN : Int)), some (.inl (pN : Int)), some (.inl st), l6, l7, l8, l9] [] mem233 _
      refine rn_iconst (q := 237) dX9_bold_236 (am_okd rfl) rfl ?_
      refine rn_iret dX9_bold_237 rfl ?_
      exact hQ _ _ ⟨fun h => absurd hv h, fun _ => ⟨rfl, (((frS.up (a := 95) (k := 10) (x := 0) hf rfl).tr hf226).tr hf233), by show m_row (frc (bv gN pN nN mN) (10 ^ nN) ++ [if nN = 0 then -1 else (amx (fun s => chF (bv gN pN (nN - 1)) pN s mN) mN : Int)]) _; rw [← hst]; exact hr233⟩⟩
    have LY : ∀ (m0 : am_M) (l6 l7 l8 l9 : Option am_V), frS s9r mem m0 → (∀ t c, t ≤ nN → c ≤ 20 → m0 117 (21 * t + c) = (bv gN pN t c : Int)) → ∀ i : Int, am_Rn l G mt_X9_bold (d + 71) 166 [some (.inr (.inr 96)), some (.inl (mN : Int)), some (.inl (gN : Int)), some (.inl (nN : Int)), some (.inl (pN : Int)), some (.inl i), l6, l7, l8, l9] [] m0 Q := by
      intro m0 l6 l7 l8 l9 hf hB i
      by_cases h0 : nN = 0
      · subst h0
        refine rn_iload_n (x := ((0 : Nat) : Int)) (q := 167) dX9_bold_166 rfl rfl ?_
        refine rn_ifne (t := 174) (q := 170) dX9_bold_167 rfl rfl (fun h => absurd h (by omega)) (fun w167 => ?_)
        refine rn_iconst (q := 171) dX9_bold_170 (am_okd rfl) rfl ?_
        refine rn_goto (t := 175) dX9_bold_171 rfl ?_
        refine rn_istore (ls' := [some (.inr (.inr 96)), some (.inl (mN : Int)), some (.inl (gN : Int)), some (.inl ((0 : Nat) : Int)), some (.inl (pN : Int)), some (.inl (-1)), l6, l7, l8, l9]) (q := 177) dX9_bold_175 (by decide) rfl rfl ?_
        refine rn_iload_n (x := ((0 : Nat) : Int)) (q := 178) dX9_bold_177 rfl rfl ?_
        refine rn_ifle (t := 207) (q := 181) dX9_bold_178 rfl rfl (fun w178 => ?_) (fun h => absurd h (by omega))
        exact LZ (-1) m0 l6 l7 l8 l9 rfl hf (fun c hc => hB 0 c (by omega) hc)
      · obtain ⟨k, hk⟩ : ∃ k, nN = k + 1 := ⟨nN - 1, by omega⟩
        have hb7 := bv7 (g := gN) (p := pN) (t := k) (by omega) (by omega)
        have oa := (amx_ok (f := fun s => chF (bv gN pN k) pN s mN) mN)
        have eb : mxF (fun s => chF (bv gN pN k) pN s mN) mN = bv gN pN nN mN := by rw [hk]; rfl
        have LS : ∀ s : Nat, s ≤ amx (fun s => chF (bv gN pN k) pN s mN) mN → am_Rn l G mt_X9_bold (d + 71) 177 [some (.inr (.inr 96)), some (.inl (mN : Int)), some (.inl (gN : Int)), some (.inl (nN : Int)), some (.inl (pN : Int)), some (.inl (s : Int)), l6, l7, l8, l9] [] m0 Q := by
          refine am_dn (amx (fun s => chF (bv gN pN k) pN s mN) mN) (fun s hs ih => ?_)
          have hcall := m_luckBy (l := l) (G := G) (d := d + 69) (mem := m0) (B := bv gN pN k) k (by omega) (fun c hc => hB k c (by omega) hc) hb7 s mN pN (by omega) (by omega) (by omega)
          rw [← hk] at hcall
          refine rn_iload_n (x := (nN : Int)) (q := 178) dX9_bold_177 rfl rfl ?_
          refine rn_ifle (t := 207) (q := 181) dX9_bold_178 rfl rfl (fun h => absurd h (by omega)) (fun w178 => ?_)
          refine rn_aload_n (x := 95) (q := 182) dX9_bold_181 rfl rfl ?_
          refine rn_iload_n (x := (nN : Int)) (q := 183) dX9_bold_182 rfl rfl ?_
          refine rn_iload_n (x := (mN : Int)) (q := 184) dX9_bold_183 rfl rfl ?_
          refine rn_iload (x := (s : Int)) (q := 186) dX9_bold_184 rfl rfl ?_
          refine rn_iload (x := (pN : Int)) (q := 188) dX9_bold_186 rfl rfl ?_
          refine rn_callV (b := 95) (as := [.inl (nN : Int), .inl (mN : Int), .inl (s : Int), .inl (pN : Int)]) (rest := []) (q := 191) dX9_bold_188 ml_X9_332 sm_X9_luckBy rfl rfl (by decide) (by omega) rfl rfl (Nat.le_of_ble_eq_true rfl) rfl ((fun (d : Nat) (h : d = d) => hcall) (d := d + 69) rfl) ?_
          intro r188 mem188 hq188
          obtain ⟨rfl, rfl⟩ := hq188
          show am_Rn l G _ _ 191 [some (.inr (.inr 96)), some (.inl (mN : Int)), some (.inl (gN : Int)), some (.inl (nN : Int)), some (.inl (pN : Int)), some (.inl (s : Int)), l6, l7, l8, l9] [.inr (.inl (chF (bv gN pN k) pN s mN : Int))] m0 _
          refine rn_aload_n (x := 95) (q := 192) dX9_bold_191 rfl rfl ?_
          refine rn_iload_n (x := (nN : Int)) (q := 193) dX9_bold_192 rfl rfl ?_
          refine rn_iload_n (x := (mN : Int)) (q := 194) dX9_bold_193 rfl rfl ?_
          refine rn_callV (b := 95) (as := [.inl (nN : Int), .inl (mN : Int)]) (rest := [.inr (.inl (chF (bv gN pN k) pN s mN : Int))]) (q := 197) dX9_bold_194 ml_X9_328 sm_X9_luckOf rfl rfl (by decide) (by omega) rfl rfl (Nat.le_of_ble_eq_true rfl) rfl (m_luckOf (d := d + 70) nN (by omega) (fun c hc => hB nN c (by omega) hc) mN (by omega)) ?_
          intro r194 mem194 hq194
          obtain ⟨rfl, rfl⟩ := hq194
          show am_Rn l G _ _ 197 [some (.inr (.inr 96)), some (.inl (mN : Int)), some (.inl (gN : Int)), some (.inl (nN : Int)), some (.inl (pN : Int)), some (.inl (s : Int)), l6, l7, l8, l9] [.inr (.inl (bv gN pN nN (min 20 mN) : Int)), .inr (.inl (chF (bv gN pN k) pN s mN : Int))] m0 _
          rw [e20]
          refine rn_lcmp (q := 198) dX9_bold_197 rfl ?_
          refine rn_ifeq (t := 207) (q := 201) dX9_bold_198 rfl rfl (fun w198 => ?_) (fun w198 => ?_)
          · rw [am_cmpE] at w198
            refine LZ (s : Int) m0 l6 l7 l8 l9 ?_ hf (fun c hc => hB nN c (by omega) hc)
            rw [if_neg h0, show nN - 1 = k by omega]
            by_cases z : s = amx (fun s => chF (bv gN pN k) pN s mN) mN
            · rw [← z]
            · have h1 : chF (bv gN pN k) pN s mN < mxF (fun s => chF (bv gN pN k) pN s mN) mN := oa.2.2 s (by omega)
              omega
          · rw [am_cmpE] at w198
            refine rn_iincN (x := (s : Int)) (z := ((s + 1 : Nat) : Int)) (ls' := [some (.inr (.inr 96)), some (.inl (mN : Int)), some (.inl (gN : Int)), some (.inl (nN : Int)), some (.inl (pN : Int)), some (.inl ((s + 1 : Nat) : Int)), l6, l7, l8, l9]) (q := 204) dX9_bold_201 rfl (by decide) (by omega) (by unfold am_ok; omega) rfl rfl ?_
            refine rn_goto (t := 177) dX9_bold_204 rfl ?_
            refine ih (Nat.lt_of_le_of_ne hs (fun z => ?_))
            have h1 := oa.2.1
            rw [← z] at h1
            have h2 : chF (bv gN pN k) pN s mN = mxF (fun s => chF (bv gN pN k) pN s mN) mN := h1
            omega
        refine rn_iload_n (x := (nN : Int)) (q := 167) dX9_bold_166 rfl rfl ?_
        refine rn_ifne (t := 174) (q := 170) dX9_bold_167 rfl rfl (fun w167 => ?_) (fun h => absurd h (by omega))
        refine rn_iconst (q := 175) dX9_bold_174 (am_okd rfl) rfl ?_
        refine rn_istore (ls' := [some (.inr (.inr 96)), some (.inl (mN : Int)), some (.inl (gN : Int)), some (.inl (nN : Int)), some (.inl (pN : Int)), some (.inl 0), l6, l7, l8, l9]) (q := 177) dX9_bold_175 (by decide) rfl rfl ?_
        exact LS 0 (Nat.zero_le _)
    have LX : ∀ (i : Nat), i ≤ nN + 1 → 1 ≤ i → ∀ (m0 : am_M) (l6 l7 l8 l9 : Option am_V), frS s9r mem m0 → (∀ t c, t < i → c ≤ 20 → m0 117 (21 * t + c) = (bv gN pN t c : Int)) → am_Rn l G mt_X9_bold (d + 71) 85 [some (.inr (.inr 96)), some (.inl (mN : Int)), some (.inl (gN : Int)), some (.inl (nN : Int)), some (.inl (pN : Int)), some (.inl (i : Int)), l6, l7, l8, l9] [] m0 Q := by
      refine am_dn (nN + 1) (fun i hi ih h1 m0 l6 l7 l8 l9 hf hB => ?_)
      have LW : i < nN + 1 → ∀ (c : Nat), c ≤ 21 → ∀ (m1 : am_M) (l7 l8 l9 : Option am_V), frS s9r mem m1 → (∀ t c, t < i → c ≤ 20 → m1 117 (21 * t + c) = (bv gN pN t c : Int)) → (∀ j, j < c → m1 117 (21 * i + j) = (bv gN pN i j : Int)) → am_Rn l G mt_X9_bold (d + 71) 94 [some (.inr (.inr 96)), some (.inl (mN : Int)), some (.inl (gN : Int)), some (.inl (nN : Int)), some (.inl (pN : Int)), some (.inl (i : Int)), some (.inl (c : Int)), l7, l8, l9] [] m1 Q := by
        intro hlt
        refine am_dn 21 (fun c hc ih2 m1 l7 l8 l9 hf hB hN => ?_)
        obtain ⟨k, hk⟩ : ∃ k, i = k + 1 := ⟨i - 1, by omega⟩
        have hb7 := bv7 (g := gN) (p := pN) (t := k) (by omega) (by omega)
        have eb : mxF (fun s => chF (bv gN pN k) pN s c) c = bv gN pN i c := by rw [hk]; rfl
        have LS : c < 21 → ∀ s : Nat, s ≤ c + 1 → ∀ x : Nat, (s = 0 ∧ x = 0 ∨ 0 < s ∧ x = mxF (fun s => chF (bv gN pN k) pN s c) (s - 1)) → am_Rn l G mt_X9_bold (d + 71) 107 [some (.inr (.inr 96)), some (.inl (mN : Int)), some (.inl (gN : Int)), some (.inl (nN : Int)), some (.inl (pN : Int)), some (.inl (i : Int)), some (.inl (c : Int)), some (.inr (.inl (x : Int))), none, some (.inl (s : Int))] [] m1 Q := by
          intro hc21
          refine am_dn (c + 1) (fun s hs ih3 x hx => ?_)
          have hcall : s ≤ c → am_Sm l G yX9_luckBy mt_X9_luckBy (d + 70) [.inr (.inr 96), .inl (i : Int), .inl (c : Int), .inl (s : Int), .inl (pN : Int)] m1 (am_rr (some (.inr (.inl (chF (bv gN pN k) pN s c : Int)))) m1) := by
            intro hsc
            rw [hk]
            exact m_luckBy (l := l) (G := G) (d := d + 69) (mem := m1) (B := bv gN pN k) k (by omega) (fun c hc => hB k c (by omega) hc) hb7 s c pN (by omega) (by omega) (by omega)
          have hx9 : x ≤ 100000000 := by
            rcases hx with hx | hx
            · omega
            · rw [hx.2]; exact mxF_le (fun s => chF_le (M := 10000000) (by omega) hb7) _
          by_cases hsc : s ≤ c
          · have hc9 : chF (bv gN pN k) pN s c ≤ 100000000 := chF_le (M := 10000000) (by omega) hb7
            refine rn_iload (x := (s : Int)) (q := 109) dX9_bold_107 rfl rfl ?_
            refine rn_iload (x := (c : Int)) (q := 111) dX9_bold_109 rfl rfl ?_
            refine rn_cmpgt (t := 139) (q := 114) dX9_bold_111 rfl rfl (fun h => absurd h (by omega)) (fun w111 => ?_)
            refine rn_lload (x := (x : Int)) (q := 116) dX9_bold_114 rfl rfl ?_
            refine rn_aload_n (x := 95) (q := 117) dX9_bold_116 rfl rfl ?_
            refine rn_iload (x := (i : Int)) (q := 119) dX9_bold_117 rfl rfl ?_
            refine rn_iload (x := (c : Int)) (q := 121) dX9_bold_119 rfl rfl ?_
            refine rn_iload (x := (s : Int)) (q := 123) dX9_bold_121 rfl rfl ?_
            refine rn_iload (x := (pN : Int)) (q := 125) dX9_bold_123 rfl rfl ?_
            refine rn_callV (b := 95) (as := [.inl (i : Int), .inl (c : Int), .inl (s : Int), .inl (pN : Int)]) (rest := [.inr (.inl (x : Int))]) (q := 128) dX9_bold_125 ml_X9_332 sm_X9_luckBy rfl rfl (by decide) (by omega) rfl rfl (Nat.le_of_ble_eq_true rfl) rfl ((fun (d : Nat) (h : d = d) => hcall hsc) (d := d + 69) rfl) ?_
            intro r125 mem125 hq125
            obtain ⟨rfl, rfl⟩ := hq125
            show am_Rn l G _ _ 128 [some (.inr (.inr 96)), some (.inl (mN : Int)), some (.inl (gN : Int)), some (.inl (nN : Int)), some (.inl (pN : Int)), some (.inl (i : Int)), some (.inl (c : Int)), some (.inr (.inl (x : Int))), none, some (.inl (s : Int))] [.inr (.inl (chF (bv gN pN k) pN s c : Int)), .inr (.inl (x : Int))] m1 _
            refine rn_mmaxl (q := 131) dX9_bold_128 am_mm_X9_336 am_mmaxlw (Nat.le_of_ble_eq_true rfl) rfl ?_
            rw [show (max (x : Int) (chF (bv gN pN k) pN s c : Int)) = ((max x (chF (bv gN pN k) pN s c) : Nat) : Int) from (by omega)]
            refine rn_lstore (ls' := [some (.inr (.inr 96)), some (.inl (mN : Int)), some (.inl (gN : Int)), some (.inl (nN : Int)), some (.inl (pN : Int)), some (.inl (i : Int)), some (.inl (c : Int)), some (.inr (.inl ((max x (chF (bv gN pN k) pN s c) : Nat) : Int))), none, some (.inl (s : Int))]) (q := 133) dX9_bold_131 (by decide) rfl rfl ?_
            refine rn_iincN (x := (s : Int)) (z := ((s + 1 : Nat) : Int)) (ls' := [some (.inr (.inr 96)), some (.inl (mN : Int)), some (.inl (gN : Int)), some (.inl (nN : Int)), some (.inl (pN : Int)), some (.inl (i : Int)), some (.inl (c : Int)), some (.inr (.inl ((max x (chF (bv gN pN k) pN s c) : Nat) : Int))), none, some (.inl ((s + 1 : Nat) : Int))]) (q := 136) dX9_bold_133 rfl (by decide) (by omega) (by unfold am_ok; omega) rfl rfl ?_
            refine rn_goto (t := 107) dX9_bold_136 rfl ?_
            refine ih3 (by omega) _ (Or.inr ⟨by omega, ?_⟩)
            rw [Nat.add_sub_cancel]
            rcases hx with hx | hx
            · rw [hx.2, hx.1, mxF]; omega
            · obtain ⟨j, rfl⟩ : ∃ j, s = j + 1 := ⟨s - 1, by omega⟩
              rw [mxF, hx.2, Nat.add_sub_cancel]
          · obtain rfl : s = c + 1 := by omega
            have ex : x = bv gN pN i c := by
              rcases hx with hx | hx
              · omega
              · rw [hx.2, Nat.add_sub_cancel]; exact eb
            refine rn_iload (x := ((c + 1 : Nat) : Int)) (q := 109) dX9_bold_107 rfl rfl ?_
            refine rn_iload (x := (c : Int)) (q := 111) dX9_bold_109 rfl rfl ?_
            refine rn_cmpgt (t := 139) (q := 114) dX9_bold_111 rfl rfl (fun w111 => ?_) (fun h => absurd h (by omega))
            refine rn_aload_n (x := 95) (q := 140) dX9_bold_139 rfl rfl ?_
            refine rn_get (a := 95) (v := .inr (.inr 118)) (q := 143) dX9_bold_140 fl_X9_79 rfl rfl rfl ?_
            refine rn_bipush (q := 145) dX9_bold_143 ⟨by decide, by decide⟩ rfl ?_
            refine rn_iload (x := (i : Int)) (q := 147) dX9_bold_145 rfl rfl ?_
            refine rn_imulN (z := ((21 * i : Nat) : Int)) (q := 148) dX9_bold_147 (by omega) (by unfold am_ok; omega) rfl ?_
            refine rn_iload (x := (c : Int)) (q := 150) dX9_bold_148 rfl rfl ?_
            refine rn_iaddN (z := (((21 * i) + c : Nat) : Int)) (q := 151) dX9_bold_150 (by omega) (by unfold am_ok; omega) rfl ?_
            refine rn_lload (x := (x : Int)) (q := 153) dX9_bold_151 rfl rfl ?_
            refine rn_lastV (a := 117) (m1 := am_up m1 117 ((21 * i) + c) (x : Int)) (q := 154) dX9_bold_153 rfl (by omega) (by omega) rfl rfl ?_
            refine rn_iincN (x := (c : Int)) (z := ((c + 1 : Nat) : Int)) (ls' := [some (.inr (.inr 96)), some (.inl (mN : Int)), some (.inl (gN : Int)), some (.inl (nN : Int)), some (.inl (pN : Int)), some (.inl (i : Int)), some (.inl ((c + 1 : Nat) : Int)), some (.inr (.inl (x : Int))), none, some (.inl ((c + 1 : Nat) : Int))]) (q := 157) dX9_bold_154 rfl (by decide) (by omega) (by unfold am_ok; omega) rfl rfl ?_
            refine rn_goto (t := 94) dX9_bold_157 rfl ?_
            refine ih2 hc21 _ _ _ _ (frS.up (a := 117) (k := ((21 * i) + c)) (x := (x : Int)) hf rfl) (fun t c2 ht hc2 => ?_) (fun j hj => ?_)
            · rw [am_up_neq (by omega)]; exact hB t c2 ht hc2
            · rw [am_up_at]
              by_cases e : j = c
              · rw [if_pos (by omega), e, ex]
              · rw [if_neg (by omega)]; exact hN j (by omega)
        refine rn_iload (x := (c : Int)) (q := 96) dX9_bold_94 rfl rfl ?_
        refine rn_bipush (q := 98) dX9_bold_96 ⟨by decide, by decide⟩ rfl ?_
        refine rn_cmpgt (t := 160) (q := 101) dX9_bold_98 rfl rfl (fun w98 => ?_) (fun w98 => ?_)
        · refine rn_iincN (x := (i : Int)) (z := ((i + 1 : Nat) : Int)) (ls' := [some (.inr (.inr 96)), some (.inl (mN : Int)), some (.inl (gN : Int)), some (.inl (nN : Int)), some (.inl (pN : Int)), some (.inl ((i + 1 : Nat) : Int)), some (.inl (c : Int)), l7, l8, l9]) (q := 163) dX9_bold_160 rfl (by decide) (by omega) (by unfold am_ok; omega) rfl rfl ?_
          refine rn_goto (t := 85) dX9_bold_163 rfl ?_
          refine ih hlt (by omega) m1 _ _ _ _ hf (fun t c2 ht hc2 => ?_)
          by_cases e : t = i
          · rw [e]; exact hN c2 (by omega)
          · exact hB t c2 (by omega) hc2
        · refine rn_lconst0 (q := 102) dX9_bold_101 rfl ?_
          refine rn_lstore (ls' := [some (.inr (.inr 96)), some (.inl (mN : Int)), some (.inl (gN : Int)), some (.inl (nN : Int)), some (.inl (pN : Int)), some (.inl (i : Int)), some (.inl (c : Int)), some (.inr (.inl 0)), none, l9]) (q := 104) dX9_bold_102 (by decide) rfl rfl ?_
          refine rn_iconst (q := 105) dX9_bold_104 (am_okd rfl) rfl ?_
          refine rn_istore (ls' := [some (.inr (.inr 96)), some (.inl (mN : Int)), some (.inl (gN : Int)), some (.inl (nN : Int)), some (.inl (pN : Int)), some (.inl (i : Int)), some (.inl (c : Int)), some (.inr (.inl 0)), none, some (.inl 0)]) (q := 107) dX9_bold_105 (by decide) rfl rfl ?_
          exact LS (by omega) 0 (by omega) 0 (Or.inl ⟨rfl, rfl⟩)
      refine rn_iload (x := (i : Int)) (q := 87) dX9_bold_85 rfl rfl ?_
      refine rn_iload_n (x := (nN : Int)) (q := 88) dX9_bold_87 rfl rfl ?_
      refine rn_cmpgt (t := 166) (q := 91) dX9_bold_88 rfl rfl (fun w88 => ?_) (fun w88 => ?_)
      · exact LY m0 l6 l7 l8 l9 hf (fun t c2 ht hc2 => hB t c2 (by omega) hc2) _
      · refine rn_iconst (q := 92) dX9_bold_91 (am_okd rfl) rfl ?_
        refine rn_istore (ls' := [some (.inr (.inr 96)), some (.inl (mN : Int)), some (.inl (gN : Int)), some (.inl (nN : Int)), some (.inl (pN : Int)), some (.inl (i : Int)), some (.inl 0), l7, l8, l9]) (q := 94) dX9_bold_92 (by decide) rfl rfl ?_
        exact LW (by omega) 0 (by omega) m0 _ _ _ hf hB (fun j hj => absurd hj (Nat.not_lt_zero _))
    have LV : ∀ (c : Nat), c ≤ 21 → ∀ (m0 : am_M), frS s9r mem m0 → (∀ j, j < c → m0 117 j = (bv gN pN 0 j : Int)) → am_Rn l G mt_X9_bold (d + 71) 51 [some (.inr (.inr 96)), some (.inl (mN : Int)), some (.inl (gN : Int)), some (.inl (nN : Int)), some (.inl (pN : Int)), some (.inl (c : Int)), none, none, none, none] [] m0 Q := by
      refine am_dn 21 (fun c hc ih m0 hf hB => ?_)
      refine rn_iload (x := (c : Int)) (q := 53) dX9_bold_51 rfl rfl ?_
      refine rn_bipush (q := 55) dX9_bold_53 ⟨by decide, by decide⟩ rfl ?_
      refine rn_cmpgt (t := 82) (q := 58) dX9_bold_55 rfl rfl (fun w55 => ?_) (fun w55 => ?_)
      · refine rn_iconst (q := 83) dX9_bold_82 (am_okd rfl) rfl ?_
        refine rn_istore (ls' := [some (.inr (.inr 96)), some (.inl (mN : Int)), some (.inl (gN : Int)), some (.inl (nN : Int)), some (.inl (pN : Int)), some (.inl 1), none, none, none, none]) (q := 85) dX9_bold_83 (by decide) rfl rfl ?_
        exact LX 1 (by omega) (by omega) m0 _ _ _ _ hf (fun t c2 ht hc2 => by obtain rfl : t = 0 := (by omega); rw [Nat.mul_zero, Nat.zero_add]; exact hB c2 (by omega))
      · refine rn_aload_n (x := 95) (q := 59) dX9_bold_58 rfl rfl ?_
        refine rn_get (a := 95) (v := .inr (.inr 118)) (q := 62) dX9_bold_59 fl_X9_79 rfl rfl rfl ?_
        refine rn_iload (x := (c : Int)) (q := 64) dX9_bold_62 rfl rfl ?_
        refine rn_iload (x := (c : Int)) (q := 66) dX9_bold_64 rfl rfl ?_
        refine rn_iload_n (x := (gN : Int)) (q := 67) dX9_bold_66 rfl rfl ?_
        refine rn_cmplt (t := 74) (q := 70) dX9_bold_67 rfl rfl (fun w67 => ?_) (fun w67 => ?_)
        · refine rn_lconst0 (q := 75) dX9_bold_74 rfl ?_
          refine rn_lastV (a := 117) (m1 := am_up m0 117 c 0) (q := 76) dX9_bold_75 rfl (by omega) (by omega) rfl rfl ?_
          refine rn_iincN (x := (c : Int)) (z := ((c + 1 : Nat) : Int)) (ls' := [some (.inr (.inr 96)), some (.inl (mN : Int)), some (.inl (gN : Int)), some (.inl (nN : Int)), some (.inl (pN : Int)), some (.inl ((c + 1 : Nat) : Int)), none, none, none, none]) (q := 79) dX9_bold_76 rfl (by decide) (by omega) (by unfold am_ok; omega) rfl rfl ?_
          refine rn_goto (t := 51) dX9_bold_79 rfl ?_
          refine ih (by omega) _ (frS.up (a := 117) (k := c) (x := 0) hf rfl) (fun j hj => ?_)
          rw [am_up_at]
          by_cases e : j = c
          · rw [if_pos e, e]
            show _ = (((if gN ≤ c then 1 else 0) : Nat) : Int)
            first | rw [if_pos (by omega)]; rfl | rw [if_neg (by omega)]; rfl
          · rw [if_neg e]; exact hB j (by omega)
        · refine rn_lconst1 (q := 71) dX9_bold_70 rfl ?_
          refine rn_goto (t := 75) dX9_bold_71 rfl ?_
          refine rn_lastV (a := 117) (m1 := am_up m0 117 c 1) (q := 76) dX9_bold_75 rfl (by omega) (by omega) rfl rfl ?_
          refine rn_iincN (x := (c : Int)) (z := ((c + 1 : Nat) : Int)) (ls' := [some (.inr (.inr 96)), some (.inl (mN : Int)), some (.inl (gN : Int)), some (.inl (nN : Int)), some (.inl (pN : Int)), some (.inl ((c + 1 : Nat) : Int)), none, none, none, none]) (q := 79) dX9_bold_76 rfl (by decide) (by omega) (by unfold am_ok; omega) rfl rfl ?_
          refine rn_goto (t := 51) dX9_bold_79 rfl ?_
          refine ih (by omega) _ (frS.up (a := 117) (k := c) (x := 1) hf rfl) (fun j hj => ?_)
          rw [am_up_at]
          by_cases e : j = c
          · rw [if_pos e, e]
            show _ = (((if gN ≤ c then 1 else 0) : Nat) : Int)
            first | rw [if_pos (by omega)]; rfl | rw [if_neg (by omega)]; rfl
          · rw [if_neg e]; exact hB j (by omega)
    refine rn_aload_n (x := 95) (q := 1) dX9_bold_0 rfl rfl ?_
    refine rn_iconst (q := 2) dX9_bold_1 (am_okd rfl) rfl ?_
    refine rn_puti (a := 95) (q := 5) dX9_bold_2 fl_X9_107 rfl rfl rfl rfl ?_
    refine rn_iload_n (x := (mN : Int)) (q := 6) dX9_bold_5 rfl rfl ?_
    refine rn_iconst (q := 7) dX9_bold_6 (am_okd rfl) rfl ?_
    refine rn_bipush (q := 9) dX9_bold_7 ⟨by decide, by decide⟩ rfl ?_
    refine rn_callS (as := [.inl (mN : Int), .inl 0, .inl 20]) (rest := []) (q := 12) dX9_bold_9 ml_X9_116 sm_X9_in (by omega) rfl rfl (Nat.le_of_ble_eq_true rfl) rfl (s_in9 (d := d + 70) (mN : Int) 0 20) ?_
    intro r9 mem9 hq9
    obtain ⟨⟨rfl, hi9⟩ | ⟨rfl, hi9⟩, rfl⟩ := hq9
    · show am_Rn l G _ _ 12 [some (.inr (.inr 96)), some (.inl (mN : Int)), some (.inl (gN : Int)), some (.inl (nN : Int)), some (.inl (pN : Int)), none, none, none, none, none] [.inl 1] (am_up mem 95 11 0) _
      refine rn_ifeq (t := 46) (q := 15) dX9_bold_12 rfl rfl (fun h => absurd h (by decide)) (fun w12 => ?_)
      refine rn_iload_n (x := (gN : Int)) (q := 16) dX9_bold_15 rfl rfl ?_
      refine rn_iconst (q := 17) dX9_bold_16 (am_okd rfl) rfl ?_
      refine rn_bipush (q := 19) dX9_bold_17 ⟨by decide, by decide⟩ rfl ?_
      refine rn_callS (as := [.inl (gN : Int), .inl 1, .inl 20]) (rest := []) (q := 22) dX9_bold_19 ml_X9_116 sm_X9_in (by omega) rfl rfl (Nat.le_of_ble_eq_true rfl) rfl (s_in9 (d := d + 70) (gN : Int) 1 20) ?_
      intro r19 mem19 hq19
      obtain ⟨⟨rfl, hi19⟩ | ⟨rfl, hi19⟩, rfl⟩ := hq19
      · show am_Rn l G _ _ 22 [some (.inr (.inr 96)), some (.inl (mN : Int)), some (.inl (gN : Int)), some (.inl (nN : Int)), some (.inl (pN : Int)), none, none, none, none, none] [.inl 1] (am_up mem 95 11 0) _
        refine rn_ifeq (t := 46) (q := 25) dX9_bold_22 rfl rfl (fun h => absurd h (by decide)) (fun w22 => ?_)
        refine rn_iload_n (x := (nN : Int)) (q := 26) dX9_bold_25 rfl rfl ?_
        refine rn_iconst (q := 27) dX9_bold_26 (am_okd rfl) rfl ?_
        refine rn_bipush (q := 29) dX9_bold_27 ⟨by decide, by decide⟩ rfl ?_
        refine rn_callS (as := [.inl (nN : Int), .inl 0, .inl 8]) (rest := []) (q := 32) dX9_bold_29 ml_X9_116 sm_X9_in (by omega) rfl rfl (Nat.le_of_ble_eq_true rfl) rfl (s_in9 (d := d + 70) (nN : Int) 0 8) ?_
        intro r29 mem29 hq29
        obtain ⟨⟨rfl, hi29⟩ | ⟨rfl, hi29⟩, rfl⟩ := hq29
        · show am_Rn l G _ _ 32 [some (.inr (.inr 96)), some (.inl (mN : Int)), some (.inl (gN : Int)), some (.inl (nN : Int)), some (.inl (pN : Int)), none, none, none, none, none] [.inl 1] (am_up mem 95 11 0) _
          refine rn_ifeq (t := 46) (q := 35) dX9_bold_32 rfl rfl (fun h => absurd h (by decide)) (fun w32 => ?_)
          refine rn_iload (x := (pN : Int)) (q := 37) dX9_bold_35 rfl rfl ?_
          refine rn_iconst (q := 38) dX9_bold_37 (am_okd rfl) rfl ?_
          refine rn_bipush (q := 40) dX9_bold_38 ⟨by decide, by decide⟩ rfl ?_
          refine rn_callS (as := [.inl (pN : Int), .inl 0, .inl 10]) (rest := []) (q := 43) dX9_bold_40 ml_X9_116 sm_X9_in (by omega) rfl rfl (Nat.le_of_ble_eq_true rfl) rfl (s_in9 (d := d + 70) (pN : Int) 0 10) ?_
          intro r40 mem40 hq40
          obtain ⟨⟨rfl, hi40⟩ | ⟨rfl, hi40⟩, rfl⟩ := hq40
          · show am_Rn l G _ _ 43 [some (.inr (.inr 96)), some (.inl (mN : Int)), some (.inl (gN : Int)), some (.inl (nN : Int)), some (.inl (pN : Int)), none, none, none, none, none] [.inl 1] (am_up mem 95 11 0) _
            refine rn_ifne (t := 48) (q := 46) dX9_bold_43 rfl rfl (fun w43 => ?_) (fun h => absurd h (by decide))
            refine rn_iconst (q := 49) dX9_bold_48 (am_okd rfl) rfl ?_
            refine rn_istore (ls' := [some (.inr (.inr 96)), some (.inl (mN : Int)), some (.inl (gN : Int)), some (.inl (nN : Int)), some (.inl (pN : Int)), some (.inl 0), none, none, none, none]) (q := 51) dX9_bold_49 (by decide) rfl rfl ?_
            exact LV 0 (by omega) _ (frS.up (a := 95) (k := 11) (x := 0) frS.rf rfl) (fun j hj => absurd hj (Nat.not_lt_zero _))
          · show am_Rn l G _ _ 43 [some (.inr (.inr 96)), some (.inl (mN : Int)), some (.inl (gN : Int)), some (.inl (nN : Int)), some (.inl (pN : Int)), none, none, none, none, none] [.inl 0] (am_up mem 95 11 0) _
            refine rn_ifne (t := 48) (q := 46) dX9_bold_43 rfl rfl (fun h => absurd h (by decide)) (fun w43 => ?_)
            refine rn_iconst (q := 47) dX9_bold_46 (am_okd rfl) rfl ?_
            refine rn_iret dX9_bold_47 rfl ?_
            exfalso; omega
        · show am_Rn l G _ _ 32 [some (.inr (.inr 96)), some (.inl (mN : Int)), some (.inl (gN : Int)), some (.inl (nN : Int)), some (.inl (pN : Int)), none, none, none, none, none] [.inl 0] (am_up mem 95 11 0) _
          refine rn_ifeq (t := 46) (q := 35) dX9_bold_32 rfl rfl (fun w32 => ?_) (fun h => absurd h (by decide))
          refine rn_iconst (q := 47) dX9_bold_46 (am_okd rfl) rfl ?_
          refine rn_iret dX9_bold_47 rfl ?_
          exfalso; omega
      · show am_Rn l G _ _ 22 [some (.inr (.inr 96)), some (.inl (mN : Int)), some (.inl (gN : Int)), some (.inl (nN : Int)), some (.inl (pN : Int)), none, none, none, none, none] [.inl 0] (am_up mem 95 11 0) _
        refine rn_ifeq (t := 46) (q := 25) dX9_bold_22 rfl rfl (fun w22 => ?_) (fun h => absurd h (by decide))
        refine rn_iconst (q := 47) dX9_bold_46 (am_okd rfl) rfl ?_
        refine rn_iret dX9_bold_47 rfl ?_
        exfalso; omega
    · show am_Rn l G _ _ 12 [some (.inr (.inr 96)), some (.inl (mN : Int)), some (.inl (gN : Int)), some (.inl (nN : Int)), some (.inl (pN : Int)), none, none, none, none, none] [.inl 0] (am_up mem 95 11 0) _
      refine rn_ifeq (t := 46) (q := 15) dX9_bold_12 rfl rfl (fun w12 => ?_) (fun h => absurd h (by decide))
      refine rn_iconst (q := 47) dX9_bold_46 (am_okd rfl) rfl ?_
      refine rn_iret dX9_bold_47 rfl ?_
      exfalso; omega
  · refine rn_aload_n (x := 95) (q := 1) dX9_bold_0 rfl rfl ?_
    refine rn_iconst (q := 2) dX9_bold_1 (am_okd rfl) rfl ?_
    refine rn_puti (a := 95) (q := 5) dX9_bold_2 fl_X9_107 rfl rfl rfl rfl ?_
    refine rn_iload_n (x := m) (q := 6) dX9_bold_5 rfl rfl ?_
    refine rn_iconst (q := 7) dX9_bold_6 (am_okd rfl) rfl ?_
    refine rn_bipush (q := 9) dX9_bold_7 ⟨by decide, by decide⟩ rfl ?_
    refine rn_callS (as := [.inl m, .inl 0, .inl 20]) (rest := []) (q := 12) dX9_bold_9 ml_X9_116 sm_X9_in (by omega) rfl rfl (Nat.le_of_ble_eq_true rfl) rfl (s_in9 (d := d + 70) m 0 20) ?_
    intro r9 mem9 hq9
    obtain ⟨⟨rfl, hi9⟩ | ⟨rfl, hi9⟩, rfl⟩ := hq9
    · show am_Rn l G _ _ 12 [some (.inr (.inr 96)), some (.inl m), some (.inl g), some (.inl n), some (.inl p), none, none, none, none, none] [.inl 1] (am_up mem 95 11 0) _
      refine rn_ifeq (t := 46) (q := 15) dX9_bold_12 rfl rfl (fun h => absurd h (by decide)) (fun w12 => ?_)
      refine rn_iload_n (x := g) (q := 16) dX9_bold_15 rfl rfl ?_
      refine rn_iconst (q := 17) dX9_bold_16 (am_okd rfl) rfl ?_
      refine rn_bipush (q := 19) dX9_bold_17 ⟨by decide, by decide⟩ rfl ?_
      refine rn_callS (as := [.inl g, .inl 1, .inl 20]) (rest := []) (q := 22) dX9_bold_19 ml_X9_116 sm_X9_in (by omega) rfl rfl (Nat.le_of_ble_eq_true rfl) rfl (s_in9 (d := d + 70) g 1 20) ?_
      intro r19 mem19 hq19
      obtain ⟨⟨rfl, hi19⟩ | ⟨rfl, hi19⟩, rfl⟩ := hq19
      · show am_Rn l G _ _ 22 [some (.inr (.inr 96)), some (.inl m), some (.inl g), some (.inl n), some (.inl p), none, none, none, none, none] [.inl 1] (am_up mem 95 11 0) _
        refine rn_ifeq (t := 46) (q := 25) dX9_bold_22 rfl rfl (fun h => absurd h (by decide)) (fun w22 => ?_)
        refine rn_iload_n (x := n) (q := 26) dX9_bold_25 rfl rfl ?_
        refine rn_iconst (q := 27) dX9_bold_26 (am_okd rfl) rfl ?_
        refine rn_bipush (q := 29) dX9_bold_27 ⟨by decide, by decide⟩ rfl ?_
        refine rn_callS (as := [.inl n, .inl 0, .inl 8]) (rest := []) (q := 32) dX9_bold_29 ml_X9_116 sm_X9_in (by omega) rfl rfl (Nat.le_of_ble_eq_true rfl) rfl (s_in9 (d := d + 70) n 0 8) ?_
        intro r29 mem29 hq29
        obtain ⟨⟨rfl, hi29⟩ | ⟨rfl, hi29⟩, rfl⟩ := hq29
        · show am_Rn l G _ _ 32 [some (.inr (.inr 96)), some (.inl m), some (.inl g), some (.inl n), some (.inl p), none, none, none, none, none] [.inl 1] (am_up mem 95 11 0) _
          refine rn_ifeq (t := 46) (q := 35) dX9_bold_32 rfl rfl (fun h => absurd h (by decide)) (fun w32 => ?_)
          refine rn_iload (x := p) (q := 37) dX9_bold_35 rfl rfl ?_
          refine rn_iconst (q := 38) dX9_bold_37 (am_okd rfl) rfl ?_
          refine rn_bipush (q := 40) dX9_bold_38 ⟨by decide, by decide⟩ rfl ?_
          refine rn_callS (as := [.inl p, .inl 0, .inl 10]) (rest := []) (q := 43) dX9_bold_40 ml_X9_116 sm_X9_in (by omega) rfl rfl (Nat.le_of_ble_eq_true rfl) rfl (s_in9 (d := d + 70) p 0 10) ?_
          intro r40 mem40 hq40
          obtain ⟨⟨rfl, hi40⟩ | ⟨rfl, hi40⟩, rfl⟩ := hq40
          · show am_Rn l G _ _ 43 [some (.inr (.inr 96)), some (.inl m), some (.inl g), some (.inl n), some (.inl p), none, none, none, none, none] [.inl 1] (am_up mem 95 11 0) _
            refine rn_ifne (t := 48) (q := 46) dX9_bold_43 rfl rfl (fun w43 => ?_) (fun h => absurd h (by decide))
            exfalso; omega
          · show am_Rn l G _ _ 43 [some (.inr (.inr 96)), some (.inl m), some (.inl g), some (.inl n), some (.inl p), none, none, none, none, none] [.inl 0] (am_up mem 95 11 0) _
            refine rn_ifne (t := 48) (q := 46) dX9_bold_43 rfl rfl (fun h => absurd h (by decide)) (fun w43 => ?_)
            refine rn_iconst (q := 47) dX9_bold_46 (am_okd rfl) rfl ?_
            refine rn_iret dX9_bold_47 rfl ?_
            exact hQ _ _ ⟨fun _ => ⟨rfl, (frS.up (a := 95) (k := 11) (x := 0) frS.rf rfl), hR.kept (frS.rf.up rfl)⟩, fun h => absurd h hv⟩
        · show am_Rn l G _ _ 32 [some (.inr (.inr 96)), some (.inl m), some (.inl g), some (.inl n), some (.inl p), none, none, none, none, none] [.inl 0] (am_up mem 95 11 0) _
          refine rn_ifeq (t := 46) (q := 35) dX9_bold_32 rfl rfl (fun w32 => ?_) (fun h => absurd h (by decide))
          refine rn_iconst (q := 47) dX9_bold_46 (am_okd rfl) rfl ?_
          refine rn_iret dX9_bold_47 rfl ?_
          exact hQ _ _ ⟨fun _ => ⟨rfl, (frS.up (a := 95) (k := 11) (x := 0) frS.rf rfl), hR.kept (frS.rf.up rfl)⟩, fun h => absurd h hv⟩
      · show am_Rn l G _ _ 22 [some (.inr (.inr 96)), some (.inl m), some (.inl g), some (.inl n), some (.inl p), none, none, none, none, none] [.inl 0] (am_up mem 95 11 0) _
        refine rn_ifeq (t := 46) (q := 25) dX9_bold_22 rfl rfl (fun w22 => ?_) (fun h => absurd h (by decide))
        refine rn_iconst (q := 47) dX9_bold_46 (am_okd rfl) rfl ?_
        refine rn_iret dX9_bold_47 rfl ?_
        exact hQ _ _ ⟨fun _ => ⟨rfl, (frS.up (a := 95) (k := 11) (x := 0) frS.rf rfl), hR.kept (frS.rf.up rfl)⟩, fun h => absurd h hv⟩
    · show am_Rn l G _ _ 12 [some (.inr (.inr 96)), some (.inl m), some (.inl g), some (.inl n), some (.inl p), none, none, none, none, none] [.inl 0] (am_up mem 95 11 0) _
      refine rn_ifeq (t := 46) (q := 15) dX9_bold_12 rfl rfl (fun w12 => ?_) (fun h => absurd h (by decide))
      refine rn_iconst (q := 47) dX9_bold_46 (am_okd rfl) rfl ?_
      refine rn_iret dX9_bold_47 rfl ?_
      exact hQ _ _ ⟨fun _ => ⟨rfl, (frS.up (a := 95) (k := 11) (x := 0) frS.rf rfl), hR.kept (frS.rf.up rfl)⟩, fun h => absurd h hv⟩
end P69
