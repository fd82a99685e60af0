/-! the JDK's String members on the two constants -/
section P29
variable {l : Launch} {G : am_G} {d : Nat} {mem : am_M}
def srt (c : Int) : Int := if c = 111 then 0 else if c = 108 then 1 else if c = 99 then 2 else if c = 119 then 3 else -1
theorem s_canEnc (c : Int) : am_Sm l G yJ1_canEncode_9a6ad mt_J1_canEncode_9a6ad d [.inl c] mem (am_rr (some (.inl (if 0 ≤ c ∧ c ≤ 255 then 1 else 0))) mem) := by
  refine am_enter (ls := [some (.inl c)]) (by decide) rfl (Nat.le_of_ble_eq_true rfl) rfl ?_
  refine rn_iload_n (x := c) (q := 1) dJ1_canEncode_9a6ad_0 rfl rfl ?_
  refine rn_iflt (t := 15) (q := 4) dJ1_canEncode_9a6ad_1 rfl rfl (fun w1 => ?_) (fun w1 => ?_)
  · refine rn_iconst (q := 16) dJ1_canEncode_9a6ad_15 (am_okd rfl) rfl ?_
    refine rn_zret dJ1_canEncode_9a6ad_16 rfl (by omega) ?_
    exact ⟨by first | rw [if_pos (by omega)] | rw [if_neg (by omega)], rfl⟩
  · refine rn_iload_n (x := c) (q := 5) dJ1_canEncode_9a6ad_4 rfl rfl ?_
    refine rn_sipush (q := 8) dJ1_canEncode_9a6ad_5 ⟨by decide, by decide⟩ rfl ?_
    refine rn_cmpgt (t := 15) (q := 11) dJ1_canEncode_9a6ad_8 rfl rfl (fun w8 => ?_) (fun w8 => ?_)
    · refine rn_iconst (q := 16) dJ1_canEncode_9a6ad_15 (am_okd rfl) rfl ?_
      refine rn_zret dJ1_canEncode_9a6ad_16 rfl (by omega) ?_
      exact ⟨by first | rw [if_pos (by omega)] | rw [if_neg (by omega)], rfl⟩
    · refine rn_iconst (q := 12) dJ1_canEncode_9a6ad_11 (am_okd rfl) rfl ?_
      refine rn_goto (t := 16) dJ1_canEncode_9a6ad_12 rfl ?_
      refine rn_zret dJ1_canEncode_9a6ad_16 rfl (by omega) ?_
      exact ⟨by first | rw [if_pos (by omega)] | rw [if_neg (by omega)], rfl⟩
theorem s_coder0 : am_Sm l G yJ0_coder_7d493 mt_J0_coder_7d493 d [.inr (.inr 1002)] mem (am_rr (some (.inl 0)) mem) := by
  refine am_enter (ls := [some (.inr (.inr 1002))]) (by decide) rfl (Nat.le_of_ble_eq_true rfl) rfl ?_
  refine rn_getcs (q := 3) dJ0_coder_7d493_0 rfl rfl ?_
  refine rn_ifeq (t := 13) (q := 6) dJ0_coder_7d493_3 rfl rfl (fun h => absurd h (by decide)) (fun w3 => ?_)
  refine rn_aload_n (x := 1001) (q := 7) dJ0_coder_7d493_6 rfl rfl ?_
  refine rn_sgetc 0 (by decide) (q := 10) dJ0_coder_7d493_7 rfl rfl ?_
  show am_Rn l G _ _ 10 [some (.inr (.inr 1002))] [.inl 0] mem _
  refine rn_goto (t := 14) dJ0_coder_7d493_10 rfl ?_
  refine rn_bret dJ0_coder_7d493_14 rfl rfl ?_
  exact ⟨rfl, rfl⟩
theorem s_isLat0 : am_Sm l G yJ0_isLatin1_aae02 mt_J0_isLatin1_aae02 d [.inr (.inr 1002)] mem (am_rr (some (.inl 1)) mem) := by
  refine am_enter (ls := [some (.inr (.inr 1002))]) (by decide) rfl (Nat.le_of_ble_eq_true rfl) rfl ?_
  refine rn_getcs (q := 3) dJ0_isLatin1_aae02_0 rfl rfl ?_
  refine rn_ifeq (t := 17) (q := 6) dJ0_isLatin1_aae02_3 rfl rfl (fun h => absurd h (by decide)) (fun w3 => ?_)
  refine rn_aload_n (x := 1001) (q := 7) dJ0_isLatin1_aae02_6 rfl rfl ?_
  refine rn_sgetc 0 (by decide) (q := 10) dJ0_isLatin1_aae02_7 rfl rfl ?_
  show am_Rn l G _ _ 10 [some (.inr (.inr 1002))] [.inl 0] mem _
  refine rn_ifne (t := 17) (q := 13) dJ0_isLatin1_aae02_10 rfl rfl (fun h => absurd h (by decide)) (fun w10 => ?_)
  refine rn_iconst (q := 14) dJ0_isLatin1_aae02_13 (am_okd rfl) rfl ?_
  refine rn_goto (t := 18) dJ0_isLatin1_aae02_14 rfl ?_
  refine rn_zret dJ0_isLatin1_aae02_18 rfl (by omega) ?_
  exact ⟨rfl, rfl⟩
theorem s_slen0 : am_Sm l G yJ0_length_8abf5 mt_J0_length_8abf5 (d + 1) [.inr (.inr 1002)] mem (am_rr (some (.inl 7)) mem) := by
  refine am_enter (ls := [some (.inr (.inr 1002))]) (by decide) rfl (Nat.le_of_ble_eq_true rfl) rfl ?_
  refine rn_aload_n (x := 1001) (q := 1) dJ0_length_8abf5_0 rfl rfl ?_
  refine rn_sgetv 0 (by decide) (q := 4) dJ0_length_8abf5_1 rfl rfl ?_
  show am_Rn l G _ _ 4 [some (.inr (.inr 1002))] [.inr (.inr 1012)] mem _
  refine rn_slen 0 (by decide) (q := 5) dJ0_length_8abf5_4 rfl ?_
  show am_Rn l G _ _ 5 [some (.inr (.inr 1002))] [.inl 7] mem _
  refine rn_aload_n (x := 1001) (q := 6) dJ0_length_8abf5_5 rfl rfl ?_
  refine rn_callVS 0 (by decide) (as := []) (rest := [.inl 7]) (q := 9) dJ0_length_8abf5_6 ml_J0_335 smj_J0_coder_7d493 (by omega) rfl rfl (Nat.le_of_ble_eq_true rfl) rfl (s_coder0 (d := d)) ?_
  intro r6 mem6 hq6
  obtain ⟨rfl, rfl⟩ := hq6
  show am_Rn l G _ _ 9 [some (.inr (.inr 1002))] [.inl 0, .inl 7] mem _
  refine rn_ishr (q := 10) dJ0_length_8abf5_9 rfl ?_
  rw [show am_shr 7 0 = 7 from (by decide)]
  refine rn_iret dJ0_length_8abf5_10 rfl ?_
  exact ⟨rfl, rfl⟩
set_option maxHeartbeats 2000000 in
theorem s_ixc0 (c : Int) (hc : 0 ≤ c ∧ c ≤ 255) : am_Sm l G yJ1_indexOfChar_4cfef mt_J1_indexOfChar_4cfef d [.inr (.inr 1012), .inl c, .inl 0, .inl 7] mem (am_rr (some (.inl (ltr c))) mem) := by
  refine am_enter (ls := [some (.inr (.inr 1012)), some (.inl c), some (.inl 0), some (.inl 7), none, none]) (by decide) rfl (Nat.le_of_ble_eq_true rfl) rfl ?_
  have hb : am_i2b c = c ∨ (127 < c ∧ am_i2b c < 0) := by unfold am_i2b; omega
  refine rn_iload_n (x := c) (q := 1) dJ1_indexOfChar_4cfef_0 rfl rfl ?_
  refine rn_i2b (q := 2) dJ1_indexOfChar_4cfef_1 rfl ?_
  refine rn_istore (ls' := [some (.inr (.inr 1012)), some (.inl c), some (.inl 0), some (.inl 7), some (.inl (am_i2b c)), none]) (q := 4) dJ1_indexOfChar_4cfef_2 (by decide) rfl rfl ?_
  refine rn_iload_n (x := 0) (q := 5) dJ1_indexOfChar_4cfef_4 rfl rfl ?_
  refine rn_istore (ls' := [some (.inr (.inr 1012)), some (.inl c), some (.inl 0), some (.inl 7), some (.inl (am_i2b c)), some (.inl 0)]) (q := 7) dJ1_indexOfChar_4cfef_5 (by decide) rfl rfl ?_
  refine rn_iload (x := 0) (q := 9) dJ1_indexOfChar_4cfef_7 rfl rfl ?_
  refine rn_iload_n (x := 7) (q := 10) dJ1_indexOfChar_4cfef_9 rfl rfl ?_
  refine rn_cmpge (t := 31) (q := 13) dJ1_indexOfChar_4cfef_10 rfl rfl (fun h => absurd h (by decide)) (fun w10 => ?_)
  refine rn_aload_n (x := 1011) (q := 14) dJ1_indexOfChar_4cfef_13 rfl rfl ?_
  refine rn_iload (x := 0) (q := 16) dJ1_indexOfChar_4cfef_14 rfl rfl ?_
  refine rn_sbald 0 (by decide) (q := 17) dJ1_indexOfChar_4cfef_16 (by decide) (by decide) rfl ?_
  show am_Rn l G _ _ 17 [some (.inr (.inr 1012)), some (.inl c), some (.inl 0), some (.inl 7), some (.inl (am_i2b c)), some (.inl 0)] [.inl 118] mem _
  refine rn_iload (x := am_i2b c) (q := 19) dJ1_indexOfChar_4cfef_17 rfl rfl ?_
  refine rn_cmpne (t := 25) (q := 22) dJ1_indexOfChar_4cfef_19 rfl rfl (fun w19 => ?_) (fun w19 => ?_)
  · refine rn_iincN (x := 0) (z := 1) (ls' := [some (.inr (.inr 1012)), some (.inl c), some (.inl 0), some (.inl 7), some (.inl (am_i2b c)), some (.inl 1)]) (q := 28) dJ1_indexOfChar_4cfef_25 rfl (by decide) rfl (by unfold am_ok; omega) rfl rfl ?_
    refine rn_goto (t := 7) dJ1_indexOfChar_4cfef_28 rfl ?_
    refine rn_iload (x := 1) (q := 9) dJ1_indexOfChar_4cfef_7 rfl rfl ?_
    refine rn_iload_n (x := 7) (q := 10) dJ1_indexOfChar_4cfef_9 rfl rfl ?_
    refine rn_cmpge (t := 31) (q := 13) dJ1_indexOfChar_4cfef_10 rfl rfl (fun h => absurd h (by decide)) (fun w10_1 => ?_)
    refine rn_aload_n (x := 1011) (q := 14) dJ1_indexOfChar_4cfef_13 rfl rfl ?_
    refine rn_iload (x := 1) (q := 16) dJ1_indexOfChar_4cfef_14 rfl rfl ?_
    refine rn_sbald 0 (by decide) (q := 17) dJ1_indexOfChar_4cfef_16 (by decide) (by decide) rfl ?_
    show am_Rn l G _ _ 17 [some (.inr (.inr 1012)), some (.inl c), some (.inl 0), some (.inl 7), some (.inl (am_i2b c)), some (.inl 1)] [.inl 107] mem _
    refine rn_iload (x := am_i2b c) (q := 19) dJ1_indexOfChar_4cfef_17 rfl rfl ?_
    refine rn_cmpne (t := 25) (q := 22) dJ1_indexOfChar_4cfef_19 rfl rfl (fun w19_1 => ?_) (fun w19_1 => ?_)
    · refine rn_iincN (x := 1) (z := 2) (ls' := [some (.inr (.inr 1012)), some (.inl c), some (.inl 0), some (.inl 7), some (.inl (am_i2b c)), some (.inl 2)]) (q := 28) dJ1_indexOfChar_4cfef_25 rfl (by decide) rfl (by unfold am_ok; omega) rfl rfl ?_
      refine rn_goto (t := 7) dJ1_indexOfChar_4cfef_28 rfl ?_
      refine rn_iload (x := 2) (q := 9) dJ1_indexOfChar_4cfef_7 rfl rfl ?_
      refine rn_iload_n (x := 7) (q := 10) dJ1_indexOfChar_4cfef_9 rfl rfl ?_
      refine rn_cmpge (t := 31) (q := 13) dJ1_indexOfChar_4cfef_10 rfl rfl (fun h => absurd h (by decide)) (fun w10_2 => ?_)
      refine rn_aload_n (x := 1011) (q := 14) dJ1_indexOfChar_4cfef_13 rfl rfl ?_
      refine rn_iload (x := 2) (q := 16) dJ1_indexOfChar_4cfef_14 rfl rfl ?_
      refine rn_sbald 0 (by decide) (q := 17) dJ1_indexOfChar_4cfef_16 (by decide) (by decide) rfl ?_
      show am_Rn l G _ _ 17 [some (.inr (.inr 1012)), some (.inl c), some (.inl 0), some (.inl 7), some (.inl (am_i2b c)), some (.inl 2)] [.inl 104] mem _
      refine rn_iload (x := am_i2b c) (q := 19) dJ1_indexOfChar_4cfef_17 rfl rfl ?_
      refine rn_cmpne (t := 25) (q := 22) dJ1_indexOfChar_4cfef_19 rfl rfl (fun w19_2 => ?_) (fun w19_2 => ?_)
      · refine rn_iincN (x := 2) (z := 3) (ls' := [some (.inr (.inr 1012)), some (.inl c), some (.inl 0), some (.inl 7), some (.inl (am_i2b c)), some (.inl 3)]) (q := 28) dJ1_indexOfChar_4cfef_25 rfl (by decide) rfl (by unfold am_ok; omega) rfl rfl ?_
        refine rn_goto (t := 7) dJ1_indexOfChar_4cfef_28 rfl ?_
        refine rn_iload (x := 3) (q := 9) dJ1_indexOfChar_4cfef_7 rfl rfl ?_
        refine rn_iload_n (x := 7) (q := 10) dJ1_indexOfChar_4cfef_9 rfl rfl ?_
        refine rn_cmpge (t := 31) (q := 13) dJ1_indexOfChar_4cfef_10 rfl rfl (fun h => absurd h (by decide)) (fun w10_3 => ?_)
        refine rn_aload_n (x := 1011) (q := 14) dJ1_indexOfChar_4cfef_13 rfl rfl ?_
        refine rn_iload (x := 3) (q := 16) dJ1_indexOfChar_4cfef_14 rfl rfl ?_
        refine rn_sbald 0 (by decide) (q := 17) dJ1_indexOfChar_4cfef_16 (by decide) (by decide) rfl ?_
        show am_Rn l G _ _ 17 [some (.inr (.inr 1012)), some (.inl c), some (.inl 0), some (.inl 7), some (.inl (am_i2b c)), some (.inl 3)] [.inl 119] mem _
        refine rn_iload (x := am_i2b c) (q := 19) dJ1_indexOfChar_4cfef_17 rfl rfl ?_
        refine rn_cmpne (t := 25) (q := 22) dJ1_indexOfChar_4cfef_19 rfl rfl (fun w19_3 => ?_) (fun w19_3 => ?_)
        · refine rn_iincN (x := 3) (z := 4) (ls' := [some (.inr (.inr 1012)), some (.inl c), some (.inl 0), some (.inl 7), some (.inl (am_i2b c)), some (.inl 4)]) (q := 28) dJ1_indexOfChar_4cfef_25 rfl (by decide) rfl (by unfold am_ok; omega) rfl rfl ?_
          refine rn_goto (t := 7) dJ1_indexOfChar_4cfef_28 rfl ?_
          refine rn_iload (x := 4) (q := 9) dJ1_indexOfChar_4cfef_7 rfl rfl ?_
          refine rn_iload_n (x := 7) (q := 10) dJ1_indexOfChar_4cfef_9 rfl rfl ?_
          refine rn_cmpge (t := 31) (q := 13) dJ1_indexOfChar_4cfef_10 rfl rfl (fun h => absurd h (by decide)) (fun w10_4 => ?_)
          refine rn_aload_n (x := 1011) (q := 14) dJ1_indexOfChar_4cfef_13 rfl rfl ?_
          refine rn_iload (x := 4) (q := 16) dJ1_indexOfChar_4cfef_14 rfl rfl ?_
          refine rn_sbald 0 (by decide) (q := 17) dJ1_indexOfChar_4cfef_16 (by decide) (by decide) rfl ?_
          show am_Rn l G _ _ 17 [some (.inr (.inr 1012)), some (.inl c), some (.inl 0), some (.inl 7), some (.inl (am_i2b c)), some (.inl 4)] [.inl 112] mem _
          refine rn_iload (x := am_i2b c) (q := 19) dJ1_indexOfChar_4cfef_17 rfl rfl ?_
          refine rn_cmpne (t := 25) (q := 22) dJ1_indexOfChar_4cfef_19 rfl rfl (fun w19_4 => ?_) (fun w19_4 => ?_)
          · refine rn_iincN (x := 4) (z := 5) (ls' := [some (.inr (.inr 1012)), some (.inl c), some (.inl 0), some (.inl 7), some (.inl (am_i2b c)), some (.inl 5)]) (q := 28) dJ1_indexOfChar_4cfef_25 rfl (by decide) rfl (by unfold am_ok; omega) rfl rfl ?_
            refine rn_goto (t := 7) dJ1_indexOfChar_4cfef_28 rfl ?_
            refine rn_iload (x := 5) (q := 9) dJ1_indexOfChar_4cfef_7 rfl rfl ?_
            refine rn_iload_n (x := 7) (q := 10) dJ1_indexOfChar_4cfef_9 rfl rfl ?_
            refine rn_cmpge (t := 31) (q := 13) dJ1_indexOfChar_4cfef_10 rfl rfl (fun h => absurd h (by decide)) (fun w10_5 => ?_)
            refine rn_aload_n (x := 1011) (q := 14) dJ1_indexOfChar_4cfef_13 rfl rfl ?_
            refine rn_iload (x := 5) (q := 16) dJ1_indexOfChar_4cfef_14 rfl rfl ?_
            refine rn_sbald 0 (by decide) (q := 17) dJ1_indexOfChar_4cfef_16 (by decide) (by decide) rfl ?_
            show am_Rn l G _ _ 17 [some (.inr (.inr 1012)), some (.inl c), some (.inl 0), some (.inl 7), some (.inl (am_i2b c)), some (.inl 5)] [.inl 110] mem _
            refine rn_iload (x := am_i2b c) (q := 19) dJ1_indexOfChar_4cfef_17 rfl rfl ?_
            refine rn_cmpne (t := 25) (q := 22) dJ1_indexOfChar_4cfef_19 rfl rfl (fun w19_5 => ?_) (fun w19_5 => ?_)
            · refine rn_iincN (x := 5) (z := 6) (ls' := [some (.inr (.inr 1012)), some (.inl c), some (.inl 0), some (.inl 7), some (.inl (am_i2b c)), some (.inl 6)]) (q := 28) dJ1_indexOfChar_4cfef_25 rfl (by decide) rfl (by unfold am_ok; omega) rfl rfl ?_
              refine rn_goto (t := 7) dJ1_indexOfChar_4cfef_28 rfl ?_
              refine rn_iload (x := 6) (q := 9) dJ1_indexOfChar_4cfef_7 rfl rfl ?_
              refine rn_iload_n (x := 7) (q := 10) dJ1_indexOfChar_4cfef_9 rfl rfl ?_
              refine rn_cmpge (t := 31) (q := 13) dJ1_indexOfChar_4cfef_10 rfl rfl (fun h => absurd h (by decide)) (fun w10_6 => ?_)
              refine rn_aload_n (x := 1011) (q := 14) dJ1_indexOfChar_4cfef_13 rfl rfl ?_
              refine rn_iload (x := 6) (q := 16) dJ1_indexOfChar_4cfef_14 rfl rfl ?_
              refine rn_sbald 0 (by decide) (q := 17) dJ1_indexOfChar_4cfef_16 (by decide) (by decide) rfl ?_
              show am_Rn l G _ _ 17 [some (.inr (.inr 1012)), some (.inl c), some (.inl 0), some (.inl 7), some (.inl (am_i2b c)), some (.inl 6)] [.inl 99] mem _
              refine rn_iload (x := am_i2b c) (q := 19) dJ1_indexOfChar_4cfef_17 rfl rfl ?_
              refine rn_cmpne (t := 25) (q := 22) dJ1_indexOfChar_4cfef_19 rfl rfl (fun w19_6 => ?_) (fun w19_6 => ?_)
              · refine rn_iincN (x := 6) (z := 7) (ls' := [some (.inr (.inr 1012)), some (.inl c), some (.inl 0), some (.inl 7), some (.inl (am_i2b c)), some (.inl 7)]) (q := 28) dJ1_indexOfChar_4cfef_25 rfl (by decide) rfl (by unfold am_ok; omega) rfl rfl ?_
                refine rn_goto (t := 7) dJ1_indexOfChar_4cfef_28 rfl ?_
                refine rn_iload (x := 7) (q := 9) dJ1_indexOfChar_4cfef_7 rfl rfl ?_
                refine rn_iload_n (x := 7) (q := 10) dJ1_indexOfChar_4cfef_9 rfl rfl ?_
                refine rn_cmpge (t := 31) (q := 13) dJ1_indexOfChar_4cfef_10 rfl rfl (fun w10_7 => ?_) (fun h => absurd h (by decide))
                refine rn_iconst (q := 32) dJ1_indexOfChar_4cfef_31 (am_okd rfl) rfl ?_
                refine rn_iret dJ1_indexOfChar_4cfef_32 rfl ?_
                exact ⟨by unfold ltr; congr 2; repeat' split <;> omega, rfl⟩
              · refine rn_iload (x := 6) (q := 24) dJ1_indexOfChar_4cfef_22 rfl rfl ?_
                refine rn_iret dJ1_indexOfChar_4cfef_24 rfl ?_
                exact ⟨by unfold ltr; congr 2; repeat' split <;> omega, rfl⟩
            · refine rn_iload (x := 5) (q := 24) dJ1_indexOfChar_4cfef_22 rfl rfl ?_
              refine rn_iret dJ1_indexOfChar_4cfef_24 rfl ?_
              exact ⟨by unfold ltr; congr 2; repeat' split <;> omega, rfl⟩
          · refine rn_iload (x := 4) (q := 24) dJ1_indexOfChar_4cfef_22 rfl rfl ?_
            refine rn_iret dJ1_indexOfChar_4cfef_24 rfl ?_
            exact ⟨by unfold ltr; congr 2; repeat' split <;> omega, rfl⟩
        · refine rn_iload (x := 3) (q := 24) dJ1_indexOfChar_4cfef_22 rfl rfl ?_
          refine rn_iret dJ1_indexOfChar_4cfef_24 rfl ?_
          exact ⟨by unfold ltr; congr 2; repeat' split <;> omega, rfl⟩
      · refine rn_iload (x := 2) (q := 24) dJ1_indexOfChar_4cfef_22 rfl rfl ?_
        refine rn_iret dJ1_indexOfChar_4cfef_24 rfl ?_
        exact ⟨by unfold ltr; congr 2; repeat' split <;> omega, rfl⟩
    · refine rn_iload (x := 1) (q := 24) dJ1_indexOfChar_4cfef_22 rfl rfl ?_
      refine rn_iret dJ1_indexOfChar_4cfef_24 rfl ?_
      exact ⟨by unfold ltr; congr 2; repeat' split <;> omega, rfl⟩
  · refine rn_iload (x := 0) (q := 24) dJ1_indexOfChar_4cfef_22 rfl rfl ?_
    refine rn_iret dJ1_indexOfChar_4cfef_24 rfl ?_
    exact ⟨by unfold ltr; congr 2; repeat' split <;> omega, rfl⟩
theorem s_ixl0 (c : Int) : am_Sm l G yJ1_indexOf_4cfef mt_J1_indexOf_4cfef (d + 1) [.inr (.inr 1012), .inl c, .inl 0, .inl 7] mem (am_rr (some (.inl (ltr c))) mem) := by
  refine am_enter (ls := [some (.inr (.inr 1012)), some (.inl c), some (.inl 0), some (.inl 7)]) (by decide) rfl (Nat.le_of_ble_eq_true rfl) rfl ?_
  by_cases hc : 0 ≤ c ∧ c ≤ 255
  · have hce := s_canEnc (l := l) (G := G) (d := d) (mem := mem) c
    rw [if_pos hc] at hce
    refine rn_iload_n (x := c) (q := 1) dJ1_indexOf_4cfef_0 rfl rfl ?_
    refine rn_callS (as := [.inl c]) (rest := []) (q := 4) dJ1_indexOf_4cfef_1 ml_J1_88 smj_J1_canEncode_9a6ad (by omega) rfl rfl (Nat.le_of_ble_eq_true rfl) rfl (hce) ?_
    intro r1 mem1 hq1
    obtain ⟨rfl, rfl⟩ := hq1
    show am_Rn l G _ _ 4 [some (.inr (.inr 1012)), some (.inl c), some (.inl 0), some (.inl 7)] [.inl 1] mem _
    refine rn_ifne (t := 9) (q := 7) dJ1_indexOf_4cfef_4 rfl rfl (fun w4 => ?_) (fun h => absurd h (by decide))
    refine rn_iload_n (x := 0) (q := 10) dJ1_indexOf_4cfef_9 rfl rfl ?_
    refine rn_iconst (q := 11) dJ1_indexOf_4cfef_10 (am_okd rfl) rfl ?_
    refine rn_mmax (q := 14) dJ1_indexOf_4cfef_11 am_mm_J1_92 am_mmaxw (Nat.le_of_ble_eq_true rfl) rfl ?_
    refine rn_istore_n (ls' := [some (.inr (.inr 1012)), some (.inl c), some (.inl (max 0 0)), some (.inl 7)]) (q := 15) dJ1_indexOf_4cfef_14 (by decide) rfl rfl ?_
    rw [show max (0 : Int) 0 = 0 from rfl]
    refine rn_iload_n (x := 7) (q := 16) dJ1_indexOf_4cfef_15 rfl rfl ?_
    refine rn_aload_n (x := 1011) (q := 17) dJ1_indexOf_4cfef_16 rfl rfl ?_
    refine rn_slen 0 (by decide) (q := 18) dJ1_indexOf_4cfef_17 rfl ?_
    show am_Rn l G _ _ 18 [some (.inr (.inr 1012)), some (.inl c), some (.inl 0), some (.inl 7)] [.inl 7, .inl 7] mem _
    refine rn_mmin (q := 21) dJ1_indexOf_4cfef_18 am_mm_J1_38 am_mminw (Nat.le_of_ble_eq_true rfl) rfl ?_
    refine rn_istore_n (ls' := [some (.inr (.inr 1012)), some (.inl c), some (.inl 0), some (.inl (min 7 7))]) (q := 22) dJ1_indexOf_4cfef_21 (by decide) rfl rfl ?_
    rw [show min (7 : Int) 7 = 7 from rfl]
    refine rn_iload_n (x := 0) (q := 23) dJ1_indexOf_4cfef_22 rfl rfl ?_
    refine rn_iload_n (x := 7) (q := 24) dJ1_indexOf_4cfef_23 rfl rfl ?_
    refine rn_cmplt (t := 29) (q := 27) dJ1_indexOf_4cfef_24 rfl rfl (fun w24 => ?_) (fun h => absurd h (by decide))
    refine rn_aload_n (x := 1011) (q := 30) dJ1_indexOf_4cfef_29 rfl rfl ?_
    refine rn_iload_n (x := c) (q := 31) dJ1_indexOf_4cfef_30 rfl rfl ?_
    refine rn_iload_n (x := 0) (q := 32) dJ1_indexOf_4cfef_31 rfl rfl ?_
    refine rn_iload_n (x := 7) (q := 33) dJ1_indexOf_4cfef_32 rfl rfl ?_
    refine rn_callS (as := [.inr (.inr 1012), .inl c, .inl 0, .inl 7]) (rest := []) (q := 36) dJ1_indexOf_4cfef_33 ml_J1_95 smj_J1_indexOfChar_4cfef (by omega) rfl rfl (Nat.le_of_ble_eq_true rfl) rfl (s_ixc0 (d := d) c hc) ?_
    intro r33 mem33 hq33
    obtain ⟨rfl, rfl⟩ := hq33
    show am_Rn l G _ _ 36 [some (.inr (.inr 1012)), some (.inl c), some (.inl 0), some (.inl 7)] [.inl (ltr c)] mem _
    refine rn_iret dJ1_indexOf_4cfef_36 rfl ?_
    exact ⟨rfl, rfl⟩
  · have hce := s_canEnc (l := l) (G := G) (d := d) (mem := mem) c
    rw [if_neg hc] at hce
    refine rn_iload_n (x := c) (q := 1) dJ1_indexOf_4cfef_0 rfl rfl ?_
    refine rn_callS (as := [.inl c]) (rest := []) (q := 4) dJ1_indexOf_4cfef_1 ml_J1_88 smj_J1_canEncode_9a6ad (by omega) rfl rfl (Nat.le_of_ble_eq_true rfl) rfl (hce) ?_
    intro r1 mem1 hq1
    obtain ⟨rfl, rfl⟩ := hq1
    show am_Rn l G _ _ 4 [some (.inr (.inr 1012)), some (.inl c), some (.inl 0), some (.inl 7)] [.inl 0] mem _
    refine rn_ifne (t := 9) (q := 7) dJ1_indexOf_4cfef_4 rfl rfl (fun h => absurd h (by decide)) (fun w4 => ?_)
    refine rn_iconst (q := 8) dJ1_indexOf_4cfef_7 (am_okd rfl) rfl ?_
    refine rn_iret dJ1_indexOf_4cfef_8 rfl ?_
    exact ⟨by unfold ltr; congr 2; repeat' split <;> omega, rfl⟩
theorem s_ix20 (c : Int) : am_Sm l G yJ0_indexOf_7cf53 mt_J0_indexOf_7cf53 (d + 2) [.inr (.inr 1002), .inl c, .inl 0] mem (am_rr (some (.inl (ltr c))) mem) := by
  refine am_enter (ls := [some (.inr (.inr 1002)), some (.inl c), some (.inl 0)]) (by decide) rfl (Nat.le_of_ble_eq_true rfl) rfl ?_
  refine rn_aload_n (x := 1001) (q := 1) dJ0_indexOf_7cf53_0 rfl rfl ?_
  refine rn_callVS 0 (by decide) (as := []) (rest := []) (q := 4) dJ0_indexOf_7cf53_1 ml_J0_492 smj_J0_isLatin1_aae02 (by omega) rfl rfl (Nat.le_of_ble_eq_true rfl) rfl (s_isLat0 (d := d)) ?_
  intro r1 mem1 hq1
  obtain ⟨rfl, rfl⟩ := hq1
  show am_Rn l G _ _ 4 [some (.inr (.inr 1002)), some (.inl c), some (.inl 0)] [.inl 1] mem _
  refine rn_ifeq (t := 23) (q := 7) dJ0_indexOf_7cf53_4 rfl rfl (fun h => absurd h (by decide)) (fun w4 => ?_)
  refine rn_aload_n (x := 1001) (q := 8) dJ0_indexOf_7cf53_7 rfl rfl ?_
  refine rn_sgetv 0 (by decide) (q := 11) dJ0_indexOf_7cf53_8 rfl rfl ?_
  show am_Rn l G _ _ 11 [some (.inr (.inr 1002)), some (.inl c), some (.inl 0)] [.inr (.inr 1012)] mem _
  refine rn_iload_n (x := c) (q := 12) dJ0_indexOf_7cf53_11 rfl rfl ?_
  refine rn_iload_n (x := 0) (q := 13) dJ0_indexOf_7cf53_12 rfl rfl ?_
  refine rn_aload_n (x := 1001) (q := 14) dJ0_indexOf_7cf53_13 rfl rfl ?_
  refine rn_callVS 0 (by decide) (as := []) (rest := [.inl 0, .inl c, .inr (.inr 1012)]) (q := 17) dJ0_indexOf_7cf53_14 ml_J0_505 smj_J0_length_8abf5 (by omega) rfl rfl (Nat.le_of_ble_eq_true rfl) rfl (s_slen0 (d := d)) ?_
  intro r14 mem14 hq14
  obtain ⟨rfl, rfl⟩ := hq14
  show am_Rn l G _ _ 17 [some (.inr (.inr 1002)), some (.inl c), some (.inl 0)] [.inl 7, .inl 0, .inl c, .inr (.inr 1012)] mem _
  refine rn_callS (as := [.inr (.inr 1012), .inl c, .inl 0, .inl 7]) (rest := []) (q := 20) dJ0_indexOf_7cf53_17 ml_J0_637 smj_J1_indexOf_4cfef (by omega) rfl rfl (Nat.le_of_ble_eq_true rfl) rfl (s_ixl0 (d := d) c) ?_
  intro r17 mem17 hq17
  obtain ⟨rfl, rfl⟩ := hq17
  show am_Rn l G _ _ 20 [some (.inr (.inr 1002)), some (.inl c), some (.inl 0)] [.inl (ltr c)] mem _
  refine rn_goto (t := 36) dJ0_indexOf_7cf53_20 rfl ?_
  refine rn_iret dJ0_indexOf_7cf53_36 rfl ?_
  exact ⟨rfl, rfl⟩
theorem s_ix0 (c : Int) : am_Sm l G yJ0_indexOf_0f7a4 mt_J0_indexOf_0f7a4 (d + 3) [.inr (.inr 1002), .inl c] mem (am_rr (some (.inl (ltr c))) mem) := by
  refine am_enter (ls := [some (.inr (.inr 1002)), some (.inl c)]) (by decide) rfl (Nat.le_of_ble_eq_true rfl) rfl ?_
  refine rn_aload_n (x := 1001) (q := 1) dJ0_indexOf_0f7a4_0 rfl rfl ?_
  refine rn_iload_n (x := c) (q := 2) dJ0_indexOf_0f7a4_1 rfl rfl ?_
  refine rn_iconst (q := 3) dJ0_indexOf_0f7a4_2 (am_okd rfl) rfl ?_
  refine rn_callVS 0 (by decide) (as := [.inl c, .inl 0]) (rest := []) (q := 6) dJ0_indexOf_0f7a4_3 ml_J0_633 smj_J0_indexOf_7cf53 (by omega) rfl rfl (Nat.le_of_ble_eq_true rfl) rfl (s_ix20 (d := d) c) ?_
  intro r3 mem3 hq3
  obtain ⟨rfl, rfl⟩ := hq3
  show am_Rn l G _ _ 6 [some (.inr (.inr 1002)), some (.inl c)] [.inl (ltr c)] mem _
  refine rn_iret dJ0_indexOf_0f7a4_6 rfl ?_
  exact ⟨rfl, rfl⟩
theorem s_coder1 : am_Sm l G yJ0_coder_7d493 mt_J0_coder_7d493 d [.inr (.inr 1003)] mem (am_rr (some (.inl 0)) mem) := by
  refine am_enter (ls := [some (.inr (.inr 1003))]) (by decide) rfl (Nat.le_of_ble_eq_true rfl) rfl ?_
  refine rn_getcs (q := 3) dJ0_coder_7d493_0 rfl rfl ?_
  refine rn_ifeq (t := 13) (q := 6) dJ0_coder_7d493_3 rfl rfl (fun h => absurd h (by decide)) (fun w3 => ?_)
  refine rn_aload_n (x := 1002) (q := 7) dJ0_coder_7d493_6 rfl rfl ?_
  refine rn_sgetc 1 (by decide) (q := 10) dJ0_coder_7d493_7 rfl rfl ?_
  show am_Rn l G _ _ 10 [some (.inr (.inr 1003))] [.inl 0] mem _
  refine rn_goto (t := 14) dJ0_coder_7d493_10 rfl ?_
  refine rn_bret dJ0_coder_7d493_14 rfl rfl ?_
  exact ⟨rfl, rfl⟩
theorem s_isLat1 : am_Sm l G yJ0_isLatin1_aae02 mt_J0_isLatin1_aae02 d [.inr (.inr 1003)] mem (am_rr (some (.inl 1)) mem) := by
  refine am_enter (ls := [some (.inr (.inr 1003))]) (by decide) rfl (Nat.le_of_ble_eq_true rfl) rfl ?_
  refine rn_getcs (q := 3) dJ0_isLatin1_aae02_0 rfl rfl ?_
  refine rn_ifeq (t := 17) (q := 6) dJ0_isLatin1_aae02_3 rfl rfl (fun h => absurd h (by decide)) (fun w3 => ?_)
  refine rn_aload_n (x := 1002) (q := 7) dJ0_isLatin1_aae02_6 rfl rfl ?_
  refine rn_sgetc 1 (by decide) (q := 10) dJ0_isLatin1_aae02_7 rfl rfl ?_
  show am_Rn l G _ _ 10 [some (.inr (.inr 1003))] [.inl 0] mem _
  refine rn_ifne (t := 17) (q := 13) dJ0_isLatin1_aae02_10 rfl rfl (fun h => absurd h (by decide)) (fun w10 => ?_)
  refine rn_iconst (q := 14) dJ0_isLatin1_aae02_13 (am_okd rfl) rfl ?_
  refine rn_goto (t := 18) dJ0_isLatin1_aae02_14 rfl ?_
  refine rn_zret dJ0_isLatin1_aae02_18 rfl (by omega) ?_
  exact ⟨rfl, rfl⟩
theorem s_slen1 : am_Sm l G yJ0_length_8abf5 mt_J0_length_8abf5 (d + 1) [.inr (.inr 1003)] mem (am_rr (some (.inl 4)) mem) := by
  refine am_enter (ls := [some (.inr (.inr 1003))]) (by decide) rfl (Nat.le_of_ble_eq_true rfl) rfl ?_
  refine rn_aload_n (x := 1002) (q := 1) dJ0_length_8abf5_0 rfl rfl ?_
  refine rn_sgetv 1 (by decide) (q := 4) dJ0_length_8abf5_1 rfl rfl ?_
  show am_Rn l G _ _ 4 [some (.inr (.inr 1003))] [.inr (.inr 1013)] mem _
  refine rn_slen 1 (by decide) (q := 5) dJ0_length_8abf5_4 rfl ?_
  show am_Rn l G _ _ 5 [some (.inr (.inr 1003))] [.inl 4] mem _
  refine rn_aload_n (x := 1002) (q := 6) dJ0_length_8abf5_5 rfl rfl ?_
  refine rn_callVS 1 (by decide) (as := []) (rest := [.inl 4]) (q := 9) dJ0_length_8abf5_6 ml_J0_335 smj_J0_coder_7d493 (by omega) rfl rfl (Nat.le_of_ble_eq_true rfl) rfl (s_coder1 (d := d)) ?_
  intro r6 mem6 hq6
  obtain ⟨rfl, rfl⟩ := hq6
  show am_Rn l G _ _ 9 [some (.inr (.inr 1003))] [.inl 0, .inl 4] mem _
  refine rn_ishr (q := 10) dJ0_length_8abf5_9 rfl ?_
  rw [show am_shr 4 0 = 4 from (by decide)]
  refine rn_iret dJ0_length_8abf5_10 rfl ?_
  exact ⟨rfl, rfl⟩
set_option maxHeartbeats 2000000 in
theorem s_ixc1 (c : Int) (hc : 0 ≤ c ∧ c ≤ 255) : am_Sm l G yJ1_indexOfChar_4cfef mt_J1_indexOfChar_4cfef d [.inr (.inr 1013), .inl c, .inl 0, .inl 4] mem (am_rr (some (.inl (srt c))) mem) := by
  refine am_enter (ls := [some (.inr (.inr 1013)), some (.inl c), some (.inl 0), some (.inl 4), none, none]) (by decide) rfl (Nat.le_of_ble_eq_true rfl) rfl ?_
  have hb : am_i2b c = c ∨ (127 < c ∧ am_i2b c < 0) := by unfold am_i2b; omega
  refine rn_iload_n (x := c) (q := 1) dJ1_indexOfChar_4cfef_0 rfl rfl ?_
  refine rn_i2b (q := 2) dJ1_indexOfChar_4cfef_1 rfl ?_
  refine rn_istore (ls' := [some (.inr (.inr 1013)), some (.inl c), some (.inl 0), some (.inl 4), some (.inl (am_i2b c)), none]) (q := 4) dJ1_indexOfChar_4cfef_2 (by decide) rfl rfl ?_
  refine rn_iload_n (x := 0) (q := 5) dJ1_indexOfChar_4cfef_4 rfl rfl ?_
  refine rn_istore (ls' := [some (.inr (.inr 1013)), some (.inl c), some (.inl 0), some (.inl 4), some (.inl (am_i2b c)), some (.inl 0)]) (q := 7) dJ1_indexOfChar_4cfef_5 (by decide) rfl rfl ?_
  refine rn_iload (x := 0) (q := 9) dJ1_indexOfChar_4cfef_7 rfl rfl ?_
  refine rn_iload_n (x := 4) (q := 10) dJ1_indexOfChar_4cfef_9 rfl rfl ?_
  refine rn_cmpge (t := 31) (q := 13) dJ1_indexOfChar_4cfef_10 rfl rfl (fun h => absurd h (by decide)) (fun w10 => ?_)
  refine rn_aload_n (x := 1012) (q := 14) dJ1_indexOfChar_4cfef_13 rfl rfl ?_
  refine rn_iload (x := 0) (q := 16) dJ1_indexOfChar_4cfef_14 rfl rfl ?_
  refine rn_sbald 1 (by decide) (q := 17) dJ1_indexOfChar_4cfef_16 (by decide) (by decide) rfl ?_
  show am_Rn l G _ _ 17 [some (.inr (.inr 1013)), some (.inl c), some (.inl 0), some (.inl 4), some (.inl (am_i2b c)), some (.inl 0)] [.inl 111] mem _
  refine rn_iload (x := am_i2b c) (q := 19) dJ1_indexOfChar_4cfef_17 rfl rfl ?_
  refine rn_cmpne (t := 25) (q := 22) dJ1_indexOfChar_4cfef_19 rfl rfl (fun w19 => ?_) (fun w19 => ?_)
  · refine rn_iincN (x := 0) (z := 1) (ls' := [some (.inr (.inr 1013)), some (.inl c), some (.inl 0), some (.inl 4), some (.inl (am_i2b c)), some (.inl 1)]) (q := 28) dJ1_indexOfChar_4cfef_25 rfl (by decide) rfl (by unfold am_ok; omega) rfl rfl ?_
    refine rn_goto (t := 7) dJ1_indexOfChar_4cfef_28 rfl ?_
    refine rn_iload (x := 1) (q := 9) dJ1_indexOfChar_4cfef_7 rfl rfl ?_
    refine rn_iload_n (x := 4) (q := 10) dJ1_indexOfChar_4cfef_9 rfl rfl ?_
    refine rn_cmpge (t := 31) (q := 13) dJ1_indexOfChar_4cfef_10 rfl rfl (fun h => absurd h (by decide)) (fun w10_1 => ?_)
    refine rn_aload_n (x := 1012) (q := 14) dJ1_indexOfChar_4cfef_13 rfl rfl ?_
    refine rn_iload (x := 1) (q := 16) dJ1_indexOfChar_4cfef_14 rfl rfl ?_
    refine rn_sbald 1 (by decide) (q := 17) dJ1_indexOfChar_4cfef_16 (by decide) (by decide) rfl ?_
    show am_Rn l G _ _ 17 [some (.inr (.inr 1013)), some (.inl c), some (.inl 0), some (.inl 4), some (.inl (am_i2b c)), some (.inl 1)] [.inl 108] mem _
    refine rn_iload (x := am_i2b c) (q := 19) dJ1_indexOfChar_4cfef_17 rfl rfl ?_
    refine rn_cmpne (t := 25) (q := 22) dJ1_indexOfChar_4cfef_19 rfl rfl (fun w19_1 => ?_) (fun w19_1 => ?_)
    · refine rn_iincN (x := 1) (z := 2) (ls' := [some (.inr (.inr 1013)), some (.inl c), some (.inl 0), some (.inl 4), some (.inl (am_i2b c)), some (.inl 2)]) (q := 28) dJ1_indexOfChar_4cfef_25 rfl (by decide) rfl (by unfold am_ok; omega) rfl rfl ?_
      refine rn_goto (t := 7) dJ1_indexOfChar_4cfef_28 rfl ?_
      refine rn_iload (x := 2) (q := 9) dJ1_indexOfChar_4cfef_7 rfl rfl ?_
      refine rn_iload_n (x := 4) (q := 10) dJ1_indexOfChar_4cfef_9 rfl rfl ?_
      refine rn_cmpge (t := 31) (q := 13) dJ1_indexOfChar_4cfef_10 rfl rfl (fun h => absurd h (by decide)) (fun w10_2 => ?_)
      refine rn_aload_n (x := 1012) (q := 14) dJ1_indexOfChar_4cfef_13 rfl rfl ?_
      refine rn_iload (x := 2) (q := 16) dJ1_indexOfChar_4cfef_14 rfl rfl ?_
      refine rn_sbald 1 (by decide) (q := 17) dJ1_indexOfChar_4cfef_16 (by decide) (by decide) rfl ?_
      show am_Rn l G _ _ 17 [some (.inr (.inr 1013)), some (.inl c), some (.inl 0), some (.inl 4), some (.inl (am_i2b c)), some (.inl 2)] [.inl 99] mem _
      refine rn_iload (x := am_i2b c) (q := 19) dJ1_indexOfChar_4cfef_17 rfl rfl ?_
      refine rn_cmpne (t := 25) (q := 22) dJ1_indexOfChar_4cfef_19 rfl rfl (fun w19_2 => ?_) (fun w19_2 => ?_)
      · refine rn_iincN (x := 2) (z := 3) (ls' := [some (.inr (.inr 1013)), some (.inl c), some (.inl 0), some (.inl 4), some (.inl (am_i2b c)), some (.inl 3)]) (q := 28) dJ1_indexOfChar_4cfef_25 rfl (by decide) rfl (by unfold am_ok; omega) rfl rfl ?_
        refine rn_goto (t := 7) dJ1_indexOfChar_4cfef_28 rfl ?_
        refine rn_iload (x := 3) (q := 9) dJ1_indexOfChar_4cfef_7 rfl rfl ?_
        refine rn_iload_n (x := 4) (q := 10) dJ1_indexOfChar_4cfef_9 rfl rfl ?_
        refine rn_cmpge (t := 31) (q := 13) dJ1_indexOfChar_4cfef_10 rfl rfl (fun h => absurd h (by decide)) (fun w10_3 => ?_)
        refine rn_aload_n (x := 1012) (q := 14) dJ1_indexOfChar_4cfef_13 rfl rfl ?_
        refine rn_iload (x := 3) (q := 16) dJ1_indexOfChar_4cfef_14 rfl rfl ?_
        refine rn_sbald 1 (by decide) (q := 17) dJ1_indexOfChar_4cfef_16 (by decide) (by decide) rfl ?_
        show am_Rn l G _ _ 17 [some (.inr (.inr 1013)), some (.inl c), some (.inl 0), some (.inl 4), some (.inl (am_i2b c)), some (.inl 3)] [.inl 119] mem _
        refine rn_iload (x := am_i2b c) (q := 19) dJ1_indexOfChar_4cfef_17 rfl rfl ?_
        refine rn_cmpne (t := 25) (q := 22) dJ1_indexOfChar_4cfef_19 rfl rfl (fun w19_3 => ?_) (fun w19_3 => ?_)
        · refine rn_iincN (x := 3) (z := 4) (ls' := [some (.inr (.inr 1013)), some (.inl c), some (.inl 0), some (.inl 4), some (.inl (am_i2b c)), some (.inl 4)]) (q := 28) dJ1_indexOfChar_4cfef_25 rfl (by decide) rfl (by unfold am_ok; omega) rfl rfl ?_
          refine rn_goto (t := 7) dJ1_indexOfChar_4cfef_28 rfl ?_
          refine rn_iload (x := 4) (q := 9) dJ1_indexOfChar_4cfef_7 rfl rfl ?_
          refine rn_iload_n (x := 4) (q := 10) dJ1_indexOfChar_4cfef_9 rfl rfl ?_
          refine rn_cmpge (t := 31) (q := 13) dJ1_indexOfChar_4cfef_10 rfl rfl (fun w10_4 => ?_) (fun h => absurd h (by decide))
          refine rn_iconst (q := 32) dJ1_indexOfChar_4cfef_31 (am_okd rfl) rfl ?_
          refine rn_iret dJ1_indexOfChar_4cfef_32 rfl ?_
          exact ⟨by unfold srt; congr 2; repeat' split <;> omega, rfl⟩
        · refine rn_iload (x := 3) (q := 24) dJ1_indexOfChar_4cfef_22 rfl rfl ?_
          refine rn_iret dJ1_indexOfChar_4cfef_24 rfl ?_
          exact ⟨by unfold srt; congr 2; repeat' split <;> omega, rfl⟩
      · refine rn_iload (x := 2) (q := 24) dJ1_indexOfChar_4cfef_22 rfl rfl ?_
        refine rn_iret dJ1_indexOfChar_4cfef_24 rfl ?_
        exact ⟨by unfold srt; congr 2; repeat' split <;> omega, rfl⟩
    · refine rn_iload (x := 1) (q := 24) dJ1_indexOfChar_4cfef_22 rfl rfl ?_
      refine rn_iret dJ1_indexOfChar_4cfef_24 rfl ?_
      exact ⟨by unfold srt; congr 2; repeat' split <;> omega, rfl⟩
  · refine rn_iload (x := 0) (q := 24) dJ1_indexOfChar_4cfef_22 rfl rfl ?_
    refine rn_iret dJ1_indexOfChar_4cfef_24 rfl ?_
    exact ⟨by unfold srt; congr 2; repeat' split <;> omega, rfl⟩
theorem s_ixl1 (c : Int) : am_Sm l G yJ1_indexOf_4cfef mt_J1_indexOf_4cfef (d + 1) [.inr (.inr 1013), .inl c, .inl 0, .inl 4] mem (am_rr (some (.inl (srt c))) mem) := by
  refine am_enter (ls := [some (.inr (.inr 1013)), some (.inl c), some (.inl 0), some (.inl 4)]) (by decide) rfl (Nat.le_of_ble_eq_true rfl) rfl ?_
  by_cases hc : 0 ≤ c ∧ c ≤ 255
  · have hce := s_canEnc (l := l) (G := G) (d := d) (mem := mem) c
    rw [if_pos hc] at hce
    refine rn_iload_n (x := c) (q := 1) dJ1_indexOf_4cfef_0 rfl rfl ?_
    refine rn_callS (as := [.inl c]) (rest := []) (q := 4) dJ1_indexOf_4cfef_1 ml_J1_88 smj_J1_canEncode_9a6ad (by omega) rfl rfl (Nat.le_of_ble_eq_true rfl) rfl (hce) ?_
    intro r1 mem1 hq1
    obtain ⟨rfl, rfl⟩ := hq1
    show am_Rn l G _ _ 4 [some (.inr (.inr 1013)), some (.inl c), some (.inl 0), some (.inl 4)] [.inl 1] mem _
    refine rn_ifne (t := 9) (q := 7) dJ1_indexOf_4cfef_4 rfl rfl (fun w4 => ?_) (fun h => absurd h (by decide))
    refine rn_iload_n (x := 0) (q := 10) dJ1_indexOf_4cfef_9 rfl rfl ?_
    refine rn_iconst (q := 11) dJ1_indexOf_4cfef_10 (am_okd rfl) rfl ?_
    refine rn_mmax (q := 14) dJ1_indexOf_4cfef_11 am_mm_J1_92 am_mmaxw (Nat.le_of_ble_eq_true rfl) rfl ?_
    refine rn_istore_n (ls' := [some (.inr (.inr 1013)), some (.inl c), some (.inl (max 0 0)), some (.inl 4)]) (q := 15) dJ1_indexOf_4cfef_14 (by decide) rfl rfl ?_
    rw [show max (0 : Int) 0 = 0 from rfl]
    refine rn_iload_n (x := 4) (q := 16) dJ1_indexOf_4cfef_15 rfl rfl ?_
    refine rn_aload_n (x := 1012) (q := 17) dJ1_indexOf_4cfef_16 rfl rfl ?_
    refine rn_slen 1 (by decide) (q := 18) dJ1_indexOf_4cfef_17 rfl ?_
    show am_Rn l G _ _ 18 [some (.inr (.inr 1013)), some (.inl c), some (.inl 0), some (.inl 4)] [.inl 4, .inl 4] mem _
    refine rn_mmin (q := 21) dJ1_indexOf_4cfef_18 am_mm_J1_38 am_mminw (Nat.le_of_ble_eq_true rfl) rfl ?_
    refine rn_istore_n (ls' := [some (.inr (.inr 1013)), some (.inl c), some (.inl 0), some (.inl (min 4 4))]) (q := 22) dJ1_indexOf_4cfef_21 (by decide) rfl rfl ?_
    rw [show min (4 : Int) 4 = 4 from rfl]
    refine rn_iload_n (x := 0) (q := 23) dJ1_indexOf_4cfef_22 rfl rfl ?_
    refine rn_iload_n (x := 4) (q := 24) dJ1_indexOf_4cfef_23 rfl rfl ?_
    refine rn_cmplt (t := 29) (q := 27) dJ1_indexOf_4cfef_24 rfl rfl (fun w24 => ?_) (fun h => absurd h (by decide))
    refine rn_aload_n (x := 1012) (q := 30) dJ1_indexOf_4cfef_29 rfl rfl ?_
    refine rn_iload_n (x := c) (q := 31) dJ1_indexOf_4cfef_30 rfl rfl ?_
    refine rn_iload_n (x := 0) (q := 32) dJ1_indexOf_4cfef_31 rfl rfl ?_
    refine rn_iload_n (x := 4) (q := 33) dJ1_indexOf_4cfef_32 rfl rfl ?_
    refine rn_callS (as := [.inr (.inr 1013), .inl c, .inl 0, .inl 4]) (rest := []) (q := 36) dJ1_indexOf_4cfef_33 ml_J1_95 smj_J1_indexOfChar_4cfef (by omega) rfl rfl (Nat.le_of_ble_eq_true rfl) rfl (s_ixc1 (d := d) c hc) ?_
    intro r33 mem33 hq33
    obtain ⟨rfl, rfl⟩ := hq33
    show am_Rn l G _ _ 36 [some (.inr (.inr 1013)), some (.inl c), some (.inl 0), some (.inl 4)] [.inl (srt c)] mem _
    refine rn_iret dJ1_indexOf_4cfef_36 rfl ?_
    exact ⟨rfl, rfl⟩
  · have hce := s_canEnc (l := l) (G := G) (d := d) (mem := mem) c
    rw [if_neg hc] at hce
    refine rn_iload_n (x := c) (q := 1) dJ1_indexOf_4cfef_0 rfl rfl ?_
    refine rn_callS (as := [.inl c]) (rest := []) (q := 4) dJ1_indexOf_4cfef_1 ml_J1_88 smj_J1_canEncode_9a6ad (by omega) rfl rfl (Nat.le_of_ble_eq_true rfl) rfl (hce) ?_
    intro r1 mem1 hq1
    obtain ⟨rfl, rfl⟩ := hq1
    show am_Rn l G _ _ 4 [some (.inr (.inr 1013)), some (.inl c), some (.inl 0), some (.inl 4)] [.inl 0] mem _
    refine rn_ifne (t := 9) (q := 7) dJ1_indexOf_4cfef_4 rfl rfl (fun h => absurd h (by decide)) (fun w4 => ?_)
    refine rn_iconst (q := 8) dJ1_indexOf_4cfef_7 (am_okd rfl) rfl ?_
    refine rn_iret dJ1_indexOf_4cfef_8 rfl ?_
    exact ⟨by unfold srt; congr 2; repeat' split <;> omega, rfl⟩
theorem s_ix21 (c : Int) : am_Sm l G yJ0_indexOf_7cf53 mt_J0_indexOf_7cf53 (d + 2) [.inr (.inr 1003), .inl c, .inl 0] mem (am_rr (some (.inl (srt c))) mem) := by
  refine am_enter (ls := [some (.inr (.inr 1003)), some (.inl c), some (.inl 0)]) (by decide) rfl (Nat.le_of_ble_eq_true rfl) rfl ?_
  refine rn_aload_n (x := 1002) (q := 1) dJ0_indexOf_7cf53_0 rfl rfl ?_
  refine rn_callVS 1 (by decide) (as := []) (rest := []) (q := 4) dJ0_indexOf_7cf53_1 ml_J0_492 smj_J0_isLatin1_aae02 (by omega) rfl rfl (Nat.le_of_ble_eq_true rfl) rfl (s_isLat1 (d := d)) ?_
  intro r1 mem1 hq1
  obtain ⟨rfl, rfl⟩ := hq1
  show am_Rn l G _ _ 4 [some (.inr (.inr 1003)), some (.inl c), some (.inl 0)] [.inl 1] mem _
  refine rn_ifeq (t := 23) (q := 7) dJ0_indexOf_7cf53_4 rfl rfl (fun h => absurd h (by decide)) (fun w4 => ?_)
  refine rn_aload_n (x := 1002) (q := 8) dJ0_indexOf_7cf53_7 rfl rfl ?_
  refine rn_sgetv 1 (by decide) (q := 11) dJ0_indexOf_7cf53_8 rfl rfl ?_
  show am_Rn l G _ _ 11 [some (.inr (.inr 1003)), some (.inl c), some (.inl 0)] [.inr (.inr 1013)] mem _
  refine rn_iload_n (x := c) (q := 12) dJ0_indexOf_7cf53_11 rfl rfl ?_
  refine rn_iload_n (x := 0) (q := 13) dJ0_indexOf_7cf53_12 rfl rfl ?_
  refine rn_aload_n (x := 1002) (q := 14) dJ0_indexOf_7cf53_13 rfl rfl ?_
  refine rn_callVS 1 (by decide) (as := []) (rest := [.inl 0, .inl c, .inr (.inr 1013)]) (q := 17) dJ0_indexOf_7cf53_14 ml_J0_505 smj_J0_length_8abf5 (by omega) rfl rfl (Nat.le_of_ble_eq_true rfl) rfl (s_slen1 (d := d)) ?_
  intro r14 mem14 hq14
  obtain ⟨rfl, rfl⟩ := hq14
  show am_Rn l G _ _ 17 [some (.inr (.inr 1003)), some (.inl c), some (.inl 0)] [.inl 4, .inl 0, .inl c, .inr (.inr 1013)] mem _
  refine rn_callS (as := [.inr (.inr 1013), .inl c, .inl 0, .inl 4]) (rest := []) (q := 20) dJ0_indexOf_7cf53_17 ml_J0_637 smj_J1_indexOf_4cfef (by omega) rfl rfl (Nat.le_of_ble_eq_true rfl) rfl (s_ixl1 (d := d) c) ?_
  intro r17 mem17 hq17
  obtain ⟨rfl, rfl⟩ := hq17
  show am_Rn l G _ _ 20 [some (.inr (.inr 1003)), some (.inl c), some (.inl 0)] [.inl (srt c)] mem _
  refine rn_goto (t := 36) dJ0_indexOf_7cf53_20 rfl ?_
  refine rn_iret dJ0_indexOf_7cf53_36 rfl ?_
  exact ⟨rfl, rfl⟩
theorem s_ix1 (c : Int) : am_Sm l G yJ0_indexOf_0f7a4 mt_J0_indexOf_0f7a4 (d + 3) [.inr (.inr 1003), .inl c] mem (am_rr (some (.inl (srt c))) mem) := by
  refine am_enter (ls := [some (.inr (.inr 1003)), some (.inl c)]) (by decide) rfl (Nat.le_of_ble_eq_true rfl) rfl ?_
  refine rn_aload_n (x := 1002) (q := 1) dJ0_indexOf_0f7a4_0 rfl rfl ?_
  refine rn_iload_n (x := c) (q := 2) dJ0_indexOf_0f7a4_1 rfl rfl ?_
  refine rn_iconst (q := 3) dJ0_indexOf_0f7a4_2 (am_okd rfl) rfl ?_
  refine rn_callVS 1 (by decide) (as := [.inl c, .inl 0]) (rest := []) (q := 6) dJ0_indexOf_0f7a4_3 ml_J0_633 smj_J0_indexOf_7cf53 (by omega) rfl rfl (Nat.le_of_ble_eq_true rfl) rfl (s_ix21 (d := d) c) ?_
  intro r3 mem3 hq3
  obtain ⟨rfl, rfl⟩ := hq3
  show am_Rn l G _ _ 6 [some (.inr (.inr 1003)), some (.inl c)] [.inl (srt c)] mem _
  refine rn_iret dJ0_indexOf_0f7a4_6 rfl ?_
  exact ⟨rfl, rfl⟩
end P29
