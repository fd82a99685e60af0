/-! count -/
def cntA (sn : Nat) (h : hrs) (e : est) (nL nY nU nR nT : Nat) (k : Int) : Int := if k = 0 then sn else if k = 1 then h.1 else if k = 2 then eN e else if k = 3 then eB e else if k = 4 then eM e else if k = 5 then eK e else if k = 6 then 10 + eG e else if k = 7 then eP e else if k = 8 then (((List.range h.1).map (eH e)).sum : Nat) else if k = 9 then (((List.range h.1).map (eS e)).sum : Nat) else if k = 10 then nL else if k = 11 then nY else if k = 12 then nU else if k = 13 then nR else if k = 14 then nT else -1
theorem sum99 {f : Nat → Nat} (hf : ∀ i, f i ≤ 99) : ∀ i : Nat, ((List.range i).map f).sum ≤ 99 * i := by
  intro i
  induction i with
  | zero => simp
  | succ i ih => rw [List.range_succ]; simp; have := hf i; omega
section P85
variable {l : Launch} {G : am_G} {d : Nat} {r : Nat} {X : List Nat} {C : List Int} {sn : Nat} {sg : Nat → Nat} {h : hrs} {e : est} {NB : Nat} {mem m : am_M}
variable {U : List est} {R : List Int} {L Y : List (Int × Int)} {T : List Nat}
theorem c_count (q : CQ r X C sn sg h e NB mem) (hR : c_row R mem) (hU : c_undo U mem) (hL : c_said 65 L mem) (hY : c_said 68 Y mem) (hT : c_text T mem) (ix : Int) : am_Sm l G yX8_count mt_X8_count (d + 1) [.inr (.inr 1), .inl ix] mem (am_rr (some (.inl (cntA sn h e L.length Y.length U.length R.length T.length ix))) mem) := by
  refine am_enterQ (ls := [some (.inr (.inr 1)), some (.inl ix)]) (by decide) rfl (Nat.le_of_ble_eq_true rfl) rfl (fun hok Q hQ => ?_)
  have b := q.bd
  refine rn_iload_n (x := ix) (q := 1) dX8_count_0 rfl rfl ?_
  by_cases sw0 : ix = 0
  · subst sw0
    refine rn_tabIn (o1 := 75) (t := 76) dX8_count_1 (by decide) (by decide) rfl rfl ?_
    refine rn_aload_n (x := 0) (q := 77) dX8_count_76 rfl rfl ?_
    refine rn_get (a := 0) (v := .inr (.inr 6)) (q := 80) dX8_count_77 fl_X8_26 rfl rfl rfl ?_
    refine rn_get (a := 5) (v := .inl (sn : Int)) (q := 83) dX8_count_80 fl_X8_434 rfl (am_gi q.sng.1) rfl ?_
    refine rn_iret dX8_count_83 rfl ?_
    first | exact hQ _ _ ⟨rfl, rfl⟩ | (refine hQ _ _ ⟨?_, rfl⟩; unfold cntA; simp [*])
  · by_cases sw1 : ix = 1
    · subst sw1
      refine rn_tabIn (o1 := 83) (t := 84) dX8_count_1 (by decide) (by decide) rfl rfl ?_
      refine rn_aload_n (x := 0) (q := 85) dX8_count_84 rfl rfl ?_
      refine rn_get (a := 0) (v := .inr (.inr 6)) (q := 88) dX8_count_85 fl_X8_26 rfl rfl rfl ?_
      refine rn_get (a := 5) (v := .inl (h.1 : Int)) (q := 91) dX8_count_88 fl_X8_136 rfl (am_gi q.n) rfl ?_
      refine rn_iret dX8_count_91 rfl ?_
      first | exact hQ _ _ ⟨rfl, rfl⟩ | (refine hQ _ _ ⟨?_, rfl⟩; unfold cntA; simp [*])
    · by_cases sw2 : ix = 2
      · subst sw2
        refine rn_tabIn (o1 := 91) (t := 92) dX8_count_1 (by decide) (by decide) rfl rfl ?_
        refine rn_aload_n (x := 0) (q := 93) dX8_count_92 rfl rfl ?_
        refine rn_get (a := 0) (v := .inr (.inr 17)) (q := 96) dX8_count_93 fl_X8_33 rfl rfl rfl ?_
        refine rn_get (a := 16) (v := .inl (eN e : Int)) (q := 99) dX8_count_96 fl_X8_184 rfl (am_gi q.nt) rfl ?_
        refine rn_iret dX8_count_99 rfl ?_
        first | exact hQ _ _ ⟨rfl, rfl⟩ | (refine hQ _ _ ⟨?_, rfl⟩; unfold cntA; simp [*])
      · by_cases sw3 : ix = 3
        · subst sw3
          refine rn_tabIn (o1 := 99) (t := 100) dX8_count_1 (by decide) (by decide) rfl rfl ?_
          refine rn_aload_n (x := 0) (q := 101) dX8_count_100 rfl rfl ?_
          refine rn_get (a := 0) (v := .inr (.inr 17)) (q := 104) dX8_count_101 fl_X8_33 rfl rfl rfl ?_
          refine rn_get (a := 16) (v := .inl (eB e : Int)) (q := 107) dX8_count_104 fl_X8_256 rfl (am_gi q.bk) rfl ?_
          refine rn_iret dX8_count_107 rfl ?_
          first | exact hQ _ _ ⟨rfl, rfl⟩ | (refine hQ _ _ ⟨?_, rfl⟩; unfold cntA; simp [*])
        · by_cases sw4 : ix = 4
          · subst sw4
            refine rn_tabIn (o1 := 107) (t := 108) dX8_count_1 (by decide) (by decide) rfl rfl ?_
            refine rn_aload_n (x := 0) (q := 109) dX8_count_108 rfl rfl ?_
            refine rn_get (a := 0) (v := .inr (.inr 17)) (q := 112) dX8_count_109 fl_X8_33 rfl rfl rfl ?_
            refine rn_get (a := 16) (v := .inl (eM e : Int)) (q := 115) dX8_count_112 fl_X8_223 rfl (am_gi q.mn) rfl ?_
            refine rn_iret dX8_count_115 rfl ?_
            first | exact hQ _ _ ⟨rfl, rfl⟩ | (refine hQ _ _ ⟨?_, rfl⟩; unfold cntA; simp [*])
          · by_cases sw5 : ix = 5
            · subst sw5
              refine rn_tabIn (o1 := 115) (t := 116) dX8_count_1 (by decide) (by decide) rfl rfl ?_
              refine rn_aload_n (x := 0) (q := 117) dX8_count_116 rfl rfl ?_
              refine rn_get (a := 0) (v := .inr (.inr 17)) (q := 120) dX8_count_117 fl_X8_33 rfl rfl rfl ?_
              refine rn_get (a := 16) (v := .inl (eK e : Int)) (q := 123) dX8_count_120 fl_X8_226 rfl (am_gi q.sk) rfl ?_
              refine rn_iret dX8_count_123 rfl ?_
              first | exact hQ _ _ ⟨rfl, rfl⟩ | (refine hQ _ _ ⟨?_, rfl⟩; unfold cntA; simp [*])
            · by_cases sw6 : ix = 6
              · subst sw6
                refine rn_tabIn (o1 := 123) (t := 124) dX8_count_1 (by decide) (by decide) rfl rfl ?_
                refine rn_bipush (q := 126) dX8_count_124 ⟨by decide, by decide⟩ rfl ?_
                refine rn_aload_n (x := 0) (q := 127) dX8_count_126 rfl rfl ?_
                refine rn_get (a := 0) (v := .inr (.inr 17)) (q := 130) dX8_count_127 fl_X8_33 rfl rfl rfl ?_
                refine rn_get (a := 16) (v := .inl (eG e)) (q := 133) dX8_count_130 fl_X8_246 rfl (am_gi q.gn) rfl ?_
                refine rn_iaddN (z := (10 + (eG e))) (q := 134) dX8_count_133 rfl (by unfold am_ok; omega) rfl ?_
                refine rn_iret dX8_count_134 rfl ?_
                first | exact hQ _ _ ⟨rfl, rfl⟩ | (refine hQ _ _ ⟨?_, rfl⟩; unfold cntA; simp [*])
              · by_cases sw7 : ix = 7
                · subst sw7
                  refine rn_tabIn (o1 := 134) (t := 135) dX8_count_1 (by decide) (by decide) rfl rfl ?_
                  refine rn_aload_n (x := 0) (q := 136) dX8_count_135 rfl rfl ?_
                  refine rn_get (a := 0) (v := .inr (.inr 17)) (q := 139) dX8_count_136 fl_X8_33 rfl rfl rfl ?_
                  refine rn_get (a := 16) (v := .inl (eP e : Int)) (q := 142) dX8_count_139 fl_X8_165 rfl (am_gi q.pr) rfl ?_
                  refine rn_iret dX8_count_142 rfl ?_
                  first | exact hQ _ _ ⟨rfl, rfl⟩ | (refine hQ _ _ ⟨?_, rfl⟩; unfold cntA; simp [*])
                · by_cases sw8 : ix = 8
                  · subst sw8
                    refine rn_tabIn (o1 := 142) (t := 143) dX8_count_1 (by decide) (by decide) rfl rfl ?_
                    refine rn_aload_n (x := 0) (q := 144) dX8_count_143 rfl rfl ?_
                    refine rn_get (a := 0) (v := .inr (.inr 17)) (q := 147) dX8_count_144 fl_X8_33 rfl rfl rfl ?_
                    refine rn_aload_n (x := 0) (q := 148) dX8_count_147 rfl rfl ?_
                    refine rn_get (a := 0) (v := .inr (.inr 6)) (q := 151) dX8_count_148 fl_X8_26 rfl rfl rfl ?_
                    refine rn_get (a := 5) (v := .inl (h.1 : Int)) (q := 154) dX8_count_151 fl_X8_136 rfl (am_gi q.n) rfl ?_
                    refine rn_callV (b := 16) (as := [.inl (h.1 : Int)]) (rest := []) (q := 157) dX8_count_154 ml_X8_206 sm_X0_heardOfAll rfl rfl (by decide) (by omega) rfl rfl (Nat.le_of_ble_eq_true rfl) rfl (c_heardOfAll (d := d + 0) (a := 16) (n := h.1) (show 16 ∈ am_estL by decide) b.1 (eH e) q.es.1 q.eo.1) ?_
                    intro r154 mem154 hq154
                    obtain ⟨rfl, rfl⟩ := hq154
                    show am_Rn l G _ _ 157 [some (.inr (.inr 1)), some (.inl 8)] [.inl (((List.range h.1).map (eH e)).sum : Nat)] mem _
                    refine rn_iret dX8_count_157 rfl ?_
                    first | exact hQ _ _ ⟨rfl, rfl⟩ | (refine hQ _ _ ⟨?_, rfl⟩; unfold cntA; simp [*])
                  · by_cases sw9 : ix = 9
                    · subst sw9
                      refine rn_tabIn (o1 := 157) (t := 158) dX8_count_1 (by decide) (by decide) rfl rfl ?_
                      refine rn_aload_n (x := 0) (q := 159) dX8_count_158 rfl rfl ?_
                      refine rn_get (a := 0) (v := .inr (.inr 17)) (q := 162) dX8_count_159 fl_X8_33 rfl rfl rfl ?_
                      refine rn_aload_n (x := 0) (q := 163) dX8_count_162 rfl rfl ?_
                      refine rn_get (a := 0) (v := .inr (.inr 6)) (q := 166) dX8_count_163 fl_X8_26 rfl rfl rfl ?_
                      refine rn_get (a := 5) (v := .inl (h.1 : Int)) (q := 169) dX8_count_166 fl_X8_136 rfl (am_gi q.n) rfl ?_
                      refine rn_callV (b := 16) (as := [.inl (h.1 : Int)]) (rest := []) (q := 172) dX8_count_169 ml_X8_437 sm_X0_surchargedOfAll rfl rfl (by decide) (by omega) rfl rfl (Nat.le_of_ble_eq_true rfl) rfl (c_surchargedOfAll (d := d + 0) (a := 16) (n := h.1) (show 16 ∈ am_estL by decide) b.1 (eS e) q.es.2.1 q.eo.2.1) ?_
                      intro r169 mem169 hq169
                      obtain ⟨rfl, rfl⟩ := hq169
                      show am_Rn l G _ _ 172 [some (.inr (.inr 1)), some (.inl 9)] [.inl (((List.range h.1).map (eS e)).sum : Nat)] mem _
                      refine rn_iret dX8_count_172 rfl ?_
                      first | exact hQ _ _ ⟨rfl, rfl⟩ | (refine hQ _ _ ⟨?_, rfl⟩; unfold cntA; simp [*])
                    · by_cases sw10 : ix = 10
                      · subst sw10
                        refine rn_tabIn (o1 := 172) (t := 173) dX8_count_1 (by decide) (by decide) rfl rfl ?_
                        refine rn_aload_n (x := 0) (q := 174) dX8_count_173 rfl rfl ?_
                        refine rn_get (a := 0) (v := .inr (.inr 66)) (q := 177) dX8_count_174 fl_X8_61 rfl rfl rfl ?_
                        refine rn_get (a := 65) (v := .inl (L.length : Int)) (q := 180) dX8_count_177 fl_X8_385 rfl (am_gi hL.1) rfl ?_
                        refine rn_iret dX8_count_180 rfl ?_
                        first | exact hQ _ _ ⟨rfl, rfl⟩ | (refine hQ _ _ ⟨?_, rfl⟩; unfold cntA; simp [*])
                      · by_cases sw11 : ix = 11
                        · subst sw11
                          refine rn_tabIn (o1 := 180) (t := 181) dX8_count_1 (by decide) (by decide) rfl rfl ?_
                          refine rn_aload_n (x := 0) (q := 182) dX8_count_181 rfl rfl ?_
                          refine rn_get (a := 0) (v := .inr (.inr 69)) (q := 185) dX8_count_182 fl_X8_65 rfl rfl rfl ?_
                          refine rn_get (a := 68) (v := .inl (Y.length : Int)) (q := 188) dX8_count_185 fl_X8_385 rfl (am_gi hY.1) rfl ?_
                          refine rn_iret dX8_count_188 rfl ?_
                          first | exact hQ _ _ ⟨rfl, rfl⟩ | (refine hQ _ _ ⟨?_, rfl⟩; unfold cntA; simp [*])
                        · by_cases sw12 : ix = 12
                          · subst sw12
                            refine rn_tabIn (o1 := 188) (t := 189) dX8_count_1 (by decide) (by decide) rfl rfl ?_
                            refine rn_aload_n (x := 0) (q := 190) dX8_count_189 rfl rfl ?_
                            refine rn_get (a := 0) (v := .inr (.inr 26)) (q := 193) dX8_count_190 fl_X8_46 rfl rfl rfl ?_
                            refine rn_get (a := 25) (v := .inl (U.length : Int)) (q := 196) dX8_count_193 fl_X8_129 rfl (am_gi hU.1) rfl ?_
                            refine rn_iret dX8_count_196 rfl ?_
                            first | exact hQ _ _ ⟨rfl, rfl⟩ | (refine hQ _ _ ⟨?_, rfl⟩; unfold cntA; simp [*])
                          · by_cases sw13 : ix = 13
                            · subst sw13
                              refine rn_tabIn (o1 := 196) (t := 197) dX8_count_1 (by decide) (by decide) rfl rfl ?_
                              refine rn_aload_n (x := 0) (q := 198) dX8_count_197 rfl rfl ?_
                              refine rn_get (a := 0) (v := .inr (.inr 4)) (q := 201) dX8_count_198 fl_X8_19 rfl rfl rfl ?_
                              refine rn_get (a := 3) (v := .inl (R.length : Int)) (q := 204) dX8_count_201 fl_X8_440 rfl (am_gi hR.1) rfl ?_
                              refine rn_iret dX8_count_204 rfl ?_
                              first | exact hQ _ _ ⟨rfl, rfl⟩ | (refine hQ _ _ ⟨?_, rfl⟩; unfold cntA; simp [*])
                            · by_cases sw14 : ix = 14
                              · subst sw14
                                refine rn_tabIn (o1 := 204) (t := 205) dX8_count_1 (by decide) (by decide) rfl rfl ?_
                                refine rn_aload_n (x := 0) (q := 206) dX8_count_205 rfl rfl ?_
                                refine rn_get (a := 0) (v := .inr (.inr 2)) (q := 209) dX8_count_206 fl_X8_10 rfl rfl rfl ?_
                                refine rn_get (a := 1) (v := .inl (T.length : Int)) (q := 212) dX8_count_209 fl_X8_107 rfl (am_gi hT.1) rfl ?_
                                refine rn_iret dX8_count_212 rfl ?_
                                first | exact hQ _ _ ⟨rfl, rfl⟩ | (refine hQ _ _ ⟨?_, rfl⟩; unfold cntA; simp [*])
                              · refine rn_tabOut (t := 213) dX8_count_1 (by omega) rfl ?_
                                refine rn_iconst (q := 214) dX8_count_213 (am_okd rfl) rfl ?_
                                refine rn_iret dX8_count_214 rfl ?_
                                first | exact hQ _ _ ⟨rfl, rfl⟩ | (refine hQ _ _ ⟨?_, rfl⟩; unfold cntA; simp [*])
theorem m_surcharged (q : DQ X sn sg h e NB mem) : am_Sm l G yX9_surcharged mt_X9_surcharged d [.inr (.inr 96)] mem (am_rr (some (.inl (((List.range h.1).map (eS e)).sum : Nat))) mem) := by
  refine am_enterQ (ls := [some (.inr (.inr 96)), none, none]) (by decide) rfl (Nat.le_of_ble_eq_true rfl) rfl (fun hok Q hQ => ?_)
  have b := q.bd
  have hs := sum99 q.eo.2.1
  have Lp : ∀ i : Nat, i ≤ h.1 → am_Rn l G mt_X9_surcharged d 4 [some (.inr (.inr 96)), some (.inl (((List.range i).map (eS e)).sum : Nat)), some (.inl (i : Int))] [] mem Q := by
    refine am_dn h.1 (fun i hi ih => ?_)
    have e1 : ((List.range (i + 1)).map (eS e)).sum = ((List.range i).map (eS e)).sum + eS e i := by rw [List.range_succ]; simp
    have h3 := hs (i + 1)
    have h4 := hs i
    refine rn_iload_n (x := (i : Int)) (q := 5) dX9_surcharged_4 rfl rfl ?_
    refine rn_aload_n (x := 95) (q := 6) dX9_surcharged_5 rfl rfl ?_
    refine rn_get (a := 95) (v := .inl (h.1 : Int)) (q := 9) dX9_surcharged_6 fl_X9_113 rfl (am_gi q.n) rfl ?_
    refine rn_cmpge (t := 30) (q := 12) dX9_surcharged_9 rfl rfl (fun w9 => ?_) (fun w9 => ?_)
    · refine rn_iload_n (x := (((List.range i).map (eS e)).sum : Nat)) (q := 31) dX9_surcharged_30 rfl rfl ?_
      refine rn_iret dX9_surcharged_31 rfl ?_
      obtain rfl : i = h.1 := by omega
      exact hQ _ _ ⟨rfl, rfl⟩
    · refine rn_iload_n (x := (((List.range i).map (eS e)).sum : Nat)) (q := 13) dX9_surcharged_12 rfl rfl ?_
      refine rn_aload_n (x := 95) (q := 14) dX9_surcharged_13 rfl rfl ?_
      refine rn_get (a := 95) (v := .inr (.inr 97)) (q := 17) dX9_surcharged_14 fl_X9_9 rfl rfl rfl ?_
      refine rn_bipush (q := 19) dX9_surcharged_17 ⟨by decide, by decide⟩ rfl ?_
      refine rn_iload_n (x := (i : Int)) (q := 20) dX9_surcharged_19 rfl rfl ?_
      refine rn_iaddN (z := ((8 + i : Nat) : Int)) (q := 21) dX9_surcharged_20 (by omega) (by unfold am_ok; omega) rfl ?_
      refine rn_ialdV (a := 96) (v := (eS e i : Int)) (q := 22) dX9_surcharged_21 rfl (by omega) (by omega) (q.sc (by omega)) rfl ?_
      refine rn_iaddN (z := (((List.range (i + 1)).map (eS e)).sum : Nat)) (q := 23) dX9_surcharged_22 (by omega) (by unfold am_ok; omega) rfl ?_
      refine rn_istore_n (ls' := [some (.inr (.inr 96)), some (.inl (((List.range (i + 1)).map (eS e)).sum : Nat)), some (.inl (i : Int))]) (q := 24) dX9_surcharged_23 (by decide) rfl rfl ?_
      refine rn_iincN (x := (i : Int)) (z := ((i + 1 : Nat) : Int)) (ls' := [some (.inr (.inr 96)), some (.inl (((List.range (i + 1)).map (eS e)).sum : Nat)), some (.inl ((i + 1 : Nat) : Int))]) (q := 27) dX9_surcharged_24 rfl (by decide) (by omega) (by unfold am_ok; omega) rfl rfl ?_
      refine rn_goto (t := 4) dX9_surcharged_27 rfl ?_
      exact ih (by omega)
  refine rn_iconst (q := 1) dX9_surcharged_0 (am_okd rfl) rfl ?_
  refine rn_istore_n (ls' := [some (.inr (.inr 96)), some (.inl 0), none]) (q := 2) dX9_surcharged_1 (by decide) rfl rfl ?_
  refine rn_iconst (q := 3) dX9_surcharged_2 (am_okd rfl) rfl ?_
  refine rn_istore_n (ls' := [some (.inr (.inr 96)), some (.inl 0), some (.inl 0)]) (q := 4) dX9_surcharged_3 (by decide) rfl rfl ?_
  exact Lp 0 (Nat.zero_le _)
theorem m_count (q : DQ X sn sg h e NB mem) (hR : m_row R mem) (hU : m_undo U mem) (hL : m_look L mem) (hY : m_told Y mem) (hT : m_text T mem) (ix : Int) : am_Sm l G yX9_count mt_X9_count (d + 1) [.inr (.inr 96), .inl ix] mem (am_rr (some (.inl (cntA sn h e L.length Y.length U.length R.length T.length ix))) (am_up mem 95 11 0)) := by
  refine am_enterQ (ls := [some (.inr (.inr 96)), some (.inl ix)]) (by decide) rfl (Nat.le_of_ble_eq_true rfl) rfl (fun hok Q hQ => ?_)
  have b := q.bd
  obtain ⟨BB, -, -, hL, -⟩ := hL
  refine rn_aload_n (x := 95) (q := 1) dX9_count_0 rfl rfl ?_
  refine rn_iconst (q := 2) dX9_count_1 (am_okd rfl) rfl ?_
  refine rn_puti (a := 95) (q := 5) dX9_count_2 fl_X9_107 rfl rfl rfl rfl ?_
  refine rn_iload_n (x := ix) (q := 6) dX9_count_5 rfl rfl ?_
  by_cases sw0 : ix = 0
  · subst sw0
    refine rn_tabIn (o1 := 74) (t := 80) dX9_count_6 (by decide) (by decide) rfl rfl ?_
    refine rn_aload_n (x := 95) (q := 81) dX9_count_80 rfl rfl ?_
    refine rn_get (a := 95) (v := .inl (sn : Int)) (q := 84) dX9_count_81 fl_X9_25 rfl (am_gi q.sng.1) rfl ?_
    refine rn_iret dX9_count_84 rfl ?_
    first | exact hQ _ _ ⟨rfl, rfl⟩ | (refine hQ _ _ ⟨?_, rfl⟩; unfold cntA; simp [*])
  · by_cases sw1 : ix = 1
    · subst sw1
      refine rn_tabIn (o1 := 79) (t := 85) dX9_count_6 (by decide) (by decide) rfl rfl ?_
      refine rn_aload_n (x := 95) (q := 86) dX9_count_85 rfl rfl ?_
      refine rn_get (a := 95) (v := .inl (h.1 : Int)) (q := 89) dX9_count_86 fl_X9_113 rfl (am_gi (q.kept (frS.up (a := 95) (k := 11) (x := 0) frS.rf rfl)).n) rfl ?_
      refine rn_iret dX9_count_89 rfl ?_
      first | exact hQ _ _ ⟨rfl, rfl⟩ | (refine hQ _ _ ⟨?_, rfl⟩; unfold cntA; simp [*])
    · by_cases sw2 : ix = 2
      · subst sw2
        refine rn_tabIn (o1 := 84) (t := 90) dX9_count_6 (by decide) (by decide) rfl rfl ?_
        refine rn_aload_n (x := 95) (q := 91) dX9_count_90 rfl rfl ?_
        refine rn_get (a := 95) (v := .inr (.inr 97)) (q := 94) dX9_count_91 fl_X9_9 rfl rfl rfl ?_
        refine rn_bipush (q := 96) dX9_count_94 ⟨by decide, by decide⟩ rfl ?_
        refine rn_ialdV (a := 96) (v := (eN e : Int)) (q := 97) dX9_count_96 rfl (by omega) (by omega) (q.kept (frS.up (a := 95) (k := 11) (x := 0) frS.rf rfl)).nt rfl ?_
        refine rn_iret dX9_count_97 rfl ?_
        first | exact hQ _ _ ⟨rfl, rfl⟩ | (refine hQ _ _ ⟨?_, rfl⟩; unfold cntA; simp [*])
      · by_cases sw3 : ix = 3
        · subst sw3
          refine rn_tabIn (o1 := 92) (t := 98) dX9_count_6 (by decide) (by decide) rfl rfl ?_
          refine rn_aload_n (x := 95) (q := 99) dX9_count_98 rfl rfl ?_
          refine rn_get (a := 95) (v := .inr (.inr 97)) (q := 102) dX9_count_99 fl_X9_9 rfl rfl rfl ?_
          refine rn_bipush (q := 104) dX9_count_102 ⟨by decide, by decide⟩ rfl ?_
          refine rn_ialdV (a := 96) (v := (eB e : Int)) (q := 105) dX9_count_104 rfl (by omega) (by omega) (q.kept (frS.up (a := 95) (k := 11) (x := 0) frS.rf rfl)).bk rfl ?_
          refine rn_iret dX9_count_105 rfl ?_
          first | exact hQ _ _ ⟨rfl, rfl⟩ | (refine hQ _ _ ⟨?_, rfl⟩; unfold cntA; simp [*])
        · by_cases sw4 : ix = 4
          · subst sw4
            refine rn_tabIn (o1 := 100) (t := 106) dX9_count_6 (by decide) (by decide) rfl rfl ?_
            refine rn_aload_n (x := 95) (q := 107) dX9_count_106 rfl rfl ?_
            refine rn_get (a := 95) (v := .inr (.inr 97)) (q := 110) dX9_count_107 fl_X9_9 rfl rfl rfl ?_
            refine rn_bipush (q := 112) dX9_count_110 ⟨by decide, by decide⟩ rfl ?_
            refine rn_ialdV (a := 96) (v := (eM e : Int)) (q := 113) dX9_count_112 rfl (by omega) (by omega) (q.kept (frS.up (a := 95) (k := 11) (x := 0) frS.rf rfl)).mn rfl ?_
            refine rn_iret dX9_count_113 rfl ?_
            first | exact hQ _ _ ⟨rfl, rfl⟩ | (refine hQ _ _ ⟨?_, rfl⟩; unfold cntA; simp [*])
          · by_cases sw5 : ix = 5
            · subst sw5
              refine rn_tabIn (o1 := 108) (t := 114) dX9_count_6 (by decide) (by decide) rfl rfl ?_
              refine rn_aload_n (x := 95) (q := 115) dX9_count_114 rfl rfl ?_
              refine rn_get (a := 95) (v := .inr (.inr 97)) (q := 118) dX9_count_115 fl_X9_9 rfl rfl rfl ?_
              refine rn_bipush (q := 120) dX9_count_118 ⟨by decide, by decide⟩ rfl ?_
              refine rn_ialdV (a := 96) (v := (eK e : Int)) (q := 121) dX9_count_120 rfl (by omega) (by omega) (q.kept (frS.up (a := 95) (k := 11) (x := 0) frS.rf rfl)).sk rfl ?_
              refine rn_iret dX9_count_121 rfl ?_
              first | exact hQ _ _ ⟨rfl, rfl⟩ | (refine hQ _ _ ⟨?_, rfl⟩; unfold cntA; simp [*])
            · by_cases sw6 : ix = 6
              · subst sw6
                refine rn_tabIn (o1 := 116) (t := 122) dX9_count_6 (by decide) (by decide) rfl rfl ?_
                refine rn_bipush (q := 124) dX9_count_122 ⟨by decide, by decide⟩ rfl ?_
                refine rn_aload_n (x := 95) (q := 125) dX9_count_124 rfl rfl ?_
                refine rn_get (a := 95) (v := .inr (.inr 97)) (q := 128) dX9_count_125 fl_X9_9 rfl rfl rfl ?_
                refine rn_bipush (q := 130) dX9_count_128 ⟨by decide, by decide⟩ rfl ?_
                refine rn_ialdV (a := 96) (v := (eG e)) (q := 131) dX9_count_130 rfl (by omega) (by omega) (q.kept (frS.up (a := 95) (k := 11) (x := 0) frS.rf rfl)).gn rfl ?_
                refine rn_iaddN (z := (10 + (eG e))) (q := 132) dX9_count_131 rfl (by unfold am_ok; omega) rfl ?_
                refine rn_iret dX9_count_132 rfl ?_
                first | exact hQ _ _ ⟨rfl, rfl⟩ | (refine hQ _ _ ⟨?_, rfl⟩; unfold cntA; simp [*])
              · by_cases sw7 : ix = 7
                · subst sw7
                  refine rn_tabIn (o1 := 127) (t := 133) dX9_count_6 (by decide) (by decide) rfl rfl ?_
                  refine rn_aload_n (x := 95) (q := 134) dX9_count_133 rfl rfl ?_
                  refine rn_aload_n (x := 95) (q := 135) dX9_count_134 rfl rfl ?_
                  refine rn_get (a := 95) (v := .inr (.inr 97)) (q := 138) dX9_count_135 fl_X9_9 rfl rfl rfl ?_
                  refine rn_callV (b := 95) (as := [.inr (.inr 97)]) (rest := []) (q := 141) dX9_count_138 ml_X9_216 sm_X9_present rfl rfl (by decide) (by omega) rfl rfl (Nat.le_of_ble_eq_true rfl) rfl (m_present (d := d + 0) (q.kept (frS.up (a := 95) (k := 11) (x := 0) frS.rf rfl))) ?_
                  intro r138 mem138 hq138
                  obtain ⟨rfl, rfl⟩ := hq138
                  show am_Rn l G _ _ 141 [some (.inr (.inr 96)), some (.inl 7)] [.inl (eP e : Int)] (am_up mem 95 11 0) _
                  refine rn_iret dX9_count_141 rfl ?_
                  first | exact hQ _ _ ⟨rfl, rfl⟩ | (refine hQ _ _ ⟨?_, rfl⟩; unfold cntA; simp [*])
                · by_cases sw8 : ix = 8
                  · subst sw8
                    refine rn_tabIn (o1 := 136) (t := 142) dX9_count_6 (by decide) (by decide) rfl rfl ?_
                    refine rn_aload_n (x := 95) (q := 143) dX9_count_142 rfl rfl ?_
                    refine rn_aload_n (x := 95) (q := 144) dX9_count_143 rfl rfl ?_
                    refine rn_get (a := 95) (v := .inr (.inr 97)) (q := 147) dX9_count_144 fl_X9_9 rfl rfl rfl ?_
                    refine rn_callV (b := 95) (as := [.inr (.inr 97)]) (rest := []) (q := 150) dX9_count_147 ml_X9_245 sm_X9_heardOfAll rfl rfl (by decide) (by omega) rfl rfl (Nat.le_of_ble_eq_true rfl) rfl (s_heardOfAll9 (d := d + 0) 96 h.1 rfl (q.kept (frS.up (a := 95) (k := 11) (x := 0) frS.rf rfl)).n b.1 (eH e) (fun j hj => (q.kept (frS.up (a := 95) (k := 11) (x := 0) frS.rf rfl)).hd (by omega)) q.eo.1) ?_
                    intro r147 mem147 hq147
                    obtain ⟨rfl, rfl⟩ := hq147
                    show am_Rn l G _ _ 150 [some (.inr (.inr 96)), some (.inl 8)] [.inl (((List.range h.1).map (eH e)).sum : Nat)] (am_up mem 95 11 0) _
                    refine rn_iret dX9_count_150 rfl ?_
                    first | exact hQ _ _ ⟨rfl, rfl⟩ | (refine hQ _ _ ⟨?_, rfl⟩; unfold cntA; simp [*])
                  · by_cases sw9 : ix = 9
                    · subst sw9
                      refine rn_tabIn (o1 := 145) (t := 151) dX9_count_6 (by decide) (by decide) rfl rfl ?_
                      refine rn_aload_n (x := 95) (q := 152) dX9_count_151 rfl rfl ?_
                      refine rn_callV (b := 95) (as := []) (rest := []) (q := 155) dX9_count_152 ml_X9_397 sm_X9_surcharged rfl rfl (by decide) (by omega) rfl rfl (Nat.le_of_ble_eq_true rfl) rfl (m_surcharged (d := d + 0) (q.kept (frS.up (a := 95) (k := 11) (x := 0) frS.rf rfl))) ?_
                      intro r152 mem152 hq152
                      obtain ⟨rfl, rfl⟩ := hq152
                      show am_Rn l G _ _ 155 [some (.inr (.inr 96)), some (.inl 9)] [.inl (((List.range h.1).map (eS e)).sum : Nat)] (am_up mem 95 11 0) _
                      refine rn_iret dX9_count_155 rfl ?_
                      first | exact hQ _ _ ⟨rfl, rfl⟩ | (refine hQ _ _ ⟨?_, rfl⟩; unfold cntA; simp [*])
                    · by_cases sw10 : ix = 10
                      · subst sw10
                        refine rn_tabIn (o1 := 150) (t := 156) dX9_count_6 (by decide) (by decide) rfl rfl ?_
                        refine rn_aload_n (x := 95) (q := 157) dX9_count_156 rfl rfl ?_
                        refine rn_get (a := 95) (v := .inl (L.length : Int)) (q := 160) dX9_count_157 fl_X9_348 rfl (am_gi hL) rfl ?_
                        refine rn_iret dX9_count_160 rfl ?_
                        first | exact hQ _ _ ⟨rfl, rfl⟩ | (refine hQ _ _ ⟨?_, rfl⟩; unfold cntA; simp [*])
                      · by_cases sw11 : ix = 11
                        · subst sw11
                          refine rn_tabIn (o1 := 155) (t := 161) dX9_count_6 (by decide) (by decide) rfl rfl ?_
                          refine rn_aload_n (x := 95) (q := 162) dX9_count_161 rfl rfl ?_
                          refine rn_get (a := 95) (v := .inl (Y.length : Int)) (q := 165) dX9_count_162 fl_X9_370 rfl (am_gi hY.1) rfl ?_
                          refine rn_iret dX9_count_165 rfl ?_
                          first | exact hQ _ _ ⟨rfl, rfl⟩ | (refine hQ _ _ ⟨?_, rfl⟩; unfold cntA; simp [*])
                        · by_cases sw12 : ix = 12
                          · subst sw12
                            refine rn_tabIn (o1 := 160) (t := 166) dX9_count_6 (by decide) (by decide) rfl rfl ?_
                            refine rn_aload_n (x := 95) (q := 167) dX9_count_166 rfl rfl ?_
                            refine rn_get (a := 95) (v := .inl (U.length : Int)) (q := 170) dX9_count_167 fl_X9_175 rfl (am_gi hU.1) rfl ?_
                            refine rn_iret dX9_count_170 rfl ?_
                            first | exact hQ _ _ ⟨rfl, rfl⟩ | (refine hQ _ _ ⟨?_, rfl⟩; unfold cntA; simp [*])
                          · by_cases sw13 : ix = 13
                            · subst sw13
                              refine rn_tabIn (o1 := 165) (t := 171) dX9_count_6 (by decide) (by decide) rfl rfl ?_
                              refine rn_aload_n (x := 95) (q := 172) dX9_count_171 rfl rfl ?_
                              refine rn_get (a := 95) (v := .inl (R.length : Int)) (q := 175) dX9_count_172 fl_X9_110 rfl (am_gi hR.1) rfl ?_
                              refine rn_iret dX9_count_175 rfl ?_
                              first | exact hQ _ _ ⟨rfl, rfl⟩ | (refine hQ _ _ ⟨?_, rfl⟩; unfold cntA; simp [*])
                            · by_cases sw14 : ix = 14
                              · subst sw14
                                refine rn_tabIn (o1 := 170) (t := 176) dX9_count_6 (by decide) (by decide) rfl rfl ?_
                                refine rn_aload_n (x := 95) (q := 177) dX9_count_176 rfl rfl ?_
                                refine rn_get (a := 95) (v := .inl (T.length : Int)) (q := 180) dX9_count_177 fl_X9_120 rfl (am_gi hT.1) rfl ?_
                                refine rn_iret dX9_count_180 rfl ?_
                                first | exact hQ _ _ ⟨rfl, rfl⟩ | (refine hQ _ _ ⟨?_, rfl⟩; unfold cntA; simp [*])
                              · refine rn_tabOut (t := 181) dX9_count_6 (by omega) rfl ?_
                                refine rn_iconst (q := 182) dX9_count_181 (am_okd rfl) rfl ?_
                                refine rn_iret dX9_count_182 rfl ?_
                                first | exact hQ _ _ ⟨rfl, rfl⟩ | (refine hQ _ _ ⟨?_, rfl⟩; unfold cntA; simp [*])
end P85
