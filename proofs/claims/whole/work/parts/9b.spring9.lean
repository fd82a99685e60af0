/-! spring of the reference, the whole -/
def acO (T : List Nat) (k : Nat) (M : am_M) : Prop := ∀ j, j < k → M 113 (3 * j) = (T.getD (saP T j) 0 : Int) ∧ M 113 (3 * j + 1) = ((T.getD (saP T j + 1) 0 - 48 : Nat) : Int) ∧ (T.getD (saP T j) 0 = 104 → M 113 (3 * j + 2) = ((T.getD (saP T j + 2) 0 - 48 : Nat) : Int))
theorem saP_g {T : List Nat} : ∀ k, (∀ j, j < k → wfA T (saP T j) = -1) → 2 * k ≤ saP T k
  | 0, _ => Nat.zero_le _
  | k + 1, h => by
    have := saP_g k (fun j hj => h j (by omega))
    have := (wfA_ok (h k (by omega))).1
    show 2 * (k + 1) ≤ nxA T (saP T k)
    unfold nxA; omega
theorem dgB_or {c : Nat} (w1 : 0 < dgB (c : Int)) : c = 104 ∨ c = 110 ∨ c = 99 ∨ c = 115 ∨ c = 98 ∨ c = 97 := by
  unfold dgB at w1
  by_cases z : (c : Int) = 104
  · omega
  · rw [if_neg z] at w1
    by_cases z2 : (c : Int) = 110 ∨ (c : Int) = 99 ∨ (c : Int) = 115 ∨ (c : Int) = 98 ∨ (c : Int) = 97
    · omega
    · rw [if_neg z2] at w1; omega
section P9b
variable {l : Launch} {G : am_G} {d : Nat} {r : Nat} {X : List Nat} {C : List Int} {sn : Nat} {sg : Nat → Nat} {h : hrs} {e : est} {NB : Nat} {mem m : am_M}
variable {T : List Nat} {U : List est} {R : List Int} {M : am_M}
theorem m_spring (q : DQ X sn sg h e NB mem) (hU : m_undo U mem) (hT : m_text T mem) (hN : NB + 600 < 900000) : am_Sm l G yX9_spring mt_X9_spring (d + 181) [.inr (.inr 96)] mem (fun q m => (spF T 61 0 ≠ -1 → q = some (.inl (-1 - spF T 61 0)) ∧ frS s9 (am_up mem 95 8 0) m) ∧ (spF T 61 0 = -1 → ∀ n k, spOK T n → exD X h sn sg T e n k → AM (k : Int) (exE X h sn sg T e k) (if 0 < k then pushU U e else U) [if k < n then 1 else 0, (eM (exE X h sn sg T e k) : Int)] (am_up mem 95 8 0) q m)) := by
  refine am_enterQ (ls := [some (.inr (.inr 96)), none, none]) (by decide) rfl (Nat.le_of_ble_eq_true rfl) rfl (fun hok Q hQ => ?_)
  have b := q.bd
  have hl := hT.len
  have hge := spF_ge (T := T) 61 0
  obtain ⟨N, hN60⟩ : ∃ N, N = min T.length 60 := ⟨_, rfl⟩
  have B : ∀ (M : am_M) (n a p : Nat) (w : Int), frS s9 (am_up mem 95 8 0) M → M 95 13 = (T.length : Int) → ((w = -1 ∧ a < T.length ∧ p = a) ∨ w = (p : Int)) → spF T 61 0 = (p : Int) → am_Rn l G mt_X9_spring (d + 181) 44 [some (.inr (.inr 96)), some (.inl (n : Int)), none] [] (aw M (a : Int) w) Q := by
    intro M n a p w hf h13 hp hb
    refine rn_aload_n (x := 95) (q := 45) dX9_spring_44 rfl rfl ?_
    refine rn_callV (b := 95) (as := []) (rest := []) (q := 48) dX9_spring_45 ml_X9_165 sm_X9_wasRight rfl rfl (by decide) (by omega) rfl rfl (Nat.le_of_ble_eq_true rfl) rfl (s_wrN (d := d + 178) T.length h13 a w p hp) ?_
    intro r45 mem45 hq45
    obtain ⟨rfl, rfl⟩ := hq45
    show am_Rn l G _ _ 48 [some (.inr (.inr 96)), some (.inl (n : Int)), none] [.inl 0] (aw M (a : Int) (p : Int)) _
    refine rn_ifne (t := 58) (q := 51) dX9_spring_48 rfl rfl (fun h => absurd h (by decide)) (fun w48 => ?_)
    refine rn_iconst (q := 52) dX9_spring_51 (am_okd rfl) rfl ?_
    refine rn_aload_n (x := 95) (q := 53) dX9_spring_52 rfl rfl ?_
    refine rn_get (a := 95) (v := .inl (p : Int)) (q := 56) dX9_spring_53 fl_X9_135 rfl rfl rfl ?_
    refine rn_isubN (z := ((-1) - (p : Int))) (q := 57) dX9_spring_56 rfl (by unfold am_ok; omega) rfl ?_
    refine rn_iret dX9_spring_57 rfl ?_
    rw [hb] at hQ
    exact hQ _ _ ⟨fun _ => ⟨rfl, (hf.up (a := 95) (k := 15) (x := (a : Int)) rfl).up rfl⟩, fun z => by omega⟩
  have F13 : ∀ (M : am_M) (n a p : Nat), am_Rn l G mt_X9_spring (d + 181) 44 [some (.inr (.inr 96)), some (.inl (n : Int)), none] [] (aw M (a : Int) (p : Int)) Q → am_Rn l G mt_X9_spring (d + 181) 13 [some (.inr (.inr 96)), some (.inl (n : Int)), none] [] (aw M (a : Int) (p : Int)) Q := by
    intro M n a p kk
    refine rn_aload_n (x := 95) (q := 14) dX9_spring_13 rfl rfl ?_
    refine rn_callV (b := 95) (as := []) (rest := []) (q := 17) dX9_spring_14 ml_X9_142 sm_X9_fine rfl rfl (by decide) (by omega) rfl rfl (Nat.le_of_ble_eq_true rfl) rfl (s_fineF (d := d + 180) (a : Int) (p : Int) (by omega)) ?_
    intro r14 mem14 hq14
    obtain ⟨rfl, rfl⟩ := hq14
    show am_Rn l G _ _ 17 [some (.inr (.inr 96)), some (.inl (n : Int)), none] [.inl 0] (aw M (a : Int) (p : Int)) _
    refine rn_ifeq (t := 44) (q := 20) dX9_spring_17 rfl rfl (fun w17 => ?_) (fun h => absurd h (by decide))
    exact kk
  have Y : ∀ (M : am_M) (n : Nat), frS s9 (am_up mem 95 8 0) M → M 95 13 = (T.length : Int) → spF T 61 0 = -1 → spOK T n → acO T n M → am_Rn l G mt_X9_spring (d + 181) 44 [some (.inr (.inr 96)), some (.inl (n : Int)), none] [] (aw M (T.length : Int) (-1)) Q := by
    intro M n hf h13 hsp hn hac
    have h60 := hn.1
    have hn2 := saP_2 hn n (Nat.le_refl _)
    have hn3 := hn.2.1
    have E : ∀ (k : Nat) (m : am_M), exD X h sn sg T e n k → DQ X sn sg h (exE X h sn sg T e k) (NB + 9 * k) m → m_est e 108 0 m → m_undo U m → frS s9a (am_up mem 95 8 0) m → am_Rn l G mt_X9_spring (d + 181) 118 [some (.inr (.inr 96)), some (.inl (n : Int)), some (.inl (k : Int))] [] m Q := by
      intro k m hk hq hA hu hf
      have bq := hq.bd
      have fin : ∀ (m1 m2 : am_M) (x : Int), (x = if k < n then 1 else 0) → m_est (exE X h sn sg T e k) 96 0 m1 → m_undo (if 0 < k then pushU U e else U) m1 → frS s9a (am_up mem 95 8 0) m1 → m_row [x, (eM (exE X h sn sg T e k) : Int)] m2 → frS s9r m1 m2 → Q (some (.inl (k : Int))) m2 := by
        intro m1 m2 x hx c1 c2 c3 c4 c5
        refine hQ _ _ ⟨fun z => absurd hsp z, fun _ n2 k2 hn2 hk2 => ?_⟩
        obtain rfl := spOK_un hn hn2
        obtain rfl := exD_un hk hk2
        rw [← hx]
        exact ⟨rfl, c1.kept (funext (fun i => c5 96 i rfl)), c2.keptU (funext (fun i => c5 107 i rfl)) (c5 95 24 rfl), c4, c3.tr c5.a9⟩
      by_cases hk0 : 0 < k
      · refine rn_iload_n (x := (k : Int)) (q := 119) dX9_spring_118 rfl rfl ?_
        refine rn_ifle (t := 130) (q := 122) dX9_spring_119 rfl rfl (fun h => absurd h (by omega)) (fun w119 => ?_)
        refine rn_aload_n (x := 95) (q := 123) dX9_spring_122 rfl rfl ?_
        refine rn_aload_n (x := 95) (q := 124) dX9_spring_123 rfl rfl ?_
        refine rn_get (a := 95) (v := .inr (.inr 109)) (q := 127) dX9_spring_124 fl_X9_52 rfl rfl rfl ?_
        refine rn_callV (b := 95) (as := [.inr (.inr 109)]) (rest := []) (q := 130) dX9_spring_127 ml_X9_268 sm_X9_remember rfl rfl (by decide) (by omega) rfl rfl (Nat.le_of_ble_eq_true rfl) rfl (s_remember (d := d + 179) hu 108 rfl (by decide) hA) ?_
        intro r127 mem127 hq127
        obtain ⟨rfl, hu127, hg127, hh127⟩ := hq127
        show am_Rn l G _ _ 130 [some (.inr (.inr 96)), some (.inl (n : Int)), some (.inl (k : Int))] [] mem127 _
        refine rn_aload_n (x := 95) (q := 131) dX9_spring_130 rfl rfl ?_
        refine rn_iconst (q := 132) dX9_spring_131 (am_okd rfl) rfl ?_
        refine rn_puti (a := 95) (q := 135) dX9_spring_132 fl_X9_110 rfl rfl rfl rfl ?_
        refine rn_aload_n (x := 95) (q := 136) dX9_spring_135 rfl rfl ?_
        refine rn_iload_n (x := (k : Int)) (q := 137) dX9_spring_136 rfl rfl ?_
        refine rn_iload_n (x := (n : Int)) (q := 138) dX9_spring_137 rfl rfl ?_
        refine rn_cmpge (t := 145) (q := 141) dX9_spring_138 rfl rfl (fun w138 => ?_) (fun w138 => ?_)
        · refine rn_lconst0 (q := 146) dX9_spring_145 rfl ?_
          refine rn_callV (b := 95) (as := [.inr (.inl 0)]) (rest := []) (q := 149) dX9_spring_146 ml_X9_275 sm_X9_tell rfl rfl (by decide) (by omega) rfl rfl (Nat.le_of_ble_eq_true rfl) rfl (m_tell (d := d + 180) m_row0 (by decide) 0) ?_
          intro r146 mem146 hq146
          obtain ⟨rfl, hr146, hf146⟩ := hq146
          show am_Rn l G _ _ 149 [some (.inr (.inr 96)), some (.inl (n : Int)), some (.inl (k : Int))] [] mem146 _
          refine rn_aload_n (x := 95) (q := 150) dX9_spring_149 rfl rfl ?_
          refine rn_aload_n (x := 95) (q := 151) dX9_spring_150 rfl rfl ?_
          refine rn_get (a := 95) (v := .inr (.inr 97)) (q := 154) dX9_spring_151 fl_X9_9 rfl rfl rfl ?_
          refine rn_bipush (q := 156) dX9_spring_154 ⟨by decide, by decide⟩ rfl ?_
          refine rn_ialdV (a := 96) (v := (eM (exE X h sn sg T e k) : Int)) (q := 157) dX9_spring_156 rfl (by omega) (by omega) (((hf146 96 25 rfl).trans (congrFun (hg127 96 (by decide) (by decide)) 25)).trans hq.mn) rfl ?_
          refine rn_i2l (q := 158) dX9_spring_157 rfl ?_
          refine rn_callV (b := 95) (as := [.inr (.inl (eM (exE X h sn sg T e k) : Int))]) (rest := []) (q := 161) dX9_spring_158 ml_X9_275 sm_X9_tell rfl rfl (by decide) (by omega) rfl rfl (Nat.le_of_ble_eq_true rfl) rfl (m_tell (d := d + 180) hr146 (by simp) (eM (exE X h sn sg T e k) : Int)) ?_
          intro r158 mem158 hq158
          obtain ⟨rfl, hr158, hf158⟩ := hq158
          show am_Rn l G _ _ 161 [some (.inr (.inr 96)), some (.inl (n : Int)), some (.inl (k : Int))] [] mem158 _
          refine rn_iload_n (x := (k : Int)) (q := 162) dX9_spring_161 rfl rfl ?_
          refine rn_iret dX9_spring_162 rfl ?_
          first | exact fin mem127 _ 1 (by rw [if_pos (by omega)]) (hq.es.kept (hg127 96 (by decide) (by decide))) (by rw [if_pos (by omega)]; exact hu127) (hf.tr (fr_rem hg127 hh127)) hr158 (((frS.rf.up rfl).tr hf146).tr hf158) | exact fin mem127 _ 0 (by rw [if_neg (by omega)]) (hq.es.kept (hg127 96 (by decide) (by decide))) (by rw [if_pos (by omega)]; exact hu127) (hf.tr (fr_rem hg127 hh127)) hr158 (((frS.rf.up rfl).tr hf146).tr hf158)
        · refine rn_lconst1 (q := 142) dX9_spring_141 rfl ?_
          refine rn_goto (t := 146) dX9_spring_142 rfl ?_
          refine rn_callV (b := 95) (as := [.inr (.inl 1)]) (rest := []) (q := 149) dX9_spring_146 ml_X9_275 sm_X9_tell rfl rfl (by decide) (by omega) rfl rfl (Nat.le_of_ble_eq_true rfl) rfl (m_tell (d := d + 180) m_row0 (by decide) 1) ?_
          intro r146 mem146 hq146
          obtain ⟨rfl, hr146, hf146⟩ := hq146
          show am_Rn l G _ _ 149 [some (.inr (.inr 96)), some (.inl (n : Int)), some (.inl (k : Int))] [] mem146 _
          refine rn_aload_n (x := 95) (q := 150) dX9_spring_149 rfl rfl ?_
          refine rn_aload_n (x := 95) (q := 151) dX9_spring_150 rfl rfl ?_
          refine rn_get (a := 95) (v := .inr (.inr 97)) (q := 154) dX9_spring_151 fl_X9_9 rfl rfl rfl ?_
          refine rn_bipush (q := 156) dX9_spring_154 ⟨by decide, by decide⟩ rfl ?_
          refine rn_ialdV (a := 96) (v := (eM (exE X h sn sg T e k) : Int)) (q := 157) dX9_spring_156 rfl (by omega) (by omega) (((hf146 96 25 rfl).trans (congrFun (hg127 96 (by decide) (by decide)) 25)).trans hq.mn) rfl ?_
          refine rn_i2l (q := 158) dX9_spring_157 rfl ?_
          refine rn_callV (b := 95) (as := [.inr (.inl (eM (exE X h sn sg T e k) : Int))]) (rest := []) (q := 161) dX9_spring_158 ml_X9_275 sm_X9_tell rfl rfl (by decide) (by omega) rfl rfl (Nat.le_of_ble_eq_true rfl) rfl (m_tell (d := d + 180) hr146 (by simp) (eM (exE X h sn sg T e k) : Int)) ?_
          intro r158 mem158 hq158
          obtain ⟨rfl, hr158, hf158⟩ := hq158
          show am_Rn l G _ _ 161 [some (.inr (.inr 96)), some (.inl (n : Int)), some (.inl (k : Int))] [] mem158 _
          refine rn_iload_n (x := (k : Int)) (q := 162) dX9_spring_161 rfl rfl ?_
          refine rn_iret dX9_spring_162 rfl ?_
          first | exact fin mem127 _ 1 (by rw [if_pos (by omega)]) (hq.es.kept (hg127 96 (by decide) (by decide))) (by rw [if_pos (by omega)]; exact hu127) (hf.tr (fr_rem hg127 hh127)) hr158 (((frS.rf.up rfl).tr hf146).tr hf158) | exact fin mem127 _ 0 (by rw [if_neg (by omega)]) (hq.es.kept (hg127 96 (by decide) (by decide))) (by rw [if_pos (by omega)]; exact hu127) (hf.tr (fr_rem hg127 hh127)) hr158 (((frS.rf.up rfl).tr hf146).tr hf158)
      · refine rn_iload_n (x := (k : Int)) (q := 119) dX9_spring_118 rfl rfl ?_
        refine rn_ifle (t := 130) (q := 122) dX9_spring_119 rfl rfl (fun w119 => ?_) (fun h => absurd h (by omega))
        refine rn_aload_n (x := 95) (q := 131) dX9_spring_130 rfl rfl ?_
        refine rn_iconst (q := 132) dX9_spring_131 (am_okd rfl) rfl ?_
        refine rn_puti (a := 95) (q := 135) dX9_spring_132 fl_X9_110 rfl rfl rfl rfl ?_
        refine rn_aload_n (x := 95) (q := 136) dX9_spring_135 rfl rfl ?_
        refine rn_iload_n (x := (k : Int)) (q := 137) dX9_spring_136 rfl rfl ?_
        refine rn_iload_n (x := (n : Int)) (q := 138) dX9_spring_137 rfl rfl ?_
        refine rn_cmpge (t := 145) (q := 141) dX9_spring_138 rfl rfl (fun w138 => ?_) (fun w138 => ?_)
        · refine rn_lconst0 (q := 146) dX9_spring_145 rfl ?_
          refine rn_callV (b := 95) (as := [.inr (.inl 0)]) (rest := []) (q := 149) dX9_spring_146 ml_X9_275 sm_X9_tell rfl rfl (by decide) (by omega) rfl rfl (Nat.le_of_ble_eq_true rfl) rfl (m_tell (d := d + 180) m_row0 (by decide) 0) ?_
          intro r146 mem146 hq146
          obtain ⟨rfl, hr146, hf146⟩ := hq146
          show am_Rn l G _ _ 149 [some (.inr (.inr 96)), some (.inl (n : Int)), some (.inl (k : Int))] [] mem146 _
          refine rn_aload_n (x := 95) (q := 150) dX9_spring_149 rfl rfl ?_
          refine rn_aload_n (x := 95) (q := 151) dX9_spring_150 rfl rfl ?_
          refine rn_get (a := 95) (v := .inr (.inr 97)) (q := 154) dX9_spring_151 fl_X9_9 rfl rfl rfl ?_
          refine rn_bipush (q := 156) dX9_spring_154 ⟨by decide, by decide⟩ rfl ?_
          refine rn_ialdV (a := 96) (v := (eM (exE X h sn sg T e k) : Int)) (q := 157) dX9_spring_156 rfl (by omega) (by omega) ((hf146 96 25 rfl).trans hq.mn) rfl ?_
          refine rn_i2l (q := 158) dX9_spring_157 rfl ?_
          refine rn_callV (b := 95) (as := [.inr (.inl (eM (exE X h sn sg T e k) : Int))]) (rest := []) (q := 161) dX9_spring_158 ml_X9_275 sm_X9_tell rfl rfl (by decide) (by omega) rfl rfl (Nat.le_of_ble_eq_true rfl) rfl (m_tell (d := d + 180) hr146 (by simp) (eM (exE X h sn sg T e k) : Int)) ?_
          intro r158 mem158 hq158
          obtain ⟨rfl, hr158, hf158⟩ := hq158
          show am_Rn l G _ _ 161 [some (.inr (.inr 96)), some (.inl (n : Int)), some (.inl (k : Int))] [] mem158 _
          refine rn_iload_n (x := (k : Int)) (q := 162) dX9_spring_161 rfl rfl ?_
          refine rn_iret dX9_spring_162 rfl ?_
          first | exact fin m _ 1 (by rw [if_pos (by omega)]) hq.es (by rw [if_neg (by omega)]; exact hu) hf hr158 (((frS.rf.up rfl).tr hf146).tr hf158) | exact fin m _ 0 (by rw [if_neg (by omega)]) hq.es (by rw [if_neg (by omega)]; exact hu) hf hr158 (((frS.rf.up rfl).tr hf146).tr hf158)
        · refine rn_lconst1 (q := 142) dX9_spring_141 rfl ?_
          refine rn_goto (t := 146) dX9_spring_142 rfl ?_
          refine rn_callV (b := 95) (as := [.inr (.inl 1)]) (rest := []) (q := 149) dX9_spring_146 ml_X9_275 sm_X9_tell rfl rfl (by decide) (by omega) rfl rfl (Nat.le_of_ble_eq_true rfl) rfl (m_tell (d := d + 180) m_row0 (by decide) 1) ?_
          intro r146 mem146 hq146
          obtain ⟨rfl, hr146, hf146⟩ := hq146
          show am_Rn l G _ _ 149 [some (.inr (.inr 96)), some (.inl (n : Int)), some (.inl (k : Int))] [] mem146 _
          refine rn_aload_n (x := 95) (q := 150) dX9_spring_149 rfl rfl ?_
          refine rn_aload_n (x := 95) (q := 151) dX9_spring_150 rfl rfl ?_
          refine rn_get (a := 95) (v := .inr (.inr 97)) (q := 154) dX9_spring_151 fl_X9_9 rfl rfl rfl ?_
          refine rn_bipush (q := 156) dX9_spring_154 ⟨by decide, by decide⟩ rfl ?_
          refine rn_ialdV (a := 96) (v := (eM (exE X h sn sg T e k) : Int)) (q := 157) dX9_spring_156 rfl (by omega) (by omega) ((hf146 96 25 rfl).trans hq.mn) rfl ?_
          refine rn_i2l (q := 158) dX9_spring_157 rfl ?_
          refine rn_callV (b := 95) (as := [.inr (.inl (eM (exE X h sn sg T e k) : Int))]) (rest := []) (q := 161) dX9_spring_158 ml_X9_275 sm_X9_tell rfl rfl (by decide) (by omega) rfl rfl (Nat.le_of_ble_eq_true rfl) rfl (m_tell (d := d + 180) hr146 (by simp) (eM (exE X h sn sg T e k) : Int)) ?_
          intro r158 mem158 hq158
          obtain ⟨rfl, hr158, hf158⟩ := hq158
          show am_Rn l G _ _ 161 [some (.inr (.inr 96)), some (.inl (n : Int)), some (.inl (k : Int))] [] mem158 _
          refine rn_iload_n (x := (k : Int)) (q := 162) dX9_spring_161 rfl rfl ?_
          refine rn_iret dX9_spring_162 rfl ?_
          first | exact fin m _ 1 (by rw [if_pos (by omega)]) hq.es (by rw [if_neg (by omega)]; exact hu) hf hr158 (((frS.rf.up rfl).tr hf146).tr hf158) | exact fin m _ 0 (by rw [if_neg (by omega)]) hq.es (by rw [if_neg (by omega)]; exact hu) hf hr158 (((frS.rf.up rfl).tr hf146).tr hf158)
    have L2 : ∀ k : Nat, k ≤ n → ∀ m : am_M, (∀ j, j < k → 0 ≤ exV X h sn sg T e j) → DQ X sn sg h (exE X h sn sg T e k) (NB + 9 * k) m → m_est e 108 0 m → m_undo U m → acO T n m → frS s9a (am_up mem 95 8 0) m → am_Rn l G mt_X9_spring (d + 181) 72 [some (.inr (.inr 96)), some (.inl (n : Int)), some (.inl (k : Int))] [] m Q := by
      refine am_dn n (fun k hk ih m hj hq hA hu hac hf => ?_)
      by_cases hkn : k = n
      · refine rn_iload_n (x := (k : Int)) (q := 73) dX9_spring_72 rfl rfl ?_
        refine rn_iload_n (x := (n : Int)) (q := 74) dX9_spring_73 rfl rfl ?_
        refine rn_cmpge (t := 118) (q := 77) dX9_spring_74 rfl rfl (fun w74 => ?_) (fun h => absurd h (by omega))
        exact E k m ⟨hk, hj, fun z => by omega⟩ hq hA hu hf
      · obtain ⟨w0, w1⟩ := hn.2.2 k (by omega)
        obtain ⟨v1, v2, v3, v4, v5⟩ := wfA_ok w0
        have l0 := lsB_0 (T.getD (saP T k) 0)
        have d9 := (dig_9 (T := T) (s := saP T k + 1) (by omega) (by omega)).1
        obtain ⟨a1, a2, a3⟩ := hac k (by omega)
        refine rn_iload_n (x := (k : Int)) (q := 73) dX9_spring_72 rfl rfl ?_
        refine rn_iload_n (x := (n : Int)) (q := 74) dX9_spring_73 rfl rfl ?_
        refine rn_cmpge (t := 118) (q := 77) dX9_spring_74 rfl rfl (fun h => absurd h (by omega)) (fun w74 => ?_)
        refine rn_aload_n (x := 95) (q := 78) dX9_spring_77 rfl rfl ?_
        refine rn_aload_n (x := 95) (q := 79) dX9_spring_78 rfl rfl ?_
        refine rn_get (a := 95) (v := .inr (.inr 114)) (q := 82) dX9_spring_79 fl_X9_67 rfl rfl rfl ?_
        refine rn_iconst (q := 83) dX9_spring_82 (am_okd rfl) rfl ?_
        refine rn_iload_n (x := (k : Int)) (q := 84) dX9_spring_83 rfl rfl ?_
        refine rn_imulN (z := ((3 * k : Nat) : Int)) (q := 85) dX9_spring_84 (by omega) (by unfold am_ok; omega) rfl ?_
        refine rn_ialdV (a := 113) (v := (T.getD (saP T k) 0 : Int)) (q := 86) dX9_spring_85 rfl (by omega) (by omega) a1 rfl ?_
        refine rn_aload_n (x := 95) (q := 87) dX9_spring_86 rfl rfl ?_
        refine rn_get (a := 95) (v := .inr (.inr 114)) (q := 90) dX9_spring_87 fl_X9_67 rfl rfl rfl ?_
        refine rn_iconst (q := 91) dX9_spring_90 (am_okd rfl) rfl ?_
        refine rn_iload_n (x := (k : Int)) (q := 92) dX9_spring_91 rfl rfl ?_
        refine rn_imulN (z := ((3 * k : Nat) : Int)) (q := 93) dX9_spring_92 (by omega) (by unfold am_ok; omega) rfl ?_
        refine rn_iconst (q := 94) dX9_spring_93 (am_okd rfl) rfl ?_
        refine rn_iaddN (z := (((3 * k) + 1 : Nat) : Int)) (q := 95) dX9_spring_94 (by omega) (by unfold am_ok; omega) rfl ?_
        refine rn_ialdV (a := 113) (v := ((T.getD (saP T k + 1) 0 - 48 : Nat) : Int)) (q := 96) dX9_spring_95 rfl (by omega) (by omega) a2 rfl ?_
        refine rn_aload_n (x := 95) (q := 97) dX9_spring_96 rfl rfl ?_
        refine rn_get (a := 95) (v := .inr (.inr 114)) (q := 100) dX9_spring_97 fl_X9_67 rfl rfl rfl ?_
        refine rn_iconst (q := 101) dX9_spring_100 (am_okd rfl) rfl ?_
        refine rn_iload_n (x := (k : Int)) (q := 102) dX9_spring_101 rfl rfl ?_
        refine rn_imulN (z := ((3 * k : Nat) : Int)) (q := 103) dX9_spring_102 (by omega) (by unfold am_ok; omega) rfl ?_
        refine rn_iconst (q := 104) dX9_spring_103 (am_okd rfl) rfl ?_
        refine rn_iaddN (z := (((3 * k) + 2 : Nat) : Int)) (q := 105) dX9_spring_104 (by omega) (by unfold am_ok; omega) rfl ?_
        refine rn_ialdV (a := 113) (v := (m 113 (3 * k + 2))) (q := 106) dX9_spring_105 rfl (by omega) (by omega) rfl rfl ?_
        refine rn_callV (b := 95) (as := [.inl (T.getD (saP T k) 0 : Int), .inl ((T.getD (saP T k + 1) 0 - 48 : Nat) : Int), .inl (m 113 (3 * k + 2))]) (rest := []) (q := 109) dX9_spring_106 ml_X9_299 sm_X9_act rfl rfl (by decide) (by omega) rfl rfl (Nat.le_of_ble_eq_true rfl) rfl (m_act (d := d + 0) hq (T.getD (saP T k) 0) (T.getD (saP T k + 1) 0 - 48) (T.getD (saP T k + 2) 0 - 48) (m 113 (3 * k + 2)) d9 a3 (dgB_or v1)) ?_
        intro r106 mem106 hq106
        obtain ⟨v, e3, hp106, rfl, he106, hf106⟩ := hq106
        show am_Rn l G _ _ 109 [some (.inr (.inr 96)), some (.inl (n : Int)), some (.inl (k : Int))] [.inl (if 0 ≤ v then 1 else 0)] mem106 _
        obtain ⟨hv, he3⟩ := actP_un hp106 (actS_P (X := X) (h := h) (sn := sn) (sg := sg))
        have hA4 : m_est e 108 0 mem106 := hA.kept (hf106.1 108 (by decide) (by decide) (by decide) (by decide) (by decide))
        have hu4 : m_undo U mem106 := hu.keptU (hf106.1 107 (by decide) (by decide) (by decide) (by decide) (by decide)) (hf106.2 24 (by decide) (by decide) (by decide))
        have hac4 : acO T n mem106 := fun j hj => by rw [hf106.1 113 (by decide) (by decide) (by decide) (by decide) (by decide)]; exact hac j hj
        have hf4 : frS s9a (am_up mem 95 8 0) mem106 := hf.tr hf106.to9a
        have ok4 := actP_ok d9 hq.eo hp106
        refine rn_ifeq (t := 118) (q := 112) dX9_spring_109 rfl rfl (fun w109 => ?_) (fun w109 => ?_)
        · have w109n : v < 0 := Int.lt_of_not_ge (fun z => by rw [if_pos z] at w109; exact absurd w109 (by decide))
          have e4 := actP_neg hp106 w109n
          rw [e4] at he106 ok4
          exact E k mem106 ⟨hk, hj, fun _ => by show actV X h sn sg _ _ _ _ < 0; rw [← hv]; exact w109n⟩ (hq.setE he106 hq.eo (by omega) hf106.to9a) hA4 hu4 hf4
        · have w109n : 0 ≤ v := Classical.byContradiction (fun z => w109 (by rw [if_neg z]))
          have HQ4 : DQ X sn sg h (exE X h sn sg T e (k + 1)) (NB + 9 * (k + 1)) mem106 := by
            show DQ X sn sg h (actS X h sn sg _ _ _ _) _ mem106
            rw [← he3, show NB + 9 * (k + 1) = NB + 9 * k + 9 by omega]
            exact hq.setE he106 ok4 (by omega) hf106.to9a
          refine rn_iincN (x := (k : Int)) (z := ((k + 1 : Nat) : Int)) (ls' := [some (.inr (.inr 96)), some (.inl (n : Int)), some (.inl ((k + 1 : Nat) : Int))]) (q := 115) dX9_spring_112 rfl (by decide) (by omega) (by unfold am_ok; omega) rfl rfl ?_
          refine rn_goto (t := 72) dX9_spring_115 rfl ?_
          exact ih (by omega) mem106 (fun j hj2 => by
            by_cases hji : j = k
            · rw [hji]; show 0 ≤ actV X h sn sg _ _ _ _; rw [← hv]; exact w109n
            · exact hj j (by omega)) HQ4 hA4 hu4 hac4 hf4
    have f0 : frS s9 (am_up mem 95 8 0) (aw M (T.length : Int) (-1)) := (hf.up (a := 95) (k := 15) (x := (T.length : Int)) rfl).up rfl
    have q0 : DQ X sn sg h e NB (aw M (T.length : Int) (-1)) := (q.setH (m := am_up mem 95 8 0) ⟨q.hs.1, q.hs.2.1, q.hs.2.2⟩ (q.es.kept rfl) q.eo (frS.rf.up rfl)).kept f0.r9
    refine rn_aload_n (x := 95) (q := 45) dX9_spring_44 rfl rfl ?_
    refine rn_callV (b := 95) (as := []) (rest := []) (q := 48) dX9_spring_45 ml_X9_165 sm_X9_wasRight rfl rfl (by decide) (by omega) rfl rfl (Nat.le_of_ble_eq_true rfl) rfl (s_wrY (d := d + 178) T.length h13 T.length (Nat.le_refl _)) ?_
    intro r45 mem45 hq45
    obtain ⟨rfl, rfl⟩ := hq45
    show am_Rn l G _ _ 48 [some (.inr (.inr 96)), some (.inl (n : Int)), none] [.inl 1] (aw M (T.length : Int) (-1)) _
    refine rn_ifne (t := 58) (q := 51) dX9_spring_48 rfl rfl (fun w48 => ?_) (fun h => absurd h (by decide))
    refine rn_aload_n (x := 95) (q := 59) dX9_spring_58 rfl rfl ?_
    refine rn_get (a := 95) (v := .inr (.inr 97)) (q := 62) dX9_spring_59 fl_X9_9 rfl rfl rfl ?_
    refine rn_aload_n (x := 95) (q := 63) dX9_spring_62 rfl rfl ?_
    refine rn_get (a := 95) (v := .inr (.inr 109)) (q := 66) dX9_spring_63 fl_X9_52 rfl rfl rfl ?_
    refine rn_iconst (q := 67) dX9_spring_66 (am_okd rfl) rfl ?_
    refine rn_callS (as := [.inr (.inr 97), .inr (.inr 109), .inl 0]) (rest := []) (q := 70) dX9_spring_67 ml_X9_248 sm_X9_lay (by omega) rfl rfl (Nat.le_of_ble_eq_true rfl) rfl (s_lay (d := d + 180) (f := 96) (t := 108) (nf := 29) (nt := 29) rfl rfl (by decide) 0 (by decide) (by decide) (by decide)) ?_
    intro r67 mem67 hq67
    obtain ⟨rfl, rfl⟩ := hq67
    show am_Rn l G _ _ 70 [some (.inr (.inr 96)), some (.inl (n : Int)), none] [] (am_cpy (aw M (T.length : Int) (-1)) 96 0 108 0 29) _
    refine rn_iconst (q := 71) dX9_spring_70 (am_okd rfl) rfl ?_
    refine rn_istore_n (ls' := [some (.inr (.inr 96)), some (.inl (n : Int)), some (.inl 0)]) (q := 72) dX9_spring_71 (by decide) rfl rfl ?_
    have fc : frS s9 (am_up mem 95 8 0) (am_cpy (aw M (T.length : Int) (-1)) 96 0 108 0 29) := f0.cpy (fun _ => rfl)
    refine L2 0 (Nat.zero_le _) _ (fun j hj2 => absurd hj2 (Nat.not_lt_zero j)) (q0.kept (frS.r9 (frS.rf.cpy (fun _ => rfl)))) (m_est.cpy (a1 := 108) (o1 := 0) q0.es) (hU.keptU (funext (fun i => fc 107 i rfl)) (fc 95 24 rfl)) (fun j hj => ?_) fc.r9.a9
    rw [am_cpy_ne (by decide), aw_ne (by decide)]; exact hac j hj
  obtain ⟨F, hF⟩ : ∃ F, spF T 61 0 = F := ⟨_, rfl⟩
  have L : ∀ (f k : Nat) (M : am_M), saP T k ≤ N → N - saP T k < f → (∀ j, j < k → wfA T (saP T j) = -1 ∧ saP T j < T.length) → acO T k M → m_rd (T.take 60) 101 T.length M → frS s9 (am_up mem 95 8 0) M → spF T f (saP T k) = F → am_Rn l G mt_X9_spring (d + 181) 13 [some (.inr (.inr 96)), some (.inl (k : Int)), none] [] (aw M (saP T k : Int) (-1)) Q := by
    intro f
    induction f with
    | zero => exact fun k M _ h _ _ _ _ _ => absurd h (Nat.not_lt_zero _)
    | succ f ih =>
      intro k M hk hf1 hj hac hr hf hsp
      have hk2 := saP_g (T := T) k (fun j hj2 => (hj j hj2).1)
      have h13 : M 95 13 = (T.length : Int) := hr.2.2.1
      unfold spF at hsp
      rw [← hN60] at hsp
      by_cases c : N ≤ saP T k
      · rw [if_pos c] at hsp
        by_cases c6 : 60 < T.length
        · rw [if_pos c6] at hsp
          have e60 : saP T k = 60 := by omega
          rw [e60]
          refine rn_aload_n (x := 95) (q := 14) dX9_spring_13 rfl rfl ?_
          refine rn_callV (b := 95) (as := []) (rest := []) (q := 17) dX9_spring_14 ml_X9_142 sm_X9_fine rfl rfl (by decide) (by omega) rfl rfl (Nat.le_of_ble_eq_true rfl) rfl (s_fineT (d := d + 180) ((60 : Nat) : Int)) ?_
          intro r14 mem14 hq14
          obtain ⟨rfl, rfl⟩ := hq14
          show am_Rn l G _ _ 17 [some (.inr (.inr 96)), some (.inl (k : Int)), none] [.inl 1] (aw M ((60 : Nat) : Int) (-1)) _
          refine rn_ifeq (t := 44) (q := 20) dX9_spring_17 rfl rfl (fun h => absurd h (by decide)) (fun w17 => ?_)
          refine rn_aload_n (x := 95) (q := 21) dX9_spring_20 rfl rfl ?_
          refine rn_get (a := 95) (v := .inl ((60 : Nat) : Int)) (q := 24) dX9_spring_21 fl_X9_132 rfl rfl rfl ?_
          refine rn_aload_n (x := 95) (q := 25) dX9_spring_24 rfl rfl ?_
          refine rn_get (a := 95) (v := .inl (T.length : Int)) (q := 28) dX9_spring_25 fl_X9_126 rfl (am_gi h13) rfl ?_
          refine rn_cmpge (t := 44) (q := 31) dX9_spring_28 rfl rfl (fun h => absurd h (by omega)) (fun w28 => ?_)
          refine rn_aload_n (x := 95) (q := 32) dX9_spring_31 rfl rfl ?_
          refine rn_iconst (q := 33) dX9_spring_32 (am_okd rfl) rfl ?_
          refine rn_iload_n (x := (k : Int)) (q := 34) dX9_spring_33 rfl rfl ?_
          refine rn_imulN (z := ((3 * k : Nat) : Int)) (q := 35) dX9_spring_34 (by omega) (by unfold am_ok; omega) rfl ?_
          refine rn_callV (b := 95) (as := [.inl ((3 * k : Nat) : Int)]) (rest := []) (q := 38) dX9_spring_35 ml_X9_296 sm_X9_readAct rfl rfl (by decide) (by omega) rfl rfl (Nat.le_of_ble_eq_true rfl) rfl (m_readActO (d := d + 177) hr k (by omega) c6) ?_
          intro r35 mem35 hq35
          obtain ⟨rfl, rfl⟩ := hq35
          show am_Rn l G _ _ 38 [some (.inr (.inr 96)), some (.inl (k : Int)), none] [] (aw M ((60 : Nat) : Int) ((60 : Nat) : Int)) _
          refine rn_iincN (x := (k : Int)) (z := ((k + 1 : Nat) : Int)) (ls' := [some (.inr (.inr 96)), some (.inl ((k + 1 : Nat) : Int)), none]) (q := 41) dX9_spring_38 rfl (by decide) (by omega) (by unfold am_ok; omega) rfl rfl ?_
          refine rn_goto (t := 13) dX9_spring_41 rfl ?_
          exact F13 M (k + 1) 60 60 (B _ _ _ _ _ hf h13 (Or.inr rfl) (hF.trans hsp.symm))
        · rw [if_neg c6] at hsp
          have eL : saP T k = T.length := by omega
          rw [eL]
          refine rn_aload_n (x := 95) (q := 14) dX9_spring_13 rfl rfl ?_
          refine rn_callV (b := 95) (as := []) (rest := []) (q := 17) dX9_spring_14 ml_X9_142 sm_X9_fine rfl rfl (by decide) (by omega) rfl rfl (Nat.le_of_ble_eq_true rfl) rfl (s_fineT (d := d + 180) (T.length : Int)) ?_
          intro r14 mem14 hq14
          obtain ⟨rfl, rfl⟩ := hq14
          show am_Rn l G _ _ 17 [some (.inr (.inr 96)), some (.inl (k : Int)), none] [.inl 1] (aw M (T.length : Int) (-1)) _
          refine rn_ifeq (t := 44) (q := 20) dX9_spring_17 rfl rfl (fun h => absurd h (by decide)) (fun w17 => ?_)
          refine rn_aload_n (x := 95) (q := 21) dX9_spring_20 rfl rfl ?_
          refine rn_get (a := 95) (v := .inl (T.length : Int)) (q := 24) dX9_spring_21 fl_X9_132 rfl rfl rfl ?_
          refine rn_aload_n (x := 95) (q := 25) dX9_spring_24 rfl rfl ?_
          refine rn_get (a := 95) (v := .inl (T.length : Int)) (q := 28) dX9_spring_25 fl_X9_126 rfl (am_gi h13) rfl ?_
          refine rn_cmpge (t := 44) (q := 31) dX9_spring_28 rfl rfl (fun w28 => ?_) (fun h => absurd h (by omega))
          exact Y M k hf h13 (hF.trans hsp.symm) ⟨by omega, eL, hj⟩ hac
      · rw [if_neg c] at hsp
        have GO : ∀ m2 : am_M, raP T k (saP T k) M m2 → am_Rn l G mt_X9_spring (d + 181) 38 [some (.inr (.inr 96)), some (.inl (k : Int)), none] [] m2 Q := by
          intro m2 hg
          obtain ⟨M2, g1, g2, g3⟩ := hg
          have hf2 : frS s9 (am_up mem 95 8 0) M2 := hf.tr (fun b2 k2 hb2 => by rw [g1 b2 (fun e => by subst e; exact absurd hb2 (by simp [s9]))])
          have hr2 : m_rd (T.take 60) 101 T.length M2 := ⟨hr.1, by rw [g1 95 (by decide)]; exact hr.2.1, by rw [g1 95 (by decide)]; exact hr.2.2.1, hr.2.2.2.1, by rw [g1 95 (by decide)]; exact hr.2.2.2.2.1, hr.2.2.2.2.2.1, fun i hi => by rw [g1 101 (by decide)]; exact hr.2.2.2.2.2.2 i hi⟩
          rcases g3 with ⟨k1, k2, k3, k4, rfl⟩ | ⟨a, p, k1, k2, rfl⟩
          · rw [if_pos k1] at hsp
            have k5 := (wfA_ok k1).2.2.2.2
            have k6 := (wfA_ok k1).1
            refine rn_iincN (x := (k : Int)) (z := ((k + 1 : Nat) : Int)) (ls' := [some (.inr (.inr 96)), some (.inl ((k + 1 : Nat) : Int)), none]) (q := 41) dX9_spring_38 rfl (by decide) (by omega) (by unfold am_ok; omega) rfl rfl ?_
            refine rn_goto (t := 13) dX9_spring_41 rfl ?_
            refine ih (k + 1) M2 (by rw [hN60]; exact k5) (by show N - nxA T (saP T k) < f; unfold nxA; omega) (fun j hj2 => ?_) (fun j hj2 => ?_) hr2 hf2 hsp
            · by_cases hji : j = k
              · rw [hji]; exact ⟨k1, by omega⟩
              · exact hj j (by omega)
            · by_cases hji : j = k
              · rw [hji]; exact ⟨k2, k3, k4⟩
              · rw [g2 _ (by omega), g2 _ (by omega), g2 _ (by omega)]; exact hac j (by omega)
          · rw [if_neg (by rw [k1]; omega)] at hsp
            refine rn_iincN (x := (k : Int)) (z := ((k + 1 : Nat) : Int)) (ls' := [some (.inr (.inr 96)), some (.inl ((k + 1 : Nat) : Int)), none]) (q := 41) dX9_spring_38 rfl (by decide) (by omega) (by unfold am_ok; omega) rfl rfl ?_
            refine rn_goto (t := 13) dX9_spring_41 rfl ?_
            exact F13 M2 (k + 1) a p (B _ _ _ _ _ hf2 hr2.2.2.1 (Or.inr rfl) (hF.trans (hsp.symm.trans k1)))
        refine rn_aload_n (x := 95) (q := 14) dX9_spring_13 rfl rfl ?_
        refine rn_callV (b := 95) (as := []) (rest := []) (q := 17) dX9_spring_14 ml_X9_142 sm_X9_fine rfl rfl (by decide) (by omega) rfl rfl (Nat.le_of_ble_eq_true rfl) rfl (s_fineT (d := d + 180) (saP T k : Int)) ?_
        intro r14 mem14 hq14
        obtain ⟨rfl, rfl⟩ := hq14
        show am_Rn l G _ _ 17 [some (.inr (.inr 96)), some (.inl (k : Int)), none] [.inl 1] (aw M (saP T k : Int) (-1)) _
        refine rn_ifeq (t := 44) (q := 20) dX9_spring_17 rfl rfl (fun h => absurd h (by decide)) (fun w17 => ?_)
        refine rn_aload_n (x := 95) (q := 21) dX9_spring_20 rfl rfl ?_
        refine rn_get (a := 95) (v := .inl (saP T k : Int)) (q := 24) dX9_spring_21 fl_X9_132 rfl rfl rfl ?_
        refine rn_aload_n (x := 95) (q := 25) dX9_spring_24 rfl rfl ?_
        refine rn_get (a := 95) (v := .inl (T.length : Int)) (q := 28) dX9_spring_25 fl_X9_126 rfl (am_gi h13) rfl ?_
        refine rn_cmpge (t := 44) (q := 31) dX9_spring_28 rfl rfl (fun h => absurd h (by omega)) (fun w28 => ?_)
        refine rn_aload_n (x := 95) (q := 32) dX9_spring_31 rfl rfl ?_
        refine rn_iconst (q := 33) dX9_spring_32 (am_okd rfl) rfl ?_
        refine rn_iload_n (x := (k : Int)) (q := 34) dX9_spring_33 rfl rfl ?_
        refine rn_imulN (z := ((3 * k : Nat) : Int)) (q := 35) dX9_spring_34 (by omega) (by unfold am_ok; omega) rfl ?_
        refine rn_callV (b := 95) (as := [.inl ((3 * k : Nat) : Int)]) (rest := []) (q := 38) dX9_spring_35 ml_X9_296 sm_X9_readAct rfl rfl (by decide) (by omega) rfl rfl (Nat.le_of_ble_eq_true rfl) rfl (m_readAct (d := d + 177) hr k (saP T k) (by omega) (by omega)) ?_
        intro r35 mem35 hq35
        obtain ⟨rfl, hg35⟩ := hq35
        show am_Rn l G _ _ 38 [some (.inr (.inr 96)), some (.inl (k : Int)), none] [] mem35 _
        exact GO _ hg35
  have hT1 : m_text T (am_up mem 95 11 0) := ⟨hT.1, hT.2⟩
  have fb : frS s9 (am_up mem 95 8 0) (am_up (bgn (am_up mem 95 11 0) 101 (T.length : Int) 60) 95 8 0) := by
    intro b k hb
    by_cases h95 : b = 95
    · subst h95
      unfold s9 at hb
      simp [ble_f] at hb
      rw [am_up_at, am_up_at]
      by_cases h8 : k = 8
      · rw [if_pos h8, if_pos h8]
      · rw [if_neg h8, if_neg h8, bgn_k (by omega) (by omega) (by omega), am_up_neq (by omega)]
    · rw [am_up_ne h95, am_up_ne h95, bgn_ne h95, am_up_ne h95]
  refine rn_aload_n (x := 95) (q := 1) dX9_spring_0 rfl rfl ?_
  refine rn_iconst (q := 2) dX9_spring_1 (am_okd rfl) rfl ?_
  refine rn_puti (a := 95) (q := 5) dX9_spring_2 fl_X9_107 rfl rfl rfl rfl ?_
  refine rn_aload_n (x := 95) (q := 6) dX9_spring_5 rfl rfl ?_
  refine rn_bipush (q := 8) dX9_spring_6 ⟨by decide, by decide⟩ rfl ?_
  refine rn_callV (b := 95) (as := [.inl 60]) (rest := []) (q := 11) dX9_spring_8 ml_X9_162 sm_X9_beginText rfl rfl (by decide) (by omega) rfl rfl (Nat.le_of_ble_eq_true rfl) rfl (s_beginText9 (d := d + 179) hT1 60) ?_
  intro r8 mem8 hq8
  obtain ⟨rfl, rfl⟩ := hq8
  show am_Rn l G _ _ 11 [some (.inr (.inr 96)), none, none] [] (aw (am_up (bgn (am_up mem 95 11 0) 101 (T.length : Int) 60) 95 8 0) 0 (-1)) _
  refine rn_iconst (q := 12) dX9_spring_11 (am_okd rfl) rfl ?_
  refine rn_istore_n (ls' := [some (.inr (.inr 96)), some (.inl 0), none]) (q := 13) dX9_spring_12 (by decide) rfl rfl ?_
  exact L 61 0 _ (Nat.zero_le _) (by show N - 0 < 61; omega) (fun j hj => absurd hj (Nat.not_lt_zero j)) (fun j hj => absurd hj (Nat.not_lt_zero j)) (rd_of hT 60 (by decide)) fb hF
end P9b
