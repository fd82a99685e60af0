/-! the law from its entry -/
theorem lt_1 {w : Cond} {i : Nat} (h : tables_1_1[i]? = some w) : w ∈ lw_tbl := List.mem_append_right _ (List.mem_append_left _ (List.mem_of_getElem? h))
theorem lt_2 {w : Cond} {i : Nat} (h : tables_1_2[i]? = some w) : w ∈ lw_tbl := List.mem_append_right _ (List.mem_append_right _ (List.mem_append_left _ (List.mem_of_getElem? h)))
theorem lt_3 {w : Cond} {i : Nat} (h : tables_1_3[i]? = some w) : w ∈ lw_tbl := List.mem_append_right _ (List.mem_append_right _ (List.mem_append_right _ (List.mem_append_left _ (List.mem_of_getElem? h))))
theorem lt_4 {w : Cond} {i : Nat} (h : tables_1_4[i]? = some w) : w ∈ lw_tbl := List.mem_append_right _ (List.mem_append_right _ (List.mem_append_right _ (List.mem_append_right _ (List.mem_append_left _ (List.mem_of_getElem? h)))))
theorem lt_5 {w : Cond} {i : Nat} (h : tables_1_5[i]? = some w) : w ∈ lw_tbl := List.mem_append_right _ (List.mem_append_right _ (List.mem_append_right _ (List.mem_append_right _ (List.mem_append_right _ (List.mem_append_left _ (List.mem_of_getElem? h))))))
theorem lt_6 {w : Cond} {i : Nat} (h : tables_1_6[i]? = some w) : w ∈ lw_tbl := List.mem_append_right _ (List.mem_append_right _ (List.mem_append_right _ (List.mem_append_right _ (List.mem_append_right _ (List.mem_append_right _ (List.mem_append_left _ (List.mem_of_getElem? h)))))))
theorem lt_7 {w : Cond} {i : Nat} (h : tables_1_7[i]? = some w) : w ∈ lw_tbl := List.mem_append_right _ (List.mem_append_right _ (List.mem_append_right _ (List.mem_append_right _ (List.mem_append_right _ (List.mem_append_right _ (List.mem_append_right _ (List.mem_of_getElem? h)))))))
section AG
variable {s : State} {args : Array Value}
theorem st_K (ht : ∀ w ∈ am_tbl, w.before args s = true) : ∃ D : va_G, ∀ (c : Nat) (q : vw_C), vwCl[c]? = some q → u_Kn s q.1 q.2.1 q.2.2 (D.1 c) (D.2 c) := by
  have h : ∀ c : Nat, ∃ x : ClassId × (Nat → Nat), ∀ q : vw_C, vwCl[c]? = some q → u_Kn s q.1 q.2.1 q.2.2 x.1 x.2 := by
    intro c
    match c with
    | 0 =>
      obtain ⟨a, b, h⟩ := u_known (C := RX0) (T := TX0) (N := 8) (n := 8) ht am_iX0 (ht _ bi_X0)
      exact ⟨(a, b), fun q hq => by cases hq; exact h⟩
    | 1 =>
      obtain ⟨a, b, h⟩ := u_known (C := RX1) (T := TX1) (N := 7) (n := 7) ht am_iX1 (ht _ bi_X1)
      exact ⟨(a, b), fun q hq => by cases hq; exact h⟩
    | 2 =>
      obtain ⟨a, b, h⟩ := u_known (C := RX2) (T := TX2) (N := 2) (n := 2) ht am_iX2 (ht _ bi_X2)
      exact ⟨(a, b), fun q hq => by cases hq; exact h⟩
    | 3 =>
      obtain ⟨a, b, h⟩ := u_known (C := RX3) (T := TX3) (N := 2) (n := 2) ht am_iX3 (ht _ bi_X3)
      exact ⟨(a, b), fun q hq => by cases hq; exact h⟩
    | 4 =>
      obtain ⟨a, b, h⟩ := u_known (C := RX4) (T := TX4) (N := 10) (n := 10) ht am_iX4 (ht _ bi_X4)
      exact ⟨(a, b), fun q hq => by cases hq; exact h⟩
    | 5 =>
      obtain ⟨a, b, h⟩ := u_known (C := RX5) (T := TX5) (N := 3) (n := 3) ht am_iX5 (ht _ bi_X5)
      exact ⟨(a, b), fun q hq => by cases hq; exact h⟩
    | 6 =>
      obtain ⟨a, b, h⟩ := u_known (C := RX6) (T := TX6) (N := 11) (n := 11) ht am_iX6 (ht _ bi_X6)
      exact ⟨(a, b), fun q hq => by cases hq; exact h⟩
    | 7 =>
      obtain ⟨a, b, h⟩ := u_known (C := RX7) (T := TX7) (N := 2) (n := 2) ht am_iX7 (ht _ bi_X7)
      exact ⟨(a, b), fun q hq => by cases hq; exact h⟩
    | 8 =>
      obtain ⟨a, b, h⟩ := u_known (C := RX8) (T := TX8) (N := 20) (n := 20) ht am_iX8 (ht _ bi_X8)
      exact ⟨(a, b), fun q hq => by cases hq; exact h⟩
    | 9 =>
      obtain ⟨a, b, h⟩ := u_known (C := RX9) (T := TX9) (N := 51) (n := 51) ht am_iX9 (ht _ bi_X9)
      exact ⟨(a, b), fun q hq => by cases hq; exact h⟩
    | c + 10 => exact ⟨(0, fun _ => 0), fun q hq => by simp at hq⟩
  exact ⟨(fun c => (Classical.choose (h c)).1, fun c => (Classical.choose (h c)).2), fun c q hq => Classical.choose_spec (h c) q hq⟩
theorem st_A1 {ty : FieldType} (ht : (Cond.arrayClass ty).before args s = true) (hty : ∀ C, ty ≠ .object C) : ∃ cA : ClassId, ArrOfT s cA ty ∧ s.vm.findClass ("[" ++ ty.toString) = some cA := by
  obtain ⟨cA, kA, comp, h1, h2, h3⟩ := Cond.arrayClass_spec ht
  exact ⟨cA, fun n z => ⟨fun k h => (by cases h), kA, h2, comp, h3⟩, h1⟩
theorem st_A (ht : ∀ w ∈ am_tbl, w.before args s = true) (hAO : va_AO "HeldInTrust$Estate" s) : ∃ cA : Nat → ClassId, ∀ (k : Nat) (q : ClassId × FieldType), ([(cA 0, .int), (cA 1, .long), (cA 2, .byte), (cA 3, .boolean), (cA 4, .object "HeldInTrust$Estate")] : List (ClassId × FieldType))[k]? = some q → ArrOfT s q.1 q.2 ∧ va_RA s q.1 q.2 := by
  obtain ⟨c0, a0, b0⟩ := st_A1 (ht _ bo_int) (fun C h => by cases h)
  obtain ⟨c1, a1, b1⟩ := st_A1 (ht _ bo_long) (fun C h => by cases h)
  obtain ⟨c2, a2, b2⟩ := st_A1 (ht _ bo_byte) (fun C h => by cases h)
  obtain ⟨c3, a3, b3⟩ := st_A1 (ht _ bo_boolean) (fun C h => by cases h)
  obtain ⟨comp, c4, kA, g1, -, g3, g4, g5⟩ := Cond.arrayOver_spec hAO
  refine ⟨fun k => if k = 0 then c0 else if k = 1 then c1 else if k = 2 then c2 else if k = 3 then c3 else c4, fun k q hq => ?_⟩
  match k, hq with
  | 0, hq => cases hq; exact ⟨a0, b0⟩
  | 1, hq => cases hq; exact ⟨a1, b1⟩
  | 2, hq => cases hq; exact ⟨a2, b2⟩
  | 3, hq => cases hq; exact ⟨a3, b3⟩
  | 4, hq => cases hq; exact ⟨fun n z => ⟨fun k h => (by cases h), kA, g3, comp, g4⟩, kA, comp, g3, g4, g1, g5⟩
  | k + 5, hq => simp at hq
def st_tm (i : Nat) : Term := if i = 0 then .string "HeldInTrust$Rule" 21 else .string "HeldInTrust" 140
abbrev st_by : List (List Int32) := [[118, 107, 104, 119, 112, 110, 99], [111, 108, 99, 119]]
theorem st_S (hgv : (Jvm.Cond.and given_1 narrow_1).before args s = true) : ∃ adK adV : Nat → Nat, vk_S 2 [7, 4] st_by adK adV (fun q => s.heap.size ≤ q) s s.heap ∧ ∀ i : Nat, i < 2 → (st_tm i).eval args s none [] s = some (.ref (adK i)) := by
  have hs := flat_of_before _ hgv
  refine vk_Sof (tm := st_tm) (fun i hi => ?_) (fun i hi => ?_) (fun i hi => ?_) (fun i hi => ?_) (fun i hi => ?_) (fun i hi j hj => ?_) (fun i j hi hj hij => ?_) (fun a ha h => absurd h (Nat.not_le.mpr ha))
  · match i, hi with
    | 0, _ => decide
    | 1, _ => decide
    | i + 2, h => exact absurd h (by omega)
  · match i, hi with
    | 0, _ => exact hs _ (by decide +kernel)
    | 1, _ => exact hs _ (by decide +kernel)
    | i + 2, h => exact absurd h (by omega)
  · match i, hi with
    | 0, _ => exact hs _ (by decide +kernel)
    | 1, _ => exact hs _ (by decide +kernel)
    | i + 2, h => exact absurd h (by omega)
  · match i, hi with
    | 0, _ => exact hs _ (by decide +kernel)
    | 1, _ => exact hs _ (by decide +kernel)
    | i + 2, h => exact absurd h (by omega)
  · match i, hi with
    | 0, _ => exact hs _ (by decide +kernel)
    | 1, _ => exact hs _ (by decide +kernel)
    | i + 2, h => exact absurd h (by omega)
  · match i, hi with
    | 0, _ =>
      match j, hj with
      | 0, _ => exact hs _ (by decide +kernel)
      | 1, _ => exact hs _ (by decide +kernel)
      | 2, _ => exact hs _ (by decide +kernel)
      | 3, _ => exact hs _ (by decide +kernel)
      | 4, _ => exact hs _ (by decide +kernel)
      | 5, _ => exact hs _ (by decide +kernel)
      | 6, _ => exact hs _ (by decide +kernel)
      | j + 7, h => exact absurd h (by show ¬ j + 7 < 7; omega)
    | 1, _ =>
      match j, hj with
      | 0, _ => exact hs _ (by decide +kernel)
      | 1, _ => exact hs _ (by decide +kernel)
      | 2, _ => exact hs _ (by decide +kernel)
      | 3, _ => exact hs _ (by decide +kernel)
      | j + 4, h => exact absurd h (by show ¬ j + 4 < 4; omega)
    | i + 2, h => exact absurd h (by omega)
  · match i, j, hi, hj, hij with
    | 0, 0, _, _, h => exact absurd rfl h
    | 0, 1, _, _, _ => exact Or.inl (hs _ (by decide +kernel))
    | 1, 0, _, _, _ => exact Or.inr (hs _ (by decide +kernel))
    | 1, 1, _, _, h => exact absurd rfl h
    | i + 2, _, h, _, _ => exact absurd h (by omega)
    | _, j + 2, _, h, _ => exact absurd h (by omega)
theorem st_G {b : Nat} (hts : ∀ w ∈ lw_tbl, w.before args s = true) (hgv : (Jvm.Cond.and given_1 narrow_1).before args s = true) : ∃ G : am_G, G.1 = s.heap.size ∧ G.2.2.2 0 = b ∧ va_K G.2.1 vwCl (am_tys G) s ∧ am_X G s := by
  have hs := flat_of_before _ hgv
  have ht : ∀ w ∈ am_tbl, w.before args s = true := fun w hw => hts w (List.mem_filter.mp hw).1
  obtain ⟨D, hD⟩ := st_K ht
  obtain ⟨cA, hA⟩ := st_A ht (va_AO.of (hts _ (lt_1 (i := 219) rfl)))
  obtain ⟨adK, adV, hS, hev⟩ := st_S hgv
  have hA0 : ∀ a : Nat, a < s.heap.size → ¬ (fun q : Nat => s.heap.size ≤ q) a := fun a ha h => absurd h (Nat.not_le.mpr ha)
  refine ⟨(s.heap.size, D, cA, fun k => if k = 0 then b else if k ≤ 10 then adK (k - 1) else adV (k - 11)), rfl, rfl, ⟨hD, hA⟩, ⟨fun i hi => ?_, fun i j hi hj h => ?_⟩, vk_R.of (hts _ (lt_1 (i := 76) rfl)) (hev 0 (by decide)), vk_R.of (hts _ (lt_2 (i := 157) rfl)) (hev 1 (by decide)), va_Zof (hts _ (lt_1 (i := 86) rfl)) (hts _ (lt_1 (i := 6) rfl)) (va_eqi (hs _ (by decide +kernel))) hA0, va_Nw.of rfl (hts _ (lt_3 (i := 101) rfl)), va_Nw.of rfl (hts _ (lt_3 (i := 111) rfl))⟩
  · have e1 : (if i + 1 = 0 then b else if i + 1 ≤ 10 then adK (i + 1 - 1) else adV (i + 1 - 11)) = adK i := by rw [if_neg (by omega), if_pos (by omega)]; rfl
    have e2 : (if i + 11 = 0 then b else if i + 11 ≤ 10 then adK (i + 11 - 1) else adV (i + 11 - 11)) = adV i := by rw [if_neg (by omega), if_neg (by omega)]; rfl
    have h := hS.1 i hi
    rw [← e1, ← e2] at h
    exact h
  · refine hS.2 i j hi hj ?_
    have e1 : (if i + 1 = 0 then b else if i + 1 ≤ 10 then adK (i + 1 - 1) else adV (i + 1 - 11)) = adK i := by rw [if_neg (by omega), if_pos (by omega)]; rfl
    have e2 : (if j + 1 = 0 then b else if j + 1 ≤ 10 then adK (j + 1 - 1) else adV (j + 1 - 11)) = adK j := by rw [if_neg (by omega), if_pos (by omega)]; rfl
    exact e1.symm.trans (h.trans e2)
theorem st_E (hts : ∀ w ∈ lw_tbl, w.before args s = true) : bm_E s := by
  refine ⟨va_AO.of (hts _ (lt_1 (i := 219) rfl)), ?_⟩
  show ∀ q ∈ [(RX8, 9, yX7_init), (RX8, 18, yX3_init), (RX8, 25, yX6_init), (RX6, 33, yX4_init), (RX8, 32, yX0_init), (RX2, 17, yX0_init), (RX8, 60, yX5_init), (RX8, 98, yX4_init), (RX1, 18, yX8_put)], va_Nw (.methodLinkNest q.1 q.2.1 q.2.2 "HeldInTrust") s
  exact List.forall_mem_cons.mpr ⟨va_Nw.of rfl (hts _ (lt_1 (i := 33) rfl)), List.forall_mem_cons.mpr ⟨va_Nw.of rfl (hts _ (lt_1 (i := 50) rfl)), List.forall_mem_cons.mpr ⟨va_Nw.of rfl (hts _ (lt_1 (i := 66) rfl)), List.forall_mem_cons.mpr ⟨va_Nw.of rfl (hts _ (lt_1 (i := 72) rfl)), List.forall_mem_cons.mpr ⟨va_Nw.of rfl (hts _ (lt_1 (i := 168) rfl)), List.forall_mem_cons.mpr ⟨va_Nw.of rfl (hts _ (lt_1 (i := 220) rfl)), List.forall_mem_cons.mpr ⟨va_Nw.of rfl (hts _ (lt_1 (i := 231) rfl)), List.forall_mem_cons.mpr ⟨va_Nw.of rfl (hts _ (lt_2 (i := 49) rfl)), List.forall_mem_cons.mpr ⟨va_Nw.of rfl (hts _ (lt_2 (i := 14) rfl)), fun _ h => absurd h List.not_mem_nil⟩⟩⟩⟩⟩⟩⟩⟩⟩
theorem st_N {l : Launch} {G : am_G} (hlt : l.stackTraces = false) (hG : G.1 = s.heap.size) (hts : ∀ w ∈ lw_tbl, w.before args s = true) (hgv : (Jvm.Cond.and given_1 narrow_1).before args s = true) : nxE l G s := by
  have hs := flat_of_before _ hgv
  have hA0 : ∀ a : Nat, a < s.heap.size → ¬ am_A G a := fun a ha h => by
    have h2 : G.1 ≤ a := h
    omega
  exact ⟨hlt, ⟨va_Nw.of rfl (hts _ (lt_5 (i := 18) rfl)), va_Nw.of rfl (hts _ (lt_5 (i := 20) rfl)), va_Nw.of rfl (hts _ (lt_5 (i := 22) rfl)), va_Nw.of rfl (hts _ (lt_5 (i := 17) rfl))⟩, vx_Zqof (hts _ (lt_5 (i := 42) rfl)) (hts _ (lt_1 (i := 17) rfl)) (hs _ (by decide +kernel)) hA0, vx_Zqof (hts _ (lt_5 (i := 44) rfl)) (hts _ (lt_1 (i := 17) rfl)) (hs _ (by decide +kernel)) hA0⟩
end AG
def lw_At (p : Program) (s : State) (m : MethodId) (meth : Method) (c : Code) (b L : Nat) (xs : Nat → Int32) : Prop :=
  p.tables.exec = Jvm.exec ∧ c.code = code ∧ meth.sig.returnType = ret ∧ c.maxLocals = 8 ∧ s.vm.findClass R_law = some m.cls ∧ (∀ w ∈ lw_tbl, w.before #[Value.ref b] s = true) ∧ va_X b L xs s s.heap ∧ b < s.heap.size ∧ meth.locks = false ∧ (Jvm.Cond.and given_1 narrow_1).before #[Value.ref b] s = true
theorem st_walk {l : Launch} {G : am_G} {L : Nat} {xs : Nat → Int32} (hlt : l.stackTraces = false) (hL : L ≤ 2560) : LG l G L xs 0 [some (.inr (.inr 1001)), none, none, none, none, none, none, none] [] (bm_P G []) 0 0 := by
  refine gn_new (i := 8) (a := 0) (q := 3) dL_law_0 am_cfX8 cl_L_8 bi_X8 bj_X8 rfl (by decide) rfl (by decide) (by decide) ?_
  refine gn_dup (q := 4) dL_law_3 rfl rfl ?_
  refine gn_callI (b := 0) (as := []) (rest := [.inr (.inr 1)]) (d' := 204) (q := 7) dL_law_4 mi_L_19 rfl bs_X8 (by decide) rfl rfl (Nat.le_of_ble_eq_true rfl) rfl (by decide) (by decide) (b_X8 (d := 200) (P := []) (a := 0) rfl (by decide)) ?_
  refine gn_astore_n (x := 0) (ls' := [some (.inr (.inr 1001)), some (.inr (.inr 1)), none, none, none, none, none, none]) (q := 8) dL_law_7 (by decide) rfl rfl ?_
  show LG l G L xs 8 _ [] (bm_P G (LB_X8 0)) _ _
  refine gn_new (i := 20) (a := 95) (q := 11) dL_law_8 am_cfX9 cl_L_20 bi_X9 bj_X9 (by decide +kernel) (by decide) rfl (by decide) (by decide) ?_
  refine gn_dup (q := 12) dL_law_11 rfl rfl ?_
  refine gn_callI (b := 95) (as := []) (rest := [.inr (.inr 96)]) (d' := 200) (q := 15) dL_law_12 mi_L_22 rfl bs_X9 (by decide) rfl rfl (Nat.le_of_ble_eq_true rfl) rfl (by decide) (by decide) (b_X9 (d := 200) (P := LB_X8 0) (a := 95) (by decide +kernel) (by decide)) ?_
  refine gn_astore_n (x := 95) (ls' := [some (.inr (.inr 1001)), some (.inr (.inr 1)), some (.inr (.inr 96)), none, none, none, none, none]) (q := 16) dL_law_15 (by decide) rfl rfl ?_
  refine gn_iconst (q := 17) dL_law_16 (am_okd rfl) rfl ?_
  refine gn_newl (N := 1) (a := 126) (q := 19) dL_law_17 bo_long (by decide) rfl (by decide +kernel) (by decide) rfl (by decide) (by decide) ?_
  refine gn_astore_n (x := 126) (ls' := [some (.inr (.inr 1001)), some (.inr (.inr 1)), some (.inr (.inr 96)), some (.inr (.inr 127)), none, none, none, none]) (q := 20) dL_law_19 (by decide) rfl rfl ?_
  rw [List.append_assoc]
  refine gn_mono (Wd2 := am_P G mem0) (fun H h => B0_P h) ?_
  refine gn_iconst (q := 21) dL_law_20 (am_okd rfl) rfl ?_
  refine gn_istore (ls' := lwL ((5 * 0 : Nat) : Int)) (q := 23) dL_law_21 (by decide) rfl rfl ?_
  exact lw_loop hlt hL 0 (Nat.zero_le _) mem0 Inv_0
theorem whole_start {p : Program} {e : Env} {s : State} {m : MethodId} {below : List Frame} {meth : Method} {c : Code} (l : Launch) (hlt : l.stackTraces = false) {b L : Nat} {xs : Nat → Int32} (hL : L ≤ 2560) (C0 : lw_At p s m meth c b L xs) : W p l e room_1 s m #[Value.ref b] below meth c s.heap [] 0 0 (lw_Z below #[Value.ref b] s) (entryFrame m ([Value.ref b] : List Value).toArray 8) := by
  obtain ⟨hx, hb, hr, hml, hown, hts, hX, hbl, hlocks, hgv⟩ := C0
  obtain ⟨G, hG1, hG2, hK, hX2⟩ := st_G (b := b) hts hgv
  have ht : ∀ w ∈ am_tbl, w.before #[Value.ref b] s = true := fun w hw => hts w (List.mem_filter.mp hw).1
  have e1 : am_enc G (.inr (.inr 1001)) = .ref b := by rw [lw_e1, hG2]
  have hl := lv_entry ([.ref b]) (n := 8) (Nat.le_of_ble_eq_true rfl)
  rw [lg_entry_eq]
  generalize (lg_sl ([.ref b]) ++ List.replicate (8 - (lg_sl ([.ref b])).length) Slot.unset).toArray = ls at hl ⊢
  have hl : lv_has ls 8 [(0, .ref b)] := hl
  refine st_walk (G := G) hlt hL p e room_1 s m #[Value.ref b] below meth c s.heap [] ls ⟨hx, hb, hml, hown, ht, hr, hlocks, hK, Nat.le_of_eq hG1, by decide, by decide, hX2⟩ ⟨by decide, by decide, (fun h => nomatch h), st_E hts, st_N hlt hG1 hts hgv, by rw [hG2]; exact hX, by rw [hG2]; exact hbl, hG1⟩ ⟨fun k q h => by simp [bm_ws] at h, hG1.symm⟩ va_S.rf ⟨hl.1, hl.2.1, fun i v hi => ?_⟩ (fun v h => by cases h)
  match i, hi with
  | 0, hi =>
    cases hi
    rw [e1]
    exact ⟨hl.2.2 (0, .ref b) List.mem_cons_self, trivial⟩
  | 1, hi => cases hi
  | 2, hi => cases hi
  | 3, hi => cases hi
  | 4, hi => cases hi
  | 5, hi => cases hi
  | 6, hi => cases hi
  | 7, hi => cases hi
  | i + 8, hi => cases hi
