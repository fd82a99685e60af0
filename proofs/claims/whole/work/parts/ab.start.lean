/-! the start: the numbers in the cells, the state -/
def B0 : bm_Bt := LB_X8 0 ++ (LB_X9 95 ++ [(101, 1, [])])
def mem0 : am_M := fun a j => ((B0.getD a (0, 0, [])).2.2).getD j 0
def B0_chk (a : Nat) : Bool := match B0[a]?, am_ks[a]? with
  | some c, some q => decide (c.1 = q.1) && decide (c.2.1 = q.2) && (!(decide (c.1 < 100)) || (List.range c.2.1).all (fun k => !(am_ff c.1 k) || decide ((am_fin a k : Int) = c.2.2.getD k 0)))
  | _, _ => false
theorem B0_len : B0.length = 127 := by decide +kernel
theorem B0_ok : ∀ a, a < 127 → B0_chk a = true := by decide +kernel
def B0_val (a j : Nat) : Bool := match am_sl a j with
  | 1 => decide (-1000 ≤ mem0 a j ∧ mem0 a j ≤ 1000)
  | 3 => decide (mem0 a j = 0)
  | 4 => decide (mem0 a j = 0)
  | _ => decide (-1000 ≤ mem0 a j ∧ mem0 a j ≤ 1000)
theorem B0_vals : ∀ a, a < 127 → ∀ j, j < 60 → B0_val a j = true := by decide +kernel
theorem B0_lens : ∀ a, a < 127 → ((B0.getD a (0, 0, [])).2.2).length ≤ 60 := by decide +kernel
theorem am_okt0 (t : Nat) : am_okt t 0 := by
  unfold am_okt
  split
  · unfold am_okl; omega
  · exact Or.inl rfl
  · omega
  · exact am_ok0
theorem mem0_okM : am_okM mem0 := by
  intro a j
  by_cases ha : a < 127
  · by_cases hj : j < 60
    · have h := B0_vals a ha j hj
      unfold B0_val at h
      unfold am_okt
      split at h
      · rename_i e; rw [e]; have h := of_decide_eq_true h; show am_okl _; unfold am_okl; omega
      · rename_i e; rw [e]; exact Or.inl (of_decide_eq_true h)
      · rename_i e; rw [e]; have h := of_decide_eq_true h; show -128 ≤ mem0 a j ∧ mem0 a j ≤ 127; omega
      · have h := of_decide_eq_true h
        split
        · unfold am_okl; omega
        · rename_i e1 e2 e3 e4; exact absurd e4 (by assumption)
        · rename_i e1 e2 e3 e4; exact absurd e4 (by assumption)
        · unfold am_ok; omega
    · have h := B0_lens a ha
      have e : mem0 a j = 0 := by
        unfold mem0
        rw [List.getD_eq_getElem?_getD, List.getElem?_eq_none (by omega)]; rfl
      rw [e]; exact am_okt0 _
  · have e : mem0 a j = 0 := by
      unfold mem0
      rw [List.getD_eq_getElem?_getD (l := B0), List.getElem?_eq_none (by rw [B0_len]; omega)]; rfl
    rw [e]; exact am_okt0 _
theorem B0_ws (G : am_G) : bm_ws G B0 = am_ws G mem0 := by
  apply List.ext_getElem?
  intro a
  by_cases ha : a < 127
  · have h := B0_ok a ha
    unfold B0_chk at h
    cases hB : B0[a]? with
    | none => rw [hB] at h; cases hk : am_ks[a]? <;> rw [hk] at h <;> cases h
    | some c =>
      cases hk : am_ks[a]? with
      | none => rw [hB, hk] at h; cases h
      | some q =>
        rw [hB, hk] at h
        obtain ⟨c1, c2, c3⟩ := c
        obtain ⟨q1, q2⟩ := q
        simp only [Bool.and_eq_true, decide_eq_true_eq] at h
        obtain ⟨⟨rfl, rfl⟩, h3⟩ := h
        have hm : mem0 a = fun j => c3.getD j 0 := by
          funext j
          unfold mem0
          rw [List.getD_eq_getElem?_getD (l := B0), hB]; rfl
        rw [bm_get hB, am_ws_get ha]
        congr 2
        unfold am_cell bm_cell
        rw [hk]
        simp only [hm]
        by_cases hc : c1 < 100
        · simp only [if_pos hc]
          congr 2
          apply List.map_congr_left
          intro k hk2
          have h4 : (!(am_ff c1 k) || decide ((am_fin a k : Int) = c3.getD k 0)) = true := by
            have h5 := h3
            simp only [hc, decide_true, Bool.not_true, Bool.false_or] at h5
            exact List.all_eq_true.mp h5 k hk2
          unfold am_rd
          by_cases hf : am_ff c1 k = true
          · rw [if_pos hf]
            rw [hf] at h4
            simp only [Bool.not_true, Bool.false_or, decide_eq_true_eq] at h4
            rw [h4]
          · rw [if_neg hf, hm]
        · simp only [if_neg hc]
  · rw [List.getElem?_eq_none (by unfold bm_ws; simp; rw [B0_len]; omega), List.getElem?_eq_none (by unfold am_ws; simp; omega)]
theorem B0_P {G : am_G} {H : Heap} (h : bm_P G B0 H) : am_P G mem0 H := ⟨by rw [← B0_ws]; exact h.1, mem0_okM⟩
def e0 : est := (fun _ => 0, fun _ => 0, 0, 0, 0, 20, 0, 1)
def h0 : hrs := (0, fun _ => 0, fun _ => 0, fun _ => 0)
theorem e0_ok : e_ok 0 0 e0 := ⟨fun _ => Nat.zero_le _, fun _ => Nat.zero_le _, by decide, by decide, by decide, by decide, by decide, by decide, by decide⟩
theorem h0_ok : h_ok h0 := ⟨by decide, fun _ => Nat.zero_le _, fun _ => Nat.zero_le _, fun _ => Nat.zero_le _⟩
theorem nil_lt (i : Nat) : ([] : List Nat).getD i 0 < 256 := by rw [List.getD_nil]; decide
theorem no_lt {P : Prop} {i : Nat} (h : i < 0) : P := absurd h (Nat.not_lt_zero i)
theorem CQ_0 : CQ 11 [] [] 1 (fun _ => 0) h0 e0 0 mem0 := by
  refine ⟨show 11 ∈ [11, 84] by decide, by decide +kernel, ⟨by decide, nil_lt, Or.inl ⟨rfl, rfl⟩⟩, ⟨by decide +kernel, fun i hi => no_lt hi, by decide, fun x hx => nomatch hx⟩, ⟨by decide +kernel, by decide, by decide, fun _ => Nat.zero_le _, by decide +kernel⟩, ⟨h0_ok, by decide +kernel, fun i hi => no_lt hi⟩, ⟨?_, ?_, by decide +kernel, by decide +kernel, by decide +kernel, by decide +kernel, by decide +kernel, by decide +kernel⟩, e0_ok, by decide⟩
  · show ∀ i, i < 8 → mem0 17 i = 0
    decide +kernel
  · show ∀ i, i < 8 → mem0 18 i = 0
    decide +kernel
def p0 (j : Nat) : Nat := 27 + 3 * j
theorem CR_0 : CR [] [] [] (fun _ => none) [] [] 0 mem0 := by
  refine ⟨⟨by decide +kernel, by decide, nil_lt, fun i hi => no_lt hi⟩, ⟨by decide +kernel, by decide, fun i hi => no_lt hi⟩, ⟨by decide +kernel, by decide, p0, ?_, fun i j _ _ h => by unfold p0 at h; omega, fun j hj => no_lt hj⟩, ?_, ⟨by decide +kernel, by decide, fun i hi => no_lt hi⟩, ⟨by decide +kernel, by decide, fun i hi => no_lt hi⟩, by decide +kernel, ⟨0, by decide, by decide +kernel⟩, ⟨0, by decide, by decide +kernel⟩⟩
  · show ∀ j, j < 12 → mem0 26 j = ((p0 j + 1 : Nat) : Int) ∧ p0 j ∈ pastL
    decide +kernel
  · intro i hi
    have h : ∀ i, i < 2 → mem0 63 i = ((89 + 3 * i + 1 : Nat) : Int) ∧ mem0 64 i = -1 := by decide +kernel
    obtain ⟨a1, a2⟩ := h i hi
    exact ⟨a1, by omega, fun _ => by omega, fun e he => by cases he⟩
theorem DQ_0 : DQ [] 1 (fun _ => 0) h0 e0 0 mem0 := by
  refine ⟨⟨by decide, nil_lt⟩, ⟨Or.inl rfl, by decide +kernel, by decide +kernel, fun j hj => no_lt hj⟩, by decide +kernel, ⟨by decide +kernel, by decide, by decide, fun _ => Nat.zero_le _, by decide +kernel⟩, ⟨h0_ok, by decide +kernel, fun i hi => no_lt hi⟩, ⟨?_, ?_, ?_, by decide +kernel, by decide +kernel, by decide +kernel, by decide +kernel, by decide +kernel⟩, e0_ok, by decide⟩
  · show ∀ i, i < 8 → mem0 96 (0 + i) = 0
    decide +kernel
  · show ∀ i, i < 8 → mem0 96 (0 + (8 + i)) = 0
    decide +kernel
  · intro i hi
    rw [show (eP e0).testBit i = false from Nat.zero_testBit i]
    have h : ∀ i, i < 8 → mem0 96 (0 + (16 + i)) = 0 := by decide +kernel
    exact h i hi
theorem DR_0 : DR [] [] [] (fun _ => none) [] [] 0 mem0 := by
  refine ⟨⟨by decide +kernel, by decide, nil_lt, fun i hi => no_lt hi⟩, ⟨by decide +kernel, by decide, fun i hi => no_lt hi⟩, ⟨by decide +kernel, by decide, fun i hi => no_lt hi⟩, ⟨by decide +kernel, by decide +kernel, fun i hi => ?_⟩, ⟨0, by decide +kernel, by decide, by decide +kernel, by decide, fun i hi => no_lt hi⟩, ⟨by decide +kernel, by decide, fun i hi => no_lt hi⟩, by decide +kernel⟩
  have h : ∀ i, i < 2 → mem0 124 i = 0 ∧ mem0 125 i = 0 := by decide +kernel
  obtain ⟨a1, a2⟩ := h i hi
  exact ⟨Or.inl a1, by omega, fun _ => Or.inl a1, fun e he => by cases he⟩
theorem Inv_0 : Inv 0 mem0 := ⟨[], [], [], 1, fun _ => 0, h0, e0, 0, [], fun _ => none, [], [], ⟨11, [], 84, CQ_0, show 84 ∈ [11, 84] by decide, by decide, by decide +kernel, CR_0⟩, ⟨DQ_0, DR_0⟩, ⟨fun i hi => no_lt hi, fun i hi => no_lt hi, fun i hi => no_lt hi, fun i hi e he => by cases he⟩, by decide⟩
