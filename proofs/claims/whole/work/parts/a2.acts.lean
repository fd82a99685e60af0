/-! pairs: acts -/
theorem gd_mem {U : List est} {j : Nat} (h : j < U.length) : U.getD j est0 ∈ U := by
  rw [List.getD_eq_getElem?_getD, List.getElem?_eq_getElem h]
  exact List.getElem_mem h
theorem gd_all {P : est → Prop} {U : List est} (h : ∀ j, j < U.length → P (U.getD j est0)) : ∀ x ∈ U, P x := by
  intro x hx
  obtain ⟨j, hj, rfl⟩ := List.getElem_of_mem hx
  have := h j hj
  rwa [List.getD_eq_getElem?_getD, List.getElem?_eq_getElem hj] at this
theorem gd_of {P : est → Prop} {U : List est} (h : ∀ x ∈ U, P x) : ∀ j, j < U.length → P (U.getD j est0) := fun j hj => h _ (gd_mem hj)
theorem pushU_ok {P : est → Prop} {U : List est} {e : est} (h : ∀ j, j < U.length → P (U.getD j est0)) (he : P e) : ∀ j, j < (pushU U e).length → P ((pushU U e).getD j est0) := by
  refine gd_of (fun x hx => ?_)
  have hm := gd_all h
  unfold pushU at hx
  split at hx
  · rcases List.mem_append.mp hx with hx | hx
    · exact hm x (List.mem_of_mem_tail hx)
    · rw [List.mem_singleton.mp hx]; exact he
  · rcases List.mem_append.mp hx with hx | hx
    · exact hm x hx
    · rw [List.mem_singleton.mp hx]; exact he
theorem ifU_ok {P : est → Prop} {U : List est} {e : est} {c : Prop} [Decidable c] (h : ∀ j, j < U.length → P (U.getD j est0)) (he : P e) : ∀ j, j < (if c then pushU U e else U).length → P ((if c then pushU U e else U).getD j est0) := by
  split
  · exact pushU_ok h he
  · exact h
section PA2
variable {l : Launch} {G : am_G}
theorem p_nights (n : Int) : PI l G yX8_nights mt_X8_nights yX9_nights mt_X9_nights [.inl n] := by
  refine PI_a (fun T R X sn sg h e NB U K L Y pu eo hN9 => ?_)
  by_cases hn : 0 ≤ n ∧ n ≤ 60
  · exact ⟨_, itE X h sn sg e n.toNat, _, _, NB + n.toNat, by omega, by omega, itE_ok eo n.toNat, ifU_ok (pu.up (NB2 := NB + n.toNat) (by omega)).2.2.1 (eo.up (by omega)), fun r C mem q hR c => am_Sm_mono (c_nights (d := 193) q hR c.2.2.1 (by omega) n) (fun _ _ z => z.2 hn), fun mem q hR c => am_Sm_mono (m_nights (d := 20) q hR c.2.2.1 n) (fun _ _ z => z.2 hn)⟩
  · exact ⟨_, e, U, R, NB, by omega, by omega, eo, pu.2.2.1, fun r C mem q hR c => am_Sm_mono (c_nights (d := 193) q hR c.2.2.1 (by omega) n) (fun _ _ z => z.1 hn), fun mem q hR c => am_Sm_mono (m_nights (d := 20) q hR c.2.2.1 n) (fun _ _ z => z.1 hn)⟩
theorem p_comes (i : Int) : PI l G yX8_comes mt_X8_comes yX9_comes mt_X9_comes [.inl i] := by
  refine PI_a (fun T R X sn sg h e NB U K L Y pu eo hN9 => ?_)
  exact ⟨_, _, _, R, NB, by omega, by omega, turnE_ok eo, ifU_ok pu.2.2.1 eo, fun r C mem q hR c => c_comes (d := 197) q hR c.2.2.1 i, fun mem q hR c => m_comes (d := 198) q hR c.2.2.1 i⟩
theorem p_hum (i n : Int) : PI l G yX8_hum mt_X8_hum yX9_hum mt_X9_hum [.inl i, .inl n] := by
  refine PI_a (fun T R X sn sg h e NB U K L Y pu eo hN9 => ?_)
  obtain ⟨v, e2, hp⟩ := humP_ex h e i n
  refine ⟨v, e2, if 0 ≤ v then pushU U e else U, R, NB, by omega, by omega, humP_ok eo hp, ifU_ok pu.2.2.1 eo, fun r C mem q hR c => am_Sm_mono (c_hum (d := 197) q hR c.2.2.1 i n) (fun _ _ z => ?_), fun mem q hR c => am_Sm_mono (m_hum (d := 197) q hR c.2.2.1 i n) (fun _ _ z => ?_)⟩
  · obtain ⟨v3, e3, h3, z⟩ := z
    obtain ⟨rfl, rfl⟩ := humP_un hp h3
    exact z
  · obtain ⟨v3, e3, h3, z⟩ := z
    obtain ⟨rfl, rfl⟩ := humP_un hp h3
    exact z
theorem p_stake (n : Int) : PI l G yX8_stake mt_X8_stake yX9_stake mt_X9_stake [.inl n] := by
  refine PI_a (fun T R X sn sg h e NB U K L Y pu eo hN9 => ?_)
  obtain ⟨v, e2, hp⟩ := wagP_ex e n
  refine ⟨v, e2, if 0 ≤ v then pushU U e else U, R, NB, by omega, by omega, wagP_ok eo hp, ifU_ok pu.2.2.1 eo, fun r C mem q hR c => am_Sm_mono (c_stake (d := 197) q hR c.2.2.1 n) (fun _ _ z => ?_), fun mem q hR c => am_Sm_mono (m_stake (d := 198) q hR c.2.2.1 n) (fun _ _ z => ?_)⟩
  · obtain ⟨v3, e3, h3, z⟩ := z
    obtain ⟨rfl, rfl⟩ := wagP_un hp h3
    exact z
  · obtain ⟨v3, e3, h3, z⟩ := z
    obtain ⟨rfl, rfl⟩ := wagP_un hp h3
    exact z
theorem p_advance (n : Int) : PI l G yX8_advance mt_X8_advance yX9_advance mt_X9_advance [.inl n] := by
  refine PI_a (fun T R X sn sg h e NB U K L Y pu eo hN9 => ?_)
  obtain ⟨v, e2, hp⟩ := hanP_ex e n
  refine ⟨v, e2, if 0 ≤ v then pushU U e else U, R, NB, by omega, by omega, hanP_ok eo hp, ifU_ok pu.2.2.1 eo, fun r C mem q hR c => am_Sm_mono (c_advance (d := 197) q hR c.2.2.1 n) (fun _ _ z => ?_), fun mem q hR c => am_Sm_mono (m_advance (d := 198) q hR c.2.2.1 n) (fun _ _ z => ?_)⟩
  · obtain ⟨v3, e3, h3, z⟩ := z
    obtain ⟨rfl, rfl⟩ := hanP_un hp h3
    exact z
  · obtain ⟨v3, e3, h3, z⟩ := z
    obtain ⟨rfl, rfl⟩ := hanP_un hp h3
    exact z
theorem p_gain (v : Int) : PI l G yX8_gain mt_X8_gain yX9_gain mt_X9_gain [.inl v] := by
  refine PI_a (fun T R X sn sg h e NB U K L Y pu eo hN9 => ?_)
  by_cases hn : -5 ≤ v ∧ v ≤ 5
  · exact ⟨_, (eH e, eS e, eP e, eN e, eB e, eM e, eK e, v), pushU U e, R, NB, by omega, by omega, ⟨eo.1, eo.2.1, eo.2.2.1, eo.2.2.2.1, eo.2.2.2.2.1, eo.2.2.2.2.2.1, eo.2.2.2.2.2.2.1, hn.1, hn.2⟩, pushU_ok pu.2.2.1 eo, fun r C mem q hR c => am_Sm_mono (c_gain (d := 197) q hR c.2.2.1 v) (fun _ _ z => z.2 hn), fun mem q hR c => am_Sm_mono (m_gain (d := 198) q hR c.2.2.1 v) (fun _ _ z => z.2 hn)⟩
  · exact ⟨_, e, U, R, NB, by omega, by omega, eo, pu.2.2.1, fun r C mem q hR c => am_Sm_mono (c_gain (d := 197) q hR c.2.2.1 v) (fun _ _ z => z.1 hn), fun mem q hR c => am_Sm_mono (m_gain (d := 198) q hR c.2.2.1 v) (fun _ _ z => z.1 hn)⟩
theorem p_undo : PI l G yX8_undo mt_X8_undo yX9_undo mt_X9_undo [] := by
  refine PI_a (fun T R X sn sg h e NB U K L Y pu eo hN9 => ?_)
  by_cases hn : U = []
  · exact ⟨_, e, U, R, NB, by omega, by omega, eo, pu.2.2.1, fun r C mem q hR c => am_Sm_mono (c_undoC (d := 198) q hR c.2.2.1) (fun _ _ z => z.1 hn), fun mem q hR c => am_Sm_mono (m_undoC (d := 200) q hR c.2.2.1) (fun _ _ z => z.1 hn)⟩
  · have hp := List.length_pos_iff.mpr hn
    exact ⟨_, U.getD (U.length - 1) est0, U.dropLast, R, NB, by omega, by omega, pu.2.2.1 _ (by omega), gd_of (fun x hx => gd_all pu.2.2.1 x (List.dropLast_subset _ hx)), fun r C mem q hR c => am_Sm_mono (c_undoC (d := 198) q hR c.2.2.1) (fun _ _ z => z.2 hn), fun mem q hR c => am_Sm_mono (m_undoC (d := 200) q hR c.2.2.1) (fun _ _ z => z.2 hn)⟩
theorem p_sheet (kd many f s : Int) : PI l G yX8_sheet mt_X8_sheet yX9_sheet mt_X9_sheet [.inl kd, .inl many, .inl f, .inl s] := by
  refine PI_a (fun T R X sn sg h e NB U K L Y pu eo hN9 => ?_)
  by_cases h1 : shB kd many
  · exact ⟨_, e, U, R, NB, by omega, by omega, eo, pu.2.2.1, fun r C mem q hR c => am_Sm_mono (c_sheet (d := 199) q hR c.2.2.1 kd many f s) (fun _ _ z => z.1 h1), fun mem q hR c => am_Sm_mono (m_sheet (d := 199) q hR c.2.2.1 kd many f s) (fun _ _ z => z.1 h1)⟩
  · by_cases h2 : shC kd many
    · exact ⟨_, e, U, R, NB, by omega, by omega, eo, pu.2.2.1, fun r C mem q hR c => am_Sm_mono (c_sheet (d := 199) q hR c.2.2.1 kd many f s) (fun _ _ z => z.2.1 h1 h2), fun mem q hR c => am_Sm_mono (m_sheet (d := 199) q hR c.2.2.1 kd many f s) (fun _ _ z => z.2.1 h1 h2)⟩
    · exact ⟨_, shE h.1 kd many f s e, U, R, NB, by omega, by omega, shE_ok eo, pu.2.2.1, fun r C mem q hR c => am_Sm_mono (c_sheet (d := 199) q hR c.2.2.1 kd many f s) (fun _ _ z => z.2.2 h1 h2), fun mem q hR c => am_Sm_mono (m_sheet (d := 199) q hR c.2.2.1 kd many f s) (fun _ _ z => z.2.2 h1 h2)⟩
theorem p_again (i : Int) : PI l G yX8_again mt_X8_again yX9_again mt_X9_again [.inl i] := by
  refine PI_a (fun T R X sn sg h e NB U K L Y pu eo hN9 => ?_)
  by_cases hn : 0 ≤ i ∧ i < 2
  · rcases hk : K i.toNat with _ | e2
    · exact ⟨_, e, U, R, NB, by omega, by omega, eo, pu.2.2.1, fun r C mem q hR c => am_Sm_mono (c_again (d := 199) q hR c.2.2.2.1 c.2.2.1 i) (fun _ _ z => z.1 (Or.inr hk)), fun mem q hR c => am_Sm_mono (m_again (d := 199) q hR c.2.2.2.1 c.2.2.1 i) (fun _ _ z => z.1 (Or.inr hk))⟩
    · exact ⟨_, e2, [], R, NB, by omega, by omega, pu.2.2.2 _ (by omega) e2 hk, fun j hj => absurd hj (Nat.not_lt_zero j), fun r C mem q hR c => am_Sm_mono (c_again (d := 199) q hR c.2.2.2.1 c.2.2.1 i) (fun _ _ z => z.2 e2 hn hk), fun mem q hR c => am_Sm_mono (m_again (d := 199) q hR c.2.2.2.1 c.2.2.1 i) (fun _ _ z => z.2 e2 hn hk)⟩
  · exact ⟨_, e, U, R, NB, by omega, by omega, eo, pu.2.2.1, fun r C mem q hR c => am_Sm_mono (c_again (d := 199) q hR c.2.2.2.1 c.2.2.1 i) (fun _ _ z => z.1 (Or.inl hn)), fun mem q hR c => am_Sm_mono (m_again (d := 199) q hR c.2.2.2.1 c.2.2.1 i) (fun _ _ z => z.1 (Or.inl hn))⟩
end PA2
