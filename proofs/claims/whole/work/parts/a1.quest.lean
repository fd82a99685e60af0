/-! pairs: questions -/
theorem awR_0 (H : Nat → Nat) (f : Nat) (s : Nat → Nat) : ((awR H 0 f s).1 0 : Int) = (s 0 : Int) := by
  cases f with
  | zero => rfl
  | succ f => unfold awR; rw [if_pos (show por s H 0 = -1 from rfl)]
section PA1
variable {l : Launch} {G : am_G}
theorem p_tonight : PI l G yX8_tonight mt_X8_tonight yX9_tonight mt_X9_tonight [] := by
  refine PI_q (fun T R X sn sg h e NB U K L Y pu hN9 => ?_)
  exact ⟨_, _, fun r C mem q hR c => c_tonight (d := 195) q, fun mem q hR c => m_tonight (d := 22) q⟩
theorem p_later (n : Int) : PI l G yX8_later mt_X8_later yX9_later mt_X9_later [.inl n] := by
  refine PI_q (fun T R X sn sg h e NB U K L Y pu hN9 => ?_)
  by_cases hn : (0 ≤ n ∧ n ≤ 99)
  · exact ⟨_, _, fun r C mem q hR c => am_Sm_mono (c_later (d := 193) q hR n) (fun _ _ z => z.2 hn), fun mem q hR c => am_Sm_mono (m_later (d := 20) q hR n) (fun _ _ z => z.2 hn)⟩
  · exact ⟨_, _, fun r C mem q hR c => am_Sm_mono (c_later (d := 193) q hR n) (fun _ _ z => z.1 hn), fun mem q hR c => am_Sm_mono (m_later (d := 20) q hR n) (fun _ _ z => z.1 hn)⟩
theorem p_enough (v : Int) : PI l G yX8_enough mt_X8_enough yX9_enough mt_X9_enough [.inl v] := by
  refine PI_q (fun T R X sn sg h e NB U K L Y pu hN9 => ?_)
  by_cases hn : (0 ≤ v ∧ v ≤ 9999)
  · exact ⟨_, _, fun r C mem q hR c => am_Sm_mono (c_enough (d := 194) q hR v) (fun _ _ z => z.2 hn), fun mem q hR c => am_Sm_mono (m_enough (d := 21) q hR v) (fun _ _ z => z.2 hn)⟩
  · exact ⟨_, _, fun r C mem q hR c => am_Sm_mono (c_enough (d := 194) q hR v) (fun _ _ z => z.1 hn), fun mem q hR c => am_Sm_mono (m_enough (d := 21) q hR v) (fun _ _ z => z.1 hn)⟩
theorem p_drains : PI l G yX8_drains mt_X8_drains yX9_drains mt_X9_drains [] := by
  refine PI_q (fun T R X sn sg h e NB U K L Y pu hN9 => ?_)
  exact ⟨_, _, fun r C mem q hR c => c_drains (d := 195) q hR, fun mem q hR c => m_drains (d := 22) q hR⟩
theorem p_hears (i v : Int) : PI l G yX8_hears mt_X8_hears yX9_hears mt_X9_hears [.inl i, .inl v] := by
  refine PI_q (fun T R X sn sg h e NB U K L Y pu hN9 => ?_)
  by_cases hn : ((0 ≤ i ∧ i < h.1) ∧ 0 ≤ v ∧ v ≤ 99)
  · exact ⟨_, _, fun r C mem q hR c => am_Sm_mono (c_hears (d := 194) q hR i v) (fun _ _ z => z.2 hn), fun mem q hR c => am_Sm_mono (m_hears (d := 21) q hR i v) (fun _ _ z => z.2 hn)⟩
  · exact ⟨_, _, fun r C mem q hR c => am_Sm_mono (c_hears (d := 194) q hR i v) (fun _ _ z => z.1 hn), fun mem q hR c => am_Sm_mono (m_hears (d := 21) q hR i v) (fun _ _ z => z.1 hn)⟩
theorem p_quiet (n : Int) : PI l G yX8_quiet mt_X8_quiet yX9_quiet mt_X9_quiet [.inl n] := by
  refine PI_q (fun T R X sn sg h e NB U K L Y pu hN9 => ?_)
  by_cases hn : (0 ≤ n ∧ n ≤ 60)
  · exact ⟨_, _, fun r C mem q hR c => am_Sm_mono (c_quiet (d := 194) q hR n) (fun _ _ z => z.2 hn), fun mem q hR c => am_Sm_mono (m_quiet (d := 21) q hR n) (fun _ _ z => z.2 hn)⟩
  · exact ⟨_, _, fun r C mem q hR c => am_Sm_mono (c_quiet (d := 194) q hR n) (fun _ _ z => z.1 hn), fun mem q hR c => am_Sm_mono (m_quiet (d := 21) q hR n) (fun _ _ z => z.1 hn)⟩
theorem p_admits (k : Int) : PI l G yX8_admits mt_X8_admits yX9_admits mt_X9_admits [.inl k] := by
  refine PI_q (fun T R X sn sg h e NB U K L Y pu hN9 => ?_)
  by_cases hn : (0 ≤ k ∧ k ≤ 9)
  · exact ⟨_, _, fun r C mem q hR c => am_Sm_mono (c_admits (d := 195) q hR c.2.2.2.2.2.2.1 k) (fun _ _ z => z.2 hn), fun mem q hR c => am_Sm_mono (m_admits (d := 22) q hR k) (fun _ _ z => z.2 hn)⟩
  · exact ⟨_, _, fun r C mem q hR c => am_Sm_mono (c_admits (d := 195) q hR c.2.2.2.2.2.2.1 k) (fun _ _ z => z.1 hn), fun mem q hR c => am_Sm_mono (m_admits (d := 22) q hR k) (fun _ _ z => z.1 hn)⟩
theorem p_plans (k : Int) : PI l G yX8_plans mt_X8_plans yX9_plans mt_X9_plans [.inl k] := by
  refine PI_q (fun T R X sn sg h e NB U K L Y pu hN9 => ?_)
  by_cases hn : (0 ≤ k ∧ k ≤ 18)
  · exact ⟨_, _, fun r C mem q hR c => am_Sm_mono (c_plans (d := 195) q hR c.2.2.2.2.2.2.1 k) (fun _ _ z => z.2 hn), fun mem q hR c => am_Sm_mono (m_plans (d := 21) q hR k) (fun _ _ z => z.2 hn)⟩
  · exact ⟨_, _, fun r C mem q hR c => am_Sm_mono (c_plans (d := 195) q hR c.2.2.2.2.2.2.1 k) (fun _ _ z => z.1 hn), fun mem q hR c => am_Sm_mono (m_plans (d := 21) q hR k) (fun _ _ z => z.1 hn)⟩
theorem p_fills : PI l G yX8_fills mt_X8_fills yX9_fills mt_X9_fills [] := by
  refine PI_q (fun T R X sn sg h e NB U K L Y pu hN9 => ?_)
  exact ⟨_, _, fun r C mem q hR c => c_fills (d := 195) q hR c.2.2.2.2.2.2.1, fun mem q hR c => m_fills (d := 22) q hR⟩
theorem p_order : PI l G yX8_order mt_X8_order yX9_order mt_X9_order [] := by
  refine PI_q (fun T R X sn sg h e NB U K L Y pu hN9 => ?_)
  exact ⟨_, _, fun r C mem q hR c => c_order (d := 195) q, fun mem q hR c => m_order (d := 22) q⟩
theorem p_grows (s n : Int) : PI l G yX8_grows mt_X8_grows yX9_grows mt_X9_grows [.inl s, .inl n] := by
  refine PI_q (fun T R X sn sg h e NB U K L Y pu hN9 => ?_)
  by_cases hn : (0 ≤ s ∧ s ≤ 9999 ∧ 0 ≤ n ∧ n ≤ 30)
  · exact ⟨_, _, fun r C mem q hR c => am_Sm_mono (c_grows (d := 198) q hR s n) (fun _ _ z => z.2 hn), fun mem q hR c => am_Sm_mono (m_grows (d := 198) q hR s n) (fun _ _ z => z.2 hn)⟩
  · exact ⟨_, _, fun r C mem q hR c => am_Sm_mono (c_grows (d := 198) q hR s n) (fun _ _ z => z.1 hn), fun mem q hR c => am_Sm_mono (m_grows (d := 198) q hR s n) (fun _ _ z => z.1 hn)⟩
theorem p_adds (v : Int) : PI l G yX8_adds mt_X8_adds yX9_adds mt_X9_adds [.inl v] := by
  refine PI_q (fun T R X sn sg h e NB U K L Y pu hN9 => ?_)
  by_cases hn : (0 ≤ v ∧ v ≤ 999)
  · exact ⟨_, _, fun r C mem q hR c => am_Sm_mono (c_adds (d := 198) q hR v) (fun _ _ z => z.2 hn), fun mem q hR c => am_Sm_mono (m_adds (d := 197) q hR v) (fun _ _ z => z.2 hn)⟩
  · exact ⟨_, _, fun r C mem q hR c => am_Sm_mono (c_adds (d := 198) q hR v) (fun _ _ z => z.1 hn), fun mem q hR c => am_Sm_mono (m_adds (d := 197) q hR v) (fun _ _ z => z.1 hn)⟩
theorem p_nearest (v : Int) : PI l G yX8_nearest mt_X8_nearest yX9_nearest mt_X9_nearest [.inl v] := by
  refine PI_q (fun T R X sn sg h e NB U K L Y pu hN9 => ?_)
  by_cases hn : (0 ≤ v ∧ v ≤ 999)
  · exact ⟨_, _, fun r C mem q hR c => am_Sm_mono (c_nearest (d := 198) q hR v) (fun _ _ z => z.2 hn), fun mem q hR c => am_Sm_mono (m_nearest (d := 197) q hR v) (fun _ _ z => z.2 hn)⟩
  · exact ⟨_, _, fun r C mem q hR c => am_Sm_mono (c_nearest (d := 198) q hR v) (fun _ _ z => z.1 hn), fun mem q hR c => am_Sm_mono (m_nearest (d := 197) q hR v) (fun _ _ z => z.1 hn)⟩
theorem p_envy : PI l G yX8_envy mt_X8_envy yX9_envy mt_X9_envy [] := by
  refine PI_q (fun T R X sn sg h e NB U K L Y pu hN9 => ?_)
  exact ⟨_, _, fun r C mem q hR c => c_envy (d := 198) q hR, fun mem q hR c => m_envy (d := 198) q hR⟩
theorem p_bold (m g n p : Int) : PI l G yX8_bold mt_X8_bold yX9_bold mt_X9_bold [.inl m, .inl g, .inl n, .inl p] := by
  refine PI_q (fun T R X sn sg h e NB U K L Y pu hN9 => ?_)
  by_cases hn : (0 ≤ m ∧ m ≤ 20 ∧ 1 ≤ g ∧ g ≤ 20 ∧ 0 ≤ n ∧ n ≤ 8 ∧ 0 ≤ p ∧ p ≤ 10)
  · exact ⟨_, _, fun r C mem q hR c => am_Sm_mono (c_bold (d := 197) hR m g n p) (fun _ _ z => z.2 hn), fun mem q hR c => am_Sm_mono (m_bold (d := 129) hR m g n p) (fun _ _ z => z.2 hn)⟩
  · exact ⟨_, _, fun r C mem q hR c => am_Sm_mono (c_bold (d := 197) hR m g n p) (fun _ _ z => z.1 hn), fun mem q hR c => am_Sm_mono (m_bold (d := 129) hR m g n p) (fun _ _ z => z.1 hn)⟩
theorem p_notes (n k w : Int) : PI l G yX8_notes mt_X8_notes yX9_notes mt_X9_notes [.inl n, .inl k, .inl w] := by
  refine PI_q (fun T R X sn sg h e NB U K L Y pu hN9 => ?_)
  by_cases hn : (0 ≤ n ∧ n ≤ 60 ∧ 1 ≤ k ∧ k ≤ 9 ∧ 0 ≤ w ∧ w ≤ 9)
  · exact ⟨_, _, fun r C mem q hR c => am_Sm_mono (c_notes (d := 198) hR n k w) (fun _ _ z => z.2 hn), fun mem q hR c => am_Sm_mono (m_notes (d := 199) hR n k w) (fun _ _ z => z.2 hn)⟩
  · exact ⟨_, _, fun r C mem q hR c => am_Sm_mono (c_notes (d := 198) hR n k w) (fun _ _ z => z.1 hn), fun mem q hR c => am_Sm_mono (m_notes (d := 199) hR n k w) (fun _ _ z => z.1 hn)⟩
theorem p_laws : PI l G yX8_laws mt_X8_laws yX9_laws mt_X9_laws [] := by
  refine PI_q (fun T R X sn sg h e NB U K L Y pu hN9 => ?_)
  exact ⟨_, _, fun r C mem q hR c => c_laws (d := 198) c.2.2.2.2.1 pu.1, fun mem q hR c => m_laws (d := 198) c.2.2.2.2.1 pu.1⟩
theorem p_sure : PI l G yX8_sure mt_X8_sure yX9_sure mt_X9_sure [] := by
  refine PI_q (fun T R X sn sg h e NB U K L Y pu hN9 => ?_)
  exact ⟨_, _, fun r C mem q hR c => c_sure (d := 197) c.2.2.2.2.1 pu.1, fun mem q hR c => m_sure (d := 197) c.2.2.2.2.1 pu.1⟩
theorem p_tries : PI l G yX8_tries mt_X8_tries yX9_tries mt_X9_tries [] := by
  refine PI_q (fun T R X sn sg h e NB U K L Y pu hN9 => ?_)
  exact ⟨_, _, fun r C mem q hR c => c_tries (d := 197) hR c.2.2.2.2.1 pu.1, fun mem q hR c => m_tries (d := 197) hR c.2.2.2.2.1 pu.1⟩
theorem p_sings (n v p : Int) : PI l G yX8_sings mt_X8_sings yX9_sings mt_X9_sings [.inl n, .inl v, .inl p] := by
  refine PI_q (fun T R X sn sg h e NB U K L Y pu hN9 => ?_)
  by_cases hn : (1 ≤ n ∧ n ≤ 10 ∧ 0 ≤ v ∧ v ≤ 99 ∧ 0 ≤ p ∧ p ≤ 10)
  · exact ⟨_, _, fun r C mem q hR c => am_Sm_mono (c_sings (d := 198) q hR n v p) (fun _ _ z => z.2 hn), fun mem q hR c => am_Sm_mono (m_sings (d := 129) q hR n v p) (fun _ _ z => z.2 hn)⟩
  · exact ⟨_, _, fun r C mem q hR c => am_Sm_mono (c_sings (d := 198) q hR n v p) (fun _ _ z => z.1 hn), fun mem q hR c => am_Sm_mono (m_sings (d := 129) q hR n v p) (fun _ _ z => z.1 hn)⟩
theorem p_counts (n w p : Int) : PI l G yX8_counts mt_X8_counts yX9_counts mt_X9_counts [.inl n, .inl w, .inl p] := by
  refine PI_q (fun T R X sn sg h e NB U K L Y pu hN9 => ?_)
  by_cases hn : (1 ≤ n ∧ n ≤ 10 ∧ 0 ≤ w ∧ w ≤ 100 ∧ 0 ≤ p ∧ p ≤ 10)
  · exact ⟨_, _, fun r C mem q hR c => am_Sm_mono (c_counts (d := 198) q hR n w p) (fun _ _ z => z.2 hn), fun mem q hR c => am_Sm_mono (m_counts (d := 198) q hR n w p) (fun _ _ z => z.2 hn)⟩
  · exact ⟨_, _, fun r C mem q hR c => am_Sm_mono (c_counts (d := 198) q hR n w p) (fun _ _ z => z.1 hn), fun mem q hR c => am_Sm_mono (m_counts (d := 198) q hR n w p) (fun _ _ z => z.1 hn)⟩
theorem p_fits : PI l G yX8_fits mt_X8_fits yX9_fits_ mt_X9_fits_ [] := by
  refine PI_q (fun T R X sn sg h e NB U K L Y pu hN9 => ?_)
  exact ⟨_, _, fun r C mem q hR c => c_fits (d := 198) q c.2.2.2.2.2.1 pu.2.1, fun mem q hR c => m_fits (d := 198) q c.2.2.2.2.2.1 pu.2.1⟩
theorem p_ask : PI l G yX8_ask mt_X8_ask yX9_ask mt_X9_ask [] := by
  refine PI_q (fun T R X sn sg h e NB U K L Y pu hN9 => ?_)
  exact ⟨_, _, fun r C mem q hR c => c_ask (d := 198) q hR c.2.2.2.2.2.1 pu.2.1, fun mem q hR c => m_askC (d := 198) q hR c.2.2.2.2.2.1 pu.2.1⟩
theorem p_rests (v a b : Int) : PI l G yX8_rests mt_X8_rests yX9_rests mt_X9_rests [.inl v, .inl a, .inl b] := by
  refine PI_q (fun T R X sn sg h e NB U K L Y pu hN9 => ?_)
  by_cases hn : (0 ≤ v ∧ v ≤ 20 ∧ 0 ≤ a ∧ a ≤ 5 ∧ 0 ≤ b ∧ b ≤ 5)
  · exact ⟨_, _, fun r C mem q hR c => am_Sm_mono (c_rests (d := 198) hR v a b) (fun _ _ z => z.2 hn), fun mem q hR c => am_Sm_mono (m_rests (d := 198) hR v a b) (fun _ _ z => z.2 hn)⟩
  · exact ⟨_, _, fun r C mem q hR c => am_Sm_mono (c_rests (d := 198) hR v a b) (fun _ _ z => z.1 hn), fun mem q hR c => am_Sm_mono (m_rests (d := 198) hR v a b) (fun _ _ z => z.1 hn)⟩
theorem p_years (v n : Int) : PI l G yX8_years mt_X8_years yX9_years mt_X9_years [.inl v, .inl n] := by
  refine PI_q (fun T R X sn sg h e NB U K L Y pu hN9 => ?_)
  by_cases hn : (1 ≤ n ∧ n ≤ 60)
  · exact ⟨_, _, fun r C mem q hR c => am_Sm_mono (c_years (d := 193) q hR (by omega) v n) (fun _ _ z => z.2 hn), fun mem q hR c => am_Sm_mono (m_years (d := 20) q hR (by omega) v n) (fun _ _ z => z.2 hn)⟩
  · exact ⟨_, _, fun r C mem q hR c => am_Sm_mono (c_years (d := 193) q hR (by omega) v n) (fun _ _ z => z.1 hn), fun mem q hR c => am_Sm_mono (m_years (d := 20) q hR (by omega) v n) (fun _ _ z => z.1 hn)⟩
theorem p_raises (v : Int) : PI l G yX8_raises mt_X8_raises yX9_raises mt_X9_raises [.inl v] := by
  refine PI_q (fun T R X sn sg h e NB U K L Y pu hN9 => ?_)
  by_cases hn : 0 ≤ v ∧ v ≤ 9999
  · by_cases h2 : v - (eM e : Int) ≤ 0
    · exact ⟨_, _, fun r C mem q hR c => am_Sm_mono (c_raises (d := 198) q hR v) (fun _ _ z => (z.2 hn).1 h2), fun mem q hR c => am_Sm_mono (m_raises (d := 198) q hR v) (fun _ _ z => (z.2 hn).1 h2)⟩
    · exact ⟨_, _, fun r C mem q hR c => am_Sm_mono (c_raises (d := 198) q hR v) (fun _ _ z => (z.2 hn).2 (by omega)), fun mem q hR c => am_Sm_mono (m_raises (d := 198) q hR v) (fun _ _ z => (z.2 hn).2 (by omega))⟩
  · exact ⟨_, _, fun r C mem q hR c => am_Sm_mono (c_raises (d := 198) q hR v) (fun _ _ z => z.1 hn), fun mem q hR c => am_Sm_mono (m_raises (d := 198) q hR v) (fun _ _ z => z.1 hn)⟩
theorem p_awards (v : Int) : PI l G yX8_awards mt_X8_awards yX9_awards mt_X9_awards [.inl v] := by
  refine PI_q (fun T R X sn sg h e NB U K L Y pu hN9 => ?_)
  by_cases hn : 0 ≤ v ∧ v ≤ 999
  · have ea : (if h.1 = 0 then 0 else ((awR (eH e) h.1 v.toNat (fun _ => 0)).1 0 : Int)) = ((awR (eH e) h.1 v.toNat (fun _ => 0)).1 0 : Int) := by
      by_cases h0 : h.1 = 0
      · rw [if_pos h0, h0]; exact (awR_0 (eH e) v.toNat (fun _ => 0)).symm
      · rw [if_neg h0]
    exact ⟨_, _, fun r C mem q hR c => am_Sm_mono (c_awards (d := 198) q hR v) (fun _ _ z => z.2 hn), fun mem q hR c => am_Sm_mono (m_awards (d := 198) q hR v) (fun _ _ z => by have w := z.2 hn; rw [ea] at w; exact w)⟩
  · exact ⟨_, _, fun r C mem q hR c => am_Sm_mono (c_awards (d := 198) q hR v) (fun _ _ z => z.1 hn), fun mem q hR c => am_Sm_mono (m_awards (d := 198) q hR v) (fun _ _ z => z.1 hn)⟩
theorem p_worth (n : Int) : PI l G yX8_worth mt_X8_worth yX9_worth mt_X9_worth [.inl n] := by
  refine PI_q (fun T R X sn sg h e NB U K L Y pu hN9 => ?_)
  exact ⟨_, R, fun r C mem q hR c => am_Sm_mono (c_worth (d := 199) q n) (fun _ m z => ⟨z.1, by obtain ⟨-, rfl⟩ := z; exact frS.rf, by obtain ⟨-, rfl⟩ := z; exact hR⟩), fun mem q hR c => am_Sm_mono (m_worth (d := 199) q n) (fun _ _ z => ⟨z.1, z.2.r9, hR.kept z.2⟩)⟩
theorem p_count (ix : Int) : PI l G yX8_count mt_X8_count yX9_count mt_X9_count [.inl ix] := by
  refine PI_q (fun T R X sn sg h e NB U K L Y pu hN9 => ?_)
  exact ⟨_, R, fun r C mem q hR c => am_Sm_mono (c_count (d := 199) q hR c.2.2.1 c.2.2.2.2.1 c.2.2.2.2.2.1 c.1 ix) (fun _ m z => ⟨z.1, by obtain ⟨-, rfl⟩ := z; exact frS.rf, by obtain ⟨-, rfl⟩ := z; exact hR⟩), fun mem q hR c => am_Sm_mono (m_count (d := 199) q hR c.2.2.1 c.2.2.2.2.1 c.2.2.2.2.2.1 c.1 ix) (fun _ _ z => ⟨z.1, by obtain ⟨-, rfl⟩ := z; exact frS.rf.up rfl, by obtain ⟨-, rfl⟩ := z; exact hR⟩)⟩
end PA1
