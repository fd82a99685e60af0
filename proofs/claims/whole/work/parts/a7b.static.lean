/-! static calls while cells are being made, Math's min and max, an int field read -/
section GS
variable {l : Launch} {G : am_G} {M : am_Mt} {d mc ms : Nat} {E : State → Code → Prop} {Z : List Frame → Array Value → State → State → Prop} {pc q t : Nat} {ls ls' : am_L} {st : List am_V} {Wd Wd2 : Heap → Prop} {ce sl : Nat} {B : bm_Bt}
/-- invokestatic of a nest mate's method that answers an int and leaves the world -/
theorem gn_callSN {y : MethodName} {M' : am_Mt} {i n d' : Nat} {as rest : List am_V} {x : Int} (hx : am_ok x) (hd : decode M.2.1 pc = .ok (.invokestatic i, 3)) (hm : bm_IL y M' n) (hN : (M.1, i, y) ∈ bm_nests) (hs : Cond.static y ∈ am_tbl) (hdd : d' + 1 ≤ d) (hn : as.length = n) (hst : st = as.reverse ++ rest) (hw : am_wsum rest ≤ 8) (hq : pc + 3 = q) (h1 : ce ≤ mc) (h2 : sl ≤ ms) (hc : g_Sm l G y M' d' 0 0 as Wd (some (.inl x)) Wd) (k : gn l G M d mc ms E Z q ls (.inl x :: rest) Wd ce sl) : gn l G M d mc ms E Z pc ls st Wd ce sl := by
  subst hq; subst hst
  intro p e R s m args below meth c H locs lsM C D hP hS hl ho
  have hok : ∀ v ∈ as, am_okv v := fun v hv => ho v (List.mem_append_left _ (List.mem_reverse.mpr hv))
  have hor : ∀ v ∈ rest, am_okv v := fun v hv => ho v (List.mem_append_right _ hv)
  obtain ⟨g2, g3, g4, g5, g6⟩ := hm
  have ht := C.2.2.2.2.1
  have hR1 := C.2.2.2.2.2.2.2.2.2.1
  have hR2 := C.2.2.2.2.2.2.2.2.2.2.1
  have hNw := D.2.2.2.1.2 _ hN
  refine gn_back (rest := rest) (Qa := g_Qc G (some (.inl x)) Wd (as.map (am_enc G)).toArray) (mc1 := 0) (ms1 := 0) ?_ C D hS hl hor (fun v st t hq => ⟨some (.inl x), Wd, by have := hq.1.1; cases this; rfl, fun v hv => (by cases hv; exact hx), hq.1.2.1, hq.2, k⟩)
  refine va_runSN (host := "HeldInTrust") (As := as.map (am_enc G)) (rest := rest.map (am_enc G)) ⟨C.1, C.2.1, C.2.2.1, C.2.2.2.1, ht⟩ (hc hok) ⟨⟨⟨rfl, rfl, ?_, ?_, pay_in ht (am_wd_good g2), List.mem_cons_self⟩, ht _ g2, ht _ g3, g4, fun sig h => ?_, va_Nw.use rfl hNw⟩, ht _ hs, trivial⟩ ⟨g_Pc_blind, fun U hU hW => g_Pc_of (as := as) hP C.2.2.2.2.2.2.2.1 C.2.2.2.2.2.2.2.2.1 C.2.2.2.2.2.2.2.2.2.2.2 D.2.2.2.1 hS hU hW⟩ rfl (by simpa using hn) hl.1 (by simp) (lv_room (by rw [am_wsum_eq]; exact hw)) hd ⟨Nat.le_trans h1 D.1, Nat.le_trans h2 D.2.1⟩
  · show d' + 2 + 1 ≤ _; omega
  · show 8 + (M'.2.2.1 + 11) + (60 * d' + 100) ≤ _; omega
  · rw [h] at g5; exact (Option.some.inj g5).symm
theorem gn_mmin {i : Nat} {x y z : Int} (hd : decode M.2.1 pc = .ok (.invokestatic i, 3)) (hm : Cond.methodLink M.1 i ⟨"java/lang/Math", "min", "(II)I"⟩ ∈ am_tbl) (hz : min x y = z) (hs : am_wsum st ≤ 8) (h1 : ce ≤ mc) (h2 : sl ≤ ms) (hq : pc + 3 = q) (k : gn l G M d mc ms E Z q ls (.inl z :: st) Wd ce sl) : gn l G M d mc ms E Z pc ls (.inl y :: .inl x :: st) Wd ce sl := by
  subst hq; subst hz
  refine gn_st k (fun _ ho => am_k2 ho (am_min_ok (am_kh (am_kt ho)) (am_kh ho))) (fun C D hl ho k => ?_)
  have ht := C.2.2.2.2.1
  refine va_mmin C.1 C.2.1 (C.2.2.1.trans hl.1.symm) C.2.2.2.1 (ht _ hm) (ht _ am_mminw.1) (ht _ am_mminw.2.1) (ht _ am_mminw.2.2) (Nat.le_trans (by omega) C.2.2.2.2.2.2.2.2.2.1) (am_hl C.2.2.2.2.2.2.2.2.2.2.1 hs (by decide)) (Nat.le_trans h1 D.1) (Nat.le_trans h2 D.2.1) hd ?_
  have e : (if Int32.ofInt y < Int32.ofInt x then Int32.ofInt y else Int32.ofInt x) = Int32.ofInt (min x y) := by
    have h := am_lt (am_kh ho) (am_kh (am_kt ho))
    by_cases h1 : y < x
    · rw [if_pos (h.mpr h1)]; congr 1; omega
    · rw [if_neg (fun z => h1 (h.mp z))]; congr 1; omega
  rw [e]; exact k
theorem gn_mmax {i : Nat} {x y z : Int} (hd : decode M.2.1 pc = .ok (.invokestatic i, 3)) (hm : Cond.methodLink M.1 i ⟨"java/lang/Math", "max", "(II)I"⟩ ∈ am_tbl) (hz : max x y = z) (hs : am_wsum st ≤ 8) (h1 : ce ≤ mc) (h2 : sl ≤ ms) (hq : pc + 3 = q) (k : gn l G M d mc ms E Z q ls (.inl z :: st) Wd ce sl) : gn l G M d mc ms E Z pc ls (.inl y :: .inl x :: st) Wd ce sl := by
  subst hq; subst hz
  refine gn_st k (fun _ ho => am_k2 ho (am_max_ok (am_kh (am_kt ho)) (am_kh ho))) (fun C D hl ho k => ?_)
  have ht := C.2.2.2.2.1
  refine va_mmax C.1 C.2.1 (C.2.2.1.trans hl.1.symm) C.2.2.2.1 (ht _ hm) (ht _ am_mmaxw.1) (ht _ am_mmaxw.2.1) (ht _ am_mmaxw.2.2) (Nat.le_trans (by omega) C.2.2.2.2.2.2.2.2.2.1) (am_hl C.2.2.2.2.2.2.2.2.2.2.1 hs (by decide)) (Nat.le_trans h1 D.1) (Nat.le_trans h2 D.2.1) hd ?_
  have e : (if Int32.ofInt x < Int32.ofInt y then Int32.ofInt y else Int32.ofInt x) = Int32.ofInt (max x y) := by
    have h := am_lt (am_kh (am_kt ho)) (am_kh ho)
    by_cases h1 : x < y
    · rw [if_pos (h.mpr h1)]; congr 1; omega
    · rw [if_neg (fun z => h1 (h.mp z))]; congr 1; omega
  rw [e]; exact k
/-- an int is read -/
theorem gn_geti {i c k a N : Nat} {f : List Int} {x : Int} (hx : am_ok x) (hd : decode M.2.1 pc = .ok (.getfield i, 3)) (hf : am_FL M.1 i c k) (hB : B[a]? = some (c, N, f)) (hN : N = bm_cnt c) (ha9 : a < 1000) (hft : am_ft c k = 0) (hv : f.getD k 0 = x) (hq : pc + 3 = q) (kk : gn l G M d mc ms E Z q ls (.inl x :: st) (bm_P G B) ce sl) : gn l G M d mc ms E Z pc ls (.inr (.inr (a + 1)) :: st) (bm_P G B) ce sl := by
  subst hq; subst hv
  intro p e R s m args below meth c0 H locs lsM C D hP hS hl ho
  obtain ⟨Cn, T, N', ty, hcf, hkN, hlk⟩ := hf
  have hn : N' = N := (bm_cnt_eq hcf.1).trans hN.symm
  subst hn
  have hce : bm_cell G (c, N', f) = .inr (c, (List.range N').map (fun k => am_enc G (am_tag (am_ft c k) (f.getD k 0)))) := by unfold bm_cell; rw [if_pos hcf.2.1]
  have hw : (bm_ws G B)[a]? = some (G.1 + a, .inr (c, (List.range N').map (fun k => am_enc G (am_tag (am_ft c k) (f.getD k 0))))) := by rw [bm_get hB, hce]
  have kk2 := kk p e R s m args below meth c0 H locs lsM C D hP hS hl (am_k1 ho hx)
  rw [List.map_cons, bm_ad ha9]
  refine va_get C.1 C.2.1 (C.2.2.2.2.1) hcf.2.2.1 C.2.2.2.1 C.2.2.2.2.2.2.2.1 hP.1 a hw hcf.1 k hkN (C.2.2.2.2.1 _ hlk) (fun _ h => h) (v := am_enc G (.inl (f.getD k 0))) ?_ hd kk2
  rw [List.getElem?_map, List.getElem?_range hkN]
  show some (am_enc G (am_tag (am_ft c k) (f.getD k 0))) = _
  rw [hft]; rfl
theorem bl_put : bm_IL yX8_put mt_X8_put 3 := ⟨ml_X8_202.2.1, ml_X8_202.2.2.1, ml_X8_202.2.2.2.1, ml_X8_202.2.2.2.2.1, ml_X8_202.2.2.2.2.2⟩
theorem gs_put {v x b w z : Int} (hw : min b v = w) (hz : max x w = z) : g_Sm l G yX8_put mt_X8_put d 0 0 [.inl v, .inl x, .inl b] Wd (some (.inl z)) Wd := by
  refine g_enter (ls := [some (.inl v), some (.inl x), some (.inl b)]) (by decide) rfl (fun h => nomatch h) (Nat.le_of_ble_eq_true rfl) rfl ?_
  refine gn_iload_n (x := x) (q := 1) dX8_put_0 rfl rfl ?_
  refine gn_iload_n (x := b) (q := 2) dX8_put_1 rfl rfl ?_
  refine gn_iload_n (x := v) (q := 3) dX8_put_2 rfl rfl ?_
  refine gn_mmin (q := 6) dX8_put_3 am_mm_X8_130 hw (Nat.le_of_ble_eq_true rfl) (Nat.le_refl _) (Nat.le_refl _) rfl ?_
  refine gn_mmax (q := 9) dX8_put_6 am_mm_X8_209 hz (Nat.le_of_ble_eq_true rfl) (Nat.le_refl _) (Nat.le_refl _) rfl ?_
  exact gn_iret rfl dX8_put_9 (fun H h => h)
end GS
