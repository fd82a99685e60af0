theorem Inv.next {N : Nat} {mem : am_M} (h : Inv N mem) : Inv (N + 1) mem := by
  obtain ⟨T, R, X, sn, sg, h, e, NB, U, K, L, Y, c1, c2, c3, c4⟩ := h
  exact ⟨T, R, X, sn, sg, h, e, NB, U, K, L, Y, c1, c2, c3, by omega⟩
theorem gn_isubN {l : Launch} {G : am_G} {M : am_Mt} {d mc ms : Nat} {E : State → Code → Prop} {Z : List Frame → Array Value → State → State → Prop} {pc q : Nat} {ls : am_L} {st : List am_V} {Wd : Heap → Prop} {ce sl : Nat} {x y z : Int} (hd : decode M.2.1 pc = .ok (.isub, 1)) (hz : am_w32 (x - y) = z) (hq : pc + 1 = q) (k : gn l G M d mc ms E Z q ls (.inl z :: st) Wd ce sl) : gn l G M d mc ms E Z pc ls (.inl y :: .inl x :: st) Wd ce sl := gn_isub hd hq (by rw [hz]; exact k)
section AF
variable {l : Launch} {G : am_G} {L : Nat} {xs : Nat → Int32} {N : Nat} {mem : am_M}
def lw_pcs : List Nat := [260, 285, 310, 323, 336, 349, 417, 442, 503, 528, 553, 590, 615, 640, 665, 678, 691, 704, 729, 754, 767, 804, 829, 854, 879, 892, 905, 930, 967, 992, 1017, 1042, 1055, 1116, 1165, 1202, 1215, 1228, 1241, 1254, 1303, 1352, 1389, 1402, 1415, 1428, 1477, 1490, 1527, 1552, 1577, 1602]
theorem lw_cases (hlt : l.stackTraces = false) (hL : L ≤ 2560) (hn : 5 * N + 4 < L) (hI : Inv N mem) (kk : ∀ m2, Inv (N + 1) m2 → LG l G L xs 1657 (lwL ((5 * N : Nat) : Int)) [] (am_P G m2) (127 + N + 1) (4006 + 6 * N + 6)) : ∀ k, k < 52 → LG l G L xs (lw_pcs.getD k 0) (lwL ((5 * N : Nat) : Int)) [] (am_P G mem) (127 + N) (4006 + 6 * N)
  | 0, _ => lw_c0 hL hn hI kk
  | 1, _ => lw_c1 hL hn hI kk
  | 2, _ => lw_c2 hL hn hI kk
  | 3, _ => lw_c3 hL hn hI kk
  | 4, _ => lw_c4 hL hn hI kk
  | 5, _ => lw_c5 hlt hL hn hI kk
  | 6, _ => lw_c6 hL hn hI kk
  | 7, _ => lw_c7 hL hn hI kk
  | 8, _ => lw_c8 hL hn hI kk
  | 9, _ => lw_c9 hL hn hI kk
  | 10, _ => lw_c10 hL hn hI kk
  | 11, _ => lw_c11 hL hn hI kk
  | 12, _ => lw_c12 hL hn hI kk
  | 13, _ => lw_c13 hL hn hI kk
  | 14, _ => lw_c14 hL hn hI kk
  | 15, _ => lw_c15 hL hn hI kk
  | 16, _ => lw_c16 hL hn hI kk
  | 17, _ => lw_c17 hL hn hI kk
  | 18, _ => lw_c18 hL hn hI kk
  | 19, _ => lw_c19 hL hn hI kk
  | 20, _ => lw_c20 hL hn hI kk
  | 21, _ => lw_c21 hL hn hI kk
  | 22, _ => lw_c22 hL hn hI kk
  | 23, _ => lw_c23 hL hn hI kk
  | 24, _ => lw_c24 hL hn hI kk
  | 25, _ => lw_c25 hL hn hI kk
  | 26, _ => lw_c26 hL hn hI kk
  | 27, _ => lw_c27 hL hn hI kk
  | 28, _ => lw_c28 hL hn hI kk
  | 29, _ => lw_c29 hL hn hI kk
  | 30, _ => lw_c30 hL hn hI kk
  | 31, _ => lw_c31 hL hn hI kk
  | 32, _ => lw_c32 hL hn hI kk
  | 33, _ => lw_c33 hL hn hI kk
  | 34, _ => lw_c34 hL hn hI kk
  | 35, _ => lw_c35 hL hn hI kk
  | 36, _ => lw_c36 hL hn hI kk
  | 37, _ => lw_c37 hL hn hI kk
  | 38, _ => lw_c38 hL hn hI kk
  | 39, _ => lw_c39 hL hn hI kk
  | 40, _ => lw_c40 hL hn hI kk
  | 41, _ => lw_c41 hL hn hI kk
  | 42, _ => lw_c42 hL hn hI kk
  | 43, _ => lw_c43 hL hn hI kk
  | 44, _ => lw_c44 hL hn hI kk
  | 45, _ => lw_c45 hL hn hI kk
  | 46, _ => lw_c46 hL hn hI kk
  | 47, _ => lw_c47 hL hn hI kk
  | 48, _ => lw_c48 hL hn hI kk
  | 49, _ => lw_c49 hL hn hI kk
  | 50, _ => lw_c50 hL hn hI kk
  | 51, _ => lw_c51 hlt hL hn hI kk
  | k + 52, h => absurd h (by omega)
theorem lw_offs : ∀ k : Nat, k < 52 → (#[221, 246, 271, 284, 297, 310, 378, 403, 464, 489, 514, 551, 576, 601, 626, 639, 652, 665, 690, 715, 728, 765, 790, 815, 840, 853, 866, 891, 928, 953, 978, 1003, 1016, 1077, 1126, 1163, 1176, 1189, 1202, 1215, 1264, 1313, 1350, 1363, 1376, 1389, 1438, 1451, 1488, 1513, 1538, 1563] : Array Int)[((k : Int) - 0).toNat]? = some ((lw_pcs.getD k 0 : Int) - 39) := by decide +kernel
theorem lw_and (x : Int) : 0 ≤ am_and x 63 ∧ am_and x 63 ≤ 63 := by
  unfold am_and
  have h : (Int32.ofInt x &&& Int32.ofInt 63).toInt = (((Int32.ofInt x).toBitVec &&& (63 : BitVec 32)).toInt) := rfl
  rw [h]
  generalize (Int32.ofInt x).toBitVec = b
  have h1 : (b &&& (63 : BitVec 32)).toNat ≤ 63 := by
    rw [BitVec.toNat_and]
    exact Nat.and_le_right
  rw [BitVec.toInt_eq_toNat_cond]
  split <;> omega
theorem lw_loop (hlt : l.stackTraces = false) (hL : L ≤ 2560) : ∀ N, N ≤ L / 5 → ∀ mem, Inv N mem → LG l G L xs 23 (lwL ((5 * N : Nat) : Int)) [] (am_P G mem) (127 + N) (4006 + 6 * N) := by
  refine am_dn (P := fun N => ∀ mem, Inv N mem → LG l G L xs 23 (lwL ((5 * N : Nat) : Int)) [] (am_P G mem) (127 + N) (4006 + 6 * N)) (L / 5) (fun N hN ih mem hI => ?_)
  refine gn_iload (x := ((5 * N : Nat) : Int)) (q := 25) dL_law_23 rfl rfl ?_
  refine gn_aload_n (x := 1000) (q := 26) dL_law_25 rfl rfl ?_
  refine lw_len (q := 27) dL_law_26 hL rfl ?_
  refine gn_iconst (q := 28) dL_law_27 (am_okd rfl) rfl ?_
  refine gn_isubN (z := (L : Int) - 5) (q := 29) dL_law_28 (by unfold am_w32; omega) rfl ?_
  refine gn_cmpgt (t := 1663) (q := 32) dL_law_29 rfl rfl (fun w => ?_) (fun w => ?_)
  · refine gn_iconst (q := 1664) dL_law_1663 (am_okd rfl) rfl ?_
    exact lw_ret1 dL_law_1664 (by omega) (by omega)
  · have hn : 5 * N + 4 < L := by omega
    refine gn_aload_n (x := 1000) (q := 33) dL_law_32 rfl rfl ?_
    refine gn_iload (x := ((5 * N : Nat) : Int)) (q := 35) dL_law_33 rfl rfl ?_
    refine lw_sld (i := 5 * N) (q := 36) dL_law_35 (by omega) hL rfl ?_
    refine gn_bipush (q := 38) dL_law_36 ⟨by decide, by decide⟩ rfl ?_
    refine gn_iand (q := 39) dL_law_38 rfl ?_
    have nx : ∀ m2, Inv (N + 1) m2 → LG l G L xs 1657 (lwL ((5 * N : Nat) : Int)) [] (am_P G m2) (127 + N + 1) (4006 + 6 * N + 6) := fun m2 hI2 => by
      refine gn_iincN (x := ((5 * N : Nat) : Int)) (z := ((5 * (N + 1) : Nat) : Int)) (ls' := lwL ((5 * (N + 1) : Nat) : Int)) (q := 1660) dL_law_1657 rfl (by decide) (by unfold am_w32; omega) rfl rfl ?_
      refine gn_goto (t := 23) dL_law_1660 rfl ?_
      exact ih (by omega) m2 hI2
    obtain ⟨a1, a2⟩ := lw_and (xs (5 * N)).toInt
    by_cases h52 : am_and (xs (5 * N)).toInt 63 ≤ 51
    · obtain ⟨k, hk⟩ : ∃ k : Nat, am_and (xs (5 * N)).toInt 63 = (k : Int) := ⟨(am_and (xs (5 * N)).toInt 63).toNat, by omega⟩
      rw [hk]
      have hk52 : k < 52 := by omega
      have ho := lw_offs k hk52
      exact gn_tabIn (o1 := (lw_pcs.getD k 0 : Int) - 39) (t := lw_pcs.getD k 0) dL_law_39 (by omega) (by omega) ho (by omega) (lw_cases hlt hL hn hI nx k hk52)
    · refine gn_tabOut (t := 1657) dL_law_39 (Or.inr (by omega)) rfl ?_
      exact gn_wide (by omega) (by omega) (nx mem hI.next)
end AF
