/-! the law's loop -/
abbrev mt_L_law : am_Mt := (RL, cL_law, 8, some .boolean)
def R_law : String := "HeldInTrustLaw"
def lw_P (b : Addr) (xs : List Int32) (args : Array Value) (s : State) : Prop := args = #[.ref b] ∧ s.IntsAt b xs ∧ xs.length ≤ 2560 ∧ (Jvm.Cond.and given_1 narrow_1).before args s = true
def lw_Q (_ : Array Value) (s : State) (o : Outcome) (t : State) : Prop := o = .returned (some (.int 1)) ∧ Framed s o t [] 601024 7293034
def lw_Z (below : List Frame) (a : Array Value) (s : State) : State → Prop := fun t => ∃ o, t.status = .running ∧ Ended t below o ∧ lw_Q a s o t
/-- the law's own end, with 1 on the stack, nothing written that was there before, its room as the claim has it -/
theorem lw_retG {p : Program} {l : Launch} {e : Env} {R : Room} {s : State} {m : MethodId} {args : Array Value} {below : List Frame} {meth : Method} {c : Code} (hx : p.tables.exec = Jvm.exec) (hb : c.code = code) (hr : meth.sig.returnType = ret) (hlocks : meth.locks = false) {pc : Nat} {H : Heap} {ls : Array Slot} (hdg : decode code pc = .ok (.ireturn, 1)) : W p l e R s m args below meth c H [] 601024 7293034 (lw_Z below args s) (F0 m pc ls [.int 1]) := by
  intro T hT X
  obtain ⟨fs, hret, hrun, hended, hW, hframe⟩ := X.leave (v := some (.int 1)) (hlocks := hlocks) (fun h => by rw [hr] at h; cases h)
  have hmeth' : T.vm.method? m = some meth := X.method'
  refine ⟨T.setFrames fs, ?_, .returned (some (.int 1)), hrun, hended, rfl, ⟨_, rfl⟩, hW, hframe⟩
  jvm_step X.here [X.here.top, hx, hb, hdg, hmeth', hr, ret, narrow_b1]
  (try refine ⟨rfl, ?_⟩); (try refine ⟨rfl, ?_⟩)
  first | (intro acts; rw [hret _ acts rfl rfl rfl]) | rw [hret _ _ rfl rfl rfl]
  exact Steps.refl _
def lwE (l : Launch) (G : am_G) (L : Nat) (xs : Nat → Int32) (s : State) (_ : Code) : Prop := nxE l G s ∧ va_X (G.2.2.2 0) L xs s s.heap ∧ G.2.2.2 0 < s.heap.size ∧ G.1 = s.heap.size
abbrev LG (l : Launch) (G : am_G) (L : Nat) (xs : Nat → Int32) (pc : Nat) (ls : am_L) (st : List am_V) (Wd : Heap → Prop) (ce sl : Nat) : Prop := gn l G mt_L_law 210 601024 7293034 (lwE l G L xs) (fun below args s => lw_Z below args s) pc ls st Wd ce sl
abbrev lwL (i : Int) : am_L := [some (.inr (.inr 1001)), some (.inr (.inr 1)), some (.inr (.inr 96)), some (.inr (.inr 127)), some (.inl i), none, none, none]
section AE
variable {l : Launch} {G : am_G} {L : Nat} {xs : Nat → Int32} {pc q N n : Nat} {ls : am_L} {st : List am_V} {Wd : Heap → Prop} {ce sl : Nat} {mem : am_M}
theorem lw_ret1 (hd : decode cL_law pc = .ok (.ireturn, 1)) (h1 : ce ≤ 601024) (h2 : sl ≤ 7293034) : LG l G L xs pc ls [.inl 1] Wd ce sl := by
  intro p e R s m args below meth c H locs lsM C D hP hS hl ho
  have hG := D.2.2.2.2.2.2.2
  exact va_forget (fun q hq => by rw [← hG]; exact hS.2.2 q hq) (W.widen h1 h2 (lw_retG C.1 C.2.1 C.2.2.2.2.2.1 C.2.2.2.2.2.2.1 hd))
theorem lw_e1 : am_enc G (.inr (.inr 1001)) = .ref (G.2.2.2 0) := by
  show Value.ref (am_ad G (0 + 1000)) = _
  rw [am_adx]
theorem lw_nA {s : State} {c : Code} (h : lwE l G L xs s c) : ¬ am_A G (G.2.2.2 0) := fun h2 => by
  have h3 : G.1 ≤ G.2.2.2 0 := h2
  have h4 := h.2.2.1
  have h5 := h.2.2.2
  omega
theorem lw_sld {i : Nat} (hd : decode cL_law pc = .ok (.iaload, 1)) (hi : i < L) (hL : L ≤ 2560) (hq : pc + 1 = q) (k : LG l G L xs q ls (.inl (xs i).toInt :: st) Wd ce sl) : LG l G L xs pc ls (.inl (i : Int) :: .inr (.inr 1001) :: st) Wd ce sl := by
  subst hq
  intro p e R s m args below meth c H locs lsM C D hP hS hl ho
  have hE := D.2.2.2.2
  have hio : am_ok (i : Int) := am_kh ho
  have kk := k p e R s m args below meth c H locs lsM C D hP hS hl (am_k2 ho (am_ok_i _))
  rw [List.map_cons, List.map_cons, lw_e1]
  refine va_sld C.1 C.2.1 hE.2.1 hE.2.2.1 (lw_nA hE) hS (am_in (by omega) (by omega) hio) hd ?_
  rw [am_nat (by omega) hio]
  have e2 : am_enc G (.inl (xs i).toInt) = .int (xs i) := by show Value.int (Int32.ofInt (xs i).toInt) = _; rw [Int32.ofInt_toInt]
  rw [List.map_cons, e2] at kk
  exact kk
theorem lw_len (hd : decode cL_law pc = .ok (.arraylength, 1)) (hL : L ≤ 2560) (hq : pc + 1 = q) (k : LG l G L xs q ls (.inl (L : Int) :: st) Wd ce sl) : LG l G L xs pc ls (.inr (.inr 1001) :: st) Wd ce sl := by
  subst hq
  intro p e R s m args below meth c H locs lsM C D hP hS hl ho
  have hE := D.2.2.2.2
  have kk := k p e R s m args below meth c H locs lsM C D hP hS hl (am_k1 ho (show am_ok (L : Int) by unfold am_ok; omega))
  rw [List.map_cons, lw_e1]
  refine va_slen C.1 C.2.1 hE.2.1 hE.2.2.1 (lw_nA hE) hS hd ?_
  exact kk
theorem lw_arg {j : Nat} (d0 : decode cL_law pc = .ok (.aload_n 0, 1)) (d1 : decode cL_law (pc + 1) = .ok (.iload 4, 2)) (d3 : decode cL_law (pc + 3) = .ok (.iconst (j : Int), 1)) (d4 : decode cL_law (pc + 4) = .ok (.iadd, 1)) (d5 : decode cL_law (pc + 5) = .ok (.iaload, 1)) (hj : j ≤ 5) (hn : n + j < L) (hL : L ≤ 2560) (hq : pc + 6 = q) (k : LG l G L xs q (lwL (n : Int)) (.inl (xs (n + j)).toInt :: st) Wd ce sl) : LG l G L xs pc (lwL (n : Int)) st Wd ce sl := by
  subst hq
  refine gn_aload_n (x := 1000) (q := pc + 1) d0 rfl rfl ?_
  refine gn_iload (x := (n : Int)) (q := pc + 3) d1 rfl rfl ?_
  refine gn_iconst (q := pc + 4) d3 (by unfold am_ok; omega) rfl ?_
  refine gn_iaddN (z := ((n + j : Nat) : Int)) (q := pc + 5) d4 (by unfold am_w32; omega) rfl ?_
  exact lw_sld d5 hn hL rfl k
theorem lw_argK {j : Nat} {k : Int} (d0 : decode cL_law pc = .ok (.aload_n 0, 1)) (d1 : decode cL_law (pc + 1) = .ok (.iload 4, 2)) (d3 : decode cL_law (pc + 3) = .ok (.iconst (j : Int), 1)) (d4 : decode cL_law (pc + 4) = .ok (.iadd, 1)) (d5 : decode cL_law (pc + 5) = .ok (.iaload, 1)) (hj : j ≤ 5) (hn : n + j < L) (hL : L ≤ 2560) (hq : pc + 6 = q) (kk : LG l G L xs q [some (.inr (.inr 1001)), some (.inr (.inr 1)), some (.inr (.inr 96)), some (.inr (.inr 127)), some (.inl (n : Int)), some (.inl k), none, none] (.inl (xs (n + j)).toInt :: st) Wd ce sl) : LG l G L xs pc [some (.inr (.inr 1001)), some (.inr (.inr 1)), some (.inr (.inr 96)), some (.inr (.inr 127)), some (.inl (n : Int)), some (.inl k), none, none] st Wd ce sl := by
  subst hq
  refine gn_aload_n (x := 1000) (q := pc + 1) d0 rfl rfl ?_
  refine gn_iload (x := (n : Int)) (q := pc + 3) d1 rfl rfl ?_
  refine gn_iconst (q := pc + 4) d3 (by unfold am_ok; omega) rfl ?_
  refine gn_iaddN (z := ((n + j : Nat) : Int)) (q := pc + 5) d4 (by unfold am_w32; omega) rfl ?_
  exact lw_sld d5 hn hL rfl kk
theorem lw_wk {i k : Int} {o : Option am_V} : ∀ (j : Nat) (v : am_V), (lwL i)[j]? = some (some v) → ([some (.inr (.inr 1001)), some (.inr (.inr 1)), some (.inr (.inr 96)), some (.inr (.inr 127)), some (.inl i), some (.inl k), o, none] : am_L)[j]? = some (some v) := by
  intro j v h
  match j, h with
  | 0, h => exact h
  | 1, h => exact h
  | 2, h => exact h
  | 3, h => exact h
  | 4, h => exact h
  | 5, h => cases h
  | 6, h => cases h
  | 7, h => cases h
  | j + 8, h => cases h
theorem lw_c0 (hL : L ≤ 2560) (hn : 5 * N + 4 < L) (hI : Inv N mem) (kk : ∀ m2, Inv (N + 1) m2 → LG l G L xs 1657 (lwL ((5 * N : Nat) : Int)) [] (am_P G m2) (127 + N + 1) (4006 + 6 * N + 6)) : LG l G L xs 260 (lwL ((5 * N : Nat) : Int)) [] (am_P G mem) (127 + N) (4006 + 6 * N) := by
  obtain ⟨v, Mid, hc, hm⟩ := p_sign (l := l) (G := G) (xs (5 * N + 1)).toInt N mem (by omega) hI
  refine gn_aload_n (x := 0) (q := 261) dL_law_260 rfl rfl ?_
  refine lw_arg (n := 5 * N) (j := 1) (q := 267) dL_law_261 dL_law_262 dL_law_264 dL_law_265 dL_law_266 (by decide) (by omega) hL rfl ?_
  refine gn_callV (b := 0) (as := [.inl (xs (5 * N + 1)).toInt]) (rest := []) (q := 270) dL_law_267 ml_L_23 sm_X8_sign rfl rfl (by decide) (by decide) rfl rfl (Nat.le_of_ble_eq_true rfl) rfl (by omega) (by omega) hc ?_
  intro r1 m1 hq1
  obtain ⟨rfl, hMid⟩ := hq1
  show LG l G L xs 270 (lwL ((5 * N : Nat) : Int)) [.inl v] (am_P G m1) (127 + N) (4006 + 6 * N)
  refine gn_aload_n (x := 95) (q := 271) dL_law_270 rfl rfl ?_
  refine lw_arg (n := 5 * N) (j := 1) (q := 277) dL_law_271 dL_law_272 dL_law_274 dL_law_275 dL_law_276 (by decide) (by omega) hL rfl ?_
  refine gn_callV (b := 95) (as := [.inl (xs (5 * N + 1)).toInt]) (rest := [.inl v]) (q := 280) dL_law_277 ml_L_27 sm_X9_sign rfl rfl (by decide) (by decide) rfl rfl (Nat.le_of_ble_eq_true rfl) rfl (by omega) (by omega) (hm m1 hMid) ?_
  intro r2 m2 hq2
  obtain ⟨rfl, hI2⟩ := hq2
  show LG l G L xs 280 (lwL ((5 * N : Nat) : Int)) [.inl v, .inl v] (am_P G m2) (127 + N) (4006 + 6 * N)
  exact gn_cmpeq (t := 1657) (q := 283) dL_law_280 rfl rfl (fun _ => gn_wide (by omega) (by omega) (kk m2 hI2)) (fun h => absurd rfl h)
theorem lw_c1 (hL : L ≤ 2560) (hn : 5 * N + 4 < L) (hI : Inv N mem) (kk : ∀ m2, Inv (N + 1) m2 → LG l G L xs 1657 (lwL ((5 * N : Nat) : Int)) [] (am_P G m2) (127 + N + 1) (4006 + 6 * N + 6)) : LG l G L xs 285 (lwL ((5 * N : Nat) : Int)) [] (am_P G mem) (127 + N) (4006 + 6 * N) := by
  obtain ⟨v, Mid, hc, hm⟩ := p_end (l := l) (G := G) (xs (5 * N + 1)).toInt N mem (by omega) hI
  refine gn_aload_n (x := 0) (q := 286) dL_law_285 rfl rfl ?_
  refine lw_arg (n := 5 * N) (j := 1) (q := 292) dL_law_286 dL_law_287 dL_law_289 dL_law_290 dL_law_291 (by decide) (by omega) hL rfl ?_
  refine gn_callV (b := 0) (as := [.inl (xs (5 * N + 1)).toInt]) (rest := []) (q := 295) dL_law_292 ml_L_28 sm_X8_end rfl rfl (by decide) (by decide) rfl rfl (Nat.le_of_ble_eq_true rfl) rfl (by omega) (by omega) hc ?_
  intro r1 m1 hq1
  obtain ⟨rfl, hMid⟩ := hq1
  show LG l G L xs 295 (lwL ((5 * N : Nat) : Int)) [.inl v] (am_P G m1) (127 + N) (4006 + 6 * N)
  refine gn_aload_n (x := 95) (q := 296) dL_law_295 rfl rfl ?_
  refine lw_arg (n := 5 * N) (j := 1) (q := 302) dL_law_296 dL_law_297 dL_law_299 dL_law_300 dL_law_301 (by decide) (by omega) hL rfl ?_
  refine gn_callV (b := 95) (as := [.inl (xs (5 * N + 1)).toInt]) (rest := [.inl v]) (q := 305) dL_law_302 ml_L_32 sm_X9_end rfl rfl (by decide) (by decide) rfl rfl (Nat.le_of_ble_eq_true rfl) rfl (by omega) (by omega) (hm m1 hMid) ?_
  intro r2 m2 hq2
  obtain ⟨rfl, hI2⟩ := hq2
  show LG l G L xs 305 (lwL ((5 * N : Nat) : Int)) [.inl v, .inl v] (am_P G m2) (127 + N) (4006 + 6 * N)
  exact gn_cmpeq (t := 1657) (q := 308) dL_law_305 rfl rfl (fun _ => gn_wide (by omega) (by omega) (kk m2 hI2)) (fun h => absurd rfl h)
theorem lw_c2 (hL : L ≤ 2560) (hn : 5 * N + 4 < L) (hI : Inv N mem) (kk : ∀ m2, Inv (N + 1) m2 → LG l G L xs 1657 (lwL ((5 * N : Nat) : Int)) [] (am_P G m2) (127 + N + 1) (4006 + 6 * N + 6)) : LG l G L xs 310 (lwL ((5 * N : Nat) : Int)) [] (am_P G mem) (127 + N) (4006 + 6 * N) := by
  obtain ⟨v, Mid, hc, hm⟩ := p_songs (l := l) (G := G)  N mem (by omega) hI
  refine gn_aload_n (x := 0) (q := 311) dL_law_310 rfl rfl ?_
  refine gn_callV (b := 0) (as := []) (rest := []) (q := 314) dL_law_311 ml_L_33 sm_X8_songs rfl rfl (by decide) (by decide) rfl rfl (Nat.le_of_ble_eq_true rfl) rfl (by omega) (by omega) hc ?_
  intro r1 m1 hq1
  obtain ⟨rfl, hMid⟩ := hq1
  show LG l G L xs 314 (lwL ((5 * N : Nat) : Int)) [.inl v] (am_P G m1) (127 + N) (4006 + 6 * N)
  refine gn_aload_n (x := 95) (q := 315) dL_law_314 rfl rfl ?_
  refine gn_callV (b := 95) (as := []) (rest := [.inl v]) (q := 318) dL_law_315 ml_L_37 sm_X9_songs rfl rfl (by decide) (by decide) rfl rfl (Nat.le_of_ble_eq_true rfl) rfl (by omega) (by omega) (hm m1 hMid) ?_
  intro r2 m2 hq2
  obtain ⟨rfl, hI2⟩ := hq2
  show LG l G L xs 318 (lwL ((5 * N : Nat) : Int)) [.inl v, .inl v] (am_P G m2) (127 + N) (4006 + 6 * N)
  exact gn_cmpeq (t := 1657) (q := 321) dL_law_318 rfl rfl (fun _ => gn_wide (by omega) (by omega) (kk m2 hI2)) (fun h => absurd rfl h)
theorem lw_c3 (hL : L ≤ 2560) (hn : 5 * N + 4 < L) (hI : Inv N mem) (kk : ∀ m2, Inv (N + 1) m2 → LG l G L xs 1657 (lwL ((5 * N : Nat) : Int)) [] (am_P G m2) (127 + N + 1) (4006 + 6 * N + 6)) : LG l G L xs 323 (lwL ((5 * N : Nat) : Int)) [] (am_P G mem) (127 + N) (4006 + 6 * N) := by
  obtain ⟨v, Mid, hc, hm⟩ := p_hearers (l := l) (G := G)  N mem (by omega) hI
  refine gn_aload_n (x := 0) (q := 324) dL_law_323 rfl rfl ?_
  refine gn_callV (b := 0) (as := []) (rest := []) (q := 327) dL_law_324 ml_L_38 sm_X8_hearers rfl rfl (by decide) (by decide) rfl rfl (Nat.le_of_ble_eq_true rfl) rfl (by omega) (by omega) hc ?_
  intro r1 m1 hq1
  obtain ⟨rfl, hMid⟩ := hq1
  show LG l G L xs 327 (lwL ((5 * N : Nat) : Int)) [.inl v] (am_P G m1) (127 + N) (4006 + 6 * N)
  refine gn_aload_n (x := 95) (q := 328) dL_law_327 rfl rfl ?_
  refine gn_callV (b := 95) (as := []) (rest := [.inl v]) (q := 331) dL_law_328 ml_L_41 sm_X9_hearers rfl rfl (by decide) (by decide) rfl rfl (Nat.le_of_ble_eq_true rfl) rfl (by omega) (by omega) (hm m1 hMid) ?_
  intro r2 m2 hq2
  obtain ⟨rfl, hI2⟩ := hq2
  show LG l G L xs 331 (lwL ((5 * N : Nat) : Int)) [.inl v, .inl v] (am_P G m2) (127 + N) (4006 + 6 * N)
  exact gn_cmpeq (t := 1657) (q := 334) dL_law_331 rfl rfl (fun _ => gn_wide (by omega) (by omega) (kk m2 hI2)) (fun h => absurd rfl h)
theorem lw_c4 (hL : L ≤ 2560) (hn : 5 * N + 4 < L) (hI : Inv N mem) (kk : ∀ m2, Inv (N + 1) m2 → LG l G L xs 1657 (lwL ((5 * N : Nat) : Int)) [] (am_P G m2) (127 + N + 1) (4006 + 6 * N + 6)) : LG l G L xs 336 (lwL ((5 * N : Nat) : Int)) [] (am_P G mem) (127 + N) (4006 + 6 * N) := by
  obtain ⟨v, Mid, hc, hm⟩ := p_rule (l := l) (G := G)  N mem (by omega) hI
  refine gn_aload_n (x := 0) (q := 337) dL_law_336 rfl rfl ?_
  refine gn_callV (b := 0) (as := []) (rest := []) (q := 340) dL_law_337 ml_L_42 sm_X8_rule rfl rfl (by decide) (by decide) rfl rfl (Nat.le_of_ble_eq_true rfl) rfl (by omega) (by omega) hc ?_
  intro r1 m1 hq1
  obtain ⟨rfl, hMid⟩ := hq1
  show LG l G L xs 340 (lwL ((5 * N : Nat) : Int)) [.inl v] (am_P G m1) (127 + N) (4006 + 6 * N)
  refine gn_aload_n (x := 95) (q := 341) dL_law_340 rfl rfl ?_
  refine gn_callV (b := 95) (as := []) (rest := [.inl v]) (q := 344) dL_law_341 ml_L_45 sm_X9_rule rfl rfl (by decide) (by decide) rfl rfl (Nat.le_of_ble_eq_true rfl) rfl (by omega) (by omega) (hm m1 hMid) ?_
  intro r2 m2 hq2
  obtain ⟨rfl, hI2⟩ := hq2
  show LG l G L xs 344 (lwL ((5 * N : Nat) : Int)) [.inl v, .inl v] (am_P G m2) (127 + N) (4006 + 6 * N)
  exact gn_cmpeq (t := 1657) (q := 347) dL_law_344 rfl rfl (fun _ => gn_wide (by omega) (by omega) (kk m2 hI2)) (fun h => absurd rfl h)
theorem lw_c6 (hL : L ≤ 2560) (hn : 5 * N + 4 < L) (hI : Inv N mem) (kk : ∀ m2, Inv (N + 1) m2 → LG l G L xs 1657 (lwL ((5 * N : Nat) : Int)) [] (am_P G m2) (127 + N + 1) (4006 + 6 * N + 6)) : LG l G L xs 417 (lwL ((5 * N : Nat) : Int)) [] (am_P G mem) (127 + N) (4006 + 6 * N) := by
  obtain ⟨v, Mid, hc, hm⟩ := p_worth (l := l) (G := G) (xs (5 * N + 1)).toInt N mem (by omega) hI
  refine gn_aload_n (x := 0) (q := 418) dL_law_417 rfl rfl ?_
  refine lw_arg (n := 5 * N) (j := 1) (q := 424) dL_law_418 dL_law_419 dL_law_421 dL_law_422 dL_law_423 (by decide) (by omega) hL rfl ?_
  refine gn_callV (b := 0) (as := [.inl (xs (5 * N + 1)).toInt]) (rest := []) (q := 427) dL_law_424 ml_L_55 sm_X8_worth rfl rfl (by decide) (by decide) rfl rfl (Nat.le_of_ble_eq_true rfl) rfl (by omega) (by omega) hc ?_
  intro r1 m1 hq1
  obtain ⟨rfl, hMid⟩ := hq1
  show LG l G L xs 427 (lwL ((5 * N : Nat) : Int)) [.inl v] (am_P G m1) (127 + N) (4006 + 6 * N)
  refine gn_aload_n (x := 95) (q := 428) dL_law_427 rfl rfl ?_
  refine lw_arg (n := 5 * N) (j := 1) (q := 434) dL_law_428 dL_law_429 dL_law_431 dL_law_432 dL_law_433 (by decide) (by omega) hL rfl ?_
  refine gn_callV (b := 95) (as := [.inl (xs (5 * N + 1)).toInt]) (rest := [.inl v]) (q := 437) dL_law_434 ml_L_58 sm_X9_worth rfl rfl (by decide) (by decide) rfl rfl (Nat.le_of_ble_eq_true rfl) rfl (by omega) (by omega) (hm m1 hMid) ?_
  intro r2 m2 hq2
  obtain ⟨rfl, hI2⟩ := hq2
  show LG l G L xs 437 (lwL ((5 * N : Nat) : Int)) [.inl v, .inl v] (am_P G m2) (127 + N) (4006 + 6 * N)
  exact gn_cmpeq (t := 1657) (q := 440) dL_law_437 rfl rfl (fun _ => gn_wide (by omega) (by omega) (kk m2 hI2)) (fun h => absurd rfl h)
theorem lw_c7 (hL : L ≤ 2560) (hn : 5 * N + 4 < L) (hI : Inv N mem) (kk : ∀ m2, Inv (N + 1) m2 → LG l G L xs 1657 (lwL ((5 * N : Nat) : Int)) [] (am_P G m2) (127 + N + 1) (4006 + 6 * N + 6)) : LG l G L xs 442 (lwL ((5 * N : Nat) : Int)) [] (am_P G mem) (127 + N) (4006 + 6 * N) := by
  obtain ⟨v, Mid, hc, hm⟩ := p_sheet (l := l) (G := G) (xs (5 * N + 1)).toInt (xs (5 * N + 2)).toInt (xs (5 * N + 3)).toInt (xs (5 * N + 4)).toInt N mem (by omega) hI
  refine gn_aload_n (x := 0) (q := 443) dL_law_442 rfl rfl ?_
  refine lw_arg (n := 5 * N) (j := 1) (q := 449) dL_law_443 dL_law_444 dL_law_446 dL_law_447 dL_law_448 (by decide) (by omega) hL rfl ?_
  refine lw_arg (n := 5 * N) (j := 2) (q := 455) dL_law_449 dL_law_450 dL_law_452 dL_law_453 dL_law_454 (by decide) (by omega) hL rfl ?_
  refine lw_arg (n := 5 * N) (j := 3) (q := 461) dL_law_455 dL_law_456 dL_law_458 dL_law_459 dL_law_460 (by decide) (by omega) hL rfl ?_
  refine lw_arg (n := 5 * N) (j := 4) (q := 467) dL_law_461 dL_law_462 dL_law_464 dL_law_465 dL_law_466 (by decide) (by omega) hL rfl ?_
  refine gn_callV (b := 0) (as := [.inl (xs (5 * N + 1)).toInt, .inl (xs (5 * N + 2)).toInt, .inl (xs (5 * N + 3)).toInt, .inl (xs (5 * N + 4)).toInt]) (rest := []) (q := 470) dL_law_467 ml_L_59 sm_X8_sheet rfl rfl (by decide) (by decide) rfl rfl (Nat.le_of_ble_eq_true rfl) rfl (by omega) (by omega) hc ?_
  intro r1 m1 hq1
  obtain ⟨rfl, hMid⟩ := hq1
  show LG l G L xs 470 (lwL ((5 * N : Nat) : Int)) [.inl v] (am_P G m1) (127 + N) (4006 + 6 * N)
  refine gn_aload_n (x := 95) (q := 471) dL_law_470 rfl rfl ?_
  refine lw_arg (n := 5 * N) (j := 1) (q := 477) dL_law_471 dL_law_472 dL_law_474 dL_law_475 dL_law_476 (by decide) (by omega) hL rfl ?_
  refine lw_arg (n := 5 * N) (j := 2) (q := 483) dL_law_477 dL_law_478 dL_law_480 dL_law_481 dL_law_482 (by decide) (by omega) hL rfl ?_
  refine lw_arg (n := 5 * N) (j := 3) (q := 489) dL_law_483 dL_law_484 dL_law_486 dL_law_487 dL_law_488 (by decide) (by omega) hL rfl ?_
  refine lw_arg (n := 5 * N) (j := 4) (q := 495) dL_law_489 dL_law_490 dL_law_492 dL_law_493 dL_law_494 (by decide) (by omega) hL rfl ?_
  refine gn_callV (b := 95) (as := [.inl (xs (5 * N + 1)).toInt, .inl (xs (5 * N + 2)).toInt, .inl (xs (5 * N + 3)).toInt, .inl (xs (5 * N + 4)).toInt]) (rest := [.inl v]) (q := 498) dL_law_495 ml_L_63 sm_X9_sheet rfl rfl (by decide) (by decide) rfl rfl (Nat.le_of_ble_eq_true rfl) rfl (by omega) (by omega) (hm m1 hMid) ?_
  intro r2 m2 hq2
  obtain ⟨rfl, hI2⟩ := hq2
  show LG l G L xs 498 (lwL ((5 * N : Nat) : Int)) [.inl v, .inl v] (am_P G m2) (127 + N) (4006 + 6 * N)
  exact gn_cmpeq (t := 1657) (q := 501) dL_law_498 rfl rfl (fun _ => gn_wide (by omega) (by omega) (kk m2 hI2)) (fun h => absurd rfl h)
theorem lw_c8 (hL : L ≤ 2560) (hn : 5 * N + 4 < L) (hI : Inv N mem) (kk : ∀ m2, Inv (N + 1) m2 → LG l G L xs 1657 (lwL ((5 * N : Nat) : Int)) [] (am_P G m2) (127 + N + 1) (4006 + 6 * N + 6)) : LG l G L xs 503 (lwL ((5 * N : Nat) : Int)) [] (am_P G mem) (127 + N) (4006 + 6 * N) := by
  obtain ⟨v, Mid, hc, hm⟩ := p_nights (l := l) (G := G) (xs (5 * N + 1)).toInt N mem (by omega) hI
  refine gn_aload_n (x := 0) (q := 504) dL_law_503 rfl rfl ?_
  refine lw_arg (n := 5 * N) (j := 1) (q := 510) dL_law_504 dL_law_505 dL_law_507 dL_law_508 dL_law_509 (by decide) (by omega) hL rfl ?_
  refine gn_callV (b := 0) (as := [.inl (xs (5 * N + 1)).toInt]) (rest := []) (q := 513) dL_law_510 ml_L_64 sm_X8_nights rfl rfl (by decide) (by decide) rfl rfl (Nat.le_of_ble_eq_true rfl) rfl (by omega) (by omega) hc ?_
  intro r1 m1 hq1
  obtain ⟨rfl, hMid⟩ := hq1
  show LG l G L xs 513 (lwL ((5 * N : Nat) : Int)) [.inl v] (am_P G m1) (127 + N) (4006 + 6 * N)
  refine gn_aload_n (x := 95) (q := 514) dL_law_513 rfl rfl ?_
  refine lw_arg (n := 5 * N) (j := 1) (q := 520) dL_law_514 dL_law_515 dL_law_517 dL_law_518 dL_law_519 (by decide) (by omega) hL rfl ?_
  refine gn_callV (b := 95) (as := [.inl (xs (5 * N + 1)).toInt]) (rest := [.inl v]) (q := 523) dL_law_520 ml_L_67 sm_X9_nights rfl rfl (by decide) (by decide) rfl rfl (Nat.le_of_ble_eq_true rfl) rfl (by omega) (by omega) (hm m1 hMid) ?_
  intro r2 m2 hq2
  obtain ⟨rfl, hI2⟩ := hq2
  show LG l G L xs 523 (lwL ((5 * N : Nat) : Int)) [.inl v, .inl v] (am_P G m2) (127 + N) (4006 + 6 * N)
  exact gn_cmpeq (t := 1657) (q := 526) dL_law_523 rfl rfl (fun _ => gn_wide (by omega) (by omega) (kk m2 hI2)) (fun h => absurd rfl h)
theorem lw_c9 (hL : L ≤ 2560) (hn : 5 * N + 4 < L) (hI : Inv N mem) (kk : ∀ m2, Inv (N + 1) m2 → LG l G L xs 1657 (lwL ((5 * N : Nat) : Int)) [] (am_P G m2) (127 + N + 1) (4006 + 6 * N + 6)) : LG l G L xs 528 (lwL ((5 * N : Nat) : Int)) [] (am_P G mem) (127 + N) (4006 + 6 * N) := by
  obtain ⟨v, Mid, hc, hm⟩ := p_comes (l := l) (G := G) (xs (5 * N + 1)).toInt N mem (by omega) hI
  refine gn_aload_n (x := 0) (q := 529) dL_law_528 rfl rfl ?_
  refine lw_arg (n := 5 * N) (j := 1) (q := 535) dL_law_529 dL_law_530 dL_law_532 dL_law_533 dL_law_534 (by decide) (by omega) hL rfl ?_
  refine gn_callV (b := 0) (as := [.inl (xs (5 * N + 1)).toInt]) (rest := []) (q := 538) dL_law_535 ml_L_68 sm_X8_comes rfl rfl (by decide) (by decide) rfl rfl (Nat.le_of_ble_eq_true rfl) rfl (by omega) (by omega) hc ?_
  intro r1 m1 hq1
  obtain ⟨rfl, hMid⟩ := hq1
  show LG l G L xs 538 (lwL ((5 * N : Nat) : Int)) [.inl v] (am_P G m1) (127 + N) (4006 + 6 * N)
  refine gn_aload_n (x := 95) (q := 539) dL_law_538 rfl rfl ?_
  refine lw_arg (n := 5 * N) (j := 1) (q := 545) dL_law_539 dL_law_540 dL_law_542 dL_law_543 dL_law_544 (by decide) (by omega) hL rfl ?_
  refine gn_callV (b := 95) (as := [.inl (xs (5 * N + 1)).toInt]) (rest := [.inl v]) (q := 548) dL_law_545 ml_L_71 sm_X9_comes rfl rfl (by decide) (by decide) rfl rfl (Nat.le_of_ble_eq_true rfl) rfl (by omega) (by omega) (hm m1 hMid) ?_
  intro r2 m2 hq2
  obtain ⟨rfl, hI2⟩ := hq2
  show LG l G L xs 548 (lwL ((5 * N : Nat) : Int)) [.inl v, .inl v] (am_P G m2) (127 + N) (4006 + 6 * N)
  exact gn_cmpeq (t := 1657) (q := 551) dL_law_548 rfl rfl (fun _ => gn_wide (by omega) (by omega) (kk m2 hI2)) (fun h => absurd rfl h)
theorem lw_c10 (hL : L ≤ 2560) (hn : 5 * N + 4 < L) (hI : Inv N mem) (kk : ∀ m2, Inv (N + 1) m2 → LG l G L xs 1657 (lwL ((5 * N : Nat) : Int)) [] (am_P G m2) (127 + N + 1) (4006 + 6 * N + 6)) : LG l G L xs 553 (lwL ((5 * N : Nat) : Int)) [] (am_P G mem) (127 + N) (4006 + 6 * N) := by
  obtain ⟨v, Mid, hc, hm⟩ := p_hum (l := l) (G := G) (xs (5 * N + 1)).toInt (xs (5 * N + 2)).toInt N mem (by omega) hI
  refine gn_aload_n (x := 0) (q := 554) dL_law_553 rfl rfl ?_
  refine lw_arg (n := 5 * N) (j := 1) (q := 560) dL_law_554 dL_law_555 dL_law_557 dL_law_558 dL_law_559 (by decide) (by omega) hL rfl ?_
  refine lw_arg (n := 5 * N) (j := 2) (q := 566) dL_law_560 dL_law_561 dL_law_563 dL_law_564 dL_law_565 (by decide) (by omega) hL rfl ?_
  refine gn_callV (b := 0) (as := [.inl (xs (5 * N + 1)).toInt, .inl (xs (5 * N + 2)).toInt]) (rest := []) (q := 569) dL_law_566 ml_L_72 sm_X8_hum rfl rfl (by decide) (by decide) rfl rfl (Nat.le_of_ble_eq_true rfl) rfl (by omega) (by omega) hc ?_
  intro r1 m1 hq1
  obtain ⟨rfl, hMid⟩ := hq1
  show LG l G L xs 569 (lwL ((5 * N : Nat) : Int)) [.inl v] (am_P G m1) (127 + N) (4006 + 6 * N)
  refine gn_aload_n (x := 95) (q := 570) dL_law_569 rfl rfl ?_
  refine lw_arg (n := 5 * N) (j := 1) (q := 576) dL_law_570 dL_law_571 dL_law_573 dL_law_574 dL_law_575 (by decide) (by omega) hL rfl ?_
  refine lw_arg (n := 5 * N) (j := 2) (q := 582) dL_law_576 dL_law_577 dL_law_579 dL_law_580 dL_law_581 (by decide) (by omega) hL rfl ?_
  refine gn_callV (b := 95) (as := [.inl (xs (5 * N + 1)).toInt, .inl (xs (5 * N + 2)).toInt]) (rest := [.inl v]) (q := 585) dL_law_582 ml_L_75 sm_X9_hum rfl rfl (by decide) (by decide) rfl rfl (Nat.le_of_ble_eq_true rfl) rfl (by omega) (by omega) (hm m1 hMid) ?_
  intro r2 m2 hq2
  obtain ⟨rfl, hI2⟩ := hq2
  show LG l G L xs 585 (lwL ((5 * N : Nat) : Int)) [.inl v, .inl v] (am_P G m2) (127 + N) (4006 + 6 * N)
  exact gn_cmpeq (t := 1657) (q := 588) dL_law_585 rfl rfl (fun _ => gn_wide (by omega) (by omega) (kk m2 hI2)) (fun h => absurd rfl h)
theorem lw_c11 (hL : L ≤ 2560) (hn : 5 * N + 4 < L) (hI : Inv N mem) (kk : ∀ m2, Inv (N + 1) m2 → LG l G L xs 1657 (lwL ((5 * N : Nat) : Int)) [] (am_P G m2) (127 + N + 1) (4006 + 6 * N + 6)) : LG l G L xs 590 (lwL ((5 * N : Nat) : Int)) [] (am_P G mem) (127 + N) (4006 + 6 * N) := by
  obtain ⟨v, Mid, hc, hm⟩ := p_stake (l := l) (G := G) (xs (5 * N + 1)).toInt N mem (by omega) hI
  refine gn_aload_n (x := 0) (q := 591) dL_law_590 rfl rfl ?_
  refine lw_arg (n := 5 * N) (j := 1) (q := 597) dL_law_591 dL_law_592 dL_law_594 dL_law_595 dL_law_596 (by decide) (by omega) hL rfl ?_
  refine gn_callV (b := 0) (as := [.inl (xs (5 * N + 1)).toInt]) (rest := []) (q := 600) dL_law_597 ml_L_76 sm_X8_stake rfl rfl (by decide) (by decide) rfl rfl (Nat.le_of_ble_eq_true rfl) rfl (by omega) (by omega) hc ?_
  intro r1 m1 hq1
  obtain ⟨rfl, hMid⟩ := hq1
  show LG l G L xs 600 (lwL ((5 * N : Nat) : Int)) [.inl v] (am_P G m1) (127 + N) (4006 + 6 * N)
  refine gn_aload_n (x := 95) (q := 601) dL_law_600 rfl rfl ?_
  refine lw_arg (n := 5 * N) (j := 1) (q := 607) dL_law_601 dL_law_602 dL_law_604 dL_law_605 dL_law_606 (by decide) (by omega) hL rfl ?_
  refine gn_callV (b := 95) (as := [.inl (xs (5 * N + 1)).toInt]) (rest := [.inl v]) (q := 610) dL_law_607 ml_L_79 sm_X9_stake rfl rfl (by decide) (by decide) rfl rfl (Nat.le_of_ble_eq_true rfl) rfl (by omega) (by omega) (hm m1 hMid) ?_
  intro r2 m2 hq2
  obtain ⟨rfl, hI2⟩ := hq2
  show LG l G L xs 610 (lwL ((5 * N : Nat) : Int)) [.inl v, .inl v] (am_P G m2) (127 + N) (4006 + 6 * N)
  exact gn_cmpeq (t := 1657) (q := 613) dL_law_610 rfl rfl (fun _ => gn_wide (by omega) (by omega) (kk m2 hI2)) (fun h => absurd rfl h)
theorem lw_c12 (hL : L ≤ 2560) (hn : 5 * N + 4 < L) (hI : Inv N mem) (kk : ∀ m2, Inv (N + 1) m2 → LG l G L xs 1657 (lwL ((5 * N : Nat) : Int)) [] (am_P G m2) (127 + N + 1) (4006 + 6 * N + 6)) : LG l G L xs 615 (lwL ((5 * N : Nat) : Int)) [] (am_P G mem) (127 + N) (4006 + 6 * N) := by
  obtain ⟨v, Mid, hc, hm⟩ := p_gain (l := l) (G := G) (xs (5 * N + 1)).toInt N mem (by omega) hI
  refine gn_aload_n (x := 0) (q := 616) dL_law_615 rfl rfl ?_
  refine lw_arg (n := 5 * N) (j := 1) (q := 622) dL_law_616 dL_law_617 dL_law_619 dL_law_620 dL_law_621 (by decide) (by omega) hL rfl ?_
  refine gn_callV (b := 0) (as := [.inl (xs (5 * N + 1)).toInt]) (rest := []) (q := 625) dL_law_622 ml_L_80 sm_X8_gain rfl rfl (by decide) (by decide) rfl rfl (Nat.le_of_ble_eq_true rfl) rfl (by omega) (by omega) hc ?_
  intro r1 m1 hq1
  obtain ⟨rfl, hMid⟩ := hq1
  show LG l G L xs 625 (lwL ((5 * N : Nat) : Int)) [.inl v] (am_P G m1) (127 + N) (4006 + 6 * N)
  refine gn_aload_n (x := 95) (q := 626) dL_law_625 rfl rfl ?_
  refine lw_arg (n := 5 * N) (j := 1) (q := 632) dL_law_626 dL_law_627 dL_law_629 dL_law_630 dL_law_631 (by decide) (by omega) hL rfl ?_
  refine gn_callV (b := 95) (as := [.inl (xs (5 * N + 1)).toInt]) (rest := [.inl v]) (q := 635) dL_law_632 ml_L_83 sm_X9_gain rfl rfl (by decide) (by decide) rfl rfl (Nat.le_of_ble_eq_true rfl) rfl (by omega) (by omega) (hm m1 hMid) ?_
  intro r2 m2 hq2
  obtain ⟨rfl, hI2⟩ := hq2
  show LG l G L xs 635 (lwL ((5 * N : Nat) : Int)) [.inl v, .inl v] (am_P G m2) (127 + N) (4006 + 6 * N)
  exact gn_cmpeq (t := 1657) (q := 638) dL_law_635 rfl rfl (fun _ => gn_wide (by omega) (by omega) (kk m2 hI2)) (fun h => absurd rfl h)
theorem lw_c13 (hL : L ≤ 2560) (hn : 5 * N + 4 < L) (hI : Inv N mem) (kk : ∀ m2, Inv (N + 1) m2 → LG l G L xs 1657 (lwL ((5 * N : Nat) : Int)) [] (am_P G m2) (127 + N + 1) (4006 + 6 * N + 6)) : LG l G L xs 640 (lwL ((5 * N : Nat) : Int)) [] (am_P G mem) (127 + N) (4006 + 6 * N) := by
  obtain ⟨v, Mid, hc, hm⟩ := p_advance (l := l) (G := G) (xs (5 * N + 1)).toInt N mem (by omega) hI
  refine gn_aload_n (x := 0) (q := 641) dL_law_640 rfl rfl ?_
  refine lw_arg (n := 5 * N) (j := 1) (q := 647) dL_law_641 dL_law_642 dL_law_644 dL_law_645 dL_law_646 (by decide) (by omega) hL rfl ?_
  refine gn_callV (b := 0) (as := [.inl (xs (5 * N + 1)).toInt]) (rest := []) (q := 650) dL_law_647 ml_L_84 sm_X8_advance rfl rfl (by decide) (by decide) rfl rfl (Nat.le_of_ble_eq_true rfl) rfl (by omega) (by omega) hc ?_
  intro r1 m1 hq1
  obtain ⟨rfl, hMid⟩ := hq1
  show LG l G L xs 650 (lwL ((5 * N : Nat) : Int)) [.inl v] (am_P G m1) (127 + N) (4006 + 6 * N)
  refine gn_aload_n (x := 95) (q := 651) dL_law_650 rfl rfl ?_
  refine lw_arg (n := 5 * N) (j := 1) (q := 657) dL_law_651 dL_law_652 dL_law_654 dL_law_655 dL_law_656 (by decide) (by omega) hL rfl ?_
  refine gn_callV (b := 95) (as := [.inl (xs (5 * N + 1)).toInt]) (rest := [.inl v]) (q := 660) dL_law_657 ml_L_87 sm_X9_advance rfl rfl (by decide) (by decide) rfl rfl (Nat.le_of_ble_eq_true rfl) rfl (by omega) (by omega) (hm m1 hMid) ?_
  intro r2 m2 hq2
  obtain ⟨rfl, hI2⟩ := hq2
  show LG l G L xs 660 (lwL ((5 * N : Nat) : Int)) [.inl v, .inl v] (am_P G m2) (127 + N) (4006 + 6 * N)
  exact gn_cmpeq (t := 1657) (q := 663) dL_law_660 rfl rfl (fun _ => gn_wide (by omega) (by omega) (kk m2 hI2)) (fun h => absurd rfl h)
theorem lw_c14 (hL : L ≤ 2560) (hn : 5 * N + 4 < L) (hI : Inv N mem) (kk : ∀ m2, Inv (N + 1) m2 → LG l G L xs 1657 (lwL ((5 * N : Nat) : Int)) [] (am_P G m2) (127 + N + 1) (4006 + 6 * N + 6)) : LG l G L xs 665 (lwL ((5 * N : Nat) : Int)) [] (am_P G mem) (127 + N) (4006 + 6 * N) := by
  obtain ⟨v, Mid, hc, hm⟩ := p_spring (l := l) (G := G)  N mem (by omega) hI
  refine gn_aload_n (x := 0) (q := 666) dL_law_665 rfl rfl ?_
  refine gn_callV (b := 0) (as := []) (rest := []) (q := 669) dL_law_666 ml_L_88 sm_X8_spring rfl rfl (by decide) (by decide) rfl rfl (Nat.le_of_ble_eq_true rfl) rfl (by omega) (by omega) hc ?_
  intro r1 m1 hq1
  obtain ⟨rfl, hMid⟩ := hq1
  show LG l G L xs 669 (lwL ((5 * N : Nat) : Int)) [.inl v] (am_P G m1) (127 + N) (4006 + 6 * N)
  refine gn_aload_n (x := 95) (q := 670) dL_law_669 rfl rfl ?_
  refine gn_callV (b := 95) (as := []) (rest := [.inl v]) (q := 673) dL_law_670 ml_L_91 sm_X9_spring rfl rfl (by decide) (by decide) rfl rfl (Nat.le_of_ble_eq_true rfl) rfl (by omega) (by omega) (hm m1 hMid) ?_
  intro r2 m2 hq2
  obtain ⟨rfl, hI2⟩ := hq2
  show LG l G L xs 673 (lwL ((5 * N : Nat) : Int)) [.inl v, .inl v] (am_P G m2) (127 + N) (4006 + 6 * N)
  exact gn_cmpeq (t := 1657) (q := 676) dL_law_673 rfl rfl (fun _ => gn_wide (by omega) (by omega) (kk m2 hI2)) (fun h => absurd rfl h)
theorem lw_c15 (hL : L ≤ 2560) (hn : 5 * N + 4 < L) (hI : Inv N mem) (kk : ∀ m2, Inv (N + 1) m2 → LG l G L xs 1657 (lwL ((5 * N : Nat) : Int)) [] (am_P G m2) (127 + N + 1) (4006 + 6 * N + 6)) : LG l G L xs 678 (lwL ((5 * N : Nat) : Int)) [] (am_P G mem) (127 + N) (4006 + 6 * N) := by
  obtain ⟨v, Mid, hc, hm⟩ := p_undo (l := l) (G := G)  N mem (by omega) hI
  refine gn_aload_n (x := 0) (q := 679) dL_law_678 rfl rfl ?_
  refine gn_callV (b := 0) (as := []) (rest := []) (q := 682) dL_law_679 ml_L_92 sm_X8_undo rfl rfl (by decide) (by decide) rfl rfl (Nat.le_of_ble_eq_true rfl) rfl (by omega) (by omega) hc ?_
  intro r1 m1 hq1
  obtain ⟨rfl, hMid⟩ := hq1
  show LG l G L xs 682 (lwL ((5 * N : Nat) : Int)) [.inl v] (am_P G m1) (127 + N) (4006 + 6 * N)
  refine gn_aload_n (x := 95) (q := 683) dL_law_682 rfl rfl ?_
  refine gn_callV (b := 95) (as := []) (rest := [.inl v]) (q := 686) dL_law_683 ml_L_95 sm_X9_undo rfl rfl (by decide) (by decide) rfl rfl (Nat.le_of_ble_eq_true rfl) rfl (by omega) (by omega) (hm m1 hMid) ?_
  intro r2 m2 hq2
  obtain ⟨rfl, hI2⟩ := hq2
  show LG l G L xs 686 (lwL ((5 * N : Nat) : Int)) [.inl v, .inl v] (am_P G m2) (127 + N) (4006 + 6 * N)
  exact gn_cmpeq (t := 1657) (q := 689) dL_law_686 rfl rfl (fun _ => gn_wide (by omega) (by omega) (kk m2 hI2)) (fun h => absurd rfl h)
theorem lw_c16 (hL : L ≤ 2560) (hn : 5 * N + 4 < L) (hI : Inv N mem) (kk : ∀ m2, Inv (N + 1) m2 → LG l G L xs 1657 (lwL ((5 * N : Nat) : Int)) [] (am_P G m2) (127 + N + 1) (4006 + 6 * N + 6)) : LG l G L xs 691 (lwL ((5 * N : Nat) : Int)) [] (am_P G mem) (127 + N) (4006 + 6 * N) := by
  obtain ⟨v, Mid, hc, hm⟩ := p_tonight (l := l) (G := G)  N mem (by omega) hI
  refine gn_aload_n (x := 0) (q := 692) dL_law_691 rfl rfl ?_
  refine gn_callV (b := 0) (as := []) (rest := []) (q := 695) dL_law_692 ml_L_96 sm_X8_tonight rfl rfl (by decide) (by decide) rfl rfl (Nat.le_of_ble_eq_true rfl) rfl (by omega) (by omega) hc ?_
  intro r1 m1 hq1
  obtain ⟨rfl, hMid⟩ := hq1
  show LG l G L xs 695 (lwL ((5 * N : Nat) : Int)) [.inl v] (am_P G m1) (127 + N) (4006 + 6 * N)
  refine gn_aload_n (x := 95) (q := 696) dL_law_695 rfl rfl ?_
  refine gn_callV (b := 95) (as := []) (rest := [.inl v]) (q := 699) dL_law_696 ml_L_99 sm_X9_tonight rfl rfl (by decide) (by decide) rfl rfl (Nat.le_of_ble_eq_true rfl) rfl (by omega) (by omega) (hm m1 hMid) ?_
  intro r2 m2 hq2
  obtain ⟨rfl, hI2⟩ := hq2
  show LG l G L xs 699 (lwL ((5 * N : Nat) : Int)) [.inl v, .inl v] (am_P G m2) (127 + N) (4006 + 6 * N)
  exact gn_cmpeq (t := 1657) (q := 702) dL_law_699 rfl rfl (fun _ => gn_wide (by omega) (by omega) (kk m2 hI2)) (fun h => absurd rfl h)
theorem lw_c17 (hL : L ≤ 2560) (hn : 5 * N + 4 < L) (hI : Inv N mem) (kk : ∀ m2, Inv (N + 1) m2 → LG l G L xs 1657 (lwL ((5 * N : Nat) : Int)) [] (am_P G m2) (127 + N + 1) (4006 + 6 * N + 6)) : LG l G L xs 704 (lwL ((5 * N : Nat) : Int)) [] (am_P G mem) (127 + N) (4006 + 6 * N) := by
  obtain ⟨v, Mid, hc, hm⟩ := p_later (l := l) (G := G) (xs (5 * N + 1)).toInt N mem (by omega) hI
  refine gn_aload_n (x := 0) (q := 705) dL_law_704 rfl rfl ?_
  refine lw_arg (n := 5 * N) (j := 1) (q := 711) dL_law_705 dL_law_706 dL_law_708 dL_law_709 dL_law_710 (by decide) (by omega) hL rfl ?_
  refine gn_callV (b := 0) (as := [.inl (xs (5 * N + 1)).toInt]) (rest := []) (q := 714) dL_law_711 ml_L_100 sm_X8_later rfl rfl (by decide) (by decide) rfl rfl (Nat.le_of_ble_eq_true rfl) rfl (by omega) (by omega) hc ?_
  intro r1 m1 hq1
  obtain ⟨rfl, hMid⟩ := hq1
  show LG l G L xs 714 (lwL ((5 * N : Nat) : Int)) [.inl v] (am_P G m1) (127 + N) (4006 + 6 * N)
  refine gn_aload_n (x := 95) (q := 715) dL_law_714 rfl rfl ?_
  refine lw_arg (n := 5 * N) (j := 1) (q := 721) dL_law_715 dL_law_716 dL_law_718 dL_law_719 dL_law_720 (by decide) (by omega) hL rfl ?_
  refine gn_callV (b := 95) (as := [.inl (xs (5 * N + 1)).toInt]) (rest := [.inl v]) (q := 724) dL_law_721 ml_L_103 sm_X9_later rfl rfl (by decide) (by decide) rfl rfl (Nat.le_of_ble_eq_true rfl) rfl (by omega) (by omega) (hm m1 hMid) ?_
  intro r2 m2 hq2
  obtain ⟨rfl, hI2⟩ := hq2
  show LG l G L xs 724 (lwL ((5 * N : Nat) : Int)) [.inl v, .inl v] (am_P G m2) (127 + N) (4006 + 6 * N)
  exact gn_cmpeq (t := 1657) (q := 727) dL_law_724 rfl rfl (fun _ => gn_wide (by omega) (by omega) (kk m2 hI2)) (fun h => absurd rfl h)
theorem lw_c18 (hL : L ≤ 2560) (hn : 5 * N + 4 < L) (hI : Inv N mem) (kk : ∀ m2, Inv (N + 1) m2 → LG l G L xs 1657 (lwL ((5 * N : Nat) : Int)) [] (am_P G m2) (127 + N + 1) (4006 + 6 * N + 6)) : LG l G L xs 729 (lwL ((5 * N : Nat) : Int)) [] (am_P G mem) (127 + N) (4006 + 6 * N) := by
  obtain ⟨v, Mid, hc, hm⟩ := p_enough (l := l) (G := G) (xs (5 * N + 1)).toInt N mem (by omega) hI
  refine gn_aload_n (x := 0) (q := 730) dL_law_729 rfl rfl ?_
  refine lw_arg (n := 5 * N) (j := 1) (q := 736) dL_law_730 dL_law_731 dL_law_733 dL_law_734 dL_law_735 (by decide) (by omega) hL rfl ?_
  refine gn_callV (b := 0) (as := [.inl (xs (5 * N + 1)).toInt]) (rest := []) (q := 739) dL_law_736 ml_L_104 sm_X8_enough rfl rfl (by decide) (by decide) rfl rfl (Nat.le_of_ble_eq_true rfl) rfl (by omega) (by omega) hc ?_
  intro r1 m1 hq1
  obtain ⟨rfl, hMid⟩ := hq1
  show LG l G L xs 739 (lwL ((5 * N : Nat) : Int)) [.inl v] (am_P G m1) (127 + N) (4006 + 6 * N)
  refine gn_aload_n (x := 95) (q := 740) dL_law_739 rfl rfl ?_
  refine lw_arg (n := 5 * N) (j := 1) (q := 746) dL_law_740 dL_law_741 dL_law_743 dL_law_744 dL_law_745 (by decide) (by omega) hL rfl ?_
  refine gn_callV (b := 95) (as := [.inl (xs (5 * N + 1)).toInt]) (rest := [.inl v]) (q := 749) dL_law_746 ml_L_107 sm_X9_enough rfl rfl (by decide) (by decide) rfl rfl (Nat.le_of_ble_eq_true rfl) rfl (by omega) (by omega) (hm m1 hMid) ?_
  intro r2 m2 hq2
  obtain ⟨rfl, hI2⟩ := hq2
  show LG l G L xs 749 (lwL ((5 * N : Nat) : Int)) [.inl v, .inl v] (am_P G m2) (127 + N) (4006 + 6 * N)
  exact gn_cmpeq (t := 1657) (q := 752) dL_law_749 rfl rfl (fun _ => gn_wide (by omega) (by omega) (kk m2 hI2)) (fun h => absurd rfl h)
theorem lw_c19 (hL : L ≤ 2560) (hn : 5 * N + 4 < L) (hI : Inv N mem) (kk : ∀ m2, Inv (N + 1) m2 → LG l G L xs 1657 (lwL ((5 * N : Nat) : Int)) [] (am_P G m2) (127 + N + 1) (4006 + 6 * N + 6)) : LG l G L xs 754 (lwL ((5 * N : Nat) : Int)) [] (am_P G mem) (127 + N) (4006 + 6 * N) := by
  obtain ⟨v, Mid, hc, hm⟩ := p_drains (l := l) (G := G)  N mem (by omega) hI
  refine gn_aload_n (x := 0) (q := 755) dL_law_754 rfl rfl ?_
  refine gn_callV (b := 0) (as := []) (rest := []) (q := 758) dL_law_755 ml_L_108 sm_X8_drains rfl rfl (by decide) (by decide) rfl rfl (Nat.le_of_ble_eq_true rfl) rfl (by omega) (by omega) hc ?_
  intro r1 m1 hq1
  obtain ⟨rfl, hMid⟩ := hq1
  show LG l G L xs 758 (lwL ((5 * N : Nat) : Int)) [.inl v] (am_P G m1) (127 + N) (4006 + 6 * N)
  refine gn_aload_n (x := 95) (q := 759) dL_law_758 rfl rfl ?_
  refine gn_callV (b := 95) (as := []) (rest := [.inl v]) (q := 762) dL_law_759 ml_L_111 sm_X9_drains rfl rfl (by decide) (by decide) rfl rfl (Nat.le_of_ble_eq_true rfl) rfl (by omega) (by omega) (hm m1 hMid) ?_
  intro r2 m2 hq2
  obtain ⟨rfl, hI2⟩ := hq2
  show LG l G L xs 762 (lwL ((5 * N : Nat) : Int)) [.inl v, .inl v] (am_P G m2) (127 + N) (4006 + 6 * N)
  exact gn_cmpeq (t := 1657) (q := 765) dL_law_762 rfl rfl (fun _ => gn_wide (by omega) (by omega) (kk m2 hI2)) (fun h => absurd rfl h)
theorem lw_c20 (hL : L ≤ 2560) (hn : 5 * N + 4 < L) (hI : Inv N mem) (kk : ∀ m2, Inv (N + 1) m2 → LG l G L xs 1657 (lwL ((5 * N : Nat) : Int)) [] (am_P G m2) (127 + N + 1) (4006 + 6 * N + 6)) : LG l G L xs 767 (lwL ((5 * N : Nat) : Int)) [] (am_P G mem) (127 + N) (4006 + 6 * N) := by
  obtain ⟨v, Mid, hc, hm⟩ := p_hears (l := l) (G := G) (xs (5 * N + 1)).toInt (xs (5 * N + 2)).toInt N mem (by omega) hI
  refine gn_aload_n (x := 0) (q := 768) dL_law_767 rfl rfl ?_
  refine lw_arg (n := 5 * N) (j := 1) (q := 774) dL_law_768 dL_law_769 dL_law_771 dL_law_772 dL_law_773 (by decide) (by omega) hL rfl ?_
  refine lw_arg (n := 5 * N) (j := 2) (q := 780) dL_law_774 dL_law_775 dL_law_777 dL_law_778 dL_law_779 (by decide) (by omega) hL rfl ?_
  refine gn_callV (b := 0) (as := [.inl (xs (5 * N + 1)).toInt, .inl (xs (5 * N + 2)).toInt]) (rest := []) (q := 783) dL_law_780 ml_L_112 sm_X8_hears rfl rfl (by decide) (by decide) rfl rfl (Nat.le_of_ble_eq_true rfl) rfl (by omega) (by omega) hc ?_
  intro r1 m1 hq1
  obtain ⟨rfl, hMid⟩ := hq1
  show LG l G L xs 783 (lwL ((5 * N : Nat) : Int)) [.inl v] (am_P G m1) (127 + N) (4006 + 6 * N)
  refine gn_aload_n (x := 95) (q := 784) dL_law_783 rfl rfl ?_
  refine lw_arg (n := 5 * N) (j := 1) (q := 790) dL_law_784 dL_law_785 dL_law_787 dL_law_788 dL_law_789 (by decide) (by omega) hL rfl ?_
  refine lw_arg (n := 5 * N) (j := 2) (q := 796) dL_law_790 dL_law_791 dL_law_793 dL_law_794 dL_law_795 (by decide) (by omega) hL rfl ?_
  refine gn_callV (b := 95) (as := [.inl (xs (5 * N + 1)).toInt, .inl (xs (5 * N + 2)).toInt]) (rest := [.inl v]) (q := 799) dL_law_796 ml_L_115 sm_X9_hears rfl rfl (by decide) (by decide) rfl rfl (Nat.le_of_ble_eq_true rfl) rfl (by omega) (by omega) (hm m1 hMid) ?_
  intro r2 m2 hq2
  obtain ⟨rfl, hI2⟩ := hq2
  show LG l G L xs 799 (lwL ((5 * N : Nat) : Int)) [.inl v, .inl v] (am_P G m2) (127 + N) (4006 + 6 * N)
  exact gn_cmpeq (t := 1657) (q := 802) dL_law_799 rfl rfl (fun _ => gn_wide (by omega) (by omega) (kk m2 hI2)) (fun h => absurd rfl h)
theorem lw_c21 (hL : L ≤ 2560) (hn : 5 * N + 4 < L) (hI : Inv N mem) (kk : ∀ m2, Inv (N + 1) m2 → LG l G L xs 1657 (lwL ((5 * N : Nat) : Int)) [] (am_P G m2) (127 + N + 1) (4006 + 6 * N + 6)) : LG l G L xs 804 (lwL ((5 * N : Nat) : Int)) [] (am_P G mem) (127 + N) (4006 + 6 * N) := by
  obtain ⟨v, Mid, hc, hm⟩ := p_quiet (l := l) (G := G) (xs (5 * N + 1)).toInt N mem (by omega) hI
  refine gn_aload_n (x := 0) (q := 805) dL_law_804 rfl rfl ?_
  refine lw_arg (n := 5 * N) (j := 1) (q := 811) dL_law_805 dL_law_806 dL_law_808 dL_law_809 dL_law_810 (by decide) (by omega) hL rfl ?_
  refine gn_callV (b := 0) (as := [.inl (xs (5 * N + 1)).toInt]) (rest := []) (q := 814) dL_law_811 ml_L_116 sm_X8_quiet rfl rfl (by decide) (by decide) rfl rfl (Nat.le_of_ble_eq_true rfl) rfl (by omega) (by omega) hc ?_
  intro r1 m1 hq1
  obtain ⟨rfl, hMid⟩ := hq1
  show LG l G L xs 814 (lwL ((5 * N : Nat) : Int)) [.inl v] (am_P G m1) (127 + N) (4006 + 6 * N)
  refine gn_aload_n (x := 95) (q := 815) dL_law_814 rfl rfl ?_
  refine lw_arg (n := 5 * N) (j := 1) (q := 821) dL_law_815 dL_law_816 dL_law_818 dL_law_819 dL_law_820 (by decide) (by omega) hL rfl ?_
  refine gn_callV (b := 95) (as := [.inl (xs (5 * N + 1)).toInt]) (rest := [.inl v]) (q := 824) dL_law_821 ml_L_119 sm_X9_quiet rfl rfl (by decide) (by decide) rfl rfl (Nat.le_of_ble_eq_true rfl) rfl (by omega) (by omega) (hm m1 hMid) ?_
  intro r2 m2 hq2
  obtain ⟨rfl, hI2⟩ := hq2
  show LG l G L xs 824 (lwL ((5 * N : Nat) : Int)) [.inl v, .inl v] (am_P G m2) (127 + N) (4006 + 6 * N)
  exact gn_cmpeq (t := 1657) (q := 827) dL_law_824 rfl rfl (fun _ => gn_wide (by omega) (by omega) (kk m2 hI2)) (fun h => absurd rfl h)
theorem lw_c22 (hL : L ≤ 2560) (hn : 5 * N + 4 < L) (hI : Inv N mem) (kk : ∀ m2, Inv (N + 1) m2 → LG l G L xs 1657 (lwL ((5 * N : Nat) : Int)) [] (am_P G m2) (127 + N + 1) (4006 + 6 * N + 6)) : LG l G L xs 829 (lwL ((5 * N : Nat) : Int)) [] (am_P G mem) (127 + N) (4006 + 6 * N) := by
  obtain ⟨v, Mid, hc, hm⟩ := p_admits (l := l) (G := G) (xs (5 * N + 1)).toInt N mem (by omega) hI
  refine gn_aload_n (x := 0) (q := 830) dL_law_829 rfl rfl ?_
  refine lw_arg (n := 5 * N) (j := 1) (q := 836) dL_law_830 dL_law_831 dL_law_833 dL_law_834 dL_law_835 (by decide) (by omega) hL rfl ?_
  refine gn_callV (b := 0) (as := [.inl (xs (5 * N + 1)).toInt]) (rest := []) (q := 839) dL_law_836 ml_L_120 sm_X8_admits rfl rfl (by decide) (by decide) rfl rfl (Nat.le_of_ble_eq_true rfl) rfl (by omega) (by omega) hc ?_
  intro r1 m1 hq1
  obtain ⟨rfl, hMid⟩ := hq1
  show LG l G L xs 839 (lwL ((5 * N : Nat) : Int)) [.inl v] (am_P G m1) (127 + N) (4006 + 6 * N)
  refine gn_aload_n (x := 95) (q := 840) dL_law_839 rfl rfl ?_
  refine lw_arg (n := 5 * N) (j := 1) (q := 846) dL_law_840 dL_law_841 dL_law_843 dL_law_844 dL_law_845 (by decide) (by omega) hL rfl ?_
  refine gn_callV (b := 95) (as := [.inl (xs (5 * N + 1)).toInt]) (rest := [.inl v]) (q := 849) dL_law_846 ml_L_123 sm_X9_admits rfl rfl (by decide) (by decide) rfl rfl (Nat.le_of_ble_eq_true rfl) rfl (by omega) (by omega) (hm m1 hMid) ?_
  intro r2 m2 hq2
  obtain ⟨rfl, hI2⟩ := hq2
  show LG l G L xs 849 (lwL ((5 * N : Nat) : Int)) [.inl v, .inl v] (am_P G m2) (127 + N) (4006 + 6 * N)
  exact gn_cmpeq (t := 1657) (q := 852) dL_law_849 rfl rfl (fun _ => gn_wide (by omega) (by omega) (kk m2 hI2)) (fun h => absurd rfl h)
theorem lw_c23 (hL : L ≤ 2560) (hn : 5 * N + 4 < L) (hI : Inv N mem) (kk : ∀ m2, Inv (N + 1) m2 → LG l G L xs 1657 (lwL ((5 * N : Nat) : Int)) [] (am_P G m2) (127 + N + 1) (4006 + 6 * N + 6)) : LG l G L xs 854 (lwL ((5 * N : Nat) : Int)) [] (am_P G mem) (127 + N) (4006 + 6 * N) := by
  obtain ⟨v, Mid, hc, hm⟩ := p_plans (l := l) (G := G) (xs (5 * N + 1)).toInt N mem (by omega) hI
  refine gn_aload_n (x := 0) (q := 855) dL_law_854 rfl rfl ?_
  refine lw_arg (n := 5 * N) (j := 1) (q := 861) dL_law_855 dL_law_856 dL_law_858 dL_law_859 dL_law_860 (by decide) (by omega) hL rfl ?_
  refine gn_callV (b := 0) (as := [.inl (xs (5 * N + 1)).toInt]) (rest := []) (q := 864) dL_law_861 ml_L_124 sm_X8_plans rfl rfl (by decide) (by decide) rfl rfl (Nat.le_of_ble_eq_true rfl) rfl (by omega) (by omega) hc ?_
  intro r1 m1 hq1
  obtain ⟨rfl, hMid⟩ := hq1
  show LG l G L xs 864 (lwL ((5 * N : Nat) : Int)) [.inl v] (am_P G m1) (127 + N) (4006 + 6 * N)
  refine gn_aload_n (x := 95) (q := 865) dL_law_864 rfl rfl ?_
  refine lw_arg (n := 5 * N) (j := 1) (q := 871) dL_law_865 dL_law_866 dL_law_868 dL_law_869 dL_law_870 (by decide) (by omega) hL rfl ?_
  refine gn_callV (b := 95) (as := [.inl (xs (5 * N + 1)).toInt]) (rest := [.inl v]) (q := 874) dL_law_871 ml_L_127 sm_X9_plans rfl rfl (by decide) (by decide) rfl rfl (Nat.le_of_ble_eq_true rfl) rfl (by omega) (by omega) (hm m1 hMid) ?_
  intro r2 m2 hq2
  obtain ⟨rfl, hI2⟩ := hq2
  show LG l G L xs 874 (lwL ((5 * N : Nat) : Int)) [.inl v, .inl v] (am_P G m2) (127 + N) (4006 + 6 * N)
  exact gn_cmpeq (t := 1657) (q := 877) dL_law_874 rfl rfl (fun _ => gn_wide (by omega) (by omega) (kk m2 hI2)) (fun h => absurd rfl h)
theorem lw_c24 (hL : L ≤ 2560) (hn : 5 * N + 4 < L) (hI : Inv N mem) (kk : ∀ m2, Inv (N + 1) m2 → LG l G L xs 1657 (lwL ((5 * N : Nat) : Int)) [] (am_P G m2) (127 + N + 1) (4006 + 6 * N + 6)) : LG l G L xs 879 (lwL ((5 * N : Nat) : Int)) [] (am_P G mem) (127 + N) (4006 + 6 * N) := by
  obtain ⟨v, Mid, hc, hm⟩ := p_fills (l := l) (G := G)  N mem (by omega) hI
  refine gn_aload_n (x := 0) (q := 880) dL_law_879 rfl rfl ?_
  refine gn_callV (b := 0) (as := []) (rest := []) (q := 883) dL_law_880 ml_L_128 sm_X8_fills rfl rfl (by decide) (by decide) rfl rfl (Nat.le_of_ble_eq_true rfl) rfl (by omega) (by omega) hc ?_
  intro r1 m1 hq1
  obtain ⟨rfl, hMid⟩ := hq1
  show LG l G L xs 883 (lwL ((5 * N : Nat) : Int)) [.inl v] (am_P G m1) (127 + N) (4006 + 6 * N)
  refine gn_aload_n (x := 95) (q := 884) dL_law_883 rfl rfl ?_
  refine gn_callV (b := 95) (as := []) (rest := [.inl v]) (q := 887) dL_law_884 ml_L_131 sm_X9_fills rfl rfl (by decide) (by decide) rfl rfl (Nat.le_of_ble_eq_true rfl) rfl (by omega) (by omega) (hm m1 hMid) ?_
  intro r2 m2 hq2
  obtain ⟨rfl, hI2⟩ := hq2
  show LG l G L xs 887 (lwL ((5 * N : Nat) : Int)) [.inl v, .inl v] (am_P G m2) (127 + N) (4006 + 6 * N)
  exact gn_cmpeq (t := 1657) (q := 890) dL_law_887 rfl rfl (fun _ => gn_wide (by omega) (by omega) (kk m2 hI2)) (fun h => absurd rfl h)
theorem lw_c25 (hL : L ≤ 2560) (hn : 5 * N + 4 < L) (hI : Inv N mem) (kk : ∀ m2, Inv (N + 1) m2 → LG l G L xs 1657 (lwL ((5 * N : Nat) : Int)) [] (am_P G m2) (127 + N + 1) (4006 + 6 * N + 6)) : LG l G L xs 892 (lwL ((5 * N : Nat) : Int)) [] (am_P G mem) (127 + N) (4006 + 6 * N) := by
  obtain ⟨v, Mid, hc, hm⟩ := p_order (l := l) (G := G)  N mem (by omega) hI
  refine gn_aload_n (x := 0) (q := 893) dL_law_892 rfl rfl ?_
  refine gn_callV (b := 0) (as := []) (rest := []) (q := 896) dL_law_893 ml_L_132 sm_X8_order rfl rfl (by decide) (by decide) rfl rfl (Nat.le_of_ble_eq_true rfl) rfl (by omega) (by omega) hc ?_
  intro r1 m1 hq1
  obtain ⟨rfl, hMid⟩ := hq1
  show LG l G L xs 896 (lwL ((5 * N : Nat) : Int)) [.inl v] (am_P G m1) (127 + N) (4006 + 6 * N)
  refine gn_aload_n (x := 95) (q := 897) dL_law_896 rfl rfl ?_
  refine gn_callV (b := 95) (as := []) (rest := [.inl v]) (q := 900) dL_law_897 ml_L_135 sm_X9_order rfl rfl (by decide) (by decide) rfl rfl (Nat.le_of_ble_eq_true rfl) rfl (by omega) (by omega) (hm m1 hMid) ?_
  intro r2 m2 hq2
  obtain ⟨rfl, hI2⟩ := hq2
  show LG l G L xs 900 (lwL ((5 * N : Nat) : Int)) [.inl v, .inl v] (am_P G m2) (127 + N) (4006 + 6 * N)
  exact gn_cmpeq (t := 1657) (q := 903) dL_law_900 rfl rfl (fun _ => gn_wide (by omega) (by omega) (kk m2 hI2)) (fun h => absurd rfl h)
theorem lw_c26 (hL : L ≤ 2560) (hn : 5 * N + 4 < L) (hI : Inv N mem) (kk : ∀ m2, Inv (N + 1) m2 → LG l G L xs 1657 (lwL ((5 * N : Nat) : Int)) [] (am_P G m2) (127 + N + 1) (4006 + 6 * N + 6)) : LG l G L xs 905 (lwL ((5 * N : Nat) : Int)) [] (am_P G mem) (127 + N) (4006 + 6 * N) := by
  obtain ⟨v, Mid, hc, hm⟩ := p_raises (l := l) (G := G) (xs (5 * N + 1)).toInt N mem (by omega) hI
  refine gn_aload_n (x := 0) (q := 906) dL_law_905 rfl rfl ?_
  refine lw_arg (n := 5 * N) (j := 1) (q := 912) dL_law_906 dL_law_907 dL_law_909 dL_law_910 dL_law_911 (by decide) (by omega) hL rfl ?_
  refine gn_callV (b := 0) (as := [.inl (xs (5 * N + 1)).toInt]) (rest := []) (q := 915) dL_law_912 ml_L_136 sm_X8_raises rfl rfl (by decide) (by decide) rfl rfl (Nat.le_of_ble_eq_true rfl) rfl (by omega) (by omega) hc ?_
  intro r1 m1 hq1
  obtain ⟨rfl, hMid⟩ := hq1
  show LG l G L xs 915 (lwL ((5 * N : Nat) : Int)) [.inl v] (am_P G m1) (127 + N) (4006 + 6 * N)
  refine gn_aload_n (x := 95) (q := 916) dL_law_915 rfl rfl ?_
  refine lw_arg (n := 5 * N) (j := 1) (q := 922) dL_law_916 dL_law_917 dL_law_919 dL_law_920 dL_law_921 (by decide) (by omega) hL rfl ?_
  refine gn_callV (b := 95) (as := [.inl (xs (5 * N + 1)).toInt]) (rest := [.inl v]) (q := 925) dL_law_922 ml_L_139 sm_X9_raises rfl rfl (by decide) (by decide) rfl rfl (Nat.le_of_ble_eq_true rfl) rfl (by omega) (by omega) (hm m1 hMid) ?_
  intro r2 m2 hq2
  obtain ⟨rfl, hI2⟩ := hq2
  show LG l G L xs 925 (lwL ((5 * N : Nat) : Int)) [.inl v, .inl v] (am_P G m2) (127 + N) (4006 + 6 * N)
  exact gn_cmpeq (t := 1657) (q := 928) dL_law_925 rfl rfl (fun _ => gn_wide (by omega) (by omega) (kk m2 hI2)) (fun h => absurd rfl h)
theorem lw_c27 (hL : L ≤ 2560) (hn : 5 * N + 4 < L) (hI : Inv N mem) (kk : ∀ m2, Inv (N + 1) m2 → LG l G L xs 1657 (lwL ((5 * N : Nat) : Int)) [] (am_P G m2) (127 + N + 1) (4006 + 6 * N + 6)) : LG l G L xs 930 (lwL ((5 * N : Nat) : Int)) [] (am_P G mem) (127 + N) (4006 + 6 * N) := by
  obtain ⟨v, Mid, hc, hm⟩ := p_grows (l := l) (G := G) (xs (5 * N + 1)).toInt (xs (5 * N + 2)).toInt N mem (by omega) hI
  refine gn_aload_n (x := 0) (q := 931) dL_law_930 rfl rfl ?_
  refine lw_arg (n := 5 * N) (j := 1) (q := 937) dL_law_931 dL_law_932 dL_law_934 dL_law_935 dL_law_936 (by decide) (by omega) hL rfl ?_
  refine lw_arg (n := 5 * N) (j := 2) (q := 943) dL_law_937 dL_law_938 dL_law_940 dL_law_941 dL_law_942 (by decide) (by omega) hL rfl ?_
  refine gn_callV (b := 0) (as := [.inl (xs (5 * N + 1)).toInt, .inl (xs (5 * N + 2)).toInt]) (rest := []) (q := 946) dL_law_943 ml_L_140 sm_X8_grows rfl rfl (by decide) (by decide) rfl rfl (Nat.le_of_ble_eq_true rfl) rfl (by omega) (by omega) hc ?_
  intro r1 m1 hq1
  obtain ⟨rfl, hMid⟩ := hq1
  show LG l G L xs 946 (lwL ((5 * N : Nat) : Int)) [.inl v] (am_P G m1) (127 + N) (4006 + 6 * N)
  refine gn_aload_n (x := 95) (q := 947) dL_law_946 rfl rfl ?_
  refine lw_arg (n := 5 * N) (j := 1) (q := 953) dL_law_947 dL_law_948 dL_law_950 dL_law_951 dL_law_952 (by decide) (by omega) hL rfl ?_
  refine lw_arg (n := 5 * N) (j := 2) (q := 959) dL_law_953 dL_law_954 dL_law_956 dL_law_957 dL_law_958 (by decide) (by omega) hL rfl ?_
  refine gn_callV (b := 95) (as := [.inl (xs (5 * N + 1)).toInt, .inl (xs (5 * N + 2)).toInt]) (rest := [.inl v]) (q := 962) dL_law_959 ml_L_143 sm_X9_grows rfl rfl (by decide) (by decide) rfl rfl (Nat.le_of_ble_eq_true rfl) rfl (by omega) (by omega) (hm m1 hMid) ?_
  intro r2 m2 hq2
  obtain ⟨rfl, hI2⟩ := hq2
  show LG l G L xs 962 (lwL ((5 * N : Nat) : Int)) [.inl v, .inl v] (am_P G m2) (127 + N) (4006 + 6 * N)
  exact gn_cmpeq (t := 1657) (q := 965) dL_law_962 rfl rfl (fun _ => gn_wide (by omega) (by omega) (kk m2 hI2)) (fun h => absurd rfl h)
theorem lw_c28 (hL : L ≤ 2560) (hn : 5 * N + 4 < L) (hI : Inv N mem) (kk : ∀ m2, Inv (N + 1) m2 → LG l G L xs 1657 (lwL ((5 * N : Nat) : Int)) [] (am_P G m2) (127 + N + 1) (4006 + 6 * N + 6)) : LG l G L xs 967 (lwL ((5 * N : Nat) : Int)) [] (am_P G mem) (127 + N) (4006 + 6 * N) := by
  obtain ⟨v, Mid, hc, hm⟩ := p_adds (l := l) (G := G) (xs (5 * N + 1)).toInt N mem (by omega) hI
  refine gn_aload_n (x := 0) (q := 968) dL_law_967 rfl rfl ?_
  refine lw_arg (n := 5 * N) (j := 1) (q := 974) dL_law_968 dL_law_969 dL_law_971 dL_law_972 dL_law_973 (by decide) (by omega) hL rfl ?_
  refine gn_callV (b := 0) (as := [.inl (xs (5 * N + 1)).toInt]) (rest := []) (q := 977) dL_law_974 ml_L_144 sm_X8_adds rfl rfl (by decide) (by decide) rfl rfl (Nat.le_of_ble_eq_true rfl) rfl (by omega) (by omega) hc ?_
  intro r1 m1 hq1
  obtain ⟨rfl, hMid⟩ := hq1
  show LG l G L xs 977 (lwL ((5 * N : Nat) : Int)) [.inl v] (am_P G m1) (127 + N) (4006 + 6 * N)
  refine gn_aload_n (x := 95) (q := 978) dL_law_977 rfl rfl ?_
  refine lw_arg (n := 5 * N) (j := 1) (q := 984) dL_law_978 dL_law_979 dL_law_981 dL_law_982 dL_law_983 (by decide) (by omega) hL rfl ?_
  refine gn_callV (b := 95) (as := [.inl (xs (5 * N + 1)).toInt]) (rest := [.inl v]) (q := 987) dL_law_984 ml_L_147 sm_X9_adds rfl rfl (by decide) (by decide) rfl rfl (Nat.le_of_ble_eq_true rfl) rfl (by omega) (by omega) (hm m1 hMid) ?_
  intro r2 m2 hq2
  obtain ⟨rfl, hI2⟩ := hq2
  show LG l G L xs 987 (lwL ((5 * N : Nat) : Int)) [.inl v, .inl v] (am_P G m2) (127 + N) (4006 + 6 * N)
  exact gn_cmpeq (t := 1657) (q := 990) dL_law_987 rfl rfl (fun _ => gn_wide (by omega) (by omega) (kk m2 hI2)) (fun h => absurd rfl h)
theorem lw_c29 (hL : L ≤ 2560) (hn : 5 * N + 4 < L) (hI : Inv N mem) (kk : ∀ m2, Inv (N + 1) m2 → LG l G L xs 1657 (lwL ((5 * N : Nat) : Int)) [] (am_P G m2) (127 + N + 1) (4006 + 6 * N + 6)) : LG l G L xs 992 (lwL ((5 * N : Nat) : Int)) [] (am_P G mem) (127 + N) (4006 + 6 * N) := by
  obtain ⟨v, Mid, hc, hm⟩ := p_nearest (l := l) (G := G) (xs (5 * N + 1)).toInt N mem (by omega) hI
  refine gn_aload_n (x := 0) (q := 993) dL_law_992 rfl rfl ?_
  refine lw_arg (n := 5 * N) (j := 1) (q := 999) dL_law_993 dL_law_994 dL_law_996 dL_law_997 dL_law_998 (by decide) (by omega) hL rfl ?_
  refine gn_callV (b := 0) (as := [.inl (xs (5 * N + 1)).toInt]) (rest := []) (q := 1002) dL_law_999 ml_L_148 sm_X8_nearest rfl rfl (by decide) (by decide) rfl rfl (Nat.le_of_ble_eq_true rfl) rfl (by omega) (by omega) hc ?_
  intro r1 m1 hq1
  obtain ⟨rfl, hMid⟩ := hq1
  show LG l G L xs 1002 (lwL ((5 * N : Nat) : Int)) [.inl v] (am_P G m1) (127 + N) (4006 + 6 * N)
  refine gn_aload_n (x := 95) (q := 1003) dL_law_1002 rfl rfl ?_
  refine lw_arg (n := 5 * N) (j := 1) (q := 1009) dL_law_1003 dL_law_1004 dL_law_1006 dL_law_1007 dL_law_1008 (by decide) (by omega) hL rfl ?_
  refine gn_callV (b := 95) (as := [.inl (xs (5 * N + 1)).toInt]) (rest := [.inl v]) (q := 1012) dL_law_1009 ml_L_151 sm_X9_nearest rfl rfl (by decide) (by decide) rfl rfl (Nat.le_of_ble_eq_true rfl) rfl (by omega) (by omega) (hm m1 hMid) ?_
  intro r2 m2 hq2
  obtain ⟨rfl, hI2⟩ := hq2
  show LG l G L xs 1012 (lwL ((5 * N : Nat) : Int)) [.inl v, .inl v] (am_P G m2) (127 + N) (4006 + 6 * N)
  exact gn_cmpeq (t := 1657) (q := 1015) dL_law_1012 rfl rfl (fun _ => gn_wide (by omega) (by omega) (kk m2 hI2)) (fun h => absurd rfl h)
theorem lw_c30 (hL : L ≤ 2560) (hn : 5 * N + 4 < L) (hI : Inv N mem) (kk : ∀ m2, Inv (N + 1) m2 → LG l G L xs 1657 (lwL ((5 * N : Nat) : Int)) [] (am_P G m2) (127 + N + 1) (4006 + 6 * N + 6)) : LG l G L xs 1017 (lwL ((5 * N : Nat) : Int)) [] (am_P G mem) (127 + N) (4006 + 6 * N) := by
  obtain ⟨v, Mid, hc, hm⟩ := p_awards (l := l) (G := G) (xs (5 * N + 1)).toInt N mem (by omega) hI
  refine gn_aload_n (x := 0) (q := 1018) dL_law_1017 rfl rfl ?_
  refine lw_arg (n := 5 * N) (j := 1) (q := 1024) dL_law_1018 dL_law_1019 dL_law_1021 dL_law_1022 dL_law_1023 (by decide) (by omega) hL rfl ?_
  refine gn_callV (b := 0) (as := [.inl (xs (5 * N + 1)).toInt]) (rest := []) (q := 1027) dL_law_1024 ml_L_152 sm_X8_awards rfl rfl (by decide) (by decide) rfl rfl (Nat.le_of_ble_eq_true rfl) rfl (by omega) (by omega) hc ?_
  intro r1 m1 hq1
  obtain ⟨rfl, hMid⟩ := hq1
  show LG l G L xs 1027 (lwL ((5 * N : Nat) : Int)) [.inl v] (am_P G m1) (127 + N) (4006 + 6 * N)
  refine gn_aload_n (x := 95) (q := 1028) dL_law_1027 rfl rfl ?_
  refine lw_arg (n := 5 * N) (j := 1) (q := 1034) dL_law_1028 dL_law_1029 dL_law_1031 dL_law_1032 dL_law_1033 (by decide) (by omega) hL rfl ?_
  refine gn_callV (b := 95) (as := [.inl (xs (5 * N + 1)).toInt]) (rest := [.inl v]) (q := 1037) dL_law_1034 ml_L_155 sm_X9_awards rfl rfl (by decide) (by decide) rfl rfl (Nat.le_of_ble_eq_true rfl) rfl (by omega) (by omega) (hm m1 hMid) ?_
  intro r2 m2 hq2
  obtain ⟨rfl, hI2⟩ := hq2
  show LG l G L xs 1037 (lwL ((5 * N : Nat) : Int)) [.inl v, .inl v] (am_P G m2) (127 + N) (4006 + 6 * N)
  exact gn_cmpeq (t := 1657) (q := 1040) dL_law_1037 rfl rfl (fun _ => gn_wide (by omega) (by omega) (kk m2 hI2)) (fun h => absurd rfl h)
theorem lw_c31 (hL : L ≤ 2560) (hn : 5 * N + 4 < L) (hI : Inv N mem) (kk : ∀ m2, Inv (N + 1) m2 → LG l G L xs 1657 (lwL ((5 * N : Nat) : Int)) [] (am_P G m2) (127 + N + 1) (4006 + 6 * N + 6)) : LG l G L xs 1042 (lwL ((5 * N : Nat) : Int)) [] (am_P G mem) (127 + N) (4006 + 6 * N) := by
  obtain ⟨v, Mid, hc, hm⟩ := p_envy (l := l) (G := G)  N mem (by omega) hI
  refine gn_aload_n (x := 0) (q := 1043) dL_law_1042 rfl rfl ?_
  refine gn_callV (b := 0) (as := []) (rest := []) (q := 1046) dL_law_1043 ml_L_156 sm_X8_envy rfl rfl (by decide) (by decide) rfl rfl (Nat.le_of_ble_eq_true rfl) rfl (by omega) (by omega) hc ?_
  intro r1 m1 hq1
  obtain ⟨rfl, hMid⟩ := hq1
  show LG l G L xs 1046 (lwL ((5 * N : Nat) : Int)) [.inl v] (am_P G m1) (127 + N) (4006 + 6 * N)
  refine gn_aload_n (x := 95) (q := 1047) dL_law_1046 rfl rfl ?_
  refine gn_callV (b := 95) (as := []) (rest := [.inl v]) (q := 1050) dL_law_1047 ml_L_159 sm_X9_envy rfl rfl (by decide) (by decide) rfl rfl (Nat.le_of_ble_eq_true rfl) rfl (by omega) (by omega) (hm m1 hMid) ?_
  intro r2 m2 hq2
  obtain ⟨rfl, hI2⟩ := hq2
  show LG l G L xs 1050 (lwL ((5 * N : Nat) : Int)) [.inl v, .inl v] (am_P G m2) (127 + N) (4006 + 6 * N)
  exact gn_cmpeq (t := 1657) (q := 1053) dL_law_1050 rfl rfl (fun _ => gn_wide (by omega) (by omega) (kk m2 hI2)) (fun h => absurd rfl h)
theorem lw_c32 (hL : L ≤ 2560) (hn : 5 * N + 4 < L) (hI : Inv N mem) (kk : ∀ m2, Inv (N + 1) m2 → LG l G L xs 1657 (lwL ((5 * N : Nat) : Int)) [] (am_P G m2) (127 + N + 1) (4006 + 6 * N + 6)) : LG l G L xs 1055 (lwL ((5 * N : Nat) : Int)) [] (am_P G mem) (127 + N) (4006 + 6 * N) := by
  obtain ⟨v, Mid, hc, hm⟩ := p_bold (l := l) (G := G) (xs (5 * N + 1)).toInt (xs (5 * N + 2)).toInt (xs (5 * N + 3)).toInt (xs (5 * N + 4)).toInt N mem (by omega) hI
  refine gn_aload_n (x := 0) (q := 1056) dL_law_1055 rfl rfl ?_
  refine lw_arg (n := 5 * N) (j := 1) (q := 1062) dL_law_1056 dL_law_1057 dL_law_1059 dL_law_1060 dL_law_1061 (by decide) (by omega) hL rfl ?_
  refine lw_arg (n := 5 * N) (j := 2) (q := 1068) dL_law_1062 dL_law_1063 dL_law_1065 dL_law_1066 dL_law_1067 (by decide) (by omega) hL rfl ?_
  refine lw_arg (n := 5 * N) (j := 3) (q := 1074) dL_law_1068 dL_law_1069 dL_law_1071 dL_law_1072 dL_law_1073 (by decide) (by omega) hL rfl ?_
  refine lw_arg (n := 5 * N) (j := 4) (q := 1080) dL_law_1074 dL_law_1075 dL_law_1077 dL_law_1078 dL_law_1079 (by decide) (by omega) hL rfl ?_
  refine gn_callV (b := 0) (as := [.inl (xs (5 * N + 1)).toInt, .inl (xs (5 * N + 2)).toInt, .inl (xs (5 * N + 3)).toInt, .inl (xs (5 * N + 4)).toInt]) (rest := []) (q := 1083) dL_law_1080 ml_L_160 sm_X8_bold rfl rfl (by decide) (by decide) rfl rfl (Nat.le_of_ble_eq_true rfl) rfl (by omega) (by omega) hc ?_
  intro r1 m1 hq1
  obtain ⟨rfl, hMid⟩ := hq1
  show LG l G L xs 1083 (lwL ((5 * N : Nat) : Int)) [.inl v] (am_P G m1) (127 + N) (4006 + 6 * N)
  refine gn_aload_n (x := 95) (q := 1084) dL_law_1083 rfl rfl ?_
  refine lw_arg (n := 5 * N) (j := 1) (q := 1090) dL_law_1084 dL_law_1085 dL_law_1087 dL_law_1088 dL_law_1089 (by decide) (by omega) hL rfl ?_
  refine lw_arg (n := 5 * N) (j := 2) (q := 1096) dL_law_1090 dL_law_1091 dL_law_1093 dL_law_1094 dL_law_1095 (by decide) (by omega) hL rfl ?_
  refine lw_arg (n := 5 * N) (j := 3) (q := 1102) dL_law_1096 dL_law_1097 dL_law_1099 dL_law_1100 dL_law_1101 (by decide) (by omega) hL rfl ?_
  refine lw_arg (n := 5 * N) (j := 4) (q := 1108) dL_law_1102 dL_law_1103 dL_law_1105 dL_law_1106 dL_law_1107 (by decide) (by omega) hL rfl ?_
  refine gn_callV (b := 95) (as := [.inl (xs (5 * N + 1)).toInt, .inl (xs (5 * N + 2)).toInt, .inl (xs (5 * N + 3)).toInt, .inl (xs (5 * N + 4)).toInt]) (rest := [.inl v]) (q := 1111) dL_law_1108 ml_L_163 sm_X9_bold rfl rfl (by decide) (by decide) rfl rfl (Nat.le_of_ble_eq_true rfl) rfl (by omega) (by omega) (hm m1 hMid) ?_
  intro r2 m2 hq2
  obtain ⟨rfl, hI2⟩ := hq2
  show LG l G L xs 1111 (lwL ((5 * N : Nat) : Int)) [.inl v, .inl v] (am_P G m2) (127 + N) (4006 + 6 * N)
  exact gn_cmpeq (t := 1657) (q := 1114) dL_law_1111 rfl rfl (fun _ => gn_wide (by omega) (by omega) (kk m2 hI2)) (fun h => absurd rfl h)
theorem lw_c33 (hL : L ≤ 2560) (hn : 5 * N + 4 < L) (hI : Inv N mem) (kk : ∀ m2, Inv (N + 1) m2 → LG l G L xs 1657 (lwL ((5 * N : Nat) : Int)) [] (am_P G m2) (127 + N + 1) (4006 + 6 * N + 6)) : LG l G L xs 1116 (lwL ((5 * N : Nat) : Int)) [] (am_P G mem) (127 + N) (4006 + 6 * N) := by
  obtain ⟨v, Mid, hc, hm⟩ := p_notes (l := l) (G := G) (xs (5 * N + 1)).toInt (xs (5 * N + 2)).toInt (xs (5 * N + 3)).toInt N mem (by omega) hI
  refine gn_aload_n (x := 0) (q := 1117) dL_law_1116 rfl rfl ?_
  refine lw_arg (n := 5 * N) (j := 1) (q := 1123) dL_law_1117 dL_law_1118 dL_law_1120 dL_law_1121 dL_law_1122 (by decide) (by omega) hL rfl ?_
  refine lw_arg (n := 5 * N) (j := 2) (q := 1129) dL_law_1123 dL_law_1124 dL_law_1126 dL_law_1127 dL_law_1128 (by decide) (by omega) hL rfl ?_
  refine lw_arg (n := 5 * N) (j := 3) (q := 1135) dL_law_1129 dL_law_1130 dL_law_1132 dL_law_1133 dL_law_1134 (by decide) (by omega) hL rfl ?_
  refine gn_callV (b := 0) (as := [.inl (xs (5 * N + 1)).toInt, .inl (xs (5 * N + 2)).toInt, .inl (xs (5 * N + 3)).toInt]) (rest := []) (q := 1138) dL_law_1135 ml_L_164 sm_X8_notes rfl rfl (by decide) (by decide) rfl rfl (Nat.le_of_ble_eq_true rfl) rfl (by omega) (by omega) hc ?_
  intro r1 m1 hq1
  obtain ⟨rfl, hMid⟩ := hq1
  show LG l G L xs 1138 (lwL ((5 * N : Nat) : Int)) [.inl v] (am_P G m1) (127 + N) (4006 + 6 * N)
  refine gn_aload_n (x := 95) (q := 1139) dL_law_1138 rfl rfl ?_
  refine lw_arg (n := 5 * N) (j := 1) (q := 1145) dL_law_1139 dL_law_1140 dL_law_1142 dL_law_1143 dL_law_1144 (by decide) (by omega) hL rfl ?_
  refine lw_arg (n := 5 * N) (j := 2) (q := 1151) dL_law_1145 dL_law_1146 dL_law_1148 dL_law_1149 dL_law_1150 (by decide) (by omega) hL rfl ?_
  refine lw_arg (n := 5 * N) (j := 3) (q := 1157) dL_law_1151 dL_law_1152 dL_law_1154 dL_law_1155 dL_law_1156 (by decide) (by omega) hL rfl ?_
  refine gn_callV (b := 95) (as := [.inl (xs (5 * N + 1)).toInt, .inl (xs (5 * N + 2)).toInt, .inl (xs (5 * N + 3)).toInt]) (rest := [.inl v]) (q := 1160) dL_law_1157 ml_L_168 sm_X9_notes rfl rfl (by decide) (by decide) rfl rfl (Nat.le_of_ble_eq_true rfl) rfl (by omega) (by omega) (hm m1 hMid) ?_
  intro r2 m2 hq2
  obtain ⟨rfl, hI2⟩ := hq2
  show LG l G L xs 1160 (lwL ((5 * N : Nat) : Int)) [.inl v, .inl v] (am_P G m2) (127 + N) (4006 + 6 * N)
  exact gn_cmpeq (t := 1657) (q := 1163) dL_law_1160 rfl rfl (fun _ => gn_wide (by omega) (by omega) (kk m2 hI2)) (fun h => absurd rfl h)
theorem lw_c34 (hL : L ≤ 2560) (hn : 5 * N + 4 < L) (hI : Inv N mem) (kk : ∀ m2, Inv (N + 1) m2 → LG l G L xs 1657 (lwL ((5 * N : Nat) : Int)) [] (am_P G m2) (127 + N + 1) (4006 + 6 * N + 6)) : LG l G L xs 1165 (lwL ((5 * N : Nat) : Int)) [] (am_P G mem) (127 + N) (4006 + 6 * N) := by
  obtain ⟨v, Mid, hc, hm⟩ := p_look (l := l) (G := G) (xs (5 * N + 1)).toInt (xs (5 * N + 2)).toInt N mem (by omega) hI
  refine gn_aload_n (x := 0) (q := 1166) dL_law_1165 rfl rfl ?_
  refine lw_arg (n := 5 * N) (j := 1) (q := 1172) dL_law_1166 dL_law_1167 dL_law_1169 dL_law_1170 dL_law_1171 (by decide) (by omega) hL rfl ?_
  refine lw_arg (n := 5 * N) (j := 2) (q := 1178) dL_law_1172 dL_law_1173 dL_law_1175 dL_law_1176 dL_law_1177 (by decide) (by omega) hL rfl ?_
  refine gn_callV (b := 0) (as := [.inl (xs (5 * N + 1)).toInt, .inl (xs (5 * N + 2)).toInt]) (rest := []) (q := 1181) dL_law_1178 ml_L_169 sm_X8_look rfl rfl (by decide) (by decide) rfl rfl (Nat.le_of_ble_eq_true rfl) rfl (by omega) (by omega) hc ?_
  intro r1 m1 hq1
  obtain ⟨rfl, hMid⟩ := hq1
  show LG l G L xs 1181 (lwL ((5 * N : Nat) : Int)) [.inl v] (am_P G m1) (127 + N) (4006 + 6 * N)
  refine gn_aload_n (x := 95) (q := 1182) dL_law_1181 rfl rfl ?_
  refine lw_arg (n := 5 * N) (j := 1) (q := 1188) dL_law_1182 dL_law_1183 dL_law_1185 dL_law_1186 dL_law_1187 (by decide) (by omega) hL rfl ?_
  refine lw_arg (n := 5 * N) (j := 2) (q := 1194) dL_law_1188 dL_law_1189 dL_law_1191 dL_law_1192 dL_law_1193 (by decide) (by omega) hL rfl ?_
  refine gn_callV (b := 95) (as := [.inl (xs (5 * N + 1)).toInt, .inl (xs (5 * N + 2)).toInt]) (rest := [.inl v]) (q := 1197) dL_law_1194 ml_L_172 sm_X9_look rfl rfl (by decide) (by decide) rfl rfl (Nat.le_of_ble_eq_true rfl) rfl (by omega) (by omega) (hm m1 hMid) ?_
  intro r2 m2 hq2
  obtain ⟨rfl, hI2⟩ := hq2
  show LG l G L xs 1197 (lwL ((5 * N : Nat) : Int)) [.inl v, .inl v] (am_P G m2) (127 + N) (4006 + 6 * N)
  exact gn_cmpeq (t := 1657) (q := 1200) dL_law_1197 rfl rfl (fun _ => gn_wide (by omega) (by omega) (kk m2 hI2)) (fun h => absurd rfl h)
theorem lw_c35 (hL : L ≤ 2560) (hn : 5 * N + 4 < L) (hI : Inv N mem) (kk : ∀ m2, Inv (N + 1) m2 → LG l G L xs 1657 (lwL ((5 * N : Nat) : Int)) [] (am_P G m2) (127 + N + 1) (4006 + 6 * N + 6)) : LG l G L xs 1202 (lwL ((5 * N : Nat) : Int)) [] (am_P G mem) (127 + N) (4006 + 6 * N) := by
  obtain ⟨v, Mid, hc, hm⟩ := p_forget (l := l) (G := G)  N mem (by omega) hI
  refine gn_aload_n (x := 0) (q := 1203) dL_law_1202 rfl rfl ?_
  refine gn_callV (b := 0) (as := []) (rest := []) (q := 1206) dL_law_1203 ml_L_173 sm_X8_forget rfl rfl (by decide) (by decide) rfl rfl (Nat.le_of_ble_eq_true rfl) rfl (by omega) (by omega) hc ?_
  intro r1 m1 hq1
  obtain ⟨rfl, hMid⟩ := hq1
  show LG l G L xs 1206 (lwL ((5 * N : Nat) : Int)) [.inl v] (am_P G m1) (127 + N) (4006 + 6 * N)
  refine gn_aload_n (x := 95) (q := 1207) dL_law_1206 rfl rfl ?_
  refine gn_callV (b := 95) (as := []) (rest := [.inl v]) (q := 1210) dL_law_1207 ml_L_176 sm_X9_forget rfl rfl (by decide) (by decide) rfl rfl (Nat.le_of_ble_eq_true rfl) rfl (by omega) (by omega) (hm m1 hMid) ?_
  intro r2 m2 hq2
  obtain ⟨rfl, hI2⟩ := hq2
  show LG l G L xs 1210 (lwL ((5 * N : Nat) : Int)) [.inl v, .inl v] (am_P G m2) (127 + N) (4006 + 6 * N)
  exact gn_cmpeq (t := 1657) (q := 1213) dL_law_1210 rfl rfl (fun _ => gn_wide (by omega) (by omega) (kk m2 hI2)) (fun h => absurd rfl h)
theorem lw_c36 (hL : L ≤ 2560) (hn : 5 * N + 4 < L) (hI : Inv N mem) (kk : ∀ m2, Inv (N + 1) m2 → LG l G L xs 1657 (lwL ((5 * N : Nat) : Int)) [] (am_P G m2) (127 + N + 1) (4006 + 6 * N + 6)) : LG l G L xs 1215 (lwL ((5 * N : Nat) : Int)) [] (am_P G mem) (127 + N) (4006 + 6 * N) := by
  obtain ⟨v, Mid, hc, hm⟩ := p_laws (l := l) (G := G)  N mem (by omega) hI
  refine gn_aload_n (x := 0) (q := 1216) dL_law_1215 rfl rfl ?_
  refine gn_callV (b := 0) (as := []) (rest := []) (q := 1219) dL_law_1216 ml_L_177 sm_X8_laws rfl rfl (by decide) (by decide) rfl rfl (Nat.le_of_ble_eq_true rfl) rfl (by omega) (by omega) hc ?_
  intro r1 m1 hq1
  obtain ⟨rfl, hMid⟩ := hq1
  show LG l G L xs 1219 (lwL ((5 * N : Nat) : Int)) [.inl v] (am_P G m1) (127 + N) (4006 + 6 * N)
  refine gn_aload_n (x := 95) (q := 1220) dL_law_1219 rfl rfl ?_
  refine gn_callV (b := 95) (as := []) (rest := [.inl v]) (q := 1223) dL_law_1220 ml_L_180 sm_X9_laws rfl rfl (by decide) (by decide) rfl rfl (Nat.le_of_ble_eq_true rfl) rfl (by omega) (by omega) (hm m1 hMid) ?_
  intro r2 m2 hq2
  obtain ⟨rfl, hI2⟩ := hq2
  show LG l G L xs 1223 (lwL ((5 * N : Nat) : Int)) [.inl v, .inl v] (am_P G m2) (127 + N) (4006 + 6 * N)
  exact gn_cmpeq (t := 1657) (q := 1226) dL_law_1223 rfl rfl (fun _ => gn_wide (by omega) (by omega) (kk m2 hI2)) (fun h => absurd rfl h)
theorem lw_c37 (hL : L ≤ 2560) (hn : 5 * N + 4 < L) (hI : Inv N mem) (kk : ∀ m2, Inv (N + 1) m2 → LG l G L xs 1657 (lwL ((5 * N : Nat) : Int)) [] (am_P G m2) (127 + N + 1) (4006 + 6 * N + 6)) : LG l G L xs 1228 (lwL ((5 * N : Nat) : Int)) [] (am_P G mem) (127 + N) (4006 + 6 * N) := by
  obtain ⟨v, Mid, hc, hm⟩ := p_sure (l := l) (G := G)  N mem (by omega) hI
  refine gn_aload_n (x := 0) (q := 1229) dL_law_1228 rfl rfl ?_
  refine gn_callV (b := 0) (as := []) (rest := []) (q := 1232) dL_law_1229 ml_L_181 sm_X8_sure rfl rfl (by decide) (by decide) rfl rfl (Nat.le_of_ble_eq_true rfl) rfl (by omega) (by omega) hc ?_
  intro r1 m1 hq1
  obtain ⟨rfl, hMid⟩ := hq1
  show LG l G L xs 1232 (lwL ((5 * N : Nat) : Int)) [.inl v] (am_P G m1) (127 + N) (4006 + 6 * N)
  refine gn_aload_n (x := 95) (q := 1233) dL_law_1232 rfl rfl ?_
  refine gn_callV (b := 95) (as := []) (rest := [.inl v]) (q := 1236) dL_law_1233 ml_L_184 sm_X9_sure rfl rfl (by decide) (by decide) rfl rfl (Nat.le_of_ble_eq_true rfl) rfl (by omega) (by omega) (hm m1 hMid) ?_
  intro r2 m2 hq2
  obtain ⟨rfl, hI2⟩ := hq2
  show LG l G L xs 1236 (lwL ((5 * N : Nat) : Int)) [.inl v, .inl v] (am_P G m2) (127 + N) (4006 + 6 * N)
  exact gn_cmpeq (t := 1657) (q := 1239) dL_law_1236 rfl rfl (fun _ => gn_wide (by omega) (by omega) (kk m2 hI2)) (fun h => absurd rfl h)
theorem lw_c38 (hL : L ≤ 2560) (hn : 5 * N + 4 < L) (hI : Inv N mem) (kk : ∀ m2, Inv (N + 1) m2 → LG l G L xs 1657 (lwL ((5 * N : Nat) : Int)) [] (am_P G m2) (127 + N + 1) (4006 + 6 * N + 6)) : LG l G L xs 1241 (lwL ((5 * N : Nat) : Int)) [] (am_P G mem) (127 + N) (4006 + 6 * N) := by
  obtain ⟨v, Mid, hc, hm⟩ := p_tries (l := l) (G := G)  N mem (by omega) hI
  refine gn_aload_n (x := 0) (q := 1242) dL_law_1241 rfl rfl ?_
  refine gn_callV (b := 0) (as := []) (rest := []) (q := 1245) dL_law_1242 ml_L_185 sm_X8_tries rfl rfl (by decide) (by decide) rfl rfl (Nat.le_of_ble_eq_true rfl) rfl (by omega) (by omega) hc ?_
  intro r1 m1 hq1
  obtain ⟨rfl, hMid⟩ := hq1
  show LG l G L xs 1245 (lwL ((5 * N : Nat) : Int)) [.inl v] (am_P G m1) (127 + N) (4006 + 6 * N)
  refine gn_aload_n (x := 95) (q := 1246) dL_law_1245 rfl rfl ?_
  refine gn_callV (b := 95) (as := []) (rest := [.inl v]) (q := 1249) dL_law_1246 ml_L_188 sm_X9_tries rfl rfl (by decide) (by decide) rfl rfl (Nat.le_of_ble_eq_true rfl) rfl (by omega) (by omega) (hm m1 hMid) ?_
  intro r2 m2 hq2
  obtain ⟨rfl, hI2⟩ := hq2
  show LG l G L xs 1249 (lwL ((5 * N : Nat) : Int)) [.inl v, .inl v] (am_P G m2) (127 + N) (4006 + 6 * N)
  exact gn_cmpeq (t := 1657) (q := 1252) dL_law_1249 rfl rfl (fun _ => gn_wide (by omega) (by omega) (kk m2 hI2)) (fun h => absurd rfl h)
theorem lw_c39 (hL : L ≤ 2560) (hn : 5 * N + 4 < L) (hI : Inv N mem) (kk : ∀ m2, Inv (N + 1) m2 → LG l G L xs 1657 (lwL ((5 * N : Nat) : Int)) [] (am_P G m2) (127 + N + 1) (4006 + 6 * N + 6)) : LG l G L xs 1254 (lwL ((5 * N : Nat) : Int)) [] (am_P G mem) (127 + N) (4006 + 6 * N) := by
  obtain ⟨v, Mid, hc, hm⟩ := p_sings (l := l) (G := G) (xs (5 * N + 1)).toInt (xs (5 * N + 2)).toInt (xs (5 * N + 3)).toInt N mem (by omega) hI
  refine gn_aload_n (x := 0) (q := 1255) dL_law_1254 rfl rfl ?_
  refine lw_arg (n := 5 * N) (j := 1) (q := 1261) dL_law_1255 dL_law_1256 dL_law_1258 dL_law_1259 dL_law_1260 (by decide) (by omega) hL rfl ?_
  refine lw_arg (n := 5 * N) (j := 2) (q := 1267) dL_law_1261 dL_law_1262 dL_law_1264 dL_law_1265 dL_law_1266 (by decide) (by omega) hL rfl ?_
  refine lw_arg (n := 5 * N) (j := 3) (q := 1273) dL_law_1267 dL_law_1268 dL_law_1270 dL_law_1271 dL_law_1272 (by decide) (by omega) hL rfl ?_
  refine gn_callV (b := 0) (as := [.inl (xs (5 * N + 1)).toInt, .inl (xs (5 * N + 2)).toInt, .inl (xs (5 * N + 3)).toInt]) (rest := []) (q := 1276) dL_law_1273 ml_L_189 sm_X8_sings rfl rfl (by decide) (by decide) rfl rfl (Nat.le_of_ble_eq_true rfl) rfl (by omega) (by omega) hc ?_
  intro r1 m1 hq1
  obtain ⟨rfl, hMid⟩ := hq1
  show LG l G L xs 1276 (lwL ((5 * N : Nat) : Int)) [.inl v] (am_P G m1) (127 + N) (4006 + 6 * N)
  refine gn_aload_n (x := 95) (q := 1277) dL_law_1276 rfl rfl ?_
  refine lw_arg (n := 5 * N) (j := 1) (q := 1283) dL_law_1277 dL_law_1278 dL_law_1280 dL_law_1281 dL_law_1282 (by decide) (by omega) hL rfl ?_
  refine lw_arg (n := 5 * N) (j := 2) (q := 1289) dL_law_1283 dL_law_1284 dL_law_1286 dL_law_1287 dL_law_1288 (by decide) (by omega) hL rfl ?_
  refine lw_arg (n := 5 * N) (j := 3) (q := 1295) dL_law_1289 dL_law_1290 dL_law_1292 dL_law_1293 dL_law_1294 (by decide) (by omega) hL rfl ?_
  refine gn_callV (b := 95) (as := [.inl (xs (5 * N + 1)).toInt, .inl (xs (5 * N + 2)).toInt, .inl (xs (5 * N + 3)).toInt]) (rest := [.inl v]) (q := 1298) dL_law_1295 ml_L_192 sm_X9_sings rfl rfl (by decide) (by decide) rfl rfl (Nat.le_of_ble_eq_true rfl) rfl (by omega) (by omega) (hm m1 hMid) ?_
  intro r2 m2 hq2
  obtain ⟨rfl, hI2⟩ := hq2
  show LG l G L xs 1298 (lwL ((5 * N : Nat) : Int)) [.inl v, .inl v] (am_P G m2) (127 + N) (4006 + 6 * N)
  exact gn_cmpeq (t := 1657) (q := 1301) dL_law_1298 rfl rfl (fun _ => gn_wide (by omega) (by omega) (kk m2 hI2)) (fun h => absurd rfl h)
theorem lw_c40 (hL : L ≤ 2560) (hn : 5 * N + 4 < L) (hI : Inv N mem) (kk : ∀ m2, Inv (N + 1) m2 → LG l G L xs 1657 (lwL ((5 * N : Nat) : Int)) [] (am_P G m2) (127 + N + 1) (4006 + 6 * N + 6)) : LG l G L xs 1303 (lwL ((5 * N : Nat) : Int)) [] (am_P G mem) (127 + N) (4006 + 6 * N) := by
  obtain ⟨v, Mid, hc, hm⟩ := p_counts (l := l) (G := G) (xs (5 * N + 1)).toInt (xs (5 * N + 2)).toInt (xs (5 * N + 3)).toInt N mem (by omega) hI
  refine gn_aload_n (x := 0) (q := 1304) dL_law_1303 rfl rfl ?_
  refine lw_arg (n := 5 * N) (j := 1) (q := 1310) dL_law_1304 dL_law_1305 dL_law_1307 dL_law_1308 dL_law_1309 (by decide) (by omega) hL rfl ?_
  refine lw_arg (n := 5 * N) (j := 2) (q := 1316) dL_law_1310 dL_law_1311 dL_law_1313 dL_law_1314 dL_law_1315 (by decide) (by omega) hL rfl ?_
  refine lw_arg (n := 5 * N) (j := 3) (q := 1322) dL_law_1316 dL_law_1317 dL_law_1319 dL_law_1320 dL_law_1321 (by decide) (by omega) hL rfl ?_
  refine gn_callV (b := 0) (as := [.inl (xs (5 * N + 1)).toInt, .inl (xs (5 * N + 2)).toInt, .inl (xs (5 * N + 3)).toInt]) (rest := []) (q := 1325) dL_law_1322 ml_L_193 sm_X8_counts rfl rfl (by decide) (by decide) rfl rfl (Nat.le_of_ble_eq_true rfl) rfl (by omega) (by omega) hc ?_
  intro r1 m1 hq1
  obtain ⟨rfl, hMid⟩ := hq1
  show LG l G L xs 1325 (lwL ((5 * N : Nat) : Int)) [.inl v] (am_P G m1) (127 + N) (4006 + 6 * N)
  refine gn_aload_n (x := 95) (q := 1326) dL_law_1325 rfl rfl ?_
  refine lw_arg (n := 5 * N) (j := 1) (q := 1332) dL_law_1326 dL_law_1327 dL_law_1329 dL_law_1330 dL_law_1331 (by decide) (by omega) hL rfl ?_
  refine lw_arg (n := 5 * N) (j := 2) (q := 1338) dL_law_1332 dL_law_1333 dL_law_1335 dL_law_1336 dL_law_1337 (by decide) (by omega) hL rfl ?_
  refine lw_arg (n := 5 * N) (j := 3) (q := 1344) dL_law_1338 dL_law_1339 dL_law_1341 dL_law_1342 dL_law_1343 (by decide) (by omega) hL rfl ?_
  refine gn_callV (b := 95) (as := [.inl (xs (5 * N + 1)).toInt, .inl (xs (5 * N + 2)).toInt, .inl (xs (5 * N + 3)).toInt]) (rest := [.inl v]) (q := 1347) dL_law_1344 ml_L_196 sm_X9_counts rfl rfl (by decide) (by decide) rfl rfl (Nat.le_of_ble_eq_true rfl) rfl (by omega) (by omega) (hm m1 hMid) ?_
  intro r2 m2 hq2
  obtain ⟨rfl, hI2⟩ := hq2
  show LG l G L xs 1347 (lwL ((5 * N : Nat) : Int)) [.inl v, .inl v] (am_P G m2) (127 + N) (4006 + 6 * N)
  exact gn_cmpeq (t := 1657) (q := 1350) dL_law_1347 rfl rfl (fun _ => gn_wide (by omega) (by omega) (kk m2 hI2)) (fun h => absurd rfl h)
theorem lw_c41 (hL : L ≤ 2560) (hn : 5 * N + 4 < L) (hI : Inv N mem) (kk : ∀ m2, Inv (N + 1) m2 → LG l G L xs 1657 (lwL ((5 * N : Nat) : Int)) [] (am_P G m2) (127 + N + 1) (4006 + 6 * N + 6)) : LG l G L xs 1352 (lwL ((5 * N : Nat) : Int)) [] (am_P G mem) (127 + N) (4006 + 6 * N) := by
  obtain ⟨v, Mid, hc, hm⟩ := p_told (l := l) (G := G) (xs (5 * N + 1)).toInt (xs (5 * N + 2)).toInt N mem (by omega) hI
  refine gn_aload_n (x := 0) (q := 1353) dL_law_1352 rfl rfl ?_
  refine lw_arg (n := 5 * N) (j := 1) (q := 1359) dL_law_1353 dL_law_1354 dL_law_1356 dL_law_1357 dL_law_1358 (by decide) (by omega) hL rfl ?_
  refine lw_arg (n := 5 * N) (j := 2) (q := 1365) dL_law_1359 dL_law_1360 dL_law_1362 dL_law_1363 dL_law_1364 (by decide) (by omega) hL rfl ?_
  refine gn_callV (b := 0) (as := [.inl (xs (5 * N + 1)).toInt, .inl (xs (5 * N + 2)).toInt]) (rest := []) (q := 1368) dL_law_1365 ml_L_197 sm_X8_told rfl rfl (by decide) (by decide) rfl rfl (Nat.le_of_ble_eq_true rfl) rfl (by omega) (by omega) hc ?_
  intro r1 m1 hq1
  obtain ⟨rfl, hMid⟩ := hq1
  show LG l G L xs 1368 (lwL ((5 * N : Nat) : Int)) [.inl v] (am_P G m1) (127 + N) (4006 + 6 * N)
  refine gn_aload_n (x := 95) (q := 1369) dL_law_1368 rfl rfl ?_
  refine lw_arg (n := 5 * N) (j := 1) (q := 1375) dL_law_1369 dL_law_1370 dL_law_1372 dL_law_1373 dL_law_1374 (by decide) (by omega) hL rfl ?_
  refine lw_arg (n := 5 * N) (j := 2) (q := 1381) dL_law_1375 dL_law_1376 dL_law_1378 dL_law_1379 dL_law_1380 (by decide) (by omega) hL rfl ?_
  refine gn_callV (b := 95) (as := [.inl (xs (5 * N + 1)).toInt, .inl (xs (5 * N + 2)).toInt]) (rest := [.inl v]) (q := 1384) dL_law_1381 ml_L_200 sm_X9_told rfl rfl (by decide) (by decide) rfl rfl (Nat.le_of_ble_eq_true rfl) rfl (by omega) (by omega) (hm m1 hMid) ?_
  intro r2 m2 hq2
  obtain ⟨rfl, hI2⟩ := hq2
  show LG l G L xs 1384 (lwL ((5 * N : Nat) : Int)) [.inl v, .inl v] (am_P G m2) (127 + N) (4006 + 6 * N)
  exact gn_cmpeq (t := 1657) (q := 1387) dL_law_1384 rfl rfl (fun _ => gn_wide (by omega) (by omega) (kk m2 hI2)) (fun h => absurd rfl h)
theorem lw_c42 (hL : L ≤ 2560) (hn : 5 * N + 4 < L) (hI : Inv N mem) (kk : ∀ m2, Inv (N + 1) m2 → LG l G L xs 1657 (lwL ((5 * N : Nat) : Int)) [] (am_P G m2) (127 + N + 1) (4006 + 6 * N + 6)) : LG l G L xs 1389 (lwL ((5 * N : Nat) : Int)) [] (am_P G mem) (127 + N) (4006 + 6 * N) := by
  obtain ⟨v, Mid, hc, hm⟩ := p_deny (l := l) (G := G)  N mem (by omega) hI
  refine gn_aload_n (x := 0) (q := 1390) dL_law_1389 rfl rfl ?_
  refine gn_callV (b := 0) (as := []) (rest := []) (q := 1393) dL_law_1390 ml_L_201 sm_X8_deny rfl rfl (by decide) (by decide) rfl rfl (Nat.le_of_ble_eq_true rfl) rfl (by omega) (by omega) hc ?_
  intro r1 m1 hq1
  obtain ⟨rfl, hMid⟩ := hq1
  show LG l G L xs 1393 (lwL ((5 * N : Nat) : Int)) [.inl v] (am_P G m1) (127 + N) (4006 + 6 * N)
  refine gn_aload_n (x := 95) (q := 1394) dL_law_1393 rfl rfl ?_
  refine gn_callV (b := 95) (as := []) (rest := [.inl v]) (q := 1397) dL_law_1394 ml_L_204 sm_X9_deny rfl rfl (by decide) (by decide) rfl rfl (Nat.le_of_ble_eq_true rfl) rfl (by omega) (by omega) (hm m1 hMid) ?_
  intro r2 m2 hq2
  obtain ⟨rfl, hI2⟩ := hq2
  show LG l G L xs 1397 (lwL ((5 * N : Nat) : Int)) [.inl v, .inl v] (am_P G m2) (127 + N) (4006 + 6 * N)
  exact gn_cmpeq (t := 1657) (q := 1400) dL_law_1397 rfl rfl (fun _ => gn_wide (by omega) (by omega) (kk m2 hI2)) (fun h => absurd rfl h)
theorem lw_c43 (hL : L ≤ 2560) (hn : 5 * N + 4 < L) (hI : Inv N mem) (kk : ∀ m2, Inv (N + 1) m2 → LG l G L xs 1657 (lwL ((5 * N : Nat) : Int)) [] (am_P G m2) (127 + N + 1) (4006 + 6 * N + 6)) : LG l G L xs 1402 (lwL ((5 * N : Nat) : Int)) [] (am_P G mem) (127 + N) (4006 + 6 * N) := by
  obtain ⟨v, Mid, hc, hm⟩ := p_fits (l := l) (G := G)  N mem (by omega) hI
  refine gn_aload_n (x := 0) (q := 1403) dL_law_1402 rfl rfl ?_
  refine gn_callV (b := 0) (as := []) (rest := []) (q := 1406) dL_law_1403 ml_L_205 sm_X8_fits rfl rfl (by decide) (by decide) rfl rfl (Nat.le_of_ble_eq_true rfl) rfl (by omega) (by omega) hc ?_
  intro r1 m1 hq1
  obtain ⟨rfl, hMid⟩ := hq1
  show LG l G L xs 1406 (lwL ((5 * N : Nat) : Int)) [.inl v] (am_P G m1) (127 + N) (4006 + 6 * N)
  refine gn_aload_n (x := 95) (q := 1407) dL_law_1406 rfl rfl ?_
  refine gn_callV (b := 95) (as := []) (rest := [.inl v]) (q := 1410) dL_law_1407 ml_L_208 sm_X9_fits_ rfl rfl (by decide) (by decide) rfl rfl (Nat.le_of_ble_eq_true rfl) rfl (by omega) (by omega) (hm m1 hMid) ?_
  intro r2 m2 hq2
  obtain ⟨rfl, hI2⟩ := hq2
  show LG l G L xs 1410 (lwL ((5 * N : Nat) : Int)) [.inl v, .inl v] (am_P G m2) (127 + N) (4006 + 6 * N)
  exact gn_cmpeq (t := 1657) (q := 1413) dL_law_1410 rfl rfl (fun _ => gn_wide (by omega) (by omega) (kk m2 hI2)) (fun h => absurd rfl h)
theorem lw_c44 (hL : L ≤ 2560) (hn : 5 * N + 4 < L) (hI : Inv N mem) (kk : ∀ m2, Inv (N + 1) m2 → LG l G L xs 1657 (lwL ((5 * N : Nat) : Int)) [] (am_P G m2) (127 + N + 1) (4006 + 6 * N + 6)) : LG l G L xs 1415 (lwL ((5 * N : Nat) : Int)) [] (am_P G mem) (127 + N) (4006 + 6 * N) := by
  obtain ⟨v, Mid, hc, hm⟩ := p_ask (l := l) (G := G)  N mem (by omega) hI
  refine gn_aload_n (x := 0) (q := 1416) dL_law_1415 rfl rfl ?_
  refine gn_callV (b := 0) (as := []) (rest := []) (q := 1419) dL_law_1416 ml_L_209 sm_X8_ask rfl rfl (by decide) (by decide) rfl rfl (Nat.le_of_ble_eq_true rfl) rfl (by omega) (by omega) hc ?_
  intro r1 m1 hq1
  obtain ⟨rfl, hMid⟩ := hq1
  show LG l G L xs 1419 (lwL ((5 * N : Nat) : Int)) [.inl v] (am_P G m1) (127 + N) (4006 + 6 * N)
  refine gn_aload_n (x := 95) (q := 1420) dL_law_1419 rfl rfl ?_
  refine gn_callV (b := 95) (as := []) (rest := [.inl v]) (q := 1423) dL_law_1420 ml_L_212 sm_X9_ask rfl rfl (by decide) (by decide) rfl rfl (Nat.le_of_ble_eq_true rfl) rfl (by omega) (by omega) (hm m1 hMid) ?_
  intro r2 m2 hq2
  obtain ⟨rfl, hI2⟩ := hq2
  show LG l G L xs 1423 (lwL ((5 * N : Nat) : Int)) [.inl v, .inl v] (am_P G m2) (127 + N) (4006 + 6 * N)
  exact gn_cmpeq (t := 1657) (q := 1426) dL_law_1423 rfl rfl (fun _ => gn_wide (by omega) (by omega) (kk m2 hI2)) (fun h => absurd rfl h)
theorem lw_c45 (hL : L ≤ 2560) (hn : 5 * N + 4 < L) (hI : Inv N mem) (kk : ∀ m2, Inv (N + 1) m2 → LG l G L xs 1657 (lwL ((5 * N : Nat) : Int)) [] (am_P G m2) (127 + N + 1) (4006 + 6 * N + 6)) : LG l G L xs 1428 (lwL ((5 * N : Nat) : Int)) [] (am_P G mem) (127 + N) (4006 + 6 * N) := by
  obtain ⟨v, Mid, hc, hm⟩ := p_rests (l := l) (G := G) (xs (5 * N + 1)).toInt (xs (5 * N + 2)).toInt (xs (5 * N + 3)).toInt N mem (by omega) hI
  refine gn_aload_n (x := 0) (q := 1429) dL_law_1428 rfl rfl ?_
  refine lw_arg (n := 5 * N) (j := 1) (q := 1435) dL_law_1429 dL_law_1430 dL_law_1432 dL_law_1433 dL_law_1434 (by decide) (by omega) hL rfl ?_
  refine lw_arg (n := 5 * N) (j := 2) (q := 1441) dL_law_1435 dL_law_1436 dL_law_1438 dL_law_1439 dL_law_1440 (by decide) (by omega) hL rfl ?_
  refine lw_arg (n := 5 * N) (j := 3) (q := 1447) dL_law_1441 dL_law_1442 dL_law_1444 dL_law_1445 dL_law_1446 (by decide) (by omega) hL rfl ?_
  refine gn_callV (b := 0) (as := [.inl (xs (5 * N + 1)).toInt, .inl (xs (5 * N + 2)).toInt, .inl (xs (5 * N + 3)).toInt]) (rest := []) (q := 1450) dL_law_1447 ml_L_213 sm_X8_rests rfl rfl (by decide) (by decide) rfl rfl (Nat.le_of_ble_eq_true rfl) rfl (by omega) (by omega) hc ?_
  intro r1 m1 hq1
  obtain ⟨rfl, hMid⟩ := hq1
  show LG l G L xs 1450 (lwL ((5 * N : Nat) : Int)) [.inl v] (am_P G m1) (127 + N) (4006 + 6 * N)
  refine gn_aload_n (x := 95) (q := 1451) dL_law_1450 rfl rfl ?_
  refine lw_arg (n := 5 * N) (j := 1) (q := 1457) dL_law_1451 dL_law_1452 dL_law_1454 dL_law_1455 dL_law_1456 (by decide) (by omega) hL rfl ?_
  refine lw_arg (n := 5 * N) (j := 2) (q := 1463) dL_law_1457 dL_law_1458 dL_law_1460 dL_law_1461 dL_law_1462 (by decide) (by omega) hL rfl ?_
  refine lw_arg (n := 5 * N) (j := 3) (q := 1469) dL_law_1463 dL_law_1464 dL_law_1466 dL_law_1467 dL_law_1468 (by decide) (by omega) hL rfl ?_
  refine gn_callV (b := 95) (as := [.inl (xs (5 * N + 1)).toInt, .inl (xs (5 * N + 2)).toInt, .inl (xs (5 * N + 3)).toInt]) (rest := [.inl v]) (q := 1472) dL_law_1469 ml_L_216 sm_X9_rests rfl rfl (by decide) (by decide) rfl rfl (Nat.le_of_ble_eq_true rfl) rfl (by omega) (by omega) (hm m1 hMid) ?_
  intro r2 m2 hq2
  obtain ⟨rfl, hI2⟩ := hq2
  show LG l G L xs 1472 (lwL ((5 * N : Nat) : Int)) [.inl v, .inl v] (am_P G m2) (127 + N) (4006 + 6 * N)
  exact gn_cmpeq (t := 1657) (q := 1475) dL_law_1472 rfl rfl (fun _ => gn_wide (by omega) (by omega) (kk m2 hI2)) (fun h => absurd rfl h)
theorem lw_c46 (hL : L ≤ 2560) (hn : 5 * N + 4 < L) (hI : Inv N mem) (kk : ∀ m2, Inv (N + 1) m2 → LG l G L xs 1657 (lwL ((5 * N : Nat) : Int)) [] (am_P G m2) (127 + N + 1) (4006 + 6 * N + 6)) : LG l G L xs 1477 (lwL ((5 * N : Nat) : Int)) [] (am_P G mem) (127 + N) (4006 + 6 * N) := by
  obtain ⟨v, Mid, hc, hm⟩ := p_law (l := l) (G := G)  N mem (by omega) hI
  refine gn_aload_n (x := 0) (q := 1478) dL_law_1477 rfl rfl ?_
  refine gn_callV (b := 0) (as := []) (rest := []) (q := 1481) dL_law_1478 ml_L_217 sm_X8_law rfl rfl (by decide) (by decide) rfl rfl (Nat.le_of_ble_eq_true rfl) rfl (by omega) (by omega) hc ?_
  intro r1 m1 hq1
  obtain ⟨rfl, hMid⟩ := hq1
  show LG l G L xs 1481 (lwL ((5 * N : Nat) : Int)) [.inl v] (am_P G m1) (127 + N) (4006 + 6 * N)
  refine gn_aload_n (x := 95) (q := 1482) dL_law_1481 rfl rfl ?_
  refine gn_callV (b := 95) (as := []) (rest := [.inl v]) (q := 1485) dL_law_1482 ml_L_220 sm_X9_law rfl rfl (by decide) (by decide) rfl rfl (Nat.le_of_ble_eq_true rfl) rfl (by omega) (by omega) (hm m1 hMid) ?_
  intro r2 m2 hq2
  obtain ⟨rfl, hI2⟩ := hq2
  show LG l G L xs 1485 (lwL ((5 * N : Nat) : Int)) [.inl v, .inl v] (am_P G m2) (127 + N) (4006 + 6 * N)
  exact gn_cmpeq (t := 1657) (q := 1488) dL_law_1485 rfl rfl (fun _ => gn_wide (by omega) (by omega) (kk m2 hI2)) (fun h => absurd rfl h)
theorem lw_c47 (hL : L ≤ 2560) (hn : 5 * N + 4 < L) (hI : Inv N mem) (kk : ∀ m2, Inv (N + 1) m2 → LG l G L xs 1657 (lwL ((5 * N : Nat) : Int)) [] (am_P G m2) (127 + N + 1) (4006 + 6 * N + 6)) : LG l G L xs 1490 (lwL ((5 * N : Nat) : Int)) [] (am_P G mem) (127 + N) (4006 + 6 * N) := by
  obtain ⟨v, Mid, hc, hm⟩ := p_years (l := l) (G := G) (xs (5 * N + 1)).toInt (xs (5 * N + 2)).toInt N mem (by omega) hI
  refine gn_aload_n (x := 0) (q := 1491) dL_law_1490 rfl rfl ?_
  refine lw_arg (n := 5 * N) (j := 1) (q := 1497) dL_law_1491 dL_law_1492 dL_law_1494 dL_law_1495 dL_law_1496 (by decide) (by omega) hL rfl ?_
  refine lw_arg (n := 5 * N) (j := 2) (q := 1503) dL_law_1497 dL_law_1498 dL_law_1500 dL_law_1501 dL_law_1502 (by decide) (by omega) hL rfl ?_
  refine gn_callV (b := 0) (as := [.inl (xs (5 * N + 1)).toInt, .inl (xs (5 * N + 2)).toInt]) (rest := []) (q := 1506) dL_law_1503 ml_L_221 sm_X8_years rfl rfl (by decide) (by decide) rfl rfl (Nat.le_of_ble_eq_true rfl) rfl (by omega) (by omega) hc ?_
  intro r1 m1 hq1
  obtain ⟨rfl, hMid⟩ := hq1
  show LG l G L xs 1506 (lwL ((5 * N : Nat) : Int)) [.inl v] (am_P G m1) (127 + N) (4006 + 6 * N)
  refine gn_aload_n (x := 95) (q := 1507) dL_law_1506 rfl rfl ?_
  refine lw_arg (n := 5 * N) (j := 1) (q := 1513) dL_law_1507 dL_law_1508 dL_law_1510 dL_law_1511 dL_law_1512 (by decide) (by omega) hL rfl ?_
  refine lw_arg (n := 5 * N) (j := 2) (q := 1519) dL_law_1513 dL_law_1514 dL_law_1516 dL_law_1517 dL_law_1518 (by decide) (by omega) hL rfl ?_
  refine gn_callV (b := 95) (as := [.inl (xs (5 * N + 1)).toInt, .inl (xs (5 * N + 2)).toInt]) (rest := [.inl v]) (q := 1522) dL_law_1519 ml_L_224 sm_X9_years rfl rfl (by decide) (by decide) rfl rfl (Nat.le_of_ble_eq_true rfl) rfl (by omega) (by omega) (hm m1 hMid) ?_
  intro r2 m2 hq2
  obtain ⟨rfl, hI2⟩ := hq2
  show LG l G L xs 1522 (lwL ((5 * N : Nat) : Int)) [.inl v, .inl v] (am_P G m2) (127 + N) (4006 + 6 * N)
  exact gn_cmpeq (t := 1657) (q := 1525) dL_law_1522 rfl rfl (fun _ => gn_wide (by omega) (by omega) (kk m2 hI2)) (fun h => absurd rfl h)
theorem lw_c48 (hL : L ≤ 2560) (hn : 5 * N + 4 < L) (hI : Inv N mem) (kk : ∀ m2, Inv (N + 1) m2 → LG l G L xs 1657 (lwL ((5 * N : Nat) : Int)) [] (am_P G m2) (127 + N + 1) (4006 + 6 * N + 6)) : LG l G L xs 1527 (lwL ((5 * N : Nat) : Int)) [] (am_P G mem) (127 + N) (4006 + 6 * N) := by
  obtain ⟨v, Mid, hc, hm⟩ := p_keep (l := l) (G := G) (xs (5 * N + 1)).toInt N mem (by omega) hI
  refine gn_aload_n (x := 0) (q := 1528) dL_law_1527 rfl rfl ?_
  refine lw_arg (n := 5 * N) (j := 1) (q := 1534) dL_law_1528 dL_law_1529 dL_law_1531 dL_law_1532 dL_law_1533 (by decide) (by omega) hL rfl ?_
  refine gn_callV (b := 0) (as := [.inl (xs (5 * N + 1)).toInt]) (rest := []) (q := 1537) dL_law_1534 ml_L_225 sm_X8_keep rfl rfl (by decide) (by decide) rfl rfl (Nat.le_of_ble_eq_true rfl) rfl (by omega) (by omega) hc ?_
  intro r1 m1 hq1
  obtain ⟨rfl, hMid⟩ := hq1
  show LG l G L xs 1537 (lwL ((5 * N : Nat) : Int)) [.inl v] (am_P G m1) (127 + N) (4006 + 6 * N)
  refine gn_aload_n (x := 95) (q := 1538) dL_law_1537 rfl rfl ?_
  refine lw_arg (n := 5 * N) (j := 1) (q := 1544) dL_law_1538 dL_law_1539 dL_law_1541 dL_law_1542 dL_law_1543 (by decide) (by omega) hL rfl ?_
  refine gn_callV (b := 95) (as := [.inl (xs (5 * N + 1)).toInt]) (rest := [.inl v]) (q := 1547) dL_law_1544 ml_L_228 sm_X9_keep rfl rfl (by decide) (by decide) rfl rfl (Nat.le_of_ble_eq_true rfl) rfl (by omega) (by omega) (hm m1 hMid) ?_
  intro r2 m2 hq2
  obtain ⟨rfl, hI2⟩ := hq2
  show LG l G L xs 1547 (lwL ((5 * N : Nat) : Int)) [.inl v, .inl v] (am_P G m2) (127 + N) (4006 + 6 * N)
  exact gn_cmpeq (t := 1657) (q := 1550) dL_law_1547 rfl rfl (fun _ => gn_wide (by omega) (by omega) (kk m2 hI2)) (fun h => absurd rfl h)
theorem lw_c49 (hL : L ≤ 2560) (hn : 5 * N + 4 < L) (hI : Inv N mem) (kk : ∀ m2, Inv (N + 1) m2 → LG l G L xs 1657 (lwL ((5 * N : Nat) : Int)) [] (am_P G m2) (127 + N + 1) (4006 + 6 * N + 6)) : LG l G L xs 1552 (lwL ((5 * N : Nat) : Int)) [] (am_P G mem) (127 + N) (4006 + 6 * N) := by
  obtain ⟨v, Mid, hc, hm⟩ := p_again (l := l) (G := G) (xs (5 * N + 1)).toInt N mem (by omega) hI
  refine gn_aload_n (x := 0) (q := 1553) dL_law_1552 rfl rfl ?_
  refine lw_arg (n := 5 * N) (j := 1) (q := 1559) dL_law_1553 dL_law_1554 dL_law_1556 dL_law_1557 dL_law_1558 (by decide) (by omega) hL rfl ?_
  refine gn_callV (b := 0) (as := [.inl (xs (5 * N + 1)).toInt]) (rest := []) (q := 1562) dL_law_1559 ml_L_229 sm_X8_again rfl rfl (by decide) (by decide) rfl rfl (Nat.le_of_ble_eq_true rfl) rfl (by omega) (by omega) hc ?_
  intro r1 m1 hq1
  obtain ⟨rfl, hMid⟩ := hq1
  show LG l G L xs 1562 (lwL ((5 * N : Nat) : Int)) [.inl v] (am_P G m1) (127 + N) (4006 + 6 * N)
  refine gn_aload_n (x := 95) (q := 1563) dL_law_1562 rfl rfl ?_
  refine lw_arg (n := 5 * N) (j := 1) (q := 1569) dL_law_1563 dL_law_1564 dL_law_1566 dL_law_1567 dL_law_1568 (by decide) (by omega) hL rfl ?_
  refine gn_callV (b := 95) (as := [.inl (xs (5 * N + 1)).toInt]) (rest := [.inl v]) (q := 1572) dL_law_1569 ml_L_232 sm_X9_again rfl rfl (by decide) (by decide) rfl rfl (Nat.le_of_ble_eq_true rfl) rfl (by omega) (by omega) (hm m1 hMid) ?_
  intro r2 m2 hq2
  obtain ⟨rfl, hI2⟩ := hq2
  show LG l G L xs 1572 (lwL ((5 * N : Nat) : Int)) [.inl v, .inl v] (am_P G m2) (127 + N) (4006 + 6 * N)
  exact gn_cmpeq (t := 1657) (q := 1575) dL_law_1572 rfl rfl (fun _ => gn_wide (by omega) (by omega) (kk m2 hI2)) (fun h => absurd rfl h)
theorem lw_c50 (hL : L ≤ 2560) (hn : 5 * N + 4 < L) (hI : Inv N mem) (kk : ∀ m2, Inv (N + 1) m2 → LG l G L xs 1657 (lwL ((5 * N : Nat) : Int)) [] (am_P G m2) (127 + N + 1) (4006 + 6 * N + 6)) : LG l G L xs 1577 (lwL ((5 * N : Nat) : Int)) [] (am_P G mem) (127 + N) (4006 + 6 * N) := by
  obtain ⟨v, Mid, hc, hm⟩ := p_count (l := l) (G := G) (xs (5 * N + 1)).toInt N mem (by omega) hI
  refine gn_aload_n (x := 0) (q := 1578) dL_law_1577 rfl rfl ?_
  refine lw_arg (n := 5 * N) (j := 1) (q := 1584) dL_law_1578 dL_law_1579 dL_law_1581 dL_law_1582 dL_law_1583 (by decide) (by omega) hL rfl ?_
  refine gn_callV (b := 0) (as := [.inl (xs (5 * N + 1)).toInt]) (rest := []) (q := 1587) dL_law_1584 ml_L_233 sm_X8_count rfl rfl (by decide) (by decide) rfl rfl (Nat.le_of_ble_eq_true rfl) rfl (by omega) (by omega) hc ?_
  intro r1 m1 hq1
  obtain ⟨rfl, hMid⟩ := hq1
  show LG l G L xs 1587 (lwL ((5 * N : Nat) : Int)) [.inl v] (am_P G m1) (127 + N) (4006 + 6 * N)
  refine gn_aload_n (x := 95) (q := 1588) dL_law_1587 rfl rfl ?_
  refine lw_arg (n := 5 * N) (j := 1) (q := 1594) dL_law_1588 dL_law_1589 dL_law_1591 dL_law_1592 dL_law_1593 (by decide) (by omega) hL rfl ?_
  refine gn_callV (b := 95) (as := [.inl (xs (5 * N + 1)).toInt]) (rest := [.inl v]) (q := 1597) dL_law_1594 ml_L_236 sm_X9_count rfl rfl (by decide) (by decide) rfl rfl (Nat.le_of_ble_eq_true rfl) rfl (by omega) (by omega) (hm m1 hMid) ?_
  intro r2 m2 hq2
  obtain ⟨rfl, hI2⟩ := hq2
  show LG l G L xs 1597 (lwL ((5 * N : Nat) : Int)) [.inl v, .inl v] (am_P G m2) (127 + N) (4006 + 6 * N)
  exact gn_cmpeq (t := 1657) (q := 1600) dL_law_1597 rfl rfl (fun _ => gn_wide (by omega) (by omega) (kk m2 hI2)) (fun h => absurd rfl h)
theorem lw_c5 (hlt : l.stackTraces = false) (hL : L ≤ 2560) (hn : 5 * N + 4 < L) (hI : Inv N mem) (kk : ∀ m2, Inv (N + 1) m2 → LG l G L xs 1657 (lwL ((5 * N : Nat) : Int)) [] (am_P G m2) (127 + N + 1) (4006 + 6 * N + 6)) : LG l G L xs 349 (lwL ((5 * N : Nat) : Int)) [] (am_P G mem) (127 + N) (4006 + 6 * N) := by
  obtain ⟨k, b, Mid, hk, hw, hm⟩ := P_hearer (l := l) (G := G) hlt (xs (5 * N + 1)).toInt (xs (5 * N + 2)).toInt N mem (by omega) hI
  refine gn_aload_n (x := 0) (q := 350) dL_law_349 rfl rfl ?_
  refine lw_arg (n := 5 * N) (j := 1) (q := 356) dL_law_350 dL_law_351 dL_law_353 dL_law_354 dL_law_355 (by decide) (by omega) hL rfl ?_
  refine lw_arg (n := 5 * N) (j := 2) (q := 362) dL_law_356 dL_law_357 dL_law_359 dL_law_360 dL_law_361 (by decide) (by omega) hL rfl ?_
  refine gn_aload_n (x := 126) (q := 363) dL_law_362 rfl rfl ?_
  refine gn_callW (v := some (.inl k)) (as := [.inr (.inr 1), .inl (xs (5 * N + 1)).toInt, .inl (xs (5 * N + 2)).toInt, .inr (.inr 127)]) (rest := []) (n := 4) (q := 366) (fun s c h => ⟨h.1.2.1, h.1.2.2⟩) (fun v hv => by cases hv; exact hk) dL_law_363 wl_1 wl_2 wl_3 ⟨by decide, by decide⟩ (by decide +kernel) (by decide) wl_4 (by decide) rfl rfl (Nat.le_of_ble_eq_true rfl) rfl (by omega) (by omega) hw ?_
  refine gn_ex (fun m1 hMid => ?_)
  show LG l G L xs 366 (lwL ((5 * N : Nat) : Int)) [.inl k] (am_P G m1) (127 + N + 1) (4006 + 6 * N + 6)
  refine gn_istore (ls' := [some (.inr (.inr 1001)), some (.inr (.inr 1)), some (.inr (.inr 96)), some (.inr (.inr 127)), some (.inl ((5 * N : Nat) : Int)), some (.inl k), none, none]) (q := 368) dL_law_366 (by decide) rfl rfl ?_
  refine gn_aload_n (x := 95) (q := 369) dL_law_368 rfl rfl ?_
  refine lw_argK (n := 5 * N) (j := 1) (q := 375) dL_law_369 dL_law_370 dL_law_372 dL_law_373 dL_law_374 (by decide) (by omega) hL rfl ?_
  refine lw_argK (n := 5 * N) (j := 2) (q := 381) dL_law_375 dL_law_376 dL_law_378 dL_law_379 dL_law_380 (by decide) (by omega) hL rfl ?_
  refine gn_callV (b := 95) (as := [.inl (xs (5 * N + 1)).toInt, .inl (xs (5 * N + 2)).toInt]) (rest := []) (q := 384) dL_law_381 ml_L_51 sm_X9_hearer rfl rfl (by decide) (by decide) rfl rfl (Nat.le_of_ble_eq_true rfl) rfl (by omega) (by omega) (hm m1 hMid) ?_
  intro r2 m2 hq2
  obtain ⟨rfl, h11, h126, hI2⟩ := hq2
  show LG l G L xs 384 [some (.inr (.inr 1001)), some (.inr (.inr 1)), some (.inr (.inr 96)), some (.inr (.inr 127)), some (.inl ((5 * N : Nat) : Int)), some (.inl k), none, none] [.inl b] (am_P G m2) (127 + N + 1) (4006 + 6 * N + 6)
  refine gn_istore (ls' := [some (.inr (.inr 1001)), some (.inr (.inr 1)), some (.inr (.inr 96)), some (.inr (.inr 127)), some (.inl ((5 * N : Nat) : Int)), some (.inl k), some (.inl b), none]) (q := 386) dL_law_384 (by decide) rfl rfl ?_
  refine gn_aload_n (x := 95) (q := 387) dL_law_386 rfl rfl ?_
  refine gn_callV (b := 95) (as := []) (rest := []) (q := 390) dL_law_387 ml_L_52 sm_X9_thrown rfl rfl (by decide) (by decide) rfl rfl (Nat.le_of_ble_eq_true rfl) rfl (by omega) (by omega) (s_thrown9 (d := 200)) ?_
  intro r3 m3 hq3
  obtain ⟨rfl, rfl⟩ := hq3
  rw [h11]
  show LG l G L xs 390 [some (.inr (.inr 1001)), some (.inr (.inr 1)), some (.inr (.inr 96)), some (.inr (.inr 127)), some (.inl ((5 * N : Nat) : Int)), some (.inl k), some (.inl b), none] [.inl k] (am_P G m2) (127 + N + 1) (4006 + 6 * N + 6)
  have fin : LG l G L xs 414 [some (.inr (.inr 1001)), some (.inr (.inr 1)), some (.inr (.inr 96)), some (.inr (.inr 127)), some (.inl ((5 * N : Nat) : Int)), some (.inl k), some (.inl b), none] [] (am_P G m2) (127 + N + 1) (4006 + 6 * N + 6) := by
    refine gn_goto (t := 1657) dL_law_414 rfl ?_
    exact gn_weak lw_wk (kk m2 hI2)
  refine gn_iload (x := k) (q := 392) dL_law_390 rfl rfl ?_
  refine gn_cmpeq (t := 397) (q := 395) dL_law_392 rfl rfl (fun _ => ?_) (fun h => absurd rfl h)
  refine gn_iload (x := k) (q := 399) dL_law_397 rfl rfl ?_
  refine gn_ifne (t := 414) (q := 402) dL_law_399 rfl rfl (fun _ => fin) (fun h0 => ?_)
  refine gn_aload_n (x := 126) (q := 403) dL_law_402 rfl rfl ?_
  refine gn_iconst (q := 404) dL_law_403 (am_okd rfl) rfl ?_
  refine gn_laldM (a := 126) (n := 1) (q := 405) dL_law_404 rfl (by decide) (by decide) rfl ?_
  refine gn_iload (x := b) (q := 407) dL_law_405 rfl rfl ?_
  refine gn_i2l (q := 408) dL_law_407 rfl ?_
  refine gn_lcmp (q := 409) dL_law_408 rfl ?_
  exact gn_ifeq (t := 414) (q := 412) dL_law_409 rfl rfl (fun _ => fin) (fun h => absurd (am_cmpE.mpr (h126 h0)) h)
theorem lw_c51 (hlt : l.stackTraces = false) (hL : L ≤ 2560) (hn : 5 * N + 4 < L) (hI : Inv N mem) (kk : ∀ m2, Inv (N + 1) m2 → LG l G L xs 1657 (lwL ((5 * N : Nat) : Int)) [] (am_P G m2) (127 + N + 1) (4006 + 6 * N + 6)) : LG l G L xs 1602 (lwL ((5 * N : Nat) : Int)) [] (am_P G mem) (127 + N) (4006 + 6 * N) := by
  obtain ⟨k, b, Mid, hk, hw, hm⟩ := P_row (l := l) (G := G) hlt (xs (5 * N + 1)).toInt N mem (by omega) hI
  refine gn_aload_n (x := 0) (q := 1603) dL_law_1602 rfl rfl ?_
  refine lw_arg (n := 5 * N) (j := 1) (q := 1609) dL_law_1603 dL_law_1604 dL_law_1606 dL_law_1607 dL_law_1608 (by decide) (by omega) hL rfl ?_
  refine gn_aload_n (x := 126) (q := 1610) dL_law_1609 rfl rfl ?_
  refine gn_callW (v := some (.inl k)) (as := [.inr (.inr 1), .inl (xs (5 * N + 1)).toInt, .inr (.inr 127)]) (rest := []) (n := 3) (q := 1613) (fun s c h => ⟨h.1.2.1, h.1.2.2⟩) (fun v hv => by cases hv; exact hk) dL_law_1610 wl_5 wl_6 wl_3 ⟨by decide, by decide⟩ (by decide +kernel) (by decide) wl_7 (by decide) rfl rfl (Nat.le_of_ble_eq_true rfl) rfl (by omega) (by omega) hw ?_
  refine gn_ex (fun m1 hMid => ?_)
  show LG l G L xs 1613 (lwL ((5 * N : Nat) : Int)) [.inl k] (am_P G m1) (127 + N + 1) (4006 + 6 * N + 6)
  refine gn_istore (ls' := [some (.inr (.inr 1001)), some (.inr (.inr 1)), some (.inr (.inr 96)), some (.inr (.inr 127)), some (.inl ((5 * N : Nat) : Int)), some (.inl k), none, none]) (q := 1615) dL_law_1613 (by decide) rfl rfl ?_
  refine gn_aload_n (x := 95) (q := 1616) dL_law_1615 rfl rfl ?_
  refine lw_argK (n := 5 * N) (j := 1) (q := 1622) dL_law_1616 dL_law_1617 dL_law_1619 dL_law_1620 dL_law_1621 (by decide) (by omega) hL rfl ?_
  refine gn_callV (b := 95) (as := [.inl (xs (5 * N + 1)).toInt]) (rest := []) (q := 1625) dL_law_1622 ml_L_240 sm_X9_row rfl rfl (by decide) (by decide) rfl rfl (Nat.le_of_ble_eq_true rfl) rfl (by omega) (by omega) (hm m1 hMid) ?_
  intro r2 m2 hq2
  obtain ⟨rfl, h11, h126, hI2⟩ := hq2
  show LG l G L xs 1625 [some (.inr (.inr 1001)), some (.inr (.inr 1)), some (.inr (.inr 96)), some (.inr (.inr 127)), some (.inl ((5 * N : Nat) : Int)), some (.inl k), none, none] [.inr (.inl b)] (am_P G m2) (127 + N + 1) (4006 + 6 * N + 6)
  refine gn_lstore (ls' := [some (.inr (.inr 1001)), some (.inr (.inr 1)), some (.inr (.inr 96)), some (.inr (.inr 127)), some (.inl ((5 * N : Nat) : Int)), some (.inl k), some (.inr (.inl b)), none]) (q := 1627) dL_law_1625 (by decide) rfl rfl ?_
  refine gn_aload_n (x := 95) (q := 1628) dL_law_1627 rfl rfl ?_
  refine gn_callV (b := 95) (as := []) (rest := []) (q := 1631) dL_law_1628 ml_L_52 sm_X9_thrown rfl rfl (by decide) (by decide) rfl rfl (Nat.le_of_ble_eq_true rfl) rfl (by omega) (by omega) (s_thrown9 (d := 200)) ?_
  intro r3 m3 hq3
  obtain ⟨rfl, rfl⟩ := hq3
  rw [h11]
  show LG l G L xs 1631 [some (.inr (.inr 1001)), some (.inr (.inr 1)), some (.inr (.inr 96)), some (.inr (.inr 127)), some (.inl ((5 * N : Nat) : Int)), some (.inl k), some (.inr (.inl b)), none] [.inl k] (am_P G m2) (127 + N + 1) (4006 + 6 * N + 6)
  have fin : LG l G L xs 1654 [some (.inr (.inr 1001)), some (.inr (.inr 1)), some (.inr (.inr 96)), some (.inr (.inr 127)), some (.inl ((5 * N : Nat) : Int)), some (.inl k), some (.inr (.inl b)), none] [] (am_P G m2) (127 + N + 1) (4006 + 6 * N + 6) := by
    refine gn_goto (t := 1657) dL_law_1654 rfl ?_
    exact gn_weak lw_wk (kk m2 hI2)
  refine gn_iload (x := k) (q := 1633) dL_law_1631 rfl rfl ?_
  refine gn_cmpeq (t := 1638) (q := 1636) dL_law_1633 rfl rfl (fun _ => ?_) (fun h => absurd rfl h)
  refine gn_iload (x := k) (q := 1640) dL_law_1638 rfl rfl ?_
  refine gn_ifne (t := 1654) (q := 1643) dL_law_1640 rfl rfl (fun _ => fin) (fun h0 => ?_)
  refine gn_aload_n (x := 126) (q := 1644) dL_law_1643 rfl rfl ?_
  refine gn_iconst (q := 1645) dL_law_1644 (am_okd rfl) rfl ?_
  refine gn_laldM (a := 126) (n := 1) (q := 1646) dL_law_1645 rfl (by decide) (by decide) rfl ?_
  refine gn_lload (x := b) (q := 1648) dL_law_1646 rfl rfl ?_
  refine gn_lcmp (q := 1649) dL_law_1648 rfl ?_
  exact gn_ifeq (t := 1654) (q := 1652) dL_law_1649 rfl rfl (fun _ => fin) (fun h => absurd (am_cmpE.mpr (h126 h0)) h)
end AE
