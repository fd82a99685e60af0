/-! calls of the abstract machine, throws -/
section GA
variable {l : Launch} {G : am_G} {M : am_Mt} {d mc ms : Nat} {E : State → Code → Prop} {Z : List Frame → Array Value → State → State → Prop} {pc q t : Nat} {ls ls' : am_L} {st : List am_V} {Wd Wd2 : Heap → Prop} {ce sl : Nat} {mem : am_M}
theorem gn_iflt {o x : Int} (hd : decode M.2.1 pc = .ok (.ifCond .lt o, 3)) (ht : (pc : Int) + o = (t : Int)) (hq : pc + 3 = q) (kt : x < 0 → gn l G M d mc ms E Z t ls st Wd ce sl) (kf : 0 ≤ x → gn l G M d mc ms E Z q ls st Wd ce sl) : gn l G M d mc ms E Z pc ls (.inl x :: st) Wd ce sl := by
  subst hq
  intro p e R s m args below meth c H locs lsM C D hP hS hl ho
  exact lv_if_lt C.1 C.2.1 hd ht (fun h => kt ((am_lt (am_kh ho) am_ok0).mp h) p e R s m args below meth c H locs lsM C D hP hS hl (am_kt ho)) (fun h => kf (Int.not_lt.mp (fun h2 => h ((am_lt (am_kh ho) am_ok0).mpr h2))) p e R s m args below meth c H locs lsM C D hP hS hl (am_kt ho))
theorem gn_cmple {o x y : Int} (hd : decode M.2.1 pc = .ok (.if_icmp .le o, 3)) (ht : (pc : Int) + o = (t : Int)) (hq : pc + 3 = q) (kt : x ≤ y → gn l G M d mc ms E Z t ls st Wd ce sl) (kf : y < x → gn l G M d mc ms E Z q ls st Wd ce sl) : gn l G M d mc ms E Z pc ls (.inl y :: .inl x :: st) Wd ce sl := by
  subst hq
  intro p e R s m args below meth c H locs lsM C D hP hS hl ho
  have E9 := am_le (am_kh (am_kt ho)) (am_kh ho)
  exact lv_icmp_le C.1 C.2.1 hd ht (fun h => kt (E9.mp h) p e R s m args below meth c H locs lsM C D hP hS hl (am_kt (am_kt ho))) (fun h => kf (Int.not_le.mp (fun h2 => h (E9.mpr h2))) p e R s m args below meth c H locs lsM C D hP hS hl (am_kt (am_kt ho)))
theorem gn_cmplt {o x y : Int} (hd : decode M.2.1 pc = .ok (.if_icmp .lt o, 3)) (ht : (pc : Int) + o = (t : Int)) (hq : pc + 3 = q) (kt : x < y → gn l G M d mc ms E Z t ls st Wd ce sl) (kf : y ≤ x → gn l G M d mc ms E Z q ls st Wd ce sl) : gn l G M d mc ms E Z pc ls (.inl y :: .inl x :: st) Wd ce sl := by
  subst hq
  intro p e R s m args below meth c H locs lsM C D hP hS hl ho
  have E9 := am_lt (am_kh (am_kt ho)) (am_kh ho)
  exact lv_icmp_lt C.1 C.2.1 hd ht (fun h => kt (E9.mp h) p e R s m args below meth c H locs lsM C D hP hS hl (am_kt (am_kt ho))) (fun h => kf (Int.not_lt.mp (fun h2 => h (E9.mpr h2))) p e R s m args below meth c H locs lsM C D hP hS hl (am_kt (am_kt ho)))
theorem gn_getM {i c k a n : Nat} {v : am_V} (hd : decode M.2.1 pc = .ok (.getfield i, 3)) (hf : am_FL M.1 i c k) (hk : am_ks[a]? = some (c, n)) (hv : am_tag (am_ft c k) (am_rd mem c a k) = v) (hq : pc + 3 = q) (kk : gn l G M d mc ms E Z q ls (v :: st) (am_P G mem) ce sl) : gn l G M d mc ms E Z pc ls (.inr (.inr (a + 1)) :: st) (am_P G mem) ce sl := by
  subst hq; subst hv
  intro p e R s m args below meth c0 H locs lsM C D hP hS hl ho
  obtain ⟨Cn, T, N, ty, hcf, hkN, hlk⟩ := hf
  have hn := hcf.len hk
  subst hn
  have ha := am_ks_lt hk
  have hc100 : c < 100 := hcf.2.1
  have hw : (am_ws G mem)[a]? = some (am_ad G a, .inr (c, (List.range n).map (fun k => am_enc G (am_tag (am_ft c k) (am_rd mem c a k))))) := by rw [am_ws_get ha, am_cell_o hk hc100, am_ad_lt ha]
  refine va_get C.1 C.2.1 (C.2.2.2.2.1) hcf.2.2.1 C.2.2.2.1 C.2.2.2.2.2.2.2.1 hP.1 a hw hcf.1 k hkN (C.2.2.2.2.1 _ hlk) (fun _ h => h) (v := am_enc G (am_tag (am_ft c k) (am_rd mem c a k))) ?_ hd (kk p e R s m args below meth c0 H locs lsM C D hP hS hl (am_k1 ho (am_tag_ok hk hc100 hP.2 (fun _ => am_fin_lt a k))))
  rw [List.getElem?_map, List.getElem?_range hkN]; rfl
theorem gn_laldM {a n : Nat} {i : Int} (hd : decode M.2.1 pc = .ok (.laload, 1)) (hk : am_ks[a]? = some (101, n)) (h0 : 0 ≤ i) (h1 : i < n) (hq : pc + 1 = q) (kk : gn l G M d mc ms E Z q ls (.inr (.inl (mem a i.toNat)) :: st) (am_P G mem) ce sl) : gn l G M d mc ms E Z pc ls (.inl i :: .inr (.inr (a + 1)) :: st) (am_P G mem) ce sl := by
  subst hq
  intro p e R s m args below meth c0 H locs lsM C D hP hS hl ho
  have ha := am_ks_lt hk
  have hw : (am_ws G mem)[a]? = some (am_ad G a, .inl (G.2.2.1 1, n, .inr (.inl (fun j => Int64.ofInt (mem a j))))) := by rw [am_ws_get ha, am_cell_l hk, am_ad_lt ha]
  have hm := hP.2 a i.toNat
  rw [am_sl_of hk] at hm
  refine va_lald C.1 C.2.1 C.2.2.2.2.2.2.2.1 hP.1 a 1 hw rfl (am_in h0 h1 (am_kh ho)) hd ?_
  rw [am_nat h0 (am_kh ho)]
  exact kk p e R s m args below meth c0 H locs lsM C D hP hS hl (am_k2 ho hm)
theorem gn_lastM {a n : Nat} {i x : Int} (hd : decode M.2.1 pc = .ok (.lastore, 1)) (hk : am_ks[a]? = some (101, n)) (h0 : 0 ≤ i) (h1 : i < n) (hq : pc + 1 = q) (kk : gn l G M d mc ms E Z q ls st (am_P G (am_up mem a i.toNat x)) ce sl) : gn l G M d mc ms E Z pc ls (.inr (.inl x) :: .inl i :: .inr (.inr (a + 1)) :: st) (am_P G mem) ce sl := by
  subst hq
  intro p e R s m args below meth c0 H locs lsM C D hP hS hl ho
  have ha := am_ks_lt hk
  have hi := am_kh (am_kt ho)
  have hw : (am_ws G mem)[a]? = some (am_ad G a, .inl (G.2.2.1 1, n, .inr (.inl (fun j => Int64.ofInt (mem a j))))) := by rw [am_ws_get ha, am_cell_l hk, am_ad_lt ha]
  refine va_last C.1 C.2.1 C.2.2.2.2.2.2.2.1 hP.1 (am_D G mem) hS a 1 hw rfl (am_in h0 h1 hi) hd (fun H1 locs1 h1 h2 h3 => ?_)
  rw [am_nat h0 hi, am_updL_i, am_ad_lt ha] at h1
  have e1 := am_ws_set (G := G) (mem := mem) (mem2 := am_up mem a i.toNat x) (a := a) (fun b hb => am_up_ne hb)
  rw [am_cell_l hk, am_up_eq] at e1
  rw [e1] at h1
  exact kk p e R s m args below meth c0 H1 locs1 lsM C D ⟨h1, am_okM_up hP.2 (by rw [am_sl_of hk]; exact am_kh ho)⟩ h3 hl (am_kt (am_kt (am_kt ho)))
theorem gn_callV {y : MethodName} {M' : am_Mt} {i n d' b cb nb : Nat} {as rest : List am_V} {Q' : Option am_V → am_M → Prop} {Cn : String} {T : u_T} {N : Nat} (hd : decode M.2.1 pc = .ok (.invokevirtual i, 3)) (hm : am_ML M.1 i y M' n) (hs : Cond.instanceMethod y ∈ am_tbl ∧ Cond.selects Cn y y ∈ am_tbl) (hcl : vwCl[cb]? = some (Cn, T, N)) (hb : am_ks[b]? = some (cb, nb)) (hcb : cb < 100) (hdd : d' + 1 ≤ d) (hn : as.length = n) (hst : st = as.reverse ++ .inr (.inr (b + 1)) :: rest) (hw : am_wsum rest ≤ 8) (hq : pc + 3 = q) (h1 : ce ≤ mc) (h2 : sl ≤ ms) (hc : am_Sm l G y M' d' (.inr (.inr (b + 1)) :: as) mem Q') (k : ∀ r mem1, Q' r mem1 → gn l G M d mc ms E Z q ls (r.toList ++ rest) (am_P G mem1) ce sl) : gn l G M d mc ms E Z pc ls st (am_P G mem) ce sl := by
  subst hq; subst hst
  intro p e R s m args below meth c H locs lsM C D hP hS hl ho
  have hok : ∀ v ∈ (.inr (.inr (b + 1)) :: as : List am_V), am_okv v := fun v hv => by
    rcases List.mem_cons.mp hv with rfl | hv
    · trivial
    · exact ho v (List.mem_append_left _ (List.mem_reverse.mpr hv))
  have hor : ∀ v ∈ rest, am_okv v := fun v hv => ho v (List.mem_append_right _ (List.mem_cons_of_mem _ hv))
  have hb' := am_ks_lt hb
  have hwb : (am_ws G mem)[b]? = some (am_ad G b, .inr (cb, (List.range nb).map (fun k => am_enc G (am_tag (am_ft cb k) (am_rd mem cb b k))))) := by rw [am_ws_get hb', am_cell_o hb hcb, am_ad_lt hb']
  refine gn_back (rest := rest) (Qa := am_Qc G Q' ((.inr (.inr (b + 1)) :: as : List am_V).map (am_enc G)).toArray) (mc1 := 0) (ms1 := 0) ?_ C D hS hl hor (fun v st t hq => ?_)
  · exact va_runV (b := am_ad G b) (As := as.map (am_enc G)) (rest := rest.map (am_enc G)) ⟨C.1, C.2.1, C.2.2.1, C.2.2.2.1, C.2.2.2.2.1⟩ (hc hok) ⟨am_callB hm C.2.2.2.2.1 hdd ⟨C.2.2.2.2.2.2.2.2.2.1, C.2.2.2.2.2.2.2.2.2.2.1⟩, C.2.2.2.2.1 _ hs.1, C.2.2.2.2.1 _ hs.2⟩ ⟨am_Pc_blind, va_recv C.2.2.2.2.2.2.2.1 hP.1 hcl hwb, fun U hU hW => am_Pc_of (as := .inr (.inr (b + 1)) :: as) hP C.2.2.2.2.2.2.2.1 C.2.2.2.2.2.2.2.2.1 C.2.2.2.2.2.2.2.2.2.2.2 hS hU hW⟩ rfl (by simpa using hn) hl.1 (by simp; rfl) (lv_room (by rw [am_wsum_eq]; exact hw)) hd ⟨Nat.le_trans h1 D.1, Nat.le_trans h2 D.2.1⟩
  · obtain ⟨⟨r, mem1, hq1, hokr, hv, hP1, hK1⟩, hF⟩ := hq
    exact ⟨r, am_P G mem1, Outcome.returned.inj hv, hokr, hP1, hF, k r mem1 hq1⟩
theorem gn_ex {Q : am_M → Prop} (k : ∀ m, Q m → gn l G M d mc ms E Z pc ls st (am_P G m) ce sl) : gn l G M d mc ms E Z pc ls st (fun H => ∃ m, Q m ∧ am_P G m H) ce sl := by
  intro p e R s m args below meth c H locs lsM C D hP hS hl ho
  obtain ⟨m1, h1, h2⟩ := hP
  exact k m1 h1 p e R s m args below meth c H locs lsM C D h2 hS hl ho
theorem gn_weak (h : ∀ (i : Nat) (v : am_V), ls'[i]? = some (some v) → ls[i]? = some (some v)) (k : gn l G M d mc ms E Z pc ls' st Wd ce sl) : gn l G M d mc ms E Z pc ls st Wd ce sl :=
  fun p e R s m args below meth c H locs lsM C D hP hS hl ho => k p e R s m args below meth c H locs lsM C D hP hS ⟨hl.1, hl.2.1, fun i v hi => hl.2.2 i v (h i v hi)⟩ ho
/-! what the throw stands on -/
abbrev nsE : String := "java/util/NoSuchElementException"
abbrev nsN : List String := ["java/lang/RuntimeException", "java/lang/Exception"]
def nx_E (s : State) : Prop := va_Nw (.declares ⟨"java/lang/RuntimeException", "<init>", "()V"⟩) s ∧ va_Nw (.declares ⟨"java/lang/Exception", "<init>", "()V"⟩) s ∧ va_Nw (.declares ⟨"java/lang/Throwable", "<init>", "()V"⟩) s ∧ va_Nw (.castable nsE nsE) s
theorem nx_E.warm {s U : State} (h : nx_E s) (hW : s.WarmedH U.vm) : nx_E U := ⟨h.1.warmD hW, h.2.1.warmD hW, h.2.2.1.warmD hW, h.2.2.2.warmC hW⟩
theorem nx_E.calling {U : State} (h : nx_E U) (g : JFrame) (mk : MethodId) (a : Array Value) : nx_E (U.calling g mk a) := ⟨h.1.same rfl rfl, h.2.1.same rfl rfl, h.2.2.1.same rfl rfl, h.2.2.2.same rfl rfl⟩
def nx_Z (G : am_G) (s : State) : Prop := vx_Zq Bundle.tN "UNASSIGNED_STACK" Bundle.steD (am_A G) s s.heap ∧ vx_Zq Bundle.tN "SUPPRESSED_SENTINEL" Bundle.listD (am_A G) s s.heap
theorem nx_Z.warm {s U : State} {H : Heap} {locs : List Loc} (h : nx_Z G s) (hS : va_S (am_A G) s.heap H locs) (hU : U.heap = H) (hW : s.WarmedH U.vm) : nx_Z G U := by
  refine ⟨?_, ?_⟩
  · rw [hU]; exact vx_Zq.moved hW.alike (h.1.kept hS.2.1)
  · rw [hU]; exact vx_Zq.moved hW.alike (h.2.kept hS.2.1)
theorem nx_Z.calling {U : State} (h : nx_Z G U) (g : JFrame) (mk : MethodId) (a : Array Value) : nx_Z G (U.calling g mk a) := ⟨vx_Zq.moved (Vm.Alike.refl U.vm) h.1, vx_Zq.moved (Vm.Alike.refl U.vm) h.2⟩
def nxE (l : Launch) (G : am_G) (s : State) : Prop := l.stackTraces = false ∧ nx_E s ∧ nx_Z G s

theorem nx_words {args : Array Value} {s : State} (ht : ∀ w ∈ am_tbl, w.before args s = true) (hE : nx_E s) : ∀ w ∈ Bundle.ownAtoms0 RX8 180 nsE nsN, vx_no w = true → w.before args s = true := by
  have h : ∀ w ∈ Bundle.ownAtoms0 RX8 180 nsE nsN, vx_no w = true → w.before args s = true := List.forall_mem_cons.mpr ⟨fun _ => ht _ (am_t1 (i := 17) rfl rfl), List.forall_mem_cons.mpr ⟨fun _ => ht _ (am_t5 (i := 37) rfl rfl), List.forall_mem_cons.mpr ⟨fun _ => ht _ (am_t5 (i := 46) rfl rfl), List.forall_mem_cons.mpr ⟨fun _ => ht _ (am_t5 (i := 48) rfl rfl), List.forall_mem_cons.mpr ⟨fun _ => ht _ (am_t5 (i := 51) rfl rfl), List.forall_mem_cons.mpr ⟨fun _ => ht _ (am_t5 (i := 53) rfl rfl), List.forall_mem_cons.mpr ⟨fun _ => ht _ (am_t5 (i := 38) rfl rfl), List.forall_mem_cons.mpr ⟨fun _ => ht _ (am_t5 (i := 39) rfl rfl), List.forall_mem_cons.mpr ⟨fun _ => ht _ (am_t1 (i := 29) rfl rfl), List.forall_mem_cons.mpr ⟨fun _ => ht _ (am_t1 (i := 30) rfl rfl), List.forall_mem_cons.mpr ⟨fun _ => ht _ (am_t5 (i := 40) rfl rfl), List.forall_mem_cons.mpr ⟨fun _ => ht _ (am_t5 (i := 45) rfl rfl), List.forall_mem_cons.mpr ⟨fun _ => ht _ (am_t5 (i := 49) rfl rfl), List.forall_mem_cons.mpr ⟨fun _ => ht _ (am_t5 (i := 65) rfl rfl), List.forall_mem_cons.mpr ⟨fun _ => ht _ (am_t5 (i := 27) rfl rfl), List.forall_mem_cons.mpr ⟨fun _ => ht _ (am_t5 (i := 66) rfl rfl), List.forall_mem_cons.mpr ⟨fun _ => ht _ (am_t5 (i := 29) rfl rfl), List.forall_mem_cons.mpr ⟨fun _ => ht _ (am_t5 (i := 67) rfl rfl), List.forall_mem_cons.mpr ⟨fun _ => ht _ (am_t5 (i := 31) rfl rfl), List.forall_mem_cons.mpr ⟨fun _ => ht _ (am_t5 (i := 41) rfl rfl), List.forall_mem_cons.mpr ⟨fun h => absurd h (by decide +kernel), List.forall_mem_cons.mpr ⟨fun _ => ht _ (am_t5 (i := 43) rfl rfl), List.forall_mem_cons.mpr ⟨fun h => absurd h (by decide +kernel), List.forall_mem_cons.mpr ⟨fun _ => ht _ (am_t5 (i := 33) rfl rfl), List.forall_mem_cons.mpr ⟨fun _ => ht _ (am_t5 (i := 55) rfl rfl), List.forall_mem_cons.mpr ⟨fun _ => ht _ (am_t5 (i := 56) rfl rfl), List.forall_mem_cons.mpr ⟨fun _ => ht _ (am_t5 (i := 57) rfl rfl), List.forall_mem_cons.mpr ⟨fun _ => ht _ (am_t5 (i := 58) rfl rfl), List.forall_mem_cons.mpr ⟨fun _ => va_Nw.use rfl hE.1, List.forall_mem_cons.mpr ⟨fun _ => ht _ (am_t5 (i := 58) rfl rfl), List.forall_mem_cons.mpr ⟨fun _ => ht _ (am_t5 (i := 59) rfl rfl), List.forall_mem_cons.mpr ⟨fun _ => ht _ (am_t5 (i := 60) rfl rfl), List.forall_mem_cons.mpr ⟨fun _ => ht _ (am_t5 (i := 61) rfl rfl), List.forall_mem_cons.mpr ⟨fun _ => va_Nw.use rfl hE.2.1, List.forall_mem_cons.mpr ⟨fun _ => ht _ (am_t5 (i := 61) rfl rfl), List.forall_mem_cons.mpr ⟨fun _ => ht _ (am_t5 (i := 62) rfl rfl), List.forall_mem_cons.mpr ⟨fun _ => ht _ (am_t5 (i := 63) rfl rfl), List.forall_mem_cons.mpr ⟨fun _ => ht _ (am_t5 (i := 38) rfl rfl), List.forall_mem_cons.mpr ⟨fun _ => va_Nw.use rfl hE.2.2.1, List.forall_mem_cons.mpr ⟨fun _ => ht _ (am_t5 (i := 54) rfl rfl), List.forall_mem_cons.mpr ⟨fun _ => ht _ (am_t5 (i := 16) rfl rfl), List.forall_mem_cons.mpr ⟨fun _ => va_Nw.use rfl hE.2.2.2, List.forall_mem_cons.mpr ⟨fun _ => ht _ (am_t5 (i := 24) rfl rfl), List.forall_mem_cons.mpr ⟨fun _ => ht _ (am_t5 (i := 25) rfl rfl), List.forall_mem_cons.mpr ⟨fun _ => ht _ (am_t5 (i := 26) rfl rfl), List.forall_mem_cons.mpr ⟨fun _ => ht _ (am_t5 (i := 28) rfl rfl), List.forall_mem_cons.mpr ⟨fun _ => ht _ (am_t5 (i := 30) rfl rfl), List.forall_mem_cons.mpr ⟨fun _ => ht _ (am_t5 (i := 32) rfl rfl), List.forall_mem_cons.mpr ⟨fun h => absurd h (by decide +kernel), List.forall_mem_cons.mpr ⟨fun h => absurd h (by decide +kernel), List.forall_mem_cons.mpr ⟨fun _ => ht _ (am_t5 (i := 36) rfl rfl), List.forall_mem_cons.mpr ⟨fun _ => ht _ (am_t5 (i := 35) rfl rfl), List.forall_mem_cons.mpr ⟨fun _ => ht _ (am_t5 (i := 34) rfl rfl), fun _ h => absurd h List.not_mem_nil⟩⟩⟩⟩⟩⟩⟩⟩⟩⟩⟩⟩⟩⟩⟩⟩⟩⟩⟩⟩⟩⟩⟩⟩⟩⟩⟩⟩⟩⟩⟩⟩⟩⟩⟩⟩⟩⟩⟩⟩⟩⟩⟩⟩⟩⟩⟩⟩⟩⟩⟩⟩⟩
  exact h
theorem nx_at {args : Array Value} {s : State} (ht : ∀ w ∈ am_tbl, w.before args s = true) (hE : nx_E s) : ∀ w ∈ vx_at0 RX8 180 nsE nsN, w.before args s = true := fun w hw => nx_words ht hE w (List.mem_filter.mp hw).1 (List.mem_filter.mp hw).2
theorem nx_good : ∀ w ∈ Cond.classLink RX8 178 nsE :: Cond.initialized nsE :: vx_at0 RX8 180 nsE nsN, vx_ot w = true := by decide +kernel
theorem nx_k : Cond.classLink RX8 178 nsE ∈ am_tbl := am_t5 (i := 15) rfl rfl
theorem nx_i : Cond.initialized nsE ∈ am_tbl := am_t1 (i := 20) rfl rfl
def nx_X (G : am_G) (mem : am_M) : String → State → State → Prop := fun E st t => E = nsE ∧ am_P G mem t.heap ∧ va_F (am_A G) st t
/-- 'throw new NoSuchElementException()', not caught here -/
theorem gn_throw {Qc : Array Value → State → Outcome → State → Prop} (hM : M.1 = RX8) (d0 : decode M.2.1 pc = .ok (.new 178, 3)) (d3 : decode M.2.1 (pc + 3) = .ok (.dup, 1)) (d4 : decode M.2.1 (pc + 4) = .ok (.invokespecial 180, 3)) (d7 : decode M.2.1 (pc + 7) = .ok (.athrow, 1)) (hc : ce + 1 ≤ mc) (hs : sl + 6 ≤ ms) (hd : 4 ≤ d) : gn l G M d mc ms (fun s c => nxE l G s ∧ ∀ x ∈ c.exceptionTable.toList, False) (fun below args s => vx_MQ below Qc (nx_X G mem) args s mc ms (am_A G)) pc ls [] (am_P G mem) ce sl := by
  intro p e R s m args below meth c H locs lsM C D hP hS hl ho
  obtain ⟨⟨hlt, hE, hZ⟩, hno⟩ := D.2.2.2.2
  have ht := C.2.2.2.2.1
  have hown := C.2.2.2.1
  rw [hM] at hown
  have hf1 := C.2.2.2.2.2.2.2.2.2.1
  have hf2 := C.2.2.2.2.2.2.2.2.2.2.1
  exact vx_throw0 (own := RX8) (cls := nsE) (names := nsN) (ik := 178) (ic := 180) (A := am_A G) C.1 C.2.1 hlt hown (by decide +kernel) (by decide +kernel) (ht _ nx_k) (ht _ nx_i) (nx_at ht hE) nx_good hZ.1 hZ.2 hS (hl.1.trans C.2.2.1.symm) d0 d3 d4 d7 (fun x hx => (hno x hx).elim) (by show 2 + 3 < R.frames; omega) (by show 0 + (13 * (2 + 1) + 42) ≤ R.locals; omega) (Nat.le_trans hc D.1) (Nat.le_trans hs D.2.1) C.2.2.2.2.2.2.1 (fun t hA hz hk => ⟨rfl, ⟨hP.1.kept (fun k x hx => hk x.1 (hP.1 k x hx).lt), hP.2⟩, ⟨Nat.le_trans hS.1 hz, fun q h1 h2 => (hk q (Nat.lt_of_lt_of_le h1 hS.1)).trans (hS.2.1 q h1 h2)⟩⟩) hS.2.2 hc hs
/-! contracts of methods that throw -/
def w_B (G : am_G) (Wd : Heap → Prop) (U : State) : Prop := g_B G Wd U ∧ nx_E U ∧ nx_Z G U
theorem w_Pc_blind {as : List am_V} : FrameBlind (va_Pc (as.map (am_enc G)) (w_B G Wd)) := by
  intro a U g mk h
  obtain ⟨h1, ⟨h2, h3, h4, h5, h6⟩, h7, h8⟩ := h
  exact ⟨h1, ⟨h2, va_K.moved (u := U) (U := U.calling g mk a) (Vm.Alike.refl U.vm) h3, h4, h5.calling g mk a, h6.calling g mk a⟩, h7.calling g mk a, h8.calling g mk a⟩
theorem w_Pc_of {as : List am_V} {s : State} {H : Heap} {locs : List Loc} {U : State} (hP : Wd H) (hK : va_K G.2.1 vwCl (am_tys G) s) (hB : G.1 ≤ s.heap.size) (hX : am_X G s) (hE : bm_E s) (hN : nx_E s) (hZ : nx_Z G s) (hS : va_S (am_A G) s.heap H locs) (hU : U.heap = H) (hW : s.WarmedH U.vm) : va_Pc (as.map (am_enc G)) (w_B G Wd) (as.map (am_enc G)).toArray U :=
  ⟨rfl, (g_Pc_of (as := as) hP hK hB hX hE hS hU hW).2, hN.warm hW, hZ.warm hS hU hW⟩
def x_Sm (l : Launch) (G : am_G) (y : MethodName) (M : am_Mt) (d : Nat) (as : List am_V) (mem : am_M) : Prop :=
  (∀ a ∈ as, am_okv a) → vx_Met l y (am_wd y M) (g_room d 1 6) (va_Pc (as.map (am_enc G)) (w_B G (am_P G mem))) (fun _ _ _ _ => False) (nx_X G mem) 1 6 (am_A G)
theorem x_enter {y : MethodName} {as : List am_V} (hlt : l.stackTraces = false) (hy : plainName y.cls = true) (hc : y.cls = M.1) (hr : M.2.2.2 ≠ none) (hn : (am_lay as).length ≤ M.2.2.1) (hl : am_lay as ++ List.replicate (M.2.2.1 - (am_lay as).length) none = ls) (k : gn l G M d 1 6 (fun s c => nxE l G s ∧ ∀ x ∈ c.exceptionTable.toList, False) (fun below args s => vx_MQ below (fun _ _ _ _ => False) (nx_X G mem) args s 1 6 (am_A G)) 0 ls [] (am_P G mem) 0 0) : x_Sm l G y M d as mem := by
  intro hok
  subst hl
  refine vx_ofW (cc := M.2.1) (maxL := M.2.2.1) (ret := M.2.2.2) hy rfl ?_
  intro p e s m args below meth c s₁ B hml hno hv
  obtain ⟨rfl, ⟨hP, hK, hB, hX, hE⟩, hN, hZ⟩ := hv
  have hts := atoms_spec (ws := am_wd y M) B.pre
  have hown : s.vm.findClass y.cls = some m.cls := findClass_of_methodNamed B.named
  have hl := lv_entry (as.map (am_enc G)) (n := M.2.2.1) (by rw [am_lay_len]; exact hn)
  rw [lg_entry_eq]
  refine k p e _ s m _ below meth c s.heap [] _ ⟨B.exec, B.bytes, hml, by rw [← hc]; exact hown, fun w hw => hts w (List.mem_cons_of_mem _ hw), B.returns, B.notSynchronized, hK, hB, Nat.le_refl _, Nat.le_refl _, hX⟩ ⟨Nat.le_refl _, Nat.le_refl _, fun h => absurd h hr, hE, ⟨hlt, hN, hZ⟩, hno⟩ hP va_S.rf ⟨hl.1, hl.2.1, fun i v hi => ?_⟩ (fun v h => by cases h)
  have hi2 : (am_lay as)[i]? = some (some v) := by
    rw [List.getElem?_append] at hi
    split at hi
    · exact hi
    · rw [List.getElem?_replicate] at hi
      split at hi <;> simp at hi
  obtain ⟨h1, h2⟩ := am_lay_get G as 0 i v hi2
  rw [Nat.zero_add] at h1
  exact ⟨hl.2.2 _ h1, hok v h2⟩
def w_Sm (l : Launch) (G : am_G) (y : MethodName) (M : am_Mt) (hh : List (Nat × Nat × Nat × Nat)) (d mc ms : Nat) (as : List am_V) (Wd : Heap → Prop) (v : Option am_V) (Wd2 : Heap → Prop) : Prop :=
  (∀ a ∈ as, am_okv a) → Met l y (Cond.codeWith y M.2.1 M.2.2.1 M.2.2.2 hh :: am_tbl) (g_room d mc ms) (va_Pc (as.map (am_enc G)) (w_B G Wd)) (g_Qc G v Wd2) mc ms (am_A G)
theorem w_enter {y : MethodName} {as : List am_V} {v : Option am_V} {hh : List (Nat × Nat × Nat × Nat)} (hlt : l.stackTraces = false) (hy : plainName y.cls = true) (hc : y.cls = M.1) (hr : M.2.2.2 ≠ none) (hn : (am_lay as).length ≤ M.2.2.1) (hl : am_lay as ++ List.replicate (M.2.2.1 - (am_lay as).length) none = ls) (k : gn l G M d mc ms (fun s c => nxE l G s ∧ c.exceptionTable.toList = tableOf hh) (gZ G v Wd2 mc ms) 0 ls [] Wd 0 0) : w_Sm l G y M hh d mc ms as Wd v Wd2 := by
  intro hok
  subst hl
  refine va_MetW (cc := M.2.1) (maxL := M.2.2.1) (ret := M.2.2.2) (hh := hh) hy rfl ?_
  intro p e s m args below meth c s₁ B hml hv
  obtain ⟨rfl, ⟨hP, hK, hB, hX, hE⟩, hN, hZ⟩ := hv
  have hts := atoms_spec (ws := Cond.codeWith y M.2.1 M.2.2.1 M.2.2.2 hh :: am_tbl) B.pre
  have hown : s.vm.findClass y.cls = some m.cls := findClass_of_methodNamed B.named
  have htab := vx_table (x := y) B (hts _ List.mem_cons_self)
  have hl := lv_entry (as.map (am_enc G)) (n := M.2.2.1) (by rw [am_lay_len]; exact hn)
  rw [lg_entry_eq]
  refine k p e _ s m _ below meth c s.heap [] _ ⟨B.exec, B.bytes, hml, by rw [← hc]; exact hown, fun w hw => hts w (List.mem_cons_of_mem _ hw), B.returns, B.notSynchronized, hK, hB, Nat.le_refl _, Nat.le_refl _, hX⟩ ⟨Nat.le_refl _, Nat.le_refl _, fun h => absurd h hr, hE, ⟨hlt, hN, hZ⟩, htab⟩ hP va_S.rf ⟨hl.1, hl.2.1, fun i v hi => ?_⟩ (fun v h => by cases h)
  have hi2 : (am_lay as)[i]? = some (some v) := by
    rw [List.getElem?_append] at hi
    split at hi
    · exact hi
    · rw [List.getElem?_replicate] at hi
      split at hi <;> simp at hi
  obtain ⟨h1, h2⟩ := am_lay_get G as 0 i v hi2
  rw [Nat.zero_add] at h1
  exact ⟨hl.2.2 _ h1, hok v h2⟩
/-- a call that throws, caught by the one row of the table -/
theorem gn_callX {y : MethodName} {M' : am_Mt} {hh : List (Nat × Nat × Nat × Nat)} {x : ExceptionTableEntry} {i n d' b cb nb : Nat} {as rest : List am_V} {Cn : String} {T : u_T} {N : Nat} (hd : decode M.2.1 pc = .ok (.invokevirtual i, 3)) (hm : am_ML M.1 i y M' n) (hs : Cond.instanceMethod y ∈ am_tbl ∧ Cond.selects Cn y y ∈ am_tbl) (hcl : vwCl[cb]? = some (Cn, T, N)) (hb : am_ks[b]? = some (cb, nb)) (hcb : cb < 100) (hdd : d' + 1 ≤ d) (hn : as.length = n) (hst : st = as.reverse ++ .inr (.inr (b + 1)) :: rest) (hw : am_wsum rest ≤ 8) (h1 : ce + 1 ≤ mc) (h2 : sl + 6 ≤ ms) (hc : x_Sm l G y M' d' (.inr (.inr (b + 1)) :: as) mem) (htb : tableOf hh = [x]) (hx : covers x pc = true) (hx0 : x.catchType ≠ 0) (hlk : Cond.classLink M.1 x.catchType nsE ∈ am_tbl)
    (k : ∀ (p : Program) (e : Env) (R : Room) (s : State) (m : MethodId) (args : Array Value) (below : List Frame) (meth : Method) (c : Code) (H : Heap) (locs : List Loc) (lsM : Array Slot) (q9 : Addr), am_C G M d p R s m args meth c → am_P G mem H → va_S (am_A G) s.heap H locs → am_lr G M.2.2.1 ls lsM → W p l e R s m args below meth c H locs (ce + 1) (sl + 6) (Z below args s) (F0 m x.handlerPc lsM [.ref q9])) : gn l G M d mc ms (fun s c => nxE l G s ∧ c.exceptionTable.toList = tableOf hh) Z pc ls st (am_P G mem) ce sl := by
  subst hst
  intro p e R s m args below meth c H locs lsM C D hP hS hl ho
  have hok : ∀ v ∈ (.inr (.inr (b + 1)) :: as : List am_V), am_okv v := fun v hv => by
    rcases List.mem_cons.mp hv with rfl | hv
    · trivial
    · exact ho v (List.mem_append_left _ (List.mem_reverse.mpr hv))
  obtain ⟨⟨hlt, hE, hZ⟩, htab⟩ := D.2.2.2.2
  have ht := C.2.2.2.2.1
  have hb' := am_ks_lt hb
  have hwb : (am_ws G mem)[b]? = some (am_ad G b, .inr (cb, (List.range nb).map (fun k => am_enc G (am_tag (am_ft cb k) (am_rd mem cb b k))))) := by rw [am_ws_get hb', am_cell_o hb hcb, am_ad_lt hb']
  have hr := vx_runV (e := e) (below := below) (meth := meth) (locs := locs) (cells := ce) (slots := sl) (g := F0 m pc lsM ((as.reverse ++ .inr (.inr (b + 1)) :: rest).map (am_enc G))) (H := H) (b := am_ad G b) (As := as.map (am_enc G)) (rest := rest.map (am_enc G)) ⟨C.1, C.2.1, C.2.2.1, C.2.2.2.1, ht⟩ (hc hok) ⟨g_callB hm ht hdd ⟨C.2.2.2.2.2.2.2.2.2.1, C.2.2.2.2.2.2.2.2.2.2.1⟩, ht _ hs.1, ht _ hs.2⟩ ⟨w_Pc_blind, va_recv C.2.2.2.2.2.2.2.1 hP.1 hcl hwb, fun U hU hW => w_Pc_of (as := .inr (.inr (b + 1)) :: as) hP C.2.2.2.2.2.2.2.1 C.2.2.2.2.2.2.2.2.1 C.2.2.2.2.2.2.2.2.2.2.2 D.2.2.2.1 hE hZ hS hU hW⟩ rfl (by simpa using hn) hl.1 (by simp; rfl) (lv_room (by rw [am_wsum_eq]; exact hw)) hd ⟨Nat.le_trans h1 D.1, Nat.le_trans h2 D.2.1⟩
  intro T hT X
  rcases hr T hT X with ⟨v, st₀, t, T', L, g0, X', hL, e1, e2, hq, stp⟩ | ⟨q9, st₀, t, T', L, E9, ce9, g0, X', hL, e1, e2, ⟨hE9, hP1, hF⟩, hce, hcv, hcl9, stp⟩
  · exact hq.elim
  · subst hE9
    obtain ⟨hz, hk⟩ := hF
    rw [g0] at hz hk
    have hS1 : va_S (am_A G) s.heap T'.heap (locs ++ L) := ⟨Nat.le_trans hS.1 (by rw [e1]; exact hz), fun q h1 h2 => by rw [e1, hk q (Nat.lt_of_lt_of_le h1 hS.1) h2]; exact hS.2.1 q h1 h2, fun q hq => by
      rcases List.mem_append.mp hq with h | h
      · exact hS.2.2 q h
      · exact hL q h⟩
    have kx := vx_catch (p := p) (l := l) (e := e) (R := R) (s := s) (m := m) (args := args) (below := below) (meth := meth) (c := c) (H := T'.heap) (locs := locs ++ L) (cells := ce + 1) (slots := sl + 6) (Q := Z below args s) (pc := pc) (ls := lsM) (rest := rest.map (am_enc G)) (own := M.1) (name := nsE) (E := nsE) (ce := ce9) (q := q9) C.2.2.2.1 [] x [] (by rw [htab, htb]; rfl) (fun z hz => nomatch hz) hx hx0 (ht _ hlk) (va_Nw.use rfl hE.2.2.2) (by rw [e1]; exact hce) hcv hcl9 (k p e R s m args below meth c T'.heap (locs ++ L) lsM q9 C (by rw [e1]; exact hP1) hS1 hl)
    obtain ⟨t2, a1, b1⟩ := kx T' rfl X'
    exact ⟨t2, stp.trans a1, b1⟩
/-- a static call of a method with a table -/
theorem gn_callW {y : MethodName} {M' : am_Mt} {hh : List (Nat × Nat × Nat × Nat)} {i n d' mc1 ms1 : Nat} {as rest : List am_V} {v : Option am_V} (hE : ∀ s c, E s c → nx_E s ∧ nx_Z G s) (hv : am_okr v) (hd : decode M.2.1 pc = .ok (.invokestatic i, 3)) (hm1 : Cond.methodLink M.1 i y ∈ am_tbl) (hm2 : Cond.codeWith y M'.2.1 M'.2.2.1 M'.2.2.2 hh ∈ am_tbl) (hm3 : Cond.initialized y.cls ∈ am_tbl) (hm4 : y.cls ≠ "java/lang/invoke/MethodHandle" ∧ y.cls ≠ "java/lang/invoke/VarHandle") (hm5 : (parseMethodDescriptor y.desc).map (fun d => d.parameters.length) = some n) (hm6 : M'.2.2.1 ≤ 30) (hs : Cond.static y ∈ am_tbl) (hdd : d' + 1 ≤ d) (hn : as.length = n) (hst : st = as.reverse ++ rest) (hw : am_wsum rest ≤ 8) (hq : pc + 3 = q) (h1 : ce + mc1 ≤ mc) (h2 : sl + ms1 ≤ ms) (hc : w_Sm l G y M' hh d' mc1 ms1 as Wd v Wd2) (k : gn l G M d mc ms E Z q ls (v.toList ++ rest) Wd2 (ce + mc1) (sl + ms1)) : gn l G M d mc ms E Z pc ls st Wd ce sl := by
  subst hq; subst hst
  intro p e R s m args below meth c H locs lsM C D hP hS hl ho
  have hok : ∀ v ∈ as, am_okv v := fun v hv => ho v (List.mem_append_left _ (List.mem_reverse.mpr hv))
  have hor : ∀ v ∈ rest, am_okv v := fun v hv => ho v (List.mem_append_right _ hv)
  obtain ⟨hN, hZ⟩ := hE s c D.2.2.2.2
  have ht := C.2.2.2.2.1
  have hR1 := C.2.2.2.2.2.2.2.2.2.1
  have hR2 := C.2.2.2.2.2.2.2.2.2.2.1
  have hG : GoodIn am_tbl (Cond.codeWith y M'.2.1 M'.2.2.1 M'.2.2.2 hh :: am_tbl) := fun w hw => by
    rcases List.mem_cons.mp hw with rfl | hw
    · exact am_tbl_good _ hm2
    · exact am_tbl_good _ hw
  refine gn_back (rest := rest) (Qa := g_Qc G v Wd2 (as.map (am_enc G)).toArray) (mc1 := mc1) (ms1 := ms1) ?_ C D hS hl hor (fun v9 st t hq => ⟨v, Wd2, Outcome.returned.inj hq.1.1, hv, hq.1.2.1, hq.2, k⟩)
  refine vx_runSW (As := as.map (am_enc G)) (rest := rest.map (am_enc G)) ⟨C.1, C.2.1, C.2.2.1, C.2.2.2.1, ht⟩ (hc hok) ⟨⟨rfl, rfl, ?_, ?_, pay_in ht hG, List.mem_cons_self⟩, ht _ hm2, ht _ hm3, hm4, fun sig h => ?_, ht _ hm1, ht _ hs⟩ ⟨w_Pc_blind, fun U hU hW => w_Pc_of (as := as) hP C.2.2.2.2.2.2.2.1 C.2.2.2.2.2.2.2.2.1 C.2.2.2.2.2.2.2.2.2.2.2 D.2.2.2.1 hN hZ hS hU hW⟩ rfl (by simpa using hn) hl.1 (by simp) (lv_room (by rw [am_wsum_eq]; exact hw)) hd ⟨Nat.le_trans h1 D.1, Nat.le_trans h2 D.2.1⟩
  · show d' + 2 + 1 ≤ _; omega
  · show 8 + (M'.2.2.1 + 11) + (60 * d' + 100) ≤ _; omega
  · rw [h] at hm5; exact (Option.some.inj hm5).symm
end GA
