/-! a machine whose cells are being made: any world of the heap, cells and slots counted -/
def bm_nests : List (String × Nat × MethodName) := [(RX8, 9, yX7_init), (RX8, 18, yX3_init), (RX8, 25, yX6_init), (RX6, 33, yX4_init), (RX8, 32, yX0_init), (RX2, 17, yX0_init), (RX8, 60, yX5_init), (RX8, 98, yX4_init), (RX1, 18, yX8_put)]
def bm_N (s : State) : Prop := ∀ q ∈ bm_nests, va_Nw (.methodLinkNest q.1 q.2.1 q.2.2 "HeldInTrust") s
def bm_E (s : State) : Prop := va_AO "HeldInTrust$Estate" s ∧ bm_N s
theorem bm_E.warm {s U : State} (h : bm_E s) (hW : s.WarmedH U.vm) : bm_E U := ⟨h.1.moved hW.alike, fun q hq => (h.2 q hq).warmM hW⟩
theorem bm_E.calling {U : State} (h : bm_E U) (g : JFrame) (mk : MethodId) (a : Array Value) : bm_E (U.calling g mk a) := ⟨h.1.moved (Vm.Alike.refl U.vm), fun q hq => (h.2 q hq).same rfl rfl⟩
def gD (E : State → Code → Prop) (M : am_Mt) (mc ms : Nat) (R : Room) (s : State) (meth : Method) (c : Code) : Prop := mc ≤ R.cells ∧ ms ≤ R.slots ∧ (M.2.2.2 = none → meth.name = "<init>") ∧ bm_E s ∧ E s c
def gn (l : Launch) (G : am_G) (M : am_Mt) (d mc ms : Nat) (E : State → Code → Prop) (Z : List Frame → Array Value → State → State → Prop) (pc : Nat) (ls : am_L) (st : List am_V) (Wd : Heap → Prop) (ce sl : Nat) : Prop :=
  ∀ (p : Program) (e : Env) (R : Room) (s : State) (m : MethodId) (args : Array Value) (below : List Frame) (meth : Method) (c : Code) (H : Heap) (locs : List Loc) (lsM : Array Slot),
    am_C G M d p R s m args meth c → gD E M mc ms R s meth c → Wd H → va_S (am_A G) s.heap H locs → am_lr G M.2.2.1 ls lsM → (∀ v ∈ st, am_okv v) →
    W p l e R s m args below meth c H locs ce sl (Z below args s) (F0 m pc lsM (st.map (am_enc G)))
section GN
variable {l : Launch} {G : am_G} {M : am_Mt} {d mc ms : Nat} {E : State → Code → Prop} {Z : List Frame → Array Value → State → State → Prop} {pc q t : Nat} {ls ls' : am_L} {st : List am_V} {Wd Wd2 : Heap → Prop} {ce sl : Nat}
theorem gn_st {st1 : List am_V} (k : gn l G M d mc ms E Z q ls st1 Wd ce sl) (hok : (∀ v ∈ ls, ∀ u, v = some u → am_okv u) → (∀ v ∈ st, am_okv v) → ∀ v ∈ st1, am_okv v)
    (hw : ∀ {p : Program} {e : Env} {R : Room} {s : State} {m : MethodId} {args : Array Value} {below : List Frame} {meth : Method} {c : Code} {H : Heap} {locs : List Loc} {lsM : Array Slot} {Z9 : State → Prop}, am_C G M d p R s m args meth c → gD E M mc ms R s meth c → am_lr G M.2.2.1 ls lsM → (∀ v ∈ st, am_okv v) →
      W p l e R s m args below meth c H locs ce sl Z9 (F0 m q lsM (st1.map (am_enc G))) → W p l e R s m args below meth c H locs ce sl Z9 (F0 m pc lsM (st.map (am_enc G))))
    : gn l G M d mc ms E Z pc ls st Wd ce sl := by
  intro p e R s m args below meth c H locs lsM C D hP hS hl ho
  refine hw C D hl ho (k p e R s m args below meth c H locs lsM C D hP hS hl (hok (fun v hv u hu => ?_) ho))
  obtain ⟨i, hi⟩ := List.getElem?_of_mem hv
  exact (hl.2.2 i u (by rw [hi, hu])).2
theorem gn_mono (h : ∀ H, Wd H → Wd2 H) (k : gn l G M d mc ms E Z pc ls st Wd2 ce sl) : gn l G M d mc ms E Z pc ls st Wd ce sl :=
  fun p e R s m args below meth c H locs lsM C D hP hS hl ho => k p e R s m args below meth c H locs lsM C D (h H hP) hS hl ho
theorem gn_wide {ce2 sl2 : Nat} (h1 : ce ≤ ce2) (h2 : sl ≤ sl2) (k : gn l G M d mc ms E Z pc ls st Wd ce2 sl2) : gn l G M d mc ms E Z pc ls st Wd ce sl :=
  fun p e R s m args below meth c H locs lsM C D hP hS hl ho => W.widen h1 h2 (k p e R s m args below meth c H locs lsM C D hP hS hl ho)
theorem gn_iconst {n : Int} (hd : decode M.2.1 pc = .ok (.iconst n, 1)) (hn : am_ok n) (hq : pc + 1 = q) (k : gn l G M d mc ms E Z q ls (.inl n :: st) Wd ce sl) : gn l G M d mc ms E Z pc ls st Wd ce sl := by
  subst hq
  exact gn_st k (fun _ ho => am_k0 ho hn) (fun C D hl ho k => lv_iconst C.1 C.2.1 hd rfl k)
theorem gn_bipush {n : Int} (hd : decode M.2.1 pc = .ok (.bipush n, 2)) (hn : -128 ≤ n ∧ n ≤ 127) (hq : pc + 2 = q) (k : gn l G M d mc ms E Z q ls (.inl n :: st) Wd ce sl) : gn l G M d mc ms E Z pc ls st Wd ce sl := by
  subst hq
  exact gn_st k (fun _ ho => am_k0 ho (show am_ok n by unfold am_ok; omega)) (fun C D hl ho k => lv_bipush C.1 C.2.1 hd (am_b8 hn) k)
theorem gn_sipush {n : Int} (hd : decode M.2.1 pc = .ok (.sipush n, 3)) (hn : -32768 ≤ n ∧ n ≤ 32767) (hq : pc + 3 = q) (k : gn l G M d mc ms E Z q ls (.inl n :: st) Wd ce sl) : gn l G M d mc ms E Z pc ls st Wd ce sl := by
  subst hq
  exact gn_st k (fun _ ho => am_k0 ho (show am_ok n by unfold am_ok; omega)) (fun C D hl ho k => lv_sipush C.1 C.2.1 hd (am_b16 hn) k)
theorem gn_iload_n {i : Fin 4} {x : Int} (hd : decode M.2.1 pc = .ok (.iload_n i, 1)) (hx : ls[(i : Nat)]? = some (some (.inl x))) (hq : pc + 1 = q) (k : gn l G M d mc ms E Z q ls (.inl x :: st) Wd ce sl) : gn l G M d mc ms E Z pc ls st Wd ce sl := by
  subst hq
  exact gn_st k (fun hl ho => am_k0 ho (hl _ (List.mem_of_getElem? hx) _ rfl)) (fun C D hl ho k => lv_iload_n C.1 C.2.1 hd rfl (hl.2.2 _ _ hx).1 k)
theorem gn_iload {i : Nat} {x : Int} (hd : decode M.2.1 pc = .ok (.iload i, 2)) (hx : ls[i]? = some (some (.inl x))) (hq : pc + 2 = q) (k : gn l G M d mc ms E Z q ls (.inl x :: st) Wd ce sl) : gn l G M d mc ms E Z pc ls st Wd ce sl := by
  subst hq
  exact gn_st k (fun hl ho => am_k0 ho (hl _ (List.mem_of_getElem? hx) _ rfl)) (fun C D hl ho k => lv_iload C.1 C.2.1 hd (hl.2.2 _ _ hx).1 k)
theorem gn_lload_n {i : Fin 4} {x : Int} (hd : decode M.2.1 pc = .ok (.lload_n i, 1)) (hx : ls[(i : Nat)]? = some (some (.inr (.inl x)))) (hq : pc + 1 = q) (k : gn l G M d mc ms E Z q ls (.inr (.inl x) :: st) Wd ce sl) : gn l G M d mc ms E Z pc ls st Wd ce sl := by
  subst hq
  exact gn_st k (fun hl ho => am_k0 ho (hl _ (List.mem_of_getElem? hx) _ rfl)) (fun C D hl ho k => lv_lload_n C.1 C.2.1 hd rfl (hl.2.2 _ _ hx).1 k)
theorem gn_lload {i : Nat} {x : Int} (hd : decode M.2.1 pc = .ok (.lload i, 2)) (hx : ls[i]? = some (some (.inr (.inl x)))) (hq : pc + 2 = q) (k : gn l G M d mc ms E Z q ls (.inr (.inl x) :: st) Wd ce sl) : gn l G M d mc ms E Z pc ls st Wd ce sl := by
  subst hq
  exact gn_st k (fun hl ho => am_k0 ho (hl _ (List.mem_of_getElem? hx) _ rfl)) (fun C D hl ho k => lv_lload C.1 C.2.1 hd (hl.2.2 _ _ hx).1 k)
theorem gn_aload_n {i : Fin 4} {x : Nat} (hd : decode M.2.1 pc = .ok (.aload_n i, 1)) (hx : ls[(i : Nat)]? = some (some (.inr (.inr (x + 1))))) (hq : pc + 1 = q) (k : gn l G M d mc ms E Z q ls (.inr (.inr (x + 1)) :: st) Wd ce sl) : gn l G M d mc ms E Z pc ls st Wd ce sl := by
  subst hq
  exact gn_st k (fun hl ho => am_k0 ho (hl _ (List.mem_of_getElem? hx) _ rfl)) (fun C D hl ho k => lv_aload_n C.1 C.2.1 hd rfl (hl.2.2 _ _ hx).1 k)
theorem gn_aload {i : Nat} {x : Nat} (hd : decode M.2.1 pc = .ok (.aload i, 2)) (hx : ls[i]? = some (some (.inr (.inr (x + 1))))) (hq : pc + 2 = q) (k : gn l G M d mc ms E Z q ls (.inr (.inr (x + 1)) :: st) Wd ce sl) : gn l G M d mc ms E Z pc ls st Wd ce sl := by
  subst hq
  exact gn_st k (fun hl ho => am_k0 ho (hl _ (List.mem_of_getElem? hx) _ rfl)) (fun C D hl ho k => lv_aload C.1 C.2.1 hd (hl.2.2 _ _ hx).1 k)
theorem gn_istore_n {i : Fin 4} {x : Int} (hd : decode M.2.1 pc = .ok (.istore_n i, 1)) (hi : (i : Nat) < M.2.2.1) (hs : am_set ls i (.inl x) = ls') (hq : pc + 1 = q) (k : gn l G M d mc ms E Z q ls' st Wd ce sl) : gn l G M d mc ms E Z pc ls (.inl x :: st) Wd ce sl := by
  subst hq; subst hs
  intro p e R s m args below meth c H locs lsM C D hP hS hl ho
  exact lv_istore_n C.1 C.2.1 hd rfl hl.has hi rfl (fun lsN hN => k p e R s m args below meth c H locs lsN C D hP hS (hl.set1 (v := .inl x) (am_kh ho) hN) (am_kt ho))
theorem gn_istore {i : Nat} {x : Int} (hd : decode M.2.1 pc = .ok (.istore i, 2)) (hi : i < M.2.2.1) (hs : am_set ls i (.inl x) = ls') (hq : pc + 2 = q) (k : gn l G M d mc ms E Z q ls' st Wd ce sl) : gn l G M d mc ms E Z pc ls (.inl x :: st) Wd ce sl := by
  subst hq; subst hs
  intro p e R s m args below meth c H locs lsM C D hP hS hl ho
  exact lv_istore C.1 C.2.1 hd hl.has hi rfl (fun lsN hN => k p e R s m args below meth c H locs lsN C D hP hS (hl.set1 (v := .inl x) (am_kh ho) hN) (am_kt ho))
theorem gn_lstore_n {i : Fin 4} {x : Int} (hd : decode M.2.1 pc = .ok (.lstore_n i, 1)) (hi : (i : Nat) + 1 < M.2.2.1) (hs : am_clr (am_set ls i (.inr (.inl x))) (i + 1) = ls') (hq : pc + 1 = q) (k : gn l G M d mc ms E Z q ls' st Wd ce sl) : gn l G M d mc ms E Z pc ls (.inr (.inl x) :: st) Wd ce sl := by
  subst hq; subst hs
  intro p e R s m args below meth c H locs lsM C D hP hS hl ho
  exact lv_lstore_n C.1 C.2.1 hd rfl hl.has hi rfl (fun lsN hN => k p e R s m args below meth c H locs lsN C D hP hS (hl.set2 (v := .inr (.inl x)) (am_kh ho) hN) (am_kt ho))
theorem gn_lstore {i : Nat} {x : Int} (hd : decode M.2.1 pc = .ok (.lstore i, 2)) (hi : i + 1 < M.2.2.1) (hs : am_clr (am_set ls i (.inr (.inl x))) (i + 1) = ls') (hq : pc + 2 = q) (k : gn l G M d mc ms E Z q ls' st Wd ce sl) : gn l G M d mc ms E Z pc ls (.inr (.inl x) :: st) Wd ce sl := by
  subst hq; subst hs
  intro p e R s m args below meth c H locs lsM C D hP hS hl ho
  exact lv_lstore C.1 C.2.1 hd hl.has hi rfl (fun lsN hN => k p e R s m args below meth c H locs lsN C D hP hS (hl.set2 (v := .inr (.inl x)) (am_kh ho) hN) (am_kt ho))
theorem gn_astore_n {i : Fin 4} {x : Nat} (hd : decode M.2.1 pc = .ok (.astore_n i, 1)) (hi : (i : Nat) < M.2.2.1) (hs : am_set ls i (.inr (.inr (x + 1))) = ls') (hq : pc + 1 = q) (k : gn l G M d mc ms E Z q ls' st Wd ce sl) : gn l G M d mc ms E Z pc ls (.inr (.inr (x + 1)) :: st) Wd ce sl := by
  subst hq; subst hs
  intro p e R s m args below meth c H locs lsM C D hP hS hl ho
  exact lv_astore_n C.1 C.2.1 hd rfl hl.has hi rfl (fun lsN hN => k p e R s m args below meth c H locs lsN C D hP hS (hl.set1 (v := .inr (.inr (x + 1))) (am_kh ho) hN) (am_kt ho))
theorem gn_astore {i : Nat} {x : Nat} (hd : decode M.2.1 pc = .ok (.astore i, 2)) (hi : i < M.2.2.1) (hs : am_set ls i (.inr (.inr (x + 1))) = ls') (hq : pc + 2 = q) (k : gn l G M d mc ms E Z q ls' st Wd ce sl) : gn l G M d mc ms E Z pc ls (.inr (.inr (x + 1)) :: st) Wd ce sl := by
  subst hq; subst hs
  intro p e R s m args below meth c H locs lsM C D hP hS hl ho
  exact lv_astore C.1 C.2.1 hd hl.has hi rfl (fun lsN hN => k p e R s m args below meth c H locs lsN C D hP hS (hl.set1 (v := .inr (.inr (x + 1))) (am_kh ho) hN) (am_kt ho))
theorem gn_iinc {i : Nat} {x n : Int} (hd : decode M.2.1 pc = .ok (.iinc i n, 3)) (hx : ls[i]? = some (some (.inl x))) (hi : i < M.2.2.1) (hs : am_set ls i (.inl (am_w32 (x + n))) = ls') (hq : pc + 3 = q) (k : gn l G M d mc ms E Z q ls' st Wd ce sl) : gn l G M d mc ms E Z pc ls st Wd ce sl := by
  subst hq; subst hs
  intro p e R s m args below meth c H locs lsM C D hP hS hl ho
  obtain ⟨j, hj⟩ := List.getElem?_of_mem (am_lv_in (G := G) hx)
  refine lv_iinc C.1 C.2.1 hd hl.has hj (v := Int32.ofInt (am_w32 (x + n))) (by rw [am_w32_of, Int32.ofInt_add]) hi rfl (fun lsN hN => k p e R s m args below meth c H locs lsN C D hP hS (hl.set1 (v := .inl (am_w32 (x + n))) (am_w32_ok _) hN) ho)
theorem gn_iadd {x y : Int} (hd : decode M.2.1 pc = .ok (.iadd, 1)) (hq : pc + 1 = q) (k : gn l G M d mc ms E Z q ls (.inl (am_w32 (x + y)) :: st) Wd ce sl) : gn l G M d mc ms E Z pc ls (.inl y :: .inl x :: st) Wd ce sl := by
  subst hq
  exact gn_st k (fun _ ho => am_k2 ho (am_w32_ok _)) (fun C D hl ho k => lv_iadd C.1 C.2.1 hd (by simpa only [List.map_cons, am_enc, am_w32_of, Int32.ofInt_add] using k))
theorem gn_isub {x y : Int} (hd : decode M.2.1 pc = .ok (.isub, 1)) (hq : pc + 1 = q) (k : gn l G M d mc ms E Z q ls (.inl (am_w32 (x - y)) :: st) Wd ce sl) : gn l G M d mc ms E Z pc ls (.inl y :: .inl x :: st) Wd ce sl := by
  subst hq
  exact gn_st k (fun _ ho => am_k2 ho (am_w32_ok _)) (fun C D hl ho k => lv_isub C.1 C.2.1 hd (by simpa only [List.map_cons, am_enc, am_w32_of, Int32.ofInt_sub] using k))
theorem gn_imul {x y : Int} (hd : decode M.2.1 pc = .ok (.imul, 1)) (hq : pc + 1 = q) (k : gn l G M d mc ms E Z q ls (.inl (am_w32 (x * y)) :: st) Wd ce sl) : gn l G M d mc ms E Z pc ls (.inl y :: .inl x :: st) Wd ce sl := by
  subst hq
  exact gn_st k (fun _ ho => am_k2 ho (am_w32_ok _)) (fun C D hl ho k => lv_imul C.1 C.2.1 hd (by simpa only [List.map_cons, am_enc, am_w32_of, Int32.ofInt_mul] using k))
theorem gn_iand {x y : Int} (hd : decode M.2.1 pc = .ok (.iand, 1)) (hq : pc + 1 = q) (k : gn l G M d mc ms E Z q ls (.inl (am_and x y) :: st) Wd ce sl) : gn l G M d mc ms E Z pc ls (.inl y :: .inl x :: st) Wd ce sl := by
  subst hq
  exact gn_st k (fun _ ho => am_k2 ho (am_ok_i _)) (fun C D hl ho k => lv_iand C.1 C.2.1 hd (by simpa only [List.map_cons, am_enc, am_and, Int32.ofInt_toInt] using k))
theorem gn_ishr {x y : Int} (hd : decode M.2.1 pc = .ok (.ishr, 1)) (hq : pc + 1 = q) (k : gn l G M d mc ms E Z q ls (.inl (am_shr x y) :: st) Wd ce sl) : gn l G M d mc ms E Z pc ls (.inl y :: .inl x :: st) Wd ce sl := by
  subst hq
  exact gn_st k (fun _ ho => am_k2 ho (am_ok_i _)) (fun C D hl ho k => lv_ishr C.1 C.2.1 hd (by simpa only [List.map_cons, am_enc, am_shr, Int32.ofInt_toInt] using k))
theorem gn_i2l {x : Int} (hd : decode M.2.1 pc = .ok (.i2l, 1)) (hq : pc + 1 = q) (k : gn l G M d mc ms E Z q ls (.inr (.inl x) :: st) Wd ce sl) : gn l G M d mc ms E Z pc ls (.inl x :: st) Wd ce sl := by
  subst hq
  exact gn_st k (fun _ ho => am_k1 ho (am_ok_okl (am_kh ho))) (fun C D hl ho k => lv_i2l C.1 C.2.1 hd (v := Int64.ofInt x) (by rw [← Int64.toInt_inj, Int32.toInt_toInt64, am_i_ok (am_kh ho), am_l_ok (am_ok_okl (am_kh ho))]) k)
theorem gn_lcmp {x y : Int} (hd : decode M.2.1 pc = .ok (.lcmp, 1)) (hq : pc + 1 = q) (k : gn l G M d mc ms E Z q ls (.inl (am_cmp x y) :: st) Wd ce sl) : gn l G M d mc ms E Z pc ls (.inr (.inl y) :: .inr (.inl x) :: st) Wd ce sl := by
  subst hq
  refine gn_st k (fun _ ho => am_k2 ho (am_cmp_ok x y)) (fun C D hl ho k => W.lcmp C.1 C.2.1 hd (by
    have e : lg_cmp (Int64.ofInt x) (Int64.ofInt y) = Int32.ofInt (am_cmp x y) := by
      have h1 := am_llt (am_kh (am_kt ho)) (am_kh ho)
      have h2 := am_leq (am_kh (am_kt ho)) (am_kh ho)
      have h3 := am_llt (am_kh ho) (am_kh (am_kt ho))
      unfold lg_cmp am_cmp
      simp only [gt_iff_lt, h2, h3]
      by_cases a1 : y < x
      · rw [if_pos a1, if_neg (by omega), if_neg (by omega)]; rfl
      · rw [if_neg a1]
        by_cases a2 : x = y
        · rw [if_pos a2, if_neg (by omega), if_pos a2]; rfl
        · rw [if_neg a2, if_pos (by omega)]; rfl
    rw [e]; exact k))
theorem gn_dup {v : am_V} (hd : decode M.2.1 pc = .ok (.dup, 1)) (hv : am_lng (some v) = false) (hq : pc + 1 = q) (k : gn l G M d mc ms E Z q ls (v :: v :: st) Wd ce sl) : gn l G M d mc ms E Z pc ls (v :: st) Wd ce sl := by
  subst hq
  exact gn_st k (fun _ ho => am_k0 ho (am_kh ho)) (fun C D hl ho k => lv_dup C.1 C.2.1 hd (by rw [am_cat, hv]; rfl) k)
theorem gn_goto {o : Int} (hd : decode M.2.1 pc = .ok (.goto o, 3)) (ht : (pc : Int) + o = (t : Int)) (k : gn l G M d mc ms E Z t ls st Wd ce sl) : gn l G M d mc ms E Z pc ls st Wd ce sl :=
  gn_st k (fun _ ho => ho) (fun C D hl ho k => lv_goto C.1 C.2.1 hd ht k)
theorem gn_ifeq {o x : Int} (hd : decode M.2.1 pc = .ok (.ifCond .eq o, 3)) (ht : (pc : Int) + o = (t : Int)) (hq : pc + 3 = q) (kt : x = 0 → gn l G M d mc ms E Z t ls st Wd ce sl) (kf : ¬ x = 0 → gn l G M d mc ms E Z q ls st Wd ce sl) : gn l G M d mc ms E Z pc ls (.inl x :: st) Wd ce sl := by
  subst hq
  intro p e R s m args below meth c H locs lsM C D hP hS hl ho
  exact lv_if_eq C.1 C.2.1 hd ht (fun h => kt ((am_eq (am_kh ho) am_ok0).mp h) p e R s m args below meth c H locs lsM C D hP hS hl (am_kt ho)) (fun h => kf (fun h2 => h ((am_eq (am_kh ho) am_ok0).mpr h2)) p e R s m args below meth c H locs lsM C D hP hS hl (am_kt ho))
theorem gn_ifne {o x : Int} (hd : decode M.2.1 pc = .ok (.ifCond .ne o, 3)) (ht : (pc : Int) + o = (t : Int)) (hq : pc + 3 = q) (kt : ¬ x = 0 → gn l G M d mc ms E Z t ls st Wd ce sl) (kf : x = 0 → gn l G M d mc ms E Z q ls st Wd ce sl) : gn l G M d mc ms E Z pc ls (.inl x :: st) Wd ce sl := by
  subst hq
  intro p e R s m args below meth c H locs lsM C D hP hS hl ho
  exact lv_if_ne C.1 C.2.1 hd ht (fun h => kt (fun h2 => h ((am_eq (am_kh ho) am_ok0).mpr h2)) p e R s m args below meth c H locs lsM C D hP hS hl (am_kt ho)) (fun h => kf ((am_eq (am_kh ho) am_ok0).mp (h)) p e R s m args below meth c H locs lsM C D hP hS hl (am_kt ho))
theorem gn_cmpeq {o x y : Int} (hd : decode M.2.1 pc = .ok (.if_icmp .eq o, 3)) (ht : (pc : Int) + o = (t : Int)) (hq : pc + 3 = q) (kt : x = y → gn l G M d mc ms E Z t ls st Wd ce sl) (kf : ¬ x = y → gn l G M d mc ms E Z q ls st Wd ce sl) : gn l G M d mc ms E Z pc ls (.inl y :: .inl x :: st) Wd ce sl := by
  subst hq
  intro p e R s m args below meth c H locs lsM C D hP hS hl ho
  have E9 := am_eq (am_kh (am_kt ho)) (am_kh ho)
  exact lv_icmp_eq C.1 C.2.1 hd ht (fun h => kt (E9.mp h) p e R s m args below meth c H locs lsM C D hP hS hl (am_kt (am_kt ho))) (fun h => kf (fun h2 => h (E9.mpr h2)) p e R s m args below meth c H locs lsM C D hP hS hl (am_kt (am_kt ho)))
theorem gn_cmpne {o x y : Int} (hd : decode M.2.1 pc = .ok (.if_icmp .ne o, 3)) (ht : (pc : Int) + o = (t : Int)) (hq : pc + 3 = q) (kt : ¬ x = y → gn l G M d mc ms E Z t ls st Wd ce sl) (kf : x = y → gn l G M d mc ms E Z q ls st Wd ce sl) : gn l G M d mc ms E Z pc ls (.inl y :: .inl x :: st) Wd ce sl := by
  subst hq
  intro p e R s m args below meth c H locs lsM C D hP hS hl ho
  have E9 := am_eq (am_kh (am_kt ho)) (am_kh ho)
  exact lv_icmp_ne C.1 C.2.1 hd ht (fun h => kt (fun h2 => h (E9.mpr h2)) p e R s m args below meth c H locs lsM C D hP hS hl (am_kt (am_kt ho))) (fun h => kf (E9.mp (h)) p e R s m args below meth c H locs lsM C D hP hS hl (am_kt (am_kt ho)))
theorem gn_cmpge {o x y : Int} (hd : decode M.2.1 pc = .ok (.if_icmp .ge o, 3)) (ht : (pc : Int) + o = (t : Int)) (hq : pc + 3 = q) (kt : y ≤ x → gn l G M d mc ms E Z t ls st Wd ce sl) (kf : x < y → gn l G M d mc ms E Z q ls st Wd ce sl) : gn l G M d mc ms E Z pc ls (.inl y :: .inl x :: st) Wd ce sl := by
  subst hq
  intro p e R s m args below meth c H locs lsM C D hP hS hl ho
  have E9 := am_le (am_kh ho) (am_kh (am_kt ho))
  exact lv_icmp_ge C.1 C.2.1 hd ht (fun h => kt (E9.mp h) p e R s m args below meth c H locs lsM C D hP hS hl (am_kt (am_kt ho))) (fun h => kf (Int.not_le.mp (fun h2 => h (E9.mpr h2))) p e R s m args below meth c H locs lsM C D hP hS hl (am_kt (am_kt ho)))
theorem gn_cmpgt {o x y : Int} (hd : decode M.2.1 pc = .ok (.if_icmp .gt o, 3)) (ht : (pc : Int) + o = (t : Int)) (hq : pc + 3 = q) (kt : y < x → gn l G M d mc ms E Z t ls st Wd ce sl) (kf : x ≤ y → gn l G M d mc ms E Z q ls st Wd ce sl) : gn l G M d mc ms E Z pc ls (.inl y :: .inl x :: st) Wd ce sl := by
  subst hq
  intro p e R s m args below meth c H locs lsM C D hP hS hl ho
  have E9 := am_lt (am_kh ho) (am_kh (am_kt ho))
  exact lv_icmp_gt C.1 C.2.1 hd ht (fun h => kt (E9.mp h) p e R s m args below meth c H locs lsM C D hP hS hl (am_kt (am_kt ho))) (fun h => kf (Int.not_lt.mp (fun h2 => h (E9.mpr h2))) p e R s m args below meth c H locs lsM C D hP hS hl (am_kt (am_kt ho)))
theorem gn_tabOut {o lo hi x : Int} {offs : Array Int} {len : Nat} (hd : decode M.2.1 pc = .ok (.tableswitch o lo hi offs, len)) (h : x < lo ∨ hi < x) (ht : (pc : Int) + o = (t : Int)) (k : gn l G M d mc ms E Z t ls st Wd ce sl) : gn l G M d mc ms E Z pc ls (.inl x :: st) Wd ce sl :=
  gn_st k (fun _ ho => am_kt ho) (fun C D hl ho k => lv_tableOut C.1 C.2.1 hd (by rw [am_i_ok (am_kh ho)]; exact h) ht k)
theorem gn_tabIn {o o1 lo hi x : Int} {offs : Array Int} {len : Nat} (hd : decode M.2.1 pc = .ok (.tableswitch o lo hi offs, len)) (h1 : lo ≤ x) (h2 : x ≤ hi) (ho1 : offs[(x - lo).toNat]? = some o1) (ht : (pc : Int) + o1 = (t : Int)) (k : gn l G M d mc ms E Z t ls st Wd ce sl) : gn l G M d mc ms E Z pc ls (.inl x :: st) Wd ce sl :=
  gn_st k (fun _ ho => am_kt ho) (fun C D hl ho k => lv_tableIn C.1 C.2.1 hd (by rw [am_i_ok (am_kh ho)]; exact Int.not_lt.mpr h1) (by rw [am_i_ok (am_kh ho)]; exact Int.not_lt.mpr h2) (by rw [am_i_ok (am_kh ho)]; exact ho1) ht k)
theorem gn_ldcS_X4 (hd : decode M.2.1 pc = .ok (.ldc 21, 2)) (hM : M.1 = RX4) (hq : pc + 2 = q) (k : gn l G M d mc ms E Z q ls (.inr (.inr 1002) :: st) Wd ce sl) : gn l G M d mc ms E Z pc ls st Wd ce sl := by
  subst hq
  refine gn_st k (fun _ ho => am_k0 ho trivial) (fun C D hl ho k => ?_)
  have h1 := C.2.2.2.1
  rw [hM] at h1
  exact va_ldcS C.1 C.2.1 h1 C.2.2.2.2.2.2.2.2.2.2.2.2.1 hd k
theorem gn_sgetv (i : Nat) (hi : i < 2) (hd : decode M.2.1 pc = .ok (.getfield 9, 3)) (hM : M.1 = RJ0) (hq : pc + 3 = q) (k : gn l G M d mc ms E Z q ls (.inr (.inr (i + 11 + 1000 + 1)) :: st) Wd ce sl) : gn l G M d mc ms E Z pc ls (.inr (.inr (i + 1 + 1000 + 1)) :: st) Wd ce sl := by
  subst hq
  intro p e R s m args below meth c H locs lsM C D hP hS hl ho
  have h1 := C.2.2.2.1
  rw [hM] at h1
  have hx := (C.2.2.2.2.2.2.2.2.2.2.2.1.1 i hi).2.2.1
  have kk := k p e R s m args below meth c H locs lsM C D hP hS hl (am_k1 ho trivial)
  have e1 : am_enc G (.inr (.inr (i + 1 + 1000 + 1))) = .ref (G.2.2.2 (i + 1)) := by show Value.ref (am_ad G (i + 1 + 1000)) = _; rw [am_adx]
  have e2 : am_enc G (.inr (.inr (i + 11 + 1000 + 1))) = .ref (G.2.2.2 (i + 11)) := by show Value.ref (am_ad G (i + 11 + 1000)) = _; rw [am_adx]
  rw [List.map_cons, e1]
  rw [List.map_cons, e2] at kk
  exact vk_getf C.1 C.2.1 hx hS h1 (C.2.2.2.2.1 _ sfl_9) (fun _ h => h) hd kk
theorem gn_sgetc (i : Nat) (hi : i < 2) (hd : decode M.2.1 pc = .ok (.getfield 15, 3)) (hM : M.1 = RJ0) (hq : pc + 3 = q) (k : gn l G M d mc ms E Z q ls (.inl 0 :: st) Wd ce sl) : gn l G M d mc ms E Z pc ls (.inr (.inr (i + 1 + 1000 + 1)) :: st) Wd ce sl := by
  subst hq
  intro p e R s m args below meth c H locs lsM C D hP hS hl ho
  have h1 := C.2.2.2.1
  rw [hM] at h1
  have hx := (C.2.2.2.2.2.2.2.2.2.2.2.1.1 i hi).2.1
  have kk := k p e R s m args below meth c H locs lsM C D hP hS hl (am_k1 ho am_ok0)
  have e1 : am_enc G (.inr (.inr (i + 1 + 1000 + 1))) = .ref (G.2.2.2 (i + 1)) := by show Value.ref (am_ad G (i + 1 + 1000)) = _; rw [am_adx]
  rw [List.map_cons, e1]
  exact vk_getf C.1 C.2.1 hx hS h1 (C.2.2.2.2.1 _ sfl_15) (fun _ h => h) hd kk
theorem gn_getcs (hd : decode M.2.1 pc = .ok (.getstatic 38, 3)) (hM : M.1 = RJ0) (hq : pc + 3 = q) (k : gn l G M d mc ms E Z q ls (.inl 1 :: st) Wd ce sl) : gn l G M d mc ms E Z pc ls st Wd ce sl := by
  subst hq
  intro p e R s m args below meth c H locs lsM C D hP hS hl ho
  have h1 := C.2.2.2.1
  rw [hM] at h1
  exact va_gets C.1 C.2.1 C.2.2.2.2.2.2.2.2.2.2.2.2.2.2.1 hS h1 (C.2.2.2.2.1 _ sfl_38) (fun _ h => h) hd (k p e R s m args below meth c H locs lsM C D hP hS hl (am_k0 ho (am_okd rfl)))
theorem gn_slen (i : Nat) (hi : i < 2) (hd : decode M.2.1 pc = .ok (.arraylength, 1)) (hq : pc + 1 = q) (k : gn l G M d mc ms E Z q ls (.inl (strL i : Int) :: st) Wd ce sl) : gn l G M d mc ms E Z pc ls (.inr (.inr (i + 11 + 1000 + 1)) :: st) Wd ce sl := by
  subst hq
  intro p e R s m args below meth c H locs lsM C D hP hS hl ho
  have hx := (C.2.2.2.2.2.2.2.2.2.2.2.1.1 i hi).2.2.2
  have h7 := strL_ok i hi
  have kk := k p e R s m args below meth c H locs lsM C D hP hS hl (am_k1 ho (show am_ok (strL i : Int) by unfold am_ok; omega))
  have e2 : am_enc G (.inr (.inr (i + 11 + 1000 + 1))) = .ref (G.2.2.2 (i + 11)) := by show Value.ref (am_ad G (i + 11 + 1000)) = _; rw [am_adx]
  rw [List.map_cons, e2]
  exact va_tlen C.1 C.2.1 hx hS h7.2 hd kk
/-! calls -/
def g_room (d mc ms : Nat) : Room := { frames := d + 2, cells := mc, slots := ms, locals := 60 * d + 100 }
def g_B (G : am_G) (Wd : Heap → Prop) (U : State) : Prop := Wd U.heap ∧ va_K G.2.1 vwCl (am_tys G) U ∧ G.1 ≤ U.heap.size ∧ am_X G U ∧ bm_E U
def g_Qc (G : am_G) (v : Option am_V) (Wd : Heap → Prop) : Array Value → State → Outcome → State → Prop := fun _ st o t => (o = .returned (v.map (am_enc G)) ∧ Wd t.heap ∧ va_K G.2.1 vwCl (am_tys G) t) ∧ va_F (am_A G) st t
def g_Sm (l : Launch) (G : am_G) (y : MethodName) (M : am_Mt) (d mc ms : Nat) (as : List am_V) (Wd : Heap → Prop) (v : Option am_V) (Wd2 : Heap → Prop) : Prop :=
  (∀ a ∈ as, am_okv a) → Met l y (am_wd y M) (g_room d mc ms) (va_Pc (as.map (am_enc G)) (g_B G Wd)) (g_Qc G v Wd2) mc ms (am_A G)
def gZ (G : am_G) (v : Option am_V) (Wd : Heap → Prop) (mc ms : Nat) : List Frame → Array Value → State → State → Prop := fun below args s => MQ below (g_Qc G v Wd) args s mc ms (am_A G)
theorem g_enter {y : MethodName} {as : List am_V} {v : Option am_V} (hy : plainName y.cls = true) (hc : y.cls = M.1) (hnm : M.2.2.2 = none → y.name = "<init>") (hn : (am_lay as).length ≤ M.2.2.1) (hl : am_lay as ++ List.replicate (M.2.2.1 - (am_lay as).length) none = ls) (k : gn l G M d mc ms (fun _ _ => True) (gZ G v Wd2 mc ms) 0 ls [] Wd 0 0) : g_Sm l G y M d mc ms as Wd v Wd2 := by
  intro hok
  subst hl
  refine Met.ofW (cc := M.2.1) (maxL := M.2.2.1) (ret := M.2.2.2) hy rfl ?_
  intro p e s m args below meth c s₁ B hml hv
  obtain ⟨rfl, hP, hK, hB, hX, hE⟩ := hv
  have hts := atoms_spec (ws := am_wd y M) B.pre
  have hown : s.vm.findClass y.cls = some m.cls := findClass_of_methodNamed B.named
  have hl := lv_entry (as.map (am_enc G)) (n := M.2.2.1) (by rw [am_lay_len]; exact hn)
  rw [lg_entry_eq]
  refine k p e _ s m _ below meth c s.heap [] _ ⟨B.exec, B.bytes, hml, by rw [← hc]; exact hown, fun w hw => hts w (List.mem_cons_of_mem _ hw), B.returns, B.notSynchronized, hK, hB, Nat.le_refl _, Nat.le_refl _, hX⟩ ⟨Nat.le_refl _, Nat.le_refl _, fun h => (name_of_methodNamed B.named B.method).1.trans (hnm h), hE, trivial⟩ hP va_S.rf ⟨hl.1, hl.2.1, fun i v hi => ?_⟩ (fun v h => by cases h)
  have hi2 : (am_lay as)[i]? = some (some v) := by
    rw [List.getElem?_append] at hi
    split at hi
    · exact hi
    · rw [List.getElem?_replicate] at hi
      split at hi <;> simp at hi
  obtain ⟨h1, h2⟩ := am_lay_get G as 0 i v hi2
  rw [Nat.zero_add] at h1
  exact ⟨hl.2.2 _ h1, hok v h2⟩
theorem gn_vret {hm : M.2.2.2 = none} (hd : decode M.2.1 pc = .ok (.return_, 1)) (hw : ∀ H, Wd H → Wd2 H) : gn l G M d mc ms E (gZ G none Wd2 ce sl) pc ls [] Wd ce sl := by
  intro p e R s m args below meth c0 H locs lsM C D hP hS hl ho
  exact W.vret C.1 C.2.1 (C.2.2.2.2.2.1.trans hm) (fun t ht hW => ⟨⟨rfl, by rw [ht]; exact hw _ hP, va_K.moved hW.alike C.2.2.2.2.2.2.2.1⟩, hS.F ht⟩) hS.2.2 hd C.2.2.2.2.2.2.1
theorem gn_iret {x : Int} (hm : M.2.2.2 = some .int) (hd : decode M.2.1 pc = .ok (.ireturn, 1)) (hw : ∀ H, Wd H → Wd2 H) : gn l G M d mc ms E (gZ G (some (.inl x)) Wd2 ce sl) pc ls [.inl x] Wd ce sl := by
  intro p e R s m args below meth c0 H locs lsM C D hP hS hl ho
  exact W.iret C.1 C.2.1 (C.2.2.2.2.2.1.trans hm) (fun t ht hW => ⟨⟨rfl, by rw [ht]; exact hw _ hP, va_K.moved hW.alike C.2.2.2.2.2.2.2.1⟩, hS.F ht⟩) hS.2.2 hd C.2.2.2.2.2.2.1
theorem gn_bret {x : Int} (hx : x = 0) (hm : M.2.2.2 = some .byte) (hd : decode M.2.1 pc = .ok (.ireturn, 1)) (hw : ∀ H, Wd H → Wd2 H) : gn l G M d mc ms E (gZ G (some (.inl x)) Wd2 ce sl) pc ls [.inl x] Wd ce sl := by
  intro p e R s m args below meth c0 H locs lsM C D hP hS hl ho
  exact W.zret C.1 C.2.1 (C.2.2.2.2.2.1.trans hm) (by subst hx; decide) (fun t ht hW => ⟨⟨rfl, by rw [ht]; exact hw _ hP, va_K.moved hW.alike C.2.2.2.2.2.2.2.1⟩, hS.F ht⟩) hS.2.2 hd C.2.2.2.2.2.2.1
theorem g_Pc_blind {as : List am_V} : FrameBlind (va_Pc (as.map (am_enc G)) (g_B G Wd)) := by
  intro a U g mk h
  obtain ⟨h1, h2, h3, h4, h5, h6⟩ := h
  exact ⟨h1, h2, va_K.moved (u := U) (U := U.calling g mk a) (Vm.Alike.refl U.vm) h3, h4, h5.calling g mk a, h6.calling g mk a⟩
theorem g_Pc_of {as : List am_V} {s : State} {H : Heap} {locs : List Loc} {U : State} (hP : Wd H) (hK : va_K G.2.1 vwCl (am_tys G) s) (hB : G.1 ≤ s.heap.size) (hX : am_X G s) (hE : bm_E s) (hS : va_S (am_A G) s.heap H locs) (hU : U.heap = H) (hW : s.WarmedH U.vm) : va_Pc (as.map (am_enc G)) (g_B G Wd) (as.map (am_enc G)).toArray U :=
  ⟨rfl, by rw [hU]; exact hP, va_K.moved hW.alike hK, by rw [hU]; exact Nat.le_trans hB hS.1, hX.warm hS hU hW, hE.warm hW⟩
/-- what goes on behind a call -/
theorem gn_back {Qa : State → Outcome → State → Prop} {mc1 ms1 : Nat} {rest : List am_V} {p : Program} {e : Env} {R : Room} {s : State} {m : MethodId} {args : Array Value} {below : List Frame} {meth : Method} {c : Code} {H : Heap} {locs : List Loc} {lsM : Array Slot} {st0 : List Value}
    (hr : va_Run p l e R s m args below meth c H locs ce sl mc1 ms1 (F0 m pc lsM st0) (rest.map (am_enc G)) Qa (am_A G)) (C : am_C G M d p R s m args meth c) (D : gD E M mc ms R s meth c) (hS : va_S (am_A G) s.heap H locs) (hl : am_lr G M.2.2.1 ls lsM) (ho : ∀ v ∈ rest, am_okv v)
    (k : ∀ v st t, Qa st (.returned v) t → ∃ (r : Option am_V) (Wd1 : Heap → Prop), v = r.map (am_enc G) ∧ am_okr r ∧ Wd1 t.heap ∧ va_F (am_A G) st t ∧ gn l G M d mc ms E Z (pc + 3) ls (r.toList ++ rest) Wd1 (ce + mc1) (sl + ms1)) : W p l e R s m args below meth c H locs ce sl (Z below args s) (F0 m pc lsM st0) := by
  intro T hT X
  obtain ⟨v, st₀, t, T', L, h0, X', hL, e1, e2, hq, stp⟩ := hr T hT X
  obtain ⟨r, Wd1, rfl, hokr, hP1, ⟨hz, hk⟩, kk⟩ := k v st₀ t hq
  rw [h0] at hz hk
  have hS1 : va_S (am_A G) s.heap T'.heap (locs ++ L) := ⟨Nat.le_trans hS.1 (by rw [e1]; exact hz), fun q h1 h2 => by rw [e1, hk q (Nat.lt_of_lt_of_le h1 hS.1) h2]; exact hS.2.1 q h1 h2, fun q hq => by
    rcases List.mem_append.mp hq with h | h
    · exact hS.2.2 q h
    · exact hL q h⟩
  obtain ⟨t2, a1, b1⟩ := kk p e R s m args below meth c T'.heap (locs ++ L) lsM C D (by rw [e1]; exact hP1) hS1 hl (fun v hv => by
    rcases List.mem_append.mp hv with h | h
    · exact hokr v (Option.mem_toList.mp h)
    · exact ho v h) T' rfl X'
  refine ⟨t2, stp t2 ?_, b1⟩
  have e3 : (r.toList ++ rest).map (am_enc G) = (r.map (am_enc G)).toList ++ rest.map (am_enc G) := by cases r <;> simp
  rw [e3] at a1
  exact a1
theorem g_callB {y : MethodName} {M' : am_Mt} {i n d' mc1 ms1 : Nat} {R : Room} {s : State} {args : Array Value} (h : am_ML M.1 i y M' n) (ht : ∀ w ∈ am_tbl, w.before args s = true) (hd : d' + 1 ≤ d) (hR : d + 2 ≤ R.frames ∧ 60 * d + 100 ≤ R.locals) : CallB R s args M.1 i y M'.2.1 M'.2.2.1 M'.2.2.2 (am_wd y M') (g_room d' mc1 ms1) mc1 ms1 n := by
  obtain ⟨h1, h2, h3, h4, h5, h6⟩ := h
  exact callB_of n ht (am_wd_good h2) rfl rfl rfl (ht _ h3) (ht _ h1) ⟨h4.1, h4.2, h5⟩ ⟨by show d' + 2 + 1 ≤ _; omega, by show 8 + (M'.2.2.1 + 11) + (60 * d' + 100) ≤ _; omega⟩
/-- invokespecial of a constructor -/
theorem gn_callI {y : MethodName} {Cn : String} {bs : ByteArray} {mL i n d' mc1 ms1 b : Nat} {as rest : List am_V} (hd : decode M.2.1 pc = .ok (.invokespecial i, 3)) (hm : am_ML M.1 i y (Cn, bs, mL, none) n) (hy : y.name = "<init>") (hs : Cond.instanceMethod y ∈ am_tbl) (hdd : d' + 1 ≤ d) (hn : as.length = n) (hst : st = as.reverse ++ .inr (.inr (b + 1)) :: rest) (hw : am_wsum rest ≤ 8) (hq : pc + 3 = q) (h1 : ce + mc1 ≤ mc) (h2 : sl + ms1 ≤ ms) (hc : g_Sm l G y (Cn, bs, mL, none) d' mc1 ms1 (.inr (.inr (b + 1)) :: as) Wd none Wd2) (k : gn l G M d mc ms E Z q ls rest Wd2 (ce + mc1) (sl + ms1)) : gn l G M d mc ms E Z pc ls st Wd ce sl := by
  subst hq; subst hst
  intro p e R s m args below meth c H locs lsM C D hP hS hl ho
  have hok : ∀ v ∈ (.inr (.inr (b + 1)) :: as : List am_V), am_okv v := fun v hv => by
    rcases List.mem_cons.mp hv with rfl | hv
    · trivial
    · exact ho v (List.mem_append_left _ (List.mem_reverse.mpr hv))
  have hor : ∀ v ∈ rest, am_okv v := fun v hv => ho v (List.mem_append_right _ (List.mem_cons_of_mem _ hv))
  refine gn_back (rest := rest) (Qa := g_Qc G none Wd2 ((.inr (.inr (b + 1)) :: as : List am_V).map (am_enc G)).toArray) (mc1 := mc1) (ms1 := ms1) ?_ C D hS hl hor (fun v st t hq => ⟨none, Wd2, by have := hq.1.1; cases this; rfl, fun v hv => (by cases hv), hq.1.2.1, hq.2, k⟩)
  exact va_runI (b := am_ad G b) (As := as.map (am_enc G)) (rest := rest.map (am_enc G)) ⟨C.1, C.2.1, C.2.2.1, C.2.2.2.1, C.2.2.2.2.1⟩ (hc hok) ⟨g_callB hm C.2.2.2.2.1 hdd ⟨C.2.2.2.2.2.2.2.2.2.1, C.2.2.2.2.2.2.2.2.2.2.1⟩, hy, C.2.2.2.2.1 _ hs⟩ ⟨g_Pc_blind, fun U hU hW => g_Pc_of (as := .inr (.inr (b + 1)) :: as) hP C.2.2.2.2.2.2.2.1 C.2.2.2.2.2.2.2.2.1 C.2.2.2.2.2.2.2.2.2.2.2 D.2.2.2.1 hS hU hW⟩ rfl (by simpa using hn) hl.1 (by simp; rfl) (lv_room (by rw [am_wsum_eq]; exact hw)) hd ⟨Nat.le_trans h1 D.1, Nat.le_trans h2 D.2.1⟩
def bm_IL (y : MethodName) (M' : am_Mt) (n : Nat) : Prop := Cond.code y M'.2.1 M'.2.2.1 M'.2.2.2 ∈ am_tbl ∧ Cond.initialized y.cls ∈ am_tbl ∧ (y.cls ≠ "java/lang/invoke/MethodHandle" ∧ y.cls ≠ "java/lang/invoke/VarHandle") ∧ (parseMethodDescriptor y.desc).map (fun d => d.parameters.length) = some n ∧ M'.2.2.1 ≤ 30
/-- invokespecial of a nest mate's constructor -/
theorem gn_callIN {y : MethodName} {Cn : String} {bs : ByteArray} {mL i n d' mc1 ms1 b : Nat} {as rest : List am_V} (hd : decode M.2.1 pc = .ok (.invokespecial i, 3)) (hm : bm_IL y (Cn, bs, mL, none) n) (hN : (M.1, i, y) ∈ bm_nests) (hy : y.name = "<init>") (hs : Cond.instanceMethod y ∈ am_tbl) (hdd : d' + 1 ≤ d) (hn : as.length = n) (hst : st = as.reverse ++ .inr (.inr (b + 1)) :: rest) (hw : am_wsum rest ≤ 8) (hq : pc + 3 = q) (h1 : ce + mc1 ≤ mc) (h2 : sl + ms1 ≤ ms) (hc : g_Sm l G y (Cn, bs, mL, none) d' mc1 ms1 (.inr (.inr (b + 1)) :: as) Wd none Wd2) (k : gn l G M d mc ms E Z q ls rest Wd2 (ce + mc1) (sl + ms1)) : gn l G M d mc ms E Z pc ls st Wd ce sl := by
  subst hq; subst hst
  intro p e R s m args below meth c H locs lsM C D hP hS hl ho
  have hok : ∀ v ∈ (.inr (.inr (b + 1)) :: as : List am_V), am_okv v := fun v hv => by
    rcases List.mem_cons.mp hv with rfl | hv
    · trivial
    · exact ho v (List.mem_append_left _ (List.mem_reverse.mpr hv))
  have hor : ∀ v ∈ rest, am_okv v := fun v hv => ho v (List.mem_append_right _ (List.mem_cons_of_mem _ hv))
  obtain ⟨g2, g3, g4, g5, g6⟩ := hm
  have ht := C.2.2.2.2.1
  have hR1 := C.2.2.2.2.2.2.2.2.2.1
  have hR2 := C.2.2.2.2.2.2.2.2.2.2.1
  have hNw := D.2.2.2.1.2 _ hN
  refine gn_back (rest := rest) (Qa := g_Qc G none Wd2 ((.inr (.inr (b + 1)) :: as : List am_V).map (am_enc G)).toArray) (mc1 := mc1) (ms1 := ms1) ?_ C D hS hl hor (fun v st t hq => ⟨none, Wd2, by have := hq.1.1; cases this; rfl, fun v hv => (by cases hv), hq.1.2.1, hq.2, k⟩)
  refine va_runIN (host := "HeldInTrust") (b := am_ad G b) (As := as.map (am_enc G)) (rest := rest.map (am_enc G)) ⟨C.1, C.2.1, C.2.2.1, C.2.2.2.1, ht⟩ (hc hok) ⟨⟨⟨rfl, rfl, ?_, ?_, pay_in ht (am_wd_good g2), List.mem_cons_self⟩, ht _ g2, ht _ g3, g4, fun sig h => ?_, va_Nw.use rfl hNw⟩, hy, ht _ hs⟩ ⟨g_Pc_blind, fun U hU hW => g_Pc_of (as := .inr (.inr (b + 1)) :: as) hP C.2.2.2.2.2.2.2.1 C.2.2.2.2.2.2.2.2.1 C.2.2.2.2.2.2.2.2.2.2.2 D.2.2.2.1 hS hU hW⟩ rfl (by simpa using hn) hl.1 (by simp; rfl) (lv_room (by rw [am_wsum_eq]; exact hw)) hd ⟨Nat.le_trans h1 D.1, Nat.le_trans h2 D.2.1⟩
  · show d' + 2 + 1 ≤ _; omega
  · show 8 + (mL + 11) + (60 * d' + 100) ≤ _
    have : mL ≤ 30 := g6
    omega
  · rw [h] at g5; exact (Option.some.inj g5).symm
/-- invokevirtual on one of the two String constants -/
theorem gn_callVS (i : Nat) (hi : i < 2) {y : MethodName} {M' : am_Mt} {ix n d' : Nat} {as rest : List am_V} {x : Int} (hx : am_ok x) (hd : decode M.2.1 pc = .ok (.invokevirtual ix, 3)) (hm : am_ML M.1 ix y M' n) (hs : Cond.instanceMethod y ∈ am_tbl ∧ Cond.selects RJ0 y y ∈ am_tbl) (hdd : d' + 1 ≤ d) (hn : as.length = n) (hst : st = as.reverse ++ .inr (.inr (i + 1 + 1000 + 1)) :: rest) (hw : am_wsum rest ≤ 8) (hq : pc + 3 = q) (h1 : ce ≤ mc) (h2 : sl ≤ ms) (hc : g_Sm l G y M' d' 0 0 (.inr (.inr (i + 1 + 1000 + 1)) :: as) Wd (some (.inl x)) Wd) (k : gn l G M d mc ms E Z q ls (.inl x :: rest) Wd ce sl) : gn l G M d mc ms E Z pc ls st Wd ce sl := by
  subst hq; subst hst
  intro p e R s m args below meth c H locs lsM C D hP hS hl ho
  have hok : ∀ v ∈ (.inr (.inr (i + 1 + 1000 + 1)) :: as : List am_V), am_okv v := fun v hv => by
    rcases List.mem_cons.mp hv with rfl | hv
    · trivial
    · exact ho v (List.mem_append_left _ (List.mem_reverse.mpr hv))
  have hor : ∀ v ∈ rest, am_okv v := fun v hv => ho v (List.mem_append_right _ (List.mem_cons_of_mem _ hv))
  have e1 : am_ad G (i + 1 + 1000) = G.2.2.2 (i + 1) := am_adx _
  have hrc := vk_recv C.2.2.2.2.2.2.2.2.2.2.2.1 hi hS
  refine gn_back (rest := rest) (Qa := g_Qc G (some (.inl x)) Wd ((.inr (.inr (i + 1 + 1000 + 1)) :: as : List am_V).map (am_enc G)).toArray) (mc1 := 0) (ms1 := 0) ?_ C D hS hl hor (fun v st t hq => ⟨some (.inl x), Wd, by have := hq.1.1; cases this; rfl, fun v hv => (by cases hv; exact hx), hq.1.2.1, hq.2, k⟩)
  exact va_runV (b := am_ad G (i + 1 + 1000)) (As := as.map (am_enc G)) (rest := rest.map (am_enc G)) ⟨C.1, C.2.1, C.2.2.1, C.2.2.2.1, C.2.2.2.2.1⟩ (hc hok) ⟨g_callB hm C.2.2.2.2.1 hdd ⟨C.2.2.2.2.2.2.2.2.2.1, C.2.2.2.2.2.2.2.2.2.2.1⟩, C.2.2.2.2.1 _ hs.1, C.2.2.2.2.1 _ hs.2⟩ ⟨g_Pc_blind, by rw [e1]; exact hrc, fun U hU hW => g_Pc_of (as := .inr (.inr (i + 1 + 1000 + 1)) :: as) hP C.2.2.2.2.2.2.2.1 C.2.2.2.2.2.2.2.2.1 C.2.2.2.2.2.2.2.2.2.2.2 D.2.2.2.1 hS hU hW⟩ rfl (by simpa using hn) hl.1 (by simp; rfl) (lv_room (by rw [am_wsum_eq]; exact hw)) hd ⟨Nat.le_trans h1 D.1, Nat.le_trans h2 D.2.1⟩
/-- Object's constructor -/
theorem gn_obj {i b : Nat} (hd : decode M.2.1 pc = .ok (.invokespecial i, 3)) (hm : Cond.methodLink M.1 i Lib.objectInit ∈ am_tbl) (hm2 : Cond.instanceMethod Lib.objectInit ∈ am_tbl ∧ Cond.code Lib.objectInit ⟨#[0xb1]⟩ 1 none ∈ am_tbl) (hst : am_wsum st ≤ 8) (hq : pc + 3 = q) (k : gn l G M d mc ms E Z q ls st Wd ce sl) : gn l G M d mc ms E Z pc ls (.inr (.inr (b + 1)) :: st) Wd ce sl := by
  subst hq
  intro p e R s m args below meth c H locs lsM C D hP hS hl ho
  have hR1 := C.2.2.2.2.2.2.2.2.2.1
  have hR2 := C.2.2.2.2.2.2.2.2.2.2.1
  refine W.objInit C.1 C.2.1 C.2.2.2.1 (C.2.2.2.2.1 _ hm) (C.2.2.2.2.1 _ hm2.1) (C.2.2.2.2.1 _ hm2.2) (g := F0 m pc lsM ((.inr (.inr (b + 1)) :: st).map (am_enc G))) rfl (hl.1.trans C.2.2.1.symm) (a := am_ad G b) (rest := st.map (am_enc G)) rfl hd (by omega) ?_ (k p e R s m args below meth c H locs lsM C D hP hS hl (am_kt ho))
  show 2 * 0 + ((st.map (am_enc G)).map fun v => v.category).sum + 12 ≤ R.locals
  rw [am_wsum_eq]
  omega
end GN
