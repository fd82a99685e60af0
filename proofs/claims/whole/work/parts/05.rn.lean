/-! The judgement am_Rn: from the frame at pc, with locals ls, operand stack st and numbers mem in the cells, the method comes to its end with an answer and numbers of which Q holds; nothing is made, nothing outside the cells changes -/
def am_lng (o : Option am_V) : Bool := match o with
  | some (.inr (.inl _)) => true
  | _ => false
def am_set : am_L → Nat → am_V → am_L
  | [], _, _ => []
  | _ :: t, 0, v => some v :: t
  | x :: t, 1, v => (if am_lng x then none else x) :: am_set t 0 v
  | x :: t, i + 2, v => x :: am_set t (i + 1) v
def am_clr : am_L → Nat → am_L
  | [], _ => []
  | _ :: t, 0 => none :: t
  | x :: t, i + 1 => x :: am_clr t i
theorem am_set_get (v : am_V) : ∀ (ls : am_L) (i j : Nat) (u : am_V), (am_set ls i v)[j]? = some (some u) → (j = i ∧ u = v) ∨ (j ≠ i ∧ ls[j]? = some (some u) ∧ ¬ (j + 1 = i ∧ am_lng (some u) = true)) := by
  intro ls
  induction ls with
  | nil => intro i j u h; simp [am_set] at h
  | cons x t ih =>
    intro i j u h
    match i with
    | 0 =>
      cases j with
      | zero => simp [am_set] at h; exact Or.inl ⟨rfl, h.symm⟩
      | succ j => simp [am_set] at h; exact Or.inr ⟨by omega, by simpa using h, by omega⟩
    | 1 =>
      cases j with
      | zero =>
        simp only [am_set] at h
        by_cases hx : am_lng x = true
        · simp [hx] at h
        · simp [hx] at h
          refine Or.inr ⟨by omega, by simpa using h, fun q => hx ?_⟩
          rw [h]; exact q.2
      | succ j =>
        simp only [am_set, List.getElem?_cons_succ] at h
        rcases ih 0 j u h with ⟨a, b⟩ | ⟨a, b, c⟩
        · exact Or.inl ⟨by omega, b⟩
        · exact Or.inr ⟨by omega, by simpa using b, by omega⟩
    | i + 2 =>
      cases j with
      | zero =>
        simp [am_set] at h
        exact Or.inr ⟨by omega, by simpa using h, by omega⟩
      | succ j =>
        simp only [am_set, List.getElem?_cons_succ] at h
        rcases ih (i + 1) j u h with ⟨a, b⟩ | ⟨a, b, c⟩
        · exact Or.inl ⟨by omega, b⟩
        · exact Or.inr ⟨by omega, by simpa using b, fun q => c ⟨by omega, q.2⟩⟩
theorem am_clr_get : ∀ (ls : am_L) (i j : Nat) (u : am_V), (am_clr ls i)[j]? = some (some u) → j ≠ i ∧ ls[j]? = some (some u) := by
  intro ls
  induction ls with
  | nil => intro i j u h; simp [am_clr] at h
  | cons x t ih =>
    intro i j u h
    cases i with
    | zero =>
      cases j with
      | zero => simp [am_clr] at h
      | succ j => exact ⟨by omega, by simpa [am_clr] using h⟩
    | succ i =>
      cases j with
      | zero => exact ⟨by omega, by simpa [am_clr] using h⟩
      | succ j =>
        simp only [am_clr, List.getElem?_cons_succ] at h
        obtain ⟨a, b⟩ := ih i j u h
        exact ⟨by omega, by simpa using b⟩
def am_lr (G : am_G) (n : Nat) (ls : am_L) (lsM : Array Slot) : Prop := lsM.size = n ∧ lv_wf lsM ∧ ∀ (i : Nat) (v : am_V), ls[i]? = some (some v) → lsM[i]? = some (.val (am_enc G v)) ∧ am_okv v
def am_lv (G : am_G) (ls : am_L) : List (Nat × Value) := (List.range ls.length).filterMap (fun i => (ls.getD i none).map (fun v => (i, am_enc G v)))
theorem am_lv_mem {G : am_G} {ls : am_L} {q : Nat × Value} (h : q ∈ am_lv G ls) : ∃ v, ls[q.1]? = some (some v) ∧ q.2 = am_enc G v := by
  unfold am_lv at h
  obtain ⟨i, hi, h2⟩ := List.mem_filterMap.mp h
  have hi : i < ls.length := List.mem_range.mp hi
  cases hv : ls.getD i none with
  | none => rw [hv] at h2; simp at h2
  | some v =>
    rw [hv] at h2
    simp at h2
    subst h2
    refine ⟨v, ?_, rfl⟩
    rw [List.getElem?_eq_getElem hi]
    rw [List.getD_eq_getElem?_getD, List.getElem?_eq_getElem hi] at hv
    simpa using hv
theorem am_lv_in {G : am_G} {ls : am_L} {i : Nat} {v : am_V} (h : ls[i]? = some (some v)) : (i, am_enc G v) ∈ am_lv G ls := by
  unfold am_lv
  refine List.mem_filterMap.mpr ⟨i, List.mem_range.mpr (List.getElem?_eq_some_iff.mp h).1, ?_⟩
  rw [List.getD_eq_getElem?_getD, h]; rfl
theorem am_lr.has {G : am_G} {n : Nat} {ls : am_L} {lsM : Array Slot} (h : am_lr G n ls lsM) : lv_has lsM n (am_lv G ls) := by
  refine ⟨h.1, h.2.1, fun q hq => ?_⟩
  obtain ⟨v, h1, h2⟩ := am_lv_mem hq
  rw [h2]
  exact (h.2.2 q.1 v h1).1
theorem am_cat (G : am_G) (v : am_V) : (am_enc G v).category = if am_lng (some v) = true then 2 else 1 := by
  rcases v with x | x | c
  · rfl
  · rfl
  · cases c <;> rfl
theorem am_lr.set1 {G : am_G} {n : Nat} {ls : am_L} {lsM lsN : Array Slot} {i : Nat} {v : am_V} (h : am_lr G n ls lsM) (ho : am_okv v)
    (hn : lv_has lsN n ((i, am_enc G v) :: (am_lv G ls).filter (fun q => !(q.1 == i) && !(q.1 + 1 == i && q.2.category == 2)))) : am_lr G n (am_set ls i v) lsN := by
  refine ⟨hn.1, hn.2.1, fun j u hj => ?_⟩
  rcases am_set_get v ls i j u hj with ⟨rfl, rfl⟩ | ⟨h1, h2, h3⟩
  · exact ⟨hn.2.2 _ List.mem_cons_self, ho⟩
  · refine ⟨hn.2.2 (j, am_enc G u) (List.mem_cons_of_mem _ (List.mem_filter.mpr ⟨am_lv_in h2, ?_⟩)), (h.2.2 j u h2).2⟩
    have h4 : ((am_enc G u).category == 2) = am_lng (some u) := by rw [am_cat]; cases am_lng (some u) <;> rfl
    simp only [h4]
    by_cases hji : j + 1 = i
    · have : am_lng (some u) = false := by
        cases hl : am_lng (some u) with
        | false => rfl
        | true => exact absurd ⟨hji, hl⟩ h3
      simp [h1, this]
    · simp [h1, hji]
theorem am_lr.set2 {G : am_G} {n : Nat} {ls : am_L} {lsM lsN : Array Slot} {i : Nat} {v : am_V} (h : am_lr G n ls lsM) (ho : am_okv v)
    (hn : lv_has lsN n ((i, am_enc G v) :: (am_lv G ls).filter (fun q => !(q.1 == i) && (!(q.1 == i + 1) && !(q.1 + 1 == i && q.2.category == 2))))) : am_lr G n (am_clr (am_set ls i v) (i + 1)) lsN := by
  refine ⟨hn.1, hn.2.1, fun j u hj => ?_⟩
  obtain ⟨h0, hj⟩ := am_clr_get _ _ _ _ hj
  rcases am_set_get v ls i j u hj with ⟨rfl, rfl⟩ | ⟨h1, h2, h3⟩
  · exact ⟨hn.2.2 _ List.mem_cons_self, ho⟩
  · refine ⟨hn.2.2 (j, am_enc G u) (List.mem_cons_of_mem _ (List.mem_filter.mpr ⟨am_lv_in h2, ?_⟩)), (h.2.2 j u h2).2⟩
    have h4 : ((am_enc G u).category == 2) = am_lng (some u) := by rw [am_cat]; cases am_lng (some u) <;> rfl
    simp only [h4]
    by_cases hji : j + 1 = i
    · have : am_lng (some u) = false := by
        cases hl : am_lng (some u) with
        | false => rfl
        | true => exact absurd ⟨hji, hl⟩ h3
      simp [h1, h0, this]
    · simp [h1, h0, hji]
/-- what lies outside: the two String constants, String's COMPACT_STRINGS -/
def am_X (G : am_G) (s : State) : Prop := vk_S 2 [7, 4] [[118, 107, 104, 119, 112, 110, 99], [111, 108, 99, 119]] (fun i => G.2.2.2 (i + 1)) (fun i => G.2.2.2 (i + 11)) (am_A G) s s.heap ∧ vk_R "HeldInTrust$Rule" 21 "vkhwpnc" (G.2.2.2 1) s ∧ vk_R "HeldInTrust" 140 "olcw" (G.2.2.2 2) s ∧ va_Z "java/lang/String" "COMPACT_STRINGS" "Z" (.int 1) (am_A G) s s.heap ∧ va_Nw (.methodLinkNest RX6 64 yX8_put "HeldInTrust") s ∧ va_Nw (.methodLinkNest RX6 118 yX8_grown "HeldInTrust") s
theorem am_X.warm {G : am_G} {s U : State} {H : Heap} {locs : List Loc} (h : am_X G s) (hS : va_S (am_A G) s.heap H locs) (hU : U.heap = H) (hW : s.WarmedH U.vm) : am_X G U := by
  obtain ⟨h1, h2, h3, h4, h5, h6⟩ := h
  refine ⟨?_, h2.warm hW, h3.warm hW, ?_, h5.warmM hW, h6.warmM hW⟩
  · rw [hU]; exact (h1.kept hS.2.1).moved hW.alike
  · rw [hU]; exact (h4.kept hS.2.1).moved hW.alike
theorem am_X.calling {G : am_G} {U : State} (h : am_X G U) (g : JFrame) (mk : MethodId) (a : Array Value) : am_X G (U.calling g mk a) := by
  obtain ⟨h1, h2, h3, h4, h5, h6⟩ := h
  exact ⟨h1.moved (Vm.Alike.refl U.vm), h2.same rfl, h3.same rfl, h4.moved (Vm.Alike.refl U.vm), h5.same rfl rfl, h6.same rfl rfl⟩
def am_C (G : am_G) (M : am_Mt) (d : Nat) (p : Program) (R : Room) (s : State) (m : MethodId) (args : Array Value) (meth : Method) (c : Code) : Prop :=
  p.tables.exec = Jvm.exec ∧ c.code = M.2.1 ∧ c.maxLocals = M.2.2.1 ∧ s.vm.findClass M.1 = some m.cls ∧ (∀ w ∈ am_tbl, w.before args s = true) ∧ meth.sig.returnType = M.2.2.2 ∧ meth.locks = false ∧ va_K G.2.1 vwCl (am_tys G) s ∧ G.1 ≤ s.heap.size ∧ d + 2 ≤ R.frames ∧ 60 * d + 100 ≤ R.locals ∧ am_X G s
def am_okr (r : Option am_V) : Prop := ∀ v, r = some v → am_okv v
def am_Qc (G : am_G) (Q : Option am_V → am_M → Prop) : Array Value → State → Outcome → State → Prop := fun _ st o t =>
  (∃ (r : Option am_V) (mem : am_M), Q r mem ∧ am_okr r ∧ o = .returned (r.map (am_enc G)) ∧ am_P G mem t.heap ∧ va_K G.2.1 vwCl (am_tys G) t) ∧ va_F (am_A G) st t
def am_Rn (l : Launch) (G : am_G) (M : am_Mt) (d : Nat) (pc : Nat) (ls : am_L) (st : List am_V) (mem : am_M) (Q : Option am_V → am_M → Prop) : Prop :=
  ∀ (p : Program) (e : Env) (R : Room) (s : State) (m : MethodId) (args : Array Value) (below : List Frame) (meth : Method) (c : Code) (H : Heap) (locs : List Loc) (lsM : Array Slot),
    am_C G M d p R s m args meth c → am_P G mem H → va_S (am_A G) s.heap H locs → am_lr G M.2.2.1 ls lsM → (∀ v ∈ st, am_okv v) →
    W p l e R s m args below meth c H locs 0 0 (MQ below (am_Qc G Q) args s 0 0 (am_A G)) (F0 m pc lsM (st.map (am_enc G)))
section RN
variable {l : Launch} {G : am_G} {M : am_Mt} {d pc q : Nat} {ls ls' : am_L} {st : List am_V} {mem : am_M} {Q : Option am_V → am_M → Prop}
/-- a step that changes neither cells nor locals -/
theorem am_go {st1 : List am_V} (k : am_Rn l G M d q ls st1 mem Q) (hok : (∀ v ∈ ls, ∀ u, v = some u → am_okv u) → (∀ v ∈ st, am_okv v) → ∀ v ∈ st1, am_okv v)
    (hw : ∀ {p : Program} {e : Env} {R : Room} {s : State} {m : MethodId} {args : Array Value} {below : List Frame} {meth : Method} {c : Code} {H : Heap} {locs : List Loc} {lsM : Array Slot} {Z : State → Prop}, am_C G M d p R s m args meth c → am_lr G M.2.2.1 ls lsM → (∀ v ∈ st, am_okv v) →
      W p l e R s m args below meth c H locs 0 0 Z (F0 m q lsM (st1.map (am_enc G))) → W p l e R s m args below meth c H locs 0 0 Z (F0 m pc lsM (st.map (am_enc G))))
    : am_Rn l G M d pc ls st mem Q := by
  intro p e R s m args below meth c H locs lsM C hP hS hl ho
  refine hw C hl ho (k p e R s m args below meth c H locs lsM C hP hS hl (hok (fun v hv u hu => ?_) ho))
  obtain ⟨i, hi⟩ := List.getElem?_of_mem hv
  exact (hl.2.2 i u (by rw [hi, hu])).2
theorem am_k1 {x y : am_V} {st : List am_V} (h : ∀ v ∈ x :: st, am_okv v) (hy : am_okv y) : ∀ v ∈ y :: st, am_okv v := List.forall_mem_cons.mpr ⟨hy, (List.forall_mem_cons.mp h).2⟩
theorem am_k2 {x z y : am_V} {st : List am_V} (h : ∀ v ∈ x :: z :: st, am_okv v) (hy : am_okv y) : ∀ v ∈ y :: st, am_okv v := List.forall_mem_cons.mpr ⟨hy, (List.forall_mem_cons.mp (List.forall_mem_cons.mp h).2).2⟩
theorem am_k0 {y : am_V} {st : List am_V} (h : ∀ v ∈ st, am_okv v) (hy : am_okv y) : ∀ v ∈ y :: st, am_okv v := List.forall_mem_cons.mpr ⟨hy, h⟩
theorem am_kh {x : am_V} {st : List am_V} (h : ∀ v ∈ x :: st, am_okv v) : am_okv x := (List.forall_mem_cons.mp h).1
theorem am_kt {x : am_V} {st : List am_V} (h : ∀ v ∈ x :: st, am_okv v) : ∀ v ∈ st, am_okv v := (List.forall_mem_cons.mp h).2
/-! constants -/
theorem rn_iconst {n : Int} (hd : decode M.2.1 pc = .ok (.iconst n, 1)) (hn : am_ok n) (hq : pc + 1 = q) (k : am_Rn l G M d q ls (.inl n :: st) mem Q) : am_Rn l G M d pc ls st mem Q := by
  subst hq
  exact am_go k (fun _ ho => am_k0 ho hn) (fun C hl ho k => lv_iconst C.1 C.2.1 hd rfl k)
theorem am_b8 {n : Int} (h : -128 ≤ n ∧ n ≤ 127) : (Int8.ofInt n).toInt32 = Int32.ofInt n := by
  rw [← Int32.toInt_inj, Int8.toInt_toInt32, Int8.toInt_ofInt_of_le (by omega) (by omega), am_i_ok (by unfold am_ok; omega)]
theorem am_b16 {n : Int} (h : -32768 ≤ n ∧ n ≤ 32767) : (Int16.ofInt n).toInt32 = Int32.ofInt n := by
  rw [← Int32.toInt_inj, Int16.toInt_toInt32, Int16.toInt_ofInt_of_le (by omega) (by omega), am_i_ok (by unfold am_ok; omega)]
theorem rn_bipush {n : Int} (hd : decode M.2.1 pc = .ok (.bipush n, 2)) (hn : -128 ≤ n ∧ n ≤ 127) (hq : pc + 2 = q) (k : am_Rn l G M d q ls (.inl n :: st) mem Q) : am_Rn l G M d pc ls st mem Q := by
  subst hq
  exact am_go k (fun _ ho => am_k0 ho (show am_ok n by unfold am_ok; omega)) (fun C hl ho k => lv_bipush C.1 C.2.1 hd (am_b8 hn) k)
theorem rn_sipush {n : Int} (hd : decode M.2.1 pc = .ok (.sipush n, 3)) (hn : -32768 ≤ n ∧ n ≤ 32767) (hq : pc + 3 = q) (k : am_Rn l G M d q ls (.inl n :: st) mem Q) : am_Rn l G M d pc ls st mem Q := by
  subst hq
  exact am_go k (fun _ ho => am_k0 ho (show am_ok n by unfold am_ok; omega)) (fun C hl ho k => lv_sipush C.1 C.2.1 hd (am_b16 hn) k)
theorem rn_lconst0 (hd : decode M.2.1 pc = .ok (.lconst 0, 1)) (hq : pc + 1 = q) (k : am_Rn l G M d q ls (.inr (.inl 0) :: st) mem Q) : am_Rn l G M d pc ls st mem Q := by
  subst hq
  exact am_go k (fun _ ho => am_k0 ho (show am_okl 0 by unfold am_okl; omega)) (fun C hl ho k => lv_lconst C.1 C.2.1 hd rfl k)
theorem rn_lconst1 (hd : decode M.2.1 pc = .ok (.lconst 1, 1)) (hq : pc + 1 = q) (k : am_Rn l G M d q ls (.inr (.inl 1) :: st) mem Q) : am_Rn l G M d pc ls st mem Q := by
  subst hq
  exact am_go k (fun _ ho => am_k0 ho (show am_okl 1 by unfold am_okl; omega)) (fun C hl ho k => lv_lconst C.1 C.2.1 hd rfl k)
theorem rn_ldc {i : Nat} {v : Int32} {n : Int} (hd : decode M.2.1 pc = .ok (.ldc i, 2)) (hc : Cond.constant M.1 i v ∈ am_tbl) (hv : Int32.ofInt n = v) (hn : am_ok n) (hq : pc + 2 = q) (k : am_Rn l G M d q ls (.inl n :: st) mem Q) : am_Rn l G M d pc ls st mem Q := by
  subst hq; subst hv
  exact am_go k (fun _ ho => am_k0 ho hn) (fun C hl ho k => lv_ldc C.1 C.2.1 C.2.2.2.1 (C.2.2.2.2.1 _ hc) hd k)
theorem rn_ldcw {i : Nat} {v : Int32} {n : Int} (hd : decode M.2.1 pc = .ok (.ldc_w i, 3)) (hc : Cond.constant M.1 i v ∈ am_tbl) (hv : Int32.ofInt n = v) (hn : am_ok n) (hq : pc + 3 = q) (k : am_Rn l G M d q ls (.inl n :: st) mem Q) : am_Rn l G M d pc ls st mem Q := by
  subst hq; subst hv
  exact am_go k (fun _ ho => am_k0 ho hn) (fun C hl ho k => lv_ldcw C.1 C.2.1 C.2.2.2.1 (C.2.2.2.2.1 _ hc) hd k)
theorem rn_ldc2 {i : Nat} {v : Int64} {n : Int} (hd : decode M.2.1 pc = .ok (.ldc2_w i, 3)) (hc : Cond.constantLong M.1 i v ∈ am_tbl) (hv : Int64.ofInt n = v) (hn : am_okl n) (hq : pc + 3 = q) (k : am_Rn l G M d q ls (.inr (.inl n) :: st) mem Q) : am_Rn l G M d pc ls st mem Q := by
  subst hq; subst hv
  exact am_go k (fun _ ho => am_k0 ho hn) (fun C hl ho k => lv_ldc2 C.1 C.2.1 C.2.2.2.1 (C.2.2.2.2.1 _ hc) hd k)
/-! locals -/
theorem rn_iload_n {i : Fin 4} {x : Int} (hd : decode M.2.1 pc = .ok (.iload_n i, 1)) (hx : ls[(i : Nat)]? = some (some (.inl x))) (hq : pc + 1 = q) (k : am_Rn l G M d q ls (.inl x :: st) mem Q) : am_Rn l G M d pc ls st mem Q := by
  subst hq
  exact am_go k (fun hl ho => am_k0 ho (hl _ (List.mem_of_getElem? hx) _ rfl)) (fun C hl ho k => lv_iload_n C.1 C.2.1 hd rfl (hl.2.2 _ _ hx).1 k)
theorem rn_iload {i : Nat} {x : Int} (hd : decode M.2.1 pc = .ok (.iload i, 2)) (hx : ls[i]? = some (some (.inl x))) (hq : pc + 2 = q) (k : am_Rn l G M d q ls (.inl x :: st) mem Q) : am_Rn l G M d pc ls st mem Q := by
  subst hq
  exact am_go k (fun hl ho => am_k0 ho (hl _ (List.mem_of_getElem? hx) _ rfl)) (fun C hl ho k => lv_iload C.1 C.2.1 hd (hl.2.2 _ _ hx).1 k)
theorem rn_lload_n {i : Fin 4} {x : Int} (hd : decode M.2.1 pc = .ok (.lload_n i, 1)) (hx : ls[(i : Nat)]? = some (some (.inr (.inl x)))) (hq : pc + 1 = q) (k : am_Rn l G M d q ls (.inr (.inl x) :: st) mem Q) : am_Rn l G M d pc ls st mem Q := by
  subst hq
  exact am_go k (fun hl ho => am_k0 ho (hl _ (List.mem_of_getElem? hx) _ rfl)) (fun C hl ho k => lv_lload_n C.1 C.2.1 hd rfl (hl.2.2 _ _ hx).1 k)
theorem rn_lload {i : Nat} {x : Int} (hd : decode M.2.1 pc = .ok (.lload i, 2)) (hx : ls[i]? = some (some (.inr (.inl x)))) (hq : pc + 2 = q) (k : am_Rn l G M d q ls (.inr (.inl x) :: st) mem Q) : am_Rn l G M d pc ls st mem Q := by
  subst hq
  exact am_go k (fun hl ho => am_k0 ho (hl _ (List.mem_of_getElem? hx) _ rfl)) (fun C hl ho k => lv_lload C.1 C.2.1 hd (hl.2.2 _ _ hx).1 k)
theorem rn_aload_n {i : Fin 4} {x : Nat} (hd : decode M.2.1 pc = .ok (.aload_n i, 1)) (hx : ls[(i : Nat)]? = some (some (.inr (.inr (x + 1))))) (hq : pc + 1 = q) (k : am_Rn l G M d q ls (.inr (.inr (x + 1)) :: st) mem Q) : am_Rn l G M d pc ls st mem Q := by
  subst hq
  exact am_go k (fun hl ho => am_k0 ho (hl _ (List.mem_of_getElem? hx) _ rfl)) (fun C hl ho k => lv_aload_n C.1 C.2.1 hd rfl (hl.2.2 _ _ hx).1 k)
theorem rn_aload {i : Nat} {x : Nat} (hd : decode M.2.1 pc = .ok (.aload i, 2)) (hx : ls[i]? = some (some (.inr (.inr (x + 1))))) (hq : pc + 2 = q) (k : am_Rn l G M d q ls (.inr (.inr (x + 1)) :: st) mem Q) : am_Rn l G M d pc ls st mem Q := by
  subst hq
  exact am_go k (fun hl ho => am_k0 ho (hl _ (List.mem_of_getElem? hx) _ rfl)) (fun C hl ho k => lv_aload C.1 C.2.1 hd (hl.2.2 _ _ hx).1 k)
theorem rn_istore_n {i : Fin 4} {x : Int} (hd : decode M.2.1 pc = .ok (.istore_n i, 1)) (hi : (i : Nat) < M.2.2.1) (hs : am_set ls i (.inl x) = ls') (hq : pc + 1 = q) (k : am_Rn l G M d q ls' st mem Q) : am_Rn l G M d pc ls (.inl x :: st) mem Q := by
  subst hq; subst hs
  intro p e R s m args below meth c H locs lsM C hP hS hl ho
  exact lv_istore_n C.1 C.2.1 hd rfl hl.has hi rfl (fun lsN hN => k p e R s m args below meth c H locs lsN C hP hS (hl.set1 (v := .inl x) (am_kh ho) hN) (am_kt ho))
theorem rn_istore {i : Nat} {x : Int} (hd : decode M.2.1 pc = .ok (.istore i, 2)) (hi : i < M.2.2.1) (hs : am_set ls i (.inl x) = ls') (hq : pc + 2 = q) (k : am_Rn l G M d q ls' st mem Q) : am_Rn l G M d pc ls (.inl x :: st) mem Q := by
  subst hq; subst hs
  intro p e R s m args below meth c H locs lsM C hP hS hl ho
  exact lv_istore C.1 C.2.1 hd hl.has hi rfl (fun lsN hN => k p e R s m args below meth c H locs lsN C hP hS (hl.set1 (v := .inl x) (am_kh ho) hN) (am_kt ho))
theorem rn_lstore_n {i : Fin 4} {x : Int} (hd : decode M.2.1 pc = .ok (.lstore_n i, 1)) (hi : (i : Nat) + 1 < M.2.2.1) (hs : am_clr (am_set ls i (.inr (.inl x))) (i + 1) = ls') (hq : pc + 1 = q) (k : am_Rn l G M d q ls' st mem Q) : am_Rn l G M d pc ls (.inr (.inl x) :: st) mem Q := by
  subst hq; subst hs
  intro p e R s m args below meth c H locs lsM C hP hS hl ho
  exact lv_lstore_n C.1 C.2.1 hd rfl hl.has hi rfl (fun lsN hN => k p e R s m args below meth c H locs lsN C hP hS (hl.set2 (v := .inr (.inl x)) (am_kh ho) hN) (am_kt ho))
theorem rn_lstore {i : Nat} {x : Int} (hd : decode M.2.1 pc = .ok (.lstore i, 2)) (hi : i + 1 < M.2.2.1) (hs : am_clr (am_set ls i (.inr (.inl x))) (i + 1) = ls') (hq : pc + 2 = q) (k : am_Rn l G M d q ls' st mem Q) : am_Rn l G M d pc ls (.inr (.inl x) :: st) mem Q := by
  subst hq; subst hs
  intro p e R s m args below meth c H locs lsM C hP hS hl ho
  exact lv_lstore C.1 C.2.1 hd hl.has hi rfl (fun lsN hN => k p e R s m args below meth c H locs lsN C hP hS (hl.set2 (v := .inr (.inl x)) (am_kh ho) hN) (am_kt ho))
theorem rn_astore_n {i : Fin 4} {x : Nat} (hd : decode M.2.1 pc = .ok (.astore_n i, 1)) (hi : (i : Nat) < M.2.2.1) (hs : am_set ls i (.inr (.inr (x + 1))) = ls') (hq : pc + 1 = q) (k : am_Rn l G M d q ls' st mem Q) : am_Rn l G M d pc ls (.inr (.inr (x + 1)) :: st) mem Q := by
  subst hq; subst hs
  intro p e R s m args below meth c H locs lsM C hP hS hl ho
  exact lv_astore_n C.1 C.2.1 hd rfl hl.has hi rfl (fun lsN hN => k p e R s m args below meth c H locs lsN C hP hS (hl.set1 (v := .inr (.inr (x + 1))) (am_kh ho) hN) (am_kt ho))
theorem rn_astore {i : Nat} {x : Nat} (hd : decode M.2.1 pc = .ok (.astore i, 2)) (hi : i < M.2.2.1) (hs : am_set ls i (.inr (.inr (x + 1))) = ls') (hq : pc + 2 = q) (k : am_Rn l G M d q ls' st mem Q) : am_Rn l G M d pc ls (.inr (.inr (x + 1)) :: st) mem Q := by
  subst hq; subst hs
  intro p e R s m args below meth c H locs lsM C hP hS hl ho
  exact lv_astore C.1 C.2.1 hd hl.has hi rfl (fun lsN hN => k p e R s m args below meth c H locs lsN C hP hS (hl.set1 (v := .inr (.inr (x + 1))) (am_kh ho) hN) (am_kt ho))
theorem rn_iinc {i : Nat} {x n : Int} (hd : decode M.2.1 pc = .ok (.iinc i n, 3)) (hx : ls[i]? = some (some (.inl x))) (hi : i < M.2.2.1) (hs : am_set ls i (.inl (am_w32 (x + n))) = ls') (hq : pc + 3 = q) (k : am_Rn l G M d q ls' st mem Q) : am_Rn l G M d pc ls st mem Q := by
  subst hq; subst hs
  intro p e R s m args below meth c H locs lsM C hP hS hl ho
  obtain ⟨j, hj⟩ := List.getElem?_of_mem (am_lv_in (G := G) hx)
  refine lv_iinc C.1 C.2.1 hd hl.has hj (v := Int32.ofInt (am_w32 (x + n))) (by rw [am_w32_of, Int32.ofInt_add]) hi rfl (fun lsN hN => k p e R s m args below meth c H locs lsN C hP hS (hl.set1 (v := .inl (am_w32 (x + n))) (am_w32_ok _) hN) ho)
/-! arithmetic -/
theorem rn_iadd {x y : Int} (hd : decode M.2.1 pc = .ok (.iadd, 1)) (hq : pc + 1 = q) (k : am_Rn l G M d q ls (.inl (am_w32 (x + y)) :: st) mem Q) : am_Rn l G M d pc ls (.inl y :: .inl x :: st) mem Q := by
  subst hq
  exact am_go k (fun _ ho => am_k2 ho (am_w32_ok _)) (fun C hl ho k => lv_iadd C.1 C.2.1 hd (by simpa only [List.map_cons, am_enc, am_w32_of, Int32.ofInt_add] using k))
theorem rn_isub {x y : Int} (hd : decode M.2.1 pc = .ok (.isub, 1)) (hq : pc + 1 = q) (k : am_Rn l G M d q ls (.inl (am_w32 (x - y)) :: st) mem Q) : am_Rn l G M d pc ls (.inl y :: .inl x :: st) mem Q := by
  subst hq
  exact am_go k (fun _ ho => am_k2 ho (am_w32_ok _)) (fun C hl ho k => lv_isub C.1 C.2.1 hd (by simpa only [List.map_cons, am_enc, am_w32_of, Int32.ofInt_sub] using k))
theorem rn_imul {x y : Int} (hd : decode M.2.1 pc = .ok (.imul, 1)) (hq : pc + 1 = q) (k : am_Rn l G M d q ls (.inl (am_w32 (x * y)) :: st) mem Q) : am_Rn l G M d pc ls (.inl y :: .inl x :: st) mem Q := by
  subst hq
  exact am_go k (fun _ ho => am_k2 ho (am_w32_ok _)) (fun C hl ho k => lv_imul C.1 C.2.1 hd (by simpa only [List.map_cons, am_enc, am_w32_of, Int32.ofInt_mul] using k))
theorem rn_ineg {x : Int} (hd : decode M.2.1 pc = .ok (.ineg, 1)) (hq : pc + 1 = q) (k : am_Rn l G M d q ls (.inl (am_w32 (-x)) :: st) mem Q) : am_Rn l G M d pc ls (.inl x :: st) mem Q := by
  subst hq
  exact am_go k (fun _ ho => am_k1 ho (am_w32_ok _)) (fun C hl ho k => lv_ineg C.1 C.2.1 hd (by simpa only [List.map_cons, am_enc, am_w32_of, Int32.ofInt_neg] using k))
theorem rn_ladd {x y : Int} (hd : decode M.2.1 pc = .ok (.ladd, 1)) (hq : pc + 1 = q) (k : am_Rn l G M d q ls (.inr (.inl (am_w64 (x + y))) :: st) mem Q) : am_Rn l G M d pc ls (.inr (.inl y) :: .inr (.inl x) :: st) mem Q := by
  subst hq
  exact am_go k (fun _ ho => am_k2 ho (am_w64_ok _)) (fun C hl ho k => lv_ladd C.1 C.2.1 hd (by simpa only [List.map_cons, am_enc, am_w64_of, Int64.ofInt_add] using k))
theorem rn_lmul {x y : Int} (hd : decode M.2.1 pc = .ok (.lmul, 1)) (hq : pc + 1 = q) (k : am_Rn l G M d q ls (.inr (.inl (am_w64 (x * y))) :: st) mem Q) : am_Rn l G M d pc ls (.inr (.inl y) :: .inr (.inl x) :: st) mem Q := by
  subst hq
  exact am_go k (fun _ ho => am_k2 ho (am_w64_ok _)) (fun C hl ho k => lv_lmul C.1 C.2.1 hd (by simpa only [List.map_cons, am_enc, am_w64_of, Int64.ofInt_mul] using k))
theorem rn_iand {x y : Int} (hd : decode M.2.1 pc = .ok (.iand, 1)) (hq : pc + 1 = q) (k : am_Rn l G M d q ls (.inl (am_and x y) :: st) mem Q) : am_Rn l G M d pc ls (.inl y :: .inl x :: st) mem Q := by
  subst hq
  exact am_go k (fun _ ho => am_k2 ho (am_ok_i _)) (fun C hl ho k => lv_iand C.1 C.2.1 hd (by simpa only [List.map_cons, am_enc, am_and, Int32.ofInt_toInt] using k))
theorem rn_ior {x y : Int} (hd : decode M.2.1 pc = .ok (.ior, 1)) (hq : pc + 1 = q) (k : am_Rn l G M d q ls (.inl (am_or x y) :: st) mem Q) : am_Rn l G M d pc ls (.inl y :: .inl x :: st) mem Q := by
  subst hq
  exact am_go k (fun _ ho => am_k2 ho (am_ok_i _)) (fun C hl ho k => lv_ior C.1 C.2.1 hd (by simpa only [List.map_cons, am_enc, am_or, Int32.ofInt_toInt] using k))
theorem rn_ixor {x y : Int} (hd : decode M.2.1 pc = .ok (.ixor, 1)) (hq : pc + 1 = q) (k : am_Rn l G M d q ls (.inl (am_xor x y) :: st) mem Q) : am_Rn l G M d pc ls (.inl y :: .inl x :: st) mem Q := by
  subst hq
  exact am_go k (fun _ ho => am_k2 ho (am_ok_i _)) (fun C hl ho k => lv_ixor C.1 C.2.1 hd (by simpa only [List.map_cons, am_enc, am_xor, Int32.ofInt_toInt] using k))
theorem rn_ishl {x y : Int} (hd : decode M.2.1 pc = .ok (.ishl, 1)) (hq : pc + 1 = q) (k : am_Rn l G M d q ls (.inl (am_shl x y) :: st) mem Q) : am_Rn l G M d pc ls (.inl y :: .inl x :: st) mem Q := by
  subst hq
  exact am_go k (fun _ ho => am_k2 ho (am_ok_i _)) (fun C hl ho k => lv_ishl C.1 C.2.1 hd (by simpa only [List.map_cons, am_enc, am_shl, Int32.ofInt_toInt] using k))
theorem rn_ishr {x y : Int} (hd : decode M.2.1 pc = .ok (.ishr, 1)) (hq : pc + 1 = q) (k : am_Rn l G M d q ls (.inl (am_shr x y) :: st) mem Q) : am_Rn l G M d pc ls (.inl y :: .inl x :: st) mem Q := by
  subst hq
  exact am_go k (fun _ ho => am_k2 ho (am_ok_i _)) (fun C hl ho k => lv_ishr C.1 C.2.1 hd (by simpa only [List.map_cons, am_enc, am_shr, Int32.ofInt_toInt] using k))
theorem rn_iushr {x y : Int} (hd : decode M.2.1 pc = .ok (.iushr, 1)) (hq : pc + 1 = q) (k : am_Rn l G M d q ls (.inl (am_ushr x y) :: st) mem Q) : am_Rn l G M d pc ls (.inl y :: .inl x :: st) mem Q := by
  subst hq
  exact am_go k (fun _ ho => am_k2 ho (am_ok_i _)) (fun C hl ho k => lv_iushr C.1 C.2.1 hd rfl (by simpa only [List.map_cons, am_enc, am_ushr, Int32.ofInt_toInt] using k))
theorem am_tdiv_ok {x y : Int} (hx : am_ok x) : Int32.ofInt (am_w32 (x.tdiv y)) = Int32.ofInt (x.tdiv y) := am_w32_of _
theorem am_nz {y : Int} (hy : am_ok y) (h : y ≠ 0) : ¬ Int32.ofInt y = 0 := fun e => h ((am_eq hy (show am_ok 0 by unfold am_ok; omega)).mp e)
theorem am_div {x y : Int} (hx : am_ok x) (hy : am_ok y) : Int32.ofInt x / Int32.ofInt y = Int32.ofInt (am_w32 (x.tdiv y)) := by
  rw [← Int32.toInt_inj, Int32.toInt_div, am_i_ok hx, am_i_ok hy, am_i_ok (am_w32_ok _)]; exact am_bmod32 _
theorem am_ldiv {x y : Int} (hx : am_okl x) (hy : am_okl y) : Int64.ofInt x / Int64.ofInt y = Int64.ofInt (am_w64 (x.tdiv y)) := by
  rw [← Int64.toInt_inj, Int64.toInt_div, am_l_ok hx, am_l_ok hy, am_l_ok (am_w64_ok _)]; exact am_bmod64 _
theorem am_w32_w {x : Int} : am_w32 (am_w32 x) = am_w32 x := am_w32_id (am_w32_ok _)
theorem am_rem {x y : Int} (hx : am_ok x) (hy : am_ok y) : Int32.ofInt x - Int32.ofInt x / Int32.ofInt y * Int32.ofInt y = Int32.ofInt (am_w32 (x.tmod y)) := by
  rw [am_div hx hy, am_w32_of, am_w32_of, ← Int32.ofInt_mul, ← Int32.ofInt_sub]
  congr 1
  have := Int.mul_tdiv_add_tmod x y
  rw [Int.mul_comm] at this
  omega
theorem am_lrem {x y : Int} (hx : am_okl x) (hy : am_okl y) : Int64.ofInt x - Int64.ofInt x / Int64.ofInt y * Int64.ofInt y = Int64.ofInt (am_w64 (x.tmod y)) := by
  rw [am_ldiv hx hy, am_w64_of, am_w64_of, ← Int64.ofInt_mul, ← Int64.ofInt_sub]
  congr 1
  have := Int.mul_tdiv_add_tmod x y
  rw [Int.mul_comm] at this
  omega
theorem rn_idiv {x y : Int} (hd : decode M.2.1 pc = .ok (.idiv, 1)) (hy : y ≠ 0) (hq : pc + 1 = q) (k : am_Rn l G M d q ls (.inl (am_w32 (x.tdiv y)) :: st) mem Q) : am_Rn l G M d pc ls (.inl y :: .inl x :: st) mem Q := by
  subst hq
  exact am_go k (fun _ ho => am_k2 ho (am_w32_ok _)) (fun C hl ho k => lv_idiv C.1 C.2.1 hd (am_nz (am_kh ho) hy) (by rw [am_div (am_kh (am_kt ho)) (am_kh ho)]; exact k))
theorem rn_irem {x y : Int} (hd : decode M.2.1 pc = .ok (.irem, 1)) (hy : y ≠ 0) (hq : pc + 1 = q) (k : am_Rn l G M d q ls (.inl (am_w32 (x.tmod y)) :: st) mem Q) : am_Rn l G M d pc ls (.inl y :: .inl x :: st) mem Q := by
  subst hq
  exact am_go k (fun _ ho => am_k2 ho (am_w32_ok _)) (fun C hl ho k => lv_irem C.1 C.2.1 hd (am_nz (am_kh ho) hy) (by rw [am_rem (am_kh (am_kt ho)) (am_kh ho)]; exact k))
theorem am_lnz {y : Int} (hy : am_okl y) (h : y ≠ 0) : ¬ Int64.ofInt y = 0 := fun e => h ((am_leq hy (show am_okl 0 by unfold am_okl; omega)).mp e)
theorem rn_ldiv {x y : Int} (hd : decode M.2.1 pc = .ok (.ldiv, 1)) (hy : y ≠ 0) (hq : pc + 1 = q) (k : am_Rn l G M d q ls (.inr (.inl (am_w64 (x.tdiv y))) :: st) mem Q) : am_Rn l G M d pc ls (.inr (.inl y) :: .inr (.inl x) :: st) mem Q := by
  subst hq
  exact am_go k (fun _ ho => am_k2 ho (am_w64_ok _)) (fun C hl ho k => lv_ldiv C.1 C.2.1 hd (am_lnz (am_kh ho) hy) (by rw [am_ldiv (am_kh (am_kt ho)) (am_kh ho)]; exact k))
theorem rn_lrem {x y : Int} (hd : decode M.2.1 pc = .ok (.lrem, 1)) (hy : y ≠ 0) (hq : pc + 1 = q) (k : am_Rn l G M d q ls (.inr (.inl (am_w64 (x.tmod y))) :: st) mem Q) : am_Rn l G M d pc ls (.inr (.inl y) :: .inr (.inl x) :: st) mem Q := by
  subst hq
  exact am_go k (fun _ ho => am_k2 ho (am_w64_ok _)) (fun C hl ho k => lv_lrem C.1 C.2.1 hd (am_lnz (am_kh ho) hy) (by rw [am_lrem (am_kh (am_kt ho)) (am_kh ho)]; exact k))
theorem am_ok_okl {x : Int} (h : am_ok x) : am_okl x := by unfold am_ok at h; unfold am_okl; omega
theorem rn_i2l {x : Int} (hd : decode M.2.1 pc = .ok (.i2l, 1)) (hq : pc + 1 = q) (k : am_Rn l G M d q ls (.inr (.inl x) :: st) mem Q) : am_Rn l G M d pc ls (.inl x :: st) mem Q := by
  subst hq
  exact am_go k (fun _ ho => am_k1 ho (am_ok_okl (am_kh ho))) (fun C hl ho k => lv_i2l C.1 C.2.1 hd (v := Int64.ofInt x) (by rw [← Int64.toInt_inj, Int32.toInt_toInt64, am_i_ok (am_kh ho), am_l_ok (am_ok_okl (am_kh ho))]) k)
theorem am_i2b_ok (x : Int) : am_ok (am_i2b x) := by unfold am_i2b am_ok; omega
theorem am_i2s_ok (x : Int) : am_ok (am_i2s x) := by unfold am_i2s am_ok; omega
theorem am_i2c_ok (x : Int) : am_ok (x % 65536) := by unfold am_ok; omega
theorem rn_i2b {x : Int} (hd : decode M.2.1 pc = .ok (.i2b, 1)) (hq : pc + 1 = q) (k : am_Rn l G M d q ls (.inl (am_i2b x) :: st) mem Q) : am_Rn l G M d pc ls (.inl x :: st) mem Q := by
  subst hq
  exact am_go k (fun _ ho => am_k1 ho (am_i2b_ok _)) (fun C hl ho k => lv_i2b C.1 C.2.1 hd (v := Int32.ofInt (am_i2b x)) (by
    rw [← Int32.toInt_inj, Int8.toInt_toInt32, Int32.toInt_toInt8, am_i_ok (am_kh ho), am_i_ok (am_i2b_ok _)]
    unfold am_i2b; rw [Int.bmod_def]; omega) k)
theorem rn_i2s {x : Int} (hd : decode M.2.1 pc = .ok (.i2s, 1)) (hq : pc + 1 = q) (k : am_Rn l G M d q ls (.inl (am_i2s x) :: st) mem Q) : am_Rn l G M d pc ls (.inl x :: st) mem Q := by
  subst hq
  exact am_go k (fun _ ho => am_k1 ho (am_i2s_ok _)) (fun C hl ho k => lv_i2s C.1 C.2.1 hd (v := Int32.ofInt (am_i2s x)) (by
    rw [← Int32.toInt_inj, Int16.toInt_toInt32, Int32.toInt_toInt16, am_i_ok (am_kh ho), am_i_ok (am_i2s_ok _)]
    unfold am_i2s; rw [Int.bmod_def]; omega) k)
theorem am_cmp_ok (x y : Int) : am_ok (am_cmp x y) := by
  unfold am_cmp am_ok
  by_cases h : x < y
  · rw [if_pos h]; omega
  · rw [if_neg h]
    by_cases h : x = y
    · rw [if_pos h]; omega
    · rw [if_neg h]; omega
theorem rn_lcmp {x y : Int} (hd : decode M.2.1 pc = .ok (.lcmp, 1)) (hq : pc + 1 = q) (k : am_Rn l G M d q ls (.inl (am_cmp x y) :: st) mem Q) : am_Rn l G M d pc ls (.inr (.inl y) :: .inr (.inl x) :: st) mem Q := by
  subst hq
  refine am_go k (fun _ ho => am_k2 ho (am_cmp_ok x y)) (fun C hl ho k => W.lcmp C.1 C.2.1 hd (by
    have e : lg_cmp (Int64.ofInt x) (Int64.ofInt y) = Int32.ofInt (am_cmp x y) := by
      have h1 := am_llt (am_kh (am_kt ho)) (am_kh ho)
      have h2 := am_leq (am_kh (am_kt ho)) (am_kh ho)
      have h3 := am_llt (am_kh ho) (am_kh (am_kt ho))
      unfold lg_cmp am_cmp
      simp only [gt_iff_lt, h2, h3]
      by_cases a1 : y < x
      · rw [if_pos a1, if_neg (by omega), if_neg (by omega)]; rfl
      · rw [if_neg a1]
        by_cases a2 : x = y
        · rw [if_pos a2, if_neg (by omega), if_pos a2]; rfl
        · rw [if_neg a2, if_pos (by omega)]; rfl
    rw [e]; exact k))
/-! stack -/
theorem rn_dup {v : am_V} (hd : decode M.2.1 pc = .ok (.dup, 1)) (hv : am_lng (some v) = false) (hq : pc + 1 = q) (k : am_Rn l G M d q ls (v :: v :: st) mem Q) : am_Rn l G M d pc ls (v :: st) mem Q := by
  subst hq
  exact am_go k (fun _ ho => am_k0 ho (am_kh ho)) (fun C hl ho k => lv_dup C.1 C.2.1 hd (by rw [am_cat, hv]; rfl) k)
theorem rn_pop {v : am_V} (hd : decode M.2.1 pc = .ok (.pop, 1)) (hv : am_lng (some v) = false) (hq : pc + 1 = q) (k : am_Rn l G M d q ls st mem Q) : am_Rn l G M d pc ls (v :: st) mem Q := by
  subst hq
  exact am_go k (fun _ ho => am_kt ho) (fun C hl ho k => lv_pop C.1 C.2.1 hd (by rw [am_cat, hv]; rfl) k)
theorem rn_dup_x1 {v u : am_V} (hd : decode M.2.1 pc = .ok (.dup_x1, 1)) (hv : am_lng (some v) = false) (hu : am_lng (some u) = false) (hq : pc + 1 = q) (k : am_Rn l G M d q ls (v :: u :: v :: st) mem Q) : am_Rn l G M d pc ls (v :: u :: st) mem Q := by
  subst hq
  exact am_go k (fun _ ho => am_k0 (am_k0 (am_kt (am_kt ho)) (am_kh ho) |> fun h => am_k0 h (am_kh (am_kt ho))) (am_kh ho)) (fun C hl ho k => lv_dup_x1 C.1 C.2.1 hd (by rw [am_cat, hv]; rfl) (by rw [am_cat, hu]; rfl) k)
theorem rn_dup2 {v u : am_V} (hd : decode M.2.1 pc = .ok (.dup2, 1)) (hv : am_lng (some v) = false) (hu : am_lng (some u) = false) (hq : pc + 1 = q) (k : am_Rn l G M d q ls (v :: u :: v :: u :: st) mem Q) : am_Rn l G M d pc ls (v :: u :: st) mem Q := by
  subst hq
  exact am_go k (fun _ ho => am_k0 (am_k0 ho (am_kh (am_kt ho))) (am_kh ho)) (fun C hl ho k => lv_dup2_11 C.1 C.2.1 hd (by rw [am_cat, hv]; rfl) (by rw [am_cat, hu]; rfl) k)
end RN
