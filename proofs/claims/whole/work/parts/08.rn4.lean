/-! calls -/
def am_room (d : Nat) : Room := { frames := d + 2, cells := 0, slots := 0, locals := 60 * d + 100 }
def am_wd (y : MethodName) (M : am_Mt) : List Cond := Cond.code y M.2.1 M.2.2.1 M.2.2.2 :: am_tbl
def am_B (G : am_G) (mem : am_M) (U : State) : Prop := am_P G mem U.heap ∧ va_K G.2.1 vwCl (am_tys G) U ∧ G.1 ≤ U.heap.size ∧ am_X G U
/-- a method's contract: with these arguments and numbers it returns, its answer and the numbers then are of Q -/
def am_Sm (l : Launch) (G : am_G) (y : MethodName) (M : am_Mt) (d : Nat) (as : List am_V) (mem : am_M) (Q : Option am_V → am_M → Prop) : Prop :=
  (∀ v ∈ as, am_okv v) → Met l y (am_wd y M) (am_room d) (va_Pc (as.map (am_enc G)) (am_B G mem)) (am_Qc G Q) 0 0 (am_A G)
def am_lay : List am_V → am_L
  | [] => []
  | v :: t => some v :: (if am_lng (some v) = true then none :: am_lay t else am_lay t)
theorem am_lay_get (G : am_G) : ∀ (as : List am_V) (b i : Nat) (v : am_V), (am_lay as)[i]? = some (some v) → (b + i, am_enc G v) ∈ lv_args b (as.map (am_enc G)) ∧ v ∈ as := by
  intro as
  induction as with
  | nil => intro b i v h; simp [am_lay] at h
  | cons a t ih =>
    intro b i v h
    cases i with
    | zero =>
      simp [am_lay] at h
      subst h
      exact ⟨List.mem_cons_self, List.mem_cons_self⟩
    | succ i =>
      simp only [am_lay, List.getElem?_cons_succ] at h
      simp only [List.map_cons, lv_args]
      rw [am_cat]
      by_cases hl : am_lng (some a) = true
      · simp only [if_pos hl] at h ⊢
        cases i with
        | zero => simp at h
        | succ i =>
          simp only [List.getElem?_cons_succ] at h
          obtain ⟨h1, h2⟩ := ih (b + 2) i v h
          refine ⟨List.mem_cons_of_mem _ ?_, List.mem_cons_of_mem _ h2⟩
          have e : b + 2 + i = b + (i + 1 + 1) := by omega
          rw [e] at h1
          exact h1
      · simp only [if_neg hl] at h ⊢
        obtain ⟨h1, h2⟩ := ih (b + 1) i v h
        refine ⟨List.mem_cons_of_mem _ ?_, List.mem_cons_of_mem _ h2⟩
        have e : b + 1 + i = b + (i + 1) := by omega
        rw [e] at h1
        exact h1
theorem am_lay_len (G : am_G) : ∀ (as : List am_V), (lg_sl (as.map (am_enc G))).length = (am_lay as).length := by
  intro as
  induction as with
  | nil => rfl
  | cons a t ih =>
    have e : lg_sl ((a :: t).map (am_enc G)) = (if (am_enc G a).category = 2 then [Slot.val (am_enc G a), Slot.second] else [Slot.val (am_enc G a)]) ++ lg_sl (t.map (am_enc G)) := rfl
    rw [e, am_cat, List.length_append, ih]
    by_cases hl : am_lng (some a) = true
    · rw [am_lay, if_pos hl, if_pos hl, if_pos rfl]
      simp only [List.length_cons, List.length_nil]; omega
    · rw [am_lay, if_neg hl, if_neg hl, if_neg (by decide)]
      simp only [List.length_cons, List.length_nil]; omega
section RN4
variable {l : Launch} {G : am_G} {M : am_Mt} {d pc q t : Nat} {ls ls' : am_L} {st : List am_V} {mem mem' : am_M} {Q : Option am_V → am_M → Prop}
/-- a method by its body -/
theorem am_enter {y : MethodName} {as : List am_V} (hy : plainName y.cls = true) (hc : y.cls = M.1) (hn : (am_lay as).length ≤ M.2.2.1) (hl : am_lay as ++ List.replicate (M.2.2.1 - (am_lay as).length) none = ls) (k : am_Rn l G M d 0 ls [] mem Q) : am_Sm l G y M d as mem Q := by
  intro hok
  subst hl
  refine Met.ofW (cc := M.2.1) (maxL := M.2.2.1) (ret := M.2.2.2) hy rfl ?_
  intro p e s m args below meth c s₁ B hml hv
  obtain ⟨rfl, hP, hK, hB, hX⟩ := hv
  have hts := atoms_spec (ws := am_wd y M) B.pre
  have hown : s.vm.findClass y.cls = some m.cls := findClass_of_methodNamed B.named
  have hl := lv_entry (as.map (am_enc G)) (n := M.2.2.1) (by rw [am_lay_len]; exact hn)
  rw [lg_entry_eq]
  refine k p e _ s m _ below meth c s.heap [] _ ⟨B.exec, B.bytes, hml, by rw [← hc]; exact hown, fun w hw => hts w (List.mem_cons_of_mem _ hw), B.returns, B.notSynchronized, hK, hB, Nat.le_refl _, Nat.le_refl _, hX⟩ hP va_S.rf ⟨hl.1, hl.2.1, fun i v hi => ?_⟩ (fun v h => by cases h)
  have hi2 : (am_lay as)[i]? = some (some v) := by
    rw [List.getElem?_append] at hi
    split at hi
    · exact hi
    · rw [List.getElem?_replicate] at hi
      split at hi <;> simp at hi
  obtain ⟨h1, h2⟩ := am_lay_get G as 0 i v hi2
  rw [Nat.zero_add] at h1
  exact ⟨hl.2.2 _ h1, hok v h2⟩
theorem am_Pc_blind {as : List am_V} : FrameBlind (va_Pc (as.map (am_enc G)) (am_B G mem)) := by
  intro a U g mk h
  obtain ⟨h1, h2, h3, h4, h5⟩ := h
  exact ⟨h1, h2, va_K.moved (u := U) (U := U.calling g mk a) (Vm.Alike.refl U.vm) h3, h4, h5.calling g mk a⟩
theorem am_Pc_of {as : List am_V} {s : State} {H : Heap} {locs : List Loc} {U : State} (hP : am_P G mem H) (hK : va_K G.2.1 vwCl (am_tys G) s) (hB : G.1 ≤ s.heap.size) (hX : am_X G s) (hS : va_S (am_A G) s.heap H locs) (hU : U.heap = H) (hW : s.WarmedH U.vm) : va_Pc (as.map (am_enc G)) (am_B G mem) (as.map (am_enc G)).toArray U :=
  ⟨rfl, by rw [hU]; exact hP, va_K.moved hW.alike hK, by rw [hU]; exact Nat.le_trans hB hS.1, hX.warm hS hU hW⟩
def am_wsum (st : List am_V) : Nat := (st.map (fun v => if am_lng (some v) = true then 2 else 1)).sum
theorem am_wsum_eq (st : List am_V) : ((st.map (am_enc G)).map (fun v => v.category)).sum = am_wsum st := by
  unfold am_wsum
  rw [List.map_map]
  congr 1
  apply List.map_congr_left
  intro v _
  exact am_cat G v
/-- what goes on behind a call -/
theorem am_back {y : MethodName} {M' : am_Mt} {d' : Nat} {as rest : List am_V} {Q' : Option am_V → am_M → Prop} {p : Program} {e : Env} {R : Room} {s : State} {m : MethodId} {args a : Array Value} {below : List Frame} {meth : Method} {c : Code} {H : Heap} {locs : List Loc} {lsM : Array Slot} {st0 : List Value}
    (hr : va_Run p l e R s m args below meth c H locs 0 0 0 0 (F0 m pc lsM st0) (rest.map (am_enc G)) (am_Qc G Q' a) (am_A G)) (C : am_C G M d p R s m args meth c) (hS : va_S (am_A G) s.heap H locs) (hl : am_lr G M.2.2.1 ls lsM) (ho : ∀ v ∈ rest, am_okv v)
    (k : ∀ r mem1, Q' r mem1 → am_Rn l G M d (pc + 3) ls (r.toList ++ rest) mem1 Q) : W p l e R s m args below meth c H locs 0 0 (MQ below (am_Qc G Q) args s 0 0 (am_A G)) (F0 m pc lsM st0) := by
  intro T hT X
  obtain ⟨v, st₀, t, T', L, h0, X', hL, e1, e2, ⟨⟨r, mem1, hq, hokr, hv, hP1, hK1⟩, hz, hk⟩, stp⟩ := hr T hT X
  have hv : v = r.map (am_enc G) := Outcome.returned.inj hv
  subst hv
  rw [h0] at hz hk
  have hS1 : va_S (am_A G) s.heap T'.heap (locs ++ L) := ⟨Nat.le_trans hS.1 (by rw [e1]; exact hz), fun q h1 h2 => by rw [e1, hk q (Nat.lt_of_lt_of_le h1 hS.1) h2]; exact hS.2.1 q h1 h2, fun q hq => by
    rcases List.mem_append.mp hq with h | h
    · exact hS.2.2 q h
    · exact hL q h⟩
  obtain ⟨t2, a1, b1⟩ := k r mem1 hq p e R s m args below meth c T'.heap (locs ++ L) lsM C (by rw [e1]; exact hP1) hS1 hl (fun v hv => by
    rcases List.mem_append.mp hv with h | h
    · exact hokr v (Option.mem_toList.mp h)
    · exact ho v h) T' rfl X'
  refine ⟨t2, stp t2 ?_, b1⟩
  have e3 : (r.toList ++ rest).map (am_enc G) = (r.map (am_enc G)).toList ++ rest.map (am_enc G) := by cases r <;> simp
  rw [e3] at a1
  exact a1
/-- the words and the room of a call -/
def am_ML (own : String) (i : Nat) (y : MethodName) (M' : am_Mt) (n : Nat) : Prop := Cond.methodLink own i y ∈ am_tbl ∧ Cond.code y M'.2.1 M'.2.2.1 M'.2.2.2 ∈ am_tbl ∧ Cond.initialized y.cls ∈ am_tbl ∧ (y.cls ≠ "java/lang/invoke/MethodHandle" ∧ y.cls ≠ "java/lang/invoke/VarHandle") ∧ (parseMethodDescriptor y.desc).map (fun d => d.parameters.length) = some n ∧ M'.2.2.1 ≤ 30
def am_NL (G : am_G) (own : String) (i : Nat) (y : MethodName) (host : String) (M' : am_Mt) (n : Nat) : Prop := (∀ s, am_X G s → va_Nw (.methodLinkNest own i y host) s) ∧ Cond.code y M'.2.1 M'.2.2.1 M'.2.2.2 ∈ am_tbl ∧ Cond.initialized y.cls ∈ am_tbl ∧ (y.cls ≠ "java/lang/invoke/MethodHandle" ∧ y.cls ≠ "java/lang/invoke/VarHandle") ∧ (parseMethodDescriptor y.desc).map (fun d => d.parameters.length) = some n ∧ M'.2.2.1 ≤ 30
theorem am_wd_good {y : MethodName} {M' : am_Mt} (h : Cond.code y M'.2.1 M'.2.2.1 M'.2.2.2 ∈ am_tbl) : GoodIn am_tbl (am_wd y M') := by
  intro w hw
  rcases List.mem_cons.mp hw with rfl | hw
  · exact am_tbl_good _ h
  · exact am_tbl_good _ hw
theorem am_callB {y : MethodName} {M' : am_Mt} {i n d' : Nat} {R : Room} {s : State} {args : Array Value} (h : am_ML M.1 i y M' n) (ht : ∀ w ∈ am_tbl, w.before args s = true) (hd : d' + 1 ≤ d) (hR : d + 2 ≤ R.frames ∧ 60 * d + 100 ≤ R.locals) : CallB R s args M.1 i y M'.2.1 M'.2.2.1 M'.2.2.2 (am_wd y M') (am_room d') 0 0 n := by
  obtain ⟨h1, h2, h3, h4, h5, h6⟩ := h
  exact callB_of n ht (am_wd_good h2) rfl rfl rfl (ht _ h3) (ht _ h1) ⟨h4.1, h4.2, h5⟩ ⟨by show d' + 2 + 1 ≤ _; omega, by show 8 + (M'.2.2.1 + 11) + (60 * d' + 100) ≤ _; omega⟩
/-- invokestatic -/
theorem rn_callS {y : MethodName} {M' : am_Mt} {i n d' : Nat} {as rest : List am_V} {Q' : Option am_V → am_M → Prop} (hd : decode M.2.1 pc = .ok (.invokestatic i, 3)) (hm : am_ML M.1 i y M' n) (hs : Cond.static y ∈ am_tbl) (hdd : d' + 1 ≤ d) (hn : as.length = n) (hst : st = as.reverse ++ rest) (hw : am_wsum rest ≤ 8) (hq : pc + 3 = q) (hc : am_Sm l G y M' d' as mem Q') (k : ∀ r mem1, Q' r mem1 → am_Rn l G M d q ls (r.toList ++ rest) mem1 Q) : am_Rn l G M d pc ls st mem Q := by
  subst hq; subst hst
  intro p e R s m args below meth c H locs lsM C hP hS hl ho
  have hok : ∀ v ∈ as, am_okv v := fun v hv => ho v (List.mem_append_left _ (List.mem_reverse.mpr hv))
  have hor : ∀ v ∈ rest, am_okv v := fun v hv => ho v (List.mem_append_right _ hv)
  refine am_back (as := as) (M' := M') (d' := d') (y := y) (a := (as.map (am_enc G)).toArray) ?_ C hS hl hor k
  exact va_runS (As := as.map (am_enc G)) (rest := rest.map (am_enc G)) ⟨C.1, C.2.1, C.2.2.1, C.2.2.2.1, C.2.2.2.2.1⟩ (hc hok) ⟨am_callB hm C.2.2.2.2.1 hdd ⟨C.2.2.2.2.2.2.2.2.2.1, C.2.2.2.2.2.2.2.2.2.2.1⟩, C.2.2.2.2.1 _ hs⟩ ⟨am_Pc_blind, fun U hU hW => am_Pc_of hP C.2.2.2.2.2.2.2.1 C.2.2.2.2.2.2.2.2.1 C.2.2.2.2.2.2.2.2.2.2.2 hS hU hW⟩ rfl (by simpa using hn) hl.1 (by simp) (lv_room (by rw [am_wsum_eq]; exact hw)) hd ⟨Nat.zero_le _, Nat.zero_le _⟩
/-- invokestatic of a nest mate's -/
theorem rn_callSN {y : MethodName} {M' : am_Mt} {host : String} {i n d' : Nat} {as rest : List am_V} {Q' : Option am_V → am_M → Prop} (hd : decode M.2.1 pc = .ok (.invokestatic i, 3)) (hm : am_NL G M.1 i y host M' n) (hs : Cond.static y ∈ am_tbl) (hdd : d' + 1 ≤ d) (hn : as.length = n) (hst : st = as.reverse ++ rest) (hw : am_wsum rest ≤ 8) (hq : pc + 3 = q) (hc : am_Sm l G y M' d' as mem Q') (k : ∀ r mem1, Q' r mem1 → am_Rn l G M d q ls (r.toList ++ rest) mem1 Q) : am_Rn l G M d pc ls st mem Q := by
  subst hq; subst hst
  intro p e R s m args below meth c H locs lsM C hP hS hl ho
  have hok : ∀ v ∈ as, am_okv v := fun v hv => ho v (List.mem_append_left _ (List.mem_reverse.mpr hv))
  have hor : ∀ v ∈ rest, am_okv v := fun v hv => ho v (List.mem_append_right _ hv)
  obtain ⟨h1, h2, h3, h4, h5, h6⟩ := hm
  have ht := C.2.2.2.2.1
  have hR1 := C.2.2.2.2.2.2.2.2.2.1
  have hR2 := C.2.2.2.2.2.2.2.2.2.2.1
  refine am_back (as := as) (M' := M') (d' := d') (y := y) (a := (as.map (am_enc G)).toArray) ?_ C hS hl hor k
  refine va_runSN (As := as.map (am_enc G)) (rest := rest.map (am_enc G)) ⟨C.1, C.2.1, C.2.2.1, C.2.2.2.1, ht⟩ (hc hok) ⟨⟨⟨rfl, rfl, ?_, ?_, pay_in ht (am_wd_good h2), List.mem_cons_self⟩, ht _ h2, ht _ h3, h4, fun sig h => ?_, va_Nw.use rfl (h1 s C.2.2.2.2.2.2.2.2.2.2.2)⟩, ht _ hs, trivial⟩ ⟨am_Pc_blind, fun U hU hW => am_Pc_of hP C.2.2.2.2.2.2.2.1 C.2.2.2.2.2.2.2.2.1 C.2.2.2.2.2.2.2.2.2.2.2 hS hU hW⟩ rfl (by simpa using hn) hl.1 (by simp) (lv_room (by rw [am_wsum_eq]; exact hw)) hd ⟨Nat.zero_le _, Nat.zero_le _⟩
  · show d' + 2 + 1 ≤ _; omega
  · show 8 + (M'.2.2.1 + 11) + (60 * d' + 100) ≤ _; omega
  · rw [h] at h5; exact (Option.some.inj h5).symm
/-- invokevirtual on an object of ours -/
theorem rn_callV {y : MethodName} {M' : am_Mt} {i n d' b cb nb : Nat} {as rest : List am_V} {Q' : Option am_V → am_M → Prop} {Cn : String} {T : u_T} {N : Nat} (hd : decode M.2.1 pc = .ok (.invokevirtual i, 3)) (hm : am_ML M.1 i y M' n) (hs : Cond.instanceMethod y ∈ am_tbl ∧ Cond.selects Cn y y ∈ am_tbl) (hcl : vwCl[cb]? = some (Cn, T, N)) (hb : am_ks[b]? = some (cb, nb)) (hcb : cb < 100) (hdd : d' + 1 ≤ d) (hn : as.length = n) (hst : st = as.reverse ++ .inr (.inr (b + 1)) :: rest) (hw : am_wsum rest ≤ 8) (hq : pc + 3 = q) (hc : am_Sm l G y M' d' (.inr (.inr (b + 1)) :: as) mem Q') (k : ∀ r mem1, Q' r mem1 → am_Rn l G M d q ls (r.toList ++ rest) mem1 Q) : am_Rn l G M d pc ls st mem Q := by
  subst hq; subst hst
  intro p e R s m args below meth c H locs lsM C hP hS hl ho
  have hok : ∀ v ∈ (.inr (.inr (b + 1)) :: as : List am_V), am_okv v := fun v hv => by
    rcases List.mem_cons.mp hv with rfl | hv
    · trivial
    · exact ho v (List.mem_append_left _ (List.mem_reverse.mpr hv))
  have hor : ∀ v ∈ rest, am_okv v := fun v hv => ho v (List.mem_append_right _ (List.mem_cons_of_mem _ hv))
  have hb' := am_ks_lt hb
  have hwb : (am_ws G mem)[b]? = some (am_ad G b, .inr (cb, (List.range nb).map (fun k => am_enc G (am_tag (am_ft cb k) (am_rd mem cb b k))))) := by rw [am_ws_get hb', am_cell_o hb hcb, am_ad_lt hb']
  refine am_back (as := .inr (.inr (b + 1)) :: as) (M' := M') (d' := d') (y := y) (a := ((.inr (.inr (b + 1)) :: as : List am_V).map (am_enc G)).toArray) ?_ C hS hl hor k
  exact va_runV (b := am_ad G b) (As := as.map (am_enc G)) (rest := rest.map (am_enc G)) ⟨C.1, C.2.1, C.2.2.1, C.2.2.2.1, C.2.2.2.2.1⟩ (hc hok) ⟨am_callB hm C.2.2.2.2.1 hdd ⟨C.2.2.2.2.2.2.2.2.2.1, C.2.2.2.2.2.2.2.2.2.2.1⟩, C.2.2.2.2.1 _ hs.1, C.2.2.2.2.1 _ hs.2⟩ ⟨am_Pc_blind, va_recv C.2.2.2.2.2.2.2.1 hP.1 hcl hwb, fun U hU hW => am_Pc_of (as := .inr (.inr (b + 1)) :: as) hP C.2.2.2.2.2.2.2.1 C.2.2.2.2.2.2.2.2.1 C.2.2.2.2.2.2.2.2.2.2.2 hS hU hW⟩ rfl (by simpa using hn) hl.1 (by simp; rfl) (lv_room (by rw [am_wsum_eq]; exact hw)) hd ⟨Nat.zero_le _, Nat.zero_le _⟩
end RN4
