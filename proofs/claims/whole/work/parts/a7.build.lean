/-! worlds of cells that are being made -/
abbrev bm_Bt : Type := List (Nat × Nat × List Int)
def bset : List Int → Nat → Int → List Int
  | [], 0, x => [x]
  | [], k + 1, x => 0 :: bset [] k x
  | _ :: t, 0, x => x :: t
  | y :: t, k + 1, x => y :: bset t k x
theorem bset_get : ∀ (l : List Int) (k : Nat) (x : Int) (j : Nat), (bset l k x).getD j 0 = if j = k then x else l.getD j 0
  | [], 0, x, 0 => rfl
  | [], 0, x, j + 1 => by simp [bset]
  | [], k + 1, x, 0 => by simp [bset]
  | [], k + 1, x, j + 1 => by
    have h := bset_get [] k x j
    simp only [bset, List.getD_cons_succ, h]
    by_cases hj : j = k
    · simp [hj]
    · simp [hj]
  | y :: t, 0, x, 0 => rfl
  | y :: t, 0, x, j + 1 => by simp [bset]
  | y :: t, k + 1, x, 0 => by simp [bset]
  | y :: t, k + 1, x, j + 1 => by
    have h := bset_get t k x j
    simp only [bset, List.getD_cons_succ, h]
    by_cases hj : j = k
    · simp [hj]
    · simp [hj]
def bm_cell (G : am_G) (c : Nat × Nat × List Int) : va_E :=
  if c.1 < 100 then .inr (c.1, (List.range c.2.1).map (fun k => am_enc G (am_tag (am_ft c.1 k) (c.2.2.getD k 0))))
  else if c.1 = 101 then .inl (G.2.2.1 1, c.2.1, .inr (.inl (fun j => Int64.ofInt (c.2.2.getD j 0))))
  else if c.1 = 104 then .inl (G.2.2.1 4, c.2.1, .inr (.inr (.inr (.inr (fun j => am_rf G (c.2.2.getD j 0).toNat)))))
  else .inl (G.2.2.1 (c.1 - 100), c.2.1, .inl (fun j => Int32.ofInt (c.2.2.getD j 0)))
def bm_ws (G : am_G) (B : bm_Bt) : va_W := B.mapIdx (fun a c => (G.1 + a, bm_cell G c))
def bm_P (G : am_G) (B : bm_Bt) (H : Heap) : Prop := va_P G.2.1 vwCl (bm_ws G B) H ∧ H.size = G.1 + B.length
section BM
variable {G : am_G} {B : bm_Bt}
theorem bm_get {a : Nat} {c : Nat × Nat × List Int} (h : B[a]? = some c) : (bm_ws G B)[a]? = some (G.1 + a, bm_cell G c) := by
  unfold bm_ws; rw [List.getElem?_mapIdx, h]; rfl
theorem bm_some {k : Nat} {q : Nat × va_E} (h : (bm_ws G B)[k]? = some q) : ∃ c, B[k]? = some c ∧ q = (G.1 + k, bm_cell G c) := by
  unfold bm_ws at h
  rw [List.getElem?_mapIdx] at h
  cases hb : B[k]? with
  | none => rw [hb] at h; cases h
  | some c => rw [hb] at h; exact ⟨c, rfl, (Option.some.inj h).symm⟩
theorem bm_setw {a : Nat} {c : Nat × Nat × List Int} (h : a < B.length) : (bm_ws G B).set a (G.1 + a, bm_cell G c) = bm_ws G (B.set a c) := by
  apply List.ext_getElem?
  intro i
  unfold bm_ws
  by_cases hi : i = a
  · subst hi
    rw [List.getElem?_set_self (by simpa using h), List.getElem?_mapIdx, List.getElem?_set_self h]; rfl
  · rw [List.getElem?_set_ne (Ne.symm hi), List.getElem?_mapIdx, List.getElem?_mapIdx, List.getElem?_set_ne (Ne.symm hi)]
theorem bm_app {c : Nat × Nat × List Int} : bm_ws G (B ++ [c]) = bm_ws G B ++ [(G.1 + B.length, bm_cell G c)] := by
  unfold bm_ws
  rw [List.mapIdx_append]
  simp
theorem bm_D : va_D (am_A G) (bm_ws G B) := by
  refine ⟨fun i j p q hi hj e => ?_, fun k q hk => ?_⟩
  · obtain ⟨c1, h1, rfl⟩ := bm_some hi
    obtain ⟨c2, h2, rfl⟩ := bm_some hj
    have e : G.1 + i = G.1 + j := e
    omega
  · obtain ⟨c1, h1, rfl⟩ := bm_some hk
    exact Nat.le_add_right _ _
theorem bm_P.lt {H : Heap} (h : bm_P G B H) {k : Nat} {x : Nat × va_E} (hx : (bm_ws G B)[k]? = some x) : x.1 < H.size := by
  obtain ⟨c, h1, rfl⟩ := bm_some hx
  have := (List.getElem?_eq_some_iff.mp h1).1
  show G.1 + k < H.size
  rw [h.2]; omega
/-- one cell more -/
theorem bm_P.push {H H1 : Heap} {c : Nat × Nat × List Int} (h : bm_P G B H) (hz : H1.size = H.size + 1) (ho : ∀ q, q < H.size → H1[q]? = H[q]?) (hc : va_at G.2.1 vwCl (G.1 + B.length, bm_cell G c) H1) : bm_P G (B ++ [c]) H1 := by
  refine ⟨?_, by rw [hz, h.2, List.length_append]; rfl⟩
  rw [bm_app]
  refine (h.1.kept (fun k x hx => ho x.1 (h.lt hx))).app (fun k x hx => ?_)
  have hz : k < 1 := (List.getElem?_eq_some_iff.mp hx).1
  rw [show k = 0 by omega] at hx
  cases hx
  exact hc
theorem bm_va_S {H H1 : Heap} {H0 : Heap} {locs : List Loc} (hS : va_S (am_A G) H0 H locs) (hz : H1.size = H.size + 1) (ho : ∀ q, q < H.size → H1[q]? = H[q]?) : va_S (am_A G) H0 H1 locs := ⟨Nat.le_trans hS.1 (by omega), fun x h1 h2 => (ho x (Nat.lt_of_lt_of_le h1 hS.1)).trans (hS.2.1 x h1 h2), hS.2.2⟩
end BM
section BN
variable {l : Launch} {G : am_G} {M : am_Mt} {d mc ms : Nat} {E : State → Code → Prop} {Z : List Frame → Array Value → State → State → Prop} {pc q t : Nat} {ls ls' : am_L} {st : List am_V} {B : bm_Bt} {ce sl : Nat}
def bm_cnt (c : Nat) : Nat := (vwCl.map (fun r => r.2.2)).getD c 0
theorem bm_cnt_eq {c N : Nat} {C : String} {T : u_T} (h : vwCl[c]? = some (C, T, N)) : N = bm_cnt c := by
  unfold bm_cnt
  rw [List.getD_eq_getElem?_getD, List.getElem?_map, h]; rfl
theorem bm_dflt {t : Nat} {ty : FieldType} (h : am_tm t ty = true) : defaultValue ty = am_enc G (am_tag t 0) := by
  unfold am_tm at h
  split at h <;> first | rfl | (cases h)
theorem bm_ad {a : Nat} (h : a < 1000) : am_enc G (.inr (.inr (a + 1))) = .ref (G.1 + a) := by
  show Value.ref (am_ad G a) = _; unfold am_ad; rw [if_pos h]
theorem gn_new {i c N a : Nat} {Cn : String} {T : u_T} {ty : Nat → FieldType} (hd : decode M.2.1 pc = .ok (.new i, 3)) (hcf : am_CF c Cn T N ty) (hlk : Cond.classLink M.1 i Cn ∈ am_tbl) (hin : Cond.instantiable Cn N ∈ am_tbl) (hini : Cond.initialized Cn ∈ am_tbl) (ha : B.length = a) (ha9 : a < 1000) (hq : pc + 3 = q) (h1 : ce + 1 ≤ mc) (h2 : sl + N ≤ ms) (k : gn l G M d mc ms E Z q ls (.inr (.inr (a + 1)) :: st) (bm_P G (B ++ [(c, N, [])])) (ce + 1) (sl + N)) : gn l G M d mc ms E Z pc ls st (bm_P G B) ce sl := by
  subst hq; subst ha
  intro p e R s m args below meth c0 H locs lsM C D hP hS hl ho
  have ht := C.2.2.2.2.1
  have hK := C.2.2.2.2.2.2.2.1
  have hKn := hK.1 c _ hcf.1
  refine W.newcK C.1 C.2.1 C.2.2.2.1 (ht _ hlk) (ht _ hin) (ht _ hini) rfl hd (Nat.le_trans h1 D.1) (Nat.le_trans h2 D.2.1) hKn.2.1 hP.2 fun H1 kC hkC e1 z1 o1 => ?_
  have z2 : H1.size = H.size + 1 := by rw [z1, hP.2]
  have o2 : ∀ q, q < H.size → H1[q]? = H[q]? := fun q hq => o1 q (by rw [← hP.2]; exact hq)
  have hce : bm_cell G (c, N, []) = .inr (c, (List.range N).map (fun k => am_enc G (am_tag (am_ft c k) (([] : List Int).getD k 0)))) := by unfold bm_cell; rw [if_pos hcf.2.1]
  have hat : va_at G.2.1 vwCl (G.1 + B.length, bm_cell G (c, N, [])) H1 := by
    rw [hce]
    refine ⟨_, hcf.1, (u_born ty ht hcf.2.2.1 hKn hkC e1 hcf.2.2.2.1).to (fun j hj => ?_)⟩
    unfold vp_V
    rw [List.getD_eq_getElem?_getD, List.getElem?_map, List.getElem?_range hj]
    show defaultValue (ty j) = am_enc G (am_tag (am_ft c j) (([] : List Int).getD j 0))
    rw [List.getD_nil]
    exact bm_dflt (hcf.2.2.2.2.2.1 j hj)
  have kk := k p e R s m args below meth c0 H1 locs lsM C D (hP.push z2 o2 hat) (bm_va_S hS z2 o2) hl (am_k0 ho trivial)
  rw [List.map_cons, bm_ad ha9] at kk
  exact kk
theorem gn_newaC {ay : ArrayType} {kd N a : Nat} {x : Int} (hd : decode M.2.1 pc = .ok (.newarray ay, 2)) (harr : Cond.arrayClass (newarray.typeOf ay) ∈ am_tbl) (hRA : ∀ s, va_K G.2.1 vwCl (am_tys G) s → s.vm.findClass ("[" ++ (newarray.typeOf ay).toString) = some (G.2.2.1 (kd - 100))) (hat : ∀ (z : Nat) (H1 : Heap), H1[z]? = some (arrV (G.2.2.1 (kd - 100)) N (fun _ => defaultValue (newarray.typeOf ay))) → va_at G.2.1 vwCl (z, bm_cell G (kd, N, [])) H1) (hb : N * componentBytes (newarray.typeOf ay) ≤ 536870912) (hx : x = (N : Int)) (ha : B.length = a) (ha9 : a < 1000) (hq : pc + 2 = q) (h1 : ce + 1 ≤ mc) (h2 : sl + N ≤ ms) (k : gn l G M d mc ms E Z q ls (.inr (.inr (a + 1)) :: st) (bm_P G (B ++ [(kd, N, [])])) (ce + 1) (sl + N)) : gn l G M d mc ms E Z pc ls (.inl x :: st) (bm_P G B) ce sl := by
  subst hq; subst ha; subst hx
  intro p e R s m args below meth c0 H locs lsM C D hP hS hl ho
  have ht := C.2.2.2.2.1
  have hK := C.2.2.2.2.2.2.2.1
  have hxo : am_ok (N : Int) := am_kh ho
  refine va_newaK C.1 C.2.1 (ht _ harr) rfl hd (n := Int32.ofInt (N : Int)) (N := N) (rest := st.map (am_enc G)) rfl (am_nn (by omega) hxo) (by rw [am_nat (by omega) hxo]; rfl) hb (Nat.le_trans h1 D.1) (Nat.le_trans h2 D.2.1) hP.2 fun H1 cA e1 z1 o1 hAr hNm => ?_
  have z2 : H1.size = H.size + 1 := by rw [z1, hP.2]
  have o2 : ∀ q, q < H.size → H1[q]? = H[q]? := fun q hq => o1 q (by rw [← hP.2]; exact hq)
  have hcA : cA = G.2.2.1 (kd - 100) := Option.some.inj (hNm.symm.trans (hRA s hK))
  subst hcA
  have kk := k p e R s m args below meth c0 H1 locs lsM C D (hP.push z2 o2 (hat _ H1 e1)) (bm_va_S hS z2 o2) hl (am_k1 ho trivial)
  rw [List.map_cons, bm_ad ha9] at kk
  exact kk
theorem gn_newi {N a : Nat} {x : Int} (hd : decode M.2.1 pc = .ok (.newarray .int, 2)) (harr : Cond.arrayClass .int ∈ am_tbl) (hb : N ≤ 1000) (hx : x = (N : Int)) (ha : B.length = a) (ha9 : a < 1000) (hq : pc + 2 = q) (h1 : ce + 1 ≤ mc) (h2 : sl + N ≤ ms) (k : gn l G M d mc ms E Z q ls (.inr (.inr (a + 1)) :: st) (bm_P G (B ++ [(100, N, [])])) (ce + 1) (sl + N)) : gn l G M d mc ms E Z pc ls (.inl x :: st) (bm_P G B) ce sl :=
  gn_newaC (kd := 100) hd harr (fun s hK => (hK.2 0 _ rfl).2) (fun z H1 h => by
    show H1[z]? = some (vp_cell (G.2.2.1 0) (N, .inl (fun j => Int32.ofInt (([] : List Int).getD j 0))))
    rw [h]
    congr 2) (show N * 4 ≤ _ by omega) hx ha ha9 hq h1 h2 k
theorem gn_newl {N a : Nat} {x : Int} (hd : decode M.2.1 pc = .ok (.newarray .long, 2)) (harr : Cond.arrayClass .long ∈ am_tbl) (hb : N ≤ 1000) (hx : x = (N : Int)) (ha : B.length = a) (ha9 : a < 1000) (hq : pc + 2 = q) (h1 : ce + 1 ≤ mc) (h2 : sl + N ≤ ms) (k : gn l G M d mc ms E Z q ls (.inr (.inr (a + 1)) :: st) (bm_P G (B ++ [(101, N, [])])) (ce + 1) (sl + N)) : gn l G M d mc ms E Z pc ls (.inl x :: st) (bm_P G B) ce sl :=
  gn_newaC (kd := 101) hd harr (fun s hK => (hK.2 1 _ rfl).2) (fun z H1 h => by
    show H1[z]? = some (vp_cell (G.2.2.1 1) (N, .inr (.inl (fun j => Int64.ofInt (([] : List Int).getD j 0)))))
    rw [h]
    congr 2) (show N * 8 ≤ _ by omega) hx ha ha9 hq h1 h2 k
theorem gn_newb {N a : Nat} {x : Int} (hd : decode M.2.1 pc = .ok (.newarray .byte, 2)) (harr : Cond.arrayClass .byte ∈ am_tbl) (hb : N ≤ 1000) (hx : x = (N : Int)) (ha : B.length = a) (ha9 : a < 1000) (hq : pc + 2 = q) (h1 : ce + 1 ≤ mc) (h2 : sl + N ≤ ms) (k : gn l G M d mc ms E Z q ls (.inr (.inr (a + 1)) :: st) (bm_P G (B ++ [(102, N, [])])) (ce + 1) (sl + N)) : gn l G M d mc ms E Z pc ls (.inl x :: st) (bm_P G B) ce sl :=
  gn_newaC (kd := 102) hd harr (fun s hK => (hK.2 2 _ rfl).2) (fun z H1 h => by
    show H1[z]? = some (vp_cell (G.2.2.1 2) (N, .inl (fun j => Int32.ofInt (([] : List Int).getD j 0))))
    rw [h]
    congr 2) (show N * 1 ≤ _ by omega) hx ha ha9 hq h1 h2 k
theorem gn_newz {N a : Nat} {x : Int} (hd : decode M.2.1 pc = .ok (.newarray .boolean, 2)) (harr : Cond.arrayClass .boolean ∈ am_tbl) (hb : N ≤ 1000) (hx : x = (N : Int)) (ha : B.length = a) (ha9 : a < 1000) (hq : pc + 2 = q) (h1 : ce + 1 ≤ mc) (h2 : sl + N ≤ ms) (k : gn l G M d mc ms E Z q ls (.inr (.inr (a + 1)) :: st) (bm_P G (B ++ [(103, N, [])])) (ce + 1) (sl + N)) : gn l G M d mc ms E Z pc ls (.inl x :: st) (bm_P G B) ce sl :=
  gn_newaC (kd := 103) hd harr (fun s hK => (hK.2 3 _ rfl).2) (fun z H1 h => by
    show H1[z]? = some (vp_cell (G.2.2.1 3) (N, .inl (fun j => Int32.ofInt (([] : List Int).getD j 0))))
    rw [h]
    congr 2) (show N * 1 ≤ _ by omega) hx ha ha9 hq h1 h2 k
theorem gn_newq {i N a : Nat} {x : Int} (hd : decode M.2.1 pc = .ok (.anewarray i, 3)) (hlk : Cond.classLink M.1 i "HeldInTrust$Estate" ∈ am_tbl) (hb : N ≤ 1000) (hx : x = (N : Int)) (ha : B.length = a) (ha9 : a < 1000) (hq : pc + 3 = q) (h1 : ce + 1 ≤ mc) (h2 : sl + N ≤ ms) (k : gn l G M d mc ms E Z q ls (.inr (.inr (a + 1)) :: st) (bm_P G (B ++ [(104, N, [])])) (ce + 1) (sl + N)) : gn l G M d mc ms E Z pc ls (.inl x :: st) (bm_P G B) ce sl := by
  subst hq; subst ha; subst hx
  intro p e R s m args below meth c0 H locs lsM C D hP hS hl ho
  have ht := C.2.2.2.2.1
  have hK := C.2.2.2.2.2.2.2.1
  have hxo : am_ok (N : Int) := am_kh ho
  have hN : (Int32.ofInt (N : Int)).toNatClampNeg = N := by rw [am_nat (by omega) hxo]; rfl
  refine W.anew C.1 C.2.1 C.2.2.2.1 (ht _ hlk) (va_AO.use D.2.2.2.1.1) rfl hd (n := Int32.ofInt (N : Int)) (rest := st.map (am_enc G)) rfl (am_nn (by omega) hxo) (by rw [hN]; omega) (Nat.le_trans h1 D.1) (by rw [hN]; exact Nat.le_trans h2 D.2.1) fun cA kA comp f1 f2 f3 f4 => ?_
  rw [hN]
  generalize hH1 : H.push ({ cls := cA, slots := Array.replicate N .null, vm := .none } : Cell) = H1
  have z2 : H1.size = H.size + 1 := by rw [← hH1, Array.size_push]
  have e1 : H1[H.size]? = some (arrV cA N (fun _ => .null)) := by rw [← hH1, Array.getElem?_push_size, ← arrV_new]
  have o2 : ∀ q : Nat, q < H.size → H1[q]? = H[q]? := fun q hq => by rw [← hH1, Array.getElem?_push, if_neg (Nat.ne_of_lt hq)]
  obtain ⟨kA2, comp2, -, -, -, f9⟩ := (hK.2 4 _ rfl).2
  have hcA : cA = G.2.2.1 4 := Option.some.inj (f1.symm.trans f9)
  subst hcA
  have hat : va_at G.2.1 vwCl (G.1 + B.length, bm_cell G (104, N, [])) H1 := by
    show H1[G.1 + B.length]? = some (vp_cell (G.2.2.1 4) (N, .inr (.inr (.inr (.inr (fun j => am_rf G (([] : List Int).getD j 0).toNat))))))
    rw [← hP.2, e1]
    congr 2
  have kk := k p e R s m args below meth c0 H1 locs lsM C D (hP.push z2 o2 hat) (bm_va_S hS z2 o2) hl (am_k1 ho trivial)
  rw [List.map_cons, bm_ad ha9] at kk
  rw [hP.2]
  exact kk
/-- a field is set -/
theorem gn_putA {i c k a N : Nat} {f : List Int} {v : am_V} {x : Int} (hd : decode M.2.1 pc = .ok (.putfield i, 3)) (hf : am_FL M.1 i c k) (hB : B[a]? = some (c, N, f)) (hN : N = bm_cnt c) (hdc : (vwCl.map (fun r => (r.2.1 k).1)).getD c "" = M.1) (hret : M.2.2.2 = none) (ha9 : a < 1000) (hv : am_tag (am_ft c k) x = v) (hfit : am_okv v → ∀ ty, am_tm (am_ft c k) ty = true → narrow ty (am_enc G v) = am_enc G v ∧ fits ty (am_enc G v) = true) (hq : pc + 3 = q) (kk : gn l G M d mc ms E Z q ls st (bm_P G (B.set a (c, N, bset f k x))) ce sl) : gn l G M d mc ms E Z pc ls (v :: .inr (.inr (a + 1)) :: st) (bm_P G B) ce sl := by
  subst hq; subst hv
  intro p e R s m args below meth c0 H locs lsM C D hP hS hl ho
  obtain ⟨Cn, T, N', ty, hcf, hkN, hlk⟩ := hf
  have hn : N' = N := (bm_cnt_eq hcf.1).trans hN.symm
  subst hn
  have ht := C.2.2.2.2.1
  have hK := C.2.2.2.2.2.2.2.1
  have haB : a < B.length := (List.getElem?_eq_some_iff.mp hB).1
  obtain ⟨f1, f2⟩ := hfit (am_kh ho) (ty k) (hcf.2.2.2.2.2.1 k hkN)
  have hce : ∀ g : List Int, bm_cell G (c, N', g) = .inr (c, (List.range N').map (fun k => am_enc G (am_tag (am_ft c k) (g.getD k 0)))) := fun g => by unfold bm_cell; rw [if_pos hcf.2.1]
  have hw : (bm_ws G B)[a]? = some (G.1 + a, .inr (c, (List.range N').map (fun k => am_enc G (am_tag (am_ft c k) (f.getD k 0))))) := by rw [bm_get hB, hce]
  have hap := va_apart (own := M.1) ht hcf.2.2.1 ty hcf.2.2.2.1 hcf.2.2.2.2.1 hK hcf.1
  obtain ⟨r, h1, cell, q1, q2, q3, q4⟩ := hP.1 a _ hw
  have hr : r = (Cn, T, N') := Option.some.inj (h1.symm.trans hcf.1)
  subst hr
  obtain ⟨hSl, hfc, kC, hkC, hkind⟩ := hK.1 c _ hcf.1
  obtain ⟨cf, kf, fi, fd, hi, hsl⟩ := hSl k hkN
  have hlay := ht _ (hcf.2.2.1 _ (u_in_lay hkN))
  unfold u_lay at hlay
  have hst := (u_facts hfc hkC (u_lays ht hcf.2.2.1 hkN) hi).1
  have hset : ((List.range N').map (fun k => am_enc G (am_tag (am_ft c k) (f.getD k 0)))).set k (am_enc G (am_tag (am_ft c k) x)) = (List.range N').map (fun j => am_enc G (am_tag (am_ft c j) ((bset f k x).getD j 0))) := am_set_map _ _ N' k _ hkN (by rw [bset_get, if_pos rfl]) (fun j hj => by rw [bset_get, if_neg hj])
  have e0 : (am_enc G (am_tag (am_ft c k) x) :: am_enc G (.inr (.inr (a + 1))) :: st.map (am_enc G)) = (am_enc G (am_tag (am_ft c k) x) :: .ref (G.1 + a) :: st.map (am_enc G)) := by rw [bm_ad ha9]
  have fin : ∀ H' : Heap, H'[G.1 + a]? = some (cell.setSlot fd.slot (am_enc G (am_tag (am_ft c k) x))) → H'.size = H.size → (∀ q : Nat, q ≠ G.1 + a → H'[q]? = H[q]?) → W p l e R s m args below meth c0 H' (locs ++ [⟨G.1 + a, fd.slot⟩]) ce sl (Z below args s) (F0 m (pc + 3) lsM (st.map (am_enc G))) := fun H' e1 e2 e3 => by
    rw [hsl] at e1 ⊢
    have hat9 : va_at G.2.1 vwCl (G.1 + a, .inr (c, ((List.range N').map (fun k => am_enc G (am_tag (am_ft c k) (f.getD k 0)))).set k (am_enc G (am_tag (am_ft c k) x)))) H' := ⟨_, hcf.1, t_OB.to (V := updV (vp_V ((List.range N').map (fun k => am_enc G (am_tag (am_ft c k) (f.getD k 0))))) k (am_enc G (am_tag (am_ft c k) x))) ⟨_, e1, q2, q3, t_set q4 hap hkN (am_enc G (am_tag (am_ft c k) x))⟩ (fun j _ => vp_updV_set (by simpa using hkN) (am_enc G (am_tag (am_ft c k) x)) j)⟩
    have hp := hP.1.set bm_D hw hat9 e3
    rw [hset, ← hce, bm_setw haB] at hp
    exact kk p e R s m args below meth c0 H' _ lsM C D ⟨hp, by rw [e2, hP.2, List.length_set]⟩ (hS.put e2 e3 (Nat.le_add_right _ _)) hl (am_kt (am_kt ho))
  show W p l e R s m args below meth c0 H locs ce sl (Z below args s) (F0 m pc lsM (am_enc G (am_tag (am_ft c k) x) :: am_enc G (.inr (.inr (a + 1))) :: st.map (am_enc G)))
  rw [e0]
  by_cases hff : (T k).2.2.2 = true
  · rw [if_pos hff] at hlay
    have hcf2 : m.cls = cf := by
      obtain ⟨_, _, c', _, _, _, -, -, hf', -, -, -, hown2, -⟩ := Cond.laysFinal_spec hlay
      have e1 : c' = cf := by have := hi.symm.trans hf'; simp at this; exact this.1.symm
      have hdecl : (T k).1 = M.1 := by
        rw [← hdc, List.getD_eq_getElem?_getD, List.getElem?_map, hcf.1]; rfl
      rw [hdecl] at hown2
      rw [← e1]; exact Option.some.inj (C.2.2.2.1.symm.trans hown2)
    have h6 := u_fits hfc hkC hkind (Or.inr hlay) hi (hcf.2.2.2.1 k hkN) f1 f2
    exact W.putFinK C.1 C.2.1 C.2.2.2.1 (ht _ hlk) hi hst hcf2 (D.2.2.1 hret) (by rw [q2]; exact h6) q1 q3 (by rw [hsl]; exact k2_hasslot (q4 k hkN)) rfl rfl hd fin
  · rw [if_neg hff] at hlay
    have h6 := u_store hfc hkC hkind hlay hi (hcf.2.2.2.1 k hkN) f1 f2
    exact W.putK C.1 C.2.1 (f := fd) ⟨C.2.2.2.1, ht _ hlk, ⟨_, _, _, hi⟩, hst⟩ (by rw [q2]; exact h6) q1 q3 (by rw [hsl]; exact k2_hasslot (q4 k hkN)) rfl rfl hd fin
theorem gn_puti {i c k a N : Nat} {f : List Int} {x : Int} (hd : decode M.2.1 pc = .ok (.putfield i, 3)) (hf : am_FL M.1 i c k) (hB : B[a]? = some (c, N, f)) (hN : N = bm_cnt c) (hdc : (vwCl.map (fun r => (r.2.1 k).1)).getD c "" = M.1) (hret : M.2.2.2 = none) (ha9 : a < 1000) (hft : am_ft c k = 0) (hq : pc + 3 = q) (kk : gn l G M d mc ms E Z q ls st (bm_P G (B.set a (c, N, bset f k x))) ce sl) : gn l G M d mc ms E Z pc ls (.inl x :: .inr (.inr (a + 1)) :: st) (bm_P G B) ce sl := by
  refine gn_putA (x := x) hd hf hB hN hdc hret ha9 (by rw [hft]; rfl) (fun h ty hty => ?_) hq kk
  rw [hft] at hty
  cases ty <;> first | (simp [am_tm] at hty; done) | exact ⟨rfl, rfl⟩
theorem gn_puta {i c k a N b : Nat} {f : List Int} (hd : decode M.2.1 pc = .ok (.putfield i, 3)) (hf : am_FL M.1 i c k) (hB : B[a]? = some (c, N, f)) (hN : N = bm_cnt c) (hdc : (vwCl.map (fun r => (r.2.1 k).1)).getD c "" = M.1) (hret : M.2.2.2 = none) (ha9 : a < 1000) (hft : am_ft c k = 2) (hq : pc + 3 = q) (kk : gn l G M d mc ms E Z q ls st (bm_P G (B.set a (c, N, bset f k (b : Int)))) ce sl) : gn l G M d mc ms E Z pc ls (.inr (.inr b) :: .inr (.inr (a + 1)) :: st) (bm_P G B) ce sl := by
  refine gn_putA (x := (b : Int)) hd hf hB hN hdc hret ha9 (by rw [hft]; rfl) (fun h ty hty => ?_) hq kk
  rw [hft] at hty
  show narrow ty (va_rf (am_rf G b)) = va_rf (am_rf G b) ∧ fits ty (va_rf (am_rf G b)) = true
  rcases am_rf_v G b with e | ⟨z, e⟩ <;> rw [e] <;> (cases ty <;> first | (simp [am_tm] at hty; done) | exact ⟨rfl, rfl⟩)
/-- a reference is read -/
theorem gn_geta {i c k a N b : Nat} {f : List Int} (hd : decode M.2.1 pc = .ok (.getfield i, 3)) (hf : am_FL M.1 i c k) (hB : B[a]? = some (c, N, f)) (hN : N = bm_cnt c) (ha9 : a < 1000) (hft : am_ft c k = 2) (hv : (f.getD k 0).toNat = b) (hq : pc + 3 = q) (kk : gn l G M d mc ms E Z q ls (.inr (.inr b) :: st) (bm_P G B) ce sl) : gn l G M d mc ms E Z pc ls (.inr (.inr (a + 1)) :: st) (bm_P G B) ce sl := by
  subst hq; subst hv
  intro p e R s m args below meth c0 H locs lsM C D hP hS hl ho
  obtain ⟨Cn, T, N', ty, hcf, hkN, hlk⟩ := hf
  have hn : N' = N := (bm_cnt_eq hcf.1).trans hN.symm
  subst hn
  have hce : bm_cell G (c, N', f) = .inr (c, (List.range N').map (fun k => am_enc G (am_tag (am_ft c k) (f.getD k 0)))) := by unfold bm_cell; rw [if_pos hcf.2.1]
  have hw : (bm_ws G B)[a]? = some (G.1 + a, .inr (c, (List.range N').map (fun k => am_enc G (am_tag (am_ft c k) (f.getD k 0))))) := by rw [bm_get hB, hce]
  have kk2 := kk p e R s m args below meth c0 H locs lsM C D hP hS hl (am_k1 ho trivial)
  rw [List.map_cons, bm_ad ha9]
  refine va_get C.1 C.2.1 (C.2.2.2.2.1) hcf.2.2.1 C.2.2.2.1 C.2.2.2.2.2.2.2.1 hP.1 a hw hcf.1 k hkN (C.2.2.2.2.1 _ hlk) (fun _ h => h) (v := am_enc G (.inr (.inr (f.getD k 0).toNat))) ?_ hd kk2
  rw [List.getElem?_map, List.getElem?_range hkN]
  show some (am_enc G (am_tag (am_ft c k) (f.getD k 0))) = _
  rw [hft]; rfl
theorem bm_arr {a : Nat} {H H1 : Heap} {c : Nat × Nat × List Int} {e0 : va_E} (hP : bm_P G B H) (hw : (bm_ws G B)[a]? = some (G.1 + a, e0)) (hat : va_at G.2.1 vwCl (G.1 + a, bm_cell G c) H1) (z : H1.size = H.size) (oq : ∀ q : Nat, q ≠ G.1 + a → H1[q]? = H[q]?) : bm_P G (B.set a c) H1 := by
  have haB : a < B.length := by
    obtain ⟨c9, h9, -⟩ := bm_some hw
    exact (List.getElem?_eq_some_iff.mp h9).1
  refine ⟨?_, by rw [z, hP.2, List.length_set]⟩
  rw [← bm_setw haB]
  exact hP.1.set bm_D hw hat oq
theorem gn_iast {a n : Nat} {f : List Int} {i x : Int} (hd : decode M.2.1 pc = .ok (.iastore, 1)) (hB : B[a]? = some (100, n, f)) (ha9 : a < 1000) (h0 : 0 ≤ i) (h1 : i < n) (hq : pc + 1 = q) (kk : gn l G M d mc ms E Z q ls st (bm_P G (B.set a (100, n, bset f i.toNat x))) ce sl) : gn l G M d mc ms E Z pc ls (.inl x :: .inl i :: .inr (.inr (a + 1)) :: st) (bm_P G B) ce sl := by
  subst hq
  intro p e R s m args below meth c0 H locs lsM C D hP hS hl ho
  have hw : (bm_ws G B)[a]? = some (G.1 + a, .inl (G.2.2.1 0, n, .inl (fun j => Int32.ofInt (f.getD j 0)))) := bm_get hB
  have hi := am_kh (am_kt ho)
  have hK := C.2.2.2.2.2.2.2.1
  rw [List.map_cons, List.map_cons, List.map_cons, bm_ad ha9]
  refine W.iast C.1 C.2.1 (hP.1 a _ hw) ((hK.2 0 _ rfl).1 n (fun j => .int (Int32.ofInt (f.getD j 0)))) (fun q => by cases q) (by show ¬ (Int32.ofInt i < 0 ∨ (arrV _ _ _).slots.size ≤ _); rw [arrV_size]; exact am_in h0 h1 hi) rfl rfl hd fun H1 e9 z oq => ?_
  refine kk p e R s m args below meth c0 H1 _ lsM C D (bm_arr hP hw ?_ z oq) (hS.put z oq (Nat.le_add_right _ _)) hl (am_kt (am_kt (am_kt ho)))
  show H1[G.1 + a]? = some (vp_cell (G.2.2.1 0) (n, .inl (fun j => Int32.ofInt ((bset f i.toNat x).getD j 0))))
  rw [e9, vp_cell_i, vp_cell_i, arrV_store, am_nat h0 hi]
  congr 2
  funext j
  rw [bset_get]
  by_cases hj : j = i.toNat
  · simp [updV, hj]
  · simp [updV, hj]
theorem gn_aast {a n b : Nat} {f fb : List Int} {i : Int} (hd : decode M.2.1 pc = .ok (.aastore, 1)) (hB : B[a]? = some (104, n, f)) (hb : B[b]? = some (0, 8, fb)) (ha9 : a < 1000) (hb9 : b < 1000) (h0 : 0 ≤ i) (h1 : i < n) (hq : pc + 1 = q) (kk : gn l G M d mc ms E Z q ls st (bm_P G (B.set a (104, n, bset f i.toNat ((b + 1 : Nat) : Int)))) ce sl) : gn l G M d mc ms E Z pc ls (.inr (.inr (b + 1)) :: .inl i :: .inr (.inr (a + 1)) :: st) (bm_P G B) ce sl := by
  subst hq
  intro p e R s m args below meth c0 H locs lsM C D hP hS hl ho
  have hw : (bm_ws G B)[a]? = some (G.1 + a, .inl (G.2.2.1 4, n, .inr (.inr (.inr (.inr (fun j => am_rf G (f.getD j 0).toNat)))))) := bm_get hB
  have hwb : (bm_ws G B)[b]? = some (G.1 + b, .inr (0, (List.range 8).map (fun k => am_enc G (am_tag (am_ft 0 k) (fb.getD k 0))))) := bm_get hb
  have hi := am_kh (am_kt ho)
  have hK := C.2.2.2.2.2.2.2.1
  have hin := am_in h0 h1 hi
  have hlt : (Int32.ofInt i).toNatClampNeg < n := Nat.not_le.mp fun q => hin (Or.inr q)
  have h00 : ¬ Int32.ofInt i < 0 := fun q => hin (Or.inl q)
  obtain ⟨r', hr', cellV, g1, g2, g3, -⟩ := hP.1 b _ hwb
  have hcls := (hK.1 0 _ rfl).2
  obtain ⟨kA, comp, k1, k2, k3, -⟩ := (hK.2 4 _ rfl).2
  have hcomp : comp = G.2.1.1 0 := Option.some.inj (k3.symm.trans hcls.1)
  subst hcomp
  obtain ⟨kC, hkC, -⟩ := hcls.2
  rw [List.map_cons, List.map_cons, List.map_cons, bm_ad ha9, bm_ad hb9]
  refine W.aast C.1 C.2.1 (hP.1 a _ hw) (fun q h => by cases h) (fun h => by cases h) k1 k2 rfl hkC ⟨h00, by show _ < (arrV _ _ _).slots.size; rw [arrV_size]; exact hlt⟩ g1 (fun q h => by rw [g3] at h; cases h) (by rw [g2]; exact hkC) (by rw [g2]; exact va_assign hcls) rfl rfl hd fun H1 e9 z oq => ?_
  refine kk p e R s m args below meth c0 H1 _ lsM C D (bm_arr hP hw ?_ z oq) (hS.put z oq (Nat.le_add_right _ _)) hl (am_kt (am_kt (am_kt ho)))
  show H1[G.1 + a]? = some (vp_cell (G.2.2.1 4) (n, .inr (.inr (.inr (.inr (fun j => am_rf G ((bset f i.toNat ((b + 1 : Nat) : Int)).getD j 0).toNat))))))
  rw [e9, vp_cell_q, vp_cell_q, arrV_store, am_nat h0 hi]
  congr 2
  funext j
  rw [bset_get]
  by_cases hj : j = i.toNat
  · simp only [updV, hj, if_true]
    show Value.ref (G.1 + b) = va_rf (am_rf G (b + 1))
    exact (bm_ad hb9).symm
  · simp [updV, hj]
end BN
