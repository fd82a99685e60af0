/-- a field's kind and its type -/
def am_tm (t : Nat) (ty : FieldType) : Bool := match t, ty with
  | 0, .int => true
  | 1, .long => true
  | 2, .object _ => true
  | 2, .array _ => true
  | 3, .boolean => true
  | _, _ => false
/-- what the tables say of a class -/
def am_CF (c : Nat) (C : String) (T : u_T) (N : Nat) (ty : Nat → FieldType) : Prop := vwCl[c]? = some (C, T, N) ∧ c < 100 ∧ (∀ w ∈ u_ws C T N, w ∈ am_tbl) ∧ (∀ k, k < N → parseFieldDescriptor (T k).2.2.1 = some (ty k)) ∧ (∀ a, a < N → ∀ b, b < N → a ≠ b → (T a).2.1 ≠ (T b).2.1) ∧ (∀ k, k < N → am_tm (am_ft c k) (ty k) = true) ∧ (∀ k, k < N → (T k).2.2.2 = am_ff c k)
/-- a field's link: by own's number i the field k of class c -/
def am_FL (own : String) (i c k : Nat) : Prop := ∃ (C : String) (T : u_T) (N : Nat) (ty : Nat → FieldType), am_CF c C T N ty ∧ k < N ∧ Cond.fieldLink own i (T k).1 (T k).2.1 (T k).2.2.1 ∈ am_tbl
theorem am_ks_cls : ∀ a, a < 127 → ∀ q, am_ks[a]? = some q → q.1 < 100 → q.2 = (am_ftL.getD q.1 []).length ∧ q.1 < 10 := by
  have h : ∀ a, a < 127 → (match am_ks[a]? with | none => true | some q => !(decide (q.1 < 100)) || (decide (q.2 = (am_ftL.getD q.1 []).length) && decide (q.1 < 10))) = true := by decide +kernel
  intro a ha q hq hc
  have h1 := h a ha
  rw [hq] at h1
  simpa [hc] using h1
theorem am_fin_lt (a k : Nat) : am_fin a k < 2147483648 := by
  have h : am_finL.all (fun l => l.all (fun x => decide (x < 2147483648))) = true := by decide +kernel
  unfold am_fin
  rw [List.getD_eq_getElem?_getD, List.getD_eq_getElem?_getD]
  cases h1 : am_finL[a]? with
  | none => simp
  | some f =>
    cases h2 : f[k]? with
    | none => simp [h2]
    | some x =>
      have h3 := List.all_eq_true.mp (List.all_eq_true.mp h f (List.mem_of_getElem? h1)) x (List.mem_of_getElem? h2)
      simpa [h2] using h3
theorem am_fl_len : ∀ c, c < 10 → (am_ftL.getD c []).length = (vwCl.map (fun r => r.2.2)).getD c 0 := by decide +kernel
theorem am_CF.len {c a n N : Nat} {C : String} {T : u_T} {ty : Nat → FieldType} (h : am_CF c C T N ty) (hk : am_ks[a]? = some (c, n)) : n = N := by
  obtain ⟨h1, h2⟩ := am_ks_cls a (am_ks_lt hk) _ hk h.2.1
  have h3 := am_fl_len c h2
  have h4 : (vwCl.map (fun r => r.2.2)).getD c 0 = N := by
    rw [List.getD_eq_getElem?_getD, List.getElem?_map, h.1]; rfl
  exact h1.trans (h3.trans h4)
section RN3
variable {l : Launch} {G : am_G} {M : am_Mt} {d pc q t : Nat} {ls ls' : am_L} {st : List am_V} {mem mem' : am_M} {Q : Option am_V → am_M → Prop}
theorem rn_get {i c k a n : Nat} {v : am_V} (hd : decode M.2.1 pc = .ok (.getfield i, 3)) (hf : am_FL M.1 i c k) (hk : am_ks[a]? = some (c, n)) (hv : am_tag (am_ft c k) (am_rd mem c a k) = v) (hq : pc + 3 = q) (kk : am_Rn l G M d q ls (v :: st) mem Q) : am_Rn l G M d pc ls (.inr (.inr (a + 1)) :: st) mem Q := by
  subst hq; subst hv
  intro p e R s m args below meth c0 H locs lsM C hP hS hl ho
  obtain ⟨Cn, T, N, ty, hcf, hkN, hlk⟩ := hf
  have hn := hcf.len hk
  subst hn
  have ha := am_ks_lt hk
  have hc100 : c < 100 := hcf.2.1
  have hw : (am_ws G mem)[a]? = some (am_ad G a, .inr (c, (List.range n).map (fun k => am_enc G (am_tag (am_ft c k) (am_rd mem c a k))))) := by rw [am_ws_get ha, am_cell_o hk hc100, am_ad_lt ha]
  refine va_get C.1 C.2.1 (C.2.2.2.2.1) hcf.2.2.1 C.2.2.2.1 C.2.2.2.2.2.2.2.1 hP.1 a hw hcf.1 k hkN (C.2.2.2.2.1 _ hlk) (fun _ h => h) (v := am_enc G (am_tag (am_ft c k) (am_rd mem c a k))) ?_ hd (kk p e R s m args below meth c0 H locs lsM C hP hS hl (am_k1 ho (am_tag_ok hk hc100 hP.2 (fun _ => am_fin_lt a k))))
  rw [List.getElem?_map, List.getElem?_range hkN]; rfl
theorem am_set_map {α : Type} (f g : Nat → α) (n k : Nat) (x : α) (hk : k < n) (h1 : g k = x) (h2 : ∀ j, j ≠ k → g j = f j) : ((List.range n).map f).set k x = (List.range n).map g := by
  apply List.ext_getElem?
  intro i
  by_cases hi : i < n
  · by_cases hik : i = k
    · subst hik
      rw [List.getElem?_set_self (by simpa using hi), List.getElem?_map, List.getElem?_range hi]
      simp [h1]
    · rw [List.getElem?_set_ne (Ne.symm hik), List.getElem?_map, List.getElem?_map, List.getElem?_range hi]
      simp [h2 i hik]
  · rw [List.getElem?_eq_none (by simpa using hi), List.getElem?_eq_none (by simpa using hi)]
theorem am_putw {c a n k : Nat} {x : Int} (hk : am_ks[a]? = some (c, n)) (hc : c < 100) (hkn : k < n) (hff : am_ff c k = false) :
    (am_ws G mem).set a (G.1 + a, .inr (c, ((List.range n).map (fun k => am_enc G (am_tag (am_ft c k) (am_rd mem c a k)))).set k (am_enc G (am_tag (am_ft c k) x)))) = am_ws G (am_up mem a k x) := by
  rw [← am_ws_set (mem := mem) (mem2 := am_up mem a k x) (a := a) (fun b hb => am_up_ne hb)]
  congr 2
  rw [am_cell_o hk hc]
  congr 2
  refine am_set_map _ _ n k _ hkn ?_ (fun j hj => ?_)
  · simp [am_rd, hff, am_up_eq]
  · simp [am_rd, am_up_eq, hj]
/-- a write of a field: the rows below say of which kind -/
theorem rn_putA {i c k a n : Nat} {v : am_V} {x : Int} (hd : decode M.2.1 pc = .ok (.putfield i, 3)) (hf : am_FL M.1 i c k) (hk : am_ks[a]? = some (c, n)) (hff : am_ff c k = false) (hv : am_tag (am_ft c k) x = v) (hx : am_okv v → am_okt (am_ft c k) x) (hfit : am_okv v → ∀ ty, am_tm (am_ft c k) ty = true → narrow ty (am_enc G v) = am_enc G v ∧ fits ty (am_enc G v) = true) (hq : pc + 3 = q) (kk : am_Rn l G M d q ls st (am_up mem a k x) Q) : am_Rn l G M d pc ls (v :: .inr (.inr (a + 1)) :: st) mem Q := by
  subst hq; subst hv
  intro p e R s m args below meth c0 H locs lsM C hP hS hl ho
  obtain ⟨Cn, T, N, ty, hcf, hkN, hlk⟩ := hf
  have hn := hcf.len hk
  subst hn
  have ha := am_ks_lt hk
  have hc100 : c < 100 := hcf.2.1
  have hw : (am_ws G mem)[a]? = some (am_ad G a, .inr (c, (List.range n).map (fun k => am_enc G (am_tag (am_ft c k) (am_rd mem c a k))))) := by rw [am_ws_get ha, am_cell_o hk hc100, am_ad_lt ha]
  have hsl : am_sl a k = am_ft c k := by unfold am_sl; rw [hk]; simp only [if_pos hc100]
  obtain ⟨f1, f2⟩ := hfit (am_kh ho) (ty k) (hcf.2.2.2.2.2.1 k hkN)
  refine va_put C.1 C.2.1 (C.2.2.2.2.1) hcf.2.2.1 ty hcf.2.2.2.1 hcf.2.2.2.2.1 C.2.2.2.1 C.2.2.2.2.2.2.2.1 hP.1 (am_D G mem) hS a hw hcf.1 k hkN (C.2.2.2.2.1 _ hlk) (fun _ h => h) (by rw [hcf.2.2.2.2.2.2 k hkN]; exact hff) (hcf.2.2.2.1 k hkN) f1 f2 (by simpa using hkN) hd (fun H1 locs1 h1 h2 h3 => ?_)
  rw [am_ad_lt ha, am_putw hk hc100 hkN hff] at h1
  exact kk p e R s m args below meth c0 H1 locs1 lsM C ⟨h1, am_okM_up hP.2 (by rw [hsl]; exact hx (am_kh ho))⟩ h3 hl (am_kt (am_kt ho))
theorem rn_puti {i c k a n : Nat} {x : Int} (hd : decode M.2.1 pc = .ok (.putfield i, 3)) (hf : am_FL M.1 i c k) (hk : am_ks[a]? = some (c, n)) (hff : am_ff c k = false) (hft : am_ft c k = 0) (hq : pc + 3 = q) (kk : am_Rn l G M d q ls st (am_up mem a k x) Q) : am_Rn l G M d pc ls (.inl x :: .inr (.inr (a + 1)) :: st) mem Q := by
  refine rn_putA (x := x) hd hf hk hff (by rw [hft]; rfl) (fun h => by rw [hft]; exact h) (fun h ty hty => ?_) hq kk
  rw [hft] at hty
  cases ty <;> first | (simp [am_tm] at hty; done) | exact ⟨rfl, rfl⟩
theorem rn_putz {i c k a n : Nat} {x : Int} (hd : decode M.2.1 pc = .ok (.putfield i, 3)) (hf : am_FL M.1 i c k) (hk : am_ks[a]? = some (c, n)) (hff : am_ff c k = false) (hft : am_ft c k = 3) (hx : x = 0 ∨ x = 1) (hq : pc + 3 = q) (kk : am_Rn l G M d q ls st (am_up mem a k x) Q) : am_Rn l G M d pc ls (.inl x :: .inr (.inr (a + 1)) :: st) mem Q := by
  refine rn_putA (x := x) hd hf hk hff (by rw [hft]; rfl) (fun h => by rw [hft]; exact hx) (fun h ty hty => ?_) hq kk
  rw [hft] at hty
  cases ty <;> first | (simp [am_tm] at hty; done) | (rcases hx with rfl | rfl; exact ⟨(by decide : narrow .boolean (.int (Int32.ofInt 0)) = .int (Int32.ofInt 0)), (by decide : fits .boolean (.int (Int32.ofInt 0)) = true)⟩; exact ⟨(by decide : narrow .boolean (.int (Int32.ofInt 1)) = .int (Int32.ofInt 1)), (by decide : fits .boolean (.int (Int32.ofInt 1)) = true)⟩)
theorem am_rf_v (G : am_G) (c : Nat) : va_rf (am_rf G c) = .null ∨ ∃ a, va_rf (am_rf G c) = .ref a := by
  cases c with
  | zero => exact Or.inl rfl
  | succ c => exact Or.inr ⟨_, rfl⟩
theorem rn_puta {i c k a n b : Nat} (hd : decode M.2.1 pc = .ok (.putfield i, 3)) (hf : am_FL M.1 i c k) (hk : am_ks[a]? = some (c, n)) (hff : am_ff c k = false) (hft : am_ft c k = 2) (hb : b < 2000) (hq : pc + 3 = q) (kk : am_Rn l G M d q ls st (am_up mem a k b) Q) : am_Rn l G M d pc ls (.inr (.inr b) :: .inr (.inr (a + 1)) :: st) mem Q := by
  refine rn_putA (x := (b : Int)) hd hf hk hff (by rw [hft]; rfl) (fun h => by rw [hft]; show am_ok _; unfold am_ok; omega) (fun h ty hty => ?_) hq kk
  rw [hft] at hty
  show narrow ty (va_rf (am_rf G b)) = va_rf (am_rf G b) ∧ fits ty (va_rf (am_rf G b)) = true
  rcases am_rf_v G b with e | ⟨z, e⟩ <;> rw [e] <;> (cases ty <;> first | (simp [am_tm] at hty; done) | exact ⟨rfl, rfl⟩)
/-! rows -/
theorem am_cell_i {a n : Nat} (h : am_ks[a]? = some (100, n)) : am_cell G mem a = .inl (G.2.2.1 0, n, .inl (fun j => Int32.ofInt (mem a j))) := by
  unfold am_cell; rw [h]; rfl
theorem am_cell_l {a n : Nat} (h : am_ks[a]? = some (101, n)) : am_cell G mem a = .inl (G.2.2.1 1, n, .inr (.inl (fun j => Int64.ofInt (mem a j)))) := by
  unfold am_cell; rw [h]; rfl
theorem am_cell_b {a n : Nat} (h : am_ks[a]? = some (102, n)) : am_cell G mem a = .inl (G.2.2.1 2, n, .inl (fun j => Int32.ofInt (mem a j))) := by
  unfold am_cell; rw [h]; rfl
theorem am_cell_z {a n : Nat} (h : am_ks[a]? = some (103, n)) : am_cell G mem a = .inl (G.2.2.1 3, n, .inl (fun j => Int32.ofInt (mem a j))) := by
  unfold am_cell; rw [h]; rfl
theorem am_cell_r {a n : Nat} (h : am_ks[a]? = some (104, n)) : am_cell G mem a = .inl (G.2.2.1 4, n, .inr (.inr (.inr (.inr (fun j => am_rf G (mem a j).toNat))))) := by
  unfold am_cell; rw [h]; rfl
theorem am_sl_of {a n kd : Nat} (h : am_ks[a]? = some (kd, n)) (j : Nat) : am_sl a j = if kd < 100 then am_ft kd j else if kd = 101 then 1 else if kd = 102 then 4 else if kd = 103 then 3 else 0 := by
  unfold am_sl; rw [h]
theorem rn_iald {a n : Nat} {i : Int} (hd : decode M.2.1 pc = .ok (.iaload, 1)) (hk : am_ks[a]? = some (100, n)) (h0 : 0 ≤ i) (h1 : i < n) (hq : pc + 1 = q) (kk : am_Rn l G M d q ls (.inl (mem a i.toNat) :: st) mem Q) : am_Rn l G M d pc ls (.inl i :: .inr (.inr (a + 1)) :: st) mem Q := by
  subst hq
  intro p e R s m args below meth c0 H locs lsM C hP hS hl ho
  have ha := am_ks_lt hk
  have hw : (am_ws G mem)[a]? = some (am_ad G a, .inl (G.2.2.1 0, n, .inl (fun j => Int32.ofInt (mem a j)))) := by rw [am_ws_get ha, am_cell_i hk, am_ad_lt ha]
  have hm := hP.2 a i.toNat
  rw [am_sl_of hk] at hm
  refine va_iald C.1 C.2.1 C.2.2.2.2.2.2.2.1 hP.1 a 0 hw rfl (am_in h0 h1 (am_kh ho)) hd ?_
  rw [am_nat h0 (am_kh ho)]
  exact kk p e R s m args below meth c0 H locs lsM C hP hS hl (am_k2 ho hm)
theorem rn_lald {a n : Nat} {i : Int} (hd : decode M.2.1 pc = .ok (.laload, 1)) (hk : am_ks[a]? = some (101, n)) (h0 : 0 ≤ i) (h1 : i < n) (hq : pc + 1 = q) (kk : am_Rn l G M d q ls (.inr (.inl (mem a i.toNat)) :: st) mem Q) : am_Rn l G M d pc ls (.inl i :: .inr (.inr (a + 1)) :: st) mem Q := by
  subst hq
  intro p e R s m args below meth c0 H locs lsM C hP hS hl ho
  have ha := am_ks_lt hk
  have hw : (am_ws G mem)[a]? = some (am_ad G a, .inl (G.2.2.1 1, n, .inr (.inl (fun j => Int64.ofInt (mem a j))))) := by rw [am_ws_get ha, am_cell_l hk, am_ad_lt ha]
  have hm := hP.2 a i.toNat
  rw [am_sl_of hk] at hm
  refine va_lald C.1 C.2.1 C.2.2.2.2.2.2.2.1 hP.1 a 1 hw rfl (am_in h0 h1 (am_kh ho)) hd ?_
  rw [am_nat h0 (am_kh ho)]
  exact kk p e R s m args below meth c0 H locs lsM C hP hS hl (am_k2 ho hm)
theorem rn_bald {a n : Nat} {i : Int} (hd : decode M.2.1 pc = .ok (.baload, 1)) (hk : am_ks[a]? = some (102, n)) (h0 : 0 ≤ i) (h1 : i < n) (hq : pc + 1 = q) (kk : am_Rn l G M d q ls (.inl (mem a i.toNat) :: st) mem Q) : am_Rn l G M d pc ls (.inl i :: .inr (.inr (a + 1)) :: st) mem Q := by
  subst hq
  intro p e R s m args below meth c0 H locs lsM C hP hS hl ho
  have ha := am_ks_lt hk
  have hw : (am_ws G mem)[a]? = some (am_ad G a, .inl (G.2.2.1 2, n, .inl (fun j => Int32.ofInt (mem a j)))) := by rw [am_ws_get ha, am_cell_b hk, am_ad_lt ha]
  have hm := hP.2 a i.toNat
  rw [am_sl_of hk] at hm
  refine va_bald C.1 C.2.1 C.2.2.2.2.2.2.2.1 hP.1 a 2 hw rfl (am_in h0 h1 (am_kh ho)) hd ?_
  rw [am_nat h0 (am_kh ho)]
  exact kk p e R s m args below meth c0 H locs lsM C hP hS hl (am_k2 ho (am_okt_ok (t := 4) hm (by decide)))
theorem rn_zald {a n : Nat} {i : Int} (hd : decode M.2.1 pc = .ok (.baload, 1)) (hk : am_ks[a]? = some (103, n)) (h0 : 0 ≤ i) (h1 : i < n) (hq : pc + 1 = q) (kk : am_Rn l G M d q ls (.inl (mem a i.toNat) :: st) mem Q) : am_Rn l G M d pc ls (.inl i :: .inr (.inr (a + 1)) :: st) mem Q := by
  subst hq
  intro p e R s m args below meth c0 H locs lsM C hP hS hl ho
  have ha := am_ks_lt hk
  have hw : (am_ws G mem)[a]? = some (am_ad G a, .inl (G.2.2.1 3, n, .inl (fun j => Int32.ofInt (mem a j)))) := by rw [am_ws_get ha, am_cell_z hk, am_ad_lt ha]
  have hm := hP.2 a i.toNat
  rw [am_sl_of hk] at hm
  refine va_zald C.1 C.2.1 C.2.2.2.2.2.2.2.1 hP.1 a 3 hw rfl (am_in h0 h1 (am_kh ho)) hd ?_
  rw [am_nat h0 (am_kh ho)]
  exact kk p e R s m args below meth c0 H locs lsM C hP hS hl (am_k2 ho (am_okt_ok (t := 3) hm (by decide)))
theorem rn_aald {a n : Nat} {i : Int} (hd : decode M.2.1 pc = .ok (.aaload, 1)) (hk : am_ks[a]? = some (104, n)) (h0 : 0 ≤ i) (h1 : i < n) (hq : pc + 1 = q) (kk : am_Rn l G M d q ls (.inr (.inr (mem a i.toNat).toNat) :: st) mem Q) : am_Rn l G M d pc ls (.inl i :: .inr (.inr (a + 1)) :: st) mem Q := by
  subst hq
  intro p e R s m args below meth c0 H locs lsM C hP hS hl ho
  have ha := am_ks_lt hk
  have hw : (am_ws G mem)[a]? = some (am_ad G a, .inl (G.2.2.1 4, n, .inr (.inr (.inr (.inr (fun j => am_rf G (mem a j).toNat)))))) := by rw [am_ws_get ha, am_cell_r hk, am_ad_lt ha]
  refine va_aldq C.1 C.2.1 C.2.2.2.2.2.2.2.1 hP.1 a 4 hw rfl (am_in h0 h1 (am_kh ho)) hd ?_
  rw [am_nat h0 (am_kh ho)]
  exact kk p e R s m args below meth c0 H locs lsM C hP hS hl (am_k2 ho trivial)
theorem am_upd_i (f : Nat → Int) (k : Nat) (x : Int) : upd (fun j => Int32.ofInt (f j)) k (Int32.ofInt x) = fun j => Int32.ofInt (if j = k then x else f j) := by
  funext j; unfold upd; split <;> rfl
theorem rn_iast {a n : Nat} {i x : Int} (hd : decode M.2.1 pc = .ok (.iastore, 1)) (hk : am_ks[a]? = some (100, n)) (h0 : 0 ≤ i) (h1 : i < n) (hq : pc + 1 = q) (kk : am_Rn l G M d q ls st (am_up mem a i.toNat x) Q) : am_Rn l G M d pc ls (.inl x :: .inl i :: .inr (.inr (a + 1)) :: st) mem Q := by
  subst hq
  intro p e R s m args below meth c0 H locs lsM C hP hS hl ho
  have ha := am_ks_lt hk
  have hi := am_kh (am_kt ho)
  have hw : (am_ws G mem)[a]? = some (am_ad G a, .inl (G.2.2.1 0, n, .inl (fun j => Int32.ofInt (mem a j)))) := by rw [am_ws_get ha, am_cell_i hk, am_ad_lt ha]
  refine va_iast C.1 C.2.1 C.2.2.2.2.2.2.2.1 hP.1 (am_D G mem) hS a 0 hw rfl (am_in h0 h1 hi) hd (fun H1 locs1 h1 h2 h3 => ?_)
  rw [am_nat h0 hi, am_upd_i, am_ad_lt ha] at h1
  have e1 := am_ws_set (G := G) (mem := mem) (mem2 := am_up mem a i.toNat x) (a := a) (fun b hb => am_up_ne hb)
  rw [am_cell_i hk, am_up_eq] at e1
  rw [e1] at h1
  exact kk p e R s m args below meth c0 H1 locs1 lsM C ⟨h1, am_okM_up hP.2 (by rw [am_sl_of hk]; exact am_kh ho)⟩ h3 hl (am_kt (am_kt (am_kt ho)))
theorem am_updL_i (f : Nat → Int) (k : Nat) (x : Int) : vp_updL (fun j => Int64.ofInt (f j)) k (Int64.ofInt x) = fun j => Int64.ofInt (if j = k then x else f j) := by
  funext j; unfold vp_updL; split <;> rfl
theorem rn_last {a n : Nat} {i x : Int} (hd : decode M.2.1 pc = .ok (.lastore, 1)) (hk : am_ks[a]? = some (101, n)) (h0 : 0 ≤ i) (h1 : i < n) (hq : pc + 1 = q) (kk : am_Rn l G M d q ls st (am_up mem a i.toNat x) Q) : am_Rn l G M d pc ls (.inr (.inl x) :: .inl i :: .inr (.inr (a + 1)) :: st) mem Q := by
  subst hq
  intro p e R s m args below meth c0 H locs lsM C hP hS hl ho
  have ha := am_ks_lt hk
  have hi := am_kh (am_kt ho)
  have hw : (am_ws G mem)[a]? = some (am_ad G a, .inl (G.2.2.1 1, n, .inr (.inl (fun j => Int64.ofInt (mem a j))))) := by rw [am_ws_get ha, am_cell_l hk, am_ad_lt ha]
  refine va_last C.1 C.2.1 C.2.2.2.2.2.2.2.1 hP.1 (am_D G mem) hS a 1 hw rfl (am_in h0 h1 hi) hd (fun H1 locs1 h1 h2 h3 => ?_)
  rw [am_nat h0 hi, am_updL_i, am_ad_lt ha] at h1
  have e1 := am_ws_set (G := G) (mem := mem) (mem2 := am_up mem a i.toNat x) (a := a) (fun b hb => am_up_ne hb)
  rw [am_cell_l hk, am_up_eq] at e1
  rw [e1] at h1
  exact kk p e R s m args below meth c0 H1 locs1 lsM C ⟨h1, am_okM_up hP.2 (by rw [am_sl_of hk]; exact am_kh ho)⟩ h3 hl (am_kt (am_kt (am_kt ho)))
theorem am_nb {x : Int} (h : am_ok x) : vp_nar .byte (Int32.ofInt x) = Int32.ofInt (am_i2b x) := by
  rw [vp_nar_byte, ← Int32.toInt_inj, Int8.toInt_toInt32, Int32.toInt_toInt8, am_i_ok h, am_i_ok (am_i2b_ok _)]
  unfold am_i2b; rw [Int.bmod_def]; omega
theorem rn_bast {a n : Nat} {i x : Int} (hd : decode M.2.1 pc = .ok (.bastore, 1)) (hk : am_ks[a]? = some (102, n)) (h0 : 0 ≤ i) (h1 : i < n) (hq : pc + 1 = q) (kk : am_Rn l G M d q ls st (am_up mem a i.toNat (am_i2b x)) Q) : am_Rn l G M d pc ls (.inl x :: .inl i :: .inr (.inr (a + 1)) :: st) mem Q := by
  subst hq
  intro p e R s m args below meth c0 H locs lsM C hP hS hl ho
  have ha := am_ks_lt hk
  have hi := am_kh (am_kt ho)
  have hw : (am_ws G mem)[a]? = some (am_ad G a, .inl (G.2.2.1 2, n, .inl (fun j => Int32.ofInt (mem a j)))) := by rw [am_ws_get ha, am_cell_b hk, am_ad_lt ha]
  refine va_bast C.1 C.2.1 C.2.2.2.2.2.2.2.1 hP.1 (am_D G mem) hS a 2 hw rfl (am_in h0 h1 hi) hd (fun H1 locs1 h1 h2 h3 => ?_)
  rw [am_nat h0 hi, am_nb (am_kh ho), am_upd_i, am_ad_lt ha] at h1
  have e1 := am_ws_set (G := G) (mem := mem) (mem2 := am_up mem a i.toNat (am_i2b x)) (a := a) (fun b hb => am_up_ne hb)
  rw [am_cell_b hk, am_up_eq] at e1
  rw [e1] at h1
  exact kk p e R s m args below meth c0 H1 locs1 lsM C ⟨h1, am_okM_up hP.2 (by rw [am_sl_of hk]; show -128 ≤ am_i2b x ∧ am_i2b x ≤ 127; unfold am_i2b; omega)⟩ h3 hl (am_kt (am_kt (am_kt ho)))
theorem rn_zast {a n : Nat} {i x : Int} (hd : decode M.2.1 pc = .ok (.bastore, 1)) (hk : am_ks[a]? = some (103, n)) (h0 : 0 ≤ i) (h1 : i < n) (hx : x = 0 ∨ x = 1) (hq : pc + 1 = q) (kk : am_Rn l G M d q ls st (am_up mem a i.toNat x) Q) : am_Rn l G M d pc ls (.inl x :: .inl i :: .inr (.inr (a + 1)) :: st) mem Q := by
  subst hq
  intro p e R s m args below meth c0 H locs lsM C hP hS hl ho
  have ha := am_ks_lt hk
  have hi := am_kh (am_kt ho)
  have hw : (am_ws G mem)[a]? = some (am_ad G a, .inl (G.2.2.1 3, n, .inl (fun j => Int32.ofInt (mem a j)))) := by rw [am_ws_get ha, am_cell_z hk, am_ad_lt ha]
  have hnz : vp_nar .boolean (Int32.ofInt x) = Int32.ofInt x := by rcases hx with rfl | rfl <;> decide
  refine va_zast C.1 C.2.1 C.2.2.2.2.2.2.2.1 hP.1 (am_D G mem) hS a 3 hw rfl (am_in h0 h1 hi) hd (fun H1 locs1 h1 h2 h3 => ?_)
  rw [am_nat h0 hi, hnz, am_upd_i, am_ad_lt ha] at h1
  have e1 := am_ws_set (G := G) (mem := mem) (mem2 := am_up mem a i.toNat x) (a := a) (fun b hb => am_up_ne hb)
  rw [am_cell_z hk, am_up_eq] at e1
  rw [e1] at h1
  exact kk p e R s m args below meth c0 H1 locs1 lsM C ⟨h1, am_okM_up hP.2 (by rw [am_sl_of hk]; exact hx)⟩ h3 hl (am_kt (am_kt (am_kt ho)))
theorem am_up_r (G : am_G) (f : Nat → Int) (k b : Nat) : va_up (fun j => am_rf G (f j).toNat) k (some (am_ad G b)) = fun j => am_rf G (if j = k then ((b + 1 : Nat) : Int) else f j).toNat := by
  funext j; unfold va_up; split <;> rfl
theorem rn_aast {a n b : Nat} {i : Int} (hd : decode M.2.1 pc = .ok (.aastore, 1)) (hk : am_ks[a]? = some (104, n)) (hb : am_ks[b]? = some (0, 8)) (h0 : 0 ≤ i) (h1 : i < n) (hq : pc + 1 = q) (kk : am_Rn l G M d q ls st (am_up mem a i.toNat ((b + 1 : Nat) : Int)) Q) : am_Rn l G M d pc ls (.inr (.inr (b + 1)) :: .inl i :: .inr (.inr (a + 1)) :: st) mem Q := by
  subst hq
  intro p e R s m args below meth c0 H locs lsM C hP hS hl ho
  have ha := am_ks_lt hk
  have hb' := am_ks_lt hb
  have hi := am_kh (am_kt ho)
  have hw : (am_ws G mem)[a]? = some (am_ad G a, .inl (G.2.2.1 4, n, .inr (.inr (.inr (.inr (fun j => am_rf G (mem a j).toNat)))))) := by rw [am_ws_get ha, am_cell_r hk, am_ad_lt ha]
  have hwb : (am_ws G mem)[b]? = some (am_ad G b, .inr (0, (List.range 8).map (fun k => am_enc G (am_tag (am_ft 0 k) (am_rd mem 0 b k))))) := by rw [am_ws_get hb', am_cell_o hb (by decide), am_ad_lt hb']
  refine va_astq (r := (RX0, TX0, 8)) C.1 C.2.1 C.2.2.2.2.2.2.2.1 hP.1 (am_D G mem) hS a 4 b 0 hw rfl hwb rfl (am_in h0 h1 hi) hd (fun H1 locs1 h1 h2 h3 => ?_)
  rw [am_nat h0 hi, am_up_r, am_ad_lt ha] at h1
  have e1 := am_ws_set (G := G) (mem := mem) (mem2 := am_up mem a i.toNat ((b + 1 : Nat) : Int)) (a := a) (fun b hb => am_up_ne hb)
  rw [am_cell_r hk, am_up_eq] at e1
  rw [e1] at h1
  exact kk p e R s m args below meth c0 H1 locs1 lsM C ⟨h1, am_okM_up hP.2 (by rw [am_sl_of hk]; show am_ok _; unfold am_ok; omega)⟩ h3 hl (am_kt (am_kt (am_kt ho)))
theorem rn_alen_l {a n : Nat} (hd : decode M.2.1 pc = .ok (.arraylength, 1)) (hk : am_ks[a]? = some (101, n)) (hn : n < 1000) (hq : pc + 1 = q) (kk : am_Rn l G M d q ls (.inl n :: st) mem Q) : am_Rn l G M d pc ls (.inr (.inr (a + 1)) :: st) mem Q := by
  subst hq
  intro p e R s m args below meth c0 H locs lsM C hP hS hl ho
  have ha := am_ks_lt hk
  have hw : (am_ws G mem)[a]? = some (am_ad G a, .inl (G.2.2.1 1, n, .inr (.inl (fun j => Int64.ofInt (mem a j))))) := by rw [am_ws_get ha, am_cell_l hk, am_ad_lt ha]
  refine va_alen C.1 C.2.1 C.2.2.2.2.2.2.2.1 hP.1 a 1 hw rfl ?_ hd (kk p e R s m args below meth c0 H locs lsM C hP hS hl (am_k1 ho (show am_ok (n : Int) by unfold am_ok; omega)))
  rfl
/-! ends -/
theorem rn_iret {x : Int} (hd : decode M.2.1 pc = .ok (.ireturn, 1)) (hr : M.2.2.2 = some .int) (hQ : Q (some (.inl x)) mem) : am_Rn l G M d pc ls [.inl x] mem Q := by
  intro p e R s m args below meth c0 H locs lsM C hP hS hl ho
  exact W.iret C.1 C.2.1 (C.2.2.2.2.2.1.trans hr) (fun t ht hW => ⟨⟨some (.inl x), mem, hQ, fun v hv => by cases hv; exact am_kh ho, rfl, by rw [ht]; exact hP, va_K.moved hW.alike C.2.2.2.2.2.2.2.1⟩, hS.F ht⟩) hS.2.2 hd C.2.2.2.2.2.2.1
theorem rn_zret {x : Int} (hd : decode M.2.1 pc = .ok (.ireturn, 1)) (hr : M.2.2.2 = some .boolean) (hx : x = 0 ∨ x = 1) (hQ : Q (some (.inl x)) mem) : am_Rn l G M d pc ls [.inl x] mem Q := by
  intro p e R s m args below meth c0 H locs lsM C hP hS hl ho
  exact W.zret C.1 C.2.1 (C.2.2.2.2.2.1.trans hr) (by rcases hx with rfl | rfl <;> decide) (fun t ht hW => ⟨⟨some (.inl x), mem, hQ, fun v hv => by cases hv; exact am_kh ho, rfl, by rw [ht]; exact hP, va_K.moved hW.alike C.2.2.2.2.2.2.2.1⟩, hS.F ht⟩) hS.2.2 hd C.2.2.2.2.2.2.1
theorem rn_lret {x : Int} (hd : decode M.2.1 pc = .ok (.lreturn, 1)) (hr : M.2.2.2 = some .long) (hQ : Q (some (.inr (.inl x))) mem) : am_Rn l G M d pc ls [.inr (.inl x)] mem Q := by
  intro p e R s m args below meth c0 H locs lsM C hP hS hl ho
  exact W.lret C.1 C.2.1 (C.2.2.2.2.2.1.trans hr) (fun t ht hW => ⟨⟨some (.inr (.inl x)), mem, hQ, fun v hv => by cases hv; exact am_kh ho, rfl, by rw [ht]; exact hP, va_K.moved hW.alike C.2.2.2.2.2.2.2.1⟩, hS.F ht⟩) hS.2.2 hd C.2.2.2.2.2.2.1
theorem rn_vret (hd : decode M.2.1 pc = .ok (.return_, 1)) (hr : M.2.2.2 = none) (hQ : Q none mem) : am_Rn l G M d pc ls [] mem Q := by
  intro p e R s m args below meth c0 H locs lsM C hP hS hl ho
  exact W.vret C.1 C.2.1 (C.2.2.2.2.2.1.trans hr) (fun t ht hW => ⟨⟨none, mem, hQ, fun v hv => (by cases hv), rfl, by rw [ht]; exact hP, va_K.moved hW.alike C.2.2.2.2.2.2.2.1⟩, hS.F ht⟩) hS.2.2 hd C.2.2.2.2.2.2.1
end RN3
