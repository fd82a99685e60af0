section RN5
variable {l : Launch} {G : am_G} {M : am_Mt} {d pc q t : Nat} {ls ls' : am_L} {st : List am_V} {mem mem' : am_M} {Q : Option am_V → am_M → Prop}
def am_cpy (mem : am_M) (a0 sp a1 dp n : Nat) : am_M := fun b => if b = a1 then (fun j => if dp ≤ j ∧ j < dp + n then mem a0 (sp + (j - dp)) else mem a1 j) else mem b
theorem am_cpy_eq {a0 sp a1 dp n : Nat} : am_cpy mem a0 sp a1 dp n a1 = fun j => if dp ≤ j ∧ j < dp + n then mem a0 (sp + (j - dp)) else mem a1 j := by unfold am_cpy; rw [if_pos rfl]
theorem am_cpy_ne {a0 sp a1 dp n b : Nat} (h : b ≠ a1) : am_cpy mem a0 sp a1 dp n b = mem b := by unfold am_cpy; rw [if_neg h]
theorem am_cpy_ok {a0 sp a1 dp n kd n0 n1 : Nat} (h : am_okM mem) (hk0 : am_ks[a0]? = some (kd, n0)) (hk1 : am_ks[a1]? = some (kd, n1)) (hkd : 100 ≤ kd) : am_okM (am_cpy mem a0 sp a1 dp n) := by
  intro b j
  by_cases hb : b = a1
  · subst hb
    rw [am_cpy_eq]
    have e : ∀ x y, am_sl b x = am_sl a0 y := fun x y => by
      have hn : ¬ kd < 100 := by omega
      rw [am_sl_of hk0, am_sl_of hk1]; simp only [if_neg hn]
    show am_okt (am_sl b j) (if dp ≤ j ∧ j < dp + n then mem a0 (sp + (j - dp)) else mem b j)
    by_cases hj : dp ≤ j ∧ j < dp + n
    · rw [if_pos hj, e j (sp + (j - dp))]; exact h a0 _
    · rw [if_neg hj]; exact h b j
  · rw [am_cpy_ne hb]; exact h b j
theorem am_nn {x : Int} (h : 0 ≤ x) (hx : am_ok x) : ¬ Int32.ofInt x < 0 := fun h2 => absurd ((am_lt hx am_ok0).mp h2) (Int.not_lt.mpr h)
theorem rn_copyi {i a0 a1 n0 n1 : Nat} {sp dp n : Int} (hd : decode M.2.1 pc = .ok (.invokestatic i, 3)) (hm : Cond.methodLink M.1 i arraycopyName ∈ am_tbl) (hm2 : Cond.native arraycopyName ∈ am_tbl ∧ Cond.static arraycopyName ∈ am_tbl ∧ Cond.initialized "java/lang/System" ∈ am_tbl) (hk0 : am_ks[a0]? = some (100, n0)) (hk1 : am_ks[a1]? = some (100, n1)) (h1 : 0 ≤ sp) (h2 : 0 ≤ dp) (h3 : 0 ≤ n) (h4 : sp + n ≤ n0) (h5 : dp + n ≤ n1) (hw : am_wsum st ≤ 8) (hq : pc + 3 = q) (kk : am_Rn l G M d q ls st (am_cpy mem a0 sp.toNat a1 dp.toNat n.toNat) Q) : am_Rn l G M d pc ls (.inl n :: .inl dp :: .inr (.inr (a1 + 1)) :: .inl sp :: .inr (.inr (a0 + 1)) :: st) mem Q := by
  subst hq
  intro p e R s m args below meth c0 H locs lsM C hP hS hl ho
  have ha0 := am_ks_lt hk0
  have ha1 := am_ks_lt hk1
  have on := am_kh ho
  have od := am_kh (am_kt ho)
  have os := am_kh (am_kt (am_kt (am_kt ho)))
  have ht := C.2.2.2.2.1
  have hw0 : (am_ws G mem)[a0]? = some (am_ad G a0, .inl (G.2.2.1 0, n0, .inl (fun j => Int32.ofInt (mem a0 j)))) := by rw [am_ws_get ha0, am_cell_i hk0, am_ad_lt ha0]
  have hw1 : (am_ws G mem)[a1]? = some (am_ad G a1, .inl (G.2.2.1 0, n1, .inl (fun j => Int32.ofInt (mem a1 j)))) := by rw [am_ws_get ha1, am_cell_i hk1, am_ad_lt ha1]
  have hf1 := C.2.2.2.2.2.2.2.2.2.1
  have hf2 := C.2.2.2.2.2.2.2.2.2.2.1
  refine va_copyi C.1 C.2.1 (C.2.2.1.trans hl.1.symm) C.2.2.2.1 (ht _ hm) (ht _ hm2.1) (ht _ hm2.2.1) (ht _ hm2.2.2) C.2.2.2.2.2.2.2.1 hP.1 (am_D G mem) hS a0 a1 0 0 hw0 hw1 rfl rfl rfl (am_nn h1 os) (am_nn h2 od) (am_nn h3 on) (by rw [am_nat h1 os, am_nat h3 on]; omega) (by rw [am_nat h2 od, am_nat h3 on]; omega) (fun _ _ => rfl) (by omega) ?_ hd (fun H1 locs1 p1 p2 p3 => ?_)
  · rw [am_wsum_eq]
    have : nativeFrameWords "java/lang/System" "arraycopy" 5 + 11 ≤ 92 := by decide
    omega
  · rw [am_nat h1 os, am_nat h2 od, am_nat h3 on, am_ad_lt ha1] at p1
    have e1 := am_ws_set (G := G) (mem := mem) (mem2 := am_cpy mem a0 sp.toNat a1 dp.toNat n.toNat) (a := a1) (fun b hb => am_cpy_ne hb)
    rw [am_cell_i hk1, am_cpy_eq] at e1
    have e2 : va_cpy (fun j => Int32.ofInt (mem a0 j)) (fun j => Int32.ofInt (mem a1 j)) sp.toNat dp.toNat n.toNat = fun j => Int32.ofInt (if dp.toNat ≤ j ∧ j < dp.toNat + n.toNat then mem a0 (sp.toNat + (j - dp.toNat)) else mem a1 j) := by
      funext j; unfold va_cpy; split <;> rfl
    rw [e2, e1] at p1
    exact kk p e R s m args below meth c0 H1 locs1 lsM C ⟨p1, am_cpy_ok hP.2 hk0 hk1 (by decide)⟩ p3 hl (am_kt (am_kt (am_kt (am_kt (am_kt ho)))))
theorem rn_copyl {i a0 a1 n0 n1 : Nat} {sp dp n : Int} (hd : decode M.2.1 pc = .ok (.invokestatic i, 3)) (hm : Cond.methodLink M.1 i arraycopyName ∈ am_tbl) (hm2 : Cond.native arraycopyName ∈ am_tbl ∧ Cond.static arraycopyName ∈ am_tbl ∧ Cond.initialized "java/lang/System" ∈ am_tbl) (hk0 : am_ks[a0]? = some (101, n0)) (hk1 : am_ks[a1]? = some (101, n1)) (h1 : 0 ≤ sp) (h2 : 0 ≤ dp) (h3 : 0 ≤ n) (h4 : sp + n ≤ n0) (h5 : dp + n ≤ n1) (hw : am_wsum st ≤ 8) (hq : pc + 3 = q) (kk : am_Rn l G M d q ls st (am_cpy mem a0 sp.toNat a1 dp.toNat n.toNat) Q) : am_Rn l G M d pc ls (.inl n :: .inl dp :: .inr (.inr (a1 + 1)) :: .inl sp :: .inr (.inr (a0 + 1)) :: st) mem Q := by
  subst hq
  intro p e R s m args below meth c0 H locs lsM C hP hS hl ho
  have ha0 := am_ks_lt hk0
  have ha1 := am_ks_lt hk1
  have on := am_kh ho
  have od := am_kh (am_kt ho)
  have os := am_kh (am_kt (am_kt (am_kt ho)))
  have ht := C.2.2.2.2.1
  have hw0 : (am_ws G mem)[a0]? = some (am_ad G a0, .inl (G.2.2.1 1, n0, .inr (.inl (fun j => Int64.ofInt (mem a0 j))))) := by rw [am_ws_get ha0, am_cell_l hk0, am_ad_lt ha0]
  have hw1 : (am_ws G mem)[a1]? = some (am_ad G a1, .inl (G.2.2.1 1, n1, .inr (.inl (fun j => Int64.ofInt (mem a1 j))))) := by rw [am_ws_get ha1, am_cell_l hk1, am_ad_lt ha1]
  have hf1 := C.2.2.2.2.2.2.2.2.2.1
  have hf2 := C.2.2.2.2.2.2.2.2.2.2.1
  refine va_copyl C.1 C.2.1 (C.2.2.1.trans hl.1.symm) C.2.2.2.1 (ht _ hm) (ht _ hm2.1) (ht _ hm2.2.1) (ht _ hm2.2.2) C.2.2.2.2.2.2.2.1 hP.1 (am_D G mem) hS a0 a1 1 1 hw0 hw1 rfl rfl rfl (am_nn h1 os) (am_nn h2 od) (am_nn h3 on) (by rw [am_nat h1 os, am_nat h3 on]; omega) (by rw [am_nat h2 od, am_nat h3 on]; omega) (fun _ _ => rfl) (by omega) ?_ hd (fun H1 locs1 p1 p2 p3 => ?_)
  · rw [am_wsum_eq]
    have : nativeFrameWords "java/lang/System" "arraycopy" 5 + 11 ≤ 92 := by decide
    omega
  · rw [am_nat h1 os, am_nat h2 od, am_nat h3 on, am_ad_lt ha1] at p1
    have e1 := am_ws_set (G := G) (mem := mem) (mem2 := am_cpy mem a0 sp.toNat a1 dp.toNat n.toNat) (a := a1) (fun b hb => am_cpy_ne hb)
    rw [am_cell_l hk1, am_cpy_eq] at e1
    have e2 : va_cpy (fun j => Int64.ofInt (mem a0 j)) (fun j => Int64.ofInt (mem a1 j)) sp.toNat dp.toNat n.toNat = fun j => Int64.ofInt (if dp.toNat ≤ j ∧ j < dp.toNat + n.toNat then mem a0 (sp.toNat + (j - dp.toNat)) else mem a1 j) := by
      funext j; unfold va_cpy; split <;> rfl
    rw [e2, e1] at p1
    exact kk p e R s m args below meth c0 H1 locs1 lsM C ⟨p1, am_cpy_ok hP.2 hk0 hk1 (by decide)⟩ p3 hl (am_kt (am_kt (am_kt (am_kt (am_kt ho)))))
theorem am_c16 {x : Int} (h : am_ok x) : ((Int32.ofInt x).toUInt32 % 65536).toInt32 = Int32.ofInt (x % 65536) := by
  rw [pk_char]
  have h1 : ((Int32.ofInt x).toBitVec.toNat : Int) = x % 4294967296 := by
    show ((BitVec.ofInt 32 x).toNat : Int) = _
    rw [BitVec.toNat_ofInt]
    simp
    omega
  show Int32.ofNat _ = _
  have h2 : (((Int32.ofInt x).toBitVec.toNat % 65536 : Nat) : Int) = x % 65536 := by omega
  rw [← h2]
  rfl
theorem rn_i2c {x : Int} (hd : decode M.2.1 pc = .ok (.i2c, 1)) (hq : pc + 1 = q) (k : am_Rn l G M d q ls (.inl (x % 65536) :: st) mem Q) : am_Rn l G M d pc ls (.inl x :: st) mem Q := by
  subst hq
  exact am_go k (fun _ ho => am_k1 ho (am_i2c_ok _)) (fun C hl ho k => lv_i2c C.1 C.2.1 hd (am_c16 (am_kh ho)) k)
end RN5
