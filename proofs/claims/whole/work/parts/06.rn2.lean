section RN2
variable {l : Launch} {G : am_G} {M : am_Mt} {d pc q t : Nat} {ls ls' : am_L} {st : List am_V} {mem : am_M} {Q : Option am_V → am_M → Prop}
theorem am_ok0 : am_ok 0 := by unfold am_ok; omega
theorem am_z : (0 : Int32) = Int32.ofInt 0 := rfl
/-! branches -/
theorem rn_go (hd : ∃ o, decode M.2.1 pc = .ok (.goto o, 3) ∧ (pc : Int) + o = (t : Int)) (k : am_Rn l G M d t ls st mem Q) : am_Rn l G M d pc ls st mem Q := by
  obtain ⟨o, hd, ht⟩ := hd
  exact am_go k (fun _ ho => ho) (fun C hl ho k => lv_goto C.1 C.2.1 hd ht k)
theorem rn_goto {o : Int} (hd : decode M.2.1 pc = .ok (.goto o, 3)) (ht : (pc : Int) + o = (t : Int)) (k : am_Rn l G M d t ls st mem Q) : am_Rn l G M d pc ls st mem Q := rn_go ⟨o, hd, ht⟩ k
theorem rn_ifeq {o x : Int} (hd : decode M.2.1 pc = .ok (.ifCond .eq o, 3)) (ht : (pc : Int) + o = (t : Int)) (hq : pc + 3 = q) (kt : x = 0 → am_Rn l G M d t ls st mem Q) (kf : ¬ x = 0 → am_Rn l G M d q ls st mem Q) : am_Rn l G M d pc ls (.inl x :: st) mem Q := by
  subst hq
  intro p e R s m args below meth c H locs lsM C hP hS hl ho
  exact lv_if_eq C.1 C.2.1 hd ht (fun h => kt ((am_eq (am_kh ho) am_ok0).mp h) p e R s m args below meth c H locs lsM C hP hS hl (am_kt ho)) (fun h => kf (fun h2 => h ((am_eq (am_kh ho) am_ok0).mpr h2)) p e R s m args below meth c H locs lsM C hP hS hl (am_kt ho))
theorem rn_ifne {o x : Int} (hd : decode M.2.1 pc = .ok (.ifCond .ne o, 3)) (ht : (pc : Int) + o = (t : Int)) (hq : pc + 3 = q) (kt : ¬ x = 0 → am_Rn l G M d t ls st mem Q) (kf : x = 0 → am_Rn l G M d q ls st mem Q) : am_Rn l G M d pc ls (.inl x :: st) mem Q := by
  subst hq
  intro p e R s m args below meth c H locs lsM C hP hS hl ho
  exact lv_if_ne C.1 C.2.1 hd ht (fun h => kt (fun h2 => h ((am_eq (am_kh ho) am_ok0).mpr h2)) p e R s m args below meth c H locs lsM C hP hS hl (am_kt ho)) (fun h => kf ((am_eq (am_kh ho) am_ok0).mp (h)) p e R s m args below meth c H locs lsM C hP hS hl (am_kt ho))
theorem rn_iflt {o x : Int} (hd : decode M.2.1 pc = .ok (.ifCond .lt o, 3)) (ht : (pc : Int) + o = (t : Int)) (hq : pc + 3 = q) (kt : x < 0 → am_Rn l G M d t ls st mem Q) (kf : 0 ≤ x → am_Rn l G M d q ls st mem Q) : am_Rn l G M d pc ls (.inl x :: st) mem Q := by
  subst hq
  intro p e R s m args below meth c H locs lsM C hP hS hl ho
  exact lv_if_lt C.1 C.2.1 hd ht (fun h => kt ((am_lt (am_kh ho) am_ok0).mp h) p e R s m args below meth c H locs lsM C hP hS hl (am_kt ho)) (fun h => kf (Int.not_lt.mp (fun h2 => h ((am_lt (am_kh ho) am_ok0).mpr h2))) p e R s m args below meth c H locs lsM C hP hS hl (am_kt ho))
theorem rn_ifge {o x : Int} (hd : decode M.2.1 pc = .ok (.ifCond .ge o, 3)) (ht : (pc : Int) + o = (t : Int)) (hq : pc + 3 = q) (kt : 0 ≤ x → am_Rn l G M d t ls st mem Q) (kf : x < 0 → am_Rn l G M d q ls st mem Q) : am_Rn l G M d pc ls (.inl x :: st) mem Q := by
  subst hq
  intro p e R s m args below meth c H locs lsM C hP hS hl ho
  exact lv_if_ge C.1 C.2.1 hd ht (fun h => kt ((am_le am_ok0 (am_kh ho)).mp h) p e R s m args below meth c H locs lsM C hP hS hl (am_kt ho)) (fun h => kf (Int.not_le.mp (fun h2 => h ((am_le am_ok0 (am_kh ho)).mpr h2))) p e R s m args below meth c H locs lsM C hP hS hl (am_kt ho))
theorem rn_ifgt {o x : Int} (hd : decode M.2.1 pc = .ok (.ifCond .gt o, 3)) (ht : (pc : Int) + o = (t : Int)) (hq : pc + 3 = q) (kt : 0 < x → am_Rn l G M d t ls st mem Q) (kf : x ≤ 0 → am_Rn l G M d q ls st mem Q) : am_Rn l G M d pc ls (.inl x :: st) mem Q := by
  subst hq
  intro p e R s m args below meth c H locs lsM C hP hS hl ho
  exact lv_if_gt C.1 C.2.1 hd ht (fun h => kt ((am_lt am_ok0 (am_kh ho)).mp h) p e R s m args below meth c H locs lsM C hP hS hl (am_kt ho)) (fun h => kf (Int.not_lt.mp (fun h2 => h ((am_lt am_ok0 (am_kh ho)).mpr h2))) p e R s m args below meth c H locs lsM C hP hS hl (am_kt ho))
theorem rn_ifle {o x : Int} (hd : decode M.2.1 pc = .ok (.ifCond .le o, 3)) (ht : (pc : Int) + o = (t : Int)) (hq : pc + 3 = q) (kt : x ≤ 0 → am_Rn l G M d t ls st mem Q) (kf : 0 < x → am_Rn l G M d q ls st mem Q) : am_Rn l G M d pc ls (.inl x :: st) mem Q := by
  subst hq
  intro p e R s m args below meth c H locs lsM C hP hS hl ho
  exact lv_if_le C.1 C.2.1 hd ht (fun h => kt ((am_le (am_kh ho) am_ok0).mp h) p e R s m args below meth c H locs lsM C hP hS hl (am_kt ho)) (fun h => kf (Int.not_le.mp (fun h2 => h ((am_le (am_kh ho) am_ok0).mpr h2))) p e R s m args below meth c H locs lsM C hP hS hl (am_kt ho))
theorem rn_cmpeq {o x y : Int} (hd : decode M.2.1 pc = .ok (.if_icmp .eq o, 3)) (ht : (pc : Int) + o = (t : Int)) (hq : pc + 3 = q) (kt : x = y → am_Rn l G M d t ls st mem Q) (kf : ¬ x = y → am_Rn l G M d q ls st mem Q) : am_Rn l G M d pc ls (.inl y :: .inl x :: st) mem Q := by
  subst hq
  intro p e R s m args below meth c H locs lsM C hP hS hl ho
  have E := am_eq (am_kh (am_kt ho)) (am_kh ho)
  exact lv_icmp_eq C.1 C.2.1 hd ht (fun h => kt (E.mp h) p e R s m args below meth c H locs lsM C hP hS hl (am_kt (am_kt ho))) (fun h => kf (fun h2 => h (E.mpr h2)) p e R s m args below meth c H locs lsM C hP hS hl (am_kt (am_kt ho)))
theorem rn_cmpne {o x y : Int} (hd : decode M.2.1 pc = .ok (.if_icmp .ne o, 3)) (ht : (pc : Int) + o = (t : Int)) (hq : pc + 3 = q) (kt : ¬ x = y → am_Rn l G M d t ls st mem Q) (kf : x = y → am_Rn l G M d q ls st mem Q) : am_Rn l G M d pc ls (.inl y :: .inl x :: st) mem Q := by
  subst hq
  intro p e R s m args below meth c H locs lsM C hP hS hl ho
  have E := am_eq (am_kh (am_kt ho)) (am_kh ho)
  exact lv_icmp_ne C.1 C.2.1 hd ht (fun h => kt (fun h2 => h (E.mpr h2)) p e R s m args below meth c H locs lsM C hP hS hl (am_kt (am_kt ho))) (fun h => kf (E.mp (h)) p e R s m args below meth c H locs lsM C hP hS hl (am_kt (am_kt ho)))
theorem rn_cmplt {o x y : Int} (hd : decode M.2.1 pc = .ok (.if_icmp .lt o, 3)) (ht : (pc : Int) + o = (t : Int)) (hq : pc + 3 = q) (kt : x < y → am_Rn l G M d t ls st mem Q) (kf : y ≤ x → am_Rn l G M d q ls st mem Q) : am_Rn l G M d pc ls (.inl y :: .inl x :: st) mem Q := by
  subst hq
  intro p e R s m args below meth c H locs lsM C hP hS hl ho
  have E := am_lt (am_kh (am_kt ho)) (am_kh ho)
  exact lv_icmp_lt C.1 C.2.1 hd ht (fun h => kt (E.mp h) p e R s m args below meth c H locs lsM C hP hS hl (am_kt (am_kt ho))) (fun h => kf (Int.not_lt.mp (fun h2 => h (E.mpr h2))) p e R s m args below meth c H locs lsM C hP hS hl (am_kt (am_kt ho)))
theorem rn_cmpge {o x y : Int} (hd : decode M.2.1 pc = .ok (.if_icmp .ge o, 3)) (ht : (pc : Int) + o = (t : Int)) (hq : pc + 3 = q) (kt : y ≤ x → am_Rn l G M d t ls st mem Q) (kf : x < y → am_Rn l G M d q ls st mem Q) : am_Rn l G M d pc ls (.inl y :: .inl x :: st) mem Q := by
  subst hq
  intro p e R s m args below meth c H locs lsM C hP hS hl ho
  have E := am_le (am_kh ho) (am_kh (am_kt ho))
  exact lv_icmp_ge C.1 C.2.1 hd ht (fun h => kt (E.mp h) p e R s m args below meth c H locs lsM C hP hS hl (am_kt (am_kt ho))) (fun h => kf (Int.not_le.mp (fun h2 => h (E.mpr h2))) p e R s m args below meth c H locs lsM C hP hS hl (am_kt (am_kt ho)))
theorem rn_cmpgt {o x y : Int} (hd : decode M.2.1 pc = .ok (.if_icmp .gt o, 3)) (ht : (pc : Int) + o = (t : Int)) (hq : pc + 3 = q) (kt : y < x → am_Rn l G M d t ls st mem Q) (kf : x ≤ y → am_Rn l G M d q ls st mem Q) : am_Rn l G M d pc ls (.inl y :: .inl x :: st) mem Q := by
  subst hq
  intro p e R s m args below meth c H locs lsM C hP hS hl ho
  have E := am_lt (am_kh ho) (am_kh (am_kt ho))
  exact lv_icmp_gt C.1 C.2.1 hd ht (fun h => kt (E.mp h) p e R s m args below meth c H locs lsM C hP hS hl (am_kt (am_kt ho))) (fun h => kf (Int.not_lt.mp (fun h2 => h (E.mpr h2))) p e R s m args below meth c H locs lsM C hP hS hl (am_kt (am_kt ho)))
theorem rn_cmple {o x y : Int} (hd : decode M.2.1 pc = .ok (.if_icmp .le o, 3)) (ht : (pc : Int) + o = (t : Int)) (hq : pc + 3 = q) (kt : x ≤ y → am_Rn l G M d t ls st mem Q) (kf : y < x → am_Rn l G M d q ls st mem Q) : am_Rn l G M d pc ls (.inl y :: .inl x :: st) mem Q := by
  subst hq
  intro p e R s m args below meth c H locs lsM C hP hS hl ho
  have E := am_le (am_kh (am_kt ho)) (am_kh ho)
  exact lv_icmp_le C.1 C.2.1 hd ht (fun h => kt (E.mp h) p e R s m args below meth c H locs lsM C hP hS hl (am_kt (am_kt ho))) (fun h => kf (Int.not_le.mp (fun h2 => h (E.mpr h2))) p e R s m args below meth c H locs lsM C hP hS hl (am_kt (am_kt ho)))
theorem rn_tabOut {o lo hi x : Int} {offs : Array Int} {len : Nat} (hd : decode M.2.1 pc = .ok (.tableswitch o lo hi offs, len)) (h : x < lo ∨ hi < x) (ht : (pc : Int) + o = (t : Int)) (k : am_Rn l G M d t ls st mem Q) : am_Rn l G M d pc ls (.inl x :: st) mem Q :=
  am_go k (fun _ ho => am_kt ho) (fun C hl ho k => lv_tableOut C.1 C.2.1 hd (by rw [am_i_ok (am_kh ho)]; exact h) ht k)
theorem rn_tabIn {o o1 lo hi x : Int} {offs : Array Int} {len : Nat} (hd : decode M.2.1 pc = .ok (.tableswitch o lo hi offs, len)) (h1 : lo ≤ x) (h2 : x ≤ hi) (ho1 : offs[(x - lo).toNat]? = some o1) (ht : (pc : Int) + o1 = (t : Int)) (k : am_Rn l G M d t ls st mem Q) : am_Rn l G M d pc ls (.inl x :: st) mem Q :=
  am_go k (fun _ ho => am_kt ho) (fun C hl ho k => lv_tableIn C.1 C.2.1 hd (by rw [am_i_ok (am_kh ho)]; exact Int.not_lt.mpr h1) (by rw [am_i_ok (am_kh ho)]; exact Int.not_lt.mpr h2) (by rw [am_i_ok (am_kh ho)]; exact ho1) ht k)
theorem rn_look {o o1 x : Int} {ps : Array (Int × Int)} {len : Nat} (hd : decode M.2.1 pc = .ok (.lookupswitch o ps, len)) (hp : (ps.toList.zip (ps.toList.drop 1)).all (fun (a, next) => a.1 < next.1) = true) (ho1 : Op.lookupswitch.offset ps.toList o x = o1) (ht : (pc : Int) + o1 = (t : Int)) (k : am_Rn l G M d t ls st mem Q) : am_Rn l G M d pc ls (.inl x :: st) mem Q :=
  am_go k (fun _ ho => am_kt ho) (fun C hl ho k => lv_lookup C.1 C.2.1 hd hp (by rw [am_i_ok (am_kh ho)]; exact ho1) ht k)
/-! fields -/
theorem am_cl_get {c : Nat} (h : c < 10) : ∃ r : vw_C, vwCl[c]? = some r := ⟨vwCl[c]'h, List.getElem?_eq_getElem h⟩
theorem am_cell_o {c a n : Nat} (h : am_ks[a]? = some (c, n)) (hc : c < 100) : am_cell G mem a = .inr (c, (List.range n).map (fun k => am_enc G (am_tag (am_ft c k) (am_rd mem c a k)))) := by
  unfold am_cell; rw [h]; simp only [if_pos hc]
theorem am_tag_ok {c a k n : Nat} (h : am_ks[a]? = some (c, n)) (hc : c < 100) (hm : am_okM mem) (hf : am_ff c k = true → am_fin a k < 2147483648) : am_okv (am_tag (am_ft c k) (am_rd mem c a k)) := by
  have hs : am_sl a k = am_ft c k := by unfold am_sl; rw [h]; simp only [if_pos hc]
  have hm := hm a k
  rw [hs] at hm
  unfold am_rd
  by_cases hff : am_ff c k = true
  · rw [if_pos hff]
    have hf := hf hff
    unfold am_tag
    split <;> simp only [am_okv, am_ok, am_okl] <;> omega
  · rw [if_neg hff]
    unfold am_tag
    split
    · rename_i he; rw [he] at hm; exact hm
    · trivial
    · rename_i h1 h2
      exact am_okt_ok hm h1
end RN2
