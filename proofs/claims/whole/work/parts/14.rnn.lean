theorem am_okd {n : Int} (h : (decide (-2147483648 ≤ n) && decide (n ≤ 2147483647)) = true) : am_ok n := by
  simp at h; exact h
theorem am_okld {n : Int} (h : (decide (-9223372036854775808 ≤ n) && decide (n ≤ 9223372036854775807)) = true) : am_okl n := by
  simp at h; exact h
/-- down from n to k -/
theorem am_down {n : Nat} {P : Nat → Prop} (hn : P n) (hs : ∀ k, k < n → P (k + 1) → P k) : ∀ k, k ≤ n → P k := by
  intro k hk
  obtain ⟨j, rfl⟩ : ∃ j, n = k + j := ⟨n - k, by omega⟩
  clear hk
  induction j generalizing k with
  | zero => exact hn
  | succ j ih =>
    refine hs k (by omega) (ih (k + 1) ?_ ?_)
    · rw [show k + 1 + j = k + (j + 1) by omega]; exact hn
    · intro k2 h2 h3; exact hs k2 (by omega) h3
section RNN
variable {l : Launch} {G : am_G} {M : am_Mt} {d pc q t : Nat} {ls ls' : am_L} {st : List am_V} {mem mem' : am_M} {Q : Option am_V → am_M → Prop}
theorem rn_iaddN {x y z : Int} (hd : decode M.2.1 pc = .ok (.iadd, 1)) (hz : x + y = z) (ho : am_ok (x + y)) (hq : pc + 1 = q) (k : am_Rn l G M d q ls (.inl z :: st) mem Q) : am_Rn l G M d pc ls (.inl y :: .inl x :: st) mem Q := rn_iadd hd hq (by rw [am_w32_id ho, hz]; exact k)
theorem rn_isubN {x y z : Int} (hd : decode M.2.1 pc = .ok (.isub, 1)) (hz : x - y = z) (ho : am_ok (x - y)) (hq : pc + 1 = q) (k : am_Rn l G M d q ls (.inl z :: st) mem Q) : am_Rn l G M d pc ls (.inl y :: .inl x :: st) mem Q := rn_isub hd hq (by rw [am_w32_id ho, hz]; exact k)
theorem rn_imulN {x y z : Int} (hd : decode M.2.1 pc = .ok (.imul, 1)) (hz : x * y = z) (ho : am_ok (x * y)) (hq : pc + 1 = q) (k : am_Rn l G M d q ls (.inl z :: st) mem Q) : am_Rn l G M d pc ls (.inl y :: .inl x :: st) mem Q := rn_imul hd hq (by rw [am_w32_id ho, hz]; exact k)
theorem rn_inegN {x z : Int} (hd : decode M.2.1 pc = .ok (.ineg, 1)) (hz : -x = z) (ho : am_ok (-x)) (hq : pc + 1 = q) (k : am_Rn l G M d q ls (.inl z :: st) mem Q) : am_Rn l G M d pc ls (.inl x :: st) mem Q := rn_ineg hd hq (by rw [am_w32_id ho, hz]; exact k)
theorem rn_idivN {x y z : Int} (hd : decode M.2.1 pc = .ok (.idiv, 1)) (hy : y ≠ 0) (hz : x.tdiv y = z) (ho : am_ok z) (hq : pc + 1 = q) (k : am_Rn l G M d q ls (.inl z :: st) mem Q) : am_Rn l G M d pc ls (.inl y :: .inl x :: st) mem Q := rn_idiv hd hy hq (by rw [hz, am_w32_id ho]; exact k)
theorem rn_iremN {x y z : Int} (hd : decode M.2.1 pc = .ok (.irem, 1)) (hy : y ≠ 0) (hz : x.tmod y = z) (ho : am_ok z) (hq : pc + 1 = q) (k : am_Rn l G M d q ls (.inl z :: st) mem Q) : am_Rn l G M d pc ls (.inl y :: .inl x :: st) mem Q := rn_irem hd hy hq (by rw [hz, am_w32_id ho]; exact k)
theorem rn_iincN {i : Nat} {x n z : Int} (hd : decode M.2.1 pc = .ok (.iinc i n, 3)) (hx : ls[i]? = some (some (.inl x))) (hi : i < M.2.2.1) (hz : x + n = z) (ho : am_ok (x + n)) (hs : am_set ls i (.inl z) = ls') (hq : pc + 3 = q) (k : am_Rn l G M d q ls' st mem Q) : am_Rn l G M d pc ls st mem Q := rn_iinc hd hx hi (by rw [am_w32_id ho, hz]; exact hs) hq k
theorem rn_laddN {x y z : Int} (hd : decode M.2.1 pc = .ok (.ladd, 1)) (hz : x + y = z) (ho : am_okl (x + y)) (hq : pc + 1 = q) (k : am_Rn l G M d q ls (.inr (.inl z) :: st) mem Q) : am_Rn l G M d pc ls (.inr (.inl y) :: .inr (.inl x) :: st) mem Q := rn_ladd hd hq (by rw [am_w64_id ho, hz]; exact k)
theorem rn_lmulN {x y z : Int} (hd : decode M.2.1 pc = .ok (.lmul, 1)) (hz : x * y = z) (ho : am_okl (x * y)) (hq : pc + 1 = q) (k : am_Rn l G M d q ls (.inr (.inl z) :: st) mem Q) : am_Rn l G M d pc ls (.inr (.inl y) :: .inr (.inl x) :: st) mem Q := rn_lmul hd hq (by rw [am_w64_id ho, hz]; exact k)
theorem rn_ldivN {x y z : Int} (hd : decode M.2.1 pc = .ok (.ldiv, 1)) (hy : y ≠ 0) (hz : x.tdiv y = z) (ho : am_okl z) (hq : pc + 1 = q) (k : am_Rn l G M d q ls (.inr (.inl z) :: st) mem Q) : am_Rn l G M d pc ls (.inr (.inl y) :: .inr (.inl x) :: st) mem Q := rn_ldiv hd hy hq (by rw [hz, am_w64_id ho]; exact k)
theorem rn_lremN {x y z : Int} (hd : decode M.2.1 pc = .ok (.lrem, 1)) (hy : y ≠ 0) (hz : x.tmod y = z) (ho : am_okl z) (hq : pc + 1 = q) (k : am_Rn l G M d q ls (.inr (.inl z) :: st) mem Q) : am_Rn l G M d pc ls (.inr (.inl y) :: .inr (.inl x) :: st) mem Q := rn_lrem hd hy hq (by rw [hz, am_w64_id ho]; exact k)
theorem rn_ialdV {a n : Nat} {i v : Int} (hd : decode M.2.1 pc = .ok (.iaload, 1)) (hk : am_ks[a]? = some (100, n)) (h0 : 0 ≤ i) (h1 : i < n) (hv : mem a i.toNat = v) (hq : pc + 1 = q) (kk : am_Rn l G M d q ls (.inl v :: st) mem Q) : am_Rn l G M d pc ls (.inl i :: .inr (.inr (a + 1)) :: st) mem Q := rn_iald hd hk h0 h1 hq (by rw [hv]; exact kk)
theorem rn_laldV {a n : Nat} {i v : Int} (hd : decode M.2.1 pc = .ok (.laload, 1)) (hk : am_ks[a]? = some (101, n)) (h0 : 0 ≤ i) (h1 : i < n) (hv : mem a i.toNat = v) (hq : pc + 1 = q) (kk : am_Rn l G M d q ls (.inr (.inl v) :: st) mem Q) : am_Rn l G M d pc ls (.inl i :: .inr (.inr (a + 1)) :: st) mem Q := rn_lald hd hk h0 h1 hq (by rw [hv]; exact kk)
theorem rn_baldV {a n : Nat} {i v : Int} (hd : decode M.2.1 pc = .ok (.baload, 1)) (hk : am_ks[a]? = some (102, n)) (h0 : 0 ≤ i) (h1 : i < n) (hv : mem a i.toNat = v) (hq : pc + 1 = q) (kk : am_Rn l G M d q ls (.inl v :: st) mem Q) : am_Rn l G M d pc ls (.inl i :: .inr (.inr (a + 1)) :: st) mem Q := rn_bald hd hk h0 h1 hq (by rw [hv]; exact kk)
theorem rn_zaldV {a n : Nat} {i v : Int} (hd : decode M.2.1 pc = .ok (.baload, 1)) (hk : am_ks[a]? = some (103, n)) (h0 : 0 ≤ i) (h1 : i < n) (hv : mem a i.toNat = v) (hq : pc + 1 = q) (kk : am_Rn l G M d q ls (.inl v :: st) mem Q) : am_Rn l G M d pc ls (.inl i :: .inr (.inr (a + 1)) :: st) mem Q := rn_zald hd hk h0 h1 hq (by rw [hv]; exact kk)
theorem rn_aaldV {a n : Nat} {i : Int} {c : Nat} (hd : decode M.2.1 pc = .ok (.aaload, 1)) (hk : am_ks[a]? = some (104, n)) (h0 : 0 ≤ i) (h1 : i < n) (hv : (mem a i.toNat).toNat = c) (hq : pc + 1 = q) (kk : am_Rn l G M d q ls (.inr (.inr c) :: st) mem Q) : am_Rn l G M d pc ls (.inl i :: .inr (.inr (a + 1)) :: st) mem Q := rn_aald hd hk h0 h1 hq (by rw [hv]; exact kk)
theorem rn_iastV {a n : Nat} {i x : Int} {m1 : am_M} (hd : decode M.2.1 pc = .ok (.iastore, 1)) (hk : am_ks[a]? = some (100, n)) (h0 : 0 ≤ i) (h1 : i < n) (hv : am_up mem a i.toNat x = m1) (hq : pc + 1 = q) (kk : am_Rn l G M d q ls st m1 Q) : am_Rn l G M d pc ls (.inl x :: .inl i :: .inr (.inr (a + 1)) :: st) mem Q := rn_iast hd hk h0 h1 hq (by rw [hv]; exact kk)
theorem rn_lastV {a n : Nat} {i x : Int} {m1 : am_M} (hd : decode M.2.1 pc = .ok (.lastore, 1)) (hk : am_ks[a]? = some (101, n)) (h0 : 0 ≤ i) (h1 : i < n) (hv : am_up mem a i.toNat x = m1) (hq : pc + 1 = q) (kk : am_Rn l G M d q ls st m1 Q) : am_Rn l G M d pc ls (.inr (.inl x) :: .inl i :: .inr (.inr (a + 1)) :: st) mem Q := rn_last hd hk h0 h1 hq (by rw [hv]; exact kk)
theorem rn_bastV {a n : Nat} {i x : Int} {m1 : am_M} (hd : decode M.2.1 pc = .ok (.bastore, 1)) (hk : am_ks[a]? = some (102, n)) (h0 : 0 ≤ i) (h1 : i < n) (hv : am_up mem a i.toNat (am_i2b x) = m1) (hq : pc + 1 = q) (kk : am_Rn l G M d q ls st m1 Q) : am_Rn l G M d pc ls (.inl x :: .inl i :: .inr (.inr (a + 1)) :: st) mem Q := rn_bast hd hk h0 h1 hq (by rw [hv]; exact kk)
theorem rn_zastV {a n : Nat} {i x : Int} {m1 : am_M} (hd : decode M.2.1 pc = .ok (.bastore, 1)) (hk : am_ks[a]? = some (103, n)) (h0 : 0 ≤ i) (h1 : i < n) (hx : x = 0 ∨ x = 1) (hv : am_up mem a i.toNat x = m1) (hq : pc + 1 = q) (kk : am_Rn l G M d q ls st m1 Q) : am_Rn l G M d pc ls (.inl x :: .inl i :: .inr (.inr (a + 1)) :: st) mem Q := rn_zast hd hk h0 h1 hx hq (by rw [hv]; exact kk)
theorem am_arrc : Cond.native arraycopyName ∈ am_tbl ∧ Cond.static arraycopyName ∈ am_tbl ∧ Cond.initialized "java/lang/System" ∈ am_tbl := by
  refine ⟨am_tbl_in ?_ rfl, am_tbl_in ?_ rfl, am_tbl_in ?_ rfl⟩ <;> decide +kernel
/-- a question's contract: the answer r, the numbers as they were -/
def am_rr (r : Option am_V) (mem : am_M) : Option am_V → am_M → Prop := fun x m => x = r ∧ mem = m
end RNN
