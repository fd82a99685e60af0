/-! one night of an estate -/
def mvE (X : List Nat) (h : hrs) (sn : Nat) (sg : Nat → Nat) (e : est) : Nat → Int := fun i => mayV X h (sg (eN e % sn)) i (eH e i) (eN e) (pc (eP e))
def wE (sn : Nat) (sg : Nat → Nat) (e : est) : Int := (sg (eN e % sn) : Int)
def nextE (X : List Nat) (h : hrs) (sn : Nat) (sg : Nat → Nat) (e : est) : est :=
  (fun i => if i < h.1 then (min 99 ((eH e i : Int) + pP (mvE X h sn sg e) (eP e) (wE sn sg e) i)).toNat else eH e i, eS e, eP e, eN e + 1, (min 9999 ((eB e : Int) + pL (mvE X h sn sg e) (eP e) (wE sn sg e) h.1)).toNat, (min 9999 ((eM e : Int) + pD (mvE X h sn sg e) (eP e) (wE sn sg e) h.2.2.2 h.1)).toNat, if eN e % 7 = 6 then (max 0 (min 9999 ((eK e : Int) + ((eK e : Int) * eG e).tdiv 10))).toNat else eK e, eG e)
theorem mvE_nn {X : List Nat} {h : hrs} {sn : Nat} {sg : Nat → Nat} {e : est} (i : Nat) : 0 ≤ mvE X h sn sg e i := mayV_nn
theorem wE_ok {sn : Nat} {sg : Nat → Nat} {e : est} (hs : ∀ i, sg i ≤ 9) : 0 ≤ wE sn sg e ∧ wE sn sg e ≤ 9 := by
  have := hs (eN e % sn)
  unfold wE
  omega
theorem nextE_ok {X : List Nat} {h : hrs} {sn : Nat} {sg : Nat → Nat} {e : est} {NB : Nat} (he : e_ok h.1 NB e) : e_ok h.1 (NB + 1) (nextE X h sn sg e) := by
  obtain ⟨h1, h2, h3, h4, h5, h6, h7, h8⟩ := he
  refine ⟨fun i => ?_, h2, h3, ?_, ?_, ?_, ?_, h8⟩
  · show (if i < h.1 then _ else _) ≤ 99
    split
    · omega
    · exact h1 i
  · show eN e + 1 ≤ NB + 1; omega
  · show (min 9999 _ : Int).toNat ≤ 9999; omega
  · show (min 9999 _ : Int).toNat ≤ 9999; omega
  · show (if eN e % 7 = 6 then _ else _) ≤ 9999
    split
    · omega
    · exact h7
