theorem lg_g {x y : Int64} : 0 < lg_cmp x y ↔ y.toInt < x.toInt := by
  unfold lg_cmp
  by_cases h : x > y
  · have := Int64.lt_iff_toInt_lt.mp h
    simp only [h, if_true]
    constructor
    · intro _; exact this
    · intro _; decide
  · have h' : x ≤ y := Int64.not_lt.mp h
    have h2 := Int64.le_iff_toInt_le.mp h'
    simp only [h, if_false]
    constructor
    · intro z
      exfalso
      revert z
      split
      · decide
      · decide
    · intro z; omega
theorem sm64 (p m : Int32) : (p.toInt64 + m.toInt64).toInt = p.toInt + m.toInt := by
  have h1 : ∀ z : Int32, z.toInt64.toInt = z.toInt := fun z => by simp
  rw [Int64.toInt_add, h1, h1]
  have a := p.toInt_lt
  have b := p.le_toInt
  have c := m.toInt_lt
  have e := m.le_toInt
  rw [Int.bmod_eq_of_le] <;> omega
theorem lg_r {p m : Int32} {n : Nat} (hn : n ≤ 24) : 0 < lg_cmp (p.toInt64 + m.toInt64) (nI n).toInt64 ↔ (n : Int) < p.toInt + m.toInt := by
  have h1 : ∀ z : Int32, z.toInt64.toInt = z.toInt := fun z => by simp
  rw [lg_g, sm64, h1, tI (by omega)]
