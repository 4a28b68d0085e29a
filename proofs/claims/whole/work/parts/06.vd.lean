theorem am_ck_law : ∀ pc, pc < am_cn 0 → am_ckO 0 pc = true := by
  intro pc h
  have h : pc < 1684 := h
  by_cases h0 : pc < 170
  · exact List.all_eq_true.mp am_ckL_0 pc (List.mem_range'_1.mpr (by omega))
  by_cases h1 : pc < 340
  · exact List.all_eq_true.mp am_ckL_1 pc (List.mem_range'_1.mpr (by omega))
  by_cases h2 : pc < 510
  · exact List.all_eq_true.mp am_ckL_2 pc (List.mem_range'_1.mpr (by omega))
  by_cases h3 : pc < 680
  · exact List.all_eq_true.mp am_ckL_3 pc (List.mem_range'_1.mpr (by omega))
  by_cases h4 : pc < 850
  · exact List.all_eq_true.mp am_ckL_4 pc (List.mem_range'_1.mpr (by omega))
  by_cases h5 : pc < 1020
  · exact List.all_eq_true.mp am_ckL_5 pc (List.mem_range'_1.mpr (by omega))
  by_cases h6 : pc < 1190
  · exact List.all_eq_true.mp am_ckL_6 pc (List.mem_range'_1.mpr (by omega))
  by_cases h7 : pc < 1360
  · exact List.all_eq_true.mp am_ckL_7 pc (List.mem_range'_1.mpr (by omega))
  by_cases h8 : pc < 1530
  · exact List.all_eq_true.mp am_ckL_8 pc (List.mem_range'_1.mpr (by omega))
  by_cases h9 : pc < 1684
  · exact List.all_eq_true.mp am_ckL_9 pc (List.mem_range'_1.mpr (by omega))
  omega
theorem am_ck_all : ∀ m, m < am_nm → ∀ pc, pc < am_cn m → am_ckO m pc = true := by
  intro m h
  have h : m < 219 := h
  by_cases hl : m = 0
  · subst hl; exact am_ck_law
  by_cases h1 : m < 13
  · intro pc hp
    have h1 := List.all_eq_true.mp am_ckG_1 m (List.mem_range'_1.mpr (by omega))
    exact List.all_eq_true.mp h1 pc (List.mem_range.mpr hp)
  by_cases h2 : m < 23
  · intro pc hp
    have h1 := List.all_eq_true.mp am_ckG_2 m (List.mem_range'_1.mpr (by omega))
    exact List.all_eq_true.mp h1 pc (List.mem_range.mpr hp)
  by_cases h3 : m < 35
  · intro pc hp
    have h1 := List.all_eq_true.mp am_ckG_3 m (List.mem_range'_1.mpr (by omega))
    exact List.all_eq_true.mp h1 pc (List.mem_range.mpr hp)
  by_cases h4 : m < 52
  · intro pc hp
    have h1 := List.all_eq_true.mp am_ckG_4 m (List.mem_range'_1.mpr (by omega))
    exact List.all_eq_true.mp h1 pc (List.mem_range.mpr hp)
  by_cases h5 : m < 62
  · intro pc hp
    have h1 := List.all_eq_true.mp am_ckG_5 m (List.mem_range'_1.mpr (by omega))
    exact List.all_eq_true.mp h1 pc (List.mem_range.mpr hp)
  by_cases h6 : m < 73
  · intro pc hp
    have h1 := List.all_eq_true.mp am_ckG_6 m (List.mem_range'_1.mpr (by omega))
    exact List.all_eq_true.mp h1 pc (List.mem_range.mpr hp)
  by_cases h7 : m < 84
  · intro pc hp
    have h1 := List.all_eq_true.mp am_ckG_7 m (List.mem_range'_1.mpr (by omega))
    exact List.all_eq_true.mp h1 pc (List.mem_range.mpr hp)
  by_cases h8 : m < 92
  · intro pc hp
    have h1 := List.all_eq_true.mp am_ckG_8 m (List.mem_range'_1.mpr (by omega))
    exact List.all_eq_true.mp h1 pc (List.mem_range.mpr hp)
  by_cases h9 : m < 113
  · intro pc hp
    have h1 := List.all_eq_true.mp am_ckG_9 m (List.mem_range'_1.mpr (by omega))
    exact List.all_eq_true.mp h1 pc (List.mem_range.mpr hp)
  by_cases h10 : m < 133
  · intro pc hp
    have h1 := List.all_eq_true.mp am_ckG_10 m (List.mem_range'_1.mpr (by omega))
    exact List.all_eq_true.mp h1 pc (List.mem_range.mpr hp)
  by_cases h11 : m < 143
  · intro pc hp
    have h1 := List.all_eq_true.mp am_ckG_11 m (List.mem_range'_1.mpr (by omega))
    exact List.all_eq_true.mp h1 pc (List.mem_range.mpr hp)
  by_cases h12 : m < 155
  · intro pc hp
    have h1 := List.all_eq_true.mp am_ckG_12 m (List.mem_range'_1.mpr (by omega))
    exact List.all_eq_true.mp h1 pc (List.mem_range.mpr hp)
  by_cases h13 : m < 164
  · intro pc hp
    have h1 := List.all_eq_true.mp am_ckG_13 m (List.mem_range'_1.mpr (by omega))
    exact List.all_eq_true.mp h1 pc (List.mem_range.mpr hp)
  by_cases h14 : m < 173
  · intro pc hp
    have h1 := List.all_eq_true.mp am_ckG_14 m (List.mem_range'_1.mpr (by omega))
    exact List.all_eq_true.mp h1 pc (List.mem_range.mpr hp)
  by_cases h15 : m < 183
  · intro pc hp
    have h1 := List.all_eq_true.mp am_ckG_15 m (List.mem_range'_1.mpr (by omega))
    exact List.all_eq_true.mp h1 pc (List.mem_range.mpr hp)
  by_cases h16 : m < 192
  · intro pc hp
    have h1 := List.all_eq_true.mp am_ckG_16 m (List.mem_range'_1.mpr (by omega))
    exact List.all_eq_true.mp h1 pc (List.mem_range.mpr hp)
  by_cases h17 : m < 198
  · intro pc hp
    have h1 := List.all_eq_true.mp am_ckG_17 m (List.mem_range'_1.mpr (by omega))
    exact List.all_eq_true.mp h1 pc (List.mem_range.mpr hp)
  by_cases h18 : m < 215
  · intro pc hp
    have h1 := List.all_eq_true.mp am_ckG_18 m (List.mem_range'_1.mpr (by omega))
    exact List.all_eq_true.mp h1 pc (List.mem_range.mpr hp)
  by_cases h19 : m < 219
  · intro pc hp
    have h1 := List.all_eq_true.mp am_ckG_19 m (List.mem_range'_1.mpr (by omega))
    exact List.all_eq_true.mp h1 pc (List.mem_range.mpr hp)
  omega
theorem am_vd {mid pc : Nat} {x : am_X} (h : am_code mid pc = some x) : am_ckB mid pc x = true := by
  have h0 := h
  unfold am_code at h
  cases h1 : Nat.ble 219 mid with
  | true => rw [h1] at h; cases h
  | false =>
    rw [h1] at h
    cases h2 : Nat.ble (am_cn mid) pc with
    | true => rw [h2] at h; cases h
    | false =>
      have h3 : mid < am_nm := Nat.lt_of_not_le (fun z => by rw [Nat.ble_eq_true_of_le (show 219 ≤ mid from z)] at h1; cases h1)
      have h4 : pc < am_cn mid := Nat.lt_of_not_le (fun z => by rw [Nat.ble_eq_true_of_le z] at h2; cases h2)
      have h5 := am_ck_all mid h3 pc h4
      unfold am_ckO at h5
      rw [h0] at h5
      exact h5
