/-! names, signs, keys -/
theorem nmJ_n {key b : Nat} (h : nmI key b = none) : nmJ key b = -1 := by unfold nmJ; rw [h]
theorem nmJ_s {key b i : Nat} (h : nmI key b = some i) : nmJ key b = nI i := by unfold nmJ; rw [h]
theorem sgJ_n {b : Nat} (h : sgI b = 9) : sgJ b = -1 := if_pos h
theorem sgJ_s {b i : Nat} (h : sgI b = i) (hi : i < 9) : sgJ b = nI i := by unfold sgJ; rw [h, if_neg (by omega)]
theorem c98_lv {i : Nat} (hi : i < 9) : am_c98.getD i 0 = nI (lvI i) := by
  have h : ∀ i, i < 9 → am_c98.getD i 0 = nI (lvI i) := by decide +kernel
  exact h i hi
theorem lvI_le (i : Nat) : lvI i ≤ 9 := by
  unfold lvI
  split
  · omega
  · split
    · omega
    · split
      · omega
      · split
        · omega
        · split <;> omega
theorem sgI_le (b : Nat) : sgI b ≤ 9 := by
  unfold sgI
  repeat' split
  all_goals omega
theorem i2cE {x : Int32} {b : Nat} (h : x = nI b) (hb : b < 256) : (x.toUInt32 % 65536).toInt32 = nI b := by rw [h]; exact i2c_b hb
set_option maxRecDepth 100000 in
set_option maxHeartbeats 4000000 in
theorem w_name_0_0 {I : Nat → Nat → Nat → Int32} {X : am_Z} {g : am_F} {gs : List am_F} {d : Nat} {Q : Option am_V → am_M → Prop} {t : Nat → Nat} {n key ro no : Nat} {tk : Tk} {l : List (Nat × Nat)} (hn : n ≤ 96) (ht : ∀ j, j < n → t j < 256) (hT : RdT I t n tk) (hS : RdS I key ro no l) (hW : Wt t n tk) (hl : l.length < 96) (hky : I 3 0 4 = 0) (h1 : ¬ tk.2.2 - tk.2.1 = 1) (k0 : am_WP (am_psh g (some (.inl (0))) :: gs) (d + 5) (mk I X) Q) : am_WP (am_entry mX3_takesName [.inr (.inr (some (3, 0)))] :: g :: gs) (d + 4) (mk I X) Q := by
  obtain ⟨w1, w2, w3, w4, w5, w6⟩ := id hW
  refine am_go 400 ?_
  have tk0 : I 3 0 4 = 0 := hky
  refine am_t (by show (I 3 0 4) = 0; (try rw [tk0]); first | done | exact rfl) ?_
  have tk1 : I 3 0 9 = nI tk.2.2 := hT.2.2.2.2
  have tk2 : I 3 0 8 = nI tk.2.1 := hT.2.2.2.1
  refine am_f (mt (eq_nat (a := (tk.2.2 - tk.2.1)) (b := 1) (nI_subE tk1 tk2 (by omega)) (rfl : (1 : Int32) = nI 1) (by omega) (by omega)).mp h1) ?_
  exact k0
set_option maxRecDepth 100000 in
set_option maxHeartbeats 4000000 in
theorem w_name_0_1 {I : Nat → Nat → Nat → Int32} {X : am_Z} {g : am_F} {gs : List am_F} {d : Nat} {Q : Option am_V → am_M → Prop} {t : Nat → Nat} {n key ro no : Nat} {tk : Tk} {l : List (Nat × Nat)} (hn : n ≤ 96) (ht : ∀ j, j < n → t j < 256) (hT : RdT I t n tk) (hS : RdS I key ro no l) (hW : Wt t n tk) (hl : l.length < 96) (hky : I 3 0 4 = 0) (h1 : tk.2.2 - tk.2.1 = 1) (hnm : nmI 0 (t tk.2.1) = none) (k0 : am_WP (am_psh g (some (.inl (0))) :: gs) (d + 5) (mk I X) Q) : am_WP (am_entry mX3_takesName [.inr (.inr (some (3, 0)))] :: g :: gs) (d + 4) (mk I X) Q := by
  obtain ⟨w1, w2, w3, w4, w5, w6⟩ := id hW
  refine am_go 400 ?_
  have tk0 : I 3 0 4 = 0 := hky
  refine am_t (by show (I 3 0 4) = 0; (try rw [tk0]); first | done | exact rfl) ?_
  have tk1 : I 3 0 9 = nI tk.2.2 := hT.2.2.2.2
  have tk2 : I 3 0 8 = nI tk.2.1 := hT.2.2.2.1
  refine am_t ((eq_nat (a := (tk.2.2 - tk.2.1)) (b := 1) (nI_subE tk1 tk2 (by omega)) (rfl : (1 : Int32) = nI 1) (by omega) (by omega)).mpr h1) ?_
  refine am_f (ix_in (n := tk.2.1) (N := 96) tk2 (by omega) (by decide)) ?_
  have tk3 : ((I 3 0 8)).toNatClampNeg = tk.2.1 := by first | exact ix_cl (n := tk.2.1) tk2 (by omega) | (((try rw [tk2])); first | done | exact ix_cl (n := tk.2.1) tk2 (by omega))
  have bd : (t (tk.2.1)) ≤ 255 := (by have := ht (tk.2.1) (by omega); omega)
  have tk4 : I 23 0 ((((I 3 0 8)).toNatClampNeg)) = nI (t (tk.2.1)) := by first | exact hT.2.1 _ (by omega) | (((try rw [tk3]); (try rw [tk2])); first | done | exact hT.2.1 _ (by omega))
  have tk5 : (nmJ 0 (t (tk.2.1))) = (-1) := nmJ_n hnm
  refine (c_idx_3 (b := (t (tk.2.1))) (i2cE tk4 (by omega)) (by omega)) _ _ _ ?_
  refine am_go 400 ?_
  refine am_f (by show ¬ 0 ≤ ((nmJ 0 (t (tk.2.1)))); (try rw [tk5]); first | done | exact (by decide)) ?_
  exact k0
set_option maxRecDepth 100000 in
set_option maxHeartbeats 4000000 in
theorem w_name_0_2 {I : Nat → Nat → Nat → Int32} {X : am_Z} {g : am_F} {gs : List am_F} {d : Nat} {Q : Option am_V → am_M → Prop} {t : Nat → Nat} {n key ro no : Nat} {tk : Tk} {l : List (Nat × Nat)} (hn : n ≤ 96) (ht : ∀ j, j < n → t j < 256) (hT : RdT I t n tk) (hS : RdS I key ro no l) (hW : Wt t n tk) (hl : l.length < 96) (hky : I 3 0 4 = 0) {i : Nat} (hi : i < 3) (h1 : tk.2.2 - tk.2.1 = 1) (hnm : nmI 0 (t tk.2.1) = some i) (k0 : ∀ (I1 : Im), (Rd I1 t n key ro no (nxT t n tk, l ++ [(1, i)]) ∧ FrR I I1) → am_WP (am_psh g (some (.inl (1))) :: gs) (d + 5) (mk I1 X) Q) : am_WP (am_entry mX3_takesName [.inr (.inr (some (3, 0)))] :: g :: gs) (d + 4) (mk I X) Q := by
  obtain ⟨w1, w2, w3, w4, w5, w6⟩ := id hW
  refine am_go 400 ?_
  have tk0 : I 3 0 4 = 0 := hky
  refine am_t (by show (I 3 0 4) = 0; (try rw [tk0]); first | done | exact rfl) ?_
  have tk1 : I 3 0 9 = nI tk.2.2 := hT.2.2.2.2
  have tk2 : I 3 0 8 = nI tk.2.1 := hT.2.2.2.1
  refine am_t ((eq_nat (a := (tk.2.2 - tk.2.1)) (b := 1) (nI_subE tk1 tk2 (by omega)) (rfl : (1 : Int32) = nI 1) (by omega) (by omega)).mpr h1) ?_
  refine am_f (ix_in (n := tk.2.1) (N := 96) tk2 (by omega) (by decide)) ?_
  have tk3 : ((I 3 0 8)).toNatClampNeg = tk.2.1 := by first | exact ix_cl (n := tk.2.1) tk2 (by omega) | (((try rw [tk2])); first | done | exact ix_cl (n := tk.2.1) tk2 (by omega))
  have bd : (t (tk.2.1)) ≤ 255 := (by have := ht (tk.2.1) (by omega); omega)
  have tk4 : I 23 0 ((((I 3 0 8)).toNatClampNeg)) = nI (t (tk.2.1)) := by first | exact hT.2.1 _ (by omega) | (((try rw [tk3]); (try rw [tk2])); first | done | exact hT.2.1 _ (by omega))
  have tk5 : (nmJ 0 (t (tk.2.1))) = nI i := nmJ_s hnm
  refine (c_idx_3 (b := (t (tk.2.1))) (i2cE tk4 (by omega)) (by omega)) _ _ _ ?_
  refine am_go 400 ?_
  refine am_t ((le_nat (a := 0) (b := i) (rfl : (0 : Int32) = nI 0) tk5 (by omega) (by omega)).mpr (Nat.zero_le _)) ?_
  refine (c_X3_addOperand (I := I) (tk := tk) (l := l) (x := (1, i)) hn ht ⟨hT, hS⟩ hW hl (by show ¬ 1 = 2; decide) (show (((-1) - ((nmJ 0 (t (tk.2.1))))) : Int32) = enC (1, i) from by (try rw [tk5]); rfl)) _ _ _ ?_
  intro I1 p1
  refine am_go 400 ?_
  exact k0 I1 p1
set_option maxRecDepth 100000 in
set_option maxHeartbeats 4000000 in
theorem w_name_1_0 {I : Nat → Nat → Nat → Int32} {X : am_Z} {g : am_F} {gs : List am_F} {d : Nat} {Q : Option am_V → am_M → Prop} {t : Nat → Nat} {n key ro no : Nat} {tk : Tk} {l : List (Nat × Nat)} (hn : n ≤ 96) (ht : ∀ j, j < n → t j < 256) (hT : RdT I t n tk) (hS : RdS I key ro no l) (hW : Wt t n tk) (hl : l.length < 96) (hky : I 3 0 4 = 1) (h1 : ¬ tk.2.2 - tk.2.1 = 1) (k0 : am_WP (am_psh g (some (.inl (0))) :: gs) (d + 5) (mk I X) Q) : am_WP (am_entry mX3_takesName [.inr (.inr (some (3, 0)))] :: g :: gs) (d + 4) (mk I X) Q := by
  obtain ⟨w1, w2, w3, w4, w5, w6⟩ := id hW
  refine am_go 400 ?_
  have tk0 : I 3 0 4 = 1 := hky
  refine am_f (by show ¬ (I 3 0 4) = 0; (try rw [tk0]); first | done | exact (by decide)) ?_
  refine am_t (by show (I 3 0 4) = 1; (try rw [tk0]); first | done | exact rfl) ?_
  have tk1 : I 3 0 9 = nI tk.2.2 := hT.2.2.2.2
  have tk2 : I 3 0 8 = nI tk.2.1 := hT.2.2.2.1
  refine am_f (mt (eq_nat (a := (tk.2.2 - tk.2.1)) (b := 1) (nI_subE tk1 tk2 (by omega)) (rfl : (1 : Int32) = nI 1) (by omega) (by omega)).mp h1) ?_
  exact k0
set_option maxRecDepth 100000 in
set_option maxHeartbeats 4000000 in
theorem w_name_1_1 {I : Nat → Nat → Nat → Int32} {X : am_Z} {g : am_F} {gs : List am_F} {d : Nat} {Q : Option am_V → am_M → Prop} {t : Nat → Nat} {n key ro no : Nat} {tk : Tk} {l : List (Nat × Nat)} (hn : n ≤ 96) (ht : ∀ j, j < n → t j < 256) (hT : RdT I t n tk) (hS : RdS I key ro no l) (hW : Wt t n tk) (hl : l.length < 96) (hky : I 3 0 4 = 1) (h1 : tk.2.2 - tk.2.1 = 1) (hnm : nmI 1 (t tk.2.1) = none) (k0 : am_WP (am_psh g (some (.inl (0))) :: gs) (d + 5) (mk I X) Q) : am_WP (am_entry mX3_takesName [.inr (.inr (some (3, 0)))] :: g :: gs) (d + 4) (mk I X) Q := by
  obtain ⟨w1, w2, w3, w4, w5, w6⟩ := id hW
  refine am_go 400 ?_
  have tk0 : I 3 0 4 = 1 := hky
  refine am_f (by show ¬ (I 3 0 4) = 0; (try rw [tk0]); first | done | exact (by decide)) ?_
  refine am_t (by show (I 3 0 4) = 1; (try rw [tk0]); first | done | exact rfl) ?_
  have tk1 : I 3 0 9 = nI tk.2.2 := hT.2.2.2.2
  have tk2 : I 3 0 8 = nI tk.2.1 := hT.2.2.2.1
  refine am_t ((eq_nat (a := (tk.2.2 - tk.2.1)) (b := 1) (nI_subE tk1 tk2 (by omega)) (rfl : (1 : Int32) = nI 1) (by omega) (by omega)).mpr h1) ?_
  refine am_f (ix_in (n := tk.2.1) (N := 96) tk2 (by omega) (by decide)) ?_
  have tk3 : ((I 3 0 8)).toNatClampNeg = tk.2.1 := by first | exact ix_cl (n := tk.2.1) tk2 (by omega) | (((try rw [tk2])); first | done | exact ix_cl (n := tk.2.1) tk2 (by omega))
  have bd : (t (tk.2.1)) ≤ 255 := (by have := ht (tk.2.1) (by omega); omega)
  have tk4 : I 23 0 ((((I 3 0 8)).toNatClampNeg)) = nI (t (tk.2.1)) := by first | exact hT.2.1 _ (by omega) | (((try rw [tk3]); (try rw [tk2])); first | done | exact hT.2.1 _ (by omega))
  have tk5 : (nmJ 1 (t (tk.2.1))) = (-1) := nmJ_n hnm
  refine (c_idx_4 (b := (t (tk.2.1))) (i2cE tk4 (by omega)) (by omega)) _ _ _ ?_
  refine am_go 400 ?_
  refine am_f (by show ¬ 0 ≤ ((nmJ 1 (t (tk.2.1)))); (try rw [tk5]); first | done | exact (by decide)) ?_
  exact k0
set_option maxRecDepth 100000 in
set_option maxHeartbeats 4000000 in
theorem w_name_1_2 {I : Nat → Nat → Nat → Int32} {X : am_Z} {g : am_F} {gs : List am_F} {d : Nat} {Q : Option am_V → am_M → Prop} {t : Nat → Nat} {n key ro no : Nat} {tk : Tk} {l : List (Nat × Nat)} (hn : n ≤ 96) (ht : ∀ j, j < n → t j < 256) (hT : RdT I t n tk) (hS : RdS I key ro no l) (hW : Wt t n tk) (hl : l.length < 96) (hky : I 3 0 4 = 1) {i : Nat} (hi : i < 3) (h1 : tk.2.2 - tk.2.1 = 1) (hnm : nmI 1 (t tk.2.1) = some i) (k0 : ∀ (I1 : Im), (Rd I1 t n key ro no (nxT t n tk, l ++ [(1, i)]) ∧ FrR I I1) → am_WP (am_psh g (some (.inl (1))) :: gs) (d + 5) (mk I1 X) Q) : am_WP (am_entry mX3_takesName [.inr (.inr (some (3, 0)))] :: g :: gs) (d + 4) (mk I X) Q := by
  obtain ⟨w1, w2, w3, w4, w5, w6⟩ := id hW
  refine am_go 400 ?_
  have tk0 : I 3 0 4 = 1 := hky
  refine am_f (by show ¬ (I 3 0 4) = 0; (try rw [tk0]); first | done | exact (by decide)) ?_
  refine am_t (by show (I 3 0 4) = 1; (try rw [tk0]); first | done | exact rfl) ?_
  have tk1 : I 3 0 9 = nI tk.2.2 := hT.2.2.2.2
  have tk2 : I 3 0 8 = nI tk.2.1 := hT.2.2.2.1
  refine am_t ((eq_nat (a := (tk.2.2 - tk.2.1)) (b := 1) (nI_subE tk1 tk2 (by omega)) (rfl : (1 : Int32) = nI 1) (by omega) (by omega)).mpr h1) ?_
  refine am_f (ix_in (n := tk.2.1) (N := 96) tk2 (by omega) (by decide)) ?_
  have tk3 : ((I 3 0 8)).toNatClampNeg = tk.2.1 := by first | exact ix_cl (n := tk.2.1) tk2 (by omega) | (((try rw [tk2])); first | done | exact ix_cl (n := tk.2.1) tk2 (by omega))
  have bd : (t (tk.2.1)) ≤ 255 := (by have := ht (tk.2.1) (by omega); omega)
  have tk4 : I 23 0 ((((I 3 0 8)).toNatClampNeg)) = nI (t (tk.2.1)) := by first | exact hT.2.1 _ (by omega) | (((try rw [tk3]); (try rw [tk2])); first | done | exact hT.2.1 _ (by omega))
  have tk5 : (nmJ 1 (t (tk.2.1))) = nI i := nmJ_s hnm
  refine (c_idx_4 (b := (t (tk.2.1))) (i2cE tk4 (by omega)) (by omega)) _ _ _ ?_
  refine am_go 400 ?_
  refine am_t ((le_nat (a := 0) (b := i) (rfl : (0 : Int32) = nI 0) tk5 (by omega) (by omega)).mpr (Nat.zero_le _)) ?_
  refine (c_X3_addOperand (I := I) (tk := tk) (l := l) (x := (1, i)) hn ht ⟨hT, hS⟩ hW hl (by show ¬ 1 = 2; decide) (show (((-1) - ((nmJ 1 (t (tk.2.1))))) : Int32) = enC (1, i) from by (try rw [tk5]); rfl)) _ _ _ ?_
  intro I1 p1
  refine am_go 400 ?_
  exact k0 I1 p1
set_option maxRecDepth 100000 in
set_option maxHeartbeats 4000000 in
theorem w_name_2_0 {I : Nat → Nat → Nat → Int32} {X : am_Z} {g : am_F} {gs : List am_F} {d : Nat} {Q : Option am_V → am_M → Prop} {t : Nat → Nat} {n key ro no : Nat} {tk : Tk} {l : List (Nat × Nat)} (hn : n ≤ 96) (ht : ∀ j, j < n → t j < 256) (hT : RdT I t n tk) (hS : RdS I key ro no l) (hW : Wt t n tk) (hl : l.length < 96) (hky : I 3 0 4 = 2) (h1 : ¬ tk.2.2 - tk.2.1 = 1) (k0 : am_WP (am_psh g (some (.inl (0))) :: gs) (d + 5) (mk I X) Q) : am_WP (am_entry mX3_takesName [.inr (.inr (some (3, 0)))] :: g :: gs) (d + 4) (mk I X) Q := by
  obtain ⟨w1, w2, w3, w4, w5, w6⟩ := id hW
  refine am_go 400 ?_
  have tk0 : I 3 0 4 = 2 := hky
  refine am_f (by show ¬ (I 3 0 4) = 0; (try rw [tk0]); first | done | exact (by decide)) ?_
  refine am_f (by show ¬ (I 3 0 4) = 1; (try rw [tk0]); first | done | exact (by decide)) ?_
  have tk1 : I 3 0 9 = nI tk.2.2 := hT.2.2.2.2
  have tk2 : I 3 0 8 = nI tk.2.1 := hT.2.2.2.1
  refine am_f (mt (eq_nat (a := (tk.2.2 - tk.2.1)) (b := 1) (nI_subE tk1 tk2 (by omega)) (rfl : (1 : Int32) = nI 1) (by omega) (by omega)).mp h1) ?_
  exact k0
set_option maxRecDepth 100000 in
set_option maxHeartbeats 4000000 in
theorem w_name_2_1 {I : Nat → Nat → Nat → Int32} {X : am_Z} {g : am_F} {gs : List am_F} {d : Nat} {Q : Option am_V → am_M → Prop} {t : Nat → Nat} {n key ro no : Nat} {tk : Tk} {l : List (Nat × Nat)} (hn : n ≤ 96) (ht : ∀ j, j < n → t j < 256) (hT : RdT I t n tk) (hS : RdS I key ro no l) (hW : Wt t n tk) (hl : l.length < 96) (hky : I 3 0 4 = 2) (h1 : tk.2.2 - tk.2.1 = 1) (hnm : nmI 2 (t tk.2.1) = none) (k0 : am_WP (am_psh g (some (.inl (0))) :: gs) (d + 5) (mk I X) Q) : am_WP (am_entry mX3_takesName [.inr (.inr (some (3, 0)))] :: g :: gs) (d + 4) (mk I X) Q := by
  obtain ⟨w1, w2, w3, w4, w5, w6⟩ := id hW
  refine am_go 400 ?_
  have tk0 : I 3 0 4 = 2 := hky
  refine am_f (by show ¬ (I 3 0 4) = 0; (try rw [tk0]); first | done | exact (by decide)) ?_
  refine am_f (by show ¬ (I 3 0 4) = 1; (try rw [tk0]); first | done | exact (by decide)) ?_
  have tk1 : I 3 0 9 = nI tk.2.2 := hT.2.2.2.2
  have tk2 : I 3 0 8 = nI tk.2.1 := hT.2.2.2.1
  refine am_t ((eq_nat (a := (tk.2.2 - tk.2.1)) (b := 1) (nI_subE tk1 tk2 (by omega)) (rfl : (1 : Int32) = nI 1) (by omega) (by omega)).mpr h1) ?_
  refine am_f (ix_in (n := tk.2.1) (N := 96) tk2 (by omega) (by decide)) ?_
  have tk3 : ((I 3 0 8)).toNatClampNeg = tk.2.1 := by first | exact ix_cl (n := tk.2.1) tk2 (by omega) | (((try rw [tk2])); first | done | exact ix_cl (n := tk.2.1) tk2 (by omega))
  have bd : (t (tk.2.1)) ≤ 255 := (by have := ht (tk.2.1) (by omega); omega)
  have tk4 : I 23 0 ((((I 3 0 8)).toNatClampNeg)) = nI (t (tk.2.1)) := by first | exact hT.2.1 _ (by omega) | (((try rw [tk3]); (try rw [tk2])); first | done | exact hT.2.1 _ (by omega))
  have tk5 : (nmJ 2 (t (tk.2.1))) = (-1) := nmJ_n hnm
  refine (c_idx_5 (b := (t (tk.2.1))) (i2cE tk4 (by omega)) (by omega)) _ _ _ ?_
  refine am_go 400 ?_
  refine am_f (by show ¬ 0 ≤ ((nmJ 2 (t (tk.2.1)))); (try rw [tk5]); first | done | exact (by decide)) ?_
  exact k0
set_option maxRecDepth 100000 in
set_option maxHeartbeats 4000000 in
theorem w_name_2_2 {I : Nat → Nat → Nat → Int32} {X : am_Z} {g : am_F} {gs : List am_F} {d : Nat} {Q : Option am_V → am_M → Prop} {t : Nat → Nat} {n key ro no : Nat} {tk : Tk} {l : List (Nat × Nat)} (hn : n ≤ 96) (ht : ∀ j, j < n → t j < 256) (hT : RdT I t n tk) (hS : RdS I key ro no l) (hW : Wt t n tk) (hl : l.length < 96) (hky : I 3 0 4 = 2) {i : Nat} (hi : i < 3) (h1 : tk.2.2 - tk.2.1 = 1) (hnm : nmI 2 (t tk.2.1) = some i) (k0 : ∀ (I1 : Im), (Rd I1 t n key ro no (nxT t n tk, l ++ [(1, i)]) ∧ FrR I I1) → am_WP (am_psh g (some (.inl (1))) :: gs) (d + 5) (mk I1 X) Q) : am_WP (am_entry mX3_takesName [.inr (.inr (some (3, 0)))] :: g :: gs) (d + 4) (mk I X) Q := by
  obtain ⟨w1, w2, w3, w4, w5, w6⟩ := id hW
  refine am_go 400 ?_
  have tk0 : I 3 0 4 = 2 := hky
  refine am_f (by show ¬ (I 3 0 4) = 0; (try rw [tk0]); first | done | exact (by decide)) ?_
  refine am_f (by show ¬ (I 3 0 4) = 1; (try rw [tk0]); first | done | exact (by decide)) ?_
  have tk1 : I 3 0 9 = nI tk.2.2 := hT.2.2.2.2
  have tk2 : I 3 0 8 = nI tk.2.1 := hT.2.2.2.1
  refine am_t ((eq_nat (a := (tk.2.2 - tk.2.1)) (b := 1) (nI_subE tk1 tk2 (by omega)) (rfl : (1 : Int32) = nI 1) (by omega) (by omega)).mpr h1) ?_
  refine am_f (ix_in (n := tk.2.1) (N := 96) tk2 (by omega) (by decide)) ?_
  have tk3 : ((I 3 0 8)).toNatClampNeg = tk.2.1 := by first | exact ix_cl (n := tk.2.1) tk2 (by omega) | (((try rw [tk2])); first | done | exact ix_cl (n := tk.2.1) tk2 (by omega))
  have bd : (t (tk.2.1)) ≤ 255 := (by have := ht (tk.2.1) (by omega); omega)
  have tk4 : I 23 0 ((((I 3 0 8)).toNatClampNeg)) = nI (t (tk.2.1)) := by first | exact hT.2.1 _ (by omega) | (((try rw [tk3]); (try rw [tk2])); first | done | exact hT.2.1 _ (by omega))
  have tk5 : (nmJ 2 (t (tk.2.1))) = nI i := nmJ_s hnm
  refine (c_idx_5 (b := (t (tk.2.1))) (i2cE tk4 (by omega)) (by omega)) _ _ _ ?_
  refine am_go 400 ?_
  refine am_t ((le_nat (a := 0) (b := i) (rfl : (0 : Int32) = nI 0) tk5 (by omega) (by omega)).mpr (Nat.zero_le _)) ?_
  refine (c_X3_addOperand (I := I) (tk := tk) (l := l) (x := (1, i)) hn ht ⟨hT, hS⟩ hW hl (by show ¬ 1 = 2; decide) (show (((-1) - ((nmJ 2 (t (tk.2.1))))) : Int32) = enC (1, i) from by (try rw [tk5]); rfl)) _ _ _ ?_
  intro I1 p1
  refine am_go 400 ?_
  exact k0 I1 p1
theorem c_X3_takesName {I : Im} {X d} {t : Nat → Nat} {n key ro no : Nat} {p : Pa} (hn : n ≤ 96) (ht : ∀ j, j < n → t j < 256) (hk : key < 3) (h : Rd I t n key ro no p) (hW : Wt t n p.1) (hl : p.2.length < 96) (r : Bool × Pa) (hr : r = match nmA t key p.1 with
      | none => (false, p)
      | some i => (true, (nxT t n p.1, p.2 ++ [(1, i)]))) : Sw mX3_takesName [.inr (.inr (some (3, 0)))] (d + 4) I X (some (.inl (vB r.1))) (PrC I t n key ro no r) := fun g gs Q K => by
  have bad : nmA t key p.1 = none → am_WP (am_psh g (some (.inl 0)) :: gs) (d + 4 + 1) (mk I X) Q := fun e => by
    rw [e] at hr
    subst hr
    exact K I (PrC_f h.1.2.2.2.1 FrR_r)
  have good : ∀ i, nmA t key p.1 = some i → ∀ I1, Rd I1 t n key ro no (nxT t n p.1, p.2 ++ [(1, i)]) ∧ FrR I I1 → am_WP (am_psh g (some (.inl 1)) :: gs) (d + 4 + 1) (mk I1 X) Q := fun i e I1 p1 => by
    rw [e] at hr
    subst hr
    exact K I1 (PrC_t p1.1 p1.2)
  have hky : I 3 0 4 = nI key := h.2.1
  by_cases h1 : p.1.2.2 - p.1.2.1 = 1
  · rcases e : nmI key (t p.1.2.1) with _ | i
    · have b := bad (by unfold nmA; rw [if_pos h1]; exact e)
      match key, hk, hky, e with
      | 0, _, hky, e => exact w_name_0_1 hn ht h.1 h.2 hW hl hky h1 e b
      | 1, _, hky, e => exact w_name_1_1 hn ht h.1 h.2 hW hl hky h1 e b
      | 2, _, hky, e => exact w_name_2_1 hn ht h.1 h.2 hW hl hky h1 e b
    · have en : nmA t key p.1 = some i := by unfold nmA; rw [if_pos h1]; exact e
      have hi : i < 3 := by have := nmA_b en; split at this <;> omega
      have b := good i en
      match key, hk, hky, e, h, b with
      | 0, _, hky, e, h, b => exact w_name_0_2 hn ht h.1 h.2 hW hl hky hi h1 e b
      | 1, _, hky, e, h, b => exact w_name_1_2 hn ht h.1 h.2 hW hl hky hi h1 e b
      | 2, _, hky, e, h, b => exact w_name_2_2 hn ht h.1 h.2 hW hl hky hi h1 e b
  · have b := bad (by unfold nmA; rw [if_neg h1])
    match key, hk, hky with
    | 0, _, hky => exact w_name_0_0 hn ht h.1 h.2 hW hl hky h1 b
    | 1, _, hky => exact w_name_1_0 hn ht h.1 h.2 hW hl hky h1 b
    | 2, _, hky => exact w_name_2_0 hn ht h.1 h.2 hW hl hky h1 b
set_option maxRecDepth 100000 in
set_option maxHeartbeats 4000000 in
theorem w_X3_isSign {I : Nat → Nat → Nat → Int32} {X : am_Z} {g : am_F} {gs : List am_F} {d : Nat} {Q : Option am_V → am_M → Prop} {t : Nat → Nat} {n : Nat} {tk : Tk} (hn : n ≤ 96) (ht : ∀ j, j < n → t j < 256) (hT : RdT I t n tk) (hW : Wt t n tk) {c : Int32} {b : Nat} (hc : c = nI b) (hb : b < 256) (k0 : (tk.1 = 3) → ((t (tk.2.1)) = b) → am_WP (am_psh g (some (.inl (1))) :: gs) (d + 1) (mk I X) Q) (k1 : (tk.1 = 3) → (¬ ((t (tk.2.1)) = b)) → am_WP (am_psh g (some (.inl (0))) :: gs) (d + 1) (mk I X) Q) (k2 : (¬ (tk.1 = 3)) → am_WP (am_psh g (some (.inl (0))) :: gs) (d + 1) (mk I X) Q) : am_WP (am_entry mX3_isSign [.inr (.inr (some (3, 0))), .inl (c)] :: g :: gs) (d) (mk I X) Q := by
  obtain ⟨w1, w2, w3, w4, w5, w6⟩ := id hW
  refine am_go 400 ?_
  have tk0 : I 3 0 7 = nI tk.1 := hT.2.2.1
  refine am_if (fun h1 => ?_) (fun h1 => ?_)
  · have nh1 := (eq_nat (a := tk.1) (b := 3) tk0 (rfl : (3 : Int32) = nI 3) (by omega) (by omega)).mp h1
    have tk1 : I 3 0 8 = nI tk.2.1 := hT.2.2.2.1
    refine am_f (ix_in (n := tk.2.1) (N := 96) tk1 (by omega) (by decide)) ?_
    have tk2 : ((I 3 0 8)).toNatClampNeg = tk.2.1 := by first | exact ix_cl (n := tk.2.1) tk1 (by omega) | (((try rw [tk1])); first | done | exact ix_cl (n := tk.2.1) tk1 (by omega))
    have bd : (t (tk.2.1)) ≤ 255 := (by have := ht (tk.2.1) (by omega); omega)
    have tk3 : I 23 0 ((((I 3 0 8)).toNatClampNeg)) = nI (t (tk.2.1)) := by first | exact hT.2.1 _ (by omega) | (((try rw [tk2]); (try rw [tk1])); first | done | exact hT.2.1 _ (by omega))
    refine am_if (fun h2 => ?_) (fun h2 => ?_)
    · have nh2 := (eq_nat (a := (t (tk.2.1))) (b := b) tk3 hc (by omega) (by omega)).mp h2
      exact k0 nh1 nh2
    · have nh2 := mt (eq_nat (a := (t (tk.2.1))) (b := b) tk3 hc (by omega) (by omega)).mpr h2
      exact k1 nh1 nh2
  · have nh1 := mt (eq_nat (a := tk.1) (b := 3) tk0 (rfl : (3 : Int32) = nI 3) (by omega) (by omega)).mpr h1
    exact k2 nh1
theorem c_X3_isSign {I : Im} {X d} {t : Nat → Nat} {n : Nat} {tk : Tk} (hn : n ≤ 96) (ht : ∀ j, j < n → t j < 256) (hT : RdT I t n tk) (hW : Wt t n tk) {c : Int32} {b : Nat} (hc : c = nI b) (hb : b < 256) : Rt mX3_isSign [.inr (.inr (some (3, 0))), .inl c] d (mk I X) (some (.inl (bI (tk.1 = 3 ∧ t tk.2.1 = b)))) (mk I X) := fun g gs Q K =>
  w_X3_isSign hn ht hT hW hc hb (fun a b => K_v (bI_t ⟨a, b⟩) K) (fun a b => K_v (bI_f (fun z => b z.2)) K) (fun a => K_v (bI_f (fun z => a z.1)) K)
set_option maxRecDepth 100000 in
set_option maxHeartbeats 4000000 in
theorem w_sg_0 {I : Nat → Nat → Nat → Int32} {X : am_Z} {g : am_F} {gs : List am_F} {d : Nat} {Q : Option am_V → am_M → Prop} {t : Nat → Nat} {n : Nat} {tk : Tk} (hn : n ≤ 96) (ht : ∀ j, j < n → t j < 256) (hT : RdT I t n tk) (hW : Wt t n tk) {x : Int32} {lv : Nat} (hx : x = nI lv) (hlv : lv ≤ 5) (h3 : ¬ tk.1 = 3) (k0 : am_WP (am_psh g (some (.inl ((-1)))) :: gs) (d + 5) (mk I X) Q) : am_WP (am_entry mX3_signOf [.inr (.inr (some (3, 0))), .inl (x)] :: g :: gs) (d + 4) (mk I X) Q := by
  obtain ⟨w1, w2, w3, w4, w5, w6⟩ := id hW
  refine am_go 400 ?_
  have tk0 : I 3 0 7 = nI tk.1 := hT.2.2.1
  refine am_f (mt (eq_nat (a := tk.1) (b := 3) tk0 (rfl : (3 : Int32) = nI 3) (by omega) (by omega)).mp h3) ?_
  exact k0
set_option maxRecDepth 100000 in
set_option maxHeartbeats 4000000 in
theorem w_sg_1 {I : Nat → Nat → Nat → Int32} {X : am_Z} {g : am_F} {gs : List am_F} {d : Nat} {Q : Option am_V → am_M → Prop} {t : Nat → Nat} {n : Nat} {tk : Tk} (hn : n ≤ 96) (ht : ∀ j, j < n → t j < 256) (hT : RdT I t n tk) (hW : Wt t n tk) {x : Int32} {lv : Nat} (hx : x = nI lv) (hlv : lv ≤ 5) (h3 : tk.1 = 3) (hs : sgI (t tk.2.1) = 9) (k0 : am_WP (am_psh g (some (.inl ((-1)))) :: gs) (d + 5) (mk I X) Q) : am_WP (am_entry mX3_signOf [.inr (.inr (some (3, 0))), .inl (x)] :: g :: gs) (d + 4) (mk I X) Q := by
  obtain ⟨w1, w2, w3, w4, w5, w6⟩ := id hW
  refine am_go 400 ?_
  have tk0 : I 3 0 7 = nI tk.1 := hT.2.2.1
  refine am_t ((eq_nat (a := tk.1) (b := 3) tk0 (rfl : (3 : Int32) = nI 3) (by omega) (by omega)).mpr h3) ?_
  have tk1 : I 3 0 8 = nI tk.2.1 := hT.2.2.2.1
  refine am_f (ix_in (n := tk.2.1) (N := 96) tk1 (by omega) (by decide)) ?_
  have tk2 : ((I 3 0 8)).toNatClampNeg = tk.2.1 := by first | exact ix_cl (n := tk.2.1) tk1 (by omega) | (((try rw [tk1])); first | done | exact ix_cl (n := tk.2.1) tk1 (by omega))
  have bd : (t (tk.2.1)) ≤ 255 := (by have := ht (tk.2.1) (by omega); omega)
  have tk3 : I 23 0 ((((I 3 0 8)).toNatClampNeg)) = nI (t (tk.2.1)) := by first | exact hT.2.1 _ (by omega) | (((try rw [tk2]); (try rw [tk1])); first | done | exact hT.2.1 _ (by omega))
  have tk4 : (sgJ (t (tk.2.1))) = (-1) := sgJ_n hs
  refine (c_idx_6 (b := (t (tk.2.1))) (i2cE tk3 (by omega)) (by omega)) _ _ _ ?_
  refine am_go 400 ?_
  refine am_t (by show ((sgJ (t (tk.2.1)))) < 0; (try rw [tk4]); first | done | exact (by decide)) ?_
  exact k0
set_option maxRecDepth 100000 in
set_option maxHeartbeats 4000000 in
theorem w_sg_2 {I : Nat → Nat → Nat → Int32} {X : am_Z} {g : am_F} {gs : List am_F} {d : Nat} {Q : Option am_V → am_M → Prop} {t : Nat → Nat} {n : Nat} {tk : Tk} (hn : n ≤ 96) (ht : ∀ j, j < n → t j < 256) (hT : RdT I t n tk) (hW : Wt t n tk) {x : Int32} {lv : Nat} (hx : x = nI lv) (hlv : lv ≤ 5) (h3 : tk.1 = 3) {i : Nat} (hi : i < 9) (hs : sgI (t tk.2.1) = i) (k0 : ((lvI i) = lv) → am_WP (am_psh g (some (.inl ((nI i)))) :: gs) (d + 5) (mk I X) Q) (k1 : (¬ ((lvI i) = lv)) → am_WP (am_psh g (some (.inl ((-1)))) :: gs) (d + 5) (mk I X) Q) : am_WP (am_entry mX3_signOf [.inr (.inr (some (3, 0))), .inl (x)] :: g :: gs) (d + 4) (mk I X) Q := by
  obtain ⟨w1, w2, w3, w4, w5, w6⟩ := id hW
  have hlI := lvI_le i
  refine am_go 400 ?_
  have tk0 : I 3 0 7 = nI tk.1 := hT.2.2.1
  refine am_t ((eq_nat (a := tk.1) (b := 3) tk0 (rfl : (3 : Int32) = nI 3) (by omega) (by omega)).mpr h3) ?_
  have tk1 : I 3 0 8 = nI tk.2.1 := hT.2.2.2.1
  refine am_f (ix_in (n := tk.2.1) (N := 96) tk1 (by omega) (by decide)) ?_
  have tk2 : ((I 3 0 8)).toNatClampNeg = tk.2.1 := by first | exact ix_cl (n := tk.2.1) tk1 (by omega) | (((try rw [tk1])); first | done | exact ix_cl (n := tk.2.1) tk1 (by omega))
  have bd : (t (tk.2.1)) ≤ 255 := (by have := ht (tk.2.1) (by omega); omega)
  have tk3 : I 23 0 ((((I 3 0 8)).toNatClampNeg)) = nI (t (tk.2.1)) := by first | exact hT.2.1 _ (by omega) | (((try rw [tk2]); (try rw [tk1])); first | done | exact hT.2.1 _ (by omega))
  have tk4 : (sgJ (t (tk.2.1))) = nI i := sgJ_s hs hi
  refine (c_idx_6 (b := (t (tk.2.1))) (i2cE tk3 (by omega)) (by omega)) _ _ _ ?_
  refine am_go 400 ?_
  refine am_f (mt (lt_nat (a := i) (b := 0) tk4 (rfl : (0 : Int32) = nI 0) (by omega) (by omega)).mp (by omega)) ?_
  refine am_f (ix_in (n := i) (N := 9) tk4 (by omega) (by decide)) ?_
  have tk5 : (((sgJ (t (tk.2.1))))).toNatClampNeg = i := by first | exact ix_cl (n := i) tk4 (by omega) | (((try rw [tk4])); first | done | exact ix_cl (n := i) tk4 (by omega))
  refine am_if (fun h1 => ?_) (fun h1 => ?_)
  · have nh1 := (eq_nat (a := (lvI i)) (b := lv) (show (am_c98.getD (((((sgJ (t (tk.2.1))))).toNatClampNeg)) 0) = nI (lvI i) by (try rw [tk5]); (try rw [tk4]); exact (c98_lv (by omega))) hx (by omega) (by omega)).mp h1
    show am_WP (am_psh g (some (.inl (((sgJ (t (tk.2.1))))))) :: gs) (d + 5) (mk I X) Q
    try rw [tk4]
    exact k0 nh1
  · have nh1 := mt (eq_nat (a := (lvI i)) (b := lv) (show (am_c98.getD (((((sgJ (t (tk.2.1))))).toNatClampNeg)) 0) = nI (lvI i) by (try rw [tk5]); (try rw [tk4]); exact (c98_lv (by omega))) hx (by omega) (by omega)).mpr h1
    exact k1 nh1
def sgV : Option Nat → Int32
  | none => -1
  | some i => nI i
theorem c_X3_signOf {I : Im} {X d} {t : Nat → Nat} {n : Nat} {tk : Tk} (hn : n ≤ 96) (ht : ∀ j, j < n → t j < 256) (hT : RdT I t n tk) (hW : Wt t n tk) {x : Int32} {lv : Nat} (hx : x = nI lv) (hlv : lv ≤ 4) : Rt mX3_signOf [.inr (.inr (some (3, 0))), .inl x] (d + 4) (mk I X) (some (.inl (sgV (sgA t lv tk)))) (mk I X) := fun g gs Q K => by
  by_cases h3 : tk.1 = 3
  · by_cases h9 : sgI (t tk.2.1) = 9
    · refine w_sg_1 hn ht hT hW hx (by omega) h3 h9 (K_v ?_ K)
      unfold sgA
      rw [if_neg (fun z => by rw [h9] at z; have q := z.2; rw [show lvI 9 = 9 from rfl] at q; omega)]
      rfl
    · have hle := sgI_le (t tk.2.1)
      refine w_sg_2 hn ht hT hW hx (by omega) h3 (i := sgI (t tk.2.1)) (by omega) rfl (fun z => K_v ?_ K) (fun z => K_v ?_ K)
      · unfold sgA; rw [if_pos ⟨h3, z⟩]; rfl
      · unfold sgA; rw [if_neg (fun y => z y.2)]; rfl
  · refine w_sg_0 hn ht hT hW hx (by omega) h3 (K_v ?_ K)
    unfold sgA
    rw [if_neg (fun z => h3 z.1)]
    rfl
theorem c_sg_n {I : Im} {X d} {t : Nat → Nat} {n : Nat} {tk : Tk} (hn : n ≤ 96) (ht : ∀ j, j < n → t j < 256) (hT : RdT I t n tk) (hW : Wt t n tk) {x : Int32} {lv : Nat} (hx : x = nI lv) (hlv : lv ≤ 4) (h : sgA t lv tk = none) : Rt mX3_signOf [.inr (.inr (some (3, 0))), .inl x] (d + 4) (mk I X) (some (.inl (-1))) (mk I X) := fun g gs Q K => c_X3_signOf hn ht hT hW hx hlv g gs Q (by rw [h]; exact K)
theorem c_sg_s {I : Im} {X d} {t : Nat → Nat} {n : Nat} {tk : Tk} (hn : n ≤ 96) (ht : ∀ j, j < n → t j < 256) (hT : RdT I t n tk) (hW : Wt t n tk) {x : Int32} {lv i : Nat} (hx : x = nI lv) (hlv : lv ≤ 4) (h : sgA t lv tk = some i) : Rt mX3_signOf [.inr (.inr (some (3, 0))), .inl x] (d + 4) (mk I X) (some (.inl (nI i))) (mk I X) := fun g gs Q K => c_X3_signOf hn ht hT hW hx hlv g gs Q (by rw [h]; exact K)
abbrev kwH (t : Nat → Nat) (tk : Tk) : Prop := tk.1 = 1 ∧ tk.2.2 - tk.2.1 = 4 ∧ t tk.2.1 = 104 ∧ t (tk.2.1 + 1) = 97 ∧ t (tk.2.1 + 2) = 114 ∧ t (tk.2.1 + 3) = 100
set_option maxRecDepth 100000 in
set_option maxHeartbeats 4000000 in
theorem w_word_0 {I : Nat → Nat → Nat → Int32} {X : am_Z} {g : am_F} {gs : List am_F} {d : Nat} {Q : Option am_V → am_M → Prop} {t : Nat → Nat} {n : Nat} {tk : Tk} (hn : n ≤ 96) (ht : ∀ j, j < n → t j < 256) (hT : RdT I t n tk) (hW : Wt t n tk)  (k0 : (tk.1 = 1) → ((tk.2.2 - tk.2.1) = 4) → ((t (tk.2.1 + 0)) = 104) → ((t (tk.2.1 + 1)) = 97) → ((t (tk.2.1 + 2)) = 114) → ((t (tk.2.1 + 3)) = 100) → am_WP (am_psh g (some (.inl (1))) :: gs) (d + 5) (mk I X) Q) (k1 : (tk.1 = 1) → ((tk.2.2 - tk.2.1) = 4) → ((t (tk.2.1 + 0)) = 104) → ((t (tk.2.1 + 1)) = 97) → ((t (tk.2.1 + 2)) = 114) → (¬ ((t (tk.2.1 + 3)) = 100)) → am_WP (am_psh g (some (.inl (0))) :: gs) (d + 5) (mk I X) Q) (k2 : (tk.1 = 1) → ((tk.2.2 - tk.2.1) = 4) → ((t (tk.2.1 + 0)) = 104) → ((t (tk.2.1 + 1)) = 97) → (¬ ((t (tk.2.1 + 2)) = 114)) → am_WP (am_psh g (some (.inl (0))) :: gs) (d + 5) (mk I X) Q) (k3 : (tk.1 = 1) → ((tk.2.2 - tk.2.1) = 4) → ((t (tk.2.1 + 0)) = 104) → (¬ ((t (tk.2.1 + 1)) = 97)) → am_WP (am_psh g (some (.inl (0))) :: gs) (d + 5) (mk I X) Q) (k4 : (tk.1 = 1) → ((tk.2.2 - tk.2.1) = 4) → (¬ ((t (tk.2.1 + 0)) = 104)) → am_WP (am_psh g (some (.inl (0))) :: gs) (d + 5) (mk I X) Q) (k5 : (tk.1 = 1) → (¬ ((tk.2.2 - tk.2.1) = 4)) → am_WP (am_psh g (some (.inl (0))) :: gs) (d + 5) (mk I X) Q) (k6 : (¬ (tk.1 = 1)) → am_WP (am_psh g (some (.inl (0))) :: gs) (d + 5) (mk I X) Q) : am_WP (am_entry mX3_isWord [.inr (.inr (some (3, 0))), .inr (.inr (some (100, 0)))] :: g :: gs) (d + 4) (mk I X) Q := by
  obtain ⟨w1, w2, w3, w4, w5, w6⟩ := id hW
  refine am_go 400 ?_
  have tk0 : I 3 0 7 = nI tk.1 := hT.2.2.1
  refine am_if (fun h1 => ?_) (fun h1 => ?_)
  · have nh1 := (eq_nat (a := tk.1) (b := 1) tk0 (rfl : (1 : Int32) = nI 1) (by omega) (by omega)).mp h1
    have tk1 : I 3 0 9 = nI tk.2.2 := hT.2.2.2.2
    have tk2 : I 3 0 8 = nI tk.2.1 := hT.2.2.2.1
    refine (c_len_0) _ _ _ ?_
    refine am_go 400 ?_
    refine am_if (fun h2 => ?_) (fun h2 => ?_)
    · have nh2 := (eq_nat (a := (tk.2.2 - tk.2.1)) (b := 4) (nI_subE tk1 tk2 (by omega)) (rfl : (4 : Int32) = nI 4) (by omega) (by omega)).mp h2
      refine (c_len_0) _ _ _ ?_
      refine am_go 400 ?_
      refine am_f (ix_in (n := (tk.2.1 + 0)) (N := 96) (nI_addE tk2 (rfl : (0 : Int32) = nI 0)) (by omega) (by decide)) ?_
      have tk3 : (((I 3 0 8) + 0)).toNatClampNeg = (tk.2.1 + 0) := by first | exact ix_cl (n := (tk.2.1 + 0)) (nI_addE tk2 (rfl : (0 : Int32) = nI 0)) (by omega) | (((try rw [tk2])); first | done | exact ix_cl (n := (tk.2.1 + 0)) (nI_addE tk2 (rfl : (0 : Int32) = nI 0)) (by omega))
      have bd : (t (tk.2.1 + 0)) ≤ 255 := (by have := ht (tk.2.1 + 0) (by omega); omega)
      have tk4 : I 23 0 (((((I 3 0 8) + 0)).toNatClampNeg)) = nI (t (tk.2.1 + 0)) := by first | exact hT.2.1 _ (by omega) | (((try rw [tk3]); (try rw [tk2])); first | done | exact hT.2.1 _ (by omega))
      refine (c_chr_0_0) _ _ _ ?_
      refine am_go 400 ?_
      refine am_if (fun h3 => ?_) (fun h3 => ?_)
      · have nh3 := (eq_nat (a := (t (tk.2.1 + 0))) (b := 104) tk4 (rfl : (104 : Int32) = nI 104) (by omega) (by omega)).mp h3
        refine am_go 400 ?_
        refine (c_len_0) _ _ _ ?_
        refine am_go 400 ?_
        refine am_f (ix_in (n := (tk.2.1 + 1)) (N := 96) (nI_addE tk2 (rfl : (1 : Int32) = nI 1)) (by omega) (by decide)) ?_
        have tk5 : (((I 3 0 8) + 1)).toNatClampNeg = (tk.2.1 + 1) := by first | exact ix_cl (n := (tk.2.1 + 1)) (nI_addE tk2 (rfl : (1 : Int32) = nI 1)) (by omega) | (((try rw [tk2])); first | done | exact ix_cl (n := (tk.2.1 + 1)) (nI_addE tk2 (rfl : (1 : Int32) = nI 1)) (by omega))
        have bd : (t (tk.2.1 + 1)) ≤ 255 := (by have := ht (tk.2.1 + 1) (by omega); omega)
        have tk6 : I 23 0 (((((I 3 0 8) + 1)).toNatClampNeg)) = nI (t (tk.2.1 + 1)) := by first | exact hT.2.1 _ (by omega) | (((try rw [tk5]); (try rw [tk2])); first | done | exact hT.2.1 _ (by omega))
        refine (c_chr_0_1) _ _ _ ?_
        refine am_go 400 ?_
        refine am_if (fun h4 => ?_) (fun h4 => ?_)
        · have nh4 := (eq_nat (a := (t (tk.2.1 + 1))) (b := 97) tk6 (rfl : (97 : Int32) = nI 97) (by omega) (by omega)).mp h4
          refine am_go 400 ?_
          refine (c_len_0) _ _ _ ?_
          refine am_go 400 ?_
          refine am_f (ix_in (n := (tk.2.1 + 2)) (N := 96) (nI_addE tk2 (rfl : (2 : Int32) = nI 2)) (by omega) (by decide)) ?_
          have tk7 : (((I 3 0 8) + 2)).toNatClampNeg = (tk.2.1 + 2) := by first | exact ix_cl (n := (tk.2.1 + 2)) (nI_addE tk2 (rfl : (2 : Int32) = nI 2)) (by omega) | (((try rw [tk2])); first | done | exact ix_cl (n := (tk.2.1 + 2)) (nI_addE tk2 (rfl : (2 : Int32) = nI 2)) (by omega))
          have bd : (t (tk.2.1 + 2)) ≤ 255 := (by have := ht (tk.2.1 + 2) (by omega); omega)
          have tk8 : I 23 0 (((((I 3 0 8) + 2)).toNatClampNeg)) = nI (t (tk.2.1 + 2)) := by first | exact hT.2.1 _ (by omega) | (((try rw [tk7]); (try rw [tk2])); first | done | exact hT.2.1 _ (by omega))
          refine (c_chr_0_2) _ _ _ ?_
          refine am_go 400 ?_
          refine am_if (fun h5 => ?_) (fun h5 => ?_)
          · have nh5 := (eq_nat (a := (t (tk.2.1 + 2))) (b := 114) tk8 (rfl : (114 : Int32) = nI 114) (by omega) (by omega)).mp h5
            refine am_go 400 ?_
            refine (c_len_0) _ _ _ ?_
            refine am_go 400 ?_
            refine am_f (ix_in (n := (tk.2.1 + 3)) (N := 96) (nI_addE tk2 (rfl : (3 : Int32) = nI 3)) (by omega) (by decide)) ?_
            have tk9 : (((I 3 0 8) + 3)).toNatClampNeg = (tk.2.1 + 3) := by first | exact ix_cl (n := (tk.2.1 + 3)) (nI_addE tk2 (rfl : (3 : Int32) = nI 3)) (by omega) | (((try rw [tk2])); first | done | exact ix_cl (n := (tk.2.1 + 3)) (nI_addE tk2 (rfl : (3 : Int32) = nI 3)) (by omega))
            have bd : (t (tk.2.1 + 3)) ≤ 255 := (by have := ht (tk.2.1 + 3) (by omega); omega)
            have tk10 : I 23 0 (((((I 3 0 8) + 3)).toNatClampNeg)) = nI (t (tk.2.1 + 3)) := by first | exact hT.2.1 _ (by omega) | (((try rw [tk9]); (try rw [tk2])); first | done | exact hT.2.1 _ (by omega))
            refine (c_chr_0_3) _ _ _ ?_
            refine am_go 400 ?_
            refine am_if (fun h6 => ?_) (fun h6 => ?_)
            · have nh6 := (eq_nat (a := (t (tk.2.1 + 3))) (b := 100) tk10 (rfl : (100 : Int32) = nI 100) (by omega) (by omega)).mp h6
              refine am_go 400 ?_
              refine (c_len_0) _ _ _ ?_
              refine am_go 400 ?_
              exact k0 nh1 nh2 nh3 nh4 nh5 nh6
            · have nh6 := mt (eq_nat (a := (t (tk.2.1 + 3))) (b := 100) tk10 (rfl : (100 : Int32) = nI 100) (by omega) (by omega)).mpr h6
              exact k1 nh1 nh2 nh3 nh4 nh5 nh6
          · have nh5 := mt (eq_nat (a := (t (tk.2.1 + 2))) (b := 114) tk8 (rfl : (114 : Int32) = nI 114) (by omega) (by omega)).mpr h5
            exact k2 nh1 nh2 nh3 nh4 nh5
        · have nh4 := mt (eq_nat (a := (t (tk.2.1 + 1))) (b := 97) tk6 (rfl : (97 : Int32) = nI 97) (by omega) (by omega)).mpr h4
          exact k3 nh1 nh2 nh3 nh4
      · have nh3 := mt (eq_nat (a := (t (tk.2.1 + 0))) (b := 104) tk4 (rfl : (104 : Int32) = nI 104) (by omega) (by omega)).mpr h3
        exact k4 nh1 nh2 nh3
    · have nh2 := mt (eq_nat (a := (tk.2.2 - tk.2.1)) (b := 4) (nI_subE tk1 tk2 (by omega)) (rfl : (4 : Int32) = nI 4) (by omega) (by omega)).mpr h2
      exact k5 nh1 nh2
  · have nh1 := mt (eq_nat (a := tk.1) (b := 1) tk0 (rfl : (1 : Int32) = nI 1) (by omega) (by omega)).mpr h1
    exact k6 nh1
theorem c_word_0 {I : Im} {X d} {t : Nat → Nat} {n : Nat} {tk : Tk} (hn : n ≤ 96) (ht : ∀ j, j < n → t j < 256) (hT : RdT I t n tk) (hW : Wt t n tk) : Rt mX3_isWord [.inr (.inr (some (3, 0))), .inr (.inr (some (100, 0)))] (d + 4) (mk I X) (some (.inl (bI (kwH t tk)))) (mk I X) := fun g gs Q K =>
  w_word_0 hn ht hT hW (fun h0 h1 h2 h3 h4 h5 => K_v (bI_t ⟨h0, h1, h2, h3, h4, h5⟩) K) (fun h0 h1 h2 h3 h4 h5 => K_v (bI_f (fun z => h5 (z.2.2.2.2.2))) K) (fun h0 h1 h2 h3 h4 => K_v (bI_f (fun z => h4 (z.2.2.2.2.1))) K) (fun h0 h1 h2 h3 => K_v (bI_f (fun z => h3 (z.2.2.2.1))) K) (fun h0 h1 h2 => K_v (bI_f (fun z => h2 (z.2.2.1))) K) (fun h0 h1 => K_v (bI_f (fun z => h1 (z.2.1))) K) (fun h0 => K_v (bI_f (fun z => h0 (z.1))) K)
abbrev kwF (t : Nat → Nat) (tk : Tk) : Prop := tk.1 = 1 ∧ tk.2.2 - tk.2.1 = 3 ∧ t tk.2.1 = 102 ∧ t (tk.2.1 + 1) = 101 ∧ t (tk.2.1 + 2) = 101
set_option maxRecDepth 100000 in
set_option maxHeartbeats 4000000 in
theorem w_word_1 {I : Nat → Nat → Nat → Int32} {X : am_Z} {g : am_F} {gs : List am_F} {d : Nat} {Q : Option am_V → am_M → Prop} {t : Nat → Nat} {n : Nat} {tk : Tk} (hn : n ≤ 96) (ht : ∀ j, j < n → t j < 256) (hT : RdT I t n tk) (hW : Wt t n tk)  (k0 : (tk.1 = 1) → ((tk.2.2 - tk.2.1) = 3) → ((t (tk.2.1 + 0)) = 102) → ((t (tk.2.1 + 1)) = 101) → ((t (tk.2.1 + 2)) = 101) → am_WP (am_psh g (some (.inl (1))) :: gs) (d + 5) (mk I X) Q) (k1 : (tk.1 = 1) → ((tk.2.2 - tk.2.1) = 3) → ((t (tk.2.1 + 0)) = 102) → ((t (tk.2.1 + 1)) = 101) → (¬ ((t (tk.2.1 + 2)) = 101)) → am_WP (am_psh g (some (.inl (0))) :: gs) (d + 5) (mk I X) Q) (k2 : (tk.1 = 1) → ((tk.2.2 - tk.2.1) = 3) → ((t (tk.2.1 + 0)) = 102) → (¬ ((t (tk.2.1 + 1)) = 101)) → am_WP (am_psh g (some (.inl (0))) :: gs) (d + 5) (mk I X) Q) (k3 : (tk.1 = 1) → ((tk.2.2 - tk.2.1) = 3) → (¬ ((t (tk.2.1 + 0)) = 102)) → am_WP (am_psh g (some (.inl (0))) :: gs) (d + 5) (mk I X) Q) (k4 : (tk.1 = 1) → (¬ ((tk.2.2 - tk.2.1) = 3)) → am_WP (am_psh g (some (.inl (0))) :: gs) (d + 5) (mk I X) Q) (k5 : (¬ (tk.1 = 1)) → am_WP (am_psh g (some (.inl (0))) :: gs) (d + 5) (mk I X) Q) : am_WP (am_entry mX3_isWord [.inr (.inr (some (3, 0))), .inr (.inr (some (100, 1)))] :: g :: gs) (d + 4) (mk I X) Q := by
  obtain ⟨w1, w2, w3, w4, w5, w6⟩ := id hW
  refine am_go 400 ?_
  have tk0 : I 3 0 7 = nI tk.1 := hT.2.2.1
  refine am_if (fun h1 => ?_) (fun h1 => ?_)
  · have nh1 := (eq_nat (a := tk.1) (b := 1) tk0 (rfl : (1 : Int32) = nI 1) (by omega) (by omega)).mp h1
    have tk1 : I 3 0 9 = nI tk.2.2 := hT.2.2.2.2
    have tk2 : I 3 0 8 = nI tk.2.1 := hT.2.2.2.1
    refine (c_len_1) _ _ _ ?_
    refine am_go 400 ?_
    refine am_if (fun h2 => ?_) (fun h2 => ?_)
    · have nh2 := (eq_nat (a := (tk.2.2 - tk.2.1)) (b := 3) (nI_subE tk1 tk2 (by omega)) (rfl : (3 : Int32) = nI 3) (by omega) (by omega)).mp h2
      refine (c_len_1) _ _ _ ?_
      refine am_go 400 ?_
      refine am_f (ix_in (n := (tk.2.1 + 0)) (N := 96) (nI_addE tk2 (rfl : (0 : Int32) = nI 0)) (by omega) (by decide)) ?_
      have tk3 : (((I 3 0 8) + 0)).toNatClampNeg = (tk.2.1 + 0) := by first | exact ix_cl (n := (tk.2.1 + 0)) (nI_addE tk2 (rfl : (0 : Int32) = nI 0)) (by omega) | (((try rw [tk2])); first | done | exact ix_cl (n := (tk.2.1 + 0)) (nI_addE tk2 (rfl : (0 : Int32) = nI 0)) (by omega))
      have bd : (t (tk.2.1 + 0)) ≤ 255 := (by have := ht (tk.2.1 + 0) (by omega); omega)
      have tk4 : I 23 0 (((((I 3 0 8) + 0)).toNatClampNeg)) = nI (t (tk.2.1 + 0)) := by first | exact hT.2.1 _ (by omega) | (((try rw [tk3]); (try rw [tk2])); first | done | exact hT.2.1 _ (by omega))
      refine (c_chr_1_0) _ _ _ ?_
      refine am_go 400 ?_
      refine am_if (fun h3 => ?_) (fun h3 => ?_)
      · have nh3 := (eq_nat (a := (t (tk.2.1 + 0))) (b := 102) tk4 (rfl : (102 : Int32) = nI 102) (by omega) (by omega)).mp h3
        refine am_go 400 ?_
        refine (c_len_1) _ _ _ ?_
        refine am_go 400 ?_
        refine am_f (ix_in (n := (tk.2.1 + 1)) (N := 96) (nI_addE tk2 (rfl : (1 : Int32) = nI 1)) (by omega) (by decide)) ?_
        have tk5 : (((I 3 0 8) + 1)).toNatClampNeg = (tk.2.1 + 1) := by first | exact ix_cl (n := (tk.2.1 + 1)) (nI_addE tk2 (rfl : (1 : Int32) = nI 1)) (by omega) | (((try rw [tk2])); first | done | exact ix_cl (n := (tk.2.1 + 1)) (nI_addE tk2 (rfl : (1 : Int32) = nI 1)) (by omega))
        have bd : (t (tk.2.1 + 1)) ≤ 255 := (by have := ht (tk.2.1 + 1) (by omega); omega)
        have tk6 : I 23 0 (((((I 3 0 8) + 1)).toNatClampNeg)) = nI (t (tk.2.1 + 1)) := by first | exact hT.2.1 _ (by omega) | (((try rw [tk5]); (try rw [tk2])); first | done | exact hT.2.1 _ (by omega))
        refine (c_chr_1_1) _ _ _ ?_
        refine am_go 400 ?_
        refine am_if (fun h4 => ?_) (fun h4 => ?_)
        · have nh4 := (eq_nat (a := (t (tk.2.1 + 1))) (b := 101) tk6 (rfl : (101 : Int32) = nI 101) (by omega) (by omega)).mp h4
          refine am_go 400 ?_
          refine (c_len_1) _ _ _ ?_
          refine am_go 400 ?_
          refine am_f (ix_in (n := (tk.2.1 + 2)) (N := 96) (nI_addE tk2 (rfl : (2 : Int32) = nI 2)) (by omega) (by decide)) ?_
          have tk7 : (((I 3 0 8) + 2)).toNatClampNeg = (tk.2.1 + 2) := by first | exact ix_cl (n := (tk.2.1 + 2)) (nI_addE tk2 (rfl : (2 : Int32) = nI 2)) (by omega) | (((try rw [tk2])); first | done | exact ix_cl (n := (tk.2.1 + 2)) (nI_addE tk2 (rfl : (2 : Int32) = nI 2)) (by omega))
          have bd : (t (tk.2.1 + 2)) ≤ 255 := (by have := ht (tk.2.1 + 2) (by omega); omega)
          have tk8 : I 23 0 (((((I 3 0 8) + 2)).toNatClampNeg)) = nI (t (tk.2.1 + 2)) := by first | exact hT.2.1 _ (by omega) | (((try rw [tk7]); (try rw [tk2])); first | done | exact hT.2.1 _ (by omega))
          refine (c_chr_1_2) _ _ _ ?_
          refine am_go 400 ?_
          refine am_if (fun h5 => ?_) (fun h5 => ?_)
          · have nh5 := (eq_nat (a := (t (tk.2.1 + 2))) (b := 101) tk8 (rfl : (101 : Int32) = nI 101) (by omega) (by omega)).mp h5
            refine am_go 400 ?_
            refine (c_len_1) _ _ _ ?_
            refine am_go 400 ?_
            exact k0 nh1 nh2 nh3 nh4 nh5
          · have nh5 := mt (eq_nat (a := (t (tk.2.1 + 2))) (b := 101) tk8 (rfl : (101 : Int32) = nI 101) (by omega) (by omega)).mpr h5
            exact k1 nh1 nh2 nh3 nh4 nh5
        · have nh4 := mt (eq_nat (a := (t (tk.2.1 + 1))) (b := 101) tk6 (rfl : (101 : Int32) = nI 101) (by omega) (by omega)).mpr h4
          exact k2 nh1 nh2 nh3 nh4
      · have nh3 := mt (eq_nat (a := (t (tk.2.1 + 0))) (b := 102) tk4 (rfl : (102 : Int32) = nI 102) (by omega) (by omega)).mpr h3
        exact k3 nh1 nh2 nh3
    · have nh2 := mt (eq_nat (a := (tk.2.2 - tk.2.1)) (b := 3) (nI_subE tk1 tk2 (by omega)) (rfl : (3 : Int32) = nI 3) (by omega) (by omega)).mpr h2
      exact k4 nh1 nh2
  · have nh1 := mt (eq_nat (a := tk.1) (b := 1) tk0 (rfl : (1 : Int32) = nI 1) (by omega) (by omega)).mpr h1
    exact k5 nh1
theorem c_word_1 {I : Im} {X d} {t : Nat → Nat} {n : Nat} {tk : Tk} (hn : n ≤ 96) (ht : ∀ j, j < n → t j < 256) (hT : RdT I t n tk) (hW : Wt t n tk) : Rt mX3_isWord [.inr (.inr (some (3, 0))), .inr (.inr (some (100, 1)))] (d + 4) (mk I X) (some (.inl (bI (kwF t tk)))) (mk I X) := fun g gs Q K =>
  w_word_1 hn ht hT hW (fun h0 h1 h2 h3 h4 => K_v (bI_t ⟨h0, h1, h2, h3, h4⟩) K) (fun h0 h1 h2 h3 h4 => K_v (bI_f (fun z => h4 (z.2.2.2.2))) K) (fun h0 h1 h2 h3 => K_v (bI_f (fun z => h3 (z.2.2.2.1))) K) (fun h0 h1 h2 => K_v (bI_f (fun z => h2 (z.2.2.1))) K) (fun h0 h1 => K_v (bI_f (fun z => h1 (z.2.1))) K) (fun h0 => K_v (bI_f (fun z => h0 (z.1))) K)
abbrev kwN (t : Nat → Nat) (tk : Tk) : Prop := tk.1 = 1 ∧ tk.2.2 - tk.2.1 = 4 ∧ t tk.2.1 = 102 ∧ t (tk.2.1 + 1) = 105 ∧ t (tk.2.1 + 2) = 110 ∧ t (tk.2.1 + 3) = 101
set_option maxRecDepth 100000 in
set_option maxHeartbeats 4000000 in
theorem w_word_2 {I : Nat → Nat → Nat → Int32} {X : am_Z} {g : am_F} {gs : List am_F} {d : Nat} {Q : Option am_V → am_M → Prop} {t : Nat → Nat} {n : Nat} {tk : Tk} (hn : n ≤ 96) (ht : ∀ j, j < n → t j < 256) (hT : RdT I t n tk) (hW : Wt t n tk)  (k0 : (tk.1 = 1) → ((tk.2.2 - tk.2.1) = 4) → ((t (tk.2.1 + 0)) = 102) → ((t (tk.2.1 + 1)) = 105) → ((t (tk.2.1 + 2)) = 110) → ((t (tk.2.1 + 3)) = 101) → am_WP (am_psh g (some (.inl (1))) :: gs) (d + 5) (mk I X) Q) (k1 : (tk.1 = 1) → ((tk.2.2 - tk.2.1) = 4) → ((t (tk.2.1 + 0)) = 102) → ((t (tk.2.1 + 1)) = 105) → ((t (tk.2.1 + 2)) = 110) → (¬ ((t (tk.2.1 + 3)) = 101)) → am_WP (am_psh g (some (.inl (0))) :: gs) (d + 5) (mk I X) Q) (k2 : (tk.1 = 1) → ((tk.2.2 - tk.2.1) = 4) → ((t (tk.2.1 + 0)) = 102) → ((t (tk.2.1 + 1)) = 105) → (¬ ((t (tk.2.1 + 2)) = 110)) → am_WP (am_psh g (some (.inl (0))) :: gs) (d + 5) (mk I X) Q) (k3 : (tk.1 = 1) → ((tk.2.2 - tk.2.1) = 4) → ((t (tk.2.1 + 0)) = 102) → (¬ ((t (tk.2.1 + 1)) = 105)) → am_WP (am_psh g (some (.inl (0))) :: gs) (d + 5) (mk I X) Q) (k4 : (tk.1 = 1) → ((tk.2.2 - tk.2.1) = 4) → (¬ ((t (tk.2.1 + 0)) = 102)) → am_WP (am_psh g (some (.inl (0))) :: gs) (d + 5) (mk I X) Q) (k5 : (tk.1 = 1) → (¬ ((tk.2.2 - tk.2.1) = 4)) → am_WP (am_psh g (some (.inl (0))) :: gs) (d + 5) (mk I X) Q) (k6 : (¬ (tk.1 = 1)) → am_WP (am_psh g (some (.inl (0))) :: gs) (d + 5) (mk I X) Q) : am_WP (am_entry mX3_isWord [.inr (.inr (some (3, 0))), .inr (.inr (some (100, 2)))] :: g :: gs) (d + 4) (mk I X) Q := by
  obtain ⟨w1, w2, w3, w4, w5, w6⟩ := id hW
  refine am_go 400 ?_
  have tk0 : I 3 0 7 = nI tk.1 := hT.2.2.1
  refine am_if (fun h1 => ?_) (fun h1 => ?_)
  · have nh1 := (eq_nat (a := tk.1) (b := 1) tk0 (rfl : (1 : Int32) = nI 1) (by omega) (by omega)).mp h1
    have tk1 : I 3 0 9 = nI tk.2.2 := hT.2.2.2.2
    have tk2 : I 3 0 8 = nI tk.2.1 := hT.2.2.2.1
    refine (c_len_2) _ _ _ ?_
    refine am_go 400 ?_
    refine am_if (fun h2 => ?_) (fun h2 => ?_)
    · have nh2 := (eq_nat (a := (tk.2.2 - tk.2.1)) (b := 4) (nI_subE tk1 tk2 (by omega)) (rfl : (4 : Int32) = nI 4) (by omega) (by omega)).mp h2
      refine (c_len_2) _ _ _ ?_
      refine am_go 400 ?_
      refine am_f (ix_in (n := (tk.2.1 + 0)) (N := 96) (nI_addE tk2 (rfl : (0 : Int32) = nI 0)) (by omega) (by decide)) ?_
      have tk3 : (((I 3 0 8) + 0)).toNatClampNeg = (tk.2.1 + 0) := by first | exact ix_cl (n := (tk.2.1 + 0)) (nI_addE tk2 (rfl : (0 : Int32) = nI 0)) (by omega) | (((try rw [tk2])); first | done | exact ix_cl (n := (tk.2.1 + 0)) (nI_addE tk2 (rfl : (0 : Int32) = nI 0)) (by omega))
      have bd : (t (tk.2.1 + 0)) ≤ 255 := (by have := ht (tk.2.1 + 0) (by omega); omega)
      have tk4 : I 23 0 (((((I 3 0 8) + 0)).toNatClampNeg)) = nI (t (tk.2.1 + 0)) := by first | exact hT.2.1 _ (by omega) | (((try rw [tk3]); (try rw [tk2])); first | done | exact hT.2.1 _ (by omega))
      refine (c_chr_2_0) _ _ _ ?_
      refine am_go 400 ?_
      refine am_if (fun h3 => ?_) (fun h3 => ?_)
      · have nh3 := (eq_nat (a := (t (tk.2.1 + 0))) (b := 102) tk4 (rfl : (102 : Int32) = nI 102) (by omega) (by omega)).mp h3
        refine am_go 400 ?_
        refine (c_len_2) _ _ _ ?_
        refine am_go 400 ?_
        refine am_f (ix_in (n := (tk.2.1 + 1)) (N := 96) (nI_addE tk2 (rfl : (1 : Int32) = nI 1)) (by omega) (by decide)) ?_
        have tk5 : (((I 3 0 8) + 1)).toNatClampNeg = (tk.2.1 + 1) := by first | exact ix_cl (n := (tk.2.1 + 1)) (nI_addE tk2 (rfl : (1 : Int32) = nI 1)) (by omega) | (((try rw [tk2])); first | done | exact ix_cl (n := (tk.2.1 + 1)) (nI_addE tk2 (rfl : (1 : Int32) = nI 1)) (by omega))
        have bd : (t (tk.2.1 + 1)) ≤ 255 := (by have := ht (tk.2.1 + 1) (by omega); omega)
        have tk6 : I 23 0 (((((I 3 0 8) + 1)).toNatClampNeg)) = nI (t (tk.2.1 + 1)) := by first | exact hT.2.1 _ (by omega) | (((try rw [tk5]); (try rw [tk2])); first | done | exact hT.2.1 _ (by omega))
        refine (c_chr_2_1) _ _ _ ?_
        refine am_go 400 ?_
        refine am_if (fun h4 => ?_) (fun h4 => ?_)
        · have nh4 := (eq_nat (a := (t (tk.2.1 + 1))) (b := 105) tk6 (rfl : (105 : Int32) = nI 105) (by omega) (by omega)).mp h4
          refine am_go 400 ?_
          refine (c_len_2) _ _ _ ?_
          refine am_go 400 ?_
          refine am_f (ix_in (n := (tk.2.1 + 2)) (N := 96) (nI_addE tk2 (rfl : (2 : Int32) = nI 2)) (by omega) (by decide)) ?_
          have tk7 : (((I 3 0 8) + 2)).toNatClampNeg = (tk.2.1 + 2) := by first | exact ix_cl (n := (tk.2.1 + 2)) (nI_addE tk2 (rfl : (2 : Int32) = nI 2)) (by omega) | (((try rw [tk2])); first | done | exact ix_cl (n := (tk.2.1 + 2)) (nI_addE tk2 (rfl : (2 : Int32) = nI 2)) (by omega))
          have bd : (t (tk.2.1 + 2)) ≤ 255 := (by have := ht (tk.2.1 + 2) (by omega); omega)
          have tk8 : I 23 0 (((((I 3 0 8) + 2)).toNatClampNeg)) = nI (t (tk.2.1 + 2)) := by first | exact hT.2.1 _ (by omega) | (((try rw [tk7]); (try rw [tk2])); first | done | exact hT.2.1 _ (by omega))
          refine (c_chr_2_2) _ _ _ ?_
          refine am_go 400 ?_
          refine am_if (fun h5 => ?_) (fun h5 => ?_)
          · have nh5 := (eq_nat (a := (t (tk.2.1 + 2))) (b := 110) tk8 (rfl : (110 : Int32) = nI 110) (by omega) (by omega)).mp h5
            refine am_go 400 ?_
            refine (c_len_2) _ _ _ ?_
            refine am_go 400 ?_
            refine am_f (ix_in (n := (tk.2.1 + 3)) (N := 96) (nI_addE tk2 (rfl : (3 : Int32) = nI 3)) (by omega) (by decide)) ?_
            have tk9 : (((I 3 0 8) + 3)).toNatClampNeg = (tk.2.1 + 3) := by first | exact ix_cl (n := (tk.2.1 + 3)) (nI_addE tk2 (rfl : (3 : Int32) = nI 3)) (by omega) | (((try rw [tk2])); first | done | exact ix_cl (n := (tk.2.1 + 3)) (nI_addE tk2 (rfl : (3 : Int32) = nI 3)) (by omega))
            have bd : (t (tk.2.1 + 3)) ≤ 255 := (by have := ht (tk.2.1 + 3) (by omega); omega)
            have tk10 : I 23 0 (((((I 3 0 8) + 3)).toNatClampNeg)) = nI (t (tk.2.1 + 3)) := by first | exact hT.2.1 _ (by omega) | (((try rw [tk9]); (try rw [tk2])); first | done | exact hT.2.1 _ (by omega))
            refine (c_chr_2_3) _ _ _ ?_
            refine am_go 400 ?_
            refine am_if (fun h6 => ?_) (fun h6 => ?_)
            · have nh6 := (eq_nat (a := (t (tk.2.1 + 3))) (b := 101) tk10 (rfl : (101 : Int32) = nI 101) (by omega) (by omega)).mp h6
              refine am_go 400 ?_
              refine (c_len_2) _ _ _ ?_
              refine am_go 400 ?_
              exact k0 nh1 nh2 nh3 nh4 nh5 nh6
            · have nh6 := mt (eq_nat (a := (t (tk.2.1 + 3))) (b := 101) tk10 (rfl : (101 : Int32) = nI 101) (by omega) (by omega)).mpr h6
              exact k1 nh1 nh2 nh3 nh4 nh5 nh6
          · have nh5 := mt (eq_nat (a := (t (tk.2.1 + 2))) (b := 110) tk8 (rfl : (110 : Int32) = nI 110) (by omega) (by omega)).mpr h5
            exact k2 nh1 nh2 nh3 nh4 nh5
        · have nh4 := mt (eq_nat (a := (t (tk.2.1 + 1))) (b := 105) tk6 (rfl : (105 : Int32) = nI 105) (by omega) (by omega)).mpr h4
          exact k3 nh1 nh2 nh3 nh4
      · have nh3 := mt (eq_nat (a := (t (tk.2.1 + 0))) (b := 102) tk4 (rfl : (102 : Int32) = nI 102) (by omega) (by omega)).mpr h3
        exact k4 nh1 nh2 nh3
    · have nh2 := mt (eq_nat (a := (tk.2.2 - tk.2.1)) (b := 4) (nI_subE tk1 tk2 (by omega)) (rfl : (4 : Int32) = nI 4) (by omega) (by omega)).mpr h2
      exact k5 nh1 nh2
  · have nh1 := mt (eq_nat (a := tk.1) (b := 1) tk0 (rfl : (1 : Int32) = nI 1) (by omega) (by omega)).mpr h1
    exact k6 nh1
theorem c_word_2 {I : Im} {X d} {t : Nat → Nat} {n : Nat} {tk : Tk} (hn : n ≤ 96) (ht : ∀ j, j < n → t j < 256) (hT : RdT I t n tk) (hW : Wt t n tk) : Rt mX3_isWord [.inr (.inr (some (3, 0))), .inr (.inr (some (100, 2)))] (d + 4) (mk I X) (some (.inl (bI (kwN t tk)))) (mk I X) := fun g gs Q K =>
  w_word_2 hn ht hT hW (fun h0 h1 h2 h3 h4 h5 => K_v (bI_t ⟨h0, h1, h2, h3, h4, h5⟩) K) (fun h0 h1 h2 h3 h4 h5 => K_v (bI_f (fun z => h5 (z.2.2.2.2.2))) K) (fun h0 h1 h2 h3 h4 => K_v (bI_f (fun z => h4 (z.2.2.2.2.1))) K) (fun h0 h1 h2 h3 => K_v (bI_f (fun z => h3 (z.2.2.2.1))) K) (fun h0 h1 h2 => K_v (bI_f (fun z => h2 (z.2.2.1))) K) (fun h0 h1 => K_v (bI_f (fun z => h1 (z.2.1))) K) (fun h0 => K_v (bI_f (fun z => h0 (z.1))) K)
