/-! the model's reader: steps, signs, names, keys -/
def MdS (I : Im) (la key ro no : Nat) (l : List (Nat × Nat)) : Prop := I 8 0 24 = nI ro ∧ I 8 0 25 = nI no ∧ I 8 0 26 = nI l.length ∧ I 8 0 27 = nI la ∧ I 8 0 28 = nI (nop l) ∧ ∀ j, j < l.length → I 30 0 (la + 2 * j) = nI (l.getD j (0, 0)).1 ∧ I 30 0 (la + 2 * j + 1) = nI (enM key (l.getD j (0, 0)))
def Md (I : Im) (t : Nat → Nat) (n la key ro no : Nat) (p : Pa) : Prop := MdT I t n p.1 ∧ MdS I la key ro no p.2
def FrQ8 (la : Nat) (I I' : Im) : Prop := (∀ g, g ≠ 8 → g ≠ 30 → I' g = I g) ∧ (∀ j, j < 19 ∨ 28 < j → I' 8 0 j = I 8 0 j) ∧ ∀ j, j < la ∨ la + 192 ≤ j → I' 30 0 j = I 30 0 j
theorem FrQ8_r {la I} : FrQ8 la I I := ⟨fun _ _ _ => rfl, fun _ _ => rfl, fun _ _ => rfl⟩
theorem FrQ8_t {la I I' I''} (h : FrQ8 la I I') (h2 : FrQ8 la I' I'') : FrQ8 la I I'' := ⟨fun g a b => (h2.1 g a b).trans (h.1 g a b), fun j a => (h2.2.1 j a).trans (h.2.1 j a), fun j a => (h2.2.2 j a).trans (h.2.2 j a)⟩
theorem FrQ8_A {la I I'} (h : FrA8 I I') : FrQ8 la I I' := ⟨fun g a _ => h.1 g a, fun j a => h.2 j (by omega), fun j _ => by rw [h.1 30 (by decide)]⟩
theorem FrQ8_3 {la I I' j v} (h : FrQ8 la I I') (hj : 19 ≤ j ∧ j ≤ 28) : FrQ8 la I (up3 I' 8 0 j v) := ⟨fun g a b => by rw [up3_g a]; exact h.1 g a b, fun i a => by rw [up3_j (by omega)]; exact h.2.1 i a, fun i a => h.2.2 i a⟩
theorem FrQ8_s {la I I' j v} (h : FrQ8 la I I') (hj : la ≤ j ∧ j < la + 192) : FrQ8 la I (up3 I' 30 0 j v) := ⟨fun g a b => by rw [up3_g b]; exact h.1 g a b, fun i a => h.2.1 i a, fun i a => by rw [up3_j (by omega)]; exact h.2.2 i a⟩
theorem MdS_A {I I' la key ro no l} (h : MdS I la key ro no l) (F : FrA8 I I') : MdS I' la key ro no l := by
  obtain ⟨a, b, c, e, f, g⟩ := h
  exact ⟨(F.2 24 (by decide)).trans a, (F.2 25 (by decide)).trans b, (F.2 26 (by decide)).trans c, (F.2 27 (by decide)).trans e, (F.2 28 (by decide)).trans f, by rw [F.1 30 (by decide)]; exact g⟩
theorem MdT_u {I : Im} {t n tk j v} (h : MdT I t n tk) (hj : 23 < j) : MdT (up3 I 8 0 j v) t n tk := by
  obtain ⟨a, b, c, e, f, g, i, k⟩ := h
  refine ⟨?_, b, ?_, ?_, ?_, fun z => ?_, fun z => ?_, fun z y => ?_⟩
  · rw [up3_j (by omega)]; exact a
  · rw [up3_j (by omega)]; exact c
  · rw [up3_j (by omega)]; exact e
  · rw [up3_j (by omega)]; exact f
  · rw [up3_j (by omega)]; exact g z
  · rw [up3_j (by omega)]; exact i z
  · rw [up3_j (by omega)]; exact k z y
theorem MdT_s {I : Im} {t n tk j v} (h : MdT I t n tk) : MdT (up3 I 30 0 j v) t n tk := h
set_option maxRecDepth 100000 in
set_option maxHeartbeats 4000000 in
theorem w_X8_step {I : Nat → Nat → Nat → Int32} {X : am_Z} {g : am_F} {gs : List am_F} {d : Nat} {Q : Option am_V → am_M → Prop} {m la : Nat} {x v : Int32} (h26 : I 8 0 26 = nI m) (h27 : I 8 0 27 = nI la) (hm : m < 96) (hla : la ≤ 2954) (k0 : am_WP (am_psh g none :: gs) (d + 1) (mk (up3 (up3 (up3 I 30 0 (((la + (2 * m)))) (x)) 30 0 ((((la + (2 * m)) + 1))) (v)) 8 0 (26) ((nI (m + 1)))) X) Q) : am_WP (am_entry mX8_step [.inr (.inr (some (8, 0))), .inl (x), .inl (v)] :: g :: gs) (d) (mk I X) Q := by
  refine am_go 400 ?_
  have tk0 : I 8 0 27 = nI la := h27
  have tk1 : I 8 0 26 = nI m := h26
  refine am_f (ix_in (n := (la + (2 * m))) (N := 3150) (nI_addE tk0 (nI_mulE (rfl : (2 : Int32) = nI 2) tk1)) (by omega) (by decide)) ?_
  have tk2 : (((I 8 0 27) + (2 * (I 8 0 26)))).toNatClampNeg = (la + (2 * m)) := by first | exact ix_cl (n := (la + (2 * m))) (nI_addE tk0 (nI_mulE (rfl : (2 : Int32) = nI 2) tk1)) (by omega) | (((try rw [tk1]); (try rw [tk0])); first | done | exact ix_cl (n := (la + (2 * m))) (nI_addE tk0 (nI_mulE (rfl : (2 : Int32) = nI 2) tk1)) (by omega))
  have tk3 : (up3 I 30 0 (((((I 8 0 27) + (2 * (I 8 0 26)))).toNatClampNeg)) (x)) 8 0 27 = nI la := by first | exact h27 | (((try rw [tk2]); (try rw [tk1]); (try rw [tk0])); first | done | exact h27)
  have tk4 : (up3 I 30 0 (((((I 8 0 27) + (2 * (I 8 0 26)))).toNatClampNeg)) (x)) 8 0 26 = nI m := by first | exact h26 | (((try rw [tk2]); (try rw [tk1]); (try rw [tk0])); first | done | exact h26)
  refine am_f (ix_in (n := ((la + (2 * m)) + 1)) (N := 3150) (nI_addE (nI_addE tk3 (nI_mulE (rfl : (2 : Int32) = nI 2) tk4)) (rfl : (1 : Int32) = nI 1)) (by omega) (by decide)) ?_
  have tk5 : (((((up3 I 30 0 (((((I 8 0 27) + (2 * (I 8 0 26)))).toNatClampNeg)) (x)) 8 0 27) + (2 * ((up3 I 30 0 (((((I 8 0 27) + (2 * (I 8 0 26)))).toNatClampNeg)) (x)) 8 0 26))) + 1)).toNatClampNeg = ((la + (2 * m)) + 1) := by first | exact ix_cl (n := ((la + (2 * m)) + 1)) (nI_addE (nI_addE tk3 (nI_mulE (rfl : (2 : Int32) = nI 2) tk4)) (rfl : (1 : Int32) = nI 1)) (by omega) | (((try rw [tk4]); (try rw [tk3]); (try rw [tk2]); (try rw [tk1]); (try rw [tk0])); first | done | exact ix_cl (n := ((la + (2 * m)) + 1)) (nI_addE (nI_addE tk3 (nI_mulE (rfl : (2 : Int32) = nI 2) tk4)) (rfl : (1 : Int32) = nI 1)) (by omega))
  have tk6 : (up3 (up3 I 30 0 (((((I 8 0 27) + (2 * (I 8 0 26)))).toNatClampNeg)) (x)) 30 0 (((((((up3 I 30 0 (((((I 8 0 27) + (2 * (I 8 0 26)))).toNatClampNeg)) (x)) 8 0 27) + (2 * ((up3 I 30 0 (((((I 8 0 27) + (2 * (I 8 0 26)))).toNatClampNeg)) (x)) 8 0 26))) + 1)).toNatClampNeg)) (v)) 8 0 26 = nI m := by first | exact h26 | (((try rw [tk5]); (try rw [tk4]); (try rw [tk3]); (try rw [tk2]); (try rw [tk1]); (try rw [tk0])); first | done | exact h26)
  have tk7 : (((up3 (up3 I 30 0 (((((I 8 0 27) + (2 * (I 8 0 26)))).toNatClampNeg)) (x)) 30 0 (((((((up3 I 30 0 (((((I 8 0 27) + (2 * (I 8 0 26)))).toNatClampNeg)) (x)) 8 0 27) + (2 * ((up3 I 30 0 (((((I 8 0 27) + (2 * (I 8 0 26)))).toNatClampNeg)) (x)) 8 0 26))) + 1)).toNatClampNeg)) (v)) 8 0 26) + 1) = nI (m + 1) := by first | exact (nI_addE tk6 (rfl : (1 : Int32) = nI 1)) | (((try rw [tk6]); (try rw [tk5]); (try rw [tk4]); (try rw [tk3]); (try rw [tk2]); (try rw [tk1]); (try rw [tk0])); first | done | exact (nI_addE tk6 (rfl : (1 : Int32) = nI 1)))
  show am_WP (am_psh g none :: gs) (d + 1) (mk (up3 (up3 (up3 I 30 0 (((((I 8 0 27) + (2 * (I 8 0 26)))).toNatClampNeg)) (x)) 30 0 (((((((up3 I 30 0 (((((I 8 0 27) + (2 * (I 8 0 26)))).toNatClampNeg)) (x)) 8 0 27) + (2 * ((up3 I 30 0 (((((I 8 0 27) + (2 * (I 8 0 26)))).toNatClampNeg)) (x)) 8 0 26))) + 1)).toNatClampNeg)) (v)) 8 0 (26) (((((up3 (up3 I 30 0 (((((I 8 0 27) + (2 * (I 8 0 26)))).toNatClampNeg)) (x)) 30 0 (((((((up3 I 30 0 (((((I 8 0 27) + (2 * (I 8 0 26)))).toNatClampNeg)) (x)) 8 0 27) + (2 * ((up3 I 30 0 (((((I 8 0 27) + (2 * (I 8 0 26)))).toNatClampNeg)) (x)) 8 0 26))) + 1)).toNatClampNeg)) (v)) 8 0 26) + 1)))) X) Q
  try rw [tk7]
  try rw [tk6]
  try rw [tk5]
  try rw [tk4]
  try rw [tk3]
  try rw [tk2]
  try rw [tk1]
  try rw [tk0]
  exact k0
theorem tkM_le {t : Nat → Nat} {n : Nat} {tk : Tk} (hW : Wt t n tk) : tkM tk ≤ 4 := by
  have := hW.2.2.1
  unfold tkM; split <;> omega
theorem tkM_3 {tk : Tk} : tkM tk = 3 ↔ tk.1 = 3 := by
  unfold tkM
  split
  · omega
  · exact Iff.rfl
theorem tkM_1 {tk : Tk} : tkM tk = 1 ↔ tk.1 = 1 := by
  unfold tkM
  split
  · omega
  · exact Iff.rfl
theorem tkM_0 {tk : Tk} : tkM tk = 0 ↔ tk.1 = 0 := by
  unfold tkM
  split
  · omega
  · exact Iff.rfl
theorem tkM_2 {tk : Tk} : tkM tk = 2 ↔ tk.1 = 2 ∧ ¬ 4 < tk.2.2 - tk.2.1 := by
  unfold tkM
  split
  · omega
  · omega
set_option maxRecDepth 100000 in
set_option maxHeartbeats 4000000 in
theorem w_X8_isSign {I : Nat → Nat → Nat → Int32} {X : am_Z} {g : am_F} {gs : List am_F} {d : Nat} {Q : Option am_V → am_M → Prop} {t : Nat → Nat} {n : Nat} {tk : Tk} (hn : n ≤ 96) (ht : ∀ j, j < n → t j < 256) (hT : MdT I t n tk) (hW : Wt t n tk) {c : Int32} {b : Nat} (hc : c = nI b) (hb : b < 256) (k0 : ((tkM tk) = 3) → ((I 8 0 23) = c) → am_WP (am_psh g (some (.inl (1))) :: gs) (d + 1) (mk I X) Q) (k1 : ((tkM tk) = 3) → (¬ (I 8 0 23) = c) → am_WP (am_psh g (some (.inl (0))) :: gs) (d + 1) (mk I X) Q) (k2 : (¬ ((tkM tk) = 3)) → am_WP (am_psh g (some (.inl (0))) :: gs) (d + 1) (mk I X) Q) : am_WP (am_entry mX8_isSign [.inr (.inr (some (8, 0))), .inl (c)] :: g :: gs) (d) (mk I X) Q := by
  obtain ⟨w1, w2, w3, w4, w5, w6⟩ := id hW
  have tle := tkM_le hW
  refine am_go 400 ?_
  have tk0 : I 8 0 21 = nI (tkM tk) := hT.2.2.2.2.1
  refine am_if (fun h1 => ?_) (fun h1 => ?_)
  · have nh1 := (eq_nat (a := (tkM tk)) (b := 3) tk0 (rfl : (3 : Int32) = nI 3) (by omega) (by omega)).mp h1
    refine am_if (fun h2 => ?_) (fun h2 => ?_)
    · exact k0 nh1 h2
    · exact k1 nh1 h2
  · have nh1 := mt (eq_nat (a := (tkM tk)) (b := 3) tk0 (rfl : (3 : Int32) = nI 3) (by omega) (by omega)).mpr h1
    exact k2 nh1
set_option maxRecDepth 100000 in
set_option maxHeartbeats 4000000 in
theorem w_wat_0 {I : Nat → Nat → Nat → Int32} {X : am_Z} {g : am_F} {gs : List am_F} {d : Nat} {Q : Option am_V → am_M → Prop} {t : Nat → Nat} {n : Nat} {tk : Tk} (hn : n ≤ 96) (ht : ∀ j, j < n → t j < 256) (hT : MdT I t n tk) (hW : Wt t n tk)  (k0 : ((tkM tk) = 1) → ((tk.2.2 - tk.2.1) = 4) → ((t (tk.2.1)) = 104) → ((t (tk.2.1 + 1)) = 97) → ((t (tk.2.1 + 2)) = 114) → ((t (tk.2.1 + 3)) = 100) → am_WP (am_psh g (some (.inl (1))) :: gs) (d + 1) (mk I X) Q) (k1 : ((tkM tk) = 1) → ((tk.2.2 - tk.2.1) = 4) → ((t (tk.2.1)) = 104) → ((t (tk.2.1 + 1)) = 97) → ((t (tk.2.1 + 2)) = 114) → (¬ ((t (tk.2.1 + 3)) = 100)) → am_WP (am_psh g (some (.inl (0))) :: gs) (d + 1) (mk I X) Q) (k2 : ((tkM tk) = 1) → ((tk.2.2 - tk.2.1) = 4) → ((t (tk.2.1)) = 104) → ((t (tk.2.1 + 1)) = 97) → (¬ ((t (tk.2.1 + 2)) = 114)) → am_WP (am_psh g (some (.inl (0))) :: gs) (d + 1) (mk I X) Q) (k3 : ((tkM tk) = 1) → ((tk.2.2 - tk.2.1) = 4) → ((t (tk.2.1)) = 104) → (¬ ((t (tk.2.1 + 1)) = 97)) → am_WP (am_psh g (some (.inl (0))) :: gs) (d + 1) (mk I X) Q) (k4 : ((tkM tk) = 1) → ((tk.2.2 - tk.2.1) = 4) → (¬ ((t (tk.2.1)) = 104)) → am_WP (am_psh g (some (.inl (0))) :: gs) (d + 1) (mk I X) Q) (k5 : ((tkM tk) = 1) → (¬ ((tk.2.2 - tk.2.1) = 4)) → am_WP (am_psh g (some (.inl (0))) :: gs) (d + 1) (mk I X) Q) (k6 : (¬ ((tkM tk) = 1)) → am_WP (am_psh g (some (.inl (0))) :: gs) (d + 1) (mk I X) Q) : am_WP (am_entry mX8_isWordAt [.inr (.inr (some (8, 0))), .inl (104), .inl (97), .inl (114), .inl (100)] :: g :: gs) (d) (mk I X) Q := by
  obtain ⟨w1, w2, w3, w4, w5, w6⟩ := id hW
  have tle := tkM_le hW
  refine am_go 400 ?_
  have tk0 : I 8 0 21 = nI (tkM tk) := hT.2.2.2.2.1
  refine am_if (fun h1 => ?_) (fun h1 => ?_)
  · have nh1 := (eq_nat (a := (tkM tk)) (b := 1) tk0 (rfl : (1 : Int32) = nI 1) (by omega) (by omega)).mp h1
    have tk1 : I 8 0 20 = nI tk.2.2 := hT.2.2.2.1
    have tk2 : I 8 0 19 = nI tk.2.1 := hT.2.2.1
    refine am_if (fun h2 => ?_) (fun h2 => ?_)
    · have nh2 := (eq_nat (a := (tk.2.2 - tk.2.1)) (b := 4) (nI_subE tk1 tk2 (by omega)) (rfl : (4 : Int32) = nI 4) (by omega) (by omega)).mp h2
      refine am_f (ix_in (n := tk.2.1) (N := 96) tk2 (by omega) (by decide)) ?_
      have tk3 : ((I 8 0 19)).toNatClampNeg = tk.2.1 := by first | exact ix_cl (n := tk.2.1) tk2 (by omega) | (((try rw [tk2])); first | done | exact ix_cl (n := tk.2.1) tk2 (by omega))
      have bd : (t (tk.2.1)) ≤ 255 := (by have := ht (tk.2.1) (by omega); omega)
      have tk4 : I 44 0 ((((I 8 0 19)).toNatClampNeg)) = nI (t (tk.2.1)) := by first | exact hT.2.1 _ (by omega) | (((try rw [tk3]); (try rw [tk2])); first | done | exact hT.2.1 _ (by omega))
      refine am_if (fun h3 => ?_) (fun h3 => ?_)
      · have nh3 := (eq_nat (a := (t (tk.2.1))) (b := 104) tk4 (rfl : (104 : Int32) = nI 104) (by omega) (by omega)).mp h3
        refine am_f (ix_in (n := (tk.2.1 + 1)) (N := 96) (nI_addE tk2 (rfl : (1 : Int32) = nI 1)) (by omega) (by decide)) ?_
        have tk5 : (((I 8 0 19) + 1)).toNatClampNeg = (tk.2.1 + 1) := by first | exact ix_cl (n := (tk.2.1 + 1)) (nI_addE tk2 (rfl : (1 : Int32) = nI 1)) (by omega) | (((try rw [tk2])); first | done | exact ix_cl (n := (tk.2.1 + 1)) (nI_addE tk2 (rfl : (1 : Int32) = nI 1)) (by omega))
        have bd : (t (tk.2.1 + 1)) ≤ 255 := (by have := ht (tk.2.1 + 1) (by omega); omega)
        have tk6 : I 44 0 (((((I 8 0 19) + 1)).toNatClampNeg)) = nI (t (tk.2.1 + 1)) := by first | exact hT.2.1 _ (by omega) | (((try rw [tk5]); (try rw [tk2])); first | done | exact hT.2.1 _ (by omega))
        refine am_if (fun h4 => ?_) (fun h4 => ?_)
        · have nh4 := (eq_nat (a := (t (tk.2.1 + 1))) (b := 97) tk6 (rfl : (97 : Int32) = nI 97) (by omega) (by omega)).mp h4
          refine am_f (ix_in (n := (tk.2.1 + 2)) (N := 96) (nI_addE tk2 (rfl : (2 : Int32) = nI 2)) (by omega) (by decide)) ?_
          have tk7 : (((I 8 0 19) + 2)).toNatClampNeg = (tk.2.1 + 2) := by first | exact ix_cl (n := (tk.2.1 + 2)) (nI_addE tk2 (rfl : (2 : Int32) = nI 2)) (by omega) | (((try rw [tk2])); first | done | exact ix_cl (n := (tk.2.1 + 2)) (nI_addE tk2 (rfl : (2 : Int32) = nI 2)) (by omega))
          have bd : (t (tk.2.1 + 2)) ≤ 255 := (by have := ht (tk.2.1 + 2) (by omega); omega)
          have tk8 : I 44 0 (((((I 8 0 19) + 2)).toNatClampNeg)) = nI (t (tk.2.1 + 2)) := by first | exact hT.2.1 _ (by omega) | (((try rw [tk7]); (try rw [tk2])); first | done | exact hT.2.1 _ (by omega))
          refine am_if (fun h5 => ?_) (fun h5 => ?_)
          · have nh5 := (eq_nat (a := (t (tk.2.1 + 2))) (b := 114) tk8 (rfl : (114 : Int32) = nI 114) (by omega) (by omega)).mp h5
            refine am_f (ix_in (n := (tk.2.1 + 3)) (N := 96) (nI_addE tk2 (rfl : (3 : Int32) = nI 3)) (by omega) (by decide)) ?_
            have tk9 : (((I 8 0 19) + 3)).toNatClampNeg = (tk.2.1 + 3) := by first | exact ix_cl (n := (tk.2.1 + 3)) (nI_addE tk2 (rfl : (3 : Int32) = nI 3)) (by omega) | (((try rw [tk2])); first | done | exact ix_cl (n := (tk.2.1 + 3)) (nI_addE tk2 (rfl : (3 : Int32) = nI 3)) (by omega))
            have bd : (t (tk.2.1 + 3)) ≤ 255 := (by have := ht (tk.2.1 + 3) (by omega); omega)
            have tk10 : I 44 0 (((((I 8 0 19) + 3)).toNatClampNeg)) = nI (t (tk.2.1 + 3)) := by first | exact hT.2.1 _ (by omega) | (((try rw [tk9]); (try rw [tk2])); first | done | exact hT.2.1 _ (by omega))
            refine am_if (fun h6 => ?_) (fun h6 => ?_)
            · have nh6 := (eq_nat (a := (t (tk.2.1 + 3))) (b := 100) tk10 (rfl : (100 : Int32) = nI 100) (by omega) (by omega)).mp h6
              exact k0 nh1 nh2 nh3 nh4 nh5 nh6
            · have nh6 := mt (eq_nat (a := (t (tk.2.1 + 3))) (b := 100) tk10 (rfl : (100 : Int32) = nI 100) (by omega) (by omega)).mpr h6
              exact k1 nh1 nh2 nh3 nh4 nh5 nh6
          · have nh5 := mt (eq_nat (a := (t (tk.2.1 + 2))) (b := 114) tk8 (rfl : (114 : Int32) = nI 114) (by omega) (by omega)).mpr h5
            exact k2 nh1 nh2 nh3 nh4 nh5
        · have nh4 := mt (eq_nat (a := (t (tk.2.1 + 1))) (b := 97) tk6 (rfl : (97 : Int32) = nI 97) (by omega) (by omega)).mpr h4
          exact k3 nh1 nh2 nh3 nh4
      · have nh3 := mt (eq_nat (a := (t (tk.2.1))) (b := 104) tk4 (rfl : (104 : Int32) = nI 104) (by omega) (by omega)).mpr h3
        exact k4 nh1 nh2 nh3
    · have nh2 := mt (eq_nat (a := (tk.2.2 - tk.2.1)) (b := 4) (nI_subE tk1 tk2 (by omega)) (rfl : (4 : Int32) = nI 4) (by omega) (by omega)).mpr h2
      exact k5 nh1 nh2
  · have nh1 := mt (eq_nat (a := (tkM tk)) (b := 1) tk0 (rfl : (1 : Int32) = nI 1) (by omega) (by omega)).mpr h1
    exact k6 nh1
set_option maxRecDepth 100000 in
set_option maxHeartbeats 4000000 in
theorem w_wat_1 {I : Nat → Nat → Nat → Int32} {X : am_Z} {g : am_F} {gs : List am_F} {d : Nat} {Q : Option am_V → am_M → Prop} {t : Nat → Nat} {n : Nat} {tk : Tk} (hn : n ≤ 96) (ht : ∀ j, j < n → t j < 256) (hT : MdT I t n tk) (hW : Wt t n tk)  (k0 : ((tkM tk) = 1) → ((tk.2.2 - tk.2.1) = 3) → ((t (tk.2.1)) = 102) → ((t (tk.2.1 + 1)) = 101) → ((t (tk.2.1 + 2)) = 101) → am_WP (am_psh g (some (.inl (1))) :: gs) (d + 1) (mk I X) Q) (k1 : ((tkM tk) = 1) → ((tk.2.2 - tk.2.1) = 3) → ((t (tk.2.1)) = 102) → ((t (tk.2.1 + 1)) = 101) → (¬ ((t (tk.2.1 + 2)) = 101)) → am_WP (am_psh g (some (.inl (0))) :: gs) (d + 1) (mk I X) Q) (k2 : ((tkM tk) = 1) → ((tk.2.2 - tk.2.1) = 3) → ((t (tk.2.1)) = 102) → (¬ ((t (tk.2.1 + 1)) = 101)) → am_WP (am_psh g (some (.inl (0))) :: gs) (d + 1) (mk I X) Q) (k3 : ((tkM tk) = 1) → ((tk.2.2 - tk.2.1) = 3) → (¬ ((t (tk.2.1)) = 102)) → am_WP (am_psh g (some (.inl (0))) :: gs) (d + 1) (mk I X) Q) (k4 : ((tkM tk) = 1) → (¬ ((tk.2.2 - tk.2.1) = 3)) → am_WP (am_psh g (some (.inl (0))) :: gs) (d + 1) (mk I X) Q) (k5 : (¬ ((tkM tk) = 1)) → am_WP (am_psh g (some (.inl (0))) :: gs) (d + 1) (mk I X) Q) : am_WP (am_entry mX8_isWordAt [.inr (.inr (some (8, 0))), .inl (102), .inl (101), .inl (101), .inl (0)] :: g :: gs) (d) (mk I X) Q := by
  obtain ⟨w1, w2, w3, w4, w5, w6⟩ := id hW
  have tle := tkM_le hW
  refine am_go 400 ?_
  have tk0 : I 8 0 21 = nI (tkM tk) := hT.2.2.2.2.1
  refine am_if (fun h1 => ?_) (fun h1 => ?_)
  · have nh1 := (eq_nat (a := (tkM tk)) (b := 1) tk0 (rfl : (1 : Int32) = nI 1) (by omega) (by omega)).mp h1
    have tk1 : I 8 0 20 = nI tk.2.2 := hT.2.2.2.1
    have tk2 : I 8 0 19 = nI tk.2.1 := hT.2.2.1
    refine am_if (fun h2 => ?_) (fun h2 => ?_)
    · have nh2 := (eq_nat (a := (tk.2.2 - tk.2.1)) (b := 3) (nI_subE tk1 tk2 (by omega)) (rfl : (3 : Int32) = nI 3) (by omega) (by omega)).mp h2
      refine am_f (ix_in (n := tk.2.1) (N := 96) tk2 (by omega) (by decide)) ?_
      have tk3 : ((I 8 0 19)).toNatClampNeg = tk.2.1 := by first | exact ix_cl (n := tk.2.1) tk2 (by omega) | (((try rw [tk2])); first | done | exact ix_cl (n := tk.2.1) tk2 (by omega))
      have bd : (t (tk.2.1)) ≤ 255 := (by have := ht (tk.2.1) (by omega); omega)
      have tk4 : I 44 0 ((((I 8 0 19)).toNatClampNeg)) = nI (t (tk.2.1)) := by first | exact hT.2.1 _ (by omega) | (((try rw [tk3]); (try rw [tk2])); first | done | exact hT.2.1 _ (by omega))
      refine am_if (fun h3 => ?_) (fun h3 => ?_)
      · have nh3 := (eq_nat (a := (t (tk.2.1))) (b := 102) tk4 (rfl : (102 : Int32) = nI 102) (by omega) (by omega)).mp h3
        refine am_f (ix_in (n := (tk.2.1 + 1)) (N := 96) (nI_addE tk2 (rfl : (1 : Int32) = nI 1)) (by omega) (by decide)) ?_
        have tk5 : (((I 8 0 19) + 1)).toNatClampNeg = (tk.2.1 + 1) := by first | exact ix_cl (n := (tk.2.1 + 1)) (nI_addE tk2 (rfl : (1 : Int32) = nI 1)) (by omega) | (((try rw [tk2])); first | done | exact ix_cl (n := (tk.2.1 + 1)) (nI_addE tk2 (rfl : (1 : Int32) = nI 1)) (by omega))
        have bd : (t (tk.2.1 + 1)) ≤ 255 := (by have := ht (tk.2.1 + 1) (by omega); omega)
        have tk6 : I 44 0 (((((I 8 0 19) + 1)).toNatClampNeg)) = nI (t (tk.2.1 + 1)) := by first | exact hT.2.1 _ (by omega) | (((try rw [tk5]); (try rw [tk2])); first | done | exact hT.2.1 _ (by omega))
        refine am_if (fun h4 => ?_) (fun h4 => ?_)
        · have nh4 := (eq_nat (a := (t (tk.2.1 + 1))) (b := 101) tk6 (rfl : (101 : Int32) = nI 101) (by omega) (by omega)).mp h4
          refine am_f (ix_in (n := (tk.2.1 + 2)) (N := 96) (nI_addE tk2 (rfl : (2 : Int32) = nI 2)) (by omega) (by decide)) ?_
          have tk7 : (((I 8 0 19) + 2)).toNatClampNeg = (tk.2.1 + 2) := by first | exact ix_cl (n := (tk.2.1 + 2)) (nI_addE tk2 (rfl : (2 : Int32) = nI 2)) (by omega) | (((try rw [tk2])); first | done | exact ix_cl (n := (tk.2.1 + 2)) (nI_addE tk2 (rfl : (2 : Int32) = nI 2)) (by omega))
          have bd : (t (tk.2.1 + 2)) ≤ 255 := (by have := ht (tk.2.1 + 2) (by omega); omega)
          have tk8 : I 44 0 (((((I 8 0 19) + 2)).toNatClampNeg)) = nI (t (tk.2.1 + 2)) := by first | exact hT.2.1 _ (by omega) | (((try rw [tk7]); (try rw [tk2])); first | done | exact hT.2.1 _ (by omega))
          refine am_if (fun h5 => ?_) (fun h5 => ?_)
          · have nh5 := (eq_nat (a := (t (tk.2.1 + 2))) (b := 101) tk8 (rfl : (101 : Int32) = nI 101) (by omega) (by omega)).mp h5
            exact k0 nh1 nh2 nh3 nh4 nh5
          · have nh5 := mt (eq_nat (a := (t (tk.2.1 + 2))) (b := 101) tk8 (rfl : (101 : Int32) = nI 101) (by omega) (by omega)).mpr h5
            exact k1 nh1 nh2 nh3 nh4 nh5
        · have nh4 := mt (eq_nat (a := (t (tk.2.1 + 1))) (b := 101) tk6 (rfl : (101 : Int32) = nI 101) (by omega) (by omega)).mpr h4
          exact k2 nh1 nh2 nh3 nh4
      · have nh3 := mt (eq_nat (a := (t (tk.2.1))) (b := 102) tk4 (rfl : (102 : Int32) = nI 102) (by omega) (by omega)).mpr h3
        exact k3 nh1 nh2 nh3
    · have nh2 := mt (eq_nat (a := (tk.2.2 - tk.2.1)) (b := 3) (nI_subE tk1 tk2 (by omega)) (rfl : (3 : Int32) = nI 3) (by omega) (by omega)).mpr h2
      exact k4 nh1 nh2
  · have nh1 := mt (eq_nat (a := (tkM tk)) (b := 1) tk0 (rfl : (1 : Int32) = nI 1) (by omega) (by omega)).mpr h1
    exact k5 nh1
set_option maxRecDepth 100000 in
set_option maxHeartbeats 4000000 in
theorem w_wat_2 {I : Nat → Nat → Nat → Int32} {X : am_Z} {g : am_F} {gs : List am_F} {d : Nat} {Q : Option am_V → am_M → Prop} {t : Nat → Nat} {n : Nat} {tk : Tk} (hn : n ≤ 96) (ht : ∀ j, j < n → t j < 256) (hT : MdT I t n tk) (hW : Wt t n tk)  (k0 : ((tkM tk) = 1) → ((tk.2.2 - tk.2.1) = 4) → ((t (tk.2.1)) = 102) → ((t (tk.2.1 + 1)) = 105) → ((t (tk.2.1 + 2)) = 110) → ((t (tk.2.1 + 3)) = 101) → am_WP (am_psh g (some (.inl (1))) :: gs) (d + 1) (mk I X) Q) (k1 : ((tkM tk) = 1) → ((tk.2.2 - tk.2.1) = 4) → ((t (tk.2.1)) = 102) → ((t (tk.2.1 + 1)) = 105) → ((t (tk.2.1 + 2)) = 110) → (¬ ((t (tk.2.1 + 3)) = 101)) → am_WP (am_psh g (some (.inl (0))) :: gs) (d + 1) (mk I X) Q) (k2 : ((tkM tk) = 1) → ((tk.2.2 - tk.2.1) = 4) → ((t (tk.2.1)) = 102) → ((t (tk.2.1 + 1)) = 105) → (¬ ((t (tk.2.1 + 2)) = 110)) → am_WP (am_psh g (some (.inl (0))) :: gs) (d + 1) (mk I X) Q) (k3 : ((tkM tk) = 1) → ((tk.2.2 - tk.2.1) = 4) → ((t (tk.2.1)) = 102) → (¬ ((t (tk.2.1 + 1)) = 105)) → am_WP (am_psh g (some (.inl (0))) :: gs) (d + 1) (mk I X) Q) (k4 : ((tkM tk) = 1) → ((tk.2.2 - tk.2.1) = 4) → (¬ ((t (tk.2.1)) = 102)) → am_WP (am_psh g (some (.inl (0))) :: gs) (d + 1) (mk I X) Q) (k5 : ((tkM tk) = 1) → (¬ ((tk.2.2 - tk.2.1) = 4)) → am_WP (am_psh g (some (.inl (0))) :: gs) (d + 1) (mk I X) Q) (k6 : (¬ ((tkM tk) = 1)) → am_WP (am_psh g (some (.inl (0))) :: gs) (d + 1) (mk I X) Q) : am_WP (am_entry mX8_isWordAt [.inr (.inr (some (8, 0))), .inl (102), .inl (105), .inl (110), .inl (101)] :: g :: gs) (d) (mk I X) Q := by
  obtain ⟨w1, w2, w3, w4, w5, w6⟩ := id hW
  have tle := tkM_le hW
  refine am_go 400 ?_
  have tk0 : I 8 0 21 = nI (tkM tk) := hT.2.2.2.2.1
  refine am_if (fun h1 => ?_) (fun h1 => ?_)
  · have nh1 := (eq_nat (a := (tkM tk)) (b := 1) tk0 (rfl : (1 : Int32) = nI 1) (by omega) (by omega)).mp h1
    have tk1 : I 8 0 20 = nI tk.2.2 := hT.2.2.2.1
    have tk2 : I 8 0 19 = nI tk.2.1 := hT.2.2.1
    refine am_if (fun h2 => ?_) (fun h2 => ?_)
    · have nh2 := (eq_nat (a := (tk.2.2 - tk.2.1)) (b := 4) (nI_subE tk1 tk2 (by omega)) (rfl : (4 : Int32) = nI 4) (by omega) (by omega)).mp h2
      refine am_f (ix_in (n := tk.2.1) (N := 96) tk2 (by omega) (by decide)) ?_
      have tk3 : ((I 8 0 19)).toNatClampNeg = tk.2.1 := by first | exact ix_cl (n := tk.2.1) tk2 (by omega) | (((try rw [tk2])); first | done | exact ix_cl (n := tk.2.1) tk2 (by omega))
      have bd : (t (tk.2.1)) ≤ 255 := (by have := ht (tk.2.1) (by omega); omega)
      have tk4 : I 44 0 ((((I 8 0 19)).toNatClampNeg)) = nI (t (tk.2.1)) := by first | exact hT.2.1 _ (by omega) | (((try rw [tk3]); (try rw [tk2])); first | done | exact hT.2.1 _ (by omega))
      refine am_if (fun h3 => ?_) (fun h3 => ?_)
      · have nh3 := (eq_nat (a := (t (tk.2.1))) (b := 102) tk4 (rfl : (102 : Int32) = nI 102) (by omega) (by omega)).mp h3
        refine am_f (ix_in (n := (tk.2.1 + 1)) (N := 96) (nI_addE tk2 (rfl : (1 : Int32) = nI 1)) (by omega) (by decide)) ?_
        have tk5 : (((I 8 0 19) + 1)).toNatClampNeg = (tk.2.1 + 1) := by first | exact ix_cl (n := (tk.2.1 + 1)) (nI_addE tk2 (rfl : (1 : Int32) = nI 1)) (by omega) | (((try rw [tk2])); first | done | exact ix_cl (n := (tk.2.1 + 1)) (nI_addE tk2 (rfl : (1 : Int32) = nI 1)) (by omega))
        have bd : (t (tk.2.1 + 1)) ≤ 255 := (by have := ht (tk.2.1 + 1) (by omega); omega)
        have tk6 : I 44 0 (((((I 8 0 19) + 1)).toNatClampNeg)) = nI (t (tk.2.1 + 1)) := by first | exact hT.2.1 _ (by omega) | (((try rw [tk5]); (try rw [tk2])); first | done | exact hT.2.1 _ (by omega))
        refine am_if (fun h4 => ?_) (fun h4 => ?_)
        · have nh4 := (eq_nat (a := (t (tk.2.1 + 1))) (b := 105) tk6 (rfl : (105 : Int32) = nI 105) (by omega) (by omega)).mp h4
          refine am_f (ix_in (n := (tk.2.1 + 2)) (N := 96) (nI_addE tk2 (rfl : (2 : Int32) = nI 2)) (by omega) (by decide)) ?_
          have tk7 : (((I 8 0 19) + 2)).toNatClampNeg = (tk.2.1 + 2) := by first | exact ix_cl (n := (tk.2.1 + 2)) (nI_addE tk2 (rfl : (2 : Int32) = nI 2)) (by omega) | (((try rw [tk2])); first | done | exact ix_cl (n := (tk.2.1 + 2)) (nI_addE tk2 (rfl : (2 : Int32) = nI 2)) (by omega))
          have bd : (t (tk.2.1 + 2)) ≤ 255 := (by have := ht (tk.2.1 + 2) (by omega); omega)
          have tk8 : I 44 0 (((((I 8 0 19) + 2)).toNatClampNeg)) = nI (t (tk.2.1 + 2)) := by first | exact hT.2.1 _ (by omega) | (((try rw [tk7]); (try rw [tk2])); first | done | exact hT.2.1 _ (by omega))
          refine am_if (fun h5 => ?_) (fun h5 => ?_)
          · have nh5 := (eq_nat (a := (t (tk.2.1 + 2))) (b := 110) tk8 (rfl : (110 : Int32) = nI 110) (by omega) (by omega)).mp h5
            refine am_f (ix_in (n := (tk.2.1 + 3)) (N := 96) (nI_addE tk2 (rfl : (3 : Int32) = nI 3)) (by omega) (by decide)) ?_
            have tk9 : (((I 8 0 19) + 3)).toNatClampNeg = (tk.2.1 + 3) := by first | exact ix_cl (n := (tk.2.1 + 3)) (nI_addE tk2 (rfl : (3 : Int32) = nI 3)) (by omega) | (((try rw [tk2])); first | done | exact ix_cl (n := (tk.2.1 + 3)) (nI_addE tk2 (rfl : (3 : Int32) = nI 3)) (by omega))
            have bd : (t (tk.2.1 + 3)) ≤ 255 := (by have := ht (tk.2.1 + 3) (by omega); omega)
            have tk10 : I 44 0 (((((I 8 0 19) + 3)).toNatClampNeg)) = nI (t (tk.2.1 + 3)) := by first | exact hT.2.1 _ (by omega) | (((try rw [tk9]); (try rw [tk2])); first | done | exact hT.2.1 _ (by omega))
            refine am_if (fun h6 => ?_) (fun h6 => ?_)
            · have nh6 := (eq_nat (a := (t (tk.2.1 + 3))) (b := 101) tk10 (rfl : (101 : Int32) = nI 101) (by omega) (by omega)).mp h6
              exact k0 nh1 nh2 nh3 nh4 nh5 nh6
            · have nh6 := mt (eq_nat (a := (t (tk.2.1 + 3))) (b := 101) tk10 (rfl : (101 : Int32) = nI 101) (by omega) (by omega)).mpr h6
              exact k1 nh1 nh2 nh3 nh4 nh5 nh6
          · have nh5 := mt (eq_nat (a := (t (tk.2.1 + 2))) (b := 110) tk8 (rfl : (110 : Int32) = nI 110) (by omega) (by omega)).mpr h5
            exact k2 nh1 nh2 nh3 nh4 nh5
        · have nh4 := mt (eq_nat (a := (t (tk.2.1 + 1))) (b := 105) tk6 (rfl : (105 : Int32) = nI 105) (by omega) (by omega)).mpr h4
          exact k3 nh1 nh2 nh3 nh4
      · have nh3 := mt (eq_nat (a := (t (tk.2.1))) (b := 102) tk4 (rfl : (102 : Int32) = nI 102) (by omega) (by omega)).mpr h3
        exact k4 nh1 nh2 nh3
    · have nh2 := mt (eq_nat (a := (tk.2.2 - tk.2.1)) (b := 4) (nI_subE tk1 tk2 (by omega)) (rfl : (4 : Int32) = nI 4) (by omega) (by omega)).mpr h2
      exact k5 nh1 nh2
  · have nh1 := mt (eq_nat (a := (tkM tk)) (b := 1) tk0 (rfl : (1 : Int32) = nI 1) (by omega) (by omega)).mpr h1
    exact k6 nh1
set_option maxRecDepth 100000 in
set_option maxHeartbeats 4000000 in
theorem w_X8_isName {I : Nat → Nat → Nat → Int32} {X : am_Z} {g : am_F} {gs : List am_F} {d : Nat} {Q : Option am_V → am_M → Prop} {x c : Int32} {key b : Nat} (hx : x = nI key) (hk : key < 3) (hc : c = nI b) (hb : b < 256) (k0 : (key = 0) → (b = 115) → am_WP (am_psh g (some (.inl (1))) :: gs) (d + 1) (mk I X) Q) (k1 : (key = 0) → (¬ (b = 115)) → (b = 121) → am_WP (am_psh g (some (.inl (1))) :: gs) (d + 1) (mk I X) Q) (k2 : (key = 0) → (¬ (b = 115)) → (¬ (b = 121)) → (b = 108) → am_WP (am_psh g (some (.inl (1))) :: gs) (d + 1) (mk I X) Q) (k3 : (key = 0) → (¬ (b = 115)) → (¬ (b = 121)) → (¬ (b = 108)) → am_WP (am_psh g (some (.inl (0))) :: gs) (d + 1) (mk I X) Q) (k4 : (¬ key = 0) → (key = 1) → (b = 99) → am_WP (am_psh g (some (.inl (1))) :: gs) (d + 1) (mk I X) Q) (k5 : (¬ key = 0) → (key = 1) → (¬ (b = 99)) → (b = 121) → am_WP (am_psh g (some (.inl (1))) :: gs) (d + 1) (mk I X) Q) (k6 : (¬ key = 0) → (key = 1) → (¬ (b = 99)) → (¬ (b = 121)) → am_WP (am_psh g (some (.inl (0))) :: gs) (d + 1) (mk I X) Q) (k7 : (¬ key = 0) → (¬ key = 1) → (b = 121) → am_WP (am_psh g (some (.inl (1))) :: gs) (d + 1) (mk I X) Q) (k8 : (¬ key = 0) → (¬ key = 1) → (¬ (b = 121)) → (b = 108) → am_WP (am_psh g (some (.inl (1))) :: gs) (d + 1) (mk I X) Q) (k9 : (¬ key = 0) → (¬ key = 1) → (¬ (b = 121)) → (¬ (b = 108)) → am_WP (am_psh g (some (.inl (0))) :: gs) (d + 1) (mk I X) Q) : am_WP (am_entry mX8_isName [.inl (x), .inl (c)] :: g :: gs) (d) (mk I X) Q := by
  refine am_go 400 ?_
  refine am_if (fun h1 => ?_) (fun h1 => ?_)
  · have nh1 := (eq_nat (a := key) (b := 0) hx (rfl : (0 : Int32) = nI 0) (by omega) (by omega)).mp h1
    refine am_if (fun h2 => ?_) (fun h2 => ?_)
    · have nh2 := (eq_nat (a := b) (b := 115) hc (rfl : (115 : Int32) = nI 115) (by omega) (by omega)).mp h2
      exact k0 nh1 nh2
    · have nh2 := mt (eq_nat (a := b) (b := 115) hc (rfl : (115 : Int32) = nI 115) (by omega) (by omega)).mpr h2
      refine am_if (fun h3 => ?_) (fun h3 => ?_)
      · have nh3 := (eq_nat (a := b) (b := 121) hc (rfl : (121 : Int32) = nI 121) (by omega) (by omega)).mp h3
        exact k1 nh1 nh2 nh3
      · have nh3 := mt (eq_nat (a := b) (b := 121) hc (rfl : (121 : Int32) = nI 121) (by omega) (by omega)).mpr h3
        refine am_if (fun h4 => ?_) (fun h4 => ?_)
        · have nh4 := (eq_nat (a := b) (b := 108) hc (rfl : (108 : Int32) = nI 108) (by omega) (by omega)).mp h4
          exact k2 nh1 nh2 nh3 nh4
        · have nh4 := mt (eq_nat (a := b) (b := 108) hc (rfl : (108 : Int32) = nI 108) (by omega) (by omega)).mpr h4
          exact k3 nh1 nh2 nh3 nh4
  have nh1 := mt (eq_nat (a := key) (b := 0) hx (rfl : (0 : Int32) = nI 0) (by omega) (by omega)).mpr h1
  refine am_if (fun h5 => ?_) (fun h5 => ?_)
  · have nh5 := (eq_nat (a := key) (b := 1) hx (rfl : (1 : Int32) = nI 1) (by omega) (by omega)).mp h5
    refine am_if (fun h6 => ?_) (fun h6 => ?_)
    · have nh6 := (eq_nat (a := b) (b := 99) hc (rfl : (99 : Int32) = nI 99) (by omega) (by omega)).mp h6
      exact k4 nh1 nh5 nh6
    · have nh6 := mt (eq_nat (a := b) (b := 99) hc (rfl : (99 : Int32) = nI 99) (by omega) (by omega)).mpr h6
      refine am_if (fun h7 => ?_) (fun h7 => ?_)
      · have nh7 := (eq_nat (a := b) (b := 121) hc (rfl : (121 : Int32) = nI 121) (by omega) (by omega)).mp h7
        exact k5 nh1 nh5 nh6 nh7
      · have nh7 := mt (eq_nat (a := b) (b := 121) hc (rfl : (121 : Int32) = nI 121) (by omega) (by omega)).mpr h7
        exact k6 nh1 nh5 nh6 nh7
  have nh5 := mt (eq_nat (a := key) (b := 1) hx (rfl : (1 : Int32) = nI 1) (by omega) (by omega)).mpr h5
  refine am_if (fun h8 => ?_) (fun h8 => ?_)
  · have nh8 := (eq_nat (a := b) (b := 121) hc (rfl : (121 : Int32) = nI 121) (by omega) (by omega)).mp h8
    exact k7 nh1 nh5 nh8
  · have nh8 := mt (eq_nat (a := b) (b := 121) hc (rfl : (121 : Int32) = nI 121) (by omega) (by omega)).mpr h8
    refine am_if (fun h9 => ?_) (fun h9 => ?_)
    · have nh9 := (eq_nat (a := b) (b := 108) hc (rfl : (108 : Int32) = nI 108) (by omega) (by omega)).mp h9
      exact k8 nh1 nh5 nh8 nh9
    · have nh9 := mt (eq_nat (a := b) (b := 108) hc (rfl : (108 : Int32) = nI 108) (by omega) (by omega)).mpr h9
      exact k9 nh1 nh5 nh8 nh9
theorem c_X8_step {I : Im} {X d} {m la : Nat} {x v : Int32} (h26 : I 8 0 26 = nI m) (h27 : I 8 0 27 = nI la) (hm : m < 96) (hla : la ≤ 2954) : Rt mX8_step [.inr (.inr (some (8, 0))), .inl x, .inl v] d (mk I X) none (mk (up3 (up3 (up3 I 30 0 (la + 2 * m) x) 30 0 (la + 2 * m + 1) v) 8 0 26 (nI (m + 1))) X) := fun g gs Q K => w_X8_step h26 h27 hm hla K
theorem MdS_1 {I : Im} {la key ro no l} {x : Nat × Nat} {a v : Int32} (h : MdS I la key ro no l) (hx : x.1 = 2) (ha : a = nI x.1) (hv : v = nI (enM key x)) : MdS (up3 (up3 (up3 I 30 0 (la + 2 * l.length) a) 30 0 (la + 2 * l.length + 1) v) 8 0 26 (nI (l.length + 1))) la key ro no (l ++ [x]) := by
  obtain ⟨b1, b2, b3, b4, b5, b6⟩ := h
  refine ⟨by rw [up3_j (by decide)]; exact b1, by rw [up3_j (by decide)]; exact b2, by rw [len_a]; exact up3_s, by rw [up3_j (by decide)]; exact b4, by rw [up3_j (by decide), nop_a, if_pos hx]; exact b5, fun j hj => ?_⟩
  rw [len_a] at hj
  rw [up3_k (Or.inl (by decide)), up3_at, up3_at, up3_at, up3_at]
  by_cases q : j = l.length
  · rw [q, getD_e, if_neg (by omega), if_pos rfl, if_pos rfl]
    exact ⟨ha, hv⟩
  · rw [if_neg (by omega), if_neg (by omega), if_neg (by omega), if_neg (by omega), getD_l (by omega)]
    exact b6 j (by omega)
theorem MdS_2 {I : Im} {la key ro no l} {x : Nat × Nat} {a v : Int32} (h : MdS I la key ro no l) (hx : ¬ x.1 = 2) (ha : a = nI x.1) (hv : v = nI (enM key x)) : MdS (up3 (up3 (up3 (up3 I 30 0 (la + 2 * l.length) a) 30 0 (la + 2 * l.length + 1) v) 8 0 26 (nI (l.length + 1))) 8 0 28 (nI (nop l + 1))) la key ro no (l ++ [x]) := by
  obtain ⟨b1, b2, b3, b4, b5, b6⟩ := h
  refine ⟨by rw [up3_j (by decide), up3_j (by decide)]; exact b1, by rw [up3_j (by decide), up3_j (by decide)]; exact b2, by rw [len_a, up3_j (by decide)]; exact up3_s, by rw [up3_j (by decide), up3_j (by decide)]; exact b4, by rw [nop_a, if_neg hx]; exact up3_s, fun j hj => ?_⟩
  rw [len_a] at hj
  rw [up3_k (Or.inl (by decide)), up3_k (Or.inl (by decide)), up3_at, up3_at, up3_at, up3_at]
  by_cases q : j = l.length
  · rw [q, getD_e, if_neg (by omega), if_pos rfl, if_pos rfl]
    exact ⟨ha, hv⟩
  · rw [if_neg (by omega), if_neg (by omega), if_neg (by omega), if_neg (by omega), getD_l (by omega)]
    exact b6 j (by omega)
theorem c_X8_isSign {I : Im} {X d} {t : Nat → Nat} {n : Nat} {tk : Tk} (hn : n ≤ 96) (ht : ∀ j, j < n → t j < 256) (hT : MdT I t n tk) (hW : Wt t n tk) {c : Int32} {b : Nat} (hc : c = nI b) (hb : b < 256) : Rt mX8_isSign [.inr (.inr (some (8, 0))), .inl c] d (mk I X) (some (.inl (bI (tk.1 = 3 ∧ t tk.2.1 = b)))) (mk I X) := fun g gs Q K => by
  have e : tk.1 = 3 → (I 8 0 23 = c ↔ t tk.2.1 = b) := fun h3 => by
    have h1 := hW.2.2.2.1 (by omega)
    have h2 := hW.2.1
    have := ht tk.2.1 (by omega)
    rw [hT.2.2.2.2.2.2.1 h3, hc]
    exact nI_eq (by omega) (by omega)
  exact w_X8_isSign hn ht hT hW hc hb (fun a z => K_v (bI_t ⟨tkM_3.mp a, (e (tkM_3.mp a)).mp z⟩) K) (fun a z => K_v (bI_f (fun y => z ((e y.1).mpr y.2))) K) (fun a => K_v (bI_f (fun y => a (tkM_3.mpr y.1))) K)
theorem c_wat_0 {I : Im} {X d} {t : Nat → Nat} {n : Nat} {tk : Tk} (hn : n ≤ 96) (ht : ∀ j, j < n → t j < 256) (hT : MdT I t n tk) (hW : Wt t n tk) : Rt mX8_isWordAt [.inr (.inr (some (8, 0))), .inl 104, .inl 97, .inl 114, .inl 100] d (mk I X) (some (.inl (bI (kwH t tk)))) (mk I X) := fun g gs Q K =>
  w_wat_0 hn ht hT hW (fun h0 h1 h2 h3 h4 h5 => K_v (bI_t ⟨tkM_1.mp h0, h1, h2, h3, h4, h5⟩) K) (fun h0 h1 h2 h3 h4 h5 => K_v (bI_f (fun z => h5 (z.2.2.2.2.2))) K) (fun h0 h1 h2 h3 h4 => K_v (bI_f (fun z => h4 (z.2.2.2.2.1))) K) (fun h0 h1 h2 h3 => K_v (bI_f (fun z => h3 (z.2.2.2.1))) K) (fun h0 h1 h2 => K_v (bI_f (fun z => h2 (z.2.2.1))) K) (fun h0 h1 => K_v (bI_f (fun z => h1 (z.2.1))) K) (fun h0 => K_v (bI_f (fun z => h0 (tkM_1.mpr z.1))) K)
theorem c_wat_1 {I : Im} {X d} {t : Nat → Nat} {n : Nat} {tk : Tk} (hn : n ≤ 96) (ht : ∀ j, j < n → t j < 256) (hT : MdT I t n tk) (hW : Wt t n tk) : Rt mX8_isWordAt [.inr (.inr (some (8, 0))), .inl 102, .inl 101, .inl 101, .inl 0] d (mk I X) (some (.inl (bI (kwF t tk)))) (mk I X) := fun g gs Q K =>
  w_wat_1 hn ht hT hW (fun h0 h1 h2 h3 h4 => K_v (bI_t ⟨tkM_1.mp h0, h1, h2, h3, h4⟩) K) (fun h0 h1 h2 h3 h4 => K_v (bI_f (fun z => h4 (z.2.2.2.2))) K) (fun h0 h1 h2 h3 => K_v (bI_f (fun z => h3 (z.2.2.2.1))) K) (fun h0 h1 h2 => K_v (bI_f (fun z => h2 (z.2.2.1))) K) (fun h0 h1 => K_v (bI_f (fun z => h1 (z.2.1))) K) (fun h0 => K_v (bI_f (fun z => h0 (tkM_1.mpr z.1))) K)
theorem c_wat_2 {I : Im} {X d} {t : Nat → Nat} {n : Nat} {tk : Tk} (hn : n ≤ 96) (ht : ∀ j, j < n → t j < 256) (hT : MdT I t n tk) (hW : Wt t n tk) : Rt mX8_isWordAt [.inr (.inr (some (8, 0))), .inl 102, .inl 105, .inl 110, .inl 101] d (mk I X) (some (.inl (bI (kwN t tk)))) (mk I X) := fun g gs Q K =>
  w_wat_2 hn ht hT hW (fun h0 h1 h2 h3 h4 h5 => K_v (bI_t ⟨tkM_1.mp h0, h1, h2, h3, h4, h5⟩) K) (fun h0 h1 h2 h3 h4 h5 => K_v (bI_f (fun z => h5 (z.2.2.2.2.2))) K) (fun h0 h1 h2 h3 h4 => K_v (bI_f (fun z => h4 (z.2.2.2.2.1))) K) (fun h0 h1 h2 h3 => K_v (bI_f (fun z => h3 (z.2.2.2.1))) K) (fun h0 h1 h2 => K_v (bI_f (fun z => h2 (z.2.2.1))) K) (fun h0 h1 => K_v (bI_f (fun z => h1 (z.2.1))) K) (fun h0 => K_v (bI_f (fun z => h0 (tkM_1.mpr z.1))) K)
set_option maxRecDepth 100000 in
set_option maxHeartbeats 4000000 in
theorem w_X8_key {I : Nat → Nat → Nat → Int32} {X : am_Z} {g : am_F} {gs : List am_F} {d : Nat} {Q : Option am_V → am_M → Prop} {t : Nat → Nat} {n : Nat} {tk : Tk} (hn : n ≤ 96) (ht : ∀ j, j < n → t j < 256) (hT : MdT I t n tk) (hW : Wt t n tk)  (k0 : (¬ (kwH t tk)) → (¬ (kwF t tk)) → (¬ (kwN t tk)) → am_WP (am_psh g (some (.inl ((-1)))) :: gs) (d + 2) (mk I X) Q) (k1 : (¬ (kwH t tk)) → (¬ (kwF t tk)) → kwN t tk → am_WP (am_psh g (some (.inl (2))) :: gs) (d + 2) (mk I X) Q) (k2 : (¬ (kwH t tk)) → kwF t tk → am_WP (am_psh g (some (.inl (1))) :: gs) (d + 2) (mk I X) Q) (k3 : kwH t tk → am_WP (am_psh g (some (.inl (0))) :: gs) (d + 2) (mk I X) Q) : am_WP (am_entry mX8_key [.inr (.inr (some (8, 0)))] :: g :: gs) (d + 1) (mk I X) Q := by
  refine am_go 400 ?_
  refine (c_wat_0 (tk := tk) hn ht hT hW) _ _ _ ?_
  refine am_go 400 ?_
  refine am_if (fun h1 => ?_) (fun h1 => ?_)
  · have h1 := bI_0.mp h1
    refine (c_wat_1 (tk := tk) hn ht hT hW) _ _ _ ?_
    refine am_go 400 ?_
    refine am_if (fun h2 => ?_) (fun h2 => ?_)
    · have h2 := bI_0.mp h2
      refine (c_wat_2 (tk := tk) hn ht hT hW) _ _ _ ?_
      refine am_go 400 ?_
      refine am_if (fun h3 => ?_) (fun h3 => ?_)
      · have h3 := bI_0.mp h3
        exact k0 h1 h2 h3
      · have h3 := bI_1.mp h3
        exact k1 h1 h2 h3
    · have h2 := bI_1.mp h2
      exact k2 h1 h2
  · have h1 := bI_1.mp h1
    exact k3 h1
theorem c_X8_key {I : Im} {X d} {t : Nat → Nat} {n : Nat} {tk : Tk} (hn : n ≤ 96) (ht : ∀ j, j < n → t j < 256) (hT : MdT I t n tk) (hW : Wt t n tk) : Rt mX8_key [.inr (.inr (some (8, 0)))] (d + 1) (mk I X) (some (.inl (if kyA t tk = 3 then -1 else nI (kyA t tk)))) (mk I X) := fun g gs Q K => by
  have e : ∀ v (r : Int32), kyA t tk = v → (if v = 3 then -1 else nI v) = r → am_WP (am_psh g (some (.inl r)) :: gs) (d + 2) (mk I X) Q := fun v r h1 h2 => K_v (by rw [h1]; exact h2) K
  exact w_X8_key hn ht hT hW (fun a b c => e 3 _ (by unfold kyA; rw [if_neg a, if_neg b, if_neg c]) rfl) (fun a b c => e 2 _ (by unfold kyA; rw [if_neg a, if_neg b, if_pos c]) rfl) (fun a b => e 1 _ (by unfold kyA; rw [if_neg a, if_pos b]) rfl) (fun a => e 0 _ (by unfold kyA; rw [if_pos a]) rfl)
theorem nmI_c {key b : Nat} (hk : key < 3) : (nmI key b = none ∨ ∃ i, nmI key b = some i ∧ enM key (1, i) = b) := by
  unfold nmI
  rcases (show key = 0 ∨ key = 1 ∨ key = 2 by omega) with rfl | rfl | rfl
  · rw [if_pos rfl]
    split
    · rename_i e; exact Or.inr ⟨0, rfl, e.symm⟩
    · split
      · rename_i e; exact Or.inr ⟨1, rfl, e.symm⟩
      · split
        · rename_i e; exact Or.inr ⟨2, rfl, e.symm⟩
        · exact Or.inl rfl
  · rw [if_neg (by decide), if_pos rfl]
    split
    · rename_i e; exact Or.inr ⟨0, rfl, e.symm⟩
    · split
      · rename_i e; exact Or.inr ⟨1, rfl, e.symm⟩
      · exact Or.inl rfl
  · rw [if_neg (by decide), if_neg (by decide)]
    split
    · rename_i e; exact Or.inr ⟨0, rfl, e.symm⟩
    · split
      · rename_i e; exact Or.inr ⟨1, rfl, e.symm⟩
      · exact Or.inl rfl
theorem sgI_e {b i key : Nat} (h : sgI b = i) (hi : i < 9) : enM key (2, i) = b := by
  subst h
  unfold sgI at hi ⊢
  repeat' split
  all_goals first
    | (rename_i e; exact e.symm)
    | (simp_all; done)
    | omega
theorem c_isName_s {I X d} {x c : Int32} {key b i : Nat} (hx : x = nI key) (hk : key < 3) (hc : c = nI b) (hb : b < 256) (h : nmI key b = some i) : Rt mX8_isName [.inl x, .inl c] d (mk I X) (some (.inl 1)) (mk I X) := fun g gs Q K => by
  refine w_X8_isName hx hk hc hb ?_ ?_ ?_ ?_ ?_ ?_ ?_ ?_ ?_ ?_
  all_goals intros
  all_goals first
    | exact K
    | (exfalso; unfold nmI at h; simp_all)
theorem c_isName_n {I X d} {x c : Int32} {key b : Nat} (hx : x = nI key) (hk : key < 3) (hc : c = nI b) (hb : b < 256) (h : nmI key b = none) : Rt mX8_isName [.inl x, .inl c] d (mk I X) (some (.inl 0)) (mk I X) := fun g gs Q K => by
  refine w_X8_isName hx hk hc hb ?_ ?_ ?_ ?_ ?_ ?_ ?_ ?_ ?_ ?_
  all_goals intros
  all_goals first
    | exact K
    | (exfalso; unfold nmI at h; simp_all)
