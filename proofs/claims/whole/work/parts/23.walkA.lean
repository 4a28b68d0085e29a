set_option maxRecDepth 100000 in
set_option maxHeartbeats 4000000 in
theorem w_X8_grips {I : Nat → Nat → Nat → Int32} {X : am_Z} {g : am_F} {gs : List am_F} {d : Nat} {Q : Option am_V → am_M → Prop} {k l : Nat} (hk : k < 8) (hl : l < 6) (k0 : ((I 30 0 (6 + 18 * k + 0)) = 2) → am_WP (am_psh g (some (.inl (((wit (((I 30 0 (6 + 18 * k + (12 + l))) - (3 * (I 30 0 (6 + 18 * k + 5))))) (24)) + 3)))) :: gs) (d + 2) (mk I X) Q) (k1 : (¬ (I 30 0 (6 + 18 * k + 0)) = 2) → ((I 30 0 (6 + 18 * k + 0)) = 3) → am_WP (am_psh g (some (.inl ((wit (((wit (((I 30 0 (6 + 18 * k + (12 + l))) - (3 * (I 30 0 (6 + 18 * k + 5))))) (24)) - 4)) (24))))) :: gs) (d + 2) (mk I X) Q) (k2 : (¬ (I 30 0 (6 + 18 * k + 0)) = 2) → (¬ (I 30 0 (6 + 18 * k + 0)) = 3) → ((I 30 0 (6 + 18 * k + 0)) = 4) → am_WP (am_psh g (some (.inl (((wit (((I 30 0 (6 + 18 * k + (12 + l))) - (3 * (I 30 0 (6 + 18 * k + 5))))) (24)) + 4)))) :: gs) (d + 2) (mk I X) Q) (k3 : (¬ (I 30 0 (6 + 18 * k + 0)) = 2) → (¬ (I 30 0 (6 + 18 * k + 0)) = 3) → (¬ (I 30 0 (6 + 18 * k + 0)) = 4) → ((I 30 0 (6 + 18 * k + 0)) = 5) → am_WP (am_psh g (some (.inl (((wit (((I 30 0 (6 + 18 * k + (12 + l))) - (3 * (I 30 0 (6 + 18 * k + 5))))) (24)) / 2)))) :: gs) (d + 2) (mk I X) Q) (k4 : (¬ (I 30 0 (6 + 18 * k + 0)) = 2) → (¬ (I 30 0 (6 + 18 * k + 0)) = 3) → (¬ (I 30 0 (6 + 18 * k + 0)) = 4) → (¬ (I 30 0 (6 + 18 * k + 0)) = 5) → am_WP (am_psh g (some (.inl ((wit (((I 30 0 (6 + 18 * k + (12 + l))) - (3 * (I 30 0 (6 + 18 * k + 5))))) (24))))) :: gs) (d + 2) (mk I X) Q) : am_WP (am_entry mX8_grips [.inr (.inr (some (8, 0))), .inl (nI k), .inl (nI l)] :: g :: gs) (d + 1) (mk I X) Q := by
  refine am_go 400 ?_
  refine (c8_of (k := k) (j := (12 + l)) rfl (nI_addE (rfl : (12 : Int32) = nI 12) rfl) (by omega)) _ _ _ ?_
  refine am_go 400 ?_
  refine (c8_of (k := k) (j := 5) rfl rfl (by omega)) _ _ _ ?_
  refine am_go 400 ?_
  refine (c8_within (((I 30 0 (6 + 18 * k + (12 + l))) - (3 * (I 30 0 (6 + 18 * k + 5))))) (24)) _ _ _ ?_
  refine am_go 400 ?_
  refine (c8_of (k := k) (j := 0) rfl rfl (by omega)) _ _ _ ?_
  refine am_go 400 ?_
  refine am_if (fun h1 => ?_) (fun h1 => ?_)
  · exact k0 h1
  refine am_if (fun h2 => ?_) (fun h2 => ?_)
  · refine (c8_within (((wit (((I 30 0 (6 + 18 * k + (12 + l))) - (3 * (I 30 0 (6 + 18 * k + 5))))) (24)) - 4)) (24)) _ _ _ ?_
    refine am_go 400 ?_
    exact k1 h1 h2
  refine am_if (fun h3 => ?_) (fun h3 => ?_)
  · exact k2 h1 h2 h3
  refine am_if (fun h4 => ?_) (fun h4 => ?_)
  · exact k3 h1 h2 h3 h4
  exact k4 h1 h2 h3 h4
theorem c_X8_grips {I X d} {k l : Nat} (hk : k < 8) (hl : l < 6) : Rt mX8_grips [.inr (.inr (some (8, 0))), .inl (nI k), .inl (nI l)] (d + 1) (mk I X) (some (.inl (grS (mB (I 30 0) k) l))) (mk I X) := fun g gs Q K =>
  w_X8_grips hk hl (fun h0 => K_v (by unfold grS mB; dsimp only; rw [if_pos h0]) K) (fun h0 h1 => K_v (by unfold grS mB; dsimp only; rw [if_neg h0, if_pos h1]) K) (fun h0 h1 h2 => K_v (by unfold grS mB; dsimp only; rw [if_neg h0, if_neg h1, if_pos h2]) K) (fun h0 h1 h2 h3 => K_v (by unfold grS mB; dsimp only; rw [if_neg h0, if_neg h1, if_neg h2, if_pos h3]) K) (fun h0 h1 h2 h3 => K_v (by unfold grS mB; dsimp only; rw [if_neg h0, if_neg h1, if_neg h2, if_neg h3]) K)
set_option maxRecDepth 100000 in
set_option maxHeartbeats 4000000 in
theorem w_X8_worth {I : Nat → Nat → Nat → Int32} {X : am_Z} {g : am_F} {gs : List am_F} {d : Nat} {Q : Option am_V → am_M → Prop} {k : Nat} (hk : k < 8) (k0 : ((I 30 0 (6 + 18 * k + 0)) = 1) → am_WP (am_psh g (some (.inl (((I 30 0 (6 + 18 * k + 1)) + 7)))) :: gs) (d + 2) (mk I X) Q) (k1 : (¬ (I 30 0 (6 + 18 * k + 0)) = 1) → ((I 30 0 (6 + 18 * k + 0)) = 2) → am_WP (am_psh g (some (.inl ((99 - (I 30 0 (6 + 18 * k + 1)))))) :: gs) (d + 2) (mk I X) Q) (k2 : (¬ (I 30 0 (6 + 18 * k + 0)) = 1) → (¬ (I 30 0 (6 + 18 * k + 0)) = 2) → ((I 30 0 (6 + 18 * k + 0)) = 3) → am_WP (am_psh g (some (.inl ((2 * ((I 30 0 (6 + 18 * k + 1)) + 7))))) :: gs) (d + 2) (mk I X) Q) (k3 : (¬ (I 30 0 (6 + 18 * k + 0)) = 1) → (¬ (I 30 0 (6 + 18 * k + 0)) = 2) → (¬ (I 30 0 (6 + 18 * k + 0)) = 3) → ((I 30 0 (6 + 18 * k + 0)) = 4) → am_WP (am_psh g (some (.inl ((93 - (I 30 0 (6 + 18 * k + 1)))))) :: gs) (d + 2) (mk I X) Q) (k4 : (¬ (I 30 0 (6 + 18 * k + 0)) = 1) → (¬ (I 30 0 (6 + 18 * k + 0)) = 2) → (¬ (I 30 0 (6 + 18 * k + 0)) = 3) → (¬ (I 30 0 (6 + 18 * k + 0)) = 4) → ((I 30 0 (6 + 18 * k + 0)) = 5) → am_WP (am_psh g (some (.inl (3))) :: gs) (d + 2) (mk I X) Q) (k5 : (¬ (I 30 0 (6 + 18 * k + 0)) = 1) → (¬ (I 30 0 (6 + 18 * k + 0)) = 2) → (¬ (I 30 0 (6 + 18 * k + 0)) = 3) → (¬ (I 30 0 (6 + 18 * k + 0)) = 4) → (¬ (I 30 0 (6 + 18 * k + 0)) = 5) → am_WP (am_psh g (some (.inl ((I 30 0 (6 + 18 * k + 1))))) :: gs) (d + 2) (mk I X) Q) : am_WP (am_entry mX8_worth [.inr (.inr (some (8, 0))), .inl (nI k)] :: g :: gs) (d + 1) (mk I X) Q := by
  refine am_go 400 ?_
  refine (c8_of (k := k) (j := 1) rfl rfl (by omega)) _ _ _ ?_
  refine am_go 400 ?_
  refine (c8_of (k := k) (j := 0) rfl rfl (by omega)) _ _ _ ?_
  refine am_go 400 ?_
  refine am_if (fun h1 => ?_) (fun h1 => ?_)
  · exact k0 h1
  refine am_if (fun h2 => ?_) (fun h2 => ?_)
  · exact k1 h1 h2
  refine am_if (fun h3 => ?_) (fun h3 => ?_)
  · exact k2 h1 h2 h3
  refine am_if (fun h4 => ?_) (fun h4 => ?_)
  · exact k3 h1 h2 h3 h4
  refine am_if (fun h5 => ?_) (fun h5 => ?_)
  · exact k4 h1 h2 h3 h4 h5
  exact k5 h1 h2 h3 h4 h5
theorem c_X8_worth {I X d} {k : Nat} (hk : k < 8) : Rt mX8_worth [.inr (.inr (some (8, 0))), .inl (nI k)] (d + 1) (mk I X) (some (.inl (wrS ((mB (I 30 0) k).1 0) ((mB (I 30 0) k).1 1)))) (mk I X) := fun g gs Q K =>
  w_X8_worth hk (fun h0 => K_v (by unfold wrS mB; dsimp only; rw [if_pos h0]) K) (fun h0 h1 => K_v (by unfold wrS mB; dsimp only; rw [if_neg h0, if_pos h1]) K) (fun h0 h1 h2 => K_v (by unfold wrS mB; dsimp only; rw [if_neg h0, if_neg h1, if_pos h2]) K) (fun h0 h1 h2 h3 => K_v (by unfold wrS mB; dsimp only; rw [if_neg h0, if_neg h1, if_neg h2, if_pos h3]) K) (fun h0 h1 h2 h3 h4 => K_v (by unfold wrS mB; dsimp only; rw [if_neg h0, if_neg h1, if_neg h2, if_neg h3, if_pos h4]) K) (fun h0 h1 h2 h3 h4 => K_v (by unfold wrS mB; dsimp only; rw [if_neg h0, if_neg h1, if_neg h2, if_neg h3, if_neg h4]) K)
set_option maxRecDepth 100000 in
set_option maxHeartbeats 4000000 in
theorem w_X8_gripsFrom {I : Nat → Nat → Nat → Int32} {X : am_Z} {g : am_F} {gs : List am_F} {d : Nat} {Q : Option am_V → am_M → Prop} {k l : Nat} (hk : k < 8) (k0 : am_WP ((mX8_gripsFrom, 5, [some (.inr (.inr (some (8, 0)))), some (.inl (nI k)), some (.inl (nI l)), some (.inl (0)), some (.inl (nI l))], []) :: g :: gs) (d + 2) (mk I X) Q) : am_WP (am_entry mX8_gripsFrom [.inr (.inr (some (8, 0))), .inl (nI k), .inl (nI l)] :: g :: gs) (d + 2) (mk I X) Q := by
  refine am_go 4 ?_
  exact k0
set_option maxRecDepth 100000 in
set_option maxHeartbeats 4000000 in
theorem w_X8_gripsFrom_5 {I : Nat → Nat → Nat → Int32} {X : am_Z} {g : am_F} {gs : List am_F} {d : Nat} {Q : Option am_V → am_M → Prop} {k l i : Nat} {sm : Int32} (hk : k < 8) (hi : i ≤ 6) (k0 : (6 ≤ i) → am_WP (am_psh g (some (.inl (sm))) :: gs) (d + 3) (mk I X) Q) (k1 : (¬ (6 ≤ i)) → am_WP ((mX8_gripsFrom, 5, [some (.inr (.inr (some (8, 0)))), some (.inl (nI k)), some (.inl (nI l)), some (.inl ((sm + (grS (mB (I 30 0) k) i)))), some (.inl ((nI i + 1)))], []) :: g :: gs) (d + 2) (mk I X) Q) : am_WP ((mX8_gripsFrom, 5, [some (.inr (.inr (some (8, 0)))), some (.inl (nI k)), some (.inl (nI l)), some (.inl (sm)), some (.inl (nI i))], []) :: g :: gs) (d + 2) (mk I X) Q := by
  refine am_go 400 ?_
  refine am_if (fun h1 => ?_) (fun h1 => ?_)
  · have nh1 := (le_nat (a := 6) (b := i) (rfl : (6 : Int32) = nI 6) (rfl : (nI i : Int32) = nI i) (by omega) (by omega)).mp h1
    exact k0 nh1
  · have nh1 := mt (le_nat (a := 6) (b := i) (rfl : (6 : Int32) = nI 6) (rfl : (nI i : Int32) = nI i) (by omega) (by omega)).mpr h1
    refine (c_X8_grips (k := k) (l := i) (by omega) (by omega)) _ _ _ ?_
    refine am_go 400 ?_
    exact k1 nh1
set_option maxRecDepth 100000 in
set_option maxHeartbeats 4000000 in
theorem w_X7_within {I : Nat → Nat → Nat → Int32} {X : am_Z} {g : am_F} {gs : List am_F} {d : Nat} {Q : Option am_V → am_M → Prop} {v lo hi : Int32} (k0 : (v < lo) → am_WP (am_psh g (some (.inl (0))) :: gs) (d + 1) (mk I X) Q) (k1 : (¬ v < lo) → (hi < v) → am_WP (am_psh g (some (.inl (0))) :: gs) (d + 1) (mk I X) Q) (k2 : (¬ v < lo) → (¬ hi < v) → am_WP (am_psh g (some (.inl (1))) :: gs) (d + 1) (mk I X) Q) : am_WP (am_entry mX7_within [.inl (v), .inl (lo), .inl (hi)] :: g :: gs) (d) (mk I X) Q := by
  refine am_go 400 ?_
  refine am_if (fun h1 => ?_) (fun h1 => ?_)
  · exact k0 h1
  · refine am_if (fun h2 => ?_) (fun h2 => ?_)
    · exact k1 h1 h2
    · exact k2 h1 h2
set_option maxRecDepth 100000 in
set_option maxHeartbeats 4000000 in
theorem w_X7_heldWithin {I : Nat → Nat → Nat → Int32} {X : am_Z} {g : am_F} {gs : List am_F} {d : Nat} {Q : Option am_V → am_M → Prop} {v lo hi : Int32} (k0 : am_WP (am_psh g (some (.inl ((if lo < (if hi < v then hi else v) then (if hi < v then hi else v) else lo)))) :: gs) (d + 1) (mk I X) Q) : am_WP (am_entry mX7_heldWithin [.inl (v), .inl (lo), .inl (hi)] :: g :: gs) (d) (mk I X) Q := by
  refine am_go 400 ?_
  exact k0
set_option maxRecDepth 100000 in
set_option maxHeartbeats 4000000 in
theorem w_X7_worthOf {I : Nat → Nat → Nat → Int32} {X : am_Z} {g : am_F} {gs : List am_F} {d : Nat} {Q : Option am_V → am_M → Prop} {k y : Int32} (k0 : (k = 1) → am_WP (am_psh g (some (.inl ((y + 7)))) :: gs) (d + 1) (mk I X) Q) (k1 : (¬ k = 1) → (k = 2) → am_WP (am_psh g (some (.inl ((99 - y)))) :: gs) (d + 1) (mk I X) Q) (k2 : (¬ k = 1) → (¬ k = 2) → (k = 3) → am_WP (am_psh g (some (.inl ((2 * (y + 7))))) :: gs) (d + 1) (mk I X) Q) (k3 : (¬ k = 1) → (¬ k = 2) → (¬ k = 3) → (k = 4) → am_WP (am_psh g (some (.inl (((99 - y) - 6)))) :: gs) (d + 1) (mk I X) Q) (k4 : (¬ k = 1) → (¬ k = 2) → (¬ k = 3) → (¬ k = 4) → (k = 5) → am_WP (am_psh g (some (.inl (3))) :: gs) (d + 1) (mk I X) Q) (k5 : (¬ k = 1) → (¬ k = 2) → (¬ k = 3) → (¬ k = 4) → (¬ k = 5) → am_WP (am_psh g (some (.inl (y))) :: gs) (d + 1) (mk I X) Q) : am_WP (am_entry mX7_worthOf [.inl (k), .inl (y)] :: g :: gs) (d) (mk I X) Q := by
  refine am_go 400 ?_
  refine am_if (fun h1 => ?_) (fun h1 => ?_)
  · exact k0 h1
  refine am_if (fun h2 => ?_) (fun h2 => ?_)
  · exact k1 h1 h2
  refine am_if (fun h3 => ?_) (fun h3 => ?_)
  · exact k2 h1 h2 h3
  refine am_if (fun h4 => ?_) (fun h4 => ?_)
  · exact k3 h1 h2 h3 h4
  refine am_if (fun h5 => ?_) (fun h5 => ?_)
  · exact k4 h1 h2 h3 h4 h5
  exact k5 h1 h2 h3 h4 h5
set_option maxRecDepth 100000 in
set_option maxHeartbeats 4000000 in
theorem w_X0_grips {I : Nat → Nat → Nat → Int32} {X : am_Z} {g : am_F} {gs : List am_F} {d : Nat} {Q : Option am_V → am_M → Prop} {x : Int32} {l0 : Nat} (e_x : x = nI l0) (c_x : x.toNatClampNeg = l0) {q : Nat} (hl : l0 < 6) (k0 : ((I 0 q 2) = 2) → am_WP (am_psh g (some (.inl (((if ((I 17 q l0) - (3 * (I 0 q 7))) < 0 then 0 else ((I 17 q l0) - (3 * (I 0 q 7)))) + 3)))) :: gs) (d + 1) (mk I X) Q) (k1 : (¬ (I 0 q 2) = 2) → ((I 0 q 2) = 3) → am_WP (am_psh g (some (.inl ((if ((if ((I 17 q l0) - (3 * (I 0 q 7))) < 0 then 0 else ((I 17 q l0) - (3 * (I 0 q 7)))) - 4) < 0 then 0 else ((if ((I 17 q l0) - (3 * (I 0 q 7))) < 0 then 0 else ((I 17 q l0) - (3 * (I 0 q 7)))) - 4))))) :: gs) (d + 1) (mk I X) Q) (k2 : (¬ (I 0 q 2) = 2) → (¬ (I 0 q 2) = 3) → ((I 0 q 2) = 4) → am_WP (am_psh g (some (.inl (((if ((I 17 q l0) - (3 * (I 0 q 7))) < 0 then 0 else ((I 17 q l0) - (3 * (I 0 q 7)))) + 4)))) :: gs) (d + 1) (mk I X) Q) (k3 : (¬ (I 0 q 2) = 2) → (¬ (I 0 q 2) = 3) → (¬ (I 0 q 2) = 4) → ((I 0 q 2) = 5) → am_WP (am_psh g (some (.inl (((if ((I 17 q l0) - (3 * (I 0 q 7))) < 0 then 0 else ((I 17 q l0) - (3 * (I 0 q 7)))) / 2)))) :: gs) (d + 1) (mk I X) Q) (k4 : (¬ (I 0 q 2) = 2) → (¬ (I 0 q 2) = 3) → (¬ (I 0 q 2) = 4) → (¬ (I 0 q 2) = 5) → am_WP (am_psh g (some (.inl ((if ((I 17 q l0) - (3 * (I 0 q 7))) < 0 then 0 else ((I 17 q l0) - (3 * (I 0 q 7))))))) :: gs) (d + 1) (mk I X) Q) : am_WP (am_entry mX0_grips [.inr (.inr (some (0, q))), .inl (x)] :: g :: gs) (d) (mk I X) Q := by
  subst c_x
  refine am_go 400 ?_
  refine am_f (ix_in (n := (x.toNatClampNeg)) (N := 6) e_x (by omega) (by decide)) ?_
  refine am_if (fun h1 => ?_) (fun h1 => ?_)
  · exact k0 h1
  refine am_if (fun h2 => ?_) (fun h2 => ?_)
  · exact k1 h1 h2
  refine am_if (fun h3 => ?_) (fun h3 => ?_)
  · exact k2 h1 h2 h3
  refine am_if (fun h4 => ?_) (fun h4 => ?_)
  · exact k3 h1 h2 h3 h4
  exact k4 h1 h2 h3 h4
