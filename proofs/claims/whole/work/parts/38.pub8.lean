set_option maxRecDepth 100000 in
set_option maxHeartbeats 4000000 in
theorem w_X4_hasPlace {I : Nat → Nat → Nat → Int32} {X : am_Z} {g : am_F} {gs : List am_F} {d : Nat} {Q : Option am_V → am_M → Prop} {q : Nat} {x : Int32} (k0 : am_WP (am_psh g (some (.inl (bI ((0 : Int32) ≤ x ∧ x ≤ ((I 4 q 2) - 1))))) :: gs) (d + 2) (mk I X) Q) : am_WP (am_entry mX4_hasPlace [.inr (.inr (some (4, q))), .inl (x)] :: g :: gs) (d + 1) (mk I X) Q := by
  refine am_go 400 ?_
  refine (c_X7_within (x) (0) (((I 4 q 2) - 1))) _ _ _ ?_
  refine am_go 400 ?_
  refine am_t bI_z ?_
  exact k0
theorem c_X4_hasPlace {I X d} {q : Nat} {x : Int32} : Rt mX4_hasPlace [.inr (.inr (some (4, q))), .inl x] (d + 1) (mk I X) (some (.inl (bI ((0 : Int32) ≤ x ∧ x ≤ I 4 q 2 - 1)))) (mk I X) := fun g gs Q K => w_X4_hasPlace K
set_option maxRecDepth 100000 in
set_option maxHeartbeats 4000000 in
theorem w_X4_isNumber {I : Nat → Nat → Nat → Int32} {X : am_Z} {g : am_F} {gs : List am_F} {d : Nat} {Q : Option am_V → am_M → Prop} {x : Int32} {i : Nat} (e_x : x = nI i) (c_x : x.toNatClampNeg = i) {q : Nat} (hi : i < 24) (k0 : (¬ ((0 : Int32) ≤ x ∧ x ≤ ((I 4 q 2) - 1))) → am_WP (am_psh g (some (.inl (0))) :: gs) (d + 3) (mk I X) Q) (k1 : ((0 : Int32) ≤ x ∧ x ≤ ((I 4 q 2) - 1)) → ((I 25 q (kx x)) = (-1000000005)) → am_WP (am_psh g (some (.inl (0))) :: gs) (d + 3) (mk I X) Q) (k2 : ((0 : Int32) ≤ x ∧ x ≤ ((I 4 q 2) - 1)) → (¬ (I 25 q (kx x)) = (-1000000005)) → am_WP (am_psh g (some (.inl (1))) :: gs) (d + 3) (mk I X) Q) : am_WP (am_entry mX4_isNumber [.inr (.inr (some (4, q))), .inl (x)] :: g :: gs) (d + 2) (mk I X) Q := by
  subst c_x
  refine am_go 400 ?_
  refine (c_X4_hasPlace) _ _ _ ?_
  refine am_go 400 ?_
  refine am_if (fun h1 => ?_) (fun h1 => ?_)
  · have h1 := bI_0.mp h1
    exact k0 h1
  · have h1 := bI_1.mp h1
    refine am_f (ix_in (n := (x.toNatClampNeg)) (N := 24) e_x (by omega) (by decide)) ?_
    refine am_if (fun h2 => ?_) (fun h2 => ?_)
    · exact k1 h1 h2
    · exact k2 h1 h2
theorem c_X4_isNumber {I X d} {q i : Nat} {x : Int32} {r : Ro} (h : RoC I q r) (hz : r.2.1 ≤ 24) (hx : x = nI i) (hi : i < 24) : Rt mX4_isNumber [.inr (.inr (some (4, q))), .inl x] (d + 2) (mk I X) (some (.inl (bI (i < r.2.1 ∧ ¬ r.2.2 i = cNONE)))) (mk I X) := fun g gs Q K => by
  have e2 : I 4 q 2 = nI r.2.1 := h.2.1
  have e3 : I 25 q i = r.2.2 i := h.2.2 i hi
  have hp : (0 : Int32) ≤ x ∧ x ≤ I 4 q 2 - 1 ↔ i < r.2.1 := by
    rw [e2, hx]
    constructor
    · intro z
      have := (okn rfl (by omega) z).2
      rwa [show kx (nI i) = i from nI_clamp (by omega)] at this
    · intro z
      refine ⟨((nI_leI (by decide) (by omega)).mpr (Nat.zero_le _) : nI 0 ≤ nI i), ?_⟩
      rw [show nI r.2.1 - 1 = nI (r.2.1 - 1) from pk_sub (a := r.2.1) (b := 1) (by omega)]
      exact (nI_leI (by omega) (by omega)).mpr (by omega)
  refine w_X4_isNumber hx (ix_cl hx (by omega)) hi ?_ ?_ ?_
  · intro h0; exact K_v (bI_f (fun z => h0 (hp.mpr z.1))) K
  · intro h0 h1; rw [show kx x = i from ix_cl hx (by omega), e3] at h1; exact K_v (bI_f (fun z => z.2 h1)) K
  · intro h0 h1; rw [show kx x = i from ix_cl hx (by omega), e3] at h1; exact K_v (bI_t ⟨hp.mp h0, h1⟩) K
