def f_mark (s : St) (x p v : Int32) : Int32 × St := if 0 ≤ x ∧ x ≤ 3 then if (sh s (kx x)).1 = -1 then (cNOTH, s) else if 0 ≤ p ∧ p ≤ nI (sh s (kx x)).2.1 - 1 then if (sh s (kx x)).1 = 0 then if v = cNONE then (cKIND, s) else (1, stR s (kx x) ((sh s (kx x)).1, (sh s (kx x)).2.1, fu (sh s (kx x)).2.2 (kx p) v.toInt16.toInt32)) else if v = cNONE then (1, stR s (kx x) ((sh s (kx x)).1, (sh s (kx x)).2.1, fu (sh s (kx x)).2.2 (kx p) v)) else if -99999 ≤ v ∧ v ≤ 99999 then (1, stR s (kx x) ((sh s (kx x)).1, (sh s (kx x)).2.1, fu (sh s (kx x)).2.2 (kx p) v)) else (cBAD, s) else (cINDEX, s) else (cBAD, s)
theorem RC_pl {I : Im} {X s} {k j : Nat} {v : Int32} (h : RC I X s) (hk : k < 4) : RC (up3 I 25 k j v) X (stR s k ((sh s k).1, (sh s k).2.1, fu (sh s k).2.2 j v)) := by
  refine ⟨h.1, RC_im h.2.1 rfl (fun _ q => q), fun k' hk' => ?_, fun k' hk' => ?_, h.2.2.2.2⟩
  · show RoC _ k' (fu _ _ _ k')
    obtain ⟨a, b, c⟩ := shC h hk'
    by_cases e : k' = k
    · subst e
      rw [fu_s]
      refine ⟨a, b, fun i hi => ?_⟩
      rw [up3_at]
      show _ = if i = j then v else (sh s k').2.2 i
      rw [c i hi]
    · rw [fu_n e]
      exact ⟨a, b, fun i hi => by rw [up3_k (Or.inr e)]; exact c i hi⟩
  · obtain ⟨a, b, c, d⟩ := slC h hk'
    exact ⟨a, b, fun q => ⟨(c q).1, fun i hi => by rw [up3_k (Or.inr (by omega))]; exact (c q).2 i hi⟩, d⟩
theorem RM_pl {I : Im} {s} {k j : Nat} {v : Int32} (h : RM I s) (hk : k < 4) (hj : j < 24) : RM (up3 I 35 0 (24 * k + j) v) (stR s k ((sh s k).1, (sh s k).2.1, fu (sh s k).2.2 j v)) := by
  refine ⟨h.1, RM_im h.2.1 rfl rfl, fun k' hk' => ?_, h.2.2.2⟩
  show RoM _ k' (fu _ _ _ k')
  obtain ⟨a, b, c⟩ := shM h hk'
  by_cases e : k' = k
  · subst e
    rw [fu_s]
    refine ⟨a, b, fun i hi => ?_⟩
    rw [up3_at]
    show _ = if i = j then v else (sh s k').2.2 i
    by_cases q : i = j
    · rw [if_pos (by omega), if_pos q]
    · rw [if_neg (by omega), if_neg q]; exact c i hi
  · rw [fu_n e]
    exact ⟨a, b, fun i hi => by rw [up3_j (by omega)]; exact c i hi⟩
set_option maxRecDepth 100000 in
set_option maxHeartbeats 4000000 in
theorem w_X7_mark {I : Nat → Nat → Nat → Int32} {X : am_Z} {g : am_F} {gs : List am_F} {d : Nat} {Q : Option am_V → am_M → Prop} {s : St} (h : RC I X s) (G : GS s) {x p v : Int32} (k0 : (¬ ((0 : Int32) ≤ x ∧ x ≤ 3)) → am_WP (am_psh g (some (.inl ((-1000000001)))) :: gs) (d + 3) (mk I X) Q) (k1 : ((0 : Int32) ≤ x ∧ x ≤ 3) → ((I 4 (kx x) 1) = (-1)) → am_WP (am_psh g (some (.inl ((-1000000011)))) :: gs) (d + 3) (mk I X) Q) (k2 : ((0 : Int32) ≤ x ∧ x ≤ 3) → (¬ (I 4 (kx x) 1) = (-1)) → (¬ ((0 : Int32) ≤ p ∧ p ≤ ((I 4 (kx x) 2) - 1))) → am_WP (am_psh g (some (.inl ((-1000000013)))) :: gs) (d + 3) (mk I X) Q) (k3 : ((0 : Int32) ≤ x ∧ x ≤ 3) → (¬ (I 4 (kx x) 1) = (-1)) → ((0 : Int32) ≤ p ∧ p ≤ ((I 4 (kx x) 2) - 1)) → ((I 4 (kx x) 1) = 0) → (v = (-1000000005)) → am_WP (am_psh g (some (.inl ((-1000000012)))) :: gs) (d + 3) (mk I X) Q) (k4 : ((0 : Int32) ≤ x ∧ x ≤ 3) → (¬ (I 4 (kx x) 1) = (-1)) → ((0 : Int32) ≤ p ∧ p ≤ ((I 4 (kx x) 2) - 1)) → ((I 4 (kx x) 1) = 0) → (¬ v = (-1000000005)) → am_WP (am_psh g (some (.inl (1))) :: gs) (d + 3) (mk (up3 I 25 (kx x) (kx p) ((v : Int32).toInt16.toInt32)) X) Q) (k5 : ((0 : Int32) ≤ x ∧ x ≤ 3) → (¬ (I 4 (kx x) 1) = (-1)) → ((0 : Int32) ≤ p ∧ p ≤ ((I 4 (kx x) 2) - 1)) → (¬ (I 4 (kx x) 1) = 0) → (v = (-1000000005)) → am_WP (am_psh g (some (.inl (1))) :: gs) (d + 3) (mk (up3 I 25 (kx x) (kx p) (v)) X) Q) (k6 : ((0 : Int32) ≤ x ∧ x ≤ 3) → (¬ (I 4 (kx x) 1) = (-1)) → ((0 : Int32) ≤ p ∧ p ≤ ((I 4 (kx x) 2) - 1)) → (¬ (I 4 (kx x) 1) = 0) → (¬ v = (-1000000005)) → (¬ (((-99999) : Int32) ≤ v ∧ v ≤ 99999)) → am_WP (am_psh g (some (.inl ((-1000000001)))) :: gs) (d + 3) (mk I X) Q) (k7 : ((0 : Int32) ≤ x ∧ x ≤ 3) → (¬ (I 4 (kx x) 1) = (-1)) → ((0 : Int32) ≤ p ∧ p ≤ ((I 4 (kx x) 2) - 1)) → (¬ (I 4 (kx x) 1) = 0) → (¬ v = (-1000000005)) → (((-99999) : Int32) ≤ v ∧ v ≤ 99999) → am_WP (am_psh g (some (.inl (1))) :: gs) (d + 3) (mk (up3 I 25 (kx x) (kx p) (v)) X) Q) : am_WP (am_entry mX7_mark [.inr (.inr (some (7, 0))), .inl (x), .inl (p), .inl (v)] :: g :: gs) (d + 2) (mk I X) Q := by
  have hn : I 1 0 3 = nI (nb s) := h.1.1.1
  have hn8 : nb s ≤ 8 := G.1.1.1
  refine am_go 400 ?_
  refine (c_X7_isSheet (x := x)) _ _ _ ?_
  refine am_go 400 ?_
  refine am_if (fun h1 => ?_) (fun h1 => ?_)
  · have h1 := bI_0.mp h1
    exact k0 h1
  · have h1 := bI_1.mp h1
    obtain ⟨e_x, l_x⟩ := okl (m := 3) (by decide) h1
    have r1_x : I 4 (kx x) 1 = (sh s (kx x)).1 := (shC h (k := kx x) (by omega)).1
    have r2_x : I 4 (kx x) 2 = nI (sh s (kx x)).2.1 := (shC h (k := kx x) (by omega)).2.1
    have z_x : (sh s (kx x)).2.1 ≤ 24 := (G.2.2.1 (kx x) (by omega)).2
    have q_x : (sh s (kx x)).1 = -1 ∧ (sh s (kx x)).2.1 = 0 ∨ (sh s (kx x)).1 = 0 ∨ (sh s (kx x)).1 = 1 := (G.2.2.1 (kx x) (by omega)).1
    refine am_f (ix_in (n := (kx x)) (N := 4) e_x (by omega) (by decide)) ?_
    refine am_if (fun h2 => ?_) (fun h2 => ?_)
    · exact k1 h1 h2
    · refine am_go 400 ?_
      refine (c_X7_within (p) (0) (((I 4 (kx x) 2) - 1))) _ _ _ ?_
      refine am_go 400 ?_
      refine am_t bI_z ?_
      refine am_go 400 ?_
      refine am_if (fun h3 => ?_) (fun h3 => ?_)
      · have h3 := bI_0.mp h3
        exact k2 h1 h2 h3
      · have h3 := bI_1.mp h3
        obtain ⟨e_p, l_p⟩ := okn r2_x (by omega) h3
        refine am_if (fun h4 => ?_) (fun h4 => ?_)
        · refine am_if (fun h5 => ?_) (fun h5 => ?_)
          · exact k3 h1 h2 h3 h4 h5
          · refine am_f (ix_in (n := (kx p)) (N := 24) e_p (by omega) (by decide)) ?_
            exact k4 h1 h2 h3 h4 h5
        · refine am_if (fun h6 => ?_) (fun h6 => ?_)
          · refine am_f (ix_in (n := (kx p)) (N := 24) e_p (by omega) (by decide)) ?_
            exact k5 h1 h2 h3 h4 h6
          · refine (c_X7_within (v) ((-99999)) (99999)) _ _ _ ?_
            refine am_go 400 ?_
            refine am_if (fun h7 => ?_) (fun h7 => ?_)
            · have h7 := bI_0.mp h7
              exact k6 h1 h2 h3 h4 h6 h7
            · have h7 := bI_1.mp h7
              refine am_f (ix_in (n := (kx p)) (N := 24) e_p (by omega) (by decide)) ?_
              exact k7 h1 h2 h3 h4 h6 h7
theorem p_X7_mark {I X d s} (h : RC I X s) (G : GS s) (x p v : Int32) : Sp mX7_mark [.inr (.inr (some (7, 0))), .inl (x), .inl (p), .inl (v)] (d + 2) I X (OC I X (f_mark s x p v)) := fun g gs Q K => by
  have hn : I 1 0 3 = nI (nb s) := h.1.1.1
  have hn8 : nb s ≤ 8 := G.1.1.1
  have g8 : G8 s := G8_ G
  refine w_X7_mark h G  ?_ ?_ ?_ ?_ ?_ ?_ ?_ ?_
  · intro h0
    apply K_s K
    unfold f_mark
    rw [if_neg h0]
    exact ⟨rfl, h, FrC_r⟩
  · intro h0 h1
    obtain ⟨e_x, l_x⟩ := okl (m := 3) (by decide) h0
    have r1_x : I 4 (kx x) 1 = (sh s (kx x)).1 := (shC h (k := kx x) (by omega)).1
    have r2_x : I 4 (kx x) 2 = nI (sh s (kx x)).2.1 := (shC h (k := kx x) (by omega)).2.1
    have z_x : (sh s (kx x)).2.1 ≤ 24 := (G.2.2.1 (kx x) (by omega)).2
    have q_x : (sh s (kx x)).1 = -1 ∧ (sh s (kx x)).2.1 = 0 ∨ (sh s (kx x)).1 = 0 ∨ (sh s (kx x)).1 = 1 := (G.2.2.1 (kx x) (by omega)).1
    rw [r1_x] at h1
    apply K_s K
    unfold f_mark
    rw [if_pos h0, if_pos h1]
    exact ⟨rfl, h, FrC_r⟩
  · intro h0 h1 h2
    obtain ⟨e_x, l_x⟩ := okl (m := 3) (by decide) h0
    have r1_x : I 4 (kx x) 1 = (sh s (kx x)).1 := (shC h (k := kx x) (by omega)).1
    have r2_x : I 4 (kx x) 2 = nI (sh s (kx x)).2.1 := (shC h (k := kx x) (by omega)).2.1
    have z_x : (sh s (kx x)).2.1 ≤ 24 := (G.2.2.1 (kx x) (by omega)).2
    have q_x : (sh s (kx x)).1 = -1 ∧ (sh s (kx x)).2.1 = 0 ∨ (sh s (kx x)).1 = 0 ∨ (sh s (kx x)).1 = 1 := (G.2.2.1 (kx x) (by omega)).1
    rw [r1_x] at h1
    rw [r2_x] at h2
    apply K_s K
    unfold f_mark
    rw [if_pos h0, if_neg h1, if_neg h2]
    exact ⟨rfl, h, FrC_r⟩
  · intro h0 h1 h2 h3 h4
    obtain ⟨e_x, l_x⟩ := okl (m := 3) (by decide) h0
    have r1_x : I 4 (kx x) 1 = (sh s (kx x)).1 := (shC h (k := kx x) (by omega)).1
    have r2_x : I 4 (kx x) 2 = nI (sh s (kx x)).2.1 := (shC h (k := kx x) (by omega)).2.1
    have z_x : (sh s (kx x)).2.1 ≤ 24 := (G.2.2.1 (kx x) (by omega)).2
    have q_x : (sh s (kx x)).1 = -1 ∧ (sh s (kx x)).2.1 = 0 ∨ (sh s (kx x)).1 = 0 ∨ (sh s (kx x)).1 = 1 := (G.2.2.1 (kx x) (by omega)).1
    rw [r1_x] at h1
    obtain ⟨e_p, l_p⟩ := okn r2_x (by omega) h2
    rw [r2_x] at h2
    rw [r1_x] at h3
    apply K_s K
    unfold f_mark
    rw [if_pos h0, if_neg h1, if_pos h2, if_pos h3, if_pos h4]
    exact ⟨rfl, h, FrC_r⟩
  · intro h0 h1 h2 h3 h4
    obtain ⟨e_x, l_x⟩ := okl (m := 3) (by decide) h0
    have r1_x : I 4 (kx x) 1 = (sh s (kx x)).1 := (shC h (k := kx x) (by omega)).1
    have r2_x : I 4 (kx x) 2 = nI (sh s (kx x)).2.1 := (shC h (k := kx x) (by omega)).2.1
    have z_x : (sh s (kx x)).2.1 ≤ 24 := (G.2.2.1 (kx x) (by omega)).2
    have q_x : (sh s (kx x)).1 = -1 ∧ (sh s (kx x)).2.1 = 0 ∨ (sh s (kx x)).1 = 0 ∨ (sh s (kx x)).1 = 1 := (G.2.2.1 (kx x) (by omega)).1
    rw [r1_x] at h1
    obtain ⟨e_p, l_p⟩ := okn r2_x (by omega) h2
    rw [r2_x] at h2
    rw [r1_x] at h3
    apply K_s K
    unfold f_mark
    rw [if_pos h0, if_neg h1, if_pos h2, if_pos h3, if_neg h4]
    exact ⟨rfl, RC_pl h (by omega), FrC_3 rfl FrC_r⟩
  · intro h0 h1 h2 h3 h4
    obtain ⟨e_x, l_x⟩ := okl (m := 3) (by decide) h0
    have r1_x : I 4 (kx x) 1 = (sh s (kx x)).1 := (shC h (k := kx x) (by omega)).1
    have r2_x : I 4 (kx x) 2 = nI (sh s (kx x)).2.1 := (shC h (k := kx x) (by omega)).2.1
    have z_x : (sh s (kx x)).2.1 ≤ 24 := (G.2.2.1 (kx x) (by omega)).2
    have q_x : (sh s (kx x)).1 = -1 ∧ (sh s (kx x)).2.1 = 0 ∨ (sh s (kx x)).1 = 0 ∨ (sh s (kx x)).1 = 1 := (G.2.2.1 (kx x) (by omega)).1
    rw [r1_x] at h1
    obtain ⟨e_p, l_p⟩ := okn r2_x (by omega) h2
    rw [r2_x] at h2
    rw [r1_x] at h3
    apply K_s K
    unfold f_mark
    rw [if_pos h0, if_neg h1, if_pos h2, if_neg h3, if_pos h4]
    exact ⟨rfl, RC_pl h (by omega), FrC_3 rfl FrC_r⟩
  · intro h0 h1 h2 h3 h4 h5
    obtain ⟨e_x, l_x⟩ := okl (m := 3) (by decide) h0
    have r1_x : I 4 (kx x) 1 = (sh s (kx x)).1 := (shC h (k := kx x) (by omega)).1
    have r2_x : I 4 (kx x) 2 = nI (sh s (kx x)).2.1 := (shC h (k := kx x) (by omega)).2.1
    have z_x : (sh s (kx x)).2.1 ≤ 24 := (G.2.2.1 (kx x) (by omega)).2
    have q_x : (sh s (kx x)).1 = -1 ∧ (sh s (kx x)).2.1 = 0 ∨ (sh s (kx x)).1 = 0 ∨ (sh s (kx x)).1 = 1 := (G.2.2.1 (kx x) (by omega)).1
    rw [r1_x] at h1
    obtain ⟨e_p, l_p⟩ := okn r2_x (by omega) h2
    rw [r2_x] at h2
    rw [r1_x] at h3
    apply K_s K
    unfold f_mark
    rw [if_pos h0, if_neg h1, if_pos h2, if_neg h3, if_neg h4, if_neg h5]
    exact ⟨rfl, h, FrC_r⟩
  · intro h0 h1 h2 h3 h4 h5
    obtain ⟨e_x, l_x⟩ := okl (m := 3) (by decide) h0
    have r1_x : I 4 (kx x) 1 = (sh s (kx x)).1 := (shC h (k := kx x) (by omega)).1
    have r2_x : I 4 (kx x) 2 = nI (sh s (kx x)).2.1 := (shC h (k := kx x) (by omega)).2.1
    have z_x : (sh s (kx x)).2.1 ≤ 24 := (G.2.2.1 (kx x) (by omega)).2
    have q_x : (sh s (kx x)).1 = -1 ∧ (sh s (kx x)).2.1 = 0 ∨ (sh s (kx x)).1 = 0 ∨ (sh s (kx x)).1 = 1 := (G.2.2.1 (kx x) (by omega)).1
    rw [r1_x] at h1
    obtain ⟨e_p, l_p⟩ := okn r2_x (by omega) h2
    rw [r2_x] at h2
    rw [r1_x] at h3
    apply K_s K
    unfold f_mark
    rw [if_pos h0, if_neg h1, if_pos h2, if_neg h3, if_neg h4, if_pos h5]
    exact ⟨rfl, RC_pl h (by omega), FrC_3 rfl FrC_r⟩

set_option maxRecDepth 100000 in
set_option maxHeartbeats 4000000 in
theorem w_X8_mark {I : Nat → Nat → Nat → Int32} {X : am_Z} {g : am_F} {gs : List am_F} {d : Nat} {Q : Option am_V → am_M → Prop} {s : St} (h : RM I s) (G : GS s) {x p v : Int32} (k0 : (¬ ((0 : Int32) ≤ x ∧ x ≤ 3)) → am_WP (am_psh g (some (.inl ((-1000000001)))) :: gs) (d + 3) (mk I X) Q) (k1 : ((0 : Int32) ≤ x ∧ x ≤ 3) → (0 ≤ (I 33 0 (kx x))) → (¬ ((0 : Int32) ≤ p ∧ p ≤ ((I 34 0 (kx x)) - 1))) → am_WP (am_psh g (some (.inl ((-1000000013)))) :: gs) (d + 3) (mk I X) Q) (k2 : ((0 : Int32) ≤ x ∧ x ≤ 3) → (0 ≤ (I 33 0 (kx x))) → ((0 : Int32) ≤ p ∧ p ≤ ((I 34 0 (kx x)) - 1)) → ((I 33 0 (kx x)) = 0) → (v = (-1000000005)) → am_WP (am_psh g (some (.inl ((-1000000012)))) :: gs) (d + 3) (mk I X) Q) (k3 : ((0 : Int32) ≤ x ∧ x ≤ 3) → (0 ≤ (I 33 0 (kx x))) → ((0 : Int32) ≤ p ∧ p ≤ ((I 34 0 (kx x)) - 1)) → ((I 33 0 (kx x)) = 0) → (¬ v = (-1000000005)) → ((I 33 0 (kx x)) = 1) → (¬ (((-99999) : Int32) ≤ v ∧ v ≤ 99999)) → am_WP (am_psh g (some (.inl ((-1000000001)))) :: gs) (d + 3) (mk I X) Q) (k4 : ((0 : Int32) ≤ x ∧ x ≤ 3) → (0 ≤ (I 33 0 (kx x))) → ((0 : Int32) ≤ p ∧ p ≤ ((I 34 0 (kx x)) - 1)) → ((I 33 0 (kx x)) = 0) → (¬ v = (-1000000005)) → ((I 33 0 (kx x)) = 1) → (((-99999) : Int32) ≤ v ∧ v ≤ 99999) → am_WP (am_psh g (some (.inl (1))) :: gs) (d + 3) (mk (up3 I 35 0 ((((24 * x) + p)).toNatClampNeg) (((v <<< (16 &&& 31)) >>> (16 &&& 31)))) X) Q) (k5 : ((0 : Int32) ≤ x ∧ x ≤ 3) → (0 ≤ (I 33 0 (kx x))) → ((0 : Int32) ≤ p ∧ p ≤ ((I 34 0 (kx x)) - 1)) → ((I 33 0 (kx x)) = 0) → (¬ v = (-1000000005)) → (¬ (I 33 0 (kx x)) = 1) → am_WP (am_psh g (some (.inl (1))) :: gs) (d + 3) (mk (up3 I 35 0 ((((24 * x) + p)).toNatClampNeg) (((v <<< (16 &&& 31)) >>> (16 &&& 31)))) X) Q) (k6 : ((0 : Int32) ≤ x ∧ x ≤ 3) → (0 ≤ (I 33 0 (kx x))) → ((0 : Int32) ≤ p ∧ p ≤ ((I 34 0 (kx x)) - 1)) → (¬ (I 33 0 (kx x)) = 0) → ((I 33 0 (kx x)) = 1) → (v = (-1000000005)) → am_WP (am_psh g (some (.inl (1))) :: gs) (d + 3) (mk (up3 I 35 0 ((((24 * x) + p)).toNatClampNeg) (v)) X) Q) (k7 : ((0 : Int32) ≤ x ∧ x ≤ 3) → (0 ≤ (I 33 0 (kx x))) → ((0 : Int32) ≤ p ∧ p ≤ ((I 34 0 (kx x)) - 1)) → (¬ (I 33 0 (kx x)) = 0) → ((I 33 0 (kx x)) = 1) → (¬ v = (-1000000005)) → (¬ (((-99999) : Int32) ≤ v ∧ v ≤ 99999)) → am_WP (am_psh g (some (.inl ((-1000000001)))) :: gs) (d + 3) (mk I X) Q) (k8 : ((0 : Int32) ≤ x ∧ x ≤ 3) → (0 ≤ (I 33 0 (kx x))) → ((0 : Int32) ≤ p ∧ p ≤ ((I 34 0 (kx x)) - 1)) → (¬ (I 33 0 (kx x)) = 0) → ((I 33 0 (kx x)) = 1) → (¬ v = (-1000000005)) → (((-99999) : Int32) ≤ v ∧ v ≤ 99999) → am_WP (am_psh g (some (.inl (1))) :: gs) (d + 3) (mk (up3 I 35 0 ((((24 * x) + p)).toNatClampNeg) (v)) X) Q) (k9 : ((0 : Int32) ≤ x ∧ x ≤ 3) → (0 ≤ (I 33 0 (kx x))) → ((0 : Int32) ≤ p ∧ p ≤ ((I 34 0 (kx x)) - 1)) → (¬ (I 33 0 (kx x)) = 0) → (¬ (I 33 0 (kx x)) = 1) → am_WP (am_psh g (some (.inl (1))) :: gs) (d + 3) (mk (up3 I 35 0 ((((24 * x) + p)).toNatClampNeg) (v)) X) Q) (k10 : ((0 : Int32) ≤ x ∧ x ≤ 3) → (¬ 0 ≤ (I 33 0 (kx x))) → am_WP (am_psh g (some (.inl ((-1000000011)))) :: gs) (d + 3) (mk I X) Q) : am_WP (am_entry mX8_mark [.inr (.inr (some (8, 0))), .inl (x), .inl (p), .inl (v)] :: g :: gs) (d + 2) (mk I X) Q := by
  have hn : I 30 0 0 = nI (nb s) := h.1.1.1
  have hn8 : nb s ≤ 8 := G.1.1.1
  refine am_go 400 ?_
  refine (c_X8_isSheet (x := x)) _ _ _ ?_
  refine am_go 400 ?_
  refine am_if (fun h1 => ?_) (fun h1 => ?_)
  · have h1 := bI_0.mp h1
    exact k0 h1
  · have h1 := bI_1.mp h1
    obtain ⟨e_x, l_x⟩ := okl (m := 3) (by decide) h1
    have r1_x : I 33 0 (kx x) = (sh s (kx x)).1 := (shM h (k := kx x) (by omega)).1
    have r2_x : I 34 0 (kx x) = nI (sh s (kx x)).2.1 := (shM h (k := kx x) (by omega)).2.1
    have z_x : (sh s (kx x)).2.1 ≤ 24 := (G.2.2.1 (kx x) (by omega)).2
    have q_x : (sh s (kx x)).1 = -1 ∧ (sh s (kx x)).2.1 = 0 ∨ (sh s (kx x)).1 = 0 ∨ (sh s (kx x)).1 = 1 := (G.2.2.1 (kx x) (by omega)).1
    refine am_f (ix_in (n := (kx x)) (N := 4) e_x (by omega) (by decide)) ?_
    refine am_if (fun h2 => ?_) (fun h2 => ?_)
    · refine am_f (ix_in (n := (kx x)) (N := 4) e_x (by omega) (by decide)) ?_
      refine (m_isIn (p) (0) (((I 34 0 (kx x)) - 1)) _ _) _ _ _ ?_
      refine am_go 400 ?_
      refine am_if (fun h3 => ?_) (fun h3 => ?_)
      · have h3 := bI_0.mp h3
        exact k1 h1 h2 h3
      · have h3 := bI_1.mp h3
        obtain ⟨e_p, l_p⟩ := okn r2_x (by omega) h3
        refine am_f (ix_in (n := (kx x)) (N := 4) e_x (by omega) (by decide)) ?_
        refine am_if (fun h4 => ?_) (fun h4 => ?_)
        · refine am_if (fun h5 => ?_) (fun h5 => ?_)
          · exact k2 h1 h2 h3 h4 h5
          · refine am_f (ix_in (n := (kx x)) (N := 4) e_x (by omega) (by decide)) ?_
            refine am_if (fun h6 => ?_) (fun h6 => ?_)
            · refine am_f (h5) ?_
              refine (m_isIn (v) ((-99999)) (99999) _ _) _ _ _ ?_
              refine am_go 400 ?_
              refine am_if (fun h7 => ?_) (fun h7 => ?_)
              · have h7 := bI_0.mp h7
                exact k3 h1 h2 h3 h4 h5 h6 h7
              · have h7 := bI_1.mp h7
                refine am_f (ix_in (n := (kx x)) (N := 4) e_x (by omega) (by decide)) ?_
                refine am_t (h4) ?_
                refine am_f (ix_in (n := ((24 * (kx x)) + (kx p))) (N := 96) (nI_addE (nI_mulE (rfl : (24 : Int32) = nI 24) e_x) e_p) (by omega) (by decide)) ?_
                exact k4 h1 h2 h3 h4 h5 h6 h7
            · refine am_f (ix_in (n := (kx x)) (N := 4) e_x (by omega) (by decide)) ?_
              refine am_t (h4) ?_
              refine am_f (ix_in (n := ((24 * (kx x)) + (kx p))) (N := 96) (nI_addE (nI_mulE (rfl : (24 : Int32) = nI 24) e_x) e_p) (by omega) (by decide)) ?_
              exact k5 h1 h2 h3 h4 h5 h6
        · refine am_f (ix_in (n := (kx x)) (N := 4) e_x (by omega) (by decide)) ?_
          refine am_if (fun h8 => ?_) (fun h8 => ?_)
          · refine am_if (fun h9 => ?_) (fun h9 => ?_)
            · refine am_f (ix_in (n := (kx x)) (N := 4) e_x (by omega) (by decide)) ?_
              refine am_f (h4) ?_
              refine am_f (ix_in (n := ((24 * (kx x)) + (kx p))) (N := 96) (nI_addE (nI_mulE (rfl : (24 : Int32) = nI 24) e_x) e_p) (by omega) (by decide)) ?_
              exact k6 h1 h2 h3 h4 h8 h9
            · refine (m_isIn (v) ((-99999)) (99999) _ _) _ _ _ ?_
              refine am_go 400 ?_
              refine am_if (fun h10 => ?_) (fun h10 => ?_)
              · have h10 := bI_0.mp h10
                exact k7 h1 h2 h3 h4 h8 h9 h10
              · have h10 := bI_1.mp h10
                refine am_f (ix_in (n := (kx x)) (N := 4) e_x (by omega) (by decide)) ?_
                refine am_f (h4) ?_
                refine am_f (ix_in (n := ((24 * (kx x)) + (kx p))) (N := 96) (nI_addE (nI_mulE (rfl : (24 : Int32) = nI 24) e_x) e_p) (by omega) (by decide)) ?_
                exact k8 h1 h2 h3 h4 h8 h9 h10
          · refine am_f (ix_in (n := (kx x)) (N := 4) e_x (by omega) (by decide)) ?_
            refine am_f (h4) ?_
            refine am_f (ix_in (n := ((24 * (kx x)) + (kx p))) (N := 96) (nI_addE (nI_mulE (rfl : (24 : Int32) = nI 24) e_x) e_p) (by omega) (by decide)) ?_
            exact k9 h1 h2 h3 h4 h8
    · exact k10 h1 h2
theorem p_X8_mark {I X d s} (h : RM I s) (G : GS s) (x p v : Int32) : Sp mX8_mark [.inr (.inr (some (8, 0))), .inl (x), .inl (p), .inl (v)] (d + 2) I X (OM I X (f_mark s x p v)) := fun g gs Q K => by
  have hn : I 30 0 0 = nI (nb s) := h.1.1.1
  have hn8 : nb s ≤ 8 := G.1.1.1
  have g8 : G8 s := G8_ G
  refine w_X8_mark h G  ?_ ?_ ?_ ?_ ?_ ?_ ?_ ?_ ?_ ?_ ?_
  · intro h0
    apply K_s K
    unfold f_mark
    rw [if_neg h0]
    exact ⟨rfl, h, ⟨FrM_r, rfl⟩⟩
  · intro h0 h1 h2
    obtain ⟨e_x, l_x⟩ := okl (m := 3) (by decide) h0
    have r1_x : I 33 0 (kx x) = (sh s (kx x)).1 := (shM h (k := kx x) (by omega)).1
    have r2_x : I 34 0 (kx x) = nI (sh s (kx x)).2.1 := (shM h (k := kx x) (by omega)).2.1
    have z_x : (sh s (kx x)).2.1 ≤ 24 := (G.2.2.1 (kx x) (by omega)).2
    have q_x : (sh s (kx x)).1 = -1 ∧ (sh s (kx x)).2.1 = 0 ∨ (sh s (kx x)).1 = 0 ∨ (sh s (kx x)).1 = 1 := (G.2.2.1 (kx x) (by omega)).1
    rw [r1_x] at h1
    rw [r2_x] at h2
    have ns : ¬ (sh s (kx x)).1 = -1 := fun z => by rw [z] at h1; exact absurd h1 (by decide)
    apply K_s K
    unfold f_mark
    rw [if_pos h0, if_neg ns, if_neg h2]
    exact ⟨rfl, h, FrM_r, rfl⟩
  · intro h0 h1 h2 h3 h4
    obtain ⟨e_x, l_x⟩ := okl (m := 3) (by decide) h0
    have r1_x : I 33 0 (kx x) = (sh s (kx x)).1 := (shM h (k := kx x) (by omega)).1
    have r2_x : I 34 0 (kx x) = nI (sh s (kx x)).2.1 := (shM h (k := kx x) (by omega)).2.1
    have z_x : (sh s (kx x)).2.1 ≤ 24 := (G.2.2.1 (kx x) (by omega)).2
    have q_x : (sh s (kx x)).1 = -1 ∧ (sh s (kx x)).2.1 = 0 ∨ (sh s (kx x)).1 = 0 ∨ (sh s (kx x)).1 = 1 := (G.2.2.1 (kx x) (by omega)).1
    rw [r1_x] at h1
    obtain ⟨e_p, l_p⟩ := okn r2_x (by omega) h2
    rw [r2_x] at h2
    rw [r1_x] at h3
    have ns : ¬ (sh s (kx x)).1 = -1 := fun z => by rw [z] at h1; exact absurd h1 (by decide)
    apply K_s K
    unfold f_mark
    rw [if_pos h0, if_neg ns, if_pos h2, if_pos h3, if_pos h4]
    exact ⟨rfl, h, FrM_r, rfl⟩
  · intro h0 h1 h2 h3 h4 h5 h6
    obtain ⟨e_x, l_x⟩ := okl (m := 3) (by decide) h0
    have r1_x : I 33 0 (kx x) = (sh s (kx x)).1 := (shM h (k := kx x) (by omega)).1
    have r2_x : I 34 0 (kx x) = nI (sh s (kx x)).2.1 := (shM h (k := kx x) (by omega)).2.1
    have z_x : (sh s (kx x)).2.1 ≤ 24 := (G.2.2.1 (kx x) (by omega)).2
    have q_x : (sh s (kx x)).1 = -1 ∧ (sh s (kx x)).2.1 = 0 ∨ (sh s (kx x)).1 = 0 ∨ (sh s (kx x)).1 = 1 := (G.2.2.1 (kx x) (by omega)).1
    rw [r1_x] at h1
    obtain ⟨e_p, l_p⟩ := okn r2_x (by omega) h2
    rw [r2_x] at h2
    rw [r1_x] at h3
    rw [r1_x] at h5
    exact absurd (h3.symm.trans h5) (by decide)
  · intro h0 h1 h2 h3 h4 h5 h6
    obtain ⟨e_x, l_x⟩ := okl (m := 3) (by decide) h0
    have r1_x : I 33 0 (kx x) = (sh s (kx x)).1 := (shM h (k := kx x) (by omega)).1
    have r2_x : I 34 0 (kx x) = nI (sh s (kx x)).2.1 := (shM h (k := kx x) (by omega)).2.1
    have z_x : (sh s (kx x)).2.1 ≤ 24 := (G.2.2.1 (kx x) (by omega)).2
    have q_x : (sh s (kx x)).1 = -1 ∧ (sh s (kx x)).2.1 = 0 ∨ (sh s (kx x)).1 = 0 ∨ (sh s (kx x)).1 = 1 := (G.2.2.1 (kx x) (by omega)).1
    rw [r1_x] at h1
    obtain ⟨e_p, l_p⟩ := okn r2_x (by omega) h2
    rw [r2_x] at h2
    rw [r1_x] at h3
    rw [r1_x] at h5
    exact absurd (h3.symm.trans h5) (by decide)
  · intro h0 h1 h2 h3 h4 h5
    obtain ⟨e_x, l_x⟩ := okl (m := 3) (by decide) h0
    have r1_x : I 33 0 (kx x) = (sh s (kx x)).1 := (shM h (k := kx x) (by omega)).1
    have r2_x : I 34 0 (kx x) = nI (sh s (kx x)).2.1 := (shM h (k := kx x) (by omega)).2.1
    have z_x : (sh s (kx x)).2.1 ≤ 24 := (G.2.2.1 (kx x) (by omega)).2
    have q_x : (sh s (kx x)).1 = -1 ∧ (sh s (kx x)).2.1 = 0 ∨ (sh s (kx x)).1 = 0 ∨ (sh s (kx x)).1 = 1 := (G.2.2.1 (kx x) (by omega)).1
    rw [r1_x] at h1
    obtain ⟨e_p, l_p⟩ := okn r2_x (by omega) h2
    rw [r2_x] at h2
    rw [r1_x] at h3
    rw [r1_x] at h5
    have ns : ¬ (sh s (kx x)).1 = -1 := fun z => by rw [z] at h1; exact absurd h1 (by decide)
    have ec : ((24 * x) + p).toNatClampNeg = 24 * kx x + kx p := ix_cl (n := 24 * kx x + kx p) (nI_addE (nI_mulE (rfl : (24 : Int32) = nI 24) e_x) e_p) (by omega)
    rw [ec]
    rw [sh16]
    apply K_s K
    unfold f_mark
    rw [if_pos h0, if_neg ns, if_pos h2, if_pos h3, if_neg h4]
    exact ⟨rfl, RM_pl h (by omega) (by omega), FrM_3 rfl FrM_r, rfl⟩
  · intro h0 h1 h2 h3 h4 h5
    obtain ⟨e_x, l_x⟩ := okl (m := 3) (by decide) h0
    have r1_x : I 33 0 (kx x) = (sh s (kx x)).1 := (shM h (k := kx x) (by omega)).1
    have r2_x : I 34 0 (kx x) = nI (sh s (kx x)).2.1 := (shM h (k := kx x) (by omega)).2.1
    have z_x : (sh s (kx x)).2.1 ≤ 24 := (G.2.2.1 (kx x) (by omega)).2
    have q_x : (sh s (kx x)).1 = -1 ∧ (sh s (kx x)).2.1 = 0 ∨ (sh s (kx x)).1 = 0 ∨ (sh s (kx x)).1 = 1 := (G.2.2.1 (kx x) (by omega)).1
    rw [r1_x] at h1
    obtain ⟨e_p, l_p⟩ := okn r2_x (by omega) h2
    rw [r2_x] at h2
    rw [r1_x] at h3
    rw [r1_x] at h4
    have ns : ¬ (sh s (kx x)).1 = -1 := fun z => by rw [z] at h1; exact absurd h1 (by decide)
    have ec : ((24 * x) + p).toNatClampNeg = 24 * kx x + kx p := ix_cl (n := 24 * kx x + kx p) (nI_addE (nI_mulE (rfl : (24 : Int32) = nI 24) e_x) e_p) (by omega)
    rw [ec]
    apply K_s K
    unfold f_mark
    rw [if_pos h0, if_neg ns, if_pos h2, if_neg h3, if_pos h5]
    exact ⟨rfl, RM_pl h (by omega) (by omega), FrM_3 rfl FrM_r, rfl⟩
  · intro h0 h1 h2 h3 h4 h5 h6
    obtain ⟨e_x, l_x⟩ := okl (m := 3) (by decide) h0
    have r1_x : I 33 0 (kx x) = (sh s (kx x)).1 := (shM h (k := kx x) (by omega)).1
    have r2_x : I 34 0 (kx x) = nI (sh s (kx x)).2.1 := (shM h (k := kx x) (by omega)).2.1
    have z_x : (sh s (kx x)).2.1 ≤ 24 := (G.2.2.1 (kx x) (by omega)).2
    have q_x : (sh s (kx x)).1 = -1 ∧ (sh s (kx x)).2.1 = 0 ∨ (sh s (kx x)).1 = 0 ∨ (sh s (kx x)).1 = 1 := (G.2.2.1 (kx x) (by omega)).1
    rw [r1_x] at h1
    obtain ⟨e_p, l_p⟩ := okn r2_x (by omega) h2
    rw [r2_x] at h2
    rw [r1_x] at h3
    rw [r1_x] at h4
    have ns : ¬ (sh s (kx x)).1 = -1 := fun z => by rw [z] at h1; exact absurd h1 (by decide)
    apply K_s K
    unfold f_mark
    rw [if_pos h0, if_neg ns, if_pos h2, if_neg h3, if_neg h5, if_neg h6]
    exact ⟨rfl, h, FrM_r, rfl⟩
  · intro h0 h1 h2 h3 h4 h5 h6
    obtain ⟨e_x, l_x⟩ := okl (m := 3) (by decide) h0
    have r1_x : I 33 0 (kx x) = (sh s (kx x)).1 := (shM h (k := kx x) (by omega)).1
    have r2_x : I 34 0 (kx x) = nI (sh s (kx x)).2.1 := (shM h (k := kx x) (by omega)).2.1
    have z_x : (sh s (kx x)).2.1 ≤ 24 := (G.2.2.1 (kx x) (by omega)).2
    have q_x : (sh s (kx x)).1 = -1 ∧ (sh s (kx x)).2.1 = 0 ∨ (sh s (kx x)).1 = 0 ∨ (sh s (kx x)).1 = 1 := (G.2.2.1 (kx x) (by omega)).1
    rw [r1_x] at h1
    obtain ⟨e_p, l_p⟩ := okn r2_x (by omega) h2
    rw [r2_x] at h2
    rw [r1_x] at h3
    rw [r1_x] at h4
    have ns : ¬ (sh s (kx x)).1 = -1 := fun z => by rw [z] at h1; exact absurd h1 (by decide)
    have ec : ((24 * x) + p).toNatClampNeg = 24 * kx x + kx p := ix_cl (n := 24 * kx x + kx p) (nI_addE (nI_mulE (rfl : (24 : Int32) = nI 24) e_x) e_p) (by omega)
    rw [ec]
    apply K_s K
    unfold f_mark
    rw [if_pos h0, if_neg ns, if_pos h2, if_neg h3, if_neg h5, if_pos h6]
    exact ⟨rfl, RM_pl h (by omega) (by omega), FrM_3 rfl FrM_r, rfl⟩
  · intro h0 h1 h2 h3 h4
    obtain ⟨e_x, l_x⟩ := okl (m := 3) (by decide) h0
    have r1_x : I 33 0 (kx x) = (sh s (kx x)).1 := (shM h (k := kx x) (by omega)).1
    have r2_x : I 34 0 (kx x) = nI (sh s (kx x)).2.1 := (shM h (k := kx x) (by omega)).2.1
    have z_x : (sh s (kx x)).2.1 ≤ 24 := (G.2.2.1 (kx x) (by omega)).2
    have q_x : (sh s (kx x)).1 = -1 ∧ (sh s (kx x)).2.1 = 0 ∨ (sh s (kx x)).1 = 0 ∨ (sh s (kx x)).1 = 1 := (G.2.2.1 (kx x) (by omega)).1
    rw [r1_x] at h1
    obtain ⟨e_p, l_p⟩ := okn r2_x (by omega) h2
    rw [r2_x] at h2
    rw [r1_x] at h3
    rw [r1_x] at h4
    rcases q_x with q | q | q
    · rw [q.1] at h1; exact absurd h1 (by decide)
    · exact absurd q h3
    · exact absurd q h4
  · intro h0 h1
    obtain ⟨e_x, l_x⟩ := okl (m := 3) (by decide) h0
    have r1_x : I 33 0 (kx x) = (sh s (kx x)).1 := (shM h (k := kx x) (by omega)).1
    have r2_x : I 34 0 (kx x) = nI (sh s (kx x)).2.1 := (shM h (k := kx x) (by omega)).2.1
    have z_x : (sh s (kx x)).2.1 ≤ 24 := (G.2.2.1 (kx x) (by omega)).2
    have q_x : (sh s (kx x)).1 = -1 ∧ (sh s (kx x)).2.1 = 0 ∨ (sh s (kx x)).1 = 0 ∨ (sh s (kx x)).1 = 1 := (G.2.2.1 (kx x) (by omega)).1
    rw [r1_x] at h1
    have ns : (sh s (kx x)).1 = -1 := by
      rcases q_x with q | q | q
      · exact q.1
      · rw [q] at h1; exact absurd h1 (by decide)
      · rw [q] at h1; exact absurd h1 (by decide)
    apply K_s K
    unfold f_mark
    rw [if_pos h0, if_pos ns]
    exact ⟨rfl, h, FrM_r, rfl⟩

