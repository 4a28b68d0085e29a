theorem Lb_bk {I I2} (L : Lb I I2) : Lb I (fl I2 30 0 0 150 (I2 43 0)) := ⟨fun j hj => L.1 j hj, fun j hj => by rw [Lb_row L], fun g hg => by rw [fl_g (fun e => hg (by omega))]; exact L.2.2.1 g hg, L.2.2.2.1, by rw [Lb_row L]⟩
theorem Lb_3 {I J j v} (L : Lb I J) (hj : j < 150) (h1 : j ≠ 1) : Lb I (up3 J 30 0 j v) := ⟨fun i hi => L.1 i hi, fun i hi => by rw [up3_j (by omega)]; exact L.2.1 i hi, fun g hg => by rw [up3_g (fun e => hg (by omega))]; exact L.2.2.1 g hg, L.2.2.2.1, by rw [up3_j (fun e => h1 e.symm)]; exact L.2.2.2.2⟩
set_option maxRecDepth 100000 in
set_option maxHeartbeats 4000000 in
theorem w_X8_laid {I : Nat → Nat → Nat → Int32} {X : am_Z} {g : am_F} {gs : List am_F} {d : Nat} {Q : Option am_V → am_M → Prop} {s : St} (h : RM I s) (G : GS s) {x y z : Int32} (k0 : (¬ ((0 : Int32) ≤ x ∧ x ≤ (nI (nb s)) - 1)) → am_WP (am_psh g (some (.inl ((-1000000001)))) :: gs) (d + 7) (mk I X) Q) (k1 : ((0 : Int32) ≤ x ∧ x ≤ (nI (nb s)) - 1) → (¬ ((0 : Int32) ≤ y ∧ y ≤ 60)) → am_WP (am_psh g (some (.inl ((-1000000001)))) :: gs) (d + 7) (mk I X) Q) (k2 : ((0 : Int32) ≤ x ∧ x ≤ (nI (nb s)) - 1) → ((0 : Int32) ≤ y ∧ y ≤ 60) → (¬ ((0 : Int32) ≤ z ∧ z ≤ 999)) → am_WP (am_psh g (some (.inl ((-1000000001)))) :: gs) (d + 7) (mk I X) Q) (k3 : ((0 : Int32) ≤ x ∧ x ≤ (nI (nb s)) - 1) → ((0 : Int32) ≤ y ∧ y ≤ 60) → ((0 : Int32) ≤ z ∧ z ≤ 999) → ∀ (I1 : Im), (RepM (I1 30 0) (yrs (kx y) s.1.1) ∧ FrY (fl I 43 0 0 150 (I 30 0)) I1) → ∀ (I2 : Im), (Gf I1 I2) → ∀ (I3 : Im), (RepM (I3 30 0) (yrs (kx y) (flip s.1.1 (kx x))) ∧ FrY (up3 (fl I2 30 0 0 150 (I2 43 0)) 30 0 (6 + 18 * (kx x) + 2) ((nI (1 - ((s.1.1.2.2.2 (kx x)).1 2))))) I3) → ∀ (I4 : Im), (Gf I3 I4) → ((oM (trE (yrs (kx y) s.1.1, s.1.2) (kx x) (kx z))) < 0) → am_WP (am_psh g (some (.inl ((-1000000005)))) :: gs) (d + 7) (mk (fl I4 30 0 0 150 (I4 43 0)) X) Q) (k4 : ((0 : Int32) ≤ x ∧ x ≤ (nI (nb s)) - 1) → ((0 : Int32) ≤ y ∧ y ≤ 60) → ((0 : Int32) ≤ z ∧ z ≤ 999) → ∀ (I1 : Im), (RepM (I1 30 0) (yrs (kx y) s.1.1) ∧ FrY (fl I 43 0 0 150 (I 30 0)) I1) → ∀ (I2 : Im), (Gf I1 I2) → ∀ (I3 : Im), (RepM (I3 30 0) (yrs (kx y) (flip s.1.1 (kx x))) ∧ FrY (up3 (fl I2 30 0 0 150 (I2 43 0)) 30 0 (6 + 18 * (kx x) + 2) ((nI (1 - ((s.1.1.2.2.2 (kx x)).1 2))))) I3) → ∀ (I4 : Im), (Gf I3 I4) → (¬ (oM (trE (yrs (kx y) s.1.1, s.1.2) (kx x) (kx z))) < 0) → (0 ≤ (oM (trE (yrs (kx y) (flip s.1.1 (kx x)), s.1.2) (kx x) (kx z)))) → am_WP (am_psh g (some (.inl (((oM (trE (yrs (kx y) s.1.1, s.1.2) (kx x) (kx z))) - (oM (trE (yrs (kx y) (flip s.1.1 (kx x)), s.1.2) (kx x) (kx z))))))) :: gs) (d + 7) (mk (fl I4 30 0 0 150 (I4 43 0)) X) Q) (k5 : ((0 : Int32) ≤ x ∧ x ≤ (nI (nb s)) - 1) → ((0 : Int32) ≤ y ∧ y ≤ 60) → ((0 : Int32) ≤ z ∧ z ≤ 999) → ∀ (I1 : Im), (RepM (I1 30 0) (yrs (kx y) s.1.1) ∧ FrY (fl I 43 0 0 150 (I 30 0)) I1) → ∀ (I2 : Im), (Gf I1 I2) → ∀ (I3 : Im), (RepM (I3 30 0) (yrs (kx y) (flip s.1.1 (kx x))) ∧ FrY (up3 (fl I2 30 0 0 150 (I2 43 0)) 30 0 (6 + 18 * (kx x) + 2) ((nI (1 - ((s.1.1.2.2.2 (kx x)).1 2))))) I3) → ∀ (I4 : Im), (Gf I3 I4) → (¬ (oM (trE (yrs (kx y) s.1.1, s.1.2) (kx x) (kx z))) < 0) → (¬ 0 ≤ (oM (trE (yrs (kx y) (flip s.1.1 (kx x)), s.1.2) (kx x) (kx z)))) → am_WP (am_psh g (some (.inl ((-1000000005)))) :: gs) (d + 7) (mk (fl I4 30 0 0 150 (I4 43 0)) X) Q) : am_WP (am_entry mX8_laid [.inr (.inr (some (8, 0))), .inl (x), .inl (y), .inl (z)] :: g :: gs) (d + 6) (mk I X) Q := by
  have hn8 : nb s ≤ 8 := G.1.1.1
  refine am_go 400 ?_
  have tk0 : I 30 0 0 = nI (nb s) := h.1.1.1
  refine (c_X8_isBottle (x := x)) _ _ _ ?_
  refine am_go 400 ?_
  refine am_if (fun h1 => ?_) (fun h1 => ?_)
  · have h1 := bI_0.mp h1
    have h1 : ¬ ((0 : Int32) ≤ x ∧ x ≤ (I 30 0 0) - 1) := h1
    try rw [tk0] at h1
    exact k0 h1
  · have h1 := bI_1.mp h1
    have h1 : (0 : Int32) ≤ x ∧ x ≤ (I 30 0 0) - 1 := h1
    try rw [tk0] at h1
    obtain ⟨e_x, l_x⟩ := okb rfl hn8 h1
    obtain ⟨g0_x, g1_x, g2_x, g3_x, g5_x, gs_x⟩ := id (GS_b G l_x)
    refine (m_isIn (y) (0) (60) _ _) _ _ _ ?_
    refine am_go 400 ?_
    refine am_if (fun h2 => ?_) (fun h2 => ?_)
    · have h2 := bI_0.mp h2
      exact k1 h1 h2
    · have h2 := bI_1.mp h2
      obtain ⟨e_y, l_y⟩ := okl (m := 60) (by decide) h2
      refine (c_X8_isForce (x := z)) _ _ _ ?_
      refine am_go 400 ?_
      refine am_if (fun h3 => ?_) (fun h3 => ?_)
      · have h3 := bI_0.mp h3
        exact k2 h1 h2 h3
      · have h3 := bI_1.mp h3
        obtain ⟨e_z, l_z⟩ := okl (m := 999) (by decide) h3
        refine (c_laysBy) _ _ _ ?_
        refine am_go 400 ?_
        refine (c_X8_goesOnMany (I := (fl I 43 0 0 150 (I 30 0))) (n := (kx y)) (σ := s.1.1) e_y h.1.1 (GC_D G.1.1) (by omega)) _ _ _ ?_
        intro I1 p1
        refine am_go 400 ?_
        refine (c_X8_treeOf (I := I1) (b := (kx x)) (fo := (kx z)) (CxM_L h (Lb_Y Lb_0 p1.2) p1.1 (show (kx x) < (yrs (kx y) s.1.1).1 by rw [yrs_n]; exact l_x)) ((GD_yrs (GC_D G.1.1)).2.2.2 (kx x) (show (kx x) < (yrs (kx y) s.1.1).1 by rw [yrs_n]; exact l_x)) G.1.2.2.1 G.1.2.2.2 e_x (by omega) e_z (by omega)) _ _ _ ?_
        intro I2 p2
        refine am_go 400 ?_
        refine (c_laysBack) _ _ _ ?_
        refine am_go 400 ?_
        have bd : ((s.1.1.2.2.2 (kx x)).1 2) ≤ 1 := (GS_b G l_x).2.2.1
        have tk1 : (fl I2 30 0 0 150 (I2 43 0)) 30 0 (6 + 18 * (kx x) + 2) = nI ((s.1.1.2.2.2 (kx x)).1 2) := ((congrFun (Lb_row (Lb_G (Lb_Y Lb_0 p1.2) p2)) _).trans (vM0 (j := 2) h l_x (by decide)))
        refine (c8_of (k := (kx x)) (j := 2) e_x rfl (by omega)) _ _ _ ?_
        refine am_go 400 ?_
        have tk2 : (1 - ((fl I2 30 0 0 150 (I2 43 0)) 30 0 (6 + 18 * (kx x) + 2))) = nI (1 - ((s.1.1.2.2.2 (kx x)).1 2)) := by first | exact (nI_subE (rfl : (1 : Int32) = nI 1) tk1 (by omega)) | (((try rw [tk1])); first | done | exact (nI_subE (rfl : (1 : Int32) = nI 1) tk1 (by omega)))
        refine (c8_puts (k := (kx x)) (j := 2) e_x rfl (by omega)) _ _ _ ?_
        refine am_go 400 ?_
        refine (c_X8_goesOnMany (I := (up3 (fl I2 30 0 0 150 (I2 43 0)) 30 0 (6 + 18 * (kx x) + 2) (((1 - ((fl I2 30 0 0 150 (I2 43 0)) 30 0 (6 + 18 * (kx x) + 2))))))) (n := (kx y)) (σ := (flip s.1.1 (kx x))) e_y (show RepM ((up3 (fl I2 30 0 0 150 (I2 43 0)) 30 0 (6 + 18 * (kx x) + 2) (((1 - ((fl I2 30 0 0 150 (I2 43 0)) 30 0 (6 + 18 * (kx x) + 2)))))) 30 0) (flip s.1.1 (kx x)) from by (try rw [tk2]); (try rw [tk1]); exact RepM_0 (j := 2) (show RepM (fl I2 30 0 0 150 (I2 43 0) 30 0) s.1.1 from by rw [Lb_row (Lb_G (Lb_Y Lb_0 p1.2) p2)]; exact h.1.1) l_x (by decide) rfl) (GD_flip (GC_D G.1.1) l_x) (by omega)) _ _ _ ?_
        intro I3 p3
        have p3 : RepM (I3 30 0) (yrs (kx y) (flip s.1.1 (kx x))) ∧ FrY (up3 (fl I2 30 0 0 150 (I2 43 0)) 30 0 (6 + 18 * (kx x) + 2) (((1 - ((fl I2 30 0 0 150 (I2 43 0)) 30 0 (6 + 18 * (kx x) + 2)))))) I3 := p3
        try rw [tk2] at p3
        try rw [tk1] at p3
        refine am_go 400 ?_
        refine (c_X8_treeOf (I := I3) (b := (kx x)) (fo := (kx z)) (CxM_L h (Lb_Y (Lb_3 (Lb_bk (Lb_G (Lb_Y Lb_0 p1.2) p2)) (by omega) (by omega)) p3.2) p3.1 (show (kx x) < (yrs (kx y) (flip s.1.1 (kx x))).1 by rw [yrs_n]; exact l_x)) ((GD_yrs (GD_flip (GC_D G.1.1) l_x)).2.2.2 (kx x) (show (kx x) < (yrs (kx y) (flip s.1.1 (kx x))).1 by rw [yrs_n]; exact l_x)) G.1.2.2.1 G.1.2.2.2 e_x (by omega) e_z (by omega)) _ _ _ ?_
        intro I4 p4
        refine am_go 400 ?_
        refine (c_laysBack) _ _ _ ?_
        refine am_go 400 ?_
        refine am_if (fun h4 => ?_) (fun h4 => ?_)
        · exact k3 h1 h2 h3 I1 p1 I2 p2 I3 p3 I4 p4 h4
        · refine am_if (fun h5 => ?_) (fun h5 => ?_)
          · exact k4 h1 h2 h3 I1 p1 I2 p2 I3 p3 I4 p4 h4 h5
          · exact k5 h1 h2 h3 I1 p1 I2 p2 I3 p3 I4 p4 h4 h5
theorem p_X8_laid {I X d s} (h : RM I s) (G : GS s) (x y z : Int32) : Sp mX8_laid [.inr (.inr (some (8, 0))), .inl (x), .inl (y), .inl (z)] (d + 6) I X (OM I X (f_laid s x y z)) := fun g gs Q K => by
  have hn8 : nb s ≤ 8 := G.1.1.1
  have g8 : G8 s := G8_ G
  refine w_X8_laid h G  ?_ ?_ ?_ ?_ ?_ ?_
  · intro h0
    apply K_s K
    unfold f_laid
    rw [if_neg h0]
    exact ⟨rfl, h, FrM_r, rfl⟩
  · intro h0 h1
    obtain ⟨e_x, l_x⟩ := okb rfl hn8 h0
    obtain ⟨g0_x, g1_x, g2_x, g3_x, g5_x, gs_x⟩ := id (GS_b G l_x)
    apply K_s K
    unfold f_laid
    rw [if_pos h0, if_neg h1]
    exact ⟨rfl, h, FrM_r, rfl⟩
  · intro h0 h1 h2
    obtain ⟨e_x, l_x⟩ := okb rfl hn8 h0
    obtain ⟨g0_x, g1_x, g2_x, g3_x, g5_x, gs_x⟩ := id (GS_b G l_x)
    obtain ⟨e_y, l_y⟩ := okl (m := 60) (by decide) h1
    apply K_s K
    unfold f_laid
    rw [if_pos h0, if_pos h1, if_neg h2]
    exact ⟨rfl, h, FrM_r, rfl⟩
  · intro h0 h1 h2 I1 p1 I2 p2 I3 p3 I4 p4 h7
    obtain ⟨e_x, l_x⟩ := okb rfl hn8 h0
    obtain ⟨g0_x, g1_x, g2_x, g3_x, g5_x, gs_x⟩ := id (GS_b G l_x)
    obtain ⟨e_y, l_y⟩ := okl (m := 60) (by decide) h1
    obtain ⟨e_z, l_z⟩ := okl (m := 999) (by decide) h2
    have L5 := Lb_G (Lb_Y (Lb_3 (Lb_bk (Lb_G (Lb_Y Lb_0 p1.2) p2)) (by omega) (by omega)) p3.2) p4
    have hX1 : GX (yrs (kx y) s.1.1, s.1.2) := ⟨GD_yrs (GC_D G.1.1), G.1.2.2.1, G.1.2.2.2⟩
    have hX2 : GX (yrs (kx y) (flip s.1.1 (kx x)), s.1.2) := ⟨GD_yrs (GD_flip (GC_D G.1.1) l_x), G.1.2.2.1, G.1.2.2.2⟩
    apply K_s K
    unfold f_laid
    rw [if_pos h0, if_pos h1, if_pos h2]
    refine ⟨?_, RM_lb h L5, FrM_lb L5, rfl⟩
    show _ = dfV (trE (yrs (kx y) s.1.1, s.1.2) (kx x) (kx z)) (trE (yrs (kx y) (flip s.1.1 (kx x)), s.1.2) (kx x) (kx z))
    rcases hA : trE (yrs (kx y) s.1.1, s.1.2) (kx x) (kx z) with _ | a
    · rfl
    · rw [hA] at h7; exact absurd h7 (nI_pos (by have := trE_le hX1 (show (kx x) < (yrs (kx y) s.1.1).1 by rw [yrs_n]; exact l_x) hA; omega))
  · intro h0 h1 h2 I1 p1 I2 p2 I3 p3 I4 p4 h7 h8
    obtain ⟨e_x, l_x⟩ := okb rfl hn8 h0
    obtain ⟨g0_x, g1_x, g2_x, g3_x, g5_x, gs_x⟩ := id (GS_b G l_x)
    obtain ⟨e_y, l_y⟩ := okl (m := 60) (by decide) h1
    obtain ⟨e_z, l_z⟩ := okl (m := 999) (by decide) h2
    have L5 := Lb_G (Lb_Y (Lb_3 (Lb_bk (Lb_G (Lb_Y Lb_0 p1.2) p2)) (by omega) (by omega)) p3.2) p4
    have hX1 : GX (yrs (kx y) s.1.1, s.1.2) := ⟨GD_yrs (GC_D G.1.1), G.1.2.2.1, G.1.2.2.2⟩
    have hX2 : GX (yrs (kx y) (flip s.1.1 (kx x)), s.1.2) := ⟨GD_yrs (GD_flip (GC_D G.1.1) l_x), G.1.2.2.1, G.1.2.2.2⟩
    apply K_s K
    unfold f_laid
    rw [if_pos h0, if_pos h1, if_pos h2]
    refine ⟨?_, RM_lb h L5, FrM_lb L5, rfl⟩
    show _ = dfV (trE (yrs (kx y) s.1.1, s.1.2) (kx x) (kx z)) (trE (yrs (kx y) (flip s.1.1 (kx x)), s.1.2) (kx x) (kx z))
    rcases hA : trE (yrs (kx y) s.1.1, s.1.2) (kx x) (kx z) with _ | a
    · rw [hA] at h7; exact absurd (by decide) h7
    · rcases hB : trE (yrs (kx y) (flip s.1.1 (kx x)), s.1.2) (kx x) (kx z) with _ | b
      · rw [hB] at h8; exact absurd h8 (by decide)
      · rfl
  · intro h0 h1 h2 I1 p1 I2 p2 I3 p3 I4 p4 h7 h8
    obtain ⟨e_x, l_x⟩ := okb rfl hn8 h0
    obtain ⟨g0_x, g1_x, g2_x, g3_x, g5_x, gs_x⟩ := id (GS_b G l_x)
    obtain ⟨e_y, l_y⟩ := okl (m := 60) (by decide) h1
    obtain ⟨e_z, l_z⟩ := okl (m := 999) (by decide) h2
    have L5 := Lb_G (Lb_Y (Lb_3 (Lb_bk (Lb_G (Lb_Y Lb_0 p1.2) p2)) (by omega) (by omega)) p3.2) p4
    have hX1 : GX (yrs (kx y) s.1.1, s.1.2) := ⟨GD_yrs (GC_D G.1.1), G.1.2.2.1, G.1.2.2.2⟩
    have hX2 : GX (yrs (kx y) (flip s.1.1 (kx x)), s.1.2) := ⟨GD_yrs (GD_flip (GC_D G.1.1) l_x), G.1.2.2.1, G.1.2.2.2⟩
    apply K_s K
    unfold f_laid
    rw [if_pos h0, if_pos h1, if_pos h2]
    refine ⟨?_, RM_lb h L5, FrM_lb L5, rfl⟩
    show _ = dfV (trE (yrs (kx y) s.1.1, s.1.2) (kx x) (kx z)) (trE (yrs (kx y) (flip s.1.1 (kx x)), s.1.2) (kx x) (kx z))
    rcases hA : trE (yrs (kx y) s.1.1, s.1.2) (kx x) (kx z) with _ | a
    · rfl
    · rcases hB : trE (yrs (kx y) (flip s.1.1 (kx x)), s.1.2) (kx x) (kx z) with _ | b
      · rfl
      · rw [hB] at h8; exact absurd (nI_pos' (by have := trE_le hX2 (show (kx x) < (yrs (kx y) (flip s.1.1 (kx x))).1 by rw [yrs_n]; exact l_x) hB; omega)) h8

