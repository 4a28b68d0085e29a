/-! laid -/
def FrE (I : Im) (X : am_Z) (I' : Im) (X' : am_Z) : Prop := (∀ g, mg g = true → I' g = I g) ∧ X'.2 = X.2
theorem FrE_t {I X I' X' I'' X''} (h : FrE I X I' X') (h2 : FrE I' X' I'' X'') : FrE I X I'' X'' := ⟨fun g hg => (h2.1 g hg).trans (h.1 g hg), h2.2.trans h.2⟩
theorem FrE_C {I X I' X'} (h : FrE I X I' X') : FrC I X I' X' := ⟨h.1, by rw [h.2], by rw [h.2]; omega, by rw [h.2]; omega⟩
theorem FrE_N {I I' X} (F : FrN I I') : FrE I X I' X := ⟨(FrC_N (X := X) F).1, rfl⟩
theorem FrE_B {I I' X c} (F : FrB c I I') : FrE I X I' X := ⟨(FrC_B (X := X) F).1, rfl⟩
theorem FrE_Ba {c I X I1 X1} (F : BaF c I X I1 X1) : FrE I X I1 X1 := ⟨(FrC_Ba F).1, F.2.1⟩
theorem c_X7_thinkAhead2 {I X d s} (h : RC I X s) (G : GS s) {n : Nat} {x : Int32} (hx : x = nI n) (hn : n ≤ 1000) : Sz mX7_thinkAhead [.inr (.inr (some (7, 0))), .inl x] (d + 3) I X none (fun I' X' => RC I' X' s ∧ CeC I' X' 2 (yrs n s.1.1, s.1.2) ∧ FrE I X I' X') := fun g gs Q K =>
  w_X7_thinkAhead h G hx hn (fun I1 X1 p1 I2 p2 => K I2 X1 ⟨RC_F2 (RC_th h (G8_ G) p1.2) (G8_ G) p2.2, ⟨p2.1, TsC_F p1.1.2 p2.2⟩, FrE_t (FrE_Ba p1.2) (FrE_B p2.2)⟩)
def flip (σ : Cn) (k : Nat) : Cn := setB σ k (b0 (σ.2.2.2 k) 2 (1 - (σ.2.2.2 k).1 2))
theorem GD_flip {σ : Cn} {k : Nat} (G : GD σ) (hk : k < σ.1) : GD (flip σ k) := GD_B G (GB_0 (G.2.2.2 k hk) ⟨fun e => absurd e (by decide), fun e => absurd e (by decide), fun _ => Nat.sub_le _ _, fun e => absurd e (by decide), fun e => absurd e (by decide)⟩)
def dfV : Option Nat → Option Nat → Int32
  | some a, some b => nI a - nI b
  | _, _ => cNONE
noncomputable def f_laid (s : St) (x y z : Int32) : Int32 × St := if isB s x then if 0 ≤ y ∧ y ≤ 60 then if 0 ≤ z ∧ z ≤ 999 then (dfV (trE (yrs (kx y) s.1.1, s.1.2) (kx x) (kx z)) (trE (yrs (kx y) (flip s.1.1 (kx x)), s.1.2) (kx x) (kx z)), s) else (cBAD, s) else (cBAD, s) else (cBAD, s)
set_option maxRecDepth 100000 in
set_option maxHeartbeats 4000000 in
theorem w_X7_laid {I : Nat → Nat → Nat → Int32} {X : am_Z} {g : am_F} {gs : List am_F} {d : Nat} {Q : Option am_V → am_M → Prop} {s : St} (h : RC I X s) (G : GS s) {x y z : Int32} (k0 : (¬ ((0 : Int32) ≤ x ∧ x ≤ (nI (nb s)) - 1)) → am_WP (am_psh g (some (.inl ((-1000000001)))) :: gs) (d + 7) (mk I X) Q) (k1 : ((0 : Int32) ≤ x ∧ x ≤ (nI (nb s)) - 1) → (¬ ((0 : Int32) ≤ y ∧ y ≤ 60)) → am_WP (am_psh g (some (.inl ((-1000000001)))) :: gs) (d + 7) (mk I X) Q) (k2 : ((0 : Int32) ≤ x ∧ x ≤ (nI (nb s)) - 1) → ((0 : Int32) ≤ y ∧ y ≤ 60) → (¬ ((0 : Int32) ≤ z ∧ z ≤ 999)) → am_WP (am_psh g (some (.inl ((-1000000001)))) :: gs) (d + 7) (mk I X) Q) (k3 : ((0 : Int32) ≤ x ∧ x ≤ (nI (nb s)) - 1) → ((0 : Int32) ≤ y ∧ y ≤ 60) → ((0 : Int32) ≤ z ∧ z ≤ 999) → ∀ (I1 : Im) (X1 : am_Z), (RC I1 X1 s ∧ CeC I1 X1 2 (yrs (kx y) s.1.1, s.1.2) ∧ FrE I X I1 X1) → ∀ (I2 : Im), (FrN I1 I2 ∧ NkC I2) → ∀ (I3 : Im) (X3 : am_Z), (RC I3 X3 s ∧ CeC I3 X3 2 (yrs 0 s.1.1, s.1.2) ∧ FrE I2 X1 I3 X3) → ∀ (I4 : Im), (RepC I4 2 (yrs (kx y) (flip s.1.1 (kx x))) ∧ FrB 2 (up3 I3 0 (((kx x)) + 16) (4) ((nI (1 - ((s.1.1.2.2.2 (kx x)).1 2))))) I4) → ∀ (I5 : Im), (FrN I4 I5 ∧ NkC I5) → ((oI (trE (yrs (kx y) s.1.1, s.1.2) (kx x) (kx z))) = (-1000000005)) → am_WP (am_psh g (some (.inl ((-1000000005)))) :: gs) (d + 7) (mk I5 X3) Q) (k4 : ((0 : Int32) ≤ x ∧ x ≤ (nI (nb s)) - 1) → ((0 : Int32) ≤ y ∧ y ≤ 60) → ((0 : Int32) ≤ z ∧ z ≤ 999) → ∀ (I1 : Im) (X1 : am_Z), (RC I1 X1 s ∧ CeC I1 X1 2 (yrs (kx y) s.1.1, s.1.2) ∧ FrE I X I1 X1) → ∀ (I2 : Im), (FrN I1 I2 ∧ NkC I2) → ∀ (I3 : Im) (X3 : am_Z), (RC I3 X3 s ∧ CeC I3 X3 2 (yrs 0 s.1.1, s.1.2) ∧ FrE I2 X1 I3 X3) → ∀ (I4 : Im), (RepC I4 2 (yrs (kx y) (flip s.1.1 (kx x))) ∧ FrB 2 (up3 I3 0 (((kx x)) + 16) (4) ((nI (1 - ((s.1.1.2.2.2 (kx x)).1 2))))) I4) → ∀ (I5 : Im), (FrN I4 I5 ∧ NkC I5) → (¬ (oI (trE (yrs (kx y) s.1.1, s.1.2) (kx x) (kx z))) = (-1000000005)) → ((oI (trE (yrs (kx y) (flip s.1.1 (kx x)), s.1.2) (kx x) (kx z))) = (-1000000005)) → am_WP (am_psh g (some (.inl ((-1000000005)))) :: gs) (d + 7) (mk I5 X3) Q) (k5 : ((0 : Int32) ≤ x ∧ x ≤ (nI (nb s)) - 1) → ((0 : Int32) ≤ y ∧ y ≤ 60) → ((0 : Int32) ≤ z ∧ z ≤ 999) → ∀ (I1 : Im) (X1 : am_Z), (RC I1 X1 s ∧ CeC I1 X1 2 (yrs (kx y) s.1.1, s.1.2) ∧ FrE I X I1 X1) → ∀ (I2 : Im), (FrN I1 I2 ∧ NkC I2) → ∀ (I3 : Im) (X3 : am_Z), (RC I3 X3 s ∧ CeC I3 X3 2 (yrs 0 s.1.1, s.1.2) ∧ FrE I2 X1 I3 X3) → ∀ (I4 : Im), (RepC I4 2 (yrs (kx y) (flip s.1.1 (kx x))) ∧ FrB 2 (up3 I3 0 (((kx x)) + 16) (4) ((nI (1 - ((s.1.1.2.2.2 (kx x)).1 2))))) I4) → ∀ (I5 : Im), (FrN I4 I5 ∧ NkC I5) → (¬ (oI (trE (yrs (kx y) s.1.1, s.1.2) (kx x) (kx z))) = (-1000000005)) → (¬ (oI (trE (yrs (kx y) (flip s.1.1 (kx x)), s.1.2) (kx x) (kx z))) = (-1000000005)) → am_WP (am_psh g (some (.inl (((oI (trE (yrs (kx y) s.1.1, s.1.2) (kx x) (kx z))) - (oI (trE (yrs (kx y) (flip s.1.1 (kx x)), s.1.2) (kx x) (kx z))))))) :: gs) (d + 7) (mk I5 X3) Q) : am_WP (am_entry mX7_laid [.inr (.inr (some (7, 0))), .inl (x), .inl (y), .inl (z)] :: g :: gs) (d + 6) (mk I X) Q := by
  have hn8 : nb s ≤ 8 := G.1.1.1
  refine am_go 400 ?_
  have tk0 : I 1 0 3 = nI (nb s) := h.1.1.1
  refine (c_X7_isBottle (x := x)) _ _ _ ?_
  refine am_go 400 ?_
  refine am_if (fun h1 => ?_) (fun h1 => ?_)
  · have h1 := bI_0.mp h1
    have h1 : ¬ ((0 : Int32) ≤ x ∧ x ≤ (I 1 0 3) - 1) := h1
    try rw [tk0] at h1
    exact k0 h1
  · have h1 := bI_1.mp h1
    have h1 : (0 : Int32) ≤ x ∧ x ≤ (I 1 0 3) - 1 := h1
    try rw [tk0] at h1
    obtain ⟨e_x, l_x⟩ := okb rfl hn8 h1
    obtain ⟨g0_x, g1_x, g2_x, g3_x, g5_x, gs_x⟩ := id (GS_b G l_x)
    refine (c_X7_within (y) (0) (60)) _ _ _ ?_
    refine am_go 400 ?_
    refine am_if (fun h2 => ?_) (fun h2 => ?_)
    · have h2 := bI_0.mp h2
      exact k1 h1 h2
    · have h2 := bI_1.mp h2
      obtain ⟨e_y, l_y⟩ := okl (m := 60) (by decide) h2
      refine (c_X7_within (z) (0) (999)) _ _ _ ?_
      refine am_go 400 ?_
      refine am_if (fun h3 => ?_) (fun h3 => ?_)
      · have h3 := bI_0.mp h3
        exact k2 h1 h2 h3
      · have h3 := bI_1.mp h3
        obtain ⟨e_z, l_z⟩ := okl (m := 999) (by decide) h3
        refine (c_X7_thinkAhead2 (I := I) (X := X) h G (n := (kx y)) e_y (by omega)) _ _ _ ?_
        intro I1 X1 p1
        refine am_go 400 ?_
        refine (c_X7_crumbsThought (I := I1) (X := X1) (e := (yrs (kx y) s.1.1, s.1.2)) (k := (kx x)) (fo := (kx z)) p1.2.1 p1.1.2.2.2.2.2.2.1 (⟨GD_yrs (GC_D G.1.1), G.1.2.2.1, G.1.2.2.2⟩ : GX (yrs (kx y) s.1.1, s.1.2)) (show (kx x) < (yrs (kx y) s.1.1).1 by rw [yrs_n]; exact l_x) e_x e_z (by omega)) _ _ _ ?_
        intro I2 p2
        refine am_go 400 ?_
        refine (c_X7_thinkAhead2 (I := I2) (X := X1) (RC_N p1.1 p2.1 p2.2) G (n := 0) (rfl : (0 : Int32) = nI 0) (by omega)) _ _ _ ?_
        intro I3 X3 p3
        refine am_go 400 ?_
        refine am_f (ix_in (n := (kx x)) (N := 8) e_x (by omega) (by decide)) ?_
        have tk1 : (x).toNatClampNeg = (kx x) := ix_cl (n := (kx x)) e_x (by omega)
        refine am_f (ix_in (n := (kx x)) (N := 8) e_x (by omega) (by decide)) ?_
        have bd : ((s.1.1.2.2.2 (kx x)).1 2) ≤ 1 := (GS_b G l_x).2.2.1
        have tk2 : I3 0 (((x).toNatClampNeg) + 16) 4 = nI ((s.1.1.2.2.2 (kx x)).1 2) := by first | exact (p3.2.1.1.2.2.2.2.2 (kx x) l_x 2 (by decide)).1 | (((try rw [tk1])); first | done | exact (p3.2.1.1.2.2.2.2.2 (kx x) l_x 2 (by decide)).1)
        have tk3 : (1 - (I3 0 (((x).toNatClampNeg) + 16) 4)) = nI (1 - ((s.1.1.2.2.2 (kx x)).1 2)) := by first | exact (nI_subE (rfl : (1 : Int32) = nI 1) tk2 (by omega)) | (((try rw [tk2]); (try rw [tk1])); first | done | exact (nI_subE (rfl : (1 : Int32) = nI 1) tk2 (by omega)))
        refine (c_X1_passYears (I := (up3 I3 0 (((x).toNatClampNeg) + 16) (4) (((1 - (I3 0 (((x).toNatClampNeg) + 16) 4)))))) (c := 2) (n := (kx y)) (σ := (flip s.1.1 (kx x))) e_y (show RepC (up3 I3 0 (((x).toNatClampNeg) + 16) (4) (((1 - (I3 0 (((x).toNatClampNeg) + 16) 4))))) 2 (flip s.1.1 (kx x)) from by (try rw [tk3]); (try rw [tk2]); (try rw [tk1]); exact RepC_w0 (c := 2) (j := 2) p3.2.1.1 hn8 l_x (by decide) rfl) (GD_flip (GC_D G.1.1) l_x) (by decide) (by omega)) _ _ _ ?_
        intro I4 p4
        have p4 : RepC I4 2 (yrs (kx y) (flip s.1.1 (kx x))) ∧ FrB 2 (up3 I3 0 (((x).toNatClampNeg) + 16) (4) (((1 - (I3 0 (((x).toNatClampNeg) + 16) 4))))) I4 := p4
        try rw [tk3] at p4
        try rw [tk2] at p4
        try rw [tk1] at p4
        refine am_go 400 ?_
        refine (c_X7_crumbsThought (I := I4) (X := X3) (e := (yrs (kx y) (flip s.1.1 (kx x)), s.1.2)) (k := (kx x)) (fo := (kx z)) (⟨p4.1, TsC_F (show TsC (up3 I3 0 _ 4 _) X3 2 _ _ from p3.2.1.2) p4.2⟩ : CeC I4 X3 2 (yrs (kx y) (flip s.1.1 (kx x)), s.1.2)) (show NkC I4 from ⟨by rw [FrB_g p4.2 (by decide)]; exact p3.1.2.2.2.2.2.2.1.1, by rw [FrB_g p4.2 (by decide)]; exact p3.1.2.2.2.2.2.2.1.2.1, by rw [FrB_g p4.2 (by decide)]; exact p3.1.2.2.2.2.2.2.1.2.2⟩) (⟨GD_yrs (GD_flip (GC_D G.1.1) l_x), G.1.2.2.1, G.1.2.2.2⟩ : GX (yrs (kx y) (flip s.1.1 (kx x)), s.1.2)) (show (kx x) < (yrs (kx y) (flip s.1.1 (kx x))).1 by rw [yrs_n]; exact l_x) e_x e_z (by omega)) _ _ _ ?_
        intro I5 p5
        refine am_go 400 ?_
        refine am_if (fun h4 => ?_) (fun h4 => ?_)
        · exact k3 h1 h2 h3 I1 X1 p1 I2 p2 I3 X3 p3 I4 p4 I5 p5 h4
        · refine am_if (fun h5 => ?_) (fun h5 => ?_)
          · exact k4 h1 h2 h3 I1 X1 p1 I2 p2 I3 X3 p3 I4 p4 I5 p5 h4 h5
          · exact k5 h1 h2 h3 I1 X1 p1 I2 p2 I3 X3 p3 I4 p4 I5 p5 h4 h5
theorem p_X7_laid {I X d s} (h : RC I X s) (G : GS s) (x y z : Int32) : Sp mX7_laid [.inr (.inr (some (7, 0))), .inl (x), .inl (y), .inl (z)] (d + 6) I X (OC I X (f_laid s x y z)) := fun g gs Q K => by
  have hn8 : nb s ≤ 8 := G.1.1.1
  have g8 : G8 s := G8_ G
  refine w_X7_laid h G  ?_ ?_ ?_ ?_ ?_ ?_
  · intro h0
    apply K_s K
    unfold f_laid
    rw [if_neg h0]
    exact ⟨rfl, h, FrC_r⟩
  · intro h0 h1
    obtain ⟨e_x, l_x⟩ := okb rfl hn8 h0
    obtain ⟨g0_x, g1_x, g2_x, g3_x, g5_x, gs_x⟩ := id (GS_b G l_x)
    apply K_s K
    unfold f_laid
    rw [if_pos h0, if_neg h1]
    exact ⟨rfl, h, FrC_r⟩
  · intro h0 h1 h2
    obtain ⟨e_x, l_x⟩ := okb rfl hn8 h0
    obtain ⟨g0_x, g1_x, g2_x, g3_x, g5_x, gs_x⟩ := id (GS_b G l_x)
    obtain ⟨e_y, l_y⟩ := okl (m := 60) (by decide) h1
    apply K_s K
    unfold f_laid
    rw [if_pos h0, if_pos h1, if_neg h2]
    exact ⟨rfl, h, FrC_r⟩
  · intro h0 h1 h2 I1 X1 p1 I2 p2 I3 X3 p3 I4 p4 I5 p5 h8
    obtain ⟨e_x, l_x⟩ := okb rfl hn8 h0
    obtain ⟨g0_x, g1_x, g2_x, g3_x, g5_x, gs_x⟩ := id (GS_b G l_x)
    obtain ⟨e_y, l_y⟩ := okl (m := 60) (by decide) h1
    obtain ⟨e_z, l_z⟩ := okl (m := 999) (by decide) h2
    have F3 : FrB 2 I3 (up3 I3 0 (kx x + 16) 4 (nI (1 - (s.1.1.2.2.2 (kx x)).1 2))) := FrB_3 FrB_r (Or.inl rfl) (by omega)
    have hR5 : RC I5 X3 s := RC_N (RC_F2 (RC_F2 p3.1 g8 F3) g8 p4.2) p5.1 p5.2
    have F5 : FrC I X I5 X3 := FrE_C (FrE_t p1.2.2 (FrE_t (FrE_N p2.1) (FrE_t p3.2.2 (FrE_t (FrE_B F3) (FrE_t (FrE_B p4.2) (FrE_N p5.1))))))
    have hX1 : GX (yrs (kx y) s.1.1, s.1.2) := ⟨GD_yrs (GC_D G.1.1), G.1.2.2.1, G.1.2.2.2⟩
    have hX2 : GX (yrs (kx y) (flip s.1.1 (kx x)), s.1.2) := ⟨GD_yrs (GD_flip (GC_D G.1.1) l_x), G.1.2.2.1, G.1.2.2.2⟩
    apply K_s K
    unfold f_laid
    rw [if_pos h0, if_pos h1, if_pos h2]
    refine ⟨?_, hR5, F5⟩
    show _ = dfV (trE (yrs (kx y) s.1.1, s.1.2) (kx x) (kx z)) (trE (yrs (kx y) (flip s.1.1 (kx x)), s.1.2) (kx x) (kx z))
    rcases hA : trE (yrs (kx y) s.1.1, s.1.2) (kx x) (kx z) with _ | a
    · rfl
    · rw [hA] at h8; exact absurd h8 (nn9 (by have := trE_le hX1 (show (kx x) < (yrs (kx y) s.1.1).1 by rw [yrs_n]; exact l_x) hA; omega))
  · intro h0 h1 h2 I1 X1 p1 I2 p2 I3 X3 p3 I4 p4 I5 p5 h8 h9
    obtain ⟨e_x, l_x⟩ := okb rfl hn8 h0
    obtain ⟨g0_x, g1_x, g2_x, g3_x, g5_x, gs_x⟩ := id (GS_b G l_x)
    obtain ⟨e_y, l_y⟩ := okl (m := 60) (by decide) h1
    obtain ⟨e_z, l_z⟩ := okl (m := 999) (by decide) h2
    have F3 : FrB 2 I3 (up3 I3 0 (kx x + 16) 4 (nI (1 - (s.1.1.2.2.2 (kx x)).1 2))) := FrB_3 FrB_r (Or.inl rfl) (by omega)
    have hR5 : RC I5 X3 s := RC_N (RC_F2 (RC_F2 p3.1 g8 F3) g8 p4.2) p5.1 p5.2
    have F5 : FrC I X I5 X3 := FrE_C (FrE_t p1.2.2 (FrE_t (FrE_N p2.1) (FrE_t p3.2.2 (FrE_t (FrE_B F3) (FrE_t (FrE_B p4.2) (FrE_N p5.1))))))
    have hX1 : GX (yrs (kx y) s.1.1, s.1.2) := ⟨GD_yrs (GC_D G.1.1), G.1.2.2.1, G.1.2.2.2⟩
    have hX2 : GX (yrs (kx y) (flip s.1.1 (kx x)), s.1.2) := ⟨GD_yrs (GD_flip (GC_D G.1.1) l_x), G.1.2.2.1, G.1.2.2.2⟩
    apply K_s K
    unfold f_laid
    rw [if_pos h0, if_pos h1, if_pos h2]
    refine ⟨?_, hR5, F5⟩
    show _ = dfV (trE (yrs (kx y) s.1.1, s.1.2) (kx x) (kx z)) (trE (yrs (kx y) (flip s.1.1 (kx x)), s.1.2) (kx x) (kx z))
    rcases hA : trE (yrs (kx y) s.1.1, s.1.2) (kx x) (kx z) with _ | a
    · rfl
    · rcases hB : trE (yrs (kx y) (flip s.1.1 (kx x)), s.1.2) (kx x) (kx z) with _ | b
      · rfl
      · rw [hB] at h9; exact absurd h9 (nn9 (by have := trE_le hX2 (show (kx x) < (yrs (kx y) (flip s.1.1 (kx x))).1 by rw [yrs_n]; exact l_x) hB; omega))
  · intro h0 h1 h2 I1 X1 p1 I2 p2 I3 X3 p3 I4 p4 I5 p5 h8 h9
    obtain ⟨e_x, l_x⟩ := okb rfl hn8 h0
    obtain ⟨g0_x, g1_x, g2_x, g3_x, g5_x, gs_x⟩ := id (GS_b G l_x)
    obtain ⟨e_y, l_y⟩ := okl (m := 60) (by decide) h1
    obtain ⟨e_z, l_z⟩ := okl (m := 999) (by decide) h2
    have F3 : FrB 2 I3 (up3 I3 0 (kx x + 16) 4 (nI (1 - (s.1.1.2.2.2 (kx x)).1 2))) := FrB_3 FrB_r (Or.inl rfl) (by omega)
    have hR5 : RC I5 X3 s := RC_N (RC_F2 (RC_F2 p3.1 g8 F3) g8 p4.2) p5.1 p5.2
    have F5 : FrC I X I5 X3 := FrE_C (FrE_t p1.2.2 (FrE_t (FrE_N p2.1) (FrE_t p3.2.2 (FrE_t (FrE_B F3) (FrE_t (FrE_B p4.2) (FrE_N p5.1))))))
    have hX1 : GX (yrs (kx y) s.1.1, s.1.2) := ⟨GD_yrs (GC_D G.1.1), G.1.2.2.1, G.1.2.2.2⟩
    have hX2 : GX (yrs (kx y) (flip s.1.1 (kx x)), s.1.2) := ⟨GD_yrs (GD_flip (GC_D G.1.1) l_x), G.1.2.2.1, G.1.2.2.2⟩
    apply K_s K
    unfold f_laid
    rw [if_pos h0, if_pos h1, if_pos h2]
    refine ⟨?_, hR5, F5⟩
    show _ = dfV (trE (yrs (kx y) s.1.1, s.1.2) (kx x) (kx z)) (trE (yrs (kx y) (flip s.1.1 (kx x)), s.1.2) (kx x) (kx z))
    rcases hA : trE (yrs (kx y) s.1.1, s.1.2) (kx x) (kx z) with _ | a
    · rw [hA] at h8; exact absurd rfl h8
    · rcases hB : trE (yrs (kx y) (flip s.1.1 (kx x)), s.1.2) (kx x) (kx z) with _ | b
      · rw [hB] at h9; exact absurd rfl h9
      · rfl

