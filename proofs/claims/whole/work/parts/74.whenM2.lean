def mB1 : Option (Nat × Nat) → Int32
  | none => -1
  | some p => nI p.1
def mF1 : Option (Nat × Nat) → Int32
  | none => 0
  | some p => nI p.2
theorem l_whenM {I0 : Im} {X g gs d Q} {s : St} (h0 : RM I0 s) (G : GS s) {b fo : Nat} {x z w : Int32} (hx : x = nI b) (hz : z = nI fo) (hfo : fo ≤ 999) : ∀ (m k : Nat) (σ : Cn) (acc : Option (Nat × Nat)) (I : Im) (y : Option am_V), k + m = 61 → Lb I0 I → RepM (I 30 0) σ → GD σ → b < σ.1 → (∀ p, acc = some p → p.1 ≤ 60 ∧ p.2 ≤ 18) →
    (∀ I', RM I' s ∧ FrM I0 I' → am_WP (am_psh g (some (.inl (aV w (whL s.1.2 b fo m k σ acc)))) :: gs) (d + 7) (mk I' X) Q) →
    am_WP ((mX8_when, 41, [some (.inr (.inr (some (8, 0)))), some (.inl x), some (.inl z), some (.inl w), some (.inl (mB1 acc)), some (.inl (mF1 acc)), some (.inl (nI k)), y], []) :: g :: gs) (d + 6) (mk I X) Q
  | 0, k, σ, acc, I, y, hk, L, hR, hD, hb, ha, K => by
    have hX : GX (σ, s.1.2) := ⟨hD, G.1.2.2.1, G.1.2.2.2⟩
    have hC := CxM_L h0 L hR hb
    have K0 := K _ ⟨RM_lb h0 L, FrM_lb L⟩
    rcases acc with _ | p
    · rcases ht : trE (σ, s.1.2) b fo with _ | cr
      · exact w_whenM_00 hC hR hD hX.2.1 hX.2.2 hb hx hz hfo (by omega) ht (fun _ => K0) (fun h => absurd (by omega) h)
      · exact w_whenM_01 hC hR hD hX.2.1 hX.2.2 hb hx hz hfo (by omega) (trE_le hX hb ht) ht (fun _ => K0) (fun h => absurd (by omega) h)
    · have hq := ha p rfl
      rcases ht : trE (σ, s.1.2) b fo with _ | cr
      · exact w_whenM_10 hC hR hD hX.2.1 hX.2.2 hb hx hz hfo (by omega) ht hq.1 hq.2 (fun _ hw => K_w K0 (if_pos hw)) (fun _ hw => K_w K0 (if_neg hw)) (fun h => absurd (by omega) h)
      · exact w_whenM_11 hC hR hD hX.2.1 hX.2.2 hb hx hz hfo (by omega) (trE_le hX hb ht) ht hq.1 hq.2 (fun _ hw => K_w K0 (if_pos hw)) (fun _ hw => K_w K0 (if_neg hw)) (fun h => absurd (by omega) h) (fun h => absurd (by omega) h)
  | m + 1, k, σ, acc, I, y, hk, L, hR, hD, hb, ha, K => by
    have hX : GX (σ, s.1.2) := ⟨hD, G.1.2.2.1, G.1.2.2.2⟩
    have hC := CxM_L h0 L hR hb
    have go : ∀ (acc' : Option (Nat × Nat)), acN k (trE (σ, s.1.2) b fo) acc = acc' → (∀ p, acc' = some p → p.1 ≤ 60 ∧ p.2 ≤ 18) → ∀ I1 I2 : Im, Gf I I1 → RepM (I2 30 0) (yrs 1 σ) ∧ FrY I1 I2 → ∀ y, am_WP ((mX8_when, 41, [some (.inr (.inr (some (8, 0)))), some (.inl x), some (.inl z), some (.inl w), some (.inl (mB1 acc')), some (.inl (mF1 acc')), some (.inl (nI (k + 1))), y], []) :: g :: gs) (d + 6) (mk I2 X) Q := fun acc' e ha' I1 I2 p1 p2 y => by
      rw [whL, e] at K
      exact l_whenM h0 G hx hz hfo m (k + 1) (yearN σ) acc' I2 y (by omega) (Lb_Y (Lb_G L p1) p2.2) p2.1 (GD_year hD) (by rw [yearN_n.1]; exact hb) ha' K
    rcases acc with _ | p
    · rcases ht : trE (σ, s.1.2) b fo with _ | cr
      · refine w_whenM_00 hC hR hD hX.2.1 hX.2.2 hb hx hz hfo (by omega) ht (fun h => absurd h (by omega)) (fun _ I1 p1 I2 p2 => ?_)
        exact go none (by rw [ht]; rfl) (fun p hp => by cases hp) I1 I2 p1 p2 _
      · have hc := trE_le hX hb ht
        refine w_whenM_01 hC hR hD hX.2.1 hX.2.2 hb hx hz hfo (by omega) hc ht (fun h => absurd h (by omega)) (fun _ I1 p1 I2 p2 => ?_)
        exact go (some (k, cr)) (by rw [ht]; rfl) (fun p hp => by cases hp; exact ⟨by show k ≤ 60; omega, hc⟩) I1 I2 p1 p2 _
    · have hq := ha p rfl
      rcases ht : trE (σ, s.1.2) b fo with _ | cr
      · refine w_whenM_10 hC hR hD hX.2.1 hX.2.2 hb hx hz hfo (by omega) ht hq.1 hq.2 (fun h => absurd h (by omega)) (fun h => absurd h (by omega)) (fun _ I1 p1 I2 p2 => ?_)
        exact go (some p) (by rw [ht]; rfl) (fun p' hp => by cases hp; exact hq) I1 I2 p1 p2 _
      · have hc := trE_le hX hb ht
        refine w_whenM_11 hC hR hD hX.2.1 hX.2.2 hb hx hz hfo (by omega) hc ht hq.1 hq.2 (fun h => absurd h (by omega)) (fun h => absurd h (by omega)) (fun _ I1 p1 hl I2 p2 => ?_) (fun _ I1 p1 hl I2 p2 => ?_)
        · exact go (some p) (by rw [ht, acN, if_neg (by omega)]) (fun p' hp => by cases hp; exact hq) I1 I2 p1 p2 _
        · exact go (some (k, cr)) (by rw [ht, acN, if_pos (by omega)]) (fun p' hp => by cases hp; exact ⟨by show k ≤ 60; omega, hc⟩) I1 I2 p1 p2 _
set_option maxRecDepth 100000 in
set_option maxHeartbeats 4000000 in
theorem w_X8_when {I : Nat → Nat → Nat → Int32} {X : am_Z} {g : am_F} {gs : List am_F} {d : Nat} {Q : Option am_V → am_M → Prop} {s : St} (h : RM I s) (G : GS s) {x z w : Int32} (k0 : (¬ ((0 : Int32) ≤ x ∧ x ≤ (nI (nb s)) - 1)) → am_WP (am_psh g (some (.inl ((-1000000001)))) :: gs) (d + 7) (mk I X) Q) (k1 : ((0 : Int32) ≤ x ∧ x ≤ (nI (nb s)) - 1) → (¬ ((0 : Int32) ≤ z ∧ z ≤ 999)) → am_WP (am_psh g (some (.inl ((-1000000001)))) :: gs) (d + 7) (mk I X) Q) (k2 : ((0 : Int32) ≤ x ∧ x ≤ (nI (nb s)) - 1) → ((0 : Int32) ≤ z ∧ z ≤ 999) → (¬ ((0 : Int32) ≤ w ∧ w ≤ 1)) → am_WP (am_psh g (some (.inl ((-1000000001)))) :: gs) (d + 7) (mk I X) Q) (k3 : ((0 : Int32) ≤ x ∧ x ≤ (nI (nb s)) - 1) → ((0 : Int32) ≤ z ∧ z ≤ 999) → ((0 : Int32) ≤ w ∧ w ≤ 1) → am_WP ((mX8_when, 41, [some (.inr (.inr (some (8, 0)))), some (.inl (x)), some (.inl (z)), some (.inl (w)), some (.inl ((-1))), some (.inl (0)), some (.inl (0)), none], []) :: g :: gs) (d + 6) (mk (fl I 43 0 0 150 (I 30 0)) X) Q) : am_WP (am_entry mX8_when [.inr (.inr (some (8, 0))), .inl (x), .inl (z), .inl (w)] :: g :: gs) (d + 6) (mk I X) Q := by
  have hn8 : nb s ≤ 8 := G.1.1.1
  refine am_go 400 ?_
  have tk0 : I 30 0 0 = nI (nb s) := h.1.1.1
  refine (c_X8_isBottle (x := x)) _ _ _ ?_
  refine am_go 400 ?_
  refine am_if (fun h1 => ?_) (fun h1 => ?_)
  · have h1 := bI_0.mp h1
    have h1 : ¬ ((0 : Int32) ≤ x ∧ x ≤ (I 30 0 0) - 1) := h1
    try rw [tk0] at h1
    exact k0 h1
  · have h1 := bI_1.mp h1
    have h1 : (0 : Int32) ≤ x ∧ x ≤ (I 30 0 0) - 1 := h1
    try rw [tk0] at h1
    obtain ⟨e_x, l_x⟩ := okb rfl hn8 h1
    obtain ⟨g0_x, g1_x, g2_x, g3_x, g5_x, gs_x⟩ := id (GS_b G l_x)
    refine (c_X8_isForce (x := z)) _ _ _ ?_
    refine am_go 400 ?_
    refine am_if (fun h2 => ?_) (fun h2 => ?_)
    · have h2 := bI_0.mp h2
      exact k1 h1 h2
    · have h2 := bI_1.mp h2
      obtain ⟨e_z, l_z⟩ := okl (m := 999) (by decide) h2
      refine (m_isIn (w) (0) (1) _ _) _ _ _ ?_
      refine am_go 400 ?_
      refine am_if (fun h3 => ?_) (fun h3 => ?_)
      · have h3 := bI_0.mp h3
        exact k2 h1 h2 h3
      · have h3 := bI_1.mp h3
        refine (c_laysBy) _ _ _ ?_
        refine am_go 6 ?_
        exact k3 h1 h2 h3
theorem p_X8_when {I X d s} (h : RM I s) (G : GS s) (x z w : Int32) : Sp mX8_when [.inr (.inr (some (8, 0))), .inl (x), .inl (z), .inl (w)] (d + 6) I X (OM I X (f_when s x z w)) := fun g gs Q K => by
  have hn8 : nb s ≤ 8 := G.1.1.1
  have g8 : G8 s := G8_ G
  refine w_X8_when h G  ?_ ?_ ?_ ?_
  · intro h0
    apply K_s K
    unfold f_when
    rw [if_neg h0]
    exact ⟨rfl, h, FrM_r, rfl⟩
  · intro h0 h1
    obtain ⟨e_x, l_x⟩ := okb rfl hn8 h0
    obtain ⟨g0_x, g1_x, g2_x, g3_x, g5_x, gs_x⟩ := id (GS_b G l_x)
    apply K_s K
    unfold f_when
    rw [if_pos h0, if_neg h1]
    exact ⟨rfl, h, FrM_r, rfl⟩
  · intro h0 h1 h2
    obtain ⟨e_x, l_x⟩ := okb rfl hn8 h0
    obtain ⟨g0_x, g1_x, g2_x, g3_x, g5_x, gs_x⟩ := id (GS_b G l_x)
    obtain ⟨e_z, l_z⟩ := okl (m := 999) (by decide) h1
    apply K_s K
    unfold f_when
    rw [if_pos h0, if_pos h1, if_neg h2]
    exact ⟨rfl, h, FrM_r, rfl⟩
  · intro h0 h1 h2
    obtain ⟨e_x, l_x⟩ := okb rfl hn8 h0
    obtain ⟨g0_x, g1_x, g2_x, g3_x, g5_x, gs_x⟩ := id (GS_b G l_x)
    obtain ⟨e_z, l_z⟩ := okl (m := 999) (by decide) h1
    refine l_whenM h G e_x e_z (by omega) 61 0 s.1.1 none _ none rfl Lb_0 h.1.1 (GC_D G.1.1) l_x (fun p hp => by cases hp) ?_
    intro I2 p2
    apply K_s K
    unfold f_when
    rw [if_pos h0, if_pos h1, if_pos h2]
    refine ⟨?_, p2.1, p2.2, rfl⟩
    generalize aV w (whL s.1.2 (kx x) (kx z) 61 0 s.1.1 none) = vv
    rfl

