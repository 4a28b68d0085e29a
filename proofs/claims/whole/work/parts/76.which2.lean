theorem wiT_6 {e : Ce} {fo k : Nat} (h : (e.1.2.2.2 k).1 3 = 6) : wiT e fo k = trE e k fo := if_pos h
theorem wiT_n {e : Ce} {fo k : Nat} (h : ¬ (e.1.2.2.2 k).1 3 = 6) : wiT e fo k = none := if_neg h
theorem l_whichC {I0 : Im} {X0 X : am_Z} {g gs d Q} {s : St} {e : Ce} (hX : GX e) {fo : Nat} {x z w : Int32} (hz : z = nI fo) (hfo : fo ≤ 999) : ∀ (m k : Nat) (acc : Option (Nat × Nat)) (I : Im) (y : Option am_V), k + m = e.1.1 → RC I X s → CeC I X 2 e → FrC I0 X0 I X → (∀ p, acc = some p → p.2 ≤ 18) →
    (∀ I', RC I' X s ∧ FrC I0 X0 I' X → am_WP (am_psh g (some (.inl (aV w (wiL e fo m k acc)))) :: gs) (d + 7) (mk I' X) Q) →
    am_WP ((mX7_which, 49, [some (.inr (.inr (some (7, 0)))), some (.inl x), some (.inl z), some (.inl w), some (.inl (oB acc)), some (.inl (oF acc)), some (.inl (nI k)), y], []) :: g :: gs) (d + 6) (mk I X) Q
  | 0, k, acc, I, y, hk, h, hE, F, ha, K => by
    have h8 := hX.1.1
    have K0 := K I ⟨h, F⟩
    rcases acc with _ | p
    · exact w_whiC_en hE hX (by omega) (by omega) (fun _ => K0) (fun _ => K0)
    · exact w_whiC_es hE hX (by omega) (by omega) (fun hw => K_w K0 (if_pos hw)) (fun hw => K_w K0 (if_neg hw))
  | m + 1, k, acc, I, y, hk, h, hE, F, ha, K => by
    have hN := h.2.2.2.2.2.2.1
    have go : ∀ (acc' : Option (Nat × Nat)), acN k (wiT e fo k) acc = acc' → (∀ p, acc' = some p → p.2 ≤ 18) → ∀ I1 : Im, FrN I I1 ∧ NkC I1 → ∀ y, am_WP ((mX7_which, 49, [some (.inr (.inr (some (7, 0)))), some (.inl x), some (.inl z), some (.inl w), some (.inl (oB acc')), some (.inl (oF acc')), some (.inl (nI (k + 1))), y], []) :: g :: gs) (d + 6) (mk I1 X) Q := fun acc' q ha' I1 p1 y => by
      rw [wiL, q] at K
      exact l_whichC hX hz hfo m (k + 1) acc' I1 y (by omega) (RC_N h p1.1 p1.2) (CeC_N hE p1.1) (FrC_tr F (FrC_N p1.1)) ha' K
    have gn : ¬ (e.1.2.2.2 k).1 3 = 6 → ∀ y, am_WP ((mX7_which, 49, [some (.inr (.inr (some (7, 0)))), some (.inl x), some (.inl z), some (.inl w), some (.inl (oB acc)), some (.inl (oF acc)), some (.inl (nI (k + 1))), y], []) :: g :: gs) (d + 6) (mk I X) Q := fun q y => by
      rw [wiL, wiT_n q] at K
      exact l_whichC hX hz hfo m (k + 1) acc I y (by omega) h hE F ha K
    rcases acc with _ | p
    · rcases ht : trE e k fo with _ | cr
      · refine w_whiC_00 hE hN hX (by omega) hz hfo ht (fun q I1 p1 => ?_) (fun q => gn q _)
        exact go none (by rw [wiT_6 q, ht]; rfl) (fun p hp => by cases hp) I1 p1 _
      · have hc := trE_le hX (by omega) ht
        refine w_whiC_01 hE hN hX (by omega) hz hfo hc ht (fun q I1 p1 => ?_) (fun q => gn q _)
        exact go (some (k, cr)) (by rw [wiT_6 q, ht]; rfl) (fun p hp => by cases hp; exact hc) I1 p1 _
    · have hq := ha p rfl
      rcases ht : trE e k fo with _ | cr
      · refine w_whiC_10 hE hN hX (by omega) hz hfo ht hq (fun q I1 p1 => ?_) (fun q => gn q _)
        exact go (some p) (by rw [wiT_6 q, ht]; rfl) (fun p' hp => by cases hp; exact hq) I1 p1 _
      · have hc := trE_le hX (by omega) ht
        refine w_whiC_11 hE hN hX (by omega) hz hfo hc ht hq (fun q I1 p1 hl => ?_) (fun q I1 p1 hl => ?_) (fun q => gn q _)
        · exact go (some p) (by rw [wiT_6 q, ht, acN, if_neg hl]) (fun p' hp => by cases hp; exact hq) I1 p1 _
        · exact go (some (k, cr)) (by rw [wiT_6 q, ht, acN, if_pos hl]) (fun p' hp => by cases hp; exact hc) I1 p1 _
theorem l_whichM {I0 : Im} {X g gs d Q} {s : St} (h0 : RM I0 s) {σ : Cn} (hX : GX (σ, s.1.2)) {fo : Nat} {x z w : Int32} (hz : z = nI fo) (hfo : fo ≤ 999) : ∀ (m k : Nat) (acc : Option (Nat × Nat)) (I : Im) (y : Option am_V), k + m = σ.1 → Lb I0 I → RepM (I 30 0) σ → (∀ p, acc = some p → p.1 ≤ 60 ∧ p.2 ≤ 18) →
    (∀ I', RM I' s ∧ FrM I0 I' → am_WP (am_psh g (some (.inl (aV w (wiL (σ, s.1.2) fo m k acc)))) :: gs) (d + 7) (mk I' X) Q) →
    am_WP ((mX8_which, 50, [some (.inr (.inr (some (8, 0)))), some (.inl x), some (.inl z), some (.inl w), some (.inl (mB1 acc)), some (.inl (mF1 acc)), some (.inl (nI k)), y], []) :: g :: gs) (d + 6) (mk I X) Q
  | 0, k, acc, I, y, hk, L, hR, ha, K => by
    have h8 : σ.1 ≤ 8 := hX.1.1
    have K0 := K _ ⟨RM_lb h0 L, FrM_lb L⟩
    rcases acc with _ | p
    · exact w_whiM_en hR hX.1 (by omega) (by omega) K0
    · exact w_whiM_es hR hX.1 (by omega) (by omega) (ha p rfl).1 (fun hw => K_w K0 (if_pos hw)) (fun hw => K_w K0 (if_neg hw))
  | m + 1, k, acc, I, y, hk, L, hR, ha, K => by
    have h8 : σ.1 ≤ 8 := hX.1.1
    have hC := CxM_L h0 L hR (show k < σ.1 by omega)
    have go : ∀ (acc' : Option (Nat × Nat)), acN k (wiT (σ, s.1.2) fo k) acc = acc' → (∀ p, acc' = some p → p.1 ≤ 60 ∧ p.2 ≤ 18) → ∀ I1 : Im, Gf I I1 → ∀ y, am_WP ((mX8_which, 50, [some (.inr (.inr (some (8, 0)))), some (.inl x), some (.inl z), some (.inl w), some (.inl (mB1 acc')), some (.inl (mF1 acc')), some (.inl (nI (k + 1))), y], []) :: g :: gs) (d + 6) (mk I1 X) Q := fun acc' q ha' I1 p1 y => by
      rw [wiL, q] at K
      exact l_whichM h0 hX hz hfo m (k + 1) acc' I1 y (by omega) (Lb_G L p1) (by rw [p1.2 30 (by decide) (by decide) (by decide) (by decide) (by decide)]; exact hR) ha' K
    have gn : ¬ (σ.2.2.2 k).1 3 = 6 → ∀ y, am_WP ((mX8_which, 50, [some (.inr (.inr (some (8, 0)))), some (.inl x), some (.inl z), some (.inl w), some (.inl (mB1 acc)), some (.inl (mF1 acc)), some (.inl (nI (k + 1))), y], []) :: g :: gs) (d + 6) (mk I X) Q := fun q y => by
      rw [wiL, wiT_n (e := (σ, s.1.2)) q] at K
      exact l_whichM h0 hX hz hfo m (k + 1) acc I y (by omega) L hR ha K
    rcases acc with _ | p
    · rcases ht : trE (σ, s.1.2) k fo with _ | cr
      · refine w_whiM_00 hC hR hX.1 hX.2.1 hX.2.2 (by omega) hz hfo ht (fun q I1 p1 => ?_) (fun q => gn q _)
        exact go none (by rw [wiT_6 (e := (σ, s.1.2)) q, ht]; rfl) (fun p hp => by cases hp) I1 p1 _
      · have hc := trE_le hX (show k < σ.1 by omega) ht
        refine w_whiM_01 hC hR hX.1 hX.2.1 hX.2.2 (by omega) hz hfo hc ht (fun q I1 p1 => ?_) (fun q => gn q _)
        exact go (some (k, cr)) (by rw [wiT_6 (e := (σ, s.1.2)) q, ht]; rfl) (fun p hp => by cases hp; exact ⟨by show k ≤ 60; omega, hc⟩) I1 p1 _
    · have hq := ha p rfl
      rcases ht : trE (σ, s.1.2) k fo with _ | cr
      · refine w_whiM_10 hC hR hX.1 hX.2.1 hX.2.2 (by omega) hz hfo ht hq.1 hq.2 (fun q I1 p1 => ?_) (fun q => gn q _)
        exact go (some p) (by rw [wiT_6 (e := (σ, s.1.2)) q, ht]; rfl) (fun p' hp => by cases hp; exact hq) I1 p1 _
      · have hc := trE_le hX (show k < σ.1 by omega) ht
        refine w_whiM_11 hC hR hX.1 hX.2.1 hX.2.2 (by omega) hz hfo hc ht hq.1 hq.2 (fun q I1 p1 hl => ?_) (fun q I1 p1 hl => ?_) (fun q => gn q _)
        · exact go (some p) (by rw [wiT_6 (e := (σ, s.1.2)) q, ht, acN, if_neg (by omega)]) (fun p' hp => by cases hp; exact hq) I1 p1 _
        · exact go (some (k, cr)) (by rw [wiT_6 (e := (σ, s.1.2)) q, ht, acN, if_pos (by omega)]) (fun p' hp => by cases hp; exact ⟨by show k ≤ 60; omega, hc⟩) I1 p1 _
set_option maxRecDepth 100000 in
set_option maxHeartbeats 4000000 in
theorem w_X7_which {I : Nat → Nat → Nat → Int32} {X : am_Z} {g : am_F} {gs : List am_F} {d : Nat} {Q : Option am_V → am_M → Prop} {s : St} (h : RC I X s) (G : GS s) {x z w : Int32} (k0 : (¬ ((0 : Int32) ≤ x ∧ x ≤ 60)) → am_WP (am_psh g (some (.inl ((-1000000001)))) :: gs) (d + 7) (mk I X) Q) (k1 : ((0 : Int32) ≤ x ∧ x ≤ 60) → (¬ ((0 : Int32) ≤ z ∧ z ≤ 999)) → am_WP (am_psh g (some (.inl ((-1000000001)))) :: gs) (d + 7) (mk I X) Q) (k2 : ((0 : Int32) ≤ x ∧ x ≤ 60) → ((0 : Int32) ≤ z ∧ z ≤ 999) → (¬ ((0 : Int32) ≤ w ∧ w ≤ 1)) → am_WP (am_psh g (some (.inl ((-1000000001)))) :: gs) (d + 7) (mk I X) Q) (k3 : ((0 : Int32) ≤ x ∧ x ≤ 60) → ((0 : Int32) ≤ z ∧ z ≤ 999) → ((0 : Int32) ≤ w ∧ w ≤ 1) → ∀ (I1 : Im) (X1 : am_Z), (RC I1 X1 s ∧ CeC I1 X1 2 (yrs (kx x) s.1.1, s.1.2) ∧ FrC I X I1 X1) → am_WP ((mX7_which, 49, [some (.inr (.inr (some (7, 0)))), some (.inl (x)), some (.inl (z)), some (.inl (w)), some (.inl ((-1000000005))), some (.inl ((-1000000005))), some (.inl (0)), none], []) :: g :: gs) (d + 6) (mk I1 X1) Q) : am_WP (am_entry mX7_which [.inr (.inr (some (7, 0))), .inl (x), .inl (z), .inl (w)] :: g :: gs) (d + 6) (mk I X) Q := by
  have hn8 : nb s ≤ 8 := G.1.1.1
  refine am_go 400 ?_
  refine (c_X7_within (x) (0) (60)) _ _ _ ?_
  refine am_go 400 ?_
  refine am_if (fun h1 => ?_) (fun h1 => ?_)
  · have h1 := bI_0.mp h1
    exact k0 h1
  · have h1 := bI_1.mp h1
    obtain ⟨e_x, l_x⟩ := okl (m := 60) (by decide) h1
    refine (c_X7_within (z) (0) (999)) _ _ _ ?_
    refine am_go 400 ?_
    refine am_if (fun h2 => ?_) (fun h2 => ?_)
    · have h2 := bI_0.mp h2
      exact k1 h1 h2
    · have h2 := bI_1.mp h2
      obtain ⟨e_z, l_z⟩ := okl (m := 999) (by decide) h2
      refine (c_X7_within (w) (0) (1)) _ _ _ ?_
      refine am_go 400 ?_
      refine am_if (fun h3 => ?_) (fun h3 => ?_)
      · have h3 := bI_0.mp h3
        exact k2 h1 h2 h3
      · have h3 := bI_1.mp h3
        refine (c_X7_thinkAhead h G (n := (kx x)) e_x (by omega)) _ _ _ ?_
        intro I1 X1 p1
        refine am_go 2 ?_
        exact k3 h1 h2 h3 I1 X1 p1
theorem p_X7_which {I X d s} (h : RC I X s) (G : GS s) (x z w : Int32) : Sp mX7_which [.inr (.inr (some (7, 0))), .inl (x), .inl (z), .inl (w)] (d + 6) I X (OC I X (f_which s x z w)) := fun g gs Q K => by
  have hn8 : nb s ≤ 8 := G.1.1.1
  have g8 : G8 s := G8_ G
  refine w_X7_which h G  ?_ ?_ ?_ ?_
  · intro h0
    apply K_s K
    unfold f_which
    rw [if_neg h0]
    exact ⟨rfl, h, FrC_r⟩
  · intro h0 h1
    obtain ⟨e_x, l_x⟩ := okl (m := 60) (by decide) h0
    apply K_s K
    unfold f_which
    rw [if_pos h0, if_neg h1]
    exact ⟨rfl, h, FrC_r⟩
  · intro h0 h1 h2
    obtain ⟨e_x, l_x⟩ := okl (m := 60) (by decide) h0
    obtain ⟨e_z, l_z⟩ := okl (m := 999) (by decide) h1
    apply K_s K
    unfold f_which
    rw [if_pos h0, if_pos h1, if_neg h2]
    exact ⟨rfl, h, FrC_r⟩
  · intro h0 h1 h2 I1 X1 p1
    obtain ⟨e_x, l_x⟩ := okl (m := 60) (by decide) h0
    obtain ⟨e_z, l_z⟩ := okl (m := 999) (by decide) h1
    have hX : GX (yrs (kx x) s.1.1, s.1.2) := ⟨GD_yrs (GC_D G.1.1), G.1.2.2.1, G.1.2.2.2⟩
    refine l_whichC (I0 := I) (X0 := X) (s := s) hX e_z (by omega) _ 0 none I1 none (Nat.zero_add _) p1.1 p1.2.1 p1.2.2 (fun p hp => by cases hp) ?_
    intro I2 p2
    apply K_s K
    unfold f_which
    rw [if_pos h0, if_pos h1, if_pos h2]
    refine ⟨?_, p2.1, p2.2⟩
    generalize aV w (wiL (yrs (kx x) s.1.1, s.1.2) (kx z) (yrs (kx x) s.1.1).1 0 none) = vv
    rfl

set_option maxRecDepth 100000 in
set_option maxHeartbeats 4000000 in
theorem w_X8_which {I : Nat → Nat → Nat → Int32} {X : am_Z} {g : am_F} {gs : List am_F} {d : Nat} {Q : Option am_V → am_M → Prop} {s : St} (h : RM I s) (G : GS s) {x z w : Int32} (k0 : (¬ ((0 : Int32) ≤ x ∧ x ≤ 60)) → am_WP (am_psh g (some (.inl ((-1000000001)))) :: gs) (d + 7) (mk I X) Q) (k1 : ((0 : Int32) ≤ x ∧ x ≤ 60) → (¬ ((0 : Int32) ≤ z ∧ z ≤ 999)) → am_WP (am_psh g (some (.inl ((-1000000001)))) :: gs) (d + 7) (mk I X) Q) (k2 : ((0 : Int32) ≤ x ∧ x ≤ 60) → ((0 : Int32) ≤ z ∧ z ≤ 999) → (¬ ((0 : Int32) ≤ w ∧ w ≤ 1)) → am_WP (am_psh g (some (.inl ((-1000000001)))) :: gs) (d + 7) (mk I X) Q) (k3 : ((0 : Int32) ≤ x ∧ x ≤ 60) → ((0 : Int32) ≤ z ∧ z ≤ 999) → ((0 : Int32) ≤ w ∧ w ≤ 1) → ∀ (I1 : Im), (RepM (I1 30 0) (yrs (kx x) s.1.1) ∧ FrY (fl I 43 0 0 150 (I 30 0)) I1) → am_WP ((mX8_which, 50, [some (.inr (.inr (some (8, 0)))), some (.inl (x)), some (.inl (z)), some (.inl (w)), some (.inl ((-1))), some (.inl (0)), some (.inl (0)), none], []) :: g :: gs) (d + 6) (mk I1 X) Q) : am_WP (am_entry mX8_which [.inr (.inr (some (8, 0))), .inl (x), .inl (z), .inl (w)] :: g :: gs) (d + 6) (mk I X) Q := by
  have hn8 : nb s ≤ 8 := G.1.1.1
  refine am_go 400 ?_
  refine (m_isIn (x) (0) (60) _ _) _ _ _ ?_
  refine am_go 400 ?_
  refine am_if (fun h1 => ?_) (fun h1 => ?_)
  · have h1 := bI_0.mp h1
    exact k0 h1
  · have h1 := bI_1.mp h1
    obtain ⟨e_x, l_x⟩ := okl (m := 60) (by decide) h1
    refine (c_X8_isForce (x := z)) _ _ _ ?_
    refine am_go 400 ?_
    refine am_if (fun h2 => ?_) (fun h2 => ?_)
    · have h2 := bI_0.mp h2
      exact k1 h1 h2
    · have h2 := bI_1.mp h2
      obtain ⟨e_z, l_z⟩ := okl (m := 999) (by decide) h2
      refine (m_isIn (w) (0) (1) _ _) _ _ _ ?_
      refine am_go 400 ?_
      refine am_if (fun h3 => ?_) (fun h3 => ?_)
      · have h3 := bI_0.mp h3
        exact k2 h1 h2 h3
      · have h3 := bI_1.mp h3
        refine (c_laysBy) _ _ _ ?_
        refine am_go 400 ?_
        refine (c_X8_goesOnMany (I := (fl I 43 0 0 150 (I 30 0))) (n := (kx x)) (σ := s.1.1) e_x h.1.1 (GC_D G.1.1) (by omega)) _ _ _ ?_
        intro I1 p1
        refine am_go 6 ?_
        exact k3 h1 h2 h3 I1 p1
theorem p_X8_which {I X d s} (h : RM I s) (G : GS s) (x z w : Int32) : Sp mX8_which [.inr (.inr (some (8, 0))), .inl (x), .inl (z), .inl (w)] (d + 6) I X (OM I X (f_which s x z w)) := fun g gs Q K => by
  have hn8 : nb s ≤ 8 := G.1.1.1
  have g8 : G8 s := G8_ G
  refine w_X8_which h G  ?_ ?_ ?_ ?_
  · intro h0
    apply K_s K
    unfold f_which
    rw [if_neg h0]
    exact ⟨rfl, h, FrM_r, rfl⟩
  · intro h0 h1
    obtain ⟨e_x, l_x⟩ := okl (m := 60) (by decide) h0
    apply K_s K
    unfold f_which
    rw [if_pos h0, if_neg h1]
    exact ⟨rfl, h, FrM_r, rfl⟩
  · intro h0 h1 h2
    obtain ⟨e_x, l_x⟩ := okl (m := 60) (by decide) h0
    obtain ⟨e_z, l_z⟩ := okl (m := 999) (by decide) h1
    apply K_s K
    unfold f_which
    rw [if_pos h0, if_pos h1, if_neg h2]
    exact ⟨rfl, h, FrM_r, rfl⟩
  · intro h0 h1 h2 I1 p1
    obtain ⟨e_x, l_x⟩ := okl (m := 60) (by decide) h0
    obtain ⟨e_z, l_z⟩ := okl (m := 999) (by decide) h1
    have hX : GX (yrs (kx x) s.1.1, s.1.2) := ⟨GD_yrs (GC_D G.1.1), G.1.2.2.1, G.1.2.2.2⟩
    refine l_whichM h hX e_z (by omega) _ 0 none I1 none (Nat.zero_add _) (Lb_Y Lb_0 p1.2) p1.1 (fun p hp => by cases hp) ?_
    intro I2 p2
    apply K_s K
    unfold f_which
    rw [if_pos h0, if_pos h1, if_pos h2]
    refine ⟨?_, p2.1, p2.2, rfl⟩
    generalize aV w (wiL (yrs (kx x) s.1.1, s.1.2) (kx z) (yrs (kx x) s.1.1).1 0 none) = vv
    rfl

