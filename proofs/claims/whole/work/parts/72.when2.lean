def oB : Option (Nat × Nat) → Int32
  | none => -1000000005
  | some p => nI p.1
def oF : Option (Nat × Nat) → Int32
  | none => -1000000005
  | some p => nI p.2
theorem l_whenC {I0 : Im} {X0 X : am_Z} {g gs d Q} {s : St} (G : GS s) {b fo : Nat} {x z w : Int32} (hx : x = nI b) (hz : z = nI fo) (hfo : fo ≤ 999) : ∀ (m k : Nat) (σ : Cn) (acc : Option (Nat × Nat)) (I : Im) (y : Option am_V), k + m = 61 → RC I X s → CeC I X 2 (σ, s.1.2) → GD σ → b < σ.1 → FrC I0 X0 I X → (∀ p, acc = some p → p.2 ≤ 18) →
    (∀ I', RC I' X s ∧ FrC I0 X0 I' X → am_WP (am_psh g (some (.inl (aV w (whL s.1.2 b fo m k σ acc)))) :: gs) (d + 7) (mk I' X) Q) →
    am_WP ((mX7_when, 47, [some (.inr (.inr (some (7, 0)))), some (.inl x), some (.inl z), some (.inl w), some (.inl (oB acc)), some (.inl (oF acc)), some (.inl (nI k)), y], []) :: g :: gs) (d + 6) (mk I X) Q
  | 0, k, σ, acc, I, y, hk, h, hE, hD, hb, F, ha, K => by
    have hX : GX (σ, s.1.2) := ⟨hD, G.1.2.2.1, G.1.2.2.2⟩
    have hN := h.2.2.2.2.2.2.1
    have K0 := K I ⟨h, F⟩
    rcases acc with _ | p
    · rcases ht : trE (σ, s.1.2) b fo with _ | cr
      · exact w_whenC_00 hE hN hX hb hx hz hfo (by omega) ht (fun _ _ => K0) (fun _ _ => K0) (fun h => absurd (by omega) h)
      · exact w_whenC_01 hE hN hX hb hx hz hfo (by omega) (trE_le hX hb ht) ht (fun _ _ => K0) (fun _ _ => K0) (fun h => absurd (by omega) h)
    · have hq := ha p rfl
      rcases ht : trE (σ, s.1.2) b fo with _ | cr
      · exact w_whenC_10 hE hN hX hb hx hz hfo (by omega) ht hq (fun _ hw => K_w K0 (if_pos hw)) (fun _ hw => K_w K0 (if_neg hw)) (fun h => absurd (by omega) h) (fun h => absurd (by omega) h) (fun h => absurd (by omega) h)
      · exact w_whenC_11 hE hN hX hb hx hz hfo (by omega) (trE_le hX hb ht) ht hq (fun _ hw => K_w K0 (if_pos hw)) (fun _ hw => K_w K0 (if_neg hw)) (fun h => absurd (by omega) h) (fun h => absurd (by omega) h) (fun h => absurd (by omega) h) (fun h => absurd (by omega) h)
  | m + 1, k, σ, acc, I, y, hk, h, hE, hD, hb, F, ha, K => by
    have hX : GX (σ, s.1.2) := ⟨hD, G.1.2.2.1, G.1.2.2.2⟩
    have hN := h.2.2.2.2.2.2.1
    have go : ∀ (acc' : Option (Nat × Nat)), acN k (trE (σ, s.1.2) b fo) acc = acc' → (∀ p, acc' = some p → p.2 ≤ 18) → ∀ I1 I2 : Im, FrN I I1 ∧ NkC I1 → RepC I2 2 (yearN σ) ∧ FrB 2 I1 I2 → ∀ y, am_WP ((mX7_when, 47, [some (.inr (.inr (some (7, 0)))), some (.inl x), some (.inl z), some (.inl w), some (.inl (oB acc')), some (.inl (oF acc')), some (.inl (nI (k + 1))), y], []) :: g :: gs) (d + 6) (mk I2 X) Q := fun acc' e ha' I1 I2 p1 p2 y => by
      rw [whL, e] at K
      exact l_whenC G hx hz hfo m (k + 1) (yearN σ) acc' I2 y (by omega) (RC_F2 (RC_N h p1.1 p1.2) (G8_ G) p2.2) ⟨p2.1, TsC_F (TsC_N hE.2 p1.1) p2.2⟩ (GD_year hD) (by rw [yearN_n.1]; exact hb) (FrC_tr F (FrC_tr (FrC_N p1.1) (FrC_B p2.2))) ha' K
    rcases acc with _ | p
    · rcases ht : trE (σ, s.1.2) b fo with _ | cr
      · refine w_whenC_00 hE hN hX hb hx hz hfo (by omega) ht (fun h => absurd h (by omega)) (fun h => absurd h (by omega)) (fun _ I1 p1 I2 p2 => ?_)
        exact go none (by rw [ht]; rfl) (fun p hp => by cases hp) I1 I2 p1 p2 _
      · have hc := trE_le hX hb ht
        refine w_whenC_01 hE hN hX hb hx hz hfo (by omega) hc ht (fun h => absurd h (by omega)) (fun h => absurd h (by omega)) (fun _ I1 p1 I2 p2 => ?_)
        exact go (some (k, cr)) (by rw [ht]; rfl) (fun p hp => by cases hp; exact hc) I1 I2 p1 p2 _
    · have hq := ha p rfl
      have z0 : p.2 = 0 → am_WP (am_psh g (some (.inl (aV w (some p)))) :: gs) (d + 7) (mk I X) Q := fun e => by
        have := K I ⟨h, F⟩
        rw [show p = (p.1, 0) by rw [← e], whL_0] at this
        rw [show p = (p.1, 0) by rw [← e]]
        exact this
      rcases ht : trE (σ, s.1.2) b fo with _ | cr
      · refine w_whenC_10 hE hN hX hb hx hz hfo (by omega) ht hq (fun h => absurd h (by omega)) (fun h => absurd h (by omega)) (fun _ e hw => K_w (z0 e) (if_pos hw)) (fun _ e hw => K_w (z0 e) (if_neg hw)) (fun _ _ I1 p1 I2 p2 => ?_)
        exact go (some p) (by rw [ht]; rfl) (fun p' hp => by cases hp; exact hq) I1 I2 p1 p2 _
      · have hc := trE_le hX hb ht
        refine w_whenC_11 hE hN hX hb hx hz hfo (by omega) hc ht hq (fun h => absurd h (by omega)) (fun h => absurd h (by omega)) (fun _ e hw => K_w (z0 e) (if_pos hw)) (fun _ e hw => K_w (z0 e) (if_neg hw)) (fun _ _ I1 p1 hl I2 p2 => ?_) (fun _ _ I1 p1 hl I2 p2 => ?_)
        · exact go (some p) (by rw [ht, acN, if_neg hl]) (fun p' hp => by cases hp; exact hq) I1 I2 p1 p2 _
        · exact go (some (k, cr)) (by rw [ht, acN, if_pos hl]) (fun p' hp => by cases hp; exact hc) I1 I2 p1 p2 _
noncomputable def f_when (s : St) (x z w : Int32) : Int32 × St := if isB s x then if 0 ≤ z ∧ z ≤ 999 then if 0 ≤ w ∧ w ≤ 1 then (aV w (whL s.1.2 (kx x) (kx z) 61 0 s.1.1 none), s) else (cBAD, s) else (cBAD, s) else (cBAD, s)
set_option maxRecDepth 100000 in
set_option maxHeartbeats 4000000 in
theorem w_X7_when {I : Nat → Nat → Nat → Int32} {X : am_Z} {g : am_F} {gs : List am_F} {d : Nat} {Q : Option am_V → am_M → Prop} {s : St} (h : RC I X s) (G : GS s) {x z w : Int32} (k0 : (¬ ((0 : Int32) ≤ x ∧ x ≤ (nI (nb s)) - 1)) → am_WP (am_psh g (some (.inl ((-1000000001)))) :: gs) (d + 7) (mk I X) Q) (k1 : ((0 : Int32) ≤ x ∧ x ≤ (nI (nb s)) - 1) → (¬ ((0 : Int32) ≤ z ∧ z ≤ 999)) → am_WP (am_psh g (some (.inl ((-1000000001)))) :: gs) (d + 7) (mk I X) Q) (k2 : ((0 : Int32) ≤ x ∧ x ≤ (nI (nb s)) - 1) → ((0 : Int32) ≤ z ∧ z ≤ 999) → (¬ ((0 : Int32) ≤ w ∧ w ≤ 1)) → am_WP (am_psh g (some (.inl ((-1000000001)))) :: gs) (d + 7) (mk I X) Q) (k3 : ((0 : Int32) ≤ x ∧ x ≤ (nI (nb s)) - 1) → ((0 : Int32) ≤ z ∧ z ≤ 999) → ((0 : Int32) ≤ w ∧ w ≤ 1) → ∀ (I1 : Im) (X1 : am_Z), (RC I1 X1 s ∧ CeC I1 X1 2 (yrs 0 s.1.1, s.1.2) ∧ FrC I X I1 X1) → am_WP ((mX7_when, 47, [some (.inr (.inr (some (7, 0)))), some (.inl (x)), some (.inl (z)), some (.inl (w)), some (.inl ((-1000000005))), some (.inl ((-1000000005))), some (.inl (0)), none], []) :: g :: gs) (d + 6) (mk I1 X1) Q) : am_WP (am_entry mX7_when [.inr (.inr (some (7, 0))), .inl (x), .inl (z), .inl (w)] :: g :: gs) (d + 6) (mk I X) Q := by
  have hn8 : nb s ≤ 8 := G.1.1.1
  refine am_go 400 ?_
  have tk0 : I 1 0 3 = nI (nb s) := h.1.1.1
  refine (c_X7_isBottle (x := x)) _ _ _ ?_
  refine am_go 400 ?_
  refine am_if (fun h1 => ?_) (fun h1 => ?_)
  · have h1 := bI_0.mp h1
    have h1 : ¬ ((0 : Int32) ≤ x ∧ x ≤ (I 1 0 3) - 1) := h1
    try rw [tk0] at h1
    exact k0 h1
  · have h1 := bI_1.mp h1
    have h1 : (0 : Int32) ≤ x ∧ x ≤ (I 1 0 3) - 1 := h1
    try rw [tk0] at h1
    obtain ⟨e_x, l_x⟩ := okb rfl hn8 h1
    obtain ⟨g0_x, g1_x, g2_x, g3_x, g5_x, gs_x⟩ := id (GS_b G l_x)
    refine (c_X7_within (z) (0) (999)) _ _ _ ?_
    refine am_go 400 ?_
    refine am_if (fun h2 => ?_) (fun h2 => ?_)
    · have h2 := bI_0.mp h2
      exact k1 h1 h2
    · have h2 := bI_1.mp h2
      obtain ⟨e_z, l_z⟩ := okl (m := 999) (by decide) h2
      refine (c_X7_within (w) (0) (1)) _ _ _ ?_
      refine am_go 400 ?_
      refine am_if (fun h3 => ?_) (fun h3 => ?_)
      · have h3 := bI_0.mp h3
        exact k2 h1 h2 h3
      · have h3 := bI_1.mp h3
        refine (c_X7_thinkAhead h G (n := 0) (rfl : (0 : Int32) = nI 0) (by omega)) _ _ _ ?_
        intro I1 X1 p1
        refine am_go 2 ?_
        exact k3 h1 h2 h3 I1 X1 p1
theorem p_X7_when {I X d s} (h : RC I X s) (G : GS s) (x z w : Int32) : Sp mX7_when [.inr (.inr (some (7, 0))), .inl (x), .inl (z), .inl (w)] (d + 6) I X (OC I X (f_when s x z w)) := fun g gs Q K => by
  have hn8 : nb s ≤ 8 := G.1.1.1
  have g8 : G8 s := G8_ G
  refine w_X7_when h G  ?_ ?_ ?_ ?_
  · intro h0
    apply K_s K
    unfold f_when
    rw [if_neg h0]
    exact ⟨rfl, h, FrC_r⟩
  · intro h0 h1
    obtain ⟨e_x, l_x⟩ := okb rfl hn8 h0
    obtain ⟨g0_x, g1_x, g2_x, g3_x, g5_x, gs_x⟩ := id (GS_b G l_x)
    apply K_s K
    unfold f_when
    rw [if_pos h0, if_neg h1]
    exact ⟨rfl, h, FrC_r⟩
  · intro h0 h1 h2
    obtain ⟨e_x, l_x⟩ := okb rfl hn8 h0
    obtain ⟨g0_x, g1_x, g2_x, g3_x, g5_x, gs_x⟩ := id (GS_b G l_x)
    obtain ⟨e_z, l_z⟩ := okl (m := 999) (by decide) h1
    apply K_s K
    unfold f_when
    rw [if_pos h0, if_pos h1, if_neg h2]
    exact ⟨rfl, h, FrC_r⟩
  · intro h0 h1 h2 I1 X1 p1
    obtain ⟨e_x, l_x⟩ := okb rfl hn8 h0
    obtain ⟨g0_x, g1_x, g2_x, g3_x, g5_x, gs_x⟩ := id (GS_b G l_x)
    obtain ⟨e_z, l_z⟩ := okl (m := 999) (by decide) h1
    refine l_whenC (I0 := I) (X0 := X) G e_x e_z (by omega) 61 0 s.1.1 none I1 none rfl p1.1 p1.2.1 (GC_D G.1.1) l_x p1.2.2 (fun p hp => by cases hp) ?_
    intro I2 p2
    apply K_s K
    unfold f_when
    rw [if_pos h0, if_pos h1, if_pos h2]
    refine ⟨?_, p2.1, p2.2⟩
    generalize aV w (whL s.1.2 (kx x) (kx z) 61 0 s.1.1 none) = vv
    rfl

