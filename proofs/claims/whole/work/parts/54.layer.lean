/-! layer, fee, fine, why, textTold -/
theorem cE_X0_grips {I X d} {q b l : Nat} {x : Int32} {β : Bn} (hq : q = b) (h : RB (cB I b) β) (hg : GB β) (hx : x = nI l) (hl : l < 6) : Rt mX0_grips [.inr (.inr (some (0, q))), .inl x] d (mk I X) (some (.inl (nI (grN β l)))) (mk I X) := by subst hq; subst hx; exact c_X0_grips h hg hl
theorem cE_X0_held {I X d} {q b : Nat} {β : Bn} (hq : q = b) (h : RB (cB I b) β) (hg : GB β) : Rt mX0_held [.inr (.inr (some (0, q)))] (d + 1) (mk I X) (some (.inl (nI (gfN β (6 - β.1 3))))) (mk I X) := by subst hq; exact c_X0_held h hg
/-- a frame over groups that the class's state doesn't speak of -/
theorem RC_g {I I' X s} (h : RC I X s) (F : ∀ g, ¬ (g = 2 ∨ g = 19 ∨ g = 20 ∨ g = 21 ∨ g = 22 ∨ g = 24 ∨ g = 28) → I' g = I g) (N : NkC I') : RC I' X s := by
  have e : ∀ g, ¬ (g = 2 ∨ g = 19 ∨ g = 20 ∨ g = 21 ∨ g = 22 ∨ g = 24 ∨ g = 28) → I' g = I g := F
  obtain ⟨⟨h1, ht⟩, hi, hr, hs, hw, htp, hk', hid⟩ := h
  have q0 := e 0 (by decide)
  have q1 := e 1 (by decide)
  have q3 := e 3 (by decide)
  have q4 := e 4 (by decide)
  have q5 := e 5 (by decide)
  have q6 := e 6 (by decide)
  have q7 := e 7 (by decide)
  have q16 := e 16 (by decide)
  have q17 := e 17 (by decide)
  have q18 := e 18 (by decide)
  have q23 := e 23 (by decide)
  have q25 := e 25 (by decide)
  have q26 := e 26 (by decide)
  have q27 := e 27 (by decide)
  have hR : ∀ c σ, RepC I c σ → RepC I' c σ := fun c σ r => by
    obtain ⟨a0, a1, a2, a3, a4, aB⟩ := r
    exact ⟨by rw [q1]; exact a0, by rw [q1]; exact a1, by rw [q1]; exact a2, by rw [q1]; exact a3, by rw [q1]; exact a4, fun k hk => RB_same (aB k hk) (fun i _ => by show I' 0 _ _ = I 0 _ _; rw [q0]) (fun i _ => by show I' 16 _ _ = I 16 _ _; rw [q16]) (fun i _ => by show I' 17 _ _ = I 17 _ _; rw [q17])⟩
  have hT : ∀ c nt tx, TsC I X c nt tx → TsC I' X c nt tx := fun c nt tx r => by
    obtain ⟨a, b, e'⟩ := r
    refine ⟨by rw [q1]; exact a, fun key hk => by rw [q18]; exact b key hk, fun t ht => ?_⟩
    obtain ⟨id, h1, h2, h3, h4, h5, h6, h7⟩ := e' t ht
    exact ⟨id, h1, h2, by rw [q6]; exact h3, by rw [q6]; exact h4, h5, h6, fun k hk => by rw [q27]; exact h7 k hk⟩
  refine ⟨⟨hR _ _ h1, hT _ _ _ ht⟩, ?_, fun k hk => ?_, fun k hk => ?_, ?_, ?_, N, hid⟩
  · rcases e' : s.2.1 with _ | ei
    · rw [e'] at hi; show I' 7 0 8 = 0; rw [q7]; exact hi
    · rw [e'] at hi; exact ⟨by rw [q7]; exact hi.1, hR _ _ hi.2.1, hT _ _ _ hi.2.2⟩
  · obtain ⟨a, b, c⟩ := hr k hk
    exact ⟨by rw [q4]; exact a, by rw [q4]; exact b, by rw [q25]; exact c⟩
  · obtain ⟨a, b, c, d⟩ := hs k hk
    exact ⟨by rw [q5]; exact a, by rw [q5]; exact b, by rw [q4, q25]; exact c, by rw [q5]; exact d⟩
  · exact ⟨by rw [q7]; exact hw.1, by rw [q26]; exact hw.2⟩
  · exact ⟨by rw [q3]; exact htp.1, by rw [q23]; exact htp.2⟩
theorem CeC_g {I I' X c e'} (h : CeC I X c e') (F : ∀ g, ¬ (g = 2 ∨ g = 19 ∨ g = 20 ∨ g = 21 ∨ g = 22 ∨ g = 24 ∨ g = 28) → I' g = I g) : CeC I' X c e' := by
  have q0 := F 0 (by decide)
  have q1 := F 1 (by decide)
  have q6 := F 6 (by decide)
  have q16 := F 16 (by decide)
  have q17 := F 17 (by decide)
  have q18 := F 18 (by decide)
  have q27 := F 27 (by decide)
  obtain ⟨⟨a0, a1, a2, a3, a4, aB⟩, a, b, e⟩ := h
  refine ⟨⟨by rw [q1]; exact a0, by rw [q1]; exact a1, by rw [q1]; exact a2, by rw [q1]; exact a3, by rw [q1]; exact a4, fun k hk => RB_same (aB k hk) (fun i _ => by show I' 0 _ _ = I 0 _ _; rw [q0]) (fun i _ => by show I' 16 _ _ = I 16 _ _; rw [q16]) (fun i _ => by show I' 17 _ _ = I 17 _ _; rw [q17])⟩, by rw [q1]; exact a, fun key hk => by rw [q18]; exact b key hk, fun t ht => ?_⟩
  obtain ⟨id, h1, h2, h3, h4, h5, h6, h7⟩ := e t ht
  exact ⟨id, h1, h2, by rw [q6]; exact h3, by rw [q6]; exact h4, h5, h6, fun k hk => by rw [q27]; exact h7 k hk⟩
theorem RC_K {I I' X s} (h : RC I X s) (F : FrK I I') : RC I' X s := RC_g h (fun g hg => F g (fun e => hg (by omega))) (by
  obtain ⟨a, b, c⟩ := h.2.2.2.2.2.2.1
  exact ⟨by rw [F 20 (by decide)]; exact a, by rw [F 21 (by decide)]; exact b, by rw [F 22 (by decide)]; exact c⟩)
theorem FrC_g {I I' X} (F : ∀ g, ¬ (g = 2 ∨ g = 19 ∨ g = 20 ∨ g = 21 ∨ g = 22 ∨ g = 24 ∨ g = 28) → I' g = I g) : FrC I X I' X := ⟨fun g hg => F g (fun z => by rcases z with rfl | rfl | rfl | rfl | rfl | rfl | rfl <;> cases hg), rfl, by omega, by omega⟩
theorem FrC_K {I I' X} (F : FrK I I') : FrC I X I' X := FrC_g (fun g hg => F g (fun e => hg (by omega)))
/-- the model: the row s as it was, and what the state doesn't speak of -/
theorem RM_g {I I' s} (h : RM I s) (F : ∀ g, ¬ (g = 8 ∨ g = 32 ∨ g = 41 ∨ g = 42 ∨ g = 43 ∨ g = 45 ∨ g = 46 ∨ g = 47 ∨ g = 49) → I' g = I g) (h8 : I' 8 0 3 = I 8 0 3 ∧ I' 8 0 18 = I 8 0 18 ∧ I' 8 0 33 = I 8 0 33) : RM I' s := by
  obtain ⟨h1, hi, hr, hs, hw, htp⟩ := h
  refine ⟨by rw [F 30 (by decide)]; exact h1, RM_im hi h8.1 (by rw [F 31 (by decide)]), fun k hk => ?_, fun k hk => ?_, ?_, ?_⟩
  · obtain ⟨a, b, c⟩ := hr k hk
    exact ⟨by rw [F 33 (by decide)]; exact a, by rw [F 34 (by decide)]; exact b, by rw [F 35 (by decide)]; exact c⟩
  · obtain ⟨a, b, c, d⟩ := hs k hk
    exact ⟨by rw [F 36 (by decide)]; exact a, by rw [F 37 (by decide), F 38 (by decide)]; exact b, by rw [F 39 (by decide), F 40 (by decide)]; exact c, by rw [F 37 (by decide)]; exact d⟩
  · exact ⟨h8.2.2.trans hw.1, by rw [F 48 (by decide)]; exact hw.2⟩
  · exact ⟨h8.2.1.trans htp.1, by rw [F 44 (by decide)]; exact htp.2⟩
theorem RM_V {I I' s} (h : RM I s) (F : FrV I I') : RM I' s := RM_g h (fun g hg => F g (fun e => hg (by omega)) (fun e => hg (by omega))) (by rw [F 8 (by decide) (by decide)]; exact ⟨rfl, rfl, rfl⟩)
theorem FrM_V {I I'} (F : FrV I I') : FrM I I' := fun g hg => F g (fun e => by subst e; cases hg) (fun e => by subst e; cases hg)
def f_layer (s : St) (x l w : Int32) : Int32 × St := if isB s x then if 0 ≤ l ∧ l ≤ 5 then if w = 0 then (nI ((bo s (kx x)).2.1 (kx l)), s) else if w = 1 then (nI ((bo s (kx x)).2.2 (kx l)), s) else if w = 2 then (nI (strN s.1.2.1 s.1.2.2 (bo s (kx x)) (kx l)), s) else if w = 3 then (nI (grN (bo s (kx x)) (kx l)), s) else (cBAD, s) else (cBAD, s) else (cBAD, s)
set_option maxRecDepth 100000 in
set_option maxHeartbeats 4000000 in
theorem w_X7_layer {I : Nat → Nat → Nat → Int32} {X : am_Z} {g : am_F} {gs : List am_F} {d : Nat} {Q : Option am_V → am_M → Prop} {s : St} (h : RC I X s) (G : GS s) {x l w : Int32} (k0 : (¬ ((0 : Int32) ≤ x ∧ x ≤ (nI (nb s)) - 1)) → am_WP (am_psh g (some (.inl ((-1000000001)))) :: gs) (d + 5) (mk I X) Q) (k1 : ((0 : Int32) ≤ x ∧ x ≤ (nI (nb s)) - 1) → (¬ ((0 : Int32) ≤ l ∧ l ≤ 5)) → am_WP (am_psh g (some (.inl ((-1000000001)))) :: gs) (d + 5) (mk I X) Q) (k2 : ((0 : Int32) ≤ x ∧ x ≤ (nI (nb s)) - 1) → ((0 : Int32) ≤ l ∧ l ≤ 5) → (w = 0) → am_WP (am_psh g (some (.inl ((nI ((bo s (kx x)).2.1 (kx l)))))) :: gs) (d + 5) (mk I X) Q) (k3 : ((0 : Int32) ≤ x ∧ x ≤ (nI (nb s)) - 1) → ((0 : Int32) ≤ l ∧ l ≤ 5) → (¬ w = 0) → (w = 1) → am_WP (am_psh g (some (.inl ((nI ((bo s (kx x)).2.2 (kx l)))))) :: gs) (d + 5) (mk I X) Q) (k4 : ((0 : Int32) ≤ x ∧ x ≤ (nI (nb s)) - 1) → ((0 : Int32) ≤ l ∧ l ≤ 5) → (¬ w = 0) → (¬ w = 1) → (w = 2) → ∀ (I1 : Im), (FrK I I1) → am_WP (am_psh g (some (.inl (nI (strN s.1.2.1 s.1.2.2 (bo s (kx x)) (kx l))))) :: gs) (d + 5) (mk I1 X) Q) (k5 : ((0 : Int32) ≤ x ∧ x ≤ (nI (nb s)) - 1) → ((0 : Int32) ≤ l ∧ l ≤ 5) → (¬ w = 0) → (¬ w = 1) → (¬ w = 2) → (w = 3) → am_WP (am_psh g (some (.inl (nI (grN (bo s (kx x)) (kx l))))) :: gs) (d + 5) (mk I X) Q) (k6 : ((0 : Int32) ≤ x ∧ x ≤ (nI (nb s)) - 1) → ((0 : Int32) ≤ l ∧ l ≤ 5) → (¬ w = 0) → (¬ w = 1) → (¬ w = 2) → (¬ w = 3) → am_WP (am_psh g (some (.inl ((-1000000001)))) :: gs) (d + 5) (mk I X) Q) : am_WP (am_entry mX7_layer [.inr (.inr (some (7, 0))), .inl (x), .inl (l), .inl (w)] :: g :: gs) (d + 4) (mk I X) Q := by
  have hn8 : nb s ≤ 8 := G.1.1.1
  refine am_go 400 ?_
  have tk0 : I 1 0 3 = nI (nb s) := h.1.1.1
  refine (c_X7_isBottle (x := x)) _ _ _ ?_
  refine am_go 400 ?_
  refine am_if (fun h1 => ?_) (fun h1 => ?_)
  · have h1 := bI_0.mp h1
    have h1 : ¬ ((0 : Int32) ≤ x ∧ x ≤ (I 1 0 3) - 1) := h1
    try rw [tk0] at h1
    exact k0 h1
  · have h1 := bI_1.mp h1
    have h1 : (0 : Int32) ≤ x ∧ x ≤ (I 1 0 3) - 1 := h1
    try rw [tk0] at h1
    obtain ⟨e_x, l_x⟩ := okb rfl hn8 h1
    obtain ⟨g0_x, g1_x, g2_x, g3_x, g5_x, gs_x⟩ := id (GS_b G l_x)
    refine (c_X7_isLayer (x := l)) _ _ _ ?_
    refine am_go 400 ?_
    refine am_if (fun h2 => ?_) (fun h2 => ?_)
    · have h2 := bI_0.mp h2
      exact k1 h1 h2
    · have h2 := bI_1.mp h2
      obtain ⟨e_l, l_l⟩ := okl (m := 5) (by decide) h2
      refine am_f (ix_in (n := (kx x)) (N := 8) e_x (by omega) (by decide)) ?_
      have tk1 : (x).toNatClampNeg = (kx x) := ix_cl (n := (kx x)) e_x (by omega)
      refine am_if (fun h3 => ?_) (fun h3 => ?_)
      · refine am_f (ix_in (n := (kx l)) (N := 6) e_l (by omega) (by decide)) ?_
        have tk2 : (l).toNatClampNeg = (kx l) := ix_cl (n := (kx l)) e_l (by omega)
        have bd : ((bo s (kx x)).2.1 (kx l)) ≤ 24 := ((GS_b G (k := kx x) (by omega)).2.2.2.2.2 _ (by omega)).1
        have tk3 : I 16 (((x).toNatClampNeg)) (((l).toNatClampNeg)) = nI ((bo s (kx x)).2.1 (kx l)) := by first | exact vC1 h (by omega) (by omega) | (((try rw [tk2]); (try rw [tk1])); first | done | exact vC1 h (by omega) (by omega))
        show am_WP (am_psh g (some (.inl ((I 16 (((x).toNatClampNeg)) (((l).toNatClampNeg)))))) :: gs) (d + 5) (mk I X) Q
        try rw [tk3]
        try rw [tk2]
        try rw [tk1]
        exact k2 h1 h2 h3
      refine am_if (fun h4 => ?_) (fun h4 => ?_)
      · refine am_f (ix_in (n := (kx l)) (N := 6) e_l (by omega) (by decide)) ?_
        have tk4 : (l).toNatClampNeg = (kx l) := ix_cl (n := (kx l)) e_l (by omega)
        have bd : ((bo s (kx x)).2.2 (kx l)) ≤ 24 := ((GS_b G (k := kx x) (by omega)).2.2.2.2.2 _ (by omega)).2
        have tk5 : I 17 (((x).toNatClampNeg)) (((l).toNatClampNeg)) = nI ((bo s (kx x)).2.2 (kx l)) := by first | exact vC2 h (by omega) (by omega) | (((try rw [tk4]); (try rw [tk1])); first | done | exact vC2 h (by omega) (by omega))
        show am_WP (am_psh g (some (.inl ((I 17 (((x).toNatClampNeg)) (((l).toNatClampNeg)))))) :: gs) (d + 5) (mk I X) Q
        try rw [tk5]
        try rw [tk4]
        try rw [tk1]
        exact k3 h1 h2 h3 h4
      refine am_if (fun h5 => ?_) (fun h5 => ?_)
      · refine (c_X1_strong (I := I) (c := 0) (b := kx x) (l := (kx l)) (show ((x).toNatClampNeg) = ((kx x)) by (try rw [tk1]); first | done | rfl) (bC h (k := kx x) (by omega)) (GS_b G (k := kx x) (by omega)) h.1.2 G.1.2.2.1 G.1.2.2.2 e_l (by omega)) _ _ _ ?_
        intro I1 p1
        refine am_go 400 ?_
        exact k4 h1 h2 h3 h4 h5 I1 p1
      refine am_if (fun h6 => ?_) (fun h6 => ?_)
      · have bd : (grN (bo s (kx x)) (kx l)) ≤ 28 := grN_le (GS_b G (k := kx x) (by omega)) (by omega)
        refine (cE_X0_grips (I := I) (b := kx x) (l := (kx l)) (show ((x).toNatClampNeg) = ((kx x)) by (try rw [tk1]); first | done | rfl) (bC h (k := kx x) (by omega)) (GS_b G (k := kx x) (by omega)) e_l (by omega)) _ _ _ ?_
        refine am_go 400 ?_
        exact k5 h1 h2 h3 h4 h5 h6
      exact k6 h1 h2 h3 h4 h5 h6
theorem p_X7_layer {I X d s} (h : RC I X s) (G : GS s) (x l w : Int32) : Sp mX7_layer [.inr (.inr (some (7, 0))), .inl (x), .inl (l), .inl (w)] (d + 4) I X (OC I X (f_layer s x l w)) := fun g gs Q K => by
  have hn8 : nb s ≤ 8 := G.1.1.1
  have g8 : G8 s := G8_ G
  refine w_X7_layer h G  ?_ ?_ ?_ ?_ ?_ ?_ ?_
  · intro h0
    apply K_s K
    unfold f_layer
    rw [if_neg h0]
    exact ⟨rfl, h, FrC_r⟩
  · intro h0 h1
    obtain ⟨e_x, l_x⟩ := okb rfl hn8 h0
    obtain ⟨g0_x, g1_x, g2_x, g3_x, g5_x, gs_x⟩ := id (GS_b G l_x)
    apply K_s K
    unfold f_layer
    rw [if_pos h0, if_neg h1]
    exact ⟨rfl, h, FrC_r⟩
  · intro h0 h1 h2
    obtain ⟨e_x, l_x⟩ := okb rfl hn8 h0
    obtain ⟨g0_x, g1_x, g2_x, g3_x, g5_x, gs_x⟩ := id (GS_b G l_x)
    obtain ⟨e_l, l_l⟩ := okl (m := 5) (by decide) h1
    apply K_s K
    unfold f_layer
    rw [if_pos h0, if_pos h1, if_pos h2]
    exact ⟨rfl, h, FrC_r⟩
  · intro h0 h1 h2 h3
    obtain ⟨e_x, l_x⟩ := okb rfl hn8 h0
    obtain ⟨g0_x, g1_x, g2_x, g3_x, g5_x, gs_x⟩ := id (GS_b G l_x)
    obtain ⟨e_l, l_l⟩ := okl (m := 5) (by decide) h1
    apply K_s K
    unfold f_layer
    rw [if_pos h0, if_pos h1, if_neg h2, if_pos h3]
    exact ⟨rfl, h, FrC_r⟩
  · intro h0 h1 h2 h3 h4 I1 p1
    obtain ⟨e_x, l_x⟩ := okb rfl hn8 h0
    obtain ⟨g0_x, g1_x, g2_x, g3_x, g5_x, gs_x⟩ := id (GS_b G l_x)
    obtain ⟨e_l, l_l⟩ := okl (m := 5) (by decide) h1
    apply K_s K
    unfold f_layer
    rw [if_pos h0, if_pos h1, if_neg h2, if_neg h3, if_pos h4]
    exact ⟨rfl, RC_K h p1, FrC_K p1⟩
  · intro h0 h1 h2 h3 h4 h5
    obtain ⟨e_x, l_x⟩ := okb rfl hn8 h0
    obtain ⟨g0_x, g1_x, g2_x, g3_x, g5_x, gs_x⟩ := id (GS_b G l_x)
    obtain ⟨e_l, l_l⟩ := okl (m := 5) (by decide) h1
    apply K_s K
    unfold f_layer
    rw [if_pos h0, if_pos h1, if_neg h2, if_neg h3, if_neg h4, if_pos h5]
    exact ⟨rfl, h, FrC_r⟩
  · intro h0 h1 h2 h3 h4 h5
    obtain ⟨e_x, l_x⟩ := okb rfl hn8 h0
    obtain ⟨g0_x, g1_x, g2_x, g3_x, g5_x, gs_x⟩ := id (GS_b G l_x)
    obtain ⟨e_l, l_l⟩ := okl (m := 5) (by decide) h1
    apply K_s K
    unfold f_layer
    rw [if_pos h0, if_pos h1, if_neg h2, if_neg h3, if_neg h4, if_neg h5]
    exact ⟨rfl, h, FrC_r⟩

set_option maxRecDepth 100000 in
set_option maxHeartbeats 4000000 in
theorem w_X8_layer {I : Nat → Nat → Nat → Int32} {X : am_Z} {g : am_F} {gs : List am_F} {d : Nat} {Q : Option am_V → am_M → Prop} {s : St} (h : RM I s) (G : GS s) {x l w : Int32} (k0 : (¬ ((0 : Int32) ≤ x ∧ x ≤ (nI (nb s)) - 1)) → am_WP (am_psh g (some (.inl ((-1000000001)))) :: gs) (d + 4) (mk I X) Q) (k1 : ((0 : Int32) ≤ x ∧ x ≤ (nI (nb s)) - 1) → (¬ ((0 : Int32) ≤ l ∧ l ≤ 5)) → am_WP (am_psh g (some (.inl ((-1000000001)))) :: gs) (d + 4) (mk I X) Q) (k2 : ((0 : Int32) ≤ x ∧ x ≤ (nI (nb s)) - 1) → ((0 : Int32) ≤ l ∧ l ≤ 5) → (¬ ((0 : Int32) ≤ w ∧ w ≤ 3)) → am_WP (am_psh g (some (.inl ((-1000000001)))) :: gs) (d + 4) (mk I X) Q) (k3 : ((0 : Int32) ≤ x ∧ x ≤ (nI (nb s)) - 1) → ((0 : Int32) ≤ l ∧ l ≤ 5) → ((0 : Int32) ≤ w ∧ w ≤ 3) → (w = 0) → am_WP (am_psh g (some (.inl ((nI ((bo s (kx x)).2.1 (kx l)))))) :: gs) (d + 4) (mk I X) Q) (k4 : ((0 : Int32) ≤ x ∧ x ≤ (nI (nb s)) - 1) → ((0 : Int32) ≤ l ∧ l ≤ 5) → ((0 : Int32) ≤ w ∧ w ≤ 3) → (¬ w = 0) → (w = 1) → am_WP (am_psh g (some (.inl ((nI ((bo s (kx x)).2.2 (kx l)))))) :: gs) (d + 4) (mk I X) Q) (k5 : ((0 : Int32) ≤ x ∧ x ≤ (nI (nb s)) - 1) → ((0 : Int32) ≤ l ∧ l ≤ 5) → ((0 : Int32) ≤ w ∧ w ≤ 3) → (¬ w = 0) → (¬ w = 1) → (w = 2) → ∀ (I1 : Im), (FrV I I1) → am_WP (am_psh g (some (.inl (nI (strN s.1.2.1 s.1.2.2 (bo s (kx x)) (kx l))))) :: gs) (d + 4) (mk I1 X) Q) (k6 : ((0 : Int32) ≤ x ∧ x ≤ (nI (nb s)) - 1) → ((0 : Int32) ≤ l ∧ l ≤ 5) → ((0 : Int32) ≤ w ∧ w ≤ 3) → (¬ w = 0) → (¬ w = 1) → (¬ w = 2) → am_WP (am_psh g (some (.inl ((nI (grN (bo s (kx x)) (kx l)))))) :: gs) (d + 4) (mk I X) Q) : am_WP (am_entry mX8_layer [.inr (.inr (some (8, 0))), .inl (x), .inl (l), .inl (w)] :: g :: gs) (d + 3) (mk I X) Q := by
  have hn8 : nb s ≤ 8 := G.1.1.1
  refine am_go 400 ?_
  have tk0 : I 30 0 0 = nI (nb s) := h.1.1.1
  refine (c_X8_isBottle (x := x)) _ _ _ ?_
  refine am_go 400 ?_
  refine am_if (fun h1 => ?_) (fun h1 => ?_)
  · have h1 := bI_0.mp h1
    have h1 : ¬ ((0 : Int32) ≤ x ∧ x ≤ (I 30 0 0) - 1) := h1
    try rw [tk0] at h1
    exact k0 h1
  · have h1 := bI_1.mp h1
    have h1 : (0 : Int32) ≤ x ∧ x ≤ (I 30 0 0) - 1 := h1
    try rw [tk0] at h1
    obtain ⟨e_x, l_x⟩ := okb rfl hn8 h1
    obtain ⟨g0_x, g1_x, g2_x, g3_x, g5_x, gs_x⟩ := id (GS_b G l_x)
    refine (c_X8_isLayer (x := l)) _ _ _ ?_
    refine am_go 400 ?_
    refine am_if (fun h2 => ?_) (fun h2 => ?_)
    · have h2 := bI_0.mp h2
      exact k1 h1 h2
    · have h2 := bI_1.mp h2
      obtain ⟨e_l, l_l⟩ := okl (m := 5) (by decide) h2
      refine (m_isIn (w) (0) (3) _ _) _ _ _ ?_
      refine am_go 400 ?_
      refine am_if (fun h3 => ?_) (fun h3 => ?_)
      · have h3 := bI_0.mp h3
        exact k2 h1 h2 h3
      · have h3 := bI_1.mp h3
        have w4 := n03 h3
        refine am_if (fun h4 => ?_) (fun h4 => ?_)
        · have bd : ((bo s (kx x)).2.1 (kx l)) ≤ 24 := ((GS_b G (k := kx x) (by omega)).2.2.2.2.2 _ (by omega)).1
          have tk1 : I 30 0 (6 + 18 * (kx x) + (6 + (kx l))) = nI ((bo s (kx x)).2.1 (kx l)) := vM1 (k := kx x) (j := kx l) h (by omega) (by omega)
          refine (c8_of (k := (kx x)) (j := (6 + (kx l))) e_x (nI_addE (rfl : (6 : Int32) = nI 6) e_l) (by omega)) _ _ _ ?_
          refine am_go 400 ?_
          show am_WP (am_psh g (some (.inl ((I 30 0 (6 + 18 * (kx x) + (6 + (kx l))))))) :: gs) (d + 4) (mk I X) Q
          try rw [tk1]
          exact k3 h1 h2 h3 h4
        refine am_if (fun h5 => ?_) (fun h5 => ?_)
        · have bd : ((bo s (kx x)).2.2 (kx l)) ≤ 24 := ((GS_b G (k := kx x) (by omega)).2.2.2.2.2 _ (by omega)).2
          have tk2 : I 30 0 (6 + 18 * (kx x) + (12 + (kx l))) = nI ((bo s (kx x)).2.2 (kx l)) := vM2 (k := kx x) (j := kx l) h (by omega) (by omega)
          refine (c8_of (k := (kx x)) (j := (12 + (kx l))) e_x (nI_addE (rfl : (12 : Int32) = nI 12) e_l) (by omega)) _ _ _ ?_
          refine am_go 400 ?_
          show am_WP (am_psh g (some (.inl ((I 30 0 (6 + 18 * (kx x) + (12 + (kx l))))))) :: gs) (d + 4) (mk I X) Q
          try rw [tk2]
          exact k4 h1 h2 h3 h4 h5
        refine am_if (fun h6 => ?_) (fun h6 => ?_)
        · refine (c_X8_strong (I := I) (b := (kx x)) (l := (kx l)) (bM h (k := (kx x)) (by omega)) (GS_b G (k := (kx x)) (by omega)) h.1.2.1 G.1.2.2.1 h.1.2.2 G.1.2.2.2 e_x (by omega) e_l (by omega)) _ _ _ ?_
          intro I1 p1
          refine am_go 400 ?_
          exact k5 h1 h2 h3 h4 h5 h6 I1 p1
        have bd : (grN (bo s (kx x)) (kx l)) ≤ 28 := grN_le (GS_b G (k := (kx x)) (by omega)) (by omega)
        have tk3 : (grS (mB (I 30 0) (kx x)) (kx l)) = nI (grN (bo s (kx x)) (kx l)) := grS_N (bM h (k := (kx x)) (by omega)) (GS_b G (k := (kx x)) (by omega)) (by omega)
        refine (cE_X8_grips (k := (kx x)) (l := (kx l)) e_x e_l (by omega) (by omega)) _ _ _ ?_
        refine am_go 400 ?_
        show am_WP (am_psh g (some (.inl (((grS (mB (I 30 0) (kx x)) (kx l)))))) :: gs) (d + 4) (mk I X) Q
        try rw [tk3]
        exact k6 h1 h2 h3 h4 h5 h6
theorem p_X8_layer {I X d s} (h : RM I s) (G : GS s) (x l w : Int32) : Sp mX8_layer [.inr (.inr (some (8, 0))), .inl (x), .inl (l), .inl (w)] (d + 3) I X (OM I X (f_layer s x l w)) := fun g gs Q K => by
  have hn8 : nb s ≤ 8 := G.1.1.1
  have g8 : G8 s := G8_ G
  refine w_X8_layer h G  ?_ ?_ ?_ ?_ ?_ ?_ ?_
  · intro h0
    apply K_s K
    unfold f_layer
    rw [if_neg h0]
    exact ⟨rfl, h, FrM_r, rfl⟩
  · intro h0 h1
    obtain ⟨e_x, l_x⟩ := okb rfl hn8 h0
    obtain ⟨g0_x, g1_x, g2_x, g3_x, g5_x, gs_x⟩ := id (GS_b G l_x)
    apply K_s K
    unfold f_layer
    rw [if_pos h0, if_neg h1]
    exact ⟨rfl, h, FrM_r, rfl⟩
  · intro h0 h1 h2
    obtain ⟨e_x, l_x⟩ := okb rfl hn8 h0
    obtain ⟨g0_x, g1_x, g2_x, g3_x, g5_x, gs_x⟩ := id (GS_b G l_x)
    obtain ⟨e_l, l_l⟩ := okl (m := 5) (by decide) h1
    apply K_s K
    unfold f_layer
    rw [if_pos h0, if_pos h1, if_neg (fun z => h2 (by rw [z]; decide)), if_neg (fun z => h2 (by rw [z]; decide)), if_neg (fun z => h2 (by rw [z]; decide)), if_neg (fun z => h2 (by rw [z]; decide))]
    exact ⟨rfl, h, FrM_r, rfl⟩
  · intro h0 h1 h2 h3
    obtain ⟨e_x, l_x⟩ := okb rfl hn8 h0
    obtain ⟨g0_x, g1_x, g2_x, g3_x, g5_x, gs_x⟩ := id (GS_b G l_x)
    obtain ⟨e_l, l_l⟩ := okl (m := 5) (by decide) h1
    have w4 := n03 h2
    apply K_s K
    unfold f_layer
    rw [if_pos h0, if_pos h1, if_pos h3]
    exact ⟨rfl, h, FrM_r, rfl⟩
  · intro h0 h1 h2 h3 h4
    obtain ⟨e_x, l_x⟩ := okb rfl hn8 h0
    obtain ⟨g0_x, g1_x, g2_x, g3_x, g5_x, gs_x⟩ := id (GS_b G l_x)
    obtain ⟨e_l, l_l⟩ := okl (m := 5) (by decide) h1
    have w4 := n03 h2
    apply K_s K
    unfold f_layer
    rw [if_pos h0, if_pos h1, if_neg h3, if_pos h4]
    exact ⟨rfl, h, FrM_r, rfl⟩
  · intro h0 h1 h2 h3 h4 h5 I1 p1
    obtain ⟨e_x, l_x⟩ := okb rfl hn8 h0
    obtain ⟨g0_x, g1_x, g2_x, g3_x, g5_x, gs_x⟩ := id (GS_b G l_x)
    obtain ⟨e_l, l_l⟩ := okl (m := 5) (by decide) h1
    have w4 := n03 h2
    apply K_s K
    unfold f_layer
    rw [if_pos h0, if_pos h1, if_neg h3, if_neg h4, if_pos h5]
    exact ⟨rfl, RM_V h p1, FrM_V p1, rfl⟩
  · intro h0 h1 h2 h3 h4 h5
    obtain ⟨e_x, l_x⟩ := okb rfl hn8 h0
    obtain ⟨g0_x, g1_x, g2_x, g3_x, g5_x, gs_x⟩ := id (GS_b G l_x)
    obtain ⟨e_l, l_l⟩ := okl (m := 5) (by decide) h1
    have w4 := n03 h2
    have h6 : w = 3 := by rcases w4 with q | q | q | q <;> first | exact q | contradiction
    apply K_s K
    unfold f_layer
    rw [if_pos h0, if_pos h1, if_neg h3, if_neg h4, if_neg h5, if_pos h6]
    exact ⟨rfl, h, FrM_r, rfl⟩

