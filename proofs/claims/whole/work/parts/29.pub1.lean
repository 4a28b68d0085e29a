abbrev cBAD : Int32 := -1000000001
abbrev cNO : Int32 := -1000000002
abbrev cFULL : Int32 := -1000000003
abbrev cNONE : Int32 := -1000000005
abbrev cNOTH : Int32 := -1000000011
abbrev cKIND : Int32 := -1000000012
abbrev cINDEX : Int32 := -1000000013
abbrev cSIZE : Int32 := -1000000014
abbrev isB (s : St) (x : Int32) : Prop := 0 ≤ x ∧ x ≤ nI (nb s) - 1
theorem vC0 {I X s} {k j : Nat} (h : RC I X s) (hk : k < nb s) (hj : j < 6) : I 0 k (j + 2) = nI ((bo s k).1 j) := (h.1.1.2.2.2.2.2 k hk j hj).1
theorem vC1 {I X s} {k j : Nat} (h : RC I X s) (hk : k < nb s) (hj : j < 6) : I 16 k j = nI ((bo s k).2.1 j) := (h.1.1.2.2.2.2.2 k hk j hj).2.1
theorem vC2 {I X s} {k j : Nat} (h : RC I X s) (hk : k < nb s) (hj : j < 6) : I 17 k j = nI ((bo s k).2.2 j) := (h.1.1.2.2.2.2.2 k hk j hj).2.2
theorem vM0 {I s} {k j : Nat} (h : RM I s) (hk : k < nb s) (hj : j < 6) : I 30 0 (6 + 18 * k + j) = nI ((bo s k).1 j) := (h.1.1.2.2.2.2.2 k hk j hj).1
theorem vM1 {I s} {k j : Nat} (h : RM I s) (hk : k < nb s) (hj : j < 6) : I 30 0 (6 + 18 * k + (6 + j)) = nI ((bo s k).2.1 j) := (h.1.1.2.2.2.2.2 k hk j hj).2.1
theorem vM2 {I s} {k j : Nat} (h : RM I s) (hk : k < nb s) (hj : j < 6) : I 30 0 (6 + 18 * k + (12 + j)) = nI ((bo s k).2.2 j) := (h.1.1.2.2.2.2.2 k hk j hj).2.2
def f_turns (s : St) (x y : Int32) : Int32 × St := if isB s x then if 0 ≤ y ∧ y ≤ 5 then (nI ((bo s (kx x)).1 0), w0 s (kx x) 0 (kx y)) else (cBAD, s) else (cBAD, s)
set_option maxRecDepth 100000 in
set_option maxHeartbeats 4000000 in
theorem w_X7_turns {I : Nat → Nat → Nat → Int32} {X : am_Z} {g : am_F} {gs : List am_F} {d : Nat} {Q : Option am_V → am_M → Prop} {s : St} (h : RC I X s) (G : GS s) {x y : Int32} (k0 : (¬ ((0 : Int32) ≤ x ∧ x ≤ (I 1 0 3) - 1)) → am_WP (am_psh g (some (.inl ((-1000000001)))) :: gs) (d + 3) (mk I X) Q) (k1 : ((0 : Int32) ≤ x ∧ x ≤ (I 1 0 3) - 1) → (¬ ((0 : Int32) ≤ y ∧ y ≤ 5)) → am_WP (am_psh g (some (.inl ((-1000000001)))) :: gs) (d + 3) (mk I X) Q) (k2 : ((0 : Int32) ≤ x ∧ x ≤ (I 1 0 3) - 1) → ((0 : Int32) ≤ y ∧ y ≤ 5) → am_WP (am_psh g (some (.inl ((I 0 (kx x) 2)))) :: gs) (d + 3) (mk (up3 I 0 (kx x) (2) (y)) X) Q) : am_WP (am_entry mX7_turns [.inr (.inr (some (7, 0))), .inl (x), .inl (y)] :: g :: gs) (d + 2) (mk I X) Q := by
  have hn : I 1 0 3 = nI (nb s) := h.1.1.1
  have hn8 : nb s ≤ 8 := G.1.1.1
  refine am_go 400 ?_
  refine (c_X7_isBottle (x := x)) _ _ _ ?_
  refine am_go 400 ?_
  refine am_if (fun h1 => ?_) (fun h1 => ?_)
  · have h1 := bI_0.mp h1
    exact k0 h1
  · have h1 := bI_1.mp h1
    obtain ⟨e_x, l_x⟩ := okb hn hn8 h1
    obtain ⟨g0_x, g1_x, g2_x, g3_x, g5_x, gs_x⟩ := id (GS_b G l_x)
    refine (c_X7_isKind (x := y)) _ _ _ ?_
    refine am_go 400 ?_
    refine am_if (fun h2 => ?_) (fun h2 => ?_)
    · have h2 := bI_0.mp h2
      exact k1 h1 h2
    · have h2 := bI_1.mp h2
      obtain ⟨e_y, l_y⟩ := okl (m := 5) (by decide) h2
      refine am_f (ix_in (n := (kx x)) (N := 8) e_x (by omega) (by decide)) ?_
      exact k2 h1 h2
theorem p_X7_turns {I X d s} (h : RC I X s) (G : GS s) (x y : Int32) : Sp mX7_turns [.inr (.inr (some (7, 0))), .inl (x), .inl (y)] (d + 2) I X (OC I X (f_turns s x y)) := fun g gs Q K => by
  have hn : I 1 0 3 = nI (nb s) := h.1.1.1
  have hn8 : nb s ≤ 8 := G.1.1.1
  have g8 : G8 s := G8_ G
  refine w_X7_turns h G  ?_ ?_ ?_
  · intro h0
    rw [hn] at h0
    apply K_s K
    unfold f_turns
    rw [if_neg h0]
    exact ⟨rfl, h, FrC_r⟩
  · intro h0 h1
    rw [hn] at h0
    obtain ⟨e_x, l_x⟩ := okb rfl hn8 h0
    obtain ⟨g0_x, g1_x, g2_x, g3_x, g5_x, gs_x⟩ := id (GS_b G l_x)
    apply K_s K
    unfold f_turns
    rw [if_pos h0, if_neg h1]
    exact ⟨rfl, h, FrC_r⟩
  · intro h0 h1
    rw [hn] at h0
    obtain ⟨e_x, l_x⟩ := okb rfl hn8 h0
    obtain ⟨g0_x, g1_x, g2_x, g3_x, g5_x, gs_x⟩ := id (GS_b G l_x)
    obtain ⟨e_y, l_y⟩ := okl (m := 5) (by decide) h1
    apply K_s K
    unfold f_turns
    rw [if_pos h0, if_pos h1]
    exact ⟨vC0 (j := 0) h l_x (by omega), RC_w0 (j := 0) h g8 l_x (by omega) e_y, FrC_3 rfl FrC_r⟩

set_option maxRecDepth 100000 in
set_option maxHeartbeats 4000000 in
theorem w_X8_turns {I : Nat → Nat → Nat → Int32} {X : am_Z} {g : am_F} {gs : List am_F} {d : Nat} {Q : Option am_V → am_M → Prop} {s : St} (h : RM I s) (G : GS s) {x y : Int32} (k0 : (¬ ((0 : Int32) ≤ x ∧ x ≤ (I 30 0 0) - 1)) → am_WP (am_psh g (some (.inl ((-1000000001)))) :: gs) (d + 3) (mk I X) Q) (k1 : ((0 : Int32) ≤ x ∧ x ≤ (I 30 0 0) - 1) → (¬ ((0 : Int32) ≤ y ∧ y ≤ 5)) → am_WP (am_psh g (some (.inl ((-1000000001)))) :: gs) (d + 3) (mk I X) Q) (k2 : ((0 : Int32) ≤ x ∧ x ≤ (I 30 0 0) - 1) → ((0 : Int32) ≤ y ∧ y ≤ 5) → am_WP (am_psh g (some (.inl ((I 30 0 (6 + (18 * (kx x))))))) :: gs) (d + 3) (mk (up3 I 30 0 (6 + (18 * (kx x))) (y)) X) Q) : am_WP (am_entry mX8_turns [.inr (.inr (some (8, 0))), .inl (x), .inl (y)] :: g :: gs) (d + 2) (mk I X) Q := by
  have hn : I 30 0 0 = nI (nb s) := h.1.1.1
  have hn8 : nb s ≤ 8 := G.1.1.1
  refine am_go 400 ?_
  refine (c_X8_isBottle (x := x)) _ _ _ ?_
  refine am_go 400 ?_
  refine am_if (fun h1 => ?_) (fun h1 => ?_)
  · have h1 := bI_0.mp h1
    exact k0 h1
  · have h1 := bI_1.mp h1
    obtain ⟨e_x, l_x⟩ := okb hn hn8 h1
    obtain ⟨g0_x, g1_x, g2_x, g3_x, g5_x, gs_x⟩ := id (GS_b G l_x)
    refine (m_isIn (y) (0) (5) _ _) _ _ _ ?_
    refine am_go 400 ?_
    refine am_if (fun h2 => ?_) (fun h2 => ?_)
    · have h2 := bI_0.mp h2
      exact k1 h1 h2
    · have h2 := bI_1.mp h2
      obtain ⟨e_y, l_y⟩ := okl (m := 5) (by decide) h2
      refine (c8_becomes (j := (6 + (18 * (kx x)))) (nI_addE (rfl : (6 : Int32) = nI 6) (nI_mulE (rfl : (18 : Int32) = nI 18) e_x)) (by omega)) _ _ _ ?_
      refine am_go 400 ?_
      exact k2 h1 h2
theorem p_X8_turns {I X d s} (h : RM I s) (G : GS s) (x y : Int32) : Sp mX8_turns [.inr (.inr (some (8, 0))), .inl (x), .inl (y)] (d + 2) I X (OM I X (f_turns s x y)) := fun g gs Q K => by
  have hn : I 30 0 0 = nI (nb s) := h.1.1.1
  have hn8 : nb s ≤ 8 := G.1.1.1
  have g8 : G8 s := G8_ G
  refine w_X8_turns h G  ?_ ?_ ?_
  · intro h0
    rw [hn] at h0
    apply K_s K
    unfold f_turns
    rw [if_neg h0]
    exact ⟨rfl, h, ⟨FrM_r, rfl⟩⟩
  · intro h0 h1
    rw [hn] at h0
    obtain ⟨e_x, l_x⟩ := okb rfl hn8 h0
    obtain ⟨g0_x, g1_x, g2_x, g3_x, g5_x, gs_x⟩ := id (GS_b G l_x)
    apply K_s K
    unfold f_turns
    rw [if_pos h0, if_neg h1]
    exact ⟨rfl, h, ⟨FrM_r, rfl⟩⟩
  · intro h0 h1
    rw [hn] at h0
    obtain ⟨e_x, l_x⟩ := okb rfl hn8 h0
    obtain ⟨g0_x, g1_x, g2_x, g3_x, g5_x, gs_x⟩ := id (GS_b G l_x)
    obtain ⟨e_y, l_y⟩ := okl (m := 5) (by decide) h1
    apply K_s K
    unfold f_turns
    rw [if_pos h0, if_pos h1]
    exact ⟨vM0 (j := 0) h l_x (by omega), RM_w0 (j := 0) h g8 l_x (by omega) e_y, ⟨FrM_3 rfl FrM_r, rfl⟩⟩

def f_sets (s : St) (x l w v : Int32) : Int32 × St := if isB s x then if 0 ≤ l ∧ l ≤ 5 then if 0 ≤ w ∧ w ≤ 1 then if 0 ≤ v ∧ v ≤ 24 then if w = 0 then (nI ((bo s (kx x)).2.1 (kx l)), w1 s (kx x) (kx l) (kx v)) else (nI ((bo s (kx x)).2.2 (kx l)), w2 s (kx x) (kx l) (kx v)) else (cBAD, s) else (cBAD, s) else (cBAD, s) else (cBAD, s)
def f_set (s : St) (x w v : Int32) : Int32 × St := if isB s x then if 1 ≤ w ∧ w ≤ 2 then if w = 1 then if 0 ≤ v ∧ v ≤ 99 then (nI ((bo s (kx x)).1 1), w0 s (kx x) 1 (kx v)) else (cBAD, s) else if 0 ≤ v ∧ v ≤ 1 then (nI ((bo s (kx x)).1 2), w0 s (kx x) 2 (kx v)) else (cBAD, s) else (cBAD, s) else (cBAD, s)
set_option maxRecDepth 100000 in
set_option maxHeartbeats 4000000 in
theorem w_X7_sets {I : Nat → Nat → Nat → Int32} {X : am_Z} {g : am_F} {gs : List am_F} {d : Nat} {Q : Option am_V → am_M → Prop} {s : St} (h : RC I X s) (G : GS s) {x l w v : Int32} (k0 : (¬ ((0 : Int32) ≤ x ∧ x ≤ (I 1 0 3) - 1)) → am_WP (am_psh g (some (.inl ((-1000000001)))) :: gs) (d + 3) (mk I X) Q) (k1 : ((0 : Int32) ≤ x ∧ x ≤ (I 1 0 3) - 1) → (¬ ((0 : Int32) ≤ l ∧ l ≤ 5)) → am_WP (am_psh g (some (.inl ((-1000000001)))) :: gs) (d + 3) (mk I X) Q) (k2 : ((0 : Int32) ≤ x ∧ x ≤ (I 1 0 3) - 1) → ((0 : Int32) ≤ l ∧ l ≤ 5) → (¬ ((0 : Int32) ≤ w ∧ w ≤ 1)) → am_WP (am_psh g (some (.inl ((-1000000001)))) :: gs) (d + 3) (mk I X) Q) (k3 : ((0 : Int32) ≤ x ∧ x ≤ (I 1 0 3) - 1) → ((0 : Int32) ≤ l ∧ l ≤ 5) → ((0 : Int32) ≤ w ∧ w ≤ 1) → (¬ ((0 : Int32) ≤ v ∧ v ≤ 24)) → am_WP (am_psh g (some (.inl ((-1000000001)))) :: gs) (d + 3) (mk I X) Q) (k4 : ((0 : Int32) ≤ x ∧ x ≤ (I 1 0 3) - 1) → ((0 : Int32) ≤ l ∧ l ≤ 5) → ((0 : Int32) ≤ w ∧ w ≤ 1) → ((0 : Int32) ≤ v ∧ v ≤ 24) → (w = 0) → am_WP (am_psh g (some (.inl ((I 16 (kx x) (kx l))))) :: gs) (d + 3) (mk (up3 I 16 (kx x) (kx l) (v)) X) Q) (k5 : ((0 : Int32) ≤ x ∧ x ≤ (I 1 0 3) - 1) → ((0 : Int32) ≤ l ∧ l ≤ 5) → ((0 : Int32) ≤ w ∧ w ≤ 1) → ((0 : Int32) ≤ v ∧ v ≤ 24) → (¬ w = 0) → am_WP (am_psh g (some (.inl ((I 17 (kx x) (kx l))))) :: gs) (d + 3) (mk (up3 I 17 (kx x) (kx l) (v)) X) Q) : am_WP (am_entry mX7_sets [.inr (.inr (some (7, 0))), .inl (x), .inl (l), .inl (w), .inl (v)] :: g :: gs) (d + 2) (mk I X) Q := by
  have hn : I 1 0 3 = nI (nb s) := h.1.1.1
  have hn8 : nb s ≤ 8 := G.1.1.1
  refine am_go 400 ?_
  refine (c_X7_isBottle (x := x)) _ _ _ ?_
  refine am_go 400 ?_
  refine am_if (fun h1 => ?_) (fun h1 => ?_)
  · have h1 := bI_0.mp h1
    exact k0 h1
  · have h1 := bI_1.mp h1
    obtain ⟨e_x, l_x⟩ := okb hn hn8 h1
    obtain ⟨g0_x, g1_x, g2_x, g3_x, g5_x, gs_x⟩ := id (GS_b G l_x)
    refine (c_X7_isLayer (x := l)) _ _ _ ?_
    refine am_go 400 ?_
    refine am_if (fun h2 => ?_) (fun h2 => ?_)
    · have h2 := bI_0.mp h2
      exact k1 h1 h2
    · have h2 := bI_1.mp h2
      obtain ⟨e_l, l_l⟩ := okl (m := 5) (by decide) h2
      refine (c_X7_within (w) (0) (1)) _ _ _ ?_
      refine am_go 400 ?_
      refine am_if (fun h3 => ?_) (fun h3 => ?_)
      · have h3 := bI_0.mp h3
        exact k2 h1 h2 h3
      · have h3 := bI_1.mp h3
        refine (c_X7_within (v) (0) (24)) _ _ _ ?_
        refine am_go 400 ?_
        refine am_if (fun h4 => ?_) (fun h4 => ?_)
        · have h4 := bI_0.mp h4
          exact k3 h1 h2 h3 h4
        · have h4 := bI_1.mp h4
          obtain ⟨e_v, l_v⟩ := okl (m := 24) (by decide) h4
          refine am_f (ix_in (n := (kx x)) (N := 8) e_x (by omega) (by decide)) ?_
          refine am_if (fun h5 => ?_) (fun h5 => ?_)
          · refine am_f (ix_in (n := (kx l)) (N := 6) e_l (by omega) (by decide)) ?_
            refine am_f (ix_in (n := (kx l)) (N := 6) e_l (by omega) (by decide)) ?_
            exact k4 h1 h2 h3 h4 h5
          · refine am_f (ix_in (n := (kx l)) (N := 6) e_l (by omega) (by decide)) ?_
            refine am_f (ix_in (n := (kx l)) (N := 6) e_l (by omega) (by decide)) ?_
            exact k5 h1 h2 h3 h4 h5
theorem p_X7_sets {I X d s} (h : RC I X s) (G : GS s) (x l w v : Int32) : Sp mX7_sets [.inr (.inr (some (7, 0))), .inl (x), .inl (l), .inl (w), .inl (v)] (d + 2) I X (OC I X (f_sets s x l w v)) := fun g gs Q K => by
  have hn : I 1 0 3 = nI (nb s) := h.1.1.1
  have hn8 : nb s ≤ 8 := G.1.1.1
  have g8 : G8 s := G8_ G
  refine w_X7_sets h G  ?_ ?_ ?_ ?_ ?_ ?_
  · intro h0
    rw [hn] at h0
    apply K_s K
    unfold f_sets
    rw [if_neg h0]
    exact ⟨rfl, h, FrC_r⟩
  · intro h0 h1
    rw [hn] at h0
    obtain ⟨e_x, l_x⟩ := okb rfl hn8 h0
    obtain ⟨g0_x, g1_x, g2_x, g3_x, g5_x, gs_x⟩ := id (GS_b G l_x)
    apply K_s K
    unfold f_sets
    rw [if_pos h0, if_neg h1]
    exact ⟨rfl, h, FrC_r⟩
  · intro h0 h1 h2
    rw [hn] at h0
    obtain ⟨e_x, l_x⟩ := okb rfl hn8 h0
    obtain ⟨g0_x, g1_x, g2_x, g3_x, g5_x, gs_x⟩ := id (GS_b G l_x)
    obtain ⟨e_l, l_l⟩ := okl (m := 5) (by decide) h1
    apply K_s K
    unfold f_sets
    rw [if_pos h0, if_pos h1, if_neg h2]
    exact ⟨rfl, h, FrC_r⟩
  · intro h0 h1 h2 h3
    rw [hn] at h0
    obtain ⟨e_x, l_x⟩ := okb rfl hn8 h0
    obtain ⟨g0_x, g1_x, g2_x, g3_x, g5_x, gs_x⟩ := id (GS_b G l_x)
    obtain ⟨e_l, l_l⟩ := okl (m := 5) (by decide) h1
    apply K_s K
    unfold f_sets
    rw [if_pos h0, if_pos h1, if_pos h2, if_neg h3]
    exact ⟨rfl, h, FrC_r⟩
  · intro h0 h1 h2 h3 h4
    rw [hn] at h0
    obtain ⟨e_x, l_x⟩ := okb rfl hn8 h0
    obtain ⟨g0_x, g1_x, g2_x, g3_x, g5_x, gs_x⟩ := id (GS_b G l_x)
    obtain ⟨e_l, l_l⟩ := okl (m := 5) (by decide) h1
    obtain ⟨e_v, l_v⟩ := okl (m := 24) (by decide) h3
    apply K_s K
    unfold f_sets
    rw [if_pos h0, if_pos h1, if_pos h2, if_pos h3, if_pos h4]
    exact ⟨vC1 h l_x (by omega), RC_w1 h g8 l_x e_v, FrC_3 rfl FrC_r⟩
  · intro h0 h1 h2 h3 h4
    rw [hn] at h0
    obtain ⟨e_x, l_x⟩ := okb rfl hn8 h0
    obtain ⟨g0_x, g1_x, g2_x, g3_x, g5_x, gs_x⟩ := id (GS_b G l_x)
    obtain ⟨e_l, l_l⟩ := okl (m := 5) (by decide) h1
    obtain ⟨e_v, l_v⟩ := okl (m := 24) (by decide) h3
    apply K_s K
    unfold f_sets
    rw [if_pos h0, if_pos h1, if_pos h2, if_pos h3, if_neg h4]
    exact ⟨vC2 h l_x (by omega), RC_w2 h g8 l_x e_v, FrC_3 rfl FrC_r⟩

set_option maxRecDepth 100000 in
set_option maxHeartbeats 4000000 in
theorem w_X8_sets {I : Nat → Nat → Nat → Int32} {X : am_Z} {g : am_F} {gs : List am_F} {d : Nat} {Q : Option am_V → am_M → Prop} {s : St} (h : RM I s) (G : GS s) {x l w v : Int32} (k0 : (¬ ((0 : Int32) ≤ x ∧ x ≤ (I 30 0 0) - 1)) → am_WP (am_psh g (some (.inl ((-1000000001)))) :: gs) (d + 3) (mk I X) Q) (k1 : ((0 : Int32) ≤ x ∧ x ≤ (I 30 0 0) - 1) → (¬ ((0 : Int32) ≤ l ∧ l ≤ 5)) → am_WP (am_psh g (some (.inl ((-1000000001)))) :: gs) (d + 3) (mk I X) Q) (k2 : ((0 : Int32) ≤ x ∧ x ≤ (I 30 0 0) - 1) → ((0 : Int32) ≤ l ∧ l ≤ 5) → (¬ ((0 : Int32) ≤ w ∧ w ≤ 1)) → am_WP (am_psh g (some (.inl ((-1000000001)))) :: gs) (d + 3) (mk I X) Q) (k3 : ((0 : Int32) ≤ x ∧ x ≤ (I 30 0 0) - 1) → ((0 : Int32) ≤ l ∧ l ≤ 5) → ((0 : Int32) ≤ w ∧ w ≤ 1) → (¬ ((0 : Int32) ≤ v ∧ v ≤ 24)) → am_WP (am_psh g (some (.inl ((-1000000001)))) :: gs) (d + 3) (mk I X) Q) (k4 : ((0 : Int32) ≤ x ∧ x ≤ (I 30 0 0) - 1) → ((0 : Int32) ≤ l ∧ l ≤ 5) → ((0 : Int32) ≤ w ∧ w ≤ 1) → ((0 : Int32) ≤ v ∧ v ≤ 24) → (w = 0) → am_WP (am_psh g (some (.inl ((I 30 0 (((6 + (18 * (kx x))) + (kx l)) + 6))))) :: gs) (d + 3) (mk (up3 I 30 0 (((6 + (18 * (kx x))) + (kx l)) + 6) (v)) X) Q) (k5 : ((0 : Int32) ≤ x ∧ x ≤ (I 30 0 0) - 1) → ((0 : Int32) ≤ l ∧ l ≤ 5) → ((0 : Int32) ≤ w ∧ w ≤ 1) → ((0 : Int32) ≤ v ∧ v ≤ 24) → (¬ w = 0) → am_WP (am_psh g (some (.inl ((I 30 0 (((6 + (18 * (kx x))) + (kx l)) + 12))))) :: gs) (d + 3) (mk (up3 I 30 0 (((6 + (18 * (kx x))) + (kx l)) + 12) (v)) X) Q) : am_WP (am_entry mX8_sets [.inr (.inr (some (8, 0))), .inl (x), .inl (l), .inl (w), .inl (v)] :: g :: gs) (d + 2) (mk I X) Q := by
  have hn : I 30 0 0 = nI (nb s) := h.1.1.1
  have hn8 : nb s ≤ 8 := G.1.1.1
  refine am_go 400 ?_
  refine (c_X8_isBottle (x := x)) _ _ _ ?_
  refine am_go 400 ?_
  refine am_if (fun h1 => ?_) (fun h1 => ?_)
  · have h1 := bI_0.mp h1
    exact k0 h1
  · have h1 := bI_1.mp h1
    obtain ⟨e_x, l_x⟩ := okb hn hn8 h1
    obtain ⟨g0_x, g1_x, g2_x, g3_x, g5_x, gs_x⟩ := id (GS_b G l_x)
    refine (c_X8_isLayer (x := l)) _ _ _ ?_
    refine am_go 400 ?_
    refine am_if (fun h2 => ?_) (fun h2 => ?_)
    · have h2 := bI_0.mp h2
      exact k1 h1 h2
    · have h2 := bI_1.mp h2
      obtain ⟨e_l, l_l⟩ := okl (m := 5) (by decide) h2
      refine (m_isIn (w) (0) (1) _ _) _ _ _ ?_
      refine am_go 400 ?_
      refine am_if (fun h3 => ?_) (fun h3 => ?_)
      · have h3 := bI_0.mp h3
        exact k2 h1 h2 h3
      · have h3 := bI_1.mp h3
        refine (m_isIn (v) (0) (24) _ _) _ _ _ ?_
        refine am_go 400 ?_
        refine am_if (fun h4 => ?_) (fun h4 => ?_)
        · have h4 := bI_0.mp h4
          exact k3 h1 h2 h3 h4
        · have h4 := bI_1.mp h4
          obtain ⟨e_v, l_v⟩ := okl (m := 24) (by decide) h4
          refine am_if (fun h5 => ?_) (fun h5 => ?_)
          · refine (c8_becomes (j := (((6 + (18 * (kx x))) + (kx l)) + 6)) (nI_addE (nI_addE (nI_addE (rfl : (6 : Int32) = nI 6) (nI_mulE (rfl : (18 : Int32) = nI 18) e_x)) e_l) (rfl : (6 : Int32) = nI 6)) (by omega)) _ _ _ ?_
            refine am_go 400 ?_
            exact k4 h1 h2 h3 h4 h5
          · refine (c8_becomes (j := (((6 + (18 * (kx x))) + (kx l)) + 12)) (nI_addE (nI_addE (nI_addE (rfl : (6 : Int32) = nI 6) (nI_mulE (rfl : (18 : Int32) = nI 18) e_x)) e_l) (rfl : (12 : Int32) = nI 12)) (by omega)) _ _ _ ?_
            refine am_go 400 ?_
            exact k5 h1 h2 h3 h4 h5
theorem p_X8_sets {I X d s} (h : RM I s) (G : GS s) (x l w v : Int32) : Sp mX8_sets [.inr (.inr (some (8, 0))), .inl (x), .inl (l), .inl (w), .inl (v)] (d + 2) I X (OM I X (f_sets s x l w v)) := fun g gs Q K => by
  have hn : I 30 0 0 = nI (nb s) := h.1.1.1
  have hn8 : nb s ≤ 8 := G.1.1.1
  have g8 : G8 s := G8_ G
  refine w_X8_sets h G  ?_ ?_ ?_ ?_ ?_ ?_
  · intro h0
    rw [hn] at h0
    apply K_s K
    unfold f_sets
    rw [if_neg h0]
    exact ⟨rfl, h, ⟨FrM_r, rfl⟩⟩
  · intro h0 h1
    rw [hn] at h0
    obtain ⟨e_x, l_x⟩ := okb rfl hn8 h0
    obtain ⟨g0_x, g1_x, g2_x, g3_x, g5_x, gs_x⟩ := id (GS_b G l_x)
    apply K_s K
    unfold f_sets
    rw [if_pos h0, if_neg h1]
    exact ⟨rfl, h, ⟨FrM_r, rfl⟩⟩
  · intro h0 h1 h2
    rw [hn] at h0
    obtain ⟨e_x, l_x⟩ := okb rfl hn8 h0
    obtain ⟨g0_x, g1_x, g2_x, g3_x, g5_x, gs_x⟩ := id (GS_b G l_x)
    obtain ⟨e_l, l_l⟩ := okl (m := 5) (by decide) h1
    apply K_s K
    unfold f_sets
    rw [if_pos h0, if_pos h1, if_neg h2]
    exact ⟨rfl, h, ⟨FrM_r, rfl⟩⟩
  · intro h0 h1 h2 h3
    rw [hn] at h0
    obtain ⟨e_x, l_x⟩ := okb rfl hn8 h0
    obtain ⟨g0_x, g1_x, g2_x, g3_x, g5_x, gs_x⟩ := id (GS_b G l_x)
    obtain ⟨e_l, l_l⟩ := okl (m := 5) (by decide) h1
    apply K_s K
    unfold f_sets
    rw [if_pos h0, if_pos h1, if_pos h2, if_neg h3]
    exact ⟨rfl, h, ⟨FrM_r, rfl⟩⟩
  · intro h0 h1 h2 h3 h4
    rw [hn] at h0
    obtain ⟨e_x, l_x⟩ := okb rfl hn8 h0
    obtain ⟨g0_x, g1_x, g2_x, g3_x, g5_x, gs_x⟩ := id (GS_b G l_x)
    obtain ⟨e_l, l_l⟩ := okl (m := 5) (by decide) h1
    obtain ⟨e_v, l_v⟩ := okl (m := 24) (by decide) h3
    rw [show 6 + 18 * kx x + kx l + 6 = 6 + 18 * kx x + (6 + kx l) by omega]
    apply K_s K
    unfold f_sets
    rw [if_pos h0, if_pos h1, if_pos h2, if_pos h3, if_pos h4]
    exact ⟨vM1 h l_x (by omega), RM_w1 h g8 l_x (by omega) e_v, FrM_3 rfl FrM_r, rfl⟩
  · intro h0 h1 h2 h3 h4
    rw [hn] at h0
    obtain ⟨e_x, l_x⟩ := okb rfl hn8 h0
    obtain ⟨g0_x, g1_x, g2_x, g3_x, g5_x, gs_x⟩ := id (GS_b G l_x)
    obtain ⟨e_l, l_l⟩ := okl (m := 5) (by decide) h1
    obtain ⟨e_v, l_v⟩ := okl (m := 24) (by decide) h3
    rw [show 6 + 18 * kx x + kx l + 12 = 6 + 18 * kx x + (12 + kx l) by omega]
    apply K_s K
    unfold f_sets
    rw [if_pos h0, if_pos h1, if_pos h2, if_pos h3, if_neg h4]
    exact ⟨vM2 h l_x (by omega), RM_w2 h g8 l_x (by omega) e_v, FrM_3 rfl FrM_r, rfl⟩

set_option maxRecDepth 100000 in
set_option maxHeartbeats 4000000 in
theorem w_X7_set {I : Nat → Nat → Nat → Int32} {X : am_Z} {g : am_F} {gs : List am_F} {d : Nat} {Q : Option am_V → am_M → Prop} {s : St} (h : RC I X s) (G : GS s) {x w v : Int32} (k0 : (¬ ((0 : Int32) ≤ x ∧ x ≤ (I 1 0 3) - 1)) → am_WP (am_psh g (some (.inl ((-1000000001)))) :: gs) (d + 3) (mk I X) Q) (k1 : ((0 : Int32) ≤ x ∧ x ≤ (I 1 0 3) - 1) → (¬ ((1 : Int32) ≤ w ∧ w ≤ 2)) → am_WP (am_psh g (some (.inl ((-1000000001)))) :: gs) (d + 3) (mk I X) Q) (k2 : ((0 : Int32) ≤ x ∧ x ≤ (I 1 0 3) - 1) → ((1 : Int32) ≤ w ∧ w ≤ 2) → (w = 1) → (¬ ((0 : Int32) ≤ v ∧ v ≤ 99)) → am_WP (am_psh g (some (.inl ((-1000000001)))) :: gs) (d + 3) (mk I X) Q) (k3 : ((0 : Int32) ≤ x ∧ x ≤ (I 1 0 3) - 1) → ((1 : Int32) ≤ w ∧ w ≤ 2) → (w = 1) → ((0 : Int32) ≤ v ∧ v ≤ 99) → am_WP (am_psh g (some (.inl ((I 0 (kx x) 3)))) :: gs) (d + 3) (mk (up3 I 0 (kx x) (3) (v)) X) Q) (k4 : ((0 : Int32) ≤ x ∧ x ≤ (I 1 0 3) - 1) → ((1 : Int32) ≤ w ∧ w ≤ 2) → (¬ w = 1) → (¬ ((0 : Int32) ≤ v ∧ v ≤ 1)) → am_WP (am_psh g (some (.inl ((-1000000001)))) :: gs) (d + 3) (mk I X) Q) (k5 : ((0 : Int32) ≤ x ∧ x ≤ (I 1 0 3) - 1) → ((1 : Int32) ≤ w ∧ w ≤ 2) → (¬ w = 1) → ((0 : Int32) ≤ v ∧ v ≤ 1) → am_WP (am_psh g (some (.inl ((I 0 (kx x) 4)))) :: gs) (d + 3) (mk (up3 I 0 (kx x) (4) (v)) X) Q) : am_WP (am_entry mX7_set [.inr (.inr (some (7, 0))), .inl (x), .inl (w), .inl (v)] :: g :: gs) (d + 2) (mk I X) Q := by
  have hn : I 1 0 3 = nI (nb s) := h.1.1.1
  have hn8 : nb s ≤ 8 := G.1.1.1
  refine am_go 400 ?_
  refine (c_X7_isBottle (x := x)) _ _ _ ?_
  refine am_go 400 ?_
  refine am_if (fun h1 => ?_) (fun h1 => ?_)
  · have h1 := bI_0.mp h1
    exact k0 h1
  · have h1 := bI_1.mp h1
    obtain ⟨e_x, l_x⟩ := okb hn hn8 h1
    obtain ⟨g0_x, g1_x, g2_x, g3_x, g5_x, gs_x⟩ := id (GS_b G l_x)
    refine (c_X7_within (w) (1) (2)) _ _ _ ?_
    refine am_go 400 ?_
    refine am_if (fun h2 => ?_) (fun h2 => ?_)
    · have h2 := bI_0.mp h2
      exact k1 h1 h2
    · have h2 := bI_1.mp h2
      refine am_if (fun h3 => ?_) (fun h3 => ?_)
      · refine (c_X7_within (v) (0) (99)) _ _ _ ?_
        refine am_go 400 ?_
        refine am_if (fun h4 => ?_) (fun h4 => ?_)
        · have h4 := bI_0.mp h4
          exact k2 h1 h2 h3 h4
        · have h4 := bI_1.mp h4
          obtain ⟨e_v, l_v⟩ := okl (m := 99) (by decide) h4
          refine am_f (ix_in (n := (kx x)) (N := 8) e_x (by omega) (by decide)) ?_
          refine am_t (h3) ?_
          refine am_t (h3) ?_
          exact k3 h1 h2 h3 h4
      · refine (c_X7_within (v) (0) (1)) _ _ _ ?_
        refine am_go 400 ?_
        refine am_if (fun h5 => ?_) (fun h5 => ?_)
        · have h5 := bI_0.mp h5
          exact k4 h1 h2 h3 h5
        · have h5 := bI_1.mp h5
          obtain ⟨e_v, l_v⟩ := okl (m := 1) (by decide) h5
          refine am_f (ix_in (n := (kx x)) (N := 8) e_x (by omega) (by decide)) ?_
          refine am_f (h3) ?_
          refine am_f (h3) ?_
          exact k5 h1 h2 h3 h5
theorem p_X7_set {I X d s} (h : RC I X s) (G : GS s) (x w v : Int32) : Sp mX7_set [.inr (.inr (some (7, 0))), .inl (x), .inl (w), .inl (v)] (d + 2) I X (OC I X (f_set s x w v)) := fun g gs Q K => by
  have hn : I 1 0 3 = nI (nb s) := h.1.1.1
  have hn8 : nb s ≤ 8 := G.1.1.1
  have g8 : G8 s := G8_ G
  refine w_X7_set h G  ?_ ?_ ?_ ?_ ?_ ?_
  · intro h0
    rw [hn] at h0
    apply K_s K
    unfold f_set
    rw [if_neg h0]
    exact ⟨rfl, h, FrC_r⟩
  · intro h0 h1
    rw [hn] at h0
    obtain ⟨e_x, l_x⟩ := okb rfl hn8 h0
    obtain ⟨g0_x, g1_x, g2_x, g3_x, g5_x, gs_x⟩ := id (GS_b G l_x)
    apply K_s K
    unfold f_set
    rw [if_pos h0, if_neg h1]
    exact ⟨rfl, h, FrC_r⟩
  · intro h0 h1 h2 h3
    rw [hn] at h0
    obtain ⟨e_x, l_x⟩ := okb rfl hn8 h0
    obtain ⟨g0_x, g1_x, g2_x, g3_x, g5_x, gs_x⟩ := id (GS_b G l_x)
    apply K_s K
    unfold f_set
    rw [if_pos h0, if_pos h1, if_pos h2, if_neg h3]
    exact ⟨rfl, h, FrC_r⟩
  · intro h0 h1 h2 h3
    rw [hn] at h0
    obtain ⟨e_x, l_x⟩ := okb rfl hn8 h0
    obtain ⟨g0_x, g1_x, g2_x, g3_x, g5_x, gs_x⟩ := id (GS_b G l_x)
    obtain ⟨e_v, l_v⟩ := okl (m := 99) (by decide) h3
    apply K_s K
    unfold f_set
    rw [if_pos h0, if_pos h1, if_pos h2, if_pos h3]
    exact ⟨vC0 (j := 1) h l_x (by omega), RC_w0 (j := 1) h g8 l_x (by omega) e_v, FrC_3 rfl FrC_r⟩
  · intro h0 h1 h2 h3
    rw [hn] at h0
    obtain ⟨e_x, l_x⟩ := okb rfl hn8 h0
    obtain ⟨g0_x, g1_x, g2_x, g3_x, g5_x, gs_x⟩ := id (GS_b G l_x)
    apply K_s K
    unfold f_set
    rw [if_pos h0, if_pos h1, if_neg h2, if_neg h3]
    exact ⟨rfl, h, FrC_r⟩
  · intro h0 h1 h2 h3
    rw [hn] at h0
    obtain ⟨e_x, l_x⟩ := okb rfl hn8 h0
    obtain ⟨g0_x, g1_x, g2_x, g3_x, g5_x, gs_x⟩ := id (GS_b G l_x)
    obtain ⟨e_v, l_v⟩ := okl (m := 1) (by decide) h3
    apply K_s K
    unfold f_set
    rw [if_pos h0, if_pos h1, if_neg h2, if_pos h3]
    exact ⟨vC0 (j := 2) h l_x (by omega), RC_w0 (j := 2) h g8 l_x (by omega) e_v, FrC_3 rfl FrC_r⟩

set_option maxRecDepth 100000 in
set_option maxHeartbeats 4000000 in
theorem w_X8_set {I : Nat → Nat → Nat → Int32} {X : am_Z} {g : am_F} {gs : List am_F} {d : Nat} {Q : Option am_V → am_M → Prop} {s : St} (h : RM I s) (G : GS s) {x w v : Int32} (k0 : (¬ ((0 : Int32) ≤ x ∧ x ≤ (I 30 0 0) - 1)) → am_WP (am_psh g (some (.inl ((-1000000001)))) :: gs) (d + 3) (mk I X) Q) (k1 : ((0 : Int32) ≤ x ∧ x ≤ (I 30 0 0) - 1) → (¬ ((1 : Int32) ≤ w ∧ w ≤ 2)) → am_WP (am_psh g (some (.inl ((-1000000001)))) :: gs) (d + 3) (mk I X) Q) (k2 : ((0 : Int32) ≤ x ∧ x ≤ (I 30 0 0) - 1) → ((1 : Int32) ≤ w ∧ w ≤ 2) → (w = 1) → (¬ ((0 : Int32) ≤ v ∧ v ≤ 99)) → am_WP (am_psh g (some (.inl ((-1000000001)))) :: gs) (d + 3) (mk I X) Q) (k3 : ((0 : Int32) ≤ x ∧ x ≤ (I 30 0 0) - 1) → ((1 : Int32) ≤ w ∧ w ≤ 2) → (w = 1) → ((0 : Int32) ≤ v ∧ v ≤ 99) → am_WP (am_psh g (some (.inl ((I 30 0 ((6 + (18 * (kx x))) + (kx w)))))) :: gs) (d + 3) (mk (up3 I 30 0 ((6 + (18 * (kx x))) + (kx w)) (v)) X) Q) (k4 : ((0 : Int32) ≤ x ∧ x ≤ (I 30 0 0) - 1) → ((1 : Int32) ≤ w ∧ w ≤ 2) → (¬ w = 1) → (¬ ((0 : Int32) ≤ v ∧ v ≤ 1)) → am_WP (am_psh g (some (.inl ((-1000000001)))) :: gs) (d + 3) (mk I X) Q) (k5 : ((0 : Int32) ≤ x ∧ x ≤ (I 30 0 0) - 1) → ((1 : Int32) ≤ w ∧ w ≤ 2) → (¬ w = 1) → ((0 : Int32) ≤ v ∧ v ≤ 1) → am_WP (am_psh g (some (.inl ((I 30 0 ((6 + (18 * (kx x))) + (kx w)))))) :: gs) (d + 3) (mk (up3 I 30 0 ((6 + (18 * (kx x))) + (kx w)) (v)) X) Q) : am_WP (am_entry mX8_set [.inr (.inr (some (8, 0))), .inl (x), .inl (w), .inl (v)] :: g :: gs) (d + 2) (mk I X) Q := by
  have hn : I 30 0 0 = nI (nb s) := h.1.1.1
  have hn8 : nb s ≤ 8 := G.1.1.1
  refine am_go 400 ?_
  refine (c_X8_isBottle (x := x)) _ _ _ ?_
  refine am_go 400 ?_
  refine am_if (fun h1 => ?_) (fun h1 => ?_)
  · have h1 := bI_0.mp h1
    exact k0 h1
  · have h1 := bI_1.mp h1
    obtain ⟨e_x, l_x⟩ := okb hn hn8 h1
    obtain ⟨g0_x, g1_x, g2_x, g3_x, g5_x, gs_x⟩ := id (GS_b G l_x)
    refine (m_isIn (w) (1) (2) _ _) _ _ _ ?_
    refine am_go 400 ?_
    refine am_if (fun h2 => ?_) (fun h2 => ?_)
    · have h2 := bI_0.mp h2
      exact k1 h1 h2
    · have h2 := bI_1.mp h2
      obtain ⟨e_w, l_w⟩ := okr (lo := 1) (m := 2) (by decide) (by decide) h2
      refine am_if (fun h3 => ?_) (fun h3 => ?_)
      · refine (m_isIn (v) (0) (99) _ _) _ _ _ ?_
        refine am_go 400 ?_
        refine am_if (fun h4 => ?_) (fun h4 => ?_)
        · have h4 := bI_0.mp h4
          exact k2 h1 h2 h3 h4
        · have h4 := bI_1.mp h4
          obtain ⟨e_v, l_v⟩ := okl (m := 99) (by decide) h4
          refine (c8_becomes (j := ((6 + (18 * (kx x))) + (kx w))) (nI_addE (nI_addE (rfl : (6 : Int32) = nI 6) (nI_mulE (rfl : (18 : Int32) = nI 18) e_x)) e_w) (by omega)) _ _ _ ?_
          refine am_go 400 ?_
          exact k3 h1 h2 h3 h4
      · refine (m_isIn (v) (0) (1) _ _) _ _ _ ?_
        refine am_go 400 ?_
        refine am_if (fun h5 => ?_) (fun h5 => ?_)
        · have h5 := bI_0.mp h5
          exact k4 h1 h2 h3 h5
        · have h5 := bI_1.mp h5
          obtain ⟨e_v, l_v⟩ := okl (m := 1) (by decide) h5
          refine (c8_becomes (j := ((6 + (18 * (kx x))) + (kx w))) (nI_addE (nI_addE (rfl : (6 : Int32) = nI 6) (nI_mulE (rfl : (18 : Int32) = nI 18) e_x)) e_w) (by omega)) _ _ _ ?_
          refine am_go 400 ?_
          exact k5 h1 h2 h3 h5
theorem p_X8_set {I X d s} (h : RM I s) (G : GS s) (x w v : Int32) : Sp mX8_set [.inr (.inr (some (8, 0))), .inl (x), .inl (w), .inl (v)] (d + 2) I X (OM I X (f_set s x w v)) := fun g gs Q K => by
  have hn : I 30 0 0 = nI (nb s) := h.1.1.1
  have hn8 : nb s ≤ 8 := G.1.1.1
  have g8 : G8 s := G8_ G
  refine w_X8_set h G  ?_ ?_ ?_ ?_ ?_ ?_
  · intro h0
    rw [hn] at h0
    apply K_s K
    unfold f_set
    rw [if_neg h0]
    exact ⟨rfl, h, ⟨FrM_r, rfl⟩⟩
  · intro h0 h1
    rw [hn] at h0
    obtain ⟨e_x, l_x⟩ := okb rfl hn8 h0
    obtain ⟨g0_x, g1_x, g2_x, g3_x, g5_x, gs_x⟩ := id (GS_b G l_x)
    apply K_s K
    unfold f_set
    rw [if_pos h0, if_neg h1]
    exact ⟨rfl, h, ⟨FrM_r, rfl⟩⟩
  · intro h0 h1 h2 h3
    rw [hn] at h0
    obtain ⟨e_x, l_x⟩ := okb rfl hn8 h0
    obtain ⟨g0_x, g1_x, g2_x, g3_x, g5_x, gs_x⟩ := id (GS_b G l_x)
    obtain ⟨e_w, l_w⟩ := okr (lo := 1) (m := 2) (by decide) (by decide) h1
    apply K_s K
    unfold f_set
    rw [if_pos h0, if_pos h1, if_pos h2, if_neg h3]
    exact ⟨rfl, h, ⟨FrM_r, rfl⟩⟩
  · intro h0 h1 h2 h3
    rw [hn] at h0
    obtain ⟨e_x, l_x⟩ := okb rfl hn8 h0
    obtain ⟨g0_x, g1_x, g2_x, g3_x, g5_x, gs_x⟩ := id (GS_b G l_x)
    obtain ⟨e_w, l_w⟩ := okr (lo := 1) (m := 2) (by decide) (by decide) h1
    obtain ⟨e_v, l_v⟩ := okl (m := 99) (by decide) h3
    have ew : kx w = 1 := by rw [h2]; rfl
    rw [ew]
    apply K_s K
    unfold f_set
    rw [if_pos h0, if_pos h1, if_pos h2, if_pos h3]
    exact ⟨vM0 (j := 1) h l_x (by omega), RM_w0 (j := 1) h g8 l_x (by omega) e_v, FrM_3 rfl FrM_r, rfl⟩
  · intro h0 h1 h2 h3
    rw [hn] at h0
    obtain ⟨e_x, l_x⟩ := okb rfl hn8 h0
    obtain ⟨g0_x, g1_x, g2_x, g3_x, g5_x, gs_x⟩ := id (GS_b G l_x)
    obtain ⟨e_w, l_w⟩ := okr (lo := 1) (m := 2) (by decide) (by decide) h1
    apply K_s K
    unfold f_set
    rw [if_pos h0, if_pos h1, if_neg h2, if_neg h3]
    exact ⟨rfl, h, ⟨FrM_r, rfl⟩⟩
  · intro h0 h1 h2 h3
    rw [hn] at h0
    obtain ⟨e_x, l_x⟩ := okb rfl hn8 h0
    obtain ⟨g0_x, g1_x, g2_x, g3_x, g5_x, gs_x⟩ := id (GS_b G l_x)
    obtain ⟨e_w, l_w⟩ := okr (lo := 1) (m := 2) (by decide) (by decide) h1
    obtain ⟨e_v, l_v⟩ := okl (m := 1) (by decide) h3
    have ew : kx w = 2 := by have := mt (eq_nat (b := 1) e_w rfl (by omega) (by decide)).mpr h2; omega
    rw [ew]
    apply K_s K
    unfold f_set
    rw [if_pos h0, if_pos h1, if_neg h2, if_pos h3]
    exact ⟨vM0 (j := 2) h l_x (by omega), RM_w0 (j := 2) h g8 l_x (by omega) e_v, FrM_3 rfl FrM_r, rfl⟩

def f_push (s : St) (x : Int32) : Int32 × St := if isB s x then if (bo s (kx x)).1 3 = 0 then (cNO, s) else (nI ((bo s (kx x)).1 3), w0 (w0 s (kx x) 3 0) (kx x) 4 ((bo s (kx x)).1 4 + (bo s (kx x)).1 3)) else (cBAD, s)
def f_warm (s : St) (x : Int32) : Int32 × St := if isB s x then if 3 ≤ (bo s (kx x)).1 5 then (cFULL, s) else (nI ((bo s (kx x)).1 5 + 1), w0 s (kx x) 5 ((bo s (kx x)).1 5 + 1)) else (cBAD, s)
set_option maxRecDepth 100000 in
set_option maxHeartbeats 4000000 in
theorem w_X7_push {I : Nat → Nat → Nat → Int32} {X : am_Z} {g : am_F} {gs : List am_F} {d : Nat} {Q : Option am_V → am_M → Prop} {s : St} (h : RC I X s) (G : GS s) {x : Int32} (k0 : (¬ ((0 : Int32) ≤ x ∧ x ≤ (I 1 0 3) - 1)) → am_WP (am_psh g (some (.inl ((-1000000001)))) :: gs) (d + 3) (mk I X) Q) (k1 : ((0 : Int32) ≤ x ∧ x ≤ (I 1 0 3) - 1) → (((bo s (kx x)).1 3) = 0) → am_WP (am_psh g (some (.inl ((-1000000002)))) :: gs) (d + 3) (mk I X) Q) (k2 : ((0 : Int32) ≤ x ∧ x ≤ (I 1 0 3) - 1) → (¬ (((bo s (kx x)).1 3) = 0)) → am_WP (am_psh g (some (.inl ((I 0 (kx x) 5)))) :: gs) (d + 3) (mk (up3 (up3 I 0 (kx x) (5) (0)) 0 (kx x) (6) ((((up3 I 0 (kx x) (5) (0)) 0 (kx x) 6) + (I 0 (kx x) 5)))) X) Q) : am_WP (am_entry mX7_push [.inr (.inr (some (7, 0))), .inl (x)] :: g :: gs) (d + 2) (mk I X) Q := by
  have hn : I 1 0 3 = nI (nb s) := h.1.1.1
  have hn8 : nb s ≤ 8 := G.1.1.1
  refine am_go 400 ?_
  refine (c_X7_isBottle (x := x)) _ _ _ ?_
  refine am_go 400 ?_
  refine am_if (fun h1 => ?_) (fun h1 => ?_)
  · have h1 := bI_0.mp h1
    exact k0 h1
  · have h1 := bI_1.mp h1
    obtain ⟨e_x, l_x⟩ := okb hn hn8 h1
    obtain ⟨g0_x, g1_x, g2_x, g3_x, g5_x, gs_x⟩ := id (GS_b G l_x)
    refine am_f (ix_in (n := (kx x)) (N := 8) e_x (by omega) (by decide)) ?_
    refine am_if (fun h2 => ?_) (fun h2 => ?_)
    · have nh2 := (eq_nat (a := ((bo s (kx x)).1 3)) (b := 0) (vC0 (j := 3) h l_x (by omega)) (rfl : (0 : Int32) = nI 0) (by omega) (by omega)).mp h2
      exact k1 h1 nh2
    · have nh2 := mt (eq_nat (a := ((bo s (kx x)).1 3)) (b := 0) (vC0 (j := 3) h l_x (by omega)) (rfl : (0 : Int32) = nI 0) (by omega) (by omega)).mpr h2
      exact k2 h1 nh2
theorem p_X7_push {I X d s} (h : RC I X s) (G : GS s) (x : Int32) : Sp mX7_push [.inr (.inr (some (7, 0))), .inl (x)] (d + 2) I X (OC I X (f_push s x)) := fun g gs Q K => by
  have hn : I 1 0 3 = nI (nb s) := h.1.1.1
  have hn8 : nb s ≤ 8 := G.1.1.1
  have g8 : G8 s := G8_ G
  refine w_X7_push h G  ?_ ?_ ?_
  · intro h0
    rw [hn] at h0
    apply K_s K
    unfold f_push
    rw [if_neg h0]
    exact ⟨rfl, h, FrC_r⟩
  · intro h0 h1
    rw [hn] at h0
    obtain ⟨e_x, l_x⟩ := okb rfl hn8 h0
    obtain ⟨g0_x, g1_x, g2_x, g3_x, g5_x, gs_x⟩ := id (GS_b G l_x)
    apply K_s K
    unfold f_push
    rw [if_pos h0, if_pos h1]
    exact ⟨rfl, h, FrC_r⟩
  · intro h0 h1
    rw [hn] at h0
    obtain ⟨e_x, l_x⟩ := okb rfl hn8 h0
    obtain ⟨g0_x, g1_x, g2_x, g3_x, g5_x, gs_x⟩ := id (GS_b G l_x)
    apply K_s K
    unfold f_push
    rw [if_pos h0, if_neg h1]
    exact ⟨vC0 (j := 3) h l_x (by omega), RC_w0 (j := 4) (RC_w0 (j := 3) (v := 0) h g8 l_x (by omega) rfl) g8 l_x (by omega) (nI_addE ((up3_j (by decide)).trans (vC0 (j := 4) h l_x (by omega))) (vC0 (j := 3) h l_x (by omega))), FrC_3 rfl (FrC_3 rfl FrC_r)⟩

set_option maxRecDepth 100000 in
set_option maxHeartbeats 4000000 in
theorem w_X8_push {I : Nat → Nat → Nat → Int32} {X : am_Z} {g : am_F} {gs : List am_F} {d : Nat} {Q : Option am_V → am_M → Prop} {s : St} (h : RM I s) (G : GS s) {x : Int32} (k0 : (¬ ((0 : Int32) ≤ x ∧ x ≤ (I 30 0 0) - 1)) → am_WP (am_psh g (some (.inl ((-1000000001)))) :: gs) (d + 3) (mk I X) Q) (k1 : ((0 : Int32) ≤ x ∧ x ≤ (I 30 0 0) - 1) → (((bo s (kx x)).1 3) = 0) → am_WP (am_psh g (some (.inl ((-1000000002)))) :: gs) (d + 3) (mk I X) Q) (k2 : ((0 : Int32) ≤ x ∧ x ≤ (I 30 0 0) - 1) → (¬ (((bo s (kx x)).1 3) = 0)) → am_WP (am_psh g (some (.inl ((I 30 0 (6 + 18 * (kx x) + 3))))) :: gs) (d + 3) (mk (up3 (up3 I 30 0 (6 + 18 * (kx x) + 3) (0)) 30 0 (6 + 18 * (kx x) + 4) ((((up3 I 30 0 (6 + 18 * (kx x) + 3) (0)) 30 0 (6 + 18 * (kx x) + 4)) + (I 30 0 (6 + 18 * (kx x) + 3))))) X) Q) : am_WP (am_entry mX8_push [.inr (.inr (some (8, 0))), .inl (x)] :: g :: gs) (d + 2) (mk I X) Q := by
  have hn : I 30 0 0 = nI (nb s) := h.1.1.1
  have hn8 : nb s ≤ 8 := G.1.1.1
  refine am_go 400 ?_
  refine (c_X8_isBottle (x := x)) _ _ _ ?_
  refine am_go 400 ?_
  refine am_if (fun h1 => ?_) (fun h1 => ?_)
  · have h1 := bI_0.mp h1
    exact k0 h1
  · have h1 := bI_1.mp h1
    obtain ⟨e_x, l_x⟩ := okb hn hn8 h1
    obtain ⟨g0_x, g1_x, g2_x, g3_x, g5_x, gs_x⟩ := id (GS_b G l_x)
    refine (c8_of (k := (kx x)) (j := 3) e_x rfl (by omega)) _ _ _ ?_
    refine am_go 400 ?_
    refine am_if (fun h2 => ?_) (fun h2 => ?_)
    · have nh2 := (eq_nat (a := ((bo s (kx x)).1 3)) (b := 0) (vM0 (j := 3) h l_x (by omega)) (rfl : (0 : Int32) = nI 0) (by omega) (by omega)).mp h2
      exact k1 h1 nh2
    · have nh2 := mt (eq_nat (a := ((bo s (kx x)).1 3)) (b := 0) (vM0 (j := 3) h l_x (by omega)) (rfl : (0 : Int32) = nI 0) (by omega) (by omega)).mpr h2
      refine (c8_puts (k := (kx x)) (j := 3) e_x rfl (by omega)) _ _ _ ?_
      refine am_go 400 ?_
      refine (c8_of (k := (kx x)) (j := 4) e_x rfl (by omega)) _ _ _ ?_
      refine am_go 400 ?_
      refine (c8_puts (k := (kx x)) (j := 4) e_x rfl (by omega)) _ _ _ ?_
      refine am_go 400 ?_
      exact k2 h1 nh2
theorem p_X8_push {I X d s} (h : RM I s) (G : GS s) (x : Int32) : Sp mX8_push [.inr (.inr (some (8, 0))), .inl (x)] (d + 2) I X (OM I X (f_push s x)) := fun g gs Q K => by
  have hn : I 30 0 0 = nI (nb s) := h.1.1.1
  have hn8 : nb s ≤ 8 := G.1.1.1
  have g8 : G8 s := G8_ G
  refine w_X8_push h G  ?_ ?_ ?_
  · intro h0
    rw [hn] at h0
    apply K_s K
    unfold f_push
    rw [if_neg h0]
    exact ⟨rfl, h, ⟨FrM_r, rfl⟩⟩
  · intro h0 h1
    rw [hn] at h0
    obtain ⟨e_x, l_x⟩ := okb rfl hn8 h0
    obtain ⟨g0_x, g1_x, g2_x, g3_x, g5_x, gs_x⟩ := id (GS_b G l_x)
    apply K_s K
    unfold f_push
    rw [if_pos h0, if_pos h1]
    exact ⟨rfl, h, ⟨FrM_r, rfl⟩⟩
  · intro h0 h1
    rw [hn] at h0
    obtain ⟨e_x, l_x⟩ := okb rfl hn8 h0
    obtain ⟨g0_x, g1_x, g2_x, g3_x, g5_x, gs_x⟩ := id (GS_b G l_x)
    apply K_s K
    unfold f_push
    rw [if_pos h0, if_neg h1]
    exact ⟨vM0 (j := 3) h l_x (by omega), RM_w0 (j := 4) (RM_w0 (j := 3) (v := 0) h g8 l_x (by omega) rfl) g8 l_x (by omega) (nI_addE ((up3_j (by omega)).trans (vM0 (j := 4) h l_x (by omega))) (vM0 (j := 3) h l_x (by omega))), ⟨FrM_3 rfl (FrM_3 rfl FrM_r), rfl⟩⟩

set_option maxRecDepth 100000 in
set_option maxHeartbeats 4000000 in
theorem w_X7_warm {I : Nat → Nat → Nat → Int32} {X : am_Z} {g : am_F} {gs : List am_F} {d : Nat} {Q : Option am_V → am_M → Prop} {s : St} (h : RC I X s) (G : GS s) {x : Int32} (k0 : (¬ ((0 : Int32) ≤ x ∧ x ≤ (I 1 0 3) - 1)) → am_WP (am_psh g (some (.inl ((-1000000001)))) :: gs) (d + 3) (mk I X) Q) (k1 : ((0 : Int32) ≤ x ∧ x ≤ (I 1 0 3) - 1) → (((bo s (kx x)).1 5) < 3) → am_WP (am_psh g (some (.inl (((up3 I 0 (kx x) (7) (((I 0 (kx x) 7) + 1))) 0 (kx x) 7)))) :: gs) (d + 3) (mk (up3 I 0 (kx x) (7) (((I 0 (kx x) 7) + 1))) X) Q) (k2 : ((0 : Int32) ≤ x ∧ x ≤ (I 1 0 3) - 1) → (¬ (((bo s (kx x)).1 5) < 3)) → am_WP (am_psh g (some (.inl ((-1000000003)))) :: gs) (d + 3) (mk I X) Q) : am_WP (am_entry mX7_warm [.inr (.inr (some (7, 0))), .inl (x)] :: g :: gs) (d + 2) (mk I X) Q := by
  have hn : I 1 0 3 = nI (nb s) := h.1.1.1
  have hn8 : nb s ≤ 8 := G.1.1.1
  refine am_go 400 ?_
  refine (c_X7_isBottle (x := x)) _ _ _ ?_
  refine am_go 400 ?_
  refine am_if (fun h1 => ?_) (fun h1 => ?_)
  · have h1 := bI_0.mp h1
    exact k0 h1
  · have h1 := bI_1.mp h1
    obtain ⟨e_x, l_x⟩ := okb hn hn8 h1
    obtain ⟨g0_x, g1_x, g2_x, g3_x, g5_x, gs_x⟩ := id (GS_b G l_x)
    refine am_f (ix_in (n := (kx x)) (N := 8) e_x (by omega) (by decide)) ?_
    refine am_if (fun h2 => ?_) (fun h2 => ?_)
    · have nh2 := (lt_nat (a := ((bo s (kx x)).1 5)) (b := 3) (vC0 (j := 5) h l_x (by omega)) (rfl : (3 : Int32) = nI 3) (by omega) (by omega)).mp h2
      exact k1 h1 nh2
    · have nh2 := mt (lt_nat (a := ((bo s (kx x)).1 5)) (b := 3) (vC0 (j := 5) h l_x (by omega)) (rfl : (3 : Int32) = nI 3) (by omega) (by omega)).mpr h2
      exact k2 h1 nh2
theorem p_X7_warm {I X d s} (h : RC I X s) (G : GS s) (x : Int32) : Sp mX7_warm [.inr (.inr (some (7, 0))), .inl (x)] (d + 2) I X (OC I X (f_warm s x)) := fun g gs Q K => by
  have hn : I 1 0 3 = nI (nb s) := h.1.1.1
  have hn8 : nb s ≤ 8 := G.1.1.1
  have g8 : G8 s := G8_ G
  refine w_X7_warm h G  ?_ ?_ ?_
  · intro h0
    rw [hn] at h0
    apply K_s K
    unfold f_warm
    rw [if_neg h0]
    exact ⟨rfl, h, FrC_r⟩
  · intro h0 h1
    rw [hn] at h0
    obtain ⟨e_x, l_x⟩ := okb rfl hn8 h0
    obtain ⟨g0_x, g1_x, g2_x, g3_x, g5_x, gs_x⟩ := id (GS_b G l_x)
    apply K_s K
    unfold f_warm
    rw [if_pos h0, if_neg (by omega)]
    exact ⟨up3_s.trans (nI_addE (vC0 (j := 5) h l_x (by omega)) rfl), RC_w0 (j := 5) h g8 l_x (by omega) (nI_addE (vC0 (j := 5) h l_x (by omega)) rfl), FrC_3 rfl FrC_r⟩
  · intro h0 h1
    rw [hn] at h0
    obtain ⟨e_x, l_x⟩ := okb rfl hn8 h0
    obtain ⟨g0_x, g1_x, g2_x, g3_x, g5_x, gs_x⟩ := id (GS_b G l_x)
    apply K_s K
    unfold f_warm
    rw [if_pos h0, if_pos (by omega)]
    exact ⟨rfl, h, FrC_r⟩

set_option maxRecDepth 100000 in
set_option maxHeartbeats 4000000 in
theorem w_X8_warm {I : Nat → Nat → Nat → Int32} {X : am_Z} {g : am_F} {gs : List am_F} {d : Nat} {Q : Option am_V → am_M → Prop} {s : St} (h : RM I s) (G : GS s) {x : Int32} (k0 : (¬ ((0 : Int32) ≤ x ∧ x ≤ (I 30 0 0) - 1)) → am_WP (am_psh g (some (.inl ((-1000000001)))) :: gs) (d + 3) (mk I X) Q) (k1 : ((0 : Int32) ≤ x ∧ x ≤ (I 30 0 0) - 1) → (((bo s (kx x)).1 5) = 3) → am_WP (am_psh g (some (.inl ((-1000000003)))) :: gs) (d + 3) (mk I X) Q) (k2 : ((0 : Int32) ≤ x ∧ x ≤ (I 30 0 0) - 1) → (¬ (((bo s (kx x)).1 5) = 3)) → am_WP (am_psh g (some (.inl (((up3 I 30 0 (6 + 18 * (kx x) + 5) (((I 30 0 (6 + 18 * (kx x) + 5)) + 1))) 30 0 (6 + 18 * (kx x) + 5))))) :: gs) (d + 3) (mk (up3 I 30 0 (6 + 18 * (kx x) + 5) (((I 30 0 (6 + 18 * (kx x) + 5)) + 1))) X) Q) : am_WP (am_entry mX8_warm [.inr (.inr (some (8, 0))), .inl (x)] :: g :: gs) (d + 2) (mk I X) Q := by
  have hn : I 30 0 0 = nI (nb s) := h.1.1.1
  have hn8 : nb s ≤ 8 := G.1.1.1
  refine am_go 400 ?_
  refine (c_X8_isBottle (x := x)) _ _ _ ?_
  refine am_go 400 ?_
  refine am_if (fun h1 => ?_) (fun h1 => ?_)
  · have h1 := bI_0.mp h1
    exact k0 h1
  · have h1 := bI_1.mp h1
    obtain ⟨e_x, l_x⟩ := okb hn hn8 h1
    obtain ⟨g0_x, g1_x, g2_x, g3_x, g5_x, gs_x⟩ := id (GS_b G l_x)
    refine (c8_of (k := (kx x)) (j := 5) e_x rfl (by omega)) _ _ _ ?_
    refine am_go 400 ?_
    refine am_if (fun h2 => ?_) (fun h2 => ?_)
    · have nh2 := (eq_nat (a := ((bo s (kx x)).1 5)) (b := 3) (vM0 (j := 5) h l_x (by omega)) (rfl : (3 : Int32) = nI 3) (by omega) (by omega)).mp h2
      exact k1 h1 nh2
    · have nh2 := mt (eq_nat (a := ((bo s (kx x)).1 5)) (b := 3) (vM0 (j := 5) h l_x (by omega)) (rfl : (3 : Int32) = nI 3) (by omega) (by omega)).mpr h2
      refine (c8_of (k := (kx x)) (j := 5) e_x rfl (by omega)) _ _ _ ?_
      refine am_go 400 ?_
      refine (c8_puts (k := (kx x)) (j := 5) e_x rfl (by omega)) _ _ _ ?_
      refine am_go 400 ?_
      refine (c8_of (k := (kx x)) (j := 5) e_x rfl (by omega)) _ _ _ ?_
      refine am_go 400 ?_
      exact k2 h1 nh2
theorem p_X8_warm {I X d s} (h : RM I s) (G : GS s) (x : Int32) : Sp mX8_warm [.inr (.inr (some (8, 0))), .inl (x)] (d + 2) I X (OM I X (f_warm s x)) := fun g gs Q K => by
  have hn : I 30 0 0 = nI (nb s) := h.1.1.1
  have hn8 : nb s ≤ 8 := G.1.1.1
  have g8 : G8 s := G8_ G
  refine w_X8_warm h G  ?_ ?_ ?_
  · intro h0
    rw [hn] at h0
    apply K_s K
    unfold f_warm
    rw [if_neg h0]
    exact ⟨rfl, h, ⟨FrM_r, rfl⟩⟩
  · intro h0 h1
    rw [hn] at h0
    obtain ⟨e_x, l_x⟩ := okb rfl hn8 h0
    obtain ⟨g0_x, g1_x, g2_x, g3_x, g5_x, gs_x⟩ := id (GS_b G l_x)
    apply K_s K
    unfold f_warm
    rw [if_pos h0, if_pos (by omega)]
    exact ⟨rfl, h, ⟨FrM_r, rfl⟩⟩
  · intro h0 h1
    rw [hn] at h0
    obtain ⟨e_x, l_x⟩ := okb rfl hn8 h0
    obtain ⟨g0_x, g1_x, g2_x, g3_x, g5_x, gs_x⟩ := id (GS_b G l_x)
    apply K_s K
    unfold f_warm
    rw [if_pos h0, if_neg (by omega)]
    exact ⟨up3_s.trans (nI_addE (vM0 (j := 5) h l_x (by omega)) rfl), RM_w0 (j := 5) h g8 l_x (by omega) (nI_addE (vM0 (j := 5) h l_x (by omega)) rfl), ⟨FrM_3 rfl FrM_r, rfl⟩⟩

