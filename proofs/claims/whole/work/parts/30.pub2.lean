/-! rule, seed, as, told, count -/
def stH (s : St) (j v : Nat) : St := ((setH s.1.1 j v, s.1.2), s.2)
def stZ (s : St) (z : Int32) : St := ((setZ s.1.1 z, s.1.2), s.2)
abbrev cH (s : St) (j : Nat) : Nat := s.1.1.2.1 j
abbrev cZ (s : St) : Int32 := s.1.1.2.2.1
theorem RC_im {I I' : Im} {X : am_Z} {m : Option Ce} (h : ImC I X m) (h7 : I' 7 0 8 = I 7 0 8) (h1 : ∀ e, CeC I X 1 e → CeC I' X 1 e) : ImC I' X m := by
  cases m with
  | none => exact h7.trans h
  | some e => exact ⟨h7.trans h.1, h1 e h.2⟩
theorem RC_h1 {I X s} {v : Nat} {x : Int32} (h : RC I X s) (hx : x = nI v) : RC (up3 I 1 0 5 x) X (stH s 1 v) :=
  ⟨⟨⟨h.1.1.1, h.1.1.2.1, hx, h.1.1.2.2.2.1, h.1.1.2.2.2.2⟩, h.1.2⟩, RC_im h.2.1 rfl (fun _ q => q), h.2.2⟩
theorem RC_h2 {I X s} {v : Nat} {x : Int32} (h : RC I X s) (hx : x = nI v) : RC (up3 I 1 0 6 x) X (stH s 2 v) :=
  ⟨⟨⟨h.1.1.1, h.1.1.2.1, h.1.1.2.2.1, hx, h.1.1.2.2.2.2⟩, h.1.2⟩, RC_im h.2.1 rfl (fun _ q => q), h.2.2⟩
theorem RC_z {I X s} {x : Int32} (h : RC I X s) : RC (up3 I 1 0 8 x) X (stZ s x) :=
  ⟨⟨⟨h.1.1.1, h.1.1.2.1, h.1.1.2.2.1, h.1.1.2.2.2.1, rfl, h.1.1.2.2.2.2.2⟩, h.1.2⟩, RC_im h.2.1 rfl (fun _ q => q), h.2.2⟩
theorem RM_im {I I' : Im} {m : Option Ce} (h : ImM I m) (h7 : I' 8 0 3 = I 8 0 3) (h1 : I' 31 0 = I 31 0) : ImM I' m := by
  cases m with
  | none => exact h7.trans h
  | some e => exact ⟨h7.trans h.1, by rw [h1]; exact h.2⟩
theorem RepM_h {S S' : Nat → Int32} {σ : Cn} {i v : Nat} {x : Int32} (h : RepM S σ) (hi : i = 0 ∨ i = 1 ∨ i = 2) (hx : x = nI v) (hS : ∀ j, S' j = if j = i + 2 then x else S j) : RepM S' (setH σ i v) := by
  obtain ⟨h0, h2, h3, h4, h5, hB⟩ := h
  refine ⟨(by rw [hS, if_neg (by omega)]; exact h0), ?_, ?_, ?_, (by rw [hS, if_neg (by omega)]; exact h5), fun k hk => RB_same (hB k hk) (fun j hj => ?_) (fun j hj => ?_) (fun j hj => ?_)⟩
  · rw [hS]; show _ = nI (fu _ _ _ _)
    rcases hi with rfl | rfl | rfl
    · exact hx
    · exact h2
    · exact h2
  · rw [hS]; show _ = nI (fu _ _ _ _)
    rcases hi with rfl | rfl | rfl
    · exact h3
    · exact hx
    · exact h3
  · rw [hS]; show _ = nI (fu _ _ _ _)
    rcases hi with rfl | rfl | rfl
    · exact h4
    · exact h4
    · exact hx
  · show S' _ = S _; rw [hS, if_neg (by omega)]
  · show S' _ = S _; rw [hS, if_neg (by omega)]
  · show S' _ = S _; rw [hS, if_neg (by omega)]
theorem RM_h {I s} {i v : Nat} {x : Int32} (h : RM I s) (hi : i = 0 ∨ i = 1 ∨ i = 2) (hx : x = nI v) : RM (up3 I 30 0 (i + 2) x) (stH s i v) := RM_w h (by omega) (by omega) (RepM_h h.1.1 hi hx (fun j => up3_at j))
theorem RM_z {I s} {x : Int32} (h : RM I s) : RM (up3 I 30 0 5 x) (stZ s x) := RM_w h (by omega) (by omega) (RepM_z h.1.1 (fun j => up3_at j))
theorem GS_h {s : St} {j v : Nat} (G : GS s) (hv : (j = 0 → v ≤ 9999) ∧ (j = 1 → v ≤ 100) ∧ (j = 2 → v ≤ 5)) : GS (stH s j v) := by
  obtain ⟨⟨⟨g1, g2, g3, g4, g5⟩, g6, g7⟩, g8⟩ := G
  have q : ∀ i m, s.1.1.2.1 i ≤ m → (j = i → v ≤ m) → fu s.1.1.2.1 j v i ≤ m := fun i m a b => by
    by_cases e : i = j
    · subst e; rw [fu_s]; exact b rfl
    · rw [fu_n e]; exact a
  exact ⟨⟨⟨g1, q 0 _ g2 (fun e => Nat.le_trans (hv.1 e) (by omega)), q 1 _ g3 hv.2.1, q 2 _ g4 hv.2.2, g5⟩, q 0 _ g6 hv.1, g7⟩, g8⟩
theorem GS_z {s : St} {z : Int32} (G : GS s) : GS (stZ s z) := G
def f_rule (s : St) (w v : Int32) : Int32 × St := if 0 ≤ w ∧ w ≤ 1 then if w = 0 then if 0 ≤ v ∧ v ≤ 100 then (nI (cH s 1), stH s 1 (kx v)) else (cBAD, s) else if 0 ≤ v ∧ v ≤ 5 then (nI (cH s 2), stH s 2 (kx v)) else (cBAD, s) else (cBAD, s)
def f_seed (s : St) (v : Int32) : Int32 × St := (cZ s, stZ s v)
set_option maxRecDepth 100000 in
set_option maxHeartbeats 4000000 in
theorem w_X7_rule {I : Nat → Nat → Nat → Int32} {X : am_Z} {g : am_F} {gs : List am_F} {d : Nat} {Q : Option am_V → am_M → Prop} {s : St} (h : RC I X s) (G : GS s) {w v : Int32} (k0 : (¬ ((0 : Int32) ≤ w ∧ w ≤ 1)) → am_WP (am_psh g (some (.inl ((-1000000001)))) :: gs) (d + 2) (mk I X) Q) (k1 : ((0 : Int32) ≤ w ∧ w ≤ 1) → (w = 0) → (¬ ((0 : Int32) ≤ v ∧ v ≤ 100)) → am_WP (am_psh g (some (.inl ((-1000000001)))) :: gs) (d + 2) (mk I X) Q) (k2 : ((0 : Int32) ≤ w ∧ w ≤ 1) → (w = 0) → ((0 : Int32) ≤ v ∧ v ≤ 100) → am_WP (am_psh g (some (.inl ((I 1 0 5)))) :: gs) (d + 2) (mk (up3 I 1 0 (5) (v)) X) Q) (k3 : ((0 : Int32) ≤ w ∧ w ≤ 1) → (¬ w = 0) → (¬ ((0 : Int32) ≤ v ∧ v ≤ 5)) → am_WP (am_psh g (some (.inl ((-1000000001)))) :: gs) (d + 2) (mk I X) Q) (k4 : ((0 : Int32) ≤ w ∧ w ≤ 1) → (¬ w = 0) → ((0 : Int32) ≤ v ∧ v ≤ 5) → am_WP (am_psh g (some (.inl ((I 1 0 6)))) :: gs) (d + 2) (mk (up3 I 1 0 (6) (v)) X) Q) : am_WP (am_entry mX7_rule [.inr (.inr (some (7, 0))), .inl (w), .inl (v)] :: g :: gs) (d + 1) (mk I X) Q := by
  have hn : I 1 0 3 = nI (nb s) := h.1.1.1
  have hn8 : nb s ≤ 8 := G.1.1.1
  refine am_go 400 ?_
  refine (c_X7_within (w) (0) (1)) _ _ _ ?_
  refine am_go 400 ?_
  refine am_if (fun h1 => ?_) (fun h1 => ?_)
  · have h1 := bI_0.mp h1
    exact k0 h1
  · have h1 := bI_1.mp h1
    refine am_if (fun h2 => ?_) (fun h2 => ?_)
    · refine (c_X7_within (v) (0) (100)) _ _ _ ?_
      refine am_go 400 ?_
      refine am_if (fun h3 => ?_) (fun h3 => ?_)
      · have h3 := bI_0.mp h3
        exact k1 h1 h2 h3
      · have h3 := bI_1.mp h3
        obtain ⟨e_v, l_v⟩ := okl (m := 100) (by decide) h3
        refine am_t (h2) ?_
        refine am_t (h2) ?_
        exact k2 h1 h2 h3
    · refine (c_X7_within (v) (0) (5)) _ _ _ ?_
      refine am_go 400 ?_
      refine am_if (fun h4 => ?_) (fun h4 => ?_)
      · have h4 := bI_0.mp h4
        exact k3 h1 h2 h4
      · have h4 := bI_1.mp h4
        obtain ⟨e_v, l_v⟩ := okl (m := 5) (by decide) h4
        refine am_f (h2) ?_
        refine am_f (h2) ?_
        exact k4 h1 h2 h4
theorem p_X7_rule {I X d s} (h : RC I X s) (G : GS s) (w v : Int32) : Sp mX7_rule [.inr (.inr (some (7, 0))), .inl (w), .inl (v)] (d + 1) I X (OC I X (f_rule s w v)) := fun g gs Q K => by
  have hn : I 1 0 3 = nI (nb s) := h.1.1.1
  have hn8 : nb s ≤ 8 := G.1.1.1
  have g8 : G8 s := G8_ G
  refine w_X7_rule h G  ?_ ?_ ?_ ?_ ?_
  · intro h0
    apply K_s K
    unfold f_rule
    rw [if_neg h0]
    exact ⟨rfl, h, FrC_r⟩
  · intro h0 h1 h2
    apply K_s K
    unfold f_rule
    rw [if_pos h0, if_pos h1, if_neg h2]
    exact ⟨rfl, h, FrC_r⟩
  · intro h0 h1 h2
    obtain ⟨e_v, l_v⟩ := okl (m := 100) (by decide) h2
    apply K_s K
    unfold f_rule
    rw [if_pos h0, if_pos h1, if_pos h2]
    exact ⟨h.1.1.2.2.1, RC_h1 h e_v, FrC_3 rfl FrC_r⟩
  · intro h0 h1 h2
    apply K_s K
    unfold f_rule
    rw [if_pos h0, if_neg h1, if_neg h2]
    exact ⟨rfl, h, FrC_r⟩
  · intro h0 h1 h2
    obtain ⟨e_v, l_v⟩ := okl (m := 5) (by decide) h2
    apply K_s K
    unfold f_rule
    rw [if_pos h0, if_neg h1, if_pos h2]
    exact ⟨h.1.1.2.2.2.1, RC_h2 h e_v, FrC_3 rfl FrC_r⟩

set_option maxRecDepth 100000 in
set_option maxHeartbeats 4000000 in
theorem w_X8_rule {I : Nat → Nat → Nat → Int32} {X : am_Z} {g : am_F} {gs : List am_F} {d : Nat} {Q : Option am_V → am_M → Prop} {s : St} (h : RM I s) (G : GS s) {w v : Int32} (k0 : (¬ ((0 : Int32) ≤ w ∧ w ≤ 1)) → am_WP (am_psh g (some (.inl ((-1000000001)))) :: gs) (d + 2) (mk I X) Q) (k1 : ((0 : Int32) ≤ w ∧ w ≤ 1) → (w = 0) → (¬ ((0 : Int32) ≤ v ∧ v ≤ 100)) → am_WP (am_psh g (some (.inl ((-1000000001)))) :: gs) (d + 2) (mk I X) Q) (k2 : ((0 : Int32) ≤ w ∧ w ≤ 1) → (w = 0) → ((0 : Int32) ≤ v ∧ v ≤ 100) → am_WP (am_psh g (some (.inl ((I 30 0 (3 + (kx w)))))) :: gs) (d + 2) (mk (up3 I 30 0 (3 + (kx w)) (v)) X) Q) (k3 : ((0 : Int32) ≤ w ∧ w ≤ 1) → (¬ w = 0) → (¬ ((0 : Int32) ≤ v ∧ v ≤ 5)) → am_WP (am_psh g (some (.inl ((-1000000001)))) :: gs) (d + 2) (mk I X) Q) (k4 : ((0 : Int32) ≤ w ∧ w ≤ 1) → (¬ w = 0) → ((0 : Int32) ≤ v ∧ v ≤ 5) → am_WP (am_psh g (some (.inl ((I 30 0 (3 + (kx w)))))) :: gs) (d + 2) (mk (up3 I 30 0 (3 + (kx w)) (v)) X) Q) : am_WP (am_entry mX8_rule [.inr (.inr (some (8, 0))), .inl (w), .inl (v)] :: g :: gs) (d + 1) (mk I X) Q := by
  have hn : I 30 0 0 = nI (nb s) := h.1.1.1
  have hn8 : nb s ≤ 8 := G.1.1.1
  refine am_go 400 ?_
  refine (m_isIn (w) (0) (1) _ _) _ _ _ ?_
  refine am_go 400 ?_
  refine am_if (fun h1 => ?_) (fun h1 => ?_)
  · have h1 := bI_0.mp h1
    exact k0 h1
  · have h1 := bI_1.mp h1
    obtain ⟨e_w, l_w⟩ := okl (m := 1) (by decide) h1
    refine am_if (fun h2 => ?_) (fun h2 => ?_)
    · refine (m_isIn (v) (0) (100) _ _) _ _ _ ?_
      refine am_go 400 ?_
      refine am_if (fun h3 => ?_) (fun h3 => ?_)
      · have h3 := bI_0.mp h3
        exact k1 h1 h2 h3
      · have h3 := bI_1.mp h3
        obtain ⟨e_v, l_v⟩ := okl (m := 100) (by decide) h3
        refine (c8_becomes (j := (3 + (kx w))) (nI_addE (rfl : (3 : Int32) = nI 3) e_w) (by omega)) _ _ _ ?_
        refine am_go 400 ?_
        exact k2 h1 h2 h3
    · refine (m_isIn (v) (0) (5) _ _) _ _ _ ?_
      refine am_go 400 ?_
      refine am_if (fun h4 => ?_) (fun h4 => ?_)
      · have h4 := bI_0.mp h4
        exact k3 h1 h2 h4
      · have h4 := bI_1.mp h4
        obtain ⟨e_v, l_v⟩ := okl (m := 5) (by decide) h4
        refine (c8_becomes (j := (3 + (kx w))) (nI_addE (rfl : (3 : Int32) = nI 3) e_w) (by omega)) _ _ _ ?_
        refine am_go 400 ?_
        exact k4 h1 h2 h4
theorem p_X8_rule {I X d s} (h : RM I s) (G : GS s) (w v : Int32) : Sp mX8_rule [.inr (.inr (some (8, 0))), .inl (w), .inl (v)] (d + 1) I X (OM I X (f_rule s w v)) := fun g gs Q K => by
  have hn : I 30 0 0 = nI (nb s) := h.1.1.1
  have hn8 : nb s ≤ 8 := G.1.1.1
  have g8 : G8 s := G8_ G
  refine w_X8_rule h G  ?_ ?_ ?_ ?_ ?_
  · intro h0
    apply K_s K
    unfold f_rule
    rw [if_neg h0]
    exact ⟨rfl, h, ⟨FrM_r, rfl⟩⟩
  · intro h0 h1 h2
    obtain ⟨e_w, l_w⟩ := okl (m := 1) (by decide) h0
    apply K_s K
    unfold f_rule
    rw [if_pos h0, if_pos h1, if_neg h2]
    exact ⟨rfl, h, ⟨FrM_r, rfl⟩⟩
  · intro h0 h1 h2
    obtain ⟨e_w, l_w⟩ := okl (m := 1) (by decide) h0
    obtain ⟨e_v, l_v⟩ := okl (m := 100) (by decide) h2
    have ew : kx w = 0 := by rw [h1]; rfl
    rw [ew]
    apply K_s K
    unfold f_rule
    rw [if_pos h0, if_pos h1, if_pos h2]
    exact ⟨h.1.1.2.2.1, RM_h (i := 1) h (by omega) e_v, FrM_3 rfl FrM_r, rfl⟩
  · intro h0 h1 h2
    obtain ⟨e_w, l_w⟩ := okl (m := 1) (by decide) h0
    apply K_s K
    unfold f_rule
    rw [if_pos h0, if_neg h1, if_neg h2]
    exact ⟨rfl, h, ⟨FrM_r, rfl⟩⟩
  · intro h0 h1 h2
    obtain ⟨e_w, l_w⟩ := okl (m := 1) (by decide) h0
    obtain ⟨e_v, l_v⟩ := okl (m := 5) (by decide) h2
    have ew : kx w = 1 := by have := mt (eq_nat (b := 0) e_w rfl (by omega) (by decide)).mpr h1; omega
    rw [ew]
    apply K_s K
    unfold f_rule
    rw [if_pos h0, if_neg h1, if_pos h2]
    exact ⟨h.1.1.2.2.2.1, RM_h (i := 2) h (by omega) e_v, FrM_3 rfl FrM_r, rfl⟩

set_option maxRecDepth 100000 in
set_option maxHeartbeats 4000000 in
theorem w_X7_seed {I : Nat → Nat → Nat → Int32} {X : am_Z} {g : am_F} {gs : List am_F} {d : Nat} {Q : Option am_V → am_M → Prop} {s : St} (h : RC I X s) (G : GS s) {v : Int32} (k0 : am_WP (am_psh g (some (.inl ((I 1 0 8)))) :: gs) (d + 1) (mk (up3 I 1 0 (8) (v)) X) Q) : am_WP (am_entry mX7_seed [.inr (.inr (some (7, 0))), .inl (v)] :: g :: gs) (d) (mk I X) Q := by
  have hn : I 1 0 3 = nI (nb s) := h.1.1.1
  have hn8 : nb s ≤ 8 := G.1.1.1
  refine am_go 400 ?_
  exact k0
theorem p_X7_seed {I X d s} (h : RC I X s) (G : GS s) (v : Int32) : Sp mX7_seed [.inr (.inr (some (7, 0))), .inl (v)] (d + 0) I X (OC I X (f_seed s v)) := fun g gs Q K => by
  have hn : I 1 0 3 = nI (nb s) := h.1.1.1
  have hn8 : nb s ≤ 8 := G.1.1.1
  have g8 : G8 s := G8_ G
  refine w_X7_seed h G  ?_
  · apply K_s K
    unfold f_seed
    exact ⟨h.1.1.2.2.2.2.1, RC_z h, FrC_3 rfl FrC_r⟩

set_option maxRecDepth 100000 in
set_option maxHeartbeats 4000000 in
theorem w_X8_seed {I : Nat → Nat → Nat → Int32} {X : am_Z} {g : am_F} {gs : List am_F} {d : Nat} {Q : Option am_V → am_M → Prop} {s : St} (h : RM I s) (G : GS s) {v : Int32} (k0 : am_WP (am_psh g (some (.inl ((I 30 0 5)))) :: gs) (d + 2) (mk (up3 I 30 0 (5) (v)) X) Q) : am_WP (am_entry mX8_seed [.inr (.inr (some (8, 0))), .inl (v)] :: g :: gs) (d + 1) (mk I X) Q := by
  have hn : I 30 0 0 = nI (nb s) := h.1.1.1
  have hn8 : nb s ≤ 8 := G.1.1.1
  refine am_go 400 ?_
  refine (c8_becomes (j := 5) rfl (by omega)) _ _ _ ?_
  refine am_go 400 ?_
  exact k0
theorem p_X8_seed {I X d s} (h : RM I s) (G : GS s) (v : Int32) : Sp mX8_seed [.inr (.inr (some (8, 0))), .inl (v)] (d + 1) I X (OM I X (f_seed s v)) := fun g gs Q K => by
  have hn : I 30 0 0 = nI (nb s) := h.1.1.1
  have hn8 : nb s ≤ 8 := G.1.1.1
  have g8 : G8 s := G8_ G
  refine w_X8_seed h G  ?_
  · apply K_s K
    unfold f_seed
    exact ⟨h.1.1.2.2.2.2.1, RM_z h, ⟨FrM_3 rfl FrM_r, rfl⟩⟩

abbrev isO (k : Nat) (y : Int32) : Prop := nI k = y ∨ y = 0 ∨ (y = 1 ∧ k = 3) ∨ (y = 2 ∧ k = 4)
set_option maxRecDepth 100000 in
set_option maxHeartbeats 4000000 in
theorem w_isOf_0 {I : Nat → Nat → Nat → Int32} {X : am_Z} {g : am_F} {gs : List am_F} {d : Nat} {Q : Option am_V → am_M → Prop} {y : Int32} (k0 : ((0 : Int32) = y) → am_WP (am_psh g (some (.inl (1))) :: gs) (d + 3) (mk I X) Q) (k1 : (¬ (0 : Int32) = y) → am_WP (am_psh g (some (.inl (0))) :: gs) (d + 3) (mk I X) Q) : am_WP (am_entry mX7_isOf [.inl (0), .inl (y)] :: g :: gs) (d + 2) (mk I X) Q := by
  refine am_go 400 ?_
  refine am_go 400 ?_
  refine am_go 400 ?_
  refine am_go 400 ?_
  refine am_go 400 ?_
  refine am_if (fun h1 => ?_) (fun h1 => ?_)
  · exact k0 h1
  · refine am_go 400 ?_
    refine am_go 400 ?_
    refine am_go 400 ?_
    refine am_go 400 ?_
    refine am_go 400 ?_
    exact k1 h1
theorem c_isOf_0 {I X d} {y : Int32} (hy : 0 ≤ y ∧ y ≤ 5) : Rt mX7_isOf [.inl 0, .inl y] (d + 2) (mk I X) (some (.inl (bI (isO 0 y)))) (mk I X) := fun g gs Q K =>
  w_isOf_0 (fun h0 => K_v (bI_t (p := isO 0 y) (Or.inl h0)) K) (fun h0 => K_v (bI_f (p := isO 0 y) (fun q => q.elim (fun z => h0 z) (fun q => q.elim (fun z => h0 z.symm) (fun q => q.elim (fun z => absurd z.2 (by decide)) (fun z => absurd z.2 (by decide)))))) K)
set_option maxRecDepth 100000 in
set_option maxHeartbeats 4000000 in
theorem w_isOf_1 {I : Nat → Nat → Nat → Int32} {X : am_Z} {g : am_F} {gs : List am_F} {d : Nat} {Q : Option am_V → am_M → Prop} {y : Int32} (k0 : ((1 : Int32) = y) → am_WP (am_psh g (some (.inl (1))) :: gs) (d + 3) (mk I X) Q) (k1 : (¬ (1 : Int32) = y) → ((0 : Int32) = y) → am_WP (am_psh g (some (.inl (1))) :: gs) (d + 3) (mk I X) Q) (k2 : (¬ (1 : Int32) = y) → (¬ (0 : Int32) = y) → am_WP (am_psh g (some (.inl (0))) :: gs) (d + 3) (mk I X) Q) : am_WP (am_entry mX7_isOf [.inl (1), .inl (y)] :: g :: gs) (d + 2) (mk I X) Q := by
  refine am_go 400 ?_
  refine am_go 400 ?_
  refine am_go 400 ?_
  refine am_go 400 ?_
  refine am_go 400 ?_
  refine am_if (fun h1 => ?_) (fun h1 => ?_)
  · exact k0 h1
  · refine am_go 400 ?_
    refine am_go 400 ?_
    refine am_go 400 ?_
    refine am_go 400 ?_
    refine am_go 400 ?_
    refine am_if (fun h2 => ?_) (fun h2 => ?_)
    · exact k1 h1 h2
    · refine am_go 400 ?_
      refine am_go 400 ?_
      refine am_go 400 ?_
      refine am_go 400 ?_
      refine am_go 400 ?_
      exact k2 h1 h2
theorem c_isOf_1 {I X d} {y : Int32} (hy : 0 ≤ y ∧ y ≤ 5) : Rt mX7_isOf [.inl 1, .inl y] (d + 2) (mk I X) (some (.inl (bI (isO 1 y)))) (mk I X) := fun g gs Q K =>
  w_isOf_1 (fun h0 => K_v (bI_t (p := isO 1 y) (Or.inl h0)) K) (fun h0 h1 => K_v (bI_t (p := isO 1 y) (Or.inr (Or.inl h1.symm))) K) (fun h0 h1 => K_v (bI_f (p := isO 1 y) (fun q => q.elim (fun z => h0 z) (fun q => q.elim (fun z => h1 z.symm) (fun q => q.elim (fun z => absurd z.2 (by decide)) (fun z => absurd z.2 (by decide)))))) K)
set_option maxRecDepth 100000 in
set_option maxHeartbeats 4000000 in
theorem w_isOf_2 {I : Nat → Nat → Nat → Int32} {X : am_Z} {g : am_F} {gs : List am_F} {d : Nat} {Q : Option am_V → am_M → Prop} {y : Int32} (k0 : ((2 : Int32) = y) → am_WP (am_psh g (some (.inl (1))) :: gs) (d + 3) (mk I X) Q) (k1 : (¬ (2 : Int32) = y) → ((0 : Int32) = y) → am_WP (am_psh g (some (.inl (1))) :: gs) (d + 3) (mk I X) Q) (k2 : (¬ (2 : Int32) = y) → (¬ (0 : Int32) = y) → am_WP (am_psh g (some (.inl (0))) :: gs) (d + 3) (mk I X) Q) : am_WP (am_entry mX7_isOf [.inl (2), .inl (y)] :: g :: gs) (d + 2) (mk I X) Q := by
  refine am_go 400 ?_
  refine am_go 400 ?_
  refine am_go 400 ?_
  refine am_go 400 ?_
  refine am_go 400 ?_
  refine am_if (fun h1 => ?_) (fun h1 => ?_)
  · exact k0 h1
  · refine am_go 400 ?_
    refine am_go 400 ?_
    refine am_go 400 ?_
    refine am_go 400 ?_
    refine am_go 400 ?_
    refine am_if (fun h2 => ?_) (fun h2 => ?_)
    · exact k1 h1 h2
    · refine am_go 400 ?_
      refine am_go 400 ?_
      refine am_go 400 ?_
      refine am_go 400 ?_
      refine am_go 400 ?_
      exact k2 h1 h2
theorem c_isOf_2 {I X d} {y : Int32} (hy : 0 ≤ y ∧ y ≤ 5) : Rt mX7_isOf [.inl 2, .inl y] (d + 2) (mk I X) (some (.inl (bI (isO 2 y)))) (mk I X) := fun g gs Q K =>
  w_isOf_2 (fun h0 => K_v (bI_t (p := isO 2 y) (Or.inl h0)) K) (fun h0 h1 => K_v (bI_t (p := isO 2 y) (Or.inr (Or.inl h1.symm))) K) (fun h0 h1 => K_v (bI_f (p := isO 2 y) (fun q => q.elim (fun z => h0 z) (fun q => q.elim (fun z => h1 z.symm) (fun q => q.elim (fun z => absurd z.2 (by decide)) (fun z => absurd z.2 (by decide)))))) K)
set_option maxRecDepth 100000 in
set_option maxHeartbeats 4000000 in
theorem w_isOf_3 {I : Nat → Nat → Nat → Int32} {X : am_Z} {g : am_F} {gs : List am_F} {d : Nat} {Q : Option am_V → am_M → Prop} {y : Int32} (k0 : ((3 : Int32) = y) → am_WP (am_psh g (some (.inl (1))) :: gs) (d + 3) (mk I X) Q) (k1 : (¬ (3 : Int32) = y) → ((1 : Int32) = y) → am_WP (am_psh g (some (.inl (1))) :: gs) (d + 3) (mk I X) Q) (k2 : (¬ (3 : Int32) = y) → (¬ (1 : Int32) = y) → ((0 : Int32) = y) → am_WP (am_psh g (some (.inl (1))) :: gs) (d + 3) (mk I X) Q) (k3 : (¬ (3 : Int32) = y) → (¬ (1 : Int32) = y) → (¬ (0 : Int32) = y) → am_WP (am_psh g (some (.inl (0))) :: gs) (d + 3) (mk I X) Q) : am_WP (am_entry mX7_isOf [.inl (3), .inl (y)] :: g :: gs) (d + 2) (mk I X) Q := by
  refine am_go 400 ?_
  refine am_go 400 ?_
  refine am_go 400 ?_
  refine am_go 400 ?_
  refine am_go 400 ?_
  refine am_if (fun h1 => ?_) (fun h1 => ?_)
  · exact k0 h1
  · refine am_go 400 ?_
    refine am_go 400 ?_
    refine am_go 400 ?_
    refine am_go 400 ?_
    refine am_go 400 ?_
    refine am_if (fun h2 => ?_) (fun h2 => ?_)
    · exact k1 h1 h2
    · refine am_go 400 ?_
      refine am_go 400 ?_
      refine am_go 400 ?_
      refine am_go 400 ?_
      refine am_go 400 ?_
      refine am_if (fun h3 => ?_) (fun h3 => ?_)
      · exact k2 h1 h2 h3
      · refine am_go 400 ?_
        refine am_go 400 ?_
        refine am_go 400 ?_
        refine am_go 400 ?_
        refine am_go 400 ?_
        exact k3 h1 h2 h3
theorem c_isOf_3 {I X d} {y : Int32} (hy : 0 ≤ y ∧ y ≤ 5) : Rt mX7_isOf [.inl 3, .inl y] (d + 2) (mk I X) (some (.inl (bI (isO 3 y)))) (mk I X) := fun g gs Q K =>
  w_isOf_3 (fun h0 => K_v (bI_t (p := isO 3 y) (Or.inl h0)) K) (fun h0 h1 => K_v (bI_t (p := isO 3 y) (Or.inr (Or.inr (Or.inl ⟨h1.symm, rfl⟩)))) K) (fun h0 h1 h2 => K_v (bI_t (p := isO 3 y) (Or.inr (Or.inl h2.symm))) K) (fun h0 h1 h2 => K_v (bI_f (p := isO 3 y) (fun q => q.elim (fun z => h0 z) (fun q => q.elim (fun z => h2 z.symm) (fun q => q.elim (fun z => h1 z.1.symm) (fun z => absurd z.2 (by decide)))))) K)
set_option maxRecDepth 100000 in
set_option maxHeartbeats 4000000 in
theorem w_isOf_4 {I : Nat → Nat → Nat → Int32} {X : am_Z} {g : am_F} {gs : List am_F} {d : Nat} {Q : Option am_V → am_M → Prop} {y : Int32} (k0 : ((4 : Int32) = y) → am_WP (am_psh g (some (.inl (1))) :: gs) (d + 3) (mk I X) Q) (k1 : (¬ (4 : Int32) = y) → ((2 : Int32) = y) → am_WP (am_psh g (some (.inl (1))) :: gs) (d + 3) (mk I X) Q) (k2 : (¬ (4 : Int32) = y) → (¬ (2 : Int32) = y) → ((0 : Int32) = y) → am_WP (am_psh g (some (.inl (1))) :: gs) (d + 3) (mk I X) Q) (k3 : (¬ (4 : Int32) = y) → (¬ (2 : Int32) = y) → (¬ (0 : Int32) = y) → am_WP (am_psh g (some (.inl (0))) :: gs) (d + 3) (mk I X) Q) : am_WP (am_entry mX7_isOf [.inl (4), .inl (y)] :: g :: gs) (d + 2) (mk I X) Q := by
  refine am_go 400 ?_
  refine am_go 400 ?_
  refine am_go 400 ?_
  refine am_go 400 ?_
  refine am_go 400 ?_
  refine am_if (fun h1 => ?_) (fun h1 => ?_)
  · exact k0 h1
  · refine am_go 400 ?_
    refine am_go 400 ?_
    refine am_go 400 ?_
    refine am_go 400 ?_
    refine am_go 400 ?_
    refine am_if (fun h2 => ?_) (fun h2 => ?_)
    · exact k1 h1 h2
    · refine am_go 400 ?_
      refine am_go 400 ?_
      refine am_go 400 ?_
      refine am_go 400 ?_
      refine am_go 400 ?_
      refine am_if (fun h3 => ?_) (fun h3 => ?_)
      · exact k2 h1 h2 h3
      · refine am_go 400 ?_
        refine am_go 400 ?_
        refine am_go 400 ?_
        refine am_go 400 ?_
        refine am_go 400 ?_
        exact k3 h1 h2 h3
theorem c_isOf_4 {I X d} {y : Int32} (hy : 0 ≤ y ∧ y ≤ 5) : Rt mX7_isOf [.inl 4, .inl y] (d + 2) (mk I X) (some (.inl (bI (isO 4 y)))) (mk I X) := fun g gs Q K =>
  w_isOf_4 (fun h0 => K_v (bI_t (p := isO 4 y) (Or.inl h0)) K) (fun h0 h1 => K_v (bI_t (p := isO 4 y) (Or.inr (Or.inr (Or.inr ⟨h1.symm, rfl⟩)))) K) (fun h0 h1 h2 => K_v (bI_t (p := isO 4 y) (Or.inr (Or.inl h2.symm))) K) (fun h0 h1 h2 => K_v (bI_f (p := isO 4 y) (fun q => q.elim (fun z => h0 z) (fun q => q.elim (fun z => h2 z.symm) (fun q => q.elim (fun z => absurd z.2 (by decide)) (fun z => h1 z.1.symm))))) K)
set_option maxRecDepth 100000 in
set_option maxHeartbeats 4000000 in
theorem w_isOf_5 {I : Nat → Nat → Nat → Int32} {X : am_Z} {g : am_F} {gs : List am_F} {d : Nat} {Q : Option am_V → am_M → Prop} {y : Int32} (k0 : ((5 : Int32) = y) → am_WP (am_psh g (some (.inl (1))) :: gs) (d + 3) (mk I X) Q) (k1 : (¬ (5 : Int32) = y) → ((0 : Int32) = y) → am_WP (am_psh g (some (.inl (1))) :: gs) (d + 3) (mk I X) Q) (k2 : (¬ (5 : Int32) = y) → (¬ (0 : Int32) = y) → am_WP (am_psh g (some (.inl (0))) :: gs) (d + 3) (mk I X) Q) : am_WP (am_entry mX7_isOf [.inl (5), .inl (y)] :: g :: gs) (d + 2) (mk I X) Q := by
  refine am_go 400 ?_
  refine am_go 400 ?_
  refine am_go 400 ?_
  refine am_go 400 ?_
  refine am_go 400 ?_
  refine am_if (fun h1 => ?_) (fun h1 => ?_)
  · exact k0 h1
  · refine am_go 400 ?_
    refine am_go 400 ?_
    refine am_go 400 ?_
    refine am_go 400 ?_
    refine am_go 400 ?_
    refine am_if (fun h2 => ?_) (fun h2 => ?_)
    · exact k1 h1 h2
    · refine am_go 400 ?_
      refine am_go 400 ?_
      refine am_go 400 ?_
      refine am_go 400 ?_
      refine am_go 400 ?_
      exact k2 h1 h2
theorem c_isOf_5 {I X d} {y : Int32} (hy : 0 ≤ y ∧ y ≤ 5) : Rt mX7_isOf [.inl 5, .inl y] (d + 2) (mk I X) (some (.inl (bI (isO 5 y)))) (mk I X) := fun g gs Q K =>
  w_isOf_5 (fun h0 => K_v (bI_t (p := isO 5 y) (Or.inl h0)) K) (fun h0 h1 => K_v (bI_t (p := isO 5 y) (Or.inr (Or.inl h1.symm))) K) (fun h0 h1 => K_v (bI_f (p := isO 5 y) (fun q => q.elim (fun z => h0 z) (fun q => q.elim (fun z => h1 z.symm) (fun q => q.elim (fun z => absurd z.2 (by decide)) (fun z => absurd z.2 (by decide)))))) K)
theorem c_X7_isOf {I X d} {k : Nat} {x y : Int32} (hx : x = nI k) (hk : k ≤ 5) (hy : 0 ≤ y ∧ y ≤ 5) : Rt mX7_isOf [.inl x, .inl y] (d + 2) (mk I X) (some (.inl (bI (isO k y)))) (mk I X) := by
  subst hx
  match k, hk with
  | 0, _ => exact c_isOf_0 hy
  | 1, _ => exact c_isOf_1 hy
  | 2, _ => exact c_isOf_2 hy
  | 3, _ => exact c_isOf_3 hy
  | 4, _ => exact c_isOf_4 hy
  | 5, _ => exact c_isOf_5 hy
set_option maxRecDepth 100000 in
set_option maxHeartbeats 4000000 in
theorem w_X8_isOf {I : Nat → Nat → Nat → Int32} {X : am_Z} {g : am_F} {gs : List am_F} {d : Nat} {Q : Option am_V → am_M → Prop} {x y : Int32} (k0 : (x = y) → am_WP (am_psh g (some (.inl (1))) :: gs) (d + 1) (mk I X) Q) (k1 : (¬ x = y) → (y = 0) → am_WP (am_psh g (some (.inl (1))) :: gs) (d + 1) (mk I X) Q) (k2 : (¬ x = y) → (¬ y = 0) → (y = 1) → (x = 3) → am_WP (am_psh g (some (.inl (1))) :: gs) (d + 1) (mk I X) Q) (k3 : (¬ x = y) → (¬ y = 0) → (y = 1) → (¬ x = 3) → (y = 2) → (x = 4) → am_WP (am_psh g (some (.inl (1))) :: gs) (d + 1) (mk I X) Q) (k4 : (¬ x = y) → (¬ y = 0) → (y = 1) → (¬ x = 3) → (y = 2) → (¬ x = 4) → am_WP (am_psh g (some (.inl (0))) :: gs) (d + 1) (mk I X) Q) (k5 : (¬ x = y) → (¬ y = 0) → (y = 1) → (¬ x = 3) → (¬ y = 2) → am_WP (am_psh g (some (.inl (0))) :: gs) (d + 1) (mk I X) Q) (k6 : (¬ x = y) → (¬ y = 0) → (¬ y = 1) → (y = 2) → (x = 4) → am_WP (am_psh g (some (.inl (1))) :: gs) (d + 1) (mk I X) Q) (k7 : (¬ x = y) → (¬ y = 0) → (¬ y = 1) → (y = 2) → (¬ x = 4) → am_WP (am_psh g (some (.inl (0))) :: gs) (d + 1) (mk I X) Q) (k8 : (¬ x = y) → (¬ y = 0) → (¬ y = 1) → (¬ y = 2) → am_WP (am_psh g (some (.inl (0))) :: gs) (d + 1) (mk I X) Q) : am_WP (am_entry mX8_isOf [.inl (x), .inl (y)] :: g :: gs) (d) (mk I X) Q := by
  refine am_go 400 ?_
  refine am_if (fun h1 => ?_) (fun h1 => ?_)
  · exact k0 h1
  · refine am_if (fun h2 => ?_) (fun h2 => ?_)
    · exact k1 h1 h2
    · refine am_if (fun h3 => ?_) (fun h3 => ?_)
      · refine am_if (fun h4 => ?_) (fun h4 => ?_)
        · exact k2 h1 h2 h3 h4
        · refine am_if (fun h5 => ?_) (fun h5 => ?_)
          · refine am_if (fun h6 => ?_) (fun h6 => ?_)
            · exact k3 h1 h2 h3 h4 h5 h6
            · exact k4 h1 h2 h3 h4 h5 h6
          · exact k5 h1 h2 h3 h4 h5
      · refine am_if (fun h7 => ?_) (fun h7 => ?_)
        · refine am_if (fun h8 => ?_) (fun h8 => ?_)
          · exact k6 h1 h2 h3 h7 h8
          · exact k7 h1 h2 h3 h7 h8
        · exact k8 h1 h2 h3 h7
