abbrev sl (s : St) (k : Nat) : Sl := s.2.2.2.1 k
def f_rest (s : St) (x n : Int32) : Int32 × St := if 0 ≤ x ∧ x ≤ 4 then if (sl s (kx x)).1 = 0 then (cNOTH, s) else if (sl s (kx x)).1 = 3 then if n = 0 then (cNO, s) else ((sl s (kx x)).2.1 - (sl s (kx x)).2.1 / n * n, s) else (cKIND, s) else (cBAD, s)
set_option maxRecDepth 100000 in
set_option maxHeartbeats 4000000 in
theorem w_X7_rest {I : Nat → Nat → Nat → Int32} {X : am_Z} {g : am_F} {gs : List am_F} {d : Nat} {Q : Option am_V → am_M → Prop} {s : St} (h : RC I X s) (G : GS s) {x n : Int32} (b0 : ((0 : Int32) ≤ x ∧ x ≤ 4) → (¬ (((sl s (kx x)).1) = 0)) → (((sl s (kx x)).1) = 3) → (¬ n = 0) → ¬ n = 0) (k0 : (¬ ((0 : Int32) ≤ x ∧ x ≤ 4)) → am_WP (am_psh g (some (.inl ((-1000000001)))) :: gs) (d + 3) (mk I X) Q) (k1 : ((0 : Int32) ≤ x ∧ x ≤ 4) → (((sl s (kx x)).1) = 0) → am_WP (am_psh g (some (.inl ((-1000000011)))) :: gs) (d + 3) (mk I X) Q) (k2 : ((0 : Int32) ≤ x ∧ x ≤ 4) → (¬ (((sl s (kx x)).1) = 0)) → (((sl s (kx x)).1) = 3) → (n = 0) → am_WP (am_psh g (some (.inl ((-1000000002)))) :: gs) (d + 3) (mk I X) Q) (k3 : ((0 : Int32) ≤ x ∧ x ≤ 4) → (¬ (((sl s (kx x)).1) = 0)) → (((sl s (kx x)).1) = 3) → (¬ n = 0) → am_WP (am_psh g (some (.inl (((I 5 (kx x) 4) - (I 5 (kx x) 4) / n * n)))) :: gs) (d + 3) (mk I X) Q) (k4 : ((0 : Int32) ≤ x ∧ x ≤ 4) → (¬ (((sl s (kx x)).1) = 0)) → (¬ (((sl s (kx x)).1) = 3)) → am_WP (am_psh g (some (.inl ((-1000000012)))) :: gs) (d + 3) (mk I X) Q) : am_WP (am_entry mX7_rest [.inr (.inr (some (7, 0))), .inl (x), .inl (n)] :: g :: gs) (d + 2) (mk I X) Q := by
  have hn : I 1 0 3 = nI (nb s) := h.1.1.1
  have hn8 : nb s ≤ 8 := G.1.1.1
  refine am_go 400 ?_
  refine (c_X7_isSlot (x := x)) _ _ _ ?_
  refine am_go 400 ?_
  refine am_if (fun h1 => ?_) (fun h1 => ?_)
  · have h1 := bI_0.mp h1
    exact k0 h1
  · have h1 := bI_1.mp h1
    obtain ⟨e_x, l_x⟩ := okl (m := 4) (by decide) h1
    have t_x : (sl s (kx x)).1 ≤ 3 := (G.2.2.2.1 (kx x) (by omega)).1
    have z_x : (sl s (kx x)).2.2.2.1 ≤ 24 := (G.2.2.2.1 (kx x) (by omega)).2.1
    refine am_f (ix_in (n := (kx x)) (N := 5) e_x (by omega) (by decide)) ?_
    refine am_if (fun h2 => ?_) (fun h2 => ?_)
    · have nh2 := (eq_nat (a := ((sl s (kx x)).1)) (b := 0) (h.2.2.2.1 (kx x) (by omega)).1 (rfl : (0 : Int32) = nI 0) (by omega) (by omega)).mp h2
      exact k1 h1 nh2
    · have nh2 := mt (eq_nat (a := ((sl s (kx x)).1)) (b := 0) (h.2.2.2.1 (kx x) (by omega)).1 (rfl : (0 : Int32) = nI 0) (by omega) (by omega)).mpr h2
      refine am_if (fun h3 => ?_) (fun h3 => ?_)
      · have nh3 := (eq_nat (a := ((sl s (kx x)).1)) (b := 3) (h.2.2.2.1 (kx x) (by omega)).1 (rfl : (3 : Int32) = nI 3) (by omega) (by omega)).mp h3
        refine am_if (fun h4 => ?_) (fun h4 => ?_)
        · exact k2 h1 nh2 nh3 h4
        · refine am_f (b0 h1 nh2 nh3 h4) ?_
          exact k3 h1 nh2 nh3 h4
      · have nh3 := mt (eq_nat (a := ((sl s (kx x)).1)) (b := 3) (h.2.2.2.1 (kx x) (by omega)).1 (rfl : (3 : Int32) = nI 3) (by omega) (by omega)).mpr h3
        exact k4 h1 nh2 nh3
theorem p_X7_rest {I X d s} (h : RC I X s) (G : GS s) (x n : Int32) : Sp mX7_rest [.inr (.inr (some (7, 0))), .inl (x), .inl (n)] (d + 2) I X (OC I X (f_rest s x n)) := fun g gs Q K => by
  have hn : I 1 0 3 = nI (nb s) := h.1.1.1
  have hn8 : nb s ≤ 8 := G.1.1.1
  have g8 : G8 s := G8_ G
  refine w_X7_rest h G (fun _ _ _ q => q) ?_ ?_ ?_ ?_ ?_
  · intro h0
    apply K_s K
    unfold f_rest
    rw [if_neg h0]
    exact ⟨rfl, h, FrC_r⟩
  · intro h0 h1
    obtain ⟨e_x, l_x⟩ := okl (m := 4) (by decide) h0
    have t_x : (sl s (kx x)).1 ≤ 3 := (G.2.2.2.1 (kx x) (by omega)).1
    have z_x : (sl s (kx x)).2.2.2.1 ≤ 24 := (G.2.2.2.1 (kx x) (by omega)).2.1
    apply K_s K
    unfold f_rest
    rw [if_pos h0, if_pos h1]
    exact ⟨rfl, h, FrC_r⟩
  · intro h0 h1 h2 h3
    obtain ⟨e_x, l_x⟩ := okl (m := 4) (by decide) h0
    have t_x : (sl s (kx x)).1 ≤ 3 := (G.2.2.2.1 (kx x) (by omega)).1
    have z_x : (sl s (kx x)).2.2.2.1 ≤ 24 := (G.2.2.2.1 (kx x) (by omega)).2.1
    apply K_s K
    unfold f_rest
    rw [if_pos h0, if_neg h1, if_pos h2, if_pos h3]
    exact ⟨rfl, h, FrC_r⟩
  · intro h0 h1 h2 h3
    obtain ⟨e_x, l_x⟩ := okl (m := 4) (by decide) h0
    have t_x : (sl s (kx x)).1 ≤ 3 := (G.2.2.2.1 (kx x) (by omega)).1
    have z_x : (sl s (kx x)).2.2.2.1 ≤ 24 := (G.2.2.2.1 (kx x) (by omega)).2.1
    apply K_s K
    unfold f_rest
    rw [if_pos h0, if_neg h1, if_pos h2, if_neg h3]
    exact ⟨by rw [(h.2.2.2.1 (kx x) (by omega)).2.2.2 h2], h, FrC_r⟩
  · intro h0 h1 h2
    obtain ⟨e_x, l_x⟩ := okl (m := 4) (by decide) h0
    have t_x : (sl s (kx x)).1 ≤ 3 := (G.2.2.2.1 (kx x) (by omega)).1
    have z_x : (sl s (kx x)).2.2.2.1 ≤ 24 := (G.2.2.2.1 (kx x) (by omega)).2.1
    apply K_s K
    unfold f_rest
    rw [if_pos h0, if_neg h1, if_neg h2]
    exact ⟨rfl, h, FrC_r⟩

set_option maxRecDepth 100000 in
set_option maxHeartbeats 4000000 in
theorem w_X8_rest {I : Nat → Nat → Nat → Int32} {X : am_Z} {g : am_F} {gs : List am_F} {d : Nat} {Q : Option am_V → am_M → Prop} {s : St} (h : RM I s) (G : GS s) {x n : Int32} (b0 : ((0 : Int32) ≤ x ∧ x ≤ 4) → (((sl s (kx x)).1) = 3) → (¬ n = 0) → ¬ n = 0) (k0 : (¬ ((0 : Int32) ≤ x ∧ x ≤ 4)) → am_WP (am_psh g (some (.inl ((-1000000001)))) :: gs) (d + 3) (mk I X) Q) (k1 : ((0 : Int32) ≤ x ∧ x ≤ 4) → (((sl s (kx x)).1) = 3) → (n = 0) → am_WP (am_psh g (some (.inl ((-1000000002)))) :: gs) (d + 3) (mk I X) Q) (k2 : ((0 : Int32) ≤ x ∧ x ≤ 4) → (((sl s (kx x)).1) = 3) → (¬ n = 0) → am_WP (am_psh g (some (.inl (((I 37 0 (kx x)) - (I 37 0 (kx x)) / n * n)))) :: gs) (d + 3) (mk I X) Q) (k3 : ((0 : Int32) ≤ x ∧ x ≤ 4) → (¬ (((sl s (kx x)).1) = 3)) → (((sl s (kx x)).1) = 0) → am_WP (am_psh g (some (.inl ((-1000000011)))) :: gs) (d + 3) (mk I X) Q) (k4 : ((0 : Int32) ≤ x ∧ x ≤ 4) → (¬ (((sl s (kx x)).1) = 3)) → (¬ (((sl s (kx x)).1) = 0)) → am_WP (am_psh g (some (.inl ((-1000000012)))) :: gs) (d + 3) (mk I X) Q) : am_WP (am_entry mX8_rest [.inr (.inr (some (8, 0))), .inl (x), .inl (n)] :: g :: gs) (d + 2) (mk I X) Q := by
  have hn : I 30 0 0 = nI (nb s) := h.1.1.1
  have hn8 : nb s ≤ 8 := G.1.1.1
  refine am_go 400 ?_
  refine (c_X8_isSlot (x := x)) _ _ _ ?_
  refine am_go 400 ?_
  refine am_if (fun h1 => ?_) (fun h1 => ?_)
  · have h1 := bI_0.mp h1
    exact k0 h1
  · have h1 := bI_1.mp h1
    obtain ⟨e_x, l_x⟩ := okl (m := 4) (by decide) h1
    have t_x : (sl s (kx x)).1 ≤ 3 := (G.2.2.2.1 (kx x) (by omega)).1
    have z_x : (sl s (kx x)).2.2.2.1 ≤ 24 := (G.2.2.2.1 (kx x) (by omega)).2.1
    refine am_f (ix_in (n := (kx x)) (N := 5) e_x (by omega) (by decide)) ?_
    refine am_if (fun h2 => ?_) (fun h2 => ?_)
    · have nh2 := (eq_nat (a := ((sl s (kx x)).1)) (b := 3) (h.2.2.2.1 (kx x) (by omega)).1 (rfl : (3 : Int32) = nI 3) (by omega) (by omega)).mp h2
      refine am_if (fun h3 => ?_) (fun h3 => ?_)
      · exact k1 h1 nh2 h3
      · refine am_f (ix_in (n := (kx x)) (N := 5) e_x (by omega) (by decide)) ?_
        refine am_f (b0 h1 nh2 h3) ?_
        exact k2 h1 nh2 h3
    · have nh2 := mt (eq_nat (a := ((sl s (kx x)).1)) (b := 3) (h.2.2.2.1 (kx x) (by omega)).1 (rfl : (3 : Int32) = nI 3) (by omega) (by omega)).mpr h2
      refine am_f (ix_in (n := (kx x)) (N := 5) e_x (by omega) (by decide)) ?_
      refine am_if (fun h4 => ?_) (fun h4 => ?_)
      · have nh4 := (eq_nat (a := ((sl s (kx x)).1)) (b := 0) (h.2.2.2.1 (kx x) (by omega)).1 (rfl : (0 : Int32) = nI 0) (by omega) (by omega)).mp h4
        exact k3 h1 nh2 nh4
      · have nh4 := mt (eq_nat (a := ((sl s (kx x)).1)) (b := 0) (h.2.2.2.1 (kx x) (by omega)).1 (rfl : (0 : Int32) = nI 0) (by omega) (by omega)).mpr h4
        exact k4 h1 nh2 nh4
theorem p_X8_rest {I X d s} (h : RM I s) (G : GS s) (x n : Int32) : Sp mX8_rest [.inr (.inr (some (8, 0))), .inl (x), .inl (n)] (d + 2) I X (OM I X (f_rest s x n)) := fun g gs Q K => by
  have hn : I 30 0 0 = nI (nb s) := h.1.1.1
  have hn8 : nb s ≤ 8 := G.1.1.1
  have g8 : G8 s := G8_ G
  refine w_X8_rest h G (fun _ _ q => q) ?_ ?_ ?_ ?_ ?_
  · intro h0
    apply K_s K
    unfold f_rest
    rw [if_neg h0]
    exact ⟨rfl, h, ⟨FrM_r, rfl⟩⟩
  · intro h0 h1 h2
    obtain ⟨e_x, l_x⟩ := okl (m := 4) (by decide) h0
    have t_x : (sl s (kx x)).1 ≤ 3 := (G.2.2.2.1 (kx x) (by omega)).1
    have z_x : (sl s (kx x)).2.2.2.1 ≤ 24 := (G.2.2.2.1 (kx x) (by omega)).2.1
    apply K_s K
    unfold f_rest
    rw [if_pos h0, if_neg (by omega), if_pos h1, if_pos h2]
    exact ⟨rfl, h, ⟨FrM_r, rfl⟩⟩
  · intro h0 h1 h2
    obtain ⟨e_x, l_x⟩ := okl (m := 4) (by decide) h0
    have t_x : (sl s (kx x)).1 ≤ 3 := (G.2.2.2.1 (kx x) (by omega)).1
    have z_x : (sl s (kx x)).2.2.2.1 ≤ 24 := (G.2.2.2.1 (kx x) (by omega)).2.1
    apply K_s K
    unfold f_rest
    rw [if_pos h0, if_neg (by omega), if_pos h1, if_neg h2]
    exact ⟨by rw [(h.2.2.2.1 (kx x) (by omega)).2.2.2 h1], h, ⟨FrM_r, rfl⟩⟩
  · intro h0 h1 h2
    obtain ⟨e_x, l_x⟩ := okl (m := 4) (by decide) h0
    have t_x : (sl s (kx x)).1 ≤ 3 := (G.2.2.2.1 (kx x) (by omega)).1
    have z_x : (sl s (kx x)).2.2.2.1 ≤ 24 := (G.2.2.2.1 (kx x) (by omega)).2.1
    apply K_s K
    unfold f_rest
    rw [if_pos h0, if_pos h2]
    exact ⟨rfl, h, ⟨FrM_r, rfl⟩⟩
  · intro h0 h1 h2
    obtain ⟨e_x, l_x⟩ := okl (m := 4) (by decide) h0
    have t_x : (sl s (kx x)).1 ≤ 3 := (G.2.2.2.1 (kx x) (by omega)).1
    have z_x : (sl s (kx x)).2.2.2.1 ≤ 24 := (G.2.2.2.1 (kx x) (by omega)).2.1
    apply K_s K
    unfold f_rest
    rw [if_pos h0, if_neg h2, if_neg h1]
    exact ⟨rfl, h, ⟨FrM_r, rfl⟩⟩

