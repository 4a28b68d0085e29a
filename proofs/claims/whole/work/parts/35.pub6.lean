abbrev sl (s : St) (k : Nat) : Sl := s.2.2.2.1 k
theorem slC {I X s} {k : Nat} (h : RC I X s) (hk : k < 5) : SlC I k (sl s k) := h.2.2.2.1 k hk
theorem slM {I s} {k : Nat} (h : RM I s) (hk : k < 5) : SlM I k (sl s k) := h.2.2.2.1 k hk
theorem shC {I X s} {k : Nat} (h : RC I X s) (hk : k < 4) : RoC I k (sh s k) := h.2.2.1 k hk
theorem shM {I s} {k : Nat} (h : RM I s) (hk : k < 4) : RoM I k (sh s k) := h.2.2.1 k hk
def f_rest (s : St) (x n : Int32) : Int32 × St := if 0 ≤ x ∧ x ≤ 4 then if (sl s (kx x)).1 = 0 then (cNOTH, s) else if (sl s (kx x)).1 = 3 then if n = 0 then (cNO, s) else ((sl s (kx x)).2.1 - (sl s (kx x)).2.1 / n * n, s) else (cKIND, s) else (cBAD, s)
set_option maxRecDepth 100000 in
set_option maxHeartbeats 4000000 in
theorem w_X7_rest {I : Nat → Nat → Nat → Int32} {X : am_Z} {g : am_F} {gs : List am_F} {d : Nat} {Q : Option am_V → am_M → Prop} {s : St} (h : RC I X s) (G : GS s) {x n : Int32} (b0 : ((0 : Int32) ≤ x ∧ x ≤ 4) → (¬ (((sl s (kx x)).1) = 0)) → (((sl s (kx x)).1) = 3) → (¬ n = 0) → ¬ n = 0) (k0 : (¬ ((0 : Int32) ≤ x ∧ x ≤ 4)) → am_WP (am_psh g (some (.inl ((-1000000001)))) :: gs) (d + 3) (mk I X) Q) (k1 : ((0 : Int32) ≤ x ∧ x ≤ 4) → (((sl s (kx x)).1) = 0) → am_WP (am_psh g (some (.inl ((-1000000011)))) :: gs) (d + 3) (mk I X) Q) (k2 : ((0 : Int32) ≤ x ∧ x ≤ 4) → (¬ (((sl s (kx x)).1) = 0)) → (((sl s (kx x)).1) = 3) → (n = 0) → am_WP (am_psh g (some (.inl ((-1000000002)))) :: gs) (d + 3) (mk I X) Q) (k3 : ((0 : Int32) ≤ x ∧ x ≤ 4) → (¬ (((sl s (kx x)).1) = 0)) → (((sl s (kx x)).1) = 3) → (¬ n = 0) → am_WP (am_psh g (some (.inl (((I 5 (kx x) 4) - (I 5 (kx x) 4) / n * n)))) :: gs) (d + 3) (mk I X) Q) (k4 : ((0 : Int32) ≤ x ∧ x ≤ 4) → (¬ (((sl s (kx x)).1) = 0)) → (¬ (((sl s (kx x)).1) = 3)) → am_WP (am_psh g (some (.inl ((-1000000012)))) :: gs) (d + 3) (mk I X) Q) : am_WP (am_entry mX7_rest [.inr (.inr (some (7, 0))), .inl (x), .inl (n)] :: g :: gs) (d + 2) (mk I X) Q := by
  have hn : I 1 0 3 = nI (nb s) := h.1.1.1
  have hn8 : nb s ≤ 8 := G.1.1.1
  refine am_go 400 ?_
  refine (c_X7_isSlot (x := x)) _ _ _ ?_
  refine am_go 400 ?_
  refine am_if (fun h1 => ?_) (fun h1 => ?_)
  · have h1 := bI_0.mp h1
    exact k0 h1
  · have h1 := bI_1.mp h1
    obtain ⟨e_x, l_x⟩ := okl (m := 4) (by decide) h1
    have t_x : (sl s (kx x)).1 ≤ 3 := (G.2.2.2.1 (kx x) (by omega)).1
    have z_x : (sl s (kx x)).2.2.2.1 ≤ 24 := (G.2.2.2.1 (kx x) (by omega)).2.1
    refine am_f (ix_in (n := (kx x)) (N := 5) e_x (by omega) (by decide)) ?_
    refine am_if (fun h2 => ?_) (fun h2 => ?_)
    · have nh2 := (eq_nat (a := ((sl s (kx x)).1)) (b := 0) (h.2.2.2.1 (kx x) (by omega)).1 (rfl : (0 : Int32) = nI 0) (by omega) (by omega)).mp h2
      exact k1 h1 nh2
    · have nh2 := mt (eq_nat (a := ((sl s (kx x)).1)) (b := 0) (h.2.2.2.1 (kx x) (by omega)).1 (rfl : (0 : Int32) = nI 0) (by omega) (by omega)).mpr h2
      refine am_if (fun h3 => ?_) (fun h3 => ?_)
      · have nh3 := (eq_nat (a := ((sl s (kx x)).1)) (b := 3) (h.2.2.2.1 (kx x) (by omega)).1 (rfl : (3 : Int32) = nI 3) (by omega) (by omega)).mp h3
        refine am_if (fun h4 => ?_) (fun h4 => ?_)
        · exact k2 h1 nh2 nh3 h4
        · refine am_f (b0 h1 nh2 nh3 h4) ?_
          exact k3 h1 nh2 nh3 h4
      · have nh3 := mt (eq_nat (a := ((sl s (kx x)).1)) (b := 3) (h.2.2.2.1 (kx x) (by omega)).1 (rfl : (3 : Int32) = nI 3) (by omega) (by omega)).mpr h3
        exact k4 h1 nh2 nh3
theorem p_X7_rest {I X d s} (h : RC I X s) (G : GS s) (x n : Int32) : Sp mX7_rest [.inr (.inr (some (7, 0))), .inl (x), .inl (n)] (d + 2) I X (OC I X (f_rest s x n)) := fun g gs Q K => by
  have hn : I 1 0 3 = nI (nb s) := h.1.1.1
  have hn8 : nb s ≤ 8 := G.1.1.1
  have g8 : G8 s := G8_ G
  refine w_X7_rest h G (fun _ _ _ q => q) ?_ ?_ ?_ ?_ ?_
  · intro h0
    apply K_s K
    unfold f_rest
    rw [if_neg h0]
    exact ⟨rfl, h, FrC_r⟩
  · intro h0 h1
    obtain ⟨e_x, l_x⟩ := okl (m := 4) (by decide) h0
    have t_x : (sl s (kx x)).1 ≤ 3 := (G.2.2.2.1 (kx x) (by omega)).1
    have z_x : (sl s (kx x)).2.2.2.1 ≤ 24 := (G.2.2.2.1 (kx x) (by omega)).2.1
    apply K_s K
    unfold f_rest
    rw [if_pos h0, if_pos h1]
    exact ⟨rfl, h, FrC_r⟩
  · intro h0 h1 h2 h3
    obtain ⟨e_x, l_x⟩ := okl (m := 4) (by decide) h0
    have t_x : (sl s (kx x)).1 ≤ 3 := (G.2.2.2.1 (kx x) (by omega)).1
    have z_x : (sl s (kx x)).2.2.2.1 ≤ 24 := (G.2.2.2.1 (kx x) (by omega)).2.1
    apply K_s K
    unfold f_rest
    rw [if_pos h0, if_neg h1, if_pos h2, if_pos h3]
    exact ⟨rfl, h, FrC_r⟩
  · intro h0 h1 h2 h3
    obtain ⟨e_x, l_x⟩ := okl (m := 4) (by decide) h0
    have t_x : (sl s (kx x)).1 ≤ 3 := (G.2.2.2.1 (kx x) (by omega)).1
    have z_x : (sl s (kx x)).2.2.2.1 ≤ 24 := (G.2.2.2.1 (kx x) (by omega)).2.1
    apply K_s K
    unfold f_rest
    rw [if_pos h0, if_neg h1, if_pos h2, if_neg h3]
    exact ⟨by rw [(h.2.2.2.1 (kx x) (by omega)).2.2.2 h2], h, FrC_r⟩
  · intro h0 h1 h2
    obtain ⟨e_x, l_x⟩ := okl (m := 4) (by decide) h0
    have t_x : (sl s (kx x)).1 ≤ 3 := (G.2.2.2.1 (kx x) (by omega)).1
    have z_x : (sl s (kx x)).2.2.2.1 ≤ 24 := (G.2.2.2.1 (kx x) (by omega)).2.1
    apply K_s K
    unfold f_rest
    rw [if_pos h0, if_neg h1, if_neg h2]
    exact ⟨rfl, h, FrC_r⟩

set_option maxRecDepth 100000 in
set_option maxHeartbeats 4000000 in
theorem w_X8_rest {I : Nat → Nat → Nat → Int32} {X : am_Z} {g : am_F} {gs : List am_F} {d : Nat} {Q : Option am_V → am_M → Prop} {s : St} (h : RM I s) (G : GS s) {x n : Int32} (b0 : ((0 : Int32) ≤ x ∧ x ≤ 4) → (((sl s (kx x)).1) = 3) → (¬ n = 0) → ¬ n = 0) (k0 : (¬ ((0 : Int32) ≤ x ∧ x ≤ 4)) → am_WP (am_psh g (some (.inl ((-1000000001)))) :: gs) (d + 3) (mk I X) Q) (k1 : ((0 : Int32) ≤ x ∧ x ≤ 4) → (((sl s (kx x)).1) = 3) → (n = 0) → am_WP (am_psh g (some (.inl ((-1000000002)))) :: gs) (d + 3) (mk I X) Q) (k2 : ((0 : Int32) ≤ x ∧ x ≤ 4) → (((sl s (kx x)).1) = 3) → (¬ n = 0) → am_WP (am_psh g (some (.inl (((I 37 0 (kx x)) - (I 37 0 (kx x)) / n * n)))) :: gs) (d + 3) (mk I X) Q) (k3 : ((0 : Int32) ≤ x ∧ x ≤ 4) → (¬ (((sl s (kx x)).1) = 3)) → (((sl s (kx x)).1) = 0) → am_WP (am_psh g (some (.inl ((-1000000011)))) :: gs) (d + 3) (mk I X) Q) (k4 : ((0 : Int32) ≤ x ∧ x ≤ 4) → (¬ (((sl s (kx x)).1) = 3)) → (¬ (((sl s (kx x)).1) = 0)) → am_WP (am_psh g (some (.inl ((-1000000012)))) :: gs) (d + 3) (mk I X) Q) : am_WP (am_entry mX8_rest [.inr (.inr (some (8, 0))), .inl (x), .inl (n)] :: g :: gs) (d + 2) (mk I X) Q := by
  have hn : I 30 0 0 = nI (nb s) := h.1.1.1
  have hn8 : nb s ≤ 8 := G.1.1.1
  refine am_go 400 ?_
  refine (c_X8_isSlot (x := x)) _ _ _ ?_
  refine am_go 400 ?_
  refine am_if (fun h1 => ?_) (fun h1 => ?_)
  · have h1 := bI_0.mp h1
    exact k0 h1
  · have h1 := bI_1.mp h1
    obtain ⟨e_x, l_x⟩ := okl (m := 4) (by decide) h1
    have t_x : (sl s (kx x)).1 ≤ 3 := (G.2.2.2.1 (kx x) (by omega)).1
    have z_x : (sl s (kx x)).2.2.2.1 ≤ 24 := (G.2.2.2.1 (kx x) (by omega)).2.1
    refine am_f (ix_in (n := (kx x)) (N := 5) e_x (by omega) (by decide)) ?_
    refine am_if (fun h2 => ?_) (fun h2 => ?_)
    · have nh2 := (eq_nat (a := ((sl s (kx x)).1)) (b := 3) (h.2.2.2.1 (kx x) (by omega)).1 (rfl : (3 : Int32) = nI 3) (by omega) (by omega)).mp h2
      refine am_if (fun h3 => ?_) (fun h3 => ?_)
      · exact k1 h1 nh2 h3
      · refine am_f (ix_in (n := (kx x)) (N := 5) e_x (by omega) (by decide)) ?_
        refine am_f (b0 h1 nh2 h3) ?_
        exact k2 h1 nh2 h3
    · have nh2 := mt (eq_nat (a := ((sl s (kx x)).1)) (b := 3) (h.2.2.2.1 (kx x) (by omega)).1 (rfl : (3 : Int32) = nI 3) (by omega) (by omega)).mpr h2
      refine am_f (ix_in (n := (kx x)) (N := 5) e_x (by omega) (by decide)) ?_
      refine am_if (fun h4 => ?_) (fun h4 => ?_)
      · have nh4 := (eq_nat (a := ((sl s (kx x)).1)) (b := 0) (h.2.2.2.1 (kx x) (by omega)).1 (rfl : (0 : Int32) = nI 0) (by omega) (by omega)).mp h4
        exact k3 h1 nh2 nh4
      · have nh4 := mt (eq_nat (a := ((sl s (kx x)).1)) (b := 0) (h.2.2.2.1 (kx x) (by omega)).1 (rfl : (0 : Int32) = nI 0) (by omega) (by omega)).mpr h4
        exact k4 h1 nh2 nh4
theorem p_X8_rest {I X d s} (h : RM I s) (G : GS s) (x n : Int32) : Sp mX8_rest [.inr (.inr (some (8, 0))), .inl (x), .inl (n)] (d + 2) I X (OM I X (f_rest s x n)) := fun g gs Q K => by
  have hn : I 30 0 0 = nI (nb s) := h.1.1.1
  have hn8 : nb s ≤ 8 := G.1.1.1
  have g8 : G8 s := G8_ G
  refine w_X8_rest h G (fun _ _ q => q) ?_ ?_ ?_ ?_ ?_
  · intro h0
    apply K_s K
    unfold f_rest
    rw [if_neg h0]
    exact ⟨rfl, h, ⟨FrM_r, rfl⟩⟩
  · intro h0 h1 h2
    obtain ⟨e_x, l_x⟩ := okl (m := 4) (by decide) h0
    have t_x : (sl s (kx x)).1 ≤ 3 := (G.2.2.2.1 (kx x) (by omega)).1
    have z_x : (sl s (kx x)).2.2.2.1 ≤ 24 := (G.2.2.2.1 (kx x) (by omega)).2.1
    apply K_s K
    unfold f_rest
    rw [if_pos h0, if_neg (by omega), if_pos h1, if_pos h2]
    exact ⟨rfl, h, ⟨FrM_r, rfl⟩⟩
  · intro h0 h1 h2
    obtain ⟨e_x, l_x⟩ := okl (m := 4) (by decide) h0
    have t_x : (sl s (kx x)).1 ≤ 3 := (G.2.2.2.1 (kx x) (by omega)).1
    have z_x : (sl s (kx x)).2.2.2.1 ≤ 24 := (G.2.2.2.1 (kx x) (by omega)).2.1
    apply K_s K
    unfold f_rest
    rw [if_pos h0, if_neg (by omega), if_pos h1, if_neg h2]
    exact ⟨by rw [(h.2.2.2.1 (kx x) (by omega)).2.2.2 h1], h, ⟨FrM_r, rfl⟩⟩
  · intro h0 h1 h2
    obtain ⟨e_x, l_x⟩ := okl (m := 4) (by decide) h0
    have t_x : (sl s (kx x)).1 ≤ 3 := (G.2.2.2.1 (kx x) (by omega)).1
    have z_x : (sl s (kx x)).2.2.2.1 ≤ 24 := (G.2.2.2.1 (kx x) (by omega)).2.1
    apply K_s K
    unfold f_rest
    rw [if_pos h0, if_pos h2]
    exact ⟨rfl, h, ⟨FrM_r, rfl⟩⟩
  · intro h0 h1 h2
    obtain ⟨e_x, l_x⟩ := okl (m := 4) (by decide) h0
    have t_x : (sl s (kx x)).1 ≤ 3 := (G.2.2.2.1 (kx x) (by omega)).1
    have z_x : (sl s (kx x)).2.2.2.1 ≤ 24 := (G.2.2.2.1 (kx x) (by omega)).2.1
    apply K_s K
    unfold f_rest
    rw [if_pos h0, if_neg h2, if_neg h1]
    exact ⟨rfl, h, ⟨FrM_r, rfl⟩⟩

theorem okn {x y : Int32} {n : Nat} (hy : y = nI n) (hn : n < 2 ^ 31) (h : 0 ≤ x ∧ x ≤ y - 1) : x = nI (kx x) ∧ kx x < n := by
  cases n with
  | zero =>
    have h2 := h.2
    rw [hy] at h2
    exact absurd (Int32.le_trans h.1 h2) (by decide)
  | succ n =>
    have := okl (m := n) (by omega) ⟨h.1, by rw [hy] at h; have := h.2; rw [show nI (n + 1) - 1 = nI n from pk_sub (a := n + 1) (b := 1) (by omega)] at this; exact this⟩
    exact ⟨this.1, by omega⟩
def f_item (s : St) (x p : Int32) : Int32 × St := if 0 ≤ x ∧ x ≤ 4 then if (sl s (kx x)).1 = 0 then (cNOTH, s) else if (sl s (kx x)).1 = 2 then if 0 ≤ p ∧ p ≤ nI (sl s (kx x)).2.2.2.1 - 1 then if (sl s (kx x)).2.2.2.2 (kx p) = cNONE then (cKIND, s) else ((sl s (kx x)).2.2.2.2 (kx p), s) else (cINDEX, s) else (cKIND, s) else (cBAD, s)
set_option maxRecDepth 100000 in
set_option maxHeartbeats 4000000 in
theorem w_X7_item {I : Nat → Nat → Nat → Int32} {X : am_Z} {g : am_F} {gs : List am_F} {d : Nat} {Q : Option am_V → am_M → Prop} {s : St} (h : RC I X s) (G : GS s) {x p : Int32} (k0 : (¬ ((0 : Int32) ≤ x ∧ x ≤ 4)) → am_WP (am_psh g (some (.inl ((-1000000001)))) :: gs) (d + 4) (mk I X) Q) (k1 : ((0 : Int32) ≤ x ∧ x ≤ 4) → (((sl s (kx x)).1) = 0) → am_WP (am_psh g (some (.inl ((-1000000011)))) :: gs) (d + 4) (mk I X) Q) (k2 : ((0 : Int32) ≤ x ∧ x ≤ 4) → (¬ (((sl s (kx x)).1) = 0)) → (((sl s (kx x)).1) = 2) → (¬ ((0 : Int32) ≤ p ∧ p ≤ ((I 4 ((kx x) + 4) 2) - 1))) → am_WP (am_psh g (some (.inl ((-1000000013)))) :: gs) (d + 4) (mk I X) Q) (k3 : ((0 : Int32) ≤ x ∧ x ≤ 4) → (¬ (((sl s (kx x)).1) = 0)) → (((sl s (kx x)).1) = 2) → ((0 : Int32) ≤ p ∧ p ≤ ((I 4 ((kx x) + 4) 2) - 1)) → ((I 25 ((kx x) + 4) (kx p)) = (-1000000005)) → am_WP (am_psh g (some (.inl ((-1000000012)))) :: gs) (d + 4) (mk I X) Q) (k4 : ((0 : Int32) ≤ x ∧ x ≤ 4) → (¬ (((sl s (kx x)).1) = 0)) → (((sl s (kx x)).1) = 2) → ((0 : Int32) ≤ p ∧ p ≤ ((I 4 ((kx x) + 4) 2) - 1)) → (¬ (I 25 ((kx x) + 4) (kx p)) = (-1000000005)) → am_WP (am_psh g (some (.inl ((I 25 ((kx x) + 4) (kx p))))) :: gs) (d + 4) (mk I X) Q) (k5 : ((0 : Int32) ≤ x ∧ x ≤ 4) → (¬ (((sl s (kx x)).1) = 0)) → (¬ (((sl s (kx x)).1) = 2)) → am_WP (am_psh g (some (.inl ((-1000000012)))) :: gs) (d + 4) (mk I X) Q) : am_WP (am_entry mX7_item [.inr (.inr (some (7, 0))), .inl (x), .inl (p)] :: g :: gs) (d + 3) (mk I X) Q := by
  have hn : I 1 0 3 = nI (nb s) := h.1.1.1
  have hn8 : nb s ≤ 8 := G.1.1.1
  refine am_go 400 ?_
  refine (c_X7_isSlot (x := x)) _ _ _ ?_
  refine am_go 400 ?_
  refine am_if (fun h1 => ?_) (fun h1 => ?_)
  · have h1 := bI_0.mp h1
    exact k0 h1
  · have h1 := bI_1.mp h1
    obtain ⟨e_x, l_x⟩ := okl (m := 4) (by decide) h1
    have t_x : (sl s (kx x)).1 ≤ 3 := (G.2.2.2.1 (kx x) (by omega)).1
    have z_x : (sl s (kx x)).2.2.2.1 ≤ 24 := (G.2.2.2.1 (kx x) (by omega)).2.1
    refine am_f (ix_in (n := (kx x)) (N := 5) e_x (by omega) (by decide)) ?_
    refine am_if (fun h2 => ?_) (fun h2 => ?_)
    · have nh2 := (eq_nat (a := ((sl s (kx x)).1)) (b := 0) (h.2.2.2.1 (kx x) (by omega)).1 (rfl : (0 : Int32) = nI 0) (by omega) (by omega)).mp h2
      exact k1 h1 nh2
    · have nh2 := mt (eq_nat (a := ((sl s (kx x)).1)) (b := 0) (h.2.2.2.1 (kx x) (by omega)).1 (rfl : (0 : Int32) = nI 0) (by omega) (by omega)).mpr h2
      refine am_if (fun h3 => ?_) (fun h3 => ?_)
      · have nh3 := (eq_nat (a := ((sl s (kx x)).1)) (b := 2) (h.2.2.2.1 (kx x) (by omega)).1 (rfl : (2 : Int32) = nI 2) (by omega) (by omega)).mp h3
        refine am_go 400 ?_
        refine (c_X7_within (p) (0) (((I 4 ((kx x) + 4) 2) - 1))) _ _ _ ?_
        refine am_go 400 ?_
        refine am_t bI_z ?_
        refine am_go 400 ?_
        refine am_if (fun h4 => ?_) (fun h4 => ?_)
        · have h4 := bI_0.mp h4
          exact k2 h1 nh2 nh3 h4
        · have h4 := bI_1.mp h4
          obtain ⟨e_p, l_p⟩ := okn ((slC h (k := kx x) (by omega)).2.2.1 (by assumption)).1 (by omega) h4
          refine am_go 400 ?_
          refine am_go 400 ?_
          refine (c_X7_within (p) (0) (((I 4 ((kx x) + 4) 2) - 1))) _ _ _ ?_
          refine am_go 400 ?_
          refine am_t bI_z ?_
          refine am_go 400 ?_
          refine am_f (bI_1.mpr h4) ?_
          refine am_f (ix_in (n := (kx p)) (N := 24) e_p (by omega) (by decide)) ?_
          refine am_if (fun h5 => ?_) (fun h5 => ?_)
          · refine am_go 400 ?_
            exact k3 h1 nh2 nh3 h4 h5
          · refine am_go 400 ?_
            refine am_f (ix_in (n := (kx p)) (N := 24) e_p (by omega) (by decide)) ?_
            exact k4 h1 nh2 nh3 h4 h5
      · have nh3 := mt (eq_nat (a := ((sl s (kx x)).1)) (b := 2) (h.2.2.2.1 (kx x) (by omega)).1 (rfl : (2 : Int32) = nI 2) (by omega) (by omega)).mpr h3
        exact k5 h1 nh2 nh3
theorem p_X7_item {I X d s} (h : RC I X s) (G : GS s) (x p : Int32) : Sp mX7_item [.inr (.inr (some (7, 0))), .inl (x), .inl (p)] (d + 3) I X (OC I X (f_item s x p)) := fun g gs Q K => by
  have hn : I 1 0 3 = nI (nb s) := h.1.1.1
  have hn8 : nb s ≤ 8 := G.1.1.1
  have g8 : G8 s := G8_ G
  refine w_X7_item h G  ?_ ?_ ?_ ?_ ?_ ?_
  · intro h0
    apply K_s K
    unfold f_item
    rw [if_neg h0]
    exact ⟨rfl, h, FrC_r⟩
  · intro h0 h1
    obtain ⟨e_x, l_x⟩ := okl (m := 4) (by decide) h0
    have t_x : (sl s (kx x)).1 ≤ 3 := (G.2.2.2.1 (kx x) (by omega)).1
    have z_x : (sl s (kx x)).2.2.2.1 ≤ 24 := (G.2.2.2.1 (kx x) (by omega)).2.1
    apply K_s K
    unfold f_item
    rw [if_pos h0, if_pos h1]
    exact ⟨rfl, h, FrC_r⟩
  · intro h0 h1 h2 h3
    obtain ⟨e_x, l_x⟩ := okl (m := 4) (by decide) h0
    have t_x : (sl s (kx x)).1 ≤ 3 := (G.2.2.2.1 (kx x) (by omega)).1
    have z_x : (sl s (kx x)).2.2.2.1 ≤ 24 := (G.2.2.2.1 (kx x) (by omega)).2.1
    have e2 : I 4 (kx x + 4) 2 = nI (sl s (kx x)).2.2.2.1 := ((slC h (k := kx x) (by omega)).2.2.1 h2).1
    rw [e2] at h3
    apply K_s K
    unfold f_item
    rw [if_pos h0, if_neg h1, if_pos h2, if_neg h3]
    exact ⟨rfl, h, FrC_r⟩
  · intro h0 h1 h2 h3 h4
    obtain ⟨e_x, l_x⟩ := okl (m := 4) (by decide) h0
    have t_x : (sl s (kx x)).1 ≤ 3 := (G.2.2.2.1 (kx x) (by omega)).1
    have z_x : (sl s (kx x)).2.2.2.1 ≤ 24 := (G.2.2.2.1 (kx x) (by omega)).2.1
    obtain ⟨e_p, l_p⟩ := okn ((slC h (k := kx x) (by omega)).2.2.1 (by assumption)).1 (by omega) h3
    have e2 : I 4 (kx x + 4) 2 = nI (sl s (kx x)).2.2.2.1 := ((slC h (k := kx x) (by omega)).2.2.1 h2).1
    rw [e2] at h3
    have e3 : I 25 (kx x + 4) (kx p) = (sl s (kx x)).2.2.2.2 (kx p) := ((slC h (k := kx x) (by omega)).2.2.1 h2).2 (kx p) (by omega)
    rw [e3] at h4
    apply K_s K
    unfold f_item
    rw [if_pos h0, if_neg h1, if_pos h2, if_pos h3, if_pos h4]
    exact ⟨rfl, h, FrC_r⟩
  · intro h0 h1 h2 h3 h4
    obtain ⟨e_x, l_x⟩ := okl (m := 4) (by decide) h0
    have t_x : (sl s (kx x)).1 ≤ 3 := (G.2.2.2.1 (kx x) (by omega)).1
    have z_x : (sl s (kx x)).2.2.2.1 ≤ 24 := (G.2.2.2.1 (kx x) (by omega)).2.1
    obtain ⟨e_p, l_p⟩ := okn ((slC h (k := kx x) (by omega)).2.2.1 (by assumption)).1 (by omega) h3
    have e2 : I 4 (kx x + 4) 2 = nI (sl s (kx x)).2.2.2.1 := ((slC h (k := kx x) (by omega)).2.2.1 h2).1
    rw [e2] at h3
    have e3 : I 25 (kx x + 4) (kx p) = (sl s (kx x)).2.2.2.2 (kx p) := ((slC h (k := kx x) (by omega)).2.2.1 h2).2 (kx p) (by omega)
    rw [e3] at h4
    apply K_s K
    unfold f_item
    rw [if_pos h0, if_neg h1, if_pos h2, if_pos h3, if_neg h4]
    exact ⟨e3, h, FrC_r⟩
  · intro h0 h1 h2
    obtain ⟨e_x, l_x⟩ := okl (m := 4) (by decide) h0
    have t_x : (sl s (kx x)).1 ≤ 3 := (G.2.2.2.1 (kx x) (by omega)).1
    have z_x : (sl s (kx x)).2.2.2.1 ≤ 24 := (G.2.2.2.1 (kx x) (by omega)).2.1
    apply K_s K
    unfold f_item
    rw [if_pos h0, if_neg h1, if_neg h2]
    exact ⟨rfl, h, FrC_r⟩

set_option maxRecDepth 100000 in
set_option maxHeartbeats 4000000 in
theorem w_X8_item {I : Nat → Nat → Nat → Int32} {X : am_Z} {g : am_F} {gs : List am_F} {d : Nat} {Q : Option am_V → am_M → Prop} {s : St} (h : RM I s) (G : GS s) {x p : Int32} (k0 : (¬ ((0 : Int32) ≤ x ∧ x ≤ 4)) → am_WP (am_psh g (some (.inl ((-1000000001)))) :: gs) (d + 3) (mk I X) Q) (k1 : ((0 : Int32) ≤ x ∧ x ≤ 4) → (((sl s (kx x)).1) = 2) → (¬ ((0 : Int32) ≤ p ∧ p ≤ ((I 39 0 (kx x)) - 1))) → am_WP (am_psh g (some (.inl ((-1000000013)))) :: gs) (d + 3) (mk I X) Q) (k2 : ((0 : Int32) ≤ x ∧ x ≤ 4) → (((sl s (kx x)).1) = 2) → ((0 : Int32) ≤ p ∧ p ≤ ((I 39 0 (kx x)) - 1)) → ((I 40 0 ((((24 * x) + p)).toNatClampNeg)) = (-1000000005)) → am_WP (am_psh g (some (.inl ((-1000000012)))) :: gs) (d + 3) (mk I X) Q) (k3 : ((0 : Int32) ≤ x ∧ x ≤ 4) → (((sl s (kx x)).1) = 2) → ((0 : Int32) ≤ p ∧ p ≤ ((I 39 0 (kx x)) - 1)) → (¬ (I 40 0 ((((24 * x) + p)).toNatClampNeg)) = (-1000000005)) → am_WP (am_psh g (some (.inl ((I 40 0 ((((24 * x) + p)).toNatClampNeg))))) :: gs) (d + 3) (mk I X) Q) (k4 : ((0 : Int32) ≤ x ∧ x ≤ 4) → (¬ (((sl s (kx x)).1) = 2)) → (((sl s (kx x)).1) = 0) → am_WP (am_psh g (some (.inl ((-1000000011)))) :: gs) (d + 3) (mk I X) Q) (k5 : ((0 : Int32) ≤ x ∧ x ≤ 4) → (¬ (((sl s (kx x)).1) = 2)) → (¬ (((sl s (kx x)).1) = 0)) → am_WP (am_psh g (some (.inl ((-1000000012)))) :: gs) (d + 3) (mk I X) Q) : am_WP (am_entry mX8_item [.inr (.inr (some (8, 0))), .inl (x), .inl (p)] :: g :: gs) (d + 2) (mk I X) Q := by
  have hn : I 30 0 0 = nI (nb s) := h.1.1.1
  have hn8 : nb s ≤ 8 := G.1.1.1
  refine am_go 400 ?_
  refine (c_X8_isSlot (x := x)) _ _ _ ?_
  refine am_go 400 ?_
  refine am_if (fun h1 => ?_) (fun h1 => ?_)
  · have h1 := bI_0.mp h1
    exact k0 h1
  · have h1 := bI_1.mp h1
    obtain ⟨e_x, l_x⟩ := okl (m := 4) (by decide) h1
    have t_x : (sl s (kx x)).1 ≤ 3 := (G.2.2.2.1 (kx x) (by omega)).1
    have z_x : (sl s (kx x)).2.2.2.1 ≤ 24 := (G.2.2.2.1 (kx x) (by omega)).2.1
    refine am_f (ix_in (n := (kx x)) (N := 5) e_x (by omega) (by decide)) ?_
    refine am_if (fun h2 => ?_) (fun h2 => ?_)
    · have nh2 := (eq_nat (a := ((sl s (kx x)).1)) (b := 2) (h.2.2.2.1 (kx x) (by omega)).1 (rfl : (2 : Int32) = nI 2) (by omega) (by omega)).mp h2
      refine am_f (ix_in (n := (kx x)) (N := 5) e_x (by omega) (by decide)) ?_
      refine (m_isIn (p) (0) (((I 39 0 (kx x)) - 1)) _ _) _ _ _ ?_
      refine am_go 400 ?_
      refine am_if (fun h3 => ?_) (fun h3 => ?_)
      · have h3 := bI_0.mp h3
        exact k1 h1 nh2 h3
      · have h3 := bI_1.mp h3
        obtain ⟨e_p, l_p⟩ := okn ((slM h (k := kx x) (by omega)).2.2.1 (by assumption)).1 (by omega) h3
        refine am_f (ix_in (n := ((24 * (kx x)) + (kx p))) (N := 120) (nI_addE (nI_mulE (rfl : (24 : Int32) = nI 24) e_x) e_p) (by omega) (by decide)) ?_
        refine am_if (fun h4 => ?_) (fun h4 => ?_)
        · exact k2 h1 nh2 h3 h4
        · exact k3 h1 nh2 h3 h4
    · have nh2 := mt (eq_nat (a := ((sl s (kx x)).1)) (b := 2) (h.2.2.2.1 (kx x) (by omega)).1 (rfl : (2 : Int32) = nI 2) (by omega) (by omega)).mpr h2
      refine am_f (ix_in (n := (kx x)) (N := 5) e_x (by omega) (by decide)) ?_
      refine am_if (fun h5 => ?_) (fun h5 => ?_)
      · have nh5 := (eq_nat (a := ((sl s (kx x)).1)) (b := 0) (h.2.2.2.1 (kx x) (by omega)).1 (rfl : (0 : Int32) = nI 0) (by omega) (by omega)).mp h5
        exact k4 h1 nh2 nh5
      · have nh5 := mt (eq_nat (a := ((sl s (kx x)).1)) (b := 0) (h.2.2.2.1 (kx x) (by omega)).1 (rfl : (0 : Int32) = nI 0) (by omega) (by omega)).mpr h5
        exact k5 h1 nh2 nh5
theorem p_X8_item {I X d s} (h : RM I s) (G : GS s) (x p : Int32) : Sp mX8_item [.inr (.inr (some (8, 0))), .inl (x), .inl (p)] (d + 2) I X (OM I X (f_item s x p)) := fun g gs Q K => by
  have hn : I 30 0 0 = nI (nb s) := h.1.1.1
  have hn8 : nb s ≤ 8 := G.1.1.1
  have g8 : G8 s := G8_ G
  refine w_X8_item h G  ?_ ?_ ?_ ?_ ?_ ?_
  · intro h0
    apply K_s K
    unfold f_item
    rw [if_neg h0]
    exact ⟨rfl, h, ⟨FrM_r, rfl⟩⟩
  · intro h0 h1 h2
    obtain ⟨e_x, l_x⟩ := okl (m := 4) (by decide) h0
    have t_x : (sl s (kx x)).1 ≤ 3 := (G.2.2.2.1 (kx x) (by omega)).1
    have z_x : (sl s (kx x)).2.2.2.1 ≤ 24 := (G.2.2.2.1 (kx x) (by omega)).2.1
    have e2 : I 39 0 (kx x) = nI (sl s (kx x)).2.2.2.1 := ((slM h (k := kx x) (by omega)).2.2.1 h1).1
    rw [e2] at h2
    apply K_s K
    unfold f_item
    rw [if_pos h0, if_neg (by omega), if_pos h1, if_neg h2]
    exact ⟨rfl, h, FrM_r, rfl⟩
  · intro h0 h1 h2 h3
    obtain ⟨e_x, l_x⟩ := okl (m := 4) (by decide) h0
    have t_x : (sl s (kx x)).1 ≤ 3 := (G.2.2.2.1 (kx x) (by omega)).1
    have z_x : (sl s (kx x)).2.2.2.1 ≤ 24 := (G.2.2.2.1 (kx x) (by omega)).2.1
    obtain ⟨e_p, l_p⟩ := okn ((slM h (k := kx x) (by omega)).2.2.1 (by assumption)).1 (by omega) h2
    have e2 : I 39 0 (kx x) = nI (sl s (kx x)).2.2.2.1 := ((slM h (k := kx x) (by omega)).2.2.1 h1).1
    rw [e2] at h2
    have ec : ((24 * x) + p).toNatClampNeg = 24 * kx x + kx p := ix_cl (n := 24 * kx x + kx p) (nI_addE (nI_mulE (rfl : (24 : Int32) = nI 24) e_x) e_p) (by omega)
    have e3 : I 40 0 (24 * kx x + kx p) = (sl s (kx x)).2.2.2.2 (kx p) := ((slM h (k := kx x) (by omega)).2.2.1 h1).2 (kx p) (by omega)
    rw [ec, e3] at h3
    apply K_s K
    unfold f_item
    rw [if_pos h0, if_neg (by omega), if_pos h1, if_pos h2, if_pos h3]
    exact ⟨rfl, h, FrM_r, rfl⟩
  · intro h0 h1 h2 h3
    obtain ⟨e_x, l_x⟩ := okl (m := 4) (by decide) h0
    have t_x : (sl s (kx x)).1 ≤ 3 := (G.2.2.2.1 (kx x) (by omega)).1
    have z_x : (sl s (kx x)).2.2.2.1 ≤ 24 := (G.2.2.2.1 (kx x) (by omega)).2.1
    obtain ⟨e_p, l_p⟩ := okn ((slM h (k := kx x) (by omega)).2.2.1 (by assumption)).1 (by omega) h2
    have e2 : I 39 0 (kx x) = nI (sl s (kx x)).2.2.2.1 := ((slM h (k := kx x) (by omega)).2.2.1 h1).1
    rw [e2] at h2
    have ec : ((24 * x) + p).toNatClampNeg = 24 * kx x + kx p := ix_cl (n := 24 * kx x + kx p) (nI_addE (nI_mulE (rfl : (24 : Int32) = nI 24) e_x) e_p) (by omega)
    have e3 : I 40 0 (24 * kx x + kx p) = (sl s (kx x)).2.2.2.2 (kx p) := ((slM h (k := kx x) (by omega)).2.2.1 h1).2 (kx p) (by omega)
    rw [ec, e3] at h3
    apply K_s K
    unfold f_item
    rw [if_pos h0, if_neg (by omega), if_pos h1, if_pos h2, if_neg h3]
    exact ⟨(by rw [ec]; exact e3), h, FrM_r, rfl⟩
  · intro h0 h1 h2
    obtain ⟨e_x, l_x⟩ := okl (m := 4) (by decide) h0
    have t_x : (sl s (kx x)).1 ≤ 3 := (G.2.2.2.1 (kx x) (by omega)).1
    have z_x : (sl s (kx x)).2.2.2.1 ≤ 24 := (G.2.2.2.1 (kx x) (by omega)).2.1
    apply K_s K
    unfold f_item
    rw [if_pos h0, if_pos h2]
    exact ⟨rfl, h, ⟨FrM_r, rfl⟩⟩
  · intro h0 h1 h2
    obtain ⟨e_x, l_x⟩ := okl (m := 4) (by decide) h0
    have t_x : (sl s (kx x)).1 ≤ 3 := (G.2.2.2.1 (kx x) (by omega)).1
    have z_x : (sl s (kx x)).2.2.2.1 ≤ 24 := (G.2.2.2.1 (kx x) (by omega)).2.1
    apply K_s K
    unfold f_item
    rw [if_pos h0, if_neg h2, if_neg h1]
    exact ⟨rfl, h, ⟨FrM_r, rfl⟩⟩

theorem kd5 {s : St} {k : Nat} (G : GS s) (hk : k < 5) (h : (sl s k).1 = 1) : (sl s k).2.1 = nI (kx (sl s k).2.1) ∧ kx (sl s k).2.1 ≤ 5 := by
  obtain ⟨a, ha, e⟩ := (G.2.2.2.1 k hk).2.2 h
  have e' : (sl s k).2.1 = nI a := e
  rw [e', show kx (nI a) = a from nI_clamp (by omega)]
  exact ⟨rfl, ha⟩
def f_ask (s : St) (x y : Int32) : Int32 × St := if 0 ≤ x ∧ x ≤ 4 then if 0 ≤ y ∧ y ≤ 5 then if (sl s (kx x)).1 = 0 then (cNOTH, s) else if (sl s (kx x)).1 = 1 then if isO (kx (sl s (kx x)).2.1) y then (wrS (sl s (kx x)).2.1 (sl s (kx x)).2.2.1, s) else (cKIND, s) else (cKIND, s) else (cBAD, s) else (cBAD, s)
set_option maxRecDepth 100000 in
set_option maxHeartbeats 4000000 in
theorem w_X7_ask {I : Nat → Nat → Nat → Int32} {X : am_Z} {g : am_F} {gs : List am_F} {d : Nat} {Q : Option am_V → am_M → Prop} {s : St} (h : RC I X s) (G : GS s) {x y : Int32} (k0 : (¬ ((0 : Int32) ≤ x ∧ x ≤ 4)) → am_WP (am_psh g (some (.inl ((-1000000001)))) :: gs) (d + 4) (mk I X) Q) (k1 : ((0 : Int32) ≤ x ∧ x ≤ 4) → (¬ ((0 : Int32) ≤ y ∧ y ≤ 5)) → am_WP (am_psh g (some (.inl ((-1000000001)))) :: gs) (d + 4) (mk I X) Q) (k2 : ((0 : Int32) ≤ x ∧ x ≤ 4) → ((0 : Int32) ≤ y ∧ y ≤ 5) → (((sl s (kx x)).1) = 0) → am_WP (am_psh g (some (.inl ((-1000000011)))) :: gs) (d + 4) (mk I X) Q) (k3 : ((0 : Int32) ≤ x ∧ x ≤ 4) → ((0 : Int32) ≤ y ∧ y ≤ 5) → (¬ (((sl s (kx x)).1) = 0)) → (((sl s (kx x)).1) = 1) → (¬ (isO (kx (sl s (kx x)).2.1) y)) → am_WP (am_psh g (some (.inl ((-1000000012)))) :: gs) (d + 4) (mk I X) Q) (k4 : ((0 : Int32) ≤ x ∧ x ≤ 4) → ((0 : Int32) ≤ y ∧ y ≤ 5) → (¬ (((sl s (kx x)).1) = 0)) → (((sl s (kx x)).1) = 1) → (isO (kx (sl s (kx x)).2.1) y) → am_WP (am_psh g (some (.inl ((wrS ((I 5 (kx x) 2)) ((I 5 (kx x) 3)))))) :: gs) (d + 4) (mk I X) Q) (k5 : ((0 : Int32) ≤ x ∧ x ≤ 4) → ((0 : Int32) ≤ y ∧ y ≤ 5) → (¬ (((sl s (kx x)).1) = 0)) → (¬ (((sl s (kx x)).1) = 1)) → am_WP (am_psh g (some (.inl ((-1000000012)))) :: gs) (d + 4) (mk I X) Q) : am_WP (am_entry mX7_ask [.inr (.inr (some (7, 0))), .inl (x), .inl (y)] :: g :: gs) (d + 3) (mk I X) Q := by
  have hn : I 1 0 3 = nI (nb s) := h.1.1.1
  have hn8 : nb s ≤ 8 := G.1.1.1
  refine am_go 400 ?_
  refine (c_X7_isSlot (x := x)) _ _ _ ?_
  refine am_go 400 ?_
  refine am_if (fun h1 => ?_) (fun h1 => ?_)
  · have h1 := bI_0.mp h1
    exact k0 h1
  · have h1 := bI_1.mp h1
    obtain ⟨e_x, l_x⟩ := okl (m := 4) (by decide) h1
    have t_x : (sl s (kx x)).1 ≤ 3 := (G.2.2.2.1 (kx x) (by omega)).1
    have z_x : (sl s (kx x)).2.2.2.1 ≤ 24 := (G.2.2.2.1 (kx x) (by omega)).2.1
    refine (c_X7_isKind (x := y)) _ _ _ ?_
    refine am_go 400 ?_
    refine am_if (fun h2 => ?_) (fun h2 => ?_)
    · have h2 := bI_0.mp h2
      exact k1 h1 h2
    · have h2 := bI_1.mp h2
      refine am_f (ix_in (n := (kx x)) (N := 5) e_x (by omega) (by decide)) ?_
      refine am_if (fun h3 => ?_) (fun h3 => ?_)
      · have nh3 := (eq_nat (a := ((sl s (kx x)).1)) (b := 0) (h.2.2.2.1 (kx x) (by omega)).1 (rfl : (0 : Int32) = nI 0) (by omega) (by omega)).mp h3
        exact k2 h1 h2 nh3
      · have nh3 := mt (eq_nat (a := ((sl s (kx x)).1)) (b := 0) (h.2.2.2.1 (kx x) (by omega)).1 (rfl : (0 : Int32) = nI 0) (by omega) (by omega)).mpr h3
        refine am_if (fun h4 => ?_) (fun h4 => ?_)
        · have nh4 := (eq_nat (a := ((sl s (kx x)).1)) (b := 1) (h.2.2.2.1 (kx x) (by omega)).1 (rfl : (1 : Int32) = nI 1) (by omega) (by omega)).mp h4
          have k_x := (kd5 G (k := kx x) (by omega) nh4).2
          refine (c_X7_isOf (k := (kx (sl s (kx x)).2.1)) (((slC h (k := kx x) (by omega)).2.1 (by assumption)).1.trans (kd5 G (k := kx x) (by omega) (by assumption)).1) (by omega) h2) _ _ _ ?_
          refine am_go 400 ?_
          refine am_if (fun h5 => ?_) (fun h5 => ?_)
          · have h5 := bI_0.mp h5
            exact k3 h1 h2 nh3 nh4 h5
          · have h5 := bI_1.mp h5
            refine (c_X7_worthOf ((I 5 (kx x) 2)) ((I 5 (kx x) 3))) _ _ _ ?_
            refine am_go 400 ?_
            exact k4 h1 h2 nh3 nh4 h5
        · have nh4 := mt (eq_nat (a := ((sl s (kx x)).1)) (b := 1) (h.2.2.2.1 (kx x) (by omega)).1 (rfl : (1 : Int32) = nI 1) (by omega) (by omega)).mpr h4
          exact k5 h1 h2 nh3 nh4
theorem p_X7_ask {I X d s} (h : RC I X s) (G : GS s) (x y : Int32) : Sp mX7_ask [.inr (.inr (some (7, 0))), .inl (x), .inl (y)] (d + 3) I X (OC I X (f_ask s x y)) := fun g gs Q K => by
  have hn : I 1 0 3 = nI (nb s) := h.1.1.1
  have hn8 : nb s ≤ 8 := G.1.1.1
  have g8 : G8 s := G8_ G
  refine w_X7_ask h G  ?_ ?_ ?_ ?_ ?_ ?_
  · intro h0
    apply K_s K
    unfold f_ask
    rw [if_neg h0]
    exact ⟨rfl, h, FrC_r⟩
  · intro h0 h1
    obtain ⟨e_x, l_x⟩ := okl (m := 4) (by decide) h0
    have t_x : (sl s (kx x)).1 ≤ 3 := (G.2.2.2.1 (kx x) (by omega)).1
    have z_x : (sl s (kx x)).2.2.2.1 ≤ 24 := (G.2.2.2.1 (kx x) (by omega)).2.1
    apply K_s K
    unfold f_ask
    rw [if_pos h0, if_neg h1]
    exact ⟨rfl, h, FrC_r⟩
  · intro h0 h1 h2
    obtain ⟨e_x, l_x⟩ := okl (m := 4) (by decide) h0
    have t_x : (sl s (kx x)).1 ≤ 3 := (G.2.2.2.1 (kx x) (by omega)).1
    have z_x : (sl s (kx x)).2.2.2.1 ≤ 24 := (G.2.2.2.1 (kx x) (by omega)).2.1
    apply K_s K
    unfold f_ask
    rw [if_pos h0, if_pos h1, if_pos h2]
    exact ⟨rfl, h, FrC_r⟩
  · intro h0 h1 h2 h3 h4
    obtain ⟨e_x, l_x⟩ := okl (m := 4) (by decide) h0
    have t_x : (sl s (kx x)).1 ≤ 3 := (G.2.2.2.1 (kx x) (by omega)).1
    have z_x : (sl s (kx x)).2.2.2.1 ≤ 24 := (G.2.2.2.1 (kx x) (by omega)).2.1
    have k_x := (kd5 G (k := kx x) (by omega) h3).2
    apply K_s K
    unfold f_ask
    rw [if_pos h0, if_pos h1, if_neg h2, if_pos h3, if_neg h4]
    exact ⟨rfl, h, FrC_r⟩
  · intro h0 h1 h2 h3 h4
    obtain ⟨e_x, l_x⟩ := okl (m := 4) (by decide) h0
    have t_x : (sl s (kx x)).1 ≤ 3 := (G.2.2.2.1 (kx x) (by omega)).1
    have z_x : (sl s (kx x)).2.2.2.1 ≤ 24 := (G.2.2.2.1 (kx x) (by omega)).2.1
    have k_x := (kd5 G (k := kx x) (by omega) h3).2
    apply K_s K
    unfold f_ask
    rw [if_pos h0, if_pos h1, if_neg h2, if_pos h3, if_pos h4]
    exact ⟨by have q := (slC h (k := kx x) (by omega)).2.1 h3; exact congr (congrArg wrS q.1) q.2, h, FrC_r⟩
  · intro h0 h1 h2 h3
    obtain ⟨e_x, l_x⟩ := okl (m := 4) (by decide) h0
    have t_x : (sl s (kx x)).1 ≤ 3 := (G.2.2.2.1 (kx x) (by omega)).1
    have z_x : (sl s (kx x)).2.2.2.1 ≤ 24 := (G.2.2.2.1 (kx x) (by omega)).2.1
    apply K_s K
    unfold f_ask
    rw [if_pos h0, if_pos h1, if_neg h2, if_neg h3]
    exact ⟨rfl, h, FrC_r⟩

set_option maxRecDepth 100000 in
set_option maxHeartbeats 4000000 in
theorem w_X8_ask {I : Nat → Nat → Nat → Int32} {X : am_Z} {g : am_F} {gs : List am_F} {d : Nat} {Q : Option am_V → am_M → Prop} {s : St} (h : RM I s) (G : GS s) {x y : Int32} (k0 : (¬ ((0 : Int32) ≤ x ∧ x ≤ 4)) → am_WP (am_psh g (some (.inl ((-1000000001)))) :: gs) (d + 3) (mk I X) Q) (k1 : ((0 : Int32) ≤ x ∧ x ≤ 4) → (¬ ((0 : Int32) ≤ y ∧ y ≤ 5)) → am_WP (am_psh g (some (.inl ((-1000000001)))) :: gs) (d + 3) (mk I X) Q) (k2 : ((0 : Int32) ≤ x ∧ x ≤ 4) → ((0 : Int32) ≤ y ∧ y ≤ 5) → (((sl s (kx x)).1) = 0) → am_WP (am_psh g (some (.inl ((-1000000011)))) :: gs) (d + 3) (mk I X) Q) (k3 : ((0 : Int32) ≤ x ∧ x ≤ 4) → ((0 : Int32) ≤ y ∧ y ≤ 5) → (¬ (((sl s (kx x)).1) = 0)) → (((sl s (kx x)).1) = 1) → (¬ (isO (kx (sl s (kx x)).2.1) y)) → am_WP (am_psh g (some (.inl ((-1000000012)))) :: gs) (d + 3) (mk I X) Q) (k4 : ((0 : Int32) ≤ x ∧ x ≤ 4) → ((0 : Int32) ≤ y ∧ y ≤ 5) → (¬ (((sl s (kx x)).1) = 0)) → (((sl s (kx x)).1) = 1) → (isO (kx (sl s (kx x)).2.1) y) → am_WP (am_psh g (some (.inl ((I 38 0 (kx x))))) :: gs) (d + 3) (mk I X) Q) (k5 : ((0 : Int32) ≤ x ∧ x ≤ 4) → ((0 : Int32) ≤ y ∧ y ≤ 5) → (¬ (((sl s (kx x)).1) = 0)) → (¬ (((sl s (kx x)).1) = 1)) → am_WP (am_psh g (some (.inl ((-1000000012)))) :: gs) (d + 3) (mk I X) Q) : am_WP (am_entry mX8_ask [.inr (.inr (some (8, 0))), .inl (x), .inl (y)] :: g :: gs) (d + 2) (mk I X) Q := by
  have hn : I 30 0 0 = nI (nb s) := h.1.1.1
  have hn8 : nb s ≤ 8 := G.1.1.1
  refine am_go 400 ?_
  refine (c_X8_isSlot (x := x)) _ _ _ ?_
  refine am_go 400 ?_
  refine am_if (fun h1 => ?_) (fun h1 => ?_)
  · have h1 := bI_0.mp h1
    exact k0 h1
  · have h1 := bI_1.mp h1
    obtain ⟨e_x, l_x⟩ := okl (m := 4) (by decide) h1
    have t_x : (sl s (kx x)).1 ≤ 3 := (G.2.2.2.1 (kx x) (by omega)).1
    have z_x : (sl s (kx x)).2.2.2.1 ≤ 24 := (G.2.2.2.1 (kx x) (by omega)).2.1
    refine (m_isIn (y) (0) (5) _ _) _ _ _ ?_
    refine am_go 400 ?_
    refine am_if (fun h2 => ?_) (fun h2 => ?_)
    · have h2 := bI_0.mp h2
      exact k1 h1 h2
    · have h2 := bI_1.mp h2
      refine am_f (ix_in (n := (kx x)) (N := 5) e_x (by omega) (by decide)) ?_
      refine am_if (fun h3 => ?_) (fun h3 => ?_)
      · have nh3 := (eq_nat (a := ((sl s (kx x)).1)) (b := 0) (h.2.2.2.1 (kx x) (by omega)).1 (rfl : (0 : Int32) = nI 0) (by omega) (by omega)).mp h3
        exact k2 h1 h2 nh3
      · have nh3 := mt (eq_nat (a := ((sl s (kx x)).1)) (b := 0) (h.2.2.2.1 (kx x) (by omega)).1 (rfl : (0 : Int32) = nI 0) (by omega) (by omega)).mpr h3
        refine am_f (ix_in (n := (kx x)) (N := 5) e_x (by omega) (by decide)) ?_
        refine am_if (fun h4 => ?_) (fun h4 => ?_)
        · have nh4 := (eq_nat (a := ((sl s (kx x)).1)) (b := 1) (h.2.2.2.1 (kx x) (by omega)).1 (rfl : (1 : Int32) = nI 1) (by omega) (by omega)).mp h4
          have k_x := (kd5 G (k := kx x) (by omega) nh4).2
          refine am_f (ix_in (n := (kx x)) (N := 5) e_x (by omega) (by decide)) ?_
          refine (c_X8_isOf (k := (kx (sl s (kx x)).2.1)) (((slM h (k := kx x) (by omega)).2.1 (by assumption)).1.trans (kd5 G (k := kx x) (by omega) (by assumption)).1) (by omega)) _ _ _ ?_
          refine am_go 400 ?_
          refine am_if (fun h5 => ?_) (fun h5 => ?_)
          · have h5 := bI_0.mp h5
            exact k3 h1 h2 nh3 nh4 h5
          · have h5 := bI_1.mp h5
            refine am_f (ix_in (n := (kx x)) (N := 5) e_x (by omega) (by decide)) ?_
            exact k4 h1 h2 nh3 nh4 h5
        · have nh4 := mt (eq_nat (a := ((sl s (kx x)).1)) (b := 1) (h.2.2.2.1 (kx x) (by omega)).1 (rfl : (1 : Int32) = nI 1) (by omega) (by omega)).mpr h4
          exact k5 h1 h2 nh3 nh4
theorem p_X8_ask {I X d s} (h : RM I s) (G : GS s) (x y : Int32) : Sp mX8_ask [.inr (.inr (some (8, 0))), .inl (x), .inl (y)] (d + 2) I X (OM I X (f_ask s x y)) := fun g gs Q K => by
  have hn : I 30 0 0 = nI (nb s) := h.1.1.1
  have hn8 : nb s ≤ 8 := G.1.1.1
  have g8 : G8 s := G8_ G
  refine w_X8_ask h G  ?_ ?_ ?_ ?_ ?_ ?_
  · intro h0
    apply K_s K
    unfold f_ask
    rw [if_neg h0]
    exact ⟨rfl, h, ⟨FrM_r, rfl⟩⟩
  · intro h0 h1
    obtain ⟨e_x, l_x⟩ := okl (m := 4) (by decide) h0
    have t_x : (sl s (kx x)).1 ≤ 3 := (G.2.2.2.1 (kx x) (by omega)).1
    have z_x : (sl s (kx x)).2.2.2.1 ≤ 24 := (G.2.2.2.1 (kx x) (by omega)).2.1
    apply K_s K
    unfold f_ask
    rw [if_pos h0, if_neg h1]
    exact ⟨rfl, h, ⟨FrM_r, rfl⟩⟩
  · intro h0 h1 h2
    obtain ⟨e_x, l_x⟩ := okl (m := 4) (by decide) h0
    have t_x : (sl s (kx x)).1 ≤ 3 := (G.2.2.2.1 (kx x) (by omega)).1
    have z_x : (sl s (kx x)).2.2.2.1 ≤ 24 := (G.2.2.2.1 (kx x) (by omega)).2.1
    apply K_s K
    unfold f_ask
    rw [if_pos h0, if_pos h1, if_pos h2]
    exact ⟨rfl, h, ⟨FrM_r, rfl⟩⟩
  · intro h0 h1 h2 h3 h4
    obtain ⟨e_x, l_x⟩ := okl (m := 4) (by decide) h0
    have t_x : (sl s (kx x)).1 ≤ 3 := (G.2.2.2.1 (kx x) (by omega)).1
    have z_x : (sl s (kx x)).2.2.2.1 ≤ 24 := (G.2.2.2.1 (kx x) (by omega)).2.1
    have k_x := (kd5 G (k := kx x) (by omega) h3).2
    apply K_s K
    unfold f_ask
    rw [if_pos h0, if_pos h1, if_neg h2, if_pos h3, if_neg h4]
    exact ⟨rfl, h, ⟨FrM_r, rfl⟩⟩
  · intro h0 h1 h2 h3 h4
    obtain ⟨e_x, l_x⟩ := okl (m := 4) (by decide) h0
    have t_x : (sl s (kx x)).1 ≤ 3 := (G.2.2.2.1 (kx x) (by omega)).1
    have z_x : (sl s (kx x)).2.2.2.1 ≤ 24 := (G.2.2.2.1 (kx x) (by omega)).2.1
    have k_x := (kd5 G (k := kx x) (by omega) h3).2
    apply K_s K
    unfold f_ask
    rw [if_pos h0, if_pos h1, if_neg h2, if_pos h3, if_pos h4]
    exact ⟨((slM h (k := kx x) (by omega)).2.1 h3).2, h, ⟨FrM_r, rfl⟩⟩
  · intro h0 h1 h2 h3
    obtain ⟨e_x, l_x⟩ := okl (m := 4) (by decide) h0
    have t_x : (sl s (kx x)).1 ≤ 3 := (G.2.2.2.1 (kx x) (by omega)).1
    have z_x : (sl s (kx x)).2.2.2.1 ≤ 24 := (G.2.2.2.1 (kx x) (by omega)).2.1
    apply K_s K
    unfold f_ask
    rw [if_pos h0, if_pos h1, if_neg h2, if_neg h3]
    exact ⟨rfl, h, ⟨FrM_r, rfl⟩⟩

