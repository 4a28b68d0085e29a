theorem c_X8_isOf {I X d} {k : Nat} {x y : Int32} (hx : x = nI k) (hk : k ≤ 5) : Rt mX8_isOf [.inl x, .inl y] d (mk I X) (some (.inl (bI (isO k y)))) (mk I X) := fun g gs Q K => by
  have q3 : x = 3 ↔ k = 3 := eqv 3 hx (by omega) (by decide)
  have q4 : x = 4 ↔ k = 4 := eqv 4 hx (by omega) (by decide)
  refine w_X8_isOf ?_ ?_ ?_ ?_ ?_ ?_ ?_ ?_ ?_
  · intro h0
    exact K_v (bI_t (p := isO k y) (by unfold isO; rw [← hx]; simp_all)) K
  · intro h0 h1
    exact K_v (bI_t (p := isO k y) (by unfold isO; rw [← hx]; simp_all)) K
  · intro h0 h1 h2 h3
    exact K_v (bI_t (p := isO k y) (by unfold isO; rw [← hx]; simp_all)) K
  · intro h0 h1 h2 h3 h4 h5
    exact K_v (bI_t (p := isO k y) (by unfold isO; rw [← hx]; simp_all)) K
  · intro h0 h1 h2 h3 h4 h5
    exact K_v (bI_f (p := isO k y) (by unfold isO; rw [← hx]; simp_all)) K
  · intro h0 h1 h2 h3 h4
    exact K_v (bI_f (p := isO k y) (by unfold isO; rw [← hx]; simp_all)) K
  · intro h0 h1 h2 h3 h4
    exact K_v (bI_t (p := isO k y) (by unfold isO; rw [← hx]; simp_all)) K
  · intro h0 h1 h2 h3 h4
    exact K_v (bI_f (p := isO k y) (by unfold isO; rw [← hx]; simp_all)) K
  · intro h0 h1 h2 h3
    exact K_v (bI_f (p := isO k y) (by unfold isO; rw [← hx]; simp_all)) K

def f_as (s : St) (x y : Int32) : Int32 × St := if isB s x then if 0 ≤ y ∧ y ≤ 5 then if isO ((bo s (kx x)).1 0) y then (nI ((bo s (kx x)).1 1), s) else (cKIND, s) else (cBAD, s) else (cBAD, s)
set_option maxRecDepth 100000 in
set_option maxHeartbeats 4000000 in
theorem w_X7_as {I : Nat → Nat → Nat → Int32} {X : am_Z} {g : am_F} {gs : List am_F} {d : Nat} {Q : Option am_V → am_M → Prop} {s : St} (h : RC I X s) (G : GS s) {x y : Int32} (k0 : (¬ ((0 : Int32) ≤ x ∧ x ≤ (I 1 0 3) - 1)) → am_WP (am_psh g (some (.inl ((-1000000001)))) :: gs) (d + 4) (mk I X) Q) (k1 : ((0 : Int32) ≤ x ∧ x ≤ (I 1 0 3) - 1) → (¬ ((0 : Int32) ≤ y ∧ y ≤ 5)) → am_WP (am_psh g (some (.inl ((-1000000001)))) :: gs) (d + 4) (mk I X) Q) (k2 : ((0 : Int32) ≤ x ∧ x ≤ (I 1 0 3) - 1) → ((0 : Int32) ≤ y ∧ y ≤ 5) → (¬ (isO ((bo s (kx x)).1 0) y)) → am_WP (am_psh g (some (.inl ((-1000000012)))) :: gs) (d + 4) (mk I X) Q) (k3 : ((0 : Int32) ≤ x ∧ x ≤ (I 1 0 3) - 1) → ((0 : Int32) ≤ y ∧ y ≤ 5) → (isO ((bo s (kx x)).1 0) y) → am_WP (am_psh g (some (.inl ((I 0 (kx x) 3)))) :: gs) (d + 4) (mk I X) Q) : am_WP (am_entry mX7_as [.inr (.inr (some (7, 0))), .inl (x), .inl (y)] :: g :: gs) (d + 3) (mk I X) Q := by
  have hn : I 1 0 3 = nI (nb s) := h.1.1.1
  have hn8 : nb s ≤ 8 := G.1.1.1
  refine am_go 400 ?_
  refine (c_X7_isBottle (x := x)) _ _ _ ?_
  refine am_go 400 ?_
  refine am_if (fun h1 => ?_) (fun h1 => ?_)
  · have h1 := bI_0.mp h1
    exact k0 h1
  · have h1 := bI_1.mp h1
    obtain ⟨e_x, l_x⟩ := okb hn hn8 h1
    obtain ⟨g0_x, g1_x, g2_x, g3_x, g5_x, gs_x⟩ := id (GS_b G l_x)
    refine (c_X7_isKind (x := y)) _ _ _ ?_
    refine am_go 400 ?_
    refine am_if (fun h2 => ?_) (fun h2 => ?_)
    · have h2 := bI_0.mp h2
      exact k1 h1 h2
    · have h2 := bI_1.mp h2
      refine am_f (ix_in (n := (kx x)) (N := 8) e_x (by omega) (by decide)) ?_
      refine (c_X7_isOf (k := ((bo s (kx x)).1 0)) (vC0 (j := 0) h l_x (by omega)) (by omega) h2) _ _ _ ?_
      refine am_go 400 ?_
      refine am_if (fun h3 => ?_) (fun h3 => ?_)
      · have h3 := bI_0.mp h3
        exact k2 h1 h2 h3
      · have h3 := bI_1.mp h3
        exact k3 h1 h2 h3
theorem p_X7_as {I X d s} (h : RC I X s) (G : GS s) (x y : Int32) : Sp mX7_as [.inr (.inr (some (7, 0))), .inl (x), .inl (y)] (d + 3) I X (OC I X (f_as s x y)) := fun g gs Q K => by
  have hn : I 1 0 3 = nI (nb s) := h.1.1.1
  have hn8 : nb s ≤ 8 := G.1.1.1
  have g8 : G8 s := G8_ G
  refine w_X7_as h G  ?_ ?_ ?_ ?_
  · intro h0
    rw [hn] at h0
    apply K_s K
    unfold f_as
    rw [if_neg h0]
    exact ⟨rfl, h, FrC_r⟩
  · intro h0 h1
    rw [hn] at h0
    obtain ⟨e_x, l_x⟩ := okb rfl hn8 h0
    obtain ⟨g0_x, g1_x, g2_x, g3_x, g5_x, gs_x⟩ := id (GS_b G l_x)
    apply K_s K
    unfold f_as
    rw [if_pos h0, if_neg h1]
    exact ⟨rfl, h, FrC_r⟩
  · intro h0 h1 h2
    rw [hn] at h0
    obtain ⟨e_x, l_x⟩ := okb rfl hn8 h0
    obtain ⟨g0_x, g1_x, g2_x, g3_x, g5_x, gs_x⟩ := id (GS_b G l_x)
    apply K_s K
    unfold f_as
    rw [if_pos h0, if_pos h1, if_neg h2]
    exact ⟨rfl, h, FrC_r⟩
  · intro h0 h1 h2
    rw [hn] at h0
    obtain ⟨e_x, l_x⟩ := okb rfl hn8 h0
    obtain ⟨g0_x, g1_x, g2_x, g3_x, g5_x, gs_x⟩ := id (GS_b G l_x)
    apply K_s K
    unfold f_as
    rw [if_pos h0, if_pos h1, if_pos h2]
    exact ⟨vC0 (j := 1) h l_x (by omega), h, FrC_r⟩

set_option maxRecDepth 100000 in
set_option maxHeartbeats 4000000 in
theorem w_X8_as {I : Nat → Nat → Nat → Int32} {X : am_Z} {g : am_F} {gs : List am_F} {d : Nat} {Q : Option am_V → am_M → Prop} {s : St} (h : RM I s) (G : GS s) {x y : Int32} (k0 : (¬ ((0 : Int32) ≤ x ∧ x ≤ (I 30 0 0) - 1)) → am_WP (am_psh g (some (.inl ((-1000000001)))) :: gs) (d + 3) (mk I X) Q) (k1 : ((0 : Int32) ≤ x ∧ x ≤ (I 30 0 0) - 1) → (¬ ((0 : Int32) ≤ y ∧ y ≤ 5)) → am_WP (am_psh g (some (.inl ((-1000000001)))) :: gs) (d + 3) (mk I X) Q) (k2 : ((0 : Int32) ≤ x ∧ x ≤ (I 30 0 0) - 1) → ((0 : Int32) ≤ y ∧ y ≤ 5) → (¬ (isO ((bo s (kx x)).1 0) y)) → am_WP (am_psh g (some (.inl ((-1000000012)))) :: gs) (d + 3) (mk I X) Q) (k3 : ((0 : Int32) ≤ x ∧ x ≤ (I 30 0 0) - 1) → ((0 : Int32) ≤ y ∧ y ≤ 5) → (isO ((bo s (kx x)).1 0) y) → am_WP (am_psh g (some (.inl ((I 30 0 (6 + 18 * (kx x) + 1))))) :: gs) (d + 3) (mk I X) Q) : am_WP (am_entry mX8_as [.inr (.inr (some (8, 0))), .inl (x), .inl (y)] :: g :: gs) (d + 2) (mk I X) Q := by
  have hn : I 30 0 0 = nI (nb s) := h.1.1.1
  have hn8 : nb s ≤ 8 := G.1.1.1
  refine am_go 400 ?_
  refine (c_X8_isBottle (x := x)) _ _ _ ?_
  refine am_go 400 ?_
  refine am_if (fun h1 => ?_) (fun h1 => ?_)
  · have h1 := bI_0.mp h1
    exact k0 h1
  · have h1 := bI_1.mp h1
    obtain ⟨e_x, l_x⟩ := okb hn hn8 h1
    obtain ⟨g0_x, g1_x, g2_x, g3_x, g5_x, gs_x⟩ := id (GS_b G l_x)
    refine (m_isIn (y) (0) (5) _ _) _ _ _ ?_
    refine am_go 400 ?_
    refine am_if (fun h2 => ?_) (fun h2 => ?_)
    · have h2 := bI_0.mp h2
      exact k1 h1 h2
    · have h2 := bI_1.mp h2
      refine (c8_of (k := (kx x)) (j := 0) e_x rfl (by omega)) _ _ _ ?_
      refine am_go 400 ?_
      refine (c_X8_isOf (k := ((bo s (kx x)).1 0)) (vM0 (j := 0) h l_x (by omega)) (by omega)) _ _ _ ?_
      refine am_go 400 ?_
      refine am_if (fun h3 => ?_) (fun h3 => ?_)
      · have h3 := bI_0.mp h3
        exact k2 h1 h2 h3
      · have h3 := bI_1.mp h3
        refine (c8_of (k := (kx x)) (j := 1) e_x rfl (by omega)) _ _ _ ?_
        refine am_go 400 ?_
        exact k3 h1 h2 h3
theorem p_X8_as {I X d s} (h : RM I s) (G : GS s) (x y : Int32) : Sp mX8_as [.inr (.inr (some (8, 0))), .inl (x), .inl (y)] (d + 2) I X (OM I X (f_as s x y)) := fun g gs Q K => by
  have hn : I 30 0 0 = nI (nb s) := h.1.1.1
  have hn8 : nb s ≤ 8 := G.1.1.1
  have g8 : G8 s := G8_ G
  refine w_X8_as h G  ?_ ?_ ?_ ?_
  · intro h0
    rw [hn] at h0
    apply K_s K
    unfold f_as
    rw [if_neg h0]
    exact ⟨rfl, h, ⟨FrM_r, rfl⟩⟩
  · intro h0 h1
    rw [hn] at h0
    obtain ⟨e_x, l_x⟩ := okb rfl hn8 h0
    obtain ⟨g0_x, g1_x, g2_x, g3_x, g5_x, gs_x⟩ := id (GS_b G l_x)
    apply K_s K
    unfold f_as
    rw [if_pos h0, if_neg h1]
    exact ⟨rfl, h, ⟨FrM_r, rfl⟩⟩
  · intro h0 h1 h2
    rw [hn] at h0
    obtain ⟨e_x, l_x⟩ := okb rfl hn8 h0
    obtain ⟨g0_x, g1_x, g2_x, g3_x, g5_x, gs_x⟩ := id (GS_b G l_x)
    apply K_s K
    unfold f_as
    rw [if_pos h0, if_pos h1, if_neg h2]
    exact ⟨rfl, h, ⟨FrM_r, rfl⟩⟩
  · intro h0 h1 h2
    rw [hn] at h0
    obtain ⟨e_x, l_x⟩ := okb rfl hn8 h0
    obtain ⟨g0_x, g1_x, g2_x, g3_x, g5_x, gs_x⟩ := id (GS_b G l_x)
    apply K_s K
    unfold f_as
    rw [if_pos h0, if_pos h1, if_pos h2]
    exact ⟨vM0 (j := 1) h l_x (by omega), h, ⟨FrM_r, rfl⟩⟩

set_option maxRecDepth 100000 in
set_option maxHeartbeats 4000000 in
theorem w_X0_held {I : Nat → Nat → Nat → Int32} {X : am_Z} {g : am_F} {gs : List am_F} {d : Nat} {Q : Option am_V → am_M → Prop} {q : Nat} {β : Bn} (h : RB (cB I q) β) (hg : GB β) (k0 : am_WP ((mX0_held, 10, [some (.inr (.inr (some (0, q)))), some (.inl (0)), some (.inl ((6 - (I 0 q 5))))], []) :: g :: gs) (d + 1) (mk I X) Q) : am_WP (am_entry mX0_held [.inr (.inr (some (0, q)))] :: g :: gs) (d + 1) (mk I X) Q := by
  refine am_go 7 ?_
  exact k0
set_option maxRecDepth 100000 in
set_option maxHeartbeats 4000000 in
theorem w_X0_held_10 {I : Nat → Nat → Nat → Int32} {X : am_Z} {g : am_F} {gs : List am_F} {d : Nat} {Q : Option am_V → am_M → Prop} {q : Nat} {β : Bn} (h : RB (cB I q) β) (hg : GB β) {sm : Int32} {i : Nat} (hi : i ≤ 6) (k0 : (6 ≤ i) → am_WP (am_psh g (some (.inl (sm))) :: gs) (d + 2) (mk I X) Q) (k1 : (¬ (6 ≤ i)) → am_WP ((mX0_held, 10, [some (.inr (.inr (some (0, q)))), some (.inl ((sm + nI (grN β i)))), some (.inl ((nI i + 1)))], []) :: g :: gs) (d + 1) (mk I X) Q) : am_WP ((mX0_held, 10, [some (.inr (.inr (some (0, q)))), some (.inl (sm)), some (.inl (nI i))], []) :: g :: gs) (d + 1) (mk I X) Q := by
  refine am_go 400 ?_
  refine am_if (fun h1 => ?_) (fun h1 => ?_)
  · have nh1 := (le_nat (a := 6) (b := i) (rfl : (6 : Int32) = nI 6) (rfl : (nI i : Int32) = nI i) (by omega) (by omega)).mp h1
    exact k0 nh1
  · have nh1 := mt (le_nat (a := 6) (b := i) (rfl : (6 : Int32) = nI 6) (rfl : (nI i : Int32) = nI i) (by omega) (by omega)).mpr h1
    refine (c_X0_grips (q := q) (l := i) h hg (by omega)) _ _ _ ?_
    refine am_go 400 ?_
    exact k1 nh1
theorem l_X0_held {I X g gs d Q} {q : Nat} {β : Bn} (h : RB (cB I q) β) (hg : GB β) : ∀ (n i : Nat) (sm : Int32), i + n = 6 → am_WP (am_psh g (some (.inl (sm + nI (sumN (grN β) i n)))) :: gs) (d + 2) (mk I X) Q →
    am_WP ((mX0_held, 10, [some (.inr (.inr (some (0, q)))), some (.inl sm), some (.inl (nI i))], []) :: g :: gs) (d + 1) (mk I X) Q
  | 0, i, sm, hi, K => w_X0_held_10 h hg (by omega) (fun _ => K_v (by show sm + 0 = sm; simp) K) (fun hn => absurd hn (by omega))
  | n + 1, i, sm, hi, K => w_X0_held_10 h hg (by omega) (fun hn => absurd hn (by omega)) (fun _ => by
      rw [nI_s]
      exact l_X0_held h hg n (i + 1) _ (by omega) (K_v (by show sm + nI (grN β i + sumN (grN β) (i + 1) n) = _; rw [← nI_add, Int32.add_assoc]) K))
theorem c_X0_held {I X d} {q : Nat} {β : Bn} (h : RB (cB I q) β) (hg : GB β) : Rt mX0_held [.inr (.inr (some (0, q)))] (d + 1) (mk I X) (some (.inl (nI (gfN β (6 - β.1 3))))) (mk I X) := fun g gs Q K => by
  have e : 6 - I 0 q 5 = nI (6 - β.1 3) := nI_subE (rfl : (6 : Int32) = nI 6) (h 3 (by omega)).1 hg.2.2.2.1
  refine w_X0_held h hg ?_
  rw [e]
  exact l_X0_held h hg (6 - (6 - β.1 3)) (6 - β.1 3) 0 (by omega) (K_v (by show _ = 0 + nI (sumN _ _ _); simp [gfN]) K)
theorem cE_X8_gripsFrom {I X d} {x y : Int32} {k l : Nat} (hx : x = nI k) (hy : y = nI l) (hk : k < 8) (hl : l ≤ 6) : Rt mX8_gripsFrom [.inr (.inr (some (8, 0))), .inl x, .inl y] (d + 2) (mk I X) (some (.inl (gfS (mB (I 30 0) k) l))) (mk I X) := by subst hx; subst hy; exact c_X8_gripsFrom hk hl
theorem cE_X8_grips {I X d} {x y : Int32} {k l : Nat} (hx : x = nI k) (hy : y = nI l) (hk : k < 8) (hl : l < 6) : Rt mX8_grips [.inr (.inr (some (8, 0))), .inl x, .inl y] (d + 1) (mk I X) (some (.inl (grS (mB (I 30 0) k) l))) (mk I X) := by subst hx; subst hy; exact c_X8_grips hk hl
theorem cE_X8_worth {I X d} {x : Int32} {k : Nat} (hx : x = nI k) (hk : k < 8) : Rt mX8_worth [.inr (.inr (some (8, 0))), .inl x] (d + 1) (mk I X) (some (.inl (wrS ((mB (I 30 0) k).1 0) ((mB (I 30 0) k).1 1)))) (mk I X) := by subst hx; exact c_X8_worth hk
set_option maxRecDepth 100000 in
set_option maxHeartbeats 4000000 in
theorem w_X8_holds {I : Nat → Nat → Nat → Int32} {X : am_Z} {g : am_F} {gs : List am_F} {d : Nat} {Q : Option am_V → am_M → Prop} {k : Nat} {β : Bn} (h : RB (mB (I 30 0) k) β) (hg : GB β) (g3 : β.1 3 ≤ 6) (hk : k < 8) (k0 : am_WP (am_psh g (some (.inl ((gfS (mB (I 30 0) k) (6 - (β.1 3)))))) :: gs) (d + 4) (mk I X) Q) : am_WP (am_entry mX8_holds [.inr (.inr (some (8, 0))), .inl (nI k)] :: g :: gs) (d + 3) (mk I X) Q := by
  refine am_go 400 ?_
  refine (c8_of (k := k) (j := 3) rfl rfl (by omega)) _ _ _ ?_
  refine am_go 400 ?_
  refine (cE_X8_gripsFrom (k := k) (l := (6 - (β.1 3))) (rfl : (nI k : Int32) = nI k) (nI_subE (rfl : (6 : Int32) = nI 6) (h 3 (by omega)).1 (by omega)) (by omega) (by omega)) _ _ _ ?_
  refine am_go 400 ?_
  exact k0
theorem c_X8_holds {I X d} {x : Int32} {k : Nat} {β : Bn} (h : RB (mB (I 30 0) k) β) (hg : GB β) (hx : x = nI k) (hk : k < 8) : Rt mX8_holds [.inr (.inr (some (8, 0))), .inl x] (d + 3) (mk I X) (some (.inl (nI (gfN β (6 - β.1 3))))) (mk I X) := fun g gs Q K => by
  subst hx
  obtain ⟨g0, g1, g2, g3, g5, gs'⟩ := id hg
  exact w_X8_holds h hg g3 hk (K_v (gfS_N h hg _).symm K)
def f_told (s : St) (x w : Int32) : Int32 × St := if isB s x then if 0 ≤ w ∧ w ≤ 7 then if 6 ≤ w then if w = 6 then (nI (gfN (bo s (kx x)) (6 - (bo s (kx x)).1 3)), s) else (wrS (nI ((bo s (kx x)).1 0)) (nI ((bo s (kx x)).1 1)), s) else (nI ((bo s (kx x)).1 (kx w)), s) else (cBAD, s) else (cBAD, s)
theorem bC {I X s} {k : Nat} (h : RC I X s) (hk : k < nb s) : RB (cB I k) (bo s k) := h.1.1.2.2.2.2.2 k hk
theorem bM {I s} {k : Nat} (h : RM I s) (hk : k < nb s) : RB (mB (I 30 0) k) (bo s k) := h.1.1.2.2.2.2.2 k hk
theorem n07 {w : Int32} (h : 0 ≤ w ∧ w ≤ 7) : w = 0 ∨ w = 1 ∨ w = 2 ∨ w = 3 ∨ w = 4 ∨ w = 5 ∨ w = 6 ∨ w = 7 := by
  obtain ⟨e, l⟩ := okl (m := 7) (by decide) h
  rw [e]
  generalize kx w = k at l
  match k, l with
  | 0, _ => exact Or.inl rfl
  | 1, _ => exact Or.inr (Or.inl rfl)
  | 2, _ => exact Or.inr (Or.inr (Or.inl rfl))
  | 3, _ => exact Or.inr (Or.inr (Or.inr (Or.inl rfl)))
  | 4, _ => exact Or.inr (Or.inr (Or.inr (Or.inr (Or.inl rfl))))
  | 5, _ => exact Or.inr (Or.inr (Or.inr (Or.inr (Or.inr (Or.inl rfl)))))
  | 6, _ => exact Or.inr (Or.inr (Or.inr (Or.inr (Or.inr (Or.inr (Or.inl rfl))))))
  | 7, _ => exact Or.inr (Or.inr (Or.inr (Or.inr (Or.inr (Or.inr (Or.inr rfl))))))
set_option maxRecDepth 100000 in
set_option maxHeartbeats 4000000 in
theorem w_X7_told {I : Nat → Nat → Nat → Int32} {X : am_Z} {g : am_F} {gs : List am_F} {d : Nat} {Q : Option am_V → am_M → Prop} {s : St} (h : RC I X s) (G : GS s) {x w : Int32} (k0 : (¬ ((0 : Int32) ≤ x ∧ x ≤ (I 1 0 3) - 1)) → am_WP (am_psh g (some (.inl ((-1000000001)))) :: gs) (d + 3) (mk I X) Q) (k1 : ((0 : Int32) ≤ x ∧ x ≤ (I 1 0 3) - 1) → (w = 0) → am_WP (am_psh g (some (.inl ((I 0 (kx x) 2)))) :: gs) (d + 3) (mk I X) Q) (k2 : ((0 : Int32) ≤ x ∧ x ≤ (I 1 0 3) - 1) → (¬ w = 0) → (w = 1) → am_WP (am_psh g (some (.inl ((I 0 (kx x) 3)))) :: gs) (d + 3) (mk I X) Q) (k3 : ((0 : Int32) ≤ x ∧ x ≤ (I 1 0 3) - 1) → (¬ w = 0) → (¬ w = 1) → (w = 2) → am_WP (am_psh g (some (.inl ((I 0 (kx x) 4)))) :: gs) (d + 3) (mk I X) Q) (k4 : ((0 : Int32) ≤ x ∧ x ≤ (I 1 0 3) - 1) → (¬ w = 0) → (¬ w = 1) → (¬ w = 2) → (w = 3) → am_WP (am_psh g (some (.inl ((I 0 (kx x) 5)))) :: gs) (d + 3) (mk I X) Q) (k5 : ((0 : Int32) ≤ x ∧ x ≤ (I 1 0 3) - 1) → (¬ w = 0) → (¬ w = 1) → (¬ w = 2) → (¬ w = 3) → (w = 4) → am_WP (am_psh g (some (.inl ((I 0 (kx x) 6)))) :: gs) (d + 3) (mk I X) Q) (k6 : ((0 : Int32) ≤ x ∧ x ≤ (I 1 0 3) - 1) → (¬ w = 0) → (¬ w = 1) → (¬ w = 2) → (¬ w = 3) → (¬ w = 4) → (w = 5) → am_WP (am_psh g (some (.inl ((I 0 (kx x) 7)))) :: gs) (d + 3) (mk I X) Q) (k7 : ((0 : Int32) ≤ x ∧ x ≤ (I 1 0 3) - 1) → (¬ w = 0) → (¬ w = 1) → (¬ w = 2) → (¬ w = 3) → (¬ w = 4) → (¬ w = 5) → (w = 6) → am_WP (am_psh g (some (.inl (nI (gfN (bo s (kx x)) (6 - (bo s (kx x)).1 3))))) :: gs) (d + 3) (mk I X) Q) (k8 : ((0 : Int32) ≤ x ∧ x ≤ (I 1 0 3) - 1) → (¬ w = 0) → (¬ w = 1) → (¬ w = 2) → (¬ w = 3) → (¬ w = 4) → (¬ w = 5) → (¬ w = 6) → (w = 7) → am_WP (am_psh g (some (.inl ((wrS ((I 0 (kx x) 2)) ((I 0 (kx x) 3)))))) :: gs) (d + 3) (mk I X) Q) (k9 : ((0 : Int32) ≤ x ∧ x ≤ (I 1 0 3) - 1) → (¬ w = 0) → (¬ w = 1) → (¬ w = 2) → (¬ w = 3) → (¬ w = 4) → (¬ w = 5) → (¬ w = 6) → (¬ w = 7) → am_WP (am_psh g (some (.inl ((-1000000001)))) :: gs) (d + 3) (mk I X) Q) : am_WP (am_entry mX7_told [.inr (.inr (some (7, 0))), .inl (x), .inl (w)] :: g :: gs) (d + 2) (mk I X) Q := by
  have hn : I 1 0 3 = nI (nb s) := h.1.1.1
  have hn8 : nb s ≤ 8 := G.1.1.1
  refine am_go 400 ?_
  refine (c_X7_isBottle (x := x)) _ _ _ ?_
  refine am_go 400 ?_
  refine am_if (fun h1 => ?_) (fun h1 => ?_)
  · have h1 := bI_0.mp h1
    exact k0 h1
  · have h1 := bI_1.mp h1
    obtain ⟨e_x, l_x⟩ := okb hn hn8 h1
    obtain ⟨g0_x, g1_x, g2_x, g3_x, g5_x, gs_x⟩ := id (GS_b G l_x)
    refine am_f (ix_in (n := (kx x)) (N := 8) e_x (by omega) (by decide)) ?_
    refine am_if (fun h2 => ?_) (fun h2 => ?_)
    · exact k1 h1 h2
    refine am_if (fun h3 => ?_) (fun h3 => ?_)
    · exact k2 h1 h2 h3
    refine am_if (fun h4 => ?_) (fun h4 => ?_)
    · exact k3 h1 h2 h3 h4
    refine am_if (fun h5 => ?_) (fun h5 => ?_)
    · exact k4 h1 h2 h3 h4 h5
    refine am_if (fun h6 => ?_) (fun h6 => ?_)
    · exact k5 h1 h2 h3 h4 h5 h6
    refine am_if (fun h7 => ?_) (fun h7 => ?_)
    · exact k6 h1 h2 h3 h4 h5 h6 h7
    refine am_if (fun h8 => ?_) (fun h8 => ?_)
    · refine (c_X0_held (bC h l_x) (GS_b G l_x)) _ _ _ ?_
      refine am_go 400 ?_
      exact k7 h1 h2 h3 h4 h5 h6 h7 h8
    refine am_if (fun h9 => ?_) (fun h9 => ?_)
    · refine (c_X7_worthOf ((I 0 (kx x) 2)) ((I 0 (kx x) 3))) _ _ _ ?_
      refine am_go 400 ?_
      exact k8 h1 h2 h3 h4 h5 h6 h7 h8 h9
    exact k9 h1 h2 h3 h4 h5 h6 h7 h8 h9
theorem p_X7_told {I X d s} (h : RC I X s) (G : GS s) (x w : Int32) : Sp mX7_told [.inr (.inr (some (7, 0))), .inl (x), .inl (w)] (d + 2) I X (OC I X (f_told s x w)) := fun g gs Q K => by
  have hn : I 1 0 3 = nI (nb s) := h.1.1.1
  have hn8 : nb s ≤ 8 := G.1.1.1
  have g8 : G8 s := G8_ G
  refine w_X7_told h G  ?_ ?_ ?_ ?_ ?_ ?_ ?_ ?_ ?_ ?_
  · intro h0
    rw [hn] at h0
    apply K_s K
    unfold f_told
    rw [if_neg h0]
    exact ⟨rfl, h, FrC_r⟩
  · intro h0 h1
    rw [hn] at h0
    obtain ⟨e_x, l_x⟩ := okb rfl hn8 h0
    obtain ⟨g0_x, g1_x, g2_x, g3_x, g5_x, gs_x⟩ := id (GS_b G l_x)
    subst h1
    apply K_s K
    unfold f_told
    rw [if_pos h0, if_pos (by decide), if_neg (by decide)]
    exact ⟨vC0 (j := 0) h l_x (by omega), h, FrC_r⟩
  · intro h0 h1 h2
    rw [hn] at h0
    obtain ⟨e_x, l_x⟩ := okb rfl hn8 h0
    obtain ⟨g0_x, g1_x, g2_x, g3_x, g5_x, gs_x⟩ := id (GS_b G l_x)
    subst h2
    apply K_s K
    unfold f_told
    rw [if_pos h0, if_pos (by decide), if_neg (by decide)]
    exact ⟨vC0 (j := 1) h l_x (by omega), h, FrC_r⟩
  · intro h0 h1 h2 h3
    rw [hn] at h0
    obtain ⟨e_x, l_x⟩ := okb rfl hn8 h0
    obtain ⟨g0_x, g1_x, g2_x, g3_x, g5_x, gs_x⟩ := id (GS_b G l_x)
    subst h3
    apply K_s K
    unfold f_told
    rw [if_pos h0, if_pos (by decide), if_neg (by decide)]
    exact ⟨vC0 (j := 2) h l_x (by omega), h, FrC_r⟩
  · intro h0 h1 h2 h3 h4
    rw [hn] at h0
    obtain ⟨e_x, l_x⟩ := okb rfl hn8 h0
    obtain ⟨g0_x, g1_x, g2_x, g3_x, g5_x, gs_x⟩ := id (GS_b G l_x)
    subst h4
    apply K_s K
    unfold f_told
    rw [if_pos h0, if_pos (by decide), if_neg (by decide)]
    exact ⟨vC0 (j := 3) h l_x (by omega), h, FrC_r⟩
  · intro h0 h1 h2 h3 h4 h5
    rw [hn] at h0
    obtain ⟨e_x, l_x⟩ := okb rfl hn8 h0
    obtain ⟨g0_x, g1_x, g2_x, g3_x, g5_x, gs_x⟩ := id (GS_b G l_x)
    subst h5
    apply K_s K
    unfold f_told
    rw [if_pos h0, if_pos (by decide), if_neg (by decide)]
    exact ⟨vC0 (j := 4) h l_x (by omega), h, FrC_r⟩
  · intro h0 h1 h2 h3 h4 h5 h6
    rw [hn] at h0
    obtain ⟨e_x, l_x⟩ := okb rfl hn8 h0
    obtain ⟨g0_x, g1_x, g2_x, g3_x, g5_x, gs_x⟩ := id (GS_b G l_x)
    subst h6
    apply K_s K
    unfold f_told
    rw [if_pos h0, if_pos (by decide), if_neg (by decide)]
    exact ⟨vC0 (j := 5) h l_x (by omega), h, FrC_r⟩
  · intro h0 h1 h2 h3 h4 h5 h6 h7
    rw [hn] at h0
    obtain ⟨e_x, l_x⟩ := okb rfl hn8 h0
    obtain ⟨g0_x, g1_x, g2_x, g3_x, g5_x, gs_x⟩ := id (GS_b G l_x)
    subst h7
    apply K_s K
    unfold f_told
    rw [if_pos h0, if_pos (by decide), if_pos (by decide), if_pos rfl]
    exact ⟨rfl, h, FrC_r⟩
  · intro h0 h1 h2 h3 h4 h5 h6 h7 h8
    rw [hn] at h0
    obtain ⟨e_x, l_x⟩ := okb rfl hn8 h0
    obtain ⟨g0_x, g1_x, g2_x, g3_x, g5_x, gs_x⟩ := id (GS_b G l_x)
    subst h8
    apply K_s K
    unfold f_told
    rw [if_pos h0, if_pos (by decide), if_pos (by decide), if_neg (by decide)]
    exact ⟨by rw [vC0 (j := 0) h l_x (by omega), vC0 (j := 1) h l_x (by omega)], h, FrC_r⟩
  · intro h0 h1 h2 h3 h4 h5 h6 h7 h8
    rw [hn] at h0
    obtain ⟨e_x, l_x⟩ := okb rfl hn8 h0
    obtain ⟨g0_x, g1_x, g2_x, g3_x, g5_x, gs_x⟩ := id (GS_b G l_x)
    apply K_s K
    unfold f_told
    rw [if_pos h0, if_neg (fun z => by rcases n07 z with q | q | q | q | q | q | q | q <;> contradiction)]
    exact ⟨rfl, h, FrC_r⟩

set_option maxRecDepth 100000 in
set_option maxHeartbeats 4000000 in
theorem w_X8_told {I : Nat → Nat → Nat → Int32} {X : am_Z} {g : am_F} {gs : List am_F} {d : Nat} {Q : Option am_V → am_M → Prop} {s : St} (h : RM I s) (G : GS s) {x w : Int32} (k0 : (¬ ((0 : Int32) ≤ x ∧ x ≤ (I 30 0 0) - 1)) → am_WP (am_psh g (some (.inl ((-1000000001)))) :: gs) (d + 5) (mk I X) Q) (k1 : ((0 : Int32) ≤ x ∧ x ≤ (I 30 0 0) - 1) → (¬ ((0 : Int32) ≤ w ∧ w ≤ 7)) → am_WP (am_psh g (some (.inl ((-1000000001)))) :: gs) (d + 5) (mk I X) Q) (k2 : ((0 : Int32) ≤ x ∧ x ≤ (I 30 0 0) - 1) → ((0 : Int32) ≤ w ∧ w ≤ 7) → (6 ≤ w) → (w = 6) → am_WP (am_psh g (some (.inl (nI (gfN (bo s (kx x)) (6 - (bo s (kx x)).1 3))))) :: gs) (d + 5) (mk I X) Q) (k3 : ((0 : Int32) ≤ x ∧ x ≤ (I 30 0 0) - 1) → ((0 : Int32) ≤ w ∧ w ≤ 7) → (6 ≤ w) → (¬ w = 6) → am_WP (am_psh g (some (.inl ((wrS ((mB (I 30 0) (kx x)).1 0) ((mB (I 30 0) (kx x)).1 1))))) :: gs) (d + 5) (mk I X) Q) (k4 : ((0 : Int32) ≤ x ∧ x ≤ (I 30 0 0) - 1) → ((0 : Int32) ≤ w ∧ w ≤ 7) → (¬ 6 ≤ w) → am_WP (am_psh g (some (.inl ((I 30 0 (6 + 18 * (kx x) + (kx w)))))) :: gs) (d + 5) (mk I X) Q) : am_WP (am_entry mX8_told [.inr (.inr (some (8, 0))), .inl (x), .inl (w)] :: g :: gs) (d + 4) (mk I X) Q := by
  have hn : I 30 0 0 = nI (nb s) := h.1.1.1
  have hn8 : nb s ≤ 8 := G.1.1.1
  refine am_go 400 ?_
  refine (c_X8_isBottle (x := x)) _ _ _ ?_
  refine am_go 400 ?_
  refine am_if (fun h1 => ?_) (fun h1 => ?_)
  · have h1 := bI_0.mp h1
    exact k0 h1
  · have h1 := bI_1.mp h1
    obtain ⟨e_x, l_x⟩ := okb hn hn8 h1
    obtain ⟨g0_x, g1_x, g2_x, g3_x, g5_x, gs_x⟩ := id (GS_b G l_x)
    refine (m_isIn (w) (0) (7) _ _) _ _ _ ?_
    refine am_go 400 ?_
    refine am_if (fun h2 => ?_) (fun h2 => ?_)
    · have h2 := bI_0.mp h2
      exact k1 h1 h2
    · have h2 := bI_1.mp h2
      obtain ⟨e_w, l_w⟩ := okl (m := 7) (by decide) h2
      refine am_if (fun h3 => ?_) (fun h3 => ?_)
      · refine am_if (fun h4 => ?_) (fun h4 => ?_)
        · refine (c_X8_holds (bM h l_x) (GS_b G l_x) e_x (by omega)) _ _ _ ?_
          refine am_go 400 ?_
          exact k2 h1 h2 h3 h4
        · refine (cE_X8_worth (k := (kx x)) e_x (by omega)) _ _ _ ?_
          refine am_go 400 ?_
          exact k3 h1 h2 h3 h4
      · refine (c8_of (k := (kx x)) (j := (kx w)) e_x e_w (by omega)) _ _ _ ?_
        refine am_go 400 ?_
        exact k4 h1 h2 h3
theorem p_X8_told {I X d s} (h : RM I s) (G : GS s) (x w : Int32) : Sp mX8_told [.inr (.inr (some (8, 0))), .inl (x), .inl (w)] (d + 4) I X (OM I X (f_told s x w)) := fun g gs Q K => by
  have hn : I 30 0 0 = nI (nb s) := h.1.1.1
  have hn8 : nb s ≤ 8 := G.1.1.1
  have g8 : G8 s := G8_ G
  refine w_X8_told h G  ?_ ?_ ?_ ?_ ?_
  · intro h0
    rw [hn] at h0
    apply K_s K
    unfold f_told
    rw [if_neg h0]
    exact ⟨rfl, h, ⟨FrM_r, rfl⟩⟩
  · intro h0 h1
    rw [hn] at h0
    obtain ⟨e_x, l_x⟩ := okb rfl hn8 h0
    obtain ⟨g0_x, g1_x, g2_x, g3_x, g5_x, gs_x⟩ := id (GS_b G l_x)
    apply K_s K
    unfold f_told
    rw [if_pos h0, if_neg h1]
    exact ⟨rfl, h, ⟨FrM_r, rfl⟩⟩
  · intro h0 h1 h2 h3
    rw [hn] at h0
    obtain ⟨e_x, l_x⟩ := okb rfl hn8 h0
    obtain ⟨g0_x, g1_x, g2_x, g3_x, g5_x, gs_x⟩ := id (GS_b G l_x)
    obtain ⟨e_w, l_w⟩ := okl (m := 7) (by decide) h1
    apply K_s K
    unfold f_told
    rw [if_pos h0, if_pos h1, if_pos h2, if_pos h3]
    exact ⟨rfl, h, ⟨FrM_r, rfl⟩⟩
  · intro h0 h1 h2 h3
    rw [hn] at h0
    obtain ⟨e_x, l_x⟩ := okb rfl hn8 h0
    obtain ⟨g0_x, g1_x, g2_x, g3_x, g5_x, gs_x⟩ := id (GS_b G l_x)
    obtain ⟨e_w, l_w⟩ := okl (m := 7) (by decide) h1
    apply K_s K
    unfold f_told
    rw [if_pos h0, if_pos h1, if_pos h2, if_neg h3]
    exact ⟨by rw [(bM h l_x 0 (by omega)).1, (bM h l_x 1 (by omega)).1], h, ⟨FrM_r, rfl⟩⟩
  · intro h0 h1 h2
    rw [hn] at h0
    obtain ⟨e_x, l_x⟩ := okb rfl hn8 h0
    obtain ⟨g0_x, g1_x, g2_x, g3_x, g5_x, gs_x⟩ := id (GS_b G l_x)
    obtain ⟨e_w, l_w⟩ := okl (m := 7) (by decide) h1
    apply K_s K
    unfold f_told
    rw [if_pos h0, if_pos h1, if_neg h2]
    exact ⟨vM0 h l_x (by have := mt (le_nat (a := 6) (rfl : (6 : Int32) = nI 6) e_w (by decide) (by omega)).mpr h2; omega), h, ⟨FrM_r, rfl⟩⟩

