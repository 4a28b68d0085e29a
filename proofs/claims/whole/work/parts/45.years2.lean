/-! years -/
noncomputable def yrL : Nat → Cn → Nat → Nat × Cn
  | 0, σ, c => (c, σ)
  | n + 1, σ, c => if σ.2.1 0 < 9999 then yrL n (yearN σ) (c + bN (damp σ)) else (c, σ)
noncomputable def f_years (s : St) (x : Int32) : Int32 × St := if 1 ≤ x ∧ x ≤ 100 then (nI (yrL (kx x) s.1.1 0).1, (((yrL (kx x) s.1.1 0).2, s.1.2), s.2)) else (cBAD, s)
theorem year_y {σ : Cn} : (yearN σ).2.1 0 = σ.2.1 0 + 1 := by rw [yearN_n.2]; rfl
set_option maxRecDepth 100000 in
set_option maxHeartbeats 4000000 in
theorem w_X7_years_17 {I : Nat → Nat → Nat → Int32} {X : am_Z} {g : am_F} {gs : List am_F} {d : Nat} {Q : Option am_V → am_M → Prop} {n i c : Nat} {x : Int32} (hx : x = nI n) {σ : Cn} (hR : RepC I 0 σ) (hG : GD σ) (hy : σ.2.1 0 ≤ 9999) (hn : n ≤ 1000) (hi : i ≤ n) (k0 : (n ≤ i) → am_WP (am_psh g (some (.inl (nI c))) :: gs) (d + 3) (mk I X) Q) (k1 : (¬ (n ≤ i)) → (9999 ≤ (σ.2.1 0)) → am_WP (am_psh g (some (.inl (nI c))) :: gs) (d + 3) (mk I X) Q) (k2 : (¬ (n ≤ i)) → (¬ (9999 ≤ (σ.2.1 0))) → ∀ (I1 : Im), (RepC I1 0 (yearN σ) ∧ FrB 0 I I1) → (¬ (damp σ)) → am_WP ((mX7_years, 17, [some (.inr (.inr (some (7, 0)))), some (.inl (x)), some (.inl (nI c)), some (.inl ((nI (i + 1))))], []) :: g :: gs) (d + 2) (mk I1 X) Q) (k3 : (¬ (n ≤ i)) → (¬ (9999 ≤ (σ.2.1 0))) → ∀ (I1 : Im), (RepC I1 0 (yearN σ) ∧ FrB 0 I I1) → damp σ → am_WP ((mX7_years, 17, [some (.inr (.inr (some (7, 0)))), some (.inl (x)), some (.inl ((nI (c + 1)))), some (.inl ((nI (i + 1))))], []) :: g :: gs) (d + 2) (mk I1 X) Q) : am_WP ((mX7_years, 17, [some (.inr (.inr (some (7, 0)))), some (.inl (x)), some (.inl (nI c)), some (.inl (nI i))], []) :: g :: gs) (d + 2) (mk I X) Q := by
  refine am_go 400 ?_
  refine am_if (fun h1 => ?_) (fun h1 => ?_)
  · have nh1 := (le_nat (a := n) (b := i) hx (rfl : (nI i : Int32) = nI i) (by omega) (by omega)).mp h1
    exact k0 nh1
  · have nh1 := mt (le_nat (a := n) (b := i) hx (rfl : (nI i : Int32) = nI i) (by omega) (by omega)).mpr h1
    have tk0 : I 1 0 7 = nI (σ.2.1 0) := hR.2.1
    refine am_if (fun h2 => ?_) (fun h2 => ?_)
    · have nh2 := (le_nat (a := 9999) (b := (σ.2.1 0)) (rfl : (9999 : Int32) = nI 9999) tk0 (by omega) (by omega)).mp h2
      exact k1 nh1 nh2
    · have nh2 := mt (le_nat (a := 9999) (b := (σ.2.1 0)) (rfl : (9999 : Int32) = nI 9999) tk0 (by omega) (by omega)).mpr h2
      refine (c_X1_passYear (c := 0) hR hG (by omega)) _ _ _ ?_
      intro I1 p1
      refine am_go 400 ?_
      refine am_if (fun h3 => ?_) (fun h3 => ?_)
      · have h3 := bI_0.mp h3
        have tk1 : (nI i + 1) = nI (i + 1) := (nI_addE rfl (rfl : (1 : Int32) = nI 1))
        show am_WP ((mX7_years, 17, [some (.inr (.inr (some (7, 0)))), some (.inl (x)), some (.inl (nI c)), some (.inl (((nI i + 1))))], []) :: g :: gs) (d + 2) (mk I1 X) Q
        try rw [tk1]
        exact k2 nh1 nh2 I1 p1 h3
      · have h3 := bI_1.mp h3
        have tk2 : (nI c + 1) = nI (c + 1) := (nI_addE rfl (rfl : (1 : Int32) = nI 1))
        have tk3 : (nI i + 1) = nI (i + 1) := (nI_addE rfl (rfl : (1 : Int32) = nI 1))
        show am_WP ((mX7_years, 17, [some (.inr (.inr (some (7, 0)))), some (.inl (x)), some (.inl (((nI c + 1)))), some (.inl (((nI i + 1))))], []) :: g :: gs) (d + 2) (mk I1 X) Q
        try rw [tk3]
        try rw [tk2]
        exact k3 nh1 nh2 I1 p1 h3
set_option maxRecDepth 100000 in
set_option maxHeartbeats 4000000 in
theorem w_X8_years_19 {I : Nat → Nat → Nat → Int32} {X : am_Z} {g : am_F} {gs : List am_F} {d : Nat} {Q : Option am_V → am_M → Prop} {n i c : Nat} {x : Int32} (hx : x = nI n) {σ : Cn} (hR : RepM (I 30 0) σ) (hG : GD σ) (hy : σ.2.1 0 ≤ 9999) (hn : n ≤ 1000) (hi : i ≤ n) (k0 : (n ≤ i) → am_WP (am_psh g (some (.inl (nI c))) :: gs) (d + 4) (mk I X) Q) (k1 : (¬ (n ≤ i)) → (9999 ≤ (σ.2.1 0)) → am_WP (am_psh g (some (.inl (nI c))) :: gs) (d + 4) (mk I X) Q) (k2 : (¬ (n ≤ i)) → (¬ (9999 ≤ (σ.2.1 0))) → ∀ (I1 : Im), (RepM (I1 30 0) (yearN σ) ∧ FrY I I1) → am_WP ((mX8_years, 19, [some (.inr (.inr (some (8, 0)))), some (.inl (x)), some (.inl ((nI (c + (bN (damp σ)))))), some (.inl ((nI (i + 1))))], []) :: g :: gs) (d + 3) (mk I1 X) Q) : am_WP ((mX8_years, 19, [some (.inr (.inr (some (8, 0)))), some (.inl (x)), some (.inl (nI c)), some (.inl (nI i))], []) :: g :: gs) (d + 3) (mk I X) Q := by
  refine am_go 400 ?_
  refine am_if (fun h1 => ?_) (fun h1 => ?_)
  · have nh1 := (le_nat (a := n) (b := i) hx (rfl : (nI i : Int32) = nI i) (by omega) (by omega)).mp h1
    exact k0 nh1
  · have nh1 := mt (le_nat (a := n) (b := i) hx (rfl : (nI i : Int32) = nI i) (by omega) (by omega)).mpr h1
    have tk0 : I 30 0 2 = nI (σ.2.1 0) := hR.2.1
    refine am_if (fun h2 => ?_) (fun h2 => ?_)
    · have nh2 := (le_nat (a := 9999) (b := (σ.2.1 0)) (rfl : (9999 : Int32) = nI 9999) tk0 (by omega) (by omega)).mp h2
      exact k1 nh1 nh2
    · have nh2 := mt (le_nat (a := 9999) (b := (σ.2.1 0)) (rfl : (9999 : Int32) = nI 9999) tk0 (by omega) (by omega)).mpr h2
      refine (c_X8_goesOn hR hG) _ _ _ ?_
      intro I1 p1
      refine am_go 400 ?_
      have tk1 : (nI c + bI (damp σ)) = nI (c + (bN (damp σ))) := (nI_addE rfl (bI_N (p := damp σ)))
      have tk2 : (nI i + 1) = nI (i + 1) := (nI_addE rfl (rfl : (1 : Int32) = nI 1))
      show am_WP ((mX8_years, 19, [some (.inr (.inr (some (8, 0)))), some (.inl (x)), some (.inl (((nI c + bI (damp σ))))), some (.inl (((nI i + 1))))], []) :: g :: gs) (d + 3) (mk I1 X) Q
      try rw [tk1]
      try rw [tk2]
      exact k2 nh1 nh2 I1 p1
theorem l_X7_years {I0 : Im} {X g gs d Q} {n : Nat} {x : Int32} (hx : x = nI n) (hn : n ≤ 1000) : ∀ (m i c : Nat) (σ : Cn) (I : Im), RepC I 0 σ → GD σ → σ.2.1 0 ≤ 9999 → FrB 0 I0 I → i + m = n →
    (∀ I', RepC I' 0 (yrL m σ c).2 ∧ FrB 0 I0 I' → am_WP (am_psh g (some (.inl (nI (yrL m σ c).1))) :: gs) (d + 3) (mk I' X) Q) →
    am_WP ((mX7_years, 17, [some (.inr (.inr (some (7, 0)))), some (.inl x), some (.inl (nI c)), some (.inl (nI i))], []) :: g :: gs) (d + 2) (mk I X) Q
  | 0, i, c, σ, I, hR, hG, hy, F, hi, K => w_X7_years_17 hx hR hG hy hn (by omega) (fun _ => K _ ⟨hR, F⟩) (fun h => absurd (by omega) h) (fun h => absurd (by omega) h) (fun h => absurd (by omega) h)
  | m + 1, i, c, σ, I, hR, hG, hy, F, hi, K => by
    refine w_X7_years_17 hx hR hG hy hn (by omega) (fun h => absurd h (by omega)) ?_ ?_ ?_
    · intro _ h2
      have e : yrL (m + 1) σ c = (c, σ) := by rw [yrL, if_neg (by omega)]
      rw [e] at K
      exact K _ ⟨hR, F⟩
    · intro _ h2 I1 p1 h3
      have e : yrL (m + 1) σ c = yrL m (yearN σ) c := by rw [yrL, if_pos (by omega), show bN (damp σ) = 0 from if_neg h3, Nat.add_zero]
      rw [e] at K
      exact l_X7_years hx hn m (i + 1) c (yearN σ) I1 p1.1 (GD_year hG) (by rw [year_y]; omega) (FrB_t F p1.2) (by omega) K
    · intro _ h2 I1 p1 h3
      have e : yrL (m + 1) σ c = yrL m (yearN σ) (c + 1) := by rw [yrL, if_pos (by omega), show bN (damp σ) = 1 from if_pos h3]
      rw [e] at K
      exact l_X7_years hx hn m (i + 1) (c + 1) (yearN σ) I1 p1.1 (GD_year hG) (by rw [year_y]; omega) (FrB_t F p1.2) (by omega) K
theorem l_X8_years {I0 : Im} {X g gs d Q} {n : Nat} {x : Int32} (hx : x = nI n) (hn : n ≤ 1000) : ∀ (m i c : Nat) (σ : Cn) (I : Im), RepM (I 30 0) σ → GD σ → σ.2.1 0 ≤ 9999 → FrY I0 I → i + m = n →
    (∀ I', RepM (I' 30 0) (yrL m σ c).2 ∧ FrY I0 I' → am_WP (am_psh g (some (.inl (nI (yrL m σ c).1))) :: gs) (d + 4) (mk I' X) Q) →
    am_WP ((mX8_years, 19, [some (.inr (.inr (some (8, 0)))), some (.inl x), some (.inl (nI c)), some (.inl (nI i))], []) :: g :: gs) (d + 3) (mk I X) Q
  | 0, i, c, σ, I, hR, hG, hy, F, hi, K => w_X8_years_19 hx hR hG hy hn (by omega) (fun _ => K _ ⟨hR, F⟩) (fun h => absurd (by omega) h) (fun h => absurd (by omega) h)
  | m + 1, i, c, σ, I, hR, hG, hy, F, hi, K => by
    refine w_X8_years_19 hx hR hG hy hn (by omega) (fun h => absurd h (by omega)) ?_ ?_
    · intro _ h2
      have e : yrL (m + 1) σ c = (c, σ) := by rw [yrL, if_neg (by omega)]
      rw [e] at K
      exact K _ ⟨hR, F⟩
    · intro _ h2 I1 p1
      have e : yrL (m + 1) σ c = yrL m (yearN σ) (c + bN (damp σ)) := by rw [yrL, if_pos (by omega)]
      rw [e] at K
      exact l_X8_years hx hn m (i + 1) _ (yearN σ) I1 p1.1 (GD_year hG) (by rw [year_y]; omega) (FrY_t F p1.2) (by omega) K
set_option maxRecDepth 100000 in
set_option maxHeartbeats 4000000 in
theorem w_X7_years {I : Nat → Nat → Nat → Int32} {X : am_Z} {g : am_F} {gs : List am_F} {d : Nat} {Q : Option am_V → am_M → Prop} {s : St} (h : RC I X s) (G : GS s) {x : Int32} (k0 : (¬ ((1 : Int32) ≤ x ∧ x ≤ 100)) → am_WP (am_psh g (some (.inl ((-1000000001)))) :: gs) (d + 3) (mk I X) Q) (k1 : ((1 : Int32) ≤ x ∧ x ≤ 100) → am_WP ((mX7_years, 17, [some (.inr (.inr (some (7, 0)))), some (.inl (x)), some (.inl (0)), some (.inl (0))], []) :: g :: gs) (d + 2) (mk I X) Q) : am_WP (am_entry mX7_years [.inr (.inr (some (7, 0))), .inl (x)] :: g :: gs) (d + 2) (mk I X) Q := by
  have hn8 : nb s ≤ 8 := G.1.1.1
  refine am_go 400 ?_
  refine (c_X7_within (x) (1) (100)) _ _ _ ?_
  refine am_go 400 ?_
  refine am_if (fun h1 => ?_) (fun h1 => ?_)
  · have h1 := bI_0.mp h1
    exact k0 h1
  · have h1 := bI_1.mp h1
    obtain ⟨e_x, l_x⟩ := okr (lo := 1) (m := 100) (by decide) (by decide) h1
    refine am_cf rfl ?_
    refine am_cut ?_
    refine am_go 4 ?_
    exact k1 h1
theorem p_X7_years {I X d s} (h : RC I X s) (G : GS s) (x : Int32) : Sp mX7_years [.inr (.inr (some (7, 0))), .inl (x)] (d + 2) I X (OC I X (f_years s x)) := fun g gs Q K => by
  have hn8 : nb s ≤ 8 := G.1.1.1
  have g8 : G8 s := G8_ G
  refine w_X7_years h G  ?_ ?_
  · intro h0
    apply K_s K
    unfold f_years
    rw [if_neg h0]
    exact ⟨rfl, h, FrC_r⟩
  · intro h0
    obtain ⟨e_x, l_x⟩ := okr (lo := 1) (m := 100) (by decide) (by decide) h0
    refine l_X7_years e_x (by omega) (kx x) 0 0 s.1.1 I h.1.1 (GC_D G.1.1) G.1.2.1 FrB_r (Nat.zero_add _) ?_
    intro I1 p1
    apply K_s K
    unfold f_years
    rw [if_pos h0]
    exact ⟨rfl, RC_cel h g8 p1.2 p1.1, FrC_B p1.2⟩

set_option maxRecDepth 100000 in
set_option maxHeartbeats 4000000 in
theorem w_X8_years {I : Nat → Nat → Nat → Int32} {X : am_Z} {g : am_F} {gs : List am_F} {d : Nat} {Q : Option am_V → am_M → Prop} {s : St} (h : RM I s) (G : GS s) {x : Int32} (k0 : (¬ ((1 : Int32) ≤ x ∧ x ≤ 100)) → am_WP (am_psh g (some (.inl ((-1000000001)))) :: gs) (d + 4) (mk I X) Q) (k1 : ((1 : Int32) ≤ x ∧ x ≤ 100) → am_WP ((mX8_years, 19, [some (.inr (.inr (some (8, 0)))), some (.inl (x)), some (.inl (0)), some (.inl (0))], []) :: g :: gs) (d + 3) (mk I X) Q) : am_WP (am_entry mX8_years [.inr (.inr (some (8, 0))), .inl (x)] :: g :: gs) (d + 3) (mk I X) Q := by
  have hn8 : nb s ≤ 8 := G.1.1.1
  refine am_go 400 ?_
  refine (m_isIn (x) (1) (100) _ _) _ _ _ ?_
  refine am_go 400 ?_
  refine am_if (fun h1 => ?_) (fun h1 => ?_)
  · have h1 := bI_0.mp h1
    exact k0 h1
  · have h1 := bI_1.mp h1
    obtain ⟨e_x, l_x⟩ := okr (lo := 1) (m := 100) (by decide) (by decide) h1
    refine am_cf rfl ?_
    refine am_cut ?_
    refine am_go 4 ?_
    exact k1 h1
theorem p_X8_years {I X d s} (h : RM I s) (G : GS s) (x : Int32) : Sp mX8_years [.inr (.inr (some (8, 0))), .inl (x)] (d + 3) I X (OM I X (f_years s x)) := fun g gs Q K => by
  have hn8 : nb s ≤ 8 := G.1.1.1
  have g8 : G8 s := G8_ G
  refine w_X8_years h G  ?_ ?_
  · intro h0
    apply K_s K
    unfold f_years
    rw [if_neg h0]
    exact ⟨rfl, h, FrM_r, rfl⟩
  · intro h0
    obtain ⟨e_x, l_x⟩ := okr (lo := 1) (m := 100) (by decide) (by decide) h0
    refine l_X8_years e_x (by omega) (kx x) 0 0 s.1.1 I h.1.1 (GC_D G.1.1) G.1.2.1 FrY_r (Nat.zero_add _) ?_
    intro I1 p1
    apply K_s K
    unfold f_years
    rw [if_pos h0]
    exact ⟨rfl, RM_cel h p1.2 p1.1, FrM_Y p1.2, rfl⟩

/-! new bottles -/
def newB (k y l : Nat) : Bn := (fun j => if j = 0 then k else if j = 1 then y else if j = 2 then l else if j = 3 then 6 else 0, fun _ => 12, fun _ => 6)
def addB (σ : Cn) (β : Bn) : Cn := (σ.1 + 1, σ.2.1, σ.2.2.1, fu σ.2.2.2 σ.1 β)
set_option maxRecDepth 100000 in
set_option maxHeartbeats 4000000 in
theorem w_X0_becomeNew {I : Nat → Nat → Nat → Int32} {X : am_Z} {g : am_F} {gs : List am_F} {d : Nat} {Q : Option am_V → am_M → Prop} {b : Nat} {x y z : Int32} (k0 : am_WP ((mX0_becomeNew, 34, [some (.inr (.inr (some (0, b)))), some (.inl (x)), some (.inl (y)), some (.inl (z)), some (.inl (0))], []) :: g :: gs) (d) (mk (up3 (up3 (up3 (up3 (up3 (up3 I 0 b (2) (x)) 0 b (3) (y)) 0 b (4) (z)) 0 b (5) (6)) 0 b (6) (0)) 0 b (7) (0)) X) Q) : am_WP (am_entry mX0_becomeNew [.inr (.inr (some (0, b))), .inl (x), .inl (y), .inl (z)] :: g :: gs) (d) (mk I X) Q := by
  refine am_go 20 ?_
  exact k0
set_option maxRecDepth 100000 in
set_option maxHeartbeats 4000000 in
theorem w_X0_becomeNew_34 {I : Nat → Nat → Nat → Int32} {X : am_Z} {g : am_F} {gs : List am_F} {d : Nat} {Q : Option am_V → am_M → Prop} {b i : Nat} {x y z : Int32} (hi : i ≤ 6) (k0 : (6 ≤ i) → am_WP (am_psh g none :: gs) (d + 1) (mk I X) Q) (k1 : (¬ (6 ≤ i)) → am_WP ((mX0_becomeNew, 34, [some (.inr (.inr (some (0, b)))), some (.inl (x)), some (.inl (y)), some (.inl (z)), some (.inl ((nI (i + 1))))], []) :: g :: gs) (d) (mk (up3 (up3 I 16 b (i) (12)) 17 b (i) (6)) X) Q) : am_WP ((mX0_becomeNew, 34, [some (.inr (.inr (some (0, b)))), some (.inl (x)), some (.inl (y)), some (.inl (z)), some (.inl (nI i))], []) :: g :: gs) (d) (mk I X) Q := by
  refine am_go 400 ?_
  refine am_if (fun h1 => ?_) (fun h1 => ?_)
  · have nh1 := (le_nat (a := 6) (b := i) (rfl : (6 : Int32) = nI 6) (rfl : (nI i : Int32) = nI i) (by omega) (by omega)).mp h1
    exact k0 nh1
  · have nh1 := mt (le_nat (a := 6) (b := i) (rfl : (6 : Int32) = nI 6) (rfl : (nI i : Int32) = nI i) (by omega) (by omega)).mpr h1
    refine am_f (ix_in (n := i) (N := 6) (rfl : (nI i : Int32) = nI i) (by omega) (by decide)) ?_
    have tk0 : (nI i).toNatClampNeg = i := ix_cl (n := i) (rfl : (nI i : Int32) = nI i) (by omega)
    refine am_f (ix_in (n := i) (N := 6) (rfl : (nI i : Int32) = nI i) (by omega) (by decide)) ?_
    have tk1 : (nI i + 1) = nI (i + 1) := (nI_addE rfl (rfl : (1 : Int32) = nI 1))
    show am_WP ((mX0_becomeNew, 34, [some (.inr (.inr (some (0, b)))), some (.inl (x)), some (.inl (y)), some (.inl (z)), some (.inl (((nI i + 1))))], []) :: g :: gs) (d) (mk (up3 (up3 I 16 b (((nI i).toNatClampNeg)) (12)) 17 b (((nI i).toNatClampNeg)) (6)) X) Q
    try rw [tk0]
    try rw [tk1]
    exact k1 nh1
set_option maxRecDepth 100000 in
set_option maxHeartbeats 4000000 in
theorem w_X8_comes {I : Nat → Nat → Nat → Int32} {X : am_Z} {g : am_F} {gs : List am_F} {d : Nat} {Q : Option am_V → am_M → Prop} {σ : Cn} (hR : RepM (I 30 0) σ) (hG : GD σ) {x y z : Int32} (k0 : am_WP ((mX8_comes, 21, [some (.inr (.inr (some (8, 0)))), some (.inl (x)), some (.inl (y)), some (.inl (z)), some (.inl ((nI σ.1))), some (.inl (0))], []) :: g :: gs) (d + 1) (mk (up3 I 30 0 (0) ((nI (σ.1 + 1)))) X) Q) : am_WP (am_entry mX8_comes [.inr (.inr (some (8, 0))), .inl (x), .inl (y), .inl (z)] :: g :: gs) (d + 1) (mk I X) Q := by
  refine am_go 15 ?_
  have bd : σ.1 ≤ 8 := hG.1
  have tk0 : I 30 0 0 = nI σ.1 := hR.1
  have tk1 : ((I 30 0 0) + 1) = nI (σ.1 + 1) := by first | exact (nI_addE tk0 (rfl : (1 : Int32) = nI 1)) | (((try rw [tk0])); first | done | exact (nI_addE tk0 (rfl : (1 : Int32) = nI 1)))
  show am_WP ((mX8_comes, 21, [some (.inr (.inr (some (8, 0)))), some (.inl (x)), some (.inl (y)), some (.inl (z)), some (.inl ((I 30 0 0))), some (.inl (0))], []) :: g :: gs) (d + 1) (mk (up3 I 30 0 (0) ((((I 30 0 0) + 1)))) X) Q
  try rw [tk1]
  try rw [tk0]
  exact k0
set_option maxRecDepth 100000 in
set_option maxHeartbeats 4000000 in
theorem w_X8_comes_21 {I : Nat → Nat → Nat → Int32} {X : am_Z} {g : am_F} {gs : List am_F} {d : Nat} {Q : Option am_V → am_M → Prop} {n i : Nat} {x y z : Int32} (hn : n < 8) (hi : i ≤ 18) (k0 : (18 ≤ i) → am_WP (am_psh g none :: gs) (d + 2) (mk (up3 (up3 (up3 (up3 I 30 0 (6 + 18 * n + 0) (x)) 30 0 (6 + 18 * n + 1) (y)) 30 0 (6 + 18 * n + 2) (z)) 30 0 (6 + 18 * n + 3) (6)) X) Q) (k1 : (¬ (18 ≤ i)) → (6 ≤ i) → (12 ≤ i) → am_WP ((mX8_comes, 21, [some (.inr (.inr (some (8, 0)))), some (.inl (x)), some (.inl (y)), some (.inl (z)), some (.inl (nI n)), some (.inl ((nI (i + 1))))], []) :: g :: gs) (d + 1) (mk (up3 I 30 0 (6 + 18 * n + i) (6)) X) Q) (k2 : (¬ (18 ≤ i)) → (6 ≤ i) → (¬ (12 ≤ i)) → am_WP ((mX8_comes, 21, [some (.inr (.inr (some (8, 0)))), some (.inl (x)), some (.inl (y)), some (.inl (z)), some (.inl (nI n)), some (.inl ((nI (i + 1))))], []) :: g :: gs) (d + 1) (mk (up3 I 30 0 (6 + 18 * n + i) (12)) X) Q) (k3 : (¬ (18 ≤ i)) → (¬ (6 ≤ i)) → am_WP ((mX8_comes, 21, [some (.inr (.inr (some (8, 0)))), some (.inl (x)), some (.inl (y)), some (.inl (z)), some (.inl (nI n)), some (.inl ((nI (i + 1))))], []) :: g :: gs) (d + 1) (mk (up3 I 30 0 (6 + 18 * n + i) (0)) X) Q) : am_WP ((mX8_comes, 21, [some (.inr (.inr (some (8, 0)))), some (.inl (x)), some (.inl (y)), some (.inl (z)), some (.inl (nI n)), some (.inl (nI i))], []) :: g :: gs) (d + 1) (mk I X) Q := by
  refine am_go 400 ?_
  refine am_if (fun h1 => ?_) (fun h1 => ?_)
  · have nh1 := (le_nat (a := 18) (b := i) (rfl : (18 : Int32) = nI 18) (rfl : (nI i : Int32) = nI i) (by omega) (by omega)).mp h1
    refine (c8_puts (k := n) (j := 0) rfl rfl (by omega)) _ _ _ ?_
    refine am_go 400 ?_
    refine (c8_puts (k := n) (j := 1) rfl rfl (by omega)) _ _ _ ?_
    refine am_go 400 ?_
    refine (c8_puts (k := n) (j := 2) rfl rfl (by omega)) _ _ _ ?_
    refine am_go 400 ?_
    refine (c8_puts (k := n) (j := 3) rfl rfl (by omega)) _ _ _ ?_
    refine am_go 400 ?_
    exact k0 nh1
  · have nh1 := mt (le_nat (a := 18) (b := i) (rfl : (18 : Int32) = nI 18) (rfl : (nI i : Int32) = nI i) (by omega) (by omega)).mpr h1
    refine am_if (fun h2 => ?_) (fun h2 => ?_)
    · have nh2 := (le_nat (a := 6) (b := i) (rfl : (6 : Int32) = nI 6) (rfl : (nI i : Int32) = nI i) (by omega) (by omega)).mp h2
      refine am_if (fun h3 => ?_) (fun h3 => ?_)
      · have nh3 := (le_nat (a := 12) (b := i) (rfl : (12 : Int32) = nI 12) (rfl : (nI i : Int32) = nI i) (by omega) (by omega)).mp h3
        refine (c8_puts (k := n) (j := i) rfl rfl (by omega)) _ _ _ ?_
        refine am_go 400 ?_
        have tk0 : (nI i + 1) = nI (i + 1) := (nI_addE rfl (rfl : (1 : Int32) = nI 1))
        show am_WP ((mX8_comes, 21, [some (.inr (.inr (some (8, 0)))), some (.inl (x)), some (.inl (y)), some (.inl (z)), some (.inl (nI n)), some (.inl (((nI i + 1))))], []) :: g :: gs) (d + 1) (mk (up3 I 30 0 (6 + 18 * n + i) (6)) X) Q
        try rw [tk0]
        exact k1 nh1 nh2 nh3
      · have nh3 := mt (le_nat (a := 12) (b := i) (rfl : (12 : Int32) = nI 12) (rfl : (nI i : Int32) = nI i) (by omega) (by omega)).mpr h3
        refine (c8_puts (k := n) (j := i) rfl rfl (by omega)) _ _ _ ?_
        refine am_go 400 ?_
        have tk1 : (nI i + 1) = nI (i + 1) := (nI_addE rfl (rfl : (1 : Int32) = nI 1))
        show am_WP ((mX8_comes, 21, [some (.inr (.inr (some (8, 0)))), some (.inl (x)), some (.inl (y)), some (.inl (z)), some (.inl (nI n)), some (.inl (((nI i + 1))))], []) :: g :: gs) (d + 1) (mk (up3 I 30 0 (6 + 18 * n + i) (12)) X) Q
        try rw [tk1]
        exact k2 nh1 nh2 nh3
    · have nh2 := mt (le_nat (a := 6) (b := i) (rfl : (6 : Int32) = nI 6) (rfl : (nI i : Int32) = nI i) (by omega) (by omega)).mpr h2
      refine (c8_puts (k := n) (j := i) rfl rfl (by omega)) _ _ _ ?_
      refine am_go 400 ?_
      have tk2 : (nI i + 1) = nI (i + 1) := (nI_addE rfl (rfl : (1 : Int32) = nI 1))
      show am_WP ((mX8_comes, 21, [some (.inr (.inr (some (8, 0)))), some (.inl (x)), some (.inl (y)), some (.inl (z)), some (.inl (nI n)), some (.inl (((nI i + 1))))], []) :: g :: gs) (d + 1) (mk (up3 I 30 0 (6 + 18 * n + i) (0)) X) Q
      try rw [tk2]
      exact k3 nh1 nh2
