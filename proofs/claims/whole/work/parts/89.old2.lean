def olL (s : St) (r : Ro) : Nat → Nat → Option (Nat × Nat) → Option (Nat × Nat)
  | 0, _, a => a
  | m + 1, k, a => olL s r m (k + 1) (acN k (some (dfT r (bo s k))) a)
def f_old (s : St) (x w : Int32) : Int32 × St := if 0 ≤ x ∧ x ≤ 3 then if 0 ≤ w ∧ w ≤ 1 then if (sh s (kx x)).1 = -1 then (cNOTH, s) else (aV w (olL s (sh s (kx x)) (nb s) 0 none), s) else (cBAD, s) else (cBAD, s)
set_option maxRecDepth 100000 in
set_option maxHeartbeats 4000000 in
theorem w_oldC_0 {I : Nat → Nat → Nat → Int32} {X : am_Z} {g : am_F} {gs : List am_F} {d : Nat} {Q : Option am_V → am_M → Prop} {s : St} (h : RC I X s) (G : GS s) (gp : GP s) {x w : Int32} {k : Nat} (hx3 : kx x < 4) (hk8 : k ≤ 8) {y : Option am_V} (k0 : ((nb s) ≤ k) → (w = 0) → am_WP (am_psh g (some (.inl ((-1000000005)))) :: gs) (d + 5) (mk I X) Q) (k1 : ((nb s) ≤ k) → (¬ w = 0) → am_WP (am_psh g (some (.inl ((-1000000005)))) :: gs) (d + 5) (mk I X) Q) (k2 : (¬ ((nb s) ≤ k)) → am_WP ((mX7_old, 48, [some (.inr (.inr (some (7, 0)))), some (.inl (x)), some (.inl (w)), some (.inr (.inr (some (4, (kx x))))), some (.inl (nI k)), some (.inl (nI (dfT (sh s (kx x)) (bo s (k))))), some (.inl ((nI (k + 1)))), some (.inl (nI (dfT (sh s (kx x)) (bo s (k)))))], []) :: g :: gs) (d + 4) (mk I X) Q) : am_WP ((mX7_old, 48, [some (.inr (.inr (some (7, 0)))), some (.inl (x)), some (.inl (w)), some (.inr (.inr (some (4, (kx x))))), some (.inl ((-1000000005))), some (.inl ((-1000000005))), some (.inl (nI k)), y], []) :: g :: gs) (d + 4) (mk I X) Q := by
  have hn8 : nb s ≤ 8 := G.1.1.1
  refine am_go 400 ?_
  have tk0 : I 1 0 3 = nI (nb s) := h.1.1.1
  refine am_if (fun h1 => ?_) (fun h1 => ?_)
  · have nh1 := (le_nat (a := (nb s)) (b := k) tk0 (rfl : (nI k : Int32) = nI k) (by omega) (by omega)).mp h1
    refine am_if (fun h2 => ?_) (fun h2 => ?_)
    · exact k0 nh1 h2
    · exact k1 nh1 h2
  · have nh1 := mt (le_nat (a := (nb s)) (b := k) tk0 (rfl : (nI k : Int32) = nI k) (by omega) (by omega)).mpr h1
    refine am_f (ix_in (n := k) (N := 8) (rfl : (nI k : Int32) = nI k) (by omega) (by decide)) ?_
    have tk1 : (nI k).toNatClampNeg = k := ix_cl (n := k) (rfl : (nI k : Int32) = nI k) (by omega)
    have bd : (dfT (sh s (kx x)) (bo s (k))) ≤ 3000000 := dfT_le (GS_b G (k := k) (by omega)) (G.2.2.1 (kx x) (by omega)).2 (gp (kx x) (by omega))
    refine (c_X7_differences (b := k) (q := kx x) (show ((nI k).toNatClampNeg) = k by (try rw [tk1]); first | done | rfl) rfl (h.2.2.1 (kx x) (by omega)) (G.2.2.1 (kx x) (by omega)).2 (gp (kx x) (by omega)) (bC h (k := k) (by omega)) (GS_b G (k := k) (by omega))) _ _ _ ?_
    refine am_go 400 ?_
    refine (c_fewb_0 (n := (dfT (sh s (kx x)) (bo s (k)))) (rfl : (nI (dfT (sh s (kx x)) (bo s (k))) : Int32) = nI (dfT (sh s (kx x)) (bo s (k)))) (by omega) rfl) _ _ _ ?_
    refine am_go 400 ?_
    have tk2 : (nI k + 1) = nI (k + 1) := (nI_addE rfl (rfl : (1 : Int32) = nI 1))
    show am_WP ((mX7_old, 48, [some (.inr (.inr (some (7, 0)))), some (.inl (x)), some (.inl (w)), some (.inr (.inr (some (4, (kx x))))), some (.inl (nI k)), some (.inl (nI (dfT (sh s (kx x)) (bo s (k))))), some (.inl (((nI k + 1)))), some (.inl (nI (dfT (sh s (kx x)) (bo s (k)))))], []) :: g :: gs) (d + 4) (mk I X) Q
    try rw [tk2]
    exact k2 nh1
set_option maxRecDepth 100000 in
set_option maxHeartbeats 4000000 in
theorem w_oldC_1 {I : Nat → Nat → Nat → Int32} {X : am_Z} {g : am_F} {gs : List am_F} {d : Nat} {Q : Option am_V → am_M → Prop} {s : St} (h : RC I X s) (G : GS s) (gp : GP s) {x w : Int32} {k : Nat} (hx3 : kx x < 4) (hk8 : k ≤ 8) {p q : Nat} (hp : p ≤ 8) (hq : q ≤ 3000000) {y : Option am_V} (k0 : ((nb s) ≤ k) → (w = 0) → am_WP (am_psh g (some (.inl (nI p))) :: gs) (d + 5) (mk I X) Q) (k1 : ((nb s) ≤ k) → (¬ w = 0) → am_WP (am_psh g (some (.inl (nI q))) :: gs) (d + 5) (mk I X) Q) (k2 : (¬ ((nb s) ≤ k)) → (¬ ((dfT (sh s (kx x)) (bo s (k))) < q)) → am_WP ((mX7_old, 48, [some (.inr (.inr (some (7, 0)))), some (.inl (x)), some (.inl (w)), some (.inr (.inr (some (4, (kx x))))), some (.inl (nI p)), some (.inl (nI q)), some (.inl ((nI (k + 1)))), some (.inl (nI (dfT (sh s (kx x)) (bo s (k)))))], []) :: g :: gs) (d + 4) (mk I X) Q) (k3 : (¬ ((nb s) ≤ k)) → ((dfT (sh s (kx x)) (bo s (k))) < q) → am_WP ((mX7_old, 48, [some (.inr (.inr (some (7, 0)))), some (.inl (x)), some (.inl (w)), some (.inr (.inr (some (4, (kx x))))), some (.inl (nI k)), some (.inl (nI (dfT (sh s (kx x)) (bo s (k))))), some (.inl ((nI (k + 1)))), some (.inl (nI (dfT (sh s (kx x)) (bo s (k)))))], []) :: g :: gs) (d + 4) (mk I X) Q) : am_WP ((mX7_old, 48, [some (.inr (.inr (some (7, 0)))), some (.inl (x)), some (.inl (w)), some (.inr (.inr (some (4, (kx x))))), some (.inl (nI p)), some (.inl (nI q)), some (.inl (nI k)), y], []) :: g :: gs) (d + 4) (mk I X) Q := by
  have hn8 : nb s ≤ 8 := G.1.1.1
  refine am_go 400 ?_
  have tk0 : I 1 0 3 = nI (nb s) := h.1.1.1
  refine am_if (fun h1 => ?_) (fun h1 => ?_)
  · have nh1 := (le_nat (a := (nb s)) (b := k) tk0 (rfl : (nI k : Int32) = nI k) (by omega) (by omega)).mp h1
    refine am_if (fun h2 => ?_) (fun h2 => ?_)
    · exact k0 nh1 h2
    · exact k1 nh1 h2
  · have nh1 := mt (le_nat (a := (nb s)) (b := k) tk0 (rfl : (nI k : Int32) = nI k) (by omega) (by omega)).mpr h1
    refine am_f (ix_in (n := k) (N := 8) (rfl : (nI k : Int32) = nI k) (by omega) (by decide)) ?_
    have tk1 : (nI k).toNatClampNeg = k := ix_cl (n := k) (rfl : (nI k : Int32) = nI k) (by omega)
    have bd : (dfT (sh s (kx x)) (bo s (k))) ≤ 3000000 := dfT_le (GS_b G (k := k) (by omega)) (G.2.2.1 (kx x) (by omega)).2 (gp (kx x) (by omega))
    refine (c_X7_differences (b := k) (q := kx x) (show ((nI k).toNatClampNeg) = k by (try rw [tk1]); first | done | rfl) rfl (h.2.2.1 (kx x) (by omega)) (G.2.2.1 (kx x) (by omega)).2 (gp (kx x) (by omega)) (bC h (k := k) (by omega)) (GS_b G (k := k) (by omega))) _ _ _ ?_
    refine am_go 400 ?_
    refine (c_fewb_1 (n := (dfT (sh s (kx x)) (bo s (k)))) (m := q) (rfl : (nI (dfT (sh s (kx x)) (bo s (k))) : Int32) = nI (dfT (sh s (kx x)) (bo s (k)))) (by omega) (rfl : (nI q : Int32) = nI q) (by omega)) _ _ _ ?_
    refine am_go 400 ?_
    refine am_if (fun h3 => ?_) (fun h3 => ?_)
    · have h3 := bI_0.mp h3
      have tk2 : (nI k + 1) = nI (k + 1) := (nI_addE rfl (rfl : (1 : Int32) = nI 1))
      show am_WP ((mX7_old, 48, [some (.inr (.inr (some (7, 0)))), some (.inl (x)), some (.inl (w)), some (.inr (.inr (some (4, (kx x))))), some (.inl (nI p)), some (.inl (nI q)), some (.inl (((nI k + 1)))), some (.inl (nI (dfT (sh s (kx x)) (bo s (k)))))], []) :: g :: gs) (d + 4) (mk I X) Q
      try rw [tk2]
      exact k2 nh1 h3
    · have h3 := bI_1.mp h3
      have tk3 : (nI k + 1) = nI (k + 1) := (nI_addE rfl (rfl : (1 : Int32) = nI 1))
      show am_WP ((mX7_old, 48, [some (.inr (.inr (some (7, 0)))), some (.inl (x)), some (.inl (w)), some (.inr (.inr (some (4, (kx x))))), some (.inl (nI k)), some (.inl (nI (dfT (sh s (kx x)) (bo s (k))))), some (.inl (((nI k + 1)))), some (.inl (nI (dfT (sh s (kx x)) (bo s (k)))))], []) :: g :: gs) (d + 4) (mk I X) Q
      try rw [tk3]
      exact k3 nh1 h3
set_option maxRecDepth 100000 in
set_option maxHeartbeats 4000000 in
theorem w_oldM_58 {I : Nat → Nat → Nat → Int32} {X : am_Z} {g : am_F} {gs : List am_F} {d : Nat} {Q : Option am_V → am_M → Prop} {s : St} (h : RM I s) (G : GS s) {x w u v : Int32} {b t k : Nat} (e_x : x = nI (kx x)) (hx3 : kx x < 4) (hb : b < nb s) (hk : k ≤ 24) {y : Option am_V} (k0 : (((sh s (kx x)).2.1) ≤ k) → (u < 0) → am_WP ((mX8_old, 41, [some (.inr (.inr (some (8, 0)))), some (.inl (x)), some (.inl (w)), some (.inl (nI b)), some (.inl (nI t)), some (.inl ((nI (b + 1)))), some (.inl (nI t)), some (.inl (nI k)), y], []) :: g :: gs) (d + 2) (mk I X) Q) (k1 : (((sh s (kx x)).2.1) ≤ k) → (¬ u < 0) → (v ≤ nI t) → am_WP ((mX8_old, 41, [some (.inr (.inr (some (8, 0)))), some (.inl (x)), some (.inl (w)), some (.inl (u)), some (.inl (v)), some (.inl ((nI (b + 1)))), some (.inl (nI t)), some (.inl (nI k)), y], []) :: g :: gs) (d + 2) (mk I X) Q) (k2 : (((sh s (kx x)).2.1) ≤ k) → (¬ u < 0) → (¬ v ≤ nI t) → am_WP ((mX8_old, 41, [some (.inr (.inr (some (8, 0)))), some (.inl (x)), some (.inl (w)), some (.inl (nI b)), some (.inl (nI t)), some (.inl ((nI (b + 1)))), some (.inl (nI t)), some (.inl (nI k)), y], []) :: g :: gs) (d + 2) (mk I X) Q) (k3 : (¬ (((sh s (kx x)).2.1) ≤ k)) → ((((sh s (kx x)).2.2 (k))) = (-1000000005)) → am_WP ((mX8_old, 58, [some (.inr (.inr (some (8, 0)))), some (.inl (x)), some (.inl (w)), some (.inl (u)), some (.inl (v)), some (.inl (nI b)), some (.inl ((nI (t + 0)))), some (.inl ((nI (k + 1)))), some (.inl ((((sh s (kx x)).2.2 (k)))))], []) :: g :: gs) (d + 2) (mk I X) Q) (k4 : (¬ (((sh s (kx x)).2.1) ≤ k)) → (¬ (((sh s (kx x)).2.2 (k))) = (-1000000005)) → (6 ≤ k) → am_WP ((mX8_old, 58, [some (.inr (.inr (some (8, 0)))), some (.inl (x)), some (.inl (w)), some (.inl (u)), some (.inl (v)), some (.inl (nI b)), some (.inl ((nI t + (if (((sh s (kx x)).2.2 (k))) < 0 then 0 - (((sh s (kx x)).2.2 (k))) else (((sh s (kx x)).2.2 (k))) - 0)))), some (.inl ((nI (k + 1)))), some (.inl ((((sh s (kx x)).2.2 (k)))))], []) :: g :: gs) (d + 2) (mk I X) Q) (k5 : (¬ (((sh s (kx x)).2.1) ≤ k)) → (¬ (((sh s (kx x)).2.2 (k))) = (-1000000005)) → (¬ (6 ≤ k)) → am_WP ((mX8_old, 58, [some (.inr (.inr (some (8, 0)))), some (.inl (x)), some (.inl (w)), some (.inl (u)), some (.inl (v)), some (.inl (nI b)), some (.inl ((nI t + (if (((sh s (kx x)).2.2 (k))) < (nI (grN (bo s (b)) k)) then (nI (grN (bo s (b)) k)) - (((sh s (kx x)).2.2 (k))) else (((sh s (kx x)).2.2 (k))) - (nI (grN (bo s (b)) k)))))), some (.inl ((nI (k + 1)))), some (.inl ((((sh s (kx x)).2.2 (k)))))], []) :: g :: gs) (d + 2) (mk I X) Q) : am_WP ((mX8_old, 58, [some (.inr (.inr (some (8, 0)))), some (.inl (x)), some (.inl (w)), some (.inl (u)), some (.inl (v)), some (.inl (nI b)), some (.inl (nI t)), some (.inl (nI k)), y], []) :: g :: gs) (d + 2) (mk I X) Q := by
  have hn8 : nb s ≤ 8 := G.1.1.1
  have z_x : (sh s (kx x)).2.1 ≤ 24 := (G.2.2.1 (kx x) (by omega)).2
  refine am_go 400 ?_
  refine am_f (ix_in (n := (kx x)) (N := 4) e_x (by omega) (by decide)) ?_
  have tk0 : (x).toNatClampNeg = (kx x) := ix_cl (n := (kx x)) e_x (by omega)
  have tk1 : I 34 0 (((x).toNatClampNeg)) = nI (sh s (kx x)).2.1 := by first | exact (shM h (k := kx x) (by omega)).2.1 | (((try rw [tk0])); first | done | exact (shM h (k := kx x) (by omega)).2.1)
  refine am_if (fun h1 => ?_) (fun h1 => ?_)
  · have nh1 := (le_nat (a := ((sh s (kx x)).2.1)) (b := k) tk1 (rfl : (nI k : Int32) = nI k) (by omega) (by omega)).mp h1
    refine am_if (fun h2 => ?_) (fun h2 => ?_)
    · have tk2 : (nI b + 1) = nI (b + 1) := (nI_addE rfl (rfl : (1 : Int32) = nI 1))
      show am_WP ((mX8_old, 41, [some (.inr (.inr (some (8, 0)))), some (.inl (x)), some (.inl (w)), some (.inl (nI b)), some (.inl (nI t)), some (.inl (((nI b + 1)))), some (.inl (nI t)), some (.inl (nI k)), y], []) :: g :: gs) (d + 2) (mk I X) Q
      try rw [tk2]
      exact k0 nh1 h2
    · refine am_if (fun h3 => ?_) (fun h3 => ?_)
      · have tk3 : (nI b + 1) = nI (b + 1) := (nI_addE rfl (rfl : (1 : Int32) = nI 1))
        show am_WP ((mX8_old, 41, [some (.inr (.inr (some (8, 0)))), some (.inl (x)), some (.inl (w)), some (.inl (u)), some (.inl (v)), some (.inl (((nI b + 1)))), some (.inl (nI t)), some (.inl (nI k)), y], []) :: g :: gs) (d + 2) (mk I X) Q
        try rw [tk3]
        exact k1 nh1 h2 h3
      · have tk4 : (nI b + 1) = nI (b + 1) := (nI_addE rfl (rfl : (1 : Int32) = nI 1))
        show am_WP ((mX8_old, 41, [some (.inr (.inr (some (8, 0)))), some (.inl (x)), some (.inl (w)), some (.inl (nI b)), some (.inl (nI t)), some (.inl (((nI b + 1)))), some (.inl (nI t)), some (.inl (nI k)), y], []) :: g :: gs) (d + 2) (mk I X) Q
        try rw [tk4]
        exact k2 nh1 h2 h3
  · have nh1 := mt (le_nat (a := ((sh s (kx x)).2.1)) (b := k) tk1 (rfl : (nI k : Int32) = nI k) (by omega) (by omega)).mpr h1
    refine am_f (ix_in (n := ((24 * (kx x)) + k)) (N := 96) (nI_addE (nI_mulE (rfl : (24 : Int32) = nI 24) e_x) rfl) (by omega) (by decide)) ?_
    have tk5 : (((24 * x) + nI k)).toNatClampNeg = ((24 * (kx x)) + k) := ix_cl (n := ((24 * (kx x)) + k)) (nI_addE (nI_mulE (rfl : (24 : Int32) = nI 24) e_x) rfl) (by omega)
    have tk6 : I 35 0 (((((24 * x) + nI k)).toNatClampNeg)) = ((sh s (kx x)).2.2 (k)) := by first | exact (shM h (k := (kx x)) (by omega)).2.2 _ (by omega) | (((try rw [tk5])); first | done | exact (shM h (k := (kx x)) (by omega)).2.2 _ (by omega))
    refine am_if (fun h4 => ?_) (fun h4 => ?_)
    · have h4 : (I 35 0 (((((24 * x) + nI k)).toNatClampNeg))) = (-1000000005) := h4
      try rw [tk6] at h4
      try rw [tk5] at h4
      have tk7 : (nI t + 0) = nI (t + 0) := (nI_addE rfl (rfl : (0 : Int32) = nI 0))
      have tk8 : (nI k + 1) = nI (k + 1) := (nI_addE rfl (rfl : (1 : Int32) = nI 1))
      show am_WP ((mX8_old, 58, [some (.inr (.inr (some (8, 0)))), some (.inl (x)), some (.inl (w)), some (.inl (u)), some (.inl (v)), some (.inl (nI b)), some (.inl (((nI t + 0)))), some (.inl (((nI k + 1)))), some (.inl ((I 35 0 (((((24 * x) + nI k)).toNatClampNeg)))))], []) :: g :: gs) (d + 2) (mk I X) Q
      try rw [tk6]
      try rw [tk5]
      try rw [tk8]
      try rw [tk7]
      exact k3 nh1 h4
    · have h4 : ¬ (I 35 0 (((((24 * x) + nI k)).toNatClampNeg))) = (-1000000005) := h4
      try rw [tk6] at h4
      try rw [tk5] at h4
      refine am_if (fun h5 => ?_) (fun h5 => ?_)
      · have nh5 := (le_nat (a := 6) (b := k) (rfl : (6 : Int32) = nI 6) (rfl : (nI k : Int32) = nI k) (by omega) (by omega)).mp h5
        refine (c_X8_off) _ _ _ ?_
        refine am_go 400 ?_
        have tk9 : (nI k + 1) = nI (k + 1) := (nI_addE rfl (rfl : (1 : Int32) = nI 1))
        show am_WP ((mX8_old, 58, [some (.inr (.inr (some (8, 0)))), some (.inl (x)), some (.inl (w)), some (.inl (u)), some (.inl (v)), some (.inl (nI b)), some (.inl ((nI t + (if (I 35 0 (((((24 * x) + nI k)).toNatClampNeg))) < 0 then 0 - (I 35 0 (((((24 * x) + nI k)).toNatClampNeg))) else (I 35 0 (((((24 * x) + nI k)).toNatClampNeg))) - 0)))), some (.inl (((nI k + 1)))), some (.inl ((I 35 0 (((((24 * x) + nI k)).toNatClampNeg)))))], []) :: g :: gs) (d + 2) (mk I X) Q
        try rw [tk6]
        try rw [tk5]
        try rw [tk9]
        exact k4 nh1 h4 nh5
      · have nh5 := mt (le_nat (a := 6) (b := k) (rfl : (6 : Int32) = nI 6) (rfl : (nI k : Int32) = nI k) (by omega) (by omega)).mpr h5
        have bd : (grN (bo s (b)) k) ≤ 28 := grN_le (GS_b G (k := b) (by omega)) (by omega)
        have tk10 : (grS (mB (I 30 0) b) k) = nI (grN (bo s (b)) k) := grS_N (bM h (k := b) (by omega)) (GS_b G (k := b) (by omega)) (by omega)
        refine (cE_X8_grips (k := b) (l := k) (rfl : (nI b : Int32) = nI b) (rfl : (nI k : Int32) = nI k) (by omega) (by omega)) _ _ _ ?_
        refine am_go 400 ?_
        refine (c_X8_off) _ _ _ ?_
        refine am_go 400 ?_
        have tk11 : (nI k + 1) = nI (k + 1) := (nI_addE rfl (rfl : (1 : Int32) = nI 1))
        show am_WP ((mX8_old, 58, [some (.inr (.inr (some (8, 0)))), some (.inl (x)), some (.inl (w)), some (.inl (u)), some (.inl (v)), some (.inl (nI b)), some (.inl ((nI t + (if (I 35 0 (((((24 * x) + nI k)).toNatClampNeg))) < ((grS (mB (I 30 0) b) k)) then ((grS (mB (I 30 0) b) k)) - (I 35 0 (((((24 * x) + nI k)).toNatClampNeg))) else (I 35 0 (((((24 * x) + nI k)).toNatClampNeg))) - ((grS (mB (I 30 0) b) k)))))), some (.inl (((nI k + 1)))), some (.inl ((I 35 0 (((((24 * x) + nI k)).toNatClampNeg)))))], []) :: g :: gs) (d + 2) (mk I X) Q
        try rw [tk6]
        try rw [tk5]
        try rw [tk10]
        try rw [tk11]
        exact k5 nh1 h4 nh5
set_option maxRecDepth 100000 in
set_option maxHeartbeats 4000000 in
theorem w_oldM_41_0 {I : Nat → Nat → Nat → Int32} {X : am_Z} {g : am_F} {gs : List am_F} {d : Nat} {Q : Option am_V → am_M → Prop} {s : St} (h : RM I s) (G : GS s) {x w : Int32} {b : Nat} (hb8 : b ≤ 8) {y6 y7 y8 : Option am_V} (k0 : ((nb s) ≤ b) → am_WP (am_psh g (some (.inl ((-1000000005)))) :: gs) (d + 3) (mk I X) Q) (k1 : (¬ ((nb s) ≤ b)) → am_WP ((mX8_old, 58, [some (.inr (.inr (some (8, 0)))), some (.inl (x)), some (.inl (w)), some (.inl ((-1))), some (.inl (0)), some (.inl (nI b)), some (.inl (0)), some (.inl (0)), y8], []) :: g :: gs) (d + 2) (mk I X) Q) : am_WP ((mX8_old, 41, [some (.inr (.inr (some (8, 0)))), some (.inl (x)), some (.inl (w)), some (.inl ((-1))), some (.inl (0)), some (.inl (nI b)), y6, y7, y8], []) :: g :: gs) (d + 2) (mk I X) Q := by
  have hn8 : nb s ≤ 8 := G.1.1.1
  refine am_go 400 ?_
  have tk0 : I 30 0 0 = nI (nb s) := h.1.1.1
  refine am_if (fun h1 => ?_) (fun h1 => ?_)
  · have nh1 := (le_nat (a := (nb s)) (b := b) tk0 (rfl : (nI b : Int32) = nI b) (by omega) (by omega)).mp h1
    exact k0 nh1
  · have nh1 := mt (le_nat (a := (nb s)) (b := b) tk0 (rfl : (nI b : Int32) = nI b) (by omega) (by omega)).mpr h1
    refine am_cut ?_
    refine am_go 4 ?_
    exact k1 nh1
set_option maxRecDepth 100000 in
set_option maxHeartbeats 4000000 in
theorem w_oldM_41_1 {I : Nat → Nat → Nat → Int32} {X : am_Z} {g : am_F} {gs : List am_F} {d : Nat} {Q : Option am_V → am_M → Prop} {s : St} (h : RM I s) (G : GS s) {x w : Int32} {b : Nat} (hb8 : b ≤ 8) {p q : Nat} (hp : p ≤ 8) (hq : q ≤ 3000000) {y6 y7 y8 : Option am_V} (k0 : ((nb s) ≤ b) → (w = 0) → am_WP (am_psh g (some (.inl (nI p))) :: gs) (d + 3) (mk I X) Q) (k1 : ((nb s) ≤ b) → (¬ w = 0) → am_WP (am_psh g (some (.inl (nI q))) :: gs) (d + 3) (mk I X) Q) (k2 : (¬ ((nb s) ≤ b)) → am_WP ((mX8_old, 58, [some (.inr (.inr (some (8, 0)))), some (.inl (x)), some (.inl (w)), some (.inl (nI p)), some (.inl (nI q)), some (.inl (nI b)), some (.inl (0)), some (.inl (0)), y8], []) :: g :: gs) (d + 2) (mk I X) Q) : am_WP ((mX8_old, 41, [some (.inr (.inr (some (8, 0)))), some (.inl (x)), some (.inl (w)), some (.inl (nI p)), some (.inl (nI q)), some (.inl (nI b)), y6, y7, y8], []) :: g :: gs) (d + 2) (mk I X) Q := by
  have hn8 : nb s ≤ 8 := G.1.1.1
  refine am_go 400 ?_
  have tk0 : I 30 0 0 = nI (nb s) := h.1.1.1
  refine am_if (fun h1 => ?_) (fun h1 => ?_)
  · have nh1 := (le_nat (a := (nb s)) (b := b) tk0 (rfl : (nI b : Int32) = nI b) (by omega) (by omega)).mp h1
    refine am_t ((le_nat (a := 0) (b := p) (rfl : (0 : Int32) = nI 0) (rfl : (nI p : Int32) = nI p) (by omega) (by omega)).mpr (Nat.zero_le _)) ?_
    refine am_if (fun h2 => ?_) (fun h2 => ?_)
    · exact k0 nh1 h2
    · exact k1 nh1 h2
  · have nh1 := mt (le_nat (a := (nb s)) (b := b) tk0 (rfl : (nI b : Int32) = nI b) (by omega) (by omega)).mpr h1
    refine am_cut ?_
    refine am_go 4 ?_
    exact k2 nh1
theorem l_oldC {I : Im} {X g gs d Q} {s : St} (h : RC I X s) (G : GS s) (gp : GP s) {x w : Int32} (hx3 : kx x < 4) : ∀ (m k : Nat) (acc : Option (Nat × Nat)) (y : Option am_V), k + m = nb s → (∀ p, acc = some p → p.1 ≤ 8 ∧ p.2 ≤ 3000000) →
    am_WP (am_psh g (some (.inl (aV w (olL s (sh s (kx x)) m k acc)))) :: gs) (d + 5) (mk I X) Q →
    am_WP ((mX7_old, 48, [some (.inr (.inr (some (7, 0)))), some (.inl x), some (.inl w), some (.inr (.inr (some (4, kx x)))), some (.inl (oB acc)), some (.inl (oF acc)), some (.inl (nI k)), y], []) :: g :: gs) (d + 4) (mk I X) Q
  | 0, k, acc, y, hk, ha, K => by
    have h8 : nb s ≤ 8 := G.1.1.1
    rcases acc with _ | p
    · exact w_oldC_0 h G gp hx3 (by omega) (fun _ _ => K) (fun _ _ => K) (fun z => absurd (by omega) z)
    · exact w_oldC_1 h G gp hx3 (by omega) (ha p rfl).1 (ha p rfl).2 (fun _ hw => K_w K (if_pos hw)) (fun _ hw => K_w K (if_neg hw)) (fun z => absurd (by omega) z) (fun z => absurd (by omega) z)
  | m + 1, k, acc, y, hk, ha, K => by
    have h8 : nb s ≤ 8 := G.1.1.1
    have dl : dfT (sh s (kx x)) (bo s k) ≤ 3000000 := dfT_le (GS_b G (by omega)) (G.2.2.1 (kx x) (by omega)).2 (gp (kx x) (by omega))
    rcases acc with _ | p
    · refine w_oldC_0 h G gp hx3 (by omega) (fun z => absurd z (by omega)) (fun z => absurd z (by omega)) (fun _ => ?_)
      exact l_oldC h G gp hx3 m (k + 1) (some (k, dfT (sh s (kx x)) (bo s k))) _ (by omega) (fun p hp => by cases hp; exact ⟨by show k ≤ 8; omega, dl⟩) K
    · have hq := ha p rfl
      refine w_oldC_1 h G gp hx3 (by omega) hq.1 hq.2 (fun z => absurd z (by omega)) (fun z => absurd z (by omega)) (fun _ hl => ?_) (fun _ hl => ?_)
      · rw [olL, acN, if_neg hl] at K
        exact l_oldC h G gp hx3 m (k + 1) (some p) _ (by omega) (fun p' hp => by cases hp; exact hq) K
      · rw [olL, acN, if_pos hl] at K
        exact l_oldC h G gp hx3 m (k + 1) (some (k, dfT (sh s (kx x)) (bo s k))) _ (by omega) (fun p hp => by cases hp; exact ⟨by show k ≤ 8; omega, dl⟩) K
theorem l_odM {I : Im} {X g gs d Q} {s : St} (h : RM I s) (G : GS s) (gp : GP s) {x w u v : Int32} {b : Nat} (e_x : x = nI (kx x)) (hx3 : kx x < 4) (hb : b < nb s) : ∀ (m k t : Nat) (y : Option am_V), k + m = (sh s (kx x)).2.1 →
    (u < 0 → ∀ (y6 y7 y8 : Option am_V), am_WP ((mX8_old, 41, [some (.inr (.inr (some (8, 0)))), some (.inl x), some (.inl w), some (.inl (nI b)), some (.inl (nI (dfS (sh s (kx x)) (bo s b) m k t))), some (.inl (nI (b + 1))), y6, y7, y8], []) :: g :: gs) (d + 2) (mk I X) Q) →
    (¬ u < 0 → v ≤ nI (dfS (sh s (kx x)) (bo s b) m k t) → ∀ (y6 y7 y8 : Option am_V), am_WP ((mX8_old, 41, [some (.inr (.inr (some (8, 0)))), some (.inl x), some (.inl w), some (.inl u), some (.inl v), some (.inl (nI (b + 1))), y6, y7, y8], []) :: g :: gs) (d + 2) (mk I X) Q) →
    (¬ u < 0 → ¬ v ≤ nI (dfS (sh s (kx x)) (bo s b) m k t) → ∀ (y6 y7 y8 : Option am_V), am_WP ((mX8_old, 41, [some (.inr (.inr (some (8, 0)))), some (.inl x), some (.inl w), some (.inl (nI b)), some (.inl (nI (dfS (sh s (kx x)) (bo s b) m k t))), some (.inl (nI (b + 1))), y6, y7, y8], []) :: g :: gs) (d + 2) (mk I X) Q) →
    am_WP ((mX8_old, 58, [some (.inr (.inr (some (8, 0)))), some (.inl x), some (.inl w), some (.inl u), some (.inl v), some (.inl (nI b)), some (.inl (nI t)), some (.inl (nI k)), y], []) :: g :: gs) (d + 2) (mk I X) Q
  | 0, k, t, y, hk, K0, K1, K2 => by
    have z_x : (sh s (kx x)).2.1 ≤ 24 := (G.2.2.1 (kx x) (by omega)).2
    exact w_oldM_58 h G e_x hx3 hb (by omega) (fun _ hu => K0 hu _ _ _) (fun _ hu hv => K1 hu hv _ _ _) (fun _ hu hv => K2 hu hv _ _ _) (fun z => absurd (by omega) z) (fun z => absurd (by omega) z) (fun z => absurd (by omega) z)
  | m + 1, k, t, y, hk, K0, K1, K2 => by
    have z_x : (sh s (kx x)).2.1 ≤ 24 := (G.2.2.1 (kx x) (by omega)).2
    have hp0 : GPl ((sh s (kx x)).2.2 k) := gp (kx x) (by omega) k (by omega)
    have hg := GS_b G hb
    refine w_oldM_58 h G e_x hx3 hb (by omega) (fun z => absurd z (by omega)) (fun z => absurd z (by omega)) (fun z => absurd z (by omega)) (fun _ e => ?_) (fun _ e h6 => ?_) (fun _ e h6 => ?_)
    · refine l_odM h G gp e_x hx3 hb m (k + 1) t _ (by omega) ?_ ?_ ?_
      · rw [dfS, dfK_0 e] at K0; exact K0
      · rw [dfS, dfK_0 e] at K1; exact K1
      · rw [dfS, dfK_0 e] at K2; exact K2
    · have q := dfK_M (t := t) hg hp0 e
      rw [dfG_h h6] at q
      rw [q]
      exact l_odM h G gp e_x hx3 hb m (k + 1) _ _ (by omega) K0 K1 K2
    · have q := dfK_M (t := t) hg hp0 e
      rw [dfG_l h6] at q
      rw [q]
      exact l_odM h G gp e_x hx3 hb m (k + 1) _ _ (by omega) K0 K1 K2
theorem l_oldM {I : Im} {X g gs d Q} {s : St} (h : RM I s) (G : GS s) (gp : GP s) {x w : Int32} (e_x : x = nI (kx x)) (hx3 : kx x < 4) : ∀ (m k : Nat) (acc : Option (Nat × Nat)) (y6 y7 y8 : Option am_V), k + m = nb s → (∀ p, acc = some p → p.1 ≤ 8 ∧ p.2 ≤ 3000000) →
    am_WP (am_psh g (some (.inl (aV w (olL s (sh s (kx x)) m k acc)))) :: gs) (d + 3) (mk I X) Q →
    am_WP ((mX8_old, 41, [some (.inr (.inr (some (8, 0)))), some (.inl x), some (.inl w), some (.inl (mB1 acc)), some (.inl (mF1 acc)), some (.inl (nI k)), y6, y7, y8], []) :: g :: gs) (d + 2) (mk I X) Q
  | 0, k, acc, y6, y7, y8, hk, ha, K => by
    have h8 : nb s ≤ 8 := G.1.1.1
    rcases acc with _ | p
    · exact w_oldM_41_0 h G (by omega) (fun _ => K) (fun z => absurd (by omega) z)
    · exact w_oldM_41_1 h G (by omega) (ha p rfl).1 (ha p rfl).2 (fun _ hw => K_w K (if_pos hw)) (fun _ hw => K_w K (if_neg hw)) (fun z => absurd (by omega) z)
  | m + 1, k, acc, y6, y7, y8, hk, ha, K => by
    have h8 : nb s ≤ 8 := G.1.1.1
    have hk2 : k < nb s := by omega
    have dl : dfT (sh s (kx x)) (bo s k) ≤ 3000000 := dfT_le (GS_b G (by omega)) (G.2.2.1 (kx x) (by omega)).2 (gp (kx x) (by omega))
    rcases acc with _ | p
    · refine w_oldM_41_0 h G (by omega) (fun z => absurd z (by omega)) (fun _ => ?_)
      refine l_odM h G gp e_x hx3 hk2 (sh s (kx x)).2.1 0 0 _ (by omega) (fun _ y6 y7 y8 => ?_) (fun z => absurd (by decide) z) (fun z => absurd (by decide) z)
      exact l_oldM h G gp e_x hx3 m (k + 1) (some (k, dfT (sh s (kx x)) (bo s k))) _ _ _ (by omega) (fun p hp => by cases hp; exact ⟨by show k ≤ 8; omega, dl⟩) K
    · have hq := ha p rfl
      refine w_oldM_41_1 h G (by omega) hq.1 hq.2 (fun z => absurd z (by omega)) (fun z => absurd z (by omega)) (fun _ => ?_)
      have e := lt_nat (a := p.1) (b := 0) rfl (rfl : (0 : Int32) = nI 0) (by omega) (by omega)
      have e2 := le_nat (a := p.2) (b := dfT (sh s (kx x)) (bo s k)) rfl rfl (by omega) (by omega)
      refine l_odM h G gp e_x hx3 hk2 (sh s (kx x)).2.1 0 0 _ (by omega) (fun z => absurd (e.mp z) (by omega)) (fun _ hv y6 y7 y8 => ?_) (fun _ hv y6 y7 y8 => ?_)
      · have hv := e2.mp hv
        rw [olL, acN, if_neg (by omega)] at K
        exact l_oldM h G gp e_x hx3 m (k + 1) (some p) _ _ _ (by omega) (fun p' hp => by cases hp; exact hq) K
      · have hv := mt e2.mpr hv
        rw [olL, acN, if_pos (by omega)] at K
        exact l_oldM h G gp e_x hx3 m (k + 1) (some (k, dfT (sh s (kx x)) (bo s k))) _ _ _ (by omega) (fun p hp => by cases hp; exact ⟨by show k ≤ 8; omega, dl⟩) K
set_option maxRecDepth 100000 in
set_option maxHeartbeats 4000000 in
theorem w_X7_old {I : Nat → Nat → Nat → Int32} {X : am_Z} {g : am_F} {gs : List am_F} {d : Nat} {Q : Option am_V → am_M → Prop} {s : St} (h : RC I X s) (G : GS s) {x w : Int32} (k0 : (¬ ((0 : Int32) ≤ x ∧ x ≤ 3)) → am_WP (am_psh g (some (.inl ((-1000000001)))) :: gs) (d + 5) (mk I X) Q) (k1 : ((0 : Int32) ≤ x ∧ x ≤ 3) → (¬ ((0 : Int32) ≤ w ∧ w ≤ 1)) → am_WP (am_psh g (some (.inl ((-1000000001)))) :: gs) (d + 5) (mk I X) Q) (k2 : ((0 : Int32) ≤ x ∧ x ≤ 3) → ((0 : Int32) ≤ w ∧ w ≤ 1) → (((sh s (kx x)).1) = (-1)) → am_WP (am_psh g (some (.inl ((-1000000011)))) :: gs) (d + 5) (mk I X) Q) (k3 : ((0 : Int32) ≤ x ∧ x ≤ 3) → ((0 : Int32) ≤ w ∧ w ≤ 1) → (¬ ((sh s (kx x)).1) = (-1)) → am_WP ((mX7_old, 48, [some (.inr (.inr (some (7, 0)))), some (.inl (x)), some (.inl (w)), some (.inr (.inr (some (4, ((kx x)))))), some (.inl ((-1000000005))), some (.inl ((-1000000005))), some (.inl (0)), none], []) :: g :: gs) (d + 4) (mk I X) Q) : am_WP (am_entry mX7_old [.inr (.inr (some (7, 0))), .inl (x), .inl (w)] :: g :: gs) (d + 4) (mk I X) Q := by
  have hn8 : nb s ≤ 8 := G.1.1.1
  refine am_go 400 ?_
  refine (c_X7_isSheet (x := x)) _ _ _ ?_
  refine am_go 400 ?_
  refine am_if (fun h1 => ?_) (fun h1 => ?_)
  · have h1 := bI_0.mp h1
    exact k0 h1
  · have h1 := bI_1.mp h1
    obtain ⟨e_x, l_x⟩ := okl (m := 3) (by decide) h1
    have z_x : (sh s (kx x)).2.1 ≤ 24 := (G.2.2.1 (kx x) (by omega)).2
    refine (c_X7_within (w) (0) (1)) _ _ _ ?_
    refine am_go 400 ?_
    refine am_if (fun h2 => ?_) (fun h2 => ?_)
    · have h2 := bI_0.mp h2
      exact k1 h1 h2
    · have h2 := bI_1.mp h2
      refine am_f (ix_in (n := (kx x)) (N := 4) e_x (by omega) (by decide)) ?_
      have tk0 : (x).toNatClampNeg = (kx x) := ix_cl (n := (kx x)) e_x (by omega)
      have tk1 : I 4 (((x).toNatClampNeg)) 1 = (sh s (kx x)).1 := by first | exact (shC h (k := kx x) (by omega)).1 | (((try rw [tk0])); first | done | exact (shC h (k := kx x) (by omega)).1)
      refine am_if (fun h3 => ?_) (fun h3 => ?_)
      · have h3 : (I 4 (((x).toNatClampNeg)) 1) = (-1) := h3
        try rw [tk1] at h3
        try rw [tk0] at h3
        exact k2 h1 h2 h3
      · have h3 : ¬ (I 4 (((x).toNatClampNeg)) 1) = (-1) := h3
        try rw [tk1] at h3
        try rw [tk0] at h3
        refine am_cf rfl ?_
        refine am_cut ?_
        refine am_go 6 ?_
        show am_WP ((mX7_old, 48, [some (.inr (.inr (some (7, 0)))), some (.inl (x)), some (.inl (w)), some (.inr (.inr (some (4, ((x).toNatClampNeg))))), some (.inl ((-1000000005))), some (.inl ((-1000000005))), some (.inl (0)), none], []) :: g :: gs) (d + 4) (mk I X) Q
        try rw [tk0]
        exact k3 h1 h2 h3
theorem p_X7_old {I X d s} (h : RC I X s) (G : GS s) (gp : GP s) (x w : Int32) : Sp mX7_old [.inr (.inr (some (7, 0))), .inl (x), .inl (w)] (d + 4) I X (OC I X (f_old s x w)) := fun g gs Q K => by
  have hn8 : nb s ≤ 8 := G.1.1.1
  have g8 : G8 s := G8_ G
  refine w_X7_old h G  ?_ ?_ ?_ ?_
  · intro h0
    apply K_s K
    unfold f_old
    rw [if_neg h0]
    exact ⟨rfl, h, FrC_r⟩
  · intro h0 h1
    obtain ⟨e_x, l_x⟩ := okl (m := 3) (by decide) h0
    have z_x : (sh s (kx x)).2.1 ≤ 24 := (G.2.2.1 (kx x) (by omega)).2
    apply K_s K
    unfold f_old
    rw [if_pos h0, if_neg h1]
    exact ⟨rfl, h, FrC_r⟩
  · intro h0 h1 h2
    obtain ⟨e_x, l_x⟩ := okl (m := 3) (by decide) h0
    have z_x : (sh s (kx x)).2.1 ≤ 24 := (G.2.2.1 (kx x) (by omega)).2
    apply K_s K
    unfold f_old
    rw [if_pos h0, if_pos h1, if_pos h2]
    exact ⟨rfl, h, FrC_r⟩
  · intro h0 h1 h2
    obtain ⟨e_x, l_x⟩ := okl (m := 3) (by decide) h0
    have z_x : (sh s (kx x)).2.1 ≤ 24 := (G.2.2.1 (kx x) (by omega)).2
    refine l_oldC h G gp (by omega) _ 0 none none (Nat.zero_add _) (fun p hp => by cases hp) ?_
    apply K_s K
    unfold f_old
    rw [if_pos h0, if_pos h1, if_neg h2]
    refine ⟨?_, h, FrC_r⟩
    generalize aV w (olL s (sh s (kx x)) (nb s) 0 none) = vv
    rfl

set_option maxRecDepth 100000 in
set_option maxHeartbeats 4000000 in
theorem w_X8_old {I : Nat → Nat → Nat → Int32} {X : am_Z} {g : am_F} {gs : List am_F} {d : Nat} {Q : Option am_V → am_M → Prop} {s : St} (h : RM I s) (G : GS s) {x w : Int32} (k0 : (¬ ((0 : Int32) ≤ x ∧ x ≤ 3)) → am_WP (am_psh g (some (.inl ((-1000000001)))) :: gs) (d + 3) (mk I X) Q) (k1 : ((0 : Int32) ≤ x ∧ x ≤ 3) → (¬ ((0 : Int32) ≤ w ∧ w ≤ 1)) → am_WP (am_psh g (some (.inl ((-1000000001)))) :: gs) (d + 3) (mk I X) Q) (k2 : ((0 : Int32) ≤ x ∧ x ≤ 3) → ((0 : Int32) ≤ w ∧ w ≤ 1) → (0 ≤ ((sh s (kx x)).1)) → am_WP ((mX8_old, 41, [some (.inr (.inr (some (8, 0)))), some (.inl (x)), some (.inl (w)), some (.inl ((-1))), some (.inl (0)), some (.inl (0)), none, none, none], []) :: g :: gs) (d + 2) (mk I X) Q) (k3 : ((0 : Int32) ≤ x ∧ x ≤ 3) → ((0 : Int32) ≤ w ∧ w ≤ 1) → (¬ 0 ≤ ((sh s (kx x)).1)) → am_WP (am_psh g (some (.inl ((-1000000011)))) :: gs) (d + 3) (mk I X) Q) : am_WP (am_entry mX8_old [.inr (.inr (some (8, 0))), .inl (x), .inl (w)] :: g :: gs) (d + 2) (mk I X) Q := by
  have hn8 : nb s ≤ 8 := G.1.1.1
  refine am_go 400 ?_
  refine (c_X8_isSheet (x := x)) _ _ _ ?_
  refine am_go 400 ?_
  refine am_if (fun h1 => ?_) (fun h1 => ?_)
  · have h1 := bI_0.mp h1
    exact k0 h1
  · have h1 := bI_1.mp h1
    obtain ⟨e_x, l_x⟩ := okl (m := 3) (by decide) h1
    have z_x : (sh s (kx x)).2.1 ≤ 24 := (G.2.2.1 (kx x) (by omega)).2
    refine (m_isIn (w) (0) (1) _ _) _ _ _ ?_
    refine am_go 400 ?_
    refine am_if (fun h2 => ?_) (fun h2 => ?_)
    · have h2 := bI_0.mp h2
      exact k1 h1 h2
    · have h2 := bI_1.mp h2
      refine am_f (ix_in (n := (kx x)) (N := 4) e_x (by omega) (by decide)) ?_
      have tk0 : (x).toNatClampNeg = (kx x) := ix_cl (n := (kx x)) e_x (by omega)
      have tk1 : I 33 0 (((x).toNatClampNeg)) = (sh s (kx x)).1 := by first | exact (shM h (k := kx x) (by omega)).1 | (((try rw [tk0])); first | done | exact (shM h (k := kx x) (by omega)).1)
      refine am_if (fun h3 => ?_) (fun h3 => ?_)
      · have h3 : 0 ≤ (I 33 0 (((x).toNatClampNeg))) := h3
        try rw [tk1] at h3
        try rw [tk0] at h3
        refine am_cf rfl ?_
        refine am_cut ?_
        refine am_go 6 ?_
        exact k2 h1 h2 h3
      · have h3 : ¬ 0 ≤ (I 33 0 (((x).toNatClampNeg))) := h3
        try rw [tk1] at h3
        try rw [tk0] at h3
        exact k3 h1 h2 h3
theorem p_X8_old {I X d s} (h : RM I s) (G : GS s) (gp : GP s) (x w : Int32) : Sp mX8_old [.inr (.inr (some (8, 0))), .inl (x), .inl (w)] (d + 2) I X (OM I X (f_old s x w)) := fun g gs Q K => by
  have hn8 : nb s ≤ 8 := G.1.1.1
  have g8 : G8 s := G8_ G
  refine w_X8_old h G  ?_ ?_ ?_ ?_
  · intro h0
    apply K_s K
    unfold f_old
    rw [if_neg h0]
    exact ⟨rfl, h, FrM_r, rfl⟩
  · intro h0 h1
    obtain ⟨e_x, l_x⟩ := okl (m := 3) (by decide) h0
    have z_x : (sh s (kx x)).2.1 ≤ 24 := (G.2.2.1 (kx x) (by omega)).2
    apply K_s K
    unfold f_old
    rw [if_pos h0, if_neg h1]
    exact ⟨rfl, h, FrM_r, rfl⟩
  · intro h0 h1 h2
    obtain ⟨e_x, l_x⟩ := okl (m := 3) (by decide) h0
    have z_x : (sh s (kx x)).2.1 ≤ 24 := (G.2.2.1 (kx x) (by omega)).2
    refine l_oldM h G gp e_x (by omega) _ 0 none none none none (Nat.zero_add _) (fun p hp => by cases hp) ?_
    apply K_s K
    unfold f_old
    rw [if_pos h0, if_pos h1, if_neg ((srt G (k := kx x) (by omega)).mp h2)]
    refine ⟨?_, h, FrM_r, rfl⟩
    generalize aV w (olL s (sh s (kx x)) (nb s) 0 none) = vv
    rfl
  · intro h0 h1 h2
    obtain ⟨e_x, l_x⟩ := okl (m := 3) (by decide) h0
    have z_x : (sh s (kx x)).2.1 ≤ 24 := (G.2.2.1 (kx x) (by omega)).2
    apply K_s K
    unfold f_old
    rw [if_pos h0, if_pos h1, if_pos (srt2 G (k := kx x) (by omega) h2)]
    exact ⟨rfl, h, FrM_r, rfl⟩

