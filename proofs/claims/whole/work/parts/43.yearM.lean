/-! A YEAR, the model -/
def FrY (I I' : Im) : Prop := (∀ g, g ≠ 30 → I' g = I g) ∧ ∀ j, j = 1 ∨ 150 ≤ j → I' 30 0 j = I 30 0 j
theorem FrY_r {I} : FrY I I := ⟨fun _ _ => rfl, fun _ _ => rfl⟩
theorem FrY_t {I I' I''} (h : FrY I I') (h2 : FrY I' I'') : FrY I I'' := ⟨fun g n => (h2.1 g n).trans (h.1 g n), fun j n => (h2.2 j n).trans (h.2 j n)⟩
theorem FrY_3 {I I' j v} (h : FrY I I') (hj : j ≠ 1 ∧ j < 150) : FrY I (up3 I' 30 0 j v) := ⟨fun g n => by rw [up3_g n]; exact h.1 g n, fun i n => by rw [up3_j (by omega)]; exact h.2 i n⟩
theorem RM_cel {I I' s σ} (h : RM I s) (F : FrY I I') (hR : RepM (I' 30 0) σ) : RM I' ((σ, s.1.2), s.2) := by
  obtain ⟨h1, hi, hr, hs, hw, htp⟩ := h
  have e := F.1
  refine ⟨CeM_w h1 (fun j hj => F.2 j (by omega)) hR, ?_, fun k hk => ?_, fun k hk => ?_, ?_, ?_⟩
  · exact RM_im hi (by rw [e 8 (by decide)]) (by rw [e 31 (by decide)])
  · obtain ⟨a, b, c⟩ := hr k hk
    exact ⟨by rw [e 33 (by decide)]; exact a, by rw [e 34 (by decide)]; exact b, by rw [e 35 (by decide)]; exact c⟩
  · obtain ⟨a, b, c, d⟩ := hs k hk
    exact ⟨by rw [e 36 (by decide)]; exact a, by rw [e 37 (by decide), e 38 (by decide)]; exact b, by rw [e 39 (by decide), e 40 (by decide)]; exact c, by rw [e 37 (by decide)]; exact d⟩
  · exact ⟨by rw [e 8 (by decide)]; exact hw.1, by rw [e 48 (by decide)]; exact hw.2⟩
  · exact ⟨by rw [e 8 (by decide)]; exact htp.1, by rw [e 44 (by decide)]; exact htp.2⟩
theorem FrM_Y {I I'} (F : FrY I I') : FrM I I' := fun g hg => F.1 g (fun e => by subst e; cases hg)
theorem RepM_Z {I σ x} (h : RepM (I 30 0) σ) : RepM (up3 I 30 0 5 x 30 0) (setZ σ x) := RepM_z h (fun j => up3_at j)
theorem RepM_Y {I σ x v} (h : RepM (I 30 0) σ) (hx : x = nI v) : RepM (up3 I 30 0 2 x 30 0) (setH σ 0 v) := RepM_h (i := 0) h (Or.inl rfl) hx (fun j => up3_at j)
theorem RepM_0 {I σ x k j v} (h : RepM (I 30 0) σ) (hk : k < σ.1) (hj : j < 6) (hx : x = nI v) : RepM (up3 I 30 0 (6 + 18 * k + j) x 30 0) (setB σ k (b0 (σ.2.2.2 k) j v)) := RepM_w0 h hk (fun i => up3_at i) hj hx
theorem RepM_1 {I σ x k j v} (h : RepM (I 30 0) σ) (hk : k < σ.1) (hj : j < 6) (hx : x = nI v) : RepM (up3 I 30 0 (6 + 18 * k + (6 + j)) x 30 0) (setB σ k (b1 (σ.2.2.2 k) j v)) := RepM_w1 h hk (fun i => up3_at i) hj hx
theorem RepM_2 {I σ x k j v} (h : RepM (I 30 0) σ) (hk : k < σ.1) (hj : j < 6) (hx : x = nI v) : RepM (up3 I 30 0 (6 + 18 * k + (12 + j)) x 30 0) (setB σ k (b2 (σ.2.2.2 k) j v)) := RepM_w2 h hk (fun i => up3_at i) hj hx
theorem setB_2 {σ : Cn} {k : Nat} {a b : Bn} : setB (setB σ k a) k b = setB σ k b := by
  unfold setB
  have : fu (fu σ.2.2.2 k a) k b = fu σ.2.2.2 k b := by
    funext j
    by_cases e : j = k
    · subst e; rw [fu_s, fu_s]
    · rw [fu_n e, fu_n e, fu_n e]
  show (σ.1, σ.2.1, σ.2.2.1, fu (fu σ.2.2.2 k a) k b) = _
  rw [this]
set_option maxRecDepth 100000 in
set_option maxHeartbeats 4000000 in
theorem w_X8_goesOn {I : Nat → Nat → Nat → Int32} {X : am_Z} {g : am_F} {gs : List am_F} {d : Nat} {Q : Option am_V → am_M → Prop} {σ : Cn} (hR : RepM (I 30 0) σ) (hG : GD σ) (k0 : ((σ.2.1 1) ≤ ((dN (σ.2.2.1)) % 100)) → am_WP ((mX8_goesOn, 24, [some (.inr (.inr (some (8, 0)))), some (.inl (0)), some (.inl (0))], []) :: g :: gs) (d + 2) (mk (up3 I 30 0 (5) (dZ (σ.2.2.1))) X) Q) (k1 : (¬ ((σ.2.1 1) ≤ ((dN (σ.2.2.1)) % 100))) → am_WP ((mX8_goesOn, 24, [some (.inr (.inr (some (8, 0)))), some (.inl (1)), some (.inl (0))], []) :: g :: gs) (d + 2) (mk (up3 I 30 0 (5) (dZ (σ.2.2.1))) X) Q) : am_WP (am_entry mX8_goesOn [.inr (.inr (some (8, 0)))] :: g :: gs) (d + 2) (mk I X) Q := by
  refine am_go 400 ?_
  have tk0 : I 30 0 5 = σ.2.2.1 := hR.2.2.2.2.1
  have tk1 : nI (dN (I 30 0 5)) = nI (dN (σ.2.2.1)) := by first | exact congrArg (fun z => nI (dN z)) tk0 | (((try rw [tk0])); first | done | exact congrArg (fun z => nI (dN z)) tk0)
  have bd : (dN (σ.2.2.1)) + 1 ≤ 16777216 := dN_lt _
  refine (c_X8_draw) _ _ _ ?_
  refine am_go 400 ?_
  have tk2 : ((nI (dN (I 30 0 5))) - (nI (dN (I 30 0 5))) / 100 * 100) = nI ((dN (σ.2.2.1)) % 100) := by first | exact remE tk1 (rfl : (100 : Int32) = nI 100) (by omega) (by omega) (by omega) | (((try rw [tk1]); (try rw [tk0])); first | done | exact remE tk1 (rfl : (100 : Int32) = nI 100) (by omega) (by omega) (by omega))
  have bd : (dN (σ.2.2.1)) % 100 < 100 := Nat.mod_lt _ (by omega)
  have bd : (σ.2.1 1) ≤ 100 := hG.2.1
  have tk3 : (up3 I 30 0 (5) (dZ (I 30 0 5))) 30 0 3 = nI (σ.2.1 1) := by first | exact ((up3_j (by decide))).trans hR.2.2.1 | (((try rw [tk0])); first | done | exact ((up3_j (by decide))).trans hR.2.2.1)
  refine am_if (fun h1 => ?_) (fun h1 => ?_)
  · have nh1 := (le_nat (a := (σ.2.1 1)) (b := ((dN (σ.2.2.1)) % 100)) tk3 tk2 (by omega) (by omega)).mp h1
    refine am_cf rfl ?_
    refine am_cut ?_
    refine am_go 4 ?_
    show am_WP ((mX8_goesOn, 24, [some (.inr (.inr (some (8, 0)))), some (.inl (0)), some (.inl (0))], []) :: g :: gs) (d + 2) (mk (up3 I 30 0 (5) (dZ (I 30 0 5))) X) Q
    try rw [tk0]
    exact k0 nh1
  · have nh1 := mt (le_nat (a := (σ.2.1 1)) (b := ((dN (σ.2.2.1)) % 100)) tk3 tk2 (by omega) (by omega)).mpr h1
    refine am_cut ?_
    refine am_go 5 ?_
    show am_WP ((mX8_goesOn, 24, [some (.inr (.inr (some (8, 0)))), some (.inl (1)), some (.inl (0))], []) :: g :: gs) (d + 2) (mk (up3 I 30 0 (5) (dZ (I 30 0 5))) X) Q
    try rw [tk0]
    exact k1 nh1
set_option maxRecDepth 100000 in
set_option maxHeartbeats 4000000 in
theorem w_X8_goesOn_24_0 {I : Nat → Nat → Nat → Int32} {X : am_Z} {g : am_F} {gs : List am_F} {d : Nat} {Q : Option am_V → am_M → Prop} {i : Nat} {σ : Cn} (hR : RepM (I 30 0) σ) (hG : GD σ) (hi : i ≤ σ.1) (k0 : (σ.1 ≤ i) → (σ.1 ≤ 0) → am_WP (am_psh g (some (.inl (0))) :: gs) (d + 3) (mk (up3 I 30 0 (2) ((nI ((σ.2.1 0) + 1)))) X) Q) (k1 : (σ.1 ≤ i) → (¬ (σ.1 ≤ 0)) → am_WP (am_psh g (some (.inl (0))) :: gs) (d + 3) (mk (up3 (up3 (up3 (up3 I 30 0 (5) (dZ (σ.2.2.1))) 30 0 (5) (dZ (dZ (σ.2.2.1)))) 30 0 (6 + 18 * ((dN (σ.2.2.1)) % σ.1) + (6 + ((dN (dZ (σ.2.2.1))) % 6))) ((nI (((σ.2.2.2 ((dN (σ.2.2.1)) % σ.1)).2.1 ((dN (dZ (σ.2.2.1))) % 6)) - 1)))) 30 0 (2) ((nI ((σ.2.1 0) + 1)))) X) Q) (k2 : (¬ (σ.1 ≤ i)) → (((σ.2.2.2 i).1 3) = 6) → (((σ.2.2.2 i).1 2) = 0) → am_WP ((mX8_goesOn, 24, [some (.inr (.inr (some (8, 0)))), some (.inl (0)), some (.inl ((nI (i + 1))))], []) :: g :: gs) (d + 2) (mk (up3 (up3 I 30 0 (6 + 18 * i + 1) ((nI (min (((σ.2.2.2 i).1 1) + 1) 99)))) 30 0 (6 + 18 * i + (6 + 0)) ((nI (((σ.2.2.2 i).2.1 0) - (σ.2.1 2))))) X) Q) (k3 : (¬ (σ.1 ≤ i)) → (((σ.2.2.2 i).1 3) = 6) → (¬ (((σ.2.2.2 i).1 2) = 0)) → am_WP ((mX8_goesOn, 24, [some (.inr (.inr (some (8, 0)))), some (.inl (0)), some (.inl ((nI (i + 1))))], []) :: g :: gs) (d + 2) (mk (up3 I 30 0 (6 + 18 * i + 1) ((nI (min (((σ.2.2.2 i).1 1) + 1) 99)))) X) Q) (k4 : (¬ (σ.1 ≤ i)) → (¬ (((σ.2.2.2 i).1 3) = 6)) → am_WP ((mX8_goesOn, 24, [some (.inr (.inr (some (8, 0)))), some (.inl (0)), some (.inl ((nI (i + 1))))], []) :: g :: gs) (d + 2) (mk I X) Q) : am_WP ((mX8_goesOn, 24, [some (.inr (.inr (some (8, 0)))), some (.inl (0)), some (.inl (nI i))], []) :: g :: gs) (d + 2) (mk I X) Q := by
  have hn8 := hG.1
  refine am_go 400 ?_
  have bd : σ.1 ≤ 8 := hG.1
  have tk0 : I 30 0 0 = nI σ.1 := hR.1
  refine am_if (fun h1 => ?_) (fun h1 => ?_)
  · have nh1 := (le_nat (a := σ.1) (b := i) tk0 (rfl : (nI i : Int32) = nI i) (by omega) (by omega)).mp h1
    have bd : σ.1 ≤ 8 := hG.1
    refine am_if (fun h2 => ?_) (fun h2 => ?_)
    · have nh2 := (le_nat (a := σ.1) (b := 0) tk0 (rfl : (0 : Int32) = nI 0) (by omega) (by omega)).mp h2
      have tk1 : I 30 0 2 = nI (σ.2.1 0) := hR.2.1
      have tk2 : ((I 30 0 2) + 1) = nI ((σ.2.1 0) + 1) := by first | exact (nI_addE tk1 (rfl : (1 : Int32) = nI 1)) | (((try rw [tk1])); first | done | exact (nI_addE tk1 (rfl : (1 : Int32) = nI 1)))
      show am_WP (am_psh g (some (.inl (0))) :: gs) (d + 3) (mk (up3 I 30 0 (2) ((((I 30 0 2) + 1)))) X) Q
      try rw [tk2]
      try rw [tk1]
      exact k0 nh1 nh2
    · have nh2 := mt (le_nat (a := σ.1) (b := 0) tk0 (rfl : (0 : Int32) = nI 0) (by omega) (by omega)).mpr h2
      have tk3 : I 30 0 5 = σ.2.2.1 := hR.2.2.2.2.1
      have tk4 : nI (dN (I 30 0 5)) = nI (dN (σ.2.2.1)) := by first | exact congrArg (fun z => nI (dN z)) tk3 | (((try rw [tk3])); first | done | exact congrArg (fun z => nI (dN z)) tk3)
      have bd : (dN (σ.2.2.1)) + 1 ≤ 16777216 := dN_lt _
      refine (c_X8_draw) _ _ _ ?_
      refine am_go 400 ?_
      have bd : σ.1 ≤ 8 := hG.1
      have tk5 : (up3 I 30 0 (5) (dZ (I 30 0 5))) 30 0 0 = nI σ.1 := by first | exact ((up3_j (by decide))).trans hR.1 | (((try rw [tk3])); first | done | exact ((up3_j (by decide))).trans hR.1)
      refine am_f (nzE tk5 (by omega) (by omega)) ?_
      have tk6 : ((nI (dN (I 30 0 5))) - (nI (dN (I 30 0 5))) / ((up3 I 30 0 (5) (dZ (I 30 0 5))) 30 0 0) * ((up3 I 30 0 (5) (dZ (I 30 0 5))) 30 0 0)) = nI ((dN (σ.2.2.1)) % σ.1) := by first | exact remE tk4 tk5 (by omega) (by omega) (by omega) | (((try rw [tk5]); (try rw [tk4]); (try rw [tk3])); first | done | exact remE tk4 tk5 (by omega) (by omega) (by omega))
      have bd : (dN (σ.2.2.1)) % σ.1 < σ.1 := Nat.mod_lt _ (by omega)
      have tk7 : (up3 I 30 0 (5) (dZ (I 30 0 5))) 30 0 5 = dZ (σ.2.2.1) := by first | exact up3_s | (((try rw [tk3])); first | done | exact up3_s)
      have tk8 : nI (dN ((up3 I 30 0 (5) (dZ (I 30 0 5))) 30 0 5)) = nI (dN (dZ (σ.2.2.1))) := by first | exact congrArg (fun z => nI (dN z)) tk7 | (((try rw [tk7]); (try rw [tk3])); first | done | exact congrArg (fun z => nI (dN z)) tk7)
      have bd : (dN (dZ (σ.2.2.1))) + 1 ≤ 16777216 := dN_lt _
      refine (c_X8_draw) _ _ _ ?_
      refine am_go 400 ?_
      have tk9 : ((nI (dN ((up3 I 30 0 (5) (dZ (I 30 0 5))) 30 0 5))) - (nI (dN ((up3 I 30 0 (5) (dZ (I 30 0 5))) 30 0 5))) / 6 * 6) = nI ((dN (dZ (σ.2.2.1))) % 6) := by first | exact remE tk8 (rfl : (6 : Int32) = nI 6) (by omega) (by omega) (by omega) | (((try rw [tk8]); (try rw [tk7]); (try rw [tk3])); first | done | exact remE tk8 (rfl : (6 : Int32) = nI 6) (by omega) (by omega) (by omega))
      have bd : (dN (dZ (σ.2.2.1))) % 6 < 6 := Nat.mod_lt _ (by omega)
      refine am_go 400 ?_
      have bd : ((σ.2.2.2 ((dN (σ.2.2.1)) % σ.1)).2.1 ((dN (dZ (σ.2.2.1))) % 6)) ≤ 24 := ((hG.2.2.2 ((dN (σ.2.2.1)) % σ.1) (by omega)).2.2.2.2.2 _ (by omega)).1
      have tk10 : (up3 (up3 I 30 0 (5) (dZ (I 30 0 5))) 30 0 (5) (dZ ((up3 I 30 0 (5) (dZ (I 30 0 5))) 30 0 5))) 30 0 (6 + 18 * ((dN (σ.2.2.1)) % σ.1) + (6 + ((dN (dZ (σ.2.2.1))) % 6))) = nI ((σ.2.2.2 ((dN (σ.2.2.1)) % σ.1)).2.1 ((dN (dZ (σ.2.2.1))) % 6)) := by first | exact ((up3_j (by omega))).trans (((up3_j (by omega))).trans ((hR.2.2.2.2.2 ((dN (σ.2.2.1)) % σ.1) (by omega) ((dN (dZ (σ.2.2.1))) % 6) (by omega)).2.1)) | (((try rw [tk7]); (try rw [tk3])); first | done | exact ((up3_j (by omega))).trans (((up3_j (by omega))).trans ((hR.2.2.2.2.2 ((dN (σ.2.2.1)) % σ.1) (by omega) ((dN (dZ (σ.2.2.1))) % 6) (by omega)).2.1)))
      refine (c8_of (k := ((dN (σ.2.2.1)) % σ.1)) (j := (6 + ((dN (dZ (σ.2.2.1))) % 6))) tk6 (nI_addE (rfl : (6 : Int32) = nI 6) tk9) (by omega)) _ _ _ ?_
      refine am_go 400 ?_
      have tk11 : (wit ((((up3 (up3 I 30 0 (5) (dZ (I 30 0 5))) 30 0 (5) (dZ ((up3 I 30 0 (5) (dZ (I 30 0 5))) 30 0 5))) 30 0 (6 + 18 * ((dN (σ.2.2.1)) % σ.1) + (6 + ((dN (dZ (σ.2.2.1))) % 6)))) - 1)) (24)) = nI (((σ.2.2.2 ((dN (σ.2.2.1)) % σ.1)).2.1 ((dN (dZ (σ.2.2.1))) % 6)) - 1) := by first | exact witS (m := 24) tk10 (rfl : (1 : Int32) = nI 1) (by omega) (by omega) (by omega) | (((try rw [tk10]); (try rw [tk7]); (try rw [tk3])); first | done | exact witS (m := 24) tk10 (rfl : (1 : Int32) = nI 1) (by omega) (by omega) (by omega))
      refine (c8_within ((((up3 (up3 I 30 0 (5) (dZ (I 30 0 5))) 30 0 (5) (dZ ((up3 I 30 0 (5) (dZ (I 30 0 5))) 30 0 5))) 30 0 (6 + 18 * ((dN (σ.2.2.1)) % σ.1) + (6 + ((dN (dZ (σ.2.2.1))) % 6)))) - 1)) (24)) _ _ _ ?_
      refine am_go 400 ?_
      refine (c8_puts (k := ((dN (σ.2.2.1)) % σ.1)) (j := (6 + ((dN (dZ (σ.2.2.1))) % 6))) tk6 (nI_addE (rfl : (6 : Int32) = nI 6) tk9) (by omega)) _ _ _ ?_
      refine am_go 400 ?_
      refine am_go 400 ?_
      have tk12 : (up3 (up3 (up3 I 30 0 (5) (dZ (I 30 0 5))) 30 0 (5) (dZ ((up3 I 30 0 (5) (dZ (I 30 0 5))) 30 0 5))) 30 0 (6 + 18 * ((dN (σ.2.2.1)) % σ.1) + (6 + ((dN (dZ (σ.2.2.1))) % 6))) (((wit ((((up3 (up3 I 30 0 (5) (dZ (I 30 0 5))) 30 0 (5) (dZ ((up3 I 30 0 (5) (dZ (I 30 0 5))) 30 0 5))) 30 0 (6 + 18 * ((dN (σ.2.2.1)) % σ.1) + (6 + ((dN (dZ (σ.2.2.1))) % 6)))) - 1)) (24))))) 30 0 2 = nI (σ.2.1 0) := by first | exact ((up3_j (by omega))).trans (((up3_j (by decide))).trans (((up3_j (by decide))).trans hR.2.1)) | (((try rw [tk11]); (try rw [tk10]); (try rw [tk7]); (try rw [tk3])); first | done | exact ((up3_j (by omega))).trans (((up3_j (by decide))).trans (((up3_j (by decide))).trans hR.2.1)))
      have tk13 : (((up3 (up3 (up3 I 30 0 (5) (dZ (I 30 0 5))) 30 0 (5) (dZ ((up3 I 30 0 (5) (dZ (I 30 0 5))) 30 0 5))) 30 0 (6 + 18 * ((dN (σ.2.2.1)) % σ.1) + (6 + ((dN (dZ (σ.2.2.1))) % 6))) (((wit ((((up3 (up3 I 30 0 (5) (dZ (I 30 0 5))) 30 0 (5) (dZ ((up3 I 30 0 (5) (dZ (I 30 0 5))) 30 0 5))) 30 0 (6 + 18 * ((dN (σ.2.2.1)) % σ.1) + (6 + ((dN (dZ (σ.2.2.1))) % 6)))) - 1)) (24))))) 30 0 2) + 1) = nI ((σ.2.1 0) + 1) := by first | exact (nI_addE tk12 (rfl : (1 : Int32) = nI 1)) | (((try rw [tk12]); (try rw [tk11]); (try rw [tk10]); (try rw [tk7]); (try rw [tk3])); first | done | exact (nI_addE tk12 (rfl : (1 : Int32) = nI 1)))
      show am_WP (am_psh g (some (.inl (0))) :: gs) (d + 3) (mk (up3 (up3 (up3 (up3 I 30 0 (5) (dZ (I 30 0 5))) 30 0 (5) (dZ ((up3 I 30 0 (5) (dZ (I 30 0 5))) 30 0 5))) 30 0 (6 + 18 * ((dN (σ.2.2.1)) % σ.1) + (6 + ((dN (dZ (σ.2.2.1))) % 6))) (((wit ((((up3 (up3 I 30 0 (5) (dZ (I 30 0 5))) 30 0 (5) (dZ ((up3 I 30 0 (5) (dZ (I 30 0 5))) 30 0 5))) 30 0 (6 + 18 * ((dN (σ.2.2.1)) % σ.1) + (6 + ((dN (dZ (σ.2.2.1))) % 6)))) - 1)) (24))))) 30 0 (2) (((((up3 (up3 (up3 I 30 0 (5) (dZ (I 30 0 5))) 30 0 (5) (dZ ((up3 I 30 0 (5) (dZ (I 30 0 5))) 30 0 5))) 30 0 (6 + 18 * ((dN (σ.2.2.1)) % σ.1) + (6 + ((dN (dZ (σ.2.2.1))) % 6))) (((wit ((((up3 (up3 I 30 0 (5) (dZ (I 30 0 5))) 30 0 (5) (dZ ((up3 I 30 0 (5) (dZ (I 30 0 5))) 30 0 5))) 30 0 (6 + 18 * ((dN (σ.2.2.1)) % σ.1) + (6 + ((dN (dZ (σ.2.2.1))) % 6)))) - 1)) (24))))) 30 0 2) + 1)))) X) Q
      try rw [tk13]
      try rw [tk12]
      try rw [tk11]
      try rw [tk10]
      try rw [tk7]
      try rw [tk3]
      exact k1 nh1 nh2
  · have nh1 := mt (le_nat (a := σ.1) (b := i) tk0 (rfl : (nI i : Int32) = nI i) (by omega) (by omega)).mpr h1
    have bd : ((σ.2.2.2 i).1 3) ≤ 6 := (hG.2.2.2 i (by omega)).2.2.2.1
    have tk14 : I 30 0 (6 + 18 * i + 3) = nI ((σ.2.2.2 i).1 3) := (hR.2.2.2.2.2 i (by omega) 3 (by omega)).1
    refine (c8_of (k := i) (j := 3) rfl rfl (by omega)) _ _ _ ?_
    refine am_go 400 ?_
    refine am_if (fun h3 => ?_) (fun h3 => ?_)
    · have nh3 := (eq_nat (a := ((σ.2.2.2 i).1 3)) (b := 6) tk14 (rfl : (6 : Int32) = nI 6) (by omega) (by omega)).mp h3
      have bd : ((σ.2.2.2 i).1 1) ≤ 99 := (hG.2.2.2 i (by omega)).2.1
      have tk15 : I 30 0 (6 + 18 * i + 1) = nI ((σ.2.2.2 i).1 1) := (hR.2.2.2.2.2 i (by omega) 1 (by omega)).1
      refine (c8_of (k := i) (j := 1) rfl rfl (by omega)) _ _ _ ?_
      refine am_go 400 ?_
      have tk16 : (wit (((I 30 0 (6 + 18 * i + 1)) + 1)) (99)) = nI (min (((σ.2.2.2 i).1 1) + 1) 99) := by first | exact witM (m := 99) (nI_addE tk15 (rfl : (1 : Int32) = nI 1)) (by omega) (by decide) | (((try rw [tk15])); first | done | exact witM (m := 99) (nI_addE tk15 (rfl : (1 : Int32) = nI 1)) (by omega) (by decide))
      refine (c8_within (((I 30 0 (6 + 18 * i + 1)) + 1)) (99)) _ _ _ ?_
      refine am_go 400 ?_
      refine (c8_puts (k := i) (j := 1) rfl rfl (by omega)) _ _ _ ?_
      refine am_go 400 ?_
      have bd : ((σ.2.2.2 i).1 2) ≤ 1 := (hG.2.2.2 i (by omega)).2.2.1
      have tk17 : (up3 I 30 0 (6 + 18 * i + 1) (((wit (((I 30 0 (6 + 18 * i + 1)) + 1)) (99))))) 30 0 (6 + 18 * i + 2) = nI ((σ.2.2.2 i).1 2) := by first | exact ((up3_j (by omega))).trans ((hR.2.2.2.2.2 i (by omega) 2 (by omega)).1) | (((try rw [tk16]); (try rw [tk15])); first | done | exact ((up3_j (by omega))).trans ((hR.2.2.2.2.2 i (by omega) 2 (by omega)).1))
      refine (c8_of (k := i) (j := 2) rfl rfl (by omega)) _ _ _ ?_
      refine am_go 400 ?_
      refine am_if (fun h4 => ?_) (fun h4 => ?_)
      · have nh4 := (eq_nat (a := ((σ.2.2.2 i).1 2)) (b := 0) tk17 (rfl : (0 : Int32) = nI 0) (by omega) (by omega)).mp h4
        have bd : (σ.2.1 2) ≤ 5 := hG.2.2.1
        have tk18 : (up3 I 30 0 (6 + 18 * i + 1) (((wit (((I 30 0 (6 + 18 * i + 1)) + 1)) (99))))) 30 0 4 = nI (σ.2.1 2) := by first | exact ((up3_j (by omega))).trans hR.2.2.2.1 | (((try rw [tk16]); (try rw [tk15])); first | done | exact ((up3_j (by omega))).trans hR.2.2.2.1)
        refine am_go 400 ?_
        have bd : ((σ.2.2.2 i).2.1 0) ≤ 24 := ((hG.2.2.2 i (by omega)).2.2.2.2.2 _ (by omega)).1
        have tk19 : (up3 I 30 0 (6 + 18 * i + 1) (((wit (((I 30 0 (6 + 18 * i + 1)) + 1)) (99))))) 30 0 (6 + 18 * i + (6 + 0)) = nI ((σ.2.2.2 i).2.1 0) := by first | exact ((up3_j (by omega))).trans ((hR.2.2.2.2.2 i (by omega) 0 (by omega)).2.1) | (((try rw [tk16]); (try rw [tk15])); first | done | exact ((up3_j (by omega))).trans ((hR.2.2.2.2.2 i (by omega) 0 (by omega)).2.1))
        refine (c8_of (k := i) (j := (6 + 0)) rfl (rfl : (6 : Int32) = nI (6 + 0)) (by omega)) _ _ _ ?_
        refine am_go 400 ?_
        have tk20 : (wit ((((up3 I 30 0 (6 + 18 * i + 1) (((wit (((I 30 0 (6 + 18 * i + 1)) + 1)) (99))))) 30 0 (6 + 18 * i + (6 + 0))) - ((up3 I 30 0 (6 + 18 * i + 1) (((wit (((I 30 0 (6 + 18 * i + 1)) + 1)) (99))))) 30 0 4))) (24)) = nI (((σ.2.2.2 i).2.1 0) - (σ.2.1 2)) := by first | exact witS (m := 24) tk19 tk18 (by omega) (by omega) (by omega) | (((try rw [tk19]); (try rw [tk18]); (try rw [tk16]); (try rw [tk15])); first | done | exact witS (m := 24) tk19 tk18 (by omega) (by omega) (by omega))
        refine (c8_within ((((up3 I 30 0 (6 + 18 * i + 1) (((wit (((I 30 0 (6 + 18 * i + 1)) + 1)) (99))))) 30 0 (6 + 18 * i + (6 + 0))) - ((up3 I 30 0 (6 + 18 * i + 1) (((wit (((I 30 0 (6 + 18 * i + 1)) + 1)) (99))))) 30 0 4))) (24)) _ _ _ ?_
        refine am_go 400 ?_
        refine (c8_puts (k := i) (j := (6 + 0)) rfl (rfl : (6 : Int32) = nI (6 + 0)) (by omega)) _ _ _ ?_
        refine am_go 400 ?_
        refine am_go 400 ?_
        have tk21 : (nI i + 1) = nI (i + 1) := (nI_addE rfl (rfl : (1 : Int32) = nI 1))
        show am_WP ((mX8_goesOn, 24, [some (.inr (.inr (some (8, 0)))), some (.inl (0)), some (.inl (((nI i + 1))))], []) :: g :: gs) (d + 2) (mk (up3 (up3 I 30 0 (6 + 18 * i + 1) (((wit (((I 30 0 (6 + 18 * i + 1)) + 1)) (99))))) 30 0 (6 + 18 * i + (6 + 0)) (((wit ((((up3 I 30 0 (6 + 18 * i + 1) (((wit (((I 30 0 (6 + 18 * i + 1)) + 1)) (99))))) 30 0 (6 + 18 * i + (6 + 0))) - ((up3 I 30 0 (6 + 18 * i + 1) (((wit (((I 30 0 (6 + 18 * i + 1)) + 1)) (99))))) 30 0 4))) (24))))) X) Q
        try rw [tk20]
        try rw [tk19]
        try rw [tk18]
        try rw [tk16]
        try rw [tk15]
        try rw [tk21]
        exact k2 nh1 nh3 nh4
      · have nh4 := mt (eq_nat (a := ((σ.2.2.2 i).1 2)) (b := 0) tk17 (rfl : (0 : Int32) = nI 0) (by omega) (by omega)).mpr h4
        have tk22 : (nI i + 1) = nI (i + 1) := (nI_addE rfl (rfl : (1 : Int32) = nI 1))
        show am_WP ((mX8_goesOn, 24, [some (.inr (.inr (some (8, 0)))), some (.inl (0)), some (.inl (((nI i + 1))))], []) :: g :: gs) (d + 2) (mk (up3 I 30 0 (6 + 18 * i + 1) (((wit (((I 30 0 (6 + 18 * i + 1)) + 1)) (99))))) X) Q
        try rw [tk16]
        try rw [tk15]
        try rw [tk22]
        exact k3 nh1 nh3 nh4
    · have nh3 := mt (eq_nat (a := ((σ.2.2.2 i).1 3)) (b := 6) tk14 (rfl : (6 : Int32) = nI 6) (by omega) (by omega)).mpr h3
      have tk23 : (nI i + 1) = nI (i + 1) := (nI_addE rfl (rfl : (1 : Int32) = nI 1))
      show am_WP ((mX8_goesOn, 24, [some (.inr (.inr (some (8, 0)))), some (.inl (0)), some (.inl (((nI i + 1))))], []) :: g :: gs) (d + 2) (mk I X) Q
      try rw [tk23]
      exact k4 nh1 nh3
set_option maxRecDepth 100000 in
set_option maxHeartbeats 4000000 in
theorem w_X8_goesOn_24_1 {I : Nat → Nat → Nat → Int32} {X : am_Z} {g : am_F} {gs : List am_F} {d : Nat} {Q : Option am_V → am_M → Prop} {i : Nat} {σ : Cn} (hR : RepM (I 30 0) σ) (hG : GD σ) (hi : i ≤ σ.1) (k0 : (σ.1 ≤ i) → (σ.1 ≤ 0) → am_WP (am_psh g (some (.inl (1))) :: gs) (d + 3) (mk (up3 I 30 0 (2) ((nI ((σ.2.1 0) + 1)))) X) Q) (k1 : (σ.1 ≤ i) → (¬ (σ.1 ≤ 0)) → am_WP (am_psh g (some (.inl (1))) :: gs) (d + 3) (mk (up3 (up3 (up3 (up3 I 30 0 (5) (dZ (σ.2.2.1))) 30 0 (5) (dZ (dZ (σ.2.2.1)))) 30 0 (6 + 18 * ((dN (σ.2.2.1)) % σ.1) + (6 + ((dN (dZ (σ.2.2.1))) % 6))) ((nI (((σ.2.2.2 ((dN (σ.2.2.1)) % σ.1)).2.1 ((dN (dZ (σ.2.2.1))) % 6)) - 1)))) 30 0 (2) ((nI ((σ.2.1 0) + 1)))) X) Q) (k2 : (¬ (σ.1 ≤ i)) → (((σ.2.2.2 i).1 3) = 6) → (((σ.2.2.2 i).1 2) = 1) → am_WP ((mX8_goesOn, 24, [some (.inr (.inr (some (8, 0)))), some (.inl (1)), some (.inl ((nI (i + 1))))], []) :: g :: gs) (d + 2) (mk (up3 (up3 I 30 0 (6 + 18 * i + 1) ((nI (min (((σ.2.2.2 i).1 1) + 1) 99)))) 30 0 (6 + 18 * i + (12 + 5)) ((nI (((σ.2.2.2 i).2.2 5) - (σ.2.1 2))))) X) Q) (k3 : (¬ (σ.1 ≤ i)) → (((σ.2.2.2 i).1 3) = 6) → (¬ (((σ.2.2.2 i).1 2) = 1)) → am_WP ((mX8_goesOn, 24, [some (.inr (.inr (some (8, 0)))), some (.inl (1)), some (.inl ((nI (i + 1))))], []) :: g :: gs) (d + 2) (mk (up3 I 30 0 (6 + 18 * i + 1) ((nI (min (((σ.2.2.2 i).1 1) + 1) 99)))) X) Q) (k4 : (¬ (σ.1 ≤ i)) → (¬ (((σ.2.2.2 i).1 3) = 6)) → am_WP ((mX8_goesOn, 24, [some (.inr (.inr (some (8, 0)))), some (.inl (1)), some (.inl ((nI (i + 1))))], []) :: g :: gs) (d + 2) (mk I X) Q) : am_WP ((mX8_goesOn, 24, [some (.inr (.inr (some (8, 0)))), some (.inl (1)), some (.inl (nI i))], []) :: g :: gs) (d + 2) (mk I X) Q := by
  have hn8 := hG.1
  refine am_go 400 ?_
  have bd : σ.1 ≤ 8 := hG.1
  have tk0 : I 30 0 0 = nI σ.1 := hR.1
  refine am_if (fun h1 => ?_) (fun h1 => ?_)
  · have nh1 := (le_nat (a := σ.1) (b := i) tk0 (rfl : (nI i : Int32) = nI i) (by omega) (by omega)).mp h1
    have bd : σ.1 ≤ 8 := hG.1
    refine am_if (fun h2 => ?_) (fun h2 => ?_)
    · have nh2 := (le_nat (a := σ.1) (b := 0) tk0 (rfl : (0 : Int32) = nI 0) (by omega) (by omega)).mp h2
      have tk1 : I 30 0 2 = nI (σ.2.1 0) := hR.2.1
      have tk2 : ((I 30 0 2) + 1) = nI ((σ.2.1 0) + 1) := by first | exact (nI_addE tk1 (rfl : (1 : Int32) = nI 1)) | (((try rw [tk1])); first | done | exact (nI_addE tk1 (rfl : (1 : Int32) = nI 1)))
      show am_WP (am_psh g (some (.inl (1))) :: gs) (d + 3) (mk (up3 I 30 0 (2) ((((I 30 0 2) + 1)))) X) Q
      try rw [tk2]
      try rw [tk1]
      exact k0 nh1 nh2
    · have nh2 := mt (le_nat (a := σ.1) (b := 0) tk0 (rfl : (0 : Int32) = nI 0) (by omega) (by omega)).mpr h2
      have tk3 : I 30 0 5 = σ.2.2.1 := hR.2.2.2.2.1
      have tk4 : nI (dN (I 30 0 5)) = nI (dN (σ.2.2.1)) := by first | exact congrArg (fun z => nI (dN z)) tk3 | (((try rw [tk3])); first | done | exact congrArg (fun z => nI (dN z)) tk3)
      have bd : (dN (σ.2.2.1)) + 1 ≤ 16777216 := dN_lt _
      refine (c_X8_draw) _ _ _ ?_
      refine am_go 400 ?_
      have bd : σ.1 ≤ 8 := hG.1
      have tk5 : (up3 I 30 0 (5) (dZ (I 30 0 5))) 30 0 0 = nI σ.1 := by first | exact ((up3_j (by decide))).trans hR.1 | (((try rw [tk3])); first | done | exact ((up3_j (by decide))).trans hR.1)
      refine am_f (nzE tk5 (by omega) (by omega)) ?_
      have tk6 : ((nI (dN (I 30 0 5))) - (nI (dN (I 30 0 5))) / ((up3 I 30 0 (5) (dZ (I 30 0 5))) 30 0 0) * ((up3 I 30 0 (5) (dZ (I 30 0 5))) 30 0 0)) = nI ((dN (σ.2.2.1)) % σ.1) := by first | exact remE tk4 tk5 (by omega) (by omega) (by omega) | (((try rw [tk5]); (try rw [tk4]); (try rw [tk3])); first | done | exact remE tk4 tk5 (by omega) (by omega) (by omega))
      have bd : (dN (σ.2.2.1)) % σ.1 < σ.1 := Nat.mod_lt _ (by omega)
      have tk7 : (up3 I 30 0 (5) (dZ (I 30 0 5))) 30 0 5 = dZ (σ.2.2.1) := by first | exact up3_s | (((try rw [tk3])); first | done | exact up3_s)
      have tk8 : nI (dN ((up3 I 30 0 (5) (dZ (I 30 0 5))) 30 0 5)) = nI (dN (dZ (σ.2.2.1))) := by first | exact congrArg (fun z => nI (dN z)) tk7 | (((try rw [tk7]); (try rw [tk3])); first | done | exact congrArg (fun z => nI (dN z)) tk7)
      have bd : (dN (dZ (σ.2.2.1))) + 1 ≤ 16777216 := dN_lt _
      refine (c_X8_draw) _ _ _ ?_
      refine am_go 400 ?_
      have tk9 : ((nI (dN ((up3 I 30 0 (5) (dZ (I 30 0 5))) 30 0 5))) - (nI (dN ((up3 I 30 0 (5) (dZ (I 30 0 5))) 30 0 5))) / 6 * 6) = nI ((dN (dZ (σ.2.2.1))) % 6) := by first | exact remE tk8 (rfl : (6 : Int32) = nI 6) (by omega) (by omega) (by omega) | (((try rw [tk8]); (try rw [tk7]); (try rw [tk3])); first | done | exact remE tk8 (rfl : (6 : Int32) = nI 6) (by omega) (by omega) (by omega))
      have bd : (dN (dZ (σ.2.2.1))) % 6 < 6 := Nat.mod_lt _ (by omega)
      refine am_go 400 ?_
      have bd : ((σ.2.2.2 ((dN (σ.2.2.1)) % σ.1)).2.1 ((dN (dZ (σ.2.2.1))) % 6)) ≤ 24 := ((hG.2.2.2 ((dN (σ.2.2.1)) % σ.1) (by omega)).2.2.2.2.2 _ (by omega)).1
      have tk10 : (up3 (up3 I 30 0 (5) (dZ (I 30 0 5))) 30 0 (5) (dZ ((up3 I 30 0 (5) (dZ (I 30 0 5))) 30 0 5))) 30 0 (6 + 18 * ((dN (σ.2.2.1)) % σ.1) + (6 + ((dN (dZ (σ.2.2.1))) % 6))) = nI ((σ.2.2.2 ((dN (σ.2.2.1)) % σ.1)).2.1 ((dN (dZ (σ.2.2.1))) % 6)) := by first | exact ((up3_j (by omega))).trans (((up3_j (by omega))).trans ((hR.2.2.2.2.2 ((dN (σ.2.2.1)) % σ.1) (by omega) ((dN (dZ (σ.2.2.1))) % 6) (by omega)).2.1)) | (((try rw [tk7]); (try rw [tk3])); first | done | exact ((up3_j (by omega))).trans (((up3_j (by omega))).trans ((hR.2.2.2.2.2 ((dN (σ.2.2.1)) % σ.1) (by omega) ((dN (dZ (σ.2.2.1))) % 6) (by omega)).2.1)))
      refine (c8_of (k := ((dN (σ.2.2.1)) % σ.1)) (j := (6 + ((dN (dZ (σ.2.2.1))) % 6))) tk6 (nI_addE (rfl : (6 : Int32) = nI 6) tk9) (by omega)) _ _ _ ?_
      refine am_go 400 ?_
      have tk11 : (wit ((((up3 (up3 I 30 0 (5) (dZ (I 30 0 5))) 30 0 (5) (dZ ((up3 I 30 0 (5) (dZ (I 30 0 5))) 30 0 5))) 30 0 (6 + 18 * ((dN (σ.2.2.1)) % σ.1) + (6 + ((dN (dZ (σ.2.2.1))) % 6)))) - 1)) (24)) = nI (((σ.2.2.2 ((dN (σ.2.2.1)) % σ.1)).2.1 ((dN (dZ (σ.2.2.1))) % 6)) - 1) := by first | exact witS (m := 24) tk10 (rfl : (1 : Int32) = nI 1) (by omega) (by omega) (by omega) | (((try rw [tk10]); (try rw [tk7]); (try rw [tk3])); first | done | exact witS (m := 24) tk10 (rfl : (1 : Int32) = nI 1) (by omega) (by omega) (by omega))
      refine (c8_within ((((up3 (up3 I 30 0 (5) (dZ (I 30 0 5))) 30 0 (5) (dZ ((up3 I 30 0 (5) (dZ (I 30 0 5))) 30 0 5))) 30 0 (6 + 18 * ((dN (σ.2.2.1)) % σ.1) + (6 + ((dN (dZ (σ.2.2.1))) % 6)))) - 1)) (24)) _ _ _ ?_
      refine am_go 400 ?_
      refine (c8_puts (k := ((dN (σ.2.2.1)) % σ.1)) (j := (6 + ((dN (dZ (σ.2.2.1))) % 6))) tk6 (nI_addE (rfl : (6 : Int32) = nI 6) tk9) (by omega)) _ _ _ ?_
      refine am_go 400 ?_
      refine am_go 400 ?_
      have tk12 : (up3 (up3 (up3 I 30 0 (5) (dZ (I 30 0 5))) 30 0 (5) (dZ ((up3 I 30 0 (5) (dZ (I 30 0 5))) 30 0 5))) 30 0 (6 + 18 * ((dN (σ.2.2.1)) % σ.1) + (6 + ((dN (dZ (σ.2.2.1))) % 6))) (((wit ((((up3 (up3 I 30 0 (5) (dZ (I 30 0 5))) 30 0 (5) (dZ ((up3 I 30 0 (5) (dZ (I 30 0 5))) 30 0 5))) 30 0 (6 + 18 * ((dN (σ.2.2.1)) % σ.1) + (6 + ((dN (dZ (σ.2.2.1))) % 6)))) - 1)) (24))))) 30 0 2 = nI (σ.2.1 0) := by first | exact ((up3_j (by omega))).trans (((up3_j (by decide))).trans (((up3_j (by decide))).trans hR.2.1)) | (((try rw [tk11]); (try rw [tk10]); (try rw [tk7]); (try rw [tk3])); first | done | exact ((up3_j (by omega))).trans (((up3_j (by decide))).trans (((up3_j (by decide))).trans hR.2.1)))
      have tk13 : (((up3 (up3 (up3 I 30 0 (5) (dZ (I 30 0 5))) 30 0 (5) (dZ ((up3 I 30 0 (5) (dZ (I 30 0 5))) 30 0 5))) 30 0 (6 + 18 * ((dN (σ.2.2.1)) % σ.1) + (6 + ((dN (dZ (σ.2.2.1))) % 6))) (((wit ((((up3 (up3 I 30 0 (5) (dZ (I 30 0 5))) 30 0 (5) (dZ ((up3 I 30 0 (5) (dZ (I 30 0 5))) 30 0 5))) 30 0 (6 + 18 * ((dN (σ.2.2.1)) % σ.1) + (6 + ((dN (dZ (σ.2.2.1))) % 6)))) - 1)) (24))))) 30 0 2) + 1) = nI ((σ.2.1 0) + 1) := by first | exact (nI_addE tk12 (rfl : (1 : Int32) = nI 1)) | (((try rw [tk12]); (try rw [tk11]); (try rw [tk10]); (try rw [tk7]); (try rw [tk3])); first | done | exact (nI_addE tk12 (rfl : (1 : Int32) = nI 1)))
      show am_WP (am_psh g (some (.inl (1))) :: gs) (d + 3) (mk (up3 (up3 (up3 (up3 I 30 0 (5) (dZ (I 30 0 5))) 30 0 (5) (dZ ((up3 I 30 0 (5) (dZ (I 30 0 5))) 30 0 5))) 30 0 (6 + 18 * ((dN (σ.2.2.1)) % σ.1) + (6 + ((dN (dZ (σ.2.2.1))) % 6))) (((wit ((((up3 (up3 I 30 0 (5) (dZ (I 30 0 5))) 30 0 (5) (dZ ((up3 I 30 0 (5) (dZ (I 30 0 5))) 30 0 5))) 30 0 (6 + 18 * ((dN (σ.2.2.1)) % σ.1) + (6 + ((dN (dZ (σ.2.2.1))) % 6)))) - 1)) (24))))) 30 0 (2) (((((up3 (up3 (up3 I 30 0 (5) (dZ (I 30 0 5))) 30 0 (5) (dZ ((up3 I 30 0 (5) (dZ (I 30 0 5))) 30 0 5))) 30 0 (6 + 18 * ((dN (σ.2.2.1)) % σ.1) + (6 + ((dN (dZ (σ.2.2.1))) % 6))) (((wit ((((up3 (up3 I 30 0 (5) (dZ (I 30 0 5))) 30 0 (5) (dZ ((up3 I 30 0 (5) (dZ (I 30 0 5))) 30 0 5))) 30 0 (6 + 18 * ((dN (σ.2.2.1)) % σ.1) + (6 + ((dN (dZ (σ.2.2.1))) % 6)))) - 1)) (24))))) 30 0 2) + 1)))) X) Q
      try rw [tk13]
      try rw [tk12]
      try rw [tk11]
      try rw [tk10]
      try rw [tk7]
      try rw [tk3]
      exact k1 nh1 nh2
  · have nh1 := mt (le_nat (a := σ.1) (b := i) tk0 (rfl : (nI i : Int32) = nI i) (by omega) (by omega)).mpr h1
    have bd : ((σ.2.2.2 i).1 3) ≤ 6 := (hG.2.2.2 i (by omega)).2.2.2.1
    have tk14 : I 30 0 (6 + 18 * i + 3) = nI ((σ.2.2.2 i).1 3) := (hR.2.2.2.2.2 i (by omega) 3 (by omega)).1
    refine (c8_of (k := i) (j := 3) rfl rfl (by omega)) _ _ _ ?_
    refine am_go 400 ?_
    refine am_if (fun h3 => ?_) (fun h3 => ?_)
    · have nh3 := (eq_nat (a := ((σ.2.2.2 i).1 3)) (b := 6) tk14 (rfl : (6 : Int32) = nI 6) (by omega) (by omega)).mp h3
      have bd : ((σ.2.2.2 i).1 1) ≤ 99 := (hG.2.2.2 i (by omega)).2.1
      have tk15 : I 30 0 (6 + 18 * i + 1) = nI ((σ.2.2.2 i).1 1) := (hR.2.2.2.2.2 i (by omega) 1 (by omega)).1
      refine (c8_of (k := i) (j := 1) rfl rfl (by omega)) _ _ _ ?_
      refine am_go 400 ?_
      have tk16 : (wit (((I 30 0 (6 + 18 * i + 1)) + 1)) (99)) = nI (min (((σ.2.2.2 i).1 1) + 1) 99) := by first | exact witM (m := 99) (nI_addE tk15 (rfl : (1 : Int32) = nI 1)) (by omega) (by decide) | (((try rw [tk15])); first | done | exact witM (m := 99) (nI_addE tk15 (rfl : (1 : Int32) = nI 1)) (by omega) (by decide))
      refine (c8_within (((I 30 0 (6 + 18 * i + 1)) + 1)) (99)) _ _ _ ?_
      refine am_go 400 ?_
      refine (c8_puts (k := i) (j := 1) rfl rfl (by omega)) _ _ _ ?_
      refine am_go 400 ?_
      have bd : ((σ.2.2.2 i).1 2) ≤ 1 := (hG.2.2.2 i (by omega)).2.2.1
      have tk17 : (up3 I 30 0 (6 + 18 * i + 1) (((wit (((I 30 0 (6 + 18 * i + 1)) + 1)) (99))))) 30 0 (6 + 18 * i + 2) = nI ((σ.2.2.2 i).1 2) := by first | exact ((up3_j (by omega))).trans ((hR.2.2.2.2.2 i (by omega) 2 (by omega)).1) | (((try rw [tk16]); (try rw [tk15])); first | done | exact ((up3_j (by omega))).trans ((hR.2.2.2.2.2 i (by omega) 2 (by omega)).1))
      refine (c8_of (k := i) (j := 2) rfl rfl (by omega)) _ _ _ ?_
      refine am_go 400 ?_
      refine am_if (fun h4 => ?_) (fun h4 => ?_)
      · have nh4 := (eq_nat (a := ((σ.2.2.2 i).1 2)) (b := 1) tk17 (rfl : (1 : Int32) = nI 1) (by omega) (by omega)).mp h4
        have bd : (σ.2.1 2) ≤ 5 := hG.2.2.1
        have tk18 : (up3 I 30 0 (6 + 18 * i + 1) (((wit (((I 30 0 (6 + 18 * i + 1)) + 1)) (99))))) 30 0 4 = nI (σ.2.1 2) := by first | exact ((up3_j (by omega))).trans hR.2.2.2.1 | (((try rw [tk16]); (try rw [tk15])); first | done | exact ((up3_j (by omega))).trans hR.2.2.2.1)
        refine am_go 400 ?_
        have bd : ((σ.2.2.2 i).2.2 5) ≤ 24 := ((hG.2.2.2 i (by omega)).2.2.2.2.2 _ (by omega)).2
        have tk19 : (up3 I 30 0 (6 + 18 * i + 1) (((wit (((I 30 0 (6 + 18 * i + 1)) + 1)) (99))))) 30 0 (6 + 18 * i + (12 + 5)) = nI ((σ.2.2.2 i).2.2 5) := by first | exact ((up3_j (by omega))).trans ((hR.2.2.2.2.2 i (by omega) 5 (by omega)).2.2) | (((try rw [tk16]); (try rw [tk15])); first | done | exact ((up3_j (by omega))).trans ((hR.2.2.2.2.2 i (by omega) 5 (by omega)).2.2))
        refine (c8_of (k := i) (j := (12 + 5)) rfl (rfl : (17 : Int32) = nI (12 + 5)) (by omega)) _ _ _ ?_
        refine am_go 400 ?_
        have tk20 : (wit ((((up3 I 30 0 (6 + 18 * i + 1) (((wit (((I 30 0 (6 + 18 * i + 1)) + 1)) (99))))) 30 0 (6 + 18 * i + (12 + 5))) - ((up3 I 30 0 (6 + 18 * i + 1) (((wit (((I 30 0 (6 + 18 * i + 1)) + 1)) (99))))) 30 0 4))) (24)) = nI (((σ.2.2.2 i).2.2 5) - (σ.2.1 2)) := by first | exact witS (m := 24) tk19 tk18 (by omega) (by omega) (by omega) | (((try rw [tk19]); (try rw [tk18]); (try rw [tk16]); (try rw [tk15])); first | done | exact witS (m := 24) tk19 tk18 (by omega) (by omega) (by omega))
        refine (c8_within ((((up3 I 30 0 (6 + 18 * i + 1) (((wit (((I 30 0 (6 + 18 * i + 1)) + 1)) (99))))) 30 0 (6 + 18 * i + (12 + 5))) - ((up3 I 30 0 (6 + 18 * i + 1) (((wit (((I 30 0 (6 + 18 * i + 1)) + 1)) (99))))) 30 0 4))) (24)) _ _ _ ?_
        refine am_go 400 ?_
        refine (c8_puts (k := i) (j := (12 + 5)) rfl (rfl : (17 : Int32) = nI (12 + 5)) (by omega)) _ _ _ ?_
        refine am_go 400 ?_
        refine am_go 400 ?_
        have tk21 : (nI i + 1) = nI (i + 1) := (nI_addE rfl (rfl : (1 : Int32) = nI 1))
        show am_WP ((mX8_goesOn, 24, [some (.inr (.inr (some (8, 0)))), some (.inl (1)), some (.inl (((nI i + 1))))], []) :: g :: gs) (d + 2) (mk (up3 (up3 I 30 0 (6 + 18 * i + 1) (((wit (((I 30 0 (6 + 18 * i + 1)) + 1)) (99))))) 30 0 (6 + 18 * i + (12 + 5)) (((wit ((((up3 I 30 0 (6 + 18 * i + 1) (((wit (((I 30 0 (6 + 18 * i + 1)) + 1)) (99))))) 30 0 (6 + 18 * i + (12 + 5))) - ((up3 I 30 0 (6 + 18 * i + 1) (((wit (((I 30 0 (6 + 18 * i + 1)) + 1)) (99))))) 30 0 4))) (24))))) X) Q
        try rw [tk20]
        try rw [tk19]
        try rw [tk18]
        try rw [tk16]
        try rw [tk15]
        try rw [tk21]
        exact k2 nh1 nh3 nh4
      · have nh4 := mt (eq_nat (a := ((σ.2.2.2 i).1 2)) (b := 1) tk17 (rfl : (1 : Int32) = nI 1) (by omega) (by omega)).mpr h4
        have tk22 : (nI i + 1) = nI (i + 1) := (nI_addE rfl (rfl : (1 : Int32) = nI 1))
        show am_WP ((mX8_goesOn, 24, [some (.inr (.inr (some (8, 0)))), some (.inl (1)), some (.inl (((nI i + 1))))], []) :: g :: gs) (d + 2) (mk (up3 I 30 0 (6 + 18 * i + 1) (((wit (((I 30 0 (6 + 18 * i + 1)) + 1)) (99))))) X) Q
        try rw [tk16]
        try rw [tk15]
        try rw [tk22]
        exact k3 nh1 nh3 nh4
    · have nh3 := mt (eq_nat (a := ((σ.2.2.2 i).1 3)) (b := 6) tk14 (rfl : (6 : Int32) = nI 6) (by omega) (by omega)).mpr h3
      have tk23 : (nI i + 1) = nI (i + 1) := (nI_addE rfl (rfl : (1 : Int32) = nI 1))
      show am_WP ((mX8_goesOn, 24, [some (.inr (.inr (some (8, 0)))), some (.inl (1)), some (.inl (((nI i + 1))))], []) :: g :: gs) (d + 2) (mk I X) Q
      try rw [tk23]
      exact k4 nh1 nh3
