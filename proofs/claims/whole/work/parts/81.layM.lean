set_option maxRecDepth 100000 in
set_option maxHeartbeats 4000000 in
theorem w_X8_lay_t0 {I : Nat → Nat → Nat → Int32} {X : am_Z} {g : am_F} {gs : List am_F} {d : Nat} {Q : Option am_V → am_M → Prop} {s : St} (h : RM I s) (G : GS s) {x k : Int32} (k0 : (¬ ((0 : Int32) ≤ x ∧ x ≤ 4)) → am_WP (am_psh g (some (.inl ((-1000000001)))) :: gs) (d + 3) (mk I X) Q) (k1 : ((0 : Int32) ≤ x ∧ x ≤ 4) → am_WP (am_psh g (some (.inl ((nI (sl s (kx x)).1)))) :: gs) (d + 3) (mk (up3 (up3 (up3 I 36 0 (((kx x))) (0)) 37 0 (((kx x))) (k)) 38 0 (((kx x))) (0)) X) Q) : am_WP (am_entry mX8_lay [.inr (.inr (some (8, 0))), .inl (x), .inl (0), .inl (k)] :: g :: gs) (d + 2) (mk I X) Q := by
  have hn8 : nb s ≤ 8 := G.1.1.1
  refine am_go 400 ?_
  refine (c_X8_isSlot (x := x)) _ _ _ ?_
  refine am_go 400 ?_
  refine am_if (fun h1 => ?_) (fun h1 => ?_)
  · have h1 := bI_0.mp h1
    exact k0 h1
  · have h1 := bI_1.mp h1
    obtain ⟨e_x, l_x⟩ := okl (m := 4) (by decide) h1
    refine am_f (ix_in (n := (kx x)) (N := 5) e_x (by omega) (by decide)) ?_
    have tk0 : (x).toNatClampNeg = (kx x) := ix_cl (n := (kx x)) e_x (by omega)
    have tk1 : I 36 0 (((x).toNatClampNeg)) = nI (sl s (kx x)).1 := by first | exact (slM h (k := kx x) (by omega)).1 | (((try rw [tk0])); first | done | exact (slM h (k := kx x) (by omega)).1)
    refine am_f (ix_in (n := (kx x)) (N := 5) e_x (by omega) (by decide)) ?_
    refine am_f (ix_in (n := (kx x)) (N := 5) e_x (by omega) (by decide)) ?_
    refine am_f (ix_in (n := (kx x)) (N := 5) e_x (by omega) (by decide)) ?_
    show am_WP (am_psh g (some (.inl ((I 36 0 (((x).toNatClampNeg)))))) :: gs) (d + 3) (mk (up3 (up3 (up3 I 36 0 (((x).toNatClampNeg)) (0)) 37 0 (((x).toNatClampNeg)) (k)) 38 0 (((x).toNatClampNeg)) (0)) X) Q
    try rw [tk1]
    try rw [tk0]
    exact k1 h1
set_option maxRecDepth 100000 in
set_option maxHeartbeats 4000000 in
theorem w_X8_lay_t1 {I : Nat → Nat → Nat → Int32} {X : am_Z} {g : am_F} {gs : List am_F} {d : Nat} {Q : Option am_V → am_M → Prop} {s : St} (h : RM I s) (G : GS s) {x k : Int32} (k0 : (¬ ((0 : Int32) ≤ k ∧ k ≤ (nI (nb s)) - 1)) → (¬ ((0 : Int32) ≤ x ∧ x ≤ 4)) → am_WP (am_psh g (some (.inl ((-1000000001)))) :: gs) (d + 3) (mk I X) Q) (k1 : (¬ ((0 : Int32) ≤ k ∧ k ≤ (nI (nb s)) - 1)) → ((0 : Int32) ≤ x ∧ x ≤ 4) → am_WP (am_psh g (some (.inl ((-1000000001)))) :: gs) (d + 3) (mk I X) Q) (k2 : ((0 : Int32) ≤ k ∧ k ≤ (nI (nb s)) - 1) → (¬ ((0 : Int32) ≤ x ∧ x ≤ 4)) → am_WP (am_psh g (some (.inl ((-1000000001)))) :: gs) (d + 3) (mk I X) Q) (k3 : ((0 : Int32) ≤ k ∧ k ≤ (nI (nb s)) - 1) → ((0 : Int32) ≤ x ∧ x ≤ 4) → am_WP (am_psh g (some (.inl ((nI (sl s (kx x)).1)))) :: gs) (d + 3) (mk (up3 (up3 (up3 I 36 0 (((kx x))) (1)) 37 0 (((kx x))) ((nI ((bo s (kx k)).1 0)))) 38 0 (((kx x))) ((wrS ((mB ((up3 (up3 I 36 0 (((kx x))) (1)) 37 0 (((kx x))) ((nI ((bo s (kx k)).1 0)))) 30 0) (kx k)).1 0) ((mB ((up3 (up3 I 36 0 (((kx x))) (1)) 37 0 (((kx x))) ((nI ((bo s (kx k)).1 0)))) 30 0) (kx k)).1 1)))) X) Q) : am_WP (am_entry mX8_lay [.inr (.inr (some (8, 0))), .inl (x), .inl (1), .inl (k)] :: g :: gs) (d + 2) (mk I X) Q := by
  have hn8 : nb s ≤ 8 := G.1.1.1
  refine am_go 400 ?_
  have tk0 : I 30 0 0 = nI (nb s) := h.1.1.1
  refine (c_X8_isBottle (x := k)) _ _ _ ?_
  refine am_go 400 ?_
  refine am_if (fun h1 => ?_) (fun h1 => ?_)
  · have h1 := bI_0.mp h1
    have h1 : ¬ ((0 : Int32) ≤ k ∧ k ≤ (I 30 0 0) - 1) := h1
    try rw [tk0] at h1
    refine (c_X8_isSlot (x := x)) _ _ _ ?_
    refine am_go 400 ?_
    refine am_if (fun h2 => ?_) (fun h2 => ?_)
    · have h2 := bI_0.mp h2
      exact k0 h1 h2
    · have h2 := bI_1.mp h2
      obtain ⟨e_x, l_x⟩ := okl (m := 4) (by decide) h2
      exact k1 h1 h2
  · have h1 := bI_1.mp h1
    have h1 : (0 : Int32) ≤ k ∧ k ≤ (I 30 0 0) - 1 := h1
    try rw [tk0] at h1
    obtain ⟨e_k, l_k⟩ := okb rfl hn8 h1
    obtain ⟨g0_k, g1_k, g2_k, g3_k, g5_k, gs_k⟩ := id (GS_b G l_k)
    refine (c_X8_isSlot (x := x)) _ _ _ ?_
    refine am_go 400 ?_
    refine am_if (fun h3 => ?_) (fun h3 => ?_)
    · have h3 := bI_0.mp h3
      exact k2 h1 h3
    · have h3 := bI_1.mp h3
      obtain ⟨e_x, l_x⟩ := okl (m := 4) (by decide) h3
      refine am_f (ix_in (n := (kx x)) (N := 5) e_x (by omega) (by decide)) ?_
      have tk1 : (x).toNatClampNeg = (kx x) := ix_cl (n := (kx x)) e_x (by omega)
      have tk2 : I 36 0 (((x).toNatClampNeg)) = nI (sl s (kx x)).1 := by first | exact (slM h (k := kx x) (by omega)).1 | (((try rw [tk1])); first | done | exact (slM h (k := kx x) (by omega)).1)
      refine am_f (ix_in (n := (kx x)) (N := 5) e_x (by omega) (by decide)) ?_
      have bd : ((bo s (kx k)).1 0) ≤ 5 := (GS_b G (k := kx k) (by omega)).1
      have tk3 : (up3 I 36 0 (((x).toNatClampNeg)) (1)) 30 0 (6 + 18 * (kx k) + 0) = nI ((bo s (kx k)).1 0) := by first | exact vM0 (I := I) (k := kx k) (j := 0) h (by omega) (by omega) | (((try rw [tk1])); first | done | exact vM0 (I := I) (k := kx k) (j := 0) h (by omega) (by omega))
      refine (c8_of (k := (kx k)) (j := 0) e_k rfl (by omega)) _ _ _ ?_
      refine am_go 400 ?_
      refine am_f (ix_in (n := (kx x)) (N := 5) e_x (by omega) (by decide)) ?_
      refine (cE_X8_worth (k := (kx k)) e_k (by omega)) _ _ _ ?_
      refine am_go 400 ?_
      refine am_f (ix_in (n := (kx x)) (N := 5) e_x (by omega) (by decide)) ?_
      show am_WP (am_psh g (some (.inl ((I 36 0 (((x).toNatClampNeg)))))) :: gs) (d + 3) (mk (up3 (up3 (up3 I 36 0 (((x).toNatClampNeg)) (1)) 37 0 (((x).toNatClampNeg)) (((up3 I 36 0 (((x).toNatClampNeg)) (1)) 30 0 (6 + 18 * (kx k) + 0)))) 38 0 (((x).toNatClampNeg)) ((wrS ((mB ((up3 (up3 I 36 0 (((x).toNatClampNeg)) (1)) 37 0 (((x).toNatClampNeg)) (((up3 I 36 0 (((x).toNatClampNeg)) (1)) 30 0 (6 + 18 * (kx k) + 0)))) 30 0) (kx k)).1 0) ((mB ((up3 (up3 I 36 0 (((x).toNatClampNeg)) (1)) 37 0 (((x).toNatClampNeg)) (((up3 I 36 0 (((x).toNatClampNeg)) (1)) 30 0 (6 + 18 * (kx k) + 0)))) 30 0) (kx k)).1 1)))) X) Q
      try rw [tk3]
      try rw [tk2]
      try rw [tk1]
      exact k3 h1 h3
set_option maxRecDepth 100000 in
set_option maxHeartbeats 4000000 in
theorem w_X8_lay_t2 {I : Nat → Nat → Nat → Int32} {X : am_Z} {g : am_F} {gs : List am_F} {d : Nat} {Q : Option am_V → am_M → Prop} {s : St} (h : RM I s) (G : GS s) {x k : Int32} (k0 : (¬ ((0 : Int32) ≤ k ∧ k ≤ 3)) → (¬ ((0 : Int32) ≤ x ∧ x ≤ 4)) → am_WP (am_psh g (some (.inl ((-1000000001)))) :: gs) (d + 3) (mk I X) Q) (k1 : (¬ ((0 : Int32) ≤ k ∧ k ≤ 3)) → ((0 : Int32) ≤ x ∧ x ≤ 4) → am_WP (am_psh g (some (.inl ((-1000000001)))) :: gs) (d + 3) (mk I X) Q) (k2 : ((0 : Int32) ≤ k ∧ k ≤ 3) → (¬ ((0 : Int32) ≤ x ∧ x ≤ 4)) → am_WP (am_psh g (some (.inl ((-1000000001)))) :: gs) (d + 3) (mk I X) Q) (k3 : ((0 : Int32) ≤ k ∧ k ≤ 3) → ((0 : Int32) ≤ x ∧ x ≤ 4) → (0 ≤ ((sh s (kx k)).1)) → am_WP ((mX8_lay, 150, [some (.inr (.inr (some (8, 0)))), some (.inl (x)), some (.inl (2)), some (.inl (k)), some (.inl (1)), some (.inl ((nI (sl s (kx x)).1))), some (.inl (0))], []) :: g :: gs) (d + 2) (mk (up3 (up3 (up3 (up3 I 36 0 (((kx x))) (2)) 37 0 (((kx x))) (k)) 38 0 (((kx x))) (0)) 39 0 (((kx x))) ((nI (sh s (kx k)).2.1))) X) Q) (k4 : ((0 : Int32) ≤ k ∧ k ≤ 3) → ((0 : Int32) ≤ x ∧ x ≤ 4) → (¬ 0 ≤ ((sh s (kx k)).1)) → am_WP (am_psh g (some (.inl ((-1000000011)))) :: gs) (d + 3) (mk I X) Q) : am_WP (am_entry mX8_lay [.inr (.inr (some (8, 0))), .inl (x), .inl (2), .inl (k)] :: g :: gs) (d + 2) (mk I X) Q := by
  have hn8 : nb s ≤ 8 := G.1.1.1
  refine am_go 400 ?_
  refine (c_X8_isSheet (x := k)) _ _ _ ?_
  refine am_go 400 ?_
  refine am_if (fun h1 => ?_) (fun h1 => ?_)
  · have h1 := bI_0.mp h1
    refine (c_X8_isSlot (x := x)) _ _ _ ?_
    refine am_go 400 ?_
    refine am_if (fun h2 => ?_) (fun h2 => ?_)
    · have h2 := bI_0.mp h2
      exact k0 h1 h2
    · have h2 := bI_1.mp h2
      obtain ⟨e_x, l_x⟩ := okl (m := 4) (by decide) h2
      exact k1 h1 h2
  · have h1 := bI_1.mp h1
    obtain ⟨e_k, l_k⟩ := okl (m := 3) (by decide) h1
    refine (c_X8_isSlot (x := x)) _ _ _ ?_
    refine am_go 400 ?_
    refine am_if (fun h3 => ?_) (fun h3 => ?_)
    · have h3 := bI_0.mp h3
      exact k2 h1 h3
    · have h3 := bI_1.mp h3
      obtain ⟨e_x, l_x⟩ := okl (m := 4) (by decide) h3
      refine am_f (ix_in (n := (kx k)) (N := 4) e_k (by omega) (by decide)) ?_
      have tk0 : (k).toNatClampNeg = (kx k) := ix_cl (n := (kx k)) e_k (by omega)
      have tk1 : I 33 0 (((k).toNatClampNeg)) = (sh s (kx k)).1 := by first | exact (shM h (k := kx k) (by omega)).1 | (((try rw [tk0])); first | done | exact (shM h (k := kx k) (by omega)).1)
      refine am_if (fun h4 => ?_) (fun h4 => ?_)
      · have h4 : 0 ≤ (I 33 0 (((k).toNatClampNeg))) := h4
        try rw [tk1] at h4
        try rw [tk0] at h4
        refine am_f (ix_in (n := (kx x)) (N := 5) e_x (by omega) (by decide)) ?_
        have tk2 : (x).toNatClampNeg = (kx x) := ix_cl (n := (kx x)) e_x (by omega)
        have tk3 : I 36 0 (((x).toNatClampNeg)) = nI (sl s (kx x)).1 := by first | exact (slM h (k := kx x) (by omega)).1 | (((try rw [tk2])); first | done | exact (slM h (k := kx x) (by omega)).1)
        refine am_f (ix_in (n := (kx x)) (N := 5) e_x (by omega) (by decide)) ?_
        refine am_f (ix_in (n := (kx x)) (N := 5) e_x (by omega) (by decide)) ?_
        refine am_f (ix_in (n := (kx x)) (N := 5) e_x (by omega) (by decide)) ?_
        refine am_f (ix_in (n := (kx k)) (N := 4) e_k (by omega) (by decide)) ?_
        have tk4 : (up3 (up3 (up3 I 36 0 (((x).toNatClampNeg)) (2)) 37 0 (((x).toNatClampNeg)) (k)) 38 0 (((x).toNatClampNeg)) (0)) 34 0 (((k).toNatClampNeg)) = nI (sh s (kx k)).2.1 := by first | exact (shM h (k := kx k) (by omega)).2.1 | (((try rw [tk2]); (try rw [tk0])); first | done | exact (shM h (k := kx k) (by omega)).2.1)
        refine am_f (ix_in (n := (kx x)) (N := 5) e_x (by omega) (by decide)) ?_
        refine am_cut ?_
        refine am_go 2 ?_
        show am_WP ((mX8_lay, 150, [some (.inr (.inr (some (8, 0)))), some (.inl (x)), some (.inl (2)), some (.inl (k)), some (.inl (1)), some (.inl ((I 36 0 (((x).toNatClampNeg))))), some (.inl (0))], []) :: g :: gs) (d + 2) (mk (up3 (up3 (up3 (up3 I 36 0 (((x).toNatClampNeg)) (2)) 37 0 (((x).toNatClampNeg)) (k)) 38 0 (((x).toNatClampNeg)) (0)) 39 0 (((x).toNatClampNeg)) (((up3 (up3 (up3 I 36 0 (((x).toNatClampNeg)) (2)) 37 0 (((x).toNatClampNeg)) (k)) 38 0 (((x).toNatClampNeg)) (0)) 34 0 (((k).toNatClampNeg))))) X) Q
        try rw [tk4]
        try rw [tk3]
        try rw [tk2]
        try rw [tk0]
        exact k3 h1 h3 h4
      · have h4 : ¬ 0 ≤ (I 33 0 (((k).toNatClampNeg))) := h4
        try rw [tk1] at h4
        try rw [tk0] at h4
        exact k4 h1 h3 h4
set_option maxRecDepth 100000 in
set_option maxHeartbeats 4000000 in
theorem w_X8_lay_t3 {I : Nat → Nat → Nat → Int32} {X : am_Z} {g : am_F} {gs : List am_F} {d : Nat} {Q : Option am_V → am_M → Prop} {s : St} (h : RM I s) (G : GS s) {x k : Int32} (k0 : (¬ ((0 : Int32) ≤ x ∧ x ≤ 4)) → am_WP (am_psh g (some (.inl ((-1000000001)))) :: gs) (d + 3) (mk I X) Q) (k1 : ((0 : Int32) ≤ x ∧ x ≤ 4) → am_WP (am_psh g (some (.inl ((nI (sl s (kx x)).1)))) :: gs) (d + 3) (mk (up3 (up3 (up3 I 36 0 (((kx x))) (3)) 37 0 (((kx x))) (k)) 38 0 (((kx x))) (0)) X) Q) : am_WP (am_entry mX8_lay [.inr (.inr (some (8, 0))), .inl (x), .inl (3), .inl (k)] :: g :: gs) (d + 2) (mk I X) Q := by
  have hn8 : nb s ≤ 8 := G.1.1.1
  refine am_go 400 ?_
  refine (c_X8_isSlot (x := x)) _ _ _ ?_
  refine am_go 400 ?_
  refine am_if (fun h1 => ?_) (fun h1 => ?_)
  · have h1 := bI_0.mp h1
    exact k0 h1
  · have h1 := bI_1.mp h1
    obtain ⟨e_x, l_x⟩ := okl (m := 4) (by decide) h1
    refine am_f (ix_in (n := (kx x)) (N := 5) e_x (by omega) (by decide)) ?_
    have tk0 : (x).toNatClampNeg = (kx x) := ix_cl (n := (kx x)) e_x (by omega)
    have tk1 : I 36 0 (((x).toNatClampNeg)) = nI (sl s (kx x)).1 := by first | exact (slM h (k := kx x) (by omega)).1 | (((try rw [tk0])); first | done | exact (slM h (k := kx x) (by omega)).1)
    refine am_f (ix_in (n := (kx x)) (N := 5) e_x (by omega) (by decide)) ?_
    refine am_f (ix_in (n := (kx x)) (N := 5) e_x (by omega) (by decide)) ?_
    refine am_f (ix_in (n := (kx x)) (N := 5) e_x (by omega) (by decide)) ?_
    show am_WP (am_psh g (some (.inl ((I 36 0 (((x).toNatClampNeg)))))) :: gs) (d + 3) (mk (up3 (up3 (up3 I 36 0 (((x).toNatClampNeg)) (3)) 37 0 (((x).toNatClampNeg)) (k)) 38 0 (((x).toNatClampNeg)) (0)) X) Q
    try rw [tk1]
    try rw [tk0]
    exact k1 h1
set_option maxRecDepth 100000 in
set_option maxHeartbeats 4000000 in
theorem w_X8_lay_tt {I : Nat → Nat → Nat → Int32} {X : am_Z} {g : am_F} {gs : List am_F} {d : Nat} {Q : Option am_V → am_M → Prop} {s : St} (h : RM I s) (G : GS s) {x t k : Int32} (k0 : (t = 0) → (¬ ((0 : Int32) ≤ x ∧ x ≤ 4)) → am_WP (am_psh g (some (.inl ((-1000000001)))) :: gs) (d + 3) (mk I X) Q) (k1 : (t = 0) → ((0 : Int32) ≤ x ∧ x ≤ 4) → (t = 2) → am_WP ((mX8_lay, 61, [some (.inr (.inr (some (8, 0)))), some (.inl (x)), some (.inl (t)), some (.inl (k)), some (.inl (1)), none, none], []) :: g :: gs) (d + 2) (mk I X) Q) (k2 : (t = 0) → ((0 : Int32) ≤ x ∧ x ≤ 4) → (¬ t = 2) → am_WP ((mX8_lay, 74, [some (.inr (.inr (some (8, 0)))), some (.inl (x)), some (.inl (t)), some (.inl (k)), some (.inl (1)), none, none], []) :: g :: gs) (d + 2) (mk I X) Q) (k3 : (¬ t = 0) → (t = 3) → (¬ ((0 : Int32) ≤ x ∧ x ≤ 4)) → am_WP (am_psh g (some (.inl ((-1000000001)))) :: gs) (d + 3) (mk I X) Q) (k4 : (¬ t = 0) → (t = 3) → ((0 : Int32) ≤ x ∧ x ≤ 4) → (t = 2) → am_WP ((mX8_lay, 61, [some (.inr (.inr (some (8, 0)))), some (.inl (x)), some (.inl (t)), some (.inl (k)), some (.inl (1)), none, none], []) :: g :: gs) (d + 2) (mk I X) Q) (k5 : (¬ t = 0) → (t = 3) → ((0 : Int32) ≤ x ∧ x ≤ 4) → (¬ t = 2) → am_WP ((mX8_lay, 74, [some (.inr (.inr (some (8, 0)))), some (.inl (x)), some (.inl (t)), some (.inl (k)), some (.inl (1)), none, none], []) :: g :: gs) (d + 2) (mk I X) Q) (k6 : (¬ t = 0) → (¬ t = 3) → (t = 1) → (¬ ((0 : Int32) ≤ k ∧ k ≤ (nI (nb s)) - 1)) → (t = 2) → (¬ ((0 : Int32) ≤ k ∧ k ≤ 3)) → (¬ ((0 : Int32) ≤ x ∧ x ≤ 4)) → am_WP (am_psh g (some (.inl ((-1000000001)))) :: gs) (d + 3) (mk I X) Q) (k7 : (¬ t = 0) → (¬ t = 3) → (t = 1) → (¬ ((0 : Int32) ≤ k ∧ k ≤ (nI (nb s)) - 1)) → (t = 2) → (¬ ((0 : Int32) ≤ k ∧ k ≤ 3)) → ((0 : Int32) ≤ x ∧ x ≤ 4) → am_WP (am_psh g (some (.inl ((-1000000001)))) :: gs) (d + 3) (mk I X) Q) (k8 : (¬ t = 0) → (¬ t = 3) → (t = 1) → (¬ ((0 : Int32) ≤ k ∧ k ≤ (nI (nb s)) - 1)) → (t = 2) → ((0 : Int32) ≤ k ∧ k ≤ 3) → (¬ ((0 : Int32) ≤ x ∧ x ≤ 4)) → am_WP (am_psh g (some (.inl ((-1000000001)))) :: gs) (d + 3) (mk I X) Q) (k9 : (¬ t = 0) → (¬ t = 3) → (t = 1) → (¬ ((0 : Int32) ≤ k ∧ k ≤ (nI (nb s)) - 1)) → (t = 2) → ((0 : Int32) ≤ k ∧ k ≤ 3) → ((0 : Int32) ≤ x ∧ x ≤ 4) → am_WP ((mX8_lay, 61, [some (.inr (.inr (some (8, 0)))), some (.inl (x)), some (.inl (t)), some (.inl (k)), some (.inl (1)), none, none], []) :: g :: gs) (d + 2) (mk I X) Q) (k10 : (¬ t = 0) → (¬ t = 3) → (t = 1) → (¬ ((0 : Int32) ≤ k ∧ k ≤ (nI (nb s)) - 1)) → (¬ t = 2) → (¬ ((0 : Int32) ≤ x ∧ x ≤ 4)) → am_WP (am_psh g (some (.inl ((-1000000001)))) :: gs) (d + 3) (mk I X) Q) (k11 : (¬ t = 0) → (¬ t = 3) → (t = 1) → (¬ ((0 : Int32) ≤ k ∧ k ≤ (nI (nb s)) - 1)) → (¬ t = 2) → ((0 : Int32) ≤ x ∧ x ≤ 4) → am_WP (am_psh g (some (.inl ((-1000000001)))) :: gs) (d + 3) (mk I X) Q) (k12 : (¬ t = 0) → (¬ t = 3) → (t = 1) → ((0 : Int32) ≤ k ∧ k ≤ (nI (nb s)) - 1) → (¬ ((0 : Int32) ≤ x ∧ x ≤ 4)) → am_WP (am_psh g (some (.inl ((-1000000001)))) :: gs) (d + 3) (mk I X) Q) (k13 : (¬ t = 0) → (¬ t = 3) → (t = 1) → ((0 : Int32) ≤ k ∧ k ≤ (nI (nb s)) - 1) → ((0 : Int32) ≤ x ∧ x ≤ 4) → (t = 2) → am_WP ((mX8_lay, 61, [some (.inr (.inr (some (8, 0)))), some (.inl (x)), some (.inl (t)), some (.inl (k)), some (.inl (1)), none, none], []) :: g :: gs) (d + 2) (mk I X) Q) (k14 : (¬ t = 0) → (¬ t = 3) → (t = 1) → ((0 : Int32) ≤ k ∧ k ≤ (nI (nb s)) - 1) → ((0 : Int32) ≤ x ∧ x ≤ 4) → (¬ t = 2) → am_WP ((mX8_lay, 74, [some (.inr (.inr (some (8, 0)))), some (.inl (x)), some (.inl (t)), some (.inl (k)), some (.inl (1)), none, none], []) :: g :: gs) (d + 2) (mk I X) Q) (k15 : (¬ t = 0) → (¬ t = 3) → (¬ t = 1) → (t = 2) → (¬ ((0 : Int32) ≤ k ∧ k ≤ 3)) → (¬ ((0 : Int32) ≤ x ∧ x ≤ 4)) → am_WP (am_psh g (some (.inl ((-1000000001)))) :: gs) (d + 3) (mk I X) Q) (k16 : (¬ t = 0) → (¬ t = 3) → (¬ t = 1) → (t = 2) → (¬ ((0 : Int32) ≤ k ∧ k ≤ 3)) → ((0 : Int32) ≤ x ∧ x ≤ 4) → am_WP (am_psh g (some (.inl ((-1000000001)))) :: gs) (d + 3) (mk I X) Q) (k17 : (¬ t = 0) → (¬ t = 3) → (¬ t = 1) → (t = 2) → ((0 : Int32) ≤ k ∧ k ≤ 3) → (¬ ((0 : Int32) ≤ x ∧ x ≤ 4)) → am_WP (am_psh g (some (.inl ((-1000000001)))) :: gs) (d + 3) (mk I X) Q) (k18 : (¬ t = 0) → (¬ t = 3) → (¬ t = 1) → (t = 2) → ((0 : Int32) ≤ k ∧ k ≤ 3) → ((0 : Int32) ≤ x ∧ x ≤ 4) → am_WP ((mX8_lay, 61, [some (.inr (.inr (some (8, 0)))), some (.inl (x)), some (.inl (t)), some (.inl (k)), some (.inl (1)), none, none], []) :: g :: gs) (d + 2) (mk I X) Q) (k19 : (¬ t = 0) → (¬ t = 3) → (¬ t = 1) → (¬ t = 2) → (¬ ((0 : Int32) ≤ x ∧ x ≤ 4)) → am_WP (am_psh g (some (.inl ((-1000000001)))) :: gs) (d + 3) (mk I X) Q) (k20 : (¬ t = 0) → (¬ t = 3) → (¬ t = 1) → (¬ t = 2) → ((0 : Int32) ≤ x ∧ x ≤ 4) → am_WP (am_psh g (some (.inl ((-1000000001)))) :: gs) (d + 3) (mk I X) Q) : am_WP (am_entry mX8_lay [.inr (.inr (some (8, 0))), .inl (x), .inl (t), .inl (k)] :: g :: gs) (d + 2) (mk I X) Q := by
  have hn8 : nb s ≤ 8 := G.1.1.1
  refine am_go 400 ?_
  refine am_if (fun h1 => ?_) (fun h1 => ?_)
  · refine (c_X8_isSlot (x := x)) _ _ _ ?_
    refine am_go 400 ?_
    refine am_if (fun h2 => ?_) (fun h2 => ?_)
    · have h2 := bI_0.mp h2
      exact k0 h1 h2
    · have h2 := bI_1.mp h2
      obtain ⟨e_x, l_x⟩ := okl (m := 4) (by decide) h2
      refine am_if (fun h3 => ?_) (fun h3 => ?_)
      · exact am_cut (k1 h1 h2 h3)
      · refine am_cf rfl ?_
        exact am_cut (k2 h1 h2 h3)
  · refine am_if (fun h4 => ?_) (fun h4 => ?_)
    · refine (c_X8_isSlot (x := x)) _ _ _ ?_
      refine am_go 400 ?_
      refine am_if (fun h5 => ?_) (fun h5 => ?_)
      · have h5 := bI_0.mp h5
        exact k3 h1 h4 h5
      · have h5 := bI_1.mp h5
        obtain ⟨e_x, l_x⟩ := okl (m := 4) (by decide) h5
        refine am_if (fun h6 => ?_) (fun h6 => ?_)
        · exact am_cut (k4 h1 h4 h5 h6)
        · refine am_cf rfl ?_
          exact am_cut (k5 h1 h4 h5 h6)
    · refine am_if (fun h7 => ?_) (fun h7 => ?_)
      · have tk0 : I 30 0 0 = nI (nb s) := h.1.1.1
        refine (c_X8_isBottle (x := k)) _ _ _ ?_
        refine am_go 400 ?_
        refine am_if (fun h8 => ?_) (fun h8 => ?_)
        · have h8 := bI_0.mp h8
          have h8 : ¬ ((0 : Int32) ≤ k ∧ k ≤ (I 30 0 0) - 1) := h8
          try rw [tk0] at h8
          refine am_if (fun h9 => ?_) (fun h9 => ?_)
          · refine (c_X8_isSheet (x := k)) _ _ _ ?_
            refine am_go 400 ?_
            refine am_if (fun h10 => ?_) (fun h10 => ?_)
            · have h10 := bI_0.mp h10
              refine (c_X8_isSlot (x := x)) _ _ _ ?_
              refine am_go 400 ?_
              refine am_if (fun h11 => ?_) (fun h11 => ?_)
              · have h11 := bI_0.mp h11
                exact k6 h1 h4 h7 h8 h9 h10 h11
              · have h11 := bI_1.mp h11
                obtain ⟨e_x, l_x⟩ := okl (m := 4) (by decide) h11
                exact k7 h1 h4 h7 h8 h9 h10 h11
            · have h10 := bI_1.mp h10
              obtain ⟨e_k, l_k⟩ := okl (m := 3) (by decide) h10
              refine (c_X8_isSlot (x := x)) _ _ _ ?_
              refine am_go 400 ?_
              refine am_if (fun h12 => ?_) (fun h12 => ?_)
              · have h12 := bI_0.mp h12
                exact k8 h1 h4 h7 h8 h9 h10 h12
              · have h12 := bI_1.mp h12
                obtain ⟨e_x, l_x⟩ := okl (m := 4) (by decide) h12
                refine am_t (h9) ?_
                exact am_cut (k9 h1 h4 h7 h8 h9 h10 h12)
          · refine (c_X8_isSlot (x := x)) _ _ _ ?_
            refine am_go 400 ?_
            refine am_if (fun h13 => ?_) (fun h13 => ?_)
            · have h13 := bI_0.mp h13
              exact k10 h1 h4 h7 h8 h9 h13
            · have h13 := bI_1.mp h13
              obtain ⟨e_x, l_x⟩ := okl (m := 4) (by decide) h13
              exact k11 h1 h4 h7 h8 h9 h13
        · have h8 := bI_1.mp h8
          have h8 : (0 : Int32) ≤ k ∧ k ≤ (I 30 0 0) - 1 := h8
          try rw [tk0] at h8
          obtain ⟨e_k, l_k⟩ := okb rfl hn8 h8
          obtain ⟨g0_k, g1_k, g2_k, g3_k, g5_k, gs_k⟩ := id (GS_b G l_k)
          refine (c_X8_isSlot (x := x)) _ _ _ ?_
          refine am_go 400 ?_
          refine am_if (fun h14 => ?_) (fun h14 => ?_)
          · have h14 := bI_0.mp h14
            exact k12 h1 h4 h7 h8 h14
          · have h14 := bI_1.mp h14
            obtain ⟨e_x, l_x⟩ := okl (m := 4) (by decide) h14
            refine am_if (fun h15 => ?_) (fun h15 => ?_)
            · exact am_cut (k13 h1 h4 h7 h8 h14 h15)
            · refine am_cf rfl ?_
              exact am_cut (k14 h1 h4 h7 h8 h14 h15)
      · refine am_if (fun h16 => ?_) (fun h16 => ?_)
        · refine (c_X8_isSheet (x := k)) _ _ _ ?_
          refine am_go 400 ?_
          refine am_if (fun h17 => ?_) (fun h17 => ?_)
          · have h17 := bI_0.mp h17
            refine (c_X8_isSlot (x := x)) _ _ _ ?_
            refine am_go 400 ?_
            refine am_if (fun h18 => ?_) (fun h18 => ?_)
            · have h18 := bI_0.mp h18
              exact k15 h1 h4 h7 h16 h17 h18
            · have h18 := bI_1.mp h18
              obtain ⟨e_x, l_x⟩ := okl (m := 4) (by decide) h18
              exact k16 h1 h4 h7 h16 h17 h18
          · have h17 := bI_1.mp h17
            obtain ⟨e_k, l_k⟩ := okl (m := 3) (by decide) h17
            refine (c_X8_isSlot (x := x)) _ _ _ ?_
            refine am_go 400 ?_
            refine am_if (fun h19 => ?_) (fun h19 => ?_)
            · have h19 := bI_0.mp h19
              exact k17 h1 h4 h7 h16 h17 h19
            · have h19 := bI_1.mp h19
              obtain ⟨e_x, l_x⟩ := okl (m := 4) (by decide) h19
              refine am_t (h16) ?_
              exact am_cut (k18 h1 h4 h7 h16 h17 h19)
        · refine (c_X8_isSlot (x := x)) _ _ _ ?_
          refine am_go 400 ?_
          refine am_if (fun h20 => ?_) (fun h20 => ?_)
          · have h20 := bI_0.mp h20
            exact k19 h1 h4 h7 h16 h20
          · have h20 := bI_1.mp h20
            obtain ⟨e_x, l_x⟩ := okl (m := 4) (by decide) h20
            exact k20 h1 h4 h7 h16 h20
set_option maxRecDepth 100000 in
set_option maxHeartbeats 4000000 in
theorem w_X8_lay_150 {I : Nat → Nat → Nat → Int32} {X : am_Z} {g : am_F} {gs : List am_F} {d : Nat} {Q : Option am_V → am_M → Prop} {x k w : Int32} {a b i : Nat} (hx : x = nI a) (la : a ≤ 4) (hk : k = nI b) (lb : b ≤ 3) (hi : i ≤ 24) (k0 : (24 ≤ i) → am_WP (am_psh g (some (.inl (w))) :: gs) (d + 3) (mk I X) Q) (k1 : (¬ (24 ≤ i)) → am_WP ((mX8_lay, 150, [some (.inr (.inr (some (8, 0)))), some (.inl (x)), some (.inl (2)), some (.inl (k)), some (.inl (1)), some (.inl (w)), some (.inl ((nI (i + 1))))], []) :: g :: gs) (d + 2) (mk (up3 I 40 0 ((((24 * a) + i))) ((I 35 0 ((((24 * b) + i)))))) X) Q) : am_WP ((mX8_lay, 150, [some (.inr (.inr (some (8, 0)))), some (.inl (x)), some (.inl (2)), some (.inl (k)), some (.inl (1)), some (.inl (w)), some (.inl (nI i))], []) :: g :: gs) (d + 2) (mk I X) Q := by
  refine am_go 400 ?_
  refine am_if (fun h1 => ?_) (fun h1 => ?_)
  · have nh1 := (le_nat (a := 24) (b := i) (rfl : (24 : Int32) = nI 24) (rfl : (nI i : Int32) = nI i) (by omega) (by omega)).mp h1
    exact k0 nh1
  · have nh1 := mt (le_nat (a := 24) (b := i) (rfl : (24 : Int32) = nI 24) (rfl : (nI i : Int32) = nI i) (by omega) (by omega)).mpr h1
    refine am_f (ix_in (n := ((24 * b) + i)) (N := 96) (nI_addE (nI_mulE (rfl : (24 : Int32) = nI 24) hk) rfl) (by omega) (by decide)) ?_
    have tk0 : (((24 * k) + nI i)).toNatClampNeg = ((24 * b) + i) := ix_cl (n := ((24 * b) + i)) (nI_addE (nI_mulE (rfl : (24 : Int32) = nI 24) hk) rfl) (by omega)
    refine am_f (ix_in (n := ((24 * a) + i)) (N := 120) (nI_addE (nI_mulE (rfl : (24 : Int32) = nI 24) hx) rfl) (by omega) (by decide)) ?_
    have tk1 : (((24 * x) + nI i)).toNatClampNeg = ((24 * a) + i) := ix_cl (n := ((24 * a) + i)) (nI_addE (nI_mulE (rfl : (24 : Int32) = nI 24) hx) rfl) (by omega)
    have tk2 : (nI i + 1) = nI (i + 1) := (nI_addE rfl (rfl : (1 : Int32) = nI 1))
    show am_WP ((mX8_lay, 150, [some (.inr (.inr (some (8, 0)))), some (.inl (x)), some (.inl (2)), some (.inl (k)), some (.inl (1)), some (.inl (w)), some (.inl (((nI i + 1))))], []) :: g :: gs) (d + 2) (mk (up3 I 40 0 (((((24 * x) + nI i)).toNatClampNeg)) ((I 35 0 (((((24 * k) + nI i)).toNatClampNeg))))) X) Q
    try rw [tk1]
    try rw [tk0]
    try rw [tk2]
    exact k1 nh1
theorem l_X8_lay {I : Im} {X g gs d Q} {a b : Nat} {x k w : Int32} (hx : x = nI a) (la : a ≤ 4) (hk : k = nI b) (lb : b ≤ 3) : ∀ (m i : Nat), i + m = 24 → am_WP (am_psh g (some (.inl w)) :: gs) (d + 3) (mk (fl I 40 0 (24 * a) 24 (fun j => I 35 0 (24 * b + j))) X) Q →
    am_WP ((mX8_lay, 150, [some (.inr (.inr (some (8, 0)))), some (.inl x), some (.inl 2), some (.inl k), some (.inl 1), some (.inl w), some (.inl (nI i))], []) :: g :: gs) (d + 2) (mk (fl I 40 0 (24 * a) i (fun j => I 35 0 (24 * b + j))) X) Q
  | 0, i, hi, K => w_X8_lay_150 hx la hk lb (by omega) (fun _ => by rw [show i = 24 by omega]; exact K) (fun hn => absurd hn (by omega))
  | m + 1, i, hi, K => w_X8_lay_150 hx la hk lb (by omega) (fun hn => absurd hn (by omega)) (fun _ => by
      rw [fl_s (by rw [fl_k (Or.inl (by decide))])]
      exact l_X8_lay hx la hk lb m (i + 1) (by omega) K)
theorem RM_sl {I : Im} {s} {k t : Nat} {v w u y : Int32} {r : Nat × (Nat → Int32)} (h : RM I s) (h1 : t = 1 → v = u ∧ w = wrS u y) (h2 : t ≠ 2) (h3 : t = 3 → v = u) : RM (up3 (up3 (up3 I 36 0 k (nI t)) 37 0 k v) 38 0 k w) (stS s k (t, u, y, r)) := by
  refine ⟨h.1, h.2.1, h.2.2.1, fun k' hk' => ?_, h.2.2.2.2⟩
  show SlM _ k' (fu _ _ _ k')
  by_cases e : k' = k
  · subst e
    rw [fu_s]
    refine ⟨?_, fun q => ⟨?_, ?_⟩, fun q => absurd q h2, fun q => ?_⟩
    · show up3 I 36 0 k' (nI t) 36 0 k' = _
      rw [up3_s]
    · show up3 (up3 I 36 0 k' (nI t)) 37 0 k' v 37 0 k' = _
      rw [up3_s]; exact (h1 q).1
    · show up3 (up3 (up3 I 36 0 k' (nI t)) 37 0 k' v) 38 0 k' w 38 0 k' = _
      rw [up3_s]; exact (h1 q).2
    · show up3 (up3 I 36 0 k' (nI t)) 37 0 k' v 37 0 k' = _
      rw [up3_s]; exact h3 q
  · rw [fu_n e]
    obtain ⟨a, b, c, d⟩ := h.2.2.2.1 k' hk'
    refine ⟨?_, fun q => ⟨?_, ?_⟩, c, fun q => ?_⟩
    · show up3 I 36 0 k (nI t) 36 0 k' = _
      rw [up3_j e]; exact a
    · show up3 (up3 I 36 0 k (nI t)) 37 0 k v 37 0 k' = _
      rw [up3_j e]; exact (b q).1
    · show up3 (up3 (up3 I 36 0 k (nI t)) 37 0 k v) 38 0 k w 38 0 k' = _
      rw [up3_j e]; exact (b q).2
    · show up3 (up3 I 36 0 k (nI t)) 37 0 k v 37 0 k' = _
      rw [up3_j e]; exact d q
theorem RM_sl_2 {I J : Im} {s} {k m : Nat} {v w u y : Int32} {f ff : Nat → Int32} (h : RM I s) (hf : ∀ j, j < 24 → f j = ff j) (hJ : J = up3 (up3 (up3 (up3 I 36 0 k 2) 37 0 k v) 38 0 k w) 39 0 k (nI m)) : RM (fl J 40 0 (24 * k) 24 f) (stS s k (2, u, y, m, ff)) := by
  subst hJ
  refine ⟨h.1, h.2.1, h.2.2.1, fun k' hk' => ?_, h.2.2.2.2⟩
  show SlM _ k' (fu _ _ _ k')
  by_cases e : k' = k
  · subst e
    rw [fu_s]
    refine ⟨?_, fun q => absurd (show (2 : Nat) = 1 from q) (by decide), fun _ => ⟨?_, fun j hj => ?_⟩, fun q => absurd (show (2 : Nat) = 3 from q) (by decide)⟩
    · show up3 I 36 0 k' 2 36 0 k' = _
      rw [up3_s]; rfl
    · show up3 (up3 (up3 (up3 I 36 0 k' 2) 37 0 k' v) 38 0 k' w) 39 0 k' (nI m) 39 0 k' = _
      rw [up3_s]
    · rw [fl_i hj]; exact hf j hj
  · rw [fu_n e]
    obtain ⟨a, b, c, d⟩ := h.2.2.2.1 k' hk'
    refine ⟨?_, fun q => ⟨?_, ?_⟩, fun q => ⟨?_, fun j hj => ?_⟩, fun q => ?_⟩
    · show up3 I 36 0 k 2 36 0 k' = _
      rw [up3_j e]; exact a
    · show up3 (up3 I 36 0 k 2) 37 0 k v 37 0 k' = _
      rw [up3_j e]; exact (b q).1
    · show up3 (up3 (up3 I 36 0 k 2) 37 0 k v) 38 0 k w 38 0 k' = _
      rw [up3_j e]; exact (b q).2
    · show up3 (up3 (up3 (up3 I 36 0 k 2) 37 0 k v) 38 0 k w) 39 0 k (nI m) 39 0 k' = _
      rw [up3_j e]; exact (c q).1
    · rw [fl_out (by omega)]; exact (c q).2 j hj
    · show up3 (up3 I 36 0 k 2) 37 0 k v 37 0 k' = _
      rw [up3_j e]; exact d q
theorem p_X8_lay {I X d s} (h : RM I s) (G : GS s) (x t k : Int32) : Sp mX8_lay [.inr (.inr (some (8, 0))), .inl x, .inl t, .inl k] (d + 2) I X (OM I X (f_lay s x t k)) := fun g gs Q K => by
  by_cases t0 : t = 0
  · subst t0
    exact w_X8_lay_t0 h G (fun h0 => by
      apply K_s K; unfold f_lay; rw [if_neg h0]; exact ⟨rfl, h, FrM_r, rfl⟩) (fun h0 => by
      apply K_s K; unfold f_lay; rw [if_pos h0, if_pos rfl]; exact ⟨rfl, RM_sl (t := 0) (r := (sl s (kx x)).2.2.2) h (fun q => absurd (show (0 : Nat) = 1 from q) (by decide)) (by decide) (fun q => absurd (show (0 : Nat) = 3 from q) (by decide)), FrM_3 rfl (FrM_3 rfl (FrM_3 rfl FrM_r)), rfl⟩)
  by_cases t1 : t = 1
  · subst t1
    exact w_X8_lay_t1 h G (fun h2 h0 => by
      apply K_s K; unfold f_lay; rw [if_neg h0]; exact ⟨rfl, h, FrM_r, rfl⟩) (fun h2 h0 => by
      apply K_s K; unfold f_lay; rw [if_pos h0, if_neg (by decide), if_pos rfl, if_neg h2]; exact ⟨rfl, h, FrM_r, rfl⟩) (fun h2 h0 => by
      apply K_s K; unfold f_lay; rw [if_neg h0]; exact ⟨rfl, h, FrM_r, rfl⟩) (fun h2 h0 => by
      apply K_s K; unfold f_lay; rw [if_pos h0, if_neg (by decide), if_pos rfl, if_pos h2]; exact (by
        have l_k := (okb (n := nb s) rfl G.1.1.1 h2).2
        exact ⟨rfl, RM_sl (t := 1) (r := (sl s (kx x)).2.2.2) h (fun _ => ⟨rfl, congr (congrArg wrS (vM0 (j := 0) h l_k (by decide))) (vM0 (j := 1) h l_k (by decide))⟩) (by decide) (fun q => absurd (show (1 : Nat) = 3 from q) (by decide)), FrM_3 rfl (FrM_3 rfl (FrM_3 rfl FrM_r)), rfl⟩))
  by_cases t2 : t = 2
  · subst t2
    refine w_X8_lay_t2 h G (fun h2 h0 => by
      apply K_s K; unfold f_lay; rw [if_neg h0]; exact ⟨rfl, h, FrM_r, rfl⟩) (fun h2 h0 => by
      apply K_s K; unfold f_lay; rw [if_pos h0, if_neg (by decide), if_neg (by decide), if_pos rfl, if_neg h2]; exact ⟨rfl, h, FrM_r, rfl⟩) (fun h2 h0 => by
      apply K_s K; unfold f_lay; rw [if_neg h0]; exact ⟨rfl, h, FrM_r, rfl⟩) (fun h2 h0 h3 => ?_) (fun h2 h0 h3 => by
      apply K_s K; unfold f_lay; rw [if_pos h0, if_neg (by decide), if_neg (by decide), if_pos rfl, if_pos h2, if_pos (by
        have := (G.2.2.1 (kx k) (by have := (okl (m := 3) (by omega) h2).2; omega)).1
        rcases this with q | q | q
        · exact q.1
        · exact absurd (by rw [q]; decide) h3
        · exact absurd (by rw [q]; decide) h3)]; exact ⟨rfl, h, FrM_r, rfl⟩)
    obtain ⟨e_x, l_x⟩ := okl (m := 4) (by omega) h0
    obtain ⟨e_k, l_k⟩ := okl (m := 3) (by omega) h2
    have hr := h.2.2.1 (kx k) (by omega)
    have := l_X8_lay (I := up3 (up3 (up3 (up3 I 36 0 (kx x) 2) 37 0 (kx x) k) 38 0 (kx x) 0) 39 0 (kx x) (nI (sh s (kx k)).2.1)) (X := X) (g := g) (gs := gs) (d := d) (Q := Q) (w := nI (sl s (kx x)).1) e_x l_x e_k l_k 24 0 rfl (by
      apply K_s K; unfold f_lay
      rw [if_pos h0, if_neg (by decide), if_neg (by decide), if_pos rfl, if_pos h2, if_neg (fun e => absurd h3 (by rw [e]; decide))]
      exact ⟨rfl, RM_sl_2 h hr.2.2 rfl, FrM_f rfl (FrM_3 rfl (FrM_3 rfl (FrM_3 rfl (FrM_3 rfl FrM_r)))), rfl⟩)
    rw [fl_0] at this
    exact this
  by_cases t3 : t = 3
  · subst t3
    exact w_X8_lay_t3 h G (fun h0 => by
      apply K_s K; unfold f_lay; rw [if_neg h0]; exact ⟨rfl, h, FrM_r, rfl⟩) (fun h0 => by
      apply K_s K; unfold f_lay; rw [if_pos h0, if_neg (by decide), if_neg (by decide), if_neg (by decide), if_pos rfl]; exact ⟨rfl, RM_sl (t := 3) (r := (sl s (kx x)).2.2.2) h (fun q => absurd (show (3 : Nat) = 1 from q) (by decide)) (by decide) (fun _ => rfl), FrM_3 rfl (FrM_3 rfl (FrM_3 rfl FrM_r)), rfl⟩)
  exact w_X8_lay_tt h G (fun q0 q1 => absurd q0 t0) (fun q0 q1 q2 => absurd q0 t0) (fun q0 q1 q2 => absurd q0 t0) (fun q0 q1 q2 => absurd q1 t3) (fun q0 q1 q2 q3 => absurd q1 t3) (fun q0 q1 q2 q3 => absurd q1 t3) (fun q0 q1 q2 q3 q4 q5 q6 => absurd q2 t1) (fun q0 q1 q2 q3 q4 q5 q6 => absurd q2 t1) (fun q0 q1 q2 q3 q4 q5 q6 => absurd q2 t1) (fun q0 q1 q2 q3 q4 q5 q6 => absurd q2 t1) (fun q0 q1 q2 q3 q4 q5 => absurd q2 t1) (fun q0 q1 q2 q3 q4 q5 => absurd q2 t1) (fun q0 q1 q2 q3 q4 => absurd q2 t1) (fun q0 q1 q2 q3 q4 q5 => absurd q2 t1) (fun q0 q1 q2 q3 q4 q5 => absurd q2 t1) (fun q0 q1 q2 q3 q4 q5 => absurd q3 t2) (fun q0 q1 q2 q3 q4 q5 => absurd q3 t2) (fun q0 q1 q2 q3 q4 q5 => absurd q3 t2) (fun q0 q1 q2 q3 q4 q5 => absurd q3 t2) (fun q0 q1 q2 q3 q4 => by
      apply K_s K; unfold f_lay; rw [if_neg q4]; exact ⟨rfl, h, FrM_r, rfl⟩) (fun q0 q1 q2 q3 q4 => by
      apply K_s K; unfold f_lay; rw [if_pos q4, if_neg t0, if_neg t1, if_neg t2, if_neg t3]; exact ⟨rfl, h, FrM_r, rfl⟩)
