set_option maxRecDepth 100000 in
set_option maxHeartbeats 4000000 in
theorem w_X8_copy {I : Nat → Nat → Nat → Int32} {X : am_Z} {g : am_F} {gs : List am_F} {d : Nat} {Q : Option am_V → am_M → Prop} {s : St} (h : RM I s) (G : GS s) {x p y a m : Int32} (k0 : (¬ ((0 : Int32) ≤ x ∧ x ≤ 3)) → am_WP (am_psh g (some (.inl ((-1000000001)))) :: gs) (d + 3) (mk I X) Q) (k1 : ((0 : Int32) ≤ x ∧ x ≤ 3) → (¬ ((0 : Int32) ≤ y ∧ y ≤ 3)) → am_WP (am_psh g (some (.inl ((-1000000001)))) :: gs) (d + 3) (mk I X) Q) (k2 : ((0 : Int32) ≤ x ∧ x ≤ 3) → ((0 : Int32) ≤ y ∧ y ≤ 3) → (((sh s (kx x)).1) < 0) → am_WP (am_psh g (some (.inl ((-1000000011)))) :: gs) (d + 3) (mk I X) Q) (k3 : ((0 : Int32) ≤ x ∧ x ≤ 3) → ((0 : Int32) ≤ y ∧ y ≤ 3) → (¬ ((sh s (kx x)).1) < 0) → (0 ≤ ((sh s (kx y)).1)) → (((sh s (kx x)).1) = ((sh s (kx y)).1)) → (p < 0) → am_WP (am_psh g (some (.inl ((-1000000013)))) :: gs) (d + 3) (mk I X) Q) (k4 : ((0 : Int32) ≤ x ∧ x ≤ 3) → ((0 : Int32) ≤ y ∧ y ≤ 3) → (¬ ((sh s (kx x)).1) < 0) → (0 ≤ ((sh s (kx y)).1)) → (((sh s (kx x)).1) = ((sh s (kx y)).1)) → (¬ p < 0) → (a < 0) → am_WP (am_psh g (some (.inl ((-1000000013)))) :: gs) (d + 3) (mk I X) Q) (k5 : ((0 : Int32) ≤ x ∧ x ≤ 3) → ((0 : Int32) ≤ y ∧ y ≤ 3) → (¬ ((sh s (kx x)).1) < 0) → (0 ≤ ((sh s (kx y)).1)) → (((sh s (kx x)).1) = ((sh s (kx y)).1)) → (¬ p < 0) → (¬ a < 0) → (m < 0) → am_WP (am_psh g (some (.inl ((-1000000013)))) :: gs) (d + 3) (mk I X) Q) (k6 : ((0 : Int32) ≤ x ∧ x ≤ 3) → ((0 : Int32) ≤ y ∧ y ≤ 3) → (¬ ((sh s (kx x)).1) < 0) → (0 ≤ ((sh s (kx y)).1)) → (((sh s (kx x)).1) = ((sh s (kx y)).1)) → (¬ p < 0) → (¬ a < 0) → (¬ m < 0) → (0 < (lg_cmp (((p : Int32).toInt64 + (m : Int32).toInt64)) (((nI (sh s (kx x)).2.1) : Int32).toInt64))) → am_WP (am_psh g (some (.inl ((-1000000013)))) :: gs) (d + 3) (mk I X) Q) (k7 : ((0 : Int32) ≤ x ∧ x ≤ 3) → ((0 : Int32) ≤ y ∧ y ≤ 3) → (¬ ((sh s (kx x)).1) < 0) → (0 ≤ ((sh s (kx y)).1)) → (((sh s (kx x)).1) = ((sh s (kx y)).1)) → (¬ p < 0) → (¬ a < 0) → (¬ m < 0) → (¬ 0 < (lg_cmp (((p : Int32).toInt64 + (m : Int32).toInt64)) (((nI (sh s (kx x)).2.1) : Int32).toInt64))) → ((lg_cmp (((a : Int32).toInt64 + (m : Int32).toInt64)) (((nI (sh s (kx y)).2.1) : Int32).toInt64)) ≤ 0) → am_WP ((mX8_copy, 113, [some (.inr (.inr (some (8, 0)))), some (.inl (x)), some (.inl (p)), some (.inl (y)), some (.inl (a)), some (.inl (m)), some (.inl (0))], []) :: g :: gs) (d + 2) (mk I X) Q) (k8 : ((0 : Int32) ≤ x ∧ x ≤ 3) → ((0 : Int32) ≤ y ∧ y ≤ 3) → (¬ ((sh s (kx x)).1) < 0) → (0 ≤ ((sh s (kx y)).1)) → (((sh s (kx x)).1) = ((sh s (kx y)).1)) → (¬ p < 0) → (¬ a < 0) → (¬ m < 0) → (¬ 0 < (lg_cmp (((p : Int32).toInt64 + (m : Int32).toInt64)) (((nI (sh s (kx x)).2.1) : Int32).toInt64))) → (¬ (lg_cmp (((a : Int32).toInt64 + (m : Int32).toInt64)) (((nI (sh s (kx y)).2.1) : Int32).toInt64)) ≤ 0) → am_WP (am_psh g (some (.inl ((-1000000013)))) :: gs) (d + 3) (mk I X) Q) (k9 : ((0 : Int32) ≤ x ∧ x ≤ 3) → ((0 : Int32) ≤ y ∧ y ≤ 3) → (¬ ((sh s (kx x)).1) < 0) → (0 ≤ ((sh s (kx y)).1)) → (¬ ((sh s (kx x)).1) = ((sh s (kx y)).1)) → am_WP (am_psh g (some (.inl ((-1000000012)))) :: gs) (d + 3) (mk I X) Q) (k10 : ((0 : Int32) ≤ x ∧ x ≤ 3) → ((0 : Int32) ≤ y ∧ y ≤ 3) → (¬ ((sh s (kx x)).1) < 0) → (¬ 0 ≤ ((sh s (kx y)).1)) → am_WP (am_psh g (some (.inl ((-1000000011)))) :: gs) (d + 3) (mk I X) Q) : am_WP (am_entry mX8_copy [.inr (.inr (some (8, 0))), .inl (x), .inl (p), .inl (y), .inl (a), .inl (m)] :: g :: gs) (d + 2) (mk I X) Q := by
  refine am_go 400 ?_
  refine (c_X8_isSheet (x := x)) _ _ _ ?_
  refine am_go 400 ?_
  refine am_if (fun h1 => ?_) (fun h1 => ?_)
  · have h1 := bI_0.mp h1
    exact k0 h1
  · have h1 := bI_1.mp h1
    obtain ⟨e_x, l_x⟩ := okl (m := 3) (by decide) h1
    refine (c_X8_isSheet (x := y)) _ _ _ ?_
    refine am_go 400 ?_
    refine am_if (fun h2 => ?_) (fun h2 => ?_)
    · have h2 := bI_0.mp h2
      exact k1 h1 h2
    · have h2 := bI_1.mp h2
      obtain ⟨e_y, l_y⟩ := okl (m := 3) (by decide) h2
      refine am_f (ix_in (n := (kx x)) (N := 4) e_x (by omega) (by decide)) ?_
      have tk0 : (x).toNatClampNeg = (kx x) := ix_cl (n := (kx x)) e_x (by omega)
      have tk1 : I 33 0 (((x).toNatClampNeg)) = (sh s (kx x)).1 := by first | exact (shM h (k := kx x) (by omega)).1 | (((try rw [tk0])); first | done | exact (shM h (k := kx x) (by omega)).1)
      refine am_if (fun h3 => ?_) (fun h3 => ?_)
      · have h3 : (I 33 0 (((x).toNatClampNeg))) < 0 := h3
        try rw [tk1] at h3
        try rw [tk0] at h3
        exact k2 h1 h2 h3
      · have h3 : ¬ (I 33 0 (((x).toNatClampNeg))) < 0 := h3
        try rw [tk1] at h3
        try rw [tk0] at h3
        refine am_f (ix_in (n := (kx y)) (N := 4) e_y (by omega) (by decide)) ?_
        have tk2 : (y).toNatClampNeg = (kx y) := ix_cl (n := (kx y)) e_y (by omega)
        have tk3 : I 33 0 (((y).toNatClampNeg)) = (sh s (kx y)).1 := by first | exact (shM h (k := kx y) (by omega)).1 | (((try rw [tk2])); first | done | exact (shM h (k := kx y) (by omega)).1)
        refine am_if (fun h4 => ?_) (fun h4 => ?_)
        · have h4 : 0 ≤ (I 33 0 (((y).toNatClampNeg))) := h4
          try rw [tk3] at h4
          try rw [tk2] at h4
          refine am_f (ix_in (n := (kx x)) (N := 4) e_x (by omega) (by decide)) ?_
          refine am_f (ix_in (n := (kx y)) (N := 4) e_y (by omega) (by decide)) ?_
          refine am_if (fun h5 => ?_) (fun h5 => ?_)
          · have h5 : (I 33 0 (((x).toNatClampNeg))) = (I 33 0 (((y).toNatClampNeg))) := h5
            try rw [tk3] at h5
            try rw [tk1] at h5
            try rw [tk2] at h5
            try rw [tk0] at h5
            refine am_if (fun h6 => ?_) (fun h6 => ?_)
            · exact k3 h1 h2 h3 h4 h5 h6
            · refine am_if (fun h7 => ?_) (fun h7 => ?_)
              · exact k4 h1 h2 h3 h4 h5 h6 h7
              · refine am_if (fun h8 => ?_) (fun h8 => ?_)
                · exact k5 h1 h2 h3 h4 h5 h6 h7 h8
                · refine am_f (ix_in (n := (kx x)) (N := 4) e_x (by omega) (by decide)) ?_
                  have tk4 : I 34 0 (((x).toNatClampNeg)) = nI (sh s (kx x)).2.1 := by first | exact (shM h (k := kx x) (by omega)).2.1 | (((try rw [tk0])); first | done | exact (shM h (k := kx x) (by omega)).2.1)
                  refine am_if (fun h9 => ?_) (fun h9 => ?_)
                  · have h9 : 0 < (lg_cmp (((p : Int32).toInt64 + (m : Int32).toInt64)) (((I 34 0 (((x).toNatClampNeg))) : Int32).toInt64)) := h9
                    try rw [tk4] at h9
                    try rw [tk0] at h9
                    exact k6 h1 h2 h3 h4 h5 h6 h7 h8 h9
                  · have h9 : ¬ 0 < (lg_cmp (((p : Int32).toInt64 + (m : Int32).toInt64)) (((I 34 0 (((x).toNatClampNeg))) : Int32).toInt64)) := h9
                    try rw [tk4] at h9
                    try rw [tk0] at h9
                    refine am_f (ix_in (n := (kx y)) (N := 4) e_y (by omega) (by decide)) ?_
                    have tk5 : I 34 0 (((y).toNatClampNeg)) = nI (sh s (kx y)).2.1 := by first | exact (shM h (k := kx y) (by omega)).2.1 | (((try rw [tk2])); first | done | exact (shM h (k := kx y) (by omega)).2.1)
                    refine am_if (fun h10 => ?_) (fun h10 => ?_)
                    · have h10 : (lg_cmp (((a : Int32).toInt64 + (m : Int32).toInt64)) (((I 34 0 (((y).toNatClampNeg))) : Int32).toInt64)) ≤ 0 := h10
                      try rw [tk5] at h10
                      try rw [tk2] at h10
                      refine am_cf rfl ?_
                      refine am_cut ?_
                      refine am_go 2 ?_
                      exact k7 h1 h2 h3 h4 h5 h6 h7 h8 h9 h10
                    · have h10 : ¬ (lg_cmp (((a : Int32).toInt64 + (m : Int32).toInt64)) (((I 34 0 (((y).toNatClampNeg))) : Int32).toInt64)) ≤ 0 := h10
                      try rw [tk5] at h10
                      try rw [tk2] at h10
                      exact k8 h1 h2 h3 h4 h5 h6 h7 h8 h9 h10
          · have h5 : ¬ (I 33 0 (((x).toNatClampNeg))) = (I 33 0 (((y).toNatClampNeg))) := h5
            try rw [tk3] at h5
            try rw [tk1] at h5
            try rw [tk2] at h5
            try rw [tk0] at h5
            exact k9 h1 h2 h3 h4 h5
        · have h4 : ¬ 0 ≤ (I 33 0 (((y).toNatClampNeg))) := h4
          try rw [tk3] at h4
          try rw [tk2] at h4
          exact k10 h1 h2 h3 h4
theorem sN {r : Ro} (g : GR r) : r.1 < 0 ↔ r.1 = -1 := by
  rcases g.1 with q | q | q
  · rw [q.1]; decide
  · rw [q]; decide
  · rw [q]; decide
theorem p_X8_copy {I X d s} (h : RM I s) (G : GS s) (x p y a m : Int32) : Sp mX8_copy [.inr (.inr (some (8, 0))), .inl x, .inl p, .inl y, .inl a, .inl m] (d + 2) I X (OM I X (f_copy s x p y a m)) := fun g gs Q K => by
  refine w_X8_copy h G (fun h0 => by apply K_s K; unfold f_copy; rw [if_neg h0]; exact ⟨rfl, h, FrM_r, rfl⟩) (fun h0 h1 => by apply K_s K; unfold f_copy; rw [if_pos h0, if_neg h1]; exact ⟨rfl, h, FrM_r, rfl⟩) (fun h0 h1 h2 => by apply K_s K; unfold f_copy; rw [if_pos h0, if_pos h1, if_pos ((sN (G.2.2.1 (kx x) (by have := (okl (m := 3) (by omega) h0).2; omega))).mp h2)]; exact ⟨rfl, h, FrM_r, rfl⟩) (fun h0 h1 h2 h3 h4 h5 => by apply K_s K; unfold f_copy; rw [if_pos h0, if_pos h1, if_neg (fun e => h2 ((sN (G.2.2.1 (kx x) (by have := (okl (m := 3) (by omega) h0).2; omega))).mpr e)), if_neg (fun e => absurd h3 (Int32.not_le.mpr ((sN (G.2.2.1 (kx y) (by have := (okl (m := 3) (by omega) h1).2; omega))).mpr e))), if_pos h4, if_neg (fun q => (inR_n q).1 h5)]; exact ⟨rfl, h, FrM_r, rfl⟩) (fun h0 h1 h2 h3 h4 h5 h6 => by
    apply K_s K; unfold f_copy; rw [if_pos h0, if_pos h1, if_neg (fun e => h2 ((sN (G.2.2.1 (kx x) (by have := (okl (m := 3) (by omega) h0).2; omega))).mpr e)), if_neg (fun e => absurd h3 (Int32.not_le.mpr ((sN (G.2.2.1 (kx y) (by have := (okl (m := 3) (by omega) h1).2; omega))).mpr e))), if_pos h4]
    by_cases w1 : inR p m (sh s (kx x)).2.1
    · rw [if_pos w1, if_neg (fun q => (inR_n q).1 h6)]; exact ⟨rfl, h, FrM_r, rfl⟩
    · rw [if_neg w1]; exact ⟨rfl, h, FrM_r, rfl⟩) (fun h0 h1 h2 h3 h4 h5 h6 h7 => by apply K_s K; unfold f_copy; rw [if_pos h0, if_pos h1, if_neg (fun e => h2 ((sN (G.2.2.1 (kx x) (by have := (okl (m := 3) (by omega) h0).2; omega))).mpr e)), if_neg (fun e => absurd h3 (Int32.not_le.mpr ((sN (G.2.2.1 (kx y) (by have := (okl (m := 3) (by omega) h1).2; omega))).mpr e))), if_pos h4, if_neg (fun q => (inR_n q).2.1 h7)]; exact ⟨rfl, h, FrM_r, rfl⟩) (fun h0 h1 h2 h3 h4 h5 h6 h7 h8 => by apply K_s K; unfold f_copy; rw [if_pos h0, if_pos h1, if_neg (fun e => h2 ((sN (G.2.2.1 (kx x) (by have := (okl (m := 3) (by omega) h0).2; omega))).mpr e)), if_neg (fun e => absurd h3 (Int32.not_le.mpr ((sN (G.2.2.1 (kx y) (by have := (okl (m := 3) (by omega) h1).2; omega))).mpr e))), if_pos h4, if_neg (fun q => absurd q.2.2 (Int.not_le.mpr ((lg_r (G.2.2.1 (kx x) (by have := (okl (m := 3) (by omega) h0).2; omega)).2).mp h8)))]; exact ⟨rfl, h, FrM_r, rfl⟩) (fun h0 h1 h2 h3 h4 h5 h6 h7 h8 h9 => ?_) (fun h0 h1 h2 h3 h4 h5 h6 h7 h8 h9 => by
    apply K_s K; unfold f_copy; rw [if_pos h0, if_pos h1, if_neg (fun e => h2 ((sN (G.2.2.1 (kx x) (by have := (okl (m := 3) (by omega) h0).2; omega))).mpr e)), if_neg (fun e => absurd h3 (Int32.not_le.mpr ((sN (G.2.2.1 (kx y) (by have := (okl (m := 3) (by omega) h1).2; omega))).mpr e))), if_pos h4]
    by_cases w1 : inR p m (sh s (kx x)).2.1
    · rw [if_pos w1, if_neg (fun q => absurd q.2.2 (Int.not_le.mpr ((lg_r (G.2.2.1 (kx y) (by have := (okl (m := 3) (by omega) h1).2; omega)).2).mp (Int32.not_le.mp h9))))]; exact ⟨rfl, h, FrM_r, rfl⟩
    · rw [if_neg w1]; exact ⟨rfl, h, FrM_r, rfl⟩) (fun h0 h1 h2 h3 h4 => by apply K_s K; unfold f_copy; rw [if_pos h0, if_pos h1, if_neg (fun e => h2 ((sN (G.2.2.1 (kx x) (by have := (okl (m := 3) (by omega) h0).2; omega))).mpr e)), if_neg (fun e => absurd h3 (Int32.not_le.mpr ((sN (G.2.2.1 (kx y) (by have := (okl (m := 3) (by omega) h1).2; omega))).mpr e))), if_neg h4]; exact ⟨rfl, h, FrM_r, rfl⟩) (fun h0 h1 h2 h3 => by apply K_s K; unfold f_copy; rw [if_pos h0, if_pos h1, if_neg (fun e => h2 ((sN (G.2.2.1 (kx x) (by have := (okl (m := 3) (by omega) h0).2; omega))).mpr e)), if_pos ((sN (G.2.2.1 (kx y) (by have := (okl (m := 3) (by omega) h1).2; omega))).mp (Int32.not_le.mp h3))]; exact ⟨rfl, h, FrM_r, rfl⟩)
  obtain ⟨e_x, lx⟩ := okl (m := 3) (by omega) h0
  obtain ⟨e_y, ly⟩ := okl (m := 3) (by omega) h1
  have l0 : ∀ v : Int32, ¬ v < 0 → 0 ≤ v.toInt := fun v z => by rw [Int32.lt_iff_toInt_lt] at z; exact Int.not_lt.mp z
  have w1 : inR p m (sh s (kx x)).2.1 := ⟨l0 p h5, l0 m h7, Int.not_lt.mp (fun z => h8 ((lg_r (G.2.2.1 (kx x) (by have := (okl (m := 3) (by omega) h0).2; omega)).2).mpr z))⟩
  have w2 : inR a m (sh s (kx y)).2.1 := ⟨l0 a h6, l0 m h7, Int.not_lt.mp (fun z => Int32.not_le.mpr ((lg_r (G.2.2.1 (kx y) (by have := (okl (m := 3) (by omega) h1).2; omega)).2).mpr z) h9)⟩
  have c1 := Nat.le_trans (inR_n w1).2.2 (G.2.2.1 (kx x) (by have := (okl (m := 3) (by omega) h0).2; omega)).2
  have c2 := Nat.le_trans (inR_n w2).2.2 (G.2.2.1 (kx y) (by have := (okl (m := 3) (by omega) h1).2; omega)).2
  have t := l_cp1 (I := I) (X := X) (g := g) (gs := gs) (d := d) (Q := Q) e_x lx (nn_nI (Int32.not_lt.mp h5)) e_y ly (nn_nI (Int32.not_lt.mp h6)) (nn_nI (Int32.not_lt.mp h7)) c1 c2 (kx m) 0 (Nat.zero_add _) (by
    have t2 := l_cp2 (I := fl I 47 0 0 (kx m) (fun j => I 35 0 (24 * kx x + kx p + j))) (X := X) (g := g) (gs := gs) (d := d) (Q := Q) e_x lx (nn_nI (Int32.not_lt.mp h5)) e_y ly (nn_nI (Int32.not_lt.mp h6)) (nn_nI (Int32.not_lt.mp h7)) c1 c2 (kx m) 0 (Nat.zero_add _) (by
      apply K_s K; unfold f_copy
      rw [if_pos h0, if_pos h1, if_neg (fun e => h2 ((sN (G.2.2.1 (kx x) (by have := (okl (m := 3) (by omega) h0).2; omega))).mpr e)), if_neg (fun e => absurd h3 (Int32.not_le.mpr ((sN (G.2.2.1 (kx y) (by have := (okl (m := 3) (by omega) h1).2; omega))).mpr e))), if_pos h4, if_pos w1, if_pos w2]
      refine ⟨rfl, RM_cp h (by omega) c2 (fun j hj => ?_), FrM_f rfl (FrM_f rfl FrM_r), rfl⟩
      unfold cpF
      by_cases q : kx a ≤ j ∧ j < kx a + kx m
      · rw [if_pos q, if_pos q]
        have e := fl_i (I := I) (g := 47) (k := 0) (b := 0) (i := kx m) (j := j - kx a) (f := fun j => I 35 0 (24 * kx x + kx p + j)) (by omega)
        rw [Nat.zero_add] at e
        show fl I 47 0 0 (kx m) (fun j => I 35 0 (24 * kx x + kx p + j)) 47 0 (j - kx a) = _
        rw [e]
        show I 35 0 (24 * kx x + kx p + (j - kx a)) = _
        rw [Nat.add_assoc]
        exact (h.2.2.1 (kx x) (by omega)).2.2 _ (by omega)
      · rw [if_neg q, if_neg q])
    rw [fl_0] at t2
    exact t2)
  rw [fl_0] at t
  exact t
