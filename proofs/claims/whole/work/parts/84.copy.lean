theorem inR_n {p m : Int32} {n : Nat} (h : inR p m n) : ¬ p < 0 ∧ ¬ m < 0 ∧ kx p + kx m ≤ n := by
  have l0 : ∀ v : Int32, v < 0 ↔ v.toInt < 0 := fun v => Int32.lt_iff_toInt_lt
  obtain ⟨a, b, c⟩ := h
  refine ⟨fun z => ?_, fun z => ?_, ?_⟩
  · rw [l0] at z; omega
  · rw [l0] at z; omega
  · show p.toInt.toNat + m.toInt.toNat ≤ n
    omega
def cpF (f g : Nat → Int32) (p a m : Nat) (j : Nat) : Int32 := if a ≤ j ∧ j < a + m then f (p + (j - a)) else g j
theorem cpF_e {F H f g : Nat → Int32} {p a m j : Nat} (hF : ∀ i, i < 24 → F i = f i) (hH : ∀ i, i < 24 → H i = g i) (hp : p + m ≤ 24) (hj : j < 24) : va_cpy F H p a m j = cpF f g p a m j := by
  unfold cpF
  split
  · rename_i q
    rw [pk_cpy_in q.1 q.2]; exact hF _ (by omega)
  · rename_i q
    rw [pk_cpy_out (by omega)]; exact hH _ hj
def f_copy (s : St) (x p y a m : Int32) : Int32 × St := if 0 ≤ x ∧ x ≤ 3 then if 0 ≤ y ∧ y ≤ 3 then if (sh s (kx x)).1 = -1 then (cNOTH, s) else if (sh s (kx y)).1 = -1 then (cNOTH, s) else if (sh s (kx x)).1 = (sh s (kx y)).1 then if inR p m (sh s (kx x)).2.1 then if inR a m (sh s (kx y)).2.1 then (m, stR s (kx y) ((sh s (kx y)).1, (sh s (kx y)).2.1, cpF (sh s (kx x)).2.2 (sh s (kx y)).2.2 (kx p) (kx a) (kx m))) else (cINDEX, s) else (cINDEX, s) else (cKIND, s) else (cBAD, s) else (cBAD, s)
theorem RC_cp {I : Im} {X s} {k : Nat} {f ff : Nat → Int32} (h : RC I X s) (hk : k < 4) (hf : ∀ j, j < 24 → f j = ff j) : RC (up2 I 25 k f) X (stR s k ((sh s k).1, (sh s k).2.1, ff)) := by
  refine ⟨h.1, RC_im h.2.1 rfl (fun _ q => q), fun k' hk' => ?_, fun k' hk' => ?_, h.2.2.2.2⟩
  · show RoC _ k' (fu _ _ _ k')
    by_cases e : k' = k
    · subst e
      rw [fu_s]
      obtain ⟨a, b, c⟩ := h.2.2.1 k' hk'
      refine ⟨a, b, fun j hj => ?_⟩
      show (if k' = k' then f j else I 25 k' j) = _
      rw [if_pos rfl]; exact hf j hj
    · rw [fu_n e]
      obtain ⟨a, b, c⟩ := h.2.2.1 k' hk'
      refine ⟨a, b, fun j hj => ?_⟩
      show (if k' = k then f j else I 25 k' j) = _
      rw [if_neg e]; exact c j hj
  · obtain ⟨a, b, c, d⟩ := h.2.2.2.1 k' hk'
    refine ⟨a, b, fun q => ⟨(c q).1, fun j hj => ?_⟩, d⟩
    show (if k' + 4 = k then f j else I 25 (k' + 4) j) = _
    rw [if_neg (by omega)]; exact (c q).2 j hj
set_option maxRecDepth 100000 in
set_option maxHeartbeats 4000000 in
theorem w_X7_copy {I : Nat → Nat → Nat → Int32} {X : am_Z} {g : am_F} {gs : List am_F} {d : Nat} {Q : Option am_V → am_M → Prop} {s : St} (h : RC I X s) (G : GS s) {x p y a m : Int32} (b0 : ((0 : Int32) ≤ x ∧ x ≤ 3) → ((0 : Int32) ≤ y ∧ y ≤ 3) → (¬ ((sh s (kx x)).1) = (-1)) → (¬ ((sh s (kx y)).1) = (-1)) → (((sh s (kx x)).1) = ((sh s (kx y)).1)) → (inR p m (sh s (((kx x)))).2.1) → (inR a m (sh s (((kx y)))).2.1) → ¬ p < 0 ∧ ¬ a < 0 ∧ ¬ m < 0 ∧ (p).toNatClampNeg + (m).toNatClampNeg ≤ 24 ∧ (a).toNatClampNeg + (m).toNatClampNeg ≤ 24) (k0 : (¬ ((0 : Int32) ≤ x ∧ x ≤ 3)) → am_WP (am_psh g (some (.inl ((-1000000001)))) :: gs) (d + 3) (mk I X) Q) (k1 : ((0 : Int32) ≤ x ∧ x ≤ 3) → (¬ ((0 : Int32) ≤ y ∧ y ≤ 3)) → am_WP (am_psh g (some (.inl ((-1000000001)))) :: gs) (d + 3) (mk I X) Q) (k2 : ((0 : Int32) ≤ x ∧ x ≤ 3) → ((0 : Int32) ≤ y ∧ y ≤ 3) → (((sh s (kx x)).1) = (-1)) → am_WP (am_psh g (some (.inl ((-1000000011)))) :: gs) (d + 3) (mk I X) Q) (k3 : ((0 : Int32) ≤ x ∧ x ≤ 3) → ((0 : Int32) ≤ y ∧ y ≤ 3) → (¬ ((sh s (kx x)).1) = (-1)) → (((sh s (kx y)).1) = (-1)) → am_WP (am_psh g (some (.inl ((-1000000011)))) :: gs) (d + 3) (mk I X) Q) (k4 : ((0 : Int32) ≤ x ∧ x ≤ 3) → ((0 : Int32) ≤ y ∧ y ≤ 3) → (¬ ((sh s (kx x)).1) = (-1)) → (¬ ((sh s (kx y)).1) = (-1)) → (((sh s (kx x)).1) = ((sh s (kx y)).1)) → (¬ (inR p m (sh s (((kx x)))).2.1)) → am_WP (am_psh g (some (.inl ((-1000000013)))) :: gs) (d + 3) (mk I X) Q) (k5 : ((0 : Int32) ≤ x ∧ x ≤ 3) → ((0 : Int32) ≤ y ∧ y ≤ 3) → (¬ ((sh s (kx x)).1) = (-1)) → (¬ ((sh s (kx y)).1) = (-1)) → (((sh s (kx x)).1) = ((sh s (kx y)).1)) → (inR p m (sh s (((kx x)))).2.1) → (¬ (inR a m (sh s (((kx y)))).2.1)) → am_WP (am_psh g (some (.inl ((-1000000013)))) :: gs) (d + 3) (mk I X) Q) (k6 : ((0 : Int32) ≤ x ∧ x ≤ 3) → ((0 : Int32) ≤ y ∧ y ≤ 3) → (¬ ((sh s (kx x)).1) = (-1)) → (¬ ((sh s (kx y)).1) = (-1)) → (((sh s (kx x)).1) = ((sh s (kx y)).1)) → (inR p m (sh s (((kx x)))).2.1) → (inR a m (sh s (((kx y)))).2.1) → am_WP (am_psh g (some (.inl (m))) :: gs) (d + 3) (mk (up2 I 25 (((kx y))) (va_cpy (I 25 (((kx x)))) (I 25 (((kx y)))) ((p).toNatClampNeg) ((a).toNatClampNeg) ((m).toNatClampNeg))) X) Q) (k7 : ((0 : Int32) ≤ x ∧ x ≤ 3) → ((0 : Int32) ≤ y ∧ y ≤ 3) → (¬ ((sh s (kx x)).1) = (-1)) → (¬ ((sh s (kx y)).1) = (-1)) → (¬ ((sh s (kx x)).1) = ((sh s (kx y)).1)) → am_WP (am_psh g (some (.inl ((-1000000012)))) :: gs) (d + 3) (mk I X) Q) : am_WP (am_entry mX7_copy [.inr (.inr (some (7, 0))), .inl (x), .inl (p), .inl (y), .inl (a), .inl (m)] :: g :: gs) (d + 2) (mk I X) Q := by
  refine am_go 400 ?_
  refine (c_X7_isSheet (x := x)) _ _ _ ?_
  refine am_go 400 ?_
  refine am_if (fun h1 => ?_) (fun h1 => ?_)
  · have h1 := bI_0.mp h1
    exact k0 h1
  · have h1 := bI_1.mp h1
    obtain ⟨e_x, l_x⟩ := okl (m := 3) (by decide) h1
    refine (c_X7_isSheet (x := y)) _ _ _ ?_
    refine am_go 400 ?_
    refine am_if (fun h2 => ?_) (fun h2 => ?_)
    · have h2 := bI_0.mp h2
      exact k1 h1 h2
    · have h2 := bI_1.mp h2
      obtain ⟨e_y, l_y⟩ := okl (m := 3) (by decide) h2
      refine am_f (ix_in (n := (kx x)) (N := 4) e_x (by omega) (by decide)) ?_
      have tk0 : (x).toNatClampNeg = (kx x) := ix_cl (n := (kx x)) e_x (by omega)
      refine am_f (ix_in (n := (kx y)) (N := 4) e_y (by omega) (by decide)) ?_
      have tk1 : (y).toNatClampNeg = (kx y) := ix_cl (n := (kx y)) e_y (by omega)
      have tk2 : I 4 (((x).toNatClampNeg)) 1 = (sh s (kx x)).1 := by first | exact (shC h (k := kx x) (by omega)).1 | (((try rw [tk0])); first | done | exact (shC h (k := kx x) (by omega)).1)
      refine am_if (fun h3 => ?_) (fun h3 => ?_)
      · have h3 : (I 4 (((x).toNatClampNeg)) 1) = (-1) := h3
        try rw [tk2] at h3
        try rw [tk0] at h3
        exact k2 h1 h2 h3
      · have h3 : ¬ (I 4 (((x).toNatClampNeg)) 1) = (-1) := h3
        try rw [tk2] at h3
        try rw [tk0] at h3
        have tk3 : I 4 (((y).toNatClampNeg)) 1 = (sh s (kx y)).1 := by first | exact (shC h (k := kx y) (by omega)).1 | (((try rw [tk1])); first | done | exact (shC h (k := kx y) (by omega)).1)
        refine am_if (fun h4 => ?_) (fun h4 => ?_)
        · have h4 : (I 4 (((y).toNatClampNeg)) 1) = (-1) := h4
          try rw [tk3] at h4
          try rw [tk1] at h4
          exact k3 h1 h2 h3 h4
        · have h4 : ¬ (I 4 (((y).toNatClampNeg)) 1) = (-1) := h4
          try rw [tk3] at h4
          try rw [tk1] at h4
          refine am_if (fun h5 => ?_) (fun h5 => ?_)
          · have h5 : (I 4 (((x).toNatClampNeg)) 1) = (I 4 (((y).toNatClampNeg)) 1) := h5
            try rw [tk3] at h5
            try rw [tk2] at h5
            try rw [tk1] at h5
            try rw [tk0] at h5
            refine (c_X4_hasRange (q := ((x).toNatClampNeg)) (p := p) (m := m) (h.2.2.1 (((x).toNatClampNeg)) (by omega)) (G.2.2.1 (((x).toNatClampNeg)) (by omega)).2) _ _ _ ?_
            refine am_go 400 ?_
            refine am_if (fun h6 => ?_) (fun h6 => ?_)
            · have h6 := bI_0.mp h6
              have h6 : ¬ (inR p m (sh s (((x).toNatClampNeg))).2.1) := h6
              try rw [tk0] at h6
              exact k4 h1 h2 h3 h4 h5 h6
            · have h6 := bI_1.mp h6
              have h6 : inR p m (sh s (((x).toNatClampNeg))).2.1 := h6
              try rw [tk0] at h6
              refine (c_X4_hasRange (q := ((y).toNatClampNeg)) (p := a) (m := m) (h.2.2.1 (((y).toNatClampNeg)) (by omega)) (G.2.2.1 (((y).toNatClampNeg)) (by omega)).2) _ _ _ ?_
              refine am_go 400 ?_
              refine am_if (fun h7 => ?_) (fun h7 => ?_)
              · have h7 := bI_0.mp h7
                have h7 : ¬ (inR a m (sh s (((y).toNatClampNeg))).2.1) := h7
                try rw [tk1] at h7
                exact k5 h1 h2 h3 h4 h5 h6 h7
              · have h7 := bI_1.mp h7
                have h7 : inR a m (sh s (((y).toNatClampNeg))).2.1 := h7
                try rw [tk1] at h7
                refine am_t (b0 h1 h2 h3 h4 h5 h6 h7) ?_
                show am_WP (am_psh g (some (.inl (m))) :: gs) (d + 3) (mk (up2 I 25 (((y).toNatClampNeg)) (va_cpy (I 25 (((x).toNatClampNeg))) (I 25 (((y).toNatClampNeg))) ((p).toNatClampNeg) ((a).toNatClampNeg) ((m).toNatClampNeg))) X) Q
                try rw [tk1]
                try rw [tk0]
                exact k6 h1 h2 h3 h4 h5 h6 h7
          · have h5 : ¬ (I 4 (((x).toNatClampNeg)) 1) = (I 4 (((y).toNatClampNeg)) 1) := h5
            try rw [tk3] at h5
            try rw [tk2] at h5
            try rw [tk1] at h5
            try rw [tk0] at h5
            exact k7 h1 h2 h3 h4 h5
theorem p_X7_copy {I X d s} (h : RC I X s) (G : GS s) (x p y a m : Int32) : Sp mX7_copy [.inr (.inr (some (7, 0))), .inl x, .inl p, .inl y, .inl a, .inl m] (d + 2) I X (OC I X (f_copy s x p y a m)) := fun g gs Q K => by
  refine w_X7_copy h G (fun h0 h1 h2 h3 h4 h5 h6 => ?_) (fun h0 => by apply K_s K; unfold f_copy; rw [if_neg h0]; exact ⟨rfl, h, FrC_r⟩) (fun h0 h1 => by apply K_s K; unfold f_copy; rw [if_pos h0, if_neg h1]; exact ⟨rfl, h, FrC_r⟩) (fun h0 h1 h2 => by apply K_s K; unfold f_copy; rw [if_pos h0, if_pos h1, if_pos h2]; exact ⟨rfl, h, FrC_r⟩) (fun h0 h1 h2 h3 => by apply K_s K; unfold f_copy; rw [if_pos h0, if_pos h1, if_neg h2, if_pos h3]; exact ⟨rfl, h, FrC_r⟩) (fun h0 h1 h2 h3 h4 h5 => by apply K_s K; unfold f_copy; rw [if_pos h0, if_pos h1, if_neg h2, if_neg h3, if_pos h4, if_neg h5]; exact ⟨rfl, h, FrC_r⟩) (fun h0 h1 h2 h3 h4 h5 h6 => by apply K_s K; unfold f_copy; rw [if_pos h0, if_pos h1, if_neg h2, if_neg h3, if_pos h4, if_pos h5, if_neg h6]; exact ⟨rfl, h, FrC_r⟩) (fun h0 h1 h2 h3 h4 h5 h6 => ?_) (fun h0 h1 h2 h3 h4 => by apply K_s K; unfold f_copy; rw [if_pos h0, if_pos h1, if_neg h2, if_neg h3, if_neg h4]; exact ⟨rfl, h, FrC_r⟩)
  · obtain ⟨a1, a2, a3⟩ := inR_n h5
    obtain ⟨b1, b2, b3⟩ := inR_n h6
    have g1 := (G.2.2.1 (kx x) (by have := (okl (m := 3) (by omega) h0).2; omega)).2
    have g2 := (G.2.2.1 (kx y) (by have := (okl (m := 3) (by omega) h1).2; omega)).2
    exact ⟨a1, b1, a2, Nat.le_trans a3 g1, Nat.le_trans b3 g2⟩
  · obtain ⟨a1, a2, a3⟩ := inR_n h5
    have lx := (okl (m := 3) (by omega) h0).2
    have ly := (okl (m := 3) (by omega) h1).2
    have g1 := (G.2.2.1 (kx x) (by omega)).2
    apply K_s K; unfold f_copy
    rw [if_pos h0, if_pos h1, if_neg h2, if_neg h3, if_pos h4, if_pos h5, if_pos h6]
    exact ⟨rfl, RC_cp h (by omega) (fun j hj => cpF_e (h.2.2.1 (kx x) (by omega)).2.2 (h.2.2.1 (kx y) (by omega)).2.2 (Nat.le_trans a3 g1) hj), FrC_2 rfl FrC_r⟩
