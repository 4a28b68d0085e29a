/-! check, the model -/
/-- the row s lies in aside; of the rest only the row s and the row due have changed -/
def Lc (I I2 : Im) : Prop := (∀ j, j < 2950 → I2 32 0 j = I 30 0 j) ∧ ∀ g, ¬ (g = 30 ∨ g = 32 ∨ g = 49) → I2 g = I g
theorem Lc_0 {I : Im} : Lc I (fl (fl I 32 0 0 2950 (I 30 0)) 30 0 0 2950 (fl I 32 0 0 2950 (I 30 0) 31 0)) := ⟨fun j hj => (show fl I 32 0 0 2950 (I 30 0) 32 0 j = _ from fl_lt hj), fun g hg => by rw [fl_g (fun e => hg (by omega)), fl_g (fun e => hg (by omega))]⟩
theorem Lc_Y {I I1 I2} (h : Lc I I1) (F : FrY I1 I2) : Lc I I2 := ⟨fun j hj => by rw [F.1 32 (by decide)]; exact h.1 j hj, fun g hg => (F.1 g (fun e => hg (by omega))).trans (h.2 g hg)⟩
theorem Lc_3 {I I1 : Im} {k j v} (h : Lc I I1) : Lc I (up3 I1 49 k j v) := ⟨fun j hj => h.1 j hj, fun g hg => by rw [up3_g (fun e => hg (by omega))]; exact h.2 g hg⟩
theorem RM_lc {I I2 s} (h : RM I s) (G : GS s) (L : Lc I I2) : RM (fl I2 30 0 0 2950 (I2 32 0)) s := by
  have F : ∀ g, ¬ (g = 30 ∨ g = 32 ∨ g = 49) → fl I2 30 0 0 2950 (I2 32 0) g = I g := fun g hg => by rw [fl_g (fun e => hg (by omega))]; exact L.2 g hg
  obtain ⟨h1, hi, hr, hs, hw, htp⟩ := h
  refine ⟨CeM_cp h1 G.1 (fun j hj => by rw [fl_lt hj]; exact L.1 j hj), RM_im hi (by rw [F 8 (by decide)]) (by rw [F 31 (by decide)]), fun k hk => ?_, fun k hk => ?_, ?_, ?_⟩
  · obtain ⟨a, b, c⟩ := hr k hk
    exact ⟨by rw [F 33 (by decide)]; exact a, by rw [F 34 (by decide)]; exact b, by rw [F 35 (by decide)]; exact c⟩
  · obtain ⟨a, b, c, d⟩ := hs k hk
    exact ⟨by rw [F 36 (by decide)]; exact a, by rw [F 37 (by decide), F 38 (by decide)]; exact b, by rw [F 39 (by decide), F 40 (by decide)]; exact c, by rw [F 37 (by decide)]; exact d⟩
  · exact ⟨by rw [F 8 (by decide)]; exact hw.1, by rw [F 48 (by decide)]; exact hw.2⟩
  · exact ⟨by rw [F 8 (by decide)]; exact htp.1, by rw [F 44 (by decide)]; exact htp.2⟩
theorem FrM_lc {I I2 : Im} (L : Lc I I2) : FrM I (fl I2 30 0 0 2950 (I2 32 0)) := fun g hg => by
  rw [fl_g (fun e => by subst e; cases hg)]
  exact L.2 g (fun z => by rcases z with rfl | rfl | rfl <;> cases hg)
theorem due_le : ∀ (m : Nat) (σ : Cn), (dueL m σ).length ≤ 2 * m
  | 0, _ => by rw [dueL]; exact Nat.zero_le _
  | m + 1, σ => by
    rw [dueL]
    split
    · exact Nat.zero_le _
    · have := due_le m (yearN σ)
      show (dueL m (yearN σ)).length + 1 + 1 ≤ _
      omega
set_option maxRecDepth 100000 in
set_option maxHeartbeats 4000000 in
theorem w_chkM_64 {I : Nat → Nat → Nat → Int32} {X : am_Z} {g : am_F} {gs : List am_F} {d : Nat} {Q : Option am_V → am_M → Prop} {n gv r i : Nat} {x : Int32} (hx : x = nI n) (hn : n ≤ 30) (hi : i ≤ n) (hg : gv ≤ 60) (hr : r = 2 * i) {σ : Cn} (hR : RepM (I 30 0) σ) (hG : GD σ) (hy : σ.2.1 0 ≤ 9999) (k0 : (n ≤ i) → am_WP ((mX8_check, 126, [some (.inr (.inr (some (8, 0)))), some (.inl (x)), some (.inl (nI gv)), some (.inl (nI r)), some (.inl (nI i))], []) :: g :: gs) (d + 4) (mk I X) Q) (k1 : (¬ (n ≤ i)) → (9999 ≤ (σ.2.1 0)) → am_WP ((mX8_check, 126, [some (.inr (.inr (some (8, 0)))), some (.inl (x)), some (.inl (nI gv)), some (.inl (nI r)), some (.inl (nI i))], []) :: g :: gs) (d + 4) (mk I X) Q) (k2 : (¬ (n ≤ i)) → (¬ (9999 ≤ (σ.2.1 0))) → ∀ (I1 : Im), (RepM (I1 30 0) (yrs 1 σ) ∧ FrY I I1) → am_WP ((mX8_check, 64, [some (.inr (.inr (some (8, 0)))), some (.inl (x)), some (.inl (nI gv)), some (.inl ((nI (r + 2)))), some (.inl ((nI (i + 1))))], []) :: g :: gs) (d + 4) (mk (up3 (up3 I1 49 0 (r) ((nI (stA (yrs 1 σ))))) 49 0 (((r + 1))) ((nI (hdA (yrs 1 σ))))) X) Q) : am_WP ((mX8_check, 64, [some (.inr (.inr (some (8, 0)))), some (.inl (x)), some (.inl (nI gv)), some (.inl (nI r)), some (.inl (nI i))], []) :: g :: gs) (d + 4) (mk I X) Q := by
  have h8 := hG.1
  refine am_go 400 ?_
  refine am_if (fun h1 => ?_) (fun h1 => ?_)
  · have nh1 := (le_nat (a := n) (b := i) hx (rfl : (nI i : Int32) = nI i) (by omega) (by omega)).mp h1
    refine am_cf rfl ?_
    exact am_cut (k0 nh1)
  · have nh1 := mt (le_nat (a := n) (b := i) hx (rfl : (nI i : Int32) = nI i) (by omega) (by omega)).mpr h1
    have tk0 : I 30 0 2 = nI (σ.2.1 0) := hR.2.1
    refine am_if (fun h2 => ?_) (fun h2 => ?_)
    · have nh2 := (le_nat (a := 9999) (b := (σ.2.1 0)) (rfl : (9999 : Int32) = nI 9999) tk0 (by omega) (by omega)).mp h2
      refine am_cf rfl ?_
      exact am_cut (k1 nh1 nh2)
    · have nh2 := mt (le_nat (a := 9999) (b := (σ.2.1 0)) (rfl : (9999 : Int32) = nI 9999) tk0 (by omega) (by omega)).mpr h2
      refine (c_X8_goesOnMany (I := I) (n := 1) (σ := σ) (rfl : (1 : Int32) = nI 1) hR hG (by omega)) _ _ _ ?_
      intro I1 p1
      refine am_go 400 ?_
      have tk1 : aoS (I1 30 0) 6 6 (yrs 1 σ).1 = nI (stA (yrs 1 σ)) := ao_1 (show RepM (I1 30 0) (yrs 1 σ) from p1.1)
      refine (c_X8_allOf (w := 6) (q := 6) (n := (yrs 1 σ).1) rfl rfl (show RepM (I1 30 0) (yrs 1 σ) from p1.1).1 (GD_yrs hG).1 (by decide)) _ _ _ ?_
      refine am_go 400 ?_
      refine am_f (ix_in (n := r) (N := 60) (rfl : (nI r : Int32) = nI r) (by omega) (by decide)) ?_
      have tk2 : (nI r).toNatClampNeg = r := ix_cl (n := r) (rfl : (nI r : Int32) = nI r) (by omega)
      have tk3 : aoS ((up3 I1 49 0 (((nI r).toNatClampNeg)) ((aoS (I1 30 0) 6 6 (yrs 1 σ).1))) 30 0) 12 6 (yrs 1 σ).1 = nI (hdA (yrs 1 σ)) := by first | exact ao_2 (show RepM ((up3 I1 49 0 (((nI r).toNatClampNeg)) ((aoS (I1 30 0) 6 6 (yrs 1 σ).1))) 30 0) (yrs 1 σ) from p1.1) | (((try rw [tk1]); (try rw [tk2])); first | done | exact ao_2 (show RepM ((up3 I1 49 0 (((nI r).toNatClampNeg)) ((aoS (I1 30 0) 6 6 (yrs 1 σ).1))) 30 0) (yrs 1 σ) from p1.1))
      refine (c_X8_allOf (w := 12) (q := 6) (n := (yrs 1 σ).1) rfl rfl (show RepM ((up3 I1 49 0 (((nI r).toNatClampNeg)) ((aoS (I1 30 0) 6 6 (yrs 1 σ).1))) 30 0) (yrs 1 σ) from p1.1).1 (GD_yrs hG).1 (by decide)) _ _ _ ?_
      refine am_go 400 ?_
      refine am_f (ix_in (n := (r + 1)) (N := 60) (nI_addE rfl (rfl : (1 : Int32) = nI 1)) (by omega) (by decide)) ?_
      have tk4 : ((nI r + 1)).toNatClampNeg = (r + 1) := ix_cl (n := (r + 1)) (nI_addE rfl (rfl : (1 : Int32) = nI 1)) (by omega)
      have tk5 : (nI r + 2) = nI (r + 2) := (nI_addE rfl (rfl : (2 : Int32) = nI 2))
      have tk6 : (nI i + 1) = nI (i + 1) := (nI_addE rfl (rfl : (1 : Int32) = nI 1))
      show am_WP ((mX8_check, 64, [some (.inr (.inr (some (8, 0)))), some (.inl (x)), some (.inl (nI gv)), some (.inl (((nI r + 2)))), some (.inl (((nI i + 1))))], []) :: g :: gs) (d + 4) (mk (up3 (up3 I1 49 0 (((nI r).toNatClampNeg)) ((aoS (I1 30 0) 6 6 (yrs 1 σ).1))) 49 0 ((((nI r + 1)).toNatClampNeg)) ((aoS ((up3 I1 49 0 (((nI r).toNatClampNeg)) ((aoS (I1 30 0) 6 6 (yrs 1 σ).1))) 30 0) 12 6 (yrs 1 σ).1))) X) Q
      try rw [tk3]
      try rw [tk1]
      try rw [tk4]
      try rw [tk2]
      try rw [tk6]
      try rw [tk5]
      exact k2 nh1 nh2 I1 p1
set_option maxRecDepth 100000 in
set_option maxHeartbeats 4000000 in
theorem w_chkM_126 {I : Nat → Nat → Nat → Int32} {X : am_Z} {g : am_F} {gs : List am_F} {d : Nat} {Q : Option am_V → am_M → Prop} {gv r i : Nat} {x : Int32} (k0 : am_WP ((mX8_check, 141, [some (.inr (.inr (some (8, 0)))), some (.inl (x)), some (.inl (nI gv)), some (.inl (nI r)), some (.inl (0))], []) :: g :: gs) (d + 4) (mk (fl I 30 0 0 2950 (I 32 0)) X) Q) : am_WP ((mX8_check, 126, [some (.inr (.inr (some (8, 0)))), some (.inl (x)), some (.inl (nI gv)), some (.inl (nI r)), some (.inl (nI i))], []) :: g :: gs) (d + 4) (mk I X) Q := by
  refine am_go 400 ?_
  refine (c_aside_32_30) _ _ _ ?_
  refine am_go 2 ?_
  exact k0
set_option maxRecDepth 100000 in
set_option maxHeartbeats 4000000 in
theorem w_chkM_141 {I : Nat → Nat → Nat → Int32} {X : am_Z} {g : am_F} {gs : List am_F} {d : Nat} {Q : Option am_V → am_M → Prop} {gv r i : Nat} {x : Int32} (hg : gv ≤ 60) (hr : r ≤ 60) (hi : i ≤ r) {W D : Nat → Int32} (hW : ∀ j, j < gv → I 48 0 j = W j) (hD : ∀ j, j < r → I 49 0 j = D j) (k0 : (gv ≤ i) → (i = gv) → (i = r) → am_WP (am_psh g (some (.inl (0))) :: gs) (d + 5) (mk I X) Q) (k1 : (gv ≤ i) → (i = gv) → (¬ (i = r)) → am_WP (am_psh g (some (.inl ((nI (1 + i))))) :: gs) (d + 5) (mk I X) Q) (k2 : (gv ≤ i) → (¬ (i = gv)) → am_WP (am_psh g (some (.inl ((nI (1 + i))))) :: gs) (d + 5) (mk I X) Q) (k3 : (¬ (gv ≤ i)) → (r ≤ i) → (i = gv) → (i = r) → am_WP (am_psh g (some (.inl (0))) :: gs) (d + 5) (mk I X) Q) (k4 : (¬ (gv ≤ i)) → (r ≤ i) → (i = gv) → (¬ (i = r)) → am_WP (am_psh g (some (.inl ((nI (1 + i))))) :: gs) (d + 5) (mk I X) Q) (k5 : (¬ (gv ≤ i)) → (r ≤ i) → (¬ (i = gv)) → am_WP (am_psh g (some (.inl ((nI (1 + i))))) :: gs) (d + 5) (mk I X) Q) (k6 : (¬ (gv ≤ i)) → (¬ (r ≤ i)) → (((W (i))) = ((D (i)))) → am_WP ((mX8_check, 141, [some (.inr (.inr (some (8, 0)))), some (.inl (x)), some (.inl (nI gv)), some (.inl (nI r)), some (.inl ((nI (i + 1))))], []) :: g :: gs) (d + 4) (mk I X) Q) (k7 : (¬ (gv ≤ i)) → (¬ (r ≤ i)) → (¬ ((W (i))) = ((D (i)))) → (i = gv) → (i = r) → am_WP (am_psh g (some (.inl (0))) :: gs) (d + 5) (mk I X) Q) (k8 : (¬ (gv ≤ i)) → (¬ (r ≤ i)) → (¬ ((W (i))) = ((D (i)))) → (i = gv) → (¬ (i = r)) → am_WP (am_psh g (some (.inl ((nI (1 + i))))) :: gs) (d + 5) (mk I X) Q) (k9 : (¬ (gv ≤ i)) → (¬ (r ≤ i)) → (¬ ((W (i))) = ((D (i)))) → (¬ (i = gv)) → am_WP (am_psh g (some (.inl ((nI (1 + i))))) :: gs) (d + 5) (mk I X) Q) : am_WP ((mX8_check, 141, [some (.inr (.inr (some (8, 0)))), some (.inl (x)), some (.inl (nI gv)), some (.inl (nI r)), some (.inl (nI i))], []) :: g :: gs) (d + 4) (mk I X) Q := by
  refine am_go 400 ?_
  refine am_if (fun h1 => ?_) (fun h1 => ?_)
  · have nh1 := (le_nat (a := gv) (b := i) (rfl : (nI gv : Int32) = nI gv) (rfl : (nI i : Int32) = nI i) (by omega) (by omega)).mp h1
    refine am_if (fun h2 => ?_) (fun h2 => ?_)
    · have nh2 := (eq_nat (a := i) (b := gv) (rfl : (nI i : Int32) = nI i) (rfl : (nI gv : Int32) = nI gv) (by omega) (by omega)).mp h2
      refine am_if (fun h3 => ?_) (fun h3 => ?_)
      · have nh3 := (eq_nat (a := i) (b := r) (rfl : (nI i : Int32) = nI i) (rfl : (nI r : Int32) = nI r) (by omega) (by omega)).mp h3
        exact k0 nh1 nh2 nh3
      · have nh3 := mt (eq_nat (a := i) (b := r) (rfl : (nI i : Int32) = nI i) (rfl : (nI r : Int32) = nI r) (by omega) (by omega)).mpr h3
        have tk0 : (1 + nI i) = nI (1 + i) := (nI_addE (rfl : (1 : Int32) = nI 1) rfl)
        show am_WP (am_psh g (some (.inl (((1 + nI i))))) :: gs) (d + 5) (mk I X) Q
        try rw [tk0]
        exact k1 nh1 nh2 nh3
    · have nh2 := mt (eq_nat (a := i) (b := gv) (rfl : (nI i : Int32) = nI i) (rfl : (nI gv : Int32) = nI gv) (by omega) (by omega)).mpr h2
      have tk1 : (1 + nI i) = nI (1 + i) := (nI_addE (rfl : (1 : Int32) = nI 1) rfl)
      show am_WP (am_psh g (some (.inl (((1 + nI i))))) :: gs) (d + 5) (mk I X) Q
      try rw [tk1]
      exact k2 nh1 nh2
  · have nh1 := mt (le_nat (a := gv) (b := i) (rfl : (nI gv : Int32) = nI gv) (rfl : (nI i : Int32) = nI i) (by omega) (by omega)).mpr h1
    refine am_if (fun h4 => ?_) (fun h4 => ?_)
    · have nh4 := (le_nat (a := r) (b := i) (rfl : (nI r : Int32) = nI r) (rfl : (nI i : Int32) = nI i) (by omega) (by omega)).mp h4
      refine am_if (fun h5 => ?_) (fun h5 => ?_)
      · have nh5 := (eq_nat (a := i) (b := gv) (rfl : (nI i : Int32) = nI i) (rfl : (nI gv : Int32) = nI gv) (by omega) (by omega)).mp h5
        refine am_if (fun h6 => ?_) (fun h6 => ?_)
        · have nh6 := (eq_nat (a := i) (b := r) (rfl : (nI i : Int32) = nI i) (rfl : (nI r : Int32) = nI r) (by omega) (by omega)).mp h6
          exact k3 nh1 nh4 nh5 nh6
        · have nh6 := mt (eq_nat (a := i) (b := r) (rfl : (nI i : Int32) = nI i) (rfl : (nI r : Int32) = nI r) (by omega) (by omega)).mpr h6
          have tk2 : (1 + nI i) = nI (1 + i) := (nI_addE (rfl : (1 : Int32) = nI 1) rfl)
          show am_WP (am_psh g (some (.inl (((1 + nI i))))) :: gs) (d + 5) (mk I X) Q
          try rw [tk2]
          exact k4 nh1 nh4 nh5 nh6
      · have nh5 := mt (eq_nat (a := i) (b := gv) (rfl : (nI i : Int32) = nI i) (rfl : (nI gv : Int32) = nI gv) (by omega) (by omega)).mpr h5
        have tk3 : (1 + nI i) = nI (1 + i) := (nI_addE (rfl : (1 : Int32) = nI 1) rfl)
        show am_WP (am_psh g (some (.inl (((1 + nI i))))) :: gs) (d + 5) (mk I X) Q
        try rw [tk3]
        exact k5 nh1 nh4 nh5
    · have nh4 := mt (le_nat (a := r) (b := i) (rfl : (nI r : Int32) = nI r) (rfl : (nI i : Int32) = nI i) (by omega) (by omega)).mpr h4
      refine am_f (ix_in (n := i) (N := 60) (rfl : (nI i : Int32) = nI i) (by omega) (by decide)) ?_
      have tk4 : (nI i).toNatClampNeg = i := ix_cl (n := i) (rfl : (nI i : Int32) = nI i) (by omega)
      have tk5 : I 48 0 (((nI i).toNatClampNeg)) = (W (i)) := by first | exact hW _ (by omega) | (((try rw [tk4])); first | done | exact hW _ (by omega))
      refine am_f (ix_in (n := i) (N := 60) (rfl : (nI i : Int32) = nI i) (by omega) (by decide)) ?_
      have tk6 : I 49 0 (((nI i).toNatClampNeg)) = (D (i)) := by first | exact hD _ (by omega) | (((try rw [tk4])); first | done | exact hD _ (by omega))
      refine am_if (fun h7 => ?_) (fun h7 => ?_)
      · have h7 : (I 48 0 (((nI i).toNatClampNeg))) = (I 49 0 (((nI i).toNatClampNeg))) := h7
        try rw [tk6] at h7
        try rw [tk5] at h7
        try rw [tk4] at h7
        have tk7 : (nI i + 1) = nI (i + 1) := (nI_addE rfl (rfl : (1 : Int32) = nI 1))
        show am_WP ((mX8_check, 141, [some (.inr (.inr (some (8, 0)))), some (.inl (x)), some (.inl (nI gv)), some (.inl (nI r)), some (.inl (((nI i + 1))))], []) :: g :: gs) (d + 4) (mk I X) Q
        try rw [tk7]
        exact k6 nh1 nh4 h7
      · have h7 : ¬ (I 48 0 (((nI i).toNatClampNeg))) = (I 49 0 (((nI i).toNatClampNeg))) := h7
        try rw [tk6] at h7
        try rw [tk5] at h7
        try rw [tk4] at h7
        refine am_if (fun h8 => ?_) (fun h8 => ?_)
        · have nh8 := (eq_nat (a := i) (b := gv) (rfl : (nI i : Int32) = nI i) (rfl : (nI gv : Int32) = nI gv) (by omega) (by omega)).mp h8
          refine am_if (fun h9 => ?_) (fun h9 => ?_)
          · have nh9 := (eq_nat (a := i) (b := r) (rfl : (nI i : Int32) = nI i) (rfl : (nI r : Int32) = nI r) (by omega) (by omega)).mp h9
            exact k7 nh1 nh4 h7 nh8 nh9
          · have nh9 := mt (eq_nat (a := i) (b := r) (rfl : (nI i : Int32) = nI i) (rfl : (nI r : Int32) = nI r) (by omega) (by omega)).mpr h9
            have tk8 : (1 + nI i) = nI (1 + i) := (nI_addE (rfl : (1 : Int32) = nI 1) rfl)
            show am_WP (am_psh g (some (.inl (((1 + nI i))))) :: gs) (d + 5) (mk I X) Q
            try rw [tk8]
            exact k8 nh1 nh4 h7 nh8 nh9
        · have nh8 := mt (eq_nat (a := i) (b := gv) (rfl : (nI i : Int32) = nI i) (rfl : (nI gv : Int32) = nI gv) (by omega) (by omega)).mpr h8
          have tk9 : (1 + nI i) = nI (1 + i) := (nI_addE (rfl : (1 : Int32) = nI 1) rfl)
          show am_WP (am_psh g (some (.inl (((1 + nI i))))) :: gs) (d + 5) (mk I X) Q
          try rw [tk9]
          exact k9 nh1 nh4 h7 nh8
set_option maxRecDepth 100000 in
set_option maxHeartbeats 4000000 in
theorem w_chkM_e {I : Nat → Nat → Nat → Int32} {X : am_Z} {g : am_F} {gs : List am_F} {d : Nat} {Q : Option am_V → am_M → Prop} {gv : Nat} {x : Int32} (hw : I 8 0 33 = nI gv) (k0 : am_WP ((mX8_check, 10, [some (.inr (.inr (some (8, 0)))), some (.inl (x)), some (.inl ((nI gv))), none, none], []) :: g :: gs) (d + 4) (mk (up3 I 8 0 (33) (0)) X) Q) : am_WP (am_entry mX8_check [.inr (.inr (some (8, 0))), .inl (x)] :: g :: gs) (d + 4) (mk I X) Q := by
  refine am_go 6 ?_
  have tk0 : I 8 0 33 = nI gv := hw
  show am_WP ((mX8_check, 10, [some (.inr (.inr (some (8, 0)))), some (.inl (x)), some (.inl ((I 8 0 33))), none, none], []) :: g :: gs) (d + 4) (mk (up3 I 8 0 (33) (0)) X) Q
  try rw [tk0]
  exact k0
set_option maxRecDepth 100000 in
set_option maxHeartbeats 4000000 in
theorem w_chkM_b0 {I : Nat → Nat → Nat → Int32} {X : am_Z} {g : am_F} {gs : List am_F} {d : Nat} {Q : Option am_V → am_M → Prop} {gv : Nat} {x : Int32} (h7 : I 8 0 3 = 0)  (k0 : (¬ ((1 : Int32) ≤ x ∧ x ≤ 30)) → am_WP (am_psh g (some (.inl ((-1000000001)))) :: gs) (d + 5) (mk I X) Q) (k1 : ((1 : Int32) ≤ x ∧ x ≤ 30) → am_WP (am_psh g (some (.inl ((-1000000002)))) :: gs) (d + 5) (mk I X) Q) : am_WP ((mX8_check, 10, [some (.inr (.inr (some (8, 0)))), some (.inl (x)), some (.inl (nI gv)), none, none], []) :: g :: gs) (d + 4) (mk I X) Q := by
  refine am_go 400 ?_
  refine (m_isIn (x) (1) (30) _ _) _ _ _ ?_
  refine am_go 400 ?_
  refine am_if (fun h1 => ?_) (fun h1 => ?_)
  · have h1 := bI_0.mp h1
    exact k0 h1
  · have h1 := bI_1.mp h1
    have tk0 : I 8 0 3 = 0 := h7
    refine am_t (by show (I 8 0 3) = 0; (try rw [tk0]); first | done | exact rfl) ?_
    exact k1 h1
set_option maxRecDepth 100000 in
set_option maxHeartbeats 4000000 in
theorem w_chkM_b1 {I : Nat → Nat → Nat → Int32} {X : am_Z} {g : am_F} {gs : List am_F} {d : Nat} {Q : Option am_V → am_M → Prop} {gv : Nat} {x : Int32} (h7 : I 8 0 3 = 1)  (k0 : (¬ ((1 : Int32) ≤ x ∧ x ≤ 30)) → am_WP (am_psh g (some (.inl ((-1000000001)))) :: gs) (d + 5) (mk I X) Q) (k1 : ((1 : Int32) ≤ x ∧ x ≤ 30) → am_WP ((mX8_check, 64, [some (.inr (.inr (some (8, 0)))), some (.inl (x)), some (.inl (nI gv)), some (.inl (0)), some (.inl (0))], []) :: g :: gs) (d + 4) (mk (fl (fl I 32 0 0 2950 (I 30 0)) 30 0 0 2950 ((fl I 32 0 0 2950 (I 30 0)) 31 0)) X) Q) : am_WP ((mX8_check, 10, [some (.inr (.inr (some (8, 0)))), some (.inl (x)), some (.inl (nI gv)), none, none], []) :: g :: gs) (d + 4) (mk I X) Q := by
  refine am_go 400 ?_
  refine (m_isIn (x) (1) (30) _ _) _ _ _ ?_
  refine am_go 400 ?_
  refine am_if (fun h1 => ?_) (fun h1 => ?_)
  · have h1 := bI_0.mp h1
    exact k0 h1
  · have h1 := bI_1.mp h1
    have tk0 : I 8 0 3 = 1 := h7
    refine am_f (by show ¬ (I 8 0 3) = 0; (try rw [tk0]); first | done | exact (by decide)) ?_
    refine (c_aside_30_32) _ _ _ ?_
    refine am_go 400 ?_
    refine (c_aside_31_30) _ _ _ ?_
    refine am_go 4 ?_
    exact k1 h1
def lsF (D : Nat → Int32) : Nat → Nat → List Int32
  | 0, _ => []
  | m + 1, i => D i :: lsF D m (i + 1)
theorem lsF_s {D : Nat → Int32} : ∀ (m i : Nat), lsF D (m + 1) i = lsF D m i ++ [D (i + m)]
  | 0, i => rfl
  | m + 1, i => by
    rw [lsF, lsF_s m (i + 1), lsF, show i + 1 + m = i + (m + 1) by omega]
    rfl
theorem lsF_c {D E : Nat → Int32} : ∀ (m i : Nat), (∀ j, j < i + m → D j = E j) → lsF D m i = lsF E m i
  | 0, i, _ => rfl
  | m + 1, i, h => by rw [lsF, lsF, h i (by omega), lsF_c m (i + 1) (fun j hj => h j (by omega))]
theorem l_chkM2 {I : Im} {X g gs d Q} {gv r : Nat} {x : Int32} (hg : gv ≤ 60) (hr : r ≤ 60) {W D : Nat → Int32} (hW : ∀ j, j < gv → I 48 0 j = W j) (hD : ∀ j, j < r → I 49 0 j = D j) : ∀ (m i : Nat), i + m = r →
    am_WP (am_psh g (some (.inl (nI (cmpW W gv (lsF D m i) i)))) :: gs) (d + 5) (mk I X) Q →
    am_WP ((mX8_check, 141, [some (.inr (.inr (some (8, 0)))), some (.inl x), some (.inl (nI gv)), some (.inl (nI r)), some (.inl (nI i))], []) :: g :: gs) (d + 4) (mk I X) Q
  | 0, i, hi, K => by
    have e1 : i = gv → nI (cmpW W gv (lsF D 0 i) i) = 0 := fun e => by rw [lsF, cmpW, if_pos e]; rfl
    have e2 : ¬ i = gv → nI (cmpW W gv (lsF D 0 i) i) = nI (1 + i) := fun e => by rw [lsF, cmpW, if_neg e]
    exact w_chkM_141 hg hr (by omega) hW hD (fun _ e _ => K_v (e1 e) K) (fun _ _ z => absurd (by omega) z) (fun _ e => K_v (e2 e) K) (fun _ _ e _ => K_v (e1 e) K) (fun _ _ _ z => absurd (by omega) z) (fun _ _ e => K_v (e2 e) K) (fun _ z => absurd (by omega) z) (fun _ z => absurd (by omega) z) (fun _ z => absurd (by omega) z) (fun _ z => absurd (by omega) z)
  | m + 1, i, hi, K => by
    have e2 : ¬ (i < gv ∧ W i = D i) → nI (cmpW W gv (lsF D (m + 1) i) i) = nI (1 + i) := fun e => by rw [lsF, cmpW, if_neg e]
    refine w_chkM_141 hg hr (by omega) hW hD (fun _ _ z => absurd z (by omega)) (fun z _ _ => K_v (e2 (by omega)) K) (fun z _ => K_v (e2 (by omega)) K) (fun _ z => absurd z (by omega)) (fun _ z => absurd z (by omega)) (fun _ z => absurd z (by omega)) (fun q1 q2 q3 => ?_) (fun _ _ _ _ z => absurd z (by omega)) (fun _ _ z _ _ => K_v (e2 (fun y => z y.2)) K) (fun _ _ z _ => K_v (e2 (fun y => z y.2)) K)
    rw [lsF, cmpW, if_pos ⟨by omega, q3⟩] at K
    exact l_chkM2 hg hr hW hD m (i + 1) (by omega) K
theorem l_chkM {I0 : Im} {X g gs d Q} {s : St} (h0 : RM I0 s) (G : GS s) {n gv : Nat} {x : Int32} (hx : x = nI n) (hn : n ≤ 30) (hg : gv ≤ 60) {W : Nat → Int32} (hW : ∀ j, j < gv → I0 48 0 j = W j) : ∀ (m i r : Nat) (σ : Cn) (D : Nat → Int32) (I : Im), i + m = n → r = 2 * i → Lc I0 I → RepM (I 30 0) σ → GD σ → σ.2.1 0 ≤ 9999 → (∀ j, j < r → I 49 0 j = D j) →
    (∀ I', RM I' s ∧ FrM I0 I' → am_WP (am_psh g (some (.inl (nI (cmpW W gv (lsF D r 0 ++ dueL m σ) 0)))) :: gs) (d + 5) (mk I' X) Q) →
    am_WP ((mX8_check, 64, [some (.inr (.inr (some (8, 0)))), some (.inl x), some (.inl (nI gv)), some (.inl (nI r)), some (.inl (nI i))], []) :: g :: gs) (d + 4) (mk I X) Q := by
  intro m
  induction m with
  | zero =>
    intro i r σ D I hi hr L hR hD hy hd K
    refine w_chkM_64 hx hn (by omega) hg hr hR hD hy (fun _ => ?_) (fun z => absurd (by omega) z) (fun z => absurd (by omega) z)
    refine w_chkM_126 ?_
    refine l_chkM2 hg (by omega) (W := W) (D := D) (fun j hj => by rw [fl_g (by decide), L.2 48 (by decide)]; exact hW j hj) (fun j hj => by rw [fl_g (by decide)]; exact hd j hj) r 0 (Nat.zero_add _) ?_
    have K0 := K _ ⟨RM_lc h0 G L, FrM_lc L⟩
    rw [dueL, List.append_nil] at K0
    exact K0
  | succ m ih =>
    intro i r σ D I hi hr L hR hD hy hd K
    by_cases hh : 9999 ≤ σ.2.1 0
    · refine w_chkM_64 hx hn (by omega) hg hr hR hD hy (fun z => absurd z (by omega)) (fun _ _ => ?_) (fun _ z => absurd hh z)
      refine w_chkM_126 ?_
      refine l_chkM2 hg (by omega) (W := W) (D := D) (fun j hj => by rw [fl_g (by decide), L.2 48 (by decide)]; exact hW j hj) (fun j hj => by rw [fl_g (by decide)]; exact hd j hj) r 0 (Nat.zero_add _) ?_
      have K0 := K _ ⟨RM_lc h0 G L, FrM_lc L⟩
      rw [dueL, if_pos hh, List.append_nil] at K0
      exact K0
    · refine w_chkM_64 hx hn (by omega) hg hr hR hD hy (fun z => absurd z (by omega)) (fun _ z => absurd z hh) (fun _ _ I1 p1 => ?_)
      have eD : ∀ j, j < r + 2 → up3 (up3 I1 49 0 r (nI (stA (yrs 1 σ)))) 49 0 (r + 1) (nI (hdA (yrs 1 σ))) 49 0 j = fu (fu D r (nI (stA (yearN σ)))) (r + 1) (nI (hdA (yearN σ))) j := fun j hj => by
        rw [up3_at, up3_at]
        show _ = if j = r + 1 then _ else if j = r then _ else D j
        by_cases e1 : j = r + 1
        · rw [if_pos e1, if_pos e1]; rfl
        · rw [if_neg e1, if_neg e1]
          by_cases e2 : j = r
          · rw [if_pos e2, if_pos e2]; rfl
          · rw [if_neg e2, if_neg e2, p1.2.1 49 (by decide)]
            exact hd j (by omega)
      refine ih (i + 1) (r + 2) (yearN σ) (fu (fu D r (nI (stA (yearN σ)))) (r + 1) (nI (hdA (yearN σ)))) _ (by omega) (by omega) (Lc_3 (Lc_3 (Lc_Y L p1.2))) p1.1 (GD_year hD) (y9 hy hh) eD ?_
      rw [dueL, if_neg hh] at K
      have e3 : lsF (fu (fu D r (nI (stA (yearN σ)))) (r + 1) (nI (hdA (yearN σ)))) (r + 2) 0 = lsF D r 0 ++ [nI (stA (yearN σ)), nI (hdA (yearN σ))] := by
        rw [lsF_s, lsF_s, Nat.zero_add, Nat.zero_add, fu_s, fu_n (by omega), fu_s, lsF_c (E := D) r 0 (fun j hj => by rw [fu_n (by omega), fu_n (by omega)]), List.append_assoc]
        rfl
      rw [e3, List.append_assoc]
      exact K
theorem p_X8_check {I X d s} (h : RM I s) (G : GS s) (x : Int32) : Sp mX8_check [.inr (.inr (some (8, 0))), .inl x] (d + 4) I X (OM I X (f_check s x)) := fun g gs Q K => by
  refine w_chkM_e h.2.2.2.2.1.1 ?_
  have h2 : RM (up3 I 8 0 33 0) (wt0 s) := RM_wt0 h
  have F2 : FrM I (up3 I 8 0 33 0) := FrM_3 rfl FrM_r
  have G2 : GS (wt0 s) := GS_wt0 G
  have hi := h2.2.1
  rcases he : s.2.1 with _ | ei
  · rw [show (wt0 s).2.1 = none from he] at hi
    refine w_chkM_b0 hi (fun h0 => ?_) (fun h0 => ?_)
    · apply K_s K; unfold f_check; rw [if_neg h0]; exact ⟨rfl, h2, F2, rfl⟩
    · apply K_s K; unfold f_check; rw [if_pos h0, he]; exact ⟨rfl, h2, F2, rfl⟩
  · rw [show (wt0 s).2.1 = some ei from he] at hi
    have ge := G.2.1 ei he
    refine w_chkM_b1 hi.1 (fun h0 => ?_) (fun h0 => ?_)
    · apply K_s K; unfold f_check; rw [if_neg h0]; exact ⟨rfl, h2, F2, rfl⟩
    · obtain ⟨e_x, _, l_x⟩ := okr (lo := 1) (m := 30) (by decide) (by decide) h0
      refine l_chkM h2 G2 e_x l_x G.2.2.2.2.1 (W := s.2.2.2.2.1.2) (fun j hj => h.2.2.2.2.1.2 j hj) (kx x) 0 0 ei.1 (fun _ => 0) _ (Nat.zero_add _) rfl Lc_0 ?_ (GC_D ge.1) ge.2.1 (fun j hj => absurd hj (Nat.not_lt_zero _)) (fun I' p' => ?_)
      · exact (CeM_cp hi.2 ge (fun j hj => (fl_lt hj).trans rfl)).1
      · apply K_s K; unfold f_check; rw [if_pos h0, he]; exact ⟨rfl, p'.1, fun g' hg' => (p'.2 g' hg').trans (F2 g' hg'), rfl⟩
