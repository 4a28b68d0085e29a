/-! nextToken, the model -/
set_option maxRecDepth 100000 in
set_option maxHeartbeats 4000000 in
theorem w_X8_isLetter {I : Nat → Nat → Nat → Int32} {X : am_Z} {g : am_F} {gs : List am_F} {d : Nat} {Q : Option am_V → am_M → Prop} {t : Nat → Nat} {n : Nat} (hn : n ≤ 96) (h18 : I 8 0 18 = nI n) (hb : ∀ j, j < n → I 44 0 j = nI (t j)) (ht : ∀ j, j < n → t j < 256) {x : Int32} {i : Nat} (hx : x = nI i) (hi : i ≤ n) (k0 : (n ≤ i) → am_WP (am_psh g (some (.inl (0))) :: gs) (d + 2) (mk I X) Q) (k1 : (¬ (n ≤ i)) → (¬ ((97 : Int32) ≤ (nI (t (i))) ∧ (nI (t (i))) ≤ 122)) → am_WP (am_psh g (some (.inl (0))) :: gs) (d + 2) (mk I X) Q) (k2 : (¬ (n ≤ i)) → ((97 : Int32) ≤ (nI (t (i))) ∧ (nI (t (i))) ≤ 122) → am_WP (am_psh g (some (.inl (1))) :: gs) (d + 2) (mk I X) Q) : am_WP (am_entry mX8_isLetter [.inr (.inr (some (8, 0))), .inl (x)] :: g :: gs) (d + 1) (mk I X) Q := by
  refine am_go 400 ?_
  have tk0 : I 8 0 18 = nI n := h18
  refine am_if (fun h1 => ?_) (fun h1 => ?_)
  · have nh1 := (le_nat (a := n) (b := i) tk0 hx (by omega) (by omega)).mp h1
    exact k0 nh1
  · have nh1 := mt (le_nat (a := n) (b := i) tk0 hx (by omega) (by omega)).mpr h1
    refine am_f (ix_in (n := i) (N := 96) hx (by omega) (by decide)) ?_
    have tk1 : (x).toNatClampNeg = i := ix_cl (n := i) hx (by omega)
    have bd : (t (i)) ≤ 255 := (by have := ht (i) (by omega); omega)
    have tk2 : I 44 0 (((x).toNatClampNeg)) = nI (t (i)) := by first | exact hb _ (by omega) | (((try rw [tk1])); first | done | exact hb _ (by omega))
    refine (m_isIn ((I 44 0 (((x).toNatClampNeg)))) (97) (122) _ _) _ _ _ ?_
    refine am_go 400 ?_
    refine am_if (fun h2 => ?_) (fun h2 => ?_)
    · have h2 := bI_0.mp h2
      have h2 : ¬ ((97 : Int32) ≤ (I 44 0 (((x).toNatClampNeg))) ∧ (I 44 0 (((x).toNatClampNeg))) ≤ 122) := h2
      try rw [tk2] at h2
      try rw [tk1] at h2
      exact k1 nh1 h2
    · have h2 := bI_1.mp h2
      have h2 : (97 : Int32) ≤ (I 44 0 (((x).toNatClampNeg))) ∧ (I 44 0 (((x).toNatClampNeg))) ≤ 122 := h2
      try rw [tk2] at h2
      try rw [tk1] at h2
      exact k2 nh1 h2
theorem c_X8_isLetter {I : Im} {X d} {t : Nat → Nat} {n : Nat} (hn : n ≤ 96) (h18 : I 8 0 18 = nI n) (hb : ∀ j, j < n → I 44 0 j = nI (t j)) (ht : ∀ j, j < n → t j < 256) {x : Int32} {i : Nat} (hx : x = nI i) (hi : i ≤ n) : Rt mX8_isLetter [.inr (.inr (some (8, 0))), .inl x] (d + 1) (mk I X) (some (.inl (bI (i < n ∧ fm (t i) = 1)))) (mk I X) := fun g gs Q K => by
  have e : ∀ b : Nat, b < 256 → (((97 : Int32) ≤ nI b ∧ nI b ≤ 122) ↔ fm b = 1) := by decide +kernel
  exact w_X8_isLetter hn h18 hb ht hx hi (fun z => K_v (bI_f (fun y => by omega)) K) (fun z y => K_v (bI_f (fun q => y ((e _ (ht i (by omega))).mpr q.2))) K) (fun z y => K_v (bI_t ⟨by omega, (e _ (ht i (by omega))).mp y⟩) K)
set_option maxRecDepth 100000 in
set_option maxHeartbeats 4000000 in
theorem w_X8_isDigit {I : Nat → Nat → Nat → Int32} {X : am_Z} {g : am_F} {gs : List am_F} {d : Nat} {Q : Option am_V → am_M → Prop} {t : Nat → Nat} {n : Nat} (hn : n ≤ 96) (h18 : I 8 0 18 = nI n) (hb : ∀ j, j < n → I 44 0 j = nI (t j)) (ht : ∀ j, j < n → t j < 256) {x : Int32} {i : Nat} (hx : x = nI i) (hi : i ≤ n) (k0 : (n ≤ i) → am_WP (am_psh g (some (.inl (0))) :: gs) (d + 2) (mk I X) Q) (k1 : (¬ (n ≤ i)) → (¬ ((48 : Int32) ≤ (nI (t (i))) ∧ (nI (t (i))) ≤ 57)) → am_WP (am_psh g (some (.inl (0))) :: gs) (d + 2) (mk I X) Q) (k2 : (¬ (n ≤ i)) → ((48 : Int32) ≤ (nI (t (i))) ∧ (nI (t (i))) ≤ 57) → am_WP (am_psh g (some (.inl (1))) :: gs) (d + 2) (mk I X) Q) : am_WP (am_entry mX8_isDigit [.inr (.inr (some (8, 0))), .inl (x)] :: g :: gs) (d + 1) (mk I X) Q := by
  refine am_go 400 ?_
  have tk0 : I 8 0 18 = nI n := h18
  refine am_if (fun h1 => ?_) (fun h1 => ?_)
  · have nh1 := (le_nat (a := n) (b := i) tk0 hx (by omega) (by omega)).mp h1
    exact k0 nh1
  · have nh1 := mt (le_nat (a := n) (b := i) tk0 hx (by omega) (by omega)).mpr h1
    refine am_f (ix_in (n := i) (N := 96) hx (by omega) (by decide)) ?_
    have tk1 : (x).toNatClampNeg = i := ix_cl (n := i) hx (by omega)
    have bd : (t (i)) ≤ 255 := (by have := ht (i) (by omega); omega)
    have tk2 : I 44 0 (((x).toNatClampNeg)) = nI (t (i)) := by first | exact hb _ (by omega) | (((try rw [tk1])); first | done | exact hb _ (by omega))
    refine (m_isIn ((I 44 0 (((x).toNatClampNeg)))) (48) (57) _ _) _ _ _ ?_
    refine am_go 400 ?_
    refine am_if (fun h2 => ?_) (fun h2 => ?_)
    · have h2 := bI_0.mp h2
      have h2 : ¬ ((48 : Int32) ≤ (I 44 0 (((x).toNatClampNeg))) ∧ (I 44 0 (((x).toNatClampNeg))) ≤ 57) := h2
      try rw [tk2] at h2
      try rw [tk1] at h2
      exact k1 nh1 h2
    · have h2 := bI_1.mp h2
      have h2 : (48 : Int32) ≤ (I 44 0 (((x).toNatClampNeg))) ∧ (I 44 0 (((x).toNatClampNeg))) ≤ 57 := h2
      try rw [tk2] at h2
      try rw [tk1] at h2
      exact k2 nh1 h2
theorem c_X8_isDigit {I : Im} {X d} {t : Nat → Nat} {n : Nat} (hn : n ≤ 96) (h18 : I 8 0 18 = nI n) (hb : ∀ j, j < n → I 44 0 j = nI (t j)) (ht : ∀ j, j < n → t j < 256) {x : Int32} {i : Nat} (hx : x = nI i) (hi : i ≤ n) : Rt mX8_isDigit [.inr (.inr (some (8, 0))), .inl x] (d + 1) (mk I X) (some (.inl (bI (i < n ∧ fm (t i) = 2)))) (mk I X) := fun g gs Q K => by
  have e : ∀ b : Nat, b < 256 → (((48 : Int32) ≤ nI b ∧ nI b ≤ 57) ↔ fm b = 2) := by decide +kernel
  exact w_X8_isDigit hn h18 hb ht hx hi (fun z => K_v (bI_f (fun y => by omega)) K) (fun z y => K_v (bI_f (fun q => y ((e _ (ht i (by omega))).mpr q.2))) K) (fun z y => K_v (bI_t ⟨by omega, (e _ (ht i (by omega))).mp y⟩) K)
set_option maxRecDepth 100000 in
set_option maxHeartbeats 4000000 in
theorem w_X8_nextToken {I : Nat → Nat → Nat → Int32} {X : am_Z} {g : am_F} {gs : List am_F} {d : Nat} {Q : Option am_V → am_M → Prop} {k e : Nat} (hk : k ≤ 4) (he : e ≤ 96) (hke : k = 1 ∨ k = 2 → 0 < e) (h20 : I 8 0 20 = nI e) (h21 : I 8 0 21 = nI k) (k0 : (e ≤ 0) → am_WP ((mX8_nextToken, 34, [some (.inr (.inr (some (8, 0)))), some (.inl (0)), some (.inl ((nI e)))], []) :: g :: gs) (d + 2) (mk I X) Q) (k1 : (¬ (e ≤ 0)) → (k = 1) → am_WP ((mX8_nextToken, 34, [some (.inr (.inr (some (8, 0)))), some (.inl (1)), some (.inl ((nI e)))], []) :: g :: gs) (d + 2) (mk I X) Q) (k2 : (¬ (e ≤ 0)) → (¬ (k = 1)) → (k = 2) → am_WP ((mX8_nextToken, 34, [some (.inr (.inr (some (8, 0)))), some (.inl (1)), some (.inl ((nI e)))], []) :: g :: gs) (d + 2) (mk I X) Q) (k3 : (¬ (e ≤ 0)) → (¬ (k = 1)) → (¬ (k = 2)) → am_WP ((mX8_nextToken, 34, [some (.inr (.inr (some (8, 0)))), some (.inl (0)), some (.inl ((nI e)))], []) :: g :: gs) (d + 2) (mk I X) Q) : am_WP (am_entry mX8_nextToken [.inr (.inr (some (8, 0)))] :: g :: gs) (d + 2) (mk I X) Q := by
  refine am_go 400 ?_
  have tk0 : I 8 0 20 = nI e := h20
  refine am_if (fun h1 => ?_) (fun h1 => ?_)
  · have nh1 := (le_nat (a := e) (b := 0) tk0 (rfl : (0 : Int32) = nI 0) (by omega) (by omega)).mp h1
    refine am_cf rfl ?_
    refine am_cut ?_
    refine am_go 5 ?_
    show am_WP ((mX8_nextToken, 34, [some (.inr (.inr (some (8, 0)))), some (.inl (0)), some (.inl ((I 8 0 20)))], []) :: g :: gs) (d + 2) (mk I X) Q
    try rw [tk0]
    exact k0 nh1
  · have nh1 := mt (le_nat (a := e) (b := 0) tk0 (rfl : (0 : Int32) = nI 0) (by omega) (by omega)).mpr h1
    have tk1 : I 8 0 21 = nI k := h21
    refine am_if (fun h2 => ?_) (fun h2 => ?_)
    · have nh2 := (eq_nat (a := k) (b := 1) tk1 (rfl : (1 : Int32) = nI 1) (by omega) (by omega)).mp h2
      refine am_cf rfl ?_
      refine am_cut ?_
      refine am_go 6 ?_
      show am_WP ((mX8_nextToken, 34, [some (.inr (.inr (some (8, 0)))), some (.inl (1)), some (.inl ((I 8 0 20)))], []) :: g :: gs) (d + 2) (mk I X) Q
      try rw [tk0]
      exact k1 nh1 nh2
    · have nh2 := mt (eq_nat (a := k) (b := 1) tk1 (rfl : (1 : Int32) = nI 1) (by omega) (by omega)).mpr h2
      refine am_if (fun h3 => ?_) (fun h3 => ?_)
      · have nh3 := (eq_nat (a := k) (b := 2) tk1 (rfl : (2 : Int32) = nI 2) (by omega) (by omega)).mp h3
        refine am_cut ?_
        refine am_go 6 ?_
        show am_WP ((mX8_nextToken, 34, [some (.inr (.inr (some (8, 0)))), some (.inl (1)), some (.inl ((I 8 0 20)))], []) :: g :: gs) (d + 2) (mk I X) Q
        try rw [tk0]
        exact k2 nh1 nh2 nh3
      · have nh3 := mt (eq_nat (a := k) (b := 2) tk1 (rfl : (2 : Int32) = nI 2) (by omega) (by omega)).mpr h3
        refine am_cf rfl ?_
        refine am_cut ?_
        refine am_go 5 ?_
        show am_WP ((mX8_nextToken, 34, [some (.inr (.inr (some (8, 0)))), some (.inl (0)), some (.inl ((I 8 0 20)))], []) :: g :: gs) (d + 2) (mk I X) Q
        try rw [tk0]
        exact k3 nh1 nh2 nh3
set_option maxRecDepth 100000 in
set_option maxHeartbeats 4000000 in
theorem w_X8_nextToken_34 {I : Nat → Nat → Nat → Int32} {X : am_Z} {g : am_F} {gs : List am_F} {d : Nat} {Q : Option am_V → am_M → Prop} {t : Nat → Nat} {n : Nat} (hn : n ≤ 96) (h18 : I 8 0 18 = nI n) (hb : ∀ j, j < n → I 44 0 j = nI (t j)) (ht : ∀ j, j < n → t j < 256) {tg : Int32} {e i : Nat} (h20 : I 8 0 20 = nI i) (hi : i ≤ n) (k0 : (n ≤ i) → am_WP ((mX8_nextToken, 72, [some (.inr (.inr (some (8, 0)))), some (.inl (tg)), some (.inl (nI e))], []) :: g :: gs) (d + 2) (mk I X) Q) (k1 : (¬ (n ≤ i)) → ((t (i)) = 32) → am_WP ((mX8_nextToken, 34, [some (.inr (.inr (some (8, 0)))), some (.inl (tg)), some (.inl (nI e))], []) :: g :: gs) (d + 2) (mk (up3 I 8 0 (20) ((nI (i + 1)))) X) Q) (k2 : (¬ (n ≤ i)) → (¬ ((t (i)) = 32)) → am_WP ((mX8_nextToken, 72, [some (.inr (.inr (some (8, 0)))), some (.inl (tg)), some (.inl (nI e))], []) :: g :: gs) (d + 2) (mk I X) Q) : am_WP ((mX8_nextToken, 34, [some (.inr (.inr (some (8, 0)))), some (.inl (tg)), some (.inl (nI e))], []) :: g :: gs) (d + 2) (mk I X) Q := by
  refine am_go 400 ?_
  have tk0 : I 8 0 20 = nI i := h20
  have tk1 : I 8 0 18 = nI n := h18
  refine am_if (fun h1 => ?_) (fun h1 => ?_)
  · have nh1 := (le_nat (a := n) (b := i) tk1 tk0 (by omega) (by omega)).mp h1
    refine am_cf rfl ?_
    exact am_cut (k0 nh1)
  · have nh1 := mt (le_nat (a := n) (b := i) tk1 tk0 (by omega) (by omega)).mpr h1
    refine am_f (ix_in (n := i) (N := 96) tk0 (by omega) (by decide)) ?_
    have tk2 : ((I 8 0 20)).toNatClampNeg = i := by first | exact ix_cl (n := i) tk0 (by omega) | (((try rw [tk0])); first | done | exact ix_cl (n := i) tk0 (by omega))
    have bd : (t (i)) ≤ 255 := (by have := ht (i) (by omega); omega)
    have tk3 : I 44 0 ((((I 8 0 20)).toNatClampNeg)) = nI (t (i)) := by first | exact hb _ (by omega) | (((try rw [tk2]); (try rw [tk0])); first | done | exact hb _ (by omega))
    refine am_if (fun h2 => ?_) (fun h2 => ?_)
    · have nh2 := (eq_nat (a := (t (i))) (b := 32) tk3 (rfl : (32 : Int32) = nI 32) (by omega) (by omega)).mp h2
      have tk4 : ((I 8 0 20) + 1) = nI (i + 1) := by first | exact (nI_addE tk0 (rfl : (1 : Int32) = nI 1)) | (((try rw [tk0])); first | done | exact (nI_addE tk0 (rfl : (1 : Int32) = nI 1)))
      show am_WP ((mX8_nextToken, 34, [some (.inr (.inr (some (8, 0)))), some (.inl (tg)), some (.inl (nI e))], []) :: g :: gs) (d + 2) (mk (up3 I 8 0 (20) ((((I 8 0 20) + 1)))) X) Q
      try rw [tk4]
      try rw [tk0]
      exact k1 nh1 nh2
    · have nh2 := mt (eq_nat (a := (t (i))) (b := 32) tk3 (rfl : (32 : Int32) = nI 32) (by omega) (by omega)).mpr h2
      refine am_cf rfl ?_
      exact am_cut (k2 nh1 nh2)
set_option maxRecDepth 100000 in
set_option maxHeartbeats 4000000 in
theorem w_nx72_0 {I : Nat → Nat → Nat → Int32} {X : am_Z} {g : am_F} {gs : List am_F} {d : Nat} {Q : Option am_V → am_M → Prop} {t : Nat → Nat} {n : Nat} (hn : n ≤ 96) (h18 : I 8 0 18 = nI n) (hb : ∀ j, j < n → I 44 0 j = nI (t j)) (ht : ∀ j, j < n → t j < 256) {e i : Nat} (h20 : I 8 0 20 = nI i) (hi : i ≤ n) (he : e ≤ 96) (k0 : (i = n) → am_WP (am_psh g none :: gs) (d + 3) (mk (up3 (up3 I 8 0 (19) ((nI i))) 8 0 (21) (0)) X) Q) (k1 : (¬ (i = n)) → (¬ (i < n ∧ fm (t i) = 1)) → (¬ (i < n ∧ fm (t i) = 2)) → am_WP (am_psh g none :: gs) (d + 3) (mk (up3 (up3 (up3 (up3 I 8 0 (19) ((nI i))) 8 0 (21) (3)) 8 0 (23) ((nI (t (i))))) 8 0 (20) ((nI (i + 1)))) X) Q) (k2 : (¬ (i = n)) → (¬ (i < n ∧ fm (t i) = 1)) → (i < n ∧ fm (t i) = 2) → am_WP ((mX8_nextToken, 214, [some (.inr (.inr (some (8, 0)))), some (.inl (0)), some (.inl (nI e))], []) :: g :: gs) (d + 2) (mk (up3 (up3 I 8 0 (19) ((nI i))) 8 0 (22) (0)) X) Q) (k3 : (¬ (i = n)) → (i < n ∧ fm (t i) = 1) → am_WP ((mX8_nextToken, 128, [some (.inr (.inr (some (8, 0)))), some (.inl (0)), some (.inl (nI e))], []) :: g :: gs) (d + 2) (mk (up3 I 8 0 (19) ((nI i))) X) Q) : am_WP ((mX8_nextToken, 72, [some (.inr (.inr (some (8, 0)))), some (.inl (0)), some (.inl (nI e))], []) :: g :: gs) (d + 2) (mk I X) Q := by
  refine am_go 400 ?_
  have tk0 : I 8 0 20 = nI i := h20
  have tk1 : (up3 I 8 0 (19) ((I 8 0 20))) 8 0 19 = (nI i) := by first | exact up3_s | (((try rw [tk0])); first | done | exact up3_s)
  have tk2 : (up3 I 8 0 (19) ((I 8 0 20))) 8 0 18 = nI n := by first | exact ((up3_j (by decide))).trans h18 | (((try rw [tk0])); first | done | exact ((up3_j (by decide))).trans h18)
  refine am_if (fun h1 => ?_) (fun h1 => ?_)
  · have nh1 := (eq_nat (a := i) (b := n) tk1 tk2 (by omega) (by omega)).mp h1
    show am_WP (am_psh g none :: gs) (d + 3) (mk (up3 (up3 I 8 0 (19) ((I 8 0 20))) 8 0 (21) (0)) X) Q
    try rw [tk0]
    exact k0 nh1
  · have nh1 := mt (eq_nat (a := i) (b := n) tk1 tk2 (by omega) (by omega)).mpr h1
    refine (c_X8_isLetter (n := n) (i := i) hn (show (up3 I 8 0 (19) (_)) 8 0 18 = nI n from by rw [up3_j (by decide)]; exact h18) hb ht tk1 (by omega)) _ _ _ ?_
    refine am_go 400 ?_
    refine am_if (fun h2 => ?_) (fun h2 => ?_)
    · have h2 := bI_0.mp h2
      refine (c_X8_isDigit (n := n) (i := i) hn (show (up3 I 8 0 (19) (_)) 8 0 18 = nI n from by rw [up3_j (by decide)]; exact h18) hb ht tk1 (by omega)) _ _ _ ?_
      refine am_go 400 ?_
      refine am_if (fun h3 => ?_) (fun h3 => ?_)
      · have h3 := bI_0.mp h3
        have tk3 : (up3 (up3 I 8 0 (19) ((I 8 0 20))) 8 0 (21) (3)) 8 0 19 = (nI i) := by first | exact ((up3_j (by decide))).trans up3_s | (((try rw [tk0])); first | done | exact ((up3_j (by decide))).trans up3_s)
        refine am_f (ix_in (n := i) (N := 96) tk3 (by omega) (by decide)) ?_
        have tk4 : (((up3 (up3 I 8 0 (19) ((I 8 0 20))) 8 0 (21) (3)) 8 0 19)).toNatClampNeg = i := by first | exact ix_cl (n := i) tk3 (by omega) | (((try rw [tk3]); (try rw [tk0])); first | done | exact ix_cl (n := i) tk3 (by omega))
        have bd : (t (i)) ≤ 255 := (by have := ht (i) (by omega); omega)
        have tk5 : (up3 (up3 I 8 0 (19) ((I 8 0 20))) 8 0 (21) (3)) 44 0 (((((up3 (up3 I 8 0 (19) ((I 8 0 20))) 8 0 (21) (3)) 8 0 19)).toNatClampNeg)) = nI (t (i)) := by first | exact hb _ (by omega) | (((try rw [tk4]); (try rw [tk3]); (try rw [tk0])); first | done | exact hb _ (by omega))
        have tk6 : (up3 (up3 (up3 I 8 0 (19) ((I 8 0 20))) 8 0 (21) (3)) 8 0 (23) (((up3 (up3 I 8 0 (19) ((I 8 0 20))) 8 0 (21) (3)) 44 0 (((((up3 (up3 I 8 0 (19) ((I 8 0 20))) 8 0 (21) (3)) 8 0 19)).toNatClampNeg))))) 8 0 20 = nI i := by first | exact ((up3_j (by decide))).trans (((up3_j (by decide))).trans (((up3_j (by decide))).trans h20)) | (((try rw [tk5]); (try rw [tk4]); (try rw [tk3]); (try rw [tk0])); first | done | exact ((up3_j (by decide))).trans (((up3_j (by decide))).trans (((up3_j (by decide))).trans h20)))
        have tk7 : (((up3 (up3 (up3 I 8 0 (19) ((I 8 0 20))) 8 0 (21) (3)) 8 0 (23) (((up3 (up3 I 8 0 (19) ((I 8 0 20))) 8 0 (21) (3)) 44 0 (((((up3 (up3 I 8 0 (19) ((I 8 0 20))) 8 0 (21) (3)) 8 0 19)).toNatClampNeg))))) 8 0 20) + 1) = nI (i + 1) := by first | exact (nI_addE tk6 (rfl : (1 : Int32) = nI 1)) | (((try rw [tk6]); (try rw [tk5]); (try rw [tk4]); (try rw [tk3]); (try rw [tk0])); first | done | exact (nI_addE tk6 (rfl : (1 : Int32) = nI 1)))
        show am_WP (am_psh g none :: gs) (d + 3) (mk (up3 (up3 (up3 (up3 I 8 0 (19) ((I 8 0 20))) 8 0 (21) (3)) 8 0 (23) (((up3 (up3 I 8 0 (19) ((I 8 0 20))) 8 0 (21) (3)) 44 0 (((((up3 (up3 I 8 0 (19) ((I 8 0 20))) 8 0 (21) (3)) 8 0 19)).toNatClampNeg))))) 8 0 (20) (((((up3 (up3 (up3 I 8 0 (19) ((I 8 0 20))) 8 0 (21) (3)) 8 0 (23) (((up3 (up3 I 8 0 (19) ((I 8 0 20))) 8 0 (21) (3)) 44 0 (((((up3 (up3 I 8 0 (19) ((I 8 0 20))) 8 0 (21) (3)) 8 0 19)).toNatClampNeg))))) 8 0 20) + 1)))) X) Q
        try rw [tk7]
        try rw [tk6]
        try rw [tk5]
        try rw [tk4]
        try rw [tk3]
        try rw [tk0]
        exact k1 nh1 h2 h3
      · have h3 := bI_1.mp h3
        refine am_cut ?_
        refine am_go 3 ?_
        show am_WP ((mX8_nextToken, 214, [some (.inr (.inr (some (8, 0)))), some (.inl (0)), some (.inl (nI e))], []) :: g :: gs) (d + 2) (mk (up3 (up3 I 8 0 (19) ((I 8 0 20))) 8 0 (22) (0)) X) Q
        try rw [tk0]
        exact k2 nh1 h2 h3
    · have h2 := bI_1.mp h2
      refine am_cut ?_
      show am_WP ((mX8_nextToken, 128, [some (.inr (.inr (some (8, 0)))), some (.inl (0)), some (.inl (nI e))], []) :: g :: gs) (d + 2) (mk (up3 I 8 0 (19) ((I 8 0 20))) X) Q
      try rw [tk0]
      exact k3 nh1 h2
set_option maxRecDepth 100000 in
set_option maxHeartbeats 4000000 in
theorem w_nx72_1 {I : Nat → Nat → Nat → Int32} {X : am_Z} {g : am_F} {gs : List am_F} {d : Nat} {Q : Option am_V → am_M → Prop} {t : Nat → Nat} {n : Nat} (hn : n ≤ 96) (h18 : I 8 0 18 = nI n) (hb : ∀ j, j < n → I 44 0 j = nI (t j)) (ht : ∀ j, j < n → t j < 256) {e i : Nat} (h20 : I 8 0 20 = nI i) (hi : i ≤ n) (he : e ≤ 96) (k0 : (e = i) → (i = n) → am_WP (am_psh g none :: gs) (d + 3) (mk (up3 (up3 I 8 0 (19) ((nI i))) 8 0 (21) (0)) X) Q) (k1 : (e = i) → (¬ (i = n)) → (¬ (i < n ∧ fm (t i) = 1)) → (¬ (i < n ∧ fm (t i) = 2)) → am_WP (am_psh g none :: gs) (d + 3) (mk (up3 (up3 (up3 (up3 I 8 0 (19) ((nI i))) 8 0 (21) (3)) 8 0 (23) ((nI (t (i))))) 8 0 (20) ((nI (i + 1)))) X) Q) (k2 : (e = i) → (¬ (i = n)) → (¬ (i < n ∧ fm (t i) = 1)) → (i < n ∧ fm (t i) = 2) → am_WP ((mX8_nextToken, 214, [some (.inr (.inr (some (8, 0)))), some (.inl (1)), some (.inl (nI e))], []) :: g :: gs) (d + 2) (mk (up3 (up3 I 8 0 (19) ((nI i))) 8 0 (22) (0)) X) Q) (k3 : (e = i) → (¬ (i = n)) → (i < n ∧ fm (t i) = 1) → am_WP ((mX8_nextToken, 128, [some (.inr (.inr (some (8, 0)))), some (.inl (1)), some (.inl (nI e))], []) :: g :: gs) (d + 2) (mk (up3 I 8 0 (19) ((nI i))) X) Q) (k4 : (¬ (e = i)) → (i = n) → am_WP (am_psh g none :: gs) (d + 3) (mk (up3 (up3 I 8 0 (19) ((nI i))) 8 0 (21) (0)) X) Q) (k5 : (¬ (e = i)) → (¬ (i = n)) → (¬ (i < n ∧ fm (t i) = 1)) → (¬ (i < n ∧ fm (t i) = 2)) → am_WP (am_psh g none :: gs) (d + 3) (mk (up3 (up3 (up3 (up3 I 8 0 (19) ((nI i))) 8 0 (21) (3)) 8 0 (23) ((nI (t (i))))) 8 0 (20) ((nI (i + 1)))) X) Q) (k6 : (¬ (e = i)) → (¬ (i = n)) → (¬ (i < n ∧ fm (t i) = 1)) → (i < n ∧ fm (t i) = 2) → am_WP ((mX8_nextToken, 214, [some (.inr (.inr (some (8, 0)))), some (.inl (0)), some (.inl (nI e))], []) :: g :: gs) (d + 2) (mk (up3 (up3 I 8 0 (19) ((nI i))) 8 0 (22) (0)) X) Q) (k7 : (¬ (e = i)) → (¬ (i = n)) → (i < n ∧ fm (t i) = 1) → am_WP ((mX8_nextToken, 128, [some (.inr (.inr (some (8, 0)))), some (.inl (0)), some (.inl (nI e))], []) :: g :: gs) (d + 2) (mk (up3 I 8 0 (19) ((nI i))) X) Q) : am_WP ((mX8_nextToken, 72, [some (.inr (.inr (some (8, 0)))), some (.inl (1)), some (.inl (nI e))], []) :: g :: gs) (d + 2) (mk I X) Q := by
  refine am_go 400 ?_
  have tk0 : I 8 0 20 = nI i := h20
  refine am_if (fun h1 => ?_) (fun h1 => ?_)
  · have nh1 := (eq_nat (a := e) (b := i) (rfl : (nI e : Int32) = nI e) tk0 (by omega) (by omega)).mp h1
    have tk1 : (up3 I 8 0 (19) ((I 8 0 20))) 8 0 19 = (nI i) := by first | exact up3_s | (((try rw [tk0])); first | done | exact up3_s)
    have tk2 : (up3 I 8 0 (19) ((I 8 0 20))) 8 0 18 = nI n := by first | exact ((up3_j (by decide))).trans h18 | (((try rw [tk0])); first | done | exact ((up3_j (by decide))).trans h18)
    refine am_if (fun h2 => ?_) (fun h2 => ?_)
    · have nh2 := (eq_nat (a := i) (b := n) tk1 tk2 (by omega) (by omega)).mp h2
      show am_WP (am_psh g none :: gs) (d + 3) (mk (up3 (up3 I 8 0 (19) ((I 8 0 20))) 8 0 (21) (0)) X) Q
      try rw [tk0]
      exact k0 nh1 nh2
    · have nh2 := mt (eq_nat (a := i) (b := n) tk1 tk2 (by omega) (by omega)).mpr h2
      refine (c_X8_isLetter (n := n) (i := i) hn (show (up3 I 8 0 (19) (_)) 8 0 18 = nI n from by rw [up3_j (by decide)]; exact h18) hb ht tk1 (by omega)) _ _ _ ?_
      refine am_go 400 ?_
      refine am_if (fun h3 => ?_) (fun h3 => ?_)
      · have h3 := bI_0.mp h3
        refine (c_X8_isDigit (n := n) (i := i) hn (show (up3 I 8 0 (19) (_)) 8 0 18 = nI n from by rw [up3_j (by decide)]; exact h18) hb ht tk1 (by omega)) _ _ _ ?_
        refine am_go 400 ?_
        refine am_if (fun h4 => ?_) (fun h4 => ?_)
        · have h4 := bI_0.mp h4
          have tk3 : (up3 (up3 I 8 0 (19) ((I 8 0 20))) 8 0 (21) (3)) 8 0 19 = (nI i) := by first | exact ((up3_j (by decide))).trans up3_s | (((try rw [tk0])); first | done | exact ((up3_j (by decide))).trans up3_s)
          refine am_f (ix_in (n := i) (N := 96) tk3 (by omega) (by decide)) ?_
          have tk4 : (((up3 (up3 I 8 0 (19) ((I 8 0 20))) 8 0 (21) (3)) 8 0 19)).toNatClampNeg = i := by first | exact ix_cl (n := i) tk3 (by omega) | (((try rw [tk3]); (try rw [tk0])); first | done | exact ix_cl (n := i) tk3 (by omega))
          have bd : (t (i)) ≤ 255 := (by have := ht (i) (by omega); omega)
          have tk5 : (up3 (up3 I 8 0 (19) ((I 8 0 20))) 8 0 (21) (3)) 44 0 (((((up3 (up3 I 8 0 (19) ((I 8 0 20))) 8 0 (21) (3)) 8 0 19)).toNatClampNeg)) = nI (t (i)) := by first | exact hb _ (by omega) | (((try rw [tk4]); (try rw [tk3]); (try rw [tk0])); first | done | exact hb _ (by omega))
          have tk6 : (up3 (up3 (up3 I 8 0 (19) ((I 8 0 20))) 8 0 (21) (3)) 8 0 (23) (((up3 (up3 I 8 0 (19) ((I 8 0 20))) 8 0 (21) (3)) 44 0 (((((up3 (up3 I 8 0 (19) ((I 8 0 20))) 8 0 (21) (3)) 8 0 19)).toNatClampNeg))))) 8 0 20 = nI i := by first | exact ((up3_j (by decide))).trans (((up3_j (by decide))).trans (((up3_j (by decide))).trans h20)) | (((try rw [tk5]); (try rw [tk4]); (try rw [tk3]); (try rw [tk0])); first | done | exact ((up3_j (by decide))).trans (((up3_j (by decide))).trans (((up3_j (by decide))).trans h20)))
          have tk7 : (((up3 (up3 (up3 I 8 0 (19) ((I 8 0 20))) 8 0 (21) (3)) 8 0 (23) (((up3 (up3 I 8 0 (19) ((I 8 0 20))) 8 0 (21) (3)) 44 0 (((((up3 (up3 I 8 0 (19) ((I 8 0 20))) 8 0 (21) (3)) 8 0 19)).toNatClampNeg))))) 8 0 20) + 1) = nI (i + 1) := by first | exact (nI_addE tk6 (rfl : (1 : Int32) = nI 1)) | (((try rw [tk6]); (try rw [tk5]); (try rw [tk4]); (try rw [tk3]); (try rw [tk0])); first | done | exact (nI_addE tk6 (rfl : (1 : Int32) = nI 1)))
          show am_WP (am_psh g none :: gs) (d + 3) (mk (up3 (up3 (up3 (up3 I 8 0 (19) ((I 8 0 20))) 8 0 (21) (3)) 8 0 (23) (((up3 (up3 I 8 0 (19) ((I 8 0 20))) 8 0 (21) (3)) 44 0 (((((up3 (up3 I 8 0 (19) ((I 8 0 20))) 8 0 (21) (3)) 8 0 19)).toNatClampNeg))))) 8 0 (20) (((((up3 (up3 (up3 I 8 0 (19) ((I 8 0 20))) 8 0 (21) (3)) 8 0 (23) (((up3 (up3 I 8 0 (19) ((I 8 0 20))) 8 0 (21) (3)) 44 0 (((((up3 (up3 I 8 0 (19) ((I 8 0 20))) 8 0 (21) (3)) 8 0 19)).toNatClampNeg))))) 8 0 20) + 1)))) X) Q
          try rw [tk7]
          try rw [tk6]
          try rw [tk5]
          try rw [tk4]
          try rw [tk3]
          try rw [tk0]
          exact k1 nh1 nh2 h3 h4
        · have h4 := bI_1.mp h4
          refine am_cut ?_
          refine am_go 3 ?_
          show am_WP ((mX8_nextToken, 214, [some (.inr (.inr (some (8, 0)))), some (.inl (1)), some (.inl (nI e))], []) :: g :: gs) (d + 2) (mk (up3 (up3 I 8 0 (19) ((I 8 0 20))) 8 0 (22) (0)) X) Q
          try rw [tk0]
          exact k2 nh1 nh2 h3 h4
      · have h3 := bI_1.mp h3
        refine am_cut ?_
        show am_WP ((mX8_nextToken, 128, [some (.inr (.inr (some (8, 0)))), some (.inl (1)), some (.inl (nI e))], []) :: g :: gs) (d + 2) (mk (up3 I 8 0 (19) ((I 8 0 20))) X) Q
        try rw [tk0]
        exact k3 nh1 nh2 h3
  · have nh1 := mt (eq_nat (a := e) (b := i) (rfl : (nI e : Int32) = nI e) tk0 (by omega) (by omega)).mpr h1
    have tk8 : (up3 I 8 0 (19) ((I 8 0 20))) 8 0 19 = (nI i) := by first | exact up3_s | (((try rw [tk0])); first | done | exact up3_s)
    have tk9 : (up3 I 8 0 (19) ((I 8 0 20))) 8 0 18 = nI n := by first | exact ((up3_j (by decide))).trans h18 | (((try rw [tk0])); first | done | exact ((up3_j (by decide))).trans h18)
    refine am_if (fun h5 => ?_) (fun h5 => ?_)
    · have nh5 := (eq_nat (a := i) (b := n) tk8 tk9 (by omega) (by omega)).mp h5
      show am_WP (am_psh g none :: gs) (d + 3) (mk (up3 (up3 I 8 0 (19) ((I 8 0 20))) 8 0 (21) (0)) X) Q
      try rw [tk0]
      exact k4 nh1 nh5
    · have nh5 := mt (eq_nat (a := i) (b := n) tk8 tk9 (by omega) (by omega)).mpr h5
      refine (c_X8_isLetter (n := n) (i := i) hn (show (up3 I 8 0 (19) (_)) 8 0 18 = nI n from by rw [up3_j (by decide)]; exact h18) hb ht tk8 (by omega)) _ _ _ ?_
      refine am_go 400 ?_
      refine am_if (fun h6 => ?_) (fun h6 => ?_)
      · have h6 := bI_0.mp h6
        refine (c_X8_isDigit (n := n) (i := i) hn (show (up3 I 8 0 (19) (_)) 8 0 18 = nI n from by rw [up3_j (by decide)]; exact h18) hb ht tk8 (by omega)) _ _ _ ?_
        refine am_go 400 ?_
        refine am_if (fun h7 => ?_) (fun h7 => ?_)
        · have h7 := bI_0.mp h7
          have tk10 : (up3 (up3 I 8 0 (19) ((I 8 0 20))) 8 0 (21) (3)) 8 0 19 = (nI i) := by first | exact ((up3_j (by decide))).trans up3_s | (((try rw [tk0])); first | done | exact ((up3_j (by decide))).trans up3_s)
          refine am_f (ix_in (n := i) (N := 96) tk10 (by omega) (by decide)) ?_
          have tk11 : (((up3 (up3 I 8 0 (19) ((I 8 0 20))) 8 0 (21) (3)) 8 0 19)).toNatClampNeg = i := by first | exact ix_cl (n := i) tk10 (by omega) | (((try rw [tk10]); (try rw [tk0])); first | done | exact ix_cl (n := i) tk10 (by omega))
          have bd : (t (i)) ≤ 255 := (by have := ht (i) (by omega); omega)
          have tk12 : (up3 (up3 I 8 0 (19) ((I 8 0 20))) 8 0 (21) (3)) 44 0 (((((up3 (up3 I 8 0 (19) ((I 8 0 20))) 8 0 (21) (3)) 8 0 19)).toNatClampNeg)) = nI (t (i)) := by first | exact hb _ (by omega) | (((try rw [tk11]); (try rw [tk10]); (try rw [tk0])); first | done | exact hb _ (by omega))
          have tk13 : (up3 (up3 (up3 I 8 0 (19) ((I 8 0 20))) 8 0 (21) (3)) 8 0 (23) (((up3 (up3 I 8 0 (19) ((I 8 0 20))) 8 0 (21) (3)) 44 0 (((((up3 (up3 I 8 0 (19) ((I 8 0 20))) 8 0 (21) (3)) 8 0 19)).toNatClampNeg))))) 8 0 20 = nI i := by first | exact ((up3_j (by decide))).trans (((up3_j (by decide))).trans (((up3_j (by decide))).trans h20)) | (((try rw [tk12]); (try rw [tk11]); (try rw [tk10]); (try rw [tk0])); first | done | exact ((up3_j (by decide))).trans (((up3_j (by decide))).trans (((up3_j (by decide))).trans h20)))
          have tk14 : (((up3 (up3 (up3 I 8 0 (19) ((I 8 0 20))) 8 0 (21) (3)) 8 0 (23) (((up3 (up3 I 8 0 (19) ((I 8 0 20))) 8 0 (21) (3)) 44 0 (((((up3 (up3 I 8 0 (19) ((I 8 0 20))) 8 0 (21) (3)) 8 0 19)).toNatClampNeg))))) 8 0 20) + 1) = nI (i + 1) := by first | exact (nI_addE tk13 (rfl : (1 : Int32) = nI 1)) | (((try rw [tk13]); (try rw [tk12]); (try rw [tk11]); (try rw [tk10]); (try rw [tk0])); first | done | exact (nI_addE tk13 (rfl : (1 : Int32) = nI 1)))
          show am_WP (am_psh g none :: gs) (d + 3) (mk (up3 (up3 (up3 (up3 I 8 0 (19) ((I 8 0 20))) 8 0 (21) (3)) 8 0 (23) (((up3 (up3 I 8 0 (19) ((I 8 0 20))) 8 0 (21) (3)) 44 0 (((((up3 (up3 I 8 0 (19) ((I 8 0 20))) 8 0 (21) (3)) 8 0 19)).toNatClampNeg))))) 8 0 (20) (((((up3 (up3 (up3 I 8 0 (19) ((I 8 0 20))) 8 0 (21) (3)) 8 0 (23) (((up3 (up3 I 8 0 (19) ((I 8 0 20))) 8 0 (21) (3)) 44 0 (((((up3 (up3 I 8 0 (19) ((I 8 0 20))) 8 0 (21) (3)) 8 0 19)).toNatClampNeg))))) 8 0 20) + 1)))) X) Q
          try rw [tk14]
          try rw [tk13]
          try rw [tk12]
          try rw [tk11]
          try rw [tk10]
          try rw [tk0]
          exact k5 nh1 nh5 h6 h7
        · have h7 := bI_1.mp h7
          refine am_cut ?_
          refine am_go 3 ?_
          show am_WP ((mX8_nextToken, 214, [some (.inr (.inr (some (8, 0)))), some (.inl (0)), some (.inl (nI e))], []) :: g :: gs) (d + 2) (mk (up3 (up3 I 8 0 (19) ((I 8 0 20))) 8 0 (22) (0)) X) Q
          try rw [tk0]
          exact k6 nh1 nh5 h6 h7
      · have h6 := bI_1.mp h6
        refine am_cut ?_
        show am_WP ((mX8_nextToken, 128, [some (.inr (.inr (some (8, 0)))), some (.inl (0)), some (.inl (nI e))], []) :: g :: gs) (d + 2) (mk (up3 I 8 0 (19) ((I 8 0 20))) X) Q
        try rw [tk0]
        exact k7 nh1 nh5 h6
set_option maxRecDepth 100000 in
set_option maxHeartbeats 4000000 in
theorem w_X8_nextToken_128 {I : Nat → Nat → Nat → Int32} {X : am_Z} {g : am_F} {gs : List am_F} {d : Nat} {Q : Option am_V → am_M → Prop} {t : Nat → Nat} {n : Nat} (hn : n ≤ 96) (h18 : I 8 0 18 = nI n) (hb : ∀ j, j < n → I 44 0 j = nI (t j)) (ht : ∀ j, j < n → t j < 256) {tg : Int32} {e i : Nat} (h20 : I 8 0 20 = nI i) (hi : i ≤ n) (k0 : (¬ (i < n ∧ fm (t i) = 1)) → am_WP ((mX8_nextToken, 152, [some (.inr (.inr (some (8, 0)))), some (.inl (tg)), some (.inl (nI e))], []) :: g :: gs) (d + 2) (mk I X) Q) (k1 : (i < n ∧ fm (t i) = 1) → am_WP ((mX8_nextToken, 128, [some (.inr (.inr (some (8, 0)))), some (.inl (tg)), some (.inl (nI e))], []) :: g :: gs) (d + 2) (mk (up3 I 8 0 (20) ((nI (i + 1)))) X) Q) : am_WP ((mX8_nextToken, 128, [some (.inr (.inr (some (8, 0)))), some (.inl (tg)), some (.inl (nI e))], []) :: g :: gs) (d + 2) (mk I X) Q := by
  refine am_go 400 ?_
  have tk0 : I 8 0 20 = nI i := h20
  refine (c_X8_isLetter (n := n) (i := i) hn (show I 8 0 18 = nI n from h18) hb ht tk0 (by omega)) _ _ _ ?_
  refine am_go 400 ?_
  refine am_if (fun h1 => ?_) (fun h1 => ?_)
  · have h1 := bI_0.mp h1
    refine am_cf rfl ?_
    exact am_cut (k0 h1)
  · have h1 := bI_1.mp h1
    have tk1 : ((I 8 0 20) + 1) = nI (i + 1) := by first | exact (nI_addE tk0 (rfl : (1 : Int32) = nI 1)) | (((try rw [tk0])); first | done | exact (nI_addE tk0 (rfl : (1 : Int32) = nI 1)))
    show am_WP ((mX8_nextToken, 128, [some (.inr (.inr (some (8, 0)))), some (.inl (tg)), some (.inl (nI e))], []) :: g :: gs) (d + 2) (mk (up3 I 8 0 (20) ((((I 8 0 20) + 1)))) X) Q
    try rw [tk1]
    try rw [tk0]
    exact k1 h1
set_option maxRecDepth 100000 in
set_option maxHeartbeats 4000000 in
theorem w_X8_nextToken_214 {I : Nat → Nat → Nat → Int32} {X : am_Z} {g : am_F} {gs : List am_F} {d : Nat} {Q : Option am_V → am_M → Prop} {t : Nat → Nat} {n : Nat} (hn : n ≤ 96) (h18 : I 8 0 18 = nI n) (hb : ∀ j, j < n → I 44 0 j = nI (t j)) (ht : ∀ j, j < n → t j < 256) {tg : Int32} {e i st v : Nat} (h20 : I 8 0 20 = nI i) (hi : i ≤ n) (h19 : I 8 0 19 = nI st) (hst : st ≤ i) (h22 : I 8 0 22 = nI v) (k0 : (¬ (i < n ∧ fm (t i) = 2)) → am_WP ((mX8_nextToken, 282, [some (.inr (.inr (some (8, 0)))), some (.inl (tg)), some (.inl (nI e))], []) :: g :: gs) (d + 2) (mk I X) Q) (k1 : (i < n ∧ fm (t i) = 2) → (4 ≤ (i - st)) → am_WP ((mX8_nextToken, 214, [some (.inr (.inr (some (8, 0)))), some (.inl (tg)), some (.inl (nI e))], []) :: g :: gs) (d + 2) (mk (up3 (up3 I 8 0 (22) ((nI v))) 8 0 (20) ((nI (i + 1)))) X) Q) (k2 : (i < n ∧ fm (t i) = 2) → (¬ (4 ≤ (i - st))) → am_WP ((mX8_nextToken, 214, [some (.inr (.inr (some (8, 0)))), some (.inl (tg)), some (.inl (nI e))], []) :: g :: gs) (d + 2) (mk (up3 (up3 I 8 0 (22) ((nI (((10 * v) + (t (i))) - 48)))) 8 0 (20) ((nI (i + 1)))) X) Q) : am_WP ((mX8_nextToken, 214, [some (.inr (.inr (some (8, 0)))), some (.inl (tg)), some (.inl (nI e))], []) :: g :: gs) (d + 2) (mk I X) Q := by
  refine am_go 400 ?_
  have tk0 : I 8 0 20 = nI i := h20
  refine (c_X8_isDigit (n := n) (i := i) hn (show I 8 0 18 = nI n from h18) hb ht tk0 (by omega)) _ _ _ ?_
  refine am_go 400 ?_
  refine am_if (fun h1 => ?_) (fun h1 => ?_)
  · have h1 := bI_0.mp h1
    refine am_cf rfl ?_
    exact am_cut (k0 h1)
  · have h1 := bI_1.mp h1
    have dg := fm_2 h1.2
    have tk1 : I 8 0 19 = nI st := h19
    refine am_if (fun h2 => ?_) (fun h2 => ?_)
    · have nh2 := (le_nat (a := 4) (b := (i - st)) (rfl : (4 : Int32) = nI 4) (nI_subE tk0 tk1 (by omega)) (by omega) (by omega)).mp h2
      have tk2 : I 8 0 22 = nI v := h22
      have tk3 : (up3 I 8 0 (22) ((I 8 0 22))) 8 0 20 = nI i := by first | exact ((up3_j (by decide))).trans h20 | (((try rw [tk2])); first | done | exact ((up3_j (by decide))).trans h20)
      have tk4 : (((up3 I 8 0 (22) ((I 8 0 22))) 8 0 20) + 1) = nI (i + 1) := by first | exact (nI_addE tk3 (rfl : (1 : Int32) = nI 1)) | (((try rw [tk3]); (try rw [tk2])); first | done | exact (nI_addE tk3 (rfl : (1 : Int32) = nI 1)))
      show am_WP ((mX8_nextToken, 214, [some (.inr (.inr (some (8, 0)))), some (.inl (tg)), some (.inl (nI e))], []) :: g :: gs) (d + 2) (mk (up3 (up3 I 8 0 (22) ((I 8 0 22))) 8 0 (20) (((((up3 I 8 0 (22) ((I 8 0 22))) 8 0 20) + 1)))) X) Q
      try rw [tk4]
      try rw [tk3]
      try rw [tk2]
      exact k1 h1 nh2
    · have nh2 := mt (le_nat (a := 4) (b := (i - st)) (rfl : (4 : Int32) = nI 4) (nI_subE tk0 tk1 (by omega)) (by omega) (by omega)).mpr h2
      have tk5 : I 8 0 22 = nI v := h22
      refine am_f (ix_in (n := i) (N := 96) tk0 (by omega) (by decide)) ?_
      have tk6 : ((I 8 0 20)).toNatClampNeg = i := by first | exact ix_cl (n := i) tk0 (by omega) | (((try rw [tk0])); first | done | exact ix_cl (n := i) tk0 (by omega))
      have bd : (t (i)) ≤ 255 := (by have := ht (i) (by omega); omega)
      have tk7 : I 44 0 ((((I 8 0 20)).toNatClampNeg)) = nI (t (i)) := by first | exact hb _ (by omega) | (((try rw [tk6]); (try rw [tk0])); first | done | exact hb _ (by omega))
      have tk8 : (((10 * (I 8 0 22)) + (I 44 0 ((((I 8 0 20)).toNatClampNeg)))) - 48) = nI (((10 * v) + (t (i))) - 48) := by first | exact (nI_subE (nI_addE (nI_mulE (rfl : (10 : Int32) = nI 10) tk5) tk7) (rfl : (48 : Int32) = nI 48) (by omega)) | (((try rw [tk7]); (try rw [tk6]); (try rw [tk5]); (try rw [tk0])); first | done | exact (nI_subE (nI_addE (nI_mulE (rfl : (10 : Int32) = nI 10) tk5) tk7) (rfl : (48 : Int32) = nI 48) (by omega)))
      have tk9 : (up3 I 8 0 (22) (((((10 * (I 8 0 22)) + (I 44 0 ((((I 8 0 20)).toNatClampNeg)))) - 48)))) 8 0 20 = nI i := by first | exact ((up3_j (by decide))).trans h20 | (((try rw [tk8]); (try rw [tk7]); (try rw [tk6]); (try rw [tk5]); (try rw [tk0])); first | done | exact ((up3_j (by decide))).trans h20)
      have tk10 : (((up3 I 8 0 (22) (((((10 * (I 8 0 22)) + (I 44 0 ((((I 8 0 20)).toNatClampNeg)))) - 48)))) 8 0 20) + 1) = nI (i + 1) := by first | exact (nI_addE tk9 (rfl : (1 : Int32) = nI 1)) | (((try rw [tk9]); (try rw [tk8]); (try rw [tk7]); (try rw [tk6]); (try rw [tk5]); (try rw [tk0])); first | done | exact (nI_addE tk9 (rfl : (1 : Int32) = nI 1)))
      show am_WP ((mX8_nextToken, 214, [some (.inr (.inr (some (8, 0)))), some (.inl (tg)), some (.inl (nI e))], []) :: g :: gs) (d + 2) (mk (up3 (up3 I 8 0 (22) (((((10 * (I 8 0 22)) + (I 44 0 ((((I 8 0 20)).toNatClampNeg)))) - 48)))) 8 0 (20) (((((up3 I 8 0 (22) (((((10 * (I 8 0 22)) + (I 44 0 ((((I 8 0 20)).toNatClampNeg)))) - 48)))) 8 0 20) + 1)))) X) Q
      try rw [tk10]
      try rw [tk9]
      try rw [tk8]
      try rw [tk7]
      try rw [tk6]
      try rw [tk5]
      try rw [tk0]
      exact k2 h1 nh2
set_option maxRecDepth 100000 in
set_option maxHeartbeats 4000000 in
theorem w_nx152_0 {I : Nat → Nat → Nat → Int32} {X : am_Z} {g : am_F} {gs : List am_F} {d : Nat} {Q : Option am_V → am_M → Prop} {t : Nat → Nat} {n : Nat} (hn : n ≤ 96) (h18 : I 8 0 18 = nI n) (hb : ∀ j, j < n → I 44 0 j = nI (t j)) (ht : ∀ j, j < n → t j < 256) {e i st : Nat} (h20 : I 8 0 20 = nI i) (hi : i ≤ n) (h19 : I 8 0 19 = nI st) (hst : st < i) (k0 : ((i - st) = 1) → am_WP (am_psh g none :: gs) (d + 3) (mk (up3 (up3 I 8 0 (21) (1)) 8 0 (23) ((nI (t (st))))) X) Q) (k1 : (¬ ((i - st) = 1)) → am_WP (am_psh g none :: gs) (d + 3) (mk (up3 (up3 I 8 0 (21) (1)) 8 0 (23) (0)) X) Q) : am_WP ((mX8_nextToken, 152, [some (.inr (.inr (some (8, 0)))), some (.inl (0)), some (.inl (nI e))], []) :: g :: gs) (d + 2) (mk I X) Q := by
  refine am_go 400 ?_
  have tk0 : (up3 I 8 0 (21) (1)) 8 0 20 = nI i := ((up3_j (by decide))).trans h20
  have tk1 : (up3 I 8 0 (21) (1)) 8 0 19 = nI st := ((up3_j (by decide))).trans h19
  refine am_if (fun h1 => ?_) (fun h1 => ?_)
  · have nh1 := (eq_nat (a := (i - st)) (b := 1) (nI_subE tk0 tk1 (by omega)) (rfl : (1 : Int32) = nI 1) (by omega) (by omega)).mp h1
    refine am_f (ix_in (n := st) (N := 96) tk1 (by omega) (by decide)) ?_
    have tk2 : (((up3 I 8 0 (21) (1)) 8 0 19)).toNatClampNeg = st := by first | exact ix_cl (n := st) tk1 (by omega) | (((try rw [tk1])); first | done | exact ix_cl (n := st) tk1 (by omega))
    have bd : (t (st)) ≤ 255 := (by have := ht (st) (by omega); omega)
    have tk3 : (up3 I 8 0 (21) (1)) 44 0 (((((up3 I 8 0 (21) (1)) 8 0 19)).toNatClampNeg)) = nI (t (st)) := by first | exact hb _ (by omega) | (((try rw [tk2]); (try rw [tk1])); first | done | exact hb _ (by omega))
    show am_WP (am_psh g none :: gs) (d + 3) (mk (up3 (up3 I 8 0 (21) (1)) 8 0 (23) (((up3 I 8 0 (21) (1)) 44 0 (((((up3 I 8 0 (21) (1)) 8 0 19)).toNatClampNeg))))) X) Q
    try rw [tk3]
    try rw [tk2]
    try rw [tk1]
    exact k0 nh1
  · have nh1 := mt (eq_nat (a := (i - st)) (b := 1) (nI_subE tk0 tk1 (by omega)) (rfl : (1 : Int32) = nI 1) (by omega) (by omega)).mpr h1
    exact k1 nh1
set_option maxRecDepth 100000 in
set_option maxHeartbeats 4000000 in
theorem w_nx282_0 {I : Nat → Nat → Nat → Int32} {X : am_Z} {g : am_F} {gs : List am_F} {d : Nat} {Q : Option am_V → am_M → Prop} {e i st : Nat} (h20 : I 8 0 20 = nI i) (hi : i ≤ 96) (h19 : I 8 0 19 = nI st) (hst : st < i) (k0 : ((i - st) ≤ 4) → am_WP (am_psh g none :: gs) (d + 3) (mk (up3 I 8 0 (21) (2)) X) Q) (k1 : (¬ ((i - st) ≤ 4)) → am_WP (am_psh g none :: gs) (d + 3) (mk (up3 I 8 0 (21) (4)) X) Q) : am_WP ((mX8_nextToken, 282, [some (.inr (.inr (some (8, 0)))), some (.inl (0)), some (.inl (nI e))], []) :: g :: gs) (d + 2) (mk I X) Q := by
  refine am_go 400 ?_
  have tk0 : I 8 0 20 = nI i := h20
  have tk1 : I 8 0 19 = nI st := h19
  refine am_if (fun h1 => ?_) (fun h1 => ?_)
  · have nh1 := (le_nat (a := (i - st)) (b := 4) (nI_subE tk0 tk1 (by omega)) (rfl : (4 : Int32) = nI 4) (by omega) (by omega)).mp h1
    exact k0 nh1
  · have nh1 := mt (le_nat (a := (i - st)) (b := 4) (nI_subE tk0 tk1 (by omega)) (rfl : (4 : Int32) = nI 4) (by omega) (by omega)).mpr h1
    exact k1 nh1
set_option maxRecDepth 100000 in
set_option maxHeartbeats 4000000 in
theorem w_nx152_1 {I : Nat → Nat → Nat → Int32} {X : am_Z} {g : am_F} {gs : List am_F} {d : Nat} {Q : Option am_V → am_M → Prop} {t : Nat → Nat} {n : Nat} (hn : n ≤ 96) (h18 : I 8 0 18 = nI n) (hb : ∀ j, j < n → I 44 0 j = nI (t j)) (ht : ∀ j, j < n → t j < 256) {e i st : Nat} (h20 : I 8 0 20 = nI i) (hi : i ≤ n) (h19 : I 8 0 19 = nI st) (hst : st < i) (k0 : ((i - st) = 1) → am_WP (am_psh g none :: gs) (d + 3) (mk (up3 (up3 I 8 0 (21) (4)) 8 0 (23) ((nI (t (st))))) X) Q) (k1 : (¬ ((i - st) = 1)) → am_WP (am_psh g none :: gs) (d + 3) (mk (up3 (up3 I 8 0 (21) (4)) 8 0 (23) (0)) X) Q) : am_WP ((mX8_nextToken, 152, [some (.inr (.inr (some (8, 0)))), some (.inl (1)), some (.inl (nI e))], []) :: g :: gs) (d + 2) (mk I X) Q := by
  refine am_go 400 ?_
  have tk0 : (up3 I 8 0 (21) (4)) 8 0 20 = nI i := ((up3_j (by decide))).trans h20
  have tk1 : (up3 I 8 0 (21) (4)) 8 0 19 = nI st := ((up3_j (by decide))).trans h19
  refine am_if (fun h1 => ?_) (fun h1 => ?_)
  · have nh1 := (eq_nat (a := (i - st)) (b := 1) (nI_subE tk0 tk1 (by omega)) (rfl : (1 : Int32) = nI 1) (by omega) (by omega)).mp h1
    refine am_f (ix_in (n := st) (N := 96) tk1 (by omega) (by decide)) ?_
    have tk2 : (((up3 I 8 0 (21) (4)) 8 0 19)).toNatClampNeg = st := by first | exact ix_cl (n := st) tk1 (by omega) | (((try rw [tk1])); first | done | exact ix_cl (n := st) tk1 (by omega))
    have bd : (t (st)) ≤ 255 := (by have := ht (st) (by omega); omega)
    have tk3 : (up3 I 8 0 (21) (4)) 44 0 (((((up3 I 8 0 (21) (4)) 8 0 19)).toNatClampNeg)) = nI (t (st)) := by first | exact hb _ (by omega) | (((try rw [tk2]); (try rw [tk1])); first | done | exact hb _ (by omega))
    show am_WP (am_psh g none :: gs) (d + 3) (mk (up3 (up3 I 8 0 (21) (4)) 8 0 (23) (((up3 I 8 0 (21) (4)) 44 0 (((((up3 I 8 0 (21) (4)) 8 0 19)).toNatClampNeg))))) X) Q
    try rw [tk3]
    try rw [tk2]
    try rw [tk1]
    exact k0 nh1
  · have nh1 := mt (eq_nat (a := (i - st)) (b := 1) (nI_subE tk0 tk1 (by omega)) (rfl : (1 : Int32) = nI 1) (by omega) (by omega)).mpr h1
    exact k1 nh1
set_option maxRecDepth 100000 in
set_option maxHeartbeats 4000000 in
theorem w_nx282_1 {I : Nat → Nat → Nat → Int32} {X : am_Z} {g : am_F} {gs : List am_F} {d : Nat} {Q : Option am_V → am_M → Prop} {e i st : Nat} (h20 : I 8 0 20 = nI i) (hi : i ≤ 96) (h19 : I 8 0 19 = nI st) (hst : st < i) (k0 : am_WP (am_psh g none :: gs) (d + 3) (mk (up3 I 8 0 (21) (4)) X) Q) : am_WP ((mX8_nextToken, 282, [some (.inr (.inr (some (8, 0)))), some (.inl (1)), some (.inl (nI e))], []) :: g :: gs) (d + 2) (mk I X) Q := by
  refine am_go 400 ?_
  exact k0
def FrA8 (I I' : Im) : Prop := (∀ g, g ≠ 8 → I' g = I g) ∧ ∀ j, j < 19 ∨ 23 < j → I' 8 0 j = I 8 0 j
theorem FrA8_r {I} : FrA8 I I := ⟨fun _ _ => rfl, fun _ _ => rfl⟩
theorem FrA8_t {I I' I''} (h : FrA8 I I') (h2 : FrA8 I' I'') : FrA8 I I'' := ⟨fun g a => (h2.1 g a).trans (h.1 g a), fun j a => (h2.2 j a).trans (h.2 j a)⟩
theorem FrA8_3 {I I' j v} (h : FrA8 I I') (hj : 19 ≤ j ∧ j ≤ 23) : FrA8 I (up3 I' 8 0 j v) := ⟨fun g hg => by rw [up3_g hg]; exact h.1 g hg, fun i a => by rw [up3_j (by omega)]; exact h.2 i a⟩
theorem l_nx34 {X g gs d Q} {t : Nat → Nat} {n e : Nat} {tg : Int32} (hn : n ≤ 96) (ht : ∀ j, j < n → t j < 256) : ∀ (m i : Nat) (I : Im), i + m = n → I 8 0 18 = nI n → (∀ j, j < n → I 44 0 j = nI (t j)) → I 8 0 20 = nI i →
    (∀ I', I' 8 0 20 = nI (skB t m i) ∧ FrA8 I I' → am_WP ((mX8_nextToken, 72, [some (.inr (.inr (some (8, 0)))), some (.inl tg), some (.inl (nI e))], []) :: g :: gs) (d + 2) (mk I' X) Q) →
    am_WP ((mX8_nextToken, 34, [some (.inr (.inr (some (8, 0)))), some (.inl tg), some (.inl (nI e))], []) :: g :: gs) (d + 2) (mk I X) Q
  | 0, i, I, hi, h18, hb, h20, K => w_X8_nextToken_34 hn h18 hb ht h20 (by omega) (fun _ => K I ⟨h20, FrA8_r⟩) (fun z => absurd (by omega) z) (fun z => absurd (by omega) z)
  | m + 1, i, I, hi, h18, hb, h20, K => by
    rw [skB] at K
    refine w_X8_nextToken_34 hn h18 hb ht h20 (by omega) (fun z => absurd z (by omega)) (fun _ z => ?_) (fun _ z => ?_)
    · rw [if_pos z] at K
      exact l_nx34 hn ht m (i + 1) _ (by omega) (by rw [up3_j (by decide)]; exact h18) hb up3_s (fun I' p' => K I' ⟨p'.1, FrA8_t (FrA8_3 FrA8_r (by decide)) p'.2⟩)
    · rw [if_neg z] at K
      exact K I ⟨h20, FrA8_r⟩
theorem l_nx128 {X g gs d Q} {t : Nat → Nat} {n e st : Nat} {tg : Int32} (hn : n ≤ 96) (ht : ∀ j, j < n → t j < 256) : ∀ (m i : Nat) (I : Im), i + m = n → I 8 0 18 = nI n → (∀ j, j < n → I 44 0 j = nI (t j)) → I 8 0 20 = nI i → I 8 0 19 = nI st →
    (∀ I', I' 8 0 20 = nI (scF t 1 m i) ∧ I' 8 0 19 = nI st ∧ FrA8 I I' → am_WP ((mX8_nextToken, 152, [some (.inr (.inr (some (8, 0)))), some (.inl tg), some (.inl (nI e))], []) :: g :: gs) (d + 2) (mk I' X) Q) →
    am_WP ((mX8_nextToken, 128, [some (.inr (.inr (some (8, 0)))), some (.inl tg), some (.inl (nI e))], []) :: g :: gs) (d + 2) (mk I X) Q
  | 0, i, I, hi, h18, hb, h20, h19, K => w_X8_nextToken_128 hn h18 hb ht h20 (by omega) (fun _ => K I ⟨h20, h19, FrA8_r⟩) (fun z => absurd z (by omega))
  | m + 1, i, I, hi, h18, hb, h20, h19, K => by
    rw [scF] at K
    refine w_X8_nextToken_128 hn h18 hb ht h20 (by omega) (fun z => ?_) (fun z => ?_)
    · rw [if_neg (fun y => z ⟨by omega, y⟩)] at K
      exact K I ⟨h20, h19, FrA8_r⟩
    · rw [if_pos z.2] at K
      exact l_nx128 hn ht m (i + 1) _ (by omega) (by rw [up3_j (by decide)]; exact h18) hb up3_s (by rw [up3_j (by decide)]; exact h19) (fun I' p' => K I' ⟨p'.1, p'.2.1, FrA8_t (FrA8_3 FrA8_r (by decide)) p'.2.2⟩)
theorem numV_s {t : Nat → Nat} : ∀ (m i a : Nat), numV t (m + 1) i a = numV t m i a * 10 + t (i + m) - 48
  | 0, i, a => rfl
  | m + 1, i, a => by
    rw [numV, numV_s m (i + 1), numV, show i + 1 + m = i + (m + 1) by omega]
theorem l_nx214 {X g gs d Q} {t : Nat → Nat} {n e st : Nat} {tg : Int32} (hn : n ≤ 96) (ht : ∀ j, j < n → t j < 256) : ∀ (m i : Nat) (I : Im), i + m = n → st ≤ i → I 8 0 18 = nI n → (∀ j, j < n → I 44 0 j = nI (t j)) → I 8 0 20 = nI i → I 8 0 19 = nI st → I 8 0 22 = nI (numV t (min (i - st) 4) st 0) →
    (∀ I', I' 8 0 20 = nI (scF t 2 m i) ∧ I' 8 0 19 = nI st ∧ I' 8 0 22 = nI (numV t (min (scF t 2 m i - st) 4) st 0) ∧ FrA8 I I' → am_WP ((mX8_nextToken, 282, [some (.inr (.inr (some (8, 0)))), some (.inl tg), some (.inl (nI e))], []) :: g :: gs) (d + 2) (mk I' X) Q) →
    am_WP ((mX8_nextToken, 214, [some (.inr (.inr (some (8, 0)))), some (.inl tg), some (.inl (nI e))], []) :: g :: gs) (d + 2) (mk I X) Q
  | 0, i, I, hi, hs, h18, hb, h20, h19, h22, K => w_X8_nextToken_214 hn h18 hb ht h20 (by omega) h19 hs h22 (fun _ => K I ⟨h20, h19, h22, FrA8_r⟩) (fun z => absurd z (by omega)) (fun z => absurd z (by omega))
  | m + 1, i, I, hi, hs, h18, hb, h20, h19, h22, K => by
    rw [scF] at K
    refine w_X8_nextToken_214 hn h18 hb ht h20 (by omega) h19 hs h22 (fun z => ?_) (fun z z2 => ?_) (fun z z2 => ?_)
    · rw [if_neg (fun y => z ⟨by omega, y⟩)] at K
      exact K I ⟨h20, h19, h22, FrA8_r⟩
    · rw [if_pos z.2] at K
      refine l_nx214 hn ht m (i + 1) _ (by omega) (by omega) (by rw [up3_j (by decide), up3_j (by decide)]; exact h18) hb up3_s (by rw [up3_j (by decide), up3_j (by decide)]; exact h19) ?_ (fun I' p' => K I' ⟨p'.1, p'.2.1, p'.2.2.1, FrA8_t (FrA8_3 (FrA8_3 FrA8_r (by decide)) (by decide)) p'.2.2.2⟩)
      rw [up3_j (by decide), up3_s, show min (i + 1 - st) 4 = min (i - st) 4 by omega]
    · rw [if_pos z.2] at K
      refine l_nx214 hn ht m (i + 1) _ (by omega) (by omega) (by rw [up3_j (by decide), up3_j (by decide)]; exact h18) hb up3_s (by rw [up3_j (by decide), up3_j (by decide)]; exact h19) ?_ (fun I' p' => K I' ⟨p'.1, p'.2.1, p'.2.2.1, FrA8_t (FrA8_3 (FrA8_3 FrA8_r (by decide)) (by decide)) p'.2.2.2⟩)
      rw [up3_j (by decide), up3_s, show min (i + 1 - st) 4 = (i - st) + 1 by omega, show min (i - st) 4 = i - st by omega, numV_s, show st + (i - st) = i by omega, Nat.mul_comm 10]
/-- the model's kind of a token -/
def tkM (tk : Tk) : Nat := if tk.1 = 2 ∧ 4 < tk.2.2 - tk.2.1 then 4 else tk.1
def MdT (I : Im) (t : Nat → Nat) (n : Nat) (tk : Tk) : Prop := I 8 0 18 = nI n ∧ (∀ j, j < n → I 44 0 j = nI (t j)) ∧ I 8 0 19 = nI tk.2.1 ∧ I 8 0 20 = nI tk.2.2 ∧ I 8 0 21 = nI (tkM tk) ∧ (tk.1 = 1 → I 8 0 23 = nI (if tk.2.2 - tk.2.1 = 1 then t tk.2.1 else 0)) ∧ (tk.1 = 3 → I 8 0 23 = nI (t tk.2.1)) ∧ (tk.1 = 2 → tk.2.2 - tk.2.1 ≤ 4 → I 8 0 22 = nI (numV t (tk.2.2 - tk.2.1) tk.2.1 0))
theorem nx8_c {I I' : Im} {t : Nat → Nat} {n : Nat} (h18 : I 8 0 18 = nI n) (hb : ∀ j, j < n → I 44 0 j = nI (t j)) (F : FrA8 I I') : I' 8 0 18 = nI n ∧ ∀ j, j < n → I' 44 0 j = nI (t j) := ⟨(F.2 18 (by decide)).trans h18, by rw [F.1 44 (by decide)]; exact hb⟩
theorem c_X8_nextToken {I : Im} {X d} {t : Nat → Nat} {n k st e : Nat} (hn : n ≤ 96) (h18 : I 8 0 18 = nI n) (hb : ∀ j, j < n → I 44 0 j = nI (t j)) (ht : ∀ j, j < n → t j < 256) (hk : k ≤ 4) (he : e ≤ n) (hke : k = 1 ∨ k = 2 → 0 < e) (h20 : I 8 0 20 = nI e) (h21 : I 8 0 21 = nI k) : Sw mX8_nextToken [.inr (.inr (some (8, 0)))] (d + 2) I X none (fun I' => MdT I' t n (nxT t n (k, st, e)) ∧ FrA8 I I') := fun g gs Q K => by
  have hS := nxS_b (t := t) he
  have main : ∀ tg : Int32, (tg = 1 ∧ (k = 1 ∨ k = 2) ∨ tg = 0 ∧ ¬ (k = 1 ∨ k = 2)) → am_WP ((mX8_nextToken, 34, [some (.inr (.inr (some (8, 0)))), some (.inl tg), some (.inl (nI e))], []) :: g :: gs) (d + 2) (mk I X) Q := fun tg htg => by
    refine l_nx34 hn ht (n - e) e I (by omega) h18 hb h20 (fun I1 p1 => ?_)
    obtain ⟨g20, F1⟩ := p1
    have g20 : I1 8 0 20 = nI (nxS t n e) := g20
    obtain ⟨g18, gb⟩ := nx8_c h18 hb F1
    have hT : nxS t n e < n → nxT t n (k, st, e) = (nxK t k e (nxS t n e), nxS t n e, nxE t n (nxS t n e)) := fun z => if_pos z
    have hT0 : ¬ nxS t n e < n → nxT t n (k, st, e) = (0, nxS t n e, nxS t n e) := fun z => if_neg z
    have hE := fun z => nxE_b (t := t) (n := n) (st := nxS t n e) z
    have hE2 : ¬ fm (t (nxS t n e)) = 3 → nxS t n e < n → scF t (fm (t (nxS t n e))) (n - nxS t n e) (nxS t n e) = nxE t n (nxS t n e) := fun z y => by
      rw [show n - nxS t n e = (n - (nxS t n e + 1)) + 1 by omega, scF, if_pos rfl]
      unfold nxE
      rw [if_neg z]
    generalize nxS t n e = s at hS g20 hT hT0 hE hE2
    have hEnd : s = n → am_WP (am_psh g none :: gs) (d + 3) (mk (up3 (up3 I1 8 0 19 (nI s)) 8 0 21 0) X) Q := fun z => by
      rw [hT0 (by omega)] at K
      have F2 : FrA8 I (up3 (up3 I1 8 0 19 (nI s)) 8 0 21 0) := FrA8_3 (FrA8_3 F1 (by decide)) (by decide)
      obtain ⟨c1, c2⟩ := nx8_c h18 hb F2
      exact K _ ⟨⟨c1, c2, by rw [up3_j (by decide)]; exact up3_s, by rw [up3_j (by decide), up3_j (by decide)]; exact g20, up3_s, (fun z => by cases z), (fun z => by cases z), (fun z => by cases z)⟩, F2⟩
    have hSig : ¬ s = n → ¬ (s < n ∧ fm (t s) = 1) → ¬ (s < n ∧ fm (t s) = 2) → am_WP (am_psh g none :: gs) (d + 3) (mk (up3 (up3 (up3 (up3 I1 8 0 19 (nI s)) 8 0 21 3) 8 0 23 (nI (t s))) 8 0 20 (nI (s + 1))) X) Q := fun z z1 z2 => by
      have h3 : fm (t s) = 3 := by
        rcases fm_c (t s) with q | q | q
        · exact absurd ⟨by omega, q⟩ z1
        · exact absurd ⟨by omega, q⟩ z2
        · exact q
      have eK : nxK t k e s = 3 := by unfold nxK; rw [if_neg (fun y => y.2.1 h3)]; exact h3
      have eE : nxE t n s = s + 1 := by unfold nxE; rw [if_pos h3]
      rw [hT (by omega), eK, eE] at K
      have F2 : FrA8 I (up3 (up3 (up3 (up3 I1 8 0 19 (nI s)) 8 0 21 3) 8 0 23 (nI (t s))) 8 0 20 (nI (s + 1))) := FrA8_3 (FrA8_3 (FrA8_3 (FrA8_3 F1 (by decide)) (by decide)) (by decide)) (by decide)
      obtain ⟨c1, c2⟩ := nx8_c h18 hb F2
      exact K _ ⟨⟨c1, c2, by rw [up3_j (by decide), up3_j (by decide), up3_j (by decide)]; exact up3_s, up3_s, by rw [up3_j (by decide), up3_j (by decide)]; exact up3_s, fun z => (by cases z), fun _ => (by rw [up3_j (by decide)]; exact up3_s), fun z => (by cases z)⟩, F2⟩
    have hLet : ∀ tg' : Int32, (tg' = 1 ∧ ((k = 1 ∨ k = 2) ∧ s = e) ∨ tg' = 0 ∧ ¬ ((k = 1 ∨ k = 2) ∧ s = e)) → (s < n ∧ fm (t s) = 1) → am_WP ((mX8_nextToken, 128, [some (.inr (.inr (some (8, 0)))), some (.inl tg'), some (.inl (nI e))], []) :: g :: gs) (d + 2) (mk (up3 I1 8 0 19 (nI s)) X) Q := fun tg' h' z => by
      have hE3 := hE2 (by omega) z.1
      rw [z.2] at hE3
      have hEb := hE z.1
      refine l_nx128 (st := s) hn ht (n - s) s _ (by omega) (by rw [up3_j (by decide)]; exact g18) gb (by rw [up3_j (by decide)]; exact g20) up3_s (fun I2 p2 => ?_)
      rw [hE3] at p2
      obtain ⟨q20, q19, F2⟩ := p2
      have F3 : FrA8 I I2 := FrA8_t (FrA8_3 F1 (by decide)) F2
      obtain ⟨c1, c2⟩ := nx8_c h18 hb F3
      have fin : ∀ (kd : Nat) (v : Int32), nxK t k e s = kd → (kd = 1 ∨ kd = 4) → v = nI (if nxE t n s - s = 1 then t s else 0) → am_WP (am_psh g none :: gs) (d + 3) (mk (up3 (up3 I2 8 0 21 (nI kd)) 8 0 23 v) X) Q := fun kd v eK hkd hv => by
        rw [hT z.1, eK] at K
        have F4 : FrA8 I (up3 (up3 I2 8 0 21 (nI kd)) 8 0 23 v) := FrA8_3 (FrA8_3 F3 (by decide)) (by decide)
        obtain ⟨c1, c2⟩ := nx8_c h18 hb F4
        refine K _ ⟨⟨c1, c2, by rw [up3_j (by decide), up3_j (by decide)]; exact q19, by rw [up3_j (by decide), up3_j (by decide)]; exact q20, ?_, fun _ => ?_, fun y => ?_, fun y => ?_⟩, F4⟩
        · rw [up3_j (by decide), up3_s]
          show nI kd = nI (if kd = 2 ∧ _ then 4 else kd)
          rw [if_neg (fun y => by omega)]
        · rw [up3_s]; exact hv
        · have y : kd = 3 := y
          omega
        · have y : kd = 2 := y
          omega
      rcases h' with ⟨rfl, h1⟩ | ⟨rfl, h1⟩
      · have eK : nxK t k e s = 4 := by unfold nxK; rw [if_pos ⟨h1.1, by omega, h1.2⟩]
        exact w_nx152_1 hn c1 c2 ht q20 hEb.2.1 q19 hEb.1 (fun y => fin 4 _ eK (Or.inr rfl) (by rw [if_pos y])) (fun y => fin 4 _ eK (Or.inr rfl) (by rw [if_neg y]; rfl))
      · have eK : nxK t k e s = 1 := by unfold nxK; rw [if_neg (fun y => h1 ⟨y.1, y.2.2⟩)]; exact z.2
        exact w_nx152_0 hn c1 c2 ht q20 hEb.2.1 q19 hEb.1 (fun y => fin 1 _ eK (Or.inl rfl) (by rw [if_pos y])) (fun y => fin 1 _ eK (Or.inl rfl) (by rw [if_neg y]; rfl))
    have hDig : ∀ tg' : Int32, (tg' = 1 ∧ ((k = 1 ∨ k = 2) ∧ s = e) ∨ tg' = 0 ∧ ¬ ((k = 1 ∨ k = 2) ∧ s = e)) → (s < n ∧ fm (t s) = 2) → am_WP ((mX8_nextToken, 214, [some (.inr (.inr (some (8, 0)))), some (.inl tg'), some (.inl (nI e))], []) :: g :: gs) (d + 2) (mk (up3 (up3 I1 8 0 19 (nI s)) 8 0 22 0) X) Q := fun tg' h' z => by
      have hE3 := hE2 (by omega) z.1
      rw [z.2] at hE3
      have hEb := hE z.1
      refine l_nx214 (st := s) hn ht (n - s) s _ (by omega) (Nat.le_refl _) (by rw [up3_j (by decide), up3_j (by decide)]; exact g18) gb (by rw [up3_j (by decide), up3_j (by decide)]; exact g20) (by rw [up3_j (by decide)]; exact up3_s) (by rw [Nat.sub_self, up3_s]; rfl) (fun I2 p2 => ?_)
      rw [hE3] at p2
      obtain ⟨q20, q19, q22, F2⟩ := p2
      have F3 : FrA8 I I2 := FrA8_t (FrA8_3 (FrA8_3 F1 (by decide)) (by decide)) F2
      have fin : ∀ (kd tk : Nat), nxK t k e s = kd → (kd = 2 ∨ kd = 4) → tkM (kd, s, nxE t n s) = tk → am_WP (am_psh g none :: gs) (d + 3) (mk (up3 I2 8 0 21 (nI tk)) X) Q := fun kd tk eK hkd hv => by
        rw [hT z.1, eK] at K
        have F4 : FrA8 I (up3 I2 8 0 21 (nI tk)) := FrA8_3 F3 (by decide)
        obtain ⟨c1, c2⟩ := nx8_c h18 hb F4
        refine K _ ⟨⟨c1, c2, by rw [up3_j (by decide)]; exact q19, by rw [up3_j (by decide)]; exact q20, ?_, fun y => ?_, fun y => ?_, fun _ y => ?_⟩, F4⟩
        · rw [up3_s, hv]
        · have y : kd = 1 := y
          omega
        · have y : kd = 3 := y
          omega
        · have y : nxE t n s - s ≤ 4 := y
          rw [up3_j (by decide), q22, show min (nxE t n s - s) 4 = nxE t n s - s by omega]
      rcases h' with ⟨rfl, h1⟩ | ⟨rfl, h1⟩
      · have eK : nxK t k e s = 4 := by unfold nxK; rw [if_pos ⟨h1.1, by omega, h1.2⟩]
        exact w_nx282_1 q20 (by omega) q19 hEb.1 (fin 4 4 eK (Or.inr rfl) rfl)
      · have eK : nxK t k e s = 2 := by unfold nxK; rw [if_neg (fun y => h1 ⟨y.1, y.2.2⟩)]; exact z.2
        exact w_nx282_0 q20 (by omega) q19 hEb.1 (fun y => fin 2 2 eK (Or.inl rfl) (if_neg (fun w => by have w2 : 4 < nxE t n s - s := w.2; omega))) (fun y => fin 2 4 eK (Or.inl rfl) (if_pos ⟨rfl, by show 4 < nxE t n s - s; omega⟩))
    rcases htg with ⟨rfl, h1⟩ | ⟨rfl, h1⟩
    · exact w_nx72_1 hn g18 gb ht g20 hS.2 (by omega) (fun _ y => hEnd y) (fun _ a b c => hSig a b c) (fun y a b c => hDig 1 (Or.inl ⟨rfl, h1, y.symm⟩) c) (fun y a b => hLet 1 (Or.inl ⟨rfl, h1, y.symm⟩) b) (fun _ y => hEnd y) (fun _ a b c => hSig a b c) (fun y a b c => hDig 0 (Or.inr ⟨rfl, fun w => y w.2.symm⟩) c) (fun y a b => hLet 0 (Or.inr ⟨rfl, fun w => y w.2.symm⟩) b)
    · exact w_nx72_0 hn g18 gb ht g20 hS.2 (by omega) (fun y => hEnd y) (fun a b c => hSig a b c) (fun a b c => hDig 0 (Or.inr ⟨rfl, fun w => h1 w.1⟩) c) (fun a b => hLet 0 (Or.inr ⟨rfl, fun w => h1 w.1⟩) b)
  exact w_X8_nextToken hk (by omega) hke h20 h21 (fun z => main 0 (Or.inr ⟨rfl, fun y => absurd (hke y) (by omega)⟩)) (fun _ z => main 1 (Or.inl ⟨rfl, Or.inl z⟩)) (fun _ _ z => main 1 (Or.inl ⟨rfl, Or.inr z⟩)) (fun _ z1 z2 => main 0 (Or.inr ⟨rfl, fun y => y.elim z1 z2⟩))
