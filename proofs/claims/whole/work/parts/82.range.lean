set_option maxRecDepth 100000 in
set_option maxHeartbeats 4000000 in
theorem w_X4_hasRange {I : Nat → Nat → Nat → Int32} {X : am_Z} {g : am_F} {gs : List am_F} {d : Nat} {Q : Option am_V → am_M → Prop} {q : Nat} {p m : Int32} {r : Ro} (h : RoC I q r) (k0 : (p < 0) → am_WP (am_psh g (some (.inl (0))) :: gs) (d + 1) (mk I X) Q) (k1 : (¬ p < 0) → (m < 0) → am_WP (am_psh g (some (.inl (0))) :: gs) (d + 1) (mk I X) Q) (k2 : (¬ p < 0) → (¬ m < 0) → ((nI r.2.1) < p) → am_WP (am_psh g (some (.inl (0))) :: gs) (d + 1) (mk I X) Q) (k3 : (¬ p < 0) → (¬ m < 0) → (¬ (nI r.2.1) < p) → (((nI r.2.1) - p) < m) → am_WP (am_psh g (some (.inl (0))) :: gs) (d + 1) (mk I X) Q) (k4 : (¬ p < 0) → (¬ m < 0) → (¬ (nI r.2.1) < p) → (¬ ((nI r.2.1) - p) < m) → am_WP (am_psh g (some (.inl (1))) :: gs) (d + 1) (mk I X) Q) : am_WP (am_entry mX4_hasRange [.inr (.inr (some (4, q))), .inl (p), .inl (m)] :: g :: gs) (d) (mk I X) Q := by
  refine am_go 400 ?_
  refine am_if (fun h1 => ?_) (fun h1 => ?_)
  · exact k0 h1
  · refine am_if (fun h2 => ?_) (fun h2 => ?_)
    · exact k1 h1 h2
    · have tk0 : I 4 q 2 = nI r.2.1 := h.2.1
      refine am_if (fun h3 => ?_) (fun h3 => ?_)
      · have h3 : (I 4 q 2) < p := h3
        try rw [tk0] at h3
        exact k2 h1 h2 h3
      · have h3 : ¬ (I 4 q 2) < p := h3
        try rw [tk0] at h3
        refine am_if (fun h4 => ?_) (fun h4 => ?_)
        · have h4 : ((I 4 q 2) - p) < m := h4
          try rw [tk0] at h4
          exact k3 h1 h2 h3 h4
        · have h4 : ¬ ((I 4 q 2) - p) < m := h4
          try rw [tk0] at h4
          exact k4 h1 h2 h3 h4
/-! a stretch of a row -/
abbrev inR (p m : Int32) (n : Nat) : Prop := 0 ≤ p.toInt ∧ 0 ≤ m.toInt ∧ p.toInt + m.toInt ≤ (n : Int)
theorem tI {n : Nat} (h : n < 2 ^ 31) : (nI n).toInt = (n : Int) := Int32.toInt_ofNat_of_lt h
theorem c_X4_hasRange {I : Im} {X d} {q : Nat} {p m : Int32} {r : Ro} (h : RoC I q r) (hz : r.2.1 ≤ 24) : Rt mX4_hasRange [.inr (.inr (some (4, q))), .inl p, .inl m] d (mk I X) (some (.inl (bI (inR p m r.2.1)))) (mk I X) := fun g gs Q K => by
  have l0 : ∀ v : Int32, v < 0 ↔ v.toInt < 0 := fun v => Int32.lt_iff_toInt_lt
  have hn : (nI r.2.1).toInt = (r.2.1 : Int) := tI (by omega)
  have sb : ¬ p < 0 → ¬ nI r.2.1 < p → (nI r.2.1 - p).toInt = (r.2.1 : Int) - p.toInt := fun h0 h2 => by
    have e := nn_nI (Int32.not_lt.mp h0)
    have b := kx_lt p
    have e2 : p.toInt = (kx p : Int) := by have := tI b; rw [← e] at this; exact this
    rw [Int32.lt_iff_toInt_lt, hn, e2] at h2
    rw [nI_subE rfl e (by omega), tI (by omega), e2]
    omega
  refine w_X4_hasRange h (fun h0 => K_v (bI_f ?_) K) (fun h0 h1 => K_v (bI_f ?_) K) (fun h0 h1 h2 => K_v (bI_f ?_) K) (fun h0 h1 h2 h3 => K_v (bI_f ?_) K) (fun h0 h1 h2 h3 => K_v (bI_t ?_) K)
  · rw [l0] at h0; unfold inR; omega
  · rw [l0] at h1; unfold inR; omega
  · rw [l0] at h1; rw [Int32.lt_iff_toInt_lt, hn] at h2; unfold inR; omega
  · have e := sb h0 h2
    rw [Int32.lt_iff_toInt_lt, e] at h3; unfold inR; omega
  · have e := sb h0 h2
    rw [Int32.lt_iff_toInt_lt, e] at h3; rw [l0] at h0 h1; unfold inR; omega
