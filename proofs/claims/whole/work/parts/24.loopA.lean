theorem l_X8_gripsFrom {I X g gs d Q} {k l : Nat} (hk : k < 8) : ∀ (n i : Nat) (sm : Int32), i + n = 6 → am_WP (am_psh g (some (.inl (sm + sumG (grS (mB (I 30 0) k)) i n))) :: gs) (d + 3) (mk I X) Q →
    am_WP ((mX8_gripsFrom, 5, [some (.inr (.inr (some (8, 0)))), some (.inl (nI k)), some (.inl (nI l)), some (.inl sm), some (.inl (nI i))], []) :: g :: gs) (d + 2) (mk I X) Q
  | 0, i, sm, h, K => w_X8_gripsFrom_5 hk (by omega) (fun _ => K_v (by simp [sumG]) K) (fun hn => absurd hn (by omega))
  | n + 1, i, sm, h, K => w_X8_gripsFrom_5 hk (by omega) (fun hn => absurd hn (by omega)) (fun _ => by
      rw [nI_s]
      exact l_X8_gripsFrom hk n (i + 1) _ (by omega) (K_v (by simp [sumG, Int32.add_assoc]) K))
theorem c_X8_gripsFrom {I X d} {k l : Nat} (hk : k < 8) (hl : l ≤ 6) : Rt mX8_gripsFrom [.inr (.inr (some (8, 0))), .inl (nI k), .inl (nI l)] (d + 2) (mk I X) (some (.inl (gfS (mB (I 30 0) k) l))) (mk I X) := fun g gs Q K =>
  w_X8_gripsFrom hk (l_X8_gripsFrom hk (6 - l) l 0 (by omega) (K_v (by simp [gfS]) K))
/-! the class -/
theorem mx0 {a m : Nat} (hm : m < 2 ^ 30) (ha : a < 2 ^ 30) : (if nI a - nI m < 0 then (0 : Int32) else nI a - nI m) = nI (a - m) := by
  by_cases h : a < m
  · rw [if_pos (nI_neg hm h), show a - m = 0 by omega]; rfl
  · rw [pk_sub (by omega), if_neg (nI_pos (by omega))]
theorem c_X0_grips {I X d} {q l : Nat} {β : Bn} (h : RB (cB I q) β) (hg : GB β) (hl : l < 6) : Rt mX0_grips [.inr (.inr (some (0, q))), .inl (nI l)] d (mk I X) (some (.inl (nI (grN β l)))) (mk I X) := fun g gs Q K => by
  obtain ⟨g0, g1, g2, g3, g5, gs'⟩ := id hg
  have e0 : I 0 q 2 = nI (β.1 0) := (h 0 (by omega)).1
  have e5 : I 0 q 7 = nI (β.1 5) := (h 5 (by omega)).1
  have el : I 17 q l = nI (β.2.2 l) := (h l hl).2.2
  have hh := (gs' l hl).2
  have hv : (if (I 17 q l - 3 * I 0 q 7) < 0 then 0 else (I 17 q l - 3 * I 0 q 7)) = nI (β.2.2 l - 3 * β.1 5) := by
    rw [el, e5, show (3 : Int32) * nI (β.1 5) = nI (3 * β.1 5) from pk_mul 3 _]
    exact mx0 (by omega) (by omega)
  have q2 : I 0 q 2 = (2 : Int32) ↔ β.1 0 = 2 := eqv 2 e0 (by omega) (by decide)
  have q3 : I 0 q 2 = (3 : Int32) ↔ β.1 0 = 3 := eqv 3 e0 (by omega) (by decide)
  have q4 : I 0 q 2 = (4 : Int32) ↔ β.1 0 = 4 := eqv 4 e0 (by omega) (by decide)
  have q5 : I 0 q 2 = (5 : Int32) ↔ β.1 0 = 5 := eqv 5 e0 (by omega) (by decide)
  refine w_X0_grips rfl (nI_clamp (by omega)) hl (fun h2 => K_v ?_ K) (fun h2 h3 => K_v ?_ K) (fun h2 h3 h4 => K_v ?_ K) (fun h2 h3 h4 h5 => K_v ?_ K) (fun h2 h3 h4 h5 => K_v ?_ K)
  · rw [hv]; unfold grN; rw [if_pos (q2.mp h2)]; exact (nI_add _ 3).symm
  · rw [hv]; unfold grN; rw [if_neg (fun z => h2 (q2.mpr z)), if_pos (q3.mp h3)]; exact (mx0 (m := 4) (by decide) (by omega)).symm
  · rw [hv]; unfold grN; rw [if_neg (fun z => h2 (q2.mpr z)), if_neg (fun z => h3 (q3.mpr z)), if_pos (q4.mp h4)]; exact (nI_add _ 4).symm
  · rw [hv]; unfold grN; rw [if_neg (fun z => h2 (q2.mpr z)), if_neg (fun z => h3 (q3.mpr z)), if_neg (fun z => h4 (q4.mpr z)), if_pos (q5.mp h5)]; exact (pk_div (d := 2) (by omega) (by decide) (by decide)).symm
  · rw [hv]; unfold grN; rw [if_neg (fun z => h2 (q2.mpr z)), if_neg (fun z => h3 (q3.mpr z)), if_neg (fun z => h4 (q4.mpr z)), if_neg (fun z => h5 (q5.mpr z))]
theorem s93 (y : Int32) : (93 : Int32) - y = 99 - y - 6 := by
  rw [Int32.sub_eq_add_neg, Int32.sub_eq_add_neg (99 - y), Int32.sub_eq_add_neg 99 y, Int32.add_assoc, Int32.add_comm (-y), ← Int32.add_assoc]
  rfl
theorem c_X7_worthOf {I X d} (k y : Int32) : Rt mX7_worthOf [.inl k, .inl y] d (mk I X) (some (.inl (wrS k y))) (mk I X) := fun g gs Q K => by
  refine w_X7_worthOf (fun h1 => K_v ?_ K) (fun h1 h2 => K_v ?_ K) (fun h1 h2 h3 => K_v ?_ K) (fun h1 h2 h3 h4 => K_v ?_ K) (fun h1 h2 h3 h4 h5 => K_v ?_ K) (fun h1 h2 h3 h4 h5 => K_v ?_ K)
  · unfold wrS; rw [if_pos h1]
  · unfold wrS; rw [if_neg h1, if_pos h2]
  · unfold wrS; rw [if_neg h1, if_neg h2, if_pos h3]
  · unfold wrS; rw [if_neg h1, if_neg h2, if_neg h3, if_pos h4]; exact s93 y
  · unfold wrS; rw [if_neg h1, if_neg h2, if_neg h3, if_neg h4, if_pos h5]
  · unfold wrS; rw [if_neg h1, if_neg h2, if_neg h3, if_neg h4, if_neg h5]
theorem c_X7_within {I X d} (v lo hi : Int32) : Rt mX7_within [.inl v, .inl lo, .inl hi] d (mk I X) (some (.inl (bI (lo ≤ v ∧ v ≤ hi)))) (mk I X) := fun g gs Q K =>
  w_X7_within (fun h => K_v (bI_f (fun z => absurd h (Int32.not_lt.mpr z.1))) K) (fun _ h => K_v (bI_f (fun z => absurd h (Int32.not_lt.mpr z.2))) K) (fun h h2 => K_v (bI_t ⟨Int32.not_lt.mp h, Int32.not_lt.mp h2⟩) K)
