theorem l_X8_gripsFrom {I X g gs d Q} {k l : Nat} (hk : k < 8) : ∀ (n i : Nat) (sm : Int32), i + n = 6 → am_WP (am_psh g (some (.inl (sm + sumG (grS (mB (I 30 0) k)) i n))) :: gs) (d + 3) (mk I X) Q →
    am_WP ((mX8_gripsFrom, 5, [some (.inr (.inr (some (8, 0)))), some (.inl (nI k)), some (.inl (nI l)), some (.inl sm), some (.inl (nI i))], []) :: g :: gs) (d + 2) (mk I X) Q
  | 0, i, sm, h, K => w_X8_gripsFrom_5 hk (by omega) (fun _ => K_v (by simp [sumG]) K) (fun hn => absurd hn (by omega))
  | n + 1, i, sm, h, K => w_X8_gripsFrom_5 hk (by omega) (fun hn => absurd hn (by omega)) (fun _ => by
      rw [nI_s]
      exact l_X8_gripsFrom hk n (i + 1) _ (by omega) (K_v (by simp [sumG, Int32.add_assoc]) K))
theorem c_X8_gripsFrom {I X d} {k l : Nat} (hk : k < 8) (hl : l ≤ 6) : Rt mX8_gripsFrom [.inr (.inr (some (8, 0))), .inl (nI k), .inl (nI l)] (d + 2) (mk I X) (some (.inl (gfS (mB (I 30 0) k) l))) (mk I X) := fun g gs Q K =>
  w_X8_gripsFrom hk (l_X8_gripsFrom hk (6 - l) l 0 (by omega) (K_v (by simp [gfS]) K))
