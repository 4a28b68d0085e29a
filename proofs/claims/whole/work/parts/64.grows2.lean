theorem l_grI {I0 : Im} {X g gs d Q} {b nt : Nat} {tx : Nat → Tx} {β : Bn} {fo : Nat} {v z : Int32} (hC : CxM I0 b nt tx β) (hg : GB β) (hn : nt ≤ 14) (hG : ∀ t, t < nt → GT (tx t)) (hv : v = nI b) (hb : b < 8) (hz : z = nI fo) (hfo : fo ≤ 999) {T : Nat → Nat × Nat} {L n : Nat} (hL : L ≤ 6) (hn6 : n ≤ L) (hn1 : 1 ≤ n) (hgn : gfN β (6 - n) ≤ fo) (hT : ∀ k, k < n → I0 41 0 k = nI (T k).1 ∧ I0 42 0 k = nI (T k).2) (hB : ∀ k, k < n → (T k).1 ≤ 3 * k ∧ (T k).2 ≤ k) : ∀ (m dd a p : Nat) (I : Im) (y1 y2 : Option am_V), dd + m = n + 1 → 1 ≤ dd → a ≤ 18 → p ≤ 6 → Dg n I0 I → I 41 0 n = nI a → I 42 0 n = nI p →
    (∀ I' y1 y2 y3, Dg n I0 I' ∧ I' 41 0 n = nI (dcF (trV (strN nt tx β) (gfN β) fo T n) m dd (a, p)).1 ∧ I' 42 0 n = nI (dcF (trV (strN nt tx β) (gfN β) fo T n) m dd (a, p)).2 → am_WP ((mX8_grows, 39, [some (.inr (.inr (some (8, 0)))), some (.inl v), some (.inl z), some (.inl (nI L)), some (.inl (nI (n + 1))), y1, y2, y3], []) :: g :: gs) (d + 4) (mk I' X) Q) →
    am_WP ((mX8_grows, 56, [some (.inr (.inr (some (8, 0)))), some (.inl v), some (.inl z), some (.inl (nI L)), some (.inl (nI n)), some (.inl (nI dd)), y1, y2], []) :: g :: gs) (d + 4) (mk I X) Q
  | 0, dd, a, p, I, y1, y2, hd, h1, ha, hp, D, h41, h42, K => w_gr_n (CxM_D hC D) hg hn hG hv hb hz hfo hL hn6 hn1 hgn (fun k hk => by rw [(D.2.2 k (by omega)).1, (D.2.2 k (by omega)).2]; exact hT k hk) hB ha hp h1 (by omega) h41 h42 (fun _ => K I _ _ _ ⟨D, h41, h42⟩) (fun h => absurd (by omega) h) (fun h => absurd (by omega) h) (fun h => absurd (by omega) h) (fun h => absurd (by omega) h)
  | m + 1, dd, a, p, I, y1, y2, hd, h1, ha, hp, D, h41, h42, K => by
    have hv' := trV_le (st := strN nt tx β) (gf := gfN β) (fo := fo) (d := dd) hB (by omega) hn1 h1 hgn
    rw [dcF] at K
    have qn : ¬ bts (trV (strN nt tx β) (gfN β) fo T n dd) (a, p) → ∀ I1, Tg I I1 → ∀ y1 y2, am_WP ((mX8_grows, 56, [some (.inr (.inr (some (8, 0)))), some (.inl v), some (.inl z), some (.inl (nI L)), some (.inl (nI n)), some (.inl (nI (dd + 1))), y1, y2], []) :: g :: gs) (d + 4) (mk I1 X) Q := fun q I1 T1 y1 y2 => by
      rw [if_neg q] at K
      exact l_grI hC hg hn hG hv hb hz hfo hL hn6 hn1 hgn hT hB m (dd + 1) a p I1 y1 y2 (by omega) (by omega) ha hp (Dg_T D T1) (by rw [T1.2 41 (by decide) (by decide) (by decide)]; exact h41) (by rw [T1.2 42 (by decide) (by decide) (by decide)]; exact h42) K
    have qp : bts (trV (strN nt tx β) (gfN β) fo T n dd) (a, p) → ∀ I1, Tg I I1 → ∀ y1 y2, am_WP ((mX8_grows, 56, [some (.inr (.inr (some (8, 0)))), some (.inl v), some (.inl z), some (.inl (nI L)), some (.inl (nI n)), some (.inl (nI (dd + 1))), y1, y2], []) :: g :: gs) (d + 4) (mk (up3 (up3 I1 41 0 n (nI (trV (strN nt tx β) (gfN β) fo T n dd).1)) 42 0 n (nI (trV (strN nt tx β) (gfN β) fo T n dd).2)) X) Q := fun q I1 T1 y1 y2 => by
      rw [if_pos q] at K
      exact l_grI hC hg hn hG hv hb hz hfo hL hn6 hn1 hgn hT hB m (dd + 1) _ _ _ y1 y2 (by omega) (by omega) (by omega) (by omega) (Dg_3 (Dg_T D T1)) (show up3 I1 41 0 n _ 41 0 n = _ from up3_s) up3_s K
    refine w_gr_n (CxM_D hC D) hg hn hG hv hb hz hfo hL hn6 hn1 hgn (fun k hk => by rw [(D.2.2 k (by omega)).1, (D.2.2 k (by omega)).2]; exact hT k hk) hB ha hp h1 (by omega) h41 h42 (fun h => absurd h (by omega)) ?_ ?_ ?_ ?_
    · intro _ I1 p1 q1; exact qp (Or.inl q1) I1 p1.1 _ _
    · intro _ I1 p1 q1 q2 q3; exact qn (fun z => by have z : (trV (strN nt tx β) (gfN β) fo T n dd).1 < a ∨ ((trV (strN nt tx β) (gfN β) fo T n dd).1 = a ∧ (trV (strN nt tx β) (gfN β) fo T n dd).2 < p) := z; unfold trV at z; dsimp only at z; omega) I1 p1.1 _ _
    · intro _ I1 p1 q1 q2 q3; exact qp (Or.inr ⟨q2, show 1 + (T _).2 < p by omega⟩) I1 p1.1 _ _
    · intro _ I1 p1 q1 q2; exact qn (fun z => by have z : (trV (strN nt tx β) (gfN β) fo T n dd).1 < a ∨ ((trV (strN nt tx β) (gfN β) fo T n dd).1 = a ∧ (trV (strN nt tx β) (gfN β) fo T n dd).2 < p) := z; unfold trV at z; dsimp only at z; omega) I1 p1.1 _ _
theorem l_grO {I0 : Im} {X g gs d Q} {b nt : Nat} {tx : Nat → Tx} {β : Bn} {fo : Nat} {v z : Int32} (hC : CxM I0 b nt tx β) (hg : GB β) (hn : nt ≤ 14) (hG : ∀ t, t < nt → GT (tx t)) (hv : v = nI b) (hb : b < 8) (hz : z = nI fo) (hfo : fo ≤ 999) {L : Nat} (hL : L ≤ 6) (hgn : ∀ k, 1 ≤ k → k ≤ L → gfN β (6 - k) ≤ fo) : ∀ (m k : Nat) (I : Im) (y1 y2 y3 : Option am_V), k + 1 + m = L + 1 → Gf I0 I → (∀ j, j < k + 1 → I 41 0 j = nI (trT (strN nt tx β) (gfN β) fo k j).1 ∧ I 42 0 j = nI (trT (strN nt tx β) (gfN β) fo k j).2) →
    (∀ I', Gf I0 I' ∧ (∀ j, j < L + 1 → I' 41 0 j = nI (trT (strN nt tx β) (gfN β) fo L j).1 ∧ I' 42 0 j = nI (trT (strN nt tx β) (gfN β) fo L j).2) → am_WP (am_psh g (some (.inl 1)) :: gs) (d + 5) (mk I' X) Q) →
    am_WP ((mX8_grows, 39, [some (.inr (.inr (some (8, 0)))), some (.inl v), some (.inl z), some (.inl (nI L)), some (.inl (nI (k + 1))), y1, y2, y3], []) :: g :: gs) (d + 4) (mk I X) Q
  | 0, k, I, y1, y2, y3, hk, E, hT, K => by
    have e : k = L := by omega
    subst e
    exact w_X8_grows_39 hL (by omega) (fun _ => K I ⟨E, hT⟩) (fun h => absurd (by omega) h)
  | m + 1, k, I, y1, y2, y3, hk, E, hT, K => by
    have hB := trT_le (st := strN nt tx β) (gf := gfN β) (fo := fo) k (by omega) (fun j a b => hgn j a (by omega))
    refine w_X8_grows_39 hL (by omega) (fun h => absurd h (by omega)) (fun _ => ?_)
    have hgk := hgn (k + 1) (by omega) (by omega)
    have D0 : Dg (k + 1) I (up3 I 41 0 (k + 1) (-1)) := Dg_1
    have hC1 := CxM_G hC E
    have hv' := trV_le (st := strN nt tx β) (gf := gfN β) (fo := fo) (d := 1) (n := k + 1) (T := trT (strN nt tx β) (gfN β) fo k) (fun j hj => hB j (by omega)) (by omega) (by omega) (Nat.le_refl _) hgk
    refine w_gr_1 (CxM_D hC1 D0) hg hn hG hv hb hz hfo hL (by omega) (by omega) hgk (T := trT (strN nt tx β) (gfN β) fo k) (fun j hj => ⟨by rw [up3_j (by omega)]; exact (hT j hj).1, (hT j hj).2⟩) (fun j hj => hB j (by omega)) up3_s (fun I1 p1 => ?_)
    refine l_grI (I0 := I) hC1 hg hn hG hv hb hz hfo hL (by omega) (by omega) hgk (T := trT (strN nt tx β) (gfN β) fo k) hT (fun j hj => hB j (by omega)) (k + 1 - 1) 2 _ _ _ _ _ (by omega) (by omega) (show (trV (strN nt tx β) (gfN β) fo (trT (strN nt tx β) (gfN β) fo k) (k + 1) 1).1 ≤ 18 by omega) (show (trV (strN nt tx β) (gfN β) fo (trT (strN nt tx β) (gfN β) fo k) (k + 1) 1).2 ≤ 6 by omega) (Dg_3 (Dg_T D0 p1.1)) (show up3 I1 41 0 (k + 1) _ 41 0 (k + 1) = _ from up3_s) up3_s ?_
    intro I2 y1 y2 y3 p2
    refine l_grO hC hg hn hG hv hb hz hfo hL hgn m (k + 1) I2 y1 y2 y3 (by omega) (Gf_D E p2.1) (fun j hj => ?_) K
    by_cases e : j = k + 1
    · subst e
      rw [show trT (strN nt tx β) (gfN β) fo (k + 1) (k + 1) = trD (strN nt tx β) (gfN β) fo (trT (strN nt tx β) (gfN β) fo k) (k + 1) by rw [trT]; exact fu_s]
      exact p2.2
    · rw [trT_s (by omega), (p2.1.2.2 j e).1, (p2.1.2.2 j e).2]
      exact hT j (by omega)
theorem c_X8_grows {I X d} {b nt : Nat} {tx : Nat → Tx} {β : Bn} {fo : Nat} {v z : Int32} (hC : CxM I b nt tx β) (hg : GB β) (hn : nt ≤ 14) (hG : ∀ t, t < nt → GT (tx t)) (hv : v = nI b) (hb : b < 8) (hz : z = nI fo) (hfo : fo ≤ 999) : Sw mX8_grows [.inr (.inr (some (8, 0))), .inl v, .inl z] (d + 4) I X (some (.inl (bI (¬ (0 < β.1 3 ∧ fo < gfN β (6 - β.1 3)))))) (fun I' => Gf I I' ∧ (¬ (0 < β.1 3 ∧ fo < gfN β (6 - β.1 3)) → ∀ j, j < β.1 3 + 1 → I' 41 0 j = nI (trT (strN nt tx β) (gfN β) fo (β.1 3) j).1 ∧ I' 42 0 j = nI (trT (strN nt tx β) (gfN β) fo (β.1 3) j).2)) := fun g gs Q K => by
  have hL : β.1 3 ≤ 6 := hg.2.2.2.1
  have go : ¬ (0 < β.1 3 ∧ fo < gfN β (6 - β.1 3)) → am_WP ((mX8_grows, 39, [some (.inr (.inr (some (8, 0)))), some (.inl v), some (.inl z), some (.inl (nI (β.1 3))), some (.inl (nI (0 + 1))), none, none, none], []) :: g :: gs) (d + 4) (mk (up3 (up3 I 41 0 0 0) 42 0 0 0) X) Q := fun hh => by
    rw [bI_t hh] at K
    have E0 : Gf I (up3 (up3 I 41 0 0 0) 42 0 0 0) := ⟨fun _ _ _ => rfl, fun g a b c e f => by rw [up3_g c, up3_g b]⟩
    refine l_grO hC hg hn hG hv hb hz hfo hL (fun k a b => Nat.le_trans (gfN_m6 hL k b) (by omega)) (β.1 3) 0 _ none none none (by omega) E0 (fun j hj => ?_) (fun I' p => K I' ⟨p.1, fun _ => p.2⟩)
    rw [show j = 0 by omega]
    exact ⟨rfl, rfl⟩
  refine w_X8_grows hC hg hn hG hv hb hz hfo ?_ ?_ ?_
  · intro h1; exact go (fun z => by omega)
  · intro h1 h2; exact go (fun z => by omega)
  · intro h1 h2
    rw [bI_f (fun z => z ⟨by omega, by omega⟩)] at K
    exact K I ⟨Gf_r, fun z => absurd ⟨by omega, by omega⟩ z⟩
