def Df (n : Nat) (I0 I : Im) : Prop := (∀ j, j ≠ 5 → j ≠ 6 → I 2 0 j = I0 2 0 j) ∧ (∀ g, g ≠ 2 → g ≠ 21 → g ≠ 22 → I g = I0 g) ∧ ∀ j, j ≠ n → I 21 0 j = I0 21 0 j ∧ I 22 0 j = I0 22 0 j
theorem Df_T {n I0 I I'} (h : Df n I0 I) (T : Tf I I') : Df n I0 I' := ⟨fun j a b => (T.1 j a b).trans (h.1 j a b), fun g a b c => (T.2 g a).trans (h.2.1 g a b c), fun j hj => by rw [T.2 21 (by decide), T.2 22 (by decide)]; exact h.2.2 j hj⟩
theorem Df_3 {n I0 I v w} (h : Df n I0 I) : Df n I0 (up3 (up3 I 21 0 n v) 22 0 n w) := ⟨fun j a b => h.1 j a b, fun g a b c => by rw [up3_g c, up3_g b]; exact h.2.1 g a b c, fun j hj => ⟨(show up3 I 21 0 n v 21 0 j = _ from up3_j hj).trans (h.2.2 j hj).1, (show up3 (up3 I 21 0 n v) 22 0 n w 22 0 j = _ from up3_j hj).trans (h.2.2 j hj).2⟩⟩
theorem NkR_D {n I0 I st gf L} (h : NkR I0 st gf L) (D : Df n I0 I) : NkR I st gf L := ⟨(D.1 4 (by decide) (by decide)).trans h.1, by rw [D.2.1 19 (by decide) (by decide) (by decide)]; exact h.2.1, by rw [D.2.1 20 (by decide) (by decide) (by decide)]; exact h.2.2⟩
theorem l_dec {I0 : Im} {X g gs d Q} {st gf : Nat → Nat} {T : Nat → Nat × Nat} {L n fo : Nat} {x z : Int32} (hN : NkR I0 st gf L) (hst : ∀ l, l < 6 → st l ≤ 105) (hgf : ∀ l, gf l ≤ 168) (hx : x = nI n) (hz : z = nI fo) (hL : L ≤ 6) (hn : n ≤ L) (hn1 : 1 ≤ n) (hfo : fo ≤ 999) (hgn : gf (6 - n) ≤ fo) (hT : ∀ k, k < n → I0 21 0 k = nI (T k).1 ∧ I0 22 0 k = nI (T k).2) (hB : ∀ k, k < n → (T k).1 ≤ 3 * k ∧ (T k).2 ≤ k) : ∀ (m dd a b : Nat) (I : Im) (y1 y2 y3 : Option am_V), dd + m = n + 1 → 1 ≤ dd → a ≤ 18 → b ≤ 6 → Df n I0 I → I 21 0 n = nI a → I 22 0 n = nI b →
    (∀ I', Df n I0 I' ∧ I' 21 0 n = nI (dcF (trV st gf fo T n) m dd (a, b)).1 ∧ I' 22 0 n = nI (dcF (trV st gf fo T n) m dd (a, b)).2 → am_WP (am_psh g none :: gs) (d + 2) (mk I' X) Q) →
    am_WP ((mX2_decide, 10, [some (.inr (.inr (some (2, 0)))), some (.inl x), some (.inl z), some (.inl (nI dd)), y1, y2, y3], []) :: g :: gs) (d + 1) (mk I X) Q
  | 0, dd, a, b, I, y1, y2, y3, hd, h1, ha, hb, D, h21, h22, K => w_dec_n (NkR_D hN D) hst hgf hx hz hL hn hn1 hfo hgn (fun k hk => by rw [(D.2.2 k (by omega)).1, (D.2.2 k (by omega)).2]; exact hT k hk) hB ha hb h1 (by omega) h21 h22 (fun _ => K I ⟨D, h21, h22⟩) (fun h => absurd (by omega) h) (fun h => absurd (by omega) h) (fun h => absurd (by omega) h) (fun h => absurd (by omega) h)
  | m + 1, dd, a, b, I, y1, y2, y3, hd, h1, ha, hb, D, h21, h22, K => by
    have hv := trV_le (st := st) (gf := gf) (fo := fo) (d := dd) hB (by omega) hn1 h1 hgn
    rw [dcF] at K
    have qn : ¬ bts (trV st gf fo T n dd) (a, b) → ∀ I1, Tf I I1 → ∀ y1 y2 y3, am_WP ((mX2_decide, 10, [some (.inr (.inr (some (2, 0)))), some (.inl x), some (.inl z), some (.inl (nI (dd + 1))), y1, y2, y3], []) :: g :: gs) (d + 1) (mk I1 X) Q := fun p I1 T1 y1 y2 y3 => by
      rw [if_neg p] at K
      exact l_dec hN hst hgf hx hz hL hn hn1 hfo hgn hT hB m (dd + 1) a b I1 y1 y2 y3 (by omega) (by omega) ha hb (Df_T D T1) (by rw [T1.2 21 (by decide)]; exact h21) (by rw [T1.2 22 (by decide)]; exact h22) K
    have qp : bts (trV st gf fo T n dd) (a, b) → ∀ I1, Tf I I1 → ∀ y1 y2 y3, am_WP ((mX2_decide, 10, [some (.inr (.inr (some (2, 0)))), some (.inl x), some (.inl z), some (.inl (nI (dd + 1))), y1, y2, y3], []) :: g :: gs) (d + 1) (mk (up3 (up3 I1 21 0 n (nI (trV st gf fo T n dd).1)) 22 0 n (nI (trV st gf fo T n dd).2)) X) Q := fun p I1 T1 y1 y2 y3 => by
      rw [if_pos p] at K
      exact l_dec hN hst hgf hx hz hL hn hn1 hfo hgn hT hB m (dd + 1) _ _ _ y1 y2 y3 (by omega) (by omega) (by omega) (by omega) (Df_3 (Df_T D T1)) (show up3 I1 21 0 n _ 21 0 n = _ from up3_s) up3_s K
    refine w_dec_n (NkR_D hN D) hst hgf hx hz hL hn hn1 hfo hgn (fun k hk => by rw [(D.2.2 k (by omega)).1, (D.2.2 k (by omega)).2]; exact hT k hk) hB ha hb h1 (by omega) h21 h22 (fun h => absurd h (by omega)) ?_ ?_ ?_ ?_
    · intro _ I1 p1 q1 q2 q3; exact qn (fun z => by have z : (trV st gf fo T n dd).1 < a ∨ ((trV st gf fo T n dd).1 = a ∧ (trV st gf fo T n dd).2 < b) := z; unfold trV at z; dsimp only at z; omega) I1 p1.1 _ _ _
    · intro _ I1 p1 q1 q2 q3; exact qp (Or.inr ⟨q2, show 1 + (T _).2 < b by omega⟩) I1 p1.1 _ _ _
    · intro _ I1 p1 q1 q2; exact qn (fun z => by have z : (trV st gf fo T n dd).1 < a ∨ ((trV st gf fo T n dd).1 = a ∧ (trV st gf fo T n dd).2 < b) := z; unfold trV at z; dsimp only at z; omega) I1 p1.1 _ _ _
    · intro _ I1 p1 q1; exact qp (Or.inl q1) I1 p1.1 _ _ _
theorem c_X2_decide {I X d} {st gf : Nat → Nat} {T : Nat → Nat × Nat} {L n fo : Nat} {x z : Int32} (hN : NkR I st gf L) (hst : ∀ l, l < 6 → st l ≤ 105) (hgf : ∀ l, gf l ≤ 168) (hx : x = nI n) (hz : z = nI fo) (hL : L ≤ 6) (hn : n ≤ L) (hn1 : 1 ≤ n) (hfo : fo ≤ 999) (hgn : gf (6 - n) ≤ fo) (hT : ∀ k, k < n → I 21 0 k = nI (T k).1 ∧ I 22 0 k = nI (T k).2) (hB : ∀ k, k < n → (T k).1 ≤ 3 * k ∧ (T k).2 ≤ k) : Sw mX2_decide [.inr (.inr (some (2, 0))), .inl x, .inl z] (d + 1) I X none (fun I' => Df n I I' ∧ I' 21 0 n = nI (trD st gf fo T n).1 ∧ I' 22 0 n = nI (trD st gf fo T n).2) := fun g gs Q K => by
  have D0 : Df n I (up3 I 21 0 n (-1000000005)) := ⟨fun _ _ _ => rfl, fun g a b c => up3_g b, fun j hj => ⟨up3_j hj, rfl⟩⟩
  have hv := trV_le (st := st) (gf := gf) (fo := fo) (d := 1) hB (by omega) hn1 (Nat.le_refl _) hgn
  have hT' : ∀ k, k < n → up3 I 21 0 n (-1000000005) 21 0 k = nI (T k).1 ∧ up3 I 21 0 n (-1000000005) 22 0 k = nI (T k).2 := fun k hk => ⟨by rw [up3_j (by omega)]; exact (hT k hk).1, (hT k hk).2⟩
  refine w_X2_decide hx (by omega) (w_dec_1 (NkR_D hN D0) hst hgf hx hz hL hn hn1 hfo hgn hT' hB up3_s (fun I1 p1 => ?_))
  exact l_dec hN hst hgf hx hz hL hn hn1 hfo hgn hT hB (n - 1) 2 _ _ _ _ _ _ (by omega) (by omega) (show (trV st gf fo T n 1).1 ≤ 18 by omega) (show (trV st gf fo T n 1).2 ≤ 6 by omega) (Df_3 (Df_T D0 p1.1)) (show up3 I1 21 0 n _ 21 0 n = _ from up3_s) up3_s K
def Ef (I0 I : Im) : Prop := (∀ j, j ≠ 5 → j ≠ 6 → I 2 0 j = I0 2 0 j) ∧ (∀ g, g ≠ 2 → g ≠ 21 → g ≠ 22 → I g = I0 g) ∧ I 21 0 0 = I0 21 0 0 ∧ I 22 0 0 = I0 22 0 0
theorem Ef_D {n I0 I I'} (h : Ef I0 I) (D : Df n I I') (hn : 1 ≤ n) : Ef I0 I' := ⟨fun j a b => (D.1 j a b).trans (h.1 j a b), fun g a b c => (D.2.1 g a b c).trans (h.2.1 g a b c), (D.2.2 0 (by omega)).1.trans h.2.2.1, (D.2.2 0 (by omega)).2.trans h.2.2.2⟩
theorem Ef_r {I} : Ef I I := ⟨fun _ _ _ => rfl, fun _ _ _ _ => rfl, rfl, rfl⟩
theorem NkR_E {I0 I st gf L} (h : NkR I0 st gf L) (D : Ef I0 I) : NkR I st gf L := ⟨(D.1 4 (by decide) (by decide)).trans h.1, by rw [D.2.1 19 (by decide) (by decide) (by decide)]; exact h.2.1, by rw [D.2.1 20 (by decide) (by decide) (by decide)]; exact h.2.2⟩
theorem NkC_E {I0 I} (h : NkC I0) (D : Ef I0 I) : NkC I := ⟨by rw [D.2.1 20 (by decide) (by decide) (by decide)]; exact h.1, D.2.2.1.trans h.2.1, D.2.2.2.trans h.2.2⟩
theorem FrN_E {I I1 I2} (F : FrN I I1) (D : Ef I1 I2) : FrN I I2 := fun g hg => (D.2.1 g (fun e => hg (by omega)) (fun e => hg (by omega)) (fun e => hg (by omega))).trans (F g hg)
set_option maxRecDepth 100000 in
set_option maxHeartbeats 4000000 in
theorem w_X2_fewestCrumbs {I : Nat → Nat → Nat → Int32} {X : am_Z} {g : am_F} {gs : List am_F} {d : Nat} {Q : Option am_V → am_M → Prop} {st gf : Nat → Nat} {L fo : Nat} {z : Int32} (hN : NkR I st gf L) (hst : ∀ l, l < 6 → st l ≤ 105) (hgf : ∀ l, gf l ≤ 168) (hz : z = nI fo) (hL : L ≤ 6) (hfo : fo ≤ 999)  (k0 : (L ≤ 0) → am_WP ((mX2_fewestCrumbs, 28, [some (.inr (.inr (some (2, 0)))), some (.inl (z)), some (.inl (1))], []) :: g :: gs) (d + 2) (mk I X) Q) (k1 : (¬ (L ≤ 0)) → ((gf (6 - L)) ≤ fo) → am_WP ((mX2_fewestCrumbs, 28, [some (.inr (.inr (some (2, 0)))), some (.inl (z)), some (.inl (1))], []) :: g :: gs) (d + 2) (mk I X) Q) (k2 : (¬ (L ≤ 0)) → (¬ ((gf (6 - L)) ≤ fo)) → am_WP (am_psh g (some (.inl ((-1000000005)))) :: gs) (d + 3) (mk I X) Q) : am_WP (am_entry mX2_fewestCrumbs [.inr (.inr (some (2, 0))), .inl (z)] :: g :: gs) (d + 2) (mk I X) Q := by
  refine am_go 400 ?_
  have tk0 : I 2 0 4 = nI L := hN.1
  refine am_if (fun h1 => ?_) (fun h1 => ?_)
  · have nh1 := (le_nat (a := L) (b := 0) tk0 (rfl : (0 : Int32) = nI 0) (by omega) (by omega)).mp h1
    refine am_cf rfl ?_
    refine am_cut ?_
    refine am_go 2 ?_
    exact k0 nh1
  · have nh1 := mt (le_nat (a := L) (b := 0) tk0 (rfl : (0 : Int32) = nI 0) (by omega) (by omega)).mpr h1
    refine am_f (ix_in (n := (6 - L)) (N := 7) (nI_subE (rfl : (6 : Int32) = nI 6) tk0 (by omega)) (by omega) (by decide)) ?_
    have tk1 : ((6 - (I 2 0 4))).toNatClampNeg = (6 - L) := by first | exact ix_cl (n := (6 - L)) (nI_subE (rfl : (6 : Int32) = nI 6) tk0 (by omega)) (by omega) | (((try rw [tk0])); first | done | exact ix_cl (n := (6 - L)) (nI_subE (rfl : (6 : Int32) = nI 6) tk0 (by omega)) (by omega))
    have bd : (gf (6 - L)) ≤ 168 := hgf _
    have tk2 : I 20 0 ((((6 - (I 2 0 4))).toNatClampNeg)) = nI (gf (6 - L)) := by first | exact hN.2.2 _ (by omega) (by omega) | (((try rw [tk1]); (try rw [tk0])); first | done | exact hN.2.2 _ (by omega) (by omega))
    refine am_if (fun h2 => ?_) (fun h2 => ?_)
    · have nh2 := (le_nat (a := (gf (6 - L))) (b := fo) tk2 hz (by omega) (by omega)).mp h2
      refine am_cf rfl ?_
      refine am_cut ?_
      refine am_go 2 ?_
      exact k1 nh1 nh2
    · have nh2 := mt (le_nat (a := (gf (6 - L))) (b := fo) tk2 hz (by omega) (by omega)).mpr h2
      exact k2 nh1 nh2
set_option maxRecDepth 100000 in
set_option maxHeartbeats 4000000 in
theorem w_X2_fewestCrumbs_28 {I : Nat → Nat → Nat → Int32} {X : am_Z} {g : am_F} {gs : List am_F} {d : Nat} {Q : Option am_V → am_M → Prop} {st gf : Nat → Nat} {L fo : Nat} {z : Int32} (hN : NkR I st gf L) (hst : ∀ l, l < 6 → st l ≤ 105) (hgf : ∀ l, gf l ≤ 168) (hz : z = nI fo) (hL : L ≤ 6) (hfo : fo ≤ 999) {T : Nat → Nat × Nat} {k : Nat} (hk1 : 1 ≤ k) (hk : k ≤ L + 1) (hgn : ∀ k, 1 ≤ k → k ≤ L → gf (6 - k) ≤ fo) (hT : ∀ j, j < k → I 21 0 j = nI (T j).1 ∧ I 22 0 j = nI (T j).2) (hB : ∀ j, j < k → (T j).1 ≤ 3 * j ∧ (T j).2 ≤ j) (k0 : (L < k) → am_WP (am_psh g (some (.inl ((nI (T L).1)))) :: gs) (d + 3) (mk I X) Q) (k1 : (¬ (L < k)) → ∀ (I1 : Im), (Df k I I1 ∧ I1 21 0 k = nI (trD st gf fo T k).1 ∧ I1 22 0 k = nI (trD st gf fo T k).2) → am_WP ((mX2_fewestCrumbs, 28, [some (.inr (.inr (some (2, 0)))), some (.inl (z)), some (.inl ((nI (k + 1))))], []) :: g :: gs) (d + 2) (mk I1 X) Q) : am_WP ((mX2_fewestCrumbs, 28, [some (.inr (.inr (some (2, 0)))), some (.inl (z)), some (.inl (nI k))], []) :: g :: gs) (d + 2) (mk I X) Q := by
  refine am_go 400 ?_
  have tk0 : I 2 0 4 = nI L := hN.1
  refine am_if (fun h1 => ?_) (fun h1 => ?_)
  · have nh1 := (lt_nat (a := L) (b := k) tk0 (rfl : (nI k : Int32) = nI k) (by omega) (by omega)).mp h1
    refine am_f (ix_in (n := L) (N := 7) tk0 (by omega) (by decide)) ?_
    have tk1 : ((I 2 0 4)).toNatClampNeg = L := by first | exact ix_cl (n := L) tk0 (by omega) | (((try rw [tk0])); first | done | exact ix_cl (n := L) tk0 (by omega))
    have tk2 : I 21 0 ((((I 2 0 4)).toNatClampNeg)) = nI (T L).1 := by first | exact (hT L (by omega)).1 | (((try rw [tk1]); (try rw [tk0])); first | done | exact (hT L (by omega)).1)
    show am_WP (am_psh g (some (.inl ((I 21 0 ((((I 2 0 4)).toNatClampNeg)))))) :: gs) (d + 3) (mk I X) Q
    try rw [tk2]
    try rw [tk1]
    try rw [tk0]
    exact k0 nh1
  · have nh1 := mt (lt_nat (a := L) (b := k) tk0 (rfl : (nI k : Int32) = nI k) (by omega) (by omega)).mpr h1
    refine (c_X2_decide (I := I) (T := T) (L := L) (n := k) (fo := fo) hN hst hgf (rfl : (nI k : Int32) = nI k) hz hL (by omega) (by omega) hfo (hgn _ (by omega) (by omega)) hT hB) _ _ _ ?_
    intro I1 p1
    refine am_go 400 ?_
    have tk3 : (nI k + 1) = nI (k + 1) := (nI_addE rfl (rfl : (1 : Int32) = nI 1))
    show am_WP ((mX2_fewestCrumbs, 28, [some (.inr (.inr (some (2, 0)))), some (.inl (z)), some (.inl (((nI k + 1))))], []) :: g :: gs) (d + 2) (mk I1 X) Q
    try rw [tk3]
    exact k1 nh1 I1 p1
def trO (st gf : Nat → Nat) (L fo : Nat) : Option Nat := if 0 < L ∧ fo < gf (6 - L) then none else some (trT st gf fo L L).1
theorem trT_s {st gf : Nat → Nat} {fo n j : Nat} (h : j ≤ n) : trT st gf fo (n + 1) j = trT st gf fo n j := by rw [trT]; exact fu_n (by omega)
theorem l_few {I0 : Im} {X g gs d Q} {st gf : Nat → Nat} {L fo : Nat} {z : Int32} (hN : NkR I0 st gf L) (hst : ∀ l, l < 6 → st l ≤ 105) (hgf : ∀ l, gf l ≤ 168) (hz : z = nI fo) (hL : L ≤ 6) (hfo : fo ≤ 999) (hgn : ∀ k, 1 ≤ k → k ≤ L → gf (6 - k) ≤ fo) : ∀ (m k : Nat) (I : Im), k + 1 + m = L + 1 → Ef I0 I → (∀ j, j < k + 1 → I 21 0 j = nI (trT st gf fo k j).1 ∧ I 22 0 j = nI (trT st gf fo k j).2) →
    (∀ I', Ef I0 I' ∧ I' 22 0 L = nI (trT st gf fo L L).2 → am_WP (am_psh g (some (.inl (nI (trT st gf fo L L).1))) :: gs) (d + 3) (mk I' X) Q) →
    am_WP ((mX2_fewestCrumbs, 28, [some (.inr (.inr (some (2, 0)))), some (.inl z), some (.inl (nI (k + 1)))], []) :: g :: gs) (d + 2) (mk I X) Q
  | 0, k, I, hk, E, hT, K => by
    have e : k = L := by omega
    subst e
    have hB := trT_le (st := st) (gf := gf) (fo := fo) k hL hgn
    exact w_X2_fewestCrumbs_28 (NkR_E hN E) hst hgf hz hL hfo (by omega) (by omega) hgn hT (fun j hj => hB j (by omega)) (fun _ => K I ⟨E, (hT k (by omega)).2⟩) (fun h => absurd (by omega) h)
  | m + 1, k, I, hk, E, hT, K => by
    have hB := trT_le (st := st) (gf := gf) (fo := fo) k (by omega) (fun j a b => hgn j a (by omega))
    refine w_X2_fewestCrumbs_28 (NkR_E hN E) hst hgf hz hL hfo (by omega) (by omega) hgn hT (fun j hj => hB j (by omega)) (fun h => absurd h (by omega)) (fun _ I1 p1 => ?_)
    refine l_few hN hst hgf hz hL hfo hgn m (k + 1) I1 (by omega) (Ef_D E p1.1 (by omega)) (fun j hj => ?_) K
    by_cases e : j = k + 1
    · subst e
      rw [show trT st gf fo (k + 1) (k + 1) = trD st gf fo (trT st gf fo k) (k + 1) by rw [trT]; exact fu_s]
      exact p1.2
    · rw [trT_s (by omega), (p1.1.2.2 j e).1, (p1.1.2.2 j e).2]
      exact hT j (by omega)
theorem c_X2_few {I X d} {st gf : Nat → Nat} {L fo : Nat} {z : Int32} (hN : NkR I st gf L) (hC : NkC I) (hst : ∀ l, l < 6 → st l ≤ 105) (hgf : ∀ l, gf l ≤ 168) (hz : z = nI fo) (hL : L ≤ 6) (hfo : fo ≤ 999) (hgm : ∀ k, k ≤ L → gf (6 - k) ≤ gf (6 - L)) : Sw mX2_fewestCrumbs [.inr (.inr (some (2, 0))), .inl z] (d + 2) I X (some (.inl (oI (trO st gf L fo)))) (fun I' => Ef I I' ∧ (∀ r, trO st gf L fo = some r → I' 22 0 L = nI (trT st gf fo L L).2)) := fun g gs Q K => by
  have h0 : ∀ j, j < 0 + 1 → I 21 0 j = nI (trT st gf fo 0 j).1 ∧ I 22 0 j = nI (trT st gf fo 0 j).2 := fun j hj => by rw [show j = 0 by omega]; exact ⟨hC.2.1, hC.2.2⟩
  have go : (0 < L → gf (6 - L) ≤ fo) → am_WP ((mX2_fewestCrumbs, 28, [some (.inr (.inr (some (2, 0)))), some (.inl z), some (.inl (nI (0 + 1)))], []) :: g :: gs) (d + 2) (mk I X) Q := fun hh => by
    have e : trO st gf L fo = some (trT st gf fo L L).1 := by unfold trO; rw [if_neg (fun z => by have := hh z.1; omega)]
    refine l_few hN hst hgf hz hL hfo (fun k a b => Nat.le_trans (hgm k b) (hh (by omega))) L 0 I (by omega) Ef_r h0 ?_
    intro I' p
    rw [e] at K
    exact K I' ⟨p.1, fun _ _ => p.2⟩
  refine w_X2_fewestCrumbs hN hst hgf hz hL hfo ?_ ?_ ?_
  all_goals first
    | (intro h1; exact go (fun z => by omega))
    | (intro h1 h2; exact go (fun z => by omega))
    | (intro h1 h2
       have e : trO st gf L fo = none := by unfold trO; rw [if_pos (by omega)]
       rw [e] at K
       exact K I ⟨Ef_r, fun _ z => by cases z⟩)
