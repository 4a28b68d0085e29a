/-! the constructors: what isn't set yet of the objects under way (group, number, from which place on) -/
def z0 : Nat → Nat := fun _ => 0
def nT : Nat → Nat → Option (Nat × Nat) := fun _ _ => none
def lU : List (Nat × Nat × Nat) → Nat → Nat → Nat → Bool
  | [], _, _, _ => false
  | (g, k, f) :: l, g', k', j' => cond (Nat.beq g' g && Nat.beq k' k) (Nat.ble f j') (lU l g' k' j')
def RU (l : List (Nat × Nat × Nat)) : Nat → Nat → Nat → Option (Nat × Nat) := fun g k j => cond (lU l g k j) none (st_R nT g k j)
def CM (Ls : Nat) (I : Im) (l : List (Nat × Nat × Nat)) (c : Nat → Nat) (ce sl : Nat) : am_M := (I, RU l, c, st_L Ls z0 z0, ce, sl)
def Zr (I : Im) (c : Nat → Nat) : Prop := ∀ g k j, g ≠ 96 → c g ≤ k → I g k j = 0
theorem bqt {g : Nat} : Nat.beq g g = true := Nat.beq_refl g
theorem Zr_fu {I c g} (h : Zr I c) : Zr I (fu c g (c g + 1)) := fun g' k j hg hk => h g' k j hg (by
  by_cases e : g' = g
  · rw [e, fu_s] at hk; rw [e]; omega
  · rw [fu_n e] at hk; exact hk)
theorem Zr_w {I : Im} {c : Nat → Nat} {g k j v} (h : Zr I c) (hk : k < c g) : Zr (up3 I g k j v) c := fun g' k' j' hg hk' => by
  rw [up3_ne j' (by
    by_cases e : g' = g
    · right; intro z; rw [e] at hk'; omega
    · exact Or.inl e)]
  exact h g' k' j' hg hk'
theorem am_new_c {M : am_M} {g n sl : Nat} : (am_new M g n sl).2.2.1 = fu M.2.2.1 g (M.2.2.1 g + 1) := by
  funext g'
  show cond (Nat.beq g' g) (M.2.2.1 g + 1) (M.2.2.1 g') = if g' = g then M.2.2.1 g + 1 else M.2.2.1 g'
  by_cases e : g' = g
  · rw [e, bqt, if_pos rfl]; rfl
  · rw [bqf e, if_neg e]; rfl
theorem CM_I {Ls I l c ce sl g n s} (hz : Zr I c) (hg : g ≠ 96) : (am_new (CM Ls I l c ce sl) g n s).1 = I := by
  funext g' k' j'
  show cond (Nat.beq g' g) (if k' = c g then 0 else I g' k' j') (I g' k' j') = I g' k' j'
  by_cases e : g' = g
  · rw [e, bqt]
    show (if k' = c g then 0 else I g k' j') = I g k' j'
    split
    · rename_i q; rw [q, hz g (c g) j' hg (Nat.le_refl _)]
    · rfl
  · rw [bqf e]; rfl
theorem CM_L {Ls I l c ce sl g n s} (hn : st_L Ls z0 z0 g (c g) = n) : (am_new (CM Ls I l c ce sl) g n s).2.2.2.1 = st_L Ls z0 z0 := by
  funext g' k'
  show cond (Nat.beq g' g) (if k' = c g then n else st_L Ls z0 z0 g' k') (st_L Ls z0 z0 g' k') = st_L Ls z0 z0 g' k'
  by_cases e : g' = g
  · rw [e, bqt]
    show (if k' = c g then n else st_L Ls z0 z0 g k') = st_L Ls z0 z0 g k'
    split
    · rename_i q; rw [q, hn]
    · rfl
  · rw [bqf e]; rfl
theorem CM_new {Ls I l c ce sl g n s} (hz : Zr I c) (hg : g ≠ 96) (hn : st_L Ls z0 z0 g (c g) = n) : am_new (CM Ls I l c ce sl) g n s = CM Ls I ((g, c g, 0) :: l) (fu c g (c g + 1)) (ce + 1) (sl + s) := by
  refine Prod.ext (CM_I hz hg) (Prod.ext ?_ (Prod.ext am_new_c (Prod.ext (CM_L hn) rfl)))
  funext g' k' j'
  show cond (Nat.beq g' g) (if k' = c g then none else RU l g' k' j') (RU l g' k' j') = cond (cond (Nat.beq g' g && Nat.beq k' (c g)) (Nat.ble 0 j') (lU l g' k' j')) none (st_R nT g' k' j')
  by_cases e : g' = g
  · rw [e, bqt]
    by_cases q : k' = c g
    · show (if k' = c g then none else _) = _
      rw [if_pos q, q, bqt]
      rw [show Nat.ble 0 j' = true from Nat.ble_eq_true_of_le (Nat.zero_le _)]
      rfl
    · show (if k' = c g then none else _) = _
      rw [if_neg q, bqf q]
      rfl
  · rw [bqf e]; rfl
theorem st_none {g k j : Nat} (h1 : 16 ≤ g) (h2 : g ≤ 79) : st_R nT g k j = none := by
  unfold st_R
  rw [Nat.ble_eq_true_of_le (show 7 ≤ g by omega), Nat.ble_eq_true_of_le (show 9 ≤ g by omega)]
  have e : Nat.ble 81 g = false := by
    cases q : Nat.ble 81 g with
    | false => rfl
    | true => exact absurd (Nat.le_of_ble_eq_true q) (by omega)
  have e2 : Nat.ble 80 g = false := by
    cases q : Nat.ble 80 g with
    | false => rfl
    | true => exact absurd (Nat.le_of_ble_eq_true q) (by omega)
  rw [e, e2]
  rfl
theorem CM_newI {Ls I l c ce sl g n s} (hz : Zr I c) (h1 : 16 ≤ g) (h2 : g ≤ 79) (hn : st_L Ls z0 z0 g (c g) = n) : am_new (CM Ls I l c ce sl) g n s = CM Ls I l (fu c g (c g + 1)) (ce + 1) (sl + s) := by
  refine Prod.ext (CM_I hz (by omega)) (Prod.ext ?_ (Prod.ext am_new_c (Prod.ext (CM_L hn) rfl)))
  funext g' k' j'
  show cond (Nat.beq g' g) (if k' = c g then none else RU l g' k' j') (RU l g' k' j') = RU l g' k' j'
  by_cases e : g' = g
  · rw [e, bqt]
    show (if k' = c g then none else RU l g k' j') = cond (lU l g k' j') none (st_R nT g k' j')
    have r : RU l g k' j' = none := by
      show cond (lU l g k' j') none (st_R nT g k' j') = none
      rw [st_none h1 h2]
      cases lU l g k' j' <;> rfl
    have r2 : cond (lU l g k' j') none (st_R nT g k' j') = none := r
    rw [r, r2]
    split <;> rfl
  · rw [bqf e]; rfl
theorem bl_f {a b : Nat} (h : b < a) : Nat.ble a b = false := by
  cases q : Nat.ble a b with
  | false => rfl
  | true => exact absurd (Nat.le_of_ble_eq_true q) (by omega)
theorem CM_set {Ls I l c ce sl g k f v} (hv : v = st_R nT g k f) : am_sR (CM Ls I ((g, k, f) :: l) c ce sl) g k f v = CM Ls I ((g, k, f + 1) :: l) c ce sl := by
  refine Prod.ext rfl (Prod.ext ?_ rfl)
  funext g' k' j'
  show cond (Nat.beq g' g) (if k' = k ∧ j' = f then v else cond (cond (Nat.beq g' g && Nat.beq k' k) (Nat.ble f j') (lU l g' k' j')) none (st_R nT g' k' j')) (cond (cond (Nat.beq g' g && Nat.beq k' k) (Nat.ble f j') (lU l g' k' j')) none (st_R nT g' k' j')) = cond (cond (Nat.beq g' g && Nat.beq k' k) (Nat.ble (f + 1) j') (lU l g' k' j')) none (st_R nT g' k' j')
  by_cases e : g' = g
  · rw [e, bqt]
    by_cases q : k' = k
    · rw [q, bqt]
      show (if k = k ∧ j' = f then v else cond (Nat.ble f j') none (st_R nT g k j')) = cond (Nat.ble (f + 1) j') none (st_R nT g k j')
      by_cases w : j' = f
      · rw [if_pos ⟨rfl, w⟩, w, bl_f (Nat.lt_succ_self _)]; exact hv
      · rw [if_neg (fun z => w z.2)]
        by_cases y : f ≤ j'
        · rw [Nat.ble_eq_true_of_le y, Nat.ble_eq_true_of_le (show f + 1 ≤ j' by omega)]
        · rw [bl_f (by omega), bl_f (by omega)]
    · show (if k' = k ∧ j' = f then v else _) = _
      rw [if_neg (fun z => q z.1), bqf q]
      rfl
  · rw [bqf e]; rfl
theorem CM_skip {Ls I l c ce sl g k f} (hv : st_R nT g k f = none) : CM Ls I ((g, k, f) :: l) c ce sl = CM Ls I ((g, k, f + 1) :: l) c ce sl := by
  refine Prod.ext rfl (Prod.ext ?_ rfl)
  funext g' k' j'
  show cond (cond (Nat.beq g' g && Nat.beq k' k) (Nat.ble f j') (lU l g' k' j')) none (st_R nT g' k' j') = cond (cond (Nat.beq g' g && Nat.beq k' k) (Nat.ble (f + 1) j') (lU l g' k' j')) none (st_R nT g' k' j')
  by_cases e : g' = g
  · rw [e, bqt]
    by_cases q : k' = k
    · rw [q, bqt]
      show cond (Nat.ble f j') none (st_R nT g k j') = cond (Nat.ble (f + 1) j') none (st_R nT g k j')
      by_cases w : j' = f
      · rw [w, hv]; cases Nat.ble f f <;> cases Nat.ble (f + 1) f <;> rfl
      · by_cases y : f ≤ j'
        · rw [Nat.ble_eq_true_of_le y, Nat.ble_eq_true_of_le (show f + 1 ≤ j' by omega)]
        · rw [bl_f (by omega), bl_f (by omega)]
    · rw [bqf q]; rfl
  · rw [bqf e]; rfl
theorem CM_sw {Ls I l c ce sl} {a b : Nat × Nat × Nat} (h : ¬ (a.1 = b.1 ∧ a.2.1 = b.2.1)) : CM Ls I (a :: b :: l) c ce sl = CM Ls I (b :: a :: l) c ce sl := by
  refine Prod.ext rfl (Prod.ext ?_ rfl)
  funext g' k' j'
  obtain ⟨g1, k1, f1⟩ := a
  obtain ⟨g2, k2, f2⟩ := b
  have h : ¬ (g1 = g2 ∧ k1 = k2) := h
  show cond (cond (Nat.beq g' g1 && Nat.beq k' k1) (Nat.ble f1 j') (cond (Nat.beq g' g2 && Nat.beq k' k2) (Nat.ble f2 j') (lU l g' k' j'))) none _ = cond (cond (Nat.beq g' g2 && Nat.beq k' k2) (Nat.ble f2 j') (cond (Nat.beq g' g1 && Nat.beq k' k1) (Nat.ble f1 j') (lU l g' k' j'))) none _
  cases q1 : (Nat.beq g' g1 && Nat.beq k' k1) with
  | false => rfl
  | true =>
    cases q2 : (Nat.beq g' g2 && Nat.beq k' k2) with
    | false => rfl
    | true =>
      simp only [Bool.and_eq_true, Nat.beq_eq] at q1 q2
      exact absurd ⟨q1.1.symm.trans q2.1, q1.2.symm.trans q2.2⟩ h
theorem CM_drop {Ls I l c ce sl g k f} (h1 : ∀ j, f ≤ j → st_R nT g k j = none) (h2 : ∀ j, lU l g k j = false) : CM Ls I ((g, k, f) :: l) c ce sl = CM Ls I l c ce sl := by
  refine Prod.ext rfl (Prod.ext ?_ rfl)
  funext g' k' j'
  show cond (cond (Nat.beq g' g && Nat.beq k' k) (Nat.ble f j') (lU l g' k' j')) none (st_R nT g' k' j') = cond (lU l g' k' j') none (st_R nT g' k' j')
  by_cases e : g' = g
  · rw [e, bqt]
    by_cases q : k' = k
    · rw [q, bqt, h2 j']
      show cond (Nat.ble f j') none (st_R nT g k j') = st_R nT g k j'
      by_cases y : f ≤ j'
      · rw [Nat.ble_eq_true_of_le y, h1 j' y]; rfl
      · rw [bl_f (by omega)]; rfl
    · rw [bqf q]; rfl
  · rw [bqf e]; rfl
/-- a row of references whose places are all set -/
theorem WP_drop {Q : Option am_V → am_M → Prop} (hQ : ∀ v M P, Q v M → Q v (rR M P)) {fs : List am_F} {d Ls : Nat} {I : Im} {l : List (Nat × Nat × Nat)} {c : Nat → Nat} {ce sl g k f : Nat} (hg : 80 ≤ g ∧ g ≤ 83) (hf : st_L Ls z0 z0 g k ≤ f) (h2 : ∀ j, lU l g k j = false) (h : am_WP fs d (CM Ls I l c ce sl) Q) : am_WP fs d (CM Ls I ((g, k, f) :: l) c ce sl) Q := by
  refine WP_R (M := CM Ls I l c ce sl) (P := RU ((g, k, f) :: l)) hQ (fun g' k' j' hj => ?_) h
  have hj : g' < 80 ∨ 84 ≤ g' ∨ j' < st_L Ls z0 z0 g' k' := hj
  show cond (cond (Nat.beq g' g && Nat.beq k' k) (Nat.ble f j') (lU l g' k' j')) none (st_R nT g' k' j') = cond (lU l g' k' j') none (st_R nT g' k' j')
  by_cases e : g' = g
  · subst e
    by_cases q : k' = k
    · subst q
      rw [bqt, bqt, h2 j']
      show cond (Nat.ble f j') none (st_R nT g' k' j') = st_R nT g' k' j'
      rw [bl_f (by omega)]; rfl
    · rw [bqt, bqf q]; rfl
  · rw [bqf e]; rfl
theorem CM_sI {Ls I l c ce sl g k j v} : am_sI (CM Ls I l c ce sl) g k j v = CM Ls (up3 I g k j v) l c ce sl := rfl
