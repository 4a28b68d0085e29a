/-! BEST DEPTH -/
abbrev btr (r : Nat × Nat) (m l : Nat) : Prop := m < r.1 ∨ (r.1 = m ∧ r.2 < l)
def bdL (T : Nat → Nat × Nat) : Nat → Nat → Nat × Nat × Nat → Nat × Nat × Nat
  | 0, _, b => b
  | n + 1, d, b => if btr (T d) b.2.1 b.2.2 then bdL T n (d + 1) (d, T d) else bdL T n (d + 1) b
def bdN (st gf : Nat → Nat) (left fo : Nat) : Nat × Nat × Nat := bdL (fun d => thinkN st gf left d fo) (left - 1) 2 (1, thinkN st gf left 1 fo)
theorem bdL_id {T : Nat → Nat × Nat} : ∀ (n d : Nat) (b : Nat × Nat × Nat), (∀ i, d ≤ i → i < d + n → ¬ btr (T i) b.2.1 b.2.2) → bdL T n d b = b
  | 0, _, _, _ => rfl
  | n + 1, d, b, h => by
    rw [bdL, if_neg (h d (Nat.le_refl _) (by omega))]
    exact bdL_id n (d + 1) b (fun i a c => h i (by omega) (by omega))
theorem bdL_a {T : Nat → Nat × Nat} : ∀ (n m d : Nat) (b : Nat × Nat × Nat), bdL T (n + m) d b = bdL T m (d + n) (bdL T n d b)
  | 0, m, d, b => by rw [Nat.zero_add]; rfl
  | n + 1, m, d, b => by
    rw [show n + 1 + m = (n + m) + 1 by omega, bdL, bdL]
    split
    · rw [bdL_a n m (d + 1)]; rw [show d + 1 + n = d + (n + 1) by omega]
    · rw [bdL_a n m (d + 1)]; rw [show d + 1 + n = d + (n + 1) by omega]
theorem bdL_i {T : Nat → Nat × Nat} : ∀ (n d : Nat) (b : Nat × Nat × Nat), 1 ≤ b.1 → b.1 < d → b.2 = T b.1 → (∀ i, 1 ≤ i → i < d → ¬ btr (T i) b.2.1 b.2.2) → 1 ≤ (bdL T n d b).1 ∧ (bdL T n d b).1 < d + n ∧ (bdL T n d b).2 = T (bdL T n d b).1 ∧ ∀ i, 1 ≤ i → i < d + n → ¬ btr (T i) (bdL T n d b).2.1 (bdL T n d b).2.2
  | 0, d, b, h1, h2, h3, h4 => ⟨h1, h2, h3, h4⟩
  | n + 1, d, b, h1, h2, h3, h4 => by
    rw [bdL]
    split
    · rename_i hb
      have := bdL_i (T := T) n (d + 1) (d, T d) (by show 1 ≤ d; omega) (by show d < d + 1; omega) rfl (fun i a c => by
        show ¬ btr (T i) (T d).1 (T d).2
        by_cases e : i = d
        · subst e; unfold btr; omega
        · have := h4 i a (by omega)
          unfold btr at this hb ⊢
          omega)
      rw [show d + 1 + n = d + (n + 1) by omega] at this
      exact this
    · rename_i hb
      have := bdL_i (T := T) n (d + 1) b h1 (by omega) h3 (fun i a c => by
        by_cases e : i = d
        · subst e; exact hb
        · exact h4 i a (by omega))
      rw [show d + 1 + n = d + (n + 1) by omega] at this
      exact this
theorem thinkN_m {st gf : Nat → Nat} {left dp fo : Nat} (h : left ≤ dp) : thinkN st gf left dp fo = thinkN st gf left left fo := by
  unfold thinkN
  rw [Nat.min_eq_right h, Nat.min_self]
theorem bdN_i {st gf : Nat → Nat} {left fo : Nat} (h1 : 1 ≤ left) : 1 ≤ (bdN st gf left fo).1 ∧ (bdN st gf left fo).1 ≤ left ∧ (bdN st gf left fo).2 = thinkN st gf left (bdN st gf left fo).1 fo ∧ ∀ i, 1 ≤ i → i ≤ left → ¬ btr (thinkN st gf left i fo) (bdN st gf left fo).2.1 (bdN st gf left fo).2.2 := by
  have := bdL_i (T := fun d => thinkN st gf left d fo) (left - 1) 2 (1, thinkN st gf left 1 fo) (Nat.le_refl _) (by show 1 < 2; omega) rfl (fun i a c => by
    rw [show i = 1 by omega]; show ¬ btr (thinkN st gf left 1 fo) (thinkN st gf left 1 fo).1 (thinkN st gf left 1 fo).2; unfold btr; omega)
  obtain ⟨a, b, c, e⟩ := this
  exact ⟨a, by show (bdL _ _ _ _).1 ≤ left; omega, c, fun i x y => e i x (by omega)⟩
/-- to six, and not only to left, comes to the same -/
theorem bdN_6 {st gf : Nat → Nat} {left fo : Nat} (h1 : 1 ≤ left) (h6 : left ≤ 6) : bdL (fun d => thinkN st gf left d fo) 5 2 (1, thinkN st gf left 1 fo) = bdN st gf left fo := by
  have e := bdL_a (T := fun d => thinkN st gf left d fo) (left - 1) (6 - left) 2 (1, thinkN st gf left 1 fo)
  rw [show left - 1 + (6 - left) = 5 by omega] at e
  rw [e]
  refine bdL_id _ _ _ (fun i a c => ?_)
  show ¬ btr (thinkN st gf left i fo) (bdN st gf left fo).2.1 (bdN st gf left fo).2.2
  rw [thinkN_m (show left ≤ i by omega)]
  exact (bdN_i h1).2.2.2 left h1 (Nat.le_refl _)
theorem n1l {n : Nat} (h : n < 2 ^ 31) : (-1 : Int32) < nI n := by
  apply Int32.lt_iff_toInt_lt.mpr
  rw [nI_toInt h, show (-1 : Int32).toInt = -1 from rfl]
  omega
theorem Tf_t {I0 I I'} (h : Tf I0 I) (h2 : Tf I I') : Tf I0 I' := ⟨fun j a b => (h2.1 j a b).trans (h.1 j a b), fun g hg => (h2.2 g hg).trans (h.2 g hg)⟩
set_option maxRecDepth 100000 in
set_option maxHeartbeats 4000000 in
theorem w_X2_bestDepth {I : Nat → Nat → Nat → Int32} {X : am_Z} {g : am_F} {gs : List am_F} {d : Nat} {Q : Option am_V → am_M → Prop} {z : Int32} (k0 : am_WP ((mX2_bestDepth, 10, [some (.inr (.inr (some (2, 0)))), some (.inl (z)), some (.inl (1)), some (.inl ((-1))), some (.inl (0)), some (.inl (1))], []) :: g :: gs) (d + 1) (mk I X) Q) : am_WP (am_entry mX2_bestDepth [.inr (.inr (some (2, 0))), .inl (z)] :: g :: gs) (d + 1) (mk I X) Q := by
  refine am_go 8 ?_
  exact k0
set_option maxRecDepth 100000 in
set_option maxHeartbeats 4000000 in
theorem w_best_1 {I : Nat → Nat → Nat → Int32} {X : am_Z} {g : am_F} {gs : List am_F} {d : Nat} {Q : Option am_V → am_M → Prop} {st gf : Nat → Nat} {L fo : Nat} {z : Int32} (hN : NkR I st gf L) (hst : ∀ l, l < 6 → st l ≤ 105) (hgf : ∀ l, gf l ≤ 168) (hz : z = nI fo) (hL : L ≤ 6) (hL1 : 1 ≤ L) (hfo : fo ≤ 999)  (k0 : ∀ (I1 : Im), (Tr I (thinkN st gf L 1 fo) I1) → am_WP ((mX2_bestDepth, 10, [some (.inr (.inr (some (2, 0)))), some (.inl (z)), some (.inl (1)), some (.inl ((nI (thinkN st gf L 1 fo).1))), some (.inl ((nI (thinkN st gf L 1 fo).2))), some (.inl (2))], []) :: g :: gs) (d + 1) (mk I1 X) Q) : am_WP ((mX2_bestDepth, 10, [some (.inr (.inr (some (2, 0)))), some (.inl (z)), some (.inl (1)), some (.inl ((-1))), some (.inl (0)), some (.inl (1))], []) :: g :: gs) (d + 1) (mk I X) Q := by
  refine am_go 400 ?_
  have tk0 : I 2 0 4 = nI L := hN.1
  refine am_f (mt (lt_nat (a := L) (b := 1) tk0 (rfl : (1 : Int32) = nI 1) (by omega) (by omega)).mp (by omega)) ?_
  refine (c_X2_think (I := I) (L := L) (a := L) (dp := 1) (fo := fo) hN hst hgf tk0 (rfl : (1 : Int32) = nI 1) hz (by omega) (by omega) (by omega) (by omega) (by omega) (by omega)) _ _ _ ?_
  intro I1 p1
  refine am_go 400 ?_
  have bd : (thinkN st gf L 1 fo).1 ≤ L := (thinkN_le (st := st) (gf := gf) (left := L) (dp := 1) (fo := fo) (by omega) (by omega) (by omega)).1
  have tk1 : I1 2 0 5 = nI (thinkN st gf L 1 fo).1 := p1.2.1
  refine am_t (by show (-1) < (I1 2 0 5); (try rw [tk1]); first | done | exact (n1l (by omega))) ?_
  have bd : (thinkN st gf L 1 fo).1 ≤ L := (thinkN_le (st := st) (gf := gf) (left := L) (dp := 1) (fo := fo) (by omega) (by omega) (by omega)).1
  have bd : (thinkN st gf L 1 fo).2 ≤ 18 := (thinkN_le (st := st) (gf := gf) (left := L) (dp := 1) (fo := fo) (by omega) (by omega) (by omega)).2
  have tk2 : I1 2 0 6 = nI (thinkN st gf L 1 fo).2 := p1.2.2
  show am_WP ((mX2_bestDepth, 10, [some (.inr (.inr (some (2, 0)))), some (.inl (z)), some (.inl (1)), some (.inl ((I1 2 0 5))), some (.inl ((I1 2 0 6))), some (.inl (2))], []) :: g :: gs) (d + 1) (mk I1 X) Q
  try rw [tk2]
  try rw [tk1]
  exact k0 I1 p1
set_option maxRecDepth 100000 in
set_option maxHeartbeats 4000000 in
theorem w_best_n {I : Nat → Nat → Nat → Int32} {X : am_Z} {g : am_F} {gs : List am_F} {d : Nat} {Q : Option am_V → am_M → Prop} {st gf : Nat → Nat} {L fo : Nat} {z : Int32} (hN : NkR I st gf L) (hst : ∀ l, l < 6 → st l ≤ 105) (hgf : ∀ l, gf l ≤ 168) (hz : z = nI fo) (hL : L ≤ 6) (hL1 : 1 ≤ L) (hfo : fo ≤ 999) {bb m l dd : Nat} (hm : m ≤ 6) (hl : l ≤ 18) (hd1 : 1 ≤ dd) (hd : dd ≤ L + 1) (k0 : (L < dd) → am_WP (am_psh g (some (.inl (nI bb))) :: gs) (d + 2) (mk I X) Q) (k1 : (¬ (L < dd)) → ∀ (I1 : Im), (Tr I (thinkN st gf L dd fo) I1) → (m < ((thinkN st gf L dd fo).1)) → am_WP ((mX2_bestDepth, 10, [some (.inr (.inr (some (2, 0)))), some (.inl (z)), some (.inl (nI dd)), some (.inl ((nI (thinkN st gf L dd fo).1))), some (.inl ((nI (thinkN st gf L dd fo).2))), some (.inl ((nI (dd + 1))))], []) :: g :: gs) (d + 1) (mk I1 X) Q) (k2 : (¬ (L < dd)) → ∀ (I1 : Im), (Tr I (thinkN st gf L dd fo) I1) → (¬ (m < ((thinkN st gf L dd fo).1))) → (((thinkN st gf L dd fo).1) = m) → (l ≤ ((thinkN st gf L dd fo).2)) → am_WP ((mX2_bestDepth, 10, [some (.inr (.inr (some (2, 0)))), some (.inl (z)), some (.inl (nI bb)), some (.inl (nI m)), some (.inl (nI l)), some (.inl ((nI (dd + 1))))], []) :: g :: gs) (d + 1) (mk I1 X) Q) (k3 : (¬ (L < dd)) → ∀ (I1 : Im), (Tr I (thinkN st gf L dd fo) I1) → (¬ (m < ((thinkN st gf L dd fo).1))) → (((thinkN st gf L dd fo).1) = m) → (¬ (l ≤ ((thinkN st gf L dd fo).2))) → am_WP ((mX2_bestDepth, 10, [some (.inr (.inr (some (2, 0)))), some (.inl (z)), some (.inl (nI dd)), some (.inl ((nI (thinkN st gf L dd fo).1))), some (.inl ((nI (thinkN st gf L dd fo).2))), some (.inl ((nI (dd + 1))))], []) :: g :: gs) (d + 1) (mk I1 X) Q) (k4 : (¬ (L < dd)) → ∀ (I1 : Im), (Tr I (thinkN st gf L dd fo) I1) → (¬ (m < ((thinkN st gf L dd fo).1))) → (¬ (((thinkN st gf L dd fo).1) = m)) → am_WP ((mX2_bestDepth, 10, [some (.inr (.inr (some (2, 0)))), some (.inl (z)), some (.inl (nI bb)), some (.inl (nI m)), some (.inl (nI l)), some (.inl ((nI (dd + 1))))], []) :: g :: gs) (d + 1) (mk I1 X) Q) : am_WP ((mX2_bestDepth, 10, [some (.inr (.inr (some (2, 0)))), some (.inl (z)), some (.inl (nI bb)), some (.inl (nI m)), some (.inl (nI l)), some (.inl (nI dd))], []) :: g :: gs) (d + 1) (mk I X) Q := by
  refine am_go 400 ?_
  have tk0 : I 2 0 4 = nI L := hN.1
  refine am_if (fun h1 => ?_) (fun h1 => ?_)
  · have nh1 := (lt_nat (a := L) (b := dd) tk0 (rfl : (nI dd : Int32) = nI dd) (by omega) (by omega)).mp h1
    exact k0 nh1
  · have nh1 := mt (lt_nat (a := L) (b := dd) tk0 (rfl : (nI dd : Int32) = nI dd) (by omega) (by omega)).mpr h1
    refine (c_X2_think (I := I) (L := L) (a := L) (dp := dd) (fo := fo) hN hst hgf tk0 (rfl : (nI dd : Int32) = nI dd) hz (by omega) (by omega) (by omega) (by omega) (by omega) (by omega)) _ _ _ ?_
    intro I1 p1
    refine am_go 400 ?_
    have bd : (thinkN st gf L dd fo).1 ≤ L := (thinkN_le (st := st) (gf := gf) (left := L) (dp := dd) (fo := fo) (by omega) (by omega) (by omega)).1
    have tk1 : I1 2 0 5 = nI (thinkN st gf L dd fo).1 := p1.2.1
    refine am_if (fun h2 => ?_) (fun h2 => ?_)
    · have nh2 := (lt_nat (a := m) (b := ((thinkN st gf L dd fo).1)) (rfl : (nI m : Int32) = nI m) tk1 (by omega) (by omega)).mp h2
      have bd : (thinkN st gf L dd fo).1 ≤ L := (thinkN_le (st := st) (gf := gf) (left := L) (dp := dd) (fo := fo) (by omega) (by omega) (by omega)).1
      have bd : (thinkN st gf L dd fo).2 ≤ 18 := (thinkN_le (st := st) (gf := gf) (left := L) (dp := dd) (fo := fo) (by omega) (by omega) (by omega)).2
      have tk2 : I1 2 0 6 = nI (thinkN st gf L dd fo).2 := p1.2.2
      have tk3 : (nI dd + 1) = nI (dd + 1) := (nI_addE rfl (rfl : (1 : Int32) = nI 1))
      show am_WP ((mX2_bestDepth, 10, [some (.inr (.inr (some (2, 0)))), some (.inl (z)), some (.inl (nI dd)), some (.inl ((I1 2 0 5))), some (.inl ((I1 2 0 6))), some (.inl (((nI dd + 1))))], []) :: g :: gs) (d + 1) (mk I1 X) Q
      try rw [tk3]
      try rw [tk2]
      try rw [tk1]
      exact k1 nh1 I1 p1 nh2
    · have nh2 := mt (lt_nat (a := m) (b := ((thinkN st gf L dd fo).1)) (rfl : (nI m : Int32) = nI m) tk1 (by omega) (by omega)).mpr h2
      have bd : (thinkN st gf L dd fo).1 ≤ L := (thinkN_le (st := st) (gf := gf) (left := L) (dp := dd) (fo := fo) (by omega) (by omega) (by omega)).1
      refine am_if (fun h3 => ?_) (fun h3 => ?_)
      · have nh3 := (eq_nat (a := ((thinkN st gf L dd fo).1)) (b := m) tk1 (rfl : (nI m : Int32) = nI m) (by omega) (by omega)).mp h3
        have bd : (thinkN st gf L dd fo).2 ≤ 18 := (thinkN_le (st := st) (gf := gf) (left := L) (dp := dd) (fo := fo) (by omega) (by omega) (by omega)).2
        have tk4 : I1 2 0 6 = nI (thinkN st gf L dd fo).2 := p1.2.2
        refine am_if (fun h4 => ?_) (fun h4 => ?_)
        · have nh4 := (le_nat (a := l) (b := ((thinkN st gf L dd fo).2)) (rfl : (nI l : Int32) = nI l) tk4 (by omega) (by omega)).mp h4
          have tk5 : (nI dd + 1) = nI (dd + 1) := (nI_addE rfl (rfl : (1 : Int32) = nI 1))
          show am_WP ((mX2_bestDepth, 10, [some (.inr (.inr (some (2, 0)))), some (.inl (z)), some (.inl (nI bb)), some (.inl (nI m)), some (.inl (nI l)), some (.inl (((nI dd + 1))))], []) :: g :: gs) (d + 1) (mk I1 X) Q
          try rw [tk5]
          exact k2 nh1 I1 p1 nh2 nh3 nh4
        · have nh4 := mt (le_nat (a := l) (b := ((thinkN st gf L dd fo).2)) (rfl : (nI l : Int32) = nI l) tk4 (by omega) (by omega)).mpr h4
          have bd : (thinkN st gf L dd fo).1 ≤ L := (thinkN_le (st := st) (gf := gf) (left := L) (dp := dd) (fo := fo) (by omega) (by omega) (by omega)).1
          have bd : (thinkN st gf L dd fo).2 ≤ 18 := (thinkN_le (st := st) (gf := gf) (left := L) (dp := dd) (fo := fo) (by omega) (by omega) (by omega)).2
          have tk6 : (nI dd + 1) = nI (dd + 1) := (nI_addE rfl (rfl : (1 : Int32) = nI 1))
          show am_WP ((mX2_bestDepth, 10, [some (.inr (.inr (some (2, 0)))), some (.inl (z)), some (.inl (nI dd)), some (.inl ((I1 2 0 5))), some (.inl ((I1 2 0 6))), some (.inl (((nI dd + 1))))], []) :: g :: gs) (d + 1) (mk I1 X) Q
          try rw [tk6]
          try rw [tk4]
          try rw [tk1]
          exact k3 nh1 I1 p1 nh2 nh3 nh4
      · have nh3 := mt (eq_nat (a := ((thinkN st gf L dd fo).1)) (b := m) tk1 (rfl : (nI m : Int32) = nI m) (by omega) (by omega)).mpr h3
        have tk7 : (nI dd + 1) = nI (dd + 1) := (nI_addE rfl (rfl : (1 : Int32) = nI 1))
        show am_WP ((mX2_bestDepth, 10, [some (.inr (.inr (some (2, 0)))), some (.inl (z)), some (.inl (nI bb)), some (.inl (nI m)), some (.inl (nI l)), some (.inl (((nI dd + 1))))], []) :: g :: gs) (d + 1) (mk I1 X) Q
        try rw [tk7]
        exact k4 nh1 I1 p1 nh2 nh3
theorem l_best {I0 : Im} {X g gs d Q} {st gf : Nat → Nat} {L fo : Nat} {z : Int32} (hN : NkR I0 st gf L) (hst : ∀ l, l < 6 → st l ≤ 105) (hgf : ∀ l, gf l ≤ 168) (hz : z = nI fo) (hL : L ≤ 6) (hL1 : 1 ≤ L) (hfo : fo ≤ 999) : ∀ (n dd bb m l : Nat) (I : Im), dd + n = L + 1 → 1 ≤ dd → m ≤ 6 → l ≤ 18 → Tf I0 I →
    (∀ I', Tf I0 I' → am_WP (am_psh g (some (.inl (nI (bdL (fun d => thinkN st gf L d fo) n dd (bb, m, l)).1))) :: gs) (d + 2) (mk I' X) Q) →
    am_WP ((mX2_bestDepth, 10, [some (.inr (.inr (some (2, 0)))), some (.inl z), some (.inl (nI bb)), some (.inl (nI m)), some (.inl (nI l)), some (.inl (nI dd))], []) :: g :: gs) (d + 1) (mk I X) Q
  | 0, dd, bb, m, l, I, hd, h1, hm, hl, T, K => w_best_n (NkR_T hN T) hst hgf hz hL hL1 hfo hm hl h1 (by omega) (fun _ => K I T) (fun h => absurd (by omega) h) (fun h => absurd (by omega) h) (fun h => absurd (by omega) h) (fun h => absurd (by omega) h)
  | n + 1, dd, bb, m, l, I, hd, h1, hm, hl, T, K => by
    have hb := thinkN_le (st := st) (gf := gf) (fo := fo) hL hL1 h1
    rw [bdL] at K
    refine w_best_n (NkR_T hN T) hst hgf hz hL hL1 hfo hm hl h1 (by omega) (fun h => absurd h (by omega)) ?_ ?_ ?_ ?_
    · intro _ I1 p1 q1
      rw [if_pos (Or.inl q1)] at K
      exact l_best hN hst hgf hz hL hL1 hfo n (dd + 1) _ _ _ I1 (by omega) (by omega) (by omega) hb.2 (Tf_t T p1.1) K
    · intro _ I1 p1 q1 q2 q3
      rw [if_neg (fun z => by have z : m < (thinkN st gf L dd fo).1 ∨ ((thinkN st gf L dd fo).1 = m ∧ (thinkN st gf L dd fo).2 < l) := z; omega)] at K
      exact l_best hN hst hgf hz hL hL1 hfo n (dd + 1) _ _ _ I1 (by omega) (by omega) hm hl (Tf_t T p1.1) K
    · intro _ I1 p1 q1 q2 q3
      rw [if_pos (Or.inr ⟨q2, show (thinkN st gf L dd fo).2 < l by omega⟩)] at K
      exact l_best hN hst hgf hz hL hL1 hfo n (dd + 1) _ _ _ I1 (by omega) (by omega) (by omega) hb.2 (Tf_t T p1.1) K
    · intro _ I1 p1 q1 q2
      rw [if_neg (fun z => by have z : m < (thinkN st gf L dd fo).1 ∨ ((thinkN st gf L dd fo).1 = m ∧ (thinkN st gf L dd fo).2 < l) := z; omega)] at K
      exact l_best hN hst hgf hz hL hL1 hfo n (dd + 1) _ _ _ I1 (by omega) (by omega) hm hl (Tf_t T p1.1) K
theorem c_X2_bestDepth {I X d} {st gf : Nat → Nat} {L fo : Nat} {z : Int32} (hN : NkR I st gf L) (hst : ∀ l, l < 6 → st l ≤ 105) (hgf : ∀ l, gf l ≤ 168) (hz : z = nI fo) (hL : L ≤ 6) (hL1 : 1 ≤ L) (hfo : fo ≤ 999) : Sw mX2_bestDepth [.inr (.inr (some (2, 0))), .inl z] (d + 1) I X (some (.inl (nI (bdN st gf L fo).1))) (fun I' => Tf I I') := fun g gs Q K => by
  have hb := thinkN_le (st := st) (gf := gf) (fo := fo) (dp := 1) hL hL1 (Nat.le_refl _)
  refine w_X2_bestDepth (w_best_1 hN hst hgf hz hL hL1 hfo (fun I1 p1 => ?_))
  exact l_best hN hst hgf hz hL hL1 hfo (L - 1) 2 1 _ _ I1 (by omega) (by omega) (by omega) hb.2 p1.1 K
def bdS (s : St) (k fo : Nat) : Nat × Nat × Nat := bdN (strN s.1.2.1 s.1.2.2 (bo s k)) (gfN (bo s k)) ((bo s k).1 3) fo
def f_depth (s : St) (x z w : Int32) : Int32 × St := if isB s x then if 0 ≤ z ∧ z ≤ 999 then if 0 ≤ w ∧ w ≤ 1 then if (bo s (kx x)).1 3 = 0 then (cNONE, s) else if w = 0 then (nI (bdS s (kx x) (kx z)).1, s) else (nI (bdS s (kx x) (kx z)).2.1, s) else (cBAD, s) else (cBAD, s) else (cBAD, s)
set_option maxRecDepth 100000 in
set_option maxHeartbeats 4000000 in
theorem w_X7_depth {I : Nat → Nat → Nat → Int32} {X : am_Z} {g : am_F} {gs : List am_F} {d : Nat} {Q : Option am_V → am_M → Prop} {s : St} (h : RC I X s) (G : GS s) {x z w : Int32} (k0 : (¬ ((0 : Int32) ≤ x ∧ x ≤ (nI (nb s)) - 1)) → am_WP (am_psh g (some (.inl ((-1000000001)))) :: gs) (d + 6) (mk I X) Q) (k1 : ((0 : Int32) ≤ x ∧ x ≤ (nI (nb s)) - 1) → (¬ ((0 : Int32) ≤ z ∧ z ≤ 999)) → am_WP (am_psh g (some (.inl ((-1000000001)))) :: gs) (d + 6) (mk I X) Q) (k2 : ((0 : Int32) ≤ x ∧ x ≤ (nI (nb s)) - 1) → ((0 : Int32) ≤ z ∧ z ≤ 999) → (¬ ((0 : Int32) ≤ w ∧ w ≤ 1)) → am_WP (am_psh g (some (.inl ((-1000000001)))) :: gs) (d + 6) (mk I X) Q) (k3 : ((0 : Int32) ≤ x ∧ x ≤ (nI (nb s)) - 1) → ((0 : Int32) ≤ z ∧ z ≤ 999) → ((0 : Int32) ≤ w ∧ w ≤ 1) → (((bo s (kx x)).1 3) = 0) → am_WP (am_psh g (some (.inl ((-1000000005)))) :: gs) (d + 6) (mk I X) Q) (k4 : ((0 : Int32) ≤ x ∧ x ≤ (nI (nb s)) - 1) → ((0 : Int32) ≤ z ∧ z ≤ 999) → ((0 : Int32) ≤ w ∧ w ≤ 1) → (¬ (((bo s (kx x)).1 3) = 0)) → ∀ (I1 : Im), (FrN I I1 ∧ NkR I1 (strN s.1.2.1 s.1.2.2 (bo s (kx x))) (gfN (bo s (kx x))) ((bo s (kx x)).1 3) ∧ NkC I1) → ∀ (I2 : Im), (Tf I1 I2) → ∀ (I3 : Im), (Tr I2 (thinkN (strN s.1.2.1 s.1.2.2 (bo s (kx x))) (gfN (bo s (kx x))) ((bo s (kx x)).1 3) ((bdN (strN s.1.2.1 s.1.2.2 (bo s (kx x))) (gfN (bo s (kx x))) ((bo s (kx x)).1 3) (kx z)).1) (kx z)) I3) → (w = 0) → am_WP (am_psh g (some (.inl ((nI (bdN (strN s.1.2.1 s.1.2.2 (bo s (kx x))) (gfN (bo s (kx x))) ((bo s (kx x)).1 3) (kx z)).1)))) :: gs) (d + 6) (mk I3 X) Q) (k5 : ((0 : Int32) ≤ x ∧ x ≤ (nI (nb s)) - 1) → ((0 : Int32) ≤ z ∧ z ≤ 999) → ((0 : Int32) ≤ w ∧ w ≤ 1) → (¬ (((bo s (kx x)).1 3) = 0)) → ∀ (I1 : Im), (FrN I I1 ∧ NkR I1 (strN s.1.2.1 s.1.2.2 (bo s (kx x))) (gfN (bo s (kx x))) ((bo s (kx x)).1 3) ∧ NkC I1) → ∀ (I2 : Im), (Tf I1 I2) → ∀ (I3 : Im), (Tr I2 (thinkN (strN s.1.2.1 s.1.2.2 (bo s (kx x))) (gfN (bo s (kx x))) ((bo s (kx x)).1 3) ((bdN (strN s.1.2.1 s.1.2.2 (bo s (kx x))) (gfN (bo s (kx x))) ((bo s (kx x)).1 3) (kx z)).1) (kx z)) I3) → (¬ w = 0) → am_WP (am_psh g (some (.inl ((nI (thinkN (strN s.1.2.1 s.1.2.2 (bo s (kx x))) (gfN (bo s (kx x))) ((bo s (kx x)).1 3) ((bdN (strN s.1.2.1 s.1.2.2 (bo s (kx x))) (gfN (bo s (kx x))) ((bo s (kx x)).1 3) (kx z)).1) (kx z)).1)))) :: gs) (d + 6) (mk I3 X) Q) : am_WP (am_entry mX7_depth [.inr (.inr (some (7, 0))), .inl (x), .inl (z), .inl (w)] :: g :: gs) (d + 5) (mk I X) Q := by
  have hn8 : nb s ≤ 8 := G.1.1.1
  refine am_go 400 ?_
  have tk0 : I 1 0 3 = nI (nb s) := h.1.1.1
  refine (c_X7_isBottle (x := x)) _ _ _ ?_
  refine am_go 400 ?_
  refine am_if (fun h1 => ?_) (fun h1 => ?_)
  · have h1 := bI_0.mp h1
    have h1 : ¬ ((0 : Int32) ≤ x ∧ x ≤ (I 1 0 3) - 1) := h1
    try rw [tk0] at h1
    exact k0 h1
  · have h1 := bI_1.mp h1
    have h1 : (0 : Int32) ≤ x ∧ x ≤ (I 1 0 3) - 1 := h1
    try rw [tk0] at h1
    obtain ⟨e_x, l_x⟩ := okb rfl hn8 h1
    obtain ⟨g0_x, g1_x, g2_x, g3_x, g5_x, gs_x⟩ := id (GS_b G l_x)
    refine (c_X7_within (z) (0) (999)) _ _ _ ?_
    refine am_go 400 ?_
    refine am_if (fun h2 => ?_) (fun h2 => ?_)
    · have h2 := bI_0.mp h2
      exact k1 h1 h2
    · have h2 := bI_1.mp h2
      obtain ⟨e_z, l_z⟩ := okl (m := 999) (by decide) h2
      refine (c_X7_within (w) (0) (1)) _ _ _ ?_
      refine am_go 400 ?_
      refine am_if (fun h3 => ?_) (fun h3 => ?_)
      · have h3 := bI_0.mp h3
        exact k2 h1 h2 h3
      · have h3 := bI_1.mp h3
        refine am_f (ix_in (n := (kx x)) (N := 8) e_x (by omega) (by decide)) ?_
        have tk1 : (x).toNatClampNeg = (kx x) := ix_cl (n := (kx x)) e_x (by omega)
        have bd : ((bo s (kx x)).1 3) ≤ 6 := (GS_b G (k := kx x) (by omega)).2.2.2.1
        have tk2 : I 0 (((x).toNatClampNeg)) 5 = nI ((bo s (kx x)).1 3) := by first | exact vC0 (j := 3) h (by omega) (by omega) | (((try rw [tk1])); first | done | exact vC0 (j := 3) h (by omega) (by omega))
        refine am_if (fun h4 => ?_) (fun h4 => ?_)
        · have nh4 := (eq_nat (a := ((bo s (kx x)).1 3)) (b := 0) tk2 (rfl : (0 : Int32) = nI 0) (by omega) (by omega)).mp h4
          exact k3 h1 h2 h3 nh4
        · have nh4 := mt (eq_nat (a := ((bo s (kx x)).1 3)) (b := 0) tk2 (rfl : (0 : Int32) = nI 0) (by omega) (by omega)).mpr h4
          refine (c_X2_look (I := I) (c := 0) (b := kx x) (show ((x).toNatClampNeg) = ((kx x)) by (try rw [tk1]); first | done | rfl) (bC h (k := kx x) (by omega)) (GS_b G (k := kx x) (by omega)) h.1.2 G.1.2.2.1 G.1.2.2.2 h.2.2.2.2.2.2.1) _ _ _ ?_
          intro I1 p1
          refine am_go 400 ?_
          have tk3 : nI (bdN (strN s.1.2.1 s.1.2.2 (bo s (kx x))) (gfN (bo s (kx x))) ((bo s (kx x)).1 3) (kx z)).1 = nI (bdN (strN s.1.2.1 s.1.2.2 (bo s (kx x))) (gfN (bo s (kx x))) ((bo s (kx x)).1 3) (kx z)).1 := rfl
          have bd1 : 1 ≤ (bdN (strN s.1.2.1 s.1.2.2 (bo s (kx x))) (gfN (bo s (kx x))) ((bo s (kx x)).1 3) (kx z)).1 := (bdN_i (st := strN s.1.2.1 s.1.2.2 (bo s (kx x))) (gf := gfN (bo s (kx x))) (left := (bo s (kx x)).1 3) (fo := (kx z)) (by omega)).1
          have bd2 : (bdN (strN s.1.2.1 s.1.2.2 (bo s (kx x))) (gfN (bo s (kx x))) ((bo s (kx x)).1 3) (kx z)).1 ≤ (bo s (kx x)).1 3 := (bdN_i (st := strN s.1.2.1 s.1.2.2 (bo s (kx x))) (gf := gfN (bo s (kx x))) (left := (bo s (kx x)).1 3) (fo := (kx z)) (by omega)).2.1
          refine (c_X2_bestDepth (I := I1) (L := (bo s (kx x)).1 3) (fo := (kx z)) p1.2.1 (fun l hl => strN_le (GS_b G (k := kx x) (by omega)) hl) (gfN_le (GS_b G (k := kx x) (by omega))) e_z (by omega) (by omega) (by omega)) _ _ _ ?_
          intro I2 p2
          refine am_go 400 ?_
          have bd : ((bo s (kx x)).1 3) ≤ 6 := (GS_b G (k := kx x) (by omega)).2.2.2.1
          have tk4 : I2 0 (((x).toNatClampNeg)) 5 = nI ((bo s (kx x)).1 3) := by first | exact ((congrFun (congrFun (p2.2 0 (by decide)) _) _).trans (((congrFun (congrFun (p1.1 0 (by decide)) _) _).trans (vC0 (j := 3) h (by omega) (by omega))))) | (((try rw [tk1])); first | done | exact ((congrFun (congrFun (p2.2 0 (by decide)) _) _).trans (((congrFun (congrFun (p1.1 0 (by decide)) _) _).trans (vC0 (j := 3) h (by omega) (by omega))))))
          refine (c_X2_think (I := I2) (L := (bo s (kx x)).1 3) (NkR_T p1.2.1 p2) (fun l hl => strN_le (GS_b G (k := kx x) (by omega)) hl) (gfN_le (GS_b G (k := kx x) (by omega))) tk4 tk3 e_z (by omega) (by omega) (by omega) (by omega) (by omega) (by omega)) _ _ _ ?_
          intro I3 p3
          refine am_go 400 ?_
          refine am_if (fun h5 => ?_) (fun h5 => ?_)
          · show am_WP (am_psh g (some (.inl ((nI (bdN (strN s.1.2.1 s.1.2.2 (bo s (kx x))) (gfN (bo s (kx x))) ((bo s (kx x)).1 3) (kx z)).1)))) :: gs) (d + 6) (mk I3 X) Q
            try rw [tk3]
            exact k4 h1 h2 h3 nh4 I1 p1 I2 p2 I3 p3 h5
          · have bd : (thinkN (strN s.1.2.1 s.1.2.2 (bo s (kx x))) (gfN (bo s (kx x))) ((bo s (kx x)).1 3) ((bdN (strN s.1.2.1 s.1.2.2 (bo s (kx x))) (gfN (bo s (kx x))) ((bo s (kx x)).1 3) (kx z)).1) (kx z)).1 ≤ ((bo s (kx x)).1 3) := (thinkN_le (st := strN s.1.2.1 s.1.2.2 (bo s (kx x))) (gf := gfN (bo s (kx x))) (left := ((bo s (kx x)).1 3)) (dp := ((bdN (strN s.1.2.1 s.1.2.2 (bo s (kx x))) (gfN (bo s (kx x))) ((bo s (kx x)).1 3) (kx z)).1)) (fo := (kx z)) (by omega) (by omega) (by omega)).1
            have tk5 : I3 2 0 5 = nI (thinkN (strN s.1.2.1 s.1.2.2 (bo s (kx x))) (gfN (bo s (kx x))) ((bo s (kx x)).1 3) ((bdN (strN s.1.2.1 s.1.2.2 (bo s (kx x))) (gfN (bo s (kx x))) ((bo s (kx x)).1 3) (kx z)).1) (kx z)).1 := p3.2.1
            show am_WP (am_psh g (some (.inl ((I3 2 0 5)))) :: gs) (d + 6) (mk I3 X) Q
            try rw [tk5]
            exact k5 h1 h2 h3 nh4 I1 p1 I2 p2 I3 p3 h5
theorem p_X7_depth {I X d s} (h : RC I X s) (G : GS s) (x z w : Int32) : Sp mX7_depth [.inr (.inr (some (7, 0))), .inl (x), .inl (z), .inl (w)] (d + 5) I X (OC I X (f_depth s x z w)) := fun g gs Q K => by
  have hn8 : nb s ≤ 8 := G.1.1.1
  have g8 : G8 s := G8_ G
  refine w_X7_depth h G  ?_ ?_ ?_ ?_ ?_ ?_
  · intro h0
    apply K_s K
    unfold f_depth
    rw [if_neg h0]
    exact ⟨rfl, h, FrC_r⟩
  · intro h0 h1
    obtain ⟨e_x, l_x⟩ := okb rfl hn8 h0
    obtain ⟨g0_x, g1_x, g2_x, g3_x, g5_x, gs_x⟩ := id (GS_b G l_x)
    apply K_s K
    unfold f_depth
    rw [if_pos h0, if_neg h1]
    exact ⟨rfl, h, FrC_r⟩
  · intro h0 h1 h2
    obtain ⟨e_x, l_x⟩ := okb rfl hn8 h0
    obtain ⟨g0_x, g1_x, g2_x, g3_x, g5_x, gs_x⟩ := id (GS_b G l_x)
    obtain ⟨e_z, l_z⟩ := okl (m := 999) (by decide) h1
    apply K_s K
    unfold f_depth
    rw [if_pos h0, if_pos h1, if_neg h2]
    exact ⟨rfl, h, FrC_r⟩
  · intro h0 h1 h2 h3
    obtain ⟨e_x, l_x⟩ := okb rfl hn8 h0
    obtain ⟨g0_x, g1_x, g2_x, g3_x, g5_x, gs_x⟩ := id (GS_b G l_x)
    obtain ⟨e_z, l_z⟩ := okl (m := 999) (by decide) h1
    apply K_s K
    unfold f_depth
    rw [if_pos h0, if_pos h1, if_pos h2, if_pos h3]
    exact ⟨rfl, h, FrC_r⟩
  · intro h0 h1 h2 h3 I1 p1 I2 p2 I3 p3 h7
    obtain ⟨e_x, l_x⟩ := okb rfl hn8 h0
    obtain ⟨g0_x, g1_x, g2_x, g3_x, g5_x, gs_x⟩ := id (GS_b G l_x)
    obtain ⟨e_z, l_z⟩ := okl (m := 999) (by decide) h1
    have hT := Tf_t p2 p3.1
    have hR2 : RC I3 X s := RC_N h (Tf_N p1.1 hT) (NkC_T p1.2.2 hT)
    have F2 : FrC I X I3 X := FrC_N (Tf_N p1.1 hT)
    have hb := bdN_i (st := strN s.1.2.1 s.1.2.2 (bo s (kx x))) (gf := gfN (bo s (kx x))) (left := (bo s (kx x)).1 3) (fo := kx z) (by omega)
    apply K_s K
    unfold f_depth
    rw [if_pos h0, if_pos h1, if_pos h2, if_neg h3, if_pos h7]
    exact ⟨rfl, hR2, F2⟩
  · intro h0 h1 h2 h3 I1 p1 I2 p2 I3 p3 h7
    obtain ⟨e_x, l_x⟩ := okb rfl hn8 h0
    obtain ⟨g0_x, g1_x, g2_x, g3_x, g5_x, gs_x⟩ := id (GS_b G l_x)
    obtain ⟨e_z, l_z⟩ := okl (m := 999) (by decide) h1
    have hT := Tf_t p2 p3.1
    have hR2 : RC I3 X s := RC_N h (Tf_N p1.1 hT) (NkC_T p1.2.2 hT)
    have F2 : FrC I X I3 X := FrC_N (Tf_N p1.1 hT)
    have hb := bdN_i (st := strN s.1.2.1 s.1.2.2 (bo s (kx x))) (gf := gfN (bo s (kx x))) (left := (bo s (kx x)).1 3) (fo := kx z) (by omega)
    apply K_s K
    unfold f_depth
    rw [if_pos h0, if_pos h1, if_pos h2, if_neg h3, if_neg h7]
    exact ⟨by unfold bdS; rw [hb.2.2.1], hR2, F2⟩

set_option maxRecDepth 100000 in
set_option maxHeartbeats 4000000 in
theorem w_depM_1 {I : Nat → Nat → Nat → Int32} {X : am_Z} {g : am_F} {gs : List am_F} {d : Nat} {Q : Option am_V → am_M → Prop} {s : St} (h : RM I s) (G : GS s) {k fo : Nat} {x z w : Int32} (hk : k < nb s) (hx : x = nI k) (hz : z = nI fo) (hfo : fo ≤ 999) (hl1 : 1 ≤ (bo s k).1 3)  (k0 : ∀ (I1 : Im), (Ts I (thinkN (strN s.1.2.1 s.1.2.2 (bo s k)) (gfN (bo s k)) ((bo s k).1 3) 1 fo) I1) → am_WP ((mX8_depth, 52, [some (.inr (.inr (some (8, 0)))), some (.inl (x)), some (.inl (z)), some (.inl (w)), some (.inl (1)), some (.inl ((nI (thinkN (strN s.1.2.1 s.1.2.2 (bo s k)) (gfN (bo s k)) ((bo s k).1 3) 1 fo).1))), some (.inl ((nI (thinkN (strN s.1.2.1 s.1.2.2 (bo s k)) (gfN (bo s k)) ((bo s k).1 3) 1 fo).2))), some (.inl (2))], []) :: g :: gs) (d + 4) (mk I1 X) Q) : am_WP ((mX8_depth, 52, [some (.inr (.inr (some (8, 0)))), some (.inl (x)), some (.inl (z)), some (.inl (w)), some (.inl (0)), some (.inl ((-1))), some (.inl (0)), some (.inl (1))], []) :: g :: gs) (d + 4) (mk I X) Q := by
  have hn8 : nb s ≤ 8 := G.1.1.1
  refine am_go 400 ?_
  have bd : ((bo s k).1 3) ≤ 6 := (GS_b G (k := k) (by omega)).2.2.2.1
  have tk0 : I 30 0 (6 + 18 * k + 3) = nI ((bo s k).1 3) := vM0 (k := k) (j := 3) h (by omega) (by omega)
  refine (c8_of (k := k) (j := 3) hx rfl (by omega)) _ _ _ ?_
  refine am_go 400 ?_
  refine (c_X8_thinksPull (I := I) (b := k) (a := ((bo s k).1 3)) (dp := 1) (fo := fo) (⟨bM h hk, h.1.2⟩ : CxM I k s.1.2.1 s.1.2.2 (bo s k)) (GS_b G hk) G.1.2.2.1 G.1.2.2.2 hx (by omega) tk0 (rfl : (1 : Int32) = nI 1) hz (by omega) (by omega) (by omega) (by omega) (by omega)) _ _ _ ?_
  intro I1 p1
  refine am_go 400 ?_
  have bd : (thinkN (strN s.1.2.1 s.1.2.2 (bo s k)) (gfN (bo s k)) ((bo s k).1 3) 1 fo).1 ≤ ((bo s k).1 3) := (thinkN_le (st := strN s.1.2.1 s.1.2.2 (bo s k)) (gf := gfN (bo s k)) (left := ((bo s k).1 3)) (dp := 1) (fo := fo) (by omega) (by omega) (by omega)).1
  have tk1 : I1 8 0 12 = nI (thinkN (strN s.1.2.1 s.1.2.2 (bo s k)) (gfN (bo s k)) ((bo s k).1 3) 1 fo).1 := p1.2.1
  refine am_t (by show (-1) < (I1 8 0 12); (try rw [tk1]); first | done | exact (n1l (by omega))) ?_
  have bd : (thinkN (strN s.1.2.1 s.1.2.2 (bo s k)) (gfN (bo s k)) ((bo s k).1 3) 1 fo).1 ≤ ((bo s k).1 3) := (thinkN_le (st := strN s.1.2.1 s.1.2.2 (bo s k)) (gf := gfN (bo s k)) (left := ((bo s k).1 3)) (dp := 1) (fo := fo) (by omega) (by omega) (by omega)).1
  have bd : (thinkN (strN s.1.2.1 s.1.2.2 (bo s k)) (gfN (bo s k)) ((bo s k).1 3) 1 fo).2 ≤ 18 := (thinkN_le (st := strN s.1.2.1 s.1.2.2 (bo s k)) (gf := gfN (bo s k)) (left := ((bo s k).1 3)) (dp := 1) (fo := fo) (by omega) (by omega) (by omega)).2
  have tk2 : I1 8 0 13 = nI (thinkN (strN s.1.2.1 s.1.2.2 (bo s k)) (gfN (bo s k)) ((bo s k).1 3) 1 fo).2 := p1.2.2
  show am_WP ((mX8_depth, 52, [some (.inr (.inr (some (8, 0)))), some (.inl (x)), some (.inl (z)), some (.inl (w)), some (.inl (1)), some (.inl ((I1 8 0 12))), some (.inl ((I1 8 0 13))), some (.inl (2))], []) :: g :: gs) (d + 4) (mk I1 X) Q
  try rw [tk2]
  try rw [tk1]
  exact k0 I1 p1
set_option maxRecDepth 100000 in
set_option maxHeartbeats 4000000 in
theorem w_depM_n {I : Nat → Nat → Nat → Int32} {X : am_Z} {g : am_F} {gs : List am_F} {d : Nat} {Q : Option am_V → am_M → Prop} {s : St} (h : RM I s) (G : GS s) {k fo : Nat} {x z w : Int32} (hk : k < nb s) (hx : x = nI k) (hz : z = nI fo) (hfo : fo ≤ 999) (hl1 : 1 ≤ (bo s k).1 3) {bb m l dd : Nat} (hm : m ≤ 6) (hl : l ≤ 18) (hd1 : 1 ≤ dd) (hd : dd ≤ 7) (k0 : (6 < dd) → (w = 0) → am_WP (am_psh g (some (.inl (nI bb))) :: gs) (d + 5) (mk I X) Q) (k1 : (6 < dd) → (¬ w = 0) → am_WP (am_psh g (some (.inl (nI m))) :: gs) (d + 5) (mk I X) Q) (k2 : (¬ (6 < dd)) → ∀ (I1 : Im), (Ts I (thinkN (strN s.1.2.1 s.1.2.2 (bo s k)) (gfN (bo s k)) ((bo s k).1 3) dd fo) I1) → (m < ((thinkN (strN s.1.2.1 s.1.2.2 (bo s k)) (gfN (bo s k)) ((bo s k).1 3) dd fo).1)) → am_WP ((mX8_depth, 52, [some (.inr (.inr (some (8, 0)))), some (.inl (x)), some (.inl (z)), some (.inl (w)), some (.inl (nI dd)), some (.inl ((nI (thinkN (strN s.1.2.1 s.1.2.2 (bo s k)) (gfN (bo s k)) ((bo s k).1 3) dd fo).1))), some (.inl ((nI (thinkN (strN s.1.2.1 s.1.2.2 (bo s k)) (gfN (bo s k)) ((bo s k).1 3) dd fo).2))), some (.inl ((nI (dd + 1))))], []) :: g :: gs) (d + 4) (mk I1 X) Q) (k3 : (¬ (6 < dd)) → ∀ (I1 : Im), (Ts I (thinkN (strN s.1.2.1 s.1.2.2 (bo s k)) (gfN (bo s k)) ((bo s k).1 3) dd fo) I1) → (¬ (m < ((thinkN (strN s.1.2.1 s.1.2.2 (bo s k)) (gfN (bo s k)) ((bo s k).1 3) dd fo).1))) → (((thinkN (strN s.1.2.1 s.1.2.2 (bo s k)) (gfN (bo s k)) ((bo s k).1 3) dd fo).1) = m) → (l ≤ ((thinkN (strN s.1.2.1 s.1.2.2 (bo s k)) (gfN (bo s k)) ((bo s k).1 3) dd fo).2)) → am_WP ((mX8_depth, 52, [some (.inr (.inr (some (8, 0)))), some (.inl (x)), some (.inl (z)), some (.inl (w)), some (.inl (nI bb)), some (.inl (nI m)), some (.inl (nI l)), some (.inl ((nI (dd + 1))))], []) :: g :: gs) (d + 4) (mk I1 X) Q) (k4 : (¬ (6 < dd)) → ∀ (I1 : Im), (Ts I (thinkN (strN s.1.2.1 s.1.2.2 (bo s k)) (gfN (bo s k)) ((bo s k).1 3) dd fo) I1) → (¬ (m < ((thinkN (strN s.1.2.1 s.1.2.2 (bo s k)) (gfN (bo s k)) ((bo s k).1 3) dd fo).1))) → (((thinkN (strN s.1.2.1 s.1.2.2 (bo s k)) (gfN (bo s k)) ((bo s k).1 3) dd fo).1) = m) → (¬ (l ≤ ((thinkN (strN s.1.2.1 s.1.2.2 (bo s k)) (gfN (bo s k)) ((bo s k).1 3) dd fo).2))) → am_WP ((mX8_depth, 52, [some (.inr (.inr (some (8, 0)))), some (.inl (x)), some (.inl (z)), some (.inl (w)), some (.inl (nI dd)), some (.inl ((nI (thinkN (strN s.1.2.1 s.1.2.2 (bo s k)) (gfN (bo s k)) ((bo s k).1 3) dd fo).1))), some (.inl ((nI (thinkN (strN s.1.2.1 s.1.2.2 (bo s k)) (gfN (bo s k)) ((bo s k).1 3) dd fo).2))), some (.inl ((nI (dd + 1))))], []) :: g :: gs) (d + 4) (mk I1 X) Q) (k5 : (¬ (6 < dd)) → ∀ (I1 : Im), (Ts I (thinkN (strN s.1.2.1 s.1.2.2 (bo s k)) (gfN (bo s k)) ((bo s k).1 3) dd fo) I1) → (¬ (m < ((thinkN (strN s.1.2.1 s.1.2.2 (bo s k)) (gfN (bo s k)) ((bo s k).1 3) dd fo).1))) → (¬ (((thinkN (strN s.1.2.1 s.1.2.2 (bo s k)) (gfN (bo s k)) ((bo s k).1 3) dd fo).1) = m)) → am_WP ((mX8_depth, 52, [some (.inr (.inr (some (8, 0)))), some (.inl (x)), some (.inl (z)), some (.inl (w)), some (.inl (nI bb)), some (.inl (nI m)), some (.inl (nI l)), some (.inl ((nI (dd + 1))))], []) :: g :: gs) (d + 4) (mk I1 X) Q) : am_WP ((mX8_depth, 52, [some (.inr (.inr (some (8, 0)))), some (.inl (x)), some (.inl (z)), some (.inl (w)), some (.inl (nI bb)), some (.inl (nI m)), some (.inl (nI l)), some (.inl (nI dd))], []) :: g :: gs) (d + 4) (mk I X) Q := by
  have hn8 : nb s ≤ 8 := G.1.1.1
  refine am_go 400 ?_
  refine am_if (fun h1 => ?_) (fun h1 => ?_)
  · have nh1 := (lt_nat (a := 6) (b := dd) (rfl : (6 : Int32) = nI 6) (rfl : (nI dd : Int32) = nI dd) (by omega) (by omega)).mp h1
    refine am_if (fun h2 => ?_) (fun h2 => ?_)
    · exact k0 nh1 h2
    · exact k1 nh1 h2
  · have nh1 := mt (lt_nat (a := 6) (b := dd) (rfl : (6 : Int32) = nI 6) (rfl : (nI dd : Int32) = nI dd) (by omega) (by omega)).mpr h1
    have bd : ((bo s k).1 3) ≤ 6 := (GS_b G (k := k) (by omega)).2.2.2.1
    have tk0 : I 30 0 (6 + 18 * k + 3) = nI ((bo s k).1 3) := vM0 (k := k) (j := 3) h (by omega) (by omega)
    refine (c8_of (k := k) (j := 3) hx rfl (by omega)) _ _ _ ?_
    refine am_go 400 ?_
    refine (c_X8_thinksPull (I := I) (b := k) (a := ((bo s k).1 3)) (dp := dd) (fo := fo) (⟨bM h hk, h.1.2⟩ : CxM I k s.1.2.1 s.1.2.2 (bo s k)) (GS_b G hk) G.1.2.2.1 G.1.2.2.2 hx (by omega) tk0 (rfl : (nI dd : Int32) = nI dd) hz (by omega) (by omega) (by omega) (by omega) (by omega)) _ _ _ ?_
    intro I1 p1
    refine am_go 400 ?_
    have bd : (thinkN (strN s.1.2.1 s.1.2.2 (bo s k)) (gfN (bo s k)) ((bo s k).1 3) dd fo).1 ≤ ((bo s k).1 3) := (thinkN_le (st := strN s.1.2.1 s.1.2.2 (bo s k)) (gf := gfN (bo s k)) (left := ((bo s k).1 3)) (dp := dd) (fo := fo) (by omega) (by omega) (by omega)).1
    have tk1 : I1 8 0 12 = nI (thinkN (strN s.1.2.1 s.1.2.2 (bo s k)) (gfN (bo s k)) ((bo s k).1 3) dd fo).1 := p1.2.1
    refine am_if (fun h3 => ?_) (fun h3 => ?_)
    · have nh3 := (lt_nat (a := m) (b := ((thinkN (strN s.1.2.1 s.1.2.2 (bo s k)) (gfN (bo s k)) ((bo s k).1 3) dd fo).1)) (rfl : (nI m : Int32) = nI m) tk1 (by omega) (by omega)).mp h3
      have bd : (thinkN (strN s.1.2.1 s.1.2.2 (bo s k)) (gfN (bo s k)) ((bo s k).1 3) dd fo).1 ≤ ((bo s k).1 3) := (thinkN_le (st := strN s.1.2.1 s.1.2.2 (bo s k)) (gf := gfN (bo s k)) (left := ((bo s k).1 3)) (dp := dd) (fo := fo) (by omega) (by omega) (by omega)).1
      have bd : (thinkN (strN s.1.2.1 s.1.2.2 (bo s k)) (gfN (bo s k)) ((bo s k).1 3) dd fo).2 ≤ 18 := (thinkN_le (st := strN s.1.2.1 s.1.2.2 (bo s k)) (gf := gfN (bo s k)) (left := ((bo s k).1 3)) (dp := dd) (fo := fo) (by omega) (by omega) (by omega)).2
      have tk2 : I1 8 0 13 = nI (thinkN (strN s.1.2.1 s.1.2.2 (bo s k)) (gfN (bo s k)) ((bo s k).1 3) dd fo).2 := p1.2.2
      have tk3 : (nI dd + 1) = nI (dd + 1) := (nI_addE rfl (rfl : (1 : Int32) = nI 1))
      show am_WP ((mX8_depth, 52, [some (.inr (.inr (some (8, 0)))), some (.inl (x)), some (.inl (z)), some (.inl (w)), some (.inl (nI dd)), some (.inl ((I1 8 0 12))), some (.inl ((I1 8 0 13))), some (.inl (((nI dd + 1))))], []) :: g :: gs) (d + 4) (mk I1 X) Q
      try rw [tk3]
      try rw [tk2]
      try rw [tk1]
      exact k2 nh1 I1 p1 nh3
    · have nh3 := mt (lt_nat (a := m) (b := ((thinkN (strN s.1.2.1 s.1.2.2 (bo s k)) (gfN (bo s k)) ((bo s k).1 3) dd fo).1)) (rfl : (nI m : Int32) = nI m) tk1 (by omega) (by omega)).mpr h3
      have bd : (thinkN (strN s.1.2.1 s.1.2.2 (bo s k)) (gfN (bo s k)) ((bo s k).1 3) dd fo).1 ≤ ((bo s k).1 3) := (thinkN_le (st := strN s.1.2.1 s.1.2.2 (bo s k)) (gf := gfN (bo s k)) (left := ((bo s k).1 3)) (dp := dd) (fo := fo) (by omega) (by omega) (by omega)).1
      refine am_if (fun h4 => ?_) (fun h4 => ?_)
      · have nh4 := (eq_nat (a := ((thinkN (strN s.1.2.1 s.1.2.2 (bo s k)) (gfN (bo s k)) ((bo s k).1 3) dd fo).1)) (b := m) tk1 (rfl : (nI m : Int32) = nI m) (by omega) (by omega)).mp h4
        have bd : (thinkN (strN s.1.2.1 s.1.2.2 (bo s k)) (gfN (bo s k)) ((bo s k).1 3) dd fo).2 ≤ 18 := (thinkN_le (st := strN s.1.2.1 s.1.2.2 (bo s k)) (gf := gfN (bo s k)) (left := ((bo s k).1 3)) (dp := dd) (fo := fo) (by omega) (by omega) (by omega)).2
        have tk4 : I1 8 0 13 = nI (thinkN (strN s.1.2.1 s.1.2.2 (bo s k)) (gfN (bo s k)) ((bo s k).1 3) dd fo).2 := p1.2.2
        refine am_if (fun h5 => ?_) (fun h5 => ?_)
        · have nh5 := (le_nat (a := l) (b := ((thinkN (strN s.1.2.1 s.1.2.2 (bo s k)) (gfN (bo s k)) ((bo s k).1 3) dd fo).2)) (rfl : (nI l : Int32) = nI l) tk4 (by omega) (by omega)).mp h5
          have tk5 : (nI dd + 1) = nI (dd + 1) := (nI_addE rfl (rfl : (1 : Int32) = nI 1))
          show am_WP ((mX8_depth, 52, [some (.inr (.inr (some (8, 0)))), some (.inl (x)), some (.inl (z)), some (.inl (w)), some (.inl (nI bb)), some (.inl (nI m)), some (.inl (nI l)), some (.inl (((nI dd + 1))))], []) :: g :: gs) (d + 4) (mk I1 X) Q
          try rw [tk5]
          exact k3 nh1 I1 p1 nh3 nh4 nh5
        · have nh5 := mt (le_nat (a := l) (b := ((thinkN (strN s.1.2.1 s.1.2.2 (bo s k)) (gfN (bo s k)) ((bo s k).1 3) dd fo).2)) (rfl : (nI l : Int32) = nI l) tk4 (by omega) (by omega)).mpr h5
          have bd : (thinkN (strN s.1.2.1 s.1.2.2 (bo s k)) (gfN (bo s k)) ((bo s k).1 3) dd fo).1 ≤ ((bo s k).1 3) := (thinkN_le (st := strN s.1.2.1 s.1.2.2 (bo s k)) (gf := gfN (bo s k)) (left := ((bo s k).1 3)) (dp := dd) (fo := fo) (by omega) (by omega) (by omega)).1
          have bd : (thinkN (strN s.1.2.1 s.1.2.2 (bo s k)) (gfN (bo s k)) ((bo s k).1 3) dd fo).2 ≤ 18 := (thinkN_le (st := strN s.1.2.1 s.1.2.2 (bo s k)) (gf := gfN (bo s k)) (left := ((bo s k).1 3)) (dp := dd) (fo := fo) (by omega) (by omega) (by omega)).2
          have tk6 : (nI dd + 1) = nI (dd + 1) := (nI_addE rfl (rfl : (1 : Int32) = nI 1))
          show am_WP ((mX8_depth, 52, [some (.inr (.inr (some (8, 0)))), some (.inl (x)), some (.inl (z)), some (.inl (w)), some (.inl (nI dd)), some (.inl ((I1 8 0 12))), some (.inl ((I1 8 0 13))), some (.inl (((nI dd + 1))))], []) :: g :: gs) (d + 4) (mk I1 X) Q
          try rw [tk6]
          try rw [tk4]
          try rw [tk1]
          exact k4 nh1 I1 p1 nh3 nh4 nh5
      · have nh4 := mt (eq_nat (a := ((thinkN (strN s.1.2.1 s.1.2.2 (bo s k)) (gfN (bo s k)) ((bo s k).1 3) dd fo).1)) (b := m) tk1 (rfl : (nI m : Int32) = nI m) (by omega) (by omega)).mpr h4
        have tk7 : (nI dd + 1) = nI (dd + 1) := (nI_addE rfl (rfl : (1 : Int32) = nI 1))
        show am_WP ((mX8_depth, 52, [some (.inr (.inr (some (8, 0)))), some (.inl (x)), some (.inl (z)), some (.inl (w)), some (.inl (nI bb)), some (.inl (nI m)), some (.inl (nI l)), some (.inl (((nI dd + 1))))], []) :: g :: gs) (d + 4) (mk I1 X) Q
        try rw [tk7]
        exact k5 nh1 I1 p1 nh3 nh4
theorem l_depM {I0 : Im} {X g gs d Q} {s : St} (h0 : RM I0 s) (G : GS s) {k fo : Nat} {x z w : Int32} (hk : k < nb s) (hx : x = nI k) (hz : z = nI fo) (hfo : fo ≤ 999) (hl1 : 1 ≤ (bo s k).1 3) : ∀ (n dd bb m l : Nat) (I : Im), dd + n = 7 → 1 ≤ dd → m ≤ 6 → l ≤ 18 → Tg I0 I →
    (∀ I', Tg I0 I' → am_WP (am_psh g (some (.inl (if w = 0 then nI (bdL (fun d => thinkN (strN s.1.2.1 s.1.2.2 (bo s k)) (gfN (bo s k)) ((bo s k).1 3) d fo) n dd (bb, m, l)).1 else nI (bdL (fun d => thinkN (strN s.1.2.1 s.1.2.2 (bo s k)) (gfN (bo s k)) ((bo s k).1 3) d fo) n dd (bb, m, l)).2.1))) :: gs) (d + 5) (mk I' X) Q) →
    am_WP ((mX8_depth, 52, [some (.inr (.inr (some (8, 0)))), some (.inl x), some (.inl z), some (.inl w), some (.inl (nI bb)), some (.inl (nI m)), some (.inl (nI l)), some (.inl (nI dd))], []) :: g :: gs) (d + 4) (mk I X) Q
  | 0, dd, bb, m, l, I, hd, h1, hm, hl, T, K => w_depM_n (RM_T h0 T) G hk hx hz hfo hl1 hm hl h1 (by omega) (fun _ hw => K_w (K I T) (if_pos hw)) (fun _ hw => K_w (K I T) (if_neg hw)) (fun h => absurd (by omega) h) (fun h => absurd (by omega) h) (fun h => absurd (by omega) h) (fun h => absurd (by omega) h)
  | n + 1, dd, bb, m, l, I, hd, h1, hm, hl, T, K => by
    have h6 : (bo s k).1 3 ≤ 6 := (GS_b G hk).2.2.2.1
    have hb := thinkN_le (st := strN s.1.2.1 s.1.2.2 (bo s k)) (gf := gfN (bo s k)) (fo := fo) h6 hl1 h1
    rw [bdL] at K
    have qn : ∀ p : ¬ btr (thinkN (strN s.1.2.1 s.1.2.2 (bo s k)) (gfN (bo s k)) ((bo s k).1 3) dd fo) m l, ∀ I1, Tg I0 I1 → am_WP ((mX8_depth, 52, [some (.inr (.inr (some (8, 0)))), some (.inl x), some (.inl z), some (.inl w), some (.inl (nI bb)), some (.inl (nI m)), some (.inl (nI l)), some (.inl (nI (dd + 1)))], []) :: g :: gs) (d + 4) (mk I1 X) Q := fun p I1 T1 => by
      rw [if_neg (show ¬ btr (thinkN (strN s.1.2.1 s.1.2.2 (bo s k)) (gfN (bo s k)) ((bo s k).1 3) dd fo) m l from p)] at K
      exact l_depM h0 G hk hx hz hfo hl1 n (dd + 1) _ _ _ I1 (by omega) (by omega) hm hl T1 K
    have qp : ∀ p : btr (thinkN (strN s.1.2.1 s.1.2.2 (bo s k)) (gfN (bo s k)) ((bo s k).1 3) dd fo) m l, ∀ I1, Tg I0 I1 → am_WP ((mX8_depth, 52, [some (.inr (.inr (some (8, 0)))), some (.inl x), some (.inl z), some (.inl w), some (.inl (nI dd)), some (.inl (nI (thinkN (strN s.1.2.1 s.1.2.2 (bo s k)) (gfN (bo s k)) ((bo s k).1 3) dd fo).1)), some (.inl (nI (thinkN (strN s.1.2.1 s.1.2.2 (bo s k)) (gfN (bo s k)) ((bo s k).1 3) dd fo).2)), some (.inl (nI (dd + 1)))], []) :: g :: gs) (d + 4) (mk I1 X) Q := fun p I1 T1 => by
      rw [if_pos (show btr (thinkN (strN s.1.2.1 s.1.2.2 (bo s k)) (gfN (bo s k)) ((bo s k).1 3) dd fo) m l from p)] at K
      exact l_depM h0 G hk hx hz hfo hl1 n (dd + 1) _ _ _ I1 (by omega) (by omega) (by omega) hb.2 T1 K
    refine w_depM_n (RM_T h0 T) G hk hx hz hfo hl1 hm hl h1 (by omega) (fun h => absurd h (by omega)) (fun h => absurd h (by omega)) ?_ ?_ ?_ ?_
    · intro _ I1 p1 q1; exact qp (by unfold btr; omega) I1 (Tg_t T p1.1)
    · intro _ I1 p1 q1 q2 q3; exact qn (by unfold btr; omega) I1 (Tg_t T p1.1)
    · intro _ I1 p1 q1 q2 q3; exact qp (by unfold btr; omega) I1 (Tg_t T p1.1)
    · intro _ I1 p1 q1 q2; exact qn (by unfold btr; omega) I1 (Tg_t T p1.1)
set_option maxRecDepth 100000 in
set_option maxHeartbeats 4000000 in
theorem w_X8_depth {I : Nat → Nat → Nat → Int32} {X : am_Z} {g : am_F} {gs : List am_F} {d : Nat} {Q : Option am_V → am_M → Prop} {s : St} (h : RM I s) (G : GS s) {x z w : Int32} (k0 : (¬ ((0 : Int32) ≤ x ∧ x ≤ (nI (nb s)) - 1)) → am_WP (am_psh g (some (.inl ((-1000000001)))) :: gs) (d + 5) (mk I X) Q) (k1 : ((0 : Int32) ≤ x ∧ x ≤ (nI (nb s)) - 1) → (¬ ((0 : Int32) ≤ z ∧ z ≤ 999)) → am_WP (am_psh g (some (.inl ((-1000000001)))) :: gs) (d + 5) (mk I X) Q) (k2 : ((0 : Int32) ≤ x ∧ x ≤ (nI (nb s)) - 1) → ((0 : Int32) ≤ z ∧ z ≤ 999) → (¬ ((0 : Int32) ≤ w ∧ w ≤ 1)) → am_WP (am_psh g (some (.inl ((-1000000001)))) :: gs) (d + 5) (mk I X) Q) (k3 : ((0 : Int32) ≤ x ∧ x ≤ (nI (nb s)) - 1) → ((0 : Int32) ≤ z ∧ z ≤ 999) → ((0 : Int32) ≤ w ∧ w ≤ 1) → (((bo s (kx x)).1 3) = 0) → am_WP (am_psh g (some (.inl ((-1000000005)))) :: gs) (d + 5) (mk I X) Q) (k4 : ((0 : Int32) ≤ x ∧ x ≤ (nI (nb s)) - 1) → ((0 : Int32) ≤ z ∧ z ≤ 999) → ((0 : Int32) ≤ w ∧ w ≤ 1) → (¬ (((bo s (kx x)).1 3) = 0)) → am_WP ((mX8_depth, 52, [some (.inr (.inr (some (8, 0)))), some (.inl (x)), some (.inl (z)), some (.inl (w)), some (.inl (0)), some (.inl ((-1))), some (.inl (0)), some (.inl (1))], []) :: g :: gs) (d + 4) (mk I X) Q) : am_WP (am_entry mX8_depth [.inr (.inr (some (8, 0))), .inl (x), .inl (z), .inl (w)] :: g :: gs) (d + 4) (mk I X) Q := by
  have hn8 : nb s ≤ 8 := G.1.1.1
  refine am_go 400 ?_
  have tk0 : I 30 0 0 = nI (nb s) := h.1.1.1
  refine (c_X8_isBottle (x := x)) _ _ _ ?_
  refine am_go 400 ?_
  refine am_if (fun h1 => ?_) (fun h1 => ?_)
  · have h1 := bI_0.mp h1
    have h1 : ¬ ((0 : Int32) ≤ x ∧ x ≤ (I 30 0 0) - 1) := h1
    try rw [tk0] at h1
    exact k0 h1
  · have h1 := bI_1.mp h1
    have h1 : (0 : Int32) ≤ x ∧ x ≤ (I 30 0 0) - 1 := h1
    try rw [tk0] at h1
    obtain ⟨e_x, l_x⟩ := okb rfl hn8 h1
    obtain ⟨g0_x, g1_x, g2_x, g3_x, g5_x, gs_x⟩ := id (GS_b G l_x)
    refine (c_X8_isForce (x := z)) _ _ _ ?_
    refine am_go 400 ?_
    refine am_if (fun h2 => ?_) (fun h2 => ?_)
    · have h2 := bI_0.mp h2
      exact k1 h1 h2
    · have h2 := bI_1.mp h2
      obtain ⟨e_z, l_z⟩ := okl (m := 999) (by decide) h2
      refine (m_isIn (w) (0) (1) _ _) _ _ _ ?_
      refine am_go 400 ?_
      refine am_if (fun h3 => ?_) (fun h3 => ?_)
      · have h3 := bI_0.mp h3
        exact k2 h1 h2 h3
      · have h3 := bI_1.mp h3
        have bd : ((bo s (kx x)).1 3) ≤ 6 := (GS_b G (k := kx x) (by omega)).2.2.2.1
        have tk1 : I 30 0 (6 + 18 * (kx x) + 3) = nI ((bo s (kx x)).1 3) := vM0 (k := kx x) (j := 3) h (by omega) (by omega)
        refine (c8_of (k := (kx x)) (j := 3) e_x rfl (by omega)) _ _ _ ?_
        refine am_go 400 ?_
        refine am_if (fun h4 => ?_) (fun h4 => ?_)
        · have nh4 := (eq_nat (a := ((bo s (kx x)).1 3)) (b := 0) tk1 (rfl : (0 : Int32) = nI 0) (by omega) (by omega)).mp h4
          exact k3 h1 h2 h3 nh4
        · have nh4 := mt (eq_nat (a := ((bo s (kx x)).1 3)) (b := 0) tk1 (rfl : (0 : Int32) = nI 0) (by omega) (by omega)).mpr h4
          refine am_cf rfl ?_
          refine am_cut ?_
          refine am_go 8 ?_
          exact k4 h1 h2 h3 nh4
theorem p_X8_depth {I X d s} (h : RM I s) (G : GS s) (x z w : Int32) : Sp mX8_depth [.inr (.inr (some (8, 0))), .inl (x), .inl (z), .inl (w)] (d + 4) I X (OM I X (f_depth s x z w)) := fun g gs Q K => by
  have hn8 : nb s ≤ 8 := G.1.1.1
  have g8 : G8 s := G8_ G
  refine w_X8_depth h G  ?_ ?_ ?_ ?_ ?_
  · intro h0
    apply K_s K
    unfold f_depth
    rw [if_neg h0]
    exact ⟨rfl, h, FrM_r, rfl⟩
  · intro h0 h1
    obtain ⟨e_x, l_x⟩ := okb rfl hn8 h0
    obtain ⟨g0_x, g1_x, g2_x, g3_x, g5_x, gs_x⟩ := id (GS_b G l_x)
    apply K_s K
    unfold f_depth
    rw [if_pos h0, if_neg h1]
    exact ⟨rfl, h, FrM_r, rfl⟩
  · intro h0 h1 h2
    obtain ⟨e_x, l_x⟩ := okb rfl hn8 h0
    obtain ⟨g0_x, g1_x, g2_x, g3_x, g5_x, gs_x⟩ := id (GS_b G l_x)
    obtain ⟨e_z, l_z⟩ := okl (m := 999) (by decide) h1
    apply K_s K
    unfold f_depth
    rw [if_pos h0, if_pos h1, if_neg h2]
    exact ⟨rfl, h, FrM_r, rfl⟩
  · intro h0 h1 h2 h3
    obtain ⟨e_x, l_x⟩ := okb rfl hn8 h0
    obtain ⟨g0_x, g1_x, g2_x, g3_x, g5_x, gs_x⟩ := id (GS_b G l_x)
    obtain ⟨e_z, l_z⟩ := okl (m := 999) (by decide) h1
    apply K_s K
    unfold f_depth
    rw [if_pos h0, if_pos h1, if_pos h2, if_pos h3]
    exact ⟨rfl, h, FrM_r, rfl⟩
  · intro h0 h1 h2 h3
    obtain ⟨e_x, l_x⟩ := okb rfl hn8 h0
    obtain ⟨g0_x, g1_x, g2_x, g3_x, g5_x, gs_x⟩ := id (GS_b G l_x)
    obtain ⟨e_z, l_z⟩ := okl (m := 999) (by decide) h1
    have h6 : (bo s (kx x)).1 3 ≤ 6 := (GS_b G l_x).2.2.2.1
    have hl1 : 1 ≤ (bo s (kx x)).1 3 := by omega
    have hb := thinkN_le (st := strN s.1.2.1 s.1.2.2 (bo s (kx x))) (gf := gfN (bo s (kx x))) (fo := kx z) (dp := 1) h6 hl1 (Nat.le_refl _)
    refine w_depM_1 h G l_x e_x e_z (by omega) hl1 (fun I1 p1 => ?_)
    refine l_depM h G l_x e_x e_z (by omega) hl1 5 2 1 _ _ I1 rfl (by omega) (by omega) hb.2 p1.1 ?_
    intro I2 T2
    have e6 : bdL (fun d => thinkN (strN s.1.2.1 s.1.2.2 (bo s (kx x))) (gfN (bo s (kx x))) ((bo s (kx x)).1 3) d (kx z)) 5 2 (1, thinkN (strN s.1.2.1 s.1.2.2 (bo s (kx x))) (gfN (bo s (kx x))) ((bo s (kx x)).1 3) 1 (kx z)) = bdS s (kx x) (kx z) := bdN_6 hl1 h6
    apply K_s K
    unfold f_depth
    rw [if_pos h0, if_pos h1, if_pos h2, if_neg h3]
    refine ⟨?_, ?_, ?_, rfl⟩
    · show (if w = 0 then nI (bdL _ 5 2 (1, thinkN _ _ _ 1 _)).1 else nI (bdL _ 5 2 (1, thinkN _ _ _ 1 _)).2.1) = _
      rw [e6]
      split <;> rfl
    · split <;> exact RM_T h T2
    · exact FrM_T T2

