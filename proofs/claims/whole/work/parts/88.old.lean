/-! old: the differences -/
def GPl (p : Int32) : Prop := p = cNONE ∨ (-100000 ≤ p.toInt ∧ p.toInt ≤ 100000)
/-- the places of the sheets stay within their bounds -/
def GP (s : St) : Prop := ∀ k, k < 4 → ∀ j, j < 24 → GPl ((s.2.2.1 k).2.2 j)
def dfN (n : Nat) (p : Int32) : Nat := ((n : Int) - p.toInt).natAbs
theorem i32_of {x : Int32} {z : Int} (h1 : -2147483648 ≤ z) (h2 : z < 2147483648) (e : x.toInt = z.bmod 4294967296) : x.toInt = z := by
  rw [e]
  exact Int.bmod_eq_of_le (by omega) (by omega)
theorem i32_sub {a b : Int32} (h1 : -2147483648 ≤ a.toInt - b.toInt) (h2 : a.toInt - b.toInt < 2147483648) : (a - b).toInt = a.toInt - b.toInt := i32_of h1 h2 (Int32.toInt_sub a b)
theorem dfC {n : Nat} {p : Int32} (hn : n ≤ 100) (h1 : -100000 ≤ p.toInt) (h2 : p.toInt ≤ 100000) : (if 0 ≤ nI n - p then nI n - p else 0 - (nI n - p)) = nI (dfN n p) := by
  have en : (nI n).toInt = n := nI_toInt (by omega)
  have e1 : (nI n - p).toInt = n - p.toInt := by rw [i32_sub (by omega) (by omega), en]
  have e0 : (0 : Int32).toInt = 0 := rfl
  apply Int32.toInt_inj.mp
  have ed : (nI (dfN n p)).toInt = (dfN n p : Int) := nI_toInt (by unfold dfN; omega)
  rw [ed]
  unfold dfN
  split
  · rename_i q
    rw [Int32.le_iff_toInt_le, e1, e0] at q
    rw [e1]; omega
  · rename_i q
    rw [Int32.le_iff_toInt_le, e1, e0] at q
    rw [i32_sub (by rw [e1, e0]; omega) (by rw [e1, e0]; omega), e1, e0]; omega
theorem dfM {n : Nat} {p : Int32} (hn : n ≤ 100) (h1 : -100000 ≤ p.toInt) (h2 : p.toInt ≤ 100000) : (if p < nI n then nI n - p else p - nI n) = nI (dfN n p) := by
  have en : (nI n).toInt = n := nI_toInt (by omega)
  apply Int32.toInt_inj.mp
  have ed : (nI (dfN n p)).toInt = (dfN n p : Int) := nI_toInt (by unfold dfN; omega)
  rw [ed]
  unfold dfN
  split
  · rename_i q
    rw [Int32.lt_iff_toInt_lt, en] at q
    rw [i32_sub (by omega) (by omega), en]; omega
  · rename_i q
    rw [Int32.lt_iff_toInt_lt, en] at q
    rw [i32_sub (by omega) (by omega), en]; omega
def dfG (β : Bn) (k : Nat) : Nat := if k < 6 then grN β k else 0
def dfK (r : Ro) (β : Bn) (k : Nat) : Nat := if r.2.2 k = cNONE then 0 else dfN (dfG β k) (r.2.2 k)
def dfS (r : Ro) (β : Bn) : Nat → Nat → Nat → Nat
  | 0, _, t => t
  | m + 1, k, t => dfS r β m (k + 1) (t + dfK r β k)
theorem dfG_le {β : Bn} (hg : GB β) (k : Nat) : dfG β k ≤ 28 := by
  unfold dfG
  split
  · exact grN_le hg (by omega)
  · omega
theorem dfK_le {r : Ro} {β : Bn} {k : Nat} (hg : GB β) (hp : GPl (r.2.2 k)) : dfK r β k ≤ 100028 := by
  have := dfG_le hg k
  unfold dfK
  split
  · omega
  · rcases hp with q | q
    · exact absurd q ‹_›
    · unfold dfN; omega
theorem dfS_le {r : Ro} {β : Bn} (hg : GB β) (hp : ∀ j, j < 24 → GPl (r.2.2 j)) : ∀ (m k t : Nat), k + m ≤ 24 → t ≤ 100028 * k → dfS r β m k t ≤ 100028 * (k + m)
  | 0, k, t, _, ht => ht
  | m + 1, k, t, hk, ht => by
    have := dfK_le (k := k) hg (hp k (by omega))
    have e := dfS_le hg hp m (k + 1) (t + dfK r β k) (by omega) (by omega)
    rw [show k + 1 + m = k + (m + 1) by omega] at e
    exact e
set_option maxRecDepth 100000 in
set_option maxHeartbeats 4000000 in
theorem w_X7_differences_4 {I : Nat → Nat → Nat → Int32} {X : am_Z} {g : am_F} {gs : List am_F} {d : Nat} {Q : Option am_V → am_M → Prop} {q b k t : Nat} {r : Ro} {β : Bn} (h : RoC I q r) (hz : r.2.1 ≤ 24) (hB : RB (cB I b) β) (hg : GB β) (hk : k ≤ r.2.1) (k0 : (r.2.1 ≤ k) → am_WP (am_psh g (some (.inl (nI t))) :: gs) (d + 4) (mk I X) Q) (k1 : (¬ (r.2.1 ≤ k)) → (¬ (k < r.2.1 ∧ ¬ r.2.2 k = cNONE)) → am_WP ((mX7_differences, 4, [some (.inr (.inr (some (0, b)))), some (.inr (.inr (some (4, q)))), some (.inl (nI t)), some (.inl ((nI (k + 1))))], []) :: g :: gs) (d + 3) (mk I X) Q) (k2 : (¬ (r.2.1 ≤ k)) → (k < r.2.1 ∧ ¬ r.2.2 k = cNONE) → (6 ≤ k) → am_WP ((mX7_differences, 4, [some (.inr (.inr (some (0, b)))), some (.inr (.inr (some (4, q)))), some (.inl ((nI t + (if 0 ≤ (0 - ((r.2.2 (k)))) then (0 - ((r.2.2 (k)))) else 0 - (0 - ((r.2.2 (k)))))))), some (.inl ((nI (k + 1))))], []) :: g :: gs) (d + 3) (mk I X) Q) (k3 : (¬ (r.2.1 ≤ k)) → (k < r.2.1 ∧ ¬ r.2.2 k = cNONE) → (¬ (6 ≤ k)) → am_WP ((mX7_differences, 4, [some (.inr (.inr (some (0, b)))), some (.inr (.inr (some (4, q)))), some (.inl ((nI t + (if 0 ≤ (nI (grN β k) - ((r.2.2 (k)))) then (nI (grN β k) - ((r.2.2 (k)))) else 0 - (nI (grN β k) - ((r.2.2 (k)))))))), some (.inl ((nI (k + 1))))], []) :: g :: gs) (d + 3) (mk I X) Q) : am_WP ((mX7_differences, 4, [some (.inr (.inr (some (0, b)))), some (.inr (.inr (some (4, q)))), some (.inl (nI t)), some (.inl (nI k))], []) :: g :: gs) (d + 3) (mk I X) Q := by
  refine am_go 400 ?_
  have tk0 : I 4 q 2 = nI r.2.1 := h.2.1
  refine am_if (fun h1 => ?_) (fun h1 => ?_)
  · have nh1 := (le_nat (a := r.2.1) (b := k) tk0 (rfl : (nI k : Int32) = nI k) (by omega) (by omega)).mp h1
    exact k0 nh1
  · have nh1 := mt (le_nat (a := r.2.1) (b := k) tk0 (rfl : (nI k : Int32) = nI k) (by omega) (by omega)).mpr h1
    refine (c_X4_isNumber (q := q) (i := k) h hz (rfl : (nI k : Int32) = nI k) (by omega)) _ _ _ ?_
    refine am_go 400 ?_
    refine am_if (fun h2 => ?_) (fun h2 => ?_)
    · have h2 := bI_0.mp h2
      have tk1 : (nI k + 1) = nI (k + 1) := (nI_addE rfl (rfl : (1 : Int32) = nI 1))
      show am_WP ((mX7_differences, 4, [some (.inr (.inr (some (0, b)))), some (.inr (.inr (some (4, q)))), some (.inl (nI t)), some (.inl (((nI k + 1))))], []) :: g :: gs) (d + 3) (mk I X) Q
      try rw [tk1]
      exact k1 nh1 h2
    · have h2 := bI_1.mp h2
      refine am_if (fun h3 => ?_) (fun h3 => ?_)
      · have nh3 := (le_nat (a := 6) (b := k) (rfl : (6 : Int32) = nI 6) (rfl : (nI k : Int32) = nI k) (by omega) (by omega)).mp h3
        refine am_f (ix_in (n := k) (N := 24) (rfl : (nI k : Int32) = nI k) (by omega) (by decide)) ?_
        have tk2 : (nI k).toNatClampNeg = k := ix_cl (n := k) (rfl : (nI k : Int32) = nI k) (by omega)
        have tk3 : I 25 q (((nI k).toNatClampNeg)) = (r.2.2 (k)) := by first | exact (h.2.2 _ (by omega)) | (((try rw [tk2])); first | done | exact (h.2.2 _ (by omega)))
        have tk4 : (nI k + 1) = nI (k + 1) := (nI_addE rfl (rfl : (1 : Int32) = nI 1))
        show am_WP ((mX7_differences, 4, [some (.inr (.inr (some (0, b)))), some (.inr (.inr (some (4, q)))), some (.inl ((nI t + (if 0 ≤ (0 - (I 25 q (((nI k).toNatClampNeg)))) then (0 - (I 25 q (((nI k).toNatClampNeg)))) else 0 - (0 - (I 25 q (((nI k).toNatClampNeg)))))))), some (.inl (((nI k + 1))))], []) :: g :: gs) (d + 3) (mk I X) Q
        try rw [tk3]
        try rw [tk2]
        try rw [tk4]
        exact k2 nh1 h2 nh3
      · have nh3 := mt (le_nat (a := 6) (b := k) (rfl : (6 : Int32) = nI 6) (rfl : (nI k : Int32) = nI k) (by omega) (by omega)).mpr h3
        have bd : (grN β k) ≤ 28 := grN_le hg (by omega)
        refine (cE_X0_grips (I := I) (b := b) (l := k) rfl hB hg (rfl : (nI k : Int32) = nI k) (by omega)) _ _ _ ?_
        refine am_go 400 ?_
        refine am_f (ix_in (n := k) (N := 24) (rfl : (nI k : Int32) = nI k) (by omega) (by decide)) ?_
        have tk5 : (nI k).toNatClampNeg = k := ix_cl (n := k) (rfl : (nI k : Int32) = nI k) (by omega)
        have tk6 : I 25 q (((nI k).toNatClampNeg)) = (r.2.2 (k)) := by first | exact (h.2.2 _ (by omega)) | (((try rw [tk5])); first | done | exact (h.2.2 _ (by omega)))
        have tk7 : (nI k + 1) = nI (k + 1) := (nI_addE rfl (rfl : (1 : Int32) = nI 1))
        show am_WP ((mX7_differences, 4, [some (.inr (.inr (some (0, b)))), some (.inr (.inr (some (4, q)))), some (.inl ((nI t + (if 0 ≤ (nI (grN β k) - (I 25 q (((nI k).toNatClampNeg)))) then (nI (grN β k) - (I 25 q (((nI k).toNatClampNeg)))) else 0 - (nI (grN β k) - (I 25 q (((nI k).toNatClampNeg)))))))), some (.inl (((nI k + 1))))], []) :: g :: gs) (d + 3) (mk I X) Q
        try rw [tk6]
        try rw [tk5]
        try rw [tk7]
        exact k3 nh1 h2 nh3
set_option maxRecDepth 100000 in
set_option maxHeartbeats 4000000 in
theorem w_X7_differences {I : Nat → Nat → Nat → Int32} {X : am_Z} {g : am_F} {gs : List am_F} {d : Nat} {Q : Option am_V → am_M → Prop} {q b : Nat} (k0 : am_WP ((mX7_differences, 4, [some (.inr (.inr (some (0, b)))), some (.inr (.inr (some (4, q)))), some (.inl (0)), some (.inl (0))], []) :: g :: gs) (d + 3) (mk I X) Q) : am_WP (am_entry mX7_differences [.inr (.inr (some (0, b))), .inr (.inr (some (4, q)))] :: g :: gs) (d + 3) (mk I X) Q := by
  refine am_go 4 ?_
  exact k0
theorem dfK_0 {r : Ro} {β : Bn} {k : Nat} (h : r.2.2 k = cNONE) : dfK r β k = 0 := if_pos h
theorem dfK_C {r : Ro} {β : Bn} {k t : Nat} (hg : GB β) (hp : GPl (r.2.2 k)) (h : ¬ r.2.2 k = cNONE) : nI t + (if 0 ≤ nI (dfG β k) - r.2.2 k then nI (dfG β k) - r.2.2 k else 0 - (nI (dfG β k) - r.2.2 k)) = nI (t + dfK r β k) := by
  have g := dfG_le hg k
  rcases hp with q | q
  · exact absurd q h
  · rw [dfC (by omega) q.1 q.2, nI_add]
    unfold dfK
    rw [if_neg h]
theorem dfK_M {r : Ro} {β : Bn} {k t : Nat} (hg : GB β) (hp : GPl (r.2.2 k)) (h : ¬ r.2.2 k = cNONE) : nI t + (if r.2.2 k < nI (dfG β k) then nI (dfG β k) - r.2.2 k else r.2.2 k - nI (dfG β k)) = nI (t + dfK r β k) := by
  have g := dfG_le hg k
  rcases hp with q | q
  · exact absurd q h
  · rw [dfM (by omega) q.1 q.2, nI_add]
    unfold dfK
    rw [if_neg h]
theorem dfG_h {β : Bn} {k : Nat} (h : 6 ≤ k) : nI (dfG β k) = 0 := by unfold dfG; rw [if_neg (by omega)]; rfl
theorem dfG_l {β : Bn} {k : Nat} (h : ¬ 6 ≤ k) : dfG β k = grN β k := by unfold dfG; rw [if_pos (by omega)]
theorem l_dif {I : Im} {X g gs d Q} {q b : Nat} {r : Ro} {β : Bn} (h : RoC I q r) (hz : r.2.1 ≤ 24) (hp : ∀ j, j < 24 → GPl (r.2.2 j)) (hB : RB (cB I b) β) (hg : GB β) : ∀ (m k t : Nat), k + m = r.2.1 → am_WP (am_psh g (some (.inl (nI (dfS r β m k t)))) :: gs) (d + 4) (mk I X) Q →
    am_WP ((mX7_differences, 4, [some (.inr (.inr (some (0, b)))), some (.inr (.inr (some (4, q)))), some (.inl (nI t)), some (.inl (nI k))], []) :: g :: gs) (d + 3) (mk I X) Q
  | 0, k, t, hk, K => w_X7_differences_4 h hz hB hg (by omega) (fun _ => K) (fun z => absurd (by omega) z) (fun z => absurd (by omega) z) (fun z => absurd (by omega) z)
  | m + 1, k, t, hk, K => by
    have hp0 := hp k (by omega)
    refine w_X7_differences_4 h hz hB hg (by omega) (fun z => absurd z (by omega)) (fun _ z => ?_) (fun _ z h6 => ?_) (fun _ z h6 => ?_)
    · have e : r.2.2 k = cNONE := Classical.byContradiction (fun c => z ⟨by omega, c⟩)
      refine l_dif h hz hp hB hg m (k + 1) t (by omega) ?_
      rw [dfS, dfK_0 e] at K
      exact K
    · have e := dfK_C (t := t) hg hp0 z.2
      rw [dfG_h h6] at e
      rw [e]
      exact l_dif h hz hp hB hg m (k + 1) _ (by omega) K
    · have e := dfK_C (t := t) hg hp0 z.2
      rw [dfG_l h6] at e
      rw [e]
      exact l_dif h hz hp hB hg m (k + 1) _ (by omega) K
def dfT (r : Ro) (β : Bn) : Nat := dfS r β r.2.1 0 0
theorem dfT_le {r : Ro} {β : Bn} (hg : GB β) (hz : r.2.1 ≤ 24) (hp : ∀ j, j < 24 → GPl (r.2.2 j)) : dfT r β ≤ 3000000 := by
  have := dfS_le hg hp r.2.1 0 0 (by omega) (by omega)
  unfold dfT
  omega
theorem c_X7_differences {I : Im} {X d} {b' b q' q : Nat} {r : Ro} {β : Bn} (hb : b' = b) (hq : q' = q) (h : RoC I q r) (hz : r.2.1 ≤ 24) (hp : ∀ j, j < 24 → GPl (r.2.2 j)) (hB : RB (cB I b) β) (hg : GB β) : Rt mX7_differences [.inr (.inr (some (0, b'))), .inr (.inr (some (4, q')))] (d + 3) (mk I X) (some (.inl (nI (dfT r β)))) (mk I X) := fun g gs Q K => by
  subst hb; subst hq
  exact w_X7_differences (l_dif h hz hp hB hg r.2.1 0 0 (by omega) K)
theorem nn8 {n : Nat} (h : n ≤ 100000000) : ¬ nI n = -1000000005 := by
  intro z
  have a := congrArg Int32.toInt z
  rw [nI_toInt (by omega), show (-1000000005 : Int32).toInt = -1000000005 from rfl] at a
  omega
set_option maxRecDepth 100000 in
set_option maxHeartbeats 4000000 in
theorem w_fewb_0 {I : Nat → Nat → Nat → Int32} {X : am_Z} {g : am_F} {gs : List am_F} {d : Nat} {Q : Option am_V → am_M → Prop} {v t : Int32} {n : Nat} (hv : v = nI n) (hn : n ≤ 100000000) (ht : t = -1000000005) (k0 : am_WP (am_psh g (some (.inl (1))) :: gs) (d + 1) (mk I X) Q) : am_WP (am_entry mX7_isFewer [.inl (v), .inl (t)] :: g :: gs) (d) (mk I X) Q := by
  refine am_go 400 ?_
  refine am_f ((by rw [hv]; exact nn8 hn)) ?_
  refine am_t (ht) ?_
  exact k0
set_option maxRecDepth 100000 in
set_option maxHeartbeats 4000000 in
theorem w_fewb_1 {I : Nat → Nat → Nat → Int32} {X : am_Z} {g : am_F} {gs : List am_F} {d : Nat} {Q : Option am_V → am_M → Prop} {v t : Int32} {n m : Nat} (hv : v = nI n) (hn : n ≤ 100000000) (ht : t = nI m) (hm : m ≤ 100000000) (k0 : (m ≤ n) → am_WP (am_psh g (some (.inl (0))) :: gs) (d + 1) (mk I X) Q) (k1 : (¬ (m ≤ n)) → am_WP (am_psh g (some (.inl (1))) :: gs) (d + 1) (mk I X) Q) : am_WP (am_entry mX7_isFewer [.inl (v), .inl (t)] :: g :: gs) (d) (mk I X) Q := by
  refine am_go 400 ?_
  refine am_f ((by rw [hv]; exact nn8 hn)) ?_
  refine am_f ((by rw [ht]; exact nn8 hm)) ?_
  refine am_if (fun h1 => ?_) (fun h1 => ?_)
  · have nh1 := (le_nat (a := m) (b := n) ht hv (by omega) (by omega)).mp h1
    exact k0 nh1
  · have nh1 := mt (le_nat (a := m) (b := n) ht hv (by omega) (by omega)).mpr h1
    exact k1 nh1
theorem c_fewb_0 {I X d} {v t : Int32} {n : Nat} (hv : v = nI n) (hn : n ≤ 100000000) (ht : t = -1000000005) : Rt mX7_isFewer [.inl v, .inl t] d (mk I X) (some (.inl 1)) (mk I X) := fun g gs Q K => w_fewb_0 hv hn ht K
theorem c_fewb_1 {I X d} {v t : Int32} {n m : Nat} (hv : v = nI n) (hn : n ≤ 100000000) (ht : t = nI m) (hm : m ≤ 100000000) : Rt mX7_isFewer [.inl v, .inl t] d (mk I X) (some (.inl (bI (n < m)))) (mk I X) := fun g gs Q K => w_fewb_1 hv hn ht hm (fun h => K_v (bI_f (by omega)) K) (fun h => K_v (bI_t (by omega)) K)
set_option maxRecDepth 100000 in
set_option maxHeartbeats 4000000 in
theorem w_X8_off {I : Nat → Nat → Nat → Int32} {X : am_Z} {g : am_F} {gs : List am_F} {d : Nat} {Q : Option am_V → am_M → Prop} {x y : Int32} (k0 : (y ≤ x) → am_WP (am_psh g (some (.inl ((x - y)))) :: gs) (d + 1) (mk I X) Q) (k1 : (¬ y ≤ x) → am_WP (am_psh g (some (.inl ((y - x)))) :: gs) (d + 1) (mk I X) Q) : am_WP (am_entry mX8_off [.inl (x), .inl (y)] :: g :: gs) (d) (mk I X) Q := by
  refine am_go 400 ?_
  refine am_if (fun h1 => ?_) (fun h1 => ?_)
  · exact k0 h1
  · exact k1 h1
theorem c_X8_off {I X d} {x y : Int32} : Rt mX8_off [.inl x, .inl y] d (mk I X) (some (.inl (if x < y then y - x else x - y))) (mk I X) := fun g gs Q K => w_X8_off (fun h => K_v (if_neg (Int32.not_lt.mpr h)) K) (fun h => K_v (if_pos (Int32.not_le.mp h)) K)
