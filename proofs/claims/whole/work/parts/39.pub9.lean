theorem am_cf {c : Bool} {A B : Prop} (h : c = false) (b : B) : cond c A B := by subst h; exact b
theorem nI_cast {x : Int32} {a b : Nat} (h : x = nI a) (e : a = b) : x = nI b := by rw [h, e]
theorem mxE {x y : Int32} {a b : Nat} (hx : x = nI a) (hy : y = nI b) (ha : a < 2 ^ 30) (hb : b < 2 ^ 30) : (if x - y < 0 then (0 : Int32) else x - y) = nI (a - b) := by rw [hx, hy]; exact mx0 hb ha
theorem minE {x y : Int32} {a b : Nat} (hx : x = nI a) (hy : y = nI b) (ha : a < 2 ^ 31) (hb : b < 2 ^ 31) : (if y < x then y else x) = nI (min a b) := by
  by_cases h : b < a
  · rw [if_pos ((lt_nat hy hx hb ha).mpr h), hy, Nat.min_eq_right (by omega)]
  · rw [if_neg (mt (lt_nat hy hx hb ha).mp h), hx, Nat.min_eq_left (by omega)]
theorem maxE {x y : Int32} {a b : Nat} (hx : x = nI a) (hy : y = nI b) (ha : a < 2 ^ 31) (hb : b < 2 ^ 31) : (if x < y then y else x) = nI (max a b) := by
  by_cases h : a < b
  · rw [if_pos ((lt_nat hx hy ha hb).mpr h), hy, Nat.max_eq_right (by omega)]
  · rw [if_neg (mt (lt_nat hx hy ha hb).mp h), hx, Nat.max_eq_left (by omega)]
theorem witS {x y : Int32} {a b m : Nat} (hx : x = nI a) (hy : y = nI b) (ha : a ≤ m) (hm : m < 2 ^ 30) (hb : b < 2 ^ 30) : wit (x - y) (nI m) = nI (a - b) := by rw [hx, hy]; exact wit_sub ha hm hb
theorem witM {x : Int32} {a m : Nat} (hx : x = nI a) (ha : a < 2 ^ 31) (hm : m < 2 ^ 31) : wit x (nI m) = nI (min a m) := by
  rw [hx]
  unfold wit
  rw [if_neg (nI_pos ha)]
  by_cases h : m < a
  · rw [if_pos ((nI_ltI hm ha).mpr h), Nat.min_eq_right (by omega)]
  · rw [if_neg (mt (nI_ltI hm ha).mp h), Nat.min_eq_left (by omega)]
theorem srt {s : St} {k : Nat} (G : GS s) (hk : k < 4) : 0 ≤ (sh s k).1 ↔ ¬ (sh s k).1 = -1 := by
  have q := (G.2.2.1 k hk).1
  constructor
  · intro h1 z
    rw [z] at h1
    exact absurd h1 (by decide)
  · intro h1
    rcases q with q | q | q
    · exact absurd q.1 h1
    · show 0 ≤ (s.2.2.1 k).1; rw [q]; decide
    · show 0 ≤ (s.2.2.1 k).1; rw [q]; decide
theorem srt2 {s : St} {k : Nat} (G : GS s) (hk : k < 4) (h : ¬ 0 ≤ (sh s k).1) : (sh s k).1 = -1 := by
  by_cases e : (sh s k).1 = -1
  · exact e
  · exact absurd ((srt G hk).mpr e) h
/-! reads -/
def rdF (r : Ro) (β : Bn) : Nat → Nat → Int32
  | 0, _ => cNONE
  | n + 1, i => if r.2.2 i = cNONE then rdF r β n (i + 1) else if 6 ≤ i then nI i else if r.2.2 i = nI (β.2.1 i) then rdF r β n (i + 1) else nI i
set_option maxRecDepth 100000 in
set_option maxHeartbeats 4000000 in
theorem w_X7_reads_53 {I : Nat → Nat → Nat → Int32} {X : am_Z} {g : am_F} {gs : List am_F} {d : Nat} {Q : Option am_V → am_M → Prop} {q b i : Nat} {r : Ro} {β : Bn} (h : RoC I q r) (hB : RB (cB I b) β) (hg : GB β) (hz : r.2.1 ≤ 24) {u v : Int32} (hi : i ≤ 24) (k0 : (r.2.1 ≤ i) → am_WP (am_psh g (some (.inl ((-1000000005)))) :: gs) (d + 4) (mk I X) Q) (k1 : (¬ (r.2.1 ≤ i)) → (¬ (i < r.2.1 ∧ ¬ r.2.2 i = cNONE)) → am_WP ((mX7_reads, 53, [some (.inr (.inr (some (7, 0)))), some (.inl (u)), some (.inl (v)), some (.inr (.inr (some (4, q)))), some (.inr (.inr (some (16, b)))), some (.inl ((nI (i + 1))))], []) :: g :: gs) (d + 3) (mk I X) Q) (k2 : (¬ (r.2.1 ≤ i)) → (i < r.2.1 ∧ ¬ r.2.2 i = cNONE) → (6 ≤ i) → am_WP (am_psh g (some (.inl (nI i))) :: gs) (d + 4) (mk I X) Q) (k3 : (¬ (r.2.1 ≤ i)) → (i < r.2.1 ∧ ¬ r.2.2 i = cNONE) → (¬ (6 ≤ i)) → (((r.2.2 (i))) = (nI (β.2.1 i))) → am_WP ((mX7_reads, 53, [some (.inr (.inr (some (7, 0)))), some (.inl (u)), some (.inl (v)), some (.inr (.inr (some (4, q)))), some (.inr (.inr (some (16, b)))), some (.inl ((nI (i + 1))))], []) :: g :: gs) (d + 3) (mk I X) Q) (k4 : (¬ (r.2.1 ≤ i)) → (i < r.2.1 ∧ ¬ r.2.2 i = cNONE) → (¬ (6 ≤ i)) → (¬ ((r.2.2 (i))) = (nI (β.2.1 i))) → am_WP (am_psh g (some (.inl (nI i))) :: gs) (d + 4) (mk I X) Q) : am_WP ((mX7_reads, 53, [some (.inr (.inr (some (7, 0)))), some (.inl (u)), some (.inl (v)), some (.inr (.inr (some (4, q)))), some (.inr (.inr (some (16, b)))), some (.inl (nI i))], []) :: g :: gs) (d + 3) (mk I X) Q := by
  refine am_go 400 ?_
  have tk0 : I 4 q 2 = nI r.2.1 := h.2.1
  refine am_if (fun h1 => ?_) (fun h1 => ?_)
  · have nh1 := (le_nat (a := r.2.1) (b := i) tk0 (rfl : (nI i : Int32) = nI i) (by omega) (by omega)).mp h1
    exact k0 nh1
  · have nh1 := mt (le_nat (a := r.2.1) (b := i) tk0 (rfl : (nI i : Int32) = nI i) (by omega) (by omega)).mpr h1
    refine (c_X4_isNumber (q := q) (i := i) h hz (rfl : (nI i : Int32) = nI i) (by omega)) _ _ _ ?_
    refine am_go 400 ?_
    refine am_if (fun h2 => ?_) (fun h2 => ?_)
    · have h2 := bI_0.mp h2
      have tk1 : (nI i + 1) = nI (i + 1) := (nI_addE rfl (rfl : (1 : Int32) = nI 1))
      show am_WP ((mX7_reads, 53, [some (.inr (.inr (some (7, 0)))), some (.inl (u)), some (.inl (v)), some (.inr (.inr (some (4, q)))), some (.inr (.inr (some (16, b)))), some (.inl (((nI i + 1))))], []) :: g :: gs) (d + 3) (mk I X) Q
      try rw [tk1]
      exact k1 nh1 h2
    · have h2 := bI_1.mp h2
      refine am_if (fun h3 => ?_) (fun h3 => ?_)
      · have nh3 := (le_nat (a := 6) (b := i) (rfl : (6 : Int32) = nI 6) (rfl : (nI i : Int32) = nI i) (by omega) (by omega)).mp h3
        exact k2 nh1 h2 nh3
      · have nh3 := mt (le_nat (a := 6) (b := i) (rfl : (6 : Int32) = nI 6) (rfl : (nI i : Int32) = nI i) (by omega) (by omega)).mpr h3
        refine am_f (ix_in (n := i) (N := 24) (rfl : (nI i : Int32) = nI i) (by omega) (by decide)) ?_
        have tk2 : (nI i).toNatClampNeg = i := ix_cl (n := i) (rfl : (nI i : Int32) = nI i) (by omega)
        have tk3 : I 25 q (((nI i).toNatClampNeg)) = (r.2.2 (i)) := by first | exact (h.2.2 _ (by omega)) | (((try rw [tk2])); first | done | exact (h.2.2 _ (by omega)))
        refine am_f (ix_in (n := i) (N := 6) (rfl : (nI i : Int32) = nI i) (by omega) (by decide)) ?_
        have bd : (β.2.1 i) ≤ 24 := (hg.2.2.2.2.2 _ (by omega)).1
        have tk4 : I 16 b (((nI i).toNatClampNeg)) = nI (β.2.1 i) := by first | exact (hB _ (by omega)).2.1 | (((try rw [tk2])); first | done | exact (hB _ (by omega)).2.1)
        refine am_if (fun h4 => ?_) (fun h4 => ?_)
        · have h4 : (I 25 q (((nI i).toNatClampNeg))) = (I 16 b (((nI i).toNatClampNeg))) := h4
          try rw [tk4] at h4
          try rw [tk3] at h4
          try rw [tk2] at h4
          have tk5 : (nI i + 1) = nI (i + 1) := (nI_addE rfl (rfl : (1 : Int32) = nI 1))
          show am_WP ((mX7_reads, 53, [some (.inr (.inr (some (7, 0)))), some (.inl (u)), some (.inl (v)), some (.inr (.inr (some (4, q)))), some (.inr (.inr (some (16, b)))), some (.inl (((nI i + 1))))], []) :: g :: gs) (d + 3) (mk I X) Q
          try rw [tk5]
          exact k3 nh1 h2 nh3 h4
        · have h4 : ¬ (I 25 q (((nI i).toNatClampNeg))) = (I 16 b (((nI i).toNatClampNeg))) := h4
          try rw [tk4] at h4
          try rw [tk3] at h4
          try rw [tk2] at h4
          exact k4 nh1 h2 nh3 h4
set_option maxRecDepth 100000 in
set_option maxHeartbeats 4000000 in
theorem w_X8_reads_33 {I : Nat → Nat → Nat → Int32} {X : am_Z} {g : am_F} {gs : List am_F} {d : Nat} {Q : Option am_V → am_M → Prop} {q b i : Nat} {r : Ro} {β : Bn} (h : RoM I q r) (hB : RB (mB (I 30 0) b) β) (hg : GB β) (hb : b < 8) (hq : q < 4) (hz : r.2.1 ≤ 24) (hi : i ≤ 24) {y : Option am_V} {u v : Int32} (hu : u = nI b) (hv : v = nI q) (k0 : (r.2.1 ≤ i) → am_WP (am_psh g (some (.inl ((-1000000005)))) :: gs) (d + 3) (mk I X) Q) (k1 : (¬ (r.2.1 ≤ i)) → (((r.2.2 i)) = (-1000000005)) → am_WP ((mX8_reads, 33, [some (.inr (.inr (some (8, 0)))), some (.inl (u)), some (.inl (v)), some (.inl ((nI (i + 1)))), some (.inl (((r.2.2 i))))], []) :: g :: gs) (d + 2) (mk I X) Q) (k2 : (¬ (r.2.1 ≤ i)) → (¬ ((r.2.2 i)) = (-1000000005)) → (6 ≤ i) → am_WP (am_psh g (some (.inl (nI i))) :: gs) (d + 3) (mk I X) Q) (k3 : (¬ (r.2.1 ≤ i)) → (¬ ((r.2.2 i)) = (-1000000005)) → (¬ (6 ≤ i)) → (((r.2.2 i)) = (nI (β.2.1 i))) → am_WP ((mX8_reads, 33, [some (.inr (.inr (some (8, 0)))), some (.inl (u)), some (.inl (v)), some (.inl ((nI (i + 1)))), some (.inl (((r.2.2 i))))], []) :: g :: gs) (d + 2) (mk I X) Q) (k4 : (¬ (r.2.1 ≤ i)) → (¬ ((r.2.2 i)) = (-1000000005)) → (¬ (6 ≤ i)) → (¬ ((r.2.2 i)) = (nI (β.2.1 i))) → am_WP (am_psh g (some (.inl (nI i))) :: gs) (d + 3) (mk I X) Q) : am_WP ((mX8_reads, 33, [some (.inr (.inr (some (8, 0)))), some (.inl (u)), some (.inl (v)), some (.inl (nI i)), y], []) :: g :: gs) (d + 2) (mk I X) Q := by
  refine am_go 400 ?_
  refine am_f (ix_in (n := q) (N := 4) hv (by omega) (by decide)) ?_
  have tk0 : (v).toNatClampNeg = q := ix_cl (n := q) hv (by omega)
  have tk1 : I 34 0 (((v).toNatClampNeg)) = nI r.2.1 := by first | exact h.2.1 | (((try rw [tk0])); first | done | exact h.2.1)
  refine am_if (fun h1 => ?_) (fun h1 => ?_)
  · have nh1 := (le_nat (a := r.2.1) (b := i) tk1 (rfl : (nI i : Int32) = nI i) (by omega) (by omega)).mp h1
    exact k0 nh1
  · have nh1 := mt (le_nat (a := r.2.1) (b := i) tk1 (rfl : (nI i : Int32) = nI i) (by omega) (by omega)).mpr h1
    refine am_f (ix_in (n := ((24 * q) + i)) (N := 96) (nI_addE (nI_mulE (rfl : (24 : Int32) = nI 24) hv) rfl) (by omega) (by decide)) ?_
    have tk2 : (((24 * v) + nI i)).toNatClampNeg = ((24 * q) + i) := ix_cl (n := ((24 * q) + i)) (nI_addE (nI_mulE (rfl : (24 : Int32) = nI 24) hv) rfl) (by omega)
    have tk3 : I 35 0 (((((24 * v) + nI i)).toNatClampNeg)) = (r.2.2 i) := by first | exact (h.2.2 _ (by omega)) | (((try rw [tk2])); first | done | exact (h.2.2 _ (by omega)))
    refine am_if (fun h2 => ?_) (fun h2 => ?_)
    · have h2 : (I 35 0 (((((24 * v) + nI i)).toNatClampNeg))) = (-1000000005) := h2
      try rw [tk3] at h2
      try rw [tk2] at h2
      have tk4 : (nI i + 1) = nI (i + 1) := (nI_addE rfl (rfl : (1 : Int32) = nI 1))
      show am_WP ((mX8_reads, 33, [some (.inr (.inr (some (8, 0)))), some (.inl (u)), some (.inl (v)), some (.inl (((nI i + 1)))), some (.inl ((I 35 0 (((((24 * v) + nI i)).toNatClampNeg)))))], []) :: g :: gs) (d + 2) (mk I X) Q
      try rw [tk3]
      try rw [tk2]
      try rw [tk4]
      exact k1 nh1 h2
    · have h2 : ¬ (I 35 0 (((((24 * v) + nI i)).toNatClampNeg))) = (-1000000005) := h2
      try rw [tk3] at h2
      try rw [tk2] at h2
      refine am_if (fun h3 => ?_) (fun h3 => ?_)
      · have nh3 := (le_nat (a := 6) (b := i) (rfl : (6 : Int32) = nI 6) (rfl : (nI i : Int32) = nI i) (by omega) (by omega)).mp h3
        exact k2 nh1 h2 nh3
      · have nh3 := mt (le_nat (a := 6) (b := i) (rfl : (6 : Int32) = nI 6) (rfl : (nI i : Int32) = nI i) (by omega) (by omega)).mpr h3
        have bd : (β.2.1 i) ≤ 24 := (hg.2.2.2.2.2 _ (by omega)).1
        have tk5 : I 30 0 (6 + 18 * b + (6 + i)) = nI (β.2.1 i) := (hB i (by omega)).2.1
        refine (c8_of (k := b) (j := (6 + i)) hu (nI_addE (rfl : (6 : Int32) = nI 6) rfl) (by omega)) _ _ _ ?_
        refine am_go 400 ?_
        refine am_if (fun h4 => ?_) (fun h4 => ?_)
        · have h4 : (I 35 0 (((((24 * v) + nI i)).toNatClampNeg))) = (I 30 0 (6 + 18 * b + (6 + i))) := h4
          try rw [tk3] at h4
          try rw [tk2] at h4
          try rw [tk5] at h4
          have tk6 : (nI i + 1) = nI (i + 1) := (nI_addE rfl (rfl : (1 : Int32) = nI 1))
          show am_WP ((mX8_reads, 33, [some (.inr (.inr (some (8, 0)))), some (.inl (u)), some (.inl (v)), some (.inl (((nI i + 1)))), some (.inl ((I 35 0 (((((24 * v) + nI i)).toNatClampNeg)))))], []) :: g :: gs) (d + 2) (mk I X) Q
          try rw [tk3]
          try rw [tk2]
          try rw [tk6]
          exact k3 nh1 h2 nh3 h4
        · have h4 : ¬ (I 35 0 (((((24 * v) + nI i)).toNatClampNeg))) = (I 30 0 (6 + 18 * b + (6 + i))) := h4
          try rw [tk3] at h4
          try rw [tk2] at h4
          try rw [tk5] at h4
          exact k4 nh1 h2 nh3 h4
theorem l_X7_reads {I X g gs d Q} {q b : Nat} {r : Ro} {β : Bn} (h : RoC I q r) (hB : RB (cB I b) β) (hg : GB β) (hz : r.2.1 ≤ 24) {u v : Int32} : ∀ (n i : Nat), i + n = r.2.1 → am_WP (am_psh g (some (.inl (rdF r β n i))) :: gs) (d + 4) (mk I X) Q →
    am_WP ((mX7_reads, 53, [some (.inr (.inr (some (7, 0)))), some (.inl u), some (.inl v), some (.inr (.inr (some (4, q)))), some (.inr (.inr (some (16, b)))), some (.inl (nI i))], []) :: g :: gs) (d + 3) (mk I X) Q
  | 0, i, e, K => w_X7_reads_53 h hB hg hz (by omega) (fun _ => K) (fun hn => absurd (by omega) hn) (fun hn => absurd (by omega) hn) (fun hn => absurd (by omega) hn) (fun hn => absurd (by omega) hn)
  | n + 1, i, e, K => w_X7_reads_53 h hB hg hz (by omega) (fun hn => absurd hn (by omega)) (fun _ h2 => l_X7_reads h hB hg hz n (i + 1) (by omega) (K_v (by rw [rdF, if_pos (Classical.byContradiction fun z => h2 ⟨by omega, z⟩)]) K))
      (fun _ h2 h3 => K_v (by rw [rdF, if_neg h2.2, if_pos h3]) K) (fun _ h2 h3 h4 => l_X7_reads h hB hg hz n (i + 1) (by omega) (K_v (by rw [rdF, if_neg h2.2, if_neg h3, if_pos h4]) K)) (fun _ h2 h3 h4 => K_v (by rw [rdF, if_neg h2.2, if_neg h3, if_neg h4]) K)
theorem l_X8_reads {I X g gs d Q} {u v : Int32} {q b : Nat} (hu : u = nI b) (hv : v = nI q) {r : Ro} {β : Bn} (h : RoM I q r) (hB : RB (mB (I 30 0) b) β) (hg : GB β) (hb : b < 8) (hq : q < 4) (hz : r.2.1 ≤ 24) : ∀ (n i : Nat) (y : Option am_V), i + n = r.2.1 → am_WP (am_psh g (some (.inl (rdF r β n i))) :: gs) (d + 3) (mk I X) Q →
    am_WP ((mX8_reads, 33, [some (.inr (.inr (some (8, 0)))), some (.inl u), some (.inl v), some (.inl (nI i)), y], []) :: g :: gs) (d + 2) (mk I X) Q
  | 0, i, y, e, K => w_X8_reads_33 h hB hg hb hq hz (by omega) hu hv (fun _ => K) (fun hn => absurd (by omega) hn) (fun hn => absurd (by omega) hn) (fun hn => absurd (by omega) hn) (fun hn => absurd (by omega) hn)
  | n + 1, i, y, e, K => w_X8_reads_33 h hB hg hb hq hz (by omega) hu hv (fun hn => absurd hn (by omega)) (fun _ h2 => l_X8_reads hu hv h hB hg hb hq hz n (i + 1) _ (by omega) (K_v (by rw [rdF, if_pos h2]) K))
      (fun _ h2 h3 => K_v (by rw [rdF, if_neg h2, if_pos h3]) K) (fun _ h2 h3 h4 => l_X8_reads hu hv h hB hg hb hq hz n (i + 1) _ (by omega) (K_v (by rw [rdF, if_neg h2, if_neg h3, if_pos h4]) K)) (fun _ h2 h3 h4 => K_v (by rw [rdF, if_neg h2, if_neg h3, if_neg h4]) K)
def f_reads (s : St) (x y : Int32) : Int32 × St := if isB s x then if 0 ≤ y ∧ y ≤ 3 then if (sh s (kx y)).1 = -1 then (cNOTH, s) else (rdF (sh s (kx y)) (bo s (kx x)) (sh s (kx y)).2.1 0, s) else (cBAD, s) else (cBAD, s)
set_option maxRecDepth 100000 in
set_option maxHeartbeats 4000000 in
theorem w_X7_reads {I : Nat → Nat → Nat → Int32} {X : am_Z} {g : am_F} {gs : List am_F} {d : Nat} {Q : Option am_V → am_M → Prop} {s : St} (h : RC I X s) (G : GS s) {x y : Int32} (k0 : (¬ ((0 : Int32) ≤ x ∧ x ≤ (nI (nb s)) - 1)) → am_WP (am_psh g (some (.inl ((-1000000001)))) :: gs) (d + 4) (mk I X) Q) (k1 : ((0 : Int32) ≤ x ∧ x ≤ (nI (nb s)) - 1) → (¬ ((0 : Int32) ≤ y ∧ y ≤ 3)) → am_WP (am_psh g (some (.inl ((-1000000001)))) :: gs) (d + 4) (mk I X) Q) (k2 : ((0 : Int32) ≤ x ∧ x ≤ (nI (nb s)) - 1) → ((0 : Int32) ≤ y ∧ y ≤ 3) → (((sh s (kx y)).1) = (-1)) → am_WP (am_psh g (some (.inl ((-1000000011)))) :: gs) (d + 4) (mk I X) Q) (k3 : ((0 : Int32) ≤ x ∧ x ≤ (nI (nb s)) - 1) → ((0 : Int32) ≤ y ∧ y ≤ 3) → (¬ ((sh s (kx y)).1) = (-1)) → am_WP ((mX7_reads, 53, [some (.inr (.inr (some (7, 0)))), some (.inl (x)), some (.inl (y)), some (.inr (.inr (some (4, ((kx y)))))), some (.inr (.inr (some (16, ((kx x)))))), some (.inl (0))], []) :: g :: gs) (d + 3) (mk I X) Q) : am_WP (am_entry mX7_reads [.inr (.inr (some (7, 0))), .inl (x), .inl (y)] :: g :: gs) (d + 3) (mk I X) Q := by
  have hn8 : nb s ≤ 8 := G.1.1.1
  refine am_go 400 ?_
  have tk0 : I 1 0 3 = nI (nb s) := h.1.1.1
  refine (c_X7_isBottle (x := x)) _ _ _ ?_
  refine am_go 400 ?_
  refine am_if (fun h1 => ?_) (fun h1 => ?_)
  · have h1 := bI_0.mp h1
    have h1 : ¬ ((0 : Int32) ≤ x ∧ x ≤ (I 1 0 3) - 1) := h1
    try rw [tk0] at h1
    exact k0 h1
  · have h1 := bI_1.mp h1
    have h1 : (0 : Int32) ≤ x ∧ x ≤ (I 1 0 3) - 1 := h1
    try rw [tk0] at h1
    obtain ⟨e_x, l_x⟩ := okb rfl hn8 h1
    obtain ⟨g0_x, g1_x, g2_x, g3_x, g5_x, gs_x⟩ := id (GS_b G l_x)
    refine (c_X7_isSheet (x := y)) _ _ _ ?_
    refine am_go 400 ?_
    refine am_if (fun h2 => ?_) (fun h2 => ?_)
    · have h2 := bI_0.mp h2
      exact k1 h1 h2
    · have h2 := bI_1.mp h2
      obtain ⟨e_y, l_y⟩ := okl (m := 3) (by decide) h2
      have z_y : (sh s (kx y)).2.1 ≤ 24 := (G.2.2.1 (kx y) (by omega)).2
      refine am_f (ix_in (n := (kx y)) (N := 4) e_y (by omega) (by decide)) ?_
      have tk1 : (y).toNatClampNeg = (kx y) := ix_cl (n := (kx y)) e_y (by omega)
      have tk2 : I 4 (((y).toNatClampNeg)) 1 = (sh s (kx y)).1 := by first | exact (shC h (k := kx y) (by omega)).1 | (((try rw [tk1])); first | done | exact (shC h (k := kx y) (by omega)).1)
      refine am_if (fun h3 => ?_) (fun h3 => ?_)
      · have h3 : (I 4 (((y).toNatClampNeg)) 1) = (-1) := h3
        try rw [tk2] at h3
        try rw [tk1] at h3
        exact k2 h1 h2 h3
      · have h3 : ¬ (I 4 (((y).toNatClampNeg)) 1) = (-1) := h3
        try rw [tk2] at h3
        try rw [tk1] at h3
        refine am_f (ix_in (n := (kx x)) (N := 8) e_x (by omega) (by decide)) ?_
        have tk3 : (x).toNatClampNeg = (kx x) := ix_cl (n := (kx x)) e_x (by omega)
        refine am_cut ?_
        refine am_go 4 ?_
        show am_WP ((mX7_reads, 53, [some (.inr (.inr (some (7, 0)))), some (.inl (x)), some (.inl (y)), some (.inr (.inr (some (4, ((y).toNatClampNeg))))), some (.inr (.inr (some (16, ((x).toNatClampNeg))))), some (.inl (0))], []) :: g :: gs) (d + 3) (mk I X) Q
        try rw [tk3]
        try rw [tk1]
        exact k3 h1 h2 h3
theorem p_X7_reads {I X d s} (h : RC I X s) (G : GS s) (x y : Int32) : Sp mX7_reads [.inr (.inr (some (7, 0))), .inl (x), .inl (y)] (d + 3) I X (OC I X (f_reads s x y)) := fun g gs Q K => by
  have hn8 : nb s ≤ 8 := G.1.1.1
  have g8 : G8 s := G8_ G
  refine w_X7_reads h G  ?_ ?_ ?_ ?_
  · intro h0
    apply K_s K
    unfold f_reads
    rw [if_neg h0]
    exact ⟨rfl, h, FrC_r⟩
  · intro h0 h1
    obtain ⟨e_x, l_x⟩ := okb rfl hn8 h0
    obtain ⟨g0_x, g1_x, g2_x, g3_x, g5_x, gs_x⟩ := id (GS_b G l_x)
    apply K_s K
    unfold f_reads
    rw [if_pos h0, if_neg h1]
    exact ⟨rfl, h, FrC_r⟩
  · intro h0 h1 h2
    obtain ⟨e_x, l_x⟩ := okb rfl hn8 h0
    obtain ⟨g0_x, g1_x, g2_x, g3_x, g5_x, gs_x⟩ := id (GS_b G l_x)
    obtain ⟨e_y, l_y⟩ := okl (m := 3) (by decide) h1
    have z_y : (sh s (kx y)).2.1 ≤ 24 := (G.2.2.1 (kx y) (by omega)).2
    apply K_s K
    unfold f_reads
    rw [if_pos h0, if_pos h1, if_pos h2]
    exact ⟨rfl, h, FrC_r⟩
  · intro h0 h1 h2
    obtain ⟨e_x, l_x⟩ := okb rfl hn8 h0
    obtain ⟨g0_x, g1_x, g2_x, g3_x, g5_x, gs_x⟩ := id (GS_b G l_x)
    obtain ⟨e_y, l_y⟩ := okl (m := 3) (by decide) h1
    have z_y : (sh s (kx y)).2.1 ≤ 24 := (G.2.2.1 (kx y) (by omega)).2
    refine l_X7_reads (shC h (by omega)) (bC h l_x) (GS_b G l_x) z_y _ 0 (Nat.zero_add _) ?_
    apply K_s K
    unfold f_reads
    rw [if_pos h0, if_pos h1, if_neg h2]
    exact ⟨rfl, h, FrC_r⟩

set_option maxRecDepth 100000 in
set_option maxHeartbeats 4000000 in
theorem w_X8_reads {I : Nat → Nat → Nat → Int32} {X : am_Z} {g : am_F} {gs : List am_F} {d : Nat} {Q : Option am_V → am_M → Prop} {s : St} (h : RM I s) (G : GS s) {x y : Int32} (k0 : (¬ ((0 : Int32) ≤ x ∧ x ≤ (nI (nb s)) - 1)) → am_WP (am_psh g (some (.inl ((-1000000001)))) :: gs) (d + 3) (mk I X) Q) (k1 : ((0 : Int32) ≤ x ∧ x ≤ (nI (nb s)) - 1) → (¬ ((0 : Int32) ≤ y ∧ y ≤ 3)) → am_WP (am_psh g (some (.inl ((-1000000001)))) :: gs) (d + 3) (mk I X) Q) (k2 : ((0 : Int32) ≤ x ∧ x ≤ (nI (nb s)) - 1) → ((0 : Int32) ≤ y ∧ y ≤ 3) → (0 ≤ ((sh s (kx y)).1)) → am_WP ((mX8_reads, 33, [some (.inr (.inr (some (8, 0)))), some (.inl (x)), some (.inl (y)), some (.inl (0)), none], []) :: g :: gs) (d + 2) (mk I X) Q) (k3 : ((0 : Int32) ≤ x ∧ x ≤ (nI (nb s)) - 1) → ((0 : Int32) ≤ y ∧ y ≤ 3) → (¬ 0 ≤ ((sh s (kx y)).1)) → am_WP (am_psh g (some (.inl ((-1000000011)))) :: gs) (d + 3) (mk I X) Q) : am_WP (am_entry mX8_reads [.inr (.inr (some (8, 0))), .inl (x), .inl (y)] :: g :: gs) (d + 2) (mk I X) Q := by
  have hn8 : nb s ≤ 8 := G.1.1.1
  refine am_go 400 ?_
  have tk0 : I 30 0 0 = nI (nb s) := h.1.1.1
  refine (c_X8_isBottle (x := x)) _ _ _ ?_
  refine am_go 400 ?_
  refine am_if (fun h1 => ?_) (fun h1 => ?_)
  · have h1 := bI_0.mp h1
    have h1 : ¬ ((0 : Int32) ≤ x ∧ x ≤ (I 30 0 0) - 1) := h1
    try rw [tk0] at h1
    exact k0 h1
  · have h1 := bI_1.mp h1
    have h1 : (0 : Int32) ≤ x ∧ x ≤ (I 30 0 0) - 1 := h1
    try rw [tk0] at h1
    obtain ⟨e_x, l_x⟩ := okb rfl hn8 h1
    obtain ⟨g0_x, g1_x, g2_x, g3_x, g5_x, gs_x⟩ := id (GS_b G l_x)
    refine (c_X8_isSheet (x := y)) _ _ _ ?_
    refine am_go 400 ?_
    refine am_if (fun h2 => ?_) (fun h2 => ?_)
    · have h2 := bI_0.mp h2
      exact k1 h1 h2
    · have h2 := bI_1.mp h2
      obtain ⟨e_y, l_y⟩ := okl (m := 3) (by decide) h2
      have z_y : (sh s (kx y)).2.1 ≤ 24 := (G.2.2.1 (kx y) (by omega)).2
      refine am_f (ix_in (n := (kx y)) (N := 4) e_y (by omega) (by decide)) ?_
      have tk1 : (y).toNatClampNeg = (kx y) := ix_cl (n := (kx y)) e_y (by omega)
      have tk2 : I 33 0 (((y).toNatClampNeg)) = (sh s (kx y)).1 := by first | exact (shM h (k := kx y) (by omega)).1 | (((try rw [tk1])); first | done | exact (shM h (k := kx y) (by omega)).1)
      refine am_if (fun h3 => ?_) (fun h3 => ?_)
      · have h3 : 0 ≤ (I 33 0 (((y).toNatClampNeg))) := h3
        try rw [tk2] at h3
        try rw [tk1] at h3
        refine am_cf rfl ?_
        refine am_cut ?_
        refine am_go 2 ?_
        exact k2 h1 h2 h3
      · have h3 : ¬ 0 ≤ (I 33 0 (((y).toNatClampNeg))) := h3
        try rw [tk2] at h3
        try rw [tk1] at h3
        exact k3 h1 h2 h3
theorem p_X8_reads {I X d s} (h : RM I s) (G : GS s) (x y : Int32) : Sp mX8_reads [.inr (.inr (some (8, 0))), .inl (x), .inl (y)] (d + 2) I X (OM I X (f_reads s x y)) := fun g gs Q K => by
  have hn8 : nb s ≤ 8 := G.1.1.1
  have g8 : G8 s := G8_ G
  refine w_X8_reads h G  ?_ ?_ ?_ ?_
  · intro h0
    apply K_s K
    unfold f_reads
    rw [if_neg h0]
    exact ⟨rfl, h, FrM_r, rfl⟩
  · intro h0 h1
    obtain ⟨e_x, l_x⟩ := okb rfl hn8 h0
    obtain ⟨g0_x, g1_x, g2_x, g3_x, g5_x, gs_x⟩ := id (GS_b G l_x)
    apply K_s K
    unfold f_reads
    rw [if_pos h0, if_neg h1]
    exact ⟨rfl, h, FrM_r, rfl⟩
  · intro h0 h1 h2
    obtain ⟨e_x, l_x⟩ := okb rfl hn8 h0
    obtain ⟨g0_x, g1_x, g2_x, g3_x, g5_x, gs_x⟩ := id (GS_b G l_x)
    obtain ⟨e_y, l_y⟩ := okl (m := 3) (by decide) h1
    have z_y : (sh s (kx y)).2.1 ≤ 24 := (G.2.2.1 (kx y) (by omega)).2
    refine l_X8_reads e_x e_y (shM h (by omega)) (bM h l_x) (GS_b G l_x) (by omega) (by omega) z_y _ 0 none (Nat.zero_add _) ?_
    apply K_s K
    unfold f_reads
    rw [if_pos h0, if_pos h1, if_neg ((srt G (k := kx y) (by omega)).mp h2)]
    exact ⟨rfl, h, FrM_r, rfl⟩
  · intro h0 h1 h2
    obtain ⟨e_x, l_x⟩ := okb rfl hn8 h0
    obtain ⟨g0_x, g1_x, g2_x, g3_x, g5_x, gs_x⟩ := id (GS_b G l_x)
    obtain ⟨e_y, l_y⟩ := okl (m := 3) (by decide) h1
    have z_y : (sh s (kx y)).2.1 ≤ 24 := (G.2.2.1 (kx y) (by omega)).2
    apply K_s K
    unfold f_reads
    rw [if_pos h0, if_pos h1, if_pos (srt2 G (k := kx y) (by omega) h2)]
    exact ⟨rfl, h, FrM_r, rfl⟩

