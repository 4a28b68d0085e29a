/-! rows laid by, laid back, set aside -/
theorem flU {I : Im} {g k i : Nat} {f : Nat → Int32} {v : Int32} (hv : v = f i) : up3 (fl I g k 0 i f) g k i v = fl I g k 0 (i + 1) f := by
  have := fl_s (I := I) (g := g) (k := k) (b := 0) (i := i) (f := f) hv
  rwa [Nat.zero_add] at this
set_option maxRecDepth 100000 in
set_option maxHeartbeats 4000000 in
theorem w_laysBy {I : Nat → Nat → Nat → Int32} {X : am_Z} {g : am_F} {gs : List am_F} {d : Nat} {Q : Option am_V → am_M → Prop}  (k0 : am_WP ((mX8_laysBy, 2, [some (.inr (.inr (some (8, 0)))), some (.inl (0))], []) :: g :: gs) (d) (mk I X) Q) : am_WP (am_entry mX8_laysBy [.inr (.inr (some (8, 0)))] :: g :: gs) (d) (mk I X) Q := by
  refine am_go 2 ?_
  exact k0
set_option maxRecDepth 100000 in
set_option maxHeartbeats 4000000 in
theorem w_laysBy_l {I : Nat → Nat → Nat → Int32} {X : am_Z} {g : am_F} {gs : List am_F} {d : Nat} {Q : Option am_V → am_M → Prop} {i : Nat} (hi : i ≤ 150) (k0 : (150 ≤ i) → am_WP (am_psh g none :: gs) (d + 1) (mk I X) Q) (k1 : (¬ (150 ≤ i)) → am_WP ((mX8_laysBy, 2, [some (.inr (.inr (some (8, 0)))), some (.inl ((nI (i + 1))))], []) :: g :: gs) (d) (mk (up3 I 43 0 (i) ((I 30 0 (i)))) X) Q) : am_WP ((mX8_laysBy, 2, [some (.inr (.inr (some (8, 0)))), some (.inl (nI i))], []) :: g :: gs) (d) (mk I X) Q := by
  refine am_go 400 ?_
  refine am_if (fun h1 => ?_) (fun h1 => ?_)
  · have nh1 := (le_nat (a := 150) (b := i) (rfl : (150 : Int32) = nI 150) (rfl : (nI i : Int32) = nI i) (by omega) (by omega)).mp h1
    exact k0 nh1
  · have nh1 := mt (le_nat (a := 150) (b := i) (rfl : (150 : Int32) = nI 150) (rfl : (nI i : Int32) = nI i) (by omega) (by omega)).mpr h1
    refine am_f (ix_in (n := i) (N := 3150) (rfl : (nI i : Int32) = nI i) (by omega) (by decide)) ?_
    have tk0 : (nI i).toNatClampNeg = i := ix_cl (n := i) (rfl : (nI i : Int32) = nI i) (by omega)
    refine am_f (ix_in (n := i) (N := 150) (rfl : (nI i : Int32) = nI i) (by omega) (by decide)) ?_
    have tk1 : (nI i + 1) = nI (i + 1) := (nI_addE rfl (rfl : (1 : Int32) = nI 1))
    show am_WP ((mX8_laysBy, 2, [some (.inr (.inr (some (8, 0)))), some (.inl (((nI i + 1))))], []) :: g :: gs) (d) (mk (up3 I 43 0 (((nI i).toNatClampNeg)) ((I 30 0 (((nI i).toNatClampNeg))))) X) Q
    try rw [tk0]
    try rw [tk1]
    exact k1 nh1
theorem l_laysBy {I : Im} {X g gs d Q} : ∀ (m i : Nat), i + m = 150 → am_WP (am_psh g none :: gs) (d + 1) (mk (fl I 43 0 0 150 (I 30 0)) X) Q →
    am_WP ((mX8_laysBy, 2, [some (.inr (.inr (some (8, 0)))), some (.inl (nI i))], []) :: g :: gs) d (mk (fl I 43 0 0 i (I 30 0)) X) Q
  | 0, i, hi, K => w_laysBy_l (by omega) (fun _ => by rw [show i = 150 by omega]; exact K) (fun h => absurd (by omega) h)
  | m + 1, i, hi, K => w_laysBy_l (by omega) (fun h => absurd h (by omega)) (fun _ => by
      rw [show up3 (fl I 43 0 0 i (I 30 0)) 43 0 i (fl I 43 0 0 i (I 30 0) 30 0 i) = fl I 43 0 0 (i + 1) (I 30 0) from flU (show I 30 0 i = _ from rfl)]
      exact l_laysBy m (i + 1) (by omega) K)
theorem c_laysBy {I : Im} {X d} : Rt mX8_laysBy [.inr (.inr (some (8, 0)))] d (mk I X) none (mk (fl I 43 0 0 150 (I 30 0)) X) := fun g gs Q K => by
  refine w_laysBy ?_
  have := l_laysBy (I := I) (X := X) (g := g) (gs := gs) (d := d) (Q := Q) 150 0 (Nat.zero_add _) K
  rwa [fl_0] at this
set_option maxRecDepth 100000 in
set_option maxHeartbeats 4000000 in
theorem w_laysBack {I : Nat → Nat → Nat → Int32} {X : am_Z} {g : am_F} {gs : List am_F} {d : Nat} {Q : Option am_V → am_M → Prop}  (k0 : am_WP ((mX8_laysBack, 2, [some (.inr (.inr (some (8, 0)))), some (.inl (0))], []) :: g :: gs) (d) (mk I X) Q) : am_WP (am_entry mX8_laysBack [.inr (.inr (some (8, 0)))] :: g :: gs) (d) (mk I X) Q := by
  refine am_go 2 ?_
  exact k0
set_option maxRecDepth 100000 in
set_option maxHeartbeats 4000000 in
theorem w_laysBack_l {I : Nat → Nat → Nat → Int32} {X : am_Z} {g : am_F} {gs : List am_F} {d : Nat} {Q : Option am_V → am_M → Prop} {i : Nat} (hi : i ≤ 150) (k0 : (150 ≤ i) → am_WP (am_psh g none :: gs) (d + 1) (mk I X) Q) (k1 : (¬ (150 ≤ i)) → am_WP ((mX8_laysBack, 2, [some (.inr (.inr (some (8, 0)))), some (.inl ((nI (i + 1))))], []) :: g :: gs) (d) (mk (up3 I 30 0 (i) ((I 43 0 (i)))) X) Q) : am_WP ((mX8_laysBack, 2, [some (.inr (.inr (some (8, 0)))), some (.inl (nI i))], []) :: g :: gs) (d) (mk I X) Q := by
  refine am_go 400 ?_
  refine am_if (fun h1 => ?_) (fun h1 => ?_)
  · have nh1 := (le_nat (a := 150) (b := i) (rfl : (150 : Int32) = nI 150) (rfl : (nI i : Int32) = nI i) (by omega) (by omega)).mp h1
    exact k0 nh1
  · have nh1 := mt (le_nat (a := 150) (b := i) (rfl : (150 : Int32) = nI 150) (rfl : (nI i : Int32) = nI i) (by omega) (by omega)).mpr h1
    refine am_f (ix_in (n := i) (N := 150) (rfl : (nI i : Int32) = nI i) (by omega) (by decide)) ?_
    have tk0 : (nI i).toNatClampNeg = i := ix_cl (n := i) (rfl : (nI i : Int32) = nI i) (by omega)
    refine am_f (ix_in (n := i) (N := 3150) (rfl : (nI i : Int32) = nI i) (by omega) (by decide)) ?_
    have tk1 : (nI i + 1) = nI (i + 1) := (nI_addE rfl (rfl : (1 : Int32) = nI 1))
    show am_WP ((mX8_laysBack, 2, [some (.inr (.inr (some (8, 0)))), some (.inl (((nI i + 1))))], []) :: g :: gs) (d) (mk (up3 I 30 0 (((nI i).toNatClampNeg)) ((I 43 0 (((nI i).toNatClampNeg))))) X) Q
    try rw [tk0]
    try rw [tk1]
    exact k1 nh1
theorem l_laysBack {I : Im} {X g gs d Q} : ∀ (m i : Nat), i + m = 150 → am_WP (am_psh g none :: gs) (d + 1) (mk (fl I 30 0 0 150 (I 43 0)) X) Q →
    am_WP ((mX8_laysBack, 2, [some (.inr (.inr (some (8, 0)))), some (.inl (nI i))], []) :: g :: gs) d (mk (fl I 30 0 0 i (I 43 0)) X) Q
  | 0, i, hi, K => w_laysBack_l (by omega) (fun _ => by rw [show i = 150 by omega]; exact K) (fun h => absurd (by omega) h)
  | m + 1, i, hi, K => w_laysBack_l (by omega) (fun h => absurd h (by omega)) (fun _ => by
      rw [show up3 (fl I 30 0 0 i (I 43 0)) 30 0 i (fl I 30 0 0 i (I 43 0) 43 0 i) = fl I 30 0 0 (i + 1) (I 43 0) from flU (show I 43 0 i = _ from rfl)]
      exact l_laysBack m (i + 1) (by omega) K)
theorem c_laysBack {I : Im} {X d} : Rt mX8_laysBack [.inr (.inr (some (8, 0)))] d (mk I X) none (mk (fl I 30 0 0 150 (I 43 0)) X) := fun g gs Q K => by
  refine w_laysBack ?_
  have := l_laysBack (I := I) (X := X) (g := g) (gs := gs) (d := d) (Q := Q) 150 0 (Nat.zero_add _) K
  rwa [fl_0] at this
set_option maxRecDepth 100000 in
set_option maxHeartbeats 4000000 in
theorem w_aside_30_32 {I : Nat → Nat → Nat → Int32} {X : am_Z} {g : am_F} {gs : List am_F} {d : Nat} {Q : Option am_V → am_M → Prop}  (k0 : am_WP ((mX8_setAside, 2, [some (.inr (.inr (some (8, 0)))), some (.inr (.inr (some (30, 0)))), some (.inr (.inr (some (32, 0)))), some (.inl (0))], []) :: g :: gs) (d) (mk I X) Q) : am_WP (am_entry mX8_setAside [.inr (.inr (some (8, 0))), .inr (.inr (some (30, 0))), .inr (.inr (some (32, 0)))] :: g :: gs) (d) (mk I X) Q := by
  refine am_go 2 ?_
  exact k0
set_option maxRecDepth 100000 in
set_option maxHeartbeats 4000000 in
theorem w_aside_30_32_l {I : Nat → Nat → Nat → Int32} {X : am_Z} {g : am_F} {gs : List am_F} {d : Nat} {Q : Option am_V → am_M → Prop} {i : Nat} (hi : i ≤ 2950) (k0 : (2950 ≤ i) → am_WP (am_psh g none :: gs) (d + 1) (mk I X) Q) (k1 : (¬ (2950 ≤ i)) → am_WP ((mX8_setAside, 2, [some (.inr (.inr (some (8, 0)))), some (.inr (.inr (some (30, 0)))), some (.inr (.inr (some (32, 0)))), some (.inl ((nI (i + 1))))], []) :: g :: gs) (d) (mk (up3 I 32 0 (i) ((I 30 0 (i)))) X) Q) : am_WP ((mX8_setAside, 2, [some (.inr (.inr (some (8, 0)))), some (.inr (.inr (some (30, 0)))), some (.inr (.inr (some (32, 0)))), some (.inl (nI i))], []) :: g :: gs) (d) (mk I X) Q := by
  refine am_go 400 ?_
  refine am_if (fun h1 => ?_) (fun h1 => ?_)
  · have nh1 := (le_nat (a := 2950) (b := i) (rfl : (2950 : Int32) = nI 2950) (rfl : (nI i : Int32) = nI i) (by omega) (by omega)).mp h1
    exact k0 nh1
  · have nh1 := mt (le_nat (a := 2950) (b := i) (rfl : (2950 : Int32) = nI 2950) (rfl : (nI i : Int32) = nI i) (by omega) (by omega)).mpr h1
    refine am_f (ix_in (n := i) (N := 3150) (rfl : (nI i : Int32) = nI i) (by omega) (by decide)) ?_
    have tk0 : (nI i).toNatClampNeg = i := ix_cl (n := i) (rfl : (nI i : Int32) = nI i) (by omega)
    refine am_f (ix_in (n := i) (N := 3150) (rfl : (nI i : Int32) = nI i) (by omega) (by decide)) ?_
    have tk1 : (nI i + 1) = nI (i + 1) := (nI_addE rfl (rfl : (1 : Int32) = nI 1))
    show am_WP ((mX8_setAside, 2, [some (.inr (.inr (some (8, 0)))), some (.inr (.inr (some (30, 0)))), some (.inr (.inr (some (32, 0)))), some (.inl (((nI i + 1))))], []) :: g :: gs) (d) (mk (up3 I 32 0 (((nI i).toNatClampNeg)) ((I 30 0 (((nI i).toNatClampNeg))))) X) Q
    try rw [tk0]
    try rw [tk1]
    exact k1 nh1
theorem l_aside_30_32 {I : Im} {X g gs d Q} : ∀ (m i : Nat), i + m = 2950 → am_WP (am_psh g none :: gs) (d + 1) (mk (fl I 32 0 0 2950 (I 30 0)) X) Q →
    am_WP ((mX8_setAside, 2, [some (.inr (.inr (some (8, 0)))), some (.inr (.inr (some (30, 0)))), some (.inr (.inr (some (32, 0)))), some (.inl (nI i))], []) :: g :: gs) d (mk (fl I 32 0 0 i (I 30 0)) X) Q
  | 0, i, hi, K => w_aside_30_32_l (by omega) (fun _ => by rw [show i = 2950 by omega]; exact K) (fun h => absurd (by omega) h)
  | m + 1, i, hi, K => w_aside_30_32_l (by omega) (fun h => absurd h (by omega)) (fun _ => by
      rw [show up3 (fl I 32 0 0 i (I 30 0)) 32 0 i (fl I 32 0 0 i (I 30 0) 30 0 i) = fl I 32 0 0 (i + 1) (I 30 0) from flU (show I 30 0 i = _ from rfl)]
      exact l_aside_30_32 m (i + 1) (by omega) K)
theorem c_aside_30_32 {I : Im} {X d} : Rt mX8_setAside [.inr (.inr (some (8, 0))), .inr (.inr (some (30, 0))), .inr (.inr (some (32, 0)))] d (mk I X) none (mk (fl I 32 0 0 2950 (I 30 0)) X) := fun g gs Q K => by
  refine w_aside_30_32 ?_
  have := l_aside_30_32 (I := I) (X := X) (g := g) (gs := gs) (d := d) (Q := Q) 2950 0 (Nat.zero_add _) K
  rwa [fl_0] at this
set_option maxRecDepth 100000 in
set_option maxHeartbeats 4000000 in
theorem w_aside_31_30 {I : Nat → Nat → Nat → Int32} {X : am_Z} {g : am_F} {gs : List am_F} {d : Nat} {Q : Option am_V → am_M → Prop}  (k0 : am_WP ((mX8_setAside, 2, [some (.inr (.inr (some (8, 0)))), some (.inr (.inr (some (31, 0)))), some (.inr (.inr (some (30, 0)))), some (.inl (0))], []) :: g :: gs) (d) (mk I X) Q) : am_WP (am_entry mX8_setAside [.inr (.inr (some (8, 0))), .inr (.inr (some (31, 0))), .inr (.inr (some (30, 0)))] :: g :: gs) (d) (mk I X) Q := by
  refine am_go 2 ?_
  exact k0
set_option maxRecDepth 100000 in
set_option maxHeartbeats 4000000 in
theorem w_aside_31_30_l {I : Nat → Nat → Nat → Int32} {X : am_Z} {g : am_F} {gs : List am_F} {d : Nat} {Q : Option am_V → am_M → Prop} {i : Nat} (hi : i ≤ 2950) (k0 : (2950 ≤ i) → am_WP (am_psh g none :: gs) (d + 1) (mk I X) Q) (k1 : (¬ (2950 ≤ i)) → am_WP ((mX8_setAside, 2, [some (.inr (.inr (some (8, 0)))), some (.inr (.inr (some (31, 0)))), some (.inr (.inr (some (30, 0)))), some (.inl ((nI (i + 1))))], []) :: g :: gs) (d) (mk (up3 I 30 0 (i) ((I 31 0 (i)))) X) Q) : am_WP ((mX8_setAside, 2, [some (.inr (.inr (some (8, 0)))), some (.inr (.inr (some (31, 0)))), some (.inr (.inr (some (30, 0)))), some (.inl (nI i))], []) :: g :: gs) (d) (mk I X) Q := by
  refine am_go 400 ?_
  refine am_if (fun h1 => ?_) (fun h1 => ?_)
  · have nh1 := (le_nat (a := 2950) (b := i) (rfl : (2950 : Int32) = nI 2950) (rfl : (nI i : Int32) = nI i) (by omega) (by omega)).mp h1
    exact k0 nh1
  · have nh1 := mt (le_nat (a := 2950) (b := i) (rfl : (2950 : Int32) = nI 2950) (rfl : (nI i : Int32) = nI i) (by omega) (by omega)).mpr h1
    refine am_f (ix_in (n := i) (N := 3150) (rfl : (nI i : Int32) = nI i) (by omega) (by decide)) ?_
    have tk0 : (nI i).toNatClampNeg = i := ix_cl (n := i) (rfl : (nI i : Int32) = nI i) (by omega)
    refine am_f (ix_in (n := i) (N := 3150) (rfl : (nI i : Int32) = nI i) (by omega) (by decide)) ?_
    have tk1 : (nI i + 1) = nI (i + 1) := (nI_addE rfl (rfl : (1 : Int32) = nI 1))
    show am_WP ((mX8_setAside, 2, [some (.inr (.inr (some (8, 0)))), some (.inr (.inr (some (31, 0)))), some (.inr (.inr (some (30, 0)))), some (.inl (((nI i + 1))))], []) :: g :: gs) (d) (mk (up3 I 30 0 (((nI i).toNatClampNeg)) ((I 31 0 (((nI i).toNatClampNeg))))) X) Q
    try rw [tk0]
    try rw [tk1]
    exact k1 nh1
theorem l_aside_31_30 {I : Im} {X g gs d Q} : ∀ (m i : Nat), i + m = 2950 → am_WP (am_psh g none :: gs) (d + 1) (mk (fl I 30 0 0 2950 (I 31 0)) X) Q →
    am_WP ((mX8_setAside, 2, [some (.inr (.inr (some (8, 0)))), some (.inr (.inr (some (31, 0)))), some (.inr (.inr (some (30, 0)))), some (.inl (nI i))], []) :: g :: gs) d (mk (fl I 30 0 0 i (I 31 0)) X) Q
  | 0, i, hi, K => w_aside_31_30_l (by omega) (fun _ => by rw [show i = 2950 by omega]; exact K) (fun h => absurd (by omega) h)
  | m + 1, i, hi, K => w_aside_31_30_l (by omega) (fun h => absurd h (by omega)) (fun _ => by
      rw [show up3 (fl I 30 0 0 i (I 31 0)) 30 0 i (fl I 30 0 0 i (I 31 0) 31 0 i) = fl I 30 0 0 (i + 1) (I 31 0) from flU (show I 31 0 i = _ from rfl)]
      exact l_aside_31_30 m (i + 1) (by omega) K)
theorem c_aside_31_30 {I : Im} {X d} : Rt mX8_setAside [.inr (.inr (some (8, 0))), .inr (.inr (some (31, 0))), .inr (.inr (some (30, 0)))] d (mk I X) none (mk (fl I 30 0 0 2950 (I 31 0)) X) := fun g gs Q K => by
  refine w_aside_31_30 ?_
  have := l_aside_31_30 (I := I) (X := X) (g := g) (gs := gs) (d := d) (Q := Q) 2950 0 (Nat.zero_add _) K
  rwa [fl_0] at this
set_option maxRecDepth 100000 in
set_option maxHeartbeats 4000000 in
theorem w_aside_32_30 {I : Nat → Nat → Nat → Int32} {X : am_Z} {g : am_F} {gs : List am_F} {d : Nat} {Q : Option am_V → am_M → Prop}  (k0 : am_WP ((mX8_setAside, 2, [some (.inr (.inr (some (8, 0)))), some (.inr (.inr (some (32, 0)))), some (.inr (.inr (some (30, 0)))), some (.inl (0))], []) :: g :: gs) (d) (mk I X) Q) : am_WP (am_entry mX8_setAside [.inr (.inr (some (8, 0))), .inr (.inr (some (32, 0))), .inr (.inr (some (30, 0)))] :: g :: gs) (d) (mk I X) Q := by
  refine am_go 2 ?_
  exact k0
set_option maxRecDepth 100000 in
set_option maxHeartbeats 4000000 in
theorem w_aside_32_30_l {I : Nat → Nat → Nat → Int32} {X : am_Z} {g : am_F} {gs : List am_F} {d : Nat} {Q : Option am_V → am_M → Prop} {i : Nat} (hi : i ≤ 2950) (k0 : (2950 ≤ i) → am_WP (am_psh g none :: gs) (d + 1) (mk I X) Q) (k1 : (¬ (2950 ≤ i)) → am_WP ((mX8_setAside, 2, [some (.inr (.inr (some (8, 0)))), some (.inr (.inr (some (32, 0)))), some (.inr (.inr (some (30, 0)))), some (.inl ((nI (i + 1))))], []) :: g :: gs) (d) (mk (up3 I 30 0 (i) ((I 32 0 (i)))) X) Q) : am_WP ((mX8_setAside, 2, [some (.inr (.inr (some (8, 0)))), some (.inr (.inr (some (32, 0)))), some (.inr (.inr (some (30, 0)))), some (.inl (nI i))], []) :: g :: gs) (d) (mk I X) Q := by
  refine am_go 400 ?_
  refine am_if (fun h1 => ?_) (fun h1 => ?_)
  · have nh1 := (le_nat (a := 2950) (b := i) (rfl : (2950 : Int32) = nI 2950) (rfl : (nI i : Int32) = nI i) (by omega) (by omega)).mp h1
    exact k0 nh1
  · have nh1 := mt (le_nat (a := 2950) (b := i) (rfl : (2950 : Int32) = nI 2950) (rfl : (nI i : Int32) = nI i) (by omega) (by omega)).mpr h1
    refine am_f (ix_in (n := i) (N := 3150) (rfl : (nI i : Int32) = nI i) (by omega) (by decide)) ?_
    have tk0 : (nI i).toNatClampNeg = i := ix_cl (n := i) (rfl : (nI i : Int32) = nI i) (by omega)
    refine am_f (ix_in (n := i) (N := 3150) (rfl : (nI i : Int32) = nI i) (by omega) (by decide)) ?_
    have tk1 : (nI i + 1) = nI (i + 1) := (nI_addE rfl (rfl : (1 : Int32) = nI 1))
    show am_WP ((mX8_setAside, 2, [some (.inr (.inr (some (8, 0)))), some (.inr (.inr (some (32, 0)))), some (.inr (.inr (some (30, 0)))), some (.inl (((nI i + 1))))], []) :: g :: gs) (d) (mk (up3 I 30 0 (((nI i).toNatClampNeg)) ((I 32 0 (((nI i).toNatClampNeg))))) X) Q
    try rw [tk0]
    try rw [tk1]
    exact k1 nh1
theorem l_aside_32_30 {I : Im} {X g gs d Q} : ∀ (m i : Nat), i + m = 2950 → am_WP (am_psh g none :: gs) (d + 1) (mk (fl I 30 0 0 2950 (I 32 0)) X) Q →
    am_WP ((mX8_setAside, 2, [some (.inr (.inr (some (8, 0)))), some (.inr (.inr (some (32, 0)))), some (.inr (.inr (some (30, 0)))), some (.inl (nI i))], []) :: g :: gs) d (mk (fl I 30 0 0 i (I 32 0)) X) Q
  | 0, i, hi, K => w_aside_32_30_l (by omega) (fun _ => by rw [show i = 2950 by omega]; exact K) (fun h => absurd (by omega) h)
  | m + 1, i, hi, K => w_aside_32_30_l (by omega) (fun h => absurd h (by omega)) (fun _ => by
      rw [show up3 (fl I 30 0 0 i (I 32 0)) 30 0 i (fl I 30 0 0 i (I 32 0) 32 0 i) = fl I 30 0 0 (i + 1) (I 32 0) from flU (show I 32 0 i = _ from rfl)]
      exact l_aside_32_30 m (i + 1) (by omega) K)
theorem c_aside_32_30 {I : Im} {X d} : Rt mX8_setAside [.inr (.inr (some (8, 0))), .inr (.inr (some (32, 0))), .inr (.inr (some (30, 0)))] d (mk I X) none (mk (fl I 30 0 0 2950 (I 32 0)) X) := fun g gs Q K => by
  refine w_aside_32_30 ?_
  have := l_aside_32_30 (I := I) (X := X) (g := g) (gs := gs) (d := d) (Q := Q) 2950 0 (Nat.zero_add _) K
  rwa [fl_0] at this
set_option maxRecDepth 100000 in
set_option maxHeartbeats 4000000 in
theorem w_aside_30_31 {I : Nat → Nat → Nat → Int32} {X : am_Z} {g : am_F} {gs : List am_F} {d : Nat} {Q : Option am_V → am_M → Prop}  (k0 : am_WP ((mX8_setAside, 2, [some (.inr (.inr (some (8, 0)))), some (.inr (.inr (some (30, 0)))), some (.inr (.inr (some (31, 0)))), some (.inl (0))], []) :: g :: gs) (d) (mk I X) Q) : am_WP (am_entry mX8_setAside [.inr (.inr (some (8, 0))), .inr (.inr (some (30, 0))), .inr (.inr (some (31, 0)))] :: g :: gs) (d) (mk I X) Q := by
  refine am_go 2 ?_
  exact k0
set_option maxRecDepth 100000 in
set_option maxHeartbeats 4000000 in
theorem w_aside_30_31_l {I : Nat → Nat → Nat → Int32} {X : am_Z} {g : am_F} {gs : List am_F} {d : Nat} {Q : Option am_V → am_M → Prop} {i : Nat} (hi : i ≤ 2950) (k0 : (2950 ≤ i) → am_WP (am_psh g none :: gs) (d + 1) (mk I X) Q) (k1 : (¬ (2950 ≤ i)) → am_WP ((mX8_setAside, 2, [some (.inr (.inr (some (8, 0)))), some (.inr (.inr (some (30, 0)))), some (.inr (.inr (some (31, 0)))), some (.inl ((nI (i + 1))))], []) :: g :: gs) (d) (mk (up3 I 31 0 (i) ((I 30 0 (i)))) X) Q) : am_WP ((mX8_setAside, 2, [some (.inr (.inr (some (8, 0)))), some (.inr (.inr (some (30, 0)))), some (.inr (.inr (some (31, 0)))), some (.inl (nI i))], []) :: g :: gs) (d) (mk I X) Q := by
  refine am_go 400 ?_
  refine am_if (fun h1 => ?_) (fun h1 => ?_)
  · have nh1 := (le_nat (a := 2950) (b := i) (rfl : (2950 : Int32) = nI 2950) (rfl : (nI i : Int32) = nI i) (by omega) (by omega)).mp h1
    exact k0 nh1
  · have nh1 := mt (le_nat (a := 2950) (b := i) (rfl : (2950 : Int32) = nI 2950) (rfl : (nI i : Int32) = nI i) (by omega) (by omega)).mpr h1
    refine am_f (ix_in (n := i) (N := 3150) (rfl : (nI i : Int32) = nI i) (by omega) (by decide)) ?_
    have tk0 : (nI i).toNatClampNeg = i := ix_cl (n := i) (rfl : (nI i : Int32) = nI i) (by omega)
    refine am_f (ix_in (n := i) (N := 3150) (rfl : (nI i : Int32) = nI i) (by omega) (by decide)) ?_
    have tk1 : (nI i + 1) = nI (i + 1) := (nI_addE rfl (rfl : (1 : Int32) = nI 1))
    show am_WP ((mX8_setAside, 2, [some (.inr (.inr (some (8, 0)))), some (.inr (.inr (some (30, 0)))), some (.inr (.inr (some (31, 0)))), some (.inl (((nI i + 1))))], []) :: g :: gs) (d) (mk (up3 I 31 0 (((nI i).toNatClampNeg)) ((I 30 0 (((nI i).toNatClampNeg))))) X) Q
    try rw [tk0]
    try rw [tk1]
    exact k1 nh1
theorem l_aside_30_31 {I : Im} {X g gs d Q} : ∀ (m i : Nat), i + m = 2950 → am_WP (am_psh g none :: gs) (d + 1) (mk (fl I 31 0 0 2950 (I 30 0)) X) Q →
    am_WP ((mX8_setAside, 2, [some (.inr (.inr (some (8, 0)))), some (.inr (.inr (some (30, 0)))), some (.inr (.inr (some (31, 0)))), some (.inl (nI i))], []) :: g :: gs) d (mk (fl I 31 0 0 i (I 30 0)) X) Q
  | 0, i, hi, K => w_aside_30_31_l (by omega) (fun _ => by rw [show i = 2950 by omega]; exact K) (fun h => absurd (by omega) h)
  | m + 1, i, hi, K => w_aside_30_31_l (by omega) (fun h => absurd h (by omega)) (fun _ => by
      rw [show up3 (fl I 31 0 0 i (I 30 0)) 31 0 i (fl I 31 0 0 i (I 30 0) 30 0 i) = fl I 31 0 0 (i + 1) (I 30 0) from flU (show I 30 0 i = _ from rfl)]
      exact l_aside_30_31 m (i + 1) (by omega) K)
theorem c_aside_30_31 {I : Im} {X d} : Rt mX8_setAside [.inr (.inr (some (8, 0))), .inr (.inr (some (30, 0))), .inr (.inr (some (31, 0)))] d (mk I X) none (mk (fl I 31 0 0 2950 (I 30 0)) X) := fun g gs Q K => by
  refine w_aside_30_31 ?_
  have := l_aside_30_31 (I := I) (X := X) (g := g) (gs := gs) (d := d) (Q := Q) 2950 0 (Nat.zero_add _) K
  rwa [fl_0] at this
