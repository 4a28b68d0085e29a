set_option maxRecDepth 100000 in
set_option maxHeartbeats 4000000 in
theorem w_X8_copy_113 {I : Nat → Nat → Nat → Int32} {X : am_Z} {g : am_F} {gs : List am_F} {d : Nat} {Q : Option am_V → am_M → Prop} {x p y a m : Int32} {n1 n2 n3 n4 n5 i : Nat} (hx : x = nI n1) (l1 : n1 ≤ 3) (hp : p = nI n2) (hy : y = nI n3) (l3 : n3 ≤ 3) (ha : a = nI n4) (hm : m = nI n5) (l25 : n2 + n5 ≤ 24) (l45 : n4 + n5 ≤ 24) (hi : i ≤ n5) (k0 : (n5 ≤ i) → am_WP ((mX8_copy, 150, [some (.inr (.inr (some (8, 0)))), some (.inl (x)), some (.inl (p)), some (.inl (y)), some (.inl (a)), some (.inl (m)), some (.inl (0))], []) :: g :: gs) (d + 2) (mk I X) Q) (k1 : (¬ (n5 ≤ i)) → am_WP ((mX8_copy, 113, [some (.inr (.inr (some (8, 0)))), some (.inl (x)), some (.inl (p)), some (.inl (y)), some (.inl (a)), some (.inl (m)), some (.inl ((nI (i + 1))))], []) :: g :: gs) (d + 2) (mk (up3 I 47 0 (i) ((I 35 0 (((((24 * n1) + n2) + i)))))) X) Q) : am_WP ((mX8_copy, 113, [some (.inr (.inr (some (8, 0)))), some (.inl (x)), some (.inl (p)), some (.inl (y)), some (.inl (a)), some (.inl (m)), some (.inl (nI i))], []) :: g :: gs) (d + 2) (mk I X) Q := by
  refine am_go 400 ?_
  refine am_if (fun h1 => ?_) (fun h1 => ?_)
  · have nh1 := (le_nat (a := n5) (b := i) hm (rfl : (nI i : Int32) = nI i) (by omega) (by omega)).mp h1
    refine am_cf rfl ?_
    refine am_cut ?_
    refine am_go 2 ?_
    exact k0 nh1
  · have nh1 := mt (le_nat (a := n5) (b := i) hm (rfl : (nI i : Int32) = nI i) (by omega) (by omega)).mpr h1
    refine am_f (ix_in (n := (((24 * n1) + n2) + i)) (N := 96) (nI_addE (nI_addE (nI_mulE (rfl : (24 : Int32) = nI 24) hx) hp) rfl) (by omega) (by decide)) ?_
    have tk0 : ((((24 * x) + p) + nI i)).toNatClampNeg = (((24 * n1) + n2) + i) := ix_cl (n := (((24 * n1) + n2) + i)) (nI_addE (nI_addE (nI_mulE (rfl : (24 : Int32) = nI 24) hx) hp) rfl) (by omega)
    refine am_f (ix_in (n := i) (N := 24) (rfl : (nI i : Int32) = nI i) (by omega) (by decide)) ?_
    have tk1 : (nI i).toNatClampNeg = i := ix_cl (n := i) (rfl : (nI i : Int32) = nI i) (by omega)
    have tk2 : (nI i + 1) = nI (i + 1) := (nI_addE rfl (rfl : (1 : Int32) = nI 1))
    show am_WP ((mX8_copy, 113, [some (.inr (.inr (some (8, 0)))), some (.inl (x)), some (.inl (p)), some (.inl (y)), some (.inl (a)), some (.inl (m)), some (.inl (((nI i + 1))))], []) :: g :: gs) (d + 2) (mk (up3 I 47 0 (((nI i).toNatClampNeg)) ((I 35 0 ((((((24 * x) + p) + nI i)).toNatClampNeg))))) X) Q
    try rw [tk0]
    try rw [tk1]
    try rw [tk2]
    exact k1 nh1
set_option maxRecDepth 100000 in
set_option maxHeartbeats 4000000 in
theorem w_X8_copy_150 {I : Nat → Nat → Nat → Int32} {X : am_Z} {g : am_F} {gs : List am_F} {d : Nat} {Q : Option am_V → am_M → Prop} {x p y a m : Int32} {n1 n2 n3 n4 n5 i : Nat} (hx : x = nI n1) (l1 : n1 ≤ 3) (hp : p = nI n2) (hy : y = nI n3) (l3 : n3 ≤ 3) (ha : a = nI n4) (hm : m = nI n5) (l25 : n2 + n5 ≤ 24) (l45 : n4 + n5 ≤ 24) (hi : i ≤ n5) (k0 : (n5 ≤ i) → am_WP (am_psh g (some (.inl (m))) :: gs) (d + 3) (mk I X) Q) (k1 : (¬ (n5 ≤ i)) → am_WP ((mX8_copy, 150, [some (.inr (.inr (some (8, 0)))), some (.inl (x)), some (.inl (p)), some (.inl (y)), some (.inl (a)), some (.inl (m)), some (.inl ((nI (i + 1))))], []) :: g :: gs) (d + 2) (mk (up3 I 35 0 (((((24 * n3) + n4) + i))) ((I 47 0 (i)))) X) Q) : am_WP ((mX8_copy, 150, [some (.inr (.inr (some (8, 0)))), some (.inl (x)), some (.inl (p)), some (.inl (y)), some (.inl (a)), some (.inl (m)), some (.inl (nI i))], []) :: g :: gs) (d + 2) (mk I X) Q := by
  refine am_go 400 ?_
  refine am_if (fun h1 => ?_) (fun h1 => ?_)
  · have nh1 := (le_nat (a := n5) (b := i) hm (rfl : (nI i : Int32) = nI i) (by omega) (by omega)).mp h1
    exact k0 nh1
  · have nh1 := mt (le_nat (a := n5) (b := i) hm (rfl : (nI i : Int32) = nI i) (by omega) (by omega)).mpr h1
    refine am_f (ix_in (n := i) (N := 24) (rfl : (nI i : Int32) = nI i) (by omega) (by decide)) ?_
    have tk0 : (nI i).toNatClampNeg = i := ix_cl (n := i) (rfl : (nI i : Int32) = nI i) (by omega)
    refine am_f (ix_in (n := (((24 * n3) + n4) + i)) (N := 96) (nI_addE (nI_addE (nI_mulE (rfl : (24 : Int32) = nI 24) hy) ha) rfl) (by omega) (by decide)) ?_
    have tk1 : ((((24 * y) + a) + nI i)).toNatClampNeg = (((24 * n3) + n4) + i) := ix_cl (n := (((24 * n3) + n4) + i)) (nI_addE (nI_addE (nI_mulE (rfl : (24 : Int32) = nI 24) hy) ha) rfl) (by omega)
    have tk2 : (nI i + 1) = nI (i + 1) := (nI_addE rfl (rfl : (1 : Int32) = nI 1))
    show am_WP ((mX8_copy, 150, [some (.inr (.inr (some (8, 0)))), some (.inl (x)), some (.inl (p)), some (.inl (y)), some (.inl (a)), some (.inl (m)), some (.inl (((nI i + 1))))], []) :: g :: gs) (d + 2) (mk (up3 I 35 0 ((((((24 * y) + a) + nI i)).toNatClampNeg)) ((I 47 0 (((nI i).toNatClampNeg))))) X) Q
    try rw [tk1]
    try rw [tk0]
    try rw [tk2]
    exact k1 nh1
