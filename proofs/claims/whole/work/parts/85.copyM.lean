set_option maxRecDepth 100000 in
set_option maxHeartbeats 4000000 in
theorem w_X8_copy_113 {I : Nat → Nat → Nat → Int32} {X : am_Z} {g : am_F} {gs : List am_F} {d : Nat} {Q : Option am_V → am_M → Prop} {x p y a m : Int32} {n1 n2 n3 n4 n5 i : Nat} (hx : x = nI n1) (l1 : n1 ≤ 3) (hp : p = nI n2) (hy : y = nI n3) (l3 : n3 ≤ 3) (ha : a = nI n4) (hm : m = nI n5) (l25 : n2 + n5 ≤ 24) (l45 : n4 + n5 ≤ 24) (hi : i ≤ n5) (k0 : (n5 ≤ i) → am_WP ((mX8_copy, 150, [some (.inr (.inr (some (8, 0)))), some (.inl (x)), some (.inl (p)), some (.inl (y)), some (.inl (a)), some (.inl (m)), some (.inl (0))], []) :: g :: gs) (d + 2) (mk I X) Q) (k1 : (¬ (n5 ≤ i)) → am_WP ((mX8_copy, 113, [some (.inr (.inr (some (8, 0)))), some (.inl (x)), some (.inl (p)), some (.inl (y)), some (.inl (a)), some (.inl (m)), some (.inl ((nI (i + 1))))], []) :: g :: gs) (d + 2) (mk (up3 I 47 0 (i) ((I 35 0 (((((24 * n1) + n2) + i)))))) X) Q) : am_WP ((mX8_copy, 113, [some (.inr (.inr (some (8, 0)))), some (.inl (x)), some (.inl (p)), some (.inl (y)), some (.inl (a)), some (.inl (m)), some (.inl (nI i))], []) :: g :: gs) (d + 2) (mk I X) Q := by
  refine am_go 400 ?_
  refine am_if (fun h1 => ?_) (fun h1 => ?_)
  · have nh1 := (le_nat (a := n5) (b := i) hm (rfl : (nI i : Int32) = nI i) (by omega) (by omega)).mp h1
    refine am_cf rfl ?_
    refine am_cut ?_
    refine am_go 2 ?_
    exact k0 nh1
  · have nh1 := mt (le_nat (a := n5) (b := i) hm (rfl : (nI i : Int32) = nI i) (by omega) (by omega)).mpr h1
    refine am_f (ix_in (n := (((24 * n1) + n2) + i)) (N := 96) (nI_addE (nI_addE (nI_mulE (rfl : (24 : Int32) = nI 24) hx) hp) rfl) (by omega) (by decide)) ?_
    have tk0 : ((((24 * x) + p) + nI i)).toNatClampNeg = (((24 * n1) + n2) + i) := ix_cl (n := (((24 * n1) + n2) + i)) (nI_addE (nI_addE (nI_mulE (rfl : (24 : Int32) = nI 24) hx) hp) rfl) (by omega)
    refine am_f (ix_in (n := i) (N := 24) (rfl : (nI i : Int32) = nI i) (by omega) (by decide)) ?_
    have tk1 : (nI i).toNatClampNeg = i := ix_cl (n := i) (rfl : (nI i : Int32) = nI i) (by omega)
    have tk2 : (nI i + 1) = nI (i + 1) := (nI_addE rfl (rfl : (1 : Int32) = nI 1))
    show am_WP ((mX8_copy, 113, [some (.inr (.inr (some (8, 0)))), some (.inl (x)), some (.inl (p)), some (.inl (y)), some (.inl (a)), some (.inl (m)), some (.inl (((nI i + 1))))], []) :: g :: gs) (d + 2) (mk (up3 I 47 0 (((nI i).toNatClampNeg)) ((I 35 0 ((((((24 * x) + p) + nI i)).toNatClampNeg))))) X) Q
    try rw [tk0]
    try rw [tk1]
    try rw [tk2]
    exact k1 nh1
set_option maxRecDepth 100000 in
set_option maxHeartbeats 4000000 in
theorem w_X8_copy_150 {I : Nat → Nat → Nat → Int32} {X : am_Z} {g : am_F} {gs : List am_F} {d : Nat} {Q : Option am_V → am_M → Prop} {x p y a m : Int32} {n1 n2 n3 n4 n5 i : Nat} (hx : x = nI n1) (l1 : n1 ≤ 3) (hp : p = nI n2) (hy : y = nI n3) (l3 : n3 ≤ 3) (ha : a = nI n4) (hm : m = nI n5) (l25 : n2 + n5 ≤ 24) (l45 : n4 + n5 ≤ 24) (hi : i ≤ n5) (k0 : (n5 ≤ i) → am_WP (am_psh g (some (.inl (m))) :: gs) (d + 3) (mk I X) Q) (k1 : (¬ (n5 ≤ i)) → am_WP ((mX8_copy, 150, [some (.inr (.inr (some (8, 0)))), some (.inl (x)), some (.inl (p)), some (.inl (y)), some (.inl (a)), some (.inl (m)), some (.inl ((nI (i + 1))))], []) :: g :: gs) (d + 2) (mk (up3 I 35 0 (((((24 * n3) + n4) + i))) ((I 47 0 (i)))) X) Q) : am_WP ((mX8_copy, 150, [some (.inr (.inr (some (8, 0)))), some (.inl (x)), some (.inl (p)), some (.inl (y)), some (.inl (a)), some (.inl (m)), some (.inl (nI i))], []) :: g :: gs) (d + 2) (mk I X) Q := by
  refine am_go 400 ?_
  refine am_if (fun h1 => ?_) (fun h1 => ?_)
  · have nh1 := (le_nat (a := n5) (b := i) hm (rfl : (nI i : Int32) = nI i) (by omega) (by omega)).mp h1
    exact k0 nh1
  · have nh1 := mt (le_nat (a := n5) (b := i) hm (rfl : (nI i : Int32) = nI i) (by omega) (by omega)).mpr h1
    refine am_f (ix_in (n := i) (N := 24) (rfl : (nI i : Int32) = nI i) (by omega) (by decide)) ?_
    have tk0 : (nI i).toNatClampNeg = i := ix_cl (n := i) (rfl : (nI i : Int32) = nI i) (by omega)
    refine am_f (ix_in (n := (((24 * n3) + n4) + i)) (N := 96) (nI_addE (nI_addE (nI_mulE (rfl : (24 : Int32) = nI 24) hy) ha) rfl) (by omega) (by decide)) ?_
    have tk1 : ((((24 * y) + a) + nI i)).toNatClampNeg = (((24 * n3) + n4) + i) := ix_cl (n := (((24 * n3) + n4) + i)) (nI_addE (nI_addE (nI_mulE (rfl : (24 : Int32) = nI 24) hy) ha) rfl) (by omega)
    have tk2 : (nI i + 1) = nI (i + 1) := (nI_addE rfl (rfl : (1 : Int32) = nI 1))
    show am_WP ((mX8_copy, 150, [some (.inr (.inr (some (8, 0)))), some (.inl (x)), some (.inl (p)), some (.inl (y)), some (.inl (a)), some (.inl (m)), some (.inl (((nI i + 1))))], []) :: g :: gs) (d + 2) (mk (up3 I 35 0 ((((((24 * y) + a) + nI i)).toNatClampNeg)) ((I 47 0 (((nI i).toNatClampNeg))))) X) Q
    try rw [tk1]
    try rw [tk0]
    try rw [tk2]
    exact k1 nh1
theorem l_cp1 {I : Im} {X g gs d Q} {x p y a m : Int32} {n1 n2 n3 n4 n5 : Nat} (hx : x = nI n1) (l1 : n1 ≤ 3) (hp : p = nI n2) (hy : y = nI n3) (l3 : n3 ≤ 3) (ha : a = nI n4) (hm : m = nI n5) (l25 : n2 + n5 ≤ 24) (l45 : n4 + n5 ≤ 24) : ∀ (n i : Nat), i + n = n5 → am_WP ((mX8_copy, 150, [some (.inr (.inr (some (8, 0)))), some (.inl x), some (.inl p), some (.inl y), some (.inl a), some (.inl m), some (.inl 0)], []) :: g :: gs) (d + 2) (mk (fl I 47 0 0 n5 (fun j => I 35 0 (24 * n1 + n2 + j))) X) Q →
    am_WP ((mX8_copy, 113, [some (.inr (.inr (some (8, 0)))), some (.inl x), some (.inl p), some (.inl y), some (.inl a), some (.inl m), some (.inl (nI i))], []) :: g :: gs) (d + 2) (mk (fl I 47 0 0 i (fun j => I 35 0 (24 * n1 + n2 + j))) X) Q
  | 0, i, hi, K => w_X8_copy_113 hx l1 hp hy l3 ha hm l25 l45 (by omega) (fun _ => by rw [show i = n5 by omega]; exact K) (fun hn => absurd hn (by omega))
  | n + 1, i, hi, K => w_X8_copy_113 hx l1 hp hy l3 ha hm l25 l45 (by omega) (fun hn => absurd hn (by omega)) (fun _ => by
      have e := fl_s (I := I) (g := 47) (k := 0) (b := 0) (i := i) (f := (fun j => I 35 0 (24 * n1 + n2 + j))) (v := fl I 47 0 0 i (fun j => I 35 0 (24 * n1 + n2 + j)) 35 0 (24 * n1 + n2 + i)) (by rw [fl_k (Or.inl (by decide))])
      rw [Nat.zero_add] at e
      rw [e]
      exact l_cp1 hx l1 hp hy l3 ha hm l25 l45 n (i + 1) (by omega) K)
theorem l_cp2 {I : Im} {X g gs d Q} {x p y a m : Int32} {n1 n2 n3 n4 n5 : Nat} (hx : x = nI n1) (l1 : n1 ≤ 3) (hp : p = nI n2) (hy : y = nI n3) (l3 : n3 ≤ 3) (ha : a = nI n4) (hm : m = nI n5) (l25 : n2 + n5 ≤ 24) (l45 : n4 + n5 ≤ 24) : ∀ (n i : Nat), i + n = n5 → am_WP (am_psh g (some (.inl m)) :: gs) (d + 3) (mk (fl I 35 0 (24 * n3 + n4) n5 (fun j => I 47 0 j)) X) Q →
    am_WP ((mX8_copy, 150, [some (.inr (.inr (some (8, 0)))), some (.inl x), some (.inl p), some (.inl y), some (.inl a), some (.inl m), some (.inl (nI i))], []) :: g :: gs) (d + 2) (mk (fl I 35 0 (24 * n3 + n4) i (fun j => I 47 0 j)) X) Q
  | 0, i, hi, K => w_X8_copy_150 hx l1 hp hy l3 ha hm l25 l45 (by omega) (fun _ => by rw [show i = n5 by omega]; exact K) (fun hn => absurd hn (by omega))
  | n + 1, i, hi, K => w_X8_copy_150 hx l1 hp hy l3 ha hm l25 l45 (by omega) (fun hn => absurd hn (by omega)) (fun _ => by
      rw [fl_s (by rw [fl_k (Or.inl (by decide))])]
      exact l_cp2 hx l1 hp hy l3 ha hm l25 l45 n (i + 1) (by omega) K)
