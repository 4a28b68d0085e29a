/-! which -/
def wiT (e : Ce) (fo k : Nat) : Option Nat := if (e.1.2.2.2 k).1 3 = 6 then trE e k fo else none
def wiL (e : Ce) (fo : Nat) : Nat → Nat → Option (Nat × Nat) → Option (Nat × Nat)
  | 0, _, a => a
  | m + 1, k, a => wiL e fo m (k + 1) (acN k (wiT e fo k) a)
noncomputable def f_which (s : St) (x z w : Int32) : Int32 × St := if 0 ≤ x ∧ x ≤ 60 then if 0 ≤ z ∧ z ≤ 999 then if 0 ≤ w ∧ w ≤ 1 then (aV w (wiL (yrs (kx x) s.1.1, s.1.2) (kx z) (yrs (kx x) s.1.1).1 0 none), s) else (cBAD, s) else (cBAD, s) else (cBAD, s)
set_option maxRecDepth 100000 in
set_option maxHeartbeats 4000000 in
theorem w_whiC_00 {I : Nat → Nat → Nat → Int32} {X : am_Z} {g : am_F} {gs : List am_F} {d : Nat} {Q : Option am_V → am_M → Prop} {e : Ce} {k fo : Nat} {x z w : Int32} (hE : CeC I X 2 e) (hNk : NkC I) (hG : GX e) (hk : k < e.1.1) (hz : z = nI fo) (hfo : fo ≤ 999) (ht : trE e k fo = none) {y : Option am_V} (k0 : (((e.1.2.2.2 k).1 3) = 6) → ∀ (I1 : Im), (FrN I I1 ∧ NkC I1) → am_WP ((mX7_which, 49, [some (.inr (.inr (some (7, 0)))), some (.inl (x)), some (.inl (z)), some (.inl (w)), some (.inl ((-1000000005))), some (.inl ((-1000000005))), some (.inl ((nI (k + 1)))), some (.inl ((-1000000005)))], []) :: g :: gs) (d + 6) (mk I1 X) Q) (k1 : (¬ (((e.1.2.2.2 k).1 3) = 6)) → am_WP ((mX7_which, 49, [some (.inr (.inr (some (7, 0)))), some (.inl (x)), some (.inl (z)), some (.inl (w)), some (.inl ((-1000000005))), some (.inl ((-1000000005))), some (.inl ((nI (k + 1)))), some (.inl ((-1000000005)))], []) :: g :: gs) (d + 6) (mk I X) Q) : am_WP ((mX7_which, 49, [some (.inr (.inr (some (7, 0)))), some (.inl (x)), some (.inl (z)), some (.inl (w)), some (.inl ((-1000000005))), some (.inl ((-1000000005))), some (.inl (nI k)), y], []) :: g :: gs) (d + 6) (mk I X) Q := by
  have hn8 := hG.1.1
  refine am_go 400 ?_
  have bd : e.1.1 ≤ 8 := hG.1.1
  have tk0 : I 1 2 3 = nI e.1.1 := hE.1.1
  refine am_f (mt (le_nat (a := e.1.1) (b := k) tk0 (rfl : (nI k : Int32) = nI k) (by omega) (by omega)).mp (by omega)) ?_
  refine am_f (ix_in (n := k) (N := 8) (rfl : (nI k : Int32) = nI k) (by omega) (by decide)) ?_
  have tk1 : (nI k).toNatClampNeg = k := ix_cl (n := k) (rfl : (nI k : Int32) = nI k) (by omega)
  have bd : ((e.1.2.2.2 k).1 3) ≤ 6 := (hG.1.2.2.2 k (by omega)).2.2.2.1
  have tk2 : I 0 (((nI k).toNatClampNeg) + 16) 5 = nI ((e.1.2.2.2 k).1 3) := by first | exact (hE.1.2.2.2.2.2 k (by omega) 3 (by omega)).1 | (((try rw [tk1])); first | done | exact (hE.1.2.2.2.2.2 k (by omega) 3 (by omega)).1)
  refine am_if (fun h1 => ?_) (fun h1 => ?_)
  · have nh1 := (eq_nat (a := ((e.1.2.2.2 k).1 3)) (b := 6) tk2 (rfl : (6 : Int32) = nI 6) (by omega) (by omega)).mp h1
    refine (c_ct_0 (I := I) (e := e) (k := k) (fo := fo) hE hNk hG hk (rfl : (nI k : Int32) = nI k) hz (by omega) ht) _ _ _ ?_
    intro I1 p1
    refine am_go 400 ?_
    refine (c_few_N rfl) _ _ _ ?_
    refine am_go 400 ?_
    have tk3 : (nI k + 1) = nI (k + 1) := (nI_addE rfl (rfl : (1 : Int32) = nI 1))
    show am_WP ((mX7_which, 49, [some (.inr (.inr (some (7, 0)))), some (.inl (x)), some (.inl (z)), some (.inl (w)), some (.inl ((-1000000005))), some (.inl ((-1000000005))), some (.inl (((nI k + 1)))), some (.inl ((-1000000005)))], []) :: g :: gs) (d + 6) (mk I1 X) Q
    try rw [tk3]
    exact k0 nh1 I1 p1
  · have nh1 := mt (eq_nat (a := ((e.1.2.2.2 k).1 3)) (b := 6) tk2 (rfl : (6 : Int32) = nI 6) (by omega) (by omega)).mpr h1
    refine (c_few_N rfl) _ _ _ ?_
    refine am_go 400 ?_
    have tk4 : (nI k + 1) = nI (k + 1) := (nI_addE rfl (rfl : (1 : Int32) = nI 1))
    show am_WP ((mX7_which, 49, [some (.inr (.inr (some (7, 0)))), some (.inl (x)), some (.inl (z)), some (.inl (w)), some (.inl ((-1000000005))), some (.inl ((-1000000005))), some (.inl (((nI k + 1)))), some (.inl ((-1000000005)))], []) :: g :: gs) (d + 6) (mk I X) Q
    try rw [tk4]
    exact k1 nh1
set_option maxRecDepth 100000 in
set_option maxHeartbeats 4000000 in
theorem w_whiC_01 {I : Nat → Nat → Nat → Int32} {X : am_Z} {g : am_F} {gs : List am_F} {d : Nat} {Q : Option am_V → am_M → Prop} {e : Ce} {k fo : Nat} {x z w : Int32} (hE : CeC I X 2 e) (hNk : NkC I) (hG : GX e) (hk : k < e.1.1) (hz : z = nI fo) (hfo : fo ≤ 999) {cr : Nat} (hcr : cr ≤ 18) (ht : trE e k fo = some cr) {y : Option am_V} (k0 : (((e.1.2.2.2 k).1 3) = 6) → ∀ (I1 : Im), (FrN I I1 ∧ NkC I1) → am_WP ((mX7_which, 49, [some (.inr (.inr (some (7, 0)))), some (.inl (x)), some (.inl (z)), some (.inl (w)), some (.inl (nI k)), some (.inl (nI cr)), some (.inl ((nI (k + 1)))), some (.inl (nI cr))], []) :: g :: gs) (d + 6) (mk I1 X) Q) (k1 : (¬ (((e.1.2.2.2 k).1 3) = 6)) → am_WP ((mX7_which, 49, [some (.inr (.inr (some (7, 0)))), some (.inl (x)), some (.inl (z)), some (.inl (w)), some (.inl ((-1000000005))), some (.inl ((-1000000005))), some (.inl ((nI (k + 1)))), some (.inl ((-1000000005)))], []) :: g :: gs) (d + 6) (mk I X) Q) : am_WP ((mX7_which, 49, [some (.inr (.inr (some (7, 0)))), some (.inl (x)), some (.inl (z)), some (.inl (w)), some (.inl ((-1000000005))), some (.inl ((-1000000005))), some (.inl (nI k)), y], []) :: g :: gs) (d + 6) (mk I X) Q := by
  have hn8 := hG.1.1
  refine am_go 400 ?_
  have bd : e.1.1 ≤ 8 := hG.1.1
  have tk0 : I 1 2 3 = nI e.1.1 := hE.1.1
  refine am_f (mt (le_nat (a := e.1.1) (b := k) tk0 (rfl : (nI k : Int32) = nI k) (by omega) (by omega)).mp (by omega)) ?_
  refine am_f (ix_in (n := k) (N := 8) (rfl : (nI k : Int32) = nI k) (by omega) (by decide)) ?_
  have tk1 : (nI k).toNatClampNeg = k := ix_cl (n := k) (rfl : (nI k : Int32) = nI k) (by omega)
  have bd : ((e.1.2.2.2 k).1 3) ≤ 6 := (hG.1.2.2.2 k (by omega)).2.2.2.1
  have tk2 : I 0 (((nI k).toNatClampNeg) + 16) 5 = nI ((e.1.2.2.2 k).1 3) := by first | exact (hE.1.2.2.2.2.2 k (by omega) 3 (by omega)).1 | (((try rw [tk1])); first | done | exact (hE.1.2.2.2.2.2 k (by omega) 3 (by omega)).1)
  refine am_if (fun h1 => ?_) (fun h1 => ?_)
  · have nh1 := (eq_nat (a := ((e.1.2.2.2 k).1 3)) (b := 6) tk2 (rfl : (6 : Int32) = nI 6) (by omega) (by omega)).mp h1
    refine (c_ct_1 (I := I) (e := e) (k := k) (fo := fo) hE hNk hG hk (rfl : (nI k : Int32) = nI k) hz (by omega) ht) _ _ _ ?_
    intro I1 p1
    refine am_go 400 ?_
    refine (c_few_0 (n := cr) (rfl : (nI cr : Int32) = nI cr) (by omega) rfl) _ _ _ ?_
    refine am_go 400 ?_
    have tk3 : (nI k + 1) = nI (k + 1) := (nI_addE rfl (rfl : (1 : Int32) = nI 1))
    show am_WP ((mX7_which, 49, [some (.inr (.inr (some (7, 0)))), some (.inl (x)), some (.inl (z)), some (.inl (w)), some (.inl (nI k)), some (.inl (nI cr)), some (.inl (((nI k + 1)))), some (.inl (nI cr))], []) :: g :: gs) (d + 6) (mk I1 X) Q
    try rw [tk3]
    exact k0 nh1 I1 p1
  · have nh1 := mt (eq_nat (a := ((e.1.2.2.2 k).1 3)) (b := 6) tk2 (rfl : (6 : Int32) = nI 6) (by omega) (by omega)).mpr h1
    refine (c_few_N rfl) _ _ _ ?_
    refine am_go 400 ?_
    have tk4 : (nI k + 1) = nI (k + 1) := (nI_addE rfl (rfl : (1 : Int32) = nI 1))
    show am_WP ((mX7_which, 49, [some (.inr (.inr (some (7, 0)))), some (.inl (x)), some (.inl (z)), some (.inl (w)), some (.inl ((-1000000005))), some (.inl ((-1000000005))), some (.inl (((nI k + 1)))), some (.inl ((-1000000005)))], []) :: g :: gs) (d + 6) (mk I X) Q
    try rw [tk4]
    exact k1 nh1
set_option maxRecDepth 100000 in
set_option maxHeartbeats 4000000 in
theorem w_whiC_10 {I : Nat → Nat → Nat → Int32} {X : am_Z} {g : am_F} {gs : List am_F} {d : Nat} {Q : Option am_V → am_M → Prop} {e : Ce} {k fo : Nat} {x z w : Int32} (hE : CeC I X 2 e) (hNk : NkC I) (hG : GX e) (hk : k < e.1.1) (hz : z = nI fo) (hfo : fo ≤ 999) (ht : trE e k fo = none) {p q : Nat} (hq : q ≤ 18) {y : Option am_V} (k0 : (((e.1.2.2.2 k).1 3) = 6) → ∀ (I1 : Im), (FrN I I1 ∧ NkC I1) → am_WP ((mX7_which, 49, [some (.inr (.inr (some (7, 0)))), some (.inl (x)), some (.inl (z)), some (.inl (w)), some (.inl (nI p)), some (.inl (nI q)), some (.inl ((nI (k + 1)))), some (.inl ((-1000000005)))], []) :: g :: gs) (d + 6) (mk I1 X) Q) (k1 : (¬ (((e.1.2.2.2 k).1 3) = 6)) → am_WP ((mX7_which, 49, [some (.inr (.inr (some (7, 0)))), some (.inl (x)), some (.inl (z)), some (.inl (w)), some (.inl (nI p)), some (.inl (nI q)), some (.inl ((nI (k + 1)))), some (.inl ((-1000000005)))], []) :: g :: gs) (d + 6) (mk I X) Q) : am_WP ((mX7_which, 49, [some (.inr (.inr (some (7, 0)))), some (.inl (x)), some (.inl (z)), some (.inl (w)), some (.inl (nI p)), some (.inl (nI q)), some (.inl (nI k)), y], []) :: g :: gs) (d + 6) (mk I X) Q := by
  have hn8 := hG.1.1
  refine am_go 400 ?_
  have bd : e.1.1 ≤ 8 := hG.1.1
  have tk0 : I 1 2 3 = nI e.1.1 := hE.1.1
  refine am_f (mt (le_nat (a := e.1.1) (b := k) tk0 (rfl : (nI k : Int32) = nI k) (by omega) (by omega)).mp (by omega)) ?_
  refine am_f (ix_in (n := k) (N := 8) (rfl : (nI k : Int32) = nI k) (by omega) (by decide)) ?_
  have tk1 : (nI k).toNatClampNeg = k := ix_cl (n := k) (rfl : (nI k : Int32) = nI k) (by omega)
  have bd : ((e.1.2.2.2 k).1 3) ≤ 6 := (hG.1.2.2.2 k (by omega)).2.2.2.1
  have tk2 : I 0 (((nI k).toNatClampNeg) + 16) 5 = nI ((e.1.2.2.2 k).1 3) := by first | exact (hE.1.2.2.2.2.2 k (by omega) 3 (by omega)).1 | (((try rw [tk1])); first | done | exact (hE.1.2.2.2.2.2 k (by omega) 3 (by omega)).1)
  refine am_if (fun h1 => ?_) (fun h1 => ?_)
  · have nh1 := (eq_nat (a := ((e.1.2.2.2 k).1 3)) (b := 6) tk2 (rfl : (6 : Int32) = nI 6) (by omega) (by omega)).mp h1
    refine (c_ct_0 (I := I) (e := e) (k := k) (fo := fo) hE hNk hG hk (rfl : (nI k : Int32) = nI k) hz (by omega) ht) _ _ _ ?_
    intro I1 p1
    refine am_go 400 ?_
    refine (c_few_N rfl) _ _ _ ?_
    refine am_go 400 ?_
    have tk3 : (nI k + 1) = nI (k + 1) := (nI_addE rfl (rfl : (1 : Int32) = nI 1))
    show am_WP ((mX7_which, 49, [some (.inr (.inr (some (7, 0)))), some (.inl (x)), some (.inl (z)), some (.inl (w)), some (.inl (nI p)), some (.inl (nI q)), some (.inl (((nI k + 1)))), some (.inl ((-1000000005)))], []) :: g :: gs) (d + 6) (mk I1 X) Q
    try rw [tk3]
    exact k0 nh1 I1 p1
  · have nh1 := mt (eq_nat (a := ((e.1.2.2.2 k).1 3)) (b := 6) tk2 (rfl : (6 : Int32) = nI 6) (by omega) (by omega)).mpr h1
    refine (c_few_N rfl) _ _ _ ?_
    refine am_go 400 ?_
    have tk4 : (nI k + 1) = nI (k + 1) := (nI_addE rfl (rfl : (1 : Int32) = nI 1))
    show am_WP ((mX7_which, 49, [some (.inr (.inr (some (7, 0)))), some (.inl (x)), some (.inl (z)), some (.inl (w)), some (.inl (nI p)), some (.inl (nI q)), some (.inl (((nI k + 1)))), some (.inl ((-1000000005)))], []) :: g :: gs) (d + 6) (mk I X) Q
    try rw [tk4]
    exact k1 nh1
set_option maxRecDepth 100000 in
set_option maxHeartbeats 4000000 in
theorem w_whiC_11 {I : Nat → Nat → Nat → Int32} {X : am_Z} {g : am_F} {gs : List am_F} {d : Nat} {Q : Option am_V → am_M → Prop} {e : Ce} {k fo : Nat} {x z w : Int32} (hE : CeC I X 2 e) (hNk : NkC I) (hG : GX e) (hk : k < e.1.1) (hz : z = nI fo) (hfo : fo ≤ 999) {cr : Nat} (hcr : cr ≤ 18) (ht : trE e k fo = some cr) {p q : Nat} (hq : q ≤ 18) {y : Option am_V} (k0 : (((e.1.2.2.2 k).1 3) = 6) → ∀ (I1 : Im), (FrN I I1 ∧ NkC I1) → (¬ (cr < q)) → am_WP ((mX7_which, 49, [some (.inr (.inr (some (7, 0)))), some (.inl (x)), some (.inl (z)), some (.inl (w)), some (.inl (nI p)), some (.inl (nI q)), some (.inl ((nI (k + 1)))), some (.inl (nI cr))], []) :: g :: gs) (d + 6) (mk I1 X) Q) (k1 : (((e.1.2.2.2 k).1 3) = 6) → ∀ (I1 : Im), (FrN I I1 ∧ NkC I1) → (cr < q) → am_WP ((mX7_which, 49, [some (.inr (.inr (some (7, 0)))), some (.inl (x)), some (.inl (z)), some (.inl (w)), some (.inl (nI k)), some (.inl (nI cr)), some (.inl ((nI (k + 1)))), some (.inl (nI cr))], []) :: g :: gs) (d + 6) (mk I1 X) Q) (k2 : (¬ (((e.1.2.2.2 k).1 3) = 6)) → am_WP ((mX7_which, 49, [some (.inr (.inr (some (7, 0)))), some (.inl (x)), some (.inl (z)), some (.inl (w)), some (.inl (nI p)), some (.inl (nI q)), some (.inl ((nI (k + 1)))), some (.inl ((-1000000005)))], []) :: g :: gs) (d + 6) (mk I X) Q) : am_WP ((mX7_which, 49, [some (.inr (.inr (some (7, 0)))), some (.inl (x)), some (.inl (z)), some (.inl (w)), some (.inl (nI p)), some (.inl (nI q)), some (.inl (nI k)), y], []) :: g :: gs) (d + 6) (mk I X) Q := by
  have hn8 := hG.1.1
  refine am_go 400 ?_
  have bd : e.1.1 ≤ 8 := hG.1.1
  have tk0 : I 1 2 3 = nI e.1.1 := hE.1.1
  refine am_f (mt (le_nat (a := e.1.1) (b := k) tk0 (rfl : (nI k : Int32) = nI k) (by omega) (by omega)).mp (by omega)) ?_
  refine am_f (ix_in (n := k) (N := 8) (rfl : (nI k : Int32) = nI k) (by omega) (by decide)) ?_
  have tk1 : (nI k).toNatClampNeg = k := ix_cl (n := k) (rfl : (nI k : Int32) = nI k) (by omega)
  have bd : ((e.1.2.2.2 k).1 3) ≤ 6 := (hG.1.2.2.2 k (by omega)).2.2.2.1
  have tk2 : I 0 (((nI k).toNatClampNeg) + 16) 5 = nI ((e.1.2.2.2 k).1 3) := by first | exact (hE.1.2.2.2.2.2 k (by omega) 3 (by omega)).1 | (((try rw [tk1])); first | done | exact (hE.1.2.2.2.2.2 k (by omega) 3 (by omega)).1)
  refine am_if (fun h1 => ?_) (fun h1 => ?_)
  · have nh1 := (eq_nat (a := ((e.1.2.2.2 k).1 3)) (b := 6) tk2 (rfl : (6 : Int32) = nI 6) (by omega) (by omega)).mp h1
    refine (c_ct_1 (I := I) (e := e) (k := k) (fo := fo) hE hNk hG hk (rfl : (nI k : Int32) = nI k) hz (by omega) ht) _ _ _ ?_
    intro I1 p1
    refine am_go 400 ?_
    refine (c_few_1 (n := cr) (m := q) (rfl : (nI cr : Int32) = nI cr) (by omega) (rfl : (nI q : Int32) = nI q) (by omega)) _ _ _ ?_
    refine am_go 400 ?_
    refine am_if (fun h2 => ?_) (fun h2 => ?_)
    · have h2 := bI_0.mp h2
      have tk3 : (nI k + 1) = nI (k + 1) := (nI_addE rfl (rfl : (1 : Int32) = nI 1))
      show am_WP ((mX7_which, 49, [some (.inr (.inr (some (7, 0)))), some (.inl (x)), some (.inl (z)), some (.inl (w)), some (.inl (nI p)), some (.inl (nI q)), some (.inl (((nI k + 1)))), some (.inl (nI cr))], []) :: g :: gs) (d + 6) (mk I1 X) Q
      try rw [tk3]
      exact k0 nh1 I1 p1 h2
    · have h2 := bI_1.mp h2
      have tk4 : (nI k + 1) = nI (k + 1) := (nI_addE rfl (rfl : (1 : Int32) = nI 1))
      show am_WP ((mX7_which, 49, [some (.inr (.inr (some (7, 0)))), some (.inl (x)), some (.inl (z)), some (.inl (w)), some (.inl (nI k)), some (.inl (nI cr)), some (.inl (((nI k + 1)))), some (.inl (nI cr))], []) :: g :: gs) (d + 6) (mk I1 X) Q
      try rw [tk4]
      exact k1 nh1 I1 p1 h2
  · have nh1 := mt (eq_nat (a := ((e.1.2.2.2 k).1 3)) (b := 6) tk2 (rfl : (6 : Int32) = nI 6) (by omega) (by omega)).mpr h1
    refine (c_few_N rfl) _ _ _ ?_
    refine am_go 400 ?_
    have tk5 : (nI k + 1) = nI (k + 1) := (nI_addE rfl (rfl : (1 : Int32) = nI 1))
    show am_WP ((mX7_which, 49, [some (.inr (.inr (some (7, 0)))), some (.inl (x)), some (.inl (z)), some (.inl (w)), some (.inl (nI p)), some (.inl (nI q)), some (.inl (((nI k + 1)))), some (.inl ((-1000000005)))], []) :: g :: gs) (d + 6) (mk I X) Q
    try rw [tk5]
    exact k2 nh1
set_option maxRecDepth 100000 in
set_option maxHeartbeats 4000000 in
theorem w_whiC_en {I : Nat → Nat → Nat → Int32} {X : am_Z} {g : am_F} {gs : List am_F} {d : Nat} {Q : Option am_V → am_M → Prop} {e : Ce} {k : Nat} {x z w : Int32} (hE : CeC I X 2 e) (hG : GX e) (hk : e.1.1 ≤ k) (hk8 : k ≤ 8) {y : Option am_V} (k0 : (w = 0) → am_WP (am_psh g (some (.inl ((-1000000005)))) :: gs) (d + 7) (mk I X) Q) (k1 : (¬ w = 0) → am_WP (am_psh g (some (.inl ((-1000000005)))) :: gs) (d + 7) (mk I X) Q) : am_WP ((mX7_which, 49, [some (.inr (.inr (some (7, 0)))), some (.inl (x)), some (.inl (z)), some (.inl (w)), some (.inl ((-1000000005))), some (.inl ((-1000000005))), some (.inl (nI k)), y], []) :: g :: gs) (d + 6) (mk I X) Q := by
  have hn8 := hG.1.1
  refine am_go 400 ?_
  have bd : e.1.1 ≤ 8 := hG.1.1
  have tk0 : I 1 2 3 = nI e.1.1 := hE.1.1
  refine am_t ((le_nat (a := e.1.1) (b := k) tk0 (rfl : (nI k : Int32) = nI k) (by omega) (by omega)).mpr hk) ?_
  refine am_if (fun h1 => ?_) (fun h1 => ?_)
  · exact k0 h1
  · exact k1 h1
set_option maxRecDepth 100000 in
set_option maxHeartbeats 4000000 in
theorem w_whiC_es {I : Nat → Nat → Nat → Int32} {X : am_Z} {g : am_F} {gs : List am_F} {d : Nat} {Q : Option am_V → am_M → Prop} {e : Ce} {k : Nat} {x z w : Int32} (hE : CeC I X 2 e) (hG : GX e) (hk : e.1.1 ≤ k) (hk8 : k ≤ 8) {p q : Nat} {y : Option am_V} (k0 : (w = 0) → am_WP (am_psh g (some (.inl (nI p))) :: gs) (d + 7) (mk I X) Q) (k1 : (¬ w = 0) → am_WP (am_psh g (some (.inl (nI q))) :: gs) (d + 7) (mk I X) Q) : am_WP ((mX7_which, 49, [some (.inr (.inr (some (7, 0)))), some (.inl (x)), some (.inl (z)), some (.inl (w)), some (.inl (nI p)), some (.inl (nI q)), some (.inl (nI k)), y], []) :: g :: gs) (d + 6) (mk I X) Q := by
  have hn8 := hG.1.1
  refine am_go 400 ?_
  have bd : e.1.1 ≤ 8 := hG.1.1
  have tk0 : I 1 2 3 = nI e.1.1 := hE.1.1
  refine am_t ((le_nat (a := e.1.1) (b := k) tk0 (rfl : (nI k : Int32) = nI k) (by omega) (by omega)).mpr hk) ?_
  refine am_if (fun h1 => ?_) (fun h1 => ?_)
  · exact k0 h1
  · exact k1 h1
set_option maxRecDepth 100000 in
set_option maxHeartbeats 4000000 in
theorem w_whiM_00 {I : Nat → Nat → Nat → Int32} {X : am_Z} {g : am_F} {gs : List am_F} {d : Nat} {Q : Option am_V → am_M → Prop} {nt k fo : Nat} {tx : Nat → Tx} {σ : Cn} {x z w : Int32} (hC : CxM I k nt tx (σ.2.2.2 k)) (hR : RepM (I 30 0) σ) (hD : GD σ) (hn : nt ≤ 14) (hG : ∀ t, t < nt → GT (tx t)) (hk : k < σ.1) (hz : z = nI fo) (hfo : fo ≤ 999) (ht : trO (strN nt tx (σ.2.2.2 k)) (gfN (σ.2.2.2 k)) ((σ.2.2.2 k).1 3) fo = none) {y : Option am_V} (k0 : (((σ.2.2.2 k).1 3) = 6) → ∀ (I1 : Im), (Gf I I1) → am_WP ((mX8_which, 50, [some (.inr (.inr (some (8, 0)))), some (.inl (x)), some (.inl (z)), some (.inl (w)), some (.inl ((-1))), some (.inl (0)), some (.inl ((nI (k + 1)))), some (.inl ((-1)))], []) :: g :: gs) (d + 6) (mk I1 X) Q) (k1 : (¬ (((σ.2.2.2 k).1 3) = 6)) → am_WP ((mX8_which, 50, [some (.inr (.inr (some (8, 0)))), some (.inl (x)), some (.inl (z)), some (.inl (w)), some (.inl ((-1))), some (.inl (0)), some (.inl ((nI (k + 1)))), some (.inl ((-1)))], []) :: g :: gs) (d + 6) (mk I X) Q) : am_WP ((mX8_which, 50, [some (.inr (.inr (some (8, 0)))), some (.inl (x)), some (.inl (z)), some (.inl (w)), some (.inl ((-1))), some (.inl (0)), some (.inl (nI k)), y], []) :: g :: gs) (d + 6) (mk I X) Q := by
  have hn8 := hD.1
  refine am_go 400 ?_
  have bd : σ.1 ≤ 8 := hD.1
  have tk0 : I 30 0 0 = nI σ.1 := hR.1
  refine am_f (mt (le_nat (a := σ.1) (b := k) tk0 (rfl : (nI k : Int32) = nI k) (by omega) (by omega)).mp (by omega)) ?_
  have bd : ((σ.2.2.2 k).1 3) ≤ 6 := (hD.2.2.2 k (by omega)).2.2.2.1
  have tk1 : I 30 0 (6 + 18 * k + 3) = nI ((σ.2.2.2 k).1 3) := (hR.2.2.2.2.2 k (by omega) 3 (by omega)).1
  refine (c8_of (k := k) (j := 3) rfl rfl (by omega)) _ _ _ ?_
  refine am_go 400 ?_
  refine am_if (fun h1 => ?_) (fun h1 => ?_)
  · have nh1 := (eq_nat (a := ((σ.2.2.2 k).1 3)) (b := 6) tk1 (rfl : (6 : Int32) = nI 6) (by omega) (by omega)).mp h1
    refine (c_to_0 (I := I) (b := k) (fo := fo) hC (hD.2.2.2 k hk) hn hG (rfl : (nI k : Int32) = nI k) (by omega) hz (by omega) ht) _ _ _ ?_
    intro I1 p1
    refine am_go 400 ?_
    have tk2 : (nI k + 1) = nI (k + 1) := (nI_addE rfl (rfl : (1 : Int32) = nI 1))
    show am_WP ((mX8_which, 50, [some (.inr (.inr (some (8, 0)))), some (.inl (x)), some (.inl (z)), some (.inl (w)), some (.inl ((-1))), some (.inl (0)), some (.inl (((nI k + 1)))), some (.inl ((-1)))], []) :: g :: gs) (d + 6) (mk I1 X) Q
    try rw [tk2]
    exact k0 nh1 I1 p1
  · have nh1 := mt (eq_nat (a := ((σ.2.2.2 k).1 3)) (b := 6) tk1 (rfl : (6 : Int32) = nI 6) (by omega) (by omega)).mpr h1
    have tk3 : (nI k + 1) = nI (k + 1) := (nI_addE rfl (rfl : (1 : Int32) = nI 1))
    show am_WP ((mX8_which, 50, [some (.inr (.inr (some (8, 0)))), some (.inl (x)), some (.inl (z)), some (.inl (w)), some (.inl ((-1))), some (.inl (0)), some (.inl (((nI k + 1)))), some (.inl ((-1)))], []) :: g :: gs) (d + 6) (mk I X) Q
    try rw [tk3]
    exact k1 nh1
set_option maxRecDepth 100000 in
set_option maxHeartbeats 4000000 in
theorem w_whiM_01 {I : Nat → Nat → Nat → Int32} {X : am_Z} {g : am_F} {gs : List am_F} {d : Nat} {Q : Option am_V → am_M → Prop} {nt k fo : Nat} {tx : Nat → Tx} {σ : Cn} {x z w : Int32} (hC : CxM I k nt tx (σ.2.2.2 k)) (hR : RepM (I 30 0) σ) (hD : GD σ) (hn : nt ≤ 14) (hG : ∀ t, t < nt → GT (tx t)) (hk : k < σ.1) (hz : z = nI fo) (hfo : fo ≤ 999) {cr : Nat} (hcr : cr ≤ 18) (ht : trO (strN nt tx (σ.2.2.2 k)) (gfN (σ.2.2.2 k)) ((σ.2.2.2 k).1 3) fo = some cr) {y : Option am_V} (k0 : (((σ.2.2.2 k).1 3) = 6) → ∀ (I1 : Im), (Gf I I1) → am_WP ((mX8_which, 50, [some (.inr (.inr (some (8, 0)))), some (.inl (x)), some (.inl (z)), some (.inl (w)), some (.inl (nI k)), some (.inl (nI cr)), some (.inl ((nI (k + 1)))), some (.inl (nI cr))], []) :: g :: gs) (d + 6) (mk I1 X) Q) (k1 : (¬ (((σ.2.2.2 k).1 3) = 6)) → am_WP ((mX8_which, 50, [some (.inr (.inr (some (8, 0)))), some (.inl (x)), some (.inl (z)), some (.inl (w)), some (.inl ((-1))), some (.inl (0)), some (.inl ((nI (k + 1)))), some (.inl ((-1)))], []) :: g :: gs) (d + 6) (mk I X) Q) : am_WP ((mX8_which, 50, [some (.inr (.inr (some (8, 0)))), some (.inl (x)), some (.inl (z)), some (.inl (w)), some (.inl ((-1))), some (.inl (0)), some (.inl (nI k)), y], []) :: g :: gs) (d + 6) (mk I X) Q := by
  have hn8 := hD.1
  refine am_go 400 ?_
  have bd : σ.1 ≤ 8 := hD.1
  have tk0 : I 30 0 0 = nI σ.1 := hR.1
  refine am_f (mt (le_nat (a := σ.1) (b := k) tk0 (rfl : (nI k : Int32) = nI k) (by omega) (by omega)).mp (by omega)) ?_
  have bd : ((σ.2.2.2 k).1 3) ≤ 6 := (hD.2.2.2 k (by omega)).2.2.2.1
  have tk1 : I 30 0 (6 + 18 * k + 3) = nI ((σ.2.2.2 k).1 3) := (hR.2.2.2.2.2 k (by omega) 3 (by omega)).1
  refine (c8_of (k := k) (j := 3) rfl rfl (by omega)) _ _ _ ?_
  refine am_go 400 ?_
  refine am_if (fun h1 => ?_) (fun h1 => ?_)
  · have nh1 := (eq_nat (a := ((σ.2.2.2 k).1 3)) (b := 6) tk1 (rfl : (6 : Int32) = nI 6) (by omega) (by omega)).mp h1
    refine (c_to_1 (I := I) (b := k) (fo := fo) hC (hD.2.2.2 k hk) hn hG (rfl : (nI k : Int32) = nI k) (by omega) hz (by omega) ht) _ _ _ ?_
    intro I1 p1
    refine am_go 400 ?_
    refine am_f (mt (lt_nat (a := cr) (b := 0) (rfl : (nI cr : Int32) = nI cr) (rfl : (0 : Int32) = nI 0) (by omega) (by omega)).mp (by omega)) ?_
    have tk2 : (nI k + 1) = nI (k + 1) := (nI_addE rfl (rfl : (1 : Int32) = nI 1))
    show am_WP ((mX8_which, 50, [some (.inr (.inr (some (8, 0)))), some (.inl (x)), some (.inl (z)), some (.inl (w)), some (.inl (nI k)), some (.inl (nI cr)), some (.inl (((nI k + 1)))), some (.inl (nI cr))], []) :: g :: gs) (d + 6) (mk I1 X) Q
    try rw [tk2]
    exact k0 nh1 I1 p1
  · have nh1 := mt (eq_nat (a := ((σ.2.2.2 k).1 3)) (b := 6) tk1 (rfl : (6 : Int32) = nI 6) (by omega) (by omega)).mpr h1
    have tk3 : (nI k + 1) = nI (k + 1) := (nI_addE rfl (rfl : (1 : Int32) = nI 1))
    show am_WP ((mX8_which, 50, [some (.inr (.inr (some (8, 0)))), some (.inl (x)), some (.inl (z)), some (.inl (w)), some (.inl ((-1))), some (.inl (0)), some (.inl (((nI k + 1)))), some (.inl ((-1)))], []) :: g :: gs) (d + 6) (mk I X) Q
    try rw [tk3]
    exact k1 nh1
set_option maxRecDepth 100000 in
set_option maxHeartbeats 4000000 in
theorem w_whiM_10 {I : Nat → Nat → Nat → Int32} {X : am_Z} {g : am_F} {gs : List am_F} {d : Nat} {Q : Option am_V → am_M → Prop} {nt k fo : Nat} {tx : Nat → Tx} {σ : Cn} {x z w : Int32} (hC : CxM I k nt tx (σ.2.2.2 k)) (hR : RepM (I 30 0) σ) (hD : GD σ) (hn : nt ≤ 14) (hG : ∀ t, t < nt → GT (tx t)) (hk : k < σ.1) (hz : z = nI fo) (hfo : fo ≤ 999) (ht : trO (strN nt tx (σ.2.2.2 k)) (gfN (σ.2.2.2 k)) ((σ.2.2.2 k).1 3) fo = none) {p q : Nat} (hp : p ≤ 60) (hq : q ≤ 18) {y : Option am_V} (k0 : (((σ.2.2.2 k).1 3) = 6) → ∀ (I1 : Im), (Gf I I1) → am_WP ((mX8_which, 50, [some (.inr (.inr (some (8, 0)))), some (.inl (x)), some (.inl (z)), some (.inl (w)), some (.inl (nI p)), some (.inl (nI q)), some (.inl ((nI (k + 1)))), some (.inl ((-1)))], []) :: g :: gs) (d + 6) (mk I1 X) Q) (k1 : (¬ (((σ.2.2.2 k).1 3) = 6)) → am_WP ((mX8_which, 50, [some (.inr (.inr (some (8, 0)))), some (.inl (x)), some (.inl (z)), some (.inl (w)), some (.inl (nI p)), some (.inl (nI q)), some (.inl ((nI (k + 1)))), some (.inl ((-1)))], []) :: g :: gs) (d + 6) (mk I X) Q) : am_WP ((mX8_which, 50, [some (.inr (.inr (some (8, 0)))), some (.inl (x)), some (.inl (z)), some (.inl (w)), some (.inl (nI p)), some (.inl (nI q)), some (.inl (nI k)), y], []) :: g :: gs) (d + 6) (mk I X) Q := by
  have hn8 := hD.1
  refine am_go 400 ?_
  have bd : σ.1 ≤ 8 := hD.1
  have tk0 : I 30 0 0 = nI σ.1 := hR.1
  refine am_f (mt (le_nat (a := σ.1) (b := k) tk0 (rfl : (nI k : Int32) = nI k) (by omega) (by omega)).mp (by omega)) ?_
  have bd : ((σ.2.2.2 k).1 3) ≤ 6 := (hD.2.2.2 k (by omega)).2.2.2.1
  have tk1 : I 30 0 (6 + 18 * k + 3) = nI ((σ.2.2.2 k).1 3) := (hR.2.2.2.2.2 k (by omega) 3 (by omega)).1
  refine (c8_of (k := k) (j := 3) rfl rfl (by omega)) _ _ _ ?_
  refine am_go 400 ?_
  refine am_if (fun h1 => ?_) (fun h1 => ?_)
  · have nh1 := (eq_nat (a := ((σ.2.2.2 k).1 3)) (b := 6) tk1 (rfl : (6 : Int32) = nI 6) (by omega) (by omega)).mp h1
    refine (c_to_0 (I := I) (b := k) (fo := fo) hC (hD.2.2.2 k hk) hn hG (rfl : (nI k : Int32) = nI k) (by omega) hz (by omega) ht) _ _ _ ?_
    intro I1 p1
    refine am_go 400 ?_
    have tk2 : (nI k + 1) = nI (k + 1) := (nI_addE rfl (rfl : (1 : Int32) = nI 1))
    show am_WP ((mX8_which, 50, [some (.inr (.inr (some (8, 0)))), some (.inl (x)), some (.inl (z)), some (.inl (w)), some (.inl (nI p)), some (.inl (nI q)), some (.inl (((nI k + 1)))), some (.inl ((-1)))], []) :: g :: gs) (d + 6) (mk I1 X) Q
    try rw [tk2]
    exact k0 nh1 I1 p1
  · have nh1 := mt (eq_nat (a := ((σ.2.2.2 k).1 3)) (b := 6) tk1 (rfl : (6 : Int32) = nI 6) (by omega) (by omega)).mpr h1
    have tk3 : (nI k + 1) = nI (k + 1) := (nI_addE rfl (rfl : (1 : Int32) = nI 1))
    show am_WP ((mX8_which, 50, [some (.inr (.inr (some (8, 0)))), some (.inl (x)), some (.inl (z)), some (.inl (w)), some (.inl (nI p)), some (.inl (nI q)), some (.inl (((nI k + 1)))), some (.inl ((-1)))], []) :: g :: gs) (d + 6) (mk I X) Q
    try rw [tk3]
    exact k1 nh1
set_option maxRecDepth 100000 in
set_option maxHeartbeats 4000000 in
theorem w_whiM_11 {I : Nat → Nat → Nat → Int32} {X : am_Z} {g : am_F} {gs : List am_F} {d : Nat} {Q : Option am_V → am_M → Prop} {nt k fo : Nat} {tx : Nat → Tx} {σ : Cn} {x z w : Int32} (hC : CxM I k nt tx (σ.2.2.2 k)) (hR : RepM (I 30 0) σ) (hD : GD σ) (hn : nt ≤ 14) (hG : ∀ t, t < nt → GT (tx t)) (hk : k < σ.1) (hz : z = nI fo) (hfo : fo ≤ 999) {cr : Nat} (hcr : cr ≤ 18) (ht : trO (strN nt tx (σ.2.2.2 k)) (gfN (σ.2.2.2 k)) ((σ.2.2.2 k).1 3) fo = some cr) {p q : Nat} (hp : p ≤ 60) (hq : q ≤ 18) {y : Option am_V} (k0 : (((σ.2.2.2 k).1 3) = 6) → ∀ (I1 : Im), (Gf I I1) → (q ≤ cr) → am_WP ((mX8_which, 50, [some (.inr (.inr (some (8, 0)))), some (.inl (x)), some (.inl (z)), some (.inl (w)), some (.inl (nI p)), some (.inl (nI q)), some (.inl ((nI (k + 1)))), some (.inl (nI cr))], []) :: g :: gs) (d + 6) (mk I1 X) Q) (k1 : (((σ.2.2.2 k).1 3) = 6) → ∀ (I1 : Im), (Gf I I1) → (¬ (q ≤ cr)) → am_WP ((mX8_which, 50, [some (.inr (.inr (some (8, 0)))), some (.inl (x)), some (.inl (z)), some (.inl (w)), some (.inl (nI k)), some (.inl (nI cr)), some (.inl ((nI (k + 1)))), some (.inl (nI cr))], []) :: g :: gs) (d + 6) (mk I1 X) Q) (k2 : (¬ (((σ.2.2.2 k).1 3) = 6)) → am_WP ((mX8_which, 50, [some (.inr (.inr (some (8, 0)))), some (.inl (x)), some (.inl (z)), some (.inl (w)), some (.inl (nI p)), some (.inl (nI q)), some (.inl ((nI (k + 1)))), some (.inl ((-1)))], []) :: g :: gs) (d + 6) (mk I X) Q) : am_WP ((mX8_which, 50, [some (.inr (.inr (some (8, 0)))), some (.inl (x)), some (.inl (z)), some (.inl (w)), some (.inl (nI p)), some (.inl (nI q)), some (.inl (nI k)), y], []) :: g :: gs) (d + 6) (mk I X) Q := by
  have hn8 := hD.1
  refine am_go 400 ?_
  have bd : σ.1 ≤ 8 := hD.1
  have tk0 : I 30 0 0 = nI σ.1 := hR.1
  refine am_f (mt (le_nat (a := σ.1) (b := k) tk0 (rfl : (nI k : Int32) = nI k) (by omega) (by omega)).mp (by omega)) ?_
  have bd : ((σ.2.2.2 k).1 3) ≤ 6 := (hD.2.2.2 k (by omega)).2.2.2.1
  have tk1 : I 30 0 (6 + 18 * k + 3) = nI ((σ.2.2.2 k).1 3) := (hR.2.2.2.2.2 k (by omega) 3 (by omega)).1
  refine (c8_of (k := k) (j := 3) rfl rfl (by omega)) _ _ _ ?_
  refine am_go 400 ?_
  refine am_if (fun h1 => ?_) (fun h1 => ?_)
  · have nh1 := (eq_nat (a := ((σ.2.2.2 k).1 3)) (b := 6) tk1 (rfl : (6 : Int32) = nI 6) (by omega) (by omega)).mp h1
    refine (c_to_1 (I := I) (b := k) (fo := fo) hC (hD.2.2.2 k hk) hn hG (rfl : (nI k : Int32) = nI k) (by omega) hz (by omega) ht) _ _ _ ?_
    intro I1 p1
    refine am_go 400 ?_
    refine am_f (mt (lt_nat (a := cr) (b := 0) (rfl : (nI cr : Int32) = nI cr) (rfl : (0 : Int32) = nI 0) (by omega) (by omega)).mp (by omega)) ?_
    refine am_f (mt (lt_nat (a := p) (b := 0) (rfl : (nI p : Int32) = nI p) (rfl : (0 : Int32) = nI 0) (by omega) (by omega)).mp (by omega)) ?_
    refine am_if (fun h2 => ?_) (fun h2 => ?_)
    · have nh2 := (le_nat (a := q) (b := cr) (rfl : (nI q : Int32) = nI q) (rfl : (nI cr : Int32) = nI cr) (by omega) (by omega)).mp h2
      have tk2 : (nI k + 1) = nI (k + 1) := (nI_addE rfl (rfl : (1 : Int32) = nI 1))
      show am_WP ((mX8_which, 50, [some (.inr (.inr (some (8, 0)))), some (.inl (x)), some (.inl (z)), some (.inl (w)), some (.inl (nI p)), some (.inl (nI q)), some (.inl (((nI k + 1)))), some (.inl (nI cr))], []) :: g :: gs) (d + 6) (mk I1 X) Q
      try rw [tk2]
      exact k0 nh1 I1 p1 nh2
    · have nh2 := mt (le_nat (a := q) (b := cr) (rfl : (nI q : Int32) = nI q) (rfl : (nI cr : Int32) = nI cr) (by omega) (by omega)).mpr h2
      have tk3 : (nI k + 1) = nI (k + 1) := (nI_addE rfl (rfl : (1 : Int32) = nI 1))
      show am_WP ((mX8_which, 50, [some (.inr (.inr (some (8, 0)))), some (.inl (x)), some (.inl (z)), some (.inl (w)), some (.inl (nI k)), some (.inl (nI cr)), some (.inl (((nI k + 1)))), some (.inl (nI cr))], []) :: g :: gs) (d + 6) (mk I1 X) Q
      try rw [tk3]
      exact k1 nh1 I1 p1 nh2
  · have nh1 := mt (eq_nat (a := ((σ.2.2.2 k).1 3)) (b := 6) tk1 (rfl : (6 : Int32) = nI 6) (by omega) (by omega)).mpr h1
    have tk4 : (nI k + 1) = nI (k + 1) := (nI_addE rfl (rfl : (1 : Int32) = nI 1))
    show am_WP ((mX8_which, 50, [some (.inr (.inr (some (8, 0)))), some (.inl (x)), some (.inl (z)), some (.inl (w)), some (.inl (nI p)), some (.inl (nI q)), some (.inl (((nI k + 1)))), some (.inl ((-1)))], []) :: g :: gs) (d + 6) (mk I X) Q
    try rw [tk4]
    exact k2 nh1
set_option maxRecDepth 100000 in
set_option maxHeartbeats 4000000 in
theorem w_whiM_en {I : Nat → Nat → Nat → Int32} {X : am_Z} {g : am_F} {gs : List am_F} {d : Nat} {Q : Option am_V → am_M → Prop} {k : Nat} {σ : Cn} {x z w : Int32} (hR : RepM (I 30 0) σ) (hD : GD σ) (hk : σ.1 ≤ k) (hk8 : k ≤ 8) {y : Option am_V} (k0 : am_WP (am_psh g (some (.inl ((-1000000005)))) :: gs) (d + 7) (mk (fl I 30 0 0 150 (I 43 0)) X) Q) : am_WP ((mX8_which, 50, [some (.inr (.inr (some (8, 0)))), some (.inl (x)), some (.inl (z)), some (.inl (w)), some (.inl ((-1))), some (.inl (0)), some (.inl (nI k)), y], []) :: g :: gs) (d + 6) (mk I X) Q := by
  have hn8 := hD.1
  refine am_go 400 ?_
  have bd : σ.1 ≤ 8 := hD.1
  have tk0 : I 30 0 0 = nI σ.1 := hR.1
  refine am_t ((le_nat (a := σ.1) (b := k) tk0 (rfl : (nI k : Int32) = nI k) (by omega) (by omega)).mpr hk) ?_
  refine (c_laysBack) _ _ _ ?_
  refine am_go 400 ?_
  exact k0
set_option maxRecDepth 100000 in
set_option maxHeartbeats 4000000 in
theorem w_whiM_es {I : Nat → Nat → Nat → Int32} {X : am_Z} {g : am_F} {gs : List am_F} {d : Nat} {Q : Option am_V → am_M → Prop} {k : Nat} {σ : Cn} {x z w : Int32} (hR : RepM (I 30 0) σ) (hD : GD σ) (hk : σ.1 ≤ k) (hk8 : k ≤ 8) {p q : Nat} (hp : p ≤ 60) {y : Option am_V} (k0 : (w = 0) → am_WP (am_psh g (some (.inl (nI p))) :: gs) (d + 7) (mk (fl I 30 0 0 150 (I 43 0)) X) Q) (k1 : (¬ w = 0) → am_WP (am_psh g (some (.inl (nI q))) :: gs) (d + 7) (mk (fl I 30 0 0 150 (I 43 0)) X) Q) : am_WP ((mX8_which, 50, [some (.inr (.inr (some (8, 0)))), some (.inl (x)), some (.inl (z)), some (.inl (w)), some (.inl (nI p)), some (.inl (nI q)), some (.inl (nI k)), y], []) :: g :: gs) (d + 6) (mk I X) Q := by
  have hn8 := hD.1
  refine am_go 400 ?_
  have bd : σ.1 ≤ 8 := hD.1
  have tk0 : I 30 0 0 = nI σ.1 := hR.1
  refine am_t ((le_nat (a := σ.1) (b := k) tk0 (rfl : (nI k : Int32) = nI k) (by omega) (by omega)).mpr hk) ?_
  refine (c_laysBack) _ _ _ ?_
  refine am_go 400 ?_
  refine am_t ((le_nat (a := 0) (b := p) (rfl : (0 : Int32) = nI 0) (rfl : (nI p : Int32) = nI p) (by omega) (by omega)).mpr (Nat.zero_le _)) ?_
  refine am_if (fun h1 => ?_) (fun h1 => ?_)
  · exact k0 h1
  · exact k1 h1
