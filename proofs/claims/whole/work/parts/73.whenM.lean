/-! when, the model -/
theorem c_to_0 {I X d} {b nt : Nat} {tx : Nat → Tx} {β : Bn} {fo : Nat} {v z : Int32} (hC : CxM I b nt tx β) (hg : GB β) (hn : nt ≤ 14) (hG : ∀ t, t < nt → GT (tx t)) (hv : v = nI b) (hb : b < 8) (hz : z = nI fo) (hfo : fo ≤ 999) (ht : trO (strN nt tx β) (gfN β) (β.1 3) fo = none) : Sw mX8_treeOf [.inr (.inr (some (8, 0))), .inl v, .inl z] (d + 5) I X (some (.inl (-1))) (fun I' => Gf I I') := by have := c_X8_treeOf (X := X) (d := d) hC hg hn hG hv hb hz hfo; rw [ht] at this; exact this
theorem c_to_1 {I X d} {cr : Nat} {b nt : Nat} {tx : Nat → Tx} {β : Bn} {fo : Nat} {v z : Int32} (hC : CxM I b nt tx β) (hg : GB β) (hn : nt ≤ 14) (hG : ∀ t, t < nt → GT (tx t)) (hv : v = nI b) (hb : b < 8) (hz : z = nI fo) (hfo : fo ≤ 999) (ht : trO (strN nt tx β) (gfN β) (β.1 3) fo = some cr) : Sw mX8_treeOf [.inr (.inr (some (8, 0))), .inl v, .inl z] (d + 5) I X (some (.inl (nI cr))) (fun I' => Gf I I') := by have := c_X8_treeOf (X := X) (d := d) hC hg hn hG hv hb hz hfo; rw [ht] at this; exact this
theorem CxM_L {I0 I s σ b} (h : RM I0 s) (L : Lb I0 I) (hR : RepM (I 30 0) σ) (hb : b < σ.1) : CxM I b s.1.2.1 s.1.2.2 (σ.2.2.2 b) := by
  refine ⟨hR.2.2.2.2.2 b hb, L.2.2.2.2.trans h.1.2.1, fun t ht => ?_⟩
  obtain ⟨a, b', c, d⟩ := h.1.2.2 t ht
  refine ⟨by rw [L.2.1 _ (by omega)]; exact a, by rw [L.2.1 _ (by omega)]; exact b', by rw [L.2.1 _ (by omega)]; exact c, fun k hk => ?_⟩
  obtain ⟨p, q⟩ := d k hk
  exact ⟨by rw [L.2.1 _ (by omega)]; exact p, by rw [L.2.1 _ (by omega)]; exact q⟩
set_option maxRecDepth 100000 in
set_option maxHeartbeats 4000000 in
theorem w_whenM_00 {I : Nat → Nat → Nat → Int32} {X : am_Z} {g : am_F} {gs : List am_F} {d : Nat} {Q : Option am_V → am_M → Prop} {b nt k fo : Nat} {tx : Nat → Tx} {σ : Cn} {x z w : Int32} (hC : CxM I b nt tx (σ.2.2.2 b)) (hR : RepM (I 30 0) σ) (hD : GD σ) (hn : nt ≤ 14) (hG : ∀ t, t < nt → GT (tx t)) (hk : b < σ.1) (hx : x = nI b) (hz : z = nI fo) (hfo : fo ≤ 999) (hi : k ≤ 61) (ht : trO (strN nt tx (σ.2.2.2 b)) (gfN (σ.2.2.2 b)) ((σ.2.2.2 b).1 3) fo = none) {y : Option am_V} (k0 : (60 < k) → am_WP (am_psh g (some (.inl ((-1000000005)))) :: gs) (d + 7) (mk (fl I 30 0 0 150 (I 43 0)) X) Q) (k1 : (¬ (60 < k)) → ∀ (I1 : Im), (Gf I I1) → ∀ (I2 : Im), (RepM (I2 30 0) (yrs 1 σ) ∧ FrY I1 I2) → am_WP ((mX8_when, 41, [some (.inr (.inr (some (8, 0)))), some (.inl (x)), some (.inl (z)), some (.inl (w)), some (.inl ((-1))), some (.inl (0)), some (.inl ((nI (k + 1)))), some (.inl ((-1)))], []) :: g :: gs) (d + 6) (mk I2 X) Q) : am_WP ((mX8_when, 41, [some (.inr (.inr (some (8, 0)))), some (.inl (x)), some (.inl (z)), some (.inl (w)), some (.inl ((-1))), some (.inl (0)), some (.inl (nI k)), y], []) :: g :: gs) (d + 6) (mk I X) Q := by
  have hn8 := hD.1
  refine am_go 400 ?_
  refine am_if (fun h1 => ?_) (fun h1 => ?_)
  · have nh1 := (lt_nat (a := 60) (b := k) (rfl : (60 : Int32) = nI 60) (rfl : (nI k : Int32) = nI k) (by omega) (by omega)).mp h1
    refine (c_laysBack) _ _ _ ?_
    refine am_go 400 ?_
    exact k0 nh1
  · have nh1 := mt (lt_nat (a := 60) (b := k) (rfl : (60 : Int32) = nI 60) (rfl : (nI k : Int32) = nI k) (by omega) (by omega)).mpr h1
    refine (c_to_0 (I := I) (b := b) (fo := fo) hC (hD.2.2.2 b hk) hn hG hx (by omega) hz (by omega) ht) _ _ _ ?_
    intro I1 p1
    refine am_go 400 ?_
    refine (c_X8_goesOnMany (I := I1) (n := 1) (σ := σ) (rfl : (1 : Int32) = nI 1) (show RepM (I1 30 0) σ from by rw [p1.2 30 (by decide) (by decide) (by decide) (by decide) (by decide)]; exact hR) hD (by omega)) _ _ _ ?_
    intro I2 p2
    refine am_go 400 ?_
    have tk0 : (nI k + 1) = nI (k + 1) := (nI_addE rfl (rfl : (1 : Int32) = nI 1))
    show am_WP ((mX8_when, 41, [some (.inr (.inr (some (8, 0)))), some (.inl (x)), some (.inl (z)), some (.inl (w)), some (.inl ((-1))), some (.inl (0)), some (.inl (((nI k + 1)))), some (.inl ((-1)))], []) :: g :: gs) (d + 6) (mk I2 X) Q
    try rw [tk0]
    exact k1 nh1 I1 p1 I2 p2
set_option maxRecDepth 100000 in
set_option maxHeartbeats 4000000 in
theorem w_whenM_01 {I : Nat → Nat → Nat → Int32} {X : am_Z} {g : am_F} {gs : List am_F} {d : Nat} {Q : Option am_V → am_M → Prop} {b nt k fo : Nat} {tx : Nat → Tx} {σ : Cn} {x z w : Int32} (hC : CxM I b nt tx (σ.2.2.2 b)) (hR : RepM (I 30 0) σ) (hD : GD σ) (hn : nt ≤ 14) (hG : ∀ t, t < nt → GT (tx t)) (hk : b < σ.1) (hx : x = nI b) (hz : z = nI fo) (hfo : fo ≤ 999) (hi : k ≤ 61) {cr : Nat} (hcr : cr ≤ 18) (ht : trO (strN nt tx (σ.2.2.2 b)) (gfN (σ.2.2.2 b)) ((σ.2.2.2 b).1 3) fo = some cr) {y : Option am_V} (k0 : (60 < k) → am_WP (am_psh g (some (.inl ((-1000000005)))) :: gs) (d + 7) (mk (fl I 30 0 0 150 (I 43 0)) X) Q) (k1 : (¬ (60 < k)) → ∀ (I1 : Im), (Gf I I1) → ∀ (I2 : Im), (RepM (I2 30 0) (yrs 1 σ) ∧ FrY I1 I2) → am_WP ((mX8_when, 41, [some (.inr (.inr (some (8, 0)))), some (.inl (x)), some (.inl (z)), some (.inl (w)), some (.inl (nI k)), some (.inl (nI cr)), some (.inl ((nI (k + 1)))), some (.inl (nI cr))], []) :: g :: gs) (d + 6) (mk I2 X) Q) : am_WP ((mX8_when, 41, [some (.inr (.inr (some (8, 0)))), some (.inl (x)), some (.inl (z)), some (.inl (w)), some (.inl ((-1))), some (.inl (0)), some (.inl (nI k)), y], []) :: g :: gs) (d + 6) (mk I X) Q := by
  have hn8 := hD.1
  refine am_go 400 ?_
  refine am_if (fun h1 => ?_) (fun h1 => ?_)
  · have nh1 := (lt_nat (a := 60) (b := k) (rfl : (60 : Int32) = nI 60) (rfl : (nI k : Int32) = nI k) (by omega) (by omega)).mp h1
    refine (c_laysBack) _ _ _ ?_
    refine am_go 400 ?_
    exact k0 nh1
  · have nh1 := mt (lt_nat (a := 60) (b := k) (rfl : (60 : Int32) = nI 60) (rfl : (nI k : Int32) = nI k) (by omega) (by omega)).mpr h1
    refine (c_to_1 (I := I) (b := b) (fo := fo) hC (hD.2.2.2 b hk) hn hG hx (by omega) hz (by omega) ht) _ _ _ ?_
    intro I1 p1
    refine am_go 400 ?_
    refine am_f (mt (lt_nat (a := cr) (b := 0) (rfl : (nI cr : Int32) = nI cr) (rfl : (0 : Int32) = nI 0) (by omega) (by omega)).mp (by omega)) ?_
    refine (c_X8_goesOnMany (I := I1) (n := 1) (σ := σ) (rfl : (1 : Int32) = nI 1) (show RepM (I1 30 0) σ from by rw [p1.2 30 (by decide) (by decide) (by decide) (by decide) (by decide)]; exact hR) hD (by omega)) _ _ _ ?_
    intro I2 p2
    refine am_go 400 ?_
    have tk0 : (nI k + 1) = nI (k + 1) := (nI_addE rfl (rfl : (1 : Int32) = nI 1))
    show am_WP ((mX8_when, 41, [some (.inr (.inr (some (8, 0)))), some (.inl (x)), some (.inl (z)), some (.inl (w)), some (.inl (nI k)), some (.inl (nI cr)), some (.inl (((nI k + 1)))), some (.inl (nI cr))], []) :: g :: gs) (d + 6) (mk I2 X) Q
    try rw [tk0]
    exact k1 nh1 I1 p1 I2 p2
set_option maxRecDepth 100000 in
set_option maxHeartbeats 4000000 in
theorem w_whenM_10 {I : Nat → Nat → Nat → Int32} {X : am_Z} {g : am_F} {gs : List am_F} {d : Nat} {Q : Option am_V → am_M → Prop} {b nt k fo : Nat} {tx : Nat → Tx} {σ : Cn} {x z w : Int32} (hC : CxM I b nt tx (σ.2.2.2 b)) (hR : RepM (I 30 0) σ) (hD : GD σ) (hn : nt ≤ 14) (hG : ∀ t, t < nt → GT (tx t)) (hk : b < σ.1) (hx : x = nI b) (hz : z = nI fo) (hfo : fo ≤ 999) (hi : k ≤ 61) (ht : trO (strN nt tx (σ.2.2.2 b)) (gfN (σ.2.2.2 b)) ((σ.2.2.2 b).1 3) fo = none) {p q : Nat} (hp : p ≤ 60) (hq : q ≤ 18) {y : Option am_V} (k0 : (60 < k) → (w = 0) → am_WP (am_psh g (some (.inl (nI p))) :: gs) (d + 7) (mk (fl I 30 0 0 150 (I 43 0)) X) Q) (k1 : (60 < k) → (¬ w = 0) → am_WP (am_psh g (some (.inl (nI q))) :: gs) (d + 7) (mk (fl I 30 0 0 150 (I 43 0)) X) Q) (k2 : (¬ (60 < k)) → ∀ (I1 : Im), (Gf I I1) → ∀ (I2 : Im), (RepM (I2 30 0) (yrs 1 σ) ∧ FrY I1 I2) → am_WP ((mX8_when, 41, [some (.inr (.inr (some (8, 0)))), some (.inl (x)), some (.inl (z)), some (.inl (w)), some (.inl (nI p)), some (.inl (nI q)), some (.inl ((nI (k + 1)))), some (.inl ((-1)))], []) :: g :: gs) (d + 6) (mk I2 X) Q) : am_WP ((mX8_when, 41, [some (.inr (.inr (some (8, 0)))), some (.inl (x)), some (.inl (z)), some (.inl (w)), some (.inl (nI p)), some (.inl (nI q)), some (.inl (nI k)), y], []) :: g :: gs) (d + 6) (mk I X) Q := by
  have hn8 := hD.1
  refine am_go 400 ?_
  refine am_if (fun h1 => ?_) (fun h1 => ?_)
  · have nh1 := (lt_nat (a := 60) (b := k) (rfl : (60 : Int32) = nI 60) (rfl : (nI k : Int32) = nI k) (by omega) (by omega)).mp h1
    refine (c_laysBack) _ _ _ ?_
    refine am_go 400 ?_
    refine am_t ((le_nat (a := 0) (b := p) (rfl : (0 : Int32) = nI 0) (rfl : (nI p : Int32) = nI p) (by omega) (by omega)).mpr (Nat.zero_le _)) ?_
    refine am_if (fun h2 => ?_) (fun h2 => ?_)
    · exact k0 nh1 h2
    · exact k1 nh1 h2
  · have nh1 := mt (lt_nat (a := 60) (b := k) (rfl : (60 : Int32) = nI 60) (rfl : (nI k : Int32) = nI k) (by omega) (by omega)).mpr h1
    refine (c_to_0 (I := I) (b := b) (fo := fo) hC (hD.2.2.2 b hk) hn hG hx (by omega) hz (by omega) ht) _ _ _ ?_
    intro I1 p1
    refine am_go 400 ?_
    refine (c_X8_goesOnMany (I := I1) (n := 1) (σ := σ) (rfl : (1 : Int32) = nI 1) (show RepM (I1 30 0) σ from by rw [p1.2 30 (by decide) (by decide) (by decide) (by decide) (by decide)]; exact hR) hD (by omega)) _ _ _ ?_
    intro I2 p2
    refine am_go 400 ?_
    have tk0 : (nI k + 1) = nI (k + 1) := (nI_addE rfl (rfl : (1 : Int32) = nI 1))
    show am_WP ((mX8_when, 41, [some (.inr (.inr (some (8, 0)))), some (.inl (x)), some (.inl (z)), some (.inl (w)), some (.inl (nI p)), some (.inl (nI q)), some (.inl (((nI k + 1)))), some (.inl ((-1)))], []) :: g :: gs) (d + 6) (mk I2 X) Q
    try rw [tk0]
    exact k2 nh1 I1 p1 I2 p2
set_option maxRecDepth 100000 in
set_option maxHeartbeats 4000000 in
theorem w_whenM_11 {I : Nat → Nat → Nat → Int32} {X : am_Z} {g : am_F} {gs : List am_F} {d : Nat} {Q : Option am_V → am_M → Prop} {b nt k fo : Nat} {tx : Nat → Tx} {σ : Cn} {x z w : Int32} (hC : CxM I b nt tx (σ.2.2.2 b)) (hR : RepM (I 30 0) σ) (hD : GD σ) (hn : nt ≤ 14) (hG : ∀ t, t < nt → GT (tx t)) (hk : b < σ.1) (hx : x = nI b) (hz : z = nI fo) (hfo : fo ≤ 999) (hi : k ≤ 61) {cr : Nat} (hcr : cr ≤ 18) (ht : trO (strN nt tx (σ.2.2.2 b)) (gfN (σ.2.2.2 b)) ((σ.2.2.2 b).1 3) fo = some cr) {p q : Nat} (hp : p ≤ 60) (hq : q ≤ 18) {y : Option am_V} (k0 : (60 < k) → (w = 0) → am_WP (am_psh g (some (.inl (nI p))) :: gs) (d + 7) (mk (fl I 30 0 0 150 (I 43 0)) X) Q) (k1 : (60 < k) → (¬ w = 0) → am_WP (am_psh g (some (.inl (nI q))) :: gs) (d + 7) (mk (fl I 30 0 0 150 (I 43 0)) X) Q) (k2 : (¬ (60 < k)) → ∀ (I1 : Im), (Gf I I1) → (q ≤ cr) → ∀ (I2 : Im), (RepM (I2 30 0) (yrs 1 σ) ∧ FrY I1 I2) → am_WP ((mX8_when, 41, [some (.inr (.inr (some (8, 0)))), some (.inl (x)), some (.inl (z)), some (.inl (w)), some (.inl (nI p)), some (.inl (nI q)), some (.inl ((nI (k + 1)))), some (.inl (nI cr))], []) :: g :: gs) (d + 6) (mk I2 X) Q) (k3 : (¬ (60 < k)) → ∀ (I1 : Im), (Gf I I1) → (¬ (q ≤ cr)) → ∀ (I3 : Im), (RepM (I3 30 0) (yrs 1 σ) ∧ FrY I1 I3) → am_WP ((mX8_when, 41, [some (.inr (.inr (some (8, 0)))), some (.inl (x)), some (.inl (z)), some (.inl (w)), some (.inl (nI k)), some (.inl (nI cr)), some (.inl ((nI (k + 1)))), some (.inl (nI cr))], []) :: g :: gs) (d + 6) (mk I3 X) Q) : am_WP ((mX8_when, 41, [some (.inr (.inr (some (8, 0)))), some (.inl (x)), some (.inl (z)), some (.inl (w)), some (.inl (nI p)), some (.inl (nI q)), some (.inl (nI k)), y], []) :: g :: gs) (d + 6) (mk I X) Q := by
  have hn8 := hD.1
  refine am_go 400 ?_
  refine am_if (fun h1 => ?_) (fun h1 => ?_)
  · have nh1 := (lt_nat (a := 60) (b := k) (rfl : (60 : Int32) = nI 60) (rfl : (nI k : Int32) = nI k) (by omega) (by omega)).mp h1
    refine (c_laysBack) _ _ _ ?_
    refine am_go 400 ?_
    refine am_t ((le_nat (a := 0) (b := p) (rfl : (0 : Int32) = nI 0) (rfl : (nI p : Int32) = nI p) (by omega) (by omega)).mpr (Nat.zero_le _)) ?_
    refine am_if (fun h2 => ?_) (fun h2 => ?_)
    · exact k0 nh1 h2
    · exact k1 nh1 h2
  · have nh1 := mt (lt_nat (a := 60) (b := k) (rfl : (60 : Int32) = nI 60) (rfl : (nI k : Int32) = nI k) (by omega) (by omega)).mpr h1
    refine (c_to_1 (I := I) (b := b) (fo := fo) hC (hD.2.2.2 b hk) hn hG hx (by omega) hz (by omega) ht) _ _ _ ?_
    intro I1 p1
    refine am_go 400 ?_
    refine am_f (mt (lt_nat (a := cr) (b := 0) (rfl : (nI cr : Int32) = nI cr) (rfl : (0 : Int32) = nI 0) (by omega) (by omega)).mp (by omega)) ?_
    refine am_f (mt (lt_nat (a := p) (b := 0) (rfl : (nI p : Int32) = nI p) (rfl : (0 : Int32) = nI 0) (by omega) (by omega)).mp (by omega)) ?_
    refine am_if (fun h3 => ?_) (fun h3 => ?_)
    · have nh3 := (le_nat (a := q) (b := cr) (rfl : (nI q : Int32) = nI q) (rfl : (nI cr : Int32) = nI cr) (by omega) (by omega)).mp h3
      refine (c_X8_goesOnMany (I := I1) (n := 1) (σ := σ) (rfl : (1 : Int32) = nI 1) (show RepM (I1 30 0) σ from by rw [p1.2 30 (by decide) (by decide) (by decide) (by decide) (by decide)]; exact hR) hD (by omega)) _ _ _ ?_
      intro I2 p2
      refine am_go 400 ?_
      have tk0 : (nI k + 1) = nI (k + 1) := (nI_addE rfl (rfl : (1 : Int32) = nI 1))
      show am_WP ((mX8_when, 41, [some (.inr (.inr (some (8, 0)))), some (.inl (x)), some (.inl (z)), some (.inl (w)), some (.inl (nI p)), some (.inl (nI q)), some (.inl (((nI k + 1)))), some (.inl (nI cr))], []) :: g :: gs) (d + 6) (mk I2 X) Q
      try rw [tk0]
      exact k2 nh1 I1 p1 nh3 I2 p2
    · have nh3 := mt (le_nat (a := q) (b := cr) (rfl : (nI q : Int32) = nI q) (rfl : (nI cr : Int32) = nI cr) (by omega) (by omega)).mpr h3
      refine (c_X8_goesOnMany (I := I1) (n := 1) (σ := σ) (rfl : (1 : Int32) = nI 1) (show RepM (I1 30 0) σ from by rw [p1.2 30 (by decide) (by decide) (by decide) (by decide) (by decide)]; exact hR) hD (by omega)) _ _ _ ?_
      intro I3 p3
      refine am_go 400 ?_
      have tk1 : (nI k + 1) = nI (k + 1) := (nI_addE rfl (rfl : (1 : Int32) = nI 1))
      show am_WP ((mX8_when, 41, [some (.inr (.inr (some (8, 0)))), some (.inl (x)), some (.inl (z)), some (.inl (w)), some (.inl (nI k)), some (.inl (nI cr)), some (.inl (((nI k + 1)))), some (.inl (nI cr))], []) :: g :: gs) (d + 6) (mk I3 X) Q
      try rw [tk1]
      exact k3 nh1 I1 p1 nh3 I3 p3
