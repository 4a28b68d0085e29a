/-! when, which, laid -/
def trE (e : Ce) (k fo : Nat) : Option Nat := trO (strN e.2.1 e.2.2 (e.1.2.2.2 k)) (gfN (e.1.2.2.2 k)) ((e.1.2.2.2 k).1 3) fo
def GX (e : Ce) : Prop := GD e.1 ∧ e.2.1 ≤ 14 ∧ ∀ t, t < e.2.1 → GT (e.2.2 t)
set_option maxRecDepth 100000 in
set_option maxHeartbeats 4000000 in
theorem w_X7_crumbsThought {I : Nat → Nat → Nat → Int32} {X : am_Z} {g : am_F} {gs : List am_F} {d : Nat} {Q : Option am_V → am_M → Prop} {e : Ce} {k fo : Nat} {x z : Int32} (hE : CeC I X 2 e) (hNk : NkC I) (hG : GX e) (hk : k < e.1.1) (hx : x = nI k) (hz : z = nI fo) (hfo : fo ≤ 999)  (k0 : ∀ (I1 : Im), (FrN I I1 ∧ NkR I1 (strN e.2.1 e.2.2 (e.1.2.2.2 k)) (gfN (e.1.2.2.2 k)) ((e.1.2.2.2 k).1 3) ∧ NkC I1) → ∀ (I2 : Im), (Ef I1 I2 ∧ (∀ r, (trO (strN e.2.1 e.2.2 (e.1.2.2.2 k)) (gfN (e.1.2.2.2 k)) ((e.1.2.2.2 k).1 3) fo) = some r → I2 22 0 ((e.1.2.2.2 k).1 3) = nI (trT (strN e.2.1 e.2.2 (e.1.2.2.2 k)) (gfN (e.1.2.2.2 k)) fo ((e.1.2.2.2 k).1 3) ((e.1.2.2.2 k).1 3)).2)) → am_WP (am_psh g (some (.inl ((oI (trO (strN e.2.1 e.2.2 (e.1.2.2.2 k)) (gfN (e.1.2.2.2 k)) ((e.1.2.2.2 k).1 3) fo))))) :: gs) (d + 6) (mk I2 X) Q) : am_WP (am_entry mX7_crumbsThought [.inr (.inr (some (7, 0))), .inl (x), .inl (z)] :: g :: gs) (d + 5) (mk I X) Q := by
  have hn8 := hG.1.1
  have hl6 := (hG.1.2.2.2 k hk).2.2.2.1
  refine am_go 400 ?_
  refine am_f (ix_in (n := k) (N := 8) hx (by omega) (by decide)) ?_
  have tk0 : (x).toNatClampNeg = k := ix_cl (n := k) hx (by omega)
  refine (c_X2_look (I := I) (c := 2) (b := k + 16) (show ((x).toNatClampNeg) + 16 = k + 16 by (try rw [tk0]); first | done | rfl) (show RB (cB I (k + 16)) (e.1.2.2.2 k) from hE.1.2.2.2.2.2 k hk) (hG.1.2.2.2 k hk) hE.2 hG.2.1 hG.2.2 hNk) _ _ _ ?_
  intro I1 p1
  refine am_go 400 ?_
  refine (c_X2_few (I := I1) (L := (e.1.2.2.2 k).1 3) (fo := fo) p1.2.1 p1.2.2 (fun l hl => strN_le (hG.1.2.2.2 k hk) hl) (gfN_le (hG.1.2.2.2 k hk)) hz (by omega) (by omega) (gfN_m6 (by omega))) _ _ _ ?_
  intro I2 p2
  refine am_go 400 ?_
  exact k0 I1 p1 I2 p2
theorem c_X7_crumbsThought {I X d} {e : Ce} {k fo : Nat} {x z : Int32} (hE : CeC I X 2 e) (hNk : NkC I) (hG : GX e) (hk : k < e.1.1) (hx : x = nI k) (hz : z = nI fo) (hfo : fo ≤ 999) : Sw mX7_crumbsThought [.inr (.inr (some (7, 0))), .inl x, .inl z] (d + 5) I X (some (.inl (oI (trE e k fo)))) (fun I' => FrN I I' ∧ NkC I') := fun g gs Q K =>
  w_X7_crumbsThought hE hNk hG hk hx hz hfo (fun I1 p1 I2 p2 => K I2 ⟨FrN_E p1.1 p2.1, NkC_E p1.2.2 p2.1⟩)
theorem c_ct_0 {I X d} {e : Ce} {k fo : Nat} {x z : Int32} (hE : CeC I X 2 e) (hNk : NkC I) (hG : GX e) (hk : k < e.1.1) (hx : x = nI k) (hz : z = nI fo) (hfo : fo ≤ 999) (ht : trE e k fo = none) : Sw mX7_crumbsThought [.inr (.inr (some (7, 0))), .inl x, .inl z] (d + 5) I X (some (.inl (-1000000005))) (fun I' => FrN I I' ∧ NkC I') := by have := c_X7_crumbsThought (d := d) hE hNk hG hk hx hz hfo; rw [ht] at this; exact this
theorem c_ct_1 {I X d} {cr : Nat} {e : Ce} {k fo : Nat} {x z : Int32} (hE : CeC I X 2 e) (hNk : NkC I) (hG : GX e) (hk : k < e.1.1) (hx : x = nI k) (hz : z = nI fo) (hfo : fo ≤ 999) (ht : trE e k fo = some cr) : Sw mX7_crumbsThought [.inr (.inr (some (7, 0))), .inl x, .inl z] (d + 5) I X (some (.inl (nI cr))) (fun I' => FrN I I' ∧ NkC I') := by have := c_X7_crumbsThought (d := d) hE hNk hG hk hx hz hfo; rw [ht] at this; exact this
theorem trE_le {e : Ce} {k fo cr : Nat} (hG : GX e) (hk : k < e.1.1) (h : trE e k fo = some cr) : cr ≤ 18 := (trO_le (hG.1.2.2.2 k hk).2.2.2.1 (gfN_m6 (hG.1.2.2.2 k hk).2.2.2.1) h).1
/-- one more is looked at: the first k with fewest -/
def acN (k : Nat) : Option Nat → Option (Nat × Nat) → Option (Nat × Nat)
  | none, a => a
  | some c, none => some (k, c)
  | some c, some b => if c < b.2 then some (k, c) else some b
noncomputable def whL (tt : Nat × (Nat → Tx)) (b fo : Nat) : Nat → Nat → Cn → Option (Nat × Nat) → Option (Nat × Nat)
  | 0, _, _, a => a
  | m + 1, k, σ, a => whL tt b fo m (k + 1) (yearN σ) (acN k (trE (σ, tt) b fo) a)
theorem whL_0 {tt : Nat × (Nat → Tx)} {b fo : Nat} : ∀ (m k : Nat) (σ : Cn) (y : Nat), whL tt b fo m k σ (some (y, 0)) = some (y, 0)
  | 0, _, _, _ => rfl
  | m + 1, k, σ, y => by
    rw [whL]
    rcases ht : trE (σ, tt) b fo with _ | c
    · exact whL_0 m (k + 1) _ y
    · rw [acN, if_neg (Nat.not_lt_zero _)]; exact whL_0 m (k + 1) _ y
def aV (w : Int32) : Option (Nat × Nat) → Int32
  | none => cNONE
  | some a => if w = 0 then nI a.1 else nI a.2
theorem RepC_N {I I' c σ} (h : RepC I c σ) (F : FrN I I') : RepC I' c σ := by
  obtain ⟨a0, a1, a2, a3, a4, aB⟩ := h
  have q1 := F 1 (by decide)
  exact ⟨by rw [q1]; exact a0, by rw [q1]; exact a1, by rw [q1]; exact a2, by rw [q1]; exact a3, by rw [q1]; exact a4, fun k hk => RB_N (aB k hk) F⟩
theorem CeC_N {I I' X c e} (h : CeC I X c e) (F : FrN I I') : CeC I' X c e := ⟨RepC_N h.1 F, TsC_N h.2 F⟩
set_option maxRecDepth 100000 in
set_option maxHeartbeats 4000000 in
theorem w_whenC_00 {I : Nat → Nat → Nat → Int32} {X : am_Z} {g : am_F} {gs : List am_F} {d : Nat} {Q : Option am_V → am_M → Prop} {e : Ce} {k b fo : Nat} {x z w : Int32} (hE : CeC I X 2 e) (hNk : NkC I) (hG : GX e) (hk : b < e.1.1) (hx : x = nI b) (hz : z = nI fo) (hfo : fo ≤ 999) (hi : k ≤ 61) (ht : trE e b fo = none) {y : Option am_V} (k0 : (60 < k) → (w = 0) → am_WP (am_psh g (some (.inl ((-1000000005)))) :: gs) (d + 7) (mk I X) Q) (k1 : (60 < k) → (¬ w = 0) → am_WP (am_psh g (some (.inl ((-1000000005)))) :: gs) (d + 7) (mk I X) Q) (k2 : (¬ (60 < k)) → ∀ (I1 : Im), (FrN I I1 ∧ NkC I1) → ∀ (I2 : Im), (RepC I2 2 (yearN e.1) ∧ FrB 2 I1 I2) → am_WP ((mX7_when, 47, [some (.inr (.inr (some (7, 0)))), some (.inl (x)), some (.inl (z)), some (.inl (w)), some (.inl ((-1000000005))), some (.inl ((-1000000005))), some (.inl ((nI (k + 1)))), some (.inl ((-1000000005)))], []) :: g :: gs) (d + 6) (mk I2 X) Q) : am_WP ((mX7_when, 47, [some (.inr (.inr (some (7, 0)))), some (.inl (x)), some (.inl (z)), some (.inl (w)), some (.inl ((-1000000005))), some (.inl ((-1000000005))), some (.inl (nI k)), y], []) :: g :: gs) (d + 6) (mk I X) Q := by
  refine am_go 400 ?_
  refine am_if (fun h1 => ?_) (fun h1 => ?_)
  · have nh1 := (lt_nat (a := 60) (b := k) (rfl : (60 : Int32) = nI 60) (rfl : (nI k : Int32) = nI k) (by omega) (by omega)).mp h1
    refine am_if (fun h2 => ?_) (fun h2 => ?_)
    · exact k0 nh1 h2
    · exact k1 nh1 h2
  · have nh1 := mt (lt_nat (a := 60) (b := k) (rfl : (60 : Int32) = nI 60) (rfl : (nI k : Int32) = nI k) (by omega) (by omega)).mpr h1
    refine (c_ct_0 (I := I) (e := e) (k := b) (fo := fo) hE hNk hG hk hx hz (by omega) ht) _ _ _ ?_
    intro I1 p1
    refine am_go 400 ?_
    refine (c_few_N rfl) _ _ _ ?_
    refine am_go 400 ?_
    refine (c_X1_passYear (I := I1) (c := 2) (RepC_N hE.1 p1.1) hG.1 (by decide)) _ _ _ ?_
    intro I2 p2
    refine am_go 400 ?_
    have tk0 : (nI k + 1) = nI (k + 1) := (nI_addE rfl (rfl : (1 : Int32) = nI 1))
    show am_WP ((mX7_when, 47, [some (.inr (.inr (some (7, 0)))), some (.inl (x)), some (.inl (z)), some (.inl (w)), some (.inl ((-1000000005))), some (.inl ((-1000000005))), some (.inl (((nI k + 1)))), some (.inl ((-1000000005)))], []) :: g :: gs) (d + 6) (mk I2 X) Q
    try rw [tk0]
    exact k2 nh1 I1 p1 I2 p2
set_option maxRecDepth 100000 in
set_option maxHeartbeats 4000000 in
theorem w_whenC_01 {I : Nat → Nat → Nat → Int32} {X : am_Z} {g : am_F} {gs : List am_F} {d : Nat} {Q : Option am_V → am_M → Prop} {e : Ce} {k b fo : Nat} {x z w : Int32} (hE : CeC I X 2 e) (hNk : NkC I) (hG : GX e) (hk : b < e.1.1) (hx : x = nI b) (hz : z = nI fo) (hfo : fo ≤ 999) (hi : k ≤ 61) {cr : Nat} (hcr : cr ≤ 18) (ht : trE e b fo = some cr) {y : Option am_V} (k0 : (60 < k) → (w = 0) → am_WP (am_psh g (some (.inl ((-1000000005)))) :: gs) (d + 7) (mk I X) Q) (k1 : (60 < k) → (¬ w = 0) → am_WP (am_psh g (some (.inl ((-1000000005)))) :: gs) (d + 7) (mk I X) Q) (k2 : (¬ (60 < k)) → ∀ (I1 : Im), (FrN I I1 ∧ NkC I1) → ∀ (I2 : Im), (RepC I2 2 (yearN e.1) ∧ FrB 2 I1 I2) → am_WP ((mX7_when, 47, [some (.inr (.inr (some (7, 0)))), some (.inl (x)), some (.inl (z)), some (.inl (w)), some (.inl (nI k)), some (.inl (nI cr)), some (.inl ((nI (k + 1)))), some (.inl (nI cr))], []) :: g :: gs) (d + 6) (mk I2 X) Q) : am_WP ((mX7_when, 47, [some (.inr (.inr (some (7, 0)))), some (.inl (x)), some (.inl (z)), some (.inl (w)), some (.inl ((-1000000005))), some (.inl ((-1000000005))), some (.inl (nI k)), y], []) :: g :: gs) (d + 6) (mk I X) Q := by
  refine am_go 400 ?_
  refine am_if (fun h1 => ?_) (fun h1 => ?_)
  · have nh1 := (lt_nat (a := 60) (b := k) (rfl : (60 : Int32) = nI 60) (rfl : (nI k : Int32) = nI k) (by omega) (by omega)).mp h1
    refine am_if (fun h2 => ?_) (fun h2 => ?_)
    · exact k0 nh1 h2
    · exact k1 nh1 h2
  · have nh1 := mt (lt_nat (a := 60) (b := k) (rfl : (60 : Int32) = nI 60) (rfl : (nI k : Int32) = nI k) (by omega) (by omega)).mpr h1
    refine (c_ct_1 (I := I) (e := e) (k := b) (fo := fo) hE hNk hG hk hx hz (by omega) ht) _ _ _ ?_
    intro I1 p1
    refine am_go 400 ?_
    refine (c_few_0 (n := cr) (rfl : (nI cr : Int32) = nI cr) (by omega) rfl) _ _ _ ?_
    refine am_go 400 ?_
    refine (c_X1_passYear (I := I1) (c := 2) (RepC_N hE.1 p1.1) hG.1 (by decide)) _ _ _ ?_
    intro I2 p2
    refine am_go 400 ?_
    have tk0 : (nI k + 1) = nI (k + 1) := (nI_addE rfl (rfl : (1 : Int32) = nI 1))
    show am_WP ((mX7_when, 47, [some (.inr (.inr (some (7, 0)))), some (.inl (x)), some (.inl (z)), some (.inl (w)), some (.inl (nI k)), some (.inl (nI cr)), some (.inl (((nI k + 1)))), some (.inl (nI cr))], []) :: g :: gs) (d + 6) (mk I2 X) Q
    try rw [tk0]
    exact k2 nh1 I1 p1 I2 p2
set_option maxRecDepth 100000 in
set_option maxHeartbeats 4000000 in
theorem w_whenC_10 {I : Nat → Nat → Nat → Int32} {X : am_Z} {g : am_F} {gs : List am_F} {d : Nat} {Q : Option am_V → am_M → Prop} {e : Ce} {k b fo : Nat} {x z w : Int32} (hE : CeC I X 2 e) (hNk : NkC I) (hG : GX e) (hk : b < e.1.1) (hx : x = nI b) (hz : z = nI fo) (hfo : fo ≤ 999) (hi : k ≤ 61) (ht : trE e b fo = none) {p q : Nat} (hq : q ≤ 18) {y : Option am_V} (k0 : (60 < k) → (w = 0) → am_WP (am_psh g (some (.inl (nI p))) :: gs) (d + 7) (mk I X) Q) (k1 : (60 < k) → (¬ w = 0) → am_WP (am_psh g (some (.inl (nI q))) :: gs) (d + 7) (mk I X) Q) (k2 : (¬ (60 < k)) → (q = 0) → (w = 0) → am_WP (am_psh g (some (.inl (nI p))) :: gs) (d + 7) (mk I X) Q) (k3 : (¬ (60 < k)) → (q = 0) → (¬ w = 0) → am_WP (am_psh g (some (.inl (nI q))) :: gs) (d + 7) (mk I X) Q) (k4 : (¬ (60 < k)) → (¬ (q = 0)) → ∀ (I1 : Im), (FrN I I1 ∧ NkC I1) → ∀ (I2 : Im), (RepC I2 2 (yearN e.1) ∧ FrB 2 I1 I2) → am_WP ((mX7_when, 47, [some (.inr (.inr (some (7, 0)))), some (.inl (x)), some (.inl (z)), some (.inl (w)), some (.inl (nI p)), some (.inl (nI q)), some (.inl ((nI (k + 1)))), some (.inl ((-1000000005)))], []) :: g :: gs) (d + 6) (mk I2 X) Q) : am_WP ((mX7_when, 47, [some (.inr (.inr (some (7, 0)))), some (.inl (x)), some (.inl (z)), some (.inl (w)), some (.inl (nI p)), some (.inl (nI q)), some (.inl (nI k)), y], []) :: g :: gs) (d + 6) (mk I X) Q := by
  refine am_go 400 ?_
  refine am_if (fun h1 => ?_) (fun h1 => ?_)
  · have nh1 := (lt_nat (a := 60) (b := k) (rfl : (60 : Int32) = nI 60) (rfl : (nI k : Int32) = nI k) (by omega) (by omega)).mp h1
    refine am_if (fun h2 => ?_) (fun h2 => ?_)
    · exact k0 nh1 h2
    · exact k1 nh1 h2
  · have nh1 := mt (lt_nat (a := 60) (b := k) (rfl : (60 : Int32) = nI 60) (rfl : (nI k : Int32) = nI k) (by omega) (by omega)).mpr h1
    refine am_if (fun h3 => ?_) (fun h3 => ?_)
    · have nh3 := (eq_nat (a := q) (b := 0) (rfl : (nI q : Int32) = nI q) (rfl : (0 : Int32) = nI 0) (by omega) (by omega)).mp h3
      refine am_if (fun h4 => ?_) (fun h4 => ?_)
      · exact k2 nh1 nh3 h4
      · exact k3 nh1 nh3 h4
    · have nh3 := mt (eq_nat (a := q) (b := 0) (rfl : (nI q : Int32) = nI q) (rfl : (0 : Int32) = nI 0) (by omega) (by omega)).mpr h3
      refine (c_ct_0 (I := I) (e := e) (k := b) (fo := fo) hE hNk hG hk hx hz (by omega) ht) _ _ _ ?_
      intro I1 p1
      refine am_go 400 ?_
      refine (c_few_N rfl) _ _ _ ?_
      refine am_go 400 ?_
      refine (c_X1_passYear (I := I1) (c := 2) (RepC_N hE.1 p1.1) hG.1 (by decide)) _ _ _ ?_
      intro I2 p2
      refine am_go 400 ?_
      have tk0 : (nI k + 1) = nI (k + 1) := (nI_addE rfl (rfl : (1 : Int32) = nI 1))
      show am_WP ((mX7_when, 47, [some (.inr (.inr (some (7, 0)))), some (.inl (x)), some (.inl (z)), some (.inl (w)), some (.inl (nI p)), some (.inl (nI q)), some (.inl (((nI k + 1)))), some (.inl ((-1000000005)))], []) :: g :: gs) (d + 6) (mk I2 X) Q
      try rw [tk0]
      exact k4 nh1 nh3 I1 p1 I2 p2
set_option maxRecDepth 100000 in
set_option maxHeartbeats 4000000 in
theorem w_whenC_11 {I : Nat → Nat → Nat → Int32} {X : am_Z} {g : am_F} {gs : List am_F} {d : Nat} {Q : Option am_V → am_M → Prop} {e : Ce} {k b fo : Nat} {x z w : Int32} (hE : CeC I X 2 e) (hNk : NkC I) (hG : GX e) (hk : b < e.1.1) (hx : x = nI b) (hz : z = nI fo) (hfo : fo ≤ 999) (hi : k ≤ 61) {cr : Nat} (hcr : cr ≤ 18) (ht : trE e b fo = some cr) {p q : Nat} (hq : q ≤ 18) {y : Option am_V} (k0 : (60 < k) → (w = 0) → am_WP (am_psh g (some (.inl (nI p))) :: gs) (d + 7) (mk I X) Q) (k1 : (60 < k) → (¬ w = 0) → am_WP (am_psh g (some (.inl (nI q))) :: gs) (d + 7) (mk I X) Q) (k2 : (¬ (60 < k)) → (q = 0) → (w = 0) → am_WP (am_psh g (some (.inl (nI p))) :: gs) (d + 7) (mk I X) Q) (k3 : (¬ (60 < k)) → (q = 0) → (¬ w = 0) → am_WP (am_psh g (some (.inl (nI q))) :: gs) (d + 7) (mk I X) Q) (k4 : (¬ (60 < k)) → (¬ (q = 0)) → ∀ (I1 : Im), (FrN I I1 ∧ NkC I1) → (¬ (cr < q)) → ∀ (I2 : Im), (RepC I2 2 (yearN e.1) ∧ FrB 2 I1 I2) → am_WP ((mX7_when, 47, [some (.inr (.inr (some (7, 0)))), some (.inl (x)), some (.inl (z)), some (.inl (w)), some (.inl (nI p)), some (.inl (nI q)), some (.inl ((nI (k + 1)))), some (.inl (nI cr))], []) :: g :: gs) (d + 6) (mk I2 X) Q) (k5 : (¬ (60 < k)) → (¬ (q = 0)) → ∀ (I1 : Im), (FrN I I1 ∧ NkC I1) → (cr < q) → ∀ (I3 : Im), (RepC I3 2 (yearN e.1) ∧ FrB 2 I1 I3) → am_WP ((mX7_when, 47, [some (.inr (.inr (some (7, 0)))), some (.inl (x)), some (.inl (z)), some (.inl (w)), some (.inl (nI k)), some (.inl (nI cr)), some (.inl ((nI (k + 1)))), some (.inl (nI cr))], []) :: g :: gs) (d + 6) (mk I3 X) Q) : am_WP ((mX7_when, 47, [some (.inr (.inr (some (7, 0)))), some (.inl (x)), some (.inl (z)), some (.inl (w)), some (.inl (nI p)), some (.inl (nI q)), some (.inl (nI k)), y], []) :: g :: gs) (d + 6) (mk I X) Q := by
  refine am_go 400 ?_
  refine am_if (fun h1 => ?_) (fun h1 => ?_)
  · have nh1 := (lt_nat (a := 60) (b := k) (rfl : (60 : Int32) = nI 60) (rfl : (nI k : Int32) = nI k) (by omega) (by omega)).mp h1
    refine am_if (fun h2 => ?_) (fun h2 => ?_)
    · exact k0 nh1 h2
    · exact k1 nh1 h2
  · have nh1 := mt (lt_nat (a := 60) (b := k) (rfl : (60 : Int32) = nI 60) (rfl : (nI k : Int32) = nI k) (by omega) (by omega)).mpr h1
    refine am_if (fun h3 => ?_) (fun h3 => ?_)
    · have nh3 := (eq_nat (a := q) (b := 0) (rfl : (nI q : Int32) = nI q) (rfl : (0 : Int32) = nI 0) (by omega) (by omega)).mp h3
      refine am_if (fun h4 => ?_) (fun h4 => ?_)
      · exact k2 nh1 nh3 h4
      · exact k3 nh1 nh3 h4
    · have nh3 := mt (eq_nat (a := q) (b := 0) (rfl : (nI q : Int32) = nI q) (rfl : (0 : Int32) = nI 0) (by omega) (by omega)).mpr h3
      refine (c_ct_1 (I := I) (e := e) (k := b) (fo := fo) hE hNk hG hk hx hz (by omega) ht) _ _ _ ?_
      intro I1 p1
      refine am_go 400 ?_
      refine (c_few_1 (n := cr) (m := q) (rfl : (nI cr : Int32) = nI cr) (by omega) (rfl : (nI q : Int32) = nI q) (by omega)) _ _ _ ?_
      refine am_go 400 ?_
      refine am_if (fun h5 => ?_) (fun h5 => ?_)
      · have h5 := bI_0.mp h5
        refine (c_X1_passYear (I := I1) (c := 2) (RepC_N hE.1 p1.1) hG.1 (by decide)) _ _ _ ?_
        intro I2 p2
        refine am_go 400 ?_
        have tk0 : (nI k + 1) = nI (k + 1) := (nI_addE rfl (rfl : (1 : Int32) = nI 1))
        show am_WP ((mX7_when, 47, [some (.inr (.inr (some (7, 0)))), some (.inl (x)), some (.inl (z)), some (.inl (w)), some (.inl (nI p)), some (.inl (nI q)), some (.inl (((nI k + 1)))), some (.inl (nI cr))], []) :: g :: gs) (d + 6) (mk I2 X) Q
        try rw [tk0]
        exact k4 nh1 nh3 I1 p1 h5 I2 p2
      · have h5 := bI_1.mp h5
        refine (c_X1_passYear (I := I1) (c := 2) (RepC_N hE.1 p1.1) hG.1 (by decide)) _ _ _ ?_
        intro I3 p3
        refine am_go 400 ?_
        have tk1 : (nI k + 1) = nI (k + 1) := (nI_addE rfl (rfl : (1 : Int32) = nI 1))
        show am_WP ((mX7_when, 47, [some (.inr (.inr (some (7, 0)))), some (.inl (x)), some (.inl (z)), some (.inl (w)), some (.inl (nI k)), some (.inl (nI cr)), some (.inl (((nI k + 1)))), some (.inl (nI cr))], []) :: g :: gs) (d + 6) (mk I3 X) Q
        try rw [tk1]
        exact k5 nh1 nh3 I1 p1 h5 I3 p3
