/-! deal -/
noncomputable def stL : Nat → Nat → Int32 → Bn → Int32 × Bn
  | 0, _, z, β => (z, β)
  | m + 1, i, z, β => stL m (i + 1) (dZ z) (b1 β i (dN z % 25))
noncomputable def dlL : Nat → Nat → Cn → Cn
  | 0, _, σ => σ
  | m + 1, i, σ => dlL m (i + 1) (setB (setZ σ (dZ σ.2.2.1)) (σ.1 - 1) (b1 (σ.2.2.2 (σ.1 - 1)) i (dN σ.2.2.1 % 25)))
noncomputable def dealB (σ : Cn) : Cn := dlL 6 0 (addB (setZ σ (dZ (dZ (dZ σ.2.2.1)))) (newB (dN σ.2.2.1 % 6) (dN (dZ σ.2.2.1) % 60) (dN (dZ (dZ σ.2.2.1)) % 2)))
theorem dlL_st : ∀ (m i : Nat) (σ : Cn) (z : Int32) (β : Bn), dlL m i (addB (setZ σ z) β) = addB (setZ σ (stL m i z β).1) (stL m i z β).2
  | 0, _, _, _, _ => rfl
  | m + 1, i, σ, z, β => by
    have e1 : (addB (setZ σ z) β).1 - 1 = σ.1 := rfl
    have e2 : (addB (setZ σ z) β).2.2.2 σ.1 = β := fu_s
    have e3 : setB (setZ (addB (setZ σ z) β) (dZ z)) σ.1 (b1 β i (dN z % 25)) = addB (setZ σ (dZ z)) (b1 β i (dN z % 25)) := by
      show (σ.1 + 1, σ.2.1, dZ z, fu (fu σ.2.2.2 σ.1 β) σ.1 (b1 β i (dN z % 25))) = (σ.1 + 1, σ.2.1, dZ z, fu σ.2.2.2 σ.1 (b1 β i (dN z % 25)))
      have : fu (fu σ.2.2.2 σ.1 β) σ.1 (b1 β i (dN z % 25)) = fu σ.2.2.2 σ.1 (b1 β i (dN z % 25)) := by
        funext j
        by_cases e : j = σ.1
        · subst e; rw [fu_s, fu_s]
        · rw [fu_n e, fu_n e, fu_n e]
      rw [this]
    rw [dlL, e1, e2, show (addB (setZ σ z) β).2.2.1 = z from rfl, e3, dlL_st m (i + 1) σ (dZ z) (b1 β i (dN z % 25))]
    rfl
theorem dealB_st (σ : Cn) : dealB σ = addB (setZ σ (stL 6 0 (dZ (dZ (dZ σ.2.2.1))) (newB (dN σ.2.2.1 % 6) (dN (dZ σ.2.2.1) % 60) (dN (dZ (dZ σ.2.2.1)) % 2))).1) (stL 6 0 (dZ (dZ (dZ σ.2.2.1))) (newB (dN σ.2.2.1 % 6) (dN (dZ σ.2.2.1) % 60) (dN (dZ (dZ σ.2.2.1)) % 2))).2 := dlL_st 6 0 σ _ _
theorem GB_stL : ∀ (m i : Nat) (z : Int32) (β : Bn), GB β → GB (stL m i z β).2
  | 0, _, _, _, h => h
  | m + 1, i, z, β, h => GB_stL m (i + 1) (dZ z) _ (GB_1 h (by have := Nat.mod_lt (dN z) (show 0 < 25 by decide); omega))
theorem dealB_n (σ : Cn) : (dealB σ).1 = σ.1 + 1 ∧ (dealB σ).2.1 = σ.2.1 := by rw [dealB_st]; exact ⟨rfl, rfl⟩
theorem GD_deal {σ : Cn} (G : GD σ) (hn : σ.1 < 8) : GD (dealB σ) := by
  rw [dealB_st]
  have a := Nat.mod_lt (dN σ.2.2.1) (show 0 < 6 by decide)
  have b := Nat.mod_lt (dN (dZ σ.2.2.1)) (show 0 < 60 by decide)
  have c := Nat.mod_lt (dN (dZ (dZ σ.2.2.1))) (show 0 < 2 by decide)
  exact GD_add (σ := setZ σ _) G hn (GB_stL _ _ _ _ (GB_new (by omega) (by omega) (by omega)))
def DrI (I0 : Im) (c b : Nat) (z : Int32) (β : Bn) (I : Im) : Prop := RB (cB I b) β ∧ I 1 c 8 = z ∧ (∀ j, j ≠ 8 → I 1 c j = I0 1 c j) ∧ ∀ g k, ¬ (g = 1 ∧ k = c) → ¬ ((g = 0 ∨ g = 16 ∨ g = 17) ∧ k = b) → I g k = I0 g k
theorem DrI_s {I0 I : Im} {c b i v : Nat} {z z' x : Int32} {β : Bn} (h : DrI I0 c b z β I) (hx : x = nI v) : DrI I0 c b z' (b1 β i v) (up3 (up3 I 1 c 8 z') 16 b i x) := by
  obtain ⟨h1, h2, h3, h4⟩ := h
  refine ⟨b1_RC (I := up3 I 1 c 8 z') h1 hx, (up3_s : up3 I 1 c 8 z' 1 c 8 = z'), fun j hj => ?_, fun g k n m => ?_⟩
  · show up3 I 1 c 8 z' 1 c j = _; rw [up3_j hj]; exact h3 j hj
  · rw [up3_k (by
      by_cases e : g = 16
      · right; intro z; exact m ⟨by omega, z⟩
      · exact Or.inl e), up3_k (by
      by_cases e : g = 1
      · right; intro z; exact n ⟨e, z⟩
      · exact Or.inl e)]
    exact h4 g k n m
set_option maxRecDepth 100000 in
set_option maxHeartbeats 4000000 in
theorem w_X1_drawBottle_55 {I : Nat → Nat → Nat → Int32} {X : am_Z} {g : am_F} {gs : List am_F} {d : Nat} {Q : Option am_V → am_M → Prop} {c b n i : Nat} {z : Int32} (hz : I 1 c 8 = z) (hN : I 1 c 3 = nI n) (hi : i ≤ 6) {y1 y2 y3 : Option am_V} (k0 : (6 ≤ i) → am_WP (am_psh g none :: gs) (d + 2) (mk (up3 I 1 c (3) ((nI (n + 1)))) X) Q) (k1 : (¬ (6 ≤ i)) → am_WP ((mX1_drawBottle, 55, [some (.inr (.inr (some (1, c)))), some (.inr (.inr (some (0, b)))), y1, y2, y3, some (.inl ((nI (i + 1))))], []) :: g :: gs) (d + 1) (mk (up3 (up3 I 1 c (8) (dZ z)) 16 b (i) ((nI ((dN z) % 25)))) X) Q) : am_WP ((mX1_drawBottle, 55, [some (.inr (.inr (some (1, c)))), some (.inr (.inr (some (0, b)))), y1, y2, y3, some (.inl (nI i))], []) :: g :: gs) (d + 1) (mk I X) Q := by
  refine am_go 400 ?_
  refine am_if (fun h1 => ?_) (fun h1 => ?_)
  · have nh1 := (le_nat (a := 6) (b := i) (rfl : (6 : Int32) = nI 6) (rfl : (nI i : Int32) = nI i) (by omega) (by omega)).mp h1
    have tk0 : I 1 c 3 = nI n := hN
    have tk1 : ((I 1 c 3) + 1) = nI (n + 1) := by first | exact (nI_addE tk0 (rfl : (1 : Int32) = nI 1)) | (((try rw [tk0])); first | done | exact (nI_addE tk0 (rfl : (1 : Int32) = nI 1)))
    show am_WP (am_psh g none :: gs) (d + 2) (mk (up3 I 1 c (3) ((((I 1 c 3) + 1)))) X) Q
    try rw [tk1]
    try rw [tk0]
    exact k0 nh1
  · have nh1 := mt (le_nat (a := 6) (b := i) (rfl : (6 : Int32) = nI 6) (rfl : (nI i : Int32) = nI i) (by omega) (by omega)).mpr h1
    have tk2 : I 1 c 8 = z := hz
    have tk3 : nI (dN (I 1 c 8)) = nI (dN z) := by first | exact congrArg (fun z => nI (dN z)) tk2 | (((try rw [tk2])); first | done | exact congrArg (fun z => nI (dN z)) tk2)
    have bd : (dN z) + 1 ≤ 16777216 := dN_lt _
    refine (c_X1_draw) _ _ _ ?_
    refine am_go 400 ?_
    have tk4 : ((nI (dN (I 1 c 8))) - (nI (dN (I 1 c 8))) / 25 * 25) = nI ((dN z) % 25) := by first | exact remE tk3 (rfl : (25 : Int32) = nI 25) (by omega) (by omega) (by omega) | (((try rw [tk3]); (try rw [tk2])); first | done | exact remE tk3 (rfl : (25 : Int32) = nI 25) (by omega) (by omega) (by omega))
    have bd : (dN z) % 25 < 25 := Nat.mod_lt _ (by omega)
    refine am_f (ix_in (n := i) (N := 6) (rfl : (nI i : Int32) = nI i) (by omega) (by decide)) ?_
    have tk5 : (nI i).toNatClampNeg = i := ix_cl (n := i) (rfl : (nI i : Int32) = nI i) (by omega)
    have tk6 : (nI i + 1) = nI (i + 1) := (nI_addE rfl (rfl : (1 : Int32) = nI 1))
    show am_WP ((mX1_drawBottle, 55, [some (.inr (.inr (some (1, c)))), some (.inr (.inr (some (0, b)))), y1, y2, y3, some (.inl (((nI i + 1))))], []) :: g :: gs) (d + 1) (mk (up3 (up3 I 1 c (8) (dZ (I 1 c 8))) 16 b (((nI i).toNatClampNeg)) ((((nI (dN (I 1 c 8))) - (nI (dN (I 1 c 8))) / 25 * 25)))) X) Q
    try rw [tk4]
    try rw [tk5]
    try rw [tk3]
    try rw [tk6]
    try rw [tk2]
    exact k1 nh1
set_option maxRecDepth 100000 in
set_option maxHeartbeats 4000000 in
theorem w_X1_drawBottle {I : Nat → Nat → Nat → Int32} {X : am_Z} {g : am_F} {gs : List am_F} {d : Nat} {Q : Option am_V → am_M → Prop} {c : Nat} {σ : Cn} (hR : RepC I c σ) (hG : GD σ) (hc : c < 3) (k0 : (σ.1 < 8) → ∀ (I1 : Im), (RB (cB I1 ((σ.1) + 8 * c)) (newB ((dN (σ.2.2.1)) % 6) ((dN (dZ (σ.2.2.1))) % 60) ((dN (dZ (dZ (σ.2.2.1)))) % 2)) ∧ FrQ ((σ.1) + 8 * c) (up3 (up3 (up3 I 1 c (8) (dZ (σ.2.2.1))) 1 c (8) (dZ (dZ (σ.2.2.1)))) 1 c (8) (dZ (dZ (dZ (σ.2.2.1))))) I1) → am_WP ((mX1_drawBottle, 55, [some (.inr (.inr (some (1, c)))), some (.inr (.inr (some (0, (σ.1) + 8 * c)))), some (.inl ((nI ((dN (σ.2.2.1)) % 6)))), some (.inl ((nI ((dN (dZ (σ.2.2.1))) % 60)))), some (.inl ((nI ((dN (dZ (dZ (σ.2.2.1)))) % 2)))), some (.inl (0))], []) :: g :: gs) (d + 1) (mk I1 X) Q) (k1 : (¬ (σ.1 < 8)) → am_WP (am_psh g none :: gs) (d + 2) (mk I X) Q) : am_WP (am_entry mX1_drawBottle [.inr (.inr (some (1, c)))] :: g :: gs) (d + 1) (mk I X) Q := by
  have h8 := hG.1
  refine am_go 400 ?_
  have bd : σ.1 ≤ 8 := hG.1
  have tk0 : I 1 c 3 = nI σ.1 := hR.1
  refine am_if (fun h1 => ?_) (fun h1 => ?_)
  · have nh1 := (lt_nat (a := σ.1) (b := 8) tk0 (rfl : (8 : Int32) = nI 8) (by omega) (by omega)).mp h1
    have bd : σ.1 ≤ 8 := hG.1
    refine am_f (ix_in (n := σ.1) (N := 8) tk0 (by omega) (by decide)) ?_
    have tk1 : ((I 1 c 3)).toNatClampNeg = σ.1 := by first | exact ix_cl (n := σ.1) tk0 (by omega) | (((try rw [tk0])); first | done | exact ix_cl (n := σ.1) tk0 (by omega))
    have tk2 : I 1 c 8 = σ.2.2.1 := hR.2.2.2.2.1
    have tk3 : nI (dN (I 1 c 8)) = nI (dN (σ.2.2.1)) := by first | exact congrArg (fun z => nI (dN z)) tk2 | (((try rw [tk2])); first | done | exact congrArg (fun z => nI (dN z)) tk2)
    have bd : (dN (σ.2.2.1)) + 1 ≤ 16777216 := dN_lt _
    refine (c_X1_draw) _ _ _ ?_
    refine am_go 400 ?_
    have tk4 : ((nI (dN (I 1 c 8))) - (nI (dN (I 1 c 8))) / 6 * 6) = nI ((dN (σ.2.2.1)) % 6) := by first | exact remE tk3 (rfl : (6 : Int32) = nI 6) (by omega) (by omega) (by omega) | (((try rw [tk3]); (try rw [tk2])); first | done | exact remE tk3 (rfl : (6 : Int32) = nI 6) (by omega) (by omega) (by omega))
    have bd : (dN (σ.2.2.1)) % 6 < 6 := Nat.mod_lt _ (by omega)
    have tk5 : (up3 I 1 c (8) (dZ (I 1 c 8))) 1 c 8 = dZ (σ.2.2.1) := by first | exact up3_s | (((try rw [tk2])); first | done | exact up3_s)
    have tk6 : nI (dN ((up3 I 1 c (8) (dZ (I 1 c 8))) 1 c 8)) = nI (dN (dZ (σ.2.2.1))) := by first | exact congrArg (fun z => nI (dN z)) tk5 | (((try rw [tk5]); (try rw [tk2])); first | done | exact congrArg (fun z => nI (dN z)) tk5)
    have bd : (dN (dZ (σ.2.2.1))) + 1 ≤ 16777216 := dN_lt _
    refine (c_X1_draw) _ _ _ ?_
    refine am_go 400 ?_
    have tk7 : ((nI (dN ((up3 I 1 c (8) (dZ (I 1 c 8))) 1 c 8))) - (nI (dN ((up3 I 1 c (8) (dZ (I 1 c 8))) 1 c 8))) / 60 * 60) = nI ((dN (dZ (σ.2.2.1))) % 60) := by first | exact remE tk6 (rfl : (60 : Int32) = nI 60) (by omega) (by omega) (by omega) | (((try rw [tk6]); (try rw [tk5]); (try rw [tk2])); first | done | exact remE tk6 (rfl : (60 : Int32) = nI 60) (by omega) (by omega) (by omega))
    have bd : (dN (dZ (σ.2.2.1))) % 60 < 60 := Nat.mod_lt _ (by omega)
    have tk8 : (up3 (up3 I 1 c (8) (dZ (I 1 c 8))) 1 c (8) (dZ ((up3 I 1 c (8) (dZ (I 1 c 8))) 1 c 8))) 1 c 8 = dZ (dZ (σ.2.2.1)) := by first | exact up3_s | (((try rw [tk5]); (try rw [tk2])); first | done | exact up3_s)
    have tk9 : nI (dN ((up3 (up3 I 1 c (8) (dZ (I 1 c 8))) 1 c (8) (dZ ((up3 I 1 c (8) (dZ (I 1 c 8))) 1 c 8))) 1 c 8)) = nI (dN (dZ (dZ (σ.2.2.1)))) := by first | exact congrArg (fun z => nI (dN z)) tk8 | (((try rw [tk8]); (try rw [tk5]); (try rw [tk2])); first | done | exact congrArg (fun z => nI (dN z)) tk8)
    have bd : (dN (dZ (dZ (σ.2.2.1)))) + 1 ≤ 16777216 := dN_lt _
    refine (c_X1_draw) _ _ _ ?_
    refine am_go 400 ?_
    have tk10 : ((nI (dN ((up3 (up3 I 1 c (8) (dZ (I 1 c 8))) 1 c (8) (dZ ((up3 I 1 c (8) (dZ (I 1 c 8))) 1 c 8))) 1 c 8))) - (nI (dN ((up3 (up3 I 1 c (8) (dZ (I 1 c 8))) 1 c (8) (dZ ((up3 I 1 c (8) (dZ (I 1 c 8))) 1 c 8))) 1 c 8))) / 2 * 2) = nI ((dN (dZ (dZ (σ.2.2.1)))) % 2) := by first | exact remE tk9 (rfl : (2 : Int32) = nI 2) (by omega) (by omega) (by omega) | (((try rw [tk9]); (try rw [tk8]); (try rw [tk5]); (try rw [tk2])); first | done | exact remE tk9 (rfl : (2 : Int32) = nI 2) (by omega) (by omega) (by omega))
    have bd : (dN (dZ (dZ (σ.2.2.1)))) % 2 < 2 := Nat.mod_lt _ (by omega)
    refine (c_X0_becomeNew (b := (σ.1) + 8 * c) (show (((I 1 c 3)).toNatClampNeg) + 8 * c = (σ.1) + 8 * c by (try rw [tk1]); (try rw [tk0]); first | done | rfl) tk4 tk7 tk10) _ _ _ ?_
    intro I1 p1
    have p1 : RB (cB I1 ((σ.1) + 8 * c)) (newB ((dN (σ.2.2.1)) % 6) ((dN (dZ (σ.2.2.1))) % 60) ((dN (dZ (dZ (σ.2.2.1)))) % 2)) ∧ FrQ ((σ.1) + 8 * c) (up3 (up3 (up3 I 1 c (8) (dZ (I 1 c 8))) 1 c (8) (dZ ((up3 I 1 c (8) (dZ (I 1 c 8))) 1 c 8))) 1 c (8) (dZ ((up3 (up3 I 1 c (8) (dZ (I 1 c 8))) 1 c (8) (dZ ((up3 I 1 c (8) (dZ (I 1 c 8))) 1 c 8))) 1 c 8))) I1 := p1
    try rw [tk8] at p1
    try rw [tk5] at p1
    try rw [tk2] at p1
    refine am_go 2 ?_
    show am_WP ((mX1_drawBottle, 55, [some (.inr (.inr (some (1, c)))), some (.inr (.inr (some (0, (((I 1 c 3)).toNatClampNeg) + 8 * c)))), some (.inl ((((nI (dN (I 1 c 8))) - (nI (dN (I 1 c 8))) / 6 * 6)))), some (.inl ((((nI (dN ((up3 I 1 c (8) (dZ (I 1 c 8))) 1 c 8))) - (nI (dN ((up3 I 1 c (8) (dZ (I 1 c 8))) 1 c 8))) / 60 * 60)))), some (.inl ((((nI (dN ((up3 (up3 I 1 c (8) (dZ (I 1 c 8))) 1 c (8) (dZ ((up3 I 1 c (8) (dZ (I 1 c 8))) 1 c 8))) 1 c 8))) - (nI (dN ((up3 (up3 I 1 c (8) (dZ (I 1 c 8))) 1 c (8) (dZ ((up3 I 1 c (8) (dZ (I 1 c 8))) 1 c 8))) 1 c 8))) / 2 * 2)))), some (.inl (0))], []) :: g :: gs) (d + 1) (mk I1 X) Q
    try rw [tk10]
    try rw [tk7]
    try rw [tk9]
    try rw [tk8]
    try rw [tk4]
    try rw [tk6]
    try rw [tk5]
    try rw [tk1]
    try rw [tk3]
    try rw [tk2]
    try rw [tk0]
    exact k0 nh1 I1 p1
  · have nh1 := mt (lt_nat (a := σ.1) (b := 8) tk0 (rfl : (8 : Int32) = nI 8) (by omega) (by omega)).mpr h1
    exact k1 nh1
set_option maxRecDepth 100000 in
set_option maxHeartbeats 4000000 in
theorem w_X8_deal_17 {I : Nat → Nat → Nat → Int32} {X : am_Z} {g : am_F} {gs : List am_F} {d : Nat} {Q : Option am_V → am_M → Prop} {n c : Nat} {x : Int32} (hx : x = nI n) {σ : Cn} (hR : RepM (I 30 0) σ) (hG : GD σ) (hn : n ≤ 8) (hc : c ≤ n) {y1 y2 y3 : Option am_V} (k0 : (n ≤ c) → am_WP (am_psh g (some (.inl (nI c))) :: gs) (d + 3) (mk I X) Q) (k1 : (¬ (n ≤ c)) → (8 ≤ σ.1) → am_WP (am_psh g (some (.inl (nI c))) :: gs) (d + 3) (mk I X) Q) (k2 : (¬ (n ≤ c)) → (¬ (8 ≤ σ.1)) → ∀ (I1 : Im), (RepM (I1 30 0) (addB (setZ σ (dZ (dZ (dZ (σ.2.2.1))))) (newB ((dN (σ.2.2.1)) % 6) ((dN (dZ (σ.2.2.1))) % 60) ((dN (dZ (dZ (σ.2.2.1)))) % 2))) ∧ FrY (up3 (up3 (up3 I 30 0 (5) (dZ (σ.2.2.1))) 30 0 (5) (dZ (dZ (σ.2.2.1)))) 30 0 (5) (dZ (dZ (dZ (σ.2.2.1))))) I1) → am_WP ((mX8_deal, 66, [some (.inr (.inr (some (8, 0)))), some (.inl (x)), some (.inl (nI c)), some (.inl ((nI ((dN (σ.2.2.1)) % 6)))), some (.inl ((nI ((dN (dZ (σ.2.2.1))) % 60)))), some (.inl (0))], []) :: g :: gs) (d + 2) (mk I1 X) Q) : am_WP ((mX8_deal, 17, [some (.inr (.inr (some (8, 0)))), some (.inl (x)), some (.inl (nI c)), y1, y2, y3], []) :: g :: gs) (d + 2) (mk I X) Q := by
  refine am_go 400 ?_
  refine am_if (fun h1 => ?_) (fun h1 => ?_)
  · have nh1 := (le_nat (a := n) (b := c) hx (rfl : (nI c : Int32) = nI c) (by omega) (by omega)).mp h1
    exact k0 nh1
  · have nh1 := mt (le_nat (a := n) (b := c) hx (rfl : (nI c : Int32) = nI c) (by omega) (by omega)).mpr h1
    have bd : σ.1 ≤ 8 := hG.1
    have tk0 : I 30 0 0 = nI σ.1 := hR.1
    refine am_if (fun h2 => ?_) (fun h2 => ?_)
    · have nh2 := (le_nat (a := 8) (b := σ.1) (rfl : (8 : Int32) = nI 8) tk0 (by omega) (by omega)).mp h2
      exact k1 nh1 nh2
    · have nh2 := mt (le_nat (a := 8) (b := σ.1) (rfl : (8 : Int32) = nI 8) tk0 (by omega) (by omega)).mpr h2
      have tk1 : I 30 0 5 = σ.2.2.1 := hR.2.2.2.2.1
      have tk2 : nI (dN (I 30 0 5)) = nI (dN (σ.2.2.1)) := by first | exact congrArg (fun z => nI (dN z)) tk1 | (((try rw [tk1])); first | done | exact congrArg (fun z => nI (dN z)) tk1)
      have bd : (dN (σ.2.2.1)) + 1 ≤ 16777216 := dN_lt _
      refine (c_X8_draw) _ _ _ ?_
      refine am_go 400 ?_
      have tk3 : ((nI (dN (I 30 0 5))) - (nI (dN (I 30 0 5))) / 6 * 6) = nI ((dN (σ.2.2.1)) % 6) := by first | exact remE tk2 (rfl : (6 : Int32) = nI 6) (by omega) (by omega) (by omega) | (((try rw [tk2]); (try rw [tk1])); first | done | exact remE tk2 (rfl : (6 : Int32) = nI 6) (by omega) (by omega) (by omega))
      have bd : (dN (σ.2.2.1)) % 6 < 6 := Nat.mod_lt _ (by omega)
      have tk4 : (up3 I 30 0 (5) (dZ (I 30 0 5))) 30 0 5 = dZ (σ.2.2.1) := by first | exact up3_s | (((try rw [tk1])); first | done | exact up3_s)
      have tk5 : nI (dN ((up3 I 30 0 (5) (dZ (I 30 0 5))) 30 0 5)) = nI (dN (dZ (σ.2.2.1))) := by first | exact congrArg (fun z => nI (dN z)) tk4 | (((try rw [tk4]); (try rw [tk1])); first | done | exact congrArg (fun z => nI (dN z)) tk4)
      have bd : (dN (dZ (σ.2.2.1))) + 1 ≤ 16777216 := dN_lt _
      refine (c_X8_draw) _ _ _ ?_
      refine am_go 400 ?_
      have tk6 : ((nI (dN ((up3 I 30 0 (5) (dZ (I 30 0 5))) 30 0 5))) - (nI (dN ((up3 I 30 0 (5) (dZ (I 30 0 5))) 30 0 5))) / 60 * 60) = nI ((dN (dZ (σ.2.2.1))) % 60) := by first | exact remE tk5 (rfl : (60 : Int32) = nI 60) (by omega) (by omega) (by omega) | (((try rw [tk5]); (try rw [tk4]); (try rw [tk1])); first | done | exact remE tk5 (rfl : (60 : Int32) = nI 60) (by omega) (by omega) (by omega))
      have bd : (dN (dZ (σ.2.2.1))) % 60 < 60 := Nat.mod_lt _ (by omega)
      have tk7 : (up3 (up3 I 30 0 (5) (dZ (I 30 0 5))) 30 0 (5) (dZ ((up3 I 30 0 (5) (dZ (I 30 0 5))) 30 0 5))) 30 0 5 = dZ (dZ (σ.2.2.1)) := by first | exact up3_s | (((try rw [tk4]); (try rw [tk1])); first | done | exact up3_s)
      have tk8 : nI (dN ((up3 (up3 I 30 0 (5) (dZ (I 30 0 5))) 30 0 (5) (dZ ((up3 I 30 0 (5) (dZ (I 30 0 5))) 30 0 5))) 30 0 5)) = nI (dN (dZ (dZ (σ.2.2.1)))) := by first | exact congrArg (fun z => nI (dN z)) tk7 | (((try rw [tk7]); (try rw [tk4]); (try rw [tk1])); first | done | exact congrArg (fun z => nI (dN z)) tk7)
      have bd : (dN (dZ (dZ (σ.2.2.1)))) + 1 ≤ 16777216 := dN_lt _
      refine (c_X8_draw) _ _ _ ?_
      refine am_go 400 ?_
      have tk9 : ((nI (dN ((up3 (up3 I 30 0 (5) (dZ (I 30 0 5))) 30 0 (5) (dZ ((up3 I 30 0 (5) (dZ (I 30 0 5))) 30 0 5))) 30 0 5))) - (nI (dN ((up3 (up3 I 30 0 (5) (dZ (I 30 0 5))) 30 0 (5) (dZ ((up3 I 30 0 (5) (dZ (I 30 0 5))) 30 0 5))) 30 0 5))) / 2 * 2) = nI ((dN (dZ (dZ (σ.2.2.1)))) % 2) := by first | exact remE tk8 (rfl : (2 : Int32) = nI 2) (by omega) (by omega) (by omega) | (((try rw [tk8]); (try rw [tk7]); (try rw [tk4]); (try rw [tk1])); first | done | exact remE tk8 (rfl : (2 : Int32) = nI 2) (by omega) (by omega) (by omega))
      have bd : (dN (dZ (dZ (σ.2.2.1)))) % 2 < 2 := Nat.mod_lt _ (by omega)
      refine (c_X8_comes (σ := (setZ σ (dZ ((up3 (up3 I 30 0 (5) (dZ (I 30 0 5))) 30 0 (5) (dZ ((up3 I 30 0 (5) (dZ (I 30 0 5))) 30 0 5))) 30 0 5)))) (RepM_Z (σ := (setZ (setZ σ (dZ (I 30 0 5))) (dZ ((up3 I 30 0 (5) (dZ (I 30 0 5))) 30 0 5)))) (RepM_Z (σ := (setZ σ (dZ (I 30 0 5)))) (RepM_Z (σ := σ) hR))) hG (show σ.1 < 8 by omega) tk3 tk6 tk9) _ _ _ ?_
      intro I1 p1
      have p1 : RepM (I1 30 0) (addB (setZ σ (dZ ((up3 (up3 I 30 0 (5) (dZ (I 30 0 5))) 30 0 (5) (dZ ((up3 I 30 0 (5) (dZ (I 30 0 5))) 30 0 5))) 30 0 5))) (newB ((dN (σ.2.2.1)) % 6) ((dN (dZ (σ.2.2.1))) % 60) ((dN (dZ (dZ (σ.2.2.1)))) % 2))) ∧ FrY (up3 (up3 (up3 I 30 0 (5) (dZ (I 30 0 5))) 30 0 (5) (dZ ((up3 I 30 0 (5) (dZ (I 30 0 5))) 30 0 5))) 30 0 (5) (dZ ((up3 (up3 I 30 0 (5) (dZ (I 30 0 5))) 30 0 (5) (dZ ((up3 I 30 0 (5) (dZ (I 30 0 5))) 30 0 5))) 30 0 5))) I1 := p1
      try rw [tk7] at p1
      try rw [tk4] at p1
      try rw [tk1] at p1
      refine am_go 2 ?_
      show am_WP ((mX8_deal, 66, [some (.inr (.inr (some (8, 0)))), some (.inl (x)), some (.inl (nI c)), some (.inl ((((nI (dN (I 30 0 5))) - (nI (dN (I 30 0 5))) / 6 * 6)))), some (.inl ((((nI (dN ((up3 I 30 0 (5) (dZ (I 30 0 5))) 30 0 5))) - (nI (dN ((up3 I 30 0 (5) (dZ (I 30 0 5))) 30 0 5))) / 60 * 60)))), some (.inl (0))], []) :: g :: gs) (d + 2) (mk I1 X) Q
      try rw [tk6]
      try rw [tk3]
      try rw [tk5]
      try rw [tk4]
      try rw [tk2]
      try rw [tk1]
      exact k2 nh1 nh2 I1 p1
set_option maxRecDepth 100000 in
set_option maxHeartbeats 4000000 in
theorem w_X8_deal_66 {I : Nat → Nat → Nat → Int32} {X : am_Z} {g : am_F} {gs : List am_F} {d : Nat} {Q : Option am_V → am_M → Prop} {c i : Nat} {x : Int32} {σ : Cn} (hR : RepM (I 30 0) σ) (hG : GD σ) (hs : 1 ≤ σ.1) (hi : i ≤ 6) {y1 y2 : Option am_V} (k0 : (6 ≤ i) → am_WP ((mX8_deal, 17, [some (.inr (.inr (some (8, 0)))), some (.inl (x)), some (.inl ((nI (c + 1)))), y1, y2, some (.inl (nI i))], []) :: g :: gs) (d + 2) (mk I X) Q) (k1 : (¬ (6 ≤ i)) → am_WP ((mX8_deal, 66, [some (.inr (.inr (some (8, 0)))), some (.inl (x)), some (.inl (nI c)), y1, y2, some (.inl ((nI (i + 1))))], []) :: g :: gs) (d + 2) (mk (up3 (up3 I 30 0 (5) (dZ (σ.2.2.1))) 30 0 (6 + 18 * (σ.1 - 1) + (6 + i)) ((nI ((dN (σ.2.2.1)) % 25)))) X) Q) : am_WP ((mX8_deal, 66, [some (.inr (.inr (some (8, 0)))), some (.inl (x)), some (.inl (nI c)), y1, y2, some (.inl (nI i))], []) :: g :: gs) (d + 2) (mk I X) Q := by
  have h8 := hG.1
  refine am_go 400 ?_
  refine am_if (fun h1 => ?_) (fun h1 => ?_)
  · have nh1 := (le_nat (a := 6) (b := i) (rfl : (6 : Int32) = nI 6) (rfl : (nI i : Int32) = nI i) (by omega) (by omega)).mp h1
    have tk0 : (nI c + 1) = nI (c + 1) := (nI_addE rfl (rfl : (1 : Int32) = nI 1))
    show am_WP ((mX8_deal, 17, [some (.inr (.inr (some (8, 0)))), some (.inl (x)), some (.inl (((nI c + 1)))), y1, y2, some (.inl (nI i))], []) :: g :: gs) (d + 2) (mk I X) Q
    try rw [tk0]
    exact k0 nh1
  · have nh1 := mt (le_nat (a := 6) (b := i) (rfl : (6 : Int32) = nI 6) (rfl : (nI i : Int32) = nI i) (by omega) (by omega)).mpr h1
    have bd : σ.1 ≤ 8 := hG.1
    have tk1 : I 30 0 0 = nI σ.1 := hR.1
    have tk2 : I 30 0 5 = σ.2.2.1 := hR.2.2.2.2.1
    have tk3 : nI (dN (I 30 0 5)) = nI (dN (σ.2.2.1)) := by first | exact congrArg (fun z => nI (dN z)) tk2 | (((try rw [tk2])); first | done | exact congrArg (fun z => nI (dN z)) tk2)
    have bd : (dN (σ.2.2.1)) + 1 ≤ 16777216 := dN_lt _
    refine (c_X8_draw) _ _ _ ?_
    refine am_go 400 ?_
    have tk4 : ((nI (dN (I 30 0 5))) - (nI (dN (I 30 0 5))) / 25 * 25) = nI ((dN (σ.2.2.1)) % 25) := by first | exact remE tk3 (rfl : (25 : Int32) = nI 25) (by omega) (by omega) (by omega) | (((try rw [tk3]); (try rw [tk2])); first | done | exact remE tk3 (rfl : (25 : Int32) = nI 25) (by omega) (by omega) (by omega))
    have bd : (dN (σ.2.2.1)) % 25 < 25 := Nat.mod_lt _ (by omega)
    refine (c8_puts (k := (σ.1 - 1)) (j := (6 + i)) (nI_subE tk1 (rfl : (1 : Int32) = nI 1) (by omega)) (nI_addE (rfl : (6 : Int32) = nI 6) rfl) (by omega)) _ _ _ ?_
    refine am_go 400 ?_
    have tk5 : (nI i + 1) = nI (i + 1) := (nI_addE rfl (rfl : (1 : Int32) = nI 1))
    show am_WP ((mX8_deal, 66, [some (.inr (.inr (some (8, 0)))), some (.inl (x)), some (.inl (nI c)), y1, y2, some (.inl (((nI i + 1))))], []) :: g :: gs) (d + 2) (mk (up3 (up3 I 30 0 (5) (dZ (I 30 0 5))) 30 0 (6 + 18 * (σ.1 - 1) + (6 + i)) ((((nI (dN (I 30 0 5))) - (nI (dN (I 30 0 5))) / 25 * 25)))) X) Q
    try rw [tk4]
    try rw [tk3]
    try rw [tk5]
    try rw [tk2]
    exact k1 nh1
theorem DrI_0 {I I1 : Im} {c b : Nat} {z1 z2 z3 : Int32} {β : Bn} (hr : RB (cB I1 b) β) (F : FrQ b (up3 (up3 (up3 I 1 c 8 z1) 1 c 8 z2) 1 c 8 z3) I1) : DrI I c b z3 β I1 := by
  have e1 : I1 1 c = up3 (up3 (up3 I 1 c 8 z1) 1 c 8 z2) 1 c 8 z3 1 c := F 1 c (fun z => by omega)
  refine ⟨hr, by rw [e1]; exact up3_s, fun j hj => by rw [e1, up3_j hj, up3_j hj, up3_j hj], fun g k n m => ?_⟩
  have q : g ≠ 1 ∨ k ≠ c := by
    by_cases e : g = 1
    · right; intro z; exact n ⟨e, z⟩
    · exact Or.inl e
  rw [F g k m, up3_k q, up3_k q, up3_k q]
theorem RepC_D {I I' : Im} {c : Nat} {σ : Cn} {β : Bn} {z : Int32} (h : RepC I c σ) (hn : σ.1 < 8) (D : DrI I c (σ.1 + 8 * c) z β I') : RepC (up3 I' 1 c 3 (nI (σ.1 + 1))) c (addB (setZ σ z) β) := by
  obtain ⟨d1, d2, d3, d4⟩ := D
  obtain ⟨a0, a1, a2, a3, a4, aB⟩ := h
  refine ⟨up3_s, by rw [up3_j (by decide), d3 _ (by decide)]; exact a1, by rw [up3_j (by decide), d3 _ (by decide)]; exact a2, by rw [up3_j (by decide), d3 _ (by decide)]; exact a3, by rw [up3_j (by decide)]; exact d2, fun k hk => ?_⟩
  show RB (cB I' _) (fu σ.2.2.2 σ.1 β k)
  have hk' : k < σ.1 + 1 := hk
  by_cases e : k = σ.1
  · subst e; rw [fu_s]; exact d1
  · rw [fu_n e]
    refine RB_same (aB k (by omega)) (fun i _ => ?_) (fun i _ => ?_) (fun i _ => ?_)
    · show I' 0 _ _ = I 0 _ _; rw [d4 _ _ (fun z => by omega) (fun z => by omega)]
    · show I' 16 _ _ = I 16 _ _; rw [d4 _ _ (fun z => by omega) (fun z => by omega)]
    · show I' 17 _ _ = I 17 _ _; rw [d4 _ _ (fun z => by omega) (fun z => by omega)]
theorem FrB_D {I I' : Im} {c b : Nat} {β : Bn} {z x : Int32} (D : DrI I c b z β I') (hb : 8 * c ≤ b ∧ b < 8 * c + 8) : FrB c I (up3 I' 1 c 3 x) :=
  FrB_1 ⟨fun g k n m => D.2.2.2 g k n (fun z => m ⟨z.1, by omega, by omega⟩), D.2.2.1 4 (by decide)⟩ (by decide)
theorem l_X1_drawBottle {I0 : Im} {X g gs d Q} {c b n : Nat} {y1 y2 y3 : Option am_V} (hN : I0 1 c 3 = nI n) : ∀ (m i : Nat) (z : Int32) (β : Bn) (I : Im), DrI I0 c b z β I → i + m = 6 →
    (∀ I', DrI I0 c b (stL m i z β).1 (stL m i z β).2 I' → am_WP (am_psh g none :: gs) (d + 2) (mk (up3 I' 1 c 3 (nI (n + 1))) X) Q) →
    am_WP ((mX1_drawBottle, 55, [some (.inr (.inr (some (1, c)))), some (.inr (.inr (some (0, b)))), y1, y2, y3, some (.inl (nI i))], []) :: g :: gs) (d + 1) (mk I X) Q
  | 0, i, z, β, I, h, hi, K => w_X1_drawBottle_55 h.2.1 ((h.2.2.1 3 (by decide)).trans hN) (by omega) (fun _ => K I h) (fun e => absurd (by omega) e)
  | m + 1, i, z, β, I, h, hi, K => w_X1_drawBottle_55 h.2.1 ((h.2.2.1 3 (by decide)).trans hN) (by omega) (fun e => absurd e (by omega)) (fun _ => l_X1_drawBottle hN m (i + 1) (dZ z) (b1 β i (dN z % 25)) _ (DrI_s h rfl) (by omega) K)
theorem c_X1_drawBottle {I X d} {c : Nat} {σ : Cn} (hR : RepC I c σ) (hG : GD σ) (hc : c < 3) (hn : σ.1 < 8) : Sw mX1_drawBottle [.inr (.inr (some (1, c)))] (d + 1) I X none (fun I' => RepC I' c (dealB σ) ∧ FrB c I I') := fun g gs Q K =>
  w_X1_drawBottle hR hG hc (fun _ I1 p1 => l_X1_drawBottle (I0 := I) hR.1 6 0 _ _ I1 (DrI_0 p1.1 p1.2) rfl (fun I' D => K _ ⟨by rw [dealB_st]; exact RepC_D hR hn D, FrB_D D (by omega)⟩)) (fun e => absurd hn e)
noncomputable def dlI : Nat → Cn → Cn
  | 0, σ => σ
  | m + 1, σ => dlI m (dealB σ)
noncomputable def dlS : Nat → Cn → Nat → Nat × Cn
  | 0, σ, c => (c, σ)
  | m + 1, σ, c => if σ.1 < 8 then dlS m (dealB σ) (c + 1) else (c, σ)
theorem dlS_I : ∀ (n : Nat) (σ : Cn) (c : Nat), σ.1 ≤ 8 → dlS n σ c = (c + min n (8 - σ.1), dlI (min n (8 - σ.1)) σ)
  | 0, σ, c, _ => by rw [Nat.zero_min]; rfl
  | n + 1, σ, c, h => by
    rw [dlS]
    by_cases e : σ.1 < 8
    · have a := (dealB_n σ).1
      rw [if_pos e, dlS_I n (dealB σ) (c + 1) (by omega), a, show min (n + 1) (8 - σ.1) = min n (8 - (σ.1 + 1)) + 1 by omega]
      show _ = (c + (min n (8 - (σ.1 + 1)) + 1), dlI (min n (8 - (σ.1 + 1))) (dealB σ))
      rw [show c + 1 + min n (8 - (σ.1 + 1)) = c + (min n (8 - (σ.1 + 1)) + 1) by omega]
    · rw [if_neg e, show min (n + 1) (8 - σ.1) = 0 by omega]
      rfl
noncomputable def f_deal (s : St) (x : Int32) : Int32 × St := if 1 ≤ x ∧ x ≤ 8 then (nI (dlS (kx x) s.1.1 0).1, (((dlS (kx x) s.1.1 0).2, s.1.2), s.2)) else (cBAD, s)
set_option maxRecDepth 100000 in
set_option maxHeartbeats 4000000 in
theorem w_X7_deal_30 {I : Nat → Nat → Nat → Int32} {X : am_Z} {g : am_F} {gs : List am_F} {d : Nat} {Q : Option am_V → am_M → Prop} {n i : Nat} {x : Int32} {σ : Cn} (hR : RepC I 0 σ) (hG : GD σ) (hn : n ≤ 8) (hi : i ≤ n) (hs : σ.1 + n ≤ 8 + i) (k0 : (n ≤ i) → am_WP (am_psh g (some (.inl (nI n))) :: gs) (d + 3) (mk I X) Q) (k1 : (¬ (n ≤ i)) → ∀ (I1 : Im), (RepC I1 0 (dealB σ) ∧ FrB 0 I I1) → am_WP ((mX7_deal, 30, [some (.inr (.inr (some (7, 0)))), some (.inl (x)), some (.inl (nI n)), some (.inl ((nI (i + 1))))], []) :: g :: gs) (d + 2) (mk I1 X) Q) : am_WP ((mX7_deal, 30, [some (.inr (.inr (some (7, 0)))), some (.inl (x)), some (.inl (nI n)), some (.inl (nI i))], []) :: g :: gs) (d + 2) (mk I X) Q := by
  refine am_go 400 ?_
  refine am_if (fun h1 => ?_) (fun h1 => ?_)
  · have nh1 := (le_nat (a := n) (b := i) (rfl : (nI n : Int32) = nI n) (rfl : (nI i : Int32) = nI i) (by omega) (by omega)).mp h1
    exact k0 nh1
  · have nh1 := mt (le_nat (a := n) (b := i) (rfl : (nI n : Int32) = nI n) (rfl : (nI i : Int32) = nI i) (by omega) (by omega)).mpr h1
    refine (c_X1_drawBottle (c := 0) hR hG (by omega) (by omega)) _ _ _ ?_
    intro I1 p1
    refine am_go 400 ?_
    have tk0 : (nI i + 1) = nI (i + 1) := (nI_addE rfl (rfl : (1 : Int32) = nI 1))
    show am_WP ((mX7_deal, 30, [some (.inr (.inr (some (7, 0)))), some (.inl (x)), some (.inl (nI n)), some (.inl (((nI i + 1))))], []) :: g :: gs) (d + 2) (mk I1 X) Q
    try rw [tk0]
    exact k1 nh1 I1 p1
theorem l_X7_deal {I0 : Im} {X g gs d Q} {n : Nat} {x : Int32} (hn : n ≤ 8) : ∀ (m i : Nat) (σ : Cn) (I : Im), RepC I 0 σ → GD σ → σ.1 + n ≤ 8 + i → FrB 0 I0 I → i + m = n →
    (∀ I', RepC I' 0 (dlI m σ) ∧ FrB 0 I0 I' → am_WP (am_psh g (some (.inl (nI n))) :: gs) (d + 3) (mk I' X) Q) →
    am_WP ((mX7_deal, 30, [some (.inr (.inr (some (7, 0)))), some (.inl x), some (.inl (nI n)), some (.inl (nI i))], []) :: g :: gs) (d + 2) (mk I X) Q
  | 0, i, σ, I, hR, hG, hs, F, hi, K => w_X7_deal_30 hR hG hn (by omega) hs (fun _ => K _ ⟨hR, F⟩) (fun h => absurd (by omega) h)
  | m + 1, i, σ, I, hR, hG, hs, F, hi, K => w_X7_deal_30 hR hG hn (by omega) hs (fun h => absurd h (by omega)) (fun _ I1 p1 => l_X7_deal hn m (i + 1) (dealB σ) I1 p1.1 (GD_deal hG (by omega)) (by rw [(dealB_n σ).1]; omega) (FrB_t F p1.2) (by omega) K)
theorem l_X8_dealI {I0 : Im} {X g gs d Q} {c : Nat} {x : Int32} {y1 y2 : Option am_V} : ∀ (m i : Nat) (σ : Cn) (I : Im), RepM (I 30 0) σ → GD σ → 1 ≤ σ.1 → FrY I0 I → i + m = 6 →
    (∀ I', RepM (I' 30 0) (dlL m i σ) ∧ FrY I0 I' → am_WP ((mX8_deal, 17, [some (.inr (.inr (some (8, 0)))), some (.inl x), some (.inl (nI (c + 1))), y1, y2, some (.inl (nI 6))], []) :: g :: gs) (d + 2) (mk I' X) Q) →
    am_WP ((mX8_deal, 66, [some (.inr (.inr (some (8, 0)))), some (.inl x), some (.inl (nI c)), y1, y2, some (.inl (nI i))], []) :: g :: gs) (d + 2) (mk I X) Q
  | 0, i, σ, I, hR, hG, hs, F, hi, K => w_X8_deal_66 hR hG hs (by omega) (fun _ => by rw [show i = 6 by omega]; exact K _ ⟨hR, F⟩) (fun h => absurd (by omega) h)
  | m + 1, i, σ, I, hR, hG, hs, F, hi, K => w_X8_deal_66 hR hG hs (by omega) (fun h => absurd h (by omega)) (fun _ => by
      have h8 := hG.1
      have bd := Nat.mod_lt (dN σ.2.2.1) (show 0 < 25 by decide)
      exact l_X8_dealI m (i + 1) (setB (setZ σ (dZ σ.2.2.1)) (σ.1 - 1) (b1 (σ.2.2.2 (σ.1 - 1)) i (dN σ.2.2.1 % 25))) _ (RepM_1 (σ := setZ σ (dZ σ.2.2.1)) (RepM_Z hR) (show σ.1 - 1 < σ.1 by omega) (by omega) rfl) (GD_B (σ := setZ σ (dZ σ.2.2.1)) hG (GB_1 (hG.2.2.2 _ (by omega)) (by omega))) hs (FrY_3 (FrY_3 F (by omega)) (by omega)) (by omega) K)
theorem l_X8_deal {I0 : Im} {X g gs d Q} {n : Nat} {x : Int32} (hx : x = nI n) (hn : n ≤ 8) : ∀ (m c : Nat) (σ : Cn) (I : Im) (y1 y2 y3 : Option am_V), RepM (I 30 0) σ → GD σ → FrY I0 I → c + m = n →
    (∀ I', RepM (I' 30 0) (dlS m σ c).2 ∧ FrY I0 I' → am_WP (am_psh g (some (.inl (nI (dlS m σ c).1))) :: gs) (d + 3) (mk I' X) Q) →
    am_WP ((mX8_deal, 17, [some (.inr (.inr (some (8, 0)))), some (.inl x), some (.inl (nI c)), y1, y2, y3], []) :: g :: gs) (d + 2) (mk I X) Q
  | 0, c, σ, I, y1, y2, y3, hR, hG, F, hi, K => w_X8_deal_17 hx hR hG hn (by omega) (fun _ => K _ ⟨hR, F⟩) (fun h => absurd (by omega) h) (fun h => absurd (by omega) h)
  | m + 1, c, σ, I, y1, y2, y3, hR, hG, F, hi, K => by
    refine w_X8_deal_17 hx hR hG hn (by omega) (fun h => absurd h (by omega)) ?_ ?_
    · intro _ h2
      have e : dlS (m + 1) σ c = (c, σ) := by rw [dlS, if_neg (by omega)]
      rw [e] at K
      exact K _ ⟨hR, F⟩
    · intro _ h2 I1 p1
      have e : dlS (m + 1) σ c = dlS m (dealB σ) (c + 1) := by rw [dlS, if_pos (by omega)]
      rw [e] at K
      have a := Nat.mod_lt (dN σ.2.2.1) (show 0 < 6 by decide)
      have b := Nat.mod_lt (dN (dZ σ.2.2.1)) (show 0 < 60 by decide)
      have c' := Nat.mod_lt (dN (dZ (dZ σ.2.2.1))) (show 0 < 2 by decide)
      refine l_X8_dealI (I0 := I0) 6 0 _ I1 p1.1 (GD_add (σ := setZ σ _) hG (show σ.1 < 8 by omega) (GB_new (by omega) (by omega) (by omega))) (show 1 ≤ σ.1 + 1 by omega) (FrY_t (FrY_3 (FrY_3 (FrY_3 F (by omega)) (by omega)) (by omega)) p1.2) rfl ?_
      intro I2 p2
      exact l_X8_deal hx hn m (c + 1) (dealB σ) I2 _ _ _ p2.1 (GD_deal hG (by omega)) p2.2 (by omega) K
set_option maxRecDepth 100000 in
set_option maxHeartbeats 4000000 in
theorem w_X7_deal {I : Nat → Nat → Nat → Int32} {X : am_Z} {g : am_F} {gs : List am_F} {d : Nat} {Q : Option am_V → am_M → Prop} {s : St} (h : RC I X s) (G : GS s) {x : Int32} (k0 : (¬ ((1 : Int32) ≤ x ∧ x ≤ 8)) → am_WP (am_psh g (some (.inl ((-1000000001)))) :: gs) (d + 3) (mk I X) Q) (k1 : ((1 : Int32) ≤ x ∧ x ≤ 8) → am_WP ((mX7_deal, 30, [some (.inr (.inr (some (7, 0)))), some (.inl (x)), some (.inl ((nI (min (kx x) (8 - (nb s)))))), some (.inl (0))], []) :: g :: gs) (d + 2) (mk I X) Q) : am_WP (am_entry mX7_deal [.inr (.inr (some (7, 0))), .inl (x)] :: g :: gs) (d + 2) (mk I X) Q := by
  have hn8 : nb s ≤ 8 := G.1.1.1
  refine am_go 400 ?_
  refine (c_X7_within (x) (1) (8)) _ _ _ ?_
  refine am_go 400 ?_
  refine am_if (fun h1 => ?_) (fun h1 => ?_)
  · have h1 := bI_0.mp h1
    exact k0 h1
  · have h1 := bI_1.mp h1
    obtain ⟨e_x, l_x⟩ := okr (lo := 1) (m := 8) (by decide) (by decide) h1
    have tk0 : I 1 0 3 = nI (nb s) := h.1.1.1
    have tk1 : (if (8 - (I 1 0 3)) < x then (8 - (I 1 0 3)) else x) = nI (min (kx x) (8 - (nb s))) := by first | exact minE e_x (nI_subE (rfl : (8 : Int32) = nI 8) tk0 (by omega)) (by omega) (by omega) | (((try rw [tk0])); first | done | exact minE e_x (nI_subE (rfl : (8 : Int32) = nI 8) tk0 (by omega)) (by omega) (by omega))
    refine am_cf rfl ?_
    refine am_cut ?_
    refine am_go 10 ?_
    show am_WP ((mX7_deal, 30, [some (.inr (.inr (some (7, 0)))), some (.inl (x)), some (.inl (((if (8 - (I 1 0 3)) < x then (8 - (I 1 0 3)) else x)))), some (.inl (0))], []) :: g :: gs) (d + 2) (mk I X) Q
    try rw [tk1]
    try rw [tk0]
    exact k1 h1
theorem p_X7_deal {I X d s} (h : RC I X s) (G : GS s) (x : Int32) : Sp mX7_deal [.inr (.inr (some (7, 0))), .inl (x)] (d + 2) I X (OC I X (f_deal s x)) := fun g gs Q K => by
  have hn8 : nb s ≤ 8 := G.1.1.1
  have g8 : G8 s := G8_ G
  refine w_X7_deal h G  ?_ ?_
  · intro h0
    apply K_s K
    unfold f_deal
    rw [if_neg h0]
    exact ⟨rfl, h, FrC_r⟩
  · intro h0
    obtain ⟨e_x, l_x⟩ := okr (lo := 1) (m := 8) (by decide) (by decide) h0
    refine l_X7_deal (by omega) _ 0 s.1.1 I h.1.1 (GC_D G.1.1) (by have : s.1.1.1 = nb s := rfl; omega) FrB_r (Nat.zero_add _) ?_
    intro I1 p1
    apply K_s K
    unfold f_deal
    rw [if_pos h0, dlS_I _ _ _ hn8]
    exact ⟨by rw [Nat.zero_add], RC_cel h g8 p1.2 p1.1, FrC_B p1.2⟩

set_option maxRecDepth 100000 in
set_option maxHeartbeats 4000000 in
theorem w_X8_deal {I : Nat → Nat → Nat → Int32} {X : am_Z} {g : am_F} {gs : List am_F} {d : Nat} {Q : Option am_V → am_M → Prop} {s : St} (h : RM I s) (G : GS s) {x : Int32} (k0 : (¬ ((1 : Int32) ≤ x ∧ x ≤ 8)) → am_WP (am_psh g (some (.inl ((-1000000001)))) :: gs) (d + 3) (mk I X) Q) (k1 : ((1 : Int32) ≤ x ∧ x ≤ 8) → am_WP ((mX8_deal, 17, [some (.inr (.inr (some (8, 0)))), some (.inl (x)), some (.inl (0)), none, none, none], []) :: g :: gs) (d + 2) (mk I X) Q) : am_WP (am_entry mX8_deal [.inr (.inr (some (8, 0))), .inl (x)] :: g :: gs) (d + 2) (mk I X) Q := by
  have hn8 : nb s ≤ 8 := G.1.1.1
  refine am_go 400 ?_
  refine (m_isIn (x) (1) (8) _ _) _ _ _ ?_
  refine am_go 400 ?_
  refine am_if (fun h1 => ?_) (fun h1 => ?_)
  · have h1 := bI_0.mp h1
    exact k0 h1
  · have h1 := bI_1.mp h1
    obtain ⟨e_x, l_x⟩ := okr (lo := 1) (m := 8) (by decide) (by decide) h1
    refine am_cf rfl ?_
    refine am_cut ?_
    refine am_go 2 ?_
    exact k1 h1
theorem p_X8_deal {I X d s} (h : RM I s) (G : GS s) (x : Int32) : Sp mX8_deal [.inr (.inr (some (8, 0))), .inl (x)] (d + 2) I X (OM I X (f_deal s x)) := fun g gs Q K => by
  have hn8 : nb s ≤ 8 := G.1.1.1
  have g8 : G8 s := G8_ G
  refine w_X8_deal h G  ?_ ?_
  · intro h0
    apply K_s K
    unfold f_deal
    rw [if_neg h0]
    exact ⟨rfl, h, FrM_r, rfl⟩
  · intro h0
    obtain ⟨e_x, l_x⟩ := okr (lo := 1) (m := 8) (by decide) (by decide) h0
    refine l_X8_deal e_x (by omega) (kx x) 0 s.1.1 I none none none h.1.1 (GC_D G.1.1) FrY_r (Nat.zero_add _) ?_
    intro I1 p1
    apply K_s K
    unfold f_deal
    rw [if_pos h0]
    exact ⟨rfl, RM_cel h p1.2 p1.1, FrM_Y p1.2, rfl⟩

