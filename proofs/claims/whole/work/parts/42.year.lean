/-! A YEAR -/
def GD (σ : Cn) : Prop := σ.1 ≤ 8 ∧ σ.2.1 1 ≤ 100 ∧ σ.2.1 2 ≤ 5 ∧ ∀ k, k < σ.1 → GB (σ.2.2.2 k)
theorem GC_D {σ : Cn} (h : GC σ) : GD σ := ⟨h.1, h.2.2.1, h.2.2.2.1, h.2.2.2.2⟩
def ag1 (dp : Prop) [Decidable dp] (i : Nat) (σ : Cn) : Cn := if (σ.2.2.2 i).1 3 = 6 then setB σ i (ageN dp (σ.2.1 2) (σ.2.2.2 i)) else σ
def agL (dp : Prop) [Decidable dp] : Nat → Nat → Cn → Cn
  | 0, _, σ => σ
  | n + 1, i, σ => agL dp n (i + 1) (ag1 dp i σ)
noncomputable def yEnd (σ : Cn) : Cn := if 0 < σ.1 then setH (setB (setZ σ (dZ (dZ σ.2.2.1))) (dN σ.2.2.1 % σ.1) (b1 (σ.2.2.2 (dN σ.2.2.1 % σ.1)) (dN (dZ σ.2.2.1) % 6) ((σ.2.2.2 (dN σ.2.2.1 % σ.1)).2.1 (dN (dZ σ.2.2.1) % 6) - 1))) 0 (σ.2.1 0 + 1) else setH σ 0 (σ.2.1 0 + 1)
abbrev damp (σ : Cn) : Prop := dN σ.2.2.1 % 100 < σ.2.1 1
noncomputable def yearN (σ : Cn) : Cn := yEnd (agL (damp σ) σ.1 0 (setZ σ (dZ σ.2.2.1)))
theorem GB_age {dp : Prop} [Decidable dp] {w : Nat} {β : Bn} (h : GB β) : GB (ageN dp w β) := by
  have h0 : GB (b0 β 1 (min (β.1 1 + 1) 99)) := GB_0 h ⟨fun e => absurd e (by decide), fun _ => Nat.min_le_right _ _, fun e => absurd e (by decide), fun e => absurd e (by decide), fun e => absurd e (by decide)⟩
  have q1 := (h.2.2.2.2.2 0 (by decide)).1
  have q2 := (h.2.2.2.2.2 5 (by decide)).2
  unfold ageN
  split
  · split
    · exact GB_2 h0 (by omega)
    · exact h0
  · split
    · exact GB_1 h0 (by omega)
    · exact h0
theorem GD_B {σ : Cn} {k : Nat} {β : Bn} (G : GD σ) (hb : GB β) : GD (setB σ k β) := by
  obtain ⟨a, b, c, e⟩ := G
  refine ⟨a, b, c, fun k' hk' => ?_⟩
  show GB (fu _ _ _ k')
  by_cases q : k' = k
  · subst q; rw [fu_s]; exact hb
  · rw [fu_n q]; exact e k' hk'
theorem GD_ag1 {dp : Prop} [Decidable dp] {i : Nat} {σ : Cn} (G : GD σ) (hi : i < σ.1) : GD (ag1 dp i σ) := by
  unfold ag1
  split
  · exact GD_B G (GB_age (G.2.2.2 i hi))
  · exact G
theorem ag1_n {dp : Prop} [Decidable dp] {i : Nat} {σ : Cn} : (ag1 dp i σ).1 = σ.1 ∧ (ag1 dp i σ).2.1 = σ.2.1 ∧ (ag1 dp i σ).2.2.1 = σ.2.2.1 := by
  unfold ag1; split <;> exact ⟨rfl, rfl, rfl⟩
theorem agL_n {dp : Prop} [Decidable dp] : ∀ (n i : Nat) (σ : Cn), (agL dp n i σ).1 = σ.1 ∧ (agL dp n i σ).2.1 = σ.2.1 ∧ (agL dp n i σ).2.2.1 = σ.2.2.1
  | 0, _, _ => ⟨rfl, rfl, rfl⟩
  | n + 1, i, σ => by
    obtain ⟨a, b, c⟩ := agL_n (dp := dp) n (i + 1) (ag1 dp i σ)
    obtain ⟨a', b', c'⟩ := ag1_n (dp := dp) (i := i) (σ := σ)
    exact ⟨a.trans a', b.trans b', c.trans c'⟩
theorem GD_agL {dp : Prop} [Decidable dp] : ∀ (n i : Nat) (σ : Cn), GD σ → i + n = σ.1 → GD (agL dp n i σ)
  | 0, _, _, G, _ => G
  | n + 1, i, σ, G, h => GD_agL n (i + 1) _ (GD_ag1 G (by omega)) (by rw [ag1_n.1]; omega)
theorem GD_yEnd {σ : Cn} (G : GD σ) : GD (yEnd σ) := by
  have hH : ∀ σ' : Cn, ∀ v, GD σ' → GD (setH σ' 0 v) := fun σ' v g => by
    obtain ⟨a, b, c, e⟩ := g
    exact ⟨a, b, c, e⟩
  unfold yEnd
  split
  · rename_i h0
    have hk := Nat.mod_lt (dN σ.2.2.1) h0
    have hb := G.2.2.2 _ hk
    have hl := (hb.2.2.2.2.2 (dN (dZ σ.2.2.1) % 6) (Nat.mod_lt _ (by decide))).1
    exact hH _ _ (GD_B (σ := setZ σ (dZ (dZ σ.2.2.1))) G (GB_1 hb (by omega)))
  · exact hH _ _ G
theorem GD_year {σ : Cn} (G : GD σ) : GD (yearN σ) := GD_yEnd (GD_agL _ _ _ (show GD (setZ σ (dZ σ.2.2.1)) from G) (Nat.zero_add _))
theorem yEnd_n {σ : Cn} : (yEnd σ).1 = σ.1 ∧ (yEnd σ).2.1 = fu σ.2.1 0 (σ.2.1 0 + 1) := by unfold yEnd; split <;> exact ⟨rfl, rfl⟩
theorem yearN_n {σ : Cn} : (yearN σ).1 = σ.1 ∧ (yearN σ).2.1 = fu σ.2.1 0 (σ.2.1 0 + 1) := by
  have a := agL_n (dp := damp σ) σ.1 0 (setZ σ (dZ σ.2.2.1))
  unfold yearN
  rw [yEnd_n.1, yEnd_n.2, a.1, a.2.1]
  exact ⟨rfl, rfl⟩
/-- the class -/
theorem RepC_z {I c σ x} (h : RepC I c σ) : RepC (up3 I 1 c 8 x) c (setZ σ x) := by
  obtain ⟨a0, a1, a2, a3, a4, aB⟩ := h
  exact ⟨by rw [up3_j (by decide)]; exact a0, by rw [up3_j (by decide)]; exact a1, by rw [up3_j (by decide)]; exact a2, by rw [up3_j (by decide)]; exact a3, up3_s, aB⟩
theorem RepC_y {I c σ x v} (h : RepC I c σ) (hx : x = nI v) : RepC (up3 I 1 c 7 x) c (setH σ 0 v) := by
  obtain ⟨a0, a1, a2, a3, a4, aB⟩ := h
  exact ⟨by rw [up3_j (by decide)]; exact a0, up3_s.trans hx, by rw [up3_j (by decide)]; exact a2, by rw [up3_j (by decide)]; exact a3, by rw [up3_j (by decide)]; exact a4, aB⟩
set_option maxRecDepth 100000 in
set_option maxHeartbeats 4000000 in
theorem w_X1_passYear {I : Nat → Nat → Nat → Int32} {X : am_Z} {g : am_F} {gs : List am_F} {d : Nat} {Q : Option am_V → am_M → Prop} {c : Nat} {σ : Cn} (hR : RepC I c σ) (hG : GD σ) (k0 : ((σ.2.1 1) ≤ ((dN (σ.2.2.1)) % 100)) → am_WP ((mX1_passYear, 22, [some (.inr (.inr (some (1, c)))), some (.inl (0)), some (.inl (0)), none], []) :: g :: gs) (d + 1) (mk (up3 I 1 c (8) (dZ (σ.2.2.1))) X) Q) (k1 : (¬ ((σ.2.1 1) ≤ ((dN (σ.2.2.1)) % 100))) → am_WP ((mX1_passYear, 22, [some (.inr (.inr (some (1, c)))), some (.inl (1)), some (.inl (0)), none], []) :: g :: gs) (d + 1) (mk (up3 I 1 c (8) (dZ (σ.2.2.1))) X) Q) : am_WP (am_entry mX1_passYear [.inr (.inr (some (1, c)))] :: g :: gs) (d + 1) (mk I X) Q := by
  refine am_go 400 ?_
  have tk0 : I 1 c 8 = σ.2.2.1 := hR.2.2.2.2.1
  have tk1 : nI (dN (I 1 c 8)) = nI (dN (σ.2.2.1)) := by first | exact congrArg (fun z => nI (dN z)) tk0 | (((try rw [tk0])); first | done | exact congrArg (fun z => nI (dN z)) tk0)
  have bd : (dN (σ.2.2.1)) + 1 ≤ 16777216 := dN_lt _
  refine (c_X1_draw) _ _ _ ?_
  refine am_go 400 ?_
  have tk2 : ((nI (dN (I 1 c 8))) - (nI (dN (I 1 c 8))) / 100 * 100) = nI ((dN (σ.2.2.1)) % 100) := by first | exact remE tk1 (rfl : (100 : Int32) = nI 100) (by omega) (by omega) (by omega) | (((try rw [tk1]); (try rw [tk0])); first | done | exact remE tk1 (rfl : (100 : Int32) = nI 100) (by omega) (by omega) (by omega))
  have bd : (dN (σ.2.2.1)) % 100 < 100 := Nat.mod_lt _ (by omega)
  have bd : (σ.2.1 1) ≤ 100 := hG.2.1
  have tk3 : (up3 I 1 c (8) (dZ (I 1 c 8))) 1 c 5 = nI (σ.2.1 1) := by first | exact ((up3_j (by decide))).trans hR.2.2.1 | (((try rw [tk0])); first | done | exact ((up3_j (by decide))).trans hR.2.2.1)
  refine am_if (fun h1 => ?_) (fun h1 => ?_)
  · have nh1 := (le_nat (a := (σ.2.1 1)) (b := ((dN (σ.2.2.1)) % 100)) tk3 tk2 (by omega) (by omega)).mp h1
    refine am_cf rfl ?_
    refine am_cut ?_
    refine am_go 4 ?_
    show am_WP ((mX1_passYear, 22, [some (.inr (.inr (some (1, c)))), some (.inl (0)), some (.inl (0)), none], []) :: g :: gs) (d + 1) (mk (up3 I 1 c (8) (dZ (I 1 c 8))) X) Q
    try rw [tk0]
    exact k0 nh1
  · have nh1 := mt (le_nat (a := (σ.2.1 1)) (b := ((dN (σ.2.2.1)) % 100)) tk3 tk2 (by omega) (by omega)).mpr h1
    refine am_cut ?_
    refine am_go 5 ?_
    show am_WP ((mX1_passYear, 22, [some (.inr (.inr (some (1, c)))), some (.inl (1)), some (.inl (0)), none], []) :: g :: gs) (d + 1) (mk (up3 I 1 c (8) (dZ (I 1 c 8))) X) Q
    try rw [tk0]
    exact k1 nh1
set_option maxRecDepth 100000 in
set_option maxHeartbeats 4000000 in
theorem w_X1_passYear_22 {I : Nat → Nat → Nat → Int32} {X : am_Z} {g : am_F} {gs : List am_F} {d : Nat} {Q : Option am_V → am_M → Prop} {c i : Nat} {σ : Cn} {dp : Prop} [Decidable dp] (hR : RepC I c σ) (hG : GD σ) (hc : c < 3) (hi : i ≤ σ.1) {y : Option am_V} (k0 : (σ.1 ≤ i) → (σ.1 ≤ 0) → am_WP (am_psh g (some (.inl (bI (dp)))) :: gs) (d + 2) (mk (up3 I 1 c (7) ((nI ((σ.2.1 0) + 1)))) X) Q) (k1 : (σ.1 ≤ i) → (¬ (σ.1 ≤ 0)) → am_WP (am_psh g (some (.inl (bI (dp)))) :: gs) (d + 2) (mk (up3 (up3 (up3 (up3 I 1 c (8) (dZ (σ.2.2.1))) 1 c (8) (dZ (dZ (σ.2.2.1)))) 16 ((((dN (σ.2.2.1)) % σ.1)) + 8 * c) ((((dN (dZ (σ.2.2.1))) % 6))) ((nI (((σ.2.2.2 ((dN (σ.2.2.1)) % σ.1)).2.1 ((dN (dZ (σ.2.2.1))) % 6)) - 1)))) 1 c (7) ((nI ((σ.2.1 0) + 1)))) X) Q) (k2 : (¬ (σ.1 ≤ i)) → (((σ.2.2.2 i).1 3) = 6) → ∀ (I1 : Im), (RB (cB I1 (i + 8 * c)) (ageN dp (σ.2.1 2) (σ.2.2.2 i)) ∧ FrQ (i + 8 * c) I I1) → am_WP ((mX1_passYear, 22, [some (.inr (.inr (some (1, c)))), some (.inl (bI (dp))), some (.inl ((nI (i + 1)))), y], []) :: g :: gs) (d + 1) (mk I1 X) Q) (k3 : (¬ (σ.1 ≤ i)) → (¬ (((σ.2.2.2 i).1 3) = 6)) → am_WP ((mX1_passYear, 22, [some (.inr (.inr (some (1, c)))), some (.inl (bI (dp))), some (.inl ((nI (i + 1)))), y], []) :: g :: gs) (d + 1) (mk I X) Q) : am_WP ((mX1_passYear, 22, [some (.inr (.inr (some (1, c)))), some (.inl (bI (dp))), some (.inl (nI i)), y], []) :: g :: gs) (d + 1) (mk I X) Q := by
  have hn8 := hG.1
  refine am_go 400 ?_
  have bd : σ.1 ≤ 8 := hG.1
  have tk0 : I 1 c 3 = nI σ.1 := hR.1
  refine am_if (fun h1 => ?_) (fun h1 => ?_)
  · have nh1 := (le_nat (a := σ.1) (b := i) tk0 (rfl : (nI i : Int32) = nI i) (by omega) (by omega)).mp h1
    have bd : σ.1 ≤ 8 := hG.1
    refine am_if (fun h2 => ?_) (fun h2 => ?_)
    · have nh2 := (le_nat (a := σ.1) (b := 0) tk0 (rfl : (0 : Int32) = nI 0) (by omega) (by omega)).mp h2
      have tk1 : I 1 c 7 = nI (σ.2.1 0) := hR.2.1
      have tk2 : ((I 1 c 7) + 1) = nI ((σ.2.1 0) + 1) := by first | exact (nI_addE tk1 (rfl : (1 : Int32) = nI 1)) | (((try rw [tk1])); first | done | exact (nI_addE tk1 (rfl : (1 : Int32) = nI 1)))
      refine am_t bI_z ?_
      show am_WP (am_psh g (some (.inl (bI (dp)))) :: gs) (d + 2) (mk (up3 I 1 c (7) ((((I 1 c 7) + 1)))) X) Q
      try rw [tk2]
      try rw [tk1]
      exact k0 nh1 nh2
    · have nh2 := mt (le_nat (a := σ.1) (b := 0) tk0 (rfl : (0 : Int32) = nI 0) (by omega) (by omega)).mpr h2
      have tk3 : I 1 c 8 = σ.2.2.1 := hR.2.2.2.2.1
      have tk4 : nI (dN (I 1 c 8)) = nI (dN (σ.2.2.1)) := by first | exact congrArg (fun z => nI (dN z)) tk3 | (((try rw [tk3])); first | done | exact congrArg (fun z => nI (dN z)) tk3)
      have bd : (dN (σ.2.2.1)) + 1 ≤ 16777216 := dN_lt _
      refine (c_X1_draw) _ _ _ ?_
      refine am_go 400 ?_
      have bd : σ.1 ≤ 8 := hG.1
      have tk5 : (up3 I 1 c (8) (dZ (I 1 c 8))) 1 c 3 = nI σ.1 := by first | exact ((up3_j (by decide))).trans hR.1 | (((try rw [tk3])); first | done | exact ((up3_j (by decide))).trans hR.1)
      refine am_f (nzE tk5 (by omega) (by omega)) ?_
      have tk6 : ((nI (dN (I 1 c 8))) - (nI (dN (I 1 c 8))) / ((up3 I 1 c (8) (dZ (I 1 c 8))) 1 c 3) * ((up3 I 1 c (8) (dZ (I 1 c 8))) 1 c 3)) = nI ((dN (σ.2.2.1)) % σ.1) := by first | exact remE tk4 tk5 (by omega) (by omega) (by omega) | (((try rw [tk5]); (try rw [tk4]); (try rw [tk3])); first | done | exact remE tk4 tk5 (by omega) (by omega) (by omega))
      have bd : (dN (σ.2.2.1)) % σ.1 < σ.1 := Nat.mod_lt _ (by omega)
      refine am_f (ix_in (n := ((dN (σ.2.2.1)) % σ.1)) (N := 8) tk6 (by omega) (by decide)) ?_
      have tk7 : ((((nI (dN (I 1 c 8))) - (nI (dN (I 1 c 8))) / ((up3 I 1 c (8) (dZ (I 1 c 8))) 1 c 3) * ((up3 I 1 c (8) (dZ (I 1 c 8))) 1 c 3)))).toNatClampNeg = ((dN (σ.2.2.1)) % σ.1) := by first | exact ix_cl (n := ((dN (σ.2.2.1)) % σ.1)) tk6 (by omega) | (((try rw [tk6]); (try rw [tk5]); (try rw [tk4]); (try rw [tk3])); first | done | exact ix_cl (n := ((dN (σ.2.2.1)) % σ.1)) tk6 (by omega))
      have tk8 : (up3 I 1 c (8) (dZ (I 1 c 8))) 1 c 8 = dZ (σ.2.2.1) := by first | exact up3_s | (((try rw [tk3])); first | done | exact up3_s)
      have tk9 : nI (dN ((up3 I 1 c (8) (dZ (I 1 c 8))) 1 c 8)) = nI (dN (dZ (σ.2.2.1))) := by first | exact congrArg (fun z => nI (dN z)) tk8 | (((try rw [tk8]); (try rw [tk3])); first | done | exact congrArg (fun z => nI (dN z)) tk8)
      have bd : (dN (dZ (σ.2.2.1))) + 1 ≤ 16777216 := dN_lt _
      refine (c_X1_draw) _ _ _ ?_
      refine am_go 400 ?_
      have tk10 : ((nI (dN ((up3 I 1 c (8) (dZ (I 1 c 8))) 1 c 8))) - (nI (dN ((up3 I 1 c (8) (dZ (I 1 c 8))) 1 c 8))) / 6 * 6) = nI ((dN (dZ (σ.2.2.1))) % 6) := by first | exact remE tk9 (rfl : (6 : Int32) = nI 6) (by omega) (by omega) (by omega) | (((try rw [tk9]); (try rw [tk8]); (try rw [tk3])); first | done | exact remE tk9 (rfl : (6 : Int32) = nI 6) (by omega) (by omega) (by omega))
      have bd : (dN (dZ (σ.2.2.1))) % 6 < 6 := Nat.mod_lt _ (by omega)
      refine am_f (ix_in (n := ((dN (dZ (σ.2.2.1))) % 6)) (N := 6) tk10 (by omega) (by decide)) ?_
      have tk11 : ((((nI (dN ((up3 I 1 c (8) (dZ (I 1 c 8))) 1 c 8))) - (nI (dN ((up3 I 1 c (8) (dZ (I 1 c 8))) 1 c 8))) / 6 * 6))).toNatClampNeg = ((dN (dZ (σ.2.2.1))) % 6) := by first | exact ix_cl (n := ((dN (dZ (σ.2.2.1))) % 6)) tk10 (by omega) | (((try rw [tk10]); (try rw [tk9]); (try rw [tk8]); (try rw [tk3])); first | done | exact ix_cl (n := ((dN (dZ (σ.2.2.1))) % 6)) tk10 (by omega))
      have bd : ((σ.2.2.2 ((dN (σ.2.2.1)) % σ.1)).2.1 ((dN (dZ (σ.2.2.1))) % 6)) ≤ 24 := ((hG.2.2.2 ((dN (σ.2.2.1)) % σ.1) (by omega)).2.2.2.2.2 _ (by omega)).1
      have tk12 : (up3 (up3 I 1 c (8) (dZ (I 1 c 8))) 1 c (8) (dZ ((up3 I 1 c (8) (dZ (I 1 c 8))) 1 c 8))) 16 ((((((nI (dN (I 1 c 8))) - (nI (dN (I 1 c 8))) / ((up3 I 1 c (8) (dZ (I 1 c 8))) 1 c 3) * ((up3 I 1 c (8) (dZ (I 1 c 8))) 1 c 3)))).toNatClampNeg) + 8 * c) ((((((nI (dN ((up3 I 1 c (8) (dZ (I 1 c 8))) 1 c 8))) - (nI (dN ((up3 I 1 c (8) (dZ (I 1 c 8))) 1 c 8))) / 6 * 6))).toNatClampNeg)) = nI ((σ.2.2.2 ((dN (σ.2.2.1)) % σ.1)).2.1 ((dN (dZ (σ.2.2.1))) % 6)) := by first | exact (hR.2.2.2.2.2 ((dN (σ.2.2.1)) % σ.1) (by omega) _ (by omega)).2.1 | (((try rw [tk7]); (try rw [tk11]); (try rw [tk6]); (try rw [tk10]); (try rw [tk9]); (try rw [tk8]); (try rw [tk5]); (try rw [tk4]); (try rw [tk3])); first | done | exact (hR.2.2.2.2.2 ((dN (σ.2.2.1)) % σ.1) (by omega) _ (by omega)).2.1)
      have tk13 : (if (((up3 (up3 I 1 c (8) (dZ (I 1 c 8))) 1 c (8) (dZ ((up3 I 1 c (8) (dZ (I 1 c 8))) 1 c 8))) 16 ((((((nI (dN (I 1 c 8))) - (nI (dN (I 1 c 8))) / ((up3 I 1 c (8) (dZ (I 1 c 8))) 1 c 3) * ((up3 I 1 c (8) (dZ (I 1 c 8))) 1 c 3)))).toNatClampNeg) + 8 * c) ((((((nI (dN ((up3 I 1 c (8) (dZ (I 1 c 8))) 1 c 8))) - (nI (dN ((up3 I 1 c (8) (dZ (I 1 c 8))) 1 c 8))) / 6 * 6))).toNatClampNeg))) - 1) < 0 then 0 else (((up3 (up3 I 1 c (8) (dZ (I 1 c 8))) 1 c (8) (dZ ((up3 I 1 c (8) (dZ (I 1 c 8))) 1 c 8))) 16 ((((((nI (dN (I 1 c 8))) - (nI (dN (I 1 c 8))) / ((up3 I 1 c (8) (dZ (I 1 c 8))) 1 c 3) * ((up3 I 1 c (8) (dZ (I 1 c 8))) 1 c 3)))).toNatClampNeg) + 8 * c) ((((((nI (dN ((up3 I 1 c (8) (dZ (I 1 c 8))) 1 c 8))) - (nI (dN ((up3 I 1 c (8) (dZ (I 1 c 8))) 1 c 8))) / 6 * 6))).toNatClampNeg))) - 1)) = nI (((σ.2.2.2 ((dN (σ.2.2.1)) % σ.1)).2.1 ((dN (dZ (σ.2.2.1))) % 6)) - 1) := by first | exact mxE tk12 (rfl : (1 : Int32) = nI 1) (by omega) (by omega) | (((try rw [tk12]); (try rw [tk7]); (try rw [tk11]); (try rw [tk6]); (try rw [tk10]); (try rw [tk9]); (try rw [tk8]); (try rw [tk5]); (try rw [tk4]); (try rw [tk3])); first | done | exact mxE tk12 (rfl : (1 : Int32) = nI 1) (by omega) (by omega))
      refine am_f (ix_in (n := ((dN (dZ (σ.2.2.1))) % 6)) (N := 6) tk10 (by omega) (by decide)) ?_
      have tk14 : (up3 (up3 (up3 I 1 c (8) (dZ (I 1 c 8))) 1 c (8) (dZ ((up3 I 1 c (8) (dZ (I 1 c 8))) 1 c 8))) 16 ((((((nI (dN (I 1 c 8))) - (nI (dN (I 1 c 8))) / ((up3 I 1 c (8) (dZ (I 1 c 8))) 1 c 3) * ((up3 I 1 c (8) (dZ (I 1 c 8))) 1 c 3)))).toNatClampNeg) + 8 * c) ((((((nI (dN ((up3 I 1 c (8) (dZ (I 1 c 8))) 1 c 8))) - (nI (dN ((up3 I 1 c (8) (dZ (I 1 c 8))) 1 c 8))) / 6 * 6))).toNatClampNeg)) (((if (((up3 (up3 I 1 c (8) (dZ (I 1 c 8))) 1 c (8) (dZ ((up3 I 1 c (8) (dZ (I 1 c 8))) 1 c 8))) 16 ((((((nI (dN (I 1 c 8))) - (nI (dN (I 1 c 8))) / ((up3 I 1 c (8) (dZ (I 1 c 8))) 1 c 3) * ((up3 I 1 c (8) (dZ (I 1 c 8))) 1 c 3)))).toNatClampNeg) + 8 * c) ((((((nI (dN ((up3 I 1 c (8) (dZ (I 1 c 8))) 1 c 8))) - (nI (dN ((up3 I 1 c (8) (dZ (I 1 c 8))) 1 c 8))) / 6 * 6))).toNatClampNeg))) - 1) < 0 then 0 else (((up3 (up3 I 1 c (8) (dZ (I 1 c 8))) 1 c (8) (dZ ((up3 I 1 c (8) (dZ (I 1 c 8))) 1 c 8))) 16 ((((((nI (dN (I 1 c 8))) - (nI (dN (I 1 c 8))) / ((up3 I 1 c (8) (dZ (I 1 c 8))) 1 c 3) * ((up3 I 1 c (8) (dZ (I 1 c 8))) 1 c 3)))).toNatClampNeg) + 8 * c) ((((((nI (dN ((up3 I 1 c (8) (dZ (I 1 c 8))) 1 c 8))) - (nI (dN ((up3 I 1 c (8) (dZ (I 1 c 8))) 1 c 8))) / 6 * 6))).toNatClampNeg))) - 1))))) 1 c 7 = nI (σ.2.1 0) := by first | exact ((up3_j (by decide))).trans (((up3_j (by decide))).trans hR.2.1) | (((try rw [tk13]); (try rw [tk12]); (try rw [tk7]); (try rw [tk11]); (try rw [tk6]); (try rw [tk10]); (try rw [tk9]); (try rw [tk8]); (try rw [tk5]); (try rw [tk4]); (try rw [tk3])); first | done | exact ((up3_j (by decide))).trans (((up3_j (by decide))).trans hR.2.1))
      have tk15 : (((up3 (up3 (up3 I 1 c (8) (dZ (I 1 c 8))) 1 c (8) (dZ ((up3 I 1 c (8) (dZ (I 1 c 8))) 1 c 8))) 16 ((((((nI (dN (I 1 c 8))) - (nI (dN (I 1 c 8))) / ((up3 I 1 c (8) (dZ (I 1 c 8))) 1 c 3) * ((up3 I 1 c (8) (dZ (I 1 c 8))) 1 c 3)))).toNatClampNeg) + 8 * c) ((((((nI (dN ((up3 I 1 c (8) (dZ (I 1 c 8))) 1 c 8))) - (nI (dN ((up3 I 1 c (8) (dZ (I 1 c 8))) 1 c 8))) / 6 * 6))).toNatClampNeg)) (((if (((up3 (up3 I 1 c (8) (dZ (I 1 c 8))) 1 c (8) (dZ ((up3 I 1 c (8) (dZ (I 1 c 8))) 1 c 8))) 16 ((((((nI (dN (I 1 c 8))) - (nI (dN (I 1 c 8))) / ((up3 I 1 c (8) (dZ (I 1 c 8))) 1 c 3) * ((up3 I 1 c (8) (dZ (I 1 c 8))) 1 c 3)))).toNatClampNeg) + 8 * c) ((((((nI (dN ((up3 I 1 c (8) (dZ (I 1 c 8))) 1 c 8))) - (nI (dN ((up3 I 1 c (8) (dZ (I 1 c 8))) 1 c 8))) / 6 * 6))).toNatClampNeg))) - 1) < 0 then 0 else (((up3 (up3 I 1 c (8) (dZ (I 1 c 8))) 1 c (8) (dZ ((up3 I 1 c (8) (dZ (I 1 c 8))) 1 c 8))) 16 ((((((nI (dN (I 1 c 8))) - (nI (dN (I 1 c 8))) / ((up3 I 1 c (8) (dZ (I 1 c 8))) 1 c 3) * ((up3 I 1 c (8) (dZ (I 1 c 8))) 1 c 3)))).toNatClampNeg) + 8 * c) ((((((nI (dN ((up3 I 1 c (8) (dZ (I 1 c 8))) 1 c 8))) - (nI (dN ((up3 I 1 c (8) (dZ (I 1 c 8))) 1 c 8))) / 6 * 6))).toNatClampNeg))) - 1))))) 1 c 7) + 1) = nI ((σ.2.1 0) + 1) := by first | exact (nI_addE tk14 (rfl : (1 : Int32) = nI 1)) | (((try rw [tk14]); (try rw [tk13]); (try rw [tk12]); (try rw [tk7]); (try rw [tk11]); (try rw [tk6]); (try rw [tk10]); (try rw [tk9]); (try rw [tk8]); (try rw [tk5]); (try rw [tk4]); (try rw [tk3])); first | done | exact (nI_addE tk14 (rfl : (1 : Int32) = nI 1)))
      refine am_t bI_z ?_
      show am_WP (am_psh g (some (.inl (bI (dp)))) :: gs) (d + 2) (mk (up3 (up3 (up3 (up3 I 1 c (8) (dZ (I 1 c 8))) 1 c (8) (dZ ((up3 I 1 c (8) (dZ (I 1 c 8))) 1 c 8))) 16 ((((((nI (dN (I 1 c 8))) - (nI (dN (I 1 c 8))) / ((up3 I 1 c (8) (dZ (I 1 c 8))) 1 c 3) * ((up3 I 1 c (8) (dZ (I 1 c 8))) 1 c 3)))).toNatClampNeg) + 8 * c) ((((((nI (dN ((up3 I 1 c (8) (dZ (I 1 c 8))) 1 c 8))) - (nI (dN ((up3 I 1 c (8) (dZ (I 1 c 8))) 1 c 8))) / 6 * 6))).toNatClampNeg)) (((if (((up3 (up3 I 1 c (8) (dZ (I 1 c 8))) 1 c (8) (dZ ((up3 I 1 c (8) (dZ (I 1 c 8))) 1 c 8))) 16 ((((((nI (dN (I 1 c 8))) - (nI (dN (I 1 c 8))) / ((up3 I 1 c (8) (dZ (I 1 c 8))) 1 c 3) * ((up3 I 1 c (8) (dZ (I 1 c 8))) 1 c 3)))).toNatClampNeg) + 8 * c) ((((((nI (dN ((up3 I 1 c (8) (dZ (I 1 c 8))) 1 c 8))) - (nI (dN ((up3 I 1 c (8) (dZ (I 1 c 8))) 1 c 8))) / 6 * 6))).toNatClampNeg))) - 1) < 0 then 0 else (((up3 (up3 I 1 c (8) (dZ (I 1 c 8))) 1 c (8) (dZ ((up3 I 1 c (8) (dZ (I 1 c 8))) 1 c 8))) 16 ((((((nI (dN (I 1 c 8))) - (nI (dN (I 1 c 8))) / ((up3 I 1 c (8) (dZ (I 1 c 8))) 1 c 3) * ((up3 I 1 c (8) (dZ (I 1 c 8))) 1 c 3)))).toNatClampNeg) + 8 * c) ((((((nI (dN ((up3 I 1 c (8) (dZ (I 1 c 8))) 1 c 8))) - (nI (dN ((up3 I 1 c (8) (dZ (I 1 c 8))) 1 c 8))) / 6 * 6))).toNatClampNeg))) - 1))))) 1 c (7) (((((up3 (up3 (up3 I 1 c (8) (dZ (I 1 c 8))) 1 c (8) (dZ ((up3 I 1 c (8) (dZ (I 1 c 8))) 1 c 8))) 16 ((((((nI (dN (I 1 c 8))) - (nI (dN (I 1 c 8))) / ((up3 I 1 c (8) (dZ (I 1 c 8))) 1 c 3) * ((up3 I 1 c (8) (dZ (I 1 c 8))) 1 c 3)))).toNatClampNeg) + 8 * c) ((((((nI (dN ((up3 I 1 c (8) (dZ (I 1 c 8))) 1 c 8))) - (nI (dN ((up3 I 1 c (8) (dZ (I 1 c 8))) 1 c 8))) / 6 * 6))).toNatClampNeg)) (((if (((up3 (up3 I 1 c (8) (dZ (I 1 c 8))) 1 c (8) (dZ ((up3 I 1 c (8) (dZ (I 1 c 8))) 1 c 8))) 16 ((((((nI (dN (I 1 c 8))) - (nI (dN (I 1 c 8))) / ((up3 I 1 c (8) (dZ (I 1 c 8))) 1 c 3) * ((up3 I 1 c (8) (dZ (I 1 c 8))) 1 c 3)))).toNatClampNeg) + 8 * c) ((((((nI (dN ((up3 I 1 c (8) (dZ (I 1 c 8))) 1 c 8))) - (nI (dN ((up3 I 1 c (8) (dZ (I 1 c 8))) 1 c 8))) / 6 * 6))).toNatClampNeg))) - 1) < 0 then 0 else (((up3 (up3 I 1 c (8) (dZ (I 1 c 8))) 1 c (8) (dZ ((up3 I 1 c (8) (dZ (I 1 c 8))) 1 c 8))) 16 ((((((nI (dN (I 1 c 8))) - (nI (dN (I 1 c 8))) / ((up3 I 1 c (8) (dZ (I 1 c 8))) 1 c 3) * ((up3 I 1 c (8) (dZ (I 1 c 8))) 1 c 3)))).toNatClampNeg) + 8 * c) ((((((nI (dN ((up3 I 1 c (8) (dZ (I 1 c 8))) 1 c 8))) - (nI (dN ((up3 I 1 c (8) (dZ (I 1 c 8))) 1 c 8))) / 6 * 6))).toNatClampNeg))) - 1))))) 1 c 7) + 1)))) X) Q
      try rw [tk15]
      try rw [tk14]
      try rw [tk13]
      try rw [tk12]
      try rw [tk7]
      try rw [tk11]
      try rw [tk6]
      try rw [tk10]
      try rw [tk9]
      try rw [tk8]
      try rw [tk5]
      try rw [tk4]
      try rw [tk3]
      exact k1 nh1 nh2
  · have nh1 := mt (le_nat (a := σ.1) (b := i) tk0 (rfl : (nI i : Int32) = nI i) (by omega) (by omega)).mpr h1
    refine am_f (ix_in (n := i) (N := 8) (rfl : (nI i : Int32) = nI i) (by omega) (by decide)) ?_
    have tk16 : (nI i).toNatClampNeg = i := ix_cl (n := i) (rfl : (nI i : Int32) = nI i) (by omega)
    have bd : ((σ.2.2.2 i).1 3) ≤ 6 := (hG.2.2.2 i (by omega)).2.2.2.1
    have tk17 : I 0 (((nI i).toNatClampNeg) + 8 * c) 5 = nI ((σ.2.2.2 i).1 3) := by first | exact (hR.2.2.2.2.2 i (by omega) 3 (by omega)).1 | (((try rw [tk16])); first | done | exact (hR.2.2.2.2.2 i (by omega) 3 (by omega)).1)
    refine am_if (fun h3 => ?_) (fun h3 => ?_)
    · have nh3 := (eq_nat (a := ((σ.2.2.2 i).1 3)) (b := 6) tk17 (rfl : (6 : Int32) = nI 6) (by omega) (by omega)).mp h3
      refine am_f (ix_in (n := i) (N := 8) (rfl : (nI i : Int32) = nI i) (by omega) (by decide)) ?_
      have bd : (σ.2.1 2) ≤ 5 := hG.2.2.1
      have tk18 : I 1 c 6 = nI (σ.2.1 2) := hR.2.2.2.1
      refine (c_X0_age (b := i + 8 * c) (w := (σ.2.1 2)) (dp := dp) (show ((nI i).toNatClampNeg) + 8 * c = i + 8 * c by (try rw [tk16]); first | done | rfl) (hR.2.2.2.2.2 i (by omega)) (hG.2.2.2 i (by omega)) tk18 (by omega)) _ _ _ ?_
      intro I1 p1
      refine am_go 400 ?_
      have tk19 : (nI i + 1) = nI (i + 1) := (nI_addE rfl (rfl : (1 : Int32) = nI 1))
      show am_WP ((mX1_passYear, 22, [some (.inr (.inr (some (1, c)))), some (.inl (bI (dp))), some (.inl (((nI i + 1)))), y], []) :: g :: gs) (d + 1) (mk I1 X) Q
      try rw [tk19]
      exact k2 nh1 nh3 I1 p1
    · have nh3 := mt (eq_nat (a := ((σ.2.2.2 i).1 3)) (b := 6) tk17 (rfl : (6 : Int32) = nI 6) (by omega) (by omega)).mpr h3
      have tk20 : (nI i + 1) = nI (i + 1) := (nI_addE rfl (rfl : (1 : Int32) = nI 1))
      show am_WP ((mX1_passYear, 22, [some (.inr (.inr (some (1, c)))), some (.inl (bI (dp))), some (.inl (((nI i + 1)))), y], []) :: g :: gs) (d + 1) (mk I X) Q
      try rw [tk20]
      exact k3 nh1 nh3
theorem l_X1_passYear {I0 : Im} {X g gs d Q} {c : Nat} {dp : Prop} [Decidable dp] (hc : c < 3) : ∀ (n i : Nat) (σ : Cn) (I : Im) (y : Option am_V), RepC I c σ → GD σ → FrB c I0 I → i + n = σ.1 →
    (∀ I', RepC I' c (yEnd (agL dp n i σ)) ∧ FrB c I0 I' → am_WP (am_psh g (some (.inl (bI dp))) :: gs) (d + 2) (mk I' X) Q) →
    am_WP ((mX1_passYear, 22, [some (.inr (.inr (some (1, c)))), some (.inl (bI dp)), some (.inl (nI i)), y], []) :: g :: gs) (d + 1) (mk I X) Q
  | 0, i, σ, I, y, hR, hG, F, hi, K => by
    have h8 := hG.1
    refine w_X1_passYear_22 hR hG hc (by omega) ?_ ?_ (fun hn => absurd (by omega) hn) (fun hn => absurd (by omega) hn)
    · intro _ h0
      refine K _ ⟨?_, FrB_1 F (by decide)⟩
      show RepC _ c (yEnd σ)
      unfold yEnd
      rw [if_neg (by omega)]
      exact RepC_y hR rfl
    · intro _ h0
      have hk := Nat.mod_lt (dN σ.2.2.1) (show 0 < σ.1 by omega)
      refine K _ ⟨?_, FrB_1 (FrB_3 (FrB_1 (FrB_1 F (by decide)) (by decide)) (by decide) (by omega)) (by decide)⟩
      show RepC _ c (yEnd σ)
      unfold yEnd
      rw [if_pos (by omega)]
      exact RepC_y (RepC_w1 (σ := setZ σ (dZ (dZ σ.2.2.1))) (RepC_z (σ := setZ σ (dZ σ.2.2.1)) (RepC_z hR)) hG.1 hk rfl) rfl
  | n + 1, i, σ, I, y, hR, hG, F, hi, K => by
    have h8 := hG.1
    refine w_X1_passYear_22 hR hG hc (by omega) (fun hn => absurd hn (by omega)) (fun hn => absurd hn (by omega)) ?_ ?_
    · intro _ h6 I1 p1
      have e : ag1 dp i σ = setB σ i (ageN dp (σ.2.1 2) (σ.2.2.2 i)) := by unfold ag1; rw [if_pos h6]
      refine l_X1_passYear hc n (i + 1) (ag1 dp i σ) I1 y ?_ (GD_ag1 hG (by omega)) (FrB_q F p1.2 (by omega)) (by rw [ag1_n.1]; omega) K
      rw [e]
      exact RepC_B hR hG.1 (by omega) p1.2 p1.1
    · intro _ h6
      have e : ag1 dp i σ = σ := by unfold ag1; rw [if_neg h6]
      refine l_X1_passYear hc n (i + 1) (ag1 dp i σ) I y ?_ (GD_ag1 hG (by omega)) F (by rw [ag1_n.1]; omega) K
      rw [e]
      exact hR
theorem c_X1_passYear {I X d} {c : Nat} {σ : Cn} (hR : RepC I c σ) (hG : GD σ) (hc : c < 3) : Sw mX1_passYear [.inr (.inr (some (1, c)))] (d + 1) I X (some (.inl (bI (damp σ)))) (fun I' => RepC I' c (yearN σ) ∧ FrB c I I') := fun g gs Q K => by
  have hR' : RepC (up3 I 1 c 8 (dZ σ.2.2.1)) c (setZ σ (dZ σ.2.2.1)) := RepC_z hR
  have L := l_X1_passYear (I0 := I) (X := X) (g := g) (gs := gs) (d := d) (Q := Q) (dp := damp σ) hc σ.1 0 _ _ none hR' hG (FrB_1 FrB_r (by decide)) (Nat.zero_add _) K
  refine w_X1_passYear hR hG ?_ ?_
  · intro h1
    rw [bI_f (show ¬ damp σ by unfold damp; omega)] at L
    exact L
  · intro h1
    rw [bI_t (show damp σ by unfold damp; omega)] at L
    exact L
