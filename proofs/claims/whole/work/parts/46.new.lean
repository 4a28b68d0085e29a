theorem l_X0_becomeNew {I0 : Im} {X g gs d Q} {b k1 k2 k3 : Nat} {x y z : Int32} : ∀ (n i : Nat) (I : Im), (∀ j, j < 6 → I 0 b (j + 2) = nI ((newB k1 k2 k3).1 j)) → (∀ j, j < i → I 16 b j = nI 12 ∧ I 17 b j = nI 6) → FrQ b I0 I → i + n = 6 →
    (∀ I', RB (cB I' b) (newB k1 k2 k3) ∧ FrQ b I0 I' → am_WP (am_psh g none :: gs) (d + 1) (mk I' X) Q) →
    am_WP ((mX0_becomeNew, 34, [some (.inr (.inr (some (0, b)))), some (.inl x), some (.inl y), some (.inl z), some (.inl (nI i))], []) :: g :: gs) d (mk I X) Q
  | 0, i, I, hf, ha, F, hi, K => w_X0_becomeNew_34 (by omega) (fun _ => K _ ⟨fun j hj => ⟨hf j hj, (ha j (by omega)).1, (ha j (by omega)).2⟩, F⟩) (fun h => absurd (by omega) h)
  | n + 1, i, I, hf, ha, F, hi, K => w_X0_becomeNew_34 (by omega) (fun h => absurd h (by omega)) (fun _ => l_X0_becomeNew n (i + 1) _ hf (fun j hj => by
      constructor
      · show up3 I 16 b i 12 16 b j = _
        rw [up3_at]
        split
        · rfl
        · exact (ha j (by omega)).1
      · rw [up3_at]
        split
        · rfl
        · exact (ha j (by omega)).2) (FrQ_3 (FrQ_3 F (by decide)) (by decide)) (by omega) K)
theorem c_X0_becomeNew {I X d} {q b k1 k2 k3 : Nat} {x y z : Int32} (hq : q = b) (hx : x = nI k1) (hy : y = nI k2) (hz : z = nI k3) : Sw mX0_becomeNew [.inr (.inr (some (0, q))), .inl x, .inl y, .inl z] d I X none (fun I' => RB (cB I' b) (newB k1 k2 k3) ∧ FrQ b I I') := fun g gs Q K => by
  subst hq
  refine w_X0_becomeNew (l_X0_becomeNew (k1 := k1) (k2 := k2) (k3 := k3) 6 0 _ (fun j hj => ?_) (fun j hj => absurd hj (by omega)) (FrQ_3 (FrQ_3 (FrQ_3 (FrQ_3 (FrQ_3 (FrQ_3 FrQ_r (by decide)) (by decide)) (by decide)) (by decide)) (by decide)) (by decide)) rfl K)
  rw [up3_at, up3_at, up3_at, up3_at, up3_at, up3_at]
  match j, hj with
  | 0, _ => exact hx
  | 1, _ => exact hy
  | 2, _ => exact hz
  | 3, _ => rfl
  | 4, _ => rfl
  | 5, _ => rfl
theorem RepC_add {I I1 : Im} {c : Nat} {σ : Cn} {β : Bn} {x : Int32} (h : RepC I c σ) (hn : σ.1 < 8) (F : FrQ (σ.1 + 8 * c) I I1) (hr : RB (cB I1 (σ.1 + 8 * c)) β) (hx : x = nI (σ.1 + 1)) : RepC (up3 I1 1 c 3 x) c (addB σ β) := by
  have h1 : I1 1 c = I 1 c := F 1 c (fun z => by omega)
  obtain ⟨a0, a1, a2, a3, a4, aB⟩ := h
  refine ⟨up3_s.trans hx, by rw [up3_j (by decide), h1]; exact a1, by rw [up3_j (by decide), h1]; exact a2, by rw [up3_j (by decide), h1]; exact a3, by rw [up3_j (by decide), h1]; exact a4, fun k hk => ?_⟩
  show RB (cB I1 _) (fu σ.2.2.2 σ.1 β k)
  have hk' : k < σ.1 + 1 := hk
  by_cases e : k = σ.1
  · subst e; rw [fu_s]; exact hr
  · rw [fu_n e]
    refine RB_same (aB k (by omega)) (fun i _ => ?_) (fun i _ => ?_) (fun i _ => ?_)
    · show I1 0 _ _ = I 0 _ _; rw [F _ _ (fun z => by omega)]
    · show I1 16 _ _ = I 16 _ _; rw [F _ _ (fun z => by omega)]
    · show I1 17 _ _ = I 17 _ _; rw [F _ _ (fun z => by omega)]
def ini (j : Nat) : Nat := if j < 6 then 0 else if j < 12 then 12 else 6
/-- places of the model's row, but those of the bottle n -/
def FrS (n : Nat) (I I' : Im) : Prop := (∀ g, g ≠ 30 → I' g = I g) ∧ ∀ j, (j < 6 + 18 * n ∨ 6 + 18 * n + 18 ≤ j) → I' 30 0 j = I 30 0 j
theorem FrS_3 {n I I' j v} (h : FrS n I I') (hj : 6 + 18 * n ≤ j ∧ j < 6 + 18 * n + 18) : FrS n I (up3 I' 30 0 j v) := ⟨fun g e => by rw [up3_g e]; exact h.1 g e, fun i e => by rw [up3_j (by omega)]; exact h.2 i e⟩
theorem RepM_add {I I1 : Im} {σ : Cn} {β : Bn} {x : Int32} (h : RepM (I 30 0) σ) (hn : σ.1 < 8) (F : FrS σ.1 (up3 I 30 0 0 x) I1) (hr : RB (mB (I1 30 0) σ.1) β) (hx : x = nI (σ.1 + 1)) : RepM (I1 30 0) (addB σ β) := by
  have ne : ∀ j, (j < 6 + 18 * σ.1 ∨ 6 + 18 * σ.1 + 18 ≤ j) → j ≠ 0 → I1 30 0 j = I 30 0 j := fun j hj e => by rw [F.2 j hj, up3_j e]
  obtain ⟨a0, a1, a2, a3, a4, aB⟩ := h
  refine ⟨by rw [F.2 0 (by omega), up3_s]; exact hx, by rw [ne 2 (by omega) (by omega)]; exact a1, by rw [ne 3 (by omega) (by omega)]; exact a2, by rw [ne 4 (by omega) (by omega)]; exact a3, by rw [ne 5 (by omega) (by omega)]; exact a4, fun k hk => ?_⟩
  show RB _ (fu σ.2.2.2 σ.1 β k)
  have hk' : k < σ.1 + 1 := hk
  by_cases e : k = σ.1
  · subst e; rw [fu_s]; exact hr
  · rw [fu_n e]
    refine RB_same (aB k (by omega)) (fun i _ => ?_) (fun i _ => ?_) (fun i _ => ?_)
    · show I1 30 0 _ = I 30 0 _; rw [ne _ (by omega) (by omega)]
    · show I1 30 0 _ = I 30 0 _; rw [ne _ (by omega) (by omega)]
    · show I1 30 0 _ = I 30 0 _; rw [ne _ (by omega) (by omega)]
theorem l_X8_comes {I0 : Im} {X g gs d Q} {n k1 k2 k3 : Nat} {x y z : Int32} (hn : n < 8) (hx : x = nI k1) (hy : y = nI k2) (hz : z = nI k3) : ∀ (m i : Nat) (I : Im), (∀ j, j < i → I 30 0 (6 + 18 * n + j) = nI (ini j)) → FrS n I0 I → i + m = 18 →
    (∀ I', RB (mB (I' 30 0) n) (newB k1 k2 k3) ∧ FrS n I0 I' → am_WP (am_psh g none :: gs) (d + 2) (mk I' X) Q) →
    am_WP ((mX8_comes, 21, [some (.inr (.inr (some (8, 0)))), some (.inl x), some (.inl y), some (.inl z), some (.inl (nI n)), some (.inl (nI i))], []) :: g :: gs) (d + 1) (mk I X) Q
  | 0, i, I, ha, F, hi, K => w_X8_comes_21 hn (by omega) (fun _ => K _ ⟨fun j hj => by
      refine ⟨?_, ?_, ?_⟩
      · show up3 (up3 (up3 (up3 I 30 0 _ x) 30 0 _ y) 30 0 _ z) 30 0 _ 6 30 0 (6 + 18 * n + j) = _
        rw [up3_at, up3_at, up3_at, up3_at]
        match j, hj with
        | 0, _ => rw [if_neg (by omega), if_neg (by omega), if_neg (by omega), if_pos rfl]; exact hx
        | 1, _ => rw [if_neg (by omega), if_neg (by omega), if_pos rfl]; exact hy
        | 2, _ => rw [if_neg (by omega), if_pos rfl]; exact hz
        | 3, _ => rw [if_pos rfl]; rfl
        | 4, _ => rw [if_neg (by omega), if_neg (by omega), if_neg (by omega), if_neg (by omega)]; exact ha 4 (by omega)
        | 5, _ => rw [if_neg (by omega), if_neg (by omega), if_neg (by omega), if_neg (by omega)]; exact ha 5 (by omega)
      · show up3 (up3 (up3 (up3 I 30 0 _ x) 30 0 _ y) 30 0 _ z) 30 0 _ 6 30 0 (6 + 18 * n + (6 + j)) = nI 12
        rw [up3_j (by omega), up3_j (by omega), up3_j (by omega), up3_j (by omega), ha (6 + j) (by omega)]
        unfold ini; rw [if_neg (by omega), if_pos (by omega)]
      · show up3 (up3 (up3 (up3 I 30 0 _ x) 30 0 _ y) 30 0 _ z) 30 0 _ 6 30 0 (6 + 18 * n + (12 + j)) = nI 6
        rw [up3_j (by omega), up3_j (by omega), up3_j (by omega), up3_j (by omega), ha (12 + j) (by omega)]
        unfold ini; rw [if_neg (by omega), if_neg (by omega)],
      FrS_3 (FrS_3 (FrS_3 (FrS_3 F (by omega)) (by omega)) (by omega)) (by omega)⟩) (fun h => absurd (by omega) h) (fun h => absurd (by omega) h) (fun h => absurd (by omega) h)
  | m + 1, i, I, ha, F, hi, K => by
    have q : ∀ v : Int32, v = nI (ini i) → ∀ j, j < i + 1 → up3 I 30 0 (6 + 18 * n + i) v 30 0 (6 + 18 * n + j) = nI (ini j) := fun v hv j hj => by
      rw [up3_at]
      by_cases e : j = i
      · rw [if_pos (by omega), e]; exact hv
      · rw [if_neg (by omega)]; exact ha j (by omega)
    refine w_X8_comes_21 hn (by omega) (fun h => absurd h (by omega)) ?_ ?_ ?_
    · intro _ h1 h2; exact l_X8_comes hn hx hy hz m (i + 1) _ (q 6 (by unfold ini; rw [if_neg (by omega), if_neg (by omega)]; rfl)) (FrS_3 F (by omega)) (by omega) K
    · intro _ h1 h2; exact l_X8_comes hn hx hy hz m (i + 1) _ (q 12 (by unfold ini; rw [if_neg (by omega), if_pos (by omega)]; rfl)) (FrS_3 F (by omega)) (by omega) K
    · intro _ h1; exact l_X8_comes hn hx hy hz m (i + 1) _ (q 0 (by unfold ini; rw [if_pos (by omega)]; rfl)) (FrS_3 F (by omega)) (by omega) K
theorem FrY_S {n I I1 x} (hn : n < 8) (F : FrS n (up3 I 30 0 0 x) I1) : FrY I I1 := ⟨fun g e => by rw [F.1 g e, up3_g e], fun j e => by rw [F.2 j (by omega), up3_j (by omega)]⟩
theorem c_X8_comes {I X d} {σ : Cn} {k1 k2 k3 : Nat} {x y z : Int32} (hR : RepM (I 30 0) σ) (hG : GD σ) (hn : σ.1 < 8) (hx : x = nI k1) (hy : y = nI k2) (hz : z = nI k3) : Sw mX8_comes [.inr (.inr (some (8, 0))), .inl x, .inl y, .inl z] (d + 1) I X none (fun I' => RepM (I' 30 0) (addB σ (newB k1 k2 k3)) ∧ FrY I I') := fun g gs Q K =>
  w_X8_comes hR hG (l_X8_comes hn hx hy hz 18 0 _ (fun j hj => absurd hj (by omega)) ⟨fun _ _ => rfl, fun _ _ => rfl⟩ rfl (fun I' p => K I' ⟨RepM_add hR hn p.2 p.1 rfl, FrY_S hn p.2⟩))
theorem GB_new {k y l : Nat} (hk : k ≤ 5) (hy : y ≤ 99) (hl : l ≤ 1) : GB (newB k y l) := ⟨hk, hy, hl, Nat.le_refl 6, Nat.zero_le 3, fun j hj => ⟨by show 12 ≤ 24; decide, by show 6 ≤ 24; decide⟩⟩
theorem GD_add {σ : Cn} {β : Bn} (G : GD σ) (hn : σ.1 < 8) (hb : GB β) : GD (addB σ β) := by
  obtain ⟨a, b, c, e⟩ := G
  refine ⟨hn, b, c, fun k' hk' => ?_⟩
  show GB (fu _ _ _ k')
  have hk2 : k' < σ.1 + 1 := hk'
  by_cases q : k' = σ.1
  · subst q; rw [fu_s]; exact hb
  · rw [fu_n q]; exact e k' (by omega)
def f_bottle (s : St) (x y z : Int32) : Int32 × St := if 0 ≤ x ∧ x ≤ 5 then if 0 ≤ y ∧ y ≤ 99 then if 0 ≤ z ∧ z ≤ 1 then if nb s < 8 then (nI (nb s), ((addB s.1.1 (newB (kx x) (kx y) (kx z)), s.1.2), s.2)) else (cFULL, s) else (cBAD, s) else (cBAD, s) else (cBAD, s)
set_option maxRecDepth 100000 in
set_option maxHeartbeats 4000000 in
theorem w_X7_bottle {I : Nat → Nat → Nat → Int32} {X : am_Z} {g : am_F} {gs : List am_F} {d : Nat} {Q : Option am_V → am_M → Prop} {s : St} (h : RC I X s) (G : GS s) {x y z : Int32} (k0 : (¬ ((0 : Int32) ≤ x ∧ x ≤ 5)) → am_WP (am_psh g (some (.inl ((-1000000001)))) :: gs) (d + 3) (mk I X) Q) (k1 : ((0 : Int32) ≤ x ∧ x ≤ 5) → (¬ ((0 : Int32) ≤ y ∧ y ≤ 99)) → am_WP (am_psh g (some (.inl ((-1000000001)))) :: gs) (d + 3) (mk I X) Q) (k2 : ((0 : Int32) ≤ x ∧ x ≤ 5) → ((0 : Int32) ≤ y ∧ y ≤ 99) → (¬ ((0 : Int32) ≤ z ∧ z ≤ 1)) → am_WP (am_psh g (some (.inl ((-1000000001)))) :: gs) (d + 3) (mk I X) Q) (k3 : ((0 : Int32) ≤ x ∧ x ≤ 5) → ((0 : Int32) ≤ y ∧ y ≤ 99) → ((0 : Int32) ≤ z ∧ z ≤ 1) → ((nb s) < 8) → ∀ (I1 : Im), (RB (cB I1 (nb s)) (newB (kx x) (kx y) (kx z)) ∧ FrQ (nb s) I I1) → am_WP (am_psh g (some (.inl ((nI (((nb s) + 1) - 1))))) :: gs) (d + 3) (mk (up3 I1 1 0 (3) ((nI ((nb s) + 1)))) X) Q) (k4 : ((0 : Int32) ≤ x ∧ x ≤ 5) → ((0 : Int32) ≤ y ∧ y ≤ 99) → ((0 : Int32) ≤ z ∧ z ≤ 1) → (¬ ((nb s) < 8)) → am_WP (am_psh g (some (.inl ((-1000000003)))) :: gs) (d + 3) (mk I X) Q) : am_WP (am_entry mX7_bottle [.inr (.inr (some (7, 0))), .inl (x), .inl (y), .inl (z)] :: g :: gs) (d + 2) (mk I X) Q := by
  have hn8 : nb s ≤ 8 := G.1.1.1
  refine am_go 400 ?_
  refine (c_X7_isKind (x := x)) _ _ _ ?_
  refine am_go 400 ?_
  refine am_if (fun h1 => ?_) (fun h1 => ?_)
  · have h1 := bI_0.mp h1
    exact k0 h1
  · have h1 := bI_1.mp h1
    obtain ⟨e_x, l_x⟩ := okl (m := 5) (by decide) h1
    refine (c_X7_within (y) (0) (99)) _ _ _ ?_
    refine am_go 400 ?_
    refine am_if (fun h2 => ?_) (fun h2 => ?_)
    · have h2 := bI_0.mp h2
      exact k1 h1 h2
    · have h2 := bI_1.mp h2
      obtain ⟨e_y, l_y⟩ := okl (m := 99) (by decide) h2
      refine (c_X7_within (z) (0) (1)) _ _ _ ?_
      refine am_go 400 ?_
      refine am_if (fun h3 => ?_) (fun h3 => ?_)
      · have h3 := bI_0.mp h3
        exact k2 h1 h2 h3
      · have h3 := bI_1.mp h3
        obtain ⟨e_z, l_z⟩ := okl (m := 1) (by decide) h3
        have tk0 : I 1 0 3 = nI (nb s) := h.1.1.1
        refine am_if (fun h4 => ?_) (fun h4 => ?_)
        · have nh4 := (lt_nat (a := (nb s)) (b := 8) tk0 (rfl : (8 : Int32) = nI 8) (by omega) (by omega)).mp h4
          refine am_f (ix_in (n := (nb s)) (N := 8) tk0 (by omega) (by decide)) ?_
          have tk1 : ((I 1 0 3)).toNatClampNeg = (nb s) := by first | exact ix_cl (n := (nb s)) tk0 (by omega) | (((try rw [tk0])); first | done | exact ix_cl (n := (nb s)) tk0 (by omega))
          refine (c_X0_becomeNew (b := nb s) (show (((I 1 0 3)).toNatClampNeg) = ((nb s)) by (try rw [tk1]); (try rw [tk0]); first | done | rfl) e_x e_y e_z) _ _ _ ?_
          intro I1 p1
          refine am_go 400 ?_
          have tk2 : I1 1 0 3 = nI (nb s) := ((congrFun (p1.2 1 0 (fun z => by omega)) 3).trans h.1.1.1)
          have tk3 : ((I1 1 0 3) + 1) = nI ((nb s) + 1) := by first | exact (nI_addE tk2 (rfl : (1 : Int32) = nI 1)) | (((try rw [tk2])); first | done | exact (nI_addE tk2 (rfl : (1 : Int32) = nI 1)))
          have tk4 : (up3 I1 1 0 (3) ((((I1 1 0 3) + 1)))) 1 0 3 = (nI ((nb s) + 1)) := by first | exact up3_s | (((try rw [tk3]); (try rw [tk2])); first | done | exact up3_s)
          have tk5 : (((up3 I1 1 0 (3) ((((I1 1 0 3) + 1)))) 1 0 3) - 1) = nI (((nb s) + 1) - 1) := by first | exact (nI_subE tk4 (rfl : (1 : Int32) = nI 1) (by omega)) | (((try rw [tk4]); (try rw [tk3]); (try rw [tk2])); first | done | exact (nI_subE tk4 (rfl : (1 : Int32) = nI 1) (by omega)))
          show am_WP (am_psh g (some (.inl (((((up3 I1 1 0 (3) ((((I1 1 0 3) + 1)))) 1 0 3) - 1))))) :: gs) (d + 3) (mk (up3 I1 1 0 (3) ((((I1 1 0 3) + 1)))) X) Q
          try rw [tk5]
          try rw [tk4]
          try rw [tk3]
          try rw [tk2]
          exact k3 h1 h2 h3 nh4 I1 p1
        · have nh4 := mt (lt_nat (a := (nb s)) (b := 8) tk0 (rfl : (8 : Int32) = nI 8) (by omega) (by omega)).mpr h4
          exact k4 h1 h2 h3 nh4
theorem p_X7_bottle {I X d s} (h : RC I X s) (G : GS s) (x y z : Int32) : Sp mX7_bottle [.inr (.inr (some (7, 0))), .inl (x), .inl (y), .inl (z)] (d + 2) I X (OC I X (f_bottle s x y z)) := fun g gs Q K => by
  have hn8 : nb s ≤ 8 := G.1.1.1
  have g8 : G8 s := G8_ G
  refine w_X7_bottle h G  ?_ ?_ ?_ ?_ ?_
  · intro h0
    apply K_s K
    unfold f_bottle
    rw [if_neg h0]
    exact ⟨rfl, h, FrC_r⟩
  · intro h0 h1
    obtain ⟨e_x, l_x⟩ := okl (m := 5) (by decide) h0
    apply K_s K
    unfold f_bottle
    rw [if_pos h0, if_neg h1]
    exact ⟨rfl, h, FrC_r⟩
  · intro h0 h1 h2
    obtain ⟨e_x, l_x⟩ := okl (m := 5) (by decide) h0
    obtain ⟨e_y, l_y⟩ := okl (m := 99) (by decide) h1
    apply K_s K
    unfold f_bottle
    rw [if_pos h0, if_pos h1, if_neg h2]
    exact ⟨rfl, h, FrC_r⟩
  · intro h0 h1 h2 h3 I1 p1
    obtain ⟨e_x, l_x⟩ := okl (m := 5) (by decide) h0
    obtain ⟨e_y, l_y⟩ := okl (m := 99) (by decide) h1
    obtain ⟨e_z, l_z⟩ := okl (m := 1) (by decide) h2
    apply K_s K
    unfold f_bottle
    rw [if_pos h0, if_pos h1, if_pos h2, if_pos h3]
    exact ⟨rfl, RC_cel h g8 (FrB_1 (FrB_q FrB_r p1.2 (by omega)) (by decide)) (RepC_add (c := 0) h.1.1 (by omega) p1.2 p1.1 rfl), FrC_B (FrB_1 (FrB_q (c := 0) FrB_r p1.2 (by omega)) (by decide))⟩
  · intro h0 h1 h2 h3
    obtain ⟨e_x, l_x⟩ := okl (m := 5) (by decide) h0
    obtain ⟨e_y, l_y⟩ := okl (m := 99) (by decide) h1
    obtain ⟨e_z, l_z⟩ := okl (m := 1) (by decide) h2
    apply K_s K
    unfold f_bottle
    rw [if_pos h0, if_pos h1, if_pos h2, if_neg h3]
    exact ⟨rfl, h, FrC_r⟩

set_option maxRecDepth 100000 in
set_option maxHeartbeats 4000000 in
theorem w_X8_bottle {I : Nat → Nat → Nat → Int32} {X : am_Z} {g : am_F} {gs : List am_F} {d : Nat} {Q : Option am_V → am_M → Prop} {s : St} (h : RM I s) (G : GS s) {x y z : Int32} (k0 : (¬ ((0 : Int32) ≤ x ∧ x ≤ 5)) → am_WP (am_psh g (some (.inl ((-1000000001)))) :: gs) (d + 3) (mk I X) Q) (k1 : ((0 : Int32) ≤ x ∧ x ≤ 5) → (¬ ((0 : Int32) ≤ y ∧ y ≤ 99)) → am_WP (am_psh g (some (.inl ((-1000000001)))) :: gs) (d + 3) (mk I X) Q) (k2 : ((0 : Int32) ≤ x ∧ x ≤ 5) → ((0 : Int32) ≤ y ∧ y ≤ 99) → (¬ ((0 : Int32) ≤ z ∧ z ≤ 1)) → am_WP (am_psh g (some (.inl ((-1000000001)))) :: gs) (d + 3) (mk I X) Q) (k3 : ((0 : Int32) ≤ x ∧ x ≤ 5) → ((0 : Int32) ≤ y ∧ y ≤ 99) → ((0 : Int32) ≤ z ∧ z ≤ 1) → (s.1.1.1 = 8) → am_WP (am_psh g (some (.inl ((-1000000003)))) :: gs) (d + 3) (mk I X) Q) (k4 : ((0 : Int32) ≤ x ∧ x ≤ 5) → ((0 : Int32) ≤ y ∧ y ≤ 99) → ((0 : Int32) ≤ z ∧ z ≤ 1) → (¬ (s.1.1.1 = 8)) → ∀ (I1 : Im), (RepM (I1 30 0) (addB s.1.1 (newB (kx x) (kx y) (kx z))) ∧ FrY I I1) → am_WP (am_psh g (some (.inl ((nI ((s.1.1.1 + 1) - 1))))) :: gs) (d + 3) (mk I1 X) Q) : am_WP (am_entry mX8_bottle [.inr (.inr (some (8, 0))), .inl (x), .inl (y), .inl (z)] :: g :: gs) (d + 2) (mk I X) Q := by
  have hn8 : nb s ≤ 8 := G.1.1.1
  have hG := GC_D G.1.1
  refine am_go 400 ?_
  refine (m_isIn (x) (0) (5) _ _) _ _ _ ?_
  refine am_go 400 ?_
  refine am_if (fun h1 => ?_) (fun h1 => ?_)
  · have h1 := bI_0.mp h1
    exact k0 h1
  · have h1 := bI_1.mp h1
    obtain ⟨e_x, l_x⟩ := okl (m := 5) (by decide) h1
    refine (m_isIn (y) (0) (99) _ _) _ _ _ ?_
    refine am_go 400 ?_
    refine am_if (fun h2 => ?_) (fun h2 => ?_)
    · have h2 := bI_0.mp h2
      exact k1 h1 h2
    · have h2 := bI_1.mp h2
      obtain ⟨e_y, l_y⟩ := okl (m := 99) (by decide) h2
      refine (m_isIn (z) (0) (1) _ _) _ _ _ ?_
      refine am_go 400 ?_
      refine am_if (fun h3 => ?_) (fun h3 => ?_)
      · have h3 := bI_0.mp h3
        exact k2 h1 h2 h3
      · have h3 := bI_1.mp h3
        obtain ⟨e_z, l_z⟩ := okl (m := 1) (by decide) h3
        have bd : s.1.1.1 ≤ 8 := (GC_D G.1.1).1
        have tk0 : I 30 0 0 = nI s.1.1.1 := h.1.1.1
        refine am_if (fun h4 => ?_) (fun h4 => ?_)
        · have nh4 := (eq_nat (a := s.1.1.1) (b := 8) tk0 (rfl : (8 : Int32) = nI 8) (by omega) (by omega)).mp h4
          exact k3 h1 h2 h3 nh4
        · have nh4 := mt (eq_nat (a := s.1.1.1) (b := 8) tk0 (rfl : (8 : Int32) = nI 8) (by omega) (by omega)).mpr h4
          refine (c_X8_comes (σ := s.1.1) h.1.1 (GC_D G.1.1) (show s.1.1.1 < 8 by omega) e_x e_y e_z) _ _ _ ?_
          intro I1 p1
          refine am_go 400 ?_
          have tk1 : I1 30 0 0 = nI (s.1.1.1 + 1) := p1.1.1
          have tk2 : ((I1 30 0 0) - 1) = nI ((s.1.1.1 + 1) - 1) := by first | exact (nI_subE tk1 (rfl : (1 : Int32) = nI 1) (by omega)) | (((try rw [tk1])); first | done | exact (nI_subE tk1 (rfl : (1 : Int32) = nI 1) (by omega)))
          show am_WP (am_psh g (some (.inl ((((I1 30 0 0) - 1))))) :: gs) (d + 3) (mk I1 X) Q
          try rw [tk2]
          try rw [tk1]
          exact k4 h1 h2 h3 nh4 I1 p1
theorem p_X8_bottle {I X d s} (h : RM I s) (G : GS s) (x y z : Int32) : Sp mX8_bottle [.inr (.inr (some (8, 0))), .inl (x), .inl (y), .inl (z)] (d + 2) I X (OM I X (f_bottle s x y z)) := fun g gs Q K => by
  have hn8 : nb s ≤ 8 := G.1.1.1
  have g8 : G8 s := G8_ G
  have hG := GC_D G.1.1
  refine w_X8_bottle h G  ?_ ?_ ?_ ?_ ?_
  · intro h0
    apply K_s K
    unfold f_bottle
    rw [if_neg h0]
    exact ⟨rfl, h, FrM_r, rfl⟩
  · intro h0 h1
    obtain ⟨e_x, l_x⟩ := okl (m := 5) (by decide) h0
    apply K_s K
    unfold f_bottle
    rw [if_pos h0, if_neg h1]
    exact ⟨rfl, h, FrM_r, rfl⟩
  · intro h0 h1 h2
    obtain ⟨e_x, l_x⟩ := okl (m := 5) (by decide) h0
    obtain ⟨e_y, l_y⟩ := okl (m := 99) (by decide) h1
    apply K_s K
    unfold f_bottle
    rw [if_pos h0, if_pos h1, if_neg h2]
    exact ⟨rfl, h, FrM_r, rfl⟩
  · intro h0 h1 h2 h3
    obtain ⟨e_x, l_x⟩ := okl (m := 5) (by decide) h0
    obtain ⟨e_y, l_y⟩ := okl (m := 99) (by decide) h1
    obtain ⟨e_z, l_z⟩ := okl (m := 1) (by decide) h2
    apply K_s K
    unfold f_bottle
    rw [if_pos h0, if_pos h1, if_pos h2, if_neg (show ¬ s.1.1.1 < 8 by omega)]
    exact ⟨rfl, h, FrM_r, rfl⟩
  · intro h0 h1 h2 h3 I1 p1
    obtain ⟨e_x, l_x⟩ := okl (m := 5) (by decide) h0
    obtain ⟨e_y, l_y⟩ := okl (m := 99) (by decide) h1
    obtain ⟨e_z, l_z⟩ := okl (m := 1) (by decide) h2
    apply K_s K
    unfold f_bottle
    rw [if_pos h0, if_pos h1, if_pos h2, if_pos (show s.1.1.1 < 8 by have : s.1.1.1 ≤ 8 := hn8; omega)]
    exact ⟨rfl, RM_cel h p1.2 p1.1, FrM_Y p1.2, rfl⟩

