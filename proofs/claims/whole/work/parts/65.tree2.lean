set_option maxRecDepth 100000 in
set_option maxHeartbeats 4000000 in
theorem w_X8_treeOf {I : Nat → Nat → Nat → Int32} {X : am_Z} {g : am_F} {gs : List am_F} {d : Nat} {Q : Option am_V → am_M → Prop} {b nt : Nat} {tx : Nat → Tx} {β : Bn} {fo : Nat} {v z : Int32} (hC : CxM I b nt tx β) (hg : GB β) (hn : nt ≤ 14) (hG : ∀ t, t < nt → GT (tx t)) (hv : v = nI b) (hb : b < 8) (hz : z = nI fo) (hfo : fo ≤ 999)  (k0 : ∀ (I1 : Im), (Gf I I1 ∧ (¬ (0 < β.1 3 ∧ fo < gfN β (6 - β.1 3)) → ∀ j, j < β.1 3 + 1 → I1 41 0 j = nI (trT (strN nt tx β) (gfN β) fo (β.1 3) j).1 ∧ I1 42 0 j = nI (trT (strN nt tx β) (gfN β) fo (β.1 3) j).2)) → (¬ (¬ (0 < β.1 3 ∧ fo < gfN β (6 - β.1 3)))) → am_WP (am_psh g (some (.inl ((-1)))) :: gs) (d + 6) (mk I1 X) Q) (k1 : ∀ (I1 : Im), (Gf I I1 ∧ (¬ (0 < β.1 3 ∧ fo < gfN β (6 - β.1 3)) → ∀ j, j < β.1 3 + 1 → I1 41 0 j = nI (trT (strN nt tx β) (gfN β) fo (β.1 3) j).1 ∧ I1 42 0 j = nI (trT (strN nt tx β) (gfN β) fo (β.1 3) j).2)) → (¬ (0 < β.1 3 ∧ fo < gfN β (6 - β.1 3))) → am_WP (am_psh g (some (.inl ((nI (trT (strN nt tx β) (gfN β) fo (β.1 3) (β.1 3)).1)))) :: gs) (d + 6) (mk I1 X) Q) : am_WP (am_entry mX8_treeOf [.inr (.inr (some (8, 0))), .inl (v), .inl (z)] :: g :: gs) (d + 5) (mk I X) Q := by
  refine am_go 400 ?_
  refine (c_X8_grows (I := I) (b := b) (fo := fo) hC hg hn hG hv (by omega) hz (by omega)) _ _ _ ?_
  intro I1 p1
  refine am_go 400 ?_
  refine am_if (fun h1 => ?_) (fun h1 => ?_)
  · have h1 := bI_0.mp h1
    exact k0 I1 p1 h1
  · have h1 := bI_1.mp h1
    have bd : (β.1 3) ≤ 6 := hg.2.2.2.1
    have tk0 : I1 30 0 (6 + 18 * b + 3) = nI (β.1 3) := ((congrFun (congrFun (p1.1.2 30 (by decide) (by decide) (by decide) (by decide) (by decide)) _) _).trans ((hC.1 3 (by omega)).1))
    refine (c8_of (k := b) (j := 3) hv rfl (by omega)) _ _ _ ?_
    refine am_go 400 ?_
    refine am_f (ix_in (n := (β.1 3)) (N := 7) tk0 (by omega) (by decide)) ?_
    have tk1 : ((I1 30 0 (6 + 18 * b + 3))).toNatClampNeg = (β.1 3) := by first | exact ix_cl (n := (β.1 3)) tk0 (by omega) | (((try rw [tk0])); first | done | exact ix_cl (n := (β.1 3)) tk0 (by omega))
    have tk2 : I1 41 0 ((((I1 30 0 (6 + 18 * b + 3))).toNatClampNeg)) = nI (trT (strN nt tx β) (gfN β) fo (β.1 3) (β.1 3)).1 := by first | exact (p1.2 (by assumption) (β.1 3) (by omega)).1 | (((try rw [tk1]); (try rw [tk0])); first | done | exact (p1.2 (by assumption) (β.1 3) (by omega)).1)
    show am_WP (am_psh g (some (.inl ((I1 41 0 ((((I1 30 0 (6 + 18 * b + 3))).toNatClampNeg)))))) :: gs) (d + 6) (mk I1 X) Q
    try rw [tk2]
    try rw [tk1]
    try rw [tk0]
    exact k1 I1 p1 h1
theorem c_X8_treeOf {I X d} {b nt : Nat} {tx : Nat → Tx} {β : Bn} {fo : Nat} {v z : Int32} (hC : CxM I b nt tx β) (hg : GB β) (hn : nt ≤ 14) (hG : ∀ t, t < nt → GT (tx t)) (hv : v = nI b) (hb : b < 8) (hz : z = nI fo) (hfo : fo ≤ 999) : Sw mX8_treeOf [.inr (.inr (some (8, 0))), .inl v, .inl z] (d + 5) I X (some (.inl (oM (trO (strN nt tx β) (gfN β) (β.1 3) fo)))) (fun I' => Gf I I') := fun g gs Q K => by
  refine w_X8_treeOf hC hg hn hG hv hb hz hfo ?_ ?_
  · intro I1 p1 h1
    have e : trO (strN nt tx β) (gfN β) (β.1 3) fo = none := by unfold trO; rw [if_pos (Classical.byContradiction h1)]
    rw [e] at K; exact K I1 p1.1
  · intro I1 p1 h1
    have e : trO (strN nt tx β) (gfN β) (β.1 3) fo = some (trT (strN nt tx β) (gfN β) fo (β.1 3) (β.1 3)).1 := by unfold trO; rw [if_neg h1]
    rw [e] at K; exact K I1 p1.1
def trS (s : St) (k fo : Nat) : Option Nat := trO (strN s.1.2.1 s.1.2.2 (bo s k)) (gfN (bo s k)) ((bo s k).1 3) fo
def trP (s : St) (k fo : Nat) : Nat := (trT (strN s.1.2.1 s.1.2.2 (bo s k)) (gfN (bo s k)) fo ((bo s k).1 3) ((bo s k).1 3)).2
def f_tree (s : St) (x z w : Int32) : Int32 × St := if isB s x then if 0 ≤ z ∧ z ≤ 999 then if 0 ≤ w ∧ w ≤ 1 then (match trS s (kx x) (kx z) with
  | none => cNONE
  | some c => if w = 0 then nI c else nI (trP s (kx x) (kx z)), s) else (cBAD, s) else (cBAD, s) else (cBAD, s)
theorem trO_le {st gf : Nat → Nat} {L fo c : Nat} (hL : L ≤ 6) (hm : ∀ k, k ≤ L → gf (6 - k) ≤ gf (6 - L)) (h : trO st gf L fo = some c) : c ≤ 18 ∧ c = (trT st gf fo L L).1 := by
  unfold trO at h
  split at h
  · cases h
  · rename_i e
    cases h
    have := (trT_le (st := st) (gf := gf) (fo := fo) L hL (fun k a b => Nat.le_trans (hm k b) (by omega)) L (Nat.le_refl _)).1
    exact ⟨by omega, rfl⟩
set_option maxRecDepth 100000 in
set_option maxHeartbeats 4000000 in
theorem w_X7_tree {I : Nat → Nat → Nat → Int32} {X : am_Z} {g : am_F} {gs : List am_F} {d : Nat} {Q : Option am_V → am_M → Prop} {s : St} (h : RC I X s) (G : GS s) {x z w : Int32} (k0 : (¬ ((0 : Int32) ≤ x ∧ x ≤ (nI (nb s)) - 1)) → am_WP (am_psh g (some (.inl ((-1000000001)))) :: gs) (d + 6) (mk I X) Q) (k1 : ((0 : Int32) ≤ x ∧ x ≤ (nI (nb s)) - 1) → (¬ ((0 : Int32) ≤ z ∧ z ≤ 999)) → am_WP (am_psh g (some (.inl ((-1000000001)))) :: gs) (d + 6) (mk I X) Q) (k2 : ((0 : Int32) ≤ x ∧ x ≤ (nI (nb s)) - 1) → ((0 : Int32) ≤ z ∧ z ≤ 999) → (¬ ((0 : Int32) ≤ w ∧ w ≤ 1)) → am_WP (am_psh g (some (.inl ((-1000000001)))) :: gs) (d + 6) (mk I X) Q) (k3 : ((0 : Int32) ≤ x ∧ x ≤ (nI (nb s)) - 1) → ((0 : Int32) ≤ z ∧ z ≤ 999) → ((0 : Int32) ≤ w ∧ w ≤ 1) → ∀ (I1 : Im), (FrN I I1 ∧ NkR I1 (strN s.1.2.1 s.1.2.2 (bo s (kx x))) (gfN (bo s (kx x))) ((bo s (kx x)).1 3) ∧ NkC I1) → ∀ (I2 : Im), (Ef I1 I2 ∧ (∀ r, (trO (strN s.1.2.1 s.1.2.2 (bo s (kx x))) (gfN (bo s (kx x))) ((bo s (kx x)).1 3) (kx z)) = some r → I2 22 0 ((bo s (kx x)).1 3) = nI (trT (strN s.1.2.1 s.1.2.2 (bo s (kx x))) (gfN (bo s (kx x))) (kx z) ((bo s (kx x)).1 3) ((bo s (kx x)).1 3)).2)) → (w = 0) → am_WP (am_psh g (some (.inl ((oI (trO (strN s.1.2.1 s.1.2.2 (bo s (kx x))) (gfN (bo s (kx x))) ((bo s (kx x)).1 3) (kx z)))))) :: gs) (d + 6) (mk I2 X) Q) (k4 : ((0 : Int32) ≤ x ∧ x ≤ (nI (nb s)) - 1) → ((0 : Int32) ≤ z ∧ z ≤ 999) → ((0 : Int32) ≤ w ∧ w ≤ 1) → ∀ (I1 : Im), (FrN I I1 ∧ NkR I1 (strN s.1.2.1 s.1.2.2 (bo s (kx x))) (gfN (bo s (kx x))) ((bo s (kx x)).1 3) ∧ NkC I1) → ∀ (I2 : Im), (Ef I1 I2 ∧ (∀ r, (trO (strN s.1.2.1 s.1.2.2 (bo s (kx x))) (gfN (bo s (kx x))) ((bo s (kx x)).1 3) (kx z)) = some r → I2 22 0 ((bo s (kx x)).1 3) = nI (trT (strN s.1.2.1 s.1.2.2 (bo s (kx x))) (gfN (bo s (kx x))) (kx z) ((bo s (kx x)).1 3) ((bo s (kx x)).1 3)).2)) → (¬ w = 0) → ((oI (trO (strN s.1.2.1 s.1.2.2 (bo s (kx x))) (gfN (bo s (kx x))) ((bo s (kx x)).1 3) (kx z))) = (-1000000005)) → am_WP (am_psh g (some (.inl ((oI (trO (strN s.1.2.1 s.1.2.2 (bo s (kx x))) (gfN (bo s (kx x))) ((bo s (kx x)).1 3) (kx z)))))) :: gs) (d + 6) (mk I2 X) Q) (k5 : ((0 : Int32) ≤ x ∧ x ≤ (nI (nb s)) - 1) → ((0 : Int32) ≤ z ∧ z ≤ 999) → ((0 : Int32) ≤ w ∧ w ≤ 1) → ∀ (I1 : Im), (FrN I I1 ∧ NkR I1 (strN s.1.2.1 s.1.2.2 (bo s (kx x))) (gfN (bo s (kx x))) ((bo s (kx x)).1 3) ∧ NkC I1) → ∀ (I2 : Im), (Ef I1 I2 ∧ (∀ r, (trO (strN s.1.2.1 s.1.2.2 (bo s (kx x))) (gfN (bo s (kx x))) ((bo s (kx x)).1 3) (kx z)) = some r → I2 22 0 ((bo s (kx x)).1 3) = nI (trT (strN s.1.2.1 s.1.2.2 (bo s (kx x))) (gfN (bo s (kx x))) (kx z) ((bo s (kx x)).1 3) ((bo s (kx x)).1 3)).2)) → (¬ w = 0) → (¬ (oI (trO (strN s.1.2.1 s.1.2.2 (bo s (kx x))) (gfN (bo s (kx x))) ((bo s (kx x)).1 3) (kx z))) = (-1000000005)) → am_WP (am_psh g (some (.inl ((I2 22 0 ((((bo s (kx x)).1 3))))))) :: gs) (d + 6) (mk I2 X) Q) : am_WP (am_entry mX7_tree [.inr (.inr (some (7, 0))), .inl (x), .inl (z), .inl (w)] :: g :: gs) (d + 5) (mk I X) Q := by
  have hn8 : nb s ≤ 8 := G.1.1.1
  refine am_go 400 ?_
  have tk0 : I 1 0 3 = nI (nb s) := h.1.1.1
  refine (c_X7_isBottle (x := x)) _ _ _ ?_
  refine am_go 400 ?_
  refine am_if (fun h1 => ?_) (fun h1 => ?_)
  · have h1 := bI_0.mp h1
    have h1 : ¬ ((0 : Int32) ≤ x ∧ x ≤ (I 1 0 3) - 1) := h1
    try rw [tk0] at h1
    exact k0 h1
  · have h1 := bI_1.mp h1
    have h1 : (0 : Int32) ≤ x ∧ x ≤ (I 1 0 3) - 1 := h1
    try rw [tk0] at h1
    obtain ⟨e_x, l_x⟩ := okb rfl hn8 h1
    obtain ⟨g0_x, g1_x, g2_x, g3_x, g5_x, gs_x⟩ := id (GS_b G l_x)
    refine (c_X7_within (z) (0) (999)) _ _ _ ?_
    refine am_go 400 ?_
    refine am_if (fun h2 => ?_) (fun h2 => ?_)
    · have h2 := bI_0.mp h2
      exact k1 h1 h2
    · have h2 := bI_1.mp h2
      obtain ⟨e_z, l_z⟩ := okl (m := 999) (by decide) h2
      refine (c_X7_within (w) (0) (1)) _ _ _ ?_
      refine am_go 400 ?_
      refine am_if (fun h3 => ?_) (fun h3 => ?_)
      · have h3 := bI_0.mp h3
        exact k2 h1 h2 h3
      · have h3 := bI_1.mp h3
        refine am_f (ix_in (n := (kx x)) (N := 8) e_x (by omega) (by decide)) ?_
        have tk1 : (x).toNatClampNeg = (kx x) := ix_cl (n := (kx x)) e_x (by omega)
        refine (c_X2_look (I := I) (c := 0) (b := kx x) (show ((x).toNatClampNeg) = ((kx x)) by (try rw [tk1]); first | done | rfl) (bC h (k := kx x) (by omega)) (GS_b G (k := kx x) (by omega)) h.1.2 G.1.2.2.1 G.1.2.2.2 h.2.2.2.2.2.2.1) _ _ _ ?_
        intro I1 p1
        refine am_go 400 ?_
        refine (c_X2_few (I := I1) (L := (bo s (kx x)).1 3) (fo := (kx z)) p1.2.1 p1.2.2 (fun l hl => strN_le (GS_b G (k := kx x) (by omega)) hl) (gfN_le (GS_b G (k := kx x) (by omega))) e_z (by omega) (by omega) (gfN_m6 (by omega))) _ _ _ ?_
        intro I2 p2
        refine am_go 400 ?_
        refine am_if (fun h4 => ?_) (fun h4 => ?_)
        · exact k3 h1 h2 h3 I1 p1 I2 p2 h4
        · refine am_if (fun h5 => ?_) (fun h5 => ?_)
          · exact k4 h1 h2 h3 I1 p1 I2 p2 h4 h5
          · have bd : ((bo s (kx x)).1 3) ≤ 6 := (GS_b G (k := kx x) (by omega)).2.2.2.1
            have tk2 : I2 0 (((x).toNatClampNeg)) 5 = nI ((bo s (kx x)).1 3) := by first | exact ((congrFun (congrFun (p2.1.2.1 0 (by decide) (by decide) (by decide)) _) _).trans (((congrFun (congrFun (p1.1 0 (by decide)) _) _).trans (vC0 (j := 3) h (by omega) (by omega))))) | (((try rw [tk1])); first | done | exact ((congrFun (congrFun (p2.1.2.1 0 (by decide) (by decide) (by decide)) _) _).trans (((congrFun (congrFun (p1.1 0 (by decide)) _) _).trans (vC0 (j := 3) h (by omega) (by omega))))))
            refine am_f (ix_in (n := ((bo s (kx x)).1 3)) (N := 7) tk2 (by omega) (by decide)) ?_
            have tk3 : ((I2 0 (((x).toNatClampNeg)) 5)).toNatClampNeg = ((bo s (kx x)).1 3) := by first | exact ix_cl (n := ((bo s (kx x)).1 3)) tk2 (by omega) | (((try rw [tk2]); (try rw [tk1])); first | done | exact ix_cl (n := ((bo s (kx x)).1 3)) tk2 (by omega))
            show am_WP (am_psh g (some (.inl ((I2 22 0 ((((I2 0 (((x).toNatClampNeg)) 5)).toNatClampNeg)))))) :: gs) (d + 6) (mk I2 X) Q
            try rw [tk3]
            try rw [tk2]
            try rw [tk1]
            exact k5 h1 h2 h3 I1 p1 I2 p2 h4 h5
theorem p_X7_tree {I X d s} (h : RC I X s) (G : GS s) (x z w : Int32) : Sp mX7_tree [.inr (.inr (some (7, 0))), .inl (x), .inl (z), .inl (w)] (d + 5) I X (OC I X (f_tree s x z w)) := fun g gs Q K => by
  have hn8 : nb s ≤ 8 := G.1.1.1
  have g8 : G8 s := G8_ G
  refine w_X7_tree h G  ?_ ?_ ?_ ?_ ?_ ?_
  · intro h0
    apply K_s K
    unfold f_tree
    rw [if_neg h0]
    exact ⟨rfl, h, FrC_r⟩
  · intro h0 h1
    obtain ⟨e_x, l_x⟩ := okb rfl hn8 h0
    obtain ⟨g0_x, g1_x, g2_x, g3_x, g5_x, gs_x⟩ := id (GS_b G l_x)
    apply K_s K
    unfold f_tree
    rw [if_pos h0, if_neg h1]
    exact ⟨rfl, h, FrC_r⟩
  · intro h0 h1 h2
    obtain ⟨e_x, l_x⟩ := okb rfl hn8 h0
    obtain ⟨g0_x, g1_x, g2_x, g3_x, g5_x, gs_x⟩ := id (GS_b G l_x)
    obtain ⟨e_z, l_z⟩ := okl (m := 999) (by decide) h1
    apply K_s K
    unfold f_tree
    rw [if_pos h0, if_pos h1, if_neg h2]
    exact ⟨rfl, h, FrC_r⟩
  · intro h0 h1 h2 I1 p1 I2 p2 h5
    obtain ⟨e_x, l_x⟩ := okb rfl hn8 h0
    obtain ⟨g0_x, g1_x, g2_x, g3_x, g5_x, gs_x⟩ := id (GS_b G l_x)
    obtain ⟨e_z, l_z⟩ := okl (m := 999) (by decide) h1
    have hR2 : RC I2 X s := RC_N h (FrN_E p1.1 p2.1) (NkC_E p1.2.2 p2.1)
    have F2 : FrC I X I2 X := FrC_N (FrN_E p1.1 p2.1)
    apply K_s K
    unfold f_tree
    rw [if_pos h0, if_pos h1, if_pos h2]
    show OC I X (match trS s (kx x) (kx z) with
      | none => cNONE
      | some c => if w = 0 then nI c else nI (trP s (kx x) (kx z)), s) _ _ _
    rcases ht : trS s (kx x) (kx z) with _ | c
    · exact ⟨by unfold trS at ht; rw [ht]; rfl, hR2, F2⟩
    · exact ⟨by unfold trS at ht; rw [ht]; exact (if_pos h5).symm, hR2, F2⟩
  · intro h0 h1 h2 I1 p1 I2 p2 h5 h6
    obtain ⟨e_x, l_x⟩ := okb rfl hn8 h0
    obtain ⟨g0_x, g1_x, g2_x, g3_x, g5_x, gs_x⟩ := id (GS_b G l_x)
    obtain ⟨e_z, l_z⟩ := okl (m := 999) (by decide) h1
    have hR2 : RC I2 X s := RC_N h (FrN_E p1.1 p2.1) (NkC_E p1.2.2 p2.1)
    have F2 : FrC I X I2 X := FrC_N (FrN_E p1.1 p2.1)
    apply K_s K
    unfold f_tree
    rw [if_pos h0, if_pos h1, if_pos h2]
    show OC I X (match trS s (kx x) (kx z) with
      | none => cNONE
      | some c => if w = 0 then nI c else nI (trP s (kx x) (kx z)), s) _ _ _
    rcases ht : trS s (kx x) (kx z) with _ | c
    · exact ⟨by unfold trS at ht; rw [ht]; rfl, hR2, F2⟩
    · exact absurd h6 (by unfold trS at ht; rw [ht]; exact nn9 (by have := (trO_le (by omega) (gfN_m6 (by omega)) ht).1; omega))
  · intro h0 h1 h2 I1 p1 I2 p2 h5 h6
    obtain ⟨e_x, l_x⟩ := okb rfl hn8 h0
    obtain ⟨g0_x, g1_x, g2_x, g3_x, g5_x, gs_x⟩ := id (GS_b G l_x)
    obtain ⟨e_z, l_z⟩ := okl (m := 999) (by decide) h1
    have hR2 : RC I2 X s := RC_N h (FrN_E p1.1 p2.1) (NkC_E p1.2.2 p2.1)
    have F2 : FrC I X I2 X := FrC_N (FrN_E p1.1 p2.1)
    apply K_s K
    unfold f_tree
    rw [if_pos h0, if_pos h1, if_pos h2]
    show OC I X (match trS s (kx x) (kx z) with
      | none => cNONE
      | some c => if w = 0 then nI c else nI (trP s (kx x) (kx z)), s) _ _ _
    rcases ht : trS s (kx x) (kx z) with _ | c
    · exact absurd (by unfold trS at ht; rw [ht]; rfl) h6
    · exact ⟨(p2.2 c ht).trans (if_neg h5).symm, hR2, F2⟩

set_option maxRecDepth 100000 in
set_option maxHeartbeats 4000000 in
theorem w_X8_tree {I : Nat → Nat → Nat → Int32} {X : am_Z} {g : am_F} {gs : List am_F} {d : Nat} {Q : Option am_V → am_M → Prop} {s : St} (h : RM I s) (G : GS s) {x z w : Int32} (k0 : (¬ ((0 : Int32) ≤ x ∧ x ≤ (nI (nb s)) - 1)) → am_WP (am_psh g (some (.inl ((-1000000001)))) :: gs) (d + 6) (mk I X) Q) (k1 : ((0 : Int32) ≤ x ∧ x ≤ (nI (nb s)) - 1) → (¬ ((0 : Int32) ≤ z ∧ z ≤ 999)) → am_WP (am_psh g (some (.inl ((-1000000001)))) :: gs) (d + 6) (mk I X) Q) (k2 : ((0 : Int32) ≤ x ∧ x ≤ (nI (nb s)) - 1) → ((0 : Int32) ≤ z ∧ z ≤ 999) → (¬ ((0 : Int32) ≤ w ∧ w ≤ 1)) → am_WP (am_psh g (some (.inl ((-1000000001)))) :: gs) (d + 6) (mk I X) Q) (k3 : ((0 : Int32) ≤ x ∧ x ≤ (nI (nb s)) - 1) → ((0 : Int32) ≤ z ∧ z ≤ 999) → ((0 : Int32) ≤ w ∧ w ≤ 1) → ∀ (I1 : Im), (Gf I I1 ∧ (¬ (0 < (bo s (kx x)).1 3 ∧ (kx z) < gfN (bo s (kx x)) (6 - (bo s (kx x)).1 3)) → ∀ j, j < (bo s (kx x)).1 3 + 1 → I1 41 0 j = nI (trT (strN s.1.2.1 s.1.2.2 (bo s (kx x))) (gfN (bo s (kx x))) (kx z) ((bo s (kx x)).1 3) j).1 ∧ I1 42 0 j = nI (trT (strN s.1.2.1 s.1.2.2 (bo s (kx x))) (gfN (bo s (kx x))) (kx z) ((bo s (kx x)).1 3) j).2)) → (¬ (¬ (0 < (bo s (kx x)).1 3 ∧ (kx z) < gfN (bo s (kx x)) (6 - (bo s (kx x)).1 3)))) → am_WP (am_psh g (some (.inl ((-1000000005)))) :: gs) (d + 6) (mk I1 X) Q) (k4 : ((0 : Int32) ≤ x ∧ x ≤ (nI (nb s)) - 1) → ((0 : Int32) ≤ z ∧ z ≤ 999) → ((0 : Int32) ≤ w ∧ w ≤ 1) → ∀ (I1 : Im), (Gf I I1 ∧ (¬ (0 < (bo s (kx x)).1 3 ∧ (kx z) < gfN (bo s (kx x)) (6 - (bo s (kx x)).1 3)) → ∀ j, j < (bo s (kx x)).1 3 + 1 → I1 41 0 j = nI (trT (strN s.1.2.1 s.1.2.2 (bo s (kx x))) (gfN (bo s (kx x))) (kx z) ((bo s (kx x)).1 3) j).1 ∧ I1 42 0 j = nI (trT (strN s.1.2.1 s.1.2.2 (bo s (kx x))) (gfN (bo s (kx x))) (kx z) ((bo s (kx x)).1 3) j).2)) → (¬ (0 < (bo s (kx x)).1 3 ∧ (kx z) < gfN (bo s (kx x)) (6 - (bo s (kx x)).1 3))) → (w = 0) → am_WP (am_psh g (some (.inl ((nI (trT (strN s.1.2.1 s.1.2.2 (bo s (kx x))) (gfN (bo s (kx x))) (kx z) ((bo s (kx x)).1 3) ((bo s (kx x)).1 3)).1)))) :: gs) (d + 6) (mk I1 X) Q) (k5 : ((0 : Int32) ≤ x ∧ x ≤ (nI (nb s)) - 1) → ((0 : Int32) ≤ z ∧ z ≤ 999) → ((0 : Int32) ≤ w ∧ w ≤ 1) → ∀ (I1 : Im), (Gf I I1 ∧ (¬ (0 < (bo s (kx x)).1 3 ∧ (kx z) < gfN (bo s (kx x)) (6 - (bo s (kx x)).1 3)) → ∀ j, j < (bo s (kx x)).1 3 + 1 → I1 41 0 j = nI (trT (strN s.1.2.1 s.1.2.2 (bo s (kx x))) (gfN (bo s (kx x))) (kx z) ((bo s (kx x)).1 3) j).1 ∧ I1 42 0 j = nI (trT (strN s.1.2.1 s.1.2.2 (bo s (kx x))) (gfN (bo s (kx x))) (kx z) ((bo s (kx x)).1 3) j).2)) → (¬ (0 < (bo s (kx x)).1 3 ∧ (kx z) < gfN (bo s (kx x)) (6 - (bo s (kx x)).1 3))) → (¬ w = 0) → am_WP (am_psh g (some (.inl ((nI (trT (strN s.1.2.1 s.1.2.2 (bo s (kx x))) (gfN (bo s (kx x))) (kx z) ((bo s (kx x)).1 3) ((bo s (kx x)).1 3)).2)))) :: gs) (d + 6) (mk I1 X) Q) : am_WP (am_entry mX8_tree [.inr (.inr (some (8, 0))), .inl (x), .inl (z), .inl (w)] :: g :: gs) (d + 5) (mk I X) Q := by
  have hn8 : nb s ≤ 8 := G.1.1.1
  refine am_go 400 ?_
  have tk0 : I 30 0 0 = nI (nb s) := h.1.1.1
  refine (c_X8_isBottle (x := x)) _ _ _ ?_
  refine am_go 400 ?_
  refine am_if (fun h1 => ?_) (fun h1 => ?_)
  · have h1 := bI_0.mp h1
    have h1 : ¬ ((0 : Int32) ≤ x ∧ x ≤ (I 30 0 0) - 1) := h1
    try rw [tk0] at h1
    exact k0 h1
  · have h1 := bI_1.mp h1
    have h1 : (0 : Int32) ≤ x ∧ x ≤ (I 30 0 0) - 1 := h1
    try rw [tk0] at h1
    obtain ⟨e_x, l_x⟩ := okb rfl hn8 h1
    obtain ⟨g0_x, g1_x, g2_x, g3_x, g5_x, gs_x⟩ := id (GS_b G l_x)
    refine (c_X8_isForce (x := z)) _ _ _ ?_
    refine am_go 400 ?_
    refine am_if (fun h2 => ?_) (fun h2 => ?_)
    · have h2 := bI_0.mp h2
      exact k1 h1 h2
    · have h2 := bI_1.mp h2
      obtain ⟨e_z, l_z⟩ := okl (m := 999) (by decide) h2
      refine (m_isIn (w) (0) (1) _ _) _ _ _ ?_
      refine am_go 400 ?_
      refine am_if (fun h3 => ?_) (fun h3 => ?_)
      · have h3 := bI_0.mp h3
        exact k2 h1 h2 h3
      · have h3 := bI_1.mp h3
        refine (c_X8_grows (I := I) (b := (kx x)) (fo := (kx z)) (⟨bM h (k := kx x) (by omega), h.1.2⟩ : CxM I (kx x) s.1.2.1 s.1.2.2 (bo s (kx x))) (GS_b G (k := kx x) (by omega)) G.1.2.2.1 G.1.2.2.2 e_x (by omega) e_z (by omega)) _ _ _ ?_
        intro I1 p1
        refine am_go 400 ?_
        refine am_if (fun h4 => ?_) (fun h4 => ?_)
        · have h4 := bI_0.mp h4
          exact k3 h1 h2 h3 I1 p1 h4
        · have h4 := bI_1.mp h4
          refine am_if (fun h5 => ?_) (fun h5 => ?_)
          · have bd : ((bo s (kx x)).1 3) ≤ 6 := (GS_b G (k := kx x) (by omega)).2.2.2.1
            have tk1 : I1 30 0 (6 + 18 * (kx x) + 3) = nI ((bo s (kx x)).1 3) := ((congrFun (congrFun (p1.1.2 30 (by decide) (by decide) (by decide) (by decide) (by decide)) _) _).trans (vM0 (k := kx x) (j := 3) h (by omega) (by omega)))
            refine (c8_of (k := (kx x)) (j := 3) e_x rfl (by omega)) _ _ _ ?_
            refine am_go 400 ?_
            refine am_f (ix_in (n := ((bo s (kx x)).1 3)) (N := 7) tk1 (by omega) (by decide)) ?_
            have tk2 : ((I1 30 0 (6 + 18 * (kx x) + 3))).toNatClampNeg = ((bo s (kx x)).1 3) := by first | exact ix_cl (n := ((bo s (kx x)).1 3)) tk1 (by omega) | (((try rw [tk1])); first | done | exact ix_cl (n := ((bo s (kx x)).1 3)) tk1 (by omega))
            have tk3 : I1 41 0 ((((I1 30 0 (6 + 18 * (kx x) + 3))).toNatClampNeg)) = nI (trT (strN s.1.2.1 s.1.2.2 (bo s (kx x))) (gfN (bo s (kx x))) (kx z) ((bo s (kx x)).1 3) ((bo s (kx x)).1 3)).1 := by first | exact (p1.2 (by assumption) ((bo s (kx x)).1 3) (by omega)).1 | (((try rw [tk2]); (try rw [tk1])); first | done | exact (p1.2 (by assumption) ((bo s (kx x)).1 3) (by omega)).1)
            show am_WP (am_psh g (some (.inl ((I1 41 0 ((((I1 30 0 (6 + 18 * (kx x) + 3))).toNatClampNeg)))))) :: gs) (d + 6) (mk I1 X) Q
            try rw [tk3]
            try rw [tk2]
            try rw [tk1]
            exact k4 h1 h2 h3 I1 p1 h4 h5
          · have bd : ((bo s (kx x)).1 3) ≤ 6 := (GS_b G (k := kx x) (by omega)).2.2.2.1
            have tk4 : I1 30 0 (6 + 18 * (kx x) + 3) = nI ((bo s (kx x)).1 3) := ((congrFun (congrFun (p1.1.2 30 (by decide) (by decide) (by decide) (by decide) (by decide)) _) _).trans (vM0 (k := kx x) (j := 3) h (by omega) (by omega)))
            refine (c8_of (k := (kx x)) (j := 3) e_x rfl (by omega)) _ _ _ ?_
            refine am_go 400 ?_
            refine am_f (ix_in (n := ((bo s (kx x)).1 3)) (N := 7) tk4 (by omega) (by decide)) ?_
            have tk5 : ((I1 30 0 (6 + 18 * (kx x) + 3))).toNatClampNeg = ((bo s (kx x)).1 3) := by first | exact ix_cl (n := ((bo s (kx x)).1 3)) tk4 (by omega) | (((try rw [tk4])); first | done | exact ix_cl (n := ((bo s (kx x)).1 3)) tk4 (by omega))
            have tk6 : I1 42 0 ((((I1 30 0 (6 + 18 * (kx x) + 3))).toNatClampNeg)) = nI (trT (strN s.1.2.1 s.1.2.2 (bo s (kx x))) (gfN (bo s (kx x))) (kx z) ((bo s (kx x)).1 3) ((bo s (kx x)).1 3)).2 := by first | exact (p1.2 (by assumption) ((bo s (kx x)).1 3) (by omega)).2 | (((try rw [tk5]); (try rw [tk4])); first | done | exact (p1.2 (by assumption) ((bo s (kx x)).1 3) (by omega)).2)
            show am_WP (am_psh g (some (.inl ((I1 42 0 ((((I1 30 0 (6 + 18 * (kx x) + 3))).toNatClampNeg)))))) :: gs) (d + 6) (mk I1 X) Q
            try rw [tk6]
            try rw [tk5]
            try rw [tk4]
            exact k5 h1 h2 h3 I1 p1 h4 h5
theorem p_X8_tree {I X d s} (h : RM I s) (G : GS s) (x z w : Int32) : Sp mX8_tree [.inr (.inr (some (8, 0))), .inl (x), .inl (z), .inl (w)] (d + 5) I X (OM I X (f_tree s x z w)) := fun g gs Q K => by
  have hn8 : nb s ≤ 8 := G.1.1.1
  have g8 : G8 s := G8_ G
  refine w_X8_tree h G  ?_ ?_ ?_ ?_ ?_ ?_
  · intro h0
    apply K_s K
    unfold f_tree
    rw [if_neg h0]
    exact ⟨rfl, h, FrM_r, rfl⟩
  · intro h0 h1
    obtain ⟨e_x, l_x⟩ := okb rfl hn8 h0
    obtain ⟨g0_x, g1_x, g2_x, g3_x, g5_x, gs_x⟩ := id (GS_b G l_x)
    apply K_s K
    unfold f_tree
    rw [if_pos h0, if_neg h1]
    exact ⟨rfl, h, FrM_r, rfl⟩
  · intro h0 h1 h2
    obtain ⟨e_x, l_x⟩ := okb rfl hn8 h0
    obtain ⟨g0_x, g1_x, g2_x, g3_x, g5_x, gs_x⟩ := id (GS_b G l_x)
    obtain ⟨e_z, l_z⟩ := okl (m := 999) (by decide) h1
    apply K_s K
    unfold f_tree
    rw [if_pos h0, if_pos h1, if_neg h2]
    exact ⟨rfl, h, FrM_r, rfl⟩
  · intro h0 h1 h2 I1 p1 h4
    obtain ⟨e_x, l_x⟩ := okb rfl hn8 h0
    obtain ⟨g0_x, g1_x, g2_x, g3_x, g5_x, gs_x⟩ := id (GS_b G l_x)
    obtain ⟨e_z, l_z⟩ := okl (m := 999) (by decide) h1
    apply K_s K
    unfold f_tree
    rw [if_pos h0, if_pos h1, if_pos h2]
    show OM I X (match trS s (kx x) (kx z) with
      | none => cNONE
      | some c => if w = 0 then nI c else nI (trP s (kx x) (kx z)), s) _ _ _
    rcases ht : trS s (kx x) (kx z) with _ | c
    · exact ⟨rfl, RM_G h p1.1, FrM_G p1.1, rfl⟩
    · exact absurd ht (by unfold trS trO; rw [if_pos (Classical.byContradiction h4)]; intro z; cases z)
  · intro h0 h1 h2 I1 p1 h4 h5
    obtain ⟨e_x, l_x⟩ := okb rfl hn8 h0
    obtain ⟨g0_x, g1_x, g2_x, g3_x, g5_x, gs_x⟩ := id (GS_b G l_x)
    obtain ⟨e_z, l_z⟩ := okl (m := 999) (by decide) h1
    apply K_s K
    unfold f_tree
    rw [if_pos h0, if_pos h1, if_pos h2]
    show OM I X (match trS s (kx x) (kx z) with
      | none => cNONE
      | some c => if w = 0 then nI c else nI (trP s (kx x) (kx z)), s) _ _ _
    rcases ht : trS s (kx x) (kx z) with _ | c
    · exact absurd ht (by unfold trS trO; rw [if_neg h4]; intro z; cases z)
    · exact ⟨by rw [(trO_le (by omega) (gfN_m6 (by omega)) ht).2]; exact (if_pos h5).symm, RM_G h p1.1, FrM_G p1.1, rfl⟩
  · intro h0 h1 h2 I1 p1 h4 h5
    obtain ⟨e_x, l_x⟩ := okb rfl hn8 h0
    obtain ⟨g0_x, g1_x, g2_x, g3_x, g5_x, gs_x⟩ := id (GS_b G l_x)
    obtain ⟨e_z, l_z⟩ := okl (m := 999) (by decide) h1
    apply K_s K
    unfold f_tree
    rw [if_pos h0, if_pos h1, if_pos h2]
    show OM I X (match trS s (kx x) (kx z) with
      | none => cNONE
      | some c => if w = 0 then nI c else nI (trP s (kx x) (kx z)), s) _ _ _
    rcases ht : trS s (kx x) (kx z) with _ | c
    · exact absurd ht (by unfold trS trO; rw [if_neg h4]; intro z; cases z)
    · exact ⟨(if_neg h5).symm, RM_G h p1.1, FrM_G p1.1, rfl⟩

