/-! pull, tried -/
theorem brkN_le {st gf : Nat → Nat} {first left : Nat} (hf : first + left = 6) : ∀ (n k : Nat), k + n ≤ 6 → (brkN st gf first left n k).1 ≤ left ∧ (brkN st gf first left n k).2 ≤ 2
  | 0, k, _ => ⟨Nat.le_refl _, Nat.zero_le _⟩
  | n + 1, k, h => by
    rw [brkN]
    split
    · exact ⟨by show k + 1 - first ≤ left; omega, Nat.le_refl _⟩
    · exact brkN_le hf n (k + 1) (by omega)
theorem thinkN_le {st gf : Nat → Nat} {left dp fo : Nat} (h : left ≤ 6) (h1 : 1 ≤ left) (hd : 1 ≤ dp) : (thinkN st gf left dp fo).1 ≤ left ∧ (thinkN st gf left dp fo).2 ≤ 18 := by
  unfold thinkN
  split
  · exact ⟨Nat.zero_le _, Nat.zero_le _⟩
  · unfold thE
    split
    · exact ⟨by show 6 - left + min dp left - (6 - left) ≤ left; omega, by show 3 * (6 - left + min dp left - (6 - left)) ≤ 18; omega⟩
    · have := brkN_le (st := st) (gf := gf) (first := 6 - left) (left := left) (by omega) (7 - (6 - left + min dp left)) (6 - left + min dp left - 1) (by omega)
      exact ⟨this.1, by omega⟩
def thN (s : St) (k dp fo : Nat) : Nat × Nat := thinkN (strN s.1.2.1 s.1.2.2 (bo s k)) (gfN (bo s k)) ((bo s k).1 3) dp fo
theorem Tf_N {I I1 I2} (F : FrN I I1) (T : Tf I1 I2) : FrN I I2 := fun g hg => (T.2 g (fun e => hg (by omega))).trans (F g hg)
theorem NkC_T {I1 I2} (h : NkC I1) (T : Tf I1 I2) : NkC I2 := ⟨by rw [T.2 20 (by decide)]; exact h.1, by rw [T.2 21 (by decide)]; exact h.2.1, by rw [T.2 22 (by decide)]; exact h.2.2⟩
theorem RC_N {I I' X s} (h : RC I X s) (F : FrN I I') (N : NkC I') : RC I' X s := RC_g h (fun g hg => F g (fun z => hg (by omega))) N
theorem FrC_N {I I' X} (F : FrN I I') : FrC I X I' X := FrC_g (fun g hg => F g (fun z => hg (by omega)))
theorem RM_T {I I' s} (h : RM I s) (T : Tg I I') : RM I' s := RM_g h (fun g hg => T.2 g (fun e => hg (by omega)) (fun e => hg (by omega)) (fun e => hg (by omega))) ⟨T.1 3 (by decide) (by decide), T.1 18 (by decide) (by decide), T.1 33 (by decide) (by decide)⟩
theorem FrM_T {I I'} (T : Tg I I') : FrM I I' := fun g hg => T.2 g (fun e => by subst e; cases hg) (fun e => by subst e; cases hg) (fun e => by subst e; cases hg)
theorem FrC_t3 {I I' X g k j v} (h : FrC I X I' X) (hg : mg g = false) : FrC I X (up3 I' g k j v) X := FrC_3 hg h
def f_pull (s : St) (x y z : Int32) : Int32 × St := if isB s x then if 1 ≤ y ∧ y ≤ 6 then if 0 ≤ z ∧ z ≤ 999 then if (bo s (kx x)).1 3 = 0 then (cNO, s) else (nI (thN s (kx x) (kx y) (kx z)).1, w0 (w0 s (kx x) 3 ((bo s (kx x)).1 3 - (thN s (kx x) (kx y) (kx z)).1)) (kx x) 4 ((bo s (kx x)).1 4 + (thN s (kx x) (kx y) (kx z)).2)) else (cBAD, s) else (cBAD, s) else (cBAD, s)
def f_tried (s : St) (x y z w : Int32) : Int32 × St := if isB s x then if 1 ≤ y ∧ y ≤ 6 then if 0 ≤ z ∧ z ≤ 999 then if 0 ≤ w ∧ w ≤ 1 then if (bo s (kx x)).1 3 = 0 then (cNONE, s) else if w = 0 then (nI (thN s (kx x) (kx y) (kx z)).1, s) else (nI (thN s (kx x) (kx y) (kx z)).2, s) else (cBAD, s) else (cBAD, s) else (cBAD, s) else (cBAD, s)
set_option maxRecDepth 100000 in
set_option maxHeartbeats 4000000 in
theorem w_X7_pull {I : Nat → Nat → Nat → Int32} {X : am_Z} {g : am_F} {gs : List am_F} {d : Nat} {Q : Option am_V → am_M → Prop} {s : St} (h : RC I X s) (G : GS s) {x y z : Int32} (k0 : (¬ ((0 : Int32) ≤ x ∧ x ≤ (nI (nb s)) - 1)) → am_WP (am_psh g (some (.inl ((-1000000001)))) :: gs) (d + 6) (mk I X) Q) (k1 : ((0 : Int32) ≤ x ∧ x ≤ (nI (nb s)) - 1) → (¬ ((1 : Int32) ≤ y ∧ y ≤ 6)) → am_WP (am_psh g (some (.inl ((-1000000001)))) :: gs) (d + 6) (mk I X) Q) (k2 : ((0 : Int32) ≤ x ∧ x ≤ (nI (nb s)) - 1) → ((1 : Int32) ≤ y ∧ y ≤ 6) → (¬ ((0 : Int32) ≤ z ∧ z ≤ 999)) → am_WP (am_psh g (some (.inl ((-1000000001)))) :: gs) (d + 6) (mk I X) Q) (k3 : ((0 : Int32) ≤ x ∧ x ≤ (nI (nb s)) - 1) → ((1 : Int32) ≤ y ∧ y ≤ 6) → ((0 : Int32) ≤ z ∧ z ≤ 999) → (((bo s (kx x)).1 3) = 0) → am_WP (am_psh g (some (.inl ((-1000000002)))) :: gs) (d + 6) (mk I X) Q) (k4 : ((0 : Int32) ≤ x ∧ x ≤ (nI (nb s)) - 1) → ((1 : Int32) ≤ y ∧ y ≤ 6) → ((0 : Int32) ≤ z ∧ z ≤ 999) → (¬ (((bo s (kx x)).1 3) = 0)) → ∀ (I1 : Im), (FrN I I1 ∧ NkR I1 (strN s.1.2.1 s.1.2.2 (bo s (kx x))) (gfN (bo s (kx x))) ((bo s (kx x)).1 3) ∧ NkC I1) → ∀ (I2 : Im), (Tr I1 (thinkN (strN s.1.2.1 s.1.2.2 (bo s (kx x))) (gfN (bo s (kx x))) ((bo s (kx x)).1 3) (kx y) (kx z)) I2) → am_WP (am_psh g (some (.inl ((nI (thinkN (strN s.1.2.1 s.1.2.2 (bo s (kx x))) (gfN (bo s (kx x))) ((bo s (kx x)).1 3) (kx y) (kx z)).1)))) :: gs) (d + 6) (mk (up3 (up3 I2 0 (((kx x))) (5) ((nI (((bo s (kx x)).1 3) - ((thinkN (strN s.1.2.1 s.1.2.2 (bo s (kx x))) (gfN (bo s (kx x))) ((bo s (kx x)).1 3) (kx y) (kx z)).1))))) 0 (((kx x))) (6) ((nI (((bo s (kx x)).1 4) + ((thinkN (strN s.1.2.1 s.1.2.2 (bo s (kx x))) (gfN (bo s (kx x))) ((bo s (kx x)).1 3) (kx y) (kx z)).2))))) X) Q) : am_WP (am_entry mX7_pull [.inr (.inr (some (7, 0))), .inl (x), .inl (y), .inl (z)] :: g :: gs) (d + 5) (mk I X) Q := by
  have hn8 : nb s ≤ 8 := G.1.1.1
  refine am_go 400 ?_
  have tk0 : I 1 0 3 = nI (nb s) := h.1.1.1
  refine (c_X7_isBottle (x := x)) _ _ _ ?_
  refine am_go 400 ?_
  refine am_if (fun h1 => ?_) (fun h1 => ?_)
  · have h1 := bI_0.mp h1
    have h1 : ¬ ((0 : Int32) ≤ x ∧ x ≤ (I 1 0 3) - 1) := h1
    try rw [tk0] at h1
    exact k0 h1
  · have h1 := bI_1.mp h1
    have h1 : (0 : Int32) ≤ x ∧ x ≤ (I 1 0 3) - 1 := h1
    try rw [tk0] at h1
    obtain ⟨e_x, l_x⟩ := okb rfl hn8 h1
    obtain ⟨g0_x, g1_x, g2_x, g3_x, g5_x, gs_x⟩ := id (GS_b G l_x)
    refine (c_X7_within (y) (1) (6)) _ _ _ ?_
    refine am_go 400 ?_
    refine am_if (fun h2 => ?_) (fun h2 => ?_)
    · have h2 := bI_0.mp h2
      exact k1 h1 h2
    · have h2 := bI_1.mp h2
      obtain ⟨e_y, l_y⟩ := okr (lo := 1) (m := 6) (by decide) (by decide) h2
      refine (c_X7_within (z) (0) (999)) _ _ _ ?_
      refine am_go 400 ?_
      refine am_if (fun h3 => ?_) (fun h3 => ?_)
      · have h3 := bI_0.mp h3
        exact k2 h1 h2 h3
      · have h3 := bI_1.mp h3
        obtain ⟨e_z, l_z⟩ := okl (m := 999) (by decide) h3
        refine am_f (ix_in (n := (kx x)) (N := 8) e_x (by omega) (by decide)) ?_
        have tk1 : (x).toNatClampNeg = (kx x) := ix_cl (n := (kx x)) e_x (by omega)
        have bd : ((bo s (kx x)).1 3) ≤ 6 := (GS_b G (k := kx x) (by omega)).2.2.2.1
        have tk2 : I 0 (((x).toNatClampNeg)) 5 = nI ((bo s (kx x)).1 3) := by first | exact vC0 (j := 3) h (by omega) (by omega) | (((try rw [tk1])); first | done | exact vC0 (j := 3) h (by omega) (by omega))
        refine am_if (fun h4 => ?_) (fun h4 => ?_)
        · have nh4 := (eq_nat (a := ((bo s (kx x)).1 3)) (b := 0) tk2 (rfl : (0 : Int32) = nI 0) (by omega) (by omega)).mp h4
          exact k3 h1 h2 h3 nh4
        · have nh4 := mt (eq_nat (a := ((bo s (kx x)).1 3)) (b := 0) tk2 (rfl : (0 : Int32) = nI 0) (by omega) (by omega)).mpr h4
          refine (c_X2_look (I := I) (c := 0) (b := kx x) (show ((x).toNatClampNeg) = ((kx x)) by (try rw [tk1]); first | done | rfl) (bC h (k := kx x) (by omega)) (GS_b G (k := kx x) (by omega)) h.1.2 G.1.2.2.1 G.1.2.2.2 h.2.2.2.2.2.2.1) _ _ _ ?_
          intro I1 p1
          refine am_go 400 ?_
          have bd : ((bo s (kx x)).1 3) ≤ 6 := (GS_b G (k := kx x) (by omega)).2.2.2.1
          have tk3 : I1 0 (((x).toNatClampNeg)) 5 = nI ((bo s (kx x)).1 3) := by first | exact ((congrFun (congrFun (p1.1 0 (by decide)) _) _).trans (vC0 (j := 3) h (by omega) (by omega))) | (((try rw [tk1])); first | done | exact ((congrFun (congrFun (p1.1 0 (by decide)) _) _).trans (vC0 (j := 3) h (by omega) (by omega))))
          refine (c_X2_think (I := I1) (L := (bo s (kx x)).1 3) p1.2.1 (fun l hl => strN_le (GS_b G (k := kx x) (by omega)) hl) (gfN_le (GS_b G (k := kx x) (by omega))) tk3 e_y e_z (by omega) (by omega) (by omega) (by omega) (by omega) (by omega)) _ _ _ ?_
          intro I2 p2
          refine am_go 400 ?_
          have tk4 : I2 0 (((x).toNatClampNeg)) 5 = nI ((bo s (kx x)).1 3) := by first | exact ((congrFun (congrFun (p2.1.2 0 (by decide)) _) _).trans (((congrFun (congrFun (p1.1 0 (by decide)) _) _).trans (vC0 (j := 3) h (by omega) (by omega))))) | (((try rw [tk1])); first | done | exact ((congrFun (congrFun (p2.1.2 0 (by decide)) _) _).trans (((congrFun (congrFun (p1.1 0 (by decide)) _) _).trans (vC0 (j := 3) h (by omega) (by omega))))))
          have bd : (thinkN (strN s.1.2.1 s.1.2.2 (bo s (kx x))) (gfN (bo s (kx x))) ((bo s (kx x)).1 3) (kx y) (kx z)).1 ≤ ((bo s (kx x)).1 3) := (thinkN_le (st := strN s.1.2.1 s.1.2.2 (bo s (kx x))) (gf := gfN (bo s (kx x))) (left := ((bo s (kx x)).1 3)) (dp := (kx y)) (fo := (kx z)) (by omega) (by omega) (by omega)).1
          have tk5 : I2 2 0 5 = nI (thinkN (strN s.1.2.1 s.1.2.2 (bo s (kx x))) (gfN (bo s (kx x))) ((bo s (kx x)).1 3) (kx y) (kx z)).1 := p2.2.1
          have tk6 : ((I2 0 (((x).toNatClampNeg)) 5) - (I2 2 0 5)) = nI (((bo s (kx x)).1 3) - ((thinkN (strN s.1.2.1 s.1.2.2 (bo s (kx x))) (gfN (bo s (kx x))) ((bo s (kx x)).1 3) (kx y) (kx z)).1)) := by first | exact (nI_subE tk4 tk5 (by omega)) | (((try rw [tk4]); (try rw [tk1]); (try rw [tk5])); first | done | exact (nI_subE tk4 tk5 (by omega)))
          have tk7 : (up3 I2 0 (((x).toNatClampNeg)) (5) ((((I2 0 (((x).toNatClampNeg)) 5) - (I2 2 0 5))))) 0 (((x).toNatClampNeg)) 6 = nI ((bo s (kx x)).1 4) := by first | exact ((up3_j (by decide))).trans (((congrFun (congrFun (p2.1.2 0 (by decide)) _) _).trans (((congrFun (congrFun (p1.1 0 (by decide)) _) _).trans (vC0 (j := 4) h (by omega) (by omega)))))) | (((try rw [tk6]); (try rw [tk4]); (try rw [tk1]); (try rw [tk5])); first | done | exact ((up3_j (by decide))).trans (((congrFun (congrFun (p2.1.2 0 (by decide)) _) _).trans (((congrFun (congrFun (p1.1 0 (by decide)) _) _).trans (vC0 (j := 4) h (by omega) (by omega)))))))
          have bd : (thinkN (strN s.1.2.1 s.1.2.2 (bo s (kx x))) (gfN (bo s (kx x))) ((bo s (kx x)).1 3) (kx y) (kx z)).2 ≤ 18 := (thinkN_le (st := strN s.1.2.1 s.1.2.2 (bo s (kx x))) (gf := gfN (bo s (kx x))) (left := ((bo s (kx x)).1 3)) (dp := (kx y)) (fo := (kx z)) (by omega) (by omega) (by omega)).2
          have tk8 : (up3 I2 0 (((x).toNatClampNeg)) (5) ((((I2 0 (((x).toNatClampNeg)) 5) - (I2 2 0 5))))) 2 0 6 = nI (thinkN (strN s.1.2.1 s.1.2.2 (bo s (kx x))) (gfN (bo s (kx x))) ((bo s (kx x)).1 3) (kx y) (kx z)).2 := by first | exact p2.2.2 | (((try rw [tk6]); (try rw [tk4]); (try rw [tk1]); (try rw [tk5])); first | done | exact p2.2.2)
          have tk9 : (((up3 I2 0 (((x).toNatClampNeg)) (5) ((((I2 0 (((x).toNatClampNeg)) 5) - (I2 2 0 5))))) 0 (((x).toNatClampNeg)) 6) + ((up3 I2 0 (((x).toNatClampNeg)) (5) ((((I2 0 (((x).toNatClampNeg)) 5) - (I2 2 0 5))))) 2 0 6)) = nI (((bo s (kx x)).1 4) + ((thinkN (strN s.1.2.1 s.1.2.2 (bo s (kx x))) (gfN (bo s (kx x))) ((bo s (kx x)).1 3) (kx y) (kx z)).2)) := by first | exact (nI_addE tk7 tk8) | (((try rw [tk7]); (try rw [tk8]); (try rw [tk6]); (try rw [tk4]); (try rw [tk1]); (try rw [tk5])); first | done | exact (nI_addE tk7 tk8))
          have tk10 : (up3 (up3 I2 0 (((x).toNatClampNeg)) (5) ((((I2 0 (((x).toNatClampNeg)) 5) - (I2 2 0 5))))) 0 (((x).toNatClampNeg)) (6) (((((up3 I2 0 (((x).toNatClampNeg)) (5) ((((I2 0 (((x).toNatClampNeg)) 5) - (I2 2 0 5))))) 0 (((x).toNatClampNeg)) 6) + ((up3 I2 0 (((x).toNatClampNeg)) (5) ((((I2 0 (((x).toNatClampNeg)) 5) - (I2 2 0 5))))) 2 0 6))))) 2 0 5 = nI (thinkN (strN s.1.2.1 s.1.2.2 (bo s (kx x))) (gfN (bo s (kx x))) ((bo s (kx x)).1 3) (kx y) (kx z)).1 := by first | exact p2.2.1 | (((try rw [tk9]); (try rw [tk7]); (try rw [tk8]); (try rw [tk6]); (try rw [tk4]); (try rw [tk1]); (try rw [tk5])); first | done | exact p2.2.1)
          show am_WP (am_psh g (some (.inl (((up3 (up3 I2 0 (((x).toNatClampNeg)) (5) ((((I2 0 (((x).toNatClampNeg)) 5) - (I2 2 0 5))))) 0 (((x).toNatClampNeg)) (6) (((((up3 I2 0 (((x).toNatClampNeg)) (5) ((((I2 0 (((x).toNatClampNeg)) 5) - (I2 2 0 5))))) 0 (((x).toNatClampNeg)) 6) + ((up3 I2 0 (((x).toNatClampNeg)) (5) ((((I2 0 (((x).toNatClampNeg)) 5) - (I2 2 0 5))))) 2 0 6))))) 2 0 5)))) :: gs) (d + 6) (mk (up3 (up3 I2 0 (((x).toNatClampNeg)) (5) ((((I2 0 (((x).toNatClampNeg)) 5) - (I2 2 0 5))))) 0 (((x).toNatClampNeg)) (6) (((((up3 I2 0 (((x).toNatClampNeg)) (5) ((((I2 0 (((x).toNatClampNeg)) 5) - (I2 2 0 5))))) 0 (((x).toNatClampNeg)) 6) + ((up3 I2 0 (((x).toNatClampNeg)) (5) ((((I2 0 (((x).toNatClampNeg)) 5) - (I2 2 0 5))))) 2 0 6))))) X) Q
          try rw [tk10]
          try rw [tk9]
          try rw [tk7]
          try rw [tk8]
          try rw [tk6]
          try rw [tk4]
          try rw [tk1]
          try rw [tk5]
          exact k4 h1 h2 h3 nh4 I1 p1 I2 p2
theorem p_X7_pull {I X d s} (h : RC I X s) (G : GS s) (x y z : Int32) : Sp mX7_pull [.inr (.inr (some (7, 0))), .inl (x), .inl (y), .inl (z)] (d + 5) I X (OC I X (f_pull s x y z)) := fun g gs Q K => by
  have hn8 : nb s ≤ 8 := G.1.1.1
  have g8 : G8 s := G8_ G
  refine w_X7_pull h G  ?_ ?_ ?_ ?_ ?_
  · intro h0
    apply K_s K
    unfold f_pull
    rw [if_neg h0]
    exact ⟨rfl, h, FrC_r⟩
  · intro h0 h1
    obtain ⟨e_x, l_x⟩ := okb rfl hn8 h0
    obtain ⟨g0_x, g1_x, g2_x, g3_x, g5_x, gs_x⟩ := id (GS_b G l_x)
    apply K_s K
    unfold f_pull
    rw [if_pos h0, if_neg h1]
    exact ⟨rfl, h, FrC_r⟩
  · intro h0 h1 h2
    obtain ⟨e_x, l_x⟩ := okb rfl hn8 h0
    obtain ⟨g0_x, g1_x, g2_x, g3_x, g5_x, gs_x⟩ := id (GS_b G l_x)
    obtain ⟨e_y, l_y⟩ := okr (lo := 1) (m := 6) (by decide) (by decide) h1
    apply K_s K
    unfold f_pull
    rw [if_pos h0, if_pos h1, if_neg h2]
    exact ⟨rfl, h, FrC_r⟩
  · intro h0 h1 h2 h3
    obtain ⟨e_x, l_x⟩ := okb rfl hn8 h0
    obtain ⟨g0_x, g1_x, g2_x, g3_x, g5_x, gs_x⟩ := id (GS_b G l_x)
    obtain ⟨e_y, l_y⟩ := okr (lo := 1) (m := 6) (by decide) (by decide) h1
    obtain ⟨e_z, l_z⟩ := okl (m := 999) (by decide) h2
    apply K_s K
    unfold f_pull
    rw [if_pos h0, if_pos h1, if_pos h2, if_pos h3]
    exact ⟨rfl, h, FrC_r⟩
  · intro h0 h1 h2 h3 I1 p1 I2 p2
    obtain ⟨e_x, l_x⟩ := okb rfl hn8 h0
    obtain ⟨g0_x, g1_x, g2_x, g3_x, g5_x, gs_x⟩ := id (GS_b G l_x)
    obtain ⟨e_y, l_y⟩ := okr (lo := 1) (m := 6) (by decide) (by decide) h1
    obtain ⟨e_z, l_z⟩ := okl (m := 999) (by decide) h2
    have hR2 : RC I2 X s := RC_N h (Tf_N p1.1 p2.1) (NkC_T p1.2.2 p2.1)
    have F2 : FrC I X I2 X := FrC_N (Tf_N p1.1 p2.1)
    apply K_s K
    unfold f_pull
    rw [if_pos h0, if_pos h1, if_pos h2, if_neg h3]
    exact ⟨rfl, RC_w0 (j := 4) (RC_w0 (j := 3) hR2 g8 l_x (by omega) rfl) g8 l_x (by omega) rfl, FrC_3 rfl (FrC_3 rfl F2)⟩

set_option maxRecDepth 100000 in
set_option maxHeartbeats 4000000 in
theorem w_X8_pull {I : Nat → Nat → Nat → Int32} {X : am_Z} {g : am_F} {gs : List am_F} {d : Nat} {Q : Option am_V → am_M → Prop} {s : St} (h : RM I s) (G : GS s) {x y z : Int32} (k0 : (¬ ((0 : Int32) ≤ x ∧ x ≤ (nI (nb s)) - 1)) → am_WP (am_psh g (some (.inl ((-1000000001)))) :: gs) (d + 5) (mk I X) Q) (k1 : ((0 : Int32) ≤ x ∧ x ≤ (nI (nb s)) - 1) → (¬ ((1 : Int32) ≤ y ∧ y ≤ 6)) → am_WP (am_psh g (some (.inl ((-1000000001)))) :: gs) (d + 5) (mk I X) Q) (k2 : ((0 : Int32) ≤ x ∧ x ≤ (nI (nb s)) - 1) → ((1 : Int32) ≤ y ∧ y ≤ 6) → (¬ ((0 : Int32) ≤ z ∧ z ≤ 999)) → am_WP (am_psh g (some (.inl ((-1000000001)))) :: gs) (d + 5) (mk I X) Q) (k3 : ((0 : Int32) ≤ x ∧ x ≤ (nI (nb s)) - 1) → ((1 : Int32) ≤ y ∧ y ≤ 6) → ((0 : Int32) ≤ z ∧ z ≤ 999) → (((bo s (kx x)).1 3) = 0) → am_WP (am_psh g (some (.inl ((-1000000002)))) :: gs) (d + 5) (mk I X) Q) (k4 : ((0 : Int32) ≤ x ∧ x ≤ (nI (nb s)) - 1) → ((1 : Int32) ≤ y ∧ y ≤ 6) → ((0 : Int32) ≤ z ∧ z ≤ 999) → (¬ (((bo s (kx x)).1 3) = 0)) → ∀ (I1 : Im), (Ts I (thinkN (strN s.1.2.1 s.1.2.2 (bo s (kx x))) (gfN (bo s (kx x))) ((bo s (kx x)).1 3) (kx y) (kx z)) I1) → am_WP (am_psh g (some (.inl ((nI (thinkN (strN s.1.2.1 s.1.2.2 (bo s (kx x))) (gfN (bo s (kx x))) ((bo s (kx x)).1 3) (kx y) (kx z)).1)))) :: gs) (d + 5) (mk (up3 (up3 I1 30 0 (6 + 18 * (kx x) + 3) ((nI (((bo s (kx x)).1 3) - ((thinkN (strN s.1.2.1 s.1.2.2 (bo s (kx x))) (gfN (bo s (kx x))) ((bo s (kx x)).1 3) (kx y) (kx z)).1))))) 30 0 (6 + 18 * (kx x) + 4) ((nI (((bo s (kx x)).1 4) + ((thinkN (strN s.1.2.1 s.1.2.2 (bo s (kx x))) (gfN (bo s (kx x))) ((bo s (kx x)).1 3) (kx y) (kx z)).2))))) X) Q) : am_WP (am_entry mX8_pull [.inr (.inr (some (8, 0))), .inl (x), .inl (y), .inl (z)] :: g :: gs) (d + 4) (mk I X) Q := by
  have hn8 : nb s ≤ 8 := G.1.1.1
  refine am_go 400 ?_
  have tk0 : I 30 0 0 = nI (nb s) := h.1.1.1
  refine (c_X8_isBottle (x := x)) _ _ _ ?_
  refine am_go 400 ?_
  refine am_if (fun h1 => ?_) (fun h1 => ?_)
  · have h1 := bI_0.mp h1
    have h1 : ¬ ((0 : Int32) ≤ x ∧ x ≤ (I 30 0 0) - 1) := h1
    try rw [tk0] at h1
    exact k0 h1
  · have h1 := bI_1.mp h1
    have h1 : (0 : Int32) ≤ x ∧ x ≤ (I 30 0 0) - 1 := h1
    try rw [tk0] at h1
    obtain ⟨e_x, l_x⟩ := okb rfl hn8 h1
    obtain ⟨g0_x, g1_x, g2_x, g3_x, g5_x, gs_x⟩ := id (GS_b G l_x)
    refine (m_isIn (y) (1) (6) _ _) _ _ _ ?_
    refine am_go 400 ?_
    refine am_if (fun h2 => ?_) (fun h2 => ?_)
    · have h2 := bI_0.mp h2
      exact k1 h1 h2
    · have h2 := bI_1.mp h2
      obtain ⟨e_y, l_y⟩ := okr (lo := 1) (m := 6) (by decide) (by decide) h2
      refine (c_X8_isForce (x := z)) _ _ _ ?_
      refine am_go 400 ?_
      refine am_if (fun h3 => ?_) (fun h3 => ?_)
      · have h3 := bI_0.mp h3
        exact k2 h1 h2 h3
      · have h3 := bI_1.mp h3
        obtain ⟨e_z, l_z⟩ := okl (m := 999) (by decide) h3
        have bd : ((bo s (kx x)).1 3) ≤ 6 := (GS_b G (k := kx x) (by omega)).2.2.2.1
        have tk1 : I 30 0 (6 + 18 * (kx x) + 3) = nI ((bo s (kx x)).1 3) := vM0 (k := kx x) (j := 3) h (by omega) (by omega)
        refine (c8_of (k := (kx x)) (j := 3) e_x rfl (by omega)) _ _ _ ?_
        refine am_go 400 ?_
        refine am_if (fun h4 => ?_) (fun h4 => ?_)
        · have nh4 := (eq_nat (a := ((bo s (kx x)).1 3)) (b := 0) tk1 (rfl : (0 : Int32) = nI 0) (by omega) (by omega)).mp h4
          exact k3 h1 h2 h3 nh4
        · have nh4 := mt (eq_nat (a := ((bo s (kx x)).1 3)) (b := 0) tk1 (rfl : (0 : Int32) = nI 0) (by omega) (by omega)).mpr h4
          have bd : ((bo s (kx x)).1 3) ≤ 6 := (GS_b G (k := kx x) (by omega)).2.2.2.1
          refine (c8_of (k := (kx x)) (j := 3) e_x rfl (by omega)) _ _ _ ?_
          refine am_go 400 ?_
          refine (c_X8_thinksPull (I := I) (b := (kx x)) (a := ((bo s (kx x)).1 3)) (dp := (kx y)) (fo := (kx z)) (⟨bM h (k := kx x) (by omega), h.1.2⟩ : CxM I (kx x) s.1.2.1 s.1.2.2 (bo s (kx x))) (GS_b G (k := kx x) (by omega)) G.1.2.2.1 G.1.2.2.2 e_x (by omega) tk1 e_y e_z (by omega) (by omega) (by omega) (by omega) (by omega)) _ _ _ ?_
          intro I1 p1
          refine am_go 400 ?_
          have tk2 : I1 30 0 (6 + 18 * (kx x) + 3) = nI ((bo s (kx x)).1 3) := ((congrFun (congrFun (p1.1.2 30 (by decide) (by decide) (by decide)) _) _).trans (vM0 (k := kx x) (j := 3) h (by omega) (by omega)))
          refine (c8_of (k := (kx x)) (j := 3) e_x rfl (by omega)) _ _ _ ?_
          refine am_go 400 ?_
          have bd : (thinkN (strN s.1.2.1 s.1.2.2 (bo s (kx x))) (gfN (bo s (kx x))) ((bo s (kx x)).1 3) (kx y) (kx z)).1 ≤ ((bo s (kx x)).1 3) := (thinkN_le (st := strN s.1.2.1 s.1.2.2 (bo s (kx x))) (gf := gfN (bo s (kx x))) (left := ((bo s (kx x)).1 3)) (dp := (kx y)) (fo := (kx z)) (by omega) (by omega) (by omega)).1
          have tk3 : I1 8 0 12 = nI (thinkN (strN s.1.2.1 s.1.2.2 (bo s (kx x))) (gfN (bo s (kx x))) ((bo s (kx x)).1 3) (kx y) (kx z)).1 := p1.2.1
          have tk4 : ((I1 30 0 (6 + 18 * (kx x) + 3)) - (I1 8 0 12)) = nI (((bo s (kx x)).1 3) - ((thinkN (strN s.1.2.1 s.1.2.2 (bo s (kx x))) (gfN (bo s (kx x))) ((bo s (kx x)).1 3) (kx y) (kx z)).1)) := by first | exact (nI_subE tk2 tk3 (by omega)) | (((try rw [tk2]); (try rw [tk3])); first | done | exact (nI_subE tk2 tk3 (by omega)))
          refine (c8_puts (k := (kx x)) (j := 3) e_x rfl (by omega)) _ _ _ ?_
          refine am_go 400 ?_
          have tk5 : (up3 I1 30 0 (6 + 18 * (kx x) + 3) ((((I1 30 0 (6 + 18 * (kx x) + 3)) - (I1 8 0 12))))) 30 0 (6 + 18 * (kx x) + 4) = nI ((bo s (kx x)).1 4) := by first | exact ((up3_j (by omega))).trans (((congrFun (congrFun (p1.1.2 30 (by decide) (by decide) (by decide)) _) _).trans (vM0 (k := kx x) (j := 4) h (by omega) (by omega)))) | (((try rw [tk4]); (try rw [tk2]); (try rw [tk3])); first | done | exact ((up3_j (by omega))).trans (((congrFun (congrFun (p1.1.2 30 (by decide) (by decide) (by decide)) _) _).trans (vM0 (k := kx x) (j := 4) h (by omega) (by omega)))))
          refine (c8_of (k := (kx x)) (j := 4) e_x rfl (by omega)) _ _ _ ?_
          refine am_go 400 ?_
          have bd : (thinkN (strN s.1.2.1 s.1.2.2 (bo s (kx x))) (gfN (bo s (kx x))) ((bo s (kx x)).1 3) (kx y) (kx z)).2 ≤ 18 := (thinkN_le (st := strN s.1.2.1 s.1.2.2 (bo s (kx x))) (gf := gfN (bo s (kx x))) (left := ((bo s (kx x)).1 3)) (dp := (kx y)) (fo := (kx z)) (by omega) (by omega) (by omega)).2
          have tk6 : (up3 I1 30 0 (6 + 18 * (kx x) + 3) ((((I1 30 0 (6 + 18 * (kx x) + 3)) - (I1 8 0 12))))) 8 0 13 = nI (thinkN (strN s.1.2.1 s.1.2.2 (bo s (kx x))) (gfN (bo s (kx x))) ((bo s (kx x)).1 3) (kx y) (kx z)).2 := by first | exact p1.2.2 | (((try rw [tk4]); (try rw [tk2]); (try rw [tk3])); first | done | exact p1.2.2)
          have tk7 : (((up3 I1 30 0 (6 + 18 * (kx x) + 3) ((((I1 30 0 (6 + 18 * (kx x) + 3)) - (I1 8 0 12))))) 30 0 (6 + 18 * (kx x) + 4)) + ((up3 I1 30 0 (6 + 18 * (kx x) + 3) ((((I1 30 0 (6 + 18 * (kx x) + 3)) - (I1 8 0 12))))) 8 0 13)) = nI (((bo s (kx x)).1 4) + ((thinkN (strN s.1.2.1 s.1.2.2 (bo s (kx x))) (gfN (bo s (kx x))) ((bo s (kx x)).1 3) (kx y) (kx z)).2)) := by first | exact (nI_addE tk5 tk6) | (((try rw [tk5]); (try rw [tk6]); (try rw [tk4]); (try rw [tk2]); (try rw [tk3])); first | done | exact (nI_addE tk5 tk6))
          refine (c8_puts (k := (kx x)) (j := 4) e_x rfl (by omega)) _ _ _ ?_
          refine am_go 400 ?_
          have tk8 : (up3 (up3 I1 30 0 (6 + 18 * (kx x) + 3) ((((I1 30 0 (6 + 18 * (kx x) + 3)) - (I1 8 0 12))))) 30 0 (6 + 18 * (kx x) + 4) (((((up3 I1 30 0 (6 + 18 * (kx x) + 3) ((((I1 30 0 (6 + 18 * (kx x) + 3)) - (I1 8 0 12))))) 30 0 (6 + 18 * (kx x) + 4)) + ((up3 I1 30 0 (6 + 18 * (kx x) + 3) ((((I1 30 0 (6 + 18 * (kx x) + 3)) - (I1 8 0 12))))) 8 0 13))))) 8 0 12 = nI (thinkN (strN s.1.2.1 s.1.2.2 (bo s (kx x))) (gfN (bo s (kx x))) ((bo s (kx x)).1 3) (kx y) (kx z)).1 := by first | exact p1.2.1 | (((try rw [tk7]); (try rw [tk5]); (try rw [tk6]); (try rw [tk4]); (try rw [tk2]); (try rw [tk3])); first | done | exact p1.2.1)
          show am_WP (am_psh g (some (.inl (((up3 (up3 I1 30 0 (6 + 18 * (kx x) + 3) ((((I1 30 0 (6 + 18 * (kx x) + 3)) - (I1 8 0 12))))) 30 0 (6 + 18 * (kx x) + 4) (((((up3 I1 30 0 (6 + 18 * (kx x) + 3) ((((I1 30 0 (6 + 18 * (kx x) + 3)) - (I1 8 0 12))))) 30 0 (6 + 18 * (kx x) + 4)) + ((up3 I1 30 0 (6 + 18 * (kx x) + 3) ((((I1 30 0 (6 + 18 * (kx x) + 3)) - (I1 8 0 12))))) 8 0 13))))) 8 0 12)))) :: gs) (d + 5) (mk (up3 (up3 I1 30 0 (6 + 18 * (kx x) + 3) ((((I1 30 0 (6 + 18 * (kx x) + 3)) - (I1 8 0 12))))) 30 0 (6 + 18 * (kx x) + 4) (((((up3 I1 30 0 (6 + 18 * (kx x) + 3) ((((I1 30 0 (6 + 18 * (kx x) + 3)) - (I1 8 0 12))))) 30 0 (6 + 18 * (kx x) + 4)) + ((up3 I1 30 0 (6 + 18 * (kx x) + 3) ((((I1 30 0 (6 + 18 * (kx x) + 3)) - (I1 8 0 12))))) 8 0 13))))) X) Q
          try rw [tk8]
          try rw [tk7]
          try rw [tk5]
          try rw [tk6]
          try rw [tk4]
          try rw [tk2]
          try rw [tk3]
          exact k4 h1 h2 h3 nh4 I1 p1
theorem p_X8_pull {I X d s} (h : RM I s) (G : GS s) (x y z : Int32) : Sp mX8_pull [.inr (.inr (some (8, 0))), .inl (x), .inl (y), .inl (z)] (d + 4) I X (OM I X (f_pull s x y z)) := fun g gs Q K => by
  have hn8 : nb s ≤ 8 := G.1.1.1
  have g8 : G8 s := G8_ G
  refine w_X8_pull h G  ?_ ?_ ?_ ?_ ?_
  · intro h0
    apply K_s K
    unfold f_pull
    rw [if_neg h0]
    exact ⟨rfl, h, FrM_r, rfl⟩
  · intro h0 h1
    obtain ⟨e_x, l_x⟩ := okb rfl hn8 h0
    obtain ⟨g0_x, g1_x, g2_x, g3_x, g5_x, gs_x⟩ := id (GS_b G l_x)
    apply K_s K
    unfold f_pull
    rw [if_pos h0, if_neg h1]
    exact ⟨rfl, h, FrM_r, rfl⟩
  · intro h0 h1 h2
    obtain ⟨e_x, l_x⟩ := okb rfl hn8 h0
    obtain ⟨g0_x, g1_x, g2_x, g3_x, g5_x, gs_x⟩ := id (GS_b G l_x)
    obtain ⟨e_y, l_y⟩ := okr (lo := 1) (m := 6) (by decide) (by decide) h1
    apply K_s K
    unfold f_pull
    rw [if_pos h0, if_pos h1, if_neg h2]
    exact ⟨rfl, h, FrM_r, rfl⟩
  · intro h0 h1 h2 h3
    obtain ⟨e_x, l_x⟩ := okb rfl hn8 h0
    obtain ⟨g0_x, g1_x, g2_x, g3_x, g5_x, gs_x⟩ := id (GS_b G l_x)
    obtain ⟨e_y, l_y⟩ := okr (lo := 1) (m := 6) (by decide) (by decide) h1
    obtain ⟨e_z, l_z⟩ := okl (m := 999) (by decide) h2
    apply K_s K
    unfold f_pull
    rw [if_pos h0, if_pos h1, if_pos h2, if_pos h3]
    exact ⟨rfl, h, FrM_r, rfl⟩
  · intro h0 h1 h2 h3 I1 p1
    obtain ⟨e_x, l_x⟩ := okb rfl hn8 h0
    obtain ⟨g0_x, g1_x, g2_x, g3_x, g5_x, gs_x⟩ := id (GS_b G l_x)
    obtain ⟨e_y, l_y⟩ := okr (lo := 1) (m := 6) (by decide) (by decide) h1
    obtain ⟨e_z, l_z⟩ := okl (m := 999) (by decide) h2
    have hR2 : RM I1 s := RM_T h p1.1
    have F2 : FrM I I1 := FrM_T p1.1
    apply K_s K
    unfold f_pull
    rw [if_pos h0, if_pos h1, if_pos h2, if_neg h3]
    exact ⟨rfl, RM_w0 (j := 4) (RM_w0 (j := 3) hR2 g8 l_x (by omega) rfl) g8 l_x (by omega) rfl, FrM_3 rfl (FrM_3 rfl F2), rfl⟩

set_option maxRecDepth 100000 in
set_option maxHeartbeats 4000000 in
theorem w_X7_tried {I : Nat → Nat → Nat → Int32} {X : am_Z} {g : am_F} {gs : List am_F} {d : Nat} {Q : Option am_V → am_M → Prop} {s : St} (h : RC I X s) (G : GS s) {x y z w : Int32} (k0 : (¬ ((0 : Int32) ≤ x ∧ x ≤ (nI (nb s)) - 1)) → am_WP (am_psh g (some (.inl ((-1000000001)))) :: gs) (d + 6) (mk I X) Q) (k1 : ((0 : Int32) ≤ x ∧ x ≤ (nI (nb s)) - 1) → (¬ ((1 : Int32) ≤ y ∧ y ≤ 6)) → am_WP (am_psh g (some (.inl ((-1000000001)))) :: gs) (d + 6) (mk I X) Q) (k2 : ((0 : Int32) ≤ x ∧ x ≤ (nI (nb s)) - 1) → ((1 : Int32) ≤ y ∧ y ≤ 6) → (¬ ((0 : Int32) ≤ z ∧ z ≤ 999)) → am_WP (am_psh g (some (.inl ((-1000000001)))) :: gs) (d + 6) (mk I X) Q) (k3 : ((0 : Int32) ≤ x ∧ x ≤ (nI (nb s)) - 1) → ((1 : Int32) ≤ y ∧ y ≤ 6) → ((0 : Int32) ≤ z ∧ z ≤ 999) → (¬ ((0 : Int32) ≤ w ∧ w ≤ 1)) → am_WP (am_psh g (some (.inl ((-1000000001)))) :: gs) (d + 6) (mk I X) Q) (k4 : ((0 : Int32) ≤ x ∧ x ≤ (nI (nb s)) - 1) → ((1 : Int32) ≤ y ∧ y ≤ 6) → ((0 : Int32) ≤ z ∧ z ≤ 999) → ((0 : Int32) ≤ w ∧ w ≤ 1) → (((bo s (kx x)).1 3) = 0) → am_WP (am_psh g (some (.inl ((-1000000005)))) :: gs) (d + 6) (mk I X) Q) (k5 : ((0 : Int32) ≤ x ∧ x ≤ (nI (nb s)) - 1) → ((1 : Int32) ≤ y ∧ y ≤ 6) → ((0 : Int32) ≤ z ∧ z ≤ 999) → ((0 : Int32) ≤ w ∧ w ≤ 1) → (¬ (((bo s (kx x)).1 3) = 0)) → ∀ (I1 : Im), (FrN I I1 ∧ NkR I1 (strN s.1.2.1 s.1.2.2 (bo s (kx x))) (gfN (bo s (kx x))) ((bo s (kx x)).1 3) ∧ NkC I1) → ∀ (I2 : Im), (Tr I1 (thinkN (strN s.1.2.1 s.1.2.2 (bo s (kx x))) (gfN (bo s (kx x))) ((bo s (kx x)).1 3) (kx y) (kx z)) I2) → (w = 0) → am_WP (am_psh g (some (.inl ((nI (thinkN (strN s.1.2.1 s.1.2.2 (bo s (kx x))) (gfN (bo s (kx x))) ((bo s (kx x)).1 3) (kx y) (kx z)).1)))) :: gs) (d + 6) (mk I2 X) Q) (k6 : ((0 : Int32) ≤ x ∧ x ≤ (nI (nb s)) - 1) → ((1 : Int32) ≤ y ∧ y ≤ 6) → ((0 : Int32) ≤ z ∧ z ≤ 999) → ((0 : Int32) ≤ w ∧ w ≤ 1) → (¬ (((bo s (kx x)).1 3) = 0)) → ∀ (I1 : Im), (FrN I I1 ∧ NkR I1 (strN s.1.2.1 s.1.2.2 (bo s (kx x))) (gfN (bo s (kx x))) ((bo s (kx x)).1 3) ∧ NkC I1) → ∀ (I2 : Im), (Tr I1 (thinkN (strN s.1.2.1 s.1.2.2 (bo s (kx x))) (gfN (bo s (kx x))) ((bo s (kx x)).1 3) (kx y) (kx z)) I2) → (¬ w = 0) → am_WP (am_psh g (some (.inl ((nI (thinkN (strN s.1.2.1 s.1.2.2 (bo s (kx x))) (gfN (bo s (kx x))) ((bo s (kx x)).1 3) (kx y) (kx z)).2)))) :: gs) (d + 6) (mk I2 X) Q) : am_WP (am_entry mX7_tried [.inr (.inr (some (7, 0))), .inl (x), .inl (y), .inl (z), .inl (w)] :: g :: gs) (d + 5) (mk I X) Q := by
  have hn8 : nb s ≤ 8 := G.1.1.1
  refine am_go 400 ?_
  have tk0 : I 1 0 3 = nI (nb s) := h.1.1.1
  refine (c_X7_isBottle (x := x)) _ _ _ ?_
  refine am_go 400 ?_
  refine am_if (fun h1 => ?_) (fun h1 => ?_)
  · have h1 := bI_0.mp h1
    have h1 : ¬ ((0 : Int32) ≤ x ∧ x ≤ (I 1 0 3) - 1) := h1
    try rw [tk0] at h1
    exact k0 h1
  · have h1 := bI_1.mp h1
    have h1 : (0 : Int32) ≤ x ∧ x ≤ (I 1 0 3) - 1 := h1
    try rw [tk0] at h1
    obtain ⟨e_x, l_x⟩ := okb rfl hn8 h1
    obtain ⟨g0_x, g1_x, g2_x, g3_x, g5_x, gs_x⟩ := id (GS_b G l_x)
    refine (c_X7_within (y) (1) (6)) _ _ _ ?_
    refine am_go 400 ?_
    refine am_if (fun h2 => ?_) (fun h2 => ?_)
    · have h2 := bI_0.mp h2
      exact k1 h1 h2
    · have h2 := bI_1.mp h2
      obtain ⟨e_y, l_y⟩ := okr (lo := 1) (m := 6) (by decide) (by decide) h2
      refine (c_X7_within (z) (0) (999)) _ _ _ ?_
      refine am_go 400 ?_
      refine am_if (fun h3 => ?_) (fun h3 => ?_)
      · have h3 := bI_0.mp h3
        exact k2 h1 h2 h3
      · have h3 := bI_1.mp h3
        obtain ⟨e_z, l_z⟩ := okl (m := 999) (by decide) h3
        refine (c_X7_within (w) (0) (1)) _ _ _ ?_
        refine am_go 400 ?_
        refine am_if (fun h4 => ?_) (fun h4 => ?_)
        · have h4 := bI_0.mp h4
          exact k3 h1 h2 h3 h4
        · have h4 := bI_1.mp h4
          refine am_f (ix_in (n := (kx x)) (N := 8) e_x (by omega) (by decide)) ?_
          have tk1 : (x).toNatClampNeg = (kx x) := ix_cl (n := (kx x)) e_x (by omega)
          have bd : ((bo s (kx x)).1 3) ≤ 6 := (GS_b G (k := kx x) (by omega)).2.2.2.1
          have tk2 : I 0 (((x).toNatClampNeg)) 5 = nI ((bo s (kx x)).1 3) := by first | exact vC0 (j := 3) h (by omega) (by omega) | (((try rw [tk1])); first | done | exact vC0 (j := 3) h (by omega) (by omega))
          refine am_if (fun h5 => ?_) (fun h5 => ?_)
          · have nh5 := (eq_nat (a := ((bo s (kx x)).1 3)) (b := 0) tk2 (rfl : (0 : Int32) = nI 0) (by omega) (by omega)).mp h5
            exact k4 h1 h2 h3 h4 nh5
          · have nh5 := mt (eq_nat (a := ((bo s (kx x)).1 3)) (b := 0) tk2 (rfl : (0 : Int32) = nI 0) (by omega) (by omega)).mpr h5
            refine (c_X2_look (I := I) (c := 0) (b := kx x) (show ((x).toNatClampNeg) = ((kx x)) by (try rw [tk1]); first | done | rfl) (bC h (k := kx x) (by omega)) (GS_b G (k := kx x) (by omega)) h.1.2 G.1.2.2.1 G.1.2.2.2 h.2.2.2.2.2.2.1) _ _ _ ?_
            intro I1 p1
            refine am_go 400 ?_
            have bd : ((bo s (kx x)).1 3) ≤ 6 := (GS_b G (k := kx x) (by omega)).2.2.2.1
            have tk3 : I1 0 (((x).toNatClampNeg)) 5 = nI ((bo s (kx x)).1 3) := by first | exact ((congrFun (congrFun (p1.1 0 (by decide)) _) _).trans (vC0 (j := 3) h (by omega) (by omega))) | (((try rw [tk1])); first | done | exact ((congrFun (congrFun (p1.1 0 (by decide)) _) _).trans (vC0 (j := 3) h (by omega) (by omega))))
            refine (c_X2_think (I := I1) (L := (bo s (kx x)).1 3) p1.2.1 (fun l hl => strN_le (GS_b G (k := kx x) (by omega)) hl) (gfN_le (GS_b G (k := kx x) (by omega))) tk3 e_y e_z (by omega) (by omega) (by omega) (by omega) (by omega) (by omega)) _ _ _ ?_
            intro I2 p2
            refine am_go 400 ?_
            refine am_if (fun h6 => ?_) (fun h6 => ?_)
            · have bd : (thinkN (strN s.1.2.1 s.1.2.2 (bo s (kx x))) (gfN (bo s (kx x))) ((bo s (kx x)).1 3) (kx y) (kx z)).1 ≤ ((bo s (kx x)).1 3) := (thinkN_le (st := strN s.1.2.1 s.1.2.2 (bo s (kx x))) (gf := gfN (bo s (kx x))) (left := ((bo s (kx x)).1 3)) (dp := (kx y)) (fo := (kx z)) (by omega) (by omega) (by omega)).1
              have tk4 : I2 2 0 5 = nI (thinkN (strN s.1.2.1 s.1.2.2 (bo s (kx x))) (gfN (bo s (kx x))) ((bo s (kx x)).1 3) (kx y) (kx z)).1 := p2.2.1
              show am_WP (am_psh g (some (.inl ((I2 2 0 5)))) :: gs) (d + 6) (mk I2 X) Q
              try rw [tk4]
              exact k5 h1 h2 h3 h4 nh5 I1 p1 I2 p2 h6
            · have bd : (thinkN (strN s.1.2.1 s.1.2.2 (bo s (kx x))) (gfN (bo s (kx x))) ((bo s (kx x)).1 3) (kx y) (kx z)).2 ≤ 18 := (thinkN_le (st := strN s.1.2.1 s.1.2.2 (bo s (kx x))) (gf := gfN (bo s (kx x))) (left := ((bo s (kx x)).1 3)) (dp := (kx y)) (fo := (kx z)) (by omega) (by omega) (by omega)).2
              have tk5 : I2 2 0 6 = nI (thinkN (strN s.1.2.1 s.1.2.2 (bo s (kx x))) (gfN (bo s (kx x))) ((bo s (kx x)).1 3) (kx y) (kx z)).2 := p2.2.2
              show am_WP (am_psh g (some (.inl ((I2 2 0 6)))) :: gs) (d + 6) (mk I2 X) Q
              try rw [tk5]
              exact k6 h1 h2 h3 h4 nh5 I1 p1 I2 p2 h6
theorem p_X7_tried {I X d s} (h : RC I X s) (G : GS s) (x y z w : Int32) : Sp mX7_tried [.inr (.inr (some (7, 0))), .inl (x), .inl (y), .inl (z), .inl (w)] (d + 5) I X (OC I X (f_tried s x y z w)) := fun g gs Q K => by
  have hn8 : nb s ≤ 8 := G.1.1.1
  have g8 : G8 s := G8_ G
  refine w_X7_tried h G  ?_ ?_ ?_ ?_ ?_ ?_ ?_
  · intro h0
    apply K_s K
    unfold f_tried
    rw [if_neg h0]
    exact ⟨rfl, h, FrC_r⟩
  · intro h0 h1
    obtain ⟨e_x, l_x⟩ := okb rfl hn8 h0
    obtain ⟨g0_x, g1_x, g2_x, g3_x, g5_x, gs_x⟩ := id (GS_b G l_x)
    apply K_s K
    unfold f_tried
    rw [if_pos h0, if_neg h1]
    exact ⟨rfl, h, FrC_r⟩
  · intro h0 h1 h2
    obtain ⟨e_x, l_x⟩ := okb rfl hn8 h0
    obtain ⟨g0_x, g1_x, g2_x, g3_x, g5_x, gs_x⟩ := id (GS_b G l_x)
    obtain ⟨e_y, l_y⟩ := okr (lo := 1) (m := 6) (by decide) (by decide) h1
    apply K_s K
    unfold f_tried
    rw [if_pos h0, if_pos h1, if_neg h2]
    exact ⟨rfl, h, FrC_r⟩
  · intro h0 h1 h2 h3
    obtain ⟨e_x, l_x⟩ := okb rfl hn8 h0
    obtain ⟨g0_x, g1_x, g2_x, g3_x, g5_x, gs_x⟩ := id (GS_b G l_x)
    obtain ⟨e_y, l_y⟩ := okr (lo := 1) (m := 6) (by decide) (by decide) h1
    obtain ⟨e_z, l_z⟩ := okl (m := 999) (by decide) h2
    apply K_s K
    unfold f_tried
    rw [if_pos h0, if_pos h1, if_pos h2, if_neg h3]
    exact ⟨rfl, h, FrC_r⟩
  · intro h0 h1 h2 h3 h4
    obtain ⟨e_x, l_x⟩ := okb rfl hn8 h0
    obtain ⟨g0_x, g1_x, g2_x, g3_x, g5_x, gs_x⟩ := id (GS_b G l_x)
    obtain ⟨e_y, l_y⟩ := okr (lo := 1) (m := 6) (by decide) (by decide) h1
    obtain ⟨e_z, l_z⟩ := okl (m := 999) (by decide) h2
    apply K_s K
    unfold f_tried
    rw [if_pos h0, if_pos h1, if_pos h2, if_pos h3, if_pos h4]
    exact ⟨rfl, h, FrC_r⟩
  · intro h0 h1 h2 h3 h4 I1 p1 I2 p2 h7
    obtain ⟨e_x, l_x⟩ := okb rfl hn8 h0
    obtain ⟨g0_x, g1_x, g2_x, g3_x, g5_x, gs_x⟩ := id (GS_b G l_x)
    obtain ⟨e_y, l_y⟩ := okr (lo := 1) (m := 6) (by decide) (by decide) h1
    obtain ⟨e_z, l_z⟩ := okl (m := 999) (by decide) h2
    have hR2 : RC I2 X s := RC_N h (Tf_N p1.1 p2.1) (NkC_T p1.2.2 p2.1)
    have F2 : FrC I X I2 X := FrC_N (Tf_N p1.1 p2.1)
    apply K_s K
    unfold f_tried
    rw [if_pos h0, if_pos h1, if_pos h2, if_pos h3, if_neg h4, if_pos h7]
    exact ⟨rfl, hR2, F2⟩
  · intro h0 h1 h2 h3 h4 I1 p1 I2 p2 h7
    obtain ⟨e_x, l_x⟩ := okb rfl hn8 h0
    obtain ⟨g0_x, g1_x, g2_x, g3_x, g5_x, gs_x⟩ := id (GS_b G l_x)
    obtain ⟨e_y, l_y⟩ := okr (lo := 1) (m := 6) (by decide) (by decide) h1
    obtain ⟨e_z, l_z⟩ := okl (m := 999) (by decide) h2
    have hR2 : RC I2 X s := RC_N h (Tf_N p1.1 p2.1) (NkC_T p1.2.2 p2.1)
    have F2 : FrC I X I2 X := FrC_N (Tf_N p1.1 p2.1)
    apply K_s K
    unfold f_tried
    rw [if_pos h0, if_pos h1, if_pos h2, if_pos h3, if_neg h4, if_neg h7]
    exact ⟨rfl, hR2, F2⟩

set_option maxRecDepth 100000 in
set_option maxHeartbeats 4000000 in
theorem w_X8_tried {I : Nat → Nat → Nat → Int32} {X : am_Z} {g : am_F} {gs : List am_F} {d : Nat} {Q : Option am_V → am_M → Prop} {s : St} (h : RM I s) (G : GS s) {x y z w : Int32} (k0 : (¬ ((0 : Int32) ≤ x ∧ x ≤ (nI (nb s)) - 1)) → am_WP (am_psh g (some (.inl ((-1000000001)))) :: gs) (d + 5) (mk I X) Q) (k1 : ((0 : Int32) ≤ x ∧ x ≤ (nI (nb s)) - 1) → (¬ ((1 : Int32) ≤ y ∧ y ≤ 6)) → am_WP (am_psh g (some (.inl ((-1000000001)))) :: gs) (d + 5) (mk I X) Q) (k2 : ((0 : Int32) ≤ x ∧ x ≤ (nI (nb s)) - 1) → ((1 : Int32) ≤ y ∧ y ≤ 6) → (¬ ((0 : Int32) ≤ z ∧ z ≤ 999)) → am_WP (am_psh g (some (.inl ((-1000000001)))) :: gs) (d + 5) (mk I X) Q) (k3 : ((0 : Int32) ≤ x ∧ x ≤ (nI (nb s)) - 1) → ((1 : Int32) ≤ y ∧ y ≤ 6) → ((0 : Int32) ≤ z ∧ z ≤ 999) → (¬ ((0 : Int32) ≤ w ∧ w ≤ 1)) → am_WP (am_psh g (some (.inl ((-1000000001)))) :: gs) (d + 5) (mk I X) Q) (k4 : ((0 : Int32) ≤ x ∧ x ≤ (nI (nb s)) - 1) → ((1 : Int32) ≤ y ∧ y ≤ 6) → ((0 : Int32) ≤ z ∧ z ≤ 999) → ((0 : Int32) ≤ w ∧ w ≤ 1) → (((bo s (kx x)).1 3) = 0) → am_WP (am_psh g (some (.inl ((-1000000005)))) :: gs) (d + 5) (mk I X) Q) (k5 : ((0 : Int32) ≤ x ∧ x ≤ (nI (nb s)) - 1) → ((1 : Int32) ≤ y ∧ y ≤ 6) → ((0 : Int32) ≤ z ∧ z ≤ 999) → ((0 : Int32) ≤ w ∧ w ≤ 1) → (¬ (((bo s (kx x)).1 3) = 0)) → ∀ (I1 : Im), (Ts I (thinkN (strN s.1.2.1 s.1.2.2 (bo s (kx x))) (gfN (bo s (kx x))) ((bo s (kx x)).1 3) (kx y) (kx z)) I1) → (w = 0) → am_WP (am_psh g (some (.inl ((nI (thinkN (strN s.1.2.1 s.1.2.2 (bo s (kx x))) (gfN (bo s (kx x))) ((bo s (kx x)).1 3) (kx y) (kx z)).1)))) :: gs) (d + 5) (mk I1 X) Q) (k6 : ((0 : Int32) ≤ x ∧ x ≤ (nI (nb s)) - 1) → ((1 : Int32) ≤ y ∧ y ≤ 6) → ((0 : Int32) ≤ z ∧ z ≤ 999) → ((0 : Int32) ≤ w ∧ w ≤ 1) → (¬ (((bo s (kx x)).1 3) = 0)) → ∀ (I1 : Im), (Ts I (thinkN (strN s.1.2.1 s.1.2.2 (bo s (kx x))) (gfN (bo s (kx x))) ((bo s (kx x)).1 3) (kx y) (kx z)) I1) → (¬ w = 0) → am_WP (am_psh g (some (.inl ((nI (thinkN (strN s.1.2.1 s.1.2.2 (bo s (kx x))) (gfN (bo s (kx x))) ((bo s (kx x)).1 3) (kx y) (kx z)).2)))) :: gs) (d + 5) (mk I1 X) Q) : am_WP (am_entry mX8_tried [.inr (.inr (some (8, 0))), .inl (x), .inl (y), .inl (z), .inl (w)] :: g :: gs) (d + 4) (mk I X) Q := by
  have hn8 : nb s ≤ 8 := G.1.1.1
  refine am_go 400 ?_
  have tk0 : I 30 0 0 = nI (nb s) := h.1.1.1
  refine (c_X8_isBottle (x := x)) _ _ _ ?_
  refine am_go 400 ?_
  refine am_if (fun h1 => ?_) (fun h1 => ?_)
  · have h1 := bI_0.mp h1
    have h1 : ¬ ((0 : Int32) ≤ x ∧ x ≤ (I 30 0 0) - 1) := h1
    try rw [tk0] at h1
    exact k0 h1
  · have h1 := bI_1.mp h1
    have h1 : (0 : Int32) ≤ x ∧ x ≤ (I 30 0 0) - 1 := h1
    try rw [tk0] at h1
    obtain ⟨e_x, l_x⟩ := okb rfl hn8 h1
    obtain ⟨g0_x, g1_x, g2_x, g3_x, g5_x, gs_x⟩ := id (GS_b G l_x)
    refine (m_isIn (y) (1) (6) _ _) _ _ _ ?_
    refine am_go 400 ?_
    refine am_if (fun h2 => ?_) (fun h2 => ?_)
    · have h2 := bI_0.mp h2
      exact k1 h1 h2
    · have h2 := bI_1.mp h2
      obtain ⟨e_y, l_y⟩ := okr (lo := 1) (m := 6) (by decide) (by decide) h2
      refine (c_X8_isForce (x := z)) _ _ _ ?_
      refine am_go 400 ?_
      refine am_if (fun h3 => ?_) (fun h3 => ?_)
      · have h3 := bI_0.mp h3
        exact k2 h1 h2 h3
      · have h3 := bI_1.mp h3
        obtain ⟨e_z, l_z⟩ := okl (m := 999) (by decide) h3
        refine (m_isIn (w) (0) (1) _ _) _ _ _ ?_
        refine am_go 400 ?_
        refine am_if (fun h4 => ?_) (fun h4 => ?_)
        · have h4 := bI_0.mp h4
          exact k3 h1 h2 h3 h4
        · have h4 := bI_1.mp h4
          have bd : ((bo s (kx x)).1 3) ≤ 6 := (GS_b G (k := kx x) (by omega)).2.2.2.1
          have tk1 : I 30 0 (6 + 18 * (kx x) + 3) = nI ((bo s (kx x)).1 3) := vM0 (k := kx x) (j := 3) h (by omega) (by omega)
          refine (c8_of (k := (kx x)) (j := 3) e_x rfl (by omega)) _ _ _ ?_
          refine am_go 400 ?_
          refine am_if (fun h5 => ?_) (fun h5 => ?_)
          · have nh5 := (eq_nat (a := ((bo s (kx x)).1 3)) (b := 0) tk1 (rfl : (0 : Int32) = nI 0) (by omega) (by omega)).mp h5
            exact k4 h1 h2 h3 h4 nh5
          · have nh5 := mt (eq_nat (a := ((bo s (kx x)).1 3)) (b := 0) tk1 (rfl : (0 : Int32) = nI 0) (by omega) (by omega)).mpr h5
            have bd : ((bo s (kx x)).1 3) ≤ 6 := (GS_b G (k := kx x) (by omega)).2.2.2.1
            refine (c8_of (k := (kx x)) (j := 3) e_x rfl (by omega)) _ _ _ ?_
            refine am_go 400 ?_
            refine (c_X8_thinksPull (I := I) (b := (kx x)) (a := ((bo s (kx x)).1 3)) (dp := (kx y)) (fo := (kx z)) (⟨bM h (k := kx x) (by omega), h.1.2⟩ : CxM I (kx x) s.1.2.1 s.1.2.2 (bo s (kx x))) (GS_b G (k := kx x) (by omega)) G.1.2.2.1 G.1.2.2.2 e_x (by omega) tk1 e_y e_z (by omega) (by omega) (by omega) (by omega) (by omega)) _ _ _ ?_
            intro I1 p1
            refine am_go 400 ?_
            refine am_if (fun h6 => ?_) (fun h6 => ?_)
            · have bd : (thinkN (strN s.1.2.1 s.1.2.2 (bo s (kx x))) (gfN (bo s (kx x))) ((bo s (kx x)).1 3) (kx y) (kx z)).1 ≤ ((bo s (kx x)).1 3) := (thinkN_le (st := strN s.1.2.1 s.1.2.2 (bo s (kx x))) (gf := gfN (bo s (kx x))) (left := ((bo s (kx x)).1 3)) (dp := (kx y)) (fo := (kx z)) (by omega) (by omega) (by omega)).1
              have tk2 : I1 8 0 12 = nI (thinkN (strN s.1.2.1 s.1.2.2 (bo s (kx x))) (gfN (bo s (kx x))) ((bo s (kx x)).1 3) (kx y) (kx z)).1 := p1.2.1
              show am_WP (am_psh g (some (.inl ((I1 8 0 12)))) :: gs) (d + 5) (mk I1 X) Q
              try rw [tk2]
              exact k5 h1 h2 h3 h4 nh5 I1 p1 h6
            · have bd : (thinkN (strN s.1.2.1 s.1.2.2 (bo s (kx x))) (gfN (bo s (kx x))) ((bo s (kx x)).1 3) (kx y) (kx z)).2 ≤ 18 := (thinkN_le (st := strN s.1.2.1 s.1.2.2 (bo s (kx x))) (gf := gfN (bo s (kx x))) (left := ((bo s (kx x)).1 3)) (dp := (kx y)) (fo := (kx z)) (by omega) (by omega) (by omega)).2
              have tk3 : I1 8 0 13 = nI (thinkN (strN s.1.2.1 s.1.2.2 (bo s (kx x))) (gfN (bo s (kx x))) ((bo s (kx x)).1 3) (kx y) (kx z)).2 := p1.2.2
              show am_WP (am_psh g (some (.inl ((I1 8 0 13)))) :: gs) (d + 5) (mk I1 X) Q
              try rw [tk3]
              exact k6 h1 h2 h3 h4 nh5 I1 p1 h6
theorem p_X8_tried {I X d s} (h : RM I s) (G : GS s) (x y z w : Int32) : Sp mX8_tried [.inr (.inr (some (8, 0))), .inl (x), .inl (y), .inl (z), .inl (w)] (d + 4) I X (OM I X (f_tried s x y z w)) := fun g gs Q K => by
  have hn8 : nb s ≤ 8 := G.1.1.1
  have g8 : G8 s := G8_ G
  refine w_X8_tried h G  ?_ ?_ ?_ ?_ ?_ ?_ ?_
  · intro h0
    apply K_s K
    unfold f_tried
    rw [if_neg h0]
    exact ⟨rfl, h, FrM_r, rfl⟩
  · intro h0 h1
    obtain ⟨e_x, l_x⟩ := okb rfl hn8 h0
    obtain ⟨g0_x, g1_x, g2_x, g3_x, g5_x, gs_x⟩ := id (GS_b G l_x)
    apply K_s K
    unfold f_tried
    rw [if_pos h0, if_neg h1]
    exact ⟨rfl, h, FrM_r, rfl⟩
  · intro h0 h1 h2
    obtain ⟨e_x, l_x⟩ := okb rfl hn8 h0
    obtain ⟨g0_x, g1_x, g2_x, g3_x, g5_x, gs_x⟩ := id (GS_b G l_x)
    obtain ⟨e_y, l_y⟩ := okr (lo := 1) (m := 6) (by decide) (by decide) h1
    apply K_s K
    unfold f_tried
    rw [if_pos h0, if_pos h1, if_neg h2]
    exact ⟨rfl, h, FrM_r, rfl⟩
  · intro h0 h1 h2 h3
    obtain ⟨e_x, l_x⟩ := okb rfl hn8 h0
    obtain ⟨g0_x, g1_x, g2_x, g3_x, g5_x, gs_x⟩ := id (GS_b G l_x)
    obtain ⟨e_y, l_y⟩ := okr (lo := 1) (m := 6) (by decide) (by decide) h1
    obtain ⟨e_z, l_z⟩ := okl (m := 999) (by decide) h2
    apply K_s K
    unfold f_tried
    rw [if_pos h0, if_pos h1, if_pos h2, if_neg h3]
    exact ⟨rfl, h, FrM_r, rfl⟩
  · intro h0 h1 h2 h3 h4
    obtain ⟨e_x, l_x⟩ := okb rfl hn8 h0
    obtain ⟨g0_x, g1_x, g2_x, g3_x, g5_x, gs_x⟩ := id (GS_b G l_x)
    obtain ⟨e_y, l_y⟩ := okr (lo := 1) (m := 6) (by decide) (by decide) h1
    obtain ⟨e_z, l_z⟩ := okl (m := 999) (by decide) h2
    apply K_s K
    unfold f_tried
    rw [if_pos h0, if_pos h1, if_pos h2, if_pos h3, if_pos h4]
    exact ⟨rfl, h, FrM_r, rfl⟩
  · intro h0 h1 h2 h3 h4 I1 p1 h6
    obtain ⟨e_x, l_x⟩ := okb rfl hn8 h0
    obtain ⟨g0_x, g1_x, g2_x, g3_x, g5_x, gs_x⟩ := id (GS_b G l_x)
    obtain ⟨e_y, l_y⟩ := okr (lo := 1) (m := 6) (by decide) (by decide) h1
    obtain ⟨e_z, l_z⟩ := okl (m := 999) (by decide) h2
    apply K_s K
    unfold f_tried
    rw [if_pos h0, if_pos h1, if_pos h2, if_pos h3, if_neg h4, if_pos h6]
    exact ⟨rfl, RM_T h p1.1, FrM_T p1.1, rfl⟩
  · intro h0 h1 h2 h3 h4 I1 p1 h6
    obtain ⟨e_x, l_x⟩ := okb rfl hn8 h0
    obtain ⟨g0_x, g1_x, g2_x, g3_x, g5_x, gs_x⟩ := id (GS_b G l_x)
    obtain ⟨e_y, l_y⟩ := okr (lo := 1) (m := 6) (by decide) (by decide) h1
    obtain ⟨e_z, l_z⟩ := okl (m := 999) (by decide) h2
    apply K_s K
    unfold f_tried
    rw [if_pos h0, if_pos h1, if_pos h2, if_pos h3, if_neg h4, if_neg h6]
    exact ⟨rfl, RM_T h p1.1, FrM_T p1.1, rfl⟩

