/-! THE TREE, the model -/
def Dg (n : Nat) (I0 I : Im) : Prop := (∀ j, j ≠ 12 → j ≠ 13 → I 8 0 j = I0 8 0 j) ∧ (∀ g, g ≠ 8 → g ≠ 41 → g ≠ 42 → g ≠ 45 → g ≠ 46 → I g = I0 g) ∧ ∀ j, j ≠ n → I 41 0 j = I0 41 0 j ∧ I 42 0 j = I0 42 0 j
def Gf (I0 I : Im) : Prop := (∀ j, j ≠ 12 → j ≠ 13 → I 8 0 j = I0 8 0 j) ∧ ∀ g, g ≠ 8 → g ≠ 41 → g ≠ 42 → g ≠ 45 → g ≠ 46 → I g = I0 g
theorem Dg_T {n I0 I I'} (h : Dg n I0 I) (T : Tg I I') : Dg n I0 I' := ⟨fun j a b => (T.1 j a b).trans (h.1 j a b), fun g a b c e f => (T.2 g a e f).trans (h.2.1 g a b c e f), fun j hj => by rw [T.2 41 (by decide) (by decide) (by decide), T.2 42 (by decide) (by decide) (by decide)]; exact h.2.2 j hj⟩
theorem Dg_3 {n I0 I v w} (h : Dg n I0 I) : Dg n I0 (up3 (up3 I 41 0 n v) 42 0 n w) := ⟨fun j a b => h.1 j a b, fun g a b c e f => by rw [up3_g c, up3_g b]; exact h.2.1 g a b c e f, fun j hj => ⟨(show up3 I 41 0 n v 41 0 j = _ from up3_j hj).trans (h.2.2 j hj).1, (show up3 (up3 I 41 0 n v) 42 0 n w 42 0 j = _ from up3_j hj).trans (h.2.2 j hj).2⟩⟩
theorem Dg_1 {n I0 v} : Dg n I0 (up3 I0 41 0 n v) := ⟨fun _ _ _ => rfl, fun g a b c e f => up3_g b, fun j hj => ⟨(show up3 I0 41 0 n v 41 0 j = _ from up3_j hj), rfl⟩⟩
theorem CxM_D {n I I' b nt tx β} (h : CxM I b nt tx β) (T : Dg n I I') : CxM I' b nt tx β := CxM_g h (T.2.1 30 (by decide) (by decide) (by decide) (by decide) (by decide))
theorem CxM_G {I I' b nt tx β} (h : CxM I b nt tx β) (T : Gf I I') : CxM I' b nt tx β := CxM_g h (T.2 30 (by decide) (by decide) (by decide) (by decide) (by decide))
theorem Gf_D {n I0 I I'} (h : Gf I0 I) (D : Dg n I I') : Gf I0 I' := ⟨fun j a b => (D.1 j a b).trans (h.1 j a b), fun g a b c e f => (D.2.1 g a b c e f).trans (h.2 g a b c e f)⟩
theorem Gf_r {I} : Gf I I := ⟨fun _ _ _ => rfl, fun _ _ _ _ _ _ => rfl⟩
theorem gfN_mono (β : Bn) : ∀ (n j : Nat), j + n ≤ 6 → gfN β (j + n) ≤ gfN β j
  | 0, _, _ => Nat.le_refl _
  | n + 1, j, h => by
    have a := gfN_mono β n (j + 1) (by omega)
    rw [show j + 1 + n = j + (n + 1) by omega] at a
    have b := gfN_s β (j := j) (by omega)
    omega
theorem gfN_m6 {β : Bn} {L : Nat} (hL : L ≤ 6) : ∀ k, k ≤ L → gfN β (6 - k) ≤ gfN β (6 - L) := fun k hk => by
  have := gfN_mono β (L - k) (6 - L) (by omega)
  rw [show 6 - L + (L - k) = 6 - k by omega] at this
  exact this
theorem cE_X8_holds {I X d} {x : Int32} {k : Nat} {β : Bn} (h : RB (mB (I 30 0) k) β) (hg : GB β) (hx : x = nI k) (hk : k < 8) : Rt mX8_holds [.inr (.inr (some (8, 0))), .inl x] (d + 3) (mk I X) (some (.inl (nI (gfN β (6 - β.1 3))))) (mk I X) := c_X8_holds h hg hx hk
theorem RM_G {I I' s} (h : RM I s) (T : Gf I I') : RM I' s := RM_g h (fun g hg => T.2 g (fun e => hg (by omega)) (fun e => hg (by omega)) (fun e => hg (by omega)) (fun e => hg (by omega)) (fun e => hg (by omega))) ⟨T.1 3 (by decide) (by decide), T.1 18 (by decide) (by decide), T.1 33 (by decide) (by decide)⟩
theorem FrM_G {I I'} (T : Gf I I') : FrM I I' := fun g hg => T.2 g (fun e => by subst e; cases hg) (fun e => by subst e; cases hg) (fun e => by subst e; cases hg) (fun e => by subst e; cases hg) (fun e => by subst e; cases hg)
set_option maxRecDepth 100000 in
set_option maxHeartbeats 4000000 in
theorem w_X8_grows {I : Nat → Nat → Nat → Int32} {X : am_Z} {g : am_F} {gs : List am_F} {d : Nat} {Q : Option am_V → am_M → Prop} {b nt : Nat} {tx : Nat → Tx} {β : Bn} {fo : Nat} {v z : Int32} (hC : CxM I b nt tx β) (hg : GB β) (hn : nt ≤ 14) (hG : ∀ t, t < nt → GT (tx t)) (hv : v = nI b) (hb : b < 8) (hz : z = nI fo) (hfo : fo ≤ 999)  (k0 : ((β.1 3) ≤ 0) → am_WP ((mX8_grows, 39, [some (.inr (.inr (some (8, 0)))), some (.inl (v)), some (.inl (z)), some (.inl ((nI (β.1 3)))), some (.inl (1)), none, none, none], []) :: g :: gs) (d + 4) (mk (up3 (up3 I 41 0 (0) (0)) 42 0 (0) (0)) X) Q) (k1 : (¬ ((β.1 3) ≤ 0)) → ((gfN β (6 - β.1 3)) ≤ fo) → am_WP ((mX8_grows, 39, [some (.inr (.inr (some (8, 0)))), some (.inl (v)), some (.inl (z)), some (.inl ((nI (β.1 3)))), some (.inl (1)), none, none, none], []) :: g :: gs) (d + 4) (mk (up3 (up3 I 41 0 (0) (0)) 42 0 (0) (0)) X) Q) (k2 : (¬ ((β.1 3) ≤ 0)) → (¬ ((gfN β (6 - β.1 3)) ≤ fo)) → am_WP (am_psh g (some (.inl (0))) :: gs) (d + 5) (mk I X) Q) : am_WP (am_entry mX8_grows [.inr (.inr (some (8, 0))), .inl (v), .inl (z)] :: g :: gs) (d + 4) (mk I X) Q := by
  refine am_go 400 ?_
  have bd : (β.1 3) ≤ 6 := hg.2.2.2.1
  have tk0 : I 30 0 (6 + 18 * b + 3) = nI (β.1 3) := (hC.1 3 (by omega)).1
  refine (c8_of (k := b) (j := 3) hv rfl (by omega)) _ _ _ ?_
  refine am_go 400 ?_
  refine am_if (fun h1 => ?_) (fun h1 => ?_)
  · have nh1 := (le_nat (a := (β.1 3)) (b := 0) tk0 (rfl : (0 : Int32) = nI 0) (by omega) (by omega)).mp h1
    refine am_cf rfl ?_
    refine am_cut ?_
    refine am_go 12 ?_
    show am_WP ((mX8_grows, 39, [some (.inr (.inr (some (8, 0)))), some (.inl (v)), some (.inl (z)), some (.inl ((I 30 0 (6 + 18 * b + 3)))), some (.inl (1)), none, none, none], []) :: g :: gs) (d + 4) (mk (up3 (up3 I 41 0 (0) (0)) 42 0 (0) (0)) X) Q
    try rw [tk0]
    exact k0 nh1
  · have nh1 := mt (le_nat (a := (β.1 3)) (b := 0) tk0 (rfl : (0 : Int32) = nI 0) (by omega) (by omega)).mpr h1
    have bd : (gfN β (6 - β.1 3)) ≤ 168 := gfN_le hg _
    refine (cE_X8_holds (k := b) hC.1 hg hv (by omega)) _ _ _ ?_
    refine am_go 400 ?_
    refine am_if (fun h2 => ?_) (fun h2 => ?_)
    · have nh2 := (le_nat (a := (gfN β (6 - β.1 3))) (b := fo) (rfl : (nI (gfN β (6 - β.1 3)) : Int32) = nI (gfN β (6 - β.1 3))) hz (by omega) (by omega)).mp h2
      refine am_cf rfl ?_
      refine am_cut ?_
      refine am_go 12 ?_
      show am_WP ((mX8_grows, 39, [some (.inr (.inr (some (8, 0)))), some (.inl (v)), some (.inl (z)), some (.inl ((I 30 0 (6 + 18 * b + 3)))), some (.inl (1)), none, none, none], []) :: g :: gs) (d + 4) (mk (up3 (up3 I 41 0 (0) (0)) 42 0 (0) (0)) X) Q
      try rw [tk0]
      exact k1 nh1 nh2
    · have nh2 := mt (le_nat (a := (gfN β (6 - β.1 3))) (b := fo) (rfl : (nI (gfN β (6 - β.1 3)) : Int32) = nI (gfN β (6 - β.1 3))) hz (by omega) (by omega)).mpr h2
      exact k2 nh1 nh2
set_option maxRecDepth 100000 in
set_option maxHeartbeats 4000000 in
theorem w_X8_grows_39 {I : Nat → Nat → Nat → Int32} {X : am_Z} {g : am_F} {gs : List am_F} {d : Nat} {Q : Option am_V → am_M → Prop} {L n : Nat} {v z : Int32} (hL : L ≤ 6) (hn : n ≤ L + 1) {y1 y2 y3 : Option am_V}  (k0 : (L < n) → am_WP (am_psh g (some (.inl (1))) :: gs) (d + 5) (mk I X) Q) (k1 : (¬ (L < n)) → am_WP ((mX8_grows, 56, [some (.inr (.inr (some (8, 0)))), some (.inl (v)), some (.inl (z)), some (.inl (nI L)), some (.inl (nI n)), some (.inl (1)), y2, y3], []) :: g :: gs) (d + 4) (mk (up3 I 41 0 (n) ((-1))) X) Q) : am_WP ((mX8_grows, 39, [some (.inr (.inr (some (8, 0)))), some (.inl (v)), some (.inl (z)), some (.inl (nI L)), some (.inl (nI n)), y1, y2, y3], []) :: g :: gs) (d + 4) (mk I X) Q := by
  refine am_go 400 ?_
  refine am_if (fun h1 => ?_) (fun h1 => ?_)
  · have nh1 := (lt_nat (a := L) (b := n) (rfl : (nI L : Int32) = nI L) (rfl : (nI n : Int32) = nI n) (by omega) (by omega)).mp h1
    exact k0 nh1
  · have nh1 := mt (lt_nat (a := L) (b := n) (rfl : (nI L : Int32) = nI L) (rfl : (nI n : Int32) = nI n) (by omega) (by omega)).mpr h1
    refine am_f (ix_in (n := n) (N := 7) (rfl : (nI n : Int32) = nI n) (by omega) (by decide)) ?_
    have tk0 : (nI n).toNatClampNeg = n := ix_cl (n := n) (rfl : (nI n : Int32) = nI n) (by omega)
    refine am_cut ?_
    refine am_go 2 ?_
    show am_WP ((mX8_grows, 56, [some (.inr (.inr (some (8, 0)))), some (.inl (v)), some (.inl (z)), some (.inl (nI L)), some (.inl (nI n)), some (.inl (1)), y2, y3], []) :: g :: gs) (d + 4) (mk (up3 I 41 0 (((nI n).toNatClampNeg)) ((-1))) X) Q
    try rw [tk0]
    exact k1 nh1
set_option maxRecDepth 100000 in
set_option maxHeartbeats 4000000 in
theorem w_gr_1 {I : Nat → Nat → Nat → Int32} {X : am_Z} {g : am_F} {gs : List am_F} {d : Nat} {Q : Option am_V → am_M → Prop} {b nt : Nat} {tx : Nat → Tx} {β : Bn} {fo : Nat} {v z : Int32} (hC : CxM I b nt tx β) (hg : GB β) (hn : nt ≤ 14) (hG : ∀ t, t < nt → GT (tx t)) (hv : v = nI b) (hb : b < 8) (hz : z = nI fo) (hfo : fo ≤ 999) {T : Nat → Nat × Nat} {L n : Nat} (hL : L ≤ 6) (hn6 : n ≤ L) (hn1 : 1 ≤ n) (hgn : gfN β (6 - n) ≤ fo) (hT : ∀ k, k < n → I 41 0 k = nI (T k).1 ∧ I 42 0 k = nI (T k).2) (hB : ∀ k, k < n → (T k).1 ≤ 3 * k ∧ (T k).2 ≤ k) (h41 : I 41 0 n = -1) {y1 y2 : Option am_V} (k0 : ∀ (I1 : Im), (Ts I (thinkN (strN nt tx β) (gfN β) n 1 fo) I1) → am_WP ((mX8_grows, 56, [some (.inr (.inr (some (8, 0)))), some (.inl (v)), some (.inl (z)), some (.inl (nI L)), some (.inl (nI n)), some (.inl (2)), some (.inl ((nI (((thinkN (strN nt tx β) (gfN β) n 1 fo).2) + ((T (n - ((thinkN (strN nt tx β) (gfN β) n 1 fo).1))).1))))), some (.inl ((nI (1 + ((T (n - ((thinkN (strN nt tx β) (gfN β) n 1 fo).1))).2)))))], []) :: g :: gs) (d + 4) (mk (up3 (up3 I1 41 0 (n) ((nI (((thinkN (strN nt tx β) (gfN β) n 1 fo).2) + ((T (n - ((thinkN (strN nt tx β) (gfN β) n 1 fo).1))).1))))) 42 0 (n) ((nI (1 + ((T (n - ((thinkN (strN nt tx β) (gfN β) n 1 fo).1))).2))))) X) Q) : am_WP ((mX8_grows, 56, [some (.inr (.inr (some (8, 0)))), some (.inl (v)), some (.inl (z)), some (.inl (nI L)), some (.inl (nI n)), some (.inl (1)), y1, y2], []) :: g :: gs) (d + 4) (mk I X) Q := by
  refine am_go 400 ?_
  refine am_f (mt (lt_nat (a := n) (b := 1) (rfl : (nI n : Int32) = nI n) (rfl : (1 : Int32) = nI 1) (by omega) (by omega)).mp (by omega)) ?_
  refine (c_X8_thinksPull (I := I) (b := b) (a := n) (dp := 1) (fo := fo) hC hg hn hG hv (by omega) (rfl : (nI n : Int32) = nI n) (rfl : (1 : Int32) = nI 1) hz (by omega) (by omega) (by omega) (by omega) (by omega)) _ _ _ ?_
  intro I1 p1
  have ge := (thinkN_ge (st := strN nt tx β) (gf := gfN β) (left := n) (dp := 1) (fo := fo) (by omega) (by omega) (by omega) hgn).1
  refine am_go 400 ?_
  have bd : (thinkN (strN nt tx β) (gfN β) n 1 fo).2 ≤ 18 := (thinkN_le (st := strN nt tx β) (gf := gfN β) (left := n) (dp := 1) (fo := fo) (by omega) (by omega) (by omega)).2
  have tk0 : I1 8 0 13 = nI (thinkN (strN nt tx β) (gfN β) n 1 fo).2 := p1.2.2
  have bd : (thinkN (strN nt tx β) (gfN β) n 1 fo).1 ≤ n := (thinkN_le (st := strN nt tx β) (gf := gfN β) (left := n) (dp := 1) (fo := fo) (by omega) (by omega) (by omega)).1
  have tk1 : I1 8 0 12 = nI (thinkN (strN nt tx β) (gfN β) n 1 fo).1 := p1.2.1
  refine am_f (ix_in (n := (n - ((thinkN (strN nt tx β) (gfN β) n 1 fo).1))) (N := 7) (nI_subE rfl tk1 (by omega)) (by omega) (by decide)) ?_
  have tk2 : ((nI n - (I1 8 0 12))).toNatClampNeg = (n - ((thinkN (strN nt tx β) (gfN β) n 1 fo).1)) := by first | exact ix_cl (n := (n - ((thinkN (strN nt tx β) (gfN β) n 1 fo).1))) (nI_subE rfl tk1 (by omega)) (by omega) | (((try rw [tk1])); first | done | exact ix_cl (n := (n - ((thinkN (strN nt tx β) (gfN β) n 1 fo).1))) (nI_subE rfl tk1 (by omega)) (by omega))
  have bd : (T (n - ((thinkN (strN nt tx β) (gfN β) n 1 fo).1))).1 ≤ 18 := (by have := hB (n - ((thinkN (strN nt tx β) (gfN β) n 1 fo).1)) (by omega); omega)
  have tk3 : I1 41 0 ((((nI n - (I1 8 0 12))).toNatClampNeg)) = nI (T (n - ((thinkN (strN nt tx β) (gfN β) n 1 fo).1))).1 := by first | exact ((congrFun (congrFun (p1.1.2 41 (by decide) (by decide) (by decide)) _) _).trans ((hT (n - ((thinkN (strN nt tx β) (gfN β) n 1 fo).1)) (by omega)).1)) | (((try rw [tk2]); (try rw [tk1])); first | done | exact ((congrFun (congrFun (p1.1.2 41 (by decide) (by decide) (by decide)) _) _).trans ((hT (n - ((thinkN (strN nt tx β) (gfN β) n 1 fo).1)) (by omega)).1)))
  refine am_f (ix_in (n := (n - ((thinkN (strN nt tx β) (gfN β) n 1 fo).1))) (N := 7) (nI_subE rfl tk1 (by omega)) (by omega) (by decide)) ?_
  have bd : (T (n - ((thinkN (strN nt tx β) (gfN β) n 1 fo).1))).2 ≤ 18 := (by have := hB (n - ((thinkN (strN nt tx β) (gfN β) n 1 fo).1)) (by omega); omega)
  have tk4 : I1 42 0 ((((nI n - (I1 8 0 12))).toNatClampNeg)) = nI (T (n - ((thinkN (strN nt tx β) (gfN β) n 1 fo).1))).2 := by first | exact ((congrFun (congrFun (p1.1.2 42 (by decide) (by decide) (by decide)) _) _).trans ((hT (n - ((thinkN (strN nt tx β) (gfN β) n 1 fo).1)) (by omega)).2)) | (((try rw [tk2]); (try rw [tk1])); first | done | exact ((congrFun (congrFun (p1.1.2 42 (by decide) (by decide) (by decide)) _) _).trans ((hT (n - ((thinkN (strN nt tx β) (gfN β) n 1 fo).1)) (by omega)).2)))
  refine am_f (ix_in (n := n) (N := 7) (rfl : (nI n : Int32) = nI n) (by omega) (by decide)) ?_
  have tk5 : (nI n).toNatClampNeg = n := ix_cl (n := n) (rfl : (nI n : Int32) = nI n) (by omega)
  have tk6 : I1 41 0 (((nI n).toNatClampNeg)) = (-1) := by first | exact ((congrFun (congrFun (p1.1.2 41 (by decide) (by decide) (by decide)) _) _).trans (h41)) | (((try rw [tk5])); first | done | exact ((congrFun (congrFun (p1.1.2 41 (by decide) (by decide) (by decide)) _) _).trans (h41)))
  refine am_t (by show (I1 41 0 (((nI n).toNatClampNeg))) < 0; (try rw [tk6]); (try rw [tk5]); first | done | exact (by decide)) ?_
  refine am_f (ix_in (n := n) (N := 7) (rfl : (nI n : Int32) = nI n) (by omega) (by decide)) ?_
  have tk7 : ((I1 8 0 13) + (I1 41 0 ((((nI n - (I1 8 0 12))).toNatClampNeg)))) = nI (((thinkN (strN nt tx β) (gfN β) n 1 fo).2) + ((T (n - ((thinkN (strN nt tx β) (gfN β) n 1 fo).1))).1)) := by first | exact (nI_addE tk0 tk3) | (((try rw [tk3]); (try rw [tk2]); (try rw [tk1]); (try rw [tk0])); first | done | exact (nI_addE tk0 tk3))
  refine am_f (ix_in (n := n) (N := 7) (rfl : (nI n : Int32) = nI n) (by omega) (by decide)) ?_
  have tk8 : (1 + (I1 42 0 ((((nI n - (I1 8 0 12))).toNatClampNeg)))) = nI (1 + ((T (n - ((thinkN (strN nt tx β) (gfN β) n 1 fo).1))).2)) := by first | exact (nI_addE (rfl : (1 : Int32) = nI 1) tk4) | (((try rw [tk4]); (try rw [tk2]); (try rw [tk1])); first | done | exact (nI_addE (rfl : (1 : Int32) = nI 1) tk4))
  show am_WP ((mX8_grows, 56, [some (.inr (.inr (some (8, 0)))), some (.inl (v)), some (.inl (z)), some (.inl (nI L)), some (.inl (nI n)), some (.inl (2)), some (.inl ((((I1 8 0 13) + (I1 41 0 ((((nI n - (I1 8 0 12))).toNatClampNeg))))))), some (.inl (((1 + (I1 42 0 ((((nI n - (I1 8 0 12))).toNatClampNeg)))))))], []) :: g :: gs) (d + 4) (mk (up3 (up3 I1 41 0 (((nI n).toNatClampNeg)) ((((I1 8 0 13) + (I1 41 0 ((((nI n - (I1 8 0 12))).toNatClampNeg))))))) 42 0 (((nI n).toNatClampNeg)) (((1 + (I1 42 0 ((((nI n - (I1 8 0 12))).toNatClampNeg))))))) X) Q
  try rw [tk7]
  try rw [tk8]
  try rw [tk4]
  try rw [tk3]
  try rw [tk2]
  try rw [tk5]
  try rw [tk1]
  try rw [tk0]
  exact k0 I1 p1
set_option maxRecDepth 100000 in
set_option maxHeartbeats 4000000 in
theorem w_gr_n {I : Nat → Nat → Nat → Int32} {X : am_Z} {g : am_F} {gs : List am_F} {d : Nat} {Q : Option am_V → am_M → Prop} {b nt : Nat} {tx : Nat → Tx} {β : Bn} {fo : Nat} {v z : Int32} (hC : CxM I b nt tx β) (hg : GB β) (hn : nt ≤ 14) (hG : ∀ t, t < nt → GT (tx t)) (hv : v = nI b) (hb : b < 8) (hz : z = nI fo) (hfo : fo ≤ 999) {T : Nat → Nat × Nat} {L n : Nat} (hL : L ≤ 6) (hn6 : n ≤ L) (hn1 : 1 ≤ n) (hgn : gfN β (6 - n) ≤ fo) (hT : ∀ k, k < n → I 41 0 k = nI (T k).1 ∧ I 42 0 k = nI (T k).2) (hB : ∀ k, k < n → (T k).1 ≤ 3 * k ∧ (T k).2 ≤ k) {a p dd : Nat} (ha : a ≤ 18) (hp : p ≤ 6) (hd1 : 1 ≤ dd) (hd : dd ≤ n + 1) (h41 : I 41 0 n = nI a) (h42 : I 42 0 n = nI p) {y1 y2 : Option am_V} (k0 : (n < dd) → am_WP ((mX8_grows, 39, [some (.inr (.inr (some (8, 0)))), some (.inl (v)), some (.inl (z)), some (.inl (nI L)), some (.inl ((nI (n + 1)))), some (.inl (nI dd)), y1, y2], []) :: g :: gs) (d + 4) (mk I X) Q) (k1 : (¬ (n < dd)) → ∀ (I1 : Im), (Ts I (thinkN (strN nt tx β) (gfN β) n dd fo) I1) → ((((thinkN (strN nt tx β) (gfN β) n dd fo).2) + ((T (n - ((thinkN (strN nt tx β) (gfN β) n dd fo).1))).1)) < a) → am_WP ((mX8_grows, 56, [some (.inr (.inr (some (8, 0)))), some (.inl (v)), some (.inl (z)), some (.inl (nI L)), some (.inl (nI n)), some (.inl ((nI (dd + 1)))), some (.inl ((nI (((thinkN (strN nt tx β) (gfN β) n dd fo).2) + ((T (n - ((thinkN (strN nt tx β) (gfN β) n dd fo).1))).1))))), some (.inl ((nI (1 + ((T (n - ((thinkN (strN nt tx β) (gfN β) n dd fo).1))).2)))))], []) :: g :: gs) (d + 4) (mk (up3 (up3 I1 41 0 (n) ((nI (((thinkN (strN nt tx β) (gfN β) n dd fo).2) + ((T (n - ((thinkN (strN nt tx β) (gfN β) n dd fo).1))).1))))) 42 0 (n) ((nI (1 + ((T (n - ((thinkN (strN nt tx β) (gfN β) n dd fo).1))).2))))) X) Q) (k2 : (¬ (n < dd)) → ∀ (I1 : Im), (Ts I (thinkN (strN nt tx β) (gfN β) n dd fo) I1) → (¬ ((((thinkN (strN nt tx β) (gfN β) n dd fo).2) + ((T (n - ((thinkN (strN nt tx β) (gfN β) n dd fo).1))).1)) < a)) → ((((thinkN (strN nt tx β) (gfN β) n dd fo).2) + ((T (n - ((thinkN (strN nt tx β) (gfN β) n dd fo).1))).1)) = a) → (p ≤ (1 + ((T (n - ((thinkN (strN nt tx β) (gfN β) n dd fo).1))).2))) → am_WP ((mX8_grows, 56, [some (.inr (.inr (some (8, 0)))), some (.inl (v)), some (.inl (z)), some (.inl (nI L)), some (.inl (nI n)), some (.inl ((nI (dd + 1)))), some (.inl ((nI (((thinkN (strN nt tx β) (gfN β) n dd fo).2) + ((T (n - ((thinkN (strN nt tx β) (gfN β) n dd fo).1))).1))))), some (.inl ((nI (1 + ((T (n - ((thinkN (strN nt tx β) (gfN β) n dd fo).1))).2)))))], []) :: g :: gs) (d + 4) (mk I1 X) Q) (k3 : (¬ (n < dd)) → ∀ (I1 : Im), (Ts I (thinkN (strN nt tx β) (gfN β) n dd fo) I1) → (¬ ((((thinkN (strN nt tx β) (gfN β) n dd fo).2) + ((T (n - ((thinkN (strN nt tx β) (gfN β) n dd fo).1))).1)) < a)) → ((((thinkN (strN nt tx β) (gfN β) n dd fo).2) + ((T (n - ((thinkN (strN nt tx β) (gfN β) n dd fo).1))).1)) = a) → (¬ (p ≤ (1 + ((T (n - ((thinkN (strN nt tx β) (gfN β) n dd fo).1))).2)))) → am_WP ((mX8_grows, 56, [some (.inr (.inr (some (8, 0)))), some (.inl (v)), some (.inl (z)), some (.inl (nI L)), some (.inl (nI n)), some (.inl ((nI (dd + 1)))), some (.inl ((nI (((thinkN (strN nt tx β) (gfN β) n dd fo).2) + ((T (n - ((thinkN (strN nt tx β) (gfN β) n dd fo).1))).1))))), some (.inl ((nI (1 + ((T (n - ((thinkN (strN nt tx β) (gfN β) n dd fo).1))).2)))))], []) :: g :: gs) (d + 4) (mk (up3 (up3 I1 41 0 (n) ((nI (((thinkN (strN nt tx β) (gfN β) n dd fo).2) + ((T (n - ((thinkN (strN nt tx β) (gfN β) n dd fo).1))).1))))) 42 0 (n) ((nI (1 + ((T (n - ((thinkN (strN nt tx β) (gfN β) n dd fo).1))).2))))) X) Q) (k4 : (¬ (n < dd)) → ∀ (I1 : Im), (Ts I (thinkN (strN nt tx β) (gfN β) n dd fo) I1) → (¬ ((((thinkN (strN nt tx β) (gfN β) n dd fo).2) + ((T (n - ((thinkN (strN nt tx β) (gfN β) n dd fo).1))).1)) < a)) → (¬ ((((thinkN (strN nt tx β) (gfN β) n dd fo).2) + ((T (n - ((thinkN (strN nt tx β) (gfN β) n dd fo).1))).1)) = a)) → am_WP ((mX8_grows, 56, [some (.inr (.inr (some (8, 0)))), some (.inl (v)), some (.inl (z)), some (.inl (nI L)), some (.inl (nI n)), some (.inl ((nI (dd + 1)))), some (.inl ((nI (((thinkN (strN nt tx β) (gfN β) n dd fo).2) + ((T (n - ((thinkN (strN nt tx β) (gfN β) n dd fo).1))).1))))), some (.inl ((nI (1 + ((T (n - ((thinkN (strN nt tx β) (gfN β) n dd fo).1))).2)))))], []) :: g :: gs) (d + 4) (mk I1 X) Q) : am_WP ((mX8_grows, 56, [some (.inr (.inr (some (8, 0)))), some (.inl (v)), some (.inl (z)), some (.inl (nI L)), some (.inl (nI n)), some (.inl (nI dd)), y1, y2], []) :: g :: gs) (d + 4) (mk I X) Q := by
  refine am_go 400 ?_
  refine am_if (fun h1 => ?_) (fun h1 => ?_)
  · have nh1 := (lt_nat (a := n) (b := dd) (rfl : (nI n : Int32) = nI n) (rfl : (nI dd : Int32) = nI dd) (by omega) (by omega)).mp h1
    have tk0 : (nI n + 1) = nI (n + 1) := (nI_addE rfl (rfl : (1 : Int32) = nI 1))
    show am_WP ((mX8_grows, 39, [some (.inr (.inr (some (8, 0)))), some (.inl (v)), some (.inl (z)), some (.inl (nI L)), some (.inl (((nI n + 1)))), some (.inl (nI dd)), y1, y2], []) :: g :: gs) (d + 4) (mk I X) Q
    try rw [tk0]
    exact k0 nh1
  · have nh1 := mt (lt_nat (a := n) (b := dd) (rfl : (nI n : Int32) = nI n) (rfl : (nI dd : Int32) = nI dd) (by omega) (by omega)).mpr h1
    refine (c_X8_thinksPull (I := I) (b := b) (a := n) (dp := dd) (fo := fo) hC hg hn hG hv (by omega) (rfl : (nI n : Int32) = nI n) (rfl : (nI dd : Int32) = nI dd) hz (by omega) (by omega) (by omega) (by omega) (by omega)) _ _ _ ?_
    intro I1 p1
    have ge := (thinkN_ge (st := strN nt tx β) (gf := gfN β) (left := n) (dp := dd) (fo := fo) (by omega) (by omega) (by omega) hgn).1
    refine am_go 400 ?_
    have bd : (thinkN (strN nt tx β) (gfN β) n dd fo).2 ≤ 18 := (thinkN_le (st := strN nt tx β) (gf := gfN β) (left := n) (dp := dd) (fo := fo) (by omega) (by omega) (by omega)).2
    have tk1 : I1 8 0 13 = nI (thinkN (strN nt tx β) (gfN β) n dd fo).2 := p1.2.2
    have bd : (thinkN (strN nt tx β) (gfN β) n dd fo).1 ≤ n := (thinkN_le (st := strN nt tx β) (gf := gfN β) (left := n) (dp := dd) (fo := fo) (by omega) (by omega) (by omega)).1
    have tk2 : I1 8 0 12 = nI (thinkN (strN nt tx β) (gfN β) n dd fo).1 := p1.2.1
    refine am_f (ix_in (n := (n - ((thinkN (strN nt tx β) (gfN β) n dd fo).1))) (N := 7) (nI_subE rfl tk2 (by omega)) (by omega) (by decide)) ?_
    have tk3 : ((nI n - (I1 8 0 12))).toNatClampNeg = (n - ((thinkN (strN nt tx β) (gfN β) n dd fo).1)) := by first | exact ix_cl (n := (n - ((thinkN (strN nt tx β) (gfN β) n dd fo).1))) (nI_subE rfl tk2 (by omega)) (by omega) | (((try rw [tk2])); first | done | exact ix_cl (n := (n - ((thinkN (strN nt tx β) (gfN β) n dd fo).1))) (nI_subE rfl tk2 (by omega)) (by omega))
    have bd : (T (n - ((thinkN (strN nt tx β) (gfN β) n dd fo).1))).1 ≤ 18 := (by have := hB (n - ((thinkN (strN nt tx β) (gfN β) n dd fo).1)) (by omega); omega)
    have tk4 : I1 41 0 ((((nI n - (I1 8 0 12))).toNatClampNeg)) = nI (T (n - ((thinkN (strN nt tx β) (gfN β) n dd fo).1))).1 := by first | exact ((congrFun (congrFun (p1.1.2 41 (by decide) (by decide) (by decide)) _) _).trans ((hT (n - ((thinkN (strN nt tx β) (gfN β) n dd fo).1)) (by omega)).1)) | (((try rw [tk3]); (try rw [tk2])); first | done | exact ((congrFun (congrFun (p1.1.2 41 (by decide) (by decide) (by decide)) _) _).trans ((hT (n - ((thinkN (strN nt tx β) (gfN β) n dd fo).1)) (by omega)).1)))
    refine am_f (ix_in (n := (n - ((thinkN (strN nt tx β) (gfN β) n dd fo).1))) (N := 7) (nI_subE rfl tk2 (by omega)) (by omega) (by decide)) ?_
    have bd : (T (n - ((thinkN (strN nt tx β) (gfN β) n dd fo).1))).2 ≤ 18 := (by have := hB (n - ((thinkN (strN nt tx β) (gfN β) n dd fo).1)) (by omega); omega)
    have tk5 : I1 42 0 ((((nI n - (I1 8 0 12))).toNatClampNeg)) = nI (T (n - ((thinkN (strN nt tx β) (gfN β) n dd fo).1))).2 := by first | exact ((congrFun (congrFun (p1.1.2 42 (by decide) (by decide) (by decide)) _) _).trans ((hT (n - ((thinkN (strN nt tx β) (gfN β) n dd fo).1)) (by omega)).2)) | (((try rw [tk3]); (try rw [tk2])); first | done | exact ((congrFun (congrFun (p1.1.2 42 (by decide) (by decide) (by decide)) _) _).trans ((hT (n - ((thinkN (strN nt tx β) (gfN β) n dd fo).1)) (by omega)).2)))
    refine am_f (ix_in (n := n) (N := 7) (rfl : (nI n : Int32) = nI n) (by omega) (by decide)) ?_
    have tk6 : (nI n).toNatClampNeg = n := ix_cl (n := n) (rfl : (nI n : Int32) = nI n) (by omega)
    have tk7 : I1 41 0 (((nI n).toNatClampNeg)) = nI a := by first | exact ((congrFun (congrFun (p1.1.2 41 (by decide) (by decide) (by decide)) _) _).trans (h41)) | (((try rw [tk6])); first | done | exact ((congrFun (congrFun (p1.1.2 41 (by decide) (by decide) (by decide)) _) _).trans (h41)))
    refine am_f (mt (lt_nat (a := a) (b := 0) tk7 (rfl : (0 : Int32) = nI 0) (by omega) (by omega)).mp (by omega)) ?_
    refine am_f (ix_in (n := n) (N := 7) (rfl : (nI n : Int32) = nI n) (by omega) (by decide)) ?_
    refine am_if (fun h2 => ?_) (fun h2 => ?_)
    · have nh2 := (lt_nat (a := (((thinkN (strN nt tx β) (gfN β) n dd fo).2) + ((T (n - ((thinkN (strN nt tx β) (gfN β) n dd fo).1))).1))) (b := a) (nI_addE tk1 tk4) tk7 (by omega) (by omega)).mp h2
      refine am_f (ix_in (n := n) (N := 7) (rfl : (nI n : Int32) = nI n) (by omega) (by decide)) ?_
      have tk8 : ((I1 8 0 13) + (I1 41 0 ((((nI n - (I1 8 0 12))).toNatClampNeg)))) = nI (((thinkN (strN nt tx β) (gfN β) n dd fo).2) + ((T (n - ((thinkN (strN nt tx β) (gfN β) n dd fo).1))).1)) := by first | exact (nI_addE tk1 tk4) | (((try rw [tk4]); (try rw [tk3]); (try rw [tk2]); (try rw [tk1])); first | done | exact (nI_addE tk1 tk4))
      refine am_f (ix_in (n := n) (N := 7) (rfl : (nI n : Int32) = nI n) (by omega) (by decide)) ?_
      have tk9 : (1 + (I1 42 0 ((((nI n - (I1 8 0 12))).toNatClampNeg)))) = nI (1 + ((T (n - ((thinkN (strN nt tx β) (gfN β) n dd fo).1))).2)) := by first | exact (nI_addE (rfl : (1 : Int32) = nI 1) tk5) | (((try rw [tk5]); (try rw [tk3]); (try rw [tk2])); first | done | exact (nI_addE (rfl : (1 : Int32) = nI 1) tk5))
      have tk10 : (nI dd + 1) = nI (dd + 1) := (nI_addE rfl (rfl : (1 : Int32) = nI 1))
      show am_WP ((mX8_grows, 56, [some (.inr (.inr (some (8, 0)))), some (.inl (v)), some (.inl (z)), some (.inl (nI L)), some (.inl (nI n)), some (.inl (((nI dd + 1)))), some (.inl ((((I1 8 0 13) + (I1 41 0 ((((nI n - (I1 8 0 12))).toNatClampNeg))))))), some (.inl (((1 + (I1 42 0 ((((nI n - (I1 8 0 12))).toNatClampNeg)))))))], []) :: g :: gs) (d + 4) (mk (up3 (up3 I1 41 0 (((nI n).toNatClampNeg)) ((((I1 8 0 13) + (I1 41 0 ((((nI n - (I1 8 0 12))).toNatClampNeg))))))) 42 0 (((nI n).toNatClampNeg)) (((1 + (I1 42 0 ((((nI n - (I1 8 0 12))).toNatClampNeg))))))) X) Q
      try rw [tk8]
      try rw [tk9]
      try rw [tk5]
      try rw [tk4]
      try rw [tk3]
      try rw [tk6]
      try rw [tk10]
      try rw [tk2]
      try rw [tk1]
      exact k1 nh1 I1 p1 nh2
    · have nh2 := mt (lt_nat (a := (((thinkN (strN nt tx β) (gfN β) n dd fo).2) + ((T (n - ((thinkN (strN nt tx β) (gfN β) n dd fo).1))).1))) (b := a) (nI_addE tk1 tk4) tk7 (by omega) (by omega)).mpr h2
      refine am_f (ix_in (n := n) (N := 7) (rfl : (nI n : Int32) = nI n) (by omega) (by decide)) ?_
      refine am_if (fun h3 => ?_) (fun h3 => ?_)
      · have nh3 := (eq_nat (a := (((thinkN (strN nt tx β) (gfN β) n dd fo).2) + ((T (n - ((thinkN (strN nt tx β) (gfN β) n dd fo).1))).1))) (b := a) (nI_addE tk1 tk4) tk7 (by omega) (by omega)).mp h3
        refine am_f (ix_in (n := n) (N := 7) (rfl : (nI n : Int32) = nI n) (by omega) (by decide)) ?_
        have tk11 : I1 42 0 (((nI n).toNatClampNeg)) = nI p := by first | exact ((congrFun (congrFun (p1.1.2 42 (by decide) (by decide) (by decide)) _) _).trans (h42)) | (((try rw [tk6])); first | done | exact ((congrFun (congrFun (p1.1.2 42 (by decide) (by decide) (by decide)) _) _).trans (h42)))
        refine am_if (fun h4 => ?_) (fun h4 => ?_)
        · have nh4 := (le_nat (a := p) (b := (1 + ((T (n - ((thinkN (strN nt tx β) (gfN β) n dd fo).1))).2))) tk11 (nI_addE (rfl : (1 : Int32) = nI 1) tk5) (by omega) (by omega)).mp h4
          have tk12 : (nI dd + 1) = nI (dd + 1) := (nI_addE rfl (rfl : (1 : Int32) = nI 1))
          have tk13 : ((I1 8 0 13) + (I1 41 0 ((((nI n - (I1 8 0 12))).toNatClampNeg)))) = nI (((thinkN (strN nt tx β) (gfN β) n dd fo).2) + ((T (n - ((thinkN (strN nt tx β) (gfN β) n dd fo).1))).1)) := by first | exact (nI_addE tk1 tk4) | (((try rw [tk4]); (try rw [tk3]); (try rw [tk2]); (try rw [tk1])); first | done | exact (nI_addE tk1 tk4))
          have tk14 : (1 + (I1 42 0 ((((nI n - (I1 8 0 12))).toNatClampNeg)))) = nI (1 + ((T (n - ((thinkN (strN nt tx β) (gfN β) n dd fo).1))).2)) := by first | exact (nI_addE (rfl : (1 : Int32) = nI 1) tk5) | (((try rw [tk5]); (try rw [tk3]); (try rw [tk2])); first | done | exact (nI_addE (rfl : (1 : Int32) = nI 1) tk5))
          show am_WP ((mX8_grows, 56, [some (.inr (.inr (some (8, 0)))), some (.inl (v)), some (.inl (z)), some (.inl (nI L)), some (.inl (nI n)), some (.inl (((nI dd + 1)))), some (.inl ((((I1 8 0 13) + (I1 41 0 ((((nI n - (I1 8 0 12))).toNatClampNeg))))))), some (.inl (((1 + (I1 42 0 ((((nI n - (I1 8 0 12))).toNatClampNeg)))))))], []) :: g :: gs) (d + 4) (mk I1 X) Q
          try rw [tk13]
          try rw [tk14]
          try rw [tk5]
          try rw [tk4]
          try rw [tk3]
          try rw [tk12]
          try rw [tk2]
          try rw [tk1]
          exact k2 nh1 I1 p1 nh2 nh3 nh4
        · have nh4 := mt (le_nat (a := p) (b := (1 + ((T (n - ((thinkN (strN nt tx β) (gfN β) n dd fo).1))).2))) tk11 (nI_addE (rfl : (1 : Int32) = nI 1) tk5) (by omega) (by omega)).mpr h4
          refine am_f (ix_in (n := n) (N := 7) (rfl : (nI n : Int32) = nI n) (by omega) (by decide)) ?_
          have tk15 : ((I1 8 0 13) + (I1 41 0 ((((nI n - (I1 8 0 12))).toNatClampNeg)))) = nI (((thinkN (strN nt tx β) (gfN β) n dd fo).2) + ((T (n - ((thinkN (strN nt tx β) (gfN β) n dd fo).1))).1)) := by first | exact (nI_addE tk1 tk4) | (((try rw [tk4]); (try rw [tk3]); (try rw [tk2]); (try rw [tk1])); first | done | exact (nI_addE tk1 tk4))
          refine am_f (ix_in (n := n) (N := 7) (rfl : (nI n : Int32) = nI n) (by omega) (by decide)) ?_
          have tk16 : (1 + (I1 42 0 ((((nI n - (I1 8 0 12))).toNatClampNeg)))) = nI (1 + ((T (n - ((thinkN (strN nt tx β) (gfN β) n dd fo).1))).2)) := by first | exact (nI_addE (rfl : (1 : Int32) = nI 1) tk5) | (((try rw [tk5]); (try rw [tk3]); (try rw [tk2])); first | done | exact (nI_addE (rfl : (1 : Int32) = nI 1) tk5))
          have tk17 : (nI dd + 1) = nI (dd + 1) := (nI_addE rfl (rfl : (1 : Int32) = nI 1))
          show am_WP ((mX8_grows, 56, [some (.inr (.inr (some (8, 0)))), some (.inl (v)), some (.inl (z)), some (.inl (nI L)), some (.inl (nI n)), some (.inl (((nI dd + 1)))), some (.inl ((((I1 8 0 13) + (I1 41 0 ((((nI n - (I1 8 0 12))).toNatClampNeg))))))), some (.inl (((1 + (I1 42 0 ((((nI n - (I1 8 0 12))).toNatClampNeg)))))))], []) :: g :: gs) (d + 4) (mk (up3 (up3 I1 41 0 (((nI n).toNatClampNeg)) ((((I1 8 0 13) + (I1 41 0 ((((nI n - (I1 8 0 12))).toNatClampNeg))))))) 42 0 (((nI n).toNatClampNeg)) (((1 + (I1 42 0 ((((nI n - (I1 8 0 12))).toNatClampNeg))))))) X) Q
          try rw [tk15]
          try rw [tk16]
          try rw [tk5]
          try rw [tk4]
          try rw [tk3]
          try rw [tk6]
          try rw [tk17]
          try rw [tk2]
          try rw [tk1]
          exact k3 nh1 I1 p1 nh2 nh3 nh4
      · have nh3 := mt (eq_nat (a := (((thinkN (strN nt tx β) (gfN β) n dd fo).2) + ((T (n - ((thinkN (strN nt tx β) (gfN β) n dd fo).1))).1))) (b := a) (nI_addE tk1 tk4) tk7 (by omega) (by omega)).mpr h3
        have tk18 : (nI dd + 1) = nI (dd + 1) := (nI_addE rfl (rfl : (1 : Int32) = nI 1))
        have tk19 : ((I1 8 0 13) + (I1 41 0 ((((nI n - (I1 8 0 12))).toNatClampNeg)))) = nI (((thinkN (strN nt tx β) (gfN β) n dd fo).2) + ((T (n - ((thinkN (strN nt tx β) (gfN β) n dd fo).1))).1)) := by first | exact (nI_addE tk1 tk4) | (((try rw [tk4]); (try rw [tk3]); (try rw [tk2]); (try rw [tk1])); first | done | exact (nI_addE tk1 tk4))
        have tk20 : (1 + (I1 42 0 ((((nI n - (I1 8 0 12))).toNatClampNeg)))) = nI (1 + ((T (n - ((thinkN (strN nt tx β) (gfN β) n dd fo).1))).2)) := by first | exact (nI_addE (rfl : (1 : Int32) = nI 1) tk5) | (((try rw [tk5]); (try rw [tk3]); (try rw [tk2])); first | done | exact (nI_addE (rfl : (1 : Int32) = nI 1) tk5))
        show am_WP ((mX8_grows, 56, [some (.inr (.inr (some (8, 0)))), some (.inl (v)), some (.inl (z)), some (.inl (nI L)), some (.inl (nI n)), some (.inl (((nI dd + 1)))), some (.inl ((((I1 8 0 13) + (I1 41 0 ((((nI n - (I1 8 0 12))).toNatClampNeg))))))), some (.inl (((1 + (I1 42 0 ((((nI n - (I1 8 0 12))).toNatClampNeg)))))))], []) :: g :: gs) (d + 4) (mk I1 X) Q
        try rw [tk19]
        try rw [tk20]
        try rw [tk5]
        try rw [tk4]
        try rw [tk3]
        try rw [tk18]
        try rw [tk2]
        try rw [tk1]
        exact k4 nh1 I1 p1 nh2 nh3
