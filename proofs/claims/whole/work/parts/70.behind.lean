/-! keep, back (model); thinkAhead; behind -/
theorem CeM_cp {S S' : Nat → Int32} {e : Ce} (h : CeM S e) (hG : GE e) (hS : ∀ j, j < 2950 → S' j = S j) : CeM S' e := by
  obtain ⟨⟨a0, a1, a2, a3, a4, aB⟩, h2, h3⟩ := h
  have h8 : e.1.1 ≤ 8 := hG.1.1
  have h14 : e.2.1 ≤ 14 := hG.2.2.1
  refine ⟨⟨by rw [hS _ (by omega)]; exact a0, by rw [hS _ (by omega)]; exact a1, by rw [hS _ (by omega)]; exact a2, by rw [hS _ (by omega)]; exact a3, by rw [hS _ (by omega)]; exact a4, fun k hk => RB_same (aB k hk) (fun j hj => ?_) (fun j hj => ?_) (fun j hj => ?_)⟩, by rw [hS _ (by omega)]; exact h2, fun t ht => ?_⟩
  · show S' _ = S _; rw [hS _ (by omega)]
  · show S' _ = S _; rw [hS _ (by omega)]
  · show S' _ = S _; rw [hS _ (by omega)]
  · obtain ⟨a, b, c, d⟩ := h3 t ht
    have h96 := (hG.2.2.2 t ht).2.1
    refine ⟨by rw [hS _ (by omega)]; exact a, by rw [hS _ (by omega)]; exact b, by rw [hS _ (by omega)]; exact c, fun k hk => ?_⟩
    obtain ⟨p, q⟩ := d k hk
    exact ⟨by rw [hS _ (by omega)]; exact p, by rw [hS _ (by omega)]; exact q⟩
theorem fl_lt {I : Im} {g k i j : Nat} {f : Nat → Int32} (h : j < i) : fl I g k 0 i f g k j = f j := by
  have := fl_i (I := I) (g := g) (k := k) (b := 0) (f := f) h
  rwa [Nat.zero_add] at this
theorem RM_keep {I s} (h : RM I s) (G : GS s) : RM (fl (up3 I 8 0 3 1) 31 0 0 2950 (up3 I 8 0 3 1 30 0)) (s.1, some s.1, s.2.2) :=
  ⟨h.1, ⟨rfl, CeM_cp h.1 G.1 (fun j hj => fl_lt hj)⟩, h.2.2.1, h.2.2.2.1, h.2.2.2.2.1, h.2.2.2.2.2⟩
theorem RM_back {I s ei} (h : RM I s) (G : GS s) (he : s.2.1 = some ei) : RM (fl I 30 0 0 2950 (I 31 0)) (ei, s.2) := by
  have hi := h.2.1
  rw [he] at hi
  refine ⟨CeM_cp hi.2 (G.2.1 ei he) (fun j hj => fl_lt hj), ?_, h.2.2.1, h.2.2.2.1, h.2.2.2.2.1, h.2.2.2.2.2⟩
  show ImM _ s.2.1
  rw [he]
  exact hi
set_option maxRecDepth 100000 in
set_option maxHeartbeats 4000000 in
theorem w_X8_keep {I : Nat → Nat → Nat → Int32} {X : am_Z} {g : am_F} {gs : List am_F} {d : Nat} {Q : Option am_V → am_M → Prop} {s : St} (h : RM I s) (G : GS s)  (k0 : am_WP (am_psh g (some (.inl ((nI (nb s))))) :: gs) (d + 2) (mk (fl (up3 I 8 0 (3) (1)) 31 0 0 2950 ((up3 I 8 0 (3) (1)) 30 0)) X) Q) : am_WP (am_entry mX8_keep [.inr (.inr (some (8, 0)))] :: g :: gs) (d + 1) (mk I X) Q := by
  have hn8 : nb s ≤ 8 := G.1.1.1
  refine am_go 400 ?_
  refine (c_aside_30_31) _ _ _ ?_
  refine am_go 400 ?_
  have tk0 : (fl (up3 I 8 0 (3) (1)) 31 0 0 2950 ((up3 I 8 0 (3) (1)) 30 0)) 30 0 0 = nI (nb s) := h.1.1.1
  show am_WP (am_psh g (some (.inl (((fl (up3 I 8 0 (3) (1)) 31 0 0 2950 ((up3 I 8 0 (3) (1)) 30 0)) 30 0 0)))) :: gs) (d + 2) (mk (fl (up3 I 8 0 (3) (1)) 31 0 0 2950 ((up3 I 8 0 (3) (1)) 30 0)) X) Q
  try rw [tk0]
  exact k0
theorem p_X8_keep {I X d s} (h : RM I s) (G : GS s) : Sp mX8_keep [.inr (.inr (some (8, 0)))] (d + 1) I X (OM I X (f_keep s)) := fun g gs Q K => by
  have hn8 : nb s ≤ 8 := G.1.1.1
  have g8 : G8 s := G8_ G
  refine w_X8_keep h G  ?_
  · apply K_s K
    unfold f_keep
    exact ⟨rfl, RM_keep h G, FrM_f rfl (FrM_3 rfl FrM_r), rfl⟩

set_option maxRecDepth 100000 in
set_option maxHeartbeats 4000000 in
theorem w_backM_0 {I : Nat → Nat → Nat → Int32} {X : am_Z} {g : am_F} {gs : List am_F} {d : Nat} {Q : Option am_V → am_M → Prop} (h7 : I 8 0 3 = 0) (k0 : am_WP (am_psh g (some (.inl ((-1000000002)))) :: gs) (d + 2) (mk I X) Q) : am_WP (am_entry mX8_back [.inr (.inr (some (8, 0)))] :: g :: gs) (d + 1) (mk I X) Q := by
  refine am_go 400 ?_
  have tk0 : I 8 0 3 = 0 := h7
  refine am_t (by show (I 8 0 3) = 0; (try rw [tk0]); first | done | exact rfl) ?_
  exact k0
set_option maxRecDepth 100000 in
set_option maxHeartbeats 4000000 in
theorem w_backM_1 {I : Nat → Nat → Nat → Int32} {X : am_Z} {g : am_F} {gs : List am_F} {d : Nat} {Q : Option am_V → am_M → Prop} (h7 : I 8 0 3 = 1) (k0 : am_WP (am_psh g (some (.inl (((fl I 30 0 0 2950 (I 31 0)) 30 0 0)))) :: gs) (d + 2) (mk (fl I 30 0 0 2950 (I 31 0)) X) Q) : am_WP (am_entry mX8_back [.inr (.inr (some (8, 0)))] :: g :: gs) (d + 1) (mk I X) Q := by
  refine am_go 400 ?_
  have tk0 : I 8 0 3 = 1 := h7
  refine am_f (by show ¬ (I 8 0 3) = 0; (try rw [tk0]); first | done | exact (by decide)) ?_
  refine (c_aside_31_30) _ _ _ ?_
  refine am_go 400 ?_
  exact k0
theorem p_X8_back {I X d s} (h : RM I s) (G : GS s) : Sp mX8_back [.inr (.inr (some (8, 0)))] (d + 1) I X (OM I X (f_back s)) := fun g gs Q K => by
  have hi := h.2.1
  rcases he : s.2.1 with _ | ei
  · rw [he] at hi
    have e : f_back s = (cNO, s) := by unfold f_back; rw [he]
    rw [e] at K
    exact w_backM_0 hi (K_s K ⟨rfl, h, FrM_r, rfl⟩)
  · rw [he] at hi
    have e : f_back s = (nI ei.1.1, (ei, s.2)) := by unfold f_back; rw [he]
    rw [e] at K
    exact w_backM_1 hi.1 (K_s K ⟨(fl_lt (show 0 < 2950 by decide)).trans hi.2.1.1, RM_back h G he, FrM_f rfl FrM_r, rfl⟩)
theorem RC_F2 {I I' X s} (h : RC I X s) (G : G8 s) (F : FrB 2 I I') : RC I' X s := by
  have ee : ∀ g, ¬ (g = 0 ∨ g = 1 ∨ g = 16 ∨ g = 17) → I' g = I g := fun g hg => FrB_g F hg
  obtain ⟨⟨h1, ht⟩, hi, hr, hs, hw, htp, hk', hid⟩ := h
  refine ⟨⟨RepC_F h1 G.1 (by decide) F, TsC_F ht F⟩, ?_, fun k hk => ?_, fun k hk => ?_, ?_, ?_, ?_, hid⟩
  · show ImC I' X s.2.1
    rcases e : s.2.1 with _ | ei
    · rw [e] at hi; show I' 7 0 8 = 0; rw [ee 7 (by decide)]; exact hi
    · rw [e] at hi; exact ⟨by rw [ee 7 (by decide)]; exact hi.1, RepC_F hi.2.1 (G.2 ei e) (by decide) F, TsC_F hi.2.2 F⟩
  · obtain ⟨a, b, c⟩ := hr k hk
    exact ⟨by rw [ee 4 (by decide)]; exact a, by rw [ee 4 (by decide)]; exact b, by rw [ee 25 (by decide)]; exact c⟩
  · obtain ⟨a, b, c, d⟩ := hs k hk
    exact ⟨by rw [ee 5 (by decide)]; exact a, by rw [ee 5 (by decide)]; exact b, by rw [ee 4 (by decide), ee 25 (by decide)]; exact c, by rw [ee 5 (by decide)]; exact d⟩
  · exact ⟨by rw [ee 7 (by decide)]; exact hw.1, by rw [ee 26 (by decide)]; exact hw.2⟩
  · exact ⟨by rw [ee 3 (by decide)]; exact htp.1, by rw [ee 23 (by decide)]; exact htp.2⟩
  · exact ⟨by rw [ee 20 (by decide)]; exact hk'.1, by rw [ee 21 (by decide)]; exact hk'.2.1, by rw [ee 22 (by decide)]; exact hk'.2.2⟩
set_option maxRecDepth 100000 in
set_option maxHeartbeats 4000000 in
theorem w_X7_thinkAhead {I : Nat → Nat → Nat → Int32} {X : am_Z} {g : am_F} {gs : List am_F} {d : Nat} {Q : Option am_V → am_M → Prop} {s : St} (h : RC I X s) (G : GS s) {n : Nat} {x : Int32} (hx : x = nI n) (hn : n ≤ 1000) (k0 : ∀ (I1 : Im) (X1 : am_Z), (CeC I1 X1 2 s.1 ∧ BaF 2 I X I1 X1) → ∀ (I2 : Im), (RepC I2 2 (yrs n s.1.1) ∧ FrB 2 I1 I2) → am_WP (am_psh g none :: gs) (d + 4) (mk I2 X1) Q) : am_WP (am_entry mX7_thinkAhead [.inr (.inr (some (7, 0))), .inl (x)] :: g :: gs) (d + 3) (mk I X) Q := by
  refine am_go 400 ?_
  refine (c_X1_becomeAs (I := I) (X := X) (c := 2) (o := 0) (e := s.1) h.1 (by decide) (by decide) (by decide) G.1.1.1 G.1.2.2.1) _ _ _ ?_
  intro I1 X1 p1
  refine am_go 400 ?_
  refine (c_X1_passYears (I := I1) (c := 2) (n := n) (σ := s.1.1) hx p1.1.1 (GC_D G.1.1) (by decide) (by omega)) _ _ _ ?_
  intro I2 p2
  refine am_go 400 ?_
  exact k0 I1 X1 p1 I2 p2
theorem c_X7_thinkAhead {I X d s} (h : RC I X s) (G : GS s) {n : Nat} {x : Int32} (hx : x = nI n) (hn : n ≤ 1000) : Sz mX7_thinkAhead [.inr (.inr (some (7, 0))), .inl x] (d + 3) I X none (fun I' X' => RC I' X' s ∧ CeC I' X' 2 (yrs n s.1.1, s.1.2) ∧ FrC I X I' X') := fun g gs Q K =>
  w_X7_thinkAhead h G hx hn (fun I1 X1 p1 I2 p2 => K I2 X1 ⟨RC_F2 (RC_th h (G8_ G) p1.2) (G8_ G) p2.2, ⟨p2.1, TsC_F p1.1.2 p2.2⟩, FrC_tr (FrC_Ba p1.2) (FrC_B p2.2)⟩)
noncomputable def f_behind (s : St) (x w : Int32) : Int32 × St := if 0 ≤ x ∧ x ≤ 100 then if 0 ≤ w ∧ w ≤ 1 + nI (nb s) then if kx w = 0 then (nI (stA (yrs (kx x) s.1.1)), s) else if kx w = 1 then (nI (hdA (yrs (kx x) s.1.1)), s) else (nI (gfN ((yrs (kx x) s.1.1).2.2.2 (kx w - 2)) (6 - ((yrs (kx x) s.1.1).2.2.2 (kx w - 2)).1 3)), s) else (cBAD, s) else (cBAD, s)
theorem w2w {w : Int32} (e : w = nI (kx w)) (h : kx w < 2 ^ 31) (h0 : ¬ w = 0) (h1 : ¬ w = 1) : 2 ≤ kx w := by
  have a := mt (eq_nat (b := 0) e rfl h (by decide)).mpr h0
  have b := mt (eq_nat (b := 1) e rfl h (by decide)).mpr h1
  omega
set_option maxRecDepth 100000 in
set_option maxHeartbeats 4000000 in
theorem w_X7_behind {I : Nat → Nat → Nat → Int32} {X : am_Z} {g : am_F} {gs : List am_F} {d : Nat} {Q : Option am_V → am_M → Prop} {s : St} (h : RC I X s) (G : GS s) {x w : Int32} (k0 : (¬ ((0 : Int32) ≤ x ∧ x ≤ 100)) → am_WP (am_psh g (some (.inl ((-1000000001)))) :: gs) (d + 5) (mk I X) Q) (k1 : ((0 : Int32) ≤ x ∧ x ≤ 100) → (¬ ((0 : Int32) ≤ w ∧ w ≤ (1 + (nI (nb s))))) → am_WP (am_psh g (some (.inl ((-1000000001)))) :: gs) (d + 5) (mk I X) Q) (k2 : ((0 : Int32) ≤ x ∧ x ≤ 100) → ((0 : Int32) ≤ w ∧ w ≤ (1 + (nI (nb s)))) → ∀ (I1 : Im) (X1 : am_Z), (RC I1 X1 s ∧ CeC I1 X1 2 (yrs (kx x) s.1.1, s.1.2) ∧ FrC I X I1 X1) → ((kx w) = 0) → am_WP (am_psh g (some (.inl (nI (stA (yrs (kx x) s.1.1))))) :: gs) (d + 5) (mk I1 X1) Q) (k3 : ((0 : Int32) ≤ x ∧ x ≤ 100) → ((0 : Int32) ≤ w ∧ w ≤ (1 + (nI (nb s)))) → ∀ (I1 : Im) (X1 : am_Z), (RC I1 X1 s ∧ CeC I1 X1 2 (yrs (kx x) s.1.1, s.1.2) ∧ FrC I X I1 X1) → (¬ ((kx w) = 0)) → ((kx w) = 1) → am_WP (am_psh g (some (.inl (nI (hdA (yrs (kx x) s.1.1))))) :: gs) (d + 5) (mk I1 X1) Q) (k4 : ((0 : Int32) ≤ x ∧ x ≤ 100) → ((0 : Int32) ≤ w ∧ w ≤ (1 + (nI (nb s)))) → ∀ (I1 : Im) (X1 : am_Z), (RC I1 X1 s ∧ CeC I1 X1 2 (yrs (kx x) s.1.1, s.1.2) ∧ FrC I X I1 X1) → (¬ ((kx w) = 0)) → (¬ ((kx w) = 1)) → am_WP (am_psh g (some (.inl (nI (gfN ((yrs (kx x) s.1.1).2.2.2 ((kx w) - 2)) (6 - ((yrs (kx x) s.1.1).2.2.2 ((kx w) - 2)).1 3))))) :: gs) (d + 5) (mk I1 X1) Q) : am_WP (am_entry mX7_behind [.inr (.inr (some (7, 0))), .inl (x), .inl (w)] :: g :: gs) (d + 4) (mk I X) Q := by
  have hn8 : nb s ≤ 8 := G.1.1.1
  refine am_go 400 ?_
  refine (c_X7_within (x) (0) (100)) _ _ _ ?_
  refine am_go 400 ?_
  refine am_if (fun h1 => ?_) (fun h1 => ?_)
  · have h1 := bI_0.mp h1
    exact k0 h1
  · have h1 := bI_1.mp h1
    obtain ⟨e_x, l_x⟩ := okl (m := 100) (by decide) h1
    have tk0 : I 1 0 3 = nI (nb s) := h.1.1.1
    refine (c_X7_within (w) (0) ((1 + (I 1 0 3)))) _ _ _ ?_
    refine am_go 400 ?_
    refine am_if (fun h2 => ?_) (fun h2 => ?_)
    · have h2 := bI_0.mp h2
      have h2 : ¬ ((0 : Int32) ≤ w ∧ w ≤ (1 + (I 1 0 3))) := h2
      try rw [tk0] at h2
      exact k1 h1 h2
    · have h2 := bI_1.mp h2
      have h2 : (0 : Int32) ≤ w ∧ w ≤ (1 + (I 1 0 3)) := h2
      try rw [tk0] at h2
      obtain ⟨e_w, l_w⟩ := okl (m := 1 + nb s) (by omega) (show 0 ≤ w ∧ w ≤ nI (1 + nb s) from by rw [← nI_add]; exact h2)
      have k_w := kx_lt w
      have y_n := yrs_n (n := kx x) (σ := s.1.1)
      refine (c_X7_thinkAhead h G (n := (kx x)) e_x (by omega)) _ _ _ ?_
      intro I1 X1 p1
      refine am_go 400 ?_
      refine am_if (fun h3 => ?_) (fun h3 => ?_)
      · have nh3 := (eq_nat (a := (kx w)) (b := 0) e_w (rfl : (0 : Int32) = nI 0) (by omega) (by omega)).mp h3
        refine (c_X1_strengthOfAll (c := 2) p1.2.1.1 (GD_yrs (GC_D G.1.1)) (by omega)) _ _ _ ?_
        refine am_go 400 ?_
        exact k2 h1 h2 I1 X1 p1 nh3
      · have nh3 := mt (eq_nat (a := (kx w)) (b := 0) e_w (rfl : (0 : Int32) = nI 0) (by omega) (by omega)).mpr h3
        refine am_if (fun h4 => ?_) (fun h4 => ?_)
        · have nh4 := (eq_nat (a := (kx w)) (b := 1) e_w (rfl : (1 : Int32) = nI 1) (by omega) (by omega)).mp h4
          refine (c_X1_holdOfAll (c := 2) p1.2.1.1 (GD_yrs (GC_D G.1.1)) (by omega)) _ _ _ ?_
          refine am_go 400 ?_
          exact k3 h1 h2 I1 X1 p1 nh3 nh4
        · have nh4 := mt (eq_nat (a := (kx w)) (b := 1) e_w (rfl : (1 : Int32) = nI 1) (by omega) (by omega)).mpr h4
          refine am_f (ix_in (n := ((kx w) - 2)) (N := 8) (nI_subE e_w (rfl : (2 : Int32) = nI 2) (by omega)) (by omega) (by decide)) ?_
          have tk1 : ((w - 2)).toNatClampNeg = ((kx w) - 2) := ix_cl (n := ((kx w) - 2)) (nI_subE e_w (rfl : (2 : Int32) = nI 2) (by omega)) (by omega)
          refine (cE_X0_held (I := I1) (b := (((kx w) - 2)) + 16) (show (((w - 2)).toNatClampNeg) + 16 = (((kx w) - 2)) + 16 by (try rw [tk1]); first | done | rfl) (show RB (cB I1 ((kx w) - 2 + 16)) _ from (p1.2.1.1.2.2.2.2.2 ((kx w) - 2) (show (kx w) - 2 < (yrs (kx x) s.1.1).1 by rw [y_n]; show (kx w) - 2 < nb s; omega))) ((GD_yrs (n := kx x) (GC_D G.1.1)).2.2.2 ((kx w) - 2) (show (kx w) - 2 < (yrs (kx x) s.1.1).1 by rw [y_n]; show (kx w) - 2 < nb s; omega))) _ _ _ ?_
          refine am_go 400 ?_
          exact k4 h1 h2 I1 X1 p1 nh3 nh4
theorem p_X7_behind {I X d s} (h : RC I X s) (G : GS s) (x w : Int32) : Sp mX7_behind [.inr (.inr (some (7, 0))), .inl (x), .inl (w)] (d + 4) I X (OC I X (f_behind s x w)) := fun g gs Q K => by
  have hn8 : nb s ≤ 8 := G.1.1.1
  have g8 : G8 s := G8_ G
  refine w_X7_behind h G  ?_ ?_ ?_ ?_ ?_
  · intro h0
    apply K_s K
    unfold f_behind
    rw [if_neg h0]
    exact ⟨rfl, h, FrC_r⟩
  · intro h0 h1
    obtain ⟨e_x, l_x⟩ := okl (m := 100) (by decide) h0
    apply K_s K
    unfold f_behind
    rw [if_pos h0, if_neg h1]
    exact ⟨rfl, h, FrC_r⟩
  · intro h0 h1 I1 X1 p1 h3
    obtain ⟨e_x, l_x⟩ := okl (m := 100) (by decide) h0
    obtain ⟨e_w, l_w⟩ := okl (m := 1 + nb s) (by omega) (show 0 ≤ w ∧ w ≤ nI (1 + nb s) from by rw [← nI_add]; exact h1)
    have k_w := kx_lt w
    have y_n := yrs_n (n := kx x) (σ := s.1.1)
    apply K_s K
    unfold f_behind
    rw [if_pos h0, if_pos h1, if_pos h3]
    exact ⟨rfl, p1.1, p1.2.2⟩
  · intro h0 h1 I1 X1 p1 h3 h4
    obtain ⟨e_x, l_x⟩ := okl (m := 100) (by decide) h0
    obtain ⟨e_w, l_w⟩ := okl (m := 1 + nb s) (by omega) (show 0 ≤ w ∧ w ≤ nI (1 + nb s) from by rw [← nI_add]; exact h1)
    have k_w := kx_lt w
    have y_n := yrs_n (n := kx x) (σ := s.1.1)
    apply K_s K
    unfold f_behind
    rw [if_pos h0, if_pos h1, if_neg h3, if_pos h4]
    exact ⟨rfl, p1.1, p1.2.2⟩
  · intro h0 h1 I1 X1 p1 h3 h4
    obtain ⟨e_x, l_x⟩ := okl (m := 100) (by decide) h0
    obtain ⟨e_w, l_w⟩ := okl (m := 1 + nb s) (by omega) (show 0 ≤ w ∧ w ≤ nI (1 + nb s) from by rw [← nI_add]; exact h1)
    have k_w := kx_lt w
    have y_n := yrs_n (n := kx x) (σ := s.1.1)
    apply K_s K
    unfold f_behind
    rw [if_pos h0, if_pos h1, if_neg h3, if_neg h4]
    exact ⟨rfl, p1.1, p1.2.2⟩

/-- what lies in close is the row as it was; all else as it was, but what nobody speaks of -/
def Lb (I I2 : Im) : Prop := (∀ j, j < 150 → I2 43 0 j = I 30 0 j) ∧ (∀ j, 150 ≤ j → I2 30 0 j = I 30 0 j) ∧ (∀ g, ¬ (g = 8 ∨ g = 30 ∨ g = 32 ∨ g = 41 ∨ g = 42 ∨ g = 43 ∨ g = 45 ∨ g = 46 ∨ g = 47 ∨ g = 49) → I2 g = I g) ∧ (I2 8 0 3 = I 8 0 3 ∧ I2 8 0 18 = I 8 0 18 ∧ I2 8 0 33 = I 8 0 33) ∧ I2 30 0 1 = I 30 0 1
theorem Lb_0 {I : Im} : Lb I (fl I 43 0 0 150 (I 30 0)) := ⟨fun j hj => fl_lt hj, fun j hj => rfl, fun g hg => fl_g (fun e => hg (by omega)), ⟨rfl, rfl, rfl⟩, rfl⟩
theorem Lb_Y {I I1 I2} (h : Lb I I1) (F : FrY I1 I2) : Lb I I2 := ⟨fun j hj => by rw [F.1 43 (by decide)]; exact h.1 j hj, fun j hj => (F.2 j (Or.inr hj)).trans (h.2.1 j hj), fun g hg => (F.1 g (fun e => hg (by omega))).trans (h.2.2.1 g hg), by rw [F.1 8 (by decide)]; exact h.2.2.2.1, (F.2 1 (Or.inl rfl)).trans h.2.2.2.2⟩
theorem Lb_G {I I1 I2} (h : Lb I I1) (F : Gf I1 I2) : Lb I I2 := by
  have e43 := F.2 43 (by decide) (by decide) (by decide) (by decide) (by decide)
  have e30 := F.2 30 (by decide) (by decide) (by decide) (by decide) (by decide)
  exact ⟨fun j hj => by rw [e43]; exact h.1 j hj, fun j hj => by rw [e30]; exact h.2.1 j hj, fun g hg => (F.2 g (fun e => hg (by omega)) (fun e => hg (by omega)) (fun e => hg (by omega)) (fun e => hg (by omega)) (fun e => hg (by omega))).trans (h.2.2.1 g hg), ⟨(F.1 3 (by decide) (by decide)).trans h.2.2.2.1.1, (F.1 18 (by decide) (by decide)).trans h.2.2.2.1.2.1, (F.1 33 (by decide) (by decide)).trans h.2.2.2.1.2.2⟩, by rw [e30]; exact h.2.2.2.2⟩
theorem Lb_row {I I2 : Im} (L : Lb I I2) : fl I2 30 0 0 150 (I2 43 0) 30 0 = I 30 0 := by
  funext j
  by_cases hj : j < 150
  · rw [fl_lt hj]; exact L.1 j hj
  · rw [fl_out (by omega)]; exact L.2.1 j (by omega)
theorem RM_g0 {I I' s} (h : RM I s) (e30 : I' 30 0 = I 30 0) (F : ∀ g, ¬ (g = 8 ∨ g = 30 ∨ g = 32 ∨ g = 41 ∨ g = 42 ∨ g = 43 ∨ g = 45 ∨ g = 46 ∨ g = 47 ∨ g = 49) → I' g = I g) (h8 : I' 8 0 3 = I 8 0 3 ∧ I' 8 0 18 = I 8 0 18 ∧ I' 8 0 33 = I 8 0 33) : RM I' s := by
  obtain ⟨h1, hi, hr, hs, hw, htp⟩ := h
  refine ⟨by rw [e30]; exact h1, RM_im hi h8.1 (by rw [F 31 (by decide)]), fun k hk => ?_, fun k hk => ?_, ?_, ?_⟩
  · obtain ⟨a, b, c⟩ := hr k hk
    exact ⟨by rw [F 33 (by decide)]; exact a, by rw [F 34 (by decide)]; exact b, by rw [F 35 (by decide)]; exact c⟩
  · obtain ⟨a, b, c, d⟩ := hs k hk
    exact ⟨by rw [F 36 (by decide)]; exact a, by rw [F 37 (by decide), F 38 (by decide)]; exact b, by rw [F 39 (by decide), F 40 (by decide)]; exact c, by rw [F 37 (by decide)]; exact d⟩
  · exact ⟨h8.2.2.trans hw.1, by rw [F 48 (by decide)]; exact hw.2⟩
  · exact ⟨h8.2.1.trans htp.1, by rw [F 44 (by decide)]; exact htp.2⟩
theorem RM_lb {I I2 s} (h : RM I s) (L : Lb I I2) : RM (fl I2 30 0 0 150 (I2 43 0)) s :=
  RM_g0 h (Lb_row L) (fun g hg => by rw [fl_g (fun e => hg (by omega))]; exact L.2.2.1 g hg) L.2.2.2.1
theorem FrM_lb {I I2 : Im} (L : Lb I I2) : FrM I (fl I2 30 0 0 150 (I2 43 0)) := fun g hg => by
  rw [fl_g (fun e => by subst e; cases hg)]
  exact L.2.2.1 g (fun z => by rcases z with rfl | rfl | rfl | rfl | rfl | rfl | rfl | rfl | rfl | rfl <;> cases hg)
set_option maxRecDepth 100000 in
set_option maxHeartbeats 4000000 in
theorem w_X8_behind {I : Nat → Nat → Nat → Int32} {X : am_Z} {g : am_F} {gs : List am_F} {d : Nat} {Q : Option am_V → am_M → Prop} {s : St} (h : RM I s) (G : GS s) {x w : Int32} (k0 : (¬ ((0 : Int32) ≤ x ∧ x ≤ 100)) → am_WP (am_psh g (some (.inl ((-1000000001)))) :: gs) (d + 5) (mk I X) Q) (k1 : ((0 : Int32) ≤ x ∧ x ≤ 100) → (¬ ((0 : Int32) ≤ w ∧ w ≤ (1 + (nI (nb s))))) → am_WP (am_psh g (some (.inl ((-1000000001)))) :: gs) (d + 5) (mk I X) Q) (k2 : ((0 : Int32) ≤ x ∧ x ≤ 100) → ((0 : Int32) ≤ w ∧ w ≤ (1 + (nI (nb s)))) → ∀ (I1 : Im), (RepM (I1 30 0) (yrs (kx x) s.1.1) ∧ FrY (fl I 43 0 0 150 (I 30 0)) I1) → ((kx w) = 0) → am_WP (am_psh g (some (.inl ((nI (stA (yrs (kx x) s.1.1)))))) :: gs) (d + 5) (mk (fl I1 30 0 0 150 (I1 43 0)) X) Q) (k3 : ((0 : Int32) ≤ x ∧ x ≤ 100) → ((0 : Int32) ≤ w ∧ w ≤ (1 + (nI (nb s)))) → ∀ (I1 : Im), (RepM (I1 30 0) (yrs (kx x) s.1.1) ∧ FrY (fl I 43 0 0 150 (I 30 0)) I1) → (¬ ((kx w) = 0)) → ((kx w) = 1) → am_WP (am_psh g (some (.inl ((nI (hdA (yrs (kx x) s.1.1)))))) :: gs) (d + 5) (mk (fl I1 30 0 0 150 (I1 43 0)) X) Q) (k4 : ((0 : Int32) ≤ x ∧ x ≤ 100) → ((0 : Int32) ≤ w ∧ w ≤ (1 + (nI (nb s)))) → ∀ (I1 : Im), (RepM (I1 30 0) (yrs (kx x) s.1.1) ∧ FrY (fl I 43 0 0 150 (I 30 0)) I1) → (¬ ((kx w) = 0)) → (¬ ((kx w) = 1)) → am_WP (am_psh g (some (.inl (nI (gfN ((yrs (kx x) s.1.1).2.2.2 ((kx w) - 2)) (6 - ((yrs (kx x) s.1.1).2.2.2 ((kx w) - 2)).1 3))))) :: gs) (d + 5) (mk (fl I1 30 0 0 150 (I1 43 0)) X) Q) : am_WP (am_entry mX8_behind [.inr (.inr (some (8, 0))), .inl (x), .inl (w)] :: g :: gs) (d + 4) (mk I X) Q := by
  have hn8 : nb s ≤ 8 := G.1.1.1
  refine am_go 400 ?_
  refine (m_isIn (x) (0) (100) _ _) _ _ _ ?_
  refine am_go 400 ?_
  refine am_if (fun h1 => ?_) (fun h1 => ?_)
  · have h1 := bI_0.mp h1
    exact k0 h1
  · have h1 := bI_1.mp h1
    obtain ⟨e_x, l_x⟩ := okl (m := 100) (by decide) h1
    have tk0 : I 30 0 0 = nI (nb s) := h.1.1.1
    refine (m_isIn (w) (0) ((1 + (I 30 0 0))) _ _) _ _ _ ?_
    refine am_go 400 ?_
    refine am_if (fun h2 => ?_) (fun h2 => ?_)
    · have h2 := bI_0.mp h2
      have h2 : ¬ ((0 : Int32) ≤ w ∧ w ≤ (1 + (I 30 0 0))) := h2
      try rw [tk0] at h2
      exact k1 h1 h2
    · have h2 := bI_1.mp h2
      have h2 : (0 : Int32) ≤ w ∧ w ≤ (1 + (I 30 0 0)) := h2
      try rw [tk0] at h2
      obtain ⟨e_w, l_w⟩ := okl (m := 1 + nb s) (by omega) (show 0 ≤ w ∧ w ≤ nI (1 + nb s) from by rw [← nI_add]; exact h2)
      have k_w := kx_lt w
      have y_n := yrs_n (n := kx x) (σ := s.1.1)
      refine (c_laysBy) _ _ _ ?_
      refine am_go 400 ?_
      refine (c_X8_goesOnMany (I := (fl I 43 0 0 150 (I 30 0))) (n := (kx x)) (σ := s.1.1) e_x h.1.1 (GC_D G.1.1) (by omega)) _ _ _ ?_
      intro I1 p1
      refine am_go 400 ?_
      refine am_if (fun h3 => ?_) (fun h3 => ?_)
      · have nh3 := (eq_nat (a := (kx w)) (b := 0) e_w (rfl : (0 : Int32) = nI 0) (by omega) (by omega)).mp h3
        have tk1 : aoS (I1 30 0) 6 6 (yrs (kx x) s.1.1).1 = nI (stA (yrs (kx x) s.1.1)) := ao_1 p1.1
        refine (c_X8_allOf (w := 6) (q := 6) (n := (yrs (kx x) s.1.1).1) rfl rfl p1.1.1 (GD_yrs (GC_D G.1.1)).1 (by decide)) _ _ _ ?_
        refine am_go 400 ?_
        refine (c_laysBack) _ _ _ ?_
        refine am_go 400 ?_
        show am_WP (am_psh g (some (.inl ((aoS (I1 30 0) 6 6 (yrs (kx x) s.1.1).1)))) :: gs) (d + 5) (mk (fl I1 30 0 0 150 (I1 43 0)) X) Q
        try rw [tk1]
        exact k2 h1 h2 I1 p1 nh3
      · have nh3 := mt (eq_nat (a := (kx w)) (b := 0) e_w (rfl : (0 : Int32) = nI 0) (by omega) (by omega)).mpr h3
        refine am_if (fun h4 => ?_) (fun h4 => ?_)
        · have nh4 := (eq_nat (a := (kx w)) (b := 1) e_w (rfl : (1 : Int32) = nI 1) (by omega) (by omega)).mp h4
          have tk2 : aoS (I1 30 0) 12 6 (yrs (kx x) s.1.1).1 = nI (hdA (yrs (kx x) s.1.1)) := ao_2 p1.1
          refine (c_X8_allOf (w := 12) (q := 6) (n := (yrs (kx x) s.1.1).1) rfl rfl p1.1.1 (GD_yrs (GC_D G.1.1)).1 (by decide)) _ _ _ ?_
          refine am_go 400 ?_
          refine (c_laysBack) _ _ _ ?_
          refine am_go 400 ?_
          show am_WP (am_psh g (some (.inl ((aoS (I1 30 0) 12 6 (yrs (kx x) s.1.1).1)))) :: gs) (d + 5) (mk (fl I1 30 0 0 150 (I1 43 0)) X) Q
          try rw [tk2]
          exact k3 h1 h2 I1 p1 nh3 nh4
        · have nh4 := mt (eq_nat (a := (kx w)) (b := 1) e_w (rfl : (1 : Int32) = nI 1) (by omega) (by omega)).mpr h4
          have bd : (gfN ((yrs (kx x) s.1.1).2.2.2 ((kx w) - 2)) (6 - ((yrs (kx x) s.1.1).2.2.2 ((kx w) - 2)).1 3)) ≤ 168 := gfN_le ((GD_yrs (n := kx x) (GC_D G.1.1)).2.2.2 ((kx w) - 2) (show (kx w) - 2 < (yrs (kx x) s.1.1).1 by rw [y_n]; show (kx w) - 2 < nb s; omega)) _
          refine (cE_X8_holds (k := ((kx w) - 2)) (p1.1.2.2.2.2.2 ((kx w) - 2) (show (kx w) - 2 < (yrs (kx x) s.1.1).1 by rw [y_n]; show (kx w) - 2 < nb s; omega)) ((GD_yrs (n := kx x) (GC_D G.1.1)).2.2.2 ((kx w) - 2) (show (kx w) - 2 < (yrs (kx x) s.1.1).1 by rw [y_n]; show (kx w) - 2 < nb s; omega)) (nI_subE e_w (rfl : (2 : Int32) = nI 2) (by omega)) (by omega)) _ _ _ ?_
          refine am_go 400 ?_
          refine (c_laysBack) _ _ _ ?_
          refine am_go 400 ?_
          exact k4 h1 h2 I1 p1 nh3 nh4
theorem p_X8_behind {I X d s} (h : RM I s) (G : GS s) (x w : Int32) : Sp mX8_behind [.inr (.inr (some (8, 0))), .inl (x), .inl (w)] (d + 4) I X (OM I X (f_behind s x w)) := fun g gs Q K => by
  have hn8 : nb s ≤ 8 := G.1.1.1
  have g8 : G8 s := G8_ G
  refine w_X8_behind h G  ?_ ?_ ?_ ?_ ?_
  · intro h0
    apply K_s K
    unfold f_behind
    rw [if_neg h0]
    exact ⟨rfl, h, FrM_r, rfl⟩
  · intro h0 h1
    obtain ⟨e_x, l_x⟩ := okl (m := 100) (by decide) h0
    apply K_s K
    unfold f_behind
    rw [if_pos h0, if_neg h1]
    exact ⟨rfl, h, FrM_r, rfl⟩
  · intro h0 h1 I1 p1 h3
    obtain ⟨e_x, l_x⟩ := okl (m := 100) (by decide) h0
    obtain ⟨e_w, l_w⟩ := okl (m := 1 + nb s) (by omega) (show 0 ≤ w ∧ w ≤ nI (1 + nb s) from by rw [← nI_add]; exact h1)
    have k_w := kx_lt w
    have y_n := yrs_n (n := kx x) (σ := s.1.1)
    apply K_s K
    unfold f_behind
    rw [if_pos h0, if_pos h1, if_pos h3]
    exact ⟨rfl, RM_lb h (Lb_Y Lb_0 p1.2), FrM_lb (Lb_Y Lb_0 p1.2), rfl⟩
  · intro h0 h1 I1 p1 h3 h4
    obtain ⟨e_x, l_x⟩ := okl (m := 100) (by decide) h0
    obtain ⟨e_w, l_w⟩ := okl (m := 1 + nb s) (by omega) (show 0 ≤ w ∧ w ≤ nI (1 + nb s) from by rw [← nI_add]; exact h1)
    have k_w := kx_lt w
    have y_n := yrs_n (n := kx x) (σ := s.1.1)
    apply K_s K
    unfold f_behind
    rw [if_pos h0, if_pos h1, if_neg h3, if_pos h4]
    exact ⟨rfl, RM_lb h (Lb_Y Lb_0 p1.2), FrM_lb (Lb_Y Lb_0 p1.2), rfl⟩
  · intro h0 h1 I1 p1 h3 h4
    obtain ⟨e_x, l_x⟩ := okl (m := 100) (by decide) h0
    obtain ⟨e_w, l_w⟩ := okl (m := 1 + nb s) (by omega) (show 0 ≤ w ∧ w ≤ nI (1 + nb s) from by rw [← nI_add]; exact h1)
    have k_w := kx_lt w
    have y_n := yrs_n (n := kx x) (σ := s.1.1)
    apply K_s K
    unfold f_behind
    rw [if_pos h0, if_pos h1, if_neg h3, if_neg h4]
    exact ⟨rfl, RM_lb h (Lb_Y Lb_0 p1.2), FrM_lb (Lb_Y Lb_0 p1.2), rfl⟩

