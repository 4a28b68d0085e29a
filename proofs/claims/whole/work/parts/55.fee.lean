def f_fee (s : St) : Int32 × St := (match lastT s.1.2.2 1 s.1.2.1 with
  | none => nI (crA s.1.1)
  | some t => tv (s.1.2.2 t) (nm3 (nI (crA s.1.1)) (nI (cH s 0)) 0), s)
def f_fine (s : St) (x : Int32) : Int32 × St := if isB s x then (match lastT s.1.2.2 2 s.1.2.1 with
  | none => nI ((bo s (kx x)).1 3)
  | some t => tv (s.1.2.2 t) (nm3 (nI ((bo s (kx x)).1 1)) (nI ((bo s (kx x)).1 3)) 0), s) else (cBAD, s)
def f_why (s : St) (x : Int32) : Int32 × St := if 0 ≤ x ∧ x ≤ 2 then (oI (lastT s.1.2.2 (kx x) s.1.2.1), s) else (cBAD, s)
def f_textTold (s : St) (x w : Int32) : Int32 × St := if 0 ≤ x ∧ x ≤ nI s.1.2.1 - 1 then if 0 ≤ w ∧ w ≤ 1 then if w = 0 then (nI (s.1.2.2 (kx x)).1, s) else (nI (s.1.2.2 (kx x)).2.1, s) else (cBAD, s) else (cBAD, s)
set_option maxRecDepth 100000 in
set_option maxHeartbeats 4000000 in
theorem w_feeC_0 {I : Nat → Nat → Nat → Int32} {X : am_Z} {g : am_F} {gs : List am_F} {d : Nat} {Q : Option am_V → am_M → Prop} {s : St} (h : RC I X s) (G : GS s) (hn : s.1.2.1 ≤ 14) (hl : lastT s.1.2.2 1 s.1.2.1 = none) (k0 : am_WP (am_psh g (some (.inl (nI (crA s.1.1)))) :: gs) (d + 4) (mk I X) Q) : am_WP (am_entry mX7_fee [.inr (.inr (some (7, 0)))] :: g :: gs) (d + 3) (mk I X) Q := by
  have hn8 : nb s ≤ 8 := G.1.1.1
  refine am_go 400 ?_
  refine (c_textOf_0 (c := 0) (q := 1) (rfl : (1 : Int32) = nI 1) (by decide) h.1.2 hl) _ _ _ ?_
  refine am_go 400 ?_
  refine (c_X1_crumbsOfAll (c := 0) h.1.1 (GC_D G.1.1) (by omega)) _ _ _ ?_
  refine am_go 400 ?_
  exact k0
set_option maxRecDepth 100000 in
set_option maxHeartbeats 4000000 in
theorem w_feeC_1 {I : Nat → Nat → Nat → Int32} {X : am_Z} {g : am_F} {gs : List am_F} {d : Nat} {Q : Option am_V → am_M → Prop} {s : St} (h : RC I X s) (G : GS s) (hn : s.1.2.1 ≤ 14) {t id : Nat} (hl : lastT s.1.2.2 1 s.1.2.1 = some t) (hid : X.1 0 t = some (6, id)) (hTx : TxC I X id (s.1.2.2 t)) (hGT : GT (s.1.2.2 t)) (k0 : ∀ (I1 : Im), (FrK I I1) → am_WP (am_psh g (some (.inl ((tv (s.1.2.2 t) (nm3 (nI (crA s.1.1)) ((nI (cH s 0))) (0)))))) :: gs) (d + 4) (mk I1 X) Q) : am_WP (am_entry mX7_fee [.inr (.inr (some (7, 0)))] :: g :: gs) (d + 3) (mk I X) Q := by
  have hn8 : nb s ≤ 8 := G.1.1.1
  refine am_go 400 ?_
  refine (c_textOf_1 (c := 0) (q := 1) (rfl : (1 : Int32) = nI 1) (by decide) h.1.2 hn hl hid) _ _ _ ?_
  refine am_go 400 ?_
  refine (c_X1_crumbsOfAll (c := 0) h.1.1 (GC_D G.1.1) (by omega)) _ _ _ ?_
  refine am_go 400 ?_
  have tk0 : I 1 0 7 = nI (cH s 0) := h.1.1.2.1
  refine (c_X6_gives hTx hGT) _ _ _ ?_
  intro I1 p1
  refine am_go 400 ?_
  show am_WP (am_psh g (some (.inl ((tv (s.1.2.2 t) (nm3 (nI (crA s.1.1)) ((I 1 0 7)) (0)))))) :: gs) (d + 4) (mk I1 X) Q
  try rw [tk0]
  exact k0 I1 p1
set_option maxRecDepth 100000 in
set_option maxHeartbeats 4000000 in
theorem w_feeM_0 {I : Nat → Nat → Nat → Int32} {X : am_Z} {g : am_F} {gs : List am_F} {d : Nat} {Q : Option am_V → am_M → Prop} {s : St} (h : RM I s) (G : GS s) (hn : s.1.2.1 ≤ 14) (hl : lastT s.1.2.2 1 s.1.2.1 = none) (k0 : am_WP (am_psh g (some (.inl ((nI (sumN (fun k => (s.1.1.2.2.2 k).1 4) 0 s.1.1.1))))) :: gs) (d + 3) (mk I X) Q) : am_WP (am_entry mX8_fee [.inr (.inr (some (8, 0)))] :: g :: gs) (d + 2) (mk I X) Q := by
  have hn8 : nb s ≤ 8 := G.1.1.1
  refine am_go 400 ?_
  refine (c_counts_0 (q := 1) (rfl : (1 : Int32) = nI 1) (by decide) h.1.2.1 hn h.1.2.2 G.1.2.2.2 hl) _ _ _ ?_
  refine am_go 400 ?_
  have tk0 : aoS (I 30 0) 4 1 s.1.1.1 = nI (sumN (fun k => (s.1.1.2.2.2 k).1 4) 0 s.1.1.1) := ao_0 h.1.1 (by decide)
  refine (c_X8_allOf (w := 4) (q := 1) (n := s.1.1.1) rfl rfl h.1.1.1 (GC_D G.1.1).1 (by decide)) _ _ _ ?_
  refine am_go 400 ?_
  show am_WP (am_psh g (some (.inl ((aoS (I 30 0) 4 1 s.1.1.1)))) :: gs) (d + 3) (mk I X) Q
  try rw [tk0]
  exact k0
set_option maxRecDepth 100000 in
set_option maxHeartbeats 4000000 in
theorem w_feeM_1 {I : Nat → Nat → Nat → Int32} {X : am_Z} {g : am_F} {gs : List am_F} {d : Nat} {Q : Option am_V → am_M → Prop} {s : St} (h : RM I s) (G : GS s) (hn : s.1.2.1 ≤ 14) {t : Nat} (hl : lastT s.1.2.2 1 s.1.2.1 = some t) (k0 : ∀ (I1 : Im), (FrV I I1) → am_WP (am_psh g (some (.inl ((tv (s.1.2.2 t) (nm3 ((nI (sumN (fun k => (s.1.1.2.2.2 k).1 4) 0 s.1.1.1))) ((nI (cH s 0))) (0)))))) :: gs) (d + 3) (mk I1 X) Q) : am_WP (am_entry mX8_fee [.inr (.inr (some (8, 0)))] :: g :: gs) (d + 2) (mk I X) Q := by
  have hn8 : nb s ≤ 8 := G.1.1.1
  have htn := (lastT_s hl).1
  refine am_go 400 ?_
  refine (c_counts_1 (q := 1) (rfl : (1 : Int32) = nI 1) (by decide) h.1.2.1 hn h.1.2.2 G.1.2.2.2 hl) _ _ _ ?_
  refine am_go 400 ?_
  have tk0 : aoS (I 30 0) 4 1 s.1.1.1 = nI (sumN (fun k => (s.1.1.2.2.2 k).1 4) 0 s.1.1.1) := ao_0 h.1.1 (by decide)
  refine (c_X8_allOf (w := 4) (q := 1) (n := s.1.1.1) rfl rfl h.1.1.1 (GC_D G.1.1).1 (by decide)) _ _ _ ?_
  refine am_go 400 ?_
  refine am_t ((le_nat (a := 0) (b := t) (rfl : (0 : Int32) = nI 0) (rfl : (nI t : Int32) = nI t) (by omega) (by omega)).mpr (Nat.zero_le _)) ?_
  have tk1 : (up3 I 45 0 (99) ((aoS (I 30 0) 4 1 s.1.1.1))) 30 0 2 = nI (cH s 0) := by first | exact h.1.1.2.1 | (((try rw [tk0])); first | done | exact h.1.1.2.1)
  refine (c_worked_1 (I := I) (a := (aoS (I 30 0) 4 1 s.1.1.1)) (b := ((up3 I 45 0 (99) ((aoS (I 30 0) 4 1 s.1.1.1))) 30 0 2)) (c := 0) (T := s.1.2.2 t) (rfl : (nI t : Int32) = nI t) (by omega) (h.1.2.2 t (by omega)) (G.1.2.2.2 t (by omega)) (lastT_s hl).2) _ _ _ ?_
  intro I1 p1
  refine am_go 400 ?_
  show am_WP (am_psh g (some (.inl ((tv (s.1.2.2 t) (nm3 ((aoS (I 30 0) 4 1 s.1.1.1)) (((up3 I 45 0 (99) ((aoS (I 30 0) 4 1 s.1.1.1))) 30 0 2)) (0)))))) :: gs) (d + 3) (mk I1 X) Q
  try rw [tk1]
  try rw [tk0]
  exact k0 I1 p1
theorem p_X7_fee {I X d s} (h : RC I X s) (G : GS s) : Sp mX7_fee [.inr (.inr (some (7, 0)))] (d + 3) I X (OC I X (f_fee s)) := fun g gs Q K => by
  have hn : s.1.2.1 ≤ 14 := G.1.2.2.1
  rcases hl : lastT s.1.2.2 1 s.1.2.1 with _ | t
  · have e : f_fee s = (nI (crA s.1.1), s) := by unfold f_fee; rw [hl]
    rw [e] at K
    exact w_feeC_0 h G hn hl (K_s K ⟨rfl, h, FrC_r⟩)
  · have e : f_fee s = (tv (s.1.2.2 t) (nm3 (nI (crA s.1.1)) (nI (cH s 0)) 0), s) := by unfold f_fee; rw [hl]
    rw [e] at K
    obtain ⟨id, hid, hTx⟩ := h.1.2.2.2 t (lastT_s hl).1
    exact w_feeC_1 h G hn hl hid hTx (G.1.2.2.2 t (lastT_s hl).1) (fun I1 p1 => K_s K ⟨rfl, RC_K h p1, FrC_K p1⟩)
theorem p_X8_fee {I X d s} (h : RM I s) (G : GS s) : Sp mX8_fee [.inr (.inr (some (8, 0)))] (d + 2) I X (OM I X (f_fee s)) := fun g gs Q K => by
  have hn : s.1.2.1 ≤ 14 := G.1.2.2.1
  rcases hl : lastT s.1.2.2 1 s.1.2.1 with _ | t
  · have e : f_fee s = (nI (crA s.1.1), s) := by unfold f_fee; rw [hl]
    rw [e] at K
    exact w_feeM_0 h G hn hl (K_s K ⟨rfl, h, FrM_r, rfl⟩)
  · have e : f_fee s = (tv (s.1.2.2 t) (nm3 (nI (crA s.1.1)) (nI (cH s 0)) 0), s) := by unfold f_fee; rw [hl]
    rw [e] at K
    exact w_feeM_1 h G hn hl (fun I1 p1 => K_s K ⟨rfl, RM_V h p1, FrM_V p1, rfl⟩)
set_option maxRecDepth 100000 in
set_option maxHeartbeats 4000000 in
theorem w_fineC_0 {I : Nat → Nat → Nat → Int32} {X : am_Z} {g : am_F} {gs : List am_F} {d : Nat} {Q : Option am_V → am_M → Prop} {s : St} (h : RC I X s) (G : GS s) (hn : s.1.2.1 ≤ 14) {x : Int32} (hl : lastT s.1.2.2 2 s.1.2.1 = none) (k0 : (¬ ((0 : Int32) ≤ x ∧ x ≤ (nI (nb s)) - 1)) → am_WP (am_psh g (some (.inl ((-1000000001)))) :: gs) (d + 4) (mk I X) Q) (k1 : ((0 : Int32) ≤ x ∧ x ≤ (nI (nb s)) - 1) → am_WP (am_psh g (some (.inl ((nI ((bo s (kx x)).1 3))))) :: gs) (d + 4) (mk I X) Q) : am_WP (am_entry mX7_fine [.inr (.inr (some (7, 0))), .inl (x)] :: g :: gs) (d + 3) (mk I X) Q := by
  have hn8 : nb s ≤ 8 := G.1.1.1
  refine am_go 400 ?_
  have tk0 : I 1 0 3 = nI (nb s) := h.1.1.1
  refine (c_X7_isBottle (x := x)) _ _ _ ?_
  refine am_go 400 ?_
  refine am_if (fun h1 => ?_) (fun h1 => ?_)
  · have h1 := bI_0.mp h1
    have h1 : ¬ ((0 : Int32) ≤ x ∧ x ≤ (I 1 0 3) - 1) := h1
    try rw [tk0] at h1
    exact k0 h1
  · have h1 := bI_1.mp h1
    have h1 : (0 : Int32) ≤ x ∧ x ≤ (I 1 0 3) - 1 := h1
    try rw [tk0] at h1
    obtain ⟨e_x, l_x⟩ := okb rfl hn8 h1
    obtain ⟨g0_x, g1_x, g2_x, g3_x, g5_x, gs_x⟩ := (GS_b G l_x)
    refine am_f (ix_in (n := (kx x)) (N := 8) e_x (by omega) (by decide)) ?_
    have tk1 : (x).toNatClampNeg = (kx x) := ix_cl (n := (kx x)) e_x (by omega)
    refine (c_textOf_0 (c := 0) (q := 2) (rfl : (2 : Int32) = nI 2) (by decide) h.1.2 hl) _ _ _ ?_
    refine am_go 400 ?_
    have bd : ((bo s (kx x)).1 3) ≤ 6 := (GS_b G (k := kx x) (by omega)).2.2.2.1
    have tk2 : I 0 (((x).toNatClampNeg)) 5 = nI ((bo s (kx x)).1 3) := by first | exact vC0 (j := 3) h (by omega) (by omega) | (((try rw [tk1])); first | done | exact vC0 (j := 3) h (by omega) (by omega))
    show am_WP (am_psh g (some (.inl ((I 0 (((x).toNatClampNeg)) 5)))) :: gs) (d + 4) (mk I X) Q
    try rw [tk2]
    try rw [tk1]
    exact k1 h1
set_option maxRecDepth 100000 in
set_option maxHeartbeats 4000000 in
theorem w_fineC_1 {I : Nat → Nat → Nat → Int32} {X : am_Z} {g : am_F} {gs : List am_F} {d : Nat} {Q : Option am_V → am_M → Prop} {s : St} (h : RC I X s) (G : GS s) (hn : s.1.2.1 ≤ 14) {x : Int32} {t id : Nat} (hl : lastT s.1.2.2 2 s.1.2.1 = some t) (hid : X.1 0 t = some (6, id)) (hTx : TxC I X id (s.1.2.2 t)) (hGT : GT (s.1.2.2 t)) (k0 : (¬ ((0 : Int32) ≤ x ∧ x ≤ (nI (nb s)) - 1)) → am_WP (am_psh g (some (.inl ((-1000000001)))) :: gs) (d + 4) (mk I X) Q) (k1 : ((0 : Int32) ≤ x ∧ x ≤ (nI (nb s)) - 1) → ∀ (I1 : Im), (FrK I I1) → am_WP (am_psh g (some (.inl ((tv (s.1.2.2 t) (nm3 ((nI ((bo s (kx x)).1 1))) ((nI ((bo s (kx x)).1 3))) (0)))))) :: gs) (d + 4) (mk I1 X) Q) : am_WP (am_entry mX7_fine [.inr (.inr (some (7, 0))), .inl (x)] :: g :: gs) (d + 3) (mk I X) Q := by
  have hn8 : nb s ≤ 8 := G.1.1.1
  refine am_go 400 ?_
  have tk0 : I 1 0 3 = nI (nb s) := h.1.1.1
  refine (c_X7_isBottle (x := x)) _ _ _ ?_
  refine am_go 400 ?_
  refine am_if (fun h1 => ?_) (fun h1 => ?_)
  · have h1 := bI_0.mp h1
    have h1 : ¬ ((0 : Int32) ≤ x ∧ x ≤ (I 1 0 3) - 1) := h1
    try rw [tk0] at h1
    exact k0 h1
  · have h1 := bI_1.mp h1
    have h1 : (0 : Int32) ≤ x ∧ x ≤ (I 1 0 3) - 1 := h1
    try rw [tk0] at h1
    obtain ⟨e_x, l_x⟩ := okb rfl hn8 h1
    obtain ⟨g0_x, g1_x, g2_x, g3_x, g5_x, gs_x⟩ := (GS_b G l_x)
    refine am_f (ix_in (n := (kx x)) (N := 8) e_x (by omega) (by decide)) ?_
    have tk1 : (x).toNatClampNeg = (kx x) := ix_cl (n := (kx x)) e_x (by omega)
    refine (c_textOf_1 (c := 0) (q := 2) (rfl : (2 : Int32) = nI 2) (by decide) h.1.2 hn hl hid) _ _ _ ?_
    refine am_go 400 ?_
    have bd : ((bo s (kx x)).1 1) ≤ 99 := (GS_b G (k := kx x) (by omega)).2.1
    have tk2 : I 0 (((x).toNatClampNeg)) 3 = nI ((bo s (kx x)).1 1) := by first | exact vC0 (j := 1) h (by omega) (by omega) | (((try rw [tk1])); first | done | exact vC0 (j := 1) h (by omega) (by omega))
    have bd : ((bo s (kx x)).1 3) ≤ 6 := (GS_b G (k := kx x) (by omega)).2.2.2.1
    have tk3 : I 0 (((x).toNatClampNeg)) 5 = nI ((bo s (kx x)).1 3) := by first | exact vC0 (j := 3) h (by omega) (by omega) | (((try rw [tk1])); first | done | exact vC0 (j := 3) h (by omega) (by omega))
    refine (c_X6_gives hTx hGT) _ _ _ ?_
    intro I1 p1
    refine am_go 400 ?_
    show am_WP (am_psh g (some (.inl ((tv (s.1.2.2 t) (nm3 ((I 0 (((x).toNatClampNeg)) 3)) ((I 0 (((x).toNatClampNeg)) 5)) (0)))))) :: gs) (d + 4) (mk I1 X) Q
    try rw [tk3]
    try rw [tk2]
    try rw [tk1]
    exact k1 h1 I1 p1
set_option maxRecDepth 100000 in
set_option maxHeartbeats 4000000 in
theorem w_fineM_0 {I : Nat → Nat → Nat → Int32} {X : am_Z} {g : am_F} {gs : List am_F} {d : Nat} {Q : Option am_V → am_M → Prop} {s : St} (h : RM I s) (G : GS s) (hn : s.1.2.1 ≤ 14) {x : Int32} (hl : lastT s.1.2.2 2 s.1.2.1 = none) (k0 : (¬ ((0 : Int32) ≤ x ∧ x ≤ (nI (nb s)) - 1)) → am_WP (am_psh g (some (.inl ((-1000000001)))) :: gs) (d + 3) (mk I X) Q) (k1 : ((0 : Int32) ≤ x ∧ x ≤ (nI (nb s)) - 1) → am_WP (am_psh g (some (.inl ((nI ((bo s (kx x)).1 3))))) :: gs) (d + 3) (mk I X) Q) : am_WP (am_entry mX8_fine [.inr (.inr (some (8, 0))), .inl (x)] :: g :: gs) (d + 2) (mk I X) Q := by
  have hn8 : nb s ≤ 8 := G.1.1.1
  refine am_go 400 ?_
  have tk0 : I 30 0 0 = nI (nb s) := h.1.1.1
  refine (c_X8_isBottle (x := x)) _ _ _ ?_
  refine am_go 400 ?_
  refine am_if (fun h1 => ?_) (fun h1 => ?_)
  · have h1 := bI_0.mp h1
    have h1 : ¬ ((0 : Int32) ≤ x ∧ x ≤ (I 30 0 0) - 1) := h1
    try rw [tk0] at h1
    exact k0 h1
  · have h1 := bI_1.mp h1
    have h1 : (0 : Int32) ≤ x ∧ x ≤ (I 30 0 0) - 1 := h1
    try rw [tk0] at h1
    obtain ⟨e_x, l_x⟩ := okb rfl hn8 h1
    obtain ⟨g0_x, g1_x, g2_x, g3_x, g5_x, gs_x⟩ := (GS_b G l_x)
    refine (c_counts_0 (q := 2) (rfl : (2 : Int32) = nI 2) (by decide) h.1.2.1 hn h.1.2.2 G.1.2.2.2 hl) _ _ _ ?_
    refine am_go 400 ?_
    have bd : ((bo s (kx x)).1 3) ≤ 6 := (GS_b G (k := kx x) (by omega)).2.2.2.1
    have tk1 : I 30 0 (6 + 18 * (kx x) + 3) = nI ((bo s (kx x)).1 3) := vM0 (k := kx x) (j := 3) h (by omega) (by omega)
    refine (c8_of (k := (kx x)) (j := 3) e_x rfl (by omega)) _ _ _ ?_
    refine am_go 400 ?_
    show am_WP (am_psh g (some (.inl ((I 30 0 (6 + 18 * (kx x) + 3))))) :: gs) (d + 3) (mk I X) Q
    try rw [tk1]
    exact k1 h1
set_option maxRecDepth 100000 in
set_option maxHeartbeats 4000000 in
theorem w_fineM_1 {I : Nat → Nat → Nat → Int32} {X : am_Z} {g : am_F} {gs : List am_F} {d : Nat} {Q : Option am_V → am_M → Prop} {s : St} (h : RM I s) (G : GS s) (hn : s.1.2.1 ≤ 14) {x : Int32} {t : Nat} (hl : lastT s.1.2.2 2 s.1.2.1 = some t) (k0 : (¬ ((0 : Int32) ≤ x ∧ x ≤ (nI (nb s)) - 1)) → am_WP (am_psh g (some (.inl ((-1000000001)))) :: gs) (d + 3) (mk I X) Q) (k1 : ((0 : Int32) ≤ x ∧ x ≤ (nI (nb s)) - 1) → ∀ (I1 : Im), (FrV I I1) → am_WP (am_psh g (some (.inl ((tv (s.1.2.2 t) (nm3 ((nI ((bo s (kx x)).1 1))) ((nI ((bo s (kx x)).1 3))) (0)))))) :: gs) (d + 3) (mk I1 X) Q) : am_WP (am_entry mX8_fine [.inr (.inr (some (8, 0))), .inl (x)] :: g :: gs) (d + 2) (mk I X) Q := by
  have hn8 : nb s ≤ 8 := G.1.1.1
  have htn := (lastT_s hl).1
  refine am_go 400 ?_
  have tk0 : I 30 0 0 = nI (nb s) := h.1.1.1
  refine (c_X8_isBottle (x := x)) _ _ _ ?_
  refine am_go 400 ?_
  refine am_if (fun h1 => ?_) (fun h1 => ?_)
  · have h1 := bI_0.mp h1
    have h1 : ¬ ((0 : Int32) ≤ x ∧ x ≤ (I 30 0 0) - 1) := h1
    try rw [tk0] at h1
    exact k0 h1
  · have h1 := bI_1.mp h1
    have h1 : (0 : Int32) ≤ x ∧ x ≤ (I 30 0 0) - 1 := h1
    try rw [tk0] at h1
    obtain ⟨e_x, l_x⟩ := okb rfl hn8 h1
    obtain ⟨g0_x, g1_x, g2_x, g3_x, g5_x, gs_x⟩ := (GS_b G l_x)
    refine (c_counts_1 (q := 2) (rfl : (2 : Int32) = nI 2) (by decide) h.1.2.1 hn h.1.2.2 G.1.2.2.2 hl) _ _ _ ?_
    refine am_go 400 ?_
    refine am_t ((le_nat (a := 0) (b := t) (rfl : (0 : Int32) = nI 0) (rfl : (nI t : Int32) = nI t) (by omega) (by omega)).mpr (Nat.zero_le _)) ?_
    have bd : ((bo s (kx x)).1 1) ≤ 99 := (GS_b G (k := kx x) (by omega)).2.1
    have tk1 : I 30 0 (6 + 18 * (kx x) + 1) = nI ((bo s (kx x)).1 1) := vM0 (k := kx x) (j := 1) h (by omega) (by omega)
    refine (c8_of (k := (kx x)) (j := 1) e_x rfl (by omega)) _ _ _ ?_
    refine am_go 400 ?_
    have bd : ((bo s (kx x)).1 3) ≤ 6 := (GS_b G (k := kx x) (by omega)).2.2.2.1
    have tk2 : (up3 I 45 0 (121) ((I 30 0 (6 + 18 * (kx x) + 1)))) 30 0 (6 + 18 * (kx x) + 3) = nI ((bo s (kx x)).1 3) := by first | exact vM0 (k := kx x) (j := 3) h (by omega) (by omega) | (((try rw [tk1])); first | done | exact vM0 (k := kx x) (j := 3) h (by omega) (by omega))
    refine (c8_of (k := (kx x)) (j := 3) e_x rfl (by omega)) _ _ _ ?_
    refine am_go 400 ?_
    refine (c_worked_2 (I := I) (a := (I 30 0 (6 + 18 * (kx x) + 1))) (b := ((up3 I 45 0 (121) ((I 30 0 (6 + 18 * (kx x) + 1)))) 30 0 (6 + 18 * (kx x) + 3))) (c := 0) (T := s.1.2.2 t) (rfl : (nI t : Int32) = nI t) (by omega) (h.1.2.2 t (by omega)) (G.1.2.2.2 t (by omega)) (lastT_s hl).2) _ _ _ ?_
    intro I1 p1
    refine am_go 400 ?_
    show am_WP (am_psh g (some (.inl ((tv (s.1.2.2 t) (nm3 ((I 30 0 (6 + 18 * (kx x) + 1))) (((up3 I 45 0 (121) ((I 30 0 (6 + 18 * (kx x) + 1)))) 30 0 (6 + 18 * (kx x) + 3))) (0)))))) :: gs) (d + 3) (mk I1 X) Q
    try rw [tk2]
    try rw [tk1]
    exact k1 h1 I1 p1
theorem p_X7_fine {I X d s} (h : RC I X s) (G : GS s) (x : Int32) : Sp mX7_fine [.inr (.inr (some (7, 0))), .inl x] (d + 3) I X (OC I X (f_fine s x)) := fun g gs Q K => by
  have hn : s.1.2.1 ≤ 14 := G.1.2.2.1
  rcases hl : lastT s.1.2.2 2 s.1.2.1 with _ | t
  · refine w_fineC_0 h G hn hl ?_ ?_
    · intro h0
      have e : f_fine s x = (cBAD, s) := by unfold f_fine; rw [if_neg h0]
      rw [e] at K; exact K_s K ⟨rfl, h, FrC_r⟩
    · intro h0
      have e : f_fine s x = (nI ((bo s (kx x)).1 3), s) := by unfold f_fine; rw [if_pos h0, hl]
      rw [e] at K; exact K_s K ⟨rfl, h, FrC_r⟩
  · obtain ⟨id, hid, hTx⟩ := h.1.2.2.2 t (lastT_s hl).1
    refine w_fineC_1 h G hn hl hid hTx (G.1.2.2.2 t (lastT_s hl).1) ?_ ?_
    · intro h0
      have e : f_fine s x = (cBAD, s) := by unfold f_fine; rw [if_neg h0]
      rw [e] at K; exact K_s K ⟨rfl, h, FrC_r⟩
    · intro h0 I1 p1
      have e : f_fine s x = (tv (s.1.2.2 t) (nm3 (nI ((bo s (kx x)).1 1)) (nI ((bo s (kx x)).1 3)) 0), s) := by unfold f_fine; rw [if_pos h0, hl]
      rw [e] at K; exact K_s K ⟨rfl, RC_K h p1, FrC_K p1⟩
theorem p_X8_fine {I X d s} (h : RM I s) (G : GS s) (x : Int32) : Sp mX8_fine [.inr (.inr (some (8, 0))), .inl x] (d + 2) I X (OM I X (f_fine s x)) := fun g gs Q K => by
  have hn : s.1.2.1 ≤ 14 := G.1.2.2.1
  rcases hl : lastT s.1.2.2 2 s.1.2.1 with _ | t
  · refine w_fineM_0 h G hn hl ?_ ?_
    · intro h0
      have e : f_fine s x = (cBAD, s) := by unfold f_fine; rw [if_neg h0]
      rw [e] at K; exact K_s K ⟨rfl, h, FrM_r, rfl⟩
    · intro h0
      have e : f_fine s x = (nI ((bo s (kx x)).1 3), s) := by unfold f_fine; rw [if_pos h0, hl]
      rw [e] at K; exact K_s K ⟨rfl, h, FrM_r, rfl⟩
  · refine w_fineM_1 h G hn hl ?_ ?_
    · intro h0
      have e : f_fine s x = (cBAD, s) := by unfold f_fine; rw [if_neg h0]
      rw [e] at K; exact K_s K ⟨rfl, h, FrM_r, rfl⟩
    · intro h0 I1 p1
      have e : f_fine s x = (tv (s.1.2.2 t) (nm3 (nI ((bo s (kx x)).1 1)) (nI ((bo s (kx x)).1 3)) 0), s) := by unfold f_fine; rw [if_pos h0, hl]
      rw [e] at K; exact K_s K ⟨rfl, RM_V h p1, FrM_V p1, rfl⟩
set_option maxRecDepth 100000 in
set_option maxHeartbeats 4000000 in
theorem w_X7_why {I : Nat → Nat → Nat → Int32} {X : am_Z} {g : am_F} {gs : List am_F} {d : Nat} {Q : Option am_V → am_M → Prop} {s : St} (h : RC I X s) (G : GS s) {x : Int32} (k0 : (¬ ((0 : Int32) ≤ x ∧ x ≤ 2)) → am_WP (am_psh g (some (.inl ((-1000000001)))) :: gs) (d + 2) (mk I X) Q) (k1 : ((0 : Int32) ≤ x ∧ x ≤ 2) → am_WP (am_psh g (some (.inl (((oI (lastT s.1.2.2 (kx x) s.1.2.1)))))) :: gs) (d + 2) (mk I X) Q) : am_WP (am_entry mX7_why [.inr (.inr (some (7, 0))), .inl (x)] :: g :: gs) (d + 1) (mk I X) Q := by
  have hn8 : nb s ≤ 8 := G.1.1.1
  refine am_go 400 ?_
  refine (c_X7_within (x) (0) (2)) _ _ _ ?_
  refine am_go 400 ?_
  refine am_if (fun h1 => ?_) (fun h1 => ?_)
  · have h1 := bI_0.mp h1
    exact k0 h1
  · have h1 := bI_1.mp h1
    obtain ⟨e_x, l_x⟩ := okl (m := 2) (by decide) h1
    refine am_f (ix_in (n := (kx x)) (N := 3) e_x (by omega) (by decide)) ?_
    have tk0 : (x).toNatClampNeg = (kx x) := ix_cl (n := (kx x)) e_x (by omega)
    have tk1 : I 18 0 (((x).toNatClampNeg)) = (oI (lastT s.1.2.2 (kx x) s.1.2.1)) := by first | exact h.1.2.2.1 _ (by omega) | (((try rw [tk0])); first | done | exact h.1.2.2.1 _ (by omega))
    show am_WP (am_psh g (some (.inl ((I 18 0 (((x).toNatClampNeg)))))) :: gs) (d + 2) (mk I X) Q
    try rw [tk1]
    try rw [tk0]
    exact k1 h1
theorem p_X7_why {I X d s} (h : RC I X s) (G : GS s) (x : Int32) : Sp mX7_why [.inr (.inr (some (7, 0))), .inl (x)] (d + 1) I X (OC I X (f_why s x)) := fun g gs Q K => by
  have hn8 : nb s ≤ 8 := G.1.1.1
  have g8 : G8 s := G8_ G
  refine w_X7_why h G  ?_ ?_
  · intro h0
    apply K_s K
    unfold f_why
    rw [if_neg h0]
    exact ⟨rfl, h, FrC_r⟩
  · intro h0
    obtain ⟨e_x, l_x⟩ := okl (m := 2) (by decide) h0
    apply K_s K
    unfold f_why
    rw [if_pos h0]
    exact ⟨rfl, h, FrC_r⟩

set_option maxRecDepth 100000 in
set_option maxHeartbeats 4000000 in
theorem w_X8_why {I : Nat → Nat → Nat → Int32} {X : am_Z} {g : am_F} {gs : List am_F} {d : Nat} {Q : Option am_V → am_M → Prop} {s : St} (h : RM I s) (G : GS s) {x : Int32} (k0 : (¬ ((0 : Int32) ≤ x ∧ x ≤ 2)) → am_WP (am_psh g (some (.inl ((-1000000001)))) :: gs) (d + 3) (mk I X) Q) (k1 : ((0 : Int32) ≤ x ∧ x ≤ 2) → (0 ≤ (oM (lastT s.1.2.2 (kx x) s.1.2.1))) → am_WP (am_psh g (some (.inl ((oM (lastT s.1.2.2 (kx x) s.1.2.1))))) :: gs) (d + 3) (mk I X) Q) (k2 : ((0 : Int32) ≤ x ∧ x ≤ 2) → (¬ 0 ≤ (oM (lastT s.1.2.2 (kx x) s.1.2.1))) → am_WP (am_psh g (some (.inl ((-1000000005)))) :: gs) (d + 3) (mk I X) Q) : am_WP (am_entry mX8_why [.inr (.inr (some (8, 0))), .inl (x)] :: g :: gs) (d + 2) (mk I X) Q := by
  have hn8 : nb s ≤ 8 := G.1.1.1
  refine am_go 400 ?_
  refine (m_isIn (x) (0) (2) _ _) _ _ _ ?_
  refine am_go 400 ?_
  refine am_if (fun h1 => ?_) (fun h1 => ?_)
  · have h1 := bI_0.mp h1
    exact k0 h1
  · have h1 := bI_1.mp h1
    obtain ⟨e_x, l_x⟩ := okl (m := 2) (by decide) h1
    refine (c_X8_counts (q := (kx x)) e_x (by omega) h.1.2.1 G.1.2.2.1 h.1.2.2 G.1.2.2.2) _ _ _ ?_
    refine am_go 400 ?_
    refine am_go 400 ?_
    refine am_if (fun h2 => ?_) (fun h2 => ?_)
    · refine am_go 400 ?_
      exact k1 h1 h2
    · refine am_go 400 ?_
      exact k2 h1 h2
theorem p_X8_why {I X d s} (h : RM I s) (G : GS s) (x : Int32) : Sp mX8_why [.inr (.inr (some (8, 0))), .inl (x)] (d + 2) I X (OM I X (f_why s x)) := fun g gs Q K => by
  have hn8 : nb s ≤ 8 := G.1.1.1
  have g8 : G8 s := G8_ G
  refine w_X8_why h G  ?_ ?_ ?_
  · intro h0
    apply K_s K
    unfold f_why
    rw [if_neg h0]
    exact ⟨rfl, h, FrM_r, rfl⟩
  · intro h0 h1
    obtain ⟨e_x, l_x⟩ := okl (m := 2) (by decide) h0
    apply K_s K
    unfold f_why
    rw [if_pos h0]
    rcases hl : lastT s.1.2.2 (kx x) s.1.2.1 with _ | t
    · rw [hl] at h1; exact absurd h1 (by decide)
    · rw [hl] at h1; exact ⟨rfl, h, FrM_r, rfl⟩
  · intro h0 h1
    obtain ⟨e_x, l_x⟩ := okl (m := 2) (by decide) h0
    apply K_s K
    unfold f_why
    rw [if_pos h0]
    rcases hl : lastT s.1.2.2 (kx x) s.1.2.1 with _ | t
    · rw [hl] at h1; exact ⟨rfl, h, FrM_r, rfl⟩
    · rw [hl] at h1; exact absurd (nI_pos' (by have := (lastT_s hl).1; have := G.1.2.2.1; omega)) h1

set_option maxRecDepth 100000 in
set_option maxHeartbeats 4000000 in
theorem w_X7_textTold {I : Nat → Nat → Nat → Int32} {X : am_Z} {g : am_F} {gs : List am_F} {d : Nat} {Q : Option am_V → am_M → Prop} {s : St} (h : RC I X s) (G : GS s) {x w : Int32} (k0 : (¬ ((0 : Int32) ≤ x ∧ x ≤ ((nI s.1.2.1) - 1))) → am_WP (am_psh g (some (.inl ((-1000000001)))) :: gs) (d + 2) (mk I X) Q) (k1 : ((0 : Int32) ≤ x ∧ x ≤ ((nI s.1.2.1) - 1)) → (¬ ((0 : Int32) ≤ w ∧ w ≤ 1)) → am_WP (am_psh g (some (.inl ((-1000000001)))) :: gs) (d + 2) (mk I X) Q) (k2 : ((0 : Int32) ≤ x ∧ x ≤ ((nI s.1.2.1) - 1)) → ((0 : Int32) ≤ w ∧ w ≤ 1) → (w = 0) → am_WP (am_psh g (some (.inl ((nI (s.1.2.2 (kx x)).1)))) :: gs) (d + 2) (mk I X) Q) (k3 : ((0 : Int32) ≤ x ∧ x ≤ ((nI s.1.2.1) - 1)) → ((0 : Int32) ≤ w ∧ w ≤ 1) → (¬ w = 0) → am_WP (am_psh g (some (.inl ((nI (s.1.2.2 (kx x)).2.1)))) :: gs) (d + 2) (mk I X) Q) : am_WP (am_entry mX7_textTold [.inr (.inr (some (7, 0))), .inl (x), .inl (w)] :: g :: gs) (d + 1) (mk I X) Q := by
  have hn8 : nb s ≤ 8 := G.1.1.1
  refine am_go 400 ?_
  have tk0 : I 1 0 4 = nI s.1.2.1 := h.1.2.1
  refine (c_X7_within (x) (0) (((I 1 0 4) - 1))) _ _ _ ?_
  refine am_go 400 ?_
  refine am_if (fun h1 => ?_) (fun h1 => ?_)
  · have h1 := bI_0.mp h1
    have h1 : ¬ ((0 : Int32) ≤ x ∧ x ≤ ((I 1 0 4) - 1)) := h1
    try rw [tk0] at h1
    exact k0 h1
  · have h1 := bI_1.mp h1
    have h1 : (0 : Int32) ≤ x ∧ x ≤ ((I 1 0 4) - 1) := h1
    try rw [tk0] at h1
    obtain ⟨e_x, l_x⟩ := okn rfl (by have := G.1.2.2.1; omega) h1
    have hn14 : s.1.2.1 ≤ 14 := G.1.2.2.1
    obtain ⟨id, hid, hTx⟩ := h.1.2.2.2 (kx x) l_x
    refine (c_X7_within (w) (0) (1)) _ _ _ ?_
    refine am_go 400 ?_
    refine am_if (fun h2 => ?_) (fun h2 => ?_)
    · have h2 := bI_0.mp h2
      exact k1 h1 h2
    · have h2 := bI_1.mp h2
      refine am_if (fun h3 => ?_) (fun h3 => ?_)
      · refine am_f (ix_in (n := (kx x)) (N := 14) e_x (by omega) (by decide)) ?_
        have tk1 : (x).toNatClampNeg = (kx x) := ix_cl (n := (kx x)) e_x (by omega)
        refine am_cut ?_
        show am_WP ((mX7_textTold, 42, [some (.inr (.inr (some (7, 0)))), some (.inl (x)), some (.inl (w))], [.inr (.inr (X.1 0 (((x).toNatClampNeg))))]) :: g :: gs) (d + 1) (mk I X) Q
        rw [show X.1 0 (((x).toNatClampNeg)) = some (6, id) from by (try rw [tk1]); exact hid]
        refine am_go 400 ?_
        have tk2 : I 6 id 0 = nI (s.1.2.2 (kx x)).1 := hTx.2.1
        show am_WP (am_psh g (some (.inl ((I 6 id 0)))) :: gs) (d + 2) (mk I X) Q
        try rw [tk2]
        exact k2 h1 h2 h3
      · refine am_f (ix_in (n := (kx x)) (N := 14) e_x (by omega) (by decide)) ?_
        have tk3 : (x).toNatClampNeg = (kx x) := ix_cl (n := (kx x)) e_x (by omega)
        refine am_cut ?_
        show am_WP ((mX7_textTold, 57, [some (.inr (.inr (some (7, 0)))), some (.inl (x)), some (.inl (w))], [.inr (.inr (X.1 0 (((x).toNatClampNeg))))]) :: g :: gs) (d + 1) (mk I X) Q
        rw [show X.1 0 (((x).toNatClampNeg)) = some (6, id) from by (try rw [tk3]); exact hid]
        refine am_go 400 ?_
        have tk4 : I 6 id 1 = nI (s.1.2.2 (kx x)).2.1 := hTx.2.2.1
        show am_WP (am_psh g (some (.inl ((I 6 id 1)))) :: gs) (d + 2) (mk I X) Q
        try rw [tk4]
        exact k3 h1 h2 h3
theorem p_X7_textTold {I X d s} (h : RC I X s) (G : GS s) (x w : Int32) : Sp mX7_textTold [.inr (.inr (some (7, 0))), .inl (x), .inl (w)] (d + 1) I X (OC I X (f_textTold s x w)) := fun g gs Q K => by
  have hn8 : nb s ≤ 8 := G.1.1.1
  have g8 : G8 s := G8_ G
  refine w_X7_textTold h G  ?_ ?_ ?_ ?_
  · intro h0
    apply K_s K
    unfold f_textTold
    rw [if_neg h0]
    exact ⟨rfl, h, FrC_r⟩
  · intro h0 h1
    obtain ⟨e_x, l_x⟩ := okn rfl (by have := G.1.2.2.1; omega) h0
    have hn14 : s.1.2.1 ≤ 14 := G.1.2.2.1
    obtain ⟨id, hid, hTx⟩ := h.1.2.2.2 (kx x) l_x
    apply K_s K
    unfold f_textTold
    rw [if_pos h0, if_neg h1]
    exact ⟨rfl, h, FrC_r⟩
  · intro h0 h1 h2
    obtain ⟨e_x, l_x⟩ := okn rfl (by have := G.1.2.2.1; omega) h0
    have hn14 : s.1.2.1 ≤ 14 := G.1.2.2.1
    obtain ⟨id, hid, hTx⟩ := h.1.2.2.2 (kx x) l_x
    apply K_s K
    unfold f_textTold
    rw [if_pos h0, if_pos h1, if_pos h2]
    exact ⟨rfl, h, FrC_r⟩
  · intro h0 h1 h2
    obtain ⟨e_x, l_x⟩ := okn rfl (by have := G.1.2.2.1; omega) h0
    have hn14 : s.1.2.1 ≤ 14 := G.1.2.2.1
    obtain ⟨id, hid, hTx⟩ := h.1.2.2.2 (kx x) l_x
    apply K_s K
    unfold f_textTold
    rw [if_pos h0, if_pos h1, if_neg h2]
    exact ⟨rfl, h, FrC_r⟩

set_option maxRecDepth 100000 in
set_option maxHeartbeats 4000000 in
theorem w_X8_textTold {I : Nat → Nat → Nat → Int32} {X : am_Z} {g : am_F} {gs : List am_F} {d : Nat} {Q : Option am_V → am_M → Prop} {s : St} (h : RM I s) (G : GS s) {x w : Int32} (k0 : (¬ ((0 : Int32) ≤ x ∧ x ≤ (nI s.1.2.1) - 1)) → am_WP (am_psh g (some (.inl ((-1000000001)))) :: gs) (d + 3) (mk I X) Q) (k1 : ((0 : Int32) ≤ x ∧ x ≤ (nI s.1.2.1) - 1) → (¬ ((0 : Int32) ≤ w ∧ w ≤ 1)) → am_WP (am_psh g (some (.inl ((-1000000001)))) :: gs) (d + 3) (mk I X) Q) (k2 : ((0 : Int32) ≤ x ∧ x ≤ (nI s.1.2.1) - 1) → ((0 : Int32) ≤ w ∧ w ≤ 1) → am_WP (am_psh g (some (.inl ((I 30 0 ((((150 + 200 * (kx x)) + (kx w)))))))) :: gs) (d + 3) (mk I X) Q) : am_WP (am_entry mX8_textTold [.inr (.inr (some (8, 0))), .inl (x), .inl (w)] :: g :: gs) (d + 2) (mk I X) Q := by
  have hn8 : nb s ≤ 8 := G.1.1.1
  refine am_go 400 ?_
  have tk0 : I 30 0 1 = nI s.1.2.1 := h.1.2.1
  refine (c_X8_isText (x := x)) _ _ _ ?_
  refine am_go 400 ?_
  refine am_if (fun h1 => ?_) (fun h1 => ?_)
  · have h1 := bI_0.mp h1
    have h1 : ¬ ((0 : Int32) ≤ x ∧ x ≤ (I 30 0 1) - 1) := h1
    try rw [tk0] at h1
    exact k0 h1
  · have h1 := bI_1.mp h1
    have h1 : (0 : Int32) ≤ x ∧ x ≤ (I 30 0 1) - 1 := h1
    try rw [tk0] at h1
    obtain ⟨e_x, l_x⟩ := okn rfl (by have := G.1.2.2.1; omega) h1
    have hn14 : s.1.2.1 ≤ 14 := G.1.2.2.1
    refine (m_isIn (w) (0) (1) _ _) _ _ _ ?_
    refine am_go 400 ?_
    refine am_if (fun h2 => ?_) (fun h2 => ?_)
    · have h2 := bI_0.mp h2
      exact k1 h1 h2
    · have h2 := bI_1.mp h2
      obtain ⟨e_w, l_w⟩ := okl (m := 1) (by decide) h2
      refine (c8_textAt (t := (kx x)) e_x) _ _ _ ?_
      refine am_go 400 ?_
      refine am_f (ix_in (n := ((150 + 200 * (kx x)) + (kx w))) (N := 3150) (nI_addE rfl e_w) (by omega) (by decide)) ?_
      have tk1 : ((nI (150 + 200 * (kx x)) + w)).toNatClampNeg = ((150 + 200 * (kx x)) + (kx w)) := ix_cl (n := ((150 + 200 * (kx x)) + (kx w))) (nI_addE rfl e_w) (by omega)
      show am_WP (am_psh g (some (.inl ((I 30 0 ((((nI (150 + 200 * (kx x)) + w)).toNatClampNeg)))))) :: gs) (d + 3) (mk I X) Q
      try rw [tk1]
      exact k2 h1 h2
theorem p_X8_textTold {I X d s} (h : RM I s) (G : GS s) (x w : Int32) : Sp mX8_textTold [.inr (.inr (some (8, 0))), .inl (x), .inl (w)] (d + 2) I X (OM I X (f_textTold s x w)) := fun g gs Q K => by
  have hn8 : nb s ≤ 8 := G.1.1.1
  have g8 : G8 s := G8_ G
  refine w_X8_textTold h G  ?_ ?_ ?_
  · intro h0
    apply K_s K
    unfold f_textTold
    rw [if_neg h0]
    exact ⟨rfl, h, FrM_r, rfl⟩
  · intro h0 h1
    obtain ⟨e_x, l_x⟩ := okn rfl (by have := G.1.2.2.1; omega) h0
    have hn14 : s.1.2.1 ≤ 14 := G.1.2.2.1
    apply K_s K
    unfold f_textTold
    rw [if_pos h0, if_neg h1]
    exact ⟨rfl, h, FrM_r, rfl⟩
  · intro h0 h1
    obtain ⟨e_x, l_x⟩ := okn rfl (by have := G.1.2.2.1; omega) h0
    have hn14 : s.1.2.1 ≤ 14 := G.1.2.2.1
    obtain ⟨e_w, l_w⟩ := okl (m := 1) (by decide) h1
    by_cases w0 : w = 0
    · have q : kx w = 0 := by rw [w0]; rfl
      have e2 : I 30 0 (150 + 200 * kx x + kx w) = nI (s.1.2.2 (kx x)).1 := by rw [q]; exact (h.1.2.2 (kx x) l_x).1
      apply K_s K
      unfold f_textTold
      rw [if_pos h0, if_pos h1, if_pos w0]
      exact ⟨e2, h, FrM_r, rfl⟩
    · have q : kx w = 1 := by have := mt (eq_nat (b := 0) e_w rfl (by omega) (by decide)).mpr w0; omega
      have e2 : I 30 0 (150 + 200 * kx x + kx w) = nI (s.1.2.2 (kx x)).2.1 := by rw [q]; exact (h.1.2.2 (kx x) l_x).2.1
      apply K_s K
      unfold f_textTold
      rw [if_pos h0, if_pos h1, if_neg w0]
      exact ⟨e2, h, FrM_r, rfl⟩

