set_option maxRecDepth 100000 in
set_option maxHeartbeats 4000000 in
theorem w_X4_becomeAs {I : Nat → Nat → Nat → Int32} {X : am_Z} {g : am_F} {gs : List am_F} {d : Nat} {Q : Option am_V → am_M → Prop} {p q : Nat} (hne : p ≠ q) (k0 : am_WP (am_psh g none :: gs) (d + 1) (mk (up2 (up3 (up3 I 4 p (1) ((I 4 q 1))) 4 p (2) ((I 4 q 2))) 25 p (va_cpy ((up3 (up3 I 4 p (1) ((I 4 q 1))) 4 p (2) ((I 4 q 2))) 25 q) ((up3 (up3 I 4 p (1) ((I 4 q 1))) 4 p (2) ((I 4 q 2))) 25 p) 0 0 24)) X) Q) : am_WP (am_entry mX4_becomeAs [.inr (.inr (some (4, p))), .inr (.inr (some (4, q)))] :: g :: gs) (d) (mk I X) Q := by
  refine am_go 400 ?_
  have tk0 : (up3 I 4 p (1) ((I 4 q 1))) 4 q 2 = I 4 q 2 := ((up3_ne _ (Or.inr (by omega)))).trans rfl
  show am_WP (am_psh g none :: gs) (d + 1) (mk (up2 (up3 (up3 I 4 p (1) ((I 4 q 1))) 4 p (2) (((up3 I 4 p (1) ((I 4 q 1))) 4 q 2))) 25 p (va_cpy ((up3 (up3 I 4 p (1) ((I 4 q 1))) 4 p (2) (((up3 I 4 p (1) ((I 4 q 1))) 4 q 2))) 25 q) ((up3 (up3 I 4 p (1) ((I 4 q 1))) 4 p (2) (((up3 I 4 p (1) ((I 4 q 1))) 4 q 2))) 25 p) 0 0 24)) X) Q
  try rw [tk0]
  exact k0
theorem c_X4_becomeAs {I : Im} {X d} {p q : Nat} (hne : p ≠ q) : Rt mX4_becomeAs [.inr (.inr (some (4, p))), .inr (.inr (some (4, q)))] d (mk I X) none (mk (up2 (up3 (up3 I 4 p 1 (I 4 q 1)) 4 p 2 (I 4 q 2)) 25 p (va_cpy (I 25 q) (I 25 p) 0 0 24)) X) := fun g gs Q K => w_X4_becomeAs hne K
def stS (s : St) (k : Nat) (v : Sl) : St := (s.1, s.2.1, s.2.2.1, fu s.2.2.2.1 k v, s.2.2.2.2)
def f_lay (s : St) (x t k : Int32) : Int32 × St := if 0 ≤ x ∧ x ≤ 4 then if t = 0 then (nI (sl s (kx x)).1, stS s (kx x) (0, (sl s (kx x)).2)) else if t = 1 then (if isB s k then (nI (sl s (kx x)).1, stS s (kx x) (1, nI ((bo s (kx k)).1 0), nI ((bo s (kx k)).1 1), (sl s (kx x)).2.2.2)) else (cBAD, s)) else if t = 2 then (if 0 ≤ k ∧ k ≤ 3 then if (sh s (kx k)).1 = -1 then (cNOTH, s) else (nI (sl s (kx x)).1, stS s (kx x) (2, (sl s (kx x)).2.1, (sl s (kx x)).2.2.1, (sh s (kx k)).2)) else (cBAD, s)) else if t = 3 then (nI (sl s (kx x)).1, stS s (kx x) (3, k, (sl s (kx x)).2.2)) else (cBAD, s) else (cBAD, s)
theorem RC_sl_0 {I : Im} {X s} {k : Nat} {v w : Int32} {r : Int32 × Int32 × Nat × (Nat → Int32)} (h : RC I X s) : RC (up3 I 5 k 1 0) X (stS s k (0, r)) := by
  refine ⟨h.1, RC_im h.2.1 rfl (fun _ q => q), h.2.2.1, fun k' hk' => ?_, h.2.2.2.2⟩
  show SlC (up3 I 5 k 1 0) k' (fu _ _ _ k')
  by_cases e : k' = k
  · subst e
    rw [fu_s]
    exact ⟨up3_s, fun q => absurd (show (0 : Nat) = 1 from q) (by decide), fun q => absurd (show (0 : Nat) = 2 from q) (by decide), fun q => absurd (show (0 : Nat) = 3 from q) (by decide)⟩
  · rw [fu_n e]
    obtain ⟨a, b, c, d⟩ := h.2.2.2.1 k' hk'
    refine ⟨?_, fun q => ⟨?_, ?_⟩, c, fun q => ?_⟩
    · show (up3 I 5 k 1 0) 5 k' 1 = _
      rw [up3_k (Or.inr e)]; exact a
    · show (up3 I 5 k 1 0) 5 k' 2 = _
      rw [up3_k (Or.inr e)]; exact (b q).1
    · show (up3 I 5 k 1 0) 5 k' 3 = _
      rw [up3_k (Or.inr e)]; exact (b q).2
    · show (up3 I 5 k 1 0) 5 k' 4 = _
      rw [up3_k (Or.inr e)]; exact d q
theorem RC_sl_1 {I : Im} {X s} {k : Nat} {v w : Int32} {r : Int32 × Int32 × Nat × (Nat → Int32)} (h : RC I X s) : RC (up3 (up3 (up3 I 5 k 1 1) 5 k 2 v) 5 k 3 w) X (stS s k (1, v, w, r.2.2)) := by
  refine ⟨h.1, RC_im h.2.1 rfl (fun _ q => q), h.2.2.1, fun k' hk' => ?_, h.2.2.2.2⟩
  show SlC (up3 (up3 (up3 I 5 k 1 1) 5 k 2 v) 5 k 3 w) k' (fu _ _ _ k')
  by_cases e : k' = k
  · subst e
    rw [fu_s]
    exact ⟨by show up3 _ 5 k' 3 w 5 k' 1 = _; rw [up3_j (by decide), up3_j (by decide), up3_s]; rfl, fun _ => ⟨by show up3 _ 5 k' 3 w 5 k' 2 = _; rw [up3_j (by decide), up3_s], up3_s⟩, fun q => absurd (show (1 : Nat) = 2 from q) (by decide), fun q => absurd (show (1 : Nat) = 3 from q) (by decide)⟩
  · rw [fu_n e]
    obtain ⟨a, b, c, d⟩ := h.2.2.2.1 k' hk'
    refine ⟨?_, fun q => ⟨?_, ?_⟩, c, fun q => ?_⟩
    · show (up3 (up3 (up3 I 5 k 1 1) 5 k 2 v) 5 k 3 w) 5 k' 1 = _
      rw [up3_k (Or.inr e), up3_k (Or.inr e), up3_k (Or.inr e)]; exact a
    · show (up3 (up3 (up3 I 5 k 1 1) 5 k 2 v) 5 k 3 w) 5 k' 2 = _
      rw [up3_k (Or.inr e), up3_k (Or.inr e), up3_k (Or.inr e)]; exact (b q).1
    · show (up3 (up3 (up3 I 5 k 1 1) 5 k 2 v) 5 k 3 w) 5 k' 3 = _
      rw [up3_k (Or.inr e), up3_k (Or.inr e), up3_k (Or.inr e)]; exact (b q).2
    · show (up3 (up3 (up3 I 5 k 1 1) 5 k 2 v) 5 k 3 w) 5 k' 4 = _
      rw [up3_k (Or.inr e), up3_k (Or.inr e), up3_k (Or.inr e)]; exact d q
theorem RC_sl_3 {I : Im} {X s} {k : Nat} {v w : Int32} {r : Int32 × Int32 × Nat × (Nat → Int32)} (h : RC I X s) : RC (up3 (up3 I 5 k 1 3) 5 k 4 v) X (stS s k (3, v, r.2)) := by
  refine ⟨h.1, RC_im h.2.1 rfl (fun _ q => q), h.2.2.1, fun k' hk' => ?_, h.2.2.2.2⟩
  show SlC (up3 (up3 I 5 k 1 3) 5 k 4 v) k' (fu _ _ _ k')
  by_cases e : k' = k
  · subst e
    rw [fu_s]
    exact ⟨by show up3 _ 5 k' 4 v 5 k' 1 = _; rw [up3_j (by decide), up3_s]; rfl, fun q => absurd (show (3 : Nat) = 1 from q) (by decide), fun q => absurd (show (3 : Nat) = 2 from q) (by decide), fun _ => up3_s⟩
  · rw [fu_n e]
    obtain ⟨a, b, c, d⟩ := h.2.2.2.1 k' hk'
    refine ⟨?_, fun q => ⟨?_, ?_⟩, c, fun q => ?_⟩
    · show (up3 (up3 I 5 k 1 3) 5 k 4 v) 5 k' 1 = _
      rw [up3_k (Or.inr e), up3_k (Or.inr e)]; exact a
    · show (up3 (up3 I 5 k 1 3) 5 k 4 v) 5 k' 2 = _
      rw [up3_k (Or.inr e), up3_k (Or.inr e)]; exact (b q).1
    · show (up3 (up3 I 5 k 1 3) 5 k 4 v) 5 k' 3 = _
      rw [up3_k (Or.inr e), up3_k (Or.inr e)]; exact (b q).2
    · show (up3 (up3 I 5 k 1 3) 5 k 4 v) 5 k' 4 = _
      rw [up3_k (Or.inr e), up3_k (Or.inr e)]; exact d q
theorem RC_sl_2 {I : Im} {X s} {k m : Nat} {a b y z : Int32} {f ff : Nat → Int32} (h : RC I X s) (hb : b = nI m) (hf : ∀ j, j < 24 → f j = ff j) : RC (up2 (up3 (up3 (up3 I 5 k 1 2) 4 (k + 4) 1 a) 4 (k + 4) 2 b) 25 (k + 4) f) X (stS s k (2, y, z, m, ff)) := by
  refine ⟨h.1, RC_im h.2.1 rfl (fun _ q => q), fun k' hk' => ?_, fun k' hk' => ?_, h.2.2.2.2⟩
  · obtain ⟨p, q, c⟩ := h.2.2.1 k' hk'
    refine ⟨?_, ?_, fun j hj => ?_⟩
    · show up3 (up3 (up3 I 5 k 1 2) 4 (k + 4) 1 a) 4 (k + 4) 2 b 4 k' 1 = _
      rw [up3_k (Or.inr (by omega)), up3_k (Or.inr (by omega))]; exact p
    · show up3 (up3 (up3 I 5 k 1 2) 4 (k + 4) 1 a) 4 (k + 4) 2 b 4 k' 2 = _
      rw [up3_k (Or.inr (by omega)), up3_k (Or.inr (by omega))]; exact q
    · show (if k' = k + 4 then f j else I 25 k' j) = _
      rw [if_neg (by omega)]; exact c j hj
  · show SlC _ k' (fu _ _ _ k')
    by_cases e : k' = k
    · subst e
      rw [fu_s]
      refine ⟨?_, fun q => absurd (show (2 : Nat) = 1 from q) (by decide), fun _ => ⟨?_, fun j hj => ?_⟩, fun q => absurd (show (2 : Nat) = 3 from q) (by decide)⟩
      · show up3 I 5 k' 1 2 5 k' 1 = _
        rw [up3_s]; rfl
      · show up3 (up3 (up3 I 5 k' 1 2) 4 (k' + 4) 1 a) 4 (k' + 4) 2 b 4 (k' + 4) 2 = _
        rw [up3_s]; exact hb
      · show (if k' + 4 = k' + 4 then f j else I 25 (k' + 4) j) = _
        rw [if_pos rfl]; exact hf j hj
    · rw [fu_n e]
      obtain ⟨a', b', c, d⟩ := h.2.2.2.1 k' hk'
      refine ⟨?_, fun q => ⟨?_, ?_⟩, fun q => ⟨?_, fun j hj => ?_⟩, fun q => ?_⟩
      · show up3 I 5 k 1 2 5 k' 1 = _
        rw [up3_k (Or.inr e)]; exact a'
      · show up3 I 5 k 1 2 5 k' 2 = _
        rw [up3_k (Or.inr e)]; exact (b' q).1
      · show up3 I 5 k 1 2 5 k' 3 = _
        rw [up3_k (Or.inr e)]; exact (b' q).2
      · show up3 (up3 (up3 I 5 k 1 2) 4 (k + 4) 1 a) 4 (k + 4) 2 b 4 (k' + 4) 2 = _
        rw [up3_k (Or.inr (by omega)), up3_k (Or.inr (by omega))]; exact (c q).1
      · show (if k' + 4 = k + 4 then f j else I 25 (k' + 4) j) = _
        rw [if_neg (by omega)]; exact (c q).2 j hj
      · show up3 I 5 k 1 2 5 k' 4 = _
        rw [up3_k (Or.inr e)]; exact d q
theorem FrC_2 {I X I' g k f} (hg : mg g = false) (h : FrC I X I' X) : FrC I X (up2 I' g k f) X := ⟨fun g' hg' => by
  have e : up2 I' g k f g' = I' g' := by
    unfold up2
    cases hb : Nat.beq g' g with
    | false => rfl
    | true =>
      have e : g' = g := Nat.eq_of_beq_eq_true hb
      rw [e, hg] at hg'; cases hg'
  rw [e]; exact h.1 g' hg', h.2⟩
set_option maxRecDepth 100000 in
set_option maxHeartbeats 4000000 in
theorem w_X7_lay_t0 {I : Nat → Nat → Nat → Int32} {X : am_Z} {g : am_F} {gs : List am_F} {d : Nat} {Q : Option am_V → am_M → Prop} {s : St} (h : RC I X s) (G : GS s) {x k : Int32} (e_x : x = nI (kx x)) (l_x : kx x ≤ 4) (k0 : am_WP (am_psh g (some (.inl ((nI (sl s (kx x)).1)))) :: gs) (d + 3) (mk (up3 I 5 (((kx x))) (1) (0)) X) Q) : am_WP ((mX7_lay, 19, [some (.inr (.inr (some (7, 0)))), some (.inl (x)), some (.inl (0)), some (.inl (k)), none, none], []) :: g :: gs) (d + 2) (mk I X) Q := by
  have hn8 : nb s ≤ 8 := G.1.1.1
  refine am_go 400 ?_
  refine am_f (ix_in (n := (kx x)) (N := 5) e_x (by omega) (by decide)) ?_
  have tk0 : (x).toNatClampNeg = (kx x) := ix_cl (n := (kx x)) e_x (by omega)
  have tk1 : I 5 (((x).toNatClampNeg)) 1 = nI (sl s (kx x)).1 := by first | exact (slC h (k := kx x) (by omega)).1 | (((try rw [tk0])); first | done | exact (slC h (k := kx x) (by omega)).1)
  show am_WP (am_psh g (some (.inl ((I 5 (((x).toNatClampNeg)) 1)))) :: gs) (d + 3) (mk (up3 I 5 (((x).toNatClampNeg)) (1) (0)) X) Q
  try rw [tk1]
  try rw [tk0]
  exact k0
set_option maxRecDepth 100000 in
set_option maxHeartbeats 4000000 in
theorem w_X7_lay_t1 {I : Nat → Nat → Nat → Int32} {X : am_Z} {g : am_F} {gs : List am_F} {d : Nat} {Q : Option am_V → am_M → Prop} {s : St} (h : RC I X s) (G : GS s) {x k : Int32} (e_x : x = nI (kx x)) (l_x : kx x ≤ 4) (k0 : (¬ ((0 : Int32) ≤ k ∧ k ≤ (nI (nb s)) - 1)) → am_WP (am_psh g (some (.inl ((-1000000001)))) :: gs) (d + 3) (mk I X) Q) (k1 : ((0 : Int32) ≤ k ∧ k ≤ (nI (nb s)) - 1) → am_WP (am_psh g (some (.inl ((nI (sl s (kx x)).1)))) :: gs) (d + 3) (mk (up3 (up3 (up3 I 5 (((kx x))) (1) (1)) 5 (((kx x))) (2) ((nI ((bo s (kx k)).1 0)))) 5 (((kx x))) (3) ((nI ((bo s (kx k)).1 1)))) X) Q) : am_WP ((mX7_lay, 19, [some (.inr (.inr (some (7, 0)))), some (.inl (x)), some (.inl (1)), some (.inl (k)), none, none], []) :: g :: gs) (d + 2) (mk I X) Q := by
  have hn8 : nb s ≤ 8 := G.1.1.1
  refine am_go 400 ?_
  have tk0 : I 1 0 3 = nI (nb s) := h.1.1.1
  refine (c_X7_isBottle (x := k)) _ _ _ ?_
  refine am_go 400 ?_
  refine am_if (fun h1 => ?_) (fun h1 => ?_)
  · have h1 := bI_0.mp h1
    have h1 : ¬ ((0 : Int32) ≤ k ∧ k ≤ (I 1 0 3) - 1) := h1
    try rw [tk0] at h1
    exact k0 h1
  · have h1 := bI_1.mp h1
    have h1 : (0 : Int32) ≤ k ∧ k ≤ (I 1 0 3) - 1 := h1
    try rw [tk0] at h1
    obtain ⟨e_k, l_k⟩ := okb rfl hn8 h1
    obtain ⟨g0_k, g1_k, g2_k, g3_k, g5_k, gs_k⟩ := id (GS_b G l_k)
    refine am_f (ix_in (n := (kx x)) (N := 5) e_x (by omega) (by decide)) ?_
    have tk1 : (x).toNatClampNeg = (kx x) := ix_cl (n := (kx x)) e_x (by omega)
    have tk2 : I 5 (((x).toNatClampNeg)) 1 = nI (sl s (kx x)).1 := by first | exact (slC h (k := kx x) (by omega)).1 | (((try rw [tk1])); first | done | exact (slC h (k := kx x) (by omega)).1)
    refine am_f (ix_in (n := (kx k)) (N := 8) e_k (by omega) (by decide)) ?_
    have tk3 : (k).toNatClampNeg = (kx k) := ix_cl (n := (kx k)) e_k (by omega)
    have bd : ((bo s (kx k)).1 0) ≤ 5 := (GS_b G (k := kx k) (by omega)).1
    have tk4 : (up3 I 5 (((x).toNatClampNeg)) (1) (1)) 0 (((k).toNatClampNeg)) 2 = nI ((bo s (kx k)).1 0) := by first | exact vC0 (I := I) (X := X) (j := 0) h (by omega) (by omega) | (((try rw [tk3]); (try rw [tk1])); first | done | exact vC0 (I := I) (X := X) (j := 0) h (by omega) (by omega))
    refine am_f (ix_in (n := (kx k)) (N := 8) e_k (by omega) (by decide)) ?_
    have bd : ((bo s (kx k)).1 1) ≤ 99 := (GS_b G (k := kx k) (by omega)).2.1
    have tk5 : (up3 (up3 I 5 (((x).toNatClampNeg)) (1) (1)) 5 (((x).toNatClampNeg)) (2) (((up3 I 5 (((x).toNatClampNeg)) (1) (1)) 0 (((k).toNatClampNeg)) 2))) 0 (((k).toNatClampNeg)) 3 = nI ((bo s (kx k)).1 1) := by first | exact vC0 (I := I) (X := X) (j := 1) h (by omega) (by omega) | (((try rw [tk4]); (try rw [tk3]); (try rw [tk1])); first | done | exact vC0 (I := I) (X := X) (j := 1) h (by omega) (by omega))
    show am_WP (am_psh g (some (.inl ((I 5 (((x).toNatClampNeg)) 1)))) :: gs) (d + 3) (mk (up3 (up3 (up3 I 5 (((x).toNatClampNeg)) (1) (1)) 5 (((x).toNatClampNeg)) (2) (((up3 I 5 (((x).toNatClampNeg)) (1) (1)) 0 (((k).toNatClampNeg)) 2))) 5 (((x).toNatClampNeg)) (3) (((up3 (up3 I 5 (((x).toNatClampNeg)) (1) (1)) 5 (((x).toNatClampNeg)) (2) (((up3 I 5 (((x).toNatClampNeg)) (1) (1)) 0 (((k).toNatClampNeg)) 2))) 0 (((k).toNatClampNeg)) 3))) X) Q
    try rw [tk5]
    try rw [tk4]
    try rw [tk2]
    try rw [tk3]
    try rw [tk1]
    exact k1 h1
set_option maxRecDepth 100000 in
set_option maxHeartbeats 4000000 in
theorem w_X7_lay_t2 {I : Nat → Nat → Nat → Int32} {X : am_Z} {g : am_F} {gs : List am_F} {d : Nat} {Q : Option am_V → am_M → Prop} {s : St} (h : RC I X s) (G : GS s) {x k : Int32} (e_x : x = nI (kx x)) (l_x : kx x ≤ 4) (k0 : (¬ ((0 : Int32) ≤ k ∧ k ≤ 3)) → am_WP (am_psh g (some (.inl ((-1000000001)))) :: gs) (d + 3) (mk I X) Q) (k1 : ((0 : Int32) ≤ k ∧ k ≤ 3) → (((sh s (kx k)).1) = (-1)) → am_WP (am_psh g (some (.inl ((-1000000011)))) :: gs) (d + 3) (mk I X) Q) (k2 : ((0 : Int32) ≤ k ∧ k ≤ 3) → (¬ ((sh s (kx k)).1) = (-1)) → am_WP (am_psh g (some (.inl ((nI (sl s (kx x)).1)))) :: gs) (d + 3) (mk (up2 (up3 (up3 (up3 I 5 (((kx x))) (1) (2)) 4 (((kx x)) + 4) (1) (((up3 I 5 (((kx x))) (1) (2)) 4 (((kx k))) 1))) 4 (((kx x)) + 4) (2) (((up3 I 5 (((kx x))) (1) (2)) 4 (((kx k))) 2))) 25 (((kx x)) + 4) (va_cpy ((up3 I 5 (((kx x))) (1) (2)) 25 (((kx k)))) ((up3 I 5 (((kx x))) (1) (2)) 25 (((kx x)) + 4)) 0 0 24)) X) Q) : am_WP ((mX7_lay, 19, [some (.inr (.inr (some (7, 0)))), some (.inl (x)), some (.inl (2)), some (.inl (k)), none, none], []) :: g :: gs) (d + 2) (mk I X) Q := by
  have hn8 : nb s ≤ 8 := G.1.1.1
  refine am_go 400 ?_
  refine (c_X7_isSheet (x := k)) _ _ _ ?_
  refine am_go 400 ?_
  refine am_if (fun h1 => ?_) (fun h1 => ?_)
  · have h1 := bI_0.mp h1
    exact k0 h1
  · have h1 := bI_1.mp h1
    obtain ⟨e_k, l_k⟩ := okl (m := 3) (by decide) h1
    refine am_f (ix_in (n := (kx k)) (N := 4) e_k (by omega) (by decide)) ?_
    have tk0 : (k).toNatClampNeg = (kx k) := ix_cl (n := (kx k)) e_k (by omega)
    have tk1 : I 4 (((k).toNatClampNeg)) 1 = (sh s (kx k)).1 := by first | exact (shC h (k := kx k) (by omega)).1 | (((try rw [tk0])); first | done | exact (shC h (k := kx k) (by omega)).1)
    refine am_if (fun h2 => ?_) (fun h2 => ?_)
    · have h2 : (I 4 (((k).toNatClampNeg)) 1) = (-1) := h2
      try rw [tk1] at h2
      try rw [tk0] at h2
      exact k1 h1 h2
    · have h2 : ¬ (I 4 (((k).toNatClampNeg)) 1) = (-1) := h2
      try rw [tk1] at h2
      try rw [tk0] at h2
      refine am_f (ix_in (n := (kx x)) (N := 5) e_x (by omega) (by decide)) ?_
      have tk2 : (x).toNatClampNeg = (kx x) := ix_cl (n := (kx x)) e_x (by omega)
      have tk3 : I 5 (((x).toNatClampNeg)) 1 = nI (sl s (kx x)).1 := by first | exact (slC h (k := kx x) (by omega)).1 | (((try rw [tk2])); first | done | exact (slC h (k := kx x) (by omega)).1)
      refine am_f (ix_in (n := (kx k)) (N := 4) e_k (by omega) (by decide)) ?_
      refine (c_X4_becomeAs (p := ((x).toNatClampNeg) + 4) (q := ((k).toNatClampNeg)) (by omega)) _ _ _ ?_
      refine am_go 400 ?_
      show am_WP (am_psh g (some (.inl ((I 5 (((x).toNatClampNeg)) 1)))) :: gs) (d + 3) (mk (up2 (up3 (up3 (up3 I 5 (((x).toNatClampNeg)) (1) (2)) 4 (((x).toNatClampNeg) + 4) (1) (((up3 I 5 (((x).toNatClampNeg)) (1) (2)) 4 (((k).toNatClampNeg)) 1))) 4 (((x).toNatClampNeg) + 4) (2) (((up3 I 5 (((x).toNatClampNeg)) (1) (2)) 4 (((k).toNatClampNeg)) 2))) 25 (((x).toNatClampNeg) + 4) (va_cpy ((up3 I 5 (((x).toNatClampNeg)) (1) (2)) 25 (((k).toNatClampNeg))) ((up3 I 5 (((x).toNatClampNeg)) (1) (2)) 25 (((x).toNatClampNeg) + 4)) 0 0 24)) X) Q
      try rw [tk3]
      try rw [tk2]
      try rw [tk0]
      exact k2 h1 h2
set_option maxRecDepth 100000 in
set_option maxHeartbeats 4000000 in
theorem w_X7_lay_t3 {I : Nat → Nat → Nat → Int32} {X : am_Z} {g : am_F} {gs : List am_F} {d : Nat} {Q : Option am_V → am_M → Prop} {s : St} (h : RC I X s) (G : GS s) {x k : Int32} (e_x : x = nI (kx x)) (l_x : kx x ≤ 4) (k0 : am_WP (am_psh g (some (.inl ((nI (sl s (kx x)).1)))) :: gs) (d + 3) (mk (up3 (up3 I 5 (((kx x))) (1) (3)) 5 (((kx x))) (4) (k)) X) Q) : am_WP ((mX7_lay, 19, [some (.inr (.inr (some (7, 0)))), some (.inl (x)), some (.inl (3)), some (.inl (k)), none, none], []) :: g :: gs) (d + 2) (mk I X) Q := by
  have hn8 : nb s ≤ 8 := G.1.1.1
  refine am_go 400 ?_
  refine am_f (ix_in (n := (kx x)) (N := 5) e_x (by omega) (by decide)) ?_
  have tk0 : (x).toNatClampNeg = (kx x) := ix_cl (n := (kx x)) e_x (by omega)
  have tk1 : I 5 (((x).toNatClampNeg)) 1 = nI (sl s (kx x)).1 := by first | exact (slC h (k := kx x) (by omega)).1 | (((try rw [tk0])); first | done | exact (slC h (k := kx x) (by omega)).1)
  show am_WP (am_psh g (some (.inl ((I 5 (((x).toNatClampNeg)) 1)))) :: gs) (d + 3) (mk (up3 (up3 I 5 (((x).toNatClampNeg)) (1) (3)) 5 (((x).toNatClampNeg)) (4) (k)) X) Q
  try rw [tk1]
  try rw [tk0]
  exact k0
set_option maxRecDepth 100000 in
set_option maxHeartbeats 4000000 in
theorem w_X7_lay_tt {I : Nat → Nat → Nat → Int32} {X : am_Z} {g : am_F} {gs : List am_F} {d : Nat} {Q : Option am_V → am_M → Prop} {s : St} (h : RC I X s) (G : GS s) {x t k : Int32} (k0 : (¬ ((0 : Int32) ≤ x ∧ x ≤ 4)) → am_WP (am_psh g (some (.inl ((-1000000001)))) :: gs) (d + 3) (mk I X) Q) (k1 : ((0 : Int32) ≤ x ∧ x ≤ 4) → (¬ ((0 : Int32) ≤ t ∧ t ≤ 3)) → am_WP (am_psh g (some (.inl ((-1000000001)))) :: gs) (d + 3) (mk I X) Q) (k2 : ((0 : Int32) ≤ x ∧ x ≤ 4) → ((0 : Int32) ≤ t ∧ t ≤ 3) → am_WP ((mX7_lay, 19, [some (.inr (.inr (some (7, 0)))), some (.inl (x)), some (.inl (t)), some (.inl (k)), none, none], []) :: g :: gs) (d + 2) (mk I X) Q) : am_WP (am_entry mX7_lay [.inr (.inr (some (7, 0))), .inl (x), .inl (t), .inl (k)] :: g :: gs) (d + 2) (mk I X) Q := by
  have hn8 : nb s ≤ 8 := G.1.1.1
  refine am_go 400 ?_
  refine (c_X7_isSlot (x := x)) _ _ _ ?_
  refine am_go 400 ?_
  refine am_if (fun h1 => ?_) (fun h1 => ?_)
  · have h1 := bI_0.mp h1
    exact k0 h1
  · have h1 := bI_1.mp h1
    obtain ⟨e_x, l_x⟩ := okl (m := 4) (by decide) h1
    refine (c_X7_within (t) (0) (3)) _ _ _ ?_
    refine am_go 400 ?_
    refine am_if (fun h2 => ?_) (fun h2 => ?_)
    · have h2 := bI_0.mp h2
      exact k1 h1 h2
    · have h2 := bI_1.mp h2
      refine am_cf rfl ?_
      exact am_cut (k2 h1 h2)
theorem p_X7_lay {I X d s} (h : RC I X s) (G : GS s) (x t k : Int32) : Sp mX7_lay [.inr (.inr (some (7, 0))), .inl x, .inl t, .inl k] (d + 2) I X (OC I X (f_lay s x t k)) := fun g gs Q K => by
  refine w_X7_lay_tt h G (fun h0 => ?_) (fun h0 h1 => ?_) (fun h0 h1 => ?_)
  · apply K_s K; unfold f_lay; rw [if_neg h0]; exact ⟨rfl, h, FrC_r⟩
  · apply K_s K; unfold f_lay
    rw [if_pos h0, if_neg (fun e => h1 (by rw [e]; decide)), if_neg (fun e => h1 (by rw [e]; decide)), if_neg (fun e => h1 (by rw [e]; decide)), if_neg (fun e => h1 (by rw [e]; decide))]; exact ⟨rfl, h, FrC_r⟩
  obtain ⟨e_x, l_x⟩ := okl (m := 4) (by omega) h0
  by_cases t0 : t = 0
  · subst t0
    exact w_X7_lay_t0 h G e_x l_x (by
      apply K_s K; unfold f_lay; rw [if_pos h0, if_pos rfl]; exact ⟨rfl, RC_sl_0 (v := 0) (w := 0) h, FrC_3 rfl FrC_r⟩)
  by_cases t1 : t = 1
  · subst t1
    exact w_X7_lay_t1 h G e_x l_x (fun h2 => by
      apply K_s K; unfold f_lay; rw [if_pos h0, if_neg (by decide), if_pos rfl, if_neg h2]; exact ⟨rfl, h, FrC_r⟩) (fun h2 => by
      apply K_s K; unfold f_lay; rw [if_pos h0, if_neg (by decide), if_pos rfl, if_pos h2]; exact ⟨rfl, RC_sl_1 (r := (sl s (kx x)).2) h, FrC_3 rfl (FrC_3 rfl (FrC_3 rfl FrC_r))⟩)
  by_cases t2 : t = 2
  · subst t2
    exact w_X7_lay_t2 h G e_x l_x (fun h2 => by
      apply K_s K; unfold f_lay; rw [if_pos h0, if_neg (by decide), if_neg (by decide), if_pos rfl, if_neg h2]; exact ⟨rfl, h, FrC_r⟩) (fun h2 h3 => by
      apply K_s K; unfold f_lay; rw [if_pos h0, if_neg (by decide), if_neg (by decide), if_pos rfl, if_pos h2, if_pos h3]; exact ⟨rfl, h, FrC_r⟩) (fun h2 h3 => by
      apply K_s K; unfold f_lay; rw [if_pos h0, if_neg (by decide), if_neg (by decide), if_pos rfl, if_pos h2, if_neg h3]; exact (by
        obtain ⟨e_k, l_k⟩ := okl (m := 3) (by omega) h2
        have hr := h.2.2.1 (kx k) (by omega)
        exact ⟨rfl, RC_sl_2 h hr.2.1 (fun j hj => by rw [pk_cpy_in (Nat.zero_le _) (by omega), show 0 + (j - 0) = j by omega]; exact hr.2.2 j hj), FrC_2 rfl (FrC_3 rfl (FrC_3 rfl (FrC_3 rfl FrC_r)))⟩))
  by_cases t3 : t = 3
  · subst t3
    exact w_X7_lay_t3 h G e_x l_x (by
      apply K_s K; unfold f_lay; rw [if_pos h0, if_neg (by decide), if_neg (by decide), if_neg (by decide), if_pos rfl]; exact ⟨rfl, RC_sl_3 (w := 0) (r := (sl s (kx x)).2) h, FrC_3 rfl (FrC_3 rfl FrC_r)⟩)
  exfalso
  obtain ⟨e_t, l_t⟩ := okl (m := 3) (by omega) h1
  generalize kx t = n at e_t l_t
  match n, e_t, l_t with
  | 0, e, _ => exact t0 e
  | 1, e, _ => exact t1 e
  | 2, e, _ => exact t2 e
  | 3, e, _ => exact t3 e
