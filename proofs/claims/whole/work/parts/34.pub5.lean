set_option maxRecDepth 100000 in
set_option maxHeartbeats 4000000 in
theorem w_X4_becomeEmpty {I : Nat → Nat → Nat → Int32} {X : am_Z} {g : am_F} {gs : List am_F} {d : Nat} {Q : Option am_V → am_M → Prop} {q : Nat} {a b : Int32} (k0 : am_WP ((mX4_becomeEmpty, 12, [some (.inr (.inr (some (4, q)))), some (.inl (a)), some (.inl (b)), some (.inl (0))], []) :: g :: gs) (d) (mk (up3 (up3 I 4 q (1) (a)) 4 q (2) (b)) X) Q) : am_WP (am_entry mX4_becomeEmpty [.inr (.inr (some (4, q))), .inl (a), .inl (b)] :: g :: gs) (d) (mk I X) Q := by
  refine am_go 8 ?_
  exact k0
set_option maxRecDepth 100000 in
set_option maxHeartbeats 4000000 in
theorem w_X4_becomeEmpty_12 {I : Nat → Nat → Nat → Int32} {X : am_Z} {g : am_F} {gs : List am_F} {d : Nat} {Q : Option am_V → am_M → Prop} {x : Int32} {i : Nat} (e_x : x = nI i) (c_x : x.toNatClampNeg = i) {q : Nat} {a b : Int32} (hi : i ≤ 24) (k0 : (24 ≤ i) → am_WP (am_psh g none :: gs) (d + 1) (mk I X) Q) (k1 : (¬ (24 ≤ i)) → am_WP ((mX4_becomeEmpty, 12, [some (.inr (.inr (some (4, q)))), some (.inl (a)), some (.inl (b)), some (.inl ((x + 1)))], []) :: g :: gs) (d) (mk (up3 I 25 q (i) (0)) X) Q) : am_WP ((mX4_becomeEmpty, 12, [some (.inr (.inr (some (4, q)))), some (.inl (a)), some (.inl (b)), some (.inl (x))], []) :: g :: gs) (d) (mk I X) Q := by
  subst c_x
  refine am_go 400 ?_
  refine am_if (fun h1 => ?_) (fun h1 => ?_)
  · have nh1 := (le_nat (a := 24) (b := (x.toNatClampNeg)) (rfl : (24 : Int32) = nI 24) e_x (by omega) (by omega)).mp h1
    exact k0 nh1
  · have nh1 := mt (le_nat (a := 24) (b := (x.toNatClampNeg)) (rfl : (24 : Int32) = nI 24) e_x (by omega) (by omega)).mpr h1
    refine am_f (ix_in (n := (x.toNatClampNeg)) (N := 24) e_x (by omega) (by decide)) ?_
    exact k1 nh1
theorem l_X4_becomeEmpty {I : Im} {X g gs d Q} {q : Nat} {a b : Int32} : ∀ (n i : Nat), i + n = 24 → am_WP (am_psh g none :: gs) (d + 1) (mk (fl I 25 q 0 24 (fun _ => 0)) X) Q →
    am_WP ((mX4_becomeEmpty, 12, [some (.inr (.inr (some (4, q)))), some (.inl a), some (.inl b), some (.inl (nI i))], []) :: g :: gs) d (mk (fl I 25 q 0 i (fun _ => 0)) X) Q
  | 0, i, hi, K => w_X4_becomeEmpty_12 rfl (nI_clamp (by omega)) (by omega) (fun _ => by rw [show i = 24 by omega]; exact K) (fun hn => absurd hn (by omega))
  | n + 1, i, hi, K => w_X4_becomeEmpty_12 rfl (nI_clamp (by omega)) (by omega) (fun hn => absurd hn (by omega)) (fun _ => by
      rw [nI_s, show up3 (fl I 25 q 0 i (fun _ => 0)) 25 q i 0 = fl I 25 q 0 (i + 1) (fun _ => 0) by have := fl_s (I := I) (g := 25) (k := q) (b := 0) (i := i) (f := fun _ => (0 : Int32)) (v := 0) rfl; rwa [Nat.zero_add] at this]
      exact l_X4_becomeEmpty n (i + 1) (by omega) K)
theorem c_X4_becomeEmpty {I : Im} {X d} {q : Nat} {a b : Int32} : Rt mX4_becomeEmpty [.inr (.inr (some (4, q))), .inl a, .inl b] d (mk I X) none (mk (fl (up3 (up3 I 4 q 1 a) 4 q 2 b) 25 q 0 24 (fun _ => 0)) X) := fun g gs Q K => by
  refine w_X4_becomeEmpty ?_
  have := l_X4_becomeEmpty (I := up3 (up3 I 4 q 1 a) 4 q 2 b) (X := X) (g := g) (gs := gs) (d := d) (Q := Q) (q := q) (a := a) (b := b) 24 0 rfl K
  rwa [fl_0] at this
def stR (s : St) (k : Nat) (r : Ro) : St := (s.1, s.2.1, fu s.2.2.1 k r, s.2.2.2)
abbrev sh (s : St) (k : Nat) : Ro := s.2.2.1 k
def f_sheet (s : St) (x t n : Int32) : Int32 × St := if 0 ≤ x ∧ x ≤ 3 then if -1 ≤ t ∧ t ≤ 1 then if t = -1 then (0, stR s (kx x) (-1, 0, fun _ => 0)) else if n ≤ 24 then if 0 ≤ n then (n, stR s (kx x) (t, kx n, fun _ => 0)) else (cSIZE, s) else (cBAD, s) else (cBAD, s) else (cBAD, s)
theorem RC_ro {I : Im} {X s} {k : Nat} {t y : Int32} {m : Nat} {f : Nat → Int32} (h : RC I X s) (hk : k < 4) (hy : y = nI m) : RC (fl (up3 (up3 I 4 k 1 t) 4 k 2 y) 25 k 0 24 f) X (stR s k (t, m, f)) := by
  refine ⟨h.1, RC_im h.2.1 rfl (fun _ q => q), fun k' hk' => ?_, fun k' hk' => ?_, h.2.2.2.2⟩
  · show RoC _ k' (fu _ _ _ k')
    by_cases e : k' = k
    · subst e
      rw [fu_s]
      refine ⟨?_, ?_, fun j hj => ?_⟩
      · show up3 (up3 I 4 k' 1 t) 4 k' 2 y 4 k' 1 = t
        rw [up3_j (by decide), up3_s]
      · show up3 (up3 I 4 k' 1 t) 4 k' 2 y 4 k' 2 = nI m
        rw [up3_s, hy]
      · have := fl_i (I := up3 (up3 I 4 k' 1 t) 4 k' 2 y) (g := 25) (k := k') (b := 0) (f := f) hj
        rw [Nat.zero_add] at this
        exact this
    · rw [fu_n e]
      obtain ⟨a, b, c⟩ := h.2.2.1 k' hk'
      refine ⟨?_, ?_, fun j hj => ?_⟩
      · show up3 (up3 I 4 k 1 t) 4 k 2 y 4 k' 1 = _
        rw [up3_k (Or.inr e), up3_k (Or.inr e)]; exact a
      · show up3 (up3 I 4 k 1 t) 4 k 2 y 4 k' 2 = _
        rw [up3_k (Or.inr e), up3_k (Or.inr e)]; exact b
      · rw [fl_k (Or.inr e)]; exact c j hj
  · obtain ⟨a, b, c, d⟩ := h.2.2.2.1 k' hk'
    refine ⟨a, b, fun q => ⟨?_, fun j hj => ?_⟩, d⟩
    · show up3 (up3 I 4 k 1 t) 4 k 2 y 4 (k' + 4) 2 = _
      rw [up3_k (Or.inr (by omega)), up3_k (Or.inr (by omega))]; exact (c q).1
    · rw [fl_k (Or.inr (by omega))]; exact (c q).2 j hj
set_option maxRecDepth 100000 in
set_option maxHeartbeats 4000000 in
theorem w_X7_sheet {I : Nat → Nat → Nat → Int32} {X : am_Z} {g : am_F} {gs : List am_F} {d : Nat} {Q : Option am_V → am_M → Prop} {s : St} (h : RC I X s) (G : GS s) {x t n : Int32} (k0 : (¬ ((0 : Int32) ≤ x ∧ x ≤ 3)) → am_WP (am_psh g (some (.inl ((-1000000001)))) :: gs) (d + 3) (mk I X) Q) (k1 : ((0 : Int32) ≤ x ∧ x ≤ 3) → (¬ (((-1) : Int32) ≤ t ∧ t ≤ 1)) → am_WP (am_psh g (some (.inl ((-1000000001)))) :: gs) (d + 3) (mk I X) Q) (k2 : ((0 : Int32) ≤ x ∧ x ≤ 3) → (((-1) : Int32) ≤ t ∧ t ≤ 1) → (t = (-1)) → am_WP (am_psh g (some (.inl (0))) :: gs) (d + 3) (mk (fl (up3 (up3 I 4 (kx x) (1) ((-1))) 4 (kx x) (2) (0)) 25 (kx x) 0 24 (fun _ => 0)) X) Q) (k3 : ((0 : Int32) ≤ x ∧ x ≤ 3) → (((-1) : Int32) ≤ t ∧ t ≤ 1) → (¬ t = (-1)) → (n ≤ 24) → (0 ≤ n) → am_WP (am_psh g (some (.inl (n))) :: gs) (d + 3) (mk (fl (up3 (up3 I 4 (kx x) (1) (t)) 4 (kx x) (2) (n)) 25 (kx x) 0 24 (fun _ => 0)) X) Q) (k4 : ((0 : Int32) ≤ x ∧ x ≤ 3) → (((-1) : Int32) ≤ t ∧ t ≤ 1) → (¬ t = (-1)) → (n ≤ 24) → (¬ 0 ≤ n) → am_WP (am_psh g (some (.inl ((-1000000014)))) :: gs) (d + 3) (mk I X) Q) (k5 : ((0 : Int32) ≤ x ∧ x ≤ 3) → (((-1) : Int32) ≤ t ∧ t ≤ 1) → (¬ t = (-1)) → (¬ n ≤ 24) → am_WP (am_psh g (some (.inl ((-1000000001)))) :: gs) (d + 3) (mk I X) Q) : am_WP (am_entry mX7_sheet [.inr (.inr (some (7, 0))), .inl (x), .inl (t), .inl (n)] :: g :: gs) (d + 2) (mk I X) Q := by
  have hn : I 1 0 3 = nI (nb s) := h.1.1.1
  have hn8 : nb s ≤ 8 := G.1.1.1
  refine am_go 400 ?_
  refine (c_X7_isSheet (x := x)) _ _ _ ?_
  refine am_go 400 ?_
  refine am_if (fun h1 => ?_) (fun h1 => ?_)
  · have h1 := bI_0.mp h1
    exact k0 h1
  · have h1 := bI_1.mp h1
    obtain ⟨e_x, l_x⟩ := okl (m := 3) (by decide) h1
    refine (c_X7_within (t) ((-1)) (1)) _ _ _ ?_
    refine am_go 400 ?_
    refine am_if (fun h2 => ?_) (fun h2 => ?_)
    · have h2 := bI_0.mp h2
      exact k1 h1 h2
    · have h2 := bI_1.mp h2
      refine am_if (fun h3 => ?_) (fun h3 => ?_)
      · refine am_f (ix_in (n := (kx x)) (N := 4) e_x (by omega) (by decide)) ?_
        refine (c_X4_becomeEmpty (q := kx x)) _ _ _ ?_
        refine am_go 400 ?_
        exact k2 h1 h2 h3
      · refine am_if (fun h4 => ?_) (fun h4 => ?_)
        · refine am_if (fun h5 => ?_) (fun h5 => ?_)
          · refine am_f (ix_in (n := (kx x)) (N := 4) e_x (by omega) (by decide)) ?_
            refine (c_X4_becomeEmpty (q := kx x)) _ _ _ ?_
            refine am_go 400 ?_
            exact k3 h1 h2 h3 h4 h5
          · exact k4 h1 h2 h3 h4 h5
        · exact k5 h1 h2 h3 h4
theorem p_X7_sheet {I X d s} (h : RC I X s) (G : GS s) (x t n : Int32) : Sp mX7_sheet [.inr (.inr (some (7, 0))), .inl (x), .inl (t), .inl (n)] (d + 2) I X (OC I X (f_sheet s x t n)) := fun g gs Q K => by
  have hn : I 1 0 3 = nI (nb s) := h.1.1.1
  have hn8 : nb s ≤ 8 := G.1.1.1
  have g8 : G8 s := G8_ G
  refine w_X7_sheet h G  ?_ ?_ ?_ ?_ ?_ ?_
  · intro h0
    apply K_s K
    unfold f_sheet
    rw [if_neg h0]
    exact ⟨rfl, h, FrC_r⟩
  · intro h0 h1
    obtain ⟨e_x, l_x⟩ := okl (m := 3) (by decide) h0
    apply K_s K
    unfold f_sheet
    rw [if_pos h0, if_neg h1]
    exact ⟨rfl, h, FrC_r⟩
  · intro h0 h1 h2
    obtain ⟨e_x, l_x⟩ := okl (m := 3) (by decide) h0
    apply K_s K
    unfold f_sheet
    rw [if_pos h0, if_pos h1, if_pos h2]
    exact ⟨rfl, RC_ro h (by omega) rfl, FrC_f rfl (FrC_3 rfl (FrC_3 rfl FrC_r))⟩
  · intro h0 h1 h2 h3 h4
    obtain ⟨e_x, l_x⟩ := okl (m := 3) (by decide) h0
    apply K_s K
    unfold f_sheet
    rw [if_pos h0, if_pos h1, if_neg h2, if_pos h3, if_pos h4]
    exact ⟨rfl, RC_ro h (by omega) (nn_nI h4), FrC_f rfl (FrC_3 rfl (FrC_3 rfl FrC_r))⟩
  · intro h0 h1 h2 h3 h4
    obtain ⟨e_x, l_x⟩ := okl (m := 3) (by decide) h0
    apply K_s K
    unfold f_sheet
    rw [if_pos h0, if_pos h1, if_neg h2, if_pos h3, if_neg h4]
    exact ⟨rfl, h, FrC_r⟩
  · intro h0 h1 h2 h3
    obtain ⟨e_x, l_x⟩ := okl (m := 3) (by decide) h0
    apply K_s K
    unfold f_sheet
    rw [if_pos h0, if_pos h1, if_neg h2, if_neg h3]
    exact ⟨rfl, h, FrC_r⟩

set_option maxRecDepth 100000 in
set_option maxHeartbeats 4000000 in
theorem w_X8_sheet_69 {I : Nat → Nat → Nat → Int32} {X : am_Z} {g : am_F} {gs : List am_F} {d : Nat} {Q : Option am_V → am_M → Prop} {x : Int32} {i : Nat} (e_x : x = nI i) (c_x : x.toNatClampNeg = i) {k : Nat} {y t n : Int32} (hy : y = nI k) (cy : y.toNatClampNeg = k) (hk : k < 4) (hi : i ≤ 24) (k0 : (24 ≤ i) → am_WP (am_psh g (some (.inl ((I 34 0 ((y).toNatClampNeg))))) :: gs) (d + 3) (mk I X) Q) (k1 : (¬ (24 ≤ i)) → am_WP ((mX8_sheet, 69, [some (.inr (.inr (some (8, 0)))), some (.inl (y)), some (.inl (t)), some (.inl (n)), some (.inl ((x + 1)))], []) :: g :: gs) (d + 2) (mk (up3 I 35 0 ((((24 * y) + x)).toNatClampNeg) (0)) X) Q) : am_WP ((mX8_sheet, 69, [some (.inr (.inr (some (8, 0)))), some (.inl (y)), some (.inl (t)), some (.inl (n)), some (.inl (x))], []) :: g :: gs) (d + 2) (mk I X) Q := by
  subst c_x
  refine am_go 400 ?_
  refine am_if (fun h1 => ?_) (fun h1 => ?_)
  · have nh1 := (le_nat (a := 24) (b := (x.toNatClampNeg)) (rfl : (24 : Int32) = nI 24) e_x (by omega) (by omega)).mp h1
    refine am_f (ix_in (n := k) (N := 4) hy (by omega) (by decide)) ?_
    exact k0 nh1
  · have nh1 := mt (le_nat (a := 24) (b := (x.toNatClampNeg)) (rfl : (24 : Int32) = nI 24) e_x (by omega) (by omega)).mpr h1
    refine am_f (ix_in (n := ((24 * k) + (x.toNatClampNeg))) (N := 96) (nI_addE (nI_mulE (rfl : (24 : Int32) = nI 24) hy) e_x) (by omega) (by decide)) ?_
    exact k1 nh1
theorem l_X8_sheet {I : Im} {X g gs d Q} {k : Nat} {y t n : Int32} (hy : y = nI k) (hk : k < 4) : ∀ (m i : Nat), i + m = 24 → am_WP (am_psh g (some (.inl (I 34 0 k))) :: gs) (d + 3) (mk (fl I 35 0 (24 * k) 24 (fun _ => 0)) X) Q →
    am_WP ((mX8_sheet, 69, [some (.inr (.inr (some (8, 0)))), some (.inl y), some (.inl t), some (.inl n), some (.inl (nI i))], []) :: g :: gs) (d + 2) (mk (fl I 35 0 (24 * k) i (fun _ => 0)) X) Q
  | 0, i, hi, K => w_X8_sheet_69 rfl (nI_clamp (by omega)) hy (ix_cl hy (by omega)) hk (by omega) (fun _ => by rw [ix_cl hy (by omega), show i = 24 by omega]; exact K) (fun hn => absurd hn (by omega))
  | m + 1, i, hi, K => w_X8_sheet_69 rfl (nI_clamp (by omega)) hy (ix_cl hy (by omega)) hk (by omega) (fun hn => absurd hn (by omega)) (fun _ => by
      rw [nI_s, ix_cl (n := 24 * k + i) (nI_addE (nI_mulE (rfl : (24 : Int32) = nI 24) hy) (rfl : nI i = nI i)) (by omega), fl_s rfl]
      exact l_X8_sheet hy hk m (i + 1) (by omega) K)
theorem tm1 {t : Int32} (h : -1 ≤ t) (h2 : t < 0) : t = -1 := by
  have a := Int32.le_iff_toInt_le.mp h
  have b := Int32.lt_iff_toInt_lt.mp h2
  apply Int32.toInt_inj.mp
  have c : (-1 : Int32).toInt = -1 := rfl
  have e : (0 : Int32).toInt = 0 := rfl
  omega
theorem RM_ro {I : Im} {s} {k : Nat} {t y : Int32} {m : Nat} {f : Nat → Int32} (h : RM I s) (hk : k < 4) (hy : y = nI m) : RM (fl (up3 (up3 I 33 0 k t) 34 0 k y) 35 0 (24 * k) 24 f) (stR s k (t, m, f)) := by
  refine ⟨h.1, RM_im h.2.1 rfl rfl, fun k' hk' => ?_, h.2.2.2⟩
  show RoM _ k' (fu _ _ _ k')
  by_cases e : k' = k
  · subst e
    rw [fu_s]
    exact ⟨(up3_s : up3 I 33 0 k' t 33 0 k' = t), (up3_s : up3 (up3 I 33 0 k' t) 34 0 k' y 34 0 k' = y).trans hy, fun j hj => fl_i hj⟩
  · rw [fu_n e]
    obtain ⟨a, b, c⟩ := h.2.2.1 k' hk'
    exact ⟨(up3_j e : up3 I 33 0 k t 33 0 k' = _).trans a, (up3_j e : up3 (up3 I 33 0 k t) 34 0 k y 34 0 k' = _).trans b, fun j hj => (fl_out (by omega)).trans (c j hj)⟩
set_option maxRecDepth 100000 in
set_option maxHeartbeats 4000000 in
theorem w_X8_sheet {I : Nat → Nat → Nat → Int32} {X : am_Z} {g : am_F} {gs : List am_F} {d : Nat} {Q : Option am_V → am_M → Prop} {s : St} (h : RM I s) (G : GS s) {x t n : Int32} (k0 : (¬ ((0 : Int32) ≤ x ∧ x ≤ 3)) → am_WP (am_psh g (some (.inl ((-1000000001)))) :: gs) (d + 3) (mk I X) Q) (k1 : ((0 : Int32) ≤ x ∧ x ≤ 3) → (¬ (((-1) : Int32) ≤ t ∧ t ≤ 1)) → am_WP (am_psh g (some (.inl ((-1000000001)))) :: gs) (d + 3) (mk I X) Q) (k2 : ((0 : Int32) ≤ x ∧ x ≤ 3) → (((-1) : Int32) ≤ t ∧ t ≤ 1) → (t < 0) → (0 ≤ t) → am_WP ((mX8_sheet, 69, [some (.inr (.inr (some (8, 0)))), some (.inl (x)), some (.inl (t)), some (.inl (n)), some (.inl (0))], []) :: g :: gs) (d + 2) (mk (up3 (up3 I 33 0 (kx x) (t)) 34 0 (kx x) (n)) X) Q) (k3 : ((0 : Int32) ≤ x ∧ x ≤ 3) → (((-1) : Int32) ≤ t ∧ t ≤ 1) → (t < 0) → (¬ 0 ≤ t) → am_WP ((mX8_sheet, 69, [some (.inr (.inr (some (8, 0)))), some (.inl (x)), some (.inl (t)), some (.inl (n)), some (.inl (0))], []) :: g :: gs) (d + 2) (mk (up3 (up3 I 33 0 (kx x) (t)) 34 0 (kx x) (0)) X) Q) (k4 : ((0 : Int32) ≤ x ∧ x ≤ 3) → (((-1) : Int32) ≤ t ∧ t ≤ 1) → (¬ t < 0) → (n ≤ 24) → (0 ≤ n) → (0 ≤ t) → am_WP ((mX8_sheet, 69, [some (.inr (.inr (some (8, 0)))), some (.inl (x)), some (.inl (t)), some (.inl (n)), some (.inl (0))], []) :: g :: gs) (d + 2) (mk (up3 (up3 I 33 0 (kx x) (t)) 34 0 (kx x) (n)) X) Q) (k5 : ((0 : Int32) ≤ x ∧ x ≤ 3) → (((-1) : Int32) ≤ t ∧ t ≤ 1) → (¬ t < 0) → (n ≤ 24) → (0 ≤ n) → (¬ 0 ≤ t) → am_WP ((mX8_sheet, 69, [some (.inr (.inr (some (8, 0)))), some (.inl (x)), some (.inl (t)), some (.inl (n)), some (.inl (0))], []) :: g :: gs) (d + 2) (mk (up3 (up3 I 33 0 (kx x) (t)) 34 0 (kx x) (0)) X) Q) (k6 : ((0 : Int32) ≤ x ∧ x ≤ 3) → (((-1) : Int32) ≤ t ∧ t ≤ 1) → (¬ t < 0) → (n ≤ 24) → (¬ 0 ≤ n) → am_WP (am_psh g (some (.inl ((-1000000014)))) :: gs) (d + 3) (mk I X) Q) (k7 : ((0 : Int32) ≤ x ∧ x ≤ 3) → (((-1) : Int32) ≤ t ∧ t ≤ 1) → (¬ t < 0) → (¬ n ≤ 24) → am_WP (am_psh g (some (.inl ((-1000000001)))) :: gs) (d + 3) (mk I X) Q) : am_WP (am_entry mX8_sheet [.inr (.inr (some (8, 0))), .inl (x), .inl (t), .inl (n)] :: g :: gs) (d + 2) (mk I X) Q := by
  have hn : I 30 0 0 = nI (nb s) := h.1.1.1
  have hn8 : nb s ≤ 8 := G.1.1.1
  refine am_go 400 ?_
  refine (c_X8_isSheet (x := x)) _ _ _ ?_
  refine am_go 400 ?_
  refine am_if (fun h1 => ?_) (fun h1 => ?_)
  · have h1 := bI_0.mp h1
    exact k0 h1
  · have h1 := bI_1.mp h1
    obtain ⟨e_x, l_x⟩ := okl (m := 3) (by decide) h1
    refine (m_isIn (t) ((-1)) (1) _ _) _ _ _ ?_
    refine am_go 400 ?_
    refine am_if (fun h2 => ?_) (fun h2 => ?_)
    · have h2 := bI_0.mp h2
      exact k1 h1 h2
    · have h2 := bI_1.mp h2
      refine am_if (fun h3 => ?_) (fun h3 => ?_)
      · refine am_t (h3) ?_
        refine am_f (ix_in (n := (kx x)) (N := 4) e_x (by omega) (by decide)) ?_
        refine am_if (fun h4 => ?_) (fun h4 => ?_)
        · refine am_f (ix_in (n := (kx x)) (N := 4) e_x (by omega) (by decide)) ?_
          refine am_cut ?_
          refine am_go 2 ?_
          exact k2 h1 h2 h3 h4
        · refine am_f (ix_in (n := (kx x)) (N := 4) e_x (by omega) (by decide)) ?_
          refine am_cut ?_
          refine am_go 2 ?_
          exact k3 h1 h2 h3 h4
      · refine am_if (fun h5 => ?_) (fun h5 => ?_)
        · refine am_f (h3) ?_
          refine am_if (fun h6 => ?_) (fun h6 => ?_)
          · refine am_f (ix_in (n := (kx x)) (N := 4) e_x (by omega) (by decide)) ?_
            refine am_if (fun h7 => ?_) (fun h7 => ?_)
            · refine am_f (ix_in (n := (kx x)) (N := 4) e_x (by omega) (by decide)) ?_
              refine am_cut ?_
              refine am_go 2 ?_
              exact k4 h1 h2 h3 h5 h6 h7
            · refine am_f (ix_in (n := (kx x)) (N := 4) e_x (by omega) (by decide)) ?_
              refine am_cut ?_
              refine am_go 2 ?_
              exact k5 h1 h2 h3 h5 h6 h7
          · exact k6 h1 h2 h3 h5 h6
        · exact k7 h1 h2 h3 h5
theorem p_X8_sheet {I X d s} (h : RM I s) (G : GS s) (x t n : Int32) : Sp mX8_sheet [.inr (.inr (some (8, 0))), .inl (x), .inl (t), .inl (n)] (d + 2) I X (OM I X (f_sheet s x t n)) := fun g gs Q K => by
  have hn : I 30 0 0 = nI (nb s) := h.1.1.1
  have hn8 : nb s ≤ 8 := G.1.1.1
  have g8 : G8 s := G8_ G
  refine w_X8_sheet h G  ?_ ?_ ?_ ?_ ?_ ?_ ?_ ?_
  · intro h0
    apply K_s K
    unfold f_sheet
    rw [if_neg h0]
    exact ⟨rfl, h, ⟨FrM_r, rfl⟩⟩
  · intro h0 h1
    obtain ⟨e_x, l_x⟩ := okl (m := 3) (by decide) h0
    apply K_s K
    unfold f_sheet
    rw [if_pos h0, if_neg h1]
    exact ⟨rfl, h, ⟨FrM_r, rfl⟩⟩
  · intro h0 h1 h2 h3
    obtain ⟨e_x, l_x⟩ := okl (m := 3) (by decide) h0
    exact absurd h2 (Int32.not_lt.mpr h3)
  · intro h0 h1 h2 h3
    obtain ⟨e_x, l_x⟩ := okl (m := 3) (by decide) h0
    have et := tm1 h1.1 h2
    rw [show up3 (up3 I 33 0 (kx x) t) 34 0 (kx x) 0 = fl (up3 (up3 I 33 0 (kx x) t) 34 0 (kx x) 0) 35 0 (24 * kx x) 0 (fun _ => 0) from fl_0.symm]
    refine l_X8_sheet e_x (by omega) 24 0 rfl ?_
    apply K_s K
    unfold f_sheet
    rw [if_pos h0, if_pos h1, if_pos et]
    exact ⟨up3_s, by have := RM_ro (t := t) (f := fun _ => 0) h (k := kx x) (by omega) (rfl : (0 : Int32) = nI 0); rw [et] at this ⊢; exact this, FrM_f rfl (FrM_3 rfl (FrM_3 rfl FrM_r)), rfl⟩
  · intro h0 h1 h2 h3 h4 h5
    obtain ⟨e_x, l_x⟩ := okl (m := 3) (by decide) h0
    have et : ¬ t = -1 := fun z => h2 (by rw [z]; decide)
    rw [show up3 (up3 I 33 0 (kx x) t) 34 0 (kx x) n = fl (up3 (up3 I 33 0 (kx x) t) 34 0 (kx x) n) 35 0 (24 * kx x) 0 (fun _ => 0) from fl_0.symm]
    refine l_X8_sheet e_x (by omega) 24 0 rfl ?_
    apply K_s K
    unfold f_sheet
    rw [if_pos h0, if_pos h1, if_neg et, if_pos h3, if_pos h4]
    exact ⟨up3_s, RM_ro h (by omega) (nn_nI h4), FrM_f rfl (FrM_3 rfl (FrM_3 rfl FrM_r)), rfl⟩
  · intro h0 h1 h2 h3 h4 h5
    obtain ⟨e_x, l_x⟩ := okl (m := 3) (by decide) h0
    exact absurd (Int32.not_lt.mp h2) h5
  · intro h0 h1 h2 h3 h4
    obtain ⟨e_x, l_x⟩ := okl (m := 3) (by decide) h0
    have et : ¬ t = -1 := fun z => h2 (by rw [z]; decide)
    apply K_s K
    unfold f_sheet
    rw [if_pos h0, if_pos h1, if_neg et, if_pos h3, if_neg h4]
    exact ⟨rfl, h, FrM_r, rfl⟩
  · intro h0 h1 h2 h3
    obtain ⟨e_x, l_x⟩ := okl (m := 3) (by decide) h0
    have et : ¬ t = -1 := fun z => h2 (by rw [z]; decide)
    apply K_s K
    unfold f_sheet
    rw [if_pos h0, if_pos h1, if_neg et, if_neg h3]
    exact ⟨rfl, h, FrM_r, rfl⟩

