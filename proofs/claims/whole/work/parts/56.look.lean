/-! THE NECK -/
def FrN (I I' : Im) : Prop := ∀ g, ¬ (g = 2 ∨ g = 19 ∨ g = 20 ∨ g = 21 ∨ g = 22 ∨ g = 28) → I' g = I g
theorem FrN_t {I I' I''} (h : FrN I I') (h2 : FrN I' I'') : FrN I I'' := fun g n => (h2 g n).trans (h g n)
theorem FrN_3 {I I' g k j v} (h : FrN I I') (hg : g = 2 ∨ g = 19 ∨ g = 20 ∨ g = 21 ∨ g = 22 ∨ g = 28) : FrN I (up3 I' g k j v) := fun g' n => by rw [up3_g (fun e => n (by rw [e]; exact hg))]; exact h g' n
theorem FrN_K {I I' I''} (h : FrN I I') (h2 : FrK I' I'') : FrN I I'' := fun g n => (h2 g (fun e => n (by omega))).trans (h g n)
def NkR (I : Im) (st gf : Nat → Nat) (left : Nat) : Prop := I 2 0 4 = nI left ∧ (∀ l, 6 - left ≤ l → l < 6 → I 19 0 l = nI (st l)) ∧ ∀ l, 6 - left ≤ l → l ≤ 6 → I 20 0 l = nI (gf l)
theorem RB_g {I I' : Im} {b : Nat} {β : Bn} (h : RB (cB I b) β) (h0 : I' 0 = I 0) (h1 : I' 16 = I 16) (h2 : I' 17 = I 17) : RB (cB I' b) β := RB_same h (fun i _ => by show I' 0 _ _ = I 0 _ _; rw [h0]) (fun i _ => by show I' 16 _ _ = I 16 _ _; rw [h1]) (fun i _ => by show I' 17 _ _ = I 17 _ _; rw [h2])
theorem RB_N {I I' : Im} {b : Nat} {β : Bn} (h : RB (cB I b) β) (F : FrN I I') : RB (cB I' b) β := RB_g h (F 0 (by decide)) (F 16 (by decide)) (F 17 (by decide))
theorem RB_K {I I' : Im} {b : Nat} {β : Bn} (h : RB (cB I b) β) (F : FrK I I') : RB (cB I' b) β := RB_g h (F 0 (by decide)) (F 16 (by decide)) (F 17 (by decide))
theorem TsC_N {I I' X c nt tx} (h : TsC I X c nt tx) (F : FrN I I') : TsC I' X c nt tx := by
  obtain ⟨a, b, e⟩ := h
  refine ⟨by rw [F 1 (by decide)]; exact a, fun key hk => by rw [F 18 (by decide)]; exact b key hk, fun t ht => ?_⟩
  obtain ⟨id, h1, h2, h3, h4, h5, h6, h7⟩ := e t ht
  exact ⟨id, h1, h2, by rw [F 6 (by decide)]; exact h3, by rw [F 6 (by decide)]; exact h4, h5, h6, fun k hk => by rw [F 27 (by decide)]; exact h7 k hk⟩
theorem gfN_s (β : Bn) {j : Nat} (h : j < 6) : gfN β j = gfN β (j + 1) + grN β j := by
  unfold gfN
  rw [show 6 - j = (6 - (j + 1)) + 1 by omega]
  show grN β j + _ = _
  omega
theorem ult {u : Int32} {i : Nat} (h : u + 1 = nI i) (hi : i < 2 ^ 30) : u < nI i := by
  cases i with
  | zero =>
    have : u = -1 := by
      have e : u + 1 + (-1) = (0 : Int32) + (-1) := by rw [h, nI_0]
      rw [Int32.add_assoc, show (1 : Int32) + (-1) = 0 from rfl] at e
      simpa using e
    rw [this]; decide
  | succ m =>
    rw [um1 h]
    exact (nI_ltI (by omega) (by omega)).mpr (by omega)
theorem um0 (j : Nat) : nI j + (-1) + 1 = nI j := by
  rw [Int32.add_assoc, show (-1 : Int32) + 1 = 0 from rfl]
  simp
set_option maxRecDepth 100000 in
set_option maxHeartbeats 4000000 in
theorem w_X2_look {I : Nat → Nat → Nat → Int32} {X : am_Z} {g : am_F} {gs : List am_F} {d : Nat} {Q : Option am_V → am_M → Prop} {c b : Nat} {β : Bn} (hB : RB (cB I b) β) (hg : GB β) (k0 : am_WP ((mX2_look, 10, [some (.inr (.inr (some (2, 0)))), some (.inr (.inr (some (1, c)))), some (.inr (.inr (some (0, b)))), some (.inl (5))], []) :: g :: gs) (d + 4) (mk (up3 I 2 0 (4) ((nI (β.1 3)))) X) Q) : am_WP (am_entry mX2_look [.inr (.inr (some (2, 0))), .inr (.inr (some (1, c))), .inr (.inr (some (0, b)))] :: g :: gs) (d + 4) (mk I X) Q := by
  refine am_go 6 ?_
  have bd : (β.1 3) ≤ 6 := hg.2.2.2.1
  have tk0 : I 0 b 5 = nI (β.1 3) := (hB 3 (by omega)).1
  show am_WP ((mX2_look, 10, [some (.inr (.inr (some (2, 0)))), some (.inr (.inr (some (1, c)))), some (.inr (.inr (some (0, b)))), some (.inl (5))], []) :: g :: gs) (d + 4) (mk (up3 I 2 0 (4) ((I 0 b 5))) X) Q
  try rw [tk0]
  exact k0
set_option maxRecDepth 100000 in
set_option maxHeartbeats 4000000 in
theorem w_look_end {I : Nat → Nat → Nat → Int32} {X : am_Z} {g : am_F} {gs : List am_F} {d : Nat} {Q : Option am_V → am_M → Prop} {c b i lf : Nat} {u : Int32} (hlf : I 2 0 4 = nI lf) (hlf6 : lf ≤ 6) (hi : i = 6 - lf) (hu : u + 1 = nI i) (k0 : am_WP (am_psh g none :: gs) (d + 5) (mk I X) Q) : am_WP ((mX2_look, 10, [some (.inr (.inr (some (2, 0)))), some (.inr (.inr (some (1, c)))), some (.inr (.inr (some (0, b)))), some (.inl (u))], []) :: g :: gs) (d + 4) (mk I X) Q := by
  refine am_go 400 ?_
  have tk0 : I 2 0 4 = nI lf := hlf
  refine am_t (by show u < (6 - (I 2 0 4)); (try rw [tk0]); first | done | exact (by rw [show (6 : Int32) - nI lf = nI (6 - lf) from nI_subE (rfl : (6 : Int32) = nI 6) rfl (by omega), ← hi]; exact ult hu (by omega))) ?_
  exact k0
set_option maxRecDepth 100000 in
set_option maxHeartbeats 4000000 in
theorem w_look_body {I : Nat → Nat → Nat → Int32} {X : am_Z} {g : am_F} {gs : List am_F} {d : Nat} {Q : Option am_V → am_M → Prop} {c b nt : Nat} {tx : Nat → Tx} {β : Bn} {j lf : Nat} (hlf : I 2 0 4 = nI lf) (hlf6 : lf ≤ 6) (hB : RB (cB I b) β) (hg : GB β) (hTs : TsC I X c nt tx) (hn : nt ≤ 14) (hGT : ∀ t, t < nt → GT (tx t)) (hj : j < 6) (hj2 : 6 - lf ≤ j) (hgf : I 20 0 (j + 1) = nI (gfN β (j + 1))) (k0 : ∀ (I1 : Im), (FrK I I1) → am_WP ((mX2_look, 10, [some (.inr (.inr (some (2, 0)))), some (.inr (.inr (some (1, c)))), some (.inr (.inr (some (0, b)))), some (.inl ((nI j + (-1))))], []) :: g :: gs) (d + 4) (mk (up3 (up3 I1 19 0 (j) (nI (strN nt tx β j))) 20 0 (j) ((nI ((gfN β (j + 1)) + (grN β j))))) X) Q) : am_WP ((mX2_look, 10, [some (.inr (.inr (some (2, 0)))), some (.inr (.inr (some (1, c)))), some (.inr (.inr (some (0, b)))), some (.inl (nI j))], []) :: g :: gs) (d + 4) (mk I X) Q := by
  refine am_go 400 ?_
  have tk0 : I 2 0 4 = nI lf := hlf
  refine am_f (mt (lt_nat (a := j) (b := (6 - lf)) (rfl : (nI j : Int32) = nI j) (nI_subE (rfl : (6 : Int32) = nI 6) tk0 (by omega)) (by omega) (by omega)).mp (by omega)) ?_
  refine (c_X1_strong (I := I) (c := c) (b := b) (l := j) rfl hB hg hTs hn hGT (rfl : (nI j : Int32) = nI j) (by omega)) _ _ _ ?_
  intro I1 p1
  refine am_go 400 ?_
  refine am_f (ix_in (n := j) (N := 6) (rfl : (nI j : Int32) = nI j) (by omega) (by decide)) ?_
  have tk1 : (nI j).toNatClampNeg = j := ix_cl (n := j) (rfl : (nI j : Int32) = nI j) (by omega)
  refine am_f (ix_in (n := (j + 1)) (N := 7) (nI_addE rfl (rfl : (1 : Int32) = nI 1)) (by omega) (by decide)) ?_
  have tk2 : ((nI j + 1)).toNatClampNeg = (j + 1) := ix_cl (n := (j + 1)) (nI_addE rfl (rfl : (1 : Int32) = nI 1)) (by omega)
  have bd : (gfN β (j + 1)) ≤ 168 := gfN_le hg _
  have tk3 : (up3 I1 19 0 (((nI j).toNatClampNeg)) (nI (strN nt tx β j))) 20 0 ((((nI j + 1)).toNatClampNeg)) = nI (gfN β (j + 1)) := by first | exact ((congrFun (congrFun (p1 20 (by decide)) _) _).trans (hgf)) | (((try rw [tk2]); (try rw [tk1])); first | done | exact ((congrFun (congrFun (p1 20 (by decide)) _) _).trans (hgf)))
  have bd : (grN β j) ≤ 28 := grN_le hg (by omega)
  refine (cE_X0_grips (I := (up3 I1 19 0 (((nI j).toNatClampNeg)) (nI (strN nt tx β j)))) (b := b) (l := j) rfl (show RB (cB I1 b) β from RB_K hB p1) hg (rfl : (nI j : Int32) = nI j) (by omega)) _ _ _ ?_
  refine am_go 400 ?_
  refine am_f (ix_in (n := j) (N := 7) (rfl : (nI j : Int32) = nI j) (by omega) (by decide)) ?_
  have tk4 : (((up3 I1 19 0 (((nI j).toNatClampNeg)) (nI (strN nt tx β j))) 20 0 ((((nI j + 1)).toNatClampNeg))) + nI (grN β j)) = nI ((gfN β (j + 1)) + (grN β j)) := by first | exact (nI_addE tk3 rfl) | (((try rw [tk3]); (try rw [tk2]); (try rw [tk1])); first | done | exact (nI_addE tk3 rfl))
  show am_WP ((mX2_look, 10, [some (.inr (.inr (some (2, 0)))), some (.inr (.inr (some (1, c)))), some (.inr (.inr (some (0, b)))), some (.inl ((nI j + (-1))))], []) :: g :: gs) (d + 4) (mk (up3 (up3 I1 19 0 (((nI j).toNatClampNeg)) (nI (strN nt tx β j))) 20 0 (((nI j).toNatClampNeg)) (((((up3 I1 19 0 (((nI j).toNatClampNeg)) (nI (strN nt tx β j))) 20 0 ((((nI j + 1)).toNatClampNeg))) + nI (grN β j))))) X) Q
  try rw [tk4]
  try rw [tk3]
  try rw [tk2]
  try rw [tk1]
  exact k0 I1 p1
theorem l_X2_look {I0 : Im} {X g gs d Q} {c b nt lf : Nat} {tx : Nat → Tx} {β : Bn} (hB : RB (cB I0 b) β) (hg : GB β) (hTs : TsC I0 X c nt tx) (hn : nt ≤ 14) (hGT : ∀ t, t < nt → GT (tx t)) (hlf6 : lf ≤ 6) : ∀ (n i : Nat) (u : Int32) (I : Im), i = 6 - lf + n → i ≤ 6 → u + 1 = nI i → I 2 0 4 = nI lf → (∀ l, i ≤ l → l < 6 → I 19 0 l = nI (strN nt tx β l)) → (∀ l, i ≤ l → l ≤ 6 → I 20 0 l = nI (gfN β l)) → I 21 0 0 = 0 ∧ I 22 0 0 = 0 → FrN I0 I →
    (∀ I', FrN I0 I' ∧ NkR I' (strN nt tx β) (gfN β) lf ∧ NkC I' → am_WP (am_psh g none :: gs) (d + 5) (mk I' X) Q) →
    am_WP ((mX2_look, 10, [some (.inr (.inr (some (2, 0)))), some (.inr (.inr (some (1, c)))), some (.inr (.inr (some (0, b)))), some (.inl u)], []) :: g :: gs) (d + 4) (mk I X) Q
  | 0, i, u, I, hi, hi6, hu, hlf, hs, hgf, hz, F, K => w_look_end hlf hlf6 hi hu (K I ⟨F, ⟨hlf, fun l a b => hs l (by omega) b, fun l a b => hgf l (by omega) b⟩, hgf 6 hi6 (Nat.le_refl _), hz.1, hz.2⟩)
  | n + 1, i, u, I, hi, hi6, hu, hlf, hs, hgf, hz, F, K => by
    obtain ⟨j, rfl⟩ : ∃ j, i = j + 1 := ⟨i - 1, by omega⟩
    have hu' := um1 hu
    subst hu'
    refine w_look_body hlf hlf6 (RB_N hB F) hg (TsC_N hTs F) hn hGT (by omega) (by omega) (hgf (j + 1) (Nat.le_refl _) hi6) ?_
    intro I1 p1
    have q2 := p1 2 (by decide)
    have q19 := p1 19 (by decide)
    have q20 := p1 20 (by decide)
    have q21 := p1 21 (by decide)
    have q22 := p1 22 (by decide)
    refine l_X2_look hB hg hTs hn hGT hlf6 n j _ _ (by omega) (by omega) (um0 j) ?_ (fun l a b => ?_) (fun l a b => ?_) ?_ (FrN_3 (FrN_3 (FrN_K F p1) (by decide)) (by decide)) K
    · show I1 2 0 4 = _; rw [q2]; exact hlf
    · show up3 I1 19 0 j _ 19 0 l = _
      rw [up3_at]
      split
      · rename_i e; rw [e]
      · rw [q19]; exact hs l (by omega) b
    · rw [up3_at]
      split
      · rename_i e; rw [e, gfN_s β (j := j) (by omega)]
      · show up3 I1 19 0 j _ 20 0 l = _
        show I1 20 0 l = _
        rw [q20]; exact hgf l (by omega) b
    · show I1 21 0 0 = 0 ∧ I1 22 0 0 = 0
      rw [q21, q22]; exact hz
theorem c_X2_look {I X d} {c q b nt : Nat} {tx : Nat → Tx} {β : Bn} (hq : q = b) (hB : RB (cB I b) β) (hg : GB β) (hTs : TsC I X c nt tx) (hn : nt ≤ 14) (hGT : ∀ t, t < nt → GT (tx t)) (hN : NkC I) : Sw mX2_look [.inr (.inr (some (2, 0))), .inr (.inr (some (1, c))), .inr (.inr (some (0, q)))] (d + 4) I X none (fun I' => FrN I I' ∧ NkR I' (strN nt tx β) (gfN β) (β.1 3) ∧ NkC I') := fun g gs Q K => by
  subst hq
  have h6 : β.1 3 ≤ 6 := hg.2.2.2.1
  refine w_X2_look hB hg ?_
  exact l_X2_look hB hg hTs hn hGT h6 (β.1 3) 6 _ _ (by omega) (Nat.le_refl _) rfl up3_s (fun l a b => absurd a (by omega)) (fun l a b => by
    rw [show l = 6 by omega]; exact hN.1) ⟨hN.2.1, hN.2.2⟩ (FrN_3 (fun _ _ => rfl) (by decide)) K
