set_option maxRecDepth 100000 in
set_option maxHeartbeats 4000000 in
theorem w_X1_becomeAs {I : Nat → Nat → Nat → Int32} {X : am_Z} {g : am_F} {gs : List am_F} {d : Nat} {Q : Option am_V → am_M → Prop} {c o : Nat} {σ : Cn} (hR : RepC I o σ) (k0 : am_WP ((mX1_becomeAs, 10, [some (.inr (.inr (some (1, c)))), some (.inr (.inr (some (1, o)))), some (.inl (0))], []) :: g :: gs) (d + 1) (mk (up3 I 1 c (3) ((nI σ.1))) X) Q) : am_WP (am_entry mX1_becomeAs [.inr (.inr (some (1, c))), .inr (.inr (some (1, o)))] :: g :: gs) (d + 1) (mk I X) Q := by
  refine am_go 6 ?_
  have tk0 : I 1 o 3 = nI σ.1 := hR.1
  show am_WP ((mX1_becomeAs, 10, [some (.inr (.inr (some (1, c)))), some (.inr (.inr (some (1, o)))), some (.inl (0))], []) :: g :: gs) (d + 1) (mk (up3 I 1 c (3) ((I 1 o 3))) X) Q
  try rw [tk0]
  exact k0
set_option maxRecDepth 100000 in
set_option maxHeartbeats 4000000 in
theorem w_ba_10e {I : Nat → Nat → Nat → Int32} {X : am_Z} {g : am_F} {gs : List am_F} {d : Nat} {Q : Option am_V → am_M → Prop} {c o n i nt : Nat} (hne : c ≠ o) (hn : n ≤ 8) (hi : n ≤ i) (hi8 : i ≤ 8) (hn3 : I 1 c 3 = nI n) (ho4 : I 1 o 4 = nI nt) (k0 : am_WP ((mX1_becomeAs, 49, [some (.inr (.inr (some (1, c)))), some (.inr (.inr (some (1, o)))), some (.inl (0))], []) :: g :: gs) (d + 1) (mk (up3 I 1 c (4) ((nI nt))) X) Q) : am_WP ((mX1_becomeAs, 10, [some (.inr (.inr (some (1, c)))), some (.inr (.inr (some (1, o)))), some (.inl (nI i))], []) :: g :: gs) (d + 1) (mk I X) Q := by
  refine am_go 400 ?_
  have tk0 : I 1 c 3 = nI n := hn3
  refine am_t ((le_nat (a := n) (b := i) tk0 (rfl : (nI i : Int32) = nI i) (by omega) (by omega)).mpr hi) ?_
  have tk1 : I 1 o 4 = nI nt := ho4
  refine am_cf rfl ?_
  refine am_cut ?_
  refine am_go 6 ?_
  show am_WP ((mX1_becomeAs, 49, [some (.inr (.inr (some (1, c)))), some (.inr (.inr (some (1, o)))), some (.inl (0))], []) :: g :: gs) (d + 1) (mk (up3 I 1 c (4) ((I 1 o 4))) X) Q
  try rw [tk1]
  exact k0
set_option maxRecDepth 100000 in
set_option maxHeartbeats 4000000 in
theorem w_ba_10 {I : Nat → Nat → Nat → Int32} {X : am_Z} {g : am_F} {gs : List am_F} {d : Nat} {Q : Option am_V → am_M → Prop} {c o n i : Nat} {β : Bn} (hne : c ≠ o) (hc : c < 3) (ho : o < 3) (hn : n ≤ 8) (hi : i < n) (hn3 : I 1 c 3 = nI n) (hB : RB (cB I (i + 8 * o)) β) (k0 : ∀ (I1 : Im), (RB (cB I1 (i + 8 * c)) β ∧ FrQ (i + 8 * c) I I1) → am_WP ((mX1_becomeAs, 10, [some (.inr (.inr (some (1, c)))), some (.inr (.inr (some (1, o)))), some (.inl ((nI (i + 1))))], []) :: g :: gs) (d + 1) (mk I1 X) Q) : am_WP ((mX1_becomeAs, 10, [some (.inr (.inr (some (1, c)))), some (.inr (.inr (some (1, o)))), some (.inl (nI i))], []) :: g :: gs) (d + 1) (mk I X) Q := by
  refine am_go 400 ?_
  have tk0 : I 1 c 3 = nI n := hn3
  refine am_f (mt (le_nat (a := n) (b := i) tk0 (rfl : (nI i : Int32) = nI i) (by omega) (by omega)).mp (by omega)) ?_
  refine am_f (ix_in (n := i) (N := 8) (rfl : (nI i : Int32) = nI i) (by omega) (by decide)) ?_
  have tk1 : (nI i).toNatClampNeg = i := ix_cl (n := i) (rfl : (nI i : Int32) = nI i) (by omega)
  refine am_f (ix_in (n := i) (N := 8) (rfl : (nI i : Int32) = nI i) (by omega) (by decide)) ?_
  refine (c_X0_becomeAs (q1 := i + 8 * c) (q2 := i + 8 * o) (show ((nI i).toNatClampNeg) + 8 * c = i + 8 * c by (try rw [tk1]); first | done | rfl) (show ((nI i).toNatClampNeg) + 8 * o = i + 8 * o by (try rw [tk1]); first | done | rfl) hB (by omega)) _ _ _ ?_
  intro I1 p1
  refine am_go 400 ?_
  have tk2 : (nI i + 1) = nI (i + 1) := (nI_addE rfl (rfl : (1 : Int32) = nI 1))
  show am_WP ((mX1_becomeAs, 10, [some (.inr (.inr (some (1, c)))), some (.inr (.inr (some (1, o)))), some (.inl (((nI i + 1))))], []) :: g :: gs) (d + 1) (mk I1 X) Q
  try rw [tk2]
  exact k0 I1 p1
set_option maxRecDepth 100000 in
set_option maxHeartbeats 4000000 in
theorem w_ba_49e {I : Nat → Nat → Nat → Int32} {X : am_Z} {g : am_F} {gs : List am_F} {d : Nat} {Q : Option am_V → am_M → Prop} {c o i nt : Nat} (hn : nt ≤ 14) (hi : nt ≤ i) (hi8 : i ≤ 14) (hn4 : I 1 c 4 = nI nt) (k0 : am_WP ((mX1_becomeAs, 77, [some (.inr (.inr (some (1, c)))), some (.inr (.inr (some (1, o)))), some (.inl (0))], []) :: g :: gs) (d + 1) (mk I X) Q) : am_WP ((mX1_becomeAs, 49, [some (.inr (.inr (some (1, c)))), some (.inr (.inr (some (1, o)))), some (.inl (nI i))], []) :: g :: gs) (d + 1) (mk I X) Q := by
  refine am_go 400 ?_
  have tk0 : I 1 c 4 = nI nt := hn4
  refine am_t ((le_nat (a := nt) (b := i) tk0 (rfl : (nI i : Int32) = nI i) (by omega) (by omega)).mpr hi) ?_
  refine am_cf rfl ?_
  refine am_cut ?_
  refine am_go 2 ?_
  exact k0
set_option maxRecDepth 100000 in
set_option maxHeartbeats 4000000 in
theorem w_ba_49 {I : Nat → Nat → Nat → Int32} {X : am_Z} {g : am_F} {gs : List am_F} {d : Nat} {Q : Option am_V → am_M → Prop} {c o i nt id : Nat} (hn : nt ≤ 14) (hi : i < nt) (hn4 : I 1 c 4 = nI nt) (hid : X.1 o i = some (6, id)) (k0 : am_WP ((mX1_becomeAs, 49, [some (.inr (.inr (some (1, c)))), some (.inr (.inr (some (1, o)))), some (.inl ((nI (i + 1))))], []) :: g :: gs) (d + 1) (mk I (upX X c (i) (some (6, id)))) Q) : am_WP ((mX1_becomeAs, 49, [some (.inr (.inr (some (1, c)))), some (.inr (.inr (some (1, o)))), some (.inl (nI i))], []) :: g :: gs) (d + 1) (mk I X) Q := by
  refine am_go 400 ?_
  have tk0 : I 1 c 4 = nI nt := hn4
  refine am_f (mt (le_nat (a := nt) (b := i) tk0 (rfl : (nI i : Int32) = nI i) (by omega) (by omega)).mp (by omega)) ?_
  refine am_f (ix_in (n := i) (N := 14) (rfl : (nI i : Int32) = nI i) (by omega) (by decide)) ?_
  have tk1 : (nI i).toNatClampNeg = i := ix_cl (n := i) (rfl : (nI i : Int32) = nI i) (by omega)
  refine am_cut ?_
  show am_WP ((mX1_becomeAs, 68, [some (.inr (.inr (some (1, c)))), some (.inr (.inr (some (1, o)))), some (.inl (nI i))], [.inr (.inr (X.1 o (((nI i).toNatClampNeg)))), .inl (nI i), .inr (.inr (some (81, c)))]) :: g :: gs) (d + 1) (mk I X) Q
  rw [show X.1 o (((nI i).toNatClampNeg)) = some (6, id) from by (try rw [tk1]); exact hid]
  refine am_go 1 ?_
  refine am_f (ix_in (n := i) (N := 14) (rfl : (nI i : Int32) = nI i) (by omega) (by decide)) ?_
  show am_WP ((mX1_becomeAs, 69, [some (.inr (.inr (some (1, c)))), some (.inr (.inr (some (1, o)))), some (.inl (nI i))], []) :: g :: gs) (d + 1) (am_sR (mk I X) 81 c (((nI i).toNatClampNeg)) (some (6, id))) Q
  rw [mk_sR81]
  refine am_go 400 ?_
  have tk2 : (nI i + 1) = nI (i + 1) := (nI_addE rfl (rfl : (1 : Int32) = nI 1))
  show am_WP ((mX1_becomeAs, 49, [some (.inr (.inr (some (1, c)))), some (.inr (.inr (some (1, o)))), some (.inl (((nI i + 1))))], []) :: g :: gs) (d + 1) (mk I (upX X c (((nI i).toNatClampNeg)) (some (6, id)))) Q
  try rw [tk1]
  try rw [tk2]
  exact k0
set_option maxRecDepth 100000 in
set_option maxHeartbeats 4000000 in
theorem w_X1_becomeAs_77 {I : Nat → Nat → Nat → Int32} {X : am_Z} {g : am_F} {gs : List am_F} {d : Nat} {Q : Option am_V → am_M → Prop} {c o i : Nat} {σ : Cn} (hR : RepC I o σ) (hne : c ≠ o) (hi : i ≤ 3) (k0 : (3 ≤ i) → am_WP (am_psh g none :: gs) (d + 2) (mk (up3 (up3 (up3 (up3 I 1 c (5) ((nI (σ.2.1 1)))) 1 c (6) ((nI (σ.2.1 2)))) 1 c (7) ((nI (σ.2.1 0)))) 1 c (8) ((σ.2.2.1))) X) Q) (k1 : (¬ (3 ≤ i)) → am_WP ((mX1_becomeAs, 77, [some (.inr (.inr (some (1, c)))), some (.inr (.inr (some (1, o)))), some (.inl ((nI (i + 1))))], []) :: g :: gs) (d + 1) (mk (up3 I 18 c (i) ((I 18 o (i)))) X) Q) : am_WP ((mX1_becomeAs, 77, [some (.inr (.inr (some (1, c)))), some (.inr (.inr (some (1, o)))), some (.inl (nI i))], []) :: g :: gs) (d + 1) (mk I X) Q := by
  refine am_go 400 ?_
  refine am_if (fun h1 => ?_) (fun h1 => ?_)
  · have nh1 := (le_nat (a := 3) (b := i) (rfl : (3 : Int32) = nI 3) (rfl : (nI i : Int32) = nI i) (by omega) (by omega)).mp h1
    have tk0 : I 1 o 5 = nI (σ.2.1 1) := hR.2.2.1
    have tk1 : (up3 I 1 c (5) ((I 1 o 5))) 1 o 6 = nI (σ.2.1 2) := by first | exact ((up3_ne _ (Or.inr (by omega)))).trans hR.2.2.2.1 | (((try rw [tk0])); first | done | exact ((up3_ne _ (Or.inr (by omega)))).trans hR.2.2.2.1)
    have tk2 : (up3 (up3 I 1 c (5) ((I 1 o 5))) 1 c (6) (((up3 I 1 c (5) ((I 1 o 5))) 1 o 6))) 1 o 7 = nI (σ.2.1 0) := by first | exact ((up3_ne _ (Or.inr (by omega)))).trans (((up3_ne _ (Or.inr (by omega)))).trans hR.2.1) | (((try rw [tk1]); (try rw [tk0])); first | done | exact ((up3_ne _ (Or.inr (by omega)))).trans (((up3_ne _ (Or.inr (by omega)))).trans hR.2.1))
    have tk3 : (up3 (up3 (up3 I 1 c (5) ((I 1 o 5))) 1 c (6) (((up3 I 1 c (5) ((I 1 o 5))) 1 o 6))) 1 c (7) (((up3 (up3 I 1 c (5) ((I 1 o 5))) 1 c (6) (((up3 I 1 c (5) ((I 1 o 5))) 1 o 6))) 1 o 7))) 1 o 8 = σ.2.2.1 := by first | exact ((up3_ne _ (Or.inr (by omega)))).trans (((up3_ne _ (Or.inr (by omega)))).trans (((up3_ne _ (Or.inr (by omega)))).trans hR.2.2.2.2.1)) | (((try rw [tk2]); (try rw [tk1]); (try rw [tk0])); first | done | exact ((up3_ne _ (Or.inr (by omega)))).trans (((up3_ne _ (Or.inr (by omega)))).trans (((up3_ne _ (Or.inr (by omega)))).trans hR.2.2.2.2.1)))
    show am_WP (am_psh g none :: gs) (d + 2) (mk (up3 (up3 (up3 (up3 I 1 c (5) ((I 1 o 5))) 1 c (6) (((up3 I 1 c (5) ((I 1 o 5))) 1 o 6))) 1 c (7) (((up3 (up3 I 1 c (5) ((I 1 o 5))) 1 c (6) (((up3 I 1 c (5) ((I 1 o 5))) 1 o 6))) 1 o 7))) 1 c (8) (((up3 (up3 (up3 I 1 c (5) ((I 1 o 5))) 1 c (6) (((up3 I 1 c (5) ((I 1 o 5))) 1 o 6))) 1 c (7) (((up3 (up3 I 1 c (5) ((I 1 o 5))) 1 c (6) (((up3 I 1 c (5) ((I 1 o 5))) 1 o 6))) 1 o 7))) 1 o 8))) X) Q
    try rw [tk3]
    try rw [tk2]
    try rw [tk1]
    try rw [tk0]
    exact k0 nh1
  · have nh1 := mt (le_nat (a := 3) (b := i) (rfl : (3 : Int32) = nI 3) (rfl : (nI i : Int32) = nI i) (by omega) (by omega)).mpr h1
    refine am_f (ix_in (n := i) (N := 3) (rfl : (nI i : Int32) = nI i) (by omega) (by decide)) ?_
    have tk4 : (nI i).toNatClampNeg = i := ix_cl (n := i) (rfl : (nI i : Int32) = nI i) (by omega)
    refine am_f (ix_in (n := i) (N := 3) (rfl : (nI i : Int32) = nI i) (by omega) (by decide)) ?_
    have tk5 : (nI i + 1) = nI (i + 1) := (nI_addE rfl (rfl : (1 : Int32) = nI 1))
    show am_WP ((mX1_becomeAs, 77, [some (.inr (.inr (some (1, c)))), some (.inr (.inr (some (1, o)))), some (.inl (((nI i + 1))))], []) :: g :: gs) (d + 1) (mk (up3 I 18 c (((nI i).toNatClampNeg)) ((I 18 o (((nI i).toNatClampNeg))))) X) Q
    try rw [tk4]
    try rw [tk5]
    exact k1 nh1
def BaF (c : Nat) (I0 : Im) (X0 : am_Z) (I : Im) (X : am_Z) : Prop := (∀ g k, ¬ (g = 1 ∧ k = c) → ¬ (g = 18 ∧ k = c) → ¬ ((g = 0 ∨ g = 16 ∨ g = 17) ∧ 8 * c ≤ k ∧ k < 8 * c + 8) → I g k = I0 g k) ∧ X.2 = X0.2 ∧ ∀ k j, k ≠ c → X.1 k j = X0.1 k j
theorem BaF_1 {c I0 X0 I X j v} (h : BaF c I0 X0 I X) : BaF c I0 X0 (up3 I 1 c j v) X := ⟨fun g k a b e => by
    rw [up3_k (by
      by_cases q : g = 1
      · right; intro z; exact a ⟨q, z⟩
      · exact Or.inl q)]
    exact h.1 g k a b e, h.2⟩
theorem BaF_18 {c I0 X0 I X j v} (h : BaF c I0 X0 I X) : BaF c I0 X0 (up3 I 18 c j v) X := ⟨fun g k a b e => by
    rw [up3_k (by
      by_cases q : g = 18
      · right; intro z; exact b ⟨q, z⟩
      · exact Or.inl q)]
    exact h.1 g k a b e, h.2⟩
theorem BaF_q {c I0 X0 I I' X q} (h : BaF c I0 X0 I X) (F : FrQ q I I') (hq : 8 * c ≤ q ∧ q < 8 * c + 8) : BaF c I0 X0 I' X := ⟨fun g k a b e => (F g k (fun z => e ⟨z.1, by omega, by omega⟩)).trans (h.1 g k a b e), h.2⟩
theorem BaF_X {c I0 X0 I X j v} (h : BaF c I0 X0 I X) : BaF c I0 X0 I (upX X c j v) := ⟨h.1, h.2.1, fun k j' hk => by show (if k = c ∧ j' = j then v else X.1 k j') = _; rw [if_neg (fun z => hk z.1)]; exact h.2.2 k j' hk⟩
theorem BaF_r {c I X} : BaF c I X I X := ⟨fun _ _ _ _ _ => rfl, rfl, fun _ _ _ => rfl⟩
theorem BaF_g {c I0 X0 I X g} (h : BaF c I0 X0 I X) (hg : ¬ (g = 0 ∨ g = 1 ∨ g = 16 ∨ g = 17 ∨ g = 18)) : I g = I0 g := funext fun k => h.1 g k (fun z => hg (by omega)) (fun z => hg (by omega)) (fun z => hg (by omega))
theorem RepC_Ba {c o I0 X0 I X σ} (h : RepC I0 o σ) (hn : σ.1 ≤ 8) (hne : o ≠ c) (F : BaF c I0 X0 I X) : RepC I o σ := RepC_cg h hn (F.1 1 o (fun z => hne z.2) (fun z => by omega) (fun z => by omega)) (fun k hk => ⟨F.1 _ _ (fun z => by omega) (fun z => by omega) (fun z => by omega), F.1 _ _ (fun z => by omega) (fun z => by omega) (fun z => by omega), F.1 _ _ (fun z => by omega) (fun z => by omega) (fun z => by omega)⟩)
theorem TxC_Ba {c I0 X0 I X id t} (h : TxC I0 X0 id t) (F : BaF c I0 X0 I X) : TxC I X id t := by
  have q6 := BaF_g (g := 6) F (by decide)
  have q27 := BaF_g (g := 27) F (by decide)
  obtain ⟨h2, h3, h4, h5, h6, h7⟩ := h
  unfold TxC
  rw [F.2.1]
  exact ⟨h2, by rw [q6]; exact h3, by rw [q6]; exact h4, h5, h6, fun k hk => by rw [q27]; exact h7 k hk⟩
theorem TsC_Ba {c o I0 X0 I X nt tx} (h : TsC I0 X0 o nt tx) (hne : o ≠ c) (F : BaF c I0 X0 I X) : TsC I X o nt tx := by
  obtain ⟨a, b, e⟩ := h
  refine ⟨by rw [F.1 1 o (fun z => hne z.2) (fun z => by omega) (fun z => by omega)]; exact a, fun key hk => by rw [F.1 18 o (fun z => by omega) (fun z => hne z.2) (fun z => by omega)]; exact b key hk, fun t ht => ?_⟩
  obtain ⟨id, h1, hT⟩ := e t ht
  exact ⟨id, by rw [F.2.2 o t hne]; exact h1, TxC_Ba hT F⟩
theorem l_ba_77 {I0 : Im} {X0 : am_Z} {g gs d Q} {c o : Nat} {σ : Cn} (hR : RepC I0 o σ) (hn : σ.1 ≤ 8) (hne : c ≠ o) : ∀ (m i : Nat) (I : Im) (X : am_Z), i + m = 3 → BaF c I0 X0 I X → (∀ j, j < i → I 18 c j = I0 18 o j) →
    (∀ I', (BaF c I0 X0 I' X ∧ (∀ j, j < 3 → I' 18 c j = I0 18 o j) ∧ (∀ g k, ¬ (g = 1 ∧ k = c) → ¬ (g = 18 ∧ k = c) → I' g k = I g k) ∧ I' 1 c 3 = I 1 c 3 ∧ I' 1 c 4 = I 1 c 4 ∧ I' 1 c 5 = nI (σ.2.1 1) ∧ I' 1 c 6 = nI (σ.2.1 2) ∧ I' 1 c 7 = nI (σ.2.1 0) ∧ I' 1 c 8 = σ.2.2.1) → am_WP (am_psh g none :: gs) (d + 2) (mk I' X) Q) →
    am_WP ((mX1_becomeAs, 77, [some (.inr (.inr (some (1, c)))), some (.inr (.inr (some (1, o)))), some (.inl (nI i))], []) :: g :: gs) (d + 1) (mk I X) Q
  | 0, i, I, X, hi, F, h18, K => w_X1_becomeAs_77 (RepC_Ba hR hn (fun e => hne e.symm) F) hne (by omega) (fun _ => K _ ⟨BaF_1 (BaF_1 (BaF_1 (BaF_1 F))), fun j hj => h18 j (by omega), fun g k a b => by
      have q : g ≠ 1 ∨ k ≠ c := by
        by_cases e : g = 1
        · right; intro z; exact a ⟨e, z⟩
        · exact Or.inl e
      rw [up3_k q, up3_k q, up3_k q, up3_k q], by rw [up3_j (by decide), up3_j (by decide), up3_j (by decide), up3_j (by decide)], by rw [up3_j (by decide), up3_j (by decide), up3_j (by decide), up3_j (by decide)], by rw [up3_j (by decide), up3_j (by decide), up3_j (by decide), up3_s], by rw [up3_j (by decide), up3_j (by decide), up3_s], by rw [up3_j (by decide), up3_s], up3_s⟩) (fun h => absurd (by omega) h)
  | m + 1, i, I, X, hi, F, h18, K => w_X1_becomeAs_77 (RepC_Ba hR hn (fun e => hne e.symm) F) hne (by omega) (fun h => absurd h (by omega)) (fun _ => by
      refine l_ba_77 hR hn hne m (i + 1) _ X (by omega) (BaF_18 F) (fun j hj => ?_) ?_
      · rw [up3_at]
        split
        · rename_i e; rw [e, F.1 18 o (fun z => by omega) (fun z => hne z.2.symm) (fun z => by omega)]
        · exact h18 j (by omega)
      · intro I' p
        refine K I' ⟨p.1, p.2.1, fun g k a b => (p.2.2.1 g k a b).trans (up3_k (by
          by_cases e : g = 18
          · right; intro z; exact b ⟨e, z⟩
          · exact Or.inl e)), p.2.2.2.1, p.2.2.2.2.1, p.2.2.2.2.2⟩)
theorem l_ba_49 {I0 : Im} {X0 : am_Z} {g gs d Q} {c o nt : Nat} {tx : Nat → Tx} (hT : TsC I0 X0 o nt tx) (hne : c ≠ o) (hn : nt ≤ 14) : ∀ (m i : Nat) (I : Im) (X : am_Z), i + m = nt → BaF c I0 X0 I X → I 1 c 4 = nI nt → (∀ j, j < i → X.1 c j = X0.1 o j) →
    (∀ X', BaF c I0 X0 I X' ∧ (∀ j, j < nt → X'.1 c j = X0.1 o j) → am_WP ((mX1_becomeAs, 77, [some (.inr (.inr (some (1, c)))), some (.inr (.inr (some (1, o)))), some (.inl (nI 0))], []) :: g :: gs) (d + 1) (mk I X') Q) →
    am_WP ((mX1_becomeAs, 49, [some (.inr (.inr (some (1, c)))), some (.inr (.inr (some (1, o)))), some (.inl (nI i))], []) :: g :: gs) (d + 1) (mk I X) Q
  | 0, i, I, X, hi, F, h4, hx, K => w_ba_49e hn (by omega) (by omega) h4 (K X ⟨F, fun j hj => hx j (by omega)⟩)
  | m + 1, i, I, X, hi, F, h4, hx, K => by
    obtain ⟨id, hid, _⟩ := hT.2.2 i (by omega)
    refine w_ba_49 hn (by omega) h4 (by rw [F.2.2 o i (fun e => hne e.symm)]; exact hid) ?_
    refine l_ba_49 hT hne hn m (i + 1) I _ (by omega) (BaF_X F) h4 (fun j hj => ?_) K
    show (if c = c ∧ j = i then _ else X.1 c j) = _
    by_cases e : j = i
    · rw [if_pos ⟨rfl, e⟩, e, hid]
    · rw [if_neg (fun z => e z.2)]; exact hx j (by omega)
theorem l_ba_10 {I0 : Im} {X0 : am_Z} {g gs d Q} {c o nt : Nat} {σ : Cn} (hR : RepC I0 o σ) (hne : c ≠ o) (hc : c < 3) (ho : o < 3) (hn : σ.1 ≤ 8) (ho4 : I0 1 o 4 = nI nt) : ∀ (m i : Nat) (I : Im), i + m = σ.1 → BaF c I0 X0 I X0 → I 1 c 3 = nI σ.1 → (∀ k, k < i → RB (cB I (k + 8 * c)) (σ.2.2.2 k)) →
    (∀ I', BaF c I0 X0 I' X0 ∧ I' 1 c 3 = nI σ.1 ∧ I' 1 c 4 = nI nt ∧ (∀ k, k < σ.1 → RB (cB I' (k + 8 * c)) (σ.2.2.2 k)) → am_WP ((mX1_becomeAs, 49, [some (.inr (.inr (some (1, c)))), some (.inr (.inr (some (1, o)))), some (.inl (nI 0))], []) :: g :: gs) (d + 1) (mk I' X0) Q) →
    am_WP ((mX1_becomeAs, 10, [some (.inr (.inr (some (1, c)))), some (.inr (.inr (some (1, o)))), some (.inl (nI i))], []) :: g :: gs) (d + 1) (mk I X0) Q
  | 0, i, I, hi, F, h3, hb, K => w_ba_10e hne hn (by omega) (by omega) h3 (by rw [F.1 1 o (fun z => hne z.2.symm) (fun z => by omega) (fun z => by omega)]; exact ho4) (K _ ⟨BaF_1 F, by rw [up3_j (by decide)]; exact h3, up3_s, fun k hk => hb k (by omega)⟩)
  | m + 1, i, I, hi, F, h3, hb, K => by
    refine w_ba_10 hne hc ho hn (by omega) h3 ((RepC_Ba hR hn (fun e => hne e.symm) F).2.2.2.2.2 i (by omega)) (fun I1 p1 => ?_)
    refine l_ba_10 hR hne hc ho hn ho4 m (i + 1) I1 (by omega) (BaF_q F p1.2 (by omega)) (by rw [p1.2 1 c (fun z => by omega)]; exact h3) (fun k hk => ?_) K
    by_cases e : k = i
    · subst e; exact p1.1
    · refine RB_same (hb k (by omega)) (fun j _ => ?_) (fun j _ => ?_) (fun j _ => ?_)
      · show I1 0 _ _ = I 0 _ _; rw [p1.2 _ _ (fun z => by omega)]
      · show I1 16 _ _ = I 16 _ _; rw [p1.2 _ _ (fun z => by omega)]
      · show I1 17 _ _ = I 17 _ _; rw [p1.2 _ _ (fun z => by omega)]
theorem c_X1_becomeAs {I X d} {c o : Nat} {e : Ce} (h : CeC I X o e) (hne : c ≠ o) (hc : c < 3) (ho : o < 3) (hn : e.1.1 ≤ 8) (hn2 : e.2.1 ≤ 14) : Sz mX1_becomeAs [.inr (.inr (some (1, c))), .inr (.inr (some (1, o)))] (d + 1) I X none (fun I' X' => CeC I' X' c e ∧ BaF c I X I' X') := fun g gs Q K => by
  refine w_X1_becomeAs h.1 (l_ba_10 (nt := e.2.1) h.1 hne hc ho hn h.2.1 e.1.1 0 _ (Nat.zero_add _) (BaF_1 BaF_r) up3_s (fun k hk => absurd hk (by omega)) (fun I1 p1 => ?_))
  refine l_ba_49 h.2 hne hn2 e.2.1 0 I1 X (Nat.zero_add _) p1.1 p1.2.2.1 (fun j hj => absurd hj (by omega)) (fun X1 q1 => ?_)
  refine l_ba_77 h.1 hn hne 3 0 I1 X1 rfl q1.1 (fun j hj => absurd hj (by omega)) (fun I2 p2 => K I2 X1 ⟨⟨⟨p2.2.2.2.1.trans p1.2.1, p2.2.2.2.2.2.2.2.1, p2.2.2.2.2.2.1, p2.2.2.2.2.2.2.1, p2.2.2.2.2.2.2.2.2, fun k hk => ?_⟩, ?_⟩, p2.1⟩)
  · refine RB_same (p1.2.2.2 k hk) (fun j _ => ?_) (fun j _ => ?_) (fun j _ => ?_)
    · show I2 0 _ _ = I1 0 _ _; rw [p2.2.2.1 _ _ (fun z => by omega) (fun z => by omega)]
    · show I2 16 _ _ = I1 16 _ _; rw [p2.2.2.1 _ _ (fun z => by omega) (fun z => by omega)]
    · show I2 17 _ _ = I1 17 _ _; rw [p2.2.2.1 _ _ (fun z => by omega) (fun z => by omega)]
  · refine ⟨p2.2.2.2.2.1.trans p1.2.2.1, fun key hk => (p2.2.1 key hk).trans (h.2.2.1 key hk), fun t ht => ?_⟩
    obtain ⟨id, h1, hT⟩ := h.2.2.2 t ht
    exact ⟨id, (q1.2 t ht).trans h1, TxC_Ba hT p2.1⟩
