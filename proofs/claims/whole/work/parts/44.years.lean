theorem l_X8_goesOn_0 {I0 : Im} {X g gs d Q} {dp : Prop} [Decidable dp] (hd : ¬ dp) : ∀ (n i : Nat) (σ : Cn) (I : Im), RepM (I 30 0) σ → GD σ → FrY I0 I → i + n = σ.1 →
    (∀ I', RepM (I' 30 0) (yEnd (agL dp n i σ)) ∧ FrY I0 I' → am_WP (am_psh g (some (.inl 0)) :: gs) (d + 3) (mk I' X) Q) →
    am_WP ((mX8_goesOn, 24, [some (.inr (.inr (some (8, 0)))), some (.inl 0), some (.inl (nI i))], []) :: g :: gs) (d + 2) (mk I X) Q
  | 0, i, σ, I, hR, hG, F, hi, K => by
    have h8 := hG.1
    refine w_X8_goesOn_24_0 hR hG (by omega) ?_ ?_ (fun hn => absurd (by omega) hn) (fun hn => absurd (by omega) hn) (fun hn => absurd (by omega) hn)
    · intro _ h0
      refine K _ ⟨?_, FrY_3 F (by omega)⟩
      show RepM _ (yEnd σ)
      unfold yEnd
      rw [if_neg (by omega)]
      exact RepM_Y hR rfl
    · intro _ h0
      have hk := Nat.mod_lt (dN σ.2.2.1) (show 0 < σ.1 by omega)
      have hl := Nat.mod_lt (dN (dZ σ.2.2.1)) (show 0 < 6 by decide)
      refine K _ ⟨?_, FrY_3 (FrY_3 (FrY_3 (FrY_3 F (by omega)) (by omega)) (by omega)) (by omega)⟩
      show RepM _ (yEnd σ)
      unfold yEnd
      rw [if_pos (by omega)]
      exact RepM_Y (RepM_1 (σ := setZ σ (dZ (dZ σ.2.2.1))) (RepM_Z (σ := setZ σ (dZ σ.2.2.1)) (RepM_Z hR)) hk hl rfl) rfl
  | n + 1, i, σ, I, hR, hG, F, hi, K => by
    have h8 := hG.1
    refine w_X8_goesOn_24_0 hR hG (by omega) (fun hn => absurd hn (by omega)) (fun hn => absurd hn (by omega)) ?_ ?_ ?_
    · intro _ h6 h2
      have e : ag1 dp i σ = setB σ i (b1 (b0 (σ.2.2.2 i) 1 (min ((σ.2.2.2 i).1 1 + 1) 99)) 0 ((σ.2.2.2 i).2.1 0 - σ.2.1 2)) := by unfold ag1 ageN; rw [if_pos h6, if_neg hd, if_pos h2]
      refine l_X8_goesOn_0 hd n (i + 1) (ag1 dp i σ) _ ?_ (GD_ag1 hG (by omega)) (FrY_3 (FrY_3 F (by omega)) (by omega)) (by rw [ag1_n.1]; omega) K
      rw [e]
      have q := RepM_1 (j := 0) (σ := setB σ i (b0 (σ.2.2.2 i) 1 (min ((σ.2.2.2 i).1 1 + 1) 99))) (k := i) (RepM_0 (j := 1) hR (by omega) (by omega) rfl) (show i < σ.1 by omega) (by decide) (rfl : nI ((σ.2.2.2 i).2.1 0 - σ.2.1 2) = _)
      rw [setB_2, show (setB σ i (b0 (σ.2.2.2 i) 1 (min ((σ.2.2.2 i).1 1 + 1) 99))).2.2.2 i = b0 (σ.2.2.2 i) 1 (min ((σ.2.2.2 i).1 1 + 1) 99) from fu_s] at q
      exact q
    · intro _ h6 h2
      have e : ag1 dp i σ = setB σ i (b0 (σ.2.2.2 i) 1 (min ((σ.2.2.2 i).1 1 + 1) 99)) := by unfold ag1 ageN; rw [if_pos h6, if_neg hd, if_neg h2]
      refine l_X8_goesOn_0 hd n (i + 1) (ag1 dp i σ) _ ?_ (GD_ag1 hG (by omega)) (FrY_3 F (by omega)) (by rw [ag1_n.1]; omega) K
      rw [e]
      exact RepM_0 (j := 1) hR (by omega) (by omega) rfl
    · intro _ h6
      have e : ag1 dp i σ = σ := by unfold ag1; rw [if_neg h6]
      refine l_X8_goesOn_0 hd n (i + 1) (ag1 dp i σ) _ ?_ (GD_ag1 hG (by omega)) F (by rw [ag1_n.1]; omega) K
      rw [e]
      exact hR
theorem l_X8_goesOn_1 {I0 : Im} {X g gs d Q} {dp : Prop} [Decidable dp] (hd : dp) : ∀ (n i : Nat) (σ : Cn) (I : Im), RepM (I 30 0) σ → GD σ → FrY I0 I → i + n = σ.1 →
    (∀ I', RepM (I' 30 0) (yEnd (agL dp n i σ)) ∧ FrY I0 I' → am_WP (am_psh g (some (.inl 1)) :: gs) (d + 3) (mk I' X) Q) →
    am_WP ((mX8_goesOn, 24, [some (.inr (.inr (some (8, 0)))), some (.inl 1), some (.inl (nI i))], []) :: g :: gs) (d + 2) (mk I X) Q
  | 0, i, σ, I, hR, hG, F, hi, K => by
    have h8 := hG.1
    refine w_X8_goesOn_24_1 hR hG (by omega) ?_ ?_ (fun hn => absurd (by omega) hn) (fun hn => absurd (by omega) hn) (fun hn => absurd (by omega) hn)
    · intro _ h0
      refine K _ ⟨?_, FrY_3 F (by omega)⟩
      show RepM _ (yEnd σ)
      unfold yEnd
      rw [if_neg (by omega)]
      exact RepM_Y hR rfl
    · intro _ h0
      have hk := Nat.mod_lt (dN σ.2.2.1) (show 0 < σ.1 by omega)
      have hl := Nat.mod_lt (dN (dZ σ.2.2.1)) (show 0 < 6 by decide)
      refine K _ ⟨?_, FrY_3 (FrY_3 (FrY_3 (FrY_3 F (by omega)) (by omega)) (by omega)) (by omega)⟩
      show RepM _ (yEnd σ)
      unfold yEnd
      rw [if_pos (by omega)]
      exact RepM_Y (RepM_1 (σ := setZ σ (dZ (dZ σ.2.2.1))) (RepM_Z (σ := setZ σ (dZ σ.2.2.1)) (RepM_Z hR)) hk hl rfl) rfl
  | n + 1, i, σ, I, hR, hG, F, hi, K => by
    have h8 := hG.1
    refine w_X8_goesOn_24_1 hR hG (by omega) (fun hn => absurd hn (by omega)) (fun hn => absurd hn (by omega)) ?_ ?_ ?_
    · intro _ h6 h2
      have e : ag1 dp i σ = setB σ i (b2 (b0 (σ.2.2.2 i) 1 (min ((σ.2.2.2 i).1 1 + 1) 99)) 5 ((σ.2.2.2 i).2.2 5 - σ.2.1 2)) := by unfold ag1 ageN; rw [if_pos h6, if_pos hd, if_pos h2]
      refine l_X8_goesOn_1 hd n (i + 1) (ag1 dp i σ) _ ?_ (GD_ag1 hG (by omega)) (FrY_3 (FrY_3 F (by omega)) (by omega)) (by rw [ag1_n.1]; omega) K
      rw [e]
      have q := RepM_2 (j := 5) (σ := setB σ i (b0 (σ.2.2.2 i) 1 (min ((σ.2.2.2 i).1 1 + 1) 99))) (k := i) (RepM_0 (j := 1) hR (by omega) (by omega) rfl) (show i < σ.1 by omega) (by decide) (rfl : nI ((σ.2.2.2 i).2.2 5 - σ.2.1 2) = _)
      rw [setB_2, show (setB σ i (b0 (σ.2.2.2 i) 1 (min ((σ.2.2.2 i).1 1 + 1) 99))).2.2.2 i = b0 (σ.2.2.2 i) 1 (min ((σ.2.2.2 i).1 1 + 1) 99) from fu_s] at q
      exact q
    · intro _ h6 h2
      have e : ag1 dp i σ = setB σ i (b0 (σ.2.2.2 i) 1 (min ((σ.2.2.2 i).1 1 + 1) 99)) := by unfold ag1 ageN; rw [if_pos h6, if_pos hd, if_neg h2]
      refine l_X8_goesOn_1 hd n (i + 1) (ag1 dp i σ) _ ?_ (GD_ag1 hG (by omega)) (FrY_3 F (by omega)) (by rw [ag1_n.1]; omega) K
      rw [e]
      exact RepM_0 (j := 1) hR (by omega) (by omega) rfl
    · intro _ h6
      have e : ag1 dp i σ = σ := by unfold ag1; rw [if_neg h6]
      refine l_X8_goesOn_1 hd n (i + 1) (ag1 dp i σ) _ ?_ (GD_ag1 hG (by omega)) F (by rw [ag1_n.1]; omega) K
      rw [e]
      exact hR
def bN (p : Prop) [Decidable p] : Nat := if p then 1 else 0
theorem bI_N {p : Prop} [Decidable p] : bI p = nI (bN p) := by unfold bI bN; split <;> rfl
theorem c_X8_goesOn {I X d} {σ : Cn} (hR : RepM (I 30 0) σ) (hG : GD σ) : Sw mX8_goesOn [.inr (.inr (some (8, 0)))] (d + 2) I X (some (.inl (bI (damp σ)))) (fun I' => RepM (I' 30 0) (yearN σ) ∧ FrY I I') := fun g gs Q K => by
  have hR' : RepM (up3 I 30 0 5 (dZ σ.2.2.1) 30 0) (setZ σ (dZ σ.2.2.1)) := RepM_Z hR
  refine w_X8_goesOn hR hG ?_ ?_
  · intro h1
    have hd : ¬ damp σ := by unfold damp; omega
    rw [bI_f hd] at K
    exact l_X8_goesOn_0 hd σ.1 0 _ _ hR' hG (FrY_3 FrY_r (by omega)) (Nat.zero_add _) K
  · intro h1
    have hd : damp σ := by unfold damp; omega
    rw [bI_t hd] at K
    exact l_X8_goesOn_1 hd σ.1 0 _ _ hR' hG (FrY_3 FrY_r (by omega)) (Nat.zero_add _) K
noncomputable def yrs : Nat → Cn → Cn
  | 0, σ => σ
  | n + 1, σ => yrs n (yearN σ)
theorem GD_yrs : ∀ {n : Nat} {σ : Cn}, GD σ → GD (yrs n σ)
  | 0, _, h => h
  | n + 1, _, h => GD_yrs (n := n) (GD_year h)
theorem yrs_n : ∀ {n : Nat} {σ : Cn}, (yrs n σ).1 = σ.1
  | 0, _ => rfl
  | n + 1, σ => (yrs_n (n := n)).trans yearN_n.1
set_option maxRecDepth 100000 in
set_option maxHeartbeats 4000000 in
theorem w_X1_passYears {I : Nat → Nat → Nat → Int32} {X : am_Z} {g : am_F} {gs : List am_F} {d : Nat} {Q : Option am_V → am_M → Prop} {c : Nat} {x : Int32} (k0 : am_WP ((mX1_passYears, 2, [some (.inr (.inr (some (1, c)))), some (.inl (x)), some (.inl (0))], []) :: g :: gs) (d + 2) (mk I X) Q) : am_WP (am_entry mX1_passYears [.inr (.inr (some (1, c))), .inl (x)] :: g :: gs) (d + 2) (mk I X) Q := by
  refine am_go 2 ?_
  exact k0
set_option maxRecDepth 100000 in
set_option maxHeartbeats 4000000 in
theorem w_X1_passYears_2 {I : Nat → Nat → Nat → Int32} {X : am_Z} {g : am_F} {gs : List am_F} {d : Nat} {Q : Option am_V → am_M → Prop} {c n i : Nat} {x : Int32} (hx : x = nI n) {σ : Cn} (hR : RepC I c σ) (hG : GD σ) (hc : c < 3) (hn : n ≤ 1000) (hi : i ≤ n) (k0 : (n ≤ i) → am_WP (am_psh g none :: gs) (d + 3) (mk I X) Q) (k1 : (¬ (n ≤ i)) → ∀ (I1 : Im), (RepC I1 c (yearN σ) ∧ FrB c I I1) → am_WP ((mX1_passYears, 2, [some (.inr (.inr (some (1, c)))), some (.inl (x)), some (.inl ((nI (i + 1))))], []) :: g :: gs) (d + 2) (mk I1 X) Q) : am_WP ((mX1_passYears, 2, [some (.inr (.inr (some (1, c)))), some (.inl (x)), some (.inl (nI i))], []) :: g :: gs) (d + 2) (mk I X) Q := by
  refine am_go 400 ?_
  refine am_if (fun h1 => ?_) (fun h1 => ?_)
  · have nh1 := (le_nat (a := n) (b := i) hx (rfl : (nI i : Int32) = nI i) (by omega) (by omega)).mp h1
    exact k0 nh1
  · have nh1 := mt (le_nat (a := n) (b := i) hx (rfl : (nI i : Int32) = nI i) (by omega) (by omega)).mpr h1
    refine (c_X1_passYear (c := c) hR hG (by omega)) _ _ _ ?_
    intro I1 p1
    refine am_go 400 ?_
    have tk0 : (nI i + 1) = nI (i + 1) := (nI_addE rfl (rfl : (1 : Int32) = nI 1))
    show am_WP ((mX1_passYears, 2, [some (.inr (.inr (some (1, c)))), some (.inl (x)), some (.inl (((nI i + 1))))], []) :: g :: gs) (d + 2) (mk I1 X) Q
    try rw [tk0]
    exact k1 nh1 I1 p1
set_option maxRecDepth 100000 in
set_option maxHeartbeats 4000000 in
theorem w_X8_goesOnMany {I : Nat → Nat → Nat → Int32} {X : am_Z} {g : am_F} {gs : List am_F} {d : Nat} {Q : Option am_V → am_M → Prop} {x : Int32} (k0 : am_WP ((mX8_goesOnMany, 2, [some (.inr (.inr (some (8, 0)))), some (.inl (x)), some (.inl (0)), none], []) :: g :: gs) (d + 3) (mk I X) Q) : am_WP (am_entry mX8_goesOnMany [.inr (.inr (some (8, 0))), .inl (x)] :: g :: gs) (d + 3) (mk I X) Q := by
  refine am_go 2 ?_
  exact k0
set_option maxRecDepth 100000 in
set_option maxHeartbeats 4000000 in
theorem w_X8_goesOnMany_2 {I : Nat → Nat → Nat → Int32} {X : am_Z} {g : am_F} {gs : List am_F} {d : Nat} {Q : Option am_V → am_M → Prop} {n i : Nat} {x : Int32} (hx : x = nI n) {σ : Cn} (hR : RepM (I 30 0) σ) (hG : GD σ) (hn : n ≤ 1000) (hi : i ≤ n) {y : Option am_V} (k0 : (n ≤ i) → am_WP (am_psh g none :: gs) (d + 4) (mk I X) Q) (k1 : (¬ (n ≤ i)) → ∀ (I1 : Im), (RepM (I1 30 0) (yearN σ) ∧ FrY I I1) → am_WP ((mX8_goesOnMany, 2, [some (.inr (.inr (some (8, 0)))), some (.inl (x)), some (.inl ((nI (i + 1)))), some (.inl (bI (damp σ)))], []) :: g :: gs) (d + 3) (mk I1 X) Q) : am_WP ((mX8_goesOnMany, 2, [some (.inr (.inr (some (8, 0)))), some (.inl (x)), some (.inl (nI i)), y], []) :: g :: gs) (d + 3) (mk I X) Q := by
  refine am_go 400 ?_
  refine am_if (fun h1 => ?_) (fun h1 => ?_)
  · have nh1 := (le_nat (a := n) (b := i) hx (rfl : (nI i : Int32) = nI i) (by omega) (by omega)).mp h1
    exact k0 nh1
  · have nh1 := mt (le_nat (a := n) (b := i) hx (rfl : (nI i : Int32) = nI i) (by omega) (by omega)).mpr h1
    refine (c_X8_goesOn hR hG) _ _ _ ?_
    intro I1 p1
    refine am_go 400 ?_
    have tk0 : (nI i + 1) = nI (i + 1) := (nI_addE rfl (rfl : (1 : Int32) = nI 1))
    show am_WP ((mX8_goesOnMany, 2, [some (.inr (.inr (some (8, 0)))), some (.inl (x)), some (.inl (((nI i + 1)))), some (.inl (bI (damp σ)))], []) :: g :: gs) (d + 3) (mk I1 X) Q
    try rw [tk0]
    exact k1 nh1 I1 p1
theorem l_X1_passYears {I0 : Im} {X g gs d Q} {c n : Nat} {x : Int32} (hx : x = nI n) (hc : c < 3) (hn : n ≤ 1000) : ∀ (m i : Nat) (σ : Cn) (I : Im), RepC I c σ → GD σ → FrB c I0 I → i + m = n →
    (∀ I', RepC I' c (yrs m σ) ∧ FrB c I0 I' → am_WP (am_psh g none :: gs) (d + 3) (mk I' X) Q) →
    am_WP ((mX1_passYears, 2, [some (.inr (.inr (some (1, c)))), some (.inl x), some (.inl (nI i))], []) :: g :: gs) (d + 2) (mk I X) Q
  | 0, i, σ, I, hR, hG, F, hi, K => w_X1_passYears_2 hx hR hG hc hn (by omega) (fun _ => K _ ⟨hR, F⟩) (fun h => absurd (by omega) h)
  | m + 1, i, σ, I, hR, hG, F, hi, K => w_X1_passYears_2 hx hR hG hc hn (by omega) (fun h => absurd h (by omega)) (fun _ I1 p1 => l_X1_passYears hx hc hn m (i + 1) (yearN σ) I1 p1.1 (GD_year hG) (FrB_t F p1.2) (by omega) K)
theorem c_X1_passYears {I X d} {c n : Nat} {x : Int32} {σ : Cn} (hx : x = nI n) (hR : RepC I c σ) (hG : GD σ) (hc : c < 3) (hn : n ≤ 1000) : Sw mX1_passYears [.inr (.inr (some (1, c))), .inl x] (d + 2) I X none (fun I' => RepC I' c (yrs n σ) ∧ FrB c I I') := fun g gs Q K => w_X1_passYears (l_X1_passYears hx hc hn n 0 σ I hR hG FrB_r (Nat.zero_add _) K)
theorem l_X8_goesOnMany {I0 : Im} {X g gs d Q} {n : Nat} {x : Int32} (hx : x = nI n) (hn : n ≤ 1000) : ∀ (m i : Nat) (σ : Cn) (I : Im) (y : Option am_V), RepM (I 30 0) σ → GD σ → FrY I0 I → i + m = n →
    (∀ I', RepM (I' 30 0) (yrs m σ) ∧ FrY I0 I' → am_WP (am_psh g none :: gs) (d + 4) (mk I' X) Q) →
    am_WP ((mX8_goesOnMany, 2, [some (.inr (.inr (some (8, 0)))), some (.inl x), some (.inl (nI i)), y], []) :: g :: gs) (d + 3) (mk I X) Q
  | 0, i, σ, I, y, hR, hG, F, hi, K => w_X8_goesOnMany_2 hx hR hG hn (by omega) (fun _ => K _ ⟨hR, F⟩) (fun h => absurd (by omega) h)
  | m + 1, i, σ, I, y, hR, hG, F, hi, K => w_X8_goesOnMany_2 hx hR hG hn (by omega) (fun h => absurd h (by omega)) (fun _ I1 p1 => l_X8_goesOnMany hx hn m (i + 1) (yearN σ) I1 _ p1.1 (GD_year hG) (FrY_t F p1.2) (by omega) K)
theorem c_X8_goesOnMany {I X d} {n : Nat} {x : Int32} {σ : Cn} (hx : x = nI n) (hR : RepM (I 30 0) σ) (hG : GD σ) (hn : n ≤ 1000) : Sw mX8_goesOnMany [.inr (.inr (some (8, 0))), .inl x] (d + 3) I X none (fun I' => RepM (I' 30 0) (yrs n σ) ∧ FrY I I') := fun g gs Q K => w_X8_goesOnMany (l_X8_goesOnMany hx hn n 0 σ I none hR hG FrY_r (Nat.zero_add _) K)
