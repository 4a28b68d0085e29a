/-! sums over a cellar -/
def stA (σ : Cn) : Nat := sumN (fun k => sumN (σ.2.2.2 k).2.1 0 6) 0 σ.1
def hdA (σ : Cn) : Nat := sumN (fun k => sumN (σ.2.2.2 k).2.2 0 6) 0 σ.1
def crA (σ : Cn) : Nat := sumN (fun k => (σ.2.2.2 k).1 4) 0 σ.1
theorem sumN_e {f f' : Nat → Nat} : ∀ {n i : Nat}, (∀ j, i ≤ j → j < i + n → f j = f' j) → sumN f i n = sumN f' i n
  | 0, _, _ => rfl
  | n + 1, i, h => by
    show f i + sumN f (i + 1) n = f' i + sumN f' (i + 1) n
    rw [h i (by omega) (by omega), sumN_e (fun j a b => h j (by omega) (by omega))]
set_option maxRecDepth 100000 in
set_option maxHeartbeats 4000000 in
theorem w_X1_strengthOfAll {I : Nat → Nat → Nat → Int32} {X : am_Z} {g : am_F} {gs : List am_F} {d : Nat} {Q : Option am_V → am_M → Prop} {c : Nat} (k0 : am_WP ((mX1_strengthOfAll, 4, [some (.inr (.inr (some (1, c)))), some (.inl (0)), some (.inl (0)), none], []) :: g :: gs) (d) (mk I X) Q) : am_WP (am_entry mX1_strengthOfAll [.inr (.inr (some (1, c)))] :: g :: gs) (d) (mk I X) Q := by
  refine am_go 4 ?_
  exact k0
set_option maxRecDepth 100000 in
set_option maxHeartbeats 4000000 in
theorem w_X1_strengthOfAll_4 {I : Nat → Nat → Nat → Int32} {X : am_Z} {g : am_F} {gs : List am_F} {d : Nat} {Q : Option am_V → am_M → Prop} {c i a : Nat} {σ : Cn} (hR : RepC I c σ) (hG : GD σ) (hc : c < 3) (hi : i ≤ σ.1) {y : Option am_V} (k0 : (σ.1 ≤ i) → am_WP (am_psh g (some (.inl (nI a))) :: gs) (d + 1) (mk I X) Q) (k1 : (¬ (σ.1 ≤ i)) → am_WP ((mX1_strengthOfAll, 14, [some (.inr (.inr (some (1, c)))), some (.inl (nI a)), some (.inl (nI i)), some (.inl (0))], []) :: g :: gs) (d) (mk I X) Q) : am_WP ((mX1_strengthOfAll, 4, [some (.inr (.inr (some (1, c)))), some (.inl (nI a)), some (.inl (nI i)), y], []) :: g :: gs) (d) (mk I X) Q := by
  have h8 := hG.1
  refine am_go 400 ?_
  have bd : σ.1 ≤ 8 := hG.1
  have tk0 : I 1 c 3 = nI σ.1 := hR.1
  refine am_if (fun h1 => ?_) (fun h1 => ?_)
  · have nh1 := (le_nat (a := σ.1) (b := i) tk0 (rfl : (nI i : Int32) = nI i) (by omega) (by omega)).mp h1
    exact k0 nh1
  · have nh1 := mt (le_nat (a := σ.1) (b := i) tk0 (rfl : (nI i : Int32) = nI i) (by omega) (by omega)).mpr h1
    refine am_cut ?_
    refine am_go 2 ?_
    exact k1 nh1
set_option maxRecDepth 100000 in
set_option maxHeartbeats 4000000 in
theorem w_X1_strengthOfAll_14 {I : Nat → Nat → Nat → Int32} {X : am_Z} {g : am_F} {gs : List am_F} {d : Nat} {Q : Option am_V → am_M → Prop} {c i j a : Nat} {σ : Cn} (hR : RepC I c σ) (hG : GD σ) (hc : c < 3) (hi : i < σ.1) (hj : j ≤ 6) (k0 : (6 ≤ j) → am_WP ((mX1_strengthOfAll, 4, [some (.inr (.inr (some (1, c)))), some (.inl (nI a)), some (.inl ((nI (i + 1)))), some (.inl (nI j))], []) :: g :: gs) (d) (mk I X) Q) (k1 : (¬ (6 ≤ j)) → am_WP ((mX1_strengthOfAll, 14, [some (.inr (.inr (some (1, c)))), some (.inl ((nI (a + ((σ.2.2.2 i).2.1 j))))), some (.inl (nI i)), some (.inl ((nI (j + 1))))], []) :: g :: gs) (d) (mk I X) Q) : am_WP ((mX1_strengthOfAll, 14, [some (.inr (.inr (some (1, c)))), some (.inl (nI a)), some (.inl (nI i)), some (.inl (nI j))], []) :: g :: gs) (d) (mk I X) Q := by
  have h8 := hG.1
  refine am_go 400 ?_
  refine am_if (fun h1 => ?_) (fun h1 => ?_)
  · have nh1 := (le_nat (a := 6) (b := j) (rfl : (6 : Int32) = nI 6) (rfl : (nI j : Int32) = nI j) (by omega) (by omega)).mp h1
    have tk0 : (nI i + 1) = nI (i + 1) := (nI_addE rfl (rfl : (1 : Int32) = nI 1))
    show am_WP ((mX1_strengthOfAll, 4, [some (.inr (.inr (some (1, c)))), some (.inl (nI a)), some (.inl (((nI i + 1)))), some (.inl (nI j))], []) :: g :: gs) (d) (mk I X) Q
    try rw [tk0]
    exact k0 nh1
  · have nh1 := mt (le_nat (a := 6) (b := j) (rfl : (6 : Int32) = nI 6) (rfl : (nI j : Int32) = nI j) (by omega) (by omega)).mpr h1
    refine am_f (ix_in (n := i) (N := 8) (rfl : (nI i : Int32) = nI i) (by omega) (by decide)) ?_
    have tk1 : (nI i).toNatClampNeg = i := ix_cl (n := i) (rfl : (nI i : Int32) = nI i) (by omega)
    refine am_f (ix_in (n := j) (N := 6) (rfl : (nI j : Int32) = nI j) (by omega) (by decide)) ?_
    have tk2 : (nI j).toNatClampNeg = j := ix_cl (n := j) (rfl : (nI j : Int32) = nI j) (by omega)
    have bd : ((σ.2.2.2 i).2.1 j) ≤ 24 := ((hG.2.2.2 i (by omega)).2.2.2.2.2 _ (by omega)).1
    have tk3 : I 16 (((nI i).toNatClampNeg) + 8 * c) (((nI j).toNatClampNeg)) = nI ((σ.2.2.2 i).2.1 j) := by first | exact (hR.2.2.2.2.2 i (by omega) _ (by omega)).2.1 | (((try rw [tk2]); (try rw [tk1])); first | done | exact (hR.2.2.2.2.2 i (by omega) _ (by omega)).2.1)
    have tk4 : (nI a + (I 16 (((nI i).toNatClampNeg) + 8 * c) (((nI j).toNatClampNeg)))) = nI (a + ((σ.2.2.2 i).2.1 j)) := by first | exact (nI_addE rfl tk3) | (((try rw [tk3]); (try rw [tk2]); (try rw [tk1])); first | done | exact (nI_addE rfl tk3))
    have tk5 : (nI j + 1) = nI (j + 1) := (nI_addE rfl (rfl : (1 : Int32) = nI 1))
    show am_WP ((mX1_strengthOfAll, 14, [some (.inr (.inr (some (1, c)))), some (.inl (((nI a + (I 16 (((nI i).toNatClampNeg) + 8 * c) (((nI j).toNatClampNeg))))))), some (.inl (nI i)), some (.inl (((nI j + 1))))], []) :: g :: gs) (d) (mk I X) Q
    try rw [tk4]
    try rw [tk3]
    try rw [tk2]
    try rw [tk1]
    try rw [tk5]
    exact k1 nh1
theorem l_X1_strengthOfAll_14 {I X g gs d Q} {c i : Nat} {σ : Cn} (hR : RepC I c σ) (hG : GD σ) (hc : c < 3) (hi : i < σ.1) : ∀ (m j a : Nat), j + m = 6 →
    am_WP ((mX1_strengthOfAll, 4, [some (.inr (.inr (some (1, c)))), some (.inl (nI (a + sumN (σ.2.2.2 i).2.1 j m))), some (.inl (nI (i + 1))), some (.inl (nI 6))], []) :: g :: gs) d (mk I X) Q →
    am_WP ((mX1_strengthOfAll, 14, [some (.inr (.inr (some (1, c)))), some (.inl (nI a)), some (.inl (nI i)), some (.inl (nI j))], []) :: g :: gs) d (mk I X) Q
  | 0, j, a, hj, K => w_X1_strengthOfAll_14 hR hG hc hi (by omega) (fun _ => by rw [show j = 6 by omega]; exact K) (fun h => absurd (by omega) h)
  | m + 1, j, a, hj, K => w_X1_strengthOfAll_14 hR hG hc hi (by omega) (fun h => absurd h (by omega)) (fun _ => l_X1_strengthOfAll_14 hR hG hc hi m (j + 1) _ (by omega) (by
      rw [show a + (σ.2.2.2 i).2.1 j + sumN (σ.2.2.2 i).2.1 (j + 1) m = a + sumN (σ.2.2.2 i).2.1 j (m + 1) by show _ = a + ((σ.2.2.2 i).2.1 j + sumN (σ.2.2.2 i).2.1 (j + 1) m); omega]
      exact K))
theorem l_X1_strengthOfAll {I X g gs d Q} {c : Nat} {σ : Cn} (hR : RepC I c σ) (hG : GD σ) (hc : c < 3) : ∀ (m i a : Nat) (y : Option am_V), i + m = σ.1 →
    am_WP (am_psh g (some (.inl (nI (a + sumN (fun k => sumN (σ.2.2.2 k).2.1 0 6) i m)))) :: gs) (d + 1) (mk I X) Q →
    am_WP ((mX1_strengthOfAll, 4, [some (.inr (.inr (some (1, c)))), some (.inl (nI a)), some (.inl (nI i)), y], []) :: g :: gs) d (mk I X) Q
  | 0, i, a, y, hi, K => w_X1_strengthOfAll_4 hR hG hc (by omega) (fun _ => K) (fun h => absurd (by omega) h)
  | m + 1, i, a, y, hi, K => w_X1_strengthOfAll_4 hR hG hc (by omega) (fun h => absurd h (by omega)) (fun _ => l_X1_strengthOfAll_14 hR hG hc (by omega) 6 0 a rfl (l_X1_strengthOfAll hR hG hc m (i + 1) _ _ (by omega) (by
      rw [show a + sumN (σ.2.2.2 i).2.1 0 6 + sumN (fun k => sumN (σ.2.2.2 k).2.1 0 6) (i + 1) m = a + sumN (fun k => sumN (σ.2.2.2 k).2.1 0 6) i (m + 1) by show _ = a + (sumN (σ.2.2.2 i).2.1 0 6 + sumN (fun k => sumN (σ.2.2.2 k).2.1 0 6) (i + 1) m); omega]
      exact K)))
theorem c_X1_strengthOfAll {I X d} {c : Nat} {σ : Cn} (hR : RepC I c σ) (hG : GD σ) (hc : c < 3) : Rt mX1_strengthOfAll [.inr (.inr (some (1, c)))] d (mk I X) (some (.inl (nI (stA σ)))) (mk I X) := fun g gs Q K => w_X1_strengthOfAll (l_X1_strengthOfAll hR hG hc σ.1 0 0 none (Nat.zero_add _) (by rw [Nat.zero_add]; exact K))
set_option maxRecDepth 100000 in
set_option maxHeartbeats 4000000 in
theorem w_X1_holdOfAll {I : Nat → Nat → Nat → Int32} {X : am_Z} {g : am_F} {gs : List am_F} {d : Nat} {Q : Option am_V → am_M → Prop} {c : Nat} (k0 : am_WP ((mX1_holdOfAll, 4, [some (.inr (.inr (some (1, c)))), some (.inl (0)), some (.inl (0)), none], []) :: g :: gs) (d) (mk I X) Q) : am_WP (am_entry mX1_holdOfAll [.inr (.inr (some (1, c)))] :: g :: gs) (d) (mk I X) Q := by
  refine am_go 4 ?_
  exact k0
set_option maxRecDepth 100000 in
set_option maxHeartbeats 4000000 in
theorem w_X1_holdOfAll_4 {I : Nat → Nat → Nat → Int32} {X : am_Z} {g : am_F} {gs : List am_F} {d : Nat} {Q : Option am_V → am_M → Prop} {c i a : Nat} {σ : Cn} (hR : RepC I c σ) (hG : GD σ) (hc : c < 3) (hi : i ≤ σ.1) {y : Option am_V} (k0 : (σ.1 ≤ i) → am_WP (am_psh g (some (.inl (nI a))) :: gs) (d + 1) (mk I X) Q) (k1 : (¬ (σ.1 ≤ i)) → am_WP ((mX1_holdOfAll, 14, [some (.inr (.inr (some (1, c)))), some (.inl (nI a)), some (.inl (nI i)), some (.inl (0))], []) :: g :: gs) (d) (mk I X) Q) : am_WP ((mX1_holdOfAll, 4, [some (.inr (.inr (some (1, c)))), some (.inl (nI a)), some (.inl (nI i)), y], []) :: g :: gs) (d) (mk I X) Q := by
  have h8 := hG.1
  refine am_go 400 ?_
  have bd : σ.1 ≤ 8 := hG.1
  have tk0 : I 1 c 3 = nI σ.1 := hR.1
  refine am_if (fun h1 => ?_) (fun h1 => ?_)
  · have nh1 := (le_nat (a := σ.1) (b := i) tk0 (rfl : (nI i : Int32) = nI i) (by omega) (by omega)).mp h1
    exact k0 nh1
  · have nh1 := mt (le_nat (a := σ.1) (b := i) tk0 (rfl : (nI i : Int32) = nI i) (by omega) (by omega)).mpr h1
    refine am_cut ?_
    refine am_go 2 ?_
    exact k1 nh1
set_option maxRecDepth 100000 in
set_option maxHeartbeats 4000000 in
theorem w_X1_holdOfAll_14 {I : Nat → Nat → Nat → Int32} {X : am_Z} {g : am_F} {gs : List am_F} {d : Nat} {Q : Option am_V → am_M → Prop} {c i j a : Nat} {σ : Cn} (hR : RepC I c σ) (hG : GD σ) (hc : c < 3) (hi : i < σ.1) (hj : j ≤ 6) (k0 : (6 ≤ j) → am_WP ((mX1_holdOfAll, 4, [some (.inr (.inr (some (1, c)))), some (.inl (nI a)), some (.inl ((nI (i + 1)))), some (.inl (nI j))], []) :: g :: gs) (d) (mk I X) Q) (k1 : (¬ (6 ≤ j)) → am_WP ((mX1_holdOfAll, 14, [some (.inr (.inr (some (1, c)))), some (.inl ((nI (a + ((σ.2.2.2 i).2.2 j))))), some (.inl (nI i)), some (.inl ((nI (j + 1))))], []) :: g :: gs) (d) (mk I X) Q) : am_WP ((mX1_holdOfAll, 14, [some (.inr (.inr (some (1, c)))), some (.inl (nI a)), some (.inl (nI i)), some (.inl (nI j))], []) :: g :: gs) (d) (mk I X) Q := by
  have h8 := hG.1
  refine am_go 400 ?_
  refine am_if (fun h1 => ?_) (fun h1 => ?_)
  · have nh1 := (le_nat (a := 6) (b := j) (rfl : (6 : Int32) = nI 6) (rfl : (nI j : Int32) = nI j) (by omega) (by omega)).mp h1
    have tk0 : (nI i + 1) = nI (i + 1) := (nI_addE rfl (rfl : (1 : Int32) = nI 1))
    show am_WP ((mX1_holdOfAll, 4, [some (.inr (.inr (some (1, c)))), some (.inl (nI a)), some (.inl (((nI i + 1)))), some (.inl (nI j))], []) :: g :: gs) (d) (mk I X) Q
    try rw [tk0]
    exact k0 nh1
  · have nh1 := mt (le_nat (a := 6) (b := j) (rfl : (6 : Int32) = nI 6) (rfl : (nI j : Int32) = nI j) (by omega) (by omega)).mpr h1
    refine am_f (ix_in (n := i) (N := 8) (rfl : (nI i : Int32) = nI i) (by omega) (by decide)) ?_
    have tk1 : (nI i).toNatClampNeg = i := ix_cl (n := i) (rfl : (nI i : Int32) = nI i) (by omega)
    refine am_f (ix_in (n := j) (N := 6) (rfl : (nI j : Int32) = nI j) (by omega) (by decide)) ?_
    have tk2 : (nI j).toNatClampNeg = j := ix_cl (n := j) (rfl : (nI j : Int32) = nI j) (by omega)
    have bd : ((σ.2.2.2 i).2.2 j) ≤ 24 := ((hG.2.2.2 i (by omega)).2.2.2.2.2 _ (by omega)).2
    have tk3 : I 17 (((nI i).toNatClampNeg) + 8 * c) (((nI j).toNatClampNeg)) = nI ((σ.2.2.2 i).2.2 j) := by first | exact (hR.2.2.2.2.2 i (by omega) _ (by omega)).2.2 | (((try rw [tk2]); (try rw [tk1])); first | done | exact (hR.2.2.2.2.2 i (by omega) _ (by omega)).2.2)
    have tk4 : (nI a + (I 17 (((nI i).toNatClampNeg) + 8 * c) (((nI j).toNatClampNeg)))) = nI (a + ((σ.2.2.2 i).2.2 j)) := by first | exact (nI_addE rfl tk3) | (((try rw [tk3]); (try rw [tk2]); (try rw [tk1])); first | done | exact (nI_addE rfl tk3))
    have tk5 : (nI j + 1) = nI (j + 1) := (nI_addE rfl (rfl : (1 : Int32) = nI 1))
    show am_WP ((mX1_holdOfAll, 14, [some (.inr (.inr (some (1, c)))), some (.inl (((nI a + (I 17 (((nI i).toNatClampNeg) + 8 * c) (((nI j).toNatClampNeg))))))), some (.inl (nI i)), some (.inl (((nI j + 1))))], []) :: g :: gs) (d) (mk I X) Q
    try rw [tk4]
    try rw [tk3]
    try rw [tk2]
    try rw [tk1]
    try rw [tk5]
    exact k1 nh1
theorem l_X1_holdOfAll_14 {I X g gs d Q} {c i : Nat} {σ : Cn} (hR : RepC I c σ) (hG : GD σ) (hc : c < 3) (hi : i < σ.1) : ∀ (m j a : Nat), j + m = 6 →
    am_WP ((mX1_holdOfAll, 4, [some (.inr (.inr (some (1, c)))), some (.inl (nI (a + sumN (σ.2.2.2 i).2.2 j m))), some (.inl (nI (i + 1))), some (.inl (nI 6))], []) :: g :: gs) d (mk I X) Q →
    am_WP ((mX1_holdOfAll, 14, [some (.inr (.inr (some (1, c)))), some (.inl (nI a)), some (.inl (nI i)), some (.inl (nI j))], []) :: g :: gs) d (mk I X) Q
  | 0, j, a, hj, K => w_X1_holdOfAll_14 hR hG hc hi (by omega) (fun _ => by rw [show j = 6 by omega]; exact K) (fun h => absurd (by omega) h)
  | m + 1, j, a, hj, K => w_X1_holdOfAll_14 hR hG hc hi (by omega) (fun h => absurd h (by omega)) (fun _ => l_X1_holdOfAll_14 hR hG hc hi m (j + 1) _ (by omega) (by
      rw [show a + (σ.2.2.2 i).2.2 j + sumN (σ.2.2.2 i).2.2 (j + 1) m = a + sumN (σ.2.2.2 i).2.2 j (m + 1) by show _ = a + ((σ.2.2.2 i).2.2 j + sumN (σ.2.2.2 i).2.2 (j + 1) m); omega]
      exact K))
theorem l_X1_holdOfAll {I X g gs d Q} {c : Nat} {σ : Cn} (hR : RepC I c σ) (hG : GD σ) (hc : c < 3) : ∀ (m i a : Nat) (y : Option am_V), i + m = σ.1 →
    am_WP (am_psh g (some (.inl (nI (a + sumN (fun k => sumN (σ.2.2.2 k).2.2 0 6) i m)))) :: gs) (d + 1) (mk I X) Q →
    am_WP ((mX1_holdOfAll, 4, [some (.inr (.inr (some (1, c)))), some (.inl (nI a)), some (.inl (nI i)), y], []) :: g :: gs) d (mk I X) Q
  | 0, i, a, y, hi, K => w_X1_holdOfAll_4 hR hG hc (by omega) (fun _ => K) (fun h => absurd (by omega) h)
  | m + 1, i, a, y, hi, K => w_X1_holdOfAll_4 hR hG hc (by omega) (fun h => absurd h (by omega)) (fun _ => l_X1_holdOfAll_14 hR hG hc (by omega) 6 0 a rfl (l_X1_holdOfAll hR hG hc m (i + 1) _ _ (by omega) (by
      rw [show a + sumN (σ.2.2.2 i).2.2 0 6 + sumN (fun k => sumN (σ.2.2.2 k).2.2 0 6) (i + 1) m = a + sumN (fun k => sumN (σ.2.2.2 k).2.2 0 6) i (m + 1) by show _ = a + (sumN (σ.2.2.2 i).2.2 0 6 + sumN (fun k => sumN (σ.2.2.2 k).2.2 0 6) (i + 1) m); omega]
      exact K)))
theorem c_X1_holdOfAll {I X d} {c : Nat} {σ : Cn} (hR : RepC I c σ) (hG : GD σ) (hc : c < 3) : Rt mX1_holdOfAll [.inr (.inr (some (1, c)))] d (mk I X) (some (.inl (nI (hdA σ)))) (mk I X) := fun g gs Q K => w_X1_holdOfAll (l_X1_holdOfAll hR hG hc σ.1 0 0 none (Nat.zero_add _) (by rw [Nat.zero_add]; exact K))
set_option maxRecDepth 100000 in
set_option maxHeartbeats 4000000 in
theorem w_X1_crumbsOfAll {I : Nat → Nat → Nat → Int32} {X : am_Z} {g : am_F} {gs : List am_F} {d : Nat} {Q : Option am_V → am_M → Prop} {c : Nat} (k0 : am_WP ((mX1_crumbsOfAll, 4, [some (.inr (.inr (some (1, c)))), some (.inl (0)), some (.inl (0))], []) :: g :: gs) (d) (mk I X) Q) : am_WP (am_entry mX1_crumbsOfAll [.inr (.inr (some (1, c)))] :: g :: gs) (d) (mk I X) Q := by
  refine am_go 4 ?_
  exact k0
set_option maxRecDepth 100000 in
set_option maxHeartbeats 4000000 in
theorem w_X1_crumbsOfAll_4 {I : Nat → Nat → Nat → Int32} {X : am_Z} {g : am_F} {gs : List am_F} {d : Nat} {Q : Option am_V → am_M → Prop} {c i a : Nat} {σ : Cn} (hR : RepC I c σ) (hG : GD σ) (hc : c < 3) (hi : i ≤ σ.1) (k0 : (σ.1 ≤ i) → am_WP (am_psh g (some (.inl (nI a))) :: gs) (d + 1) (mk I X) Q) (k1 : (¬ (σ.1 ≤ i)) → am_WP ((mX1_crumbsOfAll, 4, [some (.inr (.inr (some (1, c)))), some (.inl ((nI (a + ((σ.2.2.2 i).1 4))))), some (.inl ((nI (i + 1))))], []) :: g :: gs) (d) (mk I X) Q) : am_WP ((mX1_crumbsOfAll, 4, [some (.inr (.inr (some (1, c)))), some (.inl (nI a)), some (.inl (nI i))], []) :: g :: gs) (d) (mk I X) Q := by
  have h8 := hG.1
  refine am_go 400 ?_
  have bd : σ.1 ≤ 8 := hG.1
  have tk0 : I 1 c 3 = nI σ.1 := hR.1
  refine am_if (fun h1 => ?_) (fun h1 => ?_)
  · have nh1 := (le_nat (a := σ.1) (b := i) tk0 (rfl : (nI i : Int32) = nI i) (by omega) (by omega)).mp h1
    exact k0 nh1
  · have nh1 := mt (le_nat (a := σ.1) (b := i) tk0 (rfl : (nI i : Int32) = nI i) (by omega) (by omega)).mpr h1
    refine am_f (ix_in (n := i) (N := 8) (rfl : (nI i : Int32) = nI i) (by omega) (by decide)) ?_
    have tk1 : (nI i).toNatClampNeg = i := ix_cl (n := i) (rfl : (nI i : Int32) = nI i) (by omega)
    have tk2 : I 0 (((nI i).toNatClampNeg) + 8 * c) 6 = nI ((σ.2.2.2 i).1 4) := by first | exact (hR.2.2.2.2.2 i (by omega) 4 (by omega)).1 | (((try rw [tk1])); first | done | exact (hR.2.2.2.2.2 i (by omega) 4 (by omega)).1)
    have tk3 : (nI a + (I 0 (((nI i).toNatClampNeg) + 8 * c) 6)) = nI (a + ((σ.2.2.2 i).1 4)) := by first | exact (nI_addE rfl tk2) | (((try rw [tk2]); (try rw [tk1])); first | done | exact (nI_addE rfl tk2))
    have tk4 : (nI i + 1) = nI (i + 1) := (nI_addE rfl (rfl : (1 : Int32) = nI 1))
    show am_WP ((mX1_crumbsOfAll, 4, [some (.inr (.inr (some (1, c)))), some (.inl (((nI a + (I 0 (((nI i).toNatClampNeg) + 8 * c) 6))))), some (.inl (((nI i + 1))))], []) :: g :: gs) (d) (mk I X) Q
    try rw [tk3]
    try rw [tk2]
    try rw [tk1]
    try rw [tk4]
    exact k1 nh1
theorem l_X1_crumbsOfAll {I X g gs d Q} {c : Nat} {σ : Cn} (hR : RepC I c σ) (hG : GD σ) (hc : c < 3) : ∀ (m i a : Nat), i + m = σ.1 →
    am_WP (am_psh g (some (.inl (nI (a + sumN (fun k => (σ.2.2.2 k).1 4) i m)))) :: gs) (d + 1) (mk I X) Q →
    am_WP ((mX1_crumbsOfAll, 4, [some (.inr (.inr (some (1, c)))), some (.inl (nI a)), some (.inl (nI i))], []) :: g :: gs) d (mk I X) Q
  | 0, i, a, hi, K => w_X1_crumbsOfAll_4 hR hG hc (by omega) (fun _ => K) (fun h => absurd (by omega) h)
  | m + 1, i, a, hi, K => w_X1_crumbsOfAll_4 hR hG hc (by omega) (fun h => absurd h (by omega)) (fun _ => l_X1_crumbsOfAll hR hG hc m (i + 1) _ (by omega) (by
      rw [show a + (σ.2.2.2 i).1 4 + sumN (fun k => (σ.2.2.2 k).1 4) (i + 1) m = a + sumN (fun k => (σ.2.2.2 k).1 4) i (m + 1) by show _ = a + ((σ.2.2.2 i).1 4 + sumN (fun k => (σ.2.2.2 k).1 4) (i + 1) m); omega]
      exact K))
theorem c_X1_crumbsOfAll {I X d} {c : Nat} {σ : Cn} (hR : RepC I c σ) (hG : GD σ) (hc : c < 3) : Rt mX1_crumbsOfAll [.inr (.inr (some (1, c)))] d (mk I X) (some (.inl (nI (crA σ)))) (mk I X) := fun g gs Q K => w_X1_crumbsOfAll (l_X1_crumbsOfAll hR hG hc σ.1 0 0 (Nat.zero_add _) (by rw [Nat.zero_add]; exact K))
set_option maxRecDepth 100000 in
set_option maxHeartbeats 4000000 in
theorem w_X8_allOf {I : Nat → Nat → Nat → Int32} {X : am_Z} {g : am_F} {gs : List am_F} {d : Nat} {Q : Option am_V → am_M → Prop} {x y : Int32} (k0 : am_WP ((mX8_allOf, 5, [some (.inr (.inr (some (8, 0)))), some (.inl (x)), some (.inl (y)), some (.inl (0)), some (.inl (0)), none], []) :: g :: gs) (d + 1) (mk I X) Q) : am_WP (am_entry mX8_allOf [.inr (.inr (some (8, 0))), .inl (x), .inl (y)] :: g :: gs) (d + 1) (mk I X) Q := by
  refine am_go 4 ?_
  exact k0
set_option maxRecDepth 100000 in
set_option maxHeartbeats 4000000 in
theorem w_X8_allOf_5 {I : Nat → Nat → Nat → Int32} {X : am_Z} {g : am_F} {gs : List am_F} {d : Nat} {Q : Option am_V → am_M → Prop} {w q n i : Nat} {a x y : Int32} (hx : x = nI w) (hy : y = nI q) (hN : I 30 0 0 = nI n) (hn : n ≤ 8) (hw : w + q ≤ 18) (hi : i ≤ n) {z : Option am_V} (k0 : (n ≤ i) → am_WP (am_psh g (some (.inl (a))) :: gs) (d + 2) (mk I X) Q) (k1 : (¬ (n ≤ i)) → am_WP ((mX8_allOf, 19, [some (.inr (.inr (some (8, 0)))), some (.inl (x)), some (.inl (y)), some (.inl (a)), some (.inl (nI i)), some (.inl (0))], []) :: g :: gs) (d + 1) (mk I X) Q) : am_WP ((mX8_allOf, 5, [some (.inr (.inr (some (8, 0)))), some (.inl (x)), some (.inl (y)), some (.inl (a)), some (.inl (nI i)), z], []) :: g :: gs) (d + 1) (mk I X) Q := by
  refine am_go 400 ?_
  have tk0 : I 30 0 0 = nI n := hN
  refine am_if (fun h1 => ?_) (fun h1 => ?_)
  · have nh1 := (le_nat (a := n) (b := i) tk0 (rfl : (nI i : Int32) = nI i) (by omega) (by omega)).mp h1
    exact k0 nh1
  · have nh1 := mt (le_nat (a := n) (b := i) tk0 (rfl : (nI i : Int32) = nI i) (by omega) (by omega)).mpr h1
    refine am_cut ?_
    refine am_go 2 ?_
    exact k1 nh1
set_option maxRecDepth 100000 in
set_option maxHeartbeats 4000000 in
theorem w_X8_allOf_19 {I : Nat → Nat → Nat → Int32} {X : am_Z} {g : am_F} {gs : List am_F} {d : Nat} {Q : Option am_V → am_M → Prop} {w q n i : Nat} {a x y : Int32} (hx : x = nI w) (hy : y = nI q) (hN : I 30 0 0 = nI n) (hn : n ≤ 8) (hw : w + q ≤ 18) (hi : i < n) {j : Nat} (hj : j ≤ q) (k0 : (q ≤ j) → am_WP ((mX8_allOf, 5, [some (.inr (.inr (some (8, 0)))), some (.inl (x)), some (.inl (y)), some (.inl (a)), some (.inl ((nI (i + 1)))), some (.inl (nI j))], []) :: g :: gs) (d + 1) (mk I X) Q) (k1 : (¬ (q ≤ j)) → am_WP ((mX8_allOf, 19, [some (.inr (.inr (some (8, 0)))), some (.inl (x)), some (.inl (y)), some (.inl ((a + (I 30 0 (6 + 18 * i + (w + j)))))), some (.inl (nI i)), some (.inl ((nI (j + 1))))], []) :: g :: gs) (d + 1) (mk I X) Q) : am_WP ((mX8_allOf, 19, [some (.inr (.inr (some (8, 0)))), some (.inl (x)), some (.inl (y)), some (.inl (a)), some (.inl (nI i)), some (.inl (nI j))], []) :: g :: gs) (d + 1) (mk I X) Q := by
  refine am_go 400 ?_
  refine am_if (fun h1 => ?_) (fun h1 => ?_)
  · have nh1 := (le_nat (a := q) (b := j) hy (rfl : (nI j : Int32) = nI j) (by omega) (by omega)).mp h1
    have tk0 : (nI i + 1) = nI (i + 1) := (nI_addE rfl (rfl : (1 : Int32) = nI 1))
    show am_WP ((mX8_allOf, 5, [some (.inr (.inr (some (8, 0)))), some (.inl (x)), some (.inl (y)), some (.inl (a)), some (.inl (((nI i + 1)))), some (.inl (nI j))], []) :: g :: gs) (d + 1) (mk I X) Q
    try rw [tk0]
    exact k0 nh1
  · have nh1 := mt (le_nat (a := q) (b := j) hy (rfl : (nI j : Int32) = nI j) (by omega) (by omega)).mpr h1
    refine (c8_of (k := i) (j := (w + j)) rfl (nI_addE hx rfl) (by omega)) _ _ _ ?_
    refine am_go 400 ?_
    have tk1 : (nI j + 1) = nI (j + 1) := (nI_addE rfl (rfl : (1 : Int32) = nI 1))
    show am_WP ((mX8_allOf, 19, [some (.inr (.inr (some (8, 0)))), some (.inl (x)), some (.inl (y)), some (.inl ((a + (I 30 0 (6 + 18 * i + (w + j)))))), some (.inl (nI i)), some (.inl (((nI j + 1))))], []) :: g :: gs) (d + 1) (mk I X) Q
    try rw [tk1]
    exact k1 nh1
def aoS (S : Nat → Int32) (w q n : Nat) : Int32 := sumG (fun k => sumG (fun i => S (6 + 18 * k + (w + i))) 0 q) 0 n
theorem l_X8_allOf_19 {I X g gs d Q} {w q n i : Nat} {x y : Int32} (hx : x = nI w) (hy : y = nI q) (hN : I 30 0 0 = nI n) (hn : n ≤ 8) (hw : w + q ≤ 18) (hi : i < n) : ∀ (m j : Nat) (a : Int32), j + m = q →
    am_WP ((mX8_allOf, 5, [some (.inr (.inr (some (8, 0)))), some (.inl x), some (.inl y), some (.inl (a + sumG (fun i' => I 30 0 (6 + 18 * i + (w + i'))) j m)), some (.inl (nI (i + 1))), some (.inl (nI q))], []) :: g :: gs) (d + 1) (mk I X) Q →
    am_WP ((mX8_allOf, 19, [some (.inr (.inr (some (8, 0)))), some (.inl x), some (.inl y), some (.inl a), some (.inl (nI i)), some (.inl (nI j))], []) :: g :: gs) (d + 1) (mk I X) Q
  | 0, j, a, hj, K => w_X8_allOf_19 hx hy hN hn hw hi (by omega) (fun _ => by
      rw [show a + sumG (fun i' => I 30 0 (6 + 18 * i + (w + i'))) j 0 = a by show a + 0 = a; simp] at K
      rw [show j = q by omega]; exact K) (fun h => absurd (by omega) h)
  | m + 1, j, a, hj, K => w_X8_allOf_19 hx hy hN hn hw hi (by omega) (fun h => absurd h (by omega)) (fun _ => l_X8_allOf_19 hx hy hN hn hw hi m (j + 1) _ (by omega) (by
      rw [Int32.add_assoc]; exact K))
theorem l_X8_allOf {I X g gs d Q} {w q n : Nat} {x y : Int32} (hx : x = nI w) (hy : y = nI q) (hN : I 30 0 0 = nI n) (hn : n ≤ 8) (hw : w + q ≤ 18) : ∀ (m i : Nat) (a : Int32) (z : Option am_V), i + m = n →
    am_WP (am_psh g (some (.inl (a + sumG (fun k => sumG (fun i' => I 30 0 (6 + 18 * k + (w + i'))) 0 q) i m))) :: gs) (d + 2) (mk I X) Q →
    am_WP ((mX8_allOf, 5, [some (.inr (.inr (some (8, 0)))), some (.inl x), some (.inl y), some (.inl a), some (.inl (nI i)), z], []) :: g :: gs) (d + 1) (mk I X) Q
  | 0, i, a, z, hi, K => w_X8_allOf_5 hx hy hN hn hw (by omega) (fun _ => K_v (by show a + 0 = a; simp) K) (fun h => absurd (by omega) h)
  | m + 1, i, a, z, hi, K => w_X8_allOf_5 hx hy hN hn hw (by omega) (fun h => absurd h (by omega)) (fun _ => l_X8_allOf_19 hx hy hN hn hw (by omega) q 0 a (Nat.zero_add _) (l_X8_allOf hx hy hN hn hw m (i + 1) _ _ (by omega) (K_v (by rw [Int32.add_assoc]; rfl) K)))
theorem c_X8_allOf {I X d} {w q n : Nat} {x y : Int32} (hx : x = nI w) (hy : y = nI q) (hN : I 30 0 0 = nI n) (hn : n ≤ 8) (hw : w + q ≤ 18) : Rt mX8_allOf [.inr (.inr (some (8, 0))), .inl x, .inl y] (d + 1) (mk I X) (some (.inl (aoS (I 30 0) w q n))) (mk I X) := fun g gs Q K => w_X8_allOf (l_X8_allOf hx hy hN hn hw n 0 0 none (Nat.zero_add _) (K_v (by show _ = 0 + aoS _ _ _ _; simp) K))
theorem ao_0 {S : Nat → Int32} {σ : Cn} {j : Nat} (hR : RepM S σ) (hj : j < 6) : aoS S j 1 σ.1 = nI (sumN (fun k => (σ.2.2.2 k).1 j) 0 σ.1) := sumG_N (fun k _ hk => by
  show S (6 + 18 * k + (j + 0)) + 0 = _
  have e : S (6 + 18 * k + j) = nI ((σ.2.2.2 k).1 j) := (hR.2.2.2.2.2 k (by omega) j hj).1
  rw [Nat.add_zero, e]; simp)
theorem ao_1 {S : Nat → Int32} {σ : Cn} (hR : RepM S σ) : aoS S 6 6 σ.1 = nI (stA σ) := sumG_N (fun k _ hk => sumG_N (fun i _ hi => (hR.2.2.2.2.2 k (by omega) i (by omega)).2.1))
theorem ao_2 {S : Nat → Int32} {σ : Cn} (hR : RepM S σ) : aoS S 12 6 σ.1 = nI (hdA σ) := sumG_N (fun k _ hk => sumG_N (fun i _ hi => (hR.2.2.2.2.2 k (by omega) i (by omega)).2.2))
def clF (w : Int32) (β : Bn) (k : Nat) (a : Int32) : Int32 := if w = 0 then a + nI (β.1 3) else if w = 1 then a + nI (β.1 4) else if w = 2 then a ||| (if β.1 3 = 0 then 1 <<< (nI k &&& 31) else 0) else a + nI (β.1 1)
def clL (w : Int32) (bs : Nat → Bn) : Nat → Nat → Int32 → Int32
  | 0, _, a => a
  | m + 1, i, a => clL w bs m (i + 1) (clF w (bs i) i a)
def f_cellar (s : St) (w : Int32) : Int32 × St := if 0 ≤ w ∧ w ≤ 3 then (clL w s.1.1.2.2.2 (nb s) 0 0, s) else (cBAD, s)
theorem n03 {w : Int32} (h : 0 ≤ w ∧ w ≤ 3) : w = 0 ∨ w = 1 ∨ w = 2 ∨ w = 3 := by
  obtain ⟨e, l⟩ := okl (m := 3) (by decide) h
  rw [e]
  generalize kx w = k at l
  match k, l with
  | 0, _ => exact Or.inl rfl
  | 1, _ => exact Or.inr (Or.inl rfl)
  | 2, _ => exact Or.inr (Or.inr (Or.inl rfl))
  | 3, _ => exact Or.inr (Or.inr (Or.inr rfl))
theorem clL_s {w : Int32} {bs : Nat → Bn} {f : Nat → Nat} (h : ∀ k a, clF w (bs k) k a = a + nI (f k)) : ∀ (m i : Nat) (a : Int32), clL w bs m i a = a + nI (sumN f i m)
  | 0, _, a => by show a = a + 0; simp
  | m + 1, i, a => by
    rw [clL, h, clL_s h m (i + 1), Int32.add_assoc, nI_add]
    rfl
set_option maxRecDepth 100000 in
set_option maxHeartbeats 4000000 in
theorem w_X7_cellar_16 {I : Nat → Nat → Nat → Int32} {X : am_Z} {g : am_F} {gs : List am_F} {d : Nat} {Q : Option am_V → am_M → Prop} {i : Nat} {w a : Int32} {σ : Cn} (hR : RepC I 0 σ) (hG : GD σ) (hi : i ≤ σ.1) {y : Option am_V} (k0 : (σ.1 ≤ i) → am_WP (am_psh g (some (.inl (a))) :: gs) (d + 2) (mk I X) Q) (k1 : (¬ (σ.1 ≤ i)) → (w = 0) → am_WP ((mX7_cellar, 16, [some (.inr (.inr (some (7, 0)))), some (.inl (w)), some (.inl ((a + (nI ((σ.2.2.2 i).1 3))))), some (.inl ((nI (i + 1)))), some (.inr (.inr (some (0, i))))], []) :: g :: gs) (d + 1) (mk I X) Q) (k2 : (¬ (σ.1 ≤ i)) → (¬ w = 0) → (w = 1) → am_WP ((mX7_cellar, 16, [some (.inr (.inr (some (7, 0)))), some (.inl (w)), some (.inl ((a + (nI ((σ.2.2.2 i).1 4))))), some (.inl ((nI (i + 1)))), some (.inr (.inr (some (0, i))))], []) :: g :: gs) (d + 1) (mk I X) Q) (k3 : (¬ (σ.1 ≤ i)) → (¬ w = 0) → (¬ w = 1) → (w = 2) → (((σ.2.2.2 i).1 3) = 0) → am_WP ((mX7_cellar, 16, [some (.inr (.inr (some (7, 0)))), some (.inl (w)), some (.inl ((a ||| (1 <<< (nI i &&& 31))))), some (.inl ((nI (i + 1)))), some (.inr (.inr (some (0, i))))], []) :: g :: gs) (d + 1) (mk I X) Q) (k4 : (¬ (σ.1 ≤ i)) → (¬ w = 0) → (¬ w = 1) → (w = 2) → (¬ (((σ.2.2.2 i).1 3) = 0)) → am_WP ((mX7_cellar, 16, [some (.inr (.inr (some (7, 0)))), some (.inl (w)), some (.inl ((a ||| 0))), some (.inl ((nI (i + 1)))), some (.inr (.inr (some (0, i))))], []) :: g :: gs) (d + 1) (mk I X) Q) (k5 : (¬ (σ.1 ≤ i)) → (¬ w = 0) → (¬ w = 1) → (¬ w = 2) → am_WP ((mX7_cellar, 16, [some (.inr (.inr (some (7, 0)))), some (.inl (w)), some (.inl ((a + (nI ((σ.2.2.2 i).1 1))))), some (.inl ((nI (i + 1)))), some (.inr (.inr (some (0, i))))], []) :: g :: gs) (d + 1) (mk I X) Q) : am_WP ((mX7_cellar, 16, [some (.inr (.inr (some (7, 0)))), some (.inl (w)), some (.inl (a)), some (.inl (nI i)), y], []) :: g :: gs) (d + 1) (mk I X) Q := by
  have h8 := hG.1
  refine am_go 400 ?_
  have bd : σ.1 ≤ 8 := hG.1
  have tk0 : I 1 0 3 = nI σ.1 := hR.1
  refine am_if (fun h1 => ?_) (fun h1 => ?_)
  · have nh1 := (le_nat (a := σ.1) (b := i) tk0 (rfl : (nI i : Int32) = nI i) (by omega) (by omega)).mp h1
    exact k0 nh1
  · have nh1 := mt (le_nat (a := σ.1) (b := i) tk0 (rfl : (nI i : Int32) = nI i) (by omega) (by omega)).mpr h1
    refine am_f (ix_in (n := i) (N := 8) (rfl : (nI i : Int32) = nI i) (by omega) (by decide)) ?_
    have tk1 : (nI i).toNatClampNeg = i := ix_cl (n := i) (rfl : (nI i : Int32) = nI i) (by omega)
    refine am_if (fun h2 => ?_) (fun h2 => ?_)
    · have bd : ((σ.2.2.2 i).1 3) ≤ 6 := (hG.2.2.2 i (by omega)).2.2.2.1
      have tk2 : I 0 (((nI i).toNatClampNeg)) 5 = nI ((σ.2.2.2 i).1 3) := by first | exact (hR.2.2.2.2.2 i (by omega) 3 (by omega)).1 | (((try rw [tk1])); first | done | exact (hR.2.2.2.2.2 i (by omega) 3 (by omega)).1)
      have tk3 : (nI i + 1) = nI (i + 1) := (nI_addE rfl (rfl : (1 : Int32) = nI 1))
      show am_WP ((mX7_cellar, 16, [some (.inr (.inr (some (7, 0)))), some (.inl (w)), some (.inl ((a + (I 0 (((nI i).toNatClampNeg)) 5)))), some (.inl (((nI i + 1)))), some (.inr (.inr (some (0, ((nI i).toNatClampNeg)))))], []) :: g :: gs) (d + 1) (mk I X) Q
      try rw [tk2]
      try rw [tk1]
      try rw [tk3]
      exact k1 nh1 h2
    · refine am_if (fun h3 => ?_) (fun h3 => ?_)
      · have tk4 : I 0 (((nI i).toNatClampNeg)) 6 = nI ((σ.2.2.2 i).1 4) := by first | exact (hR.2.2.2.2.2 i (by omega) 4 (by omega)).1 | (((try rw [tk1])); first | done | exact (hR.2.2.2.2.2 i (by omega) 4 (by omega)).1)
        have tk5 : (nI i + 1) = nI (i + 1) := (nI_addE rfl (rfl : (1 : Int32) = nI 1))
        show am_WP ((mX7_cellar, 16, [some (.inr (.inr (some (7, 0)))), some (.inl (w)), some (.inl ((a + (I 0 (((nI i).toNatClampNeg)) 6)))), some (.inl (((nI i + 1)))), some (.inr (.inr (some (0, ((nI i).toNatClampNeg)))))], []) :: g :: gs) (d + 1) (mk I X) Q
        try rw [tk4]
        try rw [tk1]
        try rw [tk5]
        exact k2 nh1 h2 h3
      · refine am_if (fun h4 => ?_) (fun h4 => ?_)
        · have bd : ((σ.2.2.2 i).1 3) ≤ 6 := (hG.2.2.2 i (by omega)).2.2.2.1
          have tk6 : I 0 (((nI i).toNatClampNeg)) 5 = nI ((σ.2.2.2 i).1 3) := by first | exact (hR.2.2.2.2.2 i (by omega) 3 (by omega)).1 | (((try rw [tk1])); first | done | exact (hR.2.2.2.2.2 i (by omega) 3 (by omega)).1)
          refine am_if (fun h5 => ?_) (fun h5 => ?_)
          · have nh5 := (eq_nat (a := ((σ.2.2.2 i).1 3)) (b := 0) tk6 (rfl : (0 : Int32) = nI 0) (by omega) (by omega)).mp h5
            have tk7 : (nI i + 1) = nI (i + 1) := (nI_addE rfl (rfl : (1 : Int32) = nI 1))
            show am_WP ((mX7_cellar, 16, [some (.inr (.inr (some (7, 0)))), some (.inl (w)), some (.inl ((a ||| (1 <<< (nI i &&& 31))))), some (.inl (((nI i + 1)))), some (.inr (.inr (some (0, ((nI i).toNatClampNeg)))))], []) :: g :: gs) (d + 1) (mk I X) Q
            try rw [tk1]
            try rw [tk7]
            exact k3 nh1 h2 h3 h4 nh5
          · have nh5 := mt (eq_nat (a := ((σ.2.2.2 i).1 3)) (b := 0) tk6 (rfl : (0 : Int32) = nI 0) (by omega) (by omega)).mpr h5
            have tk8 : (nI i + 1) = nI (i + 1) := (nI_addE rfl (rfl : (1 : Int32) = nI 1))
            show am_WP ((mX7_cellar, 16, [some (.inr (.inr (some (7, 0)))), some (.inl (w)), some (.inl ((a ||| 0))), some (.inl (((nI i + 1)))), some (.inr (.inr (some (0, ((nI i).toNatClampNeg)))))], []) :: g :: gs) (d + 1) (mk I X) Q
            try rw [tk1]
            try rw [tk8]
            exact k4 nh1 h2 h3 h4 nh5
        · have bd : ((σ.2.2.2 i).1 1) ≤ 99 := (hG.2.2.2 i (by omega)).2.1
          have tk9 : I 0 (((nI i).toNatClampNeg)) 3 = nI ((σ.2.2.2 i).1 1) := by first | exact (hR.2.2.2.2.2 i (by omega) 1 (by omega)).1 | (((try rw [tk1])); first | done | exact (hR.2.2.2.2.2 i (by omega) 1 (by omega)).1)
          have tk10 : (nI i + 1) = nI (i + 1) := (nI_addE rfl (rfl : (1 : Int32) = nI 1))
          show am_WP ((mX7_cellar, 16, [some (.inr (.inr (some (7, 0)))), some (.inl (w)), some (.inl ((a + (I 0 (((nI i).toNatClampNeg)) 3)))), some (.inl (((nI i + 1)))), some (.inr (.inr (some (0, ((nI i).toNatClampNeg)))))], []) :: g :: gs) (d + 1) (mk I X) Q
          try rw [tk9]
          try rw [tk1]
          try rw [tk10]
          exact k5 nh1 h2 h3 h4
set_option maxRecDepth 100000 in
set_option maxHeartbeats 4000000 in
theorem w_X8_cellar_48 {I : Nat → Nat → Nat → Int32} {X : am_Z} {g : am_F} {gs : List am_F} {d : Nat} {Q : Option am_V → am_M → Prop} {i : Nat} {w a : Int32} {σ : Cn} (hR : RepM (I 30 0) σ) (hG : GD σ) (hi : i ≤ σ.1) (k0 : (σ.1 ≤ i) → am_WP (am_psh g (some (.inl (a))) :: gs) (d + 3) (mk I X) Q) (k1 : (¬ (σ.1 ≤ i)) → (((σ.2.2.2 i).1 3) = 0) → am_WP ((mX8_cellar, 48, [some (.inr (.inr (some (8, 0)))), some (.inl (w)), some (.inl ((a ||| (1 <<< (nI i &&& 31))))), some (.inl ((nI (i + 1))))], []) :: g :: gs) (d + 2) (mk I X) Q) (k2 : (¬ (σ.1 ≤ i)) → (¬ (((σ.2.2.2 i).1 3) = 0)) → am_WP ((mX8_cellar, 48, [some (.inr (.inr (some (8, 0)))), some (.inl (w)), some (.inl ((a ||| 0))), some (.inl ((nI (i + 1))))], []) :: g :: gs) (d + 2) (mk I X) Q) : am_WP ((mX8_cellar, 48, [some (.inr (.inr (some (8, 0)))), some (.inl (w)), some (.inl (a)), some (.inl (nI i))], []) :: g :: gs) (d + 2) (mk I X) Q := by
  have h8 := hG.1
  refine am_go 400 ?_
  have bd : σ.1 ≤ 8 := hG.1
  have tk0 : I 30 0 0 = nI σ.1 := hR.1
  refine am_if (fun h1 => ?_) (fun h1 => ?_)
  · have nh1 := (le_nat (a := σ.1) (b := i) tk0 (rfl : (nI i : Int32) = nI i) (by omega) (by omega)).mp h1
    exact k0 nh1
  · have nh1 := mt (le_nat (a := σ.1) (b := i) tk0 (rfl : (nI i : Int32) = nI i) (by omega) (by omega)).mpr h1
    have bd : ((σ.2.2.2 i).1 3) ≤ 6 := (hG.2.2.2 i (by omega)).2.2.2.1
    have tk1 : I 30 0 (6 + 18 * i + 3) = nI ((σ.2.2.2 i).1 3) := (hR.2.2.2.2.2 i (by omega) 3 (by omega)).1
    refine (c8_of (k := i) (j := 3) rfl rfl (by omega)) _ _ _ ?_
    refine am_go 400 ?_
    refine am_if (fun h2 => ?_) (fun h2 => ?_)
    · have nh2 := (eq_nat (a := ((σ.2.2.2 i).1 3)) (b := 0) tk1 (rfl : (0 : Int32) = nI 0) (by omega) (by omega)).mp h2
      have tk2 : (nI i + 1) = nI (i + 1) := (nI_addE rfl (rfl : (1 : Int32) = nI 1))
      show am_WP ((mX8_cellar, 48, [some (.inr (.inr (some (8, 0)))), some (.inl (w)), some (.inl ((a ||| (1 <<< (nI i &&& 31))))), some (.inl (((nI i + 1))))], []) :: g :: gs) (d + 2) (mk I X) Q
      try rw [tk2]
      exact k1 nh1 nh2
    · have nh2 := mt (eq_nat (a := ((σ.2.2.2 i).1 3)) (b := 0) tk1 (rfl : (0 : Int32) = nI 0) (by omega) (by omega)).mpr h2
      have tk3 : (nI i + 1) = nI (i + 1) := (nI_addE rfl (rfl : (1 : Int32) = nI 1))
      show am_WP ((mX8_cellar, 48, [some (.inr (.inr (some (8, 0)))), some (.inl (w)), some (.inl ((a ||| 0))), some (.inl (((nI i + 1))))], []) :: g :: gs) (d + 2) (mk I X) Q
      try rw [tk3]
      exact k2 nh1 nh2
theorem l_X7_cellar {I X g gs d Q} {w : Int32} {σ : Cn} (hR : RepC I 0 σ) (hG : GD σ) : ∀ (m i : Nat) (a : Int32) (y : Option am_V), i + m = σ.1 →
    am_WP (am_psh g (some (.inl (clL w σ.2.2.2 m i a))) :: gs) (d + 2) (mk I X) Q →
    am_WP ((mX7_cellar, 16, [some (.inr (.inr (some (7, 0)))), some (.inl w), some (.inl a), some (.inl (nI i)), y], []) :: g :: gs) (d + 1) (mk I X) Q
  | 0, i, a, y, hi, K => w_X7_cellar_16 hR hG (by omega) (fun _ => K) (fun h => absurd (by omega) h) (fun h => absurd (by omega) h) (fun h => absurd (by omega) h) (fun h => absurd (by omega) h) (fun h => absurd (by omega) h)
  | m + 1, i, a, y, hi, K => by
    have q : ∀ v, clF w (σ.2.2.2 i) i a = v → am_WP ((mX7_cellar, 16, [some (.inr (.inr (some (7, 0)))), some (.inl w), some (.inl v), some (.inl (nI (i + 1))), some (.inr (.inr (some (0, i))))], []) :: g :: gs) (d + 1) (mk I X) Q := fun v hv => l_X7_cellar hR hG m (i + 1) v _ (by omega) (by rw [clL, hv] at K; exact K)
    refine w_X7_cellar_16 hR hG (by omega) (fun h => absurd h (by omega)) ?_ ?_ ?_ ?_ ?_
    · intro _ h1; exact q _ (by unfold clF; rw [if_pos h1])
    · intro _ h1 h2; exact q _ (by unfold clF; rw [if_neg h1, if_pos h2])
    · intro _ h1 h2 h3 h4; exact q _ (by unfold clF; rw [if_neg h1, if_neg h2, if_pos h3, if_pos h4])
    · intro _ h1 h2 h3 h4; exact q _ (by unfold clF; rw [if_neg h1, if_neg h2, if_pos h3, if_neg h4])
    · intro _ h1 h2 h3; exact q _ (by unfold clF; rw [if_neg h1, if_neg h2, if_neg h3])
theorem l_X8_cellar {I X g gs d Q} {w : Int32} (hw : w = 2) {σ : Cn} (hR : RepM (I 30 0) σ) (hG : GD σ) : ∀ (m i : Nat) (a : Int32), i + m = σ.1 →
    am_WP (am_psh g (some (.inl (clL w σ.2.2.2 m i a))) :: gs) (d + 3) (mk I X) Q →
    am_WP ((mX8_cellar, 48, [some (.inr (.inr (some (8, 0)))), some (.inl w), some (.inl a), some (.inl (nI i))], []) :: g :: gs) (d + 2) (mk I X) Q
  | 0, i, a, hi, K => w_X8_cellar_48 hR hG (by omega) (fun _ => K) (fun h => absurd (by omega) h) (fun h => absurd (by omega) h)
  | m + 1, i, a, hi, K => by
    have q : ∀ v, clF w (σ.2.2.2 i) i a = v → am_WP ((mX8_cellar, 48, [some (.inr (.inr (some (8, 0)))), some (.inl w), some (.inl v), some (.inl (nI (i + 1)))], []) :: g :: gs) (d + 2) (mk I X) Q := fun v hv => l_X8_cellar hw hR hG m (i + 1) v (by omega) (by rw [clL, hv] at K; exact K)
    have n0 : ¬ w = 0 := by rw [hw]; decide
    have n1 : ¬ w = 1 := by rw [hw]; decide
    refine w_X8_cellar_48 hR hG (by omega) (fun h => absurd h (by omega)) ?_ ?_
    · intro _ h4; exact q _ (by unfold clF; rw [if_neg n0, if_neg n1, if_pos hw, if_pos h4])
    · intro _ h4; exact q _ (by unfold clF; rw [if_neg n0, if_neg n1, if_pos hw, if_neg h4])
set_option maxRecDepth 100000 in
set_option maxHeartbeats 4000000 in
theorem w_X7_cellar {I : Nat → Nat → Nat → Int32} {X : am_Z} {g : am_F} {gs : List am_F} {d : Nat} {Q : Option am_V → am_M → Prop} {s : St} (h : RC I X s) (G : GS s) {w : Int32} (k0 : (¬ ((0 : Int32) ≤ w ∧ w ≤ 3)) → am_WP (am_psh g (some (.inl ((-1000000001)))) :: gs) (d + 2) (mk I X) Q) (k1 : ((0 : Int32) ≤ w ∧ w ≤ 3) → am_WP ((mX7_cellar, 16, [some (.inr (.inr (some (7, 0)))), some (.inl (w)), some (.inl (0)), some (.inl (0)), none], []) :: g :: gs) (d + 1) (mk I X) Q) : am_WP (am_entry mX7_cellar [.inr (.inr (some (7, 0))), .inl (w)] :: g :: gs) (d + 1) (mk I X) Q := by
  have hn8 : nb s ≤ 8 := G.1.1.1
  refine am_go 400 ?_
  refine (c_X7_within (w) (0) (3)) _ _ _ ?_
  refine am_go 400 ?_
  refine am_if (fun h1 => ?_) (fun h1 => ?_)
  · have h1 := bI_0.mp h1
    exact k0 h1
  · have h1 := bI_1.mp h1
    refine am_cf rfl ?_
    refine am_cut ?_
    refine am_go 2 ?_
    exact k1 h1
theorem p_X7_cellar {I X d s} (h : RC I X s) (G : GS s) (w : Int32) : Sp mX7_cellar [.inr (.inr (some (7, 0))), .inl (w)] (d + 1) I X (OC I X (f_cellar s w)) := fun g gs Q K => by
  have hn8 : nb s ≤ 8 := G.1.1.1
  have g8 : G8 s := G8_ G
  refine w_X7_cellar h G  ?_ ?_
  · intro h0
    apply K_s K
    unfold f_cellar
    rw [if_neg h0]
    exact ⟨rfl, h, FrC_r⟩
  · intro h0
    refine l_X7_cellar h.1.1 (GC_D G.1.1) _ 0 0 none (Nat.zero_add _) ?_
    apply K_s K
    unfold f_cellar
    rw [if_pos h0]
    exact ⟨rfl, h, FrC_r⟩

set_option maxRecDepth 100000 in
set_option maxHeartbeats 4000000 in
theorem w_X8_cellar {I : Nat → Nat → Nat → Int32} {X : am_Z} {g : am_F} {gs : List am_F} {d : Nat} {Q : Option am_V → am_M → Prop} {s : St} (h : RM I s) (G : GS s) {w : Int32} (k0 : (w = 0) → am_WP (am_psh g (some (.inl ((nI (sumN (fun k => (s.1.1.2.2.2 k).1 3) 0 s.1.1.1))))) :: gs) (d + 3) (mk I X) Q) (k1 : (¬ w = 0) → (w = 1) → am_WP (am_psh g (some (.inl ((nI (sumN (fun k => (s.1.1.2.2.2 k).1 4) 0 s.1.1.1))))) :: gs) (d + 3) (mk I X) Q) (k2 : (¬ w = 0) → (¬ w = 1) → (w = 2) → am_WP ((mX8_cellar, 48, [some (.inr (.inr (some (8, 0)))), some (.inl (w)), some (.inl (0)), some (.inl (0))], []) :: g :: gs) (d + 2) (mk I X) Q) (k3 : (¬ w = 0) → (¬ w = 1) → (¬ w = 2) → (w = 3) → am_WP (am_psh g (some (.inl ((nI (sumN (fun k => (s.1.1.2.2.2 k).1 1) 0 s.1.1.1))))) :: gs) (d + 3) (mk I X) Q) (k4 : (¬ w = 0) → (¬ w = 1) → (¬ w = 2) → (¬ w = 3) → am_WP (am_psh g (some (.inl ((-1000000001)))) :: gs) (d + 3) (mk I X) Q) : am_WP (am_entry mX8_cellar [.inr (.inr (some (8, 0))), .inl (w)] :: g :: gs) (d + 2) (mk I X) Q := by
  have hn8 : nb s ≤ 8 := G.1.1.1
  refine am_go 400 ?_
  refine am_if (fun h1 => ?_) (fun h1 => ?_)
  · have tk0 : aoS (I 30 0) 3 1 s.1.1.1 = nI (sumN (fun k => (s.1.1.2.2.2 k).1 3) 0 s.1.1.1) := ao_0 h.1.1 (by decide)
    refine (c_X8_allOf (w := 3) (q := 1) (n := s.1.1.1) rfl rfl h.1.1.1 (GC_D G.1.1).1 (by decide)) _ _ _ ?_
    refine am_go 400 ?_
    show am_WP (am_psh g (some (.inl ((aoS (I 30 0) 3 1 s.1.1.1)))) :: gs) (d + 3) (mk I X) Q
    try rw [tk0]
    exact k0 h1
  refine am_if (fun h2 => ?_) (fun h2 => ?_)
  · have tk1 : aoS (I 30 0) 4 1 s.1.1.1 = nI (sumN (fun k => (s.1.1.2.2.2 k).1 4) 0 s.1.1.1) := ao_0 h.1.1 (by decide)
    refine (c_X8_allOf (w := 4) (q := 1) (n := s.1.1.1) rfl rfl h.1.1.1 (GC_D G.1.1).1 (by decide)) _ _ _ ?_
    refine am_go 400 ?_
    show am_WP (am_psh g (some (.inl ((aoS (I 30 0) 4 1 s.1.1.1)))) :: gs) (d + 3) (mk I X) Q
    try rw [tk1]
    exact k1 h1 h2
  refine am_if (fun h3 => ?_) (fun h3 => ?_)
  · refine am_cut ?_
    refine am_go 2 ?_
    exact k2 h1 h2 h3
  refine am_if (fun h4 => ?_) (fun h4 => ?_)
  · have tk2 : aoS (I 30 0) 1 1 s.1.1.1 = nI (sumN (fun k => (s.1.1.2.2.2 k).1 1) 0 s.1.1.1) := ao_0 h.1.1 (by decide)
    refine (c_X8_allOf (w := 1) (q := 1) (n := s.1.1.1) rfl rfl h.1.1.1 (GC_D G.1.1).1 (by decide)) _ _ _ ?_
    refine am_go 400 ?_
    show am_WP (am_psh g (some (.inl ((aoS (I 30 0) 1 1 s.1.1.1)))) :: gs) (d + 3) (mk I X) Q
    try rw [tk2]
    exact k3 h1 h2 h3 h4
  exact k4 h1 h2 h3 h4
theorem p_X8_cellar {I X d s} (h : RM I s) (G : GS s) (w : Int32) : Sp mX8_cellar [.inr (.inr (some (8, 0))), .inl (w)] (d + 2) I X (OM I X (f_cellar s w)) := fun g gs Q K => by
  have hn8 : nb s ≤ 8 := G.1.1.1
  have g8 : G8 s := G8_ G
  refine w_X8_cellar h G  ?_ ?_ ?_ ?_ ?_
  · intro h0
    apply K_s K
    unfold f_cellar
    rw [if_pos (by rw [h0]; decide), clL_s (f := fun k => (s.1.1.2.2.2 k).1 3) (fun k a => by unfold clF; rw [if_pos h0])]
    exact ⟨by show _ = 0 + nI _; simp, h, FrM_r, rfl⟩
  · intro h0 h1
    apply K_s K
    unfold f_cellar
    rw [if_pos (by rw [h1]; decide), clL_s (f := fun k => (s.1.1.2.2.2 k).1 4) (fun k a => by unfold clF; rw [if_neg h0, if_pos h1])]
    exact ⟨by show _ = 0 + nI _; simp, h, FrM_r, rfl⟩
  · intro h0 h1 h2
    refine l_X8_cellar h2 h.1.1 (GC_D G.1.1) _ 0 0 (Nat.zero_add _) ?_
    apply K_s K
    unfold f_cellar
    rw [if_pos (by rw [h2]; decide)]
    exact ⟨rfl, h, FrM_r, rfl⟩
  · intro h0 h1 h2 h3
    apply K_s K
    unfold f_cellar
    rw [if_pos (by rw [h3]; decide), clL_s (f := fun k => (s.1.1.2.2.2 k).1 1) (fun k a => by unfold clF; rw [if_neg h0, if_neg h1, if_neg h2])]
    exact ⟨by show _ = 0 + nI _; simp, h, FrM_r, rfl⟩
  · intro h0 h1 h2 h3
    apply K_s K
    unfold f_cellar
    rw [if_neg (fun z => by rcases n03 z with q | q | q | q <;> contradiction)]
    exact ⟨rfl, h, FrM_r, rfl⟩

