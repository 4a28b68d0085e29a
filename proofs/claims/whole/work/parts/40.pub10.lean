/-! held within, pour -/
def clN (v : Int32) (m : Nat) : Nat := if v < 0 then 0 else if nI m < v then m else kx v
theorem clN_le (v : Int32) (m : Nat) (hm : m < 2 ^ 31) : clN v m ≤ m := by
  unfold clN
  split
  · omega
  · split
    · omega
    · rename_i h1 h2
      exact (okl hm ⟨Int32.not_lt.mp h1, Int32.not_lt.mp h2⟩).2
theorem wit_cl (v : Int32) (m : Nat) (hm : m < 2 ^ 31) : wit v (nI m) = nI (clN v m) := by
  unfold wit clN
  split
  · rfl
  · split
    · rfl
    · rename_i h1 h2
      exact (okl hm ⟨Int32.not_lt.mp h1, Int32.not_lt.mp h2⟩).1
theorem c_X7_heldWithin {I X d} {m : Nat} (v : Int32) (hm : m < 2 ^ 31) : Rt mX7_heldWithin [.inl v, .inl 0, .inl (nI m)] d (mk I X) (some (.inl (nI (clN v m)))) (mk I X) := fun g gs Q K =>
  w_X7_heldWithin (K_v (by
    rw [← wit_cl v m hm]
    unfold wit
    have hm0 : ¬ nI m < 0 := nI_pos (by omega)
    by_cases h0 : v < 0
    · have h1 : ¬ nI m < v := fun z => hm0 (Int32.lt_trans z h0)
      rw [if_pos h0, if_neg h1, if_neg (fun z => absurd (Int32.lt_trans z h0) (by decide))]
    · rw [if_neg h0]
      by_cases h1 : nI m < v
      · rw [if_pos h1]
        split
        · rfl
        · rename_i h2
          have : nI m = 0 := Int32.le_antisymm (Int32.not_lt.mp h2) (Int32.not_lt.mp hm0)
          rw [this]
      · rw [if_neg h1]
        split
        · rfl
        · rename_i h2
          exact (Int32.le_antisymm (Int32.not_lt.mp h2) (Int32.not_lt.mp h0))) K)
/-- what HOLD of a layer becomes -/
def pov (r : Ro) (β : Bn) (i : Nat) : Nat := if i < r.2.1 ∧ ¬ r.2.2 i = cNONE then clN (r.2.2 i) 24 else β.2.2 i
def poS (r : Ro) (k : Nat) : Nat → Nat → St → Nat → Int32 × St
  | 0, _, s, c => (nI c, s)
  | n + 1, i, s, c => poS r k n (i + 1) (w2 s k i (pov r (bo s k) i)) (if pov r (bo s k) i = (bo s k).2.2 i then c else c + 1)
theorem w2_id {s : St} {k i : Nat} : w2 s k i ((bo s k).2.2 i) = s := by
  have e : b2 (bo s k) i ((bo s k).2.2 i) = bo s k := by
    show ((bo s k).1, (bo s k).2.1, fu (bo s k).2.2 i _) = bo s k
    have : fu (bo s k).2.2 i ((bo s k).2.2 i) = (bo s k).2.2 := by
      funext j; unfold fu; split
      · rename_i h; rw [h]
      · rfl
    rw [this]
  have e2 : fu s.1.1.2.2.2 k (bo s k) = s.1.1.2.2.2 := by
    funext j; unfold fu; split
    · rename_i h; rw [h]; rfl
    · rfl
  unfold w2 stB setB
  rw [e, e2]
theorem poS_end {r : Ro} {k : Nat} : ∀ (n i : Nat) (s : St) (c : Nat), r.2.1 ≤ i → poS r k n i s c = (nI c, s)
  | 0, _, _, _, _ => rfl
  | n + 1, i, s, c, h => by
    have e : pov r (bo s k) i = (bo s k).2.2 i := by unfold pov; rw [if_neg (fun z => by omega)]
    rw [poS, e, if_pos rfl, w2_id]
    exact poS_end n (i + 1) s c (by omega)
def f_pour (s : St) (x y : Int32) : Int32 × St := if isB s x then if 0 ≤ y ∧ y ≤ 3 then if (sh s (kx y)).1 = -1 then (cNOTH, s) else poS (sh s (kx y)) (kx x) 6 0 s 0 else (cBAD, s) else (cBAD, s)
set_option maxRecDepth 100000 in
set_option maxHeartbeats 4000000 in
theorem w_X7_pour_56 {I : Nat → Nat → Nat → Int32} {X : am_Z} {g : am_F} {gs : List am_F} {d : Nat} {Q : Option am_V → am_M → Prop} {s : St} (h : RC I X s) (G : GS s) {b q i c : Nat} (hb : b < nb s) (hq : q < 4) (hz : (sh s q).2.1 ≤ 24) (hi : i ≤ 6) {u v : Int32} {y : Option am_V} (k0 : (6 ≤ i) → am_WP (am_psh g (some (.inl (nI c))) :: gs) (d + 4) (mk I X) Q) (k1 : (¬ (6 ≤ i)) → (¬ (i < (sh s (q)).2.1 ∧ ¬ (sh s (q)).2.2 i = cNONE)) → (((bo s b).2.2 i) = ((bo s b).2.2 i)) → am_WP ((mX7_pour, 56, [some (.inr (.inr (some (7, 0)))), some (.inl (u)), some (.inl (v)), some (.inr (.inr (some (4, q)))), some (.inr (.inr (some (17, b)))), some (.inl (nI c)), some (.inl ((nI (i + 1)))), some (.inl ((nI ((bo s b).2.2 i))))], []) :: g :: gs) (d + 3) (mk (up3 I 17 b (i) ((nI ((bo s b).2.2 i)))) X) Q) (k2 : (¬ (6 ≤ i)) → (¬ (i < (sh s (q)).2.1 ∧ ¬ (sh s (q)).2.2 i = cNONE)) → (¬ (((bo s b).2.2 i) = ((bo s b).2.2 i))) → am_WP ((mX7_pour, 56, [some (.inr (.inr (some (7, 0)))), some (.inl (u)), some (.inl (v)), some (.inr (.inr (some (4, q)))), some (.inr (.inr (some (17, b)))), some (.inl ((nI (c + 1)))), some (.inl ((nI (i + 1)))), some (.inl ((nI ((bo s b).2.2 i))))], []) :: g :: gs) (d + 3) (mk (up3 I 17 b (i) ((nI ((bo s b).2.2 i)))) X) Q) (k3 : (¬ (6 ≤ i)) → (i < (sh s (q)).2.1 ∧ ¬ (sh s (q)).2.2 i = cNONE) → ((clN ((((sh s (q)).2.2 (i)))) 24) = ((bo s b).2.2 i)) → am_WP ((mX7_pour, 56, [some (.inr (.inr (some (7, 0)))), some (.inl (u)), some (.inl (v)), some (.inr (.inr (some (4, q)))), some (.inr (.inr (some (17, b)))), some (.inl (nI c)), some (.inl ((nI (i + 1)))), some (.inl ((nI (clN ((((sh s (q)).2.2 (i)))) 24))))], []) :: g :: gs) (d + 3) (mk (up3 I 17 b (i) ((nI (clN ((((sh s (q)).2.2 (i)))) 24)))) X) Q) (k4 : (¬ (6 ≤ i)) → (i < (sh s (q)).2.1 ∧ ¬ (sh s (q)).2.2 i = cNONE) → (¬ ((clN ((((sh s (q)).2.2 (i)))) 24) = ((bo s b).2.2 i))) → am_WP ((mX7_pour, 56, [some (.inr (.inr (some (7, 0)))), some (.inl (u)), some (.inl (v)), some (.inr (.inr (some (4, q)))), some (.inr (.inr (some (17, b)))), some (.inl ((nI (c + 1)))), some (.inl ((nI (i + 1)))), some (.inl ((nI (clN ((((sh s (q)).2.2 (i)))) 24))))], []) :: g :: gs) (d + 3) (mk (up3 I 17 b (i) ((nI (clN ((((sh s (q)).2.2 (i)))) 24)))) X) Q) : am_WP ((mX7_pour, 56, [some (.inr (.inr (some (7, 0)))), some (.inl (u)), some (.inl (v)), some (.inr (.inr (some (4, q)))), some (.inr (.inr (some (17, b)))), some (.inl (nI c)), some (.inl (nI i)), y], []) :: g :: gs) (d + 3) (mk I X) Q := by
  have hn8 : nb s ≤ 8 := G.1.1.1
  refine am_go 400 ?_
  refine am_if (fun h1 => ?_) (fun h1 => ?_)
  · have nh1 := (le_nat (a := 6) (b := i) (rfl : (6 : Int32) = nI 6) (rfl : (nI i : Int32) = nI i) (by omega) (by omega)).mp h1
    exact k0 nh1
  · have nh1 := mt (le_nat (a := 6) (b := i) (rfl : (6 : Int32) = nI 6) (rfl : (nI i : Int32) = nI i) (by omega) (by omega)).mpr h1
    refine (c_X4_isNumber (q := q) (i := i) (shC h (k := q) (by omega)) (by omega) (rfl : (nI i : Int32) = nI i) (by omega)) _ _ _ ?_
    refine am_go 400 ?_
    refine am_if (fun h2 => ?_) (fun h2 => ?_)
    · have h2 := bI_0.mp h2
      refine am_f (ix_in (n := i) (N := 6) (rfl : (nI i : Int32) = nI i) (by omega) (by decide)) ?_
      have tk0 : (nI i).toNatClampNeg = i := ix_cl (n := i) (rfl : (nI i : Int32) = nI i) (by omega)
      have bd : ((bo s b).2.2 i) ≤ 24 := ((GS_b G (k := b) (by omega)).2.2.2.2.2 _ (by omega)).2
      have tk1 : I 17 b (((nI i).toNatClampNeg)) = nI ((bo s b).2.2 i) := by first | exact vC2 h (by omega) (by omega) | (((try rw [tk0])); first | done | exact vC2 h (by omega) (by omega))
      refine am_f (ix_in (n := i) (N := 6) (rfl : (nI i : Int32) = nI i) (by omega) (by decide)) ?_
      refine am_if (fun h3 => ?_) (fun h3 => ?_)
      · have nh3 := (eq_nat (a := ((bo s b).2.2 i)) (b := ((bo s b).2.2 i)) tk1 tk1 (by omega) (by omega)).mp h3
        refine am_f (ix_in (n := i) (N := 6) (rfl : (nI i : Int32) = nI i) (by omega) (by decide)) ?_
        have tk2 : (nI i + 1) = nI (i + 1) := (nI_addE rfl (rfl : (1 : Int32) = nI 1))
        show am_WP ((mX7_pour, 56, [some (.inr (.inr (some (7, 0)))), some (.inl (u)), some (.inl (v)), some (.inr (.inr (some (4, q)))), some (.inr (.inr (some (17, b)))), some (.inl (nI c)), some (.inl (((nI i + 1)))), some (.inl ((I 17 b (((nI i).toNatClampNeg)))))], []) :: g :: gs) (d + 3) (mk (up3 I 17 b (((nI i).toNatClampNeg)) ((I 17 b (((nI i).toNatClampNeg))))) X) Q
        try rw [tk1]
        try rw [tk0]
        try rw [tk2]
        exact k1 nh1 h2 nh3
      · have nh3 := mt (eq_nat (a := ((bo s b).2.2 i)) (b := ((bo s b).2.2 i)) tk1 tk1 (by omega) (by omega)).mpr h3
        refine am_f (ix_in (n := i) (N := 6) (rfl : (nI i : Int32) = nI i) (by omega) (by decide)) ?_
        have tk3 : (nI c + 1) = nI (c + 1) := (nI_addE rfl (rfl : (1 : Int32) = nI 1))
        have tk4 : (nI i + 1) = nI (i + 1) := (nI_addE rfl (rfl : (1 : Int32) = nI 1))
        show am_WP ((mX7_pour, 56, [some (.inr (.inr (some (7, 0)))), some (.inl (u)), some (.inl (v)), some (.inr (.inr (some (4, q)))), some (.inr (.inr (some (17, b)))), some (.inl (((nI c + 1)))), some (.inl (((nI i + 1)))), some (.inl ((I 17 b (((nI i).toNatClampNeg)))))], []) :: g :: gs) (d + 3) (mk (up3 I 17 b (((nI i).toNatClampNeg)) ((I 17 b (((nI i).toNatClampNeg))))) X) Q
        try rw [tk1]
        try rw [tk0]
        try rw [tk4]
        try rw [tk3]
        exact k2 nh1 h2 nh3
    · have h2 := bI_1.mp h2
      refine am_f (ix_in (n := i) (N := 24) (rfl : (nI i : Int32) = nI i) (by omega) (by decide)) ?_
      have tk5 : (nI i).toNatClampNeg = i := ix_cl (n := i) (rfl : (nI i : Int32) = nI i) (by omega)
      have tk6 : I 25 q (((nI i).toNatClampNeg)) = ((sh s (q)).2.2 (i)) := by first | exact (shC h (k := q) (by omega)).2.2 _ (by omega) | (((try rw [tk5])); first | done | exact (shC h (k := q) (by omega)).2.2 _ (by omega))
      have bd : clN ((((sh s (q)).2.2 (i)))) 24 ≤ 24 := clN_le _ _ (by decide)
      have tk7 : nI (clN ((I 25 q (((nI i).toNatClampNeg)))) 24) = nI (clN ((((sh s (q)).2.2 (i)))) 24) := by first | exact rfl | (((try rw [tk6]); (try rw [tk5])); first | done | exact rfl)
      refine (c_X7_heldWithin (m := 24) ((I 25 q (((nI i).toNatClampNeg)))) (by decide)) _ _ _ ?_
      refine am_go 400 ?_
      refine am_f (ix_in (n := i) (N := 6) (rfl : (nI i : Int32) = nI i) (by omega) (by decide)) ?_
      have bd : ((bo s b).2.2 i) ≤ 24 := ((GS_b G (k := b) (by omega)).2.2.2.2.2 _ (by omega)).2
      have tk8 : I 17 b (((nI i).toNatClampNeg)) = nI ((bo s b).2.2 i) := by first | exact vC2 h (by omega) (by omega) | (((try rw [tk5])); first | done | exact vC2 h (by omega) (by omega))
      refine am_if (fun h4 => ?_) (fun h4 => ?_)
      · have nh4 := (eq_nat (a := (clN ((((sh s (q)).2.2 (i)))) 24)) (b := ((bo s b).2.2 i)) tk7 tk8 (by omega) (by omega)).mp h4
        refine am_f (ix_in (n := i) (N := 6) (rfl : (nI i : Int32) = nI i) (by omega) (by decide)) ?_
        have tk9 : (nI i + 1) = nI (i + 1) := (nI_addE rfl (rfl : (1 : Int32) = nI 1))
        show am_WP ((mX7_pour, 56, [some (.inr (.inr (some (7, 0)))), some (.inl (u)), some (.inl (v)), some (.inr (.inr (some (4, q)))), some (.inr (.inr (some (17, b)))), some (.inl (nI c)), some (.inl (((nI i + 1)))), some (.inl ((nI (clN ((I 25 q (((nI i).toNatClampNeg)))) 24))))], []) :: g :: gs) (d + 3) (mk (up3 I 17 b (((nI i).toNatClampNeg)) ((nI (clN ((I 25 q (((nI i).toNatClampNeg)))) 24)))) X) Q
        try rw [tk7]
        try rw [tk6]
        try rw [tk5]
        try rw [tk9]
        exact k3 nh1 h2 nh4
      · have nh4 := mt (eq_nat (a := (clN ((((sh s (q)).2.2 (i)))) 24)) (b := ((bo s b).2.2 i)) tk7 tk8 (by omega) (by omega)).mpr h4
        refine am_f (ix_in (n := i) (N := 6) (rfl : (nI i : Int32) = nI i) (by omega) (by decide)) ?_
        have tk10 : (nI c + 1) = nI (c + 1) := (nI_addE rfl (rfl : (1 : Int32) = nI 1))
        have tk11 : (nI i + 1) = nI (i + 1) := (nI_addE rfl (rfl : (1 : Int32) = nI 1))
        show am_WP ((mX7_pour, 56, [some (.inr (.inr (some (7, 0)))), some (.inl (u)), some (.inl (v)), some (.inr (.inr (some (4, q)))), some (.inr (.inr (some (17, b)))), some (.inl (((nI c + 1)))), some (.inl (((nI i + 1)))), some (.inl ((nI (clN ((I 25 q (((nI i).toNatClampNeg)))) 24))))], []) :: g :: gs) (d + 3) (mk (up3 I 17 b (((nI i).toNatClampNeg)) ((nI (clN ((I 25 q (((nI i).toNatClampNeg)))) 24)))) X) Q
        try rw [tk7]
        try rw [tk6]
        try rw [tk5]
        try rw [tk11]
        try rw [tk10]
        exact k4 nh1 h2 nh4
set_option maxRecDepth 100000 in
set_option maxHeartbeats 4000000 in
theorem w_X8_pour_36 {I : Nat → Nat → Nat → Int32} {X : am_Z} {g : am_F} {gs : List am_F} {d : Nat} {Q : Option am_V → am_M → Prop} {s : St} (h : RM I s) (G : GS s) {b q i c : Nat} (hb : b < nb s) (hq : q < 4) (hz : (sh s q).2.1 ≤ 24) (hi : i ≤ 6) {u v : Int32} (hu : u = nI b) (hv : v = nI q) {y z : Option am_V} (k0 : (((sh s (q)).2.1) ≤ i) → am_WP (am_psh g (some (.inl (nI c))) :: gs) (d + 3) (mk I X) Q) (k1 : (¬ (((sh s (q)).2.1) ≤ i)) → (6 ≤ i) → am_WP (am_psh g (some (.inl (nI c))) :: gs) (d + 3) (mk I X) Q) (k2 : (¬ (((sh s (q)).2.1) ≤ i)) → (¬ (6 ≤ i)) → ((((sh s q).2.2 (i))) = (-1000000005)) → (((bo s b).2.2 i) = ((bo s b).2.2 i)) → am_WP ((mX8_pour, 36, [some (.inr (.inr (some (8, 0)))), some (.inl (u)), some (.inl (v)), some (.inl ((nI (c + 0)))), some (.inl ((nI (i + 1)))), some (.inl ((((sh s q).2.2 (i))))), some (.inl ((nI ((bo s b).2.2 i))))], []) :: g :: gs) (d + 2) (mk (up3 I 30 0 (6 + 18 * b + (12 + i)) ((nI ((bo s b).2.2 i)))) X) Q) (k3 : (¬ (((sh s (q)).2.1) ≤ i)) → (¬ (6 ≤ i)) → ((((sh s q).2.2 (i))) = (-1000000005)) → (¬ (((bo s b).2.2 i) = ((bo s b).2.2 i))) → am_WP ((mX8_pour, 36, [some (.inr (.inr (some (8, 0)))), some (.inl (u)), some (.inl (v)), some (.inl ((nI (c + 1)))), some (.inl ((nI (i + 1)))), some (.inl ((((sh s q).2.2 (i))))), some (.inl ((nI ((bo s b).2.2 i))))], []) :: g :: gs) (d + 2) (mk (up3 I 30 0 (6 + 18 * b + (12 + i)) ((nI ((bo s b).2.2 i)))) X) Q) (k4 : (¬ (((sh s (q)).2.1) ≤ i)) → (¬ (6 ≤ i)) → (¬ (((sh s q).2.2 (i))) = (-1000000005)) → ((clN ((((sh s q).2.2 (i)))) 24) = ((bo s b).2.2 i)) → am_WP ((mX8_pour, 36, [some (.inr (.inr (some (8, 0)))), some (.inl (u)), some (.inl (v)), some (.inl ((nI (c + 0)))), some (.inl ((nI (i + 1)))), some (.inl ((((sh s q).2.2 (i))))), some (.inl ((nI (clN ((((sh s q).2.2 (i)))) 24))))], []) :: g :: gs) (d + 2) (mk (up3 I 30 0 (6 + 18 * b + (12 + i)) ((nI (clN ((((sh s q).2.2 (i)))) 24)))) X) Q) (k5 : (¬ (((sh s (q)).2.1) ≤ i)) → (¬ (6 ≤ i)) → (¬ (((sh s q).2.2 (i))) = (-1000000005)) → (¬ ((clN ((((sh s q).2.2 (i)))) 24) = ((bo s b).2.2 i))) → am_WP ((mX8_pour, 36, [some (.inr (.inr (some (8, 0)))), some (.inl (u)), some (.inl (v)), some (.inl ((nI (c + 1)))), some (.inl ((nI (i + 1)))), some (.inl ((((sh s q).2.2 (i))))), some (.inl ((nI (clN ((((sh s q).2.2 (i)))) 24))))], []) :: g :: gs) (d + 2) (mk (up3 I 30 0 (6 + 18 * b + (12 + i)) ((nI (clN ((((sh s q).2.2 (i)))) 24)))) X) Q) : am_WP ((mX8_pour, 36, [some (.inr (.inr (some (8, 0)))), some (.inl (u)), some (.inl (v)), some (.inl (nI c)), some (.inl (nI i)), y, z], []) :: g :: gs) (d + 2) (mk I X) Q := by
  have hn8 : nb s ≤ 8 := G.1.1.1
  refine am_go 400 ?_
  refine am_f (ix_in (n := q) (N := 4) hv (by omega) (by decide)) ?_
  have tk0 : (v).toNatClampNeg = q := ix_cl (n := q) hv (by omega)
  have tk1 : I 34 0 (((v).toNatClampNeg)) = nI (sh s (q)).2.1 := by first | exact (shM h (k := q) (by omega)).2.1 | (((try rw [tk0])); first | done | exact (shM h (k := q) (by omega)).2.1)
  refine am_if (fun h1 => ?_) (fun h1 => ?_)
  · have nh1 := (le_nat (a := ((sh s (q)).2.1)) (b := i) tk1 (rfl : (nI i : Int32) = nI i) (by omega) (by omega)).mp h1
    exact k0 nh1
  · have nh1 := mt (le_nat (a := ((sh s (q)).2.1)) (b := i) tk1 (rfl : (nI i : Int32) = nI i) (by omega) (by omega)).mpr h1
    refine am_if (fun h2 => ?_) (fun h2 => ?_)
    · have nh2 := (le_nat (a := 6) (b := i) (rfl : (6 : Int32) = nI 6) (rfl : (nI i : Int32) = nI i) (by omega) (by omega)).mp h2
      exact k1 nh1 nh2
    · have nh2 := mt (le_nat (a := 6) (b := i) (rfl : (6 : Int32) = nI 6) (rfl : (nI i : Int32) = nI i) (by omega) (by omega)).mpr h2
      refine am_f (ix_in (n := ((24 * q) + i)) (N := 96) (nI_addE (nI_mulE (rfl : (24 : Int32) = nI 24) hv) rfl) (by omega) (by decide)) ?_
      have tk2 : (((24 * v) + nI i)).toNatClampNeg = ((24 * q) + i) := ix_cl (n := ((24 * q) + i)) (nI_addE (nI_mulE (rfl : (24 : Int32) = nI 24) hv) rfl) (by omega)
      have tk3 : I 35 0 (((((24 * v) + nI i)).toNatClampNeg)) = ((sh s q).2.2 (i)) := by first | exact (shM h (k := q) (by omega)).2.2 _ (by omega) | (((try rw [tk2])); first | done | exact (shM h (k := q) (by omega)).2.2 _ (by omega))
      refine am_if (fun h3 => ?_) (fun h3 => ?_)
      · have h3 : (I 35 0 (((((24 * v) + nI i)).toNatClampNeg))) = (-1000000005) := h3
        try rw [tk3] at h3
        try rw [tk2] at h3
        refine am_f (ix_in (n := (((6 + (18 * b)) + 12) + i)) (N := 3150) (nI_addE (nI_addE (nI_addE (rfl : (6 : Int32) = nI 6) (nI_mulE (rfl : (18 : Int32) = nI 18) hu)) (rfl : (12 : Int32) = nI 12)) rfl) (by omega) (by decide)) ?_
        have tk4 : ((((6 + (18 * u)) + 12) + nI i)).toNatClampNeg = (((6 + (18 * b)) + 12) + i) := ix_cl (n := (((6 + (18 * b)) + 12) + i)) (nI_addE (nI_addE (nI_addE (rfl : (6 : Int32) = nI 6) (nI_mulE (rfl : (18 : Int32) = nI 18) hu)) (rfl : (12 : Int32) = nI 12)) rfl) (by omega)
        have bd : ((bo s b).2.2 i) ≤ 24 := ((GS_b G (k := b) (by omega)).2.2.2.2.2 _ (by omega)).2
        have tk5 : I 30 0 ((((((6 + (18 * u)) + 12) + nI i)).toNatClampNeg)) = nI ((bo s b).2.2 i) := by first | exact (show I 30 0 (((6 + (18 * b)) + 12) + i) = _ from by rw [show ((6 + (18 * b)) + 12) + i = 6 + 18 * b + (12 + i) by omega]; exact vM2 (k := b) (j := i) h (by omega) (by omega)) | (((try rw [tk4])); first | done | exact (show I 30 0 (((6 + (18 * b)) + 12) + i) = _ from by rw [show ((6 + (18 * b)) + 12) + i = 6 + 18 * b + (12 + i) by omega]; exact vM2 (k := b) (j := i) h (by omega) (by omega)))
        have tk6 : I 30 0 (6 + 18 * b + (12 + i)) = nI ((bo s b).2.2 i) := vM2 (k := b) (j := i) h (by omega) (by omega)
        refine (c8_becomes (j := 6 + 18 * b + (12 + i)) (nI_cast (nI_addE (nI_addE (nI_addE (rfl : (6 : Int32) = nI 6) (nI_mulE (rfl : (18 : Int32) = nI 18) hu)) (rfl : (12 : Int32) = nI 12)) rfl) (show (((6 + (18 * b)) + 12) + i) = 6 + 18 * b + (12 + i) by omega)) (by omega)) _ _ _ ?_
        refine am_go 400 ?_
        refine am_if (fun h4 => ?_) (fun h4 => ?_)
        · have nh4 := (eq_nat (a := ((bo s b).2.2 i)) (b := ((bo s b).2.2 i)) tk5 tk6 (by omega) (by omega)).mp h4
          have tk7 : (nI c + 0) = nI (c + 0) := (nI_addE rfl (rfl : (0 : Int32) = nI 0))
          have tk8 : (nI i + 1) = nI (i + 1) := (nI_addE rfl (rfl : (1 : Int32) = nI 1))
          show am_WP ((mX8_pour, 36, [some (.inr (.inr (some (8, 0)))), some (.inl (u)), some (.inl (v)), some (.inl (((nI c + 0)))), some (.inl (((nI i + 1)))), some (.inl ((I 35 0 (((((24 * v) + nI i)).toNatClampNeg))))), some (.inl ((I 30 0 ((((((6 + (18 * u)) + 12) + nI i)).toNatClampNeg)))))], []) :: g :: gs) (d + 2) (mk (up3 I 30 0 (6 + 18 * b + (12 + i)) ((I 30 0 ((((((6 + (18 * u)) + 12) + nI i)).toNatClampNeg))))) X) Q
          try rw [tk5]
          try rw [tk4]
          try rw [tk3]
          try rw [tk2]
          try rw [tk8]
          try rw [tk7]
          exact k2 nh1 nh2 h3 nh4
        · have nh4 := mt (eq_nat (a := ((bo s b).2.2 i)) (b := ((bo s b).2.2 i)) tk5 tk6 (by omega) (by omega)).mpr h4
          have tk9 : (nI c + 1) = nI (c + 1) := (nI_addE rfl (rfl : (1 : Int32) = nI 1))
          have tk10 : (nI i + 1) = nI (i + 1) := (nI_addE rfl (rfl : (1 : Int32) = nI 1))
          show am_WP ((mX8_pour, 36, [some (.inr (.inr (some (8, 0)))), some (.inl (u)), some (.inl (v)), some (.inl (((nI c + 1)))), some (.inl (((nI i + 1)))), some (.inl ((I 35 0 (((((24 * v) + nI i)).toNatClampNeg))))), some (.inl ((I 30 0 ((((((6 + (18 * u)) + 12) + nI i)).toNatClampNeg)))))], []) :: g :: gs) (d + 2) (mk (up3 I 30 0 (6 + 18 * b + (12 + i)) ((I 30 0 ((((((6 + (18 * u)) + 12) + nI i)).toNatClampNeg))))) X) Q
          try rw [tk5]
          try rw [tk4]
          try rw [tk3]
          try rw [tk2]
          try rw [tk10]
          try rw [tk9]
          exact k3 nh1 nh2 h3 nh4
      · have h3 : ¬ (I 35 0 (((((24 * v) + nI i)).toNatClampNeg))) = (-1000000005) := h3
        try rw [tk3] at h3
        try rw [tk2] at h3
        have tk11 : (wit ((I 35 0 (((((24 * v) + nI i)).toNatClampNeg)))) (24)) = nI (clN ((((sh s q).2.2 (i)))) 24) := by first | exact wit_cl _ 24 (by decide) | (((try rw [tk3]); (try rw [tk2])); first | done | exact wit_cl _ 24 (by decide))
        have bd : (clN ((((sh s q).2.2 (i)))) 24) ≤ 24 := clN_le _ _ (by decide)
        refine (c8_within ((I 35 0 (((((24 * v) + nI i)).toNatClampNeg)))) (24)) _ _ _ ?_
        refine am_go 400 ?_
        have bd : ((bo s b).2.2 i) ≤ 24 := ((GS_b G (k := b) (by omega)).2.2.2.2.2 _ (by omega)).2
        have tk12 : I 30 0 (6 + 18 * b + (12 + i)) = nI ((bo s b).2.2 i) := vM2 (k := b) (j := i) h (by omega) (by omega)
        refine (c8_becomes (j := 6 + 18 * b + (12 + i)) (nI_cast (nI_addE (nI_addE (nI_addE (rfl : (6 : Int32) = nI 6) (nI_mulE (rfl : (18 : Int32) = nI 18) hu)) (rfl : (12 : Int32) = nI 12)) rfl) (show (((6 + (18 * b)) + 12) + i) = 6 + 18 * b + (12 + i) by omega)) (by omega)) _ _ _ ?_
        refine am_go 400 ?_
        refine am_if (fun h5 => ?_) (fun h5 => ?_)
        · have nh5 := (eq_nat (a := (clN ((((sh s q).2.2 (i)))) 24)) (b := ((bo s b).2.2 i)) tk11 tk12 (by omega) (by omega)).mp h5
          have tk13 : (nI c + 0) = nI (c + 0) := (nI_addE rfl (rfl : (0 : Int32) = nI 0))
          have tk14 : (nI i + 1) = nI (i + 1) := (nI_addE rfl (rfl : (1 : Int32) = nI 1))
          show am_WP ((mX8_pour, 36, [some (.inr (.inr (some (8, 0)))), some (.inl (u)), some (.inl (v)), some (.inl (((nI c + 0)))), some (.inl (((nI i + 1)))), some (.inl ((I 35 0 (((((24 * v) + nI i)).toNatClampNeg))))), some (.inl (((wit ((I 35 0 (((((24 * v) + nI i)).toNatClampNeg)))) (24)))))], []) :: g :: gs) (d + 2) (mk (up3 I 30 0 (6 + 18 * b + (12 + i)) (((wit ((I 35 0 (((((24 * v) + nI i)).toNatClampNeg)))) (24))))) X) Q
          try rw [tk11]
          try rw [tk3]
          try rw [tk2]
          try rw [tk14]
          try rw [tk13]
          exact k4 nh1 nh2 h3 nh5
        · have nh5 := mt (eq_nat (a := (clN ((((sh s q).2.2 (i)))) 24)) (b := ((bo s b).2.2 i)) tk11 tk12 (by omega) (by omega)).mpr h5
          have tk15 : (nI c + 1) = nI (c + 1) := (nI_addE rfl (rfl : (1 : Int32) = nI 1))
          have tk16 : (nI i + 1) = nI (i + 1) := (nI_addE rfl (rfl : (1 : Int32) = nI 1))
          show am_WP ((mX8_pour, 36, [some (.inr (.inr (some (8, 0)))), some (.inl (u)), some (.inl (v)), some (.inl (((nI c + 1)))), some (.inl (((nI i + 1)))), some (.inl ((I 35 0 (((((24 * v) + nI i)).toNatClampNeg))))), some (.inl (((wit ((I 35 0 (((((24 * v) + nI i)).toNatClampNeg)))) (24)))))], []) :: g :: gs) (d + 2) (mk (up3 I 30 0 (6 + 18 * b + (12 + i)) (((wit ((I 35 0 (((((24 * v) + nI i)).toNatClampNeg)))) (24))))) X) Q
          try rw [tk11]
          try rw [tk3]
          try rw [tk2]
          try rw [tk16]
          try rw [tk15]
          exact k5 nh1 nh2 h3 nh5
theorem l_X7_pour {I0 : Im} {X g gs d Q} {s0 : St} {b q : Nat} {u v : Int32} (hq : q < 4) : ∀ (n i c : Nat) (s : St) (I : Im) (y : Option am_V), RC I X s → GS s → b < nb s → sh s q = sh s0 q → FrC I0 X I X → i + n = 6 →
    (∀ v' I' X', OC I0 X (poS (sh s0 q) b n i s c) v' I' X' → am_WP (am_psh g (some (.inl v')) :: gs) (d + 4) (mk I' X') Q) →
    am_WP ((mX7_pour, 56, [some (.inr (.inr (some (7, 0)))), some (.inl u), some (.inl v), some (.inr (.inr (some (4, q)))), some (.inr (.inr (some (17, b)))), some (.inl (nI c)), some (.inl (nI i)), y], []) :: g :: gs) (d + 3) (mk I X) Q
  | 0, i, c, s, I, y, h, G, hb, e, F, hi, K => w_X7_pour_56 h G hb hq (G.2.2.1 q hq).2 (by omega) (fun _ => K_s K ⟨rfl, h, F⟩) (fun hn => absurd (by omega) hn) (fun hn => absurd (by omega) hn) (fun hn => absurd (by omega) hn) (fun hn => absurd (by omega) hn)
  | n + 1, i, c, s, I, y, h, G, hb, e, F, hi, K => by
    have bd := ((GS_b G hb).2.2.2.2.2 i (by omega)).2
    refine w_X7_pour_56 h G hb hq (G.2.2.1 q hq).2 (by omega) (fun hn => absurd hn (by omega)) ?_ ?_ ?_ ?_
    · intro h1 h2 h3
      have ev : pov (sh s0 q) (bo s b) i = (bo s b).2.2 i := by unfold pov; rw [← e, if_neg h2]
      refine l_X7_pour hq n (i + 1) c (w2 s b i ((bo s b).2.2 i)) _ _ (RC_w2 h (G8_ G) hb rfl) (GS_w2 G hb bd) hb e (FrC_3 rfl F) (by omega) ?_
      rw [poS, ev, if_pos rfl] at K
      exact K
    · intro h1 h2 h3; exact absurd rfl h3
    · intro h1 h2 h3
      have ev : pov (sh s0 q) (bo s b) i = clN ((sh s q).2.2 i) 24 := by unfold pov; rw [← e, if_pos h2]
      refine l_X7_pour hq n (i + 1) c (w2 s b i (clN ((sh s q).2.2 i) 24)) _ _ (RC_w2 h (G8_ G) hb rfl) (GS_w2 G hb (clN_le _ _ (by decide))) hb e (FrC_3 rfl F) (by omega) ?_
      rw [poS, ev, if_pos h3] at K
      exact K
    · intro h1 h2 h3
      have ev : pov (sh s0 q) (bo s b) i = clN ((sh s q).2.2 i) 24 := by unfold pov; rw [← e, if_pos h2]
      refine l_X7_pour hq n (i + 1) (c + 1) (w2 s b i (clN ((sh s q).2.2 i) 24)) _ _ (RC_w2 h (G8_ G) hb rfl) (GS_w2 G hb (clN_le _ _ (by decide))) hb e (FrC_3 rfl F) (by omega) ?_
      rw [poS, ev, if_neg h3] at K
      exact K
theorem l_X8_pour {I0 : Im} {X g gs d Q} {s0 : St} {b q : Nat} {u v : Int32} (hu : u = nI b) (hv : v = nI q) (hq : q < 4) : ∀ (n i c : Nat) (s : St) (I : Im) (y z : Option am_V), RM I s → GS s → b < nb s → sh s q = sh s0 q → FrM I0 I → i + n = 6 →
    (∀ v' I' X', OM I0 X (poS (sh s0 q) b n i s c) v' I' X' → am_WP (am_psh g (some (.inl v')) :: gs) (d + 3) (mk I' X') Q) →
    am_WP ((mX8_pour, 36, [some (.inr (.inr (some (8, 0)))), some (.inl u), some (.inl v), some (.inl (nI c)), some (.inl (nI i)), y, z], []) :: g :: gs) (d + 2) (mk I X) Q
  | 0, i, c, s, I, y, z, h, G, hb, e, F, hi, K => w_X8_pour_36 h G hb hq (G.2.2.1 q hq).2 (by omega) hu hv (fun _ => K_s K ⟨rfl, h, F, rfl⟩) (fun _ _ => K_s K ⟨rfl, h, F, rfl⟩) (fun _ hn => absurd (by omega) hn) (fun _ hn => absurd (by omega) hn) (fun _ hn => absurd (by omega) hn) (fun _ hn => absurd (by omega) hn)
  | n + 1, i, c, s, I, y, z, h, G, hb, e, F, hi, K => by
    have bd := ((GS_b G hb).2.2.2.2.2 i (by omega)).2
    refine w_X8_pour_36 h G hb hq (G.2.2.1 q hq).2 (by omega) hu hv ?_ (fun _ hn => absurd hn (by omega)) ?_ ?_ ?_ ?_
    · intro h1
      rw [poS_end _ _ _ _ (by rw [← e]; exact h1)] at K
      exact K_s K ⟨rfl, h, F, rfl⟩
    · intro h0 h1 h2 h3
      have ev : pov (sh s0 q) (bo s b) i = (bo s b).2.2 i := by unfold pov; rw [← e, if_neg (fun z => z.2 h2)]
      refine l_X8_pour hu hv hq n (i + 1) c (w2 s b i ((bo s b).2.2 i)) _ _ _ (RM_w2 h (G8_ G) hb (by omega) rfl) (GS_w2 G hb bd) hb e (FrM_3 rfl F) (by omega) ?_
      rw [poS, ev, if_pos rfl] at K
      exact K
    · intro h0 h1 h2 h3; exact absurd rfl h3
    · intro h0 h1 h2 h3
      have ev : pov (sh s0 q) (bo s b) i = clN ((sh s q).2.2 i) 24 := by unfold pov; rw [← e, if_pos ⟨by omega, h2⟩]
      refine l_X8_pour hu hv hq n (i + 1) c (w2 s b i (clN ((sh s q).2.2 i) 24)) _ _ _ (RM_w2 h (G8_ G) hb (by omega) rfl) (GS_w2 G hb (clN_le _ _ (by decide))) hb e (FrM_3 rfl F) (by omega) ?_
      rw [poS, ev, if_pos h3] at K
      exact K
    · intro h0 h1 h2 h3
      have ev : pov (sh s0 q) (bo s b) i = clN ((sh s q).2.2 i) 24 := by unfold pov; rw [← e, if_pos ⟨by omega, h2⟩]
      refine l_X8_pour hu hv hq n (i + 1) (c + 1) (w2 s b i (clN ((sh s q).2.2 i) 24)) _ _ _ (RM_w2 h (G8_ G) hb (by omega) rfl) (GS_w2 G hb (clN_le _ _ (by decide))) hb e (FrM_3 rfl F) (by omega) ?_
      rw [poS, ev, if_neg h3] at K
      exact K
set_option maxRecDepth 100000 in
set_option maxHeartbeats 4000000 in
theorem w_X7_pour {I : Nat → Nat → Nat → Int32} {X : am_Z} {g : am_F} {gs : List am_F} {d : Nat} {Q : Option am_V → am_M → Prop} {s : St} (h : RC I X s) (G : GS s) {x y : Int32} (k0 : (¬ ((0 : Int32) ≤ x ∧ x ≤ (nI (nb s)) - 1)) → am_WP (am_psh g (some (.inl ((-1000000001)))) :: gs) (d + 4) (mk I X) Q) (k1 : ((0 : Int32) ≤ x ∧ x ≤ (nI (nb s)) - 1) → (¬ ((0 : Int32) ≤ y ∧ y ≤ 3)) → am_WP (am_psh g (some (.inl ((-1000000001)))) :: gs) (d + 4) (mk I X) Q) (k2 : ((0 : Int32) ≤ x ∧ x ≤ (nI (nb s)) - 1) → ((0 : Int32) ≤ y ∧ y ≤ 3) → (((sh s (kx y)).1) = (-1)) → am_WP (am_psh g (some (.inl ((-1000000011)))) :: gs) (d + 4) (mk I X) Q) (k3 : ((0 : Int32) ≤ x ∧ x ≤ (nI (nb s)) - 1) → ((0 : Int32) ≤ y ∧ y ≤ 3) → (¬ ((sh s (kx y)).1) = (-1)) → am_WP ((mX7_pour, 56, [some (.inr (.inr (some (7, 0)))), some (.inl (x)), some (.inl (y)), some (.inr (.inr (some (4, ((kx y)))))), some (.inr (.inr (some (17, ((kx x)))))), some (.inl (0)), some (.inl (0)), none], []) :: g :: gs) (d + 3) (mk I X) Q) : am_WP (am_entry mX7_pour [.inr (.inr (some (7, 0))), .inl (x), .inl (y)] :: g :: gs) (d + 3) (mk I X) Q := by
  have hn8 : nb s ≤ 8 := G.1.1.1
  refine am_go 400 ?_
  have tk0 : I 1 0 3 = nI (nb s) := h.1.1.1
  refine (c_X7_isBottle (x := x)) _ _ _ ?_
  refine am_go 400 ?_
  refine am_if (fun h1 => ?_) (fun h1 => ?_)
  · have h1 := bI_0.mp h1
    have h1 : ¬ ((0 : Int32) ≤ x ∧ x ≤ (I 1 0 3) - 1) := h1
    try rw [tk0] at h1
    exact k0 h1
  · have h1 := bI_1.mp h1
    have h1 : (0 : Int32) ≤ x ∧ x ≤ (I 1 0 3) - 1 := h1
    try rw [tk0] at h1
    obtain ⟨e_x, l_x⟩ := okb rfl hn8 h1
    obtain ⟨g0_x, g1_x, g2_x, g3_x, g5_x, gs_x⟩ := id (GS_b G l_x)
    refine (c_X7_isSheet (x := y)) _ _ _ ?_
    refine am_go 400 ?_
    refine am_if (fun h2 => ?_) (fun h2 => ?_)
    · have h2 := bI_0.mp h2
      exact k1 h1 h2
    · have h2 := bI_1.mp h2
      obtain ⟨e_y, l_y⟩ := okl (m := 3) (by decide) h2
      have z_y : (sh s (kx y)).2.1 ≤ 24 := (G.2.2.1 (kx y) (by omega)).2
      refine am_f (ix_in (n := (kx y)) (N := 4) e_y (by omega) (by decide)) ?_
      have tk1 : (y).toNatClampNeg = (kx y) := ix_cl (n := (kx y)) e_y (by omega)
      have tk2 : I 4 (((y).toNatClampNeg)) 1 = (sh s (kx y)).1 := by first | exact (shC h (k := kx y) (by omega)).1 | (((try rw [tk1])); first | done | exact (shC h (k := kx y) (by omega)).1)
      refine am_if (fun h3 => ?_) (fun h3 => ?_)
      · have h3 : (I 4 (((y).toNatClampNeg)) 1) = (-1) := h3
        try rw [tk2] at h3
        try rw [tk1] at h3
        exact k2 h1 h2 h3
      · have h3 : ¬ (I 4 (((y).toNatClampNeg)) 1) = (-1) := h3
        try rw [tk2] at h3
        try rw [tk1] at h3
        refine am_f (ix_in (n := (kx x)) (N := 8) e_x (by omega) (by decide)) ?_
        have tk3 : (x).toNatClampNeg = (kx x) := ix_cl (n := (kx x)) e_x (by omega)
        refine am_cut ?_
        refine am_go 6 ?_
        show am_WP ((mX7_pour, 56, [some (.inr (.inr (some (7, 0)))), some (.inl (x)), some (.inl (y)), some (.inr (.inr (some (4, ((y).toNatClampNeg))))), some (.inr (.inr (some (17, ((x).toNatClampNeg))))), some (.inl (0)), some (.inl (0)), none], []) :: g :: gs) (d + 3) (mk I X) Q
        try rw [tk3]
        try rw [tk1]
        exact k3 h1 h2 h3
theorem p_X7_pour {I X d s} (h : RC I X s) (G : GS s) (x y : Int32) : Sp mX7_pour [.inr (.inr (some (7, 0))), .inl (x), .inl (y)] (d + 3) I X (OC I X (f_pour s x y)) := fun g gs Q K => by
  have hn8 : nb s ≤ 8 := G.1.1.1
  have g8 : G8 s := G8_ G
  refine w_X7_pour h G  ?_ ?_ ?_ ?_
  · intro h0
    apply K_s K
    unfold f_pour
    rw [if_neg h0]
    exact ⟨rfl, h, FrC_r⟩
  · intro h0 h1
    obtain ⟨e_x, l_x⟩ := okb rfl hn8 h0
    obtain ⟨g0_x, g1_x, g2_x, g3_x, g5_x, gs_x⟩ := id (GS_b G l_x)
    apply K_s K
    unfold f_pour
    rw [if_pos h0, if_neg h1]
    exact ⟨rfl, h, FrC_r⟩
  · intro h0 h1 h2
    obtain ⟨e_x, l_x⟩ := okb rfl hn8 h0
    obtain ⟨g0_x, g1_x, g2_x, g3_x, g5_x, gs_x⟩ := id (GS_b G l_x)
    obtain ⟨e_y, l_y⟩ := okl (m := 3) (by decide) h1
    have z_y : (sh s (kx y)).2.1 ≤ 24 := (G.2.2.1 (kx y) (by omega)).2
    apply K_s K
    unfold f_pour
    rw [if_pos h0, if_pos h1, if_pos h2]
    exact ⟨rfl, h, FrC_r⟩
  · intro h0 h1 h2
    obtain ⟨e_x, l_x⟩ := okb rfl hn8 h0
    obtain ⟨g0_x, g1_x, g2_x, g3_x, g5_x, gs_x⟩ := id (GS_b G l_x)
    obtain ⟨e_y, l_y⟩ := okl (m := 3) (by decide) h1
    have z_y : (sh s (kx y)).2.1 ≤ 24 := (G.2.2.1 (kx y) (by omega)).2
    refine l_X7_pour (s0 := s) (q := kx y) (b := kx x) (by omega) 6 0 0 s I none h G l_x rfl FrC_r rfl ?_
    intro v1 I1 X1 hP
    apply K_s K
    unfold f_pour
    rw [if_pos h0, if_pos h1, if_neg h2]
    exact hP

set_option maxRecDepth 100000 in
set_option maxHeartbeats 4000000 in
theorem w_X8_pour {I : Nat → Nat → Nat → Int32} {X : am_Z} {g : am_F} {gs : List am_F} {d : Nat} {Q : Option am_V → am_M → Prop} {s : St} (h : RM I s) (G : GS s) {x y : Int32} (k0 : (¬ ((0 : Int32) ≤ x ∧ x ≤ (nI (nb s)) - 1)) → am_WP (am_psh g (some (.inl ((-1000000001)))) :: gs) (d + 3) (mk I X) Q) (k1 : ((0 : Int32) ≤ x ∧ x ≤ (nI (nb s)) - 1) → (¬ ((0 : Int32) ≤ y ∧ y ≤ 3)) → am_WP (am_psh g (some (.inl ((-1000000001)))) :: gs) (d + 3) (mk I X) Q) (k2 : ((0 : Int32) ≤ x ∧ x ≤ (nI (nb s)) - 1) → ((0 : Int32) ≤ y ∧ y ≤ 3) → (0 ≤ ((sh s (kx y)).1)) → am_WP ((mX8_pour, 36, [some (.inr (.inr (some (8, 0)))), some (.inl (x)), some (.inl (y)), some (.inl (0)), some (.inl (0)), none, none], []) :: g :: gs) (d + 2) (mk I X) Q) (k3 : ((0 : Int32) ≤ x ∧ x ≤ (nI (nb s)) - 1) → ((0 : Int32) ≤ y ∧ y ≤ 3) → (¬ 0 ≤ ((sh s (kx y)).1)) → am_WP (am_psh g (some (.inl ((-1000000011)))) :: gs) (d + 3) (mk I X) Q) : am_WP (am_entry mX8_pour [.inr (.inr (some (8, 0))), .inl (x), .inl (y)] :: g :: gs) (d + 2) (mk I X) Q := by
  have hn8 : nb s ≤ 8 := G.1.1.1
  refine am_go 400 ?_
  have tk0 : I 30 0 0 = nI (nb s) := h.1.1.1
  refine (c_X8_isBottle (x := x)) _ _ _ ?_
  refine am_go 400 ?_
  refine am_if (fun h1 => ?_) (fun h1 => ?_)
  · have h1 := bI_0.mp h1
    have h1 : ¬ ((0 : Int32) ≤ x ∧ x ≤ (I 30 0 0) - 1) := h1
    try rw [tk0] at h1
    exact k0 h1
  · have h1 := bI_1.mp h1
    have h1 : (0 : Int32) ≤ x ∧ x ≤ (I 30 0 0) - 1 := h1
    try rw [tk0] at h1
    obtain ⟨e_x, l_x⟩ := okb rfl hn8 h1
    obtain ⟨g0_x, g1_x, g2_x, g3_x, g5_x, gs_x⟩ := id (GS_b G l_x)
    refine (c_X8_isSheet (x := y)) _ _ _ ?_
    refine am_go 400 ?_
    refine am_if (fun h2 => ?_) (fun h2 => ?_)
    · have h2 := bI_0.mp h2
      exact k1 h1 h2
    · have h2 := bI_1.mp h2
      obtain ⟨e_y, l_y⟩ := okl (m := 3) (by decide) h2
      have z_y : (sh s (kx y)).2.1 ≤ 24 := (G.2.2.1 (kx y) (by omega)).2
      refine am_f (ix_in (n := (kx y)) (N := 4) e_y (by omega) (by decide)) ?_
      have tk1 : (y).toNatClampNeg = (kx y) := ix_cl (n := (kx y)) e_y (by omega)
      have tk2 : I 33 0 (((y).toNatClampNeg)) = (sh s (kx y)).1 := by first | exact (shM h (k := kx y) (by omega)).1 | (((try rw [tk1])); first | done | exact (shM h (k := kx y) (by omega)).1)
      refine am_if (fun h3 => ?_) (fun h3 => ?_)
      · have h3 : 0 ≤ (I 33 0 (((y).toNatClampNeg))) := h3
        try rw [tk2] at h3
        try rw [tk1] at h3
        refine am_cf rfl ?_
        refine am_cut ?_
        refine am_go 4 ?_
        exact k2 h1 h2 h3
      · have h3 : ¬ 0 ≤ (I 33 0 (((y).toNatClampNeg))) := h3
        try rw [tk2] at h3
        try rw [tk1] at h3
        exact k3 h1 h2 h3
theorem p_X8_pour {I X d s} (h : RM I s) (G : GS s) (x y : Int32) : Sp mX8_pour [.inr (.inr (some (8, 0))), .inl (x), .inl (y)] (d + 2) I X (OM I X (f_pour s x y)) := fun g gs Q K => by
  have hn8 : nb s ≤ 8 := G.1.1.1
  have g8 : G8 s := G8_ G
  refine w_X8_pour h G  ?_ ?_ ?_ ?_
  · intro h0
    apply K_s K
    unfold f_pour
    rw [if_neg h0]
    exact ⟨rfl, h, FrM_r, rfl⟩
  · intro h0 h1
    obtain ⟨e_x, l_x⟩ := okb rfl hn8 h0
    obtain ⟨g0_x, g1_x, g2_x, g3_x, g5_x, gs_x⟩ := id (GS_b G l_x)
    apply K_s K
    unfold f_pour
    rw [if_pos h0, if_neg h1]
    exact ⟨rfl, h, FrM_r, rfl⟩
  · intro h0 h1 h2
    obtain ⟨e_x, l_x⟩ := okb rfl hn8 h0
    obtain ⟨g0_x, g1_x, g2_x, g3_x, g5_x, gs_x⟩ := id (GS_b G l_x)
    obtain ⟨e_y, l_y⟩ := okl (m := 3) (by decide) h1
    have z_y : (sh s (kx y)).2.1 ≤ 24 := (G.2.2.1 (kx y) (by omega)).2
    refine l_X8_pour (s0 := s) e_x e_y (by omega) 6 0 0 s I none none h G l_x rfl FrM_r rfl ?_
    intro v1 I1 X1 hP
    apply K_s K
    unfold f_pour
    rw [if_pos h0, if_pos h1, if_neg ((srt G (k := kx y) (by omega)).mp h2)]
    exact hP
  · intro h0 h1 h2
    obtain ⟨e_x, l_x⟩ := okb rfl hn8 h0
    obtain ⟨g0_x, g1_x, g2_x, g3_x, g5_x, gs_x⟩ := id (GS_b G l_x)
    obtain ⟨e_y, l_y⟩ := okl (m := 3) (by decide) h1
    have z_y : (sh s (kx y)).2.1 ≤ 24 := (G.2.2.1 (kx y) (by omega)).2
    apply K_s K
    unfold f_pour
    rw [if_pos h0, if_pos h1, if_pos (srt2 G (k := kx y) (by omega) h2)]
    exact ⟨rfl, h, FrM_r, rfl⟩

