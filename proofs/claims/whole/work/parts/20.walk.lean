set_option maxRecDepth 100000 in
set_option maxHeartbeats 4000000 in
theorem w8_within {I : Nat → Nat → Nat → Int32} {X : am_Z} {g : am_F} {gs : List am_F} {d : Nat} {Q : Option am_V → am_M → Prop} {v mo : Int32} (k0 : (0 ≤ v) → (v ≤ mo) → am_WP (am_psh g (some (.inl (v))) :: gs) (d + 1) (mk I X) Q) (k1 : (0 ≤ v) → (¬ v ≤ mo) → am_WP (am_psh g (some (.inl (mo))) :: gs) (d + 1) (mk I X) Q) (k2 : (¬ 0 ≤ v) → am_WP (am_psh g (some (.inl (0))) :: gs) (d + 1) (mk I X) Q) : am_WP (am_entry mX8_within [.inl (v), .inl (mo)] :: g :: gs) (d) (mk I X) Q := by
  refine am_go 400 ?_
  refine am_if (fun h1 => ?_) (fun h1 => ?_)
  · refine am_if (fun h2 => ?_) (fun h2 => ?_)
    · exact k0 h1 h2
    · exact k1 h1 h2
  · exact k2 h1
set_option maxRecDepth 100000 in
set_option maxHeartbeats 4000000 in
theorem w8_orNone {I : Nat → Nat → Nat → Int32} {X : am_Z} {g : am_F} {gs : List am_F} {d : Nat} {Q : Option am_V → am_M → Prop} {v : Int32} (k0 : (0 ≤ v) → am_WP (am_psh g (some (.inl (v))) :: gs) (d + 1) (mk I X) Q) (k1 : (¬ 0 ≤ v) → am_WP (am_psh g (some (.inl ((-1000000005)))) :: gs) (d + 1) (mk I X) Q) : am_WP (am_entry mX8_orNone [.inl (v)] :: g :: gs) (d) (mk I X) Q := by
  refine am_go 400 ?_
  refine am_if (fun h1 => ?_) (fun h1 => ?_)
  · exact k0 h1
  · exact k1 h1
set_option maxRecDepth 100000 in
set_option maxHeartbeats 4000000 in
theorem w8_off {I : Nat → Nat → Nat → Int32} {X : am_Z} {g : am_F} {gs : List am_F} {d : Nat} {Q : Option am_V → am_M → Prop} {x y : Int32} (k0 : (y ≤ x) → am_WP (am_psh g (some (.inl ((x - y)))) :: gs) (d + 1) (mk I X) Q) (k1 : (¬ y ≤ x) → am_WP (am_psh g (some (.inl ((y - x)))) :: gs) (d + 1) (mk I X) Q) : am_WP (am_entry mX8_off [.inl (x), .inl (y)] :: g :: gs) (d) (mk I X) Q := by
  refine am_go 400 ?_
  refine am_if (fun h1 => ?_) (fun h1 => ?_)
  · exact k0 h1
  · exact k1 h1
set_option maxRecDepth 100000 in
set_option maxHeartbeats 4000000 in
theorem w8_becomes {I : Nat → Nat → Nat → Int32} {X : am_Z} {g : am_F} {gs : List am_F} {d : Nat} {Q : Option am_V → am_M → Prop} {x v : Int32} (b0 : ¬ (x < 0 ∨ 3150 ≤ (x).toNatClampNeg)) (k0 : am_WP (am_psh g (some (.inl ((I 30 0 ((x).toNatClampNeg))))) :: gs) (d + 1) (mk (up3 I 30 0 ((x).toNatClampNeg) (v)) X) Q) : am_WP (am_entry mX8_becomes [.inr (.inr (some (8, 0))), .inl (x), .inl (v)] :: g :: gs) (d) (mk I X) Q := by
  refine am_go 400 ?_
  refine am_f (b0) ?_
  refine am_f (b0) ?_
  exact k0
set_option maxRecDepth 100000 in
set_option maxHeartbeats 4000000 in
theorem w8_textAt {I : Nat → Nat → Nat → Int32} {X : am_Z} {g : am_F} {gs : List am_F} {d : Nat} {Q : Option am_V → am_M → Prop} {x : Int32} (k0 : am_WP (am_psh g (some (.inl ((150 + (200 * x))))) :: gs) (d + 1) (mk I X) Q) : am_WP (am_entry mX8_textAt [.inr (.inr (some (8, 0))), .inl (x)] :: g :: gs) (d) (mk I X) Q := by
  refine am_go 400 ?_
  exact k0
set_option maxRecDepth 100000 in
set_option maxHeartbeats 4000000 in
theorem w8_of {I : Nat → Nat → Nat → Int32} {X : am_Z} {g : am_F} {gs : List am_F} {d : Nat} {Q : Option am_V → am_M → Prop} {x w : Int32} (b0 : ¬ (((6 + (18 * x)) + w) < 0 ∨ 3150 ≤ (((6 + (18 * x)) + w)).toNatClampNeg)) (k0 : am_WP (am_psh g (some (.inl ((I 30 0 ((((6 + (18 * x)) + w)).toNatClampNeg))))) :: gs) (d + 1) (mk I X) Q) : am_WP (am_entry mX8_of [.inr (.inr (some (8, 0))), .inl (x), .inl (w)] :: g :: gs) (d) (mk I X) Q := by
  refine am_go 400 ?_
  refine am_f (b0) ?_
  exact k0
set_option maxRecDepth 100000 in
set_option maxHeartbeats 4000000 in
theorem w8_puts {I : Nat → Nat → Nat → Int32} {X : am_Z} {g : am_F} {gs : List am_F} {d : Nat} {Q : Option am_V → am_M → Prop} {x w v : Int32} (b0 : ¬ (((6 + (18 * x)) + w) < 0 ∨ 3150 ≤ (((6 + (18 * x)) + w)).toNatClampNeg)) (k0 : am_WP (am_psh g none :: gs) (d + 1) (mk (up3 I 30 0 ((((6 + (18 * x)) + w)).toNatClampNeg) (v)) X) Q) : am_WP (am_entry mX8_puts [.inr (.inr (some (8, 0))), .inl (x), .inl (w), .inl (v)] :: g :: gs) (d) (mk I X) Q := by
  refine am_go 400 ?_
  refine am_f (b0) ?_
  exact k0
set_option maxRecDepth 100000 in
set_option maxHeartbeats 4000000 in
theorem w8_isBottle {I : Nat → Nat → Nat → Int32} {X : am_Z} {g : am_F} {gs : List am_F} {d : Nat} {Q : Option am_V → am_M → Prop} {x : Int32} (k0 : am_WP (am_psh g (some (.inl (bI ((0 : Int32) ≤ x ∧ x ≤ ((I 30 0 0) - 1))))) :: gs) (d + 2) (mk I X) Q) : am_WP (am_entry mX8_isBottle [.inr (.inr (some (8, 0))), .inl (x)] :: g :: gs) (d + 1) (mk I X) Q := by
  refine am_go 400 ?_
  refine (m_isIn (x) (0) (((I 30 0 0) - 1)) _ _) _ _ _ ?_
  refine am_go 400 ?_
  refine am_t bI_z ?_
  exact k0
set_option maxRecDepth 100000 in
set_option maxHeartbeats 4000000 in
theorem w8_drawn {I : Nat → Nat → Nat → Int32} {X : am_Z} {g : am_F} {gs : List am_F} {d : Nat} {Q : Option am_V → am_M → Prop}  (k0 : am_WP (am_psh g (some (.inl ((((((I 30 0 5) * 1103515245) + 12345) : Int32).toUInt32 >>> ((8 : Int32).toUInt32 &&& Int32.toUInt32 31)).toInt32))) :: gs) (d + 1) (mk (up3 I 30 0 (5) ((((I 30 0 5) * 1103515245) + 12345))) X) Q) : am_WP (am_entry mX8_drawn [.inr (.inr (some (8, 0)))] :: g :: gs) (d) (mk I X) Q := by
  refine am_go 400 ?_
  exact k0
set_option maxRecDepth 100000 in
set_option maxHeartbeats 4000000 in
theorem w0_grips {I : Nat → Nat → Nat → Int32} {X : am_Z} {g : am_F} {gs : List am_F} {d : Nat} {Q : Option am_V → am_M → Prop} {q : Nat} {l : Int32} (b0 : ¬ (l < 0 ∨ 6 ≤ (l).toNatClampNeg)) (k0 : ((I 0 q 2) = 2) → am_WP (am_psh g (some (.inl (((if ((I 17 q ((l).toNatClampNeg)) - (3 * (I 0 q 7))) < 0 then 0 else ((I 17 q ((l).toNatClampNeg)) - (3 * (I 0 q 7)))) + 3)))) :: gs) (d + 1) (mk I X) Q) (k1 : (¬ (I 0 q 2) = 2) → ((I 0 q 2) = 3) → am_WP (am_psh g (some (.inl ((if ((if ((I 17 q ((l).toNatClampNeg)) - (3 * (I 0 q 7))) < 0 then 0 else ((I 17 q ((l).toNatClampNeg)) - (3 * (I 0 q 7)))) - 4) < 0 then 0 else ((if ((I 17 q ((l).toNatClampNeg)) - (3 * (I 0 q 7))) < 0 then 0 else ((I 17 q ((l).toNatClampNeg)) - (3 * (I 0 q 7)))) - 4))))) :: gs) (d + 1) (mk I X) Q) (k2 : (¬ (I 0 q 2) = 2) → (¬ (I 0 q 2) = 3) → ((I 0 q 2) = 4) → am_WP (am_psh g (some (.inl (((if ((I 17 q ((l).toNatClampNeg)) - (3 * (I 0 q 7))) < 0 then 0 else ((I 17 q ((l).toNatClampNeg)) - (3 * (I 0 q 7)))) + 4)))) :: gs) (d + 1) (mk I X) Q) (k3 : (¬ (I 0 q 2) = 2) → (¬ (I 0 q 2) = 3) → (¬ (I 0 q 2) = 4) → ((I 0 q 2) = 5) → am_WP (am_psh g (some (.inl (((if ((I 17 q ((l).toNatClampNeg)) - (3 * (I 0 q 7))) < 0 then 0 else ((I 17 q ((l).toNatClampNeg)) - (3 * (I 0 q 7)))) / 2)))) :: gs) (d + 1) (mk I X) Q) (k4 : (¬ (I 0 q 2) = 2) → (¬ (I 0 q 2) = 3) → (¬ (I 0 q 2) = 4) → (¬ (I 0 q 2) = 5) → am_WP (am_psh g (some (.inl ((if ((I 17 q ((l).toNatClampNeg)) - (3 * (I 0 q 7))) < 0 then 0 else ((I 17 q ((l).toNatClampNeg)) - (3 * (I 0 q 7))))))) :: gs) (d + 1) (mk I X) Q) : am_WP (am_entry mX0_grips [.inr (.inr (some (0, q))), .inl (l)] :: g :: gs) (d) (mk I X) Q := by
  refine am_go 400 ?_
  refine am_f (b0) ?_
  refine am_if (fun h1 => ?_) (fun h1 => ?_)
  · exact k0 h1
  refine am_if (fun h2 => ?_) (fun h2 => ?_)
  · exact k1 h1 h2
  refine am_if (fun h3 => ?_) (fun h3 => ?_)
  · exact k2 h1 h2 h3
  refine am_if (fun h4 => ?_) (fun h4 => ?_)
  · exact k3 h1 h2 h3 h4
  exact k4 h1 h2 h3 h4
set_option maxRecDepth 100000 in
set_option maxHeartbeats 4000000 in
theorem w7_turns {I : Nat → Nat → Nat → Int32} {X : am_Z} {g : am_F} {gs : List am_F} {d : Nat} {Q : Option am_V → am_M → Prop} {x y : Int32} (b0 : (¬ x < 0) → (¬ ((I 1 0 3) - 1) < x) → (¬ y < 0) → (¬ 5 < y) → ¬ (x < 0 ∨ 8 ≤ (x).toNatClampNeg)) (k0 : (x < 0) → am_WP (am_psh g (some (.inl ((-1000000001)))) :: gs) (d + 4) (mk I X) Q) (k1 : (¬ x < 0) → (((I 1 0 3) - 1) < x) → am_WP (am_psh g (some (.inl ((-1000000001)))) :: gs) (d + 4) (mk I X) Q) (k2 : (¬ x < 0) → (¬ ((I 1 0 3) - 1) < x) → (y < 0) → am_WP (am_psh g (some (.inl ((-1000000001)))) :: gs) (d + 4) (mk I X) Q) (k3 : (¬ x < 0) → (¬ ((I 1 0 3) - 1) < x) → (¬ y < 0) → (5 < y) → am_WP (am_psh g (some (.inl ((-1000000001)))) :: gs) (d + 4) (mk I X) Q) (k4 : (¬ x < 0) → (¬ ((I 1 0 3) - 1) < x) → (¬ y < 0) → (¬ 5 < y) → am_WP (am_psh g (some (.inl ((I 0 ((x).toNatClampNeg) 2)))) :: gs) (d + 4) (mk (up3 I 0 ((x).toNatClampNeg) (2) (y)) X) Q) : am_WP (am_entry mX7_turns [.inr (.inr (some (7, 0))), .inl (x), .inl (y)] :: g :: gs) (d + 3) (mk I X) Q := by
  refine am_go 400 ?_
  refine am_go 400 ?_
  refine am_go 400 ?_
  refine am_if (fun h1 => ?_) (fun h1 => ?_)
  · refine am_go 400 ?_
    refine am_go 400 ?_
    exact k0 h1
  · refine am_if (fun h2 => ?_) (fun h2 => ?_)
    · refine am_go 400 ?_
      refine am_go 400 ?_
      exact k1 h1 h2
    · refine am_go 400 ?_
      refine am_go 400 ?_
      refine am_go 400 ?_
      refine am_go 400 ?_
      refine am_if (fun h3 => ?_) (fun h3 => ?_)
      · refine am_go 400 ?_
        refine am_go 400 ?_
        exact k2 h1 h2 h3
      · refine am_if (fun h4 => ?_) (fun h4 => ?_)
        · refine am_go 400 ?_
          refine am_go 400 ?_
          exact k3 h1 h2 h3 h4
        · refine am_go 400 ?_
          refine am_go 400 ?_
          refine am_f (b0 h1 h2 h3 h4) ?_
          exact k4 h1 h2 h3 h4
