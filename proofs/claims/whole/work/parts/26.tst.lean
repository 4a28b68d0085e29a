/-! SMALL TESTS, AND PLACES FROM THEM -/
abbrev kx (x : Int32) : Nat := x.toNatClampNeg
theorem nn_nI {x : Int32} (h : 0 ≤ x) : x = nI (kx x) := by
  have h1 : (0 : Int32).toInt ≤ x.toInt := Int32.le_iff_toInt_le.mp h
  have h2 : x.toInt = (kx x : Int) := by
    show x.toInt = ((x.toInt.toNat : Nat) : Int)
    have : (0 : Int32).toInt = 0 := rfl
    omega
  have h3 := Int32.toInt_lt x
  apply Int32.toInt_inj.mp
  rw [h2]
  show _ = (Int32.ofNat (kx x)).toInt
  rw [Int32.toInt_ofNat_of_lt (by omega)]
theorem kx_lt (x : Int32) : kx x < 2 ^ 31 := by
  have h3 := Int32.toInt_lt x
  show x.toInt.toNat < _
  omega
theorem okl {x : Int32} {m : Nat} (hm : m < 2 ^ 31) (h : 0 ≤ x ∧ x ≤ nI m) : x = nI (kx x) ∧ kx x ≤ m := by
  have e := nn_nI h.1
  refine ⟨e, ?_⟩
  have h2 := h.2
  rw [e] at h2
  exact (nI_leI (kx_lt x) hm).mp h2
theorem okr {x : Int32} {lo m : Nat} (hl : lo < 2 ^ 31) (hm : m < 2 ^ 31) (h : nI lo ≤ x ∧ x ≤ nI m) : x = nI (kx x) ∧ lo ≤ kx x ∧ kx x ≤ m := by
  have h0 : (0 : Int32) ≤ x := Int32.le_trans ((nI_leI (by omega) hl).mpr (Nat.zero_le _) : nI 0 ≤ nI lo) h.1
  have := okl hm ⟨h0, h.2⟩
  refine ⟨this.1, ?_, this.2⟩
  have h1 := h.1
  rw [this.1] at h1
  exact (nI_leI hl (kx_lt x)).mp h1
theorem okb {x y : Int32} {n : Nat} (hy : y = nI n) (hn : n ≤ 8) (h : 0 ≤ x ∧ x ≤ y - 1) : x = nI (kx x) ∧ kx x < n := by
  cases n with
  | zero =>
    have h2 := h.2
    rw [hy] at h2
    exact absurd (Int32.le_trans h.1 h2) (by decide)
  | succ n =>
    have := okl (m := n) (by omega) ⟨h.1, by rw [hy] at h; have := h.2; rw [show nI (n + 1) - 1 = nI n from pk_sub (a := n + 1) (b := 1) (by omega)] at this; exact this⟩
    exact ⟨this.1, by omega⟩

set_option maxRecDepth 100000 in
set_option maxHeartbeats 4000000 in
theorem w_X7_isBottle {I : Nat → Nat → Nat → Int32} {X : am_Z} {g : am_F} {gs : List am_F} {d : Nat} {Q : Option am_V → am_M → Prop} {x : Int32} (k0 : am_WP (am_psh g (some (.inl (bI ((0 : Int32) ≤ x ∧ x ≤ ((I 1 0 3) - 1))))) :: gs) (d + 2) (mk I X) Q) : am_WP (am_entry mX7_isBottle [.inr (.inr (some (7, 0))), .inl (x)] :: g :: gs) (d + 1) (mk I X) Q := by
  refine am_go 400 ?_
  refine (c_X7_within (x) (0) (((I 1 0 3) - 1))) _ _ _ ?_
  refine am_go 400 ?_
  refine am_t bI_z ?_
  exact k0
theorem c_X7_isBottle {I X d} {x : Int32} : Rt mX7_isBottle [.inr (.inr (some (7, 0))), .inl (x)] (d + 1) (mk I X) (some (.inl (bI ((0 : Int32) ≤ x ∧ x ≤ I 1 0 3 - 1)))) (mk I X) := fun g gs Q K => w_X7_isBottle K
set_option maxRecDepth 100000 in
set_option maxHeartbeats 4000000 in
theorem w_X7_isLayer {I : Nat → Nat → Nat → Int32} {X : am_Z} {g : am_F} {gs : List am_F} {d : Nat} {Q : Option am_V → am_M → Prop} {x : Int32} (k0 : am_WP (am_psh g (some (.inl (bI ((0 : Int32) ≤ x ∧ x ≤ 5)))) :: gs) (d + 2) (mk I X) Q) : am_WP (am_entry mX7_isLayer [.inl (x)] :: g :: gs) (d + 1) (mk I X) Q := by
  refine am_go 400 ?_
  refine (c_X7_within (x) (0) (5)) _ _ _ ?_
  refine am_go 400 ?_
  refine am_t bI_z ?_
  exact k0
theorem c_X7_isLayer {I X d} {x : Int32} : Rt mX7_isLayer [.inl (x)] (d + 1) (mk I X) (some (.inl (bI ((0 : Int32) ≤ x ∧ x ≤ 5)))) (mk I X) := fun g gs Q K => w_X7_isLayer K
set_option maxRecDepth 100000 in
set_option maxHeartbeats 4000000 in
theorem w_X7_isKind {I : Nat → Nat → Nat → Int32} {X : am_Z} {g : am_F} {gs : List am_F} {d : Nat} {Q : Option am_V → am_M → Prop} {x : Int32} (k0 : am_WP (am_psh g (some (.inl (bI ((0 : Int32) ≤ x ∧ x ≤ 5)))) :: gs) (d + 2) (mk I X) Q) : am_WP (am_entry mX7_isKind [.inl (x)] :: g :: gs) (d + 1) (mk I X) Q := by
  refine am_go 400 ?_
  refine (c_X7_within (x) (0) (5)) _ _ _ ?_
  refine am_go 400 ?_
  refine am_t bI_z ?_
  exact k0
theorem c_X7_isKind {I X d} {x : Int32} : Rt mX7_isKind [.inl (x)] (d + 1) (mk I X) (some (.inl (bI ((0 : Int32) ≤ x ∧ x ≤ 5)))) (mk I X) := fun g gs Q K => w_X7_isKind K
set_option maxRecDepth 100000 in
set_option maxHeartbeats 4000000 in
theorem w_X7_isSheet {I : Nat → Nat → Nat → Int32} {X : am_Z} {g : am_F} {gs : List am_F} {d : Nat} {Q : Option am_V → am_M → Prop} {x : Int32} (k0 : am_WP (am_psh g (some (.inl (bI ((0 : Int32) ≤ x ∧ x ≤ 3)))) :: gs) (d + 2) (mk I X) Q) : am_WP (am_entry mX7_isSheet [.inl (x)] :: g :: gs) (d + 1) (mk I X) Q := by
  refine am_go 400 ?_
  refine (c_X7_within (x) (0) (3)) _ _ _ ?_
  refine am_go 400 ?_
  refine am_t bI_z ?_
  exact k0
theorem c_X7_isSheet {I X d} {x : Int32} : Rt mX7_isSheet [.inl (x)] (d + 1) (mk I X) (some (.inl (bI ((0 : Int32) ≤ x ∧ x ≤ 3)))) (mk I X) := fun g gs Q K => w_X7_isSheet K
set_option maxRecDepth 100000 in
set_option maxHeartbeats 4000000 in
theorem w_X7_isSlot {I : Nat → Nat → Nat → Int32} {X : am_Z} {g : am_F} {gs : List am_F} {d : Nat} {Q : Option am_V → am_M → Prop} {x : Int32} (k0 : am_WP (am_psh g (some (.inl (bI ((0 : Int32) ≤ x ∧ x ≤ 4)))) :: gs) (d + 2) (mk I X) Q) : am_WP (am_entry mX7_isSlot [.inl (x)] :: g :: gs) (d + 1) (mk I X) Q := by
  refine am_go 400 ?_
  refine (c_X7_within (x) (0) (4)) _ _ _ ?_
  refine am_go 400 ?_
  refine am_t bI_z ?_
  exact k0
theorem c_X7_isSlot {I X d} {x : Int32} : Rt mX7_isSlot [.inl (x)] (d + 1) (mk I X) (some (.inl (bI ((0 : Int32) ≤ x ∧ x ≤ 4)))) (mk I X) := fun g gs Q K => w_X7_isSlot K
set_option maxRecDepth 100000 in
set_option maxHeartbeats 4000000 in
theorem w_X8_isBottle {I : Nat → Nat → Nat → Int32} {X : am_Z} {g : am_F} {gs : List am_F} {d : Nat} {Q : Option am_V → am_M → Prop} {x : Int32} (k0 : am_WP (am_psh g (some (.inl (bI ((0 : Int32) ≤ x ∧ x ≤ ((I 30 0 0) - 1))))) :: gs) (d + 2) (mk I X) Q) : am_WP (am_entry mX8_isBottle [.inr (.inr (some (8, 0))), .inl (x)] :: g :: gs) (d + 1) (mk I X) Q := by
  refine am_go 400 ?_
  refine (m_isIn (x) (0) (((I 30 0 0) - 1)) _ _) _ _ _ ?_
  refine am_go 400 ?_
  refine am_t bI_z ?_
  exact k0
theorem c_X8_isBottle {I X d} {x : Int32} : Rt mX8_isBottle [.inr (.inr (some (8, 0))), .inl (x)] (d + 1) (mk I X) (some (.inl (bI ((0 : Int32) ≤ x ∧ x ≤ I 30 0 0 - 1)))) (mk I X) := fun g gs Q K => w_X8_isBottle K
set_option maxRecDepth 100000 in
set_option maxHeartbeats 4000000 in
theorem w_X8_isLayer {I : Nat → Nat → Nat → Int32} {X : am_Z} {g : am_F} {gs : List am_F} {d : Nat} {Q : Option am_V → am_M → Prop} {x : Int32} (k0 : am_WP (am_psh g (some (.inl (bI ((0 : Int32) ≤ x ∧ x ≤ 5)))) :: gs) (d + 2) (mk I X) Q) : am_WP (am_entry mX8_isLayer [.inl (x)] :: g :: gs) (d + 1) (mk I X) Q := by
  refine am_go 400 ?_
  refine (m_isIn (x) (0) (5) _ _) _ _ _ ?_
  refine am_go 400 ?_
  refine am_t bI_z ?_
  exact k0
theorem c_X8_isLayer {I X d} {x : Int32} : Rt mX8_isLayer [.inl (x)] (d + 1) (mk I X) (some (.inl (bI ((0 : Int32) ≤ x ∧ x ≤ 5)))) (mk I X) := fun g gs Q K => w_X8_isLayer K
set_option maxRecDepth 100000 in
set_option maxHeartbeats 4000000 in
theorem w_X8_isForce {I : Nat → Nat → Nat → Int32} {X : am_Z} {g : am_F} {gs : List am_F} {d : Nat} {Q : Option am_V → am_M → Prop} {x : Int32} (k0 : am_WP (am_psh g (some (.inl (bI ((0 : Int32) ≤ x ∧ x ≤ 999)))) :: gs) (d + 2) (mk I X) Q) : am_WP (am_entry mX8_isForce [.inl (x)] :: g :: gs) (d + 1) (mk I X) Q := by
  refine am_go 400 ?_
  refine (m_isIn (x) (0) (999) _ _) _ _ _ ?_
  refine am_go 400 ?_
  refine am_t bI_z ?_
  exact k0
theorem c_X8_isForce {I X d} {x : Int32} : Rt mX8_isForce [.inl (x)] (d + 1) (mk I X) (some (.inl (bI ((0 : Int32) ≤ x ∧ x ≤ 999)))) (mk I X) := fun g gs Q K => w_X8_isForce K
set_option maxRecDepth 100000 in
set_option maxHeartbeats 4000000 in
theorem w_X8_isSheet {I : Nat → Nat → Nat → Int32} {X : am_Z} {g : am_F} {gs : List am_F} {d : Nat} {Q : Option am_V → am_M → Prop} {x : Int32} (k0 : am_WP (am_psh g (some (.inl (bI ((0 : Int32) ≤ x ∧ x ≤ 3)))) :: gs) (d + 2) (mk I X) Q) : am_WP (am_entry mX8_isSheet [.inl (x)] :: g :: gs) (d + 1) (mk I X) Q := by
  refine am_go 400 ?_
  refine (m_isIn (x) (0) (3) _ _) _ _ _ ?_
  refine am_go 400 ?_
  refine am_t bI_z ?_
  exact k0
theorem c_X8_isSheet {I X d} {x : Int32} : Rt mX8_isSheet [.inl (x)] (d + 1) (mk I X) (some (.inl (bI ((0 : Int32) ≤ x ∧ x ≤ 3)))) (mk I X) := fun g gs Q K => w_X8_isSheet K
set_option maxRecDepth 100000 in
set_option maxHeartbeats 4000000 in
theorem w_X8_isSlot {I : Nat → Nat → Nat → Int32} {X : am_Z} {g : am_F} {gs : List am_F} {d : Nat} {Q : Option am_V → am_M → Prop} {x : Int32} (k0 : am_WP (am_psh g (some (.inl (bI ((0 : Int32) ≤ x ∧ x ≤ 4)))) :: gs) (d + 2) (mk I X) Q) : am_WP (am_entry mX8_isSlot [.inl (x)] :: g :: gs) (d + 1) (mk I X) Q := by
  refine am_go 400 ?_
  refine (m_isIn (x) (0) (4) _ _) _ _ _ ?_
  refine am_go 400 ?_
  refine am_t bI_z ?_
  exact k0
theorem c_X8_isSlot {I X d} {x : Int32} : Rt mX8_isSlot [.inl (x)] (d + 1) (mk I X) (some (.inl (bI ((0 : Int32) ≤ x ∧ x ≤ 4)))) (mk I X) := fun g gs Q K => w_X8_isSlot K
set_option maxRecDepth 100000 in
set_option maxHeartbeats 4000000 in
theorem w_X8_isText {I : Nat → Nat → Nat → Int32} {X : am_Z} {g : am_F} {gs : List am_F} {d : Nat} {Q : Option am_V → am_M → Prop} {x : Int32} (k0 : am_WP (am_psh g (some (.inl (bI ((0 : Int32) ≤ x ∧ x ≤ ((I 30 0 1) - 1))))) :: gs) (d + 2) (mk I X) Q) : am_WP (am_entry mX8_isText [.inr (.inr (some (8, 0))), .inl (x)] :: g :: gs) (d + 1) (mk I X) Q := by
  refine am_go 400 ?_
  refine (m_isIn (x) (0) (((I 30 0 1) - 1)) _ _) _ _ _ ?_
  refine am_go 400 ?_
  refine am_t bI_z ?_
  exact k0
theorem c_X8_isText {I X d} {x : Int32} : Rt mX8_isText [.inr (.inr (some (8, 0))), .inl (x)] (d + 1) (mk I X) (some (.inl (bI ((0 : Int32) ≤ x ∧ x ≤ I 30 0 1 - 1)))) (mk I X) := fun g gs Q K => w_X8_isText K
