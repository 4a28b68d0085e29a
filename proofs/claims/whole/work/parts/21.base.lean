/-! WHAT BOTH SIDES COMPUTE, AND THE SMALL METHODS -/
theorem K_v {f : am_F} {gs : List am_F} {d : Nat} {M : am_M} {Q : Option am_V → am_M → Prop} {a b : Int32} (h : a = b) (K : am_WP (am_psh f (some (.inl a)) :: gs) d M Q) : am_WP (am_psh f (some (.inl b)) :: gs) d M Q := h ▸ K
theorem K_m {fs : List am_F} {d : Nat} {M M' : am_M} {Q : Option am_V → am_M → Prop} (h : M = M') (K : am_WP fs d M Q) : am_WP fs d M' Q := h ▸ K
theorem nI_addE {x y : Int32} {a b : Nat} (hx : x = nI a) (hy : y = nI b) : x + y = nI (a + b) := by rw [hx, hy, nI_add]
theorem nI_subE {x y : Int32} {a b : Nat} (hx : x = nI a) (hy : y = nI b) (h : b ≤ a) : x - y = nI (a - b) := by rw [hx, hy, pk_sub h]
theorem nI_mulE {x y : Int32} {a b : Nat} (hx : x = nI a) (hy : y = nI b) : x * y = nI (a * b) := by rw [hx, hy, pk_mul]
theorem ix_in {x : Int32} {n N : Nat} (hx : x = nI n) (h : n < N) (hN : N < 2 ^ 31) : ¬ (x < 0 ∨ N ≤ x.toNatClampNeg) := by rw [hx]; exact nI_in h hN
theorem ix_cl {x : Int32} {n : Nat} (hx : x = nI n) (h : n < 2 ^ 31) : x.toNatClampNeg = n := by rw [hx]; exact nI_clamp h
def wit (v mo : Int32) : Int32 := if v < 0 then 0 else if mo < v then mo else v
theorem c8_within {I X d} (v mo : Int32) : Rt mX8_within [.inl v, .inl mo] d (mk I X) (some (.inl (wit v mo))) (mk I X) := fun g gs Q K =>
  w8_within (fun h1 h2 => K_v (by unfold wit; rw [if_neg (Int32.not_lt.mpr h1), if_neg (Int32.not_lt.mpr h2)]) K) (fun h1 h2 => K_v (by unfold wit; rw [if_neg (Int32.not_lt.mpr h1), if_pos (Int32.not_le.mp h2)]) K) (fun h1 => K_v (by unfold wit; rw [if_pos (Int32.not_le.mp h1)]) K)
theorem c8_of {I X d} {x w : Int32} {k j : Nat} (hx : x = nI k) (hw : w = nI j) (h : 6 + 18 * k + j < 3150) : Rt mX8_of [.inr (.inr (some (8, 0))), .inl x, .inl w] d (mk I X) (some (.inl (I 30 0 (6 + 18 * k + j)))) (mk I X) := fun g gs Q K => by
  have e : (6 + (18 * x)) + w = nI (6 + 18 * k + j) := nI_addE (nI_addE (rfl : (6 : Int32) = nI 6) (nI_mulE (rfl : (18 : Int32) = nI 18) hx)) hw
  exact w8_of (ix_in e h (by decide)) (K_v (by rw [ix_cl e (by omega)]) K)
theorem c8_puts {I X d} {x w v : Int32} {k j : Nat} (hx : x = nI k) (hw : w = nI j) (h : 6 + 18 * k + j < 3150) : Rt mX8_puts [.inr (.inr (some (8, 0))), .inl x, .inl w, .inl v] d (mk I X) none (mk (up3 I 30 0 (6 + 18 * k + j) v) X) := fun g gs Q K => by
  have e : (6 + (18 * x)) + w = nI (6 + 18 * k + j) := nI_addE (nI_addE (rfl : (6 : Int32) = nI 6) (nI_mulE (rfl : (18 : Int32) = nI 18) hx)) hw
  exact w8_puts (ix_in e h (by decide)) (K_m (by rw [ix_cl e (by omega)]) K)
theorem c8_becomes {I X d} {x v : Int32} {j : Nat} (hx : x = nI j) (h : j < 3150) : Rt mX8_becomes [.inr (.inr (some (8, 0))), .inl x, .inl v] d (mk I X) (some (.inl (I 30 0 j))) (mk (up3 I 30 0 j v) X) := fun g gs Q K => by
  refine w8_becomes (ix_in hx h (by decide)) ?_
  rw [ix_cl hx (by omega)]
  exact K
theorem c8_textAt {I X d} {x : Int32} {t : Nat} (hx : x = nI t) : Rt mX8_textAt [.inr (.inr (some (8, 0))), .inl x] d (mk I X) (some (.inl (nI (150 + 200 * t)))) (mk I X) := fun g gs Q K => w8_textAt (K_v (nI_addE (rfl : (150 : Int32) = nI 150) (nI_mulE (rfl : (200 : Int32) = nI 200) hx)).symm K)
/-- a draw -/
def dz (z : Int32) : Int32 := z * 1103515245 + 12345
def dv (z : Int32) : Int32 := ((dz z).toUInt32 >>> ((8 : Int32).toUInt32 &&& Int32.toUInt32 31)).toInt32
theorem c8_drawn {I X d} : Rt mX8_drawn [.inr (.inr (some (8, 0)))] d (mk I X) (some (.inl (dv (I 30 0 5)))) (mk (up3 I 30 0 5 (dz (I 30 0 5))) X) := fun g gs Q K => w8_drawn K
theorem le_nat {x y : Int32} {a b : Nat} (hx : x = nI a) (hy : y = nI b) (ha : a < 2 ^ 31) (hb : b < 2 ^ 31) : x ≤ y ↔ a ≤ b := by rw [hx, hy]; exact nI_leI ha hb
theorem lt_nat {x y : Int32} {a b : Nat} (hx : x = nI a) (hy : y = nI b) (ha : a < 2 ^ 31) (hb : b < 2 ^ 31) : x < y ↔ a < b := by rw [hx, hy]; exact nI_ltI ha hb
theorem eq_nat {x y : Int32} {a b : Nat} (hx : x = nI a) (hy : y = nI b) (ha : a < 2 ^ 31) (hb : b < 2 ^ 31) : x = y ↔ a = b := by rw [hx, hy]; exact nI_eq ha hb
theorem nI_s (i : Nat) : nI i + 1 = nI (i + 1) := nI_1 i
