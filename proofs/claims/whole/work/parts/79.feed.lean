/-! feed -/
def bt (v : Int32) (q : Nat) : Nat := (v.toBitVec >>> q &&& 255#32).toNat
theorem bt_lt (v : Int32) (q : Nat) : bt v q < 256 := by
  unfold bt
  rw [BitVec.toNat_and]
  exact Nat.lt_of_le_of_lt Nat.and_le_right (by decide)
theorem bt_e {w : Int32} {v : Int32} {q : Nat} (h : w.toBitVec = v.toBitVec >>> q &&& 255#32) : w = nI (bt v q) := by
  apply Int32.toBitVec_inj.mp
  rw [h]
  apply BitVec.eq_of_toNat_eq
  show bt v q = (BitVec.ofNat 32 (bt v q)).toNat
  have := bt_lt v q
  rw [BitVec.toNat_ofNat, Nat.mod_eq_of_lt (by omega)]
theorem bt_s (v : BitVec 32) {q : Nat} (hq : q ≤ 24) : v.sshiftRight q &&& 255#32 = v >>> q &&& 255#32 := by
  apply BitVec.eq_of_getLsbD_eq
  intro i hi
  rw [BitVec.getLsbD_and, BitVec.getLsbD_and]
  by_cases h : i < 8
  · rw [BitVec.getLsbD_sshiftRight, BitVec.getLsbD_ushiftRight]
    simp [show ¬ 32 ≤ i by omega, show q + i < 32 by omega]
  · have : (255#32).getLsbD i = false := by
      rw [BitVec.getLsbD_ofNat]
      have : Nat.testBit 255 i = false := by
        apply Nat.testBit_lt_two_pow
        exact Nat.lt_of_lt_of_le (show 255 < 2 ^ 8 by decide) (Nat.pow_le_pow_right (by decide) (by omega))
      rw [this, Bool.and_false]
    rw [this, Bool.and_false, Bool.and_false]
abbrev tpS (s : St) (v : Nat) : St := stT s (tn s + 1, fu s.2.2.2.2.2.2 (tn s) v)
theorem RC_tpS {I : Im} {X s} {v : Nat} {w : Int32} (h : RC I X s) (hv : w = nI v) : RC (up3 (up3 I 23 0 (tn s) w) 3 0 0 (nI (tn s + 1))) X (tpS s v) := by
  refine ⟨h.1, RC_im h.2.1 rfl (fun _ q => q), h.2.2.1, h.2.2.2.1, h.2.2.2.2.1, ⟨?_, fun j hj => ?_⟩, h.2.2.2.2.2.2⟩
  · exact up3_s
  · show up3 (up3 I 23 0 (tn s) w) 3 0 0 (nI (tn s + 1)) 23 0 j = nI (fu s.2.2.2.2.2.2 (tn s) v j)
    rw [up3_g (by decide)]
    by_cases e : j = tn s
    · subst e; rw [up3_s, fu_s, hv]
    · rw [up3_j e, fu_n e]; exact h.2.2.2.2.2.1.2 j (by show j < tn s; have : j < tn s + 1 := hj; omega)
theorem RM_tpS {I : Im} {s} {v : Nat} {w : Int32} (h : RM I s) (hv : w = nI v) : RM (up3 (up3 I 44 0 (tn s) w) 8 0 18 (nI (tn s + 1))) (tpS s v) := by
  refine ⟨h.1, h.2.1, h.2.2.1, h.2.2.2.1, h.2.2.2.2.1, ⟨?_, fun j hj => ?_⟩⟩
  · exact up3_s
  · show up3 (up3 I 44 0 (tn s) w) 8 0 18 (nI (tn s + 1)) 44 0 j = nI (fu s.2.2.2.2.2.2 (tn s) v j)
    rw [up3_g (by decide)]
    by_cases e : j = tn s
    · subst e; rw [up3_s, fu_s, hv]
    · rw [up3_j e, fu_n e]; exact h.2.2.2.2.2.2 j (by show j < tn s; have : j < tn s + 1 := hj; omega)
def bv (a b c : Int32) (i : Nat) : Nat := bt (if i < 4 then a else if i < 8 then b else c) (24 - 8 * (i % 4))
def feS (a b c : Int32) : Nat → Nat → St → St
  | 0, _, s => s
  | n + 1, i, s => feS a b c n (i + 1) (tpS s (bv a b c i))
def f_feed (s : St) (a b c : Int32) : Int32 × St := if tn s + 12 ≤ 96 then (nI (tn (feS a b c 12 0 s)), feS a b c 12 0 s) else (cFULL, s)
set_option maxRecDepth 100000 in
set_option maxHeartbeats 4000000 in
theorem w_X3_putBytes_3 {I : Nat → Nat → Nat → Int32} {X : am_Z} {g : am_F} {gs : List am_F} {d : Nat} {Q : Option am_V → am_M → Prop} {s : St} (h : RC I X s) (h96 : tn s ≤ 96) {v x : Int32} (k0 : (x < 0) → am_WP (am_psh g none :: gs) (d + 1) (mk I X) Q) (k1 : (¬ x < 0) → (96 ≤ (tn s)) → am_WP (am_psh g none :: gs) (d + 1) (mk I X) Q) (k2 : (¬ x < 0) → (¬ (96 ≤ (tn s))) → am_WP ((mX3_putBytes, 3, [some (.inr (.inr (some (3, 0)))), some (.inl (v)), some (.inl ((x + (-8))))], []) :: g :: gs) (d) (mk (up3 (up3 I 23 0 (((tn s))) ((((v : Int32).toUInt32 >>> ((x : Int32).toUInt32 &&& Int32.toUInt32 31)).toInt32 &&& 255))) 3 0 (0) ((nI ((tn s) + 1)))) X) Q) : am_WP ((mX3_putBytes, 3, [some (.inr (.inr (some (3, 0)))), some (.inl (v)), some (.inl (x))], []) :: g :: gs) (d) (mk I X) Q := by
  refine am_go 400 ?_
  refine am_if (fun h1 => ?_) (fun h1 => ?_)
  · exact k0 h1
  · have bd : (tn s) ≤ 96 := (by omega)
    have tk0 : I 3 0 0 = nI (tn s) := h.2.2.2.2.2.1.1
    refine am_if (fun h2 => ?_) (fun h2 => ?_)
    · have nh2 := (le_nat (a := 96) (b := (tn s)) (rfl : (96 : Int32) = nI 96) tk0 (by omega) (by omega)).mp h2
      exact k1 h1 nh2
    · have nh2 := mt (le_nat (a := 96) (b := (tn s)) (rfl : (96 : Int32) = nI 96) tk0 (by omega) (by omega)).mpr h2
      have bd : (tn s) ≤ 96 := (by omega)
      refine am_f (ix_in (n := (tn s)) (N := 96) tk0 (by omega) (by decide)) ?_
      have tk1 : ((I 3 0 0)).toNatClampNeg = (tn s) := by first | exact ix_cl (n := (tn s)) tk0 (by omega) | (((try rw [tk0])); first | done | exact ix_cl (n := (tn s)) tk0 (by omega))
      have tk2 : (up3 I 23 0 ((((I 3 0 0)).toNatClampNeg)) ((((v : Int32).toUInt32 >>> ((x : Int32).toUInt32 &&& Int32.toUInt32 31)).toInt32 &&& 255))) 3 0 0 = nI (tn s) := by first | exact h.2.2.2.2.2.1.1 | (((try rw [tk1]); (try rw [tk0])); first | done | exact h.2.2.2.2.2.1.1)
      have tk3 : (((up3 I 23 0 ((((I 3 0 0)).toNatClampNeg)) ((((v : Int32).toUInt32 >>> ((x : Int32).toUInt32 &&& Int32.toUInt32 31)).toInt32 &&& 255))) 3 0 0) + 1) = nI ((tn s) + 1) := by first | exact (nI_addE tk2 (rfl : (1 : Int32) = nI 1)) | (((try rw [tk2]); (try rw [tk1]); (try rw [tk0])); first | done | exact (nI_addE tk2 (rfl : (1 : Int32) = nI 1)))
      show am_WP ((mX3_putBytes, 3, [some (.inr (.inr (some (3, 0)))), some (.inl (v)), some (.inl ((x + (-8))))], []) :: g :: gs) (d) (mk (up3 (up3 I 23 0 ((((I 3 0 0)).toNatClampNeg)) ((((v : Int32).toUInt32 >>> ((x : Int32).toUInt32 &&& Int32.toUInt32 31)).toInt32 &&& 255))) 3 0 (0) (((((up3 I 23 0 ((((I 3 0 0)).toNatClampNeg)) ((((v : Int32).toUInt32 >>> ((x : Int32).toUInt32 &&& Int32.toUInt32 31)).toInt32 &&& 255))) 3 0 0) + 1)))) X) Q
      try rw [tk3]
      try rw [tk2]
      try rw [tk1]
      try rw [tk0]
      exact k2 h1 nh2
set_option maxRecDepth 100000 in
set_option maxHeartbeats 4000000 in
theorem w_X8_feed_18 {I : Nat → Nat → Nat → Int32} {X : am_Z} {g : am_F} {gs : List am_F} {d : Nat} {Q : Option am_V → am_M → Prop} {y : Option am_V} {s : St} (h : RM I s) {a b c : Int32} {i : Nat} (hi : i ≤ 12) (h96 : tn s + 12 ≤ 96 + i) (k0 : (12 ≤ i) → am_WP (am_psh g (some (.inl ((nI (tn s))))) :: gs) (d + 1) (mk I X) Q) (k1 : (¬ (12 ≤ i)) → (4 ≤ i) → (8 ≤ i) → am_WP ((mX8_feed, 18, [some (.inr (.inr (some (8, 0)))), some (.inl (a)), some (.inl (b)), some (.inl (c)), some (.inl ((nI (i + 1)))), some (.inl (c))], []) :: g :: gs) (d) (mk (up3 (up3 I 44 0 (((tn s))) (((c >>> ((24 - (8 * (nI (i % 4)))) &&& 31)) &&& 255))) 8 0 (18) ((nI ((tn s) + 1)))) X) Q) (k2 : (¬ (12 ≤ i)) → (4 ≤ i) → (¬ (8 ≤ i)) → am_WP ((mX8_feed, 18, [some (.inr (.inr (some (8, 0)))), some (.inl (a)), some (.inl (b)), some (.inl (c)), some (.inl ((nI (i + 1)))), some (.inl (b))], []) :: g :: gs) (d) (mk (up3 (up3 I 44 0 (((tn s))) (((b >>> ((24 - (8 * (nI (i % 4)))) &&& 31)) &&& 255))) 8 0 (18) ((nI ((tn s) + 1)))) X) Q) (k3 : (¬ (12 ≤ i)) → (¬ (4 ≤ i)) → am_WP ((mX8_feed, 18, [some (.inr (.inr (some (8, 0)))), some (.inl (a)), some (.inl (b)), some (.inl (c)), some (.inl ((nI (i + 1)))), some (.inl (a))], []) :: g :: gs) (d) (mk (up3 (up3 I 44 0 (((tn s))) (((a >>> ((24 - (8 * (nI (i % 4)))) &&& 31)) &&& 255))) 8 0 (18) ((nI ((tn s) + 1)))) X) Q) : am_WP ((mX8_feed, 18, [some (.inr (.inr (some (8, 0)))), some (.inl (a)), some (.inl (b)), some (.inl (c)), some (.inl (nI i)), y], []) :: g :: gs) (d) (mk I X) Q := by
  refine am_go 400 ?_
  refine am_if (fun h1 => ?_) (fun h1 => ?_)
  · have nh1 := (le_nat (a := 12) (b := i) (rfl : (12 : Int32) = nI 12) (rfl : (nI i : Int32) = nI i) (by omega) (by omega)).mp h1
    have bd : (tn s) ≤ 96 := (by omega)
    have tk0 : I 8 0 18 = nI (tn s) := h.2.2.2.2.2.1
    show am_WP (am_psh g (some (.inl ((I 8 0 18)))) :: gs) (d + 1) (mk I X) Q
    try rw [tk0]
    exact k0 nh1
  · have nh1 := mt (le_nat (a := 12) (b := i) (rfl : (12 : Int32) = nI 12) (rfl : (nI i : Int32) = nI i) (by omega) (by omega)).mpr h1
    refine am_if (fun h2 => ?_) (fun h2 => ?_)
    · have nh2 := (le_nat (a := 4) (b := i) (rfl : (4 : Int32) = nI 4) (rfl : (nI i : Int32) = nI i) (by omega) (by omega)).mp h2
      refine am_if (fun h3 => ?_) (fun h3 => ?_)
      · have nh3 := (le_nat (a := 8) (b := i) (rfl : (8 : Int32) = nI 8) (rfl : (nI i : Int32) = nI i) (by omega) (by omega)).mp h3
        have bd : (tn s) ≤ 96 := (by omega)
        have tk1 : I 8 0 18 = nI (tn s) := h.2.2.2.2.2.1
        have tk2 : (nI i - nI i / 4 * 4) = nI (i % 4) := remE (rfl : (nI i : Int32) = nI i) (rfl : (4 : Int32) = nI 4) (by omega) (by omega) (by omega)
        have bd : i % 4 < 4 := Nat.mod_lt _ (by omega)
        refine am_f (ix_in (n := (tn s)) (N := 96) tk1 (by omega) (by decide)) ?_
        have tk3 : ((I 8 0 18)).toNatClampNeg = (tn s) := by first | exact ix_cl (n := (tn s)) tk1 (by omega) | (((try rw [tk1])); first | done | exact ix_cl (n := (tn s)) tk1 (by omega))
        have tk4 : (up3 I 44 0 ((((I 8 0 18)).toNatClampNeg)) (((c >>> ((24 - (8 * ((nI i - nI i / 4 * 4)))) &&& 31)) &&& 255))) 8 0 18 = nI (tn s) := by first | exact h.2.2.2.2.2.1 | (((try rw [tk3]); (try rw [tk2]); (try rw [tk1])); first | done | exact h.2.2.2.2.2.1)
        have tk5 : (((up3 I 44 0 ((((I 8 0 18)).toNatClampNeg)) (((c >>> ((24 - (8 * ((nI i - nI i / 4 * 4)))) &&& 31)) &&& 255))) 8 0 18) + 1) = nI ((tn s) + 1) := by first | exact (nI_addE tk4 (rfl : (1 : Int32) = nI 1)) | (((try rw [tk4]); (try rw [tk3]); (try rw [tk2]); (try rw [tk1])); first | done | exact (nI_addE tk4 (rfl : (1 : Int32) = nI 1)))
        have tk6 : (nI i + 1) = nI (i + 1) := (nI_addE rfl (rfl : (1 : Int32) = nI 1))
        show am_WP ((mX8_feed, 18, [some (.inr (.inr (some (8, 0)))), some (.inl (a)), some (.inl (b)), some (.inl (c)), some (.inl (((nI i + 1)))), some (.inl (c))], []) :: g :: gs) (d) (mk (up3 (up3 I 44 0 ((((I 8 0 18)).toNatClampNeg)) (((c >>> ((24 - (8 * ((nI i - nI i / 4 * 4)))) &&& 31)) &&& 255))) 8 0 (18) (((((up3 I 44 0 ((((I 8 0 18)).toNatClampNeg)) (((c >>> ((24 - (8 * ((nI i - nI i / 4 * 4)))) &&& 31)) &&& 255))) 8 0 18) + 1)))) X) Q
        try rw [tk5]
        try rw [tk4]
        try rw [tk3]
        try rw [tk2]
        try rw [tk6]
        try rw [tk1]
        exact k1 nh1 nh2 nh3
      · have nh3 := mt (le_nat (a := 8) (b := i) (rfl : (8 : Int32) = nI 8) (rfl : (nI i : Int32) = nI i) (by omega) (by omega)).mpr h3
        have bd : (tn s) ≤ 96 := (by omega)
        have tk7 : I 8 0 18 = nI (tn s) := h.2.2.2.2.2.1
        have tk8 : (nI i - nI i / 4 * 4) = nI (i % 4) := remE (rfl : (nI i : Int32) = nI i) (rfl : (4 : Int32) = nI 4) (by omega) (by omega) (by omega)
        have bd : i % 4 < 4 := Nat.mod_lt _ (by omega)
        refine am_f (ix_in (n := (tn s)) (N := 96) tk7 (by omega) (by decide)) ?_
        have tk9 : ((I 8 0 18)).toNatClampNeg = (tn s) := by first | exact ix_cl (n := (tn s)) tk7 (by omega) | (((try rw [tk7])); first | done | exact ix_cl (n := (tn s)) tk7 (by omega))
        have tk10 : (up3 I 44 0 ((((I 8 0 18)).toNatClampNeg)) (((b >>> ((24 - (8 * ((nI i - nI i / 4 * 4)))) &&& 31)) &&& 255))) 8 0 18 = nI (tn s) := by first | exact h.2.2.2.2.2.1 | (((try rw [tk9]); (try rw [tk8]); (try rw [tk7])); first | done | exact h.2.2.2.2.2.1)
        have tk11 : (((up3 I 44 0 ((((I 8 0 18)).toNatClampNeg)) (((b >>> ((24 - (8 * ((nI i - nI i / 4 * 4)))) &&& 31)) &&& 255))) 8 0 18) + 1) = nI ((tn s) + 1) := by first | exact (nI_addE tk10 (rfl : (1 : Int32) = nI 1)) | (((try rw [tk10]); (try rw [tk9]); (try rw [tk8]); (try rw [tk7])); first | done | exact (nI_addE tk10 (rfl : (1 : Int32) = nI 1)))
        have tk12 : (nI i + 1) = nI (i + 1) := (nI_addE rfl (rfl : (1 : Int32) = nI 1))
        show am_WP ((mX8_feed, 18, [some (.inr (.inr (some (8, 0)))), some (.inl (a)), some (.inl (b)), some (.inl (c)), some (.inl (((nI i + 1)))), some (.inl (b))], []) :: g :: gs) (d) (mk (up3 (up3 I 44 0 ((((I 8 0 18)).toNatClampNeg)) (((b >>> ((24 - (8 * ((nI i - nI i / 4 * 4)))) &&& 31)) &&& 255))) 8 0 (18) (((((up3 I 44 0 ((((I 8 0 18)).toNatClampNeg)) (((b >>> ((24 - (8 * ((nI i - nI i / 4 * 4)))) &&& 31)) &&& 255))) 8 0 18) + 1)))) X) Q
        try rw [tk11]
        try rw [tk10]
        try rw [tk9]
        try rw [tk8]
        try rw [tk12]
        try rw [tk7]
        exact k2 nh1 nh2 nh3
    · have nh2 := mt (le_nat (a := 4) (b := i) (rfl : (4 : Int32) = nI 4) (rfl : (nI i : Int32) = nI i) (by omega) (by omega)).mpr h2
      have bd : (tn s) ≤ 96 := (by omega)
      have tk13 : I 8 0 18 = nI (tn s) := h.2.2.2.2.2.1
      have tk14 : (nI i - nI i / 4 * 4) = nI (i % 4) := remE (rfl : (nI i : Int32) = nI i) (rfl : (4 : Int32) = nI 4) (by omega) (by omega) (by omega)
      have bd : i % 4 < 4 := Nat.mod_lt _ (by omega)
      refine am_f (ix_in (n := (tn s)) (N := 96) tk13 (by omega) (by decide)) ?_
      have tk15 : ((I 8 0 18)).toNatClampNeg = (tn s) := by first | exact ix_cl (n := (tn s)) tk13 (by omega) | (((try rw [tk13])); first | done | exact ix_cl (n := (tn s)) tk13 (by omega))
      have tk16 : (up3 I 44 0 ((((I 8 0 18)).toNatClampNeg)) (((a >>> ((24 - (8 * ((nI i - nI i / 4 * 4)))) &&& 31)) &&& 255))) 8 0 18 = nI (tn s) := by first | exact h.2.2.2.2.2.1 | (((try rw [tk15]); (try rw [tk14]); (try rw [tk13])); first | done | exact h.2.2.2.2.2.1)
      have tk17 : (((up3 I 44 0 ((((I 8 0 18)).toNatClampNeg)) (((a >>> ((24 - (8 * ((nI i - nI i / 4 * 4)))) &&& 31)) &&& 255))) 8 0 18) + 1) = nI ((tn s) + 1) := by first | exact (nI_addE tk16 (rfl : (1 : Int32) = nI 1)) | (((try rw [tk16]); (try rw [tk15]); (try rw [tk14]); (try rw [tk13])); first | done | exact (nI_addE tk16 (rfl : (1 : Int32) = nI 1)))
      have tk18 : (nI i + 1) = nI (i + 1) := (nI_addE rfl (rfl : (1 : Int32) = nI 1))
      show am_WP ((mX8_feed, 18, [some (.inr (.inr (some (8, 0)))), some (.inl (a)), some (.inl (b)), some (.inl (c)), some (.inl (((nI i + 1)))), some (.inl (a))], []) :: g :: gs) (d) (mk (up3 (up3 I 44 0 ((((I 8 0 18)).toNatClampNeg)) (((a >>> ((24 - (8 * ((nI i - nI i / 4 * 4)))) &&& 31)) &&& 255))) 8 0 (18) (((((up3 I 44 0 ((((I 8 0 18)).toNatClampNeg)) (((a >>> ((24 - (8 * ((nI i - nI i / 4 * 4)))) &&& 31)) &&& 255))) 8 0 18) + 1)))) X) Q
      try rw [tk17]
      try rw [tk16]
      try rw [tk15]
      try rw [tk14]
      try rw [tk18]
      try rw [tk13]
      exact k3 nh1 nh2
set_option maxRecDepth 100000 in
set_option maxHeartbeats 4000000 in
theorem w_X3_putBytes {I : Nat → Nat → Nat → Int32} {X : am_Z} {g : am_F} {gs : List am_F} {d : Nat} {Q : Option am_V → am_M → Prop} {v : Int32} (k0 : am_WP ((mX3_putBytes, 3, [some (.inr (.inr (some (3, 0)))), some (.inl (v)), some (.inl (24))], []) :: g :: gs) (d) (mk I X) Q) : am_WP (am_entry mX3_putBytes [.inr (.inr (some (3, 0))), .inl (v)] :: g :: gs) (d) (mk I X) Q := by
  refine am_go 2 ?_
  exact k0
theorem bt_24 {v : Int32} : ((v : Int32).toUInt32 >>> ((24 : Int32).toUInt32 &&& Int32.toUInt32 31)).toInt32 &&& 255 = nI (bt v 24) := bt_e rfl
theorem bt_16 {v : Int32} : ((v : Int32).toUInt32 >>> ((16 : Int32).toUInt32 &&& Int32.toUInt32 31)).toInt32 &&& 255 = nI (bt v 16) := bt_e rfl
theorem bt_8 {v : Int32} : ((v : Int32).toUInt32 >>> ((8 : Int32).toUInt32 &&& Int32.toUInt32 31)).toInt32 &&& 255 = nI (bt v 8) := bt_e rfl
theorem bt_0 {v : Int32} : ((v : Int32).toUInt32 >>> ((0 : Int32).toUInt32 &&& Int32.toUInt32 31)).toInt32 &&& 255 = nI (bt v 0) := bt_e rfl
theorem bm_a {v y : Int32} {q : Nat} (hy : (BitVec.smod y.toBitVec 32).toNat = q) (hq : q ≤ 24) : (v >>> y) &&& 255 = nI (bt v q) := bt_e (by
  show (v.toBitVec.sshiftRight (BitVec.smod y.toBitVec 32).toNat) &&& 255#32 = _
  rw [hy]; exact bt_s v.toBitVec hq)
theorem bm_i {v : Int32} {r : Nat} (hr : r < 4) : (v >>> ((24 - (8 * (nI r))) &&& 31)) &&& 255 = nI (bt v (24 - 8 * r)) := by
  match r, hr with
  | 0, _ => exact bm_a (by decide) (by decide)
  | 1, _ => exact bm_a (by decide) (by decide)
  | 2, _ => exact bm_a (by decide) (by decide)
  | 3, _ => exact bm_a (by decide) (by decide)
def tp4 (s : St) (v : Int32) : St := tpS (tpS (tpS (tpS s (bt v 24)) (bt v 16)) (bt v 8)) (bt v 0)
theorem l_put {I : Im} {X g gs d Q} {s : St} (h : RC I X s) {v x : Int32} {q : Nat} (hq : ((v : Int32).toUInt32 >>> ((x : Int32).toUInt32 &&& Int32.toUInt32 31)).toInt32 &&& 255 = nI (bt v q)) (hx : ¬ x < 0) (h96 : tn s < 96)
    (K : ∀ I', RC I' X (tpS s (bt v q)) → FrC I X I' X → am_WP ((mX3_putBytes, 3, [some (.inr (.inr (some (3, 0)))), some (.inl v), some (.inl (x + (-8)))], []) :: g :: gs) d (mk I' X) Q) :
    am_WP ((mX3_putBytes, 3, [some (.inr (.inr (some (3, 0)))), some (.inl v), some (.inl x)], []) :: g :: gs) d (mk I X) Q :=
  w_X3_putBytes_3 h (by omega) (fun e => absurd e hx) (fun _ e => absurd e (by omega)) (fun _ _ => K _ (RC_tpS h hq) (FrC_3 rfl (FrC_3 rfl FrC_r)))
theorem c_X3_putBytes {I : Im} {X d} {s : St} (h : RC I X s) {v : Int32} (h96 : tn s + 4 ≤ 96) : Sw mX3_putBytes [.inr (.inr (some (3, 0))), .inl v] d I X none (fun I' => RC I' X (tp4 s v) ∧ FrC I X I' X) := fun g gs Q K => by
  refine w_X3_putBytes ?_
  refine l_put h bt_24 (by decide) (by omega) (fun I1 r1 f1 => ?_)
  rw [show (24 : Int32) + (-8) = 16 by decide]
  refine l_put r1 bt_16 (by decide) (by show tn s + 1 < 96; omega) (fun I2 r2 f2 => ?_)
  rw [show (16 : Int32) + (-8) = 8 by decide]
  refine l_put r2 bt_8 (by decide) (by show tn s + 1 + 1 < 96; omega) (fun I3 r3 f3 => ?_)
  rw [show (8 : Int32) + (-8) = 0 by decide]
  refine l_put r3 bt_0 (by decide) (by show tn s + 1 + 1 + 1 < 96; omega) (fun I4 r4 f4 => ?_)
  rw [show (0 : Int32) + (-8) = -8 by decide]
  exact w_X3_putBytes_3 r4 (by show tn s + 1 + 1 + 1 + 1 ≤ 96; omega) (fun _ => K I4 ⟨r4, FrC_tr f1 (FrC_tr f2 (FrC_tr f3 f4))⟩) (fun e => absurd (by decide) e) (fun e => absurd (by decide) e)
theorem l_feed {I0 : Im} {X g gs d Q} {a b c : Int32} {s0 : St} : ∀ (n i : Nat) (s : St) (I : Im) (y : Option am_V), i + n = 12 → RM I s → FrM I0 I → tn s + n ≤ 96 →
    (∀ I', RM I' (feS a b c n i s) ∧ FrM I0 I' → am_WP (am_psh g (some (.inl (nI (tn (feS a b c n i s))))) :: gs) (d + 1) (mk I' X) Q) →
    am_WP ((mX8_feed, 18, [some (.inr (.inr (some (8, 0)))), some (.inl a), some (.inl b), some (.inl c), some (.inl (nI i)), y], []) :: g :: gs) d (mk I X) Q
  | 0, i, s, I, y, hi, h, F, h96, K => w_X8_feed_18 h (by omega) (by omega) (fun _ => K I ⟨h, F⟩) (fun e => absurd (by omega) e) (fun e => absurd (by omega) e) (fun e => absurd (by omega) e)
  | n + 1, i, s, I, y, hi, h, F, h96, K => by
    have hr : i % 4 < 4 := by omega
    have go : ∀ (v : Int32), bt v (24 - 8 * (i % 4)) = bv a b c i → am_WP ((mX8_feed, 18, [some (.inr (.inr (some (8, 0)))), some (.inl a), some (.inl b), some (.inl c), some (.inl (nI (i + 1))), some (.inl v)], []) :: g :: gs) d (mk (up3 (up3 I 44 0 (tn s) ((v >>> ((24 - (8 * (nI (i % 4)))) &&& 31)) &&& 255)) 8 0 18 (nI (tn s + 1))) X) Q := fun v e =>
      l_feed (s0 := s0) n (i + 1) (tpS s (bv a b c i)) _ _ (by omega) (RM_tpS h (e ▸ bm_i hr)) (FrM_3 rfl (FrM_3 rfl F)) (by show tn s + 1 + n ≤ 96; omega) K
    exact w_X8_feed_18 h (by omega) (by omega) (fun e => absurd e (by omega)) (fun _ q1 q2 => go c (by unfold bv; rw [if_neg (by omega), if_neg (by omega)])) (fun _ q1 q2 => go b (by unfold bv; rw [if_neg (by omega), if_pos (by omega)])) (fun _ q1 => go a (by unfold bv; rw [if_pos (by omega)]))
theorem feS_4 {a b c s} : feS a b c 12 0 s = tp4 (tp4 (tp4 s a) b) c := rfl
set_option maxRecDepth 100000 in
set_option maxHeartbeats 4000000 in
theorem w_X7_feed {I : Nat → Nat → Nat → Int32} {X : am_Z} {g : am_F} {gs : List am_F} {d : Nat} {Q : Option am_V → am_M → Prop} {s : St} (h : RC I X s) (G : GS s) {a b c : Int32} (k0 : (((tn s) + 12) ≤ 96) → ∀ (I1 : Im), (RC I1 X (tp4 s a) ∧ FrC I X I1 X) → ∀ (I2 : Im), (RC I2 X (tp4 (tp4 s a) b) ∧ FrC I1 X I2 X) → ∀ (I3 : Im), (RC I3 X (tp4 (tp4 (tp4 s a) b) c) ∧ FrC I2 X I3 X) → am_WP (am_psh g (some (.inl ((nI (tn (tp4 (tp4 (tp4 s a) b) c)))))) :: gs) (d + 2) (mk I3 X) Q) (k1 : (¬ (((tn s) + 12) ≤ 96)) → am_WP (am_psh g (some (.inl ((-1000000003)))) :: gs) (d + 2) (mk I X) Q) : am_WP (am_entry mX7_feed [.inr (.inr (some (7, 0))), .inl (a), .inl (b), .inl (c)] :: g :: gs) (d + 1) (mk I X) Q := by
  have hn8 : nb s ≤ 8 := G.1.1.1
  refine am_go 400 ?_
  have bd : (tn s) ≤ 96 := G.2.2.2.2.2.1
  have tk0 : I 3 0 0 = nI (tn s) := h.2.2.2.2.2.1.1
  refine am_if (fun h1 => ?_) (fun h1 => ?_)
  · have nh1 := (le_nat (a := ((tn s) + 12)) (b := 96) (nI_addE tk0 (rfl : (12 : Int32) = nI 12)) (rfl : (96 : Int32) = nI 96) (by omega) (by omega)).mp h1
    refine (c_X3_putBytes (I := I) (s := s) h (v := a) (by show tn s  + 4 ≤ 96; omega)) _ _ _ ?_
    intro I1 p1
    refine am_go 400 ?_
    refine (c_X3_putBytes (I := I1) (s := (tp4 s a)) p1.1 (v := b) (by show tn s + 1 + 1 + 1 + 1  + 4 ≤ 96; omega)) _ _ _ ?_
    intro I2 p2
    refine am_go 400 ?_
    refine (c_X3_putBytes (I := I2) (s := (tp4 (tp4 s a) b)) p2.1 (v := c) (by show tn s + 1 + 1 + 1 + 1 + 1 + 1 + 1 + 1  + 4 ≤ 96; omega)) _ _ _ ?_
    intro I3 p3
    refine am_go 400 ?_
    have tk1 : I3 3 0 0 = nI (tn (tp4 (tp4 (tp4 s a) b) c)) := p3.1.2.2.2.2.2.1.1
    show am_WP (am_psh g (some (.inl ((I3 3 0 0)))) :: gs) (d + 2) (mk I3 X) Q
    try rw [tk1]
    exact k0 nh1 I1 p1 I2 p2 I3 p3
  · have nh1 := mt (le_nat (a := ((tn s) + 12)) (b := 96) (nI_addE tk0 (rfl : (12 : Int32) = nI 12)) (rfl : (96 : Int32) = nI 96) (by omega) (by omega)).mpr h1
    exact k1 nh1
theorem p_X7_feed {I X d s} (h : RC I X s) (G : GS s) (a b c : Int32) : Sp mX7_feed [.inr (.inr (some (7, 0))), .inl (a), .inl (b), .inl (c)] (d + 1) I X (OC I X (f_feed s a b c)) := fun g gs Q K => by
  have hn8 : nb s ≤ 8 := G.1.1.1
  have g8 : G8 s := G8_ G
  refine w_X7_feed h G  ?_ ?_
  · intro h0 I1 p1 I2 p2 I3 p3
    apply K_s K
    unfold f_feed
    rw [if_pos h0, feS_4]
    exact ⟨rfl, p3.1, FrC_tr p1.2 (FrC_tr p2.2 p3.2)⟩
  · intro h0
    apply K_s K
    unfold f_feed
    rw [if_neg h0]
    exact ⟨rfl, h, FrC_r⟩

set_option maxRecDepth 100000 in
set_option maxHeartbeats 4000000 in
theorem w_X8_feed {I : Nat → Nat → Nat → Int32} {X : am_Z} {g : am_F} {gs : List am_F} {d : Nat} {Q : Option am_V → am_M → Prop} {s : St} (h : RM I s) (G : GS s) {a b c : Int32} (k0 : (((tn s) + 12) ≤ 96) → am_WP ((mX8_feed, 18, [some (.inr (.inr (some (8, 0)))), some (.inl (a)), some (.inl (b)), some (.inl (c)), some (.inl (0)), none], []) :: g :: gs) (d) (mk I X) Q) (k1 : (¬ (((tn s) + 12) ≤ 96)) → am_WP (am_psh g (some (.inl ((-1000000003)))) :: gs) (d + 1) (mk I X) Q) : am_WP (am_entry mX8_feed [.inr (.inr (some (8, 0))), .inl (a), .inl (b), .inl (c)] :: g :: gs) (d) (mk I X) Q := by
  have hn8 : nb s ≤ 8 := G.1.1.1
  refine am_go 400 ?_
  have bd : (tn s) ≤ 96 := G.2.2.2.2.2.1
  have tk0 : I 8 0 18 = nI (tn s) := h.2.2.2.2.2.1
  refine am_if (fun h1 => ?_) (fun h1 => ?_)
  · have nh1 := (le_nat (a := ((tn s) + 12)) (b := 96) (nI_addE tk0 (rfl : (12 : Int32) = nI 12)) (rfl : (96 : Int32) = nI 96) (by omega) (by omega)).mp h1
    refine am_cf rfl ?_
    refine am_cut ?_
    refine am_go 2 ?_
    exact k0 nh1
  · have nh1 := mt (le_nat (a := ((tn s) + 12)) (b := 96) (nI_addE tk0 (rfl : (12 : Int32) = nI 12)) (rfl : (96 : Int32) = nI 96) (by omega) (by omega)).mpr h1
    exact k1 nh1
theorem p_X8_feed {I X d s} (h : RM I s) (G : GS s) (a b c : Int32) : Sp mX8_feed [.inr (.inr (some (8, 0))), .inl (a), .inl (b), .inl (c)] (d + 0) I X (OM I X (f_feed s a b c)) := fun g gs Q K => by
  have hn8 : nb s ≤ 8 := G.1.1.1
  have g8 : G8 s := G8_ G
  refine w_X8_feed h G  ?_ ?_
  · intro h0
    refine l_feed (I0 := I) (s0 := s) 12 0 s I none rfl h FrM_r h0 ?_
    intro I1 p1
    apply K_s K
    unfold f_feed
    rw [if_pos h0]
    generalize feS a b c 12 0 s = s1 at p1
    exact ⟨rfl, p1.1, p1.2, rfl⟩
  · intro h0
    apply K_s K
    unfold f_feed
    rw [if_neg h0]
    exact ⟨rfl, h, FrM_r, rfl⟩

