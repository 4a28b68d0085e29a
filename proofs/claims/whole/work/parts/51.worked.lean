set_option maxRecDepth 100000 in
set_option maxHeartbeats 4000000 in
theorem w_worked_num {I : Nat → Nat → Nat → Int32} {X : am_Z} {g : am_F} {gs : List am_F} {d : Nat} {Q : Option am_V → am_M → Prop} {t k L : Nat} (ht : t < 15) (hk : k < L) (h96 : L ≤ 96) {x : Int32} (hx : x = nI t) (hL : I 30 0 (150 + 200 * t + 2) = nI L) {f : Nat → Int32} {y z : Option am_V} {n v : Nat} (hv : v ≤ 9999) (hn : n < 100) (hwh : I 30 0 (150 + 200 * t + 4 + 2 * k) = nI 0) (hst : I 30 0 (150 + 200 * t + 4 + 2 * k + 1) = nI v)  (k0 : am_WP ((mX8_worked, 4, [some (.inr (.inr (some (8, 0)))), some (.inl (x)), some (.inl ((nI (n + 1)))), some (.inl ((nI (k + 1)))), some (.inl ((nI 0))), some (.inl ((nI v)))], []) :: g :: gs) (d + 1) (mk (up3 I 46 0 (n) ((nI v))) X) Q) : am_WP ((mX8_worked, 4, [some (.inr (.inr (some (8, 0)))), some (.inl (x)), some (.inl (nI n)), some (.inl (nI k)), y, z], []) :: g :: gs) (d + 1) (mk I X) Q := by
  refine am_go 400 ?_
  refine (c8_textAt (t := t) hx) _ _ _ ?_
  refine am_go 400 ?_
  refine am_f (ix_in (n := ((150 + 200 * t) + 2)) (N := 3150) (nI_addE rfl (rfl : (2 : Int32) = nI 2)) (by omega) (by decide)) ?_
  have tk0 : ((nI (150 + 200 * t) + 2)).toNatClampNeg = ((150 + 200 * t) + 2) := ix_cl (n := ((150 + 200 * t) + 2)) (nI_addE rfl (rfl : (2 : Int32) = nI 2)) (by omega)
  have tk1 : I 30 0 ((((nI (150 + 200 * t) + 2)).toNatClampNeg)) = nI L := by first | exact (show I 30 0 ((150 + 200 * t) + 2) = _ from by rw [show (150 + 200 * t) + 2 = 150 + 200 * t + 2 by omega]; exact hL) | (((try rw [tk0])); first | done | exact (show I 30 0 ((150 + 200 * t) + 2) = _ from by rw [show (150 + 200 * t) + 2 = 150 + 200 * t + 2 by omega]; exact hL))
  refine am_f (mt (le_nat (a := L) (b := k) tk1 (rfl : (nI k : Int32) = nI k) (by omega) (by omega)).mp (by omega)) ?_
  refine (c8_textAt (t := t) hx) _ _ _ ?_
  refine am_go 400 ?_
  refine am_f (ix_in (n := (((150 + 200 * t) + 4) + (2 * k))) (N := 3150) (nI_addE (nI_addE rfl (rfl : (4 : Int32) = nI 4)) (nI_mulE (rfl : (2 : Int32) = nI 2) rfl)) (by omega) (by decide)) ?_
  have tk2 : (((nI (150 + 200 * t) + 4) + (2 * nI k))).toNatClampNeg = (((150 + 200 * t) + 4) + (2 * k)) := ix_cl (n := (((150 + 200 * t) + 4) + (2 * k))) (nI_addE (nI_addE rfl (rfl : (4 : Int32) = nI 4)) (nI_mulE (rfl : (2 : Int32) = nI 2) rfl)) (by omega)
  have tk3 : I 30 0 (((((nI (150 + 200 * t) + 4) + (2 * nI k))).toNatClampNeg)) = nI 0 := by first | exact (show I 30 0 (((150 + 200 * t) + 4) + (2 * k)) = _ from by rw [show ((150 + 200 * t) + 4) + (2 * k) = 150 + 200 * t + 4 + 2 * k by omega]; exact hwh) | (((try rw [tk2])); first | done | exact (show I 30 0 (((150 + 200 * t) + 4) + (2 * k)) = _ from by rw [show ((150 + 200 * t) + 4) + (2 * k) = 150 + 200 * t + 4 + 2 * k by omega]; exact hwh))
  refine (c8_textAt (t := t) hx) _ _ _ ?_
  refine am_go 400 ?_
  refine am_f (ix_in (n := ((((150 + 200 * t) + 4) + (2 * k)) + 1)) (N := 3150) (nI_addE (nI_addE (nI_addE rfl (rfl : (4 : Int32) = nI 4)) (nI_mulE (rfl : (2 : Int32) = nI 2) rfl)) (rfl : (1 : Int32) = nI 1)) (by omega) (by decide)) ?_
  have tk4 : ((((nI (150 + 200 * t) + 4) + (2 * nI k)) + 1)).toNatClampNeg = ((((150 + 200 * t) + 4) + (2 * k)) + 1) := ix_cl (n := ((((150 + 200 * t) + 4) + (2 * k)) + 1)) (nI_addE (nI_addE (nI_addE rfl (rfl : (4 : Int32) = nI 4)) (nI_mulE (rfl : (2 : Int32) = nI 2) rfl)) (rfl : (1 : Int32) = nI 1)) (by omega)
  have tk5 : I 30 0 ((((((nI (150 + 200 * t) + 4) + (2 * nI k)) + 1)).toNatClampNeg)) = nI v := by first | exact (show I 30 0 ((((150 + 200 * t) + 4) + (2 * k)) + 1) = _ from by rw [show (((150 + 200 * t) + 4) + (2 * k)) + 1 = 150 + 200 * t + 4 + 2 * k + 1 by omega]; exact hst) | (((try rw [tk4])); first | done | exact (show I 30 0 ((((150 + 200 * t) + 4) + (2 * k)) + 1) = _ from by rw [show (((150 + 200 * t) + 4) + (2 * k)) + 1 = 150 + 200 * t + 4 + 2 * k + 1 by omega]; exact hst))
  refine am_f (mt (eq_nat (a := 0) (b := 2) tk3 (rfl : (2 : Int32) = nI 2) (by omega) (by omega)).mp (by decide)) ?_
  refine am_t ((eq_nat (a := 0) (b := 0) tk3 (rfl : (0 : Int32) = nI 0) (by omega) (by omega)).mpr rfl) ?_
  refine am_f (ix_in (n := n) (N := 100) (rfl : (nI n : Int32) = nI n) (by omega) (by decide)) ?_
  have tk6 : (nI n).toNatClampNeg = n := ix_cl (n := n) (rfl : (nI n : Int32) = nI n) (by omega)
  have tk7 : (nI n + 1) = nI (n + 1) := (nI_addE rfl (rfl : (1 : Int32) = nI 1))
  have tk8 : (nI k + 1) = nI (k + 1) := (nI_addE rfl (rfl : (1 : Int32) = nI 1))
  show am_WP ((mX8_worked, 4, [some (.inr (.inr (some (8, 0)))), some (.inl (x)), some (.inl (((nI n + 1)))), some (.inl (((nI k + 1)))), some (.inl ((I 30 0 (((((nI (150 + 200 * t) + 4) + (2 * nI k))).toNatClampNeg))))), some (.inl ((I 30 0 ((((((nI (150 + 200 * t) + 4) + (2 * nI k)) + 1)).toNatClampNeg)))))], []) :: g :: gs) (d + 1) (mk (up3 I 46 0 (((nI n).toNatClampNeg)) ((I 30 0 ((((((nI (150 + 200 * t) + 4) + (2 * nI k)) + 1)).toNatClampNeg))))) X) Q
  try rw [tk5]
  try rw [tk3]
  try rw [tk4]
  try rw [tk2]
  try rw [tk6]
  try rw [tk8]
  try rw [tk7]
  exact k0
set_option maxRecDepth 100000 in
set_option maxHeartbeats 4000000 in
theorem w_worked_nam {I : Nat → Nat → Nat → Int32} {X : am_Z} {g : am_F} {gs : List am_F} {d : Nat} {Q : Option am_V → am_M → Prop} {t k L : Nat} (ht : t < 15) (hk : k < L) (h96 : L ≤ 96) {x : Int32} (hx : x = nI t) (hL : I 30 0 (150 + 200 * t + 2) = nI L) {f : Nat → Int32} {y z : Option am_V} {n v : Nat} (hv : v < 128) (hn : n < 100) {w : Int32} (hw : I 45 0 v = w) (hwh : I 30 0 (150 + 200 * t + 4 + 2 * k) = nI 1) (hst : I 30 0 (150 + 200 * t + 4 + 2 * k + 1) = nI v)  (k0 : am_WP ((mX8_worked, 4, [some (.inr (.inr (some (8, 0)))), some (.inl (x)), some (.inl ((nI (n + 1)))), some (.inl ((nI (k + 1)))), some (.inl ((nI 1))), some (.inl ((nI v)))], []) :: g :: gs) (d + 1) (mk (up3 I 46 0 (n) (w)) X) Q) : am_WP ((mX8_worked, 4, [some (.inr (.inr (some (8, 0)))), some (.inl (x)), some (.inl (nI n)), some (.inl (nI k)), y, z], []) :: g :: gs) (d + 1) (mk I X) Q := by
  refine am_go 400 ?_
  refine (c8_textAt (t := t) hx) _ _ _ ?_
  refine am_go 400 ?_
  refine am_f (ix_in (n := ((150 + 200 * t) + 2)) (N := 3150) (nI_addE rfl (rfl : (2 : Int32) = nI 2)) (by omega) (by decide)) ?_
  have tk0 : ((nI (150 + 200 * t) + 2)).toNatClampNeg = ((150 + 200 * t) + 2) := ix_cl (n := ((150 + 200 * t) + 2)) (nI_addE rfl (rfl : (2 : Int32) = nI 2)) (by omega)
  have tk1 : I 30 0 ((((nI (150 + 200 * t) + 2)).toNatClampNeg)) = nI L := by first | exact (show I 30 0 ((150 + 200 * t) + 2) = _ from by rw [show (150 + 200 * t) + 2 = 150 + 200 * t + 2 by omega]; exact hL) | (((try rw [tk0])); first | done | exact (show I 30 0 ((150 + 200 * t) + 2) = _ from by rw [show (150 + 200 * t) + 2 = 150 + 200 * t + 2 by omega]; exact hL))
  refine am_f (mt (le_nat (a := L) (b := k) tk1 (rfl : (nI k : Int32) = nI k) (by omega) (by omega)).mp (by omega)) ?_
  refine (c8_textAt (t := t) hx) _ _ _ ?_
  refine am_go 400 ?_
  refine am_f (ix_in (n := (((150 + 200 * t) + 4) + (2 * k))) (N := 3150) (nI_addE (nI_addE rfl (rfl : (4 : Int32) = nI 4)) (nI_mulE (rfl : (2 : Int32) = nI 2) rfl)) (by omega) (by decide)) ?_
  have tk2 : (((nI (150 + 200 * t) + 4) + (2 * nI k))).toNatClampNeg = (((150 + 200 * t) + 4) + (2 * k)) := ix_cl (n := (((150 + 200 * t) + 4) + (2 * k))) (nI_addE (nI_addE rfl (rfl : (4 : Int32) = nI 4)) (nI_mulE (rfl : (2 : Int32) = nI 2) rfl)) (by omega)
  have tk3 : I 30 0 (((((nI (150 + 200 * t) + 4) + (2 * nI k))).toNatClampNeg)) = nI 1 := by first | exact (show I 30 0 (((150 + 200 * t) + 4) + (2 * k)) = _ from by rw [show ((150 + 200 * t) + 4) + (2 * k) = 150 + 200 * t + 4 + 2 * k by omega]; exact hwh) | (((try rw [tk2])); first | done | exact (show I 30 0 (((150 + 200 * t) + 4) + (2 * k)) = _ from by rw [show ((150 + 200 * t) + 4) + (2 * k) = 150 + 200 * t + 4 + 2 * k by omega]; exact hwh))
  refine (c8_textAt (t := t) hx) _ _ _ ?_
  refine am_go 400 ?_
  refine am_f (ix_in (n := ((((150 + 200 * t) + 4) + (2 * k)) + 1)) (N := 3150) (nI_addE (nI_addE (nI_addE rfl (rfl : (4 : Int32) = nI 4)) (nI_mulE (rfl : (2 : Int32) = nI 2) rfl)) (rfl : (1 : Int32) = nI 1)) (by omega) (by decide)) ?_
  have tk4 : ((((nI (150 + 200 * t) + 4) + (2 * nI k)) + 1)).toNatClampNeg = ((((150 + 200 * t) + 4) + (2 * k)) + 1) := ix_cl (n := ((((150 + 200 * t) + 4) + (2 * k)) + 1)) (nI_addE (nI_addE (nI_addE rfl (rfl : (4 : Int32) = nI 4)) (nI_mulE (rfl : (2 : Int32) = nI 2) rfl)) (rfl : (1 : Int32) = nI 1)) (by omega)
  have tk5 : I 30 0 ((((((nI (150 + 200 * t) + 4) + (2 * nI k)) + 1)).toNatClampNeg)) = nI v := by first | exact (show I 30 0 ((((150 + 200 * t) + 4) + (2 * k)) + 1) = _ from by rw [show (((150 + 200 * t) + 4) + (2 * k)) + 1 = 150 + 200 * t + 4 + 2 * k + 1 by omega]; exact hst) | (((try rw [tk4])); first | done | exact (show I 30 0 ((((150 + 200 * t) + 4) + (2 * k)) + 1) = _ from by rw [show (((150 + 200 * t) + 4) + (2 * k)) + 1 = 150 + 200 * t + 4 + 2 * k + 1 by omega]; exact hst))
  refine am_f (mt (eq_nat (a := 1) (b := 2) tk3 (rfl : (2 : Int32) = nI 2) (by omega) (by omega)).mp (by decide)) ?_
  refine am_f (mt (eq_nat (a := 1) (b := 0) tk3 (rfl : (0 : Int32) = nI 0) (by omega) (by omega)).mp (by decide)) ?_
  refine am_f (ix_in (n := v) (N := 128) tk5 (by omega) (by decide)) ?_
  have tk6 : ((I 30 0 ((((((nI (150 + 200 * t) + 4) + (2 * nI k)) + 1)).toNatClampNeg)))).toNatClampNeg = v := by first | exact ix_cl (n := v) tk5 (by omega) | (((try rw [tk5]); (try rw [tk4])); first | done | exact ix_cl (n := v) tk5 (by omega))
  have tk7 : I 45 0 ((((I 30 0 ((((((nI (150 + 200 * t) + 4) + (2 * nI k)) + 1)).toNatClampNeg)))).toNatClampNeg)) = w := by first | exact hw | (((try rw [tk6]); (try rw [tk5]); (try rw [tk4])); first | done | exact hw)
  refine am_f (ix_in (n := n) (N := 100) (rfl : (nI n : Int32) = nI n) (by omega) (by decide)) ?_
  have tk8 : (nI n).toNatClampNeg = n := ix_cl (n := n) (rfl : (nI n : Int32) = nI n) (by omega)
  have tk9 : (nI n + 1) = nI (n + 1) := (nI_addE rfl (rfl : (1 : Int32) = nI 1))
  have tk10 : (nI k + 1) = nI (k + 1) := (nI_addE rfl (rfl : (1 : Int32) = nI 1))
  show am_WP ((mX8_worked, 4, [some (.inr (.inr (some (8, 0)))), some (.inl (x)), some (.inl (((nI n + 1)))), some (.inl (((nI k + 1)))), some (.inl ((I 30 0 (((((nI (150 + 200 * t) + 4) + (2 * nI k))).toNatClampNeg))))), some (.inl ((I 30 0 ((((((nI (150 + 200 * t) + 4) + (2 * nI k)) + 1)).toNatClampNeg)))))], []) :: g :: gs) (d + 1) (mk (up3 I 46 0 (((nI n).toNatClampNeg)) ((I 45 0 ((((I 30 0 ((((((nI (150 + 200 * t) + 4) + (2 * nI k)) + 1)).toNatClampNeg)))).toNatClampNeg))))) X) Q
  try rw [tk7]
  try rw [tk6]
  try rw [tk5]
  try rw [tk3]
  try rw [tk4]
  try rw [tk2]
  try rw [tk8]
  try rw [tk10]
  try rw [tk9]
  exact k0
set_option maxRecDepth 100000 in
set_option maxHeartbeats 4000000 in
theorem w_worked_not {I : Nat → Nat → Nat → Int32} {X : am_Z} {g : am_F} {gs : List am_F} {d : Nat} {Q : Option am_V → am_M → Prop} {t k L : Nat} (ht : t < 15) (hk : k < L) (h96 : L ≤ 96) {x : Int32} (hx : x = nI t) (hL : I 30 0 (150 + 200 * t + 2) = nI L) {f : Nat → Int32} {y z : Option am_V} {m : Nat} (hm : m < 99) (hf : ∀ j, j < m + 1 → I 46 0 j = f j) (hwh : I 30 0 (150 + 200 * t + 4 + 2 * k) = nI 2) (hst : I 30 0 (150 + 200 * t + 4 + 2 * k + 1) = nI 33)  (k0 : (((f ((m + 1) - 1))) = 0) → am_WP ((mX8_worked, 4, [some (.inr (.inr (some (8, 0)))), some (.inl (x)), some (.inl (nI (m + 1))), some (.inl ((nI (k + 1)))), some (.inl ((nI 2))), some (.inl ((nI 33)))], []) :: g :: gs) (d + 1) (mk (up3 I 46 0 ((((m + 1) - 1))) (1)) X) Q) (k1 : (¬ ((f ((m + 1) - 1))) = 0) → am_WP ((mX8_worked, 4, [some (.inr (.inr (some (8, 0)))), some (.inl (x)), some (.inl (nI (m + 1))), some (.inl ((nI (k + 1)))), some (.inl ((nI 2))), some (.inl ((nI 33)))], []) :: g :: gs) (d + 1) (mk (up3 I 46 0 ((((m + 1) - 1))) (0)) X) Q) : am_WP ((mX8_worked, 4, [some (.inr (.inr (some (8, 0)))), some (.inl (x)), some (.inl (nI (m + 1))), some (.inl (nI k)), y, z], []) :: g :: gs) (d + 1) (mk I X) Q := by
  refine am_go 400 ?_
  refine (c8_textAt (t := t) hx) _ _ _ ?_
  refine am_go 400 ?_
  refine am_f (ix_in (n := ((150 + 200 * t) + 2)) (N := 3150) (nI_addE rfl (rfl : (2 : Int32) = nI 2)) (by omega) (by decide)) ?_
  have tk0 : ((nI (150 + 200 * t) + 2)).toNatClampNeg = ((150 + 200 * t) + 2) := ix_cl (n := ((150 + 200 * t) + 2)) (nI_addE rfl (rfl : (2 : Int32) = nI 2)) (by omega)
  have tk1 : I 30 0 ((((nI (150 + 200 * t) + 2)).toNatClampNeg)) = nI L := by first | exact (show I 30 0 ((150 + 200 * t) + 2) = _ from by rw [show (150 + 200 * t) + 2 = 150 + 200 * t + 2 by omega]; exact hL) | (((try rw [tk0])); first | done | exact (show I 30 0 ((150 + 200 * t) + 2) = _ from by rw [show (150 + 200 * t) + 2 = 150 + 200 * t + 2 by omega]; exact hL))
  refine am_f (mt (le_nat (a := L) (b := k) tk1 (rfl : (nI k : Int32) = nI k) (by omega) (by omega)).mp (by omega)) ?_
  refine (c8_textAt (t := t) hx) _ _ _ ?_
  refine am_go 400 ?_
  refine am_f (ix_in (n := (((150 + 200 * t) + 4) + (2 * k))) (N := 3150) (nI_addE (nI_addE rfl (rfl : (4 : Int32) = nI 4)) (nI_mulE (rfl : (2 : Int32) = nI 2) rfl)) (by omega) (by decide)) ?_
  have tk2 : (((nI (150 + 200 * t) + 4) + (2 * nI k))).toNatClampNeg = (((150 + 200 * t) + 4) + (2 * k)) := ix_cl (n := (((150 + 200 * t) + 4) + (2 * k))) (nI_addE (nI_addE rfl (rfl : (4 : Int32) = nI 4)) (nI_mulE (rfl : (2 : Int32) = nI 2) rfl)) (by omega)
  have tk3 : I 30 0 (((((nI (150 + 200 * t) + 4) + (2 * nI k))).toNatClampNeg)) = nI 2 := by first | exact (show I 30 0 (((150 + 200 * t) + 4) + (2 * k)) = _ from by rw [show ((150 + 200 * t) + 4) + (2 * k) = 150 + 200 * t + 4 + 2 * k by omega]; exact hwh) | (((try rw [tk2])); first | done | exact (show I 30 0 (((150 + 200 * t) + 4) + (2 * k)) = _ from by rw [show ((150 + 200 * t) + 4) + (2 * k) = 150 + 200 * t + 4 + 2 * k by omega]; exact hwh))
  refine (c8_textAt (t := t) hx) _ _ _ ?_
  refine am_go 400 ?_
  refine am_f (ix_in (n := ((((150 + 200 * t) + 4) + (2 * k)) + 1)) (N := 3150) (nI_addE (nI_addE (nI_addE rfl (rfl : (4 : Int32) = nI 4)) (nI_mulE (rfl : (2 : Int32) = nI 2) rfl)) (rfl : (1 : Int32) = nI 1)) (by omega) (by decide)) ?_
  have tk4 : ((((nI (150 + 200 * t) + 4) + (2 * nI k)) + 1)).toNatClampNeg = ((((150 + 200 * t) + 4) + (2 * k)) + 1) := ix_cl (n := ((((150 + 200 * t) + 4) + (2 * k)) + 1)) (nI_addE (nI_addE (nI_addE rfl (rfl : (4 : Int32) = nI 4)) (nI_mulE (rfl : (2 : Int32) = nI 2) rfl)) (rfl : (1 : Int32) = nI 1)) (by omega)
  have tk5 : I 30 0 ((((((nI (150 + 200 * t) + 4) + (2 * nI k)) + 1)).toNatClampNeg)) = nI 33 := by first | exact (show I 30 0 ((((150 + 200 * t) + 4) + (2 * k)) + 1) = _ from by rw [show (((150 + 200 * t) + 4) + (2 * k)) + 1 = 150 + 200 * t + 4 + 2 * k + 1 by omega]; exact hst) | (((try rw [tk4])); first | done | exact (show I 30 0 ((((150 + 200 * t) + 4) + (2 * k)) + 1) = _ from by rw [show (((150 + 200 * t) + 4) + (2 * k)) + 1 = 150 + 200 * t + 4 + 2 * k + 1 by omega]; exact hst))
  refine am_t ((eq_nat (a := 2) (b := 2) tk3 (rfl : (2 : Int32) = nI 2) (by omega) (by omega)).mpr rfl) ?_
  refine am_t ((eq_nat (a := 33) (b := 33) tk5 (rfl : (33 : Int32) = nI 33) (by omega) (by omega)).mpr rfl) ?_
  refine am_f (ix_in (n := ((m + 1) - 1)) (N := 100) (nI_subE rfl (rfl : (1 : Int32) = nI 1) (by omega)) (by omega) (by decide)) ?_
  have tk6 : ((nI (m + 1) - 1)).toNatClampNeg = ((m + 1) - 1) := ix_cl (n := ((m + 1) - 1)) (nI_subE rfl (rfl : (1 : Int32) = nI 1) (by omega)) (by omega)
  have tk7 : I 46 0 ((((nI (m + 1) - 1)).toNatClampNeg)) = (f ((m + 1) - 1)) := by first | exact hf _ (by omega) | (((try rw [tk6])); first | done | exact hf _ (by omega))
  refine am_if (fun h1 => ?_) (fun h1 => ?_)
  · have h1 : (I 46 0 ((((nI (m + 1) - 1)).toNatClampNeg))) = 0 := h1
    try rw [tk7] at h1
    try rw [tk6] at h1
    refine am_f (ix_in (n := ((m + 1) - 1)) (N := 100) (nI_subE rfl (rfl : (1 : Int32) = nI 1) (by omega)) (by omega) (by decide)) ?_
    have tk8 : (nI k + 1) = nI (k + 1) := (nI_addE rfl (rfl : (1 : Int32) = nI 1))
    show am_WP ((mX8_worked, 4, [some (.inr (.inr (some (8, 0)))), some (.inl (x)), some (.inl (nI (m + 1))), some (.inl (((nI k + 1)))), some (.inl ((I 30 0 (((((nI (150 + 200 * t) + 4) + (2 * nI k))).toNatClampNeg))))), some (.inl ((I 30 0 ((((((nI (150 + 200 * t) + 4) + (2 * nI k)) + 1)).toNatClampNeg)))))], []) :: g :: gs) (d + 1) (mk (up3 I 46 0 ((((nI (m + 1) - 1)).toNatClampNeg)) (1)) X) Q
    try rw [tk5]
    try rw [tk3]
    try rw [tk4]
    try rw [tk2]
    try rw [tk6]
    try rw [tk8]
    exact k0 h1
  · have h1 : ¬ (I 46 0 ((((nI (m + 1) - 1)).toNatClampNeg))) = 0 := h1
    try rw [tk7] at h1
    try rw [tk6] at h1
    refine am_f (ix_in (n := ((m + 1) - 1)) (N := 100) (nI_subE rfl (rfl : (1 : Int32) = nI 1) (by omega)) (by omega) (by decide)) ?_
    have tk9 : (nI k + 1) = nI (k + 1) := (nI_addE rfl (rfl : (1 : Int32) = nI 1))
    show am_WP ((mX8_worked, 4, [some (.inr (.inr (some (8, 0)))), some (.inl (x)), some (.inl (nI (m + 1))), some (.inl (((nI k + 1)))), some (.inl ((I 30 0 (((((nI (150 + 200 * t) + 4) + (2 * nI k))).toNatClampNeg))))), some (.inl ((I 30 0 ((((((nI (150 + 200 * t) + 4) + (2 * nI k)) + 1)).toNatClampNeg)))))], []) :: g :: gs) (d + 1) (mk (up3 I 46 0 ((((nI (m + 1) - 1)).toNatClampNeg)) (0)) X) Q
    try rw [tk5]
    try rw [tk3]
    try rw [tk4]
    try rw [tk2]
    try rw [tk6]
    try rw [tk9]
    exact k1 h1
set_option maxRecDepth 100000 in
set_option maxHeartbeats 4000000 in
theorem w_worked_join {I : Nat → Nat → Nat → Int32} {X : am_Z} {g : am_F} {gs : List am_F} {d : Nat} {Q : Option am_V → am_M → Prop} {t k L : Nat} (ht : t < 15) (hk : k < L) (h96 : L ≤ 96) {x : Int32} (hx : x = nI t) (hL : I 30 0 (150 + 200 * t + 2) = nI L) {f : Nat → Int32} {y z : Option am_V} {m v s : Nat} (hs : s < 9) (hvs : v = [124, 38, 60, 61, 62, 43, 45, 42, 47, 33].getD s 0) (hv33 : v ≠ 33) (hv : v < 128) (hm : m < 98) (hf : ∀ j, j < m + 2 → I 46 0 j = f j) (hwh : I 30 0 (150 + 200 * t + 4 + 2 * k) = nI 2) (hst : I 30 0 (150 + 200 * t + 4 + 2 * k + 1) = nI v)  (k0 : am_WP ((mX8_worked, 4, [some (.inr (.inr (some (8, 0)))), some (.inl (x)), some (.inl (nI (m + 1))), some (.inl ((nI (k + 1)))), some (.inl ((nI 2))), some (.inl ((nI v)))], []) :: g :: gs) (d + 1) (mk (up3 I 46 0 ((((m + 1) - 1))) ((jn s (((f ((m + 1) - 1)))) (((f (m + 1))))))) X) Q) : am_WP ((mX8_worked, 4, [some (.inr (.inr (some (8, 0)))), some (.inl (x)), some (.inl (nI (m + 2))), some (.inl (nI k)), y, z], []) :: g :: gs) (d + 1) (mk I X) Q := by
  refine am_go 400 ?_
  refine (c8_textAt (t := t) hx) _ _ _ ?_
  refine am_go 400 ?_
  refine am_f (ix_in (n := ((150 + 200 * t) + 2)) (N := 3150) (nI_addE rfl (rfl : (2 : Int32) = nI 2)) (by omega) (by decide)) ?_
  have tk0 : ((nI (150 + 200 * t) + 2)).toNatClampNeg = ((150 + 200 * t) + 2) := ix_cl (n := ((150 + 200 * t) + 2)) (nI_addE rfl (rfl : (2 : Int32) = nI 2)) (by omega)
  have tk1 : I 30 0 ((((nI (150 + 200 * t) + 2)).toNatClampNeg)) = nI L := by first | exact (show I 30 0 ((150 + 200 * t) + 2) = _ from by rw [show (150 + 200 * t) + 2 = 150 + 200 * t + 2 by omega]; exact hL) | (((try rw [tk0])); first | done | exact (show I 30 0 ((150 + 200 * t) + 2) = _ from by rw [show (150 + 200 * t) + 2 = 150 + 200 * t + 2 by omega]; exact hL))
  refine am_f (mt (le_nat (a := L) (b := k) tk1 (rfl : (nI k : Int32) = nI k) (by omega) (by omega)).mp (by omega)) ?_
  refine (c8_textAt (t := t) hx) _ _ _ ?_
  refine am_go 400 ?_
  refine am_f (ix_in (n := (((150 + 200 * t) + 4) + (2 * k))) (N := 3150) (nI_addE (nI_addE rfl (rfl : (4 : Int32) = nI 4)) (nI_mulE (rfl : (2 : Int32) = nI 2) rfl)) (by omega) (by decide)) ?_
  have tk2 : (((nI (150 + 200 * t) + 4) + (2 * nI k))).toNatClampNeg = (((150 + 200 * t) + 4) + (2 * k)) := ix_cl (n := (((150 + 200 * t) + 4) + (2 * k))) (nI_addE (nI_addE rfl (rfl : (4 : Int32) = nI 4)) (nI_mulE (rfl : (2 : Int32) = nI 2) rfl)) (by omega)
  have tk3 : I 30 0 (((((nI (150 + 200 * t) + 4) + (2 * nI k))).toNatClampNeg)) = nI 2 := by first | exact (show I 30 0 (((150 + 200 * t) + 4) + (2 * k)) = _ from by rw [show ((150 + 200 * t) + 4) + (2 * k) = 150 + 200 * t + 4 + 2 * k by omega]; exact hwh) | (((try rw [tk2])); first | done | exact (show I 30 0 (((150 + 200 * t) + 4) + (2 * k)) = _ from by rw [show ((150 + 200 * t) + 4) + (2 * k) = 150 + 200 * t + 4 + 2 * k by omega]; exact hwh))
  refine (c8_textAt (t := t) hx) _ _ _ ?_
  refine am_go 16 ?_
  refine am_f (ix_in (n := ((((150 + 200 * t) + 4) + (2 * k)) + 1)) (N := 3150) (nI_addE (nI_addE (nI_addE rfl (rfl : (4 : Int32) = nI 4)) (nI_mulE (rfl : (2 : Int32) = nI 2) rfl)) (rfl : (1 : Int32) = nI 1)) (by omega) (by decide)) ?_
  have tk4 : ((((nI (150 + 200 * t) + 4) + (2 * nI k)) + 1)).toNatClampNeg = ((((150 + 200 * t) + 4) + (2 * k)) + 1) := ix_cl (n := ((((150 + 200 * t) + 4) + (2 * k)) + 1)) (nI_addE (nI_addE (nI_addE rfl (rfl : (4 : Int32) = nI 4)) (nI_mulE (rfl : (2 : Int32) = nI 2) rfl)) (rfl : (1 : Int32) = nI 1)) (by omega)
  have tk5 : I 30 0 ((((((nI (150 + 200 * t) + 4) + (2 * nI k)) + 1)).toNatClampNeg)) = nI v := by first | exact (show I 30 0 ((((150 + 200 * t) + 4) + (2 * k)) + 1) = _ from by rw [show (((150 + 200 * t) + 4) + (2 * k)) + 1 = 150 + 200 * t + 4 + 2 * k + 1 by omega]; exact hst) | (((try rw [tk4])); first | done | exact (show I 30 0 ((((150 + 200 * t) + 4) + (2 * k)) + 1) = _ from by rw [show (((150 + 200 * t) + 4) + (2 * k)) + 1 = 150 + 200 * t + 4 + 2 * k + 1 by omega]; exact hst))
  refine am_t ((eq_nat (a := 2) (b := 2) tk3 (rfl : (2 : Int32) = nI 2) (by omega) (by omega)).mpr rfl) ?_
  refine am_f (mt (eq_nat (a := v) (b := 33) tk5 (rfl : (33 : Int32) = nI 33) (by omega) (by omega)).mp hv33) ?_
  refine am_go 1 ?_
  show am_WP ((mX8_worked, 130, [some (.inr (.inr (some (8, 0)))), some (.inl (x)), some (.inl ((nI (m + 2) + (-1)))), some (.inl (nI k)), some (.inl ((I 30 0 (((((nI (150 + 200 * t) + 4) + (2 * nI k))).toNatClampNeg))))), some (.inl ((I 30 0 ((((((nI (150 + 200 * t) + 4) + (2 * nI k)) + 1)).toNatClampNeg)))))], []) :: g :: gs) (d + 1) (mk I X) Q
  rw [show (nI (m + 2) + (-1)) = nI (m + 1) from (pk_m1 (m + 1))]
  refine am_go 400 ?_
  refine am_f (ix_in (n := ((m + 1) - 1)) (N := 100) (nI_subE rfl (rfl : (1 : Int32) = nI 1) (by omega)) (by omega) (by decide)) ?_
  have tk6 : ((nI (m + 1) - 1)).toNatClampNeg = ((m + 1) - 1) := ix_cl (n := ((m + 1) - 1)) (nI_subE rfl (rfl : (1 : Int32) = nI 1) (by omega)) (by omega)
  have tk7 : I 46 0 ((((nI (m + 1) - 1)).toNatClampNeg)) = (f ((m + 1) - 1)) := by first | exact hf _ (by omega) | (((try rw [tk6])); first | done | exact hf _ (by omega))
  refine am_f (ix_in (n := (m + 1)) (N := 100) (rfl : (nI (m + 1) : Int32) = nI (m + 1)) (by omega) (by decide)) ?_
  have tk8 : (nI (m + 1)).toNatClampNeg = (m + 1) := ix_cl (n := (m + 1)) (rfl : (nI (m + 1) : Int32) = nI (m + 1)) (by omega)
  have tk9 : I 46 0 (((nI (m + 1)).toNatClampNeg)) = (f (m + 1)) := by first | exact hf _ (by omega) | (((try rw [tk8])); first | done | exact hf _ (by omega))
  refine (c_X8_joined (s := s) (tk5.trans (congrArg nI hvs)) hs) _ _ _ ?_
  refine am_go 400 ?_
  refine am_f (ix_in (n := ((m + 1) - 1)) (N := 100) (nI_subE rfl (rfl : (1 : Int32) = nI 1) (by omega)) (by omega) (by decide)) ?_
  have tk10 : (nI k + 1) = nI (k + 1) := (nI_addE rfl (rfl : (1 : Int32) = nI 1))
  show am_WP ((mX8_worked, 4, [some (.inr (.inr (some (8, 0)))), some (.inl (x)), some (.inl (nI (m + 1))), some (.inl (((nI k + 1)))), some (.inl ((I 30 0 (((((nI (150 + 200 * t) + 4) + (2 * nI k))).toNatClampNeg))))), some (.inl ((I 30 0 ((((((nI (150 + 200 * t) + 4) + (2 * nI k)) + 1)).toNatClampNeg)))))], []) :: g :: gs) (d + 1) (mk (up3 I 46 0 ((((nI (m + 1) - 1)).toNatClampNeg)) ((jn s ((I 46 0 ((((nI (m + 1) - 1)).toNatClampNeg)))) ((I 46 0 (((nI (m + 1)).toNatClampNeg))))))) X) Q
  try rw [tk5]
  try rw [tk3]
  try rw [tk4]
  try rw [tk2]
  try rw [tk7]
  try rw [tk9]
  try rw [tk6]
  try rw [tk8]
  try rw [tk10]
  exact k0
set_option maxRecDepth 100000 in
set_option maxHeartbeats 4000000 in
theorem w_worked_end {I : Nat → Nat → Nat → Int32} {X : am_Z} {g : am_F} {gs : List am_F} {d : Nat} {Q : Option am_V → am_M → Prop} {t k L : Nat} (ht : t < 15) (hk : L ≤ k) (hk2 : k ≤ 96) (h96 : L ≤ 96) {x : Int32} (hx : x = nI t) (hL : I 30 0 (150 + 200 * t + 2) = nI L) {f : Nat → Int32} {y z : Option am_V} (hf : I 46 0 0 = f 0) (k0 : am_WP (am_psh g (some (.inl (((f 0))))) :: gs) (d + 2) (mk I X) Q) : am_WP ((mX8_worked, 4, [some (.inr (.inr (some (8, 0)))), some (.inl (x)), some (.inl (nI 1)), some (.inl (nI k)), y, z], []) :: g :: gs) (d + 1) (mk I X) Q := by
  refine am_go 400 ?_
  refine (c8_textAt (t := t) hx) _ _ _ ?_
  refine am_go 400 ?_
  refine am_f (ix_in (n := ((150 + 200 * t) + 2)) (N := 3150) (nI_addE rfl (rfl : (2 : Int32) = nI 2)) (by omega) (by decide)) ?_
  have tk0 : ((nI (150 + 200 * t) + 2)).toNatClampNeg = ((150 + 200 * t) + 2) := ix_cl (n := ((150 + 200 * t) + 2)) (nI_addE rfl (rfl : (2 : Int32) = nI 2)) (by omega)
  have tk1 : I 30 0 ((((nI (150 + 200 * t) + 2)).toNatClampNeg)) = nI L := by first | exact (show I 30 0 ((150 + 200 * t) + 2) = _ from by rw [show (150 + 200 * t) + 2 = 150 + 200 * t + 2 by omega]; exact hL) | (((try rw [tk0])); first | done | exact (show I 30 0 ((150 + 200 * t) + 2) = _ from by rw [show (150 + 200 * t) + 2 = 150 + 200 * t + 2 by omega]; exact hL))
  refine am_t ((le_nat (a := L) (b := k) tk1 (rfl : (nI k : Int32) = nI k) (by omega) (by omega)).mpr hk) ?_
  have tk2 : I 46 0 0 = (f 0) := hf
  show am_WP (am_psh g (some (.inl ((I 46 0 0)))) :: gs) (d + 2) (mk I X) Q
  try rw [tk2]
  exact k0
set_option maxRecDepth 100000 in
set_option maxHeartbeats 4000000 in
theorem w_X8_worked {I : Nat → Nat → Nat → Int32} {X : am_Z} {g : am_F} {gs : List am_F} {d : Nat} {Q : Option am_V → am_M → Prop} {x : Int32} (k0 : am_WP ((mX8_worked, 4, [some (.inr (.inr (some (8, 0)))), some (.inl (x)), some (.inl (0)), some (.inl (0)), none, none], []) :: g :: gs) (d + 1) (mk I X) Q) : am_WP (am_entry mX8_worked [.inr (.inr (some (8, 0))), .inl (x)] :: g :: gs) (d + 1) (mk I X) Q := by
  refine am_go 4 ?_
  exact k0
theorem l_X8_worked {I0 : Im} {X g gs d Q} {t : Nat} {x : Int32} (hx : x = nI t) (ht : t < 15) {T : Tx} {nm : Nat → Int32} (hT : TxM (I0 30 0) t T) (hG : GT T) (hnm : ∀ j, j < (if T.1 = 0 then 3 else 2) → I0 45 0 (enM T.1 (1, j)) = nm j) : ∀ (ps : List (Nat × Nat)) (k n : Nat) (f : Nat → Int32) (I : Im) (y z : Option am_V), T.2.2.drop k = ps → k ≤ T.2.2.length → wfS n ps → n + cntO ps ≤ T.2.1 → (∀ j, j < n → I 46 0 j = f j) → (∀ g, g ≠ 46 → I g = I0 g) →
    (∀ I', (∀ g, g ≠ 46 → I' g = I0 g) → am_WP (am_psh g (some (.inl (evF nm ps n f))) :: gs) (d + 2) (mk I' X) Q) →
    am_WP ((mX8_worked, 4, [some (.inr (.inr (some (8, 0)))), some (.inl x), some (.inl (nI n)), some (.inl (nI k)), y, z], []) :: g :: gs) (d + 1) (mk I X) Q
  | [], k, n, f, I, y, z, hd, hkl, hw, hc, hf, F, K => by
    have h96 := hG.2.1
    have n1 : n = 1 := hw
    subst n1
    have hk : T.2.2.length ≤ k := by
      by_cases e : T.2.2.length ≤ k
      · exact e
      · rw [List.drop_eq_getElem_cons (by omega)] at hd; cases hd
    exact w_worked_end ht hk (by omega) h96 hx (by rw [F 30 (by decide)]; exact hT.2.2.1) (hf 0 (by omega)) (K I F)
  | p :: ps, k, n, f, I, y, z, hd, hkl, hw, hc, hf, F, K => by
    have h96 := hG.2.1
    have hN96 : T.2.1 ≤ 96 := by rw [hG.2.2.2.1]; exact Nat.le_trans (List.length_filter_le _ _) h96
    obtain ⟨hk, hp, hd'⟩ := drop_s (0, 0) hd
    have hm : p ∈ T.2.2 := by rw [← hp, List.getD_eq_getElem?_getD, List.getElem?_eq_getElem hk]; exact List.getElem_mem hk
    have hv := hG.2.2.2.2 p hm
    have hL : I 30 0 (150 + 200 * t + 2) = nI T.2.2.length := by rw [F 30 (by decide)]; exact hT.2.2.1
    have hw0 : I 30 0 (150 + 200 * t + 4 + 2 * k) = nI p.1 := by rw [F 30 (by decide), (hT.2.2.2 k hk).1, hp]
    have hs0 : I 30 0 (150 + 200 * t + 4 + 2 * k + 1) = nI (enM T.1 p) := by rw [F 30 (by decide), (hT.2.2.2 k hk).2, hp]
    have FU : ∀ (m : Nat) (v : Int32) (g : Nat), g ≠ 46 → up3 I 46 0 m v g = I0 g := fun m v g hg => by rw [up3_g hg]; exact F g hg
    rw [cntO_c] at hc
    rcases wfS_9 hw with ⟨h2, hw'⟩ | ⟨h2, h9, h1, hw'⟩ | ⟨h2, h9, h1, hw'⟩
    · rw [if_neg (by omega)] at hc
      by_cases h0 : p.1 = 0
      · rw [h0] at hw0
        have hs' : I 30 0 (150 + 200 * t + 4 + 2 * k + 1) = nI p.2 := by rw [hs0]; unfold enM; rw [if_pos h0]
        refine w_worked_num (f := f) ht hk h96 hx hL (hv.1 h0) (by omega) hw0 hs' ?_
        refine l_X8_worked hx ht hT hG hnm ps (k + 1) (n + 1) (fu f n (nI p.2)) _ _ _ hd' (by omega) hw' (by omega) (fun j hj => stk_w hf j (by omega)) (FU _ _) ?_
        intro I' F'
        have := K I' F'
        rw [evF, if_pos h0] at this
        exact this
      · have h1 : p.1 = 1 := by omega
        rw [h1] at hw0
        have he : enM T.1 p = enM T.1 (1, p.2) := by rw [← h1]
        have hlt := hv.2 h1
        have hc8 : enM T.1 (1, p.2) < 128 := by
          have q : p.2 = 0 ∨ p.2 = 1 ∨ p.2 = 2 := by split at hlt <;> omega
          unfold enM
          rw [if_neg (show ¬ (1, p.2).1 = 0 from Nat.one_ne_zero), if_pos rfl]
          split
          · rcases q with q | q | q <;> rw [q] <;> decide
          · split
            · rcases q with q | q | q <;> rw [q] <;> decide
            · rcases q with q | q | q <;> rw [q] <;> decide
        rw [he] at hs0
        refine w_worked_nam (f := f) (w := nm p.2) ht hk h96 hx hL hc8 (by omega) (by rw [F 45 (by decide)]; exact hnm p.2 hlt) hw0 hs0 ?_
        refine l_X8_worked hx ht hT hG hnm ps (k + 1) (n + 1) (fu f n (nm p.2)) _ _ _ hd' (by omega) hw' (by omega) (fun j hj => stk_w hf j (by omega)) (FU _ _) ?_
        intro I' F'
        have := K I' F'
        rw [evF, if_neg h0, if_pos h1] at this
        exact this
    · rw [if_pos h2] at hc
      rw [h2] at hw0
      obtain ⟨m, rfl⟩ : ∃ m, n = m + 1 := ⟨n - 1, by omega⟩
      have hs' : I 30 0 (150 + 200 * t + 4 + 2 * k + 1) = nI 33 := by rw [hs0]; unfold enM; rw [if_neg (by omega), if_neg (by omega), h9]; rfl
      have ev : evF nm (p :: ps) (m + 1) f = evF nm ps (m + 1) (fu f m (bI (f m = 0))) := by rw [evF, if_neg (by omega), if_neg (by omega), if_pos h9]; rfl
      rw [ev] at K
      refine w_worked_not ht hk h96 hx hL (by omega) hf hw0 hs' ?_ ?_
      · intro h3
        have h3 : f m = 0 := h3
        rw [bI_t h3] at K
        exact l_X8_worked hx ht hT hG hnm ps (k + 1) (m + 1) (fu f m 1) _ _ _ hd' (by omega) hw' (by omega) (fun j hj => stk_w hf j (by omega)) (FU _ _) K
      · intro h3
        have h3 : ¬ f m = 0 := h3
        rw [bI_f h3] at K
        exact l_X8_worked hx ht hT hG hnm ps (k + 1) (m + 1) (fu f m 0) _ _ _ hd' (by omega) hw' (by omega) (fun j hj => stk_w hf j (by omega)) (FU _ _) K
    · rw [if_pos h2] at hc
      rw [h2] at hw0
      obtain ⟨m, rfl⟩ : ∃ m, n = m + 2 := ⟨n - 2, by omega⟩
      have ev : evF nm (p :: ps) (m + 2) f = evF nm ps (m + 1) (fu f m (jn p.2 (f m) (f (m + 1)))) := by rw [evF, if_neg (by omega), if_neg (by omega), if_neg (by omega)]; rfl
      rw [ev] at K
      have he : enM T.1 p = [124, 38, 60, 61, 62, 43, 45, 42, 47, 33].getD p.2 0 := by unfold enM; rw [if_neg (by omega), if_neg (by omega)]
      have hb : enM T.1 p ≠ 33 ∧ enM T.1 p < 128 := by
        rw [he]
        have q : p.2 = 0 ∨ p.2 = 1 ∨ p.2 = 2 ∨ p.2 = 3 ∨ p.2 = 4 ∨ p.2 = 5 ∨ p.2 = 6 ∨ p.2 = 7 ∨ p.2 = 8 := by omega
        rcases q with q | q | q | q | q | q | q | q | q <;> rw [q] <;> decide
      refine w_worked_join ht hk h96 hx hL h9 he hb.1 hb.2 (by omega) hf hw0 hs0 ?_
      exact l_X8_worked hx ht hT hG hnm ps (k + 1) (m + 1) (fu f m (jn p.2 (f m) (f (m + 1)))) _ _ _ hd' (by omega) hw' (by omega) (fun j hj => stk_w hf j (by omega)) (FU _ _) K
theorem c_X8_worked {I X d} {t : Nat} {x : Int32} {T : Tx} {nm : Nat → Int32} (hx : x = nI t) (ht : t < 15) (hT : TxM (I 30 0) t T) (hG : GT T) (hnm : ∀ j, j < (if T.1 = 0 then 3 else 2) → I 45 0 (enM T.1 (1, j)) = nm j) : Sw mX8_worked [.inr (.inr (some (8, 0))), .inl x] (d + 1) I X (some (.inl (tv T nm))) (fun I' => ∀ g, g ≠ 46 → I' g = I g) := fun g gs Q K =>
  w_X8_worked (l_X8_worked hx ht hT hG hnm T.2.2 0 0 (fun _ => 0) I none none rfl (Nat.zero_le _) hG.2.2.1 (by rw [hG.2.2.2.1, Nat.zero_add]; exact Nat.le_refl _) (fun j hj => absurd hj (by omega)) (fun _ _ => rfl) K)
