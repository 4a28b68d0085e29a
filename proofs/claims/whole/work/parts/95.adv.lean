/-! advance -/
set_option maxRecDepth 100000 in
set_option maxHeartbeats 4000000 in
theorem w_X3_formOf {I : Nat → Nat → Nat → Int32} {X : am_Z} {g : am_F} {gs : List am_F} {d : Nat} {Q : Option am_V → am_M → Prop} {b : Nat} {x : Int32} (hx : x = nI b) (hb : b < 256) (k0 : (b < 97) → (b < 48) → am_WP (am_psh g (some (.inl (3))) :: gs) (d + 1) (mk I X) Q) (k1 : (b < 97) → (¬ (b < 48)) → (57 < b) → am_WP (am_psh g (some (.inl (3))) :: gs) (d + 1) (mk I X) Q) (k2 : (b < 97) → (¬ (b < 48)) → (¬ (57 < b)) → am_WP (am_psh g (some (.inl (2))) :: gs) (d + 1) (mk I X) Q) (k3 : (¬ (b < 97)) → (122 < b) → (b < 48) → am_WP (am_psh g (some (.inl (3))) :: gs) (d + 1) (mk I X) Q) (k4 : (¬ (b < 97)) → (122 < b) → (¬ (b < 48)) → (57 < b) → am_WP (am_psh g (some (.inl (3))) :: gs) (d + 1) (mk I X) Q) (k5 : (¬ (b < 97)) → (122 < b) → (¬ (b < 48)) → (¬ (57 < b)) → am_WP (am_psh g (some (.inl (2))) :: gs) (d + 1) (mk I X) Q) (k6 : (¬ (b < 97)) → (¬ (122 < b)) → am_WP (am_psh g (some (.inl (1))) :: gs) (d + 1) (mk I X) Q) : am_WP (am_entry mX3_formOf [.inl (x)] :: g :: gs) (d) (mk I X) Q := by
  refine am_go 400 ?_
  refine am_if (fun h1 => ?_) (fun h1 => ?_)
  · have nh1 := (lt_nat (a := b) (b := 97) hx (rfl : (97 : Int32) = nI 97) (by omega) (by omega)).mp h1
    refine am_if (fun h2 => ?_) (fun h2 => ?_)
    · have nh2 := (lt_nat (a := b) (b := 48) hx (rfl : (48 : Int32) = nI 48) (by omega) (by omega)).mp h2
      exact k0 nh1 nh2
    · have nh2 := mt (lt_nat (a := b) (b := 48) hx (rfl : (48 : Int32) = nI 48) (by omega) (by omega)).mpr h2
      refine am_if (fun h3 => ?_) (fun h3 => ?_)
      · have nh3 := (lt_nat (a := 57) (b := b) (rfl : (57 : Int32) = nI 57) hx (by omega) (by omega)).mp h3
        exact k1 nh1 nh2 nh3
      · have nh3 := mt (lt_nat (a := 57) (b := b) (rfl : (57 : Int32) = nI 57) hx (by omega) (by omega)).mpr h3
        exact k2 nh1 nh2 nh3
  · have nh1 := mt (lt_nat (a := b) (b := 97) hx (rfl : (97 : Int32) = nI 97) (by omega) (by omega)).mpr h1
    refine am_if (fun h4 => ?_) (fun h4 => ?_)
    · have nh4 := (lt_nat (a := 122) (b := b) (rfl : (122 : Int32) = nI 122) hx (by omega) (by omega)).mp h4
      refine am_if (fun h5 => ?_) (fun h5 => ?_)
      · have nh5 := (lt_nat (a := b) (b := 48) hx (rfl : (48 : Int32) = nI 48) (by omega) (by omega)).mp h5
        exact k3 nh1 nh4 nh5
      · have nh5 := mt (lt_nat (a := b) (b := 48) hx (rfl : (48 : Int32) = nI 48) (by omega) (by omega)).mpr h5
        refine am_if (fun h6 => ?_) (fun h6 => ?_)
        · have nh6 := (lt_nat (a := 57) (b := b) (rfl : (57 : Int32) = nI 57) hx (by omega) (by omega)).mp h6
          exact k4 nh1 nh4 nh5 nh6
        · have nh6 := mt (lt_nat (a := 57) (b := b) (rfl : (57 : Int32) = nI 57) hx (by omega) (by omega)).mpr h6
          exact k5 nh1 nh4 nh5 nh6
    · have nh4 := mt (lt_nat (a := 122) (b := b) (rfl : (122 : Int32) = nI 122) hx (by omega) (by omega)).mpr h4
      exact k6 nh1 nh4
theorem c_X3_formOf {I X d} {b : Nat} {x : Int32} (hx : x = nI b) (hb : b < 256) : Rt mX3_formOf [.inl x] d (mk I X) (some (.inl (nI (fm b)))) (mk I X) := fun g gs Q K => by
  have e : ∀ v, fm b = v → am_WP (am_psh g (some (.inl (nI v))) :: gs) (d + 1) (mk I X) Q := fun v q => q ▸ K
  refine w_X3_formOf hx hb ?_ ?_ ?_ ?_ ?_ ?_ ?_
  all_goals intros
  all_goals first
    | exact e 1 (by unfold fm; rw [if_pos (by omega)])
    | exact e 2 (by unfold fm; rw [if_neg (by omega), if_pos (by omega)])
    | exact e 3 (by unfold fm; rw [if_neg (by omega), if_neg (by omega)])
theorem fm_le (b : Nat) : fm b ≤ 3 := by rcases fm_c b with q | q | q <;> omega
theorem up3_3 {I : Im} {g k j : Nat} {a b : Int32} : up3 (up3 I g k j a) g k j b = up3 I g k j b := by
  funext g' k' j'
  unfold up3
  cases Nat.beq g' g with
  | false => rfl
  | true =>
    show (if k' = k ∧ j' = j then b else (if k' = k ∧ j' = j then a else I g' k' j')) = (if k' = k ∧ j' = j then b else I g' k' j')
    split
    · rfl
    · rfl
set_option maxRecDepth 100000 in
set_option maxHeartbeats 4000000 in
theorem w_X3_advance {I : Nat → Nat → Nat → Int32} {X : am_Z} {g : am_F} {gs : List am_F} {d : Nat} {Q : Option am_V → am_M → Prop} {n k e : Nat} (hk : k ≤ 4) (he : e ≤ n) (hn : n ≤ 96) (h7 : I 3 0 7 = nI k) (h9 : I 3 0 9 = nI e) (k0 : (k = 1) → am_WP ((mX3_advance, 35, [some (.inr (.inr (some (3, 0)))), some (.inl (1)), some (.inl ((nI e)))], []) :: g :: gs) (d + 1) (mk (up3 I 3 0 (8) ((nI e))) X) Q) (k1 : (¬ (k = 1)) → (k = 2) → am_WP ((mX3_advance, 35, [some (.inr (.inr (some (3, 0)))), some (.inl (1)), some (.inl ((nI e)))], []) :: g :: gs) (d + 1) (mk (up3 I 3 0 (8) ((nI e))) X) Q) (k2 : (¬ (k = 1)) → (¬ (k = 2)) → am_WP ((mX3_advance, 35, [some (.inr (.inr (some (3, 0)))), some (.inl (0)), some (.inl ((nI e)))], []) :: g :: gs) (d + 1) (mk (up3 I 3 0 (8) ((nI e))) X) Q) : am_WP (am_entry mX3_advance [.inr (.inr (some (3, 0)))] :: g :: gs) (d + 1) (mk I X) Q := by
  refine am_go 400 ?_
  have tk0 : I 3 0 7 = nI k := h7
  refine am_if (fun h1 => ?_) (fun h1 => ?_)
  · have nh1 := (eq_nat (a := k) (b := 1) tk0 (rfl : (1 : Int32) = nI 1) (by omega) (by omega)).mp h1
    have tk1 : I 3 0 9 = nI e := h9
    refine am_cf rfl ?_
    refine am_cut ?_
    refine am_go 10 ?_
    show am_WP ((mX3_advance, 35, [some (.inr (.inr (some (3, 0)))), some (.inl (1)), some (.inl ((I 3 0 9)))], []) :: g :: gs) (d + 1) (mk (up3 I 3 0 (8) ((I 3 0 9))) X) Q
    try rw [tk1]
    exact k0 nh1
  · have nh1 := mt (eq_nat (a := k) (b := 1) tk0 (rfl : (1 : Int32) = nI 1) (by omega) (by omega)).mpr h1
    refine am_if (fun h2 => ?_) (fun h2 => ?_)
    · have nh2 := (eq_nat (a := k) (b := 2) tk0 (rfl : (2 : Int32) = nI 2) (by omega) (by omega)).mp h2
      have tk2 : I 3 0 9 = nI e := h9
      refine am_cut ?_
      refine am_go 10 ?_
      show am_WP ((mX3_advance, 35, [some (.inr (.inr (some (3, 0)))), some (.inl (1)), some (.inl ((I 3 0 9)))], []) :: g :: gs) (d + 1) (mk (up3 I 3 0 (8) ((I 3 0 9))) X) Q
      try rw [tk2]
      exact k1 nh1 nh2
    · have nh2 := mt (eq_nat (a := k) (b := 2) tk0 (rfl : (2 : Int32) = nI 2) (by omega) (by omega)).mpr h2
      have tk3 : I 3 0 9 = nI e := h9
      refine am_cf rfl ?_
      refine am_cut ?_
      refine am_go 9 ?_
      show am_WP ((mX3_advance, 35, [some (.inr (.inr (some (3, 0)))), some (.inl (0)), some (.inl ((I 3 0 9)))], []) :: g :: gs) (d + 1) (mk (up3 I 3 0 (8) ((I 3 0 9))) X) Q
      try rw [tk3]
      exact k2 nh1 nh2
set_option maxRecDepth 100000 in
set_option maxHeartbeats 4000000 in
theorem w_X3_advance_35 {I : Nat → Nat → Nat → Int32} {X : am_Z} {g : am_F} {gs : List am_F} {d : Nat} {Q : Option am_V → am_M → Prop} {t : Nat → Nat} {n : Nat} (hn : n ≤ 96) (h0 : I 3 0 0 = nI n) (hb : ∀ j, j < n → I 23 0 j = nI (t j)) (ht : ∀ j, j < n → t j < 256) {bw : Int32} {e i : Nat} (h8 : I 3 0 8 = nI i) (hi : i ≤ n) (k0 : (n ≤ i) → am_WP ((mX3_advance, 73, [some (.inr (.inr (some (3, 0)))), some (.inl (bw)), some (.inl (nI e))], []) :: g :: gs) (d + 1) (mk I X) Q) (k1 : (¬ (n ≤ i)) → ((t (i)) = 32) → am_WP ((mX3_advance, 35, [some (.inr (.inr (some (3, 0)))), some (.inl (bw)), some (.inl (nI e))], []) :: g :: gs) (d + 1) (mk (up3 I 3 0 (8) ((nI (i + 1)))) X) Q) (k2 : (¬ (n ≤ i)) → (¬ ((t (i)) = 32)) → am_WP ((mX3_advance, 73, [some (.inr (.inr (some (3, 0)))), some (.inl (bw)), some (.inl (nI e))], []) :: g :: gs) (d + 1) (mk I X) Q) : am_WP ((mX3_advance, 35, [some (.inr (.inr (some (3, 0)))), some (.inl (bw)), some (.inl (nI e))], []) :: g :: gs) (d + 1) (mk I X) Q := by
  refine am_go 400 ?_
  have tk0 : I 3 0 8 = nI i := h8
  have tk1 : I 3 0 0 = nI n := h0
  refine am_if (fun h1 => ?_) (fun h1 => ?_)
  · have nh1 := (le_nat (a := n) (b := i) tk1 tk0 (by omega) (by omega)).mp h1
    refine am_cf rfl ?_
    exact am_cut (k0 nh1)
  · have nh1 := mt (le_nat (a := n) (b := i) tk1 tk0 (by omega) (by omega)).mpr h1
    refine am_f (ix_in (n := i) (N := 96) tk0 (by omega) (by decide)) ?_
    have tk2 : ((I 3 0 8)).toNatClampNeg = i := by first | exact ix_cl (n := i) tk0 (by omega) | (((try rw [tk0])); first | done | exact ix_cl (n := i) tk0 (by omega))
    have bd : (t (i)) ≤ 255 := (by have := ht (i) (by omega); omega)
    have tk3 : I 23 0 ((((I 3 0 8)).toNatClampNeg)) = nI (t (i)) := by first | exact hb _ (by omega) | (((try rw [tk2]); (try rw [tk0])); first | done | exact hb _ (by omega))
    refine am_if (fun h2 => ?_) (fun h2 => ?_)
    · have nh2 := (eq_nat (a := (t (i))) (b := 32) tk3 (rfl : (32 : Int32) = nI 32) (by omega) (by omega)).mp h2
      have tk4 : ((I 3 0 8) + 1) = nI (i + 1) := by first | exact (nI_addE tk0 (rfl : (1 : Int32) = nI 1)) | (((try rw [tk0])); first | done | exact (nI_addE tk0 (rfl : (1 : Int32) = nI 1)))
      show am_WP ((mX3_advance, 35, [some (.inr (.inr (some (3, 0)))), some (.inl (bw)), some (.inl (nI e))], []) :: g :: gs) (d + 1) (mk (up3 I 3 0 (8) ((((I 3 0 8) + 1)))) X) Q
      try rw [tk4]
      try rw [tk0]
      exact k1 nh1 nh2
    · have nh2 := mt (eq_nat (a := (t (i))) (b := 32) tk3 (rfl : (32 : Int32) = nI 32) (by omega) (by omega)).mpr h2
      refine am_cf rfl ?_
      exact am_cut (k2 nh1 nh2)
set_option maxRecDepth 100000 in
set_option maxHeartbeats 4000000 in
theorem w_X3_advance_73 {I : Nat → Nat → Nat → Int32} {X : am_Z} {g : am_F} {gs : List am_F} {d : Nat} {Q : Option am_V → am_M → Prop} {t : Nat → Nat} {n : Nat} (hn : n ≤ 96) (h0 : I 3 0 0 = nI n) (hb : ∀ j, j < n → I 23 0 j = nI (t j)) (ht : ∀ j, j < n → t j < 256) {bw : Int32} {e i : Nat} (h8 : I 3 0 8 = nI i) (hi : i ≤ n) (k0 : (i < n) → am_WP ((mX3_advance, 124, [some (.inr (.inr (some (3, 0)))), some (.inl (bw)), some (.inl (nI e))], []) :: g :: gs) (d + 1) (mk (up3 (up3 (up3 I 3 0 (9) ((nI i))) 3 0 (7) (nI (fm (t (i))))) 3 0 (9) ((nI (i + 1)))) X) Q) (k1 : (¬ (i < n)) → am_WP (am_psh g none :: gs) (d + 2) (mk (up3 (up3 I 3 0 (9) ((nI i))) 3 0 (7) (0)) X) Q) : am_WP ((mX3_advance, 73, [some (.inr (.inr (some (3, 0)))), some (.inl (bw)), some (.inl (nI e))], []) :: g :: gs) (d + 1) (mk I X) Q := by
  refine am_go 400 ?_
  have tk0 : I 3 0 8 = nI i := h8
  have tk1 : (up3 I 3 0 (9) ((I 3 0 8))) 3 0 8 = nI i := by first | exact ((up3_j (by decide))).trans h8 | (((try rw [tk0])); first | done | exact ((up3_j (by decide))).trans h8)
  have tk2 : (up3 I 3 0 (9) ((I 3 0 8))) 3 0 0 = nI n := by first | exact ((up3_j (by decide))).trans h0 | (((try rw [tk0])); first | done | exact ((up3_j (by decide))).trans h0)
  refine am_if (fun h1 => ?_) (fun h1 => ?_)
  · have nh1 := (lt_nat (a := i) (b := n) tk1 tk2 (by omega) (by omega)).mp h1
    refine am_f (ix_in (n := i) (N := 96) tk1 (by omega) (by decide)) ?_
    have tk3 : (((up3 I 3 0 (9) ((I 3 0 8))) 3 0 8)).toNatClampNeg = i := by first | exact ix_cl (n := i) tk1 (by omega) | (((try rw [tk1]); (try rw [tk0])); first | done | exact ix_cl (n := i) tk1 (by omega))
    have bd : (t (i)) ≤ 255 := (by have := ht (i) (by omega); omega)
    have tk4 : (up3 I 3 0 (9) ((I 3 0 8))) 23 0 (((((up3 I 3 0 (9) ((I 3 0 8))) 3 0 8)).toNatClampNeg)) = nI (t (i)) := by first | exact hb _ (by omega) | (((try rw [tk3]); (try rw [tk1]); (try rw [tk0])); first | done | exact hb _ (by omega))
    have bd : fm (t (i)) ≤ 3 := fm_le _
    refine (c_X3_formOf (b := (t (i))) tk4 (ht _ (by omega))) _ _ _ ?_
    refine am_go 7 ?_
    have tk5 : (up3 (up3 I 3 0 (9) ((I 3 0 8))) 3 0 (7) (nI (fm (t (i))))) 3 0 9 = (nI i) := by first | exact ((up3_j (by decide))).trans up3_s | (((try rw [tk0])); first | done | exact ((up3_j (by decide))).trans up3_s)
    have tk6 : (((up3 (up3 I 3 0 (9) ((I 3 0 8))) 3 0 (7) (nI (fm (t (i))))) 3 0 9) + 1) = nI (i + 1) := by first | exact (nI_addE tk5 (rfl : (1 : Int32) = nI 1)) | (((try rw [tk5]); (try rw [tk0])); first | done | exact (nI_addE tk5 (rfl : (1 : Int32) = nI 1)))
    show am_WP ((mX3_advance, 124, [some (.inr (.inr (some (3, 0)))), some (.inl (bw)), some (.inl (nI e))], []) :: g :: gs) (d + 1) (mk (up3 (up3 (up3 I 3 0 (9) ((I 3 0 8))) 3 0 (7) (nI (fm (t (i))))) 3 0 (9) (((((up3 (up3 I 3 0 (9) ((I 3 0 8))) 3 0 (7) (nI (fm (t (i))))) 3 0 9) + 1)))) X) Q
    try rw [tk6]
    try rw [tk5]
    try rw [tk0]
    exact k0 nh1
  · have nh1 := mt (lt_nat (a := i) (b := n) tk1 tk2 (by omega) (by omega)).mpr h1
    show am_WP (am_psh g none :: gs) (d + 2) (mk (up3 (up3 I 3 0 (9) ((I 3 0 8))) 3 0 (7) (0)) X) Q
    try rw [tk0]
    exact k1 nh1
set_option maxRecDepth 100000 in
set_option maxHeartbeats 4000000 in
theorem w_X3_advance_124 {I : Nat → Nat → Nat → Int32} {X : am_Z} {g : am_F} {gs : List am_F} {d : Nat} {Q : Option am_V → am_M → Prop} {t : Nat → Nat} {n : Nat} (hn : n ≤ 96) (h0 : I 3 0 0 = nI n) (hb : ∀ j, j < n → I 23 0 j = nI (t j)) (ht : ∀ j, j < n → t j < 256) {bw : Int32} {e i f : Nat} (h9 : I 3 0 9 = nI i) (hi : i ≤ n) (h7 : I 3 0 7 = nI f) (hf : f ≤ 3) (k0 : (f = 3) → am_WP ((mX3_advance, 175, [some (.inr (.inr (some (3, 0)))), some (.inl (bw)), some (.inl (nI e))], []) :: g :: gs) (d + 1) (mk I X) Q) (k1 : (¬ (f = 3)) → (n ≤ i) → am_WP ((mX3_advance, 175, [some (.inr (.inr (some (3, 0)))), some (.inl (bw)), some (.inl (nI e))], []) :: g :: gs) (d + 1) (mk I X) Q) (k2 : (¬ (f = 3)) → (¬ (n ≤ i)) → ((fm (t (i))) = f) → am_WP ((mX3_advance, 124, [some (.inr (.inr (some (3, 0)))), some (.inl (bw)), some (.inl (nI e))], []) :: g :: gs) (d + 1) (mk (up3 I 3 0 (9) ((nI (i + 1)))) X) Q) (k3 : (¬ (f = 3)) → (¬ (n ≤ i)) → (¬ ((fm (t (i))) = f)) → am_WP ((mX3_advance, 175, [some (.inr (.inr (some (3, 0)))), some (.inl (bw)), some (.inl (nI e))], []) :: g :: gs) (d + 1) (mk I X) Q) : am_WP ((mX3_advance, 124, [some (.inr (.inr (some (3, 0)))), some (.inl (bw)), some (.inl (nI e))], []) :: g :: gs) (d + 1) (mk I X) Q := by
  refine am_go 400 ?_
  have tk0 : I 3 0 7 = nI f := h7
  refine am_if (fun h1 => ?_) (fun h1 => ?_)
  · have nh1 := (eq_nat (a := f) (b := 3) tk0 (rfl : (3 : Int32) = nI 3) (by omega) (by omega)).mp h1
    refine am_cf rfl ?_
    exact am_cut (k0 nh1)
  · have nh1 := mt (eq_nat (a := f) (b := 3) tk0 (rfl : (3 : Int32) = nI 3) (by omega) (by omega)).mpr h1
    have tk1 : I 3 0 9 = nI i := h9
    have tk2 : I 3 0 0 = nI n := h0
    refine am_if (fun h2 => ?_) (fun h2 => ?_)
    · have nh2 := (le_nat (a := n) (b := i) tk2 tk1 (by omega) (by omega)).mp h2
      refine am_cf rfl ?_
      exact am_cut (k1 nh1 nh2)
    · have nh2 := mt (le_nat (a := n) (b := i) tk2 tk1 (by omega) (by omega)).mpr h2
      refine am_f (ix_in (n := i) (N := 96) tk1 (by omega) (by decide)) ?_
      have tk3 : ((I 3 0 9)).toNatClampNeg = i := by first | exact ix_cl (n := i) tk1 (by omega) | (((try rw [tk1])); first | done | exact ix_cl (n := i) tk1 (by omega))
      have bd : (t (i)) ≤ 255 := (by have := ht (i) (by omega); omega)
      have tk4 : I 23 0 ((((I 3 0 9)).toNatClampNeg)) = nI (t (i)) := by first | exact hb _ (by omega) | (((try rw [tk3]); (try rw [tk1])); first | done | exact hb _ (by omega))
      have bd : fm (t (i)) ≤ 3 := fm_le _
      refine (c_X3_formOf (b := (t (i))) tk4 (ht _ (by omega))) _ _ _ ?_
      refine am_go 400 ?_
      refine am_if (fun h3 => ?_) (fun h3 => ?_)
      · have nh3 := (eq_nat (a := (fm (t (i)))) (b := f) (rfl : (nI (fm (t (i))) : Int32) = nI (fm (t (i)))) tk0 (by omega) (by omega)).mp h3
        have tk5 : ((I 3 0 9) + 1) = nI (i + 1) := by first | exact (nI_addE tk1 (rfl : (1 : Int32) = nI 1)) | (((try rw [tk1])); first | done | exact (nI_addE tk1 (rfl : (1 : Int32) = nI 1)))
        show am_WP ((mX3_advance, 124, [some (.inr (.inr (some (3, 0)))), some (.inl (bw)), some (.inl (nI e))], []) :: g :: gs) (d + 1) (mk (up3 I 3 0 (9) ((((I 3 0 9) + 1)))) X) Q
        try rw [tk5]
        try rw [tk1]
        exact k2 nh1 nh2 nh3
      · have nh3 := mt (eq_nat (a := (fm (t (i)))) (b := f) (rfl : (nI (fm (t (i))) : Int32) = nI (fm (t (i)))) tk0 (by omega) (by omega)).mpr h3
        refine am_cf rfl ?_
        exact am_cut (k3 nh1 nh2 nh3)
set_option maxRecDepth 100000 in
set_option maxHeartbeats 4000000 in
theorem w_X3_advance_175_0 {I : Nat → Nat → Nat → Int32} {X : am_Z} {g : am_F} {gs : List am_F} {d : Nat} {Q : Option am_V → am_M → Prop} {e i f : Nat} (h8 : I 3 0 8 = nI i) (hi : i ≤ 96) (he : e ≤ 96) (h7 : I 3 0 7 = nI f) (hf : f ≤ 3) (k0 : am_WP (am_psh g none :: gs) (d + 2) (mk I X) Q) : am_WP ((mX3_advance, 175, [some (.inr (.inr (some (3, 0)))), some (.inl (0)), some (.inl (nI e))], []) :: g :: gs) (d + 1) (mk I X) Q := by
  refine am_go 400 ?_
  exact k0
set_option maxRecDepth 100000 in
set_option maxHeartbeats 4000000 in
theorem w_X3_advance_175_1 {I : Nat → Nat → Nat → Int32} {X : am_Z} {g : am_F} {gs : List am_F} {d : Nat} {Q : Option am_V → am_M → Prop} {e i f : Nat} (h8 : I 3 0 8 = nI i) (hi : i ≤ 96) (he : e ≤ 96) (h7 : I 3 0 7 = nI f) (hf : f ≤ 3) (k0 : (f = 3) → am_WP (am_psh g none :: gs) (d + 2) (mk I X) Q) (k1 : (¬ (f = 3)) → (i = e) → am_WP (am_psh g none :: gs) (d + 2) (mk (up3 I 3 0 (7) (4)) X) Q) (k2 : (¬ (f = 3)) → (¬ (i = e)) → am_WP (am_psh g none :: gs) (d + 2) (mk I X) Q) : am_WP ((mX3_advance, 175, [some (.inr (.inr (some (3, 0)))), some (.inl (1)), some (.inl (nI e))], []) :: g :: gs) (d + 1) (mk I X) Q := by
  refine am_go 400 ?_
  have tk0 : I 3 0 7 = nI f := h7
  refine am_if (fun h1 => ?_) (fun h1 => ?_)
  · have nh1 := (eq_nat (a := f) (b := 3) tk0 (rfl : (3 : Int32) = nI 3) (by omega) (by omega)).mp h1
    exact k0 nh1
  · have nh1 := mt (eq_nat (a := f) (b := 3) tk0 (rfl : (3 : Int32) = nI 3) (by omega) (by omega)).mpr h1
    have tk1 : I 3 0 8 = nI i := h8
    refine am_if (fun h2 => ?_) (fun h2 => ?_)
    · have nh2 := (eq_nat (a := i) (b := e) tk1 (rfl : (nI e : Int32) = nI e) (by omega) (by omega)).mp h2
      exact k1 nh1 nh2
    · have nh2 := mt (eq_nat (a := i) (b := e) tk1 (rfl : (nI e : Int32) = nI e) (by omega) (by omega)).mpr h2
      exact k2 nh1 nh2
theorem l_adv35 {I : Im} {X g gs d Q} {t : Nat → Nat} {n e : Nat} {bw : Int32} (hn : n ≤ 96) (h0 : I 3 0 0 = nI n) (hb : ∀ j, j < n → I 23 0 j = nI (t j)) (ht : ∀ j, j < n → t j < 256) : ∀ (m i : Nat), i + m = n →
    am_WP ((mX3_advance, 73, [some (.inr (.inr (some (3, 0)))), some (.inl bw), some (.inl (nI e))], []) :: g :: gs) (d + 1) (mk (up3 I 3 0 8 (nI (skB t m i))) X) Q →
    am_WP ((mX3_advance, 35, [some (.inr (.inr (some (3, 0)))), some (.inl bw), some (.inl (nI e))], []) :: g :: gs) (d + 1) (mk (up3 I 3 0 8 (nI i)) X) Q
  | 0, i, hi, K => w_X3_advance_35 (I := up3 I 3 0 8 (nI i)) (t := t) (n := n) (i := i) hn (by rw [up3_j (by decide)]; exact h0) hb ht up3_s (by omega) (fun _ => K) (fun z => absurd (by omega) z) (fun z => absurd (by omega) z)
  | m + 1, i, hi, K => by
    rw [skB] at K
    refine w_X3_advance_35 (I := up3 I 3 0 8 (nI i)) (t := t) (n := n) (i := i) hn (by rw [up3_j (by decide)]; exact h0) hb ht up3_s (by omega) (fun z => absurd z (by omega)) (fun _ z => ?_) (fun _ z => ?_)
    · rw [if_pos z] at K
      rw [up3_3]
      exact l_adv35 hn h0 hb ht m (i + 1) (by omega) K
    · rw [if_neg z] at K
      exact K
theorem l_adv124 {I : Im} {X g gs d Q} {t : Nat → Nat} {n e f : Nat} {bw : Int32} (hn : n ≤ 96) (h0 : I 3 0 0 = nI n) (hb : ∀ j, j < n → I 23 0 j = nI (t j)) (ht : ∀ j, j < n → t j < 256) (h7 : I 3 0 7 = nI f) (hf : f ≤ 3) (h3 : ¬ f = 3) : ∀ (m i : Nat), i + m = n →
    am_WP ((mX3_advance, 175, [some (.inr (.inr (some (3, 0)))), some (.inl bw), some (.inl (nI e))], []) :: g :: gs) (d + 1) (mk (up3 I 3 0 9 (nI (scF t f m i))) X) Q →
    am_WP ((mX3_advance, 124, [some (.inr (.inr (some (3, 0)))), some (.inl bw), some (.inl (nI e))], []) :: g :: gs) (d + 1) (mk (up3 I 3 0 9 (nI i)) X) Q
  | 0, i, hi, K => w_X3_advance_124 (I := up3 I 3 0 9 (nI i)) (t := t) (n := n) (i := i) (f := f) hn (by rw [up3_j (by decide)]; exact h0) hb ht up3_s (by omega) (by rw [up3_j (by decide)]; exact h7) hf (fun z => absurd z h3) (fun _ _ => K) (fun _ z => absurd (by omega) z) (fun _ z => absurd (by omega) z)
  | m + 1, i, hi, K => by
    rw [scF] at K
    refine w_X3_advance_124 (I := up3 I 3 0 9 (nI i)) (t := t) (n := n) (i := i) (f := f) hn (by rw [up3_j (by decide)]; exact h0) hb ht up3_s (by omega) (by rw [up3_j (by decide)]; exact h7) hf (fun z => absurd z h3) (fun _ z => absurd z (by omega)) (fun _ _ z => ?_) (fun _ _ z => ?_)
    · rw [if_pos z] at K
      rw [up3_3]
      exact l_adv124 hn h0 hb ht h7 hf h3 m (i + 1) (by omega) K
    · rw [if_neg z] at K
      exact K
def RdT (I : Im) (t : Nat → Nat) (n : Nat) (tk : Tk) : Prop := I 3 0 0 = nI n ∧ (∀ j, j < n → I 23 0 j = nI (t j)) ∧ I 3 0 7 = nI tk.1 ∧ I 3 0 8 = nI tk.2.1 ∧ I 3 0 9 = nI tk.2.2
def FrA (I I' : Im) : Prop := (∀ g, g ≠ 3 → I' g = I g) ∧ ∀ j, j ≠ 7 → j ≠ 8 → j ≠ 9 → I' 3 0 j = I 3 0 j
theorem FrA_r {I} : FrA I I := ⟨fun _ _ => rfl, fun _ _ _ _ => rfl⟩
theorem FrA_3 {I I' j v} (h : FrA I I') (hj : j = 7 ∨ j = 8 ∨ j = 9) : FrA I (up3 I' 3 0 j v) := ⟨fun g hg => by rw [up3_g hg]; exact h.1 g hg, fun i a b c => by rw [up3_j (by omega)]; exact h.2 i a b c⟩
theorem RdT_F {I I' t n k s e} (h0 : I 3 0 0 = nI n) (hb : ∀ j, j < n → I 23 0 j = nI (t j)) (F : FrA I I') (h7 : I' 3 0 7 = nI k) (h8 : I' 3 0 8 = nI s) (h9 : I' 3 0 9 = nI e) : RdT I' t n (k, s, e) := ⟨by rw [F.2 0 (by decide) (by decide) (by decide)]; exact h0, by rw [F.1 23 (by decide)]; exact hb, h7, h8, h9⟩
theorem c_X3_advance {I : Im} {X d} {t : Nat → Nat} {n k st e : Nat} (hn : n ≤ 96) (h0 : I 3 0 0 = nI n) (hb : ∀ j, j < n → I 23 0 j = nI (t j)) (ht : ∀ j, j < n → t j < 256) (hk : k ≤ 4) (he : e ≤ n) (h7 : I 3 0 7 = nI k) (h9 : I 3 0 9 = nI e) : Sw mX3_advance [.inr (.inr (some (3, 0)))] (d + 1) I X none (fun I' => RdT I' t n (nxT t n (k, st, e)) ∧ FrA I I') := fun g gs Q K => by
  have main : ∀ bw : Int32, (bw = 1 ∧ (k = 1 ∨ k = 2) ∨ bw = 0 ∧ ¬ (k = 1 ∨ k = 2)) → am_WP ((mX3_advance, 35, [some (.inr (.inr (some (3, 0)))), some (.inl bw), some (.inl (nI e))], []) :: g :: gs) (d + 1) (mk (up3 I 3 0 8 (nI e)) X) Q := fun bw hbw => by
    have hS := nxS_b (t := t) he
    refine l_adv35 hn h0 hb ht (n - e) e (by omega) ?_
    show am_WP ((mX3_advance, 73, [some (.inr (.inr (some (3, 0)))), some (.inl bw), some (.inl (nI e))], []) :: g :: gs) (d + 1) (mk (up3 I 3 0 8 (nI (nxS t n e))) X) Q
    refine w_X3_advance_73 (I := up3 I 3 0 8 (nI (nxS t n e))) (t := t) (n := n) (i := nxS t n e) hn (by rw [up3_j (by decide)]; exact h0) hb ht up3_s hS.2 (fun hlt => ?_) (fun hge => ?_)
    · have hE := nxE_b (t := t) hlt
      have hf := fm_le (t (nxS t n e))
      have hT : nxT t n (k, st, e) = (nxK t k e (nxS t n e), nxS t n e, nxE t n (nxS t n e)) := if_pos hlt
      rw [hT] at K
      have c0 : up3 (up3 (up3 I 3 0 8 (nI (nxS t n e))) 3 0 9 (nI (nxS t n e))) 3 0 7 (nI (fm (t (nxS t n e)))) 3 0 0 = nI n := by rw [up3_j (by decide), up3_j (by decide), up3_j (by decide)]; exact h0
      have F0 : FrA I (up3 (up3 (up3 I 3 0 8 (nI (nxS t n e))) 3 0 9 (nI (nxS t n e))) 3 0 7 (nI (fm (t (nxS t n e))))) := FrA_3 (FrA_3 (FrA_3 FrA_r (by decide)) (by decide)) (by decide)
      have e8 : up3 (up3 (up3 I 3 0 8 (nI (nxS t n e))) 3 0 9 (nI (nxS t n e))) 3 0 7 (nI (fm (t (nxS t n e)))) 3 0 8 = nI (nxS t n e) := by rw [up3_j (by decide), up3_j (by decide), up3_s]
      have e7 : up3 (up3 (up3 I 3 0 8 (nI (nxS t n e))) 3 0 9 (nI (nxS t n e))) 3 0 7 (nI (fm (t (nxS t n e)))) 3 0 7 = nI (fm (t (nxS t n e))) := up3_s
      have hb0 : ∀ j, j < n → up3 (up3 (up3 I 3 0 8 (nI (nxS t n e))) 3 0 9 (nI (nxS t n e))) 3 0 7 (nI (fm (t (nxS t n e)))) 23 0 j = nI (t j) := hb
      generalize up3 (up3 (up3 I 3 0 8 (nI (nxS t n e))) 3 0 9 (nI (nxS t n e))) 3 0 7 (nI (fm (t (nxS t n e)))) = J at c0 F0 e8 e7 hb0
      have fin : am_WP ((mX3_advance, 175, [some (.inr (.inr (some (3, 0)))), some (.inl bw), some (.inl (nI e))], []) :: g :: gs) (d + 1) (mk (up3 J 3 0 9 (nI (nxE t n (nxS t n e)))) X) Q := by
        have F1 : FrA I (up3 J 3 0 9 (nI (nxE t n (nxS t n e)))) := FrA_3 F0 (by decide)
        have e8' : up3 J 3 0 9 (nI (nxE t n (nxS t n e))) 3 0 8 = nI (nxS t n e) := by rw [up3_j (by decide)]; exact e8
        have e7' : up3 J 3 0 9 (nI (nxE t n (nxS t n e))) 3 0 7 = nI (fm (t (nxS t n e))) := by rw [up3_j (by decide)]; exact e7
        have kk : ∀ v, nxK t k e (nxS t n e) = v → up3 J 3 0 9 (nI (nxE t n (nxS t n e))) 3 0 7 = nI v → am_WP (am_psh g none :: gs) (d + 2) (mk (up3 J 3 0 9 (nI (nxE t n (nxS t n e)))) X) Q := fun v hv h => K _ ⟨RdT_F h0 hb F1 (by rw [hv]; exact h) e8' up3_s, F1⟩
        rcases hbw with ⟨rfl, hk12⟩ | ⟨rfl, hk12⟩
        · refine w_X3_advance_175_1 (I := up3 J 3 0 9 (nI (nxE t n (nxS t n e)))) e8' (by omega) (by omega) e7' hf (fun z => ?_) (fun z z2 => ?_) (fun z z2 => ?_)
          · exact kk 3 (by unfold nxK; rw [if_neg (fun y => y.2.1 z), z]) (by rw [e7', z])
          · have F2 : FrA I (up3 (up3 J 3 0 9 (nI (nxE t n (nxS t n e)))) 3 0 7 4) := FrA_3 F1 (by decide)
            have hv : nxK t k e (nxS t n e) = 4 := by unfold nxK; rw [if_pos ⟨hk12, z, z2⟩]
            exact K _ ⟨RdT_F h0 hb F2 (by rw [hv]; exact up3_s) (by rw [up3_j (by decide)]; exact e8') (by rw [up3_j (by decide)]; exact up3_s), F2⟩
          · exact kk _ rfl (by unfold nxK; rw [if_neg (fun y => z2 y.2.2), e7'])
        · exact w_X3_advance_175_0 (I := up3 J 3 0 9 (nI (nxE t n (nxS t n e)))) e8' (by omega) (by omega) e7' hf (kk _ rfl (by unfold nxK; rw [if_neg (fun y => hk12 y.1), e7']))
      by_cases h3 : fm (t (nxS t n e)) = 3
      · rw [show nxE t n (nxS t n e) = nxS t n e + 1 by unfold nxE; rw [if_pos h3]] at fin
        exact w_X3_advance_124 (I := up3 J 3 0 9 (nI (nxS t n e + 1))) (t := t) (n := n) (i := nxS t n e + 1) (f := fm (t (nxS t n e))) hn (by rw [up3_j (by decide)]; exact c0) hb0 ht up3_s (by omega) (by rw [up3_j (by decide)]; exact e7) hf (fun _ => fin) (fun z => absurd h3 z) (fun z => absurd h3 z) (fun z => absurd h3 z)
      · rw [show nxE t n (nxS t n e) = scF t (fm (t (nxS t n e))) (n - (nxS t n e + 1)) (nxS t n e + 1) by unfold nxE; rw [if_neg h3]] at fin
        exact l_adv124 hn c0 hb0 ht e7 hf h3 (n - (nxS t n e + 1)) (nxS t n e + 1) (by omega) fin
    · have hT : nxT t n (k, st, e) = (0, nxS t n e, nxS t n e) := if_neg hge
      rw [hT] at K
      have F2 : FrA I (up3 (up3 (up3 I 3 0 8 (nI (nxS t n e))) 3 0 9 (nI (nxS t n e))) 3 0 7 0) := FrA_3 (FrA_3 (FrA_3 FrA_r (by decide)) (by decide)) (by decide)
      exact K _ ⟨RdT_F h0 hb F2 up3_s (by rw [up3_j (by decide), up3_j (by decide)]; exact up3_s) (by rw [up3_j (by decide)]; exact up3_s), F2⟩
  exact w_X3_advance hk he hn h7 h9 (fun z => main 1 (Or.inl ⟨rfl, Or.inl z⟩)) (fun _ z => main 1 (Or.inl ⟨rfl, Or.inr z⟩)) (fun z1 z2 => main 0 (Or.inr ⟨rfl, fun z => z.elim z1 z2⟩))
