/-! levels and pieces: the walks -/
set_option maxRecDepth 100000 in
set_option maxHeartbeats 4000000 in
theorem w_pc_num_0 {I : Nat → Nat → Nat → Int32} {X : am_Z} {g : am_F} {gs : List am_F} {d : Nat} {Q : Option am_V → am_M → Prop} {t : Nat → Nat} {n : Nat} {tk : Tk} (hn : n ≤ 96) (ht : ∀ j, j < n → t j < 256) (hT : RdT I t n tk) (hW : Wt t n tk) {P : Im → Prop} (k2 : tk.1 = 2) (hc : Sw mX3_takesNumber [.inr (.inr (some (3, 0)))] (d + 4) I X (some (.inl 0)) P) (k0 : ∀ (I1 : Im), (P I1) → am_WP (am_psh g (some (.inl (0))) :: gs) (d + 6) (mk I1 X) Q) : am_WP (am_entry mX3_takesPiece [.inr (.inr (some (3, 0)))] :: g :: gs) (d + 5) (mk I X) Q := by
  obtain ⟨w1, w2, w3, w4, w5, w6⟩ := id hW
  refine am_go 400 ?_
  have tk0 : I 3 0 7 = nI tk.1 := hT.2.2.1
  refine am_t ((eq_nat (a := tk.1) (b := 2) tk0 (rfl : (2 : Int32) = nI 2) (by omega) (by omega)).mpr k2) ?_
  refine (hc) _ _ _ ?_
  intro I1 p1
  refine am_go 400 ?_
  exact k0 I1 p1
set_option maxRecDepth 100000 in
set_option maxHeartbeats 4000000 in
theorem w_pc_num_1 {I : Nat → Nat → Nat → Int32} {X : am_Z} {g : am_F} {gs : List am_F} {d : Nat} {Q : Option am_V → am_M → Prop} {t : Nat → Nat} {n : Nat} {tk : Tk} (hn : n ≤ 96) (ht : ∀ j, j < n → t j < 256) (hT : RdT I t n tk) (hW : Wt t n tk) {P : Im → Prop} (k2 : tk.1 = 2) (hc : Sw mX3_takesNumber [.inr (.inr (some (3, 0)))] (d + 4) I X (some (.inl 1)) P) (k0 : ∀ (I1 : Im), (P I1) → am_WP (am_psh g (some (.inl (1))) :: gs) (d + 6) (mk I1 X) Q) : am_WP (am_entry mX3_takesPiece [.inr (.inr (some (3, 0)))] :: g :: gs) (d + 5) (mk I X) Q := by
  obtain ⟨w1, w2, w3, w4, w5, w6⟩ := id hW
  refine am_go 400 ?_
  have tk0 : I 3 0 7 = nI tk.1 := hT.2.2.1
  refine am_t ((eq_nat (a := tk.1) (b := 2) tk0 (rfl : (2 : Int32) = nI 2) (by omega) (by omega)).mpr k2) ?_
  refine (hc) _ _ _ ?_
  intro I1 p1
  refine am_go 400 ?_
  exact k0 I1 p1
set_option maxRecDepth 100000 in
set_option maxHeartbeats 4000000 in
theorem w_pc_name_0 {I : Nat → Nat → Nat → Int32} {X : am_Z} {g : am_F} {gs : List am_F} {d : Nat} {Q : Option am_V → am_M → Prop} {t : Nat → Nat} {n : Nat} {tk : Tk} (hn : n ≤ 96) (ht : ∀ j, j < n → t j < 256) (hT : RdT I t n tk) (hW : Wt t n tk) {P : Im → Prop} (k1 : tk.1 = 1) (hc : Sw mX3_takesName [.inr (.inr (some (3, 0)))] (d + 4) I X (some (.inl 0)) P) (k0 : ∀ (I1 : Im), (P I1) → am_WP (am_psh g (some (.inl (0))) :: gs) (d + 6) (mk I1 X) Q) : am_WP (am_entry mX3_takesPiece [.inr (.inr (some (3, 0)))] :: g :: gs) (d + 5) (mk I X) Q := by
  obtain ⟨w1, w2, w3, w4, w5, w6⟩ := id hW
  refine am_go 400 ?_
  have tk0 : I 3 0 7 = nI tk.1 := hT.2.2.1
  refine am_f (mt (eq_nat (a := tk.1) (b := 2) tk0 (rfl : (2 : Int32) = nI 2) (by omega) (by omega)).mp (by omega)) ?_
  refine am_t ((eq_nat (a := tk.1) (b := 1) tk0 (rfl : (1 : Int32) = nI 1) (by omega) (by omega)).mpr k1) ?_
  refine (hc) _ _ _ ?_
  intro I1 p1
  refine am_go 400 ?_
  exact k0 I1 p1
set_option maxRecDepth 100000 in
set_option maxHeartbeats 4000000 in
theorem w_pc_name_1 {I : Nat → Nat → Nat → Int32} {X : am_Z} {g : am_F} {gs : List am_F} {d : Nat} {Q : Option am_V → am_M → Prop} {t : Nat → Nat} {n : Nat} {tk : Tk} (hn : n ≤ 96) (ht : ∀ j, j < n → t j < 256) (hT : RdT I t n tk) (hW : Wt t n tk) {P : Im → Prop} (k1 : tk.1 = 1) (hc : Sw mX3_takesName [.inr (.inr (some (3, 0)))] (d + 4) I X (some (.inl 1)) P) (k0 : ∀ (I1 : Im), (P I1) → am_WP (am_psh g (some (.inl (1))) :: gs) (d + 6) (mk I1 X) Q) : am_WP (am_entry mX3_takesPiece [.inr (.inr (some (3, 0)))] :: g :: gs) (d + 5) (mk I X) Q := by
  obtain ⟨w1, w2, w3, w4, w5, w6⟩ := id hW
  refine am_go 400 ?_
  have tk0 : I 3 0 7 = nI tk.1 := hT.2.2.1
  refine am_f (mt (eq_nat (a := tk.1) (b := 2) tk0 (rfl : (2 : Int32) = nI 2) (by omega) (by omega)).mp (by omega)) ?_
  refine am_t ((eq_nat (a := tk.1) (b := 1) tk0 (rfl : (1 : Int32) = nI 1) (by omega) (by omega)).mpr k1) ?_
  refine (hc) _ _ _ ?_
  intro I1 p1
  refine am_go 400 ?_
  exact k0 I1 p1
set_option maxRecDepth 100000 in
set_option maxHeartbeats 4000000 in
theorem w_pc_not_0 {I : Nat → Nat → Nat → Int32} {X : am_Z} {g : am_F} {gs : List am_F} {d : Nat} {Q : Option am_V → am_M → Prop} {t : Nat → Nat} {n : Nat} {tk : Tk} (hn : n ≤ 96) (ht : ∀ j, j < n → t j < 256) (hT : RdT I t n tk) (hW : Wt t n tk) {P : Im → Prop} (k3 : tk.1 = 3) (kb : t tk.2.1 = 33) (hc : Sw mX3_takesNot [.inr (.inr (some (3, 0)))] (d + 4) I X (some (.inl 0)) P) (k0 : ∀ (I1 : Im), (P I1) → am_WP (am_psh g (some (.inl (0))) :: gs) (d + 6) (mk I1 X) Q) : am_WP (am_entry mX3_takesPiece [.inr (.inr (some (3, 0)))] :: g :: gs) (d + 5) (mk I X) Q := by
  obtain ⟨w1, w2, w3, w4, w5, w6⟩ := id hW
  refine am_go 400 ?_
  have tk0 : I 3 0 7 = nI tk.1 := hT.2.2.1
  refine am_f (mt (eq_nat (a := tk.1) (b := 2) tk0 (rfl : (2 : Int32) = nI 2) (by omega) (by omega)).mp (by omega)) ?_
  refine am_f (mt (eq_nat (a := tk.1) (b := 1) tk0 (rfl : (1 : Int32) = nI 1) (by omega) (by omega)).mp (by omega)) ?_
  refine (c_X3_isSign (tk := tk) (b := 33) hn ht hT hW (rfl : (33 : Int32) = nI 33) (by omega)) _ _ _ ?_
  refine am_go 400 ?_
  refine am_f (bI_1.mpr (⟨k3, kb⟩)) ?_
  refine (hc) _ _ _ ?_
  intro I1 p1
  refine am_go 400 ?_
  exact k0 I1 p1
set_option maxRecDepth 100000 in
set_option maxHeartbeats 4000000 in
theorem w_pc_not_1 {I : Nat → Nat → Nat → Int32} {X : am_Z} {g : am_F} {gs : List am_F} {d : Nat} {Q : Option am_V → am_M → Prop} {t : Nat → Nat} {n : Nat} {tk : Tk} (hn : n ≤ 96) (ht : ∀ j, j < n → t j < 256) (hT : RdT I t n tk) (hW : Wt t n tk) {P : Im → Prop} (k3 : tk.1 = 3) (kb : t tk.2.1 = 33) (hc : Sw mX3_takesNot [.inr (.inr (some (3, 0)))] (d + 4) I X (some (.inl 1)) P) (k0 : ∀ (I1 : Im), (P I1) → am_WP (am_psh g (some (.inl (1))) :: gs) (d + 6) (mk I1 X) Q) : am_WP (am_entry mX3_takesPiece [.inr (.inr (some (3, 0)))] :: g :: gs) (d + 5) (mk I X) Q := by
  obtain ⟨w1, w2, w3, w4, w5, w6⟩ := id hW
  refine am_go 400 ?_
  have tk0 : I 3 0 7 = nI tk.1 := hT.2.2.1
  refine am_f (mt (eq_nat (a := tk.1) (b := 2) tk0 (rfl : (2 : Int32) = nI 2) (by omega) (by omega)).mp (by omega)) ?_
  refine am_f (mt (eq_nat (a := tk.1) (b := 1) tk0 (rfl : (1 : Int32) = nI 1) (by omega) (by omega)).mp (by omega)) ?_
  refine (c_X3_isSign (tk := tk) (b := 33) hn ht hT hW (rfl : (33 : Int32) = nI 33) (by omega)) _ _ _ ?_
  refine am_go 400 ?_
  refine am_f (bI_1.mpr (⟨k3, kb⟩)) ?_
  refine (hc) _ _ _ ?_
  intro I1 p1
  refine am_go 400 ?_
  exact k0 I1 p1
set_option maxRecDepth 100000 in
set_option maxHeartbeats 4000000 in
theorem w_pc_rnd_0 {I : Nat → Nat → Nat → Int32} {X : am_Z} {g : am_F} {gs : List am_F} {d : Nat} {Q : Option am_V → am_M → Prop} {t : Nat → Nat} {n : Nat} {tk : Tk} (hn : n ≤ 96) (ht : ∀ j, j < n → t j < 256) (hT : RdT I t n tk) (hW : Wt t n tk) {P : Im → Prop} (k3 : tk.1 = 3) (kb : t tk.2.1 = 40) (hc : Sw mX3_takesRound [.inr (.inr (some (3, 0)))] (d + 4) I X (some (.inl 0)) P) (k0 : ∀ (I1 : Im), (P I1) → am_WP (am_psh g (some (.inl (0))) :: gs) (d + 6) (mk I1 X) Q) : am_WP (am_entry mX3_takesPiece [.inr (.inr (some (3, 0)))] :: g :: gs) (d + 5) (mk I X) Q := by
  obtain ⟨w1, w2, w3, w4, w5, w6⟩ := id hW
  refine am_go 400 ?_
  have tk0 : I 3 0 7 = nI tk.1 := hT.2.2.1
  refine am_f (mt (eq_nat (a := tk.1) (b := 2) tk0 (rfl : (2 : Int32) = nI 2) (by omega) (by omega)).mp (by omega)) ?_
  refine am_f (mt (eq_nat (a := tk.1) (b := 1) tk0 (rfl : (1 : Int32) = nI 1) (by omega) (by omega)).mp (by omega)) ?_
  refine (c_X3_isSign (tk := tk) (b := 33) hn ht hT hW (rfl : (33 : Int32) = nI 33) (by omega)) _ _ _ ?_
  refine am_go 400 ?_
  refine am_t (bI_0.mpr (fun z => by omega)) ?_
  refine (c_X3_isSign (tk := tk) (b := 40) hn ht hT hW (rfl : (40 : Int32) = nI 40) (by omega)) _ _ _ ?_
  refine am_go 400 ?_
  refine am_f (bI_1.mpr (⟨k3, kb⟩)) ?_
  refine (hc) _ _ _ ?_
  intro I1 p1
  refine am_go 400 ?_
  exact k0 I1 p1
set_option maxRecDepth 100000 in
set_option maxHeartbeats 4000000 in
theorem w_pc_rnd_1 {I : Nat → Nat → Nat → Int32} {X : am_Z} {g : am_F} {gs : List am_F} {d : Nat} {Q : Option am_V → am_M → Prop} {t : Nat → Nat} {n : Nat} {tk : Tk} (hn : n ≤ 96) (ht : ∀ j, j < n → t j < 256) (hT : RdT I t n tk) (hW : Wt t n tk) {P : Im → Prop} (k3 : tk.1 = 3) (kb : t tk.2.1 = 40) (hc : Sw mX3_takesRound [.inr (.inr (some (3, 0)))] (d + 4) I X (some (.inl 1)) P) (k0 : ∀ (I1 : Im), (P I1) → am_WP (am_psh g (some (.inl (1))) :: gs) (d + 6) (mk I1 X) Q) : am_WP (am_entry mX3_takesPiece [.inr (.inr (some (3, 0)))] :: g :: gs) (d + 5) (mk I X) Q := by
  obtain ⟨w1, w2, w3, w4, w5, w6⟩ := id hW
  refine am_go 400 ?_
  have tk0 : I 3 0 7 = nI tk.1 := hT.2.2.1
  refine am_f (mt (eq_nat (a := tk.1) (b := 2) tk0 (rfl : (2 : Int32) = nI 2) (by omega) (by omega)).mp (by omega)) ?_
  refine am_f (mt (eq_nat (a := tk.1) (b := 1) tk0 (rfl : (1 : Int32) = nI 1) (by omega) (by omega)).mp (by omega)) ?_
  refine (c_X3_isSign (tk := tk) (b := 33) hn ht hT hW (rfl : (33 : Int32) = nI 33) (by omega)) _ _ _ ?_
  refine am_go 400 ?_
  refine am_t (bI_0.mpr (fun z => by omega)) ?_
  refine (c_X3_isSign (tk := tk) (b := 40) hn ht hT hW (rfl : (40 : Int32) = nI 40) (by omega)) _ _ _ ?_
  refine am_go 400 ?_
  refine am_f (bI_1.mpr (⟨k3, kb⟩)) ?_
  refine (hc) _ _ _ ?_
  intro I1 p1
  refine am_go 400 ?_
  exact k0 I1 p1
set_option maxRecDepth 100000 in
set_option maxHeartbeats 4000000 in
theorem w_pc_bad {I : Nat → Nat → Nat → Int32} {X : am_Z} {g : am_F} {gs : List am_F} {d : Nat} {Q : Option am_V → am_M → Prop} {t : Nat → Nat} {n : Nat} {tk : Tk} (hn : n ≤ 96) (ht : ∀ j, j < n → t j < 256) (hT : RdT I t n tk) (hW : Wt t n tk) {P : Im → Prop} (k2 : ¬ tk.1 = 2) (k1 : ¬ tk.1 = 1) (k3 : ¬ (tk.1 = 3 ∧ t tk.2.1 = 33)) (k4 : ¬ (tk.1 = 3 ∧ t tk.2.1 = 40)) (k0 : am_WP (am_psh g (some (.inl (0))) :: gs) (d + 6) (mk I X) Q) : am_WP (am_entry mX3_takesPiece [.inr (.inr (some (3, 0)))] :: g :: gs) (d + 5) (mk I X) Q := by
  obtain ⟨w1, w2, w3, w4, w5, w6⟩ := id hW
  refine am_go 400 ?_
  have tk0 : I 3 0 7 = nI tk.1 := hT.2.2.1
  refine am_f (mt (eq_nat (a := tk.1) (b := 2) tk0 (rfl : (2 : Int32) = nI 2) (by omega) (by omega)).mp k2) ?_
  refine am_f (mt (eq_nat (a := tk.1) (b := 1) tk0 (rfl : (1 : Int32) = nI 1) (by omega) (by omega)).mp k1) ?_
  refine (c_X3_isSign (tk := tk) (b := 33) hn ht hT hW (rfl : (33 : Int32) = nI 33) (by omega)) _ _ _ ?_
  refine am_go 400 ?_
  refine am_t (bI_0.mpr k3) ?_
  refine (c_X3_isSign (tk := tk) (b := 40) hn ht hT hW (rfl : (40 : Int32) = nI 40) (by omega)) _ _ _ ?_
  refine am_go 400 ?_
  refine am_t (bI_0.mpr k4) ?_
  exact k0
set_option maxRecDepth 100000 in
set_option maxHeartbeats 4000000 in
theorem w_not_8 {I : Nat → Nat → Nat → Int32} {X : am_Z} {g : am_F} {gs : List am_F} {d : Nat} {Q : Option am_V → am_M → Prop} {t : Nat → Nat} {n key ro no : Nat} {tk : Tk} {l : List (Nat × Nat)} (hn : n ≤ 96) (ht : ∀ j, j < n → t j < 256) (hT : RdT I t n tk) (hS : RdS I key ro no l) (hW : Wt t n tk) (hno : no ≤ 8) (hro : ro ≤ 8) (h8 : 8 ≤ no) (k0 : am_WP (am_psh g (some (.inl (0))) :: gs) (d + 5) (mk I X) Q) : am_WP (am_entry mX3_takesNot [.inr (.inr (some (3, 0)))] :: g :: gs) (d + 4) (mk I X) Q := by
  obtain ⟨w1, w2, w3, w4, w5, w6⟩ := id hW
  refine am_go 400 ?_
  have tk0 : I 3 0 11 = nI no := hS.2.2.2.2.2
  refine am_f (mt (lt_nat (a := no) (b := 8) tk0 (rfl : (8 : Int32) = nI 8) (by omega) (by omega)).mp (by omega)) ?_
  exact k0
set_option maxRecDepth 100000 in
set_option maxHeartbeats 4000000 in
theorem w_not_0 {I : Nat → Nat → Nat → Int32} {X : am_Z} {g : am_F} {gs : List am_F} {d : Nat} {Q : Option am_V → am_M → Prop} {t : Nat → Nat} {n key ro no : Nat} {tk : Tk} {l : List (Nat × Nat)} (hn : n ≤ 96) (ht : ∀ j, j < n → t j < 256) (hT : RdT I t n tk) (hS : RdS I key ro no l) (hW : Wt t n tk) (hno : no ≤ 8) (hro : ro ≤ 8) (h8 : no < 8) {q : Pa} (hc : ∀ I1 : Im, RdT I1 t n (nxT t n tk) ∧ FrA (up3 I 3 0 11 (nI (no + 1))) I1 → Sw mX3_takesPiece [.inr (.inr (some (3, 0)))] (d + 3) I1 X (some (.inl 0)) (PrC I1 t n key ro (no + 1) (false, q))) (k0 : ∀ (I1 : Im), (RdT I1 t n (nxT t n (tk.1, tk.2.1, tk.2.2)) ∧ FrA (up3 I 3 0 (11) ((nI (no + 1)))) I1) → ∀ (I2 : Im), (PrC I1 t n key ro (no + 1) (false, q) I2) → am_WP (am_psh g (some (.inl (0))) :: gs) (d + 5) (mk I2 X) Q) : am_WP (am_entry mX3_takesNot [.inr (.inr (some (3, 0)))] :: g :: gs) (d + 4) (mk I X) Q := by
  obtain ⟨w1, w2, w3, w4, w5, w6⟩ := id hW
  refine am_go 400 ?_
  have tk0 : I 3 0 11 = nI no := hS.2.2.2.2.2
  refine am_t ((lt_nat (a := no) (b := 8) tk0 (rfl : (8 : Int32) = nI 8) (by omega) (by omega)).mpr h8) ?_
  have tk1 : ((I 3 0 11) + 1) = nI (no + 1) := by first | exact (nI_addE tk0 (rfl : (1 : Int32) = nI 1)) | (((try rw [tk0])); first | done | exact (nI_addE tk0 (rfl : (1 : Int32) = nI 1)))
  refine (c_X3_advance (I := (up3 I 3 0 (11) ((((I 3 0 11) + 1))))) (t := t) (n := n) (k := tk.1) (st := tk.2.1) (e := tk.2.2) hn (RdT_u hT (Or.inr ⟨rfl, by decide⟩)).1 hT.2.1 ht hW.2.2.1 hW.2.1 (RdT_u hT (Or.inr ⟨rfl, by decide⟩)).2.2.1 (RdT_u hT (Or.inr ⟨rfl, by decide⟩)).2.2.2.2) _ _ _ ?_
  intro I1 p1
  have p1 : RdT I1 t n (nxT t n (tk.1, tk.2.1, tk.2.2)) ∧ FrA (up3 I 3 0 (11) ((((I 3 0 11) + 1)))) I1 := p1
  try rw [tk1] at p1
  try rw [tk0] at p1
  refine am_go 400 ?_
  refine (hc I1 p1) _ _ _ ?_
  intro I2 p2
  refine am_go 400 ?_
  exact k0 I1 p1 I2 p2
set_option maxRecDepth 100000 in
set_option maxHeartbeats 4000000 in
theorem w_not_1 {I : Nat → Nat → Nat → Int32} {X : am_Z} {g : am_F} {gs : List am_F} {d : Nat} {Q : Option am_V → am_M → Prop} {t : Nat → Nat} {n key ro no : Nat} {tk : Tk} {l : List (Nat × Nat)} (hn : n ≤ 96) (ht : ∀ j, j < n → t j < 256) (hT : RdT I t n tk) (hS : RdS I key ro no l) (hW : Wt t n tk) (hno : no ≤ 8) (hro : ro ≤ 8) (h8 : no < 8) {q : Pa} (hq : q.2.length < 96) (hc : ∀ I1 : Im, RdT I1 t n (nxT t n tk) ∧ FrA (up3 I 3 0 11 (nI (no + 1))) I1 → Sw mX3_takesPiece [.inr (.inr (some (3, 0)))] (d + 3) I1 X (some (.inl 1)) (PrC I1 t n key ro (no + 1) (true, q))) (k0 : ∀ (I1 : Im), (RdT I1 t n (nxT t n (tk.1, tk.2.1, tk.2.2)) ∧ FrA (up3 I 3 0 (11) ((nI (no + 1)))) I1) → ∀ (I2 : Im), (PrC I1 t n key ro (no + 1) (true, q) I2) → am_WP (am_psh g (some (.inl (1))) :: gs) (d + 5) (mk (up3 (up3 (up3 I2 3 0 (11) ((nI ((no + 1) - 1)))) 24 0 (q.2.length) ((-19))) 3 0 (6) ((nI (q.2.length + 1)))) X) Q) : am_WP (am_entry mX3_takesNot [.inr (.inr (some (3, 0)))] :: g :: gs) (d + 4) (mk I X) Q := by
  obtain ⟨w1, w2, w3, w4, w5, w6⟩ := id hW
  refine am_go 400 ?_
  have tk0 : I 3 0 11 = nI no := hS.2.2.2.2.2
  refine am_t ((lt_nat (a := no) (b := 8) tk0 (rfl : (8 : Int32) = nI 8) (by omega) (by omega)).mpr h8) ?_
  have tk1 : ((I 3 0 11) + 1) = nI (no + 1) := by first | exact (nI_addE tk0 (rfl : (1 : Int32) = nI 1)) | (((try rw [tk0])); first | done | exact (nI_addE tk0 (rfl : (1 : Int32) = nI 1)))
  refine (c_X3_advance (I := (up3 I 3 0 (11) ((((I 3 0 11) + 1))))) (t := t) (n := n) (k := tk.1) (st := tk.2.1) (e := tk.2.2) hn (RdT_u hT (Or.inr ⟨rfl, by decide⟩)).1 hT.2.1 ht hW.2.2.1 hW.2.1 (RdT_u hT (Or.inr ⟨rfl, by decide⟩)).2.2.1 (RdT_u hT (Or.inr ⟨rfl, by decide⟩)).2.2.2.2) _ _ _ ?_
  intro I1 p1
  have p1 : RdT I1 t n (nxT t n (tk.1, tk.2.1, tk.2.2)) ∧ FrA (up3 I 3 0 (11) ((((I 3 0 11) + 1)))) I1 := p1
  try rw [tk1] at p1
  try rw [tk0] at p1
  refine am_go 400 ?_
  refine (hc I1 p1) _ _ _ ?_
  intro I2 p2
  refine am_go 400 ?_
  have tk2 : I2 3 0 11 = nI (no + 1) := (p2.2.2 rfl).2.2.2.2.2.2
  have tk3 : ((I2 3 0 11) - 1) = nI ((no + 1) - 1) := by first | exact (nI_subE tk2 (rfl : (1 : Int32) = nI 1) (by omega)) | (((try rw [tk2])); first | done | exact (nI_subE tk2 (rfl : (1 : Int32) = nI 1) (by omega)))
  refine (c_X3_addStep (m := q.2.length) (show (up3 I2 3 0 (11) (_)) 3 0 6 = _ from by rw [up3_j (by decide)]; exact (p2.2.2 rfl).2.2.2.1) (by omega)) _ _ _ ?_
  refine am_go 400 ?_
  show am_WP (am_psh g (some (.inl (1))) :: gs) (d + 5) (mk (up3 (up3 (up3 I2 3 0 (11) ((((I2 3 0 11) - 1)))) 24 0 (q.2.length) ((-19))) 3 0 (6) ((nI (q.2.length + 1)))) X) Q
  try rw [tk3]
  try rw [tk2]
  exact k0 I1 p1 I2 p2
set_option maxRecDepth 100000 in
set_option maxHeartbeats 4000000 in
theorem w_rnd_8 {I : Nat → Nat → Nat → Int32} {X : am_Z} {g : am_F} {gs : List am_F} {d : Nat} {Q : Option am_V → am_M → Prop} {t : Nat → Nat} {n key ro no : Nat} {tk : Tk} {l : List (Nat × Nat)} (hn : n ≤ 96) (ht : ∀ j, j < n → t j < 256) (hT : RdT I t n tk) (hS : RdS I key ro no l) (hW : Wt t n tk) (hno : no ≤ 8) (hro : ro ≤ 8) (h8 : 8 ≤ ro) (k0 : am_WP (am_psh g (some (.inl (0))) :: gs) (d + 5) (mk I X) Q) : am_WP (am_entry mX3_takesRound [.inr (.inr (some (3, 0)))] :: g :: gs) (d + 4) (mk I X) Q := by
  obtain ⟨w1, w2, w3, w4, w5, w6⟩ := id hW
  refine am_go 400 ?_
  have tk0 : I 3 0 10 = nI ro := hS.2.2.2.2.1
  refine am_f (mt (lt_nat (a := ro) (b := 8) tk0 (rfl : (8 : Int32) = nI 8) (by omega) (by omega)).mp (by omega)) ?_
  exact k0
set_option maxRecDepth 100000 in
set_option maxHeartbeats 4000000 in
theorem w_rnd_0 {I : Nat → Nat → Nat → Int32} {X : am_Z} {g : am_F} {gs : List am_F} {d : Nat} {Q : Option am_V → am_M → Prop} {t : Nat → Nat} {n key ro no : Nat} {tk : Tk} {l : List (Nat × Nat)} (hn : n ≤ 96) (ht : ∀ j, j < n → t j < 256) (hT : RdT I t n tk) (hS : RdS I key ro no l) (hW : Wt t n tk) (hno : no ≤ 8) (hro : ro ≤ 8) (h8 : ro < 8) {q : Pa} (hq : Wt t n q.1) (hc : ∀ I1 : Im, RdT I1 t n (nxT t n tk) ∧ FrA (up3 I 3 0 10 (nI (ro + 1))) I1 → Sw mX3_takesLevel [.inr (.inr (some (3, 0))), .inl 0] (d + 3) I1 X (some (.inl 0)) (PrC I1 t n key (ro + 1) no (false, q))) (k0 : ∀ (I1 : Im), (RdT I1 t n (nxT t n (tk.1, tk.2.1, tk.2.2)) ∧ FrA (up3 I 3 0 (10) ((nI (ro + 1)))) I1) → ∀ (I2 : Im), (PrC I1 t n key (ro + 1) no (false, q) I2) → am_WP (am_psh g (some (.inl (0))) :: gs) (d + 5) (mk I2 X) Q) : am_WP (am_entry mX3_takesRound [.inr (.inr (some (3, 0)))] :: g :: gs) (d + 4) (mk I X) Q := by
  obtain ⟨w1, w2, w3, w4, w5, w6⟩ := id hW
  refine am_go 400 ?_
  have tk0 : I 3 0 10 = nI ro := hS.2.2.2.2.1
  refine am_t ((lt_nat (a := ro) (b := 8) tk0 (rfl : (8 : Int32) = nI 8) (by omega) (by omega)).mpr h8) ?_
  have tk1 : ((I 3 0 10) + 1) = nI (ro + 1) := by first | exact (nI_addE tk0 (rfl : (1 : Int32) = nI 1)) | (((try rw [tk0])); first | done | exact (nI_addE tk0 (rfl : (1 : Int32) = nI 1)))
  refine (c_X3_advance (I := (up3 I 3 0 (10) ((((I 3 0 10) + 1))))) (t := t) (n := n) (k := tk.1) (st := tk.2.1) (e := tk.2.2) hn (RdT_u hT (Or.inr ⟨rfl, by decide⟩)).1 hT.2.1 ht hW.2.2.1 hW.2.1 (RdT_u hT (Or.inr ⟨rfl, by decide⟩)).2.2.1 (RdT_u hT (Or.inr ⟨rfl, by decide⟩)).2.2.2.2) _ _ _ ?_
  intro I1 p1
  have p1 : RdT I1 t n (nxT t n (tk.1, tk.2.1, tk.2.2)) ∧ FrA (up3 I 3 0 (10) ((((I 3 0 10) + 1)))) I1 := p1
  try rw [tk1] at p1
  try rw [tk0] at p1
  refine am_go 400 ?_
  refine (hc I1 p1) _ _ _ ?_
  intro I2 p2
  refine am_go 400 ?_
  exact k0 I1 p1 I2 p2
set_option maxRecDepth 100000 in
set_option maxHeartbeats 4000000 in
theorem w_rnd_1 {I : Nat → Nat → Nat → Int32} {X : am_Z} {g : am_F} {gs : List am_F} {d : Nat} {Q : Option am_V → am_M → Prop} {t : Nat → Nat} {n key ro no : Nat} {tk : Tk} {l : List (Nat × Nat)} (hn : n ≤ 96) (ht : ∀ j, j < n → t j < 256) (hT : RdT I t n tk) (hS : RdS I key ro no l) (hW : Wt t n tk) (hno : no ≤ 8) (hro : ro ≤ 8) (h8 : ro < 8) {q : Pa} (hq : Wt t n q.1) (hc : ∀ I1 : Im, RdT I1 t n (nxT t n tk) ∧ FrA (up3 I 3 0 10 (nI (ro + 1))) I1 → Sw mX3_takesLevel [.inr (.inr (some (3, 0))), .inl 0] (d + 3) I1 X (some (.inl 1)) (PrC I1 t n key (ro + 1) no (true, q))) (k0 : ∀ (I1 : Im), (RdT I1 t n (nxT t n (tk.1, tk.2.1, tk.2.2)) ∧ FrA (up3 I 3 0 (10) ((nI (ro + 1)))) I1) → ∀ (I2 : Im), (PrC I1 t n key (ro + 1) no (true, q) I2) → (¬ (q.1.1 = 3 ∧ t q.1.2.1 = 41)) → am_WP (am_psh g (some (.inl (0))) :: gs) (d + 5) (mk I2 X) Q) (k1 : ∀ (I1 : Im), (RdT I1 t n (nxT t n (tk.1, tk.2.1, tk.2.2)) ∧ FrA (up3 I 3 0 (10) ((nI (ro + 1)))) I1) → ∀ (I2 : Im), (PrC I1 t n key (ro + 1) no (true, q) I2) → (q.1.1 = 3 ∧ t q.1.2.1 = 41) → ∀ (I3 : Im), (RdT I3 t n (nxT t n (q.1.1, q.1.2.1, q.1.2.2)) ∧ FrA (up3 I2 3 0 (10) ((nI ((ro + 1) - 1)))) I3) → am_WP (am_psh g (some (.inl (1))) :: gs) (d + 5) (mk I3 X) Q) : am_WP (am_entry mX3_takesRound [.inr (.inr (some (3, 0)))] :: g :: gs) (d + 4) (mk I X) Q := by
  obtain ⟨w1, w2, w3, w4, w5, w6⟩ := id hW
  refine am_go 400 ?_
  have tk0 : I 3 0 10 = nI ro := hS.2.2.2.2.1
  refine am_t ((lt_nat (a := ro) (b := 8) tk0 (rfl : (8 : Int32) = nI 8) (by omega) (by omega)).mpr h8) ?_
  have tk1 : ((I 3 0 10) + 1) = nI (ro + 1) := by first | exact (nI_addE tk0 (rfl : (1 : Int32) = nI 1)) | (((try rw [tk0])); first | done | exact (nI_addE tk0 (rfl : (1 : Int32) = nI 1)))
  refine (c_X3_advance (I := (up3 I 3 0 (10) ((((I 3 0 10) + 1))))) (t := t) (n := n) (k := tk.1) (st := tk.2.1) (e := tk.2.2) hn (RdT_u hT (Or.inr ⟨rfl, by decide⟩)).1 hT.2.1 ht hW.2.2.1 hW.2.1 (RdT_u hT (Or.inr ⟨rfl, by decide⟩)).2.2.1 (RdT_u hT (Or.inr ⟨rfl, by decide⟩)).2.2.2.2) _ _ _ ?_
  intro I1 p1
  have p1 : RdT I1 t n (nxT t n (tk.1, tk.2.1, tk.2.2)) ∧ FrA (up3 I 3 0 (10) ((((I 3 0 10) + 1)))) I1 := p1
  try rw [tk1] at p1
  try rw [tk0] at p1
  refine am_go 400 ?_
  refine (hc I1 p1) _ _ _ ?_
  intro I2 p2
  refine am_go 400 ?_
  refine (c_X3_isSign (tk := q.1) (b := 41) hn ht (p2.2.2 rfl).1 hq (rfl : (41 : Int32) = nI 41) (by omega)) _ _ _ ?_
  refine am_go 400 ?_
  refine am_if (fun h1 => ?_) (fun h1 => ?_)
  · have h1 := bI_0.mp h1
    exact k0 I1 p1 I2 p2 h1
  · have h1 := bI_1.mp h1
    have tk2 : I2 3 0 10 = nI (ro + 1) := (p2.2.2 rfl).2.2.2.2.2.1
    have tk3 : ((I2 3 0 10) - 1) = nI ((ro + 1) - 1) := by first | exact (nI_subE tk2 (rfl : (1 : Int32) = nI 1) (by omega)) | (((try rw [tk2])); first | done | exact (nI_subE tk2 (rfl : (1 : Int32) = nI 1) (by omega)))
    refine (c_X3_advance (I := (up3 I2 3 0 (10) ((((I2 3 0 10) - 1))))) (t := t) (n := n) (k := q.1.1) (st := q.1.2.1) (e := q.1.2.2) hn (RdT_u (p2.2.2 rfl).1 (Or.inr ⟨rfl, by decide⟩)).1 (p2.2.2 rfl).1.2.1 ht hq.2.2.1 hq.2.1 (RdT_u (p2.2.2 rfl).1 (Or.inr ⟨rfl, by decide⟩)).2.2.1 (RdT_u (p2.2.2 rfl).1 (Or.inr ⟨rfl, by decide⟩)).2.2.2.2) _ _ _ ?_
    intro I3 p3
    have p3 : RdT I3 t n (nxT t n (q.1.1, q.1.2.1, q.1.2.2)) ∧ FrA (up3 I2 3 0 (10) ((((I2 3 0 10) - 1)))) I3 := p3
    try rw [tk3] at p3
    try rw [tk2] at p3
    refine am_go 400 ?_
    exact k1 I1 p1 I2 p2 h1 I3 p3
set_option maxRecDepth 100000 in
set_option maxHeartbeats 4000000 in
theorem w_lv5_0 {I : Nat → Nat → Nat → Int32} {X : am_Z} {g : am_F} {gs : List am_F} {d : Nat} {Q : Option am_V → am_M → Prop} {lv : Nat} {x : Int32} (hx : x = nI lv) (hlv : lv ≤ 5) (h5 : 5 ≤ lv) {P : Im → Prop} (hc : Sw mX3_takesPiece [.inr (.inr (some (3, 0)))] (d + 5) I X (some (.inl 0)) P) (k0 : ∀ (I1 : Im), (P I1) → am_WP (am_psh g (some (.inl (0))) :: gs) (d + 7) (mk I1 X) Q) : am_WP (am_entry mX3_takesLevel [.inr (.inr (some (3, 0))), .inl (x)] :: g :: gs) (d + 6) (mk I X) Q := by
  refine am_go 400 ?_
  refine am_f (mt (lt_nat (a := lv) (b := 5) hx (rfl : (5 : Int32) = nI 5) (by omega) (by omega)).mp (by omega)) ?_
  refine (hc) _ _ _ ?_
  intro I1 p1
  refine am_go 400 ?_
  exact k0 I1 p1
set_option maxRecDepth 100000 in
set_option maxHeartbeats 4000000 in
theorem w_lva_0 {I : Nat → Nat → Nat → Int32} {X : am_Z} {g : am_F} {gs : List am_F} {d : Nat} {Q : Option am_V → am_M → Prop} {lv : Nat} {x : Int32} (hx : x = nI lv) (hlv : lv ≤ 5) (h5 : lv < 5) {P : Im → Prop} (hc : Sw mX3_takesLevel [.inr (.inr (some (3, 0))), .inl (x + 1)] (d + 5) I X (some (.inl 0)) P) (k0 : ∀ (I1 : Im), (P I1) → am_WP (am_psh g (some (.inl (0))) :: gs) (d + 7) (mk I1 X) Q) : am_WP (am_entry mX3_takesLevel [.inr (.inr (some (3, 0))), .inl (x)] :: g :: gs) (d + 6) (mk I X) Q := by
  refine am_go 400 ?_
  refine am_t ((lt_nat (a := lv) (b := 5) hx (rfl : (5 : Int32) = nI 5) (by omega) (by omega)).mpr h5) ?_
  refine (hc) _ _ _ ?_
  intro I1 p1
  refine am_go 400 ?_
  exact k0 I1 p1
set_option maxRecDepth 100000 in
set_option maxHeartbeats 4000000 in
theorem w_lv5_1 {I : Nat → Nat → Nat → Int32} {X : am_Z} {g : am_F} {gs : List am_F} {d : Nat} {Q : Option am_V → am_M → Prop} {lv : Nat} {x : Int32} (hx : x = nI lv) (hlv : lv ≤ 5) (h5 : 5 ≤ lv) {P : Im → Prop} (hc : Sw mX3_takesPiece [.inr (.inr (some (3, 0)))] (d + 5) I X (some (.inl 1)) P) (k0 : ∀ (I1 : Im), (P I1) → am_WP (am_psh g (some (.inl (1))) :: gs) (d + 7) (mk I1 X) Q) : am_WP (am_entry mX3_takesLevel [.inr (.inr (some (3, 0))), .inl (x)] :: g :: gs) (d + 6) (mk I X) Q := by
  refine am_go 400 ?_
  refine am_f (mt (lt_nat (a := lv) (b := 5) hx (rfl : (5 : Int32) = nI 5) (by omega) (by omega)).mp (by omega)) ?_
  refine (hc) _ _ _ ?_
  intro I1 p1
  refine am_go 400 ?_
  exact k0 I1 p1
set_option maxRecDepth 100000 in
set_option maxHeartbeats 4000000 in
theorem w_lva_1 {I : Nat → Nat → Nat → Int32} {X : am_Z} {g : am_F} {gs : List am_F} {d : Nat} {Q : Option am_V → am_M → Prop} {lv : Nat} {x : Int32} (hx : x = nI lv) (hlv : lv ≤ 5) (h5 : lv < 5) {P : Im → Prop} (hc : Sw mX3_takesLevel [.inr (.inr (some (3, 0))), .inl (x + 1)] (d + 5) I X (some (.inl 1)) P) (k0 : ∀ (I1 : Im), (P I1) → am_WP ((mX3_takesLevel, 22, [some (.inr (.inr (some (3, 0)))), some (.inl (x)), none, none], []) :: g :: gs) (d + 6) (mk I1 X) Q) : am_WP (am_entry mX3_takesLevel [.inr (.inr (some (3, 0))), .inl (x)] :: g :: gs) (d + 6) (mk I X) Q := by
  refine am_go 400 ?_
  refine am_t ((lt_nat (a := lv) (b := 5) hx (rfl : (5 : Int32) = nI 5) (by omega) (by omega)).mpr h5) ?_
  refine (hc) _ _ _ ?_
  intro I1 p1
  refine am_go 1 ?_
  exact k0 I1 p1
set_option maxRecDepth 100000 in
set_option maxHeartbeats 4000000 in
theorem w_lvb_0 {I : Nat → Nat → Nat → Int32} {X : am_Z} {g : am_F} {gs : List am_F} {d : Nat} {Q : Option am_V → am_M → Prop} {t : Nat → Nat} {n : Nat} {tk : Tk} (hn : n ≤ 96) (ht : ∀ j, j < n → t j < 256) (hT : RdT I t n tk) (hW : Wt t n tk) {lv : Nat} {x : Int32} (hx : x = nI lv) (hlv : lv ≤ 4) (hsg : sgA t lv tk = none) {y2 y3 : Option am_V} (k0 : am_WP ((mX3_takesLevel, 30, [some (.inr (.inr (some (3, 0)))), some (.inl (x)), some (.inl ((-1))), some (.inl (0))], []) :: g :: gs) (d + 6) (mk I X) Q) : am_WP ((mX3_takesLevel, 22, [some (.inr (.inr (some (3, 0)))), some (.inl (x)), y2, y3], []) :: g :: gs) (d + 6) (mk I X) Q := by
  refine am_go 400 ?_
  refine (c_sg_n (tk := tk) (lv := lv) hn ht hT hW hx hlv hsg) _ _ _ ?_
  refine am_go 3 ?_
  exact k0
set_option maxRecDepth 100000 in
set_option maxHeartbeats 4000000 in
theorem w_lvc_0 {I : Nat → Nat → Nat → Int32} {X : am_Z} {g : am_F} {gs : List am_F} {d : Nat} {Q : Option am_V → am_M → Prop} {t : Nat → Nat} {n : Nat} {tk : Tk} (hn : n ≤ 96) (ht : ∀ j, j < n → t j < 256) (hT : RdT I t n tk) (hW : Wt t n tk) {lv : Nat} {x : Int32} (hx : x = nI lv) (hlv : lv ≤ 4) (hsg : sgA t lv tk = none) (h2 : ¬ lv = 2) {k : Nat} (hk : k ≤ 96) {y2 : Option am_V} (k0 : am_WP ((mX3_takesLevel, 30, [some (.inr (.inr (some (3, 0)))), some (.inl (x)), some (.inl ((-1))), some (.inl ((nI (k + 1))))], []) :: g :: gs) (d + 6) (mk I X) Q) : am_WP ((mX3_takesLevel, 64, [some (.inr (.inr (some (3, 0)))), some (.inl (x)), y2, some (.inl (nI k))], []) :: g :: gs) (d + 6) (mk I X) Q := by
  refine am_go 400 ?_
  refine am_f (mt (eq_nat (a := lv) (b := 2) hx (rfl : (2 : Int32) = nI 2) (by omega) (by omega)).mp h2) ?_
  refine (c_sg_n (tk := tk) (lv := lv) hn ht hT hW hx hlv hsg) _ _ _ ?_
  refine am_go 400 ?_
  have tk0 : (nI k + 1) = nI (k + 1) := (nI_addE rfl (rfl : (1 : Int32) = nI 1))
  show am_WP ((mX3_takesLevel, 30, [some (.inr (.inr (some (3, 0)))), some (.inl (x)), some (.inl ((-1))), some (.inl (((nI k + 1))))], []) :: g :: gs) (d + 6) (mk I X) Q
  try rw [tk0]
  exact k0
set_option maxRecDepth 100000 in
set_option maxHeartbeats 4000000 in
theorem w_lvb_1 {I : Nat → Nat → Nat → Int32} {X : am_Z} {g : am_F} {gs : List am_F} {d : Nat} {Q : Option am_V → am_M → Prop} {t : Nat → Nat} {n : Nat} {tk : Tk} (hn : n ≤ 96) (ht : ∀ j, j < n → t j < 256) (hT : RdT I t n tk) (hW : Wt t n tk) {lv : Nat} {x : Int32} (hx : x = nI lv) (hlv : lv ≤ 4) {i : Nat} (hsg : sgA t lv tk = some i) {y2 y3 : Option am_V} (k0 : am_WP ((mX3_takesLevel, 30, [some (.inr (.inr (some (3, 0)))), some (.inl (x)), some (.inl (nI i)), some (.inl (0))], []) :: g :: gs) (d + 6) (mk I X) Q) : am_WP ((mX3_takesLevel, 22, [some (.inr (.inr (some (3, 0)))), some (.inl (x)), y2, y3], []) :: g :: gs) (d + 6) (mk I X) Q := by
  refine am_go 400 ?_
  refine (c_sg_s (tk := tk) (lv := lv) (i := i) hn ht hT hW hx hlv hsg) _ _ _ ?_
  refine am_go 3 ?_
  exact k0
set_option maxRecDepth 100000 in
set_option maxHeartbeats 4000000 in
theorem w_lvc_1 {I : Nat → Nat → Nat → Int32} {X : am_Z} {g : am_F} {gs : List am_F} {d : Nat} {Q : Option am_V → am_M → Prop} {t : Nat → Nat} {n : Nat} {tk : Tk} (hn : n ≤ 96) (ht : ∀ j, j < n → t j < 256) (hT : RdT I t n tk) (hW : Wt t n tk) {lv : Nat} {x : Int32} (hx : x = nI lv) (hlv : lv ≤ 4) {i : Nat} (hsg : sgA t lv tk = some i) (h2 : ¬ lv = 2) {k : Nat} (hk : k ≤ 96) {y2 : Option am_V} (k0 : am_WP ((mX3_takesLevel, 30, [some (.inr (.inr (some (3, 0)))), some (.inl (x)), some (.inl (nI i)), some (.inl ((nI (k + 1))))], []) :: g :: gs) (d + 6) (mk I X) Q) : am_WP ((mX3_takesLevel, 64, [some (.inr (.inr (some (3, 0)))), some (.inl (x)), y2, some (.inl (nI k))], []) :: g :: gs) (d + 6) (mk I X) Q := by
  refine am_go 400 ?_
  refine am_f (mt (eq_nat (a := lv) (b := 2) hx (rfl : (2 : Int32) = nI 2) (by omega) (by omega)).mp h2) ?_
  refine (c_sg_s (tk := tk) (lv := lv) (i := i) hn ht hT hW hx hlv hsg) _ _ _ ?_
  refine am_go 400 ?_
  have tk0 : (nI k + 1) = nI (k + 1) := (nI_addE rfl (rfl : (1 : Int32) = nI 1))
  show am_WP ((mX3_takesLevel, 30, [some (.inr (.inr (some (3, 0)))), some (.inl (x)), some (.inl (nI i)), some (.inl (((nI k + 1))))], []) :: g :: gs) (d + 6) (mk I X) Q
  try rw [tk0]
  exact k0
set_option maxRecDepth 100000 in
set_option maxHeartbeats 4000000 in
theorem w_lvc_2 {I : Nat → Nat → Nat → Int32} {X : am_Z} {g : am_F} {gs : List am_F} {d : Nat} {Q : Option am_V → am_M → Prop} {lv : Nat} {x : Int32} (hx : x = nI lv) (h2 : lv = 2) {k : Nat} (hk : k ≤ 96) {y2 : Option am_V} (k0 : am_WP ((mX3_takesLevel, 30, [some (.inr (.inr (some (3, 0)))), some (.inl (x)), some (.inl ((-1))), some (.inl ((nI (k + 1))))], []) :: g :: gs) (d + 6) (mk I X) Q) : am_WP ((mX3_takesLevel, 64, [some (.inr (.inr (some (3, 0)))), some (.inl (x)), y2, some (.inl (nI k))], []) :: g :: gs) (d + 6) (mk I X) Q := by
  refine am_go 400 ?_
  refine am_t ((eq_nat (a := lv) (b := 2) hx (rfl : (2 : Int32) = nI 2) (by omega) (by omega)).mpr h2) ?_
  have tk0 : (nI k + 1) = nI (k + 1) := (nI_addE rfl (rfl : (1 : Int32) = nI 1))
  show am_WP ((mX3_takesLevel, 30, [some (.inr (.inr (some (3, 0)))), some (.inl (x)), some (.inl ((-1))), some (.inl (((nI k + 1))))], []) :: g :: gs) (d + 6) (mk I X) Q
  try rw [tk0]
  exact k0
set_option maxRecDepth 100000 in
set_option maxHeartbeats 4000000 in
theorem w_lve {I : Nat → Nat → Nat → Int32} {X : am_Z} {g : am_F} {gs : List am_F} {d : Nat} {Q : Option am_V → am_M → Prop} {x : Int32} {k : Nat} (hk : k ≤ 97) (k0 : (96 ≤ k) → am_WP (am_psh g (some (.inl (1))) :: gs) (d + 7) (mk I X) Q) (k1 : (¬ (96 ≤ k)) → am_WP (am_psh g (some (.inl (1))) :: gs) (d + 7) (mk I X) Q) : am_WP ((mX3_takesLevel, 30, [some (.inr (.inr (some (3, 0)))), some (.inl (x)), some (.inl ((-1))), some (.inl (nI k))], []) :: g :: gs) (d + 6) (mk I X) Q := by
  refine am_go 400 ?_
  refine am_if (fun h1 => ?_) (fun h1 => ?_)
  · have nh1 := (le_nat (a := 96) (b := k) (rfl : (96 : Int32) = nI 96) (rfl : (nI k : Int32) = nI k) (by omega) (by omega)).mp h1
    exact k0 nh1
  · have nh1 := mt (le_nat (a := 96) (b := k) (rfl : (96 : Int32) = nI 96) (rfl : (nI k : Int32) = nI k) (by omega) (by omega)).mpr h1
    exact k1 nh1
set_option maxRecDepth 100000 in
set_option maxHeartbeats 4000000 in
theorem w_lve9 {I : Nat → Nat → Nat → Int32} {X : am_Z} {g : am_F} {gs : List am_F} {d : Nat} {Q : Option am_V → am_M → Prop} {x : Int32} {i k : Nat} (hk : k ≤ 97) (h96 : 96 ≤ k) (k0 : am_WP (am_psh g (some (.inl (1))) :: gs) (d + 7) (mk I X) Q) : am_WP ((mX3_takesLevel, 30, [some (.inr (.inr (some (3, 0)))), some (.inl (x)), some (.inl (nI i)), some (.inl (nI k))], []) :: g :: gs) (d + 6) (mk I X) Q := by
  refine am_go 400 ?_
  refine am_t ((le_nat (a := 96) (b := k) (rfl : (96 : Int32) = nI 96) (rfl : (nI k : Int32) = nI k) (by omega) (by omega)).mpr h96) ?_
  exact k0
set_option maxRecDepth 100000 in
set_option maxHeartbeats 4000000 in
theorem w_lvl_0 {I : Nat → Nat → Nat → Int32} {X : am_Z} {g : am_F} {gs : List am_F} {d : Nat} {Q : Option am_V → am_M → Prop} {t : Nat → Nat} {n : Nat} {tk : Tk} (hn : n ≤ 96) (ht : ∀ j, j < n → t j < 256) (hT : RdT I t n tk) (hW : Wt t n tk) {lv : Nat} {x : Int32} (hx : x = nI lv) (hlv : lv ≤ 4) {key ro no i k : Nat} (hi : i < 9) (hk : k < 96) {q : Pa} (hc : ∀ I1 : Im, RdT I1 t n (nxT t n tk) ∧ FrA I I1 → Sw mX3_takesLevel [.inr (.inr (some (3, 0))), .inl (x + 1)] (d + 5) I1 X (some (.inl 0)) (PrC I1 t n key ro no (false, q))) (k0 : ∀ (I1 : Im), (RdT I1 t n (nxT t n (tk.1, tk.2.1, tk.2.2)) ∧ FrA I I1) → ∀ (I2 : Im), (PrC I1 t n key ro no (false, q) I2) → am_WP (am_psh g (some (.inl (0))) :: gs) (d + 7) (mk I2 X) Q) : am_WP ((mX3_takesLevel, 30, [some (.inr (.inr (some (3, 0)))), some (.inl (x)), some (.inl (nI i)), some (.inl (nI k))], []) :: g :: gs) (d + 6) (mk I X) Q := by
  refine am_go 400 ?_
  refine am_f (mt (le_nat (a := 96) (b := k) (rfl : (96 : Int32) = nI 96) (rfl : (nI k : Int32) = nI k) (by omega) (by omega)).mp (by omega)) ?_
  refine am_f (mt (lt_nat (a := i) (b := 0) (rfl : (nI i : Int32) = nI i) (rfl : (0 : Int32) = nI 0) (by omega) (by omega)).mp (by omega)) ?_
  refine (c_X3_advance (I := I) (t := t) (n := n) (k := tk.1) (st := tk.2.1) (e := tk.2.2) hn hT.1 hT.2.1 ht hW.2.2.1 hW.2.1 hT.2.2.1 hT.2.2.2.2) _ _ _ ?_
  intro I1 p1
  refine am_go 400 ?_
  refine (hc I1 p1) _ _ _ ?_
  intro I2 p2
  refine am_go 400 ?_
  exact k0 I1 p1 I2 p2
set_option maxRecDepth 100000 in
set_option maxHeartbeats 4000000 in
theorem w_lvl_1 {I : Nat → Nat → Nat → Int32} {X : am_Z} {g : am_F} {gs : List am_F} {d : Nat} {Q : Option am_V → am_M → Prop} {t : Nat → Nat} {n : Nat} {tk : Tk} (hn : n ≤ 96) (ht : ∀ j, j < n → t j < 256) (hT : RdT I t n tk) (hW : Wt t n tk) {lv : Nat} {x : Int32} (hx : x = nI lv) (hlv : lv ≤ 4) {key ro no i k : Nat} (hi : i < 9) (hk : k < 96) {q : Pa} (hq : q.2.length < 96) (hc : ∀ I1 : Im, RdT I1 t n (nxT t n tk) ∧ FrA I I1 → Sw mX3_takesLevel [.inr (.inr (some (3, 0))), .inl (x + 1)] (d + 5) I1 X (some (.inl 1)) (PrC I1 t n key ro no (true, q))) (k0 : ∀ (I1 : Im), (RdT I1 t n (nxT t n (tk.1, tk.2.1, tk.2.2)) ∧ FrA I I1) → ∀ (I2 : Im), (PrC I1 t n key ro no (true, q) I2) → am_WP ((mX3_takesLevel, 64, [some (.inr (.inr (some (3, 0)))), some (.inl (x)), some (.inl (nI i)), some (.inl (nI k))], []) :: g :: gs) (d + 6) (mk (up3 (up3 I2 24 0 (q.2.length) (((-10) - nI i))) 3 0 (6) ((nI (q.2.length + 1)))) X) Q) : am_WP ((mX3_takesLevel, 30, [some (.inr (.inr (some (3, 0)))), some (.inl (x)), some (.inl (nI i)), some (.inl (nI k))], []) :: g :: gs) (d + 6) (mk I X) Q := by
  refine am_go 400 ?_
  refine am_f (mt (le_nat (a := 96) (b := k) (rfl : (96 : Int32) = nI 96) (rfl : (nI k : Int32) = nI k) (by omega) (by omega)).mp (by omega)) ?_
  refine am_f (mt (lt_nat (a := i) (b := 0) (rfl : (nI i : Int32) = nI i) (rfl : (0 : Int32) = nI 0) (by omega) (by omega)).mp (by omega)) ?_
  refine (c_X3_advance (I := I) (t := t) (n := n) (k := tk.1) (st := tk.2.1) (e := tk.2.2) hn hT.1 hT.2.1 ht hW.2.2.1 hW.2.1 hT.2.2.1 hT.2.2.2.2) _ _ _ ?_
  intro I1 p1
  refine am_go 400 ?_
  refine (hc I1 p1) _ _ _ ?_
  intro I2 p2
  refine am_go 400 ?_
  refine (c_X3_addStep (m := q.2.length) (p2.2.2 rfl).2.2.2.1 (by omega)) _ _ _ ?_
  refine am_go 0 ?_
  exact k0 I1 p1 I2 p2
