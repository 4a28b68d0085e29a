/-! levels and pieces, the model: the walks -/
def PrM (I : Im) (t : Nat → Nat) (n la key ro no : Nat) (r : Bool × Pa) (I' : Im) : Prop := FrQ8 la I I' ∧ I' 8 0 19 = nI r.2.1.2.1 ∧ (r.1 = true → Md I' t n la key ro no r.2)
set_option maxRecDepth 100000 in
set_option maxHeartbeats 4000000 in
theorem w_p0_num {I : Nat → Nat → Nat → Int32} {X : am_Z} {g : am_F} {gs : List am_F} {d : Nat} {Q : Option am_V → am_M → Prop} {t : Nat → Nat} {n : Nat} {tk : Tk} (hn : n ≤ 96) (ht : ∀ j, j < n → t j < 256) (hT : MdT I t n tk) (hW : Wt t n tk) {la key ro no : Nat} {l : List (Nat × Nat)} (hS : MdS I la key ro no l) (hla : la ≤ 2954) {x : Int32} (hx : x = nI key) (hkey : key < 3) (hl : l.length < 96) (k2 : tkM tk = 2) (k2b : tk.1 = 2) {v : Nat} (h22 : I 8 0 22 = nI v) (k0 : ∀ (I1 : Im), (MdT I1 t n (nxT t n (tk.1, tk.2.1, tk.2.2)) ∧ FrA8 (up3 (up3 (up3 (up3 I 30 0 (la + 2 * l.length) (0)) 30 0 (la + 2 * l.length + 1) ((nI v))) 8 0 (26) ((nI (l.length + 1)))) 8 0 (28) ((nI ((nop l) + 1)))) I1) → am_WP (am_psh g (some (.inl (1))) :: gs) (d + 6) (mk I1 X) Q) : am_WP (am_entry mX8_part0 [.inr (.inr (some (8, 0))), .inl (x)] :: g :: gs) (d + 5) (mk I X) Q := by
  obtain ⟨w1, w2, w3, w4, w5, w6⟩ := id hW
  have tle := tkM_le hW
  have hno := nop_le (l := l)
  refine am_go 400 ?_
  have tk0 : I 8 0 21 = nI (tkM tk) := hT.2.2.2.2.1
  refine am_t ((eq_nat (a := (tkM tk)) (b := 2) tk0 (rfl : (2 : Int32) = nI 2) (by omega) (by omega)).mpr k2) ?_
  have tk1 : I 8 0 22 = nI v := h22
  refine (c_X8_step (m := l.length) (la := la) hS.2.2.1 hS.2.2.2.1 (by omega) (by omega)) _ _ _ ?_
  refine am_go 400 ?_
  have tk2 : (up3 (up3 (up3 I 30 0 (la + 2 * l.length) (0)) 30 0 (la + 2 * l.length + 1) ((I 8 0 22))) 8 0 (26) ((nI (l.length + 1)))) 8 0 28 = nI (nop l) := by first | exact ((up3_j (by decide))).trans hS.2.2.2.2.1 | (((try rw [tk1])); first | done | exact ((up3_j (by decide))).trans hS.2.2.2.2.1)
  have tk3 : (((up3 (up3 (up3 I 30 0 (la + 2 * l.length) (0)) 30 0 (la + 2 * l.length + 1) ((I 8 0 22))) 8 0 (26) ((nI (l.length + 1)))) 8 0 28) + 1) = nI ((nop l) + 1) := by first | exact (nI_addE tk2 (rfl : (1 : Int32) = nI 1)) | (((try rw [tk2]); (try rw [tk1])); first | done | exact (nI_addE tk2 (rfl : (1 : Int32) = nI 1)))
  refine (c_X8_nextToken (I := (up3 (up3 (up3 (up3 I 30 0 (la + 2 * l.length) (0)) 30 0 (la + 2 * l.length + 1) ((I 8 0 22))) 8 0 (26) ((nI (l.length + 1)))) 8 0 (28) (((((up3 (up3 (up3 I 30 0 (la + 2 * l.length) (0)) 30 0 (la + 2 * l.length + 1) ((I 8 0 22))) 8 0 (26) ((nI (l.length + 1)))) 8 0 28) + 1))))) (t := t) (n := n) (k := tk.1) (st := tk.2.1) (e := tk.2.2) hn (show MdT (up3 (up3 (up3 (up3 I 30 0 (la + 2 * l.length) (0)) 30 0 (la + 2 * l.length + 1) (_)) 8 0 (26) ((nI (l.length + 1)))) 8 0 (28) (_)) t n tk from (MdT_u (MdT_u (MdT_s (MdT_s hT)) (by decide)) (by decide))).1 (show MdT (up3 (up3 (up3 (up3 I 30 0 (la + 2 * l.length) (0)) 30 0 (la + 2 * l.length + 1) (_)) 8 0 (26) ((nI (l.length + 1)))) 8 0 (28) (_)) t n tk from (MdT_u (MdT_u (MdT_s (MdT_s hT)) (by decide)) (by decide))).2.1 ht hW.2.2.1 hW.2.1 (fun _ => by omega) (show MdT (up3 (up3 (up3 (up3 I 30 0 (la + 2 * l.length) (0)) 30 0 (la + 2 * l.length + 1) (_)) 8 0 (26) ((nI (l.length + 1)))) 8 0 (28) (_)) t n tk from (MdT_u (MdT_u (MdT_s (MdT_s hT)) (by decide)) (by decide))).2.2.2.1 ((show MdT (up3 (up3 (up3 (up3 I 30 0 (la + 2 * l.length) (0)) 30 0 (la + 2 * l.length + 1) (_)) 8 0 (26) ((nI (l.length + 1)))) 8 0 (28) (_)) t n tk from (MdT_u (MdT_u (MdT_s (MdT_s hT)) (by decide)) (by decide))).2.2.2.2.1.trans (congrArg nI (k2.trans k2b.symm)))) _ _ _ ?_
  intro I1 p1
  have p1 : MdT I1 t n (nxT t n (tk.1, tk.2.1, tk.2.2)) ∧ FrA8 (up3 (up3 (up3 (up3 I 30 0 (la + 2 * l.length) (0)) 30 0 (la + 2 * l.length + 1) ((I 8 0 22))) 8 0 (26) ((nI (l.length + 1)))) 8 0 (28) (((((up3 (up3 (up3 I 30 0 (la + 2 * l.length) (0)) 30 0 (la + 2 * l.length + 1) ((I 8 0 22))) 8 0 (26) ((nI (l.length + 1)))) 8 0 28) + 1)))) I1 := p1
  try rw [tk3] at p1
  try rw [tk2] at p1
  try rw [tk1] at p1
  refine am_go 400 ?_
  exact k0 I1 p1
set_option maxRecDepth 100000 in
set_option maxHeartbeats 4000000 in
theorem w_p0_name {I : Nat → Nat → Nat → Int32} {X : am_Z} {g : am_F} {gs : List am_F} {d : Nat} {Q : Option am_V → am_M → Prop} {t : Nat → Nat} {n : Nat} {tk : Tk} (hn : n ≤ 96) (ht : ∀ j, j < n → t j < 256) (hT : MdT I t n tk) (hW : Wt t n tk) {la key ro no : Nat} {l : List (Nat × Nat)} (hS : MdS I la key ro no l) (hla : la ≤ 2954) {x : Int32} (hx : x = nI key) (hkey : key < 3) (hl : l.length < 96) (k1 : tkM tk = 1) (k1b : tk.1 = 1) {b i : Nat} (h23 : I 8 0 23 = nI b) (hb : b < 256) (hb0 : ¬ b = 0) (hnm : nmI key b = some i) (k0 : ∀ (I1 : Im), (MdT I1 t n (nxT t n (tk.1, tk.2.1, tk.2.2)) ∧ FrA8 (up3 (up3 (up3 (up3 I 30 0 (la + 2 * l.length) (1)) 30 0 (la + 2 * l.length + 1) ((nI b))) 8 0 (26) ((nI (l.length + 1)))) 8 0 (28) ((nI ((nop l) + 1)))) I1) → am_WP (am_psh g (some (.inl (1))) :: gs) (d + 6) (mk I1 X) Q) : am_WP (am_entry mX8_part0 [.inr (.inr (some (8, 0))), .inl (x)] :: g :: gs) (d + 5) (mk I X) Q := by
  obtain ⟨w1, w2, w3, w4, w5, w6⟩ := id hW
  have tle := tkM_le hW
  have hno := nop_le (l := l)
  refine am_go 400 ?_
  have tk0 : I 8 0 21 = nI (tkM tk) := hT.2.2.2.2.1
  refine am_f (mt (eq_nat (a := (tkM tk)) (b := 2) tk0 (rfl : (2 : Int32) = nI 2) (by omega) (by omega)).mp (by omega)) ?_
  refine am_t ((eq_nat (a := (tkM tk)) (b := 1) tk0 (rfl : (1 : Int32) = nI 1) (by omega) (by omega)).mpr k1) ?_
  have tk1 : I 8 0 23 = nI b := h23
  refine am_f (mt (eq_nat (a := b) (b := 0) tk1 (rfl : (0 : Int32) = nI 0) (by omega) (by omega)).mp hb0) ?_
  refine (c_isName_s (key := key) (b := b) hx hkey tk1 (by omega) hnm) _ _ _ ?_
  refine am_go 400 ?_
  refine (c_X8_step (m := l.length) (la := la) hS.2.2.1 hS.2.2.2.1 (by omega) (by omega)) _ _ _ ?_
  refine am_go 400 ?_
  have tk2 : (up3 (up3 (up3 I 30 0 (la + 2 * l.length) (1)) 30 0 (la + 2 * l.length + 1) ((I 8 0 23))) 8 0 (26) ((nI (l.length + 1)))) 8 0 28 = nI (nop l) := by first | exact ((up3_j (by decide))).trans hS.2.2.2.2.1 | (((try rw [tk1])); first | done | exact ((up3_j (by decide))).trans hS.2.2.2.2.1)
  have tk3 : (((up3 (up3 (up3 I 30 0 (la + 2 * l.length) (1)) 30 0 (la + 2 * l.length + 1) ((I 8 0 23))) 8 0 (26) ((nI (l.length + 1)))) 8 0 28) + 1) = nI ((nop l) + 1) := by first | exact (nI_addE tk2 (rfl : (1 : Int32) = nI 1)) | (((try rw [tk2]); (try rw [tk1])); first | done | exact (nI_addE tk2 (rfl : (1 : Int32) = nI 1)))
  refine (c_X8_nextToken (I := (up3 (up3 (up3 (up3 I 30 0 (la + 2 * l.length) (1)) 30 0 (la + 2 * l.length + 1) ((I 8 0 23))) 8 0 (26) ((nI (l.length + 1)))) 8 0 (28) (((((up3 (up3 (up3 I 30 0 (la + 2 * l.length) (1)) 30 0 (la + 2 * l.length + 1) ((I 8 0 23))) 8 0 (26) ((nI (l.length + 1)))) 8 0 28) + 1))))) (t := t) (n := n) (k := tk.1) (st := tk.2.1) (e := tk.2.2) hn (show MdT (up3 (up3 (up3 (up3 I 30 0 (la + 2 * l.length) (1)) 30 0 (la + 2 * l.length + 1) (_)) 8 0 (26) ((nI (l.length + 1)))) 8 0 (28) (_)) t n tk from (MdT_u (MdT_u (MdT_s (MdT_s hT)) (by decide)) (by decide))).1 (show MdT (up3 (up3 (up3 (up3 I 30 0 (la + 2 * l.length) (1)) 30 0 (la + 2 * l.length + 1) (_)) 8 0 (26) ((nI (l.length + 1)))) 8 0 (28) (_)) t n tk from (MdT_u (MdT_u (MdT_s (MdT_s hT)) (by decide)) (by decide))).2.1 ht hW.2.2.1 hW.2.1 (fun _ => by omega) (show MdT (up3 (up3 (up3 (up3 I 30 0 (la + 2 * l.length) (1)) 30 0 (la + 2 * l.length + 1) (_)) 8 0 (26) ((nI (l.length + 1)))) 8 0 (28) (_)) t n tk from (MdT_u (MdT_u (MdT_s (MdT_s hT)) (by decide)) (by decide))).2.2.2.1 ((show MdT (up3 (up3 (up3 (up3 I 30 0 (la + 2 * l.length) (1)) 30 0 (la + 2 * l.length + 1) (_)) 8 0 (26) ((nI (l.length + 1)))) 8 0 (28) (_)) t n tk from (MdT_u (MdT_u (MdT_s (MdT_s hT)) (by decide)) (by decide))).2.2.2.2.1.trans (congrArg nI (k1.trans k1b.symm)))) _ _ _ ?_
  intro I1 p1
  have p1 : MdT I1 t n (nxT t n (tk.1, tk.2.1, tk.2.2)) ∧ FrA8 (up3 (up3 (up3 (up3 I 30 0 (la + 2 * l.length) (1)) 30 0 (la + 2 * l.length + 1) ((I 8 0 23))) 8 0 (26) ((nI (l.length + 1)))) 8 0 (28) (((((up3 (up3 (up3 I 30 0 (la + 2 * l.length) (1)) 30 0 (la + 2 * l.length + 1) ((I 8 0 23))) 8 0 (26) ((nI (l.length + 1)))) 8 0 28) + 1)))) I1 := p1
  try rw [tk3] at p1
  try rw [tk2] at p1
  try rw [tk1] at p1
  refine am_go 400 ?_
  exact k0 I1 p1
set_option maxRecDepth 100000 in
set_option maxHeartbeats 4000000 in
theorem w_p0_bad1 {I : Nat → Nat → Nat → Int32} {X : am_Z} {g : am_F} {gs : List am_F} {d : Nat} {Q : Option am_V → am_M → Prop} {t : Nat → Nat} {n : Nat} {tk : Tk} (hn : n ≤ 96) (ht : ∀ j, j < n → t j < 256) (hT : MdT I t n tk) (hW : Wt t n tk) {la key ro no : Nat} {l : List (Nat × Nat)} (hS : MdS I la key ro no l) (hla : la ≤ 2954) {x : Int32} (hx : x = nI key) (hkey : key < 3) (k1 : tkM tk = 1) (k1b : tk.1 = 1) {b : Nat} (h23 : I 8 0 23 = nI b) (hb : b < 256) (hb0 : b = 0) (k0 : am_WP (am_psh g (some (.inl (0))) :: gs) (d + 6) (mk I X) Q) : am_WP (am_entry mX8_part0 [.inr (.inr (some (8, 0))), .inl (x)] :: g :: gs) (d + 5) (mk I X) Q := by
  obtain ⟨w1, w2, w3, w4, w5, w6⟩ := id hW
  have tle := tkM_le hW
  have hno := nop_le (l := l)
  refine am_go 400 ?_
  have tk0 : I 8 0 21 = nI (tkM tk) := hT.2.2.2.2.1
  refine am_f (mt (eq_nat (a := (tkM tk)) (b := 2) tk0 (rfl : (2 : Int32) = nI 2) (by omega) (by omega)).mp (by omega)) ?_
  refine am_t ((eq_nat (a := (tkM tk)) (b := 1) tk0 (rfl : (1 : Int32) = nI 1) (by omega) (by omega)).mpr k1) ?_
  have tk1 : I 8 0 23 = nI b := h23
  refine am_t ((eq_nat (a := b) (b := 0) tk1 (rfl : (0 : Int32) = nI 0) (by omega) (by omega)).mpr hb0) ?_
  refine (c_X8_isSign (tk := tk) (b := 33) hn ht hT hW (rfl : (33 : Int32) = nI 33) (by omega)) _ _ _ ?_
  refine am_go 400 ?_
  refine am_t (bI_0.mpr (fun z => by omega)) ?_
  refine (c_X8_isSign (tk := tk) (b := 40) hn ht hT hW (rfl : (40 : Int32) = nI 40) (by omega)) _ _ _ ?_
  refine am_go 400 ?_
  refine am_t (bI_0.mpr (fun z => by omega)) ?_
  exact k0
set_option maxRecDepth 100000 in
set_option maxHeartbeats 4000000 in
theorem w_p0_bad2 {I : Nat → Nat → Nat → Int32} {X : am_Z} {g : am_F} {gs : List am_F} {d : Nat} {Q : Option am_V → am_M → Prop} {t : Nat → Nat} {n : Nat} {tk : Tk} (hn : n ≤ 96) (ht : ∀ j, j < n → t j < 256) (hT : MdT I t n tk) (hW : Wt t n tk) {la key ro no : Nat} {l : List (Nat × Nat)} (hS : MdS I la key ro no l) (hla : la ≤ 2954) {x : Int32} (hx : x = nI key) (hkey : key < 3) (k1 : tkM tk = 1) (k1b : tk.1 = 1) {b : Nat} (h23 : I 8 0 23 = nI b) (hb : b < 256) (hb0 : ¬ b = 0) (hnm : nmI key b = none) (k0 : am_WP (am_psh g (some (.inl (0))) :: gs) (d + 6) (mk I X) Q) : am_WP (am_entry mX8_part0 [.inr (.inr (some (8, 0))), .inl (x)] :: g :: gs) (d + 5) (mk I X) Q := by
  obtain ⟨w1, w2, w3, w4, w5, w6⟩ := id hW
  have tle := tkM_le hW
  have hno := nop_le (l := l)
  refine am_go 400 ?_
  have tk0 : I 8 0 21 = nI (tkM tk) := hT.2.2.2.2.1
  refine am_f (mt (eq_nat (a := (tkM tk)) (b := 2) tk0 (rfl : (2 : Int32) = nI 2) (by omega) (by omega)).mp (by omega)) ?_
  refine am_t ((eq_nat (a := (tkM tk)) (b := 1) tk0 (rfl : (1 : Int32) = nI 1) (by omega) (by omega)).mpr k1) ?_
  have tk1 : I 8 0 23 = nI b := h23
  refine am_f (mt (eq_nat (a := b) (b := 0) tk1 (rfl : (0 : Int32) = nI 0) (by omega) (by omega)).mp hb0) ?_
  refine (c_isName_n (key := key) (b := b) hx hkey tk1 (by omega) hnm) _ _ _ ?_
  refine am_go 400 ?_
  refine (c_X8_isSign (tk := tk) (b := 33) hn ht hT hW (rfl : (33 : Int32) = nI 33) (by omega)) _ _ _ ?_
  refine am_go 400 ?_
  refine am_t (bI_0.mpr (fun z => by omega)) ?_
  refine (c_X8_isSign (tk := tk) (b := 40) hn ht hT hW (rfl : (40 : Int32) = nI 40) (by omega)) _ _ _ ?_
  refine am_go 400 ?_
  refine am_t (bI_0.mpr (fun z => by omega)) ?_
  exact k0
set_option maxRecDepth 100000 in
set_option maxHeartbeats 4000000 in
theorem w_p0_bad3 {I : Nat → Nat → Nat → Int32} {X : am_Z} {g : am_F} {gs : List am_F} {d : Nat} {Q : Option am_V → am_M → Prop} {t : Nat → Nat} {n : Nat} {tk : Tk} (hn : n ≤ 96) (ht : ∀ j, j < n → t j < 256) (hT : MdT I t n tk) (hW : Wt t n tk) {la key ro no : Nat} {l : List (Nat × Nat)} (hS : MdS I la key ro no l) (hla : la ≤ 2954) {x : Int32} (hx : x = nI key) (hkey : key < 3) (kn2 : ¬ tkM tk = 2) (kn1 : ¬ tkM tk = 1) (k3 : ¬ (tk.1 = 3 ∧ t tk.2.1 = 33)) (k4 : ¬ (tk.1 = 3 ∧ t tk.2.1 = 40)) (k0 : am_WP (am_psh g (some (.inl (0))) :: gs) (d + 6) (mk I X) Q) : am_WP (am_entry mX8_part0 [.inr (.inr (some (8, 0))), .inl (x)] :: g :: gs) (d + 5) (mk I X) Q := by
  obtain ⟨w1, w2, w3, w4, w5, w6⟩ := id hW
  have tle := tkM_le hW
  have hno := nop_le (l := l)
  refine am_go 400 ?_
  have tk0 : I 8 0 21 = nI (tkM tk) := hT.2.2.2.2.1
  refine am_f (mt (eq_nat (a := (tkM tk)) (b := 2) tk0 (rfl : (2 : Int32) = nI 2) (by omega) (by omega)).mp kn2) ?_
  refine am_f (mt (eq_nat (a := (tkM tk)) (b := 1) tk0 (rfl : (1 : Int32) = nI 1) (by omega) (by omega)).mp kn1) ?_
  refine (c_X8_isSign (tk := tk) (b := 33) hn ht hT hW (rfl : (33 : Int32) = nI 33) (by omega)) _ _ _ ?_
  refine am_go 400 ?_
  refine am_t (bI_0.mpr k3) ?_
  refine (c_X8_isSign (tk := tk) (b := 40) hn ht hT hW (rfl : (40 : Int32) = nI 40) (by omega)) _ _ _ ?_
  refine am_go 400 ?_
  refine am_t (bI_0.mpr k4) ?_
  exact k0
set_option maxRecDepth 100000 in
set_option maxHeartbeats 4000000 in
theorem w_p0_not_8 {I : Nat → Nat → Nat → Int32} {X : am_Z} {g : am_F} {gs : List am_F} {d : Nat} {Q : Option am_V → am_M → Prop} {t : Nat → Nat} {n : Nat} {tk : Tk} (hn : n ≤ 96) (ht : ∀ j, j < n → t j < 256) (hT : MdT I t n tk) (hW : Wt t n tk) {la key ro no : Nat} {l : List (Nat × Nat)} (hS : MdS I la key ro no l) (hla : la ≤ 2954) {x : Int32} (hx : x = nI key) (hkey : key < 3) (kn2 : ¬ tkM tk = 2) (kn1 : ¬ tkM tk = 1) (k3 : tk.1 = 3) (kb : t tk.2.1 = 33) (h8 : 8 ≤ no) (hno8 : no ≤ 8) (k0 : am_WP (am_psh g (some (.inl (0))) :: gs) (d + 6) (mk I X) Q) : am_WP (am_entry mX8_part0 [.inr (.inr (some (8, 0))), .inl (x)] :: g :: gs) (d + 5) (mk I X) Q := by
  obtain ⟨w1, w2, w3, w4, w5, w6⟩ := id hW
  have tle := tkM_le hW
  have hno := nop_le (l := l)
  refine am_go 400 ?_
  have tk0 : I 8 0 21 = nI (tkM tk) := hT.2.2.2.2.1
  refine am_f (mt (eq_nat (a := (tkM tk)) (b := 2) tk0 (rfl : (2 : Int32) = nI 2) (by omega) (by omega)).mp kn2) ?_
  refine am_f (mt (eq_nat (a := (tkM tk)) (b := 1) tk0 (rfl : (1 : Int32) = nI 1) (by omega) (by omega)).mp kn1) ?_
  refine (c_X8_isSign (tk := tk) (b := 33) hn ht hT hW (rfl : (33 : Int32) = nI 33) (by omega)) _ _ _ ?_
  refine am_go 400 ?_
  refine am_f (bI_1.mpr (⟨k3, kb⟩)) ?_
  have tk1 : I 8 0 25 = nI no := hS.2.1
  refine am_t ((le_nat (a := 8) (b := no) (rfl : (8 : Int32) = nI 8) tk1 (by omega) (by omega)).mpr h8) ?_
  refine (c_X8_isSign (tk := tk) (b := 40) hn ht hT hW (rfl : (40 : Int32) = nI 40) (by omega)) _ _ _ ?_
  refine am_go 400 ?_
  refine am_t (bI_0.mpr (fun z => by omega)) ?_
  exact k0
set_option maxRecDepth 100000 in
set_option maxHeartbeats 4000000 in
theorem w_p0_rnd_8 {I : Nat → Nat → Nat → Int32} {X : am_Z} {g : am_F} {gs : List am_F} {d : Nat} {Q : Option am_V → am_M → Prop} {t : Nat → Nat} {n : Nat} {tk : Tk} (hn : n ≤ 96) (ht : ∀ j, j < n → t j < 256) (hT : MdT I t n tk) (hW : Wt t n tk) {la key ro no : Nat} {l : List (Nat × Nat)} (hS : MdS I la key ro no l) (hla : la ≤ 2954) {x : Int32} (hx : x = nI key) (hkey : key < 3) (kn2 : ¬ tkM tk = 2) (kn1 : ¬ tkM tk = 1) (k3 : tk.1 = 3) (kb : t tk.2.1 = 40) (h8 : ro = 8) (k0 : am_WP (am_psh g (some (.inl (0))) :: gs) (d + 6) (mk I X) Q) : am_WP (am_entry mX8_part0 [.inr (.inr (some (8, 0))), .inl (x)] :: g :: gs) (d + 5) (mk I X) Q := by
  obtain ⟨w1, w2, w3, w4, w5, w6⟩ := id hW
  have tle := tkM_le hW
  have hno := nop_le (l := l)
  refine am_go 400 ?_
  have tk0 : I 8 0 21 = nI (tkM tk) := hT.2.2.2.2.1
  refine am_f (mt (eq_nat (a := (tkM tk)) (b := 2) tk0 (rfl : (2 : Int32) = nI 2) (by omega) (by omega)).mp kn2) ?_
  refine am_f (mt (eq_nat (a := (tkM tk)) (b := 1) tk0 (rfl : (1 : Int32) = nI 1) (by omega) (by omega)).mp kn1) ?_
  refine (c_X8_isSign (tk := tk) (b := 33) hn ht hT hW (rfl : (33 : Int32) = nI 33) (by omega)) _ _ _ ?_
  refine am_go 400 ?_
  refine am_t (bI_0.mpr (fun z => by omega)) ?_
  refine (c_X8_isSign (tk := tk) (b := 40) hn ht hT hW (rfl : (40 : Int32) = nI 40) (by omega)) _ _ _ ?_
  refine am_go 400 ?_
  refine am_f (bI_1.mpr (⟨k3, kb⟩)) ?_
  have tk1 : I 8 0 24 = nI ro := hS.1
  refine am_t ((eq_nat (a := ro) (b := 8) tk1 (rfl : (8 : Int32) = nI 8) (by omega) (by omega)).mpr h8) ?_
  exact k0
set_option maxRecDepth 100000 in
set_option maxHeartbeats 4000000 in
theorem w_p0_not_0 {I : Nat → Nat → Nat → Int32} {X : am_Z} {g : am_F} {gs : List am_F} {d : Nat} {Q : Option am_V → am_M → Prop} {t : Nat → Nat} {n : Nat} {tk : Tk} (hn : n ≤ 96) (ht : ∀ j, j < n → t j < 256) (hT : MdT I t n tk) (hW : Wt t n tk) {la key ro no : Nat} {l : List (Nat × Nat)} (hS : MdS I la key ro no l) (hla : la ≤ 2954) {x : Int32} (hx : x = nI key) (hkey : key < 3) (kn2 : ¬ tkM tk = 2) (kn1 : ¬ tkM tk = 1) (k3 : tk.1 = 3) (kb : t tk.2.1 = 33) (h8 : no < 8) {q : Pa} (hc : ∀ I1 : Im, MdT I1 t n (nxT t n tk) ∧ FrA8 (up3 I 8 0 25 (nI (no + 1))) I1 → Sw mX8_part0 [.inr (.inr (some (8, 0))), .inl x] (d + 4) I1 X (some (.inl 0)) (PrM I1 t n la key ro (no + 1) (false, q))) (k0 : ∀ (I1 : Im), (MdT I1 t n (nxT t n (tk.1, tk.2.1, tk.2.2)) ∧ FrA8 (up3 I 8 0 (25) ((nI (no + 1)))) I1) → ∀ (I2 : Im), (PrM I1 t n la key ro (no + 1) (false, q) I2) → am_WP (am_psh g (some (.inl (0))) :: gs) (d + 6) (mk I2 X) Q) : am_WP (am_entry mX8_part0 [.inr (.inr (some (8, 0))), .inl (x)] :: g :: gs) (d + 5) (mk I X) Q := by
  obtain ⟨w1, w2, w3, w4, w5, w6⟩ := id hW
  have tle := tkM_le hW
  have hno := nop_le (l := l)
  refine am_go 400 ?_
  have tk0 : I 8 0 21 = nI (tkM tk) := hT.2.2.2.2.1
  refine am_f (mt (eq_nat (a := (tkM tk)) (b := 2) tk0 (rfl : (2 : Int32) = nI 2) (by omega) (by omega)).mp kn2) ?_
  refine am_f (mt (eq_nat (a := (tkM tk)) (b := 1) tk0 (rfl : (1 : Int32) = nI 1) (by omega) (by omega)).mp kn1) ?_
  refine (c_X8_isSign (tk := tk) (b := 33) hn ht hT hW (rfl : (33 : Int32) = nI 33) (by omega)) _ _ _ ?_
  refine am_go 400 ?_
  refine am_f (bI_1.mpr (⟨k3, kb⟩)) ?_
  have tk1 : I 8 0 25 = nI no := hS.2.1
  refine am_f (mt (le_nat (a := 8) (b := no) (rfl : (8 : Int32) = nI 8) tk1 (by omega) (by omega)).mp (by omega)) ?_
  have tk2 : ((I 8 0 25) + 1) = nI (no + 1) := by first | exact (nI_addE tk1 (rfl : (1 : Int32) = nI 1)) | (((try rw [tk1])); first | done | exact (nI_addE tk1 (rfl : (1 : Int32) = nI 1)))
  refine (c_X8_nextToken (I := (up3 I 8 0 (25) ((((I 8 0 25) + 1))))) (t := t) (n := n) (k := tk.1) (st := tk.2.1) (e := tk.2.2) hn (show MdT (up3 I 8 0 (25) (_)) t n tk from (MdT_u hT (by decide))).1 (show MdT (up3 I 8 0 (25) (_)) t n tk from (MdT_u hT (by decide))).2.1 ht hW.2.2.1 hW.2.1 (fun _ => by omega) (show MdT (up3 I 8 0 (25) (_)) t n tk from (MdT_u hT (by decide))).2.2.2.1 ((show MdT (up3 I 8 0 (25) (_)) t n tk from (MdT_u hT (by decide))).2.2.2.2.1.trans (congrArg nI ((tkM_3.mpr k3).trans k3.symm)))) _ _ _ ?_
  intro I1 p1
  have p1 : MdT I1 t n (nxT t n (tk.1, tk.2.1, tk.2.2)) ∧ FrA8 (up3 I 8 0 (25) ((((I 8 0 25) + 1)))) I1 := p1
  try rw [tk2] at p1
  try rw [tk1] at p1
  refine am_go 400 ?_
  refine (hc I1 p1) _ _ _ ?_
  intro I2 p2
  refine am_go 400 ?_
  exact k0 I1 p1 I2 p2
set_option maxRecDepth 100000 in
set_option maxHeartbeats 4000000 in
theorem w_p0_rnd_0 {I : Nat → Nat → Nat → Int32} {X : am_Z} {g : am_F} {gs : List am_F} {d : Nat} {Q : Option am_V → am_M → Prop} {t : Nat → Nat} {n : Nat} {tk : Tk} (hn : n ≤ 96) (ht : ∀ j, j < n → t j < 256) (hT : MdT I t n tk) (hW : Wt t n tk) {la key ro no : Nat} {l : List (Nat × Nat)} (hS : MdS I la key ro no l) (hla : la ≤ 2954) {x : Int32} (hx : x = nI key) (hkey : key < 3) (kn2 : ¬ tkM tk = 2) (kn1 : ¬ tkM tk = 1) (k3 : tk.1 = 3) (kb : t tk.2.1 = 40) (h8 : ro < 8) {q : Pa} (hq : Wt t n q.1) (hc : ∀ I1 : Im, MdT I1 t n (nxT t n tk) ∧ FrA8 (up3 I 8 0 24 (nI (ro + 1))) I1 → Sw mX8_either [.inr (.inr (some (8, 0))), .inl x] (d + 4) I1 X (some (.inl 0)) (PrM I1 t n la key (ro + 1) no (false, q))) (k0 : ∀ (I1 : Im), (MdT I1 t n (nxT t n (tk.1, tk.2.1, tk.2.2)) ∧ FrA8 (up3 I 8 0 (24) ((nI (ro + 1)))) I1) → ∀ (I2 : Im), (PrM I1 t n la key (ro + 1) no (false, q) I2) → am_WP (am_psh g (some (.inl (0))) :: gs) (d + 6) (mk I2 X) Q) : am_WP (am_entry mX8_part0 [.inr (.inr (some (8, 0))), .inl (x)] :: g :: gs) (d + 5) (mk I X) Q := by
  obtain ⟨w1, w2, w3, w4, w5, w6⟩ := id hW
  have tle := tkM_le hW
  have hno := nop_le (l := l)
  refine am_go 400 ?_
  have tk0 : I 8 0 21 = nI (tkM tk) := hT.2.2.2.2.1
  refine am_f (mt (eq_nat (a := (tkM tk)) (b := 2) tk0 (rfl : (2 : Int32) = nI 2) (by omega) (by omega)).mp kn2) ?_
  refine am_f (mt (eq_nat (a := (tkM tk)) (b := 1) tk0 (rfl : (1 : Int32) = nI 1) (by omega) (by omega)).mp kn1) ?_
  refine (c_X8_isSign (tk := tk) (b := 33) hn ht hT hW (rfl : (33 : Int32) = nI 33) (by omega)) _ _ _ ?_
  refine am_go 400 ?_
  refine am_t (bI_0.mpr (fun z => by omega)) ?_
  refine (c_X8_isSign (tk := tk) (b := 40) hn ht hT hW (rfl : (40 : Int32) = nI 40) (by omega)) _ _ _ ?_
  refine am_go 400 ?_
  refine am_f (bI_1.mpr (⟨k3, kb⟩)) ?_
  have tk1 : I 8 0 24 = nI ro := hS.1
  refine am_f (mt (eq_nat (a := ro) (b := 8) tk1 (rfl : (8 : Int32) = nI 8) (by omega) (by omega)).mp (by omega)) ?_
  have tk2 : ((I 8 0 24) + 1) = nI (ro + 1) := by first | exact (nI_addE tk1 (rfl : (1 : Int32) = nI 1)) | (((try rw [tk1])); first | done | exact (nI_addE tk1 (rfl : (1 : Int32) = nI 1)))
  refine (c_X8_nextToken (I := (up3 I 8 0 (24) ((((I 8 0 24) + 1))))) (t := t) (n := n) (k := tk.1) (st := tk.2.1) (e := tk.2.2) hn (show MdT (up3 I 8 0 (24) (_)) t n tk from (MdT_u hT (by decide))).1 (show MdT (up3 I 8 0 (24) (_)) t n tk from (MdT_u hT (by decide))).2.1 ht hW.2.2.1 hW.2.1 (fun _ => by omega) (show MdT (up3 I 8 0 (24) (_)) t n tk from (MdT_u hT (by decide))).2.2.2.1 ((show MdT (up3 I 8 0 (24) (_)) t n tk from (MdT_u hT (by decide))).2.2.2.2.1.trans (congrArg nI ((tkM_3.mpr k3).trans k3.symm)))) _ _ _ ?_
  intro I1 p1
  have p1 : MdT I1 t n (nxT t n (tk.1, tk.2.1, tk.2.2)) ∧ FrA8 (up3 I 8 0 (24) ((((I 8 0 24) + 1)))) I1 := p1
  try rw [tk2] at p1
  try rw [tk1] at p1
  refine am_go 400 ?_
  refine (hc I1 p1) _ _ _ ?_
  intro I2 p2
  refine am_go 400 ?_
  exact k0 I1 p1 I2 p2
set_option maxRecDepth 100000 in
set_option maxHeartbeats 4000000 in
theorem w_p0_not_1 {I : Nat → Nat → Nat → Int32} {X : am_Z} {g : am_F} {gs : List am_F} {d : Nat} {Q : Option am_V → am_M → Prop} {t : Nat → Nat} {n : Nat} {tk : Tk} (hn : n ≤ 96) (ht : ∀ j, j < n → t j < 256) (hT : MdT I t n tk) (hW : Wt t n tk) {la key ro no : Nat} {l : List (Nat × Nat)} (hS : MdS I la key ro no l) (hla : la ≤ 2954) {x : Int32} (hx : x = nI key) (hkey : key < 3) (kn2 : ¬ tkM tk = 2) (kn1 : ¬ tkM tk = 1) (k3 : tk.1 = 3) (kb : t tk.2.1 = 33) (h8 : no < 8) {q : Pa} (hq : q.2.length < 96) (hc : ∀ I1 : Im, MdT I1 t n (nxT t n tk) ∧ FrA8 (up3 I 8 0 25 (nI (no + 1))) I1 → Sw mX8_part0 [.inr (.inr (some (8, 0))), .inl x] (d + 4) I1 X (some (.inl 1)) (PrM I1 t n la key ro (no + 1) (true, q))) (k0 : ∀ (I1 : Im), (MdT I1 t n (nxT t n (tk.1, tk.2.1, tk.2.2)) ∧ FrA8 (up3 I 8 0 (25) ((nI (no + 1)))) I1) → ∀ (I2 : Im), (PrM I1 t n la key ro (no + 1) (true, q) I2) → am_WP (am_psh g (some (.inl (1))) :: gs) (d + 6) (mk (up3 (up3 (up3 (up3 I2 8 0 (25) ((nI ((no + 1) - 1)))) 30 0 (la + 2 * q.2.length) (2)) 30 0 (la + 2 * q.2.length + 1) (33)) 8 0 (26) ((nI (q.2.length + 1)))) X) Q) : am_WP (am_entry mX8_part0 [.inr (.inr (some (8, 0))), .inl (x)] :: g :: gs) (d + 5) (mk I X) Q := by
  obtain ⟨w1, w2, w3, w4, w5, w6⟩ := id hW
  have tle := tkM_le hW
  have hno := nop_le (l := l)
  refine am_go 400 ?_
  have tk0 : I 8 0 21 = nI (tkM tk) := hT.2.2.2.2.1
  refine am_f (mt (eq_nat (a := (tkM tk)) (b := 2) tk0 (rfl : (2 : Int32) = nI 2) (by omega) (by omega)).mp kn2) ?_
  refine am_f (mt (eq_nat (a := (tkM tk)) (b := 1) tk0 (rfl : (1 : Int32) = nI 1) (by omega) (by omega)).mp kn1) ?_
  refine (c_X8_isSign (tk := tk) (b := 33) hn ht hT hW (rfl : (33 : Int32) = nI 33) (by omega)) _ _ _ ?_
  refine am_go 400 ?_
  refine am_f (bI_1.mpr (⟨k3, kb⟩)) ?_
  have tk1 : I 8 0 25 = nI no := hS.2.1
  refine am_f (mt (le_nat (a := 8) (b := no) (rfl : (8 : Int32) = nI 8) tk1 (by omega) (by omega)).mp (by omega)) ?_
  have tk2 : ((I 8 0 25) + 1) = nI (no + 1) := by first | exact (nI_addE tk1 (rfl : (1 : Int32) = nI 1)) | (((try rw [tk1])); first | done | exact (nI_addE tk1 (rfl : (1 : Int32) = nI 1)))
  refine (c_X8_nextToken (I := (up3 I 8 0 (25) ((((I 8 0 25) + 1))))) (t := t) (n := n) (k := tk.1) (st := tk.2.1) (e := tk.2.2) hn (show MdT (up3 I 8 0 (25) (_)) t n tk from (MdT_u hT (by decide))).1 (show MdT (up3 I 8 0 (25) (_)) t n tk from (MdT_u hT (by decide))).2.1 ht hW.2.2.1 hW.2.1 (fun _ => by omega) (show MdT (up3 I 8 0 (25) (_)) t n tk from (MdT_u hT (by decide))).2.2.2.1 ((show MdT (up3 I 8 0 (25) (_)) t n tk from (MdT_u hT (by decide))).2.2.2.2.1.trans (congrArg nI ((tkM_3.mpr k3).trans k3.symm)))) _ _ _ ?_
  intro I1 p1
  have p1 : MdT I1 t n (nxT t n (tk.1, tk.2.1, tk.2.2)) ∧ FrA8 (up3 I 8 0 (25) ((((I 8 0 25) + 1)))) I1 := p1
  try rw [tk2] at p1
  try rw [tk1] at p1
  refine am_go 400 ?_
  refine (hc I1 p1) _ _ _ ?_
  intro I2 p2
  refine am_go 400 ?_
  have tk3 : I2 8 0 25 = nI (no + 1) := (p2.2.2 rfl).2.2.1
  have tk4 : ((I2 8 0 25) - 1) = nI ((no + 1) - 1) := by first | exact (nI_subE tk3 (rfl : (1 : Int32) = nI 1) (by omega)) | (((try rw [tk3])); first | done | exact (nI_subE tk3 (rfl : (1 : Int32) = nI 1) (by omega)))
  refine (c_X8_step (m := q.2.length) (la := la) (show (up3 I2 8 0 (25) (_)) 8 0 26 = _ from by rw [up3_j (by decide)]; exact (p2.2.2 rfl).2.2.2.1) (show (up3 I2 8 0 (25) (_)) 8 0 27 = _ from by rw [up3_j (by decide)]; exact (p2.2.2 rfl).2.2.2.2.1) (by omega) (by omega)) _ _ _ ?_
  refine am_go 400 ?_
  show am_WP (am_psh g (some (.inl (1))) :: gs) (d + 6) (mk (up3 (up3 (up3 (up3 I2 8 0 (25) ((((I2 8 0 25) - 1)))) 30 0 (la + 2 * q.2.length) (2)) 30 0 (la + 2 * q.2.length + 1) (33)) 8 0 (26) ((nI (q.2.length + 1)))) X) Q
  try rw [tk4]
  try rw [tk3]
  exact k0 I1 p1 I2 p2
set_option maxRecDepth 100000 in
set_option maxHeartbeats 4000000 in
theorem w_p0_rnd_1 {I : Nat → Nat → Nat → Int32} {X : am_Z} {g : am_F} {gs : List am_F} {d : Nat} {Q : Option am_V → am_M → Prop} {t : Nat → Nat} {n : Nat} {tk : Tk} (hn : n ≤ 96) (ht : ∀ j, j < n → t j < 256) (hT : MdT I t n tk) (hW : Wt t n tk) {la key ro no : Nat} {l : List (Nat × Nat)} (hS : MdS I la key ro no l) (hla : la ≤ 2954) {x : Int32} (hx : x = nI key) (hkey : key < 3) (kn2 : ¬ tkM tk = 2) (kn1 : ¬ tkM tk = 1) (k3 : tk.1 = 3) (kb : t tk.2.1 = 40) (h8 : ro < 8) {q : Pa} (hq : Wt t n q.1) (hc : ∀ I1 : Im, MdT I1 t n (nxT t n tk) ∧ FrA8 (up3 I 8 0 24 (nI (ro + 1))) I1 → Sw mX8_either [.inr (.inr (some (8, 0))), .inl x] (d + 4) I1 X (some (.inl 1)) (PrM I1 t n la key (ro + 1) no (true, q))) (k0 : ∀ (I1 : Im), (MdT I1 t n (nxT t n (tk.1, tk.2.1, tk.2.2)) ∧ FrA8 (up3 I 8 0 (24) ((nI (ro + 1)))) I1) → ∀ (I2 : Im), (PrM I1 t n la key (ro + 1) no (true, q) I2) → (¬ (q.1.1 = 3 ∧ t q.1.2.1 = 41)) → am_WP (am_psh g (some (.inl (0))) :: gs) (d + 6) (mk I2 X) Q) (k1 : ∀ (I1 : Im), (MdT I1 t n (nxT t n (tk.1, tk.2.1, tk.2.2)) ∧ FrA8 (up3 I 8 0 (24) ((nI (ro + 1)))) I1) → ∀ (I2 : Im), (PrM I1 t n la key (ro + 1) no (true, q) I2) → (q.1.1 = 3 ∧ t q.1.2.1 = 41) → ∀ (I3 : Im), (MdT I3 t n (nxT t n (q.1.1, q.1.2.1, q.1.2.2)) ∧ FrA8 (up3 I2 8 0 (24) ((nI ((ro + 1) - 1)))) I3) → am_WP (am_psh g (some (.inl (1))) :: gs) (d + 6) (mk I3 X) Q) : am_WP (am_entry mX8_part0 [.inr (.inr (some (8, 0))), .inl (x)] :: g :: gs) (d + 5) (mk I X) Q := by
  obtain ⟨w1, w2, w3, w4, w5, w6⟩ := id hW
  have tle := tkM_le hW
  have hno := nop_le (l := l)
  refine am_go 400 ?_
  have tk0 : I 8 0 21 = nI (tkM tk) := hT.2.2.2.2.1
  refine am_f (mt (eq_nat (a := (tkM tk)) (b := 2) tk0 (rfl : (2 : Int32) = nI 2) (by omega) (by omega)).mp kn2) ?_
  refine am_f (mt (eq_nat (a := (tkM tk)) (b := 1) tk0 (rfl : (1 : Int32) = nI 1) (by omega) (by omega)).mp kn1) ?_
  refine (c_X8_isSign (tk := tk) (b := 33) hn ht hT hW (rfl : (33 : Int32) = nI 33) (by omega)) _ _ _ ?_
  refine am_go 400 ?_
  refine am_t (bI_0.mpr (fun z => by omega)) ?_
  refine (c_X8_isSign (tk := tk) (b := 40) hn ht hT hW (rfl : (40 : Int32) = nI 40) (by omega)) _ _ _ ?_
  refine am_go 400 ?_
  refine am_f (bI_1.mpr (⟨k3, kb⟩)) ?_
  have tk1 : I 8 0 24 = nI ro := hS.1
  refine am_f (mt (eq_nat (a := ro) (b := 8) tk1 (rfl : (8 : Int32) = nI 8) (by omega) (by omega)).mp (by omega)) ?_
  have tk2 : ((I 8 0 24) + 1) = nI (ro + 1) := by first | exact (nI_addE tk1 (rfl : (1 : Int32) = nI 1)) | (((try rw [tk1])); first | done | exact (nI_addE tk1 (rfl : (1 : Int32) = nI 1)))
  refine (c_X8_nextToken (I := (up3 I 8 0 (24) ((((I 8 0 24) + 1))))) (t := t) (n := n) (k := tk.1) (st := tk.2.1) (e := tk.2.2) hn (show MdT (up3 I 8 0 (24) (_)) t n tk from (MdT_u hT (by decide))).1 (show MdT (up3 I 8 0 (24) (_)) t n tk from (MdT_u hT (by decide))).2.1 ht hW.2.2.1 hW.2.1 (fun _ => by omega) (show MdT (up3 I 8 0 (24) (_)) t n tk from (MdT_u hT (by decide))).2.2.2.1 ((show MdT (up3 I 8 0 (24) (_)) t n tk from (MdT_u hT (by decide))).2.2.2.2.1.trans (congrArg nI ((tkM_3.mpr k3).trans k3.symm)))) _ _ _ ?_
  intro I1 p1
  have p1 : MdT I1 t n (nxT t n (tk.1, tk.2.1, tk.2.2)) ∧ FrA8 (up3 I 8 0 (24) ((((I 8 0 24) + 1)))) I1 := p1
  try rw [tk2] at p1
  try rw [tk1] at p1
  refine am_go 400 ?_
  refine (hc I1 p1) _ _ _ ?_
  intro I2 p2
  refine am_go 400 ?_
  refine (c_X8_isSign (tk := q.1) (b := 41) hn ht (p2.2.2 rfl).1 hq (rfl : (41 : Int32) = nI 41) (by omega)) _ _ _ ?_
  refine am_go 400 ?_
  refine am_if (fun h1 => ?_) (fun h1 => ?_)
  · have h1 := bI_0.mp h1
    exact k0 I1 p1 I2 p2 h1
  · have h1 := bI_1.mp h1
    have tk3 : I2 8 0 24 = nI (ro + 1) := (p2.2.2 rfl).2.1
    have tk4 : ((I2 8 0 24) - 1) = nI ((ro + 1) - 1) := by first | exact (nI_subE tk3 (rfl : (1 : Int32) = nI 1) (by omega)) | (((try rw [tk3])); first | done | exact (nI_subE tk3 (rfl : (1 : Int32) = nI 1) (by omega)))
    refine (c_X8_nextToken (I := (up3 I2 8 0 (24) ((((I2 8 0 24) - 1))))) (t := t) (n := n) (k := q.1.1) (st := q.1.2.1) (e := q.1.2.2) hn (show MdT (up3 I2 8 0 (24) (_)) t n q.1 from (MdT_u (p2.2.2 rfl).1 (by decide))).1 (show MdT (up3 I2 8 0 (24) (_)) t n q.1 from (MdT_u (p2.2.2 rfl).1 (by decide))).2.1 ht hq.2.2.1 hq.2.1 (fun _ => by omega) (show MdT (up3 I2 8 0 (24) (_)) t n q.1 from (MdT_u (p2.2.2 rfl).1 (by decide))).2.2.2.1 ((show MdT (up3 I2 8 0 (24) (_)) t n q.1 from (MdT_u (p2.2.2 rfl).1 (by decide))).2.2.2.2.1.trans (congrArg nI ((tkM_3.mpr (by assumption : q.1.1 = 3 ∧ t q.1.2.1 = 41).1).trans (by assumption : q.1.1 = 3 ∧ t q.1.2.1 = 41).1.symm)))) _ _ _ ?_
    intro I3 p3
    have p3 : MdT I3 t n (nxT t n (q.1.1, q.1.2.1, q.1.2.2)) ∧ FrA8 (up3 I2 8 0 (24) ((((I2 8 0 24) - 1)))) I3 := p3
    try rw [tk4] at p3
    try rw [tk3] at p3
    refine am_go 400 ?_
    exact k1 I1 p1 I2 p2 h1 I3 p3
set_option maxRecDepth 100000 in
set_option maxHeartbeats 4000000 in
theorem w_m0_a0 {I : Nat → Nat → Nat → Int32} {X : am_Z} {g : am_F} {gs : List am_F} {d : Nat} {Q : Option am_V → am_M → Prop} {x : Int32} {P : Im → Prop} (hc : Sw mX8_both [.inr (.inr (some (8, 0))), .inl x] (d + 5) I X (some (.inl 0)) P) (k0 : ∀ (I1 : Im), (P I1) → am_WP (am_psh g (some (.inl (0))) :: gs) (d + 7) (mk I1 X) Q) : am_WP (am_entry mX8_either [.inr (.inr (some (8, 0))), .inl (x)] :: g :: gs) (d + 6) (mk I X) Q := by
  refine am_go 400 ?_
  refine (hc) _ _ _ ?_
  intro I1 p1
  refine am_go 400 ?_
  exact k0 I1 p1
set_option maxRecDepth 100000 in
set_option maxHeartbeats 4000000 in
theorem w_m0_a1 {I : Nat → Nat → Nat → Int32} {X : am_Z} {g : am_F} {gs : List am_F} {d : Nat} {Q : Option am_V → am_M → Prop} {x : Int32} {P : Im → Prop} (hc : Sw mX8_both [.inr (.inr (some (8, 0))), .inl x] (d + 5) I X (some (.inl 1)) P) (k0 : ∀ (I1 : Im), (P I1) → am_WP ((mX8_either, 10, [some (.inr (.inr (some (8, 0)))), some (.inl (x))], []) :: g :: gs) (d + 6) (mk I1 X) Q) : am_WP (am_entry mX8_either [.inr (.inr (some (8, 0))), .inl (x)] :: g :: gs) (d + 6) (mk I X) Q := by
  refine am_go 400 ?_
  refine (hc) _ _ _ ?_
  intro I1 p1
  refine am_go 1 ?_
  exact k0 I1 p1
set_option maxRecDepth 100000 in
set_option maxHeartbeats 4000000 in
theorem w_m0_e {I : Nat → Nat → Nat → Int32} {X : am_Z} {g : am_F} {gs : List am_F} {d : Nat} {Q : Option am_V → am_M → Prop} {t : Nat → Nat} {n : Nat} {tk : Tk} (hn : n ≤ 96) (ht : ∀ j, j < n → t j < 256) (hT : MdT I t n tk) (hW : Wt t n tk) {x : Int32} (s124 : ¬ (tk.1 = 3 ∧ t tk.2.1 = 124)) (k0 : am_WP (am_psh g (some (.inl (1))) :: gs) (d + 7) (mk I X) Q) : am_WP ((mX8_either, 10, [some (.inr (.inr (some (8, 0)))), some (.inl (x))], []) :: g :: gs) (d + 6) (mk I X) Q := by
  refine am_go 400 ?_
  refine (c_X8_isSign (tk := tk) (b := 124) hn ht hT hW (rfl : (124 : Int32) = nI 124) (by omega)) _ _ _ ?_
  refine am_go 400 ?_
  refine am_t (bI_0.mpr s124) ?_
  exact k0
set_option maxRecDepth 100000 in
set_option maxHeartbeats 4000000 in
theorem w_m0_124_0 {I : Nat → Nat → Nat → Int32} {X : am_Z} {g : am_F} {gs : List am_F} {d : Nat} {Q : Option am_V → am_M → Prop} {t : Nat → Nat} {n : Nat} {tk : Tk} (hn : n ≤ 96) (ht : ∀ j, j < n → t j < 256) (hT : MdT I t n tk) (hW : Wt t n tk) {x : Int32} {la key ro no : Nat} (hla : la ≤ 2954) (k3 : tk.1 = 3) (kb : t tk.2.1 = 124) (h23 : I 8 0 23 = 124) {q : Pa} (hc : ∀ I1 : Im, MdT I1 t n (nxT t n tk) ∧ FrA8 I I1 → Sw mX8_both [.inr (.inr (some (8, 0))), .inl x] (d + 5) I1 X (some (.inl 0)) (PrM I1 t n la key ro no (false, q))) (k0 : ∀ (I1 : Im), (MdT I1 t n (nxT t n (tk.1, tk.2.1, tk.2.2)) ∧ FrA8 I I1) → ∀ (I2 : Im), (PrM I1 t n la key ro no (false, q) I2) → am_WP (am_psh g (some (.inl (0))) :: gs) (d + 7) (mk I2 X) Q) : am_WP ((mX8_either, 10, [some (.inr (.inr (some (8, 0)))), some (.inl (x))], []) :: g :: gs) (d + 6) (mk I X) Q := by
  obtain ⟨w1, w2, w3, w4, w5, w6⟩ := id hW
  refine am_go 400 ?_
  refine (c_X8_isSign (tk := tk) (b := 124) hn ht hT hW (rfl : (124 : Int32) = nI 124) (by omega)) _ _ _ ?_
  refine am_go 400 ?_
  refine am_f (bI_1.mpr (⟨k3, kb⟩)) ?_
  refine (c_X8_nextToken (I := I) (t := t) (n := n) (k := tk.1) (st := tk.2.1) (e := tk.2.2) hn (show MdT I t n tk from hT).1 (show MdT I t n tk from hT).2.1 ht hW.2.2.1 hW.2.1 (fun _ => by omega) (show MdT I t n tk from hT).2.2.2.1 ((show MdT I t n tk from hT).2.2.2.2.1.trans (congrArg nI ((tkM_3.mpr k3).trans k3.symm)))) _ _ _ ?_
  intro I1 p1
  refine am_go 400 ?_
  refine (hc I1 p1) _ _ _ ?_
  intro I2 p2
  refine am_go 400 ?_
  exact k0 I1 p1 I2 p2
set_option maxRecDepth 100000 in
set_option maxHeartbeats 4000000 in
theorem w_m0_124_1 {I : Nat → Nat → Nat → Int32} {X : am_Z} {g : am_F} {gs : List am_F} {d : Nat} {Q : Option am_V → am_M → Prop} {t : Nat → Nat} {n : Nat} {tk : Tk} (hn : n ≤ 96) (ht : ∀ j, j < n → t j < 256) (hT : MdT I t n tk) (hW : Wt t n tk) {x : Int32} {la key ro no : Nat} (hla : la ≤ 2954) (k3 : tk.1 = 3) (kb : t tk.2.1 = 124) (h23 : I 8 0 23 = 124) {q : Pa} (hq : q.2.length < 96) (hc : ∀ I1 : Im, MdT I1 t n (nxT t n tk) ∧ FrA8 I I1 → Sw mX8_both [.inr (.inr (some (8, 0))), .inl x] (d + 5) I1 X (some (.inl 1)) (PrM I1 t n la key ro no (true, q))) (k0 : ∀ (I1 : Im), (MdT I1 t n (nxT t n (tk.1, tk.2.1, tk.2.2)) ∧ FrA8 I I1) → ∀ (I2 : Im), (PrM I1 t n la key ro no (true, q) I2) → am_WP ((mX8_either, 10, [some (.inr (.inr (some (8, 0)))), some (.inl (x))], []) :: g :: gs) (d + 6) (mk (up3 (up3 (up3 I2 30 0 (la + 2 * q.2.length) (2)) 30 0 (la + 2 * q.2.length + 1) (124)) 8 0 (26) ((nI (q.2.length + 1)))) X) Q) : am_WP ((mX8_either, 10, [some (.inr (.inr (some (8, 0)))), some (.inl (x))], []) :: g :: gs) (d + 6) (mk I X) Q := by
  obtain ⟨w1, w2, w3, w4, w5, w6⟩ := id hW
  refine am_go 400 ?_
  refine (c_X8_isSign (tk := tk) (b := 124) hn ht hT hW (rfl : (124 : Int32) = nI 124) (by omega)) _ _ _ ?_
  refine am_go 400 ?_
  refine am_f (bI_1.mpr (⟨k3, kb⟩)) ?_
  refine (c_X8_nextToken (I := I) (t := t) (n := n) (k := tk.1) (st := tk.2.1) (e := tk.2.2) hn (show MdT I t n tk from hT).1 (show MdT I t n tk from hT).2.1 ht hW.2.2.1 hW.2.1 (fun _ => by omega) (show MdT I t n tk from hT).2.2.2.1 ((show MdT I t n tk from hT).2.2.2.2.1.trans (congrArg nI ((tkM_3.mpr k3).trans k3.symm)))) _ _ _ ?_
  intro I1 p1
  refine am_go 400 ?_
  refine (hc I1 p1) _ _ _ ?_
  intro I2 p2
  refine am_go 400 ?_
  refine (c_X8_step (m := q.2.length) (la := la) (p2.2.2 rfl).2.2.2.1 (p2.2.2 rfl).2.2.2.2.1 (by omega) (by omega)) _ _ _ ?_
  refine am_go 400 ?_
  exact k0 I1 p1 I2 p2
set_option maxRecDepth 100000 in
set_option maxHeartbeats 4000000 in
theorem w_m1_a0 {I : Nat → Nat → Nat → Int32} {X : am_Z} {g : am_F} {gs : List am_F} {d : Nat} {Q : Option am_V → am_M → Prop} {x : Int32} {P : Im → Prop} (hc : Sw mX8_test [.inr (.inr (some (8, 0))), .inl x] (d + 5) I X (some (.inl 0)) P) (k0 : ∀ (I1 : Im), (P I1) → am_WP (am_psh g (some (.inl (0))) :: gs) (d + 7) (mk I1 X) Q) : am_WP (am_entry mX8_both [.inr (.inr (some (8, 0))), .inl (x)] :: g :: gs) (d + 6) (mk I X) Q := by
  refine am_go 400 ?_
  refine (hc) _ _ _ ?_
  intro I1 p1
  refine am_go 400 ?_
  exact k0 I1 p1
set_option maxRecDepth 100000 in
set_option maxHeartbeats 4000000 in
theorem w_m1_a1 {I : Nat → Nat → Nat → Int32} {X : am_Z} {g : am_F} {gs : List am_F} {d : Nat} {Q : Option am_V → am_M → Prop} {x : Int32} {P : Im → Prop} (hc : Sw mX8_test [.inr (.inr (some (8, 0))), .inl x] (d + 5) I X (some (.inl 1)) P) (k0 : ∀ (I1 : Im), (P I1) → am_WP ((mX8_both, 10, [some (.inr (.inr (some (8, 0)))), some (.inl (x))], []) :: g :: gs) (d + 6) (mk I1 X) Q) : am_WP (am_entry mX8_both [.inr (.inr (some (8, 0))), .inl (x)] :: g :: gs) (d + 6) (mk I X) Q := by
  refine am_go 400 ?_
  refine (hc) _ _ _ ?_
  intro I1 p1
  refine am_go 1 ?_
  exact k0 I1 p1
set_option maxRecDepth 100000 in
set_option maxHeartbeats 4000000 in
theorem w_m1_e {I : Nat → Nat → Nat → Int32} {X : am_Z} {g : am_F} {gs : List am_F} {d : Nat} {Q : Option am_V → am_M → Prop} {t : Nat → Nat} {n : Nat} {tk : Tk} (hn : n ≤ 96) (ht : ∀ j, j < n → t j < 256) (hT : MdT I t n tk) (hW : Wt t n tk) {x : Int32} (s38 : ¬ (tk.1 = 3 ∧ t tk.2.1 = 38)) (k0 : am_WP (am_psh g (some (.inl (1))) :: gs) (d + 7) (mk I X) Q) : am_WP ((mX8_both, 10, [some (.inr (.inr (some (8, 0)))), some (.inl (x))], []) :: g :: gs) (d + 6) (mk I X) Q := by
  refine am_go 400 ?_
  refine (c_X8_isSign (tk := tk) (b := 38) hn ht hT hW (rfl : (38 : Int32) = nI 38) (by omega)) _ _ _ ?_
  refine am_go 400 ?_
  refine am_t (bI_0.mpr s38) ?_
  exact k0
set_option maxRecDepth 100000 in
set_option maxHeartbeats 4000000 in
theorem w_m1_38_0 {I : Nat → Nat → Nat → Int32} {X : am_Z} {g : am_F} {gs : List am_F} {d : Nat} {Q : Option am_V → am_M → Prop} {t : Nat → Nat} {n : Nat} {tk : Tk} (hn : n ≤ 96) (ht : ∀ j, j < n → t j < 256) (hT : MdT I t n tk) (hW : Wt t n tk) {x : Int32} {la key ro no : Nat} (hla : la ≤ 2954) (k3 : tk.1 = 3) (kb : t tk.2.1 = 38) (h23 : I 8 0 23 = 38) {q : Pa} (hc : ∀ I1 : Im, MdT I1 t n (nxT t n tk) ∧ FrA8 I I1 → Sw mX8_test [.inr (.inr (some (8, 0))), .inl x] (d + 5) I1 X (some (.inl 0)) (PrM I1 t n la key ro no (false, q))) (k0 : ∀ (I1 : Im), (MdT I1 t n (nxT t n (tk.1, tk.2.1, tk.2.2)) ∧ FrA8 I I1) → ∀ (I2 : Im), (PrM I1 t n la key ro no (false, q) I2) → am_WP (am_psh g (some (.inl (0))) :: gs) (d + 7) (mk I2 X) Q) : am_WP ((mX8_both, 10, [some (.inr (.inr (some (8, 0)))), some (.inl (x))], []) :: g :: gs) (d + 6) (mk I X) Q := by
  obtain ⟨w1, w2, w3, w4, w5, w6⟩ := id hW
  refine am_go 400 ?_
  refine (c_X8_isSign (tk := tk) (b := 38) hn ht hT hW (rfl : (38 : Int32) = nI 38) (by omega)) _ _ _ ?_
  refine am_go 400 ?_
  refine am_f (bI_1.mpr (⟨k3, kb⟩)) ?_
  refine (c_X8_nextToken (I := I) (t := t) (n := n) (k := tk.1) (st := tk.2.1) (e := tk.2.2) hn (show MdT I t n tk from hT).1 (show MdT I t n tk from hT).2.1 ht hW.2.2.1 hW.2.1 (fun _ => by omega) (show MdT I t n tk from hT).2.2.2.1 ((show MdT I t n tk from hT).2.2.2.2.1.trans (congrArg nI ((tkM_3.mpr k3).trans k3.symm)))) _ _ _ ?_
  intro I1 p1
  refine am_go 400 ?_
  refine (hc I1 p1) _ _ _ ?_
  intro I2 p2
  refine am_go 400 ?_
  exact k0 I1 p1 I2 p2
set_option maxRecDepth 100000 in
set_option maxHeartbeats 4000000 in
theorem w_m1_38_1 {I : Nat → Nat → Nat → Int32} {X : am_Z} {g : am_F} {gs : List am_F} {d : Nat} {Q : Option am_V → am_M → Prop} {t : Nat → Nat} {n : Nat} {tk : Tk} (hn : n ≤ 96) (ht : ∀ j, j < n → t j < 256) (hT : MdT I t n tk) (hW : Wt t n tk) {x : Int32} {la key ro no : Nat} (hla : la ≤ 2954) (k3 : tk.1 = 3) (kb : t tk.2.1 = 38) (h23 : I 8 0 23 = 38) {q : Pa} (hq : q.2.length < 96) (hc : ∀ I1 : Im, MdT I1 t n (nxT t n tk) ∧ FrA8 I I1 → Sw mX8_test [.inr (.inr (some (8, 0))), .inl x] (d + 5) I1 X (some (.inl 1)) (PrM I1 t n la key ro no (true, q))) (k0 : ∀ (I1 : Im), (MdT I1 t n (nxT t n (tk.1, tk.2.1, tk.2.2)) ∧ FrA8 I I1) → ∀ (I2 : Im), (PrM I1 t n la key ro no (true, q) I2) → am_WP ((mX8_both, 10, [some (.inr (.inr (some (8, 0)))), some (.inl (x))], []) :: g :: gs) (d + 6) (mk (up3 (up3 (up3 I2 30 0 (la + 2 * q.2.length) (2)) 30 0 (la + 2 * q.2.length + 1) (38)) 8 0 (26) ((nI (q.2.length + 1)))) X) Q) : am_WP ((mX8_both, 10, [some (.inr (.inr (some (8, 0)))), some (.inl (x))], []) :: g :: gs) (d + 6) (mk I X) Q := by
  obtain ⟨w1, w2, w3, w4, w5, w6⟩ := id hW
  refine am_go 400 ?_
  refine (c_X8_isSign (tk := tk) (b := 38) hn ht hT hW (rfl : (38 : Int32) = nI 38) (by omega)) _ _ _ ?_
  refine am_go 400 ?_
  refine am_f (bI_1.mpr (⟨k3, kb⟩)) ?_
  refine (c_X8_nextToken (I := I) (t := t) (n := n) (k := tk.1) (st := tk.2.1) (e := tk.2.2) hn (show MdT I t n tk from hT).1 (show MdT I t n tk from hT).2.1 ht hW.2.2.1 hW.2.1 (fun _ => by omega) (show MdT I t n tk from hT).2.2.2.1 ((show MdT I t n tk from hT).2.2.2.2.1.trans (congrArg nI ((tkM_3.mpr k3).trans k3.symm)))) _ _ _ ?_
  intro I1 p1
  refine am_go 400 ?_
  refine (hc I1 p1) _ _ _ ?_
  intro I2 p2
  refine am_go 400 ?_
  refine (c_X8_step (m := q.2.length) (la := la) (p2.2.2 rfl).2.2.2.1 (p2.2.2 rfl).2.2.2.2.1 (by omega) (by omega)) _ _ _ ?_
  refine am_go 400 ?_
  exact k0 I1 p1 I2 p2
set_option maxRecDepth 100000 in
set_option maxHeartbeats 4000000 in
theorem w_m2_a0 {I : Nat → Nat → Nat → Int32} {X : am_Z} {g : am_F} {gs : List am_F} {d : Nat} {Q : Option am_V → am_M → Prop} {x : Int32} {P : Im → Prop} (hc : Sw mX8_sum [.inr (.inr (some (8, 0))), .inl x] (d + 5) I X (some (.inl 0)) P) (k0 : ∀ (I1 : Im), (P I1) → am_WP (am_psh g (some (.inl (0))) :: gs) (d + 7) (mk I1 X) Q) : am_WP (am_entry mX8_test [.inr (.inr (some (8, 0))), .inl (x)] :: g :: gs) (d + 6) (mk I X) Q := by
  refine am_go 400 ?_
  refine (hc) _ _ _ ?_
  intro I1 p1
  refine am_go 400 ?_
  exact k0 I1 p1
set_option maxRecDepth 100000 in
set_option maxHeartbeats 4000000 in
theorem w_m2_a1 {I : Nat → Nat → Nat → Int32} {X : am_Z} {g : am_F} {gs : List am_F} {d : Nat} {Q : Option am_V → am_M → Prop} {x : Int32} {P : Im → Prop} (hc : Sw mX8_sum [.inr (.inr (some (8, 0))), .inl x] (d + 5) I X (some (.inl 1)) P) (k0 : ∀ (I1 : Im), (P I1) → am_WP ((mX8_test, 10, [some (.inr (.inr (some (8, 0)))), some (.inl (x)), none], []) :: g :: gs) (d + 6) (mk I1 X) Q) : am_WP (am_entry mX8_test [.inr (.inr (some (8, 0))), .inl (x)] :: g :: gs) (d + 6) (mk I X) Q := by
  refine am_go 400 ?_
  refine (hc) _ _ _ ?_
  intro I1 p1
  refine am_go 1 ?_
  exact k0 I1 p1
set_option maxRecDepth 100000 in
set_option maxHeartbeats 4000000 in
theorem w_m2_e {I : Nat → Nat → Nat → Int32} {X : am_Z} {g : am_F} {gs : List am_F} {d : Nat} {Q : Option am_V → am_M → Prop} {t : Nat → Nat} {n : Nat} {tk : Tk} (hn : n ≤ 96) (ht : ∀ j, j < n → t j < 256) (hT : MdT I t n tk) (hW : Wt t n tk) {x : Int32} (s60 : ¬ (tk.1 = 3 ∧ t tk.2.1 = 60)) (s61 : ¬ (tk.1 = 3 ∧ t tk.2.1 = 61)) (s62 : ¬ (tk.1 = 3 ∧ t tk.2.1 = 62)) {y2 : Option am_V} (k0 : am_WP (am_psh g (some (.inl (1))) :: gs) (d + 7) (mk I X) Q) : am_WP ((mX8_test, 10, [some (.inr (.inr (some (8, 0)))), some (.inl (x)), y2], []) :: g :: gs) (d + 6) (mk I X) Q := by
  refine am_go 400 ?_
  refine (c_X8_isSign (tk := tk) (b := 60) hn ht hT hW (rfl : (60 : Int32) = nI 60) (by omega)) _ _ _ ?_
  refine am_go 400 ?_
  refine am_t (bI_0.mpr s60) ?_
  refine (c_X8_isSign (tk := tk) (b := 61) hn ht hT hW (rfl : (61 : Int32) = nI 61) (by omega)) _ _ _ ?_
  refine am_go 400 ?_
  refine am_t (bI_0.mpr s61) ?_
  refine (c_X8_isSign (tk := tk) (b := 62) hn ht hT hW (rfl : (62 : Int32) = nI 62) (by omega)) _ _ _ ?_
  refine am_go 400 ?_
  refine am_t (bI_0.mpr s62) ?_
  exact k0
set_option maxRecDepth 100000 in
set_option maxHeartbeats 4000000 in
theorem w_m2_60_0 {I : Nat → Nat → Nat → Int32} {X : am_Z} {g : am_F} {gs : List am_F} {d : Nat} {Q : Option am_V → am_M → Prop} {t : Nat → Nat} {n : Nat} {tk : Tk} (hn : n ≤ 96) (ht : ∀ j, j < n → t j < 256) (hT : MdT I t n tk) (hW : Wt t n tk) {x : Int32} {la key ro no : Nat} (hla : la ≤ 2954) (k3 : tk.1 = 3) (kb : t tk.2.1 = 60) (h23 : I 8 0 23 = 60) {q : Pa} (hc : ∀ I1 : Im, MdT I1 t n (nxT t n tk) ∧ FrA8 I I1 → Sw mX8_sum [.inr (.inr (some (8, 0))), .inl x] (d + 5) I1 X (some (.inl 0)) (PrM I1 t n la key ro no (false, q))) {y2 : Option am_V} (k0 : ∀ (I1 : Im), (MdT I1 t n (nxT t n (tk.1, tk.2.1, tk.2.2)) ∧ FrA8 I I1) → ∀ (I2 : Im), (PrM I1 t n la key ro no (false, q) I2) → am_WP (am_psh g (some (.inl (0))) :: gs) (d + 7) (mk I2 X) Q) : am_WP ((mX8_test, 10, [some (.inr (.inr (some (8, 0)))), some (.inl (x)), y2], []) :: g :: gs) (d + 6) (mk I X) Q := by
  obtain ⟨w1, w2, w3, w4, w5, w6⟩ := id hW
  refine am_go 400 ?_
  refine (c_X8_isSign (tk := tk) (b := 60) hn ht hT hW (rfl : (60 : Int32) = nI 60) (by omega)) _ _ _ ?_
  refine am_go 400 ?_
  refine am_f (bI_1.mpr (⟨k3, kb⟩)) ?_
  have tk0 : I 8 0 23 = 60 := h23
  refine (c_X8_nextToken (I := I) (t := t) (n := n) (k := tk.1) (st := tk.2.1) (e := tk.2.2) hn (show MdT I t n tk from hT).1 (show MdT I t n tk from hT).2.1 ht hW.2.2.1 hW.2.1 (fun _ => by omega) (show MdT I t n tk from hT).2.2.2.1 ((show MdT I t n tk from hT).2.2.2.2.1.trans (congrArg nI ((tkM_3.mpr k3).trans k3.symm)))) _ _ _ ?_
  intro I1 p1
  refine am_go 400 ?_
  refine (hc I1 p1) _ _ _ ?_
  intro I2 p2
  refine am_go 400 ?_
  exact k0 I1 p1 I2 p2
set_option maxRecDepth 100000 in
set_option maxHeartbeats 4000000 in
theorem w_m2_60_1 {I : Nat → Nat → Nat → Int32} {X : am_Z} {g : am_F} {gs : List am_F} {d : Nat} {Q : Option am_V → am_M → Prop} {t : Nat → Nat} {n : Nat} {tk : Tk} (hn : n ≤ 96) (ht : ∀ j, j < n → t j < 256) (hT : MdT I t n tk) (hW : Wt t n tk) {x : Int32} {la key ro no : Nat} (hla : la ≤ 2954) (k3 : tk.1 = 3) (kb : t tk.2.1 = 60) (h23 : I 8 0 23 = 60) {q : Pa} (hq : q.2.length < 96) (hc : ∀ I1 : Im, MdT I1 t n (nxT t n tk) ∧ FrA8 I I1 → Sw mX8_sum [.inr (.inr (some (8, 0))), .inl x] (d + 5) I1 X (some (.inl 1)) (PrM I1 t n la key ro no (true, q))) {y2 : Option am_V} (k0 : ∀ (I1 : Im), (MdT I1 t n (nxT t n (tk.1, tk.2.1, tk.2.2)) ∧ FrA8 I I1) → ∀ (I2 : Im), (PrM I1 t n la key ro no (true, q) I2) → am_WP (am_psh g (some (.inl (1))) :: gs) (d + 7) (mk (up3 (up3 (up3 I2 30 0 (la + 2 * q.2.length) (2)) 30 0 (la + 2 * q.2.length + 1) (60)) 8 0 (26) ((nI (q.2.length + 1)))) X) Q) : am_WP ((mX8_test, 10, [some (.inr (.inr (some (8, 0)))), some (.inl (x)), y2], []) :: g :: gs) (d + 6) (mk I X) Q := by
  obtain ⟨w1, w2, w3, w4, w5, w6⟩ := id hW
  refine am_go 400 ?_
  refine (c_X8_isSign (tk := tk) (b := 60) hn ht hT hW (rfl : (60 : Int32) = nI 60) (by omega)) _ _ _ ?_
  refine am_go 400 ?_
  refine am_f (bI_1.mpr (⟨k3, kb⟩)) ?_
  have tk0 : I 8 0 23 = 60 := h23
  refine (c_X8_nextToken (I := I) (t := t) (n := n) (k := tk.1) (st := tk.2.1) (e := tk.2.2) hn (show MdT I t n tk from hT).1 (show MdT I t n tk from hT).2.1 ht hW.2.2.1 hW.2.1 (fun _ => by omega) (show MdT I t n tk from hT).2.2.2.1 ((show MdT I t n tk from hT).2.2.2.2.1.trans (congrArg nI ((tkM_3.mpr k3).trans k3.symm)))) _ _ _ ?_
  intro I1 p1
  refine am_go 400 ?_
  refine (hc I1 p1) _ _ _ ?_
  intro I2 p2
  refine am_go 400 ?_
  refine (c_X8_step (m := q.2.length) (la := la) (p2.2.2 rfl).2.2.2.1 (p2.2.2 rfl).2.2.2.2.1 (by omega) (by omega)) _ _ _ ?_
  refine am_go 400 ?_
  show am_WP (am_psh g (some (.inl (1))) :: gs) (d + 7) (mk (up3 (up3 (up3 I2 30 0 (la + 2 * q.2.length) (2)) 30 0 (la + 2 * q.2.length + 1) ((I 8 0 23))) 8 0 (26) ((nI (q.2.length + 1)))) X) Q
  try rw [tk0]
  exact k0 I1 p1 I2 p2
set_option maxRecDepth 100000 in
set_option maxHeartbeats 4000000 in
theorem w_m2_61_0 {I : Nat → Nat → Nat → Int32} {X : am_Z} {g : am_F} {gs : List am_F} {d : Nat} {Q : Option am_V → am_M → Prop} {t : Nat → Nat} {n : Nat} {tk : Tk} (hn : n ≤ 96) (ht : ∀ j, j < n → t j < 256) (hT : MdT I t n tk) (hW : Wt t n tk) {x : Int32} {la key ro no : Nat} (hla : la ≤ 2954) (k3 : tk.1 = 3) (kb : t tk.2.1 = 61) (h23 : I 8 0 23 = 61) {q : Pa} (hc : ∀ I1 : Im, MdT I1 t n (nxT t n tk) ∧ FrA8 I I1 → Sw mX8_sum [.inr (.inr (some (8, 0))), .inl x] (d + 5) I1 X (some (.inl 0)) (PrM I1 t n la key ro no (false, q))) {y2 : Option am_V} (k0 : ∀ (I1 : Im), (MdT I1 t n (nxT t n (tk.1, tk.2.1, tk.2.2)) ∧ FrA8 I I1) → ∀ (I2 : Im), (PrM I1 t n la key ro no (false, q) I2) → am_WP (am_psh g (some (.inl (0))) :: gs) (d + 7) (mk I2 X) Q) : am_WP ((mX8_test, 10, [some (.inr (.inr (some (8, 0)))), some (.inl (x)), y2], []) :: g :: gs) (d + 6) (mk I X) Q := by
  obtain ⟨w1, w2, w3, w4, w5, w6⟩ := id hW
  refine am_go 400 ?_
  refine (c_X8_isSign (tk := tk) (b := 60) hn ht hT hW (rfl : (60 : Int32) = nI 60) (by omega)) _ _ _ ?_
  refine am_go 400 ?_
  refine am_t (bI_0.mpr (fun z => by omega)) ?_
  refine (c_X8_isSign (tk := tk) (b := 61) hn ht hT hW (rfl : (61 : Int32) = nI 61) (by omega)) _ _ _ ?_
  refine am_go 400 ?_
  refine am_f (bI_1.mpr (⟨k3, kb⟩)) ?_
  have tk0 : I 8 0 23 = 61 := h23
  refine (c_X8_nextToken (I := I) (t := t) (n := n) (k := tk.1) (st := tk.2.1) (e := tk.2.2) hn (show MdT I t n tk from hT).1 (show MdT I t n tk from hT).2.1 ht hW.2.2.1 hW.2.1 (fun _ => by omega) (show MdT I t n tk from hT).2.2.2.1 ((show MdT I t n tk from hT).2.2.2.2.1.trans (congrArg nI ((tkM_3.mpr k3).trans k3.symm)))) _ _ _ ?_
  intro I1 p1
  refine am_go 400 ?_
  refine (hc I1 p1) _ _ _ ?_
  intro I2 p2
  refine am_go 400 ?_
  exact k0 I1 p1 I2 p2
set_option maxRecDepth 100000 in
set_option maxHeartbeats 4000000 in
theorem w_m2_61_1 {I : Nat → Nat → Nat → Int32} {X : am_Z} {g : am_F} {gs : List am_F} {d : Nat} {Q : Option am_V → am_M → Prop} {t : Nat → Nat} {n : Nat} {tk : Tk} (hn : n ≤ 96) (ht : ∀ j, j < n → t j < 256) (hT : MdT I t n tk) (hW : Wt t n tk) {x : Int32} {la key ro no : Nat} (hla : la ≤ 2954) (k3 : tk.1 = 3) (kb : t tk.2.1 = 61) (h23 : I 8 0 23 = 61) {q : Pa} (hq : q.2.length < 96) (hc : ∀ I1 : Im, MdT I1 t n (nxT t n tk) ∧ FrA8 I I1 → Sw mX8_sum [.inr (.inr (some (8, 0))), .inl x] (d + 5) I1 X (some (.inl 1)) (PrM I1 t n la key ro no (true, q))) {y2 : Option am_V} (k0 : ∀ (I1 : Im), (MdT I1 t n (nxT t n (tk.1, tk.2.1, tk.2.2)) ∧ FrA8 I I1) → ∀ (I2 : Im), (PrM I1 t n la key ro no (true, q) I2) → am_WP (am_psh g (some (.inl (1))) :: gs) (d + 7) (mk (up3 (up3 (up3 I2 30 0 (la + 2 * q.2.length) (2)) 30 0 (la + 2 * q.2.length + 1) (61)) 8 0 (26) ((nI (q.2.length + 1)))) X) Q) : am_WP ((mX8_test, 10, [some (.inr (.inr (some (8, 0)))), some (.inl (x)), y2], []) :: g :: gs) (d + 6) (mk I X) Q := by
  obtain ⟨w1, w2, w3, w4, w5, w6⟩ := id hW
  refine am_go 400 ?_
  refine (c_X8_isSign (tk := tk) (b := 60) hn ht hT hW (rfl : (60 : Int32) = nI 60) (by omega)) _ _ _ ?_
  refine am_go 400 ?_
  refine am_t (bI_0.mpr (fun z => by omega)) ?_
  refine (c_X8_isSign (tk := tk) (b := 61) hn ht hT hW (rfl : (61 : Int32) = nI 61) (by omega)) _ _ _ ?_
  refine am_go 400 ?_
  refine am_f (bI_1.mpr (⟨k3, kb⟩)) ?_
  have tk0 : I 8 0 23 = 61 := h23
  refine (c_X8_nextToken (I := I) (t := t) (n := n) (k := tk.1) (st := tk.2.1) (e := tk.2.2) hn (show MdT I t n tk from hT).1 (show MdT I t n tk from hT).2.1 ht hW.2.2.1 hW.2.1 (fun _ => by omega) (show MdT I t n tk from hT).2.2.2.1 ((show MdT I t n tk from hT).2.2.2.2.1.trans (congrArg nI ((tkM_3.mpr k3).trans k3.symm)))) _ _ _ ?_
  intro I1 p1
  refine am_go 400 ?_
  refine (hc I1 p1) _ _ _ ?_
  intro I2 p2
  refine am_go 400 ?_
  refine (c_X8_step (m := q.2.length) (la := la) (p2.2.2 rfl).2.2.2.1 (p2.2.2 rfl).2.2.2.2.1 (by omega) (by omega)) _ _ _ ?_
  refine am_go 400 ?_
  show am_WP (am_psh g (some (.inl (1))) :: gs) (d + 7) (mk (up3 (up3 (up3 I2 30 0 (la + 2 * q.2.length) (2)) 30 0 (la + 2 * q.2.length + 1) ((I 8 0 23))) 8 0 (26) ((nI (q.2.length + 1)))) X) Q
  try rw [tk0]
  exact k0 I1 p1 I2 p2
set_option maxRecDepth 100000 in
set_option maxHeartbeats 4000000 in
theorem w_m2_62_0 {I : Nat → Nat → Nat → Int32} {X : am_Z} {g : am_F} {gs : List am_F} {d : Nat} {Q : Option am_V → am_M → Prop} {t : Nat → Nat} {n : Nat} {tk : Tk} (hn : n ≤ 96) (ht : ∀ j, j < n → t j < 256) (hT : MdT I t n tk) (hW : Wt t n tk) {x : Int32} {la key ro no : Nat} (hla : la ≤ 2954) (k3 : tk.1 = 3) (kb : t tk.2.1 = 62) (h23 : I 8 0 23 = 62) {q : Pa} (hc : ∀ I1 : Im, MdT I1 t n (nxT t n tk) ∧ FrA8 I I1 → Sw mX8_sum [.inr (.inr (some (8, 0))), .inl x] (d + 5) I1 X (some (.inl 0)) (PrM I1 t n la key ro no (false, q))) {y2 : Option am_V} (k0 : ∀ (I1 : Im), (MdT I1 t n (nxT t n (tk.1, tk.2.1, tk.2.2)) ∧ FrA8 I I1) → ∀ (I2 : Im), (PrM I1 t n la key ro no (false, q) I2) → am_WP (am_psh g (some (.inl (0))) :: gs) (d + 7) (mk I2 X) Q) : am_WP ((mX8_test, 10, [some (.inr (.inr (some (8, 0)))), some (.inl (x)), y2], []) :: g :: gs) (d + 6) (mk I X) Q := by
  obtain ⟨w1, w2, w3, w4, w5, w6⟩ := id hW
  refine am_go 400 ?_
  refine (c_X8_isSign (tk := tk) (b := 60) hn ht hT hW (rfl : (60 : Int32) = nI 60) (by omega)) _ _ _ ?_
  refine am_go 400 ?_
  refine am_t (bI_0.mpr (fun z => by omega)) ?_
  refine (c_X8_isSign (tk := tk) (b := 61) hn ht hT hW (rfl : (61 : Int32) = nI 61) (by omega)) _ _ _ ?_
  refine am_go 400 ?_
  refine am_t (bI_0.mpr (fun z => by omega)) ?_
  refine (c_X8_isSign (tk := tk) (b := 62) hn ht hT hW (rfl : (62 : Int32) = nI 62) (by omega)) _ _ _ ?_
  refine am_go 400 ?_
  refine am_f (bI_1.mpr (⟨k3, kb⟩)) ?_
  have tk0 : I 8 0 23 = 62 := h23
  refine (c_X8_nextToken (I := I) (t := t) (n := n) (k := tk.1) (st := tk.2.1) (e := tk.2.2) hn (show MdT I t n tk from hT).1 (show MdT I t n tk from hT).2.1 ht hW.2.2.1 hW.2.1 (fun _ => by omega) (show MdT I t n tk from hT).2.2.2.1 ((show MdT I t n tk from hT).2.2.2.2.1.trans (congrArg nI ((tkM_3.mpr k3).trans k3.symm)))) _ _ _ ?_
  intro I1 p1
  refine am_go 400 ?_
  refine (hc I1 p1) _ _ _ ?_
  intro I2 p2
  refine am_go 400 ?_
  exact k0 I1 p1 I2 p2
set_option maxRecDepth 100000 in
set_option maxHeartbeats 4000000 in
theorem w_m2_62_1 {I : Nat → Nat → Nat → Int32} {X : am_Z} {g : am_F} {gs : List am_F} {d : Nat} {Q : Option am_V → am_M → Prop} {t : Nat → Nat} {n : Nat} {tk : Tk} (hn : n ≤ 96) (ht : ∀ j, j < n → t j < 256) (hT : MdT I t n tk) (hW : Wt t n tk) {x : Int32} {la key ro no : Nat} (hla : la ≤ 2954) (k3 : tk.1 = 3) (kb : t tk.2.1 = 62) (h23 : I 8 0 23 = 62) {q : Pa} (hq : q.2.length < 96) (hc : ∀ I1 : Im, MdT I1 t n (nxT t n tk) ∧ FrA8 I I1 → Sw mX8_sum [.inr (.inr (some (8, 0))), .inl x] (d + 5) I1 X (some (.inl 1)) (PrM I1 t n la key ro no (true, q))) {y2 : Option am_V} (k0 : ∀ (I1 : Im), (MdT I1 t n (nxT t n (tk.1, tk.2.1, tk.2.2)) ∧ FrA8 I I1) → ∀ (I2 : Im), (PrM I1 t n la key ro no (true, q) I2) → am_WP (am_psh g (some (.inl (1))) :: gs) (d + 7) (mk (up3 (up3 (up3 I2 30 0 (la + 2 * q.2.length) (2)) 30 0 (la + 2 * q.2.length + 1) (62)) 8 0 (26) ((nI (q.2.length + 1)))) X) Q) : am_WP ((mX8_test, 10, [some (.inr (.inr (some (8, 0)))), some (.inl (x)), y2], []) :: g :: gs) (d + 6) (mk I X) Q := by
  obtain ⟨w1, w2, w3, w4, w5, w6⟩ := id hW
  refine am_go 400 ?_
  refine (c_X8_isSign (tk := tk) (b := 60) hn ht hT hW (rfl : (60 : Int32) = nI 60) (by omega)) _ _ _ ?_
  refine am_go 400 ?_
  refine am_t (bI_0.mpr (fun z => by omega)) ?_
  refine (c_X8_isSign (tk := tk) (b := 61) hn ht hT hW (rfl : (61 : Int32) = nI 61) (by omega)) _ _ _ ?_
  refine am_go 400 ?_
  refine am_t (bI_0.mpr (fun z => by omega)) ?_
  refine (c_X8_isSign (tk := tk) (b := 62) hn ht hT hW (rfl : (62 : Int32) = nI 62) (by omega)) _ _ _ ?_
  refine am_go 400 ?_
  refine am_f (bI_1.mpr (⟨k3, kb⟩)) ?_
  have tk0 : I 8 0 23 = 62 := h23
  refine (c_X8_nextToken (I := I) (t := t) (n := n) (k := tk.1) (st := tk.2.1) (e := tk.2.2) hn (show MdT I t n tk from hT).1 (show MdT I t n tk from hT).2.1 ht hW.2.2.1 hW.2.1 (fun _ => by omega) (show MdT I t n tk from hT).2.2.2.1 ((show MdT I t n tk from hT).2.2.2.2.1.trans (congrArg nI ((tkM_3.mpr k3).trans k3.symm)))) _ _ _ ?_
  intro I1 p1
  refine am_go 400 ?_
  refine (hc I1 p1) _ _ _ ?_
  intro I2 p2
  refine am_go 400 ?_
  refine (c_X8_step (m := q.2.length) (la := la) (p2.2.2 rfl).2.2.2.1 (p2.2.2 rfl).2.2.2.2.1 (by omega) (by omega)) _ _ _ ?_
  refine am_go 400 ?_
  show am_WP (am_psh g (some (.inl (1))) :: gs) (d + 7) (mk (up3 (up3 (up3 I2 30 0 (la + 2 * q.2.length) (2)) 30 0 (la + 2 * q.2.length + 1) ((I 8 0 23))) 8 0 (26) ((nI (q.2.length + 1)))) X) Q
  try rw [tk0]
  exact k0 I1 p1 I2 p2
set_option maxRecDepth 100000 in
set_option maxHeartbeats 4000000 in
theorem w_m3_a0 {I : Nat → Nat → Nat → Int32} {X : am_Z} {g : am_F} {gs : List am_F} {d : Nat} {Q : Option am_V → am_M → Prop} {x : Int32} {P : Im → Prop} (hc : Sw mX8_term [.inr (.inr (some (8, 0))), .inl x] (d + 5) I X (some (.inl 0)) P) (k0 : ∀ (I1 : Im), (P I1) → am_WP (am_psh g (some (.inl (0))) :: gs) (d + 7) (mk I1 X) Q) : am_WP (am_entry mX8_sum [.inr (.inr (some (8, 0))), .inl (x)] :: g :: gs) (d + 6) (mk I X) Q := by
  refine am_go 400 ?_
  refine (hc) _ _ _ ?_
  intro I1 p1
  refine am_go 400 ?_
  exact k0 I1 p1
set_option maxRecDepth 100000 in
set_option maxHeartbeats 4000000 in
theorem w_m3_a1 {I : Nat → Nat → Nat → Int32} {X : am_Z} {g : am_F} {gs : List am_F} {d : Nat} {Q : Option am_V → am_M → Prop} {x : Int32} {P : Im → Prop} (hc : Sw mX8_term [.inr (.inr (some (8, 0))), .inl x] (d + 5) I X (some (.inl 1)) P) (k0 : ∀ (I1 : Im), (P I1) → am_WP ((mX8_sum, 10, [some (.inr (.inr (some (8, 0)))), some (.inl (x)), none], []) :: g :: gs) (d + 6) (mk I1 X) Q) : am_WP (am_entry mX8_sum [.inr (.inr (some (8, 0))), .inl (x)] :: g :: gs) (d + 6) (mk I X) Q := by
  refine am_go 400 ?_
  refine (hc) _ _ _ ?_
  intro I1 p1
  refine am_go 1 ?_
  exact k0 I1 p1
set_option maxRecDepth 100000 in
set_option maxHeartbeats 4000000 in
theorem w_m3_e {I : Nat → Nat → Nat → Int32} {X : am_Z} {g : am_F} {gs : List am_F} {d : Nat} {Q : Option am_V → am_M → Prop} {t : Nat → Nat} {n : Nat} {tk : Tk} (hn : n ≤ 96) (ht : ∀ j, j < n → t j < 256) (hT : MdT I t n tk) (hW : Wt t n tk) {x : Int32} (s43 : ¬ (tk.1 = 3 ∧ t tk.2.1 = 43)) (s45 : ¬ (tk.1 = 3 ∧ t tk.2.1 = 45)) {y2 : Option am_V} (k0 : am_WP (am_psh g (some (.inl (1))) :: gs) (d + 7) (mk I X) Q) : am_WP ((mX8_sum, 10, [some (.inr (.inr (some (8, 0)))), some (.inl (x)), y2], []) :: g :: gs) (d + 6) (mk I X) Q := by
  refine am_go 400 ?_
  refine (c_X8_isSign (tk := tk) (b := 43) hn ht hT hW (rfl : (43 : Int32) = nI 43) (by omega)) _ _ _ ?_
  refine am_go 400 ?_
  refine am_t (bI_0.mpr s43) ?_
  refine (c_X8_isSign (tk := tk) (b := 45) hn ht hT hW (rfl : (45 : Int32) = nI 45) (by omega)) _ _ _ ?_
  refine am_go 400 ?_
  refine am_t (bI_0.mpr s45) ?_
  exact k0
set_option maxRecDepth 100000 in
set_option maxHeartbeats 4000000 in
theorem w_m3_43_0 {I : Nat → Nat → Nat → Int32} {X : am_Z} {g : am_F} {gs : List am_F} {d : Nat} {Q : Option am_V → am_M → Prop} {t : Nat → Nat} {n : Nat} {tk : Tk} (hn : n ≤ 96) (ht : ∀ j, j < n → t j < 256) (hT : MdT I t n tk) (hW : Wt t n tk) {x : Int32} {la key ro no : Nat} (hla : la ≤ 2954) (k3 : tk.1 = 3) (kb : t tk.2.1 = 43) (h23 : I 8 0 23 = 43) {q : Pa} (hc : ∀ I1 : Im, MdT I1 t n (nxT t n tk) ∧ FrA8 I I1 → Sw mX8_term [.inr (.inr (some (8, 0))), .inl x] (d + 5) I1 X (some (.inl 0)) (PrM I1 t n la key ro no (false, q))) {y2 : Option am_V} (k0 : ∀ (I1 : Im), (MdT I1 t n (nxT t n (tk.1, tk.2.1, tk.2.2)) ∧ FrA8 I I1) → ∀ (I2 : Im), (PrM I1 t n la key ro no (false, q) I2) → am_WP (am_psh g (some (.inl (0))) :: gs) (d + 7) (mk I2 X) Q) : am_WP ((mX8_sum, 10, [some (.inr (.inr (some (8, 0)))), some (.inl (x)), y2], []) :: g :: gs) (d + 6) (mk I X) Q := by
  obtain ⟨w1, w2, w3, w4, w5, w6⟩ := id hW
  refine am_go 400 ?_
  refine (c_X8_isSign (tk := tk) (b := 43) hn ht hT hW (rfl : (43 : Int32) = nI 43) (by omega)) _ _ _ ?_
  refine am_go 400 ?_
  refine am_f (bI_1.mpr (⟨k3, kb⟩)) ?_
  have tk0 : I 8 0 23 = 43 := h23
  refine (c_X8_nextToken (I := I) (t := t) (n := n) (k := tk.1) (st := tk.2.1) (e := tk.2.2) hn (show MdT I t n tk from hT).1 (show MdT I t n tk from hT).2.1 ht hW.2.2.1 hW.2.1 (fun _ => by omega) (show MdT I t n tk from hT).2.2.2.1 ((show MdT I t n tk from hT).2.2.2.2.1.trans (congrArg nI ((tkM_3.mpr k3).trans k3.symm)))) _ _ _ ?_
  intro I1 p1
  refine am_go 400 ?_
  refine (hc I1 p1) _ _ _ ?_
  intro I2 p2
  refine am_go 400 ?_
  exact k0 I1 p1 I2 p2
set_option maxRecDepth 100000 in
set_option maxHeartbeats 4000000 in
theorem w_m3_43_1 {I : Nat → Nat → Nat → Int32} {X : am_Z} {g : am_F} {gs : List am_F} {d : Nat} {Q : Option am_V → am_M → Prop} {t : Nat → Nat} {n : Nat} {tk : Tk} (hn : n ≤ 96) (ht : ∀ j, j < n → t j < 256) (hT : MdT I t n tk) (hW : Wt t n tk) {x : Int32} {la key ro no : Nat} (hla : la ≤ 2954) (k3 : tk.1 = 3) (kb : t tk.2.1 = 43) (h23 : I 8 0 23 = 43) {q : Pa} (hq : q.2.length < 96) (hc : ∀ I1 : Im, MdT I1 t n (nxT t n tk) ∧ FrA8 I I1 → Sw mX8_term [.inr (.inr (some (8, 0))), .inl x] (d + 5) I1 X (some (.inl 1)) (PrM I1 t n la key ro no (true, q))) {y2 : Option am_V} (k0 : ∀ (I1 : Im), (MdT I1 t n (nxT t n (tk.1, tk.2.1, tk.2.2)) ∧ FrA8 I I1) → ∀ (I2 : Im), (PrM I1 t n la key ro no (true, q) I2) → am_WP ((mX8_sum, 10, [some (.inr (.inr (some (8, 0)))), some (.inl (x)), some (.inl (43))], []) :: g :: gs) (d + 6) (mk (up3 (up3 (up3 I2 30 0 (la + 2 * q.2.length) (2)) 30 0 (la + 2 * q.2.length + 1) (43)) 8 0 (26) ((nI (q.2.length + 1)))) X) Q) : am_WP ((mX8_sum, 10, [some (.inr (.inr (some (8, 0)))), some (.inl (x)), y2], []) :: g :: gs) (d + 6) (mk I X) Q := by
  obtain ⟨w1, w2, w3, w4, w5, w6⟩ := id hW
  refine am_go 400 ?_
  refine (c_X8_isSign (tk := tk) (b := 43) hn ht hT hW (rfl : (43 : Int32) = nI 43) (by omega)) _ _ _ ?_
  refine am_go 400 ?_
  refine am_f (bI_1.mpr (⟨k3, kb⟩)) ?_
  have tk0 : I 8 0 23 = 43 := h23
  refine (c_X8_nextToken (I := I) (t := t) (n := n) (k := tk.1) (st := tk.2.1) (e := tk.2.2) hn (show MdT I t n tk from hT).1 (show MdT I t n tk from hT).2.1 ht hW.2.2.1 hW.2.1 (fun _ => by omega) (show MdT I t n tk from hT).2.2.2.1 ((show MdT I t n tk from hT).2.2.2.2.1.trans (congrArg nI ((tkM_3.mpr k3).trans k3.symm)))) _ _ _ ?_
  intro I1 p1
  refine am_go 400 ?_
  refine (hc I1 p1) _ _ _ ?_
  intro I2 p2
  refine am_go 400 ?_
  refine (c_X8_step (m := q.2.length) (la := la) (p2.2.2 rfl).2.2.2.1 (p2.2.2 rfl).2.2.2.2.1 (by omega) (by omega)) _ _ _ ?_
  refine am_go 400 ?_
  show am_WP ((mX8_sum, 10, [some (.inr (.inr (some (8, 0)))), some (.inl (x)), some (.inl ((I 8 0 23)))], []) :: g :: gs) (d + 6) (mk (up3 (up3 (up3 I2 30 0 (la + 2 * q.2.length) (2)) 30 0 (la + 2 * q.2.length + 1) ((I 8 0 23))) 8 0 (26) ((nI (q.2.length + 1)))) X) Q
  try rw [tk0]
  exact k0 I1 p1 I2 p2
set_option maxRecDepth 100000 in
set_option maxHeartbeats 4000000 in
theorem w_m3_45_0 {I : Nat → Nat → Nat → Int32} {X : am_Z} {g : am_F} {gs : List am_F} {d : Nat} {Q : Option am_V → am_M → Prop} {t : Nat → Nat} {n : Nat} {tk : Tk} (hn : n ≤ 96) (ht : ∀ j, j < n → t j < 256) (hT : MdT I t n tk) (hW : Wt t n tk) {x : Int32} {la key ro no : Nat} (hla : la ≤ 2954) (k3 : tk.1 = 3) (kb : t tk.2.1 = 45) (h23 : I 8 0 23 = 45) {q : Pa} (hc : ∀ I1 : Im, MdT I1 t n (nxT t n tk) ∧ FrA8 I I1 → Sw mX8_term [.inr (.inr (some (8, 0))), .inl x] (d + 5) I1 X (some (.inl 0)) (PrM I1 t n la key ro no (false, q))) {y2 : Option am_V} (k0 : ∀ (I1 : Im), (MdT I1 t n (nxT t n (tk.1, tk.2.1, tk.2.2)) ∧ FrA8 I I1) → ∀ (I2 : Im), (PrM I1 t n la key ro no (false, q) I2) → am_WP (am_psh g (some (.inl (0))) :: gs) (d + 7) (mk I2 X) Q) : am_WP ((mX8_sum, 10, [some (.inr (.inr (some (8, 0)))), some (.inl (x)), y2], []) :: g :: gs) (d + 6) (mk I X) Q := by
  obtain ⟨w1, w2, w3, w4, w5, w6⟩ := id hW
  refine am_go 400 ?_
  refine (c_X8_isSign (tk := tk) (b := 43) hn ht hT hW (rfl : (43 : Int32) = nI 43) (by omega)) _ _ _ ?_
  refine am_go 400 ?_
  refine am_t (bI_0.mpr (fun z => by omega)) ?_
  refine (c_X8_isSign (tk := tk) (b := 45) hn ht hT hW (rfl : (45 : Int32) = nI 45) (by omega)) _ _ _ ?_
  refine am_go 400 ?_
  refine am_f (bI_1.mpr (⟨k3, kb⟩)) ?_
  have tk0 : I 8 0 23 = 45 := h23
  refine (c_X8_nextToken (I := I) (t := t) (n := n) (k := tk.1) (st := tk.2.1) (e := tk.2.2) hn (show MdT I t n tk from hT).1 (show MdT I t n tk from hT).2.1 ht hW.2.2.1 hW.2.1 (fun _ => by omega) (show MdT I t n tk from hT).2.2.2.1 ((show MdT I t n tk from hT).2.2.2.2.1.trans (congrArg nI ((tkM_3.mpr k3).trans k3.symm)))) _ _ _ ?_
  intro I1 p1
  refine am_go 400 ?_
  refine (hc I1 p1) _ _ _ ?_
  intro I2 p2
  refine am_go 400 ?_
  exact k0 I1 p1 I2 p2
set_option maxRecDepth 100000 in
set_option maxHeartbeats 4000000 in
theorem w_m3_45_1 {I : Nat → Nat → Nat → Int32} {X : am_Z} {g : am_F} {gs : List am_F} {d : Nat} {Q : Option am_V → am_M → Prop} {t : Nat → Nat} {n : Nat} {tk : Tk} (hn : n ≤ 96) (ht : ∀ j, j < n → t j < 256) (hT : MdT I t n tk) (hW : Wt t n tk) {x : Int32} {la key ro no : Nat} (hla : la ≤ 2954) (k3 : tk.1 = 3) (kb : t tk.2.1 = 45) (h23 : I 8 0 23 = 45) {q : Pa} (hq : q.2.length < 96) (hc : ∀ I1 : Im, MdT I1 t n (nxT t n tk) ∧ FrA8 I I1 → Sw mX8_term [.inr (.inr (some (8, 0))), .inl x] (d + 5) I1 X (some (.inl 1)) (PrM I1 t n la key ro no (true, q))) {y2 : Option am_V} (k0 : ∀ (I1 : Im), (MdT I1 t n (nxT t n (tk.1, tk.2.1, tk.2.2)) ∧ FrA8 I I1) → ∀ (I2 : Im), (PrM I1 t n la key ro no (true, q) I2) → am_WP ((mX8_sum, 10, [some (.inr (.inr (some (8, 0)))), some (.inl (x)), some (.inl (45))], []) :: g :: gs) (d + 6) (mk (up3 (up3 (up3 I2 30 0 (la + 2 * q.2.length) (2)) 30 0 (la + 2 * q.2.length + 1) (45)) 8 0 (26) ((nI (q.2.length + 1)))) X) Q) : am_WP ((mX8_sum, 10, [some (.inr (.inr (some (8, 0)))), some (.inl (x)), y2], []) :: g :: gs) (d + 6) (mk I X) Q := by
  obtain ⟨w1, w2, w3, w4, w5, w6⟩ := id hW
  refine am_go 400 ?_
  refine (c_X8_isSign (tk := tk) (b := 43) hn ht hT hW (rfl : (43 : Int32) = nI 43) (by omega)) _ _ _ ?_
  refine am_go 400 ?_
  refine am_t (bI_0.mpr (fun z => by omega)) ?_
  refine (c_X8_isSign (tk := tk) (b := 45) hn ht hT hW (rfl : (45 : Int32) = nI 45) (by omega)) _ _ _ ?_
  refine am_go 400 ?_
  refine am_f (bI_1.mpr (⟨k3, kb⟩)) ?_
  have tk0 : I 8 0 23 = 45 := h23
  refine (c_X8_nextToken (I := I) (t := t) (n := n) (k := tk.1) (st := tk.2.1) (e := tk.2.2) hn (show MdT I t n tk from hT).1 (show MdT I t n tk from hT).2.1 ht hW.2.2.1 hW.2.1 (fun _ => by omega) (show MdT I t n tk from hT).2.2.2.1 ((show MdT I t n tk from hT).2.2.2.2.1.trans (congrArg nI ((tkM_3.mpr k3).trans k3.symm)))) _ _ _ ?_
  intro I1 p1
  refine am_go 400 ?_
  refine (hc I1 p1) _ _ _ ?_
  intro I2 p2
  refine am_go 400 ?_
  refine (c_X8_step (m := q.2.length) (la := la) (p2.2.2 rfl).2.2.2.1 (p2.2.2 rfl).2.2.2.2.1 (by omega) (by omega)) _ _ _ ?_
  refine am_go 400 ?_
  show am_WP ((mX8_sum, 10, [some (.inr (.inr (some (8, 0)))), some (.inl (x)), some (.inl ((I 8 0 23)))], []) :: g :: gs) (d + 6) (mk (up3 (up3 (up3 I2 30 0 (la + 2 * q.2.length) (2)) 30 0 (la + 2 * q.2.length + 1) ((I 8 0 23))) 8 0 (26) ((nI (q.2.length + 1)))) X) Q
  try rw [tk0]
  exact k0 I1 p1 I2 p2
set_option maxRecDepth 100000 in
set_option maxHeartbeats 4000000 in
theorem w_m4_a0 {I : Nat → Nat → Nat → Int32} {X : am_Z} {g : am_F} {gs : List am_F} {d : Nat} {Q : Option am_V → am_M → Prop} {x : Int32} {P : Im → Prop} (hc : Sw mX8_part0 [.inr (.inr (some (8, 0))), .inl x] (d + 5) I X (some (.inl 0)) P) (k0 : ∀ (I1 : Im), (P I1) → am_WP (am_psh g (some (.inl (0))) :: gs) (d + 7) (mk I1 X) Q) : am_WP (am_entry mX8_term [.inr (.inr (some (8, 0))), .inl (x)] :: g :: gs) (d + 6) (mk I X) Q := by
  refine am_go 400 ?_
  refine (hc) _ _ _ ?_
  intro I1 p1
  refine am_go 400 ?_
  exact k0 I1 p1
set_option maxRecDepth 100000 in
set_option maxHeartbeats 4000000 in
theorem w_m4_a1 {I : Nat → Nat → Nat → Int32} {X : am_Z} {g : am_F} {gs : List am_F} {d : Nat} {Q : Option am_V → am_M → Prop} {x : Int32} {P : Im → Prop} (hc : Sw mX8_part0 [.inr (.inr (some (8, 0))), .inl x] (d + 5) I X (some (.inl 1)) P) (k0 : ∀ (I1 : Im), (P I1) → am_WP ((mX8_term, 10, [some (.inr (.inr (some (8, 0)))), some (.inl (x)), none], []) :: g :: gs) (d + 6) (mk I1 X) Q) : am_WP (am_entry mX8_term [.inr (.inr (some (8, 0))), .inl (x)] :: g :: gs) (d + 6) (mk I X) Q := by
  refine am_go 400 ?_
  refine (hc) _ _ _ ?_
  intro I1 p1
  refine am_go 1 ?_
  exact k0 I1 p1
set_option maxRecDepth 100000 in
set_option maxHeartbeats 4000000 in
theorem w_m4_e {I : Nat → Nat → Nat → Int32} {X : am_Z} {g : am_F} {gs : List am_F} {d : Nat} {Q : Option am_V → am_M → Prop} {t : Nat → Nat} {n : Nat} {tk : Tk} (hn : n ≤ 96) (ht : ∀ j, j < n → t j < 256) (hT : MdT I t n tk) (hW : Wt t n tk) {x : Int32} (s42 : ¬ (tk.1 = 3 ∧ t tk.2.1 = 42)) (s47 : ¬ (tk.1 = 3 ∧ t tk.2.1 = 47)) {y2 : Option am_V} (k0 : am_WP (am_psh g (some (.inl (1))) :: gs) (d + 7) (mk I X) Q) : am_WP ((mX8_term, 10, [some (.inr (.inr (some (8, 0)))), some (.inl (x)), y2], []) :: g :: gs) (d + 6) (mk I X) Q := by
  refine am_go 400 ?_
  refine (c_X8_isSign (tk := tk) (b := 42) hn ht hT hW (rfl : (42 : Int32) = nI 42) (by omega)) _ _ _ ?_
  refine am_go 400 ?_
  refine am_t (bI_0.mpr s42) ?_
  refine (c_X8_isSign (tk := tk) (b := 47) hn ht hT hW (rfl : (47 : Int32) = nI 47) (by omega)) _ _ _ ?_
  refine am_go 400 ?_
  refine am_t (bI_0.mpr s47) ?_
  exact k0
set_option maxRecDepth 100000 in
set_option maxHeartbeats 4000000 in
theorem w_m4_42_0 {I : Nat → Nat → Nat → Int32} {X : am_Z} {g : am_F} {gs : List am_F} {d : Nat} {Q : Option am_V → am_M → Prop} {t : Nat → Nat} {n : Nat} {tk : Tk} (hn : n ≤ 96) (ht : ∀ j, j < n → t j < 256) (hT : MdT I t n tk) (hW : Wt t n tk) {x : Int32} {la key ro no : Nat} (hla : la ≤ 2954) (k3 : tk.1 = 3) (kb : t tk.2.1 = 42) (h23 : I 8 0 23 = 42) {q : Pa} (hc : ∀ I1 : Im, MdT I1 t n (nxT t n tk) ∧ FrA8 I I1 → Sw mX8_part0 [.inr (.inr (some (8, 0))), .inl x] (d + 5) I1 X (some (.inl 0)) (PrM I1 t n la key ro no (false, q))) {y2 : Option am_V} (k0 : ∀ (I1 : Im), (MdT I1 t n (nxT t n (tk.1, tk.2.1, tk.2.2)) ∧ FrA8 I I1) → ∀ (I2 : Im), (PrM I1 t n la key ro no (false, q) I2) → am_WP (am_psh g (some (.inl (0))) :: gs) (d + 7) (mk I2 X) Q) : am_WP ((mX8_term, 10, [some (.inr (.inr (some (8, 0)))), some (.inl (x)), y2], []) :: g :: gs) (d + 6) (mk I X) Q := by
  obtain ⟨w1, w2, w3, w4, w5, w6⟩ := id hW
  refine am_go 400 ?_
  refine (c_X8_isSign (tk := tk) (b := 42) hn ht hT hW (rfl : (42 : Int32) = nI 42) (by omega)) _ _ _ ?_
  refine am_go 400 ?_
  refine am_f (bI_1.mpr (⟨k3, kb⟩)) ?_
  have tk0 : I 8 0 23 = 42 := h23
  refine (c_X8_nextToken (I := I) (t := t) (n := n) (k := tk.1) (st := tk.2.1) (e := tk.2.2) hn (show MdT I t n tk from hT).1 (show MdT I t n tk from hT).2.1 ht hW.2.2.1 hW.2.1 (fun _ => by omega) (show MdT I t n tk from hT).2.2.2.1 ((show MdT I t n tk from hT).2.2.2.2.1.trans (congrArg nI ((tkM_3.mpr k3).trans k3.symm)))) _ _ _ ?_
  intro I1 p1
  refine am_go 400 ?_
  refine (hc I1 p1) _ _ _ ?_
  intro I2 p2
  refine am_go 400 ?_
  exact k0 I1 p1 I2 p2
set_option maxRecDepth 100000 in
set_option maxHeartbeats 4000000 in
theorem w_m4_42_1 {I : Nat → Nat → Nat → Int32} {X : am_Z} {g : am_F} {gs : List am_F} {d : Nat} {Q : Option am_V → am_M → Prop} {t : Nat → Nat} {n : Nat} {tk : Tk} (hn : n ≤ 96) (ht : ∀ j, j < n → t j < 256) (hT : MdT I t n tk) (hW : Wt t n tk) {x : Int32} {la key ro no : Nat} (hla : la ≤ 2954) (k3 : tk.1 = 3) (kb : t tk.2.1 = 42) (h23 : I 8 0 23 = 42) {q : Pa} (hq : q.2.length < 96) (hc : ∀ I1 : Im, MdT I1 t n (nxT t n tk) ∧ FrA8 I I1 → Sw mX8_part0 [.inr (.inr (some (8, 0))), .inl x] (d + 5) I1 X (some (.inl 1)) (PrM I1 t n la key ro no (true, q))) {y2 : Option am_V} (k0 : ∀ (I1 : Im), (MdT I1 t n (nxT t n (tk.1, tk.2.1, tk.2.2)) ∧ FrA8 I I1) → ∀ (I2 : Im), (PrM I1 t n la key ro no (true, q) I2) → am_WP ((mX8_term, 10, [some (.inr (.inr (some (8, 0)))), some (.inl (x)), some (.inl (42))], []) :: g :: gs) (d + 6) (mk (up3 (up3 (up3 I2 30 0 (la + 2 * q.2.length) (2)) 30 0 (la + 2 * q.2.length + 1) (42)) 8 0 (26) ((nI (q.2.length + 1)))) X) Q) : am_WP ((mX8_term, 10, [some (.inr (.inr (some (8, 0)))), some (.inl (x)), y2], []) :: g :: gs) (d + 6) (mk I X) Q := by
  obtain ⟨w1, w2, w3, w4, w5, w6⟩ := id hW
  refine am_go 400 ?_
  refine (c_X8_isSign (tk := tk) (b := 42) hn ht hT hW (rfl : (42 : Int32) = nI 42) (by omega)) _ _ _ ?_
  refine am_go 400 ?_
  refine am_f (bI_1.mpr (⟨k3, kb⟩)) ?_
  have tk0 : I 8 0 23 = 42 := h23
  refine (c_X8_nextToken (I := I) (t := t) (n := n) (k := tk.1) (st := tk.2.1) (e := tk.2.2) hn (show MdT I t n tk from hT).1 (show MdT I t n tk from hT).2.1 ht hW.2.2.1 hW.2.1 (fun _ => by omega) (show MdT I t n tk from hT).2.2.2.1 ((show MdT I t n tk from hT).2.2.2.2.1.trans (congrArg nI ((tkM_3.mpr k3).trans k3.symm)))) _ _ _ ?_
  intro I1 p1
  refine am_go 400 ?_
  refine (hc I1 p1) _ _ _ ?_
  intro I2 p2
  refine am_go 400 ?_
  refine (c_X8_step (m := q.2.length) (la := la) (p2.2.2 rfl).2.2.2.1 (p2.2.2 rfl).2.2.2.2.1 (by omega) (by omega)) _ _ _ ?_
  refine am_go 400 ?_
  show am_WP ((mX8_term, 10, [some (.inr (.inr (some (8, 0)))), some (.inl (x)), some (.inl ((I 8 0 23)))], []) :: g :: gs) (d + 6) (mk (up3 (up3 (up3 I2 30 0 (la + 2 * q.2.length) (2)) 30 0 (la + 2 * q.2.length + 1) ((I 8 0 23))) 8 0 (26) ((nI (q.2.length + 1)))) X) Q
  try rw [tk0]
  exact k0 I1 p1 I2 p2
set_option maxRecDepth 100000 in
set_option maxHeartbeats 4000000 in
theorem w_m4_47_0 {I : Nat → Nat → Nat → Int32} {X : am_Z} {g : am_F} {gs : List am_F} {d : Nat} {Q : Option am_V → am_M → Prop} {t : Nat → Nat} {n : Nat} {tk : Tk} (hn : n ≤ 96) (ht : ∀ j, j < n → t j < 256) (hT : MdT I t n tk) (hW : Wt t n tk) {x : Int32} {la key ro no : Nat} (hla : la ≤ 2954) (k3 : tk.1 = 3) (kb : t tk.2.1 = 47) (h23 : I 8 0 23 = 47) {q : Pa} (hc : ∀ I1 : Im, MdT I1 t n (nxT t n tk) ∧ FrA8 I I1 → Sw mX8_part0 [.inr (.inr (some (8, 0))), .inl x] (d + 5) I1 X (some (.inl 0)) (PrM I1 t n la key ro no (false, q))) {y2 : Option am_V} (k0 : ∀ (I1 : Im), (MdT I1 t n (nxT t n (tk.1, tk.2.1, tk.2.2)) ∧ FrA8 I I1) → ∀ (I2 : Im), (PrM I1 t n la key ro no (false, q) I2) → am_WP (am_psh g (some (.inl (0))) :: gs) (d + 7) (mk I2 X) Q) : am_WP ((mX8_term, 10, [some (.inr (.inr (some (8, 0)))), some (.inl (x)), y2], []) :: g :: gs) (d + 6) (mk I X) Q := by
  obtain ⟨w1, w2, w3, w4, w5, w6⟩ := id hW
  refine am_go 400 ?_
  refine (c_X8_isSign (tk := tk) (b := 42) hn ht hT hW (rfl : (42 : Int32) = nI 42) (by omega)) _ _ _ ?_
  refine am_go 400 ?_
  refine am_t (bI_0.mpr (fun z => by omega)) ?_
  refine (c_X8_isSign (tk := tk) (b := 47) hn ht hT hW (rfl : (47 : Int32) = nI 47) (by omega)) _ _ _ ?_
  refine am_go 400 ?_
  refine am_f (bI_1.mpr (⟨k3, kb⟩)) ?_
  have tk0 : I 8 0 23 = 47 := h23
  refine (c_X8_nextToken (I := I) (t := t) (n := n) (k := tk.1) (st := tk.2.1) (e := tk.2.2) hn (show MdT I t n tk from hT).1 (show MdT I t n tk from hT).2.1 ht hW.2.2.1 hW.2.1 (fun _ => by omega) (show MdT I t n tk from hT).2.2.2.1 ((show MdT I t n tk from hT).2.2.2.2.1.trans (congrArg nI ((tkM_3.mpr k3).trans k3.symm)))) _ _ _ ?_
  intro I1 p1
  refine am_go 400 ?_
  refine (hc I1 p1) _ _ _ ?_
  intro I2 p2
  refine am_go 400 ?_
  exact k0 I1 p1 I2 p2
set_option maxRecDepth 100000 in
set_option maxHeartbeats 4000000 in
theorem w_m4_47_1 {I : Nat → Nat → Nat → Int32} {X : am_Z} {g : am_F} {gs : List am_F} {d : Nat} {Q : Option am_V → am_M → Prop} {t : Nat → Nat} {n : Nat} {tk : Tk} (hn : n ≤ 96) (ht : ∀ j, j < n → t j < 256) (hT : MdT I t n tk) (hW : Wt t n tk) {x : Int32} {la key ro no : Nat} (hla : la ≤ 2954) (k3 : tk.1 = 3) (kb : t tk.2.1 = 47) (h23 : I 8 0 23 = 47) {q : Pa} (hq : q.2.length < 96) (hc : ∀ I1 : Im, MdT I1 t n (nxT t n tk) ∧ FrA8 I I1 → Sw mX8_part0 [.inr (.inr (some (8, 0))), .inl x] (d + 5) I1 X (some (.inl 1)) (PrM I1 t n la key ro no (true, q))) {y2 : Option am_V} (k0 : ∀ (I1 : Im), (MdT I1 t n (nxT t n (tk.1, tk.2.1, tk.2.2)) ∧ FrA8 I I1) → ∀ (I2 : Im), (PrM I1 t n la key ro no (true, q) I2) → am_WP ((mX8_term, 10, [some (.inr (.inr (some (8, 0)))), some (.inl (x)), some (.inl (47))], []) :: g :: gs) (d + 6) (mk (up3 (up3 (up3 I2 30 0 (la + 2 * q.2.length) (2)) 30 0 (la + 2 * q.2.length + 1) (47)) 8 0 (26) ((nI (q.2.length + 1)))) X) Q) : am_WP ((mX8_term, 10, [some (.inr (.inr (some (8, 0)))), some (.inl (x)), y2], []) :: g :: gs) (d + 6) (mk I X) Q := by
  obtain ⟨w1, w2, w3, w4, w5, w6⟩ := id hW
  refine am_go 400 ?_
  refine (c_X8_isSign (tk := tk) (b := 42) hn ht hT hW (rfl : (42 : Int32) = nI 42) (by omega)) _ _ _ ?_
  refine am_go 400 ?_
  refine am_t (bI_0.mpr (fun z => by omega)) ?_
  refine (c_X8_isSign (tk := tk) (b := 47) hn ht hT hW (rfl : (47 : Int32) = nI 47) (by omega)) _ _ _ ?_
  refine am_go 400 ?_
  refine am_f (bI_1.mpr (⟨k3, kb⟩)) ?_
  have tk0 : I 8 0 23 = 47 := h23
  refine (c_X8_nextToken (I := I) (t := t) (n := n) (k := tk.1) (st := tk.2.1) (e := tk.2.2) hn (show MdT I t n tk from hT).1 (show MdT I t n tk from hT).2.1 ht hW.2.2.1 hW.2.1 (fun _ => by omega) (show MdT I t n tk from hT).2.2.2.1 ((show MdT I t n tk from hT).2.2.2.2.1.trans (congrArg nI ((tkM_3.mpr k3).trans k3.symm)))) _ _ _ ?_
  intro I1 p1
  refine am_go 400 ?_
  refine (hc I1 p1) _ _ _ ?_
  intro I2 p2
  refine am_go 400 ?_
  refine (c_X8_step (m := q.2.length) (la := la) (p2.2.2 rfl).2.2.2.1 (p2.2.2 rfl).2.2.2.2.1 (by omega) (by omega)) _ _ _ ?_
  refine am_go 400 ?_
  show am_WP ((mX8_term, 10, [some (.inr (.inr (some (8, 0)))), some (.inl (x)), some (.inl ((I 8 0 23)))], []) :: g :: gs) (d + 6) (mk (up3 (up3 (up3 I2 30 0 (la + 2 * q.2.length) (2)) 30 0 (la + 2 * q.2.length + 1) ((I 8 0 23))) 8 0 (26) ((nI (q.2.length + 1)))) X) Q
  try rw [tk0]
  exact k0 I1 p1 I2 p2
