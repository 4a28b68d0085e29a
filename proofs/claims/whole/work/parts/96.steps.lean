/-! the class's reader: steps -/
def nop (l : List (Nat × Nat)) : Nat := (l.filter (fun p => p.1 != 2)).length
def RdS (I : Im) (key ro no : Nat) (l : List (Nat × Nat)) : Prop := I 3 0 4 = nI key ∧ I 3 0 5 = nI (nop l) ∧ I 3 0 6 = nI l.length ∧ (∀ j, j < l.length → I 24 0 j = enC (l.getD j (0, 0))) ∧ I 3 0 10 = nI ro ∧ I 3 0 11 = nI no
def FrR (I I' : Im) : Prop := ∀ g, g ≠ 3 → g ≠ 24 → I' g = I g
theorem FrR_r {I} : FrR I I := fun _ _ _ => rfl
theorem FrR_t {I I' I''} (h : FrR I I') (h2 : FrR I' I'') : FrR I I'' := fun g a b => (h2 g a b).trans (h g a b)
theorem FrR_A {I I'} (h : FrA I I') : FrR I I' := fun g a _ => h.1 g a
theorem FrR_3 {I I' g k j v} (h : FrR I I') (hg : g = 3 ∨ g = 24) : FrR I (up3 I' g k j v) := fun g' a b => by rw [up3_g (by omega)]; exact h g' a b
def Rd (I : Im) (t : Nat → Nat) (n key ro no : Nat) (p : Pa) : Prop := RdT I t n p.1 ∧ RdS I key ro no p.2
theorem RdS_A {I I' key ro no l} (h : RdS I key ro no l) (F : FrA I I') : RdS I' key ro no l := by
  obtain ⟨a, b, c, e, f, g⟩ := h
  exact ⟨(F.2 4 (by decide) (by decide) (by decide)).trans a, (F.2 5 (by decide) (by decide) (by decide)).trans b, (F.2 6 (by decide) (by decide) (by decide)).trans c, by rw [F.1 24 (by decide)]; exact e, (F.2 10 (by decide) (by decide) (by decide)).trans f, (F.2 11 (by decide) (by decide) (by decide)).trans g⟩
theorem nop_a {l : List (Nat × Nat)} {x : Nat × Nat} : nop (l ++ [x]) = nop l + (if x.1 = 2 then 0 else 1) := by
  unfold nop
  rw [List.filter_append, List.length_append]
  congr 1
  by_cases h : x.1 = 2
  · rw [if_pos h, List.filter_cons_of_neg (by simp [h])]; rfl
  · rw [if_neg h, List.filter_cons_of_pos (by simp [h])]; rfl
theorem nop_le {l : List (Nat × Nat)} : nop l ≤ l.length := List.length_filter_le _ _
theorem getD_l {l : List (Nat × Nat)} {x y : Nat × Nat} {j : Nat} (h : j < l.length) : (l ++ [x]).getD j y = l.getD j y := by
  rw [List.getD_eq_getElem?_getD, List.getD_eq_getElem?_getD, List.getElem?_append_left h]
theorem getD_e {l : List (Nat × Nat)} {x y : Nat × Nat} : (l ++ [x]).getD l.length y = x := by
  rw [List.getD_eq_getElem?_getD, List.getElem?_append_right (Nat.le_refl _), Nat.sub_self]; rfl
theorem len_a {l : List (Nat × Nat)} {x : Nat × Nat} : (l ++ [x]).length = l.length + 1 := by rw [List.length_append]; rfl
set_option maxRecDepth 100000 in
set_option maxHeartbeats 4000000 in
theorem w_X3_addStep {I : Nat → Nat → Nat → Int32} {X : am_Z} {g : am_F} {gs : List am_F} {d : Nat} {Q : Option am_V → am_M → Prop} {m : Nat} {v : Int32} (h6 : I 3 0 6 = nI m) (hm : m < 96) (k0 : am_WP (am_psh g none :: gs) (d + 1) (mk (up3 (up3 I 24 0 (m) (v)) 3 0 (6) ((nI (m + 1)))) X) Q) : am_WP (am_entry mX3_addStep [.inr (.inr (some (3, 0))), .inl (v)] :: g :: gs) (d) (mk I X) Q := by
  refine am_go 400 ?_
  have tk0 : I 3 0 6 = nI m := h6
  refine am_f (mt (le_nat (a := 96) (b := m) (rfl : (96 : Int32) = nI 96) tk0 (by omega) (by omega)).mp (by omega)) ?_
  refine am_f (ix_in (n := m) (N := 96) tk0 (by omega) (by decide)) ?_
  have tk1 : ((I 3 0 6)).toNatClampNeg = m := by first | exact ix_cl (n := m) tk0 (by omega) | (((try rw [tk0])); first | done | exact ix_cl (n := m) tk0 (by omega))
  have tk2 : (up3 I 24 0 ((((I 3 0 6)).toNatClampNeg)) (v)) 3 0 6 = nI m := by first | exact h6 | (((try rw [tk1]); (try rw [tk0])); first | done | exact h6)
  have tk3 : (((up3 I 24 0 ((((I 3 0 6)).toNatClampNeg)) (v)) 3 0 6) + 1) = nI (m + 1) := by first | exact (nI_addE tk2 (rfl : (1 : Int32) = nI 1)) | (((try rw [tk2]); (try rw [tk1]); (try rw [tk0])); first | done | exact (nI_addE tk2 (rfl : (1 : Int32) = nI 1)))
  show am_WP (am_psh g none :: gs) (d + 1) (mk (up3 (up3 I 24 0 ((((I 3 0 6)).toNatClampNeg)) (v)) 3 0 (6) (((((up3 I 24 0 ((((I 3 0 6)).toNatClampNeg)) (v)) 3 0 6) + 1)))) X) Q
  try rw [tk3]
  try rw [tk2]
  try rw [tk1]
  try rw [tk0]
  exact k0
theorem c_X3_addStep {I X d} {m : Nat} {v : Int32} (h6 : I 3 0 6 = nI m) (hm : m < 96) : Rt mX3_addStep [.inr (.inr (some (3, 0))), .inl v] d (mk I X) none (mk (up3 (up3 I 24 0 m v) 3 0 6 (nI (m + 1))) X) := fun g gs Q K => w_X3_addStep h6 hm K
/-- one step more; an operand also counts -/
theorem RdS_1 {I : Im} {key ro no l} {x : Nat × Nat} {v : Int32} (h : RdS I key ro no l) (hx : x.1 = 2) (hv : v = enC x) : RdS (up3 (up3 I 24 0 l.length v) 3 0 6 (nI (l.length + 1))) key ro no (l ++ [x]) := by
  obtain ⟨a, b, c, e, f, g⟩ := h
  refine ⟨by rw [up3_j (by decide)]; exact a, by rw [up3_j (by decide), nop_a, if_pos hx]; exact b, by rw [len_a]; exact up3_s, fun j hj => ?_, by rw [up3_j (by decide)]; exact f, by rw [up3_j (by decide)]; exact g⟩
  rw [len_a] at hj
  show up3 I 24 0 l.length v 24 0 j = _
  rw [up3_at]
  by_cases q : j = l.length
  · rw [if_pos q, q, getD_e]; exact hv
  · rw [if_neg q, getD_l (by omega)]; exact e j (by omega)
theorem RdT_u {I : Im} {t n tk g k j v} (h : RdT I t n tk) (hg : g = 24 ∨ g = 3 ∧ j ≠ 0 ∧ j ≠ 7 ∧ j ≠ 8 ∧ j ≠ 9) : RdT (up3 I g k j v) t n tk := by
  obtain ⟨a, b, c, e, f⟩ := h
  have q : ∀ i, (i = 0 ∨ i = 7 ∨ i = 8 ∨ i = 9) → up3 I g k j v 3 0 i = I 3 0 i := fun i hi => by
    unfold up3
    rcases hg with rfl | ⟨rfl, hj⟩
    · rfl
    · show (if 0 = k ∧ i = j then v else I 3 0 i) = _
      rw [if_neg (fun z => by omega)]
  exact ⟨(q 0 (by omega)).trans a, by rw [up3_g (by omega)]; exact b, (q 7 (by omega)).trans c, (q 8 (by omega)).trans e, (q 9 (by omega)).trans f⟩
set_option maxRecDepth 100000 in
set_option maxHeartbeats 4000000 in
theorem w_X3_addOperand {I : Nat → Nat → Nat → Int32} {X : am_Z} {g : am_F} {gs : List am_F} {d : Nat} {Q : Option am_V → am_M → Prop} {t : Nat → Nat} {n key ro no : Nat} {tk : Tk} {l : List (Nat × Nat)} (hn : n ≤ 96) (ht : ∀ j, j < n → t j < 256) (hT : RdT I t n tk) (hS : RdS I key ro no l) (hW : Wt t n tk) (hl : l.length < 96) {v : Int32} (k0 : ∀ (I1 : Im), (RdT I1 t n (nxT t n (tk.1, tk.2.1, tk.2.2)) ∧ FrA (up3 (up3 (up3 I 3 0 (5) ((nI ((nop l) + 1)))) 24 0 (l.length) (v)) 3 0 (6) ((nI (l.length + 1)))) I1) → am_WP (am_psh g none :: gs) (d + 3) (mk I1 X) Q) : am_WP (am_entry mX3_addOperand [.inr (.inr (some (3, 0))), .inl (v)] :: g :: gs) (d + 2) (mk I X) Q := by
  have hno := nop_le (l := l)
  refine am_go 400 ?_
  have tk0 : I 3 0 5 = nI (nop l) := hS.2.1
  have tk1 : ((I 3 0 5) + 1) = nI ((nop l) + 1) := by first | exact (nI_addE tk0 (rfl : (1 : Int32) = nI 1)) | (((try rw [tk0])); first | done | exact (nI_addE tk0 (rfl : (1 : Int32) = nI 1)))
  refine (c_X3_addStep (m := l.length) (show (up3 I 3 0 (5) (_)) 3 0 6 = _ from by rw [up3_j (by decide)]; exact hS.2.2.1) (by omega)) _ _ _ ?_
  refine am_go 400 ?_
  refine (c_X3_advance (I := (up3 (up3 (up3 I 3 0 (5) ((((I 3 0 5) + 1)))) 24 0 (l.length) (v)) 3 0 (6) ((nI (l.length + 1))))) (t := t) (n := n) (k := tk.1) (st := tk.2.1) (e := tk.2.2) hn (RdT_u (RdT_u (RdT_u hT (Or.inr ⟨rfl, by decide⟩)) (Or.inl rfl)) (Or.inr ⟨rfl, by decide⟩)).1 hT.2.1 ht hW.2.2.1 hW.2.1 (RdT_u (RdT_u (RdT_u hT (Or.inr ⟨rfl, by decide⟩)) (Or.inl rfl)) (Or.inr ⟨rfl, by decide⟩)).2.2.1 (RdT_u (RdT_u (RdT_u hT (Or.inr ⟨rfl, by decide⟩)) (Or.inl rfl)) (Or.inr ⟨rfl, by decide⟩)).2.2.2.2) _ _ _ ?_
  intro I1 p1
  have p1 : RdT I1 t n (nxT t n (tk.1, tk.2.1, tk.2.2)) ∧ FrA (up3 (up3 (up3 I 3 0 (5) ((((I 3 0 5) + 1)))) 24 0 (l.length) (v)) 3 0 (6) ((nI (l.length + 1)))) I1 := p1
  try rw [tk1] at p1
  try rw [tk0] at p1
  refine am_go 400 ?_
  exact k0 I1 p1
theorem RdS_2 {I : Im} {key ro no l} {x : Nat × Nat} {v : Int32} (h : RdS I key ro no l) (hx : ¬ x.1 = 2) (hv : v = enC x) : RdS (up3 (up3 (up3 I 3 0 5 (nI (nop l + 1))) 24 0 l.length v) 3 0 6 (nI (l.length + 1))) key ro no (l ++ [x]) := by
  obtain ⟨a, b, c, e, f, g⟩ := h
  have u : ∀ i, i ≠ 5 → i ≠ 6 → up3 (up3 (up3 I 3 0 5 (nI (nop l + 1))) 24 0 l.length v) 3 0 6 (nI (l.length + 1)) 3 0 i = I 3 0 i := fun i h1 h2 => by
    rw [up3_j h2, up3_k (Or.inl (by decide)), up3_j h1]
  refine ⟨(u 4 (by decide) (by decide)).trans a, ?_, by rw [len_a]; exact up3_s, fun j hj => ?_, (u 10 (by decide) (by decide)).trans f, (u 11 (by decide) (by decide)).trans g⟩
  · rw [up3_j (by decide), up3_k (Or.inl (by decide)), nop_a, if_neg hx]; exact up3_s
  · rw [len_a] at hj
    rw [up3_k (Or.inl (by decide)), up3_at]
    by_cases q : j = l.length
    · rw [if_pos q, q, getD_e]; exact hv
    · rw [if_neg q, getD_l (by omega), up3_k (Or.inl (by decide))]; exact e j (by omega)
theorem c_X3_addOperand {I : Im} {X d} {t : Nat → Nat} {n key ro no : Nat} {tk : Tk} {l : List (Nat × Nat)} {x : Nat × Nat} {v : Int32} (hn : n ≤ 96) (ht : ∀ j, j < n → t j < 256) (h : Rd I t n key ro no (tk, l)) (hW : Wt t n tk) (hl : l.length < 96) (hx : ¬ x.1 = 2) (hv : v = enC x) : Sw mX3_addOperand [.inr (.inr (some (3, 0))), .inl v] (d + 2) I X none (fun I' => Rd I' t n key ro no (nxT t n tk, l ++ [x]) ∧ FrR I I') := fun g gs Q K =>
  w_X3_addOperand hn ht h.1 h.2 hW hl (fun I1 p1 => K I1 ⟨⟨p1.1, RdS_A (RdS_2 h.2 hx hv) p1.2⟩, FrR_t (FrR_3 (FrR_3 (FrR_3 FrR_r (Or.inl rfl)) (Or.inr rfl)) (Or.inl rfl)) (FrR_A p1.2)⟩)
set_option maxRecDepth 100000 in
set_option maxHeartbeats 4000000 in
theorem w_X3_takesNumber {I : Nat → Nat → Nat → Int32} {X : am_Z} {g : am_F} {gs : List am_F} {d : Nat} {Q : Option am_V → am_M → Prop} {t : Nat → Nat} {n key ro no : Nat} {tk : Tk} {l : List (Nat × Nat)} (hn : n ≤ 96) (ht : ∀ j, j < n → t j < 256) (hT : RdT I t n tk) (hS : RdS I key ro no l) (hW : Wt t n tk) (hl : l.length < 96)  (k0 : ((tk.2.2 - tk.2.1) ≤ 4) → am_WP ((mX3_takesNumber, 22, [some (.inr (.inr (some (3, 0)))), some (.inl (0)), some (.inl ((nI tk.2.1)))], []) :: g :: gs) (d + 3) (mk I X) Q) (k1 : (¬ ((tk.2.2 - tk.2.1) ≤ 4)) → am_WP (am_psh g (some (.inl (0))) :: gs) (d + 4) (mk I X) Q) : am_WP (am_entry mX3_takesNumber [.inr (.inr (some (3, 0)))] :: g :: gs) (d + 3) (mk I X) Q := by
  obtain ⟨w1, w2, w3, w4, w5, w6⟩ := id hW
  refine am_go 400 ?_
  have tk0 : I 3 0 9 = nI tk.2.2 := hT.2.2.2.2
  have tk1 : I 3 0 8 = nI tk.2.1 := hT.2.2.2.1
  refine am_if (fun h1 => ?_) (fun h1 => ?_)
  · have nh1 := (le_nat (a := (tk.2.2 - tk.2.1)) (b := 4) (nI_subE tk0 tk1 (by omega)) (rfl : (4 : Int32) = nI 4) (by omega) (by omega)).mp h1
    refine am_cf rfl ?_
    refine am_cut ?_
    refine am_go 5 ?_
    show am_WP ((mX3_takesNumber, 22, [some (.inr (.inr (some (3, 0)))), some (.inl (0)), some (.inl ((I 3 0 8)))], []) :: g :: gs) (d + 3) (mk I X) Q
    try rw [tk1]
    exact k0 nh1
  · have nh1 := mt (le_nat (a := (tk.2.2 - tk.2.1)) (b := 4) (nI_subE tk0 tk1 (by omega)) (rfl : (4 : Int32) = nI 4) (by omega) (by omega)).mpr h1
    exact k1 nh1
set_option maxRecDepth 100000 in
set_option maxHeartbeats 4000000 in
theorem w_X3_takesNumber_22 {I : Nat → Nat → Nat → Int32} {X : am_Z} {g : am_F} {gs : List am_F} {d : Nat} {Q : Option am_V → am_M → Prop} {t : Nat → Nat} {n key ro no : Nat} {tk : Tk} {l : List (Nat × Nat)} (hn : n ≤ 96) (ht : ∀ j, j < n → t j < 256) (hT : RdT I t n tk) (hS : RdS I key ro no l) (hW : Wt t n tk) (hl : l.length < 96) {a i : Nat} (hi : i ≤ tk.2.2) (hd : i < tk.2.2 → 48 ≤ t i ∧ t i ≤ 57) (k0 : (tk.2.2 ≤ i) → ∀ (I1 : Im), (Rd I1 t n key ro no (nxT t n tk, l ++ [(0, a)]) ∧ FrR I I1) → am_WP (am_psh g (some (.inl (1))) :: gs) (d + 4) (mk I1 X) Q) (k1 : (¬ (tk.2.2 ≤ i)) → am_WP ((mX3_takesNumber, 22, [some (.inr (.inr (some (3, 0)))), some (.inl ((nI (((a * 10) + (t (i))) - 48)))), some (.inl ((nI (i + 1))))], []) :: g :: gs) (d + 3) (mk I X) Q) : am_WP ((mX3_takesNumber, 22, [some (.inr (.inr (some (3, 0)))), some (.inl (nI a)), some (.inl (nI i))], []) :: g :: gs) (d + 3) (mk I X) Q := by
  obtain ⟨w1, w2, w3, w4, w5, w6⟩ := id hW
  refine am_go 400 ?_
  have tk0 : I 3 0 9 = nI tk.2.2 := hT.2.2.2.2
  refine am_if (fun h1 => ?_) (fun h1 => ?_)
  · have nh1 := (le_nat (a := tk.2.2) (b := i) tk0 (rfl : (nI i : Int32) = nI i) (by omega) (by omega)).mp h1
    refine (c_X3_addOperand (I := I) (tk := tk) (l := l) (x := (0, a)) hn ht ⟨hT, hS⟩ hW hl (by show ¬ 0 = 2; decide) rfl) _ _ _ ?_
    intro I1 p1
    refine am_go 400 ?_
    exact k0 nh1 I1 p1
  · have nh1 := mt (le_nat (a := tk.2.2) (b := i) tk0 (rfl : (nI i : Int32) = nI i) (by omega) (by omega)).mpr h1
    refine am_f (ix_in (n := i) (N := 96) (rfl : (nI i : Int32) = nI i) (by omega) (by decide)) ?_
    have tk1 : (nI i).toNatClampNeg = i := ix_cl (n := i) (rfl : (nI i : Int32) = nI i) (by omega)
    have bd : (t (i)) ≤ 255 := (by have := ht (i) (by omega); omega)
    have tk2 : I 23 0 (((nI i).toNatClampNeg)) = nI (t (i)) := by first | exact hT.2.1 _ (by omega) | (((try rw [tk1])); first | done | exact hT.2.1 _ (by omega))
    have tk3 : (((nI a * 10) + (I 23 0 (((nI i).toNatClampNeg)))) - 48) = nI (((a * 10) + (t (i))) - 48) := by first | exact (nI_subE (nI_addE (nI_mulE rfl (rfl : (10 : Int32) = nI 10)) tk2) (rfl : (48 : Int32) = nI 48) (by omega)) | (((try rw [tk2]); (try rw [tk1])); first | done | exact (nI_subE (nI_addE (nI_mulE rfl (rfl : (10 : Int32) = nI 10)) tk2) (rfl : (48 : Int32) = nI 48) (by omega)))
    have tk4 : (nI i + 1) = nI (i + 1) := (nI_addE rfl (rfl : (1 : Int32) = nI 1))
    show am_WP ((mX3_takesNumber, 22, [some (.inr (.inr (some (3, 0)))), some (.inl (((((nI a * 10) + (I 23 0 (((nI i).toNatClampNeg)))) - 48)))), some (.inl (((nI i + 1))))], []) :: g :: gs) (d + 3) (mk I X) Q
    try rw [tk3]
    try rw [tk2]
    try rw [tk1]
    try rw [tk4]
    exact k1 nh1
theorem l_num {I : Im} {X g gs d Q} {t : Nat → Nat} {n key ro no : Nat} {tk : Tk} {l : List (Nat × Nat)} (hn : n ≤ 96) (ht : ∀ j, j < n → t j < 256) (hT : RdT I t n tk) (hS : RdS I key ro no l) (hW : Wt t n tk) (hl : l.length < 96) : ∀ (m i a : Nat), i + m = tk.2.2 → (∀ j, i ≤ j → j < tk.2.2 → fm (t j) = 2) →
    (∀ I', Rd I' t n key ro no (nxT t n tk, l ++ [(0, numV t m i a)]) ∧ FrR I I' → am_WP (am_psh g (some (.inl 1)) :: gs) (d + 4) (mk I' X) Q) →
    am_WP ((mX3_takesNumber, 22, [some (.inr (.inr (some (3, 0)))), some (.inl (nI a)), some (.inl (nI i))], []) :: g :: gs) (d + 3) (mk I X) Q
  | 0, i, a, hi, hf, K => w_X3_takesNumber_22 hn ht hT hS hW hl (by omega) (fun z => absurd z (by omega)) (fun _ => K) (fun z => absurd (by omega) z)
  | m + 1, i, a, hi, hf, K => by
    have h2 := fm_2 (hf i (Nat.le_refl _) (by omega))
    refine w_X3_takesNumber_22 hn ht hT hS hW hl (by omega) (fun _ => h2) (fun z => absurd z (by omega)) (fun _ => ?_)
    exact l_num hn ht hT hS hW hl m (i + 1) _ (by omega) (fun j p q => hf j (by omega) q) K
/-- a piece's answer, and what is left: at a fault the place of the word -/
def PrC (I : Im) (t : Nat → Nat) (n key ro no : Nat) (r : Bool × Pa) (I' : Im) : Prop := FrR I I' ∧ I' 3 0 8 = nI r.2.1.2.1 ∧ (r.1 = true → Rd I' t n key ro no r.2)
def vB (b : Bool) : Int32 := if b = true then 1 else 0
theorem PrC_t {I t n key ro no q I'} (h : Rd I' t n key ro no q) (F : FrR I I') : PrC I t n key ro no (true, q) I' := ⟨F, h.1.2.2.2.1, fun _ => h⟩
theorem PrC_f {I t n key ro no q I'} (h : I' 3 0 8 = nI q.1.2.1) (F : FrR I I') : PrC I t n key ro no (false, q) I' := ⟨F, h, fun z => by cases z⟩
theorem c_X3_takesNumber {I : Im} {X d} {t : Nat → Nat} {n key ro no : Nat} {p : Pa} (hn : n ≤ 96) (ht : ∀ j, j < n → t j < 256) (h : Rd I t n key ro no p) (hW : Wt t n p.1) (hl : p.2.length < 96) (k2 : p.1.1 = 2) (r : Bool × Pa) (hr : r = if 4 < p.1.2.2 - p.1.2.1 then (false, p) else (true, (nxT t n p.1, p.2 ++ [(0, numV t (p.1.2.2 - p.1.2.1) p.1.2.1 0)]))) : Sw mX3_takesNumber [.inr (.inr (some (3, 0)))] (d + 3) I X (some (.inl (vB r.1))) (PrC I t n key ro no r) := fun g gs Q K => by
  have hw1 := hW.1
  refine w_X3_takesNumber hn ht h.1 h.2 hW hl (fun z => ?_) (fun z => ?_)
  · rw [if_neg (by omega)] at hr
    subst hr
    refine l_num hn ht h.1 h.2 hW hl (p.1.2.2 - p.1.2.1) p.1.2.1 0 (by omega) (fun j a b => (hW.2.2.2.2.2 (Or.inr k2) j a b).trans k2) (fun I' p' => ?_)
    exact K I' (PrC_t p'.1 p'.2)
  · rw [if_pos (by omega)] at hr
    subst hr
    exact K I (PrC_f h.1.2.2.2.1 FrR_r)
