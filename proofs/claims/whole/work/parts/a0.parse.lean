/-! the class's parse -/
def kyA (t : Nat → Nat) (tk : Tk) : Nat := if kwH t tk then 0 else if kwF t tk then 1 else if kwN t tk then 2 else 3
/-- whether it is a text, the fault's place, the key, the steps -/
def prs (t : Nat → Nat) (n : Nat) : Bool × Nat × Nat × List (Nat × Nat) :=
  if kyA t (nxT t n (0, 0, 0)) = 3 then (false, (nxT t n (0, 0, 0)).2.1, 3, [])
  else ((pz t n (kyA t (nxT t n (0, 0, 0))) 200 0 0 0 (nxT t n (nxT t n (0, 0, 0)), [])).1 && ((pz t n (kyA t (nxT t n (0, 0, 0))) 200 0 0 0 (nxT t n (nxT t n (0, 0, 0)), [])).2.1.1 == 0), (pz t n (kyA t (nxT t n (0, 0, 0))) 200 0 0 0 (nxT t n (nxT t n (0, 0, 0)), [])).2.1.2.1, kyA t (nxT t n (0, 0, 0)), (pz t n (kyA t (nxT t n (0, 0, 0))) 200 0 0 0 (nxT t n (nxT t n (0, 0, 0)), [])).2.2)
theorem kyA_le (t : Nat → Nat) (tk : Tk) : kyA t tk ≤ 3 := by
  unfold kyA
  split
  · omega
  · split
    · omega
    · split <;> omega
set_option maxRecDepth 100000 in
set_option maxHeartbeats 4000000 in
theorem w_X3_takesKey {I : Nat → Nat → Nat → Int32} {X : am_Z} {g : am_F} {gs : List am_F} {d : Nat} {Q : Option am_V → am_M → Prop} {t : Nat → Nat} {n : Nat} {tk : Tk} (hn : n ≤ 96) (ht : ∀ j, j < n → t j < 256) (hT : RdT I t n tk) (hW : Wt t n tk)  (k0 : (¬ (kwH t tk)) → (¬ (kwF t tk)) → (¬ (kwN t tk)) → am_WP (am_psh g (some (.inl (0))) :: gs) (d + 7) (mk (up3 I 3 0 (4) (3)) X) Q) (k1 : (¬ (kwH t tk)) → (¬ (kwF t tk)) → kwN t tk → ∀ (I1 : Im), (RdT I1 t n (nxT t n (tk.1, tk.2.1, tk.2.2)) ∧ FrA (up3 I 3 0 (4) (2)) I1) → am_WP (am_psh g (some (.inl (1))) :: gs) (d + 7) (mk I1 X) Q) (k2 : (¬ (kwH t tk)) → kwF t tk → ∀ (I2 : Im), (RdT I2 t n (nxT t n (tk.1, tk.2.1, tk.2.2)) ∧ FrA (up3 I 3 0 (4) (1)) I2) → am_WP (am_psh g (some (.inl (1))) :: gs) (d + 7) (mk I2 X) Q) (k3 : kwH t tk → ∀ (I3 : Im), (RdT I3 t n (nxT t n (tk.1, tk.2.1, tk.2.2)) ∧ FrA (up3 I 3 0 (4) (0)) I3) → am_WP (am_psh g (some (.inl (1))) :: gs) (d + 7) (mk I3 X) Q) : am_WP (am_entry mX3_takesKey [.inr (.inr (some (3, 0)))] :: g :: gs) (d + 6) (mk I X) Q := by
  refine am_go 400 ?_
  refine (c_word_0 (tk := tk) hn ht hT hW) _ _ _ ?_
  refine am_go 400 ?_
  refine am_if (fun h1 => ?_) (fun h1 => ?_)
  · have h1 := bI_0.mp h1
    refine (c_word_1 (tk := tk) hn ht hT hW) _ _ _ ?_
    refine am_go 400 ?_
    refine am_if (fun h2 => ?_) (fun h2 => ?_)
    · have h2 := bI_0.mp h2
      refine (c_word_2 (tk := tk) hn ht hT hW) _ _ _ ?_
      refine am_go 400 ?_
      refine am_if (fun h3 => ?_) (fun h3 => ?_)
      · have h3 := bI_0.mp h3
        exact k0 h1 h2 h3
      · have h3 := bI_1.mp h3
        refine (c_X3_advance (I := (up3 I 3 0 (4) (2))) (t := t) (n := n) (k := tk.1) (st := tk.2.1) (e := tk.2.2) hn (RdT_u hT (Or.inr ⟨rfl, by decide⟩)).1 hT.2.1 ht hW.2.2.1 hW.2.1 (RdT_u hT (Or.inr ⟨rfl, by decide⟩)).2.2.1 (RdT_u hT (Or.inr ⟨rfl, by decide⟩)).2.2.2.2) _ _ _ ?_
        intro I1 p1
        refine am_go 400 ?_
        exact k1 h1 h2 h3 I1 p1
    · have h2 := bI_1.mp h2
      refine (c_X3_advance (I := (up3 I 3 0 (4) (1))) (t := t) (n := n) (k := tk.1) (st := tk.2.1) (e := tk.2.2) hn (RdT_u hT (Or.inr ⟨rfl, by decide⟩)).1 hT.2.1 ht hW.2.2.1 hW.2.1 (RdT_u hT (Or.inr ⟨rfl, by decide⟩)).2.2.1 (RdT_u hT (Or.inr ⟨rfl, by decide⟩)).2.2.2.2) _ _ _ ?_
      intro I2 p2
      refine am_go 400 ?_
      exact k2 h1 h2 I2 p2
  · have h1 := bI_1.mp h1
    refine (c_X3_advance (I := (up3 I 3 0 (4) (0))) (t := t) (n := n) (k := tk.1) (st := tk.2.1) (e := tk.2.2) hn (RdT_u hT (Or.inr ⟨rfl, by decide⟩)).1 hT.2.1 ht hW.2.2.1 hW.2.1 (RdT_u hT (Or.inr ⟨rfl, by decide⟩)).2.2.1 (RdT_u hT (Or.inr ⟨rfl, by decide⟩)).2.2.2.2) _ _ _ ?_
    intro I3 p3
    refine am_go 400 ?_
    exact k3 h1 I3 p3
theorem c_key_3 {I : Im} {X d} {t : Nat → Nat} {n : Nat} {tk : Tk} (hn : n ≤ 96) (ht : ∀ j, j < n → t j < 256) (hT : RdT I t n tk) (hW : Wt t n tk) (hk : kyA t tk = 3) : Sw mX3_takesKey [.inr (.inr (some (3, 0)))] (d + 6) I X (some (.inl 0)) (fun I' => I' = up3 I 3 0 4 3) := fun g gs Q K => by
  refine w_X3_takesKey hn ht hT hW (fun a b c => K _ rfl) (fun a b c I1 p1 => absurd hk (by unfold kyA; rw [if_neg a, if_neg b, if_pos c]; decide)) (fun a b I1 p1 => absurd hk (by unfold kyA; rw [if_neg a, if_pos b]; decide)) (fun a I1 p1 => absurd hk (by unfold kyA; rw [if_pos a]; decide))
theorem c_key_t {I : Im} {X d} {t : Nat → Nat} {n : Nat} {tk : Tk} (hn : n ≤ 96) (ht : ∀ j, j < n → t j < 256) (hT : RdT I t n tk) (hW : Wt t n tk) (hk : kyA t tk < 3) : Sw mX3_takesKey [.inr (.inr (some (3, 0)))] (d + 6) I X (some (.inl 1)) (fun I' => RdT I' t n (nxT t n tk) ∧ FrA (up3 I 3 0 4 (nI (kyA t tk))) I') := fun g gs Q K => by
  have e : ∀ v, kyA t tk = v → ∀ I1, RdT I1 t n (nxT t n tk) ∧ FrA (up3 I 3 0 4 (nI v)) I1 → am_WP (am_psh g (some (.inl 1)) :: gs) (d + 6 + 1) (mk I1 X) Q := fun v hv I1 p1 => K I1 (hv ▸ p1)
  refine w_X3_takesKey hn ht hT hW (fun a b c => absurd hk (by unfold kyA; rw [if_neg a, if_neg b, if_neg c]; decide)) (fun a b c I1 p1 => e 2 (by unfold kyA; rw [if_neg a, if_neg b, if_pos c]) I1 p1) (fun a b I1 p1 => e 1 (by unfold kyA; rw [if_neg a, if_pos b]) I1 p1) (fun a I1 p1 => e 0 (by unfold kyA; rw [if_pos a]) I1 p1)
set_option maxRecDepth 100000 in
set_option maxHeartbeats 4000000 in
theorem w_parse_k {I : Nat → Nat → Nat → Int32} {X : am_Z} {g : am_F} {gs : List am_F} {d : Nat} {Q : Option am_V → am_M → Prop} {t : Nat → Nat} {n : Nat} (hn : n ≤ 96) (ht : ∀ j, j < n → t j < 256) (h0 : I 3 0 0 = nI n) (hb : ∀ j, j < n → I 23 0 j = nI (t j)) {P2 : Im → Im → Prop} (hk : ∀ I1 : Im, RdT I1 t n (nxT t n (0, 0, 0)) ∧ FrA (up3 (up3 (up3 (up3 (up3 (up3 I 3 0 5 0) 3 0 6 0) 3 0 10 0) 3 0 11 0) 3 0 7 0) 3 0 9 0) I1 → Sw mX3_takesKey [.inr (.inr (some (3, 0)))] (d + 6) I1 X (some (.inl 0)) (P2 I1))  (k0 : ∀ (I1 : Im), (RdT I1 t n (nxT t n (0, 0, 0)) ∧ FrA (up3 (up3 (up3 (up3 (up3 (up3 I 3 0 (5) (0)) 3 0 (6) (0)) 3 0 (10) (0)) 3 0 (11) (0)) 3 0 (7) (0)) 3 0 (9) (0)) I1) → ∀ (I2 : Im), (P2 I1 I2) → am_WP (am_psh g (some (.inl (0))) :: gs) (d + 8) (mk (up3 (up3 I2 3 0 (1) ((I2 3 0 8))) 3 0 (0) (0)) X) Q) : am_WP (am_entry mX3_parse [.inr (.inr (some (3, 0)))] :: g :: gs) (d + 7) (mk I X) Q := by
  refine am_go 400 ?_
  refine (c_X3_advance (I := (up3 (up3 (up3 (up3 (up3 (up3 I 3 0 (5) (0)) 3 0 (6) (0)) 3 0 (10) (0)) 3 0 (11) (0)) 3 0 (7) (0)) 3 0 (9) (0))) (t := t) (n := n) (k := 0) (st := 0) (e := 0) hn (show (up3 (up3 (up3 (up3 (up3 (up3 I 3 0 5 0) 3 0 6 0) 3 0 10 0) 3 0 11 0) 3 0 7 0) 3 0 9 0) 3 0 0 = nI n from by rw [up3_j (by decide), up3_j (by decide), up3_j (by decide), up3_j (by decide), up3_j (by decide), up3_j (by decide)]; exact h0) hb ht (Nat.zero_le _) (Nat.zero_le _) (show (up3 (up3 (up3 (up3 (up3 (up3 I 3 0 5 0) 3 0 6 0) 3 0 10 0) 3 0 11 0) 3 0 7 0) 3 0 9 0) 3 0 7 = nI 0 from by rw [up3_j (by decide)]; exact up3_s) (show (up3 (up3 (up3 (up3 (up3 (up3 I 3 0 5 0) 3 0 6 0) 3 0 10 0) 3 0 11 0) 3 0 7 0) 3 0 9 0) 3 0 9 = nI 0 from up3_s)) _ _ _ ?_
  intro I1 p1
  refine am_go 400 ?_
  refine (hk I1 p1) _ _ _ ?_
  intro I2 p2
  refine am_go 400 ?_
  exact k0 I1 p1 I2 p2
set_option maxRecDepth 100000 in
set_option maxHeartbeats 4000000 in
theorem w_parse_0 {I : Nat → Nat → Nat → Int32} {X : am_Z} {g : am_F} {gs : List am_F} {d : Nat} {Q : Option am_V → am_M → Prop} {t : Nat → Nat} {n : Nat} (hn : n ≤ 96) (ht : ∀ j, j < n → t j < 256) (h0 : I 3 0 0 = nI n) (hb : ∀ j, j < n → I 23 0 j = nI (t j)) {P2 : Im → Im → Prop} (hk : ∀ I1 : Im, RdT I1 t n (nxT t n (0, 0, 0)) ∧ FrA (up3 (up3 (up3 (up3 (up3 (up3 I 3 0 5 0) 3 0 6 0) 3 0 10 0) 3 0 11 0) 3 0 7 0) 3 0 9 0) I1 → Sw mX3_takesKey [.inr (.inr (some (3, 0)))] (d + 6) I1 X (some (.inl 1)) (P2 I1)) {key : Nat} {q : Pa} (hq : q.1.1 ≤ 4) (hl : ∀ I1 I2 : Im, P2 I1 I2 → Sw mX3_takesLevel [.inr (.inr (some (3, 0))), .inl 0] (d + 6) I2 X (some (.inl 0)) (PrC I2 t n key 0 0 (false, q)))  (k0 : ∀ (I1 : Im), (RdT I1 t n (nxT t n (0, 0, 0)) ∧ FrA (up3 (up3 (up3 (up3 (up3 (up3 I 3 0 (5) (0)) 3 0 (6) (0)) 3 0 (10) (0)) 3 0 (11) (0)) 3 0 (7) (0)) 3 0 (9) (0)) I1) → ∀ (I2 : Im), (P2 I1 I2) → ∀ (I3 : Im), (PrC I2 t n key 0 0 (false, q) I3) → am_WP (am_psh g (some (.inl (0))) :: gs) (d + 8) (mk (up3 (up3 I3 3 0 (1) ((nI q.1.2.1))) 3 0 (0) (0)) X) Q) : am_WP (am_entry mX3_parse [.inr (.inr (some (3, 0)))] :: g :: gs) (d + 7) (mk I X) Q := by
  refine am_go 400 ?_
  refine (c_X3_advance (I := (up3 (up3 (up3 (up3 (up3 (up3 I 3 0 (5) (0)) 3 0 (6) (0)) 3 0 (10) (0)) 3 0 (11) (0)) 3 0 (7) (0)) 3 0 (9) (0))) (t := t) (n := n) (k := 0) (st := 0) (e := 0) hn (show (up3 (up3 (up3 (up3 (up3 (up3 I 3 0 5 0) 3 0 6 0) 3 0 10 0) 3 0 11 0) 3 0 7 0) 3 0 9 0) 3 0 0 = nI n from by rw [up3_j (by decide), up3_j (by decide), up3_j (by decide), up3_j (by decide), up3_j (by decide), up3_j (by decide)]; exact h0) hb ht (Nat.zero_le _) (Nat.zero_le _) (show (up3 (up3 (up3 (up3 (up3 (up3 I 3 0 5 0) 3 0 6 0) 3 0 10 0) 3 0 11 0) 3 0 7 0) 3 0 9 0) 3 0 7 = nI 0 from by rw [up3_j (by decide)]; exact up3_s) (show (up3 (up3 (up3 (up3 (up3 (up3 I 3 0 5 0) 3 0 6 0) 3 0 10 0) 3 0 11 0) 3 0 7 0) 3 0 9 0) 3 0 9 = nI 0 from up3_s)) _ _ _ ?_
  intro I1 p1
  refine am_go 400 ?_
  refine (hk I1 p1) _ _ _ ?_
  intro I2 p2
  refine am_go 400 ?_
  refine (hl I1 I2 p2) _ _ _ ?_
  intro I3 p3
  refine am_go 400 ?_
  have tk0 : I3 3 0 8 = nI q.1.2.1 := p3.2.1
  show am_WP (am_psh g (some (.inl (0))) :: gs) (d + 8) (mk (up3 (up3 I3 3 0 (1) ((I3 3 0 8))) 3 0 (0) (0)) X) Q
  try rw [tk0]
  exact k0 I1 p1 I2 p2 I3 p3
set_option maxRecDepth 100000 in
set_option maxHeartbeats 4000000 in
theorem w_parse_1 {I : Nat → Nat → Nat → Int32} {X : am_Z} {g : am_F} {gs : List am_F} {d : Nat} {Q : Option am_V → am_M → Prop} {t : Nat → Nat} {n : Nat} (hn : n ≤ 96) (ht : ∀ j, j < n → t j < 256) (h0 : I 3 0 0 = nI n) (hb : ∀ j, j < n → I 23 0 j = nI (t j)) {P2 : Im → Im → Prop} (hk : ∀ I1 : Im, RdT I1 t n (nxT t n (0, 0, 0)) ∧ FrA (up3 (up3 (up3 (up3 (up3 (up3 I 3 0 5 0) 3 0 6 0) 3 0 10 0) 3 0 11 0) 3 0 7 0) 3 0 9 0) I1 → Sw mX3_takesKey [.inr (.inr (some (3, 0)))] (d + 6) I1 X (some (.inl 1)) (P2 I1)) {key : Nat} {q : Pa} (hq : q.1.1 ≤ 4) (hl : ∀ I1 I2 : Im, P2 I1 I2 → Sw mX3_takesLevel [.inr (.inr (some (3, 0))), .inl 0] (d + 6) I2 X (some (.inl 1)) (PrC I2 t n key 0 0 (true, q)))  (k0 : ∀ (I1 : Im), (RdT I1 t n (nxT t n (0, 0, 0)) ∧ FrA (up3 (up3 (up3 (up3 (up3 (up3 I 3 0 (5) (0)) 3 0 (6) (0)) 3 0 (10) (0)) 3 0 (11) (0)) 3 0 (7) (0)) 3 0 (9) (0)) I1) → ∀ (I2 : Im), (P2 I1 I2) → ∀ (I3 : Im), (PrC I2 t n key 0 0 (true, q) I3) → (q.1.1 = 0) → am_WP (am_psh g (some (.inl (1))) :: gs) (d + 8) (mk (up3 (up3 I3 3 0 (1) ((nI q.1.2.1))) 3 0 (0) (0)) X) Q) (k1 : ∀ (I1 : Im), (RdT I1 t n (nxT t n (0, 0, 0)) ∧ FrA (up3 (up3 (up3 (up3 (up3 (up3 I 3 0 (5) (0)) 3 0 (6) (0)) 3 0 (10) (0)) 3 0 (11) (0)) 3 0 (7) (0)) 3 0 (9) (0)) I1) → ∀ (I2 : Im), (P2 I1 I2) → ∀ (I3 : Im), (PrC I2 t n key 0 0 (true, q) I3) → (¬ (q.1.1 = 0)) → am_WP (am_psh g (some (.inl (0))) :: gs) (d + 8) (mk (up3 (up3 I3 3 0 (1) ((nI q.1.2.1))) 3 0 (0) (0)) X) Q) : am_WP (am_entry mX3_parse [.inr (.inr (some (3, 0)))] :: g :: gs) (d + 7) (mk I X) Q := by
  refine am_go 400 ?_
  refine (c_X3_advance (I := (up3 (up3 (up3 (up3 (up3 (up3 I 3 0 (5) (0)) 3 0 (6) (0)) 3 0 (10) (0)) 3 0 (11) (0)) 3 0 (7) (0)) 3 0 (9) (0))) (t := t) (n := n) (k := 0) (st := 0) (e := 0) hn (show (up3 (up3 (up3 (up3 (up3 (up3 I 3 0 5 0) 3 0 6 0) 3 0 10 0) 3 0 11 0) 3 0 7 0) 3 0 9 0) 3 0 0 = nI n from by rw [up3_j (by decide), up3_j (by decide), up3_j (by decide), up3_j (by decide), up3_j (by decide), up3_j (by decide)]; exact h0) hb ht (Nat.zero_le _) (Nat.zero_le _) (show (up3 (up3 (up3 (up3 (up3 (up3 I 3 0 5 0) 3 0 6 0) 3 0 10 0) 3 0 11 0) 3 0 7 0) 3 0 9 0) 3 0 7 = nI 0 from by rw [up3_j (by decide)]; exact up3_s) (show (up3 (up3 (up3 (up3 (up3 (up3 I 3 0 5 0) 3 0 6 0) 3 0 10 0) 3 0 11 0) 3 0 7 0) 3 0 9 0) 3 0 9 = nI 0 from up3_s)) _ _ _ ?_
  intro I1 p1
  refine am_go 400 ?_
  refine (hk I1 p1) _ _ _ ?_
  intro I2 p2
  refine am_go 400 ?_
  refine (hl I1 I2 p2) _ _ _ ?_
  intro I3 p3
  refine am_go 400 ?_
  have tk0 : I3 3 0 7 = nI q.1.1 := (p3.2.2 rfl).1.2.2.1
  refine am_if (fun h1 => ?_) (fun h1 => ?_)
  · have nh1 := (eq_nat (a := q.1.1) (b := 0) tk0 (rfl : (0 : Int32) = nI 0) (by omega) (by omega)).mp h1
    have tk1 : I3 3 0 8 = nI q.1.2.1 := p3.2.1
    show am_WP (am_psh g (some (.inl (1))) :: gs) (d + 8) (mk (up3 (up3 I3 3 0 (1) ((I3 3 0 8))) 3 0 (0) (0)) X) Q
    try rw [tk1]
    exact k0 I1 p1 I2 p2 I3 p3 nh1
  · have nh1 := mt (eq_nat (a := q.1.1) (b := 0) tk0 (rfl : (0 : Int32) = nI 0) (by omega) (by omega)).mpr h1
    have tk2 : I3 3 0 8 = nI q.1.2.1 := p3.2.1
    show am_WP (am_psh g (some (.inl (0))) :: gs) (d + 8) (mk (up3 (up3 I3 3 0 (1) ((I3 3 0 8))) 3 0 (0) (0)) X) Q
    try rw [tk2]
    exact k1 I1 p1 I2 p2 I3 p3 nh1
theorem c_X3_parse {I : Im} {X : am_Z} {D : Nat} {t : Nat → Nat} {n : Nat} (hn : n ≤ 96) (ht : ∀ j, j < n → t j < 256) (h0 : I 3 0 0 = nI n) (hb : ∀ j, j < n → I 23 0 j = nI (t j)) (hD : 620 ≤ D) : Sw mX3_parse [.inr (.inr (some (3, 0)))] D I X (some (.inl (vB (prs t n).1))) (fun I' => FrR I I' ∧ I' 3 0 0 = 0 ∧ I' 3 0 1 = nI (prs t n).2.1 ∧ ((prs t n).1 = true → RdS I' (prs t n).2.2.1 0 0 (prs t n).2.2.2)) := by
  obtain ⟨d, rfl⟩ : ∃ d, D = d + 7 := ⟨D - 7, by omega⟩
  have hx := nxT_W (t := t) (n := n) (tk := (0, 0, 0)) (Nat.zero_le _)
  have F0 : FrR I (up3 (up3 (up3 (up3 (up3 (up3 I 3 0 5 0) 3 0 6 0) 3 0 10 0) 3 0 11 0) 3 0 7 0) 3 0 9 0) := FrR_3 (FrR_3 (FrR_3 (FrR_3 (FrR_3 (FrR_3 FrR_r (Or.inl rfl)) (Or.inl rfl)) (Or.inl rfl)) (Or.inl rfl)) (Or.inl rfl)) (Or.inl rfl)
  by_cases hk3 : kyA t (nxT t n (0, 0, 0)) = 3
  · have e : prs t n = (false, (nxT t n (0, 0, 0)).2.1, 3, []) := if_pos hk3
    rw [e]
    refine fun g gs Q K => w_parse_k (P2 := fun I1 I2 => I2 = up3 I1 3 0 4 3) hn ht h0 hb (fun I1 p1 => c_key_3 hn ht p1.1 hx.1 hk3) (fun I1 p1 I2 p2 => K _ ⟨?_, up3_s, ?_, fun z => by cases z⟩)
    · subst p2
      exact FrR_3 (FrR_3 (FrR_3 (FrR_t F0 (FrR_A p1.2)) (Or.inl rfl)) (Or.inl rfl)) (Or.inl rfl)
    · subst p2
      rw [up3_j (by decide), up3_s, up3_j (by decide)]
      exact p1.1.2.2.2.1
  · have hk : kyA t (nxT t n (0, 0, 0)) < 3 := by have := kyA_le t (nxT t n (0, 0, 0)); omega
    have hy := nxT_W (t := t) (n := n) (tk := nxT t n (0, 0, 0)) hx.1.2.1
    have ep : prs t n = ((pz t n (kyA t (nxT t n (0, 0, 0))) 200 0 0 0 (nxT t n (nxT t n (0, 0, 0)), [])).1 && ((pz t n (kyA t (nxT t n (0, 0, 0))) 200 0 0 0 (nxT t n (nxT t n (0, 0, 0)), [])).2.1.1 == 0), (pz t n (kyA t (nxT t n (0, 0, 0))) 200 0 0 0 (nxT t n (nxT t n (0, 0, 0)), [])).2.1.2.1, kyA t (nxT t n (0, 0, 0)), (pz t n (kyA t (nxT t n (0, 0, 0))) 200 0 0 0 (nxT t n (nxT t n (0, 0, 0)), [])).2.2) := if_neg hk3
    have key : ∀ I1 : Im, RdT I1 t n (nxT t n (0, 0, 0)) ∧ FrA (up3 (up3 (up3 (up3 (up3 (up3 I 3 0 5 0) 3 0 6 0) 3 0 10 0) 3 0 11 0) 3 0 7 0) 3 0 9 0) I1 → Sw mX3_takesKey [.inr (.inr (some (3, 0)))] (d + 6) I1 X (some (.inl 1)) (fun I2 => (RdT I2 t n (nxT t n (nxT t n (0, 0, 0))) ∧ FrA (up3 I1 3 0 4 (nI (kyA t (nxT t n (0, 0, 0))))) I2) ∧ RdS I2 (kyA t (nxT t n (0, 0, 0))) 0 0 [] ∧ FrR I I2) := fun I1 p1 g gs Q K => c_key_t hn ht p1.1 hx.1 hk g gs Q (fun I2 p2 => K I2 ⟨p2, ?_, ?_⟩)
    · have hz := pz_ok (t := t) (n := n) (key := kyA t (nxT t n (0, 0, 0))) 200 0 0 0 (nxT t n (nxT t n (0, 0, 0)), []) hy.1
      have lev : ∀ I1 I2 : Im, ((RdT I2 t n (nxT t n (nxT t n (0, 0, 0))) ∧ FrA (up3 I1 3 0 4 (nI (kyA t (nxT t n (0, 0, 0))))) I2) ∧ RdS I2 (kyA t (nxT t n (0, 0, 0))) 0 0 [] ∧ FrR I I2) → Sw mX3_takesLevel [.inr (.inr (some (3, 0))), .inl 0] (d + 6) I2 X (some (.inl (vB (pz t n (kyA t (nxT t n (0, 0, 0))) 200 0 0 0 (nxT t n (nxT t n (0, 0, 0)), [])).1))) (PrC I2 t n (kyA t (nxT t n (0, 0, 0))) 0 0 (pz t n (kyA t (nxT t n (0, 0, 0))) 200 0 0 0 (nxT t n (nxT t n (0, 0, 0)), []))) := fun I1 I2 p2 => (SLv_all hn ht hk 200).1 0 0 0 (nxT t n (nxT t n (0, 0, 0)), []) I2 (d + 6) 0 (by omega) (by omega) (by omega) rfl ⟨p2.1.1, p2.2.1⟩ hy.1 (Nat.zero_le _) (by omega) (by omega)
      rcases e : pz t n (kyA t (nxT t n (0, 0, 0))) 200 0 0 0 (nxT t n (nxT t n (0, 0, 0)), []) with ⟨_ | _, q⟩
      · rw [e] at ep lev hz
        rw [ep]
        exact fun g gs Q K => w_parse_0 (P2 := fun I1 I2 => (RdT I2 t n (nxT t n (nxT t n (0, 0, 0))) ∧ FrA (up3 I1 3 0 4 (nI (kyA t (nxT t n (0, 0, 0))))) I2) ∧ RdS I2 (kyA t (nxT t n (0, 0, 0))) 0 0 [] ∧ FrR I I2) hn ht h0 hb key hz.1.2.2.1 lev (fun I1 p1 I2 p2 I3 p3 => K _ ⟨FrR_3 (FrR_3 (FrR_t p2.2.2 p3.1) (Or.inl rfl)) (Or.inl rfl), up3_s, by rw [up3_j (by decide)]; exact up3_s, fun z => by cases z⟩)
      · rw [e] at ep lev hz
        rw [ep]
        have rs : ∀ I3 : Im, RdS I3 (kyA t (nxT t n (0, 0, 0))) 0 0 q.2 → RdS (up3 (up3 I3 3 0 1 (nI q.1.2.1)) 3 0 0 0) (kyA t (nxT t n (0, 0, 0))) 0 0 q.2 := fun I3 r => by
          obtain ⟨a, b, c, e, f, g⟩ := r
          exact ⟨by rw [up3_j (by decide), up3_j (by decide)]; exact a, by rw [up3_j (by decide), up3_j (by decide)]; exact b, by rw [up3_j (by decide), up3_j (by decide)]; exact c, e, by rw [up3_j (by decide), up3_j (by decide)]; exact f, by rw [up3_j (by decide), up3_j (by decide)]; exact g⟩
        by_cases q0 : q.1.1 = 0
        · have eb : (true && (q.1.1 == 0)) = true := by simp [q0]
          show Sw mX3_parse _ _ I X (some (.inl (vB (true && (q.1.1 == 0))))) (fun I' => FrR I I' ∧ I' 3 0 0 = 0 ∧ I' 3 0 1 = nI q.1.2.1 ∧ ((true && (q.1.1 == 0)) = true → RdS I' (kyA t (nxT t n (0, 0, 0))) 0 0 q.2))
          rw [eb]
          exact fun g gs Q K => w_parse_1 (P2 := fun I1 I2 => (RdT I2 t n (nxT t n (nxT t n (0, 0, 0))) ∧ FrA (up3 I1 3 0 4 (nI (kyA t (nxT t n (0, 0, 0))))) I2) ∧ RdS I2 (kyA t (nxT t n (0, 0, 0))) 0 0 [] ∧ FrR I I2) hn ht h0 hb key hz.1.2.2.1 lev (fun I1 p1 I2 p2 I3 p3 _ => K _ ⟨FrR_3 (FrR_3 (FrR_t p2.2.2 p3.1) (Or.inl rfl)) (Or.inl rfl), up3_s, (by rw [up3_j (by decide)]; exact up3_s), fun _ => rs I3 (p3.2.2 rfl).2⟩) (fun I1 p1 I2 p2 I3 p3 z => absurd q0 z)
        · have eb : (true && (q.1.1 == 0)) = false := by simp [q0]
          show Sw mX3_parse _ _ I X (some (.inl (vB (true && (q.1.1 == 0))))) (fun I' => FrR I I' ∧ I' 3 0 0 = 0 ∧ I' 3 0 1 = nI q.1.2.1 ∧ ((true && (q.1.1 == 0)) = true → RdS I' (kyA t (nxT t n (0, 0, 0))) 0 0 q.2))
          rw [eb]
          exact fun g gs Q K => w_parse_1 (P2 := fun I1 I2 => (RdT I2 t n (nxT t n (nxT t n (0, 0, 0))) ∧ FrA (up3 I1 3 0 4 (nI (kyA t (nxT t n (0, 0, 0))))) I2) ∧ RdS I2 (kyA t (nxT t n (0, 0, 0))) 0 0 [] ∧ FrR I I2) hn ht h0 hb key hz.1.2.2.1 lev (fun I1 p1 I2 p2 I3 p3 z => absurd z q0) (fun I1 p1 I2 p2 I3 p3 _ => K _ ⟨FrR_3 (FrR_3 (FrR_t p2.2.2 p3.1) (Or.inl rfl)) (Or.inl rfl), up3_s, (by rw [up3_j (by decide)]; exact up3_s), fun z => by cases z⟩)
    · have u : ∀ j, j = 5 ∨ j = 6 ∨ j = 10 ∨ j = 11 → I1 3 0 j = 0 := fun j hj => by
        rw [p1.2.2 j (by omega) (by omega) (by omega)]
        rcases hj with rfl | rfl | rfl | rfl
        · rw [up3_j (by decide), up3_j (by decide), up3_j (by decide), up3_j (by decide), up3_j (by decide)]; exact up3_s
        · rw [up3_j (by decide), up3_j (by decide), up3_j (by decide), up3_j (by decide)]; exact up3_s
        · rw [up3_j (by decide), up3_j (by decide), up3_j (by decide)]; exact up3_s
        · rw [up3_j (by decide), up3_j (by decide)]; exact up3_s
      exact RdS_A ⟨up3_s, by rw [up3_j (by decide)]; exact u 5 (by omega), by rw [up3_j (by decide)]; exact u 6 (by omega), fun j hj => absurd hj (Nat.not_lt_zero _), by rw [up3_j (by decide)]; exact u 10 (by omega), by rw [up3_j (by decide)]; exact u 11 (by omega)⟩ p2.2
    · exact FrR_t (FrR_3 (FrR_t F0 (FrR_A p1.2)) (Or.inl rfl)) (FrR_A p2.2)
