/-! STRONG -/
def oM : Option Nat → Int32
  | none => -1
  | some t => nI t
theorem lastT_s {tx : Nat → Tx} {key : Nat} : ∀ {n t : Nat}, lastT tx key n = some t → t < n ∧ (tx t).1 = key
  | 0, t, h => by cases h
  | n + 1, t, h => by
    rw [lastT] at h
    split at h
    · rename_i e; cases h; exact ⟨by omega, e⟩
    · have := lastT_s h; exact ⟨by omega, this.2⟩
def hdN (nt : Nat) (tx : Nat → Tx) (β : Bn) (l : Nat) : Nat := match lastT tx 0 nt with
  | none => β.2.1 l
  | some t => clN (tv (tx t) (nm3 (nI (β.2.1 l)) (nI (β.1 1)) (nI l))) 99
def kdN (β : Bn) (l v : Nat) : Nat := if β.1 0 = 1 then v + 6 else if β.1 0 = 2 then (if l < 3 then v - 5 else v) else if β.1 0 = 3 then (v + 6) / 2 else if β.1 0 = 4 then (if l < 3 then v - 5 else v) - β.1 1 / 20 else v
def strN (nt : Nat) (tx : Nat → Tx) (β : Bn) (l : Nat) : Nat := kdN β l (hdN nt tx β l)
theorem hdN_le {nt : Nat} {tx : Nat → Tx} {β : Bn} {l : Nat} (hg : GB β) (hl : l < 6) : hdN nt tx β l ≤ 99 := by
  have := (hg.2.2.2.2.2 l hl).1
  unfold hdN
  split
  · omega
  · exact clN_le _ _ (by decide)
theorem kdN_le {β : Bn} {l v : Nat} (hv : v ≤ 99) : kdN β l v ≤ 105 := by
  unfold kdN
  split
  · omega
  · split
    · split <;> omega
    · split
      · omega
      · split
        · split <;> omega
        · omega
theorem strN_le {nt : Nat} {tx : Nat → Tx} {β : Bn} {l : Nat} (hg : GB β) (hl : l < 6) : strN nt tx β l ≤ 105 := kdN_le (hdN_le hg hl)
theorem hdN_0 {nt : Nat} {tx : Nat → Tx} {β : Bn} {l : Nat} (h : lastT tx 0 nt = none) : hdN nt tx β l = β.2.1 l := by unfold hdN; rw [h]
theorem hdN_1 {nt : Nat} {tx : Nat → Tx} {β : Bn} {l t : Nat} (h : lastT tx 0 nt = some t) : hdN nt tx β l = clN (tv (tx t) (nm3 (nI (β.2.1 l)) (nI (β.1 1)) (nI l))) 99 := by unfold hdN; rw [h]
theorem tnn {t : Nat} (h : t < 14) : ¬ nI t = -1000000005 := by
  intro z
  have a := congrArg Int32.toInt z
  rw [nI_toInt (by omega), show (-1000000005 : Int32).toInt = -1000000005 from rfl] at a
  omega
set_option maxRecDepth 100000 in
set_option maxHeartbeats 4000000 in
theorem w_textOf_0 {I : Nat → Nat → Nat → Int32} {X : am_Z} {g : am_F} {gs : List am_F} {d : Nat} {Q : Option am_V → am_M → Prop} {c q : Nat} {x : Int32} (hx : x = nI q) (hq : q < 3) (h18 : I 18 c q = -1000000005) (k0 : am_WP (am_psh g (some (.inr (.inr none))) :: gs) (d + 1) (mk I X) Q) : am_WP (am_entry mX1_textOf [.inr (.inr (some (1, c))), .inl (x)] :: g :: gs) (d) (mk I X) Q := by
  refine am_go 400 ?_
  refine am_f (ix_in (n := q) (N := 3) hx (by omega) (by decide)) ?_
  have tk0 : (x).toNatClampNeg = q := ix_cl (n := q) hx (by omega)
  have tk1 : I 18 c (((x).toNatClampNeg)) = (-1000000005) := by first | exact h18 | (((try rw [tk0])); first | done | exact h18)
  refine am_t (by show (I 18 c (((x).toNatClampNeg))) = (-1000000005); (try rw [tk1]); (try rw [tk0]); first | done | exact rfl) ?_
  exact k0
set_option maxRecDepth 100000 in
set_option maxHeartbeats 4000000 in
theorem w_textOf_1 {I : Nat → Nat → Nat → Int32} {X : am_Z} {g : am_F} {gs : List am_F} {d : Nat} {Q : Option am_V → am_M → Prop} {c q t : Nat} {x : Int32} (hx : x = nI q) (hq : q < 3) (h18 : I 18 c q = nI t) (ht : t < 14) (k0 : am_WP (am_psh g (some (.inr (.inr (X.1 c (t))))) :: gs) (d + 1) (mk I X) Q) : am_WP (am_entry mX1_textOf [.inr (.inr (some (1, c))), .inl (x)] :: g :: gs) (d) (mk I X) Q := by
  refine am_go 400 ?_
  refine am_f (ix_in (n := q) (N := 3) hx (by omega) (by decide)) ?_
  have tk0 : (x).toNatClampNeg = q := ix_cl (n := q) hx (by omega)
  have tk1 : I 18 c (((x).toNatClampNeg)) = nI t := by first | exact h18 | (((try rw [tk0])); first | done | exact h18)
  refine am_f (by show ¬ (I 18 c (((x).toNatClampNeg))) = (-1000000005); (try rw [tk1]); (try rw [tk0]); first | done | exact (tnn ht)) ?_
  refine am_f (ix_in (n := q) (N := 3) hx (by omega) (by decide)) ?_
  refine am_f (ix_in (n := t) (N := 14) tk1 (by omega) (by decide)) ?_
  have tk2 : ((I 18 c (((x).toNatClampNeg)))).toNatClampNeg = t := by first | exact ix_cl (n := t) tk1 (by omega) | (((try rw [tk1]); (try rw [tk0])); first | done | exact ix_cl (n := t) tk1 (by omega))
  show am_WP (am_psh g (some (.inr (.inr (X.1 c ((((I 18 c (((x).toNatClampNeg)))).toNatClampNeg)))))) :: gs) (d + 1) (mk I X) Q
  try rw [tk2]
  try rw [tk1]
  try rw [tk0]
  exact k0
theorem c_textOf_0 {I X d} {c q nt : Nat} {tx : Nat → Tx} {x : Int32} (hx : x = nI q) (hq : q < 3) (h : TsC I X c nt tx) (hl : lastT tx q nt = none) : Rt mX1_textOf [.inr (.inr (some (1, c))), .inl x] d (mk I X) (some (.inr (.inr none))) (mk I X) := fun g gs Q K =>
  w_textOf_0 hx hq (by rw [h.2.1 q hq, hl]; rfl) K
theorem c_textOf_1 {I X d} {c q nt t id : Nat} {tx : Nat → Tx} {x : Int32} (hx : x = nI q) (hq : q < 3) (h : TsC I X c nt tx) (hn : nt ≤ 14) (hl : lastT tx q nt = some t) (hid : X.1 c t = some (6, id)) : Rt mX1_textOf [.inr (.inr (some (1, c))), .inl x] d (mk I X) (some (.inr (.inr (some (6, id))))) (mk I X) := fun g gs Q K => by
  have ht := (lastT_s hl).1
  refine w_textOf_1 hx hq (by rw [h.2.1 q hq, hl]; rfl) (by omega) ?_
  rw [hid]
  exact K
set_option maxRecDepth 100000 in
set_option maxHeartbeats 4000000 in
theorem w_X8_counts {I : Nat → Nat → Nat → Int32} {X : am_Z} {g : am_F} {gs : List am_F} {d : Nat} {Q : Option am_V → am_M → Prop} {x : Int32} (k0 : am_WP ((mX8_counts, 4, [some (.inr (.inr (some (8, 0)))), some (.inl (x)), some (.inl ((-1))), some (.inl (0))], []) :: g :: gs) (d + 1) (mk I X) Q) : am_WP (am_entry mX8_counts [.inr (.inr (some (8, 0))), .inl (x)] :: g :: gs) (d + 1) (mk I X) Q := by
  refine am_go 4 ?_
  exact k0
set_option maxRecDepth 100000 in
set_option maxHeartbeats 4000000 in
theorem w_X8_counts_4 {I : Nat → Nat → Nat → Int32} {X : am_Z} {g : am_F} {gs : List am_F} {d : Nat} {Q : Option am_V → am_M → Prop} {q i nt : Nat} {tx : Nat → Tx} {x u : Int32} (hx : x = nI q) (hq : q < 3) (hN : I 30 0 1 = nI nt) (hn : nt ≤ 14) (hT : ∀ t, t < nt → TxM (I 30 0) t (tx t)) (hG : ∀ t, t < nt → GT (tx t)) (hi : i ≤ nt) (k0 : (nt ≤ i) → am_WP (am_psh g (some (.inl (u))) :: gs) (d + 2) (mk I X) Q) (k1 : (¬ (nt ≤ i)) → (((tx i).1) = q) → am_WP ((mX8_counts, 4, [some (.inr (.inr (some (8, 0)))), some (.inl (x)), some (.inl (nI i)), some (.inl ((nI (i + 1))))], []) :: g :: gs) (d + 1) (mk I X) Q) (k2 : (¬ (nt ≤ i)) → (¬ (((tx i).1) = q)) → am_WP ((mX8_counts, 4, [some (.inr (.inr (some (8, 0)))), some (.inl (x)), some (.inl (u)), some (.inl ((nI (i + 1))))], []) :: g :: gs) (d + 1) (mk I X) Q) : am_WP ((mX8_counts, 4, [some (.inr (.inr (some (8, 0)))), some (.inl (x)), some (.inl (u)), some (.inl (nI i))], []) :: g :: gs) (d + 1) (mk I X) Q := by
  refine am_go 400 ?_
  have tk0 : I 30 0 1 = nI nt := hN
  refine am_if (fun h1 => ?_) (fun h1 => ?_)
  · have nh1 := (le_nat (a := nt) (b := i) tk0 (rfl : (nI i : Int32) = nI i) (by omega) (by omega)).mp h1
    exact k0 nh1
  · have nh1 := mt (le_nat (a := nt) (b := i) tk0 (rfl : (nI i : Int32) = nI i) (by omega) (by omega)).mpr h1
    refine (c8_textAt (t := i) rfl) _ _ _ ?_
    refine am_go 400 ?_
    refine am_f (ix_in (n := (150 + 200 * i)) (N := 3150) (rfl : (nI (150 + 200 * i) : Int32) = nI (150 + 200 * i)) (by omega) (by decide)) ?_
    have tk1 : (nI (150 + 200 * i)).toNatClampNeg = (150 + 200 * i) := ix_cl (n := (150 + 200 * i)) (rfl : (nI (150 + 200 * i) : Int32) = nI (150 + 200 * i)) (by omega)
    have bd : (tx i).1 ≤ 2 := (by have := (hG i (by omega)).1; omega)
    have tk2 : I 30 0 (((nI (150 + 200 * i)).toNatClampNeg)) = nI (tx i).1 := by first | exact (hT i (by omega)).1 | (((try rw [tk1])); first | done | exact (hT i (by omega)).1)
    refine am_if (fun h2 => ?_) (fun h2 => ?_)
    · have nh2 := (eq_nat (a := ((tx i).1)) (b := q) tk2 hx (by omega) (by omega)).mp h2
      have tk3 : (nI i + 1) = nI (i + 1) := (nI_addE rfl (rfl : (1 : Int32) = nI 1))
      show am_WP ((mX8_counts, 4, [some (.inr (.inr (some (8, 0)))), some (.inl (x)), some (.inl (nI i)), some (.inl (((nI i + 1))))], []) :: g :: gs) (d + 1) (mk I X) Q
      try rw [tk3]
      exact k1 nh1 nh2
    · have nh2 := mt (eq_nat (a := ((tx i).1)) (b := q) tk2 hx (by omega) (by omega)).mpr h2
      have tk4 : (nI i + 1) = nI (i + 1) := (nI_addE rfl (rfl : (1 : Int32) = nI 1))
      show am_WP ((mX8_counts, 4, [some (.inr (.inr (some (8, 0)))), some (.inl (x)), some (.inl (u)), some (.inl (((nI i + 1))))], []) :: g :: gs) (d + 1) (mk I X) Q
      try rw [tk4]
      exact k2 nh1 nh2
theorem l_X8_counts {I X g gs d Q} {q nt : Nat} {tx : Nat → Tx} {x : Int32} (hx : x = nI q) (hq : q < 3) (hN : I 30 0 1 = nI nt) (hn : nt ≤ 14) (hT : ∀ t, t < nt → TxM (I 30 0) t (tx t)) (hG : ∀ t, t < nt → GT (tx t)) : ∀ (m i : Nat) (u : Int32), u = oM (lastT tx q i) → i + m = nt →
    am_WP (am_psh g (some (.inl (oM (lastT tx q nt)))) :: gs) (d + 2) (mk I X) Q →
    am_WP ((mX8_counts, 4, [some (.inr (.inr (some (8, 0)))), some (.inl x), some (.inl u), some (.inl (nI i))], []) :: g :: gs) (d + 1) (mk I X) Q
  | 0, i, u, hu, hi, K => by
    have e : i = nt := by omega
    subst e
    subst hu
    exact w_X8_counts_4 hx hq hN hn hT hG (by omega) (fun _ => K) (fun h => absurd (by omega) h) (fun h => absurd (by omega) h)
  | m + 1, i, u, hu, hi, K => w_X8_counts_4 hx hq hN hn hT hG (by omega) (fun h => absurd h (by omega)) (fun _ h => l_X8_counts hx hq hN hn hT hG m (i + 1) _ (by rw [lastT, if_pos h]; rfl) (by omega) K) (fun _ h => l_X8_counts hx hq hN hn hT hG m (i + 1) _ (by rw [lastT, if_neg h]; exact hu) (by omega) K)
theorem c_X8_counts {I X d} {q nt : Nat} {tx : Nat → Tx} {x : Int32} (hx : x = nI q) (hq : q < 3) (hN : I 30 0 1 = nI nt) (hn : nt ≤ 14) (hT : ∀ t, t < nt → TxM (I 30 0) t (tx t)) (hG : ∀ t, t < nt → GT (tx t)) : Rt mX8_counts [.inr (.inr (some (8, 0))), .inl x] (d + 1) (mk I X) (some (.inl (oM (lastT tx q nt)))) (mk I X) := fun g gs Q K => w_X8_counts (l_X8_counts hx hq hN hn hT hG nt 0 _ rfl (Nat.zero_add _) K)
theorem c_counts_0 {I X d} {q nt : Nat} {tx : Nat → Tx} {x : Int32} (hx : x = nI q) (hq : q < 3) (hN : I 30 0 1 = nI nt) (hn : nt ≤ 14) (hT : ∀ t, t < nt → TxM (I 30 0) t (tx t)) (hG : ∀ t, t < nt → GT (tx t)) (hl : lastT tx q nt = none) : Rt mX8_counts [.inr (.inr (some (8, 0))), .inl x] (d + 1) (mk I X) (some (.inl (-1))) (mk I X) := by have := c_X8_counts (X := X) (d := d) hx hq hN hn hT hG; rw [hl] at this; exact this
theorem c_counts_1 {I X d} {q nt t : Nat} {tx : Nat → Tx} {x : Int32} (hx : x = nI q) (hq : q < 3) (hN : I 30 0 1 = nI nt) (hn : nt ≤ 14) (hT : ∀ t, t < nt → TxM (I 30 0) t (tx t)) (hG : ∀ t, t < nt → GT (tx t)) (hl : lastT tx q nt = some t) : Rt mX8_counts [.inr (.inr (some (8, 0))), .inl x] (d + 1) (mk I X) (some (.inl (nI t))) (mk I X) := by have := c_X8_counts (X := X) (d := d) hx hq hN hn hT hG; rw [hl] at this; exact this
theorem c_worked_0 {I X d} {t : Nat} {x a b c : Int32} {T : Tx} (hx : x = nI t) (ht : t < 15) (hT : TxM (I 30 0) t T) (hG : GT T) (hk : T.1 = 0) : Sw mX8_worked [.inr (.inr (some (8, 0))), .inl x] (d + 1) (up3 (up3 (up3 I 45 0 115 a) 45 0 121 b) 45 0 108 c) X (some (.inl (tv T (nm3 a b c)))) (fun I' => FrV I I') :=
  Sw_m (c_X8_worked (I := up3 (up3 (up3 I 45 0 115 a) 45 0 121 b) 45 0 108 c) hx ht hT hG (fun j hj => by
    rw [hk] at hj ⊢
    have q : j = 0 ∨ j = 1 ∨ j = 2 := by have : j < 3 := hj; omega
    rcases q with q | q | q
    · subst q; show up3 _ 45 0 108 c 45 0 115 = a; rw [up3_j (by decide), up3_j (by decide), up3_s]
    · subst q; show up3 _ 45 0 108 c 45 0 121 = b; rw [up3_j (by decide), up3_s]
    · subst q; exact up3_s)) (fun I' h g h1 h2 => by rw [h g h2, up3_g h1, up3_g h1, up3_g h1])
theorem c_worked_1 {I X d} {t : Nat} {x a b c : Int32} {T : Tx} (hx : x = nI t) (ht : t < 15) (hT : TxM (I 30 0) t T) (hG : GT T) (hk : T.1 = 1) : Sw mX8_worked [.inr (.inr (some (8, 0))), .inl x] (d + 1) (up3 (up3 I 45 0 99 a) 45 0 121 b) X (some (.inl (tv T (nm3 a b c)))) (fun I' => FrV I I') :=
  Sw_m (c_X8_worked (I := up3 (up3 I 45 0 99 a) 45 0 121 b) hx ht hT hG (fun j hj => by
    rw [hk] at hj ⊢
    have q : j = 0 ∨ j = 1 := by have : j < 2 := hj; omega
    rcases q with q | q
    · subst q; show up3 _ 45 0 121 b 45 0 99 = a; rw [up3_j (by decide), up3_s]
    · subst q; exact up3_s)) (fun I' h g h1 h2 => by rw [h g h2, up3_g h1, up3_g h1])
theorem c_worked_2 {I X d} {t : Nat} {x a b c : Int32} {T : Tx} (hx : x = nI t) (ht : t < 15) (hT : TxM (I 30 0) t T) (hG : GT T) (hk : T.1 = 2) : Sw mX8_worked [.inr (.inr (some (8, 0))), .inl x] (d + 1) (up3 (up3 I 45 0 121 a) 45 0 108 b) X (some (.inl (tv T (nm3 a b c)))) (fun I' => FrV I I') :=
  Sw_m (c_X8_worked (I := up3 (up3 I 45 0 121 a) 45 0 108 b) hx ht hT hG (fun j hj => by
    rw [hk] at hj ⊢
    have q : j = 0 ∨ j = 1 := by have : j < 2 := hj; omega
    rcases q with q | q
    · subst q; show up3 _ 45 0 108 b 45 0 121 = a; rw [up3_j (by decide), up3_s]
    · subst q; exact up3_s)) (fun I' h g h1 h2 => by rw [h g h2, up3_g h1, up3_g h1])
