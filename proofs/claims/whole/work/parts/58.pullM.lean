/-! A PULL, the model -/
def CxM (I : Im) (b nt : Nat) (tx : Nat → Tx) (β : Bn) : Prop := RB (mB (I 30 0) b) β ∧ I 30 0 1 = nI nt ∧ ∀ t, t < nt → TxM (I 30 0) t (tx t)
def Tg (I0 I : Im) : Prop := (∀ j, j ≠ 12 → j ≠ 13 → I 8 0 j = I0 8 0 j) ∧ ∀ g, g ≠ 8 → g ≠ 45 → g ≠ 46 → I g = I0 g
def Ts (I0 : Im) (r : Nat × Nat) (I : Im) : Prop := Tg I0 I ∧ I 8 0 12 = nI r.1 ∧ I 8 0 13 = nI r.2
theorem Tg_r {I} : Tg I I := ⟨fun _ _ _ => rfl, fun _ _ _ _ => rfl⟩
theorem Tg_3 {I0 I j v} (h : Tg I0 I) (hj : j = 12 ∨ j = 13) : Tg I0 (up3 I 8 0 j v) := ⟨fun i a b => by rw [up3_j (by omega)]; exact h.1 i a b, fun g h8 a b => by rw [up3_g h8]; exact h.2 g h8 a b⟩
theorem Tg_V {I0 I I'} (h : Tg I0 I) (F : FrV I I') : Tg I0 I' := ⟨fun j a b => by rw [F 8 (by decide) (by decide)]; exact h.1 j a b, fun g h8 a b => (F g a b).trans (h.2 g h8 a b)⟩
theorem Tg_t {I0 I I'} (h : Tg I0 I) (F : Tg I I') : Tg I0 I' := ⟨fun j a b => (F.1 j a b).trans (h.1 j a b), fun g h8 a b => (F.2 g h8 a b).trans (h.2 g h8 a b)⟩
theorem CxM_g {I I' b nt tx β} (h : CxM I b nt tx β) (e : I' 30 = I 30) : CxM I' b nt tx β := by unfold CxM; rw [e]; exact h
theorem CxM_T {I I' b nt tx β} (h : CxM I b nt tx β) (T : Tg I I') : CxM I' b nt tx β := CxM_g h (T.2 30 (by decide) (by decide) (by decide))
set_option maxRecDepth 100000 in
set_option maxHeartbeats 4000000 in
theorem w_X8_thinksPull {I : Nat → Nat → Nat → Int32} {X : am_Z} {g : am_F} {gs : List am_F} {d : Nat} {Q : Option am_V → am_M → Prop} {b nt : Nat} {tx : Nat → Tx} {β : Bn} {a dp fo : Nat} {v x y z : Int32} (hC : CxM I b nt tx β) (hg : GB β) (hn : nt ≤ 14) (hG : ∀ t, t < nt → GT (tx t)) (hv : v = nI b) (hb : b < 8) (hx : x = nI a) (hy : y = nI dp) (hz : z = nI fo) (ha : a ≤ 6) (ha1 : 1 ≤ a) (hdp : 1 ≤ dp) (hdp6 : dp ≤ 6) (hfo : fo ≤ 999)  (k0 : (a ≤ dp) → ((gfN β (6 - a)) ≤ fo) → am_WP ((mX8_thinksPull, 56, [some (.inr (.inr (some (8, 0)))), some (.inl (v)), some (.inl (x)), some (.inl (y)), some (.inl (z)), some (.inl ((nI (6 - a)))), some (.inl (6)), some (.inl ((nI (gfN β (6 - a))))), some (.inl (0)), some (.inl ((nI (6 - a))))], []) :: g :: gs) (d + 3) (mk (up3 (up3 I 8 0 (12) (0)) 8 0 (13) (0)) X) Q) (k1 : (a ≤ dp) → (¬ ((gfN β (6 - a)) ≤ fo)) → am_WP (am_psh g none :: gs) (d + 4) (mk (up3 (up3 I 8 0 (12) (0)) 8 0 (13) (0)) X) Q) (k2 : (¬ (a ≤ dp)) → ((gfN β (6 - a)) ≤ fo) → am_WP ((mX8_thinksPull, 56, [some (.inr (.inr (some (8, 0)))), some (.inl (v)), some (.inl (x)), some (.inl (y)), some (.inl (z)), some (.inl ((nI (6 - a)))), some (.inl ((nI ((6 - a) + dp)))), some (.inl ((nI (gfN β (6 - a))))), some (.inl (0)), some (.inl ((nI (6 - a))))], []) :: g :: gs) (d + 3) (mk (up3 (up3 I 8 0 (12) (0)) 8 0 (13) (0)) X) Q) (k3 : (¬ (a ≤ dp)) → (¬ ((gfN β (6 - a)) ≤ fo)) → am_WP (am_psh g none :: gs) (d + 4) (mk (up3 (up3 I 8 0 (12) (0)) 8 0 (13) (0)) X) Q) : am_WP (am_entry mX8_thinksPull [.inr (.inr (some (8, 0))), .inl (v), .inl (x), .inl (y), .inl (z)] :: g :: gs) (d + 3) (mk I X) Q := by
  refine am_go 400 ?_
  refine am_if (fun h1 => ?_) (fun h1 => ?_)
  · have nh1 := (le_nat (a := a) (b := dp) hx hy (by omega) (by omega)).mp h1
    have bd : (gfN β (6 - a)) ≤ 168 := gfN_le hg _
    have tk0 : (gfS (mB (I 30 0) b) (6 - a)) = nI (gfN β (6 - a)) := gfS_N hC.1 hg _
    refine (cE_X8_gripsFrom (k := b) (l := (6 - a)) hv (nI_subE (rfl : (6 : Int32) = nI 6) hx (by omega)) (by omega) (by omega)) _ _ _ ?_
    refine am_go 400 ?_
    refine am_if (fun h2 => ?_) (fun h2 => ?_)
    · have nh2 := (le_nat (a := (gfN β (6 - a))) (b := fo) tk0 hz (by omega) (by omega)).mp h2
      have tk1 : (6 - x) = nI (6 - a) := (nI_subE (rfl : (6 : Int32) = nI 6) hx (by omega))
      refine am_cf rfl ?_
      refine am_cut ?_
      refine am_go 4 ?_
      show am_WP ((mX8_thinksPull, 56, [some (.inr (.inr (some (8, 0)))), some (.inl (v)), some (.inl (x)), some (.inl (y)), some (.inl (z)), some (.inl (((6 - x)))), some (.inl (6)), some (.inl (((gfS (mB (I 30 0) b) (6 - a))))), some (.inl (0)), some (.inl (((6 - x))))], []) :: g :: gs) (d + 3) (mk (up3 (up3 I 8 0 (12) (0)) 8 0 (13) (0)) X) Q
      try rw [tk0]
      try rw [tk1]
      exact k0 nh1 nh2
    · have nh2 := mt (le_nat (a := (gfN β (6 - a))) (b := fo) tk0 hz (by omega) (by omega)).mpr h2
      exact k1 nh1 nh2
  · have nh1 := mt (le_nat (a := a) (b := dp) hx hy (by omega) (by omega)).mpr h1
    have bd : (gfN β (6 - a)) ≤ 168 := gfN_le hg _
    have tk2 : (gfS (mB (I 30 0) b) (6 - a)) = nI (gfN β (6 - a)) := gfS_N hC.1 hg _
    refine (cE_X8_gripsFrom (k := b) (l := (6 - a)) hv (nI_subE (rfl : (6 : Int32) = nI 6) hx (by omega)) (by omega) (by omega)) _ _ _ ?_
    refine am_go 400 ?_
    refine am_if (fun h3 => ?_) (fun h3 => ?_)
    · have nh3 := (le_nat (a := (gfN β (6 - a))) (b := fo) tk2 hz (by omega) (by omega)).mp h3
      have tk3 : (6 - x) = nI (6 - a) := (nI_subE (rfl : (6 : Int32) = nI 6) hx (by omega))
      have tk4 : ((6 - x) + y) = nI ((6 - a) + dp) := (nI_addE (nI_subE (rfl : (6 : Int32) = nI 6) hx (by omega)) hy)
      refine am_cf rfl ?_
      refine am_cut ?_
      refine am_go 4 ?_
      show am_WP ((mX8_thinksPull, 56, [some (.inr (.inr (some (8, 0)))), some (.inl (v)), some (.inl (x)), some (.inl (y)), some (.inl (z)), some (.inl (((6 - x)))), some (.inl ((((6 - x) + y)))), some (.inl (((gfS (mB (I 30 0) b) (6 - a))))), some (.inl (0)), some (.inl (((6 - x))))], []) :: g :: gs) (d + 3) (mk (up3 (up3 I 8 0 (12) (0)) 8 0 (13) (0)) X) Q
      try rw [tk2]
      try rw [tk4]
      try rw [tk3]
      exact k2 nh1 nh3
    · have nh3 := mt (le_nat (a := (gfN β (6 - a))) (b := fo) tk2 hz (by omega) (by omega)).mpr h3
      exact k3 nh1 nh3
set_option maxRecDepth 100000 in
set_option maxHeartbeats 4000000 in
theorem w_X8_thinksPull_56 {I : Nat → Nat → Nat → Int32} {X : am_Z} {g : am_F} {gs : List am_F} {d : Nat} {Q : Option am_V → am_M → Prop} {b nt : Nat} {tx : Nat → Tx} {β : Bn} {a dp fo : Nat} {v x y z : Int32} (hC : CxM I b nt tx β) (hg : GB β) (hn : nt ≤ 14) (hG : ∀ t, t < nt → GT (tx t)) (hv : v = nI b) (hb : b < 8) (hx : x = nI a) (hy : y = nI dp) (hz : z = nI fo) (ha : a ≤ 6) (ha1 : 1 ≤ a) (hdp : 1 ≤ dp) (hdp6 : dp ≤ 6) (hfo : fo ≤ 999) {e hd t k : Nat} (he : e ≤ 6) (hek : 6 - a < e) (hhd : hd ≤ 168) (hk : k ≤ e) (hk2 : 6 - a ≤ k) (ht : t ≤ 105 * k) (k0 : (e ≤ k) → ((hd / 2) ≤ t) → am_WP ((mX8_thinksPull, 116, [some (.inr (.inr (some (8, 0)))), some (.inl (v)), some (.inl (x)), some (.inl (y)), some (.inl (z)), some (.inl (nI (6 - a))), some (.inl (nI e)), some (.inl (nI hd)), some (.inl (nI t)), some (.inl ((nI (e - 1))))], []) :: g :: gs) (d + 3) (mk I X) Q) (k1 : (e ≤ k) → (¬ ((hd / 2) ≤ t)) → am_WP (am_psh g none :: gs) (d + 4) (mk (up3 (up3 I 8 0 (12) ((nI (e - (6 - a))))) 8 0 (13) ((nI (3 * (e - (6 - a)))))) X) Q) (k2 : (¬ (e ≤ k)) → ∀ (I1 : Im), (FrV I I1) → am_WP ((mX8_thinksPull, 56, [some (.inr (.inr (some (8, 0)))), some (.inl (v)), some (.inl (x)), some (.inl (y)), some (.inl (z)), some (.inl (nI (6 - a))), some (.inl (nI e)), some (.inl (nI hd)), some (.inl ((nI (t + (strN nt tx β k))))), some (.inl ((nI (k + 1))))], []) :: g :: gs) (d + 3) (mk I1 X) Q) : am_WP ((mX8_thinksPull, 56, [some (.inr (.inr (some (8, 0)))), some (.inl (v)), some (.inl (x)), some (.inl (y)), some (.inl (z)), some (.inl (nI (6 - a))), some (.inl (nI e)), some (.inl (nI hd)), some (.inl (nI t)), some (.inl (nI k))], []) :: g :: gs) (d + 3) (mk I X) Q := by
  refine am_go 400 ?_
  refine am_if (fun h1 => ?_) (fun h1 => ?_)
  · have nh1 := (le_nat (a := e) (b := k) (rfl : (nI e : Int32) = nI e) (rfl : (nI k : Int32) = nI k) (by omega) (by omega)).mp h1
    have tk0 : (nI hd / 2) = nI (hd / 2) := divE (rfl : (nI hd : Int32) = nI hd) (rfl : (2 : Int32) = nI 2) (by omega) (by omega) (by omega)
    refine am_if (fun h2 => ?_) (fun h2 => ?_)
    · have nh2 := (le_nat (a := (hd / 2)) (b := t) tk0 (rfl : (nI t : Int32) = nI t) (by omega) (by omega)).mp h2
      have tk1 : (nI e - 1) = nI (e - 1) := (nI_subE rfl (rfl : (1 : Int32) = nI 1) (by omega))
      refine am_cf rfl ?_
      refine am_cut ?_
      refine am_go 4 ?_
      show am_WP ((mX8_thinksPull, 116, [some (.inr (.inr (some (8, 0)))), some (.inl (v)), some (.inl (x)), some (.inl (y)), some (.inl (z)), some (.inl (nI (6 - a))), some (.inl (nI e)), some (.inl (nI hd)), some (.inl (nI t)), some (.inl (((nI e - 1))))], []) :: g :: gs) (d + 3) (mk I X) Q
      try rw [tk1]
      exact k0 nh1 nh2
    · have nh2 := mt (le_nat (a := (hd / 2)) (b := t) tk0 (rfl : (nI t : Int32) = nI t) (by omega) (by omega)).mpr h2
      have tk2 : (nI e - nI (6 - a)) = nI (e - (6 - a)) := (nI_subE rfl rfl (by omega))
      have tk3 : (up3 I 8 0 (12) (((nI e - nI (6 - a))))) 8 0 12 = (nI (e - (6 - a))) := by first | exact up3_s | (((try rw [tk2])); first | done | exact up3_s)
      have tk4 : (3 * ((up3 I 8 0 (12) (((nI e - nI (6 - a))))) 8 0 12)) = nI (3 * (e - (6 - a))) := by first | exact (nI_mulE (rfl : (3 : Int32) = nI 3) tk3) | (((try rw [tk3]); (try rw [tk2])); first | done | exact (nI_mulE (rfl : (3 : Int32) = nI 3) tk3))
      show am_WP (am_psh g none :: gs) (d + 4) (mk (up3 (up3 I 8 0 (12) (((nI e - nI (6 - a))))) 8 0 (13) (((3 * ((up3 I 8 0 (12) (((nI e - nI (6 - a))))) 8 0 12))))) X) Q
      try rw [tk4]
      try rw [tk3]
      try rw [tk2]
      exact k1 nh1 nh2
  · have nh1 := mt (le_nat (a := e) (b := k) (rfl : (nI e : Int32) = nI e) (rfl : (nI k : Int32) = nI k) (by omega) (by omega)).mpr h1
    refine (c_X8_strong (I := I) (b := b) (l := k) hC.1 hg hC.2.1 hn hC.2.2 hG hv (by omega) (rfl : (nI k : Int32) = nI k) (by omega)) _ _ _ ?_
    intro I1 p1
    refine am_go 400 ?_
    have tk5 : (nI t + nI (strN nt tx β k)) = nI (t + (strN nt tx β k)) := (nI_addE rfl rfl)
    have tk6 : (nI k + 1) = nI (k + 1) := (nI_addE rfl (rfl : (1 : Int32) = nI 1))
    show am_WP ((mX8_thinksPull, 56, [some (.inr (.inr (some (8, 0)))), some (.inl (v)), some (.inl (x)), some (.inl (y)), some (.inl (z)), some (.inl (nI (6 - a))), some (.inl (nI e)), some (.inl (nI hd)), some (.inl (((nI t + nI (strN nt tx β k))))), some (.inl (((nI k + 1))))], []) :: g :: gs) (d + 3) (mk I1 X) Q
    try rw [tk5]
    try rw [tk6]
    exact k2 nh1 I1 p1
set_option maxRecDepth 100000 in
set_option maxHeartbeats 4000000 in
theorem w_X8_thinksPull_116 {I : Nat → Nat → Nat → Int32} {X : am_Z} {g : am_F} {gs : List am_F} {d : Nat} {Q : Option am_V → am_M → Prop} {b nt : Nat} {tx : Nat → Tx} {β : Bn} {a dp fo : Nat} {v x y z : Int32} (hC : CxM I b nt tx β) (hg : GB β) (hn : nt ≤ 14) (hG : ∀ t, t < nt → GT (tx t)) (hv : v = nI b) (hb : b < 8) (hx : x = nI a) (hy : y = nI dp) (hz : z = nI fo) (ha : a ≤ 6) (ha1 : 1 ≤ a) (hdp : 1 ≤ dp) (hdp6 : dp ≤ 6) (hfo : fo ≤ 999) {e hd t k : Nat} (he : e ≤ 6) (hek : 6 - a < e) (hhd : hd ≤ 168) (hk : k ≤ 6) (hk2 : 6 - a ≤ k) (k0 : (6 ≤ k) → am_WP (am_psh g none :: gs) (d + 4) (mk (up3 (up3 I 8 0 (12) (x)) 8 0 (13) (0)) X) Q) (k1 : (¬ (6 ≤ k)) → ∀ (I1 : Im), (FrV I I1) → ((strN nt tx β k) < (gfN β (k + 1))) → am_WP (am_psh g none :: gs) (d + 4) (mk (up3 (up3 I1 8 0 (12) ((nI ((k + 1) - (6 - a))))) 8 0 (13) (2)) X) Q) (k2 : (¬ (6 ≤ k)) → ∀ (I1 : Im), (FrV I I1) → (¬ ((strN nt tx β k) < (gfN β (k + 1)))) → am_WP ((mX8_thinksPull, 116, [some (.inr (.inr (some (8, 0)))), some (.inl (v)), some (.inl (x)), some (.inl (y)), some (.inl (z)), some (.inl (nI (6 - a))), some (.inl (nI e)), some (.inl (nI hd)), some (.inl (nI t)), some (.inl ((nI (k + 1))))], []) :: g :: gs) (d + 3) (mk I1 X) Q) : am_WP ((mX8_thinksPull, 116, [some (.inr (.inr (some (8, 0)))), some (.inl (v)), some (.inl (x)), some (.inl (y)), some (.inl (z)), some (.inl (nI (6 - a))), some (.inl (nI e)), some (.inl (nI hd)), some (.inl (nI t)), some (.inl (nI k))], []) :: g :: gs) (d + 3) (mk I X) Q := by
  refine am_go 400 ?_
  refine am_if (fun h1 => ?_) (fun h1 => ?_)
  · have nh1 := (le_nat (a := 6) (b := k) (rfl : (6 : Int32) = nI 6) (rfl : (nI k : Int32) = nI k) (by omega) (by omega)).mp h1
    refine am_t ((le_nat (a := 6) (b := k) (rfl : (6 : Int32) = nI 6) (rfl : (nI k : Int32) = nI k) (by omega) (by omega)).mpr nh1) ?_
    refine am_t ((le_nat (a := 6) (b := k) (rfl : (6 : Int32) = nI 6) (rfl : (nI k : Int32) = nI k) (by omega) (by omega)).mpr nh1) ?_
    exact k0 nh1
  · have nh1 := mt (le_nat (a := 6) (b := k) (rfl : (6 : Int32) = nI 6) (rfl : (nI k : Int32) = nI k) (by omega) (by omega)).mpr h1
    have bd : (strN nt tx β k) ≤ 105 := strN_le hg (by omega)
    refine (c_X8_strong (I := I) (b := b) (l := k) hC.1 hg hC.2.1 hn hC.2.2 hG hv (by omega) (rfl : (nI k : Int32) = nI k) (by omega)) _ _ _ ?_
    intro I1 p1
    refine am_go 400 ?_
    have bd : (gfN β (k + 1)) ≤ 168 := gfN_le hg _
    have tk0 : (gfS (mB (I1 30 0) b) (k + 1)) = nI (gfN β (k + 1)) := gfS_N (CxM_g hC (p1 30 (by decide) (by decide))).1 hg _
    refine (cE_X8_gripsFrom (k := b) (l := (k + 1)) hv (nI_addE rfl (rfl : (1 : Int32) = nI 1)) (by omega) (by omega)) _ _ _ ?_
    refine am_go 400 ?_
    refine am_if (fun h2 => ?_) (fun h2 => ?_)
    · have nh2 := (lt_nat (a := (strN nt tx β k)) (b := (gfN β (k + 1))) (rfl : (nI (strN nt tx β k) : Int32) = nI (strN nt tx β k)) tk0 (by omega) (by omega)).mp h2
      refine am_f (mt (le_nat (a := 6) (b := k) (rfl : (6 : Int32) = nI 6) (rfl : (nI k : Int32) = nI k) (by omega) (by omega)).mp nh1) ?_
      have tk1 : ((nI k + 1) - nI (6 - a)) = nI ((k + 1) - (6 - a)) := (nI_subE (nI_addE rfl (rfl : (1 : Int32) = nI 1)) rfl (by omega))
      refine am_f (mt (le_nat (a := 6) (b := k) (rfl : (6 : Int32) = nI 6) (rfl : (nI k : Int32) = nI k) (by omega) (by omega)).mp nh1) ?_
      show am_WP (am_psh g none :: gs) (d + 4) (mk (up3 (up3 I1 8 0 (12) ((((nI k + 1) - nI (6 - a))))) 8 0 (13) (2)) X) Q
      try rw [tk1]
      exact k1 nh1 I1 p1 nh2
    · have nh2 := mt (lt_nat (a := (strN nt tx β k)) (b := (gfN β (k + 1))) (rfl : (nI (strN nt tx β k) : Int32) = nI (strN nt tx β k)) tk0 (by omega) (by omega)).mpr h2
      have tk2 : (nI k + 1) = nI (k + 1) := (nI_addE rfl (rfl : (1 : Int32) = nI 1))
      show am_WP ((mX8_thinksPull, 116, [some (.inr (.inr (some (8, 0)))), some (.inl (v)), some (.inl (x)), some (.inl (y)), some (.inl (z)), some (.inl (nI (6 - a))), some (.inl (nI e)), some (.inl (nI hd)), some (.inl (nI t)), some (.inl (((nI k + 1))))], []) :: g :: gs) (d + 3) (mk I1 X) Q
      try rw [tk2]
      exact k2 nh1 I1 p1 nh2
theorem l_pull_116 {I0 : Im} {X g gs d Q} {b nt : Nat} {tx : Nat → Tx} {β : Bn} {a dp fo : Nat} {v x y z : Int32} (hC : CxM I0 b nt tx β) (hg : GB β) (hn : nt ≤ 14) (hG : ∀ t, t < nt → GT (tx t)) (hv : v = nI b) (hb : b < 8) (hx : x = nI a) (hy : y = nI dp) (hz : z = nI fo) (ha : a ≤ 6) (ha1 : 1 ≤ a) (hdp : 1 ≤ dp) (hdp6 : dp ≤ 6) (hfo : fo ≤ 999) {e hd t : Nat} (he : e ≤ 6) (hek : 6 - a < e) (hhd : hd ≤ 168) : ∀ (n k : Nat) (I : Im), k + n = 6 → 6 - a ≤ k → Tg I0 I →
    (∀ I', Ts I0 (brkN (strN nt tx β) (gfN β) (6 - a) a n k) I' → am_WP (am_psh g none :: gs) (d + 4) (mk I' X) Q) →
    am_WP ((mX8_thinksPull, 116, [some (.inr (.inr (some (8, 0)))), some (.inl v), some (.inl x), some (.inl y), some (.inl z), some (.inl (nI (6 - a))), some (.inl (nI e)), some (.inl (nI hd)), some (.inl (nI t)), some (.inl (nI k))], []) :: g :: gs) (d + 3) (mk I X) Q
  | 0, k, I, hk, hk2, T, K => w_X8_thinksPull_116 (CxM_T hC T) hg hn hG hv hb hx hy hz ha ha1 hdp hdp6 hfo he hek hhd (by omega) hk2 (fun _ => K _ ⟨Tg_3 (Tg_3 T (by decide)) (by decide), by rw [up3_j (by decide), up3_s]; exact hx, up3_s⟩) (fun h => absurd (by omega) h) (fun h => absurd (by omega) h)
  | n + 1, k, I, hk, hk2, T, K => by
    refine w_X8_thinksPull_116 (CxM_T hC T) hg hn hG hv hb hx hy hz ha ha1 hdp hdp6 hfo he hek hhd (by omega) hk2 (fun h => absurd h (by omega)) ?_ ?_
    · intro _ I1 p1 h1
      rw [brkN, if_pos (by omega)] at K
      exact K _ ⟨Tg_3 (Tg_3 (Tg_V T p1) (by decide)) (by decide), by rw [up3_j (by decide), up3_s], up3_s⟩
    · intro _ I1 p1 h1
      rw [brkN, if_neg (by omega)] at K
      exact l_pull_116 hC hg hn hG hv hb hx hy hz ha ha1 hdp hdp6 hfo he hek hhd n (k + 1) I1 (by omega) (by omega) (Tg_V T p1) K
theorem l_pull_56 {I0 : Im} {X g gs d Q} {b nt : Nat} {tx : Nat → Tx} {β : Bn} {a dp fo : Nat} {v x y z : Int32} (hC : CxM I0 b nt tx β) (hg : GB β) (hn : nt ≤ 14) (hG : ∀ t, t < nt → GT (tx t)) (hv : v = nI b) (hb : b < 8) (hx : x = nI a) (hy : y = nI dp) (hz : z = nI fo) (ha : a ≤ 6) (ha1 : 1 ≤ a) (hdp : 1 ≤ dp) (hdp6 : dp ≤ 6) (hfo : fo ≤ 999) {e hd : Nat} (he : e ≤ 6) (hek : 6 - a < e) (hhd : hd ≤ 168) : ∀ (n k t : Nat) (I : Im), k + n = e → 6 - a ≤ k → t ≤ 105 * k → Tg I0 I →
    (∀ I', Ts I0 (thE (strN nt tx β) (gfN β) a e hd (t + sumN (strN nt tx β) k n)) I' → am_WP (am_psh g none :: gs) (d + 4) (mk I' X) Q) →
    am_WP ((mX8_thinksPull, 56, [some (.inr (.inr (some (8, 0)))), some (.inl v), some (.inl x), some (.inl y), some (.inl z), some (.inl (nI (6 - a))), some (.inl (nI e)), some (.inl (nI hd)), some (.inl (nI t)), some (.inl (nI k))], []) :: g :: gs) (d + 3) (mk I X) Q
  | 0, k, t, I, hk, hk2, ht, T, K => by
    have e0 : t + sumN (strN nt tx β) k 0 = t := rfl
    rw [e0] at K
    refine w_X8_thinksPull_56 (CxM_T hC T) hg hn hG hv hb hx hy hz ha ha1 hdp hdp6 hfo he hek hhd (by omega) hk2 ht ?_ ?_ (fun h => absurd (by omega) h)
    · intro _ h1
      have e1 : thE (strN nt tx β) (gfN β) a e hd t = brkN (strN nt tx β) (gfN β) (6 - a) a (7 - e) (e - 1) := by unfold thE; rw [if_neg (by omega)]
      rw [e1] at K
      exact l_pull_116 hC hg hn hG hv hb hx hy hz ha ha1 hdp hdp6 hfo he hek hhd (7 - e) (e - 1) _ (by omega) (by omega) T K
    · intro _ h1
      have e1 : thE (strN nt tx β) (gfN β) a e hd t = (e - (6 - a), 3 * (e - (6 - a))) := by unfold thE; rw [if_pos (by omega)]
      rw [e1] at K
      exact K _ ⟨Tg_3 (Tg_3 T (by decide)) (by decide), by rw [up3_j (by decide), up3_s], up3_s⟩
  | n + 1, k, t, I, hk, hk2, ht, T, K => w_X8_thinksPull_56 (CxM_T hC T) hg hn hG hv hb hx hy hz ha ha1 hdp hdp6 hfo he hek hhd (by omega) hk2 ht (fun h => absurd h (by omega)) (fun h => absurd h (by omega)) (fun _ I1 p1 => by
      have := strN_le (nt := nt) (tx := tx) hg (show k < 6 by omega)
      refine l_pull_56 hC hg hn hG hv hb hx hy hz ha ha1 hdp hdp6 hfo he hek hhd n (k + 1) (t + strN nt tx β k) I1 (by omega) (by omega) (by omega) (Tg_V T p1) ?_
      rw [show t + strN nt tx β k + sumN (strN nt tx β) (k + 1) n = t + sumN (strN nt tx β) k (n + 1) by show _ = t + (strN nt tx β k + sumN (strN nt tx β) (k + 1) n); omega]
      exact K)
theorem c_X8_thinksPull {I X d} {b nt : Nat} {tx : Nat → Tx} {β : Bn} {a dp fo : Nat} {v x y z : Int32} (hC : CxM I b nt tx β) (hg : GB β) (hn : nt ≤ 14) (hG : ∀ t, t < nt → GT (tx t)) (hv : v = nI b) (hb : b < 8) (hx : x = nI a) (hy : y = nI dp) (hz : z = nI fo) (ha : a ≤ 6) (ha1 : 1 ≤ a) (hdp : 1 ≤ dp) (hdp6 : dp ≤ 6) (hfo : fo ≤ 999) : Sw mX8_thinksPull [.inr (.inr (some (8, 0))), .inl v, .inl x, .inl y, .inl z] (d + 3) I X none (Ts I (thinkN (strN nt tx β) (gfN β) a dp fo)) := fun g gs Q K => by
  refine w_X8_thinksPull hC hg hn hG hv hb hx hy hz ha ha1 hdp hdp6 hfo ?_ ?_ ?_ ?_
  · intro h0 h1
    rw [thinkN, if_neg (by omega)] at K
    refine l_pull_56 (I0 := I) hC hg hn hG hv hb hx hy hz ha ha1 hdp hdp6 hfo (e := 6) (hd := gfN β (6 - a)) (by omega) (by omega) (gfN_le hg _) (min dp a) (6 - a) 0 _ (by omega) (Nat.le_refl _) (by omega) (Tg_3 (Tg_3 Tg_r (by decide)) (by decide)) ?_
    rw [Nat.zero_add]
    rw [show 6 - a + min dp a = 6 by omega] at K
    exact K
  · intro h0 h1
    rw [thinkN, if_pos (by omega)] at K
    exact K _ ⟨Tg_3 (Tg_3 Tg_r (by decide)) (by decide), by rw [up3_j (by decide), up3_s]; rfl, up3_s⟩
  · intro h0 h1
    rw [thinkN, if_neg (by omega)] at K
    refine l_pull_56 (I0 := I) hC hg hn hG hv hb hx hy hz ha ha1 hdp hdp6 hfo (e := (6 - a + dp)) (hd := gfN β (6 - a)) (by omega) (by omega) (gfN_le hg _) (min dp a) (6 - a) 0 _ (by omega) (Nat.le_refl _) (by omega) (Tg_3 (Tg_3 Tg_r (by decide)) (by decide)) ?_
    rw [Nat.zero_add]
    rw [show 6 - a + min dp a = (6 - a + dp) by omega] at K
    exact K
  · intro h0 h1
    rw [thinkN, if_pos (by omega)] at K
    exact K _ ⟨Tg_3 (Tg_3 Tg_r (by decide)) (by decide), by rw [up3_j (by decide), up3_s]; rfl, up3_s⟩
