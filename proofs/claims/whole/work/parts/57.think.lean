/-! A PULL -/
def brkN (st gf : Nat → Nat) (first left : Nat) : Nat → Nat → Nat × Nat
  | 0, _ => (left, 0)
  | n + 1, k => if st k < gf (k + 1) then (k + 1 - first, 2) else brkN st gf first left n (k + 1)
def thE (st gf : Nat → Nat) (left e held t : Nat) : Nat × Nat := if t < held / 2 then (e - (6 - left), 3 * (e - (6 - left))) else brkN st gf (6 - left) left (7 - e) (e - 1)
def thinkN (st gf : Nat → Nat) (left depth force : Nat) : Nat × Nat := if force < gf (6 - left) then (0, 0) else thE st gf left (6 - left + min depth left) (gf (6 - left)) (sumN st (6 - left) (min depth left))
def Tf (I0 I : Im) : Prop := (∀ j, j ≠ 5 → j ≠ 6 → I 2 0 j = I0 2 0 j) ∧ ∀ g, g ≠ 2 → I g = I0 g
def Tr (I0 : Im) (r : Nat × Nat) (I : Im) : Prop := Tf I0 I ∧ I 2 0 5 = nI r.1 ∧ I 2 0 6 = nI r.2
theorem Tf_3 {I0 I j v} (h : Tf I0 I) (hj : j = 5 ∨ j = 6) : Tf I0 (up3 I 2 0 j v) := ⟨fun i a b => by rw [up3_j (by omega)]; exact h.1 i a b, fun g hg => by rw [up3_g hg]; exact h.2 g hg⟩
theorem Tf_r {I} : Tf I I := ⟨fun _ _ _ => rfl, fun _ _ => rfl⟩
theorem NkR_T {I0 I st gf L} (h : NkR I0 st gf L) (T : Tf I0 I) : NkR I st gf L := ⟨(T.1 4 (by decide) (by decide)).trans h.1, by rw [T.2 19 (by decide)]; exact h.2.1, by rw [T.2 20 (by decide)]; exact h.2.2⟩
set_option maxRecDepth 100000 in
set_option maxHeartbeats 4000000 in
theorem w_X2_think {I : Nat → Nat → Nat → Int32} {X : am_Z} {g : am_F} {gs : List am_F} {d : Nat} {Q : Option am_V → am_M → Prop} {st gf : Nat → Nat} {L a dp fo : Nat} {x y z : Int32} (hN : NkR I st gf L) (hst : ∀ l, l < 6 → st l ≤ 105) (hgf : ∀ l, gf l ≤ 168) (hx : x = nI a) (hy : y = nI dp) (hz : z = nI fo) (hL : L ≤ 6) (ha : a ≤ L) (ha1 : 1 ≤ a) (hdp : 1 ≤ dp) (hdp6 : dp ≤ 6) (hfo : fo ≤ 999)  (k0 : ((gf (6 - a)) ≤ fo) → am_WP ((mX2_think, 49, [some (.inr (.inr (some (2, 0)))), some (.inl (x)), some (.inl (y)), some (.inl (z)), some (.inl ((nI (6 - a)))), some (.inl ((nI ((6 - a) + (min dp a))))), some (.inl ((nI (gf (6 - a))))), some (.inl (0)), some (.inl ((nI (6 - a))))], []) :: g :: gs) (d) (mk (up3 (up3 I 2 0 (5) (0)) 2 0 (6) (0)) X) Q) (k1 : (¬ ((gf (6 - a)) ≤ fo)) → am_WP (am_psh g none :: gs) (d + 1) (mk (up3 (up3 I 2 0 (5) (0)) 2 0 (6) (0)) X) Q) : am_WP (am_entry mX2_think [.inr (.inr (some (2, 0))), .inl (x), .inl (y), .inl (z)] :: g :: gs) (d) (mk I X) Q := by
  refine am_go 400 ?_
  have tk0 : (if x < y then x else y) = nI (min dp a) := minE hy hx (by omega) (by omega)
  refine am_f (ix_in (n := (6 - a)) (N := 7) (nI_subE (rfl : (6 : Int32) = nI 6) hx (by omega)) (by omega) (by decide)) ?_
  have tk1 : ((6 - x)).toNatClampNeg = (6 - a) := ix_cl (n := (6 - a)) (nI_subE (rfl : (6 : Int32) = nI 6) hx (by omega)) (by omega)
  have bd : (gf (6 - a)) ≤ 168 := hgf _
  have tk2 : I 20 0 ((((6 - x)).toNatClampNeg)) = nI (gf (6 - a)) := by first | exact hN.2.2 _ (by omega) (by omega) | (((try rw [tk1])); first | done | exact hN.2.2 _ (by omega) (by omega))
  refine am_if (fun h1 => ?_) (fun h1 => ?_)
  · have nh1 := (le_nat (a := (gf (6 - a))) (b := fo) tk2 hz (by omega) (by omega)).mp h1
    have tk3 : (6 - x) = nI (6 - a) := (nI_subE (rfl : (6 : Int32) = nI 6) hx (by omega))
    have tk4 : ((6 - x) + ((if x < y then x else y))) = nI ((6 - a) + (min dp a)) := by first | exact (nI_addE (nI_subE (rfl : (6 : Int32) = nI 6) hx (by omega)) tk0) | (((try rw [tk0])); first | done | exact (nI_addE (nI_subE (rfl : (6 : Int32) = nI 6) hx (by omega)) tk0))
    refine am_cf rfl ?_
    refine am_cut ?_
    refine am_go 4 ?_
    show am_WP ((mX2_think, 49, [some (.inr (.inr (some (2, 0)))), some (.inl (x)), some (.inl (y)), some (.inl (z)), some (.inl (((6 - x)))), some (.inl ((((6 - x) + ((if x < y then x else y)))))), some (.inl ((I 20 0 ((((6 - x)).toNatClampNeg))))), some (.inl (0)), some (.inl (((6 - x))))], []) :: g :: gs) (d) (mk (up3 (up3 I 2 0 (5) (0)) 2 0 (6) (0)) X) Q
    try rw [tk4]
    try rw [tk2]
    try rw [tk0]
    try rw [tk1]
    try rw [tk3]
    exact k0 nh1
  · have nh1 := mt (le_nat (a := (gf (6 - a))) (b := fo) tk2 hz (by omega) (by omega)).mpr h1
    exact k1 nh1
set_option maxRecDepth 100000 in
set_option maxHeartbeats 4000000 in
theorem w_X2_think_49 {I : Nat → Nat → Nat → Int32} {X : am_Z} {g : am_F} {gs : List am_F} {d : Nat} {Q : Option am_V → am_M → Prop} {st gf : Nat → Nat} {L a dp fo : Nat} {x y z : Int32} (hN : NkR I st gf L) (hst : ∀ l, l < 6 → st l ≤ 105) (hgf : ∀ l, gf l ≤ 168) (hx : x = nI a) (hy : y = nI dp) (hz : z = nI fo) (hL : L ≤ 6) (ha : a ≤ L) (ha1 : 1 ≤ a) (hdp : 1 ≤ dp) (hdp6 : dp ≤ 6) (hfo : fo ≤ 999) {e hd t k : Nat} (he : e ≤ 6) (hek : 6 - a < e) (hhd : hd ≤ 168) (hk : k ≤ e) (hk2 : 6 - a ≤ k) (ht : t ≤ 105 * k) (k0 : (e ≤ k) → ((hd / 2) ≤ t) → am_WP ((mX2_think, 114, [some (.inr (.inr (some (2, 0)))), some (.inl (x)), some (.inl (y)), some (.inl (z)), some (.inl (nI (6 - a))), some (.inl (nI e)), some (.inl (nI hd)), some (.inl (nI t)), some (.inl ((nI (e - 1))))], []) :: g :: gs) (d) (mk (up3 I 2 0 (5) (x)) X) Q) (k1 : (e ≤ k) → (¬ ((hd / 2) ≤ t)) → am_WP (am_psh g none :: gs) (d + 1) (mk (up3 (up3 I 2 0 (5) ((nI (e - (6 - a))))) 2 0 (6) ((nI (3 * (e - (6 - a)))))) X) Q) (k2 : (¬ (e ≤ k)) → am_WP ((mX2_think, 49, [some (.inr (.inr (some (2, 0)))), some (.inl (x)), some (.inl (y)), some (.inl (z)), some (.inl (nI (6 - a))), some (.inl (nI e)), some (.inl (nI hd)), some (.inl ((nI (t + (st k))))), some (.inl ((nI (k + 1))))], []) :: g :: gs) (d) (mk I X) Q) : am_WP ((mX2_think, 49, [some (.inr (.inr (some (2, 0)))), some (.inl (x)), some (.inl (y)), some (.inl (z)), some (.inl (nI (6 - a))), some (.inl (nI e)), some (.inl (nI hd)), some (.inl (nI t)), some (.inl (nI k))], []) :: g :: gs) (d) (mk I X) Q := by
  refine am_go 400 ?_
  refine am_if (fun h1 => ?_) (fun h1 => ?_)
  · have nh1 := (le_nat (a := e) (b := k) (rfl : (nI e : Int32) = nI e) (rfl : (nI k : Int32) = nI k) (by omega) (by omega)).mp h1
    have tk0 : (nI hd / 2) = nI (hd / 2) := divE (rfl : (nI hd : Int32) = nI hd) (rfl : (2 : Int32) = nI 2) (by omega) (by omega) (by omega)
    refine am_if (fun h2 => ?_) (fun h2 => ?_)
    · have nh2 := (le_nat (a := (hd / 2)) (b := t) tk0 (rfl : (nI t : Int32) = nI t) (by omega) (by omega)).mp h2
      have tk1 : (nI e - 1) = nI (e - 1) := (nI_subE rfl (rfl : (1 : Int32) = nI 1) (by omega))
      refine am_cf rfl ?_
      refine am_cut ?_
      refine am_go 7 ?_
      show am_WP ((mX2_think, 114, [some (.inr (.inr (some (2, 0)))), some (.inl (x)), some (.inl (y)), some (.inl (z)), some (.inl (nI (6 - a))), some (.inl (nI e)), some (.inl (nI hd)), some (.inl (nI t)), some (.inl (((nI e - 1))))], []) :: g :: gs) (d) (mk (up3 I 2 0 (5) (x)) X) Q
      try rw [tk1]
      exact k0 nh1 nh2
    · have nh2 := mt (le_nat (a := (hd / 2)) (b := t) tk0 (rfl : (nI t : Int32) = nI t) (by omega) (by omega)).mpr h2
      have tk2 : (nI e - nI (6 - a)) = nI (e - (6 - a)) := (nI_subE rfl rfl (by omega))
      have tk3 : (up3 I 2 0 (5) (((nI e - nI (6 - a))))) 2 0 5 = (nI (e - (6 - a))) := by first | exact up3_s | (((try rw [tk2])); first | done | exact up3_s)
      have tk4 : (3 * ((up3 I 2 0 (5) (((nI e - nI (6 - a))))) 2 0 5)) = nI (3 * (e - (6 - a))) := by first | exact (nI_mulE (rfl : (3 : Int32) = nI 3) tk3) | (((try rw [tk3]); (try rw [tk2])); first | done | exact (nI_mulE (rfl : (3 : Int32) = nI 3) tk3))
      show am_WP (am_psh g none :: gs) (d + 1) (mk (up3 (up3 I 2 0 (5) (((nI e - nI (6 - a))))) 2 0 (6) (((3 * ((up3 I 2 0 (5) (((nI e - nI (6 - a))))) 2 0 5))))) X) Q
      try rw [tk4]
      try rw [tk3]
      try rw [tk2]
      exact k1 nh1 nh2
  · have nh1 := mt (le_nat (a := e) (b := k) (rfl : (nI e : Int32) = nI e) (rfl : (nI k : Int32) = nI k) (by omega) (by omega)).mpr h1
    refine am_f (ix_in (n := k) (N := 6) (rfl : (nI k : Int32) = nI k) (by omega) (by decide)) ?_
    have tk5 : (nI k).toNatClampNeg = k := ix_cl (n := k) (rfl : (nI k : Int32) = nI k) (by omega)
    have bd : (st k) ≤ 105 := hst _ (by omega)
    have tk6 : I 19 0 (((nI k).toNatClampNeg)) = nI (st k) := by first | exact hN.2.1 _ (by omega) (by omega) | (((try rw [tk5])); first | done | exact hN.2.1 _ (by omega) (by omega))
    have tk7 : (nI t + (I 19 0 (((nI k).toNatClampNeg)))) = nI (t + (st k)) := by first | exact (nI_addE rfl tk6) | (((try rw [tk6]); (try rw [tk5])); first | done | exact (nI_addE rfl tk6))
    have tk8 : (nI k + 1) = nI (k + 1) := (nI_addE rfl (rfl : (1 : Int32) = nI 1))
    show am_WP ((mX2_think, 49, [some (.inr (.inr (some (2, 0)))), some (.inl (x)), some (.inl (y)), some (.inl (z)), some (.inl (nI (6 - a))), some (.inl (nI e)), some (.inl (nI hd)), some (.inl (((nI t + (I 19 0 (((nI k).toNatClampNeg))))))), some (.inl (((nI k + 1))))], []) :: g :: gs) (d) (mk I X) Q
    try rw [tk7]
    try rw [tk6]
    try rw [tk5]
    try rw [tk8]
    exact k2 nh1
set_option maxRecDepth 100000 in
set_option maxHeartbeats 4000000 in
theorem w_X2_think_114 {I : Nat → Nat → Nat → Int32} {X : am_Z} {g : am_F} {gs : List am_F} {d : Nat} {Q : Option am_V → am_M → Prop} {st gf : Nat → Nat} {L a dp fo : Nat} {x y z : Int32} (hN : NkR I st gf L) (hst : ∀ l, l < 6 → st l ≤ 105) (hgf : ∀ l, gf l ≤ 168) (hx : x = nI a) (hy : y = nI dp) (hz : z = nI fo) (hL : L ≤ 6) (ha : a ≤ L) (ha1 : 1 ≤ a) (hdp : 1 ≤ dp) (hdp6 : dp ≤ 6) (hfo : fo ≤ 999) {e hd t k : Nat} (he : e ≤ 6) (hek : 6 - a < e) (hhd : hd ≤ 168) (hk : k ≤ 6) (hk2 : 6 - a ≤ k) (k0 : (6 ≤ k) → am_WP (am_psh g none :: gs) (d + 1) (mk I X) Q) (k1 : (¬ (6 ≤ k)) → ((gf (k + 1)) ≤ (st k)) → am_WP ((mX2_think, 114, [some (.inr (.inr (some (2, 0)))), some (.inl (x)), some (.inl (y)), some (.inl (z)), some (.inl (nI (6 - a))), some (.inl (nI e)), some (.inl (nI hd)), some (.inl (nI t)), some (.inl ((nI (k + 1))))], []) :: g :: gs) (d) (mk I X) Q) (k2 : (¬ (6 ≤ k)) → (¬ ((gf (k + 1)) ≤ (st k))) → am_WP (am_psh g none :: gs) (d + 1) (mk (up3 (up3 I 2 0 (5) ((nI ((k + 1) - (6 - a))))) 2 0 (6) (2)) X) Q) : am_WP ((mX2_think, 114, [some (.inr (.inr (some (2, 0)))), some (.inl (x)), some (.inl (y)), some (.inl (z)), some (.inl (nI (6 - a))), some (.inl (nI e)), some (.inl (nI hd)), some (.inl (nI t)), some (.inl (nI k))], []) :: g :: gs) (d) (mk I X) Q := by
  refine am_go 400 ?_
  refine am_if (fun h1 => ?_) (fun h1 => ?_)
  · have nh1 := (le_nat (a := 6) (b := k) (rfl : (6 : Int32) = nI 6) (rfl : (nI k : Int32) = nI k) (by omega) (by omega)).mp h1
    exact k0 nh1
  · have nh1 := mt (le_nat (a := 6) (b := k) (rfl : (6 : Int32) = nI 6) (rfl : (nI k : Int32) = nI k) (by omega) (by omega)).mpr h1
    refine am_f (ix_in (n := k) (N := 6) (rfl : (nI k : Int32) = nI k) (by omega) (by decide)) ?_
    have tk0 : (nI k).toNatClampNeg = k := ix_cl (n := k) (rfl : (nI k : Int32) = nI k) (by omega)
    have bd : (st k) ≤ 105 := hst _ (by omega)
    have tk1 : I 19 0 (((nI k).toNatClampNeg)) = nI (st k) := by first | exact hN.2.1 _ (by omega) (by omega) | (((try rw [tk0])); first | done | exact hN.2.1 _ (by omega) (by omega))
    refine am_f (ix_in (n := (k + 1)) (N := 7) (nI_addE rfl (rfl : (1 : Int32) = nI 1)) (by omega) (by decide)) ?_
    have tk2 : ((nI k + 1)).toNatClampNeg = (k + 1) := ix_cl (n := (k + 1)) (nI_addE rfl (rfl : (1 : Int32) = nI 1)) (by omega)
    have bd : (gf (k + 1)) ≤ 168 := hgf _
    have tk3 : I 20 0 ((((nI k + 1)).toNatClampNeg)) = nI (gf (k + 1)) := by first | exact hN.2.2 _ (by omega) (by omega) | (((try rw [tk2])); first | done | exact hN.2.2 _ (by omega) (by omega))
    refine am_if (fun h2 => ?_) (fun h2 => ?_)
    · have nh2 := (le_nat (a := (gf (k + 1))) (b := (st k)) tk3 tk1 (by omega) (by omega)).mp h2
      have tk4 : (nI k + 1) = nI (k + 1) := (nI_addE rfl (rfl : (1 : Int32) = nI 1))
      show am_WP ((mX2_think, 114, [some (.inr (.inr (some (2, 0)))), some (.inl (x)), some (.inl (y)), some (.inl (z)), some (.inl (nI (6 - a))), some (.inl (nI e)), some (.inl (nI hd)), some (.inl (nI t)), some (.inl (((nI k + 1))))], []) :: g :: gs) (d) (mk I X) Q
      try rw [tk4]
      exact k1 nh1 nh2
    · have nh2 := mt (le_nat (a := (gf (k + 1))) (b := (st k)) tk3 tk1 (by omega) (by omega)).mpr h2
      have tk5 : ((nI k + 1) - nI (6 - a)) = nI ((k + 1) - (6 - a)) := (nI_subE (nI_addE rfl (rfl : (1 : Int32) = nI 1)) rfl (by omega))
      show am_WP (am_psh g none :: gs) (d + 1) (mk (up3 (up3 I 2 0 (5) ((((nI k + 1) - nI (6 - a))))) 2 0 (6) (2)) X) Q
      try rw [tk5]
      exact k2 nh1 nh2
theorem l_think_114 {I0 : Im} {X g gs d Q} {st gf : Nat → Nat} {L a dp fo : Nat} {x y z : Int32} (hN : NkR I0 st gf L) (hst : ∀ l, l < 6 → st l ≤ 105) (hgf : ∀ l, gf l ≤ 168) (hx : x = nI a) (hy : y = nI dp) (hz : z = nI fo) (hL : L ≤ 6) (ha : a ≤ L) (ha1 : 1 ≤ a) (hdp : 1 ≤ dp) (hdp6 : dp ≤ 6) (hfo : fo ≤ 999) {e hd t : Nat} (he : e ≤ 6) (hek : 6 - a < e) (hhd : hd ≤ 168) : ∀ (n k : Nat) (I : Im), k + n = 6 → 6 - a ≤ k → Tf I0 I → I 2 0 5 = nI a → I 2 0 6 = nI 0 →
    (∀ I', Tr I0 (brkN st gf (6 - a) a n k) I' → am_WP (am_psh g none :: gs) (d + 1) (mk I' X) Q) →
    am_WP ((mX2_think, 114, [some (.inr (.inr (some (2, 0)))), some (.inl x), some (.inl y), some (.inl z), some (.inl (nI (6 - a))), some (.inl (nI e)), some (.inl (nI hd)), some (.inl (nI t)), some (.inl (nI k))], []) :: g :: gs) d (mk I X) Q
  | 0, k, I, hk, hk2, T, h5, h6, K => w_X2_think_114 (NkR_T hN T) hst hgf hx hy hz hL ha ha1 hdp hdp6 hfo he hek hhd (by omega) hk2 (fun _ => K I ⟨T, h5, h6⟩) (fun h => absurd (by omega) h) (fun h => absurd (by omega) h)
  | n + 1, k, I, hk, hk2, T, h5, h6, K => by
    refine w_X2_think_114 (NkR_T hN T) hst hgf hx hy hz hL ha ha1 hdp hdp6 hfo he hek hhd (by omega) hk2 (fun h => absurd h (by omega)) ?_ ?_
    · intro _ h1
      rw [brkN, if_neg (by omega)] at K
      exact l_think_114 hN hst hgf hx hy hz hL ha ha1 hdp hdp6 hfo he hek hhd n (k + 1) I (by omega) (by omega) T h5 h6 K
    · intro _ h1
      rw [brkN, if_pos (by omega)] at K
      exact K _ ⟨Tf_3 (Tf_3 T (by decide)) (by decide), by rw [up3_j (by decide), up3_s], up3_s⟩
theorem l_think_49 {I0 : Im} {X g gs d Q} {st gf : Nat → Nat} {L a dp fo : Nat} {x y z : Int32} (hN : NkR I0 st gf L) (hst : ∀ l, l < 6 → st l ≤ 105) (hgf : ∀ l, gf l ≤ 168) (hx : x = nI a) (hy : y = nI dp) (hz : z = nI fo) (hL : L ≤ 6) (ha : a ≤ L) (ha1 : 1 ≤ a) (hdp : 1 ≤ dp) (hdp6 : dp ≤ 6) (hfo : fo ≤ 999) {e hd : Nat} (he : e ≤ 6) (hek : 6 - a < e) (hhd : hd ≤ 168) : ∀ (n k t : Nat) (I : Im), k + n = e → 6 - a ≤ k → t ≤ 105 * k → Tf I0 I → I 2 0 5 = nI 0 → I 2 0 6 = nI 0 →
    (∀ I', Tr I0 (thE st gf a e hd (t + sumN st k n)) I' → am_WP (am_psh g none :: gs) (d + 1) (mk I' X) Q) →
    am_WP ((mX2_think, 49, [some (.inr (.inr (some (2, 0)))), some (.inl x), some (.inl y), some (.inl z), some (.inl (nI (6 - a))), some (.inl (nI e)), some (.inl (nI hd)), some (.inl (nI t)), some (.inl (nI k))], []) :: g :: gs) d (mk I X) Q
  | 0, k, t, I, hk, hk2, ht, T, h5, h6, K => by
    have e0 : t + sumN st k 0 = t := rfl
    rw [e0] at K
    refine w_X2_think_49 (NkR_T hN T) hst hgf hx hy hz hL ha ha1 hdp hdp6 hfo he hek hhd (by omega) hk2 ht ?_ ?_ (fun h => absurd (by omega) h)
    · intro _ h1
      have e1 : thE st gf a e hd t = brkN st gf (6 - a) a (7 - e) (e - 1) := by unfold thE; rw [if_neg (by omega)]
      rw [e1] at K
      exact l_think_114 hN hst hgf hx hy hz hL ha ha1 hdp hdp6 hfo he hek hhd (7 - e) (e - 1) _ (by omega) (by omega) (Tf_3 T (by decide)) (up3_s.trans hx) (by rw [up3_j (by decide)]; exact h6) K
    · intro _ h1
      have e1 : thE st gf a e hd t = (e - (6 - a), 3 * (e - (6 - a))) := by unfold thE; rw [if_pos (by omega)]
      rw [e1] at K
      exact K _ ⟨Tf_3 (Tf_3 T (by decide)) (by decide), by rw [up3_j (by decide), up3_s], up3_s⟩
  | n + 1, k, t, I, hk, hk2, ht, T, h5, h6, K => w_X2_think_49 (NkR_T hN T) hst hgf hx hy hz hL ha ha1 hdp hdp6 hfo he hek hhd (by omega) hk2 ht (fun h => absurd h (by omega)) (fun h => absurd h (by omega)) (fun _ => by
      have := hst k (by omega)
      refine l_think_49 hN hst hgf hx hy hz hL ha ha1 hdp hdp6 hfo he hek hhd n (k + 1) (t + st k) I (by omega) (by omega) (by omega) T h5 h6 ?_
      rw [show t + st k + sumN st (k + 1) n = t + sumN st k (n + 1) by show _ = t + (st k + sumN st (k + 1) n); omega]
      exact K)
theorem c_X2_think {I X d} {st gf : Nat → Nat} {L a dp fo : Nat} {x y z : Int32} (hN : NkR I st gf L) (hst : ∀ l, l < 6 → st l ≤ 105) (hgf : ∀ l, gf l ≤ 168) (hx : x = nI a) (hy : y = nI dp) (hz : z = nI fo) (hL : L ≤ 6) (ha : a ≤ L) (ha1 : 1 ≤ a) (hdp : 1 ≤ dp) (hdp6 : dp ≤ 6) (hfo : fo ≤ 999) : Sw mX2_think [.inr (.inr (some (2, 0))), .inl x, .inl y, .inl z] d I X none (Tr I (thinkN st gf a dp fo)) := fun g gs Q K => by
  refine w_X2_think hN hst hgf hx hy hz hL ha ha1 hdp hdp6 hfo ?_ ?_
  · intro h1
    rw [thinkN, if_neg (by omega)] at K
    refine l_think_49 hN hst hgf hx hy hz hL ha ha1 hdp hdp6 hfo (e := 6 - a + min dp a) (hd := gf (6 - a)) (by omega) (by omega) (hgf _) (min dp a) (6 - a) 0 _ rfl (Nat.le_refl _) (by omega) (Tf_3 (Tf_3 Tf_r (by decide)) (by decide)) (by rw [up3_j (by decide), up3_s]; rfl) up3_s ?_
    rw [Nat.zero_add]
    exact K
  · intro h1
    rw [thinkN, if_pos (by omega)] at K
    exact K _ ⟨Tf_3 (Tf_3 Tf_r (by decide)) (by decide), by rw [up3_j (by decide), up3_s]; rfl, up3_s⟩
