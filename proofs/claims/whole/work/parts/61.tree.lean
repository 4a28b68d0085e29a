/-! THE TREE -/
abbrev bts (v a : Nat × Nat) : Prop := v.1 < a.1 ∨ (v.1 = a.1 ∧ v.2 < a.2)
def dcF (V : Nat → Nat × Nat) : Nat → Nat → Nat × Nat → Nat × Nat
  | 0, _, a => a
  | m + 1, d, a => if bts (V d) a then dcF V m (d + 1) (V d) else dcF V m (d + 1) a
def trV (st gf : Nat → Nat) (fo : Nat) (T : Nat → Nat × Nat) (n d : Nat) : Nat × Nat := ((thinkN st gf n d fo).2 + (T (n - (thinkN st gf n d fo).1)).1, 1 + (T (n - (thinkN st gf n d fo).1)).2)
def trD (st gf : Nat → Nat) (fo : Nat) (T : Nat → Nat × Nat) (n : Nat) : Nat × Nat := dcF (trV st gf fo T n) (n - 1) 2 (trV st gf fo T n 1)
def trT (st gf : Nat → Nat) (fo : Nat) : Nat → Nat → Nat × Nat
  | 0 => fun _ => (0, 0)
  | n + 1 => fu (trT st gf fo n) (n + 1) (trD st gf fo (trT st gf fo n) (n + 1))
theorem brkN_ge {st gf : Nat → Nat} {first left : Nat} (h1 : 1 ≤ left) : ∀ (n k : Nat), first ≤ k → 1 ≤ (brkN st gf first left n k).1 ∧ (brkN st gf first left n k).2 ≤ 3 * (brkN st gf first left n k).1
  | 0, k, _ => ⟨h1, Nat.zero_le _⟩
  | n + 1, k, h => by
    rw [brkN]
    split
    · exact ⟨by show 1 ≤ k + 1 - first; omega, by show 2 ≤ 3 * (k + 1 - first); omega⟩
    · exact brkN_ge h1 n (k + 1) (by omega)
theorem thinkN_ge {st gf : Nat → Nat} {left dp fo : Nat} (h : left ≤ 6) (h1 : 1 ≤ left) (hd : 1 ≤ dp) (hf : gf (6 - left) ≤ fo) : 1 ≤ (thinkN st gf left dp fo).1 ∧ (thinkN st gf left dp fo).2 ≤ 3 * (thinkN st gf left dp fo).1 := by
  unfold thinkN
  rw [if_neg (by omega)]
  unfold thE
  split
  · exact ⟨by show 1 ≤ 6 - left + min dp left - (6 - left); omega, by show 3 * (6 - left + min dp left - (6 - left)) ≤ 3 * (6 - left + min dp left - (6 - left)); omega⟩
  · exact brkN_ge h1 _ _ (by omega)
def TB (T : Nat → Nat × Nat) (n : Nat) : Prop := ∀ k, k ≤ n → (T k).1 ≤ 3 * k ∧ (T k).2 ≤ k
theorem trV_le {st gf : Nat → Nat} {fo n d : Nat} {T : Nat → Nat × Nat} (hT : ∀ k, k < n → (T k).1 ≤ 3 * k ∧ (T k).2 ≤ k) (hn : n ≤ 6) (h1 : 1 ≤ n) (hd : 1 ≤ d) (hf : gf (6 - n) ≤ fo) : (trV st gf fo T n d).1 ≤ 3 * n ∧ (trV st gf fo T n d).2 ≤ n := by
  have a := thinkN_ge (st := st) (gf := gf) hn h1 hd hf
  have b := (thinkN_le (st := st) (gf := gf) (fo := fo) hn h1 hd).1
  have c := hT (n - (thinkN st gf n d fo).1) (by omega)
  exact ⟨by show (thinkN st gf n d fo).2 + (T _).1 ≤ 3 * n; omega, by show 1 + (T _).2 ≤ n; omega⟩
theorem dcF_le {V : Nat → Nat × Nat} {x y : Nat} (hV : ∀ d, 1 ≤ d → (V d).1 ≤ x ∧ (V d).2 ≤ y) : ∀ (m d : Nat) (a : Nat × Nat), 1 ≤ d → a.1 ≤ x ∧ a.2 ≤ y → (dcF V m d a).1 ≤ x ∧ (dcF V m d a).2 ≤ y
  | 0, _, _, _, h => h
  | m + 1, d, a, hd, h => by
    rw [dcF]
    split
    · exact dcF_le hV m (d + 1) _ (by omega) (hV d hd)
    · exact dcF_le hV m (d + 1) _ (by omega) h
theorem trT_le {st gf : Nat → Nat} {fo : Nat} : ∀ (n : Nat), n ≤ 6 → (∀ k, 1 ≤ k → k ≤ n → gf (6 - k) ≤ fo) → ∀ k, k ≤ n → (trT st gf fo n k).1 ≤ 3 * k ∧ (trT st gf fo n k).2 ≤ k
  | 0, _, _, k, _ => ⟨Nat.zero_le _, Nat.zero_le _⟩
  | n + 1, hn, hf, k, hk => by
    have ih := trT_le (st := st) (gf := gf) (fo := fo) n (by omega) (fun k a b => hf k a (by omega))
    rw [trT]
    by_cases e : k = n + 1
    · subst e
      rw [fu_s]
      have hV : ∀ d, 1 ≤ d → (trV st gf fo (trT st gf fo n) (n + 1) d).1 ≤ 3 * (n + 1) ∧ (trV st gf fo (trT st gf fo n) (n + 1) d).2 ≤ n + 1 := fun d hd => trV_le (fun k hk => ih k (by omega)) hn (by omega) hd (hf (n + 1) (by omega) (Nat.le_refl _))
      exact dcF_le hV _ _ _ (by omega) (hV 1 (Nat.le_refl _))
    · rw [fu_n e]; exact ih k (by omega)
theorem nn9 {n : Nat} (h : n ≤ 1000) : ¬ nI n = -1000000005 := by
  intro z
  have a := congrArg Int32.toInt z
  rw [nI_toInt (by omega), show (-1000000005 : Int32).toInt = -1000000005 from rfl] at a
  omega
set_option maxRecDepth 100000 in
set_option maxHeartbeats 4000000 in
theorem w_few_N {I : Nat → Nat → Nat → Int32} {X : am_Z} {g : am_F} {gs : List am_F} {d : Nat} {Q : Option am_V → am_M → Prop} {t : Int32} (k0 : am_WP (am_psh g (some (.inl (0))) :: gs) (d + 1) (mk I X) Q) : am_WP (am_entry mX7_isFewer [.inl ((-1000000005)), .inl (t)] :: g :: gs) (d) (mk I X) Q := by
  refine am_go 400 ?_
  exact k0
set_option maxRecDepth 100000 in
set_option maxHeartbeats 4000000 in
theorem w_few_0 {I : Nat → Nat → Nat → Int32} {X : am_Z} {g : am_F} {gs : List am_F} {d : Nat} {Q : Option am_V → am_M → Prop} {v t : Int32} {n : Nat} (hv : v = nI n) (hn : n ≤ 1000) (ht : t = -1000000005) (k0 : am_WP (am_psh g (some (.inl (1))) :: gs) (d + 1) (mk I X) Q) : am_WP (am_entry mX7_isFewer [.inl (v), .inl (t)] :: g :: gs) (d) (mk I X) Q := by
  refine am_go 400 ?_
  refine am_f ((by rw [hv]; exact nn9 hn)) ?_
  refine am_t (ht) ?_
  exact k0
set_option maxRecDepth 100000 in
set_option maxHeartbeats 4000000 in
theorem w_few_1 {I : Nat → Nat → Nat → Int32} {X : am_Z} {g : am_F} {gs : List am_F} {d : Nat} {Q : Option am_V → am_M → Prop} {v t : Int32} {n m : Nat} (hv : v = nI n) (hn : n ≤ 1000) (ht : t = nI m) (hm : m ≤ 1000) (k0 : (m ≤ n) → am_WP (am_psh g (some (.inl (0))) :: gs) (d + 1) (mk I X) Q) (k1 : (¬ (m ≤ n)) → am_WP (am_psh g (some (.inl (1))) :: gs) (d + 1) (mk I X) Q) : am_WP (am_entry mX7_isFewer [.inl (v), .inl (t)] :: g :: gs) (d) (mk I X) Q := by
  refine am_go 400 ?_
  refine am_f ((by rw [hv]; exact nn9 hn)) ?_
  refine am_f ((by rw [ht]; exact nn9 hm)) ?_
  refine am_if (fun h1 => ?_) (fun h1 => ?_)
  · have nh1 := (le_nat (a := m) (b := n) ht hv (by omega) (by omega)).mp h1
    exact k0 nh1
  · have nh1 := mt (le_nat (a := m) (b := n) ht hv (by omega) (by omega)).mpr h1
    exact k1 nh1
theorem c_few_N {I X d} {v t : Int32} (hv : v = -1000000005) : Rt mX7_isFewer [.inl v, .inl t] d (mk I X) (some (.inl 0)) (mk I X) := fun g gs Q K => by subst hv; exact w_few_N K
theorem c_few_0 {I X d} {v t : Int32} {n : Nat} (hv : v = nI n) (hn : n ≤ 1000) (ht : t = -1000000005) : Rt mX7_isFewer [.inl v, .inl t] d (mk I X) (some (.inl 1)) (mk I X) := fun g gs Q K => w_few_0 hv hn ht K
theorem c_few_1 {I X d} {v t : Int32} {n m : Nat} (hv : v = nI n) (hn : n ≤ 1000) (ht : t = nI m) (hm : m ≤ 1000) : Rt mX7_isFewer [.inl v, .inl t] d (mk I X) (some (.inl (bI (n < m)))) (mk I X) := fun g gs Q K => w_few_1 hv hn ht hm (fun h => K_v (bI_f (by omega)) K) (fun h => K_v (bI_t (by omega)) K)
set_option maxRecDepth 100000 in
set_option maxHeartbeats 4000000 in
theorem w_X2_decide {I : Nat → Nat → Nat → Int32} {X : am_Z} {g : am_F} {gs : List am_F} {d : Nat} {Q : Option am_V → am_M → Prop} {n : Nat} {x z : Int32} (hx : x = nI n) (hn : n ≤ 6) (k0 : am_WP ((mX2_decide, 10, [some (.inr (.inr (some (2, 0)))), some (.inl (x)), some (.inl (z)), some (.inl (1)), none, none, none], []) :: g :: gs) (d + 1) (mk (up3 I 21 0 (n) ((-1000000005))) X) Q) : am_WP (am_entry mX2_decide [.inr (.inr (some (2, 0))), .inl (x), .inl (z)] :: g :: gs) (d + 1) (mk I X) Q := by
  refine am_go 400 ?_
  refine am_f (ix_in (n := n) (N := 7) hx (by omega) (by decide)) ?_
  have tk0 : (x).toNatClampNeg = n := ix_cl (n := n) hx (by omega)
  refine am_cut ?_
  refine am_go 2 ?_
  show am_WP ((mX2_decide, 10, [some (.inr (.inr (some (2, 0)))), some (.inl (x)), some (.inl (z)), some (.inl (1)), none, none, none], []) :: g :: gs) (d + 1) (mk (up3 I 21 0 (((x).toNatClampNeg)) ((-1000000005))) X) Q
  try rw [tk0]
  exact k0
set_option maxRecDepth 100000 in
set_option maxHeartbeats 4000000 in
theorem w_dec_1 {I : Nat → Nat → Nat → Int32} {X : am_Z} {g : am_F} {gs : List am_F} {d : Nat} {Q : Option am_V → am_M → Prop} {st gf : Nat → Nat} {T : Nat → Nat × Nat} {L n fo : Nat} {x z : Int32} (hN : NkR I st gf L) (hst : ∀ l, l < 6 → st l ≤ 105) (hgf : ∀ l, gf l ≤ 168) (hx : x = nI n) (hz : z = nI fo) (hL : L ≤ 6) (hn : n ≤ L) (hn1 : 1 ≤ n) (hfo : fo ≤ 999) (hgn : gf (6 - n) ≤ fo) (hT : ∀ k, k < n → I 21 0 k = nI (T k).1 ∧ I 22 0 k = nI (T k).2) (hB : ∀ k, k < n → (T k).1 ≤ 3 * k ∧ (T k).2 ≤ k) (h21 : I 21 0 n = -1000000005) (k0 : ∀ (I1 : Im), (Tr I (thinkN st gf n 1 fo) I1) → am_WP ((mX2_decide, 10, [some (.inr (.inr (some (2, 0)))), some (.inl (x)), some (.inl (z)), some (.inl (2)), some (.inl ((nI (n - ((thinkN st gf n 1 fo).1))))), some (.inl ((nI (((thinkN st gf n 1 fo).2) + ((T (n - ((thinkN st gf n 1 fo).1))).1))))), some (.inl ((nI (1 + ((T (n - ((thinkN st gf n 1 fo).1))).2)))))], []) :: g :: gs) (d + 1) (mk (up3 (up3 I1 21 0 (n) ((nI (((thinkN st gf n 1 fo).2) + ((T (n - ((thinkN st gf n 1 fo).1))).1))))) 22 0 (n) ((nI (1 + ((T (n - ((thinkN st gf n 1 fo).1))).2))))) X) Q) : am_WP ((mX2_decide, 10, [some (.inr (.inr (some (2, 0)))), some (.inl (x)), some (.inl (z)), some (.inl (1)), none, none, none], []) :: g :: gs) (d + 1) (mk I X) Q := by
  refine am_go 400 ?_
  refine am_f (mt (lt_nat (a := n) (b := 1) hx (rfl : (1 : Int32) = nI 1) (by omega) (by omega)).mp (by omega)) ?_
  refine (c_X2_think (I := I) (L := L) (a := n) (dp := 1) (fo := fo) hN hst hgf hx (rfl : (1 : Int32) = nI 1) hz (by omega) (by omega) (by omega) (by omega) (by omega) (by omega)) _ _ _ ?_
  intro I1 p1
  have ge := (thinkN_ge (st := st) (gf := gf) (left := n) (dp := 1) (fo := fo) (by omega) (by omega) (by omega) hgn).1
  refine am_go 400 ?_
  have bd : (thinkN st gf n 1 fo).1 ≤ n := (thinkN_le (st := st) (gf := gf) (left := n) (dp := 1) (fo := fo) (by omega) (by omega) (by omega)).1
  have tk0 : I1 2 0 5 = nI (thinkN st gf n 1 fo).1 := p1.2.1
  have bd : (thinkN st gf n 1 fo).2 ≤ 18 := (thinkN_le (st := st) (gf := gf) (left := n) (dp := 1) (fo := fo) (by omega) (by omega) (by omega)).2
  have tk1 : I1 2 0 6 = nI (thinkN st gf n 1 fo).2 := p1.2.2
  refine am_f (ix_in (n := (n - ((thinkN st gf n 1 fo).1))) (N := 7) (nI_subE hx tk0 (by omega)) (by omega) (by decide)) ?_
  have tk2 : ((x - (I1 2 0 5))).toNatClampNeg = (n - ((thinkN st gf n 1 fo).1)) := by first | exact ix_cl (n := (n - ((thinkN st gf n 1 fo).1))) (nI_subE hx tk0 (by omega)) (by omega) | (((try rw [tk0])); first | done | exact ix_cl (n := (n - ((thinkN st gf n 1 fo).1))) (nI_subE hx tk0 (by omega)) (by omega))
  have bd : (T (n - ((thinkN st gf n 1 fo).1))).1 ≤ 18 := (by have := hB (n - ((thinkN st gf n 1 fo).1)) (by omega); omega)
  have tk3 : I1 21 0 ((((x - (I1 2 0 5))).toNatClampNeg)) = nI (T (n - ((thinkN st gf n 1 fo).1))).1 := by first | exact ((congrFun (congrFun (p1.1.2 21 (by decide)) _) _).trans ((hT (n - ((thinkN st gf n 1 fo).1)) (by omega)).1)) | (((try rw [tk2]); (try rw [tk0])); first | done | exact ((congrFun (congrFun (p1.1.2 21 (by decide)) _) _).trans ((hT (n - ((thinkN st gf n 1 fo).1)) (by omega)).1)))
  refine am_f (ix_in (n := (n - ((thinkN st gf n 1 fo).1))) (N := 7) (nI_subE hx tk0 (by omega)) (by omega) (by decide)) ?_
  have bd : (T (n - ((thinkN st gf n 1 fo).1))).2 ≤ 18 := (by have := hB (n - ((thinkN st gf n 1 fo).1)) (by omega); omega)
  have tk4 : I1 22 0 ((((x - (I1 2 0 5))).toNatClampNeg)) = nI (T (n - ((thinkN st gf n 1 fo).1))).2 := by first | exact ((congrFun (congrFun (p1.1.2 22 (by decide)) _) _).trans ((hT (n - ((thinkN st gf n 1 fo).1)) (by omega)).2)) | (((try rw [tk2]); (try rw [tk0])); first | done | exact ((congrFun (congrFun (p1.1.2 22 (by decide)) _) _).trans ((hT (n - ((thinkN st gf n 1 fo).1)) (by omega)).2)))
  refine am_f (ix_in (n := n) (N := 7) hx (by omega) (by decide)) ?_
  have tk5 : (x).toNatClampNeg = n := ix_cl (n := n) hx (by omega)
  have tk6 : I1 21 0 (((x).toNatClampNeg)) = (-1000000005) := by first | exact ((congrFun (congrFun (p1.1.2 21 (by decide)) _) _).trans (h21)) | (((try rw [tk5])); first | done | exact ((congrFun (congrFun (p1.1.2 21 (by decide)) _) _).trans (h21)))
  refine (c_few_0 (n := (((thinkN st gf n 1 fo).2) + ((T (n - ((thinkN st gf n 1 fo).1))).1))) (nI_addE tk1 tk3) (by omega) (show (I1 21 0 (((x).toNatClampNeg))) = ((-1000000005)) by (try rw [tk6]); (try rw [tk5]); first | done | rfl)) _ _ _ ?_
  refine am_go 400 ?_
  refine am_f (ix_in (n := n) (N := 7) hx (by omega) (by decide)) ?_
  have tk7 : ((I1 2 0 6) + (I1 21 0 ((((x - (I1 2 0 5))).toNatClampNeg)))) = nI (((thinkN st gf n 1 fo).2) + ((T (n - ((thinkN st gf n 1 fo).1))).1)) := by first | exact (nI_addE tk1 tk3) | (((try rw [tk3]); (try rw [tk2]); (try rw [tk1]); (try rw [tk0])); first | done | exact (nI_addE tk1 tk3))
  refine am_f (ix_in (n := n) (N := 7) hx (by omega) (by decide)) ?_
  have tk8 : (1 + (I1 22 0 ((((x - (I1 2 0 5))).toNatClampNeg)))) = nI (1 + ((T (n - ((thinkN st gf n 1 fo).1))).2)) := by first | exact (nI_addE (rfl : (1 : Int32) = nI 1) tk4) | (((try rw [tk4]); (try rw [tk2]); (try rw [tk0])); first | done | exact (nI_addE (rfl : (1 : Int32) = nI 1) tk4))
  have tk9 : (x - (I1 2 0 5)) = nI (n - ((thinkN st gf n 1 fo).1)) := by first | exact (nI_subE hx tk0 (by omega)) | (((try rw [tk0])); first | done | exact (nI_subE hx tk0 (by omega)))
  show am_WP ((mX2_decide, 10, [some (.inr (.inr (some (2, 0)))), some (.inl (x)), some (.inl (z)), some (.inl (2)), some (.inl (((x - (I1 2 0 5))))), some (.inl ((((I1 2 0 6) + (I1 21 0 ((((x - (I1 2 0 5))).toNatClampNeg))))))), some (.inl (((1 + (I1 22 0 ((((x - (I1 2 0 5))).toNatClampNeg)))))))], []) :: g :: gs) (d + 1) (mk (up3 (up3 I1 21 0 (((x).toNatClampNeg)) ((((I1 2 0 6) + (I1 21 0 ((((x - (I1 2 0 5))).toNatClampNeg))))))) 22 0 (((x).toNatClampNeg)) (((1 + (I1 22 0 ((((x - (I1 2 0 5))).toNatClampNeg))))))) X) Q
  try rw [tk7]
  try rw [tk8]
  try rw [tk4]
  try rw [tk3]
  try rw [tk2]
  try rw [tk5]
  try rw [tk9]
  try rw [tk1]
  try rw [tk0]
  exact k0 I1 p1
set_option maxRecDepth 100000 in
set_option maxHeartbeats 4000000 in
theorem w_dec_n {I : Nat → Nat → Nat → Int32} {X : am_Z} {g : am_F} {gs : List am_F} {d : Nat} {Q : Option am_V → am_M → Prop} {st gf : Nat → Nat} {T : Nat → Nat × Nat} {L n fo : Nat} {x z : Int32} (hN : NkR I st gf L) (hst : ∀ l, l < 6 → st l ≤ 105) (hgf : ∀ l, gf l ≤ 168) (hx : x = nI n) (hz : z = nI fo) (hL : L ≤ 6) (hn : n ≤ L) (hn1 : 1 ≤ n) (hfo : fo ≤ 999) (hgn : gf (6 - n) ≤ fo) (hT : ∀ k, k < n → I 21 0 k = nI (T k).1 ∧ I 22 0 k = nI (T k).2) (hB : ∀ k, k < n → (T k).1 ≤ 3 * k ∧ (T k).2 ≤ k) {a b dd : Nat} (ha : a ≤ 18) (hb : b ≤ 6) (hd1 : 1 ≤ dd) (hd : dd ≤ n + 1) (h21 : I 21 0 n = nI a) (h22 : I 22 0 n = nI b) {y1 y2 y3 : Option am_V} (k0 : (n < dd) → am_WP (am_psh g none :: gs) (d + 2) (mk I X) Q) (k1 : (¬ (n < dd)) → ∀ (I1 : Im), (Tr I (thinkN st gf n dd fo) I1) → (¬ ((((thinkN st gf n dd fo).2) + ((T (n - ((thinkN st gf n dd fo).1))).1)) < a)) → ((((thinkN st gf n dd fo).2) + ((T (n - ((thinkN st gf n dd fo).1))).1)) = a) → (b ≤ (1 + ((T (n - ((thinkN st gf n dd fo).1))).2))) → am_WP ((mX2_decide, 10, [some (.inr (.inr (some (2, 0)))), some (.inl (x)), some (.inl (z)), some (.inl ((nI (dd + 1)))), some (.inl ((nI (n - ((thinkN st gf n dd fo).1))))), some (.inl ((nI (((thinkN st gf n dd fo).2) + ((T (n - ((thinkN st gf n dd fo).1))).1))))), some (.inl ((nI (1 + ((T (n - ((thinkN st gf n dd fo).1))).2)))))], []) :: g :: gs) (d + 1) (mk I1 X) Q) (k2 : (¬ (n < dd)) → ∀ (I1 : Im), (Tr I (thinkN st gf n dd fo) I1) → (¬ ((((thinkN st gf n dd fo).2) + ((T (n - ((thinkN st gf n dd fo).1))).1)) < a)) → ((((thinkN st gf n dd fo).2) + ((T (n - ((thinkN st gf n dd fo).1))).1)) = a) → (¬ (b ≤ (1 + ((T (n - ((thinkN st gf n dd fo).1))).2)))) → am_WP ((mX2_decide, 10, [some (.inr (.inr (some (2, 0)))), some (.inl (x)), some (.inl (z)), some (.inl ((nI (dd + 1)))), some (.inl ((nI (n - ((thinkN st gf n dd fo).1))))), some (.inl ((nI (((thinkN st gf n dd fo).2) + ((T (n - ((thinkN st gf n dd fo).1))).1))))), some (.inl ((nI (1 + ((T (n - ((thinkN st gf n dd fo).1))).2)))))], []) :: g :: gs) (d + 1) (mk (up3 (up3 I1 21 0 (n) ((nI (((thinkN st gf n dd fo).2) + ((T (n - ((thinkN st gf n dd fo).1))).1))))) 22 0 (n) ((nI (1 + ((T (n - ((thinkN st gf n dd fo).1))).2))))) X) Q) (k3 : (¬ (n < dd)) → ∀ (I1 : Im), (Tr I (thinkN st gf n dd fo) I1) → (¬ ((((thinkN st gf n dd fo).2) + ((T (n - ((thinkN st gf n dd fo).1))).1)) < a)) → (¬ ((((thinkN st gf n dd fo).2) + ((T (n - ((thinkN st gf n dd fo).1))).1)) = a)) → am_WP ((mX2_decide, 10, [some (.inr (.inr (some (2, 0)))), some (.inl (x)), some (.inl (z)), some (.inl ((nI (dd + 1)))), some (.inl ((nI (n - ((thinkN st gf n dd fo).1))))), some (.inl ((nI (((thinkN st gf n dd fo).2) + ((T (n - ((thinkN st gf n dd fo).1))).1))))), some (.inl ((nI (1 + ((T (n - ((thinkN st gf n dd fo).1))).2)))))], []) :: g :: gs) (d + 1) (mk I1 X) Q) (k4 : (¬ (n < dd)) → ∀ (I1 : Im), (Tr I (thinkN st gf n dd fo) I1) → ((((thinkN st gf n dd fo).2) + ((T (n - ((thinkN st gf n dd fo).1))).1)) < a) → am_WP ((mX2_decide, 10, [some (.inr (.inr (some (2, 0)))), some (.inl (x)), some (.inl (z)), some (.inl ((nI (dd + 1)))), some (.inl ((nI (n - ((thinkN st gf n dd fo).1))))), some (.inl ((nI (((thinkN st gf n dd fo).2) + ((T (n - ((thinkN st gf n dd fo).1))).1))))), some (.inl ((nI (1 + ((T (n - ((thinkN st gf n dd fo).1))).2)))))], []) :: g :: gs) (d + 1) (mk (up3 (up3 I1 21 0 (n) ((nI (((thinkN st gf n dd fo).2) + ((T (n - ((thinkN st gf n dd fo).1))).1))))) 22 0 (n) ((nI (1 + ((T (n - ((thinkN st gf n dd fo).1))).2))))) X) Q) : am_WP ((mX2_decide, 10, [some (.inr (.inr (some (2, 0)))), some (.inl (x)), some (.inl (z)), some (.inl (nI dd)), y1, y2, y3], []) :: g :: gs) (d + 1) (mk I X) Q := by
  refine am_go 400 ?_
  refine am_if (fun h1 => ?_) (fun h1 => ?_)
  · have nh1 := (lt_nat (a := n) (b := dd) hx (rfl : (nI dd : Int32) = nI dd) (by omega) (by omega)).mp h1
    exact k0 nh1
  · have nh1 := mt (lt_nat (a := n) (b := dd) hx (rfl : (nI dd : Int32) = nI dd) (by omega) (by omega)).mpr h1
    refine (c_X2_think (I := I) (L := L) (a := n) (dp := dd) (fo := fo) hN hst hgf hx (rfl : (nI dd : Int32) = nI dd) hz (by omega) (by omega) (by omega) (by omega) (by omega) (by omega)) _ _ _ ?_
    intro I1 p1
    have ge := (thinkN_ge (st := st) (gf := gf) (left := n) (dp := dd) (fo := fo) (by omega) (by omega) (by omega) hgn).1
    refine am_go 400 ?_
    have bd : (thinkN st gf n dd fo).1 ≤ n := (thinkN_le (st := st) (gf := gf) (left := n) (dp := dd) (fo := fo) (by omega) (by omega) (by omega)).1
    have tk0 : I1 2 0 5 = nI (thinkN st gf n dd fo).1 := p1.2.1
    have bd : (thinkN st gf n dd fo).2 ≤ 18 := (thinkN_le (st := st) (gf := gf) (left := n) (dp := dd) (fo := fo) (by omega) (by omega) (by omega)).2
    have tk1 : I1 2 0 6 = nI (thinkN st gf n dd fo).2 := p1.2.2
    refine am_f (ix_in (n := (n - ((thinkN st gf n dd fo).1))) (N := 7) (nI_subE hx tk0 (by omega)) (by omega) (by decide)) ?_
    have tk2 : ((x - (I1 2 0 5))).toNatClampNeg = (n - ((thinkN st gf n dd fo).1)) := by first | exact ix_cl (n := (n - ((thinkN st gf n dd fo).1))) (nI_subE hx tk0 (by omega)) (by omega) | (((try rw [tk0])); first | done | exact ix_cl (n := (n - ((thinkN st gf n dd fo).1))) (nI_subE hx tk0 (by omega)) (by omega))
    have bd : (T (n - ((thinkN st gf n dd fo).1))).1 ≤ 18 := (by have := hB (n - ((thinkN st gf n dd fo).1)) (by omega); omega)
    have tk3 : I1 21 0 ((((x - (I1 2 0 5))).toNatClampNeg)) = nI (T (n - ((thinkN st gf n dd fo).1))).1 := by first | exact ((congrFun (congrFun (p1.1.2 21 (by decide)) _) _).trans ((hT (n - ((thinkN st gf n dd fo).1)) (by omega)).1)) | (((try rw [tk2]); (try rw [tk0])); first | done | exact ((congrFun (congrFun (p1.1.2 21 (by decide)) _) _).trans ((hT (n - ((thinkN st gf n dd fo).1)) (by omega)).1)))
    refine am_f (ix_in (n := (n - ((thinkN st gf n dd fo).1))) (N := 7) (nI_subE hx tk0 (by omega)) (by omega) (by decide)) ?_
    have bd : (T (n - ((thinkN st gf n dd fo).1))).2 ≤ 18 := (by have := hB (n - ((thinkN st gf n dd fo).1)) (by omega); omega)
    have tk4 : I1 22 0 ((((x - (I1 2 0 5))).toNatClampNeg)) = nI (T (n - ((thinkN st gf n dd fo).1))).2 := by first | exact ((congrFun (congrFun (p1.1.2 22 (by decide)) _) _).trans ((hT (n - ((thinkN st gf n dd fo).1)) (by omega)).2)) | (((try rw [tk2]); (try rw [tk0])); first | done | exact ((congrFun (congrFun (p1.1.2 22 (by decide)) _) _).trans ((hT (n - ((thinkN st gf n dd fo).1)) (by omega)).2)))
    refine am_f (ix_in (n := n) (N := 7) hx (by omega) (by decide)) ?_
    have tk5 : (x).toNatClampNeg = n := ix_cl (n := n) hx (by omega)
    have tk6 : I1 21 0 (((x).toNatClampNeg)) = nI a := by first | exact ((congrFun (congrFun (p1.1.2 21 (by decide)) _) _).trans (h21)) | (((try rw [tk5])); first | done | exact ((congrFun (congrFun (p1.1.2 21 (by decide)) _) _).trans (h21)))
    refine (c_few_1 (n := (((thinkN st gf n dd fo).2) + ((T (n - ((thinkN st gf n dd fo).1))).1))) (m := a) (nI_addE tk1 tk3) (by omega) tk6 (by omega)) _ _ _ ?_
    refine am_go 400 ?_
    refine am_if (fun h2 => ?_) (fun h2 => ?_)
    · have h2 := bI_0.mp h2
      refine am_f (ix_in (n := n) (N := 7) hx (by omega) (by decide)) ?_
      refine am_if (fun h3 => ?_) (fun h3 => ?_)
      · have nh3 := (eq_nat (a := (((thinkN st gf n dd fo).2) + ((T (n - ((thinkN st gf n dd fo).1))).1))) (b := a) (nI_addE tk1 tk3) tk6 (by omega) (by omega)).mp h3
        refine am_f (ix_in (n := n) (N := 7) hx (by omega) (by decide)) ?_
        have tk7 : I1 22 0 (((x).toNatClampNeg)) = nI b := by first | exact ((congrFun (congrFun (p1.1.2 22 (by decide)) _) _).trans (h22)) | (((try rw [tk5])); first | done | exact ((congrFun (congrFun (p1.1.2 22 (by decide)) _) _).trans (h22)))
        refine am_if (fun h4 => ?_) (fun h4 => ?_)
        · have nh4 := (le_nat (a := b) (b := (1 + ((T (n - ((thinkN st gf n dd fo).1))).2))) tk7 (nI_addE (rfl : (1 : Int32) = nI 1) tk4) (by omega) (by omega)).mp h4
          have tk8 : (nI dd + 1) = nI (dd + 1) := (nI_addE rfl (rfl : (1 : Int32) = nI 1))
          have tk9 : (x - (I1 2 0 5)) = nI (n - ((thinkN st gf n dd fo).1)) := by first | exact (nI_subE hx tk0 (by omega)) | (((try rw [tk0])); first | done | exact (nI_subE hx tk0 (by omega)))
          have tk10 : ((I1 2 0 6) + (I1 21 0 ((((x - (I1 2 0 5))).toNatClampNeg)))) = nI (((thinkN st gf n dd fo).2) + ((T (n - ((thinkN st gf n dd fo).1))).1)) := by first | exact (nI_addE tk1 tk3) | (((try rw [tk3]); (try rw [tk2]); (try rw [tk1]); (try rw [tk0])); first | done | exact (nI_addE tk1 tk3))
          have tk11 : (1 + (I1 22 0 ((((x - (I1 2 0 5))).toNatClampNeg)))) = nI (1 + ((T (n - ((thinkN st gf n dd fo).1))).2)) := by first | exact (nI_addE (rfl : (1 : Int32) = nI 1) tk4) | (((try rw [tk4]); (try rw [tk2]); (try rw [tk0])); first | done | exact (nI_addE (rfl : (1 : Int32) = nI 1) tk4))
          show am_WP ((mX2_decide, 10, [some (.inr (.inr (some (2, 0)))), some (.inl (x)), some (.inl (z)), some (.inl (((nI dd + 1)))), some (.inl (((x - (I1 2 0 5))))), some (.inl ((((I1 2 0 6) + (I1 21 0 ((((x - (I1 2 0 5))).toNatClampNeg))))))), some (.inl (((1 + (I1 22 0 ((((x - (I1 2 0 5))).toNatClampNeg)))))))], []) :: g :: gs) (d + 1) (mk I1 X) Q
          try rw [tk10]
          try rw [tk11]
          try rw [tk4]
          try rw [tk3]
          try rw [tk2]
          try rw [tk9]
          try rw [tk8]
          try rw [tk1]
          try rw [tk0]
          exact k1 nh1 I1 p1 h2 nh3 nh4
        · have nh4 := mt (le_nat (a := b) (b := (1 + ((T (n - ((thinkN st gf n dd fo).1))).2))) tk7 (nI_addE (rfl : (1 : Int32) = nI 1) tk4) (by omega) (by omega)).mpr h4
          refine am_f (ix_in (n := n) (N := 7) hx (by omega) (by decide)) ?_
          have tk12 : ((I1 2 0 6) + (I1 21 0 ((((x - (I1 2 0 5))).toNatClampNeg)))) = nI (((thinkN st gf n dd fo).2) + ((T (n - ((thinkN st gf n dd fo).1))).1)) := by first | exact (nI_addE tk1 tk3) | (((try rw [tk3]); (try rw [tk2]); (try rw [tk1]); (try rw [tk0])); first | done | exact (nI_addE tk1 tk3))
          refine am_f (ix_in (n := n) (N := 7) hx (by omega) (by decide)) ?_
          have tk13 : (1 + (I1 22 0 ((((x - (I1 2 0 5))).toNatClampNeg)))) = nI (1 + ((T (n - ((thinkN st gf n dd fo).1))).2)) := by first | exact (nI_addE (rfl : (1 : Int32) = nI 1) tk4) | (((try rw [tk4]); (try rw [tk2]); (try rw [tk0])); first | done | exact (nI_addE (rfl : (1 : Int32) = nI 1) tk4))
          have tk14 : (nI dd + 1) = nI (dd + 1) := (nI_addE rfl (rfl : (1 : Int32) = nI 1))
          have tk15 : (x - (I1 2 0 5)) = nI (n - ((thinkN st gf n dd fo).1)) := by first | exact (nI_subE hx tk0 (by omega)) | (((try rw [tk0])); first | done | exact (nI_subE hx tk0 (by omega)))
          show am_WP ((mX2_decide, 10, [some (.inr (.inr (some (2, 0)))), some (.inl (x)), some (.inl (z)), some (.inl (((nI dd + 1)))), some (.inl (((x - (I1 2 0 5))))), some (.inl ((((I1 2 0 6) + (I1 21 0 ((((x - (I1 2 0 5))).toNatClampNeg))))))), some (.inl (((1 + (I1 22 0 ((((x - (I1 2 0 5))).toNatClampNeg)))))))], []) :: g :: gs) (d + 1) (mk (up3 (up3 I1 21 0 (((x).toNatClampNeg)) ((((I1 2 0 6) + (I1 21 0 ((((x - (I1 2 0 5))).toNatClampNeg))))))) 22 0 (((x).toNatClampNeg)) (((1 + (I1 22 0 ((((x - (I1 2 0 5))).toNatClampNeg))))))) X) Q
          try rw [tk12]
          try rw [tk13]
          try rw [tk4]
          try rw [tk3]
          try rw [tk2]
          try rw [tk5]
          try rw [tk15]
          try rw [tk14]
          try rw [tk1]
          try rw [tk0]
          exact k2 nh1 I1 p1 h2 nh3 nh4
      · have nh3 := mt (eq_nat (a := (((thinkN st gf n dd fo).2) + ((T (n - ((thinkN st gf n dd fo).1))).1))) (b := a) (nI_addE tk1 tk3) tk6 (by omega) (by omega)).mpr h3
        have tk16 : (nI dd + 1) = nI (dd + 1) := (nI_addE rfl (rfl : (1 : Int32) = nI 1))
        have tk17 : (x - (I1 2 0 5)) = nI (n - ((thinkN st gf n dd fo).1)) := by first | exact (nI_subE hx tk0 (by omega)) | (((try rw [tk0])); first | done | exact (nI_subE hx tk0 (by omega)))
        have tk18 : ((I1 2 0 6) + (I1 21 0 ((((x - (I1 2 0 5))).toNatClampNeg)))) = nI (((thinkN st gf n dd fo).2) + ((T (n - ((thinkN st gf n dd fo).1))).1)) := by first | exact (nI_addE tk1 tk3) | (((try rw [tk3]); (try rw [tk2]); (try rw [tk1]); (try rw [tk0])); first | done | exact (nI_addE tk1 tk3))
        have tk19 : (1 + (I1 22 0 ((((x - (I1 2 0 5))).toNatClampNeg)))) = nI (1 + ((T (n - ((thinkN st gf n dd fo).1))).2)) := by first | exact (nI_addE (rfl : (1 : Int32) = nI 1) tk4) | (((try rw [tk4]); (try rw [tk2]); (try rw [tk0])); first | done | exact (nI_addE (rfl : (1 : Int32) = nI 1) tk4))
        show am_WP ((mX2_decide, 10, [some (.inr (.inr (some (2, 0)))), some (.inl (x)), some (.inl (z)), some (.inl (((nI dd + 1)))), some (.inl (((x - (I1 2 0 5))))), some (.inl ((((I1 2 0 6) + (I1 21 0 ((((x - (I1 2 0 5))).toNatClampNeg))))))), some (.inl (((1 + (I1 22 0 ((((x - (I1 2 0 5))).toNatClampNeg)))))))], []) :: g :: gs) (d + 1) (mk I1 X) Q
        try rw [tk18]
        try rw [tk19]
        try rw [tk4]
        try rw [tk3]
        try rw [tk2]
        try rw [tk17]
        try rw [tk16]
        try rw [tk1]
        try rw [tk0]
        exact k3 nh1 I1 p1 h2 nh3
    · have h2 := bI_1.mp h2
      refine am_f (ix_in (n := n) (N := 7) hx (by omega) (by decide)) ?_
      have tk20 : ((I1 2 0 6) + (I1 21 0 ((((x - (I1 2 0 5))).toNatClampNeg)))) = nI (((thinkN st gf n dd fo).2) + ((T (n - ((thinkN st gf n dd fo).1))).1)) := by first | exact (nI_addE tk1 tk3) | (((try rw [tk3]); (try rw [tk2]); (try rw [tk1]); (try rw [tk0])); first | done | exact (nI_addE tk1 tk3))
      refine am_f (ix_in (n := n) (N := 7) hx (by omega) (by decide)) ?_
      have tk21 : (1 + (I1 22 0 ((((x - (I1 2 0 5))).toNatClampNeg)))) = nI (1 + ((T (n - ((thinkN st gf n dd fo).1))).2)) := by first | exact (nI_addE (rfl : (1 : Int32) = nI 1) tk4) | (((try rw [tk4]); (try rw [tk2]); (try rw [tk0])); first | done | exact (nI_addE (rfl : (1 : Int32) = nI 1) tk4))
      have tk22 : (nI dd + 1) = nI (dd + 1) := (nI_addE rfl (rfl : (1 : Int32) = nI 1))
      have tk23 : (x - (I1 2 0 5)) = nI (n - ((thinkN st gf n dd fo).1)) := by first | exact (nI_subE hx tk0 (by omega)) | (((try rw [tk0])); first | done | exact (nI_subE hx tk0 (by omega)))
      show am_WP ((mX2_decide, 10, [some (.inr (.inr (some (2, 0)))), some (.inl (x)), some (.inl (z)), some (.inl (((nI dd + 1)))), some (.inl (((x - (I1 2 0 5))))), some (.inl ((((I1 2 0 6) + (I1 21 0 ((((x - (I1 2 0 5))).toNatClampNeg))))))), some (.inl (((1 + (I1 22 0 ((((x - (I1 2 0 5))).toNatClampNeg)))))))], []) :: g :: gs) (d + 1) (mk (up3 (up3 I1 21 0 (((x).toNatClampNeg)) ((((I1 2 0 6) + (I1 21 0 ((((x - (I1 2 0 5))).toNatClampNeg))))))) 22 0 (((x).toNatClampNeg)) (((1 + (I1 22 0 ((((x - (I1 2 0 5))).toNatClampNeg))))))) X) Q
      try rw [tk20]
      try rw [tk21]
      try rw [tk4]
      try rw [tk3]
      try rw [tk2]
      try rw [tk5]
      try rw [tk23]
      try rw [tk22]
      try rw [tk1]
      try rw [tk0]
      exact k4 nh1 I1 p1 h2
