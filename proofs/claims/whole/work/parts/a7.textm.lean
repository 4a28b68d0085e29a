/-! the model's parse and text -/
def laN (nt : Nat) : Nat := if nt < 14 then 150 + 200 * nt + 4 else 2950
set_option maxRecDepth 100000 in
set_option maxHeartbeats 4000000 in
theorem w_prsM_e {I : Nat → Nat → Nat → Int32} {X : am_Z} {g : am_F} {gs : List am_F} {d : Nat} {Q : Option am_V → am_M → Prop} {nt : Nat} (hnt : nt ≤ 14) (hnt1 : I 30 0 1 = nI nt) (k0 : (14 ≤ nt) → am_WP ((mX8_parse, 63, [some (.inr (.inr (some (8, 0)))), none, none], []) :: g :: gs) (d + 9) (mk (up3 (up3 (up3 (up3 (up3 (up3 (up3 I 8 0 (20) (0)) 8 0 (21) (3)) 8 0 (24) (0)) 8 0 (25) (0)) 8 0 (26) (0)) 8 0 (28) (0)) 8 0 (27) (2950)) X) Q) (k1 : (¬ (14 ≤ nt)) → am_WP ((mX8_parse, 63, [some (.inr (.inr (some (8, 0)))), none, none], []) :: g :: gs) (d + 9) (mk (up3 (up3 (up3 (up3 (up3 (up3 (up3 I 8 0 (20) (0)) 8 0 (21) (3)) 8 0 (24) (0)) 8 0 (25) (0)) 8 0 (26) (0)) 8 0 (28) (0)) 8 0 (27) ((nI ((150 + 200 * nt) + 4)))) X) Q) : am_WP (am_entry mX8_parse [.inr (.inr (some (8, 0)))] :: g :: gs) (d + 9) (mk I X) Q := by
  refine am_go 400 ?_
  have tk0 : (up3 (up3 (up3 (up3 (up3 (up3 I 8 0 (20) (0)) 8 0 (21) (3)) 8 0 (24) (0)) 8 0 (25) (0)) 8 0 (26) (0)) 8 0 (28) (0)) 30 0 1 = nI nt := hnt1
  refine am_if (fun h1 => ?_) (fun h1 => ?_)
  · have nh1 := (le_nat (a := 14) (b := nt) (rfl : (14 : Int32) = nI 14) tk0 (by omega) (by omega)).mp h1
    refine am_cf rfl ?_
    refine am_cut ?_
    refine am_go 2 ?_
    exact k0 nh1
  · have nh1 := mt (le_nat (a := 14) (b := nt) (rfl : (14 : Int32) = nI 14) tk0 (by omega) (by omega)).mpr h1
    refine (c8_textAt (t := nt) tk0) _ _ _ ?_
    refine am_go 4 ?_
    have tk1 : (nI (150 + 200 * nt) + 4) = nI ((150 + 200 * nt) + 4) := (nI_addE rfl (rfl : (4 : Int32) = nI 4))
    show am_WP ((mX8_parse, 63, [some (.inr (.inr (some (8, 0)))), none, none], []) :: g :: gs) (d + 9) (mk (up3 (up3 (up3 (up3 (up3 (up3 (up3 I 8 0 (20) (0)) 8 0 (21) (3)) 8 0 (24) (0)) 8 0 (25) (0)) 8 0 (26) (0)) 8 0 (28) (0)) 8 0 (27) (((nI (150 + 200 * nt) + 4)))) X) Q
    try rw [tk1]
    exact k1 nh1
set_option maxRecDepth 100000 in
set_option maxHeartbeats 4000000 in
theorem w_prsM_k {I : Nat → Nat → Nat → Int32} {X : am_Z} {g : am_F} {gs : List am_F} {d : Nat} {Q : Option am_V → am_M → Prop} {t : Nat → Nat} {n : Nat} (hn : n ≤ 96) (ht : ∀ j, j < n → t j < 256) (h18 : I 8 0 18 = nI n) (hb : ∀ j, j < n → I 44 0 j = nI (t j)) (h20 : I 8 0 20 = nI 0) (h21 : I 8 0 21 = nI 3) (hW0 : Wt t n (nxT t n (3, 0, 0))) (hk : kyA t (nxT t n (3, 0, 0)) = 3) (k0 : ∀ (I1 : Im), (MdT I1 t n (nxT t n (3, 0, 0)) ∧ FrA8 I I1) → am_WP (am_psh g (some (.inl ((-1)))) :: gs) (d + 10) (mk (up3 I1 8 0 (18) (0)) X) Q) : am_WP ((mX8_parse, 63, [some (.inr (.inr (some (8, 0)))), none, none], []) :: g :: gs) (d + 9) (mk I X) Q := by
  refine am_go 400 ?_
  refine (c_X8_nextToken (I := I) (t := t) (n := n) (k := 3) (st := 0) (e := 0) hn h18 hb ht (by decide) (Nat.zero_le _) (fun z => by omega) h20 h21) _ _ _ ?_
  intro I1 p1
  refine am_go 400 ?_
  have tk0 : (if kyA t (nxT t n (3, 0, 0)) = 3 then -1 else nI (kyA t (nxT t n (3, 0, 0)))) = (-1) := if_pos hk
  refine (c_X8_key (tk := (nxT t n (3, 0, 0))) hn ht p1.1 hW0) _ _ _ ?_
  refine am_go 400 ?_
  refine am_t (by show ((if kyA t (nxT t n (3, 0, 0)) = 3 then -1 else nI (kyA t (nxT t n (3, 0, 0))))) < 0; (try rw [tk0]); first | done | exact (by decide)) ?_
  exact k0 I1 p1
set_option maxRecDepth 100000 in
set_option maxHeartbeats 4000000 in
theorem w_prsM_0 {I : Nat → Nat → Nat → Int32} {X : am_Z} {g : am_F} {gs : List am_F} {d : Nat} {Q : Option am_V → am_M → Prop} {t : Nat → Nat} {n : Nat} (hn : n ≤ 96) (ht : ∀ j, j < n → t j < 256) (h18 : I 8 0 18 = nI n) (hb : ∀ j, j < n → I 44 0 j = nI (t j)) (h20 : I 8 0 20 = nI 0) (h21 : I 8 0 21 = nI 3) (hW0 : Wt t n (nxT t n (3, 0, 0))) {la key : Nat} (hk : kyA t (nxT t n (3, 0, 0)) = key) (hk3 : key < 3) (kw1 : (nxT t n (3, 0, 0)).1 = 1) {q : Pa} (hq : Wt t n q.1) (hc : ∀ (I1 I2 : Im) (y : Int32), y = nI key → MdT I1 t n (nxT t n (3, 0, 0)) ∧ FrA8 I I1 → MdT I2 t n (nxT t n (nxT t n (3, 0, 0))) ∧ FrA8 I1 I2 → Sw mX8_either [.inr (.inr (some (8, 0))), .inl y] (d + 8) I2 X (some (.inl 0)) (PrM I2 t n la key 0 0 (false, q))) (k0 : ∀ (I1 : Im), (MdT I1 t n (nxT t n (3, 0, 0)) ∧ FrA8 I I1) → ∀ (I2 : Im), (MdT I2 t n (nxT t n ((nxT t n (3, 0, 0)).1, (nxT t n (3, 0, 0)).2.1, (nxT t n (3, 0, 0)).2.2)) ∧ FrA8 I1 I2) → ∀ (I3 : Im), (PrM I2 t n la key 0 0 (false, q) I3) → am_WP (am_psh g (some (.inl ((-1)))) :: gs) (d + 10) (mk (up3 I3 8 0 (18) (0)) X) Q) : am_WP ((mX8_parse, 63, [some (.inr (.inr (some (8, 0)))), none, none], []) :: g :: gs) (d + 9) (mk I X) Q := by
  have tle := tkM_le hq
  obtain ⟨w1, w2, w3, w4, w5, w6⟩ := id hW0
  refine am_go 400 ?_
  refine (c_X8_nextToken (I := I) (t := t) (n := n) (k := 3) (st := 0) (e := 0) hn h18 hb ht (by decide) (Nat.zero_le _) (fun z => by omega) h20 h21) _ _ _ ?_
  intro I1 p1
  refine am_go 400 ?_
  have tk0 : (if kyA t (nxT t n (3, 0, 0)) = 3 then -1 else nI (kyA t (nxT t n (3, 0, 0)))) = nI key := (by rw [hk, if_neg (by omega)])
  refine (c_X8_key (tk := (nxT t n (3, 0, 0))) hn ht p1.1 hW0) _ _ _ ?_
  refine am_go 400 ?_
  refine am_f (mt (lt_nat (a := key) (b := 0) tk0 (rfl : (0 : Int32) = nI 0) (by omega) (by omega)).mp (by omega)) ?_
  refine (c_X8_nextToken (I := I1) (t := t) (n := n) (k := (nxT t n (3, 0, 0)).1) (st := (nxT t n (3, 0, 0)).2.1) (e := (nxT t n (3, 0, 0)).2.2) hn (show MdT I1 t n (nxT t n (3, 0, 0)) from p1.1).1 (show MdT I1 t n (nxT t n (3, 0, 0)) from p1.1).2.1 ht hW0.2.2.1 hW0.2.1 (fun _ => by omega) (show MdT I1 t n (nxT t n (3, 0, 0)) from p1.1).2.2.2.1 ((show MdT I1 t n (nxT t n (3, 0, 0)) from p1.1).2.2.2.2.1.trans (congrArg nI ((tkM_1.mpr kw1).trans kw1.symm)))) _ _ _ ?_
  intro I2 p2
  refine am_go 400 ?_
  refine (hc I1 I2 _ tk0 p1 p2) _ _ _ ?_
  intro I3 p3
  refine am_go 400 ?_
  exact k0 I1 p1 I2 p2 I3 p3
set_option maxRecDepth 100000 in
set_option maxHeartbeats 4000000 in
theorem w_prsM_1 {I : Nat → Nat → Nat → Int32} {X : am_Z} {g : am_F} {gs : List am_F} {d : Nat} {Q : Option am_V → am_M → Prop} {t : Nat → Nat} {n : Nat} (hn : n ≤ 96) (ht : ∀ j, j < n → t j < 256) (h18 : I 8 0 18 = nI n) (hb : ∀ j, j < n → I 44 0 j = nI (t j)) (h20 : I 8 0 20 = nI 0) (h21 : I 8 0 21 = nI 3) (hW0 : Wt t n (nxT t n (3, 0, 0))) {la key : Nat} (hk : kyA t (nxT t n (3, 0, 0)) = key) (hk3 : key < 3) (kw1 : (nxT t n (3, 0, 0)).1 = 1) {q : Pa} (hq : Wt t n q.1) (hc : ∀ (I1 I2 : Im) (y : Int32), y = nI key → MdT I1 t n (nxT t n (3, 0, 0)) ∧ FrA8 I I1 → MdT I2 t n (nxT t n (nxT t n (3, 0, 0))) ∧ FrA8 I1 I2 → Sw mX8_either [.inr (.inr (some (8, 0))), .inl y] (d + 8) I2 X (some (.inl 1)) (PrM I2 t n la key 0 0 (true, q))) (k0 : ∀ (I1 : Im), (MdT I1 t n (nxT t n (3, 0, 0)) ∧ FrA8 I I1) → ∀ (I2 : Im), (MdT I2 t n (nxT t n ((nxT t n (3, 0, 0)).1, (nxT t n (3, 0, 0)).2.1, (nxT t n (3, 0, 0)).2.2)) ∧ FrA8 I1 I2) → ∀ (I3 : Im), (PrM I2 t n la key 0 0 (true, q) I3) → ((tkM q.1) = 0) → am_WP (am_psh g (some (.inl ((nI key)))) :: gs) (d + 10) (mk (up3 I3 8 0 (18) (0)) X) Q) (k1 : ∀ (I1 : Im), (MdT I1 t n (nxT t n (3, 0, 0)) ∧ FrA8 I I1) → ∀ (I2 : Im), (MdT I2 t n (nxT t n ((nxT t n (3, 0, 0)).1, (nxT t n (3, 0, 0)).2.1, (nxT t n (3, 0, 0)).2.2)) ∧ FrA8 I1 I2) → ∀ (I3 : Im), (PrM I2 t n la key 0 0 (true, q) I3) → (¬ ((tkM q.1) = 0)) → am_WP (am_psh g (some (.inl ((-1)))) :: gs) (d + 10) (mk (up3 I3 8 0 (18) (0)) X) Q) : am_WP ((mX8_parse, 63, [some (.inr (.inr (some (8, 0)))), none, none], []) :: g :: gs) (d + 9) (mk I X) Q := by
  have tle := tkM_le hq
  obtain ⟨w1, w2, w3, w4, w5, w6⟩ := id hW0
  refine am_go 400 ?_
  refine (c_X8_nextToken (I := I) (t := t) (n := n) (k := 3) (st := 0) (e := 0) hn h18 hb ht (by decide) (Nat.zero_le _) (fun z => by omega) h20 h21) _ _ _ ?_
  intro I1 p1
  refine am_go 400 ?_
  have tk0 : (if kyA t (nxT t n (3, 0, 0)) = 3 then -1 else nI (kyA t (nxT t n (3, 0, 0)))) = nI key := (by rw [hk, if_neg (by omega)])
  refine (c_X8_key (tk := (nxT t n (3, 0, 0))) hn ht p1.1 hW0) _ _ _ ?_
  refine am_go 400 ?_
  refine am_f (mt (lt_nat (a := key) (b := 0) tk0 (rfl : (0 : Int32) = nI 0) (by omega) (by omega)).mp (by omega)) ?_
  refine (c_X8_nextToken (I := I1) (t := t) (n := n) (k := (nxT t n (3, 0, 0)).1) (st := (nxT t n (3, 0, 0)).2.1) (e := (nxT t n (3, 0, 0)).2.2) hn (show MdT I1 t n (nxT t n (3, 0, 0)) from p1.1).1 (show MdT I1 t n (nxT t n (3, 0, 0)) from p1.1).2.1 ht hW0.2.2.1 hW0.2.1 (fun _ => by omega) (show MdT I1 t n (nxT t n (3, 0, 0)) from p1.1).2.2.2.1 ((show MdT I1 t n (nxT t n (3, 0, 0)) from p1.1).2.2.2.2.1.trans (congrArg nI ((tkM_1.mpr kw1).trans kw1.symm)))) _ _ _ ?_
  intro I2 p2
  refine am_go 400 ?_
  refine (hc I1 I2 _ tk0 p1 p2) _ _ _ ?_
  intro I3 p3
  refine am_go 400 ?_
  have tk1 : I3 8 0 21 = nI (tkM q.1) := (p3.2.2 rfl).1.2.2.2.2.1
  refine am_if (fun h1 => ?_) (fun h1 => ?_)
  · have nh1 := (eq_nat (a := (tkM q.1)) (b := 0) tk1 (rfl : (0 : Int32) = nI 0) (by omega) (by omega)).mp h1
    show am_WP (am_psh g (some (.inl (((if kyA t (nxT t n (3, 0, 0)) = 3 then -1 else nI (kyA t (nxT t n (3, 0, 0)))))))) :: gs) (d + 10) (mk (up3 I3 8 0 (18) (0)) X) Q
    try rw [tk0]
    exact k0 I1 p1 I2 p2 I3 p3 nh1
  · have nh1 := mt (eq_nat (a := (tkM q.1)) (b := 0) tk1 (rfl : (0 : Int32) = nI 0) (by omega) (by omega)).mpr h1
    exact k1 I1 p1 I2 p2 I3 p3 nh1
set_option maxRecDepth 100000 in
set_option maxHeartbeats 4000000 in
theorem w_textM_f {I : Nat → Nat → Nat → Int32} {X : am_Z} {g : am_F} {gs : List am_F} {d : Nat} {Q : Option am_V → am_M → Prop} {fa : Nat} {P : Im → Prop} (hp : Sw mX8_parse [.inr (.inr (some (8, 0)))] (d + 9) I X (some (.inl (-1))) P) (hf : ∀ I1, P I1 → I1 8 0 19 = nI fa) (k0 : ∀ (I1 : Im), (P I1) → am_WP (am_psh g (some (.inl (((-100) - (nI fa))))) :: gs) (d + 11) (mk I1 X) Q) : am_WP (am_entry mX8_text [.inr (.inr (some (8, 0)))] :: g :: gs) (d + 10) (mk I X) Q := by
  refine am_go 400 ?_
  refine (hp) _ _ _ ?_
  intro I1 p1
  refine am_go 400 ?_
  have tk0 : I1 8 0 19 = nI fa := hf I1 p1
  show am_WP (am_psh g (some (.inl (((-100) - (I1 8 0 19))))) :: gs) (d + 11) (mk I1 X) Q
  try rw [tk0]
  exact k0 I1 p1
set_option maxRecDepth 100000 in
set_option maxHeartbeats 4000000 in
theorem w_textM_t {I : Nat → Nat → Nat → Int32} {X : am_Z} {g : am_F} {gs : List am_F} {d : Nat} {Q : Option am_V → am_M → Prop} {nt key : Nat} (hnt : nt ≤ 14) (hkey : key < 3) {P : Im → Prop} (hp : Sw mX8_parse [.inr (.inr (some (8, 0)))] (d + 9) I X (some (.inl (nI key))) P) (hc1 : ∀ I1, P I1 → I1 30 0 1 = nI nt) (k0 : ∀ (I1 : Im), (P I1) → (nt = 14) → am_WP (am_psh g (some (.inl ((-1000000003)))) :: gs) (d + 11) (mk I1 X) Q) (k1 : ∀ (I1 : Im), (P I1) → (¬ (nt = 14)) → am_WP ((mX8_text, 42, [some (.inr (.inr (some (8, 0)))), some (.inl (nI key)), some (.inl (nI (150 + 200 * nt)))], []) :: g :: gs) (d + 10) (mk I1 X) Q) : am_WP (am_entry mX8_text [.inr (.inr (some (8, 0)))] :: g :: gs) (d + 10) (mk I X) Q := by
  refine am_go 400 ?_
  refine (hp) _ _ _ ?_
  intro I1 p1
  refine am_go 400 ?_
  refine am_t ((le_nat (a := 0) (b := key) (rfl : (0 : Int32) = nI 0) (rfl : (nI key : Int32) = nI key) (by omega) (by omega)).mpr (Nat.zero_le _)) ?_
  have tk0 : I1 30 0 1 = nI nt := hc1 I1 p1
  refine am_if (fun h1 => ?_) (fun h1 => ?_)
  · have nh1 := (eq_nat (a := nt) (b := 14) tk0 (rfl : (14 : Int32) = nI 14) (by omega) (by omega)).mp h1
    exact k0 I1 p1 nh1
  · have nh1 := mt (eq_nat (a := nt) (b := 14) tk0 (rfl : (14 : Int32) = nI 14) (by omega) (by omega)).mpr h1
    refine (c8_textAt (t := nt) tk0) _ _ _ ?_
    refine am_go 1 ?_
    exact k1 I1 p1 nh1
set_option maxRecDepth 100000 in
set_option maxHeartbeats 4000000 in
theorem w_textM_42 {I : Nat → Nat → Nat → Int32} {X : am_Z} {g : am_F} {gs : List am_F} {d : Nat} {Q : Option am_V → am_M → Prop} {key tt a : Nat} (htt : tt + 2 < 3150)  (k0 : am_WP ((mX8_text, 51, [some (.inr (.inr (some (8, 0)))), some (.inl (nI key)), some (.inl (nI tt))], []) :: g :: gs) (d + 10) (mk (up3 I 30 0 (((tt + 0))) (nI key)) X) Q) : am_WP ((mX8_text, 42, [some (.inr (.inr (some (8, 0)))), some (.inl (nI key)), some (.inl (nI tt))], []) :: g :: gs) (d + 10) (mk I X) Q := by
  refine am_go 400 ?_
  refine am_f (ix_in (n := (tt + 0)) (N := 3150) (nI_addE rfl (rfl : (0 : Int32) = nI 0)) (by omega) (by decide)) ?_
  have tk0 : ((nI tt + 0)).toNatClampNeg = (tt + 0) := ix_cl (n := (tt + 0)) (nI_addE rfl (rfl : (0 : Int32) = nI 0)) (by omega)
  refine am_cut ?_
  show am_WP ((mX8_text, 51, [some (.inr (.inr (some (8, 0)))), some (.inl (nI key)), some (.inl (nI tt))], []) :: g :: gs) (d + 10) (mk (up3 I 30 0 ((((nI tt + 0)).toNatClampNeg)) (nI key)) X) Q
  try rw [tk0]
  exact k0
set_option maxRecDepth 100000 in
set_option maxHeartbeats 4000000 in
theorem w_textM_51 {I : Nat → Nat → Nat → Int32} {X : am_Z} {g : am_F} {gs : List am_F} {d : Nat} {Q : Option am_V → am_M → Prop} {key tt a : Nat} (htt : tt + 2 < 3150) (hra : I 8 0 28 = nI a) (k0 : am_WP ((mX8_text, 63, [some (.inr (.inr (some (8, 0)))), some (.inl (nI key)), some (.inl (nI tt))], []) :: g :: gs) (d + 10) (mk (up3 I 30 0 (((tt + 1))) ((nI a))) X) Q) : am_WP ((mX8_text, 51, [some (.inr (.inr (some (8, 0)))), some (.inl (nI key)), some (.inl (nI tt))], []) :: g :: gs) (d + 10) (mk I X) Q := by
  refine am_go 400 ?_
  have tk0 : I 8 0 28 = nI a := hra
  refine am_f (ix_in (n := (tt + 1)) (N := 3150) (nI_addE rfl (rfl : (1 : Int32) = nI 1)) (by omega) (by decide)) ?_
  have tk1 : ((nI tt + 1)).toNatClampNeg = (tt + 1) := ix_cl (n := (tt + 1)) (nI_addE rfl (rfl : (1 : Int32) = nI 1)) (by omega)
  refine am_cut ?_
  show am_WP ((mX8_text, 63, [some (.inr (.inr (some (8, 0)))), some (.inl (nI key)), some (.inl (nI tt))], []) :: g :: gs) (d + 10) (mk (up3 I 30 0 ((((nI tt + 1)).toNatClampNeg)) ((I 8 0 28))) X) Q
  try rw [tk1]
  try rw [tk0]
  exact k0
set_option maxRecDepth 100000 in
set_option maxHeartbeats 4000000 in
theorem w_textM_63 {I : Nat → Nat → Nat → Int32} {X : am_Z} {g : am_F} {gs : List am_F} {d : Nat} {Q : Option am_V → am_M → Prop} {key tt a : Nat} (htt : tt + 2 < 3150) (hra : I 8 0 26 = nI a) (k0 : am_WP ((mX8_text, 75, [some (.inr (.inr (some (8, 0)))), some (.inl (nI key)), some (.inl (nI tt))], []) :: g :: gs) (d + 10) (mk (up3 I 30 0 (((tt + 2))) ((nI a))) X) Q) : am_WP ((mX8_text, 63, [some (.inr (.inr (some (8, 0)))), some (.inl (nI key)), some (.inl (nI tt))], []) :: g :: gs) (d + 10) (mk I X) Q := by
  refine am_go 400 ?_
  have tk0 : I 8 0 26 = nI a := hra
  refine am_f (ix_in (n := (tt + 2)) (N := 3150) (nI_addE rfl (rfl : (2 : Int32) = nI 2)) (by omega) (by decide)) ?_
  have tk1 : ((nI tt + 2)).toNatClampNeg = (tt + 2) := ix_cl (n := (tt + 2)) (nI_addE rfl (rfl : (2 : Int32) = nI 2)) (by omega)
  refine am_cut ?_
  show am_WP ((mX8_text, 75, [some (.inr (.inr (some (8, 0)))), some (.inl (nI key)), some (.inl (nI tt))], []) :: g :: gs) (d + 10) (mk (up3 I 30 0 ((((nI tt + 2)).toNatClampNeg)) ((I 8 0 26))) X) Q
  try rw [tk1]
  try rw [tk0]
  exact k0
set_option maxRecDepth 100000 in
set_option maxHeartbeats 4000000 in
theorem w_textM_75 {I : Nat → Nat → Nat → Int32} {X : am_Z} {g : am_F} {gs : List am_F} {d : Nat} {Q : Option am_V → am_M → Prop} {key tt nt : Nat} (hnt : nt ≤ 14) (hr1 : I 30 0 1 = nI nt) (k0 : am_WP (am_psh g (some (.inl ((nI ((nt + 1) - 1))))) :: gs) (d + 11) (mk (up3 I 30 0 (1) ((nI (nt + 1)))) X) Q) : am_WP ((mX8_text, 75, [some (.inr (.inr (some (8, 0)))), some (.inl (nI key)), some (.inl (nI tt))], []) :: g :: gs) (d + 10) (mk I X) Q := by
  refine am_go 400 ?_
  have tk0 : I 30 0 1 = nI nt := hr1
  have tk1 : ((I 30 0 1) + 1) = nI (nt + 1) := by first | exact (nI_addE tk0 (rfl : (1 : Int32) = nI 1)) | (((try rw [tk0])); first | done | exact (nI_addE tk0 (rfl : (1 : Int32) = nI 1)))
  have tk2 : (up3 I 30 0 (1) ((((I 30 0 1) + 1)))) 30 0 1 = (nI (nt + 1)) := by first | exact up3_s | (((try rw [tk1]); (try rw [tk0])); first | done | exact up3_s)
  have tk3 : (((up3 I 30 0 (1) ((((I 30 0 1) + 1)))) 30 0 1) - 1) = nI ((nt + 1) - 1) := by first | exact (nI_subE tk2 (rfl : (1 : Int32) = nI 1) (by omega)) | (((try rw [tk2]); (try rw [tk1]); (try rw [tk0])); first | done | exact (nI_subE tk2 (rfl : (1 : Int32) = nI 1) (by omega)))
  show am_WP (am_psh g (some (.inl (((((up3 I 30 0 (1) ((((I 30 0 1) + 1)))) 30 0 1) - 1))))) :: gs) (d + 11) (mk (up3 I 30 0 (1) ((((I 30 0 1) + 1)))) X) Q
  try rw [tk3]
  try rw [tk2]
  try rw [tk1]
  try rw [tk0]
  exact k0
theorem w_textM_w {I : Im} {X : am_Z} {g : am_F} {gs : List am_F} {d : Nat} {Q : Option am_V → am_M → Prop} {key nt a b : Nat} (hnt : nt < 14) (h1 : I 30 0 1 = nI nt) (h28 : I 8 0 28 = nI a) (h26 : I 8 0 26 = nI b) (K : am_WP (am_psh g (some (.inl (nI nt))) :: gs) (d + 11) (mk (up3 (up3 (up3 (up3 I 30 0 (150 + 200 * nt + 0) (nI key)) 30 0 (150 + 200 * nt + 1) (nI a)) 30 0 (150 + 200 * nt + 2) (nI b)) 30 0 1 (nI (nt + 1))) X) Q) : am_WP ((mX8_text, 42, [some (.inr (.inr (some (8, 0)))), some (.inl (nI key)), some (.inl (nI (150 + 200 * nt)))], []) :: g :: gs) (d + 10) (mk I X) Q := by
  have htt : 150 + 200 * nt + 2 < 3150 := by omega
  have e0 : 3 < 150 + 200 * nt := by omega
  generalize 150 + 200 * nt = tt at htt e0 K ⊢
  refine w_textM_42 (a := a) htt ?_
  refine w_textM_51 htt h28 ?_
  refine w_textM_63 htt h26 ?_
  refine w_textM_75 (nt := nt) (by omega) ?_ K
  rw [up3_j (by omega), up3_j (by omega), up3_j (by omega)]
  exact h1
theorem nxT_30 {t : Nat → Nat} {n : Nat} : nxT t n (3, 0, 0) = nxT t n (0, 0, 0) := by
  unfold nxT
  show (if nxS t n 0 < n then (nxK t 3 0 (nxS t n 0), nxS t n 0, nxE t n (nxS t n 0)) else (0, nxS t n 0, nxS t n 0)) = (if nxS t n 0 < n then (nxK t 0 0 (nxS t n 0), nxS t n 0, nxE t n (nxS t n 0)) else (0, nxS t n 0, nxS t n 0))
  rw [show nxK t 3 0 (nxS t n 0) = nxK t 0 0 (nxS t n 0) from by unfold nxK; rw [if_neg (fun z => by omega), if_neg (fun z => by omega)]]
theorem kyA_1 {t : Nat → Nat} {tk : Tk} (h : ¬ kyA t tk = 3) : tk.1 = 1 := by
  unfold kyA at h
  split at h
  · rename_i q; exact q.1
  · split at h
    · rename_i q; exact q.1
    · split at h
      · rename_i q; exact q.1
      · exact absurd rfl h
def FrQ9 (la : Nat) (I I' : Im) : Prop := (∀ g, g ≠ 8 → g ≠ 30 → I' g = I g) ∧ (∀ j, j < 18 ∨ 28 < j → I' 8 0 j = I 8 0 j) ∧ ∀ j, j < la ∨ la + 192 ≤ j → I' 30 0 j = I 30 0 j
theorem FrQ9_8 {la I I'} (h : FrQ8 la I I') : FrQ9 la I (up3 I' 8 0 18 0) := ⟨fun g a b => by rw [up3_g a]; exact h.1 g a b, fun j a => by rw [up3_j (by omega)]; exact h.2.1 j (by omega), h.2.2⟩
def prV (r : Bool × Nat × Nat × List (Nat × Nat)) : Int32 := if r.1 = true then nI r.2.2.1 else -1
def PpM (la : Nat) (I : Im) (r : Bool × Nat × Nat × List (Nat × Nat)) (I' : Im) : Prop := FrQ9 la I I' ∧ I' 8 0 18 = 0 ∧ I' 8 0 19 = nI r.2.1 ∧ (r.1 = true → MdS I' la r.2.2.1 0 0 r.2.2.2)
theorem MdS_18 {I : Im} {la key ro no l v} (h : MdS I la key ro no l) : MdS (up3 I 8 0 18 v) la key ro no l := by
  obtain ⟨a, b, c, e, f, g⟩ := h
  exact ⟨by rw [up3_j (by decide)]; exact a, by rw [up3_j (by decide)]; exact b, by rw [up3_j (by decide)]; exact c, by rw [up3_j (by decide)]; exact e, by rw [up3_j (by decide)]; exact f, g⟩
theorem c_prs63 {I : Im} {X : am_Z} {d : Nat} {t : Nat → Nat} {n la : Nat} (hn : n ≤ 96) (ht : ∀ j, j < n → t j < 256) (hla : la ≤ 2954) (h18 : I 8 0 18 = nI n) (hb : ∀ j, j < n → I 44 0 j = nI (t j)) (h20 : I 8 0 20 = nI 0) (h21 : I 8 0 21 = nI 3) (hS : ∀ key, MdS I la key 0 0 []) (hd : 206 ≤ d + 8) {g gs Q} (K : ∀ I', PpM la I (prs t n) I' → am_WP (am_psh g (some (.inl (prV (prs t n)))) :: gs) (d + 10) (mk I' X) Q) : am_WP ((mX8_parse, 63, [some (.inr (.inr (some (8, 0)))), none, none], []) :: g :: gs) (d + 9) (mk I X) Q := by
  have hx := nxT_W (t := t) (n := n) (tk := (3, 0, 0)) (Nat.zero_le _)
  by_cases hk3 : kyA t (nxT t n (0, 0, 0)) = 3
  · have e : prs t n = (false, (nxT t n (0, 0, 0)).2.1, 3, []) := if_pos hk3
    rw [e] at K
    refine w_prsM_k hn ht h18 hb h20 h21 hx.1 (by rw [nxT_30]; exact hk3) (fun I1 p1 => K _ ⟨FrQ9_8 (FrQ8_A p1.2), up3_s, ?_, fun z => by cases z⟩)
    rw [up3_j (by decide), p1.1.2.2.1, nxT_30]
  · have hk : kyA t (nxT t n (0, 0, 0)) < 3 := by have := kyA_le t (nxT t n (0, 0, 0)); omega
    have hy := nxT_W (t := t) (n := n) (tk := nxT t n (3, 0, 0)) hx.1.2.1
    have ep : prs t n = ((pz t n (kyA t (nxT t n (0, 0, 0))) 200 0 0 0 (nxT t n (nxT t n (0, 0, 0)), [])).1 && ((pz t n (kyA t (nxT t n (0, 0, 0))) 200 0 0 0 (nxT t n (nxT t n (0, 0, 0)), [])).2.1.1 == 0), (pz t n (kyA t (nxT t n (0, 0, 0))) 200 0 0 0 (nxT t n (nxT t n (0, 0, 0)), [])).2.1.2.1, kyA t (nxT t n (0, 0, 0)), (pz t n (kyA t (nxT t n (0, 0, 0))) 200 0 0 0 (nxT t n (nxT t n (0, 0, 0)), [])).2.2) := if_neg hk3
    have hz := pz_ok (t := t) (n := n) (key := kyA t (nxT t n (0, 0, 0))) 200 0 0 0 (nxT t n (nxT t n (0, 0, 0)), []) (by rw [← nxT_30]; exact hy.1)
    have lev : ∀ (I1 I2 : Im) (y : Int32), y = nI (kyA t (nxT t n (0, 0, 0))) → MdT I1 t n (nxT t n (3, 0, 0)) ∧ FrA8 I I1 → MdT I2 t n (nxT t n (nxT t n (3, 0, 0))) ∧ FrA8 I1 I2 → Sw mX8_either [.inr (.inr (some (8, 0))), .inl y] (d + 8) I2 X (some (.inl (vB (pz t n (kyA t (nxT t n (0, 0, 0))) 200 0 0 0 (nxT t n (nxT t n (0, 0, 0)), [])).1))) (PrM I2 t n la (kyA t (nxT t n (0, 0, 0))) 0 0 (pz t n (kyA t (nxT t n (0, 0, 0))) 200 0 0 0 (nxT t n (nxT t n (0, 0, 0)), []))) := fun I1 I2 y hy1 p1 p2 => SMl_all hn ht hla hk 200 0 0 0 (nxT t n (nxT t n (0, 0, 0)), []) I2 (d + 8) y (by omega) (by omega) (by omega) hy1 ⟨by rw [← nxT_30]; exact p2.1, MdS_A (MdS_A (hS _) p1.2) p2.2⟩ (by rw [← nxT_30]; exact hy.1) (Nat.zero_le _) (by omega) (by omega)
    have k1 : (nxT t n (3, 0, 0)).1 = 1 := by rw [nxT_30]; exact kyA_1 hk3
    have ek : kyA t (nxT t n (3, 0, 0)) = kyA t (nxT t n (0, 0, 0)) := by rw [nxT_30]
    have fr : ∀ I1 I2 I3 : Im, FrA8 I I1 → FrA8 I1 I2 → FrQ8 la I2 I3 → FrQ8 la I I3 := fun I1 I2 I3 a b c => FrQ8_t (FrQ8_t (FrQ8_A a) (FrQ8_A b)) c
    rcases e : pz t n (kyA t (nxT t n (0, 0, 0))) 200 0 0 0 (nxT t n (nxT t n (0, 0, 0)), []) with ⟨_ | _, q⟩
    · rw [e] at ep lev hz
      rw [ep] at K
      exact w_prsM_0 hn ht h18 hb h20 h21 hx.1 ek hk k1 hz.1 lev (fun I1 p1 I2 p2 I3 p3 => K _ ⟨FrQ9_8 (fr I1 I2 I3 p1.2 p2.2 p3.1), up3_s, by rw [up3_j (by decide)]; exact p3.2.1, fun z => by cases z⟩)
    · rw [e] at ep lev hz
      rw [ep] at K
      refine w_prsM_1 hn ht h18 hb h20 h21 hx.1 ek hk k1 hz.1 lev (fun I1 p1 I2 p2 I3 p3 z => ?_) (fun I1 p1 I2 p2 I3 p3 z => ?_)
      · have q0 : q.1.1 = 0 := tkM_0.mp z
        have eb : (true && (q.1.1 == 0)) = true := by simp [q0]
        have K : ∀ I', PpM la I ((true && (q.1.1 == 0)), q.1.2.1, kyA t (nxT t n (0, 0, 0)), q.2) I' → am_WP (am_psh g (some (.inl (prV ((true && (q.1.1 == 0)), q.1.2.1, kyA t (nxT t n (0, 0, 0)), q.2)))) :: gs) (d + 10) (mk I' X) Q := K
        rw [eb] at K
        exact K _ ⟨FrQ9_8 (fr I1 I2 I3 p1.2 p2.2 p3.1), up3_s, by rw [up3_j (by decide)]; exact p3.2.1, fun _ => MdS_18 (p3.2.2 rfl).2⟩
      · have q0 : ¬ q.1.1 = 0 := fun y => z (tkM_0.mpr y)
        have eb : (true && (q.1.1 == 0)) = false := by simp [q0]
        have K : ∀ I', PpM la I ((true && (q.1.1 == 0)), q.1.2.1, kyA t (nxT t n (0, 0, 0)), q.2) I' → am_WP (am_psh g (some (.inl (prV ((true && (q.1.1 == 0)), q.1.2.1, kyA t (nxT t n (0, 0, 0)), q.2)))) :: gs) (d + 10) (mk I' X) Q := K
        rw [eb] at K
        exact K _ ⟨FrQ9_8 (fr I1 I2 I3 p1.2 p2.2 p3.1), up3_s, by rw [up3_j (by decide)]; exact p3.2.1, fun z => by cases z⟩
theorem c_X8_parse {I : Im} {X : am_Z} {d : Nat} {t : Nat → Nat} {n nt : Nat} (hn : n ≤ 96) (ht : ∀ j, j < n → t j < 256) (hnt : nt ≤ 14) (hn1 : I 30 0 1 = nI nt) (h18 : I 8 0 18 = nI n) (hb : ∀ j, j < n → I 44 0 j = nI (t j)) (hd : 206 ≤ d + 8) : Sw mX8_parse [.inr (.inr (some (8, 0)))] (d + 9) I X (some (.inl (prV (prs t n)))) (PpM (laN nt) I (prs t n)) := fun g gs Q K => by
  have main : ∀ la, la ≤ 2954 → la = laN nt → am_WP ((mX8_parse, 63, [some (.inr (.inr (some (8, 0)))), none, none], []) :: g :: gs) (d + 9) (mk (up3 (up3 (up3 (up3 (up3 (up3 (up3 I 8 0 20 0) 8 0 21 3) 8 0 24 0) 8 0 25 0) 8 0 26 0) 8 0 28 0) 8 0 27 (nI la)) X) Q := fun la hla e => by
    have u : ∀ i, i < 20 ∨ 28 < i → (up3 (up3 (up3 (up3 (up3 (up3 (up3 I 8 0 20 0) 8 0 21 3) 8 0 24 0) 8 0 25 0) 8 0 26 0) 8 0 28 0) 8 0 27 (nI la)) 8 0 i = I 8 0 i := fun i hi => by
      rw [up3_j (by omega), up3_j (by omega), up3_j (by omega), up3_j (by omega), up3_j (by omega), up3_j (by omega), up3_j (by omega)]
    have F : ∀ I', PpM la (up3 (up3 (up3 (up3 (up3 (up3 (up3 I 8 0 20 0) 8 0 21 3) 8 0 24 0) 8 0 25 0) 8 0 26 0) 8 0 28 0) 8 0 27 (nI la)) (prs t n) I' → PpM (laN nt) I (prs t n) I' := fun I' p => by
      obtain ⟨⟨a, b, c⟩, p2⟩ := p
      rw [← e]
      exact ⟨⟨fun g' h1 h2 => (a g' h1 h2).trans (by rw [up3_g h1, up3_g h1, up3_g h1, up3_g h1, up3_g h1, up3_g h1, up3_g h1]), fun j hj => (b j hj).trans (u j (by omega)), c⟩, p2⟩
    refine c_prs63 hn ht hla ((u 18 (by omega)).trans h18) hb ?_ ?_ (fun key => ⟨?_, ?_, ?_, ?_, ?_, fun j hj => absurd hj (Nat.not_lt_zero _)⟩) hd (fun I' p' => K I' (F I' p'))
    · rw [up3_j (by decide), up3_j (by decide), up3_j (by decide), up3_j (by decide), up3_j (by decide), up3_j (by decide)]; exact up3_s
    · rw [up3_j (by decide), up3_j (by decide), up3_j (by decide), up3_j (by decide), up3_j (by decide)]; exact up3_s
    · rw [up3_j (by decide), up3_j (by decide), up3_j (by decide), up3_j (by decide)]; exact up3_s
    · rw [up3_j (by decide), up3_j (by decide), up3_j (by decide)]; exact up3_s
    · rw [up3_j (by decide), up3_j (by decide)]; exact up3_s
    · exact up3_s
    · rw [up3_j (by decide)]; exact up3_s
  exact w_prsM_e hnt hn1 (fun z => main 2950 (by omega) (by unfold laN; rw [if_neg (by omega)])) (fun z => main (150 + 200 * nt + 4) (by omega) (by unfold laN; rw [if_pos (by omega)]))
theorem CeM_lt {S S' : Nat → Int32} {e : Ce} (h : CeM S e) (hG : GE e) (hS : ∀ j, j < 150 + 200 * e.2.1 → S' j = S j) : CeM S' e := by
  obtain ⟨⟨a0, a1, a2, a3, a4, aB⟩, h2, h3⟩ := h
  have h8 : e.1.1 ≤ 8 := hG.1.1
  refine ⟨⟨by rw [hS _ (by omega)]; exact a0, by rw [hS _ (by omega)]; exact a1, by rw [hS _ (by omega)]; exact a2, by rw [hS _ (by omega)]; exact a3, by rw [hS _ (by omega)]; exact a4, fun k hk => RB_same (aB k hk) (fun j hj => ?_) (fun j hj => ?_) (fun j hj => ?_)⟩, by rw [hS _ (by omega)]; exact h2, fun t ht => ?_⟩
  · show S' _ = S _; rw [hS _ (by omega)]
  · show S' _ = S _; rw [hS _ (by omega)]
  · show S' _ = S _; rw [hS _ (by omega)]
  · obtain ⟨a, b, c, d⟩ := h3 t ht
    have h96 := (hG.2.2.2 t ht).2.1
    refine ⟨by rw [hS _ (by omega)]; exact a, by rw [hS _ (by omega)]; exact b, by rw [hS _ (by omega)]; exact c, fun k hk => ?_⟩
    obtain ⟨p, q⟩ := d k hk
    exact ⟨by rw [hS _ (by omega)]; exact p, by rw [hS _ (by omega)]; exact q⟩
theorem laN_ge {nt : Nat} (h : nt ≤ 14) : 150 + 200 * nt ≤ laN nt := by unfold laN; split <;> omega
theorem RM_tp0 {I I' : Im} {s : St} (h : RM I s) (G : GS s) (F : FrQ9 (laN s.1.2.1) I I') (h0 : I' 8 0 18 = 0) : RM I' (tp0 s) := by
  have hl := laN_ge G.1.2.2.1
  have F' : ∀ g, ¬ (g = 8 ∨ g = 30) → I' g = I g := fun g hg => F.1 g (fun e => hg (Or.inl e)) (fun e => hg (Or.inr e))
  obtain ⟨h1, hi, hr, hs, hw, htp⟩ := h
  refine ⟨CeM_lt h1 G.1 (fun j hj => F.2.2 j (by have hj : j < 150 + 200 * s.1.2.1 := hj; omega)), RM_im hi (F.2.1 3 (by decide)) (by rw [F' 31 (by decide)]), fun k hk => ?_, fun k hk => ?_, ?_, ⟨h0, fun j hj => absurd hj (Nat.not_lt_zero _)⟩⟩
  · obtain ⟨a, b, c⟩ := hr k hk
    exact ⟨by rw [F' 33 (by decide)]; exact a, by rw [F' 34 (by decide)]; exact b, by rw [F' 35 (by decide)]; exact c⟩
  · obtain ⟨a, b, c, d⟩ := hs k hk
    exact ⟨by rw [F' 36 (by decide)]; exact a, by rw [F' 37 (by decide), F' 38 (by decide)]; exact b, by rw [F' 39 (by decide), F' 40 (by decide)]; exact c, by rw [F' 37 (by decide)]; exact d⟩
  · exact ⟨(F.2.1 33 (by decide)).trans hw.1, by rw [F' 48 (by decide)]; exact hw.2⟩
theorem FrM_9 {la : Nat} {I I' : Im} (F : FrQ9 la I I') : FrM I I' := fun g hg => F.1 g (fun e => by subst e; cases hg) (fun e => by subst e; cases hg)
/-- the new text in the row -/
theorem RM_add {I : Im} {s : St} {x : Tx} (h : RM I s) (G : GS s) (hnt : s.1.2.1 < 14) (hx : x.2.2.length ≤ 96) (hs : ∀ j, j < x.2.2.length → I 30 0 (150 + 200 * s.1.2.1 + 4 + 2 * j) = nI (x.2.2.getD j (0, 0)).1 ∧ I 30 0 (150 + 200 * s.1.2.1 + 4 + 2 * j + 1) = nI (enM x.1 (x.2.2.getD j (0, 0)))) : RM (up3 (up3 (up3 (up3 I 30 0 (150 + 200 * s.1.2.1 + 0) (nI x.1)) 30 0 (150 + 200 * s.1.2.1 + 1) (nI x.2.1)) 30 0 (150 + 200 * s.1.2.1 + 2) (nI x.2.2.length)) 30 0 1 (nI (s.1.2.1 + 1))) ((s.1.1, s.1.2.1 + 1, fu s.1.2.2 s.1.2.1 x), s.2) := by
  have h8 : s.1.1.1 ≤ 8 := G.1.1.1
  obtain ⟨⟨⟨a0, a1, a2, a3, a4, aB⟩, h2, h3⟩, hi, hr, hs', hw, htp⟩ := h
  have u : ∀ j, j ≠ 1 → ¬ (150 + 200 * s.1.2.1 ≤ j ∧ j < 150 + 200 * s.1.2.1 + 3) → up3 (up3 (up3 (up3 I 30 0 (150 + 200 * s.1.2.1 + 0) (nI x.1)) 30 0 (150 + 200 * s.1.2.1 + 1) (nI x.2.1)) 30 0 (150 + 200 * s.1.2.1 + 2) (nI x.2.2.length)) 30 0 1 (nI (s.1.2.1 + 1)) 30 0 j = I 30 0 j := fun j h1 h2 => by
    rw [up3_j (by omega), up3_j (by omega), up3_j (by omega), up3_j (by omega)]
  refine ⟨⟨⟨(u 0 (by omega) (by omega)).trans a0, (u 2 (by omega) (by omega)).trans a1, (u 3 (by omega) (by omega)).trans a2, (u 4 (by omega) (by omega)).trans a3, (u 5 (by omega) (by omega)).trans a4, fun k hk => RB_same (aB k hk) (fun j hj => ?_) (fun j hj => ?_) (fun j hj => ?_)⟩, up3_s, fun t ht => ?_⟩, ?_, hr, hs', hw, htp⟩
  · have hk : k < s.1.1.1 := hk
    exact u _ (by omega) (by omega)
  · have hk : k < s.1.1.1 := hk
    exact u _ (by omega) (by omega)
  · have hk : k < s.1.1.1 := hk
    exact u _ (by omega) (by omega)
  · have ht : t < s.1.2.1 + 1 := ht
    show TxM _ t (fu s.1.2.2 s.1.2.1 x t)
    by_cases e : t = s.1.2.1
    · rw [e, fu_s]
      refine ⟨?_, ?_, ?_, fun k hk => ⟨?_, ?_⟩⟩
      · rw [up3_j (by omega), up3_j (by omega), up3_j (by omega)]; exact up3_s
      · rw [up3_j (by omega), up3_j (by omega)]; exact up3_s
      · rw [up3_j (by omega)]; exact up3_s
      · rw [u _ (by omega) (by omega)]; exact (hs k hk).1
      · rw [u _ (by omega) (by omega)]; exact (hs k hk).2
    · rw [fu_n e]
      obtain ⟨a, b, c, d⟩ := h3 t (by omega)
      have h96 := (G.1.2.2.2 t (by omega)).2.1
      refine ⟨by rw [u _ (by omega) (by omega)]; exact a, by rw [u _ (by omega) (by omega)]; exact b, by rw [u _ (by omega) (by omega)]; exact c, fun k hk => ?_⟩
      obtain ⟨p, q⟩ := d k hk
      exact ⟨by rw [u _ (by omega) (by omega)]; exact p, by rw [u _ (by omega) (by omega)]; exact q⟩
  · exact RM_im hi rfl rfl
theorem GS_tp0 {s} (G : GS s) : GS (tp0 s) := by
  obtain ⟨a, b, c, d, e, f, g⟩ := G
  exact ⟨a, b, c, d, e, Nat.zero_le _, fun j hj => absurd hj (Nat.not_lt_zero _)⟩
theorem p_X8_text {I X d s} (h : RM I s) (G : GS s) : Sp mX8_text [.inr (.inr (some (8, 0)))] (d + 700) I X (OM I X (f_text s)) := fun g gs Q K => by
  have hn : s.2.2.2.2.2.1 ≤ 96 := G.2.2.2.2.2.1
  have ht : ∀ j, j < s.2.2.2.2.2.1 → s.2.2.2.2.2.2 j < 256 := G.2.2.2.2.2.2
  have c := c_X8_parse (I := I) (X := X) (d := d + 690) hn ht G.1.2.2.1 h.1.2.1 h.2.2.2.2.2.1 h.2.2.2.2.2.2 (by omega)
  have pg := prs_g (t := s.2.2.2.2.2.2) hn
  rcases er : (prs s.2.2.2.2.2.2 s.2.2.2.2.2.1).1 with _ | _
  · have ev : prV (prs s.2.2.2.2.2.2 s.2.2.2.2.2.1) = -1 := by unfold prV; rw [er]; rfl
    rw [ev] at c
    refine w_textM_f (d := d + 690) (fa := (prs s.2.2.2.2.2.2 s.2.2.2.2.2.1).2.1) c (fun I1 p1 => p1.2.2.1) (fun I1 p1 => ?_)
    apply K_s K
    unfold f_text
    rw [if_neg (by rw [er]; decide)]
    exact ⟨rfl, RM_tp0 h G p1.1 p1.2.1, FrM_9 p1.1, rfl⟩
  · have gt := pg er
    have ev : prV (prs s.2.2.2.2.2.2 s.2.2.2.2.2.1) = nI (prs s.2.2.2.2.2.2 s.2.2.2.2.2.1).2.2.1 := by unfold prV; rw [er]; rfl
    rw [ev] at c
    have gl96 : (prs s.2.2.2.2.2.2 s.2.2.2.2.2.1).2.2.2.length ≤ 96 := gt.2.1
    have hl := laN_ge G.1.2.2.1
    have h1I : ∀ I1 : Im, PpM (laN s.1.2.1) I (prs s.2.2.2.2.2.2 s.2.2.2.2.2.1) I1 → I1 30 0 1 = nI s.1.2.1 := fun I1 p1 => by rw [p1.1.2.2 1 (by omega)]; exact h.1.2.1
    refine w_textM_t (d := d + 690) (nt := s.1.2.1) (key := (prs s.2.2.2.2.2.2 s.2.2.2.2.2.1).2.2.1) G.1.2.2.1 gt.1 c h1I (fun I1 p1 z => ?_) (fun I1 p1 z => ?_)
    · apply K_s K
      unfold f_text
      rw [if_pos er, if_pos (by omega)]
      exact ⟨rfl, RM_tp0 h G p1.1 p1.2.1, FrM_9 p1.1, rfl⟩
    · have hnt : s.1.2.1 < 14 := by have := G.1.2.2.1; omega
      have ela : laN s.1.2.1 = 150 + 200 * s.1.2.1 + 4 := if_pos hnt
      have hS := (p1.2.2.2 er).2.2.2.2.2
      rw [ela] at hS
      have h3 := RM_add (x := txP (prs s.2.2.2.2.2.2 s.2.2.2.2.2.1)) (RM_tp0 h G p1.1 p1.2.1) (GS_tp0 G) hnt gl96 hS
      refine w_textM_w hnt (h1I I1 p1) (p1.2.2.2 er).2.2.2.2.1 (p1.2.2.2 er).2.2.1 ?_
      apply K_s K
      unfold f_text
      rw [if_pos er, if_neg (by omega)]
      exact ⟨rfl, h3, FrM_3 rfl (FrM_3 rfl (FrM_3 rfl (FrM_3 rfl (FrM_9 p1.1)))), rfl⟩
