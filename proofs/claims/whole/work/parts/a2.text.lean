/-! text, the class -/
def tp0 (s : St) : St := (s.1, s.2.1, s.2.2.1, s.2.2.2.1, s.2.2.2.2.1, (0, s.2.2.2.2.2.2))
def tpT (s : St) (x : Tx) : St := ((s.1.1, s.1.2.1 + 1, fu s.1.2.2 s.1.2.1 x), s.2.1, s.2.2.1, s.2.2.2.1, s.2.2.2.2.1, (0, s.2.2.2.2.2.2))
def txP (r : Bool × Nat × Nat × List (Nat × Nat)) : Tx := (r.2.2.1, nop r.2.2.2, r.2.2.2)
def f_text (s : St) : Int32 × St := if (prs s.2.2.2.2.2.2 s.2.2.2.2.2.1).1 = true then (if 14 ≤ s.1.2.1 then (cFULL, tp0 s) else (nI s.1.2.1, tpT s (txP (prs s.2.2.2.2.2.2 s.2.2.2.2.2.1)))) else (-100 - nI (prs s.2.2.2.2.2.2 s.2.2.2.2.2.1).2.1, tp0 s)
theorem md4_key {I : Im} {X : am_Z} : (md4 I X).1 6 (X.2.1 6) 0 = I 3 0 4 := by
  show (if X.2.1 6 = X.2.1 6 ∧ 0 = 1 then _ else if X.2.1 6 = X.2.1 6 ∧ 0 = 0 then I 3 0 4 else _) = _
  rw [if_neg (fun z => by cases z.2), if_pos ⟨rfl, rfl⟩]
theorem md4_op {I : Im} {X : am_Z} : (md4 I X).1 6 (X.2.1 6) 1 = I 3 0 5 := by
  show (if X.2.1 6 = X.2.1 6 ∧ 1 = 1 then I 3 0 5 else _) = _
  rw [if_pos ⟨rfl, rfl⟩]
theorem md4_st {I : Im} {X : am_Z} {len j : Nat} (h6 : I 3 0 6 = nI len) (hl : len ≤ 96) (hj : j < len) : (md4 I X).1 27 (X.2.1 27) j = I 24 0 j := by
  show (if X.2.1 27 = X.2.1 27 then va_cpy (I 24 0) _ 0 0 (kx (I 3 0 6)) j else _) = _
  rw [if_pos rfl, pk_cpy_in (Nat.zero_le _) (by rw [show kx (I 3 0 6) = len from ix_cl h6 (by omega)]; omega), show 0 + (j - 0) = j by omega]
theorem md4_ne {I : Im} {X : am_Z} {g k : Nat} (h : ¬ ((g = 6 ∨ g = 27 ∨ g = 28) ∧ k = X.2.1 g)) : (md4 I X).1 g k = I g k := by
  funext j
  by_cases h6 : g = 6
  · subst h6
    have hk : ¬ k = X.2.1 6 := fun z => h ⟨Or.inl rfl, z⟩
    show (if k = X.2.1 6 ∧ j = 1 then _ else if k = X.2.1 6 ∧ j = 0 then _ else if k = X.2.1 6 then _ else I 6 k j) = _
    rw [if_neg (fun z => hk z.1), if_neg (fun z => hk z.1), if_neg hk]
  · by_cases h27 : g = 27
    · subst h27
      have hk : ¬ k = X.2.1 27 := fun z => h ⟨Or.inr (Or.inl rfl), z⟩
      show (if k = X.2.1 27 then _ else if k = X.2.1 27 then _ else I 27 k j) = _
      rw [if_neg hk, if_neg hk]
    · by_cases h28 : g = 28
      · subst h28
        have hk : ¬ k = X.2.1 28 := fun z => h ⟨Or.inr (Or.inr rfl), z⟩
        show (if k = X.2.1 28 then _ else I 28 k j) = _
        rw [if_neg hk]
      · simp only [md4, md3, md2, md1, am_sR, am_sA, am_sI, am_new, mk, bqf h6, bqf h27, bqf h28, cond_false]
theorem md4_g {I : Im} {X : am_Z} {g : Nat} (h : ¬ (g = 6 ∨ g = 27 ∨ g = 28)) : (md4 I X).1 g = I g := funext fun k => md4_ne (fun z => h z.1)
theorem md4_c {I : Im} {X : am_Z} : (mdX I X).2.1 6 = X.2.1 6 + 1 ∧ (mdX I X).2.1 27 = X.2.1 27 + 1 ∧ (mdX I X).2.1 28 = X.2.1 28 + 1 := ⟨rfl, rfl, rfl⟩
theorem TxC_md {I : Im} {X : am_Z} {id : Nat} {t : Tx} (h : TxC I X id t) (hi : IdC X) : TxC (md4 I X).1 (mdX I X) id t := by
  obtain ⟨a, b, c, e, f, g⟩ := h
  have h1 := hi.1
  have h2 := hi.2
  refine ⟨by rw [md4_c.1]; omega, ?_, ?_, ?_, ?_, fun k hk => ?_⟩
  · rw [md4_ne (fun z => by omega)]; exact b
  · rw [md4_ne (fun z => by omega)]; exact c
  · show (if id = X.2.1 27 then _ else X.2.2.1 id) = _
    rw [if_neg (by omega)]; exact e
  · show (if id = X.2.1 28 then _ else X.2.2.2.1 id) = _
    rw [if_neg (by omega)]; exact f
  · rw [md4_ne (fun z => by omega)]; exact g k hk
theorem TxC_nw {I : Im} {X : am_Z} {key : Nat} {l : List (Nat × Nat)} (h : RdS I key 0 0 l) (hl : l.length ≤ 96) (hi : IdC X) : TxC (md4 I X).1 (mdX I X) (X.2.1 6) (key, nop l, l) := by
  obtain ⟨a, b, c, e, f, g⟩ := h
  have h1 := hi.1
  have h2 := hi.2
  have hno := nop_le (l := l)
  refine ⟨by rw [md4_c.1]; omega, ?_, ?_, ?_, ?_, fun k hk => ?_⟩
  · exact md4_key.trans a
  · exact md4_op.trans b
  · show (if X.2.1 6 = X.2.1 27 then kx (I 3 0 6) else _) = l.length
    rw [if_pos (by omega)]; exact ix_cl c (by omega)
  · show (if X.2.1 6 = X.2.1 28 then kx (I 3 0 5) else _) = nop l
    rw [if_pos (by omega)]; exact ix_cl b (by omega)
  · rw [← h1, md4_st c hl hk]; exact e k hk
theorem lastT_c {tx ty : Nat → Tx} {k : Nat} : ∀ (n : Nat), (∀ t, t < n → tx t = ty t) → lastT tx k n = lastT ty k n
  | 0, _ => rfl
  | n + 1, h => by rw [lastT, lastT, h n (by omega), lastT_c n (fun t ht => h t (by omega))]
set_option maxRecDepth 100000 in
set_option maxHeartbeats 4000000 in
theorem w_textC_f {I : Nat → Nat → Nat → Int32} {X : am_Z} {g : am_F} {gs : List am_F} {d : Nat} {Q : Option am_V → am_M → Prop} {fa : Nat} {P : Im → Prop} (hp : Sw mX3_parse [.inr (.inr (some (3, 0)))] (d + 8) I X (some (.inl 0)) P) (hf : ∀ I1, P I1 → I1 3 0 1 = nI fa) (k0 : ∀ (I1 : Im), (P I1) → am_WP (am_psh g (some (.inl (((-100) - (nI fa))))) :: gs) (d + 10) (mk I1 X) Q) : am_WP (am_entry mX7_text [.inr (.inr (some (7, 0)))] :: g :: gs) (d + 9) (mk I X) Q := by
  refine am_go 400 ?_
  refine (hp) _ _ _ ?_
  intro I1 p1
  refine am_go 400 ?_
  have tk0 : I1 3 0 1 = nI fa := hf I1 p1
  show am_WP (am_psh g (some (.inl (((-100) - (I1 3 0 1))))) :: gs) (d + 10) (mk I1 X) Q
  try rw [tk0]
  exact k0 I1 p1
set_option maxRecDepth 100000 in
set_option maxHeartbeats 4000000 in
theorem w_textC_t {I : Nat → Nat → Nat → Int32} {X : am_Z} {g : am_F} {gs : List am_F} {d : Nat} {Q : Option am_V → am_M → Prop} {nt key : Nat} (hnt : nt ≤ 14) (hkey : key < 3) {P : Im → Prop} (hp : Sw mX3_parse [.inr (.inr (some (3, 0)))] (d + 8) I X (some (.inl 1)) P) (hc1 : ∀ I1, P I1 → I1 1 0 4 = nI nt) (hc4 : ∀ I1, P I1 → I1 3 0 4 = nI key) (hm : ∀ I1, P I1 → Sz mX3_made [.inr (.inr (some (3, 0)))] (d + 8) I1 X (some (.inr (.inr (some (6, X.2.1 6))))) (MdP I1 X)) (k0 : ∀ (I1 : Im), (P I1) → (nt < 14) → ∀ (I2 : Im) (X2 : am_Z), (MdP I1 X I2 X2) → (14 ≤ nt) → am_WP (am_psh g (some (.inl ((nI (nt - 1))))) :: gs) (d + 10) (mk I2 X2) Q) (k1 : ∀ (I1 : Im), (P I1) → (nt < 14) → ∀ (I2 : Im) (X2 : am_Z), (MdP I1 X I2 X2) → (¬ (14 ≤ nt)) → am_WP (am_psh g (some (.inl ((nI ((nt + 1) - 1))))) :: gs) (d + 10) (mk (up3 (up3 I2 18 0 (key) ((nI nt))) 1 0 (4) ((nI (nt + 1)))) (upX X2 0 (nt) (some (6, (X.2.1 6))))) Q) (k2 : ∀ (I1 : Im), (P I1) → (¬ (nt < 14)) → am_WP (am_psh g (some (.inl ((-1000000003)))) :: gs) (d + 10) (mk I1 X) Q) : am_WP (am_entry mX7_text [.inr (.inr (some (7, 0)))] :: g :: gs) (d + 9) (mk I X) Q := by
  refine am_go 400 ?_
  refine (hp) _ _ _ ?_
  intro I1 p1
  refine am_go 400 ?_
  have tk0 : I1 1 0 4 = nI nt := hc1 I1 p1
  refine am_if (fun h1 => ?_) (fun h1 => ?_)
  · have nh1 := (lt_nat (a := nt) (b := 14) tk0 (rfl : (14 : Int32) = nI 14) (by omega) (by omega)).mp h1
    refine (hm I1 p1) _ _ _ ?_
    intro I2 X2 p2
    refine am_go 400 ?_
    refine am_go 400 ?_
    have tk1 : I2 1 0 4 = nI nt := (show I2 1 0 4 = _ from by rw [p2.1, md4_g (by decide)]; exact hc1 I1 p1)
    refine am_if (fun h2 => ?_) (fun h2 => ?_)
    · have nh2 := (le_nat (a := 14) (b := nt) (rfl : (14 : Int32) = nI 14) tk1 (by omega) (by omega)).mp h2
      refine am_go 400 ?_
      have tk2 : ((I2 1 0 4) - 1) = nI (nt - 1) := by first | exact (nI_subE tk1 (rfl : (1 : Int32) = nI 1) (by omega)) | (((try rw [tk1])); first | done | exact (nI_subE tk1 (rfl : (1 : Int32) = nI 1) (by omega)))
      show am_WP (am_psh g (some (.inl ((((I2 1 0 4) - 1))))) :: gs) (d + 10) (mk I2 X2) Q
      try rw [tk2]
      try rw [tk1]
      exact k0 I1 p1 nh1 I2 X2 p2 nh2
    · have nh2 := mt (le_nat (a := 14) (b := nt) (rfl : (14 : Int32) = nI 14) tk1 (by omega) (by omega)).mpr h2
      refine am_cut ?_
      refine am_go 5 ?_
      show am_WP ((mX1_addText, 18, [some (.inr (.inr (some (1, 0)))), some (.inr (.inr (some (6, (X.2.1 6)))))], [.inr (.inr (some (6, (X.2.1 6)))), .inl ((I2 1 0 4)), .inr (.inr (some (81, 0)))]) :: (mX7_text, 50, [some (.inr (.inr (some (7, 0))))], []) :: g :: gs) (d + 8) (mk I2 X2) Q
      refine am_go 1 ?_
      refine am_f (ix_in (n := nt) (N := 14) tk1 (by omega) (by decide)) ?_
      have tk3 : ((I2 1 0 4)).toNatClampNeg = nt := by first | exact ix_cl (n := nt) tk1 (by omega) | (((try rw [tk1])); first | done | exact ix_cl (n := nt) tk1 (by omega))
      show am_WP ((mX1_addText, 19, [some (.inr (.inr (some (1, 0)))), some (.inr (.inr (some (6, (X.2.1 6)))))], []) :: (mX7_text, 50, [some (.inr (.inr (some (7, 0))))], []) :: g :: gs) (d + 8) (am_sR (mk I2 X2) 81 0 ((((I2 1 0 4)).toNatClampNeg)) (some (6, (X.2.1 6)))) Q
      rw [mk_sR81]
      refine am_go 400 ?_
      have tk4 : I2 6 (X.2.1 6) 0 = nI key := (show I2 6 (X.2.1 6) 0 = _ from by rw [p2.1, md4_key]; exact hc4 I1 p1)
      refine am_f (ix_in (n := key) (N := 3) tk4 (by omega) (by decide)) ?_
      have tk5 : ((I2 6 (X.2.1 6) 0)).toNatClampNeg = key := by first | exact ix_cl (n := key) tk4 (by omega) | (((try rw [tk4])); first | done | exact ix_cl (n := key) tk4 (by omega))
      have tk6 : (up3 I2 18 0 ((((I2 6 (X.2.1 6) 0)).toNatClampNeg)) ((I2 1 0 4))) 1 0 4 = nI nt := by first | exact (show I2 1 0 4 = _ from by rw [p2.1, md4_g (by decide)]; exact hc1 I1 p1) | (((try rw [tk5]); (try rw [tk4]); (try rw [tk1])); first | done | exact (show I2 1 0 4 = _ from by rw [p2.1, md4_g (by decide)]; exact hc1 I1 p1))
      have tk7 : (((up3 I2 18 0 ((((I2 6 (X.2.1 6) 0)).toNatClampNeg)) ((I2 1 0 4))) 1 0 4) + 1) = nI (nt + 1) := by first | exact (nI_addE tk6 (rfl : (1 : Int32) = nI 1)) | (((try rw [tk6]); (try rw [tk5]); (try rw [tk4]); (try rw [tk1])); first | done | exact (nI_addE tk6 (rfl : (1 : Int32) = nI 1)))
      refine am_go 400 ?_
      have tk8 : (up3 (up3 I2 18 0 ((((I2 6 (X.2.1 6) 0)).toNatClampNeg)) ((I2 1 0 4))) 1 0 (4) (((((up3 I2 18 0 ((((I2 6 (X.2.1 6) 0)).toNatClampNeg)) ((I2 1 0 4))) 1 0 4) + 1)))) 1 0 4 = (nI (nt + 1)) := by first | exact up3_s | (((try rw [tk7]); (try rw [tk6]); (try rw [tk5]); (try rw [tk4]); (try rw [tk1])); first | done | exact up3_s)
      have tk9 : (((up3 (up3 I2 18 0 ((((I2 6 (X.2.1 6) 0)).toNatClampNeg)) ((I2 1 0 4))) 1 0 (4) (((((up3 I2 18 0 ((((I2 6 (X.2.1 6) 0)).toNatClampNeg)) ((I2 1 0 4))) 1 0 4) + 1)))) 1 0 4) - 1) = nI ((nt + 1) - 1) := by first | exact (nI_subE tk8 (rfl : (1 : Int32) = nI 1) (by omega)) | (((try rw [tk8]); (try rw [tk7]); (try rw [tk6]); (try rw [tk5]); (try rw [tk4]); (try rw [tk1])); first | done | exact (nI_subE tk8 (rfl : (1 : Int32) = nI 1) (by omega)))
      show am_WP (am_psh g (some (.inl (((((up3 (up3 I2 18 0 ((((I2 6 (X.2.1 6) 0)).toNatClampNeg)) ((I2 1 0 4))) 1 0 (4) (((((up3 I2 18 0 ((((I2 6 (X.2.1 6) 0)).toNatClampNeg)) ((I2 1 0 4))) 1 0 4) + 1)))) 1 0 4) - 1))))) :: gs) (d + 10) (mk (up3 (up3 I2 18 0 ((((I2 6 (X.2.1 6) 0)).toNatClampNeg)) ((I2 1 0 4))) 1 0 (4) (((((up3 I2 18 0 ((((I2 6 (X.2.1 6) 0)).toNatClampNeg)) ((I2 1 0 4))) 1 0 4) + 1)))) (upX X2 0 ((((I2 1 0 4)).toNatClampNeg)) (some (6, (X.2.1 6))))) Q
      try rw [tk9]
      try rw [tk8]
      try rw [tk7]
      try rw [tk6]
      try rw [tk5]
      try rw [tk3]
      try rw [tk4]
      try rw [tk1]
      exact k1 I1 p1 nh1 I2 X2 p2 nh2
  · have nh1 := mt (lt_nat (a := nt) (b := 14) tk0 (rfl : (14 : Int32) = nI 14) (by omega) (by omega)).mpr h1
    exact k2 I1 p1 nh1
theorem CeC_F {I I' : Im} {X : am_Z} {c : Nat} {e : Ce} (h : CeC I X c e) (F : ∀ g, ¬ (g = 3 ∨ g = 24) → I' g = I g) : CeC I' X c e := by
  obtain ⟨⟨a0, a1, a2, a3, a4, aB⟩, b0, b1, b2⟩ := h
  have q1 := F 1 (by decide)
  refine ⟨⟨by rw [q1]; exact a0, by rw [q1]; exact a1, by rw [q1]; exact a2, by rw [q1]; exact a3, by rw [q1]; exact a4, fun k hk => RB_same (aB k hk) (fun i _ => ?_) (fun i _ => ?_) (fun i _ => ?_)⟩, by rw [q1]; exact b0, by rw [F 18 (by decide)]; exact b1, fun t ht => ?_⟩
  · show I' 0 _ _ = I 0 _ _; rw [F 0 (by decide)]
  · show I' 16 _ _ = I 16 _ _; rw [F 16 (by decide)]
  · show I' 17 _ _ = I 17 _ _; rw [F 17 (by decide)]
  · obtain ⟨id, c1, c2, c3, c4, c5, c6, c7⟩ := b2 t ht
    exact ⟨id, c1, c2, by rw [F 6 (by decide)]; exact c3, by rw [F 6 (by decide)]; exact c4, c5, c6, by rw [F 27 (by decide)]; exact c7⟩
theorem RC_tp0 {I I' : Im} {X : am_Z} {s : St} (h : RC I X s) (F : FrR I I') (h0 : I' 3 0 0 = 0) : RC I' X (tp0 s) := by
  have F' : ∀ g, ¬ (g = 3 ∨ g = 24) → I' g = I g := fun g hg => F g (fun e => hg (Or.inl e)) (fun e => hg (Or.inr e))
  obtain ⟨h1, hi, hr, hs, hw, htp, hk', hid⟩ := h
  refine ⟨CeC_F h1 F', ?_, fun k hk => ?_, fun k hk => ?_, ?_, ⟨h0, fun j hj => absurd hj (Nat.not_lt_zero _)⟩, ?_, hid⟩
  · show ImC I' X s.2.1
    rcases e : s.2.1 with _ | ei
    · rw [e] at hi; show I' 7 0 8 = 0; rw [F' 7 (by decide)]; exact hi
    · rw [e] at hi; exact ⟨by rw [F' 7 (by decide)]; exact hi.1, CeC_F hi.2 F'⟩
  · obtain ⟨a, b, c⟩ := hr k hk
    exact ⟨by rw [F' 4 (by decide)]; exact a, by rw [F' 4 (by decide)]; exact b, by rw [F' 25 (by decide)]; exact c⟩
  · obtain ⟨a, b, c, d⟩ := hs k hk
    exact ⟨by rw [F' 5 (by decide)]; exact a, by rw [F' 5 (by decide)]; exact b, by rw [F' 4 (by decide), F' 25 (by decide)]; exact c, by rw [F' 5 (by decide)]; exact d⟩
  · exact ⟨by rw [F' 7 (by decide)]; exact hw.1, by rw [F' 26 (by decide)]; exact hw.2⟩
  · exact ⟨by rw [F' 20 (by decide)]; exact hk'.1, by rw [F' 21 (by decide)]; exact hk'.2.1, by rw [F' 22 (by decide)]; exact hk'.2.2⟩
theorem CeC_md {I : Im} {X : am_Z} {c : Nat} {e : Ce} (h : CeC I X c e) (hi : IdC X) : CeC (md4 I X).1 (mdX I X) c e := by
  have F : ∀ g, ¬ (g = 6 ∨ g = 27 ∨ g = 28) → (md4 I X).1 g = I g := fun g hg => md4_g hg
  obtain ⟨⟨a0, a1, a2, a3, a4, aB⟩, b0, b1, b2⟩ := h
  have q1 := F 1 (by decide)
  refine ⟨⟨by rw [q1]; exact a0, by rw [q1]; exact a1, by rw [q1]; exact a2, by rw [q1]; exact a3, by rw [q1]; exact a4, fun k hk => RB_same (aB k hk) (fun i _ => ?_) (fun i _ => ?_) (fun i _ => ?_)⟩, by rw [q1]; exact b0, by rw [F 18 (by decide)]; exact b1, fun t ht => ?_⟩
  · show (md4 I X).1 0 _ _ = I 0 _ _; rw [F 0 (by decide)]
  · show (md4 I X).1 16 _ _ = I 16 _ _; rw [F 16 (by decide)]
  · show (md4 I X).1 17 _ _ = I 17 _ _; rw [F 17 (by decide)]
  · obtain ⟨id, c1, c2⟩ := b2 t ht
    exact ⟨id, c1, TxC_md c2 hi⟩
theorem RC_md {I : Im} {X : am_Z} {s : St} (h : RC I X s) : RC (md4 I X).1 (mdX I X) s := by
  have F' : ∀ g, ¬ (g = 6 ∨ g = 27 ∨ g = 28) → (md4 I X).1 g = I g := fun g hg => md4_g hg
  obtain ⟨h1, hi, hr, hs, hw, htp, hk', hid⟩ := h
  refine ⟨CeC_md h1 hid, ?_, fun k hk => ?_, fun k hk => ?_, ?_, ?_, ?_, ?_⟩
  · show ImC _ _ s.2.1
    rcases e : s.2.1 with _ | ei
    · rw [e] at hi; show (md4 I X).1 7 0 8 = 0; rw [F' 7 (by decide)]; exact hi
    · rw [e] at hi; exact ⟨by rw [F' 7 (by decide)]; exact hi.1, CeC_md hi.2 hid⟩
  · obtain ⟨a, b, c⟩ := hr k hk
    exact ⟨by rw [F' 4 (by decide)]; exact a, by rw [F' 4 (by decide)]; exact b, by rw [F' 25 (by decide)]; exact c⟩
  · obtain ⟨a, b, c, d⟩ := hs k hk
    exact ⟨by rw [F' 5 (by decide)]; exact a, by rw [F' 5 (by decide)]; exact b, by rw [F' 4 (by decide), F' 25 (by decide)]; exact c, by rw [F' 5 (by decide)]; exact d⟩
  · exact ⟨by rw [F' 7 (by decide)]; exact hw.1, by rw [F' 26 (by decide)]; exact hw.2⟩
  · exact ⟨by rw [F' 3 (by decide)]; exact htp.1, by rw [F' 23 (by decide)]; exact htp.2⟩
  · exact ⟨by rw [F' 20 (by decide)]; exact hk'.1, by rw [F' 21 (by decide)]; exact hk'.2.1, by rw [F' 22 (by decide)]; exact hk'.2.2⟩
  · unfold IdC
    rw [md4_c.1, md4_c.2.1, md4_c.2.2, hid.1, hid.2]
    exact ⟨rfl, rfl⟩
theorem RC_add {I : Im} {X : am_Z} {s : St} {id : Nat} {x : Tx} (h : RC I X s) (hx : TxC I X id x) (hk : x.1 < 3) : RC (up3 (up3 I 18 0 x.1 (nI s.1.2.1)) 1 0 4 (nI (s.1.2.1 + 1))) (upX X 0 s.1.2.1 (some (6, id))) ((s.1.1, s.1.2.1 + 1, fu s.1.2.2 s.1.2.1 x), s.2) := by
  obtain ⟨⟨⟨a0, a1, a2, a3, a4, aB⟩, b0, b1, b2⟩, hi, hr, hs, hw, htp, hk', hid⟩ := h
  have u1 : ∀ j, j ≠ 4 → up3 (up3 I 18 0 x.1 (nI s.1.2.1)) 1 0 4 (nI (s.1.2.1 + 1)) 1 0 j = I 1 0 j := fun j hj => by rw [up3_j hj, up3_k (Or.inl (by decide))]
  refine ⟨⟨⟨(u1 3 (by decide)).trans a0, (u1 7 (by decide)).trans a1, (u1 5 (by decide)).trans a2, (u1 6 (by decide)).trans a3, (u1 8 (by decide)).trans a4, aB⟩, up3_s, fun key hkey => ?_, fun t ht => ?_⟩, ?_, hr, hs, hw, htp, hk', hid⟩
  · show up3 (up3 I 18 0 x.1 (nI s.1.2.1)) 1 0 4 (nI (s.1.2.1 + 1)) 18 0 key = oI (if (fu s.1.2.2 s.1.2.1 x s.1.2.1).1 = key then some s.1.2.1 else lastT (fu s.1.2.2 s.1.2.1 x) key s.1.2.1)
    rw [up3_k (Or.inl (by decide)), up3_at, fu_s]
    by_cases e : key = x.1
    · rw [if_pos e, if_pos e.symm]; rfl
    · rw [if_neg e, if_neg (fun z => e z.symm), lastT_c (ty := s.1.2.2) s.1.2.1 (fun t ht => fu_n (by omega))]
      exact b1 key hkey
  · have ht : t < s.1.2.1 + 1 := ht
    show ∃ id', (if 0 = 0 ∧ t = s.1.2.1 then some (6, id) else X.1 0 t) = some (6, id') ∧ TxC _ _ id' (fu s.1.2.2 s.1.2.1 x t)
    by_cases e : t = s.1.2.1
    · rw [if_pos ⟨rfl, e⟩, e, fu_s]
      exact ⟨id, rfl, hx⟩
    · rw [if_neg (fun z => e z.2), fu_n e]
      exact b2 t (by omega)
  · show ImC _ _ s.2.1
    rcases e : s.2.1 with _ | ei
    · rw [e] at hi; exact hi
    · rw [e] at hi
      obtain ⟨i1, ⟨c0, c1, c2, c3, c4, cB⟩, d0, d1, d2⟩ := hi
      refine ⟨i1, ⟨?_, ?_, ?_, ?_, ?_, cB⟩, ?_, fun key hkey => ?_, fun t ht => ?_⟩
      · rw [up3_k (Or.inr (by decide))]; exact c0
      · rw [up3_k (Or.inr (by decide))]; exact c1
      · rw [up3_k (Or.inr (by decide))]; exact c2
      · rw [up3_k (Or.inr (by decide))]; exact c3
      · rw [up3_k (Or.inr (by decide))]; exact c4
      · rw [up3_k (Or.inr (by decide))]; exact d0
      · rw [up3_k (Or.inl (by decide)), up3_k (Or.inr (by decide))]; exact d1 key hkey
      · obtain ⟨id', e1, e2⟩ := d2 t ht
        refine ⟨id', ?_, e2⟩
        show (if 1 = 0 ∧ t = s.1.2.1 then some (6, id) else X.1 1 t) = _
        rw [if_neg (fun z => by cases z.1)]; exact e1
theorem prs_g {t : Nat → Nat} {n : Nat} (hn : n ≤ 96) (h : (prs t n).1 = true) : GT (txP (prs t n)) := by
  have hx := nxT_W (t := t) (n := n) (tk := (0, 0, 0)) (Nat.zero_le _)
  have hy := nxT_W (t := t) (n := n) (tk := nxT t n (0, 0, 0)) hx.1.2.1
  by_cases hk3 : kyA t (nxT t n (0, 0, 0)) = 3
  · have e : prs t n = (false, (nxT t n (0, 0, 0)).2.1, 3, []) := if_pos hk3
    rw [e] at h; cases h
  · have hk : kyA t (nxT t n (0, 0, 0)) < 3 := by have := kyA_le t (nxT t n (0, 0, 0)); omega
    have ep : prs t n = ((pz t n (kyA t (nxT t n (0, 0, 0))) 200 0 0 0 (nxT t n (nxT t n (0, 0, 0)), [])).1 && ((pz t n (kyA t (nxT t n (0, 0, 0))) 200 0 0 0 (nxT t n (nxT t n (0, 0, 0)), [])).2.1.1 == 0), (pz t n (kyA t (nxT t n (0, 0, 0))) 200 0 0 0 (nxT t n (nxT t n (0, 0, 0)), [])).2.1.2.1, kyA t (nxT t n (0, 0, 0)), (pz t n (kyA t (nxT t n (0, 0, 0))) 200 0 0 0 (nxT t n (nxT t n (0, 0, 0)), [])).2.2) := if_neg hk3
    have hz := pz_ok (t := t) (n := n) (key := kyA t (nxT t n (0, 0, 0))) 200 0 0 0 (nxT t n (nxT t n (0, 0, 0)), []) hy.1
    generalize kyA t (nxT t n (0, 0, 0)) = key at hk ep hz
    generalize pz t n key 200 0 0 0 (nxT t n (nxT t n (0, 0, 0)), []) = r at ep hz
    rw [ep] at h ⊢
    have h1 : r.1 = true := by
      have h : (r.1 && (r.2.1.1 == 0)) = true := h
      exact (Bool.and_eq_true _ _ ▸ h).1
    obtain ⟨l1, l, l2, l3⟩ := hz.2.2 h1
    have l1 : r.2.2.length + (nxT t n (nxT t n (0, 0, 0))).2.1 ≤ 0 + r.2.1.2.1 := l1
    have l2 : r.2.2 = l := l2
    have q1 := hz.1.1
    have q2 := hz.1.2.1
    refine ⟨hk, ?_, ?_, rfl, ?_⟩
    · show r.2.2.length ≤ 96
      omega
    · show wfS 0 r.2.2
      have w := l3.1 0 [] rfl
      rw [List.append_nil] at w
      rw [l2]; exact w
    · show ∀ p, p ∈ r.2.2 → _
      rw [l2]
      exact l3.2
theorem p_X7_text {I X d s} (h : RC I X s) (G : GS s) : Sp mX7_text [.inr (.inr (some (7, 0)))] (d + 700) I X (OC I X (f_text s)) := fun g gs Q K => by
  have hn : s.2.2.2.2.2.1 ≤ 96 := G.2.2.2.2.2.1
  have ht : ∀ j, j < s.2.2.2.2.2.1 → s.2.2.2.2.2.2 j < 256 := G.2.2.2.2.2.2
  have c := c_X3_parse (I := I) (X := X) (D := d + 699) hn ht h.2.2.2.2.2.1.1 h.2.2.2.2.2.1.2 (by omega)
  have pg := prs_g (t := s.2.2.2.2.2.2) hn
  rcases er : (prs s.2.2.2.2.2.2 s.2.2.2.2.2.1).1 with _ | _
  · rw [er] at c
    refine w_textC_f (d := d + 691) (fa := (prs s.2.2.2.2.2.2 s.2.2.2.2.2.1).2.1) c (fun I1 p1 => p1.2.2.1) (fun I1 p1 => ?_)
    apply K_s K
    unfold f_text
    rw [if_neg (by rw [er]; decide)]
    exact ⟨rfl, RC_tp0 h p1.1 p1.2.1, ⟨fun g' hg' => p1.1 g' (fun e => by subst e; cases hg') (fun e => by subst e; cases hg'), rfl, by omega, by omega⟩⟩
  · have gt := pg er
    rw [er] at c
    have gl96 : (prs s.2.2.2.2.2.2 s.2.2.2.2.2.1).2.2.2.length ≤ 96 := gt.2.1
    have hno := nop_le (l := (prs s.2.2.2.2.2.2 s.2.2.2.2.2.1).2.2.2)
    refine w_textC_t (d := d + 691) (nt := s.1.2.1) (key := (prs s.2.2.2.2.2.2 s.2.2.2.2.2.1).2.2.1) G.1.2.2.1 gt.1 c (fun I1 p1 => ?_) (fun I1 p1 => (p1.2.2.2 rfl).1) (fun I1 p1 => c_X3_made (p1.2.2.2 rfl).2.1 (p1.2.2.2 rfl).2.2.1 gl96 (by omega) h.2.2.2.2.2.2.2) (fun I1 p1 z I2 X2 p2 z2 => absurd z (by omega)) (fun I1 p1 z I2 X2 p2 _ => ?_) (fun I1 p1 z => ?_)
    · rw [p1.1 1 (by decide) (by decide)]; exact h.1.2.1
    · obtain ⟨rfl, rfl⟩ := p2
      have h1 := RC_tp0 h p1.1 p1.2.1
      have h2 := RC_md h1
      have h3 := RC_add h2 (TxC_nw (p1.2.2.2 rfl) gl96 h.2.2.2.2.2.2.2) gt.1
      apply K_s K
      unfold f_text
      rw [if_pos er, if_neg (by omega)]
      refine ⟨rfl, h3, fun g' hg' => ?_, rfl, ?_, ?_⟩
      · rw [up3_g (fun e => by subst e; cases hg'), up3_g (fun e => by subst e; cases hg'), md4_g (fun z => by rcases z with rfl | rfl | rfl <;> cases hg')]
        exact p1.1 g' (fun e => by subst e; cases hg') (fun e => by subst e; cases hg')
      · show X.2.2.2.2.2.1 + 3 ≤ _
        omega
      · show X.2.2.2.2.2.2 + 4 + kx (I1 3 0 6) + kx (I1 3 0 5) ≤ _
        rw [show kx (I1 3 0 6) = _ from ix_cl (p1.2.2.2 rfl).2.2.1 (by omega), show kx (I1 3 0 5) = _ from ix_cl (p1.2.2.2 rfl).2.1 (by omega)]
        omega
    · apply K_s K
      unfold f_text
      rw [if_pos er, if_pos (by omega)]
      exact ⟨rfl, RC_tp0 h p1.1 p1.2.1, ⟨fun g' hg' => p1.1 g' (fun e => by subst e; cases hg') (fun e => by subst e; cases hg'), rfl, by omega, by omega⟩⟩
