set_option maxRecDepth 100000 in
set_option maxHeartbeats 4000000 in
theorem w_strC_0 {I : Nat → Nat → Nat → Int32} {X : am_Z} {g : am_F} {gs : List am_F} {d : Nat} {Q : Option am_V → am_M → Prop} {c b l nt : Nat} {tx : Nat → Tx} {β : Bn} {x : Int32} (hB : RB (cB I b) β) (hg : GB β) (hTs : TsC I X c nt tx) (hn : nt ≤ 14) (hx : x = nI l) (hl6 : l < 6) (hl : lastT tx 0 nt = none) (k0 : (2 < l) → ((β.1 0) = 1) → am_WP (am_psh g (some (.inl ((nI ((β.2.1 l) + 6))))) :: gs) (d + 4) (mk I X) Q) (k1 : (2 < l) → (¬ (β.1 0) = 1) → ((β.1 0) = 2) → am_WP (am_psh g (some (.inl ((nI (β.2.1 l))))) :: gs) (d + 4) (mk I X) Q) (k2 : (2 < l) → (¬ (β.1 0) = 1) → (¬ (β.1 0) = 2) → ((β.1 0) = 3) → am_WP (am_psh g (some (.inl ((nI (((β.2.1 l) + 6) / 2))))) :: gs) (d + 4) (mk I X) Q) (k3 : (2 < l) → (¬ (β.1 0) = 1) → (¬ (β.1 0) = 2) → (¬ (β.1 0) = 3) → ((β.1 0) = 4) → am_WP (am_psh g (some (.inl ((nI ((β.2.1 l) - ((β.1 1) / 20)))))) :: gs) (d + 4) (mk I X) Q) (k4 : (2 < l) → (¬ (β.1 0) = 1) → (¬ (β.1 0) = 2) → (¬ (β.1 0) = 3) → (¬ (β.1 0) = 4) → am_WP (am_psh g (some (.inl ((nI (β.2.1 l))))) :: gs) (d + 4) (mk I X) Q) (k5 : (¬ (2 < l)) → ((β.1 0) = 1) → am_WP (am_psh g (some (.inl ((nI ((β.2.1 l) + 6))))) :: gs) (d + 4) (mk I X) Q) (k6 : (¬ (2 < l)) → (¬ (β.1 0) = 1) → ((β.1 0) = 2) → am_WP (am_psh g (some (.inl ((nI ((β.2.1 l) - 5))))) :: gs) (d + 4) (mk I X) Q) (k7 : (¬ (2 < l)) → (¬ (β.1 0) = 1) → (¬ (β.1 0) = 2) → ((β.1 0) = 3) → am_WP (am_psh g (some (.inl ((nI (((β.2.1 l) + 6) / 2))))) :: gs) (d + 4) (mk I X) Q) (k8 : (¬ (2 < l)) → (¬ (β.1 0) = 1) → (¬ (β.1 0) = 2) → (¬ (β.1 0) = 3) → ((β.1 0) = 4) → am_WP (am_psh g (some (.inl ((nI (((β.2.1 l) - 5) - ((β.1 1) / 20)))))) :: gs) (d + 4) (mk I X) Q) (k9 : (¬ (2 < l)) → (¬ (β.1 0) = 1) → (¬ (β.1 0) = 2) → (¬ (β.1 0) = 3) → (¬ (β.1 0) = 4) → am_WP (am_psh g (some (.inl ((nI (β.2.1 l))))) :: gs) (d + 4) (mk I X) Q) : am_WP (am_entry mX1_strong [.inr (.inr (some (1, c))), .inr (.inr (some (0, b))), .inl (x)] :: g :: gs) (d + 3) (mk I X) Q := by
  have hg_ := hg
  obtain ⟨hg0, hg1, _, _, _, hgs⟩ := hg_
  refine am_go 400 ?_
  refine (c_textOf_0 (c := c) (q := 0) (rfl : (0 : Int32) = nI 0) (by decide) hTs hl) _ _ _ ?_
  refine am_go 400 ?_
  refine am_f (ix_in (n := l) (N := 6) hx (by omega) (by decide)) ?_
  have tk0 : (x).toNatClampNeg = l := ix_cl (n := l) hx (by omega)
  have bd : (β.2.1 l) ≤ 24 := (hg.2.2.2.2.2 _ (by omega)).1
  have tk1 : I 16 b (((x).toNatClampNeg)) = nI (β.2.1 l) := by first | exact (hB _ (by omega)).2.1 | (((try rw [tk0])); first | done | exact (hB _ (by omega)).2.1)
  refine am_if (fun h1 => ?_) (fun h1 => ?_)
  · have nh1 := (lt_nat (a := 2) (b := l) (rfl : (2 : Int32) = nI 2) hx (by omega) (by omega)).mp h1
    have bd : (β.1 0) ≤ 5 := hg.1
    have tk2 : I 0 b 2 = nI (β.1 0) := (hB 0 (by omega)).1
    refine am_if (fun h2 => ?_) (fun h2 => ?_)
    · have nh2 := (eq_nat (a := (β.1 0)) (b := 1) tk2 (rfl : (1 : Int32) = nI 1) (by omega) (by omega)).mp h2
      have tk3 : ((I 16 b (((x).toNatClampNeg))) + 6) = nI ((β.2.1 l) + 6) := by first | exact (nI_addE tk1 (rfl : (6 : Int32) = nI 6)) | (((try rw [tk1]); (try rw [tk0])); first | done | exact (nI_addE tk1 (rfl : (6 : Int32) = nI 6)))
      show am_WP (am_psh g (some (.inl ((((I 16 b (((x).toNatClampNeg))) + 6))))) :: gs) (d + 4) (mk I X) Q
      try rw [tk3]
      try rw [tk1]
      try rw [tk0]
      exact k0 nh1 nh2
    have nh2 := mt (eq_nat (a := (β.1 0)) (b := 1) tk2 (rfl : (1 : Int32) = nI 1) (by omega) (by omega)).mpr h2
    refine am_if (fun h3 => ?_) (fun h3 => ?_)
    · have nh3 := (eq_nat (a := (β.1 0)) (b := 2) tk2 (rfl : (2 : Int32) = nI 2) (by omega) (by omega)).mp h3
      show am_WP (am_psh g (some (.inl ((I 16 b (((x).toNatClampNeg)))))) :: gs) (d + 4) (mk I X) Q
      try rw [tk1]
      try rw [tk0]
      exact k1 nh1 nh2 nh3
    have nh3 := mt (eq_nat (a := (β.1 0)) (b := 2) tk2 (rfl : (2 : Int32) = nI 2) (by omega) (by omega)).mpr h3
    refine am_if (fun h4 => ?_) (fun h4 => ?_)
    · have nh4 := (eq_nat (a := (β.1 0)) (b := 3) tk2 (rfl : (3 : Int32) = nI 3) (by omega) (by omega)).mp h4
      have tk4 : (((I 16 b (((x).toNatClampNeg))) + 6) / 2) = nI (((β.2.1 l) + 6) / 2) := by first | exact divE (nI_addE tk1 (rfl : (6 : Int32) = nI 6)) (rfl : (2 : Int32) = nI 2) (by omega) (by omega) (by omega) | (((try rw [tk1]); (try rw [tk0])); first | done | exact divE (nI_addE tk1 (rfl : (6 : Int32) = nI 6)) (rfl : (2 : Int32) = nI 2) (by omega) (by omega) (by omega))
      show am_WP (am_psh g (some (.inl (((((I 16 b (((x).toNatClampNeg))) + 6) / 2))))) :: gs) (d + 4) (mk I X) Q
      try rw [tk4]
      try rw [tk1]
      try rw [tk0]
      exact k2 nh1 nh2 nh3 nh4
    have nh4 := mt (eq_nat (a := (β.1 0)) (b := 3) tk2 (rfl : (3 : Int32) = nI 3) (by omega) (by omega)).mpr h4
    refine am_if (fun h5 => ?_) (fun h5 => ?_)
    · have nh5 := (eq_nat (a := (β.1 0)) (b := 4) tk2 (rfl : (4 : Int32) = nI 4) (by omega) (by omega)).mp h5
      have bd : (β.1 1) ≤ 99 := hg.2.1
      have tk5 : I 0 b 3 = nI (β.1 1) := (hB 1 (by omega)).1
      have tk6 : ((I 0 b 3) / 20) = nI ((β.1 1) / 20) := by first | exact divE tk5 (rfl : (20 : Int32) = nI 20) (by omega) (by omega) (by omega) | (((try rw [tk5])); first | done | exact divE tk5 (rfl : (20 : Int32) = nI 20) (by omega) (by omega) (by omega))
      have tk7 : (if ((I 16 b (((x).toNatClampNeg))) - (((I 0 b 3) / 20))) < 0 then 0 else ((I 16 b (((x).toNatClampNeg))) - (((I 0 b 3) / 20)))) = nI ((β.2.1 l) - ((β.1 1) / 20)) := by first | exact mxE tk1 tk6 (by omega) (by omega) | (((try rw [tk1]); (try rw [tk0]); (try rw [tk6]); (try rw [tk5])); first | done | exact mxE tk1 tk6 (by omega) (by omega))
      show am_WP (am_psh g (some (.inl (((if ((I 16 b (((x).toNatClampNeg))) - (((I 0 b 3) / 20))) < 0 then 0 else ((I 16 b (((x).toNatClampNeg))) - (((I 0 b 3) / 20)))))))) :: gs) (d + 4) (mk I X) Q
      try rw [tk7]
      try rw [tk1]
      try rw [tk0]
      try rw [tk6]
      try rw [tk5]
      exact k3 nh1 nh2 nh3 nh4 nh5
    have nh5 := mt (eq_nat (a := (β.1 0)) (b := 4) tk2 (rfl : (4 : Int32) = nI 4) (by omega) (by omega)).mpr h5
    show am_WP (am_psh g (some (.inl ((I 16 b (((x).toNatClampNeg)))))) :: gs) (d + 4) (mk I X) Q
    try rw [tk1]
    try rw [tk0]
    exact k4 nh1 nh2 nh3 nh4 nh5
  · have nh1 := mt (lt_nat (a := 2) (b := l) (rfl : (2 : Int32) = nI 2) hx (by omega) (by omega)).mpr h1
    have tk8 : (if ((I 16 b (((x).toNatClampNeg))) - 5) < 0 then 0 else ((I 16 b (((x).toNatClampNeg))) - 5)) = nI ((β.2.1 l) - 5) := by first | exact mxE tk1 (rfl : (5 : Int32) = nI 5) (by omega) (by omega) | (((try rw [tk1]); (try rw [tk0])); first | done | exact mxE tk1 (rfl : (5 : Int32) = nI 5) (by omega) (by omega))
    have bd : (β.1 0) ≤ 5 := hg.1
    have tk9 : I 0 b 2 = nI (β.1 0) := (hB 0 (by omega)).1
    refine am_if (fun h6 => ?_) (fun h6 => ?_)
    · have nh6 := (eq_nat (a := (β.1 0)) (b := 1) tk9 (rfl : (1 : Int32) = nI 1) (by omega) (by omega)).mp h6
      have tk10 : ((I 16 b (((x).toNatClampNeg))) + 6) = nI ((β.2.1 l) + 6) := by first | exact (nI_addE tk1 (rfl : (6 : Int32) = nI 6)) | (((try rw [tk1]); (try rw [tk0])); first | done | exact (nI_addE tk1 (rfl : (6 : Int32) = nI 6)))
      show am_WP (am_psh g (some (.inl ((((I 16 b (((x).toNatClampNeg))) + 6))))) :: gs) (d + 4) (mk I X) Q
      try rw [tk10]
      try rw [tk1]
      try rw [tk0]
      exact k5 nh1 nh6
    have nh6 := mt (eq_nat (a := (β.1 0)) (b := 1) tk9 (rfl : (1 : Int32) = nI 1) (by omega) (by omega)).mpr h6
    refine am_if (fun h7 => ?_) (fun h7 => ?_)
    · have nh7 := (eq_nat (a := (β.1 0)) (b := 2) tk9 (rfl : (2 : Int32) = nI 2) (by omega) (by omega)).mp h7
      show am_WP (am_psh g (some (.inl (((if ((I 16 b (((x).toNatClampNeg))) - 5) < 0 then 0 else ((I 16 b (((x).toNatClampNeg))) - 5)))))) :: gs) (d + 4) (mk I X) Q
      try rw [tk8]
      try rw [tk1]
      try rw [tk0]
      exact k6 nh1 nh6 nh7
    have nh7 := mt (eq_nat (a := (β.1 0)) (b := 2) tk9 (rfl : (2 : Int32) = nI 2) (by omega) (by omega)).mpr h7
    refine am_if (fun h8 => ?_) (fun h8 => ?_)
    · have nh8 := (eq_nat (a := (β.1 0)) (b := 3) tk9 (rfl : (3 : Int32) = nI 3) (by omega) (by omega)).mp h8
      have tk11 : (((I 16 b (((x).toNatClampNeg))) + 6) / 2) = nI (((β.2.1 l) + 6) / 2) := by first | exact divE (nI_addE tk1 (rfl : (6 : Int32) = nI 6)) (rfl : (2 : Int32) = nI 2) (by omega) (by omega) (by omega) | (((try rw [tk1]); (try rw [tk0])); first | done | exact divE (nI_addE tk1 (rfl : (6 : Int32) = nI 6)) (rfl : (2 : Int32) = nI 2) (by omega) (by omega) (by omega))
      show am_WP (am_psh g (some (.inl (((((I 16 b (((x).toNatClampNeg))) + 6) / 2))))) :: gs) (d + 4) (mk I X) Q
      try rw [tk11]
      try rw [tk1]
      try rw [tk0]
      exact k7 nh1 nh6 nh7 nh8
    have nh8 := mt (eq_nat (a := (β.1 0)) (b := 3) tk9 (rfl : (3 : Int32) = nI 3) (by omega) (by omega)).mpr h8
    refine am_if (fun h9 => ?_) (fun h9 => ?_)
    · have nh9 := (eq_nat (a := (β.1 0)) (b := 4) tk9 (rfl : (4 : Int32) = nI 4) (by omega) (by omega)).mp h9
      have bd : (β.1 1) ≤ 99 := hg.2.1
      have tk12 : I 0 b 3 = nI (β.1 1) := (hB 1 (by omega)).1
      have tk13 : ((I 0 b 3) / 20) = nI ((β.1 1) / 20) := by first | exact divE tk12 (rfl : (20 : Int32) = nI 20) (by omega) (by omega) (by omega) | (((try rw [tk12])); first | done | exact divE tk12 (rfl : (20 : Int32) = nI 20) (by omega) (by omega) (by omega))
      have tk14 : (if (((if ((I 16 b (((x).toNatClampNeg))) - 5) < 0 then 0 else ((I 16 b (((x).toNatClampNeg))) - 5))) - (((I 0 b 3) / 20))) < 0 then 0 else (((if ((I 16 b (((x).toNatClampNeg))) - 5) < 0 then 0 else ((I 16 b (((x).toNatClampNeg))) - 5))) - (((I 0 b 3) / 20)))) = nI (((β.2.1 l) - 5) - ((β.1 1) / 20)) := by first | exact mxE tk8 tk13 (by omega) (by omega) | (((try rw [tk8]); (try rw [tk1]); (try rw [tk0]); (try rw [tk13]); (try rw [tk12])); first | done | exact mxE tk8 tk13 (by omega) (by omega))
      show am_WP (am_psh g (some (.inl (((if (((if ((I 16 b (((x).toNatClampNeg))) - 5) < 0 then 0 else ((I 16 b (((x).toNatClampNeg))) - 5))) - (((I 0 b 3) / 20))) < 0 then 0 else (((if ((I 16 b (((x).toNatClampNeg))) - 5) < 0 then 0 else ((I 16 b (((x).toNatClampNeg))) - 5))) - (((I 0 b 3) / 20)))))))) :: gs) (d + 4) (mk I X) Q
      try rw [tk14]
      try rw [tk8]
      try rw [tk1]
      try rw [tk0]
      try rw [tk13]
      try rw [tk12]
      exact k8 nh1 nh6 nh7 nh8 nh9
    have nh9 := mt (eq_nat (a := (β.1 0)) (b := 4) tk9 (rfl : (4 : Int32) = nI 4) (by omega) (by omega)).mpr h9
    show am_WP (am_psh g (some (.inl ((I 16 b (((x).toNatClampNeg)))))) :: gs) (d + 4) (mk I X) Q
    try rw [tk1]
    try rw [tk0]
    exact k9 nh1 nh6 nh7 nh8 nh9
set_option maxRecDepth 100000 in
set_option maxHeartbeats 4000000 in
theorem w_strC_1 {I : Nat → Nat → Nat → Int32} {X : am_Z} {g : am_F} {gs : List am_F} {d : Nat} {Q : Option am_V → am_M → Prop} {c b l nt : Nat} {tx : Nat → Tx} {β : Bn} {x : Int32} (hB : RB (cB I b) β) (hg : GB β) (hTs : TsC I X c nt tx) (hn : nt ≤ 14) (hx : x = nI l) (hl6 : l < 6) {t id : Nat} (hl : lastT tx 0 nt = some t) (hid : X.1 c t = some (6, id)) (hTx : TxC I X id (tx t)) (hGT : GT (tx t)) (k0 : ∀ (I1 : Im), (FrK I I1) → (2 < l) → ((β.1 0) = 1) → am_WP (am_psh g (some (.inl ((nI ((clN ((tv (tx t) (nm3 ((nI (β.2.1 l))) ((nI (β.1 1))) (x)))) 99) + 6))))) :: gs) (d + 4) (mk I1 X) Q) (k1 : ∀ (I1 : Im), (FrK I I1) → (2 < l) → (¬ (β.1 0) = 1) → ((β.1 0) = 2) → am_WP (am_psh g (some (.inl ((nI (clN ((tv (tx t) (nm3 ((nI (β.2.1 l))) ((nI (β.1 1))) (x)))) 99))))) :: gs) (d + 4) (mk I1 X) Q) (k2 : ∀ (I1 : Im), (FrK I I1) → (2 < l) → (¬ (β.1 0) = 1) → (¬ (β.1 0) = 2) → ((β.1 0) = 3) → am_WP (am_psh g (some (.inl ((nI (((clN ((tv (tx t) (nm3 ((nI (β.2.1 l))) ((nI (β.1 1))) (x)))) 99) + 6) / 2))))) :: gs) (d + 4) (mk I1 X) Q) (k3 : ∀ (I1 : Im), (FrK I I1) → (2 < l) → (¬ (β.1 0) = 1) → (¬ (β.1 0) = 2) → (¬ (β.1 0) = 3) → ((β.1 0) = 4) → am_WP (am_psh g (some (.inl ((nI ((clN ((tv (tx t) (nm3 ((nI (β.2.1 l))) ((nI (β.1 1))) (x)))) 99) - ((β.1 1) / 20)))))) :: gs) (d + 4) (mk I1 X) Q) (k4 : ∀ (I1 : Im), (FrK I I1) → (2 < l) → (¬ (β.1 0) = 1) → (¬ (β.1 0) = 2) → (¬ (β.1 0) = 3) → (¬ (β.1 0) = 4) → am_WP (am_psh g (some (.inl ((nI (clN ((tv (tx t) (nm3 ((nI (β.2.1 l))) ((nI (β.1 1))) (x)))) 99))))) :: gs) (d + 4) (mk I1 X) Q) (k5 : ∀ (I1 : Im), (FrK I I1) → (¬ (2 < l)) → ((β.1 0) = 1) → am_WP (am_psh g (some (.inl ((nI ((clN ((tv (tx t) (nm3 ((nI (β.2.1 l))) ((nI (β.1 1))) (x)))) 99) + 6))))) :: gs) (d + 4) (mk I1 X) Q) (k6 : ∀ (I1 : Im), (FrK I I1) → (¬ (2 < l)) → (¬ (β.1 0) = 1) → ((β.1 0) = 2) → am_WP (am_psh g (some (.inl ((nI ((clN ((tv (tx t) (nm3 ((nI (β.2.1 l))) ((nI (β.1 1))) (x)))) 99) - 5))))) :: gs) (d + 4) (mk I1 X) Q) (k7 : ∀ (I1 : Im), (FrK I I1) → (¬ (2 < l)) → (¬ (β.1 0) = 1) → (¬ (β.1 0) = 2) → ((β.1 0) = 3) → am_WP (am_psh g (some (.inl ((nI (((clN ((tv (tx t) (nm3 ((nI (β.2.1 l))) ((nI (β.1 1))) (x)))) 99) + 6) / 2))))) :: gs) (d + 4) (mk I1 X) Q) (k8 : ∀ (I1 : Im), (FrK I I1) → (¬ (2 < l)) → (¬ (β.1 0) = 1) → (¬ (β.1 0) = 2) → (¬ (β.1 0) = 3) → ((β.1 0) = 4) → am_WP (am_psh g (some (.inl ((nI (((clN ((tv (tx t) (nm3 ((nI (β.2.1 l))) ((nI (β.1 1))) (x)))) 99) - 5) - ((β.1 1) / 20)))))) :: gs) (d + 4) (mk I1 X) Q) (k9 : ∀ (I1 : Im), (FrK I I1) → (¬ (2 < l)) → (¬ (β.1 0) = 1) → (¬ (β.1 0) = 2) → (¬ (β.1 0) = 3) → (¬ (β.1 0) = 4) → am_WP (am_psh g (some (.inl ((nI (clN ((tv (tx t) (nm3 ((nI (β.2.1 l))) ((nI (β.1 1))) (x)))) 99))))) :: gs) (d + 4) (mk I1 X) Q) : am_WP (am_entry mX1_strong [.inr (.inr (some (1, c))), .inr (.inr (some (0, b))), .inl (x)] :: g :: gs) (d + 3) (mk I X) Q := by
  have hg_ := hg
  obtain ⟨hg0, hg1, _, _, _, hgs⟩ := hg_
  refine am_go 400 ?_
  refine (c_textOf_1 (c := c) (q := 0) (rfl : (0 : Int32) = nI 0) (by decide) hTs hn hl hid) _ _ _ ?_
  refine am_go 400 ?_
  refine am_f (ix_in (n := l) (N := 6) hx (by omega) (by decide)) ?_
  have tk0 : (x).toNatClampNeg = l := ix_cl (n := l) hx (by omega)
  have bd : (β.2.1 l) ≤ 24 := (hg.2.2.2.2.2 _ (by omega)).1
  have tk1 : I 16 b (((x).toNatClampNeg)) = nI (β.2.1 l) := by first | exact (hB _ (by omega)).2.1 | (((try rw [tk0])); first | done | exact (hB _ (by omega)).2.1)
  have bd : (β.1 1) ≤ 99 := hg.2.1
  have tk2 : I 0 b 3 = nI (β.1 1) := (hB 1 (by omega)).1
  refine (c_X6_gives hTx hGT) _ _ _ ?_
  intro I1 p1
  refine am_go 400 ?_
  have bd : clN ((tv (tx t) (nm3 ((nI (β.2.1 l))) ((nI (β.1 1))) (x)))) 99 ≤ 99 := clN_le _ _ (by decide)
  have tk3 : nI (clN ((tv (tx t) (nm3 ((I 16 b (((x).toNatClampNeg)))) ((I 0 b 3)) (x)))) 99) = nI (clN ((tv (tx t) (nm3 ((nI (β.2.1 l))) ((nI (β.1 1))) (x)))) 99) := by first | exact rfl | (((try rw [tk1]); (try rw [tk0]); (try rw [tk2])); first | done | exact rfl)
  refine (c_X7_heldWithin (m := 99) ((tv (tx t) (nm3 ((I 16 b (((x).toNatClampNeg)))) ((I 0 b 3)) (x)))) (by decide)) _ _ _ ?_
  refine am_go 400 ?_
  refine am_if (fun h1 => ?_) (fun h1 => ?_)
  · have nh1 := (lt_nat (a := 2) (b := l) (rfl : (2 : Int32) = nI 2) hx (by omega) (by omega)).mp h1
    have bd : (β.1 0) ≤ 5 := hg.1
    have tk4 : I1 0 b 2 = nI (β.1 0) := ((congrFun (congrFun (p1 0 (by decide)) _) _).trans ((hB 0 (by omega)).1))
    refine am_if (fun h2 => ?_) (fun h2 => ?_)
    · have nh2 := (eq_nat (a := (β.1 0)) (b := 1) tk4 (rfl : (1 : Int32) = nI 1) (by omega) (by omega)).mp h2
      have tk5 : ((nI (clN ((tv (tx t) (nm3 ((I 16 b (((x).toNatClampNeg)))) ((I 0 b 3)) (x)))) 99)) + 6) = nI ((clN ((tv (tx t) (nm3 ((nI (β.2.1 l))) ((nI (β.1 1))) (x)))) 99) + 6) := by first | exact (nI_addE tk3 (rfl : (6 : Int32) = nI 6)) | (((try rw [tk3]); (try rw [tk1]); (try rw [tk0]); (try rw [tk2])); first | done | exact (nI_addE tk3 (rfl : (6 : Int32) = nI 6)))
      show am_WP (am_psh g (some (.inl ((((nI (clN ((tv (tx t) (nm3 ((I 16 b (((x).toNatClampNeg)))) ((I 0 b 3)) (x)))) 99)) + 6))))) :: gs) (d + 4) (mk I1 X) Q
      try rw [tk5]
      try rw [tk3]
      try rw [tk1]
      try rw [tk0]
      try rw [tk2]
      exact k0 I1 p1 nh1 nh2
    have nh2 := mt (eq_nat (a := (β.1 0)) (b := 1) tk4 (rfl : (1 : Int32) = nI 1) (by omega) (by omega)).mpr h2
    refine am_if (fun h3 => ?_) (fun h3 => ?_)
    · have nh3 := (eq_nat (a := (β.1 0)) (b := 2) tk4 (rfl : (2 : Int32) = nI 2) (by omega) (by omega)).mp h3
      show am_WP (am_psh g (some (.inl ((nI (clN ((tv (tx t) (nm3 ((I 16 b (((x).toNatClampNeg)))) ((I 0 b 3)) (x)))) 99))))) :: gs) (d + 4) (mk I1 X) Q
      try rw [tk3]
      try rw [tk1]
      try rw [tk0]
      try rw [tk2]
      exact k1 I1 p1 nh1 nh2 nh3
    have nh3 := mt (eq_nat (a := (β.1 0)) (b := 2) tk4 (rfl : (2 : Int32) = nI 2) (by omega) (by omega)).mpr h3
    refine am_if (fun h4 => ?_) (fun h4 => ?_)
    · have nh4 := (eq_nat (a := (β.1 0)) (b := 3) tk4 (rfl : (3 : Int32) = nI 3) (by omega) (by omega)).mp h4
      have tk6 : (((nI (clN ((tv (tx t) (nm3 ((I 16 b (((x).toNatClampNeg)))) ((I 0 b 3)) (x)))) 99)) + 6) / 2) = nI (((clN ((tv (tx t) (nm3 ((nI (β.2.1 l))) ((nI (β.1 1))) (x)))) 99) + 6) / 2) := by first | exact divE (nI_addE tk3 (rfl : (6 : Int32) = nI 6)) (rfl : (2 : Int32) = nI 2) (by omega) (by omega) (by omega) | (((try rw [tk3]); (try rw [tk1]); (try rw [tk0]); (try rw [tk2])); first | done | exact divE (nI_addE tk3 (rfl : (6 : Int32) = nI 6)) (rfl : (2 : Int32) = nI 2) (by omega) (by omega) (by omega))
      show am_WP (am_psh g (some (.inl (((((nI (clN ((tv (tx t) (nm3 ((I 16 b (((x).toNatClampNeg)))) ((I 0 b 3)) (x)))) 99)) + 6) / 2))))) :: gs) (d + 4) (mk I1 X) Q
      try rw [tk6]
      try rw [tk3]
      try rw [tk1]
      try rw [tk0]
      try rw [tk2]
      exact k2 I1 p1 nh1 nh2 nh3 nh4
    have nh4 := mt (eq_nat (a := (β.1 0)) (b := 3) tk4 (rfl : (3 : Int32) = nI 3) (by omega) (by omega)).mpr h4
    refine am_if (fun h5 => ?_) (fun h5 => ?_)
    · have nh5 := (eq_nat (a := (β.1 0)) (b := 4) tk4 (rfl : (4 : Int32) = nI 4) (by omega) (by omega)).mp h5
      have bd : (β.1 1) ≤ 99 := hg.2.1
      have tk7 : I1 0 b 3 = nI (β.1 1) := ((congrFun (congrFun (p1 0 (by decide)) _) _).trans ((hB 1 (by omega)).1))
      have tk8 : ((I1 0 b 3) / 20) = nI ((β.1 1) / 20) := by first | exact divE tk7 (rfl : (20 : Int32) = nI 20) (by omega) (by omega) (by omega) | (((try rw [tk7])); first | done | exact divE tk7 (rfl : (20 : Int32) = nI 20) (by omega) (by omega) (by omega))
      have tk9 : (if ((nI (clN ((tv (tx t) (nm3 ((I 16 b (((x).toNatClampNeg)))) ((I 0 b 3)) (x)))) 99)) - (((I1 0 b 3) / 20))) < 0 then 0 else ((nI (clN ((tv (tx t) (nm3 ((I 16 b (((x).toNatClampNeg)))) ((I 0 b 3)) (x)))) 99)) - (((I1 0 b 3) / 20)))) = nI ((clN ((tv (tx t) (nm3 ((nI (β.2.1 l))) ((nI (β.1 1))) (x)))) 99) - ((β.1 1) / 20)) := by first | exact mxE tk3 tk8 (by omega) (by omega) | (((try rw [tk3]); (try rw [tk1]); (try rw [tk8]); (try rw [tk0]); (try rw [tk7]); (try rw [tk2])); first | done | exact mxE tk3 tk8 (by omega) (by omega))
      show am_WP (am_psh g (some (.inl (((if ((nI (clN ((tv (tx t) (nm3 ((I 16 b (((x).toNatClampNeg)))) ((I 0 b 3)) (x)))) 99)) - (((I1 0 b 3) / 20))) < 0 then 0 else ((nI (clN ((tv (tx t) (nm3 ((I 16 b (((x).toNatClampNeg)))) ((I 0 b 3)) (x)))) 99)) - (((I1 0 b 3) / 20)))))))) :: gs) (d + 4) (mk I1 X) Q
      try rw [tk9]
      try rw [tk3]
      try rw [tk1]
      try rw [tk8]
      try rw [tk0]
      try rw [tk7]
      try rw [tk2]
      exact k3 I1 p1 nh1 nh2 nh3 nh4 nh5
    have nh5 := mt (eq_nat (a := (β.1 0)) (b := 4) tk4 (rfl : (4 : Int32) = nI 4) (by omega) (by omega)).mpr h5
    show am_WP (am_psh g (some (.inl ((nI (clN ((tv (tx t) (nm3 ((I 16 b (((x).toNatClampNeg)))) ((I 0 b 3)) (x)))) 99))))) :: gs) (d + 4) (mk I1 X) Q
    try rw [tk3]
    try rw [tk1]
    try rw [tk0]
    try rw [tk2]
    exact k4 I1 p1 nh1 nh2 nh3 nh4 nh5
  · have nh1 := mt (lt_nat (a := 2) (b := l) (rfl : (2 : Int32) = nI 2) hx (by omega) (by omega)).mpr h1
    have tk10 : (if ((nI (clN ((tv (tx t) (nm3 ((I 16 b (((x).toNatClampNeg)))) ((I 0 b 3)) (x)))) 99)) - 5) < 0 then 0 else ((nI (clN ((tv (tx t) (nm3 ((I 16 b (((x).toNatClampNeg)))) ((I 0 b 3)) (x)))) 99)) - 5)) = nI ((clN ((tv (tx t) (nm3 ((nI (β.2.1 l))) ((nI (β.1 1))) (x)))) 99) - 5) := by first | exact mxE tk3 (rfl : (5 : Int32) = nI 5) (by omega) (by omega) | (((try rw [tk3]); (try rw [tk1]); (try rw [tk0]); (try rw [tk2])); first | done | exact mxE tk3 (rfl : (5 : Int32) = nI 5) (by omega) (by omega))
    have bd : (β.1 0) ≤ 5 := hg.1
    have tk11 : I1 0 b 2 = nI (β.1 0) := ((congrFun (congrFun (p1 0 (by decide)) _) _).trans ((hB 0 (by omega)).1))
    refine am_if (fun h6 => ?_) (fun h6 => ?_)
    · have nh6 := (eq_nat (a := (β.1 0)) (b := 1) tk11 (rfl : (1 : Int32) = nI 1) (by omega) (by omega)).mp h6
      have tk12 : ((nI (clN ((tv (tx t) (nm3 ((I 16 b (((x).toNatClampNeg)))) ((I 0 b 3)) (x)))) 99)) + 6) = nI ((clN ((tv (tx t) (nm3 ((nI (β.2.1 l))) ((nI (β.1 1))) (x)))) 99) + 6) := by first | exact (nI_addE tk3 (rfl : (6 : Int32) = nI 6)) | (((try rw [tk3]); (try rw [tk1]); (try rw [tk0]); (try rw [tk2])); first | done | exact (nI_addE tk3 (rfl : (6 : Int32) = nI 6)))
      show am_WP (am_psh g (some (.inl ((((nI (clN ((tv (tx t) (nm3 ((I 16 b (((x).toNatClampNeg)))) ((I 0 b 3)) (x)))) 99)) + 6))))) :: gs) (d + 4) (mk I1 X) Q
      try rw [tk12]
      try rw [tk3]
      try rw [tk1]
      try rw [tk0]
      try rw [tk2]
      exact k5 I1 p1 nh1 nh6
    have nh6 := mt (eq_nat (a := (β.1 0)) (b := 1) tk11 (rfl : (1 : Int32) = nI 1) (by omega) (by omega)).mpr h6
    refine am_if (fun h7 => ?_) (fun h7 => ?_)
    · have nh7 := (eq_nat (a := (β.1 0)) (b := 2) tk11 (rfl : (2 : Int32) = nI 2) (by omega) (by omega)).mp h7
      show am_WP (am_psh g (some (.inl (((if ((nI (clN ((tv (tx t) (nm3 ((I 16 b (((x).toNatClampNeg)))) ((I 0 b 3)) (x)))) 99)) - 5) < 0 then 0 else ((nI (clN ((tv (tx t) (nm3 ((I 16 b (((x).toNatClampNeg)))) ((I 0 b 3)) (x)))) 99)) - 5)))))) :: gs) (d + 4) (mk I1 X) Q
      try rw [tk10]
      try rw [tk3]
      try rw [tk1]
      try rw [tk0]
      try rw [tk2]
      exact k6 I1 p1 nh1 nh6 nh7
    have nh7 := mt (eq_nat (a := (β.1 0)) (b := 2) tk11 (rfl : (2 : Int32) = nI 2) (by omega) (by omega)).mpr h7
    refine am_if (fun h8 => ?_) (fun h8 => ?_)
    · have nh8 := (eq_nat (a := (β.1 0)) (b := 3) tk11 (rfl : (3 : Int32) = nI 3) (by omega) (by omega)).mp h8
      have tk13 : (((nI (clN ((tv (tx t) (nm3 ((I 16 b (((x).toNatClampNeg)))) ((I 0 b 3)) (x)))) 99)) + 6) / 2) = nI (((clN ((tv (tx t) (nm3 ((nI (β.2.1 l))) ((nI (β.1 1))) (x)))) 99) + 6) / 2) := by first | exact divE (nI_addE tk3 (rfl : (6 : Int32) = nI 6)) (rfl : (2 : Int32) = nI 2) (by omega) (by omega) (by omega) | (((try rw [tk3]); (try rw [tk1]); (try rw [tk0]); (try rw [tk2])); first | done | exact divE (nI_addE tk3 (rfl : (6 : Int32) = nI 6)) (rfl : (2 : Int32) = nI 2) (by omega) (by omega) (by omega))
      show am_WP (am_psh g (some (.inl (((((nI (clN ((tv (tx t) (nm3 ((I 16 b (((x).toNatClampNeg)))) ((I 0 b 3)) (x)))) 99)) + 6) / 2))))) :: gs) (d + 4) (mk I1 X) Q
      try rw [tk13]
      try rw [tk3]
      try rw [tk1]
      try rw [tk0]
      try rw [tk2]
      exact k7 I1 p1 nh1 nh6 nh7 nh8
    have nh8 := mt (eq_nat (a := (β.1 0)) (b := 3) tk11 (rfl : (3 : Int32) = nI 3) (by omega) (by omega)).mpr h8
    refine am_if (fun h9 => ?_) (fun h9 => ?_)
    · have nh9 := (eq_nat (a := (β.1 0)) (b := 4) tk11 (rfl : (4 : Int32) = nI 4) (by omega) (by omega)).mp h9
      have bd : (β.1 1) ≤ 99 := hg.2.1
      have tk14 : I1 0 b 3 = nI (β.1 1) := ((congrFun (congrFun (p1 0 (by decide)) _) _).trans ((hB 1 (by omega)).1))
      have tk15 : ((I1 0 b 3) / 20) = nI ((β.1 1) / 20) := by first | exact divE tk14 (rfl : (20 : Int32) = nI 20) (by omega) (by omega) (by omega) | (((try rw [tk14])); first | done | exact divE tk14 (rfl : (20 : Int32) = nI 20) (by omega) (by omega) (by omega))
      have tk16 : (if (((if ((nI (clN ((tv (tx t) (nm3 ((I 16 b (((x).toNatClampNeg)))) ((I 0 b 3)) (x)))) 99)) - 5) < 0 then 0 else ((nI (clN ((tv (tx t) (nm3 ((I 16 b (((x).toNatClampNeg)))) ((I 0 b 3)) (x)))) 99)) - 5))) - (((I1 0 b 3) / 20))) < 0 then 0 else (((if ((nI (clN ((tv (tx t) (nm3 ((I 16 b (((x).toNatClampNeg)))) ((I 0 b 3)) (x)))) 99)) - 5) < 0 then 0 else ((nI (clN ((tv (tx t) (nm3 ((I 16 b (((x).toNatClampNeg)))) ((I 0 b 3)) (x)))) 99)) - 5))) - (((I1 0 b 3) / 20)))) = nI (((clN ((tv (tx t) (nm3 ((nI (β.2.1 l))) ((nI (β.1 1))) (x)))) 99) - 5) - ((β.1 1) / 20)) := by first | exact mxE tk10 tk15 (by omega) (by omega) | (((try rw [tk10]); (try rw [tk3]); (try rw [tk1]); (try rw [tk15]); (try rw [tk0]); (try rw [tk14]); (try rw [tk2])); first | done | exact mxE tk10 tk15 (by omega) (by omega))
      show am_WP (am_psh g (some (.inl (((if (((if ((nI (clN ((tv (tx t) (nm3 ((I 16 b (((x).toNatClampNeg)))) ((I 0 b 3)) (x)))) 99)) - 5) < 0 then 0 else ((nI (clN ((tv (tx t) (nm3 ((I 16 b (((x).toNatClampNeg)))) ((I 0 b 3)) (x)))) 99)) - 5))) - (((I1 0 b 3) / 20))) < 0 then 0 else (((if ((nI (clN ((tv (tx t) (nm3 ((I 16 b (((x).toNatClampNeg)))) ((I 0 b 3)) (x)))) 99)) - 5) < 0 then 0 else ((nI (clN ((tv (tx t) (nm3 ((I 16 b (((x).toNatClampNeg)))) ((I 0 b 3)) (x)))) 99)) - 5))) - (((I1 0 b 3) / 20)))))))) :: gs) (d + 4) (mk I1 X) Q
      try rw [tk16]
      try rw [tk10]
      try rw [tk3]
      try rw [tk1]
      try rw [tk15]
      try rw [tk0]
      try rw [tk14]
      try rw [tk2]
      exact k8 I1 p1 nh1 nh6 nh7 nh8 nh9
    have nh9 := mt (eq_nat (a := (β.1 0)) (b := 4) tk11 (rfl : (4 : Int32) = nI 4) (by omega) (by omega)).mpr h9
    show am_WP (am_psh g (some (.inl ((nI (clN ((tv (tx t) (nm3 ((I 16 b (((x).toNatClampNeg)))) ((I 0 b 3)) (x)))) 99))))) :: gs) (d + 4) (mk I1 X) Q
    try rw [tk3]
    try rw [tk1]
    try rw [tk0]
    try rw [tk2]
    exact k9 I1 p1 nh1 nh6 nh7 nh8 nh9
set_option maxRecDepth 100000 in
set_option maxHeartbeats 4000000 in
theorem w_strM_0 {I : Nat → Nat → Nat → Int32} {X : am_Z} {g : am_F} {gs : List am_F} {d : Nat} {Q : Option am_V → am_M → Prop} {b l nt : Nat} {tx : Nat → Tx} {β : Bn} {u x : Int32} (hB : RB (mB (I 30 0) b) β) (hg : GB β) (hN : I 30 0 1 = nI nt) (hn : nt ≤ 14) (hT : ∀ t, t < nt → TxM (I 30 0) t (tx t)) (hG : ∀ t, t < nt → GT (tx t)) (hu : u = nI b) (hb : b < 8) (hx : x = nI l) (hl6 : l < 6) (hl : lastT tx 0 nt = none) (k0 : (3 ≤ l) → ((β.1 0) = 1) → am_WP (am_psh g (some (.inl ((nI ((β.2.1 l) + 6))))) :: gs) (d + 3) (mk I X) Q) (k1 : (3 ≤ l) → (¬ (β.1 0) = 1) → ((β.1 0) = 2) → am_WP (am_psh g (some (.inl ((nI (β.2.1 l))))) :: gs) (d + 3) (mk I X) Q) (k2 : (3 ≤ l) → (¬ (β.1 0) = 1) → (¬ (β.1 0) = 2) → ((β.1 0) = 3) → am_WP (am_psh g (some (.inl ((nI (((β.2.1 l) + 6) / 2))))) :: gs) (d + 3) (mk I X) Q) (k3 : (3 ≤ l) → (¬ (β.1 0) = 1) → (¬ (β.1 0) = 2) → (¬ (β.1 0) = 3) → ((β.1 0) = 4) → am_WP (am_psh g (some (.inl ((nI ((β.2.1 l) - ((β.1 1) / 20)))))) :: gs) (d + 3) (mk I X) Q) (k4 : (3 ≤ l) → (¬ (β.1 0) = 1) → (¬ (β.1 0) = 2) → (¬ (β.1 0) = 3) → (¬ (β.1 0) = 4) → am_WP (am_psh g (some (.inl ((nI (β.2.1 l))))) :: gs) (d + 3) (mk I X) Q) (k5 : (¬ (3 ≤ l)) → ((β.1 0) = 1) → am_WP (am_psh g (some (.inl ((nI ((β.2.1 l) + 6))))) :: gs) (d + 3) (mk I X) Q) (k6 : (¬ (3 ≤ l)) → (¬ (β.1 0) = 1) → ((β.1 0) = 2) → am_WP (am_psh g (some (.inl ((nI ((β.2.1 l) - 5))))) :: gs) (d + 3) (mk I X) Q) (k7 : (¬ (3 ≤ l)) → (¬ (β.1 0) = 1) → (¬ (β.1 0) = 2) → ((β.1 0) = 3) → am_WP (am_psh g (some (.inl ((nI (((β.2.1 l) + 6) / 2))))) :: gs) (d + 3) (mk I X) Q) (k8 : (¬ (3 ≤ l)) → (¬ (β.1 0) = 1) → (¬ (β.1 0) = 2) → (¬ (β.1 0) = 3) → ((β.1 0) = 4) → am_WP (am_psh g (some (.inl ((nI (((β.2.1 l) - 5) - ((β.1 1) / 20)))))) :: gs) (d + 3) (mk I X) Q) (k9 : (¬ (3 ≤ l)) → (¬ (β.1 0) = 1) → (¬ (β.1 0) = 2) → (¬ (β.1 0) = 3) → (¬ (β.1 0) = 4) → am_WP (am_psh g (some (.inl ((nI (β.2.1 l))))) :: gs) (d + 3) (mk I X) Q) : am_WP (am_entry mX8_strong [.inr (.inr (some (8, 0))), .inl (u), .inl (x)] :: g :: gs) (d + 2) (mk I X) Q := by
  have hg_ := hg
  obtain ⟨hg0, hg1, _, _, _, hgs⟩ := hg_
  refine am_go 400 ?_
  have bd : (β.2.1 l) ≤ 24 := (hg.2.2.2.2.2 _ (by omega)).1
  have tk0 : I 30 0 (6 + 18 * b + (6 + l)) = nI (β.2.1 l) := (hB l (by omega)).2.1
  refine (c8_of (k := b) (j := (6 + l)) hu (nI_addE (rfl : (6 : Int32) = nI 6) hx) (by omega)) _ _ _ ?_
  refine am_go 400 ?_
  refine (c_counts_0 (q := 0) (rfl : (0 : Int32) = nI 0) (by decide) hN hn hT hG hl) _ _ _ ?_
  refine am_go 400 ?_
  refine am_if (fun h1 => ?_) (fun h1 => ?_)
  · have nh1 := (le_nat (a := 3) (b := l) (rfl : (3 : Int32) = nI 3) hx (by omega) (by omega)).mp h1
    have bd : (β.1 0) ≤ 5 := hg.1
    have tk1 : I 30 0 (6 + 18 * b + 0) = nI (β.1 0) := (hB 0 (by omega)).1
    refine (c8_of (k := b) (j := 0) hu rfl (by omega)) _ _ _ ?_
    refine am_go 400 ?_
    refine am_if (fun h2 => ?_) (fun h2 => ?_)
    · have nh2 := (eq_nat (a := (β.1 0)) (b := 1) tk1 (rfl : (1 : Int32) = nI 1) (by omega) (by omega)).mp h2
      have tk2 : ((I 30 0 (6 + 18 * b + (6 + l))) + 6) = nI ((β.2.1 l) + 6) := by first | exact (nI_addE tk0 (rfl : (6 : Int32) = nI 6)) | (((try rw [tk0])); first | done | exact (nI_addE tk0 (rfl : (6 : Int32) = nI 6)))
      show am_WP (am_psh g (some (.inl ((((I 30 0 (6 + 18 * b + (6 + l))) + 6))))) :: gs) (d + 3) (mk I X) Q
      try rw [tk2]
      try rw [tk0]
      exact k0 nh1 nh2
    have nh2 := mt (eq_nat (a := (β.1 0)) (b := 1) tk1 (rfl : (1 : Int32) = nI 1) (by omega) (by omega)).mpr h2
    refine am_if (fun h3 => ?_) (fun h3 => ?_)
    · have nh3 := (eq_nat (a := (β.1 0)) (b := 2) tk1 (rfl : (2 : Int32) = nI 2) (by omega) (by omega)).mp h3
      show am_WP (am_psh g (some (.inl ((I 30 0 (6 + 18 * b + (6 + l)))))) :: gs) (d + 3) (mk I X) Q
      try rw [tk0]
      exact k1 nh1 nh2 nh3
    have nh3 := mt (eq_nat (a := (β.1 0)) (b := 2) tk1 (rfl : (2 : Int32) = nI 2) (by omega) (by omega)).mpr h3
    refine am_if (fun h4 => ?_) (fun h4 => ?_)
    · have nh4 := (eq_nat (a := (β.1 0)) (b := 3) tk1 (rfl : (3 : Int32) = nI 3) (by omega) (by omega)).mp h4
      have tk3 : (((I 30 0 (6 + 18 * b + (6 + l))) + 6) / 2) = nI (((β.2.1 l) + 6) / 2) := by first | exact divE (nI_addE tk0 (rfl : (6 : Int32) = nI 6)) (rfl : (2 : Int32) = nI 2) (by omega) (by omega) (by omega) | (((try rw [tk0])); first | done | exact divE (nI_addE tk0 (rfl : (6 : Int32) = nI 6)) (rfl : (2 : Int32) = nI 2) (by omega) (by omega) (by omega))
      show am_WP (am_psh g (some (.inl (((((I 30 0 (6 + 18 * b + (6 + l))) + 6) / 2))))) :: gs) (d + 3) (mk I X) Q
      try rw [tk3]
      try rw [tk0]
      exact k2 nh1 nh2 nh3 nh4
    have nh4 := mt (eq_nat (a := (β.1 0)) (b := 3) tk1 (rfl : (3 : Int32) = nI 3) (by omega) (by omega)).mpr h4
    refine am_if (fun h5 => ?_) (fun h5 => ?_)
    · have nh5 := (eq_nat (a := (β.1 0)) (b := 4) tk1 (rfl : (4 : Int32) = nI 4) (by omega) (by omega)).mp h5
      have bd : (β.1 1) ≤ 99 := hg.2.1
      have tk4 : I 30 0 (6 + 18 * b + 1) = nI (β.1 1) := (hB 1 (by omega)).1
      refine (c8_of (k := b) (j := 1) hu rfl (by omega)) _ _ _ ?_
      refine am_go 400 ?_
      have tk5 : ((I 30 0 (6 + 18 * b + 1)) / 20) = nI ((β.1 1) / 20) := by first | exact divE tk4 (rfl : (20 : Int32) = nI 20) (by omega) (by omega) (by omega) | (((try rw [tk4])); first | done | exact divE tk4 (rfl : (20 : Int32) = nI 20) (by omega) (by omega) (by omega))
      have tk6 : (wit (((I 30 0 (6 + 18 * b + (6 + l))) - (((I 30 0 (6 + 18 * b + 1)) / 20)))) (99)) = nI ((β.2.1 l) - ((β.1 1) / 20)) := by first | exact witS (m := 99) tk0 tk5 (by omega) (by omega) (by omega) | (((try rw [tk5]); (try rw [tk0]); (try rw [tk4])); first | done | exact witS (m := 99) tk0 tk5 (by omega) (by omega) (by omega))
      refine (c8_within (((I 30 0 (6 + 18 * b + (6 + l))) - (((I 30 0 (6 + 18 * b + 1)) / 20)))) (99)) _ _ _ ?_
      refine am_go 400 ?_
      show am_WP (am_psh g (some (.inl (((wit (((I 30 0 (6 + 18 * b + (6 + l))) - (((I 30 0 (6 + 18 * b + 1)) / 20)))) (99)))))) :: gs) (d + 3) (mk I X) Q
      try rw [tk6]
      try rw [tk5]
      try rw [tk0]
      try rw [tk4]
      exact k3 nh1 nh2 nh3 nh4 nh5
    have nh5 := mt (eq_nat (a := (β.1 0)) (b := 4) tk1 (rfl : (4 : Int32) = nI 4) (by omega) (by omega)).mpr h5
    show am_WP (am_psh g (some (.inl ((I 30 0 (6 + 18 * b + (6 + l)))))) :: gs) (d + 3) (mk I X) Q
    try rw [tk0]
    exact k4 nh1 nh2 nh3 nh4 nh5
  · have nh1 := mt (le_nat (a := 3) (b := l) (rfl : (3 : Int32) = nI 3) hx (by omega) (by omega)).mpr h1
    have tk7 : (wit (((I 30 0 (6 + 18 * b + (6 + l))) - 5)) (99)) = nI ((β.2.1 l) - 5) := by first | exact witS (m := 99) tk0 (rfl : (5 : Int32) = nI 5) (by omega) (by omega) (by omega) | (((try rw [tk0])); first | done | exact witS (m := 99) tk0 (rfl : (5 : Int32) = nI 5) (by omega) (by omega) (by omega))
    refine (c8_within (((I 30 0 (6 + 18 * b + (6 + l))) - 5)) (99)) _ _ _ ?_
    refine am_go 400 ?_
    have bd : (β.1 0) ≤ 5 := hg.1
    have tk8 : I 30 0 (6 + 18 * b + 0) = nI (β.1 0) := (hB 0 (by omega)).1
    refine (c8_of (k := b) (j := 0) hu rfl (by omega)) _ _ _ ?_
    refine am_go 400 ?_
    refine am_if (fun h6 => ?_) (fun h6 => ?_)
    · have nh6 := (eq_nat (a := (β.1 0)) (b := 1) tk8 (rfl : (1 : Int32) = nI 1) (by omega) (by omega)).mp h6
      have tk9 : ((I 30 0 (6 + 18 * b + (6 + l))) + 6) = nI ((β.2.1 l) + 6) := by first | exact (nI_addE tk0 (rfl : (6 : Int32) = nI 6)) | (((try rw [tk0])); first | done | exact (nI_addE tk0 (rfl : (6 : Int32) = nI 6)))
      show am_WP (am_psh g (some (.inl ((((I 30 0 (6 + 18 * b + (6 + l))) + 6))))) :: gs) (d + 3) (mk I X) Q
      try rw [tk9]
      try rw [tk0]
      exact k5 nh1 nh6
    have nh6 := mt (eq_nat (a := (β.1 0)) (b := 1) tk8 (rfl : (1 : Int32) = nI 1) (by omega) (by omega)).mpr h6
    refine am_if (fun h7 => ?_) (fun h7 => ?_)
    · have nh7 := (eq_nat (a := (β.1 0)) (b := 2) tk8 (rfl : (2 : Int32) = nI 2) (by omega) (by omega)).mp h7
      show am_WP (am_psh g (some (.inl (((wit (((I 30 0 (6 + 18 * b + (6 + l))) - 5)) (99)))))) :: gs) (d + 3) (mk I X) Q
      try rw [tk7]
      try rw [tk0]
      exact k6 nh1 nh6 nh7
    have nh7 := mt (eq_nat (a := (β.1 0)) (b := 2) tk8 (rfl : (2 : Int32) = nI 2) (by omega) (by omega)).mpr h7
    refine am_if (fun h8 => ?_) (fun h8 => ?_)
    · have nh8 := (eq_nat (a := (β.1 0)) (b := 3) tk8 (rfl : (3 : Int32) = nI 3) (by omega) (by omega)).mp h8
      have tk10 : (((I 30 0 (6 + 18 * b + (6 + l))) + 6) / 2) = nI (((β.2.1 l) + 6) / 2) := by first | exact divE (nI_addE tk0 (rfl : (6 : Int32) = nI 6)) (rfl : (2 : Int32) = nI 2) (by omega) (by omega) (by omega) | (((try rw [tk0])); first | done | exact divE (nI_addE tk0 (rfl : (6 : Int32) = nI 6)) (rfl : (2 : Int32) = nI 2) (by omega) (by omega) (by omega))
      show am_WP (am_psh g (some (.inl (((((I 30 0 (6 + 18 * b + (6 + l))) + 6) / 2))))) :: gs) (d + 3) (mk I X) Q
      try rw [tk10]
      try rw [tk0]
      exact k7 nh1 nh6 nh7 nh8
    have nh8 := mt (eq_nat (a := (β.1 0)) (b := 3) tk8 (rfl : (3 : Int32) = nI 3) (by omega) (by omega)).mpr h8
    refine am_if (fun h9 => ?_) (fun h9 => ?_)
    · have nh9 := (eq_nat (a := (β.1 0)) (b := 4) tk8 (rfl : (4 : Int32) = nI 4) (by omega) (by omega)).mp h9
      have bd : (β.1 1) ≤ 99 := hg.2.1
      have tk11 : I 30 0 (6 + 18 * b + 1) = nI (β.1 1) := (hB 1 (by omega)).1
      refine (c8_of (k := b) (j := 1) hu rfl (by omega)) _ _ _ ?_
      refine am_go 400 ?_
      have tk12 : ((I 30 0 (6 + 18 * b + 1)) / 20) = nI ((β.1 1) / 20) := by first | exact divE tk11 (rfl : (20 : Int32) = nI 20) (by omega) (by omega) (by omega) | (((try rw [tk11])); first | done | exact divE tk11 (rfl : (20 : Int32) = nI 20) (by omega) (by omega) (by omega))
      have tk13 : (wit ((((wit (((I 30 0 (6 + 18 * b + (6 + l))) - 5)) (99))) - (((I 30 0 (6 + 18 * b + 1)) / 20)))) (99)) = nI (((β.2.1 l) - 5) - ((β.1 1) / 20)) := by first | exact witS (m := 99) tk7 tk12 (by omega) (by omega) (by omega) | (((try rw [tk7]); (try rw [tk12]); (try rw [tk0]); (try rw [tk11])); first | done | exact witS (m := 99) tk7 tk12 (by omega) (by omega) (by omega))
      refine (c8_within ((((wit (((I 30 0 (6 + 18 * b + (6 + l))) - 5)) (99))) - (((I 30 0 (6 + 18 * b + 1)) / 20)))) (99)) _ _ _ ?_
      refine am_go 400 ?_
      show am_WP (am_psh g (some (.inl (((wit ((((wit (((I 30 0 (6 + 18 * b + (6 + l))) - 5)) (99))) - (((I 30 0 (6 + 18 * b + 1)) / 20)))) (99)))))) :: gs) (d + 3) (mk I X) Q
      try rw [tk13]
      try rw [tk7]
      try rw [tk12]
      try rw [tk0]
      try rw [tk11]
      exact k8 nh1 nh6 nh7 nh8 nh9
    have nh9 := mt (eq_nat (a := (β.1 0)) (b := 4) tk8 (rfl : (4 : Int32) = nI 4) (by omega) (by omega)).mpr h9
    show am_WP (am_psh g (some (.inl ((I 30 0 (6 + 18 * b + (6 + l)))))) :: gs) (d + 3) (mk I X) Q
    try rw [tk0]
    exact k9 nh1 nh6 nh7 nh8 nh9
set_option maxRecDepth 100000 in
set_option maxHeartbeats 4000000 in
theorem w_strM_1 {I : Nat → Nat → Nat → Int32} {X : am_Z} {g : am_F} {gs : List am_F} {d : Nat} {Q : Option am_V → am_M → Prop} {b l nt : Nat} {tx : Nat → Tx} {β : Bn} {u x : Int32} (hB : RB (mB (I 30 0) b) β) (hg : GB β) (hN : I 30 0 1 = nI nt) (hn : nt ≤ 14) (hT : ∀ t, t < nt → TxM (I 30 0) t (tx t)) (hG : ∀ t, t < nt → GT (tx t)) (hu : u = nI b) (hb : b < 8) (hx : x = nI l) (hl6 : l < 6) {t : Nat} (hl : lastT tx 0 nt = some t) (k0 : ∀ (I1 : Im), (FrV I I1) → (3 ≤ l) → ((β.1 0) = 1) → am_WP (am_psh g (some (.inl ((nI ((clN ((tv (tx t) (nm3 ((nI (β.2.1 l))) ((nI (β.1 1))) (x)))) 99) + 6))))) :: gs) (d + 3) (mk I1 X) Q) (k1 : ∀ (I1 : Im), (FrV I I1) → (3 ≤ l) → (¬ (β.1 0) = 1) → ((β.1 0) = 2) → am_WP (am_psh g (some (.inl ((nI (clN ((tv (tx t) (nm3 ((nI (β.2.1 l))) ((nI (β.1 1))) (x)))) 99))))) :: gs) (d + 3) (mk I1 X) Q) (k2 : ∀ (I1 : Im), (FrV I I1) → (3 ≤ l) → (¬ (β.1 0) = 1) → (¬ (β.1 0) = 2) → ((β.1 0) = 3) → am_WP (am_psh g (some (.inl ((nI (((clN ((tv (tx t) (nm3 ((nI (β.2.1 l))) ((nI (β.1 1))) (x)))) 99) + 6) / 2))))) :: gs) (d + 3) (mk I1 X) Q) (k3 : ∀ (I1 : Im), (FrV I I1) → (3 ≤ l) → (¬ (β.1 0) = 1) → (¬ (β.1 0) = 2) → (¬ (β.1 0) = 3) → ((β.1 0) = 4) → am_WP (am_psh g (some (.inl ((nI ((clN ((tv (tx t) (nm3 ((nI (β.2.1 l))) ((nI (β.1 1))) (x)))) 99) - ((β.1 1) / 20)))))) :: gs) (d + 3) (mk I1 X) Q) (k4 : ∀ (I1 : Im), (FrV I I1) → (3 ≤ l) → (¬ (β.1 0) = 1) → (¬ (β.1 0) = 2) → (¬ (β.1 0) = 3) → (¬ (β.1 0) = 4) → am_WP (am_psh g (some (.inl ((nI (clN ((tv (tx t) (nm3 ((nI (β.2.1 l))) ((nI (β.1 1))) (x)))) 99))))) :: gs) (d + 3) (mk I1 X) Q) (k5 : ∀ (I1 : Im), (FrV I I1) → (¬ (3 ≤ l)) → ((β.1 0) = 1) → am_WP (am_psh g (some (.inl ((nI ((clN ((tv (tx t) (nm3 ((nI (β.2.1 l))) ((nI (β.1 1))) (x)))) 99) + 6))))) :: gs) (d + 3) (mk I1 X) Q) (k6 : ∀ (I1 : Im), (FrV I I1) → (¬ (3 ≤ l)) → (¬ (β.1 0) = 1) → ((β.1 0) = 2) → am_WP (am_psh g (some (.inl ((nI ((clN ((tv (tx t) (nm3 ((nI (β.2.1 l))) ((nI (β.1 1))) (x)))) 99) - 5))))) :: gs) (d + 3) (mk I1 X) Q) (k7 : ∀ (I1 : Im), (FrV I I1) → (¬ (3 ≤ l)) → (¬ (β.1 0) = 1) → (¬ (β.1 0) = 2) → ((β.1 0) = 3) → am_WP (am_psh g (some (.inl ((nI (((clN ((tv (tx t) (nm3 ((nI (β.2.1 l))) ((nI (β.1 1))) (x)))) 99) + 6) / 2))))) :: gs) (d + 3) (mk I1 X) Q) (k8 : ∀ (I1 : Im), (FrV I I1) → (¬ (3 ≤ l)) → (¬ (β.1 0) = 1) → (¬ (β.1 0) = 2) → (¬ (β.1 0) = 3) → ((β.1 0) = 4) → am_WP (am_psh g (some (.inl ((nI (((clN ((tv (tx t) (nm3 ((nI (β.2.1 l))) ((nI (β.1 1))) (x)))) 99) - 5) - ((β.1 1) / 20)))))) :: gs) (d + 3) (mk I1 X) Q) (k9 : ∀ (I1 : Im), (FrV I I1) → (¬ (3 ≤ l)) → (¬ (β.1 0) = 1) → (¬ (β.1 0) = 2) → (¬ (β.1 0) = 3) → (¬ (β.1 0) = 4) → am_WP (am_psh g (some (.inl ((nI (clN ((tv (tx t) (nm3 ((nI (β.2.1 l))) ((nI (β.1 1))) (x)))) 99))))) :: gs) (d + 3) (mk I1 X) Q) : am_WP (am_entry mX8_strong [.inr (.inr (some (8, 0))), .inl (u), .inl (x)] :: g :: gs) (d + 2) (mk I X) Q := by
  have hg_ := hg
  obtain ⟨hg0, hg1, _, _, _, hgs⟩ := hg_
  have htn := (lastT_s hl).1
  refine am_go 400 ?_
  have bd : (β.2.1 l) ≤ 24 := (hg.2.2.2.2.2 _ (by omega)).1
  have tk0 : I 30 0 (6 + 18 * b + (6 + l)) = nI (β.2.1 l) := (hB l (by omega)).2.1
  refine (c8_of (k := b) (j := (6 + l)) hu (nI_addE (rfl : (6 : Int32) = nI 6) hx) (by omega)) _ _ _ ?_
  refine am_go 400 ?_
  refine (c_counts_1 (q := 0) (rfl : (0 : Int32) = nI 0) (by decide) hN hn hT hG hl) _ _ _ ?_
  refine am_go 400 ?_
  refine am_f (mt (lt_nat (a := t) (b := 0) (rfl : (nI t : Int32) = nI t) (rfl : (0 : Int32) = nI 0) (by omega) (by omega)).mp (by omega)) ?_
  have bd : (β.1 1) ≤ 99 := hg.2.1
  have tk1 : (up3 I 45 0 (115) ((I 30 0 (6 + 18 * b + (6 + l))))) 30 0 (6 + 18 * b + 1) = nI (β.1 1) := by first | exact (hB 1 (by omega)).1 | (((try rw [tk0])); first | done | exact (hB 1 (by omega)).1)
  refine (c8_of (k := b) (j := 1) hu rfl (by omega)) _ _ _ ?_
  refine am_go 400 ?_
  refine (c_worked_0 (I := I) (a := (I 30 0 (6 + 18 * b + (6 + l)))) (b := ((up3 I 45 0 (115) ((I 30 0 (6 + 18 * b + (6 + l))))) 30 0 (6 + 18 * b + 1))) (c := x) (T := tx t) (rfl : (nI t : Int32) = nI t) (by omega) (hT t (by omega)) (hG t (by omega)) (lastT_s hl).2) _ _ _ ?_
  intro I1 p1
  refine am_go 400 ?_
  have tk2 : (wit ((tv (tx t) (nm3 ((I 30 0 (6 + 18 * b + (6 + l)))) (((up3 I 45 0 (115) ((I 30 0 (6 + 18 * b + (6 + l))))) 30 0 (6 + 18 * b + 1))) (x)))) (99)) = nI (clN ((tv (tx t) (nm3 ((nI (β.2.1 l))) ((nI (β.1 1))) (x)))) 99) := by first | exact wit_cl _ 99 (by decide) | (((try rw [tk1]); (try rw [tk0])); first | done | exact wit_cl _ 99 (by decide))
  have bd : (clN ((tv (tx t) (nm3 ((nI (β.2.1 l))) ((nI (β.1 1))) (x)))) 99) ≤ 99 := clN_le _ _ (by decide)
  refine (c8_within ((tv (tx t) (nm3 ((I 30 0 (6 + 18 * b + (6 + l)))) (((up3 I 45 0 (115) ((I 30 0 (6 + 18 * b + (6 + l))))) 30 0 (6 + 18 * b + 1))) (x)))) (99)) _ _ _ ?_
  refine am_go 400 ?_
  refine am_if (fun h1 => ?_) (fun h1 => ?_)
  · have nh1 := (le_nat (a := 3) (b := l) (rfl : (3 : Int32) = nI 3) hx (by omega) (by omega)).mp h1
    have bd : (β.1 0) ≤ 5 := hg.1
    have tk3 : I1 30 0 (6 + 18 * b + 0) = nI (β.1 0) := ((congrFun (congrFun (p1 30 (by decide) (by decide)) _) _).trans ((hB 0 (by omega)).1))
    refine (c8_of (k := b) (j := 0) hu rfl (by omega)) _ _ _ ?_
    refine am_go 400 ?_
    refine am_if (fun h2 => ?_) (fun h2 => ?_)
    · have nh2 := (eq_nat (a := (β.1 0)) (b := 1) tk3 (rfl : (1 : Int32) = nI 1) (by omega) (by omega)).mp h2
      have tk4 : (((wit ((tv (tx t) (nm3 ((I 30 0 (6 + 18 * b + (6 + l)))) (((up3 I 45 0 (115) ((I 30 0 (6 + 18 * b + (6 + l))))) 30 0 (6 + 18 * b + 1))) (x)))) (99))) + 6) = nI ((clN ((tv (tx t) (nm3 ((nI (β.2.1 l))) ((nI (β.1 1))) (x)))) 99) + 6) := by first | exact (nI_addE tk2 (rfl : (6 : Int32) = nI 6)) | (((try rw [tk2]); (try rw [tk1]); (try rw [tk0])); first | done | exact (nI_addE tk2 (rfl : (6 : Int32) = nI 6)))
      show am_WP (am_psh g (some (.inl (((((wit ((tv (tx t) (nm3 ((I 30 0 (6 + 18 * b + (6 + l)))) (((up3 I 45 0 (115) ((I 30 0 (6 + 18 * b + (6 + l))))) 30 0 (6 + 18 * b + 1))) (x)))) (99))) + 6))))) :: gs) (d + 3) (mk I1 X) Q
      try rw [tk4]
      try rw [tk2]
      try rw [tk1]
      try rw [tk0]
      exact k0 I1 p1 nh1 nh2
    have nh2 := mt (eq_nat (a := (β.1 0)) (b := 1) tk3 (rfl : (1 : Int32) = nI 1) (by omega) (by omega)).mpr h2
    refine am_if (fun h3 => ?_) (fun h3 => ?_)
    · have nh3 := (eq_nat (a := (β.1 0)) (b := 2) tk3 (rfl : (2 : Int32) = nI 2) (by omega) (by omega)).mp h3
      show am_WP (am_psh g (some (.inl (((wit ((tv (tx t) (nm3 ((I 30 0 (6 + 18 * b + (6 + l)))) (((up3 I 45 0 (115) ((I 30 0 (6 + 18 * b + (6 + l))))) 30 0 (6 + 18 * b + 1))) (x)))) (99)))))) :: gs) (d + 3) (mk I1 X) Q
      try rw [tk2]
      try rw [tk1]
      try rw [tk0]
      exact k1 I1 p1 nh1 nh2 nh3
    have nh3 := mt (eq_nat (a := (β.1 0)) (b := 2) tk3 (rfl : (2 : Int32) = nI 2) (by omega) (by omega)).mpr h3
    refine am_if (fun h4 => ?_) (fun h4 => ?_)
    · have nh4 := (eq_nat (a := (β.1 0)) (b := 3) tk3 (rfl : (3 : Int32) = nI 3) (by omega) (by omega)).mp h4
      have tk5 : ((((wit ((tv (tx t) (nm3 ((I 30 0 (6 + 18 * b + (6 + l)))) (((up3 I 45 0 (115) ((I 30 0 (6 + 18 * b + (6 + l))))) 30 0 (6 + 18 * b + 1))) (x)))) (99))) + 6) / 2) = nI (((clN ((tv (tx t) (nm3 ((nI (β.2.1 l))) ((nI (β.1 1))) (x)))) 99) + 6) / 2) := by first | exact divE (nI_addE tk2 (rfl : (6 : Int32) = nI 6)) (rfl : (2 : Int32) = nI 2) (by omega) (by omega) (by omega) | (((try rw [tk2]); (try rw [tk1]); (try rw [tk0])); first | done | exact divE (nI_addE tk2 (rfl : (6 : Int32) = nI 6)) (rfl : (2 : Int32) = nI 2) (by omega) (by omega) (by omega))
      show am_WP (am_psh g (some (.inl ((((((wit ((tv (tx t) (nm3 ((I 30 0 (6 + 18 * b + (6 + l)))) (((up3 I 45 0 (115) ((I 30 0 (6 + 18 * b + (6 + l))))) 30 0 (6 + 18 * b + 1))) (x)))) (99))) + 6) / 2))))) :: gs) (d + 3) (mk I1 X) Q
      try rw [tk5]
      try rw [tk2]
      try rw [tk1]
      try rw [tk0]
      exact k2 I1 p1 nh1 nh2 nh3 nh4
    have nh4 := mt (eq_nat (a := (β.1 0)) (b := 3) tk3 (rfl : (3 : Int32) = nI 3) (by omega) (by omega)).mpr h4
    refine am_if (fun h5 => ?_) (fun h5 => ?_)
    · have nh5 := (eq_nat (a := (β.1 0)) (b := 4) tk3 (rfl : (4 : Int32) = nI 4) (by omega) (by omega)).mp h5
      have bd : (β.1 1) ≤ 99 := hg.2.1
      have tk6 : I1 30 0 (6 + 18 * b + 1) = nI (β.1 1) := ((congrFun (congrFun (p1 30 (by decide) (by decide)) _) _).trans ((hB 1 (by omega)).1))
      refine (c8_of (k := b) (j := 1) hu rfl (by omega)) _ _ _ ?_
      refine am_go 400 ?_
      have tk7 : ((I1 30 0 (6 + 18 * b + 1)) / 20) = nI ((β.1 1) / 20) := by first | exact divE tk6 (rfl : (20 : Int32) = nI 20) (by omega) (by omega) (by omega) | (((try rw [tk6])); first | done | exact divE tk6 (rfl : (20 : Int32) = nI 20) (by omega) (by omega) (by omega))
      have tk8 : (wit ((((wit ((tv (tx t) (nm3 ((I 30 0 (6 + 18 * b + (6 + l)))) (((up3 I 45 0 (115) ((I 30 0 (6 + 18 * b + (6 + l))))) 30 0 (6 + 18 * b + 1))) (x)))) (99))) - (((I1 30 0 (6 + 18 * b + 1)) / 20)))) (99)) = nI ((clN ((tv (tx t) (nm3 ((nI (β.2.1 l))) ((nI (β.1 1))) (x)))) 99) - ((β.1 1) / 20)) := by first | exact witS (m := 99) tk2 tk7 (by omega) (by omega) (by omega) | (((try rw [tk2]); (try rw [tk1]); (try rw [tk7]); (try rw [tk0]); (try rw [tk6])); first | done | exact witS (m := 99) tk2 tk7 (by omega) (by omega) (by omega))
      refine (c8_within ((((wit ((tv (tx t) (nm3 ((I 30 0 (6 + 18 * b + (6 + l)))) (((up3 I 45 0 (115) ((I 30 0 (6 + 18 * b + (6 + l))))) 30 0 (6 + 18 * b + 1))) (x)))) (99))) - (((I1 30 0 (6 + 18 * b + 1)) / 20)))) (99)) _ _ _ ?_
      refine am_go 400 ?_
      show am_WP (am_psh g (some (.inl (((wit ((((wit ((tv (tx t) (nm3 ((I 30 0 (6 + 18 * b + (6 + l)))) (((up3 I 45 0 (115) ((I 30 0 (6 + 18 * b + (6 + l))))) 30 0 (6 + 18 * b + 1))) (x)))) (99))) - (((I1 30 0 (6 + 18 * b + 1)) / 20)))) (99)))))) :: gs) (d + 3) (mk I1 X) Q
      try rw [tk8]
      try rw [tk2]
      try rw [tk1]
      try rw [tk7]
      try rw [tk0]
      try rw [tk6]
      exact k3 I1 p1 nh1 nh2 nh3 nh4 nh5
    have nh5 := mt (eq_nat (a := (β.1 0)) (b := 4) tk3 (rfl : (4 : Int32) = nI 4) (by omega) (by omega)).mpr h5
    show am_WP (am_psh g (some (.inl (((wit ((tv (tx t) (nm3 ((I 30 0 (6 + 18 * b + (6 + l)))) (((up3 I 45 0 (115) ((I 30 0 (6 + 18 * b + (6 + l))))) 30 0 (6 + 18 * b + 1))) (x)))) (99)))))) :: gs) (d + 3) (mk I1 X) Q
    try rw [tk2]
    try rw [tk1]
    try rw [tk0]
    exact k4 I1 p1 nh1 nh2 nh3 nh4 nh5
  · have nh1 := mt (le_nat (a := 3) (b := l) (rfl : (3 : Int32) = nI 3) hx (by omega) (by omega)).mpr h1
    have tk9 : (wit ((((wit ((tv (tx t) (nm3 ((I 30 0 (6 + 18 * b + (6 + l)))) (((up3 I 45 0 (115) ((I 30 0 (6 + 18 * b + (6 + l))))) 30 0 (6 + 18 * b + 1))) (x)))) (99))) - 5)) (99)) = nI ((clN ((tv (tx t) (nm3 ((nI (β.2.1 l))) ((nI (β.1 1))) (x)))) 99) - 5) := by first | exact witS (m := 99) tk2 (rfl : (5 : Int32) = nI 5) (by omega) (by omega) (by omega) | (((try rw [tk2]); (try rw [tk1]); (try rw [tk0])); first | done | exact witS (m := 99) tk2 (rfl : (5 : Int32) = nI 5) (by omega) (by omega) (by omega))
    refine (c8_within ((((wit ((tv (tx t) (nm3 ((I 30 0 (6 + 18 * b + (6 + l)))) (((up3 I 45 0 (115) ((I 30 0 (6 + 18 * b + (6 + l))))) 30 0 (6 + 18 * b + 1))) (x)))) (99))) - 5)) (99)) _ _ _ ?_
    refine am_go 400 ?_
    have bd : (β.1 0) ≤ 5 := hg.1
    have tk10 : I1 30 0 (6 + 18 * b + 0) = nI (β.1 0) := ((congrFun (congrFun (p1 30 (by decide) (by decide)) _) _).trans ((hB 0 (by omega)).1))
    refine (c8_of (k := b) (j := 0) hu rfl (by omega)) _ _ _ ?_
    refine am_go 400 ?_
    refine am_if (fun h6 => ?_) (fun h6 => ?_)
    · have nh6 := (eq_nat (a := (β.1 0)) (b := 1) tk10 (rfl : (1 : Int32) = nI 1) (by omega) (by omega)).mp h6
      have tk11 : (((wit ((tv (tx t) (nm3 ((I 30 0 (6 + 18 * b + (6 + l)))) (((up3 I 45 0 (115) ((I 30 0 (6 + 18 * b + (6 + l))))) 30 0 (6 + 18 * b + 1))) (x)))) (99))) + 6) = nI ((clN ((tv (tx t) (nm3 ((nI (β.2.1 l))) ((nI (β.1 1))) (x)))) 99) + 6) := by first | exact (nI_addE tk2 (rfl : (6 : Int32) = nI 6)) | (((try rw [tk2]); (try rw [tk1]); (try rw [tk0])); first | done | exact (nI_addE tk2 (rfl : (6 : Int32) = nI 6)))
      show am_WP (am_psh g (some (.inl (((((wit ((tv (tx t) (nm3 ((I 30 0 (6 + 18 * b + (6 + l)))) (((up3 I 45 0 (115) ((I 30 0 (6 + 18 * b + (6 + l))))) 30 0 (6 + 18 * b + 1))) (x)))) (99))) + 6))))) :: gs) (d + 3) (mk I1 X) Q
      try rw [tk11]
      try rw [tk2]
      try rw [tk1]
      try rw [tk0]
      exact k5 I1 p1 nh1 nh6
    have nh6 := mt (eq_nat (a := (β.1 0)) (b := 1) tk10 (rfl : (1 : Int32) = nI 1) (by omega) (by omega)).mpr h6
    refine am_if (fun h7 => ?_) (fun h7 => ?_)
    · have nh7 := (eq_nat (a := (β.1 0)) (b := 2) tk10 (rfl : (2 : Int32) = nI 2) (by omega) (by omega)).mp h7
      show am_WP (am_psh g (some (.inl (((wit ((((wit ((tv (tx t) (nm3 ((I 30 0 (6 + 18 * b + (6 + l)))) (((up3 I 45 0 (115) ((I 30 0 (6 + 18 * b + (6 + l))))) 30 0 (6 + 18 * b + 1))) (x)))) (99))) - 5)) (99)))))) :: gs) (d + 3) (mk I1 X) Q
      try rw [tk9]
      try rw [tk2]
      try rw [tk1]
      try rw [tk0]
      exact k6 I1 p1 nh1 nh6 nh7
    have nh7 := mt (eq_nat (a := (β.1 0)) (b := 2) tk10 (rfl : (2 : Int32) = nI 2) (by omega) (by omega)).mpr h7
    refine am_if (fun h8 => ?_) (fun h8 => ?_)
    · have nh8 := (eq_nat (a := (β.1 0)) (b := 3) tk10 (rfl : (3 : Int32) = nI 3) (by omega) (by omega)).mp h8
      have tk12 : ((((wit ((tv (tx t) (nm3 ((I 30 0 (6 + 18 * b + (6 + l)))) (((up3 I 45 0 (115) ((I 30 0 (6 + 18 * b + (6 + l))))) 30 0 (6 + 18 * b + 1))) (x)))) (99))) + 6) / 2) = nI (((clN ((tv (tx t) (nm3 ((nI (β.2.1 l))) ((nI (β.1 1))) (x)))) 99) + 6) / 2) := by first | exact divE (nI_addE tk2 (rfl : (6 : Int32) = nI 6)) (rfl : (2 : Int32) = nI 2) (by omega) (by omega) (by omega) | (((try rw [tk2]); (try rw [tk1]); (try rw [tk0])); first | done | exact divE (nI_addE tk2 (rfl : (6 : Int32) = nI 6)) (rfl : (2 : Int32) = nI 2) (by omega) (by omega) (by omega))
      show am_WP (am_psh g (some (.inl ((((((wit ((tv (tx t) (nm3 ((I 30 0 (6 + 18 * b + (6 + l)))) (((up3 I 45 0 (115) ((I 30 0 (6 + 18 * b + (6 + l))))) 30 0 (6 + 18 * b + 1))) (x)))) (99))) + 6) / 2))))) :: gs) (d + 3) (mk I1 X) Q
      try rw [tk12]
      try rw [tk2]
      try rw [tk1]
      try rw [tk0]
      exact k7 I1 p1 nh1 nh6 nh7 nh8
    have nh8 := mt (eq_nat (a := (β.1 0)) (b := 3) tk10 (rfl : (3 : Int32) = nI 3) (by omega) (by omega)).mpr h8
    refine am_if (fun h9 => ?_) (fun h9 => ?_)
    · have nh9 := (eq_nat (a := (β.1 0)) (b := 4) tk10 (rfl : (4 : Int32) = nI 4) (by omega) (by omega)).mp h9
      have bd : (β.1 1) ≤ 99 := hg.2.1
      have tk13 : I1 30 0 (6 + 18 * b + 1) = nI (β.1 1) := ((congrFun (congrFun (p1 30 (by decide) (by decide)) _) _).trans ((hB 1 (by omega)).1))
      refine (c8_of (k := b) (j := 1) hu rfl (by omega)) _ _ _ ?_
      refine am_go 400 ?_
      have tk14 : ((I1 30 0 (6 + 18 * b + 1)) / 20) = nI ((β.1 1) / 20) := by first | exact divE tk13 (rfl : (20 : Int32) = nI 20) (by omega) (by omega) (by omega) | (((try rw [tk13])); first | done | exact divE tk13 (rfl : (20 : Int32) = nI 20) (by omega) (by omega) (by omega))
      have tk15 : (wit ((((wit ((((wit ((tv (tx t) (nm3 ((I 30 0 (6 + 18 * b + (6 + l)))) (((up3 I 45 0 (115) ((I 30 0 (6 + 18 * b + (6 + l))))) 30 0 (6 + 18 * b + 1))) (x)))) (99))) - 5)) (99))) - (((I1 30 0 (6 + 18 * b + 1)) / 20)))) (99)) = nI (((clN ((tv (tx t) (nm3 ((nI (β.2.1 l))) ((nI (β.1 1))) (x)))) 99) - 5) - ((β.1 1) / 20)) := by first | exact witS (m := 99) tk9 tk14 (by omega) (by omega) (by omega) | (((try rw [tk9]); (try rw [tk2]); (try rw [tk1]); (try rw [tk14]); (try rw [tk0]); (try rw [tk13])); first | done | exact witS (m := 99) tk9 tk14 (by omega) (by omega) (by omega))
      refine (c8_within ((((wit ((((wit ((tv (tx t) (nm3 ((I 30 0 (6 + 18 * b + (6 + l)))) (((up3 I 45 0 (115) ((I 30 0 (6 + 18 * b + (6 + l))))) 30 0 (6 + 18 * b + 1))) (x)))) (99))) - 5)) (99))) - (((I1 30 0 (6 + 18 * b + 1)) / 20)))) (99)) _ _ _ ?_
      refine am_go 400 ?_
      show am_WP (am_psh g (some (.inl (((wit ((((wit ((((wit ((tv (tx t) (nm3 ((I 30 0 (6 + 18 * b + (6 + l)))) (((up3 I 45 0 (115) ((I 30 0 (6 + 18 * b + (6 + l))))) 30 0 (6 + 18 * b + 1))) (x)))) (99))) - 5)) (99))) - (((I1 30 0 (6 + 18 * b + 1)) / 20)))) (99)))))) :: gs) (d + 3) (mk I1 X) Q
      try rw [tk15]
      try rw [tk9]
      try rw [tk2]
      try rw [tk1]
      try rw [tk14]
      try rw [tk0]
      try rw [tk13]
      exact k8 I1 p1 nh1 nh6 nh7 nh8 nh9
    have nh9 := mt (eq_nat (a := (β.1 0)) (b := 4) tk10 (rfl : (4 : Int32) = nI 4) (by omega) (by omega)).mpr h9
    show am_WP (am_psh g (some (.inl (((wit ((tv (tx t) (nm3 ((I 30 0 (6 + 18 * b + (6 + l)))) (((up3 I 45 0 (115) ((I 30 0 (6 + 18 * b + (6 + l))))) 30 0 (6 + 18 * b + 1))) (x)))) (99)))))) :: gs) (d + 3) (mk I1 X) Q
    try rw [tk2]
    try rw [tk1]
    try rw [tk0]
    exact k9 I1 p1 nh1 nh6 nh7 nh8 nh9
theorem K_w {f : am_F} {gs : List am_F} {d : Nat} {M : am_M} {Q : Option am_V → am_M → Prop} {a b : Int32} (K : am_WP (am_psh f (some (.inl a)) :: gs) d M Q) (h : a = b) : am_WP (am_psh f (some (.inl b)) :: gs) d M Q := h ▸ K
theorem c_X1_strong {I X d} {c q b l nt : Nat} {tx : Nat → Tx} {β : Bn} {x : Int32} (hq : q = b) (hB : RB (cB I b) β) (hg : GB β) (hTs : TsC I X c nt tx) (hn : nt ≤ 14) (hGT : ∀ t, t < nt → GT (tx t)) (hx : x = nI l) (hl6 : l < 6) : Sw mX1_strong [.inr (.inr (some (1, c))), .inr (.inr (some (0, q))), .inl x] (d + 3) I X (some (.inl (nI (strN nt tx β l)))) (fun I' => FrK I I') := fun g gs Q K => by
  subst hq
  subst hx
  rcases hl : lastT tx 0 nt with _ | t
  · have F0 : FrK I I := fun _ _ => rfl
    refine w_strC_0 hB hg hTs hn rfl hl6 hl ?_ ?_ ?_ ?_ ?_ ?_ ?_ ?_ ?_ ?_
    · intro h0 h1
      refine K_w (K _ (F0)) (congrArg nI ?_)
      unfold strN kdN
      rw [hdN_0 hl]
      repeat (first | rw [if_pos (by omega)] | rw [if_neg (by omega)])
    · intro h0 h1 h2
      refine K_w (K _ (F0)) (congrArg nI ?_)
      unfold strN kdN
      rw [hdN_0 hl]
      repeat (first | rw [if_pos (by omega)] | rw [if_neg (by omega)])
    · intro h0 h1 h2 h3
      refine K_w (K _ (F0)) (congrArg nI ?_)
      unfold strN kdN
      rw [hdN_0 hl]
      repeat (first | rw [if_pos (by omega)] | rw [if_neg (by omega)])
    · intro h0 h1 h2 h3 h4
      refine K_w (K _ (F0)) (congrArg nI ?_)
      unfold strN kdN
      rw [hdN_0 hl]
      repeat (first | rw [if_pos (by omega)] | rw [if_neg (by omega)])
    · intro h0 h1 h2 h3 h4
      refine K_w (K _ (F0)) (congrArg nI ?_)
      unfold strN kdN
      rw [hdN_0 hl]
      repeat (first | rw [if_pos (by omega)] | rw [if_neg (by omega)])
    · intro h0 h1
      refine K_w (K _ (F0)) (congrArg nI ?_)
      unfold strN kdN
      rw [hdN_0 hl]
      repeat (first | rw [if_pos (by omega)] | rw [if_neg (by omega)])
    · intro h0 h1 h2
      refine K_w (K _ (F0)) (congrArg nI ?_)
      unfold strN kdN
      rw [hdN_0 hl]
      repeat (first | rw [if_pos (by omega)] | rw [if_neg (by omega)])
    · intro h0 h1 h2 h3
      refine K_w (K _ (F0)) (congrArg nI ?_)
      unfold strN kdN
      rw [hdN_0 hl]
      repeat (first | rw [if_pos (by omega)] | rw [if_neg (by omega)])
    · intro h0 h1 h2 h3 h4
      refine K_w (K _ (F0)) (congrArg nI ?_)
      unfold strN kdN
      rw [hdN_0 hl]
      repeat (first | rw [if_pos (by omega)] | rw [if_neg (by omega)])
    · intro h0 h1 h2 h3 h4
      refine K_w (K _ (F0)) (congrArg nI ?_)
      unfold strN kdN
      rw [hdN_0 hl]
      repeat (first | rw [if_pos (by omega)] | rw [if_neg (by omega)])
  · obtain ⟨id, hid, hTx⟩ := hTs.2.2 t (lastT_s hl).1
    refine w_strC_1 hB hg hTs hn rfl hl6 hl hid hTx (hGT t (lastT_s hl).1) ?_ ?_ ?_ ?_ ?_ ?_ ?_ ?_ ?_ ?_
    · intro I1 p1 h1 h2
      refine K_w (K _ (p1)) (congrArg nI ?_)
      unfold strN kdN
      rw [hdN_1 hl]
      repeat (first | rw [if_pos (by omega)] | rw [if_neg (by omega)])
    · intro I1 p1 h1 h2 h3
      refine K_w (K _ (p1)) (congrArg nI ?_)
      unfold strN kdN
      rw [hdN_1 hl]
      repeat (first | rw [if_pos (by omega)] | rw [if_neg (by omega)])
    · intro I1 p1 h1 h2 h3 h4
      refine K_w (K _ (p1)) (congrArg nI ?_)
      unfold strN kdN
      rw [hdN_1 hl]
      repeat (first | rw [if_pos (by omega)] | rw [if_neg (by omega)])
    · intro I1 p1 h1 h2 h3 h4 h5
      refine K_w (K _ (p1)) (congrArg nI ?_)
      unfold strN kdN
      rw [hdN_1 hl]
      repeat (first | rw [if_pos (by omega)] | rw [if_neg (by omega)])
    · intro I1 p1 h1 h2 h3 h4 h5
      refine K_w (K _ (p1)) (congrArg nI ?_)
      unfold strN kdN
      rw [hdN_1 hl]
      repeat (first | rw [if_pos (by omega)] | rw [if_neg (by omega)])
    · intro I1 p1 h1 h2
      refine K_w (K _ (p1)) (congrArg nI ?_)
      unfold strN kdN
      rw [hdN_1 hl]
      repeat (first | rw [if_pos (by omega)] | rw [if_neg (by omega)])
    · intro I1 p1 h1 h2 h3
      refine K_w (K _ (p1)) (congrArg nI ?_)
      unfold strN kdN
      rw [hdN_1 hl]
      repeat (first | rw [if_pos (by omega)] | rw [if_neg (by omega)])
    · intro I1 p1 h1 h2 h3 h4
      refine K_w (K _ (p1)) (congrArg nI ?_)
      unfold strN kdN
      rw [hdN_1 hl]
      repeat (first | rw [if_pos (by omega)] | rw [if_neg (by omega)])
    · intro I1 p1 h1 h2 h3 h4 h5
      refine K_w (K _ (p1)) (congrArg nI ?_)
      unfold strN kdN
      rw [hdN_1 hl]
      repeat (first | rw [if_pos (by omega)] | rw [if_neg (by omega)])
    · intro I1 p1 h1 h2 h3 h4 h5
      refine K_w (K _ (p1)) (congrArg nI ?_)
      unfold strN kdN
      rw [hdN_1 hl]
      repeat (first | rw [if_pos (by omega)] | rw [if_neg (by omega)])
theorem c_X8_strong {I X d} {b l nt : Nat} {tx : Nat → Tx} {β : Bn} {u x : Int32} (hB : RB (mB (I 30 0) b) β) (hg : GB β) (hN : I 30 0 1 = nI nt) (hn : nt ≤ 14) (hT : ∀ t, t < nt → TxM (I 30 0) t (tx t)) (hG : ∀ t, t < nt → GT (tx t)) (hu : u = nI b) (hb : b < 8) (hx : x = nI l) (hl6 : l < 6) : Sw mX8_strong [.inr (.inr (some (8, 0))), .inl u, .inl x] (d + 2) I X (some (.inl (nI (strN nt tx β l)))) (fun I' => FrV I I') := fun g gs Q K => by
  subst hx
  rcases hl : lastT tx 0 nt with _ | t
  · have F0 : FrV I I := fun _ _ _ => rfl
    refine w_strM_0 hB hg hN hn hT hG hu hb rfl hl6 hl ?_ ?_ ?_ ?_ ?_ ?_ ?_ ?_ ?_ ?_
    · intro h0 h1
      refine K_w (K _ (F0)) (congrArg nI ?_)
      unfold strN kdN
      rw [hdN_0 hl]
      repeat (first | rw [if_pos (by omega)] | rw [if_neg (by omega)])
    · intro h0 h1 h2
      refine K_w (K _ (F0)) (congrArg nI ?_)
      unfold strN kdN
      rw [hdN_0 hl]
      repeat (first | rw [if_pos (by omega)] | rw [if_neg (by omega)])
    · intro h0 h1 h2 h3
      refine K_w (K _ (F0)) (congrArg nI ?_)
      unfold strN kdN
      rw [hdN_0 hl]
      repeat (first | rw [if_pos (by omega)] | rw [if_neg (by omega)])
    · intro h0 h1 h2 h3 h4
      refine K_w (K _ (F0)) (congrArg nI ?_)
      unfold strN kdN
      rw [hdN_0 hl]
      repeat (first | rw [if_pos (by omega)] | rw [if_neg (by omega)])
    · intro h0 h1 h2 h3 h4
      refine K_w (K _ (F0)) (congrArg nI ?_)
      unfold strN kdN
      rw [hdN_0 hl]
      repeat (first | rw [if_pos (by omega)] | rw [if_neg (by omega)])
    · intro h0 h1
      refine K_w (K _ (F0)) (congrArg nI ?_)
      unfold strN kdN
      rw [hdN_0 hl]
      repeat (first | rw [if_pos (by omega)] | rw [if_neg (by omega)])
    · intro h0 h1 h2
      refine K_w (K _ (F0)) (congrArg nI ?_)
      unfold strN kdN
      rw [hdN_0 hl]
      repeat (first | rw [if_pos (by omega)] | rw [if_neg (by omega)])
    · intro h0 h1 h2 h3
      refine K_w (K _ (F0)) (congrArg nI ?_)
      unfold strN kdN
      rw [hdN_0 hl]
      repeat (first | rw [if_pos (by omega)] | rw [if_neg (by omega)])
    · intro h0 h1 h2 h3 h4
      refine K_w (K _ (F0)) (congrArg nI ?_)
      unfold strN kdN
      rw [hdN_0 hl]
      repeat (first | rw [if_pos (by omega)] | rw [if_neg (by omega)])
    · intro h0 h1 h2 h3 h4
      refine K_w (K _ (F0)) (congrArg nI ?_)
      unfold strN kdN
      rw [hdN_0 hl]
      repeat (first | rw [if_pos (by omega)] | rw [if_neg (by omega)])
  · refine w_strM_1 hB hg hN hn hT hG hu hb rfl hl6 hl ?_ ?_ ?_ ?_ ?_ ?_ ?_ ?_ ?_ ?_
    · intro I1 p1 h1 h2
      refine K_w (K _ (p1)) (congrArg nI ?_)
      unfold strN kdN
      rw [hdN_1 hl]
      repeat (first | rw [if_pos (by omega)] | rw [if_neg (by omega)])
    · intro I1 p1 h1 h2 h3
      refine K_w (K _ (p1)) (congrArg nI ?_)
      unfold strN kdN
      rw [hdN_1 hl]
      repeat (first | rw [if_pos (by omega)] | rw [if_neg (by omega)])
    · intro I1 p1 h1 h2 h3 h4
      refine K_w (K _ (p1)) (congrArg nI ?_)
      unfold strN kdN
      rw [hdN_1 hl]
      repeat (first | rw [if_pos (by omega)] | rw [if_neg (by omega)])
    · intro I1 p1 h1 h2 h3 h4 h5
      refine K_w (K _ (p1)) (congrArg nI ?_)
      unfold strN kdN
      rw [hdN_1 hl]
      repeat (first | rw [if_pos (by omega)] | rw [if_neg (by omega)])
    · intro I1 p1 h1 h2 h3 h4 h5
      refine K_w (K _ (p1)) (congrArg nI ?_)
      unfold strN kdN
      rw [hdN_1 hl]
      repeat (first | rw [if_pos (by omega)] | rw [if_neg (by omega)])
    · intro I1 p1 h1 h2
      refine K_w (K _ (p1)) (congrArg nI ?_)
      unfold strN kdN
      rw [hdN_1 hl]
      repeat (first | rw [if_pos (by omega)] | rw [if_neg (by omega)])
    · intro I1 p1 h1 h2 h3
      refine K_w (K _ (p1)) (congrArg nI ?_)
      unfold strN kdN
      rw [hdN_1 hl]
      repeat (first | rw [if_pos (by omega)] | rw [if_neg (by omega)])
    · intro I1 p1 h1 h2 h3 h4
      refine K_w (K _ (p1)) (congrArg nI ?_)
      unfold strN kdN
      rw [hdN_1 hl]
      repeat (first | rw [if_pos (by omega)] | rw [if_neg (by omega)])
    · intro I1 p1 h1 h2 h3 h4 h5
      refine K_w (K _ (p1)) (congrArg nI ?_)
      unfold strN kdN
      rw [hdN_1 hl]
      repeat (first | rw [if_pos (by omega)] | rw [if_neg (by omega)])
    · intro I1 p1 h1 h2 h3 h4 h5
      refine K_w (K _ (p1)) (congrArg nI ?_)
      unfold strN kdN
      rw [hdN_1 hl]
      repeat (first | rw [if_pos (by omega)] | rw [if_neg (by omega)])

